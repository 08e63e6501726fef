/-! THE REFERENCE: its small methods -/
theorem n_mul (a b : Nat) : nI a * nI b = nI (a * b) := by
  unfold nI
  exact (Int32.ofNat_mul a b).symm
theorem drE {l : List (Int32 × Int32 × Int32)} {k : Nat} (h : k < l.length) : ∃ t, l[k]? = some t ∧ l.drop k = t :: l.drop (k + 1) :=
  ⟨l[k], List.getElem?_eq_getElem h, List.drop_eq_getElem_cons h⟩
theorem pInt_m1 {o : Option Nat} (h : ∀ c, o = some c → c < 2 ^ 31) : (pInt o = -1) = (o = none) := by
  cases o with
  | none => simp [pInt]
  | some c => rw [pInt, n_m1 (h c rfl)]; simp
theorem pInt_n {o : Option Nat} {k : Nat} (hk : k < 2 ^ 31) (h : ∀ c, o = some c → c < 2 ^ 31) : (pInt o = nI k) = (o = some k) := by
  cases o with
  | none =>
    have : (-1 = nI k) = False := eq_false fun q => by have := n_m1 hk; rw [← q] at this; simp at this
    rw [pInt, this]; simp
  | some c => rw [pInt, n_eq (h c rfl) hk]; simp
section
variable {G : Mem} {m : Nat} {S : St}
set_option maxRecDepth 4000 in
theorem r_isIn {d : Nat} {v a b : Int32} {z : Nat} {Q : Rt} : CALL (d + 1) 86 [.int v, .int a, .int b] G z Q = Q (some (.int (bI (a ≤ v ∧ v ≤ b)))) G z := by
  rw [CALL_eq]
  simp only [mxE_86, ent, entL, isL_int, isL_rf, isL_long, locS, List.length_cons, List.length_nil, List.cons_append, List.nil_append, List.replicate_succ, List.replicate_zero, Bool.false_eq_true, if_false, if_true, true_and, and_true, Nat.reduceAdd, Nat.reduceSub, Nat.reduceLeDiff, Nat.zero_le, Nat.le_refl, Nat.zero_add, Nat.add_zero, bI_0, bI_1, bI_n, Nat.reduceEqDiff, false_and, and_false, and_self, e_86_0, e_86_1, e_86_2, e_86_5, e_86_6, e_86_7, e_86_10, e_86_11, e_86_14, e_86_15, nz_0, nz_1]
  unfold bI
  by_cases h1 : a ≤ v
  · by_cases h2 : v ≤ b
    · have h3 : ¬ v < a := by simpa using h1
      have h4 : ¬ b < v := by simpa using h2
      simp [h1, h2, h3, h4]
    · have h3 : ¬ v < a := by simpa using h1
      have h4 : b < v := by simpa using h2
      simp [h1, h2, h3, h4]
  · have h3 : v < a := by simpa using h1
    simp [h1, h3]
set_option maxRecDepth 4000 in
theorem r_isTurn (hM : RM G m S) (hI : Inv S) {d : Nat} {v : Int32} {z : Nat} {Q : Rt} : CALL (d + 2) 87 [va_rf (some m), .int v] G z Q = Q (some (.int (bI ((ix v (sN S 1)).isSome = true)))) G z := by
  rw [CALL_eq]
  simp only [mxE_87, ent, entL, isL_int, isL_rf, isL_long, locS, List.length_cons, List.length_nil, List.cons_append, List.nil_append, List.replicate_succ, List.replicate_zero, Bool.false_eq_true, if_false, if_true, true_and, and_true, Nat.reduceAdd, Nat.reduceSub, Nat.reduceLeDiff, Nat.zero_le, Nat.le_refl, Nat.zero_add, Nat.add_zero, bI_0, bI_1, bI_n, Nat.reduceEqDiff, false_and, and_false, and_self, e_87_0, e_87_1, e_87_2, e_87_3, e_87_6, e_87_7, e_87_8, e_87_11, hM.1, hM.2.1, r_isIn, n_m1' (show sN S 1 < 2 ^ 31 by have := hI.2.1; omega), ix_c (show sN S 1 < 2 ^ 31 by have := hI.2.1; omega)]
set_option maxRecDepth 4000 in
theorem r_isHall (hM : RM G m S) (hI : Inv S) {d : Nat} {v : Int32} {z : Nat} {Q : Rt} : CALL (d + 2) 88 [va_rf (some m), .int v] G z Q = Q (some (.int (bI ((ix v (sN S 2)).isSome = true)))) G z := by
  rw [CALL_eq]
  simp only [mxE_88, ent, entL, isL_int, isL_rf, isL_long, locS, List.length_cons, List.length_nil, List.cons_append, List.nil_append, List.replicate_succ, List.replicate_zero, Bool.false_eq_true, if_false, if_true, true_and, and_true, Nat.reduceAdd, Nat.reduceSub, Nat.reduceLeDiff, Nat.zero_le, Nat.le_refl, Nat.zero_add, Nat.add_zero, bI_0, bI_1, bI_n, Nat.reduceEqDiff, false_and, and_false, and_self, e_88_0, e_88_1, e_88_2, e_88_3, e_88_6, e_88_7, e_88_8, e_88_11, hM.1, hM.2.1, r_isIn, n_m1' (show sN S 2 < 2 ^ 31 by have := hI.2.2.1; omega), ix_c (show sN S 2 < 2 ^ 31 by have := hI.2.2.1; omega)]
theorem e59 (v : Int32) : (v ≤ 59) = (v < 60) := by rw [show (59 : Int32) = nI 60 - 1 from by decide, n_m1' (by decide)]; rfl
set_option maxRecDepth 4000 in
theorem r_isWeek {d : Nat} {v : Int32} {z : Nat} {Q : Rt} : CALL (d + 2) 89 [.int v] G z Q = Q (some (.int (bI ((ix v 60).isSome = true)))) G z := by
  rw [CALL_eq]
  simp only [mxE_89, ent, entL, isL_int, isL_rf, isL_long, locS, List.length_cons, List.length_nil, List.cons_append, List.nil_append, List.replicate_succ, List.replicate_zero, Bool.false_eq_true, if_false, if_true, true_and, and_true, Nat.reduceAdd, Nat.reduceSub, Nat.reduceLeDiff, Nat.zero_le, Nat.le_refl, Nat.zero_add, Nat.add_zero, bI_0, bI_1, bI_n, Nat.reduceEqDiff, false_and, and_false, and_self, e_89_0, e_89_1, e_89_2, e_89_4, e_89_7, r_isIn, e59, w_ix]
set_option maxRecDepth 4000 in
theorem r_one {d : Nat} {p : Prop} [Decidable p] {z : Nat} {Q : Rt} : CALL (d + 1) 90 [.int (bI p)] G z Q = Q (some (.int (bI p))) G z := by
  rw [CALL_eq]
  simp only [mxE_90, ent, entL, isL_int, isL_rf, isL_long, locS, List.length_cons, List.length_nil, List.cons_append, List.nil_append, List.replicate_succ, List.replicate_zero, Bool.false_eq_true, if_false, if_true, true_and, and_true, Nat.reduceAdd, Nat.reduceSub, Nat.reduceLeDiff, Nat.zero_le, Nat.le_refl, Nat.zero_add, Nat.add_zero, bI_0, bI_1, bI_n, Nat.reduceEqDiff, false_and, and_false, and_self, e_90_0, e_90_1, e_90_4, e_90_5, e_90_8, e_90_9]
  unfold bI
  by_cases h : p <;> simp [h]
theorem pl_lt {t w : Nat} (ht : t < 40) (hw : w < 60) : 60 * t + w < 2400 := by omega
set_option maxRecDepth 4000 in
theorem r_hallOf (hM : RM G m S) {d t w : Nat} (ht : t < 40) (hw : w < 60) {z : Nat} {Q : Rt} : CALL (d + 1) 108 [va_rf (some m), .int (nI t), .int (nI w)] G z Q = Q (some (.int (pInt (sP S t w)))) G z := by
  have hm := hM.1
  have hp := pl_lt ht hw
  rw [CALL_eq]
  simp only [mxE_108, ent, entL, isL_int, isL_rf, isL_long, locS, List.length_cons, List.length_nil, List.cons_append, List.nil_append, List.replicate_succ, List.replicate_zero, Bool.false_eq_true, if_false, if_true, true_and, and_true, Nat.reduceAdd, Nat.reduceSub, Nat.reduceLeDiff, Nat.zero_le, Nat.le_refl, Nat.zero_add, Nat.add_zero, bI_0, bI_1, bI_n, Nat.reduceEqDiff, false_and, and_false, and_self, e_108_0, e_108_1, e_108_4, e_108_6, e_108_7, e_108_8, e_108_9, e_108_10, e_108_11, hm, show (60 : Int32) = nI 60 from rfl, n_mul, n_add, n_in hp (by decide), n_cl (show 60 * t + w < 2 ^ 31 by omega), hM.2.2.1.2.2.2.2.2.2.2.2.2.1 t w ht hw, true_or]
set_option maxRecDepth 8000 in
theorem l_inF (hM : RM G m S) (hI : Inv S) {d z t w k : Nat} {R : Rt} (ht : t < 2 ^ 31) (hw : w < 60) (hk : k < 60) (hR : R (some (.int (pInt (frc S t w k)))) G z) : ∀ (n c : Nat), c + n = sN S 3 →
    WP d 103 R 6 [some (va_rf (some m)), some (.int (nI t)), some (.int (nI w)), some (.int (nI k)), some (.int (pInt (inF S t w k c))), some (.int (nI c))] [] G z 0 0 := by
  have hm := hM.1
  have hn := hM.2.1
  have h60 := hI.2.2.2.1
  intro n
  induction n with
  | zero =>
    intro c hc
    rw [e_103_6]
    have hc : c = sN S 3 := by omega
    subst hc
    simp only [ent, entL, isL_int, isL_rf, isL_long, locS, List.length_cons, List.length_nil, List.cons_append, List.nil_append, List.replicate_succ, List.replicate_zero, Bool.false_eq_true, if_false, if_true, true_and, and_true, Nat.reduceAdd, Nat.reduceSub, Nat.reduceLeDiff, Nat.zero_le, Nat.le_refl, Nat.zero_add, Nat.add_zero, bI_0, bI_1, bI_n, Nat.reduceEqDiff, false_and, and_false, and_self, e_103_0, e_103_1, e_103_3, e_103_4, e_103_8, e_103_9, e_103_12, e_103_15, e_103_16, e_103_19, e_103_21, e_103_22, e_103_23, e_103_26, e_103_27, e_103_30, e_103_32, e_103_33, e_103_34, e_103_37, e_103_38, e_103_41, e_103_43, e_103_44, e_103_45, e_103_48, e_103_50, e_103_51, e_103_54, e_103_55, e_103_58, e_103_60, e_103_61, e_103_62, e_103_65, e_103_67, e_103_68, e_103_71, e_103_73, e_103_75, e_103_78, e_103_81, e_103_83, hm, hn, n_le (show sN S 3 < 2 ^ 31 by omega) (show sN S 3 < 2 ^ 31 by omega), Nat.le_refl, if_true]
    exact hR
  | succ n ih =>
    intro c hc
    have hc3 : c < sN S 3 := by omega
    obtain ⟨q1, q2, q3, q4, -⟩ := hM.2.2.2 c hc3
    obtain ⟨i1, i2, i3, i4⟩ := hI.2.2.2.2.2.2.2.1 c hc3
    have h40 := hI.2.1
    have nx := ih (c + 1) (by omega)
    rw [e_103_6]
    simp only [ent, entL, isL_int, isL_rf, isL_long, locS, List.length_cons, List.length_nil, List.cons_append, List.nil_append, List.replicate_succ, List.replicate_zero, Bool.false_eq_true, if_false, if_true, true_and, and_true, Nat.reduceAdd, Nat.reduceSub, Nat.reduceLeDiff, Nat.zero_le, Nat.le_refl, Nat.zero_add, Nat.add_zero, bI_0, bI_1, bI_n, Nat.reduceEqDiff, false_and, and_false, and_self, e_103_0, e_103_1, e_103_3, e_103_4, e_103_8, e_103_9, e_103_12, e_103_15, e_103_16, e_103_19, e_103_21, e_103_22, e_103_23, e_103_26, e_103_27, e_103_30, e_103_32, e_103_33, e_103_34, e_103_37, e_103_38, e_103_41, e_103_43, e_103_44, e_103_45, e_103_48, e_103_50, e_103_51, e_103_54, e_103_55, e_103_58, e_103_60, e_103_61, e_103_62, e_103_65, e_103_67, e_103_68, e_103_71, e_103_73, e_103_75, e_103_78, e_103_81, e_103_83, hm, hn, n_le (show sN S 3 < 2 ^ 31 by omega) (show c < 2 ^ 31 by omega), show ¬ sN S 3 ≤ c by omega, if_false, n_in (show c < 61 by omega) (by decide), n_cl (show c < 2 ^ 31 by omega), q2, q3, q4, n_eq (show sC S 0 c < 2 ^ 31 by omega) ht, n_lt (show k < 2 ^ 31 by omega) (show sC S 2 c < 2 ^ 31 by omega), n_lt (show w < 2 ^ 31 by omega) (show sC S 1 c < 2 ^ 31 by omega), true_or, n_1]
    rw [inF] at nx
    by_cases c1 : sC S 0 c = t
    · by_cases c2 : sC S 2 c ≤ k
      · by_cases c3 : sC S 1 c ≤ w
        · simp only [c1, show ¬ k < sC S 2 c by omega, show ¬ w < sC S 1 c by omega, if_true, if_false]
          cases hb : inF S t w k c with
          | none =>
            rw [hb, if_pos ⟨c1, c2, c3, rfl⟩] at nx
            simp only [pInt, if_true]
            exact nx
          | some b =>
            have hb3 := (inF_lt hb).1
            obtain ⟨-, -, p3, -⟩ := hM.2.2.2 b (by omega)
            obtain ⟨-, j2, -, -⟩ := hI.2.2.2.2.2.2.2.1 b (by omega)
            rw [hb] at nx
            simp only [pInt, n_m1 (show b < 2 ^ 31 by omega), if_false, n_in (show b < 61 by omega) (by decide), n_cl (show b < 2 ^ 31 by omega), p3, n_lt (show sC S 1 c < 2 ^ 31 by omega) (show sC S 1 b < 2 ^ 31 by omega), true_and]
            by_cases c4 : sC S 1 b ≤ sC S 1 c
            · rw [if_pos ⟨c1, c2, c3, by simp [leO, c4]⟩] at nx
              simp only [show ¬ sC S 1 c < sC S 1 b by omega, if_false]
              exact nx
            · rw [if_neg (fun q => by have := q.2.2.2; simp [leO, c4] at this)] at nx
              simp only [show sC S 1 c < sC S 1 b by omega, if_true]
              exact nx
        · rw [if_neg (fun q => c3 q.2.2.1)] at nx
          simp only [c1, show ¬ k < sC S 2 c by omega, show w < sC S 1 c by omega, if_true, if_false]
          exact nx
      · rw [if_neg (fun q => c2 q.2.1)] at nx
        simp only [c1, show k < sC S 2 c by omega, if_true]
        exact nx
    · rw [if_neg (fun q => c1 q.1)] at nx
      simp only [c1, if_false]
      exact nx
set_option maxRecDepth 8000 in
theorem r_inForce (hM : RM G m S) (hI : Inv S) {d z t w k : Nat} {Q : Rt} (ht : t < 2 ^ 31) (hw : w < 60) (hk : k < 60) (hR : Q (some (.int (pInt (frc S t w k)))) G z) : CALL (d + 1) 103 [va_rf (some m), .int (nI t), .int (nI w), .int (nI k)] G z Q := by
  rw [CALL_eq]
  simp only [mxE_103, ent, entL, isL_int, isL_rf, isL_long, locS, List.length_cons, List.length_nil, List.cons_append, List.nil_append, List.replicate_succ, List.replicate_zero, Bool.false_eq_true, if_false, if_true, true_and, and_true, Nat.reduceAdd, Nat.reduceSub, Nat.reduceLeDiff, Nat.zero_le, Nat.le_refl, Nat.zero_add, Nat.add_zero, bI_0, bI_1, bI_n, Nat.reduceEqDiff, false_and, and_false, and_self, e_103_0, e_103_1, e_103_3, e_103_4, e_103_8, e_103_9, e_103_12, e_103_15, e_103_16, e_103_19, e_103_21, e_103_22, e_103_23, e_103_26, e_103_27, e_103_30, e_103_32, e_103_33, e_103_34, e_103_37, e_103_38, e_103_41, e_103_43, e_103_44, e_103_45, e_103_48, e_103_50, e_103_51, e_103_54, e_103_55, e_103_58, e_103_60, e_103_61, e_103_62, e_103_65, e_103_67, e_103_68, e_103_71, e_103_73, e_103_75, e_103_78, e_103_81, e_103_83]
  exact l_inF hM hI ht hw hk hR (sN S 3) 0 (by omega)
theorem ix12 {c k : Nat} (hc : c < 60) (hk : k < 12) : 12 * c + k < 732 := by omega
set_option maxRecDepth 8000 in
theorem l_lastOf (hM : RM G m S) (hI : Inv S) {d z c : Nat} {kd : Int32} {R : Rt} (hc : c < sN S 3) : ∀ (n k : Nat) (acc : Int32), k + n = (sS S c).length → R (some (.int (((sS S c).drop k).foldl (fun v e => if e.1 = kd then e.2.1 else v) acc))) G z →
    WP d 105 R 8 [some (va_rf (some m)), some (.int (nI c)), some (.int kd), some (.int acc), some (.int (nI (12 * c + k)))] [] G z 0 0 := by
  have hm := hM.1
  have h60 := hI.2.2.2.1
  obtain ⟨-, -, -, i4⟩ := hI.2.2.2.2.2.2.2.1 c hc
  obtain ⟨q1, q2, q3, q4, q5⟩ := hM.2.2.2 c hc
  intro n
  induction n with
  | zero =>
    intro k acc hk hr
    rw [e_105_8]
    have hk : k = (sS S c).length := by omega
    subst hk
    simp only [ent, entL, isL_int, isL_rf, isL_long, locS, List.length_cons, List.length_nil, List.cons_append, List.nil_append, List.replicate_succ, List.replicate_zero, Bool.false_eq_true, if_false, if_true, true_and, and_true, Nat.reduceAdd, Nat.reduceSub, Nat.reduceLeDiff, Nat.zero_le, Nat.le_refl, Nat.zero_add, Nat.add_zero, bI_0, bI_1, bI_n, Nat.reduceEqDiff, false_and, and_false, and_self, e_105_0, e_105_1, e_105_2, e_105_4, e_105_5, e_105_6, e_105_9, e_105_10, e_105_13, e_105_15, e_105_17, e_105_18, e_105_19, e_105_20, e_105_23, e_105_24, e_105_25, e_105_26, e_105_29, e_105_30, e_105_33, e_105_35, e_105_36, e_105_37, e_105_40, e_105_41, e_105_44, e_105_46, e_105_47, e_105_48, e_105_51, e_105_54, e_105_55, hm, n_m1 (show c < 2 ^ 31 by omega), n_in (show c < 61 by omega) (by decide), n_cl (show c < 2 ^ 31 by omega), q1, show (12 : Int32) = nI 12 from rfl, n_mul, n_add, n_le (show 12 * c + (sS S c).length < 2 ^ 31 by omega) (show 12 * c + (sS S c).length < 2 ^ 31 by omega), Nat.le_refl, if_true, true_or]
    rw [List.drop_length] at hr
    exact hr
  | succ n ih =>
    intro k acc hk hr
    have hk2 : k < (sS S c).length := by omega
    obtain ⟨e, he, hd⟩ := drE hk2
    obtain ⟨e1, e2, e3⟩ := q5 k e he
    have hx := ix12 (show c < 60 by omega) (show k < 12 by omega)
    rw [hd, List.foldl_cons] at hr
    have nx := ih (k + 1) (if e.1 = kd then e.2.1 else acc) (by omega) hr
    rw [e_105_8]
    simp only [ent, entL, isL_int, isL_rf, isL_long, locS, List.length_cons, List.length_nil, List.cons_append, List.nil_append, List.replicate_succ, List.replicate_zero, Bool.false_eq_true, if_false, if_true, true_and, and_true, Nat.reduceAdd, Nat.reduceSub, Nat.reduceLeDiff, Nat.zero_le, Nat.le_refl, Nat.zero_add, Nat.add_zero, bI_0, bI_1, bI_n, Nat.reduceEqDiff, false_and, and_false, and_self, e_105_0, e_105_1, e_105_2, e_105_4, e_105_5, e_105_6, e_105_9, e_105_10, e_105_13, e_105_15, e_105_17, e_105_18, e_105_19, e_105_20, e_105_23, e_105_24, e_105_25, e_105_26, e_105_29, e_105_30, e_105_33, e_105_35, e_105_36, e_105_37, e_105_40, e_105_41, e_105_44, e_105_46, e_105_47, e_105_48, e_105_51, e_105_54, e_105_55, hm, n_m1 (show c < 2 ^ 31 by omega), n_in (show c < 61 by omega) (by decide), n_cl (show c < 2 ^ 31 by omega), q1, show (12 : Int32) = nI 12 from rfl, n_mul, n_add, n_le (show 12 * c + (sS S c).length < 2 ^ 31 by omega) (show 12 * c + k < 2 ^ 31 by omega), show ¬ 12 * c + (sS S c).length ≤ 12 * c + k by omega, if_false, true_or, n_in hx (by decide), n_cl (show 12 * c + k < 2 ^ 31 by omega), e1, e2, n_1]
    by_cases h : e.1 = kd
    · simp only [h, if_true] at nx ⊢; exact nx
    · simp only [h, if_false] at nx ⊢; exact nx
set_option maxRecDepth 8000 in
theorem r_lastOf (hM : RM G m S) (hI : Inv S) {d z : Nat} {o : Option Nat} {kd : Int32} {Q : Rt} (ho : ∀ c, o = some c → c < sN S 3) (h : Q (some (.int (lastN (stO S o) kd))) G z) : CALL (d + 1) 105 [va_rf (some m), .int (pInt o), .int kd] G z Q := by
  rw [CALL_eq]
  simp only [mxE_105, ent, entL, isL_int, isL_rf, isL_long, locS, List.length_cons, List.length_nil, List.cons_append, List.nil_append, List.replicate_succ, List.replicate_zero, Bool.false_eq_true, if_false, if_true, true_and, and_true, Nat.reduceAdd, Nat.reduceSub, Nat.reduceLeDiff, Nat.zero_le, Nat.le_refl, Nat.zero_add, Nat.add_zero, bI_0, bI_1, bI_n, Nat.reduceEqDiff, false_and, and_false, and_self, e_105_0, e_105_1, e_105_2, e_105_4, e_105_5, e_105_6, e_105_9, e_105_10, e_105_13, e_105_15, e_105_17, e_105_18, e_105_19, e_105_20, e_105_23, e_105_24, e_105_25, e_105_26, e_105_29, e_105_30, e_105_33, e_105_35, e_105_36, e_105_37, e_105_40, e_105_41, e_105_44, e_105_46, e_105_47, e_105_48, e_105_51, e_105_54, e_105_55]
  cases o with
  | none =>
    rw [e_105_8]
    simp only [ent, entL, isL_int, isL_rf, isL_long, locS, List.length_cons, List.length_nil, List.cons_append, List.nil_append, List.replicate_succ, List.replicate_zero, Bool.false_eq_true, if_false, if_true, true_and, and_true, Nat.reduceAdd, Nat.reduceSub, Nat.reduceLeDiff, Nat.zero_le, Nat.le_refl, Nat.zero_add, Nat.add_zero, bI_0, bI_1, bI_n, Nat.reduceEqDiff, false_and, and_false, and_self, e_105_0, e_105_1, e_105_2, e_105_4, e_105_5, e_105_6, e_105_9, e_105_10, e_105_13, e_105_15, e_105_17, e_105_18, e_105_19, e_105_20, e_105_23, e_105_24, e_105_25, e_105_26, e_105_29, e_105_30, e_105_33, e_105_35, e_105_36, e_105_37, e_105_40, e_105_41, e_105_44, e_105_46, e_105_47, e_105_48, e_105_51, e_105_54, e_105_55, pInt, if_true]
    exact h
  | some c =>
    simp only [pInt, show (12 : Int32) = nI 12 from rfl, n_mul]
    exact l_lastOf hM hI (ho c rfl) (sS S c).length 0 0 (by omega) h
set_option maxRecDepth 8000 in
theorem l_tells8 (hM : RM G m S) (hI : Inv S) {d z c : Nat} {kd v : Int32} {R : Rt} (hc : c < sN S 3) : ∀ (n k : Nat) (acc : Bool), k + n = (sS S c).length → R (some (.int (bI ((acc || ((sS S c).drop k).any fun e => decide (e.1 = kd ∧ e.2.1 = v)) = true)))) G z →
    WP d 106 R 9 [some (va_rf (some m)), some (.int (nI c)), some (.int kd), some (.int v), some (.int (bI (acc = true))), some (.int (nI (12 * c + k)))] [] G z 0 0 := by
  have hm := hM.1
  have h60 := hI.2.2.2.1
  obtain ⟨-, -, -, i4⟩ := hI.2.2.2.2.2.2.2.1 c hc
  obtain ⟨q1, q2, q3, q4, q5⟩ := hM.2.2.2 c hc
  intro n
  induction n with
  | zero =>
    intro k acc hk hr
    rw [e_106_9]
    have hk : k = (sS S c).length := by omega
    subst hk
    simp only [ent, entL, isL_int, isL_rf, isL_long, locS, List.length_cons, List.length_nil, List.cons_append, List.nil_append, List.replicate_succ, List.replicate_zero, Bool.false_eq_true, if_false, if_true, true_and, and_true, Nat.reduceAdd, Nat.reduceSub, Nat.reduceLeDiff, Nat.zero_le, Nat.le_refl, Nat.zero_add, Nat.add_zero, bI_0, bI_1, bI_n, Nat.reduceEqDiff, false_and, and_false, and_self, e_106_0, e_106_1, e_106_3, e_106_5, e_106_6, e_106_7, e_106_10, e_106_11, e_106_14, e_106_16, e_106_18, e_106_19, e_106_20, e_106_21, e_106_24, e_106_25, e_106_26, e_106_27, e_106_30, e_106_32, e_106_35, e_106_36, e_106_39, e_106_41, e_106_42, e_106_43, e_106_46, e_106_47, e_106_50, e_106_52, e_106_53, e_106_54, e_106_57, e_106_58, e_106_61, e_106_62, e_106_64, e_106_67, e_106_70, e_106_72, hm, n_m1 (show c < 2 ^ 31 by omega), n_in (show c < 61 by omega) (by decide), n_cl (show c < 2 ^ 31 by omega), q1, show (12 : Int32) = nI 12 from rfl, n_mul, n_add, n_le (show 12 * c + (sS S c).length < 2 ^ 31 by omega) (show 12 * c + (sS S c).length < 2 ^ 31 by omega), Nat.le_refl, if_true, true_or]
    rw [List.drop_length, List.any_nil, Bool.or_false] at hr
    exact hr
  | succ n ih =>
    intro k acc hk hr
    have hk2 : k < (sS S c).length := by omega
    obtain ⟨e, he, hd⟩ := drE hk2
    obtain ⟨e1, e2, e3⟩ := q5 k e he
    have hx := ix12 (show c < 60 by omega) (show k < 12 by omega)
    rw [hd, List.any_cons, ← Bool.or_assoc] at hr
    have nx := ih (k + 1) (acc || decide (e.1 = kd ∧ e.2.1 = v)) (by omega) hr
    rw [e_106_9]
    simp only [ent, entL, isL_int, isL_rf, isL_long, locS, List.length_cons, List.length_nil, List.cons_append, List.nil_append, List.replicate_succ, List.replicate_zero, Bool.false_eq_true, if_false, if_true, true_and, and_true, Nat.reduceAdd, Nat.reduceSub, Nat.reduceLeDiff, Nat.zero_le, Nat.le_refl, Nat.zero_add, Nat.add_zero, bI_0, bI_1, bI_n, Nat.reduceEqDiff, false_and, and_false, and_self, e_106_0, e_106_1, e_106_3, e_106_5, e_106_6, e_106_7, e_106_10, e_106_11, e_106_14, e_106_16, e_106_18, e_106_19, e_106_20, e_106_21, e_106_24, e_106_25, e_106_26, e_106_27, e_106_30, e_106_32, e_106_35, e_106_36, e_106_39, e_106_41, e_106_42, e_106_43, e_106_46, e_106_47, e_106_50, e_106_52, e_106_53, e_106_54, e_106_57, e_106_58, e_106_61, e_106_62, e_106_64, e_106_67, e_106_70, e_106_72, hm, n_m1 (show c < 2 ^ 31 by omega), n_in (show c < 61 by omega) (by decide), n_cl (show c < 2 ^ 31 by omega), q1, show (12 : Int32) = nI 12 from rfl, n_mul, n_add, n_le (show 12 * c + (sS S c).length < 2 ^ 31 by omega) (show 12 * c + k < 2 ^ 31 by omega), show ¬ 12 * c + (sS S c).length ≤ 12 * c + k by omega, if_false, true_or, n_in hx (by decide), n_cl (show 12 * c + k < 2 ^ 31 by omega), e1, e2, n_1]
    cases acc with
    | true =>
      simp only [not_true, if_false, Bool.true_or, bI, if_true] at nx ⊢; exact nx
    | false =>
      by_cases h1 : e.1 = kd
      · by_cases h2 : e.2.1 = v
        · simp only [h1, h2, bI, if_true, Bool.false_or, and_self, decide_true, Bool.false_eq_true, not_false_iff] at nx ⊢; exact nx
        · simp only [h1, h2, bI, if_true, if_false, Bool.false_or, and_false, decide_false, Bool.false_eq_true, not_false_iff] at nx ⊢; exact nx
      · simp only [h1, bI, if_true, if_false, Bool.false_or, false_and, decide_false, Bool.false_eq_true, not_false_iff] at nx ⊢; exact nx
set_option maxRecDepth 8000 in
theorem r_tells (hM : RM G m S) (hI : Inv S) {d z : Nat} {o : Option Nat} {kd v : Int32} {Q : Rt} (ho : ∀ c, o = some c → c < sN S 3) (h : Q (some (.int (bI (tlls (stO S o) kd v = true)))) G z) : CALL (d + 1) 106 [va_rf (some m), .int (pInt o), .int kd, .int v] G z Q := by
  rw [CALL_eq]
  simp only [mxE_106, ent, entL, isL_int, isL_rf, isL_long, locS, List.length_cons, List.length_nil, List.cons_append, List.nil_append, List.replicate_succ, List.replicate_zero, Bool.false_eq_true, if_false, if_true, true_and, and_true, Nat.reduceAdd, Nat.reduceSub, Nat.reduceLeDiff, Nat.zero_le, Nat.le_refl, Nat.zero_add, Nat.add_zero, bI_0, bI_1, bI_n, Nat.reduceEqDiff, false_and, and_false, and_self, e_106_0, e_106_1, e_106_3, e_106_5, e_106_6, e_106_7, e_106_10, e_106_11, e_106_14, e_106_16, e_106_18, e_106_19, e_106_20, e_106_21, e_106_24, e_106_25, e_106_26, e_106_27, e_106_30, e_106_32, e_106_35, e_106_36, e_106_39, e_106_41, e_106_42, e_106_43, e_106_46, e_106_47, e_106_50, e_106_52, e_106_53, e_106_54, e_106_57, e_106_58, e_106_61, e_106_62, e_106_64, e_106_67, e_106_70, e_106_72]
  cases o with
  | none =>
    rw [e_106_9]
    simp only [ent, entL, isL_int, isL_rf, isL_long, locS, List.length_cons, List.length_nil, List.cons_append, List.nil_append, List.replicate_succ, List.replicate_zero, Bool.false_eq_true, if_false, if_true, true_and, and_true, Nat.reduceAdd, Nat.reduceSub, Nat.reduceLeDiff, Nat.zero_le, Nat.le_refl, Nat.zero_add, Nat.add_zero, bI_0, bI_1, bI_n, Nat.reduceEqDiff, false_and, and_false, and_self, e_106_0, e_106_1, e_106_3, e_106_5, e_106_6, e_106_7, e_106_10, e_106_11, e_106_14, e_106_16, e_106_18, e_106_19, e_106_20, e_106_21, e_106_24, e_106_25, e_106_26, e_106_27, e_106_30, e_106_32, e_106_35, e_106_36, e_106_39, e_106_41, e_106_42, e_106_43, e_106_46, e_106_47, e_106_50, e_106_52, e_106_53, e_106_54, e_106_57, e_106_58, e_106_61, e_106_62, e_106_64, e_106_67, e_106_70, e_106_72, pInt, if_true, nz_0]
    exact h
  | some c =>
    simp only [pInt, show (12 : Int32) = nI 12 from rfl, n_mul]
    exact l_tells8 hM hI (ho c rfl) (sS S c).length 0 false (by omega) (by rw [Bool.false_or]; exact h)
theorem hab (x : Int32) : (if 0 ≤ x then x else 0 - x) = ab x := rfl
set_option maxRecDepth 8000 in
theorem l_bars8 (hM : RM G m S) (hI : Inv S) {d z c h1 h2 : Nat} {aw : Int32} {R : Rt} (hc : c < sN S 3) (hh1 : h1 < sN S 2) (hh2 : h2 < sN S 2) : ∀ (n k : Nat) (acc : Bool), k + n = (sS S c).length → R (some (.int (bI ((acc || ((sS S c).drop k).any fun e => decide (e.1 = 0 ∧ mlD S h1 h2 < e.2.1 ∧ aw ≤ e.2.2)) = true)))) G z →
    WP d 107 R 9 [some (va_rf (some m)), some (.int (nI c)), some (.int (nI h1)), some (.int (nI h2)), some (.int aw), some (.int (bI (acc = true))), some (.int (nI (12 * c + k)))] [] G z 0 0 := by
  have hm := hM.1
  have h60 := hI.2.2.2.1
  have h10 := hI.2.2.1
  obtain ⟨-, -, -, i4⟩ := hI.2.2.2.2.2.2.2.1 c hc
  obtain ⟨q1, q2, q3, q4, q5⟩ := hM.2.2.2 c hc
  have hmi := hM.2.2.1.2.2.2.2.2.2.1
  intro n
  induction n with
  | zero =>
    intro k acc hk hr
    rw [e_107_9]
    have hk : k = (sS S c).length := by omega
    subst hk
    simp only [ent, entL, isL_int, isL_rf, isL_long, locS, List.length_cons, List.length_nil, List.cons_append, List.nil_append, List.replicate_succ, List.replicate_zero, Bool.false_eq_true, if_false, if_true, true_and, and_true, Nat.reduceAdd, Nat.reduceSub, Nat.reduceLeDiff, Nat.zero_le, Nat.le_refl, Nat.zero_add, Nat.add_zero, bI_0, bI_1, bI_n, Nat.reduceEqDiff, false_and, and_false, and_self, e_107_0, e_107_1, e_107_3, e_107_5, e_107_6, e_107_7, e_107_10, e_107_11, e_107_14, e_107_16, e_107_18, e_107_19, e_107_20, e_107_21, e_107_24, e_107_25, e_107_26, e_107_27, e_107_30, e_107_32, e_107_35, e_107_36, e_107_39, e_107_41, e_107_42, e_107_45, e_107_46, e_107_49, e_107_50, e_107_51, e_107_52, e_107_55, e_107_56, e_107_57, e_107_58, e_107_61, e_107_62, e_107_65, e_107_67, e_107_68, e_107_71, e_107_73, e_107_74, e_107_77, e_107_79, e_107_80, e_107_83, e_107_84, e_107_87, e_107_88, e_107_90, e_107_93, e_107_96, e_107_98, hm, n_m1 (show c < 2 ^ 31 by omega), n_in (show c < 61 by omega) (by decide), n_cl (show c < 2 ^ 31 by omega), q1, show (12 : Int32) = nI 12 from rfl, n_mul, n_add, n_le (show 12 * c + (sS S c).length < 2 ^ 31 by omega) (show 12 * c + (sS S c).length < 2 ^ 31 by omega), Nat.le_refl, if_true, true_or]
    rw [List.drop_length, List.any_nil, Bool.or_false] at hr
    exact hr
  | succ n ih =>
    intro k acc hk hr
    have hk2 : k < (sS S c).length := by omega
    obtain ⟨e, he, hd⟩ := drE hk2
    obtain ⟨e1, e2, e3⟩ := q5 k e he
    have hx := ix12 (show c < 60 by omega) (show k < 12 by omega)
    rw [hd, List.any_cons, ← Bool.or_assoc] at hr
    have nx := ih (k + 1) (acc || decide (e.1 = 0 ∧ mlD S h1 h2 < e.2.1 ∧ aw ≤ e.2.2)) (by omega) hr
    rw [e_107_9]
    simp only [ent, entL, isL_int, isL_rf, isL_long, locS, List.length_cons, List.length_nil, List.cons_append, List.nil_append, List.replicate_succ, List.replicate_zero, Bool.false_eq_true, if_false, if_true, true_and, and_true, Nat.reduceAdd, Nat.reduceSub, Nat.reduceLeDiff, Nat.zero_le, Nat.le_refl, Nat.zero_add, Nat.add_zero, bI_0, bI_1, bI_n, Nat.reduceEqDiff, false_and, and_false, and_self, e_107_0, e_107_1, e_107_3, e_107_5, e_107_6, e_107_7, e_107_10, e_107_11, e_107_14, e_107_16, e_107_18, e_107_19, e_107_20, e_107_21, e_107_24, e_107_25, e_107_26, e_107_27, e_107_30, e_107_32, e_107_35, e_107_36, e_107_39, e_107_41, e_107_42, e_107_45, e_107_46, e_107_49, e_107_50, e_107_51, e_107_52, e_107_55, e_107_56, e_107_57, e_107_58, e_107_61, e_107_62, e_107_65, e_107_67, e_107_68, e_107_71, e_107_73, e_107_74, e_107_77, e_107_79, e_107_80, e_107_83, e_107_84, e_107_87, e_107_88, e_107_90, e_107_93, e_107_96, e_107_98, hm, n_m1 (show c < 2 ^ 31 by omega), n_in (show c < 61 by omega) (by decide), n_cl (show c < 2 ^ 31 by omega), q1, show (12 : Int32) = nI 12 from rfl, n_mul, n_add, n_le (show 12 * c + (sS S c).length < 2 ^ 31 by omega) (show 12 * c + k < 2 ^ 31 by omega), show ¬ 12 * c + (sS S c).length ≤ 12 * c + k by omega, if_false, true_or, n_in hx (by decide), n_cl (show 12 * c + k < 2 ^ 31 by omega), e1, e2, e3, n_1,
      n_in (show h1 < 10 by omega) (by decide), n_cl (show h1 < 2 ^ 31 by omega), n_in (show h2 < 10 by omega) (by decide), n_cl (show h2 < 2 ^ 31 by omega), hmi, hab]
    rw [show ab (sI S 6 h1 - sI S 6 h2) = mlD S h1 h2 from rfl]
    cases acc with
    | true =>
      simp only [not_true, if_false, Bool.true_or, bI, if_true] at nx ⊢; exact nx
    | false =>
      by_cases g1 : e.1 = 0
      · by_cases g2 : mlD S h1 h2 < e.2.1
        · have g2' : ¬ e.2.1 ≤ mlD S h1 h2 := by rw [not_le']; exact g2
          by_cases g3 : aw ≤ e.2.2
          · have g3' : ¬ e.2.2 < aw := by rw [not_lt']; exact g3
            simp only [g1, g2, g2', g3, g3', bI, if_true, if_false, Bool.false_or, and_self, decide_true, Bool.false_eq_true, not_false_iff] at nx ⊢; exact nx
          · have g3' : e.2.2 < aw := by rw [← not_le']; exact g3
            simp only [g1, g2, g2', g3, g3', bI, if_true, if_false, Bool.false_or, and_false, decide_false, Bool.false_eq_true, not_false_iff] at nx ⊢; exact nx
        · have g2' : e.2.1 ≤ mlD S h1 h2 := by rw [← not_lt']; exact g2
          simp only [g1, g2, g2', bI, if_true, if_false, Bool.false_or, and_false, false_and, decide_false, Bool.false_eq_true, not_false_iff] at nx ⊢; exact nx
      · simp only [g1, bI, if_true, if_false, Bool.false_or, false_and, decide_false, Bool.false_eq_true, not_false_iff] at nx ⊢; exact nx
set_option maxRecDepth 8000 in
theorem r_bars (hM : RM G m S) (hI : Inv S) {d z h1 h2 : Nat} {o : Option Nat} {aw : Int32} {Q : Rt} (ho : ∀ c, o = some c → c < sN S 3) (hh1 : h1 < sN S 2) (hh2 : h2 < sN S 2) (h : Q (some (.int (bI (brs (stO S o) (mlD S h1 h2) aw = true)))) G z) : CALL (d + 1) 107 [va_rf (some m), .int (pInt o), .int (nI h1), .int (nI h2), .int aw] G z Q := by
  rw [CALL_eq]
  simp only [mxE_107, ent, entL, isL_int, isL_rf, isL_long, locS, List.length_cons, List.length_nil, List.cons_append, List.nil_append, List.replicate_succ, List.replicate_zero, Bool.false_eq_true, if_false, if_true, true_and, and_true, Nat.reduceAdd, Nat.reduceSub, Nat.reduceLeDiff, Nat.zero_le, Nat.le_refl, Nat.zero_add, Nat.add_zero, bI_0, bI_1, bI_n, Nat.reduceEqDiff, false_and, and_false, and_self, e_107_0, e_107_1, e_107_3, e_107_5, e_107_6, e_107_7, e_107_10, e_107_11, e_107_14, e_107_16, e_107_18, e_107_19, e_107_20, e_107_21, e_107_24, e_107_25, e_107_26, e_107_27, e_107_30, e_107_32, e_107_35, e_107_36, e_107_39, e_107_41, e_107_42, e_107_45, e_107_46, e_107_49, e_107_50, e_107_51, e_107_52, e_107_55, e_107_56, e_107_57, e_107_58, e_107_61, e_107_62, e_107_65, e_107_67, e_107_68, e_107_71, e_107_73, e_107_74, e_107_77, e_107_79, e_107_80, e_107_83, e_107_84, e_107_87, e_107_88, e_107_90, e_107_93, e_107_96, e_107_98]
  cases o with
  | none =>
    rw [e_107_9]
    simp only [ent, entL, isL_int, isL_rf, isL_long, locS, List.length_cons, List.length_nil, List.cons_append, List.nil_append, List.replicate_succ, List.replicate_zero, Bool.false_eq_true, if_false, if_true, true_and, and_true, Nat.reduceAdd, Nat.reduceSub, Nat.reduceLeDiff, Nat.zero_le, Nat.le_refl, Nat.zero_add, Nat.add_zero, bI_0, bI_1, bI_n, Nat.reduceEqDiff, false_and, and_false, and_self, e_107_0, e_107_1, e_107_3, e_107_5, e_107_6, e_107_7, e_107_10, e_107_11, e_107_14, e_107_16, e_107_18, e_107_19, e_107_20, e_107_21, e_107_24, e_107_25, e_107_26, e_107_27, e_107_30, e_107_32, e_107_35, e_107_36, e_107_39, e_107_41, e_107_42, e_107_45, e_107_46, e_107_49, e_107_50, e_107_51, e_107_52, e_107_55, e_107_56, e_107_57, e_107_58, e_107_61, e_107_62, e_107_65, e_107_67, e_107_68, e_107_71, e_107_73, e_107_74, e_107_77, e_107_79, e_107_80, e_107_83, e_107_84, e_107_87, e_107_88, e_107_90, e_107_93, e_107_96, e_107_98, pInt, if_true, nz_0]
    exact h
  | some c =>
    simp only [pInt, show (12 : Int32) = nI 12 from rfl, n_mul]
    exact l_bars8 hM hI (ho c rfl) hh1 hh2 (sS S c).length 0 false (by omega) (by rw [Bool.false_or]; exact h)
def farO (S : St) (t h : Nat) (o : Option Nat) : Bool := match o with
  | none => false
  | some w => farS S t h w
set_option maxRecDepth 8000 in
theorem r_far (hM : RM G m S) (hI : Inv S) {d z t h : Nat} {v : Int32} (ht : t < sN S 1) (hh : h < sN S 2) {Q : Rt} (hq : Q (some (.int (bI (farO S t h (ix v 60) = true)))) G z) : CALL (d + 3) 109 [va_rf (some m), .int (nI t), .int (nI h), .int v] G z Q := by
  have hm := hM.1
  have h40 := hI.2.1
  have h10 := hI.2.2.1
  have hmi := hM.2.2.1.2.2.2.2.2.2.1
  rw [CALL_eq]
  simp only [mxE_109, ent, entL, isL_int, isL_rf, isL_long, locS, List.length_cons, List.length_nil, List.cons_append, List.nil_append, List.replicate_succ, List.replicate_zero, Bool.false_eq_true, if_false, if_true, true_and, and_true, Nat.reduceAdd, Nat.reduceSub, Nat.reduceLeDiff, Nat.zero_le, Nat.le_refl, Nat.zero_add, Nat.add_zero, bI_0, bI_1, bI_n, Nat.reduceEqDiff, false_and, and_false, and_self, e_109_0, e_109_1, e_109_4, e_109_7, e_109_8, e_109_9, e_109_10, e_109_13, e_109_14, e_109_17, e_109_18, e_109_21, e_109_22, e_109_23, e_109_24, e_109_27, e_109_28, e_109_29, e_109_32, e_109_33, e_109_34, e_109_35, e_109_38, e_109_41, e_109_44, e_109_45, e_109_48, e_109_49, hm, r_isWeek]
  cases hv : ix v 60 with
  | none => rw [hv] at hq; simp only [Option.isSome_none, Bool.false_eq_true, not_false_iff, if_true, nz_0, true_and]; exact hq
  | some w =>
    rw [hv] at hq
    obtain ⟨hw, rfl⟩ := ix_s (by decide) hv
    simp only [Option.isSome_some, not_true, if_false, r_hallOf hM (show t < 40 by omega) hw, ent, entL, isL_int, isL_rf, isL_long, locS, List.length_cons, List.length_nil, List.cons_append, List.nil_append, List.replicate_succ, List.replicate_zero, Bool.false_eq_true, if_false, if_true, true_and, and_true, Nat.reduceAdd, Nat.reduceSub, Nat.reduceLeDiff, Nat.zero_le, Nat.le_refl, Nat.zero_add, Nat.add_zero, bI_0, bI_1, bI_n, Nat.reduceEqDiff, false_and, and_false, and_self, e_109_0, e_109_1, e_109_4, e_109_7, e_109_8, e_109_9, e_109_10, e_109_13, e_109_14, e_109_17, e_109_18, e_109_21, e_109_22, e_109_23, e_109_24, e_109_27, e_109_28, e_109_29, e_109_32, e_109_33, e_109_34, e_109_35, e_109_38, e_109_41, e_109_44, e_109_45, e_109_48, e_109_49, hm]
    cases hp : sP S t w with
    | none => simp only [farO, farS, hp] at hq; simp only [pInt, if_true, nz_0, true_and]; exact hq
    | some h' =>
      simp only [farO, farS, hp] at hq
      have hh' := (hI.2.2.2.2.2.2.1 t w h' hp).2
      simp only [pInt, n_m1 (show h' < 2 ^ 31 by omega), if_false, n_in (show h' < 10 by omega) (by decide), n_cl (show h' < 2 ^ 31 by omega), n_in (show h < 10 by omega) (by decide), n_cl (show h < 2 ^ 31 by omega), hmi, hab, true_or, true_and]
      rw [show ab (sI S 6 h' - sI S 6 h) = mlD S h' h from rfl]
      by_cases g : 150 < mlD S h' h
      · have g' : ¬ mlD S h' h ≤ 150 := by rw [not_le']; exact g
        simp only [g, decide_true, bI, if_true] at hq
        simp only [g', if_false, nz_1, true_and]; exact hq
      · have g' : mlD S h' h ≤ 150 := by rw [← not_lt']; exact g
        simp only [g, decide_false, bI, if_true, if_false, Bool.false_eq_true] at hq
        simp only [g', if_true, nz_0, true_and]; exact hq
set_option maxRecDepth 4000 in
theorem r_one1 {d z : Nat} {Q : Rt} : CALL (d + 1) 90 [.int 1] G z Q = Q (some (.int 1)) G z := r_one (p := True)
theorem r_one0 {d z : Nat} {Q : Rt} : CALL (d + 1) 90 [.int 0] G z Q = Q (some (.int 0)) G z := r_one (p := False)
def blP (S : St) (h w k : Nat) : List Nat := (List.range k).filter fun t => decide (sP S t w = some h)
theorem blP_s {h w k : Nat} : blP S h w (k + 1) = blP S h w k ++ (if sP S k w = some h then [k] else []) := by
  unfold blP
  rw [filt_succ]
  simp only [decide_eq_true_eq]
set_option maxRecDepth 8000 in
theorem l_many (hM : RM G m S) (hI : Inv S) {d z h w : Nat} {R : Rt} (hh : h < sN S 2) (hw : w < 60) (hR : R (some (.int (nI (bl S h w).length))) G z) : ∀ (n k : Nat), k + n = sN S 1 →
    WP (d + 1) 111 R 5 [some (va_rf (some m)), some (.int (nI h)), some (.int (nI w)), some (.int (nI (blP S h w k).length)), some (.int (nI k))] [] G z 0 0 := by
  have hm := hM.1
  have hn := hM.2.1
  have h40 := hI.2.1
  have h10 := hI.2.2.1
  intro n
  induction n with
  | zero =>
    intro k hk
    have hk : k = sN S 1 := by omega
    subst hk
    rw [e_111_5]
    simp only [ent, entL, isL_int, isL_rf, isL_long, locS, List.length_cons, List.length_nil, List.cons_append, List.nil_append, List.replicate_succ, List.replicate_zero, Bool.false_eq_true, if_false, if_true, true_and, and_true, Nat.reduceAdd, Nat.reduceSub, Nat.reduceLeDiff, Nat.zero_le, Nat.le_refl, Nat.zero_add, Nat.add_zero, bI_0, bI_1, bI_n, Nat.reduceEqDiff, false_and, and_false, and_self, e_111_0, e_111_1, e_111_2, e_111_3, e_111_7, e_111_8, e_111_11, e_111_14, e_111_15, e_111_16, e_111_18, e_111_19, e_111_22, e_111_23, e_111_26, e_111_27, e_111_30, e_111_31, e_111_34, e_111_35, e_111_36, e_111_39, e_111_42, e_111_43, hm, hn, n_le (show sN S 1 < 2 ^ 31 by omega) (show sN S 1 < 2 ^ 31 by omega), Nat.le_refl, if_true]
    exact hR
  | succ n ih =>
    intro k hk
    have nx := ih (k + 1) (by omega)
    rw [e_111_5]
    simp only [ent, entL, isL_int, isL_rf, isL_long, locS, List.length_cons, List.length_nil, List.cons_append, List.nil_append, List.replicate_succ, List.replicate_zero, Bool.false_eq_true, if_false, if_true, true_and, and_true, Nat.reduceAdd, Nat.reduceSub, Nat.reduceLeDiff, Nat.zero_le, Nat.le_refl, Nat.zero_add, Nat.add_zero, bI_0, bI_1, bI_n, Nat.reduceEqDiff, false_and, and_false, and_self, e_111_0, e_111_1, e_111_2, e_111_3, e_111_7, e_111_8, e_111_11, e_111_14, e_111_15, e_111_16, e_111_18, e_111_19, e_111_22, e_111_23, e_111_26, e_111_27, e_111_30, e_111_31, e_111_34, e_111_35, e_111_36, e_111_39, e_111_42, e_111_43, hm, hn, n_le (show sN S 1 < 2 ^ 31 by omega) (show k < 2 ^ 31 by omega), show ¬ sN S 1 ≤ k by omega, if_false, r_hallOf hM (show k < 40 by omega) hw, pInt_n (show h < 2 ^ 31 by omega) (fun c hc => by have := (hI.2.2.2.2.2.2.1 k w c hc).2; omega), r_one1, r_one0, n_1]
    rw [blP_s, List.length_append] at nx
    by_cases hp : sP S k w = some h
    · simp only [hp, if_true, List.length_singleton] at nx ⊢; exact nx
    · simp only [hp, if_false, List.length_nil, Nat.add_zero] at nx ⊢
      rw [show nI (blP S h w k).length + 0 = nI (blP S h w k).length by simp]
      exact nx
set_option maxRecDepth 8000 in
theorem r_many (hM : RM G m S) (hI : Inv S) {d z h w : Nat} {Q : Rt} (hh : h < sN S 2) (hw : w < 60) (hR : Q (some (.int (nI (bl S h w).length))) G z) : CALL (d + 2) 111 [va_rf (some m), .int (nI h), .int (nI w)] G z Q := by
  rw [CALL_eq]
  simp only [mxE_111, ent, entL, isL_int, isL_rf, isL_long, locS, List.length_cons, List.length_nil, List.cons_append, List.nil_append, List.replicate_succ, List.replicate_zero, Bool.false_eq_true, if_false, if_true, true_and, and_true, Nat.reduceAdd, Nat.reduceSub, Nat.reduceLeDiff, Nat.zero_le, Nat.le_refl, Nat.zero_add, Nat.add_zero, bI_0, bI_1, bI_n, Nat.reduceEqDiff, false_and, and_false, and_self, e_111_0, e_111_1, e_111_2, e_111_3, e_111_7, e_111_8, e_111_11, e_111_14, e_111_15, e_111_16, e_111_18, e_111_19, e_111_22, e_111_23, e_111_26, e_111_27, e_111_30, e_111_31, e_111_34, e_111_35, e_111_36, e_111_39, e_111_42, e_111_43]
  exact l_many hM hI hh hw hR (sN S 1) 0 (by omega)
end
