/-! what would bar a booking -/
def mlD (S : St) (h' h : Nat) : Int32 := ab (sI S 6 h' - sI S 6 h)
def awy (w' w : Nat) : Int32 := ab (nI w' - nI w)
def farS (S : St) (t h w' : Nat) : Bool := match sP S t w' with
  | none => false
  | some h' => decide (150 < mlD S h' h)
def fiveS (S : St) (t h w : Nat) (lst : List (Int32 × Int32 × Int32)) (w' : Nat) : Bool := match sP S t w' with
  | none => false
  | some h' => brs lst (mlD S h' h) (awy w' w)
def sixS (S : St) (t h w k w' : Nat) : Bool := match sP S t w' with
  | none => false
  | some h' => brs (stO S (frc S t w' k)) (mlD S h' h) (awy w' w)
def nineS (S : St) (t h w w' : Nat) : Bool := decide (sP S t w' = some h ∧ w' < w + 8 ∧ w < w' + 8)
def ownS (S : St) (t w : Nat) : List (Int32 × Int32 × Int32) := stO S (frc S t w (sN S 0))
def whyB (S : St) (t h w : Nat) : Int32 :=
  if (bl S h w).any (fun t' => decide (sI S 2 t' = sI S 2 t)) = true then 7
  else if (bl S h w).any (fun t' => apS S (stO S (frc S t' w (sN S 0))) t || apS S (ownS S t w) t') = true then 8
  else if (List.range 60).any (nineS S t h w) = true then 9
  else if 9 ≤ (bl S h w).length then 10
  else if sI S 8 h < sumL (sI S 0) (bl S h w) + sI S 0 t then 11 else 0
def whyS (S : St) (t h w : Nat) : Int32 :=
  if (sP S t w).isSome = true then 2
  else if (decide (0 < w) && farS S t h (w - 1)) = true ∨ (decide (w + 1 < 60) && farS S t h (w + 1)) = true then 3
  else if tlls (ownS S t w) 3 (nI h) = true then 4
  else if (List.range 60).any (fiveS S t h w (ownS S t w)) = true then 5
  else if (List.range 60).any (sixS S t h w (sN S 0)) = true then 6
  else whyB S t h w
theorem anyR_from (p : Nat → Bool) {n k : Nat} (h : k < n) : (List.range' k (n - k)).any p = (p k || (List.range' (k + 1) (n - (k + 1))).any p) := by
  rw [show n - k = (n - (k + 1)) + 1 by omega, List.range'_succ, List.any_cons]
theorem anyR_0 (p : Nat → Bool) (n : Nat) : (List.range' 0 (n - 0)).any p = (List.range n).any p := by
  rw [List.range_eq_range']; rfl
theorem anyR_n (p : Nat → Bool) (n : Nat) : (List.range' n (n - n)).any p = false := by simp
section X
variable {G : Mem} {x : Nat} {ta ha ca : Nat → Nat} {S : St} {l : List Nat}
theorem w60 {k : Nat} (h : k ≤ 60) : ((60 : Int32) ≤ nI k) = (60 ≤ k) := by
  rw [show (60 : Int32) = nI 60 from rfl]; exact n_le (by decide) (by omega)
set_option maxRecDepth 8000 in
theorem l_soon (hX : RX G x ta ha ca S) (hI : Inv S) {d z i h w : Nat} (hi : i < sN S 1) (hh : h < sN S 2) (hw : w < 60) {R : Rt} : ∀ (n k : Nat), k + n = 15 → R (some (.int (bI ((List.range' k (15 - k)).any (fun q => decide (7 ≤ w + q ∧ w + q - 7 < 60 ∧ sP S i (w + q - 7) = some h)) = true)))) G z → WP (d + 2) 46 R 7 [some (va_rf (some (ta i))), some (va_rf (some (ha h))), some (.int (nI w)), some (.int (nI (w + k) - nI 7))] [] G z 0 0
  | 0, k, hk, hr => by
    have : k = 15 := by omega
    subst this
    have e : (nI w + 8 ≤ nI (w + 15) - nI 7) = True := eq_true (by rw [n_sub (by omega), show (8 : Int32) = nI 8 from rfl, n_add]; exact nI_le (by omega) (by omega))
    rw [e_46_7]
    simp only [ent, entL, isL_int, isL_rf, isL_long, locS, List.length_cons, List.length_nil, List.cons_append, List.nil_append, List.replicate_succ, List.replicate_zero, Bool.false_eq_true, if_false, if_true, true_and, and_true, Nat.reduceAdd, Nat.reduceSub, Nat.reduceLeDiff, Nat.zero_le, Nat.le_refl, Nat.zero_add, Nat.add_zero, bI_0, bI_1, bI_n, Nat.reduceEqDiff, false_and, and_false, and_self, e_46_0, e_46_1, e_46_3, e_46_4, e_46_5, e_46_6, e_46_8, e_46_9, e_46_11, e_46_12, e_46_15, e_46_16, e_46_17, e_46_20, e_46_21, e_46_24, e_46_25, e_46_26, e_46_29, e_46_32, e_46_33, e, nz_0]
    rw [anyR_n] at hr
    exact hr
  | n + 1, k, hk, hr => by
    have e : (nI w + 8 ≤ nI (w + k) - nI 7) = False := eq_false (by
      rw [show (8 : Int32) = nI 8 from rfl, n_add, i_le, pk_sub_toInt (by omega) (by omega), nI_toInt (by omega)]; omega)
    have e1 : nI (w + k) - nI 7 + 1 = nI (w + (k + 1)) - nI 7 := by
      rw [show w + (k + 1) = (w + k) + 1 by omega, ← n_1 (w + k), Int32.sub_eq_add_neg, Int32.sub_eq_add_neg, Int32.add_assoc, Int32.add_assoc, Int32.add_comm (-nI 7) 1]
    obtain ⟨-, -, t3, -, -, -, -, -, -, t10, t11, t12, -, -, -, t16⟩ := hX.2.2.1 i hi
    rw [e_46_7]
    rw [anyR_from _ (by omega)] at hr
    simp only [ent, entL, isL_int, isL_rf, isL_long, locS, List.length_cons, List.length_nil, List.cons_append, List.nil_append, List.replicate_succ, List.replicate_zero, Bool.false_eq_true, if_false, if_true, true_and, and_true, Nat.reduceAdd, Nat.reduceSub, Nat.reduceLeDiff, Nat.zero_le, Nat.le_refl, Nat.zero_add, Nat.add_zero, bI_0, bI_1, bI_n, Nat.reduceEqDiff, false_and, and_false, and_self, e_46_0, e_46_1, e_46_3, e_46_4, e_46_5, e_46_6, e_46_8, e_46_9, e_46_11, e_46_12, e_46_15, e_46_16, e_46_17, e_46_20, e_46_21, e_46_24, e_46_25, e_46_26, e_46_29, e_46_32, e_46_33, e, t3, s_hallIn0 t3 t10 t11 t12, e1, nz_1]
    by_cases hq : 7 ≤ w + k ∧ w + k - 7 < 60
    · have e2 : nI (w + k) - nI 7 = nI (w + k - 7) := n_sub hq.1
      simp only [e2, w_ok hq.2, if_true, n_cl (show w + k - 7 < 2 ^ 31 by omega), t16 _ hq.2, map_ha hX hI hh]
      by_cases hp : sP S i (w + k - 7) = some h
      · simp only [hq, hp, and_self, decide_true, Bool.true_or, if_true] at hr ⊢
        exact hr
      · simp only [hp, and_false, decide_false, Bool.false_or, if_false] at hr ⊢
        exact l_soon hX hI hi hh hw n (k + 1) (by omega) hr
    · have e2 : (0 ≤ nI (w + k) - nI 7 ∧ nI (w + k) - nI 7 < 60) = False := by
        refine eq_false fun q => hq ?_
        rw [i_le, i_lt, pk_sub_toInt (by omega) (by omega)] at q
        have e3 : (0 : Int32).toInt = 0 := by decide
        have e4 : (60 : Int32).toInt = 60 := by decide
        omega
      have e5 : decide (7 ≤ w + k ∧ w + k - 7 < 60 ∧ sP S i (w + k - 7) = some h) = false := decide_eq_false (fun q => hq ⟨q.1, q.2.1⟩)
      rw [e5, Bool.false_or] at hr
      simp only [e2, if_false, reduceCtorEq]
      exact l_soon hX hI hi hh hw n (k + 1) (by omega) hr
theorem soon_eq {i h w : Nat} (hw : w < 60) : (List.range' 0 (15 - 0)).any (fun q => decide (7 ≤ w + q ∧ w + q - 7 < 60 ∧ sP S i (w + q - 7) = some h)) = (List.range 60).any (nineS S i h w) := by
  rw [anyR_0, Bool.eq_iff_iff, List.any_eq_true, List.any_eq_true]
  simp only [List.mem_range, decide_eq_true_eq, nineS]
  constructor
  · rintro ⟨q, h1, h2, h3, h4⟩
    exact ⟨w + q - 7, h3, h4, by omega, by omega⟩
  · rintro ⟨w', h1, h2, h3, h4⟩
    exact ⟨w' + 7 - w, by omega, by omega, by omega, by rw [show w + (w' + 7 - w) - 7 = w' by omega]; exact h2⟩
set_option maxRecDepth 8000 in
theorem s_soon (hX : RX G x ta ha ca S) (hI : Inv S) {d z i h w : Nat} (hi : i < sN S 1) (hh : h < sN S 2) (hw : w < 60) {Q : Rt} (hr : Q (some (.int (bI ((List.range 60).any (nineS S i h w) = true)))) G z) : CALL (d + 3) 46 [va_rf (some (ta i)), va_rf (some (ha h)), .int (nI w)] G z Q := by
  have e : nI w - 8 + 1 = nI (w + 0) - nI 7 := by
    rw [Nat.add_zero, Int32.sub_eq_add_neg, Int32.sub_eq_add_neg, Int32.add_assoc]
    rfl
  rw [CALL_eq]
  simp only [mxE_46, ent, entL, isL_int, isL_rf, isL_long, locS, List.length_cons, List.length_nil, List.cons_append, List.nil_append, List.replicate_succ, List.replicate_zero, Bool.false_eq_true, if_false, if_true, true_and, and_true, Nat.reduceAdd, Nat.reduceSub, Nat.reduceLeDiff, Nat.zero_le, Nat.le_refl, Nat.zero_add, Nat.add_zero, bI_0, bI_1, bI_n, Nat.reduceEqDiff, false_and, and_false, and_self, e_46_0, e_46_1, e_46_3, e_46_4, e_46_5, e_46_6, e_46_8, e_46_9, e_46_11, e_46_12, e_46_15, e_46_16, e_46_17, e_46_20, e_46_21, e_46_24, e_46_25, e_46_26, e_46_29, e_46_32, e_46_33]
  rw [Nat.add_zero] at e
  rw [e]
  refine l_soon hX hI hi hh hw 15 0 (by omega) ?_
  rw [soon_eq hw]
  exact hr
set_option maxRecDepth 8000 in
theorem s_isOpen (hX : RX G x ta ha ca S) {d z : Nat} {v : Int32} {Q : Rt} : CALL (d + 1) 70 [va_rf (some x), .int v] G z Q = Q (some (.int (bI (nI (sN S 0) ≤ v ∧ v < 60)))) G z := by
  have hs := hX.1
  have hn := hX.2.1
  rw [CALL_eq]
  simp only [mxE_70, ent, entL, isL_int, isL_rf, isL_long, locS, List.length_cons, List.length_nil, List.cons_append, List.nil_append, List.replicate_succ, List.replicate_zero, Bool.false_eq_true, if_false, if_true, true_and, and_true, Nat.reduceAdd, Nat.reduceSub, Nat.reduceLeDiff, Nat.zero_le, Nat.le_refl, Nat.zero_add, Nat.add_zero, bI_0, bI_1, bI_n, Nat.reduceEqDiff, false_and, and_false, and_self, e_70_0, e_70_1, e_70_2, e_70_5, e_70_8, e_70_9, e_70_11, e_70_14, e_70_15, e_70_18, e_70_19, hs, hn, nz_0, nz_1]
  unfold bI
  by_cases h1 : v < nI (sN S 0)
  · have h3 : ¬ nI (sN S 0) ≤ v := by simpa using h1
    simp [h1, h3]
  · have h3 : nI (sN S 0) ≤ v := by simpa using h1
    by_cases h2 : 60 ≤ v
    · have h4 : ¬ v < 60 := by simpa using h2
      simp [h1, h2, h3, h4]
    · have h4 : v < 60 := by simpa using h2
      simp [h1, h2, h3, h4]
def tfO (G : Mem) (o : Option Nat) (p : Nat) : Bool := match o with
  | none => false
  | some a => decide (150 < ab (mI G 4 1 a - mI G 4 1 p))
set_option maxRecDepth 8000 in
theorem s_tooFar {d z p : Nat} {o : Option Nat} {Q : Rt} (hp : mK G p = 4) (ho : ∀ a, o = some a → mK G a = 4) : CALL (d + 2) 82 [va_rf o, va_rf (some p)] G z Q = Q (some (.int (bI (tfO G o p = true)))) G z := by
  rw [CALL_eq]
  cases o with
  | none =>
    simp only [mxE_82, ent, entL, isL_int, isL_rf, isL_long, locS, List.length_cons, List.length_nil, List.cons_append, List.nil_append, List.replicate_succ, List.replicate_zero, Bool.false_eq_true, if_false, if_true, true_and, and_true, Nat.reduceAdd, Nat.reduceSub, Nat.reduceLeDiff, Nat.zero_le, Nat.le_refl, Nat.zero_add, Nat.add_zero, bI_0, bI_1, bI_n, Nat.reduceEqDiff, false_and, and_false, and_self, e_82_0, e_82_1, e_82_4, e_82_5, e_82_6, e_82_9, e_82_12, e_82_15, e_82_16, e_82_19, e_82_20, nz_0]
    rfl
  | some a =>
    have ha4 := ho a rfl
    simp only [mxE_82, ent, entL, isL_int, isL_rf, isL_long, locS, List.length_cons, List.length_nil, List.cons_append, List.nil_append, List.replicate_succ, List.replicate_zero, Bool.false_eq_true, if_false, if_true, true_and, and_true, Nat.reduceAdd, Nat.reduceSub, Nat.reduceLeDiff, Nat.zero_le, Nat.le_refl, Nat.zero_add, Nat.add_zero, bI_0, bI_1, bI_n, Nat.reduceEqDiff, false_and, and_false, and_self, e_82_0, e_82_1, e_82_4, e_82_5, e_82_6, e_82_9, e_82_12, e_82_15, e_82_16, e_82_19, e_82_20, reduceCtorEq, ha4, s_milesTo ha4 hp, nz_0, nz_1]
    unfold tfO bI
    by_cases h : ab (mI G 4 1 a - mI G 4 1 p) ≤ 150
    · have h2 : ¬ 150 < ab (mI G 4 1 a - mI G 4 1 p) := by rw [not_lt']; exact h
      simp only [h, h2, if_true, decide_false, Bool.false_eq_true, if_false]
    · have h2 : 150 < ab (mI G 4 1 a - mI G 4 1 p) := by rw [← not_le']; exact h
      simp only [h, h2, if_false, decide_true, if_true]
/-- the hall in which a turn is booked, by its cell -/
theorem hall_of (hX : RX G x ta ha ca S) (hI : Inv S) {t w h' : Nat} (hp : sP S t w = some h') : h' < sN S 2 ∧ mK G (ha h') = 4 ∧ mI G 4 1 (ha h') = sI S 6 h' := by
  have h1 := (hI.2.2.2.2.2.2.1 t w h' hp).2
  obtain ⟨-, g2, -, g4, -⟩ := hX.2.2.2.1 h' h1
  exact ⟨h1, g2, g4⟩
theorem tfO_eq (hX : RX G x ta ha ca S) (hI : Inv S) {t w h : Nat} (hh : h < sN S 2) : tfO G ((sP S t w).map ha) (ha h) = farS S t h w := by
  unfold farS
  cases hp : sP S t w with
  | none => rfl
  | some h' =>
    obtain ⟨-, -, g⟩ := hall_of hX hI hp
    obtain ⟨-, -, -, g4, -⟩ := hX.2.2.2.1 h hh
    show decide (150 < ab (mI G 4 1 (ha h') - mI G 4 1 (ha h))) = decide (150 < mlD S h' h)
    rw [g, g4]; rfl
set_option maxRecDepth 8000 in
theorem l_own (hX : RX G x ta ha ca S) (hI : Inv S) {d z i h w a : Nat} {lst : List (Int32 × Int32 × Int32)} (hi : i < sN S 1) (hh : h < sN S 2) (ha2 : mK G a = 2) (hl : SCh G (mR G 2 4 a) lst.reverse) {R : Rt} : ∀ (n k : Nat) (o5 : Option Value), k + n = 60 → R (some (.int (bI ((List.range' k (60 - k)).any (fiveS S i h w lst) = true)))) G z → WP (d + 2) 83 R 3 [some (va_rf (some (ta i))), some (va_rf (some (ha h))), some (.int (nI w)), some (va_rf (some a)), some (.int (nI k)), o5] [] G z 0 0
  | 0, k, o5, hk, hr => by
    have : k = 60 := by omega
    subst this
    rw [e_83_3]
    simp only [ent, entL, isL_int, isL_rf, isL_long, locS, List.length_cons, List.length_nil, List.cons_append, List.nil_append, List.replicate_succ, List.replicate_zero, Bool.false_eq_true, if_false, if_true, true_and, and_true, Nat.reduceAdd, Nat.reduceSub, Nat.reduceLeDiff, Nat.zero_le, Nat.le_refl, Nat.zero_add, Nat.add_zero, bI_0, bI_1, bI_n, Nat.reduceEqDiff, false_and, and_false, and_self, e_83_0, e_83_1, e_83_5, e_83_7, e_83_10, e_83_11, e_83_13, e_83_16, e_83_18, e_83_20, e_83_23, e_83_24, e_83_26, e_83_27, e_83_30, e_83_32, e_83_33, e_83_34, e_83_37, e_83_40, e_83_43, e_83_44, e_83_45, e_83_48, e_83_51, e_83_52, w60 (Nat.le_refl 60), nz_0]
    rw [anyR_n] at hr
    exact hr
  | n + 1, k, o5, hk, hr => by
    obtain ⟨-, -, t3, -⟩ := hX.2.2.1 i hi
    obtain ⟨-, p2, -, p4, -⟩ := hX.2.2.2.1 h hh
    rw [e_83_3]
    rw [anyR_from _ (by omega)] at hr
    simp only [ent, entL, isL_int, isL_rf, isL_long, locS, List.length_cons, List.length_nil, List.cons_append, List.nil_append, List.replicate_succ, List.replicate_zero, Bool.false_eq_true, if_false, if_true, true_and, and_true, Nat.reduceAdd, Nat.reduceSub, Nat.reduceLeDiff, Nat.zero_le, Nat.le_refl, Nat.zero_add, Nat.add_zero, bI_0, bI_1, bI_n, Nat.reduceEqDiff, false_and, and_false, and_self, e_83_0, e_83_1, e_83_5, e_83_7, e_83_10, e_83_11, e_83_13, e_83_16, e_83_18, e_83_20, e_83_23, e_83_24, e_83_26, e_83_27, e_83_30, e_83_32, e_83_33, e_83_34, e_83_37, e_83_40, e_83_43, e_83_44, e_83_45, e_83_48, e_83_51, e_83_52, w60 (show k ≤ 60 by omega), show ¬ 60 ≤ k by omega, t3, s_hallIn hX hi (show k < 60 by omega)]
    cases hp : sP S i k with
    | none =>
      have e : fiveS S i h w lst k = false := by simp only [fiveS, hp]
      rw [e, Bool.false_or] at hr
      simp only [Option.map_none, if_true, n_1]
      exact l_own hX hI hi hh ha2 hl n (k + 1) _ (by omega) hr
    | some h' =>
      obtain ⟨-, g2, g3⟩ := hall_of hX hI hp
      simp only [ent, entL, isL_int, isL_rf, isL_long, locS, List.length_cons, List.length_nil, List.cons_append, List.nil_append, List.replicate_succ, List.replicate_zero, Bool.false_eq_true, if_false, if_true, true_and, and_true, Nat.reduceAdd, Nat.reduceSub, Nat.reduceLeDiff, Nat.zero_le, Nat.le_refl, Nat.zero_add, Nat.add_zero, bI_0, bI_1, bI_n, Nat.reduceEqDiff, false_and, and_false, and_self, e_83_0, e_83_1, e_83_5, e_83_7, e_83_10, e_83_11, e_83_13, e_83_16, e_83_18, e_83_20, e_83_23, e_83_24, e_83_26, e_83_27, e_83_30, e_83_32, e_83_33, e_83_34, e_83_37, e_83_40, e_83_43, e_83_44, e_83_45, e_83_48, e_83_51, e_83_52, Option.map_some, reduceCtorEq, g2, s_milesTo g2 p2, g3, p4, ha2]
      refine s_hasBar ha2 hl ?_
      simp only [ent, entL, isL_int, isL_rf, isL_long, locS, List.length_cons, List.length_nil, List.cons_append, List.nil_append, List.replicate_succ, List.replicate_zero, Bool.false_eq_true, if_false, if_true, true_and, and_true, Nat.reduceAdd, Nat.reduceSub, Nat.reduceLeDiff, Nat.zero_le, Nat.le_refl, Nat.zero_add, Nat.add_zero, bI_0, bI_1, bI_n, Nat.reduceEqDiff, false_and, and_false, and_self, e_83_0, e_83_1, e_83_5, e_83_7, e_83_10, e_83_11, e_83_13, e_83_16, e_83_18, e_83_20, e_83_23, e_83_24, e_83_26, e_83_27, e_83_30, e_83_32, e_83_33, e_83_34, e_83_37, e_83_40, e_83_43, e_83_44, e_83_45, e_83_48, e_83_51, e_83_52, n_1, nz_1]
      have e : fiveS S i h w lst k = brs lst (mlD S h' h) (awy k w) := by simp only [fiveS, hp]
      rw [e] at hr
      show if ¬ brs lst (mlD S h' h) (awy k w) = true then _ else _
      by_cases hb : brs lst (mlD S h' h) (awy k w) = true
      · simp only [hb, not_true, if_false]
        rw [hb, Bool.true_or] at hr
        exact hr
      · simp only [hb, not_false_iff, if_true]
        rw [show brs lst (mlD S h' h) (awy k w) = false by simpa using hb, Bool.false_or] at hr
        exact l_own hX hI hi hh ha2 hl n (k + 1) _ (by omega) hr
set_option maxRecDepth 8000 in
theorem s_own (hX : RX G x ta ha ca S) (hI : Inv S) {d z i h w a : Nat} {lst : List (Int32 × Int32 × Int32)} (hi : i < sN S 1) (hh : h < sN S 2) (ha2 : mK G a = 2) (hl : SCh G (mR G 2 4 a) lst.reverse) {Q : Rt} (hr : Q (some (.int (bI ((List.range 60).any (fiveS S i h w lst) = true)))) G z) : CALL (d + 3) 83 [va_rf (some (ta i)), va_rf (some (ha h)), .int (nI w), va_rf (some a)] G z Q := by
  rw [CALL_eq]
  simp only [mxE_83, ent, entL, isL_int, isL_rf, isL_long, locS, List.length_cons, List.length_nil, List.cons_append, List.nil_append, List.replicate_succ, List.replicate_zero, Bool.false_eq_true, if_false, if_true, true_and, and_true, Nat.reduceAdd, Nat.reduceSub, Nat.reduceLeDiff, Nat.zero_le, Nat.le_refl, Nat.zero_add, Nat.add_zero, bI_0, bI_1, bI_n, Nat.reduceEqDiff, false_and, and_false, and_self, e_83_0, e_83_1, e_83_5, e_83_7, e_83_10, e_83_11, e_83_13, e_83_16, e_83_18, e_83_20, e_83_23, e_83_24, e_83_26, e_83_27, e_83_30, e_83_32, e_83_33, e_83_34, e_83_37, e_83_40, e_83_43, e_83_44, e_83_45, e_83_48, e_83_51, e_83_52]
  refine l_own hX hI hi hh ha2 hl 60 0 _ (by omega) ?_
  rw [anyR_0]; exact hr
set_option maxRecDepth 8000 in
theorem l_oth (hX : RX G x ta ha ca S) (hI : Inv S) {d z i h w : Nat} (hi : i < sN S 1) (hh : h < sN S 2) {R : Rt} : ∀ (n k : Nat) (o5 o6 : Option Value), k + n = 60 → R (some (.int (bI ((List.range' k (60 - k)).any (sixS S i h w (sN S 0)) = true)))) G z → WP (d + 2) 84 R 3 [some (va_rf (some x)), some (va_rf (some (ta i))), some (va_rf (some (ha h))), some (.int (nI w)), some (.int (nI k)), o5, o6] [] G z 0 0
  | 0, k, o5, o6, hk, hr => by
    have : k = 60 := by omega
    subst this
    rw [e_84_3]
    simp only [ent, entL, isL_int, isL_rf, isL_long, locS, List.length_cons, List.length_nil, List.cons_append, List.nil_append, List.replicate_succ, List.replicate_zero, Bool.false_eq_true, if_false, if_true, true_and, and_true, Nat.reduceAdd, Nat.reduceSub, Nat.reduceLeDiff, Nat.zero_le, Nat.le_refl, Nat.zero_add, Nat.add_zero, bI_0, bI_1, bI_n, Nat.reduceEqDiff, false_and, and_false, and_self, e_84_0, e_84_1, e_84_5, e_84_7, e_84_10, e_84_11, e_84_13, e_84_16, e_84_18, e_84_20, e_84_23, e_84_26, e_84_27, e_84_29, e_84_30, e_84_33, e_84_36, e_84_38, e_84_40, e_84_43, e_84_45, e_84_47, e_84_48, e_84_51, e_84_53, e_84_54, e_84_55, e_84_58, e_84_61, e_84_64, e_84_65, e_84_66, e_84_69, e_84_72, e_84_73, w60 (Nat.le_refl 60), nz_0]
    rw [anyR_n] at hr
    exact hr
  | n + 1, k, o5, o6, hk, hr => by
    have hs := hX.1
    have hn := hX.2.1
    have hnow := hI.1
    obtain ⟨-, -, t3, -⟩ := hX.2.2.1 i hi
    obtain ⟨-, p2, -, p4, -⟩ := hX.2.2.2.1 h hh
    rw [e_84_3]
    rw [anyR_from _ (by omega)] at hr
    simp only [ent, entL, isL_int, isL_rf, isL_long, locS, List.length_cons, List.length_nil, List.cons_append, List.nil_append, List.replicate_succ, List.replicate_zero, Bool.false_eq_true, if_false, if_true, true_and, and_true, Nat.reduceAdd, Nat.reduceSub, Nat.reduceLeDiff, Nat.zero_le, Nat.le_refl, Nat.zero_add, Nat.add_zero, bI_0, bI_1, bI_n, Nat.reduceEqDiff, false_and, and_false, and_self, e_84_0, e_84_1, e_84_5, e_84_7, e_84_10, e_84_11, e_84_13, e_84_16, e_84_18, e_84_20, e_84_23, e_84_26, e_84_27, e_84_29, e_84_30, e_84_33, e_84_36, e_84_38, e_84_40, e_84_43, e_84_45, e_84_47, e_84_48, e_84_51, e_84_53, e_84_54, e_84_55, e_84_58, e_84_61, e_84_64, e_84_65, e_84_66, e_84_69, e_84_72, e_84_73, w60 (show k ≤ 60 by omega), show ¬ 60 ≤ k by omega, t3, s_hallIn hX hi (show k < 60 by omega), hs, hn]
    cases hp : sP S i k with
    | none =>
      have e : sixS S i h w (sN S 0) k = false := by simp only [sixS, hp]
      rw [e, Bool.false_or] at hr
      simp only [Option.map_none, if_true, n_1]
      exact l_oth hX hI hi hh n (k + 1) _ _ (by omega) hr
    | some h' =>
      obtain ⟨-, g2, g3⟩ := hall_of hX hI hp
      simp only [Option.map_some, reduceCtorEq, if_false]
      refine s_contractIn hX hI hi (by omega) (by omega) ?_
      have e : sixS S i h w (sN S 0) k = brs (stO S (frc S i k (sN S 0))) (mlD S h' h) (awy k w) := by simp only [sixS, hp]
      rw [e] at hr
      cases hf : frc S i k (sN S 0) with
      | none =>
        rw [hf] at hr
        rw [show brs (stO S none) (mlD S h' h) (awy k w) = false from rfl, Bool.false_or] at hr
        simp only [ent, entL, isL_int, isL_rf, isL_long, locS, List.length_cons, List.length_nil, List.cons_append, List.nil_append, List.replicate_succ, List.replicate_zero, Bool.false_eq_true, if_false, if_true, true_and, and_true, Nat.reduceAdd, Nat.reduceSub, Nat.reduceLeDiff, Nat.zero_le, Nat.le_refl, Nat.zero_add, Nat.add_zero, bI_0, bI_1, bI_n, Nat.reduceEqDiff, false_and, and_false, and_self, e_84_0, e_84_1, e_84_5, e_84_7, e_84_10, e_84_11, e_84_13, e_84_16, e_84_18, e_84_20, e_84_23, e_84_26, e_84_27, e_84_29, e_84_30, e_84_33, e_84_36, e_84_38, e_84_40, e_84_43, e_84_45, e_84_47, e_84_48, e_84_51, e_84_53, e_84_54, e_84_55, e_84_58, e_84_61, e_84_64, e_84_65, e_84_66, e_84_69, e_84_72, e_84_73, Option.map_none, n_1]
        exact l_oth hX hI hi hh n (k + 1) _ _ (by omega) hr
      | some c =>
        rw [hf] at hr
        obtain ⟨-, c2, c3⟩ := stO_ch hX hf
        simp only [ent, entL, isL_int, isL_rf, isL_long, locS, List.length_cons, List.length_nil, List.cons_append, List.nil_append, List.replicate_succ, List.replicate_zero, Bool.false_eq_true, if_false, if_true, true_and, and_true, Nat.reduceAdd, Nat.reduceSub, Nat.reduceLeDiff, Nat.zero_le, Nat.le_refl, Nat.zero_add, Nat.add_zero, bI_0, bI_1, bI_n, Nat.reduceEqDiff, false_and, and_false, and_self, e_84_0, e_84_1, e_84_5, e_84_7, e_84_10, e_84_11, e_84_13, e_84_16, e_84_18, e_84_20, e_84_23, e_84_26, e_84_27, e_84_29, e_84_30, e_84_33, e_84_36, e_84_38, e_84_40, e_84_43, e_84_45, e_84_47, e_84_48, e_84_51, e_84_53, e_84_54, e_84_55, e_84_58, e_84_61, e_84_64, e_84_65, e_84_66, e_84_69, e_84_72, e_84_73, Option.map_some, reduceCtorEq, g2, s_milesTo g2 p2, g3, p4, c2]
        refine s_hasBar c2 c3 ?_
        simp only [ent, entL, isL_int, isL_rf, isL_long, locS, List.length_cons, List.length_nil, List.cons_append, List.nil_append, List.replicate_succ, List.replicate_zero, Bool.false_eq_true, if_false, if_true, true_and, and_true, Nat.reduceAdd, Nat.reduceSub, Nat.reduceLeDiff, Nat.zero_le, Nat.le_refl, Nat.zero_add, Nat.add_zero, bI_0, bI_1, bI_n, Nat.reduceEqDiff, false_and, and_false, and_self, e_84_0, e_84_1, e_84_5, e_84_7, e_84_10, e_84_11, e_84_13, e_84_16, e_84_18, e_84_20, e_84_23, e_84_26, e_84_27, e_84_29, e_84_30, e_84_33, e_84_36, e_84_38, e_84_40, e_84_43, e_84_45, e_84_47, e_84_48, e_84_51, e_84_53, e_84_54, e_84_55, e_84_58, e_84_61, e_84_64, e_84_65, e_84_66, e_84_69, e_84_72, e_84_73, n_1, nz_1]
        show if ¬ brs (stO S (some c)) (mlD S h' h) (awy k w) = true then _ else _
        by_cases hb : brs (stO S (some c)) (mlD S h' h) (awy k w) = true
        · simp only [hb, not_true, if_false]
          rw [hb, Bool.true_or] at hr
          exact hr
        · simp only [hb, not_false_iff, if_true]
          rw [show brs (stO S (some c)) (mlD S h' h) (awy k w) = false by simpa using hb, Bool.false_or] at hr
          exact l_oth hX hI hi hh n (k + 1) _ _ (by omega) hr
set_option maxRecDepth 8000 in
theorem s_oth (hX : RX G x ta ha ca S) (hI : Inv S) {d z i h w : Nat} (hi : i < sN S 1) (hh : h < sN S 2) {Q : Rt} (hr : Q (some (.int (bI ((List.range 60).any (sixS S i h w (sN S 0)) = true)))) G z) : CALL (d + 3) 84 [va_rf (some x), va_rf (some (ta i)), va_rf (some (ha h)), .int (nI w)] G z Q := by
  rw [CALL_eq]
  simp only [mxE_84, ent, entL, isL_int, isL_rf, isL_long, locS, List.length_cons, List.length_nil, List.cons_append, List.nil_append, List.replicate_succ, List.replicate_zero, Bool.false_eq_true, if_false, if_true, true_and, and_true, Nat.reduceAdd, Nat.reduceSub, Nat.reduceLeDiff, Nat.zero_le, Nat.le_refl, Nat.zero_add, Nat.add_zero, bI_0, bI_1, bI_n, Nat.reduceEqDiff, false_and, and_false, and_self, e_84_0, e_84_1, e_84_5, e_84_7, e_84_10, e_84_11, e_84_13, e_84_16, e_84_18, e_84_20, e_84_23, e_84_26, e_84_27, e_84_29, e_84_30, e_84_33, e_84_36, e_84_38, e_84_40, e_84_43, e_84_45, e_84_47, e_84_48, e_84_51, e_84_53, e_84_54, e_84_55, e_84_58, e_84_61, e_84_64, e_84_65, e_84_66, e_84_69, e_84_72, e_84_73]
  refine l_oth hX hI hi hh 60 0 _ _ (by omega) ?_
  rw [anyR_0]; exact hr
set_option maxRecDepth 8000 in
theorem s_onBill (hX : RX G x ta ha ca S) (hI : Inv S) {d z i h w : Nat} (hi : i < sN S 1) (hh : h < sN S 2) (hw : w < 60) {Q : Rt} (hr : ∀ G', SX x G G' → Q (some (.int (whyB S i h w))) G' z) : CALL (d + 4) 81 [va_rf (some x), va_rf (some (ta i)), va_rf (some (ha h)), .int (nI w), va_rf ((frc S i w (sN S 0)).map ca)] G z Q := by
  have hs := hX.1
  have hnow := hI.1
  rw [CALL_eq]
  simp only [mxE_81, ent, entL, isL_int, isL_rf, isL_long, locS, List.length_cons, List.length_nil, List.cons_append, List.nil_append, List.replicate_succ, List.replicate_zero, Bool.false_eq_true, if_false, if_true, true_and, and_true, Nat.reduceAdd, Nat.reduceSub, Nat.reduceLeDiff, Nat.zero_le, Nat.le_refl, Nat.zero_add, Nat.add_zero, bI_0, bI_1, bI_n, Nat.reduceEqDiff, false_and, and_false, and_self, e_81_0, e_81_1, e_81_2, e_81_3, e_81_6, e_81_7, e_81_10, e_81_11, e_81_14, e_81_17, e_81_20, e_81_22, e_81_23, e_81_24, e_81_27, e_81_28, e_81_30, e_81_31, e_81_32, e_81_35, e_81_38, e_81_41, e_81_43, e_81_44, e_81_45, e_81_46, e_81_47, e_81_50, e_81_53, e_81_55, e_81_56, e_81_57, e_81_60, e_81_63, e_81_65, e_81_68, e_81_70, e_81_71, e_81_72, e_81_75, e_81_78, e_81_79, e_81_82, e_81_83, e_81_84, e_81_87, e_81_90, e_81_92, e_81_95, e_81_96, hs]
  refine s_gather hX hI hw hh ?_
  intro G' hsx hB
  have hX' := hX.sx hsx
  have hs := hX'.1
  have hn := hX'.2.1
  have hbl : ∀ t ∈ bl S h w, t < sN S 1 := fun t ht => bl_lt ht
  obtain ⟨-, -, t3, t4, t5, -, -, t8, -⟩ := hX'.2.2.1 i hi
  obtain ⟨-, p2, -, p4, -, p6⟩ := hX'.2.2.2.1 h hh
  have hr := hr G' hsx
  unfold whyB at hr
  simp only [ent, entL, isL_int, isL_rf, isL_long, locS, List.length_cons, List.length_nil, List.cons_append, List.nil_append, List.replicate_succ, List.replicate_zero, Bool.false_eq_true, if_false, if_true, true_and, and_true, Nat.reduceAdd, Nat.reduceSub, Nat.reduceLeDiff, Nat.zero_le, Nat.le_refl, Nat.zero_add, Nat.add_zero, bI_0, bI_1, bI_n, Nat.reduceEqDiff, false_and, and_false, and_self, e_81_0, e_81_1, e_81_2, e_81_3, e_81_6, e_81_7, e_81_10, e_81_11, e_81_14, e_81_17, e_81_20, e_81_22, e_81_23, e_81_24, e_81_27, e_81_28, e_81_30, e_81_31, e_81_32, e_81_35, e_81_38, e_81_41, e_81_43, e_81_44, e_81_45, e_81_46, e_81_47, e_81_50, e_81_53, e_81_55, e_81_56, e_81_57, e_81_60, e_81_63, e_81_65, e_81_68, e_81_70, e_81_71, e_81_72, e_81_75, e_81_78, e_81_79, e_81_82, e_81_83, e_81_84, e_81_87, e_81_90, e_81_92, e_81_95, e_81_96, hs, t3, t8]
  refine s_hasLike hX' hB hbl ?_
  simp only [ent, entL, isL_int, isL_rf, isL_long, locS, List.length_cons, List.length_nil, List.cons_append, List.nil_append, List.replicate_succ, List.replicate_zero, Bool.false_eq_true, if_false, if_true, true_and, and_true, Nat.reduceAdd, Nat.reduceSub, Nat.reduceLeDiff, Nat.zero_le, Nat.le_refl, Nat.zero_add, Nat.add_zero, bI_0, bI_1, bI_n, Nat.reduceEqDiff, false_and, and_false, and_self, e_81_0, e_81_1, e_81_2, e_81_3, e_81_6, e_81_7, e_81_10, e_81_11, e_81_14, e_81_17, e_81_20, e_81_22, e_81_23, e_81_24, e_81_27, e_81_28, e_81_30, e_81_31, e_81_32, e_81_35, e_81_38, e_81_41, e_81_43, e_81_44, e_81_45, e_81_46, e_81_47, e_81_50, e_81_53, e_81_55, e_81_56, e_81_57, e_81_60, e_81_63, e_81_65, e_81_68, e_81_70, e_81_71, e_81_72, e_81_75, e_81_78, e_81_79, e_81_82, e_81_83, e_81_84, e_81_87, e_81_90, e_81_92, e_81_95, e_81_96, hs, hn]
  by_cases q1 : (bl S h w).any (fun t' => decide (sI S 2 t' = sI S 2 i)) = true
  · simp only [q1, not_true, if_false, if_true] at hr ⊢
    exact hr
  simp only [q1, not_false_iff, if_true, if_false, Bool.false_eq_true] at hr ⊢
  refine s_apart hX' hI hB hbl hi hw (by omega) (fun c hc => (stO_ch hX' hc).2) ?_
  simp only [ent, entL, isL_int, isL_rf, isL_long, locS, List.length_cons, List.length_nil, List.cons_append, List.nil_append, List.replicate_succ, List.replicate_zero, Bool.false_eq_true, if_false, if_true, true_and, and_true, Nat.reduceAdd, Nat.reduceSub, Nat.reduceLeDiff, Nat.zero_le, Nat.le_refl, Nat.zero_add, Nat.add_zero, bI_0, bI_1, bI_n, Nat.reduceEqDiff, false_and, and_false, and_self, e_81_0, e_81_1, e_81_2, e_81_3, e_81_6, e_81_7, e_81_10, e_81_11, e_81_14, e_81_17, e_81_20, e_81_22, e_81_23, e_81_24, e_81_27, e_81_28, e_81_30, e_81_31, e_81_32, e_81_35, e_81_38, e_81_41, e_81_43, e_81_44, e_81_45, e_81_46, e_81_47, e_81_50, e_81_53, e_81_55, e_81_56, e_81_57, e_81_60, e_81_63, e_81_65, e_81_68, e_81_70, e_81_71, e_81_72, e_81_75, e_81_78, e_81_79, e_81_82, e_81_83, e_81_84, e_81_87, e_81_90, e_81_92, e_81_95, e_81_96, hs, hn, t3]
  have ew : ownS S i w = stO S (frc S i w (sN S 0)) := rfl
  rw [ew] at hr
  by_cases q2 : (bl S h w).any (fun t' => apS S (stO S (frc S t' w (sN S 0))) i || apS S (stO S (frc S i w (sN S 0))) t') = true
  · simp only [q2, not_true, if_false, if_true] at hr ⊢
    exact hr
  simp only [q2, not_false_iff, if_true, if_false, Bool.false_eq_true] at hr ⊢
  refine s_soon hX' hI hi hh hw ?_
  have e9 : (nI (bl S h w).length < (9 : Int32)) = ((bl S h w).length < 9) := by
    rw [show (9 : Int32) = nI 9 from rfl]; exact n_lt (by have := hB.2.1; omega) (by decide)
  simp only [ent, entL, isL_int, isL_rf, isL_long, locS, List.length_cons, List.length_nil, List.cons_append, List.nil_append, List.replicate_succ, List.replicate_zero, Bool.false_eq_true, if_false, if_true, true_and, and_true, Nat.reduceAdd, Nat.reduceSub, Nat.reduceLeDiff, Nat.zero_le, Nat.le_refl, Nat.zero_add, Nat.add_zero, bI_0, bI_1, bI_n, Nat.reduceEqDiff, false_and, and_false, and_self, e_81_0, e_81_1, e_81_2, e_81_3, e_81_6, e_81_7, e_81_10, e_81_11, e_81_14, e_81_17, e_81_20, e_81_22, e_81_23, e_81_24, e_81_27, e_81_28, e_81_30, e_81_31, e_81_32, e_81_35, e_81_38, e_81_41, e_81_43, e_81_44, e_81_45, e_81_46, e_81_47, e_81_50, e_81_53, e_81_55, e_81_56, e_81_57, e_81_60, e_81_63, e_81_65, e_81_68, e_81_70, e_81_71, e_81_72, e_81_75, e_81_78, e_81_79, e_81_82, e_81_83, e_81_84, e_81_87, e_81_90, e_81_92, e_81_95, e_81_96, hs, hn, t3, hB.1, e9]
  by_cases q3 : (List.range 60).any (nineS S i h w) = true
  · simp only [q3, not_true, if_false, if_true] at hr ⊢
    exact hr
  simp only [q3, not_false_iff, if_true, if_false, Bool.false_eq_true] at hr ⊢
  by_cases q4 : 9 ≤ (bl S h w).length
  · simp only [q4, show ¬ (bl S h w).length < 9 by omega, if_true, if_false] at hr ⊢
    exact hr
  simp only [q4, show (bl S h w).length < 9 by omega, if_true, if_false] at hr ⊢
  refine s_minutes hX' hB hbl ?_
  simp only [ent, entL, isL_int, isL_rf, isL_long, locS, List.length_cons, List.length_nil, List.cons_append, List.nil_append, List.replicate_succ, List.replicate_zero, Bool.false_eq_true, if_false, if_true, true_and, and_true, Nat.reduceAdd, Nat.reduceSub, Nat.reduceLeDiff, Nat.zero_le, Nat.le_refl, Nat.zero_add, Nat.add_zero, bI_0, bI_1, bI_n, Nat.reduceEqDiff, false_and, and_false, and_self, e_81_0, e_81_1, e_81_2, e_81_3, e_81_6, e_81_7, e_81_10, e_81_11, e_81_14, e_81_17, e_81_20, e_81_22, e_81_23, e_81_24, e_81_27, e_81_28, e_81_30, e_81_31, e_81_32, e_81_35, e_81_38, e_81_41, e_81_43, e_81_44, e_81_45, e_81_46, e_81_47, e_81_50, e_81_53, e_81_55, e_81_56, e_81_57, e_81_60, e_81_63, e_81_65, e_81_68, e_81_70, e_81_71, e_81_72, e_81_75, e_81_78, e_81_79, e_81_82, e_81_83, e_81_84, e_81_87, e_81_90, e_81_92, e_81_95, e_81_96, t3, t5, p2, p6]
  by_cases q5 : sumL (sI S 0) (bl S h w) + sI S 0 i ≤ sI S 8 h
  · have q6 : ¬ sI S 8 h < sumL (sI S 0) (bl S h w) + sI S 0 i := by rw [not_lt']; exact q5
    simp only [q5, q6, if_true, if_false] at hr ⊢
    exact hr
  · have q6 : sI S 8 h < sumL (sI S 0) (bl S h w) + sI S 0 i := by rw [← not_le']; exact q5
    simp only [q5, q6, if_true, if_false] at hr ⊢
    exact hr
end X
