/-! THE CONSTRUCTORS -/
theorem litN : (Int32.toNatClampNeg 40 = 40 ∧ Int32.toNatClampNeg 10 = 10 ∧ Int32.toNatClampNeg 600 = 600 ∧ Int32.toNatClampNeg 9 = 9 ∧ Int32.toNatClampNeg 4608 = 4608 ∧ Int32.toNatClampNeg 61 = 61 ∧ Int32.toNatClampNeg 732 = 732 ∧ Int32.toNatClampNeg 2400 = 2400)
    ∧ (((40 : Int32) < 0) = False ∧ ((10 : Int32) < 0) = False ∧ ((600 : Int32) < 0) = False ∧ ((9 : Int32) < 0) = False ∧ ((4608 : Int32) < 0) = False ∧ ((61 : Int32) < 0) = False ∧ ((732 : Int32) < 0) = False ∧ ((2400 : Int32) < 0) = False) := by decide
section
variable {G : Mem}
/-- the memory behind a new bill, a new order -/
def bG (G : Mem) (a z : Nat) : Mem := pR (nA G z 24 9) 1 0 a (some z)
def oG (G : Mem) (a z : Nat) : Mem := pI (pR (nA (pR (nA (pR (nA (pR (nA (pR (nA G z 22 9) 0 0 a (some z)) (z + 1) 22 9) 0 1 a (some (z + 1))) (z + 2) 20 9) 0 2 a (some (z + 2))) (z + 3) 20 4608) 0 3 a (some (z + 3))) (z + 4) 20 9) 0 4 a (some (z + 4))) 0 6 a (-1)
set_option maxRecDepth 8000 in
theorem s_init1 {d a z : Nat} {Q : Rt} (ha : mK G a = 1) (hz : a < z) (h : Q none (bG G a z) (z + 1)) : CALL (d + 1) 12 [va_rf (some a)] G z Q := by
  rw [CALL_eq]
  simp only [mxE_12, ent, entL, isL_int, isL_rf, isL_long, locS, List.length_cons, List.length_nil, List.cons_append, List.nil_append, List.replicate_succ, List.replicate_zero, Bool.false_eq_true, if_false, if_true, true_and, and_true, Nat.reduceAdd, Nat.reduceSub, Nat.reduceLeDiff, Nat.zero_le, Nat.le_refl, Nat.zero_add, Nat.add_zero, bI_0, bI_1, bI_n, Nat.reduceEqDiff, false_and, and_false, and_self, e_12_0, e_12_1, e_12_4, e_12_5, e_12_7, e_12_10, e_12_13, memS, litN, ha, show ¬ a = z by omega, not_false_iff]
  exact h
set_option maxRecDepth 8000 in
theorem s_init0 {d a z : Nat} {Q : Rt} (ha : mK G a = 0) (hz : a < z) (h : Q none (oG G a z) (z + 5)) : CALL (d + 1) 0 [va_rf (some a)] G z Q := by
  rw [CALL_eq]
  simp only [mxE_0, ent, entL, isL_int, isL_rf, isL_long, locS, List.length_cons, List.length_nil, List.cons_append, List.nil_append, List.replicate_succ, List.replicate_zero, Bool.false_eq_true, if_false, if_true, true_and, and_true, Nat.reduceAdd, Nat.reduceSub, Nat.reduceLeDiff, Nat.zero_le, Nat.le_refl, Nat.zero_add, Nat.add_zero, bI_0, bI_1, bI_n, Nat.reduceEqDiff, false_and, and_false, and_self, e_0_0, e_0_1, e_0_4, e_0_5, e_0_7, e_0_9, e_0_12, e_0_13, e_0_15, e_0_17, e_0_20, e_0_21, e_0_23, e_0_25, e_0_28, e_0_29, e_0_32, e_0_34, e_0_37, e_0_38, e_0_40, e_0_42, e_0_45, e_0_46, e_0_47, e_0_50, memS, litN, ha, Nat.add_assoc, show ¬ a = z by omega, show ¬ a = z + 1 by omega, show ¬ a = z + 2 by omega, show ¬ a = z + 3 by omega, show ¬ a = z + 4 by omega, not_false_iff]
  exact h
/-- the memory behind the class's constructor -/
def xG1 (G : Mem) (x : Nat) : Mem := nO (pR (nA (pR (nA (pR (nA (nO G x 7) (x + 1) 24 40) 7 0 x (some (x + 1))) (x + 2) 23 10) 7 1 x (some (x + 2))) (x + 3) 21 600) 7 2 x (some (x + 3))) (x + 4) 1
def xG (G : Mem) (x : Nat) : Mem := pI (pR (oG (nO (pR (bG (xG1 G x) (x + 4) (x + 5)) 7 3 x (some (x + 4))) (x + 6) 0) (x + 6) (x + 7)) 7 4 x (some (x + 6))) 7 11 x (-1)
set_option maxRecDepth 8000 in
set_option maxHeartbeats 2000000 in
theorem c_init {d x : Nat} {Q : Rt} (h : Q none (xG G x) (x + 12)) : CALL (d + 2) 48 [va_rf (some x)] (nO G x 7) (x + 1) Q := by
  rw [CALL_eq]
  simp only [mxE_48, ent, entL, isL_int, isL_rf, isL_long, locS, List.length_cons, List.length_nil, List.cons_append, List.nil_append, List.replicate_succ, List.replicate_zero, Bool.false_eq_true, if_false, if_true, true_and, and_true, Nat.reduceAdd, Nat.reduceSub, Nat.reduceLeDiff, Nat.zero_le, Nat.le_refl, Nat.zero_add, Nat.add_zero, bI_0, bI_1, bI_n, Nat.reduceEqDiff, false_and, and_false, and_self, e_48_0, e_48_1, e_48_4, e_48_5, e_48_7, e_48_10, e_48_13, e_48_14, e_48_16, e_48_19, e_48_22, e_48_23, e_48_26, e_48_28, e_48_31, e_48_32, e_48_35, e_48_36, e_48_39, e_48_42, e_48_43, e_48_46, e_48_47, e_48_50, e_48_53, e_48_54, e_48_55, e_48_58, memS, litN, Nat.add_assoc, Nat.left_eq_add, not_false_iff]
  refine s_init1 (by simp only [memS, if_true]) (by omega) ?_
  simp only [ent, entL, isL_int, isL_rf, isL_long, locS, List.length_cons, List.length_nil, List.cons_append, List.nil_append, List.replicate_succ, List.replicate_zero, Bool.false_eq_true, if_false, if_true, true_and, and_true, Nat.reduceAdd, Nat.reduceSub, Nat.reduceLeDiff, Nat.zero_le, Nat.le_refl, Nat.zero_add, Nat.add_zero, bI_0, bI_1, bI_n, Nat.reduceEqDiff, false_and, and_false, and_self, e_48_0, e_48_1, e_48_4, e_48_5, e_48_7, e_48_10, e_48_13, e_48_14, e_48_16, e_48_19, e_48_22, e_48_23, e_48_26, e_48_28, e_48_31, e_48_32, e_48_35, e_48_36, e_48_39, e_48_42, e_48_43, e_48_46, e_48_47, e_48_50, e_48_53, e_48_54, e_48_55, e_48_58, memS, bG, Nat.add_assoc, Nat.left_eq_add, not_false_iff]
  refine s_init0 (by simp only [memS, if_true]) (by omega) ?_
  simp only [ent, entL, isL_int, isL_rf, isL_long, locS, List.length_cons, List.length_nil, List.cons_append, List.nil_append, List.replicate_succ, List.replicate_zero, Bool.false_eq_true, if_false, if_true, true_and, and_true, Nat.reduceAdd, Nat.reduceSub, Nat.reduceLeDiff, Nat.zero_le, Nat.le_refl, Nat.zero_add, Nat.add_zero, bI_0, bI_1, bI_n, Nat.reduceEqDiff, false_and, and_false, and_self, e_48_0, e_48_1, e_48_4, e_48_5, e_48_7, e_48_10, e_48_13, e_48_14, e_48_16, e_48_19, e_48_22, e_48_23, e_48_26, e_48_28, e_48_31, e_48_32, e_48_35, e_48_36, e_48_39, e_48_42, e_48_43, e_48_46, e_48_47, e_48_50, e_48_53, e_48_54, e_48_55, e_48_58, memS, oG, Nat.add_assoc, Nat.left_eq_add, not_false_iff]
  exact h
theorem xG_ex {x : Nat} : EX x G (xG G x) := by
  intro a ha
  simp [xG, xG1, oG, bG, memS, show ¬ a = x by omega, show ¬ a = x + 1 by omega, show ¬ a = x + 2 by omega, show ¬ a = x + 3 by omega, show ¬ a = x + 4 by omega, show ¬ a = x + 5 by omega, show ¬ a = x + 6 by omega, show ¬ a = x + 7 by omega, show ¬ a = x + 8 by omega, show ¬ a = x + 9 by omega, show ¬ a = x + 10 by omega, show ¬ a = x + 11 by omega]
theorem xG_rx {x : Nat} {ta ha ca : Nat → Nat} : RX (xG G x) x ta ha ca S0 := by
  refine ⟨?_, ?_, fun i hi => absurd hi (Nat.not_lt_zero _), fun i hi => absurd hi (Nat.not_lt_zero _), fun i hi => absurd hi (Nat.not_lt_zero _), ⟨fun i j hi => absurd hi (Nat.not_lt_zero _), fun i j hi => absurd hi (Nat.not_lt_zero _), fun i j hi => absurd hi (Nat.not_lt_zero _)⟩, fun i => ?_⟩
  · simp [XS, xG, xG1, oG, bG, memS, Nat.add_assoc]
  · simp [XN, xG, xG1, oG, bG, memS, S0, sN, sF]; decide
  · simp [xG, xG1, oG, bG, memS, S0, sT]
theorem xG_bd {x : Nat} (h : Bd G x) : Bd (xG G x) (x + 12) := by
  intro a q
  by_cases e : a < x
  · omega
  · by_cases e2 : x + 12 ≤ a
    · have : mK (xG G x) a = mK G a := by
        simp [xG, xG1, oG, bG, memS, show ¬ a = x by omega, show ¬ a = x + 1 by omega, show ¬ a = x + 2 by omega, show ¬ a = x + 3 by omega, show ¬ a = x + 4 by omega, show ¬ a = x + 5 by omega, show ¬ a = x + 6 by omega, show ¬ a = x + 7 by omega, show ¬ a = x + 8 by omega, show ¬ a = x + 9 by omega, show ¬ a = x + 10 by omega, show ¬ a = x + 11 by omega]
      rw [this] at q
      have := h a q
      omega
    · omega
/-- the memory behind the reference's constructor, its places not yet filled -/
def mG (G : Mem) (m : Nat) : Mem := pR (nA (pR (nA (pR (nA (pR (nA (pR (nA (pR (nA (pR (nA (pR (nA (pR (nA (pR (nA (pR (nA (pI (pR (nA (pR (nA (pR (nA (pR (nA (pR (nA (pR (nA (pR (nA (pR (nA (pR (nA (pR (nA (pR (nA (pR (nA (nO G m 8) (m + 1) 20 40) 8 5 m (some (m + 1))) (m + 2) 20 40) 8 6 m (some (m + 2))) (m + 3) 20 40) 8 7 m (some (m + 3))) (m + 4) 20 40) 8 8 m (some (m + 4))) (m + 5) 20 40) 8 9 m (some (m + 5))) (m + 6) 22 40) 8 10 m (some (m + 6))) (m + 7) 20 10) 8 11 m (some (m + 7))) (m + 8) 20 10) 8 12 m (some (m + 8))) (m + 9) 20 10) 8 13 m (some (m + 9))) (m + 10) 20 2400) 8 14 m (some (m + 10))) (m + 11) 21 600) 8 15 m (some (m + 11))) (m + 12) 21 600) 8 16 m (some (m + 12))) 8 20 m (-1)) (m + 13) 20 61) 8 21 m (some (m + 13))) (m + 14) 20 61) 8 22 m (some (m + 14))) (m + 15) 20 61) 8 23 m (some (m + 15))) (m + 16) 20 61) 8 24 m (some (m + 16))) (m + 17) 20 732) 8 25 m (some (m + 17))) (m + 18) 20 732) 8 26 m (some (m + 18))) (m + 19) 20 732) 8 27 m (some (m + 19))) (m + 20) 20 9) 8 30 m (some (m + 20))) (m + 21) 20 9) 8 31 m (some (m + 21))) (m + 22) 20 9) 8 32 m (some (m + 22))) (m + 23) 20 4608) 8 33 m (some (m + 23))
/-- the places filled with -1 from k on -/
def PL (m k : Nat) (G G' : Mem) : Prop := (∀ a, mK G' a = mK G a) ∧ (∀ a, mN G' a = mN G a) ∧ (∀ c k a, mI G' c k a = mI G c k a) ∧ (∀ c k a, mR G' c k a = mR G c k a) ∧ (∀ a i, mE G' a i = if a = m + 10 ∧ k ≤ i ∧ i < 2400 then -1 else mE G a i) ∧ ∀ a i, mQ G' a i = mQ G a i
set_option maxRecDepth 8000 in
theorem l_places {d m z c s : Nat} {Q : Rt} (hc : c ≤ mcq 85) (hs : s ≤ msq 85) : ∀ (n k : Nat) (G1 : Mem), k + n = 2400 → MS G1 m → (∀ G', PL m k G1 G' → Q none G' z) → WP d 85 Q 202 [some (va_rf (some m)), some (.int (nI k))] [] G1 z c s := by
  intro n
  induction n with
  | zero =>
    intro k G1 hk hm h
    have hk : k = 2400 := by omega
    subst hk
    rw [e_85_202]
    simp only [ent, entL, isL_int, isL_rf, isL_long, locS, List.length_cons, List.length_nil, List.cons_append, List.nil_append, List.replicate_succ, List.replicate_zero, Bool.false_eq_true, if_false, if_true, true_and, and_true, Nat.reduceAdd, Nat.reduceSub, Nat.reduceLeDiff, Nat.zero_le, Nat.le_refl, Nat.zero_add, Nat.add_zero, bI_0, bI_1, bI_n, Nat.reduceEqDiff, false_and, and_false, and_self, e_85_203, e_85_206, e_85_209, e_85_210, e_85_213, e_85_214, e_85_215, e_85_216, e_85_219, e_85_222, show (2400 : Int32) = nI 2400 from rfl, n_le (show 2400 < 2 ^ 31 by decide) (show 2400 < 2 ^ 31 by decide), Nat.le_refl, if_true]
    refine ⟨hc, hs, h G1 ⟨fun _ => rfl, fun _ => rfl, fun _ _ _ => rfl, fun _ _ _ => rfl, fun a i => ?_, fun _ _ => rfl⟩⟩
    rw [if_neg (by omega)]
  | succ n ih =>
    intro k G1 hk hm h
    rw [e_85_202]
    simp only [ent, entL, isL_int, isL_rf, isL_long, locS, List.length_cons, List.length_nil, List.cons_append, List.nil_append, List.replicate_succ, List.replicate_zero, Bool.false_eq_true, if_false, if_true, true_and, and_true, Nat.reduceAdd, Nat.reduceSub, Nat.reduceLeDiff, Nat.zero_le, Nat.le_refl, Nat.zero_add, Nat.add_zero, bI_0, bI_1, bI_n, Nat.reduceEqDiff, false_and, and_false, and_self, e_85_203, e_85_206, e_85_209, e_85_210, e_85_213, e_85_214, e_85_215, e_85_216, e_85_219, e_85_222, hm, show (2400 : Int32) = nI 2400 from rfl, n_le (show 2400 < 2 ^ 31 by decide) (show k < 2 ^ 31 by omega), show ¬ 2400 ≤ k by omega, if_false, n_in (show k < 2400 by omega) (by decide), n_cl (show k < 2 ^ 31 by omega), n_1]
    refine ih (k + 1) _ (by omega) (by simp only [MS, memS]; exact hm) fun G' hP => h G' ?_
    obtain ⟨p1, p2, p3, p4, p5, p6⟩ := hP
    refine ⟨fun a => p1 a, fun a => p2 a, fun c k a => p3 c k a, fun c k a => p4 c k a, fun a i => ?_, fun a i => p6 a i⟩
    rw [p5]
    simp only [memS]
    by_cases e : a = m + 10
    · by_cases e2 : i = k
      · subst e2; simp [e]; omega
      · by_cases e3 : k + 1 ≤ i ∧ i < 2400
        · rw [if_pos ⟨e, e3⟩, if_pos ⟨e, by omega, e3.2⟩]
        · rw [if_neg (fun q => e3 q.2), if_neg (fun q => e2 q.2), if_neg (fun q => e3 ⟨by omega, q.2.2⟩)]
    · simp [e]
theorem mG_ms {m : Nat} : MS (mG G m) m := by
  simp [MS, mG, memS]
theorem mG_ex {m : Nat} : EX m G (mG G m) := by
  intro a ha
  simp [mG, memS, show ¬ a = m by omega, show ¬ a = m + 1 by omega, show ¬ a = m + 2 by omega, show ¬ a = m + 3 by omega, show ¬ a = m + 4 by omega, show ¬ a = m + 5 by omega, show ¬ a = m + 6 by omega, show ¬ a = m + 7 by omega, show ¬ a = m + 8 by omega, show ¬ a = m + 9 by omega, show ¬ a = m + 10 by omega, show ¬ a = m + 11 by omega, show ¬ a = m + 12 by omega, show ¬ a = m + 13 by omega, show ¬ a = m + 14 by omega, show ¬ a = m + 15 by omega, show ¬ a = m + 16 by omega, show ¬ a = m + 17 by omega, show ¬ a = m + 18 by omega, show ¬ a = m + 19 by omega, show ¬ a = m + 20 by omega, show ¬ a = m + 21 by omega, show ¬ a = m + 22 by omega, show ¬ a = m + 23 by omega]
end
