/-! the class's order: the least sums -/
abbrev DX (G : Mem) (x : Nat) (P : OP) : Prop := XS G x ∧ P.1 ≤ 9 ∧ mI G 0 5 (x + 6) = nI P.1 ∧ (∀ i, i < P.1 → mE G (x + 7) i = bI (P.2.2.1 i = true)) ∧ (∀ i, i < P.1 → mE G (x + 8) i = bI (P.2.2.2 i = true)) ∧ ∀ p i, p < P.1 → i < P.1 → bt (mE G (x + 9) p) i = P.2.1 i p
def cV (P : OP) (s last : Nat) : Nat := (FF P (P.1 - pc s) s (some last)).getD 1000
def LB (G : Mem) (x : Nat) (P : OP) (s0 : Nat) : Prop := ∀ s last, s0 < s → s < 2 ^ P.1 → last < P.1 → s.testBit last = true → P.2.1 last (pc s - 1) = true → mE G (x + 10) (s * 9 + last) = nI (cV P s last)
theorem cV_le {P : OP} {s last : Nat} (hn : P.1 ≤ 9) : cV P s last ≤ 1000 := by
  unfold cV
  cases h : FF P (P.1 - pc s) s (some last) with
  | none => exact Nat.le_refl _
  | some c => have := FF_le h; simp only [Option.getD_some]; omega
section
variable {G : Mem} {x : Nat} {P : OP}
set_option maxRecDepth 8000 in
theorem s_waitB (hD : DX G x P) {d z a b : Nat} {Q : Rt} (ha : a < P.1) (hb : b < P.1) : CALL (d + 1) 7 [va_rf (some (x + 6)), .int (nI a), .int (nI b)] G z Q = Q (some (.int (nI (if okO P (some a) b = true then wtO P (some a) b else 1000)))) G z := by
  obtain ⟨hs, hn, h1, h2, h3, h4⟩ := hD
  rw [CALL_eq]
  simp only [mxE_7, ent, entL, isL_int, isL_rf, isL_long, locS, List.length_cons, List.length_nil, List.cons_append, List.nil_append, List.replicate_succ, List.replicate_zero, Bool.false_eq_true, if_false, if_true, true_and, and_true, Nat.reduceAdd, Nat.reduceSub, Nat.reduceLeDiff, Nat.zero_le, Nat.le_refl, Nat.zero_add, Nat.add_zero, bI_0, bI_1, bI_n, Nat.reduceEqDiff, false_and, and_false, and_self, e_7_0, e_7_1, e_7_4, e_7_5, e_7_6, e_7_9, e_7_10, e_7_13, e_7_14, e_7_15, e_7_18, e_7_21, e_7_22, e_7_23, e_7_26, e_7_27, e_7_28, e_7_31, e_7_32, e_7_35, e_7_36, e_7_37, e_7_40, e_7_41, e_7_42, e_7_43, e_7_46, e_7_47, e_7_48, e_7_51, e_7_52, e_7_55, e_7_56, e_7_57, e_7_60, e_7_61, e_7_64, e_7_65, hs, n_in (show a < 9 by omega) (by decide), n_in (show b < 9 by omega) (by decide), n_cl (show a < 2 ^ 31 by omega), n_cl (show b < 2 ^ 31 by omega), h2 a ha, h2 b hb, h3 a ha, h3 b hb, or_true, true_or]
  unfold okO wtO
  rcases Bool.eq_false_or_eq_true (P.2.2.1 a) with a1 | a1 <;> rcases Bool.eq_false_or_eq_true (P.2.2.1 b) with a2 | a2 <;> rcases Bool.eq_false_or_eq_true (P.2.2.2 a) with a3 | a3 <;> rcases Bool.eq_false_or_eq_true (P.2.2.2 b) with a4 | a4 <;> simp only [a1, a2, a3, a4, Bool.false_eq_true, not_true, not_false_iff, if_true, if_false, Bool.or_true, Bool.true_or, Bool.or_false, Bool.and_true, Bool.and_false, Bool.not_true, Bool.not_false] <;> rfl
theorem s_sumT (hD : DX G x P) {d z s a b v : Nat} {Q : Rt} (hs2 : s < 2 ^ P.1) (ha : a < P.1) (hb : b < P.1) (hv : mE G (x + 10) ((s ||| 2 ^ b) * 9 + b) = nI v) : CALL (d + 2) 6 [va_rf (some (x + 6)), .int (nI s), .int (nI a), .int (nI b)] G z Q = Q (some (.int (nI ((if okO P (some a) b = true then wtO P (some a) b else 1000) + v)))) G z := by
  have hs := hD.1
  have hn := hD.2.1
  have h5 := or_lt hs2 hb
  have h6 := p9 (show P.1 < 10 by omega)
  rw [CALL_eq]
  simp only [mxE_6, ent, entL, isL_int, isL_rf, isL_long, locS, List.length_cons, List.length_nil, List.cons_append, List.nil_append, List.replicate_succ, List.replicate_zero, Bool.false_eq_true, if_false, if_true, true_and, and_true, Nat.reduceAdd, Nat.reduceSub, Nat.reduceLeDiff, Nat.zero_le, Nat.le_refl, Nat.zero_add, Nat.add_zero, bI_0, bI_1, bI_n, Nat.reduceEqDiff, false_and, and_false, and_self, e_6_0, e_6_1, e_6_2, e_6_3, e_6_6, e_6_7, e_6_10, e_6_11, e_6_12, e_6_13, e_6_14, e_6_15, e_6_17, e_6_18, e_6_19, e_6_20, e_6_21, e_6_22, hs, s_waitB hD ha hb, one_sh (show b < 10 by omega), n_or, show (9 : Int32) = nI 9 from rfl, n_mul, n_add, n_in (show (s ||| 2 ^ b) * 9 + b < 4608 by omega) (by decide), n_cl (show (s ||| 2 ^ b) * 9 + b < 2 ^ 31 by omega), hv, true_or]
theorem gO_M {f s place : Nat} {lo : Option Nat} (hf : f ≤ 9) : ∀ k c, gO P (FF P f) s lo place k = some c → c < 1000 := fun k c h => by have := gO_lt h; omega
set_option maxRecDepth 8000 in
theorem l_leastF (hD : DX G x P) {d z s last f : Nat} {nx : Int32} {Q : Rt} (hL : LB G x P s) (hs2 : s < 2 ^ P.1) (hl : last < P.1) (hf : P.1 = pc s + (f + 1)) (hx : ∀ i, i < P.1 → bt nx i = (P.2.1 i (pc s) && !s.testBit i)) (hR : Q (some (.int (nI (cV P s last)))) G z) : ∀ (n i : Nat), i + n = P.1 →
    WP (d + 2) 5 Q 30 [some (va_rf (some (x + 6))), some (.int (nI s)), some (.int (nI (pc s))), some (.int (nI last)), some (.int nx), some (.int (nI (vM 1000 (bst (gO P (FF P f) s (some last) (pc s)) i)))), some (.int (nI i))] [] G z 0 0 := by
  obtain ⟨hs, hn, h1, h2, h3, h4⟩ := id hD
  have h9 := p9 (show P.1 < 10 by omega)
  intro n
  induction n with
  | zero =>
    intro i hi
    rw [e_5_30]
    simp only [ent, entL, isL_int, isL_rf, isL_long, locS, List.length_cons, List.length_nil, List.cons_append, List.nil_append, List.replicate_succ, List.replicate_zero, Bool.false_eq_true, if_false, if_true, true_and, and_true, Nat.reduceAdd, Nat.reduceSub, Nat.reduceLeDiff, Nat.zero_le, Nat.le_refl, Nat.zero_add, Nat.add_zero, bI_0, bI_1, bI_n, Nat.reduceEqDiff, false_and, and_false, and_self, e_5_32, e_5_33, e_5_36, e_5_39, e_5_41, e_5_43, e_5_46, e_5_49, e_5_51, e_5_52, e_5_53, e_5_54, e_5_56, e_5_59, e_5_62, e_5_64, e_5_67, e_5_70, e_5_72, hs, h1, n_le (show P.1 < 2 ^ 31 by omega) (show i < 2 ^ 31 by omega), show P.1 ≤ i by omega]
    have e : cV P s last = vM 1000 (bst (gO P (FF P f) s (some last) (pc s)) i) := by
      unfold cV
      rw [show P.1 - pc s = f + 1 by omega, FF, show P.1 - (f + 1) = pc s by omega, show i = P.1 by omega]
      cases bst (gO P (FF P f) s (some last) (pc s)) P.1 with
      | none => rfl
      | some q => rfl
    rw [← e]
    exact hR
  | succ n ih =>
    intro i hi
    have ih := ih (i + 1) (by omega)
    have hi1 : i < P.1 := by omega
    have hvM : vM 1000 (bst (gO P (FF P f) s (some last) (pc s)) i) ≤ 1000 := by
      cases hq : bst (gO P (FF P f) s (some last) (pc s)) i with
      | none => exact Nat.le_refl _
      | some q => obtain ⟨b, c⟩ := q; exact Nat.le_of_lt (gO_M (by omega) b c (bst_s hq).2.1)
    rw [e_5_30]
    by_cases c1 : P.2.1 i (pc s) = true ∧ s.testBit i = false
    · have hb : bt nx i = true := by rw [hx i hi1, c1.1, c1.2]; rfl
      have hpc := pc_or (show s < 512 by omega) (show i < 9 by omega) c1.2
      have hv : mE G (x + 10) ((s ||| 2 ^ i) * 9 + i) = nI ((FF P f (s ||| 2 ^ i) (some i)).getD 1000) := by
        have := hL (s ||| 2 ^ i) i (or_gt c1.2) (or_lt hs2 hi1) hi1 (by rw [or_bit]; simp) (by rw [hpc, Nat.add_sub_cancel]; exact c1.1)
        unfold cV at this
        rw [hpc, show P.1 - (pc s + 1) = f by omega] at this
        exact this
      have hg : (FF P f (s ||| 2 ^ i) (some i)).getD 1000 ≤ 1000 := by
        cases h : FF P f (s ||| 2 ^ i) (some i) with
        | none => exact Nat.le_refl _
        | some c => have := FF_le h; simp only [Option.getD_some]; omega
      have hw := wt_le (P := P) (lo := some last) (k := i)
      have hsum : (if okO P (some last) i = true then wtO P (some last) i else 1000) + (FF P f (s ||| 2 ^ i) (some i)).getD 1000 ≤ 2002 := by split <;> omega
      have hst : bst (gO P (FF P f) s (some last) (pc s)) (i + 1) = if (if okO P (some last) i = true then wtO P (some last) i else 1000) + (FF P f (s ||| 2 ^ i) (some i)).getD 1000 < vM 1000 (bst (gO P (FF P f) s (some last) (pc s)) i) then some (i, (if okO P (some last) i = true then wtO P (some last) i else 1000) + (FF P f (s ||| 2 ^ i) (some i)).getD 1000) else bst (gO P (FF P f) s (some last) (pc s)) i := by
        refine bst_step (gO_M (by omega)) ?_
        by_cases c2 : okO P (some last) i = true
        · rw [if_pos c2]; exact gO_v c1.2 c1.1 c2
        · rw [if_neg c2]; exact Or.inl ⟨gO_n (fun q => c2 q.2.2), by omega⟩
      rw [hst] at ih
      simp only [ent, entL, isL_int, isL_rf, isL_long, locS, List.length_cons, List.length_nil, List.cons_append, List.nil_append, List.replicate_succ, List.replicate_zero, Bool.false_eq_true, if_false, if_true, true_and, and_true, Nat.reduceAdd, Nat.reduceSub, Nat.reduceLeDiff, Nat.zero_le, Nat.le_refl, Nat.zero_add, Nat.add_zero, bI_0, bI_1, bI_n, Nat.reduceEqDiff, false_and, and_false, and_self, e_5_32, e_5_33, e_5_36, e_5_39, e_5_41, e_5_43, e_5_46, e_5_49, e_5_51, e_5_52, e_5_53, e_5_54, e_5_56, e_5_59, e_5_62, e_5_64, e_5_67, e_5_70, e_5_72, hs, h1, n_le (show P.1 < 2 ^ 31 by omega) (show i < 2 ^ 31 by omega), show ¬ P.1 ≤ i by omega, s_has (show i < 9 by omega), hb, not_true, s_sumT hD hs2 hl hi1 hv, n_1, n_lt (show (if okO P (some last) i = true then wtO P (some last) i else 1000) + (FF P f (s ||| 2 ^ i) (some i)).getD 1000 < 2 ^ 31 by omega) (show vM 1000 (bst (gO P (FF P f) s (some last) (pc s)) i) < 2 ^ 31 by omega)]
      by_cases c3 : (if okO P (some last) i = true then wtO P (some last) i else 1000) + (FF P f (s ||| 2 ^ i) (some i)).getD 1000 < vM 1000 (bst (gO P (FF P f) s (some last) (pc s)) i)
      · rw [if_pos c3] at ih
        rw [if_pos c3]
        exact ih
      · rw [if_neg c3] at ih
        rw [if_neg c3]
        exact ih
    · have hb : ¬ bt nx i = true := by
        rw [hx i hi1, Bool.and_eq_true, Bool.not_eq_true']
        exact c1
      rw [bst_no (gO_n (fun q => c1 ⟨q.2.1, q.1⟩))] at ih
      simp only [ent, entL, isL_int, isL_rf, isL_long, locS, List.length_cons, List.length_nil, List.cons_append, List.nil_append, List.replicate_succ, List.replicate_zero, Bool.false_eq_true, if_false, if_true, true_and, and_true, Nat.reduceAdd, Nat.reduceSub, Nat.reduceLeDiff, Nat.zero_le, Nat.le_refl, Nat.zero_add, Nat.add_zero, bI_0, bI_1, bI_n, Nat.reduceEqDiff, false_and, and_false, and_self, e_5_32, e_5_33, e_5_36, e_5_39, e_5_41, e_5_43, e_5_46, e_5_49, e_5_51, e_5_52, e_5_53, e_5_54, e_5_56, e_5_59, e_5_62, e_5_64, e_5_67, e_5_70, e_5_72, hs, h1, n_le (show P.1 < 2 ^ 31 by omega) (show i < 2 ^ 31 by omega), show ¬ P.1 ≤ i by omega, s_has (show i < 9 by omega), hb, not_false_iff, n_1]
      exact ih
theorem nx_bt (hD : DX G x P) {s p i : Nat} (hp : p < P.1) (hi : i < P.1) : bt (mE G (x + 9) p &&& (nI s ^^^ -1)) i = (P.2.1 i p && !s.testBit i) := by
  have hn := hD.2.1
  rw [bt_and, bt_not (by omega), bt_n (by omega), hD.2.2.2.2.2 p i hp hi]
set_option maxRecDepth 8000 in
theorem s_leastF (hD : DX G x P) {d z s last : Nat} {Q : Rt} (hL : LB G x P s) (hs2 : s < 2 ^ P.1) (hl : last < P.1) (hR : Q (some (.int (nI (cV P s last)))) G z) : CALL (d + 3) 5 [va_rf (some (x + 6)), .int (nI s), .int (nI (pc s)), .int (nI last)] G z Q := by
  obtain ⟨hs, hn, h1, h2, h3, h4⟩ := id hD
  have hpc := pc_f (show P.1 < 10 by omega) hs2
  rw [CALL_eq]
  by_cases c : pc s < P.1
  · simp only [mxE_5, ent, entL, isL_int, isL_rf, isL_long, locS, List.length_cons, List.length_nil, List.cons_append, List.nil_append, List.replicate_succ, List.replicate_zero, Bool.false_eq_true, if_false, if_true, true_and, and_true, Nat.reduceAdd, Nat.reduceSub, Nat.reduceLeDiff, Nat.zero_le, Nat.le_refl, Nat.zero_add, Nat.add_zero, bI_0, bI_1, bI_n, Nat.reduceEqDiff, false_and, and_false, and_self, e_5_0, e_5_1, e_5_2, e_5_5, e_5_8, e_5_9, e_5_10, e_5_11, e_5_14, e_5_15, e_5_16, e_5_17, e_5_18, e_5_19, e_5_20, e_5_22, e_5_25, e_5_27, e_5_28, hs, h1, n_lt (show pc s < 2 ^ 31 by omega) (show P.1 < 2 ^ 31 by omega), c, n_in (show pc s < 9 by omega) (by decide), n_cl (show pc s < 2 ^ 31 by omega), true_or]
    exact l_leastF hD (f := P.1 - pc s - 1) hL hs2 hl (by omega) (fun i hi => nx_bt hD c hi) hR P.1 0 (by omega)
  · have e : cV P s last = 0 := by unfold cV; rw [show P.1 - pc s = 0 by omega]; rfl
    rw [e] at hR
    simp only [mxE_5, ent, entL, isL_int, isL_rf, isL_long, locS, List.length_cons, List.length_nil, List.cons_append, List.nil_append, List.replicate_succ, List.replicate_zero, Bool.false_eq_true, if_false, if_true, true_and, and_true, Nat.reduceAdd, Nat.reduceSub, Nat.reduceLeDiff, Nat.zero_le, Nat.le_refl, Nat.zero_add, Nat.add_zero, bI_0, bI_1, bI_n, Nat.reduceEqDiff, false_and, and_false, and_self, e_5_0, e_5_1, e_5_2, e_5_5, e_5_8, e_5_9, hs, h1, n_lt (show pc s < 2 ^ 31 by omega) (show P.1 < 2 ^ 31 by omega), c]
    exact hR
/-- nothing but the least sums has changed -/
def BX (x : Nat) (G G' : Mem) : Prop := (∀ a, mK G' a = mK G a) ∧ (∀ a, mN G' a = mN G a) ∧ (∀ c k a, mI G' c k a = mI G c k a) ∧ (∀ c k a, mR G' c k a = mR G c k a) ∧ (∀ a i, ¬ a = x + 10 → mE G' a i = mE G a i) ∧ ∀ a i, mQ G' a i = mQ G a i
theorem BX.rf : BX x G G := ⟨fun _ => rfl, fun _ => rfl, fun _ _ _ => rfl, fun _ _ _ => rfl, fun _ _ _ => rfl, fun _ _ => rfl⟩
theorem BX.tr {G1 G2 : Mem} (h : BX x G G1) (h2 : BX x G1 G2) : BX x G G2 :=
  ⟨fun a => (h2.1 a).trans (h.1 a), fun a => (h2.2.1 a).trans (h.2.1 a), fun c k a => (h2.2.2.1 c k a).trans (h.2.2.1 c k a), fun c k a => (h2.2.2.2.1 c k a).trans (h.2.2.2.1 c k a), fun a i q => (h2.2.2.2.2.1 a i q).trans (h.2.2.2.2.1 a i q), fun a i => (h2.2.2.2.2.2 a i).trans (h.2.2.2.2.2 a i)⟩
theorem BX.pE {i : Nat} {v : Int32} : BX x G (pE G (x + 10) i v) := ⟨fun _ => rfl, fun _ => rfl, fun _ _ _ => rfl, fun _ _ _ => rfl, fun a k q => by simp [memS, q], fun _ _ => rfl⟩
theorem DX.bx {G' : Mem} (h : DX G x P) (q : BX x G G') : DX G' x P := by
  obtain ⟨hs, hn, h1, h2, h3, h4⟩ := h
  obtain ⟨q1, q2, q3, q4, q5, q6⟩ := q
  refine ⟨by simp only [XS, q1, q2, q4]; exact hs, hn, by rw [q3]; exact h1, fun i hi => by rw [q5 _ _ (by omega)]; exact h2 i hi, fun i hi => by rw [q5 _ _ (by omega)]; exact h3 i hi, fun p i hp hi => by rw [q5 _ _ (by omega)]; exact h4 p i hp hi⟩
/-- the least sums at s, below l -/
def LBl (G : Mem) (x : Nat) (P : OP) (s l : Nat) : Prop := ∀ last, last < l → last < P.1 → s.testBit last = true → P.2.1 last (pc s - 1) = true → mE G (x + 10) (s * 9 + last) = nI (cV P s last)
theorem LB.pE {s i : Nat} {v : Int32} (h : LB G x P s) (hi : i < 9) (hn : P.1 ≤ 9) : LB (pE G (x + 10) (s * 9 + i) v) x P s := by
  intro s' last h1 h2 h3 h4 h5
  have : ¬ s' * 9 + last = s * 9 + i := by omega
  simp [memS, this]
  exact h s' last h1 h2 h3 h4 h5
set_option maxRecDepth 8000 in
theorem l_findI {d z s : Nat} {ls : Int32} {Q : Rt} (hs0 : 0 < s) (hs2 : s < 2 ^ P.1) (hx : ∀ i, i < P.1 → bt ls i = (s.testBit i && P.2.1 i (pc s - 1))) (hR : ∀ G' o4, DX G' x P → LB G' x P (s - 1) → BX x G G' → WP (d + 3) 4 Q 76 [some (va_rf (some (x + 6))), some (.int (nI s)), some (.int (nI (pc s))), some (.int ls), some (.int o4)] [] G' z 0 0) : ∀ (n i : Nat) (G1 : Mem), i + n = P.1 → DX G1 x P → LB G1 x P s → LBl G1 x P s i → BX x G G1 →
    WP (d + 3) 4 Q 32 [some (va_rf (some (x + 6))), some (.int (nI s)), some (.int (nI (pc s))), some (.int ls), some (.int (nI i))] [] G1 z 0 0 := by
  intro n
  induction n with
  | zero =>
    intro i G1 hi hD hL hLl hF
    obtain ⟨hs, hn, h1, h2, h3, h4⟩ := id hD
    rw [e_4_32]
    simp only [ent, entL, isL_int, isL_rf, isL_long, locS, List.length_cons, List.length_nil, List.cons_append, List.nil_append, List.replicate_succ, List.replicate_zero, Bool.false_eq_true, if_false, if_true, true_and, and_true, Nat.reduceAdd, Nat.reduceSub, Nat.reduceLeDiff, Nat.zero_le, Nat.le_refl, Nat.zero_add, Nat.add_zero, bI_0, bI_1, bI_n, Nat.reduceEqDiff, false_and, and_false, and_self, e_4_34, e_4_35, e_4_38, hs, h1, n_le (show P.1 < 2 ^ 31 by omega) (show i < 2 ^ 31 by omega), show P.1 ≤ i by omega]
    refine hR G1 _ hD (fun s' last k1 k2 k3 k4 k5 => ?_) hF
    by_cases e : s' = s
    · subst e; exact hLl last (by omega) k3 k4 k5
    · exact hL s' last (by omega) k2 k3 k4 k5
  | succ n ih =>
    intro i G1 hi hD hL hLl hF
    obtain ⟨hs, hn, h1, h2, h3, h4⟩ := id hD
    have h9 := p9 (show P.1 < 10 by omega)
    have hi1 : i < P.1 := by omega
    have ih := ih (i + 1)
    rw [e_4_32]
    by_cases c1 : s.testBit i = true ∧ P.2.1 i (pc s - 1) = true
    · have hb : bt ls i = true := by rw [hx i hi1, c1.1, c1.2]; rfl
      simp only [ent, entL, isL_int, isL_rf, isL_long, locS, List.length_cons, List.length_nil, List.cons_append, List.nil_append, List.replicate_succ, List.replicate_zero, Bool.false_eq_true, if_false, if_true, true_and, and_true, Nat.reduceAdd, Nat.reduceSub, Nat.reduceLeDiff, Nat.zero_le, Nat.le_refl, Nat.zero_add, Nat.add_zero, bI_0, bI_1, bI_n, Nat.reduceEqDiff, false_and, and_false, and_self, e_4_34, e_4_35, e_4_38, e_4_41, e_4_42, e_4_44, e_4_47, e_4_50, e_4_51, e_4_54, e_4_55, e_4_57, e_4_58, e_4_60, e_4_61, e_4_62, e_4_63, e_4_64, e_4_66, hs, h1, n_le (show P.1 < 2 ^ 31 by omega) (show i < 2 ^ 31 by omega), show ¬ P.1 ≤ i by omega, s_has (show i < 9 by omega), hb, not_true, show (9 : Int32) = nI 9 from rfl, n_mul, n_add]
      refine s_leastF hD hL hs2 hi1 ?_
      simp only [ent, entL, isL_int, isL_rf, isL_long, locS, List.length_cons, List.length_nil, List.cons_append, List.nil_append, List.replicate_succ, List.replicate_zero, Bool.false_eq_true, if_false, if_true, true_and, and_true, Nat.reduceAdd, Nat.reduceSub, Nat.reduceLeDiff, Nat.zero_le, Nat.le_refl, Nat.zero_add, Nat.add_zero, bI_0, bI_1, bI_n, Nat.reduceEqDiff, false_and, and_false, and_self, e_4_69, e_4_70, e_4_73, hs, n_in (show s * 9 + i < 4608 by omega) (by decide), n_cl (show s * 9 + i < 2 ^ 31 by omega), n_1]
      refine ih _ (by omega) (hD.bx BX.pE) (hL.pE (by omega) hn) (fun last k1 k2 k3 k4 => ?_) (hF.tr BX.pE)
      by_cases e : last = i
      · subst e; simp [memS]
      · have : ¬ s * 9 + last = s * 9 + i := by omega
        simp [memS, e]
        exact hLl last (by omega) k2 k3 k4
    · have hb : ¬ bt ls i = true := by
        rw [hx i hi1, Bool.and_eq_true]
        exact c1
      simp only [ent, entL, isL_int, isL_rf, isL_long, locS, List.length_cons, List.length_nil, List.cons_append, List.nil_append, List.replicate_succ, List.replicate_zero, Bool.false_eq_true, if_false, if_true, true_and, and_true, Nat.reduceAdd, Nat.reduceSub, Nat.reduceLeDiff, Nat.zero_le, Nat.le_refl, Nat.zero_add, Nat.add_zero, bI_0, bI_1, bI_n, Nat.reduceEqDiff, false_and, and_false, and_self, e_4_34, e_4_35, e_4_38, e_4_41, e_4_42, e_4_44, e_4_47, e_4_50, e_4_51, e_4_54, e_4_55, e_4_57, e_4_58, e_4_60, e_4_61, e_4_62, e_4_63, e_4_64, e_4_66, e_4_69, e_4_70, e_4_73, hs, h1, n_le (show P.1 < 2 ^ 31 by omega) (show i < 2 ^ 31 by omega), show ¬ P.1 ≤ i by omega, s_has (show i < 9 by omega), hb, not_false_iff, n_1]
      refine ih _ (by omega) hD hL (fun last k1 k2 k3 k4 => ?_) hF
      by_cases e : last = i
      · subst e; exact absurd ⟨k3, k4⟩ c1
      · exact hLl last (by omega) k2 k3 k4
set_option maxRecDepth 8000 in
theorem l_find {d z : Nat} {Q : Rt} (hR : ∀ G', DX G' x P → LB G' x P 0 → BX x G G' → Q none G' z) : ∀ (s : Nat) (G1 : Mem) (o2 o3 : Option Value) (o4 : Option Value), s < 2 ^ P.1 → DX G1 x P → LB G1 x P s → BX x G G1 → (∀ v, o2 = some v → isL v = false) → (∀ v, o3 = some v → isL v = false) →
    WP (d + 3) 4 Q 9 [some (va_rf (some (x + 6))), some (.int (nI s)), o2, o3, o4] [] G1 z 0 0 := by
  intro s
  induction s with
  | zero =>
    intro G1 o2 o3 o4 hs2 hD hL hF ho2 ho3
    rw [e_4_9]
    simp only [ent, entL, isL_int, isL_rf, isL_long, locS, List.length_cons, List.length_nil, List.cons_append, List.nil_append, List.replicate_succ, List.replicate_zero, Bool.false_eq_true, if_false, if_true, true_and, and_true, Nat.reduceAdd, Nat.reduceSub, Nat.reduceLeDiff, Nat.zero_le, Nat.le_refl, Nat.zero_add, Nat.add_zero, bI_0, bI_1, bI_n, Nat.reduceEqDiff, false_and, and_false, and_self, e_4_10, e_4_82, show nI 0 ≤ 0 by decide]
    exact hR G1 hD hL hF
  | succ s ih =>
    intro G1 o2 o3 o4 hs2 hD hL hF ho2 ho3
    obtain ⟨hs, hn, h1, h2, h3, h4⟩ := id hD
    have h9 := p9 (show P.1 < 10 by omega)
    have hpc := pc_f (show P.1 < 10 by omega) hs2
    have hp0 := hpc.2.2 (by omega)
    rw [e_4_9]
    have e0 : ¬ nI (s + 1) ≤ 0 := by rw [show (0 : Int32) = nI 0 from rfl, n_le (by omega) (by decide)]; omega
    simp only [ent, entL, isL_int, isL_rf, isL_long, locS, List.length_cons, List.length_nil, List.cons_append, List.nil_append, List.replicate_succ, List.replicate_zero, Bool.false_eq_true, if_false, if_true, true_and, and_true, Nat.reduceAdd, Nat.reduceSub, Nat.reduceLeDiff, Nat.zero_le, Nat.le_refl, Nat.zero_add, Nat.add_zero, bI_0, bI_1, bI_n, Nat.reduceEqDiff, false_and, and_false, and_self, e_4_10, e_4_13, e_4_14, e_4_17, e0, s_bitCount (show s + 1 < 512 by omega)]
    have n2 : ∀ L : Lo, noL (o2 :: L) 1 = True := fun L => by
      cases o2 with
      | none => simp [noL, lgo]
      | some v => simp [noL, lgo, ho2 v rfl]
    have n3 : ∀ L : Lo, noL (o3 :: L) 1 = True := fun L => by
      cases o3 with
      | none => simp [noL, lgo]
      | some v => simp [noL, lgo, ho3 v rfl]
    simp only [ent, entL, isL_int, isL_rf, isL_long, locS, List.length_cons, List.length_nil, List.cons_append, List.nil_append, List.replicate_succ, List.replicate_zero, Bool.false_eq_true, if_false, if_true, true_and, and_true, Nat.reduceAdd, Nat.reduceSub, Nat.reduceLeDiff, Nat.zero_le, Nat.le_refl, Nat.zero_add, Nat.add_zero, bI_0, bI_1, bI_n, Nat.reduceEqDiff, false_and, and_false, and_self, e_4_18, e_4_19, e_4_20, e_4_23, e_4_24, e_4_25, e_4_26, e_4_27, e_4_28, e_4_29, e_4_30, hs, n2, n3, n_pred hp0, n_in (show pc (s + 1) - 1 < 9 by omega) (by decide), n_cl (show pc (s + 1) - 1 < 2 ^ 31 by omega), true_or]
    refine l_findI (G := G) (d := d) (by omega) hs2 (fun i hi => by rw [bt_and, bt_n (by omega), h4 _ _ (by omega) hi]) (fun G2 o4' hD2 hL2 hF2 => ?_) P.1 0 G1 (by omega) hD hL (fun last hl => by omega) hF
    have e1 : nI (s + 1) + -1 = nI s := by rw [← Int32.sub_eq_add_neg, n_pred (by omega)]; rfl
    simp only [ent, entL, isL_int, isL_rf, isL_long, locS, List.length_cons, List.length_nil, List.cons_append, List.nil_append, List.replicate_succ, List.replicate_zero, Bool.false_eq_true, if_false, if_true, true_and, and_true, Nat.reduceAdd, Nat.reduceSub, Nat.reduceLeDiff, Nat.zero_le, Nat.le_refl, Nat.zero_add, Nat.add_zero, bI_0, bI_1, bI_n, Nat.reduceEqDiff, false_and, and_false, and_self, e_4_76, e_4_79, e1]
    exact ih G2 _ _ _ (by omega) hD2 hL2 hF2 (fun v q => by cases q; rfl) (fun v q => by cases q; rfl)
set_option maxRecDepth 8000 in
theorem s_find (hD : DX G x P) {d z : Nat} {Q : Rt} (hR : ∀ G', DX G' x P → LB G' x P 0 → BX x G G' → Q none G' z) : CALL (d + 4) 4 [va_rf (some (x + 6))] G z Q := by
  obtain ⟨hs, hn, h1, h2, h3, h4⟩ := id hD
  have h9 := p9 (show P.1 < 10 by omega)
  have hp : 0 < 2 ^ P.1 := Nat.pow_pos (by decide)
  rw [CALL_eq]
  simp only [mxE_4, ent, entL, isL_int, isL_rf, isL_long, locS, List.length_cons, List.length_nil, List.cons_append, List.nil_append, List.replicate_succ, List.replicate_zero, Bool.false_eq_true, if_false, if_true, true_and, and_true, Nat.reduceAdd, Nat.reduceSub, Nat.reduceLeDiff, Nat.zero_le, Nat.le_refl, Nat.zero_add, Nat.add_zero, bI_0, bI_1, bI_n, Nat.reduceEqDiff, false_and, and_false, and_self, e_4_0, e_4_1, e_4_2, e_4_5, e_4_6, e_4_7, e_4_8, hs, h1, one_sh (show P.1 < 10 by omega), n_pred hp]
  exact l_find hR _ G none none none (by omega) hD (fun s' last k1 k2 => by omega) BX.rf (fun v q => by cases q) (fun v q => by cases q)
end
