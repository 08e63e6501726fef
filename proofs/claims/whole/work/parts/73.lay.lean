/-! the class's order: the first of the least, the row -/
def ixB (o : Option (Nat × Nat)) : Int32 := match o with
  | none => -1
  | some (b, _) => nI b
theorem pc_1 {i : Nat} (hi : i < 9) : pc (2 ^ i) = 1 := by
  have := pc_or (s := 0) (by decide) hi (by simp)
  rw [Nat.zero_or] at this
  rw [this]
  rfl
theorem vI0 : vp_in (0 : Int32) 9 = True := n_in (i := 0) (by decide) (by decide)
theorem cl0 : Int32.toNatClampNeg 0 = 0 := by decide
section
variable {G : Mem} {x : Nat} {P : OP}
theorem g0_v {P : OP} {f i : Nat} (hm : P.2.1 i 0 = true) : (gO P (FF P f) 0 none 0 i = none ∧ 1000 ≤ (FF P f (2 ^ i) (some i)).getD 1000) ∨ gO P (FF P f) 0 none 0 i = some ((FF P f (2 ^ i) (some i)).getD 1000) := by
  have := gO_v (P := P) (F := FF P f) (set := 0) (lo := none) (place := 0) (k := i) (M := 1000) (by simp) hm rfl
  rw [Nat.zero_or] at this
  rw [show wtO P none i = 0 from rfl, Nat.zero_add] at this
  exact this
theorem LB.one (hL : LB G x P 0) (hn : P.1 ≤ 9) {i : Nat} (hi : i < P.1) (hm : P.2.1 i 0 = true) : mE G (x + 10) (2 ^ i * 9 + i) = nI ((FF P (P.1 - 1) (2 ^ i) (some i)).getD 1000) := by
  have := hL (2 ^ i) i (Nat.pow_pos (by decide)) (Nat.pow_lt_pow_right (by decide) hi) hi (by rw [Nat.testBit_two_pow]; simp) (by rw [pc_1 (by omega)]; exact hm)
  unfold cV at this
  rw [pc_1 (by omega)] at this
  exact this
theorem FFg {P : OP} {f s last : Nat} : (FF P f s (some last)).getD 1000 ≤ 1000 ∨ f > 9 := by
  cases h : FF P f s (some last) with
  | none => exact Or.inl (Nat.le_refl _)
  | some c => have := FF_le h; simp only [Option.getD_some]; omega
set_option maxRecDepth 8000 in
theorem l_first (hD : DX G x P) {d z : Nat} {Q : Rt} (hL : LB G x P 0) (hR : Q (some (.int (ixB (bst (gO P (FF P (P.1 - 1)) 0 none 0) P.1)))) G z) : ∀ (n i : Nat), i + n = P.1 →
    WP (d + 1) 9 Q 8 [some (va_rf (some (x + 6))), some (.int (ixB (bst (gO P (FF P (P.1 - 1)) 0 none 0) i))), some (.int (nI (vM 1000 (bst (gO P (FF P (P.1 - 1)) 0 none 0) i)))), some (.int (nI i))] [] G z 0 0 := by
  obtain ⟨hs, hn, h1, h2, h3, h4⟩ := id hD
  have h9 := p9 (show P.1 < 10 by omega)
  intro n
  induction n with
  | zero =>
    intro i hi
    rw [e_9_8]
    simp only [ent, entL, isL_int, isL_rf, isL_long, locS, List.length_cons, List.length_nil, List.cons_append, List.nil_append, List.replicate_succ, List.replicate_zero, Bool.false_eq_true, if_false, if_true, true_and, and_true, Nat.reduceAdd, Nat.reduceSub, Nat.reduceLeDiff, Nat.zero_le, Nat.le_refl, Nat.zero_add, Nat.add_zero, bI_0, bI_1, bI_n, Nat.reduceEqDiff, false_and, and_false, and_self, e_9_9, e_9_10, e_9_13, e_9_16, e_9_17, e_9_20, e_9_21, e_9_22, e_9_23, e_9_26, e_9_29, e_9_30, e_9_33, e_9_34, e_9_35, e_9_36, e_9_38, e_9_39, e_9_40, e_9_41, e_9_42, e_9_43, e_9_46, e_9_47, e_9_50, e_9_51, e_9_52, e_9_53, e_9_55, e_9_56, e_9_57, e_9_58, e_9_59, e_9_60, e_9_61, e_9_62, e_9_65, e_9_68, e_9_69, hs, h1, n_le (show P.1 < 2 ^ 31 by omega) (show i < 2 ^ 31 by omega), show P.1 ≤ i by omega]
    rw [show i = P.1 by omega]
    exact hR
  | succ n ih =>
    intro i hi
    have ih := ih (i + 1) (by omega)
    have hi1 : i < P.1 := by omega
    have hp2 : 2 ^ i < 2 ^ P.1 := Nat.pow_lt_pow_right (by decide) hi1
    have hvM : vM 1000 (bst (gO P (FF P (P.1 - 1)) 0 none 0) i) ≤ 1000 := by
      cases hq : bst (gO P (FF P (P.1 - 1)) 0 none 0) i with
      | none => exact Nat.le_refl _
      | some q => obtain ⟨b, c⟩ := q; exact Nat.le_of_lt (gO_M (by omega) b c (bst_s hq).2.1)
    have hb : bt (mE G (x + 9) 0) i = P.2.1 i 0 := h4 0 i (by omega) hi1
    rw [e_9_8]
    by_cases c1 : P.2.1 i 0 = true
    · have hv := hL.one hn hi1 c1
      have hg := (FFg (P := P) (f := P.1 - 1) (s := 2 ^ i) (last := i)).resolve_right (by omega)
      have hst := bst_step (i := i) (gO_M (P := P) (f := P.1 - 1) (s := 0) (place := 0) (lo := none) (by omega)) (g0_v (P := P) (f := P.1 - 1) c1)
      rw [hst] at ih
      generalize (FF P (P.1 - 1) (2 ^ i) (some i)).getD 1000 = v at *
      simp only [ent, entL, isL_int, isL_rf, isL_long, locS, List.length_cons, List.length_nil, List.cons_append, List.nil_append, List.replicate_succ, List.replicate_zero, Bool.false_eq_true, if_false, if_true, true_and, and_true, Nat.reduceAdd, Nat.reduceSub, Nat.reduceLeDiff, Nat.zero_le, Nat.le_refl, Nat.zero_add, Nat.add_zero, bI_0, bI_1, bI_n, Nat.reduceEqDiff, false_and, and_false, and_self, e_9_9, e_9_10, e_9_13, e_9_16, e_9_17, e_9_20, e_9_21, e_9_22, e_9_23, e_9_26, e_9_29, e_9_30, e_9_33, e_9_34, e_9_35, e_9_36, e_9_38, e_9_39, e_9_40, e_9_41, e_9_42, e_9_43, e_9_46, e_9_47, e_9_50, e_9_51, e_9_52, e_9_53, e_9_55, e_9_56, e_9_57, e_9_58, e_9_59, e_9_60, e_9_61, e_9_62, e_9_65, hs, h1, n_le (show P.1 < 2 ^ 31 by omega) (show i < 2 ^ 31 by omega), show ¬ P.1 ≤ i by omega, s_has (show i < 9 by omega), vI0, cl0, hb, c1, not_true, one_sh (show i < 10 by omega), show (9 : Int32) = nI 9 from rfl, n_mul, n_add, n_in (show 2 ^ i * 9 + i < 4608 by omega) (by decide), n_cl (show 2 ^ i * 9 + i < 2 ^ 31 by omega), hv, true_or, n_1, n_le (show vM 1000 (bst (gO P (FF P (P.1 - 1)) 0 none 0) i) < 2 ^ 31 by omega) (show v < 2 ^ 31 by omega)]
      by_cases c3 : v < vM 1000 (bst (gO P (FF P (P.1 - 1)) 0 none 0) i)
      · rw [if_pos c3] at ih
        rw [if_neg (by omega)]
        exact ih
      · rw [if_neg c3] at ih
        rw [if_pos (by omega)]
        exact ih
    · rw [bst_no (gO_n (fun q => c1 q.2.1))] at ih
      simp only [ent, entL, isL_int, isL_rf, isL_long, locS, List.length_cons, List.length_nil, List.cons_append, List.nil_append, List.replicate_succ, List.replicate_zero, Bool.false_eq_true, if_false, if_true, true_and, and_true, Nat.reduceAdd, Nat.reduceSub, Nat.reduceLeDiff, Nat.zero_le, Nat.le_refl, Nat.zero_add, Nat.add_zero, bI_0, bI_1, bI_n, Nat.reduceEqDiff, false_and, and_false, and_self, e_9_9, e_9_10, e_9_13, e_9_16, e_9_17, e_9_20, e_9_21, e_9_22, e_9_23, e_9_26, e_9_29, e_9_30, e_9_33, e_9_34, e_9_35, e_9_36, e_9_38, e_9_39, e_9_40, e_9_41, e_9_42, e_9_43, e_9_46, e_9_47, e_9_50, e_9_51, e_9_52, e_9_53, e_9_55, e_9_56, e_9_57, e_9_58, e_9_59, e_9_60, e_9_61, e_9_62, e_9_65, hs, h1, n_le (show P.1 < 2 ^ 31 by omega) (show i < 2 ^ 31 by omega), show ¬ P.1 ≤ i by omega, s_has (show i < 9 by omega), vI0, cl0, hb, c1, not_false_iff, n_1, true_or]
      exact ih
set_option maxRecDepth 8000 in
theorem s_first (hD : DX G x P) {d z : Nat} {Q : Rt} (hL : LB G x P 0) (hR : Q (some (.int (ixB (bst (gO P (FF P (P.1 - 1)) 0 none 0) P.1)))) G z) : CALL (d + 2) 9 [va_rf (some (x + 6))] G z Q := by
  rw [CALL_eq]
  simp only [mxE_9, ent, entL, isL_int, isL_rf, isL_long, locS, List.length_cons, List.length_nil, List.cons_append, List.nil_append, List.replicate_succ, List.replicate_zero, Bool.false_eq_true, if_false, if_true, true_and, and_true, Nat.reduceAdd, Nat.reduceSub, Nat.reduceLeDiff, Nat.zero_le, Nat.le_refl, Nat.zero_add, Nat.add_zero, bI_0, bI_1, bI_n, Nat.reduceEqDiff, false_and, and_false, and_self, e_9_0, e_9_1, e_9_2, e_9_5, e_9_6, e_9_7]
  exact l_first hD hL hR P.1 0 (by omega)
set_option maxRecDepth 8000 in
theorem l_next (hD : DX G x P) {d z s last f b c p : Nat} {nx : Int32} {Q : Rt} (hL : LB G x P 0) (hs2 : s < 2 ^ P.1) (hl : last < P.1) (hf : P.1 = pc s + (f + 1)) (hx : ∀ i, i < P.1 → bt nx i = (P.2.1 i (pc s) && !s.testBit i)) (hbst : bst (gO P (FF P f) s (some last) (pc s)) P.1 = some (b, c)) (hR : Q (some (.int (nI b))) G z) : ∀ (n i : Nat), i + n = b →
    WP (d + 2) 10 Q 28 [some (va_rf (some (x + 6))), some (.int (nI s)), some (.int (nI p)), some (.int (nI last)), some (.int nx), some (.int (nI c)), some (.int (nI i))] [] G z 0 0 := by
  obtain ⟨hs, hn, h1, h2, h3, h4⟩ := id hD
  have h9 := p9 (show P.1 < 10 by omega)
  obtain ⟨k1, k2, k3, k4⟩ := bst_s hbst
  have hc : c < 1000 := gO_M (by omega) b c k2
  have hval : ∀ i, i < P.1 → P.2.1 i (pc s) = true → s.testBit i = false → mE G (x + 10) ((s ||| 2 ^ i) * 9 + i) = nI ((FF P f (s ||| 2 ^ i) (some i)).getD 1000) := by
    intro i hi1 c1 c2
    have hpc := pc_or (show s < 512 by omega) (show i < 9 by omega) c2
    have := hL (s ||| 2 ^ i) i (Nat.lt_of_le_of_lt (Nat.zero_le _) (or_gt c2)) (or_lt hs2 hi1) hi1 (by rw [or_bit]; simp) (by rw [hpc, Nat.add_sub_cancel]; exact c1)
    unfold cV at this
    rw [hpc, show P.1 - (pc s + 1) = f by omega] at this
    exact this
  intro n
  induction n with
  | zero =>
    intro i hi
    have hi : i = b := by omega
    subst hi
    obtain ⟨m1, m2, m3, c', m4, m5⟩ := gO_s k2
    have hb : bt nx i = true := by rw [hx i k1, m1, m2]; rfl
    have hv := hval i k1 m2 m1
    have hg := (FFg (P := P) (f := f) (s := s ||| 2 ^ i) (last := i)).resolve_right (by omega)
    have hw := wt_le (P := P) (lo := some last) (k := i)
    rw [e_10_28]
    have e : wtO P (some last) i + (FF P f (s ||| 2 ^ i) (some i)).getD 1000 = c := by rw [m4, m5]; simp [Nat.add_comm]
    simp only [ent, entL, isL_int, isL_rf, isL_long, locS, List.length_cons, List.length_nil, List.cons_append, List.nil_append, List.replicate_succ, List.replicate_zero, Bool.false_eq_true, if_false, if_true, true_and, and_true, Nat.reduceAdd, Nat.reduceSub, Nat.reduceLeDiff, Nat.zero_le, Nat.le_refl, Nat.zero_add, Nat.add_zero, bI_0, bI_1, bI_n, Nat.reduceEqDiff, false_and, and_false, and_self, e_10_30, e_10_31, e_10_34, e_10_37, e_10_39, e_10_41, e_10_44, e_10_47, e_10_48, e_10_49, e_10_50, e_10_52, e_10_55, e_10_57, e_10_60, e_10_62, hs, h1, n_le (show P.1 < 2 ^ 31 by omega) (show i < 2 ^ 31 by omega), show ¬ P.1 ≤ i by omega, s_has (show i < 9 by omega), hb, not_true, s_sumT hD hs2 hl k1 hv, m3, e]
    exact hR
  | succ n ih =>
    intro i hi
    have ih := ih (i + 1) (by omega)
    have hi1 : i < P.1 := by omega
    rw [e_10_28]
    by_cases c1 : P.2.1 i (pc s) = true ∧ s.testBit i = false
    · have hb : bt nx i = true := by rw [hx i hi1, c1.1, c1.2]; rfl
      have hv := hval i hi1 c1.1 c1.2
      have hg := (FFg (P := P) (f := f) (s := s ||| 2 ^ i) (last := i)).resolve_right (by omega)
      have hw := wt_le (P := P) (lo := some last) (k := i)
      have hne : ¬ (if okO P (some last) i = true then wtO P (some last) i else 1000) + (FF P f (s ||| 2 ^ i) (some i)).getD 1000 = c := by
        by_cases c2 : okO P (some last) i = true
        · rw [if_pos c2]
          rcases gO_v (P := P) (F := FF P f) (set := s) (lo := some last) (place := pc s) (k := i) (M := 1000) c1.2 c1.1 c2 with q | q
          · omega
          · intro e
            rw [e] at q
            exact k3 i (by omega) q
        · rw [if_neg c2]; omega
      have hsum : (if okO P (some last) i = true then wtO P (some last) i else 1000) + (FF P f (s ||| 2 ^ i) (some i)).getD 1000 ≤ 2002 := by split <;> omega
      simp only [ent, entL, isL_int, isL_rf, isL_long, locS, List.length_cons, List.length_nil, List.cons_append, List.nil_append, List.replicate_succ, List.replicate_zero, Bool.false_eq_true, if_false, if_true, true_and, and_true, Nat.reduceAdd, Nat.reduceSub, Nat.reduceLeDiff, Nat.zero_le, Nat.le_refl, Nat.zero_add, Nat.add_zero, bI_0, bI_1, bI_n, Nat.reduceEqDiff, false_and, and_false, and_self, e_10_30, e_10_31, e_10_34, e_10_37, e_10_39, e_10_41, e_10_44, e_10_47, e_10_48, e_10_49, e_10_50, e_10_52, e_10_55, e_10_57, e_10_60, e_10_62, e_10_63, e_10_66, hs, h1, n_le (show P.1 < 2 ^ 31 by omega) (show i < 2 ^ 31 by omega), show ¬ P.1 ≤ i by omega, s_has (show i < 9 by omega), hb, not_true, s_sumT hD hs2 hl hi1 hv, n_1, n_eq (show (if okO P (some last) i = true then wtO P (some last) i else 1000) + (FF P f (s ||| 2 ^ i) (some i)).getD 1000 < 2 ^ 31 by omega) (show c < 2 ^ 31 by omega)]
      rw [if_neg hne]
      exact ih
    · have hb : ¬ bt nx i = true := by
        rw [hx i hi1, Bool.and_eq_true, Bool.not_eq_true']
        exact c1
      simp only [ent, entL, isL_int, isL_rf, isL_long, locS, List.length_cons, List.length_nil, List.cons_append, List.nil_append, List.replicate_succ, List.replicate_zero, Bool.false_eq_true, if_false, if_true, true_and, and_true, Nat.reduceAdd, Nat.reduceSub, Nat.reduceLeDiff, Nat.zero_le, Nat.le_refl, Nat.zero_add, Nat.add_zero, bI_0, bI_1, bI_n, Nat.reduceEqDiff, false_and, and_false, and_self, e_10_30, e_10_31, e_10_34, e_10_37, e_10_39, e_10_41, e_10_44, e_10_47, e_10_48, e_10_49, e_10_50, e_10_52, e_10_55, e_10_57, e_10_60, e_10_62, e_10_63, e_10_66, hs, h1, n_le (show P.1 < 2 ^ 31 by omega) (show i < 2 ^ 31 by omega), show ¬ P.1 ≤ i by omega, s_has (show i < 9 by omega), hb, not_false_iff, n_1]
      exact ih
set_option maxRecDepth 8000 in
theorem s_next (hD : DX G x P) {d z s last f b c : Nat} {Q : Rt} (hL : LB G x P 0) (hs0 : 0 < s) (hs2 : s < 2 ^ P.1) (hl : last < P.1) (hbit : s.testBit last = true) (hmay : P.2.1 last (pc s - 1) = true) (hf : P.1 = pc s + (f + 1)) (hbst : bst (gO P (FF P f) s (some last) (pc s)) P.1 = some (b, c)) (hR : Q (some (.int (nI b))) G z) : CALL (d + 3) 10 [va_rf (some (x + 6)), .int (nI s), .int (nI (pc s)), .int (nI last)] G z Q := by
  obtain ⟨hs, hn, h1, h2, h3, h4⟩ := id hD
  have h9 := p9 (show P.1 < 10 by omega)
  have hv := hL s last hs0 hs2 hl hbit hmay
  have hc : cV P s last = c := by
    unfold cV
    rw [show P.1 - pc s = f + 1 by omega, FF, show P.1 - (f + 1) = pc s by omega, hbst]
    rfl
  rw [hc] at hv
  rw [CALL_eq]
  simp only [mxE_10, ent, entL, isL_int, isL_rf, isL_long, locS, List.length_cons, List.length_nil, List.cons_append, List.nil_append, List.replicate_succ, List.replicate_zero, Bool.false_eq_true, if_false, if_true, true_and, and_true, Nat.reduceAdd, Nat.reduceSub, Nat.reduceLeDiff, Nat.zero_le, Nat.le_refl, Nat.zero_add, Nat.add_zero, bI_0, bI_1, bI_n, Nat.reduceEqDiff, false_and, and_false, and_self, e_10_0, e_10_1, e_10_4, e_10_5, e_10_6, e_10_7, e_10_8, e_10_9, e_10_10, e_10_12, e_10_13, e_10_16, e_10_17, e_10_19, e_10_20, e_10_21, e_10_22, e_10_23, e_10_25, e_10_26, hs, n_in (show pc s < 9 by omega) (by decide), n_cl (show pc s < 2 ^ 31 by omega), show (9 : Int32) = nI 9 from rfl, n_mul, n_add, n_in (show s * 9 + last < 4608 by omega) (by decide), n_cl (show s * 9 + last < 2 ^ 31 by omega), hv, true_or]
  exact l_next hD (d := d) hL hs2 hl hf (fun i hi => nx_bt hD (by omega) hi) hbst hR b 0 (by omega)
/-- nothing but the row and its sum has changed -/
def AX (x : Nat) (G G' : Mem) : Prop := (∀ a, mK G' a = mK G a) ∧ (∀ a, mN G' a = mN G a) ∧ (∀ c k a, ¬ (c = 0 ∧ k = 6) → mI G' c k a = mI G c k a) ∧ (∀ c k a, mR G' c k a = mR G c k a) ∧ (∀ a i, ¬ a = x + 11 → mE G' a i = mE G a i) ∧ ∀ a i, mQ G' a i = mQ G a i
theorem AX.rf : AX x G G := ⟨fun _ => rfl, fun _ => rfl, fun _ _ _ _ => rfl, fun _ _ _ => rfl, fun _ _ _ => rfl, fun _ _ => rfl⟩
theorem AX.tr {G1 G2 : Mem} (h : AX x G G1) (h2 : AX x G1 G2) : AX x G G2 :=
  ⟨fun a => (h2.1 a).trans (h.1 a), fun a => (h2.2.1 a).trans (h.2.1 a), fun c k a q => (h2.2.2.1 c k a q).trans (h.2.2.1 c k a q), fun c k a => (h2.2.2.2.1 c k a).trans (h.2.2.2.1 c k a), fun a i q => (h2.2.2.2.2.1 a i q).trans (h.2.2.2.2.1 a i q), fun a i => (h2.2.2.2.2.2 a i).trans (h.2.2.2.2.2 a i)⟩
theorem AX.pE {i : Nat} {v : Int32} : AX x G (pE G (x + 11) i v) := ⟨fun _ => rfl, fun _ => rfl, fun _ _ _ _ => rfl, fun _ _ _ => rfl, fun a k q => by simp [memS, q], fun _ _ => rfl⟩
theorem AX.pI {a : Nat} {v : Int32} : AX x G (pI G 0 6 a v) := ⟨fun _ => rfl, fun _ => rfl, fun c k a q => by
  have : ¬ (c = 0 ∧ k = 6 ∧ a = a) := fun e => q ⟨e.1, e.2.1⟩
  simp only [memS]
  rw [if_neg (fun e => q ⟨e.1, e.2.1⟩)], fun _ _ _ => rfl, fun _ _ _ => rfl, fun _ _ => rfl⟩
theorem AX.sx {G' : Mem} (h : AX x G G') : SX x G G' := ⟨h.1, h.2.1, fun c k a q => h.2.2.1 c k a (by omega), h.2.2.2.1, fun a i q => h.2.2.2.2.1 a i (by omega), fun a i _ => h.2.2.2.2.2 a i⟩
theorem BX.sx {G' : Mem} (h : BX x G G') : SX x G G' := ⟨h.1, h.2.1, fun c k a _ => h.2.2.1 c k a, h.2.2.2.1, fun a i q => h.2.2.2.2.1 a i (by omega), fun a i _ => h.2.2.2.2.2 a i⟩
theorem DX.ax {G' : Mem} (h : DX G x P) (q : AX x G G') : DX G' x P := by
  obtain ⟨hs, hn, h1, h2, h3, h4⟩ := h
  obtain ⟨q1, q2, q3, q4, q5, q6⟩ := q
  refine ⟨by simp only [XS, q1, q2, q4]; exact hs, hn, by rw [q3 _ _ _ (by omega)]; exact h1, fun i hi => by rw [q5 _ _ (by omega)]; exact h2 i hi, fun i hi => by rw [q5 _ _ (by omega)]; exact h3 i hi, fun p i hp hi => by rw [q5 _ _ (by omega)]; exact h4 p i hp hi⟩
theorem LB.ax {G' : Mem} {s : Nat} (h : LB G x P s) (q : AX x G G') : LB G' x P s := fun s' last h1 h2 h3 h4 h5 => by rw [q.2.2.2.2.1 _ _ (by omega)]; exact h s' last h1 h2 h3 h4 h5
theorem BillOK.ax {G' : Mem} {ta : Nat → Nat} {l : List Nat} (h : BillOK G x ta l) (q : AX x G G') : BillOK G' x ta l := ⟨by rw [q.2.2.1 _ _ _ (by omega)]; exact h.1, h.2.1, fun k t hk => by rw [q.2.2.2.2.2]; exact h.2.2 k t hk⟩
theorem BillOK.bx {G' : Mem} {ta : Nat → Nat} {l : List Nat} (h : BillOK G x ta l) (q : BX x G G') : BillOK G' x ta l := ⟨by rw [q.2.2.1]; exact h.1, h.2.1, fun k t hk => by rw [q.2.2.2.2.2]; exact h.2.2 k t hk⟩
theorem s_numB {ta ha ca : Nat → Nat} {S : St} {B : List Nat} (hX : RX G x ta ha ca S) (hB : BillOK G x ta B) (hlt : ∀ t ∈ B, t < sN S 1) {d z b : Nat} (hb : b < B.length) {Q : Rt} : CALL (d + 3) 15 [va_rf (some (x + 4)), .int (nI b)] G z Q = Q (some (.int (nI (B.getD b 0)))) G z := by
  have h9 := hB.2.1
  rw [s_numberAtB hX hB hlt, ix_n (by omega) hb]
  simp only [Option.bind_some, List.getElem?_eq_getElem hb, List.getD_eq_getElem?_getD, Option.getD_some]
/-- the row lies -/
def LY (G : Mem) (x : Nat) (P : OP) (B : List Nat) : Prop := mI G 0 5 (x + 6) = nI P.1 ∧ match FF P P.1 0 none with
  | none => mI G 0 6 (x + 6) = -1
  | some c => mI G 0 6 (x + 6) = nI c ∧ ∀ j b, (ly P P.1 0 none)[j]? = some b → mE G (x + 11) j = nI (B.getD b 0)
section
variable {ta ha ca : Nat → Nat} {S : St} {B : List Nat}
set_option maxRecDepth 8000 in
theorem l_lay (hX : RX G x ta ha ca S) (hBl : BillOK G x ta B) (hlt : ∀ t ∈ B, t < sN S 1) (hD : DX G x P) (hL : LB G x P 0) (hP : P.1 = B.length) {d z : Nat} {Q : Rt}
    (hR : ∀ G', AX x G G' → (∀ j b, (ly P P.1 0 none)[j]? = some b → mE G' (x + 11) j = nI (B.getD b 0)) → mI G' 0 6 (x + 6) = mI G 0 6 (x + 6) → Q none G' z) :
    ∀ (f s last c : Nat) (pre : List Nat) (G1 : Mem), pc s + f = P.1 → 0 < s → s < 2 ^ P.1 → last < P.1 → s.testBit last = true → P.2.1 last (pc s - 1) = true → FF P f s (some last) = some c → pre ++ ly P f s (some last) = ly P P.1 0 none → pre.length = pc s → (∀ j b, pre[j]? = some b → mE G1 (x + 11) j = nI (B.getD b 0)) → AX x G G1 → mI G1 0 6 (x + 6) = mI G 0 6 (x + 6) →
    WP (d + 3) 8 Q 46 [some (va_rf (some (x + 6))), some (va_rf (some (x + 4))), some (.int (nI last)), some (.int (nI s)), some (.int (nI (pc s)))] [] G1 z 0 0 := by
  intro f
  induction f with
  | zero =>
    intro s last c pre G1 hf hs0 hs2 hl hbit hmay hF hpre hpl hrow hA hsm
    have hD1 := hD.ax hA
    obtain ⟨hs, hn, h1, h2, h3, h4⟩ := id hD1
    rw [e_8_46]
    simp only [ent, entL, isL_int, isL_rf, isL_long, locS, List.length_cons, List.length_nil, List.cons_append, List.nil_append, List.replicate_succ, List.replicate_zero, Bool.false_eq_true, if_false, if_true, true_and, and_true, Nat.reduceAdd, Nat.reduceSub, Nat.reduceLeDiff, Nat.zero_le, Nat.le_refl, Nat.zero_add, Nat.add_zero, bI_0, bI_1, bI_n, Nat.reduceEqDiff, false_and, and_false, and_self, e_8_48, e_8_49, e_8_52, e_8_102, hs, h1, n_le (show P.1 < 2 ^ 31 by omega) (show pc s < 2 ^ 31 by omega), show P.1 ≤ pc s by omega]
    refine hR G1 hA ?_ hsm
    rw [ly, List.append_nil] at hpre
    rw [← hpre]
    exact hrow
  | succ f ih =>
    intro s last c pre G1 hf hs0 hs2 hl hbit hmay hF hpre hpl hrow hA hsm
    have hD1 := hD.ax hA
    have hL1 := hL.ax hA
    have hX1 := hX.sx hA.sx
    have hB1 := hBl.ax hA
    obtain ⟨hs, hn, h1, h2, h3, h4⟩ := id hD1
    have h9 := p9 (show P.1 < 10 by omega)
    rw [FF, show P.1 - (f + 1) = pc s by omega] at hF
    rw [ly, show P.1 - (f + 1) = pc s by omega] at hpre
    cases hb : bst (gO P (FF P f) s (some last) (pc s)) P.1 with
    | none => rw [hb] at hF; cases hF
    | some q =>
      obtain ⟨b, c0⟩ := q
      rw [hb] at hpre
      dsimp only at hpre
      obtain ⟨k1, k2, k3, k4⟩ := bst_s hb
      obtain ⟨m1, m2, m3, c', m4, m5⟩ := gO_s k2
      have hpc := pc_or (show s < 512 by omega) (show b < 9 by omega) m1
      rw [e_8_46]
      simp only [ent, entL, isL_int, isL_rf, isL_long, locS, List.length_cons, List.length_nil, List.cons_append, List.nil_append, List.replicate_succ, List.replicate_zero, Bool.false_eq_true, if_false, if_true, true_and, and_true, Nat.reduceAdd, Nat.reduceSub, Nat.reduceLeDiff, Nat.zero_le, Nat.le_refl, Nat.zero_add, Nat.add_zero, bI_0, bI_1, bI_n, Nat.reduceEqDiff, false_and, and_false, and_self, e_8_48, e_8_49, e_8_52, e_8_55, e_8_56, e_8_57, e_8_60, e_8_61, e_8_62, e_8_64, e_8_65, hs, h1, n_le (show P.1 < 2 ^ 31 by omega) (show pc s < 2 ^ 31 by omega), show ¬ P.1 ≤ pc s by omega, n_m1 (show last < 2 ^ 31 by omega)]
      refine s_next hD1 hL1 hs0 hs2 hl hbit hmay (by omega) hb ?_
      have e1 : nI (pc s) + 1 = nI (pc (s ||| 2 ^ b)) := by rw [n_1, hpc]
      simp only [ent, entL, isL_int, isL_rf, isL_long, locS, List.length_cons, List.length_nil, List.cons_append, List.nil_append, List.replicate_succ, List.replicate_zero, Bool.false_eq_true, if_false, if_true, true_and, and_true, Nat.reduceAdd, Nat.reduceSub, Nat.reduceLeDiff, Nat.zero_le, Nat.le_refl, Nat.zero_add, Nat.add_zero, bI_0, bI_1, bI_n, Nat.reduceEqDiff, false_and, and_false, and_self, e_8_68, e_8_69, e_8_70, e_8_73, e_8_75, e_8_76, e_8_77, e_8_80, e_8_81, e_8_82, e_8_83, e_8_84, e_8_87, e_8_88, e_8_91, e_8_92, e_8_93, e_8_94, e_8_95, e_8_96, e_8_99, hs, s_numB hX1 hB1 hlt (show b < B.length by omega), n_m1 (show b < 2 ^ 31 by omega), n_in (show pc s < 9 by omega) (by decide), n_cl (show pc s < 2 ^ 31 by omega), one_sh (show b < 10 by omega), n_or, e1]
      refine ih (s ||| 2 ^ b) b c' (pre ++ [b]) _ (by omega) (by have := or_gt m1; omega) (or_lt hs2 k1) k1 (by rw [or_bit]; simp) (by rw [hpc, Nat.add_sub_cancel]; exact m2) m4 (by rw [List.append_assoc]; exact hpre) (by rw [List.length_append, List.length_singleton, hpl, hpc]) (fun j b' hj => ?_) (hA.tr AX.pE) hsm
      by_cases e : j = pc s
      · subst e
        rw [← hpl, List.getElem?_append_right (Nat.le_refl _), Nat.sub_self] at hj
        cases hj
        simp [memS]
      · have hlt2 : j < pre.length := by
          have : j < (pre ++ [b]).length := by rw [List.getElem?_eq_some_iff] at hj; exact hj.1
          rw [List.length_append, List.length_singleton] at this
          omega
        rw [List.getElem?_append_left hlt2] at hj
        simp only [memS, e, and_false, if_false]
        exact hrow j b' hj
set_option maxRecDepth 8000 in
theorem s_layL (hX : RX G x ta ha ca S) (hBl : BillOK G x ta B) (hlt : ∀ t ∈ B, t < sN S 1) (hD : DX G x P) (hL : LB G x P 0) (hP : P.1 = B.length) (h0 : 0 < P.1) (hsm : mI G 0 6 (x + 6) = -1) {d z : Nat} {Q : Rt} (hR : ∀ G', SX x G G' → LY G' x P B → Q none G' z) : CALL (d + 4) 8 [va_rf (some (x + 6)), va_rf (some (x + 4))] G z Q := by
  obtain ⟨hs, hn, h1, h2, h3, h4⟩ := id hD
  have h9 := p9 (show P.1 < 10 by omega)
  have eF : FF P P.1 0 none = (bst (gO P (FF P (P.1 - 1)) 0 none 0) P.1).map (·.2) := by
    obtain ⟨n, hn'⟩ : ∃ n, P.1 = n + 1 := ⟨P.1 - 1, by omega⟩
    rw [show FF P P.1 0 none = FF P (n + 1) 0 none by rw [← hn'], FF, hn', Nat.sub_self, Nat.add_sub_cancel]
  have eL : ly P P.1 0 none = match bst (gO P (FF P (P.1 - 1)) 0 none 0) P.1 with
    | none => []
    | some (b, _) => b :: ly P (P.1 - 1) (2 ^ b) (some b) := by
    obtain ⟨n, hn'⟩ : ∃ n, P.1 = n + 1 := ⟨P.1 - 1, by omega⟩
    rw [show ly P P.1 0 none = ly P (n + 1) 0 none by rw [← hn'], ly, hn', Nat.sub_self, Nat.add_sub_cancel]
    simp only [Nat.zero_or] <;> cases bst (gO P (FF P n) 0 none 0) (n + 1) <;> rfl
  rw [CALL_eq]
  simp only [mxE_8, ent, entL, isL_int, isL_rf, isL_long, locS, List.length_cons, List.length_nil, List.cons_append, List.nil_append, List.replicate_succ, List.replicate_zero, Bool.false_eq_true, if_false, if_true, true_and, and_true, Nat.reduceAdd, Nat.reduceSub, Nat.reduceLeDiff, Nat.zero_le, Nat.le_refl, Nat.zero_add, Nat.add_zero, bI_0, bI_1, bI_n, Nat.reduceEqDiff, false_and, and_false, and_self, e_8_0, e_8_1, hs]
  refine s_first hD hL ?_
  cases hb : bst (gO P (FF P (P.1 - 1)) 0 none 0) P.1 with
  | none =>
    simp only [ent, entL, isL_int, isL_rf, isL_long, locS, List.length_cons, List.length_nil, List.cons_append, List.nil_append, List.replicate_succ, List.replicate_zero, Bool.false_eq_true, if_false, if_true, true_and, and_true, Nat.reduceAdd, Nat.reduceSub, Nat.reduceLeDiff, Nat.zero_le, Nat.le_refl, Nat.zero_add, Nat.add_zero, bI_0, bI_1, bI_n, Nat.reduceEqDiff, false_and, and_false, and_self, e_8_4, e_8_5, e_8_6, e_8_7, e_8_10, ixB]
    refine hR G SX.rf ⟨h1, ?_⟩
    rw [eF, hb]
    exact hsm
  | some q =>
    obtain ⟨b, c⟩ := q
    obtain ⟨k1, k2, k3, k4⟩ := bst_s hb
    obtain ⟨m1, m2, m3, c', m4, m5⟩ := gO_s k2
    rw [Nat.zero_or] at m4
    have hv := hL.one hn k1 m2
    rw [m4, Option.getD_some] at hv
    have hc : c = c' := by rw [m5]; rfl
    have hp2 : 2 ^ b < 2 ^ P.1 := Nat.pow_lt_pow_right (by decide) k1
    have hA1 : AX x G (pI G 0 6 (x + 6) (nI c)) := AX.pI
    have hX1 := hX.sx hA1.sx
    have hB1 := hBl.ax hA1
    have hD1 := hD.ax hA1
    have hL1 := hL.ax hA1
    have hs1 := hD1.1
    have q1 : mI (pI G 0 6 (x + 6) (nI c)) 0 6 (x + 6) = nI c := by simp [memS]
    simp only [ent, entL, isL_int, isL_rf, isL_long, locS, List.length_cons, List.length_nil, List.cons_append, List.nil_append, List.replicate_succ, List.replicate_zero, Bool.false_eq_true, if_false, if_true, true_and, and_true, Nat.reduceAdd, Nat.reduceSub, Nat.reduceLeDiff, Nat.zero_le, Nat.le_refl, Nat.zero_add, Nat.add_zero, bI_0, bI_1, bI_n, Nat.reduceEqDiff, false_and, and_false, and_self, e_8_4, e_8_5, e_8_6, e_8_7, e_8_10, e_8_11, e_8_12, e_8_13, e_8_16, e_8_17, e_8_18, e_8_19, e_8_21, e_8_22, e_8_23, e_8_24, e_8_25, e_8_28, e_8_29, e_8_32, ixB, n_m1 (show b < 2 ^ 31 by omega), hs, one_sh (show b < 10 by omega), show (9 : Int32) = nI 9 from rfl, n_mul, n_add, n_in (show 2 ^ b * 9 + b < 4608 by omega) (by decide), n_cl (show 2 ^ b * 9 + b < 2 ^ 31 by omega), hv, true_or, ← hc, memS]
    generalize pI G 0 6 (x + 6) (nI c) = G1 at *
    simp only [ent, entL, isL_int, isL_rf, isL_long, locS, List.length_cons, List.length_nil, List.cons_append, List.nil_append, List.replicate_succ, List.replicate_zero, Bool.false_eq_true, if_false, if_true, true_and, and_true, Nat.reduceAdd, Nat.reduceSub, Nat.reduceLeDiff, Nat.zero_le, Nat.le_refl, Nat.zero_add, Nat.add_zero, bI_0, bI_1, bI_n, Nat.reduceEqDiff, false_and, and_false, and_self, e_8_33, e_8_34, e_8_35, e_8_38, e_8_39, e_8_40, e_8_41, e_8_42, e_8_43, e_8_44, hs1, s_numB hX1 hB1 hlt (show b < B.length by omega), vI0, cl0, one_sh (show b < 10 by omega)]
    have e1 : (1 : Int32) = nI (pc (2 ^ b)) := by rw [pc_1 (by omega)]; rfl
    have hA2 : AX x G1 (pE G1 (x + 11) 0 (nI (B.getD b 0))) := AX.pE
    rw [e1]
    refine l_lay (G := G1) (B := B) hX1 hB1 hlt hD1 hL1 hP (fun G' hA hrow hs' => ?_) (P.1 - 1) (2 ^ b) b c' [b] _ (by rw [pc_1 (by omega)]; omega) (Nat.pow_pos (by decide)) hp2 k1 (by rw [Nat.testBit_two_pow]; simp) (by rw [pc_1 (by omega)]; exact m2) m4 ?_ (by rw [pc_1 (by omega)]; rfl) (fun j b' hj => ?_) hA2 rfl
    · refine hR G' (hA1.tr hA).sx ⟨(hD1.ax hA).2.2.1, ?_⟩
      rw [eF, hb]
      exact ⟨by rw [hs']; exact q1, hrow⟩
    · rw [eL, hb]; rfl
    · cases j with
      | zero => cases hj; simp [memS]
      | succ j => cases hj
end
end
