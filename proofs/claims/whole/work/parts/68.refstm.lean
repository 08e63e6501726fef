/-! THE REFERENCE reads a statement -/
def SM (m s : Nat) (G G' : Mem) : Prop := (∀ a, mK G' a = mK G a) ∧ (∀ a, mN G' a = mN G a) ∧ (∀ c k a, ¬ (c = 8 ∧ (k = 19 ∨ k = 28 ∨ k = 29)) → mI G' c k a = mI G c k a) ∧ (∀ c k a, mR G' c k a = mR G c k a) ∧ (∀ a i, ¬ ((a = m + 17 ∨ a = m + 18 ∨ a = m + 19) ∧ i = s) → mE G' a i = mE G a i) ∧ ∀ a i, mQ G' a i = mQ G a i
theorem SM.rf {m s : Nat} {G : Mem} : SM m s G G := ⟨fun _ => rfl, fun _ => rfl, fun _ _ _ _ => rfl, fun _ _ _ => rfl, fun _ _ _ => rfl, fun _ _ => rfl⟩
theorem SM.tr {m s : Nat} {G G1 G2 : Mem} (h : SM m s G G1) (h2 : SM m s G1 G2) : SM m s G G2 :=
  ⟨fun a => (h2.1 a).trans (h.1 a), fun a => (h2.2.1 a).trans (h.2.1 a), fun c k a q => (h2.2.2.1 c k a q).trans (h.2.2.1 c k a q), fun c k a => (h2.2.2.2.1 c k a).trans (h.2.2.2.1 c k a), fun a i q => (h2.2.2.2.2.1 a i q).trans (h.2.2.2.2.1 a i q), fun a i => (h2.2.2.2.2.2 a i).trans (h.2.2.2.2.2 a i)⟩
theorem PM.sm {m s : Nat} {G G' : Mem} (h : PM G G') : SM m s G G' := ⟨h.1, h.2.1, h.2.2.1, h.2.2.2.1, fun a i _ => h.2.2.2.2.1 a i, h.2.2.2.2.2⟩
theorem SM.pE {m s a : Nat} {G : Mem} {v : Int32} (h : a = m + 17 ∨ a = m + 18 ∨ a = m + 19) : SM m s G (pE G a s v) := by
  refine ⟨fun _ => rfl, fun _ => rfl, fun _ _ _ _ => rfl, fun _ _ _ => rfl, fun b k q => ?_, fun _ _ => rfl⟩
  have : ¬ (b = a ∧ k = s) := fun e => q ⟨by rw [e.1]; exact h, e.2⟩
  simp only [memS, this, if_false]
section
variable {G G1 : Mem} {m : Nat} {T : Nat → Int32} {L p e s : Nat}
theorem RT.pE (h : RT G m T L p) {a i : Nat} {v : Int32} (ha : ¬ m + 12 = a) : RT (pE G a i v) m T L p := by
  obtain ⟨h1, h2, h3, h4, h5, h6⟩ := h
  refine ⟨by simpa [MS, memS] using h1, h2, h3, by simpa [memS] using h4, by simpa [memS] using h5, fun i hi => by simpa [memS, ha] using h6 i hi⟩
theorem wd_no {w w' : List Int32} (h : wd T L s w = true) (hn : ¬ w = w') : ¬ wd T L s w' = true := fun q => hn (wd_one h q)
theorem opn_re : opn T L s = (if wd T L s wBar = true then .inr (0, s + 3)
  else if wd T L s wApart = true then (if wd T L (nt T L (s + 5)) wLike = true then .inr (1, nt T L (s + 5) + 4) else if wd T L (nt T L (s + 5)) wTurn = true then .inr (2, nt T L (s + 5) + 4) else .inl (nt T L (s + 5)))
  else if wd T L s wNever = true then (if wd T L (nt T L (s + 5)) wHall = true then .inr (3, nt T L (s + 5) + 4) else .inl (nt T L (s + 5)))
  else if wd T L s wPay = true then .inr (4, s + 3) else if wd T L s wPlace = true then .inr (5, s + 5) else .inl s) := by
  unfold opn
  by_cases c0 : wd T L s wBar = true
  · simp only [c0, if_true]
  by_cases c1 : wd T L s wPay = true
  · simp only [c0, c1, wd_no c1 (show ¬ wPay = wApart by decide), wd_no c1 (show ¬ wPay = wNever by decide), if_true, if_false, Bool.false_eq_true]
  by_cases c2 : wd T L s wPlace = true
  · simp only [c0, c1, c2, wd_no c2 (show ¬ wPlace = wApart by decide), wd_no c2 (show ¬ wPlace = wNever by decide), if_true, if_false, Bool.false_eq_true]
  by_cases c3 : wd T L s wNever = true
  · simp only [c0, c1, c2, c3, wd_no c3 (show ¬ wNever = wApart by decide), if_true, if_false, Bool.false_eq_true]
  simp only [c0, c1, c2, c3, if_false, Bool.false_eq_true]
set_option maxRecDepth 8000 in
theorem l_semi8 {d z : Nat} {st : Stm3} {Q : Rt} (hR : RT G1 m T L e) (hF : SM m s G G1) (a1 : mE G1 (m + 17) s = st.1 ∧ mE G1 (m + 18) s = st.2.1 ∧ mE G1 (m + 19) s = st.2.2)
    (h1 : ∀ st' e' G', smi T L st e = .inr (st', e') → RT G' m T L e' → SM m s G G' → (mE G' (m + 17) s = st'.1 ∧ mE G' (m + 18) s = st'.2.1 ∧ mE G' (m + 19) s = st'.2.2) → Q (some (.int 1)) G' z) (h2 : ∀ f G', smi T L st e = .inl f → RT G' m T L f → SM m s G G' → Q (some (.int 0)) G' z) :
    WP (d + 1) 100 Q 219 [some (va_rf (some m)), some (.int (nI s))] [] G1 z 0 0 := by
  have hm := hR.1
  simp only [ent, entL, isL_int, isL_rf, isL_long, locS, List.length_cons, List.length_nil, List.cons_append, List.nil_append, List.replicate_succ, List.replicate_zero, Bool.false_eq_true, if_false, if_true, true_and, and_true, Nat.reduceAdd, Nat.reduceSub, Nat.reduceLeDiff, Nat.zero_le, Nat.le_refl, Nat.zero_add, Nat.add_zero, bI_0, bI_1, bI_n, Nat.reduceEqDiff, false_and, and_false, and_self, e_100_219, e_100_220, hm]
  refine s_blanks hR fun G2 hR2 hF2 => ?_
  obtain ⟨g1, g2, g3, g4, g5, g6⟩ := id hR2
  have hF3 := hF.tr (hF2.sm (m := m) (s := s))
  have hne : (nI (nt T L e) = nI L) = (nt T L e = L) := n_eq (by omega) (by omega)
  unfold smi at h1 h2
  generalize nt T L e = u at *
  by_cases c : u < L
  · simp only [ent, entL, isL_int, isL_rf, isL_long, locS, List.length_cons, List.length_nil, List.cons_append, List.nil_append, List.replicate_succ, List.replicate_zero, Bool.false_eq_true, if_false, if_true, true_and, and_true, Nat.reduceAdd, Nat.reduceSub, Nat.reduceLeDiff, Nat.zero_le, Nat.le_refl, Nat.zero_add, Nat.add_zero, bI_0, bI_1, bI_n, Nat.reduceEqDiff, false_and, and_false, and_self, e_100_223, e_100_224, e_100_227, e_100_228, e_100_231, e_100_234, e_100_235, e_100_238, e_100_239, e_100_242, e_100_243, e_100_245, e_100_248, e_100_249, e_100_250, e_100_251, e_100_252, e_100_255, e_100_256, e_100_257, e_100_260, e_100_261, g1, g4, g5, hne, show ¬ u = L by omega, n_in (show u < 600 by omega) (by decide), n_cl (show u < 2 ^ 31 by omega), g6 u c, n_1, nz_0, nz_1, true_or]
    by_cases c2 : T u = 59
    · rw [if_pos ⟨c, c2⟩] at h1
      simp only [c2, if_true]
      exact h1 _ _ _ rfl (hR2.to (by omega)) (hF3.tr (PM.pI (Or.inl rfl)).sm) (by simp only [memS, hF2.2.2.2.2.1]; exact a1)
    · rw [if_neg (fun q => c2 q.2)] at h2
      simp only [c2, if_false]
      exact h2 _ _ rfl hR2 hF3
  · rw [if_neg (fun q => c q.1)] at h2
    simp only [ent, entL, isL_int, isL_rf, isL_long, locS, List.length_cons, List.length_nil, List.cons_append, List.nil_append, List.replicate_succ, List.replicate_zero, Bool.false_eq_true, if_false, if_true, true_and, and_true, Nat.reduceAdd, Nat.reduceSub, Nat.reduceLeDiff, Nat.zero_le, Nat.le_refl, Nat.zero_add, Nat.add_zero, bI_0, bI_1, bI_n, Nat.reduceEqDiff, false_and, and_false, and_self, e_100_223, e_100_224, e_100_227, e_100_228, e_100_231, e_100_248, e_100_249, g1, g4, g5, hne, show u = L by omega, nz_0]
    exact h2 _ _ rfl hR2 hF3
set_option maxRecDepth 8000 in
theorem l_tail8 {d z : Nat} {k : Int32} {Q : Rt} (hs : s < 732) (hk : ¬ k = 0) (hR : RT G1 m T L e) (hF : SM m s G G1) (a1 : mE G1 (m + 17) s = k) (a3 : mE G1 (m + 19) s = 0)
    (h1 : ∀ st' e' G', tll T L k e = .inr (st', e') → RT G' m T L e' → SM m s G G' → (mE G' (m + 17) s = st'.1 ∧ mE G' (m + 18) s = st'.2.1 ∧ mE G' (m + 19) s = st'.2.2) → Q (some (.int 1)) G' z) (h2 : ∀ f G', tll T L k e = .inl f → RT G' m T L f → SM m s G G' → Q (some (.int 0)) G' z) :
    WP (d + 2) 100 Q 200 [some (va_rf (some m)), some (.int (nI s))] [] G1 z 0 0 := by
  have hm := hR.1
  simp only [ent, entL, isL_int, isL_rf, isL_long, locS, List.length_cons, List.length_nil, List.cons_append, List.nil_append, List.replicate_succ, List.replicate_zero, Bool.false_eq_true, if_false, if_true, true_and, and_true, Nat.reduceAdd, Nat.reduceSub, Nat.reduceLeDiff, Nat.zero_le, Nat.le_refl, Nat.zero_add, Nat.add_zero, bI_0, bI_1, bI_n, Nat.reduceEqDiff, false_and, and_false, and_self, e_100_200, e_100_201, hm]
  unfold tll at h1 h2
  refine s_num8 hR (fun v e1 G2 hn hR2 hv hF2 => ?_) (fun G2 hn hR2 hF2 => ?_)
  · rw [hn] at h1 h2
    dsimp only at h1 h2
    rw [if_neg hk] at h1 h2
    have hm2 := hR2.1
    simp only [ent, entL, isL_int, isL_rf, isL_long, locS, List.length_cons, List.length_nil, List.cons_append, List.nil_append, List.replicate_succ, List.replicate_zero, Bool.false_eq_true, if_false, if_true, true_and, and_true, Nat.reduceAdd, Nat.reduceSub, Nat.reduceLeDiff, Nat.zero_le, Nat.le_refl, Nat.zero_add, Nat.add_zero, bI_0, bI_1, bI_n, Nat.reduceEqDiff, false_and, and_false, and_self, e_100_204, e_100_207, e_100_208, e_100_209, e_100_210, e_100_213, e_100_214, e_100_215, e_100_218, hm2, hv, n_in hs (by decide), n_cl (show s < 2 ^ 31 by omega), show ¬ (1 : Int32) = 0 by decide]
    refine l_semi8 (st := (k, v, 0)) (hR2.pE (by omega)) ((hF.tr hF2.sm).tr (SM.pE (Or.inr (Or.inl rfl)))) ?_ h1 h2
    simp [memS, hF2.2.2.2.2.1, a1, a3]
  · rw [hn] at h2
    simp only [ent, entL, isL_int, isL_rf, isL_long, locS, List.length_cons, List.length_nil, List.cons_append, List.nil_append, List.replicate_succ, List.replicate_zero, Bool.false_eq_true, if_false, if_true, true_and, and_true, Nat.reduceAdd, Nat.reduceSub, Nat.reduceLeDiff, Nat.zero_le, Nat.le_refl, Nat.zero_add, Nat.add_zero, bI_0, bI_1, bI_n, Nat.reduceEqDiff, false_and, and_false, and_self, e_100_204, e_100_207, e_100_208, nz_0]
    exact h2 _ _ rfl hR2 (hF.tr hF2.sm)
set_option maxRecDepth 8000 in
theorem s_stmt8 {d z : Nat} {Q : Rt} (hR : RT G m T L p) (hp : nt T L p = p) (hs : s < 732)
    (h1 : ∀ st' e' G', stm T L p = .inr (st', e') → RT G' m T L e' → SM m s G G' → (mE G' (m + 17) s = st'.1 ∧ mE G' (m + 18) s = st'.2.1 ∧ mE G' (m + 19) s = st'.2.2) → Q (some (.int 1)) G' z) (h2 : ∀ f G', stm T L p = .inl f → RT G' m T L f → SM m s G G' → Q (some (.int 0)) G' z) :
    CALL (d + 4) 100 [va_rf (some m), .int (nI s)] G z Q := by
  have hm := hR.1
  have hL := hR.2.2.1
  have nn : ∀ q, q ≤ L → nt T L (nt T L q) = nt T L q := fun q hq => nt_nt hq
  unfold stm at h1 h2
  rw [opn_re] at h1 h2
  rw [CALL_eq]
  simp only [mxE_100, ent, entL, isL_int, isL_rf, isL_long, locS, List.length_cons, List.length_nil, List.cons_append, List.nil_append, List.replicate_succ, List.replicate_zero, Bool.false_eq_true, if_false, if_true, true_and, and_true, Nat.reduceAdd, Nat.reduceSub, Nat.reduceLeDiff, Nat.zero_le, Nat.le_refl, Nat.zero_add, Nat.add_zero, bI_0, bI_1, bI_n, Nat.reduceEqDiff, false_and, and_false, and_self, e_100_0, e_100_1, e_100_4, e_100_5, e_100_6, e_100_7, e_100_8, e_100_11, hm, memS, n_in hs (by decide), n_cl (show s < 2 ^ 31 by omega)]
  have hR0 := hR.pE (a := m + 19) (i := s) (v := 0) (by omega)
  have hF0 : SM m s G (pE G (m + 19) s 0) := SM.pE (Or.inr (Or.inr rfl))
  have z0 : mE (pE G (m + 19) s 0) (m + 19) s = 0 := by simp [memS]
  generalize pE G (m + 19) s 0 = G0 at hR0 hF0 z0
  refine s_takes (W := 6447474) hR0 isW_Bar (by decide) (by decide +kernel) fun G1 hR1 hF1 => ?_
  rw [hp] at hR1
  have z1 : mE G1 (m + 19) s = 0 := by rw [hF1.2.2.2.2.1]; exact z0
  have hF1 := hF0.tr (hF1.sm (m := m) (s := s))
  have hm1 := hR1.1
  simp only [hp]
  by_cases c0 : wd T L p wBar = true
  · rw [if_pos c0] at h1 h2 hR1
    dsimp only at h1 h2
    simp only [ent, entL, isL_int, isL_rf, isL_long, locS, List.length_cons, List.length_nil, List.cons_append, List.nil_append, List.replicate_succ, List.replicate_zero, Bool.false_eq_true, if_false, if_true, true_and, and_true, Nat.reduceAdd, Nat.reduceSub, Nat.reduceLeDiff, Nat.zero_le, Nat.le_refl, Nat.zero_add, Nat.add_zero, bI_0, bI_1, bI_n, Nat.reduceEqDiff, false_and, and_false, and_self, e_100_14, e_100_17, e_100_18, e_100_21, e_100_22, e_100_23, e_100_24, e_100_25, c0, not_true, hm1, memS, n_in hs (by decide), n_cl (show s < 2 ^ 31 by omega)]
    unfold tll at h1 h2
    refine s_num8 (hR1.pE (by omega)) (fun v e1 G2 hn hR2 hv hF2 => ?_) (fun G2 hn hR2 hF2 => ?_)
    · change nmb T L (nt T L (p + 3)) = some (v, e1) at hn
      rw [hn] at h1 h2
      dsimp only at h1 h2
      rw [if_pos rfl] at h1 h2
      have hm2 := hR2.1
      simp only [ent, entL, isL_int, isL_rf, isL_long, locS, List.length_cons, List.length_nil, List.cons_append, List.nil_append, List.replicate_succ, List.replicate_zero, Bool.false_eq_true, if_false, if_true, true_and, and_true, Nat.reduceAdd, Nat.reduceSub, Nat.reduceLeDiff, Nat.zero_le, Nat.le_refl, Nat.zero_add, Nat.add_zero, bI_0, bI_1, bI_n, Nat.reduceEqDiff, false_and, and_false, and_self, e_100_28, e_100_31, e_100_32, e_100_33, e_100_34, e_100_37, e_100_38, e_100_39, e_100_42, e_100_43, e_100_44, e_100_47, hm2, memS, hv, n_in hs (by decide), n_cl (show s < 2 ^ 31 by omega), show ¬ (1 : Int32) = 0 by decide]
      have hR3 := hR2.pE (a := m + 18) (i := s) (v := v) (by omega)
      have hF3 : SM m s G (pE G2 (m + 18) s v) := ((hF1.tr (SM.pE (Or.inl rfl))).tr hF2.sm).tr (SM.pE (Or.inr (Or.inl rfl)))
      have z3 : mE (pE G2 (m + 18) s v) (m + 17) s = 0 ∧ mE (pE G2 (m + 18) s v) (m + 18) s = v := by simp [memS, hF2.2.2.2.2.1]
      generalize pE G2 (m + 18) s v = G3 at hR3 hF3 z3
      refine s_takes (W := 512802253683) hR3 isW_Weeks (by decide) (by decide +kernel) fun G4 hR4 hF4 => ?_
      have hm4 := hR4.1
      by_cases c1 : wd T L (nt T L e1) wWeeks = true
      · rw [if_pos c1] at h1 h2 hR4
        simp only [ent, entL, isL_int, isL_rf, isL_long, locS, List.length_cons, List.length_nil, List.cons_append, List.nil_append, List.replicate_succ, List.replicate_zero, Bool.false_eq_true, if_false, if_true, true_and, and_true, Nat.reduceAdd, Nat.reduceSub, Nat.reduceLeDiff, Nat.zero_le, Nat.le_refl, Nat.zero_add, Nat.add_zero, bI_0, bI_1, bI_n, Nat.reduceEqDiff, false_and, and_false, and_self, e_100_50, e_100_53, e_100_54, c1, not_true, hm4]
        refine s_num8 hR4 (fun v2 e2 G5 hn2 hR5 hv5 hF5 => ?_) (fun G5 hn2 hR5 hF5 => ?_)
        · change nmb T L (nt T L (nt T L e1 + 5)) = some (v2, e2) at hn2
          rw [hn2] at h1 h2
          dsimp only at h1 h2
          have hm5 := hR5.1
          simp only [ent, entL, isL_int, isL_rf, isL_long, locS, List.length_cons, List.length_nil, List.cons_append, List.nil_append, List.replicate_succ, List.replicate_zero, Bool.false_eq_true, if_false, if_true, true_and, and_true, Nat.reduceAdd, Nat.reduceSub, Nat.reduceLeDiff, Nat.zero_le, Nat.le_refl, Nat.zero_add, Nat.add_zero, bI_0, bI_1, bI_n, Nat.reduceEqDiff, false_and, and_false, and_self, e_100_57, e_100_60, e_100_61, e_100_62, e_100_63, e_100_66, e_100_67, e_100_68, e_100_71, e_100_72, hm5, hv5, n_in hs (by decide), n_cl (show s < 2 ^ 31 by omega), show ¬ (1 : Int32) = 0 by decide]
          refine l_semi8 (d := d + 2) (st := (0, v, v2)) (hR5.pE (by omega)) (((hF3.tr hF4.sm).tr hF5.sm).tr (SM.pE (Or.inr (Or.inr rfl)))) ?_ h1 h2
          simp [memS, hF5.2.2.2.2.1, hF4.2.2.2.2.1, z3]
        · change nmb T L (nt T L (nt T L e1 + 5)) = none at hn2
          rw [hn2] at h2
          simp only [ent, entL, isL_int, isL_rf, isL_long, locS, List.length_cons, List.length_nil, List.cons_append, List.nil_append, List.replicate_succ, List.replicate_zero, Bool.false_eq_true, if_false, if_true, true_and, and_true, Nat.reduceAdd, Nat.reduceSub, Nat.reduceLeDiff, Nat.zero_le, Nat.le_refl, Nat.zero_add, Nat.add_zero, bI_0, bI_1, bI_n, Nat.reduceEqDiff, false_and, and_false, and_self, e_100_57, e_100_60, e_100_61, nz_0]
          exact h2 _ _ rfl hR5 ((hF3.tr hF4.sm).tr hF5.sm)
      · rw [if_neg c1] at h2 hR4
        simp only [ent, entL, isL_int, isL_rf, isL_long, locS, List.length_cons, List.length_nil, List.cons_append, List.nil_append, List.replicate_succ, List.replicate_zero, Bool.false_eq_true, if_false, if_true, true_and, and_true, Nat.reduceAdd, Nat.reduceSub, Nat.reduceLeDiff, Nat.zero_le, Nat.le_refl, Nat.zero_add, Nat.add_zero, bI_0, bI_1, bI_n, Nat.reduceEqDiff, false_and, and_false, and_self, e_100_50, e_100_53, e_100_54, e_100_57, e_100_60, e_100_61, c1, not_false_iff, nz_0]
        exact h2 _ _ rfl hR4 (hF3.tr hF4.sm)
    · change nmb T L (nt T L (p + 3)) = none at hn
      rw [hn] at h2
      simp only [ent, entL, isL_int, isL_rf, isL_long, locS, List.length_cons, List.length_nil, List.cons_append, List.nil_append, List.replicate_succ, List.replicate_zero, Bool.false_eq_true, if_false, if_true, true_and, and_true, Nat.reduceAdd, Nat.reduceSub, Nat.reduceLeDiff, Nat.zero_le, Nat.le_refl, Nat.zero_add, Nat.add_zero, bI_0, bI_1, bI_n, Nat.reduceEqDiff, false_and, and_false, and_self, e_100_28, e_100_31, e_100_32, nz_0]
      exact h2 _ _ rfl hR2 ((hF1.tr (SM.pE (Or.inl rfl))).tr hF2.sm)
  rw [if_neg c0] at h1 h2 hR1
  simp only [ent, entL, isL_int, isL_rf, isL_long, locS, List.length_cons, List.length_nil, List.cons_append, List.nil_append, List.replicate_succ, List.replicate_zero, Bool.false_eq_true, if_false, if_true, true_and, and_true, Nat.reduceAdd, Nat.reduceSub, Nat.reduceLeDiff, Nat.zero_le, Nat.le_refl, Nat.zero_add, Nat.add_zero, bI_0, bI_1, bI_n, Nat.reduceEqDiff, false_and, and_false, and_self, e_100_14, e_100_17, e_100_18, e_100_21, e_100_22, e_100_23, e_100_24, e_100_25, e_100_28, e_100_31, e_100_32, e_100_33, e_100_34, e_100_37, e_100_38, e_100_39, e_100_42, e_100_43, e_100_44, e_100_47, e_100_50, e_100_53, e_100_54, e_100_57, e_100_60, e_100_61, e_100_62, e_100_63, e_100_66, e_100_67, e_100_68, e_100_71, e_100_72, e_100_75, e_100_76, e_100_79, c0, not_false_iff, hm1]
  refine s_takes (W := 418497262196) hR1 isW_Apart (by decide) (by decide +kernel) fun G2 hR2 hF2 => ?_
  rw [hp] at hR2
  have z2 : mE G2 (m + 19) s = 0 := by rw [hF2.2.2.2.2.1]; exact z1
  have hF2 := hF1.tr (hF2.sm (m := m) (s := s))
  have hm2 := hR2.1
  simp only [hp]
  by_cases c1 : wd T L p wApart = true
  · have h5 : p + 5 ≤ L := wd_le isW_Apart c1
    rw [if_pos c1] at h1 h2 hR2
    simp only [ent, entL, isL_int, isL_rf, isL_long, locS, List.length_cons, List.length_nil, List.cons_append, List.nil_append, List.replicate_succ, List.replicate_zero, Bool.false_eq_true, if_false, if_true, true_and, and_true, Nat.reduceAdd, Nat.reduceSub, Nat.reduceLeDiff, Nat.zero_le, Nat.le_refl, Nat.zero_add, Nat.add_zero, bI_0, bI_1, bI_n, Nat.reduceEqDiff, false_and, and_false, and_self, e_100_82, e_100_85, e_100_86, e_100_89, e_100_90, e_100_91, e_100_94, c1, not_true, hm2]
    refine s_takes (W := 1818848101) hR2 isW_Like (by decide) (by decide +kernel) fun G3 hR3 hF3 => ?_
    have z3 : mE G3 (m + 19) s = 0 := by rw [hF3.2.2.2.2.1]; exact z2
    have hF3 := hF2.tr (hF3.sm (m := m) (s := s))
    have hm3 := hR3.1
    change RT G3 m T L (if wd T L (nt T L (p + 5)) wLike = true then nt T L (p + 5) + 4 else nt T L (p + 5)) at hR3
    change rtn (d + 3) 100 Q 97 _ _ 0 0 (some (.int (bI (wd T L (nt T L (p + 5)) wLike = true)))) G3 z
    by_cases c2 : wd T L (nt T L (p + 5)) wLike = true
    · rw [if_pos c2] at h1 h2 hR3
      simp only [ent, entL, isL_int, isL_rf, isL_long, locS, List.length_cons, List.length_nil, List.cons_append, List.nil_append, List.replicate_succ, List.replicate_zero, Bool.false_eq_true, if_false, if_true, true_and, and_true, Nat.reduceAdd, Nat.reduceSub, Nat.reduceLeDiff, Nat.zero_le, Nat.le_refl, Nat.zero_add, Nat.add_zero, bI_0, bI_1, bI_n, Nat.reduceEqDiff, false_and, and_false, and_self, e_100_97, e_100_100, e_100_101, e_100_104, e_100_105, e_100_108, e_100_111, e_100_114, e_100_115, e_100_118, e_100_119, e_100_120, e_100_121, e_100_124, e_100_125, e_100_126, e_100_127, e_100_130, e_100_131, c2, not_true, hm3, memS, n_in hs (by decide), n_cl (show s < 2 ^ 31 by omega), show ¬ (1 : Int32) = -1 by decide, true_or]
      exact l_tail8 (d := d + 1) (k := 1) hs (by decide) (hR3.pE (a := m + 17) (i := s) (v := 1) (by omega)) (hF3.tr (SM.pE (Or.inl rfl))) (by simp [memS]) (by simp [memS, z3]) h1 h2
    · rw [if_neg c2] at h1 h2 hR3
      simp only [ent, entL, isL_int, isL_rf, isL_long, locS, List.length_cons, List.length_nil, List.cons_append, List.nil_append, List.replicate_succ, List.replicate_zero, Bool.false_eq_true, if_false, if_true, true_and, and_true, Nat.reduceAdd, Nat.reduceSub, Nat.reduceLeDiff, Nat.zero_le, Nat.le_refl, Nat.zero_add, Nat.add_zero, bI_0, bI_1, bI_n, Nat.reduceEqDiff, false_and, and_false, and_self, e_100_97, e_100_100, e_100_101, e_100_104, e_100_105, e_100_108, c2, not_false_iff, hm3]
      refine s_takes (W := 1953854062) hR3 isW_Turn (by decide) (by decide +kernel) fun G4 hR4 hF4 => ?_
      rw [nn _ h5] at hR4
      rw [nn _ h5]
      have z4 : mE G4 (m + 19) s = 0 := by rw [hF4.2.2.2.2.1]; exact z3
      have hF4 := hF3.tr (hF4.sm (m := m) (s := s))
      have hm4 := hR4.1
      by_cases c3 : wd T L (nt T L (p + 5)) wTurn = true
      · rw [if_pos c3] at h1 h2 hR4
        simp only [ent, entL, isL_int, isL_rf, isL_long, locS, List.length_cons, List.length_nil, List.cons_append, List.nil_append, List.replicate_succ, List.replicate_zero, Bool.false_eq_true, if_false, if_true, true_and, and_true, Nat.reduceAdd, Nat.reduceSub, Nat.reduceLeDiff, Nat.zero_le, Nat.le_refl, Nat.zero_add, Nat.add_zero, bI_0, bI_1, bI_n, Nat.reduceEqDiff, false_and, and_false, and_self, e_100_111, e_100_114, e_100_115, e_100_118, e_100_119, e_100_120, e_100_121, e_100_124, e_100_125, e_100_126, e_100_127, e_100_130, e_100_131, c3, not_true, hm4, memS, n_in hs (by decide), n_cl (show s < 2 ^ 31 by omega), show ¬ (2 : Int32) = -1 by decide, true_or]
        exact l_tail8 (d := d + 1) (k := 2) hs (by decide) (hR4.pE (a := m + 17) (i := s) (v := 2) (by omega)) (hF4.tr (SM.pE (Or.inl rfl))) (by simp [memS]) (by simp [memS, z4]) h1 h2
      · rw [if_neg c3] at h2 hR4
        simp only [ent, entL, isL_int, isL_rf, isL_long, locS, List.length_cons, List.length_nil, List.cons_append, List.nil_append, List.replicate_succ, List.replicate_zero, Bool.false_eq_true, if_false, if_true, true_and, and_true, Nat.reduceAdd, Nat.reduceSub, Nat.reduceLeDiff, Nat.zero_le, Nat.le_refl, Nat.zero_add, Nat.add_zero, bI_0, bI_1, bI_n, Nat.reduceEqDiff, false_and, and_false, and_self, e_100_111, e_100_114, e_100_115, e_100_118, e_100_119, e_100_120, e_100_121, e_100_124, e_100_125, e_100_126, e_100_127, e_100_130, e_100_131, c3, not_false_iff, hm4, memS, n_in hs (by decide), n_cl (show s < 2 ^ 31 by omega), nz_0, true_or]
        exact h2 _ _ rfl (hR4.pE (by omega)) (hF4.tr (SM.pE (Or.inl rfl)))
  rw [if_neg c1] at h1 h2 hR2
  simp only [ent, entL, isL_int, isL_rf, isL_long, locS, List.length_cons, List.length_nil, List.cons_append, List.nil_append, List.replicate_succ, List.replicate_zero, Bool.false_eq_true, if_false, if_true, true_and, and_true, Nat.reduceAdd, Nat.reduceSub, Nat.reduceLeDiff, Nat.zero_le, Nat.le_refl, Nat.zero_add, Nat.add_zero, bI_0, bI_1, bI_n, Nat.reduceEqDiff, false_and, and_false, and_self, e_100_82, e_100_85, e_100_86, e_100_89, e_100_90, e_100_91, e_100_94, e_100_97, e_100_100, e_100_101, e_100_104, e_100_105, e_100_108, e_100_111, e_100_114, e_100_115, e_100_118, e_100_119, e_100_120, e_100_121, e_100_124, e_100_125, e_100_126, e_100_127, e_100_130, e_100_131, e_100_132, e_100_133, e_100_136, c1, not_false_iff, hm2]
  refine s_takes (W := 474148660594) hR2 isW_Never (by decide) (by decide +kernel) fun G3 hR3 hF3 => ?_
  rw [hp] at hR3
  have z3 : mE G3 (m + 19) s = 0 := by rw [hF3.2.2.2.2.1]; exact z2
  have hF3 := hF2.tr (hF3.sm (m := m) (s := s))
  have hm3 := hR3.1
  simp only [hp]
  by_cases c2 : wd T L p wNever = true
  · have h5 : p + 5 ≤ L := wd_le isW_Never c2
    rw [if_pos c2] at h1 h2 hR3
    simp only [ent, entL, isL_int, isL_rf, isL_long, locS, List.length_cons, List.length_nil, List.cons_append, List.nil_append, List.replicate_succ, List.replicate_zero, Bool.false_eq_true, if_false, if_true, true_and, and_true, Nat.reduceAdd, Nat.reduceSub, Nat.reduceLeDiff, Nat.zero_le, Nat.le_refl, Nat.zero_add, Nat.add_zero, bI_0, bI_1, bI_n, Nat.reduceEqDiff, false_and, and_false, and_self, e_100_139, e_100_142, e_100_143, e_100_146, e_100_147, e_100_148, e_100_149, e_100_150, e_100_153, c2, not_true, hm3, memS, n_in hs (by decide), n_cl (show s < 2 ^ 31 by omega)]
    refine s_takes (W := 1751215212) (hR3.pE (a := m + 17) (i := s) (v := 3) (by omega)) isW_Hall (by decide) (by decide +kernel) fun G4 hR4 hF4 => ?_
    have y4 : mE G4 (m + 17) s = 3 ∧ mE G4 (m + 19) s = 0 := by simp [hF4.2.2.2.2.1, memS, z3]
    have hF4 := (hF3.tr (SM.pE (a := m + 17) (v := 3) (Or.inl rfl))).tr (hF4.sm (m := m) (s := s))
    have hm4 := hR4.1
    change RT G4 m T L (if wd T L (nt T L (p + 5)) wHall = true then nt T L (p + 5) + 4 else nt T L (p + 5)) at hR4
    change rtn (d + 3) 100 Q 156 _ _ 0 0 (some (.int (bI (wd T L (nt T L (p + 5)) wHall = true)))) G4 z
    by_cases c3 : wd T L (nt T L (p + 5)) wHall = true
    · rw [if_pos c3] at h1 h2 hR4
      simp only [ent, entL, isL_int, isL_rf, isL_long, locS, List.length_cons, List.length_nil, List.cons_append, List.nil_append, List.replicate_succ, List.replicate_zero, Bool.false_eq_true, if_false, if_true, true_and, and_true, Nat.reduceAdd, Nat.reduceSub, Nat.reduceLeDiff, Nat.zero_le, Nat.le_refl, Nat.zero_add, Nat.add_zero, bI_0, bI_1, bI_n, Nat.reduceEqDiff, false_and, and_false, and_self, e_100_156, e_100_159, e_100_160, c3, not_true]
      exact l_tail8 (d := d + 1) (k := 3) hs (by decide) hR4 hF4 y4.1 y4.2 h1 h2
    · rw [if_neg c3] at h2 hR4
      simp only [ent, entL, isL_int, isL_rf, isL_long, locS, List.length_cons, List.length_nil, List.cons_append, List.nil_append, List.replicate_succ, List.replicate_zero, Bool.false_eq_true, if_false, if_true, true_and, and_true, Nat.reduceAdd, Nat.reduceSub, Nat.reduceLeDiff, Nat.zero_le, Nat.le_refl, Nat.zero_add, Nat.add_zero, bI_0, bI_1, bI_n, Nat.reduceEqDiff, false_and, and_false, and_self, e_100_156, e_100_159, e_100_160, c3, not_false_iff, nz_0]
      exact h2 _ _ rfl hR4 hF4
  rw [if_neg c2] at h1 h2 hR3
  simp only [ent, entL, isL_int, isL_rf, isL_long, locS, List.length_cons, List.length_nil, List.cons_append, List.nil_append, List.replicate_succ, List.replicate_zero, Bool.false_eq_true, if_false, if_true, true_and, and_true, Nat.reduceAdd, Nat.reduceSub, Nat.reduceLeDiff, Nat.zero_le, Nat.le_refl, Nat.zero_add, Nat.add_zero, bI_0, bI_1, bI_n, Nat.reduceEqDiff, false_and, and_false, and_self, e_100_139, e_100_142, e_100_143, e_100_146, e_100_147, e_100_148, e_100_149, e_100_150, e_100_153, e_100_156, e_100_159, e_100_160, e_100_161, e_100_162, e_100_165, c2, not_false_iff, hm3]
  refine s_takes (W := 7364985) hR3 isW_Pay (by decide) (by decide +kernel) fun G4 hR4 hF4 => ?_
  rw [hp] at hR4
  have z4 : mE G4 (m + 19) s = 0 := by rw [hF4.2.2.2.2.1]; exact z3
  have hF4 := hF3.tr (hF4.sm (m := m) (s := s))
  have hm4 := hR4.1
  simp only [hp]
  by_cases c3 : wd T L p wPay = true
  · rw [if_pos c3] at h1 h2 hR4
    simp only [ent, entL, isL_int, isL_rf, isL_long, locS, List.length_cons, List.length_nil, List.cons_append, List.nil_append, List.replicate_succ, List.replicate_zero, Bool.false_eq_true, if_false, if_true, true_and, and_true, Nat.reduceAdd, Nat.reduceSub, Nat.reduceLeDiff, Nat.zero_le, Nat.le_refl, Nat.zero_add, Nat.add_zero, bI_0, bI_1, bI_n, Nat.reduceEqDiff, false_and, and_false, and_self, e_100_168, e_100_171, e_100_172, e_100_175, e_100_176, e_100_177, e_100_178, c3, not_true, hm4, memS, n_in hs (by decide), n_cl (show s < 2 ^ 31 by omega)]
    exact l_tail8 (d := d + 1) (k := 4) hs (by decide) (hR4.pE (a := m + 17) (i := s) (v := 4) (by omega)) (hF4.tr (SM.pE (Or.inl rfl))) (by simp [memS]) (by simp [memS, z4]) h1 h2
  rw [if_neg c3] at h1 h2 hR4
  simp only [ent, entL, isL_int, isL_rf, isL_long, locS, List.length_cons, List.length_nil, List.cons_append, List.nil_append, List.replicate_succ, List.replicate_zero, Bool.false_eq_true, if_false, if_true, true_and, and_true, Nat.reduceAdd, Nat.reduceSub, Nat.reduceLeDiff, Nat.zero_le, Nat.le_refl, Nat.zero_add, Nat.add_zero, bI_0, bI_1, bI_n, Nat.reduceEqDiff, false_and, and_false, and_self, e_100_168, e_100_171, e_100_172, e_100_175, e_100_176, e_100_177, e_100_178, e_100_181, e_100_182, e_100_185, e_100_186, e_100_187, e_100_188, e_100_189, e_100_192, c3, not_false_iff, hm4, memS, n_in hs (by decide), n_cl (show s < 2 ^ 31 by omega)]
  refine s_takes (W := 482854658917) (hR4.pE (a := m + 17) (i := s) (v := 5) (by omega)) isW_Place (by decide) (by decide +kernel) fun G5 hR5 hF5 => ?_
  rw [hp] at hR5
  have y5 : mE G5 (m + 17) s = 5 ∧ mE G5 (m + 19) s = 0 := by simp [hF5.2.2.2.2.1, memS, z4]
  have hF5 := (hF4.tr (SM.pE (a := m + 17) (v := 5) (Or.inl rfl))).tr (hF5.sm (m := m) (s := s))
  simp only [hp]
  by_cases c4 : wd T L p wPlace = true
  · rw [if_pos c4] at h1 h2 hR5
    simp only [ent, entL, isL_int, isL_rf, isL_long, locS, List.length_cons, List.length_nil, List.cons_append, List.nil_append, List.replicate_succ, List.replicate_zero, Bool.false_eq_true, if_false, if_true, true_and, and_true, Nat.reduceAdd, Nat.reduceSub, Nat.reduceLeDiff, Nat.zero_le, Nat.le_refl, Nat.zero_add, Nat.add_zero, bI_0, bI_1, bI_n, Nat.reduceEqDiff, false_and, and_false, and_self, e_100_195, e_100_198, e_100_199, c4, not_true]
    exact l_tail8 (d := d + 1) (k := 5) hs (by decide) hR5 hF5 y5.1 y5.2 h1 h2
  · rw [if_neg c4] at h2 hR5
    simp only [ent, entL, isL_int, isL_rf, isL_long, locS, List.length_cons, List.length_nil, List.cons_append, List.nil_append, List.replicate_succ, List.replicate_zero, Bool.false_eq_true, if_false, if_true, true_and, and_true, Nat.reduceAdd, Nat.reduceSub, Nat.reduceLeDiff, Nat.zero_le, Nat.le_refl, Nat.zero_add, Nat.add_zero, bI_0, bI_1, bI_n, Nat.reduceEqDiff, false_and, and_false, and_self, e_100_195, e_100_198, e_100_199, c4, not_false_iff, nz_0]
    exact h2 _ _ rfl hR5 hF5
end
