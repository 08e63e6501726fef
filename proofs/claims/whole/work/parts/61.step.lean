/-! the class's reader: the next token -/
def RF (r : Nat) (G G' : Mem) : Prop := (∀ a, mK G' a = mK G a) ∧ (∀ a, mN G' a = mN G a) ∧ (∀ c k a, ¬ (c = 3 ∧ a = r) → mI G' c k a = mI G c k a) ∧ (∀ c k a, mR G' c k a = mR G c k a) ∧ (∀ a i, mE G' a i = mE G a i) ∧ ∀ a i, mQ G' a i = mQ G a i
theorem RF.rf {r : Nat} {G : Mem} : RF r G G := ⟨fun _ => rfl, fun _ => rfl, fun _ _ _ _ => rfl, fun _ _ _ => rfl, fun _ _ => rfl, fun _ _ => rfl⟩
theorem RF.tr {r : Nat} {G G1 G2 : Mem} (h : RF r G G1) (h2 : RF r G1 G2) : RF r G G2 :=
  ⟨fun a => (h2.1 a).trans (h.1 a), fun a => (h2.2.1 a).trans (h.2.1 a), fun c k a q => (h2.2.2.1 c k a q).trans (h.2.2.1 c k a q), fun c k a => (h2.2.2.2.1 c k a).trans (h.2.2.2.1 c k a), fun a i => (h2.2.2.2.2.1 a i).trans (h.2.2.2.2.1 a i), fun a i => (h2.2.2.2.2.2 a i).trans (h.2.2.2.2.2 a i)⟩
theorem RF.pI {r k : Nat} {G : Mem} {v : Int32} : RF r G (pI G 3 k r v) := by
  refine ⟨fun _ => rfl, fun _ => rfl, fun c k' a q => ?_, fun _ _ _ => rfl, fun _ _ => rfl, fun _ _ => rfl⟩
  have : ¬ (c = 3 ∧ k' = k ∧ a = r) := fun e => q ⟨e.1, e.2.2⟩
  simp only [memS, this, if_false]
/-- the end of the token that begins at s -/
def tokE (T : Nat → Int32) (L s : Nat) : Nat := if s < L ∧ isLe (T s) = true then rn isLe T L s else if s < L ∧ isDi (T s) = true then rn isDi T L s else if s < L then s + 1 else s
section
variable {G : Mem} {r b : Nat} {T : Nat → Int32} {L e s : Nat}
theorem RD.st (h : RD G r b T L e s) {v : Nat} (hv : v ≤ L) : RD (pI G 3 3 r (nI v)) r b T L e v := by
  obtain ⟨h1, h2, h3, h4, h5, h6, h7, h8, h9, h10, h11⟩ := h
  simp [RD, memS, h1, h2, h3, h4, h5, h6, h7, h9, h10, hv]
theorem RD.en (h : RD G r b T L e s) {v : Nat} (hv : v ≤ L) : RD (pI G 3 2 r (nI v)) r b T L v s := by
  obtain ⟨h1, h2, h3, h4, h5, h6, h7, h8, h9, h10, h11⟩ := h
  simp [RD, memS, h1, h2, h3, h4, h5, h6, h8, h9, h11, hv]
set_option maxRecDepth 8000 in
theorem l_step0 {d z : Nat} {Q : Rt} : ∀ (n i : Nat) (G1 : Mem), i + n = L → RD G1 r b T L e i → RF r G G1 → (∀ G', RD G' r b T L e (rn isBl T L i) → RF r G G' → WP (d + 2) 34 Q 43 [some (va_rf (some r))] [] G' z 0 0) → WP (d + 2) 34 Q 8 [some (va_rf (some r))] [] G1 z 0 0 := by
  intro n
  induction n with
  | zero =>
    intro i G1 hi hR hF h
    have hi : i = L := by omega
    subst hi
    have h1 := hR
    obtain ⟨q1, q2, q3, q4, q5, q6, q7, q8, q9, q10, q11⟩ := h1
    rw [e_34_8]
    simp only [ent, entL, isL_int, isL_rf, isL_long, locS, List.length_cons, List.length_nil, List.cons_append, List.nil_append, List.replicate_succ, List.replicate_zero, Bool.false_eq_true, if_false, if_true, true_and, and_true, Nat.reduceAdd, Nat.reduceSub, Nat.reduceLeDiff, Nat.zero_le, Nat.le_refl, Nat.zero_add, Nat.add_zero, bI_0, bI_1, bI_n, Nat.reduceEqDiff, false_and, and_false, and_self, e_34_9, e_34_12, e_34_13, e_34_16, e_34_19, e_34_20, e_34_21, e_34_24, e_34_27, e_34_30, e_34_31, e_34_32, e_34_35, e_34_36, e_34_37, e_34_40, q1, q9, q11, n_le (show i < 2 ^ 31 by omega) (show i < 2 ^ 31 by omega), Nat.le_refl, if_true]
    rw [rn_no (fun q => absurd q.1 (Nat.lt_irrefl _))] at h
    exact h G1 hR hF
  | succ n ih =>
    intro i G1 hi hR hF h
    have h1 := hR
    obtain ⟨q1, q2, q3, q4, q5, q6, q7, q8, q9, q10, q11⟩ := h1
    rw [e_34_8]
    simp only [ent, entL, isL_int, isL_rf, isL_long, locS, List.length_cons, List.length_nil, List.cons_append, List.nil_append, List.replicate_succ, List.replicate_zero, Bool.false_eq_true, if_false, if_true, true_and, and_true, Nat.reduceAdd, Nat.reduceSub, Nat.reduceLeDiff, Nat.zero_le, Nat.le_refl, Nat.zero_add, Nat.add_zero, bI_0, bI_1, bI_n, Nat.reduceEqDiff, false_and, and_false, and_self, e_34_9, e_34_12, e_34_13, e_34_16, e_34_19, e_34_20, e_34_21, e_34_24, e_34_27, e_34_30, e_34_31, e_34_32, e_34_35, e_34_36, e_34_37, e_34_40, q1, q9, q11, n_le (show L < 2 ^ 31 by omega) (show i < 2 ^ 31 by omega), show ¬ L ≤ i by omega, if_false, s_isBlank hR (show i < 2 ^ 31 by omega), n_1]
    cases hb : isBl (T i) with
    | true =>
      rw [rn_go (by omega) hb] at h
      simp only [show i < L by omega, decide_true, Bool.and_self, not_true, if_false]
      exact ih (i + 1) _ (by omega) (hR.st (by omega)) (hF.tr RF.pI) h
    | false =>
      rw [rn_no (fun q => by rw [hb] at q; exact absurd q.2 (by decide))] at h
      simp only [Bool.and_false, Bool.false_eq_true, not_false_iff, if_true]
      exact h G1 hR hF
set_option maxRecDepth 8000 in
theorem l_step1 {d z : Nat} {Q : Rt} : ∀ (n i : Nat) (G1 : Mem), i + n = L → RD G1 r b T L i s → RF r G G1 → (∀ G', RD G' r b T L (rn isLe T L i) s → RF r G G' → Q none G' z) → WP (d + 2) 34 Q 62 [some (va_rf (some r))] [] G1 z 0 0 := by
  intro n
  induction n with
  | zero =>
    intro i G1 hi hR hF h
    have hi : i = L := by omega
    subst hi
    have h1 := hR
    obtain ⟨q1, q2, q3, q4, q5, q6, q7, q8, q9, q10, q11⟩ := h1
    rw [e_34_62]
    simp only [ent, entL, isL_int, isL_rf, isL_long, locS, List.length_cons, List.length_nil, List.cons_append, List.nil_append, List.replicate_succ, List.replicate_zero, Bool.false_eq_true, if_false, if_true, true_and, and_true, Nat.reduceAdd, Nat.reduceSub, Nat.reduceLeDiff, Nat.zero_le, Nat.le_refl, Nat.zero_add, Nat.add_zero, bI_0, bI_1, bI_n, Nat.reduceEqDiff, false_and, and_false, and_self, e_34_63, e_34_66, e_34_67, e_34_70, e_34_73, e_34_74, e_34_75, e_34_78, e_34_81, e_34_84, e_34_85, e_34_86, e_34_89, e_34_90, e_34_91, e_34_94, e_34_164, q1, q9, q10, n_le (show i < 2 ^ 31 by omega) (show i < 2 ^ 31 by omega), Nat.le_refl, if_true]
    rw [rn_no (fun q => absurd q.1 (Nat.lt_irrefl _))] at h
    exact h G1 hR hF
  | succ n ih =>
    intro i G1 hi hR hF h
    have h1 := hR
    obtain ⟨q1, q2, q3, q4, q5, q6, q7, q8, q9, q10, q11⟩ := h1
    rw [e_34_62]
    simp only [ent, entL, isL_int, isL_rf, isL_long, locS, List.length_cons, List.length_nil, List.cons_append, List.nil_append, List.replicate_succ, List.replicate_zero, Bool.false_eq_true, if_false, if_true, true_and, and_true, Nat.reduceAdd, Nat.reduceSub, Nat.reduceLeDiff, Nat.zero_le, Nat.le_refl, Nat.zero_add, Nat.add_zero, bI_0, bI_1, bI_n, Nat.reduceEqDiff, false_and, and_false, and_self, e_34_63, e_34_66, e_34_67, e_34_70, e_34_73, e_34_74, e_34_75, e_34_78, e_34_81, e_34_84, e_34_85, e_34_86, e_34_89, e_34_90, e_34_91, e_34_94, e_34_164, q1, q9, q10, n_le (show L < 2 ^ 31 by omega) (show i < 2 ^ 31 by omega), show ¬ L ≤ i by omega, if_false, s_isLetter hR (show i < 2 ^ 31 by omega), n_1]
    cases hb : isLe (T i) with
    | true =>
      rw [rn_go (by omega) hb] at h
      simp only [show i < L by omega, decide_true, Bool.and_self, not_true, if_false]
      exact ih (i + 1) _ (by omega) (hR.en (by omega)) (hF.tr RF.pI) h
    | false =>
      rw [rn_no (fun q => by rw [hb] at q; exact absurd q.2 (by decide))] at h
      simp only [Bool.and_false, Bool.false_eq_true, not_false_iff, if_true]
      exact h G1 hR hF
set_option maxRecDepth 8000 in
theorem l_step2 {d z : Nat} {Q : Rt} : ∀ (n i : Nat) (G1 : Mem), i + n = L → RD G1 r b T L i s → RF r G G1 → (∀ G', RD G' r b T L (rn isDi T L i) s → RF r G G' → Q none G' z) → WP (d + 2) 34 Q 108 [some (va_rf (some r))] [] G1 z 0 0 := by
  intro n
  induction n with
  | zero =>
    intro i G1 hi hR hF h
    have hi : i = L := by omega
    subst hi
    have h1 := hR
    obtain ⟨q1, q2, q3, q4, q5, q6, q7, q8, q9, q10, q11⟩ := h1
    rw [e_34_108]
    simp only [ent, entL, isL_int, isL_rf, isL_long, locS, List.length_cons, List.length_nil, List.cons_append, List.nil_append, List.replicate_succ, List.replicate_zero, Bool.false_eq_true, if_false, if_true, true_and, and_true, Nat.reduceAdd, Nat.reduceSub, Nat.reduceLeDiff, Nat.zero_le, Nat.le_refl, Nat.zero_add, Nat.add_zero, bI_0, bI_1, bI_n, Nat.reduceEqDiff, false_and, and_false, and_self, e_34_109, e_34_112, e_34_113, e_34_116, e_34_119, e_34_120, e_34_121, e_34_124, e_34_127, e_34_130, e_34_131, e_34_132, e_34_135, e_34_136, e_34_137, e_34_140, e_34_164, q1, q9, q10, n_le (show i < 2 ^ 31 by omega) (show i < 2 ^ 31 by omega), Nat.le_refl, if_true]
    rw [rn_no (fun q => absurd q.1 (Nat.lt_irrefl _))] at h
    exact h G1 hR hF
  | succ n ih =>
    intro i G1 hi hR hF h
    have h1 := hR
    obtain ⟨q1, q2, q3, q4, q5, q6, q7, q8, q9, q10, q11⟩ := h1
    rw [e_34_108]
    simp only [ent, entL, isL_int, isL_rf, isL_long, locS, List.length_cons, List.length_nil, List.cons_append, List.nil_append, List.replicate_succ, List.replicate_zero, Bool.false_eq_true, if_false, if_true, true_and, and_true, Nat.reduceAdd, Nat.reduceSub, Nat.reduceLeDiff, Nat.zero_le, Nat.le_refl, Nat.zero_add, Nat.add_zero, bI_0, bI_1, bI_n, Nat.reduceEqDiff, false_and, and_false, and_self, e_34_109, e_34_112, e_34_113, e_34_116, e_34_119, e_34_120, e_34_121, e_34_124, e_34_127, e_34_130, e_34_131, e_34_132, e_34_135, e_34_136, e_34_137, e_34_140, e_34_164, q1, q9, q10, n_le (show L < 2 ^ 31 by omega) (show i < 2 ^ 31 by omega), show ¬ L ≤ i by omega, if_false, s_isDigit hR (show i < 2 ^ 31 by omega), n_1]
    cases hb : isDi (T i) with
    | true =>
      rw [rn_go (by omega) hb] at h
      simp only [show i < L by omega, decide_true, Bool.and_self, not_true, if_false]
      exact ih (i + 1) _ (by omega) (hR.en (by omega)) (hF.tr RF.pI) h
    | false =>
      rw [rn_no (fun q => by rw [hb] at q; exact absurd q.2 (by decide))] at h
      simp only [Bool.and_false, Bool.false_eq_true, not_false_iff, if_true]
      exact h G1 hR hF
set_option maxRecDepth 8000 in
theorem s_step {d z : Nat} {Q : Rt} (hR : RD G r b T L e s) (h : ∀ G', RD G' r b T L (tokE T L (rn isBl T L e)) (rn isBl T L e) → RF r G G' → Q none G' z) : CALL (d + 3) 34 [va_rf (some r)] G z Q := by
  have q1 := hR.1
  have q10 := hR.2.2.2.2.2.2.2.2.2.1
  have q7 := hR.2.2.2.2.2.2.1
  rw [CALL_eq]
  simp only [mxE_34, ent, entL, isL_int, isL_rf, isL_long, locS, List.length_cons, List.length_nil, List.cons_append, List.nil_append, List.replicate_succ, List.replicate_zero, Bool.false_eq_true, if_false, if_true, true_and, and_true, Nat.reduceAdd, Nat.reduceSub, Nat.reduceLeDiff, Nat.zero_le, Nat.le_refl, Nat.zero_add, Nat.add_zero, bI_0, bI_1, bI_n, Nat.reduceEqDiff, false_and, and_false, and_self, e_34_0, e_34_1, e_34_2, e_34_5, q1, q10]
  refine l_step0 (G := G) (L - e) e _ (by omega) (hR.st q7) RF.pI fun G1 hR1 hF1 => ?_
  generalize rn isBl T L e = s' at hR1 h
  have p1 := hR1.1
  have p6 := hR1.2.2.2.2.2.1
  have p8 := hR1.2.2.2.2.2.2.2.1
  have p9 := hR1.2.2.2.2.2.2.2.2.1
  have p11 := hR1.2.2.2.2.2.2.2.2.2.2
  have hR2 := hR1.en p8
  have hF2 := hF1.tr (RF.pI (k := 2) (v := nI s'))
  simp only [ent, entL, isL_int, isL_rf, isL_long, locS, List.length_cons, List.length_nil, List.cons_append, List.nil_append, List.replicate_succ, List.replicate_zero, Bool.false_eq_true, if_false, if_true, true_and, and_true, Nat.reduceAdd, Nat.reduceSub, Nat.reduceLeDiff, Nat.zero_le, Nat.le_refl, Nat.zero_add, Nat.add_zero, bI_0, bI_1, bI_n, Nat.reduceEqDiff, false_and, and_false, and_self, e_34_43, e_34_44, e_34_45, e_34_48, e_34_51, e_34_52, e_34_53, e_34_56, e_34_59, p1, p11, memS]
  simp only [ent, entL, isL_int, isL_rf, isL_long, locS, List.length_cons, List.length_nil, List.cons_append, List.nil_append, List.replicate_succ, List.replicate_zero, Bool.false_eq_true, if_false, if_true, true_and, and_true, Nat.reduceAdd, Nat.reduceSub, Nat.reduceLeDiff, Nat.zero_le, Nat.le_refl, Nat.zero_add, Nat.add_zero, bI_0, bI_1, bI_n, Nat.reduceEqDiff, false_and, and_false, and_self, s_isLetter hR2 (show s' < 2 ^ 31 by omega), e_34_43, e_34_44, e_34_45, e_34_48, e_34_51, e_34_52, e_34_53, e_34_56, e_34_59]
  generalize pI G1 3 2 r (nI s') = G2 at hR2 hF2
  have r1 := hR2.1
  have r9 := hR2.2.2.2.2.2.2.2.2.1
  have r10 := hR2.2.2.2.2.2.2.2.2.2.1
  have r11 := hR2.2.2.2.2.2.2.2.2.2.2
  unfold tokE at h
  by_cases c1 : s' < L ∧ isLe (T s') = true
  · rw [if_pos c1] at h
    simp only [c1.1, c1.2, decide_true, Bool.and_self, not_true, if_false]
    exact l_step1 (G := G) (L - s') s' _ (by omega) hR2 hF2 h
  · rw [if_neg c1] at h
    have e1 : (decide (s' < L) && isLe (T s')) = false := by
      cases hq : (decide (s' < L) && isLe (T s')) with
      | false => rfl
      | true => rw [Bool.and_eq_true, decide_eq_true_eq] at hq; exact absurd hq c1
    simp only [e1, Bool.false_eq_true, not_false_iff, if_true]
    simp only [ent, entL, isL_int, isL_rf, isL_long, locS, List.length_cons, List.length_nil, List.cons_append, List.nil_append, List.replicate_succ, List.replicate_zero, Bool.false_eq_true, if_false, if_true, true_and, and_true, Nat.reduceAdd, Nat.reduceSub, Nat.reduceLeDiff, Nat.zero_le, Nat.le_refl, Nat.zero_add, Nat.add_zero, bI_0, bI_1, bI_n, Nat.reduceEqDiff, false_and, and_false, and_self, e_34_97, e_34_98, e_34_99, e_34_102, e_34_105, r1, r11, s_isDigit hR2 (show s' < 2 ^ 31 by omega)]
    by_cases c2 : s' < L ∧ isDi (T s') = true
    · rw [if_pos c2] at h
      simp only [c2.1, c2.2, decide_true, Bool.and_self, not_true, if_false]
      exact l_step2 (G := G) (L - s') s' _ (by omega) hR2 hF2 h
    · rw [if_neg c2] at h
      have e2 : (decide (s' < L) && isDi (T s')) = false := by
        cases hq : (decide (s' < L) && isDi (T s')) with
        | false => rfl
        | true => rw [Bool.and_eq_true, decide_eq_true_eq] at hq; exact absurd hq c2
      simp only [e2, Bool.false_eq_true, not_false_iff, if_true]
      simp only [ent, entL, isL_int, isL_rf, isL_long, locS, List.length_cons, List.length_nil, List.cons_append, List.nil_append, List.replicate_succ, List.replicate_zero, Bool.false_eq_true, if_false, if_true, true_and, and_true, Nat.reduceAdd, Nat.reduceSub, Nat.reduceLeDiff, Nat.zero_le, Nat.le_refl, Nat.zero_add, Nat.add_zero, bI_0, bI_1, bI_n, Nat.reduceEqDiff, false_and, and_false, and_self, e_34_143, e_34_144, e_34_147, e_34_148, e_34_151, e_34_154, e_34_155, e_34_156, e_34_159, e_34_160, e_34_161, e_34_164, r1, r9, r10, r11, n_le (show L < 2 ^ 31 by omega) (show s' < 2 ^ 31 by omega), n_1]
      by_cases c3 : s' < L
      · rw [if_pos c3] at h
        simp only [show ¬ L ≤ s' by omega, if_false]
        exact h _ (hR2.en (by omega)) (hF2.tr RF.pI)
      · rw [if_neg c3] at h
        simp only [show L ≤ s' by omega, if_true]
        exact h _ hR2 hF2
end
