/-! THE REFERENCE's sign -/
/-- the tape holds bytes -/
def InvT (S : St) : Prop := ∀ i, (sT S i).toInt8.toInt32 = sT S i
section
variable {G : Mem} {m : Nat} {S : St}
theorem SM.fm {s : Nat} {G' : Mem} (h : SM m s G G') : FM m G G' := ⟨h.1, h.2.1, fun c k a q => h.2.2.1 c k a (fun e => q e.1), h.2.2.2.1, fun a i q => h.2.2.2.2.1 a i (fun e => q (by omega)), h.2.2.2.2.2⟩
theorem PM.fm {G' : Mem} (h : PM G G') : FM m G G' := ⟨h.1, h.2.1, fun c k a q => h.2.2.1 c k a (fun e => q e.1), h.2.2.2.1, fun a i _ => h.2.2.2.2.1 a i, h.2.2.2.2.2⟩
theorem RM.smm {s : Nat} {G' : Mem} (h : RM G m S) (hI : Inv S) (q : SM m s G G') (hs : 12 * sN S 3 ≤ s) : RM G' m S := by
  obtain ⟨h1, h2, h3, h4⟩ := h
  obtain ⟨q1, q2, q3, q4, q5, q6⟩ := q
  have qe : ∀ k i, ¬ (k = 17 ∨ k = 18 ∨ k = 19) → mE G' (m + k) i = mE G (m + k) i := fun k i hk => q5 _ _ (by omega)
  refine ⟨?_, ?_, ?_, fun c hc => ?_⟩
  · simp only [MS, q1, q2, q4]; exact h1
  · simp only [MN] at h2 ⊢
    rw [q3 _ _ _ (by omega), q3 _ _ _ (by omega), q3 _ _ _ (by omega), q3 _ _ _ (by omega), q3 _ _ _ (by omega), q3 _ _ _ (by omega), q3 _ _ _ (by omega)]
    exact h2
  · simp only [MA, qe 1 _ (by omega), qe 2 _ (by omega), qe 3 _ (by omega), qe 4 _ (by omega), qe 5 _ (by omega), qe 6 _ (by omega), qe 7 _ (by omega), qe 8 _ (by omega), qe 9 _ (by omega), qe 10 _ (by omega), qe 11 _ (by omega)]
    exact h3
  · obtain ⟨g1, g2, g3, g4, g5⟩ := h4 c hc
    rw [qe 13 _ (by omega), qe 14 _ (by omega), qe 15 _ (by omega), qe 16 _ (by omega)]
    refine ⟨g1, g2, g3, g4, fun k e he => ?_⟩
    have hk : k < (sS S c).length := by
      rw [List.getElem?_eq_some_iff] at he; exact he.1
    have hl := (hI.2.2.2.2.2.2.2.1 c hc).2.2.2
    rw [q5 _ _ (by omega), q5 _ _ (by omega), q5 _ _ (by omega)]
    exact g5 k e he
/-- what is read so far of the contract that comes next -/
def SL (G : Mem) (m : Nat) (S : St) (l : List Stm3) : Prop := mE G (m + 13) (sN S 3) = nI l.length ∧ ∀ k (e : Stm3), l[k]? = some e → mE G (m + 17) (12 * sN S 3 + k) = e.1 ∧ mE G (m + 18) (12 * sN S 3 + k) = e.2.1 ∧ mE G (m + 19) (12 * sN S 3 + k) = e.2.2
theorem SL.pm {G' : Mem} {l : List Stm3} (h : SL G m S l) (q : PM G G') : SL G' m S l := by
  unfold SL at h ⊢
  simp only [q.2.2.2.2.1]
  exact h
theorem RM.cnt (h : RM G m S) {v : Int32} : RM (pE G (m + 13) (sN S 3) v) m S := by
  obtain ⟨h1, h2, h3, h4⟩ := h
  refine ⟨?_, ?_, ?_, fun c hc => ?_⟩
  · simp only [MS, memS]; exact h1
  · simp only [MN, memS] at h2 ⊢; exact h2
  · simp only [MA] at h3 ⊢; simp [memS, h3]; exact h3.2.2.2.2.2.2.2.2.2.1
  · have := h4 c hc
    simp [memS, show ¬ c = sN S 3 by omega, this]
    exact fun k a b e q => this.2.2.2.2 k (a, b, e) q
theorem SL.add {s : Nat} {G' : Mem} {l : List Stm3} {st : Stm3} (h : SL G m S l) (q : SM m (12 * sN S 3 + l.length) G G') (a : mE G' (m + 17) (12 * sN S 3 + l.length) = st.1 ∧ mE G' (m + 18) (12 * sN S 3 + l.length) = st.2.1 ∧ mE G' (m + 19) (12 * sN S 3 + l.length) = st.2.2) : SL (pE G' (m + 13) (sN S 3) (nI (l.length + 1))) m S (l ++ [st]) := by
  unfold SL at h ⊢
  refine ⟨by simp [memS], fun k e he => ?_⟩
  simp only [memS, show ¬ m + 17 = m + 13 by omega, show ¬ m + 18 = m + 13 by omega, show ¬ m + 19 = m + 13 by omega, false_and, if_false]
  by_cases hk : k = l.length
  · subst hk
    rw [List.getElem?_append_right (Nat.le_refl _), Nat.sub_self] at he
    cases he
    exact a
  · have hk2 : k < (l ++ [st]).length := by rw [List.getElem?_eq_some_iff] at he; exact he.1
    rw [List.length_append, List.length_singleton] at hk2
    rw [List.getElem?_append_left (by omega)] at he
    rw [q.2.2.2.2.1 _ _ (by omega), q.2.2.2.2.1 _ _ (by omega), q.2.2.2.2.1 _ _ (by omega)]
    exact h.2 k e he
theorem txt_nt {T : Nat → Int32} {L e : Nat} (he : e ≤ L) : ∀ n l, txt T L n l (nt T L e) = txt T L n l e
  | 0, l => by rw [txt, txt, nt_nt he]
  | n + 1, l => by rw [txt, txt, nt_nt he]
set_option maxRecDepth 8000 in
theorem l_sign8 {d z : Nat} {T : Nat → Int32} {L : Nat} {t f n0 : Int32} {Q : Rt} (hI : Inv S) (h60 : sN S 3 < 60) : ∀ (n : Nat) (l : List Stm3) (p : Nat) (G1 : Mem), l.length + n = 12 → RT G1 m T L p → nt T L p = p → RM G1 m S → SL G1 m S l → FM m G G1 →
    (∀ l' G', txt T L n l p = .inr l' → RM G' m S → SL G' m S l' → FM m G G' → WP (d + 4) 101 Q 188 [some (va_rf (some m)), some (.int t), some (.int f), some (.int n0), some (.int (nI (sN S 3))), some (.int 1)] [] G' z 0 0) →
    (∀ q G', txt T L n l p = .inl q → RM G' m S → mI G' 8 19 m = nI q → FM m G G' → WP (d + 4) 101 Q 188 [some (va_rf (some m)), some (.int t), some (.int f), some (.int n0), some (.int (nI (sN S 3))), some (.int 0)] [] G' z 0 0) →
    WP (d + 4) 101 Q 107 [some (va_rf (some m)), some (.int t), some (.int f), some (.int n0), some (.int (nI (sN S 3))), some (.int 1)] [] G1 z 0 0 := by
  intro n
  induction n with
  | zero =>
    intro l p G1 hn hR hp hM hL hF h1 h2
    obtain ⟨g1, g2, g3, g4, g5, g6⟩ := id hR
    rw [txt, hp] at h1 h2
    rw [e_101_107]
    simp only [ent, entL, isL_int, isL_rf, isL_long, locS, List.length_cons, List.length_nil, List.cons_append, List.nil_append, List.replicate_succ, List.replicate_zero, Bool.false_eq_true, if_false, if_true, true_and, and_true, Nat.reduceAdd, Nat.reduceSub, Nat.reduceLeDiff, Nat.zero_le, Nat.le_refl, Nat.zero_add, Nat.add_zero, bI_0, bI_1, bI_n, Nat.reduceEqDiff, false_and, and_false, and_self, e_101_109, e_101_112, e_101_113, e_101_116, e_101_117, e_101_120, e_101_123, e_101_124, e_101_127, e_101_129, e_101_130, e_101_132, show ¬ (1 : Int32) = 0 by decide, g1, g4, g5, n_le (show L < 2 ^ 31 by omega) (show p < 2 ^ 31 by omega), n_in (show sN S 3 < 61 by omega) (by decide), n_cl (show sN S 3 < 2 ^ 31 by omega), hL.1, true_or]
    by_cases c : L ≤ p
    · rw [if_pos c] at h1
      simp only [c, if_true]
      exact h1 _ _ rfl hM hL hF
    · rw [if_neg c] at h2
      have e12 : (12 : Int32) ≤ nI l.length := by rw [show l.length = 12 by omega]; decide
      simp only [c, if_false, e12, if_true]
      simp only [ent, entL, isL_int, isL_rf, isL_long, locS, List.length_cons, List.length_nil, List.cons_append, List.nil_append, List.replicate_succ, List.replicate_zero, Bool.false_eq_true, if_false, if_true, true_and, and_true, Nat.reduceAdd, Nat.reduceSub, Nat.reduceLeDiff, Nat.zero_le, Nat.le_refl, Nat.zero_add, Nat.add_zero, bI_0, bI_1, bI_n, Nat.reduceEqDiff, false_and, and_false, and_self, e_101_159, e_101_160, e_101_162, e_101_164, e_101_167, show ¬ (1 : Int32) = 0 by decide]
      rw [e_101_107]
      simp only [ent, entL, isL_int, isL_rf, isL_long, locS, List.length_cons, List.length_nil, List.cons_append, List.nil_append, List.replicate_succ, List.replicate_zero, Bool.false_eq_true, if_false, if_true, true_and, and_true, Nat.reduceAdd, Nat.reduceSub, Nat.reduceLeDiff, Nat.zero_le, Nat.le_refl, Nat.zero_add, Nat.add_zero, bI_0, bI_1, bI_n, Nat.reduceEqDiff, false_and, and_false, and_self, e_101_109]
      exact h2 _ _ rfl hM g5 hF
  | succ n ih =>
    intro l p G1 hn hR hp hM hL hF h1 h2
    obtain ⟨g1, g2, g3, g4, g5, g6⟩ := id hR
    rw [txt, hp] at h1 h2
    rw [e_101_107]
    have e12 : ¬ (12 : Int32) ≤ nI l.length := by rw [show (12 : Int32) = nI 12 from rfl, n_le (by decide) (by omega)]; omega
    have hs : 12 * sN S 3 + l.length < 732 := by omega
    simp only [ent, entL, isL_int, isL_rf, isL_long, locS, List.length_cons, List.length_nil, List.cons_append, List.nil_append, List.replicate_succ, List.replicate_zero, Bool.false_eq_true, if_false, if_true, true_and, and_true, Nat.reduceAdd, Nat.reduceSub, Nat.reduceLeDiff, Nat.zero_le, Nat.le_refl, Nat.zero_add, Nat.add_zero, bI_0, bI_1, bI_n, Nat.reduceEqDiff, false_and, and_false, and_self, e_101_109, e_101_112, e_101_113, e_101_116, e_101_117, e_101_120, e_101_123, e_101_124, e_101_127, e_101_129, e_101_130, e_101_132, e_101_135, e_101_136, e_101_138, e_101_140, e_101_141, e_101_142, e_101_145, e_101_147, e_101_148, e_101_149, show ¬ (1 : Int32) = 0 by decide, g1, g4, g5, n_le (show L < 2 ^ 31 by omega) (show p < 2 ^ 31 by omega), n_in (show sN S 3 < 61 by omega) (by decide), n_cl (show sN S 3 < 2 ^ 31 by omega), hL.1, true_or, e12]
    by_cases c : L ≤ p
    · rw [if_pos c] at h1
      simp only [c, if_true]
      exact h1 _ _ rfl hM hL hF
    · rw [if_neg c] at h1 h2
      simp only [c, if_false]
      rw [show (12 : Int32) = nI 12 from rfl, n_mul, n_add]
      refine s_stmt8 hR hp hs (fun st e G2 hq hR2 hF2 a2 => ?_) (fun q G2 hq hR2 hF2 => ?_)
      · rw [hq] at h1 h2
        dsimp only at h1 h2
        have hM2 := (hM.smm hI hF2 (by omega)).cnt (v := nI (l.length + 1))
        have hL2 := hL.add (s := 0) hF2 a2
        have hR3 := hR2.pE (a := m + 13) (i := sN S 3) (v := nI (l.length + 1)) (by omega)
        have hF3 : FM m G (pE G2 (m + 13) (sN S 3) (nI (l.length + 1))) := (hF.tr hF2.fm).tr (FM.pE (by omega))
        have m2 := hR2.1
        have c2 : mE G2 (m + 13) (sN S 3) = nI l.length := by rw [hF2.2.2.2.2.1 _ _ (by omega)]; exact hL.1
        simp only [ent, entL, isL_int, isL_rf, isL_long, locS, List.length_cons, List.length_nil, List.cons_append, List.nil_append, List.replicate_succ, List.replicate_zero, Bool.false_eq_true, if_false, if_true, true_and, and_true, Nat.reduceAdd, Nat.reduceSub, Nat.reduceLeDiff, Nat.zero_le, Nat.le_refl, Nat.zero_add, Nat.add_zero, bI_0, bI_1, bI_n, Nat.reduceEqDiff, false_and, and_false, and_self, e_101_152, e_101_155, e_101_156, e_101_159, e_101_160, e_101_162, e_101_164, e_101_167, e_101_170, e_101_171, e_101_174, e_101_176, e_101_177, e_101_178, e_101_179, e_101_180, e_101_181, e_101_182, show ¬ (1 : Int32) = 0 by decide, m2, memS, n_in (show sN S 3 < 61 by omega) (by decide), n_cl (show sN S 3 < 2 ^ 31 by omega), c2, true_or, n_1]
        have he := hR2.2.2.1
        generalize pE G2 (m + 13) (sN S 3) (nI (l.length + 1)) = G3 at hM2 hL2 hR3 hF3
        refine s_blanks hR3 fun G4 hR4 hF4 => ?_
        simp only [ent, entL, isL_int, isL_rf, isL_long, locS, List.length_cons, List.length_nil, List.cons_append, List.nil_append, List.replicate_succ, List.replicate_zero, Bool.false_eq_true, if_false, if_true, true_and, and_true, Nat.reduceAdd, Nat.reduceSub, Nat.reduceLeDiff, Nat.zero_le, Nat.le_refl, Nat.zero_add, Nat.add_zero, bI_0, bI_1, bI_n, Nat.reduceEqDiff, false_and, and_false, and_self, e_101_185]
        refine ih (l ++ [st]) (nt T L e) G4 (by rw [List.length_append, List.length_singleton]; omega) hR4 (nt_nt he) (hM2.smm hI (hF4.sm (m := m) (s := 12 * sN S 3)) (Nat.le_refl _)) (hL2.pm hF4) (hF3.tr hF4.fm) ?_ ?_
        · rw [txt_nt he]; exact h1
        · rw [txt_nt he]; exact h2
      · rw [hq] at h2
        simp only [ent, entL, isL_int, isL_rf, isL_long, locS, List.length_cons, List.length_nil, List.cons_append, List.nil_append, List.replicate_succ, List.replicate_zero, Bool.false_eq_true, if_false, if_true, true_and, and_true, Nat.reduceAdd, Nat.reduceSub, Nat.reduceLeDiff, Nat.zero_le, Nat.le_refl, Nat.zero_add, Nat.add_zero, bI_0, bI_1, bI_n, Nat.reduceEqDiff, false_and, and_false, and_self, e_101_152, e_101_155, e_101_156, e_101_159, e_101_160, e_101_162, e_101_164, e_101_167, show ¬ (1 : Int32) = 0 by decide]
        rw [e_101_107]
        simp only [ent, entL, isL_int, isL_rf, isL_long, locS, List.length_cons, List.length_nil, List.cons_append, List.nil_append, List.replicate_succ, List.replicate_zero, Bool.false_eq_true, if_false, if_true, true_and, and_true, Nat.reduceAdd, Nat.reduceSub, Nat.reduceLeDiff, Nat.zero_le, Nat.le_refl, Nat.zero_add, Nat.add_zero, bI_0, bI_1, bI_n, Nat.reduceEqDiff, false_and, and_false, and_self, e_101_109]
        exact h2 _ _ rfl (hM.smm hI hF2 (by omega)) hR2.2.2.2.2.1 (hF.tr hF2.fm)
/-- the text is the tape's beginning -/
def CP (m : Nat) (G G' : Mem) : Prop := (∀ a, mK G' a = mK G a) ∧ (∀ a, mN G' a = mN G a) ∧ (∀ c k a, mI G' c k a = mI G c k a) ∧ (∀ c k a, mR G' c k a = mR G c k a) ∧ (∀ a i, ¬ a = m + 12 → mE G' a i = mE G a i) ∧ ∀ a i, mQ G' a i = mQ G a i
theorem CP.tr {G G1 G2 : Mem} (h : CP m G G1) (h2 : CP m G1 G2) : CP m G G2 :=
  ⟨fun a => (h2.1 a).trans (h.1 a), fun a => (h2.2.1 a).trans (h.2.1 a), fun c k a => (h2.2.2.1 c k a).trans (h.2.2.1 c k a), fun c k a => (h2.2.2.2.1 c k a).trans (h.2.2.2.1 c k a), fun a i q => (h2.2.2.2.2.1 a i q).trans (h.2.2.2.2.1 a i q), fun a i => (h2.2.2.2.2.2 a i).trans (h.2.2.2.2.2 a i)⟩
theorem CP.rf {G : Mem} : CP m G G := ⟨fun _ => rfl, fun _ => rfl, fun _ _ _ => rfl, fun _ _ _ => rfl, fun _ _ _ => rfl, fun _ _ => rfl⟩
theorem RM.cp {G' : Mem} (h : RM G m S) (q : CP m G G') : RM G' m S := by
  obtain ⟨h1, h2, h3, h4⟩ := h
  obtain ⟨q1, q2, q3, q4, q5, q6⟩ := q
  have qe : ∀ k i, ¬ k = 12 → mE G' (m + k) i = mE G (m + k) i := fun k i hk => q5 _ _ (by omega)
  refine ⟨?_, ?_, ?_, fun c hc => ?_⟩
  · simp only [MS, q1, q2, q4]; exact h1
  · simp only [MN, q3] at h2 ⊢; exact h2
  · simp only [MA, qe 1 _ (by omega), qe 2 _ (by omega), qe 3 _ (by omega), qe 4 _ (by omega), qe 5 _ (by omega), qe 6 _ (by omega), qe 7 _ (by omega), qe 8 _ (by omega), qe 9 _ (by omega), qe 10 _ (by omega), qe 11 _ (by omega)]
    exact h3
  · simp only [qe 13 _ (by omega), qe 14 _ (by omega), qe 15 _ (by omega), qe 16 _ (by omega), qe 17 _ (by omega), qe 18 _ (by omega), qe 19 _ (by omega)]
    exact h4 c hc
set_option maxRecDepth 8000 in
theorem l_copy {d z : Nat} {t f : Int32} {n0 : Nat} {o5 : Option Value} {Q : Rt} (hn0 : n0 ≤ 600) (hT : InvT S) : ∀ (n k : Nat) (G1 : Mem), k + n = n0 → RM G1 m S → CP m G G1 → (∀ i, i < k → mE G1 (m + 12) i = sT S i) →
    (∀ G', RM G' m S → CP m G G' → (∀ i, i < n0 → mE G' (m + 12) i = sT S i) → WP d 101 Q 71 [some (va_rf (some m)), some (.int t), some (.int f), some (.int (nI n0)), some (.int (nI n0)), o5] [] G' z 0 0) →
    WP d 101 Q 45 [some (va_rf (some m)), some (.int t), some (.int f), some (.int (nI n0)), some (.int (nI k)), o5] [] G1 z 0 0 := by
  intro n
  induction n with
  | zero =>
    intro k G1 hn hM hC hk h
    have hk0 : k = n0 := by omega
    subst hk0
    rw [e_101_45]
    simp only [ent, entL, isL_int, isL_rf, isL_long, locS, List.length_cons, List.length_nil, List.cons_append, List.nil_append, List.replicate_succ, List.replicate_zero, Bool.false_eq_true, if_false, if_true, true_and, and_true, Nat.reduceAdd, Nat.reduceSub, Nat.reduceLeDiff, Nat.zero_le, Nat.le_refl, Nat.zero_add, Nat.add_zero, bI_0, bI_1, bI_n, Nat.reduceEqDiff, false_and, and_false, and_self, e_101_47, e_101_48, e_101_51, e_101_52, e_101_55, e_101_57, e_101_58, e_101_61, e_101_63, e_101_64, e_101_65, e_101_68, n_le (show k < 2 ^ 31 by omega) (show k < 2 ^ 31 by omega)]
    exact h G1 hM hC hk
  | succ n ih =>
    intro k G1 hn hM hC hk h
    have hm := hM.1
    have ht := hM.2.2.1.2.2.2.2.2.2.2.2.2.2
    rw [e_101_45]
    simp only [ent, entL, isL_int, isL_rf, isL_long, locS, List.length_cons, List.length_nil, List.cons_append, List.nil_append, List.replicate_succ, List.replicate_zero, Bool.false_eq_true, if_false, if_true, true_and, and_true, Nat.reduceAdd, Nat.reduceSub, Nat.reduceLeDiff, Nat.zero_le, Nat.le_refl, Nat.zero_add, Nat.add_zero, bI_0, bI_1, bI_n, Nat.reduceEqDiff, false_and, and_false, and_self, e_101_47, e_101_48, e_101_51, e_101_52, e_101_55, e_101_57, e_101_58, e_101_61, e_101_63, e_101_64, e_101_65, e_101_68, n_le (show n0 < 2 ^ 31 by omega) (show k < 2 ^ 31 by omega), show ¬ n0 ≤ k by omega, hm, n_in (show k < 600 by omega) (by decide), n_cl (show k < 2 ^ 31 by omega), ht, true_or, n_1, hT k, show ¬ (21 = 22) by decide]
    have hC1 : CP m G1 (pE G1 (m + 12) k (sT S k)) := ⟨fun _ => rfl, fun _ => rfl, fun _ _ _ => rfl, fun _ _ _ => rfl, fun a i q => by simp [memS, q], fun _ _ => rfl⟩
    refine ih (k + 1) _ (by omega) (hM.cp hC1) (hC.tr hC1) (fun i hi => ?_) h
    by_cases q : i = k
    · subst q; simp [memS]
    · simp [memS, q]; exact hk i (by omega)
theorem RM.flt (h : RM G m S) {v : Int32} : RM (pI G 8 20 m v) m (uF S v) := by
  obtain ⟨h1, h2, h3, h4⟩ := h
  refine ⟨?_, ?_, ?_, ?_⟩
  · simp only [MS, memS]; exact h1
  · simp only [MN] at h2 ⊢; simp [memS, stS, h2]
  · simp only [MA, memS, stS]; exact h3
  · intro c hc
    have := h4 c hc
    simp only [memS, stS]; exact this
theorem RM.tp0 (h : RM G m S) : RM (pI G 8 17 m 0) m (uN S 5 0) := by
  obtain ⟨h1, h2, h3, h4⟩ := h
  refine ⟨?_, ?_, ?_, ?_⟩
  · simp only [MS, memS]; exact h1
  · simp only [MN] at h2 ⊢; simp [memS, stS, h2]; rfl
  · simp only [MA, memS, stS]; exact h3
  · intro c hc
    have := h4 c hc
    simp only [memS, stS]; exact this
theorem RM.loc (h : RM G m S) {k : Nat} {v : Int32} (hk : k = 18 ∨ k = 19) : RM (pI G 8 k m v) m S := by
  obtain ⟨h1, h2, h3, h4⟩ := h
  refine ⟨?_, ?_, ?_, ?_⟩
  · simp only [MS, memS]; exact h1
  · simp only [MN] at h2 ⊢; rcases hk with rfl | rfl <;> simp [memS, h2]
  · simp only [MA, memS]; exact h3
  · intro c hc
    have := h4 c hc
    simp only [memS]; exact this
/-- the contract's end -/
theorem RM.newC (h : RM G m S) {t f : Nat} {l : List Stm3} (hL : SL G m S l) : RM (pI (pE (pE (pE G (m + 14) (sN S 3) (nI t)) (m + 15) (sN S 3) (nI f)) (m + 16) (sN S 3) (nI (sN S 0))) 8 3 m (nI (sN S 3 + 1))) m (nwC S t f l) := by
  obtain ⟨h1, h2, h3, h4⟩ := h
  refine ⟨?_, ?_, ?_, ?_⟩
  · simp only [MS, memS]; exact h1
  · simp only [MN] at h2 ⊢; simp [memS, stS, nwC, h2]
  · simp only [MA] at h3 ⊢; simp [memS, stS, nwC, h3]; exact h3.2.2.2.2.2.2.2.2.2.1
  · intro c hc
    have hc : c < sN S 3 + 1 := by simpa [nwC, stS] using hc
    by_cases e : c = sN S 3
    · subst e
      simp [memS, stS, nwC, hL.1]
      exact fun k a b e q => hL.2 k (a, b, e) q
    · have := h4 c (by omega)
      simp [memS, stS, nwC, e, this]
      exact fun k a b e q => this.2.2.2.2 k (a, b, e) q
set_option maxRecDepth 8000 in
theorem d_sign (hM : RM G m S) (hI : Inv S) (hT : InvT S) {d z : Nat} {t f n : Int32} {Q : Rt} (hq : ∀ G', RM G' m (opSign S t f n).1 → FM m G G' → Q (some (.int (opSign S t f n).2)) G' z) : CALL (d + 5) 101 [va_rf (some m), .int t, .int f, .int n] G z Q := by
  have hm := hM.1
  have hn := hM.2.1
  have h40 := hI.2.1
  have h60 := hI.2.2.2.1
  have h600 := hI.2.2.2.2.2.1
  have e5 : (0 ≤ n ∧ n ≤ nI (sN S 5)) = ((ix n (sN S 5 + 1)).isSome = true) := by
    rw [← ix_c (by omega)]
    refine propext ⟨fun q => ⟨q.1, ?_⟩, fun q => ⟨q.1, ?_⟩⟩
    · have := q.2; rw [i_le, nI_toInt (by omega)] at this; rw [i_lt, nI_toInt (by omega)]; omega
    · have := q.2; rw [i_lt, nI_toInt (by omega)] at this; rw [i_le, nI_toInt (by omega)]; omega
  unfold opSign at hq
  rw [CALL_eq]
  simp only [mxE_101, ent, entL, isL_int, isL_rf, isL_long, locS, List.length_cons, List.length_nil, List.cons_append, List.nil_append, List.replicate_succ, List.replicate_zero, Bool.false_eq_true, if_false, if_true, true_and, and_true, Nat.reduceAdd, Nat.reduceSub, Nat.reduceLeDiff, Nat.zero_le, Nat.le_refl, Nat.zero_add, Nat.add_zero, bI_0, bI_1, bI_n, Nat.reduceEqDiff, false_and, and_false, and_self, e_101_0, e_101_1, e_101_2, e_101_5, e_101_8, e_101_9, e_101_12, e_101_15, e_101_16, e_101_17, e_101_18, e_101_21, e_101_24, e_101_27, e_101_29, e_101_30, e_101_31, e_101_34, e_101_36, e_101_39, e_101_41, r_isTurn hM hI, r_isWeek, r_isIn, e5, hm, hn]
  cases ht : ix t (sN S 1) with
  | none => rw [ht] at hq; simp only [Option.isSome_none, Bool.false_eq_true, not_false_iff, if_true]; exact hq G hM FM.rf
  | some i =>
    obtain ⟨hi, rfl⟩ := ix_s (by omega) ht
    rw [ht] at hq
    simp only [Option.isSome_some, not_true, if_false]
    cases hf : ix f 60 with
    | none => rw [hf] at hq; simp only [Option.isSome_none, Bool.false_eq_true, not_false_iff, if_true]; exact hq G hM FM.rf
    | some f' =>
      obtain ⟨hf1, rfl⟩ := ix_s (by decide) hf
      rw [hf] at hq
      simp only [Option.isSome_some, not_true, if_false]
      cases hl : ix n (sN S 5 + 1) with
      | none => rw [hl] at hq; simp only [Option.isSome_none, Bool.false_eq_true, not_false_iff, if_true]; exact hq G hM FM.rf
      | some n' =>
        obtain ⟨hn1, rfl⟩ := ix_s (by omega) hl
        rw [hl] at hq
        dsimp only at hq
        simp only [Option.isSome_some, not_true, if_false, show (60 : Int32) = nI 60 from rfl, n_eq (show sN S 3 < 2 ^ 31 by omega) (show 60 < 2 ^ 31 by decide)]
        by_cases c3 : sN S 3 < 60
        · rw [if_pos c3] at hq
          simp only [show ¬ sN S 3 = 60 by omega, if_false]
          simp only [ent, entL, isL_int, isL_rf, isL_long, locS, List.length_cons, List.length_nil, List.cons_append, List.nil_append, List.replicate_succ, List.replicate_zero, Bool.false_eq_true, if_false, if_true, true_and, and_true, Nat.reduceAdd, Nat.reduceSub, Nat.reduceLeDiff, Nat.zero_le, Nat.le_refl, Nat.zero_add, Nat.add_zero, bI_0, bI_1, bI_n, Nat.reduceEqDiff, false_and, and_false, and_self, e_101_42, e_101_43]
          refine l_copy (S := S) (G := G) (d := d + 4) (show n' ≤ 600 by omega) hT n' 0 G (by omega) hM CP.rf (fun i hi => by omega) fun G1 hM1 hC1 hk1 => ?_
          have m1 := hM1.1
          have n1 := hM1.2.1
          have hM2 := (((hM1.loc (k := 18) (v := nI n') (Or.inl rfl)).tp0).loc (k := 19) (v := 0) (Or.inr rfl)).cnt (v := 0)
          have hI2 : Inv (uN S 5 0) := by
            obtain ⟨i0, i1, i2, i3, i4, i5, i6⟩ := hI
            exact ⟨i0, i1, i2, i3, i4, by simp [stS], i6⟩
          have e3 : sN (uN S 5 0) 3 = sN S 3 := rfl
          have hR2 : RT (pE (pI (pI (pI G1 8 18 m (nI n')) 8 17 m 0) 8 19 m 0) (m + 13) (sN S 3) 0) m (sT S) n' 0 := by
            refine ⟨hM2.1, by omega, by omega, by simp [memS], by simp [memS]; rfl, fun i hi => ?_⟩
            simp [memS]; exact hk1 i hi
          have hL2 : SL (pE (pI (pI (pI G1 8 18 m (nI n')) 8 17 m 0) 8 19 m 0) (m + 13) (sN S 3) 0) m (uN S 5 0) [] := ⟨by simp [memS, stS]; rfl, fun k e he => by simp at he⟩
          have hC1' : FM m G G1 := ⟨hC1.1, hC1.2.1, fun c k a _ => hC1.2.2.1 c k a, hC1.2.2.2.1, fun a i q => hC1.2.2.2.2.1 a i (by omega), hC1.2.2.2.2.2⟩
          have hF2 : FM m G (pE (pI (pI (pI G1 8 18 m (nI n')) 8 17 m 0) 8 19 m 0) (m + 13) (sN S 3) 0) := (((hC1'.tr FM.pI).tr FM.pI).tr FM.pI).tr (FM.pE (by omega))
          simp only [ent, entL, isL_int, isL_rf, isL_long, locS, List.length_cons, List.length_nil, List.cons_append, List.nil_append, List.replicate_succ, List.replicate_zero, Bool.false_eq_true, if_false, if_true, true_and, and_true, Nat.reduceAdd, Nat.reduceSub, Nat.reduceLeDiff, Nat.zero_le, Nat.le_refl, Nat.zero_add, Nat.add_zero, bI_0, bI_1, bI_n, Nat.reduceEqDiff, false_and, and_false, and_self, e_101_71, e_101_72, e_101_73, e_101_76, e_101_77, e_101_78, e_101_81, e_101_82, e_101_83, e_101_86, e_101_87, e_101_90, e_101_92, e_101_93, e_101_96, e_101_98, e_101_99, e_101_100, e_101_101, e_101_103, e_101_104, m1, n1, memS, n_in (show sN S 3 < 61 by omega) (by decide), n_cl (show sN S 3 < 2 ^ 31 by omega)]
          rw [e3] at hM2
          generalize pE (pI (pI (pI G1 8 18 m (nI n')) 8 17 m 0) 8 19 m 0) (m + 13) (sN S 3) 0 = G2 at hM2 hR2 hL2 hF2
          refine s_blanks hR2 fun G3 hR3 hF3 => ?_
          simp only [ent, entL, isL_int, isL_rf, isL_long, locS, List.length_cons, List.length_nil, List.cons_append, List.nil_append, List.replicate_succ, List.replicate_zero, Bool.false_eq_true, if_false, if_true, true_and, and_true, Nat.reduceAdd, Nat.reduceSub, Nat.reduceLeDiff, Nat.zero_le, Nat.le_refl, Nat.zero_add, Nat.add_zero, bI_0, bI_1, bI_n, Nat.reduceEqDiff, false_and, and_false, and_self]
          refine l_sign8 (G := G) (S := uN S 5 0) hI2 c3 12 [] (nt (sT S) n' 0) G3 rfl hR3 (nt_nt (by omega)) (hM2.smm hI2 (hF3.sm (m := m) (s := 12 * sN S 3)) (Nat.le_refl _)) (hL2.pm hF3) (hF2.tr hF3.fm) (fun l G4 hx hM4 hL4 hF4 => ?_) (fun q G4 hx hM4 ha4 hF4 => ?_)
          · rw [txt_nt (by omega)] at hx
            rw [hx] at hq
            dsimp only at hq
            have m4 := hM4.1
            have n4 := hM4.2.1
            have hM5 := (hM4.flt (v := -1)).newC (t := i) (f := f') (l := l) (by
              obtain ⟨a1, a2⟩ := hL4
              exact ⟨by simpa [memS, stS] using a1, fun k e he => by simpa [memS, stS] using a2 k e he⟩)
            have e4 : nwC (uF (uN S 5 0) (-1)) i f' l = nwC (clT S (-1)) i f' l := rfl
            simp only [stS] at hM5 n4
            simp only [ent, entL, isL_int, isL_rf, isL_long, locS, List.length_cons, List.length_nil, List.cons_append, List.nil_append, List.replicate_succ, List.replicate_zero, Bool.false_eq_true, if_false, if_true, true_and, and_true, Nat.reduceAdd, Nat.reduceSub, Nat.reduceLeDiff, Nat.zero_le, Nat.le_refl, Nat.zero_add, Nat.add_zero, bI_0, bI_1, bI_n, Nat.reduceEqDiff, false_and, and_false, and_self, e_101_188, e_101_189, e_101_191, e_101_194, e_101_195, e_101_198, e_101_199, e_101_202, e_101_205, e_101_207, e_101_210, e_101_211, e_101_212, e_101_213, e_101_216, e_101_218, e_101_219, e_101_220, e_101_221, e_101_224, e_101_226, e_101_227, e_101_228, e_101_229, e_101_232, e_101_234, e_101_235, e_101_238, e_101_239, e_101_240, e_101_241, e_101_244, e_101_245, e_101_246, e_101_249, e_101_251, show ¬ (1 : Int32) = 0 by decide, m4, n4, memS, stS, n_in (show sN S 3 < 61 by omega) (by decide), n_cl (show sN S 3 < 2 ^ 31 by omega), n_1]
            exact hq _ hM5 ((((hF4.tr FM.pI).tr (FM.pE (by omega))).tr (FM.pE (by omega))).tr (FM.pE (by omega)) |>.tr FM.pI)
          · rw [txt_nt (by omega)] at hx
            rw [hx] at hq
            have m4 := hM4.1
            simp only [ent, entL, isL_int, isL_rf, isL_long, locS, List.length_cons, List.length_nil, List.cons_append, List.nil_append, List.replicate_succ, List.replicate_zero, Bool.false_eq_true, if_false, if_true, true_and, and_true, Nat.reduceAdd, Nat.reduceSub, Nat.reduceLeDiff, Nat.zero_le, Nat.le_refl, Nat.zero_add, Nat.add_zero, bI_0, bI_1, bI_n, Nat.reduceEqDiff, false_and, and_false, and_self, e_101_188, e_101_189, e_101_191, e_101_194, e_101_195, e_101_198, e_101_199, e_101_202, e_101_205, e_101_207, e_101_210, e_101_211, m4, ha4]
            exact hq _ (hM4.flt (v := nI q)) (hF4.tr FM.pI)
        · rw [if_neg c3] at hq
          simp only [show sN S 3 = 60 by omega, if_true]
          exact hq G hM FM.rf
end
