/-! THE REFERENCE's order: who may lie where, waits, how many -/
def OM (m : Nat) (G G' : Mem) : Prop := (∀ a, mK G' a = mK G a) ∧ (∀ a, mN G' a = mN G a) ∧ (∀ c k a, ¬ (c = 8 ∧ (k = 34 ∨ k = 35)) → mI G' c k a = mI G c k a) ∧ (∀ c k a, mR G' c k a = mR G c k a) ∧ (∀ a i, ¬ (m + 20 ≤ a ∧ a ≤ m + 23) → mE G' a i = mE G a i) ∧ ∀ a i, mQ G' a i = mQ G a i
def ixO (lo : Option Nat) : Int32 := match lo with
  | none => -1
  | some a => nI a
section
variable {G : Mem} {m : Nat} {S : St} {B : List Nat} {w : Nat}
theorem OM.rf : OM m G G := ⟨fun _ => rfl, fun _ => rfl, fun _ _ _ _ => rfl, fun _ _ _ => rfl, fun _ _ _ => rfl, fun _ _ => rfl⟩
theorem OM.tr {G1 G2 : Mem} (h : OM m G G1) (h2 : OM m G1 G2) : OM m G G2 :=
  ⟨fun a => (h2.1 a).trans (h.1 a), fun a => (h2.2.1 a).trans (h.2.1 a), fun c k a q => (h2.2.2.1 c k a q).trans (h.2.2.1 c k a q), fun c k a => (h2.2.2.2.1 c k a).trans (h.2.2.2.1 c k a), fun a i q => (h2.2.2.2.2.1 a i q).trans (h.2.2.2.2.1 a i q), fun a i => (h2.2.2.2.2.2 a i).trans (h.2.2.2.2.2 a i)⟩
theorem OM.pE {a i : Nat} {v : Int32} (ha : m + 20 ≤ a ∧ a ≤ m + 23) : OM m G (pE G a i v) := ⟨fun _ => rfl, fun _ => rfl, fun _ _ _ _ => rfl, fun _ _ _ => rfl, fun b k q => by
  have : ¬ b = a := fun e => q (by omega)
  simp [memS, this], fun _ _ => rfl⟩
theorem OM.pI {k a : Nat} {v : Int32} (hk : k = 34 ∨ k = 35) : OM m G (pI G 8 k a v) := ⟨fun _ => rfl, fun _ => rfl, fun c k' b q => by
  have : ¬ (c = 8 ∧ k' = k ∧ b = a) := fun e => q ⟨e.1, by rw [e.2.1]; exact hk⟩
  simp only [memS, this, if_false], fun _ _ _ => rfl, fun _ _ _ => rfl, fun _ _ => rfl⟩
theorem OM.fm {G' : Mem} (h : OM m G G') : FM m G G' := ⟨h.1, h.2.1, fun c k a q => h.2.2.1 c k a (fun e => q e.1), h.2.2.2.1, fun a i q => h.2.2.2.2.1 a i (by omega), h.2.2.2.2.2⟩
theorem RM.om {G' : Mem} (h : RM G m S) (q : OM m G G') : RM G' m S := by
  obtain ⟨h1, h2, h3, h4⟩ := h
  obtain ⟨q1, q2, q3, q4, q5, q6⟩ := q
  have qe : ∀ k i, k < 20 → mE G' (m + k) i = mE G (m + k) i := fun k i hk => q5 _ _ (by omega)
  refine ⟨?_, ?_, ?_, fun c hc => ?_⟩
  · simp only [MS, q1, q2, q4]; exact h1
  · simp only [MN] at h2 ⊢
    rw [q3 _ _ _ (by omega), q3 _ _ _ (by omega), q3 _ _ _ (by omega), q3 _ _ _ (by omega), q3 _ _ _ (by omega), q3 _ _ _ (by omega), q3 _ _ _ (by omega)]
    exact h2
  · simp only [MA, qe 1 _ (by omega), qe 2 _ (by omega), qe 3 _ (by omega), qe 4 _ (by omega), qe 5 _ (by omega), qe 6 _ (by omega), qe 7 _ (by omega), qe 8 _ (by omega), qe 9 _ (by omega), qe 10 _ (by omega), qe 11 _ (by omega)]
    exact h3
  · simp only [qe 13 _ (by omega), qe 14 _ (by omega), qe 15 _ (by omega), qe 16 _ (by omega), qe 17 _ (by omega), qe 18 _ (by omega), qe 19 _ (by omega)]
    exact h4 c hc
/-- the reference's bill -/
abbrev EM (G : Mem) (m : Nat) (S : St) (B : List Nat) (w : Nat) : Prop := RM G m S ∧ B.length ≤ 9 ∧ (∀ t ∈ B, t < 40) ∧ mI G 8 34 m = nI B.length ∧ ∀ k t, B[k]? = some t → mE G (m + 20) k = nI t ∧ mE G (m + 21) k = wsh S w t
theorem mbt {k : Nat} (hk : k < B.length) : B[k]? = some (B.getD k 0) ∧ B.getD k 0 ∈ B := by
  rw [List.getD_eq_getElem?_getD, List.getElem?_eq_getElem hk]
  exact ⟨rfl, List.getElem_mem hk⟩
theorem i_pos1 (v : Int32) : (0 < v) = (1 ≤ v) := by
  rw [i_lt, i_le, show (0 : Int32).toInt = 0 by decide, show (1 : Int32).toInt = 1 by decide]
  exact propext ⟨fun h => by omega, fun h => by omega⟩
theorem i_eq1 (v u : Int32) : (u = v - 1) = (v = u + 1) := by
  refine propext ⟨fun h => by rw [h]; simp, fun h => by rw [h]; simp⟩
set_option maxRecDepth 8000 in
theorem r_wait (hE : EM G m S B w) {d z a b : Nat} {Q : Rt} (ha : a < B.length) (hb : b < B.length) : CALL (d + 1) 118 [va_rf (some m), .int (nI a), .int (nI b)] G z Q = Q (some (.int (nI (wtO (oP S B w) (some a) b)))) G z := by
  obtain ⟨hM, h9, hB, h1, h2⟩ := hE
  have hm := hM.1
  obtain ⟨a0, a1, a2, a3, a4, a5, -⟩ := hM.2.2.1
  obtain ⟨ta, tA⟩ := mbt ha
  obtain ⟨tb, tB⟩ := mbt hb
  have la := hB _ tA
  have lb := hB _ tB
  have qa := (h2 a _ ta).1
  have qb := (h2 b _ tb).1
  have ew : wtO (oP S B w) (some a) b = if sI S 1 (B.getD a 0) = 3 ∨ sI S 1 (B.getD b 0) = 3 then 0 else if ¬ sI S 5 (B.getD a 0) = 0 ∨ ¬ sI S 5 (B.getD b 0) = 0 then 2 else 1 := by
    unfold wtO oP
    simp only [Bool.or_eq_true, decide_eq_true_eq]
  rw [CALL_eq, ew]
  generalize B.getD a 0 = u at *
  generalize B.getD b 0 = v at *
  simp only [mxE_118, ent, entL, isL_int, isL_rf, isL_long, locS, List.length_cons, List.length_nil, List.cons_append, List.nil_append, List.replicate_succ, List.replicate_zero, Bool.false_eq_true, if_false, if_true, true_and, and_true, Nat.reduceAdd, Nat.reduceSub, Nat.reduceLeDiff, Nat.zero_le, Nat.le_refl, Nat.zero_add, Nat.add_zero, bI_0, bI_1, bI_n, Nat.reduceEqDiff, false_and, and_false, and_self, e_118_0, e_118_1, e_118_4, e_118_5, e_118_8, e_118_9, e_118_10, e_118_11, e_118_12, e_118_15, e_118_16, e_118_19, e_118_20, e_118_23, e_118_24, e_118_25, e_118_26, e_118_27, e_118_30, e_118_31, e_118_32, e_118_33, e_118_36, e_118_37, e_118_40, e_118_41, e_118_42, e_118_43, e_118_46, e_118_47, e_118_50, e_118_51, e_118_54, e_118_55, e_118_56, e_118_57, e_118_60, e_118_61, e_118_64, e_118_65, hm, n_in (show a < 9 by omega) (by decide), n_in (show b < 9 by omega) (by decide), n_cl (show a < 2 ^ 31 by omega), n_cl (show b < 2 ^ 31 by omega), qa, qb, n_in (show u < 40 by omega) (by decide), n_in (show v < 40 by omega) (by decide), n_cl (show u < 2 ^ 31 by omega), n_cl (show v < 2 ^ 31 by omega), a1, a5, true_or, or_true]
  by_cases c1 : sI S 1 u = 3
  · simp only [c1, true_or, if_true]; rfl
  · by_cases c2 : sI S 1 v = 3
    · simp only [c1, c2, or_true, if_true, if_false]; rfl
    · by_cases c3 : sI S 5 u = 0
      · by_cases c4 : sI S 5 v = 0
        · simp only [c1, c2, c3, c4, if_true, if_false, or_self, not_true]; rfl
        · simp only [c1, c2, c3, c4, if_true, if_false, or_self, not_true, not_false_iff, false_or]; rfl
      · simp only [c1, c2, c3, if_true, if_false, or_self, not_false_iff, true_or]; rfl
set_option maxRecDepth 8000 in
theorem r_mayLie (hE : EM G m S B w) {d z k p : Nat} {lo : Option Nat} {Q : Rt} (hk : k < B.length) (hp : p < B.length) (hlo : ∀ a, lo = some a → a < B.length) : CALL (d + 1) 117 [va_rf (some m), .int (nI k), .int (nI p), .int (ixO lo)] G z Q = Q (some (.int (bI ((oP S B w).2.1 k p = true ∧ okO (oP S B w) lo k = true)))) G z := by
  obtain ⟨hM, h9, hB, h1, h2⟩ := hE
  have hm := hM.1
  obtain ⟨a0, a1, a2, a3, a4, a5, -⟩ := hM.2.2.1
  obtain ⟨tk, tK⟩ := mbt hk
  have lk := hB _ tK
  obtain ⟨qk, qw⟩ := h2 k _ tk
  have e1 : ((oP S B w).2.1 k p = true) = ((sI S 1 (B.getD k 0) = 2 → p = 0 ∨ p = B.length - 1) ∧ (1 ≤ wsh S w (B.getD k 0) ∧ wsh S w (B.getD k 0) ≤ nI B.length → wsh S w (B.getD k 0) = nI p + 1)) := by
    show (mayS S B w k p = true) = _
    unfold mayS
    rw [decide_eq_true_eq, i_eq1]
  have e2 : (nI p ≤ 0) = (p ≤ 0) := n_le (b := 0) (by omega) (by decide)
  have e3 : ∀ a, (okO (oP S B w) (some a) k = true) = (sI S 5 (B.getD k 0) = 0 ∨ sI S 5 (B.getD a 0) = 0) := by
    intro a
    unfold okO oP
    simp only [Bool.not_eq_true', Bool.and_eq_false_iff, decide_eq_false_iff_not, Classical.not_not]
    exact propext ⟨fun h => h.symm, fun h => h.symm⟩
  have e4 : (wsh S w (B.getD k 0) ≤ 0) = ¬ 1 ≤ wsh S w (B.getD k 0) := by rw [← i_pos1, not_lt']
  rw [CALL_eq]
  simp only [e1]
  generalize B.getD k 0 = u at *
  generalize wsh S w u = v at *
  simp only [mxE_117, ent, entL, isL_int, isL_rf, isL_long, locS, List.length_cons, List.length_nil, List.cons_append, List.nil_append, List.replicate_succ, List.replicate_zero, Bool.false_eq_true, if_false, if_true, true_and, and_true, Nat.reduceAdd, Nat.reduceSub, Nat.reduceLeDiff, Nat.zero_le, Nat.le_refl, Nat.zero_add, Nat.add_zero, bI_0, bI_1, bI_n, Nat.reduceEqDiff, false_and, and_false, and_self, e_117_0, e_117_1, e_117_4, e_117_5, e_117_6, e_117_8, e_117_9, e_117_12, e_117_14, e_117_15, e_117_16, e_117_19, e_117_20, e_117_23, e_117_24, e_117_25, e_117_28, e_117_29, e_117_30, e_117_33, e_117_34, e_117_35, e_117_36, e_117_39, e_117_40, e_117_41, e_117_44, e_117_45, e_117_48, e_117_49, e_117_50, e_117_51, e_117_54, e_117_57, e_117_58, e_117_61, e_117_62, e_117_63, e_117_64, e_117_65, e_117_66, e_117_69, e_117_70, hm, h1, n_in (show k < 9 by omega) (by decide), n_cl (show k < 2 ^ 31 by omega), qk, qw, n_in (show u < 40 by omega) (by decide), n_cl (show u < 2 ^ 31 by omega), a1, a5, true_or, e2, n_pred (show 0 < B.length by omega), n_le (show B.length - 1 < 2 ^ 31 by omega) (show p < 2 ^ 31 by omega), nz_0, e4]
  have f0 : Q (some (.int 0)) G z = Q (some (.int (bI False))) G z := by unfold bI; rw [if_neg not_false]
  have rest : WP d 117 Q 71 [some (va_rf (some m)), some (.int (nI k)), some (.int (nI p)), some (.int (ixO lo)), some (.int (nI u))] [] G z 0 0 = Q (some (.int (bI (okO (oP S B w) lo k = true)))) G z := by
    cases lo with
    | none =>
      simp only [ent, entL, isL_int, isL_rf, isL_long, locS, List.length_cons, List.length_nil, List.cons_append, List.nil_append, List.replicate_succ, List.replicate_zero, Bool.false_eq_true, if_false, if_true, true_and, and_true, Nat.reduceAdd, Nat.reduceSub, Nat.reduceLeDiff, Nat.zero_le, Nat.le_refl, Nat.zero_add, Nat.add_zero, bI_0, bI_1, bI_n, Nat.reduceEqDiff, false_and, and_false, and_self, e_117_71, e_117_72, e_117_73, e_117_76, e_117_77, e_117_80, e_117_82, e_117_83, e_117_86, e_117_87, e_117_90, e_117_91, e_117_94, e_117_95, e_117_96, e_117_97, e_117_100, e_117_101, e_117_104, e_117_105, ixO, nz_1]
      rfl
    | some a =>
      have ha := hlo a rfl
      obtain ⟨ta, tA⟩ := mbt ha
      have la := hB _ tA
      have qa := (h2 a _ ta).1
      have e3 := e3 a
      simp only [e3]
      generalize B.getD a 0 = t at *
      simp only [ent, entL, isL_int, isL_rf, isL_long, locS, List.length_cons, List.length_nil, List.cons_append, List.nil_append, List.replicate_succ, List.replicate_zero, Bool.false_eq_true, if_false, if_true, true_and, and_true, Nat.reduceAdd, Nat.reduceSub, Nat.reduceLeDiff, Nat.zero_le, Nat.le_refl, Nat.zero_add, Nat.add_zero, bI_0, bI_1, bI_n, Nat.reduceEqDiff, false_and, and_false, and_self, e_117_71, e_117_72, e_117_73, e_117_76, e_117_77, e_117_80, e_117_82, e_117_83, e_117_86, e_117_87, e_117_90, e_117_91, e_117_94, e_117_95, e_117_96, e_117_97, e_117_100, e_117_101, e_117_104, e_117_105, ixO, n_m1 (show a < 2 ^ 31 by omega), hm, n_in (show u < 40 by omega) (by decide), n_cl (show u < 2 ^ 31 by omega), n_in (show a < 9 by omega) (by decide), n_cl (show a < 2 ^ 31 by omega), qa, n_in (show t < 40 by omega) (by decide), n_cl (show t < 2 ^ 31 by omega), a5, nz_0, nz_1, true_or, or_true]
      unfold bI
      by_cases c3 : sI S 5 u = 0
      · simp only [c3, true_or, if_true]
      · by_cases c4 : sI S 5 t = 0
        · simp only [c3, c4, or_true, if_true, if_false]
        · simp only [c3, c4, or_self, if_false]
  have tail : (if ¬ 1 ≤ v then WP d 117 Q 71 [some (va_rf (some m)), some (.int (nI k)), some (.int (nI p)), some (.int (ixO lo)), some (.int (nI u))] [] G z 0 0
      else if nI B.length < v then WP d 117 Q 71 [some (va_rf (some m)), some (.int (nI k)), some (.int (nI p)), some (.int (ixO lo)), some (.int (nI u))] [] G z 0 0
      else if v = nI p + 1 then WP d 117 Q 71 [some (va_rf (some m)), some (.int (nI k)), some (.int (nI p)), some (.int (ixO lo)), some (.int (nI u))] [] G z 0 0 else Q (some (.int 0)) G z)
      = Q (some (.int (bI ((1 ≤ v ∧ v ≤ nI B.length → v = nI p + 1) ∧ okO (oP S B w) lo k = true)))) G z := by
    rw [rest]
    by_cases c1 : 1 ≤ v
    · by_cases c2 : nI B.length < v
      · have c2' : ¬ v ≤ nI B.length := by rw [not_le']; exact c2
        rw [if_neg (fun q => q c1), if_pos c2]
        simp only [c2', and_false, false_imp_iff, true_and]
      · have c2' : v ≤ nI B.length := by rw [← not_lt']; exact c2
        rw [if_neg (fun q => q c1), if_neg c2]
        by_cases c3 : v = nI p + 1
        · rw [if_pos c3]
          have : (1 ≤ v ∧ v ≤ nI B.length → v = nI p + 1) = True := eq_true fun _ => c3
          simp only [this, true_and]
        · rw [if_neg c3]
          have : (1 ≤ v ∧ v ≤ nI B.length → v = nI p + 1) = False := eq_false fun q => c3 (q ⟨c1, c2'⟩)
          simp only [this, false_and]
          exact f0
    · rw [if_pos c1]
      have : (1 ≤ v ∧ v ≤ nI B.length → v = nI p + 1) = True := eq_true fun q => absurd q.1 c1
      simp only [this, true_and]
  by_cases c0 : sI S 1 u = 2
  · by_cases c1 : p ≤ 0
    · have : (sI S 1 u = 2 → p = 0 ∨ p = B.length - 1) = True := eq_true fun _ => Or.inl (by omega)
      rw [if_pos c0, if_pos c1]
      simp only [this, true_and]
      exact tail
    · by_cases c2 : B.length - 1 ≤ p
      · have : (sI S 1 u = 2 → p = 0 ∨ p = B.length - 1) = True := eq_true fun _ => Or.inr (by omega)
        rw [if_pos c0, if_neg c1, if_pos c2]
        simp only [this, true_and]
        exact tail
      · have : (sI S 1 u = 2 → p = 0 ∨ p = B.length - 1) = False := eq_false fun q => by have := q c0; omega
        rw [if_pos c0, if_neg c1, if_neg c2]
        simp only [this, false_and]
        exact f0
  · have : (sI S 1 u = 2 → p = 0 ∨ p = B.length - 1) = True := eq_true fun q => absurd q c0
    rw [if_neg c0]
    simp only [this, true_and]
    exact tail
theorem pc_h {s : Nat} (hs : s < 512) : pc s = s % 2 + pc (s / 2) ∧ nI s &&& 1 = nI (s % 2) ∧ nI s >>> ((1 : Int32) &&& 31) = nI (s / 2) := by
  have h0 : ((List.range 512).all fun s => decide (pc s = s % 2 + pc (s / 2) ∧ nI s &&& 1 = nI (s % 2) ∧ nI s >>> ((1 : Int32) &&& 31) = nI (s / 2))) = true := by decide +kernel
  rw [List.all_eq_true] at h0
  have := h0 s (List.mem_range.mpr hs)
  rwa [decide_eq_true_eq] at this
set_option maxRecDepth 8000 in
theorem l_manyS {d z : Nat} {v0 : Int32} {Q : Rt} : ∀ (n s a : Nat), s ≤ n → s < 512 → Q (some (.int (nI (a + pc s)))) G z → WP d 120 Q 4 [some (.int v0), some (.int (nI a)), some (.int (nI s))] [] G z 0 0 := by
  intro n
  induction n with
  | zero =>
    intro s a hn hs h
    have : s = 0 := by omega
    subst this
    rw [e_120_4]
    simp only [ent, entL, isL_int, isL_rf, isL_long, locS, List.length_cons, List.length_nil, List.cons_append, List.nil_append, List.replicate_succ, List.replicate_zero, Bool.false_eq_true, if_false, if_true, true_and, and_true, Nat.reduceAdd, Nat.reduceSub, Nat.reduceLeDiff, Nat.zero_le, Nat.le_refl, Nat.zero_add, Nat.add_zero, bI_0, bI_1, bI_n, Nat.reduceEqDiff, false_and, and_false, and_self, e_120_5, e_120_21, e_120_22, show nI 0 ≤ 0 by decide]
    exact h
  | succ n ih =>
    intro s a hn hs h
    by_cases e : s = 0
    · subst e
      rw [e_120_4]
      simp only [ent, entL, isL_int, isL_rf, isL_long, locS, List.length_cons, List.length_nil, List.cons_append, List.nil_append, List.replicate_succ, List.replicate_zero, Bool.false_eq_true, if_false, if_true, true_and, and_true, Nat.reduceAdd, Nat.reduceSub, Nat.reduceLeDiff, Nat.zero_le, Nat.le_refl, Nat.zero_add, Nat.add_zero, bI_0, bI_1, bI_n, Nat.reduceEqDiff, false_and, and_false, and_self, e_120_5, e_120_21, e_120_22, show nI 0 ≤ 0 by decide]
      exact h
    · obtain ⟨p1, p2, p3⟩ := pc_h hs
      have e0 : ¬ nI s ≤ 0 := by rw [show (0 : Int32) = nI 0 from rfl, n_le (by omega) (by decide)]; omega
      rw [e_120_4]
      simp only [ent, entL, isL_int, isL_rf, isL_long, locS, List.length_cons, List.length_nil, List.cons_append, List.nil_append, List.replicate_succ, List.replicate_zero, Bool.false_eq_true, if_false, if_true, true_and, and_true, Nat.reduceAdd, Nat.reduceSub, Nat.reduceLeDiff, Nat.zero_le, Nat.le_refl, Nat.zero_add, Nat.add_zero, bI_0, bI_1, bI_n, Nat.reduceEqDiff, false_and, and_false, and_self, e_120_5, e_120_8, e_120_9, e_120_10, e_120_11, e_120_12, e_120_13, e_120_14, e_120_15, e_120_16, e_120_17, e_120_18, e0, p2, p3, n_add]
      refine ih (s / 2) (a + s % 2) (by omega) (by omega) ?_
      rw [show a + s % 2 + pc (s / 2) = a + pc s by omega]
      exact h
set_option maxRecDepth 8000 in
theorem r_manyS {d z s : Nat} {Q : Rt} (hs : s < 512) (h : Q (some (.int (nI (pc s)))) G z) : CALL (d + 1) 120 [.int (nI s)] G z Q := by
  rw [CALL_eq]
  simp only [mxE_120, ent, entL, isL_int, isL_rf, isL_long, locS, List.length_cons, List.length_nil, List.cons_append, List.nil_append, List.replicate_succ, List.replicate_zero, Bool.false_eq_true, if_false, if_true, true_and, and_true, Nat.reduceAdd, Nat.reduceSub, Nat.reduceLeDiff, Nat.zero_le, Nat.le_refl, Nat.zero_add, Nat.add_zero, bI_0, bI_1, bI_n, Nat.reduceEqDiff, false_and, and_false, and_self, e_120_0, e_120_1, e_120_2, e_120_3]
  refine l_manyS (v0 := nI s) s s 0 (Nat.le_refl _) hs ?_
  rw [Nat.zero_add]
  exact h
end
