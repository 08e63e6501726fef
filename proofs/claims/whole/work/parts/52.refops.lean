/-! THE REFERENCE: what its calls leave alone; the calls that change the state -/
def FM (m : Nat) (G G' : Mem) : Prop := (∀ a, mK G' a = mK G a) ∧ (∀ a, mN G' a = mN G a) ∧ (∀ c k a, c ≠ 8 → mI G' c k a = mI G c k a) ∧ (∀ c k a, mR G' c k a = mR G c k a) ∧ (∀ a i, ¬ (m + 1 ≤ a ∧ a ≤ m + 23) → mE G' a i = mE G a i) ∧ ∀ a i, mQ G' a i = mQ G a i
theorem FM.rf {m : Nat} {G : Mem} : FM m G G := ⟨fun _ => rfl, fun _ => rfl, fun _ _ _ _ => rfl, fun _ _ _ => rfl, fun _ _ _ => rfl, fun _ _ => rfl⟩
theorem FM.tr {m : Nat} {G G1 G2 : Mem} (h : FM m G G1) (h2 : FM m G1 G2) : FM m G G2 :=
  ⟨fun a => (h2.1 a).trans (h.1 a), fun a => (h2.2.1 a).trans (h.2.1 a), fun c k a q => (h2.2.2.1 c k a q).trans (h.2.2.1 c k a q), fun c k a => (h2.2.2.2.1 c k a).trans (h.2.2.2.1 c k a), fun a i q => (h2.2.2.2.2.1 a i q).trans (h.2.2.2.2.1 a i q), fun a i => (h2.2.2.2.2.2 a i).trans (h.2.2.2.2.2 a i)⟩
theorem FM.pI {m k : Nat} {G : Mem} {v : Int32} : FM m G (pI G 8 k m v) := by
  refine ⟨fun _ => rfl, fun _ => rfl, fun c k' a q => ?_, fun _ _ _ => rfl, fun _ _ _ => rfl, fun _ _ => rfl⟩
  simp only [memS, q, false_and, if_false]
theorem FM.pE {m a i : Nat} {G : Mem} {v : Int32} (h : m + 1 ≤ a ∧ a ≤ m + 23) : FM m G (pE G a i v) := by
  refine ⟨fun _ => rfl, fun _ => rfl, fun c k' a q => rfl, fun _ _ _ => rfl, fun b k q => ?_, fun _ _ => rfl⟩
  have : ¬ b = a := fun e => q (by omega)
  simp only [memS, this, false_and, if_false]
theorem RX.fm {G G' : Mem} {x : Nat} {ta ha ca : Nat → Nat} {S : St} (h : RX G x ta ha ca S) (q : FM (x + 12) G G') : RX G' x ta ha ca S := by
  obtain ⟨h1, h2, h3, h4, h5, h6, h7⟩ := h
  obtain ⟨q1, q2, q3, q4, q5, q6⟩ := q
  refine ⟨?_, ?_, fun i hi => ?_, fun i hi => ?_, fun i hi => ?_, h6, fun i => ?_⟩
  · simp only [XS, q1, q2, q4]; exact h1
  · simp only [XN, q3 _ _ _ (by decide : 7 ≠ 8)]; exact h2
  · have hi := h3 i hi
    simp only [q1, q2, q4, q3 _ _ _ (by decide : 6 ≠ 8), q6]
    exact hi
  · have hi := h4 i hi
    simp only [q1, q3 _ _ _ (by decide : 4 ≠ 8), q6]
    exact hi
  · obtain ⟨g1, g2, g3, g4, g5, g6⟩ := h5 i hi
    simp only [q1, q4, q3 _ _ _ (by decide : 2 ≠ 8)]
    exact ⟨g1, g2, g3, g4, g5, SCh.congr (G := G) _ _ (fun a ha => ⟨by rw [q1]; exact ha, fun k => q3 _ _ _ (by decide), fun k => q4 _ _ _⟩) g6⟩
  · rw [q5 _ _ (by omega)]; exact h7 i
section
variable {G : Mem} {m : Nat} {S : St}
theorem RM.now (h : RM G m S) {n : Nat} : RM (pI G 8 0 m (nI n)) m (uN S 0 n) := by
  obtain ⟨h1, h2, h3, h4⟩ := h
  refine ⟨?_, ?_, ?_, ?_⟩
  · simp only [MS, memS]; exact h1
  · simp only [MN] at h2 ⊢; simp [memS, stS, h2]
  · simp only [MA, memS, stS]; exact h3
  · intro c hc
    have := h4 c hc
    simp only [memS, stS]; exact this
theorem RM.put1 (h : RM G m S) {i n : Nat} {v : Int32} : RM (pI (pE G (m + 11) i v) 8 17 m (nI n)) m (uN (uT S i v) 5 n) := by
  obtain ⟨h1, h2, h3, h4⟩ := h
  refine ⟨?_, ?_, ?_, ?_⟩
  · simp only [MS, memS]; exact h1
  · simp only [MN] at h2 ⊢; simp [memS, stS, h2]
  · simp only [MA] at h3 ⊢; simp [memS, stS, h3]; exact h3.2.2.2.2.2.2.2.2.2.1
  · intro c hc
    have := h4 c hc
    simp [memS, stS, this]; exact fun k a b e q => this.2.2.2.2 k (a, b, e) q
theorem RM.pb (h : RM G m S) {t w n : Nat} {v : Option Nat} (ht : t < 40) (hw : w < 60) : RM (pI (pE G (m + 10) (60 * t + w) (pInt v)) 8 4 m (nI n)) m (uN (uP S t w v) 4 n) := by
  obtain ⟨h1, h2, h3, h4⟩ := h
  refine ⟨?_, ?_, ?_, ?_⟩
  · simp only [MS, memS]; exact h1
  · simp only [MN] at h2 ⊢; simp [memS, stS, h2]
  · simp only [MA] at h3 ⊢; simp [memS, stS, h3]
    intro t' w' ht' hw'
    by_cases e : t' = t ∧ w' = w
    · obtain ⟨rfl, rfl⟩ := e; simp
    · have : ¬ 60 * t' + w' = 60 * t + w := by omega
      simp only [this, e, if_false]
      exact h3.2.2.2.2.2.2.2.2.2.1 t' w' ht' hw'
  · intro c hc
    have := h4 c hc
    simp [memS, stS, this]; exact fun k a b e q => this.2.2.2.2 k (a, b, e) q
theorem RM.fl (h : RM G m S) {t : Nat} {v : Int32} : RM (pE G (m + 5) t v) m (uI S 4 t v) := by
  obtain ⟨h1, h2, h3, h4⟩ := h
  refine ⟨?_, ?_, ?_, ?_⟩
  · simp only [MS, memS]; exact h1
  · simp only [MN] at h2 ⊢; simp [memS, stS, h2]
  · simp only [MA] at h3 ⊢; simp [memS, stS, h3]; exact h3.2.2.2.2.2.2.2.2.2.1
  · intro c hc
    have := h4 c hc
    simp [memS, stS, this]; exact fun k a b e q => this.2.2.2.2 k (a, b, e) q
theorem RM.newT (h : RM G m S) {mi ki fu li dr : Int32} : RM (pI (pE (pE (pE (pE (pE G (m + 1) (sN S 1) mi) (m + 2) (sN S 1) ki) (m + 6) (sN S 1) fu) (m + 3) (sN S 1) li) (m + 4) (sN S 1) dr) 8 1 m (nI (sN S 1 + 1))) m (nwT S mi ki fu li dr) := by
  obtain ⟨h1, h2, h3, h4⟩ := h
  unfold nwT
  refine ⟨?_, ?_, ?_, ?_⟩
  · simp only [MS, memS]; exact h1
  · simp only [MN] at h2 ⊢; simp [memS, stS, h2]
  · simp only [MA] at h3 ⊢; simp [memS, stS, h3]; exact h3.2.2.2.2.2.2.2.2.2.1
  · intro c hc
    have := h4 c hc
    simp [memS, stS, this]; exact fun k a b e q => this.2.2.2.2 k (a, b, e) q
theorem RM.newH (h : RM G m S) {mi se lo : Int32} : RM (pI (pE (pE (pE G (m + 7) (sN S 2) mi) (m + 8) (sN S 2) se) (m + 9) (sN S 2) lo) 8 2 m (nI (sN S 2 + 1))) m (nwH S mi se lo) := by
  obtain ⟨h1, h2, h3, h4⟩ := h
  unfold nwH
  refine ⟨?_, ?_, ?_, ?_⟩
  · simp only [MS, memS]; exact h1
  · simp only [MN] at h2 ⊢; simp [memS, stS, h2]
  · simp only [MA] at h3 ⊢; simp [memS, stS, h3]; exact h3.2.2.2.2.2.2.2.2.2.1
  · intro c hc
    have := h4 c hc
    simp [memS, stS, this]; exact fun k a b e q => this.2.2.2.2 k (a, b, e) q
set_option maxRecDepth 8000 in
theorem d_fault (hM : RM G m S) {d z : Nat} {Q : Rt} (h : Q (some (.int (sF S))) G z) : CALL (d + 1) 102 [va_rf (some m)] G z Q := by
  have hm := hM.1
  have hn := hM.2.1
  rw [CALL_eq]
  simp only [mxE_102, ent, entL, isL_int, isL_rf, isL_long, locS, List.length_cons, List.length_nil, List.cons_append, List.nil_append, List.replicate_succ, List.replicate_zero, Bool.false_eq_true, if_false, if_true, true_and, and_true, Nat.reduceAdd, Nat.reduceSub, Nat.reduceLeDiff, Nat.zero_le, Nat.le_refl, Nat.zero_add, Nat.add_zero, bI_0, bI_1, bI_n, Nat.reduceEqDiff, false_and, and_false, and_self, e_102_0, e_102_1, e_102_4, hm, hn]
  exact h
set_option maxRecDepth 8000 in
theorem d_count (hM : RM G m S) {d z : Nat} {wh : Int32} {Q : Rt} (h : Q (some (.int (opCount S wh))) G z) : CALL (d + 1) 128 [va_rf (some m), .int wh] G z Q := by
  have hs := hM.1
  have hn := hM.2.1
  rw [CALL_eq]
  simp only [mxE_128, ent, entL, isL_int, isL_rf, isL_long, locS, List.length_cons, List.length_nil, List.cons_append, List.nil_append, List.replicate_succ, List.replicate_zero, Bool.false_eq_true, if_false, if_true, true_and, and_true, Nat.reduceAdd, Nat.reduceSub, Nat.reduceLeDiff, Nat.zero_le, Nat.le_refl, Nat.zero_add, Nat.add_zero, bI_0, bI_1, bI_n, Nat.reduceEqDiff, false_and, and_false, and_self, e_128_0, e_128_1, e_128_40, e_128_41, e_128_44, e_128_45, e_128_46, e_128_49, e_128_50, e_128_51, e_128_54, e_128_55, e_128_56, e_128_59, e_128_60, e_128_61, e_128_64, e_128_65, e_128_66, e_128_69, e_128_70, e_128_71]
  rcases lit_cases wh (n := 6) (by decide) with ⟨k, hk, rfl⟩ | hq
  · match k, hk with
    | 0, _ => rw [tsw_go 40 (by decide)]; simp only [ent, entL, isL_int, isL_rf, isL_long, locS, List.length_cons, List.length_nil, List.cons_append, List.nil_append, List.replicate_succ, List.replicate_zero, Bool.false_eq_true, if_false, if_true, true_and, and_true, Nat.reduceAdd, Nat.reduceSub, Nat.reduceLeDiff, Nat.zero_le, Nat.le_refl, Nat.zero_add, Nat.add_zero, bI_0, bI_1, bI_n, Nat.reduceEqDiff, false_and, and_false, and_self, e_128_0, e_128_1, e_128_40, e_128_41, e_128_44, e_128_45, e_128_46, e_128_49, e_128_50, e_128_51, e_128_54, e_128_55, e_128_56, e_128_59, e_128_60, e_128_61, e_128_64, e_128_65, e_128_66, e_128_69, e_128_70, e_128_71, hs, hn]; exact h
    | 1, _ => rw [tsw_go 45 (by decide)]; simp only [ent, entL, isL_int, isL_rf, isL_long, locS, List.length_cons, List.length_nil, List.cons_append, List.nil_append, List.replicate_succ, List.replicate_zero, Bool.false_eq_true, if_false, if_true, true_and, and_true, Nat.reduceAdd, Nat.reduceSub, Nat.reduceLeDiff, Nat.zero_le, Nat.le_refl, Nat.zero_add, Nat.add_zero, bI_0, bI_1, bI_n, Nat.reduceEqDiff, false_and, and_false, and_self, e_128_0, e_128_1, e_128_40, e_128_41, e_128_44, e_128_45, e_128_46, e_128_49, e_128_50, e_128_51, e_128_54, e_128_55, e_128_56, e_128_59, e_128_60, e_128_61, e_128_64, e_128_65, e_128_66, e_128_69, e_128_70, e_128_71, hs, hn]; exact h
    | 2, _ => rw [tsw_go 50 (by decide)]; simp only [ent, entL, isL_int, isL_rf, isL_long, locS, List.length_cons, List.length_nil, List.cons_append, List.nil_append, List.replicate_succ, List.replicate_zero, Bool.false_eq_true, if_false, if_true, true_and, and_true, Nat.reduceAdd, Nat.reduceSub, Nat.reduceLeDiff, Nat.zero_le, Nat.le_refl, Nat.zero_add, Nat.add_zero, bI_0, bI_1, bI_n, Nat.reduceEqDiff, false_and, and_false, and_self, e_128_0, e_128_1, e_128_40, e_128_41, e_128_44, e_128_45, e_128_46, e_128_49, e_128_50, e_128_51, e_128_54, e_128_55, e_128_56, e_128_59, e_128_60, e_128_61, e_128_64, e_128_65, e_128_66, e_128_69, e_128_70, e_128_71, hs, hn]; exact h
    | 3, _ => rw [tsw_go 55 (by decide)]; simp only [ent, entL, isL_int, isL_rf, isL_long, locS, List.length_cons, List.length_nil, List.cons_append, List.nil_append, List.replicate_succ, List.replicate_zero, Bool.false_eq_true, if_false, if_true, true_and, and_true, Nat.reduceAdd, Nat.reduceSub, Nat.reduceLeDiff, Nat.zero_le, Nat.le_refl, Nat.zero_add, Nat.add_zero, bI_0, bI_1, bI_n, Nat.reduceEqDiff, false_and, and_false, and_self, e_128_0, e_128_1, e_128_40, e_128_41, e_128_44, e_128_45, e_128_46, e_128_49, e_128_50, e_128_51, e_128_54, e_128_55, e_128_56, e_128_59, e_128_60, e_128_61, e_128_64, e_128_65, e_128_66, e_128_69, e_128_70, e_128_71, hs, hn]; exact h
    | 4, _ => rw [tsw_go 60 (by decide)]; simp only [ent, entL, isL_int, isL_rf, isL_long, locS, List.length_cons, List.length_nil, List.cons_append, List.nil_append, List.replicate_succ, List.replicate_zero, Bool.false_eq_true, if_false, if_true, true_and, and_true, Nat.reduceAdd, Nat.reduceSub, Nat.reduceLeDiff, Nat.zero_le, Nat.le_refl, Nat.zero_add, Nat.add_zero, bI_0, bI_1, bI_n, Nat.reduceEqDiff, false_and, and_false, and_self, e_128_0, e_128_1, e_128_40, e_128_41, e_128_44, e_128_45, e_128_46, e_128_49, e_128_50, e_128_51, e_128_54, e_128_55, e_128_56, e_128_59, e_128_60, e_128_61, e_128_64, e_128_65, e_128_66, e_128_69, e_128_70, e_128_71, hs, hn]; exact h
    | 5, _ => rw [tsw_go 65 (by decide)]; simp only [ent, entL, isL_int, isL_rf, isL_long, locS, List.length_cons, List.length_nil, List.cons_append, List.nil_append, List.replicate_succ, List.replicate_zero, Bool.false_eq_true, if_false, if_true, true_and, and_true, Nat.reduceAdd, Nat.reduceSub, Nat.reduceLeDiff, Nat.zero_le, Nat.le_refl, Nat.zero_add, Nat.add_zero, bI_0, bI_1, bI_n, Nat.reduceEqDiff, false_and, and_false, and_self, e_128_0, e_128_1, e_128_40, e_128_41, e_128_44, e_128_45, e_128_46, e_128_49, e_128_50, e_128_51, e_128_54, e_128_55, e_128_56, e_128_59, e_128_60, e_128_61, e_128_64, e_128_65, e_128_66, e_128_69, e_128_70, e_128_71, hs, hn]; exact h
    | k + 6, hk => omega
  · rw [tsw_out 70 (by omega) (by decide)]
    have e : ∀ k, k < 6 → ¬ wh = nI k := fun k hk => lit_ne hq hk (by decide)
    have e2 : opCount S wh = -1 := by
      unfold opCount
      simp only [show (0 : Int32) = nI 0 from rfl, show (1 : Int32) = nI 1 from rfl, show (2 : Int32) = nI 2 from rfl, show (3 : Int32) = nI 3 from rfl, show (4 : Int32) = nI 4 from rfl, show (5 : Int32) = nI 5 from rfl, e 0 (by omega), e 1 (by omega), e 2 (by omega), e 3 (by omega), e 4 (by omega), e 5 (by omega), if_false]
    rw [e2] at h
    simp only [ent, entL, isL_int, isL_rf, isL_long, locS, List.length_cons, List.length_nil, List.cons_append, List.nil_append, List.replicate_succ, List.replicate_zero, Bool.false_eq_true, if_false, if_true, true_and, and_true, Nat.reduceAdd, Nat.reduceSub, Nat.reduceLeDiff, Nat.zero_le, Nat.le_refl, Nat.zero_add, Nat.add_zero, bI_0, bI_1, bI_n, Nat.reduceEqDiff, false_and, and_false, and_self, e_128_0, e_128_1, e_128_40, e_128_41, e_128_44, e_128_45, e_128_46, e_128_49, e_128_50, e_128_51, e_128_54, e_128_55, e_128_56, e_128_59, e_128_60, e_128_61, e_128_64, e_128_65, e_128_66, e_128_69, e_128_70, e_128_71]
    exact h
set_option maxRecDepth 8000 in
theorem d_force (hM : RM G m S) (hI : Inv S) {d z : Nat} {t w k : Int32} {Q : Rt} (h : Q (some (.int (opForce S t w k))) G z) : CALL (d + 3) 104 [va_rf (some m), .int t, .int w, .int k] G z Q := by
  have hm := hM.1
  rw [CALL_eq]
  simp only [mxE_104, ent, entL, isL_int, isL_rf, isL_long, locS, List.length_cons, List.length_nil, List.cons_append, List.nil_append, List.replicate_succ, List.replicate_zero, Bool.false_eq_true, if_false, if_true, true_and, and_true, Nat.reduceAdd, Nat.reduceSub, Nat.reduceLeDiff, Nat.zero_le, Nat.le_refl, Nat.zero_add, Nat.add_zero, bI_0, bI_1, bI_n, Nat.reduceEqDiff, false_and, and_false, and_self, e_104_0, e_104_1, e_104_2, e_104_5, e_104_8, e_104_9, e_104_12, e_104_15, e_104_16, e_104_19, e_104_22, e_104_23, e_104_24, e_104_25, e_104_26, e_104_29, e_104_32, e_104_33, r_isTurn hM hI, r_isWeek, hm]
  unfold opForce at h
  cases h1 : ix t (sN S 1) with
  | none => rw [h1] at h; simp only [Option.isSome_none, Bool.false_eq_true, not_false_iff, if_true]; exact h
  | some t' =>
    obtain ⟨ht, rfl⟩ := ix_s (by have := hI.2.1; omega) h1
    cases h2 : ix w 60 with
    | none => rw [h1, h2] at h; simp only [Option.isSome_none, Option.isSome_some, Bool.false_eq_true, not_false_iff, not_true, if_true, if_false]; exact h
    | some w' =>
      obtain ⟨hw, rfl⟩ := ix_s (by decide) h2
      cases h3 : ix k 60 with
      | none => rw [h1, h2, h3] at h; simp only [Option.isSome_none, Option.isSome_some, Bool.false_eq_true, not_false_iff, not_true, if_true, if_false]; exact h
      | some k' =>
        obtain ⟨hk, rfl⟩ := ix_s (by decide) h3
        rw [h1, h2, h3] at h
        simp only [Option.isSome_some, not_true, if_false]
        refine r_inForce hM hI (by have := hI.2.1; omega) hw hk ?_
        simp only [ent, entL, isL_int, isL_rf, isL_long, locS, List.length_cons, List.length_nil, List.cons_append, List.nil_append, List.replicate_succ, List.replicate_zero, Bool.false_eq_true, if_false, if_true, true_and, and_true, Nat.reduceAdd, Nat.reduceSub, Nat.reduceLeDiff, Nat.zero_le, Nat.le_refl, Nat.zero_add, Nat.add_zero, bI_0, bI_1, bI_n, Nat.reduceEqDiff, false_and, and_false, and_self, e_104_0, e_104_1, e_104_2, e_104_5, e_104_8, e_104_9, e_104_12, e_104_15, e_104_16, e_104_19, e_104_22, e_104_23, e_104_24, e_104_25, e_104_26, e_104_29, e_104_32, e_104_33]
        exact h
set_option maxRecDepth 8000 in
theorem d_where (hM : RM G m S) (hI : Inv S) {d z : Nat} {t w : Int32} {Q : Rt} (h : Q (some (.int (opWhere S t w))) G z) : CALL (d + 3) 115 [va_rf (some m), .int t, .int w] G z Q := by
  have hm := hM.1
  rw [CALL_eq]
  simp only [mxE_115, ent, entL, isL_int, isL_rf, isL_long, locS, List.length_cons, List.length_nil, List.cons_append, List.nil_append, List.replicate_succ, List.replicate_zero, Bool.false_eq_true, if_false, if_true, true_and, and_true, Nat.reduceAdd, Nat.reduceSub, Nat.reduceLeDiff, Nat.zero_le, Nat.le_refl, Nat.zero_add, Nat.add_zero, bI_0, bI_1, bI_n, Nat.reduceEqDiff, false_and, and_false, and_self, e_115_0, e_115_1, e_115_2, e_115_5, e_115_8, e_115_9, e_115_12, e_115_15, e_115_16, e_115_17, e_115_18, e_115_21, e_115_24, e_115_25, r_isTurn hM hI, r_isWeek, hm]
  unfold opWhere at h
  cases h1 : ix t (sN S 1) with
  | none => rw [h1] at h; simp only [Option.isSome_none, Bool.false_eq_true, not_false_iff, if_true]; exact h
  | some t' =>
    obtain ⟨ht, rfl⟩ := ix_s (by have := hI.2.1; omega) h1
    cases h2 : ix w 60 with
    | none => rw [h1, h2] at h; simp only [Option.isSome_none, Option.isSome_some, Bool.false_eq_true, not_false_iff, not_true, if_true, if_false]; exact h
    | some w' =>
      obtain ⟨hw, rfl⟩ := ix_s (by decide) h2
      rw [h1, h2] at h
      simp only [Option.isSome_some, not_true, if_false, r_hallOf hM (show t' < 40 by have := hI.2.1; omega) hw, ent, entL, isL_int, isL_rf, isL_long, locS, List.length_cons, List.length_nil, List.cons_append, List.nil_append, List.replicate_succ, List.replicate_zero, Bool.false_eq_true, if_false, if_true, true_and, and_true, Nat.reduceAdd, Nat.reduceSub, Nat.reduceLeDiff, Nat.zero_le, Nat.le_refl, Nat.zero_add, Nat.add_zero, bI_0, bI_1, bI_n, Nat.reduceEqDiff, false_and, and_false, and_self, e_115_0, e_115_1, e_115_2, e_115_5, e_115_8, e_115_9, e_115_12, e_115_15, e_115_16, e_115_17, e_115_18, e_115_21, e_115_24, e_115_25]
      exact h
set_option maxRecDepth 8000 in
theorem d_pay (hM : RM G m S) (hI : Inv S) {d z : Nat} {t w k : Int32} {Q : Rt} (h : Q (some (.int (opPay S t w k))) G z) : CALL (d + 3) 126 [va_rf (some m), .int t, .int w, .int k] G z Q := by
  have hm := hM.1
  have h10 := hI.2.2.1
  rw [CALL_eq]
  simp only [mxE_126, ent, entL, isL_int, isL_rf, isL_long, locS, List.length_cons, List.length_nil, List.cons_append, List.nil_append, List.replicate_succ, List.replicate_zero, Bool.false_eq_true, if_false, if_true, true_and, and_true, Nat.reduceAdd, Nat.reduceSub, Nat.reduceLeDiff, Nat.zero_le, Nat.le_refl, Nat.zero_add, Nat.add_zero, bI_0, bI_1, bI_n, Nat.reduceEqDiff, false_and, and_false, and_self, e_126_0, e_126_1, e_126_2, e_126_5, e_126_8, e_126_9, e_126_12, e_126_15, e_126_16, e_126_19, e_126_22, e_126_23, e_126_24, e_126_25, e_126_28, e_126_29, e_126_32, e_126_33, e_126_34, e_126_35, e_126_36, e_126_37, e_126_40, e_126_41, e_126_44, e_126_47, e_126_48, r_isTurn hM hI, r_isWeek, hm]
  unfold opPay at h
  cases h1 : ix t (sN S 1) with
  | none => rw [h1] at h; simp only [Option.isSome_none, Bool.false_eq_true, not_false_iff, if_true]; exact h
  | some t' =>
    obtain ⟨ht, rfl⟩ := ix_s (by have := hI.2.1; omega) h1
    cases h2 : ix w 60 with
    | none => rw [h1, h2] at h; simp only [Option.isSome_none, Option.isSome_some, Bool.false_eq_true, not_false_iff, not_true, if_true, if_false]; exact h
    | some w' =>
      obtain ⟨hw, rfl⟩ := ix_s (by decide) h2
      cases h3 : ix k 60 with
      | none => rw [h1, h2, h3] at h; simp only [Option.isSome_none, Option.isSome_some, Bool.false_eq_true, not_false_iff, not_true, if_true, if_false]; exact h
      | some k' =>
        obtain ⟨hk, rfl⟩ := ix_s (by decide) h3
        rw [h1, h2, h3] at h
        dsimp only at h
        simp only [Option.isSome_some, not_true, if_false, r_hallOf hM (show t' < 40 by have := hI.2.1; omega) hw, ent, entL, isL_int, isL_rf, isL_long, locS, List.length_cons, List.length_nil, List.cons_append, List.nil_append, List.replicate_succ, List.replicate_zero, Bool.false_eq_true, if_false, if_true, true_and, and_true, Nat.reduceAdd, Nat.reduceSub, Nat.reduceLeDiff, Nat.zero_le, Nat.le_refl, Nat.zero_add, Nat.add_zero, bI_0, bI_1, bI_n, Nat.reduceEqDiff, false_and, and_false, and_self, e_126_0, e_126_1, e_126_2, e_126_5, e_126_8, e_126_9, e_126_12, e_126_15, e_126_16, e_126_19, e_126_22, e_126_23, e_126_24, e_126_25, e_126_28, e_126_29, e_126_32, e_126_33, e_126_34, e_126_35, e_126_36, e_126_37, e_126_40, e_126_41, e_126_44, e_126_47, e_126_48, hm, pInt_m1 (fun c hc => by have := (hI.2.2.2.2.2.2.1 t' w' c hc).2; omega)]
        cases hp : sP S t' w' with
        | none => simp only [hp, Option.isSome_none, Bool.false_eq_true, if_false] at h; simp only [if_true]; exact h
        | some p =>
          simp only [hp, Option.isSome_some, if_true, pyS] at h
          simp only [reduceCtorEq, if_false]
          refine r_inForce hM hI (by have := hI.2.1; omega) hw hk ?_
          simp only [ent, entL, isL_int, isL_rf, isL_long, locS, List.length_cons, List.length_nil, List.cons_append, List.nil_append, List.replicate_succ, List.replicate_zero, Bool.false_eq_true, if_false, if_true, true_and, and_true, Nat.reduceAdd, Nat.reduceSub, Nat.reduceLeDiff, Nat.zero_le, Nat.le_refl, Nat.zero_add, Nat.add_zero, bI_0, bI_1, bI_n, Nat.reduceEqDiff, false_and, and_false, and_self, e_126_0, e_126_1, e_126_2, e_126_5, e_126_8, e_126_9, e_126_12, e_126_15, e_126_16, e_126_19, e_126_22, e_126_23, e_126_24, e_126_25, e_126_28, e_126_29, e_126_32, e_126_33, e_126_34, e_126_35, e_126_36, e_126_37, e_126_40, e_126_41, e_126_44, e_126_47, e_126_48, hm]
          refine r_lastOf hM hI frc_lt ?_
          simp only [ent, entL, isL_int, isL_rf, isL_long, locS, List.length_cons, List.length_nil, List.cons_append, List.nil_append, List.replicate_succ, List.replicate_zero, Bool.false_eq_true, if_false, if_true, true_and, and_true, Nat.reduceAdd, Nat.reduceSub, Nat.reduceLeDiff, Nat.zero_le, Nat.le_refl, Nat.zero_add, Nat.add_zero, bI_0, bI_1, bI_n, Nat.reduceEqDiff, false_and, and_false, and_self, e_126_0, e_126_1, e_126_2, e_126_5, e_126_8, e_126_9, e_126_12, e_126_15, e_126_16, e_126_19, e_126_22, e_126_23, e_126_24, e_126_25, e_126_28, e_126_29, e_126_32, e_126_33, e_126_34, e_126_35, e_126_36, e_126_37, e_126_40, e_126_41, e_126_44, e_126_47, e_126_48]
          exact h
set_option maxRecDepth 8000 in
theorem d_weeks (hM : RM G m S) (hI : Inv S) {d z : Nat} {n : Int32} {Q : Rt} (h : ∀ G', RM G' m (opWeeks S n).1 → FM m G G' → Q (some (.int (opWeeks S n).2)) G' z) : CALL (d + 2) 91 [va_rf (some m), .int n] G z Q := by
  have hm := hM.1
  have hn := hM.2.1
  have h59 := hI.1
  rw [CALL_eq]
  have e : (59 : Int32) - nI (sN S 0) = nI (60 - sN S 0) - 1 := by rw [show (59 : Int32) = nI 59 from rfl, n_sub (by omega), n_pred (by omega)]; congr 1; omega
  simp only [mxE_91, ent, entL, isL_int, isL_rf, isL_long, locS, List.length_cons, List.length_nil, List.cons_append, List.nil_append, List.replicate_succ, List.replicate_zero, Bool.false_eq_true, if_false, if_true, true_and, and_true, Nat.reduceAdd, Nat.reduceSub, Nat.reduceLeDiff, Nat.zero_le, Nat.le_refl, Nat.zero_add, Nat.add_zero, bI_0, bI_1, bI_n, Nat.reduceEqDiff, false_and, and_false, and_self, e_91_0, e_91_1, e_91_2, e_91_4, e_91_5, e_91_8, e_91_9, e_91_12, e_91_15, e_91_16, e_91_17, e_91_18, e_91_19, e_91_22, e_91_23, e_91_24, e_91_27, e_91_28, e_91_31, hm, hn, e, r_isIn, n_m1' (show 60 - sN S 0 < 2 ^ 31 by omega), memS]
  unfold opWeeks at h
  by_cases q : 1 ≤ n ∧ n < nI (60 - sN S 0)
  · simp only [q, and_self, if_true] at h
    simp only [q, and_self, not_true, if_false]
    obtain ⟨k, hk, rfl⟩ := n_rng' (x := n) (n := 60 - sN S 0) (by omega) (by have := q.1; rw [i_le] at this ⊢; have e3 : (0 : Int32).toInt = 0 := (by decide); have e4 : (1 : Int32).toInt = 1 := (by decide); omega) q.2
    rw [n_cl (by omega)] at h
    simp only [n_add]
    exact h _ hM.now FM.pI
  · simp only [q, if_false] at h
    simp only [q, not_false_iff, if_true]
    exact h G hM FM.rf
end
