/-! the class: its calls (all but turn, hall, feed, sign, order, waits) -/
theorem w_ix (v : Int32) : (0 ≤ v ∧ v < 60) = ((ix v 60).isSome = true) := ix_c (n := 60) (by decide)
theorem o_ix {S : St} (hI : Inv S) (v : Int32) : (nI (sN S 0) ≤ v ∧ v < 60) = ((opO S v).isSome = true) := by
  refine propext ⟨fun h => ?_, fun h => ?_⟩
  · obtain ⟨w, h1, h2, rfl⟩ := open_nat hI h
    simp only [opO, ix_n (n := 60) (by decide) h1, h2, if_true, Option.isSome_some]
  · cases hq : ix v 60 with
    | none => simp [opO, hq] at h
    | some w =>
      obtain ⟨h1, rfl⟩ := ix_s (by decide) hq
      have h2 : sN S 0 ≤ w := by
        by_cases h2 : sN S 0 ≤ w
        · exact h2
        · simp [opO, hq, h2] at h
      rw [open_ok hI h1 h2]; trivial
theorem opO_s {S : St} {v : Int32} {w : Nat} (h : opO S v = some w) : w < 60 ∧ sN S 0 ≤ w ∧ v = nI w := by
  unfold opO at h
  split at h
  · cases h
  · rename_i w' hq
    obtain ⟨h1, rfl⟩ := ix_s (by decide) hq
    split at h
    · cases h; exact ⟨h1, by assumption, rfl⟩
    · cases h
section X
variable {G : Mem} {x : Nat} {ta ha ca : Nat → Nat} {S : St} {l : List Nat}
set_option maxRecDepth 8000 in
theorem c_fault (hX : RX G x ta ha ca S) {d z : Nat} {Q : Rt} (h : Q (some (.int (sF S))) G z) : CALL (d + 1) 54 [va_rf (some x)] G z Q := by
  have hs := hX.1
  have hn := hX.2.1
  rw [CALL_eq]
  simp only [mxE_54, ent, entL, isL_int, isL_rf, isL_long, locS, List.length_cons, List.length_nil, List.cons_append, List.nil_append, List.replicate_succ, List.replicate_zero, Bool.false_eq_true, if_false, if_true, true_and, and_true, Nat.reduceAdd, Nat.reduceSub, Nat.reduceLeDiff, Nat.zero_le, Nat.le_refl, Nat.zero_add, Nat.add_zero, bI_0, bI_1, bI_n, Nat.reduceEqDiff, false_and, and_false, and_self, e_54_0, e_54_1, e_54_4, hs, hn]
  exact h
theorem six {x : Int32} {P : Int32 → Prop} {n : Nat} (hn : n < 2 ^ 31) (h1 : ∀ k, k < n → P (nI k)) (h2 : x.toInt < 0 ∨ (n : Int) ≤ x.toInt → P x) : P x := by
  rcases lit_cases x hn with ⟨k, hk, rfl⟩ | h
  · exact h1 k hk
  · exact h2 h
set_option maxRecDepth 8000 in
theorem c_count (hX : RX G x ta ha ca S) {d z : Nat} {wh : Int32} {Q : Rt} (h : Q (some (.int (opCount S wh))) G z) : CALL (d + 1) 67 [va_rf (some x), .int wh] G z Q := by
  have hs := hX.1
  have hn := hX.2.1
  rw [CALL_eq]
  simp only [mxE_67, ent, entL, isL_int, isL_rf, isL_long, locS, List.length_cons, List.length_nil, List.cons_append, List.nil_append, List.replicate_succ, List.replicate_zero, Bool.false_eq_true, if_false, if_true, true_and, and_true, Nat.reduceAdd, Nat.reduceSub, Nat.reduceLeDiff, Nat.zero_le, Nat.le_refl, Nat.zero_add, Nat.add_zero, bI_0, bI_1, bI_n, Nat.reduceEqDiff, false_and, and_false, and_self, e_67_0, e_67_1, e_67_40, e_67_41, e_67_44, e_67_45, e_67_46, e_67_49, e_67_50, e_67_51, e_67_54, e_67_55, e_67_56, e_67_59, e_67_60, e_67_61, e_67_64, e_67_65, e_67_66, e_67_69, e_67_70, e_67_71]
  rcases lit_cases wh (n := 6) (by decide) with ⟨k, hk, rfl⟩ | hq
  · match k, hk with
    | 0, _ => rw [tsw_go 40 (by decide)]; simp only [ent, entL, isL_int, isL_rf, isL_long, locS, List.length_cons, List.length_nil, List.cons_append, List.nil_append, List.replicate_succ, List.replicate_zero, Bool.false_eq_true, if_false, if_true, true_and, and_true, Nat.reduceAdd, Nat.reduceSub, Nat.reduceLeDiff, Nat.zero_le, Nat.le_refl, Nat.zero_add, Nat.add_zero, bI_0, bI_1, bI_n, Nat.reduceEqDiff, false_and, and_false, and_self, e_67_0, e_67_1, e_67_40, e_67_41, e_67_44, e_67_45, e_67_46, e_67_49, e_67_50, e_67_51, e_67_54, e_67_55, e_67_56, e_67_59, e_67_60, e_67_61, e_67_64, e_67_65, e_67_66, e_67_69, e_67_70, e_67_71, hs, hn]; exact h
    | 1, _ => rw [tsw_go 45 (by decide)]; simp only [ent, entL, isL_int, isL_rf, isL_long, locS, List.length_cons, List.length_nil, List.cons_append, List.nil_append, List.replicate_succ, List.replicate_zero, Bool.false_eq_true, if_false, if_true, true_and, and_true, Nat.reduceAdd, Nat.reduceSub, Nat.reduceLeDiff, Nat.zero_le, Nat.le_refl, Nat.zero_add, Nat.add_zero, bI_0, bI_1, bI_n, Nat.reduceEqDiff, false_and, and_false, and_self, e_67_0, e_67_1, e_67_40, e_67_41, e_67_44, e_67_45, e_67_46, e_67_49, e_67_50, e_67_51, e_67_54, e_67_55, e_67_56, e_67_59, e_67_60, e_67_61, e_67_64, e_67_65, e_67_66, e_67_69, e_67_70, e_67_71, hs, hn]; exact h
    | 2, _ => rw [tsw_go 50 (by decide)]; simp only [ent, entL, isL_int, isL_rf, isL_long, locS, List.length_cons, List.length_nil, List.cons_append, List.nil_append, List.replicate_succ, List.replicate_zero, Bool.false_eq_true, if_false, if_true, true_and, and_true, Nat.reduceAdd, Nat.reduceSub, Nat.reduceLeDiff, Nat.zero_le, Nat.le_refl, Nat.zero_add, Nat.add_zero, bI_0, bI_1, bI_n, Nat.reduceEqDiff, false_and, and_false, and_self, e_67_0, e_67_1, e_67_40, e_67_41, e_67_44, e_67_45, e_67_46, e_67_49, e_67_50, e_67_51, e_67_54, e_67_55, e_67_56, e_67_59, e_67_60, e_67_61, e_67_64, e_67_65, e_67_66, e_67_69, e_67_70, e_67_71, hs, hn]; exact h
    | 3, _ => rw [tsw_go 55 (by decide)]; simp only [ent, entL, isL_int, isL_rf, isL_long, locS, List.length_cons, List.length_nil, List.cons_append, List.nil_append, List.replicate_succ, List.replicate_zero, Bool.false_eq_true, if_false, if_true, true_and, and_true, Nat.reduceAdd, Nat.reduceSub, Nat.reduceLeDiff, Nat.zero_le, Nat.le_refl, Nat.zero_add, Nat.add_zero, bI_0, bI_1, bI_n, Nat.reduceEqDiff, false_and, and_false, and_self, e_67_0, e_67_1, e_67_40, e_67_41, e_67_44, e_67_45, e_67_46, e_67_49, e_67_50, e_67_51, e_67_54, e_67_55, e_67_56, e_67_59, e_67_60, e_67_61, e_67_64, e_67_65, e_67_66, e_67_69, e_67_70, e_67_71, hs, hn]; exact h
    | 4, _ => rw [tsw_go 60 (by decide)]; simp only [ent, entL, isL_int, isL_rf, isL_long, locS, List.length_cons, List.length_nil, List.cons_append, List.nil_append, List.replicate_succ, List.replicate_zero, Bool.false_eq_true, if_false, if_true, true_and, and_true, Nat.reduceAdd, Nat.reduceSub, Nat.reduceLeDiff, Nat.zero_le, Nat.le_refl, Nat.zero_add, Nat.add_zero, bI_0, bI_1, bI_n, Nat.reduceEqDiff, false_and, and_false, and_self, e_67_0, e_67_1, e_67_40, e_67_41, e_67_44, e_67_45, e_67_46, e_67_49, e_67_50, e_67_51, e_67_54, e_67_55, e_67_56, e_67_59, e_67_60, e_67_61, e_67_64, e_67_65, e_67_66, e_67_69, e_67_70, e_67_71, hs, hn]; exact h
    | 5, _ => rw [tsw_go 65 (by decide)]; simp only [ent, entL, isL_int, isL_rf, isL_long, locS, List.length_cons, List.length_nil, List.cons_append, List.nil_append, List.replicate_succ, List.replicate_zero, Bool.false_eq_true, if_false, if_true, true_and, and_true, Nat.reduceAdd, Nat.reduceSub, Nat.reduceLeDiff, Nat.zero_le, Nat.le_refl, Nat.zero_add, Nat.add_zero, bI_0, bI_1, bI_n, Nat.reduceEqDiff, false_and, and_false, and_self, e_67_0, e_67_1, e_67_40, e_67_41, e_67_44, e_67_45, e_67_46, e_67_49, e_67_50, e_67_51, e_67_54, e_67_55, e_67_56, e_67_59, e_67_60, e_67_61, e_67_64, e_67_65, e_67_66, e_67_69, e_67_70, e_67_71, hs, hn]; exact h
    | k + 6, hk => omega
  · rw [tsw_out 70 (by omega) (by decide)]
    have e : ∀ k, k < 6 → ¬ wh = nI k := fun k hk => lit_ne hq hk (by decide)
    have e2 : opCount S wh = -1 := by
      unfold opCount
      simp only [show (0 : Int32) = nI 0 from rfl, show (1 : Int32) = nI 1 from rfl, show (2 : Int32) = nI 2 from rfl, show (3 : Int32) = nI 3 from rfl, show (4 : Int32) = nI 4 from rfl, show (5 : Int32) = nI 5 from rfl, e 0 (by omega), e 1 (by omega), e 2 (by omega), e 3 (by omega), e 4 (by omega), e 5 (by omega), if_false]
    rw [e2] at h
    simp only [ent, entL, isL_int, isL_rf, isL_long, locS, List.length_cons, List.length_nil, List.cons_append, List.nil_append, List.replicate_succ, List.replicate_zero, Bool.false_eq_true, if_false, if_true, true_and, and_true, Nat.reduceAdd, Nat.reduceSub, Nat.reduceLeDiff, Nat.zero_le, Nat.le_refl, Nat.zero_add, Nat.add_zero, bI_0, bI_1, bI_n, Nat.reduceEqDiff, false_and, and_false, and_self, e_67_0, e_67_1, e_67_40, e_67_41, e_67_44, e_67_45, e_67_46, e_67_49, e_67_50, e_67_51, e_67_54, e_67_55, e_67_56, e_67_59, e_67_60, e_67_61, e_67_64, e_67_65, e_67_66, e_67_69, e_67_70, e_67_71]
    exact h
set_option maxRecDepth 8000 in
theorem c_turnOf (hX : RX G x ta ha ca S) (hI : Inv S) {d z : Nat} {t wh : Int32} {Q : Rt} (h : Q (some (.int (opTurnOf S t wh))) G z) : CALL (d + 3) 66 [va_rf (some x), .int t, .int wh] G z Q := by
  have hs := hX.1
  rw [CALL_eq]
  simp only [mxE_66, ent, entL, isL_int, isL_rf, isL_long, locS, List.length_cons, List.length_nil, List.cons_append, List.nil_append, List.replicate_succ, List.replicate_zero, Bool.false_eq_true, if_false, if_true, true_and, and_true, Nat.reduceAdd, Nat.reduceSub, Nat.reduceLeDiff, Nat.zero_le, Nat.le_refl, Nat.zero_add, Nat.add_zero, bI_0, bI_1, bI_n, Nat.reduceEqDiff, false_and, and_false, and_self, e_66_0, e_66_1, e_66_2, e_66_5, e_66_6, e_66_7, e_66_10, e_66_11, e_66_12, e_66_13, e_66_56, e_66_57, e_66_60, e_66_61, e_66_62, e_66_65, e_66_66, e_66_67, e_66_70, e_66_73, e_66_74, e_66_77, e_66_78, e_66_79, e_66_80, e_66_83, e_66_84, e_66_85, e_66_88, e_66_89, e_66_90, e_66_93, e_66_94, e_66_95, e_66_98, e_66_99, e_66_100, s_turnAt hX hI, hs]
  unfold opTurnOf at h
  cases hq : ix t (sN S 1) with
  | none =>
    rw [hq] at h
    simp only [Option.map_none, if_true]
    exact h
  | some i =>
    rw [hq] at h
    obtain ⟨hi, rfl⟩ := ix_s (by have := hI.2.1; omega) hq
    obtain ⟨t1, t2, t3, t4, t5, t6, t7, t8, t9, t10, t11, t12, t13, t14, t15, t16⟩ := hX.2.2.1 i hi
    simp only [Option.map_some, reduceCtorEq, if_false]
    rcases lit_cases wh (n := 7) (by decide) with ⟨k, hk, rfl⟩ | hz
    · match k, hk with
      | 0, _ => rw [tsw_go 56 (by decide)]; simp only [ent, entL, isL_int, isL_rf, isL_long, locS, List.length_cons, List.length_nil, List.cons_append, List.nil_append, List.replicate_succ, List.replicate_zero, Bool.false_eq_true, if_false, if_true, true_and, and_true, Nat.reduceAdd, Nat.reduceSub, Nat.reduceLeDiff, Nat.zero_le, Nat.le_refl, Nat.zero_add, Nat.add_zero, bI_0, bI_1, bI_n, Nat.reduceEqDiff, false_and, and_false, and_self, e_66_0, e_66_1, e_66_2, e_66_5, e_66_6, e_66_7, e_66_10, e_66_11, e_66_12, e_66_13, e_66_56, e_66_57, e_66_60, e_66_61, e_66_62, e_66_65, e_66_66, e_66_67, e_66_70, e_66_73, e_66_74, e_66_77, e_66_78, e_66_79, e_66_80, e_66_83, e_66_84, e_66_85, e_66_88, e_66_89, e_66_90, e_66_93, e_66_94, e_66_95, e_66_98, e_66_99, e_66_100, t3, t5]; exact h
      | 1, _ => rw [tsw_go 61 (by decide)]; simp only [ent, entL, isL_int, isL_rf, isL_long, locS, List.length_cons, List.length_nil, List.cons_append, List.nil_append, List.replicate_succ, List.replicate_zero, Bool.false_eq_true, if_false, if_true, true_and, and_true, Nat.reduceAdd, Nat.reduceSub, Nat.reduceLeDiff, Nat.zero_le, Nat.le_refl, Nat.zero_add, Nat.add_zero, bI_0, bI_1, bI_n, Nat.reduceEqDiff, false_and, and_false, and_self, e_66_0, e_66_1, e_66_2, e_66_5, e_66_6, e_66_7, e_66_10, e_66_11, e_66_12, e_66_13, e_66_56, e_66_57, e_66_60, e_66_61, e_66_62, e_66_65, e_66_66, e_66_67, e_66_70, e_66_73, e_66_74, e_66_77, e_66_78, e_66_79, e_66_80, e_66_83, e_66_84, e_66_85, e_66_88, e_66_89, e_66_90, e_66_93, e_66_94, e_66_95, e_66_98, e_66_99, e_66_100, t3, t6]; exact h
      | 2, _ =>
        rw [tsw_go 66 (by decide)]; simp only [ent, entL, isL_int, isL_rf, isL_long, locS, List.length_cons, List.length_nil, List.cons_append, List.nil_append, List.replicate_succ, List.replicate_zero, Bool.false_eq_true, if_false, if_true, true_and, and_true, Nat.reduceAdd, Nat.reduceSub, Nat.reduceLeDiff, Nat.zero_le, Nat.le_refl, Nat.zero_add, Nat.add_zero, bI_0, bI_1, bI_n, Nat.reduceEqDiff, false_and, and_false, and_self, e_66_0, e_66_1, e_66_2, e_66_5, e_66_6, e_66_7, e_66_10, e_66_11, e_66_12, e_66_13, e_66_56, e_66_57, e_66_60, e_66_61, e_66_62, e_66_65, e_66_66, e_66_67, e_66_70, e_66_73, e_66_74, e_66_77, e_66_78, e_66_79, e_66_80, e_66_83, e_66_84, e_66_85, e_66_88, e_66_89, e_66_90, e_66_93, e_66_94, e_66_95, e_66_98, e_66_99, e_66_100, t3, t7]
        have h : Q (some (.int (sI S 5 i))) G z := h
        rcases hI.2.2.2.2.2.2.2.2.2.2.1 i with q | q
        · rw [q] at h; simp only [q, if_true]; exact h
        · rw [q] at h; simp only [q, show ¬ (1 : Int32) = 0 by decide, if_false]; exact h
      | 3, _ => rw [tsw_go 79 (by decide)]; simp only [ent, entL, isL_int, isL_rf, isL_long, locS, List.length_cons, List.length_nil, List.cons_append, List.nil_append, List.replicate_succ, List.replicate_zero, Bool.false_eq_true, if_false, if_true, true_and, and_true, Nat.reduceAdd, Nat.reduceSub, Nat.reduceLeDiff, Nat.zero_le, Nat.le_refl, Nat.zero_add, Nat.add_zero, bI_0, bI_1, bI_n, Nat.reduceEqDiff, false_and, and_false, and_self, e_66_0, e_66_1, e_66_2, e_66_5, e_66_6, e_66_7, e_66_10, e_66_11, e_66_12, e_66_13, e_66_56, e_66_57, e_66_60, e_66_61, e_66_62, e_66_65, e_66_66, e_66_67, e_66_70, e_66_73, e_66_74, e_66_77, e_66_78, e_66_79, e_66_80, e_66_83, e_66_84, e_66_85, e_66_88, e_66_89, e_66_90, e_66_93, e_66_94, e_66_95, e_66_98, e_66_99, e_66_100, t3, t8]; exact h
      | 4, _ => rw [tsw_go 84 (by decide)]; simp only [ent, entL, isL_int, isL_rf, isL_long, locS, List.length_cons, List.length_nil, List.cons_append, List.nil_append, List.replicate_succ, List.replicate_zero, Bool.false_eq_true, if_false, if_true, true_and, and_true, Nat.reduceAdd, Nat.reduceSub, Nat.reduceLeDiff, Nat.zero_le, Nat.le_refl, Nat.zero_add, Nat.add_zero, bI_0, bI_1, bI_n, Nat.reduceEqDiff, false_and, and_false, and_self, e_66_0, e_66_1, e_66_2, e_66_5, e_66_6, e_66_7, e_66_10, e_66_11, e_66_12, e_66_13, e_66_56, e_66_57, e_66_60, e_66_61, e_66_62, e_66_65, e_66_66, e_66_67, e_66_70, e_66_73, e_66_74, e_66_77, e_66_78, e_66_79, e_66_80, e_66_83, e_66_84, e_66_85, e_66_88, e_66_89, e_66_90, e_66_93, e_66_94, e_66_95, e_66_98, e_66_99, e_66_100, t3, t9]; exact h
      | 5, _ => rw [tsw_go 89 (by decide)]; simp only [ent, entL, isL_int, isL_rf, isL_long, locS, List.length_cons, List.length_nil, List.cons_append, List.nil_append, List.replicate_succ, List.replicate_zero, Bool.false_eq_true, if_false, if_true, true_and, and_true, Nat.reduceAdd, Nat.reduceSub, Nat.reduceLeDiff, Nat.zero_le, Nat.le_refl, Nat.zero_add, Nat.add_zero, bI_0, bI_1, bI_n, Nat.reduceEqDiff, false_and, and_false, and_self, e_66_0, e_66_1, e_66_2, e_66_5, e_66_6, e_66_7, e_66_10, e_66_11, e_66_12, e_66_13, e_66_56, e_66_57, e_66_60, e_66_61, e_66_62, e_66_65, e_66_66, e_66_67, e_66_70, e_66_73, e_66_74, e_66_77, e_66_78, e_66_79, e_66_80, e_66_83, e_66_84, e_66_85, e_66_88, e_66_89, e_66_90, e_66_93, e_66_94, e_66_95, e_66_98, e_66_99, e_66_100, t3, t14]; exact h
      | 6, _ => rw [tsw_go 94 (by decide)]; simp only [ent, entL, isL_int, isL_rf, isL_long, locS, List.length_cons, List.length_nil, List.cons_append, List.nil_append, List.replicate_succ, List.replicate_zero, Bool.false_eq_true, if_false, if_true, true_and, and_true, Nat.reduceAdd, Nat.reduceSub, Nat.reduceLeDiff, Nat.zero_le, Nat.le_refl, Nat.zero_add, Nat.add_zero, bI_0, bI_1, bI_n, Nat.reduceEqDiff, false_and, and_false, and_self, e_66_0, e_66_1, e_66_2, e_66_5, e_66_6, e_66_7, e_66_10, e_66_11, e_66_12, e_66_13, e_66_56, e_66_57, e_66_60, e_66_61, e_66_62, e_66_65, e_66_66, e_66_67, e_66_70, e_66_73, e_66_74, e_66_77, e_66_78, e_66_79, e_66_80, e_66_83, e_66_84, e_66_85, e_66_88, e_66_89, e_66_90, e_66_93, e_66_94, e_66_95, e_66_98, e_66_99, e_66_100, t3, t15]; exact h
      | k + 7, hk => omega
    · rw [tsw_out 99 (by omega) (by decide)]
      have e : ∀ k, k < 7 → ¬ wh = nI k := fun k hk => lit_ne hz hk (by decide)
      simp only [show (0 : Int32) = nI 0 from rfl, show (1 : Int32) = nI 1 from rfl, show (2 : Int32) = nI 2 from rfl, show (3 : Int32) = nI 3 from rfl, show (4 : Int32) = nI 4 from rfl, show (5 : Int32) = nI 5 from rfl, show (6 : Int32) = nI 6 from rfl, e 0 (by omega), e 1 (by omega), e 2 (by omega), e 3 (by omega), e 4 (by omega), e 5 (by omega), e 6 (by omega), if_false] at h
      simp only [ent, entL, isL_int, isL_rf, isL_long, locS, List.length_cons, List.length_nil, List.cons_append, List.nil_append, List.replicate_succ, List.replicate_zero, Bool.false_eq_true, if_false, if_true, true_and, and_true, Nat.reduceAdd, Nat.reduceSub, Nat.reduceLeDiff, Nat.zero_le, Nat.le_refl, Nat.zero_add, Nat.add_zero, bI_0, bI_1, bI_n, Nat.reduceEqDiff, false_and, and_false, and_self, e_66_0, e_66_1, e_66_2, e_66_5, e_66_6, e_66_7, e_66_10, e_66_11, e_66_12, e_66_13, e_66_56, e_66_57, e_66_60, e_66_61, e_66_62, e_66_65, e_66_66, e_66_67, e_66_70, e_66_73, e_66_74, e_66_77, e_66_78, e_66_79, e_66_80, e_66_83, e_66_84, e_66_85, e_66_88, e_66_89, e_66_90, e_66_93, e_66_94, e_66_95, e_66_98, e_66_99, e_66_100]
      exact h
def knC (S : St) (o wo ko : Option Nat) : Option Nat := match o, wo, ko with
  | some t, some w, some k => frc S t w k
  | _, _, _ => none
set_option maxRecDepth 8000 in
theorem s_known (hX : RX G x ta ha ca S) (hI : Inv S) {d z : Nat} {o : Option Nat} {w k : Int32} (ho : ∀ t, o = some t → t < sN S 1) {Q : Rt} (h : Q (some (va_rf ((knC S o (ix w 60) (ix k 60)).map ca))) G z) : CALL (d + 2) 74 [va_rf (o.map ta), .int w, .int k] G z Q := by
  rw [CALL_eq]
  simp only [mxE_74, ent, entL, isL_int, isL_rf, isL_long, locS, List.length_cons, List.length_nil, List.cons_append, List.nil_append, List.replicate_succ, List.replicate_zero, Bool.false_eq_true, if_false, if_true, true_and, and_true, Nat.reduceAdd, Nat.reduceSub, Nat.reduceLeDiff, Nat.zero_le, Nat.le_refl, Nat.zero_add, Nat.add_zero, bI_0, bI_1, bI_n, Nat.reduceEqDiff, false_and, and_false, and_self, e_74_0, e_74_1, e_74_4, e_74_5, e_74_8, e_74_11, e_74_12, e_74_15, e_74_18, e_74_19, e_74_20, e_74_21, e_74_22, e_74_23, e_74_26, s_isWeek, w_ix]
  cases o with
  | none => simp only [Option.map_none, if_true]; exact h
  | some t =>
    simp only [Option.map_some, reduceCtorEq, if_false]
    cases hw : ix w 60 with
    | none => rw [hw] at h; simp only [Option.isSome_none, Bool.false_eq_true, not_false_iff, if_true]; exact h
    | some w' =>
      obtain ⟨hw1, rfl⟩ := ix_s (by decide) hw
      rw [hw] at h
      simp only [Option.isSome_some, not_true, if_false]
      cases hk : ix k 60 with
      | none => rw [hk] at h; simp only [Option.isSome_none, Bool.false_eq_true, not_false_iff, if_true]; exact h
      | some k' =>
        obtain ⟨hk1, rfl⟩ := ix_s (by decide) hk
        rw [hk] at h
        obtain ⟨-, -, t3, -⟩ := hX.2.2.1 t (ho t rfl)
        simp only [Option.isSome_some, not_true, if_false]
        simp only [ent, entL, isL_int, isL_rf, isL_long, locS, List.length_cons, List.length_nil, List.cons_append, List.nil_append, List.replicate_succ, List.replicate_zero, Bool.false_eq_true, if_false, if_true, true_and, and_true, Nat.reduceAdd, Nat.reduceSub, Nat.reduceLeDiff, Nat.zero_le, Nat.le_refl, Nat.zero_add, Nat.add_zero, bI_0, bI_1, bI_n, Nat.reduceEqDiff, false_and, and_false, and_self, e_74_0, e_74_1, e_74_4, e_74_5, e_74_8, e_74_11, e_74_12, e_74_15, e_74_18, e_74_19, e_74_20, e_74_21, e_74_22, e_74_23, e_74_26, t3]
        refine s_contractIn hX hI (ho t rfl) hw1 hk1 ?_
        simp only [ent, entL, isL_int, isL_rf, isL_long, locS, List.length_cons, List.length_nil, List.cons_append, List.nil_append, List.replicate_succ, List.replicate_zero, Bool.false_eq_true, if_false, if_true, true_and, and_true, Nat.reduceAdd, Nat.reduceSub, Nat.reduceLeDiff, Nat.zero_le, Nat.le_refl, Nat.zero_add, Nat.add_zero, bI_0, bI_1, bI_n, Nat.reduceEqDiff, false_and, and_false, and_self, e_74_0, e_74_1, e_74_4, e_74_5, e_74_8, e_74_11, e_74_12, e_74_15, e_74_18, e_74_19, e_74_20, e_74_21, e_74_22, e_74_23, e_74_26]
        exact h
theorem ixt {t : Int32} {n : Nat} (hn : n < 2 ^ 31) : ∀ i, ix t n = some i → i < n := fun i h => (ix_s hn h).1
set_option maxRecDepth 8000 in
theorem c_force (hX : RX G x ta ha ca S) (hI : Inv S) {d z : Nat} {t w k : Int32} {Q : Rt} (h : Q (some (.int (opForce S t w k))) G z) : CALL (d + 3) 55 [va_rf (some x), .int t, .int w, .int k] G z Q := by
  have hs := hX.1
  rw [CALL_eq]
  simp only [mxE_55, ent, entL, isL_int, isL_rf, isL_long, locS, List.length_cons, List.length_nil, List.cons_append, List.nil_append, List.replicate_succ, List.replicate_zero, Bool.false_eq_true, if_false, if_true, true_and, and_true, Nat.reduceAdd, Nat.reduceSub, Nat.reduceLeDiff, Nat.zero_le, Nat.le_refl, Nat.zero_add, Nat.add_zero, bI_0, bI_1, bI_n, Nat.reduceEqDiff, false_and, and_false, and_self, e_55_0, e_55_1, e_55_2, e_55_5, e_55_6, e_55_7, e_55_10, e_55_12, e_55_14, e_55_17, e_55_18, e_55_21, e_55_23, e_55_26, s_turnAt hX hI, hs]
  refine s_known hX hI (ixt (by have := hI.2.1; omega)) ?_
  unfold opForce at h
  have fin : ∀ o : Option Nat, (∀ c, o = some c → c < sN S 3) → Q (some (.int (pInt o))) G z → rtn (d + 2) 55 Q 10 [some (va_rf (some x)), some (.int t), some (.int w), some (.int k), none] [] 0 0 (some (va_rf (o.map ca))) G z := by
    intro o ho h
    cases o with
    | none => simp only [ent, entL, isL_int, isL_rf, isL_long, locS, List.length_cons, List.length_nil, List.cons_append, List.nil_append, List.replicate_succ, List.replicate_zero, Bool.false_eq_true, if_false, if_true, true_and, and_true, Nat.reduceAdd, Nat.reduceSub, Nat.reduceLeDiff, Nat.zero_le, Nat.le_refl, Nat.zero_add, Nat.add_zero, bI_0, bI_1, bI_n, Nat.reduceEqDiff, false_and, and_false, and_self, e_55_0, e_55_1, e_55_2, e_55_5, e_55_6, e_55_7, e_55_10, e_55_12, e_55_14, e_55_17, e_55_18, e_55_21, e_55_23, e_55_26, Option.map_none]; exact h
    | some c =>
      obtain ⟨c1, c2, -⟩ := hX.2.2.2.2.1 c (ho c rfl)
      simp only [ent, entL, isL_int, isL_rf, isL_long, locS, List.length_cons, List.length_nil, List.cons_append, List.nil_append, List.replicate_succ, List.replicate_zero, Bool.false_eq_true, if_false, if_true, true_and, and_true, Nat.reduceAdd, Nat.reduceSub, Nat.reduceLeDiff, Nat.zero_le, Nat.le_refl, Nat.zero_add, Nat.add_zero, bI_0, bI_1, bI_n, Nat.reduceEqDiff, false_and, and_false, and_self, e_55_0, e_55_1, e_55_2, e_55_5, e_55_6, e_55_7, e_55_10, e_55_12, e_55_14, e_55_17, e_55_18, e_55_21, e_55_23, e_55_26, Option.map_some, reduceCtorEq, c1, c2]; exact h
  cases hq : ix t (sN S 1) with
  | none => rw [hq] at h; exact fin none (fun c hc => by cases hc) h
  | some t' =>
    cases hw : ix w 60 with
    | none => rw [hq, hw] at h; exact fin none (fun c hc => by cases hc) h
    | some w' =>
      cases hk : ix k 60 with
      | none => rw [hq, hw, hk] at h; exact fin none (fun c hc => by cases hc) h
      | some k' =>
        rw [hq, hw, hk] at h
        exact fin _ (fun c hc => (inF_lt hc).1) h
set_option maxRecDepth 8000 in
theorem c_where (hX : RX G x ta ha ca S) (hI : Inv S) {d z : Nat} {t w : Int32} {Q : Rt} (h : Q (some (.int (opWhere S t w))) G z) : CALL (d + 3) 59 [va_rf (some x), .int t, .int w] G z Q := by
  have hs := hX.1
  rw [CALL_eq]
  simp only [mxE_59, ent, entL, isL_int, isL_rf, isL_long, locS, List.length_cons, List.length_nil, List.cons_append, List.nil_append, List.replicate_succ, List.replicate_zero, Bool.false_eq_true, if_false, if_true, true_and, and_true, Nat.reduceAdd, Nat.reduceSub, Nat.reduceLeDiff, Nat.zero_le, Nat.le_refl, Nat.zero_add, Nat.add_zero, bI_0, bI_1, bI_n, Nat.reduceEqDiff, false_and, and_false, and_self, e_59_0, e_59_1, e_59_2, e_59_5, e_59_6, e_59_7, e_59_10, e_59_11, e_59_14, e_59_15, e_59_16, e_59_19, e_59_21, e_59_23, e_59_26, e_59_27, e_59_30, e_59_32, e_59_35, s_turnAt hX hI, hs]
  unfold opWhere at h
  cases hq : ix t (sN S 1) with
  | none =>
    rw [hq] at h
    simp only [Option.map_none, if_true]
    exact h
  | some i =>
    rw [hq] at h
    obtain ⟨hi, rfl⟩ := ix_s (by have := hI.2.1; omega) hq
    obtain ⟨t1, t2, t3, t4, t5, t6, t7, t8, t9, t10, t11, t12, t13, t14, t15, t16⟩ := hX.2.2.1 i hi
    simp only [ent, entL, isL_int, isL_rf, isL_long, locS, List.length_cons, List.length_nil, List.cons_append, List.nil_append, List.replicate_succ, List.replicate_zero, Bool.false_eq_true, if_false, if_true, true_and, and_true, Nat.reduceAdd, Nat.reduceSub, Nat.reduceLeDiff, Nat.zero_le, Nat.le_refl, Nat.zero_add, Nat.add_zero, bI_0, bI_1, bI_n, Nat.reduceEqDiff, false_and, and_false, and_self, e_59_0, e_59_1, e_59_2, e_59_5, e_59_6, e_59_7, e_59_10, e_59_11, e_59_14, e_59_15, e_59_16, e_59_19, e_59_21, e_59_23, e_59_26, e_59_27, e_59_30, e_59_32, e_59_35, Option.map_some, reduceCtorEq, t3, s_hallIn0 t3 t10 t11 t12, w_ix]
    cases hw : ix w 60 with
    | none =>
      rw [hw] at h
      simp only [Option.isSome_none, Bool.false_eq_true, if_false, if_true]; exact h
    | some w' =>
      rw [hw] at h
      obtain ⟨hw1, rfl⟩ := ix_s (by decide) hw
      simp only [Option.isSome_some, if_true, n_cl (show w' < 2 ^ 31 by omega), t16 w' hw1]
      dsimp only at h
      cases hp : sP S i w' with
      | none => rw [hp] at h; simp only [Option.map_none, if_true]; exact h
      | some h' =>
        rw [hp] at h
        have h1 := (hI.2.2.2.2.2.2.1 i w' h' hp).2
        obtain ⟨-, g2, g3, -⟩ := hX.2.2.2.1 h' h1
        simp only [ent, entL, isL_int, isL_rf, isL_long, locS, List.length_cons, List.length_nil, List.cons_append, List.nil_append, List.replicate_succ, List.replicate_zero, Bool.false_eq_true, if_false, if_true, true_and, and_true, Nat.reduceAdd, Nat.reduceSub, Nat.reduceLeDiff, Nat.zero_le, Nat.le_refl, Nat.zero_add, Nat.add_zero, bI_0, bI_1, bI_n, Nat.reduceEqDiff, false_and, and_false, and_self, e_59_0, e_59_1, e_59_2, e_59_5, e_59_6, e_59_7, e_59_10, e_59_11, e_59_14, e_59_15, e_59_16, e_59_19, e_59_21, e_59_23, e_59_26, e_59_27, e_59_30, e_59_32, e_59_35, Option.map_some, reduceCtorEq, g2, g3]; exact h
set_option maxRecDepth 8000 in
theorem c_pay (hX : RX G x ta ha ca S) (hI : Inv S) {d z : Nat} {t w k : Int32} {Q : Rt} (h : Q (some (.int (opPay S t w k))) G z) : CALL (d + 3) 65 [va_rf (some x), .int t, .int w, .int k] G z Q := by
  have hs := hX.1
  rw [CALL_eq]
  simp only [mxE_65, ent, entL, isL_int, isL_rf, isL_long, locS, List.length_cons, List.length_nil, List.cons_append, List.nil_append, List.replicate_succ, List.replicate_zero, Bool.false_eq_true, if_false, if_true, true_and, and_true, Nat.reduceAdd, Nat.reduceSub, Nat.reduceLeDiff, Nat.zero_le, Nat.le_refl, Nat.zero_add, Nat.add_zero, bI_0, bI_1, bI_n, Nat.reduceEqDiff, false_and, and_false, and_self, e_65_0, e_65_1, e_65_2, e_65_5, e_65_7, e_65_9, e_65_12, e_65_14, e_65_15, e_65_18, e_65_21, e_65_22, e_65_23, e_65_25, e_65_26, e_65_27, e_65_30, e_65_32, e_65_34, e_65_37, e_65_38, e_65_41, e_65_43, e_65_44, e_65_47, s_turnAt hX hI, hs]
  unfold opPay at h
  cases hq : ix t (sN S 1) with
  | none =>
    rw [hq] at h
    simp only [Option.map_none, if_true]
    exact h
  | some i =>
    rw [hq] at h
    obtain ⟨hi, rfl⟩ := ix_s (by have := hI.2.1; omega) hq
    obtain ⟨t1, t2, t3, t4, t5, t6, t7, t8, t9, t10, t11, t12, t13, t14, t15, t16⟩ := hX.2.2.1 i hi
    simp only [ent, entL, isL_int, isL_rf, isL_long, locS, List.length_cons, List.length_nil, List.cons_append, List.nil_append, List.replicate_succ, List.replicate_zero, Bool.false_eq_true, if_false, if_true, true_and, and_true, Nat.reduceAdd, Nat.reduceSub, Nat.reduceLeDiff, Nat.zero_le, Nat.le_refl, Nat.zero_add, Nat.add_zero, bI_0, bI_1, bI_n, Nat.reduceEqDiff, false_and, and_false, and_self, e_65_0, e_65_1, e_65_2, e_65_5, e_65_7, e_65_9, e_65_12, e_65_14, e_65_15, e_65_18, e_65_21, e_65_22, e_65_23, e_65_25, e_65_26, e_65_27, e_65_30, e_65_32, e_65_34, e_65_37, e_65_38, e_65_41, e_65_43, e_65_44, e_65_47, Option.map_some, reduceCtorEq, t3, s_hallIn0 t3 t10 t11 t12, w_ix]
    cases hw : ix w 60 with
    | none =>
      rw [hw] at h
      simp only [Option.isSome_none, Bool.false_eq_true, if_false, if_true]; exact h
    | some w' =>
      rw [hw] at h
      obtain ⟨hw1, rfl⟩ := ix_s (by decide) hw
      simp only [Option.isSome_some, if_true, n_cl (show w' < 2 ^ 31 by omega), t16 w' hw1]
      cases hp : sP S i w' with
      | none =>
        simp only [Option.map_none, if_true]
        cases hk : ix k 60 <;> rw [hk] at h <;> simp [hp] at h <;> exact h
      | some h' =>
        simp only [Option.map_some, reduceCtorEq, if_false]
        refine s_known hX hI (o := some i) (fun t ht => by cases ht; exact hi) ?_
        rw [ix_n (n := 60) (by decide) hw1]
        cases hk : ix k 60 with
        | none => rw [hk] at h; simp only [ent, entL, isL_int, isL_rf, isL_long, locS, List.length_cons, List.length_nil, List.cons_append, List.nil_append, List.replicate_succ, List.replicate_zero, Bool.false_eq_true, if_false, if_true, true_and, and_true, Nat.reduceAdd, Nat.reduceSub, Nat.reduceLeDiff, Nat.zero_le, Nat.le_refl, Nat.zero_add, Nat.add_zero, bI_0, bI_1, bI_n, Nat.reduceEqDiff, false_and, and_false, and_self, e_65_0, e_65_1, e_65_2, e_65_5, e_65_7, e_65_9, e_65_12, e_65_14, e_65_15, e_65_18, e_65_21, e_65_22, e_65_23, e_65_25, e_65_26, e_65_27, e_65_30, e_65_32, e_65_34, e_65_37, e_65_38, e_65_41, e_65_43, e_65_44, e_65_47]; exact h
        | some k' =>
          rw [hk] at h
          simp only [hp, Option.isSome_some, if_true, pyS] at h
          simp only [knC]
          cases hf : frc S i w' k' with
          | none => rw [hf] at h; simp only [ent, entL, isL_int, isL_rf, isL_long, locS, List.length_cons, List.length_nil, List.cons_append, List.nil_append, List.replicate_succ, List.replicate_zero, Bool.false_eq_true, if_false, if_true, true_and, and_true, Nat.reduceAdd, Nat.reduceSub, Nat.reduceLeDiff, Nat.zero_le, Nat.le_refl, Nat.zero_add, Nat.add_zero, bI_0, bI_1, bI_n, Nat.reduceEqDiff, false_and, and_false, and_self, e_65_0, e_65_1, e_65_2, e_65_5, e_65_7, e_65_9, e_65_12, e_65_14, e_65_15, e_65_18, e_65_21, e_65_22, e_65_23, e_65_25, e_65_26, e_65_27, e_65_30, e_65_32, e_65_34, e_65_37, e_65_38, e_65_41, e_65_43, e_65_44, e_65_47, Option.map_none]; exact h
          | some c =>
            rw [hf] at h
            obtain ⟨-, c2, c3⟩ := stO_ch hX hf
            simp only [ent, entL, isL_int, isL_rf, isL_long, locS, List.length_cons, List.length_nil, List.cons_append, List.nil_append, List.replicate_succ, List.replicate_zero, Bool.false_eq_true, if_false, if_true, true_and, and_true, Nat.reduceAdd, Nat.reduceSub, Nat.reduceLeDiff, Nat.zero_le, Nat.le_refl, Nat.zero_add, Nat.add_zero, bI_0, bI_1, bI_n, Nat.reduceEqDiff, false_and, and_false, and_self, e_65_0, e_65_1, e_65_2, e_65_5, e_65_7, e_65_9, e_65_12, e_65_14, e_65_15, e_65_18, e_65_21, e_65_22, e_65_23, e_65_25, e_65_26, e_65_27, e_65_30, e_65_32, e_65_34, e_65_37, e_65_38, e_65_41, e_65_43, e_65_44, e_65_47, Option.map_some, reduceCtorEq, c2]
            refine s_lastN c2 c3 ?_
            simp only [ent, entL, isL_int, isL_rf, isL_long, locS, List.length_cons, List.length_nil, List.cons_append, List.nil_append, List.replicate_succ, List.replicate_zero, Bool.false_eq_true, if_false, if_true, true_and, and_true, Nat.reduceAdd, Nat.reduceSub, Nat.reduceLeDiff, Nat.zero_le, Nat.le_refl, Nat.zero_add, Nat.add_zero, bI_0, bI_1, bI_n, Nat.reduceEqDiff, false_and, and_false, and_self, e_65_0, e_65_1, e_65_2, e_65_5, e_65_7, e_65_9, e_65_12, e_65_14, e_65_15, e_65_18, e_65_21, e_65_22, e_65_23, e_65_25, e_65_26, e_65_27, e_65_30, e_65_32, e_65_34, e_65_37, e_65_38, e_65_41, e_65_43, e_65_44, e_65_47]
            exact h
set_option maxRecDepth 8000 in
theorem c_weeks (hX : RX G x ta ha ca S) (hI : Inv S) {d z : Nat} {n : Int32} {Q : Rt} (h : ∀ G', RX G' x ta ha ca (opWeeks S n).1 → FX x z G G' → Q (some (.int (opWeeks S n).2)) G' z) : CALL (d + 1) 49 [va_rf (some x), .int n] G z Q := by
  have hs := hX.1
  have hn := hX.2.1
  have h59 := hI.1
  rw [CALL_eq]
  have e : (60 : Int32) - nI (sN S 0) = nI (60 - sN S 0) := by rw [show (60 : Int32) = nI 60 from rfl]; exact n_sub (by omega)
  simp only [mxE_49, ent, entL, isL_int, isL_rf, isL_long, locS, List.length_cons, List.length_nil, List.cons_append, List.nil_append, List.replicate_succ, List.replicate_zero, Bool.false_eq_true, if_false, if_true, true_and, and_true, Nat.reduceAdd, Nat.reduceSub, Nat.reduceLeDiff, Nat.zero_le, Nat.le_refl, Nat.zero_add, Nat.add_zero, bI_0, bI_1, bI_n, Nat.reduceEqDiff, false_and, and_false, and_self, e_49_0, e_49_1, e_49_2, e_49_5, e_49_6, e_49_8, e_49_9, e_49_12, e_49_13, e_49_16, e_49_17, e_49_18, e_49_19, e_49_20, e_49_23, e_49_24, e_49_25, e_49_28, e_49_29, e_49_32, hs, hn, e, memS]
  unfold opWeeks at h
  by_cases h1 : n < 1
  · have q : ¬ (1 ≤ n ∧ n < nI (60 - sN S 0)) := fun z => by have := z.1; rw [← not_lt'] at this; exact this h1
    simp only [q, if_false] at h
    simp only [h1, if_true]
    exact h G hX FX.rf
  · have h1' : 1 ≤ n := by rw [← not_lt']; exact h1
    simp only [h1, if_false]
    by_cases h2 : n < nI (60 - sN S 0)
    · have q : (1 ≤ n ∧ n < nI (60 - sN S 0)) := ⟨h1', h2⟩
      simp only [q, and_self, if_true] at h
      simp only [h2, if_true]
      obtain ⟨k, hk, rfl⟩ := n_rng' (x := n) (n := 60 - sN S 0) (by omega) (by rw [i_le] at h1' ⊢; have e3 : (0 : Int32).toInt = 0 := (by decide); have e4 : (1 : Int32).toInt = 1 := (by decide); omega) h2
      rw [n_cl (by omega)] at h
      rw [n_add]
      refine h _ ?_ ?_
      · obtain ⟨h1, h2, h3, h4, h5, h6, h7⟩ := hX
        have hlc : ∀ t n', lastC (uN S 0 (sN S 0 + k)) t n' = lastC S t n' := fun t n' => lastC_congr n' (fun c _ => rfl)
        refine ⟨?_, ?_, fun j hj => ?_, fun h hh => ?_, fun c hc => ?_, ?_, fun k => ?_⟩
        · simpa [XS, memS] using h1
        · simp only [XN] at h2 ⊢; simp [memS, stS, h2]
        · have := h3 j (by simpa [stS] using hj)
          have hxj : ¬ ta j = x := by have := this.2.1; omega
          simpa [memS, stS, hlc, cntW_uN] using this
        · have := h4 h (by simpa [stS] using hh)
          simpa [memS, stS] using this
        · obtain ⟨g1, g2, g3, g4, g5, g6⟩ := h5 c (by simpa [stS] using hc)
          refine ⟨g1, by simpa [memS, stS] using g2, by simpa [memS, stS] using g3, by simpa [memS, stS] using g4, by simpa [memS, stS, hlc] using g5, ?_⟩
          exact SCh.congr (G := G) _ _ (fun a ha5 => ⟨by simp only [memS]; exact ha5, fun k => by simp [memS], fun k => rfl⟩) g6
        · exact h6
        · simp only [memS, stS]; exact h7 k
      · refine ⟨⟨fun _ _ => ⟨rfl, rfl⟩, fun c k a' _ hc => ⟨?_, rfl⟩, fun _ _ _ _ => rfl⟩, fun q => q⟩
        simp only [memS, show ¬ c = 7 by omega, false_and, if_false]
    · have q : ¬ (1 ≤ n ∧ n < nI (60 - sN S 0)) := fun z => h2 z.2
      simp only [q, if_false] at h
      simp only [h2, if_false]
      exact h G hX FX.rf
end X
