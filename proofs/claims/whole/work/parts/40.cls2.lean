/-! the class's calls: why, book, cancel -/
theorem opO_no {S : St} (hI : Inv S) {v : Int32} (h : opO S v = none) : ¬ (nI (sN S 0) ≤ v ∧ v < 60) := by rw [o_ix hI, h]; simp
section
variable {G : Mem} {x : Nat} {ta ha ca : Nat → Nat} {S : St}
set_option maxRecDepth 8000 in
theorem c_why (hX : RX G x ta ha ca S) (hI : Inv S) {d z : Nat} {t h w : Int32} {Q : Rt} (hq : ∀ G', RX G' x ta ha ca S → FX x z G G' → Q (some (.int (opWhy S t h w))) G' z) : CALL (d + 6) 56 [va_rf (some x), .int t, .int h, .int w] G z Q := by
  have hs := hX.1
  rw [CALL_eq]
  simp only [mxE_56, ent, entL, isL_int, isL_rf, isL_long, locS, List.length_cons, List.length_nil, List.cons_append, List.nil_append, List.replicate_succ, List.replicate_zero, Bool.false_eq_true, if_false, if_true, true_and, and_true, Nat.reduceAdd, Nat.reduceSub, Nat.reduceLeDiff, Nat.zero_le, Nat.le_refl, Nat.zero_add, Nat.add_zero, bI_0, bI_1, bI_n, Nat.reduceEqDiff, false_and, and_false, and_self, e_56_0, e_56_1, e_56_2, e_56_3, e_56_6, e_56_7, e_56_8, e_56_11, e_56_12, e_56_15, s_turnAt hX hI, s_hallAt hX hI, hs]
  unfold opWhy at hq
  have bad : (ix t (sN S 1) = none ∨ ix h (sN S 2) = none ∨ opO S w = none) → CALL (d + 5) 80 [va_rf (some x), va_rf ((ix t (sN S 1)).map ta), va_rf ((ix h (sN S 2)).map ha), .int w] G z (rtn (d + 5) 56 Q 15 [some (va_rf (some x)), some (.int t), some (.int h), some (.int w)] [] 0 0) := by
    intro hb
    have hq1 := hq G hX FX.rf
    refine s_barTo1 hX hI ?_ ?_
    · rcases hb with e | e | e
      · rw [e]; exact Or.inl rfl
      · rw [e]; exact Or.inr (Or.inl rfl)
      · exact Or.inr (Or.inr (opO_no hI e))
    · simp only [ent, entL, isL_int, isL_rf, isL_long, locS, List.length_cons, List.length_nil, List.cons_append, List.nil_append, List.replicate_succ, List.replicate_zero, Bool.false_eq_true, if_false, if_true, true_and, and_true, Nat.reduceAdd, Nat.reduceSub, Nat.reduceLeDiff, Nat.zero_le, Nat.le_refl, Nat.zero_add, Nat.add_zero, bI_0, bI_1, bI_n, Nat.reduceEqDiff, false_and, and_false, and_self, e_56_0, e_56_1, e_56_2, e_56_3, e_56_6, e_56_7, e_56_8, e_56_11, e_56_12, e_56_15]
      rcases hb with e | e | e
      · rw [e] at hq1; exact hq1
      · rw [e] at hq1; cases h1 : ix t (sN S 1) <;> rw [h1] at hq1 <;> exact hq1
      · rw [e] at hq1; cases h1 : ix t (sN S 1) <;> cases h2 : ix h (sN S 2) <;> rw [h1, h2] at hq1 <;> exact hq1
  cases ht : ix t (sN S 1) with
  | none => rw [← ht]; exact bad (Or.inl ht)
  | some i =>
    cases hh : ix h (sN S 2) with
    | none => rw [← ht, ← hh]; exact bad (Or.inr (Or.inl hh))
    | some j =>
      cases hw : opO S w with
      | none => rw [← ht, ← hh]; exact bad (Or.inr (Or.inr hw))
      | some w' =>
        rw [ht, hh, hw] at hq
        obtain ⟨hi, -⟩ := ix_s (by have := hI.2.1; omega) ht
        obtain ⟨hj, -⟩ := ix_s (by have := hI.2.2.1; omega) hh
        obtain ⟨hw1, hw2, rfl⟩ := opO_s hw
        refine s_barTo hX hI hi hj hw1 hw2 ?_
        intro G' hG
        simp only [ent, entL, isL_int, isL_rf, isL_long, locS, List.length_cons, List.length_nil, List.cons_append, List.nil_append, List.replicate_succ, List.replicate_zero, Bool.false_eq_true, if_false, if_true, true_and, and_true, Nat.reduceAdd, Nat.reduceSub, Nat.reduceLeDiff, Nat.zero_le, Nat.le_refl, Nat.zero_add, Nat.add_zero, bI_0, bI_1, bI_n, Nat.reduceEqDiff, false_and, and_false, and_self, e_56_0, e_56_1, e_56_2, e_56_3, e_56_6, e_56_7, e_56_8, e_56_11, e_56_12, e_56_15]
        exact hq G' (hX.sx hG) (hG.fx hs)
set_option maxRecDepth 8000 in
theorem c_book (hX : RX G x ta ha ca S) (hI : Inv S) {d z : Nat} {t h w : Int32} {Q : Rt} (hq : ∀ G', RX G' x ta ha ca (opBook S t h w).1 → FX x z G G' → Q (some (.int (opBook S t h w).2)) G' z) : CALL (d + 6) 57 [va_rf (some x), .int t, .int h, .int w] G z Q := by
  have hs := hX.1
  have hn := hX.2.1
  have e4 : (nI (sN S 4) < 400) = (sN S 4 < 400) := by rw [show (400 : Int32) = nI 400 from rfl]; exact n_lt (by have := hI.2.2.2.2.1; omega) (by decide)
  rw [CALL_eq]
  simp only [mxE_57, ent, entL, isL_int, isL_rf, isL_long, locS, List.length_cons, List.length_nil, List.cons_append, List.nil_append, List.replicate_succ, List.replicate_zero, Bool.false_eq_true, if_false, if_true, true_and, and_true, Nat.reduceAdd, Nat.reduceSub, Nat.reduceLeDiff, Nat.zero_le, Nat.le_refl, Nat.zero_add, Nat.add_zero, bI_0, bI_1, bI_n, Nat.reduceEqDiff, false_and, and_false, and_self, e_57_0, e_57_1, e_57_2, e_57_5, e_57_7, e_57_8, e_57_9, e_57_12, e_57_14, e_57_16, e_57_19, e_57_21, e_57_24, e_57_25, e_57_28, e_57_31, e_57_34, e_57_35, e_57_36, e_57_37, e_57_39, e_57_41, e_57_42, e_57_45, e_57_48, e_57_49, e_57_50, e_57_51, e_57_53, e_57_55, e_57_56, e_57_59, e_57_60, e_57_62, e_57_63, e_57_66, e_57_67, e_57_70, e_57_73, s_turnAt hX hI, s_hallAt hX hI, hs, hn, e4]
  unfold opBook at hq
  cases ht : ix t (sN S 1) with
  | none => rw [ht] at hq; simp only [Option.map_none, if_true]; exact hq G hX FX.rf
  | some i =>
    cases hh : ix h (sN S 2) with
    | none => rw [ht, hh] at hq; simp only [Option.map_some, Option.map_none, reduceCtorEq, if_true, if_false]; exact hq G hX FX.rf
    | some j =>
      obtain ⟨hi, -⟩ := ix_s (by have := hI.2.1; omega) ht
      obtain ⟨hj, -⟩ := ix_s (by have := hI.2.2.1; omega) hh
      rw [ht, hh] at hq
      simp only [Option.map_some, reduceCtorEq, if_false]
      by_cases h4 : sN S 4 < 400
      · simp only [h4, if_true]
        cases hw : opO S w with
        | none =>
          rw [hw] at hq
          refine s_barTo1 hX hI (o := some (ta i)) (p := some (ha j)) (Or.inr (Or.inr (opO_no hI hw))) ?_
          simp only [ent, entL, isL_int, isL_rf, isL_long, locS, List.length_cons, List.length_nil, List.cons_append, List.nil_append, List.replicate_succ, List.replicate_zero, Bool.false_eq_true, if_false, if_true, true_and, and_true, Nat.reduceAdd, Nat.reduceSub, Nat.reduceLeDiff, Nat.zero_le, Nat.le_refl, Nat.zero_add, Nat.add_zero, bI_0, bI_1, bI_n, Nat.reduceEqDiff, false_and, and_false, and_self, e_57_0, e_57_1, e_57_2, e_57_5, e_57_7, e_57_8, e_57_9, e_57_12, e_57_14, e_57_16, e_57_19, e_57_21, e_57_24, e_57_25, e_57_28, e_57_31, e_57_34, e_57_35, e_57_36, e_57_37, e_57_39, e_57_41, e_57_42, e_57_45, e_57_48, e_57_49, e_57_50, e_57_51, e_57_53, e_57_55, e_57_56, e_57_59, e_57_60, e_57_62, e_57_63, e_57_66, e_57_67, e_57_70, e_57_73]
          exact hq G hX FX.rf
        | some w' =>
          rw [hw] at hq
          obtain ⟨hw1, hw2, rfl⟩ := opO_s hw
          refine s_barTo hX hI hi hj hw1 hw2 ?_
          intro G1 hG
          have hX1 := hX.sx hG
          by_cases hy : whyS S i j w' = 0
          · simp only [hy, h4, and_self, if_true] at hq
            have hs1 := hX1.1
            simp only [ent, entL, isL_int, isL_rf, isL_long, locS, List.length_cons, List.length_nil, List.cons_append, List.nil_append, List.replicate_succ, List.replicate_zero, Bool.false_eq_true, if_false, if_true, true_and, and_true, Nat.reduceAdd, Nat.reduceSub, Nat.reduceLeDiff, Nat.zero_le, Nat.le_refl, Nat.zero_add, Nat.add_zero, bI_0, bI_1, bI_n, Nat.reduceEqDiff, false_and, and_false, and_self, e_57_0, e_57_1, e_57_2, e_57_5, e_57_7, e_57_8, e_57_9, e_57_12, e_57_14, e_57_16, e_57_19, e_57_21, e_57_24, e_57_25, e_57_28, e_57_31, e_57_34, e_57_35, e_57_36, e_57_37, e_57_39, e_57_41, e_57_42, e_57_45, e_57_48, e_57_49, e_57_50, e_57_51, e_57_53, e_57_55, e_57_56, e_57_59, e_57_60, e_57_62, e_57_63, e_57_66, e_57_67, e_57_70, e_57_73, hy, hs1]
            refine s_putOn hX1 hI hi hj hw1 (why0 hy).1 ?_
            have hX2 : RX (pbG G1 x (ta i) w' (some (ha j)) (nI (cntW S i 60 + 1)) (nI (sN S 4 + 1))) x ta ha ca (bk S i w' j) := RX.pb hX1 (v := some j) hi hw1 (by rw [cntW_set (why0 hy).1 60 hw1])
            have hF2 : FX x z G (pbG G1 x (ta i) w' (some (ha j)) (nI (cntW S i 60 + 1)) (nI (sN S 4 + 1))) := (hG.fx hs).tr (Nat.le_refl _) pbG_fx
            generalize pbG G1 x (ta i) w' (some (ha j)) (nI (cntW S i 60 + 1)) (nI (sN S 4 + 1)) = G2 at hX2 hF2
            have hs2 := hX2.1
            simp only [ent, entL, isL_int, isL_rf, isL_long, locS, List.length_cons, List.length_nil, List.cons_append, List.nil_append, List.replicate_succ, List.replicate_zero, Bool.false_eq_true, if_false, if_true, true_and, and_true, Nat.reduceAdd, Nat.reduceSub, Nat.reduceLeDiff, Nat.zero_le, Nat.le_refl, Nat.zero_add, Nat.add_zero, bI_0, bI_1, bI_n, Nat.reduceEqDiff, false_and, and_false, and_self, e_57_0, e_57_1, e_57_2, e_57_5, e_57_7, e_57_8, e_57_9, e_57_12, e_57_14, e_57_16, e_57_19, e_57_21, e_57_24, e_57_25, e_57_28, e_57_31, e_57_34, e_57_35, e_57_36, e_57_37, e_57_39, e_57_41, e_57_42, e_57_45, e_57_48, e_57_49, e_57_50, e_57_51, e_57_53, e_57_55, e_57_56, e_57_59, e_57_60, e_57_62, e_57_63, e_57_66, e_57_67, e_57_70, e_57_73, hs2]
            refine s_gather hX2 (inv_bk hI hi hj hw1 hy h4) hw1 hj ?_
            intro G3 hG3 hB
            have hX3 := hX2.sx hG3
            have hs3 := hX3.1
            simp only [ent, entL, isL_int, isL_rf, isL_long, locS, List.length_cons, List.length_nil, List.cons_append, List.nil_append, List.replicate_succ, List.replicate_zero, Bool.false_eq_true, if_false, if_true, true_and, and_true, Nat.reduceAdd, Nat.reduceSub, Nat.reduceLeDiff, Nat.zero_le, Nat.le_refl, Nat.zero_add, Nat.add_zero, bI_0, bI_1, bI_n, Nat.reduceEqDiff, false_and, and_false, and_self, e_57_0, e_57_1, e_57_2, e_57_5, e_57_7, e_57_8, e_57_9, e_57_12, e_57_14, e_57_16, e_57_19, e_57_21, e_57_24, e_57_25, e_57_28, e_57_31, e_57_34, e_57_35, e_57_36, e_57_37, e_57_39, e_57_41, e_57_42, e_57_45, e_57_48, e_57_49, e_57_50, e_57_51, e_57_53, e_57_55, e_57_56, e_57_59, e_57_60, e_57_62, e_57_63, e_57_66, e_57_67, e_57_70, e_57_73, hs3, hB.1]
            exact hq G3 hX3 (hF2.tr (Nat.le_refl _) (hG3.fx hs2))
          · simp only [hy, false_and, if_false] at hq
            simp only [ent, entL, isL_int, isL_rf, isL_long, locS, List.length_cons, List.length_nil, List.cons_append, List.nil_append, List.replicate_succ, List.replicate_zero, Bool.false_eq_true, if_false, if_true, true_and, and_true, Nat.reduceAdd, Nat.reduceSub, Nat.reduceLeDiff, Nat.zero_le, Nat.le_refl, Nat.zero_add, Nat.add_zero, bI_0, bI_1, bI_n, Nat.reduceEqDiff, false_and, and_false, and_self, e_57_0, e_57_1, e_57_2, e_57_5, e_57_7, e_57_8, e_57_9, e_57_12, e_57_14, e_57_16, e_57_19, e_57_21, e_57_24, e_57_25, e_57_28, e_57_31, e_57_34, e_57_35, e_57_36, e_57_37, e_57_39, e_57_41, e_57_42, e_57_45, e_57_48, e_57_49, e_57_50, e_57_51, e_57_53, e_57_55, e_57_56, e_57_59, e_57_60, e_57_62, e_57_63, e_57_66, e_57_67, e_57_70, e_57_73, hy, if_false]
            exact hq G1 hX1 (hG.fx hs)
      · simp only [h4, if_false]
        cases hw : opO S w with
        | none => rw [hw] at hq; exact hq G hX FX.rf
        | some w' => rw [hw] at hq; simp only [h4, and_false, if_false] at hq; exact hq G hX FX.rf
set_option maxRecDepth 8000 in
theorem c_cancel (hX : RX G x ta ha ca S) (hI : Inv S) {d z : Nat} {t w : Int32} {Q : Rt} (hq : ∀ G', RX G' x ta ha ca (opCancel S t w).1 → FX x z G G' → Q (some (.int (opCancel S t w).2)) G' z) : CALL (d + 4) 58 [va_rf (some x), .int t, .int w] G z Q := by
  have hs := hX.1
  rw [CALL_eq]
  simp only [mxE_58, ent, entL, isL_int, isL_rf, isL_long, locS, List.length_cons, List.length_nil, List.cons_append, List.nil_append, List.replicate_succ, List.replicate_zero, Bool.false_eq_true, if_false, if_true, true_and, and_true, Nat.reduceAdd, Nat.reduceSub, Nat.reduceLeDiff, Nat.zero_le, Nat.le_refl, Nat.zero_add, Nat.add_zero, bI_0, bI_1, bI_n, Nat.reduceEqDiff, false_and, and_false, and_self, e_58_0, e_58_1, e_58_2, e_58_5, e_58_6, e_58_7, e_58_10, e_58_11, e_58_12, e_58_15, e_58_18, e_58_19, e_58_20, e_58_23, e_58_26, e_58_27, e_58_28, e_58_29, e_58_30, e_58_31, e_58_34, e_58_35, s_turnAt hX hI, hs, nz_0, nz_1]
  unfold opCancel at hq
  cases ht : ix t (sN S 1) with
  | none => rw [ht] at hq; simp only [Option.map_none, if_true]; exact hq G hX FX.rf
  | some i =>
    obtain ⟨hi, -⟩ := ix_s (by have := hI.2.1; omega) ht
    rw [ht] at hq
    simp only [ent, entL, isL_int, isL_rf, isL_long, locS, List.length_cons, List.length_nil, List.cons_append, List.nil_append, List.replicate_succ, List.replicate_zero, Bool.false_eq_true, if_false, if_true, true_and, and_true, Nat.reduceAdd, Nat.reduceSub, Nat.reduceLeDiff, Nat.zero_le, Nat.le_refl, Nat.zero_add, Nat.add_zero, bI_0, bI_1, bI_n, Nat.reduceEqDiff, false_and, and_false, and_self, e_58_0, e_58_1, e_58_2, e_58_5, e_58_6, e_58_7, e_58_10, e_58_11, e_58_12, e_58_15, e_58_18, e_58_19, e_58_20, e_58_23, e_58_26, e_58_27, e_58_28, e_58_29, e_58_30, e_58_31, e_58_34, e_58_35, Option.map_some, reduceCtorEq, if_false, s_isOpen hX, o_ix hI, hs, nz_0, nz_1]
    cases hw : opO S w with
    | none => rw [hw] at hq; simp only [Option.isSome_none, Bool.false_eq_true, not_false_iff, if_true, if_false]; exact hq G hX FX.rf
    | some w' =>
      rw [hw] at hq
      obtain ⟨hw1, hw2, rfl⟩ := opO_s hw
      obtain ⟨t1, t2, t3, t4, t5, t6, t7, t8, t9, t10, t11, t12, t13, t14, t15, t16⟩ := hX.2.2.1 i hi
      simp only [ent, entL, isL_int, isL_rf, isL_long, locS, List.length_cons, List.length_nil, List.cons_append, List.nil_append, List.replicate_succ, List.replicate_zero, Bool.false_eq_true, if_false, if_true, true_and, and_true, Nat.reduceAdd, Nat.reduceSub, Nat.reduceLeDiff, Nat.zero_le, Nat.le_refl, Nat.zero_add, Nat.add_zero, bI_0, bI_1, bI_n, Nat.reduceEqDiff, false_and, and_false, and_self, e_58_0, e_58_1, e_58_2, e_58_5, e_58_6, e_58_7, e_58_10, e_58_11, e_58_12, e_58_15, e_58_18, e_58_19, e_58_20, e_58_23, e_58_26, e_58_27, e_58_28, e_58_29, e_58_30, e_58_31, e_58_34, e_58_35, Option.isSome_some, not_true, if_false, if_true, t3, s_hallIn hX hi hw1, hs, nz_0, nz_1]
      cases hp : sP S i w' with
      | none => simp only [hp, Option.isSome_none, Bool.false_eq_true, if_false] at hq; simp only [Option.map_none, ne_eq, not_true, if_false, if_true]; exact hq G hX FX.rf
      | some j =>
        simp only [hp, Option.isSome_some, if_true] at hq
        simp only [Option.map_some, reduceCtorEq, ne_eq, not_false_iff, if_true, if_false]
        refine s_takeOff hX hI hi hw1 hp (n4_pos hI hw1 hp) ?_
        simp only [ent, entL, isL_int, isL_rf, isL_long, locS, List.length_cons, List.length_nil, List.cons_append, List.nil_append, List.replicate_succ, List.replicate_zero, Bool.false_eq_true, if_false, if_true, true_and, and_true, Nat.reduceAdd, Nat.reduceSub, Nat.reduceLeDiff, Nat.zero_le, Nat.le_refl, Nat.zero_add, Nat.add_zero, bI_0, bI_1, bI_n, Nat.reduceEqDiff, false_and, and_false, and_self, e_58_0, e_58_1, e_58_2, e_58_5, e_58_6, e_58_7, e_58_10, e_58_11, e_58_12, e_58_15, e_58_18, e_58_19, e_58_20, e_58_23, e_58_26, e_58_27, e_58_28, e_58_29, e_58_30, e_58_31, e_58_34, e_58_35, nz_1]
        exact hq _ (RX.pb hX (v := none) hi hw1 (by have := cntW_clr hp 60 hw1; congr 1; omega)) pbG_fx
end
