/-! THE REFERENCE: turn, hall, feed, turnOf -/
section
variable {G : Mem} {m : Nat} {S : St}
set_option maxRecDepth 8000 in
theorem d_turn (hM : RM G m S) (hI : Inv S) {d z : Nat} {mi ki fu li dr : Int32} (hf : fu = 0 ∨ fu = 1) {Q : Rt} (hq : ∀ G', RM G' m (opTurn S mi ki fu li dr).1 → FM m G G' → Q (some (.int (opTurn S mi ki fu li dr).2)) G' z) : CALL (d + 2) 92 [va_rf (some m), .int mi, .int ki, .int fu, .int li, .int dr] G z Q := by
  have hm := hM.1
  have hn := hM.2.1
  have h40 := hI.2.1
  have e40 : (nI (sN S 1) = 40) = (sN S 1 = 40) := by rw [show (40 : Int32) = nI 40 from rfl]; exact n_eq (by omega) (by decide)
  unfold opTurn at hq
  rw [CALL_eq]
  simp only [mxE_92, ent, entL, isL_int, isL_rf, isL_long, locS, List.length_cons, List.length_nil, List.cons_append, List.nil_append, List.replicate_succ, List.replicate_zero, Bool.false_eq_true, if_false, if_true, true_and, and_true, Nat.reduceAdd, Nat.reduceSub, Nat.reduceLeDiff, Nat.zero_le, Nat.le_refl, Nat.zero_add, Nat.add_zero, bI_0, bI_1, bI_n, Nat.reduceEqDiff, false_and, and_false, and_self, e_92_0, e_92_1, e_92_2, e_92_4, e_92_7, e_92_10, e_92_11, e_92_12, e_92_13, e_92_16, e_92_19, e_92_20, e_92_23, e_92_24, e_92_25, e_92_28, e_92_30, e_92_31, e_92_33, e_92_36, e_92_39, e_92_41, e_92_42, e_92_44, e_92_47, e_92_50, e_92_51, e_92_54, e_92_56, e_92_59, e_92_60, r_isIn, hm, hn, e40]
  by_cases hk : ((3 ≤ mi ∧ mi ≤ 20) ∧ (0 ≤ ki ∧ ki ≤ 3) ∧ ¬ (¬ fu = 0 ∧ ki = 3) ∧ (0 ≤ li ∧ li ≤ 9) ∧ (0 ≤ dr ∧ dr ≤ 99)) ∧ sN S 1 < 40
  · rw [if_pos hk] at hq
    obtain ⟨⟨k1, k2, k3, k4, k5⟩, k6⟩ := hk
    have ef : fu &&& 1 = fu := by rcases hf with rfl | rfl <;> decide
    have fin : WP (d + 1) 92 Q 61 [some (va_rf (some m)), some (.int mi), some (.int ki), some (.int fu), some (.int li), some (.int dr)] [] G z 0 0 := by
      simp only [ent, entL, isL_int, isL_rf, isL_long, locS, List.length_cons, List.length_nil, List.cons_append, List.nil_append, List.replicate_succ, List.replicate_zero, Bool.false_eq_true, if_false, if_true, true_and, and_true, Nat.reduceAdd, Nat.reduceSub, Nat.reduceLeDiff, Nat.zero_le, Nat.le_refl, Nat.zero_add, Nat.add_zero, bI_0, bI_1, bI_n, Nat.reduceEqDiff, false_and, and_false, and_self, e_92_61, e_92_62, e_92_65, e_92_66, e_92_69, e_92_70, e_92_71, e_92_72, e_92_75, e_92_76, e_92_79, e_92_80, e_92_81, e_92_82, e_92_85, e_92_86, e_92_89, e_92_90, e_92_91, e_92_92, e_92_95, e_92_96, e_92_99, e_92_101, e_92_102, e_92_103, e_92_106, e_92_107, e_92_110, e_92_112, e_92_113, e_92_114, e_92_115, e_92_118, e_92_119, e_92_120, e_92_123, e_92_124, e_92_127, e_92_128, e_92_129, hm, hn, memS, n_in k6 (by decide), n_cl (show sN S 1 < 2 ^ 31 by omega), ef, n_1, if_true, true_or, or_true]
      rw [n_pred (by omega)]
      exact hq _ hM.newT (((((FM.pE (by omega)).tr (FM.pE (by omega))).tr (FM.pE (by omega))).tr (FM.pE (by omega))).tr (FM.pE (by omega)) |>.tr FM.pI)
    simp only [k1, k2, k4, k5, show ¬ sN S 1 = 40 by omega, and_self, not_true, if_false, if_true]
    rcases hf with rfl | rfl
    · simp only [if_true]; exact fin
    · have : ¬ ki = 3 := fun q => k3 ⟨by decide, q⟩
      simp only [this, show ¬ (1 : Int32) = 0 by decide, if_false]; exact fin
  · rw [if_neg hk] at hq
    have hq' := hq G hM FM.rf
    dsimp only at hq'
    clear hq hM hm hn hI e40
    by_cases k1 : 3 ≤ mi ∧ mi ≤ 20
    · by_cases k2 : 0 ≤ ki ∧ ki ≤ 3
      · by_cases k4 : 0 ≤ li ∧ li ≤ 9
        · by_cases k5 : 0 ≤ dr ∧ dr ≤ 99
          · by_cases k6 : sN S 1 = 40
            · simp only [k1, k2, k4, k5, k6, if_false, if_true, and_self, not_true, ite_self]; exact hq'
            · have k3 : ¬ fu = 0 ∧ ki = 3 := Classical.byContradiction fun q => hk ⟨⟨k1, k2, q, k4, k5⟩, by omega⟩
              simp only [k1, k2, k3, if_false, if_true, and_self, not_true]; simp only [show ((0 : Int32) ≤ 3 ∧ (3 : Int32) ≤ 3) = True by decide, not_true, if_false, if_true]; exact hq'
          · simp only [k1, k2, k4, k5, if_false, if_true, and_self, not_true, not_false_iff, ite_self]; exact hq'
        · simp only [k1, k2, k4, if_false, if_true, and_self, not_true, not_false_iff, ite_self]; exact hq'
      · simp only [k1, k2, if_false, if_true, and_self, not_true, not_false_iff]; exact hq'
    · simp only [k1, if_true, not_false_iff]; exact hq'
set_option maxRecDepth 8000 in
theorem d_hall (hM : RM G m S) (hI : Inv S) {d z : Nat} {mi se lo : Int32} {Q : Rt} (hq : ∀ G', RM G' m (opHall S mi se lo).1 → FM m G G' → Q (some (.int (opHall S mi se lo).2)) G' z) : CALL (d + 2) 93 [va_rf (some m), .int mi, .int se, .int lo] G z Q := by
  have hm := hM.1
  have hn := hM.2.1
  have h10 := hI.2.2.1
  have e10 : (nI (sN S 2) = 10) = (sN S 2 = 10) := by rw [show (10 : Int32) = nI 10 from rfl]; exact n_eq (by omega) (by decide)
  unfold opHall at hq
  rw [CALL_eq]
  simp only [mxE_93, ent, entL, isL_int, isL_rf, isL_long, locS, List.length_cons, List.length_nil, List.cons_append, List.nil_append, List.replicate_succ, List.replicate_zero, Bool.false_eq_true, if_false, if_true, true_and, and_true, Nat.reduceAdd, Nat.reduceSub, Nat.reduceLeDiff, Nat.zero_le, Nat.le_refl, Nat.zero_add, Nat.add_zero, bI_0, bI_1, bI_n, Nat.reduceEqDiff, false_and, and_false, and_self, e_93_0, e_93_1, e_93_2, e_93_5, e_93_8, e_93_11, e_93_12, e_93_13, e_93_16, e_93_19, e_93_22, e_93_23, e_93_25, e_93_27, e_93_30, e_93_33, e_93_34, e_93_37, e_93_39, e_93_42, e_93_43, r_isIn, hm, hn, e10]
  by_cases hk : ((0 ≤ mi ∧ mi ≤ 300) ∧ (1 ≤ se ∧ se ≤ 1000) ∧ (20 ≤ lo ∧ lo ≤ 120)) ∧ sN S 2 < 10
  · rw [if_pos hk] at hq
    obtain ⟨⟨k1, k2, k3⟩, k6⟩ := hk
    simp only [k1, k2, k3, show ¬ sN S 2 = 10 by omega, and_self, not_true, if_false, if_true]
    simp only [ent, entL, isL_int, isL_rf, isL_long, locS, List.length_cons, List.length_nil, List.cons_append, List.nil_append, List.replicate_succ, List.replicate_zero, Bool.false_eq_true, if_false, if_true, true_and, and_true, Nat.reduceAdd, Nat.reduceSub, Nat.reduceLeDiff, Nat.zero_le, Nat.le_refl, Nat.zero_add, Nat.add_zero, bI_0, bI_1, bI_n, Nat.reduceEqDiff, false_and, and_false, and_self, e_93_44, e_93_45, e_93_48, e_93_49, e_93_52, e_93_53, e_93_54, e_93_55, e_93_58, e_93_59, e_93_62, e_93_63, e_93_64, e_93_65, e_93_68, e_93_69, e_93_72, e_93_73, e_93_74, e_93_75, e_93_76, e_93_79, e_93_80, e_93_81, e_93_84, e_93_85, e_93_88, e_93_89, e_93_90, hm, hn, memS, n_in k6 (by decide), n_cl (show sN S 2 < 2 ^ 31 by omega), n_1, true_or]
    rw [n_pred (by omega)]
    exact hq _ hM.newH ((((FM.pE (by omega)).tr (FM.pE (by omega))).tr (FM.pE (by omega))).tr FM.pI)
  · rw [if_neg hk] at hq
    have hq' := hq G hM FM.rf
    dsimp only at hq'
    clear hq hM hm hn hI e10
    by_cases k1 : 0 ≤ mi ∧ mi ≤ 300
    · by_cases k2 : 1 ≤ se ∧ se ≤ 1000
      · by_cases k4 : 20 ≤ lo ∧ lo ≤ 120
        · have k6 : sN S 2 = 10 := by
            have : ¬ sN S 2 < 10 := fun q => hk ⟨⟨k1, k2, k4⟩, q⟩
            omega
          simp only [k1, k2, k4, k6, if_false, if_true, and_self, not_true, ite_self]; exact hq'
        · simp only [k1, k2, k4, if_false, if_true, and_self, not_true, not_false_iff, ite_self]; exact hq'
      · simp only [k1, k2, if_false, if_true, and_self, not_true, not_false_iff]; exact hq'
    · simp only [k1, if_true, not_false_iff]; exact hq'
set_option maxRecDepth 8000 in
theorem l_four1 {d z k : Nat} {v : Int32} {Q : Rt} (hk : k = 0 ∨ k = 8 ∨ k = 16 ∨ k = 24) (hM : RM G m S) (hl : sN S 5 < 600) (h : ∀ G', RM G' m (uN (uT S (sN S 5) (byt v k)) 5 (sN S 5 + 1)) → FM m G G' → WP d 95 Q 3 [some (va_rf (some m)), some (.int v), some (.int (nI k + -8))] [] G' z 0 0) :
    WP d 95 Q 3 [some (va_rf (some m)), some (.int v), some (.int (nI k))] [] G z 0 0 := by
  have hm := hM.1
  have hn := hM.2.1
  rw [e_95_3]
  simp only [ent, entL, isL_int, isL_rf, isL_long, locS, List.length_cons, List.length_nil, List.cons_append, List.nil_append, List.replicate_succ, List.replicate_zero, Bool.false_eq_true, if_false, if_true, true_and, and_true, Nat.reduceAdd, Nat.reduceSub, Nat.reduceLeDiff, Nat.zero_le, Nat.le_refl, Nat.zero_add, Nat.add_zero, bI_0, bI_1, bI_n, Nat.reduceEqDiff, false_and, and_false, and_self, e_95_0, e_95_2, e_95_4, e_95_7, e_95_8, e_95_11, e_95_12, e_95_15, e_95_16, e_95_17, e_95_18, e_95_19, e_95_20, e_95_21, e_95_22, e_95_25, e_95_26, e_95_27, e_95_30, e_95_33, e_95_36, hm, hn, n_8 hk, memS, byt_s, n_cl (show sN S 5 < 2 ^ 31 by omega), n_in hl (by decide), n_1, if_false, true_or, true_and]
  exact h _ hM.put1 ((FM.pE (by omega)).tr FM.pI)
set_option maxRecDepth 8000 in
theorem r_four {d z : Nat} {v : Int32} {Q : Rt} (hM : RM G m S) (hl : sN S 5 + 4 ≤ 600) (h : ∀ G', RM G' m (put4 S v) → FM m G G' → Q none G' z) : CALL (d + 1) 95 [va_rf (some m), .int v] G z Q := by
  rw [CALL_eq]
  simp only [mxE_95, ent, entL, isL_int, isL_rf, isL_long, locS, List.length_cons, List.length_nil, List.cons_append, List.nil_append, List.replicate_succ, List.replicate_zero, Bool.false_eq_true, if_false, if_true, true_and, and_true, Nat.reduceAdd, Nat.reduceSub, Nat.reduceLeDiff, Nat.zero_le, Nat.le_refl, Nat.zero_add, Nat.add_zero, bI_0, bI_1, bI_n, Nat.reduceEqDiff, false_and, and_false, and_self, e_95_0, e_95_2, e_95_4, e_95_7, e_95_8, e_95_11, e_95_12, e_95_15, e_95_16, e_95_17, e_95_18, e_95_19, e_95_20, e_95_21, e_95_22, e_95_25, e_95_26, e_95_27, e_95_30, e_95_33, e_95_36]
  refine l_four1 (k := 24) (by omega) hM (by omega) fun G1 hX1 hF1 => ?_
  refine l_four1 (k := 16) (by omega) hX1 (show sN S 5 + 1 < 600 by omega) fun G2 hX2 hF2 => ?_
  refine l_four1 (k := 8) (by omega) hX2 (show sN S 5 + 1 + 1 < 600 by omega) fun G3 hX3 hF3 => ?_
  refine l_four1 (k := 0) (by omega) hX3 (show sN S 5 + 1 + 1 + 1 < 600 by omega) fun G4 hX4 hF4 => ?_
  rw [e_95_3]
  simp only [ent, entL, isL_int, isL_rf, isL_long, locS, List.length_cons, List.length_nil, List.cons_append, List.nil_append, List.replicate_succ, List.replicate_zero, Bool.false_eq_true, if_false, if_true, true_and, and_true, Nat.reduceAdd, Nat.reduceSub, Nat.reduceLeDiff, Nat.zero_le, Nat.le_refl, Nat.zero_add, Nat.add_zero, bI_0, bI_1, bI_n, Nat.reduceEqDiff, false_and, and_false, and_self, e_95_0, e_95_2, e_95_4, e_95_7, e_95_8, e_95_11, e_95_12, e_95_15, e_95_16, e_95_17, e_95_18, e_95_19, e_95_20, e_95_21, e_95_22, e_95_25, e_95_26, e_95_27, e_95_30, e_95_33, e_95_36, show (nI 0 + -8 < 0) = True from eq_true (by decide), if_true]
  refine h G4 ?_ (hF1.tr (hF2.tr (hF3.tr hF4)))
  have c1 : ∀ (S : St) (a i : Nat) (v : Int32), uT (uN S 5 a) i v = uN (uT S i v) 5 a := fun _ _ _ _ => rfl
  simp only [stS, if_true, c1, uN_uN, Nat.add_assoc, Nat.reduceAdd] at hX4
  exact hX4
set_option maxRecDepth 8000 in
theorem d_feed (hM : RM G m S) (hI : Inv S) {d z : Nat} {a b c e f : Int32} {Q : Rt} (hq : ∀ G', RM G' m (opFeed S a b c e f).1 → FM m G G' → Q (some (.int (opFeed S a b c e f).2)) G' z) : CALL (d + 2) 94 [va_rf (some m), .int a, .int b, .int c, .int e, .int f] G z Q := by
  have hm := hM.1
  have hn := hM.2.1
  have h600 := hI.2.2.2.2.2.1
  rw [CALL_eq]
  have e6 : (nI (sN S 5 + 20) ≤ 600) = (sN S 5 ≤ 580) := by rw [show (600 : Int32) = nI 600 from rfl, n_le (by omega) (by decide)]; exact propext ⟨fun h => by omega, fun h => by omega⟩
  simp only [mxE_94, ent, entL, isL_int, isL_rf, isL_long, locS, List.length_cons, List.length_nil, List.cons_append, List.nil_append, List.replicate_succ, List.replicate_zero, Bool.false_eq_true, if_false, if_true, true_and, and_true, Nat.reduceAdd, Nat.reduceSub, Nat.reduceLeDiff, Nat.zero_le, Nat.le_refl, Nat.zero_add, Nat.add_zero, bI_0, bI_1, bI_n, Nat.reduceEqDiff, false_and, and_false, and_self, e_94_0, e_94_1, e_94_4, e_94_6, e_94_7, e_94_10, e_94_13, e_94_14, e_94_15, e_94_16, e_94_17, e_94_20, e_94_21, e_94_22, e_94_25, e_94_26, e_94_27, e_94_30, e_94_31, e_94_33, e_94_36, e_94_37, e_94_39, e_94_42, e_94_43, e_94_46, hm, hn, show (20 : Int32) = nI 20 from rfl, n_add, e6]
  unfold opFeed at hq
  by_cases h5 : sN S 5 ≤ 580
  · simp only [h5, if_true] at hq ⊢
    refine r_four hM (by omega) fun G1 hX1 hF1 => ?_
    have q1 := hX1.1
    simp only [ent, entL, isL_int, isL_rf, isL_long, locS, List.length_cons, List.length_nil, List.cons_append, List.nil_append, List.replicate_succ, List.replicate_zero, Bool.false_eq_true, if_false, if_true, true_and, and_true, Nat.reduceAdd, Nat.reduceSub, Nat.reduceLeDiff, Nat.zero_le, Nat.le_refl, Nat.zero_add, Nat.add_zero, bI_0, bI_1, bI_n, Nat.reduceEqDiff, false_and, and_false, and_self, e_94_0, e_94_1, e_94_4, e_94_6, e_94_7, e_94_10, e_94_13, e_94_14, e_94_15, e_94_16, e_94_17, e_94_20, e_94_21, e_94_22, e_94_25, e_94_26, e_94_27, e_94_30, e_94_31, e_94_33, e_94_36, e_94_37, e_94_39, e_94_42, e_94_43, e_94_46, q1]
    refine r_four hX1 (show sN S 5 + 4 + 4 ≤ 600 by omega) fun G2 hX2 hF2 => ?_
    have q2 := hX2.1
    simp only [ent, entL, isL_int, isL_rf, isL_long, locS, List.length_cons, List.length_nil, List.cons_append, List.nil_append, List.replicate_succ, List.replicate_zero, Bool.false_eq_true, if_false, if_true, true_and, and_true, Nat.reduceAdd, Nat.reduceSub, Nat.reduceLeDiff, Nat.zero_le, Nat.le_refl, Nat.zero_add, Nat.add_zero, bI_0, bI_1, bI_n, Nat.reduceEqDiff, false_and, and_false, and_self, e_94_0, e_94_1, e_94_4, e_94_6, e_94_7, e_94_10, e_94_13, e_94_14, e_94_15, e_94_16, e_94_17, e_94_20, e_94_21, e_94_22, e_94_25, e_94_26, e_94_27, e_94_30, e_94_31, e_94_33, e_94_36, e_94_37, e_94_39, e_94_42, e_94_43, e_94_46, q2]
    refine r_four hX2 (show sN S 5 + 4 + 4 + 4 ≤ 600 by omega) fun G3 hX3 hF3 => ?_
    have q3 := hX3.1
    simp only [ent, entL, isL_int, isL_rf, isL_long, locS, List.length_cons, List.length_nil, List.cons_append, List.nil_append, List.replicate_succ, List.replicate_zero, Bool.false_eq_true, if_false, if_true, true_and, and_true, Nat.reduceAdd, Nat.reduceSub, Nat.reduceLeDiff, Nat.zero_le, Nat.le_refl, Nat.zero_add, Nat.add_zero, bI_0, bI_1, bI_n, Nat.reduceEqDiff, false_and, and_false, and_self, e_94_0, e_94_1, e_94_4, e_94_6, e_94_7, e_94_10, e_94_13, e_94_14, e_94_15, e_94_16, e_94_17, e_94_20, e_94_21, e_94_22, e_94_25, e_94_26, e_94_27, e_94_30, e_94_31, e_94_33, e_94_36, e_94_37, e_94_39, e_94_42, e_94_43, e_94_46, q3]
    refine r_four hX3 (show sN S 5 + 4 + 4 + 4 + 4 ≤ 600 by omega) fun G4 hX4 hF4 => ?_
    have q4 := hX4.1
    simp only [ent, entL, isL_int, isL_rf, isL_long, locS, List.length_cons, List.length_nil, List.cons_append, List.nil_append, List.replicate_succ, List.replicate_zero, Bool.false_eq_true, if_false, if_true, true_and, and_true, Nat.reduceAdd, Nat.reduceSub, Nat.reduceLeDiff, Nat.zero_le, Nat.le_refl, Nat.zero_add, Nat.add_zero, bI_0, bI_1, bI_n, Nat.reduceEqDiff, false_and, and_false, and_self, e_94_0, e_94_1, e_94_4, e_94_6, e_94_7, e_94_10, e_94_13, e_94_14, e_94_15, e_94_16, e_94_17, e_94_20, e_94_21, e_94_22, e_94_25, e_94_26, e_94_27, e_94_30, e_94_31, e_94_33, e_94_36, e_94_37, e_94_39, e_94_42, e_94_43, e_94_46, q4]
    refine r_four hX4 (show sN S 5 + 4 + 4 + 4 + 4 + 4 ≤ 600 by omega) fun G5 hX5 hF5 => ?_
    have q5 := hX5.1
    have n5 := hX5.2.1.2.2.2.2.1
    simp only [ent, entL, isL_int, isL_rf, isL_long, locS, List.length_cons, List.length_nil, List.cons_append, List.nil_append, List.replicate_succ, List.replicate_zero, Bool.false_eq_true, if_false, if_true, true_and, and_true, Nat.reduceAdd, Nat.reduceSub, Nat.reduceLeDiff, Nat.zero_le, Nat.le_refl, Nat.zero_add, Nat.add_zero, bI_0, bI_1, bI_n, Nat.reduceEqDiff, false_and, and_false, and_self, e_94_0, e_94_1, e_94_4, e_94_6, e_94_7, e_94_10, e_94_13, e_94_14, e_94_15, e_94_16, e_94_17, e_94_20, e_94_21, e_94_22, e_94_25, e_94_26, e_94_27, e_94_30, e_94_31, e_94_33, e_94_36, e_94_37, e_94_39, e_94_42, e_94_43, e_94_46, q5, n5]
    exact hq G5 hX5 (hF1.tr (hF2.tr (hF3.tr (hF4.tr hF5))))
  · simp only [h5, if_false] at hq ⊢
    exact hq G hM FM.rf
set_option maxRecDepth 8000 in
theorem l_turnOf8 (hM : RM G m S) (hI : Inv S) {d z t : Nat} {v2 : Int32} {R : Rt} (ht : t < sN S 1) (hR : R (some (.int (nI (cntW S t 60)))) G z) : ∀ (n k : Nat), k + n = 60 →
    WP (d + 1) 127 R 95 [some (va_rf (some m)), some (.int (nI t)), some (.int v2), some (.int (nI (cntW S t k))), some (.int (nI k))] [] G z 0 0 := by
  have hm := hM.1
  have h40 := hI.2.1
  have h10 := hI.2.2.1
  intro n
  induction n with
  | zero =>
    intro k hk
    have hk : k = 60 := by omega
    subst hk
    rw [e_127_95]
    simp only [ent, entL, isL_int, isL_rf, isL_long, locS, List.length_cons, List.length_nil, List.cons_append, List.nil_append, List.replicate_succ, List.replicate_zero, Bool.false_eq_true, if_false, if_true, true_and, and_true, Nat.reduceAdd, Nat.reduceSub, Nat.reduceLeDiff, Nat.zero_le, Nat.le_refl, Nat.zero_add, Nat.add_zero, bI_0, bI_1, bI_n, Nat.reduceEqDiff, false_and, and_false, and_self, e_127_0, e_127_1, e_127_2, e_127_5, e_127_8, e_127_9, e_127_10, e_127_11, e_127_52, e_127_53, e_127_56, e_127_57, e_127_58, e_127_59, e_127_60, e_127_63, e_127_64, e_127_65, e_127_66, e_127_67, e_127_70, e_127_71, e_127_72, e_127_75, e_127_76, e_127_77, e_127_80, e_127_81, e_127_82, e_127_83, e_127_84, e_127_87, e_127_88, e_127_89, e_127_90, e_127_91, e_127_92, e_127_93, e_127_97, e_127_99, e_127_102, e_127_103, e_127_104, e_127_105, e_127_107, e_127_110, e_127_111, e_127_114, e_127_115, e_127_118, e_127_119, e_127_122, e_127_123, e_127_124, e_127_127, e_127_130, e_127_131, e_127_132, e_127_133, e_127_136, e_127_137, e_127_138, e_127_139, e_127_140, w60 (Nat.le_refl _), Nat.le_refl, if_true]
    exact hR
  | succ n ih =>
    intro k hk
    have nx := ih (k + 1) (by omega)
    rw [e_127_95]
    simp only [ent, entL, isL_int, isL_rf, isL_long, locS, List.length_cons, List.length_nil, List.cons_append, List.nil_append, List.replicate_succ, List.replicate_zero, Bool.false_eq_true, if_false, if_true, true_and, and_true, Nat.reduceAdd, Nat.reduceSub, Nat.reduceLeDiff, Nat.zero_le, Nat.le_refl, Nat.zero_add, Nat.add_zero, bI_0, bI_1, bI_n, Nat.reduceEqDiff, false_and, and_false, and_self, e_127_0, e_127_1, e_127_2, e_127_5, e_127_8, e_127_9, e_127_10, e_127_11, e_127_52, e_127_53, e_127_56, e_127_57, e_127_58, e_127_59, e_127_60, e_127_63, e_127_64, e_127_65, e_127_66, e_127_67, e_127_70, e_127_71, e_127_72, e_127_75, e_127_76, e_127_77, e_127_80, e_127_81, e_127_82, e_127_83, e_127_84, e_127_87, e_127_88, e_127_89, e_127_90, e_127_91, e_127_92, e_127_93, e_127_97, e_127_99, e_127_102, e_127_103, e_127_104, e_127_105, e_127_107, e_127_110, e_127_111, e_127_114, e_127_115, e_127_118, e_127_119, e_127_122, e_127_123, e_127_124, e_127_127, e_127_130, e_127_131, e_127_132, e_127_133, e_127_136, e_127_137, e_127_138, e_127_139, e_127_140, hm, w60 (show k ≤ 60 by omega), show ¬ 60 ≤ k by omega, if_false, r_hallOf hM (show t < 40 by omega) (show k < 60 by omega), pInt_m1 (o := sP S t k) (fun c hc => by have := (hI.2.2.2.2.2.2.1 t k c hc).2; omega), r_one1, r_one0, n_1]
    rw [cntW] at nx
    cases hp : sP S t k with
    | none =>
      simp only [hp, Option.isSome_none, Bool.false_eq_true, if_false, Nat.add_zero] at nx
      simp only [if_true]
      rw [show nI (cntW S t k) + 0 = nI (cntW S t k) by simp]
      exact nx
    | some p =>
      simp only [hp, Option.isSome_some, if_true] at nx
      simp only [reduceCtorEq, if_false]
      exact nx
set_option maxRecDepth 8000 in
theorem d_turnOf (hM : RM G m S) (hI : Inv S) {d z : Nat} {t wh : Int32} {Q : Rt} (h : Q (some (.int (opTurnOf S t wh))) G z) : CALL (d + 3) 127 [va_rf (some m), .int t, .int wh] G z Q := by
  have hm := hM.1
  have h40 := hI.2.1
  obtain ⟨a0, a1, a2, a3, a4, a5, -⟩ := hM.2.2.1
  rw [CALL_eq]
  simp only [mxE_127, ent, entL, isL_int, isL_rf, isL_long, locS, List.length_cons, List.length_nil, List.cons_append, List.nil_append, List.replicate_succ, List.replicate_zero, Bool.false_eq_true, if_false, if_true, true_and, and_true, Nat.reduceAdd, Nat.reduceSub, Nat.reduceLeDiff, Nat.zero_le, Nat.le_refl, Nat.zero_add, Nat.add_zero, bI_0, bI_1, bI_n, Nat.reduceEqDiff, false_and, and_false, and_self, e_127_0, e_127_1, e_127_2, e_127_5, e_127_8, e_127_9, e_127_10, e_127_11, e_127_52, e_127_53, e_127_56, e_127_57, e_127_58, e_127_59, e_127_60, e_127_63, e_127_64, e_127_65, e_127_66, e_127_67, e_127_70, e_127_71, e_127_72, e_127_75, e_127_76, e_127_77, e_127_80, e_127_81, e_127_82, e_127_83, e_127_84, e_127_87, e_127_88, e_127_89, e_127_90, e_127_91, e_127_92, e_127_93, e_127_97, e_127_99, e_127_102, e_127_103, e_127_104, e_127_105, e_127_107, e_127_110, e_127_111, e_127_114, e_127_115, e_127_118, e_127_119, e_127_122, e_127_123, e_127_124, e_127_127, e_127_130, e_127_131, e_127_132, e_127_133, e_127_136, e_127_137, e_127_138, e_127_139, e_127_140, r_isTurn hM hI, hm]
  unfold opTurnOf at h
  cases hq : ix t (sN S 1) with
  | none => rw [hq] at h; simp only [Option.isSome_none, Bool.false_eq_true, not_false_iff, if_true]; exact h
  | some i =>
    rw [hq] at h
    obtain ⟨hi, rfl⟩ := ix_s (by omega) hq
    simp only [Option.isSome_some, not_true, if_false]
    have q1 := n_in (show i < 40 by omega) (show 40 < 2 ^ 31 by decide)
    have q2 := n_cl (show i < 2 ^ 31 by omega)
    rcases lit_cases wh (n := 7) (by decide) with ⟨k, hk, rfl⟩ | hz
    · match k, hk with
      | 0, _ => rw [tsw_go 52 (by decide)]; simp only [ent, entL, isL_int, isL_rf, isL_long, locS, List.length_cons, List.length_nil, List.cons_append, List.nil_append, List.replicate_succ, List.replicate_zero, Bool.false_eq_true, if_false, if_true, true_and, and_true, Nat.reduceAdd, Nat.reduceSub, Nat.reduceLeDiff, Nat.zero_le, Nat.le_refl, Nat.zero_add, Nat.add_zero, bI_0, bI_1, bI_n, Nat.reduceEqDiff, false_and, and_false, and_self, e_127_0, e_127_1, e_127_2, e_127_5, e_127_8, e_127_9, e_127_10, e_127_11, e_127_52, e_127_53, e_127_56, e_127_57, e_127_58, e_127_59, e_127_60, e_127_63, e_127_64, e_127_65, e_127_66, e_127_67, e_127_70, e_127_71, e_127_72, e_127_75, e_127_76, e_127_77, e_127_80, e_127_81, e_127_82, e_127_83, e_127_84, e_127_87, e_127_88, e_127_89, e_127_90, e_127_91, e_127_92, e_127_93, e_127_97, e_127_99, e_127_102, e_127_103, e_127_104, e_127_105, e_127_107, e_127_110, e_127_111, e_127_114, e_127_115, e_127_118, e_127_119, e_127_122, e_127_123, e_127_124, e_127_127, e_127_130, e_127_131, e_127_132, e_127_133, e_127_136, e_127_137, e_127_138, e_127_139, e_127_140, hm, q1, q2, a0, true_or]; exact h
      | 1, _ => rw [tsw_go 59 (by decide)]; simp only [ent, entL, isL_int, isL_rf, isL_long, locS, List.length_cons, List.length_nil, List.cons_append, List.nil_append, List.replicate_succ, List.replicate_zero, Bool.false_eq_true, if_false, if_true, true_and, and_true, Nat.reduceAdd, Nat.reduceSub, Nat.reduceLeDiff, Nat.zero_le, Nat.le_refl, Nat.zero_add, Nat.add_zero, bI_0, bI_1, bI_n, Nat.reduceEqDiff, false_and, and_false, and_self, e_127_0, e_127_1, e_127_2, e_127_5, e_127_8, e_127_9, e_127_10, e_127_11, e_127_52, e_127_53, e_127_56, e_127_57, e_127_58, e_127_59, e_127_60, e_127_63, e_127_64, e_127_65, e_127_66, e_127_67, e_127_70, e_127_71, e_127_72, e_127_75, e_127_76, e_127_77, e_127_80, e_127_81, e_127_82, e_127_83, e_127_84, e_127_87, e_127_88, e_127_89, e_127_90, e_127_91, e_127_92, e_127_93, e_127_97, e_127_99, e_127_102, e_127_103, e_127_104, e_127_105, e_127_107, e_127_110, e_127_111, e_127_114, e_127_115, e_127_118, e_127_119, e_127_122, e_127_123, e_127_124, e_127_127, e_127_130, e_127_131, e_127_132, e_127_133, e_127_136, e_127_137, e_127_138, e_127_139, e_127_140, hm, q1, q2, a1, true_or]; exact h
      | 2, _ =>
        rw [tsw_go 66 (by decide)]; simp only [ent, entL, isL_int, isL_rf, isL_long, locS, List.length_cons, List.length_nil, List.cons_append, List.nil_append, List.replicate_succ, List.replicate_zero, Bool.false_eq_true, if_false, if_true, true_and, and_true, Nat.reduceAdd, Nat.reduceSub, Nat.reduceLeDiff, Nat.zero_le, Nat.le_refl, Nat.zero_add, Nat.add_zero, bI_0, bI_1, bI_n, Nat.reduceEqDiff, false_and, and_false, and_self, e_127_0, e_127_1, e_127_2, e_127_5, e_127_8, e_127_9, e_127_10, e_127_11, e_127_52, e_127_53, e_127_56, e_127_57, e_127_58, e_127_59, e_127_60, e_127_63, e_127_64, e_127_65, e_127_66, e_127_67, e_127_70, e_127_71, e_127_72, e_127_75, e_127_76, e_127_77, e_127_80, e_127_81, e_127_82, e_127_83, e_127_84, e_127_87, e_127_88, e_127_89, e_127_90, e_127_91, e_127_92, e_127_93, e_127_97, e_127_99, e_127_102, e_127_103, e_127_104, e_127_105, e_127_107, e_127_110, e_127_111, e_127_114, e_127_115, e_127_118, e_127_119, e_127_122, e_127_123, e_127_124, e_127_127, e_127_130, e_127_131, e_127_132, e_127_133, e_127_136, e_127_137, e_127_138, e_127_139, e_127_140, hm, q1, q2, a5, true_or, or_true]
        have h : Q (some (.int (sI S 5 i))) G z := h
        rcases hI.2.2.2.2.2.2.2.2.2.2.1 i with q | q
        · rw [q] at h; simp only [q, r_one0, ent, entL, isL_int, isL_rf, isL_long, locS, List.length_cons, List.length_nil, List.cons_append, List.nil_append, List.replicate_succ, List.replicate_zero, Bool.false_eq_true, if_false, if_true, true_and, and_true, Nat.reduceAdd, Nat.reduceSub, Nat.reduceLeDiff, Nat.zero_le, Nat.le_refl, Nat.zero_add, Nat.add_zero, bI_0, bI_1, bI_n, Nat.reduceEqDiff, false_and, and_false, and_self, e_127_0, e_127_1, e_127_2, e_127_5, e_127_8, e_127_9, e_127_10, e_127_11, e_127_52, e_127_53, e_127_56, e_127_57, e_127_58, e_127_59, e_127_60, e_127_63, e_127_64, e_127_65, e_127_66, e_127_67, e_127_70, e_127_71, e_127_72, e_127_75, e_127_76, e_127_77, e_127_80, e_127_81, e_127_82, e_127_83, e_127_84, e_127_87, e_127_88, e_127_89, e_127_90, e_127_91, e_127_92, e_127_93, e_127_97, e_127_99, e_127_102, e_127_103, e_127_104, e_127_105, e_127_107, e_127_110, e_127_111, e_127_114, e_127_115, e_127_118, e_127_119, e_127_122, e_127_123, e_127_124, e_127_127, e_127_130, e_127_131, e_127_132, e_127_133, e_127_136, e_127_137, e_127_138, e_127_139, e_127_140]; exact h
        · rw [q] at h; simp only [q, r_one1, ent, entL, isL_int, isL_rf, isL_long, locS, List.length_cons, List.length_nil, List.cons_append, List.nil_append, List.replicate_succ, List.replicate_zero, Bool.false_eq_true, if_false, if_true, true_and, and_true, Nat.reduceAdd, Nat.reduceSub, Nat.reduceLeDiff, Nat.zero_le, Nat.le_refl, Nat.zero_add, Nat.add_zero, bI_0, bI_1, bI_n, Nat.reduceEqDiff, false_and, and_false, and_self, e_127_0, e_127_1, e_127_2, e_127_5, e_127_8, e_127_9, e_127_10, e_127_11, e_127_52, e_127_53, e_127_56, e_127_57, e_127_58, e_127_59, e_127_60, e_127_63, e_127_64, e_127_65, e_127_66, e_127_67, e_127_70, e_127_71, e_127_72, e_127_75, e_127_76, e_127_77, e_127_80, e_127_81, e_127_82, e_127_83, e_127_84, e_127_87, e_127_88, e_127_89, e_127_90, e_127_91, e_127_92, e_127_93, e_127_97, e_127_99, e_127_102, e_127_103, e_127_104, e_127_105, e_127_107, e_127_110, e_127_111, e_127_114, e_127_115, e_127_118, e_127_119, e_127_122, e_127_123, e_127_124, e_127_127, e_127_130, e_127_131, e_127_132, e_127_133, e_127_136, e_127_137, e_127_138, e_127_139, e_127_140]; exact h
      | 3, _ => rw [tsw_go 76 (by decide)]; simp only [ent, entL, isL_int, isL_rf, isL_long, locS, List.length_cons, List.length_nil, List.cons_append, List.nil_append, List.replicate_succ, List.replicate_zero, Bool.false_eq_true, if_false, if_true, true_and, and_true, Nat.reduceAdd, Nat.reduceSub, Nat.reduceLeDiff, Nat.zero_le, Nat.le_refl, Nat.zero_add, Nat.add_zero, bI_0, bI_1, bI_n, Nat.reduceEqDiff, false_and, and_false, and_self, e_127_0, e_127_1, e_127_2, e_127_5, e_127_8, e_127_9, e_127_10, e_127_11, e_127_52, e_127_53, e_127_56, e_127_57, e_127_58, e_127_59, e_127_60, e_127_63, e_127_64, e_127_65, e_127_66, e_127_67, e_127_70, e_127_71, e_127_72, e_127_75, e_127_76, e_127_77, e_127_80, e_127_81, e_127_82, e_127_83, e_127_84, e_127_87, e_127_88, e_127_89, e_127_90, e_127_91, e_127_92, e_127_93, e_127_97, e_127_99, e_127_102, e_127_103, e_127_104, e_127_105, e_127_107, e_127_110, e_127_111, e_127_114, e_127_115, e_127_118, e_127_119, e_127_122, e_127_123, e_127_124, e_127_127, e_127_130, e_127_131, e_127_132, e_127_133, e_127_136, e_127_137, e_127_138, e_127_139, e_127_140, hm, q1, q2, a2, true_or]; exact h
      | 4, _ => rw [tsw_go 83 (by decide)]; simp only [ent, entL, isL_int, isL_rf, isL_long, locS, List.length_cons, List.length_nil, List.cons_append, List.nil_append, List.replicate_succ, List.replicate_zero, Bool.false_eq_true, if_false, if_true, true_and, and_true, Nat.reduceAdd, Nat.reduceSub, Nat.reduceLeDiff, Nat.zero_le, Nat.le_refl, Nat.zero_add, Nat.add_zero, bI_0, bI_1, bI_n, Nat.reduceEqDiff, false_and, and_false, and_self, e_127_0, e_127_1, e_127_2, e_127_5, e_127_8, e_127_9, e_127_10, e_127_11, e_127_52, e_127_53, e_127_56, e_127_57, e_127_58, e_127_59, e_127_60, e_127_63, e_127_64, e_127_65, e_127_66, e_127_67, e_127_70, e_127_71, e_127_72, e_127_75, e_127_76, e_127_77, e_127_80, e_127_81, e_127_82, e_127_83, e_127_84, e_127_87, e_127_88, e_127_89, e_127_90, e_127_91, e_127_92, e_127_93, e_127_97, e_127_99, e_127_102, e_127_103, e_127_104, e_127_105, e_127_107, e_127_110, e_127_111, e_127_114, e_127_115, e_127_118, e_127_119, e_127_122, e_127_123, e_127_124, e_127_127, e_127_130, e_127_131, e_127_132, e_127_133, e_127_136, e_127_137, e_127_138, e_127_139, e_127_140, hm, q1, q2, a3, true_or]; exact h
      | 5, _ => rw [tsw_go 90 (by decide)]; simp only [ent, entL, isL_int, isL_rf, isL_long, locS, List.length_cons, List.length_nil, List.cons_append, List.nil_append, List.replicate_succ, List.replicate_zero, Bool.false_eq_true, if_false, if_true, true_and, and_true, Nat.reduceAdd, Nat.reduceSub, Nat.reduceLeDiff, Nat.zero_le, Nat.le_refl, Nat.zero_add, Nat.add_zero, bI_0, bI_1, bI_n, Nat.reduceEqDiff, false_and, and_false, and_self, e_127_0, e_127_1, e_127_2, e_127_5, e_127_8, e_127_9, e_127_10, e_127_11, e_127_52, e_127_53, e_127_56, e_127_57, e_127_58, e_127_59, e_127_60, e_127_63, e_127_64, e_127_65, e_127_66, e_127_67, e_127_70, e_127_71, e_127_72, e_127_75, e_127_76, e_127_77, e_127_80, e_127_81, e_127_82, e_127_83, e_127_84, e_127_87, e_127_88, e_127_89, e_127_90, e_127_91, e_127_92, e_127_93, e_127_97, e_127_99, e_127_102, e_127_103, e_127_104, e_127_105, e_127_107, e_127_110, e_127_111, e_127_114, e_127_115, e_127_118, e_127_119, e_127_122, e_127_123, e_127_124, e_127_127, e_127_130, e_127_131, e_127_132, e_127_133, e_127_136, e_127_137, e_127_138, e_127_139, e_127_140]; exact l_turnOf8 hM hI hi h 60 0 (by omega)
      | 6, _ => rw [tsw_go 132 (by decide)]; simp only [ent, entL, isL_int, isL_rf, isL_long, locS, List.length_cons, List.length_nil, List.cons_append, List.nil_append, List.replicate_succ, List.replicate_zero, Bool.false_eq_true, if_false, if_true, true_and, and_true, Nat.reduceAdd, Nat.reduceSub, Nat.reduceLeDiff, Nat.zero_le, Nat.le_refl, Nat.zero_add, Nat.add_zero, bI_0, bI_1, bI_n, Nat.reduceEqDiff, false_and, and_false, and_self, e_127_0, e_127_1, e_127_2, e_127_5, e_127_8, e_127_9, e_127_10, e_127_11, e_127_52, e_127_53, e_127_56, e_127_57, e_127_58, e_127_59, e_127_60, e_127_63, e_127_64, e_127_65, e_127_66, e_127_67, e_127_70, e_127_71, e_127_72, e_127_75, e_127_76, e_127_77, e_127_80, e_127_81, e_127_82, e_127_83, e_127_84, e_127_87, e_127_88, e_127_89, e_127_90, e_127_91, e_127_92, e_127_93, e_127_97, e_127_99, e_127_102, e_127_103, e_127_104, e_127_105, e_127_107, e_127_110, e_127_111, e_127_114, e_127_115, e_127_118, e_127_119, e_127_122, e_127_123, e_127_124, e_127_127, e_127_130, e_127_131, e_127_132, e_127_133, e_127_136, e_127_137, e_127_138, e_127_139, e_127_140, hm, q1, q2, a4, true_or]; exact h
      | k + 7, hk => omega
    · rw [tsw_out 139 (by omega) (by decide)]
      have e : ∀ k, k < 7 → ¬ wh = nI k := fun k hk => lit_ne hz hk (by decide)
      simp only [show (0 : Int32) = nI 0 from rfl, show (1 : Int32) = nI 1 from rfl, show (2 : Int32) = nI 2 from rfl, show (3 : Int32) = nI 3 from rfl, show (4 : Int32) = nI 4 from rfl, show (5 : Int32) = nI 5 from rfl, show (6 : Int32) = nI 6 from rfl, e 0 (by omega), e 1 (by omega), e 2 (by omega), e 3 (by omega), e 4 (by omega), e 5 (by omega), e 6 (by omega), if_false] at h
      simp only [ent, entL, isL_int, isL_rf, isL_long, locS, List.length_cons, List.length_nil, List.cons_append, List.nil_append, List.replicate_succ, List.replicate_zero, Bool.false_eq_true, if_false, if_true, true_and, and_true, Nat.reduceAdd, Nat.reduceSub, Nat.reduceLeDiff, Nat.zero_le, Nat.le_refl, Nat.zero_add, Nat.add_zero, bI_0, bI_1, bI_n, Nat.reduceEqDiff, false_and, and_false, and_self, e_127_0, e_127_1, e_127_2, e_127_5, e_127_8, e_127_9, e_127_10, e_127_11, e_127_52, e_127_53, e_127_56, e_127_57, e_127_58, e_127_59, e_127_60, e_127_63, e_127_64, e_127_65, e_127_66, e_127_67, e_127_70, e_127_71, e_127_72, e_127_75, e_127_76, e_127_77, e_127_80, e_127_81, e_127_82, e_127_83, e_127_84, e_127_87, e_127_88, e_127_89, e_127_90, e_127_91, e_127_92, e_127_93, e_127_97, e_127_99, e_127_102, e_127_103, e_127_104, e_127_105, e_127_107, e_127_110, e_127_111, e_127_114, e_127_115, e_127_118, e_127_119, e_127_122, e_127_123, e_127_124, e_127_127, e_127_130, e_127_131, e_127_132, e_127_133, e_127_136, e_127_137, e_127_138, e_127_139, e_127_140]
      exact h
end
