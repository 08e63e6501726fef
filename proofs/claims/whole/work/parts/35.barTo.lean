/-! the class: barTo -/
section X
variable {G : Mem} {x : Nat} {ta ha ca : Nat → Nat} {S : St} {l : List Nat}
theorem open_nat {v : Int32} (hI : Inv S) (h : nI (sN S 0) ≤ v ∧ v < 60) : ∃ w, w < 60 ∧ sN S 0 ≤ w ∧ v = nI w := by
  have h0 := hI.1
  obtain ⟨k, hk, rfl⟩ := n_rng' (x := v) (n := 60) (by decide) (by
    have := h.1
    rw [i_le, nI_toInt (by omega)] at this
    rw [i_le]
    have e3 : (0 : Int32).toInt = 0 := by decide
    omega) h.2
  exact ⟨k, hk, (nI_leI (by omega) (by omega)).mp h.1, rfl⟩
theorem open_ok {w : Nat} (hI : Inv S) (hw : w < 60) (h : sN S 0 ≤ w) : (nI (sN S 0) ≤ nI w ∧ nI w < 60) = True := by
  refine eq_true ⟨nI_le h (by omega), ?_⟩
  rw [show (60 : Int32) = nI 60 from rfl]
  exact nI_lt hw (by decide)
/-- the week ahead of one -/
theorem hallPrev (hX : RX G x ta ha ca S) {i w : Nat} (hi : i < sN S 1) (hw : w < 60) {d z : Nat} {Q : Rt} : CALL (d + 2) 44 [va_rf (some (ta i)), .int (nI w - 1)] G z Q = Q (some (va_rf ((if 0 < w then sP S i (w - 1) else none).map ha))) G z := by
  by_cases h0 : 0 < w
  · rw [n_pred h0, s_hallIn hX hi (by omega), if_pos h0]
  · have : w = 0 := by omega
    subst this
    obtain ⟨-, -, t3, -, -, -, -, -, -, t10, t11, t12, -⟩ := hX.2.2.1 i hi
    rw [s_hallIn0 t3 t10 t11 t12, if_neg (by decide), if_neg (by decide)]; rfl
theorem hallNext (hX : RX G x ta ha ca S) {i w : Nat} (hi : i < sN S 1) (hw : w < 60) {d z : Nat} {Q : Rt} : CALL (d + 2) 44 [va_rf (some (ta i)), .int (nI w + 1)] G z Q = Q (some (va_rf ((if w + 1 < 60 then sP S i (w + 1) else none).map ha))) G z := by
  rw [n_1]
  by_cases h0 : w + 1 < 60
  · rw [s_hallIn hX hi h0, if_pos h0]
  · have : w = 59 := by omega
    subst this
    obtain ⟨-, -, t3, -, -, -, -, -, -, t10, t11, t12, -⟩ := hX.2.2.1 i hi
    rw [s_hallIn0 t3 t10 t11 t12, if_neg (by decide), if_neg (by decide)]; rfl
theorem tf_if (hX : RX G x ta ha ca S) (hI : Inv S) {t w h : Nat} {p : Prop} [Decidable p] (hh : h < sN S 2) : tfO G ((if p then sP S t w else none).map ha) (ha h) = (decide p && farS S t h w) := by
  by_cases hp : p
  · simp only [hp, if_true, decide_true, Bool.true_and]; exact tfO_eq hX hI hh
  · simp only [hp, if_false, decide_false, Bool.false_and]; rfl
theorem map4 (hX : RX G x ta ha ca S) (hI : Inv S) {t w : Nat} {p : Prop} [Decidable p] : ∀ a, (if p then sP S t w else none).map ha = some a → mK G a = 4 := by
  intro a hq
  by_cases hp : p
  · simp only [hp, if_true] at hq
    cases hs : sP S t w with
    | none => rw [hs] at hq; cases hq
    | some h' =>
      rw [hs] at hq; cases hq
      exact (hall_of hX hI hs).2.1
  · simp only [hp, if_false] at hq; cases hq
set_option maxRecDepth 8000 in
theorem s_barTo (hX : RX G x ta ha ca S) (hI : Inv S) {d z i h w : Nat} (hi : i < sN S 1) (hh : h < sN S 2) (hw : w < 60) (hn : sN S 0 ≤ w) {Q : Rt} (hr : ∀ G', SX x G G' → Q (some (.int (whyS S i h w))) G' z) : CALL (d + 5) 80 [va_rf (some x), va_rf (some (ta i)), va_rf (some (ha h)), .int (nI w)] G z Q := by
  have hs := hX.1
  have hxn := hX.2.1
  obtain ⟨-, -, t3, -⟩ := hX.2.2.1 i hi
  obtain ⟨-, p2, p3, p4, -, p6⟩ := hX.2.2.2.1 h hh
  have hr0 := hr G SX.rf
  unfold whyS at hr hr0
  rw [CALL_eq]
  simp only [mxE_80, ent, entL, isL_int, isL_rf, isL_long, locS, List.length_cons, List.length_nil, List.cons_append, List.nil_append, List.replicate_succ, List.replicate_zero, Bool.false_eq_true, if_false, if_true, true_and, and_true, Nat.reduceAdd, Nat.reduceSub, Nat.reduceLeDiff, Nat.zero_le, Nat.le_refl, Nat.zero_add, Nat.add_zero, bI_0, bI_1, bI_n, Nat.reduceEqDiff, false_and, and_false, and_self, e_80_0, e_80_1, e_80_4, e_80_5, e_80_8, e_80_9, e_80_10, e_80_13, e_80_16, e_80_17, e_80_18, e_80_19, e_80_20, e_80_23, e_80_26, e_80_27, e_80_28, e_80_29, e_80_30, e_80_31, e_80_32, e_80_35, e_80_36, e_80_39, e_80_42, e_80_43, e_80_44, e_80_45, e_80_46, e_80_49, e_80_50, e_80_53, e_80_56, e_80_57, e_80_58, e_80_59, e_80_60, e_80_61, e_80_64, e_80_67, e_80_69, e_80_71, e_80_74, e_80_76, e_80_77, e_80_80, e_80_83, e_80_84, e_80_85, e_80_87, e_80_90, e_80_91, e_80_92, e_80_93, e_80_95, e_80_98, e_80_101, e_80_102, e_80_103, e_80_104, e_80_105, e_80_106, e_80_107, e_80_110, e_80_113, e_80_115, e_80_116, e_80_117, e_80_118, e_80_119, e_80_120, e_80_122, e_80_125, hs, hxn, reduceCtorEq, s_isOpen hX, open_ok hI hw hn, not_true, t3, s_hallIn hX hi hw, hallPrev hX hi hw, hallNext hX hi hw, s_tooFar p2 (map4 hX hI), tf_if hX hI hh, Option.map_eq_none_iff]
  by_cases q1 : sP S i w = none
  · have e1 : ¬ (sP S i w).isSome = true := by rw [q1]; decide
    simp only [q1, if_true]
    simp only [e1, if_false] at hr hr0
    by_cases q2 : (decide (0 < w) && farS S i h (w - 1)) = true
    · simp only [q2, not_true, if_false]
      simp only [q2, true_or, if_true] at hr0
      exact hr0
    simp only [q2, not_false_iff, if_true]
    by_cases q3 : (decide (w + 1 < 60) && farS S i h (w + 1)) = true
    · simp only [q3, not_true, if_false]
      simp only [q3, or_true, if_true] at hr0
      exact hr0
    simp only [q3, not_false_iff, if_true]
    simp only [q2, q3, or_self, if_false, Bool.false_eq_true] at hr hr0
    refine s_contractIn hX hI hi hw (by have := hI.1; omega) ?_
    have ew : ownS S i w = stO S (frc S i w (sN S 0)) := rfl
    rw [ew] at hr hr0
    -- behind the own contract's bars
    have fin : ¬ tlls (stO S (frc S i w (sN S 0))) 3 (nI h) = true → ¬ (List.range 60).any (fiveS S i h w (stO S (frc S i w (sN S 0)))) = true → WP (d + 4) 80 Q 103 [some (va_rf (some x)), some (va_rf (some (ta i))), some (va_rf (some (ha h))), some (.int (nI w)), some (va_rf ((frc S i w (sN S 0)).map ca))] [] G z 0 0 := by
      intro f1 f2
      simp only [f1, f2, if_false, Bool.false_eq_true] at hr hr0
      simp only [ent, entL, isL_int, isL_rf, isL_long, locS, List.length_cons, List.length_nil, List.cons_append, List.nil_append, List.replicate_succ, List.replicate_zero, Bool.false_eq_true, if_false, if_true, true_and, and_true, Nat.reduceAdd, Nat.reduceSub, Nat.reduceLeDiff, Nat.zero_le, Nat.le_refl, Nat.zero_add, Nat.add_zero, bI_0, bI_1, bI_n, Nat.reduceEqDiff, false_and, and_false, and_self, e_80_0, e_80_1, e_80_4, e_80_5, e_80_8, e_80_9, e_80_10, e_80_13, e_80_16, e_80_17, e_80_18, e_80_19, e_80_20, e_80_23, e_80_26, e_80_27, e_80_28, e_80_29, e_80_30, e_80_31, e_80_32, e_80_35, e_80_36, e_80_39, e_80_42, e_80_43, e_80_44, e_80_45, e_80_46, e_80_49, e_80_50, e_80_53, e_80_56, e_80_57, e_80_58, e_80_59, e_80_60, e_80_61, e_80_64, e_80_67, e_80_69, e_80_71, e_80_74, e_80_76, e_80_77, e_80_80, e_80_83, e_80_84, e_80_85, e_80_87, e_80_90, e_80_91, e_80_92, e_80_93, e_80_95, e_80_98, e_80_101, e_80_102, e_80_103, e_80_104, e_80_105, e_80_106, e_80_107, e_80_110, e_80_113, e_80_115, e_80_116, e_80_117, e_80_118, e_80_119, e_80_120, e_80_122, e_80_125, hs]
      refine s_oth hX hI hi hh ?_
      simp only [ent, entL, isL_int, isL_rf, isL_long, locS, List.length_cons, List.length_nil, List.cons_append, List.nil_append, List.replicate_succ, List.replicate_zero, Bool.false_eq_true, if_false, if_true, true_and, and_true, Nat.reduceAdd, Nat.reduceSub, Nat.reduceLeDiff, Nat.zero_le, Nat.le_refl, Nat.zero_add, Nat.add_zero, bI_0, bI_1, bI_n, Nat.reduceEqDiff, false_and, and_false, and_self, e_80_0, e_80_1, e_80_4, e_80_5, e_80_8, e_80_9, e_80_10, e_80_13, e_80_16, e_80_17, e_80_18, e_80_19, e_80_20, e_80_23, e_80_26, e_80_27, e_80_28, e_80_29, e_80_30, e_80_31, e_80_32, e_80_35, e_80_36, e_80_39, e_80_42, e_80_43, e_80_44, e_80_45, e_80_46, e_80_49, e_80_50, e_80_53, e_80_56, e_80_57, e_80_58, e_80_59, e_80_60, e_80_61, e_80_64, e_80_67, e_80_69, e_80_71, e_80_74, e_80_76, e_80_77, e_80_80, e_80_83, e_80_84, e_80_85, e_80_87, e_80_90, e_80_91, e_80_92, e_80_93, e_80_95, e_80_98, e_80_101, e_80_102, e_80_103, e_80_104, e_80_105, e_80_106, e_80_107, e_80_110, e_80_113, e_80_115, e_80_116, e_80_117, e_80_118, e_80_119, e_80_120, e_80_122, e_80_125, hs]
      by_cases q6 : (List.range 60).any (sixS S i h w (sN S 0)) = true
      · simp only [q6, not_true, if_false]
        simp only [q6, if_true] at hr0
        exact hr0
      simp only [q6, not_false_iff, if_true]
      simp only [q6, if_false, Bool.false_eq_true] at hr
      refine s_onBill hX hI hi hh hw ?_
      intro G' hsx
      simp only [ent, entL, isL_int, isL_rf, isL_long, locS, List.length_cons, List.length_nil, List.cons_append, List.nil_append, List.replicate_succ, List.replicate_zero, Bool.false_eq_true, if_false, if_true, true_and, and_true, Nat.reduceAdd, Nat.reduceSub, Nat.reduceLeDiff, Nat.zero_le, Nat.le_refl, Nat.zero_add, Nat.add_zero, bI_0, bI_1, bI_n, Nat.reduceEqDiff, false_and, and_false, and_self, e_80_0, e_80_1, e_80_4, e_80_5, e_80_8, e_80_9, e_80_10, e_80_13, e_80_16, e_80_17, e_80_18, e_80_19, e_80_20, e_80_23, e_80_26, e_80_27, e_80_28, e_80_29, e_80_30, e_80_31, e_80_32, e_80_35, e_80_36, e_80_39, e_80_42, e_80_43, e_80_44, e_80_45, e_80_46, e_80_49, e_80_50, e_80_53, e_80_56, e_80_57, e_80_58, e_80_59, e_80_60, e_80_61, e_80_64, e_80_67, e_80_69, e_80_71, e_80_74, e_80_76, e_80_77, e_80_80, e_80_83, e_80_84, e_80_85, e_80_87, e_80_90, e_80_91, e_80_92, e_80_93, e_80_95, e_80_98, e_80_101, e_80_102, e_80_103, e_80_104, e_80_105, e_80_106, e_80_107, e_80_110, e_80_113, e_80_115, e_80_116, e_80_117, e_80_118, e_80_119, e_80_120, e_80_122, e_80_125]
      exact hr G' hsx
    cases hf : frc S i w (sN S 0) with
    | none =>
      rw [hf] at fin
      simp only [ent, entL, isL_int, isL_rf, isL_long, locS, List.length_cons, List.length_nil, List.cons_append, List.nil_append, List.replicate_succ, List.replicate_zero, Bool.false_eq_true, if_false, if_true, true_and, and_true, Nat.reduceAdd, Nat.reduceSub, Nat.reduceLeDiff, Nat.zero_le, Nat.le_refl, Nat.zero_add, Nat.add_zero, bI_0, bI_1, bI_n, Nat.reduceEqDiff, false_and, and_false, and_self, e_80_0, e_80_1, e_80_4, e_80_5, e_80_8, e_80_9, e_80_10, e_80_13, e_80_16, e_80_17, e_80_18, e_80_19, e_80_20, e_80_23, e_80_26, e_80_27, e_80_28, e_80_29, e_80_30, e_80_31, e_80_32, e_80_35, e_80_36, e_80_39, e_80_42, e_80_43, e_80_44, e_80_45, e_80_46, e_80_49, e_80_50, e_80_53, e_80_56, e_80_57, e_80_58, e_80_59, e_80_60, e_80_61, e_80_64, e_80_67, e_80_69, e_80_71, e_80_74, e_80_76, e_80_77, e_80_80, e_80_83, e_80_84, e_80_85, e_80_87, e_80_90, e_80_91, e_80_92, e_80_93, e_80_95, e_80_98, e_80_101, e_80_102, Option.map_none]
      exact fin (by simp [stO, tlls]) (by
        have : ∀ w', fiveS S i h w (stO S none) w' = false := fun w' => by unfold fiveS; cases sP S i w' <;> rfl
        simp [List.any_eq_true, this])
    | some c =>
      rw [hf] at fin hr0
      obtain ⟨-, c2, c3⟩ := stO_ch hX hf
      simp only [ent, entL, isL_int, isL_rf, isL_long, locS, List.length_cons, List.length_nil, List.cons_append, List.nil_append, List.replicate_succ, List.replicate_zero, Bool.false_eq_true, if_false, if_true, true_and, and_true, Nat.reduceAdd, Nat.reduceSub, Nat.reduceLeDiff, Nat.zero_le, Nat.le_refl, Nat.zero_add, Nat.add_zero, bI_0, bI_1, bI_n, Nat.reduceEqDiff, false_and, and_false, and_self, e_80_0, e_80_1, e_80_4, e_80_5, e_80_8, e_80_9, e_80_10, e_80_13, e_80_16, e_80_17, e_80_18, e_80_19, e_80_20, e_80_23, e_80_26, e_80_27, e_80_28, e_80_29, e_80_30, e_80_31, e_80_32, e_80_35, e_80_36, e_80_39, e_80_42, e_80_43, e_80_44, e_80_45, e_80_46, e_80_49, e_80_50, e_80_53, e_80_56, e_80_57, e_80_58, e_80_59, e_80_60, e_80_61, e_80_64, e_80_67, e_80_69, e_80_71, e_80_74, e_80_76, e_80_77, e_80_80, e_80_83, e_80_84, e_80_85, e_80_87, e_80_90, e_80_91, e_80_92, e_80_93, e_80_95, e_80_98, e_80_101, e_80_102, Option.map_some, reduceCtorEq, c2]
      refine s_isNeverIn c2 p2 c3 ?_
      rw [p3]
      simp only [ent, entL, isL_int, isL_rf, isL_long, locS, List.length_cons, List.length_nil, List.cons_append, List.nil_append, List.replicate_succ, List.replicate_zero, Bool.false_eq_true, if_false, if_true, true_and, and_true, Nat.reduceAdd, Nat.reduceSub, Nat.reduceLeDiff, Nat.zero_le, Nat.le_refl, Nat.zero_add, Nat.add_zero, bI_0, bI_1, bI_n, Nat.reduceEqDiff, false_and, and_false, and_self, e_80_0, e_80_1, e_80_4, e_80_5, e_80_8, e_80_9, e_80_10, e_80_13, e_80_16, e_80_17, e_80_18, e_80_19, e_80_20, e_80_23, e_80_26, e_80_27, e_80_28, e_80_29, e_80_30, e_80_31, e_80_32, e_80_35, e_80_36, e_80_39, e_80_42, e_80_43, e_80_44, e_80_45, e_80_46, e_80_49, e_80_50, e_80_53, e_80_56, e_80_57, e_80_58, e_80_59, e_80_60, e_80_61, e_80_64, e_80_67, e_80_69, e_80_71, e_80_74, e_80_76, e_80_77, e_80_80, e_80_83, e_80_84, e_80_85, e_80_87, e_80_90, e_80_91, e_80_92, e_80_93, e_80_95, e_80_98, e_80_101, e_80_102, Option.map_some, reduceCtorEq, c2]
      by_cases q4 : tlls (stO S (some c)) 3 (nI h) = true
      · simp only [q4, not_true, if_false]
        simp only [q4, if_true] at hr0
        exact hr0
      simp only [q4, not_false_iff, if_true]
      simp only [q4, if_false, Bool.false_eq_true] at hr0
      refine s_own hX hI hi hh c2 c3 ?_
      simp only [ent, entL, isL_int, isL_rf, isL_long, locS, List.length_cons, List.length_nil, List.cons_append, List.nil_append, List.replicate_succ, List.replicate_zero, Bool.false_eq_true, if_false, if_true, true_and, and_true, Nat.reduceAdd, Nat.reduceSub, Nat.reduceLeDiff, Nat.zero_le, Nat.le_refl, Nat.zero_add, Nat.add_zero, bI_0, bI_1, bI_n, Nat.reduceEqDiff, false_and, and_false, and_self, e_80_0, e_80_1, e_80_4, e_80_5, e_80_8, e_80_9, e_80_10, e_80_13, e_80_16, e_80_17, e_80_18, e_80_19, e_80_20, e_80_23, e_80_26, e_80_27, e_80_28, e_80_29, e_80_30, e_80_31, e_80_32, e_80_35, e_80_36, e_80_39, e_80_42, e_80_43, e_80_44, e_80_45, e_80_46, e_80_49, e_80_50, e_80_53, e_80_56, e_80_57, e_80_58, e_80_59, e_80_60, e_80_61, e_80_64, e_80_67, e_80_69, e_80_71, e_80_74, e_80_76, e_80_77, e_80_80, e_80_83, e_80_84, e_80_85, e_80_87, e_80_90, e_80_91, e_80_92, e_80_93, e_80_95, e_80_98, e_80_101, e_80_102]
      by_cases q5 : (List.range 60).any (fiveS S i h w (stO S (some c))) = true
      · simp only [q5, not_true, if_false]
        simp only [q5, if_true] at hr0
        exact hr0
      simp only [q5, not_false_iff, if_true]
      exact fin q4 q5
  · have e1 : (sP S i w).isSome = true := by cases hq : sP S i w with
      | none => exact absurd hq q1
      | some _ => rfl
    simp only [q1, if_false]
    simp only [e1, if_true] at hr0
    exact hr0
set_option maxRecDepth 8000 in
theorem s_barTo1 (hX : RX G x ta ha ca S) (hI : Inv S) {d z : Nat} {o p : Option Nat} {v : Int32} (h : o = none ∨ p = none ∨ ¬ (nI (sN S 0) ≤ v ∧ v < 60)) {Q : Rt} (hr : Q (some (.int 1)) G z) : CALL (d + 5) 80 [va_rf (some x), va_rf o, va_rf p, .int v] G z Q := by
  have hs := hX.1
  rw [CALL_eq]
  simp only [mxE_80, ent, entL, isL_int, isL_rf, isL_long, locS, List.length_cons, List.length_nil, List.cons_append, List.nil_append, List.replicate_succ, List.replicate_zero, Bool.false_eq_true, if_false, if_true, true_and, and_true, Nat.reduceAdd, Nat.reduceSub, Nat.reduceLeDiff, Nat.zero_le, Nat.le_refl, Nat.zero_add, Nat.add_zero, bI_0, bI_1, bI_n, Nat.reduceEqDiff, false_and, and_false, and_self, e_80_0, e_80_1, e_80_4, e_80_5, e_80_8, e_80_9, e_80_10, e_80_13, e_80_16, e_80_17, hs, s_isOpen hX]
  by_cases h1 : o = none
  · simp only [h1, if_true]; exact hr
  · simp only [h1, if_false]
    by_cases h2 : p = none
    · simp only [h2, if_true]; exact hr
    · simp only [h2, if_false]
      have h3 : ¬ (nI (sN S 0) ≤ v ∧ v < 60) := by
        rcases h with q | q | q
        · exact absurd q h1
        · exact absurd q h2
        · exact q
      simp only [h3, not_false_iff, if_true]; exact hr
end X
