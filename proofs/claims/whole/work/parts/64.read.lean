/-! the class's reader: words, numbers, statements, the text -/
/-- the program's texts stand -/
def SO (G : Mem) : Prop := ∀ i, i < 10 → ∃ a, mR G 31 i 0 = some a ∧ SA G (sBy.getD i []) a
theorem SA.rf {r : Nat} {G G' : Mem} {w : List Int32} {a : Nat} (h : SA G w a) (q : RF r G G') : SA G' w a := by
  obtain ⟨v, h1, h2, h3, h4, h5, h6⟩ := h
  obtain ⟨q1, q2, q3, q4, q5, q6⟩ := q
  exact ⟨v, by rw [q3 _ _ _ (fun e => absurd e.1 (by decide))]; exact h1, by rw [q3 _ _ _ (fun e => absurd e.1 (by decide))]; exact h2, by rw [q4]; exact h3, by rw [q1]; exact h4, by rw [q2]; exact h5, fun k => by rw [q5]; exact h6 k⟩
theorem SO.rf {r : Nat} {G G' : Mem} (h : SO G) (q : RF r G G') : SO G' := fun i hi => by
  obtain ⟨a, h1, h2⟩ := h i hi
  exact ⟨a, by rw [q.2.2.2.1]; exact h1, h2.rf q⟩
def okWb (w : List Int32) : Bool := decide (w.length < 100) && w.all fun c => decide (((c &&& 255).toUInt32 % 65536).toInt32 = c) && decide (narrow .char (.int c) = .int c)
theorem okW_b {w : List Int32} (h : okWb w = true) : okW w := by
  unfold okWb at h
  rw [Bool.and_eq_true, decide_eq_true_eq, List.all_eq_true] at h
  refine ⟨h.1, fun c hc => ?_⟩
  have := h.2 c hc
  rw [Bool.and_eq_true, decide_eq_true_eq, decide_eq_true_eq] at this
  exact this
theorem okW_i : ∀ i, i < 10 → okW (sBy.getD i []) := by
  intro i hi
  have h : ((List.range 10).all fun i => okWb (sBy.getD i [])) = true := by decide +kernel
  rw [List.all_eq_true] at h
  exact okW_b (h i (List.mem_range.mpr hi))
/-- the answer where a number is asked for -/
def nmI (o : Option (Int32 × Nat)) : Int32 := match o with
  | none => -1
  | some (v, _) => v
section
variable {G : Mem} {r b : Nat} {T : Nat → Int32} {L e s : Nat}
set_option maxRecDepth 8000 in
theorem s_stepTo {d z a : Nat} {w : List Int32} {Q : Rt} (hR : RD G r b T L e s) (hA : SA G w a) (hw : okW w) (h : ∀ G', RD G' r b T L (tokE T L (nt T L e)) (nt T L e) → RF r G G' → Q (some (.int (bI (hld T L (nt T L e) (tokE T L (nt T L e)) w = true)))) G' z) : CALL (d + 6) 32 [va_rf (some r), va_rf (some a)] G z Q := by
  have q1 := hR.1
  rw [CALL_eq]
  simp only [mxE_32, ent, entL, isL_int, isL_rf, isL_long, locS, List.length_cons, List.length_nil, List.cons_append, List.nil_append, List.replicate_succ, List.replicate_zero, Bool.false_eq_true, if_false, if_true, true_and, and_true, Nat.reduceAdd, Nat.reduceSub, Nat.reduceLeDiff, Nat.zero_le, Nat.le_refl, Nat.zero_add, Nat.add_zero, bI_0, bI_1, bI_n, Nat.reduceEqDiff, false_and, and_false, and_self, e_32_0, e_32_1, q1]
  refine s_step hR fun G1 hR1 hF1 => ?_
  have p1 := hR1.1
  simp only [ent, entL, isL_int, isL_rf, isL_long, locS, List.length_cons, List.length_nil, List.cons_append, List.nil_append, List.replicate_succ, List.replicate_zero, Bool.false_eq_true, if_false, if_true, true_and, and_true, Nat.reduceAdd, Nat.reduceSub, Nat.reduceLeDiff, Nat.zero_le, Nat.le_refl, Nat.zero_add, Nat.add_zero, bI_0, bI_1, bI_n, Nat.reduceEqDiff, false_and, and_false, and_self, e_32_4, e_32_5, e_32_6, e_32_9, p1, s_hlds hR1 tok_ge (hA.rf hF1) hw]
  exact h G1 hR1 hF1
set_option maxRecDepth 8000 in
theorem l_number {d z e1 s1 : Nat} {Q : Rt} (hR : RD G r b T L e1 s1) : ∀ (n i : Nat), s1 + i + n = e1 → Q (some (.int (nv T s1 (i + n)))) G z → WP (d + 1) 33 Q 37 [some (va_rf (some r)), some (.int (nv T s1 i)), some (.int (nI (s1 + i)))] [] G z 0 0 := by
  have h1 := hR.1
  have h10 := hR.2.2.2.2.2.2.2.2.2.1
  have hL := hR.2.2.2.2.2.1
  have he := hR.2.2.2.2.2.2.1
  intro n
  induction n with
  | zero =>
    intro i hi h
    rw [e_33_37]
    simp only [ent, entL, isL_int, isL_rf, isL_long, locS, List.length_cons, List.length_nil, List.cons_append, List.nil_append, List.replicate_succ, List.replicate_zero, Bool.false_eq_true, if_false, if_true, true_and, and_true, Nat.reduceAdd, Nat.reduceSub, Nat.reduceLeDiff, Nat.zero_le, Nat.le_refl, Nat.zero_add, Nat.add_zero, bI_0, bI_1, bI_n, Nat.reduceEqDiff, false_and, and_false, and_self, e_33_38, e_33_39, e_33_42, e_33_45, e_33_46, e_33_48, e_33_49, e_33_50, e_33_51, e_33_54, e_33_55, e_33_57, e_33_58, e_33_59, e_33_62, e_33_65, e_33_66, h1, h10, n_le (show e1 < 2 ^ 31 by omega) (show s1 + i < 2 ^ 31 by omega), show e1 ≤ s1 + i by omega]
    exact h
  | succ n ih =>
    intro i hi h
    rw [e_33_37]
    simp only [ent, entL, isL_int, isL_rf, isL_long, locS, List.length_cons, List.length_nil, List.cons_append, List.nil_append, List.replicate_succ, List.replicate_zero, Bool.false_eq_true, if_false, if_true, true_and, and_true, Nat.reduceAdd, Nat.reduceSub, Nat.reduceLeDiff, Nat.zero_le, Nat.le_refl, Nat.zero_add, Nat.add_zero, bI_0, bI_1, bI_n, Nat.reduceEqDiff, false_and, and_false, and_self, e_33_38, e_33_39, e_33_42, e_33_45, e_33_46, e_33_48, e_33_49, e_33_50, e_33_51, e_33_54, e_33_55, e_33_57, e_33_58, e_33_59, e_33_62, e_33_65, e_33_66, h1, h10, n_le (show e1 < 2 ^ 31 by omega) (show s1 + i < 2 ^ 31 by omega), show ¬ e1 ≤ s1 + i by omega, s_byteAt hR (show s1 + i < 2 ^ 31 by omega), n_1]
    have hb : bA T L (s1 + i) = T (s1 + i) := by unfold bA; rw [if_pos (by omega)]
    rw [hb]
    refine ih (i + 1) (by omega) ?_
    rw [show i + 1 + n = i + (n + 1) by omega]
    exact h
set_option maxRecDepth 8000 in
theorem s_number {d z : Nat} {Q : Rt} (hR : RD G r b T L e s) (h : ∀ G', RD G' r b T L (tokE T L (nt T L e)) (nt T L e) → RF r G G' → Q (some (.int (nmI (nmb T L (nt T L e))))) G' z) : CALL (d + 4) 33 [va_rf (some r)] G z Q := by
  have q1 := hR.1
  rw [CALL_eq]
  simp only [mxE_33, ent, entL, isL_int, isL_rf, isL_long, locS, List.length_cons, List.length_nil, List.cons_append, List.nil_append, List.replicate_succ, List.replicate_zero, Bool.false_eq_true, if_false, if_true, true_and, and_true, Nat.reduceAdd, Nat.reduceSub, Nat.reduceLeDiff, Nat.zero_le, Nat.le_refl, Nat.zero_add, Nat.add_zero, bI_0, bI_1, bI_n, Nat.reduceEqDiff, false_and, and_false, and_self, e_33_0, e_33_1, q1]
  refine s_step hR fun G1 hR1 hF1 => ?_
  have h := h G1 hR1 hF1
  change RD G1 r b T L (tokE T L (nt T L e)) (nt T L e) at hR1
  generalize nt T L e = s' at hR1 h
  have p1 := hR1.1
  have p6 := hR1.2.2.2.2.2.1
  have p7 := hR1.2.2.2.2.2.2.1
  have p8 := hR1.2.2.2.2.2.2.2.1
  have p10 := hR1.2.2.2.2.2.2.2.2.2.1
  have p11 := hR1.2.2.2.2.2.2.2.2.2.2
  simp only [ent, entL, isL_int, isL_rf, isL_long, locS, List.length_cons, List.length_nil, List.cons_append, List.nil_append, List.replicate_succ, List.replicate_zero, Bool.false_eq_true, if_false, if_true, true_and, and_true, Nat.reduceAdd, Nat.reduceSub, Nat.reduceLeDiff, Nat.zero_le, Nat.le_refl, Nat.zero_add, Nat.add_zero, bI_0, bI_1, bI_n, Nat.reduceEqDiff, false_and, and_false, and_self, e_33_4, e_33_5, e_33_6, e_33_9, e_33_12, e_33_15, e_33_16, e_33_19, e_33_20, e_33_23, e_33_24, e_33_25, e_33_28, e_33_29, e_33_30, e_33_31, e_33_32, e_33_33, e_33_36, p1, p10, p11, s_isDigit hR1 (show s' < 2 ^ 31 by omega), n_sub (tok_ge (T := T) (L := L) (s := s')), show (3 : Int32) = nI 3 from rfl, n_le (show tokE T L s' - s' < 2 ^ 31 by omega) (show 3 < 2 ^ 31 by decide)]
  unfold nmb at h
  by_cases c1 : s' < rn isDi T L s'
  · have c1' := c1
    rw [di_lt] at c1'
    have ht := di_tok c1
    simp only [c1'.1, c1'.2, decide_true, Bool.and_self, not_true, if_false, ht]
    by_cases c2 : rn isDi T L s' ≤ s' + 3
    · rw [if_pos ⟨c1, c2⟩] at h
      simp only [show rn isDi T L s' - s' ≤ 3 by omega, if_true]
      rw [ht] at hR1
      refine l_number (d := d + 2) hR1 (rn isDi T L s' - s') 0 (by omega) ?_
      rw [Nat.zero_add]
      exact h
    · rw [if_neg (fun q => c2 q.2)] at h
      simp only [show ¬ rn isDi T L s' - s' ≤ 3 by omega, if_false]
      exact h
  · rw [if_neg (fun q => c1 q.1)] at h
    have e1 : (decide (s' < L) && isDi (T s')) = false := by
      cases hq : (decide (s' < L) && isDi (T s')) with
      | false => rfl
      | true => rw [Bool.and_eq_true, decide_eq_true_eq, ← di_lt] at hq; exact absurd hq c1
    simp only [e1, Bool.false_eq_true, not_false_iff, if_true]
    exact h
set_option maxRecDepth 8000 in
theorem s_opening {d z : Nat} {Q : Rt} (hS : SO G) (hR : RD G r b T L (tokE T L s) s) (h1 : ∀ k e' s' G', opn T L s = .inr (k, e') → RD G' r b T L e' s' → RF r G G' → Q (some (.int k)) G' z) (h2 : ∀ f e' G', opn T L s = .inl f → RD G' r b T L e' f → RF r G G' → Q (some (.int (-1))) G' z) : CALL (d + 7) 31 [va_rf (some r)] G z Q := by
  have q1 := hR.1
  obtain ⟨a0, e0, A0⟩ := hS 0 (by decide)
  obtain ⟨a1, e1, A1⟩ := hS 1 (by decide)
  obtain ⟨a2, e2, A2⟩ := hS 2 (by decide)
  obtain ⟨a3, e3, A3⟩ := hS 3 (by decide)
  obtain ⟨a4, e4, A4⟩ := hS 4 (by decide)
  obtain ⟨a5, e5, A5⟩ := hS 5 (by decide)
  obtain ⟨a6, e6, A6⟩ := hS 6 (by decide)
  change SA G wBar a0 at A0
  change SA G wPay a1 at A1
  change SA G wPlace a2 at A2
  change SA G wNever a3 at A3
  change SA G wHall a4 at A4
  change SA G wApart a5 at A5
  change SA G wLike a6 at A6
  have w0 : okW wBar := okW_i 0 (by decide)
  have w1 : okW wPay := okW_i 1 (by decide)
  have w2 : okW wPlace := okW_i 2 (by decide)
  have w3 : okW wNever := okW_i 3 (by decide)
  have w4 : okW wHall := okW_i 4 (by decide)
  have w5 : okW wApart := okW_i 5 (by decide)
  have w6 : okW wLike := okW_i 6 (by decide)
  have w7 : okW wTurn := okW_i 7 (by decide)
  unfold opn at h1 h2
  rw [CALL_eq]
  simp only [mxE_31, ent, entL, isL_int, isL_rf, isL_long, locS, List.length_cons, List.length_nil, List.cons_append, List.nil_append, List.replicate_succ, List.replicate_zero, Bool.false_eq_true, if_false, if_true, true_and, and_true, Nat.reduceAdd, Nat.reduceSub, Nat.reduceLeDiff, Nat.zero_le, Nat.le_refl, Nat.zero_add, Nat.add_zero, bI_0, bI_1, bI_n, Nat.reduceEqDiff, false_and, and_false, and_self, e_31_0, e_31_1, e_31_3, e_31_6, e_31_9, e_31_10, q1, e0, s_hlds hR tok_ge A0 w0, hld_wd isW_Bar]
  by_cases c0 : wd T L s wBar = true
  · rw [if_pos c0] at h1
    simp only [c0, not_true, if_false]
    refine h1 0 (s + 3) s G rfl ?_ RF.rf
    rw [wd_tok isW_Bar c0] at hR
    exact hR
  rw [if_neg c0] at h1 h2
  simp only [ent, entL, isL_int, isL_rf, isL_long, locS, List.length_cons, List.length_nil, List.cons_append, List.nil_append, List.replicate_succ, List.replicate_zero, Bool.false_eq_true, if_false, if_true, true_and, and_true, Nat.reduceAdd, Nat.reduceSub, Nat.reduceLeDiff, Nat.zero_le, Nat.le_refl, Nat.zero_add, Nat.add_zero, bI_0, bI_1, bI_n, Nat.reduceEqDiff, false_and, and_false, and_self, e_31_11, e_31_12, e_31_14, e_31_17, e_31_20, e_31_21, q1, e1, s_hlds hR tok_ge A1 w1, hld_wd isW_Pay, c0, not_false_iff]
  by_cases c1 : wd T L s wPay = true
  · rw [if_pos c1] at h1
    simp only [c1, not_true, if_false]
    refine h1 4 (s + 3) s G rfl ?_ RF.rf
    rw [wd_tok isW_Pay c1] at hR
    exact hR
  rw [if_neg c1] at h1 h2
  simp only [ent, entL, isL_int, isL_rf, isL_long, locS, List.length_cons, List.length_nil, List.cons_append, List.nil_append, List.replicate_succ, List.replicate_zero, Bool.false_eq_true, if_false, if_true, true_and, and_true, Nat.reduceAdd, Nat.reduceSub, Nat.reduceLeDiff, Nat.zero_le, Nat.le_refl, Nat.zero_add, Nat.add_zero, bI_0, bI_1, bI_n, Nat.reduceEqDiff, false_and, and_false, and_self, e_31_22, e_31_23, e_31_25, e_31_28, e_31_31, e_31_32, q1, e2, s_hlds hR tok_ge A2 w2, hld_wd isW_Place, c1, not_false_iff]
  by_cases c2 : wd T L s wPlace = true
  · rw [if_pos c2] at h1
    simp only [c2, not_true, if_false]
    refine h1 5 (s + 5) s G rfl ?_ RF.rf
    rw [wd_tok isW_Place c2] at hR
    exact hR
  rw [if_neg c2] at h1 h2
  simp only [ent, entL, isL_int, isL_rf, isL_long, locS, List.length_cons, List.length_nil, List.cons_append, List.nil_append, List.replicate_succ, List.replicate_zero, Bool.false_eq_true, if_false, if_true, true_and, and_true, Nat.reduceAdd, Nat.reduceSub, Nat.reduceLeDiff, Nat.zero_le, Nat.le_refl, Nat.zero_add, Nat.add_zero, bI_0, bI_1, bI_n, Nat.reduceEqDiff, false_and, and_false, and_self, e_31_33, e_31_34, e_31_36, e_31_39, q1, e3, s_hlds hR tok_ge A3 w3, hld_wd isW_Never, c2, not_false_iff]
  by_cases c3 : wd T L s wNever = true
  · rw [if_pos c3] at h1 h2
    rw [wd_tok isW_Never c3] at hR
    simp only [ent, entL, isL_int, isL_rf, isL_long, locS, List.length_cons, List.length_nil, List.cons_append, List.nil_append, List.replicate_succ, List.replicate_zero, Bool.false_eq_true, if_false, if_true, true_and, and_true, Nat.reduceAdd, Nat.reduceSub, Nat.reduceLeDiff, Nat.zero_le, Nat.le_refl, Nat.zero_add, Nat.add_zero, bI_0, bI_1, bI_n, Nat.reduceEqDiff, false_and, and_false, and_self, e_31_42, e_31_43, e_31_45, c3, not_true, q1, e4]
    refine s_stepTo hR A4 w4 fun G1 hR1 hF1 => ?_
    change RD G1 r b T L (tokE T L (nt T L (s + 5))) (nt T L (s + 5)) at hR1
    simp only [ent, entL, isL_int, isL_rf, isL_long, locS, List.length_cons, List.length_nil, List.cons_append, List.nil_append, List.replicate_succ, List.replicate_zero, Bool.false_eq_true, if_false, if_true, true_and, and_true, Nat.reduceAdd, Nat.reduceSub, Nat.reduceLeDiff, Nat.zero_le, Nat.le_refl, Nat.zero_add, Nat.add_zero, bI_0, bI_1, bI_n, Nat.reduceEqDiff, false_and, and_false, and_self, e_31_48, e_31_51, e_31_52, e_31_55, e_31_56]
    change (if ¬ hld T L (nt T L (s + 5)) (tokE T L (nt T L (s + 5))) wHall = true then _ else _)
    rw [hld_wd isW_Hall]
    by_cases c4 : wd T L (nt T L (s + 5)) wHall = true
    · rw [if_pos c4] at h1
      simp only [c4, not_true, if_false]
      refine h1 3 (nt T L (s + 5) + 4) (nt T L (s + 5)) G1 rfl ?_ hF1
      rw [wd_tok isW_Hall c4] at hR1
      exact hR1
    · rw [if_neg c4] at h2
      simp only [c4, not_false_iff, if_true]
      exact h2 _ _ G1 rfl hR1 hF1
  rw [if_neg c3] at h1 h2
  simp only [ent, entL, isL_int, isL_rf, isL_long, locS, List.length_cons, List.length_nil, List.cons_append, List.nil_append, List.replicate_succ, List.replicate_zero, Bool.false_eq_true, if_false, if_true, true_and, and_true, Nat.reduceAdd, Nat.reduceSub, Nat.reduceLeDiff, Nat.zero_le, Nat.le_refl, Nat.zero_add, Nat.add_zero, bI_0, bI_1, bI_n, Nat.reduceEqDiff, false_and, and_false, and_self, e_31_57, e_31_58, e_31_60, e_31_63, e_31_66, e_31_67, q1, e5, s_hlds hR tok_ge A5 w5, hld_wd isW_Apart, c3, not_false_iff]
  by_cases c5 : wd T L s wApart = true
  · rw [if_pos c5] at h1 h2
    rw [wd_tok isW_Apart c5] at hR
    simp only [ent, entL, isL_int, isL_rf, isL_long, locS, List.length_cons, List.length_nil, List.cons_append, List.nil_append, List.replicate_succ, List.replicate_zero, Bool.false_eq_true, if_false, if_true, true_and, and_true, Nat.reduceAdd, Nat.reduceSub, Nat.reduceLeDiff, Nat.zero_le, Nat.le_refl, Nat.zero_add, Nat.add_zero, bI_0, bI_1, bI_n, Nat.reduceEqDiff, false_and, and_false, and_self, e_31_68, e_31_69, e_31_71, c5, not_true, q1, e6]
    refine s_stepTo hR A6 w6 fun G1 hR1 hF1 => ?_
    change RD G1 r b T L (tokE T L (nt T L (s + 5))) (nt T L (s + 5)) at hR1
    obtain ⟨a7, e7, A7⟩ := (hS.rf hF1) 7 (by decide)
    change SA G1 wTurn a7 at A7
    have p1 := hR1.1
    simp only [ent, entL, isL_int, isL_rf, isL_long, locS, List.length_cons, List.length_nil, List.cons_append, List.nil_append, List.replicate_succ, List.replicate_zero, Bool.false_eq_true, if_false, if_true, true_and, and_true, Nat.reduceAdd, Nat.reduceSub, Nat.reduceLeDiff, Nat.zero_le, Nat.le_refl, Nat.zero_add, Nat.add_zero, bI_0, bI_1, bI_n, Nat.reduceEqDiff, false_and, and_false, and_self, e_31_74, e_31_77, e_31_78, e_31_79, e_31_80, e_31_82, e_31_85, e_31_88, e_31_89, e_31_92, e_31_93, e7, p1, s_hlds hR1 tok_ge A7 w7, hld_wd isW_Turn]
    change (if ¬ hld T L (nt T L (s + 5)) (tokE T L (nt T L (s + 5))) wLike = true then _ else _)
    rw [hld_wd isW_Like]
    by_cases c6 : wd T L (nt T L (s + 5)) wLike = true
    · rw [if_pos c6] at h1
      simp only [c6, not_true, if_false]
      refine h1 1 (nt T L (s + 5) + 4) (nt T L (s + 5)) G1 rfl ?_ hF1
      rw [wd_tok isW_Like c6] at hR1
      exact hR1
    · rw [if_neg c6] at h1 h2
      simp only [c6, not_false_iff, if_true]
      by_cases c7 : wd T L (nt T L (s + 5)) wTurn = true
      · rw [if_pos c7] at h1
        simp only [c7, not_true, if_false]
        refine h1 2 (nt T L (s + 5) + 4) (nt T L (s + 5)) G1 rfl ?_ hF1
        rw [wd_tok isW_Turn c7] at hR1
        exact hR1
      · rw [if_neg c7] at h2
        simp only [c7, not_false_iff, if_true]
        exact h2 _ _ G1 rfl hR1 hF1
  · rw [if_neg c5] at h2
    simp only [c5, not_false_iff, if_true]
    exact h2 _ _ G rfl hR RF.rf
end
