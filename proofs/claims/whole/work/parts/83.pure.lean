/-! the claim's pure part -/
set_option maxRecDepth 8000 in
theorem pure_goal : PureGoal := by
  intro G z b L xs hL hk hn he hb hS hB
  show WP 12 137 (fun r _ _ => r = some (.int 1)) 0 [some (va_rf (some b)), none, none, none] [] G z 0 0
  simp only [ent, entL, isL_int, isL_rf, isL_long, locS, List.length_cons, List.length_nil, List.cons_append, List.nil_append, List.replicate_succ, List.replicate_zero, Bool.false_eq_true, if_false, if_true, true_and, and_true, Nat.reduceAdd, Nat.reduceSub, Nat.reduceLeDiff, Nat.zero_le, Nat.le_refl, Nat.zero_add, Nat.add_zero, bI_0, bI_1, bI_n, Nat.reduceEqDiff, false_and, and_false, and_self, e_137_0, e_137_3, e_137_4]
  refine c_init ?_
  simp only [ent, entL, isL_int, isL_rf, isL_long, locS, List.length_cons, List.length_nil, List.cons_append, List.nil_append, List.replicate_succ, List.replicate_zero, Bool.false_eq_true, if_false, if_true, true_and, and_true, Nat.reduceAdd, Nat.reduceSub, Nat.reduceLeDiff, Nat.zero_le, Nat.le_refl, Nat.zero_add, Nat.add_zero, bI_0, bI_1, bI_n, Nat.reduceEqDiff, false_and, and_false, and_self, e_137_7, e_137_8, e_137_11, e_137_12]
  refine d_init (m := z + 12) fun G1 hP => ?_
  simp only [ent, entL, isL_int, isL_rf, isL_long, locS, List.length_cons, List.length_nil, List.cons_append, List.nil_append, List.replicate_succ, List.replicate_zero, Bool.false_eq_true, if_false, if_true, true_and, and_true, Nat.reduceAdd, Nat.reduceSub, Nat.reduceLeDiff, Nat.zero_le, Nat.le_refl, Nat.zero_add, Nat.add_zero, bI_0, bI_1, bI_n, Nat.reduceEqDiff, false_and, and_false, and_self, e_137_15, e_137_16, e_137_17]
  have hB1 : Bd (xG G z) (z + 12) := xG_bd hB
  have hE1 : EX (z + 12) (xG G z) G1 := EX.tr (Nat.le_refl _) mG_ex (hP.ex (Nat.le_refl _))
  have hE0 : EX z G G1 := EX.tr (by omega) xG_ex hE1
  have hW : Wd G1 (z + 12 + 24) z b L xs S0 := ⟨⟨fun _ => 0, fun _ => 0, fun _ => 0, xG_rx.ex hB1 hE1⟩, mG_rm hP, inv_S0, invT_S0, mG_bd hP hB1, by omega, hb, (show SCo G b L xs from ⟨hk, hn, he⟩).ex hb hE0, hS.ex hE0⟩
  exact l_law hL 512 0 G1 (z + 12 + 24) _ _ S0 rfl hW (by decide) (by decide)
