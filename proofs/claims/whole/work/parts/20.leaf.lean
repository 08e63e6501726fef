/-! small methods -/
/-- a truth as the machine has it -/
def bI (p : Prop) [Decidable p] : Int32 := if p then 1 else 0
theorem bI_0 {p : Prop} [Decidable p] : (bI p = 0) = ¬ p := by
  unfold bI; by_cases h : p <;> simp [h]
theorem bI_1 {p : Prop} [Decidable p] : (bI p = 1) = p := by
  unfold bI; by_cases h : p <;> simp [h]
theorem bI_n {p : Prop} [Decidable p] : (narrow .boolean (.int (bI p)) = .int (bI p)) = True := by
  unfold bI; by_cases h : p <;> simp [h] <;> decide
theorem nz_0 : (narrow .boolean (.int 0) = .int 0) = True := by simp; decide
theorem nz_1 : (narrow .boolean (.int 1) = .int 1) = True := by simp; decide
set_option maxRecDepth 4000 in
theorem s_isWithin {d : Nat} {v a b : Int32} {G : Mem} {z : Nat} {Q : Rt} : CALL (d + 1) 68 [.int v, .int a, .int b] G z Q = Q (some (.int (bI (a ≤ v ∧ v ≤ b)))) G z := by
  rw [CALL_eq]
  simp only [mxE_68, ent, entL, isL_int, isL_rf, isL_long, locS, List.length_cons, List.length_nil, List.cons_append, List.nil_append, List.replicate_succ, List.replicate_zero, Bool.false_eq_true, if_false, if_true, true_and, and_true, Nat.reduceAdd, Nat.reduceSub, Nat.reduceLeDiff, Nat.zero_le, Nat.le_refl, Nat.zero_add, Nat.add_zero, bI_0, bI_1, bI_n, Nat.reduceEqDiff, false_and, and_false, and_self, e_68_0, e_68_1, e_68_2, e_68_5, e_68_6, e_68_7, e_68_10, e_68_11, e_68_14, e_68_15, nz_0, nz_1]
  unfold bI
  by_cases h1 : a ≤ v
  · by_cases h2 : v ≤ b
    · have h3 : ¬ v < a := by simpa using h1
      have h4 : ¬ b < v := by simpa using h2
      simp [h1, h2, h3, h4]
    · have h3 : ¬ v < a := by simpa using h1
      have h4 : b < v := by simpa using h2
      simp [h1, h2, h3, h4]
  · have h3 : v < a := by simpa using h1
    simp [h1, h3]
