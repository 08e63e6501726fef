/-! THE CONSTRUCTORS -/
section
variable {G : Mem}
/-- the memory behind the class's constructor -/
def xG (G : Mem) (x : Nat) : Mem :=
  pI (pR (pI (pR (nA (pR (nA (pR (nA (pR (nA (pR (nA (nO (pR (pR (nA (nO (pR (nA (pR (nA (pR (nA (nO G x 7) (x + 1) 24 40) 7 0 x (some (x + 1))) (x + 2) 23 10) 7 1 x (some (x + 2))) (x + 3) 21 600) 7 2 x (some (x + 3))) (x + 4) 1) (x + 5) 24 9) 1 0 (x + 4) (some (x + 5))) 7 3 x (some (x + 4))) (x + 6) 0)
    (x + 7) 22 9) 0 0 (x + 6) (some (x + 7))) (x + 8) 22 9) 0 1 (x + 6) (some (x + 8))) (x + 9) 20 9) 0 2 (x + 6) (some (x + 9))) (x + 10) 20 4608) 0 3 (x + 6) (some (x + 10))) (x + 11) 20 9) 0 4 (x + 6) (some (x + 11))) 0 6 (x + 6) (-1)) 7 4 x (some (x + 6))) 7 11 x (-1)
set_option maxRecDepth 8000 in
set_option maxHeartbeats 2000000 in
theorem c_init {d x : Nat} {Q : Rt} (h : Q none (xG G x) (x + 12)) : CALL (d + 2) 48 [va_rf (some x)] (nO G x 7) (x + 1) Q := by
  rw [CALL_eq]
  simp only [mxE_48, ent, entL, isL_int, isL_rf, isL_long, locS, List.length_cons, List.length_nil, List.cons_append, List.nil_append, List.replicate_succ, List.replicate_zero, Bool.false_eq_true, if_false, if_true, true_and, and_true, Nat.reduceAdd, Nat.reduceSub, Nat.reduceLeDiff, Nat.zero_le, Nat.le_refl, Nat.zero_add, Nat.add_zero, bI_0, bI_1, bI_n, Nat.reduceEqDiff, false_and, and_false, and_self, e_48_0, e_48_1, e_48_4, e_48_5, e_48_7, e_48_10, e_48_13, e_48_14, e_48_16, e_48_19, e_48_22, e_48_23, e_48_26, e_48_28, e_48_31, e_48_32, e_48_35, e_48_36, e_48_39, e_48_42, e_48_43, e_48_46, e_48_47, e_48_50, e_48_53, e_48_54, e_48_55, e_48_58, memS]
  exact True.intro
end
