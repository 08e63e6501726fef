/-! THE CONSTRUCTORS: the reference's -/
section
variable {G : Mem}
set_option maxRecDepth 8000 in
set_option maxHeartbeats 4000000 in
theorem d_init {d m : Nat} {Q : Rt} (h : ∀ G', PL m 0 (mG G m) G' → Q none G' (m + 24)) : CALL (d + 1) 85 [va_rf (some m)] (nO G m 8) (m + 1) Q := by
  rw [CALL_eq]
  simp only [mxE_85, ent, entL, isL_int, isL_rf, isL_long, locS, List.length_cons, List.length_nil, List.cons_append, List.nil_append, List.replicate_succ, List.replicate_zero, Bool.false_eq_true, if_false, if_true, true_and, and_true, Nat.reduceAdd, Nat.reduceSub, Nat.reduceLeDiff, Nat.zero_le, Nat.le_refl, Nat.zero_add, Nat.add_zero, bI_0, bI_1, bI_n, Nat.reduceEqDiff, false_and, and_false, and_self, e_85_0, e_85_1, e_85_4, e_85_5, e_85_7, e_85_9, e_85_12, e_85_13, e_85_15, e_85_17, e_85_20, e_85_21, e_85_23, e_85_25, e_85_28, e_85_29, e_85_31, e_85_33, e_85_36, e_85_37, e_85_39, e_85_41, e_85_44, e_85_45, e_85_47, e_85_49, e_85_52, e_85_53, e_85_55, e_85_57, e_85_60, e_85_61, e_85_63, e_85_65, e_85_68, e_85_69, e_85_71, e_85_73, e_85_76, e_85_77, e_85_80, e_85_82, e_85_85, e_85_86, e_85_89, e_85_91, e_85_94, e_85_95, e_85_98, e_85_100, e_85_103, e_85_104, e_85_105, e_85_108, e_85_109, e_85_111, e_85_113, e_85_116, e_85_117, e_85_119, e_85_121, e_85_124, e_85_125, e_85_127, e_85_129, e_85_132, e_85_133, e_85_135, e_85_137, e_85_140, e_85_141, e_85_144, e_85_146, e_85_149, e_85_150, e_85_153, e_85_155, e_85_158, e_85_159, e_85_162, e_85_164, e_85_167, e_85_168, e_85_170, e_85_172, e_85_175, e_85_176, e_85_178, e_85_180, e_85_183, e_85_184, e_85_186, e_85_188, e_85_191, e_85_192, e_85_195, e_85_197, e_85_200, e_85_201, memS, litN, Nat.add_assoc, Nat.left_eq_add, not_false_iff]
  exact l_places (by decide) (by decide) 2400 0 _ (by decide) mG_ms h
theorem mG_rm {m : Nat} {G' : Mem} (h : PL m 0 (mG G m) G') : RM G' m S0 := by
  obtain ⟨p1, p2, p3, p4, p5, p6⟩ := h
  refine ⟨?_, ?_, ?_, fun c hc => absurd hc (Nat.not_lt_zero _)⟩
  · simp only [MS, p1, p2, p4]; exact mG_ms
  · simp only [MN, p3]; simp [mG, memS, S0, sN, sF]; decide
  · simp only [MA, p5]
    refine ⟨?_, ?_, ?_, ?_, ?_, ?_, ?_, ?_, ?_, ?_, ?_⟩
    · intro i; simp [mG, memS, S0, sI]
    · intro i; simp [mG, memS, S0, sI]
    · intro i; simp [mG, memS, S0, sI]
    · intro i; simp [mG, memS, S0, sI]
    · intro i; simp [mG, memS, S0, sI]
    · intro i; simp [mG, memS, S0, sI]
    · intro i; simp [mG, memS, S0, sI]
    · intro i; simp [mG, memS, S0, sI]
    · intro i; simp [mG, memS, S0, sI]
    · intro t w ht hw
      rw [if_pos ⟨trivial, Nat.zero_le _, by omega⟩]
      rfl
    · intro i; simp [mG, memS, S0, sT]
theorem PL.ex {m z : Nat} {G1 G' : Mem} (h : PL m 0 G1 G') (hz : z ≤ m) : EX z G1 G' := by
  obtain ⟨p1, p2, p3, p4, p5, p6⟩ := h
  intro a ha
  exact ⟨p1 a, p2 a, fun c k => p3 c k a, fun c k => p4 c k a, fun i => by rw [p5, if_neg (fun q => by omega)], fun i => p6 a i⟩
theorem mG_bd {m : Nat} {G' : Mem} (h : PL m 0 (mG G m) G') (hb : Bd G m) : Bd G' (m + 24) := by
  intro a q
  rw [h.1] at q
  by_cases e2 : m + 24 ≤ a
  · have : mK (mG G m) a = mK G a := by
      simp [mG, memS, show ¬ a = m by omega, show ¬ a = m + 1 by omega, show ¬ a = m + 2 by omega, show ¬ a = m + 3 by omega, show ¬ a = m + 4 by omega, show ¬ a = m + 5 by omega, show ¬ a = m + 6 by omega, show ¬ a = m + 7 by omega, show ¬ a = m + 8 by omega, show ¬ a = m + 9 by omega, show ¬ a = m + 10 by omega, show ¬ a = m + 11 by omega, show ¬ a = m + 12 by omega, show ¬ a = m + 13 by omega, show ¬ a = m + 14 by omega, show ¬ a = m + 15 by omega, show ¬ a = m + 16 by omega, show ¬ a = m + 17 by omega, show ¬ a = m + 18 by omega, show ¬ a = m + 19 by omega, show ¬ a = m + 20 by omega, show ¬ a = m + 21 by omega, show ¬ a = m + 22 by omega, show ¬ a = m + 23 by omega]
    rw [this] at q
    have := hb a q
    omega
  · omega
/-- the reference's cells are left alone by the class -/
theorem RM.fo {G1 G' : Mem} {x z : Nat} {S : St} (h : RM G1 (x + 12) S) (hz : x + 36 ≤ z) (q : FO x z G1 G') : RM G' (x + 12) S := by
  obtain ⟨h1, h2, h3, h4⟩ := h
  obtain ⟨q1, q2, q3⟩ := q
  have k0 := q1 (x + 12) (by omega)
  have kk : ∀ k, k ≤ 23 → mK G' (x + 12 + k) = mK G1 (x + 12 + k) := fun k hk => (q1 _ (by omega)).1
  have nn : ∀ k, k ≤ 23 → mN G' (x + 12 + k) = mN G1 (x + 12 + k) := fun k hk => (q1 _ (by omega)).2
  have ii : ∀ k, mI G' 8 k (x + 12) = mI G1 8 k (x + 12) := fun k => (q2 8 k _ (by omega) (by omega)).1
  have rr : ∀ k, mR G' 8 k (x + 12) = mR G1 8 k (x + 12) := fun k => (q2 8 k _ (by omega) (by omega)).2
  have ee : ∀ k i, k ≤ 23 → mE G' (x + 12 + k) i = mE G1 (x + 12 + k) i := fun k i hk => q3 _ i (by omega) (Or.inl (by omega))
  refine ⟨?_, ?_, ?_, ?_⟩
  · simp only [MS, k0.1, rr, kk 1 (by omega), nn 1 (by omega), kk 2 (by omega), nn 2 (by omega), kk 3 (by omega), nn 3 (by omega), kk 4 (by omega), nn 4 (by omega), kk 5 (by omega), nn 5 (by omega), kk 6 (by omega), nn 6 (by omega), kk 7 (by omega), nn 7 (by omega), kk 8 (by omega), nn 8 (by omega), kk 9 (by omega), nn 9 (by omega), kk 10 (by omega), nn 10 (by omega), kk 11 (by omega), nn 11 (by omega), kk 12 (by omega), nn 12 (by omega), kk 13 (by omega), nn 13 (by omega), kk 14 (by omega), nn 14 (by omega), kk 15 (by omega), nn 15 (by omega), kk 16 (by omega), nn 16 (by omega), kk 17 (by omega), nn 17 (by omega), kk 18 (by omega), nn 18 (by omega), kk 19 (by omega), nn 19 (by omega), kk 20 (by omega), nn 20 (by omega), kk 21 (by omega), nn 21 (by omega), kk 22 (by omega), nn 22 (by omega), kk 23 (by omega), nn 23 (by omega)]; exact h1
  · simp only [MN, ii]; exact h2
  · simp only [MA, ee 1 _ (by omega), ee 2 _ (by omega), ee 3 _ (by omega), ee 4 _ (by omega), ee 5 _ (by omega), ee 6 _ (by omega), ee 7 _ (by omega), ee 8 _ (by omega), ee 9 _ (by omega), ee 10 _ (by omega), ee 11 _ (by omega), ee 12 _ (by omega), ee 13 _ (by omega), ee 14 _ (by omega), ee 15 _ (by omega), ee 16 _ (by omega), ee 17 _ (by omega), ee 18 _ (by omega), ee 19 _ (by omega), ee 20 _ (by omega), ee 21 _ (by omega), ee 22 _ (by omega), ee 23 _ (by omega)]; exact h3
  · simp only [MC, ee 1 _ (by omega), ee 2 _ (by omega), ee 3 _ (by omega), ee 4 _ (by omega), ee 5 _ (by omega), ee 6 _ (by omega), ee 7 _ (by omega), ee 8 _ (by omega), ee 9 _ (by omega), ee 10 _ (by omega), ee 11 _ (by omega), ee 12 _ (by omega), ee 13 _ (by omega), ee 14 _ (by omega), ee 15 _ (by omega), ee 16 _ (by omega), ee 17 _ (by omega), ee 18 _ (by omega), ee 19 _ (by omega), ee 20 _ (by omega), ee 21 _ (by omega), ee 22 _ (by omega), ee 23 _ (by omega)]; exact h4
end
