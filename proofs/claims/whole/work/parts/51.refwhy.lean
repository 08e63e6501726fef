/-! THE REFERENCE: why -/
theorem any_s (p : Nat → Bool) (k : Nat) : (List.range (k + 1)).any p = ((List.range k).any p || p k) := by
  rw [List.range_succ, List.any_append]; simp
theorem pI_s (p : Nat) : pInt (some p) = nI p := rfl
theorem pI_n : pInt none = -1 := rfl
theorem frc_lt {S : St} {t w k : Nat} : ∀ c, frc S t w k = some c → c < sN S 3 := fun c h => (inF_lt h).1
section
variable {G : Mem} {m : Nat} {S : St}
theorem mlD_sym (hI : Inv S) {a b : Nat} (ha : a < sN S 2) (hb : b < sN S 2) : mlD S a b = mlD S b a := by
  obtain ⟨p, hp, e1⟩ := hI.2.2.2.2.2.2.2.2.2.1 a ha
  obtain ⟨q, hq, e2⟩ := hI.2.2.2.2.2.2.2.2.2.1 b hb
  unfold mlD
  rw [e1, e2]
  exact ab_sym (by omega) (by omega)
theorem awy8 {k w : Nat} (hk : k < 60) (hw : w < 60) : (awy k w < 8) = (k < w + 8 ∧ w < k + 8) := by
  unfold awy
  rw [ab_nn (by omega) (by omega), show (8 : Int32) = nI 8 from rfl, n_lt (by split <;> omega) (by decide)]
  refine propext ?_
  split <;> omega
set_option maxRecDepth 8000 in
set_option maxHeartbeats 1000000 in
theorem l_why1 (hM : RM G m S) (hI : Inv S) {d z t h w : Nat} {R : Rt} {o : Option Nat} (ho : ∀ c, o = some c → c < sN S 3) (ht : t < sN S 1) (hh : h < sN S 2) (hw : w < 60)
    (hK : ∀ o9 o10, WP (d + 3) 110 R 232 [some (va_rf (some m)), some (.int (nI t)), some (.int (nI h)), some (.int (nI w)), some (.int (pInt o)), some (.int (bI ((List.range 60).any (fiveS S t h w (stO S o)) = true))), some (.int (bI ((List.range 60).any (sixS S t h w (sN S 0)) = true))), some (.int (bI ((List.range 60).any (nineS S t h w) = true))), some (.int (nI 60)), o9, o10, none, none, none] [] G z 0 0) : ∀ (n k : Nat) (o9 o10 : Option Value), k + n = 60 →
    WP (d + 3) 110 R 106 [some (va_rf (some m)), some (.int (nI t)), some (.int (nI h)), some (.int (nI w)), some (.int (pInt o)), some (.int (bI ((List.range k).any (fiveS S t h w (stO S o)) = true))), some (.int (bI ((List.range k).any (sixS S t h w (sN S 0)) = true))), some (.int (bI ((List.range k).any (nineS S t h w) = true))), some (.int (nI k)), o9, o10, none, none, none] [] G z 0 0 := by
  have hm := hM.1
  have hn := hM.2.1
  have h40 := hI.2.1
  have h10 := hI.2.2.1
  have h59 := hI.1
  intro n
  induction n with
  | zero =>
    intro k o9 o10 hk
    have hk : k = 60 := by omega
    subst hk
    rw [e_110_106]
    simp only [ent, entL, isL_int, isL_rf, isL_long, locS, List.length_cons, List.length_nil, List.cons_append, List.nil_append, List.replicate_succ, List.replicate_zero, Bool.false_eq_true, if_false, if_true, true_and, and_true, Nat.reduceAdd, Nat.reduceSub, Nat.reduceLeDiff, Nat.zero_le, Nat.le_refl, Nat.zero_add, Nat.add_zero, bI_0, bI_1, bI_n, Nat.reduceEqDiff, false_and, and_false, and_self, e_110_108, e_110_110, e_110_113, e_110_114, e_110_115, e_110_117, e_110_120, e_110_122, e_110_124, e_110_125, e_110_128, e_110_131, e_110_133, e_110_134, e_110_135, e_110_138, e_110_140, e_110_142, e_110_145, e_110_146, e_110_148, e_110_149, e_110_151, e_110_153, e_110_156, e_110_159, e_110_160, e_110_163, e_110_164, e_110_166, e_110_168, e_110_171, e_110_172, e_110_173, e_110_174, e_110_176, e_110_177, e_110_180, e_110_183, e_110_184, e_110_186, e_110_188, e_110_191, e_110_194, e_110_195, e_110_198, e_110_199, e_110_201, e_110_203, e_110_206, e_110_208, e_110_209, e_110_212, e_110_214, e_110_216, e_110_219, e_110_220, e_110_223, e_110_224, e_110_226, e_110_229, w60 (Nat.le_refl _), Nat.le_refl, if_true]
    exact hK o9 o10
  | succ n ih =>
    intro k o9 o10 hk
    have hk6 : k < 60 := by omega
    rw [e_110_106]
    simp only [ent, entL, isL_int, isL_rf, isL_long, locS, List.length_cons, List.length_nil, List.cons_append, List.nil_append, List.replicate_succ, List.replicate_zero, Bool.false_eq_true, if_false, if_true, true_and, and_true, Nat.reduceAdd, Nat.reduceSub, Nat.reduceLeDiff, Nat.zero_le, Nat.le_refl, Nat.zero_add, Nat.add_zero, bI_0, bI_1, bI_n, Nat.reduceEqDiff, false_and, and_false, and_self, e_110_108, e_110_110, e_110_113, e_110_114, e_110_115, e_110_117, e_110_120, e_110_122, e_110_124, e_110_125, e_110_128, e_110_131, e_110_133, e_110_134, e_110_135, e_110_138, hm, hn, w60 (show k ≤ 60 by omega), show ¬ 60 ≤ k by omega, if_false, r_hallOf hM (show t < 40 by omega) hk6, n_1]
    cases hp : sP S t k with
    | none =>
      have nx := ih (k + 1) (some (.int (-1))) o10 (by omega)
      have e1 : fiveS S t h w (stO S o) k = false := by simp only [fiveS, hp]
      have e2 : sixS S t h w (sN S 0) k = false := by simp only [sixS, hp]
      have e3 : nineS S t h w k = false := by simp [nineS, hp]
      simp only [any_s, e1, e2, e3, Bool.or_false] at nx
      simp only [pI_n, if_true, ent, entL, isL_int, isL_rf, isL_long, locS, List.length_cons, List.length_nil, List.cons_append, List.nil_append, List.replicate_succ, List.replicate_zero, Bool.false_eq_true, if_false, if_true, true_and, and_true, Nat.reduceAdd, Nat.reduceSub, Nat.reduceLeDiff, Nat.zero_le, Nat.le_refl, Nat.zero_add, Nat.add_zero, bI_0, bI_1, bI_n, Nat.reduceEqDiff, false_and, and_false, and_self, e_110_226, e_110_229, n_1]
      exact nx
    | some p =>
      have hp2 := (hI.2.2.2.2.2.2.1 t k p hp).2
      have nx := ih (k + 1) (some (.int (nI p))) (some (.int (awy k w))) (by omega)
      have e1 : fiveS S t h w (stO S o) k = brs (stO S o) (mlD S h p) (awy k w) := by simp only [fiveS, hp]; rw [mlD_sym hI hp2 hh]
      have e2 : sixS S t h w (sN S 0) k = brs (stO S (frc S t k (sN S 0))) (mlD S h p) (awy k w) := by simp only [sixS, hp]; rw [mlD_sym hI hp2 hh]
      have e3 : nineS S t h w k = decide (p = h ∧ awy k w < 8) := by simp only [nineS, hp, Option.some.injEq, awy8 hk6 hw]
      simp only [any_s, e1, e2, e3] at nx
      simp only [pI_s, n_m1 (show p < 2 ^ 31 by omega), if_false, hab, show ab (nI k - nI w) = awy k w from rfl]
      have fin : ∀ A B : Bool, (A = ((List.range k).any (fiveS S t h w (stO S o)) || brs (stO S o) (mlD S h p) (awy k w))) → (B = ((List.range k).any (sixS S t h w (sN S 0)) || brs (stO S (frc S t k (sN S 0))) (mlD S h p) (awy k w))) →
          WP (d + 3) 110 R 201 [some (va_rf (some m)), some (.int (nI t)), some (.int (nI h)), some (.int (nI w)), some (.int (pInt o)), some (.int (bI (A = true))), some (.int (bI (B = true))), some (.int (bI ((List.range k).any (nineS S t h w) = true))), some (.int (nI k)), some (.int (nI p)), some (.int (awy k w)), none, none, none] [] G z 0 0 := by
        intro A B hA hB
        rw [← hA, ← hB] at nx
        simp only [ent, entL, isL_int, isL_rf, isL_long, locS, List.length_cons, List.length_nil, List.cons_append, List.nil_append, List.replicate_succ, List.replicate_zero, Bool.false_eq_true, if_false, if_true, true_and, and_true, Nat.reduceAdd, Nat.reduceSub, Nat.reduceLeDiff, Nat.zero_le, Nat.le_refl, Nat.zero_add, Nat.add_zero, bI_0, bI_1, bI_n, Nat.reduceEqDiff, false_and, and_false, and_self, e_110_201, e_110_203, e_110_206, e_110_208, e_110_209, e_110_212, e_110_214, e_110_216, e_110_219, e_110_220, e_110_223, e_110_224, e_110_226, e_110_229, n_1, n_eq (show p < 2 ^ 31 by omega) (show h < 2 ^ 31 by omega)]
        cases hc : (List.range k).any (nineS S t h w) with
        | true => simp only [hc, Bool.true_or, bI, if_true, not_true, if_false] at nx ⊢; exact nx
        | false =>
          simp only [hc, Bool.false_or, bI, Bool.false_eq_true, not_false_iff, if_true, if_false, decide_eq_true_eq] at nx ⊢
          by_cases c1 : p = h
          · by_cases c2 : awy k w < 8
            · have c2' : ¬ 8 ≤ awy k w := by rw [not_le']; exact c2
              simp only [c1, c2, c2', and_self, if_true, if_false] at nx ⊢; exact nx
            · have c2' : 8 ≤ awy k w := by rw [← not_lt']; exact c2
              simp only [c1, c2, c2', and_false, if_true, if_false] at nx ⊢; exact nx
          · simp only [c1, false_and, if_false] at nx ⊢; exact nx
      have fin2 : ∀ A : Bool, (A = ((List.range k).any (fiveS S t h w (stO S o)) || brs (stO S o) (mlD S h p) (awy k w))) →
          WP (d + 3) 110 R 166 [some (va_rf (some m)), some (.int (nI t)), some (.int (nI h)), some (.int (nI w)), some (.int (pInt o)), some (.int (bI (A = true))), some (.int (bI ((List.range k).any (sixS S t h w (sN S 0)) = true))), some (.int (bI ((List.range k).any (nineS S t h w) = true))), some (.int (nI k)), some (.int (nI p)), some (.int (awy k w)), none, none, none] [] G z 0 0 := by
        intro A hA
        simp only [ent, entL, isL_int, isL_rf, isL_long, locS, List.length_cons, List.length_nil, List.cons_append, List.nil_append, List.replicate_succ, List.replicate_zero, Bool.false_eq_true, if_false, if_true, true_and, and_true, Nat.reduceAdd, Nat.reduceSub, Nat.reduceLeDiff, Nat.zero_le, Nat.le_refl, Nat.zero_add, Nat.add_zero, bI_0, bI_1, bI_n, Nat.reduceEqDiff, false_and, and_false, and_self, e_110_166, e_110_168, e_110_171, e_110_172, e_110_173, e_110_174, e_110_176, e_110_177, e_110_180, e_110_183, e_110_184, e_110_186, e_110_188, e_110_191, e_110_194, e_110_195, e_110_198, e_110_199, hm, hn]
        cases hc : (List.range k).any (sixS S t h w (sN S 0)) with
        | true =>
          simp only [not_true, if_false]
          exact fin A true hA (by rw [hc]; rfl)
        | false =>
          simp only [Bool.false_eq_true, not_false_iff, if_true]
          refine r_inForce hM hI (by omega) hk6 (by omega) ?_
          simp only [ent, entL, isL_int, isL_rf, isL_long, locS, List.length_cons, List.length_nil, List.cons_append, List.nil_append, List.replicate_succ, List.replicate_zero, Bool.false_eq_true, if_false, if_true, true_and, and_true, Nat.reduceAdd, Nat.reduceSub, Nat.reduceLeDiff, Nat.zero_le, Nat.le_refl, Nat.zero_add, Nat.add_zero, bI_0, bI_1, bI_n, Nat.reduceEqDiff, false_and, and_false, and_self, e_110_166, e_110_168, e_110_171, e_110_172, e_110_173, e_110_174, e_110_176, e_110_177, e_110_180, e_110_183, e_110_184, e_110_186, e_110_188, e_110_191, e_110_194, e_110_195, e_110_198, e_110_199, hm]
          refine r_bars hM hI frc_lt hh hp2 ?_
          simp only [ent, entL, isL_int, isL_rf, isL_long, locS, List.length_cons, List.length_nil, List.cons_append, List.nil_append, List.replicate_succ, List.replicate_zero, Bool.false_eq_true, if_false, if_true, true_and, and_true, Nat.reduceAdd, Nat.reduceSub, Nat.reduceLeDiff, Nat.zero_le, Nat.le_refl, Nat.zero_add, Nat.add_zero, bI_0, bI_1, bI_n, Nat.reduceEqDiff, false_and, and_false, and_self, e_110_166, e_110_168, e_110_171, e_110_172, e_110_173, e_110_174, e_110_176, e_110_177, e_110_180, e_110_183, e_110_184, e_110_186, e_110_188, e_110_191, e_110_194, e_110_195, e_110_198, e_110_199]
          cases hb : brs (stO S (frc S t k (sN S 0))) (mlD S h p) (awy k w) with
          | true => simp only [not_true, if_false]; exact fin A true hA (by rw [hc, hb]; rfl)
          | false => simp only [Bool.false_eq_true, not_false_iff, if_true]; exact fin A false hA (by rw [hc, hb]; rfl)
      simp only [ent, entL, isL_int, isL_rf, isL_long, locS, List.length_cons, List.length_nil, List.cons_append, List.nil_append, List.replicate_succ, List.replicate_zero, Bool.false_eq_true, if_false, if_true, true_and, and_true, Nat.reduceAdd, Nat.reduceSub, Nat.reduceLeDiff, Nat.zero_le, Nat.le_refl, Nat.zero_add, Nat.add_zero, bI_0, bI_1, bI_n, Nat.reduceEqDiff, false_and, and_false, and_self, e_110_140, e_110_142, e_110_145, e_110_146, e_110_148, e_110_149, e_110_151, e_110_153, e_110_156, e_110_159, e_110_160, e_110_163, e_110_164, hm]
      cases hc : (List.range k).any (fiveS S t h w (stO S o)) with
      | true =>
        simp only [not_true, if_false]
        exact fin2 true (by rw [hc]; rfl)
      | false =>
        simp only [Bool.false_eq_true, not_false_iff, if_true]
        refine r_bars hM hI ho hh hp2 ?_
        simp only [ent, entL, isL_int, isL_rf, isL_long, locS, List.length_cons, List.length_nil, List.cons_append, List.nil_append, List.replicate_succ, List.replicate_zero, Bool.false_eq_true, if_false, if_true, true_and, and_true, Nat.reduceAdd, Nat.reduceSub, Nat.reduceLeDiff, Nat.zero_le, Nat.le_refl, Nat.zero_add, Nat.add_zero, bI_0, bI_1, bI_n, Nat.reduceEqDiff, false_and, and_false, and_self, e_110_108, e_110_110, e_110_113, e_110_114, e_110_115, e_110_117, e_110_120, e_110_122, e_110_124, e_110_125, e_110_128, e_110_131, e_110_133, e_110_134, e_110_135, e_110_138, e_110_140, e_110_142, e_110_145, e_110_146, e_110_148, e_110_149, e_110_151, e_110_153, e_110_156, e_110_159, e_110_160, e_110_163, e_110_164]
        cases hb : brs (stO S o) (mlD S h p) (awy k w) with
        | true => simp only [not_true, if_false]; exact fin2 true (by rw [hc, hb]; rfl)
        | false => simp only [Bool.false_eq_true, not_false_iff, if_true]; exact fin2 false (by rw [hc, hb]; rfl)
end
