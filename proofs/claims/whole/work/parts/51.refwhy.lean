/-! THE REFERENCE: why -/
theorem any_s (p : Nat → Bool) (k : Nat) : (List.range (k + 1)).any p = ((List.range k).any p || p k) := by
  rw [List.range_succ, List.any_append]; simp
theorem pI_s (p : Nat) : pInt (some p) = nI p := rfl
theorem pI_n : pInt none = -1 := rfl
theorem frc_lt {S : St} {t w k : Nat} : ∀ c, frc S t w k = some c → c < sN S 3 := fun c h => (inF_lt h).1
section
variable {G : Mem} {m : Nat} {S : St}
theorem mlD_sym (hI : Inv S) {a b : Nat} (ha : a < sN S 2) (hb : b < sN S 2) : mlD S a b = mlD S b a := by
  obtain ⟨p, hp, e1⟩ := hI.2.2.2.2.2.2.2.2.2.1 a ha
  obtain ⟨q, hq, e2⟩ := hI.2.2.2.2.2.2.2.2.2.1 b hb
  unfold mlD
  rw [e1, e2]
  exact ab_sym (by omega) (by omega)
theorem awy8 {k w : Nat} (hk : k < 60) (hw : w < 60) : (awy k w < 8) = (k < w + 8 ∧ w < k + 8) := by
  unfold awy
  rw [ab_nn (by omega) (by omega), show (8 : Int32) = nI 8 from rfl, n_lt (by split <;> omega) (by decide)]
  refine propext ?_
  split <;> omega
set_option maxRecDepth 8000 in
set_option maxHeartbeats 1000000 in
theorem l_why1 (hM : RM G m S) (hI : Inv S) {d z t h w : Nat} {R : Rt} {o : Option Nat} (ho : ∀ c, o = some c → c < sN S 3) (ht : t < sN S 1) (hh : h < sN S 2) (hw : w < 60)
    (hK : ∀ o9 o10, WP (d + 3) 110 R 232 [some (va_rf (some m)), some (.int (nI t)), some (.int (nI h)), some (.int (nI w)), some (.int (pInt o)), some (.int (bI ((List.range 60).any (fiveS S t h w (stO S o)) = true))), some (.int (bI ((List.range 60).any (sixS S t h w (sN S 0)) = true))), some (.int (bI ((List.range 60).any (nineS S t h w) = true))), some (.int (nI 60)), o9, o10, none, none, none] [] G z 0 0) : ∀ (n k : Nat) (o9 o10 : Option Value), k + n = 60 →
    WP (d + 3) 110 R 106 [some (va_rf (some m)), some (.int (nI t)), some (.int (nI h)), some (.int (nI w)), some (.int (pInt o)), some (.int (bI ((List.range k).any (fiveS S t h w (stO S o)) = true))), some (.int (bI ((List.range k).any (sixS S t h w (sN S 0)) = true))), some (.int (bI ((List.range k).any (nineS S t h w) = true))), some (.int (nI k)), o9, o10, none, none, none] [] G z 0 0 := by
  have hm := hM.1
  have hn := hM.2.1
  have h40 := hI.2.1
  have h10 := hI.2.2.1
  have h59 := hI.1
  intro n
  induction n with
  | zero =>
    intro k o9 o10 hk
    have hk : k = 60 := by omega
    subst hk
    rw [e_110_106]
    simp only [ent, entL, isL_int, isL_rf, isL_long, locS, List.length_cons, List.length_nil, List.cons_append, List.nil_append, List.replicate_succ, List.replicate_zero, Bool.false_eq_true, if_false, if_true, true_and, and_true, Nat.reduceAdd, Nat.reduceSub, Nat.reduceLeDiff, Nat.zero_le, Nat.le_refl, Nat.zero_add, Nat.add_zero, bI_0, bI_1, bI_n, Nat.reduceEqDiff, false_and, and_false, and_self, e_110_108, e_110_110, e_110_113, e_110_114, e_110_115, e_110_117, e_110_120, e_110_122, e_110_124, e_110_125, e_110_128, e_110_131, e_110_133, e_110_134, e_110_135, e_110_138, e_110_140, e_110_142, e_110_145, e_110_146, e_110_148, e_110_149, e_110_151, e_110_153, e_110_156, e_110_159, e_110_160, e_110_163, e_110_164, e_110_166, e_110_168, e_110_171, e_110_172, e_110_173, e_110_174, e_110_176, e_110_177, e_110_180, e_110_183, e_110_184, e_110_186, e_110_188, e_110_191, e_110_194, e_110_195, e_110_198, e_110_199, e_110_201, e_110_203, e_110_206, e_110_208, e_110_209, e_110_212, e_110_214, e_110_216, e_110_219, e_110_220, e_110_223, e_110_224, e_110_226, e_110_229, w60 (Nat.le_refl _), Nat.le_refl, if_true]
    exact hK o9 o10
  | succ n ih =>
    intro k o9 o10 hk
    have hk6 : k < 60 := by omega
    rw [e_110_106]
    simp only [ent, entL, isL_int, isL_rf, isL_long, locS, List.length_cons, List.length_nil, List.cons_append, List.nil_append, List.replicate_succ, List.replicate_zero, Bool.false_eq_true, if_false, if_true, true_and, and_true, Nat.reduceAdd, Nat.reduceSub, Nat.reduceLeDiff, Nat.zero_le, Nat.le_refl, Nat.zero_add, Nat.add_zero, bI_0, bI_1, bI_n, Nat.reduceEqDiff, false_and, and_false, and_self, e_110_108, e_110_110, e_110_113, e_110_114, e_110_115, e_110_117, e_110_120, e_110_122, e_110_124, e_110_125, e_110_128, e_110_131, e_110_133, e_110_134, e_110_135, e_110_138, hm, hn, w60 (show k ≤ 60 by omega), show ¬ 60 ≤ k by omega, if_false, r_hallOf hM (show t < 40 by omega) hk6, n_1]
    cases hp : sP S t k with
    | none =>
      have nx := ih (k + 1) (some (.int (-1))) o10 (by omega)
      have e1 : fiveS S t h w (stO S o) k = false := by simp only [fiveS, hp]
      have e2 : sixS S t h w (sN S 0) k = false := by simp only [sixS, hp]
      have e3 : nineS S t h w k = false := by simp [nineS, hp]
      simp only [any_s, e1, e2, e3, Bool.or_false] at nx
      simp only [pI_n, if_true, ent, entL, isL_int, isL_rf, isL_long, locS, List.length_cons, List.length_nil, List.cons_append, List.nil_append, List.replicate_succ, List.replicate_zero, Bool.false_eq_true, if_false, if_true, true_and, and_true, Nat.reduceAdd, Nat.reduceSub, Nat.reduceLeDiff, Nat.zero_le, Nat.le_refl, Nat.zero_add, Nat.add_zero, bI_0, bI_1, bI_n, Nat.reduceEqDiff, false_and, and_false, and_self, e_110_226, e_110_229, n_1]
      exact nx
    | some p =>
      have hp2 := (hI.2.2.2.2.2.2.1 t k p hp).2
      have nx := ih (k + 1) (some (.int (nI p))) (some (.int (awy k w))) (by omega)
      have e1 : fiveS S t h w (stO S o) k = brs (stO S o) (mlD S h p) (awy k w) := by simp only [fiveS, hp]; rw [mlD_sym hI hp2 hh]
      have e2 : sixS S t h w (sN S 0) k = brs (stO S (frc S t k (sN S 0))) (mlD S h p) (awy k w) := by simp only [sixS, hp]; rw [mlD_sym hI hp2 hh]
      have e3 : nineS S t h w k = decide (p = h ∧ awy k w < 8) := by simp only [nineS, hp, Option.some.injEq, awy8 hk6 hw]
      simp only [any_s, e1, e2, e3] at nx
      simp only [pI_s, n_m1 (show p < 2 ^ 31 by omega), if_false, hab, show ab (nI k - nI w) = awy k w from rfl]
      have fin : ∀ A B : Bool, (A = ((List.range k).any (fiveS S t h w (stO S o)) || brs (stO S o) (mlD S h p) (awy k w))) → (B = ((List.range k).any (sixS S t h w (sN S 0)) || brs (stO S (frc S t k (sN S 0))) (mlD S h p) (awy k w))) →
          WP (d + 3) 110 R 201 [some (va_rf (some m)), some (.int (nI t)), some (.int (nI h)), some (.int (nI w)), some (.int (pInt o)), some (.int (bI (A = true))), some (.int (bI (B = true))), some (.int (bI ((List.range k).any (nineS S t h w) = true))), some (.int (nI k)), some (.int (nI p)), some (.int (awy k w)), none, none, none] [] G z 0 0 := by
        intro A B hA hB
        rw [← hA, ← hB] at nx
        simp only [ent, entL, isL_int, isL_rf, isL_long, locS, List.length_cons, List.length_nil, List.cons_append, List.nil_append, List.replicate_succ, List.replicate_zero, Bool.false_eq_true, if_false, if_true, true_and, and_true, Nat.reduceAdd, Nat.reduceSub, Nat.reduceLeDiff, Nat.zero_le, Nat.le_refl, Nat.zero_add, Nat.add_zero, bI_0, bI_1, bI_n, Nat.reduceEqDiff, false_and, and_false, and_self, e_110_201, e_110_203, e_110_206, e_110_208, e_110_209, e_110_212, e_110_214, e_110_216, e_110_219, e_110_220, e_110_223, e_110_224, e_110_226, e_110_229, n_1, n_eq (show p < 2 ^ 31 by omega) (show h < 2 ^ 31 by omega)]
        cases hc : (List.range k).any (nineS S t h w) with
        | true => simp only [hc, Bool.true_or, bI, if_true, not_true, if_false] at nx ⊢; exact nx
        | false =>
          simp only [hc, Bool.false_or, bI, Bool.false_eq_true, not_false_iff, if_true, if_false, decide_eq_true_eq] at nx ⊢
          by_cases c1 : p = h
          · by_cases c2 : awy k w < 8
            · have c2' : ¬ 8 ≤ awy k w := by rw [not_le']; exact c2
              simp only [c1, c2, c2', and_self, if_true, if_false] at nx ⊢; exact nx
            · have c2' : 8 ≤ awy k w := by rw [← not_lt']; exact c2
              simp only [c1, c2, c2', and_false, if_true, if_false] at nx ⊢; exact nx
          · simp only [c1, false_and, if_false] at nx ⊢; exact nx
      have fin2 : ∀ A : Bool, (A = ((List.range k).any (fiveS S t h w (stO S o)) || brs (stO S o) (mlD S h p) (awy k w))) →
          WP (d + 3) 110 R 166 [some (va_rf (some m)), some (.int (nI t)), some (.int (nI h)), some (.int (nI w)), some (.int (pInt o)), some (.int (bI (A = true))), some (.int (bI ((List.range k).any (sixS S t h w (sN S 0)) = true))), some (.int (bI ((List.range k).any (nineS S t h w) = true))), some (.int (nI k)), some (.int (nI p)), some (.int (awy k w)), none, none, none] [] G z 0 0 := by
        intro A hA
        simp only [ent, entL, isL_int, isL_rf, isL_long, locS, List.length_cons, List.length_nil, List.cons_append, List.nil_append, List.replicate_succ, List.replicate_zero, Bool.false_eq_true, if_false, if_true, true_and, and_true, Nat.reduceAdd, Nat.reduceSub, Nat.reduceLeDiff, Nat.zero_le, Nat.le_refl, Nat.zero_add, Nat.add_zero, bI_0, bI_1, bI_n, Nat.reduceEqDiff, false_and, and_false, and_self, e_110_166, e_110_168, e_110_171, e_110_172, e_110_173, e_110_174, e_110_176, e_110_177, e_110_180, e_110_183, e_110_184, e_110_186, e_110_188, e_110_191, e_110_194, e_110_195, e_110_198, e_110_199, hm, hn]
        cases hc : (List.range k).any (sixS S t h w (sN S 0)) with
        | true =>
          simp only [not_true, if_false]
          exact fin A true hA (by rw [hc]; rfl)
        | false =>
          simp only [Bool.false_eq_true, not_false_iff, if_true]
          refine r_inForce hM hI (by omega) hk6 (by omega) ?_
          simp only [ent, entL, isL_int, isL_rf, isL_long, locS, List.length_cons, List.length_nil, List.cons_append, List.nil_append, List.replicate_succ, List.replicate_zero, Bool.false_eq_true, if_false, if_true, true_and, and_true, Nat.reduceAdd, Nat.reduceSub, Nat.reduceLeDiff, Nat.zero_le, Nat.le_refl, Nat.zero_add, Nat.add_zero, bI_0, bI_1, bI_n, Nat.reduceEqDiff, false_and, and_false, and_self, e_110_166, e_110_168, e_110_171, e_110_172, e_110_173, e_110_174, e_110_176, e_110_177, e_110_180, e_110_183, e_110_184, e_110_186, e_110_188, e_110_191, e_110_194, e_110_195, e_110_198, e_110_199, hm]
          refine r_bars hM hI frc_lt hh hp2 ?_
          simp only [ent, entL, isL_int, isL_rf, isL_long, locS, List.length_cons, List.length_nil, List.cons_append, List.nil_append, List.replicate_succ, List.replicate_zero, Bool.false_eq_true, if_false, if_true, true_and, and_true, Nat.reduceAdd, Nat.reduceSub, Nat.reduceLeDiff, Nat.zero_le, Nat.le_refl, Nat.zero_add, Nat.add_zero, bI_0, bI_1, bI_n, Nat.reduceEqDiff, false_and, and_false, and_self, e_110_166, e_110_168, e_110_171, e_110_172, e_110_173, e_110_174, e_110_176, e_110_177, e_110_180, e_110_183, e_110_184, e_110_186, e_110_188, e_110_191, e_110_194, e_110_195, e_110_198, e_110_199]
          cases hb : brs (stO S (frc S t k (sN S 0))) (mlD S h p) (awy k w) with
          | true => simp only [not_true, if_false]; exact fin A true hA (by rw [hc, hb]; rfl)
          | false => simp only [Bool.false_eq_true, not_false_iff, if_true]; exact fin A false hA (by rw [hc, hb]; rfl)
      simp only [ent, entL, isL_int, isL_rf, isL_long, locS, List.length_cons, List.length_nil, List.cons_append, List.nil_append, List.replicate_succ, List.replicate_zero, Bool.false_eq_true, if_false, if_true, true_and, and_true, Nat.reduceAdd, Nat.reduceSub, Nat.reduceLeDiff, Nat.zero_le, Nat.le_refl, Nat.zero_add, Nat.add_zero, bI_0, bI_1, bI_n, Nat.reduceEqDiff, false_and, and_false, and_self, e_110_140, e_110_142, e_110_145, e_110_146, e_110_148, e_110_149, e_110_151, e_110_153, e_110_156, e_110_159, e_110_160, e_110_163, e_110_164, hm]
      cases hc : (List.range k).any (fiveS S t h w (stO S o)) with
      | true =>
        simp only [not_true, if_false]
        exact fin2 true (by rw [hc]; rfl)
      | false =>
        simp only [Bool.false_eq_true, not_false_iff, if_true]
        refine r_bars hM hI ho hh hp2 ?_
        simp only [ent, entL, isL_int, isL_rf, isL_long, locS, List.length_cons, List.length_nil, List.cons_append, List.nil_append, List.replicate_succ, List.replicate_zero, Bool.false_eq_true, if_false, if_true, true_and, and_true, Nat.reduceAdd, Nat.reduceSub, Nat.reduceLeDiff, Nat.zero_le, Nat.le_refl, Nat.zero_add, Nat.add_zero, bI_0, bI_1, bI_n, Nat.reduceEqDiff, false_and, and_false, and_self, e_110_108, e_110_110, e_110_113, e_110_114, e_110_115, e_110_117, e_110_120, e_110_122, e_110_124, e_110_125, e_110_128, e_110_131, e_110_133, e_110_134, e_110_135, e_110_138, e_110_140, e_110_142, e_110_145, e_110_146, e_110_148, e_110_149, e_110_151, e_110_153, e_110_156, e_110_159, e_110_160, e_110_163, e_110_164]
        cases hb : brs (stO S o) (mlD S h p) (awy k w) with
        | true => simp only [not_true, if_false]; exact fin2 true (by rw [hc, hb]; rfl)
        | false => simp only [Bool.false_eq_true, not_false_iff, if_true]; exact fin2 false (by rw [hc, hb]; rfl)
theorem sumL_app {f : Nat → Int32} {l : List Nat} {k : Nat} : sumL f (l ++ [k]) = sumL f l + f k := by
  unfold sumL; rw [List.foldl_append]; rfl
theorem any_app {p : Nat → Bool} {l : List Nat} {k : Nat} : (l ++ [k]).any p = (l.any p || p k) := by
  rw [List.any_append]; simp
set_option maxRecDepth 8000 in
set_option maxHeartbeats 1000000 in
theorem l_why2 (hM : RM G m S) (hI : Inv S) {d z t h w : Nat} {R : Rt} {o : Option Nat} {o5 o6 : Option Value} {v7 : Int32} (ho : ∀ c, o = some c → c < sN S 3) (ht : t < sN S 1) (hh : h < sN S 2) (hw : w < 60)
    (hK : ∀ o13, WP (d + 3) 110 R 420 [some (va_rf (some m)), some (.int (nI t)), some (.int (nI h)), some (.int (nI w)), some (.int (pInt o)), o5, o6, some (.int v7), some (.int (bI ((bl S h w).any (fun t' => decide (sI S 2 t' = sI S 2 t)) = true))), some (.int (bI ((bl S h w).any (fun t' => apS S (stO S (frc S t' w (sN S 0))) t || apS S (stO S o) t') = true))), some (.int (nI (bl S h w).length)), some (.int (sI S 0 t + sumL (sI S 0) (bl S h w))), some (.int (nI (sN S 1))), o13] [] G z 0 0) : ∀ (n k : Nat) (o13 : Option Value), k + n = sN S 1 →
    WP (d + 3) 110 R 267 [some (va_rf (some m)), some (.int (nI t)), some (.int (nI h)), some (.int (nI w)), some (.int (pInt o)), o5, o6, some (.int v7), some (.int (bI ((blP S h w k).any (fun t' => decide (sI S 2 t' = sI S 2 t)) = true))), some (.int (bI ((blP S h w k).any (fun t' => apS S (stO S (frc S t' w (sN S 0))) t || apS S (stO S o) t') = true))), some (.int (nI (blP S h w k).length)), some (.int (sI S 0 t + sumL (sI S 0) (blP S h w k))), some (.int (nI k)), o13] [] G z 0 0 := by
  have hm := hM.1
  have hn := hM.2.1
  have h40 := hI.2.1
  have h10 := hI.2.2.1
  have h59 := hI.1
  have hmi := hM.2.2.1.1
  have hli := hM.2.2.1.2.2.1
  intro n
  induction n with
  | zero =>
    intro k o13 hk
    have hk : k = sN S 1 := by omega
    subst hk
    rw [e_110_267]
    simp only [ent, entL, isL_int, isL_rf, isL_long, locS, List.length_cons, List.length_nil, List.cons_append, List.nil_append, List.replicate_succ, List.replicate_zero, Bool.false_eq_true, if_false, if_true, true_and, and_true, Nat.reduceAdd, Nat.reduceSub, Nat.reduceLeDiff, Nat.zero_le, Nat.le_refl, Nat.zero_add, Nat.add_zero, bI_0, bI_1, bI_n, Nat.reduceEqDiff, false_and, and_false, and_self, e_110_269, e_110_270, e_110_273, e_110_276, e_110_277, e_110_279, e_110_280, e_110_283, e_110_284, e_110_287, e_110_290, e_110_293, e_110_295, e_110_296, e_110_299, e_110_301, e_110_302, e_110_303, e_110_305, e_110_307, e_110_310, e_110_311, e_110_314, e_110_316, e_110_317, e_110_318, e_110_321, e_110_322, e_110_323, e_110_326, e_110_327, e_110_330, e_110_331, e_110_333, e_110_334, e_110_336, e_110_337, e_110_338, e_110_341, e_110_344, e_110_346, e_110_348, e_110_351, e_110_352, e_110_354, e_110_355, e_110_356, e_110_359, e_110_361, e_110_362, e_110_365, e_110_368, e_110_369, e_110_371, e_110_372, e_110_374, e_110_377, e_110_380, e_110_381, e_110_383, e_110_384, e_110_385, e_110_388, e_110_389, e_110_390, e_110_393, e_110_396, e_110_397, e_110_399, e_110_400, e_110_401, e_110_404, e_110_407, e_110_408, e_110_411, e_110_412, e_110_414, e_110_417, hm, hn, n_le (show sN S 1 < 2 ^ 31 by omega) (show sN S 1 < 2 ^ 31 by omega), Nat.le_refl, if_true]
    exact hK o13
  | succ n ih =>
    intro k o13 hk
    have hk4 : k < 40 := by omega
    rw [e_110_267]
    simp only [ent, entL, isL_int, isL_rf, isL_long, locS, List.length_cons, List.length_nil, List.cons_append, List.nil_append, List.replicate_succ, List.replicate_zero, Bool.false_eq_true, if_false, if_true, true_and, and_true, Nat.reduceAdd, Nat.reduceSub, Nat.reduceLeDiff, Nat.zero_le, Nat.le_refl, Nat.zero_add, Nat.add_zero, bI_0, bI_1, bI_n, Nat.reduceEqDiff, false_and, and_false, and_self, e_110_269, e_110_270, e_110_273, e_110_276, e_110_277, e_110_279, e_110_280, e_110_283, e_110_284, e_110_287, e_110_290, e_110_293, e_110_295, e_110_296, e_110_299, e_110_301, e_110_302, e_110_303, hm, hn, n_le (show sN S 1 < 2 ^ 31 by omega) (show k < 2 ^ 31 by omega), show ¬ sN S 1 ≤ k by omega, if_false, r_hallOf hM hk4 hw, pInt_n (show h < 2 ^ 31 by omega) (fun c hc => by have := (hI.2.2.2.2.2.2.1 k w c hc).2; omega), n_1, n_in hk4 (by decide), n_cl (show k < 2 ^ 31 by omega), hmi, true_or]
    by_cases hp : sP S k w = some h
    · have nx := fun o13 => ih (k + 1) o13 (by omega)
      simp only [blP_s, hp, if_true, sumL_app, any_app, List.length_append, List.length_singleton, ← Int32.add_assoc] at nx
      simp only [hp, if_true]
      have fin : ∀ (A B : Bool) (o13 : Option Value), (A = ((blP S h w k).any (fun t' => decide (sI S 2 t' = sI S 2 t)) || decide (sI S 2 k = sI S 2 t))) → (B = ((blP S h w k).any (fun t' => apS S (stO S (frc S t' w (sN S 0))) t || apS S (stO S o) t') || (apS S (stO S (frc S k w (sN S 0))) t || apS S (stO S o) k))) →
          WP (d + 3) 110 R 414 [some (va_rf (some m)), some (.int (nI t)), some (.int (nI h)), some (.int (nI w)), some (.int (pInt o)), o5, o6, some (.int v7), some (.int (bI (A = true))), some (.int (bI (B = true))), some (.int (nI ((blP S h w k).length + 1))), some (.int (sI S 0 t + sumL (sI S 0) (blP S h w k) + sI S 0 k)), some (.int (nI k)), o13] [] G z 0 0 := by
        intro A B o13 hA hB
        have nx := nx o13
        rw [← hA, ← hB] at nx
        simp only [ent, entL, isL_int, isL_rf, isL_long, locS, List.length_cons, List.length_nil, List.cons_append, List.nil_append, List.replicate_succ, List.replicate_zero, Bool.false_eq_true, if_false, if_true, true_and, and_true, Nat.reduceAdd, Nat.reduceSub, Nat.reduceLeDiff, Nat.zero_le, Nat.le_refl, Nat.zero_add, Nat.add_zero, bI_0, bI_1, bI_n, Nat.reduceEqDiff, false_and, and_false, and_self, e_110_414, e_110_417, n_1]
        exact nx
      have fin2 : ∀ (A : Bool), (A = ((blP S h w k).any (fun t' => decide (sI S 2 t' = sI S 2 t)) || decide (sI S 2 k = sI S 2 t))) →
          WP (d + 3) 110 R 333 [some (va_rf (some m)), some (.int (nI t)), some (.int (nI h)), some (.int (nI w)), some (.int (pInt o)), o5, o6, some (.int v7), some (.int (bI (A = true))), some (.int (bI ((blP S h w k).any (fun t' => apS S (stO S (frc S t' w (sN S 0))) t || apS S (stO S o) t') = true))), some (.int (nI ((blP S h w k).length + 1))), some (.int (sI S 0 t + sumL (sI S 0) (blP S h w k) + sI S 0 k)), some (.int (nI k)), o13] [] G z 0 0 := by
        intro A hA
        simp only [ent, entL, isL_int, isL_rf, isL_long, locS, List.length_cons, List.length_nil, List.cons_append, List.nil_append, List.replicate_succ, List.replicate_zero, Bool.false_eq_true, if_false, if_true, true_and, and_true, Nat.reduceAdd, Nat.reduceSub, Nat.reduceLeDiff, Nat.zero_le, Nat.le_refl, Nat.zero_add, Nat.add_zero, bI_0, bI_1, bI_n, Nat.reduceEqDiff, false_and, and_false, and_self, e_110_333, e_110_334, e_110_336, e_110_337, e_110_338, e_110_341, e_110_344, e_110_346, e_110_348, e_110_351, e_110_352, e_110_354, e_110_355, e_110_356, e_110_359, e_110_361, e_110_362, e_110_365, e_110_368, e_110_369, e_110_371, e_110_372, e_110_374, e_110_377, e_110_380, e_110_381, e_110_383, e_110_384, e_110_385, e_110_388, e_110_389, e_110_390, e_110_393, e_110_396, e_110_397, e_110_399, e_110_400, e_110_401, e_110_404, e_110_407, e_110_408, e_110_411, e_110_412, hm, hn]
        refine r_inForce hM hI (by omega) hw (by omega) ?_
        simp only [ent, entL, isL_int, isL_rf, isL_long, locS, List.length_cons, List.length_nil, List.cons_append, List.nil_append, List.replicate_succ, List.replicate_zero, Bool.false_eq_true, if_false, if_true, true_and, and_true, Nat.reduceAdd, Nat.reduceSub, Nat.reduceLeDiff, Nat.zero_le, Nat.le_refl, Nat.zero_add, Nat.add_zero, bI_0, bI_1, bI_n, Nat.reduceEqDiff, false_and, and_false, and_self, e_110_333, e_110_334, e_110_336, e_110_337, e_110_338, e_110_341, e_110_344, e_110_346, e_110_348, e_110_351, e_110_352, e_110_354, e_110_355, e_110_356, e_110_359, e_110_361, e_110_362, e_110_365, e_110_368, e_110_369, e_110_371, e_110_372, e_110_374, e_110_377, e_110_380, e_110_381, e_110_383, e_110_384, e_110_385, e_110_388, e_110_389, e_110_390, e_110_393, e_110_396, e_110_397, e_110_399, e_110_400, e_110_401, e_110_404, e_110_407, e_110_408, e_110_411, e_110_412, hm, n_in hk4 (by decide), n_cl (show k < 2 ^ 31 by omega), hli, true_or]
        cases hc : (blP S h w k).any (fun t' => apS S (stO S (frc S t' w (sN S 0))) t || apS S (stO S o) t') with
        | true =>
          simp only [not_true, if_false]
          exact fin A true _ hA (by rw [hc]; rfl)
        | false =>
          simp only [Bool.false_eq_true, not_false_iff, if_true]
          refine r_tells hM hI ho ?_
          simp only [ent, entL, isL_int, isL_rf, isL_long, locS, List.length_cons, List.length_nil, List.cons_append, List.nil_append, List.replicate_succ, List.replicate_zero, Bool.false_eq_true, if_false, if_true, true_and, and_true, Nat.reduceAdd, Nat.reduceSub, Nat.reduceLeDiff, Nat.zero_le, Nat.le_refl, Nat.zero_add, Nat.add_zero, bI_0, bI_1, bI_n, Nat.reduceEqDiff, false_and, and_false, and_self, e_110_333, e_110_334, e_110_336, e_110_337, e_110_338, e_110_341, e_110_344, e_110_346, e_110_348, e_110_351, e_110_352, e_110_354, e_110_355, e_110_356, e_110_359, e_110_361, e_110_362, e_110_365, e_110_368, e_110_369, e_110_371, e_110_372, e_110_374, e_110_377, e_110_380, e_110_381, e_110_383, e_110_384, e_110_385, e_110_388, e_110_389, e_110_390, e_110_393, e_110_396, e_110_397, e_110_399, e_110_400, e_110_401, e_110_404, e_110_407, e_110_408, e_110_411, e_110_412, hm]
          cases h1 : tlls (stO S o) 1 (sI S 2 k) with
          | true => simp only [not_true, if_false]; exact fin A true _ hA (by rw [hc]; simp [apS, h1])
          | false =>
            simp only [Bool.false_eq_true, not_false_iff, if_true]
            refine r_tells hM hI ho ?_
            simp only [ent, entL, isL_int, isL_rf, isL_long, locS, List.length_cons, List.length_nil, List.cons_append, List.nil_append, List.replicate_succ, List.replicate_zero, Bool.false_eq_true, if_false, if_true, true_and, and_true, Nat.reduceAdd, Nat.reduceSub, Nat.reduceLeDiff, Nat.zero_le, Nat.le_refl, Nat.zero_add, Nat.add_zero, bI_0, bI_1, bI_n, Nat.reduceEqDiff, false_and, and_false, and_self, e_110_333, e_110_334, e_110_336, e_110_337, e_110_338, e_110_341, e_110_344, e_110_346, e_110_348, e_110_351, e_110_352, e_110_354, e_110_355, e_110_356, e_110_359, e_110_361, e_110_362, e_110_365, e_110_368, e_110_369, e_110_371, e_110_372, e_110_374, e_110_377, e_110_380, e_110_381, e_110_383, e_110_384, e_110_385, e_110_388, e_110_389, e_110_390, e_110_393, e_110_396, e_110_397, e_110_399, e_110_400, e_110_401, e_110_404, e_110_407, e_110_408, e_110_411, e_110_412, hm, n_in (show t < 40 by omega) (by decide), n_cl (show t < 2 ^ 31 by omega), hli, true_or]
            cases h2 : tlls (stO S o) 2 (nI k) with
            | true => simp only [not_true, if_false]; exact fin A true _ hA (by rw [hc]; simp [apS, h2])
            | false =>
              simp only [Bool.false_eq_true, not_false_iff, if_true]
              refine r_tells hM hI frc_lt ?_
              simp only [ent, entL, isL_int, isL_rf, isL_long, locS, List.length_cons, List.length_nil, List.cons_append, List.nil_append, List.replicate_succ, List.replicate_zero, Bool.false_eq_true, if_false, if_true, true_and, and_true, Nat.reduceAdd, Nat.reduceSub, Nat.reduceLeDiff, Nat.zero_le, Nat.le_refl, Nat.zero_add, Nat.add_zero, bI_0, bI_1, bI_n, Nat.reduceEqDiff, false_and, and_false, and_self, e_110_333, e_110_334, e_110_336, e_110_337, e_110_338, e_110_341, e_110_344, e_110_346, e_110_348, e_110_351, e_110_352, e_110_354, e_110_355, e_110_356, e_110_359, e_110_361, e_110_362, e_110_365, e_110_368, e_110_369, e_110_371, e_110_372, e_110_374, e_110_377, e_110_380, e_110_381, e_110_383, e_110_384, e_110_385, e_110_388, e_110_389, e_110_390, e_110_393, e_110_396, e_110_397, e_110_399, e_110_400, e_110_401, e_110_404, e_110_407, e_110_408, e_110_411, e_110_412, hm]
              cases h3 : tlls (stO S (frc S k w (sN S 0))) 1 (sI S 2 t) with
              | true => simp only [not_true, if_false]; exact fin A true _ hA (by rw [hc]; simp [apS, h3])
              | false =>
                simp only [Bool.false_eq_true, not_false_iff, if_true]
                refine r_tells hM hI frc_lt ?_
                simp only [ent, entL, isL_int, isL_rf, isL_long, locS, List.length_cons, List.length_nil, List.cons_append, List.nil_append, List.replicate_succ, List.replicate_zero, Bool.false_eq_true, if_false, if_true, true_and, and_true, Nat.reduceAdd, Nat.reduceSub, Nat.reduceLeDiff, Nat.zero_le, Nat.le_refl, Nat.zero_add, Nat.add_zero, bI_0, bI_1, bI_n, Nat.reduceEqDiff, false_and, and_false, and_self, e_110_333, e_110_334, e_110_336, e_110_337, e_110_338, e_110_341, e_110_344, e_110_346, e_110_348, e_110_351, e_110_352, e_110_354, e_110_355, e_110_356, e_110_359, e_110_361, e_110_362, e_110_365, e_110_368, e_110_369, e_110_371, e_110_372, e_110_374, e_110_377, e_110_380, e_110_381, e_110_383, e_110_384, e_110_385, e_110_388, e_110_389, e_110_390, e_110_393, e_110_396, e_110_397, e_110_399, e_110_400, e_110_401, e_110_404, e_110_407, e_110_408, e_110_411, e_110_412]
                cases h4 : tlls (stO S (frc S k w (sN S 0))) 2 (nI t) with
                | true => simp only [not_true, if_false]; exact fin A true _ hA (by rw [hc]; simp [apS, h4])
                | false => simp only [Bool.false_eq_true, not_false_iff, if_true]; exact fin A false _ hA (by rw [hc]; simp [apS, h1, h2, h3, h4])
      simp only [ent, entL, isL_int, isL_rf, isL_long, locS, List.length_cons, List.length_nil, List.cons_append, List.nil_append, List.replicate_succ, List.replicate_zero, Bool.false_eq_true, if_false, if_true, true_and, and_true, Nat.reduceAdd, Nat.reduceSub, Nat.reduceLeDiff, Nat.zero_le, Nat.le_refl, Nat.zero_add, Nat.add_zero, bI_0, bI_1, bI_n, Nat.reduceEqDiff, false_and, and_false, and_self, e_110_305, e_110_307, e_110_310, e_110_311, e_110_314, e_110_316, e_110_317, e_110_318, e_110_321, e_110_322, e_110_323, e_110_326, e_110_327, e_110_330, e_110_331, hm, n_in hk4 (by decide), n_cl (show k < 2 ^ 31 by omega), n_in (show t < 40 by omega) (by decide), n_cl (show t < 2 ^ 31 by omega), hli, true_or]
      cases hc : (blP S h w k).any (fun t' => decide (sI S 2 t' = sI S 2 t)) with
      | true => simp only [not_true, if_false]; exact fin2 true (by rw [hc]; rfl)
      | false =>
        simp only [Bool.false_eq_true, not_false_iff, if_true]
        by_cases hl : sI S 2 k = sI S 2 t
        · simp only [hl, if_true]; exact fin2 true (by rw [hc]; simp [hl])
        · simp only [hl, if_false]; exact fin2 false (by rw [hc]; simp [hl])
    · have nx := ih (k + 1) o13 (by omega)
      simp only [blP_s, hp, if_false, List.append_nil] at nx
      simp only [hp, if_false, ent, entL, isL_int, isL_rf, isL_long, locS, List.length_cons, List.length_nil, List.cons_append, List.nil_append, List.replicate_succ, List.replicate_zero, Bool.false_eq_true, if_false, if_true, true_and, and_true, Nat.reduceAdd, Nat.reduceSub, Nat.reduceLeDiff, Nat.zero_le, Nat.le_refl, Nat.zero_add, Nat.add_zero, bI_0, bI_1, bI_n, Nat.reduceEqDiff, false_and, and_false, and_self, e_110_414, e_110_417, n_1]
      exact nx
theorem ix_p {w : Nat} (hw : w < 60) : ix (nI w - 1) 60 = if 0 < w then some (w - 1) else none := by
  by_cases h : 0 < w
  · rw [if_pos h, n_pred h]; exact ix_n (by decide) (by omega)
  · have : w = 0 := by omega
    subst this; decide
theorem ix_q {w : Nat} (hw : w < 60) : ix (nI w + 1) 60 = if w + 1 < 60 then some (w + 1) else none := by
  rw [n_1]
  by_cases h : w + 1 < 60
  · rw [if_pos h]; exact ix_n (by decide) h
  · have : w = 59 := by omega
    subst this; decide
theorem far_p {t h w : Nat} (hw : w < 60) : farO S t h (ix (nI w - 1) 60) = (decide (0 < w) && farS S t h (w - 1)) := by
  rw [ix_p hw]; by_cases h : 0 < w <;> simp [h, farO]
theorem far_q {t h w : Nat} (hw : w < 60) : farO S t h (ix (nI w + 1) 60) = (decide (w + 1 < 60) && farS S t h (w + 1)) := by
  rw [ix_q hw]; by_cases h : w + 1 < 60 <;> simp [h, farO]
set_option maxRecDepth 8000 in
set_option maxHeartbeats 1000000 in
theorem r_why (hM : RM G m S) (hI : Inv S) {d z : Nat} {t h w : Int32} {Q : Rt} (hq : Q (some (.int (opWhy S t h w))) G z) : CALL (d + 4) 110 [va_rf (some m), .int t, .int h, .int w] G z Q := by
  have hm := hM.1
  have hn := hM.2.1
  have h40 := hI.2.1
  have h10 := hI.2.2.1
  have h59 := hI.1
  have hmi := hM.2.2.1.1
  have hlo := hM.2.2.1.2.2.2.2.2.2.2.2.1
  unfold opWhy at hq
  rw [CALL_eq]
  simp only [mxE_110, ent, entL, isL_int, isL_rf, isL_long, locS, List.length_cons, List.length_nil, List.cons_append, List.nil_append, List.replicate_succ, List.replicate_zero, Bool.false_eq_true, if_false, if_true, true_and, and_true, Nat.reduceAdd, Nat.reduceSub, Nat.reduceLeDiff, Nat.zero_le, Nat.le_refl, Nat.zero_add, Nat.add_zero, bI_0, bI_1, bI_n, Nat.reduceEqDiff, false_and, and_false, and_self, e_110_0, e_110_1, e_110_2, e_110_5, e_110_8, e_110_9, e_110_10, e_110_13, e_110_16, e_110_17, e_110_18, e_110_21, e_110_23, e_110_26, e_110_29, e_110_30, e_110_31, e_110_32, e_110_33, e_110_34, e_110_37, e_110_38, e_110_41, e_110_42, r_isTurn hM hI, r_isHall hM hI, hm, hn, r_isIn, e59, o_ix hI]
  cases h1 : ix t (sN S 1) with
  | none => rw [h1] at hq; simp only [Option.isSome_none, Bool.false_eq_true, not_false_iff, if_true]; exact hq
  | some t' =>
    obtain ⟨ht, rfl⟩ := ix_s (by omega) h1
    cases h2 : ix h (sN S 2) with
    | none => rw [h1, h2] at hq; simp only [Option.isSome_none, Option.isSome_some, Bool.false_eq_true, not_false_iff, not_true, if_true, if_false]; exact hq
    | some h' =>
      obtain ⟨hh, rfl⟩ := ix_s (by omega) h2
      cases h3 : opO S w with
      | none => rw [h1, h2, h3] at hq; simp only [Option.isSome_none, Option.isSome_some, Bool.false_eq_true, not_false_iff, not_true, if_true, if_false]; exact hq
      | some w' =>
        obtain ⟨hw, hw0, rfl⟩ := opO_s h3
        rw [h1, h2, h3] at hq
        dsimp only at hq
        unfold whyS at hq
        simp only [Option.isSome_some, not_true, if_false, if_true, r_hallOf hM (show t' < 40 by omega) hw, ent, entL, isL_int, isL_rf, isL_long, locS, List.length_cons, List.length_nil, List.cons_append, List.nil_append, List.replicate_succ, List.replicate_zero, Bool.false_eq_true, if_false, if_true, true_and, and_true, Nat.reduceAdd, Nat.reduceSub, Nat.reduceLeDiff, Nat.zero_le, Nat.le_refl, Nat.zero_add, Nat.add_zero, bI_0, bI_1, bI_n, Nat.reduceEqDiff, false_and, and_false, and_self, e_110_0, e_110_1, e_110_2, e_110_5, e_110_8, e_110_9, e_110_10, e_110_13, e_110_16, e_110_17, e_110_18, e_110_21, e_110_23, e_110_26, e_110_29, e_110_30, e_110_31, e_110_32, e_110_33, e_110_34, e_110_37, e_110_38, e_110_41, e_110_42, pInt_m1 (fun c hc => by have := (hI.2.2.2.2.2.2.1 t' w' c hc).2; omega)]
        cases hp : sP S t' w' with
        | some p => simp only [hp, Option.isSome_some, if_true] at hq; simp only [reduceCtorEq, if_false]; exact hq
        | none =>
          simp only [hp, Option.isSome_none, Bool.false_eq_true, if_false] at hq
          simp only [if_true, ent, entL, isL_int, isL_rf, isL_long, locS, List.length_cons, List.length_nil, List.cons_append, List.nil_append, List.replicate_succ, List.replicate_zero, Bool.false_eq_true, if_false, if_true, true_and, and_true, Nat.reduceAdd, Nat.reduceSub, Nat.reduceLeDiff, Nat.zero_le, Nat.le_refl, Nat.zero_add, Nat.add_zero, bI_0, bI_1, bI_n, Nat.reduceEqDiff, false_and, and_false, and_self, e_110_43, e_110_44, e_110_45, e_110_46, e_110_47, e_110_48, e_110_49, e_110_52, e_110_55, e_110_56, e_110_57, e_110_58, e_110_59, e_110_60, e_110_61, e_110_64, e_110_67, e_110_68, e_110_69, e_110_70, e_110_71, e_110_72, e_110_73, e_110_76, e_110_79, e_110_81, e_110_82, e_110_84, e_110_85, e_110_86, e_110_89, e_110_92, e_110_93, e_110_94, e_110_95, e_110_97, e_110_98, e_110_100, e_110_101, e_110_103, e_110_104, hm]
          refine r_far hM hI ht hh ?_
          rw [far_p hw]
          cases f1 : (decide (0 < w') && farS S t' h' (w' - 1)) with
          | true => simp only [f1, true_or, if_true] at hq; simp only [ent, entL, isL_int, isL_rf, isL_long, locS, List.length_cons, List.length_nil, List.cons_append, List.nil_append, List.replicate_succ, List.replicate_zero, Bool.false_eq_true, if_false, if_true, true_and, and_true, Nat.reduceAdd, Nat.reduceSub, Nat.reduceLeDiff, Nat.zero_le, Nat.le_refl, Nat.zero_add, Nat.add_zero, bI_0, bI_1, bI_n, Nat.reduceEqDiff, false_and, and_false, and_self, e_110_43, e_110_44, e_110_45, e_110_46, e_110_47, e_110_48, e_110_49, e_110_52, e_110_55, e_110_56, e_110_57, e_110_58, e_110_59, e_110_60, e_110_61, e_110_64, e_110_67, e_110_68, e_110_69, e_110_70, e_110_71, e_110_72, e_110_73, e_110_76, e_110_79, e_110_81, e_110_82, e_110_84, e_110_85, e_110_86, e_110_89, e_110_92, e_110_93, e_110_94, e_110_95, e_110_97, e_110_98, e_110_100, e_110_101, e_110_103, e_110_104, not_true, if_false, bI, if_true, show ¬ (1 : Int32) = 0 by decide]; exact hq
          | false =>
            simp only [ent, entL, isL_int, isL_rf, isL_long, locS, List.length_cons, List.length_nil, List.cons_append, List.nil_append, List.replicate_succ, List.replicate_zero, Bool.false_eq_true, if_false, if_true, true_and, and_true, Nat.reduceAdd, Nat.reduceSub, Nat.reduceLeDiff, Nat.zero_le, Nat.le_refl, Nat.zero_add, Nat.add_zero, bI_0, bI_1, bI_n, Nat.reduceEqDiff, false_and, and_false, and_self, e_110_43, e_110_44, e_110_45, e_110_46, e_110_47, e_110_48, e_110_49, e_110_52, e_110_55, e_110_56, e_110_57, e_110_58, e_110_59, e_110_60, e_110_61, e_110_64, e_110_67, e_110_68, e_110_69, e_110_70, e_110_71, e_110_72, e_110_73, e_110_76, e_110_79, e_110_81, e_110_82, e_110_84, e_110_85, e_110_86, e_110_89, e_110_92, e_110_93, e_110_94, e_110_95, e_110_97, e_110_98, e_110_100, e_110_101, e_110_103, e_110_104, hm, Bool.false_eq_true, not_false_iff, if_true]
            refine r_far hM hI ht hh ?_
            rw [far_q hw]
            cases f2 : (decide (w' + 1 < 60) && farS S t' h' (w' + 1)) with
            | true => simp only [f1, f2, or_true, if_true] at hq; simp only [ent, entL, isL_int, isL_rf, isL_long, locS, List.length_cons, List.length_nil, List.cons_append, List.nil_append, List.replicate_succ, List.replicate_zero, Bool.false_eq_true, if_false, if_true, true_and, and_true, Nat.reduceAdd, Nat.reduceSub, Nat.reduceLeDiff, Nat.zero_le, Nat.le_refl, Nat.zero_add, Nat.add_zero, bI_0, bI_1, bI_n, Nat.reduceEqDiff, false_and, and_false, and_self, e_110_43, e_110_44, e_110_45, e_110_46, e_110_47, e_110_48, e_110_49, e_110_52, e_110_55, e_110_56, e_110_57, e_110_58, e_110_59, e_110_60, e_110_61, e_110_64, e_110_67, e_110_68, e_110_69, e_110_70, e_110_71, e_110_72, e_110_73, e_110_76, e_110_79, e_110_81, e_110_82, e_110_84, e_110_85, e_110_86, e_110_89, e_110_92, e_110_93, e_110_94, e_110_95, e_110_97, e_110_98, e_110_100, e_110_101, e_110_103, e_110_104, not_true, if_false]; exact hq
            | false =>
              simp only [f1, f2, Bool.false_eq_true, or_self, if_false] at hq
              simp only [ent, entL, isL_int, isL_rf, isL_long, locS, List.length_cons, List.length_nil, List.cons_append, List.nil_append, List.replicate_succ, List.replicate_zero, Bool.false_eq_true, if_false, if_true, true_and, and_true, Nat.reduceAdd, Nat.reduceSub, Nat.reduceLeDiff, Nat.zero_le, Nat.le_refl, Nat.zero_add, Nat.add_zero, bI_0, bI_1, bI_n, Nat.reduceEqDiff, false_and, and_false, and_self, e_110_43, e_110_44, e_110_45, e_110_46, e_110_47, e_110_48, e_110_49, e_110_52, e_110_55, e_110_56, e_110_57, e_110_58, e_110_59, e_110_60, e_110_61, e_110_64, e_110_67, e_110_68, e_110_69, e_110_70, e_110_71, e_110_72, e_110_73, e_110_76, e_110_79, e_110_81, e_110_82, e_110_84, e_110_85, e_110_86, e_110_89, e_110_92, e_110_93, e_110_94, e_110_95, e_110_97, e_110_98, e_110_100, e_110_101, e_110_103, e_110_104, hm, hn, Bool.false_eq_true, not_false_iff, if_true]
              refine r_inForce hM hI (by omega) hw (by omega) ?_
              simp only [ent, entL, isL_int, isL_rf, isL_long, locS, List.length_cons, List.length_nil, List.cons_append, List.nil_append, List.replicate_succ, List.replicate_zero, Bool.false_eq_true, if_false, if_true, true_and, and_true, Nat.reduceAdd, Nat.reduceSub, Nat.reduceLeDiff, Nat.zero_le, Nat.le_refl, Nat.zero_add, Nat.add_zero, bI_0, bI_1, bI_n, Nat.reduceEqDiff, false_and, and_false, and_self, e_110_43, e_110_44, e_110_45, e_110_46, e_110_47, e_110_48, e_110_49, e_110_52, e_110_55, e_110_56, e_110_57, e_110_58, e_110_59, e_110_60, e_110_61, e_110_64, e_110_67, e_110_68, e_110_69, e_110_70, e_110_71, e_110_72, e_110_73, e_110_76, e_110_79, e_110_81, e_110_82, e_110_84, e_110_85, e_110_86, e_110_89, e_110_92, e_110_93, e_110_94, e_110_95, e_110_97, e_110_98, e_110_100, e_110_101, e_110_103, e_110_104, hm]
              refine r_tells hM hI frc_lt ?_
              simp only [ent, entL, isL_int, isL_rf, isL_long, locS, List.length_cons, List.length_nil, List.cons_append, List.nil_append, List.replicate_succ, List.replicate_zero, Bool.false_eq_true, if_false, if_true, true_and, and_true, Nat.reduceAdd, Nat.reduceSub, Nat.reduceLeDiff, Nat.zero_le, Nat.le_refl, Nat.zero_add, Nat.add_zero, bI_0, bI_1, bI_n, Nat.reduceEqDiff, false_and, and_false, and_self, e_110_43, e_110_44, e_110_45, e_110_46, e_110_47, e_110_48, e_110_49, e_110_52, e_110_55, e_110_56, e_110_57, e_110_58, e_110_59, e_110_60, e_110_61, e_110_64, e_110_67, e_110_68, e_110_69, e_110_70, e_110_71, e_110_72, e_110_73, e_110_76, e_110_79, e_110_81, e_110_82, e_110_84, e_110_85, e_110_86, e_110_89, e_110_92, e_110_93, e_110_94, e_110_95, e_110_97, e_110_98, e_110_100, e_110_101, e_110_103, e_110_104]
              rw [show stO S (frc S t' w' (sN S 0)) = ownS S t' w' from rfl]
              cases f3 : tlls (ownS S t' w') 3 (nI h') with
              | true => simp only [f3, if_true] at hq; simp only [not_true, if_false]; exact hq
              | false =>
                simp only [f3, Bool.false_eq_true, if_false] at hq
                simp only [Bool.false_eq_true, not_false_iff, if_true]
                refine l_why1 hM hI frc_lt ht hh hw (fun o9 o10 => ?_) 60 0 _ _ (by omega)
                rw [show stO S (frc S t' w' (sN S 0)) = ownS S t' w' from rfl]
                simp only [ent, entL, isL_int, isL_rf, isL_long, locS, List.length_cons, List.length_nil, List.cons_append, List.nil_append, List.replicate_succ, List.replicate_zero, Bool.false_eq_true, if_false, if_true, true_and, and_true, Nat.reduceAdd, Nat.reduceSub, Nat.reduceLeDiff, Nat.zero_le, Nat.le_refl, Nat.zero_add, Nat.add_zero, bI_0, bI_1, bI_n, Nat.reduceEqDiff, false_and, and_false, and_self, e_110_232, e_110_234, e_110_237, e_110_238, e_110_239, e_110_241, e_110_244, e_110_246, e_110_247, e_110_248, e_110_250, e_110_251, e_110_253, e_110_254, e_110_256, e_110_257, e_110_260, e_110_261, e_110_262, e_110_264, e_110_265, hm, n_in (show t' < 40 by omega) (by decide), n_cl (show t' < 2 ^ 31 by omega), hmi, true_or]
                cases f5 : (List.range 60).any (fiveS S t' h' w' (ownS S t' w')) with
                | true => simp only [f5, if_true] at hq; simp only [not_true, if_false]; exact hq
                | false =>
                  simp only [f5, Bool.false_eq_true, if_false] at hq
                  simp only [Bool.false_eq_true, not_false_iff, if_true]
                  cases f6 : (List.range 60).any (sixS S t' h' w' (sN S 0)) with
                  | true => simp only [f6, if_true] at hq; simp only [not_true, if_false]; exact hq
                  | false =>
                    simp only [f6, Bool.false_eq_true, if_false] at hq
                    simp only [Bool.false_eq_true, not_false_iff, if_true]
                    have hz : sI S 0 t' = sI S 0 t' + sumL (sI S 0) (blP S h' w' 0) := by show sI S 0 t' = sI S 0 t' + 0; simp
                    have l2 := l_why2 (d := d) (z := z) (R := Q) (o := frc S t' w' (sN S 0)) (o5 := some (.int (bI (false = true)))) (o6 := some (.int (bI (false = true)))) (v7 := bI ((List.range 60).any (nineS S t' h' w') = true)) hM hI frc_lt ht hh hw (fun o13 => by
                      unfold whyB at hq
                      rw [show stO S (frc S t' w' (sN S 0)) = ownS S t' w' from rfl]
                      have l9 := hI.2.2.2.2.2.2.2.2.1 h' w'
                      simp only [ent, entL, isL_int, isL_rf, isL_long, locS, List.length_cons, List.length_nil, List.cons_append, List.nil_append, List.replicate_succ, List.replicate_zero, Bool.false_eq_true, if_false, if_true, true_and, and_true, Nat.reduceAdd, Nat.reduceSub, Nat.reduceLeDiff, Nat.zero_le, Nat.le_refl, Nat.zero_add, Nat.add_zero, bI_0, bI_1, bI_n, Nat.reduceEqDiff, false_and, and_false, and_self, e_110_420, e_110_422, e_110_425, e_110_427, e_110_430, e_110_432, e_110_435, e_110_437, e_110_440, e_110_442, e_110_445, e_110_447, e_110_450, e_110_452, e_110_454, e_110_457, e_110_459, e_110_462, e_110_464, e_110_465, e_110_468, e_110_469, e_110_470, e_110_473, e_110_475, e_110_478, e_110_479, hm, n_in (show h' < 10 by omega) (by decide), n_cl (show h' < 2 ^ 31 by omega), hlo, true_or]
                      cases g7 : (bl S h' w').any (fun t'' => decide (sI S 2 t'' = sI S 2 t')) with
                      | true => simp only [g7, if_true] at hq; simp only [not_true, if_false]; exact hq
                      | false =>
                        simp only [g7, Bool.false_eq_true, if_false] at hq
                        simp only [Bool.false_eq_true, not_false_iff, if_true]
                        cases g8 : (bl S h' w').any (fun t'' => apS S (stO S (frc S t'' w' (sN S 0))) t' || apS S (ownS S t' w') t'') with
                        | true => simp only [g8, if_true] at hq; simp only [not_true, if_false]; exact hq
                        | false =>
                          simp only [g8, Bool.false_eq_true, if_false] at hq
                          simp only [Bool.false_eq_true, not_false_iff, if_true]
                          cases g9 : (List.range 60).any (nineS S t' h' w') with
                          | true => simp only [g9, if_true] at hq; simp only [not_true, if_false]; exact hq
                          | false =>
                            simp only [g9, Bool.false_eq_true, if_false] at hq
                            simp only [Bool.false_eq_true, not_false_iff, if_true, show (9 : Int32) = nI 9 from rfl, n_eq (show (bl S h' w').length < 2 ^ 31 by omega) (show 9 < 2 ^ 31 by omega)]
                            by_cases g10 : 9 ≤ (bl S h' w').length
                            · simp only [g10, if_true] at hq; simp only [show (bl S h' w').length = 9 by omega, if_true]; exact hq
                            · simp only [g10, if_false] at hq; simp only [show ¬ (bl S h' w').length = 9 by omega, if_false]
                              rw [Int32.add_comm (sumL (sI S 0) (bl S h' w'))] at hq
                              by_cases g11 : sI S 8 h' < sI S 0 t' + sumL (sI S 0) (bl S h' w')
                              · have : ¬ sI S 0 t' + sumL (sI S 0) (bl S h' w') ≤ sI S 8 h' := by rw [not_le']; exact g11
                                simp only [g11, if_true] at hq; simp only [this, if_false]; exact hq
                              · have : sI S 0 t' + sumL (sI S 0) (bl S h' w') ≤ sI S 8 h' := by rw [← not_lt']; exact g11
                                simp only [g11, if_false] at hq; simp only [this, if_true]; exact hq) (sN S 1) 0 none (by omega)
                    rw [← hz] at l2
                    exact l2
end
