/-! THE 137: one call on both objects -/
section
variable {G : Mem} {z x b L i c s : Nat} {xs : Nat → Int32} {S : St} {R : Rt}
set_option maxRecDepth 8000 in
theorem w_weeks (hW : Wd G z x b L xs S) (hi : 6 * i + 6 ≤ L) (hL : L ≤ 3072) (hc : c ≤ 10000) (hs : s ≤ 100000) (nx : Nx R x b L xs i c s) : WP 12 137 R 124 [some (va_rf (some b)), some (va_rf (some x)), some (va_rf (some (x + 12))), some (.int (nI (6 * i)))] [] G z c s := by
  obtain ⟨⟨ta, ha, ca, hX⟩, hM, hI, hT, hB, hz, hb, ⟨b1, b2, b3⟩, hS⟩ := id hW
  have x1 := hX.1.1
  have lc1 : c ≤ 600000 := by omega
  have lc2 : c + 1 ≤ 600000 := by omega
  have lc3 : c + 14 ≤ 600000 := by omega
  have ls1 : s ≤ 7302249 := by omega
  have ls2 : s + 4 ≤ 7302249 := by omega
  have ls3 : s + 58 ≤ 7302249 := by omega
  simp only [ent, entL, isL_int, isL_rf, isL_long, locS, List.length_cons, List.length_nil, List.cons_append, List.nil_append, List.replicate_succ, List.replicate_zero, Bool.false_eq_true, if_false, if_true, true_and, and_true, Nat.reduceAdd, Nat.reduceSub, Nat.reduceLeDiff, Nat.zero_le, Nat.le_refl, Nat.zero_add, Nat.add_zero, bI_0, bI_1, bI_n, Nat.reduceEqDiff, false_and, and_false, and_self, e_137_124, e_137_125, e_137_126, e_137_127, e_137_128, e_137_129, e_137_130, x1, b1, b2, b3, n_1, n_in (show 6 * i + 1 < L by omega) (show L < 2 ^ 31 by omega), n_cl (show 6 * i + 1 < 2 ^ 31 by omega), lc1, lc2, lc3, ls1, ls2, ls3, or_true]
  refine c_weeks hX hI fun G1 hX1 hF1 => ?_
  have hH := hW.clsX hX1 hF1
  obtain ⟨-, hM1, -, -, -, ⟨d1, d2, d3⟩, -⟩ := id hH
  have m1 := hM1.1.1
  simp only [ent, entL, isL_int, isL_rf, isL_long, locS, List.length_cons, List.length_nil, List.cons_append, List.nil_append, List.replicate_succ, List.replicate_zero, Bool.false_eq_true, if_false, if_true, true_and, and_true, Nat.reduceAdd, Nat.reduceSub, Nat.reduceLeDiff, Nat.zero_le, Nat.le_refl, Nat.zero_add, Nat.add_zero, bI_0, bI_1, bI_n, Nat.reduceEqDiff, false_and, and_false, and_self, e_137_133, e_137_134, e_137_135, e_137_136, e_137_137, e_137_138, e_137_139, m1, d1, d2, d3, n_1, n_in (show 6 * i + 1 < L by omega) (show L < 2 ^ 31 by omega), n_cl (show 6 * i + 1 < 2 ^ 31 by omega), lc1, lc2, lc3, ls1, ls2, ls3, or_true]
  refine d_weeks hM1 hI fun G2 hM2 hF2 => ?_
  have hW2 := hH.ref hM2 hF2 (inv_weeks hI) (invT_of tT_weeks hT)
  simp only [ent, entL, isL_int, isL_rf, isL_long, locS, List.length_cons, List.length_nil, List.cons_append, List.nil_append, List.replicate_succ, List.replicate_zero, Bool.false_eq_true, if_false, if_true, true_and, and_true, Nat.reduceAdd, Nat.reduceSub, Nat.reduceLeDiff, Nat.zero_le, Nat.le_refl, Nat.zero_add, Nat.add_zero, bI_0, bI_1, bI_n, Nat.reduceEqDiff, false_and, and_false, and_self, e_137_142]
  exact nx _ _ _ _ _ hW2 (by omega) (by omega)
set_option maxRecDepth 8000 in
theorem w_hall (hW : Wd G z x b L xs S) (hi : 6 * i + 6 ≤ L) (hL : L ≤ 3072) (hc : c ≤ 10000) (hs : s ≤ 100000) (nx : Nx R x b L xs i c s) : WP 12 137 R 226 [some (va_rf (some b)), some (va_rf (some x)), some (va_rf (some (x + 12))), some (.int (nI (6 * i)))] [] G z c s := by
  obtain ⟨⟨ta, ha, ca, hX⟩, hM, hI, hT, hB, hz, hb, ⟨b1, b2, b3⟩, hS⟩ := id hW
  have x1 := hX.1.1
  have lc1 : c ≤ 600000 := by omega
  have lc2 : c + 1 ≤ 600000 := by omega
  have lc3 : c + 14 ≤ 600000 := by omega
  have ls1 : s ≤ 7302249 := by omega
  have ls2 : s + 4 ≤ 7302249 := by omega
  have ls3 : s + 58 ≤ 7302249 := by omega
  simp only [ent, entL, isL_int, isL_rf, isL_long, locS, List.length_cons, List.length_nil, List.cons_append, List.nil_append, List.replicate_succ, List.replicate_zero, Bool.false_eq_true, if_false, if_true, true_and, and_true, Nat.reduceAdd, Nat.reduceSub, Nat.reduceLeDiff, Nat.zero_le, Nat.le_refl, Nat.zero_add, Nat.add_zero, bI_0, bI_1, bI_n, Nat.reduceEqDiff, false_and, and_false, and_self, e_137_226, e_137_227, e_137_228, e_137_229, e_137_230, e_137_231, e_137_232, e_137_233, e_137_234, e_137_235, e_137_236, e_137_237, e_137_238, e_137_239, e_137_240, e_137_241, e_137_242, x1, b1, b2, b3, n_1, n_2, n_3, n_in (show 6 * i + 1 < L by omega) (show L < 2 ^ 31 by omega), n_cl (show 6 * i + 1 < 2 ^ 31 by omega), n_in (show 6 * i + 2 < L by omega) (show L < 2 ^ 31 by omega), n_cl (show 6 * i + 2 < 2 ^ 31 by omega), n_in (show 6 * i + 3 < L by omega) (show L < 2 ^ 31 by omega), n_cl (show 6 * i + 3 < 2 ^ 31 by omega), lc1, lc2, lc3, ls1, ls2, ls3, or_true]
  refine c_hall hX hI hB fun G1 ha1 z1 hz1 hB1 hX1 hF1 => ?_
  have hH := hW.cls hX1 hF1 hB1 hz1
  obtain ⟨-, hM1, -, -, -, ⟨d1, d2, d3⟩, -⟩ := id hH
  have m1 := hM1.1.1
  simp only [ent, entL, isL_int, isL_rf, isL_long, locS, List.length_cons, List.length_nil, List.cons_append, List.nil_append, List.replicate_succ, List.replicate_zero, Bool.false_eq_true, if_false, if_true, true_and, and_true, Nat.reduceAdd, Nat.reduceSub, Nat.reduceLeDiff, Nat.zero_le, Nat.le_refl, Nat.zero_add, Nat.add_zero, bI_0, bI_1, bI_n, Nat.reduceEqDiff, false_and, and_false, and_self, e_137_245, e_137_246, e_137_247, e_137_248, e_137_249, e_137_250, e_137_251, e_137_252, e_137_253, e_137_254, e_137_255, e_137_256, e_137_257, e_137_258, e_137_259, e_137_260, e_137_261, m1, d1, d2, d3, n_1, n_2, n_3, n_in (show 6 * i + 1 < L by omega) (show L < 2 ^ 31 by omega), n_cl (show 6 * i + 1 < 2 ^ 31 by omega), n_in (show 6 * i + 2 < L by omega) (show L < 2 ^ 31 by omega), n_cl (show 6 * i + 2 < 2 ^ 31 by omega), n_in (show 6 * i + 3 < L by omega) (show L < 2 ^ 31 by omega), n_cl (show 6 * i + 3 < 2 ^ 31 by omega), lc1, lc2, lc3, ls1, ls2, ls3, or_true]
  refine d_hall hM1 hI fun G2 hM2 hF2 => ?_
  have hW2 := hH.ref hM2 hF2 (inv_hall hI) (invT_of tT_hall hT)
  simp only [ent, entL, isL_int, isL_rf, isL_long, locS, List.length_cons, List.length_nil, List.cons_append, List.nil_append, List.replicate_succ, List.replicate_zero, Bool.false_eq_true, if_false, if_true, true_and, and_true, Nat.reduceAdd, Nat.reduceSub, Nat.reduceLeDiff, Nat.zero_le, Nat.le_refl, Nat.zero_add, Nat.add_zero, bI_0, bI_1, bI_n, Nat.reduceEqDiff, false_and, and_false, and_self, e_137_264]
  exact nx _ _ _ _ _ hW2 (by omega) (by omega)
set_option maxRecDepth 8000 in
theorem w_feed (hW : Wd G z x b L xs S) (hi : 6 * i + 6 ≤ L) (hL : L ≤ 3072) (hc : c ≤ 10000) (hs : s ≤ 100000) (nx : Nx R x b L xs i c s) : WP 12 137 R 269 [some (va_rf (some b)), some (va_rf (some x)), some (va_rf (some (x + 12))), some (.int (nI (6 * i)))] [] G z c s := by
  obtain ⟨⟨ta, ha, ca, hX⟩, hM, hI, hT, hB, hz, hb, ⟨b1, b2, b3⟩, hS⟩ := id hW
  have x1 := hX.1.1
  have lc1 : c ≤ 600000 := by omega
  have lc2 : c + 1 ≤ 600000 := by omega
  have lc3 : c + 14 ≤ 600000 := by omega
  have ls1 : s ≤ 7302249 := by omega
  have ls2 : s + 4 ≤ 7302249 := by omega
  have ls3 : s + 58 ≤ 7302249 := by omega
  simp only [ent, entL, isL_int, isL_rf, isL_long, locS, List.length_cons, List.length_nil, List.cons_append, List.nil_append, List.replicate_succ, List.replicate_zero, Bool.false_eq_true, if_false, if_true, true_and, and_true, Nat.reduceAdd, Nat.reduceSub, Nat.reduceLeDiff, Nat.zero_le, Nat.le_refl, Nat.zero_add, Nat.add_zero, bI_0, bI_1, bI_n, Nat.reduceEqDiff, false_and, and_false, and_self, e_137_269, e_137_270, e_137_271, e_137_272, e_137_273, e_137_274, e_137_275, e_137_276, e_137_277, e_137_278, e_137_279, e_137_280, e_137_281, e_137_282, e_137_283, e_137_284, e_137_285, e_137_286, e_137_287, e_137_288, e_137_289, e_137_290, e_137_291, e_137_292, e_137_293, e_137_294, e_137_295, x1, b1, b2, b3, n_1, n_2, n_3, n_4, n_5, n_in (show 6 * i + 1 < L by omega) (show L < 2 ^ 31 by omega), n_cl (show 6 * i + 1 < 2 ^ 31 by omega), n_in (show 6 * i + 2 < L by omega) (show L < 2 ^ 31 by omega), n_cl (show 6 * i + 2 < 2 ^ 31 by omega), n_in (show 6 * i + 3 < L by omega) (show L < 2 ^ 31 by omega), n_cl (show 6 * i + 3 < 2 ^ 31 by omega), n_in (show 6 * i + 4 < L by omega) (show L < 2 ^ 31 by omega), n_cl (show 6 * i + 4 < 2 ^ 31 by omega), n_in (show 6 * i + 5 < L by omega) (show L < 2 ^ 31 by omega), n_cl (show 6 * i + 5 < 2 ^ 31 by omega), lc1, lc2, lc3, ls1, ls2, ls3, or_true]
  refine c_feed hX hI fun G1 hX1 hF1 => ?_
  have hH := hW.clsX hX1 hF1
  obtain ⟨-, hM1, -, -, -, ⟨d1, d2, d3⟩, -⟩ := id hH
  have m1 := hM1.1.1
  simp only [ent, entL, isL_int, isL_rf, isL_long, locS, List.length_cons, List.length_nil, List.cons_append, List.nil_append, List.replicate_succ, List.replicate_zero, Bool.false_eq_true, if_false, if_true, true_and, and_true, Nat.reduceAdd, Nat.reduceSub, Nat.reduceLeDiff, Nat.zero_le, Nat.le_refl, Nat.zero_add, Nat.add_zero, bI_0, bI_1, bI_n, Nat.reduceEqDiff, false_and, and_false, and_self, e_137_298, e_137_299, e_137_300, e_137_301, e_137_302, e_137_303, e_137_304, e_137_305, e_137_306, e_137_307, e_137_308, e_137_309, e_137_310, e_137_311, e_137_312, e_137_313, e_137_314, e_137_315, e_137_316, e_137_317, e_137_318, e_137_319, e_137_320, e_137_321, e_137_322, e_137_323, e_137_324, m1, d1, d2, d3, n_1, n_2, n_3, n_4, n_5, n_in (show 6 * i + 1 < L by omega) (show L < 2 ^ 31 by omega), n_cl (show 6 * i + 1 < 2 ^ 31 by omega), n_in (show 6 * i + 2 < L by omega) (show L < 2 ^ 31 by omega), n_cl (show 6 * i + 2 < 2 ^ 31 by omega), n_in (show 6 * i + 3 < L by omega) (show L < 2 ^ 31 by omega), n_cl (show 6 * i + 3 < 2 ^ 31 by omega), n_in (show 6 * i + 4 < L by omega) (show L < 2 ^ 31 by omega), n_cl (show 6 * i + 4 < 2 ^ 31 by omega), n_in (show 6 * i + 5 < L by omega) (show L < 2 ^ 31 by omega), n_cl (show 6 * i + 5 < 2 ^ 31 by omega), lc1, lc2, lc3, ls1, ls2, ls3, or_true]
  refine d_feed hM1 hI fun G2 hM2 hF2 => ?_
  have hW2 := hH.ref hM2 hF2 (inv_feed hI) (invT_feed hT)
  simp only [ent, entL, isL_int, isL_rf, isL_long, locS, List.length_cons, List.length_nil, List.cons_append, List.nil_append, List.replicate_succ, List.replicate_zero, Bool.false_eq_true, if_false, if_true, true_and, and_true, Nat.reduceAdd, Nat.reduceSub, Nat.reduceLeDiff, Nat.zero_le, Nat.le_refl, Nat.zero_add, Nat.add_zero, bI_0, bI_1, bI_n, Nat.reduceEqDiff, false_and, and_false, and_self, e_137_327]
  exact nx _ _ _ _ _ hW2 (by omega) (by omega)
set_option maxRecDepth 8000 in
theorem w_sign (hW : Wd G z x b L xs S) (hi : 6 * i + 6 ≤ L) (hL : L ≤ 3072) (hc : c ≤ 10000) (hs : s ≤ 100000) (nx : Nx R x b L xs i c s) : WP 12 137 R 332 [some (va_rf (some b)), some (va_rf (some x)), some (va_rf (some (x + 12))), some (.int (nI (6 * i)))] [] G z c s := by
  obtain ⟨⟨ta, ha, ca, hX⟩, hM, hI, hT, hB, hz, hb, ⟨b1, b2, b3⟩, hS⟩ := id hW
  have x1 := hX.1.1
  have lc1 : c ≤ 600000 := by omega
  have lc2 : c + 1 ≤ 600000 := by omega
  have lc3 : c + 14 ≤ 600000 := by omega
  have ls1 : s ≤ 7302249 := by omega
  have ls2 : s + 4 ≤ 7302249 := by omega
  have ls3 : s + 58 ≤ 7302249 := by omega
  simp only [ent, entL, isL_int, isL_rf, isL_long, locS, List.length_cons, List.length_nil, List.cons_append, List.nil_append, List.replicate_succ, List.replicate_zero, Bool.false_eq_true, if_false, if_true, true_and, and_true, Nat.reduceAdd, Nat.reduceSub, Nat.reduceLeDiff, Nat.zero_le, Nat.le_refl, Nat.zero_add, Nat.add_zero, bI_0, bI_1, bI_n, Nat.reduceEqDiff, false_and, and_false, and_self, e_137_332, e_137_333, e_137_334, e_137_335, e_137_336, e_137_337, e_137_338, e_137_339, e_137_340, e_137_341, e_137_342, e_137_343, e_137_344, e_137_345, e_137_346, e_137_347, e_137_348, x1, b1, b2, b3, n_1, n_2, n_3, n_in (show 6 * i + 1 < L by omega) (show L < 2 ^ 31 by omega), n_cl (show 6 * i + 1 < 2 ^ 31 by omega), n_in (show 6 * i + 2 < L by omega) (show L < 2 ^ 31 by omega), n_cl (show 6 * i + 2 < 2 ^ 31 by omega), n_in (show 6 * i + 3 < L by omega) (show L < 2 ^ 31 by omega), n_cl (show 6 * i + 3 < 2 ^ 31 by omega), lc1, lc2, lc3, ls1, ls2, ls3, or_true]
  refine c_sign hX hI hz hB (hS.up (by omega)) fun G1 ca1 z1 hz1 hB1 hX1 hF1 => ?_
  have hH := hW.cls hX1 hF1 hB1 hz1
  obtain ⟨-, hM1, -, -, -, ⟨d1, d2, d3⟩, -⟩ := id hH
  have m1 := hM1.1.1
  simp only [ent, entL, isL_int, isL_rf, isL_long, locS, List.length_cons, List.length_nil, List.cons_append, List.nil_append, List.replicate_succ, List.replicate_zero, Bool.false_eq_true, if_false, if_true, true_and, and_true, Nat.reduceAdd, Nat.reduceSub, Nat.reduceLeDiff, Nat.zero_le, Nat.le_refl, Nat.zero_add, Nat.add_zero, bI_0, bI_1, bI_n, Nat.reduceEqDiff, false_and, and_false, and_self, e_137_351, e_137_352, e_137_353, e_137_354, e_137_355, e_137_356, e_137_357, e_137_358, e_137_359, e_137_360, e_137_361, e_137_362, e_137_363, e_137_364, e_137_365, e_137_366, e_137_367, m1, d1, d2, d3, n_1, n_2, n_3, n_in (show 6 * i + 1 < L by omega) (show L < 2 ^ 31 by omega), n_cl (show 6 * i + 1 < 2 ^ 31 by omega), n_in (show 6 * i + 2 < L by omega) (show L < 2 ^ 31 by omega), n_cl (show 6 * i + 2 < 2 ^ 31 by omega), n_in (show 6 * i + 3 < L by omega) (show L < 2 ^ 31 by omega), n_cl (show 6 * i + 3 < 2 ^ 31 by omega), lc1, lc2, lc3, ls1, ls2, ls3, or_true]
  refine d_sign hM1 hI hT fun G2 hM2 hF2 => ?_
  have hW2 := hH.ref hM2 hF2 (inv_sign hI) (invT_of tT_sign hT)
  simp only [ent, entL, isL_int, isL_rf, isL_long, locS, List.length_cons, List.length_nil, List.cons_append, List.nil_append, List.replicate_succ, List.replicate_zero, Bool.false_eq_true, if_false, if_true, true_and, and_true, Nat.reduceAdd, Nat.reduceSub, Nat.reduceLeDiff, Nat.zero_le, Nat.le_refl, Nat.zero_add, Nat.add_zero, bI_0, bI_1, bI_n, Nat.reduceEqDiff, false_and, and_false, and_self, e_137_370]
  exact nx _ _ _ _ _ hW2 (by omega) (by omega)
set_option maxRecDepth 8000 in
theorem w_fault (hW : Wd G z x b L xs S) (hi : 6 * i + 6 ≤ L) (hL : L ≤ 3072) (hc : c ≤ 10000) (hs : s ≤ 100000) (nx : Nx R x b L xs i c s) : WP 12 137 R 375 [some (va_rf (some b)), some (va_rf (some x)), some (va_rf (some (x + 12))), some (.int (nI (6 * i)))] [] G z c s := by
  obtain ⟨⟨ta, ha, ca, hX⟩, hM, hI, hT, hB, hz, hb, ⟨b1, b2, b3⟩, hS⟩ := id hW
  have x1 := hX.1.1
  have lc1 : c ≤ 600000 := by omega
  have lc2 : c + 1 ≤ 600000 := by omega
  have lc3 : c + 14 ≤ 600000 := by omega
  have ls1 : s ≤ 7302249 := by omega
  have ls2 : s + 4 ≤ 7302249 := by omega
  have ls3 : s + 58 ≤ 7302249 := by omega
  simp only [ent, entL, isL_int, isL_rf, isL_long, locS, List.length_cons, List.length_nil, List.cons_append, List.nil_append, List.replicate_succ, List.replicate_zero, Bool.false_eq_true, if_false, if_true, true_and, and_true, Nat.reduceAdd, Nat.reduceSub, Nat.reduceLeDiff, Nat.zero_le, Nat.le_refl, Nat.zero_add, Nat.add_zero, bI_0, bI_1, bI_n, Nat.reduceEqDiff, false_and, and_false, and_self, e_137_375, e_137_376, x1, b1, b2, b3, lc1, lc2, lc3, ls1, ls2, ls3, or_true]
  refine c_fault hX ?_
  have hH := hW.same
  obtain ⟨-, hM1, -, -, -, ⟨d1, d2, d3⟩, -⟩ := id hH
  have m1 := hM1.1.1
  simp only [ent, entL, isL_int, isL_rf, isL_long, locS, List.length_cons, List.length_nil, List.cons_append, List.nil_append, List.replicate_succ, List.replicate_zero, Bool.false_eq_true, if_false, if_true, true_and, and_true, Nat.reduceAdd, Nat.reduceSub, Nat.reduceLeDiff, Nat.zero_le, Nat.le_refl, Nat.zero_add, Nat.add_zero, bI_0, bI_1, bI_n, Nat.reduceEqDiff, false_and, and_false, and_self, e_137_379, e_137_380, m1, d1, d2, d3, lc1, lc2, lc3, ls1, ls2, ls3, or_true]
  refine d_fault hM1 ?_
  have hW2 := hH.refS hI hT
  simp only [ent, entL, isL_int, isL_rf, isL_long, locS, List.length_cons, List.length_nil, List.cons_append, List.nil_append, List.replicate_succ, List.replicate_zero, Bool.false_eq_true, if_false, if_true, true_and, and_true, Nat.reduceAdd, Nat.reduceSub, Nat.reduceLeDiff, Nat.zero_le, Nat.le_refl, Nat.zero_add, Nat.add_zero, bI_0, bI_1, bI_n, Nat.reduceEqDiff, false_and, and_false, and_self, e_137_383]
  exact nx _ _ _ _ _ hW2 (by omega) (by omega)
set_option maxRecDepth 8000 in
theorem w_force (hW : Wd G z x b L xs S) (hi : 6 * i + 6 ≤ L) (hL : L ≤ 3072) (hc : c ≤ 10000) (hs : s ≤ 100000) (nx : Nx R x b L xs i c s) : WP 12 137 R 388 [some (va_rf (some b)), some (va_rf (some x)), some (va_rf (some (x + 12))), some (.int (nI (6 * i)))] [] G z c s := by
  obtain ⟨⟨ta, ha, ca, hX⟩, hM, hI, hT, hB, hz, hb, ⟨b1, b2, b3⟩, hS⟩ := id hW
  have x1 := hX.1.1
  have lc1 : c ≤ 600000 := by omega
  have lc2 : c + 1 ≤ 600000 := by omega
  have lc3 : c + 14 ≤ 600000 := by omega
  have ls1 : s ≤ 7302249 := by omega
  have ls2 : s + 4 ≤ 7302249 := by omega
  have ls3 : s + 58 ≤ 7302249 := by omega
  simp only [ent, entL, isL_int, isL_rf, isL_long, locS, List.length_cons, List.length_nil, List.cons_append, List.nil_append, List.replicate_succ, List.replicate_zero, Bool.false_eq_true, if_false, if_true, true_and, and_true, Nat.reduceAdd, Nat.reduceSub, Nat.reduceLeDiff, Nat.zero_le, Nat.le_refl, Nat.zero_add, Nat.add_zero, bI_0, bI_1, bI_n, Nat.reduceEqDiff, false_and, and_false, and_self, e_137_388, e_137_389, e_137_390, e_137_391, e_137_392, e_137_393, e_137_394, e_137_395, e_137_396, e_137_397, e_137_398, e_137_399, e_137_400, e_137_401, e_137_402, e_137_403, e_137_404, x1, b1, b2, b3, n_1, n_2, n_3, n_in (show 6 * i + 1 < L by omega) (show L < 2 ^ 31 by omega), n_cl (show 6 * i + 1 < 2 ^ 31 by omega), n_in (show 6 * i + 2 < L by omega) (show L < 2 ^ 31 by omega), n_cl (show 6 * i + 2 < 2 ^ 31 by omega), n_in (show 6 * i + 3 < L by omega) (show L < 2 ^ 31 by omega), n_cl (show 6 * i + 3 < 2 ^ 31 by omega), lc1, lc2, lc3, ls1, ls2, ls3, or_true]
  refine c_force hX hI ?_
  have hH := hW.same
  obtain ⟨-, hM1, -, -, -, ⟨d1, d2, d3⟩, -⟩ := id hH
  have m1 := hM1.1.1
  simp only [ent, entL, isL_int, isL_rf, isL_long, locS, List.length_cons, List.length_nil, List.cons_append, List.nil_append, List.replicate_succ, List.replicate_zero, Bool.false_eq_true, if_false, if_true, true_and, and_true, Nat.reduceAdd, Nat.reduceSub, Nat.reduceLeDiff, Nat.zero_le, Nat.le_refl, Nat.zero_add, Nat.add_zero, bI_0, bI_1, bI_n, Nat.reduceEqDiff, false_and, and_false, and_self, e_137_407, e_137_408, e_137_409, e_137_410, e_137_411, e_137_412, e_137_413, e_137_414, e_137_415, e_137_416, e_137_417, e_137_418, e_137_419, e_137_420, e_137_421, e_137_422, e_137_423, m1, d1, d2, d3, n_1, n_2, n_3, n_in (show 6 * i + 1 < L by omega) (show L < 2 ^ 31 by omega), n_cl (show 6 * i + 1 < 2 ^ 31 by omega), n_in (show 6 * i + 2 < L by omega) (show L < 2 ^ 31 by omega), n_cl (show 6 * i + 2 < 2 ^ 31 by omega), n_in (show 6 * i + 3 < L by omega) (show L < 2 ^ 31 by omega), n_cl (show 6 * i + 3 < 2 ^ 31 by omega), lc1, lc2, lc3, ls1, ls2, ls3, or_true]
  refine d_force hM1 hI ?_
  have hW2 := hH.refS hI hT
  simp only [ent, entL, isL_int, isL_rf, isL_long, locS, List.length_cons, List.length_nil, List.cons_append, List.nil_append, List.replicate_succ, List.replicate_zero, Bool.false_eq_true, if_false, if_true, true_and, and_true, Nat.reduceAdd, Nat.reduceSub, Nat.reduceLeDiff, Nat.zero_le, Nat.le_refl, Nat.zero_add, Nat.add_zero, bI_0, bI_1, bI_n, Nat.reduceEqDiff, false_and, and_false, and_self, e_137_426]
  exact nx _ _ _ _ _ hW2 (by omega) (by omega)
set_option maxRecDepth 8000 in
theorem w_why (hW : Wd G z x b L xs S) (hi : 6 * i + 6 ≤ L) (hL : L ≤ 3072) (hc : c ≤ 10000) (hs : s ≤ 100000) (nx : Nx R x b L xs i c s) : WP 12 137 R 431 [some (va_rf (some b)), some (va_rf (some x)), some (va_rf (some (x + 12))), some (.int (nI (6 * i)))] [] G z c s := by
  obtain ⟨⟨ta, ha, ca, hX⟩, hM, hI, hT, hB, hz, hb, ⟨b1, b2, b3⟩, hS⟩ := id hW
  have x1 := hX.1.1
  have lc1 : c ≤ 600000 := by omega
  have lc2 : c + 1 ≤ 600000 := by omega
  have lc3 : c + 14 ≤ 600000 := by omega
  have ls1 : s ≤ 7302249 := by omega
  have ls2 : s + 4 ≤ 7302249 := by omega
  have ls3 : s + 58 ≤ 7302249 := by omega
  simp only [ent, entL, isL_int, isL_rf, isL_long, locS, List.length_cons, List.length_nil, List.cons_append, List.nil_append, List.replicate_succ, List.replicate_zero, Bool.false_eq_true, if_false, if_true, true_and, and_true, Nat.reduceAdd, Nat.reduceSub, Nat.reduceLeDiff, Nat.zero_le, Nat.le_refl, Nat.zero_add, Nat.add_zero, bI_0, bI_1, bI_n, Nat.reduceEqDiff, false_and, and_false, and_self, e_137_431, e_137_432, e_137_433, e_137_434, e_137_435, e_137_436, e_137_437, e_137_438, e_137_439, e_137_440, e_137_441, e_137_442, e_137_443, e_137_444, e_137_445, e_137_446, e_137_447, x1, b1, b2, b3, n_1, n_2, n_3, n_in (show 6 * i + 1 < L by omega) (show L < 2 ^ 31 by omega), n_cl (show 6 * i + 1 < 2 ^ 31 by omega), n_in (show 6 * i + 2 < L by omega) (show L < 2 ^ 31 by omega), n_cl (show 6 * i + 2 < 2 ^ 31 by omega), n_in (show 6 * i + 3 < L by omega) (show L < 2 ^ 31 by omega), n_cl (show 6 * i + 3 < 2 ^ 31 by omega), lc1, lc2, lc3, ls1, ls2, ls3, or_true]
  refine c_why hX hI fun G1 hX1 hF1 => ?_
  have hH := hW.clsX hX1 hF1
  obtain ⟨-, hM1, -, -, -, ⟨d1, d2, d3⟩, -⟩ := id hH
  have m1 := hM1.1.1
  simp only [ent, entL, isL_int, isL_rf, isL_long, locS, List.length_cons, List.length_nil, List.cons_append, List.nil_append, List.replicate_succ, List.replicate_zero, Bool.false_eq_true, if_false, if_true, true_and, and_true, Nat.reduceAdd, Nat.reduceSub, Nat.reduceLeDiff, Nat.zero_le, Nat.le_refl, Nat.zero_add, Nat.add_zero, bI_0, bI_1, bI_n, Nat.reduceEqDiff, false_and, and_false, and_self, e_137_450, e_137_451, e_137_452, e_137_453, e_137_454, e_137_455, e_137_456, e_137_457, e_137_458, e_137_459, e_137_460, e_137_461, e_137_462, e_137_463, e_137_464, e_137_465, e_137_466, m1, d1, d2, d3, n_1, n_2, n_3, n_in (show 6 * i + 1 < L by omega) (show L < 2 ^ 31 by omega), n_cl (show 6 * i + 1 < 2 ^ 31 by omega), n_in (show 6 * i + 2 < L by omega) (show L < 2 ^ 31 by omega), n_cl (show 6 * i + 2 < 2 ^ 31 by omega), n_in (show 6 * i + 3 < L by omega) (show L < 2 ^ 31 by omega), n_cl (show 6 * i + 3 < 2 ^ 31 by omega), lc1, lc2, lc3, ls1, ls2, ls3, or_true]
  refine r_why hM1 hI ?_
  have hW2 := hH.refS hI hT
  simp only [ent, entL, isL_int, isL_rf, isL_long, locS, List.length_cons, List.length_nil, List.cons_append, List.nil_append, List.replicate_succ, List.replicate_zero, Bool.false_eq_true, if_false, if_true, true_and, and_true, Nat.reduceAdd, Nat.reduceSub, Nat.reduceLeDiff, Nat.zero_le, Nat.le_refl, Nat.zero_add, Nat.add_zero, bI_0, bI_1, bI_n, Nat.reduceEqDiff, false_and, and_false, and_self, e_137_469]
  exact nx _ _ _ _ _ hW2 (by omega) (by omega)
set_option maxRecDepth 8000 in
theorem w_book (hW : Wd G z x b L xs S) (hi : 6 * i + 6 ≤ L) (hL : L ≤ 3072) (hc : c ≤ 10000) (hs : s ≤ 100000) (nx : Nx R x b L xs i c s) : WP 12 137 R 474 [some (va_rf (some b)), some (va_rf (some x)), some (va_rf (some (x + 12))), some (.int (nI (6 * i)))] [] G z c s := by
  obtain ⟨⟨ta, ha, ca, hX⟩, hM, hI, hT, hB, hz, hb, ⟨b1, b2, b3⟩, hS⟩ := id hW
  have x1 := hX.1.1
  have lc1 : c ≤ 600000 := by omega
  have lc2 : c + 1 ≤ 600000 := by omega
  have lc3 : c + 14 ≤ 600000 := by omega
  have ls1 : s ≤ 7302249 := by omega
  have ls2 : s + 4 ≤ 7302249 := by omega
  have ls3 : s + 58 ≤ 7302249 := by omega
  simp only [ent, entL, isL_int, isL_rf, isL_long, locS, List.length_cons, List.length_nil, List.cons_append, List.nil_append, List.replicate_succ, List.replicate_zero, Bool.false_eq_true, if_false, if_true, true_and, and_true, Nat.reduceAdd, Nat.reduceSub, Nat.reduceLeDiff, Nat.zero_le, Nat.le_refl, Nat.zero_add, Nat.add_zero, bI_0, bI_1, bI_n, Nat.reduceEqDiff, false_and, and_false, and_self, e_137_474, e_137_475, e_137_476, e_137_477, e_137_478, e_137_479, e_137_480, e_137_481, e_137_482, e_137_483, e_137_484, e_137_485, e_137_486, e_137_487, e_137_488, e_137_489, e_137_490, x1, b1, b2, b3, n_1, n_2, n_3, n_in (show 6 * i + 1 < L by omega) (show L < 2 ^ 31 by omega), n_cl (show 6 * i + 1 < 2 ^ 31 by omega), n_in (show 6 * i + 2 < L by omega) (show L < 2 ^ 31 by omega), n_cl (show 6 * i + 2 < 2 ^ 31 by omega), n_in (show 6 * i + 3 < L by omega) (show L < 2 ^ 31 by omega), n_cl (show 6 * i + 3 < 2 ^ 31 by omega), lc1, lc2, lc3, ls1, ls2, ls3, or_true]
  refine c_book hX hI fun G1 hX1 hF1 => ?_
  have hH := hW.clsX hX1 hF1
  obtain ⟨-, hM1, -, -, -, ⟨d1, d2, d3⟩, -⟩ := id hH
  have m1 := hM1.1.1
  simp only [ent, entL, isL_int, isL_rf, isL_long, locS, List.length_cons, List.length_nil, List.cons_append, List.nil_append, List.replicate_succ, List.replicate_zero, Bool.false_eq_true, if_false, if_true, true_and, and_true, Nat.reduceAdd, Nat.reduceSub, Nat.reduceLeDiff, Nat.zero_le, Nat.le_refl, Nat.zero_add, Nat.add_zero, bI_0, bI_1, bI_n, Nat.reduceEqDiff, false_and, and_false, and_self, e_137_493, e_137_494, e_137_495, e_137_496, e_137_497, e_137_498, e_137_499, e_137_500, e_137_501, e_137_502, e_137_503, e_137_504, e_137_505, e_137_506, e_137_507, e_137_508, e_137_509, m1, d1, d2, d3, n_1, n_2, n_3, n_in (show 6 * i + 1 < L by omega) (show L < 2 ^ 31 by omega), n_cl (show 6 * i + 1 < 2 ^ 31 by omega), n_in (show 6 * i + 2 < L by omega) (show L < 2 ^ 31 by omega), n_cl (show 6 * i + 2 < 2 ^ 31 by omega), n_in (show 6 * i + 3 < L by omega) (show L < 2 ^ 31 by omega), n_cl (show 6 * i + 3 < 2 ^ 31 by omega), lc1, lc2, lc3, ls1, ls2, ls3, or_true]
  refine d_book hM1 hI fun G2 hM2 hF2 => ?_
  have hW2 := hH.ref hM2 hF2 (inv_book hI) (invT_of tT_book hT)
  simp only [ent, entL, isL_int, isL_rf, isL_long, locS, List.length_cons, List.length_nil, List.cons_append, List.nil_append, List.replicate_succ, List.replicate_zero, Bool.false_eq_true, if_false, if_true, true_and, and_true, Nat.reduceAdd, Nat.reduceSub, Nat.reduceLeDiff, Nat.zero_le, Nat.le_refl, Nat.zero_add, Nat.add_zero, bI_0, bI_1, bI_n, Nat.reduceEqDiff, false_and, and_false, and_self, e_137_512]
  exact nx _ _ _ _ _ hW2 (by omega) (by omega)
set_option maxRecDepth 8000 in
theorem w_cancel (hW : Wd G z x b L xs S) (hi : 6 * i + 6 ≤ L) (hL : L ≤ 3072) (hc : c ≤ 10000) (hs : s ≤ 100000) (nx : Nx R x b L xs i c s) : WP 12 137 R 517 [some (va_rf (some b)), some (va_rf (some x)), some (va_rf (some (x + 12))), some (.int (nI (6 * i)))] [] G z c s := by
  obtain ⟨⟨ta, ha, ca, hX⟩, hM, hI, hT, hB, hz, hb, ⟨b1, b2, b3⟩, hS⟩ := id hW
  have x1 := hX.1.1
  have lc1 : c ≤ 600000 := by omega
  have lc2 : c + 1 ≤ 600000 := by omega
  have lc3 : c + 14 ≤ 600000 := by omega
  have ls1 : s ≤ 7302249 := by omega
  have ls2 : s + 4 ≤ 7302249 := by omega
  have ls3 : s + 58 ≤ 7302249 := by omega
  simp only [ent, entL, isL_int, isL_rf, isL_long, locS, List.length_cons, List.length_nil, List.cons_append, List.nil_append, List.replicate_succ, List.replicate_zero, Bool.false_eq_true, if_false, if_true, true_and, and_true, Nat.reduceAdd, Nat.reduceSub, Nat.reduceLeDiff, Nat.zero_le, Nat.le_refl, Nat.zero_add, Nat.add_zero, bI_0, bI_1, bI_n, Nat.reduceEqDiff, false_and, and_false, and_self, e_137_517, e_137_518, e_137_519, e_137_520, e_137_521, e_137_522, e_137_523, e_137_524, e_137_525, e_137_526, e_137_527, e_137_528, x1, b1, b2, b3, n_1, n_2, n_in (show 6 * i + 1 < L by omega) (show L < 2 ^ 31 by omega), n_cl (show 6 * i + 1 < 2 ^ 31 by omega), n_in (show 6 * i + 2 < L by omega) (show L < 2 ^ 31 by omega), n_cl (show 6 * i + 2 < 2 ^ 31 by omega), lc1, lc2, lc3, ls1, ls2, ls3, or_true]
  refine c_cancel hX hI fun G1 hX1 hF1 => ?_
  have hH := hW.clsX hX1 hF1
  obtain ⟨-, hM1, -, -, -, ⟨d1, d2, d3⟩, -⟩ := id hH
  have m1 := hM1.1.1
  simp only [ent, entL, isL_int, isL_rf, isL_long, locS, List.length_cons, List.length_nil, List.cons_append, List.nil_append, List.replicate_succ, List.replicate_zero, Bool.false_eq_true, if_false, if_true, true_and, and_true, Nat.reduceAdd, Nat.reduceSub, Nat.reduceLeDiff, Nat.zero_le, Nat.le_refl, Nat.zero_add, Nat.add_zero, bI_0, bI_1, bI_n, Nat.reduceEqDiff, false_and, and_false, and_self, e_137_531, e_137_532, e_137_533, e_137_534, e_137_535, e_137_536, e_137_537, e_137_538, e_137_539, e_137_540, e_137_541, e_137_542, m1, d1, d2, d3, n_1, n_2, n_in (show 6 * i + 1 < L by omega) (show L < 2 ^ 31 by omega), n_cl (show 6 * i + 1 < 2 ^ 31 by omega), n_in (show 6 * i + 2 < L by omega) (show L < 2 ^ 31 by omega), n_cl (show 6 * i + 2 < 2 ^ 31 by omega), lc1, lc2, lc3, ls1, ls2, ls3, or_true]
  refine d_cancel hM1 hI fun G2 hM2 hF2 => ?_
  have hW2 := hH.ref hM2 hF2 (inv_cancel hI) (invT_of tT_cancel hT)
  simp only [ent, entL, isL_int, isL_rf, isL_long, locS, List.length_cons, List.length_nil, List.cons_append, List.nil_append, List.replicate_succ, List.replicate_zero, Bool.false_eq_true, if_false, if_true, true_and, and_true, Nat.reduceAdd, Nat.reduceSub, Nat.reduceLeDiff, Nat.zero_le, Nat.le_refl, Nat.zero_add, Nat.add_zero, bI_0, bI_1, bI_n, Nat.reduceEqDiff, false_and, and_false, and_self, e_137_545]
  exact nx _ _ _ _ _ hW2 (by omega) (by omega)
set_option maxRecDepth 8000 in
theorem w_where (hW : Wd G z x b L xs S) (hi : 6 * i + 6 ≤ L) (hL : L ≤ 3072) (hc : c ≤ 10000) (hs : s ≤ 100000) (nx : Nx R x b L xs i c s) : WP 12 137 R 550 [some (va_rf (some b)), some (va_rf (some x)), some (va_rf (some (x + 12))), some (.int (nI (6 * i)))] [] G z c s := by
  obtain ⟨⟨ta, ha, ca, hX⟩, hM, hI, hT, hB, hz, hb, ⟨b1, b2, b3⟩, hS⟩ := id hW
  have x1 := hX.1.1
  have lc1 : c ≤ 600000 := by omega
  have lc2 : c + 1 ≤ 600000 := by omega
  have lc3 : c + 14 ≤ 600000 := by omega
  have ls1 : s ≤ 7302249 := by omega
  have ls2 : s + 4 ≤ 7302249 := by omega
  have ls3 : s + 58 ≤ 7302249 := by omega
  simp only [ent, entL, isL_int, isL_rf, isL_long, locS, List.length_cons, List.length_nil, List.cons_append, List.nil_append, List.replicate_succ, List.replicate_zero, Bool.false_eq_true, if_false, if_true, true_and, and_true, Nat.reduceAdd, Nat.reduceSub, Nat.reduceLeDiff, Nat.zero_le, Nat.le_refl, Nat.zero_add, Nat.add_zero, bI_0, bI_1, bI_n, Nat.reduceEqDiff, false_and, and_false, and_self, e_137_550, e_137_551, e_137_552, e_137_553, e_137_554, e_137_555, e_137_556, e_137_557, e_137_558, e_137_559, e_137_560, e_137_561, x1, b1, b2, b3, n_1, n_2, n_in (show 6 * i + 1 < L by omega) (show L < 2 ^ 31 by omega), n_cl (show 6 * i + 1 < 2 ^ 31 by omega), n_in (show 6 * i + 2 < L by omega) (show L < 2 ^ 31 by omega), n_cl (show 6 * i + 2 < 2 ^ 31 by omega), lc1, lc2, lc3, ls1, ls2, ls3, or_true]
  refine c_where hX hI ?_
  have hH := hW.same
  obtain ⟨-, hM1, -, -, -, ⟨d1, d2, d3⟩, -⟩ := id hH
  have m1 := hM1.1.1
  simp only [ent, entL, isL_int, isL_rf, isL_long, locS, List.length_cons, List.length_nil, List.cons_append, List.nil_append, List.replicate_succ, List.replicate_zero, Bool.false_eq_true, if_false, if_true, true_and, and_true, Nat.reduceAdd, Nat.reduceSub, Nat.reduceLeDiff, Nat.zero_le, Nat.le_refl, Nat.zero_add, Nat.add_zero, bI_0, bI_1, bI_n, Nat.reduceEqDiff, false_and, and_false, and_self, e_137_564, e_137_565, e_137_566, e_137_567, e_137_568, e_137_569, e_137_570, e_137_571, e_137_572, e_137_573, e_137_574, e_137_575, m1, d1, d2, d3, n_1, n_2, n_in (show 6 * i + 1 < L by omega) (show L < 2 ^ 31 by omega), n_cl (show 6 * i + 1 < 2 ^ 31 by omega), n_in (show 6 * i + 2 < L by omega) (show L < 2 ^ 31 by omega), n_cl (show 6 * i + 2 < 2 ^ 31 by omega), lc1, lc2, lc3, ls1, ls2, ls3, or_true]
  refine d_where hM1 hI ?_
  have hW2 := hH.refS hI hT
  simp only [ent, entL, isL_int, isL_rf, isL_long, locS, List.length_cons, List.length_nil, List.cons_append, List.nil_append, List.replicate_succ, List.replicate_zero, Bool.false_eq_true, if_false, if_true, true_and, and_true, Nat.reduceAdd, Nat.reduceSub, Nat.reduceLeDiff, Nat.zero_le, Nat.le_refl, Nat.zero_add, Nat.add_zero, bI_0, bI_1, bI_n, Nat.reduceEqDiff, false_and, and_false, and_self, e_137_578]
  exact nx _ _ _ _ _ hW2 (by omega) (by omega)
set_option maxRecDepth 8000 in
theorem w_bill (hW : Wd G z x b L xs S) (hi : 6 * i + 6 ≤ L) (hL : L ≤ 3072) (hc : c ≤ 10000) (hs : s ≤ 100000) (nx : Nx R x b L xs i c s) : WP 12 137 R 583 [some (va_rf (some b)), some (va_rf (some x)), some (va_rf (some (x + 12))), some (.int (nI (6 * i)))] [] G z c s := by
  obtain ⟨⟨ta, ha, ca, hX⟩, hM, hI, hT, hB, hz, hb, ⟨b1, b2, b3⟩, hS⟩ := id hW
  have x1 := hX.1.1
  have lc1 : c ≤ 600000 := by omega
  have lc2 : c + 1 ≤ 600000 := by omega
  have lc3 : c + 14 ≤ 600000 := by omega
  have ls1 : s ≤ 7302249 := by omega
  have ls2 : s + 4 ≤ 7302249 := by omega
  have ls3 : s + 58 ≤ 7302249 := by omega
  simp only [ent, entL, isL_int, isL_rf, isL_long, locS, List.length_cons, List.length_nil, List.cons_append, List.nil_append, List.replicate_succ, List.replicate_zero, Bool.false_eq_true, if_false, if_true, true_and, and_true, Nat.reduceAdd, Nat.reduceSub, Nat.reduceLeDiff, Nat.zero_le, Nat.le_refl, Nat.zero_add, Nat.add_zero, bI_0, bI_1, bI_n, Nat.reduceEqDiff, false_and, and_false, and_self, e_137_583, e_137_584, e_137_585, e_137_586, e_137_587, e_137_588, e_137_589, e_137_590, e_137_591, e_137_592, e_137_593, e_137_594, e_137_595, e_137_596, e_137_597, e_137_598, e_137_599, x1, b1, b2, b3, n_1, n_2, n_3, n_in (show 6 * i + 1 < L by omega) (show L < 2 ^ 31 by omega), n_cl (show 6 * i + 1 < 2 ^ 31 by omega), n_in (show 6 * i + 2 < L by omega) (show L < 2 ^ 31 by omega), n_cl (show 6 * i + 2 < 2 ^ 31 by omega), n_in (show 6 * i + 3 < L by omega) (show L < 2 ^ 31 by omega), n_cl (show 6 * i + 3 < 2 ^ 31 by omega), lc1, lc2, lc3, ls1, ls2, ls3, or_true]
  refine c_bill hX hI fun G1 hX1 hF1 => ?_
  have hH := hW.clsX hX1 hF1
  obtain ⟨-, hM1, -, -, -, ⟨d1, d2, d3⟩, -⟩ := id hH
  have m1 := hM1.1.1
  simp only [ent, entL, isL_int, isL_rf, isL_long, locS, List.length_cons, List.length_nil, List.cons_append, List.nil_append, List.replicate_succ, List.replicate_zero, Bool.false_eq_true, if_false, if_true, true_and, and_true, Nat.reduceAdd, Nat.reduceSub, Nat.reduceLeDiff, Nat.zero_le, Nat.le_refl, Nat.zero_add, Nat.add_zero, bI_0, bI_1, bI_n, Nat.reduceEqDiff, false_and, and_false, and_self, e_137_602, e_137_603, e_137_604, e_137_605, e_137_606, e_137_607, e_137_608, e_137_609, e_137_610, e_137_611, e_137_612, e_137_613, e_137_614, e_137_615, e_137_616, e_137_617, e_137_618, m1, d1, d2, d3, n_1, n_2, n_3, n_in (show 6 * i + 1 < L by omega) (show L < 2 ^ 31 by omega), n_cl (show 6 * i + 1 < 2 ^ 31 by omega), n_in (show 6 * i + 2 < L by omega) (show L < 2 ^ 31 by omega), n_cl (show 6 * i + 2 < 2 ^ 31 by omega), n_in (show 6 * i + 3 < L by omega) (show L < 2 ^ 31 by omega), n_cl (show 6 * i + 3 < 2 ^ 31 by omega), lc1, lc2, lc3, ls1, ls2, ls3, or_true]
  refine d_bill hM1 hI ?_
  have hW2 := hH.refS hI hT
  simp only [ent, entL, isL_int, isL_rf, isL_long, locS, List.length_cons, List.length_nil, List.cons_append, List.nil_append, List.replicate_succ, List.replicate_zero, Bool.false_eq_true, if_false, if_true, true_and, and_true, Nat.reduceAdd, Nat.reduceSub, Nat.reduceLeDiff, Nat.zero_le, Nat.le_refl, Nat.zero_add, Nat.add_zero, bI_0, bI_1, bI_n, Nat.reduceEqDiff, false_and, and_false, and_self, e_137_621]
  exact nx _ _ _ _ _ hW2 (by omega) (by omega)
set_option maxRecDepth 8000 in
theorem w_order (hW : Wd G z x b L xs S) (hi : 6 * i + 6 ≤ L) (hL : L ≤ 3072) (hc : c ≤ 10000) (hs : s ≤ 100000) (nx : Nx R x b L xs i c s) : WP 12 137 R 626 [some (va_rf (some b)), some (va_rf (some x)), some (va_rf (some (x + 12))), some (.int (nI (6 * i)))] [] G z c s := by
  obtain ⟨⟨ta, ha, ca, hX⟩, hM, hI, hT, hB, hz, hb, ⟨b1, b2, b3⟩, hS⟩ := id hW
  have x1 := hX.1.1
  have lc1 : c ≤ 600000 := by omega
  have lc2 : c + 1 ≤ 600000 := by omega
  have lc3 : c + 14 ≤ 600000 := by omega
  have ls1 : s ≤ 7302249 := by omega
  have ls2 : s + 4 ≤ 7302249 := by omega
  have ls3 : s + 58 ≤ 7302249 := by omega
  simp only [ent, entL, isL_int, isL_rf, isL_long, locS, List.length_cons, List.length_nil, List.cons_append, List.nil_append, List.replicate_succ, List.replicate_zero, Bool.false_eq_true, if_false, if_true, true_and, and_true, Nat.reduceAdd, Nat.reduceSub, Nat.reduceLeDiff, Nat.zero_le, Nat.le_refl, Nat.zero_add, Nat.add_zero, bI_0, bI_1, bI_n, Nat.reduceEqDiff, false_and, and_false, and_self, e_137_626, e_137_627, e_137_628, e_137_629, e_137_630, e_137_631, e_137_632, e_137_633, e_137_634, e_137_635, e_137_636, e_137_637, e_137_638, e_137_639, e_137_640, e_137_641, e_137_642, x1, b1, b2, b3, n_1, n_2, n_3, n_in (show 6 * i + 1 < L by omega) (show L < 2 ^ 31 by omega), n_cl (show 6 * i + 1 < 2 ^ 31 by omega), n_in (show 6 * i + 2 < L by omega) (show L < 2 ^ 31 by omega), n_cl (show 6 * i + 2 < 2 ^ 31 by omega), n_in (show 6 * i + 3 < L by omega) (show L < 2 ^ 31 by omega), n_cl (show 6 * i + 3 < 2 ^ 31 by omega), lc1, lc2, lc3, ls1, ls2, ls3, or_true]
  refine c_order hX hI fun G1 hX1 hF1 => ?_
  have hH := hW.clsX hX1 hF1
  obtain ⟨-, hM1, -, -, -, ⟨d1, d2, d3⟩, -⟩ := id hH
  have m1 := hM1.1.1
  simp only [ent, entL, isL_int, isL_rf, isL_long, locS, List.length_cons, List.length_nil, List.cons_append, List.nil_append, List.replicate_succ, List.replicate_zero, Bool.false_eq_true, if_false, if_true, true_and, and_true, Nat.reduceAdd, Nat.reduceSub, Nat.reduceLeDiff, Nat.zero_le, Nat.le_refl, Nat.zero_add, Nat.add_zero, bI_0, bI_1, bI_n, Nat.reduceEqDiff, false_and, and_false, and_self, e_137_645, e_137_646, e_137_647, e_137_648, e_137_649, e_137_650, e_137_651, e_137_652, e_137_653, e_137_654, e_137_655, e_137_656, e_137_657, e_137_658, e_137_659, e_137_660, e_137_661, m1, d1, d2, d3, n_1, n_2, n_3, n_in (show 6 * i + 1 < L by omega) (show L < 2 ^ 31 by omega), n_cl (show 6 * i + 1 < 2 ^ 31 by omega), n_in (show 6 * i + 2 < L by omega) (show L < 2 ^ 31 by omega), n_cl (show 6 * i + 2 < 2 ^ 31 by omega), n_in (show 6 * i + 3 < L by omega) (show L < 2 ^ 31 by omega), n_cl (show 6 * i + 3 < 2 ^ 31 by omega), lc1, lc2, lc3, ls1, ls2, ls3, or_true]
  refine d_order hM1 hI fun G2 hM2 hF2 => ?_
  have hW2 := hH.ref hM2 hF2 hI hT
  simp only [ent, entL, isL_int, isL_rf, isL_long, locS, List.length_cons, List.length_nil, List.cons_append, List.nil_append, List.replicate_succ, List.replicate_zero, Bool.false_eq_true, if_false, if_true, true_and, and_true, Nat.reduceAdd, Nat.reduceSub, Nat.reduceLeDiff, Nat.zero_le, Nat.le_refl, Nat.zero_add, Nat.add_zero, bI_0, bI_1, bI_n, Nat.reduceEqDiff, false_and, and_false, and_self, e_137_664]
  exact nx _ _ _ _ _ hW2 (by omega) (by omega)
set_option maxRecDepth 8000 in
theorem w_waits (hW : Wd G z x b L xs S) (hi : 6 * i + 6 ≤ L) (hL : L ≤ 3072) (hc : c ≤ 10000) (hs : s ≤ 100000) (nx : Nx R x b L xs i c s) : WP 12 137 R 669 [some (va_rf (some b)), some (va_rf (some x)), some (va_rf (some (x + 12))), some (.int (nI (6 * i)))] [] G z c s := by
  obtain ⟨⟨ta, ha, ca, hX⟩, hM, hI, hT, hB, hz, hb, ⟨b1, b2, b3⟩, hS⟩ := id hW
  have x1 := hX.1.1
  have lc1 : c ≤ 600000 := by omega
  have lc2 : c + 1 ≤ 600000 := by omega
  have lc3 : c + 14 ≤ 600000 := by omega
  have ls1 : s ≤ 7302249 := by omega
  have ls2 : s + 4 ≤ 7302249 := by omega
  have ls3 : s + 58 ≤ 7302249 := by omega
  simp only [ent, entL, isL_int, isL_rf, isL_long, locS, List.length_cons, List.length_nil, List.cons_append, List.nil_append, List.replicate_succ, List.replicate_zero, Bool.false_eq_true, if_false, if_true, true_and, and_true, Nat.reduceAdd, Nat.reduceSub, Nat.reduceLeDiff, Nat.zero_le, Nat.le_refl, Nat.zero_add, Nat.add_zero, bI_0, bI_1, bI_n, Nat.reduceEqDiff, false_and, and_false, and_self, e_137_669, e_137_670, e_137_671, e_137_672, e_137_673, e_137_674, e_137_675, e_137_676, e_137_677, e_137_678, e_137_679, e_137_680, x1, b1, b2, b3, n_1, n_2, n_in (show 6 * i + 1 < L by omega) (show L < 2 ^ 31 by omega), n_cl (show 6 * i + 1 < 2 ^ 31 by omega), n_in (show 6 * i + 2 < L by omega) (show L < 2 ^ 31 by omega), n_cl (show 6 * i + 2 < 2 ^ 31 by omega), lc1, lc2, lc3, ls1, ls2, ls3, or_true]
  refine c_waits hX hI fun G1 hX1 hF1 => ?_
  have hH := hW.clsX hX1 hF1
  obtain ⟨-, hM1, -, -, -, ⟨d1, d2, d3⟩, -⟩ := id hH
  have m1 := hM1.1.1
  simp only [ent, entL, isL_int, isL_rf, isL_long, locS, List.length_cons, List.length_nil, List.cons_append, List.nil_append, List.replicate_succ, List.replicate_zero, Bool.false_eq_true, if_false, if_true, true_and, and_true, Nat.reduceAdd, Nat.reduceSub, Nat.reduceLeDiff, Nat.zero_le, Nat.le_refl, Nat.zero_add, Nat.add_zero, bI_0, bI_1, bI_n, Nat.reduceEqDiff, false_and, and_false, and_self, e_137_683, e_137_684, e_137_685, e_137_686, e_137_687, e_137_688, e_137_689, e_137_690, e_137_691, e_137_692, e_137_693, e_137_694, m1, d1, d2, d3, n_1, n_2, n_in (show 6 * i + 1 < L by omega) (show L < 2 ^ 31 by omega), n_cl (show 6 * i + 1 < 2 ^ 31 by omega), n_in (show 6 * i + 2 < L by omega) (show L < 2 ^ 31 by omega), n_cl (show 6 * i + 2 < 2 ^ 31 by omega), lc1, lc2, lc3, ls1, ls2, ls3, or_true]
  refine d_waits hM1 hI fun G2 hM2 hF2 => ?_
  have hW2 := hH.ref hM2 hF2 hI hT
  simp only [ent, entL, isL_int, isL_rf, isL_long, locS, List.length_cons, List.length_nil, List.cons_append, List.nil_append, List.replicate_succ, List.replicate_zero, Bool.false_eq_true, if_false, if_true, true_and, and_true, Nat.reduceAdd, Nat.reduceSub, Nat.reduceLeDiff, Nat.zero_le, Nat.le_refl, Nat.zero_add, Nat.add_zero, bI_0, bI_1, bI_n, Nat.reduceEqDiff, false_and, and_false, and_self, e_137_697]
  exact nx _ _ _ _ _ hW2 (by omega) (by omega)
set_option maxRecDepth 8000 in
theorem w_fail (hW : Wd G z x b L xs S) (hi : 6 * i + 6 ≤ L) (hL : L ≤ 3072) (hc : c ≤ 10000) (hs : s ≤ 100000) (nx : Nx R x b L xs i c s) : WP 12 137 R 702 [some (va_rf (some b)), some (va_rf (some x)), some (va_rf (some (x + 12))), some (.int (nI (6 * i)))] [] G z c s := by
  obtain ⟨⟨ta, ha, ca, hX⟩, hM, hI, hT, hB, hz, hb, ⟨b1, b2, b3⟩, hS⟩ := id hW
  have x1 := hX.1.1
  have lc1 : c ≤ 600000 := by omega
  have lc2 : c + 1 ≤ 600000 := by omega
  have lc3 : c + 14 ≤ 600000 := by omega
  have ls1 : s ≤ 7302249 := by omega
  have ls2 : s + 4 ≤ 7302249 := by omega
  have ls3 : s + 58 ≤ 7302249 := by omega
  simp only [ent, entL, isL_int, isL_rf, isL_long, locS, List.length_cons, List.length_nil, List.cons_append, List.nil_append, List.replicate_succ, List.replicate_zero, Bool.false_eq_true, if_false, if_true, true_and, and_true, Nat.reduceAdd, Nat.reduceSub, Nat.reduceLeDiff, Nat.zero_le, Nat.le_refl, Nat.zero_add, Nat.add_zero, bI_0, bI_1, bI_n, Nat.reduceEqDiff, false_and, and_false, and_self, e_137_702, e_137_703, e_137_704, e_137_705, e_137_706, e_137_707, e_137_708, e_137_709, e_137_710, e_137_711, e_137_712, e_137_713, x1, b1, b2, b3, n_1, n_2, n_in (show 6 * i + 1 < L by omega) (show L < 2 ^ 31 by omega), n_cl (show 6 * i + 1 < 2 ^ 31 by omega), n_in (show 6 * i + 2 < L by omega) (show L < 2 ^ 31 by omega), n_cl (show 6 * i + 2 < 2 ^ 31 by omega), lc1, lc2, lc3, ls1, ls2, ls3, or_true]
  refine c_fail hX hI fun G1 hX1 hF1 => ?_
  have hH := hW.clsX hX1 hF1
  obtain ⟨-, hM1, -, -, -, ⟨d1, d2, d3⟩, -⟩ := id hH
  have m1 := hM1.1.1
  simp only [ent, entL, isL_int, isL_rf, isL_long, locS, List.length_cons, List.length_nil, List.cons_append, List.nil_append, List.replicate_succ, List.replicate_zero, Bool.false_eq_true, if_false, if_true, true_and, and_true, Nat.reduceAdd, Nat.reduceSub, Nat.reduceLeDiff, Nat.zero_le, Nat.le_refl, Nat.zero_add, Nat.add_zero, bI_0, bI_1, bI_n, Nat.reduceEqDiff, false_and, and_false, and_self, e_137_716, e_137_717, e_137_718, e_137_719, e_137_720, e_137_721, e_137_722, e_137_723, e_137_724, e_137_725, e_137_726, e_137_727, m1, d1, d2, d3, n_1, n_2, n_in (show 6 * i + 1 < L by omega) (show L < 2 ^ 31 by omega), n_cl (show 6 * i + 1 < 2 ^ 31 by omega), n_in (show 6 * i + 2 < L by omega) (show L < 2 ^ 31 by omega), n_cl (show 6 * i + 2 < 2 ^ 31 by omega), lc1, lc2, lc3, ls1, ls2, ls3, or_true]
  refine d_fail hM1 hI fun G2 hM2 hF2 => ?_
  have hW2 := hH.ref hM2 hF2 (inv_fail hI) (invT_of tT_fail hT)
  simp only [ent, entL, isL_int, isL_rf, isL_long, locS, List.length_cons, List.length_nil, List.cons_append, List.nil_append, List.replicate_succ, List.replicate_zero, Bool.false_eq_true, if_false, if_true, true_and, and_true, Nat.reduceAdd, Nat.reduceSub, Nat.reduceLeDiff, Nat.zero_le, Nat.le_refl, Nat.zero_add, Nat.add_zero, bI_0, bI_1, bI_n, Nat.reduceEqDiff, false_and, and_false, and_self, e_137_730]
  exact nx _ _ _ _ _ hW2 (by omega) (by omega)
set_option maxRecDepth 8000 in
theorem w_fill (hW : Wd G z x b L xs S) (hi : 6 * i + 6 ≤ L) (hL : L ≤ 3072) (hc : c ≤ 10000) (hs : s ≤ 100000) (nx : Nx R x b L xs i c s) : WP 12 137 R 735 [some (va_rf (some b)), some (va_rf (some x)), some (va_rf (some (x + 12))), some (.int (nI (6 * i)))] [] G z c s := by
  obtain ⟨⟨ta, ha, ca, hX⟩, hM, hI, hT, hB, hz, hb, ⟨b1, b2, b3⟩, hS⟩ := id hW
  have x1 := hX.1.1
  have lc1 : c ≤ 600000 := by omega
  have lc2 : c + 1 ≤ 600000 := by omega
  have lc3 : c + 14 ≤ 600000 := by omega
  have ls1 : s ≤ 7302249 := by omega
  have ls2 : s + 4 ≤ 7302249 := by omega
  have ls3 : s + 58 ≤ 7302249 := by omega
  simp only [ent, entL, isL_int, isL_rf, isL_long, locS, List.length_cons, List.length_nil, List.cons_append, List.nil_append, List.replicate_succ, List.replicate_zero, Bool.false_eq_true, if_false, if_true, true_and, and_true, Nat.reduceAdd, Nat.reduceSub, Nat.reduceLeDiff, Nat.zero_le, Nat.le_refl, Nat.zero_add, Nat.add_zero, bI_0, bI_1, bI_n, Nat.reduceEqDiff, false_and, and_false, and_self, e_137_735, e_137_736, e_137_737, e_137_738, e_137_739, e_137_740, e_137_741, e_137_742, e_137_743, e_137_744, e_137_745, e_137_746, e_137_747, e_137_748, e_137_749, e_137_750, e_137_751, x1, b1, b2, b3, n_1, n_2, n_3, n_in (show 6 * i + 1 < L by omega) (show L < 2 ^ 31 by omega), n_cl (show 6 * i + 1 < 2 ^ 31 by omega), n_in (show 6 * i + 2 < L by omega) (show L < 2 ^ 31 by omega), n_cl (show 6 * i + 2 < 2 ^ 31 by omega), n_in (show 6 * i + 3 < L by omega) (show L < 2 ^ 31 by omega), n_cl (show 6 * i + 3 < 2 ^ 31 by omega), lc1, lc2, lc3, ls1, ls2, ls3, or_true]
  refine c_fill hX hI fun G1 hX1 hF1 => ?_
  have hH := hW.clsX hX1 hF1
  obtain ⟨-, hM1, -, -, -, ⟨d1, d2, d3⟩, -⟩ := id hH
  have m1 := hM1.1.1
  simp only [ent, entL, isL_int, isL_rf, isL_long, locS, List.length_cons, List.length_nil, List.cons_append, List.nil_append, List.replicate_succ, List.replicate_zero, Bool.false_eq_true, if_false, if_true, true_and, and_true, Nat.reduceAdd, Nat.reduceSub, Nat.reduceLeDiff, Nat.zero_le, Nat.le_refl, Nat.zero_add, Nat.add_zero, bI_0, bI_1, bI_n, Nat.reduceEqDiff, false_and, and_false, and_self, e_137_754, e_137_755, e_137_756, e_137_757, e_137_758, e_137_759, e_137_760, e_137_761, e_137_762, e_137_763, e_137_764, e_137_765, e_137_766, e_137_767, e_137_768, e_137_769, e_137_770, m1, d1, d2, d3, n_1, n_2, n_3, n_in (show 6 * i + 1 < L by omega) (show L < 2 ^ 31 by omega), n_cl (show 6 * i + 1 < 2 ^ 31 by omega), n_in (show 6 * i + 2 < L by omega) (show L < 2 ^ 31 by omega), n_cl (show 6 * i + 2 < 2 ^ 31 by omega), n_in (show 6 * i + 3 < L by omega) (show L < 2 ^ 31 by omega), n_cl (show 6 * i + 3 < 2 ^ 31 by omega), lc1, lc2, lc3, ls1, ls2, ls3, or_true]
  refine d_fill hM1 hI fun G2 hM2 hF2 => ?_
  have hW2 := hH.ref hM2 hF2 (inv_fill hI) (invT_of tT_fill hT)
  simp only [ent, entL, isL_int, isL_rf, isL_long, locS, List.length_cons, List.length_nil, List.cons_append, List.nil_append, List.replicate_succ, List.replicate_zero, Bool.false_eq_true, if_false, if_true, true_and, and_true, Nat.reduceAdd, Nat.reduceSub, Nat.reduceLeDiff, Nat.zero_le, Nat.le_refl, Nat.zero_add, Nat.add_zero, bI_0, bI_1, bI_n, Nat.reduceEqDiff, false_and, and_false, and_self, e_137_773]
  exact nx _ _ _ _ _ hW2 (by omega) (by omega)
set_option maxRecDepth 8000 in
theorem w_pay (hW : Wd G z x b L xs S) (hi : 6 * i + 6 ≤ L) (hL : L ≤ 3072) (hc : c ≤ 10000) (hs : s ≤ 100000) (nx : Nx R x b L xs i c s) : WP 12 137 R 778 [some (va_rf (some b)), some (va_rf (some x)), some (va_rf (some (x + 12))), some (.int (nI (6 * i)))] [] G z c s := by
  obtain ⟨⟨ta, ha, ca, hX⟩, hM, hI, hT, hB, hz, hb, ⟨b1, b2, b3⟩, hS⟩ := id hW
  have x1 := hX.1.1
  have lc1 : c ≤ 600000 := by omega
  have lc2 : c + 1 ≤ 600000 := by omega
  have lc3 : c + 14 ≤ 600000 := by omega
  have ls1 : s ≤ 7302249 := by omega
  have ls2 : s + 4 ≤ 7302249 := by omega
  have ls3 : s + 58 ≤ 7302249 := by omega
  simp only [ent, entL, isL_int, isL_rf, isL_long, locS, List.length_cons, List.length_nil, List.cons_append, List.nil_append, List.replicate_succ, List.replicate_zero, Bool.false_eq_true, if_false, if_true, true_and, and_true, Nat.reduceAdd, Nat.reduceSub, Nat.reduceLeDiff, Nat.zero_le, Nat.le_refl, Nat.zero_add, Nat.add_zero, bI_0, bI_1, bI_n, Nat.reduceEqDiff, false_and, and_false, and_self, e_137_778, e_137_779, e_137_780, e_137_781, e_137_782, e_137_783, e_137_784, e_137_785, e_137_786, e_137_787, e_137_788, e_137_789, e_137_790, e_137_791, e_137_792, e_137_793, e_137_794, x1, b1, b2, b3, n_1, n_2, n_3, n_in (show 6 * i + 1 < L by omega) (show L < 2 ^ 31 by omega), n_cl (show 6 * i + 1 < 2 ^ 31 by omega), n_in (show 6 * i + 2 < L by omega) (show L < 2 ^ 31 by omega), n_cl (show 6 * i + 2 < 2 ^ 31 by omega), n_in (show 6 * i + 3 < L by omega) (show L < 2 ^ 31 by omega), n_cl (show 6 * i + 3 < 2 ^ 31 by omega), lc1, lc2, lc3, ls1, ls2, ls3, or_true]
  refine c_pay hX hI ?_
  have hH := hW.same
  obtain ⟨-, hM1, -, -, -, ⟨d1, d2, d3⟩, -⟩ := id hH
  have m1 := hM1.1.1
  simp only [ent, entL, isL_int, isL_rf, isL_long, locS, List.length_cons, List.length_nil, List.cons_append, List.nil_append, List.replicate_succ, List.replicate_zero, Bool.false_eq_true, if_false, if_true, true_and, and_true, Nat.reduceAdd, Nat.reduceSub, Nat.reduceLeDiff, Nat.zero_le, Nat.le_refl, Nat.zero_add, Nat.add_zero, bI_0, bI_1, bI_n, Nat.reduceEqDiff, false_and, and_false, and_self, e_137_797, e_137_798, e_137_799, e_137_800, e_137_801, e_137_802, e_137_803, e_137_804, e_137_805, e_137_806, e_137_807, e_137_808, e_137_809, e_137_810, e_137_811, e_137_812, e_137_813, m1, d1, d2, d3, n_1, n_2, n_3, n_in (show 6 * i + 1 < L by omega) (show L < 2 ^ 31 by omega), n_cl (show 6 * i + 1 < 2 ^ 31 by omega), n_in (show 6 * i + 2 < L by omega) (show L < 2 ^ 31 by omega), n_cl (show 6 * i + 2 < 2 ^ 31 by omega), n_in (show 6 * i + 3 < L by omega) (show L < 2 ^ 31 by omega), n_cl (show 6 * i + 3 < 2 ^ 31 by omega), lc1, lc2, lc3, ls1, ls2, ls3, or_true]
  refine d_pay hM1 hI ?_
  have hW2 := hH.refS hI hT
  simp only [ent, entL, isL_int, isL_rf, isL_long, locS, List.length_cons, List.length_nil, List.cons_append, List.nil_append, List.replicate_succ, List.replicate_zero, Bool.false_eq_true, if_false, if_true, true_and, and_true, Nat.reduceAdd, Nat.reduceSub, Nat.reduceLeDiff, Nat.zero_le, Nat.le_refl, Nat.zero_add, Nat.add_zero, bI_0, bI_1, bI_n, Nat.reduceEqDiff, false_and, and_false, and_self, e_137_816]
  exact nx _ _ _ _ _ hW2 (by omega) (by omega)
set_option maxRecDepth 8000 in
theorem w_turnOf (hW : Wd G z x b L xs S) (hi : 6 * i + 6 ≤ L) (hL : L ≤ 3072) (hc : c ≤ 10000) (hs : s ≤ 100000) (nx : Nx R x b L xs i c s) : WP 12 137 R 821 [some (va_rf (some b)), some (va_rf (some x)), some (va_rf (some (x + 12))), some (.int (nI (6 * i)))] [] G z c s := by
  obtain ⟨⟨ta, ha, ca, hX⟩, hM, hI, hT, hB, hz, hb, ⟨b1, b2, b3⟩, hS⟩ := id hW
  have x1 := hX.1.1
  have lc1 : c ≤ 600000 := by omega
  have lc2 : c + 1 ≤ 600000 := by omega
  have lc3 : c + 14 ≤ 600000 := by omega
  have ls1 : s ≤ 7302249 := by omega
  have ls2 : s + 4 ≤ 7302249 := by omega
  have ls3 : s + 58 ≤ 7302249 := by omega
  simp only [ent, entL, isL_int, isL_rf, isL_long, locS, List.length_cons, List.length_nil, List.cons_append, List.nil_append, List.replicate_succ, List.replicate_zero, Bool.false_eq_true, if_false, if_true, true_and, and_true, Nat.reduceAdd, Nat.reduceSub, Nat.reduceLeDiff, Nat.zero_le, Nat.le_refl, Nat.zero_add, Nat.add_zero, bI_0, bI_1, bI_n, Nat.reduceEqDiff, false_and, and_false, and_self, e_137_821, e_137_822, e_137_823, e_137_824, e_137_825, e_137_826, e_137_827, e_137_828, e_137_829, e_137_830, e_137_831, e_137_832, x1, b1, b2, b3, n_1, n_2, n_in (show 6 * i + 1 < L by omega) (show L < 2 ^ 31 by omega), n_cl (show 6 * i + 1 < 2 ^ 31 by omega), n_in (show 6 * i + 2 < L by omega) (show L < 2 ^ 31 by omega), n_cl (show 6 * i + 2 < 2 ^ 31 by omega), lc1, lc2, lc3, ls1, ls2, ls3, or_true]
  refine c_turnOf hX hI ?_
  have hH := hW.same
  obtain ⟨-, hM1, -, -, -, ⟨d1, d2, d3⟩, -⟩ := id hH
  have m1 := hM1.1.1
  simp only [ent, entL, isL_int, isL_rf, isL_long, locS, List.length_cons, List.length_nil, List.cons_append, List.nil_append, List.replicate_succ, List.replicate_zero, Bool.false_eq_true, if_false, if_true, true_and, and_true, Nat.reduceAdd, Nat.reduceSub, Nat.reduceLeDiff, Nat.zero_le, Nat.le_refl, Nat.zero_add, Nat.add_zero, bI_0, bI_1, bI_n, Nat.reduceEqDiff, false_and, and_false, and_self, e_137_835, e_137_836, e_137_837, e_137_838, e_137_839, e_137_840, e_137_841, e_137_842, e_137_843, e_137_844, e_137_845, e_137_846, m1, d1, d2, d3, n_1, n_2, n_in (show 6 * i + 1 < L by omega) (show L < 2 ^ 31 by omega), n_cl (show 6 * i + 1 < 2 ^ 31 by omega), n_in (show 6 * i + 2 < L by omega) (show L < 2 ^ 31 by omega), n_cl (show 6 * i + 2 < 2 ^ 31 by omega), lc1, lc2, lc3, ls1, ls2, ls3, or_true]
  refine d_turnOf hM1 hI ?_
  have hW2 := hH.refS hI hT
  simp only [ent, entL, isL_int, isL_rf, isL_long, locS, List.length_cons, List.length_nil, List.cons_append, List.nil_append, List.replicate_succ, List.replicate_zero, Bool.false_eq_true, if_false, if_true, true_and, and_true, Nat.reduceAdd, Nat.reduceSub, Nat.reduceLeDiff, Nat.zero_le, Nat.le_refl, Nat.zero_add, Nat.add_zero, bI_0, bI_1, bI_n, Nat.reduceEqDiff, false_and, and_false, and_self, e_137_849]
  exact nx _ _ _ _ _ hW2 (by omega) (by omega)
set_option maxRecDepth 8000 in
theorem w_count (hW : Wd G z x b L xs S) (hi : 6 * i + 6 ≤ L) (hL : L ≤ 3072) (hc : c ≤ 10000) (hs : s ≤ 100000) (nx : Nx R x b L xs i c s) : WP 12 137 R 854 [some (va_rf (some b)), some (va_rf (some x)), some (va_rf (some (x + 12))), some (.int (nI (6 * i)))] [] G z c s := by
  obtain ⟨⟨ta, ha, ca, hX⟩, hM, hI, hT, hB, hz, hb, ⟨b1, b2, b3⟩, hS⟩ := id hW
  have x1 := hX.1.1
  have lc1 : c ≤ 600000 := by omega
  have lc2 : c + 1 ≤ 600000 := by omega
  have lc3 : c + 14 ≤ 600000 := by omega
  have ls1 : s ≤ 7302249 := by omega
  have ls2 : s + 4 ≤ 7302249 := by omega
  have ls3 : s + 58 ≤ 7302249 := by omega
  simp only [ent, entL, isL_int, isL_rf, isL_long, locS, List.length_cons, List.length_nil, List.cons_append, List.nil_append, List.replicate_succ, List.replicate_zero, Bool.false_eq_true, if_false, if_true, true_and, and_true, Nat.reduceAdd, Nat.reduceSub, Nat.reduceLeDiff, Nat.zero_le, Nat.le_refl, Nat.zero_add, Nat.add_zero, bI_0, bI_1, bI_n, Nat.reduceEqDiff, false_and, and_false, and_self, e_137_854, e_137_855, e_137_856, e_137_857, e_137_858, e_137_859, e_137_860, x1, b1, b2, b3, n_1, n_in (show 6 * i + 1 < L by omega) (show L < 2 ^ 31 by omega), n_cl (show 6 * i + 1 < 2 ^ 31 by omega), lc1, lc2, lc3, ls1, ls2, ls3, or_true]
  refine c_count hX ?_
  have hH := hW.same
  obtain ⟨-, hM1, -, -, -, ⟨d1, d2, d3⟩, -⟩ := id hH
  have m1 := hM1.1.1
  simp only [ent, entL, isL_int, isL_rf, isL_long, locS, List.length_cons, List.length_nil, List.cons_append, List.nil_append, List.replicate_succ, List.replicate_zero, Bool.false_eq_true, if_false, if_true, true_and, and_true, Nat.reduceAdd, Nat.reduceSub, Nat.reduceLeDiff, Nat.zero_le, Nat.le_refl, Nat.zero_add, Nat.add_zero, bI_0, bI_1, bI_n, Nat.reduceEqDiff, false_and, and_false, and_self, e_137_863, e_137_864, e_137_865, e_137_866, e_137_867, e_137_868, e_137_869, m1, d1, d2, d3, n_1, n_in (show 6 * i + 1 < L by omega) (show L < 2 ^ 31 by omega), n_cl (show 6 * i + 1 < 2 ^ 31 by omega), lc1, lc2, lc3, ls1, ls2, ls3, or_true]
  refine d_count hM1 ?_
  have hW2 := hH.refS hI hT
  simp only [ent, entL, isL_int, isL_rf, isL_long, locS, List.length_cons, List.length_nil, List.cons_append, List.nil_append, List.replicate_succ, List.replicate_zero, Bool.false_eq_true, if_false, if_true, true_and, and_true, Nat.reduceAdd, Nat.reduceSub, Nat.reduceLeDiff, Nat.zero_le, Nat.le_refl, Nat.zero_add, Nat.add_zero, bI_0, bI_1, bI_n, Nat.reduceEqDiff, false_and, and_false, and_self, e_137_872]
  exact nx _ _ _ _ _ hW2 (by omega) (by omega)
set_option maxRecDepth 8000 in
theorem w_turn (hW : Wd G z x b L xs S) (hi : 6 * i + 6 ≤ L) (hL : L ≤ 3072) (hc : c ≤ 10000) (hs : s ≤ 100000) (nx : Nx R x b L xs i c s) : WP 12 137 R 147 [some (va_rf (some b)), some (va_rf (some x)), some (va_rf (some (x + 12))), some (.int (nI (6 * i)))] [] G z c s := by
  obtain ⟨⟨ta, ha, ca, hX⟩, hM, hI, hT, hB, hz, hb, ⟨b1, b2, b3⟩, hS⟩ := id hW
  have x1 := hX.1.1
  have lc1 : c + 2 ≤ 600000 := by omega
  have ls1 : s + 70 ≤ 7302249 := by omega
  have lc2 : c + 2 + 0 ≤ 600000 := by omega
  have ls2 : s + 70 + 0 ≤ 7302249 := by omega
  by_cases e0 : xs (6 * i + 3) = 0
  · simp only [ent, entL, isL_int, isL_rf, isL_long, locS, List.length_cons, List.length_nil, List.cons_append, List.nil_append, List.replicate_succ, List.replicate_zero, Bool.false_eq_true, if_false, if_true, true_and, and_true, Nat.reduceAdd, Nat.reduceSub, Nat.reduceLeDiff, Nat.zero_le, Nat.le_refl, Nat.zero_add, Nat.add_zero, bI_0, bI_1, bI_n, Nat.reduceEqDiff, false_and, and_false, and_self, e_137_147, e_137_148, e_137_149, e_137_150, e_137_151, e_137_152, e_137_153, e_137_154, e_137_155, e_137_156, e_137_157, e_137_158, e_137_159, e_137_160, e_137_161, e_137_162, e_137_163, e_137_166, e_137_167, e_137_170, e_137_171, e_137_172, e_137_173, e_137_174, e_137_175, e_137_176, e_137_177, e_137_178, e_137_179, e_137_180, e_137_181, x1, b1, b2, b3, n_1, n_2, n_3, n_4, n_5, n_in (show 6 * i + 1 < L by omega) (show L < 2 ^ 31 by omega), n_cl (show 6 * i + 1 < 2 ^ 31 by omega), n_in (show 6 * i + 2 < L by omega) (show L < 2 ^ 31 by omega), n_cl (show 6 * i + 2 < 2 ^ 31 by omega), n_in (show 6 * i + 3 < L by omega) (show L < 2 ^ 31 by omega), n_cl (show 6 * i + 3 < 2 ^ 31 by omega), n_in (show 6 * i + 4 < L by omega) (show L < 2 ^ 31 by omega), n_cl (show 6 * i + 4 < 2 ^ 31 by omega), n_in (show 6 * i + 5 < L by omega) (show L < 2 ^ 31 by omega), n_cl (show 6 * i + 5 < 2 ^ 31 by omega), lc1, ls1, or_true, e0]
    refine c_turn hX hI hz hB (fu := 0) (by decide) fun G1 ta1 z1 hz1 hB1 hX1 hF1 => ?_
    have hH := hW.cls hX1 hF1 hB1 hz1
    obtain ⟨-, hM1, -, -, -, ⟨d1, d2, d3⟩, -⟩ := id hH
    have m1 := hM1.1.1
    simp only [ent, entL, isL_int, isL_rf, isL_long, locS, List.length_cons, List.length_nil, List.cons_append, List.nil_append, List.replicate_succ, List.replicate_zero, Bool.false_eq_true, if_false, if_true, true_and, and_true, Nat.reduceAdd, Nat.reduceSub, Nat.reduceLeDiff, Nat.zero_le, Nat.le_refl, Nat.zero_add, Nat.add_zero, bI_0, bI_1, bI_n, Nat.reduceEqDiff, false_and, and_false, and_self, e_137_184, e_137_185, e_137_186, e_137_187, e_137_188, e_137_189, e_137_190, e_137_191, e_137_192, e_137_193, e_137_194, e_137_195, e_137_196, e_137_197, e_137_198, e_137_199, e_137_200, e_137_203, e_137_204, e_137_207, e_137_208, e_137_209, e_137_210, e_137_211, e_137_212, e_137_213, e_137_214, e_137_215, e_137_216, e_137_217, e_137_218, m1, d1, d2, d3, n_1, n_2, n_3, n_4, n_5, n_in (show 6 * i + 1 < L by omega) (show L < 2 ^ 31 by omega), n_cl (show 6 * i + 1 < 2 ^ 31 by omega), n_in (show 6 * i + 2 < L by omega) (show L < 2 ^ 31 by omega), n_cl (show 6 * i + 2 < 2 ^ 31 by omega), n_in (show 6 * i + 3 < L by omega) (show L < 2 ^ 31 by omega), n_cl (show 6 * i + 3 < 2 ^ 31 by omega), n_in (show 6 * i + 4 < L by omega) (show L < 2 ^ 31 by omega), n_cl (show 6 * i + 4 < 2 ^ 31 by omega), n_in (show 6 * i + 5 < L by omega) (show L < 2 ^ 31 by omega), n_cl (show 6 * i + 5 < 2 ^ 31 by omega), lc1, ls1, lc2, ls2, or_true, e0]
    refine d_turn hM1 hI (fu := 0) (by decide) fun G2 hM2 hF2 => ?_
    have hW2 := hH.ref hM2 hF2 (inv_turn hI (by decide)) (invT_of tT_turn hT)
    simp only [ent, entL, isL_int, isL_rf, isL_long, locS, List.length_cons, List.length_nil, List.cons_append, List.nil_append, List.replicate_succ, List.replicate_zero, Bool.false_eq_true, if_false, if_true, true_and, and_true, Nat.reduceAdd, Nat.reduceSub, Nat.reduceLeDiff, Nat.zero_le, Nat.le_refl, Nat.zero_add, Nat.add_zero, bI_0, bI_1, bI_n, Nat.reduceEqDiff, false_and, and_false, and_self, e_137_221]
    exact nx _ _ _ _ _ hW2 (by omega) (by omega)
  · simp only [ent, entL, isL_int, isL_rf, isL_long, locS, List.length_cons, List.length_nil, List.cons_append, List.nil_append, List.replicate_succ, List.replicate_zero, Bool.false_eq_true, if_false, if_true, true_and, and_true, Nat.reduceAdd, Nat.reduceSub, Nat.reduceLeDiff, Nat.zero_le, Nat.le_refl, Nat.zero_add, Nat.add_zero, bI_0, bI_1, bI_n, Nat.reduceEqDiff, false_and, and_false, and_self, e_137_147, e_137_148, e_137_149, e_137_150, e_137_151, e_137_152, e_137_153, e_137_154, e_137_155, e_137_156, e_137_157, e_137_158, e_137_159, e_137_160, e_137_161, e_137_162, e_137_163, e_137_166, e_137_167, e_137_170, e_137_171, e_137_172, e_137_173, e_137_174, e_137_175, e_137_176, e_137_177, e_137_178, e_137_179, e_137_180, e_137_181, x1, b1, b2, b3, n_1, n_2, n_3, n_4, n_5, n_in (show 6 * i + 1 < L by omega) (show L < 2 ^ 31 by omega), n_cl (show 6 * i + 1 < 2 ^ 31 by omega), n_in (show 6 * i + 2 < L by omega) (show L < 2 ^ 31 by omega), n_cl (show 6 * i + 2 < 2 ^ 31 by omega), n_in (show 6 * i + 3 < L by omega) (show L < 2 ^ 31 by omega), n_cl (show 6 * i + 3 < 2 ^ 31 by omega), n_in (show 6 * i + 4 < L by omega) (show L < 2 ^ 31 by omega), n_cl (show 6 * i + 4 < 2 ^ 31 by omega), n_in (show 6 * i + 5 < L by omega) (show L < 2 ^ 31 by omega), n_cl (show 6 * i + 5 < 2 ^ 31 by omega), lc1, ls1, or_true, e0]
    refine c_turn hX hI hz hB (fu := 1) (by decide) fun G1 ta1 z1 hz1 hB1 hX1 hF1 => ?_
    have hH := hW.cls hX1 hF1 hB1 hz1
    obtain ⟨-, hM1, -, -, -, ⟨d1, d2, d3⟩, -⟩ := id hH
    have m1 := hM1.1.1
    simp only [ent, entL, isL_int, isL_rf, isL_long, locS, List.length_cons, List.length_nil, List.cons_append, List.nil_append, List.replicate_succ, List.replicate_zero, Bool.false_eq_true, if_false, if_true, true_and, and_true, Nat.reduceAdd, Nat.reduceSub, Nat.reduceLeDiff, Nat.zero_le, Nat.le_refl, Nat.zero_add, Nat.add_zero, bI_0, bI_1, bI_n, Nat.reduceEqDiff, false_and, and_false, and_self, e_137_184, e_137_185, e_137_186, e_137_187, e_137_188, e_137_189, e_137_190, e_137_191, e_137_192, e_137_193, e_137_194, e_137_195, e_137_196, e_137_197, e_137_198, e_137_199, e_137_200, e_137_203, e_137_204, e_137_207, e_137_208, e_137_209, e_137_210, e_137_211, e_137_212, e_137_213, e_137_214, e_137_215, e_137_216, e_137_217, e_137_218, m1, d1, d2, d3, n_1, n_2, n_3, n_4, n_5, n_in (show 6 * i + 1 < L by omega) (show L < 2 ^ 31 by omega), n_cl (show 6 * i + 1 < 2 ^ 31 by omega), n_in (show 6 * i + 2 < L by omega) (show L < 2 ^ 31 by omega), n_cl (show 6 * i + 2 < 2 ^ 31 by omega), n_in (show 6 * i + 3 < L by omega) (show L < 2 ^ 31 by omega), n_cl (show 6 * i + 3 < 2 ^ 31 by omega), n_in (show 6 * i + 4 < L by omega) (show L < 2 ^ 31 by omega), n_cl (show 6 * i + 4 < 2 ^ 31 by omega), n_in (show 6 * i + 5 < L by omega) (show L < 2 ^ 31 by omega), n_cl (show 6 * i + 5 < 2 ^ 31 by omega), lc1, ls1, lc2, ls2, or_true, e0]
    refine d_turn hM1 hI (fu := 1) (by decide) fun G2 hM2 hF2 => ?_
    have hW2 := hH.ref hM2 hF2 (inv_turn hI (by decide)) (invT_of tT_turn hT)
    simp only [ent, entL, isL_int, isL_rf, isL_long, locS, List.length_cons, List.length_nil, List.cons_append, List.nil_append, List.replicate_succ, List.replicate_zero, Bool.false_eq_true, if_false, if_true, true_and, and_true, Nat.reduceAdd, Nat.reduceSub, Nat.reduceLeDiff, Nat.zero_le, Nat.le_refl, Nat.zero_add, Nat.add_zero, bI_0, bI_1, bI_n, Nat.reduceEqDiff, false_and, and_false, and_self, e_137_221]
    exact nx _ _ _ _ _ hW2 (by omega) (by omega)
end
