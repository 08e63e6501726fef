/-! the class's calls: bill, fail, fill -/
section
variable {G : Mem} {x : Nat} {ta ha ca : Nat → Nat} {S : St}
set_option maxRecDepth 8000 in
theorem c_bill (hX : RX G x ta ha ca S) (hI : Inv S) {d z : Nat} {h w wh : Int32} {Q : Rt} (hq : ∀ G', RX G' x ta ha ca S → FX x z G G' → Q (some (.int (opBill S h w wh))) G' z) : CALL (d + 4) 60 [va_rf (some x), .int h, .int w, .int wh] G z Q := by
  have hs := hX.1
  rw [CALL_eq]
  simp only [mxE_60, ent, entL, isL_int, isL_rf, isL_long, locS, List.length_cons, List.length_nil, List.cons_append, List.nil_append, List.replicate_succ, List.replicate_zero, Bool.false_eq_true, if_false, if_true, true_and, and_true, Nat.reduceAdd, Nat.reduceSub, Nat.reduceLeDiff, Nat.zero_le, Nat.le_refl, Nat.zero_add, Nat.add_zero, bI_0, bI_1, bI_n, Nat.reduceEqDiff, false_and, and_false, and_self, e_60_0, e_60_1, e_60_2, e_60_5, e_60_7, e_60_9, e_60_12, e_60_13, e_60_16, e_60_19, e_60_20, e_60_21, e_60_22, e_60_24, e_60_25, e_60_28, e_60_29, e_60_64, e_60_65, e_60_68, e_60_71, e_60_72, e_60_73, e_60_76, e_60_79, e_60_80, e_60_82, e_60_85, e_60_87, e_60_89, e_60_90, e_60_93, e_60_96, e_60_97, e_60_100, e_60_101, e_60_103, e_60_104, e_60_105, e_60_106, e_60_109, e_60_110, e_60_111, e_60_114, e_60_117, e_60_118, e_60_119, e_60_122, e_60_125, e_60_126, e_60_127, e_60_129, e_60_132, e_60_133, e_60_136, e_60_137, e_60_140, e_60_141, e_60_143, e_60_144, e_60_147, s_hallAt hX hI, hs, s_isWeek, w_ix]
  unfold opBill at hq
  cases hh : ix h (sN S 2) with
  | none => rw [hh] at hq; simp only [Option.map_none, if_true]; exact hq G hX FX.rf
  | some j =>
    obtain ⟨hj, -⟩ := ix_s (by have := hI.2.2.1; omega) hh
    rw [hh] at hq
    simp only [Option.map_some, reduceCtorEq, if_false]
    cases hw : ix w 60 with
    | none => rw [hw] at hq; simp only [Option.isSome_none, Bool.false_eq_true, not_false_iff, if_true]; exact hq G hX FX.rf
    | some w' =>
      rw [hw] at hq
      obtain ⟨hw1, rfl⟩ := ix_s (by decide) hw
      simp only [Option.isSome_some, not_true, if_false]
      refine s_gather hX hI hw1 hj ?_
      intro G1 hG hB
      have hX1 := hX.sx hG
      have hs1 := hX1.1
      have hn1 := hX1.2.1
      obtain ⟨p1, p2, p3, p4, p5, p6⟩ := hX1.2.2.2.1 j hj
      have hl : ∀ t ∈ bl S j w', t < sN S 1 := fun t ht => bl_lt ht
      have hq := hq G1 hX1 (hG.fx hs)
      simp only [ent, entL, isL_int, isL_rf, isL_long, locS, List.length_cons, List.length_nil, List.cons_append, List.nil_append, List.replicate_succ, List.replicate_zero, Bool.false_eq_true, if_false, if_true, true_and, and_true, Nat.reduceAdd, Nat.reduceSub, Nat.reduceLeDiff, Nat.zero_le, Nat.le_refl, Nat.zero_add, Nat.add_zero, bI_0, bI_1, bI_n, Nat.reduceEqDiff, false_and, and_false, and_self, e_60_0, e_60_1, e_60_2, e_60_5, e_60_7, e_60_9, e_60_12, e_60_13, e_60_16, e_60_19, e_60_20, e_60_21, e_60_22, e_60_24, e_60_25, e_60_28, e_60_29, e_60_64, e_60_65, e_60_68, e_60_71, e_60_72, e_60_73, e_60_76, e_60_79, e_60_80, e_60_82, e_60_85, e_60_87, e_60_89, e_60_90, e_60_93, e_60_96, e_60_97, e_60_100, e_60_101, e_60_103, e_60_104, e_60_105, e_60_106, e_60_109, e_60_110, e_60_111, e_60_114, e_60_117, e_60_118, e_60_119, e_60_122, e_60_125, e_60_126, e_60_127, e_60_129, e_60_132, e_60_133, e_60_136, e_60_137, e_60_140, e_60_141, e_60_143, e_60_144, e_60_147]
      dsimp only at hq
      rcases lit_cases wh (n := 5) (by decide) with ⟨k, hk, rfl⟩ | hz
      · match k, hk with
        | 0, _ => rw [tsw_go 64 (by decide)]; simp only [ent, entL, isL_int, isL_rf, isL_long, locS, List.length_cons, List.length_nil, List.cons_append, List.nil_append, List.replicate_succ, List.replicate_zero, Bool.false_eq_true, if_false, if_true, true_and, and_true, Nat.reduceAdd, Nat.reduceSub, Nat.reduceLeDiff, Nat.zero_le, Nat.le_refl, Nat.zero_add, Nat.add_zero, bI_0, bI_1, bI_n, Nat.reduceEqDiff, false_and, and_false, and_self, e_60_0, e_60_1, e_60_2, e_60_5, e_60_7, e_60_9, e_60_12, e_60_13, e_60_16, e_60_19, e_60_20, e_60_21, e_60_22, e_60_24, e_60_25, e_60_28, e_60_29, e_60_64, e_60_65, e_60_68, e_60_71, e_60_72, e_60_73, e_60_76, e_60_79, e_60_80, e_60_82, e_60_85, e_60_87, e_60_89, e_60_90, e_60_93, e_60_96, e_60_97, e_60_100, e_60_101, e_60_103, e_60_104, e_60_105, e_60_106, e_60_109, e_60_110, e_60_111, e_60_114, e_60_117, e_60_118, e_60_119, e_60_122, e_60_125, e_60_126, e_60_127, e_60_129, e_60_132, e_60_133, e_60_136, e_60_137, e_60_140, e_60_141, e_60_143, e_60_144, e_60_147, hs1, hB.1]; exact hq
        | 1, _ => rw [tsw_go 72 (by decide)]; simp only [ent, entL, isL_int, isL_rf, isL_long, locS, List.length_cons, List.length_nil, List.cons_append, List.nil_append, List.replicate_succ, List.replicate_zero, Bool.false_eq_true, if_false, if_true, true_and, and_true, Nat.reduceAdd, Nat.reduceSub, Nat.reduceLeDiff, Nat.zero_le, Nat.le_refl, Nat.zero_add, Nat.add_zero, bI_0, bI_1, bI_n, Nat.reduceEqDiff, false_and, and_false, and_self, e_60_0, e_60_1, e_60_2, e_60_5, e_60_7, e_60_9, e_60_12, e_60_13, e_60_16, e_60_19, e_60_20, e_60_21, e_60_22, e_60_24, e_60_25, e_60_28, e_60_29, e_60_64, e_60_65, e_60_68, e_60_71, e_60_72, e_60_73, e_60_76, e_60_79, e_60_80, e_60_82, e_60_85, e_60_87, e_60_89, e_60_90, e_60_93, e_60_96, e_60_97, e_60_100, e_60_101, e_60_103, e_60_104, e_60_105, e_60_106, e_60_109, e_60_110, e_60_111, e_60_114, e_60_117, e_60_118, e_60_119, e_60_122, e_60_125, e_60_126, e_60_127, e_60_129, e_60_132, e_60_133, e_60_136, e_60_137, e_60_140, e_60_141, e_60_143, e_60_144, e_60_147, hs1]; refine s_minutes hX1 hB hl ?_; simp only [ent, entL, isL_int, isL_rf, isL_long, locS, List.length_cons, List.length_nil, List.cons_append, List.nil_append, List.replicate_succ, List.replicate_zero, Bool.false_eq_true, if_false, if_true, true_and, and_true, Nat.reduceAdd, Nat.reduceSub, Nat.reduceLeDiff, Nat.zero_le, Nat.le_refl, Nat.zero_add, Nat.add_zero, bI_0, bI_1, bI_n, Nat.reduceEqDiff, false_and, and_false, and_self, e_60_0, e_60_1, e_60_2, e_60_5, e_60_7, e_60_9, e_60_12, e_60_13, e_60_16, e_60_19, e_60_20, e_60_21, e_60_22, e_60_24, e_60_25, e_60_28, e_60_29, e_60_64, e_60_65, e_60_68, e_60_71, e_60_72, e_60_73, e_60_76, e_60_79, e_60_80, e_60_82, e_60_85, e_60_87, e_60_89, e_60_90, e_60_93, e_60_96, e_60_97, e_60_100, e_60_101, e_60_103, e_60_104, e_60_105, e_60_106, e_60_109, e_60_110, e_60_111, e_60_114, e_60_117, e_60_118, e_60_119, e_60_122, e_60_125, e_60_126, e_60_127, e_60_129, e_60_132, e_60_133, e_60_136, e_60_137, e_60_140, e_60_141, e_60_143, e_60_144, e_60_147]; exact hq
        | 2, _ => rw [tsw_go 80 (by decide)]; simp only [ent, entL, isL_int, isL_rf, isL_long, locS, List.length_cons, List.length_nil, List.cons_append, List.nil_append, List.replicate_succ, List.replicate_zero, Bool.false_eq_true, if_false, if_true, true_and, and_true, Nat.reduceAdd, Nat.reduceSub, Nat.reduceLeDiff, Nat.zero_le, Nat.le_refl, Nat.zero_add, Nat.add_zero, bI_0, bI_1, bI_n, Nat.reduceEqDiff, false_and, and_false, and_self, e_60_0, e_60_1, e_60_2, e_60_5, e_60_7, e_60_9, e_60_12, e_60_13, e_60_16, e_60_19, e_60_20, e_60_21, e_60_22, e_60_24, e_60_25, e_60_28, e_60_29, e_60_64, e_60_65, e_60_68, e_60_71, e_60_72, e_60_73, e_60_76, e_60_79, e_60_80, e_60_82, e_60_85, e_60_87, e_60_89, e_60_90, e_60_93, e_60_96, e_60_97, e_60_100, e_60_101, e_60_103, e_60_104, e_60_105, e_60_106, e_60_109, e_60_110, e_60_111, e_60_114, e_60_117, e_60_118, e_60_119, e_60_122, e_60_125, e_60_126, e_60_127, e_60_129, e_60_132, e_60_133, e_60_136, e_60_137, e_60_140, e_60_141, e_60_143, e_60_144, e_60_147, hs1, p2, p5]; refine s_draws hX1 hB hl ?_; simp only [ent, entL, isL_int, isL_rf, isL_long, locS, List.length_cons, List.length_nil, List.cons_append, List.nil_append, List.replicate_succ, List.replicate_zero, Bool.false_eq_true, if_false, if_true, true_and, and_true, Nat.reduceAdd, Nat.reduceSub, Nat.reduceLeDiff, Nat.zero_le, Nat.le_refl, Nat.zero_add, Nat.add_zero, bI_0, bI_1, bI_n, Nat.reduceEqDiff, false_and, and_false, and_self, e_60_0, e_60_1, e_60_2, e_60_5, e_60_7, e_60_9, e_60_12, e_60_13, e_60_16, e_60_19, e_60_20, e_60_21, e_60_22, e_60_24, e_60_25, e_60_28, e_60_29, e_60_64, e_60_65, e_60_68, e_60_71, e_60_72, e_60_73, e_60_76, e_60_79, e_60_80, e_60_82, e_60_85, e_60_87, e_60_89, e_60_90, e_60_93, e_60_96, e_60_97, e_60_100, e_60_101, e_60_103, e_60_104, e_60_105, e_60_106, e_60_109, e_60_110, e_60_111, e_60_114, e_60_117, e_60_118, e_60_119, e_60_122, e_60_125, e_60_126, e_60_127, e_60_129, e_60_132, e_60_133, e_60_136, e_60_137, e_60_140, e_60_141, e_60_143, e_60_144, e_60_147]; exact ⟨by decide, hq⟩
        | 3, _ => rw [tsw_go 105 (by decide)]; simp only [ent, entL, isL_int, isL_rf, isL_long, locS, List.length_cons, List.length_nil, List.cons_append, List.nil_append, List.replicate_succ, List.replicate_zero, Bool.false_eq_true, if_false, if_true, true_and, and_true, Nat.reduceAdd, Nat.reduceSub, Nat.reduceLeDiff, Nat.zero_le, Nat.le_refl, Nat.zero_add, Nat.add_zero, bI_0, bI_1, bI_n, Nat.reduceEqDiff, false_and, and_false, and_self, e_60_0, e_60_1, e_60_2, e_60_5, e_60_7, e_60_9, e_60_12, e_60_13, e_60_16, e_60_19, e_60_20, e_60_21, e_60_22, e_60_24, e_60_25, e_60_28, e_60_29, e_60_64, e_60_65, e_60_68, e_60_71, e_60_72, e_60_73, e_60_76, e_60_79, e_60_80, e_60_82, e_60_85, e_60_87, e_60_89, e_60_90, e_60_93, e_60_96, e_60_97, e_60_100, e_60_101, e_60_103, e_60_104, e_60_105, e_60_106, e_60_109, e_60_110, e_60_111, e_60_114, e_60_117, e_60_118, e_60_119, e_60_122, e_60_125, e_60_126, e_60_127, e_60_129, e_60_132, e_60_133, e_60_136, e_60_137, e_60_140, e_60_141, e_60_143, e_60_144, e_60_147, hs1, hn1]; refine s_pay hX1 hI hB hl hw1 (by have := hI.1; omega) ?_; simp only [ent, entL, isL_int, isL_rf, isL_long, locS, List.length_cons, List.length_nil, List.cons_append, List.nil_append, List.replicate_succ, List.replicate_zero, Bool.false_eq_true, if_false, if_true, true_and, and_true, Nat.reduceAdd, Nat.reduceSub, Nat.reduceLeDiff, Nat.zero_le, Nat.le_refl, Nat.zero_add, Nat.add_zero, bI_0, bI_1, bI_n, Nat.reduceEqDiff, false_and, and_false, and_self, e_60_0, e_60_1, e_60_2, e_60_5, e_60_7, e_60_9, e_60_12, e_60_13, e_60_16, e_60_19, e_60_20, e_60_21, e_60_22, e_60_24, e_60_25, e_60_28, e_60_29, e_60_64, e_60_65, e_60_68, e_60_71, e_60_72, e_60_73, e_60_76, e_60_79, e_60_80, e_60_82, e_60_85, e_60_87, e_60_89, e_60_90, e_60_93, e_60_96, e_60_97, e_60_100, e_60_101, e_60_103, e_60_104, e_60_105, e_60_106, e_60_109, e_60_110, e_60_111, e_60_114, e_60_117, e_60_118, e_60_119, e_60_122, e_60_125, e_60_126, e_60_127, e_60_129, e_60_132, e_60_133, e_60_136, e_60_137, e_60_140, e_60_141, e_60_143, e_60_144, e_60_147]; exact hq
        | 4, _ => rw [tsw_go 118 (by decide)]; simp only [ent, entL, isL_int, isL_rf, isL_long, locS, List.length_cons, List.length_nil, List.cons_append, List.nil_append, List.replicate_succ, List.replicate_zero, Bool.false_eq_true, if_false, if_true, true_and, and_true, Nat.reduceAdd, Nat.reduceSub, Nat.reduceLeDiff, Nat.zero_le, Nat.le_refl, Nat.zero_add, Nat.add_zero, bI_0, bI_1, bI_n, Nat.reduceEqDiff, false_and, and_false, and_self, e_60_0, e_60_1, e_60_2, e_60_5, e_60_7, e_60_9, e_60_12, e_60_13, e_60_16, e_60_19, e_60_20, e_60_21, e_60_22, e_60_24, e_60_25, e_60_28, e_60_29, e_60_64, e_60_65, e_60_68, e_60_71, e_60_72, e_60_73, e_60_76, e_60_79, e_60_80, e_60_82, e_60_85, e_60_87, e_60_89, e_60_90, e_60_93, e_60_96, e_60_97, e_60_100, e_60_101, e_60_103, e_60_104, e_60_105, e_60_106, e_60_109, e_60_110, e_60_111, e_60_114, e_60_117, e_60_118, e_60_119, e_60_122, e_60_125, e_60_126, e_60_127, e_60_129, e_60_132, e_60_133, e_60_136, e_60_137, e_60_140, e_60_141, e_60_143, e_60_144, e_60_147, hs1]; refine s_tops hX1 hB hl ?_; simp only [ent, entL, isL_int, isL_rf, isL_long, locS, List.length_cons, List.length_nil, List.cons_append, List.nil_append, List.replicate_succ, List.replicate_zero, Bool.false_eq_true, if_false, if_true, true_and, and_true, Nat.reduceAdd, Nat.reduceSub, Nat.reduceLeDiff, Nat.zero_le, Nat.le_refl, Nat.zero_add, Nat.add_zero, bI_0, bI_1, bI_n, Nat.reduceEqDiff, false_and, and_false, and_self, e_60_0, e_60_1, e_60_2, e_60_5, e_60_7, e_60_9, e_60_12, e_60_13, e_60_16, e_60_19, e_60_20, e_60_21, e_60_22, e_60_24, e_60_25, e_60_28, e_60_29, e_60_64, e_60_65, e_60_68, e_60_71, e_60_72, e_60_73, e_60_76, e_60_79, e_60_80, e_60_82, e_60_85, e_60_87, e_60_89, e_60_90, e_60_93, e_60_96, e_60_97, e_60_100, e_60_101, e_60_103, e_60_104, e_60_105, e_60_106, e_60_109, e_60_110, e_60_111, e_60_114, e_60_117, e_60_118, e_60_119, e_60_122, e_60_125, e_60_126, e_60_127, e_60_129, e_60_132, e_60_133, e_60_136, e_60_137, e_60_140, e_60_141, e_60_143, e_60_144, e_60_147]; exact hq
        | k + 5, hk => omega
      · rw [tsw_out 126 (by omega) (by decide)]
        have e : ∀ k, k < 5 → ¬ wh = nI k := fun k hk => lit_ne hz hk (by decide)
        simp only [show (0 : Int32) = nI 0 from rfl, show (1 : Int32) = nI 1 from rfl, show (2 : Int32) = nI 2 from rfl, show (3 : Int32) = nI 3 from rfl, show (4 : Int32) = nI 4 from rfl, e 0 (by omega), e 1 (by omega), e 2 (by omega), e 3 (by omega), e 4 (by omega), if_false] at hq
        simp only [ent, entL, isL_int, isL_rf, isL_long, locS, List.length_cons, List.length_nil, List.cons_append, List.nil_append, List.replicate_succ, List.replicate_zero, Bool.false_eq_true, if_false, if_true, true_and, and_true, Nat.reduceAdd, Nat.reduceSub, Nat.reduceLeDiff, Nat.zero_le, Nat.le_refl, Nat.zero_add, Nat.add_zero, bI_0, bI_1, bI_n, Nat.reduceEqDiff, false_and, and_false, and_self, e_60_0, e_60_1, e_60_2, e_60_5, e_60_7, e_60_9, e_60_12, e_60_13, e_60_16, e_60_19, e_60_20, e_60_21, e_60_22, e_60_24, e_60_25, e_60_28, e_60_29, e_60_64, e_60_65, e_60_68, e_60_71, e_60_72, e_60_73, e_60_76, e_60_79, e_60_80, e_60_82, e_60_85, e_60_87, e_60_89, e_60_90, e_60_93, e_60_96, e_60_97, e_60_100, e_60_101, e_60_103, e_60_104, e_60_105, e_60_106, e_60_109, e_60_110, e_60_111, e_60_114, e_60_117, e_60_118, e_60_119, e_60_122, e_60_125, e_60_126, e_60_127, e_60_129, e_60_132, e_60_133, e_60_136, e_60_137, e_60_140, e_60_141, e_60_143, e_60_144, e_60_147, hs1, s_numberAtB hX1 hB hl]
        by_cases h10 : wh < 10
        · simp only [h10, if_true] at hq
          have : ¬ (10 ≤ wh) := by rw [not_le']; exact h10
          simp only [this, if_false]; exact hq
        · simp only [h10, if_false] at hq
          have : 10 ≤ wh := by rw [← not_lt']; exact h10
          simp only [this, if_true]; exact hq
theorem RX.fl (hX : RX G x ta ha ca S) {i : Nat} {v : Int32} (hi : i < sN S 1) : RX (pI G 6 9 (ta i) v) x ta ha ca (uI S 4 i v) := by
  obtain ⟨h1, h2, h3, h4, h5, h6, h7⟩ := hX
  have hne : ∀ j, j < sN S 1 → j ≠ i → ¬ ta j = ta i := fun j hj hji q => hji (h6.1 j i hj hi q)
  have hlc : ∀ t n', lastC (uI S 4 i v) t n' = lastC S t n' := fun t n' => lastC_congr n' (fun c _ => rfl)
  have hcw : ∀ t n', cntW (uI S 4 i v) t n' = cntW S t n' := fun t n' => cntW_congr n' (fun c _ => rfl)
  refine ⟨?_, ?_, fun j hj => ?_, fun h hh => ?_, fun c hc => ?_, ?_, fun k => ?_⟩
  · simpa [XS, memS] using h1
  · simp only [XN] at h2 ⊢
    simp [memS, stS, h2]
  · have hj : j < sN S 1 := by simpa [stS] using hj
    obtain ⟨g1, g2, g3, g4, g5, g6, g7, g8, g9, g10, g11, g12, g13, g14, g15, g16⟩ := h3 j hj
    simp only [memS, stS, hlc, hcw, Nat.reduceEqDiff, if_false]
    by_cases hji : j = i
    · subst hji
      simp [g1, g2, g3, g4, g5, g6, g7, g8, g9, g10, g11, g12, g13, g14]
      exact g16
    · have hn1 := hne j hj hji
      simp [hn1, hji, g1, g2, g3, g4, g5, g6, g7, g8, g9, g10, g11, g12, g13, g14, g15]
      exact g16
  · have hh : h < sN S 2 := by simpa [stS] using hh
    have := h4 h hh
    simpa [memS, stS] using this
  · have hc : c < sN S 3 := by simpa [stS] using hc
    obtain ⟨g1, g2, g3, g4, g5, g6⟩ := h5 c hc
    simp only [memS, stS, hlc]
    refine ⟨g1, by simpa using g2, by simpa using g3, by simpa using g4, g5, ?_⟩
    exact SCh.congr (G := G) _ _ (fun a ha5 => ⟨by simp only [memS]; exact ha5, fun k => by simp [memS], fun k => rfl⟩) g6
  · exact h6
  · simp only [memS, stS]; exact h7 k
theorem fl_fx {z a : Nat} {v : Int32} : FX x z G (pI G 6 9 a v) := by
  refine ⟨⟨fun _ _ => ⟨rfl, rfl⟩, fun c k a' _ hc => ⟨?_, rfl⟩, fun _ _ _ _ => rfl⟩, fun q => q⟩
  simp only [memS, show ¬ c = 6 by omega, false_and, if_false]
set_option maxRecDepth 8000 in
theorem c_fail (hX : RX G x ta ha ca S) (hI : Inv S) {d z : Nat} {t w : Int32} {Q : Rt} (hq : ∀ G', RX G' x ta ha ca (opFail S t w).1 → FX x z G G' → Q (some (.int (opFail S t w).2)) G' z) : CALL (d + 7) 63 [va_rf (some x), .int t, .int w] G z Q := by
  have hs := hX.1
  rw [CALL_eq]
  simp only [mxE_63, ent, entL, isL_int, isL_rf, isL_long, locS, List.length_cons, List.length_nil, List.cons_append, List.nil_append, List.replicate_succ, List.replicate_zero, Bool.false_eq_true, if_false, if_true, true_and, and_true, Nat.reduceAdd, Nat.reduceSub, Nat.reduceLeDiff, Nat.zero_le, Nat.le_refl, Nat.zero_add, Nat.add_zero, bI_0, bI_1, bI_n, Nat.reduceEqDiff, false_and, and_false, and_self, e_63_0, e_63_1, e_63_2, e_63_5, e_63_6, e_63_7, e_63_10, e_63_11, e_63_12, e_63_15, e_63_18, e_63_20, e_63_21, e_63_22, e_63_23, e_63_26, e_63_28, e_63_30, e_63_33, e_63_35, e_63_36, e_63_37, e_63_38, e_63_39, e_63_42, e_63_43, e_63_44, e_63_47, e_63_48, e_63_49, e_63_52, e_63_53, e_63_55, e_63_56, e_63_57, e_63_60, e_63_62, e_63_64, e_63_67, e_63_68, e_63_69, e_63_70, e_63_72, e_63_74, e_63_75, e_63_78, e_63_80, e_63_83, s_turnAt hX hI, hs]
  unfold opFail at hq
  cases ht : ix t (sN S 1) with
  | none => rw [ht] at hq; simp only [Option.map_none, if_true]; exact hq G hX FX.rf
  | some i =>
    obtain ⟨hi, -⟩ := ix_s (by have := hI.2.1; omega) ht
    rw [ht] at hq
    simp only [ent, entL, isL_int, isL_rf, isL_long, locS, List.length_cons, List.length_nil, List.cons_append, List.nil_append, List.replicate_succ, List.replicate_zero, Bool.false_eq_true, if_false, if_true, true_and, and_true, Nat.reduceAdd, Nat.reduceSub, Nat.reduceLeDiff, Nat.zero_le, Nat.le_refl, Nat.zero_add, Nat.add_zero, bI_0, bI_1, bI_n, Nat.reduceEqDiff, false_and, and_false, and_self, e_63_0, e_63_1, e_63_2, e_63_5, e_63_6, e_63_7, e_63_10, e_63_11, e_63_12, e_63_15, e_63_18, e_63_20, e_63_21, e_63_22, e_63_23, e_63_26, e_63_28, e_63_30, e_63_33, e_63_35, e_63_36, e_63_37, e_63_38, e_63_39, e_63_42, e_63_43, e_63_44, e_63_47, e_63_48, e_63_49, e_63_52, e_63_53, e_63_55, e_63_56, e_63_57, e_63_60, e_63_62, e_63_64, e_63_67, e_63_68, e_63_69, e_63_70, e_63_72, e_63_74, e_63_75, e_63_78, e_63_80, e_63_83, Option.map_some, reduceCtorEq, if_false, s_isOpen hX, o_ix hI, hs]
    cases hw : opO S w with
    | none => rw [hw] at hq; simp only [Option.isSome_none, Bool.false_eq_true, not_false_iff, if_true, if_false]; exact hq G hX FX.rf
    | some w' =>
      rw [hw] at hq
      obtain ⟨hw1, hw2, rfl⟩ := opO_s hw
      obtain ⟨t1, t2, t3, t4, t5, t6, t7, t8, t9, t10, t11, t12, t13, t14, t15, t16⟩ := hX.2.2.1 i hi
      simp only [ent, entL, isL_int, isL_rf, isL_long, locS, List.length_cons, List.length_nil, List.cons_append, List.nil_append, List.replicate_succ, List.replicate_zero, Bool.false_eq_true, if_false, if_true, true_and, and_true, Nat.reduceAdd, Nat.reduceSub, Nat.reduceLeDiff, Nat.zero_le, Nat.le_refl, Nat.zero_add, Nat.add_zero, bI_0, bI_1, bI_n, Nat.reduceEqDiff, false_and, and_false, and_self, e_63_0, e_63_1, e_63_2, e_63_5, e_63_6, e_63_7, e_63_10, e_63_11, e_63_12, e_63_15, e_63_18, e_63_20, e_63_21, e_63_22, e_63_23, e_63_26, e_63_28, e_63_30, e_63_33, e_63_35, e_63_36, e_63_37, e_63_38, e_63_39, e_63_42, e_63_43, e_63_44, e_63_47, e_63_48, e_63_49, e_63_52, e_63_53, e_63_55, e_63_56, e_63_57, e_63_60, e_63_62, e_63_64, e_63_67, e_63_68, e_63_69, e_63_70, e_63_72, e_63_74, e_63_75, e_63_78, e_63_80, e_63_83, Option.isSome_some, not_true, if_false, if_true, t3, s_hallIn hX hi hw1, hs]
      dsimp only at hq
      cases hp : sP S i w' with
      | none => rw [hp] at hq; simp only [Option.map_none, ne_eq, not_true, if_false, if_true]; exact hq G hX FX.rf
      | some j =>
        rw [hp] at hq
        dsimp only at hq
        have hj := (hI.2.2.2.2.2.2.1 i w' j hp).2
        simp only [Option.map_some, reduceCtorEq, ne_eq, not_false_iff, if_true, if_false]
        refine s_takeOff hX hI hi hw1 hp (n4_pos hI hw1 hp) ?_
        have hX2 : RX (pbG G x (ta i) w' none (nI (cntW S i 60 - 1)) (nI (sN S 4 - 1))) x ta ha ca (tk S i w') := RX.pb hX (v := none) hi hw1 (by have := cntW_clr hp 60 hw1; congr 1; omega)
        have hF2 : FX x z G (pbG G x (ta i) w' none (nI (cntW S i 60 - 1)) (nI (sN S 4 - 1))) := pbG_fx
        generalize pbG G x (ta i) w' none (nI (cntW S i 60 - 1)) (nI (sN S 4 - 1)) = G2 at hX2 hF2
        have hs2 := hX2.1
        have hi2 : i < sN (tk S i w') 1 := hi
        have u3 := (hX2.2.2.1 i hi2).2.2.1
        have u15 : mI G2 6 9 (ta i) = sI S 4 i := (hX2.2.2.1 i hi2).2.2.2.2.2.2.2.2.2.2.2.2.2.2.1
        have hX3 := RX.fl hX2 (v := sI S 4 i + 1) hi2
        have hI3 := inv_fl (inv_tk hI hw1 hp) (v := sI S 4 i + 1) hi2
        have hF3 : FX x z G (pI G2 6 9 (ta i) (sI S 4 i + 1)) := hF2.tr (Nat.le_refl _) fl_fx
        simp only [ent, entL, isL_int, isL_rf, isL_long, locS, List.length_cons, List.length_nil, List.cons_append, List.nil_append, List.replicate_succ, List.replicate_zero, Bool.false_eq_true, if_false, if_true, true_and, and_true, Nat.reduceAdd, Nat.reduceSub, Nat.reduceLeDiff, Nat.zero_le, Nat.le_refl, Nat.zero_add, Nat.add_zero, bI_0, bI_1, bI_n, Nat.reduceEqDiff, false_and, and_false, and_self, e_63_0, e_63_1, e_63_2, e_63_5, e_63_6, e_63_7, e_63_10, e_63_11, e_63_12, e_63_15, e_63_18, e_63_20, e_63_21, e_63_22, e_63_23, e_63_26, e_63_28, e_63_30, e_63_33, e_63_35, e_63_36, e_63_37, e_63_38, e_63_39, e_63_42, e_63_43, e_63_44, e_63_47, e_63_48, e_63_49, e_63_52, e_63_53, e_63_55, e_63_56, e_63_57, e_63_60, e_63_62, e_63_64, e_63_67, e_63_68, e_63_69, e_63_70, e_63_72, e_63_74, e_63_75, e_63_78, e_63_80, e_63_83, u3, u15, hs2]
        have hs3 := hX3.1
        simp only [hs3, true_and]
        generalize pI G2 6 9 (ta i) (sI S 4 i + 1) = G3 at hX3 hF3 hs3
        generalize hS3 : uI (tk S i w') 4 i (sI S 4 i + 1) = S3 at hX3 hI3 hq
        have n1 : sN S3 1 = sN S 1 := by rw [← hS3]; rfl
        have n2 : sN S3 2 = sN S 2 := by rw [← hS3]; rfl
        have n0 : sN S3 0 = sN S 0 := by rw [← hS3]; rfl
        refine s_best hX3 hI3 (but := some i) (by omega) hw1 (by omega) (fun b hb => by cases hb; omega) ?_
        intro G4 hG4
        have hX4 := hX3.sx hG4
        have hs4 := hX4.1
        have hF4 := hF3.tr (Nat.le_refl _) (hG4.fx hs3)
        rw [← n1] at hq
        cases hb : bestF S3 j w' (some i) (sN S3 1) with
        | none =>
          rw [hb] at hq
          simp only [ent, entL, isL_int, isL_rf, isL_long, locS, List.length_cons, List.length_nil, List.cons_append, List.nil_append, List.replicate_succ, List.replicate_zero, Bool.false_eq_true, if_false, if_true, true_and, and_true, Nat.reduceAdd, Nat.reduceSub, Nat.reduceLeDiff, Nat.zero_le, Nat.le_refl, Nat.zero_add, Nat.add_zero, bI_0, bI_1, bI_n, Nat.reduceEqDiff, false_and, and_false, and_self, e_63_0, e_63_1, e_63_2, e_63_5, e_63_6, e_63_7, e_63_10, e_63_11, e_63_12, e_63_15, e_63_18, e_63_20, e_63_21, e_63_22, e_63_23, e_63_26, e_63_28, e_63_30, e_63_33, e_63_35, e_63_36, e_63_37, e_63_38, e_63_39, e_63_42, e_63_43, e_63_44, e_63_47, e_63_48, e_63_49, e_63_52, e_63_53, e_63_55, e_63_56, e_63_57, e_63_60, e_63_62, e_63_64, e_63_67, e_63_68, e_63_69, e_63_70, e_63_72, e_63_74, e_63_75, e_63_78, e_63_80, e_63_83, Option.map_none, if_true, ne_eq, not_true]
          exact hq G4 hX4 hF4
        | some b =>
          rw [hb] at hq
          obtain ⟨hb1, hb2⟩ := bestF_lt hb
          simp only [ent, entL, isL_int, isL_rf, isL_long, locS, List.length_cons, List.length_nil, List.cons_append, List.nil_append, List.replicate_succ, List.replicate_zero, Bool.false_eq_true, if_false, if_true, true_and, and_true, Nat.reduceAdd, Nat.reduceSub, Nat.reduceLeDiff, Nat.zero_le, Nat.le_refl, Nat.zero_add, Nat.add_zero, bI_0, bI_1, bI_n, Nat.reduceEqDiff, false_and, and_false, and_self, e_63_0, e_63_1, e_63_2, e_63_5, e_63_6, e_63_7, e_63_10, e_63_11, e_63_12, e_63_15, e_63_18, e_63_20, e_63_21, e_63_22, e_63_23, e_63_26, e_63_28, e_63_30, e_63_33, e_63_35, e_63_36, e_63_37, e_63_38, e_63_39, e_63_42, e_63_43, e_63_44, e_63_47, e_63_48, e_63_49, e_63_52, e_63_53, e_63_55, e_63_56, e_63_57, e_63_60, e_63_62, e_63_64, e_63_67, e_63_68, e_63_69, e_63_70, e_63_72, e_63_74, e_63_75, e_63_78, e_63_80, e_63_83, Option.map_some, reduceCtorEq, ne_eq, not_false_iff, if_true, if_false, hs4]
          refine s_putOn hX4 hI3 hb1 (by omega) hw1 (why0 hb2).1 ?_
          have hX5 : RX (pbG G4 x (ta b) w' (some (ha j)) (nI (cntW S3 b 60 + 1)) (nI (sN S3 4 + 1))) x ta ha ca (bk S3 b w' j) := RX.pb hX4 (v := some j) hb1 hw1 (by rw [cntW_set (why0 hb2).1 60 hw1])
          have hF5 : FX x z G (pbG G4 x (ta b) w' (some (ha j)) (nI (cntW S3 b 60 + 1)) (nI (sN S3 4 + 1))) := hF4.tr (Nat.le_refl _) pbG_fx
          generalize pbG G4 x (ta b) w' (some (ha j)) (nI (cntW S3 b 60 + 1)) (nI (sN S3 4 + 1)) = G5 at hX5 hF5
          obtain ⟨v1, v2, v3, v4, -⟩ := hX5.2.2.1 b hb1
          simp only [ent, entL, isL_int, isL_rf, isL_long, locS, List.length_cons, List.length_nil, List.cons_append, List.nil_append, List.replicate_succ, List.replicate_zero, Bool.false_eq_true, if_false, if_true, true_and, and_true, Nat.reduceAdd, Nat.reduceSub, Nat.reduceLeDiff, Nat.zero_le, Nat.le_refl, Nat.zero_add, Nat.add_zero, bI_0, bI_1, bI_n, Nat.reduceEqDiff, false_and, and_false, and_self, e_63_0, e_63_1, e_63_2, e_63_5, e_63_6, e_63_7, e_63_10, e_63_11, e_63_12, e_63_15, e_63_18, e_63_20, e_63_21, e_63_22, e_63_23, e_63_26, e_63_28, e_63_30, e_63_33, e_63_35, e_63_36, e_63_37, e_63_38, e_63_39, e_63_42, e_63_43, e_63_44, e_63_47, e_63_48, e_63_49, e_63_52, e_63_53, e_63_55, e_63_56, e_63_57, e_63_60, e_63_62, e_63_64, e_63_67, e_63_68, e_63_69, e_63_70, e_63_72, e_63_74, e_63_75, e_63_78, e_63_80, e_63_83, v3, v4]
          exact hq G5 hX5 hF5
theorem filt_add {p p' : Nat → Bool} {t : Nat} (h : ∀ k, k ≠ t → p' k = p k) (h1 : p t = false) (h2 : p' t = true) : ∀ n, ((List.range n).filter p').length = ((List.range n).filter p).length + (if t < n then 1 else 0)
  | 0 => by simp
  | n + 1 => by
    have := filt_add h h1 h2 n
    rw [filt_succ, filt_succ, List.length_append, List.length_append, this]
    by_cases e : n = t
    · subst e
      simp [h1, h2]
    · rw [h n e]
      have : (if t < n then 1 else 0) = (if t < n + 1 then 1 else 0) := by split <;> split <;> omega
      omega
theorem bl_bk {t h w : Nat} (ht : t < sN S 1) (hp : sP S t w = none) : (bl (bk S t w h) h w).length = (bl S h w).length + 1 := by
  have e : (bl (bk S t w h) h w) = (List.range (sN S 1)).filter fun t' => decide ((if t' = t ∧ w = w then some h else sP S t' w) = some h) := rfl
  rw [e, bl, filt_add (p := fun t' => decide (sP S t' w = some h)) (t := t) (fun k hk => by simp [hk]) (by simp [hp]) (by simp), if_pos ht]
set_option maxRecDepth 8000 in
theorem l_fill {d z j w n : Nat} {h1 : Option Value} (hw1 : w < 60) (hn : n < 10) {Q : Rt} : ∀ (f : Nat) (S : St) (G1 : Mem) (o6 : Option Value), RX G1 x ta ha ca S → Inv S → j < sN S 2 → sN S 0 ≤ w → FX x z G G1 → n ≤ (bl S j w).length + f → (∀ G', RX G' x ta ha ca (fillF j w n f S) → FX x z G G' → Q (some (.int (nI (bl (fillF j w n f S) j w).length))) G' z) →
    WP (d + 6) 64 Q 48 [some (va_rf (some x)), h1, some (.int (nI w)), some (.int (nI n)), some (va_rf (some (ha j))), some (.int (nI (bl S j w).length)), o6] [] G1 z 0 0
  | f, S, G1, o6, hX, hI, hj, hw2, hF, hf, hq => by
    have hs := hX.1
    have hnn := hX.2.1
    have hl9 := hI.2.2.2.2.2.2.2.2.1 j w
    have e4 : ((400 : Int32) ≤ nI (sN S 4)) = (400 ≤ sN S 4) := by rw [show (400 : Int32) = nI 400 from rfl]; exact n_le (by decide) (by have := hI.2.2.2.2.1; omega)
    rw [e_64_48]
    simp only [ent, entL, isL_int, isL_rf, isL_long, locS, List.length_cons, List.length_nil, List.cons_append, List.nil_append, List.replicate_succ, List.replicate_zero, Bool.false_eq_true, if_false, if_true, true_and, and_true, Nat.reduceAdd, Nat.reduceSub, Nat.reduceLeDiff, Nat.zero_le, Nat.le_refl, Nat.zero_add, Nat.add_zero, bI_0, bI_1, bI_n, Nat.reduceEqDiff, false_and, and_false, and_self, e_64_0, e_64_1, e_64_2, e_64_5, e_64_7, e_64_9, e_64_12, e_64_13, e_64_14, e_64_17, e_64_20, e_64_21, e_64_22, e_64_24, e_64_27, e_64_30, e_64_31, e_64_32, e_64_33, e_64_35, e_64_36, e_64_39, e_64_40, e_64_43, e_64_46, e_64_50, e_64_51, e_64_54, e_64_55, e_64_58, e_64_61, e_64_64, e_64_65, e_64_67, e_64_68, e_64_69, e_64_72, e_64_74, e_64_76, e_64_79, e_64_82, e_64_83, e_64_85, e_64_87, e_64_88, e_64_91, e_64_94, e_64_97, e_64_99, n_le (show n < 2 ^ 31 by omega) (show (bl S j w).length < 2 ^ 31 by omega), hs, hnn, e4]
    match f with
    | 0 =>
      simp only [show n ≤ (bl S j w).length by omega, if_true]
      exact hq G1 hX hF
    | f + 1 =>
      by_cases c1 : n ≤ (bl S j w).length
      · simp only [c1, if_true]
        unfold fillF at hq
        rw [if_neg (by omega)] at hq
        exact hq G1 hX hF
      · simp only [c1, if_false]
        by_cases c2 : 400 ≤ sN S 4
        · simp only [c2, if_true]
          unfold fillF at hq
          rw [if_neg (by omega)] at hq
          exact hq G1 hX hF
        · simp only [c2, if_false]
          unfold fillF at hq
          rw [if_pos (by omega)] at hq
          refine s_best hX hI (but := none) hj hw1 hw2 (fun b hb => by cases hb) ?_
          intro G2 hG2
          have hX2 := hX.sx hG2
          have hs2 := hX2.1
          have hF2 := hF.tr (Nat.le_refl _) (hG2.fx hs)
          cases hb : bestF S j w none (sN S 1) with
          | none =>
            rw [hb] at hq
            simp only [ent, entL, isL_int, isL_rf, isL_long, locS, List.length_cons, List.length_nil, List.cons_append, List.nil_append, List.replicate_succ, List.replicate_zero, Bool.false_eq_true, if_false, if_true, true_and, and_true, Nat.reduceAdd, Nat.reduceSub, Nat.reduceLeDiff, Nat.zero_le, Nat.le_refl, Nat.zero_add, Nat.add_zero, bI_0, bI_1, bI_n, Nat.reduceEqDiff, false_and, and_false, and_self, e_64_0, e_64_1, e_64_2, e_64_5, e_64_7, e_64_9, e_64_12, e_64_13, e_64_14, e_64_17, e_64_20, e_64_21, e_64_22, e_64_24, e_64_27, e_64_30, e_64_31, e_64_32, e_64_33, e_64_35, e_64_36, e_64_39, e_64_40, e_64_43, e_64_46, e_64_50, e_64_51, e_64_54, e_64_55, e_64_58, e_64_61, e_64_64, e_64_65, e_64_67, e_64_68, e_64_69, e_64_72, e_64_74, e_64_76, e_64_79, e_64_82, e_64_83, e_64_85, e_64_87, e_64_88, e_64_91, e_64_94, e_64_97, e_64_99, Option.map_none, if_true, ne_eq, not_true]
            exact hq G2 hX2 hF2
          | some b =>
            rw [hb] at hq
            obtain ⟨hb1, hb2⟩ := bestF_lt hb
            simp only [ent, entL, isL_int, isL_rf, isL_long, locS, List.length_cons, List.length_nil, List.cons_append, List.nil_append, List.replicate_succ, List.replicate_zero, Bool.false_eq_true, if_false, if_true, true_and, and_true, Nat.reduceAdd, Nat.reduceSub, Nat.reduceLeDiff, Nat.zero_le, Nat.le_refl, Nat.zero_add, Nat.add_zero, bI_0, bI_1, bI_n, Nat.reduceEqDiff, false_and, and_false, and_self, e_64_0, e_64_1, e_64_2, e_64_5, e_64_7, e_64_9, e_64_12, e_64_13, e_64_14, e_64_17, e_64_20, e_64_21, e_64_22, e_64_24, e_64_27, e_64_30, e_64_31, e_64_32, e_64_33, e_64_35, e_64_36, e_64_39, e_64_40, e_64_43, e_64_46, e_64_50, e_64_51, e_64_54, e_64_55, e_64_58, e_64_61, e_64_64, e_64_65, e_64_67, e_64_68, e_64_69, e_64_72, e_64_74, e_64_76, e_64_79, e_64_82, e_64_83, e_64_85, e_64_87, e_64_88, e_64_91, e_64_94, e_64_97, e_64_99, Option.map_some, reduceCtorEq, ne_eq, not_false_iff, if_true, if_false, hs2]
            refine s_putOn hX2 hI hb1 hj hw1 (why0 hb2).1 ?_
            have hX5 : RX (pbG G2 x (ta b) w (some (ha j)) (nI (cntW S b 60 + 1)) (nI (sN S 4 + 1))) x ta ha ca (bk S b w j) := RX.pb hX2 (v := some j) hb1 hw1 (by rw [cntW_set (why0 hb2).1 60 hw1])
            have hF5 : FX x z G (pbG G2 x (ta b) w (some (ha j)) (nI (cntW S b 60 + 1)) (nI (sN S 4 + 1))) := hF2.tr (Nat.le_refl _) pbG_fx
            generalize pbG G2 x (ta b) w (some (ha j)) (nI (cntW S b 60 + 1)) (nI (sN S 4 + 1)) = G5 at hX5 hF5
            have el := bl_bk (h := j) hb1 (why0 hb2).1
            simp only [ent, entL, isL_int, isL_rf, isL_long, locS, List.length_cons, List.length_nil, List.cons_append, List.nil_append, List.replicate_succ, List.replicate_zero, Bool.false_eq_true, if_false, if_true, true_and, and_true, Nat.reduceAdd, Nat.reduceSub, Nat.reduceLeDiff, Nat.zero_le, Nat.le_refl, Nat.zero_add, Nat.add_zero, bI_0, bI_1, bI_n, Nat.reduceEqDiff, false_and, and_false, and_self, e_64_0, e_64_1, e_64_2, e_64_5, e_64_7, e_64_9, e_64_12, e_64_13, e_64_14, e_64_17, e_64_20, e_64_21, e_64_22, e_64_24, e_64_27, e_64_30, e_64_31, e_64_32, e_64_33, e_64_35, e_64_36, e_64_39, e_64_40, e_64_43, e_64_46, e_64_50, e_64_51, e_64_54, e_64_55, e_64_58, e_64_61, e_64_64, e_64_65, e_64_67, e_64_68, e_64_69, e_64_72, e_64_74, e_64_76, e_64_79, e_64_82, e_64_83, e_64_85, e_64_87, e_64_88, e_64_91, e_64_94, e_64_97, e_64_99, n_1, ← el]
            exact l_fill hw1 hn f _ G5 _ hX5 (inv_bk hI hb1 hj hw1 hb2 (by omega)) hj hw2 hF5 (by omega) hq
set_option maxRecDepth 8000 in
theorem c_fill (hX : RX G x ta ha ca S) (hI : Inv S) {d z : Nat} {h w n : Int32} {Q : Rt} (hq : ∀ G', RX G' x ta ha ca (opFill S h w n).1 → FX x z G G' → Q (some (.int (opFill S h w n).2)) G' z) : CALL (d + 7) 64 [va_rf (some x), .int h, .int w, .int n] G z Q := by
  have hs := hX.1
  have e9 : (0 ≤ n ∧ n ≤ 9) = ((ix n 10).isSome = true) := by rw [show (9 : Int32) = nI 10 - 1 from by decide, n_m1' (by decide), ix_c (by decide)]
  rw [CALL_eq]
  simp only [mxE_64, ent, entL, isL_int, isL_rf, isL_long, locS, List.length_cons, List.length_nil, List.cons_append, List.nil_append, List.replicate_succ, List.replicate_zero, Bool.false_eq_true, if_false, if_true, true_and, and_true, Nat.reduceAdd, Nat.reduceSub, Nat.reduceLeDiff, Nat.zero_le, Nat.le_refl, Nat.zero_add, Nat.add_zero, bI_0, bI_1, bI_n, Nat.reduceEqDiff, false_and, and_false, and_self, e_64_0, e_64_1, e_64_2, e_64_5, e_64_7, e_64_9, e_64_12, e_64_13, e_64_14, e_64_17, e_64_20, e_64_21, e_64_22, e_64_24, e_64_27, e_64_30, e_64_31, e_64_32, e_64_33, e_64_35, e_64_36, e_64_39, e_64_40, e_64_43, e_64_46, e_64_50, e_64_51, e_64_54, e_64_55, e_64_58, e_64_61, e_64_64, e_64_65, e_64_67, e_64_68, e_64_69, e_64_72, e_64_74, e_64_76, e_64_79, e_64_82, e_64_83, e_64_85, e_64_87, e_64_88, e_64_91, e_64_94, e_64_97, e_64_99, s_hallAt hX hI, hs, s_isOpen hX, o_ix hI, s_isWithin, e9]
  unfold opFill at hq
  cases hh : ix h (sN S 2) with
  | none => rw [hh] at hq; simp only [Option.map_none, if_true]; exact hq G hX FX.rf
  | some j =>
    obtain ⟨hj, -⟩ := ix_s (by have := hI.2.2.1; omega) hh
    rw [hh] at hq
    simp only [Option.map_some, reduceCtorEq, if_false]
    cases hw : opO S w with
    | none => rw [hw] at hq; simp only [Option.isSome_none, Bool.false_eq_true, not_false_iff, if_true]; exact hq G hX FX.rf
    | some w' =>
      rw [hw] at hq
      obtain ⟨hw1, hw2, rfl⟩ := opO_s hw
      simp only [Option.isSome_some, not_true, if_false]
      cases hn : ix n 10 with
      | none => rw [hn] at hq; simp only [Option.isSome_none, Bool.false_eq_true, not_false_iff, if_true, if_false]; exact hq G hX FX.rf
      | some n' =>
        rw [hn] at hq
        obtain ⟨hn1, rfl⟩ := ix_s (by decide) hn
        simp only [Option.isSome_some, not_true, if_false, if_true]
        refine s_gather hX hI hw1 hj ?_
        intro G1 hG hB
        have hX1 := hX.sx hG
        have hs1 := hX1.1
        simp only [ent, entL, isL_int, isL_rf, isL_long, locS, List.length_cons, List.length_nil, List.cons_append, List.nil_append, List.replicate_succ, List.replicate_zero, Bool.false_eq_true, if_false, if_true, true_and, and_true, Nat.reduceAdd, Nat.reduceSub, Nat.reduceLeDiff, Nat.zero_le, Nat.le_refl, Nat.zero_add, Nat.add_zero, bI_0, bI_1, bI_n, Nat.reduceEqDiff, false_and, and_false, and_self, e_64_0, e_64_1, e_64_2, e_64_5, e_64_7, e_64_9, e_64_12, e_64_13, e_64_14, e_64_17, e_64_20, e_64_21, e_64_22, e_64_24, e_64_27, e_64_30, e_64_31, e_64_32, e_64_33, e_64_35, e_64_36, e_64_39, e_64_40, e_64_43, e_64_46, e_64_50, e_64_51, e_64_54, e_64_55, e_64_58, e_64_61, e_64_64, e_64_65, e_64_67, e_64_68, e_64_69, e_64_72, e_64_74, e_64_76, e_64_79, e_64_82, e_64_83, e_64_85, e_64_87, e_64_88, e_64_91, e_64_94, e_64_97, e_64_99, hs1, hB.1]
        exact l_fill hw1 hn1 10 S G1 _ hX1 hI hj hw2 (hG.fx hs) (by omega) hq
end
