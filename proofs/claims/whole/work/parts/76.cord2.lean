/-! the class's order and waits: the calls -/
section
variable {G : Mem} {x : Nat} {ta ha ca : Nat → Nat} {S : St} {B : List Nat}
theorem sxS {v u : Int32} : SX x G (pI (pI G 0 5 (x + 6) v) 0 6 (x + 6) u) := by
  refine ⟨fun _ => rfl, fun _ => rfl, fun c k a hc => ?_, fun _ _ _ => rfl, fun _ _ _ => rfl, fun _ _ _ => rfl⟩
  simp only [memS, show ¬ c = 0 by omega, false_and, if_false]
/-- the order lies, of the bill B -/
def LZ (G : Mem) (x : Nat) (S : St) (B : List Nat) (w : Nat) : Prop := mI G 0 5 (x + 6) = nI B.length ∧ (B = [] → mI G 0 6 (x + 6) = -1) ∧ (¬ B = [] → LY G x (oP S B w) B)
set_option maxRecDepth 8000 in
theorem s_lay0 (hX : RX G x ta ha ca S) (hBl : mI G 1 1 (x + 4) = 0) {d z : Nat} {w k : Int32} {Q : Rt} (hR : ∀ G', SX x G G' → mI G' 0 5 (x + 6) = 0 → mI G' 0 6 (x + 6) = -1 → Q none G' z) : CALL (d + 1) 2 [va_rf (some (x + 6)), va_rf (some (x + 4)), .int w, .int k] G z Q := by
  have hs := hX.1
  rw [CALL_eq]
  have e1 : ¬ (9 : Int32) < 0 := by decide
  have e2 : (0 : Int32) ≤ 0 := by decide
  simp only [mxE_2, ent, entL, isL_int, isL_rf, isL_long, locS, List.length_cons, List.length_nil, List.cons_append, List.nil_append, List.replicate_succ, List.replicate_zero, Bool.false_eq_true, if_false, if_true, true_and, and_true, Nat.reduceAdd, Nat.reduceSub, Nat.reduceLeDiff, Nat.zero_le, Nat.le_refl, Nat.zero_add, Nat.add_zero, bI_0, bI_1, bI_n, Nat.reduceEqDiff, false_and, and_false, and_self, e_2_0, e_2_1, e_2_2, e_2_5, e_2_7, e_2_10, e_2_13, e_2_14, e_2_15, e_2_18, e_2_19, e_2_22, e_2_25, e_2_26, e_2_27, e_2_28, e_2_29, e_2_32, e_2_33, e_2_36, e_2_37, e_2_38, e_2_41, hs, hBl, memS, e1, e2, Nat.reduceEqDiff]
  exact hR _ sxS (by simp [memS]) (by simp [memS])
set_option maxRecDepth 8000 in
theorem s_layB (hX : RX G x ta ha ca S) (hI : Inv S) (hBl : BillOK G x ta B) (hlt : ∀ t ∈ B, t < sN S 1) {d z w : Nat} {Q : Rt} (hw : w < 60) (hR : ∀ G', SX x G G' → LZ G' x S B w → Q none G' z) : CALL (d + 5) 2 [va_rf (some (x + 6)), va_rf (some (x + 4)), .int (nI w), .int (nI (sN S 0))] G z Q := by
  have hs := hX.1
  have h9 := hBl.2.1
  rw [CALL_eq]
  have e1 : ¬ (9 : Int32) < nI B.length := by rw [show (9 : Int32) = nI 9 from rfl, n_lt (by decide) (by omega)]; omega
  have hS1 : SX x G (pI (pI G 0 5 (x + 6) (nI B.length)) 0 6 (x + 6) (-1)) := sxS
  have hX1 := hX.sx hS1
  have hs1 := hX1.1
  have hB1 : BillOK (pI (pI G 0 5 (x + 6) (nI B.length)) 0 6 (x + 6) (-1)) x ta B := ⟨by simp [memS]; exact hBl.1, h9, fun k t hk => by simp [memS]; exact hBl.2.2 k t hk⟩
  have z1 : mI (pI (pI G 0 5 (x + 6) (nI B.length)) 0 6 (x + 6) (-1)) 0 5 (x + 6) = nI B.length := by simp [memS]
  have y1 : mI (pI (pI G 0 5 (x + 6) (nI B.length)) 0 6 (x + 6) (-1)) 0 6 (x + 6) = -1 := by simp [memS]
  have e2 : (nI B.length ≤ 0) = (B.length ≤ 0) := n_le (b := 0) (by omega) (by decide)
  simp only [mxE_2, ent, entL, isL_int, isL_rf, isL_long, locS, List.length_cons, List.length_nil, List.cons_append, List.nil_append, List.replicate_succ, List.replicate_zero, Bool.false_eq_true, if_false, if_true, true_and, and_true, Nat.reduceAdd, Nat.reduceSub, Nat.reduceLeDiff, Nat.zero_le, Nat.le_refl, Nat.zero_add, Nat.add_zero, bI_0, bI_1, bI_n, Nat.reduceEqDiff, false_and, and_false, and_self, e_2_0, e_2_1, e_2_2, e_2_5, e_2_7, e_2_10, e_2_13, e_2_14, e_2_15, hs, hBl.1, memS, e1]
  generalize pI (pI G 0 5 (x + 6) (nI B.length)) 0 6 (x + 6) (-1) = G1 at *
  simp only [ent, entL, isL_int, isL_rf, isL_long, locS, List.length_cons, List.length_nil, List.cons_append, List.nil_append, List.replicate_succ, List.replicate_zero, Bool.false_eq_true, if_false, if_true, true_and, and_true, Nat.reduceAdd, Nat.reduceSub, Nat.reduceLeDiff, Nat.zero_le, Nat.le_refl, Nat.zero_add, Nat.add_zero, bI_0, bI_1, bI_n, Nat.reduceEqDiff, false_and, and_false, and_self, e_2_18, e_2_19, e_2_22, e_2_25, e_2_26, e_2_27, e_2_28, e_2_29, e_2_41, hs1, z1, e2]
  by_cases c : B = []
  · have hl : B.length ≤ 0 := by rw [c]; exact Nat.le_refl _
    rw [if_pos hl]
    exact hR G1 hS1 ⟨z1, fun _ => y1, fun q => absurd c q⟩
  · have hl : ¬ B.length ≤ 0 := fun q => c (List.eq_nil_of_length_eq_zero (by omega))
    rw [if_neg hl]
    refine s_may hX1 hI hB1 hlt hw z1 fun G2 hF2 hD2 => ?_
    have hX2 := hX1.sx hF2.sx
    have hs2 := hX2.1
    simp only [ent, entL, isL_int, isL_rf, isL_long, locS, List.length_cons, List.length_nil, List.cons_append, List.nil_append, List.replicate_succ, List.replicate_zero, Bool.false_eq_true, if_false, if_true, true_and, and_true, Nat.reduceAdd, Nat.reduceSub, Nat.reduceLeDiff, Nat.zero_le, Nat.le_refl, Nat.zero_add, Nat.add_zero, bI_0, bI_1, bI_n, Nat.reduceEqDiff, false_and, and_false, and_self, e_2_32, e_2_33, hs2]
    refine s_find hD2 fun G3 hD3 hL3 hF3 => ?_
    have hX3 := hX2.sx hF3.sx
    have hs3 := hX3.1
    have hB3 := (hB1.vx hF2).bx hF3
    have y3 : mI G3 0 6 (x + 6) = -1 := by rw [hF3.2.2.1, hF2.2.2.1]; exact y1
    simp only [ent, entL, isL_int, isL_rf, isL_long, locS, List.length_cons, List.length_nil, List.cons_append, List.nil_append, List.replicate_succ, List.replicate_zero, Bool.false_eq_true, if_false, if_true, true_and, and_true, Nat.reduceAdd, Nat.reduceSub, Nat.reduceLeDiff, Nat.zero_le, Nat.le_refl, Nat.zero_add, Nat.add_zero, bI_0, bI_1, bI_n, Nat.reduceEqDiff, false_and, and_false, and_self, e_2_36, e_2_37, e_2_38, hs3]
    refine s_layL hX3 hB3 hlt hD3 hL3 rfl (show 0 < B.length by omega) y3 fun G4 hS4 hY4 => ?_
    simp only [ent, entL, isL_int, isL_rf, isL_long, locS, List.length_cons, List.length_nil, List.cons_append, List.nil_append, List.replicate_succ, List.replicate_zero, Bool.false_eq_true, if_false, if_true, true_and, and_true, Nat.reduceAdd, Nat.reduceSub, Nat.reduceLeDiff, Nat.zero_le, Nat.le_refl, Nat.zero_add, Nat.add_zero, bI_0, bI_1, bI_n, Nat.reduceEqDiff, false_and, and_false, and_self, e_2_41]
    exact hR G4 (((hS1.tr hF2.sx).tr hF3.sx).tr hS4) ⟨hY4.1, fun q => absurd q c, fun _ => hY4⟩
/-- what layBest leaves -/
def LW (G : Mem) (x : Nat) (S : St) (h w : Int32) : Prop := match ix h (sN S 2), ix w 60 with
  | some h, some w => LZ G x S (bl S h w) w
  | _, _ => mI G 0 6 (x + 6) = -1
set_option maxRecDepth 8000 in
theorem s_layBest (hX : RX G x ta ha ca S) (hI : Inv S) {d z : Nat} {h w : Int32} {Q : Rt} (hR : ∀ G', SX x G G' → LW G' x S h w → Q none G' z) : CALL (d + 6) 76 [va_rf (some x), .int h, .int w] G z Q := by
  have hs := hX.1
  have hn := hX.2.1
  rw [CALL_eq]
  simp only [mxE_76, ent, entL, isL_int, isL_rf, isL_long, locS, List.length_cons, List.length_nil, List.cons_append, List.nil_append, List.replicate_succ, List.replicate_zero, Bool.false_eq_true, if_false, if_true, true_and, and_true, Nat.reduceAdd, Nat.reduceSub, Nat.reduceLeDiff, Nat.zero_le, Nat.le_refl, Nat.zero_add, Nat.add_zero, bI_0, bI_1, bI_n, Nat.reduceEqDiff, false_and, and_false, and_self, e_76_0, e_76_1, e_76_2, e_76_5, e_76_6, e_76_7, e_76_10, e_76_11, e_76_14, e_76_17, e_76_18, e_76_21, e_76_22, e_76_25, e_76_28, e_76_29, e_76_30, e_76_31, s_hallAt hX hI, hs, s_isWeek, w_ix]
  have hS0 : SX x G (pI G 1 1 (x + 4) 0) := by
    refine ⟨fun _ => rfl, fun _ => rfl, fun c k a hc => ?_, fun _ _ _ => rfl, fun _ _ _ => rfl, fun _ _ _ => rfl⟩
    simp only [memS, show ¬ c = 1 by omega, false_and, if_false]
  have none_ : ∀ r, (∀ G', mI G' 0 6 (x + 6) = -1 → LW G' x S h w) → WP (d + 5) 76 Q 34 [some (va_rf (some x)), some (.int h), some (.int w), some (va_rf r)] [] (pI G 1 1 (x + 4) 0) z 0 0 := by
    intro r hW
    have hX1 := hX.sx hS0
    have hs1 := hX1.1
    have hn1 := hX1.2.1
    have z1 : mI (pI G 1 1 (x + 4) 0) 1 1 (x + 4) = 0 := by simp [memS]
    generalize pI G 1 1 (x + 4) 0 = G1 at *
    simp only [ent, entL, isL_int, isL_rf, isL_long, locS, List.length_cons, List.length_nil, List.cons_append, List.nil_append, List.replicate_succ, List.replicate_zero, Bool.false_eq_true, if_false, if_true, true_and, and_true, Nat.reduceAdd, Nat.reduceSub, Nat.reduceLeDiff, Nat.zero_le, Nat.le_refl, Nat.zero_add, Nat.add_zero, bI_0, bI_1, bI_n, Nat.reduceEqDiff, false_and, and_false, and_self, e_76_34, e_76_35, e_76_38, e_76_39, e_76_42, e_76_43, e_76_44, e_76_47, hs1, hn1]
    refine s_lay0 hX1 z1 fun G2 hS2 _ hm2 => ?_
    simp only [ent, entL, isL_int, isL_rf, isL_long, locS, List.length_cons, List.length_nil, List.cons_append, List.nil_append, List.replicate_succ, List.replicate_zero, Bool.false_eq_true, if_false, if_true, true_and, and_true, Nat.reduceAdd, Nat.reduceSub, Nat.reduceLeDiff, Nat.zero_le, Nat.le_refl, Nat.zero_add, Nat.add_zero, bI_0, bI_1, bI_n, Nat.reduceEqDiff, false_and, and_false, and_self, e_76_50]
    exact hR G2 (hS0.tr hS2) (hW G2 hm2)
  cases hh : ix h (sN S 2) with
  | none =>
    simp only [Option.map_none, if_true]
    refine none_ _ fun G' q => ?_
    unfold LW; rw [hh]; exact q
  | some j =>
    obtain ⟨hj, -⟩ := ix_s (by have := hI.2.2.1; omega) hh
    simp only [Option.map_some, reduceCtorEq, if_false]
    cases hw : ix w 60 with
    | none =>
      simp only [Option.isSome_none, Bool.false_eq_true, not_false_iff, if_true]
      refine none_ _ fun G' q => ?_
      unfold LW; rw [hh, hw]; exact q
    | some w' =>
      obtain ⟨hw1, rfl⟩ := ix_s (by decide) hw
      simp only [Option.isSome_some, not_true, if_false]
      refine s_gather hX hI hw1 hj fun G1 hS1 hB1 => ?_
      have hX1 := hX.sx hS1
      have hs1 := hX1.1
      have hn1 := hX1.2.1
      simp only [ent, entL, isL_int, isL_rf, isL_long, locS, List.length_cons, List.length_nil, List.cons_append, List.nil_append, List.replicate_succ, List.replicate_zero, Bool.false_eq_true, if_false, if_true, true_and, and_true, Nat.reduceAdd, Nat.reduceSub, Nat.reduceLeDiff, Nat.zero_le, Nat.le_refl, Nat.zero_add, Nat.add_zero, bI_0, bI_1, bI_n, Nat.reduceEqDiff, false_and, and_false, and_self, e_76_34, e_76_35, e_76_38, e_76_39, e_76_42, e_76_43, e_76_44, e_76_47, hs1, hn1]
      refine s_layB hX1 hI hB1 (fun t ht => bl_lt ht) hw1 fun G2 hS2 hZ2 => ?_
      simp only [ent, entL, isL_int, isL_rf, isL_long, locS, List.length_cons, List.length_nil, List.cons_append, List.nil_append, List.replicate_succ, List.replicate_zero, Bool.false_eq_true, if_false, if_true, true_and, and_true, Nat.reduceAdd, Nat.reduceSub, Nat.reduceLeDiff, Nat.zero_le, Nat.le_refl, Nat.zero_add, Nat.add_zero, bI_0, bI_1, bI_n, Nat.reduceEqDiff, false_and, and_false, and_self, e_76_50]
      refine hR G2 (hS1.tr hS2) ?_
      unfold LW
      rw [hh, hw]
      exact hZ2
theorem LW.sum {hh w : Int32} (h : LW G x S hh w) : mI G 0 6 (x + 6) = opWaits S hh w := by
  unfold LW at h
  unfold opWaits
  cases h1 : ix hh (sN S 2) with
  | none => rw [h1] at h; exact h
  | some j =>
    cases h2 : ix w 60 with
    | none => rw [h1, h2] at h; exact h
    | some w' =>
      rw [h1, h2] at h
      obtain ⟨a1, a2, a3⟩ := h
      dsimp only
      unfold layS
      by_cases c : bl S j w' = []
      · rw [if_pos c]; exact a2 c
      · rw [if_neg c]
        have a4 := (a3 c).2
        have e : (oP S (bl S j w') w').1 = (bl S j w').length := rfl
        rw [e] at a4
        cases hF : FF (oP S (bl S j w') w') (bl S j w').length 0 none with
        | none => rw [hF] at a4; exact a4
        | some c => rw [hF] at a4; exact a4.1
set_option maxRecDepth 8000 in
theorem c_waits (hX : RX G x ta ha ca S) (hI : Inv S) {d z : Nat} {h w : Int32} {Q : Rt} (hq : ∀ G', RX G' x ta ha ca S → FX x z G G' → Q (some (.int (opWaits S h w))) G' z) : CALL (d + 7) 62 [va_rf (some x), .int h, .int w] G z Q := by
  have hs := hX.1
  rw [CALL_eq]
  simp only [mxE_62, ent, entL, isL_int, isL_rf, isL_long, locS, List.length_cons, List.length_nil, List.cons_append, List.nil_append, List.replicate_succ, List.replicate_zero, Bool.false_eq_true, if_false, if_true, true_and, and_true, Nat.reduceAdd, Nat.reduceSub, Nat.reduceLeDiff, Nat.zero_le, Nat.le_refl, Nat.zero_add, Nat.add_zero, bI_0, bI_1, bI_n, Nat.reduceEqDiff, false_and, and_false, and_self, e_62_0, e_62_1, e_62_2, e_62_3, hs]
  refine s_layBest hX hI fun G1 hS1 hW1 => ?_
  have hX1 := hX.sx hS1
  have hs1 := hX1.1
  simp only [ent, entL, isL_int, isL_rf, isL_long, locS, List.length_cons, List.length_nil, List.cons_append, List.nil_append, List.replicate_succ, List.replicate_zero, Bool.false_eq_true, if_false, if_true, true_and, and_true, Nat.reduceAdd, Nat.reduceSub, Nat.reduceLeDiff, Nat.zero_le, Nat.le_refl, Nat.zero_add, Nat.add_zero, bI_0, bI_1, bI_n, Nat.reduceEqDiff, false_and, and_false, and_self, e_62_6, e_62_7, e_62_10, e_62_13, hs1, hW1.sum]
  exact hq G1 hX1 (hS1.fx hs)
set_option maxRecDepth 8000 in
theorem c_order (hX : RX G x ta ha ca S) (hI : Inv S) {d z : Nat} {h w k : Int32} {Q : Rt} (hq : ∀ G', RX G' x ta ha ca S → FX x z G G' → Q (some (.int (opOrder S h w k))) G' z) : CALL (d + 7) 61 [va_rf (some x), .int h, .int w, .int k] G z Q := by
  have hs := hX.1
  rw [CALL_eq]
  simp only [mxE_61, ent, entL, isL_int, isL_rf, isL_long, locS, List.length_cons, List.length_nil, List.cons_append, List.nil_append, List.replicate_succ, List.replicate_zero, Bool.false_eq_true, if_false, if_true, true_and, and_true, Nat.reduceAdd, Nat.reduceSub, Nat.reduceLeDiff, Nat.zero_le, Nat.le_refl, Nat.zero_add, Nat.add_zero, bI_0, bI_1, bI_n, Nat.reduceEqDiff, false_and, and_false, and_self, e_61_0, e_61_1, e_61_2, e_61_3, hs]
  refine s_layBest hX hI fun G1 hS1 hW1 => ?_
  have hX1 := hX.sx hS1
  have hs1 := hX1.1
  have hsum := hW1.sum
  have hq := hq G1 hX1 (hS1.fx hs)
  simp only [ent, entL, isL_int, isL_rf, isL_long, locS, List.length_cons, List.length_nil, List.cons_append, List.nil_append, List.replicate_succ, List.replicate_zero, Bool.false_eq_true, if_false, if_true, true_and, and_true, Nat.reduceAdd, Nat.reduceSub, Nat.reduceLeDiff, Nat.zero_le, Nat.le_refl, Nat.zero_add, Nat.add_zero, bI_0, bI_1, bI_n, Nat.reduceEqDiff, false_and, and_false, and_self, e_61_6, e_61_7, e_61_10, e_61_11, hs1]
  have nume : ∀ Q' : Rt, Q' (some (.int (opOrder S h w k))) G1 z → CALL (d + 6) 1 [va_rf (some (x + 6)), .int k] G1 z Q' := by
    intro Q' hq
    rw [CALL_eq]
    simp only [mxE_1, ent, entL, isL_int, isL_rf, isL_long, locS, List.length_cons, List.length_nil, List.cons_append, List.nil_append, List.replicate_succ, List.replicate_zero, Bool.false_eq_true, if_false, if_true, true_and, and_true, Nat.reduceAdd, Nat.reduceSub, Nat.reduceLeDiff, Nat.zero_le, Nat.le_refl, Nat.zero_add, Nat.add_zero, bI_0, bI_1, bI_n, Nat.reduceEqDiff, false_and, and_false, and_self, e_1_0, e_1_1, e_1_4, e_1_5, e_1_8, e_1_9, e_1_10, e_1_11, e_1_14, e_1_15, e_1_16, e_1_19, e_1_22, e_1_23, e_1_26, e_1_27, e_1_28, e_1_31, e_1_32, hs1, hsum, s_isWithin]
    unfold opOrder at hq
    unfold opWaits
    unfold LW at hW1
    cases h1 : ix h (sN S 2) with
    | none => rw [h1] at hq; simp only [if_true]; exact hq
    | some j =>
      cases h2 : ix w 60 with
      | none => rw [h1, h2] at hq; simp only [if_true]; exact hq
      | some w' =>
        rw [h1, h2] at hq hW1
        dsimp only at hq hW1 ⊢
        obtain ⟨a1, a2, a3⟩ := hW1
        have h9 := hI.2.2.2.2.2.2.2.2.1 j w'
        unfold layS at hq ⊢
        by_cases c : bl S j w' = []
        · simp only [if_pos c] at hq ⊢
          simp only [if_true]; exact hq
        · simp only [if_neg c] at hq ⊢
          have hl : 0 < (bl S j w').length := Nat.pos_of_ne_zero fun q => c (List.eq_nil_of_length_eq_zero q)
          have a4 := (a3 c).2
          have e : (oP S (bl S j w') w').1 = (bl S j w').length := rfl
          rw [e] at a4
          cases hF : FF (oP S (bl S j w') w') (bl S j w').length 0 none with
          | none => simp only [hF] at hq ⊢; simp only [if_true]; exact hq
          | some c0 =>
            rw [hF] at a4
            simp only [hF] at hq ⊢
            have hc0 := FF_le hF
            have e5 : (0 ≤ k ∧ k ≤ nI (bl S j w').length - 1) = ((ix k (bl S j w').length).isSome = true) := by
              rw [← ix_c (by omega), n_pred hl]
              refine propext ⟨fun q => ⟨q.1, ?_⟩, fun q => ⟨q.1, ?_⟩⟩
              · have := q.2; rw [i_le, nI_toInt (by omega)] at this; rw [i_lt, nI_toInt (by omega)]; omega
              · have := q.2; rw [i_lt, nI_toInt (by omega)] at this; rw [i_le, nI_toInt (by omega)]; omega
            simp only [n_m1 (show c0 < 2 ^ 31 by omega), if_false, a1, e5]
            cases hk : ix k (bl S j w').length with
            | none => rw [hk] at hq; simp only [Option.isSome_none, Bool.false_eq_true, not_false_iff, if_true]; exact hq
            | some k' =>
              obtain ⟨hk1, rfl⟩ := ix_s (by omega) hk
              rw [hk] at hq
              have hlen := ly_len hF
              have hj : (ly (oP S (bl S j w') w') (bl S j w').length 0 none)[k']? = some ((ly (oP S (bl S j w') w') (bl S j w').length 0 none)[k']'(by omega)) := List.getElem?_eq_getElem (by omega)
              have hv := a4.2 _ _ hj
              simp only [Option.isSome_some, not_true, if_false, n_in (show k' < 9 by omega) (by decide), n_cl (show k' < 2 ^ 31 by omega), hv, true_or, true_and]
              have e6 : (List.map (fun b => (bl S j w').getD b 0) (ly (oP S (bl S j w') w') (bl S j w').length 0 none)).getD k' 0 = (bl S j w').getD ((ly (oP S (bl S j w') w') (bl S j w').length 0 none)[k']'(by omega)) 0 := by
                rw [List.getD_eq_getElem?_getD, List.getElem?_map, hj]; rfl
              dsimp only at hq
              rw [e6] at hq
              exact hq
  refine nume _ ?_
  simp only [ent, entL, isL_int, isL_rf, isL_long, locS, List.length_cons, List.length_nil, List.cons_append, List.nil_append, List.replicate_succ, List.replicate_zero, Bool.false_eq_true, if_false, if_true, true_and, and_true, Nat.reduceAdd, Nat.reduceSub, Nat.reduceLeDiff, Nat.zero_le, Nat.le_refl, Nat.zero_add, Nat.add_zero, bI_0, bI_1, bI_n, Nat.reduceEqDiff, false_and, and_false, and_self, e_61_14]
  exact hq
end
