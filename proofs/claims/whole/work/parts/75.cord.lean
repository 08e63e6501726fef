/-! the class's order and waits -/
/-- the best order of a bill: its sum, and who stands where -/
def layS (S : St) (h w : Nat) : Option (Nat × List Nat) := if bl S h w = [] then none else match FF (oP S (bl S h w) w) (bl S h w).length 0 none with
  | none => none
  | some c => some (c, (ly (oP S (bl S h w) w) (bl S h w).length 0 none).map fun b => (bl S h w).getD b 0)
def opOrder (S : St) (h w k : Int32) : Int32 := match ix h (sN S 2), ix w 60 with
  | some h, some w => match layS S h w with
    | none => -1
    | some (_, l) => match ix k (bl S h w).length with
      | none => -1
      | some k => nI (l.getD k 0)
  | _, _ => -1
def opWaits (S : St) (h w : Int32) : Int32 := match ix h (sN S 2), ix w 60 with
  | some h, some w => match layS S h w with
    | none => -1
    | some (c, _) => nI c
  | _, _ => -1
section
variable {G : Mem} {x : Nat} {ta ha ca : Nat → Nat} {S : St} {B : List Nat}
variable {o5 o6 o7 o8 o9 o10 o11 : Option Value}
set_option maxRecDepth 8000 in
theorem l_w2 (hX : RX G x ta ha ca S) (hI : Inv S) (hBl : BillOK G x ta B) (hlt : ∀ t ∈ B, t < sN S 1) {d z w : Nat} {Q : Rt} (hw : w < 60) (h1 : mI G 0 5 (x + 6) = nI B.length) (hR : ∀ G', VX x G G' → DX G' x (oP S B w) → Q none G' z) : ∀ (k i : Nat) (G1 : Mem) (o5 o6 o7 o8 o9 o10 o11 : Option Value), i + k = B.length → VX x G G1 → (∀ j, j < i → mE G1 (x + 7) j = bI ((oP S B w).2.2.1 j = true) ∧ mE G1 (x + 8) j = bI ((oP S B w).2.2.2 j = true)) → (∀ p j, p < B.length → j < 9 → bt (mE G1 (x + 9) p) j = (decide (j < i) && mayS S B w j p)) →
    WP (d + 2) 3 Q 29 [some (va_rf (some (x + 6))), some (va_rf (some (x + 4))), some (.int (nI w)), some (.int (nI (sN S 0))), some (.int (nI i)), o5, o6, o7, o8, o9, o10, o11] [] G1 z 0 0 := by
  have h9 := hBl.2.1
  have h0 := hI.1
  intro k
  induction k with
  | zero =>
    intro i G1 o5 o6 o7 o8 o9 o10 o11 hi hF hk hm
    have hs1 := hX.1.vx hF
    have hi : i = B.length := by omega
    subst hi
    rw [e_3_29]
    simp only [ent, entL, isL_int, isL_rf, isL_long, locS, List.length_cons, List.length_nil, List.cons_append, List.nil_append, List.replicate_succ, List.replicate_zero, Bool.false_eq_true, if_false, if_true, true_and, and_true, Nat.reduceAdd, Nat.reduceSub, Nat.reduceLeDiff, Nat.zero_le, Nat.le_refl, Nat.zero_add, Nat.add_zero, bI_0, bI_1, bI_n, Nat.reduceEqDiff, false_and, and_false, and_self, e_3_31, e_3_32, e_3_35, e_3_250, hs1, hF.2.2.1, h1, n_le (show B.length < 2 ^ 31 by omega) (show B.length < 2 ^ 31 by omega)]
    refine hR G1 hF ⟨hs1, h9, by rw [hF.2.2.1]; exact h1, fun j hj => (hk j hj).1, fun j hj => (hk j hj).2, fun p j hp hj => ?_⟩
    rw [hm p j hp (by have : j < B.length := hj; omega)]
    have hj' : j < B.length := hj
    simp only [hj', decide_true, Bool.true_and]
    rfl
  | succ k ih =>
    intro i G1 o5 o6 o7 o8 o9 o10 o11 hi hF hk hm
    have hX1 := hX.sx hF.sx
    have hB1 := hBl.vx hF
    have hs1 := hX1.1
    obtain ⟨t, ht, htm, -⟩ := dr (l := B) (k := i) (by omega)
    have htd : B.getD i 0 = t := by rw [List.getD_eq_getElem?_getD, ht]; rfl
    have t3 := (hX1.2.2.1 t (hlt t htm)).2.2.1
    obtain ⟨-, -, -, -, -, t6, t7, -⟩ := hX.2.2.1 t (hlt t htm)
    rw [e_3_29]
    simp only [ent, entL, isL_int, isL_rf, isL_long, locS, List.length_cons, List.length_nil, List.cons_append, List.nil_append, List.replicate_succ, List.replicate_zero, Bool.false_eq_true, if_false, if_true, true_and, and_true, Nat.reduceAdd, Nat.reduceSub, Nat.reduceLeDiff, Nat.zero_le, Nat.le_refl, Nat.zero_add, Nat.add_zero, bI_0, bI_1, bI_n, Nat.reduceEqDiff, false_and, and_false, and_self, e_3_31, e_3_32, e_3_35, e_3_38, e_3_39, e_3_41, e_3_44, e_3_46, e_3_47, e_3_50, e_3_52, e_3_54, e_3_57, e_3_59, e_3_62, e_3_63, e_3_66, e_3_67, e_3_70, e_3_71, e_3_72, e_3_73, e_3_76, e_3_78, e_3_80, e_3_83, e_3_85, e_3_88, e_3_91, e_3_92, e_3_95, e_3_96, e_3_97, e_3_99, e_3_102, e_3_104, e_3_107, e_3_108, e_3_111, e_3_112, e_3_115, e_3_116, hs1, hF.2.2.1, h1, n_le (show B.length < 2 ^ 31 by omega) (show i < 2 ^ 31 by omega), show ¬ B.length ≤ i by omega, s_memT hX1 hB1 ht, reduceCtorEq, t3, t6, t7, memS, n_in (show i < 9 by omega) (by decide), n_cl (show i < 2 ^ 31 by omega), show (1 : Int32) &&& 1 = 1 by decide, show (0 : Int32) &&& 1 = 0 by decide, or_true]
    have go : ∀ (a b c : Int32) (o7 o8 o9 o10 o11 : Option Value), a = bI (decide (sI S 1 t = 3) = true) → b = bI (decide (¬ sI S 5 t = 0) = true) → c = bI (decide (sI S 1 t = 2) = true) → WP (d + 2) 3 Q 118 [some (va_rf (some (x + 6))), some (va_rf (some (x + 4))), some (.int (nI w)), some (.int (nI (sN S 0))), some (.int (nI i)), some (va_rf (some (ta t))), some (.int c), o7, o8, o9, o10, o11] [] (pE (pE G1 (x + 7) i a) (x + 8) i b) z 0 0 := by
      intro a b c o7 o8 o9 o10 o11 ea eb ec
      have hF2 : VX x G (pE (pE G1 (x + 7) i a) (x + 8) i b) := (hF.tr (VX.pE (by omega))).tr (VX.pE (by omega))
      have hk2 : ∀ j, j < i + 1 → mE (pE (pE G1 (x + 7) i a) (x + 8) i b) (x + 7) j = bI ((oP S B w).2.2.1 j = true) ∧ mE (pE (pE G1 (x + 7) i a) (x + 8) i b) (x + 8) j = bI ((oP S B w).2.2.2 j = true) := by
        intro j hj
        by_cases e : j = i
        · subst e
          simp only [memS, show ¬ x + 7 = x + 8 by omega, false_and, and_self, if_true, if_false, ea, eb, oP, htd]
        · have := hk j (by omega)
          simp only [memS, e, and_false, if_false]
          exact this
      have hm2 : ∀ p j, p < B.length → j < 9 → bt (mE (pE (pE G1 (x + 7) i a) (x + 8) i b) (x + 9) p) j = (decide (j < i) && mayS S B w j p) := by
        intro p j hp hj
        have : ¬ x + 9 = x + 7 := by omega
        simp only [memS, show ¬ x + 9 = x + 7 by omega, show ¬ x + 9 = x + 8 by omega, false_and, if_false]
        exact hm p j hp hj
      generalize pE (pE G1 (x + 7) i a) (x + 8) i b = G2 at *
      have hX2 := hX.sx hF2.sx
      have hs2 := hX2.1
      have s2 : mI G2 0 5 (x + 6) = nI B.length := by rw [hF2.2.2.1]; exact h1
      have k2 := (hX2.2.2.1 t (hlt t htm)).2.2.1
      subst ec
      have fin : ∀ r7, WP (d + 2) 3 Q 151 [some (va_rf (some (x + 6))), some (va_rf (some (x + 4))), some (.int (nI w)), some (.int (nI (sN S 0))), some (.int (nI i)), some (va_rf (some (ta t))), some (.int (bI (decide (sI S 1 t = 2) = true))), some (va_rf r7), o8, o9, o10, o11] [.int (wsh S w t)] G2 z 0 0 := by
        intro r7
        simp only [ent, entL, isL_int, isL_rf, isL_long, locS, List.length_cons, List.length_nil, List.cons_append, List.nil_append, List.replicate_succ, List.replicate_zero, Bool.false_eq_true, if_false, if_true, true_and, and_true, Nat.reduceAdd, Nat.reduceSub, Nat.reduceLeDiff, Nat.zero_le, Nat.le_refl, Nat.zero_add, Nat.add_zero, bI_0, bI_1, bI_n, Nat.reduceEqDiff, false_and, and_false, and_self, e_3_151, e_3_153, e_3_155, e_3_156, e_3_157, e_3_160, e_3_163, e_3_165, e_3_166, hs2, s2, s_isWithin]
        have eb : bI (1 ≤ wsh S w t ∧ wsh S w t ≤ nI B.length) = bI (decide (1 ≤ wsh S w t ∧ wsh S w t ≤ nI B.length) = true) := by
          unfold bI; simp only [decide_eq_true_eq]
        rw [eb]
        refine l_w3 (G := G2) hs2 (n := B.length) (A := fun p j => decide (j < i) && mayS S B w j p) (mb := fun p => mayS S B w i p) h9 s2 (by omega) (fun p hp => ?_) (fun G3 o10 o11 hF3 hE3 hm3 => ?_) B.length 0 G2 _ (by omega) VX.rf (fun _ _ _ => rfl) (fun p j hp hj => ?_)
        · unfold mayS
          rw [htd]
          simp only [decide_eq_true_eq]
        · simp only [ent, entL, isL_int, isL_rf, isL_long, locS, List.length_cons, List.length_nil, List.cons_append, List.nil_append, List.replicate_succ, List.replicate_zero, Bool.false_eq_true, if_false, if_true, true_and, and_true, Nat.reduceAdd, Nat.reduceSub, Nat.reduceLeDiff, Nat.zero_le, Nat.le_refl, Nat.zero_add, Nat.add_zero, bI_0, bI_1, bI_n, Nat.reduceEqDiff, false_and, and_false, and_self, e_3_244, e_3_247, n_1]
          refine ih (i + 1) G3 _ _ _ _ _ _ _ (by omega) (hF2.tr hF3) (fun j hj => ?_) (fun p j hp hj => ?_)
          · rw [hE3 _ _ (by omega), hE3 _ _ (by omega)]; exact hk2 j hj
          · rw [hm3 p j hp hj]
            by_cases e : j = i
            · subst e; simp
            · have e2 : decide (j < i + 1) = decide (j < i) := by simp only [decide_eq_decide]; omega
              simp [e, e2]
        · rw [hm2 p j hp hj]; simp
      simp only [ent, entL, isL_int, isL_rf, isL_long, locS, List.length_cons, List.length_nil, List.cons_append, List.nil_append, List.replicate_succ, List.replicate_zero, Bool.false_eq_true, if_false, if_true, true_and, and_true, Nat.reduceAdd, Nat.reduceSub, Nat.reduceLeDiff, Nat.zero_le, Nat.le_refl, Nat.zero_add, Nat.add_zero, bI_0, bI_1, bI_n, Nat.reduceEqDiff, false_and, and_false, and_self, e_3_118, e_3_120, e_3_123, e_3_124, e_3_127, e_3_129, e_3_130, e_3_131, reduceCtorEq, k2]
      refine s_contractIn hX2 hI (hlt t htm) hw (by omega) ?_
      have fin' := fin ((frc S t w (sN S 0)).map ca)
      unfold wsh at fin'
      cases hf : frc S t w (sN S 0) with
      | none =>
        rw [hf] at fin'
        simp only [ent, entL, isL_int, isL_rf, isL_long, locS, List.length_cons, List.length_nil, List.cons_append, List.nil_append, List.replicate_succ, List.replicate_zero, Bool.false_eq_true, if_false, if_true, true_and, and_true, Nat.reduceAdd, Nat.reduceSub, Nat.reduceLeDiff, Nat.zero_le, Nat.le_refl, Nat.zero_add, Nat.add_zero, bI_0, bI_1, bI_n, Nat.reduceEqDiff, false_and, and_false, and_self, e_3_134, e_3_136, e_3_138, e_3_141, e_3_142, Option.map_none]
        exact fin'
      | some c =>
        rw [hf] at fin'
        obtain ⟨-, c2, c3⟩ := stO_ch hX2 hf
        simp only [ent, entL, isL_int, isL_rf, isL_long, locS, List.length_cons, List.length_nil, List.cons_append, List.nil_append, List.replicate_succ, List.replicate_zero, Bool.false_eq_true, if_false, if_true, true_and, and_true, Nat.reduceAdd, Nat.reduceSub, Nat.reduceLeDiff, Nat.zero_le, Nat.le_refl, Nat.zero_add, Nat.add_zero, bI_0, bI_1, bI_n, Nat.reduceEqDiff, false_and, and_false, and_self, e_3_134, e_3_136, e_3_138, e_3_141, e_3_142, e_3_145, e_3_147, e_3_148, Option.map_some, reduceCtorEq, c2]
        refine s_lastN c2 c3 ?_
        exact fin'
    by_cases c1 : sI S 1 t = 3
    · have c3 : ¬ (3 : Int32) = 2 := by decide
      by_cases c2 : sI S 5 t = 0
      · simp only [c1, c2, c3, if_true, if_false]; exact go _ _ _ _ _ _ _ _ (by simp [c1, bI]) (by simp [c2, bI]) (by rw [c1]; simp [c3, bI])
      · simp only [c1, c2, c3, if_true, if_false]; exact go _ _ _ _ _ _ _ _ (by simp [c1, bI]) (by simp [c2, bI]) (by rw [c1]; simp [c3, bI])
    · by_cases c3 : sI S 1 t = 2
      · have c4 : ¬ (2 : Int32) = 3 := by decide
        by_cases c2 : sI S 5 t = 0
        · simp only [c2, c3, c4, if_true, if_false]; exact go _ _ _ _ _ _ _ _ (by simp [c1, bI]) (by simp [c2, bI]) (by simp [c3, bI])
        · simp only [c2, c3, c4, if_true, if_false]; exact go _ _ _ _ _ _ _ _ (by simp [c1, bI]) (by simp [c2, bI]) (by simp [c3, bI])
      · by_cases c2 : sI S 5 t = 0
        · simp only [c1, c2, c3, if_true, if_false]; exact go _ _ _ _ _ _ _ _ (by simp [c1, bI]) (by simp [c2, bI]) (by simp [c3, bI])
        · simp only [c1, c2, c3, if_true, if_false]; exact go _ _ _ _ _ _ _ _ (by simp [c1, bI]) (by simp [c2, bI]) (by simp [c3, bI])
set_option maxRecDepth 8000 in
theorem s_may (hX : RX G x ta ha ca S) (hI : Inv S) (hBl : BillOK G x ta B) (hlt : ∀ t ∈ B, t < sN S 1) {d z w : Nat} {Q : Rt} (hw : w < 60) (h1 : mI G 0 5 (x + 6) = nI B.length) (hR : ∀ G', VX x G G' → DX G' x (oP S B w) → Q none G' z) : CALL (d + 3) 3 [va_rf (some (x + 6)), va_rf (some (x + 4)), .int (nI w), .int (nI (sN S 0))] G z Q := by
  have h9 := hBl.2.1
  rw [CALL_eq]
  simp only [mxE_3, ent, entL, isL_int, isL_rf, isL_long, locS, List.length_cons, List.length_nil, List.cons_append, List.nil_append, List.replicate_succ, List.replicate_zero, Bool.false_eq_true, if_false, if_true, true_and, and_true, Nat.reduceAdd, Nat.reduceSub, Nat.reduceLeDiff, Nat.zero_le, Nat.le_refl, Nat.zero_add, Nat.add_zero, bI_0, bI_1, bI_n, Nat.reduceEqDiff, false_and, and_false, and_self, e_3_0, e_3_1]
  refine l_w1 hX.1 (n := B.length) h9 h1 (fun G1 hF hz => ?_) B.length 0 G (by omega) VX.rf (fun q hq => by omega)
  simp only [ent, entL, isL_int, isL_rf, isL_long, locS, List.length_cons, List.length_nil, List.cons_append, List.nil_append, List.replicate_succ, List.replicate_zero, Bool.false_eq_true, if_false, if_true, true_and, and_true, Nat.reduceAdd, Nat.reduceSub, Nat.reduceLeDiff, Nat.zero_le, Nat.le_refl, Nat.zero_add, Nat.add_zero, bI_0, bI_1, bI_n, Nat.reduceEqDiff, false_and, and_false, and_self, e_3_26, e_3_27]
  refine l_w2 hX hI hBl hlt hw h1 hR B.length 0 G1 _ _ _ _ _ _ _ (by omega) hF (fun j hj => by omega) (fun p j hp hj => ?_)
  rw [hz p hp, show (0 : Int32) = nI 0 from rfl, bt_n hj]
  simp
end
