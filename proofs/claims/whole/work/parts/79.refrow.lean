/-! THE REFERENCE's order: the row; order and waits -/
section
variable {G : Mem} {m : Nat} {S : St} {B : List Nat} {w : Nat}
theorem RLs.tm {G1 G' : Mem} {P : OP} {s0 : Nat} (h : RLs G1 m P s0) (q : ∀ i, mE G' (m + 23) i = mE G1 (m + 23) i) : RLs G' m P s0 := fun s last k1 k2 k3 k4 => by rw [q]; exact h s last k1 k2 k3 k4
set_option maxRecDepth 8000 in
theorem l_pick8 (hE : EM G m S B w) (hL : RLs G m (oP S B w) 0) {d z s f p : Nat} {lo : Option Nat} {h3 h4 h5 : Int32} {Q : Rt} (hs2 : s < 2 ^ B.length) (hlo : ∀ a, lo = some a → a < B.length) (hps : pc s = p) (hf : B.length = p + (f + 1))
    (hR : ∀ o9 o10, WP (d + 1) 119 Q 403 [some (va_rf (some m)), some (.int h3), some (.int h4), some (.int h5), some (.int (nI s)), some (.int (ixO lo)), some (.int (nI p)), some (.int (ixB (bst (gO (oP S B w) (FF (oP S B w) f) s lo p) B.length))), some (.int (nI (vM 100000 (bst (gO (oP S B w) (FF (oP S B w) f) s lo p) B.length)))), o9, o10] [] G z 0 0) : ∀ (n k : Nat) (o10 : Option Value), k + n = B.length →
    WP (d + 1) 119 Q 304 [some (va_rf (some m)), some (.int h3), some (.int h4), some (.int h5), some (.int (nI s)), some (.int (ixO lo)), some (.int (nI p)), some (.int (ixB (bst (gO (oP S B w) (FF (oP S B w) f) s lo p) k))), some (.int (nI (vM 100000 (bst (gO (oP S B w) (FF (oP S B w) f) s lo p) k)))), some (.int (nI k)), o10] [] G z 0 0 := by
  have hm := hE.1.1
  have h9 := hE.2.1
  have h1 := hE.2.2.2.1
  have h512 := p9 (show B.length < 10 by omega)
  have hb := gO_R (P := oP S B w) (f := f) (s := s) (place := p) (lo := lo) (by omega)
  intro n
  induction n with
  | zero =>
    intro k o10 hk
    have hk : k = B.length := by omega
    subst hk
    rw [e_119_304]
    simp only [ent, entL, isL_int, isL_rf, isL_long, locS, List.length_cons, List.length_nil, List.cons_append, List.nil_append, List.replicate_succ, List.replicate_zero, Bool.false_eq_true, if_false, if_true, true_and, and_true, Nat.reduceAdd, Nat.reduceSub, Nat.reduceLeDiff, Nat.zero_le, Nat.le_refl, Nat.zero_add, Nat.add_zero, bI_0, bI_1, bI_n, Nat.reduceEqDiff, false_and, and_false, and_self, e_119_306, e_119_307, e_119_310, hm, h1, n_le (show B.length < 2 ^ 31 by omega) (show B.length < 2 ^ 31 by omega)]
    exact hR _ _
  | succ n ih =>
    intro k o10 hk
    have hkn : k < B.length := by omega
    have ih := fun o10 => ih (k + 1) o10 (by omega)
    have hvM := vR_le (k := k) hb
    rw [e_119_304]
    by_cases c1 : s.testBit k = true
    · rw [bst_no (gO_n (fun q => by rw [c1] at q; exact absurd q.1 (by decide)))] at ih
      simp only [ent, entL, isL_int, isL_rf, isL_long, locS, List.length_cons, List.length_nil, List.cons_append, List.nil_append, List.replicate_succ, List.replicate_zero, Bool.false_eq_true, if_false, if_true, true_and, and_true, Nat.reduceAdd, Nat.reduceSub, Nat.reduceLeDiff, Nat.zero_le, Nat.le_refl, Nat.zero_add, Nat.add_zero, bI_0, bI_1, bI_n, Nat.reduceEqDiff, false_and, and_false, and_self, e_119_306, e_119_307, e_119_310, e_119_313, e_119_315, e_119_317, e_119_318, e_119_319, e_119_320, e_119_321, e_119_397, e_119_400, hm, h1, n_le (show B.length < 2 ^ 31 by omega) (show k < 2 ^ 31 by omega), show ¬ B.length ≤ k by omega, bs1 (show k < 9 by omega) c1, n_1]
      exact ih _
    · have c1 : s.testBit k = false := by simpa using c1
      simp only [ent, entL, isL_int, isL_rf, isL_long, locS, List.length_cons, List.length_nil, List.cons_append, List.nil_append, List.replicate_succ, List.replicate_zero, Bool.false_eq_true, if_false, if_true, true_and, and_true, Nat.reduceAdd, Nat.reduceSub, Nat.reduceLeDiff, Nat.zero_le, Nat.le_refl, Nat.zero_add, Nat.add_zero, bI_0, bI_1, bI_n, Nat.reduceEqDiff, false_and, and_false, and_self, e_119_306, e_119_307, e_119_310, e_119_313, e_119_315, e_119_317, e_119_318, e_119_319, e_119_320, e_119_321, e_119_324, e_119_325, e_119_327, e_119_329, e_119_331, e_119_334, e_119_337, e_119_397, e_119_400, hm, h1, n_le (show B.length < 2 ^ 31 by omega) (show k < 2 ^ 31 by omega), show ¬ B.length ≤ k by omega, bs0 (show k < 9 by omega) c1, show ¬ (0 : Int32) = 1 by decide, r_mayLie hE (lo := lo) hkn (show p < B.length by omega) hlo, n_1]
      by_cases c2 : (oP S B w).2.1 k p = true ∧ okO (oP S B w) lo k = true
      · have hpc := pc_or (show s < 512 by omega) (show k < 9 by omega) c1
        have hor := or_lt hs2 hkn
        have hv2 : mE G (m + 23) (9 * (s ||| 2 ^ k) + k) = nI ((FF (oP S B w) f (s ||| 2 ^ k) (some k)).getD 100000) := by
          have := hL (s ||| 2 ^ k) k (Nat.lt_of_le_of_lt (Nat.zero_le _) (or_gt c1)) hor hkn (by rw [or_bit]; simp)
          unfold rV at this
          rw [hpc, show (oP S B w).1 - (pc s + 1) = f by show B.length - (pc s + 1) = f; omega] at this
          exact this
        have hst := bst_step hb (gO_v (P := oP S B w) (F := FF (oP S B w) f) (set := s) (lo := lo) (place := p) (k := k) (M := 100000) c1 c2.1 c2.2)
        have hg := FFr (P := oP S B w) (f := f) (s := s ||| 2 ^ k) (lo := some k) (by omega)
        have hw2 := wt_le (P := oP S B w) (lo := lo) (k := k)
        rw [hst] at ih
        rw [if_neg (fun q => q c2)]
        have fin : ∀ o10, WP (d + 1) 119 Q 377 [some (va_rf (some m)), some (.int h3), some (.int h4), some (.int h5), some (.int (nI s)), some (.int (ixO lo)), some (.int (nI p)), some (.int (ixB (bst (gO (oP S B w) (FF (oP S B w) f) s lo p) k))), some (.int (nI (vM 100000 (bst (gO (oP S B w) (FF (oP S B w) f) s lo p) k)))), some (.int (nI k)), o10] [.int (nI (wtO (oP S B w) lo k + (FF (oP S B w) f (s ||| 2 ^ k) (some k)).getD 100000))] G z 0 0 := by
          intro o10
          simp only [ent, entL, isL_int, isL_rf, isL_long, locS, List.length_cons, List.length_nil, List.cons_append, List.nil_append, List.replicate_succ, List.replicate_zero, Bool.false_eq_true, if_false, if_true, true_and, and_true, Nat.reduceAdd, Nat.reduceSub, Nat.reduceLeDiff, Nat.zero_le, Nat.le_refl, Nat.zero_add, Nat.add_zero, bI_0, bI_1, bI_n, Nat.reduceEqDiff, false_and, and_false, and_self, e_119_377, e_119_379, e_119_381, e_119_383, e_119_386, e_119_389, e_119_391, e_119_393, e_119_395, e_119_397, e_119_400, n_lt (show wtO (oP S B w) lo k + (FF (oP S B w) f (s ||| 2 ^ k) (some k)).getD 100000 < 2 ^ 31 by omega) (show vM 100000 (bst (gO (oP S B w) (FF (oP S B w) f) s lo p) k) < 2 ^ 31 by omega), n_1]
          by_cases c3 : wtO (oP S B w) lo k + (FF (oP S B w) f (s ||| 2 ^ k) (some k)).getD 100000 < vM 100000 (bst (gO (oP S B w) (FF (oP S B w) f) s lo p) k)
          · rw [if_pos c3] at ih
            rw [if_pos c3]
            exact ih _
          · rw [if_neg c3] at ih
            rw [if_neg c3]
            exact ih _
        cases lo with
        | none =>
          have fin := fin o10
          rw [show wtO (oP S B w) none k = 0 from rfl, Nat.zero_add] at fin
          simp only [ixO] at fin ⊢
          simp only [ent, entL, isL_int, isL_rf, isL_long, locS, List.length_cons, List.length_nil, List.cons_append, List.nil_append, List.replicate_succ, List.replicate_zero, Bool.false_eq_true, if_false, if_true, true_and, and_true, Nat.reduceAdd, Nat.reduceSub, Nat.reduceLeDiff, Nat.zero_le, Nat.le_refl, Nat.zero_add, Nat.add_zero, bI_0, bI_1, bI_n, Nat.reduceEqDiff, false_and, and_false, and_self, e_119_340, e_119_342, e_119_343, e_119_346, e_119_347, e_119_350, e_119_351, e_119_353, e_119_355, e_119_358, e_119_359, e_119_362, e_119_364, e_119_366, e_119_367, e_119_369, e_119_370, e_119_371, e_119_372, e_119_374, e_119_375, e_119_376, hm, show (9 : Int32) = nI 9 from rfl, n_mul, n_add, one_sh (show k < 10 by omega), n_or, n_in (show 9 * (s ||| 2 ^ k) + k < 4608 by omega) (by decide), n_cl (show 9 * (s ||| 2 ^ k) + k < 2 ^ 31 by omega), hv2, true_or, show (0 : Int32) = nI 0 from rfl]
          exact fin
        | some a =>
          have fin := fin o10
          have ha := hlo a rfl
          simp only [ixO] at fin ⊢
          simp only [ent, entL, isL_int, isL_rf, isL_long, locS, List.length_cons, List.length_nil, List.cons_append, List.nil_append, List.replicate_succ, List.replicate_zero, Bool.false_eq_true, if_false, if_true, true_and, and_true, Nat.reduceAdd, Nat.reduceSub, Nat.reduceLeDiff, Nat.zero_le, Nat.le_refl, Nat.zero_add, Nat.add_zero, bI_0, bI_1, bI_n, Nat.reduceEqDiff, false_and, and_false, and_self, e_119_340, e_119_342, e_119_343, e_119_346, e_119_347, e_119_350, e_119_351, e_119_353, e_119_355, e_119_358, e_119_359, e_119_362, e_119_364, e_119_366, e_119_367, e_119_369, e_119_370, e_119_371, e_119_372, e_119_374, e_119_375, e_119_376, hm, n_m1 (show a < 2 ^ 31 by omega), r_wait hE ha hkn, show (9 : Int32) = nI 9 from rfl, n_mul, n_add, one_sh (show k < 10 by omega), n_or, n_in (show 9 * (s ||| 2 ^ k) + k < 4608 by omega) (by decide), n_cl (show 9 * (s ||| 2 ^ k) + k < 2 ^ 31 by omega), hv2, true_or]
          exact fin
      · rw [bst_no (gO_n (fun q => c2 q.2))] at ih
        rw [if_pos c2]
        exact ih _
set_option maxRecDepth 8000 in
theorem l_row8 {d z : Nat} {h3 h4 h5 : Int32} {Q : Rt}
    (hR : ∀ G', TM m G G' → EM G' m S B w → mI G' 8 35 m = mI G 8 35 m → (∀ j b, (ly (oP S B w) B.length 0 none)[j]? = some b → mE G' (m + 22) j = nI (B.getD b 0)) → Q (some (.int 1)) G' z) :
    ∀ (f s a c : Nat) (pre : List Nat) (G1 : Mem) (o7 o8 o9 o10 : Option Value), pc s + f = B.length → 0 < pc s → s < 2 ^ B.length → a < B.length → FF (oP S B w) f s (some a) = some c → pre ++ ly (oP S B w) f s (some a) = ly (oP S B w) B.length 0 none → pre.length = pc s → (∀ j b, pre[j]? = some b → mE G1 (m + 22) j = nI (B.getD b 0)) → EM G1 m S B w → RLs G1 m (oP S B w) 0 → TM m G G1 → mI G1 8 35 m = mI G 8 35 m →
    WP (d + 1) 119 Q 285 [some (va_rf (some m)), some (.int h3), some (.int h4), some (.int h5), some (.int (nI s)), some (.int (nI a)), some (.int (nI (pc s))), o7, o8, o9, o10] [] G1 z 0 0 := by
  intro f
  induction f with
  | zero =>
    intro s a c pre G1 o7 o8 o9 o10 hf hp0 hs2 ha hF hpre hpl hrow hE hL hT hbs
    have hm := hE.1.1
    have h9 := hE.2.1
    have h1 := hE.2.2.2.1
    rw [e_119_285]
    simp only [ent, entL, isL_int, isL_rf, isL_long, locS, List.length_cons, List.length_nil, List.cons_append, List.nil_append, List.replicate_succ, List.replicate_zero, Bool.false_eq_true, if_false, if_true, true_and, and_true, Nat.reduceAdd, Nat.reduceSub, Nat.reduceLeDiff, Nat.zero_le, Nat.le_refl, Nat.zero_add, Nat.add_zero, bI_0, bI_1, bI_n, Nat.reduceEqDiff, false_and, and_false, and_self, e_119_287, e_119_288, e_119_291, e_119_455, e_119_456, hm, h1, n_le (show B.length < 2 ^ 31 by omega) (show pc s < 2 ^ 31 by omega), show B.length ≤ pc s by omega, nz_1]
    refine hR G1 hT hE hbs ?_
    rw [ly, List.append_nil] at hpre
    rw [← hpre]
    exact hrow
  | succ f ih =>
    intro s a c pre G1 o7 o8 o9 o10 hf hp0 hs2 ha hF hpre hpl hrow hE hL hT hbs
    have hm := hE.1.1
    have h9 := hE.2.1
    have h1 := hE.2.2.2.1
    have h512 := p9 (show B.length < 10 by omega)
    rw [FF, show (oP S B w).1 - (f + 1) = pc s by show B.length - (f + 1) = pc s; omega] at hF
    rw [ly, show (oP S B w).1 - (f + 1) = pc s by show B.length - (f + 1) = pc s; omega] at hpre
    change (bst (gO (oP S B w) (FF (oP S B w) f) s (some a) (pc s)) B.length).map (·.2) = some c at hF
    change pre ++ (match bst (gO (oP S B w) (FF (oP S B w) f) s (some a) (pc s)) B.length with | none => [] | some (b, _) => b :: ly (oP S B w) f (s ||| 2 ^ b) (some b)) = _ at hpre
    rw [e_119_285]
    simp only [ent, entL, isL_int, isL_rf, isL_long, locS, List.length_cons, List.length_nil, List.cons_append, List.nil_append, List.replicate_succ, List.replicate_zero, Bool.false_eq_true, if_false, if_true, true_and, and_true, Nat.reduceAdd, Nat.reduceSub, Nat.reduceLeDiff, Nat.zero_le, Nat.le_refl, Nat.zero_add, Nat.add_zero, bI_0, bI_1, bI_n, Nat.reduceEqDiff, false_and, and_false, and_self, e_119_287, e_119_288, e_119_291, e_119_294, e_119_295, e_119_297, e_119_299, e_119_301, e_119_302, hm, h1, n_le (show B.length < 2 ^ 31 by omega) (show pc s < 2 ^ 31 by omega), show ¬ B.length ≤ pc s by omega]
    refine l_pick8 (d := d) hE hL (f := f) (p := pc s) (lo := some a) hs2 (fun q e => by cases e; exact ha) rfl (by omega) (fun o9 o10 => ?_) B.length 0 _ (by omega)
    cases hb : bst (gO (oP S B w) (FF (oP S B w) f) s (some a) (pc s)) B.length with
    | none => rw [hb] at hF; cases hF
    | some q =>
      obtain ⟨b, c0⟩ := q
      rw [hb] at hpre
      dsimp only at hpre
      obtain ⟨k1, k2, k3, k4⟩ := bst_s hb
      obtain ⟨m1, m2, m3, c', m4, m5⟩ := gO_s k2
      have hpc := pc_or (show s < 512 by omega) (show b < 9 by omega) m1
      have ew := (hE.2.2.2.2 b _ (mbt k1).1).1
      have e0 : (nI (pc s) = 0) = (pc s = 0) := n_eq (b := 0) (by omega) (by decide)
      have e1 : nI (pc s) + 1 = nI (pc (s ||| 2 ^ b)) := by rw [n_1, hpc]
      simp only [ent, entL, isL_int, isL_rf, isL_long, locS, List.length_cons, List.length_nil, List.cons_append, List.nil_append, List.replicate_succ, List.replicate_zero, Bool.false_eq_true, if_false, if_true, true_and, and_true, Nat.reduceAdd, Nat.reduceSub, Nat.reduceLeDiff, Nat.zero_le, Nat.le_refl, Nat.zero_add, Nat.add_zero, bI_0, bI_1, bI_n, Nat.reduceEqDiff, false_and, and_false, and_self, e_119_403, e_119_405, e_119_406, e_119_409, e_119_410, e_119_411, e_119_413, e_119_416, e_119_417, e_119_419, e_119_422, e_119_423, e_119_426, e_119_428, e_119_429, e_119_432, e_119_434, e_119_435, e_119_436, e_119_438, e_119_439, e_119_441, e_119_442, e_119_443, e_119_445, e_119_447, e_119_449, e_119_452, ixB, ixO, n_m1 (show b < 2 ^ 31 by omega), e0, show ¬ pc s = 0 by omega, hm, n_in (show pc s < 9 by omega) (by decide), n_cl (show pc s < 2 ^ 31 by omega), n_in (show b < 9 by omega) (by decide), n_cl (show b < 2 ^ 31 by omega), ew, one_sh (show b < 10 by omega), n_or, e1, true_or]
      refine ih (s ||| 2 ^ b) b c' (pre ++ [b]) _ _ _ _ _ (by omega) (by omega) (or_lt hs2 k1) k1 m4 (by rw [List.append_assoc]; exact hpre) (by rw [List.length_append, List.length_singleton, hpl, hpc]) (fun j b' hj => ?_) (hE.tm (TM.pE (Or.inl rfl))) (hL.tm (fun i => by simp [memS])) (hT.tr (TM.pE (Or.inl rfl))) hbs
      by_cases e : j = pc s
      · subst e
        rw [← hpl, List.getElem?_append_right (Nat.le_refl _), Nat.sub_self] at hj
        cases hj
        simp [memS]
      · have hlt2 : j < pre.length := by
          have : j < (pre ++ [b]).length := by rw [List.getElem?_eq_some_iff] at hj; exact hj.1
          rw [List.length_append, List.length_singleton] at this
          omega
        rw [List.getElem?_append_left hlt2] at hj
        simp only [memS, e, and_false, if_false]
        exact hrow j b' hj
set_option maxRecDepth 8000 in
theorem r_lays (hM : RM G m S) (hI : Inv S) {d z h : Nat} {Q : Rt} (hh : h < sN S 2) (hw : w < 60)
    (h1 : ∀ G' c l, layS S h w = some (c, l) → RM G' m S → OM m G G' → mI G' 8 35 m = nI c → mI G' 8 34 m = nI (bl S h w).length → (∀ j, j < (bl S h w).length → mE G' (m + 22) j = nI (l.getD j 0)) → Q (some (.int 1)) G' z)
    (h0 : ∀ G', layS S h w = none → RM G' m S → OM m G G' → Q (some (.int 0)) G' z) : CALL (d + 2) 119 [va_rf (some m), .int (nI h), .int (nI w)] G z Q := by
  have hm := hM.1
  have h40 := hI.2.1
  have h9 := hI.2.2.2.2.2.2.2.2.1 h w
  have h512 := p9 (show (bl S h w).length < 10 by omega)
  rw [CALL_eq]
  simp only [mxE_119, ent, entL, isL_int, isL_rf, isL_long, locS, List.length_cons, List.length_nil, List.cons_append, List.nil_append, List.replicate_succ, List.replicate_zero, Bool.false_eq_true, if_false, if_true, true_and, and_true, Nat.reduceAdd, Nat.reduceSub, Nat.reduceLeDiff, Nat.zero_le, Nat.le_refl, Nat.zero_add, Nat.add_zero, bI_0, bI_1, bI_n, Nat.reduceEqDiff, false_and, and_false, and_self, e_119_0, e_119_1, e_119_2, e_119_5, e_119_6, hm]
  have hF0 : OM m G (pI G 8 34 m 0) := OM.pI (Or.inl rfl)
  refine l_g8 (G := G) hI hh hw (fun G1 hE hF => ?_) (sN S 1) 0 _ (by omega) ⟨hM.om hF0, by simp [blP], fun t ht => by simp [blP] at ht, by simp [memS, blP]; rfl, fun k t hk => by simp [blP] at hk⟩ hF0
  have hm1 := hE.1.1
  have n1 := hE.2.2.2.1
  unfold layS at h1 h0
  generalize hBe : bl S h w = B at *
  have e0 : (nI B.length = 0) = (B.length = 0) := n_eq (b := 0) (by omega) (by decide)
  simp only [ent, entL, isL_int, isL_rf, isL_long, locS, List.length_cons, List.length_nil, List.cons_append, List.nil_append, List.replicate_succ, List.replicate_zero, Bool.false_eq_true, if_false, if_true, true_and, and_true, Nat.reduceAdd, Nat.reduceSub, Nat.reduceLeDiff, Nat.zero_le, Nat.le_refl, Nat.zero_add, Nat.add_zero, bI_0, bI_1, bI_n, Nat.reduceEqDiff, false_and, and_false, and_self, e_119_78, e_119_79, e_119_82, e_119_85, e_119_86, hm1, n1, e0, nz_0]
  by_cases cB : B = []
  · rw [if_pos cB] at h0
    rw [if_pos (by rw [cB]; rfl)]
    exact h0 G1 rfl hE.1 hF
  rw [if_neg cB] at h1 h0
  have hl0 : ¬ B.length = 0 := fun q => cB (List.eq_nil_of_length_eq_zero q)
  rw [if_neg hl0]
  have hp2 : 0 < 2 ^ B.length := Nat.pow_pos (by decide)
  simp only [ent, entL, isL_int, isL_rf, isL_long, locS, List.length_cons, List.length_nil, List.cons_append, List.nil_append, List.replicate_succ, List.replicate_zero, Bool.false_eq_true, if_false, if_true, true_and, and_true, Nat.reduceAdd, Nat.reduceSub, Nat.reduceLeDiff, Nat.zero_le, Nat.le_refl, Nat.zero_add, Nat.add_zero, bI_0, bI_1, bI_n, Nat.reduceEqDiff, false_and, and_false, and_self, e_119_87, e_119_88, e_119_89, e_119_92, e_119_93, e_119_94, e_119_95, e_119_96, e_119_97, hm1, n1, one_sh (show B.length < 10 by omega), n_pred hp2]
  refine l_set8 (G := G1) (S := S) (B := B) (w := w) (fun G2 o5 o6 hE2 hL2 hT2 => ?_) (2 ^ B.length - 1) G1 _ _ (by omega) hE (fun s' l k1 k2 => by have : s' < 2 ^ B.length := k2; omega) TM.rf
  have hm2 := hE2.1.1
  have n2 := hE2.2.2.2.1
  have hF2 := hF.tr hT2.om
  simp only [ent, entL, isL_int, isL_rf, isL_long, locS, List.length_cons, List.length_nil, List.cons_append, List.nil_append, List.replicate_succ, List.replicate_zero, Bool.false_eq_true, if_false, if_true, true_and, and_true, Nat.reduceAdd, Nat.reduceSub, Nat.reduceLeDiff, Nat.zero_le, Nat.le_refl, Nat.zero_add, Nat.add_zero, bI_0, bI_1, bI_n, Nat.reduceEqDiff, false_and, and_false, and_self, e_119_276, e_119_277, e_119_279, e_119_280, e_119_282, e_119_283]
  rw [e_119_285]
  have e00 : ¬ nI B.length ≤ 0 := by rw [show (0 : Int32) = nI 0 from rfl, n_le (by omega) (by decide)]; omega
  simp only [ent, entL, isL_int, isL_rf, isL_long, locS, List.length_cons, List.length_nil, List.cons_append, List.nil_append, List.replicate_succ, List.replicate_zero, Bool.false_eq_true, if_false, if_true, true_and, and_true, Nat.reduceAdd, Nat.reduceSub, Nat.reduceLeDiff, Nat.zero_le, Nat.le_refl, Nat.zero_add, Nat.add_zero, bI_0, bI_1, bI_n, Nat.reduceEqDiff, false_and, and_false, and_self, e_119_287, e_119_288, e_119_291, e_119_294, e_119_295, e_119_297, e_119_299, e_119_301, e_119_302, hm2, n2, e00]
  have eF : FF (oP S B w) B.length 0 none = (bst (gO (oP S B w) (FF (oP S B w) (B.length - 1)) 0 none 0) B.length).map (·.2) := by
    obtain ⟨n, hn'⟩ : ∃ n, B.length = n + 1 := ⟨B.length - 1, by omega⟩
    rw [show FF (oP S B w) B.length 0 none = FF (oP S B w) (n + 1) 0 none by rw [← hn'], FF, show (oP S B w).1 = n + 1 from hn', hn', Nat.sub_self, Nat.add_sub_cancel]
  have eL : ly (oP S B w) B.length 0 none = match bst (gO (oP S B w) (FF (oP S B w) (B.length - 1)) 0 none 0) B.length with
    | none => []
    | some (b, _) => b :: ly (oP S B w) (B.length - 1) (2 ^ b) (some b) := by
    obtain ⟨n, hn'⟩ : ∃ n, B.length = n + 1 := ⟨B.length - 1, by omega⟩
    rw [show ly (oP S B w) B.length 0 none = ly (oP S B w) (n + 1) 0 none by rw [← hn'], ly, show (oP S B w).1 = n + 1 from hn', hn', Nat.sub_self, Nat.add_sub_cancel]
    simp only [Nat.zero_or] <;> cases bst (gO (oP S B w) (FF (oP S B w) n) 0 none 0) (n + 1) <;> rfl
  refine l_pick8 (d := d) hE2 hL2 (s := 0) (f := B.length - 1) (p := 0) (lo := none) hp2 (fun a e => by cases e) rfl (by omega) (fun o9 o10 => ?_) B.length 0 _ (by omega)
  cases hb : bst (gO (oP S B w) (FF (oP S B w) (B.length - 1)) 0 none 0) B.length with
  | none =>
    rw [eF, hb] at h0
    simp only [ent, entL, isL_int, isL_rf, isL_long, locS, List.length_cons, List.length_nil, List.cons_append, List.nil_append, List.replicate_succ, List.replicate_zero, Bool.false_eq_true, if_false, if_true, true_and, and_true, Nat.reduceAdd, Nat.reduceSub, Nat.reduceLeDiff, Nat.zero_le, Nat.le_refl, Nat.zero_add, Nat.add_zero, bI_0, bI_1, bI_n, Nat.reduceEqDiff, false_and, and_false, and_self, e_119_403, e_119_405, e_119_406, e_119_409, e_119_410, ixB, nz_0]
    exact h0 G2 rfl hE2.1 hF2
  | some q =>
    obtain ⟨b, c⟩ := q
    obtain ⟨k1, k2, k3, k4⟩ := bst_s hb
    obtain ⟨q1, q2, q3, c', m4, m5⟩ := gO_s k2
    rw [Nat.zero_or] at m4
    have ew := (hE2.2.2.2.2 b _ (mbt k1).1).1
    have hp3 : 2 ^ b < 2 ^ B.length := Nat.pow_lt_pow_right (by decide) k1
    rw [eF, hb] at h1
    have hT3 : TM m G2 (pI G2 8 35 m (nI c)) := TM.pI
    have hE3 := hE2.tm hT3
    have hL3 : RLs (pI G2 8 35 m (nI c)) m (oP S B w) 0 := hL2.tm (fun i => by simp [memS])
    have b3 : mI (pI G2 8 35 m (nI c)) 8 35 m = nI c := by simp [memS]
    have hm3 := hE3.1.1
    have ew3 : mE (pI G2 8 35 m (nI c)) (m + 20) b = nI (B.getD b 0) := ew
    have cm : vM 100000 (some (b, c)) = c := rfl
    have z0 : nI 0 ||| nI (2 ^ b) = nI (2 ^ b) := by rw [n_or, Nat.zero_or]
    have e1 : nI 0 + 1 = nI (pc (2 ^ b)) := by rw [n_1, pc_1 (by omega)]
    simp only [ent, entL, isL_int, isL_rf, isL_long, locS, List.length_cons, List.length_nil, List.cons_append, List.nil_append, List.replicate_succ, List.replicate_zero, Bool.false_eq_true, if_false, if_true, true_and, and_true, Nat.reduceAdd, Nat.reduceSub, Nat.reduceLeDiff, Nat.zero_le, Nat.le_refl, Nat.zero_add, Nat.add_zero, bI_0, bI_1, bI_n, Nat.reduceEqDiff, false_and, and_false, and_self, e_119_403, e_119_405, e_119_406, e_119_409, e_119_410, e_119_411, e_119_413, e_119_416, e_119_417, e_119_419, ixB, n_m1 (show b < 2 ^ 31 by omega), show (nI 0 = 0) = True from eq_true rfl, hm2, cm]
    generalize pI G2 8 35 m (nI c) = G3 at *
    simp only [ent, entL, isL_int, isL_rf, isL_long, locS, List.length_cons, List.length_nil, List.cons_append, List.nil_append, List.replicate_succ, List.replicate_zero, Bool.false_eq_true, if_false, if_true, true_and, and_true, Nat.reduceAdd, Nat.reduceSub, Nat.reduceLeDiff, Nat.zero_le, Nat.le_refl, Nat.zero_add, Nat.add_zero, bI_0, bI_1, bI_n, Nat.reduceEqDiff, false_and, and_false, and_self, e_119_422, e_119_423, e_119_426, e_119_428, e_119_429, e_119_432, e_119_434, e_119_435, e_119_436, e_119_438, e_119_439, e_119_441, e_119_442, e_119_443, e_119_445, e_119_447, e_119_449, e_119_452, hm3, n_in (show 0 < 9 by decide) (by decide), n_cl (show 0 < 2 ^ 31 by decide), n_in (show b < 9 by omega) (by decide), n_cl (show b < 2 ^ 31 by omega), ew3, one_sh (show b < 10 by omega), z0, e1, true_or]
    have hT4 : TM m G3 (pE G3 (m + 22) 0 (nI (B.getD b 0))) := TM.pE (Or.inl rfl)
    refine l_row8 (G := G3) (d := d) (S := S) (B := B) (w := w) (fun G5 hT5 hE5 hbs5 hrow5 => ?_) (B.length - 1) (2 ^ b) b c' [b] _ _ _ _ _ (by rw [pc_1 (by omega)]; omega) (by rw [pc_1 (by omega)]; decide) hp3 k1 m4 (by rw [eL, hb]; rfl) (by rw [pc_1 (by omega)]; rfl) (fun j b' hj => ?_) (hE3.tm hT4) (hL3.tm (fun i => by simp [memS])) hT4 rfl
    · refine h1 G5 _ _ rfl hE5.1 ((hF2.tr hT3.om).tr hT5.om) (by rw [hbs5]; exact b3) hE5.2.2.2.1 (fun j hj => ?_)
      have hFs : FF (oP S B w) B.length 0 none = some c := by rw [eF, hb]; rfl
      have hlen := ly_len hFs
      have hj2 : (ly (oP S B w) B.length 0 none)[j]? = some ((ly (oP S B w) B.length 0 none)[j]'(by omega)) := List.getElem?_eq_getElem (by omega)
      rw [hrow5 _ _ hj2, List.getD_eq_getElem?_getD (l := List.map _ _), List.getElem?_map, hj2]
      rfl
    · cases j with
      | zero => cases hj; simp [memS]
      | succ j => cases hj
set_option maxRecDepth 8000 in
theorem d_waits (hM : RM G m S) (hI : Inv S) {d z : Nat} {h w : Int32} {Q : Rt} (hq : ∀ G', RM G' m S → FM m G G' → Q (some (.int (opWaits S h w))) G' z) : CALL (d + 3) 122 [va_rf (some m), .int h, .int w] G z Q := by
  have hm := hM.1
  unfold opWaits at hq
  rw [CALL_eq]
  simp only [mxE_122, ent, entL, isL_int, isL_rf, isL_long, locS, List.length_cons, List.length_nil, List.cons_append, List.nil_append, List.replicate_succ, List.replicate_zero, Bool.false_eq_true, if_false, if_true, true_and, and_true, Nat.reduceAdd, Nat.reduceSub, Nat.reduceLeDiff, Nat.zero_le, Nat.le_refl, Nat.zero_add, Nat.add_zero, bI_0, bI_1, bI_n, Nat.reduceEqDiff, false_and, and_false, and_self, e_122_0, e_122_1, e_122_2, e_122_5, e_122_8, e_122_9, e_122_12, e_122_15, e_122_16, e_122_17, e_122_18, e_122_31, e_122_32, r_isHall hM hI, r_isWeek, hm]
  cases hh : ix h (sN S 2) with
  | none => rw [hh] at hq; simp only [Option.isSome_none, Bool.false_eq_true, not_false_iff, if_true]; exact hq G hM FM.rf
  | some j =>
    obtain ⟨hj, rfl⟩ := ix_s (by have := hI.2.2.1; omega) hh
    rw [hh] at hq
    simp only [Option.isSome_some, not_true, if_false]
    cases hw : ix w 60 with
    | none => rw [hw] at hq; simp only [Option.isSome_none, Bool.false_eq_true, not_false_iff, if_true]; exact hq G hM FM.rf
    | some w' =>
      obtain ⟨hw1, rfl⟩ := ix_s (by decide) hw
      rw [hw] at hq
      dsimp only at hq
      simp only [Option.isSome_some, not_true, if_false]
      refine r_lays hM hI hj hw1 (fun G1 c l hl hM1 hF1 hb _ _ => ?_) (fun G1 hl hM1 hF1 => ?_)
      · rw [hl] at hq
        have hm1 := hM1.1
        simp only [ent, entL, isL_int, isL_rf, isL_long, locS, List.length_cons, List.length_nil, List.cons_append, List.nil_append, List.replicate_succ, List.replicate_zero, Bool.false_eq_true, if_false, if_true, true_and, and_true, Nat.reduceAdd, Nat.reduceSub, Nat.reduceLeDiff, Nat.zero_le, Nat.le_refl, Nat.zero_add, Nat.add_zero, bI_0, bI_1, bI_n, Nat.reduceEqDiff, false_and, and_false, and_self, e_122_21, e_122_24, e_122_25, e_122_28, e_122_31, e_122_32, show ¬ (1 : Int32) = 0 by decide, hm1, hb]
        exact hq G1 hM1 hF1.fm
      · rw [hl] at hq
        simp only [ent, entL, isL_int, isL_rf, isL_long, locS, List.length_cons, List.length_nil, List.cons_append, List.nil_append, List.replicate_succ, List.replicate_zero, Bool.false_eq_true, if_false, if_true, true_and, and_true, Nat.reduceAdd, Nat.reduceSub, Nat.reduceLeDiff, Nat.zero_le, Nat.le_refl, Nat.zero_add, Nat.add_zero, bI_0, bI_1, bI_n, Nat.reduceEqDiff, false_and, and_false, and_self, e_122_21, e_122_24, e_122_25, e_122_28, e_122_31, e_122_32]
        exact hq G1 hM1 hF1.fm
set_option maxRecDepth 8000 in
theorem d_order (hM : RM G m S) (hI : Inv S) {d z : Nat} {h w k : Int32} {Q : Rt} (hq : ∀ G', RM G' m S → FM m G G' → Q (some (.int (opOrder S h w k))) G' z) : CALL (d + 3) 121 [va_rf (some m), .int h, .int w, .int k] G z Q := by
  have hm := hM.1
  unfold opOrder at hq
  rw [CALL_eq]
  simp only [mxE_121, ent, entL, isL_int, isL_rf, isL_long, locS, List.length_cons, List.length_nil, List.cons_append, List.nil_append, List.replicate_succ, List.replicate_zero, Bool.false_eq_true, if_false, if_true, true_and, and_true, Nat.reduceAdd, Nat.reduceSub, Nat.reduceLeDiff, Nat.zero_le, Nat.le_refl, Nat.zero_add, Nat.add_zero, bI_0, bI_1, bI_n, Nat.reduceEqDiff, false_and, and_false, and_self, e_121_0, e_121_1, e_121_2, e_121_5, e_121_8, e_121_9, e_121_12, e_121_15, e_121_16, e_121_17, e_121_18, e_121_21, e_121_24, e_121_25, r_isHall hM hI, r_isWeek, hm]
  cases hh : ix h (sN S 2) with
  | none => rw [hh] at hq; simp only [Option.isSome_none, Bool.false_eq_true, not_false_iff, if_true]; exact hq G hM FM.rf
  | some j =>
    obtain ⟨hj, rfl⟩ := ix_s (by have := hI.2.2.1; omega) hh
    rw [hh] at hq
    simp only [Option.isSome_some, not_true, if_false]
    cases hw : ix w 60 with
    | none => rw [hw] at hq; simp only [Option.isSome_none, Bool.false_eq_true, not_false_iff, if_true]; exact hq G hM FM.rf
    | some w' =>
      obtain ⟨hw1, rfl⟩ := ix_s (by decide) hw
      rw [hw] at hq
      dsimp only at hq
      have h9 := hI.2.2.2.2.2.2.2.2.1 j w'
      simp only [Option.isSome_some, not_true, if_false]
      refine r_lays hM hI hj hw1 (fun G1 c l hl hM1 hF1 hb hn hrow => ?_) (fun G1 hl hM1 hF1 => ?_)
      · rw [hl] at hq
        dsimp only at hq
        have hm1 := hM1.1
        have hB0 : ¬ bl S j w' = [] := fun q => by unfold layS at hl; rw [if_pos q] at hl; cases hl
        have hl0 : 0 < (bl S j w').length := Nat.pos_of_ne_zero fun q => hB0 (List.eq_nil_of_length_eq_zero q)
        have e5 : (0 ≤ k ∧ k ≤ nI (bl S j w').length - 1) = ((ix k (bl S j w').length).isSome = true) := by
          rw [← ix_c (by omega), n_pred hl0]
          refine propext ⟨fun q => ⟨q.1, ?_⟩, fun q => ⟨q.1, ?_⟩⟩
          · have := q.2; rw [i_le, nI_toInt (by omega)] at this; rw [i_lt, nI_toInt (by omega)]; omega
          · have := q.2; rw [i_lt, nI_toInt (by omega)] at this; rw [i_le, nI_toInt (by omega)]; omega
        simp only [ent, entL, isL_int, isL_rf, isL_long, locS, List.length_cons, List.length_nil, List.cons_append, List.nil_append, List.replicate_succ, List.replicate_zero, Bool.false_eq_true, if_false, if_true, true_and, and_true, Nat.reduceAdd, Nat.reduceSub, Nat.reduceLeDiff, Nat.zero_le, Nat.le_refl, Nat.zero_add, Nat.add_zero, bI_0, bI_1, bI_n, Nat.reduceEqDiff, false_and, and_false, and_self, e_121_21, e_121_24, e_121_25, e_121_26, e_121_27, e_121_28, e_121_29, e_121_32, e_121_33, e_121_34, e_121_37, e_121_40, e_121_41, e_121_44, e_121_45, e_121_46, e_121_49, e_121_50, show ¬ (1 : Int32) = 0 by decide, hm1, hn, r_isIn, e5]
        cases hk : ix k (bl S j w').length with
        | none => rw [hk] at hq; simp only [Option.isSome_none, Bool.false_eq_true, not_false_iff, if_true]; exact hq G1 hM1 hF1.fm
        | some k' =>
          obtain ⟨hk1, rfl⟩ := ix_s (by omega) hk
          rw [hk] at hq
          simp only [Option.isSome_some, not_true, if_false, n_in (show k' < 9 by omega) (by decide), n_cl (show k' < 2 ^ 31 by omega), hrow k' hk1, true_or, true_and]
          exact hq G1 hM1 hF1.fm
      · rw [hl] at hq
        simp only [ent, entL, isL_int, isL_rf, isL_long, locS, List.length_cons, List.length_nil, List.cons_append, List.nil_append, List.replicate_succ, List.replicate_zero, Bool.false_eq_true, if_false, if_true, true_and, and_true, Nat.reduceAdd, Nat.reduceSub, Nat.reduceLeDiff, Nat.zero_le, Nat.le_refl, Nat.zero_add, Nat.add_zero, bI_0, bI_1, bI_n, Nat.reduceEqDiff, false_and, and_false, and_self, e_121_21, e_121_24, e_121_25]
        exact hq G1 hM1 hF1.fm
end
