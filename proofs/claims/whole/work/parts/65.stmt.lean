/-! the class's reader: a statement, the text -/
theorem RF.ex {r : Nat} {G G' : Mem} (h : RF r G G') : EX r G G' := fun a ha => ⟨h.1 a, h.2.1 a, fun c k => h.2.2.1 c k a (by omega), fun c k => h.2.2.2.1 c k a, fun i => h.2.2.2.2.1 a i, fun i => h.2.2.2.2.2 a i⟩
theorem sLen_by : ∀ i, i < 10 → sLen.getD i 0 = (sBy.getD i []).length := by
  intro i hi
  have h : ((List.range 10).all fun i => decide (sLen.getD i 0 = (sBy.getD i []).length)) = true := by decide +kernel
  rw [List.all_eq_true] at h
  have := h i (List.mem_range.mpr hi)
  rwa [decide_eq_true_eq] at this
theorem SO.of {G : Mem} {z : Nat} (h : StrOK G z) : SO G := fun i hi => by
  obtain ⟨a, v, h1, h2, h3, h4, h5, h6, h7, h8, h9⟩ := h i hi
  exact ⟨a, h1, v, h4, h5, h6, h7, by rw [h8, sLen_by i hi], h9⟩
theorem StrOK.ex {G G' : Mem} {z : Nat} (h : StrOK G z) (q : EX z G G') : StrOK G' z := fun i hi => by
  obtain ⟨a, v, h1, h2, h3, h4, h5, h6, h7, h8, h9⟩ := h i hi
  have q0 := q 0 (by omega)
  have qa := q a h2
  have qv := q v h3
  exact ⟨a, v, by rw [q0.2.2.2.1]; exact h1, h2, h3, by rw [qa.2.2.1]; exact h4, by rw [qa.2.2.1]; exact h5, by rw [qa.2.2.2.1]; exact h6, by rw [qv.1]; exact h7, by rw [qv.2.1]; exact h8, fun k => by rw [qv.2.2.2.2.1]; exact h9 k⟩
/-- the reader at z0 stands behind some statements -/
def RJ (G0 : Mem) (z0 b : Nat) (T : Nat → Int32) (L : Nat) (G : Mem) (z : Nat) (l : List Stm3) (e s : Nat) : Prop := z0 < z ∧ Bd G z ∧ EX z0 G0 G ∧ RD G z0 b T L e s ∧ SCh G (mR G 3 4 z0) l.reverse
section
variable {G0 G : Mem} {z0 b : Nat} {T : Nat → Int32} {L e s z : Nat} {l : List Stm3}
theorem RJ.rf {G' : Mem} {e' s' : Nat} (h : RJ G0 z0 b T L G z l e s) (q : RF z0 G G') (hR : RD G' z0 b T L e' s') : RJ G0 z0 b T L G' z l e' s' := by
  obtain ⟨h1, h2, h3, h4, h5⟩ := h
  refine ⟨h1, fun a => by rw [q.1]; exact h2 a, h3.tr (Nat.le_refl _) q.ex, hR, ?_⟩
  rw [q.2.2.2.1]
  exact SCh.congr _ _ (fun a ha => ⟨by rw [q.1]; exact ha, fun k => q.2.2.1 _ _ _ (fun e => absurd e.1 (by decide)), fun k => q.2.2.2.1 _ _ _⟩) h5
def sG (G : Mem) (z : Nat) (k v w : Int32) (r : Option Nat) : Mem := pR (pI (pI (pI (nO G z 5) 5 0 z k) 5 1 z v) 5 2 z w) 5 3 z r
set_option maxRecDepth 8000 in
theorem s_initS {d : Nat} {k v w : Int32} {r : Option Nat} {Q : Rt} (h : Q none (sG G z k v w r) (z + 1)) : CALL (d + 1) 42 [va_rf (some z), .int k, .int v, .int w, va_rf r] (nO G z 5) (z + 1) Q := by
  rw [CALL_eq]
  simp only [mxE_42, ent, entL, isL_int, isL_rf, isL_long, locS, List.length_cons, List.length_nil, List.cons_append, List.nil_append, List.replicate_succ, List.replicate_zero, Bool.false_eq_true, if_false, if_true, true_and, and_true, Nat.reduceAdd, Nat.reduceSub, Nat.reduceLeDiff, Nat.zero_le, Nat.le_refl, Nat.zero_add, Nat.add_zero, bI_0, bI_1, bI_n, Nat.reduceEqDiff, false_and, and_false, and_self, e_42_0, e_42_1, e_42_4, e_42_5, e_42_6, e_42_9, e_42_10, e_42_11, e_42_14, e_42_15, e_42_16, e_42_19, e_42_20, e_42_22, e_42_25, memS, if_true]
  exact h
theorem RJ.add {k v w : Int32} (h : RJ G0 z0 b T L G z l e s) (hb : b < z0) : RJ G0 z0 b T L (pR (sG G z k v w (mR G 3 4 z0)) 3 4 z0 (some z)) (z + 1) (l ++ [(k, v, w)]) e s := by
  obtain ⟨h1, h2, h3, h4, h5⟩ := h
  have n1 : ¬ z0 = z := by omega
  have n2 : ¬ b = z := by omega
  have hz : mK G z = 99 := Classical.byContradiction fun q => absurd (h2 z q) (Nat.lt_irrefl _)
  refine ⟨by omega, fun a => ?_, h3.tr (Nat.le_refl _) fun a ha => ?_, ?_, ?_⟩
  · simp only [sG, memS]
    split
    · intro; omega
    · intro q; have := h2 a q; omega
  · simp [sG, memS, show ¬ a = z by omega, show ¬ a = z0 by omega]
  · obtain ⟨q1, q2, q3, q4, q5, q6, q7, q8, q9, q10, q11⟩ := h4
    simp [RD, sG, memS, n1, n2, q1, q2, q3, q4, q5, q6, q7, q8, q9, q10, q11]
  · rw [List.reverse_append]
    refine ⟨z, by simp [memS], by simp [sG, memS], by simp [sG, memS], by simp [sG, memS], by simp [sG, memS], ?_⟩
    have e1 : mR (pR (sG G z k v w (mR G 3 4 z0)) 3 4 z0 (some z)) 5 3 z = mR G 3 4 z0 := by simp [sG, memS]
    rw [e1]
    refine SCh.congr (G := G) _ _ (fun a ha => ?_) h5
    have na : ¬ a = z := fun q => by rw [q, hz] at ha; exact absurd ha (by decide)
    refine ⟨by simp [sG, memS, na, ha], fun k => by simp [sG, memS, na], fun k => by simp [sG, memS, na]⟩
theorem opn_k {k : Int32} {e : Nat} (h : opn T L s = .inr (k, e)) : ¬ k = -1 := by
  unfold opn at h
  repeat' split at h
  all_goals first | (cases h; decide) | cases h
set_option maxRecDepth 8000 in
theorem s_smi {d : Nat} {k v w : Int32} {Q : Rt} (hJ : RJ G0 z0 b T L G z l e s) (hb : b < z0) (hS : StrOK G0 z0) (hw : ¬ w = -1)
    (h1 : ∀ st e' s' G' z', smi T L (k, v, w) e = .inr (st, e') → RJ G0 z0 b T L G' z' (l ++ [st]) e' s' → Q (some (.int 1)) G' z') (h2 : ∀ f e' G', smi T L (k, v, w) e = .inl f → RJ G0 z0 b T L G' z l e' f → Q (some (.int 0)) G' z) :
    WP (d + 7) 30 Q 50 [some (va_rf (some z0)), some (.int k), some (.int v), some (.int w)] [] G z 0 0 := by
  have hR := hJ.2.2.2.1
  have q1 := hR.1
  obtain ⟨a9, e9, A9⟩ := SO.of (hS.ex hJ.2.2.1) 9 (by decide)
  have w9 : okW wSemi := okW_i 9 (by decide)
  change SA G wSemi a9 at A9
  simp only [ent, entL, isL_int, isL_rf, isL_long, locS, List.length_cons, List.length_nil, List.cons_append, List.nil_append, List.replicate_succ, List.replicate_zero, Bool.false_eq_true, if_false, if_true, true_and, and_true, Nat.reduceAdd, Nat.reduceSub, Nat.reduceLeDiff, Nat.zero_le, Nat.le_refl, Nat.zero_add, Nat.add_zero, bI_0, bI_1, bI_n, Nat.reduceEqDiff, false_and, and_false, and_self, e_30_50, e_30_51, e_30_52, e_30_55, e_30_56, e_30_58, q1, e9, hw]
  refine s_stepTo hR A9 w9 fun G1 hR1 hF1 => ?_
  have hJ1 := hJ.rf hF1 hR1
  change RJ G0 z0 b T L G1 z l (tokE T L (nt T L e)) (nt T L e) at hJ1
  have p1 := hR1.1
  have nz : ¬ z0 = z := by have := hJ.1; omega
  simp only [ent, entL, isL_int, isL_rf, isL_long, locS, List.length_cons, List.length_nil, List.cons_append, List.nil_append, List.replicate_succ, List.replicate_zero, Bool.false_eq_true, if_false, if_true, true_and, and_true, Nat.reduceAdd, Nat.reduceSub, Nat.reduceLeDiff, Nat.zero_le, Nat.le_refl, Nat.zero_add, Nat.add_zero, bI_0, bI_1, bI_n, Nat.reduceEqDiff, false_and, and_false, and_self, e_30_61, e_30_64, e_30_65, e_30_66, e_30_67, e_30_70, e_30_71, e_30_72, e_30_73, e_30_74, e_30_75, e_30_78, p1, nz_0, hld_semi, memS, nz]
  unfold smi at h1 h2
  by_cases c : nt T L e < L ∧ T (nt T L e) = 59
  · rw [if_pos c] at h1
    rw [semi_tok c] at hJ1
    simp only [c, and_self, not_true, if_false]
    refine s_initS ?_
    simp only [ent, entL, isL_int, isL_rf, isL_long, locS, List.length_cons, List.length_nil, List.cons_append, List.nil_append, List.replicate_succ, List.replicate_zero, Bool.false_eq_true, if_false, if_true, true_and, and_true, Nat.reduceAdd, Nat.reduceSub, Nat.reduceLeDiff, Nat.zero_le, Nat.le_refl, Nat.zero_add, Nat.add_zero, bI_0, bI_1, bI_n, Nat.reduceEqDiff, false_and, and_false, and_self, e_30_81, e_30_84, e_30_85, nz_1, sG, memS, nz, p1]
    exact h1 _ _ _ _ _ rfl (hJ1.add hb)
  · rw [if_neg c] at h2
    simp only [c, not_false_iff, if_true]
    exact h2 _ _ _ rfl hJ1
set_option maxRecDepth 8000 in
theorem s_statement {d : Nat} {Q : Rt} (hJ : RJ G0 z0 b T L G z l (tokE T L s) s) (hb : b < z0) (hS : StrOK G0 z0)
    (h1 : ∀ st e' s' G' z', stm T L s = .inr (st, e') → RJ G0 z0 b T L G' z' (l ++ [st]) e' s' → Q (some (.int 1)) G' z') (h2 : ∀ f e' G', stm T L s = .inl f → RJ G0 z0 b T L G' z l e' f → Q (some (.int 0)) G' z) :
    CALL (d + 8) 30 [va_rf (some z0)] G z Q := by
  have hR := hJ.2.2.2.1
  have q1 := hR.1
  rw [CALL_eq]
  simp only [mxE_30, ent, entL, isL_int, isL_rf, isL_long, locS, List.length_cons, List.length_nil, List.cons_append, List.nil_append, List.replicate_succ, List.replicate_zero, Bool.false_eq_true, if_false, if_true, true_and, and_true, Nat.reduceAdd, Nat.reduceSub, Nat.reduceLeDiff, Nat.zero_le, Nat.le_refl, Nat.zero_add, Nat.add_zero, bI_0, bI_1, bI_n, Nat.reduceEqDiff, false_and, and_false, and_self, e_30_0, e_30_1, q1]
  unfold stm at h1 h2
  refine s_opening (SO.of (hS.ex hJ.2.2.1)) hR (fun k e' s' G1 ho hR1 hF1 => ?_) (fun f e' G1 ho hR1 hF1 => ?_)
  · rw [ho] at h1 h2
    dsimp only at h1 h2
    have hk := opn_k ho
    have hJ1 := hJ.rf hF1 hR1
    have p1 := hR1.1
    simp only [ent, entL, isL_int, isL_rf, isL_long, locS, List.length_cons, List.length_nil, List.cons_append, List.nil_append, List.replicate_succ, List.replicate_zero, Bool.false_eq_true, if_false, if_true, true_and, and_true, Nat.reduceAdd, Nat.reduceSub, Nat.reduceLeDiff, Nat.zero_le, Nat.le_refl, Nat.zero_add, Nat.add_zero, bI_0, bI_1, bI_n, Nat.reduceEqDiff, false_and, and_false, and_self, e_30_4, e_30_5, e_30_6, e_30_7, e_30_10, e_30_11, e_30_14, e_30_15, hk, p1]
    refine s_number hR1 fun G2 hR2 hF2 => ?_
    have hJ2 := hJ1.rf hF2 hR2
    have r1 := hR2.1
    unfold tll at h1 h2
    cases hn : nmb T L (nt T L e') with
    | none =>
      rw [hn] at h2
      simp only [ent, entL, isL_int, isL_rf, isL_long, locS, List.length_cons, List.length_nil, List.cons_append, List.nil_append, List.replicate_succ, List.replicate_zero, Bool.false_eq_true, if_false, if_true, true_and, and_true, Nat.reduceAdd, Nat.reduceSub, Nat.reduceLeDiff, Nat.zero_le, Nat.le_refl, Nat.zero_add, Nat.add_zero, bI_0, bI_1, bI_n, Nat.reduceEqDiff, false_and, and_false, and_self, e_30_18, e_30_19, e_30_20, e_30_21, e_30_24, e_30_25, nmI, nz_0]
      exact h2 _ _ _ rfl hJ2
    | some q =>
      obtain ⟨v, e1⟩ := q
      rw [hn] at h1 h2
      dsimp only at h1 h2
      have hv := nmb_v hn
      rw [nmb_tok hn] at hJ2 hR2
      simp only [ent, entL, isL_int, isL_rf, isL_long, locS, List.length_cons, List.length_nil, List.cons_append, List.nil_append, List.replicate_succ, List.replicate_zero, Bool.false_eq_true, if_false, if_true, true_and, and_true, Nat.reduceAdd, Nat.reduceSub, Nat.reduceLeDiff, Nat.zero_le, Nat.le_refl, Nat.zero_add, Nat.add_zero, bI_0, bI_1, bI_n, Nat.reduceEqDiff, false_and, and_false, and_self, e_30_18, e_30_19, e_30_20, e_30_21, e_30_24, e_30_25, e_30_26, e_30_27, e_30_28, e_30_29, nmI, hv]
      by_cases c0 : k = 0
      · rw [if_pos c0] at h1 h2
        obtain ⟨a8, e8, A8⟩ := SO.of (hS.ex hJ2.2.2.1) 8 (by decide)
        have w8 : okW wWeeks := okW_i 8 (by decide)
        change SA G2 wWeeks a8 at A8
        simp only [ent, entL, isL_int, isL_rf, isL_long, locS, List.length_cons, List.length_nil, List.cons_append, List.nil_append, List.replicate_succ, List.replicate_zero, Bool.false_eq_true, if_false, if_true, true_and, and_true, Nat.reduceAdd, Nat.reduceSub, Nat.reduceLeDiff, Nat.zero_le, Nat.le_refl, Nat.zero_add, Nat.add_zero, bI_0, bI_1, bI_n, Nat.reduceEqDiff, false_and, and_false, and_self, e_30_32, e_30_33, e_30_35, c0, r1, e8]
        refine s_stepTo hR2 A8 w8 fun G3 hR3 hF3 => ?_
        have hJ3 := hJ2.rf hF3 hR3
        have t1 := hR3.1
        change RD G3 z0 b T L (tokE T L (nt T L e1)) (nt T L e1) at hR3
        change RJ G0 z0 b T L G3 z l (tokE T L (nt T L e1)) (nt T L e1) at hJ3
        simp only [ent, entL, isL_int, isL_rf, isL_long, locS, List.length_cons, List.length_nil, List.cons_append, List.nil_append, List.replicate_succ, List.replicate_zero, Bool.false_eq_true, if_false, if_true, true_and, and_true, Nat.reduceAdd, Nat.reduceSub, Nat.reduceLeDiff, Nat.zero_le, Nat.le_refl, Nat.zero_add, Nat.add_zero, bI_0, bI_1, bI_n, Nat.reduceEqDiff, false_and, and_false, and_self, e_30_38, e_30_41, e_30_42, e_30_45, e_30_48, e_30_49, t1, hld_wd isW_Weeks]
        by_cases c1 : wd T L (nt T L e1) wWeeks = true
        · rw [if_pos c1] at h1 h2
          rw [wd_tok isW_Weeks c1] at hR3 hJ3
          simp only [c1, not_true, if_false]
          refine s_number hR3 fun G4 hR4 hF4 => ?_
          have hJ4 := hJ3.rf hF4 hR4
          change RD G4 z0 b T L (tokE T L (nt T L (nt T L e1 + 5))) (nt T L (nt T L e1 + 5)) at hR4
          change RJ G0 z0 b T L G4 z l (tokE T L (nt T L (nt T L e1 + 5))) (nt T L (nt T L e1 + 5)) at hJ4
          cases hn2 : nmb T L (nt T L (nt T L e1 + 5)) with
          | none =>
            rw [hn2] at h2
            have hn2' : nmb T L (nt T L (nt T L e1 + wWeeks.length)) = none := hn2
            simp only [ent, entL, isL_int, isL_rf, isL_long, locS, List.length_cons, List.length_nil, List.cons_append, List.nil_append, List.replicate_succ, List.replicate_zero, Bool.false_eq_true, if_false, if_true, true_and, and_true, Nat.reduceAdd, Nat.reduceSub, Nat.reduceLeDiff, Nat.zero_le, Nat.le_refl, Nat.zero_add, Nat.add_zero, bI_0, bI_1, bI_n, Nat.reduceEqDiff, false_and, and_false, and_self, e_30_45, e_30_48, e_30_49, e_30_50, e_30_51, e_30_52, e_30_64, e_30_65, hn2', nmI, nz_0]
            exact h2 _ _ _ rfl hJ4
          | some q2 =>
            obtain ⟨v2, e2⟩ := q2
            rw [hn2] at h1 h2
            dsimp only at h1 h2
            have hv2 := nmb_v hn2
            rw [nmb_tok hn2] at hJ4 hR4
            have hn2' : nmb T L (nt T L (nt T L e1 + wWeeks.length)) = some (v2, e2) := hn2
            simp only [ent, entL, isL_int, isL_rf, isL_long, locS, List.length_cons, List.length_nil, List.cons_append, List.nil_append, List.replicate_succ, List.replicate_zero, Bool.false_eq_true, if_false, if_true, true_and, and_true, Nat.reduceAdd, Nat.reduceSub, Nat.reduceLeDiff, Nat.zero_le, Nat.le_refl, Nat.zero_add, Nat.add_zero, bI_0, bI_1, bI_n, Nat.reduceEqDiff, false_and, and_false, and_self, e_30_45, e_30_48, e_30_49, hn2', nmI]
            rw [c0] at h1 h2
            exact s_smi hJ4 hb hS hv2 h1 h2
        · rw [if_neg c1] at h2
          simp only [ent, entL, isL_int, isL_rf, isL_long, locS, List.length_cons, List.length_nil, List.cons_append, List.nil_append, List.replicate_succ, List.replicate_zero, Bool.false_eq_true, if_false, if_true, true_and, and_true, Nat.reduceAdd, Nat.reduceSub, Nat.reduceLeDiff, Nat.zero_le, Nat.le_refl, Nat.zero_add, Nat.add_zero, bI_0, bI_1, bI_n, Nat.reduceEqDiff, false_and, and_false, and_self, c1, not_false_iff, if_true, e_30_48, e_30_49, e_30_50, e_30_51, e_30_52, e_30_64, e_30_65, nz_0]
          exact h2 _ _ _ rfl hJ3
      · rw [if_neg c0] at h1 h2
        simp only [c0, if_false]
        exact s_smi hJ2 hb hS (by decide) h1 h2
  · rw [ho] at h2
    simp only [ent, entL, isL_int, isL_rf, isL_long, locS, List.length_cons, List.length_nil, List.cons_append, List.nil_append, List.replicate_succ, List.replicate_zero, Bool.false_eq_true, if_false, if_true, true_and, and_true, Nat.reduceAdd, Nat.reduceSub, Nat.reduceLeDiff, Nat.zero_le, Nat.le_refl, Nat.zero_add, Nat.add_zero, bI_0, bI_1, bI_n, Nat.reduceEqDiff, false_and, and_false, and_self, e_30_4, e_30_5, e_30_6, e_30_7, e_30_10, e_30_11, e_30_14, e_30_15, e_30_18, e_30_19, e_30_20, e_30_21, e_30_24, e_30_25, nz_0]
    exact h2 _ _ _ rfl (hJ.rf hF1 hR1)
set_option maxRecDepth 8000 in
theorem l_text {d : Nat} {Q : Rt} (hb : b < z0) (hS : StrOK G0 z0) : ∀ (n told : Nat) (l : List Stm3) (e s : Nat) (G : Mem) (z : Nat), told + n = 12 → RJ G0 z0 b T L G z l e s →
    (∀ l' e' s' G' z', txt T L n l e = .inr l' → RJ G0 z0 b T L G' z' l' e' s' → Q (some (.int 1)) G' z') → (∀ f l' e' G' z', txt T L n l e = .inl f → RJ G0 z0 b T L G' z' l' e' f → Q (some (.int 0)) G' z') →
    WP (d + 8) 29 Q 2 [some (va_rf (some z0)), some (.int (nI told))] [] G z told (4 * told) := by
  intro n
  induction n with
  | zero =>
    intro told l e s G z hn hJ h1 h2
    have hR := hJ.2.2.2.1
    have q1 := hR.1
    have ht : told = 12 := by omega
    subst ht
    rw [e_29_2]
    simp only [ent, entL, isL_int, isL_rf, isL_long, locS, List.length_cons, List.length_nil, List.cons_append, List.nil_append, List.replicate_succ, List.replicate_zero, Bool.false_eq_true, if_false, if_true, true_and, and_true, Nat.reduceAdd, Nat.reduceSub, Nat.reduceLeDiff, Nat.zero_le, Nat.le_refl, Nat.zero_add, Nat.add_zero, bI_0, bI_1, bI_n, Nat.reduceEqDiff, false_and, and_false, and_self, e_29_3, e_29_5, e_29_8, e_29_9, q1, show ¬ (12 : Int32) < nI 12 by decide]
    refine s_step hR fun G1 hR1 hF1 => ?_
    have hJ1 := hJ.rf hF1 hR1
    change RD G1 z0 b T L (tokE T L (nt T L e)) (nt T L e) at hR1
    change RJ G0 z0 b T L G1 z l (tokE T L (nt T L e)) (nt T L e) at hJ1
    have p1 := hR1.1
    have p6 := hR1.2.2.2.2.2.1
    have p8 := hR1.2.2.2.2.2.2.2.1
    have p9 := hR1.2.2.2.2.2.2.2.2.1
    have p11 := hR1.2.2.2.2.2.2.2.2.2.2
    simp only [ent, entL, isL_int, isL_rf, isL_long, locS, List.length_cons, List.length_nil, List.cons_append, List.nil_append, List.replicate_succ, List.replicate_zero, Bool.false_eq_true, if_false, if_true, true_and, and_true, Nat.reduceAdd, Nat.reduceSub, Nat.reduceLeDiff, Nat.zero_le, Nat.le_refl, Nat.zero_add, Nat.add_zero, bI_0, bI_1, bI_n, Nat.reduceEqDiff, false_and, and_false, and_self, e_29_12, e_29_13, e_29_16, e_29_17, e_29_20, e_29_23, e_29_24, e_29_25, e_29_26, e_29_28, e_29_31, e_29_32, e_29_35, e_29_38, e_29_39, p1, p9, p11, n_lt (show nt T L e < 2 ^ 31 by omega) (show L < 2 ^ 31 by omega), nz_0, nz_1, show nI 12 = 12 from rfl]
    unfold txt at h1 h2
    by_cases c : L ≤ nt T L e
    · rw [if_pos c] at h1
      simp only [show ¬ nt T L e < L by omega, if_false]
      exact h1 _ _ _ _ _ rfl hJ1
    · rw [if_neg c] at h2
      simp only [show nt T L e < L by omega, if_true]
      exact h2 _ _ _ _ _ rfl hJ1
  | succ n ih =>
    intro told l e s G z hn hJ h1 h2
    have hR := hJ.2.2.2.1
    have q1 := hR.1
    rw [e_29_2]
    simp only [ent, entL, isL_int, isL_rf, isL_long, locS, List.length_cons, List.length_nil, List.cons_append, List.nil_append, List.replicate_succ, List.replicate_zero, Bool.false_eq_true, if_false, if_true, true_and, and_true, Nat.reduceAdd, Nat.reduceSub, Nat.reduceLeDiff, Nat.zero_le, Nat.le_refl, Nat.zero_add, Nat.add_zero, bI_0, bI_1, bI_n, Nat.reduceEqDiff, false_and, and_false, and_self, e_29_3, e_29_5, e_29_8, e_29_9, q1, show (12 : Int32) = nI 12 from rfl, n_lt (show 12 < 2 ^ 31 by decide) (show told < 2 ^ 31 by omega), show ¬ 12 < told by omega]
    refine ⟨by omega, by omega, ?_⟩
    refine s_step hR fun G1 hR1 hF1 => ?_
    have hJ1 := hJ.rf hF1 hR1
    change RD G1 z0 b T L (tokE T L (nt T L e)) (nt T L e) at hR1
    change RJ G0 z0 b T L G1 z l (tokE T L (nt T L e)) (nt T L e) at hJ1
    have p1 := hR1.1
    have p6 := hR1.2.2.2.2.2.1
    have p8 := hR1.2.2.2.2.2.2.2.1
    have p9 := hR1.2.2.2.2.2.2.2.2.1
    have p11 := hR1.2.2.2.2.2.2.2.2.2.2
    simp only [ent, entL, isL_int, isL_rf, isL_long, locS, List.length_cons, List.length_nil, List.cons_append, List.nil_append, List.replicate_succ, List.replicate_zero, Bool.false_eq_true, if_false, if_true, true_and, and_true, Nat.reduceAdd, Nat.reduceSub, Nat.reduceLeDiff, Nat.zero_le, Nat.le_refl, Nat.zero_add, Nat.add_zero, bI_0, bI_1, bI_n, Nat.reduceEqDiff, false_and, and_false, and_self, e_29_12, e_29_13, e_29_16, e_29_17, e_29_20, e_29_23, e_29_24, e_29_25, e_29_26, e_29_28, e_29_31, e_29_32, p1, p9, p11, n_lt (show nt T L e < 2 ^ 31 by omega) (show L < 2 ^ 31 by omega), nz_0, nz_1, show (12 : Int32) = nI 12 from rfl, n_eq (show told < 2 ^ 31 by omega) (show 12 < 2 ^ 31 by decide), show ¬ told = 12 by omega]
    unfold txt at h1 h2
    by_cases c : L ≤ nt T L e
    · rw [if_pos c] at h1
      simp only [show ¬ nt T L e < L by omega, if_false]
      exact ⟨by omega, by omega, h1 _ _ _ _ _ rfl hJ1⟩
    · rw [if_neg c] at h1 h2
      simp only [show nt T L e < L by omega, if_true]
      refine ⟨by omega, by omega, ?_⟩
      refine s_statement hJ1 hb hS (fun st e' s' G2 z2 hs hJ2 => ?_) (fun f e' G2 hs hJ2 => ?_)
      · rw [hs] at h1 h2
        simp only [ent, entL, isL_int, isL_rf, isL_long, locS, List.length_cons, List.length_nil, List.cons_append, List.nil_append, List.replicate_succ, List.replicate_zero, Bool.false_eq_true, if_false, if_true, true_and, and_true, Nat.reduceAdd, Nat.reduceSub, Nat.reduceLeDiff, Nat.zero_le, Nat.le_refl, Nat.zero_add, Nat.add_zero, bI_0, bI_1, bI_n, Nat.reduceEqDiff, false_and, and_false, and_self, e_29_35, e_29_38, e_29_39, e_29_40, e_29_43, n_1, show ¬ (1 : Int32) = 0 by decide]
        rw [show 4 * told + 4 = 4 * (told + 1) by omega]
        exact ih (told + 1) _ _ _ _ _ (by omega) hJ2 h1 h2
      · rw [hs] at h2
        simp only [ent, entL, isL_int, isL_rf, isL_long, locS, List.length_cons, List.length_nil, List.cons_append, List.nil_append, List.replicate_succ, List.replicate_zero, Bool.false_eq_true, if_false, if_true, true_and, and_true, Nat.reduceAdd, Nat.reduceSub, Nat.reduceLeDiff, Nat.zero_le, Nat.le_refl, Nat.zero_add, Nat.add_zero, bI_0, bI_1, bI_n, Nat.reduceEqDiff, false_and, and_false, and_self, e_29_35, e_29_38, e_29_39, e_29_40, e_29_43, nz_0]
        exact ⟨by omega, by omega, h2 _ _ _ _ _ rfl hJ2⟩
set_option maxRecDepth 8000 in
theorem s_text {d : Nat} {Q : Rt} (hb : b < z0) (hS : StrOK G0 z0) (hJ : RJ G0 z0 b T L G z [] 0 0) (h1 : ∀ l' e' s' G' z', txt T L 12 [] 0 = .inr l' → RJ G0 z0 b T L G' z' l' e' s' → Q (some (.int 1)) G' z') (h2 : ∀ f l' e' G' z', txt T L 12 [] 0 = .inl f → RJ G0 z0 b T L G' z' l' e' f → Q (some (.int 0)) G' z') :
    CALL (d + 9) 29 [va_rf (some z0)] G z Q := by
  rw [CALL_eq]
  simp only [mxE_29, ent, entL, isL_int, isL_rf, isL_long, locS, List.length_cons, List.length_nil, List.cons_append, List.nil_append, List.replicate_succ, List.replicate_zero, Bool.false_eq_true, if_false, if_true, true_and, and_true, Nat.reduceAdd, Nat.reduceSub, Nat.reduceLeDiff, Nat.zero_le, Nat.le_refl, Nat.zero_add, Nat.add_zero, bI_0, bI_1, bI_n, Nat.reduceEqDiff, false_and, and_false, and_self, e_29_0, e_29_1]
  exact l_text hb hS 12 0 [] 0 0 G z rfl hJ h1 h2
end
