/-! THE REFERENCE: cancel, book, fail, fill -/
section
variable {G : Mem} {m : Nat} {S : St}
def bkO (S : St) (t w : Int32) : Option (Nat × Nat × Nat) := match ix t (sN S 1), opO S w with
  | some t, some w => match sP S t w with
    | none => none
    | some h => some (t, w, h)
  | _, _ => none
theorem bkO_s (hI : Inv S) {t w : Int32} {a b c : Nat} (h : bkO S t w = some (a, b, c)) : a < sN S 1 ∧ b < 60 ∧ sN S 0 ≤ b ∧ c < sN S 2 ∧ t = nI a ∧ w = nI b ∧ sP S a b = some c ∧ ix t (sN S 1) = some a ∧ opO S w = some b := by
  unfold bkO at h
  cases h1 : ix t (sN S 1) with
  | none => rw [h1] at h; cases h
  | some t' =>
    cases h2 : opO S w with
    | none => rw [h1, h2] at h; cases h
    | some w' =>
      rw [h1, h2] at h
      dsimp only at h
      cases h3 : sP S t' w' with
      | none => rw [h3] at h; cases h
      | some c' =>
        rw [h3] at h
        cases h
        obtain ⟨q1, q2⟩ := ix_s (by have := hI.2.1; omega) h1
        obtain ⟨q3, q4, q5⟩ := opO_s h2
        exact ⟨q1, q3, q4, (hI.2.2.2.2.2.2.1 _ _ _ h3).2, q2, q5, h3, rfl, rfl⟩
set_option maxRecDepth 8000 in
theorem r_isBooked (hM : RM G m S) (hI : Inv S) {d z : Nat} {t w : Int32} {Q : Rt} (h : Q (some (.int (bI ((bkO S t w).isSome = true)))) G z) : CALL (d + 3) 113 [va_rf (some m), .int t, .int w] G z Q := by
  have hm := hM.1
  have hn := hM.2.1
  have h40 := hI.2.1
  have h10 := hI.2.2.1
  rw [CALL_eq]
  simp only [mxE_113, ent, entL, isL_int, isL_rf, isL_long, locS, List.length_cons, List.length_nil, List.cons_append, List.nil_append, List.replicate_succ, List.replicate_zero, Bool.false_eq_true, if_false, if_true, true_and, and_true, Nat.reduceAdd, Nat.reduceSub, Nat.reduceLeDiff, Nat.zero_le, Nat.le_refl, Nat.zero_add, Nat.add_zero, bI_0, bI_1, bI_n, Nat.reduceEqDiff, false_and, and_false, and_self, e_113_0, e_113_1, e_113_2, e_113_5, e_113_8, e_113_9, e_113_10, e_113_13, e_113_15, e_113_18, e_113_21, e_113_22, e_113_23, e_113_24, e_113_27, e_113_28, e_113_31, e_113_32, e_113_35, e_113_36, r_isTurn hM hI, hm, hn, r_isIn, e59, o_ix hI]
  unfold bkO at h
  cases h1 : ix t (sN S 1) with
  | none => simp only [h1, Option.isSome_none, Bool.false_eq_true, bI, if_false] at h; simp only [Option.isSome_none, Bool.false_eq_true, not_false_iff, if_true, nz_0, true_and]; exact h
  | some t' =>
    obtain ⟨ht, rfl⟩ := ix_s (by omega) h1
    cases h2 : opO S w with
    | none => simp only [h1, h2, Option.isSome_none, Bool.false_eq_true, bI, if_false] at h; simp only [Option.isSome_none, Option.isSome_some, not_true, if_false, Bool.false_eq_true, not_false_iff, if_true, nz_0, true_and]; exact h
    | some w' =>
      obtain ⟨hw, hw0, rfl⟩ := opO_s h2
      simp only [h1, h2] at h
      simp only [Option.isSome_some, not_true, if_false, r_hallOf hM (show t' < 40 by omega) hw, ent, entL, isL_int, isL_rf, isL_long, locS, List.length_cons, List.length_nil, List.cons_append, List.nil_append, List.replicate_succ, List.replicate_zero, Bool.false_eq_true, if_false, if_true, true_and, and_true, Nat.reduceAdd, Nat.reduceSub, Nat.reduceLeDiff, Nat.zero_le, Nat.le_refl, Nat.zero_add, Nat.add_zero, bI_0, bI_1, bI_n, Nat.reduceEqDiff, false_and, and_false, and_self, e_113_0, e_113_1, e_113_2, e_113_5, e_113_8, e_113_9, e_113_10, e_113_13, e_113_15, e_113_18, e_113_21, e_113_22, e_113_23, e_113_24, e_113_27, e_113_28, e_113_31, e_113_32, e_113_35, e_113_36, pInt_m1 (fun c hc => by have := (hI.2.2.2.2.2.2.1 t' w' c hc).2; omega)]
      cases hp : sP S t' w' with
      | none => simp only [hp, Option.isSome_none, Bool.false_eq_true, bI, if_false] at h; simp only [if_true, nz_0, true_and]; exact h
      | some p => simp only [hp, Option.isSome_some, bI, if_true] at h; simp only [reduceCtorEq, if_false, nz_1, true_and]; exact h
theorem opCancel_b (S : St) (t w : Int32) : opCancel S t w = match bkO S t w with
    | none => (S, 0)
    | some (a, b, _) => (tk S a b, 1) := by
  unfold opCancel bkO
  cases h1 : ix t (sN S 1) with
  | none => rfl
  | some t' =>
    cases h2 : opO S w with
    | none => rfl
    | some w' =>
      dsimp only
      cases h3 : sP S t' w' <;> rfl
theorem opFail_b (S : St) (t w : Int32) : opFail S t w = match bkO S t w with
    | none => (S, -2)
    | some (t, w, h) => match bestF (uI (tk S t w) 4 t (sI S 4 t + 1)) h w (some t) (sN S 1) with
      | none => (uI (tk S t w) 4 t (sI S 4 t + 1), -1)
      | some b => (bk (uI (tk S t w) 4 t (sI S 4 t + 1)) b w h, nI b) := by
  unfold opFail bkO
  cases h1 : ix t (sN S 1) with
  | none => rfl
  | some t' =>
    cases h2 : opO S w with
    | none => rfl
    | some w' =>
      dsimp only
      cases h3 : sP S t' w' <;> rfl
set_option maxRecDepth 8000 in
theorem d_cancel (hM : RM G m S) (hI : Inv S) {d z : Nat} {t w : Int32} {Q : Rt} (h : ∀ G', RM G' m (opCancel S t w).1 → FM m G G' → Q (some (.int (opCancel S t w).2)) G' z) : CALL (d + 4) 114 [va_rf (some m), .int t, .int w] G z Q := by
  have hm := hM.1
  have hn := hM.2.1
  have h40 := hI.2.1
  rw [opCancel_b] at h
  rw [CALL_eq]
  simp only [mxE_114, ent, entL, isL_int, isL_rf, isL_long, locS, List.length_cons, List.length_nil, List.cons_append, List.nil_append, List.replicate_succ, List.replicate_zero, Bool.false_eq_true, if_false, if_true, true_and, and_true, Nat.reduceAdd, Nat.reduceSub, Nat.reduceLeDiff, Nat.zero_le, Nat.le_refl, Nat.zero_add, Nat.add_zero, bI_0, bI_1, bI_n, Nat.reduceEqDiff, false_and, and_false, and_self, e_114_0, e_114_1, e_114_2, e_114_3, e_114_6, e_114_9, e_114_10, e_114_11, e_114_12, e_114_15, e_114_17, e_114_18, e_114_19, e_114_20, e_114_21, e_114_22, e_114_23, e_114_24, e_114_25, e_114_28, e_114_29, e_114_30, e_114_33, e_114_34, hm]
  refine r_isBooked hM hI ?_
  cases hb : bkO S t w with
  | none => rw [hb] at h; simp only [ent, entL, isL_int, isL_rf, isL_long, locS, List.length_cons, List.length_nil, List.cons_append, List.nil_append, List.replicate_succ, List.replicate_zero, Bool.false_eq_true, if_false, if_true, true_and, and_true, Nat.reduceAdd, Nat.reduceSub, Nat.reduceLeDiff, Nat.zero_le, Nat.le_refl, Nat.zero_add, Nat.add_zero, bI_0, bI_1, bI_n, Nat.reduceEqDiff, false_and, and_false, and_self, e_114_0, e_114_1, e_114_2, e_114_3, e_114_6, e_114_9, e_114_10, e_114_11, e_114_12, e_114_15, e_114_17, e_114_18, e_114_19, e_114_20, e_114_21, e_114_22, e_114_23, e_114_24, e_114_25, e_114_28, e_114_29, e_114_30, e_114_33, e_114_34, Option.isSome_none, Bool.false_eq_true, not_false_iff, if_true, nz_0]; exact h G hM FM.rf
  | some abc =>
    obtain ⟨a, b, c⟩ := abc
    rw [hb] at h
    obtain ⟨q1, q2, q3, q4, rfl, rfl, q7, -, -⟩ := bkO_s hI hb
    have hp := pl_lt (show a < 40 by omega) q2
    have h4 := n4_pos hI q2 q7
    simp only [ent, entL, isL_int, isL_rf, isL_long, locS, List.length_cons, List.length_nil, List.cons_append, List.nil_append, List.replicate_succ, List.replicate_zero, Bool.false_eq_true, if_false, if_true, true_and, and_true, Nat.reduceAdd, Nat.reduceSub, Nat.reduceLeDiff, Nat.zero_le, Nat.le_refl, Nat.zero_add, Nat.add_zero, bI_0, bI_1, bI_n, Nat.reduceEqDiff, false_and, and_false, and_self, e_114_0, e_114_1, e_114_2, e_114_3, e_114_6, e_114_9, e_114_10, e_114_11, e_114_12, e_114_15, e_114_17, e_114_18, e_114_19, e_114_20, e_114_21, e_114_22, e_114_23, e_114_24, e_114_25, e_114_28, e_114_29, e_114_30, e_114_33, e_114_34, Option.isSome_some, not_true, if_false, hm, hn, memS, show (60 : Int32) = nI 60 from rfl, n_mul, n_add, n_in hp (by decide), n_cl (show 60 * a + b < 2 ^ 31 by omega), n_pred h4, nz_1, true_or]
    exact h _ (hM.pb (v := none) (by omega) q2) ((FM.pE (by omega)).tr FM.pI)
theorem opWhy_n (hI : Inv S) {t h w : Nat} (ht : t < sN S 1) (hh : h < sN S 2) (hw : w < 60) (h0 : sN S 0 ≤ w) : opWhy S (nI t) (nI h) (nI w) = whyS S t h w := by
  unfold opWhy
  have : opO S (nI w) = some w := by unfold opO; rw [ix_n (by decide) hw]; simp [h0]
  rw [ix_n (by have := hI.2.1; omega) ht, ix_n (by have := hI.2.2.1; omega) hh, this]
set_option maxRecDepth 8000 in
theorem d_book (hM : RM G m S) (hI : Inv S) {d z : Nat} {t h w : Int32} {Q : Rt} (hq : ∀ G', RM G' m (opBook S t h w).1 → FM m G G' → Q (some (.int (opBook S t h w).2)) G' z) : CALL (d + 5) 112 [va_rf (some m), .int t, .int h, .int w] G z Q := by
  have hm := hM.1
  have hn := hM.2.1
  have h40 := hI.2.1
  have h10 := hI.2.2.1
  have h400 := hI.2.2.2.2.1
  have e4 : (nI (sN S 4) = 400) = (sN S 4 = 400) := by rw [show (400 : Int32) = nI 400 from rfl]; exact n_eq (by omega) (by decide)
  rw [CALL_eq]
  simp only [mxE_112, ent, entL, isL_int, isL_rf, isL_long, locS, List.length_cons, List.length_nil, List.cons_append, List.nil_append, List.replicate_succ, List.replicate_zero, Bool.false_eq_true, if_false, if_true, true_and, and_true, Nat.reduceAdd, Nat.reduceSub, Nat.reduceLeDiff, Nat.zero_le, Nat.le_refl, Nat.zero_add, Nat.add_zero, bI_0, bI_1, bI_n, Nat.reduceEqDiff, false_and, and_false, and_self, e_112_0, e_112_1, e_112_2, e_112_3, e_112_4, e_112_7, e_112_10, e_112_11, e_112_14, e_112_17, e_112_20, e_112_21, e_112_22, e_112_23, e_112_26, e_112_28, e_112_29, e_112_30, e_112_31, e_112_32, e_112_33, e_112_34, e_112_35, e_112_36, e_112_39, e_112_40, e_112_41, e_112_44, e_112_45, e_112_46, e_112_47, e_112_50, hm]
  refine r_why hM hI ?_
  simp only [ent, entL, isL_int, isL_rf, isL_long, locS, List.length_cons, List.length_nil, List.cons_append, List.nil_append, List.replicate_succ, List.replicate_zero, Bool.false_eq_true, if_false, if_true, true_and, and_true, Nat.reduceAdd, Nat.reduceSub, Nat.reduceLeDiff, Nat.zero_le, Nat.le_refl, Nat.zero_add, Nat.add_zero, bI_0, bI_1, bI_n, Nat.reduceEqDiff, false_and, and_false, and_self, e_112_7, e_112_10, e_112_11, e_112_14, e_112_17, e_112_20, e_112_21, e_112_22, e_112_23, e_112_26, e_112_28, e_112_29, e_112_30, e_112_31, e_112_32, hm, hn, e4]
  unfold opBook at hq
  have bad : ¬ opWhy S t h w = 0 → opBook S t h w = (S, -1) → Q (some (.int (-1))) G z := fun _ e => by
    unfold opBook at e
    have := hq G (by rw [e]; exact hM) FM.rf
    rw [e] at this
    exact this
  cases h1 : ix t (sN S 1) with
  | none =>
    have e : ¬ opWhy S t h w = 0 := by unfold opWhy; rw [h1]; exact (by decide : ¬ (1 : Int32) = 0)
    simp only [e, if_false]
    exact bad e (by unfold opBook; rw [h1])
  | some t' =>
    obtain ⟨ht, rfl⟩ := ix_s (by omega) h1
    cases h2 : ix h (sN S 2) with
    | none =>
      have e : ¬ opWhy S (nI t') h w = 0 := by unfold opWhy; rw [h1, h2]; exact (by decide : ¬ (1 : Int32) = 0)
      simp only [e, if_false]
      exact bad e (by unfold opBook; rw [h1, h2])
    | some h' =>
      obtain ⟨hh, rfl⟩ := ix_s (by omega) h2
      cases h3 : opO S w with
      | none =>
        have e : ¬ opWhy S (nI t') (nI h') w = 0 := by unfold opWhy; rw [h1, h2, h3]; exact (by decide : ¬ (1 : Int32) = 0)
        simp only [e, if_false]
        exact bad e (by unfold opBook; rw [h1, h2, h3])
      | some w' =>
        obtain ⟨hw, hw0, rfl⟩ := opO_s h3
        rw [h1, h2, h3] at hq
        dsimp only at hq
        rw [opWhy_n hI ht hh hw hw0]
        by_cases hy : whyS S t' h' w' = 0
        · simp only [hy, if_true, true_and] at hq ⊢
          by_cases c4 : sN S 4 = 400
          · simp only [show ¬ sN S 4 < 400 by omega, if_false] at hq
            simp only [c4, if_true]; exact hq G hM FM.rf
          · simp only [show sN S 4 < 400 by omega, if_true] at hq
            simp only [c4, if_false]
            have hp := pl_lt (show t' < 40 by omega) hw
            simp only [ent, entL, isL_int, isL_rf, isL_long, locS, List.length_cons, List.length_nil, List.cons_append, List.nil_append, List.replicate_succ, List.replicate_zero, Bool.false_eq_true, if_false, if_true, true_and, and_true, Nat.reduceAdd, Nat.reduceSub, Nat.reduceLeDiff, Nat.zero_le, Nat.le_refl, Nat.zero_add, Nat.add_zero, bI_0, bI_1, bI_n, Nat.reduceEqDiff, false_and, and_false, and_self, e_112_33, e_112_34, e_112_35, e_112_36, e_112_39, e_112_40, e_112_41, e_112_44, e_112_45, e_112_46, hm, hn, memS, show (60 : Int32) = nI 60 from rfl, n_mul, n_add, n_in hp (by decide), n_cl (show 60 * t' + w' < 2 ^ 31 by omega), n_1, true_or]
            have hM2 : RM (pI (pE G (m + 10) (60 * t' + w') (nI h')) 8 4 m (nI (sN S 4 + 1))) m (bk S t' w' h') := hM.pb (v := some h') (by omega) hw
            have hF2 : FM m G (pI (pE G (m + 10) (60 * t' + w') (nI h')) 8 4 m (nI (sN S 4 + 1))) := (FM.pE (by omega)).tr FM.pI
            generalize pI (pE G (m + 10) (60 * t' + w') (nI h')) 8 4 m (nI (sN S 4 + 1)) = G2 at hM2 hF2
            have hm2 := hM2.1
            simp only [ent, entL, isL_int, isL_rf, isL_long, locS, List.length_cons, List.length_nil, List.cons_append, List.nil_append, List.replicate_succ, List.replicate_zero, Bool.false_eq_true, if_false, if_true, true_and, and_true, Nat.reduceAdd, Nat.reduceSub, Nat.reduceLeDiff, Nat.zero_le, Nat.le_refl, Nat.zero_add, Nat.add_zero, bI_0, bI_1, bI_n, Nat.reduceEqDiff, false_and, and_false, and_self, e_112_33, e_112_34, e_112_35, e_112_36, e_112_39, e_112_40, e_112_41, e_112_44, e_112_45, e_112_46, e_112_47, e_112_50, hm2]
            refine r_many hM2 (inv_bk hI ht hh hw hy (by omega)) hh hw ?_
            simp only [ent, entL, isL_int, isL_rf, isL_long, locS, List.length_cons, List.length_nil, List.cons_append, List.nil_append, List.replicate_succ, List.replicate_zero, Bool.false_eq_true, if_false, if_true, true_and, and_true, Nat.reduceAdd, Nat.reduceSub, Nat.reduceLeDiff, Nat.zero_le, Nat.le_refl, Nat.zero_add, Nat.add_zero, bI_0, bI_1, bI_n, Nat.reduceEqDiff, false_and, and_false, and_self, e_112_33, e_112_34, e_112_35, e_112_36, e_112_39, e_112_40, e_112_41, e_112_44, e_112_45, e_112_46, e_112_47, e_112_50]
            exact hq G2 hM2 hF2
        · simp only [hy, false_and, if_false] at hq ⊢
          exact hq G hM FM.rf
theorem bestF_lt' {h w : Nat} {but : Option Nat} {n : Nat} : ∀ c, bestF S h w but n = some c → c < n := fun c q => (bestF_lt q).1
set_option maxRecDepth 8000 in
theorem l_best8 (hM : RM G m S) (hI : Inv S) {d z h w : Nat} {but : Option Nat} {R : Rt} (hh : h < sN S 2) (hw : w < 60) (h0 : sN S 0 ≤ w) (hb : ∀ c, but = some c → c < 2 ^ 31) (hR : R (some (.int (pInt (bestF S h w but (sN S 1))))) G z) : ∀ (n k : Nat), k + n = sN S 1 →
    WP (d + 4) 123 R 6 [some (va_rf (some m)), some (.int (nI h)), some (.int (nI w)), some (.int (pInt but)), some (.int (pInt (bestF S h w but k))), some (.int (nI k))] [] G z 0 0 := by
  have hm := hM.1
  have hn := hM.2.1
  have h40 := hI.2.1
  have hdr := hM.2.2.1.2.2.2.1
  intro n
  induction n with
  | zero =>
    intro k hk
    have hk : k = sN S 1 := by omega
    subst hk
    rw [e_123_6]
    simp only [ent, entL, isL_int, isL_rf, isL_long, locS, List.length_cons, List.length_nil, List.cons_append, List.nil_append, List.replicate_succ, List.replicate_zero, Bool.false_eq_true, if_false, if_true, true_and, and_true, Nat.reduceAdd, Nat.reduceSub, Nat.reduceLeDiff, Nat.zero_le, Nat.le_refl, Nat.zero_add, Nat.add_zero, bI_0, bI_1, bI_n, Nat.reduceEqDiff, false_and, and_false, and_self, e_123_0, e_123_1, e_123_3, e_123_4, e_123_8, e_123_9, e_123_12, e_123_15, e_123_17, e_123_18, e_123_21, e_123_23, e_123_24, e_123_27, e_123_28, e_123_31, e_123_33, e_123_34, e_123_35, e_123_38, e_123_40, e_123_41, e_123_44, e_123_45, e_123_47, e_123_48, e_123_49, e_123_52, e_123_55, e_123_57, e_123_59, e_123_62, e_123_65, e_123_67, hm, hn, n_le (show sN S 1 < 2 ^ 31 by omega) (show sN S 1 < 2 ^ 31 by omega), Nat.le_refl, if_true]
    exact hR
  | succ n ih =>
    intro k hk
    have nx := ih (k + 1) (by omega)
    rw [bestF] at nx
    have hk4 : k < 40 := by omega
    rw [e_123_6]
    have e1 : (nI k = pInt but) = (but = some k) := by
      have := pInt_n (o := but) (show k < 2 ^ 31 by omega) hb
      rw [← this]; exact propext ⟨fun q => q.symm, fun q => q.symm⟩
    simp only [ent, entL, isL_int, isL_rf, isL_long, locS, List.length_cons, List.length_nil, List.cons_append, List.nil_append, List.replicate_succ, List.replicate_zero, Bool.false_eq_true, if_false, if_true, true_and, and_true, Nat.reduceAdd, Nat.reduceSub, Nat.reduceLeDiff, Nat.zero_le, Nat.le_refl, Nat.zero_add, Nat.add_zero, bI_0, bI_1, bI_n, Nat.reduceEqDiff, false_and, and_false, and_self, e_123_0, e_123_1, e_123_3, e_123_4, e_123_8, e_123_9, e_123_12, e_123_15, e_123_17, e_123_18, e_123_21, e_123_23, e_123_24, e_123_27, e_123_28, e_123_31, e_123_33, e_123_34, e_123_35, e_123_38, e_123_40, e_123_41, e_123_44, e_123_45, e_123_47, e_123_48, e_123_49, e_123_52, e_123_55, e_123_57, e_123_59, e_123_62, e_123_65, e_123_67, hm, hn, n_le (show sN S 1 < 2 ^ 31 by omega) (show k < 2 ^ 31 by omega), show ¬ sN S 1 ≤ k by omega, if_false, e1, pInt_m1 (o := bestF S h w but k) (fun c hc => by have := bestF_lt' c hc; omega), n_1, n_in hk4 (by decide), n_cl (show k < 2 ^ 31 by omega), hdr, true_or]
    by_cases c1 : but = some k
    · rw [if_neg (fun q => q.1 c1)] at nx
      simp only [c1, if_true] at nx ⊢
      exact nx
    · simp only [c1, if_false]
      have fin : gtO S (bestF S h w but k) k = true → CALL (d + 4) 110 [va_rf (some m), .int (nI k), .int (nI h), .int (nI w)] G z (rtn (d + 4) 123 R 52 [some (va_rf (some m)), some (.int (nI h)), some (.int (nI w)), some (.int (pInt but)), some (.int (pInt (bestF S h w but k))), some (.int (nI k))] [] 0 0) := by
        intro hg
        refine r_why hM hI ?_
        rw [opWhy_n hI (by omega) hh hw h0]
        simp only [ent, entL, isL_int, isL_rf, isL_long, locS, List.length_cons, List.length_nil, List.cons_append, List.nil_append, List.replicate_succ, List.replicate_zero, Bool.false_eq_true, if_false, if_true, true_and, and_true, Nat.reduceAdd, Nat.reduceSub, Nat.reduceLeDiff, Nat.zero_le, Nat.le_refl, Nat.zero_add, Nat.add_zero, bI_0, bI_1, bI_n, Nat.reduceEqDiff, false_and, and_false, and_self, e_123_0, e_123_1, e_123_3, e_123_4, e_123_8, e_123_9, e_123_12, e_123_15, e_123_17, e_123_18, e_123_21, e_123_23, e_123_24, e_123_27, e_123_28, e_123_31, e_123_33, e_123_34, e_123_35, e_123_38, e_123_40, e_123_41, e_123_44, e_123_45, e_123_47, e_123_48, e_123_49, e_123_52, e_123_55, e_123_57, e_123_59, e_123_62, e_123_65, e_123_67, n_1]
        by_cases hy : whyS S k h w = 0
        · rw [if_pos ⟨c1, hg, hy⟩] at nx
          simp only [hy, if_true]; exact nx
        · rw [if_neg (fun q => hy q.2.2)] at nx
          simp only [hy, if_false]; exact nx
      cases hq : bestF S h w but k with
      | none =>
        simp only [if_true]
        rw [hq] at fin
        exact fin rfl
      | some b =>
        have hb2 := bestF_lt' b hq
        simp only [reduceCtorEq, if_false, pI_s, n_in (show b < 40 by omega) (by decide), n_cl (show b < 2 ^ 31 by omega), hdr, true_and]
        by_cases c2 : sI S 3 b < sI S 3 k
        · have c2' : ¬ sI S 3 k ≤ sI S 3 b := by rw [not_le']; exact c2
          simp only [c2', if_false]
          rw [hq] at fin
          exact fin (by simp [gtO, c2])
        · have c2' : sI S 3 k ≤ sI S 3 b := by rw [← not_lt']; exact c2
          simp only [c2', if_true]
          rw [hq, if_neg (fun q => by have := q.2.1; simp [gtO] at this; exact c2 this)] at nx
          exact nx
set_option maxRecDepth 8000 in
theorem r_bestFor (hM : RM G m S) (hI : Inv S) {d z h w : Nat} {but : Option Nat} {Q : Rt} (hh : h < sN S 2) (hw : w < 60) (h0 : sN S 0 ≤ w) (hb : ∀ c, but = some c → c < 2 ^ 31) (hR : Q (some (.int (pInt (bestF S h w but (sN S 1))))) G z) : CALL (d + 5) 123 [va_rf (some m), .int (nI h), .int (nI w), .int (pInt but)] G z Q := by
  rw [CALL_eq]
  simp only [mxE_123, ent, entL, isL_int, isL_rf, isL_long, locS, List.length_cons, List.length_nil, List.cons_append, List.nil_append, List.replicate_succ, List.replicate_zero, Bool.false_eq_true, if_false, if_true, true_and, and_true, Nat.reduceAdd, Nat.reduceSub, Nat.reduceLeDiff, Nat.zero_le, Nat.le_refl, Nat.zero_add, Nat.add_zero, bI_0, bI_1, bI_n, Nat.reduceEqDiff, false_and, and_false, and_self, e_123_0, e_123_1, e_123_3, e_123_4, e_123_8, e_123_9, e_123_12, e_123_15, e_123_17, e_123_18, e_123_21, e_123_23, e_123_24, e_123_27, e_123_28, e_123_31, e_123_33, e_123_34, e_123_35, e_123_38, e_123_40, e_123_41, e_123_44, e_123_45, e_123_47, e_123_48, e_123_49, e_123_52, e_123_55, e_123_57, e_123_59, e_123_62, e_123_65, e_123_67]
  exact l_best8 hM hI hh hw h0 hb hR (sN S 1) 0 (by omega)
set_option maxRecDepth 8000 in
theorem d_fail (hM : RM G m S) (hI : Inv S) {d z : Nat} {t w : Int32} {Q : Rt} (h : ∀ G', RM G' m (opFail S t w).1 → FM m G G' → Q (some (.int (opFail S t w).2)) G' z) : CALL (d + 6) 124 [va_rf (some m), .int t, .int w] G z Q := by
  have hm := hM.1
  have hn := hM.2.1
  have h40 := hI.2.1
  have h10 := hI.2.2.1
  rw [opFail_b] at h
  rw [CALL_eq]
  simp only [mxE_124, ent, entL, isL_int, isL_rf, isL_long, locS, List.length_cons, List.length_nil, List.cons_append, List.nil_append, List.replicate_succ, List.replicate_zero, Bool.false_eq_true, if_false, if_true, true_and, and_true, Nat.reduceAdd, Nat.reduceSub, Nat.reduceLeDiff, Nat.zero_le, Nat.le_refl, Nat.zero_add, Nat.add_zero, bI_0, bI_1, bI_n, Nat.reduceEqDiff, false_and, and_false, and_self, e_124_0, e_124_1, e_124_2, e_124_3, e_124_6, e_124_9, e_124_11, e_124_12, e_124_13, e_124_14, e_124_15, e_124_18, e_124_19, e_124_20, e_124_23, e_124_25, e_124_26, e_124_27, e_124_28, e_124_29, e_124_30, e_124_31, e_124_32, e_124_33, e_124_36, e_124_37, e_124_38, e_124_41, e_124_42, e_124_45, e_124_46, e_124_47, e_124_48, e_124_49, e_124_50, e_124_51, e_124_52, e_124_53, e_124_54, e_124_55, e_124_58, e_124_60, e_124_62, e_124_63, e_124_66, e_124_67, e_124_68, e_124_69, e_124_72, e_124_74, e_124_76, e_124_77, e_124_78, e_124_79, e_124_80, e_124_81, e_124_82, e_124_83, e_124_86, e_124_87, e_124_88, e_124_91, e_124_93, hm]
  refine r_isBooked hM hI ?_
  cases hb : bkO S t w with
  | none => rw [hb] at h; simp only [ent, entL, isL_int, isL_rf, isL_long, locS, List.length_cons, List.length_nil, List.cons_append, List.nil_append, List.replicate_succ, List.replicate_zero, Bool.false_eq_true, if_false, if_true, true_and, and_true, Nat.reduceAdd, Nat.reduceSub, Nat.reduceLeDiff, Nat.zero_le, Nat.le_refl, Nat.zero_add, Nat.add_zero, bI_0, bI_1, bI_n, Nat.reduceEqDiff, false_and, and_false, and_self, e_124_0, e_124_1, e_124_2, e_124_3, e_124_6, e_124_9, e_124_11, e_124_12, e_124_13, e_124_14, e_124_15, e_124_18, e_124_19, e_124_20, e_124_23, e_124_25, e_124_26, e_124_27, e_124_28, e_124_29, e_124_30, e_124_31, e_124_32, e_124_33, e_124_36, e_124_37, e_124_38, e_124_41, e_124_42, e_124_45, e_124_46, e_124_47, e_124_48, e_124_49, e_124_50, e_124_51, e_124_52, e_124_53, e_124_54, e_124_55, e_124_58, e_124_60, e_124_62, e_124_63, e_124_66, e_124_67, e_124_68, e_124_69, e_124_72, e_124_74, e_124_76, e_124_77, e_124_78, e_124_79, e_124_80, e_124_81, e_124_82, e_124_83, e_124_86, e_124_87, e_124_88, e_124_91, e_124_93, Option.isSome_none, Bool.false_eq_true, not_false_iff, if_true]; exact h G hM FM.rf
  | some abc =>
    obtain ⟨a, b, c⟩ := abc
    rw [hb] at h
    obtain ⟨q1, q2, q3, q4, rfl, rfl, q7, -, -⟩ := bkO_s hI hb
    have hp := pl_lt (show a < 40 by omega) q2
    have h4 := n4_pos hI q2 q7
    have hfa := hM.2.2.1.2.2.2.2.1
    simp only [ent, entL, isL_int, isL_rf, isL_long, locS, List.length_cons, List.length_nil, List.cons_append, List.nil_append, List.replicate_succ, List.replicate_zero, Bool.false_eq_true, if_false, if_true, true_and, and_true, Nat.reduceAdd, Nat.reduceSub, Nat.reduceLeDiff, Nat.zero_le, Nat.le_refl, Nat.zero_add, Nat.add_zero, bI_0, bI_1, bI_n, Nat.reduceEqDiff, false_and, and_false, and_self, e_124_6, e_124_9, e_124_11, e_124_12, e_124_13, e_124_14, e_124_15, e_124_18, e_124_19, e_124_20, e_124_23, e_124_25, e_124_26, e_124_27, e_124_28, e_124_29, e_124_30, e_124_31, e_124_32, e_124_33, e_124_36, e_124_37, e_124_38, e_124_41, e_124_42, e_124_45, e_124_46, e_124_47, e_124_48, e_124_49, e_124_50, e_124_51, e_124_52, e_124_53, e_124_54, e_124_55, Option.isSome_some, not_true, if_false, hm, hn, memS, r_hallOf hM (show a < 40 by omega) q2, q7, pI_s, show (60 : Int32) = nI 60 from rfl, n_mul, n_add, n_in hp (by decide), n_cl (show 60 * a + b < 2 ^ 31 by omega), n_pred h4, true_or, n_in (show a < 40 by omega) (by decide), n_cl (show a < 2 ^ 31 by omega), hfa]
    have hM1 : RM (pI (pE G (m + 10) (60 * a + b) (pInt none)) 8 4 m (nI (sN S 4 - 1))) m (tk S a b) := hM.pb (v := none) (by omega) q2
    have hM3 := hM1.fl (t := a) (v := sI S 4 a + 1)
    have hF3 : FM m G (pE (pI (pE G (m + 10) (60 * a + b) (-1)) 8 4 m (nI (sN S 4 - 1))) (m + 5) a (sI S 4 a + 1)) := ((FM.pE (by omega)).tr FM.pI).tr (FM.pE (by omega))
    have hI3 := inv_fl (inv_tk hI q2 q7) (v := sI S 4 a + 1) (show a < sN (tk S a b) 1 from q1)
    rw [pI_n] at hM3
    have e5 : ¬ m = m + 5 := by omega
    simp only [e5, false_and, if_false]
    generalize pE (pI (pE G (m + 10) (60 * a + b) (-1)) 8 4 m (nI (sN S 4 - 1))) (m + 5) a (sI S 4 a + 1) = G3 at hM3 hF3
    dsimp only at h
    generalize hS3 : uI (tk S a b) 4 a (sI S 4 a + 1) = S3 at hM3 hI3 h
    have n1 : sN S3 1 = sN S 1 := by rw [← hS3]; rfl
    have n2 : sN S3 2 = sN S 2 := by rw [← hS3]; rfl
    have n0 : sN S3 0 = sN S 0 := by rw [← hS3]; rfl
    have hm3 := hM3.1
    have hn3 := hM3.2.1
    refine r_bestFor (h := c) (w := b) hM3 hI3 (but := some a) (by omega) q2 (by omega) (fun c hc => by cases hc; omega) ?_
    rw [n1]
    have hlt : ∀ c', bestF S3 c b (some a) (sN S 1) = some c' → c' < sN S 1 := fun c' hc => bestF_lt' c' hc
    simp only [ent, entL, isL_int, isL_rf, isL_long, locS, List.length_cons, List.length_nil, List.cons_append, List.nil_append, List.replicate_succ, List.replicate_zero, Bool.false_eq_true, if_false, if_true, true_and, and_true, Nat.reduceAdd, Nat.reduceSub, Nat.reduceLeDiff, Nat.zero_le, Nat.le_refl, Nat.zero_add, Nat.add_zero, bI_0, bI_1, bI_n, Nat.reduceEqDiff, false_and, and_false, and_self, e_124_58, e_124_60, e_124_62, e_124_63, e_124_66, pInt_m1 (o := bestF S3 c b (some a) (sN S 1)) (fun c' hc => by have := hlt c' hc; omega)]
    cases hbf : bestF S3 c b (some a) (sN S 1) with
    | none => rw [hbf] at h; simp only [if_true, ent, entL, isL_int, isL_rf, isL_long, locS, List.length_cons, List.length_nil, List.cons_append, List.nil_append, List.replicate_succ, List.replicate_zero, Bool.false_eq_true, if_false, if_true, true_and, and_true, Nat.reduceAdd, Nat.reduceSub, Nat.reduceLeDiff, Nat.zero_le, Nat.le_refl, Nat.zero_add, Nat.add_zero, bI_0, bI_1, bI_n, Nat.reduceEqDiff, false_and, and_false, and_self, e_124_0, e_124_1, e_124_2, e_124_3, e_124_6, e_124_9, e_124_11, e_124_12, e_124_13, e_124_14, e_124_15, e_124_18, e_124_19, e_124_20, e_124_23, e_124_25, e_124_26, e_124_27, e_124_28, e_124_29, e_124_30, e_124_31, e_124_32, e_124_33, e_124_36, e_124_37, e_124_38, e_124_41, e_124_42, e_124_45, e_124_46, e_124_47, e_124_48, e_124_49, e_124_50, e_124_51, e_124_52, e_124_53, e_124_54, e_124_55, e_124_58, e_124_60, e_124_62, e_124_63, e_124_66, e_124_67, e_124_68, e_124_69, e_124_72, e_124_74, e_124_76, e_124_77, e_124_78, e_124_79, e_124_80, e_124_81, e_124_82, e_124_83, e_124_86, e_124_87, e_124_88, e_124_91, e_124_93]; exact h G3 hM3 hF3
    | some b' =>
      rw [hbf] at h
      have hb1 := hlt b' hbf
      have hp2 := pl_lt (show b' < 40 by omega) q2
      simp only [reduceCtorEq, if_false, pI_s, ent, entL, isL_int, isL_rf, isL_long, locS, List.length_cons, List.length_nil, List.cons_append, List.nil_append, List.replicate_succ, List.replicate_zero, Bool.false_eq_true, if_false, if_true, true_and, and_true, Nat.reduceAdd, Nat.reduceSub, Nat.reduceLeDiff, Nat.zero_le, Nat.le_refl, Nat.zero_add, Nat.add_zero, bI_0, bI_1, bI_n, Nat.reduceEqDiff, false_and, and_false, and_self, e_124_67, e_124_68, e_124_69, e_124_72, e_124_74, e_124_76, e_124_77, e_124_78, e_124_79, e_124_80, e_124_81, e_124_82, e_124_83, e_124_86, e_124_87, e_124_88, e_124_91, e_124_93, hm3, hn3, memS, show (60 : Int32) = nI 60 from rfl, n_mul, n_add, n_in hp2 (by decide), n_cl (show 60 * b' + b < 2 ^ 31 by omega), n_1, true_or]
      exact h _ (hM3.pb (v := some c) (by omega) q2) (hF3.tr ((FM.pE (by omega)).tr FM.pI))
set_option maxRecDepth 8000 in
theorem l_fill8 {d z j w n : Nat} (hw1 : w < 60) (hn : n < 10) {Q : Rt} : ∀ (f : Nat) (S : St) (G1 : Mem) (o4 : Option Value), RM G1 m S → Inv S → j < sN S 2 → sN S 0 ≤ w → FM m G G1 → n ≤ (bl S j w).length + f → (∀ G', RM G' m (fillF j w n f S) → FM m G G' → Q (some (.int (nI (bl (fillF j w n f S) j w).length))) G' z) →
    WP (d + 5) 125 Q 33 [some (va_rf (some m)), some (.int (nI j)), some (.int (nI w)), some (.int (nI n)), o4] [] G1 z 0 0
  | f, S, G1, o4, hM, hI, hj, hw2, hF, hf, hq => by
    have hm := hM.1
    have hnn := hM.2.1
    have h40 := hI.2.1
    have h10 := hI.2.2.1
    have hl9 := hI.2.2.2.2.2.2.2.2.1 j w
    have e4 : ((400 : Int32) ≤ nI (sN S 4)) = (400 ≤ sN S 4) := by rw [show (400 : Int32) = nI 400 from rfl]; exact n_le (by decide) (by have := hI.2.2.2.2.1; omega)
    have out : (fillF j w n f S = S) → WP (d + 5) 125 Q 97 [some (va_rf (some m)), some (.int (nI j)), some (.int (nI w)), some (.int (nI n)), o4] [] G1 z 0 0 := by
      intro e
      rw [e] at hq
      simp only [ent, entL, isL_int, isL_rf, isL_long, locS, List.length_cons, List.length_nil, List.cons_append, List.nil_append, List.replicate_succ, List.replicate_zero, Bool.false_eq_true, if_false, if_true, true_and, and_true, Nat.reduceAdd, Nat.reduceSub, Nat.reduceLeDiff, Nat.zero_le, Nat.le_refl, Nat.zero_add, Nat.add_zero, bI_0, bI_1, bI_n, Nat.reduceEqDiff, false_and, and_false, and_self, e_125_97, e_125_98, e_125_99, e_125_100, e_125_103, hm]
      refine r_many hM hI hj hw1 ?_
      simp only [ent, entL, isL_int, isL_rf, isL_long, locS, List.length_cons, List.length_nil, List.cons_append, List.nil_append, List.replicate_succ, List.replicate_zero, Bool.false_eq_true, if_false, if_true, true_and, and_true, Nat.reduceAdd, Nat.reduceSub, Nat.reduceLeDiff, Nat.zero_le, Nat.le_refl, Nat.zero_add, Nat.add_zero, bI_0, bI_1, bI_n, Nat.reduceEqDiff, false_and, and_false, and_self, e_125_97, e_125_98, e_125_99, e_125_100, e_125_103]
      exact hq G1 hM hF
    rw [e_125_33]
    simp only [ent, entL, isL_int, isL_rf, isL_long, locS, List.length_cons, List.length_nil, List.cons_append, List.nil_append, List.replicate_succ, List.replicate_zero, Bool.false_eq_true, if_false, if_true, true_and, and_true, Nat.reduceAdd, Nat.reduceSub, Nat.reduceLeDiff, Nat.zero_le, Nat.le_refl, Nat.zero_add, Nat.add_zero, bI_0, bI_1, bI_n, Nat.reduceEqDiff, false_and, and_false, and_self, e_125_34, e_125_35, e_125_36, e_125_39, e_125_40, e_125_43, e_125_44, e_125_47, e_125_50, e_125_53, e_125_54, e_125_55, e_125_56, e_125_57, e_125_60, e_125_62, e_125_64, e_125_65, e_125_68, e_125_71, e_125_72, e_125_75, e_125_77, e_125_79, e_125_80, e_125_81, e_125_82, e_125_83, e_125_84, e_125_85, e_125_86, e_125_89, e_125_90, e_125_91, e_125_94, hm]
    refine r_many hM hI hj hw1 ?_
    simp only [ent, entL, isL_int, isL_rf, isL_long, locS, List.length_cons, List.length_nil, List.cons_append, List.nil_append, List.replicate_succ, List.replicate_zero, Bool.false_eq_true, if_false, if_true, true_and, and_true, Nat.reduceAdd, Nat.reduceSub, Nat.reduceLeDiff, Nat.zero_le, Nat.le_refl, Nat.zero_add, Nat.add_zero, bI_0, bI_1, bI_n, Nat.reduceEqDiff, false_and, and_false, and_self, e_125_34, e_125_35, e_125_36, e_125_39, e_125_40, e_125_43, e_125_44, e_125_47, e_125_50, e_125_53, e_125_54, e_125_55, e_125_56, e_125_57, e_125_60, e_125_62, e_125_64, e_125_65, e_125_68, e_125_71, e_125_72, e_125_75, e_125_77, e_125_79, e_125_80, e_125_81, e_125_82, e_125_83, e_125_84, e_125_85, e_125_86, e_125_89, e_125_90, e_125_91, e_125_94, n_le (show n < 2 ^ 31 by omega) (show (bl S j w).length < 2 ^ 31 by omega), hm, hnn, e4]
    match f with
    | 0 =>
      simp only [show n ≤ (bl S j w).length by omega, if_true]
      exact out rfl
    | f + 1 =>
      by_cases c1 : n ≤ (bl S j w).length
      · simp only [c1, if_true]
        exact out (by unfold fillF; rw [if_neg (by omega)])
      · simp only [c1, if_false]
        by_cases c2 : 400 ≤ sN S 4
        · simp only [c2, if_true]
          exact out (by unfold fillF; rw [if_neg (by omega)])
        · simp only [c2, if_false]
          refine r_bestFor hM hI (but := none) hj hw1 hw2 (fun b hb => by cases hb) ?_
          simp only [ent, entL, isL_int, isL_rf, isL_long, locS, List.length_cons, List.length_nil, List.cons_append, List.nil_append, List.replicate_succ, List.replicate_zero, Bool.false_eq_true, if_false, if_true, true_and, and_true, Nat.reduceAdd, Nat.reduceSub, Nat.reduceLeDiff, Nat.zero_le, Nat.le_refl, Nat.zero_add, Nat.add_zero, bI_0, bI_1, bI_n, Nat.reduceEqDiff, false_and, and_false, and_self, e_125_34, e_125_35, e_125_36, e_125_39, e_125_40, e_125_43, e_125_44, e_125_47, e_125_50, e_125_53, e_125_54, e_125_55, e_125_56, e_125_57, e_125_60, e_125_62, e_125_64, e_125_65, e_125_68, pInt_m1 (o := bestF S j w none (sN S 1)) (fun c hc => by have := bestF_lt' c hc; omega)]
          cases hb : bestF S j w none (sN S 1) with
          | none =>
            simp only [if_true]
            have e : fillF j w n (f + 1) S = S := by unfold fillF; rw [if_pos (by omega), hb]
            rw [e] at hq
            simp only [ent, entL, isL_int, isL_rf, isL_long, locS, List.length_cons, List.length_nil, List.cons_append, List.nil_append, List.replicate_succ, List.replicate_zero, Bool.false_eq_true, if_false, if_true, true_and, and_true, Nat.reduceAdd, Nat.reduceSub, Nat.reduceLeDiff, Nat.zero_le, Nat.le_refl, Nat.zero_add, Nat.add_zero, bI_0, bI_1, bI_n, Nat.reduceEqDiff, false_and, and_false, and_self, e_125_97, e_125_98, e_125_99, e_125_100, e_125_103, hm]
            refine r_many hM hI hj hw1 ?_
            simp only [ent, entL, isL_int, isL_rf, isL_long, locS, List.length_cons, List.length_nil, List.cons_append, List.nil_append, List.replicate_succ, List.replicate_zero, Bool.false_eq_true, if_false, if_true, true_and, and_true, Nat.reduceAdd, Nat.reduceSub, Nat.reduceLeDiff, Nat.zero_le, Nat.le_refl, Nat.zero_add, Nat.add_zero, bI_0, bI_1, bI_n, Nat.reduceEqDiff, false_and, and_false, and_self, e_125_97, e_125_98, e_125_99, e_125_100, e_125_103]
            exact hq G1 hM hF
          | some b =>
            have e : fillF j w n (f + 1) S = fillF j w n f (bk S b w j) := by rw [fillF, if_pos (by omega), hb]
            rw [e] at hq
            obtain ⟨hb1, hb2⟩ := bestF_lt hb
            have hp2 := pl_lt (show b < 40 by omega) hw1
            simp only [reduceCtorEq, if_false, pI_s, ent, entL, isL_int, isL_rf, isL_long, locS, List.length_cons, List.length_nil, List.cons_append, List.nil_append, List.replicate_succ, List.replicate_zero, Bool.false_eq_true, if_false, if_true, true_and, and_true, Nat.reduceAdd, Nat.reduceSub, Nat.reduceLeDiff, Nat.zero_le, Nat.le_refl, Nat.zero_add, Nat.add_zero, bI_0, bI_1, bI_n, Nat.reduceEqDiff, false_and, and_false, and_self, e_125_71, e_125_72, e_125_75, e_125_77, e_125_79, e_125_80, e_125_81, e_125_82, e_125_83, e_125_84, e_125_85, e_125_86, e_125_89, e_125_90, e_125_91, e_125_94, hm, hnn, memS, show (60 : Int32) = nI 60 from rfl, n_mul, n_add, n_in hp2 (by decide), n_cl (show 60 * b + w < 2 ^ 31 by omega), n_1, true_or]
            have el := bl_bk (h := j) hb1 (why0 hb2).1
            exact l_fill8 hw1 hn f _ _ _ (hM.pb (v := some j) (by omega) hw1) (inv_bk hI hb1 hj hw1 hb2 (by omega)) hj hw2 (hF.tr ((FM.pE (by omega)).tr FM.pI)) (by rw [show uN (uP S b w (some j)) 4 (sN S 4 + 1) = bk S b w j from rfl]; omega) hq
set_option maxRecDepth 8000 in
theorem d_fill (hM : RM G m S) (hI : Inv S) {d z : Nat} {h w n : Int32} {Q : Rt} (hq : ∀ G', RM G' m (opFill S h w n).1 → FM m G G' → Q (some (.int (opFill S h w n).2)) G' z) : CALL (d + 6) 125 [va_rf (some m), .int h, .int w, .int n] G z Q := by
  have hm := hM.1
  have hnn := hM.2.1
  have e9 : (0 ≤ n ∧ n ≤ 9) = ((ix n 10).isSome = true) := by rw [show (9 : Int32) = nI 10 - 1 from by decide, n_m1' (by decide), ix_c (by decide)]
  rw [CALL_eq]
  simp only [mxE_125, ent, entL, isL_int, isL_rf, isL_long, locS, List.length_cons, List.length_nil, List.cons_append, List.nil_append, List.replicate_succ, List.replicate_zero, Bool.false_eq_true, if_false, if_true, true_and, and_true, Nat.reduceAdd, Nat.reduceSub, Nat.reduceLeDiff, Nat.zero_le, Nat.le_refl, Nat.zero_add, Nat.add_zero, bI_0, bI_1, bI_n, Nat.reduceEqDiff, false_and, and_false, and_self, e_125_0, e_125_1, e_125_2, e_125_5, e_125_8, e_125_9, e_125_10, e_125_13, e_125_15, e_125_18, e_125_21, e_125_22, e_125_23, e_125_25, e_125_28, e_125_31, e_125_32, e_125_34, e_125_35, e_125_36, e_125_39, e_125_40, e_125_43, e_125_44, e_125_47, e_125_50, e_125_53, e_125_54, e_125_55, e_125_56, e_125_57, e_125_60, e_125_62, e_125_64, e_125_65, e_125_68, e_125_71, e_125_72, e_125_75, e_125_77, e_125_79, e_125_80, e_125_81, e_125_82, e_125_83, e_125_84, e_125_85, e_125_86, e_125_89, e_125_90, e_125_91, e_125_94, e_125_97, e_125_98, e_125_99, e_125_100, e_125_103, r_isHall hM hI, hm, hnn, r_isIn, e59, o_ix hI, e9]
  unfold opFill at hq
  cases hh : ix h (sN S 2) with
  | none => rw [hh] at hq; simp only [Option.isSome_none, Bool.false_eq_true, not_false_iff, if_true]; exact hq G hM FM.rf
  | some j =>
    obtain ⟨hj, rfl⟩ := ix_s (by have := hI.2.2.1; omega) hh
    rw [hh] at hq
    simp only [Option.isSome_some, not_true, if_false]
    cases hw : opO S w with
    | none => rw [hw] at hq; simp only [Option.isSome_none, Bool.false_eq_true, not_false_iff, if_true]; exact hq G hM FM.rf
    | some w' =>
      rw [hw] at hq
      obtain ⟨hw1, hw2, rfl⟩ := opO_s hw
      simp only [Option.isSome_some, not_true, if_false]
      cases hn : ix n 10 with
      | none => rw [hn] at hq; simp only [Option.isSome_none, Bool.false_eq_true, not_false_iff, if_true]; exact hq G hM FM.rf
      | some n' =>
        rw [hn] at hq
        obtain ⟨hn1, rfl⟩ := ix_s (by decide) hn
        simp only [Option.isSome_some, not_true, if_false]
        exact l_fill8 hw1 hn1 10 S G _ hM hI hj hw2 FM.rf (by omega) hq
end
