/-! THE REFERENCE's order: the bill, the least sums -/
def TM (m : Nat) (G G' : Mem) : Prop := (∀ a, mK G' a = mK G a) ∧ (∀ a, mN G' a = mN G a) ∧ (∀ c k a, ¬ (c = 8 ∧ k = 35) → mI G' c k a = mI G c k a) ∧ (∀ c k a, mR G' c k a = mR G c k a) ∧ (∀ a i, ¬ (a = m + 22 ∨ a = m + 23) → mE G' a i = mE G a i) ∧ ∀ a i, mQ G' a i = mQ G a i
def rV (P : OP) (s last : Nat) : Nat := (FF P (P.1 - pc s) s (some last)).getD 100000
def RLs (G : Mem) (m : Nat) (P : OP) (s0 : Nat) : Prop := ∀ s last, s0 < s → s < 2 ^ P.1 → last < P.1 → s.testBit last = true → mE G (m + 23) (9 * s + last) = nI (rV P s last)
theorem bs1 {s k : Nat} (hk : k < 9) (h : s.testBit k = true) : (nI s >>> (nI k &&& 31)) &&& 1 = 1 := by rw [bt_sh hk, bt_n hk, h]; rfl
theorem bs0 {s k : Nat} (hk : k < 9) (h : s.testBit k = false) : (nI s >>> (nI k &&& 31)) &&& 1 = 0 := by rw [bt_sh hk, bt_n hk, h]; rfl
theorem gO_R {P : OP} {f s place : Nat} {lo : Option Nat} (hf : f ≤ 9) : ∀ k c, gO P (FF P f) s lo place k = some c → c < 100000 := fun k c h => by have := gO_lt h; omega
theorem vR_le {g : Nat → Option Nat} {k : Nat} (h : ∀ k c, g k = some c → c < 100000) : vM 100000 (bst g k) ≤ 100000 := by
  cases hq : bst g k with
  | none => exact Nat.le_refl _
  | some q => obtain ⟨b, c⟩ := q; exact Nat.le_of_lt (h b c (bst_s hq).2.1)
theorem FFr {P : OP} {f s : Nat} {lo : Option Nat} (hf : f ≤ 9) : (FF P f s lo).getD 100000 ≤ 100000 := by
  cases h : FF P f s lo with
  | none => exact Nat.le_refl _
  | some c => have := FF_le h; simp only [Option.getD_some]; omega
section
variable {G : Mem} {m : Nat} {S : St} {B : List Nat} {w : Nat}
theorem TM.rf : TM m G G := ⟨fun _ => rfl, fun _ => rfl, fun _ _ _ _ => rfl, fun _ _ _ => rfl, fun _ _ _ => rfl, fun _ _ => rfl⟩
theorem TM.tr {G1 G2 : Mem} (h : TM m G G1) (h2 : TM m G1 G2) : TM m G G2 :=
  ⟨fun a => (h2.1 a).trans (h.1 a), fun a => (h2.2.1 a).trans (h.2.1 a), fun c k a q => (h2.2.2.1 c k a q).trans (h.2.2.1 c k a q), fun c k a => (h2.2.2.2.1 c k a).trans (h.2.2.2.1 c k a), fun a i q => (h2.2.2.2.2.1 a i q).trans (h.2.2.2.2.1 a i q), fun a i => (h2.2.2.2.2.2 a i).trans (h.2.2.2.2.2 a i)⟩
theorem TM.pE {a i : Nat} {v : Int32} (ha : a = m + 22 ∨ a = m + 23) : TM m G (pE G a i v) := ⟨fun _ => rfl, fun _ => rfl, fun _ _ _ _ => rfl, fun _ _ _ => rfl, fun b k q => by
  have : ¬ b = a := fun e => q (by omega)
  simp [memS, this], fun _ _ => rfl⟩
theorem TM.pI {a : Nat} {v : Int32} : TM m G (pI G 8 35 a v) := ⟨fun _ => rfl, fun _ => rfl, fun c k b q => by
  have : ¬ (c = 8 ∧ k = 35 ∧ b = a) := fun e => q ⟨e.1, e.2.1⟩
  simp only [memS, this, if_false], fun _ _ _ => rfl, fun _ _ _ => rfl, fun _ _ => rfl⟩
theorem TM.om {G' : Mem} (h : TM m G G') : OM m G G' := ⟨h.1, h.2.1, fun c k a q => h.2.2.1 c k a (fun e => q ⟨e.1, Or.inr e.2⟩), h.2.2.2.1, fun a i q => h.2.2.2.2.1 a i (by omega), h.2.2.2.2.2⟩
theorem EM.tm {G' : Mem} (h : EM G m S B w) (q : TM m G G') : EM G' m S B w := by
  obtain ⟨h1, h2, h3, h4, h5⟩ := h
  refine ⟨h1.om q.om, h2, h3, by rw [q.2.2.1 _ _ _ (by omega)]; exact h4, fun k t hk => ?_⟩
  rw [q.2.2.2.2.1 _ _ (by omega), q.2.2.2.2.1 _ _ (by omega)]
  exact h5 k t hk
variable {o4 o5 o6 o7 o8 o9 o10 : Option Value}
set_option maxRecDepth 8000 in
theorem l_g8 (hI : Inv S) {d z h : Nat} {Q : Rt} (hh : h < sN S 2) (hw : w < 60) (hR : ∀ G', EM G' m S (bl S h w) w → OM m G G' → WP (d + 1) 119 Q 78 [some (va_rf (some m)), some (.int (nI h)), some (.int (nI w)), some (.int (nI (sN S 1))), o4, o5, o6, o7, o8, o9, o10] [] G' z 0 0) : ∀ (n t : Nat) (G1 : Mem), t + n = sN S 1 → EM G1 m S (blP S h w t) w → OM m G G1 →
    WP (d + 1) 119 Q 7 [some (va_rf (some m)), some (.int (nI h)), some (.int (nI w)), some (.int (nI t)), o4, o5, o6, o7, o8, o9, o10] [] G1 z 0 0 := by
  have h40 := hI.2.1
  have h10 := hI.2.2.1
  have h59 := hI.1
  intro n
  induction n with
  | zero =>
    intro t G1 ht hE hF
    have ht : t = sN S 1 := by omega
    subst ht
    have hm := hE.1.1
    have hn := hE.1.2.1
    rw [e_119_7]
    simp only [ent, entL, isL_int, isL_rf, isL_long, locS, List.length_cons, List.length_nil, List.cons_append, List.nil_append, List.replicate_succ, List.replicate_zero, Bool.false_eq_true, if_false, if_true, true_and, and_true, Nat.reduceAdd, Nat.reduceSub, Nat.reduceLeDiff, Nat.zero_le, Nat.le_refl, Nat.zero_add, Nat.add_zero, bI_0, bI_1, bI_n, Nat.reduceEqDiff, false_and, and_false, and_self, e_119_8, e_119_9, e_119_12, hm, hn, n_le (show sN S 1 < 2 ^ 31 by omega) (show sN S 1 < 2 ^ 31 by omega)]
    exact hR G1 hE hF
  | succ n ih =>
    intro t G1 ht hE hF
    obtain ⟨hM, h9, hB, h1, h2⟩ := id hE
    have hm := hM.1
    have hn := hM.2.1
    have ih := ih (t + 1)
    rw [e_119_7]
    simp only [ent, entL, isL_int, isL_rf, isL_long, locS, List.length_cons, List.length_nil, List.cons_append, List.nil_append, List.replicate_succ, List.replicate_zero, Bool.false_eq_true, if_false, if_true, true_and, and_true, Nat.reduceAdd, Nat.reduceSub, Nat.reduceLeDiff, Nat.zero_le, Nat.le_refl, Nat.zero_add, Nat.add_zero, bI_0, bI_1, bI_n, Nat.reduceEqDiff, false_and, and_false, and_self, e_119_8, e_119_9, e_119_12, e_119_15, e_119_16, e_119_17, e_119_18, e_119_21, e_119_22, e_119_25, e_119_28, e_119_29, e_119_32, e_119_33, e_119_36, e_119_37, e_119_38, e_119_39, e_119_42, e_119_43, e_119_46, e_119_47, e_119_48, e_119_49, e_119_50, e_119_51, e_119_54, hm, hn, n_le (show sN S 1 < 2 ^ 31 by omega) (show t < 2 ^ 31 by omega), show ¬ sN S 1 ≤ t by omega, r_hallOf hM (show t < 40 by omega) hw, pInt_n (o := sP S t w) (show h < 2 ^ 31 by omega) (fun c hc => by have := (hI.2.2.2.2.2.2.1 t w c hc).2; omega)]
    by_cases hp : sP S t w = some h
    · have hbs : blP S h w (t + 1) = blP S h w t ++ [t] := by rw [blP_s, if_pos hp]
      have hlen : (blP S h w t).length < 9 := by
        have h8 := hI.2.2.2.2.2.2.2.2.1 h w
        have h7 : (blP S h w (t + 1)).length ≤ (bl S h w).length := filt_len _ (by omega)
        rw [hbs, List.length_append, List.length_singleton] at h7
        omega
      rw [hbs] at ih
      simp only [hp, if_true, hm, h1, hn, memS, n_in (show (blP S h w t).length < 9 by omega) (by decide), n_cl (show (blP S h w t).length < 2 ^ 31 by omega), true_and]
      have hF1 : OM m G1 (pE G1 (m + 20) (blP S h w t).length (nI t)) := OM.pE (by omega)
      have hM1 := hM.om hF1
      have p0 : ∀ k, mE (pE G1 (m + 20) (blP S h w t).length (nI t)) (m + 20) k = if k = (blP S h w t).length then nI t else mE G1 (m + 20) k := fun k => by simp [memS]
      have p1 : ∀ k, mE (pE G1 (m + 20) (blP S h w t).length (nI t)) (m + 21) k = mE G1 (m + 21) k := fun k => by simp [memS]
      have p2 : mI (pE G1 (m + 20) (blP S h w t).length (nI t)) 8 34 m = nI (blP S h w t).length := h1
      generalize pE G1 (m + 20) (blP S h w t).length (nI t) = G2 at *
      refine r_inForce hM1 hI (by omega) hw (by omega) ?_
      simp only [ent, entL, isL_int, isL_rf, isL_long, locS, List.length_cons, List.length_nil, List.cons_append, List.nil_append, List.replicate_succ, List.replicate_zero, Bool.false_eq_true, if_false, if_true, true_and, and_true, Nat.reduceAdd, Nat.reduceSub, Nat.reduceLeDiff, Nat.zero_le, Nat.le_refl, Nat.zero_add, Nat.add_zero, bI_0, bI_1, bI_n, Nat.reduceEqDiff, false_and, and_false, and_self, e_119_57, e_119_58, hM1.1]
      refine r_lastOf hM1 hI frc_lt ?_
      have m2 := hM1.1
      simp only [ent, entL, isL_int, isL_rf, isL_long, locS, List.length_cons, List.length_nil, List.cons_append, List.nil_append, List.replicate_succ, List.replicate_zero, Bool.false_eq_true, if_false, if_true, true_and, and_true, Nat.reduceAdd, Nat.reduceSub, Nat.reduceLeDiff, Nat.zero_le, Nat.le_refl, Nat.zero_add, Nat.add_zero, bI_0, bI_1, bI_n, Nat.reduceEqDiff, false_and, and_false, and_self, e_119_61, e_119_62, e_119_63, e_119_64, e_119_67, e_119_68, e_119_69, e_119_72, e_119_75, m2, p2, memS, n_in (show (blP S h w t).length < 9 by omega) (by decide), n_cl (show (blP S h w t).length < 2 ^ 31 by omega), n_1]
      refine ih _ (by omega) ⟨(hM1.om (OM.pE (by omega))).om (OM.pI (Or.inl rfl)), by rw [List.length_append, List.length_singleton]; omega, fun t' ht' => ?_, by simp [memS], fun k t' hk => ?_⟩ (((hF.tr hF1).tr (OM.pE (by omega))).tr (OM.pI (Or.inl rfl)))
      · rw [List.mem_append] at ht'
        rcases ht' with q | q
        · exact hB t' q
        · rw [List.mem_singleton] at q; omega
      · by_cases e : k = (blP S h w t).length
        · subst e
          rw [List.getElem?_append_right (Nat.le_refl _), Nat.sub_self] at hk
          cases hk
          simp [memS, p0]
          rfl
        · have hk2 : k < (blP S h w t).length := by
            have : k < (blP S h w t ++ [t]).length := by rw [List.getElem?_eq_some_iff] at hk; exact hk.1
            rw [List.length_append, List.length_singleton] at this
            omega
          rw [List.getElem?_append_left hk2] at hk
          simp [memS, p0, p1, e]
          exact h2 k t' hk
    · have hbs : blP S h w (t + 1) = blP S h w t := by rw [blP_s, if_neg hp, List.append_nil]
      rw [hbs] at ih
      simp only [hp, if_false]
      simp only [ent, entL, isL_int, isL_rf, isL_long, locS, List.length_cons, List.length_nil, List.cons_append, List.nil_append, List.replicate_succ, List.replicate_zero, Bool.false_eq_true, if_false, if_true, true_and, and_true, Nat.reduceAdd, Nat.reduceSub, Nat.reduceLeDiff, Nat.zero_le, Nat.le_refl, Nat.zero_add, Nat.add_zero, bI_0, bI_1, bI_n, Nat.reduceEqDiff, false_and, and_false, and_self, e_119_72, e_119_75, n_1]
      exact ih G1 (by omega) hE hF
/-- the sums at s below last stand, those of larger sets too -/
def KI (G G1 : Mem) (m : Nat) (S : St) (B : List Nat) (w s last : Nat) : Prop := EM G1 m S B w ∧ RLs G1 m (oP S B w) s ∧ (∀ l, l < last → l < B.length → s.testBit l = true → mE G1 (m + 23) (9 * s + l) = nI (rV (oP S B w) s l)) ∧ TM m G G1
theorem KI.pE {G1 : Mem} {s last : Nat} {v : Int32} (h : KI G G1 m S B w s last) (hl : last < 9) : KI G (pE G1 (m + 23) (9 * s + last) v) m S B w s last := by
  obtain ⟨h1, h2, h3, h4⟩ := h
  have h9 := h1.2.1
  refine ⟨h1.tm (TM.pE (Or.inr rfl)), fun s' l k1 k2 k3 k4 => ?_, fun l k1 k2 k3 => ?_, h4.tr (TM.pE (Or.inr rfl))⟩
  · have k3' : l < B.length := k3
    have : ¬ 9 * s' + l = 9 * s + last := by omega
    simp only [memS, this, and_false, if_false]
    exact h2 s' l k1 k2 k3 k4
  · have : ¬ 9 * s + l = 9 * s + last := by omega
    simp only [memS, this, and_false, if_false]
    exact h3 l k1 k2 k3
set_option maxRecDepth 8000 in
theorem l_k8 {d z s last f : Nat} {h3 : Int32} {al : Nat} {h4 : Int32} {Q : Rt} (hs2 : s < 2 ^ B.length) (hl : last < B.length) (hf : B.length = pc s + (f + 1)) (hal : ¬ s = al) (hal2 : al < 512)
    (hR : ∀ G' o6, KI G G' m S B w s (last + 1) → WP (d + 1) 119 Q 264 [some (va_rf (some m)), some (.int h3), some (.int h4), some (.int (nI al)), some (.int (nI s)), some (.int (nI last)), some (.int o6), o7, o8, o9, o10] [] G' z 0 0) : ∀ (n k : Nat) (G1 : Mem), k + n = B.length → KI G G1 m S B w s last → mE G1 (m + 23) (9 * s + last) = nI (vM 100000 (bst (gO (oP S B w) (FF (oP S B w) f) s (some last) (pc s)) k)) →
    WP (d + 1) 119 Q 157 [some (va_rf (some m)), some (.int h3), some (.int h4), some (.int (nI al)), some (.int (nI s)), some (.int (nI last)), some (.int (nI k)), o7, o8, o9, o10] [] G1 z 0 0 := by
  intro n
  induction n with
  | zero =>
    intro k G1 hk hK hv
    obtain ⟨hE, k2, k3, k4⟩ := id hK
    have hm := hE.1.1
    have h9 := hE.2.1
    have h1 := hE.2.2.2.1
    rw [e_119_157]
    simp only [ent, entL, isL_int, isL_rf, isL_long, locS, List.length_cons, List.length_nil, List.cons_append, List.nil_append, List.replicate_succ, List.replicate_zero, Bool.false_eq_true, if_false, if_true, true_and, and_true, Nat.reduceAdd, Nat.reduceSub, Nat.reduceLeDiff, Nat.zero_le, Nat.le_refl, Nat.zero_add, Nat.add_zero, bI_0, bI_1, bI_n, Nat.reduceEqDiff, false_and, and_false, and_self, e_119_159, e_119_160, e_119_163, hm, h1, n_le (show B.length < 2 ^ 31 by omega) (show k < 2 ^ 31 by omega), show B.length ≤ k by omega]
    refine hR G1 _ ⟨hE, k2, fun l q1 q2 q3 => ?_, k4⟩
    by_cases e : l = last
    · subst e
      rw [hv]
      congr 1
      unfold rV
      rw [show (oP S B w).1 - pc s = f + 1 by show B.length - pc s = f + 1; omega, FF, show (oP S B w).1 - (f + 1) = pc s by show B.length - (f + 1) = pc s; omega, show (oP S B w).1 = k by show B.length = k; omega]
      cases bst (gO (oP S B w) (FF (oP S B w) f) s (some l) (pc s)) k with
      | none => rfl
      | some q => rfl
    · exact k3 l (by omega) q2 q3
  | succ n ih =>
    intro k G1 hk hK hv
    obtain ⟨hE, k2, k3, k4⟩ := id hK
    have hm := hE.1.1
    have h9 := hE.2.1
    have h1 := hE.2.2.2.1
    have h512 := p9 (show B.length < 10 by omega)
    have hkn : k < B.length := by omega
    have ih := ih (k + 1)
    have hb := gO_R (P := oP S B w) (f := f) (s := s) (place := pc s) (lo := some last) (by omega)
    have hvM := vR_le (k := k) hb
    rw [e_119_157]
    by_cases c1 : s.testBit k = true
    · rw [bst_no (gO_n (fun q => by rw [c1] at q; exact absurd q.1 (by decide)))] at ih
      simp only [ent, entL, isL_int, isL_rf, isL_long, locS, List.length_cons, List.length_nil, List.cons_append, List.nil_append, List.replicate_succ, List.replicate_zero, Bool.false_eq_true, if_false, if_true, true_and, and_true, Nat.reduceAdd, Nat.reduceSub, Nat.reduceLeDiff, Nat.zero_le, Nat.le_refl, Nat.zero_add, Nat.add_zero, bI_0, bI_1, bI_n, Nat.reduceEqDiff, false_and, and_false, and_self, e_119_159, e_119_160, e_119_163, e_119_166, e_119_168, e_119_169, e_119_172, e_119_174, e_119_176, e_119_177, e_119_178, e_119_179, e_119_180, e_119_258, e_119_261, hm, h1, n_le (show B.length < 2 ^ 31 by omega) (show k < 2 ^ 31 by omega), show ¬ B.length ≤ k by omega, n_eq (show s < 2 ^ 31 by omega) (show al < 2 ^ 31 by omega), hal, bs1 (show k < 9 by omega) c1, n_1]
      exact ih G1 (by omega) hK hv
    · have c1 : s.testBit k = false := by simpa using c1
      simp only [ent, entL, isL_int, isL_rf, isL_long, locS, List.length_cons, List.length_nil, List.cons_append, List.nil_append, List.replicate_succ, List.replicate_zero, Bool.false_eq_true, if_false, if_true, true_and, and_true, Nat.reduceAdd, Nat.reduceSub, Nat.reduceLeDiff, Nat.zero_le, Nat.le_refl, Nat.zero_add, Nat.add_zero, bI_0, bI_1, bI_n, Nat.reduceEqDiff, false_and, and_false, and_self, e_119_159, e_119_160, e_119_163, e_119_166, e_119_168, e_119_169, e_119_172, e_119_174, e_119_176, e_119_177, e_119_178, e_119_179, e_119_180, e_119_183, e_119_184, e_119_186, e_119_188, hm, h1, n_le (show B.length < 2 ^ 31 by omega) (show k < 2 ^ 31 by omega), show ¬ B.length ≤ k by omega, n_eq (show s < 2 ^ 31 by omega) (show al < 2 ^ 31 by omega), hal, bs0 (show k < 9 by omega) c1, show ¬ (0 : Int32) = 1 by decide]
      refine r_manyS (by omega) ?_
      have em : ∀ Q' : Rt, CALL (d + 1) 117 [va_rf (some m), .int (nI k), .int (nI (pc s)), .int (nI last)] G1 z Q' = Q' (some (.int (bI ((oP S B w).2.1 k (pc s) = true ∧ okO (oP S B w) (some last) k = true)))) G1 z := fun Q' => r_mayLie hE (lo := some last) hkn (by omega) (fun a e => by cases e; exact hl)
      simp only [ent, entL, isL_int, isL_rf, isL_long, locS, List.length_cons, List.length_nil, List.cons_append, List.nil_append, List.replicate_succ, List.replicate_zero, Bool.false_eq_true, if_false, if_true, true_and, and_true, Nat.reduceAdd, Nat.reduceSub, Nat.reduceLeDiff, Nat.zero_le, Nat.le_refl, Nat.zero_add, Nat.add_zero, bI_0, bI_1, bI_n, Nat.reduceEqDiff, false_and, and_false, and_self, e_119_191, e_119_193, e_119_196, e_119_199, hm, em]
      by_cases c2 : (oP S B w).2.1 k (pc s) = true ∧ okO (oP S B w) (some last) k = true
      · have hpc := pc_or (show s < 512 by omega) (show k < 9 by omega) c1
        have hor := or_lt hs2 hkn
        have hv2 : mE G1 (m + 23) (9 * (s ||| 2 ^ k) + k) = nI ((FF (oP S B w) f (s ||| 2 ^ k) (some k)).getD 100000) := by
          have := k2 (s ||| 2 ^ k) k (or_gt c1) hor hkn (by rw [or_bit]; simp)
          unfold rV at this
          rw [hpc, show (oP S B w).1 - (pc s + 1) = f by show B.length - (pc s + 1) = f; omega] at this
          exact this
        have hst := bst_step hb (gO_v (P := oP S B w) (F := FF (oP S B w) f) (set := s) (lo := some last) (place := pc s) (k := k) (M := 100000) c1 c2.1 c2.2)
        have hg := FFr (P := oP S B w) (f := f) (s := s ||| 2 ^ k) (lo := some k) (by omega)
        have hw2 := wt_le (P := oP S B w) (lo := some last) (k := k)
        rw [hst] at ih
        rw [if_neg (fun q => q c2)]
        simp only [ent, entL, isL_int, isL_rf, isL_long, locS, List.length_cons, List.length_nil, List.cons_append, List.nil_append, List.replicate_succ, List.replicate_zero, Bool.false_eq_true, if_false, if_true, true_and, and_true, Nat.reduceAdd, Nat.reduceSub, Nat.reduceLeDiff, Nat.zero_le, Nat.le_refl, Nat.zero_add, Nat.add_zero, bI_0, bI_1, bI_n, Nat.reduceEqDiff, false_and, and_false, and_self, e_119_202, e_119_203, e_119_206, e_119_208, e_119_210, e_119_211, e_119_213, e_119_214, e_119_215, e_119_218, e_119_220, e_119_222, e_119_223, e_119_225, e_119_226, e_119_227, e_119_228, e_119_230, e_119_232, e_119_235, e_119_236, e_119_239, e_119_241, e_119_243, e_119_244, e_119_246, e_119_247, e_119_248, e_119_249, e_119_251, e_119_252, e_119_253, e_119_254, e_119_257, e_119_258, e_119_261, hm, show (9 : Int32) = nI 9 from rfl, n_mul, n_add, n_in (show 9 * s + last < 4608 by omega) (by decide), n_cl (show 9 * s + last < 2 ^ 31 by omega), hv, r_wait hE hl hkn, one_sh (show k < 10 by omega), n_or, n_in (show 9 * (s ||| 2 ^ k) + k < 4608 by omega) (by decide), n_cl (show 9 * (s ||| 2 ^ k) + k < 2 ^ 31 by omega), hv2, true_or, n_1, n_lt (show wtO (oP S B w) (some last) k + (FF (oP S B w) f (s ||| 2 ^ k) (some k)).getD 100000 < 2 ^ 31 by omega) (show vM 100000 (bst (gO (oP S B w) (FF (oP S B w) f) s (some last) (pc s)) k) < 2 ^ 31 by omega)]
        refine ih _ (by omega) (hK.pE (by omega)) ?_
        simp only [memS, and_self, if_true]
        by_cases c3 : wtO (oP S B w) (some last) k + (FF (oP S B w) f (s ||| 2 ^ k) (some k)).getD 100000 < vM 100000 (bst (gO (oP S B w) (FF (oP S B w) f) s (some last) (pc s)) k)
        · rw [if_pos c3, if_pos c3]; rfl
        · rw [if_neg c3, if_neg c3]
      · rw [bst_no (gO_n (fun q => c2 q.2))] at ih
        rw [if_pos c2]
        simp only [ent, entL, isL_int, isL_rf, isL_long, locS, List.length_cons, List.length_nil, List.cons_append, List.nil_append, List.replicate_succ, List.replicate_zero, Bool.false_eq_true, if_false, if_true, true_and, and_true, Nat.reduceAdd, Nat.reduceSub, Nat.reduceLeDiff, Nat.zero_le, Nat.le_refl, Nat.zero_add, Nat.add_zero, bI_0, bI_1, bI_n, Nat.reduceEqDiff, false_and, and_false, and_self, e_119_258, e_119_261, n_1]
        exact ih G1 (by omega) hK hv
set_option maxRecDepth 8000 in
theorem l_last8 {d z s : Nat} {h3 h4 : Int32} {Q : Rt} (hs0 : 0 < s) (hs2 : s < 2 ^ B.length)
    (hR : ∀ G' o5 o6, EM G' m S B w → RLs G' m (oP S B w) (s - 1) → TM m G G' → WP (d + 1) 119 Q 270 [some (va_rf (some m)), some (.int h3), some (.int h4), some (.int (nI (2 ^ B.length - 1))), some (.int (nI s)), some (.int o5), o6, o7, o8, o9, o10] [] G' z 0 0) : ∀ (n last : Nat) (G1 : Mem) (o6 : Option Value), last + n = B.length → KI G G1 m S B w s last →
    WP (d + 1) 119 Q 107 [some (va_rf (some m)), some (.int h3), some (.int h4), some (.int (nI (2 ^ B.length - 1))), some (.int (nI s)), some (.int (nI last)), o6, o7, o8, o9, o10] [] G1 z 0 0 := by
  intro n
  induction n with
  | zero =>
    intro last G1 o6 hn hK
    obtain ⟨hE, k2, k3, k4⟩ := id hK
    have hm := hE.1.1
    have h9 := hE.2.1
    have h1 := hE.2.2.2.1
    rw [e_119_107]
    simp only [ent, entL, isL_int, isL_rf, isL_long, locS, List.length_cons, List.length_nil, List.cons_append, List.nil_append, List.replicate_succ, List.replicate_zero, Bool.false_eq_true, if_false, if_true, true_and, and_true, Nat.reduceAdd, Nat.reduceSub, Nat.reduceLeDiff, Nat.zero_le, Nat.le_refl, Nat.zero_add, Nat.add_zero, bI_0, bI_1, bI_n, Nat.reduceEqDiff, false_and, and_false, and_self, e_119_109, e_119_110, e_119_113, hm, h1, n_le (show B.length < 2 ^ 31 by omega) (show last < 2 ^ 31 by omega), show B.length ≤ last by omega]
    refine hR G1 _ _ hE (fun s' l q1 q2 q3 q4 => ?_) k4
    by_cases e : s' = s
    · subst e; exact k3 l (by have : l < B.length := q3; omega) q3 q4
    · exact k2 s' l (by omega) q2 q3 q4
  | succ n ih =>
    intro last G1 o6 hn hK
    obtain ⟨hE, k2, k3, k4⟩ := id hK
    have hm := hE.1.1
    have h9 := hE.2.1
    have h1 := hE.2.2.2.1
    have h512 := p9 (show B.length < 10 by omega)
    have hpc := pc_f (show B.length < 10 by omega) hs2
    have hl : last < B.length := by omega
    have ih := ih (last + 1)
    rw [e_119_107]
    by_cases c1 : s.testBit last = true
    · simp only [ent, entL, isL_int, isL_rf, isL_long, locS, List.length_cons, List.length_nil, List.cons_append, List.nil_append, List.replicate_succ, List.replicate_zero, Bool.false_eq_true, if_false, if_true, true_and, and_true, Nat.reduceAdd, Nat.reduceSub, Nat.reduceLeDiff, Nat.zero_le, Nat.le_refl, Nat.zero_add, Nat.add_zero, bI_0, bI_1, bI_n, Nat.reduceEqDiff, false_and, and_false, and_self, e_119_109, e_119_110, e_119_113, e_119_116, e_119_118, e_119_120, e_119_121, e_119_122, e_119_123, e_119_126, e_119_129, e_119_130, e_119_133, e_119_135, e_119_137, e_119_138, e_119_140, e_119_141, e_119_143, e_119_144, e_119_147, e_119_148, e_119_151, hm, h1, n_le (show B.length < 2 ^ 31 by omega) (show last < 2 ^ 31 by omega), show ¬ B.length ≤ last by omega, bs1 (show last < 9 by omega) c1, show ¬ (1 : Int32) = 0 by decide, show (9 : Int32) = nI 9 from rfl, n_mul, n_add, n_eq (show s < 2 ^ 31 by omega) (show 2 ^ B.length - 1 < 2 ^ 31 by omega)]
      by_cases c2 : s = 2 ^ B.length - 1
      · rw [if_pos c2]
        simp only [ent, entL, isL_int, isL_rf, isL_long, locS, List.length_cons, List.length_nil, List.cons_append, List.nil_append, List.replicate_succ, List.replicate_zero, Bool.false_eq_true, if_false, if_true, true_and, and_true, Nat.reduceAdd, Nat.reduceSub, Nat.reduceLeDiff, Nat.zero_le, Nat.le_refl, Nat.zero_add, Nat.add_zero, bI_0, bI_1, bI_n, Nat.reduceEqDiff, false_and, and_false, and_self, e_119_153, e_119_154, e_119_155, hm, n_in (show 9 * s + last < 4608 by omega) (by decide), n_cl (show 9 * s + last < 2 ^ 31 by omega)]
        rw [e_119_157]
        have hK2 := hK.pE (v := 0) (show last < 9 by omega)
        have e0 : mE (pE G1 (m + 23) (9 * s + last) 0) (m + 23) (9 * s + last) = 0 := by simp [memS]
        generalize pE G1 (m + 23) (9 * s + last) 0 = G2 at hK2 e0
        have hm2 := hK2.1.1.1
        have h12 := hK2.1.2.2.2.1
        simp only [ent, entL, isL_int, isL_rf, isL_long, locS, List.length_cons, List.length_nil, List.cons_append, List.nil_append, List.replicate_succ, List.replicate_zero, Bool.false_eq_true, if_false, if_true, true_and, and_true, Nat.reduceAdd, Nat.reduceSub, Nat.reduceLeDiff, Nat.zero_le, Nat.le_refl, Nat.zero_add, Nat.add_zero, bI_0, bI_1, bI_n, Nat.reduceEqDiff, false_and, and_false, and_self, e_119_159, e_119_160, e_119_163, e_119_166, e_119_168, e_119_169, e_119_264, e_119_267, hm2, h12, n_le (show B.length < 2 ^ 31 by omega) (show 0 < 2 ^ 31 by decide), n_eq (show s < 2 ^ 31 by omega) (show 2 ^ B.length - 1 < 2 ^ 31 by omega), n_1, show (0 : Int32) = nI 0 from rfl, show ¬ B.length ≤ 0 by omega]
        rw [if_pos c2]
        refine ih G2 _ (by omega) ⟨hK2.1, hK2.2.1, fun l q1 q2 q3 => ?_, hK2.2.2.2⟩
        by_cases e : l = last
        · subst e
          rw [e0]
          unfold rV
          rw [show (oP S B w).1 - pc s = 0 by show B.length - pc s = 0; have := hpc.2.1.mpr c2; omega]
          rfl
        · exact hK2.2.2.1 l (by omega) q2 q3
      · rw [if_neg c2]
        have hlt : pc s < B.length := by
          have := hpc.1
          have h : ¬ pc s = B.length := fun q => c2 (hpc.2.1.mp q)
          omega
        simp only [ent, entL, isL_int, isL_rf, isL_long, locS, List.length_cons, List.length_nil, List.cons_append, List.nil_append, List.replicate_succ, List.replicate_zero, Bool.false_eq_true, if_false, if_true, true_and, and_true, Nat.reduceAdd, Nat.reduceSub, Nat.reduceLeDiff, Nat.zero_le, Nat.le_refl, Nat.zero_add, Nat.add_zero, bI_0, bI_1, bI_n, Nat.reduceEqDiff, false_and, and_false, and_self, e_119_153, e_119_154, e_119_155, hm, n_in (show 9 * s + last < 4608 by omega) (by decide), n_cl (show 9 * s + last < 2 ^ 31 by omega)]
        refine l_k8 (G := G) (f := B.length - pc s - 1) hs2 hl (by omega) c2 (by omega) (fun G2 o6 hK2 => ?_) B.length 0 _ (by omega) (hK.pE (v := 100000) (by omega)) (by simp [memS]; rfl)
        simp only [ent, entL, isL_int, isL_rf, isL_long, locS, List.length_cons, List.length_nil, List.cons_append, List.nil_append, List.replicate_succ, List.replicate_zero, Bool.false_eq_true, if_false, if_true, true_and, and_true, Nat.reduceAdd, Nat.reduceSub, Nat.reduceLeDiff, Nat.zero_le, Nat.le_refl, Nat.zero_add, Nat.add_zero, bI_0, bI_1, bI_n, Nat.reduceEqDiff, false_and, and_false, and_self, e_119_264, e_119_267, n_1]
        exact ih G2 _ (by omega) hK2
    · have c1 : s.testBit last = false := by simpa using c1
      simp only [ent, entL, isL_int, isL_rf, isL_long, locS, List.length_cons, List.length_nil, List.cons_append, List.nil_append, List.replicate_succ, List.replicate_zero, Bool.false_eq_true, if_false, if_true, true_and, and_true, Nat.reduceAdd, Nat.reduceSub, Nat.reduceLeDiff, Nat.zero_le, Nat.le_refl, Nat.zero_add, Nat.add_zero, bI_0, bI_1, bI_n, Nat.reduceEqDiff, false_and, and_false, and_self, e_119_109, e_119_110, e_119_113, e_119_116, e_119_118, e_119_120, e_119_121, e_119_122, e_119_123, e_119_126, e_119_264, e_119_267, hm, h1, n_le (show B.length < 2 ^ 31 by omega) (show last < 2 ^ 31 by omega), show ¬ B.length ≤ last by omega, bs0 (show last < 9 by omega) c1, n_1]
      refine ih G1 _ (by omega) ⟨hE, k2, fun l q1 q2 q3 => ?_, k4⟩
      by_cases e : l = last
      · subst e; rw [c1] at q3; cases q3
      · exact k3 l (by omega) q2 q3
set_option maxRecDepth 8000 in
theorem l_set8 {d z : Nat} {h3 h4 : Int32} {Q : Rt}
    (hR : ∀ G' o5 o6, EM G' m S B w → RLs G' m (oP S B w) 0 → TM m G G' → WP (d + 1) 119 Q 276 [some (va_rf (some m)), some (.int h3), some (.int h4), some (.int (nI (2 ^ B.length - 1))), some (.int (nI 0)), o5, o6, o7, o8, o9, o10] [] G' z 0 0) : ∀ (s : Nat) (G1 : Mem) (o5 o6 : Option Value), s < 2 ^ B.length → EM G1 m S B w → RLs G1 m (oP S B w) s → TM m G G1 →
    WP (d + 1) 119 Q 99 [some (va_rf (some m)), some (.int h3), some (.int h4), some (.int (nI (2 ^ B.length - 1))), some (.int (nI s)), o5, o6, o7, o8, o9, o10] [] G1 z 0 0 := by
  intro s
  induction s with
  | zero =>
    intro G1 o5 o6 hs2 hE hL hF
    rw [e_119_99]
    simp only [ent, entL, isL_int, isL_rf, isL_long, locS, List.length_cons, List.length_nil, List.cons_append, List.nil_append, List.replicate_succ, List.replicate_zero, Bool.false_eq_true, if_false, if_true, true_and, and_true, Nat.reduceAdd, Nat.reduceSub, Nat.reduceLeDiff, Nat.zero_le, Nat.le_refl, Nat.zero_add, Nat.add_zero, bI_0, bI_1, bI_n, Nat.reduceEqDiff, false_and, and_false, and_self, e_119_101, show nI 0 ≤ 0 by decide]
    exact hR G1 _ _ hE hL hF
  | succ s ih =>
    intro G1 o5 o6 hs2 hE hL hF
    have h9 := hE.2.1
    have h512 := p9 (show B.length < 10 by omega)
    have e0 : ¬ nI (s + 1) ≤ 0 := by rw [show (0 : Int32) = nI 0 from rfl, n_le (by omega) (by decide)]; omega
    rw [e_119_99]
    simp only [ent, entL, isL_int, isL_rf, isL_long, locS, List.length_cons, List.length_nil, List.cons_append, List.nil_append, List.replicate_succ, List.replicate_zero, Bool.false_eq_true, if_false, if_true, true_and, and_true, Nat.reduceAdd, Nat.reduceSub, Nat.reduceLeDiff, Nat.zero_le, Nat.le_refl, Nat.zero_add, Nat.add_zero, bI_0, bI_1, bI_n, Nat.reduceEqDiff, false_and, and_false, and_self, e_119_101, e_119_104, e_119_105, e0]
    refine l_last8 (G := G) (d := d) (by omega) hs2 (fun G2 o5 o6 hE2 hL2 hF2 => ?_) B.length 0 G1 _ (by omega) ⟨hE, hL, fun l q => by omega, hF⟩
    have e1 : nI (s + 1) + -1 = nI s := by rw [← Int32.sub_eq_add_neg, n_pred (by omega)]; rfl
    simp only [ent, entL, isL_int, isL_rf, isL_long, locS, List.length_cons, List.length_nil, List.cons_append, List.nil_append, List.replicate_succ, List.replicate_zero, Bool.false_eq_true, if_false, if_true, true_and, and_true, Nat.reduceAdd, Nat.reduceSub, Nat.reduceLeDiff, Nat.zero_le, Nat.le_refl, Nat.zero_add, Nat.add_zero, bI_0, bI_1, bI_n, Nat.reduceEqDiff, false_and, and_false, and_self, e_119_270, e_119_273, e1]
    exact ih G2 _ _ (by omega) hE2 hL2 hF2
end
