/-! THE REFERENCE: bill -/
section
variable {G : Mem} {m : Nat} {S : St}
theorem blP_get {h w k : Nat} (hp : sP S k w = some h) : ∀ n, k < n → (blP S h w n)[(blP S h w k).length]? = some k ∧ (blP S h w k).length < (blP S h w n).length
  | 0, q => by omega
  | n + 1, q => by
    by_cases e : k = n
    · subst e
      rw [blP_s, if_pos hp]
      refine ⟨?_, by simp⟩
      rw [List.getElem?_append_right (Nat.le_refl _)]; simp
    · obtain ⟨h1, h2⟩ := blP_get hp n (by omega)
      rw [blP_s, List.length_append]
      refine ⟨?_, by omega⟩
      rw [List.getElem?_append_left h2]; exact h1
/-- the answer of bill at a hall and a week -/
def bV (S : St) (h w : Nat) (wh : Int32) : Int32 := if wh = 0 then nI (bl S h w).length else if wh = 1 then sumL (sI S 0) (bl S h w) else if wh = 2 then sI S 7 h * (if 40 + sumL (dwS S) (bl S h w) < 100 then 40 + sumL (dwS S) (bl S h w) else 100) / 100
      else if wh = 3 then sumL (pyS S w (sN S 0)) (bl S h w) else if wh = 4 then sumL (tpS S) (bl S h w) else if wh < 10 then -1 else match (ix (wh - 10) (bl S h w).length).bind fun k => (bl S h w)[k]? with | none => -1 | some t => nI t
theorem bV_at {h w k : Nat} (hk : k < sN S 1) (h40 : sN S 1 ≤ 40) (hp : sP S k w = some h) (hl : (bl S h w).length ≤ 9) : bV S h w (nI (10 + (blP S h w k).length)) = nI k := by
  obtain ⟨q1, q2⟩ := blP_get hp (sN S 1) hk
  have q1 : (bl S h w)[(blP S h w k).length]? = some k := q1
  have q2 : (blP S h w k).length < (bl S h w).length := q2
  unfold bV
  have e : ∀ j, j < 5 → ¬ nI (10 + (blP S h w k).length) = nI j := fun j hj => by rw [n_eq (by omega) (by omega)]; omega
  rw [show (0 : Int32) = nI 0 from rfl, show (1 : Int32) = nI 1 from rfl, show (2 : Int32) = nI 2 from rfl, show (3 : Int32) = nI 3 from rfl, show (4 : Int32) = nI 4 from rfl, if_neg (e 0 (by omega)), if_neg (e 1 (by omega)), if_neg (e 2 (by omega)), if_neg (e 3 (by omega)), if_neg (e 4 (by omega)), show (10 : Int32) = nI 10 from rfl,
    if_neg (by rw [n_lt (by omega) (by decide)]; omega), n_sub (by omega), Nat.add_sub_cancel_left, ix_n (by omega) q2, Option.bind_some, q1]
theorem bV_no {h w : Nat} {wh : Int32} (h0 : ¬ wh = 0) (h1 : ¬ wh = 1) (h2 : ¬ wh = 2) (h3 : ¬ wh = 3) (h4 : ¬ wh = 4) (hl : (bl S h w).length ≤ 9) (hn : ∀ j, j < (bl S h w).length → ¬ wh = nI (10 + j)) : bV S h w wh = -1 := by
  unfold bV
  rw [if_neg h0, if_neg h1, if_neg h2, if_neg h3, if_neg h4]
  split
  · rfl
  · cases hq : ix (wh - 10) (bl S h w).length with
    | none => rfl
    | some j =>
      obtain ⟨q1, q2⟩ := ix_s (by omega) hq
      refine absurd ?_ (hn j q1)
      rw [Nat.add_comm, ← n_add, ← q2]
      exact (Int32.sub_add_cancel wh 10).symm
set_option maxRecDepth 8000 in
set_option maxHeartbeats 1000000 in
theorem l_bill8 (hM : RM G m S) (hI : Inv S) {d z h w : Nat} {wh : Int32} {R : Rt} (hh : h < sN S 2) (hw : w < 60) (hR : R (some (.int (bV S h w wh))) G z) : ∀ (n k : Nat), k + n = sN S 1 → (∀ j, j < (blP S h w k).length → ¬ wh = nI (10 + j)) →
    WP (d + 2) 116 R 40 [some (va_rf (some m)), some (.int (nI h)), some (.int (nI w)), some (.int wh), some (.int (nI (blP S h w k).length)), some (.int (sumL (sI S 0) (blP S h w k))), some (.int (40 + sumL (dwS S) (blP S h w k))), some (.int (sumL (pyS S w (sN S 0)) (blP S h w k))), some (.int (sumL (tpS S) (blP S h w k))), some (.int (nI k))] [] G z 0 0 := by
  have hm := hM.1
  have hn := hM.2.1
  have h40 := hI.2.1
  have h10 := hI.2.2.1
  have h59 := hI.1
  have hl9 := hI.2.2.2.2.2.2.2.2.1 h w
  obtain ⟨a0, a1, a2, a3, a4, a5, a6, a7, -⟩ := hM.2.2.1
  intro n
  induction n with
  | zero =>
    intro k hk hno
    have hk : k = sN S 1 := by omega
    subst hk
    have hno : ∀ j, j < (bl S h w).length → ¬ wh = nI (10 + j) := hno
    rw [e_116_40]
    simp only [ent, entL, isL_int, isL_rf, isL_long, locS, List.length_cons, List.length_nil, List.cons_append, List.nil_append, List.replicate_succ, List.replicate_zero, Bool.false_eq_true, if_false, if_true, true_and, and_true, Nat.reduceAdd, Nat.reduceSub, Nat.reduceLeDiff, Nat.zero_le, Nat.le_refl, Nat.zero_add, Nat.add_zero, bI_0, bI_1, bI_n, Nat.reduceEqDiff, false_and, and_false, and_self, e_116_42, e_116_43, e_116_46, e_116_49, e_116_50, e_116_52, e_116_53, e_116_56, e_116_57, e_116_60, e_116_63, e_116_64, e_116_66, e_116_68, e_116_69, e_116_72, e_116_74, e_116_75, e_116_78, e_116_80, e_116_81, e_116_84, e_116_86, e_116_87, e_116_88, e_116_90, e_116_92, e_116_93, e_116_94, e_116_96, e_116_97, e_116_98, e_116_101, e_116_104, e_116_105, e_116_108, e_116_109, e_116_111, e_116_112, e_116_115, e_116_117, e_116_118, e_116_119, e_116_122, e_116_125, e_116_128, e_116_130, e_116_131, e_116_134, e_116_136, e_116_137, e_116_138, e_116_140, e_116_143, e_116_146, e_116_147, e_116_150, e_116_152, e_116_155, e_116_156, e_116_157, e_116_160, e_116_162, e_116_165, e_116_166, e_116_167, e_116_170, e_116_171, e_116_174, e_116_175, e_116_176, e_116_178, e_116_180, e_116_183, e_116_184, e_116_186, e_116_187, e_116_190, e_116_191, e_116_192, e_116_195, e_116_197, e_116_200, e_116_201, e_116_202, e_116_205, e_116_207, e_116_210, e_116_211, hm, hn, n_le (show sN S 1 < 2 ^ 31 by omega) (show sN S 1 < 2 ^ 31 by omega), Nat.le_refl, if_true, n_in (show h < 10 by omega) (by decide), n_cl (show h < 2 ^ 31 by omega), a7, true_or]
    rw [show blP S h w (sN S 1) = bl S h w from rfl]
    by_cases w0 : wh = 0
    · simp only [w0, bV, if_true] at hR ⊢; exact hR
    · by_cases w1 : wh = 1
      · subst w1
        exact hR
      · by_cases w2 : wh = 2
        · subst w2
          exact ⟨by decide, hR⟩
        · by_cases w3 : wh = 3
          · subst w3; exact hR
          · by_cases w4 : wh = 4
            · subst w4; exact hR
            · rw [bV_no w0 w1 w2 w3 w4 hl9 hno] at hR
              simp only [w0, w1, w2, w3, w4, if_false]
              exact hR
  | succ n ih =>
    intro k hk hno
    have hk4 : k < 40 := by omega
    rw [e_116_40]
    simp only [ent, entL, isL_int, isL_rf, isL_long, locS, List.length_cons, List.length_nil, List.cons_append, List.nil_append, List.replicate_succ, List.replicate_zero, Bool.false_eq_true, if_false, if_true, true_and, and_true, Nat.reduceAdd, Nat.reduceSub, Nat.reduceLeDiff, Nat.zero_le, Nat.le_refl, Nat.zero_add, Nat.add_zero, bI_0, bI_1, bI_n, Nat.reduceEqDiff, false_and, and_false, and_self, e_116_42, e_116_43, e_116_46, e_116_49, e_116_50, e_116_52, e_116_53, e_116_56, e_116_57, e_116_60, e_116_63, e_116_64, e_116_66, e_116_68, e_116_69, e_116_72, e_116_74, e_116_75, e_116_78, e_116_80, e_116_81, e_116_84, e_116_86, e_116_87, e_116_88, hm, hn, n_le (show sN S 1 < 2 ^ 31 by omega) (show k < 2 ^ 31 by omega), show ¬ sN S 1 ≤ k by omega, if_false, r_hallOf hM hk4 hw, pInt_n (o := sP S k w) (show h < 2 ^ 31 by omega) (fun c hc => by have := (hI.2.2.2.2.2.2.1 k w c hc).2; omega), n_1, show (10 : Int32) = nI 10 from rfl, n_add, n_in hk4 (by decide), n_cl (show k < 2 ^ 31 by omega), a0, true_or]
    by_cases hp : sP S k w = some h
    · simp only [hp, if_true]
      by_cases he : wh = nI (10 + (blP S h w k).length)
      · rw [he, bV_at (by omega) h40 hp hl9] at hR
        simp only [he, if_true]
        exact hR
      · have nx := ih (k + 1) (by omega) (by
          intro j hj
          rw [blP_s, if_pos hp, List.length_append] at hj
          by_cases ej : j = (blP S h w k).length
          · subst ej; exact he
          · exact hno j (by simp at hj; omega))
        simp only [blP_s, hp, if_true, sumL_app, List.length_append, List.length_singleton] at nx
        simp only [he, if_false, ent, entL, isL_int, isL_rf, isL_long, locS, List.length_cons, List.length_nil, List.cons_append, List.nil_append, List.replicate_succ, List.replicate_zero, Bool.false_eq_true, if_false, if_true, true_and, and_true, Nat.reduceAdd, Nat.reduceSub, Nat.reduceLeDiff, Nat.zero_le, Nat.le_refl, Nat.zero_add, Nat.add_zero, bI_0, bI_1, bI_n, Nat.reduceEqDiff, false_and, and_false, and_self, e_116_90, e_116_92, e_116_93, e_116_94, e_116_96, e_116_97, e_116_98, e_116_101, e_116_104, e_116_105, e_116_108, e_116_109, e_116_111, e_116_112, e_116_115, e_116_117, e_116_118, e_116_119, e_116_122, e_116_125, e_116_128, e_116_130, e_116_131, e_116_134, e_116_136, e_116_137, e_116_138, e_116_140, e_116_143, hm, hn]
        refine r_inForce hM hI (by omega) hw (by omega) ?_
        simp only [ent, entL, isL_int, isL_rf, isL_long, locS, List.length_cons, List.length_nil, List.cons_append, List.nil_append, List.replicate_succ, List.replicate_zero, Bool.false_eq_true, if_false, if_true, true_and, and_true, Nat.reduceAdd, Nat.reduceSub, Nat.reduceLeDiff, Nat.zero_le, Nat.le_refl, Nat.zero_add, Nat.add_zero, bI_0, bI_1, bI_n, Nat.reduceEqDiff, false_and, and_false, and_self, e_116_90, e_116_92, e_116_93, e_116_94, e_116_96, e_116_97, e_116_98, e_116_101, e_116_104, e_116_105, e_116_108, e_116_109, e_116_111, e_116_112, e_116_115, e_116_117, e_116_118, e_116_119, e_116_122, e_116_125, e_116_128, e_116_130, e_116_131, e_116_134, e_116_136, e_116_137, e_116_138, e_116_140, e_116_143, hm]
        refine r_lastOf hM hI frc_lt ?_
        simp only [ent, entL, isL_int, isL_rf, isL_long, locS, List.length_cons, List.length_nil, List.cons_append, List.nil_append, List.replicate_succ, List.replicate_zero, Bool.false_eq_true, if_false, if_true, true_and, and_true, Nat.reduceAdd, Nat.reduceSub, Nat.reduceLeDiff, Nat.zero_le, Nat.le_refl, Nat.zero_add, Nat.add_zero, bI_0, bI_1, bI_n, Nat.reduceEqDiff, false_and, and_false, and_self, e_116_90, e_116_92, e_116_93, e_116_94, e_116_96, e_116_97, e_116_98, e_116_101, e_116_104, e_116_105, e_116_108, e_116_109, e_116_111, e_116_112, e_116_115, e_116_117, e_116_118, e_116_119, e_116_122, e_116_125, e_116_128, e_116_130, e_116_131, e_116_134, e_116_136, e_116_137, e_116_138, e_116_140, e_116_143, hm, n_in hk4 (by decide), n_cl (show k < 2 ^ 31 by omega), a1, a3, n_1, true_or]
        by_cases hk1 : sI S 1 k = 1
        · simp only [dwS, tpS, hk1, if_true, ← Int32.add_assoc] at nx
          simp only [hk1, if_true]
          exact nx
        · have z0 : ∀ x : Int32, x + 0 = x := fun x => by simp
          have e1 : tpS S k = 0 := by simp [tpS, hk1]
          have e2 : dwS S k = 0 := by simp [dwS, hk1]
          simp only [e1, e2, z0] at nx
          simp only [hk1, if_false]
          exact nx
    · have nx := ih (k + 1) (by omega) (by
        intro j hj
        rw [blP_s, if_neg hp, List.append_nil] at hj
        exact hno j hj)
      simp only [blP_s, hp, if_false, List.append_nil] at nx
      simp only [hp, if_false, ent, entL, isL_int, isL_rf, isL_long, locS, List.length_cons, List.length_nil, List.cons_append, List.nil_append, List.replicate_succ, List.replicate_zero, Bool.false_eq_true, if_false, if_true, true_and, and_true, Nat.reduceAdd, Nat.reduceSub, Nat.reduceLeDiff, Nat.zero_le, Nat.le_refl, Nat.zero_add, Nat.add_zero, bI_0, bI_1, bI_n, Nat.reduceEqDiff, false_and, and_false, and_self, e_116_140, e_116_143, n_1]
      exact nx
set_option maxRecDepth 8000 in
theorem d_bill (hM : RM G m S) (hI : Inv S) {d z : Nat} {h w wh : Int32} {Q : Rt} (hq : Q (some (.int (opBill S h w wh))) G z) : CALL (d + 3) 116 [va_rf (some m), .int h, .int w, .int wh] G z Q := by
  have hm := hM.1
  rw [CALL_eq]
  simp only [mxE_116, ent, entL, isL_int, isL_rf, isL_long, locS, List.length_cons, List.length_nil, List.cons_append, List.nil_append, List.replicate_succ, List.replicate_zero, Bool.false_eq_true, if_false, if_true, true_and, and_true, Nat.reduceAdd, Nat.reduceSub, Nat.reduceLeDiff, Nat.zero_le, Nat.le_refl, Nat.zero_add, Nat.add_zero, bI_0, bI_1, bI_n, Nat.reduceEqDiff, false_and, and_false, and_self, e_116_0, e_116_1, e_116_2, e_116_5, e_116_8, e_116_9, e_116_12, e_116_15, e_116_16, e_116_19, e_116_20, e_116_21, e_116_22, e_116_24, e_116_25, e_116_27, e_116_29, e_116_31, e_116_32, e_116_34, e_116_35, e_116_37, e_116_38, r_isHall hM hI, r_isWeek, hm]
  unfold opBill at hq
  cases hh : ix h (sN S 2) with
  | none => rw [hh] at hq; simp only [Option.isSome_none, Bool.false_eq_true, not_false_iff, if_true]; exact hq
  | some j =>
    obtain ⟨hj, rfl⟩ := ix_s (by have := hI.2.2.1; omega) hh
    rw [hh] at hq
    simp only [Option.isSome_some, not_true, if_false]
    cases hw : ix w 60 with
    | none => rw [hw] at hq; simp only [Option.isSome_none, Bool.false_eq_true, not_false_iff, if_true]; exact hq
    | some w' =>
      rw [hw] at hq
      obtain ⟨hw1, rfl⟩ := ix_s (by decide) hw
      simp only [Option.isSome_some, not_true, if_false]
      have hq : Q (some (.int (bV S j w' wh))) G z := hq
      have hl9 := hI.2.2.2.2.2.2.2.2.1 j w'
      by_cases h0 : 0 ≤ wh
      · simp only [h0, if_true]
        exact l_bill8 hM hI hj hw1 hq (sN S 1) 0 (by omega) (fun j hj => by exact absurd hj (Nat.not_lt_zero _))
      · simp only [h0, if_false]
        have e : ∀ k, k < 2 ^ 31 → ¬ wh = nI k := fun k hk q => h0 (by rw [q, n_pos hk]; trivial)
        rw [bV_no (e 0 (by decide)) (e 1 (by decide)) (e 2 (by decide)) (e 3 (by decide)) (e 4 (by decide)) hl9 (fun j hj => e _ (by omega))] at hq
        exact hq
end
