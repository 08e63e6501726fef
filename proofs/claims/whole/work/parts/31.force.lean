/-! the class: the contract in force -/
theorem lastC_s {S : St} {t : Nat} : ∀ {n c : Nat}, lastC S t n = some c → c < n ∧ sC S 0 c = t
  | 0, c, h => by cases h
  | n + 1, c, h => by
    unfold lastC at h
    split at h
    · cases h; exact ⟨by omega, by assumption⟩
    · have := lastC_s h
      exact ⟨by omega, this.2⟩
theorem inF_none {S : St} {t w k : Nat} : ∀ {n : Nat}, lastC S t n = none → inF S t w k n = none
  | 0, _ => rfl
  | n + 1, h => by
    unfold lastC at h
    split at h
    · cases h
    · rename_i hq
      unfold inF
      rw [if_neg (fun q => hq q.1)]
      exact inF_none h
theorem inF_some {S : St} {t w k : Nat} : ∀ {n c : Nat}, lastC S t n = some c → inF S t w k n = inF S t w k (c + 1)
  | 0, c, h => by cases h
  | n + 1, c, h => by
    unfold lastC at h
    split at h
    · cases h; rfl
    · rename_i hq
      rw [show inF S t w k (n + 1) = inF S t w k n by
        rw [inF, if_neg (fun q => hq q.1)]]
      exact inF_some h
theorem inF_lt {S : St} {t w k : Nat} : ∀ {n b : Nat}, inF S t w k n = some b → b < n ∧ sC S 0 b = t
  | 0, b, h => by cases h
  | n + 1, b, h => by
    unfold inF at h
    split at h
    · cases h; rename_i hq; exact ⟨by omega, hq.1⟩
    · have := inF_lt h
      exact ⟨by omega, this.2⟩
def comb (S : St) (f r : Option Nat) : Option Nat := match f with
  | none => r
  | some a => match r with
    | none => some a
    | some b => if sC S 1 a < sC S 1 b then some b else some a
section X
variable {G : Mem} {x : Nat} {ta ha ca : Nat → Nat} {S : St}
set_option maxRecDepth 8000 in
theorem l_contractIn (hX : RX G x ta ha ca S) (hI : Inv S) {d z i w k : Nat} {R : Rt} {o : Option Value} (hw : w < 60) (hk : k < 60) : ∀ (n : Nat), n ≤ sN S 3 → ∀ (f : Option Nat) (o5 : Option Value), (∀ b, f = some b → b < sN S 3) → R (some (va_rf ((comb S f (inF S i w k n)).map ca))) G z →
    WP d 47 R 8 [o, some (.int (nI w)), some (.int (nI k)), some (va_rf (f.map ca)), some (va_rf ((lastC S i n).map ca)), o5] [] G z 0 0 := by
  intro n
  induction n using Nat.strongRecOn with
  | ind n ih =>
  intro hn f o5 hf hr
  rw [e_47_8]
  cases hl : lastC S i n with
  | none =>
    rw [inF_none hl] at hr
    simp only [ent, entL, isL_int, isL_rf, isL_long, locS, List.length_cons, List.length_nil, List.cons_append, List.nil_append, List.replicate_succ, List.replicate_zero, Bool.false_eq_true, if_false, if_true, true_and, and_true, Nat.reduceAdd, Nat.reduceSub, Nat.reduceLeDiff, Nat.zero_le, Nat.le_refl, Nat.zero_add, Nat.add_zero, bI_0, bI_1, bI_n, Nat.reduceEqDiff, false_and, and_false, and_self, e_47_0, e_47_1, e_47_2, e_47_3, e_47_6, e_47_10, e_47_13, e_47_15, e_47_18, e_47_19, e_47_22, e_47_24, e_47_27, e_47_28, e_47_31, e_47_32, e_47_35, e_47_36, e_47_38, e_47_40, e_47_43, e_47_44, e_47_47, e_47_49, e_47_52, e_47_53, e_47_56, e_47_59, e_47_61, e_47_62, e_47_64, e_47_67, e_47_69, e_47_72, e_47_73, Option.map_none]
    cases f with
    | none => exact hr
    | some a => exact hr
  | some c =>
    obtain ⟨hcn, hct⟩ := lastC_s hl
    have hc3 : c < sN S 3 := by omega
    obtain ⟨g1, g2, g3, g4, g5, -⟩ := hX.2.2.2.2.1 c hc3
    obtain ⟨-, b1, b2, -⟩ := hI.2.2.2.2.2.2.2.1 c hc3
    rw [hct] at g5
    have e1 : (nI k < nI (sC S 2 c)) = (k < sC S 2 c) := n_lt (by omega) (by omega)
    have e2 : (nI w < nI (sC S 1 c)) = (w < sC S 1 c) := n_lt (by omega) (by omega)
    have go : ∀ (f' : Option Nat) (o5 : Option Value), (∀ b, f' = some b → b < sN S 3) → comb S f' (inF S i w k c) = comb S f (inF S i w k n) → WP d 47 R 8 [o, some (.int (nI w)), some (.int (nI k)), some (va_rf (f'.map ca)), some (va_rf ((lastC S i c).map ca)), o5] [] G z 0 0 := fun f' o5 h1 h2 => ih c hcn (by omega) f' o5 h1 (by rw [h2]; exact hr)
    rw [inF_some hl] at go
    have hstep : inF S i w k (c + 1) = if sC S 2 c ≤ k ∧ sC S 1 c ≤ w ∧ leO S (inF S i w k c) c = true then some c else inF S i w k c := by
      rw [inF]; simp only [hct, true_and]
    simp only [ent, entL, isL_int, isL_rf, isL_long, locS, List.length_cons, List.length_nil, List.cons_append, List.nil_append, List.replicate_succ, List.replicate_zero, Bool.false_eq_true, if_false, if_true, true_and, and_true, Nat.reduceAdd, Nat.reduceSub, Nat.reduceLeDiff, Nat.zero_le, Nat.le_refl, Nat.zero_add, Nat.add_zero, bI_0, bI_1, bI_n, Nat.reduceEqDiff, false_and, and_false, and_self, e_47_0, e_47_1, e_47_2, e_47_3, e_47_6, e_47_10, e_47_13, e_47_15, e_47_18, e_47_19, e_47_22, e_47_24, e_47_27, e_47_28, e_47_31, e_47_32, e_47_35, e_47_36, e_47_38, e_47_40, e_47_43, e_47_44, e_47_47, e_47_49, e_47_52, e_47_53, e_47_56, e_47_59, e_47_61, e_47_62, e_47_64, e_47_67, e_47_69, e_47_72, e_47_73, Option.map_some, g1, g3, g4, g5, e1, e2, reduceCtorEq]
    by_cases q1 : k < sC S 2 c
    · simp only [q1, if_true]
      refine go f _ hf ?_
      rw [hstep, if_neg (fun q => by omega)]
    · by_cases q2 : w < sC S 1 c
      · simp only [q1, q2, if_true, if_false]
        refine go f _ hf ?_
        rw [hstep, if_neg (fun q => by omega)]
      · simp only [q1, q2, if_false]
        simp only [show ¬ ((1 : Int32) = 0) by decide, if_false]
        cases f with
        | none =>
          simp only [Option.map_none, if_true]
          refine go (some c) _ (fun b hb => by cases hb; exact hc3) ?_
          rw [hstep]
          cases hq : inF S i w k c with
          | none => simp [comb, leO, show sC S 2 c ≤ k by omega, show sC S 1 c ≤ w by omega]
          | some b =>
            simp only [comb, leO, show sC S 2 c ≤ k by omega, show sC S 1 c ≤ w by omega, true_and, decide_eq_true_eq]
            by_cases q3 : sC S 1 b ≤ sC S 1 c
            · rw [if_neg (by omega), if_pos q3]
            · rw [if_pos (by omega), if_neg q3]
        | some a =>
          have ha3 := hf a rfl
          obtain ⟨a1, a2, a3, a4, a5, -⟩ := hX.2.2.2.2.1 a ha3
          obtain ⟨-, c1, c2, -⟩ := hI.2.2.2.2.2.2.2.1 a ha3
          have e3 : (nI (sC S 1 c) ≤ nI (sC S 1 a)) = (sC S 1 c ≤ sC S 1 a) := n_le (by omega) (by omega)
          simp only [ent, entL, isL_int, isL_rf, isL_long, locS, List.length_cons, List.length_nil, List.cons_append, List.nil_append, List.replicate_succ, List.replicate_zero, Bool.false_eq_true, if_false, if_true, true_and, and_true, Nat.reduceAdd, Nat.reduceSub, Nat.reduceLeDiff, Nat.zero_le, Nat.le_refl, Nat.zero_add, Nat.add_zero, bI_0, bI_1, bI_n, Nat.reduceEqDiff, false_and, and_false, and_self, e_47_0, e_47_1, e_47_2, e_47_3, e_47_6, e_47_10, e_47_13, e_47_15, e_47_18, e_47_19, e_47_22, e_47_24, e_47_27, e_47_28, e_47_31, e_47_32, e_47_35, e_47_36, e_47_38, e_47_40, e_47_43, e_47_44, e_47_47, e_47_49, e_47_52, e_47_53, e_47_56, e_47_59, e_47_61, e_47_62, e_47_64, e_47_67, e_47_69, e_47_72, e_47_73, Option.map_some, reduceCtorEq, a1, a3, g1, g3, g5, e3]
          by_cases q3 : sC S 1 c ≤ sC S 1 a
          · simp only [q3, if_true]
            refine go (some a) _ hf ?_
            rw [hstep]
            cases hq : inF S i w k c with
            | none => simp [comb, leO, show sC S 2 c ≤ k by omega, show sC S 1 c ≤ w by omega, show ¬ sC S 1 a < sC S 1 c by omega]
            | some b =>
              simp only [comb, leO, show sC S 2 c ≤ k by omega, show sC S 1 c ≤ w by omega, true_and, decide_eq_true_eq]
              by_cases q4 : sC S 1 b ≤ sC S 1 c
              · rw [if_neg (by omega), if_pos q4]
                simp only []
                rw [if_neg (by omega)]
              · rw [if_neg q4]
          · simp only [q3, if_false]
            refine go (some c) _ (fun b hb => by cases hb; exact hc3) ?_
            rw [hstep]
            cases hq : inF S i w k c with
            | none => simp [comb, leO, show sC S 2 c ≤ k by omega, show sC S 1 c ≤ w by omega, show sC S 1 a < sC S 1 c by omega]
            | some b =>
              simp only [comb, leO, show sC S 2 c ≤ k by omega, show sC S 1 c ≤ w by omega, true_and, decide_eq_true_eq]
              by_cases q4 : sC S 1 b ≤ sC S 1 c
              · rw [if_neg (by omega), if_pos q4]
                simp only []
                rw [if_pos (by omega)]
              · rw [if_neg q4, if_pos (by omega)]
                simp only []
                rw [if_pos (by omega)]
set_option maxRecDepth 8000 in
theorem s_contractIn (hX : RX G x ta ha ca S) (hI : Inv S) {d z i w k : Nat} {Q : Rt} (hi : i < sN S 1) (hw : w < 60) (hk : k < 60) (h : Q (some (va_rf ((frc S i w k).map ca))) G z) : CALL (d + 1) 47 [va_rf (some (ta i)), .int (nI w), .int (nI k)] G z Q := by
  obtain ⟨-, -, t3, -, -, -, -, -, -, -, -, -, t13, -⟩ := hX.2.2.1 i hi
  rw [CALL_eq]
  simp only [mxE_47, ent, entL, isL_int, isL_rf, isL_long, locS, List.length_cons, List.length_nil, List.cons_append, List.nil_append, List.replicate_succ, List.replicate_zero, Bool.false_eq_true, if_false, if_true, true_and, and_true, Nat.reduceAdd, Nat.reduceSub, Nat.reduceLeDiff, Nat.zero_le, Nat.le_refl, Nat.zero_add, Nat.add_zero, bI_0, bI_1, bI_n, Nat.reduceEqDiff, false_and, and_false, and_self, e_47_0, e_47_1, e_47_2, e_47_3, e_47_6, e_47_10, e_47_13, e_47_15, e_47_18, e_47_19, e_47_22, e_47_24, e_47_27, e_47_28, e_47_31, e_47_32, e_47_35, e_47_36, e_47_38, e_47_40, e_47_43, e_47_44, e_47_47, e_47_49, e_47_52, e_47_53, e_47_56, e_47_59, e_47_61, e_47_62, e_47_64, e_47_67, e_47_69, e_47_72, e_47_73, t3, t13]
  exact l_contractIn hX hI hw hk (sN S 3) (Nat.le_refl _) none _ (fun b hb => by cases hb) h
/-- the contract's list -/
theorem stO_ch (hX : RX G x ta ha ca S) {t w k c : Nat} (h : frc S t w k = some c) : c < sN S 3 ∧ mK G (ca c) = 2 ∧ SCh G (mR G 2 4 (ca c)) (stO S (some c)).reverse := by
  have hc := (inF_lt h).1
  obtain ⟨g1, -, -, -, -, g6⟩ := hX.2.2.2.2.1 c hc
  exact ⟨hc, g1, g6⟩
theorem n_m1' {a : Nat} (h : a < 2 ^ 31) (v : Int32) : (v ≤ nI a - 1) = (v < nI a) := by
  rw [show (1 : Int32) = nI 1 from rfl]
  by_cases h0 : 1 ≤ a
  · rw [n_sub h0]
    refine propext ⟨fun q => ?_, fun q => ?_⟩
    · rw [i_le, nI_toInt (by omega)] at q
      rw [i_lt, nI_toInt h]; omega
    · rw [i_lt, nI_toInt h] at q
      rw [i_le, nI_toInt (by omega)]; omega
  · have : a = 0 := by omega
    subst this
    refine propext ⟨fun q => ?_, fun q => ?_⟩
    · rw [i_le] at q; rw [i_lt]
      have e : (nI 0 - nI 1).toInt = -1 := by decide
      have e2 : (nI 0).toInt = 0 := by decide
      omega
    · rw [i_lt] at q; rw [i_le]
      have e : (nI 0 - nI 1).toInt = -1 := by decide
      have e2 : (nI 0).toInt = 0 := by decide
      omega
/-- an index among n: as a Nat, or none -/
def ix (v : Int32) (n : Nat) : Option Nat := if 0 ≤ v ∧ v < nI n then some v.toNatClampNeg else none
theorem ix_s {v : Int32} {n k : Nat} (hn : n < 2 ^ 31) (h : ix v n = some k) : k < n ∧ v = nI k := by
  unfold ix at h
  split at h
  · rename_i hv
    obtain ⟨q, hq, rfl⟩ := n_rng' hn hv.1 hv.2
    rw [n_cl (by omega)] at h
    cases h
    exact ⟨hq, rfl⟩
  · cases h
theorem ix_n {n k : Nat} (hn : n < 2 ^ 31) (h : k < n) : ix (nI k) n = some k := by
  unfold ix
  rw [if_pos ⟨nI_pos' (by omega), nI_lt h hn⟩, n_cl (by omega)]
theorem ix_c {v : Int32} {n : Nat} (hn : n < 2 ^ 31) : (0 ≤ v ∧ v < nI n) = ((ix v n).isSome = true) := by
  unfold ix
  by_cases h : 0 ≤ v ∧ v < nI n
  · simp [h]
  · simp [h]
set_option maxRecDepth 8000 in
theorem s_turnAt (hX : RX G x ta ha ca S) (hI : Inv S) {d z : Nat} {v : Int32} {Q : Rt} : CALL (d + 2) 71 [va_rf (some x), .int v] G z Q = Q (some (va_rf ((ix v (sN S 1)).map ta))) G z := by
  have hs := hX.1
  have hn := hX.2.1
  have h40 := hI.2.1
  rw [CALL_eq]
  simp only [mxE_71, ent, entL, isL_int, isL_rf, isL_long, locS, List.length_cons, List.length_nil, List.cons_append, List.nil_append, List.replicate_succ, List.replicate_zero, Bool.false_eq_true, if_false, if_true, true_and, and_true, Nat.reduceAdd, Nat.reduceSub, Nat.reduceLeDiff, Nat.zero_le, Nat.le_refl, Nat.zero_add, Nat.add_zero, bI_0, bI_1, bI_n, Nat.reduceEqDiff, false_and, and_false, and_self, e_71_0, e_71_1, e_71_2, e_71_3, e_71_6, e_71_7, e_71_8, e_71_11, e_71_14, e_71_15, e_71_18, e_71_19, e_71_20, e_71_23, e_71_24, s_isWithin, hs, hn, n_m1' (show sN S 1 < 2 ^ 31 by omega), ix_c (show sN S 1 < 2 ^ 31 by omega), or_true]
  cases hq : ix v (sN S 1) with
  | none => simp only [Option.isSome_none, Bool.false_eq_true, not_false_iff, if_true, Option.map_none]
  | some k =>
    obtain ⟨hk, rfl⟩ := ix_s (by omega) hq
    have hT := (hX.2.2.1 k hk).1
    simp only [Option.isSome_some, not_true, if_false, Option.map_some, n_in (show k < 40 by omega) (by decide), n_cl (show k < 2 ^ 31 by omega), hT, true_and]
set_option maxRecDepth 8000 in
theorem s_hallAt (hX : RX G x ta ha ca S) (hI : Inv S) {d z : Nat} {v : Int32} {Q : Rt} : CALL (d + 2) 72 [va_rf (some x), .int v] G z Q = Q (some (va_rf ((ix v (sN S 2)).map ha))) G z := by
  have hs := hX.1
  have hn := hX.2.1
  have h40 := hI.2.2.1
  rw [CALL_eq]
  simp only [mxE_72, ent, entL, isL_int, isL_rf, isL_long, locS, List.length_cons, List.length_nil, List.cons_append, List.nil_append, List.replicate_succ, List.replicate_zero, Bool.false_eq_true, if_false, if_true, true_and, and_true, Nat.reduceAdd, Nat.reduceSub, Nat.reduceLeDiff, Nat.zero_le, Nat.le_refl, Nat.zero_add, Nat.add_zero, bI_0, bI_1, bI_n, Nat.reduceEqDiff, false_and, and_false, and_self, e_72_0, e_72_1, e_72_2, e_72_3, e_72_6, e_72_7, e_72_8, e_72_11, e_72_14, e_72_15, e_72_18, e_72_19, e_72_20, e_72_23, e_72_24, s_isWithin, hs, hn, n_m1' (show sN S 2 < 2 ^ 31 by omega), ix_c (show sN S 2 < 2 ^ 31 by omega), true_or]
  cases hq : ix v (sN S 2) with
  | none => simp only [Option.isSome_none, Bool.false_eq_true, not_false_iff, if_true, Option.map_none]
  | some k =>
    obtain ⟨hk, rfl⟩ := ix_s (by omega) hq
    have hT := (hX.2.2.2.1 k hk).1
    simp only [Option.isSome_some, not_true, if_false, Option.map_some, n_in (show k < 10 by omega) (by decide), n_cl (show k < 2 ^ 31 by omega), hT, true_and]
end X
