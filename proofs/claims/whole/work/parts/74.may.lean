/-! the class's order: who may stand where -/
def wsh (S : St) (w t : Nat) : Int32 := lastN (stO S (frc S t w (sN S 0))) 5
def mayS (S : St) (B : List Nat) (w k p : Nat) : Bool := decide ((sI S 1 (B.getD k 0) = 2 → p = 0 ∨ p = B.length - 1) ∧ (1 ≤ wsh S w (B.getD k 0) ∧ wsh S w (B.getD k 0) ≤ nI B.length → nI p = wsh S w (B.getD k 0) - 1))
def oP (S : St) (B : List Nat) (w : Nat) : OP := (B.length, mayS S B w, (fun k => decide (sI S 1 (B.getD k 0) = 3)), fun k => decide (¬ sI S 5 (B.getD k 0) = 0))
/-- nothing but who may stand, and of which kind he is, has changed -/
def VX (x : Nat) (G G' : Mem) : Prop := (∀ a, mK G' a = mK G a) ∧ (∀ a, mN G' a = mN G a) ∧ (∀ c k a, mI G' c k a = mI G c k a) ∧ (∀ c k a, mR G' c k a = mR G c k a) ∧ (∀ a i, ¬ (x + 7 ≤ a ∧ a ≤ x + 9) → mE G' a i = mE G a i) ∧ ∀ a i, mQ G' a i = mQ G a i
section
variable {G : Mem} {x : Nat}
theorem VX.rf : VX x G G := ⟨fun _ => rfl, fun _ => rfl, fun _ _ _ => rfl, fun _ _ _ => rfl, fun _ _ _ => rfl, fun _ _ => rfl⟩
theorem VX.tr {G1 G2 : Mem} (h : VX x G G1) (h2 : VX x G1 G2) : VX x G G2 :=
  ⟨fun a => (h2.1 a).trans (h.1 a), fun a => (h2.2.1 a).trans (h.2.1 a), fun c k a => (h2.2.2.1 c k a).trans (h.2.2.1 c k a), fun c k a => (h2.2.2.2.1 c k a).trans (h.2.2.2.1 c k a), fun a i q => (h2.2.2.2.2.1 a i q).trans (h.2.2.2.2.1 a i q), fun a i => (h2.2.2.2.2.2 a i).trans (h.2.2.2.2.2 a i)⟩
theorem VX.pE {a i : Nat} {v : Int32} (ha : x + 7 ≤ a ∧ a ≤ x + 9) : VX x G (pE G a i v) := ⟨fun _ => rfl, fun _ => rfl, fun _ _ _ => rfl, fun _ _ _ => rfl, fun b k q => by
  have : ¬ b = a := fun e => q (by omega)
  simp [memS, this], fun _ _ => rfl⟩
theorem VX.sx {G' : Mem} (h : VX x G G') : SX x G G' := ⟨h.1, h.2.1, fun c k a _ => h.2.2.1 c k a, h.2.2.2.1, fun a i q => h.2.2.2.2.1 a i (by omega), fun a i _ => h.2.2.2.2.2 a i⟩
theorem BillOK.vx {G' : Mem} {ta : Nat → Nat} {l : List Nat} (h : BillOK G x ta l) (q : VX x G G') : BillOK G' x ta l := ⟨by rw [q.2.2.1]; exact h.1, h.2.1, fun k t hk => by rw [q.2.2.2.2.2]; exact h.2.2 k t hk⟩
theorem XS.vx {G' : Mem} (h : XS G x) (q : VX x G G') : XS G' x := by
  simp only [XS, q.1, q.2.1, q.2.2.2.1]; exact h
variable {o5 o6 o7 o8 o9 o10 o11 : Option Value}
set_option maxRecDepth 8000 in
theorem l_w1 (hs : XS G x) {d z n w kn : Nat} {Q : Rt} (hn : n ≤ 9) (h1 : mI G 0 5 (x + 6) = nI n) (hR : ∀ G', VX x G G' → (∀ q, q < n → mE G' (x + 9) q = 0) → WP (d + 2) 3 Q 26 [some (va_rf (some (x + 6))), some (va_rf (some (x + 4))), some (.int (nI w)), some (.int (nI kn)), some (.int (nI n)), o5, o6, o7, o8, o9, o10, o11] [] G' z 0 0) : ∀ (k p : Nat) (G1 : Mem), p + k = n → VX x G G1 → (∀ q, q < p → mE G1 (x + 9) q = 0) →
    WP (d + 2) 3 Q 3 [some (va_rf (some (x + 6))), some (va_rf (some (x + 4))), some (.int (nI w)), some (.int (nI kn)), some (.int (nI p)), o5, o6, o7, o8, o9, o10, o11] [] G1 z 0 0 := by
  intro k
  induction k with
  | zero =>
    intro p G1 hp hF hq
    have hs1 := hs.vx hF
    have hp : p = n := by omega
    subst hp
    rw [e_3_3]
    simp only [ent, entL, isL_int, isL_rf, isL_long, locS, List.length_cons, List.length_nil, List.cons_append, List.nil_append, List.replicate_succ, List.replicate_zero, Bool.false_eq_true, if_false, if_true, true_and, and_true, Nat.reduceAdd, Nat.reduceSub, Nat.reduceLeDiff, Nat.zero_le, Nat.le_refl, Nat.zero_add, Nat.add_zero, bI_0, bI_1, bI_n, Nat.reduceEqDiff, false_and, and_false, and_self, e_3_5, e_3_6, e_3_9, hs1, hF.2.2.1, h1, n_le (show p < 2 ^ 31 by omega) (show p < 2 ^ 31 by omega)]
    exact hR G1 hF hq
  | succ k ih =>
    intro p G1 hp hF hq
    have hs1 := hs.vx hF
    rw [e_3_3]
    simp only [ent, entL, isL_int, isL_rf, isL_long, locS, List.length_cons, List.length_nil, List.cons_append, List.nil_append, List.replicate_succ, List.replicate_zero, Bool.false_eq_true, if_false, if_true, true_and, and_true, Nat.reduceAdd, Nat.reduceSub, Nat.reduceLeDiff, Nat.zero_le, Nat.le_refl, Nat.zero_add, Nat.add_zero, bI_0, bI_1, bI_n, Nat.reduceEqDiff, false_and, and_false, and_self, e_3_5, e_3_6, e_3_9, e_3_12, e_3_13, e_3_16, e_3_18, e_3_19, e_3_20, e_3_23, hs1, hF.2.2.1, h1, n_le (show n < 2 ^ 31 by omega) (show p < 2 ^ 31 by omega), show ¬ n ≤ p by omega, n_in (show p < 9 by omega) (by decide), n_cl (show p < 2 ^ 31 by omega), n_1]
    refine ih (p + 1) _ (by omega) (hF.tr (VX.pE (by omega))) fun q hq1 => ?_
    by_cases e : q = p
    · subst e; simp [memS]
    · simp [memS, e]; exact hq q (by omega)
set_option maxRecDepth 8000 in
theorem l_w3 (hs : XS G x) {d z n w kn i : Nat} {r5 r7 : Option Nat} {dm bd : Bool} {told : Int32} {A : Nat → Nat → Bool} {mb : Nat → Bool} {Q : Rt} (hn : n ≤ 9) (h1 : mI G 0 5 (x + 6) = nI n) (hi : i < n) (hmb : ∀ p, p < n → mb p = decide ((dm = true → p = 0 ∨ p = n - 1) ∧ (bd = true → nI p = told - 1)))
    (hR : ∀ G' o10 o11, VX x G G' → (∀ a k, ¬ a = x + 9 → mE G' a k = mE G a k) → (∀ p j, p < n → j < 9 → bt (mE G' (x + 9) p) j = (A p j || (decide (j = i) && mb p))) → WP (d + 2) 3 Q 244 [some (va_rf (some (x + 6))), some (va_rf (some (x + 4))), some (.int (nI w)), some (.int (nI kn)), some (.int (nI i)), some (va_rf r5), some (.int (bI (dm = true))), some (va_rf r7), some (.int told), some (.int (bI (bd = true))), o10, o11] [] G' z 0 0) : ∀ (k q : Nat) (G1 : Mem) (o11 : Option Value), q + k = n → VX x G G1 → (∀ a k, ¬ a = x + 9 → mE G1 a k = mE G a k) → (∀ p j, p < n → j < 9 → bt (mE G1 (x + 9) p) j = (A p j || (decide (p < q) && (decide (j = i) && mb p)))) →
    WP (d + 2) 3 Q 168 [some (va_rf (some (x + 6))), some (va_rf (some (x + 4))), some (.int (nI w)), some (.int (nI kn)), some (.int (nI i)), some (va_rf r5), some (.int (bI (dm = true))), some (va_rf r7), some (.int told), some (.int (bI (bd = true))), some (.int (nI q)), o11] [] G1 z 0 0 := by
  intro k
  induction k with
  | zero =>
    intro q G1 o11 hp hF hE hq
    have hs1 := hs.vx hF
    have hp : q = n := by omega
    subst hp
    rw [e_3_168]
    simp only [ent, entL, isL_int, isL_rf, isL_long, locS, List.length_cons, List.length_nil, List.cons_append, List.nil_append, List.replicate_succ, List.replicate_zero, Bool.false_eq_true, if_false, if_true, true_and, and_true, Nat.reduceAdd, Nat.reduceSub, Nat.reduceLeDiff, Nat.zero_le, Nat.le_refl, Nat.zero_add, Nat.add_zero, bI_0, bI_1, bI_n, Nat.reduceEqDiff, false_and, and_false, and_self, e_3_170, e_3_171, e_3_174, hs1, hF.2.2.1, h1, n_le (show q < 2 ^ 31 by omega) (show q < 2 ^ 31 by omega)]
    refine hR G1 _ _ hF hE fun p j hp hj => ?_
    rw [hq p j hp hj]
    simp [hp]
  | succ k ih =>
    intro q G1 o11 hp hF hE hq
    have hs1 := hs.vx hF
    have ih := ih (q + 1)
    have hqn : q < n := by omega
    have e0 : (nI q = 0) = (q = 0) := n_eq (b := 0) (by omega) (by decide)
    have yes : ∀ o11, mb q = true → WP (d + 2) 3 Q 168 [some (va_rf (some (x + 6))), some (va_rf (some (x + 4))), some (.int (nI w)), some (.int (nI kn)), some (.int (nI i)), some (va_rf r5), some (.int (bI (dm = true))), some (va_rf r7), some (.int told), some (.int (bI (bd = true))), some (.int (nI (q + 1))), o11] [] (pE G1 (x + 9) q (mE G1 (x + 9) q ||| nI (2 ^ i))) z 0 0 := fun o11 hm => by
      refine ih _ _ (by omega) (hF.tr (VX.pE (by omega))) (fun a k ha => by simp [memS, ha]; exact hE a k ha) fun p j hpn hj => ?_
      by_cases e : p = q
      · subst e
        simp only [memS, and_self, if_true]
        rw [bt_or, hq p j hpn hj, bt_n hj, Nat.testBit_two_pow, hm, show decide (p < p) = false by simp, show decide (p < p + 1) = true by simp, Bool.false_and, Bool.or_false, Bool.true_and, Bool.and_true]
        congr 1
        simp [eq_comm]
      · simp only [memS, e, and_false, if_false]
        rw [hq p j hpn hj]
        congr 2
        simp only [decide_eq_decide]
        omega
    have no : ∀ o11, mb q = false → WP (d + 2) 3 Q 168 [some (va_rf (some (x + 6))), some (va_rf (some (x + 4))), some (.int (nI w)), some (.int (nI kn)), some (.int (nI i)), some (va_rf r5), some (.int (bI (dm = true))), some (va_rf r7), some (.int told), some (.int (bI (bd = true))), some (.int (nI (q + 1))), o11] [] G1 z 0 0 := fun o11 hm => by
      refine ih _ _ (by omega) hF hE fun p j hpn hj => ?_
      rw [hq p j hpn hj]
      by_cases e : p = q
      · subst e
        rw [hm]; simp
      · congr 2
        simp only [decide_eq_decide]
        omega
    have hmq := hmb q hqn
    rw [e_3_168]
    simp only [ent, entL, isL_int, isL_rf, isL_long, locS, List.length_cons, List.length_nil, List.cons_append, List.nil_append, List.replicate_succ, List.replicate_zero, Bool.false_eq_true, if_false, if_true, true_and, and_true, Nat.reduceAdd, Nat.reduceSub, Nat.reduceLeDiff, Nat.zero_le, Nat.le_refl, Nat.zero_add, Nat.add_zero, bI_0, bI_1, bI_n, Nat.reduceEqDiff, false_and, and_false, and_self, e_3_170, e_3_171, e_3_174, e_3_177, e_3_179, e_3_182, e_3_184, e_3_185, e_3_188, e_3_189, e_3_190, e_3_193, e_3_194, e_3_197, e_3_198, e_3_200, e_3_202, e_3_205, e_3_207, e_3_210, e_3_212, e_3_215, e_3_217, e_3_219, e_3_220, e_3_221, e_3_224, e_3_225, e_3_228, e_3_230, e_3_231, e_3_232, e_3_233, e_3_235, e_3_236, e_3_237, e_3_238, e_3_241, hs1, hF.2.2.1, h1, n_le (show n < 2 ^ 31 by omega) (show q < 2 ^ 31 by omega), show ¬ n ≤ q by omega, e0, n_pred (show 0 < n by omega), n_eq (show q < 2 ^ 31 by omega) (show n - 1 < 2 ^ 31 by omega), n_in (show q < 9 by omega) (by decide), n_cl (show q < 2 ^ 31 by omega), n_1, one_sh (show i < 10 by omega), show ¬ (1 : Int32) = 0 by decide, true_or]
    by_cases c1 : q = 0 ∨ q = n - 1
    · have fin : ∀ o11, (if ¬ bd = true then WP (d + 2) 3 Q 168 [some (va_rf (some (x + 6))), some (va_rf (some (x + 4))), some (.int (nI w)), some (.int (nI kn)), some (.int (nI i)), some (va_rf r5), some (.int (bI (dm = true))), some (va_rf r7), some (.int told), some (.int (bI (bd = true))), some (.int (nI (q + 1))), o11] [] (pE G1 (x + 9) q (mE G1 (x + 9) q ||| nI (2 ^ i))) z 0 0
          else if nI q = told - 1 then WP (d + 2) 3 Q 168 [some (va_rf (some (x + 6))), some (va_rf (some (x + 4))), some (.int (nI w)), some (.int (nI kn)), some (.int (nI i)), some (va_rf r5), some (.int (bI (dm = true))), some (va_rf r7), some (.int told), some (.int (bI (bd = true))), some (.int (nI (q + 1))), o11] [] (pE G1 (x + 9) q (mE G1 (x + 9) q ||| nI (2 ^ i))) z 0 0
          else WP (d + 2) 3 Q 168 [some (va_rf (some (x + 6))), some (va_rf (some (x + 4))), some (.int (nI w)), some (.int (nI kn)), some (.int (nI i)), some (va_rf r5), some (.int (bI (dm = true))), some (va_rf r7), some (.int told), some (.int (bI (bd = true))), some (.int (nI (q + 1))), o11] [] G1 z 0 0) := fun o11 => by
        by_cases c2 : bd = true
        · by_cases c3 : nI q = told - 1
          · rw [if_neg (fun q => q c2), if_pos c3]; exact yes _ (by rw [hmq, decide_eq_true_eq]; exact ⟨fun _ => c1, fun _ => c3⟩)
          · rw [if_neg (fun q => q c2), if_neg c3]; exact no _ (by rw [hmq, decide_eq_false_iff_not]; exact fun q => c3 (q.2 c2))
        · rw [if_pos c2]; exact yes _ (by rw [hmq, decide_eq_true_eq]; exact ⟨fun _ => c1, fun q => absurd q c2⟩)
      by_cases c0 : q = 0
      · rw [if_pos c0]; simp only [ite_self]; exact fin _
      · rw [if_neg c0, if_pos (c1.resolve_left c0)]; simp only [ite_self]; exact fin _
    · have c0 : ¬ q = 0 := fun e => c1 (Or.inl e)
      have c00 : ¬ q = n - 1 := fun e => c1 (Or.inr e)
      rw [if_neg c0, if_neg c00]
      by_cases cd : dm = true
      · rw [if_neg (fun q => q cd)]; exact no _ (by rw [hmq, decide_eq_false_iff_not]; exact fun q => c1 (q.1 cd))
      · rw [if_pos cd]
        by_cases c2 : bd = true
        · by_cases c3 : nI q = told - 1
          · rw [if_neg (fun q => q c2), if_pos c3]; exact yes _ (by rw [hmq, decide_eq_true_eq]; exact ⟨fun q => absurd q cd, fun _ => c3⟩)
          · rw [if_neg (fun q => q c2), if_neg c3]; exact no _ (by rw [hmq, decide_eq_false_iff_not]; exact fun q => c3 (q.2 c2))
        · rw [if_pos c2]; exact yes _ (by rw [hmq, decide_eq_true_eq]; exact ⟨fun q => absurd q cd, fun q => absurd q c2⟩)
end
