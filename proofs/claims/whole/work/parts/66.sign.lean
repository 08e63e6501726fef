/-! sign: the document's, and the class's -/
def nwC (S : St) (t f : Nat) (l : List Stm3) : St := uN (uS (uC (uC (uC S 0 (sN S 3) t) 1 (sN S 3) f) 2 (sN S 3) (sN S 0)) (sN S 3) l) 3 (sN S 3 + 1)
def clT (S : St) (v : Int32) : St := uF (uN S 5 0) v
def opSign (S : St) (t f n : Int32) : St × Int32 := match ix t (sN S 1), ix f 60, ix n (sN S 5 + 1) with
  | some t, some f, some n => if sN S 3 < 60 then (match txt (sT S) n 12 [] 0 with
    | .inl p => (clT S (nI p), -1)
    | .inr l => (nwC (clT S (-1)) t f l, nI (sN S 3))) else (S, -3)
  | _, _, _ => (S, -2)
section
variable {G G' : Mem} {x : Nat} {ta ha ca : Nat → Nat} {S : St}
theorem RX.clTp (hX : RX G x ta ha ca S) {v : Int32} : RX (pI (pI G 7 9 x 0) 7 11 x v) x ta ha ca (clT S v) := by
  obtain ⟨h1, h2, h3, h4, h5, h6, h7⟩ := hX
  have hlc : ∀ t n', lastC (uF (uN S 5 0) v) t n' = lastC S t n' := fun t n' => lastC_congr n' (fun c _ => rfl)
  have hcw : ∀ t n', cntW (uF (uN S 5 0) v) t n' = cntW S t n' := fun t n' => cntW_congr n' (fun c _ => rfl)
  show RX (pI (pI G 7 9 x 0) 7 11 x v) x ta ha ca (uF (uN S 5 0) v)
  refine ⟨?_, ?_, fun j hj => ?_, fun h hh => ?_, fun c hc => ?_, ?_, fun k => ?_⟩
  · simpa [XS, memS] using h1
  · simp only [XN] at h2 ⊢
    simp [memS, stS, h2]
    rfl
  · have hj : j < sN S 1 := by simpa [stS] using hj
    obtain ⟨g1, g2, g3, g4, g5, g6, g7, g8, g9, g10, g11, g12, g13, g14, g15, g16⟩ := h3 j hj
    simp [memS, stS, hlc, hcw, g1, g2, g3, g4, g5, g6, g7, g8, g9, g10, g11, g12, g13, g14, g15]
    exact g16
  · have hh : h < sN S 2 := by simpa [stS] using hh
    have := h4 h hh
    simpa [memS, stS] using this
  · have hc : c < sN S 3 := by simpa [stS] using hc
    obtain ⟨g1, g2, g3, g4, g5, g6⟩ := h5 c hc
    simp only [memS, stS, hlc]
    refine ⟨g1, by simpa using g2, by simpa using g3, by simpa using g4, g5, ?_⟩
    exact SCh.congr (G := G) _ _ (fun a ha5 => ⟨by simp only [memS]; exact ha5, fun k => by simp [memS], fun k => rfl⟩) g6
  · exact h6
  · simp only [memS, stS, h7]
theorem RX.newC' (hX : RX G x ta ha ca S) {a t f : Nat} {l : List Stm3} (ht : t < sN S 1) (hfr : ∀ j, j < sN S 3 → ¬ ca j = a) (k1 : mK G a = 2) (k2 : mI G 2 0 a = nI (sN S 3)) (k3 : mI G 2 1 a = nI f) (k4 : mI G 2 2 a = nI (sN S 0)) (k5 : mR G 2 3 a = (lastC S t (sN S 3)).map ca) (k6 : SCh G (mR G 2 4 a) l.reverse) :
    RX (pI (pR G 6 7 (ta t) (some a)) 7 7 x (nI (sN S 3 + 1))) x ta ha (fun c => if c = sN S 3 then a else ca c) (nwC S t f l) := by
  obtain ⟨h1, h2, h3, h4, h5, h6, h7⟩ := hX
  have hcw : ∀ t' n', cntW (nwC S t f l) t' n' = cntW S t' n' := fun t n' => cntW_congr n' (fun c _ => rfl)
  have hlc : ∀ t' n', n' ≤ sN S 3 → lastC (nwC S t f l) t' n' = lastC S t' n' := fun t' n' hn => lastC_congr n' (fun c hc => by simp [nwC, stS, show ¬ c = sN S 3 by omega])
  have hl1 : ∀ t', lastC (nwC S t f l) t' (sN S 3 + 1) = if t = t' then some (sN S 3) else lastC S t' (sN S 3) := fun t' => by
    rw [lastC, hlc t' _ (Nat.le_refl _)]
    simp [nwC, stS]
  have hmp : ∀ t' n', n' ≤ sN S 3 → (lastC S t' n').map (fun c => if c = sN S 3 then a else ca c) = (lastC S t' n').map ca := fun t' n' hn => by
    cases hp : lastC S t' n' with
    | none => rfl
    | some h => have := lastC_s hp; simp only [Option.map_some]; rw [if_neg (by omega)]
  have hcg : ∀ (r : Option Nat) (q : List Stm3), SCh G r q → SCh (pI (pR G 6 7 (ta t) (some a)) 7 7 x (nI (sN S 3 + 1))) r q := fun r q g => SCh.congr (G := G) _ _ (fun a ha5 => ⟨by simp only [memS]; exact ha5, fun k => by simp [memS], fun k => by simp [memS]⟩) g
  have hcw2 := hcw
  unfold nwC at hcw2
  refine ⟨?_, ?_, fun j hj => ?_, fun h hh => ?_, fun c hc => ?_, ?_, fun k => ?_⟩
  · simpa [XS, memS] using h1
  · simp only [XN] at h2 ⊢
    simp [nwC, memS, stS, h2]
  · have hj : j < sN S 1 := by simpa [nwC, stS] using hj
    obtain ⟨g1, g2, g3, g4, g5, g6, g7, g8, g9, g10, g11, g12, g13, g14, g15, g16⟩ := h3 j (by omega)
    have hne : ¬ ta j = x := by omega
    have hnt : (ta j = ta t) = (j = t) := propext ⟨fun q => h6.1 j t hj ht q, fun q => by rw [q]⟩
    have e3 : sN (nwC S t f l) 3 = sN S 3 + 1 := by simp [nwC, stS]
    rw [e3, hl1]
    by_cases e : j = t
    · subst e
      simp [memS, hcw2, nwC, stS, hne, g1, g2, g3, g4, g5, g6, g7, g8, g9, g10, g11, g12, g13, g14, g15]
      exact g16
    · have e' : ¬ t = j := fun q => e q.symm
      simp [memS, hcw2, nwC, stS, hne, hnt, e, e', hmp, g1, g2, g3, g4, g5, g6, g7, g8, g9, g10, g11, g12, g13, g14, g15]
      exact g16
  · have hh : h < sN S 2 := by simpa [nwC, stS] using hh
    have := h4 h hh
    simpa [memS, stS, nwC] using this
  · have hc : c < sN S 3 + 1 := by simpa [nwC, stS] using hc
    by_cases e : c = sN S 3
    · subst e
      have e1 : sC (nwC S t f l) 0 (sN S 3) = t := by simp [nwC, stS]
      have e2 : sS (nwC S t f l) (sN S 3) = l := by simp [nwC, stS]
      have e3 : sC (nwC S t f l) 1 (sN S 3) = f := by simp [nwC, stS]
      have e4 : sC (nwC S t f l) 2 (sN S 3) = sN S 0 := by simp [nwC, stS]
      rw [e1, e2, e3, e4, hlc _ _ (Nat.le_refl _), hmp _ _ (Nat.le_refl _)]
      simp only [if_true]
      refine ⟨by simpa [memS] using k1, by simpa [memS] using k2, by simpa [memS] using k3, by simpa [memS] using k4, by simpa [memS] using k5, ?_⟩
      have := hcg _ _ k6
      simpa [memS] using this
    · obtain ⟨g1, g2, g3, g4, g5, g6⟩ := h5 c (by omega)
      have e1 : ∀ k, sC (nwC S t f l) k c = sC S k c := fun k => by simp [nwC, stS, e]
      have e2 : sS (nwC S t f l) c = sS S c := by simp [nwC, stS, e]
      rw [e1, e1, e1, e2, hlc _ _ (by omega), hmp _ _ (by omega)]
      dsimp only
      rw [if_neg e]
      refine ⟨by simpa [memS] using g1, by simpa [memS] using g2, by simpa [memS] using g3, by simpa [memS] using g4, by simpa [memS] using g5, ?_⟩
      have := hcg _ _ g6
      simpa [memS] using this
  · refine ⟨h6.1, h6.2.1, fun i j hi hj => ?_⟩
    have hi : i < sN S 3 + 1 := by simpa [nwC, stS] using hi
    have hj : j < sN S 3 + 1 := by simpa [nwC, stS] using hj
    dsimp only
    split <;> split
    · intros; omega
    · intro q; exact absurd q.symm (hfr j (by omega))
    · intro q; exact absurd q (hfr i (by omega))
    · exact h6.2.2 i j (by omega) (by omega)
  · simp only [memS]; exact h7 k
/-- the reader, made -/
def rG (G : Mem) (z b : Nat) (n : Int32) : Mem := pI (pR (nO G z 3) 3 0 z (some b)) 3 1 z n
set_option maxRecDepth 8000 in
theorem s_initR {d z b n : Nat} {Q : Rt} (hb : ¬ b = z) (hk : mK G b = 21) (hn : mN G b = 600) (hl : n ≤ 600) (h : Q none (rG G z b (nI n)) (z + 1)) : CALL (d + 1) 28 [va_rf (some z), va_rf (some b), .int (nI n)] (nO G z 3) (z + 1) Q := by
  rw [CALL_eq]
  have e : (Int32.ofNat 600 < nI n) = (600 < n) := n_lt (by decide) (by omega)
  simp only [mxE_28, ent, entL, isL_int, isL_rf, isL_long, locS, List.length_cons, List.length_nil, List.cons_append, List.nil_append, List.replicate_succ, List.replicate_zero, Bool.false_eq_true, if_false, if_true, true_and, and_true, Nat.reduceAdd, Nat.reduceSub, Nat.reduceLeDiff, Nat.zero_le, Nat.le_refl, Nat.zero_add, Nat.add_zero, bI_0, bI_1, bI_n, Nat.reduceEqDiff, false_and, and_false, and_self, e_28_0, e_28_1, e_28_4, e_28_5, e_28_6, e_28_9, e_28_10, e_28_11, e_28_12, e_28_13, e_28_16, e_28_19, memS, if_true, hb, if_false, hk, hn, e, show ¬ 600 < n by omega]
  exact h
/-- the contract, made -/
def cG (G : Mem) (z : Nat) (n f w : Int32) (l r : Option Nat) : Mem := pR (pR (pI (pI (pI (nO G z 2) 2 0 z n) 2 1 z f) 2 2 z w) 2 4 z l) 2 3 z r
set_option maxRecDepth 8000 in
theorem s_initC {d z : Nat} {n f w : Int32} {l r : Option Nat} {Q : Rt} (h : Q none (cG G z n f w l r) (z + 1)) : CALL (d + 1) 22 [va_rf (some z), .int n, .int f, .int w, va_rf l, va_rf r] (nO G z 2) (z + 1) Q := by
  rw [CALL_eq]
  simp only [mxE_22, ent, entL, isL_int, isL_rf, isL_long, locS, List.length_cons, List.length_nil, List.cons_append, List.nil_append, List.replicate_succ, List.replicate_zero, Bool.false_eq_true, if_false, if_true, true_and, and_true, Nat.reduceAdd, Nat.reduceSub, Nat.reduceLeDiff, Nat.zero_le, Nat.le_refl, Nat.zero_add, Nat.add_zero, bI_0, bI_1, bI_n, Nat.reduceEqDiff, false_and, and_false, and_self, e_22_0, e_22_1, e_22_4, e_22_5, e_22_6, e_22_9, e_22_10, e_22_11, e_22_14, e_22_15, e_22_16, e_22_19, e_22_20, e_22_22, e_22_25, e_22_26, e_22_28, e_22_31, memS, if_true]
  exact h
theorem cG_ex {z : Nat} {n f w : Int32} {l r : Option Nat} : EX z G (cG G z n f w l r) := by
  intro a ha
  simp [cG, memS, show ¬ a = z by omega]
theorem cG_bd {z : Nat} {n f w : Int32} {l r : Option Nat} (h : Bd G z) : Bd (cG G z n f w l r) (z + 1) := by
  intro a
  simp only [cG, memS]
  split
  · intro; omega
  · intro q; have := h a q; omega
set_option maxRecDepth 8000 in
theorem c_sign (hX : RX G x ta ha ca S) (hI : Inv S) {d z : Nat} (hz : x + 36 ≤ z) (hB : Bd G z) (hS : StrOK G z) {t f n : Int32} {Q : Rt} (hq : ∀ G' ca' z', z ≤ z' → Bd G' z' → RX G' x ta ha ca' (opSign S t f n).1 → FO x z G G' → Q (some (.int (opSign S t f n).2)) G' z') : CALL (d + 10) 53 [va_rf (some x), .int t, .int f, .int n] G z Q := by
  have hs := hX.1
  have hn := hX.2.1
  have h40 := hI.2.1
  have h60 := hI.2.2.2.1
  have h600 := hI.2.2.2.2.2.1
  unfold opSign at hq
  rw [CALL_eq]
  simp only [mxE_53, ent, entL, isL_int, isL_rf, isL_long, locS, List.length_cons, List.length_nil, List.cons_append, List.nil_append, List.replicate_succ, List.replicate_zero, Bool.false_eq_true, if_false, if_true, true_and, and_true, Nat.reduceAdd, Nat.reduceSub, Nat.reduceLeDiff, Nat.zero_le, Nat.le_refl, Nat.zero_add, Nat.add_zero, bI_0, bI_1, bI_n, Nat.reduceEqDiff, false_and, and_false, and_self, e_53_0, e_53_1, e_53_2, e_53_5, e_53_7, e_53_9, e_53_12, e_53_13, e_53_16, e_53_19, e_53_20, e_53_23, e_53_24, e_53_25, e_53_28, e_53_31, e_53_33, e_53_34, e_53_35, e_53_38, e_53_40, e_53_43, e_53_45, s_turnAt hX hI, s_isWeek, w_ix, hs, hn]
  cases ht : ix t (sN S 1) with
  | none => rw [ht] at hq; simp only [Option.map_none, if_true]; exact hq G ca z (Nat.le_refl _) hB hX FO.rf
  | some i =>
    obtain ⟨hi, -⟩ := ix_s (by omega) ht
    rw [ht] at hq
    simp only [Option.map_some, reduceCtorEq, if_false]
    cases hf : ix f 60 with
    | none => rw [hf] at hq; simp only [Option.isSome_none, Bool.false_eq_true, not_false_iff, if_true]; exact hq G ca z (Nat.le_refl _) hB hX FO.rf
    | some f' =>
      obtain ⟨hf1, rfl⟩ := ix_s (by decide) hf
      rw [hf] at hq
      simp only [Option.isSome_some, not_true, if_false]
      cases hl : ix n (sN S 5 + 1) with
      | none =>
        rw [hl] at hq
        have hl' : ¬ (0 ≤ n ∧ n < nI (sN S 5 + 1)) := by rw [ix_c (by omega), hl]; simp
        have hq' := hq G ca z (Nat.le_refl _) hB hX FO.rf
        dsimp only at hq'
        by_cases c1 : n < 0
        · simp only [c1, if_true]; exact hq'
        · have c2 : ¬ n ≤ nI (sN S 5) := fun q => hl' ⟨by rw [← not_lt']; exact c1, by
            rw [i_lt, nI_toInt (by omega)]; rw [i_le, nI_toInt (by omega)] at q; omega⟩
          simp only [c1, c2, if_false]; exact hq'
      | some n' =>
        obtain ⟨hn1, rfl⟩ := ix_s (by omega) hl
        rw [hl] at hq
        dsimp only at hq
        simp only [n_npos (show n' < 2 ^ 31 by omega), n_le (show n' < 2 ^ 31 by omega) (show sN S 5 < 2 ^ 31 by omega), show n' ≤ sN S 5 by omega, if_true, if_false, show (60 : Int32) = nI 60 from rfl, n_lt (show sN S 3 < 2 ^ 31 by omega) (show 60 < 2 ^ 31 by decide)]
        by_cases c3 : sN S 3 < 60
        · rw [if_pos c3] at hq
          simp only [c3, if_true]
          simp only [ent, entL, isL_int, isL_rf, isL_long, locS, List.length_cons, List.length_nil, List.cons_append, List.nil_append, List.replicate_succ, List.replicate_zero, Bool.false_eq_true, if_false, if_true, true_and, and_true, Nat.reduceAdd, Nat.reduceSub, Nat.reduceLeDiff, Nat.zero_le, Nat.le_refl, Nat.zero_add, Nat.add_zero, bI_0, bI_1, bI_n, Nat.reduceEqDiff, false_and, and_false, and_self, e_53_46, e_53_49, e_53_50, e_53_51, e_53_54, e_53_55, memS, show ¬ x = z by omega, hs]
          refine s_initR (show ¬ x + 3 = z by omega) (by rw [hs.2.2.2.2.2.2.2.2.2.2.1]) (by rw [hs.2.2.2.2.2.2.2.2.2.2.2.1]) (by omega) ?_
          have hJ : RJ G z (x + 3) (sT S) n' (rG G z (x + 3) (nI n')) (z + 1) [] 0 0 := by
            refine ⟨by omega, fun a => ?_, fun a ha => ?_, ?_, ?_⟩
            · simp only [rG, memS]
              split
              · intro; omega
              · intro q; have := hB a q; omega
            · simp [rG, memS, show ¬ a = z by omega]
            · have h7 := hX.2.2.2.2.2.2
              simp [RD, rG, memS, show ¬ x + 3 = z by omega, hs, h7, show n' ≤ 600 by omega]
              decide
            · simp [rG, memS, SCh]
          have r1 : mK (rG G z (x + 3) (nI n')) z = 3 := by simp [rG, memS]
          simp only [ent, entL, isL_int, isL_rf, isL_long, locS, List.length_cons, List.length_nil, List.cons_append, List.nil_append, List.replicate_succ, List.replicate_zero, Bool.false_eq_true, if_false, if_true, true_and, and_true, Nat.reduceAdd, Nat.reduceSub, Nat.reduceLeDiff, Nat.zero_le, Nat.le_refl, Nat.zero_add, Nat.add_zero, bI_0, bI_1, bI_n, Nat.reduceEqDiff, false_and, and_false, and_self, e_53_58, e_53_60, e_53_62, r1]
          generalize rG G z (x + 3) (nI n') = G1 at hJ r1
          refine s_text (by omega) hS hJ (fun l e s G2 z2 hx hJ2 => ?_) (fun p l e G2 z2 hx hJ2 => ?_)
          · obtain ⟨j1, j2, j3, j4, j5⟩ := hJ2
            have hX2 := hX.ex hB j3
            have hs2 := hX2.1
            have hn2 := hX2.2.1
            rw [hx] at hq
            dsimp only at hq
            obtain ⟨t1, t2, t3, t4, t5, t6, t7, t8, t9, t10, t11, t12, t13, t14, t15, t16⟩ := hX2.2.2.1 i hi
            have hti : ta i < z := hB _ (by have := (hX.2.2.1 i hi).2.2.1; rw [this]; decide)
            simp only [ent, entL, isL_int, isL_rf, isL_long, locS, List.length_cons, List.length_nil, List.cons_append, List.nil_append, List.replicate_succ, List.replicate_zero, Bool.false_eq_true, if_false, if_true, true_and, and_true, Nat.reduceAdd, Nat.reduceSub, Nat.reduceLeDiff, Nat.zero_le, Nat.le_refl, Nat.zero_add, Nat.add_zero, bI_0, bI_1, bI_n, Nat.reduceEqDiff, false_and, and_false, and_self, e_53_65, e_53_67, e_53_68, e_53_69, e_53_72, e_53_74, e_53_77, e_53_78, e_53_80, e_53_83, e_53_86, e_53_87, e_53_88, e_53_89, e_53_90, e_53_93, e_53_94, e_53_97, e_53_99, e_53_101, e_53_104, e_53_105, e_53_107, e_53_108, e_53_109, e_53_112, e_53_114, e_53_117, e_53_119, e_53_122, show ¬ (1 : Int32) = 0 by decide, memS, hs2, hn2, j4.1, t3, t13, show ¬ z = z2 by omega, show ¬ x = z2 by omega, show ¬ ta i = z2 by omega]
            refine s_initC ?_
            have hX3 := hX2.clTp (v := -1)
            have hB3 : Bd (pI (pI G2 7 9 x 0) 7 11 x (-1)) z2 := fun a q => j2 a q
            have hX4 := hX3.ex hB3 (cG_ex (n := nI (sN S 3)) (f := nI f') (w := nI (sN S 0)) (l := mR G2 3 4 z) (r := (lastC S i (sN S 3)).map ca))
            have hB4 := cG_bd (n := nI (sN S 3)) (f := nI f') (w := nI (sN S 0)) (l := mR G2 3 4 z) (r := (lastC S i (sN S 3)).map ca) hB3
            have hI3 : sN (clT S (-1)) 3 = sN S 3 := by simp [clT, stS]
            have hI1 : sN (clT S (-1)) 1 = sN S 1 := by simp [clT, stS]
            have hI0 : sN (clT S (-1)) 0 = sN S 0 := by simp [clT, stS]
            have hlc : lastC (clT S (-1)) i (sN S 3) = lastC S i (sN S 3) := lastC_congr _ (fun c _ => rfl)
            have hX5 := hX4.newC' (a := z2) (t := i) (f := f') (l := l) (by rw [hI1]; exact hi) (fun j hj q => by
                rw [hI3] at hj
                have := hB (ca j) (by rw [(hX.2.2.2.2.1 j hj).1]; decide); omega) (by simp [cG, memS]) (by rw [hI3]; simp [cG, memS]) (by simp [cG, memS]) (by rw [hI0]; simp [cG, memS]) (by rw [hI3, hlc]; simp [cG, memS]) (by
                have e1 : mR (cG (pI (pI G2 7 9 x 0) 7 11 x (-1)) z2 (nI (sN S 3)) (nI f') (nI (sN S 0)) (mR G2 3 4 z) ((lastC S i (sN S 3)).map ca)) 2 4 z2 = mR G2 3 4 z := by simp [cG, memS]
                rw [e1]
                refine SCh.congr (G := G2) _ _ (fun a ha5 => ?_) j5
                have na : ¬ a = z2 := fun q => by have := j2 a (by rw [ha5]; decide); omega
                refine ⟨by simp [cG, memS, na, ha5], fun k => by simp [cG, memS, na], fun k => by simp [cG, memS, na]⟩)
            have hF4 : FO x z G (cG (pI (pI G2 7 9 x 0) 7 11 x (-1)) z2 (nI (sN S 3)) (nI f') (nI (sN S 0)) (mR G2 3 4 z) ((lastC S i (sN S 3)).map ca)) := by
              refine j3.fo.tr (Nat.le_refl _) ?_
              refine FO.tr (G1 := pI (pI G2 7 9 x 0) 7 11 x (-1)) (Nat.le_of_lt j1) ?_ cG_ex.fo
              refine ⟨fun a _ => ⟨rfl, rfl⟩, fun c k a _ hc => ⟨?_, rfl⟩, fun _ _ _ _ => rfl⟩
              simp only [memS, show ¬ c = 7 by omega, false_and, if_false]
            have hs4 := hX4.1
            have hn4 := hX4.2.1
            have t4 := (hX4.2.2.1 i (by rw [hI1]; exact hi)).2.2.1
            rw [hI3] at hX5
            have n4 := hn4.2.2.1
            rw [hI3] at n4
            generalize cG (pI (pI G2 7 9 x 0) 7 11 x (-1)) z2 (nI (sN S 3)) (nI f') (nI (sN S 0)) (mR G2 3 4 z) ((lastC S i (sN S 3)).map ca) = G4 at hX4 hX5 hB4 hs4 n4 hF4 t4
            simp only [ent, entL, isL_int, isL_rf, isL_long, locS, List.length_cons, List.length_nil, List.cons_append, List.nil_append, List.replicate_succ, List.replicate_zero, Bool.false_eq_true, if_false, if_true, true_and, and_true, Nat.reduceAdd, Nat.reduceSub, Nat.reduceLeDiff, Nat.zero_le, Nat.le_refl, Nat.zero_add, Nat.add_zero, bI_0, bI_1, bI_n, Nat.reduceEqDiff, false_and, and_false, and_self, e_53_125, e_53_128, e_53_129, e_53_130, e_53_133, e_53_134, e_53_135, e_53_138, e_53_140, t4, hs4, n4, memS, n_1]
            refine hq _ _ (z2 + 1) (by omega) ?_ hX5 ?_
            · intro a q; exact hB4 a (by simpa [memS] using q)
            · refine hF4.tr (Nat.le_refl _) ⟨fun a _ => ⟨rfl, rfl⟩, fun c k a _ hc => ⟨?_, ?_⟩, fun _ _ _ _ => rfl⟩
              · simp only [memS, show ¬ c = 7 by omega, false_and, if_false]
              · simp only [memS, show ¬ c = 6 by omega, false_and, if_false]
          · obtain ⟨j1, j2, j3, j4, j5⟩ := hJ2
            have hX2 := hX.ex hB j3
            have hs2 := hX2.1
            have hn2 := hX2.2.1
            rw [hx] at hq
            simp only [ent, entL, isL_int, isL_rf, isL_long, locS, List.length_cons, List.length_nil, List.cons_append, List.nil_append, List.replicate_succ, List.replicate_zero, Bool.false_eq_true, if_false, if_true, true_and, and_true, Nat.reduceAdd, Nat.reduceSub, Nat.reduceLeDiff, Nat.zero_le, Nat.le_refl, Nat.zero_add, Nat.add_zero, bI_0, bI_1, bI_n, Nat.reduceEqDiff, false_and, and_false, and_self, e_53_65, e_53_67, e_53_68, e_53_69, e_53_72, e_53_74, e_53_77, e_53_78, e_53_80, e_53_83, e_53_86, e_53_87, show ¬ z = x by omega, memS, hs2, j4.1, j4.2.2.2.2.2.2.2.2.2.2]
            refine hq _ ca z2 (by omega) (fun a q => j2 a q) (hX2.clTp (v := nI p)) ?_
            refine j3.fo.tr (Nat.le_refl _) ⟨fun a _ => ⟨rfl, rfl⟩, fun c k a _ hc => ⟨?_, rfl⟩, fun _ _ _ _ => rfl⟩
            simp only [memS, show ¬ c = 7 by omega, false_and, if_false]
        · rw [if_neg c3] at hq
          simp only [c3, if_false]
          exact hq G ca z (Nat.le_refl _) hB hX FO.rf
end
