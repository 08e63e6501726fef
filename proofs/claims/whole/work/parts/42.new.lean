/-! the class's calls that make new cells: turn, hall; the tape: feed -/
/-- nothing below z has changed -/
def EX (z : Nat) (G G' : Mem) : Prop := ∀ a, a < z → mK G' a = mK G a ∧ mN G' a = mN G a ∧ (∀ c k, mI G' c k a = mI G c k a) ∧ (∀ c k, mR G' c k a = mR G c k a) ∧ (∀ i, mE G' a i = mE G a i) ∧ ∀ i, mQ G' a i = mQ G a i
theorem EX.fo {x z : Nat} {G G' : Mem} (h : EX z G G') : FO x z G G' := ⟨fun a ha => ⟨(h a ha).1, (h a ha).2.1⟩, fun c k a ha _ => ⟨(h a ha).2.2.1 c k, (h a ha).2.2.2.1 c k⟩, fun a i ha _ => (h a ha).2.2.2.2.1 i⟩
theorem EX.rf {z : Nat} {G : Mem} : EX z G G := fun _ _ => ⟨rfl, rfl, fun _ _ => rfl, fun _ _ => rfl, fun _ => rfl, fun _ => rfl⟩
theorem EX.tr {z z1 : Nat} {G G1 G2 : Mem} (hz : z ≤ z1) (h : EX z G G1) (h2 : EX z1 G1 G2) : EX z G G2 := fun a ha => by
  obtain ⟨a1, a2, a3, a4, a5, a6⟩ := h a ha
  obtain ⟨b1, b2, b3, b4, b5, b6⟩ := h2 a (by omega)
  exact ⟨b1.trans a1, b2.trans a2, fun c k => (b3 c k).trans (a3 c k), fun c k => (b4 c k).trans (a4 c k), fun i => (b5 i).trans (a5 i), fun i => (b6 i).trans (a6 i)⟩
section
variable {G G' : Mem} {x : Nat} {ta ha ca : Nat → Nat} {S : St}
theorem RX.ex {z : Nat} (hX : RX G x ta ha ca S) (hB : Bd G z) (h : EX z G G') : RX G' x ta ha ca S := by
  obtain ⟨h1, h2, h3, h4, h5, h6, h7⟩ := hX
  have q0 := h x (hB x (by rw [h1.1]; decide))
  have q : ∀ k, 0 < k → k ≤ 11 → mK G (x + k) ≠ 99 := by
    intro k hk hk2
    have : k = 1 ∨ k = 2 ∨ k = 3 ∨ k = 4 ∨ k = 5 ∨ k = 6 ∨ k = 7 ∨ k = 8 ∨ k = 9 ∨ k = 10 ∨ k = 11 := by omega
    rcases this with e | e | e | e | e | e | e | e | e | e | e <;> subst e <;> simp only [h1] <;> decide
  have q := fun k hk hk2 => h (x + k) (hB (x + k) (q k hk hk2))
  have q1 := q 1 (by omega) (by omega)
  have q2 := q 2 (by omega) (by omega)
  have q3 := q 3 (by omega) (by omega)
  have q4 := q 4 (by omega) (by omega)
  have q5 := q 5 (by omega) (by omega)
  have q6 := q 6 (by omega) (by omega)
  have q7 := q 7 (by omega) (by omega)
  have q8 := q 8 (by omega) (by omega)
  have q9 := q 9 (by omega) (by omega)
  have q10 := q 10 (by omega) (by omega)
  have q11 := q 11 (by omega) (by omega)
  refine ⟨?_, ?_, fun i hi => ?_, fun i hi => ?_, fun i hi => ?_, h6, fun i => ?_⟩
  · simp only [XS, q0, q1, q2, q3, q4, q5, q6, q7, q8, q9, q10, q11]; exact h1
  · simp only [XN, q0]; exact h2
  · have hi := h3 i hi
    have p1 := h (ta i) (hB _ (by rw [hi.2.2.1]; decide))
    have p2 := h (ta i + 1) (hB _ (by rw [hi.2.2.2.2.2.2.2.2.2.2.1]; decide))
    simp only [p1, p2, q1]
    exact hi
  · have hi := h4 i hi
    have p1 := h (ha i) (hB _ (by rw [hi.2.1]; decide))
    simp only [p1, q2]
    exact hi
  · obtain ⟨g1, g2, g3, g4, g5, g6⟩ := h5 i hi
    have p1 := h (ca i) (hB _ (by rw [g1]; decide))
    simp only [p1]
    refine ⟨g1, g2, g3, g4, g5, SCh.congr (G := G) _ _ (fun a ha5 => ?_) g6⟩
    have p2 := h a (hB _ (by rw [ha5]; decide))
    exact ⟨by rw [p2.1]; exact ha5, fun k => p2.2.2.1 5 k, fun k => p2.2.2.2.1 5 k⟩
  · rw [q3.2.2.2.2.1]; exact h7 i
theorem RX.newT (hX : RX G x ta ha ca S) (hI : Inv S) {a : Nat} {mi ki fu li dr : Int32} (ha36 : x + 36 ≤ a) (hfr : ∀ j, j < sN S 1 → ¬ ta j = a) (k1 : mK G a = 6) (k2 : mI G 6 0 a = nI (sN S 1)) (k3 : mI G 6 1 a = mi) (k4 : mI G 6 2 a = ki) (k5 : mI G 6 3 a = fu) (k6 : mI G 6 4 a = li) (k7 : mI G 6 5 a = dr)
    (k8 : mR G 6 6 a = some (a + 1)) (k9 : mK G (a + 1) = 23) (k10 : mN G (a + 1) = 60) (k11 : mR G 6 7 a = none) (k12 : mI G 6 8 a = 0) (k13 : mI G 6 9 a = 0) (k14 : ∀ w, mQ G (a + 1) w = none) :
    RX (pI (pQ G (x + 1) (sN S 1) (some a)) 7 5 x (nI (sN S 1 + 1))) x (fun i => if i = sN S 1 then a else ta i) ha ca (nwT S mi ki fu li dr) := by
  obtain ⟨h1, h2, h3, h4, h5, h6, h7⟩ := hX
  have hlc : ∀ t n', lastC (nwT S mi ki fu li dr) t n' = lastC S t n' := fun t n' => lastC_congr n' (fun c _ => rfl)
  have hcw : ∀ t n', cntW (nwT S mi ki fu li dr) t n' = cntW S t n' := fun t n' => cntW_congr n' (fun c _ => rfl)
  have hpl : ∀ w, sP S (sN S 1) w = none := fun w => by
    cases hp : sP S (sN S 1) w with
    | none => rfl
    | some h => have := (hI.2.2.2.2.2.2.1 _ _ _ hp).1; omega
  have hl0 : ∀ n, n ≤ sN S 3 → lastC S (sN S 1) n = none := by
    intro n hn
    cases hq : lastC S (sN S 1) n with
    | none => rfl
    | some c =>
      have := lastC_s hq
      have := (hI.2.2.2.2.2.2.2.1 c (by omega)).1
      omega
  have hc0 : ∀ n, cntW S (sN S 1) n = 0 := by
    intro n
    induction n with
    | zero => rfl
    | succ n ih => rw [cntW, ih, hpl]; rfl
  have hf0 : sI S 4 (sN S 1) = 0 := hI.2.2.2.2.2.2.2.2.2.2.2.1 _ (Nat.le_refl _)
  have hlc2 := hlc
  have hcw2 := hcw
  unfold nwT at hlc2 hcw2
  refine ⟨?_, ?_, fun j hj => ?_, fun h hh => ?_, fun c hc => ?_, ?_, fun k => ?_⟩
  · simpa [XS, memS] using h1
  · simp only [XN] at h2 ⊢
    simp [nwT, memS, stS, h2]
  · have hj : j < sN S 1 + 1 := by simpa [nwT, stS] using hj
    by_cases e : j = sN S 1
    · subst e
      simp [memS, hlc2, hcw2, k1, k2, k3, k4, k5, k6, k7, k8, k9, k10, k11, k12, k13, k14, hl0, hc0, nwT, stS, hpl, hf0, ha36, show ¬ a = x by omega]
      rfl
    · obtain ⟨g1, g2, g3, g4, g5, g6, g7, g8, g9, g10, g11, g12, g13, g14, g15, g16⟩ := h3 j (by omega)
      have hne : ¬ ta j = x := by omega
      simp [memS, hlc2, hcw2, nwT, stS, e, hne, g1, g2, g3, g4, g5, g6, g7, g8, g9, g10, g11, g12, g13, g14, g15]
      exact g16
  · have hh : h < sN S 2 := by simpa [nwT, stS] using hh
    have := h4 h hh
    simpa [memS, stS, nwT] using this
  · have hc : c < sN S 3 := by simpa [nwT, stS] using hc
    obtain ⟨g1, g2, g3, g4, g5, g6⟩ := h5 c hc
    have e1 : sC (nwT S mi ki fu li dr) = sC S := rfl
    have e2 : sS (nwT S mi ki fu li dr) = sS S := rfl
    simp only [memS, hlc, e1, e2]
    refine ⟨g1, by simpa using g2, by simpa using g3, by simpa using g4, g5, ?_⟩
    exact SCh.congr (G := G) _ _ (fun a ha5 => ⟨by simp only [memS]; exact ha5, fun k => by simp [memS], fun k => rfl⟩) g6
  · refine ⟨fun i j hi hj => ?_, h6.2.1, h6.2.2⟩
    have hi : i < sN S 1 + 1 := by simpa [nwT, stS] using hi
    have hj : j < sN S 1 + 1 := by simpa [nwT, stS] using hj
    dsimp only
    split <;> split
    · intros; omega
    · intro q; exact absurd q.symm (hfr j (by omega))
    · intro q; exact absurd q (hfr i (by omega))
    · exact h6.1 i j (by omega) (by omega)
  · simp only [memS]; exact h7 k
theorem RX.newH (hX : RX G x ta ha ca S) (hI : Inv S) {a : Nat} {mi se lo : Int32} (hfr : ∀ j, j < sN S 2 → ¬ ha j = a) (k1 : mK G a = 4) (k2 : mI G 4 0 a = nI (sN S 2)) (k3 : mI G 4 1 a = mi) (k4 : mI G 4 2 a = se) (k5 : mI G 4 3 a = lo) :
    RX (pI (pQ G (x + 2) (sN S 2) (some a)) 7 6 x (nI (sN S 2 + 1))) x ta (fun i => if i = sN S 2 then a else ha i) ca (nwH S mi se lo) := by
  obtain ⟨h1, h2, h3, h4, h5, h6, h7⟩ := hX
  have hlc : ∀ t n', lastC (nwH S mi se lo) t n' = lastC S t n' := fun t n' => lastC_congr n' (fun c _ => rfl)
  have hcw : ∀ t n', cntW (nwH S mi se lo) t n' = cntW S t n' := fun t n' => cntW_congr n' (fun c _ => rfl)
  have hmp : ∀ t w, (sP S t w).map (fun i => if i = sN S 2 then a else ha i) = (sP S t w).map ha := fun t w => by
    cases hp : sP S t w with
    | none => rfl
    | some h => have := (hI.2.2.2.2.2.2.1 _ _ _ hp).2; simp only [Option.map_some]; rw [if_neg (by omega)]
  have hlc2 := hlc
  have hcw2 := hcw
  unfold nwH at hlc2 hcw2
  refine ⟨?_, ?_, fun j hj => ?_, fun h hh => ?_, fun c hc => ?_, ?_, fun k => ?_⟩
  · simpa [XS, memS] using h1
  · simp only [XN] at h2 ⊢
    simp [nwH, memS, stS, h2]
  · have hj : j < sN S 1 := by simpa [nwH, stS] using hj
    obtain ⟨g1, g2, g3, g4, g5, g6, g7, g8, g9, g10, g11, g12, g13, g14, g15, g16⟩ := h3 j (by omega)
    have hne : ¬ ta j = x := by omega
    simp [memS, hlc2, hcw2, nwH, stS, hne, g1, g2, g3, g4, g5, g6, g7, g8, g9, g10, g11, g12, g13, g14, g15, show ¬ ta j + 1 = x + 2 by omega, show ¬ ta j = x + 1 by omega]
    intro w hw
    rw [g16 w hw, hmp]
  · have hh : h < sN S 2 + 1 := by simpa [nwH, stS] using hh
    by_cases e : h = sN S 2
    · subst e
      simp [memS, k1, k2, k3, k4, k5, nwH, stS]
    · obtain ⟨g1, g2, g3, g4, g5, g6⟩ := h4 h (by omega)
      simp [memS, stS, nwH, e, g1, g2, g3, g4, g5, g6]
  · have hc : c < sN S 3 := by simpa [nwH, stS] using hc
    obtain ⟨g1, g2, g3, g4, g5, g6⟩ := h5 c hc
    have e1 : sC (nwH S mi se lo) = sC S := rfl
    have e2 : sS (nwH S mi se lo) = sS S := rfl
    simp only [memS, hlc, e1, e2]
    refine ⟨g1, by simpa using g2, by simpa using g3, by simpa using g4, g5, ?_⟩
    exact SCh.congr (G := G) _ _ (fun a ha5 => ⟨by simp only [memS]; exact ha5, fun k => by simp [memS], fun k => rfl⟩) g6
  · refine ⟨h6.1, fun i j hi hj => ?_, h6.2.2⟩
    have hi : i < sN S 2 + 1 := by simpa [nwH, stS] using hi
    have hj : j < sN S 2 + 1 := by simpa [nwH, stS] using hj
    dsimp only
    split <;> split
    · intros; omega
    · intro q; exact absurd q.symm (hfr j (by omega))
    · intro q; exact absurd q (hfr i (by omega))
    · exact h6.2.1 i j (by omega) (by omega)
  · simp only [memS]; exact h7 k
/-- the memory behind a new turn, a new hall -/
def tG (G : Mem) (z : Nat) (n mi ki fu li dr : Int32) : Mem := pR (nA (pI (pI (pI (pI (pI (pI (nO G z 6) 6 0 z n) 6 1 z mi) 6 2 z ki) 6 3 z fu) 6 4 z li) 6 5 z dr) (z + 1) 23 60) 6 6 z (some (z + 1))
theorem tG_ex {z : Nat} {n mi ki fu li dr : Int32} : EX z G (tG G z n mi ki fu li dr) := by
  intro a ha
  simp [tG, memS, show ¬ a = z by omega, show ¬ a = z + 1 by omega]
theorem tG_bd {z : Nat} {n mi ki fu li dr : Int32} (h : Bd G z) : Bd (tG G z n mi ki fu li dr) (z + 2) := by
  intro a
  simp only [tG, memS]
  split
  · intro; omega
  · split
    · intro; omega
    · intro q; have := h a q; omega
def hG (G : Mem) (z : Nat) (n mi se lo : Int32) : Mem := pI (pI (pI (pI (nO G z 4) 4 0 z n) 4 1 z mi) 4 2 z se) 4 3 z lo
theorem hG_ex {z : Nat} {n mi se lo : Int32} : EX z G (hG G z n mi se lo) := by
  intro a ha
  simp [hG, memS, show ¬ a = z by omega]
theorem hG_bd {z : Nat} {n mi se lo : Int32} (h : Bd G z) : Bd (hG G z n mi se lo) (z + 1) := by
  intro a
  simp only [hG, memS]
  split
  · intro; omega
  · intro q; have := h a q; omega
theorem XS.lt {z : Nat} (hs : XS G x) (hB : Bd G z) : x + 2 < z := hB _ (by rw [hs.2.2.2.2.2.2.2.2.1]; decide)
set_option maxRecDepth 8000 in
theorem s_initT {d z : Nat} {n mi ki fu li dr : Int32} (hf : fu = 0 ∨ fu = 1) {Q : Rt} (h : Q none (tG G z n mi ki fu li dr) (z + 2)) : CALL (d + 1) 43 [va_rf (some z), .int n, .int mi, .int ki, .int fu, .int li, .int dr] (nO G z 6) (z + 1) Q := by
  rw [CALL_eq]
  simp only [mxE_43, ent, entL, isL_int, isL_rf, isL_long, locS, List.length_cons, List.length_nil, List.cons_append, List.nil_append, List.replicate_succ, List.replicate_zero, Bool.false_eq_true, if_false, if_true, true_and, and_true, Nat.reduceAdd, Nat.reduceSub, Nat.reduceLeDiff, Nat.zero_le, Nat.le_refl, Nat.zero_add, Nat.add_zero, bI_0, bI_1, bI_n, Nat.reduceEqDiff, false_and, and_false, and_self, e_43_0, e_43_1, e_43_4, e_43_5, e_43_6, e_43_9, e_43_10, e_43_11, e_43_14, e_43_15, e_43_16, e_43_19, e_43_20, e_43_22, e_43_25, e_43_26, e_43_28, e_43_31, e_43_32, e_43_34, e_43_37, e_43_38, e_43_40, e_43_43, e_43_46, memS, hf, if_true, show (60 : Int32).toNatClampNeg = 60 from rfl]
  have e : ¬ z = z + 1 := by omega
  simp only [e, if_false, true_and]
  exact ⟨by decide, h⟩
set_option maxRecDepth 8000 in
theorem c_turn (hX : RX G x ta ha ca S) (hI : Inv S) {d z : Nat} (hz : x + 36 ≤ z) (hB : Bd G z) {mi ki fu li dr : Int32} (hf : fu = 0 ∨ fu = 1) {Q : Rt} (hq : ∀ G' ta' z', z ≤ z' → Bd G' z' → RX G' x ta' ha ca (opTurn S mi ki fu li dr).1 → FO x z G G' → Q (some (.int (opTurn S mi ki fu li dr).2)) G' z') : CALL (d + 2) 50 [va_rf (some x), .int mi, .int ki, .int fu, .int li, .int dr] G z Q := by
  have hs := hX.1
  have hn := hX.2.1
  have e40 : (nI (sN S 1) < 40) = (sN S 1 < 40) := by rw [show (40 : Int32) = nI 40 from rfl]; exact n_lt (by have := hI.2.1; omega) (by decide)
  unfold opTurn at hq
  rw [CALL_eq]
  simp only [mxE_50, ent, entL, isL_int, isL_rf, isL_long, locS, List.length_cons, List.length_nil, List.cons_append, List.nil_append, List.replicate_succ, List.replicate_zero, Bool.false_eq_true, if_false, if_true, true_and, and_true, Nat.reduceAdd, Nat.reduceSub, Nat.reduceLeDiff, Nat.zero_le, Nat.le_refl, Nat.zero_add, Nat.add_zero, bI_0, bI_1, bI_n, Nat.reduceEqDiff, false_and, and_false, and_self, e_50_0, e_50_1, e_50_2, e_50_4, e_50_7, e_50_10, e_50_11, e_50_12, e_50_13, e_50_16, e_50_19, e_50_20, e_50_23, e_50_24, e_50_25, e_50_28, e_50_30, e_50_31, e_50_33, e_50_36, e_50_39, e_50_41, e_50_42, e_50_44, e_50_47, e_50_50, e_50_51, e_50_54, e_50_55, e_50_57, e_50_59, e_50_62, e_50_63, e_50_66, e_50_68, e_50_71, e_50_72, e_50_73, e_50_74, e_50_77, e_50_79, e_50_80, e_50_83, e_50_85, e_50_88, e_50_89, e_50_91, e_50_92, e_50_93, e_50_94, e_50_96, e_50_98, e_50_101, e_50_102, e_50_103, e_50_104, e_50_107, e_50_108, e_50_109, e_50_112, e_50_114, s_isWithin, hs, hn, e40]
  by_cases hk : ((3 ≤ mi ∧ mi ≤ 20) ∧ (0 ≤ ki ∧ ki ≤ 3) ∧ ¬ (¬ fu = 0 ∧ ki = 3) ∧ (0 ≤ li ∧ li ≤ 9) ∧ (0 ≤ dr ∧ dr ≤ 99)) ∧ sN S 1 < 40
  · rw [if_pos hk] at hq
    obtain ⟨⟨k1, k2, k3, k4, k5⟩, k6⟩ := hk
    have fin : CALL (d + 1) 43 [va_rf (some z), .int (nI (sN S 1)), .int mi, .int ki, .int fu, .int li, .int dr] (nO G z 6) (z + 1) (rtn (d + 1) 50 Q 101 [some (va_rf (some x)), some (.int mi), some (.int ki), some (.int fu), some (.int li), some (.int dr), some (.int 1), some (.int (nI (sN S 1)))] [va_rf (some z), .int (nI (sN S 1)), va_rf (some (x + 1))] 2 70) := by
      refine s_initT hf ?_
      have hX1 := hX.ex hB (tG_ex (n := nI (sN S 1)) (mi := mi) (ki := ki) (fu := fu) (li := li) (dr := dr))
      have hB1 := tG_bd (n := nI (sN S 1)) (mi := mi) (ki := ki) (fu := fu) (li := li) (dr := dr) hB
      have hx2 := hs.lt hB
      have m1 : mK (tG G z (nI (sN S 1)) mi ki fu li dr) z = 6 := by simp [tG, memS]
      have hX2 := hX1.newT hI (a := z) (mi := mi) (ki := ki) (fu := fu) (li := li) (dr := dr) hz (fun j hj q => by have := hB (ta j) (by rw [(hX.2.2.1 j hj).2.2.1]; decide); omega) m1 (by simp [tG, memS]) (by simp [tG, memS]) (by simp [tG, memS]) (by simp [tG, memS]) (by simp [tG, memS]) (by simp [tG, memS]) (by simp [tG, memS]) (by simp [tG, memS]) (by simp [tG, memS]) (by simp [tG, memS]) (by simp [tG, memS]) (by simp [tG, memS]) (by intro w; simp [tG, memS])
      have hF1 : FO x z G (tG G z (nI (sN S 1)) mi ki fu li dr) := tG_ex.fo
      have hs1 := hX1.1
      have hn1 := hX1.2.1
      generalize tG G z (nI (sN S 1)) mi ki fu li dr = G1 at hX1 hB1 hX2 hF1 m1 hs1 hn1
      simp only [ent, entL, isL_int, isL_rf, isL_long, locS, List.length_cons, List.length_nil, List.cons_append, List.nil_append, List.replicate_succ, List.replicate_zero, Bool.false_eq_true, if_false, if_true, true_and, and_true, Nat.reduceAdd, Nat.reduceSub, Nat.reduceLeDiff, Nat.zero_le, Nat.le_refl, Nat.zero_add, Nat.add_zero, bI_0, bI_1, bI_n, Nat.reduceEqDiff, false_and, and_false, and_self, e_50_0, e_50_1, e_50_2, e_50_4, e_50_7, e_50_10, e_50_11, e_50_12, e_50_13, e_50_16, e_50_19, e_50_20, e_50_23, e_50_24, e_50_25, e_50_28, e_50_30, e_50_31, e_50_33, e_50_36, e_50_39, e_50_41, e_50_42, e_50_44, e_50_47, e_50_50, e_50_51, e_50_54, e_50_55, e_50_57, e_50_59, e_50_62, e_50_63, e_50_66, e_50_68, e_50_71, e_50_72, e_50_73, e_50_74, e_50_77, e_50_79, e_50_80, e_50_83, e_50_85, e_50_88, e_50_89, e_50_91, e_50_92, e_50_93, e_50_94, e_50_96, e_50_98, e_50_101, e_50_102, e_50_103, e_50_104, e_50_107, e_50_108, e_50_109, e_50_112, e_50_114, hs1, hn1, n_cl (show sN S 1 < 2 ^ 31 by omega), n_in (show sN S 1 < 40 by omega) (by decide), n_1, memS]
      refine ⟨?_, ?_⟩
      · exact Or.inr fun b hb => by cases hb; exact m1
      · refine hq _ _ (z + 2) (by omega) ?_ hX2 ?_
        · intro a q; exact hB1 a (by simpa [memS] using q)
        · refine hF1.tr (Nat.le_refl _) ⟨fun a _ => ⟨rfl, rfl⟩, fun c k a _ hc => ⟨?_, rfl⟩, fun _ _ _ _ => rfl⟩
          simp only [memS, show ¬ c = 7 by omega, false_and, if_false]
    simp only [k1, k2, k4, k5, k6, and_self, not_true, if_false, if_true, show ¬ (1 : Int32) = 0 by decide]
    rcases hf with rfl | rfl
    · simp only [if_true]; exact fin
    · have : ¬ ki = 3 := fun q => k3 ⟨by decide, q⟩
      simp only [this, show ¬ (1 : Int32) = 0 by decide, if_false]; exact fin
  · rw [if_neg hk] at hq
    have hq' := hq G ta z (Nat.le_refl _) hB hX FO.rf
    dsimp only at hq'
    clear hq hX hs hn hB hI e40
    by_cases k1 : 3 ≤ mi ∧ mi ≤ 20
    · by_cases k2 : 0 ≤ ki ∧ ki ≤ 3
      · by_cases k4 : 0 ≤ li ∧ li ≤ 9
        · by_cases k5 : 0 ≤ dr ∧ dr ≤ 99
          · by_cases k6 : sN S 1 < 40
            · have k3 : ¬ fu = 0 ∧ ki = 3 := Classical.byContradiction fun q => hk ⟨⟨k1, k2, q, k4, k5⟩, k6⟩
              simp only [k1, k2, k3, if_false, if_true, and_self, not_true]; simp only [show ((0 : Int32) ≤ 3 ∧ (3 : Int32) ≤ 3) = True by decide, not_true, if_false, if_true]; exact hq'
            · simp only [k1, k2, k4, k5, k6, if_false, if_true, and_self, not_true, ite_self]; exact hq'
          · simp only [k1, k2, k4, k5, if_false, if_true, and_self, not_true, not_false_iff, ite_self]; exact hq'
        · simp only [k1, k2, k4, if_false, if_true, and_self, not_true, not_false_iff, ite_self]; exact hq'
      · simp only [k1, k2, if_false, if_true, and_self, not_true, not_false_iff]; exact hq'
    · simp only [k1, if_true, not_false_iff]; exact hq'
set_option maxRecDepth 8000 in
theorem s_initH {d z : Nat} {n mi se lo : Int32} {Q : Rt} (h : Q none (hG G z n mi se lo) (z + 1)) : CALL (d + 1) 40 [va_rf (some z), .int n, .int mi, .int se, .int lo] (nO G z 4) (z + 1) Q := by
  rw [CALL_eq]
  simp only [mxE_40, ent, entL, isL_int, isL_rf, isL_long, locS, List.length_cons, List.length_nil, List.cons_append, List.nil_append, List.replicate_succ, List.replicate_zero, Bool.false_eq_true, if_false, if_true, true_and, and_true, Nat.reduceAdd, Nat.reduceSub, Nat.reduceLeDiff, Nat.zero_le, Nat.le_refl, Nat.zero_add, Nat.add_zero, bI_0, bI_1, bI_n, Nat.reduceEqDiff, false_and, and_false, and_self, e_40_0, e_40_1, e_40_4, e_40_5, e_40_6, e_40_9, e_40_10, e_40_11, e_40_14, e_40_15, e_40_16, e_40_19, e_40_20, e_40_22, e_40_25, memS, if_true]
  exact h
set_option maxRecDepth 8000 in
theorem c_hall (hX : RX G x ta ha ca S) (hI : Inv S) {d z : Nat} (hB : Bd G z) {mi se lo : Int32} {Q : Rt} (hq : ∀ G' ha' z', z ≤ z' → Bd G' z' → RX G' x ta ha' ca (opHall S mi se lo).1 → FO x z G G' → Q (some (.int (opHall S mi se lo).2)) G' z') : CALL (d + 2) 51 [va_rf (some x), .int mi, .int se, .int lo] G z Q := by
  have hs := hX.1
  have hn := hX.2.1
  have e10 : (nI (sN S 2) < 10) = (sN S 2 < 10) := by rw [show (10 : Int32) = nI 10 from rfl]; exact n_lt (by have := hI.2.2.1; omega) (by decide)
  unfold opHall at hq
  rw [CALL_eq]
  simp only [mxE_51, ent, entL, isL_int, isL_rf, isL_long, locS, List.length_cons, List.length_nil, List.cons_append, List.nil_append, List.replicate_succ, List.replicate_zero, Bool.false_eq_true, if_false, if_true, true_and, and_true, Nat.reduceAdd, Nat.reduceSub, Nat.reduceLeDiff, Nat.zero_le, Nat.le_refl, Nat.zero_add, Nat.add_zero, bI_0, bI_1, bI_n, Nat.reduceEqDiff, false_and, and_false, and_self, e_51_0, e_51_1, e_51_2, e_51_5, e_51_8, e_51_11, e_51_12, e_51_13, e_51_16, e_51_19, e_51_22, e_51_23, e_51_25, e_51_27, e_51_30, e_51_33, e_51_34, e_51_37, e_51_38, e_51_40, e_51_42, e_51_45, e_51_46, e_51_49, e_51_51, e_51_54, e_51_55, e_51_56, e_51_57, e_51_60, e_51_62, e_51_63, e_51_66, e_51_68, e_51_71, e_51_72, e_51_74, e_51_75, e_51_76, e_51_77, e_51_80, e_51_81, e_51_82, e_51_83, e_51_86, e_51_87, e_51_88, e_51_91, e_51_93, s_isWithin, hs, hn, e10]
  by_cases hk : ((0 ≤ mi ∧ mi ≤ 300) ∧ (1 ≤ se ∧ se ≤ 1000) ∧ (20 ≤ lo ∧ lo ≤ 120)) ∧ sN S 2 < 10
  · rw [if_pos hk] at hq
    obtain ⟨⟨k1, k2, k3⟩, k6⟩ := hk
    simp only [k1, k2, k3, k6, and_self, not_true, if_false, if_true, show ¬ (1 : Int32) = 0 by decide]
    refine s_initH ?_
    have hX1 := hX.ex hB (hG_ex (n := nI (sN S 2)) (mi := mi) (se := se) (lo := lo))
    have hB1 := hG_bd (n := nI (sN S 2)) (mi := mi) (se := se) (lo := lo) hB
    have m1 : mK (hG G z (nI (sN S 2)) mi se lo) z = 4 := by simp [hG, memS]
    have hX2 := hX1.newH hI (a := z) (mi := mi) (se := se) (lo := lo) (fun j hj q => by have := hB (ha j) (by rw [(hX.2.2.2.1 j hj).2.1]; decide); omega) m1 (by simp [hG, memS]) (by simp [hG, memS]) (by simp [hG, memS]) (by simp [hG, memS])
    have hF1 : FO x z G (hG G z (nI (sN S 2)) mi se lo) := hG_ex.fo
    have hs1 := hX1.1
    have hn1 := hX1.2.1
    generalize hG G z (nI (sN S 2)) mi se lo = G1 at hX1 hB1 hX2 hF1 m1 hs1 hn1
    simp only [ent, entL, isL_int, isL_rf, isL_long, locS, List.length_cons, List.length_nil, List.cons_append, List.nil_append, List.replicate_succ, List.replicate_zero, Bool.false_eq_true, if_false, if_true, true_and, and_true, Nat.reduceAdd, Nat.reduceSub, Nat.reduceLeDiff, Nat.zero_le, Nat.le_refl, Nat.zero_add, Nat.add_zero, bI_0, bI_1, bI_n, Nat.reduceEqDiff, false_and, and_false, and_self, e_51_0, e_51_1, e_51_2, e_51_5, e_51_8, e_51_11, e_51_12, e_51_13, e_51_16, e_51_19, e_51_22, e_51_23, e_51_25, e_51_27, e_51_30, e_51_33, e_51_34, e_51_37, e_51_38, e_51_40, e_51_42, e_51_45, e_51_46, e_51_49, e_51_51, e_51_54, e_51_55, e_51_56, e_51_57, e_51_60, e_51_62, e_51_63, e_51_66, e_51_68, e_51_71, e_51_72, e_51_74, e_51_75, e_51_76, e_51_77, e_51_80, e_51_81, e_51_82, e_51_83, e_51_86, e_51_87, e_51_88, e_51_91, e_51_93, hs1, hn1, n_cl (show sN S 2 < 2 ^ 31 by omega), n_in (show sN S 2 < 10 by omega) (by decide), n_1, memS]
    refine ⟨?_, ?_⟩
    · exact Or.inl fun b hb => by cases hb; exact m1
    · refine hq _ _ (z + 1) (by omega) ?_ hX2 ?_
      · intro a q; exact hB1 a (by simpa [memS] using q)
      · refine hF1.tr (Nat.le_refl _) ⟨fun a _ => ⟨rfl, rfl⟩, fun c k a _ hc => ⟨?_, rfl⟩, fun _ _ _ _ => rfl⟩
        simp only [memS, show ¬ c = 7 by omega, false_and, if_false]
  · rw [if_neg hk] at hq
    have hq' := hq G ha z (Nat.le_refl _) hB hX FO.rf
    dsimp only at hq'
    clear hq hX hs hn hB hI e10
    by_cases k1 : 0 ≤ mi ∧ mi ≤ 300
    · by_cases k2 : 1 ≤ se ∧ se ≤ 1000
      · by_cases k4 : 20 ≤ lo ∧ lo ≤ 120
        · have k6 : ¬ sN S 2 < 10 := fun q => hk ⟨⟨k1, k2, k4⟩, q⟩
          simp only [k1, k2, k4, k6, if_false, if_true, and_self, not_true, ite_self]; exact hq'
        · simp only [k1, k2, k4, if_false, if_true, and_self, not_true, not_false_iff, ite_self]; exact hq'
      · simp only [k1, k2, if_false, if_true, and_self, not_true, not_false_iff]; exact hq'
    · simp only [k1, if_true, not_false_iff]; exact hq'
/-- a byte put on the tape -/
theorem RX.put1 (hX : RX G x ta ha ca S) {i n : Nat} {v : Int32} : RX (pI (pE G (x + 3) i v) 7 9 x (nI n)) x ta ha ca (uN (uT S i v) 5 n) := by
  obtain ⟨h1, h2, h3, h4, h5, h6, h7⟩ := hX
  have hlc : ∀ t n', lastC (uN (uT S i v) 5 n) t n' = lastC S t n' := fun t n' => lastC_congr n' (fun c _ => rfl)
  have hcw : ∀ t n', cntW (uN (uT S i v) 5 n) t n' = cntW S t n' := fun t n' => cntW_congr n' (fun c _ => rfl)
  refine ⟨?_, ?_, fun j hj => ?_, fun h hh => ?_, fun c hc => ?_, ?_, fun k => ?_⟩
  · simpa [XS, memS] using h1
  · simp only [XN] at h2 ⊢
    simp [memS, stS, h2]
  · have hj : j < sN S 1 := by simpa [stS] using hj
    obtain ⟨g1, g2, g3, g4, g5, g6, g7, g8, g9, g10, g11, g12, g13, g14, g15, g16⟩ := h3 j hj
    simp [memS, stS, hlc, hcw, g1, g2, g3, g4, g5, g6, g7, g8, g9, g10, g11, g12, g13, g14, g15]
    exact g16
  · have hh : h < sN S 2 := by simpa [stS] using hh
    have := h4 h hh
    simpa [memS, stS] using this
  · have hc : c < sN S 3 := by simpa [stS] using hc
    obtain ⟨g1, g2, g3, g4, g5, g6⟩ := h5 c hc
    simp only [memS, stS, hlc]
    refine ⟨g1, by simpa using g2, by simpa using g3, by simpa using g4, g5, ?_⟩
    exact SCh.congr (G := G) _ _ (fun a ha5 => ⟨by simp only [memS]; exact ha5, fun k => by simp [memS], fun k => rfl⟩) g6
  · exact h6
  · simp only [memS, stS, true_and, h7]
theorem put1_fx {z i : Nat} {v w : Int32} (hs : XS G x) : FX x z G (pI (pE G (x + 3) i v) 7 9 x w) := by
  refine ⟨⟨fun _ _ => ⟨rfl, rfl⟩, fun c k a' _ hc => ⟨?_, rfl⟩, fun a k _ q => ?_⟩, fun q => q⟩
  · simp only [memS, show ¬ c = 7 by omega, false_and, if_false]
  · have : ¬ a = x + 3 := fun e => by subst e; simp only [hs] at q; omega
    simp only [memS, this, false_and, if_false]
theorem uN_uN {a b : Nat} (S : St) : uN (uN S 5 a) 5 b = uN S 5 b := by
  unfold uN
  simp only [Prod.mk.injEq, and_true]
  funext k
  split <;> rfl
theorem bvx (b : BitVec 32) (n : Nat) (hn : n ≤ 24) : (b >>> n).signExtend 8 = (b.sshiftRight n).signExtend 8 := by
  rw [BitVec.signExtend_eq_setWidth_of_le _ (by omega), BitVec.signExtend_eq_setWidth_of_le _ (by omega)]
  ext i hi
  simp only [BitVec.getElem_setWidth, BitVec.getLsbD_sshiftRight, BitVec.getLsbD_ushiftRight]
  have h1 : i < 32 := by omega
  have h2 : n + i < 32 := by omega
  simp [h1, h2]
theorem byt_u {v : Int32} {k : Nat} (hk : k = 0 ∨ k = 8 ∨ k = 16 ∨ k = 24) : ((v.toUInt32 >>> ((nI k).toUInt32 &&& Int32.toUInt32 31)).toInt32).toInt8.toInt32.toInt8.toInt32 = byt v k := by
  have e : ∀ a b : Int8, a = b → a.toInt32.toInt8.toInt32 = b.toInt32 := fun a b h => by rw [h]; simp
  rcases hk with rfl | rfl | rfl | rfl <;> refine e _ _ (Int8.toBitVec_inj.mp ?_)
  · exact bvx v.toBitVec 0 (by omega)
  · exact bvx v.toBitVec 8 (by omega)
  · exact bvx v.toBitVec 16 (by omega)
  · exact bvx v.toBitVec 24 (by omega)
theorem byt_s {v : Int32} {k : Nat} : (v >>> (nI k &&& 31)).toInt8.toInt32.toInt8.toInt32 = byt v k := by simp [byt]
theorem n_8 {k : Nat} (hk : k = 0 ∨ k = 8 ∨ k = 16 ∨ k = 24) : (nI k < 0) = False := n_npos (by omega)
set_option maxRecDepth 8000 in
theorem l_put1 {d z k : Nat} {v : Int32} {Q : Rt} (hk : k = 0 ∨ k = 8 ∨ k = 16 ∨ k = 24) (hX : RX G x ta ha ca S) (hl : sN S 5 < 600) (h : ∀ G', RX G' x ta ha ca (uN (uT S (sN S 5) (byt v k)) 5 (sN S 5 + 1)) → FX x z G G' → WP d 73 Q 3 [some (va_rf (some x)), some (.int v), some (.int (nI k + -8))] [] G' z 0 0) :
    WP d 73 Q 3 [some (va_rf (some x)), some (.int v), some (.int (nI k))] [] G z 0 0 := by
  have hs := hX.1
  have hn := hX.2.1
  rw [e_73_3]
  have e6 : ((600 : Int32) ≤ nI (sN S 5)) = False := by rw [show (600 : Int32) = nI 600 from rfl, n_le (by decide) (by omega)]; exact eq_false (by omega)
  simp only [ent, entL, isL_int, isL_rf, isL_long, locS, List.length_cons, List.length_nil, List.cons_append, List.nil_append, List.replicate_succ, List.replicate_zero, Bool.false_eq_true, if_false, if_true, true_and, and_true, Nat.reduceAdd, Nat.reduceSub, Nat.reduceLeDiff, Nat.zero_le, Nat.le_refl, Nat.zero_add, Nat.add_zero, bI_0, bI_1, bI_n, Nat.reduceEqDiff, false_and, and_false, and_self, e_73_0, e_73_2, e_73_4, e_73_7, e_73_8, e_73_11, e_73_14, e_73_17, e_73_18, e_73_21, e_73_22, e_73_25, e_73_26, e_73_27, e_73_28, e_73_29, e_73_30, e_73_31, e_73_32, e_73_35, e_73_36, e_73_37, e_73_40, e_73_43, e_73_46, hs, hn, e6, n_8 hk, memS, byt_u hk, n_cl (show sN S 5 < 2 ^ 31 by omega), n_in (show sN S 5 < 600 by omega) (by decide), n_1, if_false, true_or, true_and]
  exact h _ hX.put1 (put1_fx hs)
set_option maxRecDepth 8000 in
theorem s_put4 {d z : Nat} {v : Int32} {Q : Rt} (hX : RX G x ta ha ca S) (hl : sN S 5 + 4 ≤ 600) (h : ∀ G', RX G' x ta ha ca (put4 S v) → FX x z G G' → Q none G' z) : CALL (d + 1) 73 [va_rf (some x), .int v] G z Q := by
  rw [CALL_eq]
  simp only [mxE_73, ent, entL, isL_int, isL_rf, isL_long, locS, List.length_cons, List.length_nil, List.cons_append, List.nil_append, List.replicate_succ, List.replicate_zero, Bool.false_eq_true, if_false, if_true, true_and, and_true, Nat.reduceAdd, Nat.reduceSub, Nat.reduceLeDiff, Nat.zero_le, Nat.le_refl, Nat.zero_add, Nat.add_zero, bI_0, bI_1, bI_n, Nat.reduceEqDiff, false_and, and_false, and_self, e_73_0, e_73_2, e_73_4, e_73_7, e_73_8, e_73_11, e_73_14, e_73_17, e_73_18, e_73_21, e_73_22, e_73_25, e_73_26, e_73_27, e_73_28, e_73_29, e_73_30, e_73_31, e_73_32, e_73_35, e_73_36, e_73_37, e_73_40, e_73_43, e_73_46]
  refine l_put1 (k := 24) (by omega) hX (by omega) fun G1 hX1 hF1 => ?_
  refine l_put1 (k := 16) (by omega) hX1 (show sN S 5 + 1 < 600 by omega) fun G2 hX2 hF2 => ?_
  refine l_put1 (k := 8) (by omega) hX2 (show sN S 5 + 1 + 1 < 600 by omega) fun G3 hX3 hF3 => ?_
  refine l_put1 (k := 0) (by omega) hX3 (show sN S 5 + 1 + 1 + 1 < 600 by omega) fun G4 hX4 hF4 => ?_
  rw [e_73_3]
  simp only [ent, entL, isL_int, isL_rf, isL_long, locS, List.length_cons, List.length_nil, List.cons_append, List.nil_append, List.replicate_succ, List.replicate_zero, Bool.false_eq_true, if_false, if_true, true_and, and_true, Nat.reduceAdd, Nat.reduceSub, Nat.reduceLeDiff, Nat.zero_le, Nat.le_refl, Nat.zero_add, Nat.add_zero, bI_0, bI_1, bI_n, Nat.reduceEqDiff, false_and, and_false, and_self, e_73_0, e_73_2, e_73_4, e_73_7, e_73_8, e_73_11, e_73_14, e_73_17, e_73_18, e_73_21, e_73_22, e_73_25, e_73_26, e_73_27, e_73_28, e_73_29, e_73_30, e_73_31, e_73_32, e_73_35, e_73_36, e_73_37, e_73_40, e_73_43, e_73_46, show (nI 0 + -8 < 0) = True from eq_true (by decide), if_true]
  refine h G4 ?_ (hF1.tr (Nat.le_refl _) (hF2.tr (Nat.le_refl _) (hF3.tr (Nat.le_refl _) hF4)))
  have c1 : ∀ (S : St) (a i : Nat) (v : Int32), uT (uN S 5 a) i v = uN (uT S i v) 5 a := fun _ _ _ _ => rfl
  simp only [stS, if_true, c1, uN_uN, Nat.add_assoc, Nat.reduceAdd] at hX4
  exact hX4
set_option maxRecDepth 8000 in
theorem c_feed (hX : RX G x ta ha ca S) (hI : Inv S) {d z : Nat} {a b c e f : Int32} {Q : Rt} (hq : ∀ G', RX G' x ta ha ca (opFeed S a b c e f).1 → FX x z G G' → Q (some (.int (opFeed S a b c e f).2)) G' z) : CALL (d + 2) 52 [va_rf (some x), .int a, .int b, .int c, .int e, .int f] G z Q := by
  have hs := hX.1
  have hn := hX.2.1
  have h600 := hI.2.2.2.2.2.1
  rw [CALL_eq]
  have e6 : (nI (sN S 5) ≤ 580) = (sN S 5 ≤ 580) := by rw [show (580 : Int32) = nI 580 from rfl]; exact n_le (by omega) (by decide)
  simp only [mxE_52, ent, entL, isL_int, isL_rf, isL_long, locS, List.length_cons, List.length_nil, List.cons_append, List.nil_append, List.replicate_succ, List.replicate_zero, Bool.false_eq_true, if_false, if_true, true_and, and_true, Nat.reduceAdd, Nat.reduceSub, Nat.reduceLeDiff, Nat.zero_le, Nat.le_refl, Nat.zero_add, Nat.add_zero, bI_0, bI_1, bI_n, Nat.reduceEqDiff, false_and, and_false, and_self, e_52_0, e_52_1, e_52_4, e_52_7, e_52_10, e_52_11, e_52_12, e_52_13, e_52_14, e_52_17, e_52_18, e_52_19, e_52_22, e_52_23, e_52_24, e_52_27, e_52_28, e_52_30, e_52_33, e_52_34, e_52_36, e_52_39, e_52_40, e_52_43, hs, hn, e6]
  unfold opFeed at hq
  by_cases h5 : sN S 5 ≤ 580
  · simp only [h5, if_true] at hq ⊢
    refine s_put4 hX (by omega) fun G1 hX1 hF1 => ?_
    have q1 := hX1.1
    simp only [ent, entL, isL_int, isL_rf, isL_long, locS, List.length_cons, List.length_nil, List.cons_append, List.nil_append, List.replicate_succ, List.replicate_zero, Bool.false_eq_true, if_false, if_true, true_and, and_true, Nat.reduceAdd, Nat.reduceSub, Nat.reduceLeDiff, Nat.zero_le, Nat.le_refl, Nat.zero_add, Nat.add_zero, bI_0, bI_1, bI_n, Nat.reduceEqDiff, false_and, and_false, and_self, e_52_0, e_52_1, e_52_4, e_52_7, e_52_10, e_52_11, e_52_12, e_52_13, e_52_14, e_52_17, e_52_18, e_52_19, e_52_22, e_52_23, e_52_24, e_52_27, e_52_28, e_52_30, e_52_33, e_52_34, e_52_36, e_52_39, e_52_40, e_52_43, q1]
    refine s_put4 hX1 (show sN S 5 + 4 + 4 ≤ 600 by omega) fun G2 hX2 hF2 => ?_
    have q2 := hX2.1
    simp only [ent, entL, isL_int, isL_rf, isL_long, locS, List.length_cons, List.length_nil, List.cons_append, List.nil_append, List.replicate_succ, List.replicate_zero, Bool.false_eq_true, if_false, if_true, true_and, and_true, Nat.reduceAdd, Nat.reduceSub, Nat.reduceLeDiff, Nat.zero_le, Nat.le_refl, Nat.zero_add, Nat.add_zero, bI_0, bI_1, bI_n, Nat.reduceEqDiff, false_and, and_false, and_self, e_52_0, e_52_1, e_52_4, e_52_7, e_52_10, e_52_11, e_52_12, e_52_13, e_52_14, e_52_17, e_52_18, e_52_19, e_52_22, e_52_23, e_52_24, e_52_27, e_52_28, e_52_30, e_52_33, e_52_34, e_52_36, e_52_39, e_52_40, e_52_43, q2]
    refine s_put4 hX2 (show sN S 5 + 4 + 4 + 4 ≤ 600 by omega) fun G3 hX3 hF3 => ?_
    have q3 := hX3.1
    simp only [ent, entL, isL_int, isL_rf, isL_long, locS, List.length_cons, List.length_nil, List.cons_append, List.nil_append, List.replicate_succ, List.replicate_zero, Bool.false_eq_true, if_false, if_true, true_and, and_true, Nat.reduceAdd, Nat.reduceSub, Nat.reduceLeDiff, Nat.zero_le, Nat.le_refl, Nat.zero_add, Nat.add_zero, bI_0, bI_1, bI_n, Nat.reduceEqDiff, false_and, and_false, and_self, e_52_0, e_52_1, e_52_4, e_52_7, e_52_10, e_52_11, e_52_12, e_52_13, e_52_14, e_52_17, e_52_18, e_52_19, e_52_22, e_52_23, e_52_24, e_52_27, e_52_28, e_52_30, e_52_33, e_52_34, e_52_36, e_52_39, e_52_40, e_52_43, q3]
    refine s_put4 hX3 (show sN S 5 + 4 + 4 + 4 + 4 ≤ 600 by omega) fun G4 hX4 hF4 => ?_
    have q4 := hX4.1
    simp only [ent, entL, isL_int, isL_rf, isL_long, locS, List.length_cons, List.length_nil, List.cons_append, List.nil_append, List.replicate_succ, List.replicate_zero, Bool.false_eq_true, if_false, if_true, true_and, and_true, Nat.reduceAdd, Nat.reduceSub, Nat.reduceLeDiff, Nat.zero_le, Nat.le_refl, Nat.zero_add, Nat.add_zero, bI_0, bI_1, bI_n, Nat.reduceEqDiff, false_and, and_false, and_self, e_52_0, e_52_1, e_52_4, e_52_7, e_52_10, e_52_11, e_52_12, e_52_13, e_52_14, e_52_17, e_52_18, e_52_19, e_52_22, e_52_23, e_52_24, e_52_27, e_52_28, e_52_30, e_52_33, e_52_34, e_52_36, e_52_39, e_52_40, e_52_43, q4]
    refine s_put4 hX4 (show sN S 5 + 4 + 4 + 4 + 4 + 4 ≤ 600 by omega) fun G5 hX5 hF5 => ?_
    have q5 := hX5.1
    have n5 := hX5.2.1.2.2.2.2.1
    simp only [ent, entL, isL_int, isL_rf, isL_long, locS, List.length_cons, List.length_nil, List.cons_append, List.nil_append, List.replicate_succ, List.replicate_zero, Bool.false_eq_true, if_false, if_true, true_and, and_true, Nat.reduceAdd, Nat.reduceSub, Nat.reduceLeDiff, Nat.zero_le, Nat.le_refl, Nat.zero_add, Nat.add_zero, bI_0, bI_1, bI_n, Nat.reduceEqDiff, false_and, and_false, and_self, e_52_0, e_52_1, e_52_4, e_52_7, e_52_10, e_52_11, e_52_12, e_52_13, e_52_14, e_52_17, e_52_18, e_52_19, e_52_22, e_52_23, e_52_24, e_52_27, e_52_28, e_52_30, e_52_33, e_52_34, e_52_36, e_52_39, e_52_40, e_52_43, q5, n5]
    exact hq G5 hX5 (hF1.tr (Nat.le_refl _) (hF2.tr (Nat.le_refl _) (hF3.tr (Nat.le_refl _) (hF4.tr (Nat.le_refl _) hF5))))
  · simp only [h5, if_false] at hq ⊢
    exact hq G hX FX.rf
end
