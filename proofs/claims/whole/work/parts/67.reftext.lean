/-! THE REFERENCE reads a text: blanks, words, numbers -/
def PM (G G' : Mem) : Prop := (∀ a, mK G' a = mK G a) ∧ (∀ a, mN G' a = mN G a) ∧ (∀ c k a, ¬ (c = 8 ∧ (k = 19 ∨ k = 28 ∨ k = 29)) → mI G' c k a = mI G c k a) ∧ (∀ c k a, mR G' c k a = mR G c k a) ∧ (∀ a i, mE G' a i = mE G a i) ∧ ∀ a i, mQ G' a i = mQ G a i
theorem PM.rf {G : Mem} : PM G G := ⟨fun _ => rfl, fun _ => rfl, fun _ _ _ _ => rfl, fun _ _ _ => rfl, fun _ _ => rfl, fun _ _ => rfl⟩
theorem PM.tr {G G1 G2 : Mem} (h : PM G G1) (h2 : PM G1 G2) : PM G G2 :=
  ⟨fun a => (h2.1 a).trans (h.1 a), fun a => (h2.2.1 a).trans (h.2.1 a), fun c k a q => (h2.2.2.1 c k a q).trans (h.2.2.1 c k a q), fun c k a => (h2.2.2.2.1 c k a).trans (h.2.2.2.1 c k a), fun a i => (h2.2.2.2.2.1 a i).trans (h.2.2.2.2.1 a i), fun a i => (h2.2.2.2.2.2 a i).trans (h.2.2.2.2.2 a i)⟩
theorem PM.pI {m k : Nat} {G : Mem} {v : Int32} (hk : k = 19 ∨ k = 28 ∨ k = 29) : PM G (pI G 8 k m v) := by
  refine ⟨fun _ => rfl, fun _ => rfl, fun c k' a q => ?_, fun _ _ _ => rfl, fun _ _ => rfl, fun _ _ => rfl⟩
  have : ¬ (c = 8 ∧ k' = k ∧ a = m) := fun e => q ⟨e.1, by rw [e.2.1]; exact hk⟩
  simp only [memS, this, if_false]
/-- the reference's text: the first L bytes are T's, it stands at p -/
def RT (G : Mem) (m : Nat) (T : Nat → Int32) (L p : Nat) : Prop := MS G m ∧ L ≤ 600 ∧ p ≤ L ∧ mI G 8 18 m = nI L ∧ mI G 8 19 m = nI p ∧ ∀ i, i < L → mE G (m + 12) i = T i
section
variable {G : Mem} {m : Nat} {T : Nat → Int32} {L p : Nat}
theorem RT.to (h : RT G m T L p) {q : Nat} (hq : q ≤ L) : RT (pI G 8 19 m (nI q)) m T L q := by
  obtain ⟨h1, h2, h3, h4, h5, h6⟩ := h
  refine ⟨by simpa [MS, memS] using h1, h2, hq, by simpa [memS] using h4, by simp [memS], fun i hi => by simpa [memS] using h6 i hi⟩
theorem RT.we (h : RT G m T L p) {v : Int32} : RT (pI G 8 28 m v) m T L p := by
  obtain ⟨h1, h2, h3, h4, h5, h6⟩ := h
  refine ⟨by simpa [MS, memS] using h1, h2, h3, by simpa [memS] using h4, by simpa [memS] using h5, fun i hi => by simpa [memS] using h6 i hi⟩
theorem RT.nu (h : RT G m T L p) {v : Int32} : RT (pI G 8 29 m v) m T L p := by
  obtain ⟨h1, h2, h3, h4, h5, h6⟩ := h
  refine ⟨by simpa [MS, memS] using h1, h2, h3, by simpa [memS] using h4, by simpa [memS] using h5, fun i hi => by simpa [memS] using h6 i hi⟩
set_option maxRecDepth 8000 in
theorem l_blanks {d z : Nat} {Q : Rt} : ∀ (n p : Nat) (G1 : Mem), p + n = L → RT G1 m T L p → PM G G1 → (∀ G', RT G' m T L (nt T L p) → PM G G' → Q none G' z) → WP d 96 Q 0 [some (va_rf (some m))] [] G1 z 0 0 := by
  intro n
  induction n with
  | zero =>
    intro p G1 hn hR hF h
    obtain ⟨h1, h2, h3, h4, h5, h6⟩ := id hR
    rw [e_96_0]
    simp only [ent, entL, isL_int, isL_rf, isL_long, locS, List.length_cons, List.length_nil, List.cons_append, List.nil_append, List.replicate_succ, List.replicate_zero, Bool.false_eq_true, if_false, if_true, true_and, and_true, Nat.reduceAdd, Nat.reduceSub, Nat.reduceLeDiff, Nat.zero_le, Nat.le_refl, Nat.zero_add, Nat.add_zero, bI_0, bI_1, bI_n, Nat.reduceEqDiff, false_and, and_false, and_self, e_96_1, e_96_4, e_96_5, e_96_8, e_96_11, e_96_12, e_96_15, e_96_16, e_96_19, e_96_20, e_96_22, e_96_25, e_96_26, e_96_29, e_96_30, e_96_33, e_96_34, e_96_36, e_96_39, e_96_40, e_96_41, e_96_44, e_96_45, e_96_46, e_96_49, e_96_52, h1, h4, h5, n_le (show L < 2 ^ 31 by omega) (show p < 2 ^ 31 by omega), show L ≤ p by omega]
    unfold nt at h
    rw [rn_no (by omega)] at h
    exact h G1 hR hF
  | succ n ih =>
    intro p G1 hn hR hF h
    obtain ⟨h1, h2, h3, h4, h5, h6⟩ := id hR
    rw [e_96_0]
    simp only [ent, entL, isL_int, isL_rf, isL_long, locS, List.length_cons, List.length_nil, List.cons_append, List.nil_append, List.replicate_succ, List.replicate_zero, Bool.false_eq_true, if_false, if_true, true_and, and_true, Nat.reduceAdd, Nat.reduceSub, Nat.reduceLeDiff, Nat.zero_le, Nat.le_refl, Nat.zero_add, Nat.add_zero, bI_0, bI_1, bI_n, Nat.reduceEqDiff, false_and, and_false, and_self, e_96_1, e_96_4, e_96_5, e_96_8, e_96_11, e_96_12, e_96_15, e_96_16, e_96_19, e_96_20, e_96_22, e_96_25, e_96_26, e_96_29, e_96_30, e_96_33, e_96_34, e_96_36, e_96_39, e_96_40, e_96_41, e_96_44, e_96_45, e_96_46, e_96_49, e_96_52, h1, h4, h5, n_le (show L < 2 ^ 31 by omega) (show p < 2 ^ 31 by omega), show ¬ L ≤ p by omega, n_in (show p < 600 by omega) (by decide), n_cl (show p < 2 ^ 31 by omega), h6 p (by omega), n_1, true_or]
    unfold nt at h
    by_cases c1 : T p = 32
    · rw [rn_go (by omega) (by unfold isBl; simp [c1])] at h
      simp only [c1, if_true]
      exact ih (p + 1) _ (by omega) (hR.to (by omega)) (hF.tr (PM.pI (Or.inl rfl))) h
    · by_cases c2 : T p = 10
      · rw [rn_go (by omega) (by unfold isBl; simp [c2])] at h
        simp only [c2, if_true, ite_self]
        exact ih (p + 1) _ (by omega) (hR.to (by omega)) (hF.tr (PM.pI (Or.inl rfl))) h
      · rw [rn_no (fun q => by unfold isBl at q; simp [c1, c2] at q)] at h
        simp only [c1, c2, if_false]
        exact h G1 hR hF
set_option maxRecDepth 8000 in
theorem s_blanks {d z : Nat} {Q : Rt} (hR : RT G m T L p) (h : ∀ G', RT G' m T L (nt T L p) → PM G G' → Q none G' z) : CALL (d + 1) 96 [va_rf (some m)] G z Q := by
  rw [CALL_eq]
  simp only [mxE_96, ent, entL, isL_int, isL_rf, isL_long, locS, List.length_cons, List.length_nil, List.cons_append, List.nil_append, List.replicate_succ, List.replicate_zero, Bool.false_eq_true, if_false, if_true, true_and, and_true, Nat.reduceAdd, Nat.reduceSub, Nat.reduceLeDiff, Nat.zero_le, Nat.le_refl, Nat.zero_add, Nat.add_zero, bI_0, bI_1, bI_n, Nat.reduceEqDiff, false_and, and_false, and_self]
  exact l_blanks (L - p) p G (by have := hR.2.2.1; omega) hR PM.rf h
/-- bytes packed into a number -/
def pk (f : Nat → Nat) : Nat → Nat
  | 0 => 0
  | n + 1 => pk f n * 256 + f n
theorem pk_inj {f g : Nat → Nat} : ∀ (n k : Nat), (∀ i, i < n → 0 < f i ∧ f i < 256) → (∀ i, i < k → 0 < g i ∧ g i < 256) → pk f n = pk g k → n = k ∧ ∀ i, i < n → f i = g i
  | 0, 0, _, _, _ => ⟨rfl, fun i hi => by omega⟩
  | 0, k + 1, _, hg, h => by have := hg k (by omega); rw [pk, pk] at h; omega
  | n + 1, 0, hf, _, h => by have := hf n (by omega); rw [pk, pk] at h; omega
  | n + 1, k + 1, hf, hg, h => by
    have h1 := hf n (by omega)
    have h2 := hg k (by omega)
    rw [pk, pk] at h
    have e1 : f n = g k := by omega
    obtain ⟨e2, e3⟩ := pk_inj n k (fun i hi => hf i (by omega)) (fun i hi => hg i (by omega)) (by omega)
    subst e2
    refine ⟨rfl, fun i hi => ?_⟩
    by_cases q : i = n
    · subst q; exact e1
    · exact e3 i (by omega)
theorem pk_congr {f g : Nat → Nat} : ∀ n, (∀ i, i < n → f i = g i) → pk f n = pk g n
  | 0, _ => rfl
  | n + 1, h => by rw [pk, pk, pk_congr n (fun i hi => h i (by omega)), h n (by omega)]
theorem sh8 {a b : Nat} (ha : a < 2 ^ 48) (hb : b < 256) : (Int64.ofNat a <<< ((8 : Int32).toInt64 &&& 63)) ||| (nI b).toInt64 = Int64.ofNat (a * 256 + b) := by
  have e1 : (8 : Int32).toInt64 &&& 63 = 8 := by decide
  have e2 : (nI b).toInt64 = Int64.ofNat b := by
    apply Int64.toInt_inj.mp
    rw [Int32.toInt_toInt64, nI_toInt (by omega), Int64.toInt_ofNat_of_lt (by omega)]
  rw [e1, e2]
  apply Int64.toBitVec_inj.mp
  apply BitVec.eq_of_toNat_eq
  simp
  have h1 : a % 18446744073709551616 = a := Nat.mod_eq_of_lt (by omega)
  have h2 : b % 18446744073709551616 = b := Nat.mod_eq_of_lt (by omega)
  have h3 : (a * 256 + b) % 18446744073709551616 = a * 256 + b := Nat.mod_eq_of_lt (by omega)
  have h4 : (a * 256) % 18446744073709551616 = a * 256 := Nat.mod_eq_of_lt (by omega)
  have h5 := Nat.shiftLeft_add_eq_or_of_lt (i := 8) (b := b) (by omega) a
  rw [Nat.shiftLeft_eq] at h5
  rw [h1, h2, h3, Nat.shiftLeft_eq, show 2 ^ 8 = 256 by decide, h4, show 256 = 2 ^ 8 by decide, ← h5]
/-- the letters from s on -/
def ltr (T : Nat → Int32) (s i : Nat) : Nat := (T (s + i)).toNatClampNeg
theorem le_n {c : Int32} (h : isLe c = true) : ∃ k, 97 ≤ k ∧ k ≤ 122 ∧ c = nI k := by
  unfold isLe at h
  rw [decide_eq_true_eq] at h
  obtain ⟨k, hk, rfl⟩ := n_rng (x := c) (n := 122) (by decide) (by
      have h1 := h.1
      rw [i_le] at h1 ⊢
      have a1 : (97 : Int32).toInt = 97 := by decide
      have a2 : (0 : Int32).toInt = 0 := by decide
      omega) h.2
  have h1 := h.1
  rw [show (97 : Int32) = nI 97 from rfl, n_le (by decide) (by omega)] at h1
  exact ⟨k, h1, hk, rfl⟩
theorem ltr_b {s i : Nat} (h : isLe (T (s + i)) = true) : 0 < ltr T s i ∧ ltr T s i < 256 ∧ T (s + i) = nI (ltr T s i) := by
  obtain ⟨k, h1, h2, e⟩ := le_n h
  unfold ltr
  rw [e, n_cl (by omega)]
  exact ⟨by omega, by omega, rfl⟩
def wv (T : Nat → Int32) (s n : Nat) : Int64 := if n ≤ 7 then Int64.ofNat (pk (ltr T s) n) else 0
theorem pkl_lt {f : Nat → Nat} : ∀ n, (∀ i, i < n → f i < 256) → pk f n < 256 ^ n
  | 0, _ => by rw [pk]; decide
  | n + 1, hf => by have := pkl_lt n (fun i hi => hf i (by omega)); have := hf n (by omega); rw [pk, Nat.pow_succ]; omega
set_option maxRecDepth 8000 in
theorem l_word {d z s : Nat} {Q : Rt} : ∀ (n i : Nat) (G1 : Mem), s + i + n = L → RT G1 m T L s → mI G1 8 28 m = nI (s + i) → (∀ j, j < i → isLe (T (s + j)) = true) → PM G G1 → (∀ G', RT G' m T L s → mI G' 8 28 m = nI (rn isLe T L (s + i)) → PM G G' → Q (some (.long (wv T s (rn isLe T L (s + i) - s)))) G' z) → WP d 97 Q 14 [some (va_rf (some m)), some (.long (wv T s i)), none] [] G1 z 0 0 := by
  intro n
  induction n with
  | zero =>
    intro i G1 hn hR hE hl hF h
    obtain ⟨h1, h2, h3, h4, h5, h6⟩ := id hR
    rw [e_97_14]
    simp only [ent, entL, isL_int, isL_rf, isL_long, locS, List.length_cons, List.length_nil, List.cons_append, List.nil_append, List.replicate_succ, List.replicate_zero, Bool.false_eq_true, if_false, if_true, true_and, and_true, Nat.reduceAdd, Nat.reduceSub, Nat.reduceLeDiff, Nat.zero_le, Nat.le_refl, Nat.zero_add, Nat.add_zero, bI_0, bI_1, bI_n, Nat.reduceEqDiff, false_and, and_false, and_self, e_97_15, e_97_18, e_97_19, e_97_22, e_97_25, e_97_26, e_97_29, e_97_30, e_97_33, e_97_34, e_97_36, e_97_39, e_97_40, e_97_43, e_97_44, e_97_47, e_97_48, e_97_50, e_97_53, e_97_54, e_97_57, e_97_58, e_97_61, e_97_62, e_97_64, e_97_67, e_97_68, e_97_70, e_97_71, e_97_72, e_97_75, e_97_76, e_97_79, e_97_80, e_97_81, e_97_82, e_97_85, e_97_86, e_97_87, e_97_88, e_97_89, e_97_92, e_97_93, e_97_94, e_97_97, e_97_100, e_97_101, e_97_104, e_97_105, e_97_108, e_97_109, e_97_111, e_97_114, e_97_115, e_97_118, e_97_119, h1, h4, h5, hE, n_le (show L < 2 ^ 31 by omega) (show s + i < 2 ^ 31 by omega), show L ≤ s + i by omega, n_sub (show s ≤ s + i by omega), show (7 : Int32) = nI 7 from rfl, n_le (show s + i - s < 2 ^ 31 by omega) (show 7 < 2 ^ 31 by decide)]
    rw [rn_no (by omega)] at h
    have h := h G1 hR hE hF
    rw [show s + i - s = i by omega] at h ⊢
    unfold wv at h ⊢
    by_cases c : i ≤ 7
    · simp only [c, if_true] at h ⊢; exact h
    · simp only [c, if_false] at h ⊢; exact h
  | succ n ih =>
    intro i G1 hn hR hE hl hF h
    obtain ⟨h1, h2, h3, h4, h5, h6⟩ := id hR
    rw [e_97_14]
    simp only [ent, entL, isL_int, isL_rf, isL_long, locS, List.length_cons, List.length_nil, List.cons_append, List.nil_append, List.replicate_succ, List.replicate_zero, Bool.false_eq_true, if_false, if_true, true_and, and_true, Nat.reduceAdd, Nat.reduceSub, Nat.reduceLeDiff, Nat.zero_le, Nat.le_refl, Nat.zero_add, Nat.add_zero, bI_0, bI_1, bI_n, Nat.reduceEqDiff, false_and, and_false, and_self, e_97_15, e_97_18, e_97_19, e_97_22, e_97_25, e_97_26, e_97_29, e_97_30, e_97_33, e_97_34, e_97_36, e_97_39, e_97_40, e_97_43, e_97_44, e_97_47, e_97_48, e_97_50, e_97_53, e_97_54, e_97_57, e_97_58, e_97_61, e_97_62, e_97_64, e_97_67, e_97_68, e_97_70, e_97_71, e_97_72, e_97_75, e_97_76, e_97_79, e_97_80, e_97_81, e_97_82, e_97_85, e_97_86, e_97_87, e_97_88, e_97_89, e_97_92, e_97_93, e_97_94, e_97_97, e_97_100, e_97_101, e_97_104, e_97_105, e_97_108, e_97_109, e_97_111, e_97_114, e_97_115, e_97_118, e_97_119, h1, h4, h5, hE, n_le (show L < 2 ^ 31 by omega) (show s + i < 2 ^ 31 by omega), show ¬ L ≤ s + i by omega, n_sub (show s ≤ s + i by omega), show (7 : Int32) = nI 7 from rfl, n_le (show s + i - s < 2 ^ 31 by omega) (show 7 < 2 ^ 31 by decide), n_le (show 7 < 2 ^ 31 by decide) (show s + i - s < 2 ^ 31 by omega), n_in (show s + i < 600 by omega) (by decide), n_cl (show s + i < 2 ^ 31 by omega), h6 (s + i) (by omega), true_or, n_1]
    by_cases c : isLe (T (s + i)) = true
    · obtain ⟨k1, k2, k3⟩ := ltr_b c
      have c' := c
      unfold isLe at c'
      rw [decide_eq_true_eq] at c'
      have c1 : ¬ T (s + i) < 97 := by rw [not_lt']; exact c'.1
      have c2 : ¬ 122 < T (s + i) := by rw [not_lt']; exact c'.2
      simp only [c1, c2, if_false]
      rw [rn_go (by omega) c] at h
      have ih' := ih (i + 1) (pI G1 8 28 m (nI (s + i + 1))) (by omega) hR.we (by simp [memS]; rfl) (fun j hj => by
        by_cases q : j = i
        · subst q; exact c
        · exact hl j (by omega)) (hF.tr (PM.pI (Or.inr (Or.inl rfl)))) h
      have ew : wv T s (i + 1) = if 7 ≤ s + i - s then 0 else (wv T s i <<< ((8 : Int32).toInt64 &&& 63)) ||| (T (s + i)).toInt64 := by
        unfold wv
        by_cases q : i + 1 ≤ 7
        · rw [if_pos q, if_neg (by omega), if_pos (by omega), pk, k3]
          have hp := pkl_lt (f := ltr T s) i (fun j hj => (ltr_b (hl j hj)).2.1)
          have : (256 : Nat) ^ i ≤ 256 ^ 6 := Nat.pow_le_pow_right (by decide) (by omega)
          have e3 : ltr T s i = ltr T s i := rfl
          rw [sh8 (by omega) k2]
        · rw [if_neg q, if_pos (by omega)]
      rw [ew] at ih'
      by_cases q : 7 ≤ s + i - s
      · simp only [q, if_true] at ih' ⊢; exact ih'
      · simp only [q, if_false] at ih' ⊢; exact ih'
    · have hno : rn isLe T L (s + i) = s + i := rn_no (fun q => c q.2)
      rw [hno] at h
      have h := h G1 hR hE hF
      rw [show s + i - s = i by omega] at h ⊢
      have hfin : (if i ≤ 7 then Q (some (.long (wv T s i))) G1 z else Q (some (.long 0)) G1 z) := by
        unfold wv at h ⊢
        by_cases q : i ≤ 7
        · simp only [q, if_true] at h ⊢; exact h
        · simp only [q, if_false] at h ⊢; exact h
      by_cases c1 : T (s + i) < 97
      · simp only [c1, if_true]; exact hfin
      · have c2 : 122 < T (s + i) := by
          rw [← not_le']
          intro q
          exact c (by unfold isLe; rw [decide_eq_true_eq]; exact ⟨by rw [← not_lt']; exact c1, q⟩)
        simp only [c1, c2, if_true, if_false]; exact hfin
set_option maxRecDepth 8000 in
theorem s_word {d z : Nat} {Q : Rt} (hR : RT G m T L p) (h : ∀ G', RT G' m T L (nt T L p) → mI G' 8 28 m = nI (rn isLe T L (nt T L p)) → PM G G' → Q (some (.long (wv T (nt T L p) (rn isLe T L (nt T L p) - nt T L p)))) G' z) : CALL (d + 2) 97 [va_rf (some m)] G z Q := by
  have h1 := hR.1
  rw [CALL_eq]
  simp only [mxE_97, ent, entL, isL_int, isL_rf, isL_long, locS, List.length_cons, List.length_nil, List.cons_append, List.nil_append, List.replicate_succ, List.replicate_zero, Bool.false_eq_true, if_false, if_true, true_and, and_true, Nat.reduceAdd, Nat.reduceSub, Nat.reduceLeDiff, Nat.zero_le, Nat.le_refl, Nat.zero_add, Nat.add_zero, bI_0, bI_1, bI_n, Nat.reduceEqDiff, false_and, and_false, and_self, e_97_0, e_97_1, h1]
  refine s_blanks hR fun G1 hR1 hF1 => ?_
  obtain ⟨g1, g2, g3, g4, g5, g6⟩ := id hR1
  simp only [ent, entL, isL_int, isL_rf, isL_long, locS, List.length_cons, List.length_nil, List.cons_append, List.nil_append, List.replicate_succ, List.replicate_zero, Bool.false_eq_true, if_false, if_true, true_and, and_true, Nat.reduceAdd, Nat.reduceSub, Nat.reduceLeDiff, Nat.zero_le, Nat.le_refl, Nat.zero_add, Nat.add_zero, bI_0, bI_1, bI_n, Nat.reduceEqDiff, false_and, and_false, and_self, e_97_4, e_97_5, e_97_6, e_97_9, e_97_12, e_97_13, g1, g5]
  refine l_word (L - nt T L p) 0 _ (by omega) hR1.we (by simp [memS]) (fun j hj => by omega) (hF1.tr (PM.pI (Or.inr (Or.inl rfl)))) h
/-- a word as a number -/
def pkW (w : List Int32) : Nat := pk (fun i => (w.getD i 0).toNatClampNeg) w.length
theorem wv_wd {s : Nat} {w : List Int32} (hs : s ≤ L) (hw : isW w) (h7 : w.length ≤ 7) : (wv T s (rn isLe T L s - s) = Int64.ofNat (pkW w)) = (wd T L s w = true) := by
  have hge := rn_ge (p := isLe) (T := T) (L := L) s
  have hle := rn_le (p := isLe) (T := T) (L := L) hs
  have hall : ∀ i, i < rn isLe T L s - s → isLe (T (s + i)) = true := fun i hi => rn_all (p := isLe) (T := T) (L := L) (L - s) s (by omega) (s + i) (by omega) (by omega)
  have hwb : ∀ i, i < w.length → 0 < (w.getD i 0).toNatClampNeg ∧ (w.getD i 0).toNatClampNeg < 256 ∧ w.getD i 0 = nI ((w.getD i 0).toNatClampNeg) := fun i hi => by
    obtain ⟨k, k1, k2, e⟩ := le_n (hw.2 i hi)
    rw [e, n_cl (by omega)]
    exact ⟨by omega, by omega, rfl⟩
  have hpw : pkW w < 2 ^ 56 := by
    have := pkl_lt (f := fun i => (w.getD i 0).toNatClampNeg) w.length (fun i hi => (hwb i hi).2.1)
    have h2 : (256 : Nat) ^ w.length ≤ 256 ^ 7 := Nat.pow_le_pow_right (by decide) h7
    unfold pkW
    omega
  have hpw0 : 0 < pkW w := by
    have h0 := hw.1
    unfold pkW
    cases hl : w.length with
    | zero => omega
    | succ n => rw [pk]; have := (hwb n (by omega)).1; omega
  unfold wd wv
  rw [Bool.and_eq_true, decide_eq_true_eq]
  refine propext ⟨fun h => ?_, fun h => ?_⟩
  · by_cases c : rn isLe T L s - s ≤ 7
    · rw [if_pos c] at h
      have hp := pkl_lt (f := ltr T s) _ (fun j hj => (ltr_b (hall j hj)).2.1)
      have h2 : (256 : Nat) ^ (rn isLe T L s - s) ≤ 256 ^ 7 := Nat.pow_le_pow_right (by decide) c
      have h := congrArg Int64.toInt h
      rw [Int64.toInt_ofNat_of_lt (by omega), Int64.toInt_ofNat_of_lt (by omega)] at h
      have h : pk (ltr T s) (rn isLe T L s - s) = pk (fun i => (w.getD i 0).toNatClampNeg) w.length := by unfold pkW at h; omega
      obtain ⟨e1, e2⟩ := pk_inj _ _ (fun i hi => ⟨(ltr_b (hall i hi)).1, (ltr_b (hall i hi)).2.1⟩) (fun i hi => ⟨(hwb i hi).1, (hwb i hi).2.1⟩) h
      refine ⟨by omega, (mtc_iff w s).mpr fun k hk => ?_⟩
      unfold bA
      rw [if_pos (by omega), (ltr_b (hall k (by omega))).2.2, e2 k (by omega)]
      exact (hwb k hk).2.2.symm
    · rw [if_neg c] at h
      have h := congrArg Int64.toInt h
      rw [Int64.toInt_ofNat_of_lt (by omega), show (0 : Int64).toInt = 0 by decide] at h
      omega
  · have e : rn isLe T L s - s = w.length := by omega
    rw [e, if_pos h7]
    unfold pkW
    congr 1
    refine pk_congr _ fun i hi => ?_
    have := (mtc_iff w s).mp h.2 i hi
    unfold bA at this
    rw [if_pos (by omega)] at this
    unfold ltr
    rw [this]
set_option maxRecDepth 8000 in
theorem s_takes {d z : Nat} {W : Int64} {w : List Int32} {Q : Rt} (hR : RT G m T L p) (hw : isW w) (h7 : w.length ≤ 7) (hW : W = Int64.ofNat (pkW w)) (h : ∀ G', RT G' m T L (if wd T L (nt T L p) w = true then nt T L p + w.length else nt T L p) → PM G G' → Q (some (.int (bI (wd T L (nt T L p) w = true)))) G' z) : CALL (d + 3) 98 [va_rf (some m), .long W] G z Q := by
  have h1 := hR.1
  have hp := hR.2.2.1
  rw [CALL_eq]
  simp only [mxE_98, ent, entL, isL_int, isL_rf, isL_long, locS, List.length_cons, List.length_nil, List.cons_append, List.nil_append, List.replicate_succ, List.replicate_zero, Bool.false_eq_true, if_false, if_true, true_and, and_true, Nat.reduceAdd, Nat.reduceSub, Nat.reduceLeDiff, Nat.zero_le, Nat.le_refl, Nat.zero_add, Nat.add_zero, bI_0, bI_1, bI_n, Nat.reduceEqDiff, false_and, and_false, and_self, e_98_0, e_98_1, h1]
  refine s_word hR fun G1 hR1 hE hF1 => ?_
  obtain ⟨g1, g2, g3, g4, g5, g6⟩ := id hR1
  simp only [ent, entL, isL_int, isL_rf, isL_long, locS, List.length_cons, List.length_nil, List.cons_append, List.nil_append, List.replicate_succ, List.replicate_zero, Bool.false_eq_true, if_false, if_true, true_and, and_true, Nat.reduceAdd, Nat.reduceSub, Nat.reduceLeDiff, Nat.zero_le, Nat.le_refl, Nat.zero_add, Nat.add_zero, bI_0, bI_1, bI_n, Nat.reduceEqDiff, false_and, and_false, and_self, e_98_4, e_98_5, e_98_6, e_98_9, e_98_10, e_98_11, e_98_12, e_98_13, e_98_16, e_98_19, e_98_20, g1, hE, lg_cmp_eq, hW, wv_wd g3 hw h7, nz_0, nz_1]
  by_cases c : wd T L (nt T L p) w = true
  · simp only [c, if_true, bI] at h ⊢
    have hc := c
    unfold wd at hc
    rw [Bool.and_eq_true, decide_eq_true_eq] at hc
    rw [hc.1]
    exact h _ (hR1.to (wd_le hw c)) (hF1.tr (PM.pI (Or.inl rfl)))
  · simp only [c, if_false, bI] at h ⊢
    exact h _ hR1 hF1
set_option maxRecDepth 8000 in
theorem l_num8 {d z s : Nat} {Q : Rt} : ∀ (n i : Nat) (G1 : Mem), s + i + n = L → RT G1 m T L s → (i ≤ 3 → mI G1 8 29 m = nv T s i) → PM G G1 → (∀ G', RT G' m T L s → (rn isDi T L (s + i) ≤ s + 3 → mI G' 8 29 m = nv T s (rn isDi T L (s + i) - s)) → PM G G' → WP d 99 Q 81 [some (va_rf (some m)), some (.int (nI (rn isDi T L (s + i))))] [] G' z 0 0) → WP d 99 Q 14 [some (va_rf (some m)), some (.int (nI (s + i)))] [] G1 z 0 0 := by
  intro n
  induction n with
  | zero =>
    intro i G1 hn hR hE hF h
    obtain ⟨h1, h2, h3, h4, h5, h6⟩ := id hR
    rw [e_99_14]
    simp only [ent, entL, isL_int, isL_rf, isL_long, locS, List.length_cons, List.length_nil, List.cons_append, List.nil_append, List.replicate_succ, List.replicate_zero, Bool.false_eq_true, if_false, if_true, true_and, and_true, Nat.reduceAdd, Nat.reduceSub, Nat.reduceLeDiff, Nat.zero_le, Nat.le_refl, Nat.zero_add, Nat.add_zero, bI_0, bI_1, bI_n, Nat.reduceEqDiff, false_and, and_false, and_self, e_99_15, e_99_16, e_99_19, h1, h4, n_le (show L < 2 ^ 31 by omega) (show s + i < 2 ^ 31 by omega), show L ≤ s + i by omega]
    rw [rn_no (by omega)] at h
    exact h G1 hR (fun q => by rw [show s + i - s = i by omega]; exact hE (by omega)) hF
  | succ n ih =>
    intro i G1 hn hR hE hF h
    obtain ⟨h1, h2, h3, h4, h5, h6⟩ := id hR
    rw [e_99_14]
    simp only [ent, entL, isL_int, isL_rf, isL_long, locS, List.length_cons, List.length_nil, List.cons_append, List.nil_append, List.replicate_succ, List.replicate_zero, Bool.false_eq_true, if_false, if_true, true_and, and_true, Nat.reduceAdd, Nat.reduceSub, Nat.reduceLeDiff, Nat.zero_le, Nat.le_refl, Nat.zero_add, Nat.add_zero, bI_0, bI_1, bI_n, Nat.reduceEqDiff, false_and, and_false, and_self, e_99_15, e_99_16, e_99_19, e_99_22, e_99_23, e_99_26, e_99_27, e_99_28, e_99_30, e_99_33, e_99_34, e_99_37, e_99_38, e_99_39, e_99_41, e_99_44, e_99_45, e_99_46, e_99_49, e_99_50, e_99_51, e_99_54, e_99_55, e_99_57, e_99_58, e_99_61, e_99_62, e_99_63, e_99_66, e_99_67, e_99_68, e_99_69, e_99_71, e_99_72, e_99_75, e_99_78, h1, h4, h5, n_le (show L < 2 ^ 31 by omega) (show s + i < 2 ^ 31 by omega), show ¬ L ≤ s + i by omega, n_sub (show s ≤ s + i by omega), show (3 : Int32) = nI 3 from rfl, n_le (show 3 < 2 ^ 31 by decide) (show s + i - s < 2 ^ 31 by omega), n_in (show s + i < 600 by omega) (by decide), n_cl (show s + i < 2 ^ 31 by omega), h6 (s + i) (by omega), true_or, n_1]
    by_cases c : isDi (T (s + i)) = true
    · have c' := c
      unfold isDi at c'
      rw [decide_eq_true_eq] at c'
      have c1 : ¬ T (s + i) < 48 := by rw [not_lt']; exact c'.1
      have c2 : ¬ 57 < T (s + i) := by rw [not_lt']; exact c'.2
      simp only [c1, c2, if_false]
      rw [rn_go (by omega) c] at h
      by_cases q : 3 ≤ s + i - s
      · simp only [q, if_true]
        exact ih (i + 1) G1 (by omega) hR (fun q => by omega) hF h
      · simp only [q, if_false]
        refine ih (i + 1) _ (by omega) hR.nu (fun _ => ?_) (hF.tr (PM.pI (Or.inr (Or.inr rfl)))) h
        simp only [memS, if_true, and_self]
        rw [hE (by omega), nv, Int32.mul_comm]
    · have hno : rn isDi T L (s + i) = s + i := rn_no (fun q => c q.2)
      rw [hno] at h
      have h := h G1 hR (fun q => by rw [show s + i - s = i by omega]; exact hE (by omega)) hF
      by_cases c1 : T (s + i) < 48
      · simp only [c1, if_true]; exact h
      · have c2 : 57 < T (s + i) := by
          rw [← not_le']
          intro q
          exact c (by unfold isDi; rw [decide_eq_true_eq]; exact ⟨by rw [← not_lt']; exact c1, q⟩)
        simp only [c1, c2, if_true, if_false]; exact h
set_option maxRecDepth 8000 in
theorem s_num8 {d z : Nat} {Q : Rt} (hR : RT G m T L p) (h1 : ∀ v e G', nmb T L (nt T L p) = some (v, e) → RT G' m T L e → mI G' 8 29 m = v → PM G G' → Q (some (.int 1)) G' z) (h2 : ∀ G', nmb T L (nt T L p) = none → RT G' m T L (nt T L p) → PM G G' → Q (some (.int 0)) G' z) : CALL (d + 2) 99 [va_rf (some m)] G z Q := by
  have k1 := hR.1
  rw [CALL_eq]
  simp only [mxE_99, ent, entL, isL_int, isL_rf, isL_long, locS, List.length_cons, List.length_nil, List.cons_append, List.nil_append, List.replicate_succ, List.replicate_zero, Bool.false_eq_true, if_false, if_true, true_and, and_true, Nat.reduceAdd, Nat.reduceSub, Nat.reduceLeDiff, Nat.zero_le, Nat.le_refl, Nat.zero_add, Nat.add_zero, bI_0, bI_1, bI_n, Nat.reduceEqDiff, false_and, and_false, and_self, e_99_0, e_99_1, k1]
  refine s_blanks hR fun G1 hR1 hF1 => ?_
  obtain ⟨g1, g2, g3, g4, g5, g6⟩ := id hR1
  simp only [ent, entL, isL_int, isL_rf, isL_long, locS, List.length_cons, List.length_nil, List.cons_append, List.nil_append, List.replicate_succ, List.replicate_zero, Bool.false_eq_true, if_false, if_true, true_and, and_true, Nat.reduceAdd, Nat.reduceSub, Nat.reduceLeDiff, Nat.zero_le, Nat.le_refl, Nat.zero_add, Nat.add_zero, bI_0, bI_1, bI_n, Nat.reduceEqDiff, false_and, and_false, and_self, e_99_4, e_99_5, e_99_8, e_99_9, e_99_10, e_99_11, g1, g5]
  unfold nmb at h1 h2
  generalize nt T L p = s at *
  refine l_num8 (L - s) 0 _ (by omega) hR1.nu (fun _ => by simp [memS]; rfl) (hF1.tr (PM.pI (Or.inr (Or.inr rfl)))) fun G2 hR2 hE2 hF2 => ?_
  rw [Nat.add_zero] at hE2 ⊢
  have hge := rn_ge (p := isDi) (T := T) (L := L) s
  have hle := rn_le (p := isDi) (T := T) (L := L) g3
  obtain ⟨f1, f2, f3, f4, f5, f6⟩ := id hR2
  simp only [ent, entL, isL_int, isL_rf, isL_long, locS, List.length_cons, List.length_nil, List.cons_append, List.nil_append, List.replicate_succ, List.replicate_zero, Bool.false_eq_true, if_false, if_true, true_and, and_true, Nat.reduceAdd, Nat.reduceSub, Nat.reduceLeDiff, Nat.zero_le, Nat.le_refl, Nat.zero_add, Nat.add_zero, bI_0, bI_1, bI_n, Nat.reduceEqDiff, false_and, and_false, and_self, e_99_81, e_99_82, e_99_83, e_99_86, e_99_89, e_99_90, e_99_91, e_99_94, e_99_95, e_99_96, e_99_99, e_99_100, e_99_101, e_99_102, e_99_103, e_99_106, e_99_107, f1, f5, n_eq (show rn isDi T L s < 2 ^ 31 by omega) (show s < 2 ^ 31 by omega), n_sub hge, show (3 : Int32) = nI 3 from rfl, n_le (show rn isDi T L s - s < 2 ^ 31 by omega) (show 3 < 2 ^ 31 by decide), nz_0, nz_1]
  by_cases c1 : rn isDi T L s = s
  · rw [if_neg (by omega)] at h2
    simp only [c1, if_true]
    exact h2 _ rfl hR2 hF2
  · by_cases c2 : rn isDi T L s ≤ s + 3
    · rw [if_pos ⟨by omega, c2⟩] at h1
      simp only [c1, show rn isDi T L s - s ≤ 3 by omega, if_true, if_false]
      exact h1 _ _ _ rfl (hR2.to hle) (by simp only [memS]; simp; exact hE2 c2) (hF2.tr (PM.pI (Or.inl rfl)))
    · rw [if_neg (by omega)] at h2
      simp only [c1, show ¬ rn isDi T L s - s ≤ 3 by omega, if_false]
      exact h2 _ rfl hR2 hF2
end
