/-! texts of the program: length, charAt; the token in hand against a text -/
/-- a text of the program at a, with the bytes w -/
def SA (G : Mem) (w : List Int32) (a : Nat) : Prop := ∃ v, mI G 33 0 a = 1 ∧ mI G 30 1 a = 0 ∧ mR G 30 0 a = some v ∧ mK G v = 26 ∧ mN G v = w.length ∧ ∀ k, mE G v k = w.getD k 0
def okW (w : List Int32) : Prop := w.length < 100 ∧ ∀ c, c ∈ w → ((c &&& 255).toUInt32 % 65536).toInt32 = c ∧ narrow .char (.int c) = .int c
section
variable {G : Mem} {w : List Int32} {a : Nat}
set_option maxRecDepth 8000 in
theorem s_coder (h : SA G w a) {d z : Nat} {Q : Rt} : CALL (d + 1) 132 [va_rf (some a)] G z Q = Q (some (.int 0)) G z := by
  obtain ⟨v, h1, h2, h3, h4, h5, h6⟩ := h
  rw [CALL_eq]
  have e : (narrow .byte (.int 0) = .int 0) = True := by simp; decide
  simp only [mxE_132, ent, entL, isL_int, isL_rf, isL_long, locS, List.length_cons, List.length_nil, List.cons_append, List.nil_append, List.replicate_succ, List.replicate_zero, Bool.false_eq_true, if_false, if_true, true_and, and_true, Nat.reduceAdd, Nat.reduceSub, Nat.reduceLeDiff, Nat.zero_le, Nat.le_refl, Nat.zero_add, Nat.add_zero, bI_0, bI_1, bI_n, Nat.reduceEqDiff, false_and, and_false, and_self, e_132_0, e_132_3, e_132_6, e_132_7, e_132_10, e_132_13, e_132_14, h1, h2, show ¬ (1 : Int32) = 0 by decide, e]
set_option maxRecDepth 8000 in
theorem s_isLatin1 (h : SA G w a) {d z : Nat} {Q : Rt} : CALL (d + 1) 133 [va_rf (some a)] G z Q = Q (some (.int 1)) G z := by
  obtain ⟨v, h1, h2, h3, h4, h5, h6⟩ := h
  rw [CALL_eq]
  simp only [mxE_133, ent, entL, isL_int, isL_rf, isL_long, locS, List.length_cons, List.length_nil, List.cons_append, List.nil_append, List.replicate_succ, List.replicate_zero, Bool.false_eq_true, if_false, if_true, true_and, and_true, Nat.reduceAdd, Nat.reduceSub, Nat.reduceLeDiff, Nat.zero_le, Nat.le_refl, Nat.zero_add, Nat.add_zero, bI_0, bI_1, bI_n, Nat.reduceEqDiff, false_and, and_false, and_self, e_133_0, e_133_3, e_133_6, e_133_7, e_133_10, e_133_13, e_133_14, e_133_17, e_133_18, h1, h2, show ¬ (1 : Int32) = 0 by decide, nz_1]
set_option maxRecDepth 8000 in
theorem s_length (h : SA G w a) {d z : Nat} {Q : Rt} : CALL (d + 2) 130 [va_rf (some a)] G z Q = Q (some (.int (nI w.length))) G z := by
  have hh := h
  obtain ⟨v, h1, h2, h3, h4, h5, h6⟩ := h
  rw [CALL_eq]
  have e : ∀ x : Int32, x >>> ((0 : Int32) &&& 31) = x := fun x => by simp
  simp only [mxE_130, ent, entL, isL_int, isL_rf, isL_long, locS, List.length_cons, List.length_nil, List.cons_append, List.nil_append, List.replicate_succ, List.replicate_zero, Bool.false_eq_true, if_false, if_true, true_and, and_true, Nat.reduceAdd, Nat.reduceSub, Nat.reduceLeDiff, Nat.zero_le, Nat.le_refl, Nat.zero_add, Nat.add_zero, bI_0, bI_1, bI_n, Nat.reduceEqDiff, false_and, and_false, and_self, e_130_0, e_130_1, e_130_4, e_130_5, e_130_6, e_130_9, e_130_10, h1, h3, h4, h5, s_coder hh, e]
  rfl
set_option maxRecDepth 8000 in
theorem s_check3 {d z i n : Nat} {r : Option Nat} {Q : Rt} (hi : i < n) (hn : n < 2 ^ 31) : CALL (d + 1) 136 [.int (nI i), .int (nI n), va_rf r] G z Q = Q (some (.int (nI i))) G z := by
  rw [CALL_eq]
  simp only [mxE_136, ent, entL, isL_int, isL_rf, isL_long, locS, List.length_cons, List.length_nil, List.cons_append, List.nil_append, List.replicate_succ, List.replicate_zero, Bool.false_eq_true, if_false, if_true, true_and, and_true, Nat.reduceAdd, Nat.reduceSub, Nat.reduceLeDiff, Nat.zero_le, Nat.le_refl, Nat.zero_add, Nat.add_zero, bI_0, bI_1, bI_n, Nat.reduceEqDiff, false_and, and_false, and_self, e_136_0, e_136_1, e_136_4, e_136_5, e_136_6, e_136_9, e_136_10, e_136_11, e_136_16, e_136_17, n_npos (show i < 2 ^ 31 by omega), n_lt (show i < 2 ^ 31 by omega) hn, hi]
set_option maxRecDepth 8000 in
theorem s_check0 {d z i n : Nat} {Q : Rt} (hi : i < n) (hn : n < 2 ^ 31) : CALL (d + 2) 134 [.int (nI i), .int (nI n)] G z Q = Q none G z := by
  rw [CALL_eq]
  simp only [mxE_134, ent, entL, isL_int, isL_rf, isL_long, locS, List.length_cons, List.length_nil, List.cons_append, List.nil_append, List.replicate_succ, List.replicate_zero, Bool.false_eq_true, if_false, if_true, true_and, and_true, Nat.reduceAdd, Nat.reduceSub, Nat.reduceLeDiff, Nat.zero_le, Nat.le_refl, Nat.zero_add, Nat.add_zero, bI_0, bI_1, bI_n, Nat.reduceEqDiff, false_and, and_false, and_self, e_134_0, e_134_1, e_134_2, e_134_5, e_134_8, e_134_9, s_check3 hi hn]
set_option maxRecDepth 8000 in
theorem s_charAt1 {d z i v : Nat} {Q : Rt} (h4 : mK G v = 26) (h5 : mN G v = w.length) (h6 : ∀ k, mE G v k = w.getD k 0) (hw : okW w) (hi : i < w.length) : CALL (d + 3) 135 [va_rf (some v), .int (nI i)] G z Q = Q (some (.int (w.getD i 0))) G z := by
  have hl := hw.1
  have hm : w.getD i 0 ∈ w := by
    rw [List.getD_eq_getElem?_getD, List.getElem?_eq_getElem hi]
    exact List.getElem_mem hi
  obtain ⟨q1, q2⟩ := hw.2 _ hm
  rw [CALL_eq]
  have e : Int32.ofNat w.length = nI w.length := rfl
  simp only [mxE_135, ent, entL, isL_int, isL_rf, isL_long, locS, List.length_cons, List.length_nil, List.cons_append, List.nil_append, List.replicate_succ, List.replicate_zero, Bool.false_eq_true, if_false, if_true, true_and, and_true, Nat.reduceAdd, Nat.reduceSub, Nat.reduceLeDiff, Nat.zero_le, Nat.le_refl, Nat.zero_add, Nat.add_zero, bI_0, bI_1, bI_n, Nat.reduceEqDiff, false_and, and_false, and_self, e_135_0, e_135_1, e_135_2, e_135_3, e_135_6, e_135_7, e_135_8, e_135_9, e_135_12, e_135_13, e_135_14, h4, h5, e]
  simp only [ent, entL, isL_int, isL_rf, isL_long, locS, List.length_cons, List.length_nil, List.cons_append, List.nil_append, List.replicate_succ, List.replicate_zero, Bool.false_eq_true, if_false, if_true, true_and, and_true, Nat.reduceAdd, Nat.reduceSub, Nat.reduceLeDiff, Nat.zero_le, Nat.le_refl, Nat.zero_add, Nat.add_zero, bI_0, bI_1, bI_n, Nat.reduceEqDiff, false_and, and_false, and_self, s_check0 hi (show w.length < 2 ^ 31 by omega), e_135_6, e_135_7, e_135_8, e_135_9, e_135_12, e_135_13, e_135_14, h4, h5, h6, n_in hi (show w.length < 2 ^ 31 by omega), n_cl (show i < 2 ^ 31 by omega), q1, eq_true q2, or_true]
set_option maxRecDepth 8000 in
theorem s_charAt (h : SA G w a) (hw : okW w) {d z i : Nat} {Q : Rt} (hi : i < w.length) : CALL (d + 4) 131 [va_rf (some a), .int (nI i)] G z Q = Q (some (.int (w.getD i 0))) G z := by
  have hh := h
  have hm : w.getD i 0 ∈ w := by
    rw [List.getD_eq_getElem?_getD, List.getElem?_eq_getElem hi]
    exact List.getElem_mem hi
  obtain ⟨q1, q2⟩ := hw.2 _ hm
  obtain ⟨v, h1, h2, h3, h4, h5, h6⟩ := h
  rw [CALL_eq]
  simp only [mxE_131, ent, entL, isL_int, isL_rf, isL_long, locS, List.length_cons, List.length_nil, List.cons_append, List.nil_append, List.replicate_succ, List.replicate_zero, Bool.false_eq_true, if_false, if_true, true_and, and_true, Nat.reduceAdd, Nat.reduceSub, Nat.reduceLeDiff, Nat.zero_le, Nat.le_refl, Nat.zero_add, Nat.add_zero, bI_0, bI_1, bI_n, Nat.reduceEqDiff, false_and, and_false, and_self, e_131_0, e_131_1, e_131_4, e_131_7, e_131_8, e_131_11, e_131_12, e_131_15, h1, h3, s_isLatin1 hh, show ¬ (1 : Int32) = 0 by decide, s_charAt1 h4 h5 h6 hw hi, eq_true q2]
end
/-- the bytes from s on are those of a list -/
def mtc (T : Nat → Int32) (L : Nat) : Nat → List Int32 → Bool
  | _, [] => true
  | s, c :: w => decide (bA T L s = c) && mtc T L (s + 1) w
def hld (T : Nat → Int32) (L s e : Nat) (w : List Int32) : Bool := decide (e = s + w.length) && mtc T L s w
section
variable {G : Mem} {r b : Nat} {T : Nat → Int32} {L e s : Nat} {a : Nat} {w : List Int32}
set_option maxRecDepth 8000 in
theorem l_hlds (hR : RD G r b T L e s) (hA : SA G w a) (hw : okW w) {d z : Nat} {Q : Rt} : ∀ (q p : List Int32), p ++ q = w → WP (d + 4) 35 Q 20 [some (va_rf (some r)), some (va_rf (some a)), some (.int (nI p.length))] [] G z 0 0 = Q (some (.int (bI (mtc T L (s + p.length) q = true)))) G z := by
  have h1 := hR.1
  have h11 := hR.2.2.2.2.2.2.2.2.2.2
  have hL := hR.2.2.2.2.2.1
  have hs := hR.2.2.2.2.2.2.2.1
  have hA' := hA
  obtain ⟨v, k1, k2, k3, k4, k5, k6⟩ := hA'
  have hl := hw.1
  intro q
  induction q with
  | nil =>
    intro p hp
    have hp' : w = p := by rw [← hp, List.append_nil]
    subst hp'
    rw [e_35_20]
    simp only [ent, entL, isL_int, isL_rf, isL_long, locS, List.length_cons, List.length_nil, List.cons_append, List.nil_append, List.replicate_succ, List.replicate_zero, Bool.false_eq_true, if_false, if_true, true_and, and_true, Nat.reduceAdd, Nat.reduceSub, Nat.reduceLeDiff, Nat.zero_le, Nat.le_refl, Nat.zero_add, Nat.add_zero, bI_0, bI_1, bI_n, Nat.reduceEqDiff, false_and, and_false, and_self, e_35_21, e_35_22, e_35_25, e_35_28, e_35_29, e_35_30, e_35_33, e_35_34, e_35_35, e_35_38, e_35_39, e_35_40, e_35_43, e_35_46, e_35_47, e_35_48, e_35_51, e_35_54, e_35_55, k1, s_length hA, n_le (show w.length < 2 ^ 31 by omega) (show w.length < 2 ^ 31 by omega), nz_1, mtc]
    rfl
  | cons c q ih =>
    intro p hp
    have hlen : w.length = p.length + (q.length + 1) := by rw [← hp, List.length_append, List.length_cons]
    have hc : w.getD p.length 0 = c := by
      rw [← hp, List.getD_eq_getElem?_getD, List.getElem?_append_right (Nat.le_refl _), Nat.sub_self]; rfl
    rw [e_35_20]
    simp only [ent, entL, isL_int, isL_rf, isL_long, locS, List.length_cons, List.length_nil, List.cons_append, List.nil_append, List.replicate_succ, List.replicate_zero, Bool.false_eq_true, if_false, if_true, true_and, and_true, Nat.reduceAdd, Nat.reduceSub, Nat.reduceLeDiff, Nat.zero_le, Nat.le_refl, Nat.zero_add, Nat.add_zero, bI_0, bI_1, bI_n, Nat.reduceEqDiff, false_and, and_false, and_self, e_35_21, e_35_22, e_35_25, e_35_28, e_35_29, e_35_30, e_35_33, e_35_34, e_35_35, e_35_38, e_35_39, e_35_40, e_35_43, e_35_46, e_35_47, e_35_48, e_35_51, e_35_54, e_35_55, k1, s_length hA, n_le (show w.length < 2 ^ 31 by omega) (show p.length < 2 ^ 31 by omega), show ¬ w.length ≤ p.length by omega, h1, h11, n_add, s_byteAt hR (show s + p.length < 2 ^ 31 by omega), s_charAt hA hw (show p.length < w.length by omega), hc, n_1, nz_0, mtc]
    have := ih (p ++ [c]) (by rw [List.append_assoc]; exact hp)
    rw [List.length_append] at this
    by_cases hb : bA T L (s + p.length) = c
    · simp only [hb, if_true, decide_true, Bool.true_and]
      exact this
    · simp only [hb, if_false, decide_false, Bool.false_and, Bool.false_eq_true, bI]
set_option maxRecDepth 8000 in
theorem s_hlds (hR : RD G r b T L e s) (hse : s ≤ e) (hA : SA G w a) (hw : okW w) {d z : Nat} {Q : Rt} : CALL (d + 5) 35 [va_rf (some r), va_rf (some a)] G z Q = Q (some (.int (bI (hld T L s e w = true)))) G z := by
  have h1 := hR.1
  have h10 := hR.2.2.2.2.2.2.2.2.2.1
  have h11 := hR.2.2.2.2.2.2.2.2.2.2
  have hL := hR.2.2.2.2.2.1
  have he := hR.2.2.2.2.2.2.1
  have hA' := hA
  obtain ⟨v, k1, k2, k3, k4, k5, k6⟩ := hA'
  have hl := hw.1
  rw [CALL_eq]
  simp only [mxE_35, ent, entL, isL_int, isL_rf, isL_long, locS, List.length_cons, List.length_nil, List.cons_append, List.nil_append, List.replicate_succ, List.replicate_zero, Bool.false_eq_true, if_false, if_true, true_and, and_true, Nat.reduceAdd, Nat.reduceSub, Nat.reduceLeDiff, Nat.zero_le, Nat.le_refl, Nat.zero_add, Nat.add_zero, bI_0, bI_1, bI_n, Nat.reduceEqDiff, false_and, and_false, and_self, e_35_0, e_35_1, e_35_4, e_35_5, e_35_8, e_35_9, e_35_10, e_35_13, e_35_16, e_35_17, e_35_18, e_35_19, k1, h1, h10, h11, n_sub hse, s_length hA, n_eq (show e - s < 2 ^ 31 by omega) (show w.length < 2 ^ 31 by omega), nz_0]
  unfold hld
  by_cases hb : e - s = w.length
  · have h0 := l_hlds hR hA hw (d := d) (z := z) (Q := Q) w [] rfl
    rw [if_pos hb]
    simp only [show e = s + w.length by omega, decide_true, Bool.true_and]
    exact h0
  · simp only [hb, if_false, show ¬ e = s + w.length by omega, decide_false, Bool.false_and, Bool.false_eq_true, bI]
end
