/-! THE TEXT of a contract: blanks, words, numbers; the class's reader -/
def isBl (c : Int32) : Bool := decide (c = 32 ∨ c = 10)
def isLe (c : Int32) : Bool := decide (97 ≤ c ∧ c ≤ 122)
def isDi (c : Int32) : Bool := decide (48 ≤ c ∧ c ≤ 57)
/-- the end of a run of bytes, with at most n of them -/
def run (p : Int32 → Bool) (T : Nat → Int32) (L : Nat) : Nat → Nat → Nat
  | 0, i => i
  | n + 1, i => if i < L ∧ p (T i) = true then run p T L n (i + 1) else i
def rn (p : Int32 → Bool) (T : Nat → Int32) (L i : Nat) : Nat := run p T L (L - i) i
theorem rn_go {p : Int32 → Bool} {T : Nat → Int32} {L i : Nat} (h : i < L) (hp : p (T i) = true) : rn p T L i = rn p T L (i + 1) := by
  unfold rn
  rw [show L - i = (L - (i + 1)) + 1 by omega, run, if_pos ⟨h, hp⟩]
theorem rn_no {p : Int32 → Bool} {T : Nat → Int32} {L i : Nat} (h : ¬ (i < L ∧ p (T i) = true)) : rn p T L i = i := by
  unfold rn
  cases hq : L - i with
  | zero => rfl
  | succ n => rw [run, if_neg h]
theorem run_le {p : Int32 → Bool} {T : Nat → Int32} {L : Nat} : ∀ n i, i ≤ run p T L n i ∧ (i ≤ L → run p T L n i ≤ L)
  | 0, i => ⟨Nat.le_refl _, fun h => h⟩
  | n + 1, i => by
    unfold run
    split
    · rename_i h
      have := run_le (p := p) (T := T) (L := L) n (i + 1)
      exact ⟨by omega, fun _ => this.2 (by omega)⟩
    · exact ⟨Nat.le_refl _, fun h => h⟩
/-- a byte of the text, 0 behind its end -/
def bA (T : Nat → Int32) (L i : Nat) : Int32 := if i < L then T i else 0
theorem bA_b {T : Nat → Int32} {L i : Nat} : isBl (bA T L i) = (decide (i < L) && isBl (T i)) := by
  unfold bA; by_cases h : i < L <;> simp [h]; decide
theorem bA_l {T : Nat → Int32} {L i : Nat} : isLe (bA T L i) = (decide (i < L) && isLe (T i)) := by
  unfold bA; by_cases h : i < L <;> simp [h]; decide
theorem bA_d {T : Nat → Int32} {L i : Nat} : isDi (bA T L i) = (decide (i < L) && isDi (T i)) := by
  unfold bA; by_cases h : i < L <;> simp [h]; decide
/-- the reader at r, over the bytes at b: length, end and start of its token -/
abbrev RD (G : Mem) (r b : Nat) (T : Nat → Int32) (L e s : Nat) : Prop := mK G r = 3 ∧ mR G 3 0 r = some b ∧ mK G b = 21 ∧ mN G b = 600 ∧ (∀ i, mE G b i = T i) ∧ L ≤ 600 ∧ e ≤ L ∧ s ≤ L ∧ mI G 3 1 r = nI L ∧ mI G 3 2 r = nI e ∧ mI G 3 3 r = nI s
section
variable {G : Mem} {r b : Nat} {T : Nat → Int32} {L e s : Nat}
set_option maxRecDepth 8000 in
theorem s_byteAt (h : RD G r b T L e s) {d z i : Nat} (hi : i < 2 ^ 31) {Q : Rt} : CALL (d + 1) 36 [va_rf (some r), .int (nI i)] G z Q = Q (some (.int (bA T L i))) G z := by
  obtain ⟨h1, h2, h3, h4, h5, h6, h7, h8, h9, h10, h11⟩ := h
  rw [CALL_eq]
  simp only [mxE_36, ent, entL, isL_int, isL_rf, isL_long, locS, List.length_cons, List.length_nil, List.cons_append, List.nil_append, List.replicate_succ, List.replicate_zero, Bool.false_eq_true, if_false, if_true, true_and, and_true, Nat.reduceAdd, Nat.reduceSub, Nat.reduceLeDiff, Nat.zero_le, Nat.le_refl, Nat.zero_add, Nat.add_zero, bI_0, bI_1, bI_n, Nat.reduceEqDiff, false_and, and_false, and_self, e_36_0, e_36_1, e_36_4, e_36_5, e_36_6, e_36_9, e_36_12, e_36_13, e_36_16, e_36_17, e_36_18, e_36_21, e_36_22, h1, h2, h3, h4, h5, h9, n_npos hi, n_le (show L < 2 ^ 31 by omega) hi, if_false, n_cl hi, true_or]
  unfold bA
  by_cases q : i < L
  · simp only [show ¬ L ≤ i by omega, q, if_true, if_false, n_in (show i < 600 by omega) (by decide), true_and]
  · simp only [show L ≤ i by omega, q, if_true, if_false]
set_option maxRecDepth 8000 in
theorem s_isBlank (h : RD G r b T L e s) {d z i : Nat} (hi : i < 2 ^ 31) {Q : Rt} : CALL (d + 2) 37 [va_rf (some r), .int (nI i)] G z Q = Q (some (.int (bI ((decide (i < L) && isBl (T i)) = true)))) G z := by
  have h1 := h.1
  rw [CALL_eq, ← bA_b]
  simp only [mxE_37, ent, entL, isL_int, isL_rf, isL_long, locS, List.length_cons, List.length_nil, List.cons_append, List.nil_append, List.replicate_succ, List.replicate_zero, Bool.false_eq_true, if_false, if_true, true_and, and_true, Nat.reduceAdd, Nat.reduceSub, Nat.reduceLeDiff, Nat.zero_le, Nat.le_refl, Nat.zero_add, Nat.add_zero, bI_0, bI_1, bI_n, Nat.reduceEqDiff, false_and, and_false, and_self, e_37_0, e_37_1, e_37_2, e_37_5, e_37_7, e_37_10, e_37_11, e_37_12, e_37_15, e_37_17, e_37_20, e_37_21, e_37_24, e_37_25, h1, s_byteAt h hi, nz_0, nz_1]
  unfold isBl
  by_cases c1 : bA T L i = 32
  · simp [c1, bI]
  · by_cases c2 : bA T L i = 10
    · simp [c1, c2, bI]
    · simp [c1, c2, bI]
set_option maxRecDepth 8000 in
theorem s_isLetter (h : RD G r b T L e s) {d z i : Nat} (hi : i < 2 ^ 31) {Q : Rt} : CALL (d + 2) 38 [va_rf (some r), .int (nI i)] G z Q = Q (some (.int (bI ((decide (i < L) && isLe (T i)) = true)))) G z := by
  have h1 := h.1
  rw [CALL_eq, ← bA_l]
  simp only [mxE_38, ent, entL, isL_int, isL_rf, isL_long, locS, List.length_cons, List.length_nil, List.cons_append, List.nil_append, List.replicate_succ, List.replicate_zero, Bool.false_eq_true, if_false, if_true, true_and, and_true, Nat.reduceAdd, Nat.reduceSub, Nat.reduceLeDiff, Nat.zero_le, Nat.le_refl, Nat.zero_add, Nat.add_zero, bI_0, bI_1, bI_n, Nat.reduceEqDiff, false_and, and_false, and_self, e_38_0, e_38_1, e_38_2, e_38_5, e_38_7, e_38_9, e_38_12, h1, s_byteAt h hi, s_isWithin, isLe, decide_eq_true_eq]
set_option maxRecDepth 8000 in
theorem s_isDigit (h : RD G r b T L e s) {d z i : Nat} (hi : i < 2 ^ 31) {Q : Rt} : CALL (d + 2) 39 [va_rf (some r), .int (nI i)] G z Q = Q (some (.int (bI ((decide (i < L) && isDi (T i)) = true)))) G z := by
  have h1 := h.1
  rw [CALL_eq, ← bA_d]
  simp only [mxE_39, ent, entL, isL_int, isL_rf, isL_long, locS, List.length_cons, List.length_nil, List.cons_append, List.nil_append, List.replicate_succ, List.replicate_zero, Bool.false_eq_true, if_false, if_true, true_and, and_true, Nat.reduceAdd, Nat.reduceSub, Nat.reduceLeDiff, Nat.zero_le, Nat.le_refl, Nat.zero_add, Nat.add_zero, bI_0, bI_1, bI_n, Nat.reduceEqDiff, false_and, and_false, and_self, e_39_0, e_39_1, e_39_2, e_39_5, e_39_7, e_39_9, e_39_12, h1, s_byteAt h hi, s_isWithin, isDi, decide_eq_true_eq]
end
