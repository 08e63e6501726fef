/-! numbers -/
theorem i_lt (a b : Int32) : a < b ↔ a.toInt < b.toInt := Int32.lt_iff_toInt_lt
theorem i_le (a b : Int32) : a ≤ b ↔ a.toInt ≤ b.toInt := Int32.le_iff_toInt_le
theorem i_lit (n : Nat) : (OfNat.ofNat n : Int32) = nI n := rfl
theorem n_sub {a b : Nat} (h : b ≤ a) : nI a - nI b = nI (a - b) := pk_sub h
theorem n_lt {a b : Nat} (ha : a < 2 ^ 31) (hb : b < 2 ^ 31) : (nI a < nI b) = (a < b) := propext (nI_ltI ha hb)
theorem n_le {a b : Nat} (ha : a < 2 ^ 31) (hb : b < 2 ^ 31) : (nI a ≤ nI b) = (a ≤ b) := propext (nI_leI ha hb)
theorem n_eq {a b : Nat} (ha : a < 2 ^ 31) (hb : b < 2 ^ 31) : (nI a = nI b) = (a = b) := propext (nI_eq ha hb)
theorem n_in {i n : Nat} (h : i < n) (hn : n < 2 ^ 31) : vp_in (nI i) n = True := eq_true (vp_in_nI h hn)
theorem n_cl {n : Nat} (h : n < 2 ^ 31) : (nI n).toNatClampNeg = n := nI_clamp h
theorem n_add (a b : Nat) : nI a + nI b = nI (a + b) := nI_add a b
theorem n_1 (a : Nat) : nI a + 1 = nI (a + 1) := nI_1 a
/-- a number in a range, as a Nat -/
theorem n_rng {x : Int32} {n : Nat} (hn : n < 2 ^ 31) (h0 : 0 ≤ x) (h1 : x ≤ nI n) : ∃ k, k ≤ n ∧ x = nI k := by
  obtain ⟨k, hk, rfl⟩ := nI_of (x := x) (by rw [i_lt]; rw [i_le] at h0; omega)
  exact ⟨k, (nI_leI hk hn).mp h1, rfl⟩
theorem n_rng' {x : Int32} {n : Nat} (hn : n < 2 ^ 31) (h0 : 0 ≤ x) (h1 : x < nI n) : ∃ k, k < n ∧ x = nI k := by
  obtain ⟨k, hk, rfl⟩ := nI_of (x := x) (by rw [i_lt]; rw [i_le] at h0; omega)
  exact ⟨k, (nI_ltI hk hn).mp h1, rfl⟩
theorem n_pos {k : Nat} (h : k < 2 ^ 31) : (0 ≤ nI k) = True := eq_true (nI_pos' h)
theorem n_npos {k : Nat} (h : k < 2 ^ 31) : (nI k < 0) = False := eq_false (nI_pos h)
theorem n_m1 {k : Nat} (h : k < 2 ^ 31) : (nI k = -1) = False := by
  refine eq_false fun q => ?_
  have := congrArg Int32.toInt q
  rw [nI_toInt h] at this
  have e : (-1 : Int32).toInt = -1 := by decide
  omega
theorem n_pred {k : Nat} (h : 0 < k) : nI k - 1 = nI (k - 1) := by
  rw [show (1 : Int32) = nI 1 from rfl, n_sub (by omega)]
theorem not_lt' (a b : Int32) : (¬ a < b) = (b ≤ a) := by simp
theorem not_le' (a b : Int32) : (¬ a ≤ b) = (b < a) := by simp
/-- the distance -/
def ab (x : Int32) : Int32 := if 0 ≤ x then x else 0 - x
theorem ab_nn {a b : Nat} (ha : a < 2 ^ 30) (hb : b < 2 ^ 30) : ab (nI a - nI b) = nI (if b ≤ a then a - b else b - a) := by
  unfold ab
  by_cases h : b ≤ a
  · rw [if_pos h, n_sub h, if_pos (by rw [n_pos (by omega)]; trivial)]
  · rw [if_neg h, if_neg (by rw [i_le, pk_sub_toInt ha hb]; have e : (0 : Int32).toInt = 0 := (by decide); omega)]
    rw [← n_sub (by omega : a ≤ b)]
    simp
theorem ab_sym {a b : Nat} (ha : a < 2 ^ 30) (hb : b < 2 ^ 30) : ab (nI a - nI b) = ab (nI b - nI a) := by
  rw [ab_nn ha hb, ab_nn hb ha]
  congr 1
  split <;> split <;> omega
