/-! THE TEXT of a contract as the document has it: words, numbers, statements -/
abbrev Stm3 : Type := Int32 × Int32 × Int32
def wBar : List Int32 := [98, 97, 114]
def wPay : List Int32 := [112, 97, 121]
def wPlace : List Int32 := [112, 108, 97, 99, 101]
def wNever : List Int32 := [110, 101, 118, 101, 114]
def wHall : List Int32 := [104, 97, 108, 108]
def wApart : List Int32 := [97, 112, 97, 114, 116]
def wLike : List Int32 := [108, 105, 107, 101]
def wTurn : List Int32 := [116, 117, 114, 110]
def wWeeks : List Int32 := [119, 101, 101, 107, 115]
def wSemi : List Int32 := [59]
def nt (T : Nat → Int32) (L p : Nat) : Nat := rn isBl T L p
/-- the word w stands at s -/
def wd (T : Nat → Int32) (L s : Nat) (w : List Int32) : Bool := decide (rn isLe T L s = s + w.length) && mtc T L s w
def nv (T : Nat → Int32) (s : Nat) : Nat → Int32
  | 0 => 0
  | n + 1 => nv T s n * 10 + T (s + n) - 48
/-- the number at s, and its end -/
def nmb (T : Nat → Int32) (L s : Nat) : Option (Int32 × Nat) := if s < rn isDi T L s ∧ rn isDi T L s ≤ s + 3 then some (nv T s (rn isDi T L s - s), rn isDi T L s) else none
def smi (T : Nat → Int32) (L : Nat) (st : Stm3) (e : Nat) : Nat ⊕ (Stm3 × Nat) := if nt T L e < L ∧ T (nt T L e) = 59 then .inr (st, nt T L e + 1) else .inl (nt T L e)
def opn (T : Nat → Int32) (L s : Nat) : Nat ⊕ (Int32 × Nat) :=
  if wd T L s wBar = true then .inr (0, s + 3) else if wd T L s wPay = true then .inr (4, s + 3) else if wd T L s wPlace = true then .inr (5, s + 5)
  else if wd T L s wNever = true then (if wd T L (nt T L (s + 5)) wHall = true then .inr (3, nt T L (s + 5) + 4) else .inl (nt T L (s + 5)))
  else if wd T L s wApart = true then (if wd T L (nt T L (s + 5)) wLike = true then .inr (1, nt T L (s + 5) + 4) else if wd T L (nt T L (s + 5)) wTurn = true then .inr (2, nt T L (s + 5) + 4) else .inl (nt T L (s + 5)))
  else .inl s
/-- the rest of a statement behind its opening words -/
def tll (T : Nat → Int32) (L : Nat) (k : Int32) (e : Nat) : Nat ⊕ (Stm3 × Nat) := match nmb T L (nt T L e) with
  | none => .inl (nt T L e)
  | some (v, e1) => if k = 0 then (if wd T L (nt T L e1) wWeeks = true then (match nmb T L (nt T L (nt T L e1 + 5)) with
      | none => .inl (nt T L (nt T L e1 + 5))
      | some (v2, e2) => smi T L (k, v, v2) e2) else .inl (nt T L e1)) else smi T L (k, v, 0) e1
def stm (T : Nat → Int32) (L s : Nat) : Nat ⊕ (Stm3 × Nat) := match opn T L s with
  | .inl f => .inl f
  | .inr (k, e) => tll T L k e
/-- a text behind e, with at most n more statements -/
def txt (T : Nat → Int32) (L : Nat) : Nat → List Stm3 → Nat → Nat ⊕ List Stm3
  | 0, acc, e => if L ≤ nt T L e then .inr acc else .inl (nt T L e)
  | n + 1, acc, e => if L ≤ nt T L e then .inr acc else match stm T L (nt T L e) with
    | .inl f => .inl f
    | .inr (st, e') => txt T L n (acc ++ [st]) e'
section
variable {T : Nat → Int32} {L s : Nat} {w : List Int32}
theorem rn_ge {p : Int32 → Bool} (i : Nat) : i ≤ rn p T L i := (run_le (p := p) (T := T) (L := L) _ i).1
theorem rn_le {p : Int32 → Bool} {i : Nat} (h : i ≤ L) : rn p T L i ≤ L := (run_le (p := p) (T := T) (L := L) _ i).2 h
theorem rn_all {p : Int32 → Bool} : ∀ (n i : Nat), i + n = L → ∀ k, i ≤ k → k < rn p T L i → p (T k) = true := by
  intro n
  induction n with
  | zero =>
    intro i hi k h1 h2
    rw [rn_no (fun q => by omega)] at h2
    omega
  | succ n ih =>
    intro i hi k h1 h2
    by_cases hp : p (T i) = true
    · rw [rn_go (by omega) hp] at h2
      by_cases hk : k = i
      · subst hk; exact hp
      · exact ih (i + 1) (by omega) k (by omega) h2
    · rw [rn_no (fun q => hp q.2)] at h2
      omega
theorem rn_stop {p : Int32 → Bool} : ∀ (n i : Nat), i + n = L → ¬ (rn p T L i < L ∧ p (T (rn p T L i)) = true) := by
  intro n
  induction n with
  | zero =>
    intro i hi
    rw [rn_no (fun q => by omega)]
    omega
  | succ n ih =>
    intro i hi
    by_cases hp : p (T i) = true
    · rw [rn_go (by omega) hp]
      exact ih (i + 1) (by omega)
    · rw [rn_no (fun q => hp q.2)]
      exact fun q => hp q.2
theorem nt_nt {p : Nat} (h : p ≤ L) : nt T L (nt T L p) = nt T L p := by
  unfold nt
  exact rn_no (rn_stop (L - p) p (by omega))
theorem mtc_iff : ∀ (w : List Int32) (s : Nat), mtc T L s w = true ↔ ∀ k, k < w.length → bA T L (s + k) = w.getD k 0
  | [], s => by simp [mtc]
  | c :: w, s => by
    rw [mtc, Bool.and_eq_true, decide_eq_true_eq, mtc_iff w (s + 1)]
    constructor
    · intro h k hk
      cases k with
      | zero => exact h.1
      | succ k => have := h.2 k (by rw [List.length_cons] at hk; omega); rw [show s + (k + 1) = s + 1 + k by omega]; exact this
    · intro h
      refine ⟨h 0 (by rw [List.length_cons]; omega), fun k hk => ?_⟩
      have := h (k + 1) (by rw [List.length_cons]; omega)
      rw [show s + (k + 1) = s + 1 + k by omega] at this
      exact this
/-- a word: not empty, of letters -/
def isW (w : List Int32) : Prop := 0 < w.length ∧ ∀ k, k < w.length → isLe (w.getD k 0) = true
theorem mtc_le (hw : isW w) (h : mtc T L s w = true) : s < L ∧ isLe (T s) = true := by
  have h1 := (mtc_iff w s).mp h 0 hw.1
  have h2 := hw.2 0 hw.1
  rw [← h1, Nat.add_zero, bA_l, Bool.and_eq_true, decide_eq_true_eq] at h2
  exact h2
theorem hld_wd (hw : isW w) : hld T L s (tokE T L s) w = wd T L s w := by
  unfold hld wd
  cases hm : mtc T L s w with
  | false => rw [Bool.and_false, Bool.and_false]
  | true =>
    unfold tokE
    rw [if_pos (mtc_le hw hm)]
theorem wd_tok (hw : isW w) (h : wd T L s w = true) : tokE T L s = s + w.length := by
  rw [← hld_wd hw] at h
  unfold hld at h
  rw [Bool.and_eq_true, decide_eq_true_eq] at h
  exact h.1
theorem wd_lt (hw : isW w) (h : wd T L s w = true) : s < L := by
  unfold wd at h
  rw [Bool.and_eq_true] at h
  exact (mtc_le hw h.2).1
theorem wd_le (hw : isW w) (h : wd T L s w = true) : s + w.length ≤ L := by
  have h1 := wd_lt hw h
  unfold wd at h
  rw [Bool.and_eq_true, decide_eq_true_eq] at h
  have := rn_le (p := isLe) (T := T) (L := L) (i := s) (by omega)
  omega
theorem wd_one {w' : List Int32} (h : wd T L s w = true) (h' : wd T L s w' = true) : w = w' := by
  unfold wd at h h'
  rw [Bool.and_eq_true, decide_eq_true_eq] at h h'
  have hl : w.length = w'.length := by omega
  refine List.ext_getElem hl fun k h1 h2 => ?_
  have e1 := (mtc_iff w s).mp h.2 k h1
  have e2 := (mtc_iff w' s).mp h'.2 k h2
  rw [List.getD_eq_getElem?_getD, List.getElem?_eq_getElem h1] at e1
  rw [List.getD_eq_getElem?_getD, List.getElem?_eq_getElem h2] at e2
  exact e1.symm.trans e2
theorem hld_semi : (hld T L s (tokE T L s) wSemi = true) = (s < L ∧ T s = 59) := by
  unfold hld wSemi mtc mtc
  simp only [Bool.and_true, Bool.and_eq_true, decide_eq_true_eq]
  refine propext ⟨fun h => ?_, fun h => ?_⟩
  · have h2 := h.2
    unfold bA at h2
    by_cases q : s < L
    · rw [if_pos q] at h2; exact ⟨q, h2⟩
    · rw [if_neg q] at h2; exact absurd h2 (by decide)
  · refine ⟨?_, by unfold bA; rw [if_pos h.1]; exact h.2⟩
    unfold tokE
    rw [if_neg (fun q => by rw [h.2] at q; exact absurd q.2 (by decide)), if_neg (fun q => by rw [h.2] at q; exact absurd q.2 (by decide)), if_pos h.1]
    rfl
theorem semi_tok (h : s < L ∧ T s = 59) : tokE T L s = s + 1 := by
  unfold tokE
  rw [if_neg (fun q => by rw [h.2] at q; exact absurd q.2 (by decide)), if_neg (fun q => by rw [h.2] at q; exact absurd q.2 (by decide)), if_pos h.1]
theorem tok_ge : s ≤ tokE T L s := by
  unfold tokE
  split
  · exact rn_ge s
  · split
    · exact rn_ge s
    · split <;> omega
theorem tok_le (h : s ≤ L) : tokE T L s ≤ L := by
  unfold tokE
  split
  · exact rn_le h
  · split
    · exact rn_le h
    · split <;> omega
theorem di_lt {s : Nat} : (s < rn isDi T L s) = (s < L ∧ isDi (T s) = true) := by
  refine propext ⟨fun h => ?_, fun h => ?_⟩
  · refine Classical.byContradiction fun q => ?_
    rw [rn_no q] at h
    omega
  · rw [rn_go h.1 h.2]
    have := rn_ge (p := isDi) (T := T) (L := L) (s + 1)
    omega
theorem di_tok (h : s < rn isDi T L s) : tokE T L s = rn isDi T L s := by
  rw [di_lt] at h
  unfold tokE
  rw [if_neg, if_pos h]
  intro q
  have h1 := h.2
  have h2 := q.2
  unfold isDi at h1
  unfold isLe at h2
  rw [decide_eq_true_eq, i_le, i_le] at h1 h2
  have a1 : (57 : Int32).toInt = 57 := by decide
  have a2 : (97 : Int32).toInt = 97 := by decide
  omega
theorem nmb_tok {v : Int32} {e : Nat} (h : nmb T L s = some (v, e)) : tokE T L s = e := by
  unfold nmb at h
  split at h
  · rename_i q
    cases h
    exact di_tok q.1
  · cases h
theorem nv_n : ∀ n, n ≤ 3 → (∀ i, i < n → isDi (T (s + i)) = true) → ∃ k, k < 10 ^ n ∧ nv T s n = nI k
  | 0, _, _ => ⟨0, by decide, rfl⟩
  | n + 1, hn, hd => by
    obtain ⟨k, hk, e⟩ := nv_n n (by omega) fun i hi => hd i (by omega)
    have h1 := hd n (by omega)
    unfold isDi at h1
    rw [decide_eq_true_eq] at h1
    obtain ⟨j, hj, ej⟩ := n_rng (x := T (s + n)) (n := 57) (by decide) (by
      rw [i_le] at h1 ⊢
      have a1 : (48 : Int32).toInt = 48 := by decide
      have a2 : (0 : Int32).toInt = 0 := by decide
      omega) h1.2
    have h48 : 48 ≤ j := by
      have := h1.1
      rw [ej, show (48 : Int32) = nI 48 from rfl, n_le (by decide) (by omega)] at this
      exact this
    refine ⟨k * 10 + j - 48, ?_, ?_⟩
    · rw [Nat.pow_succ]; omega
    · rw [nv, e, ej, show (10 : Int32) = nI 10 from rfl, n_mul, n_add, show (48 : Int32) = nI 48 from rfl, n_sub (by omega)]
theorem nmb_v {v : Int32} {e : Nat} (h : nmb T L s = some (v, e)) : ¬ v = -1 := by
  unfold nmb at h
  split at h
  · rename_i q
    have hs : s < L := by have := q.1; rw [di_lt] at this; exact this.1
    cases h
    obtain ⟨k, hk, ek⟩ := nv_n (T := T) (s := s) (rn isDi T L s - s) (by omega) fun i hi => rn_all (p := isDi) (T := T) (L := L) (L - s) s (by omega) (s + i) (by omega) (by omega)
    rw [ek]
    have : (10 : Nat) ^ (rn isDi T L s - s) ≤ 10 ^ 3 := Nat.pow_le_pow_right (by decide) (by omega)
    intro q
    rw [n_m1 (by omega)] at q
    exact q
  · cases h
end
theorem isW_Bar : isW wBar := by unfold isW; decide
theorem isW_Pay : isW wPay := by unfold isW; decide
theorem isW_Place : isW wPlace := by unfold isW; decide
theorem isW_Never : isW wNever := by unfold isW; decide
theorem isW_Hall : isW wHall := by unfold isW; decide
theorem isW_Apart : isW wApart := by unfold isW; decide
theorem isW_Like : isW wLike := by unfold isW; decide
theorem isW_Turn : isW wTurn := by unfold isW; decide
theorem isW_Weeks : isW wWeeks := by unfold isW; decide
