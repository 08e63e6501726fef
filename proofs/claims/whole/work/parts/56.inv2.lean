/-! what holds of every state, held by every call of the document but sign -/
section
variable {S : St}
theorem sumT_0 {f : Nat → Nat} {n : Nat} (h : f n = 0) : sumT f (n + 1) = sumT f n := by rw [sumT, h]; rfl
theorem inv_weeks (hI : Inv S) {n : Int32} : Inv (opWeeks S n).1 := by
  unfold opWeeks
  split
  · rename_i h
    have h59 := hI.1
    have h1 := h.1
    obtain ⟨k, hk, rfl⟩ := n_rng' (x := n) (n := 60 - sN S 0) (by omega) (by rw [i_le] at h1 ⊢; have e3 : (0 : Int32).toInt = 0 := (by decide); have e4 : (1 : Int32).toInt = 1 := (by decide); omega) h.2
    rw [n_cl (by omega)]
    obtain ⟨i1, i2, i3, i4, i5, i6, i7, i8, i9, i10, i11, i12, i13⟩ := hI
    refine ⟨by show sN S 0 + k ≤ 59; omega, i2, i3, i4, i5, i6, i7, i8, i9, i10, i11, i12, ?_⟩
    show sN S 4 = sumT (fun t => cntW (uN S 0 (sN S 0 + k)) t 60) (sN S 1)
    rw [i13]
    exact (sumT_congr _ (fun k _ => cntW_congr 60 (fun w _ => rfl))).symm
  · exact hI
theorem inv_turn (hI : Inv S) {mi ki fu li dr : Int32} (hf : fu = 0 ∨ fu = 1) : Inv (opTurn S mi ki fu li dr).1 := by
  unfold opTurn
  split
  · rename_i h
    obtain ⟨i1, i2, i3, i4, i5, i6, i7, i8, i9, i10, i11, i12, i13⟩ := hI
    have hn : sP S (sN S 1) = fun _ => none := by
      funext w
      cases hp : sP S (sN S 1) w with
      | none => rfl
      | some h => have := (i7 _ _ _ hp).1; omega
    have n1 : sN (nwT S mi ki fu li dr) 1 = sN S 1 + 1 := rfl
    refine ⟨i1, by show sN S 1 + 1 ≤ 40; omega, i3, i4, i5, i6, fun t w h q => ?_, fun c hc => ?_, fun h w => ?_, fun h hh => ?_, fun t => ?_, fun t ht => ?_, ?_⟩
    · have := i7 t w h q
      exact ⟨by rw [n1]; omega, this.2⟩
    · have := i8 c hc
      exact ⟨by show sC S 0 c < sN S 1 + 1; have := this.1; omega, this.2⟩
    · have e : bl (nwT S mi ki fu li dr) h w = (List.range (sN S 1 + 1)).filter fun t => decide (sP S t w = some h) := rfl
      rw [e, filt_succ]
      have : ¬ decide (sP S (sN S 1) w = some h) = true := by rw [hn]; simp
      rw [if_neg this, List.append_nil]
      exact i9 h w
    · obtain ⟨n, hn, e⟩ := i10 h hh
      exact ⟨n, hn, by rw [← e]; simp [nwT, stS]⟩
    · have := i11 t
      simp only [nwT, stS]
      by_cases e : t = sN S 1
      · subst e; simpa using hf
      · simpa [e] using this
    · have ht : sN S 1 + 1 ≤ t := ht
      have := i12 t (by omega)
      simpa [nwT, stS] using this
    · show sN S 4 = sumT (fun t => cntW (nwT S mi ki fu li dr) t 60) (sN S 1 + 1)
      have hc : ∀ n, cntW S (sN S 1) n = 0 := by
        intro n
        induction n with
        | zero => rfl
        | succ n ih => rw [cntW, ih, hn]; rfl
      rw [sumT_0 (f := fun t => cntW (nwT S mi ki fu li dr) t 60) (n := sN S 1) ((cntW_congr (S := S) (S' := nwT S mi ki fu li dr) (t := sN S 1) (t' := sN S 1) 60 (fun w _ => rfl)).trans (hc 60)), i13]
      exact (sumT_congr _ (fun k _ => cntW_congr 60 (fun w _ => rfl))).symm
  · exact hI
theorem inv_hall (hI : Inv S) {mi se lo : Int32} : Inv (opHall S mi se lo).1 := by
  unfold opHall
  split
  · rename_i h
    obtain ⟨i1, i2, i3, i4, i5, i6, i7, i8, i9, i10, i11, i12, i13⟩ := hI
    obtain ⟨k, hk, e⟩ := n_rng (x := mi) (n := 300) (by decide) h.1.1.1 h.1.1.2
    refine ⟨i1, i2, by show sN S 2 + 1 ≤ 10; omega, i4, i5, i6, fun t w h q => ?_, i8, i9, fun h hh => ?_, fun t => ?_, fun t ht => ?_, ?_⟩
    · have := i7 t w h q
      exact ⟨this.1, by show h < sN S 2 + 1; omega⟩
    · have hh : h < sN S 2 + 1 := hh
      by_cases e2 : h = sN S 2
      · subst e2; exact ⟨k, hk, by rw [← e]; simp [nwH, stS]⟩
      · obtain ⟨n, hn, e3⟩ := i10 h (by omega)
        exact ⟨n, hn, by rw [← e3]; simp [nwH, stS, e2]⟩
    · simpa [nwH, stS] using i11 t
    · have := i12 t ht
      simpa [nwH, stS] using this
    · show sN S 4 = sumT (fun t => cntW (nwH S mi se lo) t 60) (sN S 1)
      rw [i13]
      exact (sumT_congr _ (fun k _ => cntW_congr 60 (fun w _ => rfl))).symm
  · exact hI
theorem inv_put4 (hI : Inv S) {v : Int32} (h : sN S 5 + 4 ≤ 600) : Inv (put4 S v) := by
  obtain ⟨i1, i2, i3, i4, i5, i6, i7, i8, i9, i10, i11, i12, i13⟩ := hI
  refine ⟨i1, i2, i3, i4, i5, h, i7, i8, i9, i10, i11, i12, ?_⟩
  show sN S 4 = sumT (fun t => cntW (put4 S v) t 60) (sN S 1)
  rw [i13]
  exact (sumT_congr _ (fun k _ => cntW_congr 60 (fun w _ => rfl))).symm
theorem inv_feed (hI : Inv S) {a b c d e : Int32} : Inv (opFeed S a b c d e).1 := by
  unfold opFeed
  split
  · rename_i h
    exact inv_put4 (inv_put4 (inv_put4 (inv_put4 (inv_put4 hI (by omega)) (show sN S 5 + 4 + 4 ≤ 600 by omega)) (show sN S 5 + 4 + 4 + 4 ≤ 600 by omega)) (show sN S 5 + 4 + 4 + 4 + 4 ≤ 600 by omega)) (show sN S 5 + 4 + 4 + 4 + 4 + 4 ≤ 600 by omega)
  · exact hI
theorem inv_cancel (hI : Inv S) {t w : Int32} : Inv (opCancel S t w).1 := by
  rw [opCancel_b]
  cases hb : bkO S t w with
  | none => exact hI
  | some abc =>
    obtain ⟨a, b, c⟩ := abc
    obtain ⟨q1, q2, q3, q4, rfl, rfl, q7, -, -⟩ := bkO_s hI hb
    exact inv_tk hI q2 q7
theorem inv_fail (hI : Inv S) {t w : Int32} : Inv (opFail S t w).1 := by
  rw [opFail_b]
  cases hb : bkO S t w with
  | none => exact hI
  | some abc =>
    obtain ⟨a, b, c⟩ := abc
    obtain ⟨q1, q2, q3, q4, rfl, rfl, q7, -, -⟩ := bkO_s hI hb
    have hI3 := inv_fl (inv_tk hI q2 q7) (v := sI S 4 a + 1) (show a < sN (tk S a b) 1 from q1)
    dsimp only
    cases hf : bestF (uI (tk S a b) 4 a (sI S 4 a + 1)) c b (some a) (sN S 1) with
    | none => exact hI3
    | some e =>
      obtain ⟨g1, g2⟩ := bestF_lt hf
      have h4 := n4_pos hI q2 q7
      have h5 := hI.2.2.2.2.1
      exact inv_bk hI3 g1 q4 q2 g2 (show sN S 4 - 1 < 400 by omega)
theorem inv_book (hI : Inv S) {t h w : Int32} : Inv (opBook S t h w).1 := by
  unfold opBook
  cases h1 : ix t (sN S 1) with
  | none => exact hI
  | some t' =>
    cases h2 : ix h (sN S 2) with
    | none => exact hI
    | some h' =>
      cases h3 : opO S w with
      | none => exact hI
      | some w' =>
        dsimp only
        split
        · rename_i q
          exact inv_bk hI (ix_s (by have := hI.2.1; omega) h1).1 (ix_s (by have := hI.2.2.1; omega) h2).1 (opO_s h3).1 q.1 q.2
        · exact hI
theorem inv_fill (hI : Inv S) {h w n : Int32} : Inv (opFill S h w n).1 := by
  unfold opFill
  cases h1 : ix h (sN S 2) with
  | none => exact hI
  | some h' =>
    cases h2 : opO S w with
    | none => exact hI
    | some w' =>
      cases h3 : ix n 10 with
      | none => exact hI
      | some n' => exact inv_fillF (opO_s h2).1 10 S (ix_s (by have := hI.2.2.1; omega) h1).1 hI
/-- the state of a new object -/
def S0 : St := ((fun _ => 0), (fun _ _ => 0), (fun _ _ => none), (fun _ _ => 0), (fun _ => []), (fun _ => 0), -1)
theorem inv_S0 : Inv S0 := by
  refine ⟨Nat.zero_le _, Nat.zero_le _, Nat.zero_le _, Nat.zero_le _, Nat.zero_le _, Nat.zero_le _, (fun t w h q => by have q : (none : Option Nat) = some h := q; cases q), fun c hc => absurd hc (Nat.not_lt_zero _), fun h w => Nat.zero_le _, fun h hh => absurd hh (Nat.not_lt_zero _), fun t => Or.inl rfl, fun t _ => rfl, rfl⟩
end
