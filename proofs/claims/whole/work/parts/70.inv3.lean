/-! sign keeps the invariant; the tape holds bytes -/
section
variable {S : St}
theorem txt_len {T : Nat → Int32} {L : Nat} : ∀ (n : Nat) (acc : List Stm3) (e : Nat) (l : List Stm3), txt T L n acc e = .inr l → l.length ≤ acc.length + n
  | 0, acc, e, l, h => by
    unfold txt at h
    split at h
    · cases h; omega
    · cases h
  | n + 1, acc, e, l, h => by
    unfold txt at h
    split at h
    · cases h; omega
    · split at h
      · cases h
      · have := txt_len n _ _ l h
        rw [List.length_append, List.length_singleton] at this
        omega
theorem inv_clT (hI : Inv S) {v : Int32} : Inv (clT S v) := by
  obtain ⟨i0, i1, i2, i3, i4, i5, i6⟩ := hI
  exact ⟨i0, i1, i2, i3, i4, by simp [clT, stS], i6⟩
theorem inv_nwC (hI : Inv S) {t f : Nat} {l : List Stm3} (ht : t < sN S 1) (hf : f < 60) (hl : l.length ≤ 12) (h3 : sN S 3 < 60) : Inv (nwC S t f l) := by
  obtain ⟨i0, i1, i2, i3, i4, i5, i6, i7, i8⟩ := hI
  refine ⟨i0, i1, i2, by simp [nwC, stS]; omega, i4, i5, i6, fun c hc => ?_, i8⟩
  have hc : c < sN S 3 + 1 := by simpa [nwC, stS] using hc
  by_cases e : c = sN S 3
  · subst e
    simp [nwC, stS]
    exact ⟨ht, hf, by omega, hl⟩
  · have := i7 c (by omega)
    simpa [nwC, stS, e] using this
theorem inv_sign (hI : Inv S) {t f n : Int32} : Inv (opSign S t f n).1 := by
  have h40 := hI.2.1
  have h600 := hI.2.2.2.2.2.1
  unfold opSign
  split
  · rename_i t' f' n' ht hf hn
    split
    · rename_i h3
      split
      · exact inv_clT hI
      · rename_i l hx
        have := txt_len _ _ _ _ hx
        refine inv_nwC (inv_clT hI) ?_ (ix_s (by decide) hf).1 (by simpa using this) h3
        exact (ix_s (by omega) ht).1
    · exact hI
  · exact hI
theorem invT_of {S' : St} (h : sT S' = sT S) (hT : InvT S) : InvT S' := fun i => by rw [h]; exact hT i
theorem invT_S0 : InvT S0 := fun i => by
  show (Int32.toInt8 0).toInt32 = 0
  decide
theorem byt_b {v : Int32} {k : Nat} : (byt v k).toInt8.toInt32 = byt v k := by simp [byt]
theorem invT_uT (hT : InvT S) {i : Nat} {v : Int32} (hv : v.toInt8.toInt32 = v) : InvT (uT S i v) := by
  intro k
  have e : sT (uT S i v) k = if k = i then v else sT S k := rfl
  rw [e]
  by_cases q : k = i
  · rw [if_pos q]; exact hv
  · rw [if_neg q]; exact hT k
theorem invT_uN (hT : InvT S) {i v : Nat} : InvT (uN S i v) := hT
theorem invT_put4 (hT : InvT S) {v : Int32} : InvT (put4 S v) := by
  unfold put4
  exact invT_uN (invT_uT (invT_uT (invT_uT (invT_uT hT byt_b) byt_b) byt_b) byt_b)
theorem invT_feed (hT : InvT S) {a b c d e : Int32} : InvT (opFeed S a b c d e).1 := by
  unfold opFeed
  split
  · exact invT_put4 (invT_put4 (invT_put4 (invT_put4 (invT_put4 hT))))
  · exact hT
theorem tT_weeks {n : Int32} : sT (opWeeks S n).1 = sT S := by unfold opWeeks; split <;> rfl
theorem tT_turn {mi ki fu li dr : Int32} : sT (opTurn S mi ki fu li dr).1 = sT S := by unfold opTurn; split <;> rfl
theorem tT_hall {mi se lo : Int32} : sT (opHall S mi se lo).1 = sT S := by unfold opHall; split <;> rfl
theorem tT_book {t h w : Int32} : sT (opBook S t h w).1 = sT S := by
  unfold opBook
  split
  · split <;> rfl
  · rfl
theorem tT_cancel {t w : Int32} : sT (opCancel S t w).1 = sT S := by
  unfold opCancel
  split
  · split <;> rfl
  · rfl
theorem tT_fail {t w : Int32} : sT (opFail S t w).1 = sT S := by
  unfold opFail
  repeat' split
  all_goals rfl
theorem tT_fillF {h w n : Nat} : ∀ (f : Nat) (S : St), sT (fillF h w n f S) = sT S
  | 0, S => rfl
  | f + 1, S => by
    unfold fillF
    split
    · split
      · rfl
      · rw [tT_fillF f]; rfl
    · rfl
theorem tT_fill {h w n : Int32} : sT (opFill S h w n).1 = sT S := by
  unfold opFill
  split
  · exact tT_fillF _ _
  · rfl
theorem tT_sign {t f n : Int32} : sT (opSign S t f n).1 = sT S := by
  unfold opSign
  repeat' split
  all_goals rfl
end
