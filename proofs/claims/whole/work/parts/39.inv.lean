/-! what holds of every state, held by the calls -/
theorem cntW_congr {S S' : St} {t t' : Nat} : ∀ n, (∀ w, w < n → sP S' t' w = sP S t w) → cntW S' t' n = cntW S t n
  | 0, _ => rfl
  | n + 1, h => by rw [cntW, cntW, cntW_congr n (fun w hw => h w (by omega)), h n (by omega)]
theorem filt_one {p p' : Nat → Bool} {t : Nat} (h : ∀ k, p' k = true → p k = true ∨ k = t) : ∀ n, ((List.range n).filter p').length ≤ ((List.range n).filter p).length + (if t < n then 1 else 0)
  | 0 => by simp
  | n + 1 => by
    have := filt_one h n
    have q := h n
    rw [filt_succ, filt_succ, List.length_append, List.length_append]
    by_cases hp : p' n = true
    · rcases q hp with e | e
      · simp only [hp, e, if_true, List.length_singleton]
        split at this <;> split <;> omega
      · subst e
        simp only [Nat.lt_irrefl, if_false] at this
        simp only [hp, if_true, List.length_singleton, Nat.lt_succ_self]
        omega
    · have e1 : (if t < n then 1 else 0) ≤ (if t < n + 1 then 1 else 0) := by split <;> split <;> omega
      simp only [hp]
      simp only [Bool.false_eq_true, if_false, List.length_nil]
      omega
theorem filt_mono {p p' : Nat → Bool} (h : ∀ k, p' k = true → p k = true) : ∀ n, ((List.range n).filter p').length ≤ ((List.range n).filter p).length
  | 0 => by simp
  | n + 1 => by
    have := filt_mono h n
    have q := h n
    rw [filt_succ, filt_succ, List.length_append, List.length_append]
    by_cases hp : p' n = true
    · simp only [hp, q hp, if_true, List.length_singleton]; omega
    · simp only [hp]
      simp only [Bool.false_eq_true, if_false, List.length_nil]
      omega
theorem sumT_congr {f f' : Nat → Nat} : ∀ n, (∀ k, k < n → f' k = f k) → sumT f' n = sumT f n
  | 0, _ => rfl
  | n + 1, h => by rw [sumT, sumT, sumT_congr n (fun k hk => h k (by omega)), h n (by omega)]
theorem sumT_upd {f f' : Nat → Nat} {t : Nat} (h : ∀ k, k ≠ t → f' k = f k) : ∀ n, t < n → sumT f' n + f t = sumT f n + f' t
  | 0, q => by omega
  | n + 1, q => by
    rw [sumT, sumT]
    by_cases e : t = n
    · subst e
      rw [sumT_congr t (fun k hk => h k (by omega))]
      omega
    · have := sumT_upd h n (by omega)
      rw [h n (by omega)]
      omega
theorem sumT_le {f : Nat → Nat} {t : Nat} : ∀ n, t < n → f t ≤ sumT f n
  | 0, q => by omega
  | n + 1, q => by
    rw [sumT]
    by_cases e : t = n
    · subst e; omega
    · have := sumT_le (f := f) (t := t) n (by omega)
      omega
theorem why0 {S : St} {t h w : Nat} (hy : whyS S t h w = 0) : sP S t w = none ∧ (bl S h w).length < 9 := by
  unfold whyS at hy
  split at hy
  · exact absurd hy (by decide)
  rename_i q1
  split at hy
  · exact absurd hy (by decide)
  split at hy
  · exact absurd hy (by decide)
  split at hy
  · exact absurd hy (by decide)
  split at hy
  · exact absurd hy (by decide)
  unfold whyB at hy
  split at hy
  · exact absurd hy (by decide)
  split at hy
  · exact absurd hy (by decide)
  split at hy
  · exact absurd hy (by decide)
  split at hy
  · exact absurd hy (by decide)
  rename_i q2
  refine ⟨?_, by omega⟩
  cases hp : sP S t w with
  | none => rfl
  | some v => rw [hp] at q1; exact absurd rfl q1
theorem inv_bk {S : St} (hI : Inv S) {t h w : Nat} (ht : t < sN S 1) (hh : h < sN S 2) (hw : w < 60) (hy : whyS S t h w = 0) (h4 : sN S 4 < 400) : Inv (bk S t w h) := by
  obtain ⟨hp, hl⟩ := why0 hy
  obtain ⟨i1, i2, i3, i4, i5, i6, i7, i8, i9, i10, i11, i12, i13⟩ := hI
  refine ⟨i1, i2, i3, i4, ?_, i6, ?_, i8, ?_, i10, i11, i12, ?_⟩
  · show sN S 4 + 1 ≤ 400; omega
  · intro t' w' h' q
    simp only [bk, stS] at q ⊢
    simp only [show ¬ (1 = 4) by omega, show ¬ (2 = 4) by omega, if_false]
    split at q
    · cases q; rename_i e; rw [e.1]; exact ⟨ht, hh⟩
    · exact i7 t' w' h' q
  · intro h' w'
    have e : (bl (bk S t w h) h' w') = (List.range (sN S 1)).filter fun t' => decide ((if t' = t ∧ w' = w then some h else sP S t' w') = some h') := rfl
    rw [e]
    by_cases q : h' = h ∧ w' = w
    · obtain ⟨rfl, rfl⟩ := q
      have := filt_one (p := fun t' => decide (sP S t' w' = some h')) (p' := fun t' => decide ((if t' = t ∧ w' = w' then some h' else sP S t' w') = some h')) (t := t) (fun k hk => by
        by_cases e : k = t
        · exact Or.inr e
        · simp only [e, false_and, if_false] at hk; exact Or.inl hk) (sN S 1)
      unfold bl at hl
      split at this <;> omega
    · refine Nat.le_trans (filt_mono (p := fun t' => decide (sP S t' w' = some h')) (fun k hk => ?_) _) (i9 h' w')
      simp only [decide_eq_true_eq] at hk ⊢
      split at hk
      · rename_i e'; cases hk; exact absurd ⟨rfl, e'.2⟩ q
      · exact hk
  · show sN S 4 + 1 = sumT (fun t' => cntW (bk S t w h) t' 60) (sN S 1)
    have e1 : ∀ k, k ≠ t → cntW (bk S t w h) k 60 = cntW S k 60 := fun k hk => by rw [bk, cntW_uN, cntW_oth hk]
    have e2 : cntW (bk S t w h) t 60 = cntW S t 60 + 1 := by rw [bk, cntW_uN, cntW_set hp 60 hw]
    have := sumT_upd (f := fun t' => cntW S t' 60) (f' := fun t' => cntW (bk S t w h) t' 60) e1 (sN S 1) ht
    omega
theorem n4_pos {S : St} (hI : Inv S) {t w h : Nat} (hw : w < 60) (hp : sP S t w = some h) : 0 < sN S 4 := by
  have ht := (hI.2.2.2.2.2.2.1 t w h hp).1
  have e := hI.2.2.2.2.2.2.2.2.2.2.2.2
  have := sumT_le (f := fun t' => cntW S t' 60) (sN S 1) ht
  have q := cntW_clr hp 60 hw
  omega
theorem inv_tk {S : St} (hI : Inv S) {t h w : Nat} (hw : w < 60) (hp : sP S t w = some h) : Inv (tk S t w) := by
  have h4 := n4_pos hI hw hp
  have ht := (hI.2.2.2.2.2.2.1 t w h hp).1
  obtain ⟨i1, i2, i3, i4, i5, i6, i7, i8, i9, i10, i11, i12, i13⟩ := hI
  refine ⟨i1, i2, i3, i4, ?_, i6, ?_, i8, ?_, i10, i11, i12, ?_⟩
  · show sN S 4 - 1 ≤ 400; omega
  · intro t' w' h' q
    simp only [tk, stS] at q ⊢
    simp only [show ¬ (1 = 4) by omega, show ¬ (2 = 4) by omega, if_false]
    split at q
    · cases q
    · exact i7 t' w' h' q
  · intro h' w'
    have e : (bl (tk S t w) h' w') = (List.range (sN S 1)).filter fun t' => decide ((if t' = t ∧ w' = w then none else sP S t' w') = some h') := rfl
    rw [e]
    refine Nat.le_trans (filt_mono (p := fun t' => decide (sP S t' w' = some h')) (fun k hk => ?_) _) (i9 h' w')
    simp only [decide_eq_true_eq] at hk ⊢
    split at hk
    · cases hk
    · exact hk
  · show sN S 4 - 1 = sumT (fun t' => cntW (tk S t w) t' 60) (sN S 1)
    have e1 : ∀ k, k ≠ t → cntW (tk S t w) k 60 = cntW S k 60 := fun k hk => by rw [tk, cntW_uN, cntW_oth hk]
    have e2 : cntW (tk S t w) t 60 + 1 = cntW S t 60 := by rw [tk, cntW_uN, cntW_clr hp 60 hw]
    have := sumT_upd (f := fun t' => cntW S t' 60) (f' := fun t' => cntW (tk S t w) t' 60) e1 (sN S 1) ht
    omega
theorem inv_fl {S : St} (hI : Inv S) {t : Nat} {v : Int32} (ht : t < sN S 1) : Inv (uI S 4 t v) := by
  obtain ⟨i1, i2, i3, i4, i5, i6, i7, i8, i9, i10, i11, i12, i13⟩ := hI
  refine ⟨i1, i2, i3, i4, i5, i6, i7, i8, i9, ?_, ?_, ?_, ?_⟩
  · intro h hh; obtain ⟨n, hn, e⟩ := i10 h hh; exact ⟨n, hn, by rw [← e]; simp [stS]⟩
  · intro t'; simpa [stS] using i11 t'
  · intro t' ht'
    have e := i12 t' ht'
    have ht2 : sN S 1 ≤ t' := ht'
    simp only [stS]
    rw [if_neg (by omega)]; exact e
  · show sN S 4 = sumT (fun t' => cntW (uI S 4 t v) t' 60) (sN S 1)
    rw [i13]
    exact (sumT_congr _ (fun k _ => cntW_congr 60 (fun w _ => rfl))).symm
theorem inv_fillF {h w n : Nat} (hw : w < 60) : ∀ (f : Nat) (S : St), h < sN S 2 → Inv S → Inv (fillF h w n f S)
  | 0, S, _, hI => hI
  | f + 1, S, hh, hI => by
    unfold fillF
    split
    · rename_i q
      cases hb : bestF S h w none (sN S 1) with
      | none => exact hI
      | some b =>
        have := bestF_lt hb
        exact inv_fillF hw f _ hh (inv_bk hI this.1 hh hw this.2 q.2)
    · exact hI
