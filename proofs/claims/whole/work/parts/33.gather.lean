/-! the class: gathering a bill -/
section X
variable {G : Mem} {x : Nat} {ta ha ca : Nat → Nat} {S : St} {l : List Nat}
theorem map_ha (hX : RX G x ta ha ca S) (hI : Inv S) {t w h : Nat} (hh : h < sN S 2) : ((sP S t w).map ha = some (ha h)) = (sP S t w = some h) := by
  refine propext ⟨fun q => ?_, fun q => by rw [q]; rfl⟩
  cases hp : sP S t w with
  | none => rw [hp] at q; cases q
  | some h' =>
    rw [hp] at q
    have h1 := hI.2.2.2.2.2.2.1 t w h' hp
    have := hX.2.2.2.2.2.1.2.1 h' h h1.2 hh (Option.some.inj q)
    rw [this]
set_option maxRecDepth 8000 in
theorem s_put {d z a : Nat} {Q : Rt} (hs : XS G x) (hB : BillOK G x ta l) (h9 : l.length < 9) (ha6 : mK G a = 6) (h : Q none (pI (pQ G (x + 5) l.length (some a)) 1 1 (x + 4) (nI (l.length + 1))) z) : CALL (d + 1) 13 [va_rf (some (x + 4)), va_rf (some a)] G z Q := by
  obtain ⟨b1, b2, b3⟩ := hB
  have e : ((9 : Int32) ≤ nI l.length) = False := by
    rw [show (9 : Int32) = nI 9 from rfl, n_le (by decide) (by omega)]
    exact eq_false (by omega)
  rw [CALL_eq]
  simp only [mxE_13, ent, entL, isL_int, isL_rf, isL_long, locS, List.length_cons, List.length_nil, List.cons_append, List.nil_append, List.replicate_succ, List.replicate_zero, Bool.false_eq_true, if_false, if_true, true_and, and_true, Nat.reduceAdd, Nat.reduceSub, Nat.reduceLeDiff, Nat.zero_le, Nat.le_refl, Nat.zero_add, Nat.add_zero, bI_0, bI_1, bI_n, Nat.reduceEqDiff, false_and, and_false, and_self, e_13_0, e_13_1, e_13_4, e_13_6, e_13_9, e_13_10, e_13_13, e_13_14, e_13_17, e_13_18, e_13_19, e_13_20, e_13_21, e_13_24, e_13_25, e_13_26, e_13_29, hs, b1, e, n_in h9 (by decide), n_cl (show l.length < 2 ^ 31 by omega), Option.some.injEq, ha6, forall_eq', memS, n_1, and_self, or_true]
  exact h
theorem SX.put {v : Int32} {r : Option Nat} {k : Nat} : SX x G (pI (pQ G (x + 5) k r) 1 1 (x + 4) v) := by
  refine ⟨fun _ => rfl, fun _ => rfl, fun c k a hc => ?_, fun _ _ _ => rfl, fun _ _ _ => rfl, fun a i ha => ?_⟩
  · simp only [memS, show ¬ c = 1 by omega, false_and, if_false]
  · simp only [memS, ha, false_and, if_false]
theorem BillOK.put {t : Nat} (hB : BillOK G x ta l) (h9 : l.length < 9) : BillOK (pI (pQ G (x + 5) l.length (some (ta t))) 1 1 (x + 4) (nI (l.length + 1))) x ta (l ++ [t]) := by
  obtain ⟨b1, b2, b3⟩ := hB
  refine ⟨by simp [memS], by simp; omega, fun k q hk => ?_⟩
  by_cases hkl : k < l.length
  · rw [List.getElem?_append_left hkl] at hk
    simp only [memS, show ¬ k = l.length by omega, and_false, if_false]
    exact b3 k q hk
  · rw [List.getElem?_append_right (by omega)] at hk
    have hk0 : k - l.length < 1 := (List.getElem?_eq_some_iff.mp hk).1
    have : k = l.length := by omega
    subst this
    rw [Nat.sub_self] at hk
    cases hk
    simp only [memS, and_self, if_true]
theorem filt_succ (p : Nat → Bool) (k : Nat) : (List.range (k + 1)).filter p = (List.range k).filter p ++ (if p k = true then [k] else []) := by
  rw [List.range_succ, List.filter_append]
  congr 1
  by_cases h : p k = true <;> simp [h]
theorem filt_len (p : Nat → Bool) {k n : Nat} (h : k ≤ n) : ((List.range k).filter p).length ≤ ((List.range n).filter p).length :=
  ((List.range_sublist.mpr h).filter p).length_le
set_option maxRecDepth 8000 in
theorem l_gather (hI : Inv S) {d z w h : Nat} (hw : w < 60) (hh : h < sN S 2) {R : Rt} (hR : ∀ G', SX x G G' → BillOK G' x ta (bl S h w) → R none G' z) : ∀ (n k : Nat) (G1 : Mem) (o4 : Option Value), k + n = sN S 1 → RX G1 x ta ha ca S → SX x G G1 → BillOK G1 x ta ((List.range k).filter fun t => decide (sP S t w = some h)) →
    WP (d + 2) 75 R 10 [some (va_rf (some x)), some (va_rf (some (ha h))), some (.int (nI w)), some (.int (nI k)), o4] [] G1 z 0 0
  | 0, k, G1, o4, hk, hX, hsx, hB => by
    have hs := hX.1
    have hn := hX.2.1
    have h40 := hI.2.1
    rw [e_75_10]
    simp only [ent, entL, isL_int, isL_rf, isL_long, locS, List.length_cons, List.length_nil, List.cons_append, List.nil_append, List.replicate_succ, List.replicate_zero, Bool.false_eq_true, if_false, if_true, true_and, and_true, Nat.reduceAdd, Nat.reduceSub, Nat.reduceLeDiff, Nat.zero_le, Nat.le_refl, Nat.zero_add, Nat.add_zero, bI_0, bI_1, bI_n, Nat.reduceEqDiff, false_and, and_false, and_self, e_75_0, e_75_1, e_75_4, e_75_5, e_75_8, e_75_9, e_75_11, e_75_12, e_75_15, e_75_18, e_75_19, e_75_20, e_75_23, e_75_25, e_75_27, e_75_30, e_75_32, e_75_33, e_75_36, e_75_37, e_75_40, e_75_41, e_75_44, e_75_46, e_75_49, e_75_52, e_75_55, hs, hn, n_le (show sN S 1 < 2 ^ 31 by omega) (show k < 2 ^ 31 by omega), show sN S 1 ≤ k by omega]
    refine hR G1 hsx ?_
    have : k = sN S 1 := by omega
    subst this
    exact hB
  | n + 1, k, G1, o4, hk, hX, hsx, hB => by
    have hs := hX.1
    have hn := hX.2.1
    have h40 := hI.2.1
    have hkt : k < sN S 1 := by omega
    obtain ⟨-, -, t3, -⟩ := hX.2.2.1 k hkt
    have go := fun G1 o4 => l_gather (d := d) hI hw hh hR n (k + 1) G1 o4 (by omega)
    rw [e_75_10]
    simp only [ent, entL, isL_int, isL_rf, isL_long, locS, List.length_cons, List.length_nil, List.cons_append, List.nil_append, List.replicate_succ, List.replicate_zero, Bool.false_eq_true, if_false, if_true, true_and, and_true, Nat.reduceAdd, Nat.reduceSub, Nat.reduceLeDiff, Nat.zero_le, Nat.le_refl, Nat.zero_add, Nat.add_zero, bI_0, bI_1, bI_n, Nat.reduceEqDiff, false_and, and_false, and_self, e_75_0, e_75_1, e_75_4, e_75_5, e_75_8, e_75_9, e_75_11, e_75_12, e_75_15, e_75_18, e_75_19, e_75_20, e_75_23, e_75_25, e_75_27, e_75_30, e_75_32, e_75_33, e_75_36, e_75_37, e_75_40, e_75_41, e_75_44, e_75_46, e_75_49, e_75_52, e_75_55, hs, hn, n_le (show sN S 1 < 2 ^ 31 by omega) (show k < 2 ^ 31 by omega), show ¬ sN S 1 ≤ k by omega, s_turnAt hX hI, ix_n (show sN S 1 < 2 ^ 31 by omega) hkt, Option.map_some, reduceCtorEq, t3, s_hallIn hX hkt hw, map_ha hX hI hh]
    rw [filt_succ] at go
    by_cases hp : sP S k w = some h
    · have hlen : ((List.range k).filter fun t => decide (sP S t w = some h)).length < 9 := by
        have h1 := hI.2.2.2.2.2.2.2.2.1 h w
        have h2 := filt_len (fun t => decide (sP S t w = some h)) (show k + 1 ≤ sN S 1 by omega)
        rw [filt_succ] at h2
        simp only [hp, decide_true, if_true, List.length_append, List.length_singleton] at h2
        unfold bl at h1
        omega
      simp only [hp, if_true]
      refine s_put hs hB hlen t3 ?_
      simp only [ent, entL, isL_int, isL_rf, isL_long, locS, List.length_cons, List.length_nil, List.cons_append, List.nil_append, List.replicate_succ, List.replicate_zero, Bool.false_eq_true, if_false, if_true, true_and, and_true, Nat.reduceAdd, Nat.reduceSub, Nat.reduceLeDiff, Nat.zero_le, Nat.le_refl, Nat.zero_add, Nat.add_zero, bI_0, bI_1, bI_n, Nat.reduceEqDiff, false_and, and_false, and_self, e_75_0, e_75_1, e_75_4, e_75_5, e_75_8, e_75_9, e_75_11, e_75_12, e_75_15, e_75_18, e_75_19, e_75_20, e_75_23, e_75_25, e_75_27, e_75_30, e_75_32, e_75_33, e_75_36, e_75_37, e_75_40, e_75_41, e_75_44, e_75_46, e_75_49, e_75_52, e_75_55, n_1]
      have hX2 := hX.sx (SX.put (G := G1) (v := nI (((List.range k).filter fun t => decide (sP S t w = some h)).length + 1)) (r := some (ta k)) (k := ((List.range k).filter fun t => decide (sP S t w = some h)).length))
      refine go _ _ hX2 (hsx.tr SX.put) ?_
      simp only [hp, decide_true, if_true]
      exact hB.put hlen
    · simp only [hp, if_false, n_1]
      refine go _ _ hX hsx ?_
      simp only [hp, decide_false, Bool.false_eq_true, if_false, List.append_nil]
      exact hB
set_option maxRecDepth 8000 in
theorem s_gather (hX : RX G x ta ha ca S) (hI : Inv S) {d z w h : Nat} (hw : w < 60) (hh : h < sN S 2) {Q : Rt} (hR : ∀ G', SX x G G' → BillOK G' x ta (bl S h w) → Q none G' z) : CALL (d + 3) 75 [va_rf (some x), va_rf (some (ha h)), .int (nI w)] G z Q := by
  have hs := hX.1
  have hsx : SX x G (pI G 1 1 (x + 4) 0) := by
    refine ⟨fun _ => rfl, fun _ => rfl, fun c k a hc => ?_, fun _ _ _ => rfl, fun _ _ _ => rfl, fun _ _ _ => rfl⟩
    simp only [memS, show ¬ c = 1 by omega, false_and, if_false]
  rw [CALL_eq]
  simp only [mxE_75, ent, entL, isL_int, isL_rf, isL_long, locS, List.length_cons, List.length_nil, List.cons_append, List.nil_append, List.replicate_succ, List.replicate_zero, Bool.false_eq_true, if_false, if_true, true_and, and_true, Nat.reduceAdd, Nat.reduceSub, Nat.reduceLeDiff, Nat.zero_le, Nat.le_refl, Nat.zero_add, Nat.add_zero, bI_0, bI_1, bI_n, Nat.reduceEqDiff, false_and, and_false, and_self, e_75_0, e_75_1, e_75_4, e_75_5, e_75_8, e_75_9, e_75_11, e_75_12, e_75_15, e_75_18, e_75_19, e_75_20, e_75_23, e_75_25, e_75_27, e_75_30, e_75_32, e_75_33, e_75_36, e_75_37, e_75_40, e_75_41, e_75_44, e_75_46, e_75_49, e_75_52, e_75_55, hs]
  refine l_gather hI hw hh hR (sN S 1) 0 _ _ (by omega) (hX.sx hsx) hsx ⟨by simp [memS]; rfl, by simp, fun k t hk => by simp at hk⟩
theorem bl_lt {h w t : Nat} (ht : t ∈ bl S h w) : t < sN S 1 := List.mem_range.mp (List.mem_filter.mp ht).1
end X
