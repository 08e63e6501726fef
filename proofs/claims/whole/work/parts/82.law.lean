/-! THE 137's loop; the claim's pure part -/
section
variable {x b L : Nat} {xs : Nat → Int32}
theorem SCo.ex {G G' : Mem} {z : Nat} (h : SCo G b L xs) (hb : b < z) (q : EX z G G') : SCo G' b L xs := by
  have := q b hb
  exact ⟨by rw [this.1]; exact h.1, by rw [this.2.1]; exact h.2.1, fun i => by rw [this.2.2.2.2.1]; exact h.2.2 i⟩
set_option maxRecDepth 8000 in
theorem l_law (hL : L ≤ 3072) : ∀ (n i : Nat) (G : Mem) (z c s : Nat) (S : St), i + n = 512 → Wd G z x b L xs S → c ≤ 100 + 14 * i → s ≤ 20000 + 70 * i →
    WP 12 137 (fun r _ _ => r = some (.int 1)) 18 [some (va_rf (some b)), some (va_rf (some x)), some (va_rf (some (x + 12))), some (.int (nI (6 * i)))] [] G z c s := by
  intro n
  induction n with
  | zero =>
    intro i G z c s S hn hW hc hs
    obtain ⟨-, -, -, -, -, -, -, ⟨b1, b2, b3⟩, -⟩ := id hW
    have e1 : (Int32.ofNat L - 6 < nI (6 * i)) = (L < 6 * i + 6) := by
      rw [show Int32.ofNat L = nI L from rfl, show (6 : Int32) = nI 6 from rfl, i_lt, pk_sub_toInt (by omega) (by omega), nI_toInt (by omega)]
      exact propext ⟨fun h => by omega, fun h => by omega⟩
    rw [e_137_18]
    simp only [ent, entL, isL_int, isL_rf, isL_long, locS, List.length_cons, List.length_nil, List.cons_append, List.nil_append, List.replicate_succ, List.replicate_zero, Bool.false_eq_true, if_false, if_true, true_and, and_true, Nat.reduceAdd, Nat.reduceSub, Nat.reduceLeDiff, Nat.zero_le, Nat.le_refl, Nat.zero_add, Nat.add_zero, bI_0, bI_1, bI_n, Nat.reduceEqDiff, false_and, and_false, and_self, e_137_19, e_137_20, e_137_21, e_137_23, e_137_24, e_137_883, e_137_884, b1, b2, e1, show L < 6 * i + 6 by omega, nz_1, show c ≤ 600000 by omega, show s ≤ 7302249 by omega]
  | succ n ih =>
    intro i G z c s S hn hW hc hs
    obtain ⟨-, -, -, -, -, -, -, ⟨b1, b2, b3⟩, -⟩ := id hW
    have e1 : (Int32.ofNat L - 6 < nI (6 * i)) = (L < 6 * i + 6) := by
      rw [show Int32.ofNat L = nI L from rfl, show (6 : Int32) = nI 6 from rfl, i_lt, pk_sub_toInt (by omega) (by omega), nI_toInt (by omega)]
      exact propext ⟨fun h => by omega, fun h => by omega⟩
    rw [e_137_18]
    by_cases hi : L < 6 * i + 6
    · simp only [ent, entL, isL_int, isL_rf, isL_long, locS, List.length_cons, List.length_nil, List.cons_append, List.nil_append, List.replicate_succ, List.replicate_zero, Bool.false_eq_true, if_false, if_true, true_and, and_true, Nat.reduceAdd, Nat.reduceSub, Nat.reduceLeDiff, Nat.zero_le, Nat.le_refl, Nat.zero_add, Nat.add_zero, bI_0, bI_1, bI_n, Nat.reduceEqDiff, false_and, and_false, and_self, e_137_19, e_137_20, e_137_21, e_137_23, e_137_24, e_137_883, e_137_884, b1, b2, e1, hi, nz_1, show c ≤ 600000 by omega, show s ≤ 7302249 by omega]
    · have nx : Nx (fun r _ _ => r = some (.int 1)) x b L xs i c s := by
        intro G' z' c' s' S' hW' hc' hs'
        have e6 : nI (6 * i) + 6 = nI (6 * (i + 1)) := n_add (6 * i) 6
        simp only [ent, entL, isL_int, isL_rf, isL_long, locS, List.length_cons, List.length_nil, List.cons_append, List.nil_append, List.replicate_succ, List.replicate_zero, Bool.false_eq_true, if_false, if_true, true_and, and_true, Nat.reduceAdd, Nat.reduceSub, Nat.reduceLeDiff, Nat.zero_le, Nat.le_refl, Nat.zero_add, Nat.add_zero, bI_0, bI_1, bI_n, Nat.reduceEqDiff, false_and, and_false, and_self, e_137_877, e_137_880, e6]
        exact ih (i + 1) G' z' c' s' S' (by omega) hW' (by omega) (by omega)
      simp only [ent, entL, isL_int, isL_rf, isL_long, locS, List.length_cons, List.length_nil, List.cons_append, List.nil_append, List.replicate_succ, List.replicate_zero, Bool.false_eq_true, if_false, if_true, true_and, and_true, Nat.reduceAdd, Nat.reduceSub, Nat.reduceLeDiff, Nat.zero_le, Nat.le_refl, Nat.zero_add, Nat.add_zero, bI_0, bI_1, bI_n, Nat.reduceEqDiff, false_and, and_false, and_self, e_137_19, e_137_20, e_137_21, e_137_23, e_137_24, e_137_27, e_137_28, e_137_29, e_137_30, e_137_32, e_137_33, b1, b2, b3, e1, hi, n_in (show 6 * i < L by omega) (show L < 2 ^ 31 by omega), n_cl (show 6 * i < 2 ^ 31 by omega), or_true]
      have hi : 6 * i + 6 ≤ L := by omega
      rcases lit_cases (xs (6 * i) &&& 31) (n := 19) (by decide) with ⟨k, hk, hx⟩ | hx
      · rw [hx]
        clear e1 hx ih
        match k, hk with
        | 0, _ => rw [tsw_go 124 (by decide)]; exact w_weeks hW hi hL (by omega) (by omega) nx
        | 1, _ => rw [tsw_go 147 (by decide)]; exact w_turn hW hi hL (by omega) (by omega) nx
        | 2, _ => rw [tsw_go 226 (by decide)]; exact w_hall hW hi hL (by omega) (by omega) nx
        | 3, _ => rw [tsw_go 269 (by decide)]; exact w_feed hW hi hL (by omega) (by omega) nx
        | 4, _ => rw [tsw_go 332 (by decide)]; exact w_sign hW hi hL (by omega) (by omega) nx
        | 5, _ => rw [tsw_go 375 (by decide)]; exact w_fault hW hi hL (by omega) (by omega) nx
        | 6, _ => rw [tsw_go 388 (by decide)]; exact w_force hW hi hL (by omega) (by omega) nx
        | 7, _ => rw [tsw_go 431 (by decide)]; exact w_why hW hi hL (by omega) (by omega) nx
        | 8, _ => rw [tsw_go 474 (by decide)]; exact w_book hW hi hL (by omega) (by omega) nx
        | 9, _ => rw [tsw_go 517 (by decide)]; exact w_cancel hW hi hL (by omega) (by omega) nx
        | 10, _ => rw [tsw_go 550 (by decide)]; exact w_where hW hi hL (by omega) (by omega) nx
        | 11, _ => rw [tsw_go 583 (by decide)]; exact w_bill hW hi hL (by omega) (by omega) nx
        | 12, _ => rw [tsw_go 626 (by decide)]; exact w_order hW hi hL (by omega) (by omega) nx
        | 13, _ => rw [tsw_go 669 (by decide)]; exact w_waits hW hi hL (by omega) (by omega) nx
        | 14, _ => rw [tsw_go 702 (by decide)]; exact w_fail hW hi hL (by omega) (by omega) nx
        | 15, _ => rw [tsw_go 735 (by decide)]; exact w_fill hW hi hL (by omega) (by omega) nx
        | 16, _ => rw [tsw_go 778 (by decide)]; exact w_pay hW hi hL (by omega) (by omega) nx
        | 17, _ => rw [tsw_go 821 (by decide)]; exact w_turnOf hW hi hL (by omega) (by omega) nx
        | 18, _ => rw [tsw_go 854 (by decide)]; exact w_count hW hi hL (by omega) (by omega) nx
        | k + 19, hk => omega
      · rw [tsw_out 877 (by omega) (by decide)]
        exact nx G z c s S hW (by omega) (by omega)
end
