/-! the class: the turn with the greatest draw; a booking, and one taken off -/
def gtO (S : St) (o : Option Nat) (n : Nat) : Bool := match o with
  | none => true
  | some b => decide (sI S 3 b < sI S 3 n)
def bestF (S : St) (h w : Nat) (but : Option Nat) : Nat → Option Nat
  | 0 => none
  | n + 1 => if ¬ but = some n ∧ gtO S (bestF S h w but n) n = true ∧ whyS S n h w = 0 then some n else bestF S h w but n
theorem bestF_lt {S : St} {h w : Nat} {but : Option Nat} : ∀ {n b : Nat}, bestF S h w but n = some b → b < n ∧ whyS S b h w = 0
  | 0, b, q => by cases q
  | n + 1, b, q => by
    unfold bestF at q
    split at q
    · cases q; rename_i hq; exact ⟨by omega, hq.2.2⟩
    · have := bestF_lt q
      exact ⟨by omega, this.2⟩
def bk (S : St) (i w h : Nat) : St := uN (uP S i w (some h)) 4 (sN S 4 + 1)
def tk (S : St) (i w : Nat) : St := uN (uP S i w none) 4 (sN S 4 - 1)
theorem cntW_oth {S : St} {t w t' : Nat} {v : Option Nat} (h : t' ≠ t) : ∀ n, cntW (uP S t w v) t' n = cntW S t' n
  | 0 => rfl
  | n + 1 => by rw [cntW, cntW, cntW_oth h n]; simp only [stS, h, false_and, if_false]
theorem cntW_ge {S : St} {t w : Nat} {v : Option Nat} : ∀ n, n ≤ w → cntW (uP S t w v) t n = cntW S t n
  | 0, _ => rfl
  | n + 1, h => by rw [cntW, cntW, cntW_ge n (by omega)]; simp only [stS, show ¬ n = w by omega, and_false, if_false]
theorem cntW_set {S : St} {t w h : Nat} (hp : sP S t w = none) : ∀ n, w < n → cntW (uP S t w (some h)) t n = cntW S t n + 1
  | 0, q => by omega
  | n + 1, q => by
    rw [cntW, cntW]
    by_cases hn : n = w
    · subst hn
      rw [cntW_ge n (Nat.le_refl _)]
      simp [stS, hp]
    · rw [cntW_set hp n (by omega)]
      simp only [stS, hn, and_false, if_false]
      omega
theorem cntW_clr {S : St} {t w h : Nat} (hp : sP S t w = some h) : ∀ n, w < n → cntW (uP S t w none) t n + 1 = cntW S t n
  | 0, q => by omega
  | n + 1, q => by
    rw [cntW, cntW]
    by_cases hn : n = w
    · subst hn
      rw [cntW_ge n (Nat.le_refl _)]
      simp [stS, hp]
    · have := cntW_clr hp n (by omega)
      simp only [stS, hn, and_false, if_false]
      omega
theorem cntW_uN {S : St} {t k v : Nat} : ∀ n, cntW (uN S k v) t n = cntW S t n
  | 0 => rfl
  | n + 1 => by rw [cntW, cntW, cntW_uN n]; simp only [stS]
theorem lastC_congr {S S' : St} {t : Nat} : ∀ n, (∀ c, c < n → sC S' 0 c = sC S 0 c) → lastC S' t n = lastC S t n
  | 0, _ => rfl
  | n + 1, h => by rw [lastC, lastC, lastC_congr n (fun c hc => h c (by omega)), h n (by omega)]
section X
variable {G : Mem} {x : Nat} {ta ha ca : Nat → Nat} {S : St} {l : List Nat}
/-- the memory behind a booking that is put on or taken off -/
def pbG (G : Mem) (x a w : Nat) (r : Option Nat) (b n : Int32) : Mem := pI (pI (pQ G (a + 1) w r) 6 8 a b) 7 8 x n
theorem RX.pb (hX : RX G x ta ha ca S) {i w : Nat} {v : Option Nat} {b : Int32} {n : Nat} (hi : i < sN S 1) (hw : w < 60) (hb : b = nI (cntW (uP S i w v) i 60)) : RX (pbG G x (ta i) w (v.map ha) b (nI n)) x ta ha ca (uN (uP S i w v) 4 n) := by
  obtain ⟨h1, h2, h3, h4, h5, h6, h7⟩ := hX
  have hti := h3 i hi
  have hne : ∀ j, j < sN S 1 → j ≠ i → ¬ ta j = ta i := fun j hj hji q => hji (h6.1 j i hj hi q)
  have hlc : ∀ t n', lastC (uN (uP S i w v) 4 n) t n' = lastC S t n' := fun t n' => lastC_congr n' (fun c _ => rfl)
  have hx6 : x + 36 ≤ ta i := hti.2.1
  refine ⟨?_, ?_, fun j hj => ?_, fun h hh => ?_, fun c hc => ?_, ?_, fun k => ?_⟩
  · simp only [pbG, memS]; exact h1
  · simp only [XN] at h2 ⊢
    simp [pbG, memS, stS, h2]
  · have hj : j < sN S 1 := by simpa [stS] using hj
    have htj := h3 j hj
    have hxj : ¬ ta j = x := by have := htj.2.1; omega
    simp only [pbG, memS, stS, hlc, cntW_uN, Nat.reduceEqDiff, if_false]
    by_cases hji : j = i
    · subst hji
      obtain ⟨g1, g2, g3, g4, g5, g6, g7, g8, g9, g10, g11, g12, g13, g14, g15, g16⟩ := htj
      simp only [show ¬ x + 1 = ta j + 1 by omega, show ¬ x = ta j by omega, false_and, if_false, g1, g3, g4, g5, g6, g7, g8, g9, g10, g11, g12, g13, g15, hb]
      refine ⟨trivial, g2, trivial, by simp, by simp, by simp, by simp, by simp, by simp, trivial, trivial, trivial, trivial, by simp, by simp, fun w' hw' => ?_⟩
      by_cases hww : w' = w
      · simp [hww]
      · simp [hww, g16 w' hw']
    · obtain ⟨g1, g2, g3, g4, g5, g6, g7, g8, g9, g10, g11, g12, g13, g14, g15, g16⟩ := htj
      have hn1 := hne j hj hji
      simp only [show ¬ x + 1 = ta i + 1 by omega, show ¬ x = ta i by omega, show ¬ ta j + 1 = ta i + 1 by omega, hn1, hji, false_and, and_false, if_false, cntW_oth hji, g1, g3, g4, g5, g6, g7, g8, g9, g10, g11, g12, g13, g14, g15]
      exact ⟨trivial, g2, trivial, by simp, by simp, by simp, by simp, by simp, by simp, trivial, trivial, trivial, trivial, by simp, by simp, g16⟩
  · have hh : h < sN S 2 := by simpa [stS] using hh
    have := h4 h hh
    simp only [pbG, memS, stS, show ¬ x + 2 = ta i + 1 by omega, false_and, if_false]
    simpa using this
  · have hc : c < sN S 3 := by simpa [stS] using hc
    obtain ⟨g1, g2, g3, g4, g5, g6⟩ := h5 c hc
    simp only [pbG, memS, stS, hlc]
    refine ⟨g1, by simpa using g2, by simpa using g3, by simpa using g4, g5, ?_⟩
    exact SCh.congr (G := G) _ _ (fun a ha5 => ⟨by simp only [memS]; exact ha5, fun k => by simp [memS], fun k => rfl⟩) g6
  · exact h6
  · simp only [pbG, memS, stS]; exact h7 k
set_option maxRecDepth 8000 in
theorem s_setHallIn {d z a w : Nat} {r : Option Nat} {Q : Rt} (h1 : mK G a = 6) (h2 : mR G 6 6 a = some (a + 1)) (h3 : mK G (a + 1) = 23) (h4 : mN G (a + 1) = 60) (hw : w < 60) (hr : ∀ b, r = some b → mK G b = 4) (h : Q none (pQ G (a + 1) w r) z) : CALL (d + 2) 45 [va_rf (some a), .int (nI w), va_rf r] G z Q := by
  rw [CALL_eq]
  simp only [mxE_45, ent, entL, isL_int, isL_rf, isL_long, locS, List.length_cons, List.length_nil, List.cons_append, List.nil_append, List.replicate_succ, List.replicate_zero, Bool.false_eq_true, if_false, if_true, true_and, and_true, Nat.reduceAdd, Nat.reduceSub, Nat.reduceLeDiff, Nat.zero_le, Nat.le_refl, Nat.zero_add, Nat.add_zero, bI_0, bI_1, bI_n, Nat.reduceEqDiff, false_and, and_false, and_self, e_45_0, e_45_1, e_45_4, e_45_7, e_45_8, e_45_11, e_45_12, e_45_13, e_45_14, s_isWeek, w_ok hw, not_true, h1, h2, h3, h4, n_in hw (by decide), n_cl (show w < 2 ^ 31 by omega)]
  exact ⟨Or.inl hr, h⟩
set_option maxRecDepth 8000 in
theorem s_putOn (hX : RX G x ta ha ca S) (hI : Inv S) {d z i w h : Nat} (hi : i < sN S 1) (hh : h < sN S 2) (hw : w < 60) (hp : sP S i w = none) {Q : Rt} (hr : Q none (pbG G x (ta i) w (some (ha h)) (nI (cntW S i 60 + 1)) (nI (sN S 4 + 1))) z) : CALL (d + 3) 77 [va_rf (some x), va_rf (some (ta i)), va_rf (some (ha h)), .int (nI w)] G z Q := by
  have hs := hX.1
  have hn := hX.2.1
  obtain ⟨-, -, t3, -, -, -, -, -, -, t10, t11, t12, -, t14, -⟩ := hX.2.2.1 i hi
  obtain ⟨-, p2, -⟩ := hX.2.2.2.1 h hh
  rw [CALL_eq]
  simp only [mxE_77, ent, entL, isL_int, isL_rf, isL_long, locS, List.length_cons, List.length_nil, List.cons_append, List.nil_append, List.replicate_succ, List.replicate_zero, Bool.false_eq_true, if_false, if_true, true_and, and_true, Nat.reduceAdd, Nat.reduceSub, Nat.reduceLeDiff, Nat.zero_le, Nat.le_refl, Nat.zero_add, Nat.add_zero, bI_0, bI_1, bI_n, Nat.reduceEqDiff, false_and, and_false, and_self, e_77_0, e_77_1, e_77_2, e_77_3, e_77_6, e_77_7, e_77_8, e_77_11, e_77_12, e_77_13, e_77_16, e_77_17, e_77_18, e_77_21, e_77_22, e_77_23, e_77_26, t3]
  refine s_setHallIn t3 t10 t11 t12 hw (fun b hb => by cases hb; exact p2) ?_
  simp only [ent, entL, isL_int, isL_rf, isL_long, locS, List.length_cons, List.length_nil, List.cons_append, List.nil_append, List.replicate_succ, List.replicate_zero, Bool.false_eq_true, if_false, if_true, true_and, and_true, Nat.reduceAdd, Nat.reduceSub, Nat.reduceLeDiff, Nat.zero_le, Nat.le_refl, Nat.zero_add, Nat.add_zero, bI_0, bI_1, bI_n, Nat.reduceEqDiff, false_and, and_false, and_self, e_77_0, e_77_1, e_77_2, e_77_3, e_77_6, e_77_7, e_77_8, e_77_11, e_77_12, e_77_13, e_77_16, e_77_17, e_77_18, e_77_21, e_77_22, e_77_23, e_77_26, memS, t3, t14, hs, hn, n_1, Nat.reduceEqDiff, false_and]
  exact hr
set_option maxRecDepth 8000 in
theorem s_takeOff (hX : RX G x ta ha ca S) (hI : Inv S) {d z i w h : Nat} (hi : i < sN S 1) (hw : w < 60) (hp : sP S i w = some h) (hn4 : 0 < sN S 4) {Q : Rt} (hr : Q none (pbG G x (ta i) w none (nI (cntW S i 60 - 1)) (nI (sN S 4 - 1))) z) : CALL (d + 3) 78 [va_rf (some x), va_rf (some (ta i)), .int (nI w)] G z Q := by
  have hs := hX.1
  have hn := hX.2.1
  obtain ⟨-, -, t3, -, -, -, -, -, -, t10, t11, t12, -, t14, -⟩ := hX.2.2.1 i hi
  have hc : 0 < cntW S i 60 := by have := cntW_clr hp 60 hw; omega
  rw [CALL_eq]
  simp only [mxE_78, ent, entL, isL_int, isL_rf, isL_long, locS, List.length_cons, List.length_nil, List.cons_append, List.nil_append, List.replicate_succ, List.replicate_zero, Bool.false_eq_true, if_false, if_true, true_and, and_true, Nat.reduceAdd, Nat.reduceSub, Nat.reduceLeDiff, Nat.zero_le, Nat.le_refl, Nat.zero_add, Nat.add_zero, bI_0, bI_1, bI_n, Nat.reduceEqDiff, false_and, and_false, and_self, e_78_0, e_78_1, e_78_2, e_78_3, e_78_6, e_78_7, e_78_8, e_78_11, e_78_12, e_78_13, e_78_16, e_78_17, e_78_18, e_78_21, e_78_22, e_78_23, e_78_26, t3]
  refine s_setHallIn t3 t10 t11 t12 hw (fun b hb => by cases hb) ?_
  simp only [ent, entL, isL_int, isL_rf, isL_long, locS, List.length_cons, List.length_nil, List.cons_append, List.nil_append, List.replicate_succ, List.replicate_zero, Bool.false_eq_true, if_false, if_true, true_and, and_true, Nat.reduceAdd, Nat.reduceSub, Nat.reduceLeDiff, Nat.zero_le, Nat.le_refl, Nat.zero_add, Nat.add_zero, bI_0, bI_1, bI_n, Nat.reduceEqDiff, false_and, and_false, and_self, e_78_0, e_78_1, e_78_2, e_78_3, e_78_6, e_78_7, e_78_8, e_78_11, e_78_12, e_78_13, e_78_16, e_78_17, e_78_18, e_78_21, e_78_22, e_78_23, e_78_26, memS, t3, t14, hs, hn, n_pred hc, n_pred hn4, Nat.reduceEqDiff, false_and]
  exact hr
theorem map_ta (hX : RX G x ta ha ca S) {but : Option Nat} {k : Nat} (hk : k < sN S 1) (hb : ∀ b, but = some b → b < sN S 1) : (some (ta k) = but.map ta) = (but = some k) := by
  refine propext ⟨fun q => ?_, fun q => by rw [q]; rfl⟩
  cases hb' : but with
  | none => rw [hb'] at q; cases q
  | some b =>
    rw [hb'] at q
    have := hX.2.2.2.2.2.1.1 k b hk (hb b hb') (Option.some.inj q)
    rw [this]
set_option maxRecDepth 8000 in
theorem l_best (hI : Inv S) {d z w h : Nat} {but : Option Nat} (hh : h < sN S 2) (hw : w < 60) (hn : sN S 0 ≤ w) (hb : ∀ b, but = some b → b < sN S 1) {R : Rt} (hR : ∀ G', SX x G G' → R (some (va_rf ((bestF S h w but (sN S 1)).map ta))) G' z) : ∀ (n k : Nat) (G1 : Mem) (o6 : Option Value), k + n = sN S 1 → RX G1 x ta ha ca S → SX x G G1 →
    WP (d + 5) 79 R 6 [some (va_rf (some x)), some (va_rf (some (ha h))), some (.int (nI w)), some (va_rf (but.map ta)), some (va_rf ((bestF S h w but k).map ta)), some (.int (nI k)), o6] [] G1 z 0 0
  | 0, k, G1, o6, hk, hX, hsx => by
    have hs := hX.1
    have hxn := hX.2.1
    have h40 := hI.2.1
    have : k = sN S 1 := by omega
    subst this
    rw [e_79_6]
    simp only [ent, entL, isL_int, isL_rf, isL_long, locS, List.length_cons, List.length_nil, List.cons_append, List.nil_append, List.replicate_succ, List.replicate_zero, Bool.false_eq_true, if_false, if_true, true_and, and_true, Nat.reduceAdd, Nat.reduceSub, Nat.reduceLeDiff, Nat.zero_le, Nat.le_refl, Nat.zero_add, Nat.add_zero, bI_0, bI_1, bI_n, Nat.reduceEqDiff, false_and, and_false, and_self, e_79_0, e_79_1, e_79_3, e_79_4, e_79_8, e_79_9, e_79_12, e_79_15, e_79_16, e_79_18, e_79_21, e_79_23, e_79_25, e_79_28, e_79_30, e_79_31, e_79_34, e_79_36, e_79_39, e_79_41, e_79_44, e_79_46, e_79_49, e_79_52, e_79_55, e_79_56, e_79_58, e_79_59, e_79_60, e_79_63, e_79_66, e_79_68, e_79_70, e_79_73, e_79_76, e_79_78, hs, hxn, n_le (show sN S 1 < 2 ^ 31 by omega) (show sN S 1 < 2 ^ 31 by omega)]
    exact hR G1 hsx
  | n + 1, k, G1, o6, hk, hX, hsx => by
    have hs := hX.1
    have hxn := hX.2.1
    have h40 := hI.2.1
    have hkt : k < sN S 1 := by omega
    obtain ⟨-, -, t3, -, -, -, -, -, t9, -⟩ := hX.2.2.1 k hkt
    rw [e_79_6]
    simp only [ent, entL, isL_int, isL_rf, isL_long, locS, List.length_cons, List.length_nil, List.cons_append, List.nil_append, List.replicate_succ, List.replicate_zero, Bool.false_eq_true, if_false, if_true, true_and, and_true, Nat.reduceAdd, Nat.reduceSub, Nat.reduceLeDiff, Nat.zero_le, Nat.le_refl, Nat.zero_add, Nat.add_zero, bI_0, bI_1, bI_n, Nat.reduceEqDiff, false_and, and_false, and_self, e_79_0, e_79_1, e_79_3, e_79_4, e_79_8, e_79_9, e_79_12, e_79_15, e_79_16, e_79_18, e_79_21, e_79_23, e_79_25, e_79_28, e_79_30, e_79_31, e_79_34, e_79_36, e_79_39, e_79_41, e_79_44, e_79_46, e_79_49, e_79_52, e_79_55, e_79_56, e_79_58, e_79_59, e_79_60, e_79_63, e_79_66, e_79_68, e_79_70, e_79_73, e_79_76, e_79_78, hs, hxn, n_le (show sN S 1 < 2 ^ 31 by omega) (show k < 2 ^ 31 by omega), show ¬ sN S 1 ≤ k by omega, s_turnAt hX hI, ix_n (show sN S 1 < 2 ^ 31 by omega) hkt, Option.map_some, reduceCtorEq, map_ta hX hkt hb, t3, t9]
    have go := fun G1 o6 => l_best (d := d) hI hh hw hn hb hR n (k + 1) G1 o6 (by omega)
    have bar : gtO S (bestF S h w but k) k = true → ¬ but = some k → WP (d + 5) 79 R 55 [some (va_rf (some x)), some (va_rf (some (ha h))), some (.int (nI w)), some (va_rf (but.map ta)), some (va_rf ((bestF S h w but k).map ta)), some (.int (nI k)), some (va_rf (some (ta k)))] [] G1 z 0 0 := by
      intro hg hbk
      simp only [ent, entL, isL_int, isL_rf, isL_long, locS, List.length_cons, List.length_nil, List.cons_append, List.nil_append, List.replicate_succ, List.replicate_zero, Bool.false_eq_true, if_false, if_true, true_and, and_true, Nat.reduceAdd, Nat.reduceSub, Nat.reduceLeDiff, Nat.zero_le, Nat.le_refl, Nat.zero_add, Nat.add_zero, bI_0, bI_1, bI_n, Nat.reduceEqDiff, false_and, and_false, and_self, e_79_0, e_79_1, e_79_3, e_79_4, e_79_8, e_79_9, e_79_12, e_79_15, e_79_16, e_79_18, e_79_21, e_79_23, e_79_25, e_79_28, e_79_30, e_79_31, e_79_34, e_79_36, e_79_39, e_79_41, e_79_44, e_79_46, e_79_49, e_79_52, e_79_55, e_79_56, e_79_58, e_79_59, e_79_60, e_79_63, e_79_66, e_79_68, e_79_70, e_79_73, e_79_76, e_79_78, hs]
      refine s_barTo hX hI hkt hh hw hn ?_
      intro G2 hsx2
      have hX2 := hX.sx hsx2
      simp only [ent, entL, isL_int, isL_rf, isL_long, locS, List.length_cons, List.length_nil, List.cons_append, List.nil_append, List.replicate_succ, List.replicate_zero, Bool.false_eq_true, if_false, if_true, true_and, and_true, Nat.reduceAdd, Nat.reduceSub, Nat.reduceLeDiff, Nat.zero_le, Nat.le_refl, Nat.zero_add, Nat.add_zero, bI_0, bI_1, bI_n, Nat.reduceEqDiff, false_and, and_false, and_self, e_79_0, e_79_1, e_79_3, e_79_4, e_79_8, e_79_9, e_79_12, e_79_15, e_79_16, e_79_18, e_79_21, e_79_23, e_79_25, e_79_28, e_79_30, e_79_31, e_79_34, e_79_36, e_79_39, e_79_41, e_79_44, e_79_46, e_79_49, e_79_52, e_79_55, e_79_56, e_79_58, e_79_59, e_79_60, e_79_63, e_79_66, e_79_68, e_79_70, e_79_73, e_79_76, e_79_78, n_1]
      by_cases q : whyS S k h w = 0
      · simp only [q, if_true]
        have := go G2 (some (va_rf (some (ta k)))) hX2 (hsx.tr hsx2)
        rw [bestF, if_pos ⟨hbk, hg, q⟩] at this
        exact this
      · simp only [q, if_false]
        have := go G2 (some (va_rf (some (ta k)))) hX2 (hsx.tr hsx2)
        rw [bestF, if_neg (fun z => q z.2.2)] at this
        exact this
    by_cases q1 : but = some k
    · simp only [q1, if_true, n_1]
      have := go G1 (some (va_rf (some (ta k)))) hX hsx
      rw [bestF, if_neg (fun z => z.1 q1)] at this
      rw [q1] at this
      exact this
    · simp only [q1, if_false]
      cases hq : bestF S h w but k with
      | none =>
        rw [hq] at bar
        simp only [Option.map_none, if_true]
        have := bar rfl q1
        simp only [ent, entL, isL_int, isL_rf, isL_long, locS, List.length_cons, List.length_nil, List.cons_append, List.nil_append, List.replicate_succ, List.replicate_zero, Bool.false_eq_true, if_false, if_true, true_and, and_true, Nat.reduceAdd, Nat.reduceSub, Nat.reduceLeDiff, Nat.zero_le, Nat.le_refl, Nat.zero_add, Nat.add_zero, bI_0, bI_1, bI_n, Nat.reduceEqDiff, false_and, and_false, and_self, e_79_0, e_79_1, e_79_3, e_79_4, e_79_8, e_79_9, e_79_12, e_79_15, e_79_16, e_79_18, e_79_21, e_79_23, e_79_25, e_79_28, e_79_30, e_79_31, e_79_34, e_79_36, e_79_39, e_79_41, e_79_44, e_79_46, e_79_49, e_79_52, e_79_55, e_79_56, e_79_58, e_79_59, e_79_60, e_79_63, e_79_66, e_79_68, e_79_70, e_79_73, e_79_76, e_79_78, hs] at this ⊢
        exact this
      | some b =>
        have hbk : b < sN S 1 := by have := (bestF_lt hq).1; omega
        obtain ⟨-, -, b3, -, -, -, -, -, b9, -⟩ := hX.2.2.1 b hbk
        rw [hq] at bar
        simp only [ent, entL, isL_int, isL_rf, isL_long, locS, List.length_cons, List.length_nil, List.cons_append, List.nil_append, List.replicate_succ, List.replicate_zero, Bool.false_eq_true, if_false, if_true, true_and, and_true, Nat.reduceAdd, Nat.reduceSub, Nat.reduceLeDiff, Nat.zero_le, Nat.le_refl, Nat.zero_add, Nat.add_zero, bI_0, bI_1, bI_n, Nat.reduceEqDiff, false_and, and_false, and_self, e_79_0, e_79_1, e_79_3, e_79_4, e_79_8, e_79_9, e_79_12, e_79_15, e_79_16, e_79_18, e_79_21, e_79_23, e_79_25, e_79_28, e_79_30, e_79_31, e_79_34, e_79_36, e_79_39, e_79_41, e_79_44, e_79_46, e_79_49, e_79_52, Option.map_some, reduceCtorEq, t3, t9, b3, b9]
        by_cases q2 : sI S 3 b < sI S 3 k
        · have := bar (by simp only [gtO, q2, decide_true]) q1
          simp only [q2, if_true]
          simp only [ent, entL, isL_int, isL_rf, isL_long, locS, List.length_cons, List.length_nil, List.cons_append, List.nil_append, List.replicate_succ, List.replicate_zero, Bool.false_eq_true, if_false, if_true, true_and, and_true, Nat.reduceAdd, Nat.reduceSub, Nat.reduceLeDiff, Nat.zero_le, Nat.le_refl, Nat.zero_add, Nat.add_zero, bI_0, bI_1, bI_n, Nat.reduceEqDiff, false_and, and_false, and_self, e_79_0, e_79_1, e_79_3, e_79_4, e_79_8, e_79_9, e_79_12, e_79_15, e_79_16, e_79_18, e_79_21, e_79_23, e_79_25, e_79_28, e_79_30, e_79_31, e_79_34, e_79_36, e_79_39, e_79_41, e_79_44, e_79_46, e_79_49, e_79_52, e_79_55, e_79_56, e_79_58, e_79_59, e_79_60, e_79_63, e_79_66, e_79_68, e_79_70, e_79_73, e_79_76, e_79_78, hs] at this ⊢
          exact this
        · simp only [q2, if_false]
          have := go G1 (some (va_rf (some (ta k)))) hX hsx
          rw [bestF, if_neg (fun z => by rw [hq] at z; exact q2 (of_decide_eq_true z.2.1)), hq] at this
          simp only [ent, entL, isL_int, isL_rf, isL_long, locS, List.length_cons, List.length_nil, List.cons_append, List.nil_append, List.replicate_succ, List.replicate_zero, Bool.false_eq_true, if_false, if_true, true_and, and_true, Nat.reduceAdd, Nat.reduceSub, Nat.reduceLeDiff, Nat.zero_le, Nat.le_refl, Nat.zero_add, Nat.add_zero, bI_0, bI_1, bI_n, Nat.reduceEqDiff, false_and, and_false, and_self, e_79_0, e_79_1, e_79_3, e_79_4, e_79_8, e_79_9, e_79_12, e_79_15, e_79_16, e_79_18, e_79_21, e_79_23, e_79_25, e_79_28, e_79_30, e_79_31, e_79_34, e_79_36, e_79_39, e_79_41, e_79_44, e_79_46, e_79_49, e_79_52, e_79_55, e_79_56, e_79_58, e_79_59, e_79_60, e_79_63, e_79_66, e_79_68, e_79_70, e_79_73, e_79_76, e_79_78, n_1]
          exact this
set_option maxRecDepth 8000 in
theorem s_best (hX : RX G x ta ha ca S) (hI : Inv S) {d z w h : Nat} {but : Option Nat} (hh : h < sN S 2) (hw : w < 60) (hn : sN S 0 ≤ w) (hb : ∀ b, but = some b → b < sN S 1) {Q : Rt} (hR : ∀ G', SX x G G' → Q (some (va_rf ((bestF S h w but (sN S 1)).map ta))) G' z) : CALL (d + 6) 79 [va_rf (some x), va_rf (some (ha h)), .int (nI w), va_rf (but.map ta)] G z Q := by
  rw [CALL_eq]
  simp only [mxE_79, ent, entL, isL_int, isL_rf, isL_long, locS, List.length_cons, List.length_nil, List.cons_append, List.nil_append, List.replicate_succ, List.replicate_zero, Bool.false_eq_true, if_false, if_true, true_and, and_true, Nat.reduceAdd, Nat.reduceSub, Nat.reduceLeDiff, Nat.zero_le, Nat.le_refl, Nat.zero_add, Nat.add_zero, bI_0, bI_1, bI_n, Nat.reduceEqDiff, false_and, and_false, and_self, e_79_0, e_79_1, e_79_3, e_79_4, e_79_8, e_79_9, e_79_12, e_79_15, e_79_16, e_79_18, e_79_21, e_79_23, e_79_25, e_79_28, e_79_30, e_79_31, e_79_34, e_79_36, e_79_39, e_79_41, e_79_44, e_79_46, e_79_49, e_79_52, e_79_55, e_79_56, e_79_58, e_79_59, e_79_60, e_79_63, e_79_66, e_79_68, e_79_70, e_79_73, e_79_76, e_79_78]
  exact l_best hI hh hw hn hb hR (sN S 1) 0 G _ (by omega) hX SX.rf
end X
