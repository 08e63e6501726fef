/-! the class: the gathered bill -/
abbrev BillOK (G : Mem) (x : Nat) (ta : Nat → Nat) (l : List Nat) : Prop := mI G 1 1 (x + 4) = nI l.length ∧ l.length ≤ 9 ∧ ∀ (k t : Nat), l[k]? = some t → mQ G (x + 5) k = some (ta t)
theorem dr {l : List Nat} {k : Nat} (h : k < l.length) : ∃ t, l[k]? = some t ∧ t ∈ l ∧ l.drop k = t :: l.drop (k + 1) :=
  ⟨l[k], List.getElem?_eq_getElem h, List.getElem_mem h, List.drop_eq_getElem_cons h⟩
section X
variable {G : Mem} {x : Nat} {ta ha ca : Nat → Nat} {S : St} {l : List Nat}
set_option maxRecDepth 8000 in
theorem s_memberAt (hX : RX G x ta ha ca S) (hB : BillOK G x ta l) {d z : Nat} {v : Int32} {Q : Rt} : CALL (d + 2) 14 [va_rf (some (x + 4)), .int v] G z Q = Q (some (va_rf ((ix v l.length).bind fun k => (l[k]?).map ta))) G z := by
  have hs := hX.1
  obtain ⟨b1, b2, b3⟩ := hB
  rw [CALL_eq]
  simp only [mxE_14, ent, entL, isL_int, isL_rf, isL_long, locS, List.length_cons, List.length_nil, List.cons_append, List.nil_append, List.replicate_succ, List.replicate_zero, Bool.false_eq_true, if_false, if_true, true_and, and_true, Nat.reduceAdd, Nat.reduceSub, Nat.reduceLeDiff, Nat.zero_le, Nat.le_refl, Nat.zero_add, Nat.add_zero, bI_0, bI_1, bI_n, Nat.reduceEqDiff, false_and, and_false, and_self, e_14_0, e_14_1, e_14_2, e_14_3, e_14_6, e_14_7, e_14_8, e_14_11, e_14_14, e_14_15, e_14_18, e_14_19, e_14_20, e_14_23, e_14_24, s_isWithin, hs, b1, n_m1' (show l.length < 2 ^ 31 by omega), ix_c (show l.length < 2 ^ 31 by omega), or_true]
  cases hq : ix v l.length with
  | none => simp only [Option.isSome_none, Bool.false_eq_true, not_false_iff, if_true, Option.bind_none]
  | some k =>
    obtain ⟨hk, rfl⟩ := ix_s (by omega) hq
    obtain ⟨t, ht, -⟩ := dr hk
    simp only [Option.isSome_some, not_true, if_false, Option.bind_some, ht, Option.map_some, n_in (show k < 9 by omega) (by decide), n_cl (show k < 2 ^ 31 by omega), b3 k t ht, true_and]
theorem s_memT (hX : RX G x ta ha ca S) (hB : BillOK G x ta l) {d z k t : Nat} (hk : l[k]? = some t) {Q : Rt} : CALL (d + 2) 14 [va_rf (some (x + 4)), .int (nI k)] G z Q = Q (some (va_rf (some (ta t)))) G z := by
  have hl : k < l.length := (List.getElem?_eq_some_iff.mp hk).1
  rw [s_memberAt hX hB, ix_n (by have := hB.2.1; omega) hl, Option.bind_some, hk, Option.map_some]
set_option maxRecDepth 8000 in
theorem s_numberAtB (hX : RX G x ta ha ca S) (hB : BillOK G x ta l) (hl : ∀ t ∈ l, t < sN S 1) {d z : Nat} {v : Int32} {Q : Rt} : CALL (d + 3) 15 [va_rf (some (x + 4)), .int v] G z Q = Q (some (.int (match (ix v l.length).bind fun k => l[k]? with | none => -1 | some t => nI t))) G z := by
  have hs := hX.1
  rw [CALL_eq]
  simp only [mxE_15, ent, entL, isL_int, isL_rf, isL_long, locS, List.length_cons, List.length_nil, List.cons_append, List.nil_append, List.replicate_succ, List.replicate_zero, Bool.false_eq_true, if_false, if_true, true_and, and_true, Nat.reduceAdd, Nat.reduceSub, Nat.reduceLeDiff, Nat.zero_le, Nat.le_refl, Nat.zero_add, Nat.add_zero, bI_0, bI_1, bI_n, Nat.reduceEqDiff, false_and, and_false, and_self, e_15_0, e_15_1, e_15_2, e_15_5, e_15_6, e_15_7, e_15_10, e_15_11, e_15_14, e_15_15, e_15_18, s_memberAt hX hB, hs]
  cases hq : ix v l.length with
  | none => simp only [Option.bind_none, if_true]
  | some k =>
    obtain ⟨hk, rfl⟩ := ix_s (by have := hB.2.1; omega) hq
    obtain ⟨t, ht, hm, -⟩ := dr hk
    obtain ⟨-, -, t3, t4, -⟩ := hX.2.2.1 t (hl t hm)
    simp only [ent, entL, isL_int, isL_rf, isL_long, locS, List.length_cons, List.length_nil, List.cons_append, List.nil_append, List.replicate_succ, List.replicate_zero, Bool.false_eq_true, if_false, if_true, true_and, and_true, Nat.reduceAdd, Nat.reduceSub, Nat.reduceLeDiff, Nat.zero_le, Nat.le_refl, Nat.zero_add, Nat.add_zero, bI_0, bI_1, bI_n, Nat.reduceEqDiff, false_and, and_false, and_self, e_15_0, e_15_1, e_15_2, e_15_5, e_15_6, e_15_7, e_15_10, e_15_11, e_15_14, e_15_15, e_15_18, Option.bind_some, ht, Option.map_some, reduceCtorEq, t3, t4]
theorem size_le (hB : BillOK G x ta l) {k : Nat} (hk : k ≤ l.length) : (mI G 1 1 (x + 4) ≤ nI k) = (l.length ≤ k) := by
  rw [hB.1]; exact n_le (by have := hB.2.1; omega) (by have := hB.2.1; omega)
set_option maxRecDepth 8000 in
theorem l_minutes (hX : RX G x ta ha ca S) (hB : BillOK G x ta l) (hl : ∀ t ∈ l, t < sN S 1) {d z : Nat} {R : Rt} : ∀ (n k : Nat) (sum : Int32) (o3 : Option Value), k + n = l.length → R (some (.int ((l.drop k).foldl (fun a t => a + sI S 0 t) sum))) G z → WP (d + 2) 16 R 4 [some (va_rf (some (x + 4))), some (.int sum), some (.int (nI k)), o3] [] G z 0 0
  | 0, k, sum, o3, hk, hr => by
    have hs := hX.1
    rw [e_16_4]
    rw [List.drop_eq_nil_of_le (by omega)] at hr
    simp only [ent, entL, isL_int, isL_rf, isL_long, locS, List.length_cons, List.length_nil, List.cons_append, List.nil_append, List.replicate_succ, List.replicate_zero, Bool.false_eq_true, if_false, if_true, true_and, and_true, Nat.reduceAdd, Nat.reduceSub, Nat.reduceLeDiff, Nat.zero_le, Nat.le_refl, Nat.zero_add, Nat.add_zero, bI_0, bI_1, bI_n, Nat.reduceEqDiff, false_and, and_false, and_self, e_16_0, e_16_1, e_16_2, e_16_3, e_16_5, e_16_6, e_16_9, e_16_12, e_16_13, e_16_14, e_16_17, e_16_18, e_16_19, e_16_20, e_16_23, e_16_24, e_16_27, e_16_28, e_16_31, e_16_32, e_16_33, e_16_36, e_16_39, e_16_40, hs, size_le hB (show k ≤ l.length by omega), show l.length ≤ k by omega]
    exact hr
  | n + 1, k, sum, o3, hk, hr => by
    have hs := hX.1
    obtain ⟨t, ht, hm, hd⟩ := dr (l := l) (k := k) (by omega)
    rw [hd] at hr
    obtain ⟨-, -, t3, -, t5, -⟩ := hX.2.2.1 t (hl t hm)
    rw [e_16_4]
    simp only [ent, entL, isL_int, isL_rf, isL_long, locS, List.length_cons, List.length_nil, List.cons_append, List.nil_append, List.replicate_succ, List.replicate_zero, Bool.false_eq_true, if_false, if_true, true_and, and_true, Nat.reduceAdd, Nat.reduceSub, Nat.reduceLeDiff, Nat.zero_le, Nat.le_refl, Nat.zero_add, Nat.add_zero, bI_0, bI_1, bI_n, Nat.reduceEqDiff, false_and, and_false, and_self, e_16_0, e_16_1, e_16_2, e_16_3, e_16_5, e_16_6, e_16_9, e_16_12, e_16_13, e_16_14, e_16_17, e_16_18, e_16_19, e_16_20, e_16_23, e_16_24, e_16_27, e_16_28, e_16_31, e_16_32, e_16_33, e_16_36, e_16_39, e_16_40, hs, size_le hB (show k ≤ l.length by omega), show ¬ l.length ≤ k by omega, s_memT hX hB ht, reduceCtorEq, t3, t5, n_1]
    exact l_minutes hX hB hl n (k + 1) _ _ (by omega) hr
set_option maxRecDepth 8000 in
theorem s_minutes (hX : RX G x ta ha ca S) (hB : BillOK G x ta l) (hl : ∀ t ∈ l, t < sN S 1) {d z : Nat} {Q : Rt} (h : Q (some (.int (sumL (sI S 0) l))) G z) : CALL (d + 3) 16 [va_rf (some (x + 4))] G z Q := by
  rw [CALL_eq]
  simp only [mxE_16, ent, entL, isL_int, isL_rf, isL_long, locS, List.length_cons, List.length_nil, List.cons_append, List.nil_append, List.replicate_succ, List.replicate_zero, Bool.false_eq_true, if_false, if_true, true_and, and_true, Nat.reduceAdd, Nat.reduceSub, Nat.reduceLeDiff, Nat.zero_le, Nat.le_refl, Nat.zero_add, Nat.add_zero, bI_0, bI_1, bI_n, Nat.reduceEqDiff, false_and, and_false, and_self, e_16_0, e_16_1, e_16_2, e_16_3, e_16_5, e_16_6, e_16_9, e_16_12, e_16_13, e_16_14, e_16_17, e_16_18, e_16_19, e_16_20, e_16_23, e_16_24, e_16_27, e_16_28, e_16_31, e_16_32, e_16_33, e_16_36, e_16_39, e_16_40]
  exact l_minutes hX hB hl l.length 0 0 _ (by omega) h
def pyS (S : St) (w k t : Nat) : Int32 := lastN (stO S (frc S t w k)) 4
set_option maxRecDepth 8000 in
theorem l_pay (hX : RX G x ta ha ca S) (hI : Inv S) (hB : BillOK G x ta l) (hl : ∀ t ∈ l, t < sN S 1) {d z w q : Nat} (hw : w < 60) (hq : q < 60) {R : Rt} : ∀ (n k : Nat) (sum : Int32) (o5 o6 : Option Value), k + n = l.length → R (some (.int ((l.drop k).foldl (fun a t => a + pyS S w q t) sum))) G z → WP (d + 2) 17 R 5 [some (va_rf (some (x + 4))), some (.int (nI w)), some (.int (nI q)), some (.int sum), some (.int (nI k)), o5, o6] [] G z 0 0
  | 0, k, sum, o5, o6, hk, hr => by
    have hs := hX.1
    rw [e_17_5]
    rw [List.drop_eq_nil_of_le (by omega)] at hr
    simp only [ent, entL, isL_int, isL_rf, isL_long, locS, List.length_cons, List.length_nil, List.cons_append, List.nil_append, List.replicate_succ, List.replicate_zero, Bool.false_eq_true, if_false, if_true, true_and, and_true, Nat.reduceAdd, Nat.reduceSub, Nat.reduceLeDiff, Nat.zero_le, Nat.le_refl, Nat.zero_add, Nat.add_zero, bI_0, bI_1, bI_n, Nat.reduceEqDiff, false_and, and_false, and_self, e_17_0, e_17_1, e_17_2, e_17_3, e_17_7, e_17_8, e_17_11, e_17_14, e_17_15, e_17_17, e_17_20, e_17_22, e_17_24, e_17_27, e_17_28, e_17_31, e_17_33, e_17_34, e_17_35, e_17_38, e_17_40, e_17_41, e_17_43, e_17_46, e_17_47, e_17_50, e_17_52, e_17_53, e_17_56, e_17_57, e_17_58, e_17_61, e_17_64, e_17_65, hs, size_le hB (show k ≤ l.length by omega), show l.length ≤ k by omega]
    exact hr
  | n + 1, k, sum, o5, o6, hk, hr => by
    have hs := hX.1
    obtain ⟨t, ht, hm, hd⟩ := dr (l := l) (k := k) (by omega)
    rw [hd] at hr
    obtain ⟨-, -, t3, -⟩ := hX.2.2.1 t (hl t hm)
    rw [e_17_5]
    simp only [ent, entL, isL_int, isL_rf, isL_long, locS, List.length_cons, List.length_nil, List.cons_append, List.nil_append, List.replicate_succ, List.replicate_zero, Bool.false_eq_true, if_false, if_true, true_and, and_true, Nat.reduceAdd, Nat.reduceSub, Nat.reduceLeDiff, Nat.zero_le, Nat.le_refl, Nat.zero_add, Nat.add_zero, bI_0, bI_1, bI_n, Nat.reduceEqDiff, false_and, and_false, and_self, e_17_0, e_17_1, e_17_2, e_17_3, e_17_7, e_17_8, e_17_11, e_17_14, e_17_15, e_17_17, e_17_20, e_17_22, e_17_24, e_17_27, e_17_28, e_17_31, e_17_33, e_17_34, e_17_35, e_17_38, e_17_40, e_17_41, e_17_43, e_17_46, e_17_47, e_17_50, e_17_52, e_17_53, e_17_56, e_17_57, e_17_58, e_17_61, e_17_64, e_17_65, hs, size_le hB (show k ≤ l.length by omega), show ¬ l.length ≤ k by omega, s_memT hX hB ht, reduceCtorEq, t3]
    refine s_contractIn hX hI (hl t hm) hw hq ?_
    have go : ∀ (v : Int32) (o5 o6 : Option Value), v = pyS S w q t → WP (d + 2) 17 R 5 [some (va_rf (some (x + 4))), some (.int (nI w)), some (.int (nI q)), some (.int (sum + v)), some (.int (nI (k + 1))), o5, o6] [] G z 0 0 := fun v o5 o6 hv => by
      subst hv; exact l_pay hX hI hB hl hw hq n (k + 1) _ _ _ (by omega) hr
    cases hf : frc S t w q with
    | none =>
      simp only [ent, entL, isL_int, isL_rf, isL_long, locS, List.length_cons, List.length_nil, List.cons_append, List.nil_append, List.replicate_succ, List.replicate_zero, Bool.false_eq_true, if_false, if_true, true_and, and_true, Nat.reduceAdd, Nat.reduceSub, Nat.reduceLeDiff, Nat.zero_le, Nat.le_refl, Nat.zero_add, Nat.add_zero, bI_0, bI_1, bI_n, Nat.reduceEqDiff, false_and, and_false, and_self, e_17_0, e_17_1, e_17_2, e_17_3, e_17_7, e_17_8, e_17_11, e_17_14, e_17_15, e_17_17, e_17_20, e_17_22, e_17_24, e_17_27, e_17_28, e_17_31, e_17_33, e_17_34, e_17_35, e_17_38, e_17_40, e_17_41, e_17_43, e_17_46, e_17_47, e_17_50, e_17_52, e_17_53, e_17_56, e_17_57, e_17_58, e_17_61, e_17_64, e_17_65, Option.map_none, n_1]
      exact go 0 _ _ (by simp only [pyS, hf]; rfl)
    | some c =>
      obtain ⟨-, c2, c3⟩ := stO_ch hX hf
      simp only [ent, entL, isL_int, isL_rf, isL_long, locS, List.length_cons, List.length_nil, List.cons_append, List.nil_append, List.replicate_succ, List.replicate_zero, Bool.false_eq_true, if_false, if_true, true_and, and_true, Nat.reduceAdd, Nat.reduceSub, Nat.reduceLeDiff, Nat.zero_le, Nat.le_refl, Nat.zero_add, Nat.add_zero, bI_0, bI_1, bI_n, Nat.reduceEqDiff, false_and, and_false, and_self, e_17_0, e_17_1, e_17_2, e_17_3, e_17_7, e_17_8, e_17_11, e_17_14, e_17_15, e_17_17, e_17_20, e_17_22, e_17_24, e_17_27, e_17_28, e_17_31, e_17_33, e_17_34, e_17_35, e_17_38, e_17_40, e_17_41, e_17_43, e_17_46, e_17_47, e_17_50, e_17_52, e_17_53, e_17_56, e_17_57, e_17_58, e_17_61, e_17_64, e_17_65, Option.map_some, reduceCtorEq, c2]
      refine s_lastN c2 c3 ?_
      simp only [ent, entL, isL_int, isL_rf, isL_long, locS, List.length_cons, List.length_nil, List.cons_append, List.nil_append, List.replicate_succ, List.replicate_zero, Bool.false_eq_true, if_false, if_true, true_and, and_true, Nat.reduceAdd, Nat.reduceSub, Nat.reduceLeDiff, Nat.zero_le, Nat.le_refl, Nat.zero_add, Nat.add_zero, bI_0, bI_1, bI_n, Nat.reduceEqDiff, false_and, and_false, and_self, e_17_0, e_17_1, e_17_2, e_17_3, e_17_7, e_17_8, e_17_11, e_17_14, e_17_15, e_17_17, e_17_20, e_17_22, e_17_24, e_17_27, e_17_28, e_17_31, e_17_33, e_17_34, e_17_35, e_17_38, e_17_40, e_17_41, e_17_43, e_17_46, e_17_47, e_17_50, e_17_52, e_17_53, e_17_56, e_17_57, e_17_58, e_17_61, e_17_64, e_17_65, n_1]
      exact go _ _ _ (by simp only [pyS, hf])
set_option maxRecDepth 8000 in
theorem s_pay (hX : RX G x ta ha ca S) (hI : Inv S) (hB : BillOK G x ta l) (hl : ∀ t ∈ l, t < sN S 1) {d z w q : Nat} (hw : w < 60) (hq : q < 60) {Q : Rt} (h : Q (some (.int (sumL (pyS S w q) l))) G z) : CALL (d + 3) 17 [va_rf (some (x + 4)), .int (nI w), .int (nI q)] G z Q := by
  rw [CALL_eq]
  simp only [mxE_17, ent, entL, isL_int, isL_rf, isL_long, locS, List.length_cons, List.length_nil, List.cons_append, List.nil_append, List.replicate_succ, List.replicate_zero, Bool.false_eq_true, if_false, if_true, true_and, and_true, Nat.reduceAdd, Nat.reduceSub, Nat.reduceLeDiff, Nat.zero_le, Nat.le_refl, Nat.zero_add, Nat.add_zero, bI_0, bI_1, bI_n, Nat.reduceEqDiff, false_and, and_false, and_self, e_17_0, e_17_1, e_17_2, e_17_3, e_17_7, e_17_8, e_17_11, e_17_14, e_17_15, e_17_17, e_17_20, e_17_22, e_17_24, e_17_27, e_17_28, e_17_31, e_17_33, e_17_34, e_17_35, e_17_38, e_17_40, e_17_41, e_17_43, e_17_46, e_17_47, e_17_50, e_17_52, e_17_53, e_17_56, e_17_57, e_17_58, e_17_61, e_17_64, e_17_65]
  exact l_pay hX hI hB hl hw hq l.length 0 0 _ _ (by omega) h
def tpS (S : St) (t : Nat) : Int32 := if sI S 1 t = 1 then 1 else 0
def dwS (S : St) (t : Nat) : Int32 := if sI S 1 t = 1 then sI S 3 t else 0
set_option maxRecDepth 8000 in
theorem l_tops (hX : RX G x ta ha ca S) (hB : BillOK G x ta l) (hl : ∀ t ∈ l, t < sN S 1) {d z : Nat} {R : Rt} : ∀ (n k : Nat) (sum : Int32) (o3 : Option Value), k + n = l.length → R (some (.int ((l.drop k).foldl (fun a t => a + tpS S t) sum))) G z → WP (d + 2) 18 R 4 [some (va_rf (some (x + 4))), some (.int sum), some (.int (nI k)), o3] [] G z 0 0
  | 0, k, sum, o3, hk, hr => by
    have hs := hX.1
    rw [e_18_4]
    rw [List.drop_eq_nil_of_le (by omega)] at hr
    simp only [ent, entL, isL_int, isL_rf, isL_long, locS, List.length_cons, List.length_nil, List.cons_append, List.nil_append, List.replicate_succ, List.replicate_zero, Bool.false_eq_true, if_false, if_true, true_and, and_true, Nat.reduceAdd, Nat.reduceSub, Nat.reduceLeDiff, Nat.zero_le, Nat.le_refl, Nat.zero_add, Nat.add_zero, bI_0, bI_1, bI_n, Nat.reduceEqDiff, false_and, and_false, and_self, e_18_0, e_18_1, e_18_2, e_18_3, e_18_5, e_18_6, e_18_9, e_18_12, e_18_13, e_18_14, e_18_17, e_18_18, e_18_19, e_18_20, e_18_23, e_18_24, e_18_27, e_18_28, e_18_31, e_18_32, e_18_35, e_18_36, e_18_37, e_18_38, e_18_41, e_18_44, e_18_45, hs, size_le hB (show k ≤ l.length by omega), show l.length ≤ k by omega]
    exact hr
  | n + 1, k, sum, o3, hk, hr => by
    have hs := hX.1
    obtain ⟨t, ht, hm, hd⟩ := dr (l := l) (k := k) (by omega)
    rw [hd] at hr
    obtain ⟨-, -, t3, -, t5, t6, -⟩ := hX.2.2.1 t (hl t hm)
    rw [e_18_4]
    simp only [ent, entL, isL_int, isL_rf, isL_long, locS, List.length_cons, List.length_nil, List.cons_append, List.nil_append, List.replicate_succ, List.replicate_zero, Bool.false_eq_true, if_false, if_true, true_and, and_true, Nat.reduceAdd, Nat.reduceSub, Nat.reduceLeDiff, Nat.zero_le, Nat.le_refl, Nat.zero_add, Nat.add_zero, bI_0, bI_1, bI_n, Nat.reduceEqDiff, false_and, and_false, and_self, e_18_0, e_18_1, e_18_2, e_18_3, e_18_5, e_18_6, e_18_9, e_18_12, e_18_13, e_18_14, e_18_17, e_18_18, e_18_19, e_18_20, e_18_23, e_18_24, e_18_27, e_18_28, e_18_31, e_18_32, e_18_35, e_18_36, e_18_37, e_18_38, e_18_41, e_18_44, e_18_45, hs, size_le hB (show k ≤ l.length by omega), show ¬ l.length ≤ k by omega, s_memT hX hB ht, reduceCtorEq, t3, t6, n_1]
    have go := l_tops (d := d) hX hB hl n (k + 1) _ (some (va_rf (some (ta t)))) (by omega) hr
    by_cases q : sI S 1 t = 1
    · simp only [tpS, q, if_true] at go ⊢; exact go
    · simp only [tpS, q, if_false] at go ⊢; exact go
set_option maxRecDepth 8000 in
theorem s_tops (hX : RX G x ta ha ca S) (hB : BillOK G x ta l) (hl : ∀ t ∈ l, t < sN S 1) {d z : Nat} {Q : Rt} (h : Q (some (.int (sumL (tpS S) l))) G z) : CALL (d + 3) 18 [va_rf (some (x + 4))] G z Q := by
  rw [CALL_eq]
  simp only [mxE_18, ent, entL, isL_int, isL_rf, isL_long, locS, List.length_cons, List.length_nil, List.cons_append, List.nil_append, List.replicate_succ, List.replicate_zero, Bool.false_eq_true, if_false, if_true, true_and, and_true, Nat.reduceAdd, Nat.reduceSub, Nat.reduceLeDiff, Nat.zero_le, Nat.le_refl, Nat.zero_add, Nat.add_zero, bI_0, bI_1, bI_n, Nat.reduceEqDiff, false_and, and_false, and_self, e_18_0, e_18_1, e_18_2, e_18_3, e_18_5, e_18_6, e_18_9, e_18_12, e_18_13, e_18_14, e_18_17, e_18_18, e_18_19, e_18_20, e_18_23, e_18_24, e_18_27, e_18_28, e_18_31, e_18_32, e_18_35, e_18_36, e_18_37, e_18_38, e_18_41, e_18_44, e_18_45]
  exact l_tops hX hB hl l.length 0 0 _ (by omega) h
set_option maxRecDepth 8000 in
theorem l_draws (hX : RX G x ta ha ca S) (hB : BillOK G x ta l) (hl : ∀ t ∈ l, t < sN S 1) {d z : Nat} {R : Rt} : ∀ (n k : Nat) (sum : Int32) (o3 : Option Value), k + n = l.length → R (some (.int ((l.drop k).foldl (fun a t => a + dwS S t) sum))) G z → WP (d + 2) 19 R 4 [some (va_rf (some (x + 4))), some (.int sum), some (.int (nI k)), o3] [] G z 0 0
  | 0, k, sum, o3, hk, hr => by
    have hs := hX.1
    rw [e_19_4]
    rw [List.drop_eq_nil_of_le (by omega)] at hr
    simp only [ent, entL, isL_int, isL_rf, isL_long, locS, List.length_cons, List.length_nil, List.cons_append, List.nil_append, List.replicate_succ, List.replicate_zero, Bool.false_eq_true, if_false, if_true, true_and, and_true, Nat.reduceAdd, Nat.reduceSub, Nat.reduceLeDiff, Nat.zero_le, Nat.le_refl, Nat.zero_add, Nat.add_zero, bI_0, bI_1, bI_n, Nat.reduceEqDiff, false_and, and_false, and_self, e_19_0, e_19_1, e_19_2, e_19_3, e_19_5, e_19_6, e_19_9, e_19_12, e_19_13, e_19_14, e_19_17, e_19_18, e_19_19, e_19_20, e_19_23, e_19_24, e_19_27, e_19_28, e_19_31, e_19_32, e_19_35, e_19_38, e_19_39, e_19_40, e_19_41, e_19_44, e_19_47, e_19_48, hs, size_le hB (show k ≤ l.length by omega), show l.length ≤ k by omega]
    exact hr
  | n + 1, k, sum, o3, hk, hr => by
    have hs := hX.1
    obtain ⟨t, ht, hm, hd⟩ := dr (l := l) (k := k) (by omega)
    rw [hd] at hr
    obtain ⟨-, -, t3, -, t5, t6, t7, t8, t9, -⟩ := hX.2.2.1 t (hl t hm)
    rw [e_19_4]
    simp only [ent, entL, isL_int, isL_rf, isL_long, locS, List.length_cons, List.length_nil, List.cons_append, List.nil_append, List.replicate_succ, List.replicate_zero, Bool.false_eq_true, if_false, if_true, true_and, and_true, Nat.reduceAdd, Nat.reduceSub, Nat.reduceLeDiff, Nat.zero_le, Nat.le_refl, Nat.zero_add, Nat.add_zero, bI_0, bI_1, bI_n, Nat.reduceEqDiff, false_and, and_false, and_self, e_19_0, e_19_1, e_19_2, e_19_3, e_19_5, e_19_6, e_19_9, e_19_12, e_19_13, e_19_14, e_19_17, e_19_18, e_19_19, e_19_20, e_19_23, e_19_24, e_19_27, e_19_28, e_19_31, e_19_32, e_19_35, e_19_38, e_19_39, e_19_40, e_19_41, e_19_44, e_19_47, e_19_48, hs, size_le hB (show k ≤ l.length by omega), show ¬ l.length ≤ k by omega, s_memT hX hB ht, reduceCtorEq, t3, t6, t9, n_1]
    have go := l_draws (d := d) hX hB hl n (k + 1) _ (some (va_rf (some (ta t)))) (by omega) hr
    by_cases q : sI S 1 t = 1
    · simp only [dwS, q, if_true] at go ⊢; exact go
    · simp only [dwS, q, if_false] at go ⊢; exact go
set_option maxRecDepth 8000 in
theorem s_draws (hX : RX G x ta ha ca S) (hB : BillOK G x ta l) (hl : ∀ t ∈ l, t < sN S 1) {d z : Nat} {Q : Rt} (h : Q (some (.int (sumL (dwS S) l))) G z) : CALL (d + 3) 19 [va_rf (some (x + 4))] G z Q := by
  rw [CALL_eq]
  simp only [mxE_19, ent, entL, isL_int, isL_rf, isL_long, locS, List.length_cons, List.length_nil, List.cons_append, List.nil_append, List.replicate_succ, List.replicate_zero, Bool.false_eq_true, if_false, if_true, true_and, and_true, Nat.reduceAdd, Nat.reduceSub, Nat.reduceLeDiff, Nat.zero_le, Nat.le_refl, Nat.zero_add, Nat.add_zero, bI_0, bI_1, bI_n, Nat.reduceEqDiff, false_and, and_false, and_self, e_19_0, e_19_1, e_19_2, e_19_3, e_19_5, e_19_6, e_19_9, e_19_12, e_19_13, e_19_14, e_19_17, e_19_18, e_19_19, e_19_20, e_19_23, e_19_24, e_19_27, e_19_28, e_19_31, e_19_32, e_19_35, e_19_38, e_19_39, e_19_40, e_19_41, e_19_44, e_19_47, e_19_48]
  exact l_draws hX hB hl l.length 0 0 _ (by omega) h
set_option maxRecDepth 8000 in
theorem l_hasLike (hX : RX G x ta ha ca S) (hB : BillOK G x ta l) (hl : ∀ t ∈ l, t < sN S 1) {d z : Nat} {v : Int32} {R : Rt} : ∀ (n k : Nat) (o3 : Option Value), k + n = l.length → R (some (.int (bI ((l.drop k).any (fun t => decide (sI S 2 t = v)) = true)))) G z → WP (d + 2) 20 R 2 [some (va_rf (some (x + 4))), some (.int v), some (.int (nI k)), o3] [] G z 0 0
  | 0, k, o3, hk, hr => by
    have hs := hX.1
    rw [e_20_2]
    rw [List.drop_eq_nil_of_le (by omega)] at hr
    simp only [ent, entL, isL_int, isL_rf, isL_long, locS, List.length_cons, List.length_nil, List.cons_append, List.nil_append, List.replicate_succ, List.replicate_zero, Bool.false_eq_true, if_false, if_true, true_and, and_true, Nat.reduceAdd, Nat.reduceSub, Nat.reduceLeDiff, Nat.zero_le, Nat.le_refl, Nat.zero_add, Nat.add_zero, bI_0, bI_1, bI_n, Nat.reduceEqDiff, false_and, and_false, and_self, e_20_0, e_20_1, e_20_3, e_20_4, e_20_7, e_20_10, e_20_11, e_20_12, e_20_15, e_20_16, e_20_17, e_20_20, e_20_21, e_20_24, e_20_25, e_20_28, e_20_29, e_20_30, e_20_33, e_20_36, e_20_37, hs, size_le hB (show k ≤ l.length by omega), show l.length ≤ k by omega, nz_0]
    exact hr
  | n + 1, k, o3, hk, hr => by
    have hs := hX.1
    obtain ⟨t, ht, hm, hd⟩ := dr (l := l) (k := k) (by omega)
    rw [hd] at hr
    obtain ⟨-, -, t3, -, t5, t6, t7, t8, t9, -⟩ := hX.2.2.1 t (hl t hm)
    rw [e_20_2]
    simp only [ent, entL, isL_int, isL_rf, isL_long, locS, List.length_cons, List.length_nil, List.cons_append, List.nil_append, List.replicate_succ, List.replicate_zero, Bool.false_eq_true, if_false, if_true, true_and, and_true, Nat.reduceAdd, Nat.reduceSub, Nat.reduceLeDiff, Nat.zero_le, Nat.le_refl, Nat.zero_add, Nat.add_zero, bI_0, bI_1, bI_n, Nat.reduceEqDiff, false_and, and_false, and_self, e_20_0, e_20_1, e_20_3, e_20_4, e_20_7, e_20_10, e_20_11, e_20_12, e_20_15, e_20_16, e_20_17, e_20_20, e_20_21, e_20_24, e_20_25, e_20_28, e_20_29, e_20_30, e_20_33, e_20_36, e_20_37, hs, size_le hB (show k ≤ l.length by omega), show ¬ l.length ≤ k by omega, s_memT hX hB ht, reduceCtorEq, t3, t8, n_1, nz_1]
    by_cases q : sI S 2 t = v
    · simp only [List.any_cons, q, decide_true, Bool.true_or, if_true] at hr ⊢; exact hr
    · simp only [List.any_cons, q, decide_false, Bool.false_or, if_false] at hr ⊢
      exact l_hasLike (d := d) hX hB hl n (k + 1) _ (by omega) hr
set_option maxRecDepth 8000 in
theorem s_hasLike (hX : RX G x ta ha ca S) (hB : BillOK G x ta l) (hl : ∀ t ∈ l, t < sN S 1) {d z : Nat} {v : Int32} {Q : Rt} (h : Q (some (.int (bI (l.any (fun t => decide (sI S 2 t = v)) = true)))) G z) : CALL (d + 3) 20 [va_rf (some (x + 4)), .int v] G z Q := by
  rw [CALL_eq]
  simp only [mxE_20, ent, entL, isL_int, isL_rf, isL_long, locS, List.length_cons, List.length_nil, List.cons_append, List.nil_append, List.replicate_succ, List.replicate_zero, Bool.false_eq_true, if_false, if_true, true_and, and_true, Nat.reduceAdd, Nat.reduceSub, Nat.reduceLeDiff, Nat.zero_le, Nat.le_refl, Nat.zero_add, Nat.add_zero, bI_0, bI_1, bI_n, Nat.reduceEqDiff, false_and, and_false, and_self, e_20_0, e_20_1, e_20_3, e_20_4, e_20_7, e_20_10, e_20_11, e_20_12, e_20_15, e_20_16, e_20_17, e_20_20, e_20_21, e_20_24, e_20_25, e_20_28, e_20_29, e_20_30, e_20_33, e_20_36, e_20_37]
  exact l_hasLike hX hB hl l.length 0 _ (by omega) h
/-- a turn's contract keeps it apart from another -/
def apS (S : St) (lst : List (Int32 × Int32 × Int32)) (t : Nat) : Bool := tlls lst 1 (sI S 2 t) || tlls lst 2 (nI t)
set_option maxRecDepth 8000 in
theorem l_apart (hX : RX G x ta ha ca S) (hI : Inv S) (hB : BillOK G x ta l) (hl : ∀ t ∈ l, t < sN S 1) {d z w q i : Nat} {own : Option Nat} (hi : i < sN S 1) (hw : w < 60) (hq : q < 60) (ho : ∀ c, own = some c → mK G (ca c) = 2 ∧ SCh G (mR G 2 4 (ca c)) (stO S (some c)).reverse) {R : Rt} : ∀ (n k : Nat) (o6 o7 : Option Value), k + n = l.length → R (some (.int (bI ((l.drop k).any (fun t => apS S (stO S (frc S t w q)) i || apS S (stO S own) t) = true)))) G z → WP (d + 2) 21 R 3 [some (va_rf (some (x + 4))), some (va_rf (some (ta i))), some (va_rf (own.map ca)), some (.int (nI w)), some (.int (nI q)), some (.int (nI k)), o6, o7] [] G z 0 0
  | 0, k, o6, o7, hk, hr => by
    have hs := hX.1
    rw [e_21_3]
    rw [List.drop_eq_nil_of_le (by omega)] at hr
    simp only [ent, entL, isL_int, isL_rf, isL_long, locS, List.length_cons, List.length_nil, List.cons_append, List.nil_append, List.replicate_succ, List.replicate_zero, Bool.false_eq_true, if_false, if_true, true_and, and_true, Nat.reduceAdd, Nat.reduceSub, Nat.reduceLeDiff, Nat.zero_le, Nat.le_refl, Nat.zero_add, Nat.add_zero, bI_0, bI_1, bI_n, Nat.reduceEqDiff, false_and, and_false, and_self, e_21_0, e_21_1, e_21_5, e_21_6, e_21_9, e_21_12, e_21_13, e_21_15, e_21_18, e_21_20, e_21_22, e_21_25, e_21_26, e_21_29, e_21_31, e_21_32, e_21_34, e_21_37, e_21_39, e_21_41, e_21_44, e_21_46, e_21_47, e_21_50, e_21_53, e_21_54, e_21_55, e_21_57, e_21_60, e_21_61, e_21_64, e_21_65, e_21_67, e_21_70, e_21_73, e_21_74, e_21_75, e_21_78, e_21_81, e_21_82, hs, size_le hB (show k ≤ l.length by omega), show l.length ≤ k by omega, nz_0]
    exact hr
  | n + 1, k, o6, o7, hk, hr => by
    have hs := hX.1
    obtain ⟨t, ht, hm, hd⟩ := dr (l := l) (k := k) (by omega)
    rw [hd] at hr
    obtain ⟨-, -, t3, t4, t5, t6, t7, t8, t9, -⟩ := hX.2.2.1 t (hl t hm)
    obtain ⟨-, -, i3, i4, i5, i6, i7, i8, i9, -⟩ := hX.2.2.1 i hi
    rw [e_21_3]
    simp only [ent, entL, isL_int, isL_rf, isL_long, locS, List.length_cons, List.length_nil, List.cons_append, List.nil_append, List.replicate_succ, List.replicate_zero, Bool.false_eq_true, if_false, if_true, true_and, and_true, Nat.reduceAdd, Nat.reduceSub, Nat.reduceLeDiff, Nat.zero_le, Nat.le_refl, Nat.zero_add, Nat.add_zero, bI_0, bI_1, bI_n, Nat.reduceEqDiff, false_and, and_false, and_self, e_21_0, e_21_1, e_21_5, e_21_6, e_21_9, e_21_12, e_21_13, e_21_15, e_21_18, e_21_20, e_21_22, e_21_25, e_21_26, e_21_29, e_21_31, e_21_32, e_21_34, e_21_37, e_21_39, e_21_41, e_21_44, e_21_46, e_21_47, e_21_50, e_21_53, e_21_54, e_21_55, e_21_57, e_21_60, e_21_61, e_21_64, e_21_65, e_21_67, e_21_70, e_21_73, e_21_74, e_21_75, e_21_78, e_21_81, e_21_82, hs, size_le hB (show k ≤ l.length by omega), show ¬ l.length ≤ k by omega, s_memT hX hB ht, reduceCtorEq, t3]
    refine s_contractIn hX hI (hl t hm) hw hq ?_
    have fin : apS S (stO S (frc S t w q)) i = false → ∀ (o7 : Option Value), WP (d + 2) 21 R 55 [some (va_rf (some (x + 4))), some (va_rf (some (ta i))), some (va_rf (own.map ca)), some (.int (nI w)), some (.int (nI q)), some (.int (nI k)), some (va_rf (some (ta t))), o7] [] G z 0 0 := by
      intro hf o7
      simp only [List.any_cons, hf, Bool.false_or] at hr
      cases own with
      | none =>
        have hz : apS S (stO S none) t = false := rfl
        rw [hz, Bool.false_or] at hr
        simp only [ent, entL, isL_int, isL_rf, isL_long, locS, List.length_cons, List.length_nil, List.cons_append, List.nil_append, List.replicate_succ, List.replicate_zero, Bool.false_eq_true, if_false, if_true, true_and, and_true, Nat.reduceAdd, Nat.reduceSub, Nat.reduceLeDiff, Nat.zero_le, Nat.le_refl, Nat.zero_add, Nat.add_zero, bI_0, bI_1, bI_n, Nat.reduceEqDiff, false_and, and_false, and_self, e_21_0, e_21_1, e_21_5, e_21_6, e_21_9, e_21_12, e_21_13, e_21_15, e_21_18, e_21_20, e_21_22, e_21_25, e_21_26, e_21_29, e_21_31, e_21_32, e_21_34, e_21_37, e_21_39, e_21_41, e_21_44, e_21_46, e_21_47, e_21_50, e_21_53, e_21_54, e_21_55, e_21_57, e_21_60, e_21_61, e_21_64, e_21_65, e_21_67, e_21_70, e_21_73, e_21_74, e_21_75, e_21_78, e_21_81, e_21_82, Option.map_none, reduceCtorEq, n_1]
        exact l_apart hX hI hB hl hi hw hq ho n (k + 1) _ _ (by omega) hr
      | some c =>
        obtain ⟨c2, c3⟩ := ho c rfl
        simp only [ent, entL, isL_int, isL_rf, isL_long, locS, List.length_cons, List.length_nil, List.cons_append, List.nil_append, List.replicate_succ, List.replicate_zero, Bool.false_eq_true, if_false, if_true, true_and, and_true, Nat.reduceAdd, Nat.reduceSub, Nat.reduceLeDiff, Nat.zero_le, Nat.le_refl, Nat.zero_add, Nat.add_zero, bI_0, bI_1, bI_n, Nat.reduceEqDiff, false_and, and_false, and_self, e_21_0, e_21_1, e_21_5, e_21_6, e_21_9, e_21_12, e_21_13, e_21_15, e_21_18, e_21_20, e_21_22, e_21_25, e_21_26, e_21_29, e_21_31, e_21_32, e_21_34, e_21_37, e_21_39, e_21_41, e_21_44, e_21_46, e_21_47, e_21_50, e_21_53, e_21_54, e_21_55, e_21_57, e_21_60, e_21_61, e_21_64, e_21_65, e_21_67, e_21_70, e_21_73, e_21_74, e_21_75, e_21_78, e_21_81, e_21_82, Option.map_some, reduceCtorEq, c2]
        refine s_isApartC c2 t3 c3 ?_
        rw [t8, t4]
        simp only [ent, entL, isL_int, isL_rf, isL_long, locS, List.length_cons, List.length_nil, List.cons_append, List.nil_append, List.replicate_succ, List.replicate_zero, Bool.false_eq_true, if_false, if_true, true_and, and_true, Nat.reduceAdd, Nat.reduceSub, Nat.reduceLeDiff, Nat.zero_le, Nat.le_refl, Nat.zero_add, Nat.add_zero, bI_0, bI_1, bI_n, Nat.reduceEqDiff, false_and, and_false, and_self, e_21_0, e_21_1, e_21_5, e_21_6, e_21_9, e_21_12, e_21_13, e_21_15, e_21_18, e_21_20, e_21_22, e_21_25, e_21_26, e_21_29, e_21_31, e_21_32, e_21_34, e_21_37, e_21_39, e_21_41, e_21_44, e_21_46, e_21_47, e_21_50, e_21_53, e_21_54, e_21_55, e_21_57, e_21_60, e_21_61, e_21_64, e_21_65, e_21_67, e_21_70, e_21_73, e_21_74, e_21_75, e_21_78, e_21_81, e_21_82, n_1, nz_1]
        by_cases hz : apS S (stO S (some c)) t = true
        · have hz2 : tlls (stO S (some c)) 1 (sI S 2 t) = true ∨ tlls (stO S (some c)) 2 (nI t) = true := by simpa [apS] using hz
          simp only [hz2, not_true, if_false]
          simp only [hz, Bool.true_or] at hr
          exact hr
        · have hz2 : ¬ (tlls (stO S (some c)) 1 (sI S 2 t) = true ∨ tlls (stO S (some c)) 2 (nI t) = true) := by simpa [apS] using hz
          simp only [hz2, not_false_iff, if_true]
          have hz3 : apS S (stO S (some c)) t = false := by simpa using hz
          rw [hz3, Bool.false_or] at hr
          exact l_apart hX hI hB hl hi hw hq ho n (k + 1) _ _ (by omega) hr
    cases hf : frc S t w q with
    | none =>
      simp only [ent, entL, isL_int, isL_rf, isL_long, locS, List.length_cons, List.length_nil, List.cons_append, List.nil_append, List.replicate_succ, List.replicate_zero, Bool.false_eq_true, if_false, if_true, true_and, and_true, Nat.reduceAdd, Nat.reduceSub, Nat.reduceLeDiff, Nat.zero_le, Nat.le_refl, Nat.zero_add, Nat.add_zero, bI_0, bI_1, bI_n, Nat.reduceEqDiff, false_and, and_false, and_self, e_21_0, e_21_1, e_21_5, e_21_6, e_21_9, e_21_12, e_21_13, e_21_15, e_21_18, e_21_20, e_21_22, e_21_25, e_21_26, e_21_29, e_21_31, e_21_32, e_21_34, e_21_37, e_21_39, e_21_41, e_21_44, e_21_46, e_21_47, e_21_50, e_21_53, e_21_54, Option.map_none]
      exact fin (by rw [hf]; rfl) _
    | some c =>
      obtain ⟨-, c2, c3⟩ := stO_ch hX hf
      simp only [ent, entL, isL_int, isL_rf, isL_long, locS, List.length_cons, List.length_nil, List.cons_append, List.nil_append, List.replicate_succ, List.replicate_zero, Bool.false_eq_true, if_false, if_true, true_and, and_true, Nat.reduceAdd, Nat.reduceSub, Nat.reduceLeDiff, Nat.zero_le, Nat.le_refl, Nat.zero_add, Nat.add_zero, bI_0, bI_1, bI_n, Nat.reduceEqDiff, false_and, and_false, and_self, e_21_0, e_21_1, e_21_5, e_21_6, e_21_9, e_21_12, e_21_13, e_21_15, e_21_18, e_21_20, e_21_22, e_21_25, e_21_26, e_21_29, e_21_31, e_21_32, e_21_34, e_21_37, e_21_39, e_21_41, e_21_44, e_21_46, e_21_47, e_21_50, e_21_53, e_21_54, Option.map_some, reduceCtorEq, c2]
      refine s_isApartC c2 i3 c3 ?_
      rw [i8, i4]
      simp only [ent, entL, isL_int, isL_rf, isL_long, locS, List.length_cons, List.length_nil, List.cons_append, List.nil_append, List.replicate_succ, List.replicate_zero, Bool.false_eq_true, if_false, if_true, true_and, and_true, Nat.reduceAdd, Nat.reduceSub, Nat.reduceLeDiff, Nat.zero_le, Nat.le_refl, Nat.zero_add, Nat.add_zero, bI_0, bI_1, bI_n, Nat.reduceEqDiff, false_and, and_false, and_self, e_21_0, e_21_1, e_21_5, e_21_6, e_21_9, e_21_12, e_21_13, e_21_15, e_21_18, e_21_20, e_21_22, e_21_25, e_21_26, e_21_29, e_21_31, e_21_32, e_21_34, e_21_37, e_21_39, e_21_41, e_21_44, e_21_46, e_21_47, e_21_50, e_21_53, e_21_54, nz_1]
      by_cases hz : apS S (stO S (some c)) i = true
      · have hz2 : tlls (stO S (some c)) 1 (sI S 2 i) = true ∨ tlls (stO S (some c)) 2 (nI i) = true := by simpa [apS] using hz
        simp only [hz2, not_true, if_false]
        simp only [List.any_cons, hf, hz, Bool.true_or] at hr
        exact hr
      · have hz2 : ¬ (tlls (stO S (some c)) 1 (sI S 2 i) = true ∨ tlls (stO S (some c)) 2 (nI i) = true) := by simpa [apS] using hz
        simp only [hz2, not_false_iff, if_true]
        exact fin (by rw [hf]; simpa using hz) _
set_option maxRecDepth 8000 in
theorem s_apart (hX : RX G x ta ha ca S) (hI : Inv S) (hB : BillOK G x ta l) (hl : ∀ t ∈ l, t < sN S 1) {d z w q i : Nat} {own : Option Nat} (hi : i < sN S 1) (hw : w < 60) (hq : q < 60) (ho : ∀ c, own = some c → mK G (ca c) = 2 ∧ SCh G (mR G 2 4 (ca c)) (stO S (some c)).reverse) {Q : Rt} (h : Q (some (.int (bI (l.any (fun t => apS S (stO S (frc S t w q)) i || apS S (stO S own) t) = true)))) G z) : CALL (d + 3) 21 [va_rf (some (x + 4)), va_rf (some (ta i)), va_rf (own.map ca), .int (nI w), .int (nI q)] G z Q := by
  rw [CALL_eq]
  simp only [mxE_21, ent, entL, isL_int, isL_rf, isL_long, locS, List.length_cons, List.length_nil, List.cons_append, List.nil_append, List.replicate_succ, List.replicate_zero, Bool.false_eq_true, if_false, if_true, true_and, and_true, Nat.reduceAdd, Nat.reduceSub, Nat.reduceLeDiff, Nat.zero_le, Nat.le_refl, Nat.zero_add, Nat.add_zero, bI_0, bI_1, bI_n, Nat.reduceEqDiff, false_and, and_false, and_self, e_21_0, e_21_1, e_21_5, e_21_6, e_21_9, e_21_12, e_21_13, e_21_15, e_21_18, e_21_20, e_21_22, e_21_25, e_21_26, e_21_29, e_21_31, e_21_32, e_21_34, e_21_37, e_21_39, e_21_41, e_21_44, e_21_46, e_21_47, e_21_50, e_21_53, e_21_54, e_21_55, e_21_57, e_21_60, e_21_61, e_21_64, e_21_65, e_21_67, e_21_70, e_21_73, e_21_74, e_21_75, e_21_78, e_21_81, e_21_82]
  exact l_apart hX hI hB hl hi hw hq ho l.length 0 _ _ (by omega) h
end X
