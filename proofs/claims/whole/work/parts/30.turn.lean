/-! the class: contracts and turns -/
def fN (l : List (Int32 × Int32 × Int32)) (kd : Int32) : Int32 := match l with
  | [] => 0
  | e :: l => if e.1 = kd then e.2.1 else fN l kd
theorem fN_app (l1 l2 : List (Int32 × Int32 × Int32)) (kd : Int32) (v : Int32) : (l1 ++ l2).foldr (fun e v => if e.1 = kd then e.2.1 else v) v = l1.foldr (fun e v => if e.1 = kd then e.2.1 else v) (l2.foldr (fun e v => if e.1 = kd then e.2.1 else v) v) := by rw [List.foldr_append]
theorem fN_foldr (l : List (Int32 × Int32 × Int32)) (kd : Int32) : fN l kd = l.foldr (fun e v => if e.1 = kd then e.2.1 else v) 0 := by
  induction l with
  | nil => rfl
  | cons e l ih => rw [fN, List.foldr_cons, ih]
theorem fN_last (l : List (Int32 × Int32 × Int32)) (kd : Int32) : fN l.reverse kd = lastN l kd := by
  rw [fN_foldr, List.foldr_reverse]; rfl
theorem tlls_rev (l : List (Int32 × Int32 × Int32)) (kd v : Int32) : tlls l.reverse kd v = tlls l kd v := by unfold tlls; rw [List.any_reverse]
theorem brs_rev (l : List (Int32 × Int32 × Int32)) (a b : Int32) : brs l.reverse a b = brs l a b := by unfold brs; rw [List.any_reverse]
set_option maxRecDepth 4000 in
theorem l_lastN {d : Nat} {R : Rt} {G : Mem} {z : Nat} {kd : Int32} {o : Option Value} : ∀ (l : List (Int32 × Int32 × Int32)) (r : Option Nat), SCh G r l → R (some (.int (fN l kd))) G z → WP d 23 R 5 [o, some (.int kd), some (va_rf r)] [] G z 0 0
  | [], r, h, hr => by
    have h : r = none := h
    subst h
    rw [e_23_5]
    simp only [ent, entL, isL_int, isL_rf, isL_long, locS, List.length_cons, List.length_nil, List.cons_append, List.nil_append, List.replicate_succ, List.replicate_zero, Bool.false_eq_true, if_false, if_true, true_and, and_true, Nat.reduceAdd, Nat.reduceSub, Nat.reduceLeDiff, Nat.zero_le, Nat.le_refl, Nat.zero_add, Nat.add_zero, bI_0, bI_1, bI_n, Nat.reduceEqDiff, false_and, and_false, and_self, e_23_0, e_23_1, e_23_4, e_23_6, e_23_9, e_23_10, e_23_13, e_23_14, e_23_17, e_23_18, e_23_21, e_23_22, e_23_23, e_23_26, e_23_27, e_23_30, e_23_31]
    exact hr
  | e :: l, r, h, hr => by
    obtain ⟨a, rfl, h1, h2, h3, h4, h5⟩ := h
    rw [e_23_5]
    simp only [ent, entL, isL_int, isL_rf, isL_long, locS, List.length_cons, List.length_nil, List.cons_append, List.nil_append, List.replicate_succ, List.replicate_zero, Bool.false_eq_true, if_false, if_true, true_and, and_true, Nat.reduceAdd, Nat.reduceSub, Nat.reduceLeDiff, Nat.zero_le, Nat.le_refl, Nat.zero_add, Nat.add_zero, bI_0, bI_1, bI_n, Nat.reduceEqDiff, false_and, and_false, and_self, e_23_0, e_23_1, e_23_4, e_23_6, e_23_9, e_23_10, e_23_13, e_23_14, e_23_17, e_23_18, e_23_21, e_23_22, e_23_23, e_23_26, e_23_27, e_23_30, e_23_31, h1, h2, h3, reduceCtorEq]
    unfold fN at hr
    by_cases hk : e.1 = kd
    · simp only [hk, if_true] at hr ⊢
      exact hr
    · simp only [hk, if_false] at hr ⊢
      exact l_lastN l _ h5 hr
set_option maxRecDepth 4000 in
theorem s_lastN {d : Nat} {Q : Rt} {G : Mem} {z a : Nat} {kd : Int32} {l : List (Int32 × Int32 × Int32)} (ha : mK G a = 2) (hl : SCh G (mR G 2 4 a) l.reverse) (h : Q (some (.int (lastN l kd))) G z) : CALL (d + 1) 23 [va_rf (some a), .int kd] G z Q := by
  rw [CALL_eq]
  simp only [mxE_23, ent, entL, isL_int, isL_rf, isL_long, locS, List.length_cons, List.length_nil, List.cons_append, List.nil_append, List.replicate_succ, List.replicate_zero, Bool.false_eq_true, if_false, if_true, true_and, and_true, Nat.reduceAdd, Nat.reduceSub, Nat.reduceLeDiff, Nat.zero_le, Nat.le_refl, Nat.zero_add, Nat.add_zero, bI_0, bI_1, bI_n, Nat.reduceEqDiff, false_and, and_false, and_self, e_23_0, e_23_1, e_23_4, e_23_6, e_23_9, e_23_10, e_23_13, e_23_14, e_23_17, e_23_18, e_23_21, e_23_22, e_23_23, e_23_26, e_23_27, e_23_30, e_23_31, ha]
  exact l_lastN _ _ hl (by rw [fN_last]; exact h)
set_option maxRecDepth 4000 in
theorem l_tells {d : Nat} {R : Rt} {G : Mem} {z : Nat} {kd v : Int32} {o : Option Value} : ∀ (l : List (Int32 × Int32 × Int32)) (r : Option Nat), SCh G r l → R (some (.int (bI (tlls l kd v = true)))) G z → WP d 27 R 5 [o, some (.int kd), some (.int v), some (va_rf r)] [] G z 0 0
  | [], r, h, hr => by
    have h : r = none := h
    subst h
    rw [e_27_5]
    simp only [ent, entL, isL_int, isL_rf, isL_long, locS, List.length_cons, List.length_nil, List.cons_append, List.nil_append, List.replicate_succ, List.replicate_zero, Bool.false_eq_true, if_false, if_true, true_and, and_true, Nat.reduceAdd, Nat.reduceSub, Nat.reduceLeDiff, Nat.zero_le, Nat.le_refl, Nat.zero_add, Nat.add_zero, bI_0, bI_1, bI_n, Nat.reduceEqDiff, false_and, and_false, and_self, e_27_0, e_27_1, e_27_4, e_27_6, e_27_9, e_27_10, e_27_13, e_27_14, e_27_17, e_27_18, e_27_21, e_27_22, e_27_25, e_27_26, e_27_27, e_27_28, e_27_31, e_27_32, e_27_35, e_27_36, nz_0]
    exact hr
  | e :: l, r, h, hr => by
    obtain ⟨a, rfl, h1, h2, h3, h4, h5⟩ := h
    rw [e_27_5]
    simp only [ent, entL, isL_int, isL_rf, isL_long, locS, List.length_cons, List.length_nil, List.cons_append, List.nil_append, List.replicate_succ, List.replicate_zero, Bool.false_eq_true, if_false, if_true, true_and, and_true, Nat.reduceAdd, Nat.reduceSub, Nat.reduceLeDiff, Nat.zero_le, Nat.le_refl, Nat.zero_add, Nat.add_zero, bI_0, bI_1, bI_n, Nat.reduceEqDiff, false_and, and_false, and_self, e_27_0, e_27_1, e_27_4, e_27_6, e_27_9, e_27_10, e_27_13, e_27_14, e_27_17, e_27_18, e_27_21, e_27_22, e_27_25, e_27_26, e_27_27, e_27_28, e_27_31, e_27_32, e_27_35, e_27_36, h1, h2, h3, nz_1, reduceCtorEq]
    by_cases hk : e.1 = kd
    · by_cases hv : e.2.1 = v
      · have ht : tlls (e :: l) kd v = true := by simp [tlls, hk, hv]
        simp only [hk, hv, if_true, ht] at hr ⊢
        exact hr
      · have ht : tlls (e :: l) kd v = tlls l kd v := by simp [tlls, hv]
        rw [ht] at hr
        simp only [hk, hv, if_true, if_false]
        exact l_tells l _ h5 hr
    · have ht : tlls (e :: l) kd v = tlls l kd v := by simp [tlls, hk]
      rw [ht] at hr
      simp only [hk, if_false]
      exact l_tells l _ h5 hr
set_option maxRecDepth 4000 in
theorem s_tells {d : Nat} {Q : Rt} {G : Mem} {z a : Nat} {kd v : Int32} {l : List (Int32 × Int32 × Int32)} (ha : mK G a = 2) (hl : SCh G (mR G 2 4 a) l.reverse) (h : Q (some (.int (bI (tlls l kd v = true)))) G z) : CALL (d + 1) 27 [va_rf (some a), .int kd, .int v] G z Q := by
  rw [CALL_eq]
  simp only [mxE_27, ent, entL, isL_int, isL_rf, isL_long, locS, List.length_cons, List.length_nil, List.cons_append, List.nil_append, List.replicate_succ, List.replicate_zero, Bool.false_eq_true, if_false, if_true, true_and, and_true, Nat.reduceAdd, Nat.reduceSub, Nat.reduceLeDiff, Nat.zero_le, Nat.le_refl, Nat.zero_add, Nat.add_zero, bI_0, bI_1, bI_n, Nat.reduceEqDiff, false_and, and_false, and_self, e_27_0, e_27_1, e_27_4, e_27_6, e_27_9, e_27_10, e_27_13, e_27_14, e_27_17, e_27_18, e_27_21, e_27_22, e_27_25, e_27_26, e_27_27, e_27_28, e_27_31, e_27_32, e_27_35, e_27_36, ha]
  refine l_tells _ _ hl ?_
  rw [tlls_rev]; exact h
set_option maxRecDepth 4000 in
theorem l_hasBar {d : Nat} {R : Rt} {G : Mem} {z : Nat} {mi we : Int32} {o : Option Value} : ∀ (l : List (Int32 × Int32 × Int32)) (r : Option Nat), SCh G r l → R (some (.int (bI (brs l mi we = true)))) G z → WP d 26 R 5 [o, some (.int mi), some (.int we), some (va_rf r)] [] G z 0 0
  | [], r, h, hr => by
    have h : r = none := h
    subst h
    rw [e_26_5]
    simp only [ent, entL, isL_int, isL_rf, isL_long, locS, List.length_cons, List.length_nil, List.cons_append, List.nil_append, List.replicate_succ, List.replicate_zero, Bool.false_eq_true, if_false, if_true, true_and, and_true, Nat.reduceAdd, Nat.reduceSub, Nat.reduceLeDiff, Nat.zero_le, Nat.le_refl, Nat.zero_add, Nat.add_zero, bI_0, bI_1, bI_n, Nat.reduceEqDiff, false_and, and_false, and_self, e_26_0, e_26_1, e_26_4, e_26_6, e_26_9, e_26_10, e_26_13, e_26_16, e_26_17, e_26_18, e_26_21, e_26_24, e_26_25, e_26_26, e_26_29, e_26_32, e_26_33, e_26_34, e_26_35, e_26_38, e_26_39, e_26_42, e_26_43, nz_0]
    exact hr
  | e :: l, r, h, hr => by
    obtain ⟨a, rfl, h1, h2, h3, h4, h5⟩ := h
    rw [e_26_5]
    simp only [ent, entL, isL_int, isL_rf, isL_long, locS, List.length_cons, List.length_nil, List.cons_append, List.nil_append, List.replicate_succ, List.replicate_zero, Bool.false_eq_true, if_false, if_true, true_and, and_true, Nat.reduceAdd, Nat.reduceSub, Nat.reduceLeDiff, Nat.zero_le, Nat.le_refl, Nat.zero_add, Nat.add_zero, bI_0, bI_1, bI_n, Nat.reduceEqDiff, false_and, and_false, and_self, e_26_0, e_26_1, e_26_4, e_26_6, e_26_9, e_26_10, e_26_13, e_26_16, e_26_17, e_26_18, e_26_21, e_26_24, e_26_25, e_26_26, e_26_29, e_26_32, e_26_33, e_26_34, e_26_35, e_26_38, e_26_39, e_26_42, e_26_43, h1, h2, h3, h4, nz_1, reduceCtorEq]
    by_cases hp : e.1 = 0 ∧ mi < e.2.1 ∧ we ≤ e.2.2
    · have ht : brs (e :: l) mi we = true := by simp [brs, hp]
      have q1 : ¬ e.2.1 ≤ mi := by rw [not_le']; exact hp.2.1
      have q2 : ¬ e.2.2 < we := by rw [not_lt']; exact hp.2.2
      rw [ht] at hr
      simp only [hp.1, q1, q2, if_true, if_false]
      exact hr
    · have ht : brs (e :: l) mi we = brs l mi we := by simp only [brs, List.any_cons, hp, decide_false, Bool.false_or]
      rw [ht] at hr
      have go := l_hasBar (d := d) (o := o) l _ h5 hr
      by_cases q0 : e.1 = 0
      · by_cases q1 : e.2.1 ≤ mi
        · simp only [q0, q1, if_true]; exact go
        · have q2 : e.2.2 < we := by
            rw [← not_le']; intro q; exact hp ⟨q0, by rw [← not_le']; exact q1, q⟩
          simp only [q0, q1, q2, if_true, if_false]; exact go
      · simp only [q0, if_false]; exact go
set_option maxRecDepth 4000 in
theorem s_hasBar {d : Nat} {Q : Rt} {G : Mem} {z a : Nat} {mi we : Int32} {l : List (Int32 × Int32 × Int32)} (ha : mK G a = 2) (hl : SCh G (mR G 2 4 a) l.reverse) (h : Q (some (.int (bI (brs l mi we = true)))) G z) : CALL (d + 1) 26 [va_rf (some a), .int mi, .int we] G z Q := by
  rw [CALL_eq]
  simp only [mxE_26, ent, entL, isL_int, isL_rf, isL_long, locS, List.length_cons, List.length_nil, List.cons_append, List.nil_append, List.replicate_succ, List.replicate_zero, Bool.false_eq_true, if_false, if_true, true_and, and_true, Nat.reduceAdd, Nat.reduceSub, Nat.reduceLeDiff, Nat.zero_le, Nat.le_refl, Nat.zero_add, Nat.add_zero, bI_0, bI_1, bI_n, Nat.reduceEqDiff, false_and, and_false, and_self, e_26_0, e_26_1, e_26_4, e_26_6, e_26_9, e_26_10, e_26_13, e_26_16, e_26_17, e_26_18, e_26_21, e_26_24, e_26_25, e_26_26, e_26_29, e_26_32, e_26_33, e_26_34, e_26_35, e_26_38, e_26_39, e_26_42, e_26_43, ha]
  refine l_hasBar _ _ hl ?_
  rw [brs_rev]; exact h
set_option maxRecDepth 4000 in
theorem s_isNeverIn {d : Nat} {Q : Rt} {G : Mem} {z a p : Nat} {l : List (Int32 × Int32 × Int32)} (ha : mK G a = 2) (hp : mK G p = 4) (hl : SCh G (mR G 2 4 a) l.reverse) (h : Q (some (.int (bI (tlls l 3 (mI G 4 0 p) = true)))) G z) : CALL (d + 2) 24 [va_rf (some a), va_rf (some p)] G z Q := by
  rw [CALL_eq]
  simp only [mxE_24, ent, entL, isL_int, isL_rf, isL_long, locS, List.length_cons, List.length_nil, List.cons_append, List.nil_append, List.replicate_succ, List.replicate_zero, Bool.false_eq_true, if_false, if_true, true_and, and_true, Nat.reduceAdd, Nat.reduceSub, Nat.reduceLeDiff, Nat.zero_le, Nat.le_refl, Nat.zero_add, Nat.add_zero, bI_0, bI_1, bI_n, Nat.reduceEqDiff, false_and, and_false, and_self, e_24_0, e_24_1, e_24_2, e_24_3, e_24_6, e_24_9, ha, hp]
  refine s_tells ha hl ?_
  simp only [ent, entL, isL_int, isL_rf, isL_long, locS, List.length_cons, List.length_nil, List.cons_append, List.nil_append, List.replicate_succ, List.replicate_zero, Bool.false_eq_true, if_false, if_true, true_and, and_true, Nat.reduceAdd, Nat.reduceSub, Nat.reduceLeDiff, Nat.zero_le, Nat.le_refl, Nat.zero_add, Nat.add_zero, bI_0, bI_1, bI_n, Nat.reduceEqDiff, false_and, and_false, and_self, e_24_0, e_24_1, e_24_2, e_24_3, e_24_6, e_24_9]
  exact h
set_option maxRecDepth 4000 in
theorem s_isApartC {d : Nat} {Q : Rt} {G : Mem} {z a p : Nat} {l : List (Int32 × Int32 × Int32)} (ha : mK G a = 2) (hp : mK G p = 6) (hl : SCh G (mR G 2 4 a) l.reverse) (h : Q (some (.int (bI (tlls l 1 (mI G 6 4 p) = true ∨ tlls l 2 (mI G 6 0 p) = true)))) G z) : CALL (d + 2) 25 [va_rf (some a), va_rf (some p)] G z Q := by
  rw [CALL_eq]
  simp only [mxE_25, ent, entL, isL_int, isL_rf, isL_long, locS, List.length_cons, List.length_nil, List.cons_append, List.nil_append, List.replicate_succ, List.replicate_zero, Bool.false_eq_true, if_false, if_true, true_and, and_true, Nat.reduceAdd, Nat.reduceSub, Nat.reduceLeDiff, Nat.zero_le, Nat.le_refl, Nat.zero_add, Nat.add_zero, bI_0, bI_1, bI_n, Nat.reduceEqDiff, false_and, and_false, and_self, e_25_0, e_25_1, e_25_2, e_25_3, e_25_6, e_25_9, e_25_12, e_25_13, e_25_14, e_25_15, e_25_18, e_25_21, e_25_24, e_25_25, e_25_28, e_25_29, ha, hp]
  refine s_tells ha hl ?_
  simp only [ent, entL, isL_int, isL_rf, isL_long, locS, List.length_cons, List.length_nil, List.cons_append, List.nil_append, List.replicate_succ, List.replicate_zero, Bool.false_eq_true, if_false, if_true, true_and, and_true, Nat.reduceAdd, Nat.reduceSub, Nat.reduceLeDiff, Nat.zero_le, Nat.le_refl, Nat.zero_add, Nat.add_zero, bI_0, bI_1, bI_n, Nat.reduceEqDiff, false_and, and_false, and_self, e_25_0, e_25_1, e_25_2, e_25_3, e_25_6, e_25_9, e_25_12, e_25_13, e_25_14, e_25_15, e_25_18, e_25_21, e_25_24, e_25_25, e_25_28, e_25_29, ha, hp, nz_0, nz_1]
  by_cases h1 : tlls l 1 (mI G 6 4 p) = true
  · simp only [h1, not_true, if_false]
    simpa [h1, bI] using h
  · simp only [h1]
    simp only [not_false_iff, if_true, Bool.false_eq_true]
    refine s_tells ha hl ?_
    simp only [ent, entL, isL_int, isL_rf, isL_long, locS, List.length_cons, List.length_nil, List.cons_append, List.nil_append, List.replicate_succ, List.replicate_zero, Bool.false_eq_true, if_false, if_true, true_and, and_true, Nat.reduceAdd, Nat.reduceSub, Nat.reduceLeDiff, Nat.zero_le, Nat.le_refl, Nat.zero_add, Nat.add_zero, bI_0, bI_1, bI_n, Nat.reduceEqDiff, false_and, and_false, and_self, e_25_0, e_25_1, e_25_2, e_25_3, e_25_6, e_25_9, e_25_12, e_25_13, e_25_14, e_25_15, e_25_18, e_25_21, e_25_24, e_25_25, e_25_28, e_25_29, nz_0, nz_1]
    by_cases h2 : tlls l 2 (mI G 6 0 p) = true
    · simp only [h2, not_true, if_false]
      simpa [h1, h2, bI] using h
    · simp only [h2]
      simpa [h1, h2, bI] using h
set_option maxRecDepth 4000 in
theorem s_isWeek {d : Nat} {w : Int32} {G : Mem} {z : Nat} {Q : Rt} : CALL (d + 1) 69 [.int w] G z Q = Q (some (.int (bI (0 ≤ w ∧ w < 60)))) G z := by
  rw [CALL_eq]
  simp only [mxE_69, ent, entL, isL_int, isL_rf, isL_long, locS, List.length_cons, List.length_nil, List.cons_append, List.nil_append, List.replicate_succ, List.replicate_zero, Bool.false_eq_true, if_false, if_true, true_and, and_true, Nat.reduceAdd, Nat.reduceSub, Nat.reduceLeDiff, Nat.zero_le, Nat.le_refl, Nat.zero_add, Nat.add_zero, bI_0, bI_1, bI_n, Nat.reduceEqDiff, false_and, and_false, and_self, e_69_0, e_69_1, e_69_4, e_69_5, e_69_7, e_69_10, e_69_11, e_69_14, e_69_15, nz_0, nz_1]
  unfold bI
  by_cases h1 : w < 0
  · have h3 : ¬ 0 ≤ w := by simpa using h1
    simp [h1, h3]
  · have h3 : 0 ≤ w := by simpa using h1
    by_cases h2 : 60 ≤ w
    · have h4 : ¬ w < 60 := by simpa using h2
      simp [h1, h2, h3, h4]
    · have h4 : w < 60 := by simpa using h2
      simp [h1, h2, h3, h4]
theorem w_ok {w : Nat} (h : w < 60) : (0 ≤ nI w ∧ nI w < 60) = True := by
  refine eq_true ⟨nI_pos' (by omega), ?_⟩
  rw [show (60 : Int32) = nI 60 from rfl]
  exact nI_lt h (by decide)
set_option maxRecDepth 4000 in
theorem s_hallIn0 {d : Nat} {Q : Rt} {G : Mem} {z a b : Nat} {w : Int32} (h1 : mK G a = 6) (h2 : mR G 6 6 a = some b) (h3 : mK G b = 23) (h4 : mN G b = 60) : CALL (d + 2) 44 [va_rf (some a), .int w] G z Q = Q (some (va_rf (if 0 ≤ w ∧ w < 60 then mQ G b w.toNatClampNeg else none))) G z := by
  rw [CALL_eq]
  simp only [mxE_44, ent, entL, isL_int, isL_rf, isL_long, locS, List.length_cons, List.length_nil, List.cons_append, List.nil_append, List.replicate_succ, List.replicate_zero, Bool.false_eq_true, if_false, if_true, true_and, and_true, Nat.reduceAdd, Nat.reduceSub, Nat.reduceLeDiff, Nat.zero_le, Nat.le_refl, Nat.zero_add, Nat.add_zero, bI_0, bI_1, bI_n, Nat.reduceEqDiff, false_and, and_false, and_self, e_44_0, e_44_1, e_44_4, e_44_7, e_44_8, e_44_11, e_44_12, e_44_13, e_44_16, e_44_17, s_isWeek, h1, h2, h3, h4, true_or]
  by_cases hw : 0 ≤ w ∧ w < 60
  · obtain ⟨k, hk, rfl⟩ := n_rng' (x := w) (n := 60) (by decide) hw.1 hw.2
    simp only [hw, not_true, if_false, n_in hk (by decide), true_and, if_true, and_self]
  · simp only [hw, not_false_iff, if_true, if_false]
section X
variable {G : Mem} {x : Nat} {ta ha ca : Nat → Nat} {S : St}
theorem s_hallIn (hX : RX G x ta ha ca S) {i w : Nat} (hi : i < sN S 1) (hw : w < 60) {d z : Nat} {Q : Rt} : CALL (d + 2) 44 [va_rf (some (ta i)), .int (nI w)] G z Q = Q (some (va_rf ((sP S i w).map ha))) G z := by
  have hT := hX.2.2.1 i hi
  rw [s_hallIn0 hT.2.2.1 hT.2.2.2.2.2.2.2.2.2.1 hT.2.2.2.2.2.2.2.2.2.2.1 hT.2.2.2.2.2.2.2.2.2.2.2.1]
  simp only [w_ok hw, if_true, n_cl (show w < 2 ^ 31 by omega), hT.2.2.2.2.2.2.2.2.2.2.2.2.2.2.2 w hw]
theorem s_milesTo {d z a b : Nat} {Q : Rt} (h1 : mK G a = 4) (h2 : mK G b = 4) : CALL (d + 1) 41 [va_rf (some a), va_rf (some b)] G z Q = Q (some (.int (ab (mI G 4 1 a - mI G 4 1 b)))) G z := by
  rw [CALL_eq]
  simp only [mxE_41, ent, entL, isL_int, isL_rf, isL_long, locS, List.length_cons, List.length_nil, List.cons_append, List.nil_append, List.replicate_succ, List.replicate_zero, Bool.false_eq_true, if_false, if_true, true_and, and_true, Nat.reduceAdd, Nat.reduceSub, Nat.reduceLeDiff, Nat.zero_le, Nat.le_refl, Nat.zero_add, Nat.add_zero, bI_0, bI_1, bI_n, Nat.reduceEqDiff, false_and, and_false, and_self, e_41_0, e_41_1, e_41_4, e_41_5, e_41_8, e_41_9, e_41_12, h1, h2]
  rfl
end X
