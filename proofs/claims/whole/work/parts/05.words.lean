/-! the tables' facts, one by one -/
theorem fr_in {o i ci k : Nat} (h : fr o i = some (ci, k)) : ∃ p, lw_tbl[p]? = some (frW (o, i, ci, k, p)) := by
  unfold fr at h
  obtain ⟨e, he, e2⟩ := Option.map_eq_some_iff.mp h
  have hm := List.mem_of_find?_eq_some he
  have hp := List.find?_some he
  have ho := of_decide_eq_true (List.all_eq_true.mp frL_ok e hm)
  obtain ⟨a, b, c, d, p⟩ := e
  simp only [Bool.and_eq_true, beq_iff_eq] at hp
  simp only [Prod.mk.injEq] at e2
  obtain ⟨rfl, rfl⟩ := hp
  obtain ⟨rfl, rfl⟩ := e2
  exact ⟨p, ho⟩
theorem fr_word {o i ci k : Nat} (h : fr o i = some (ci, k)) (hc : ci < 9) : Cond.fieldLink (ownN o) i (cT ci k).1 (cT ci k).2.1 (cT ci k).2.2.1 ∈ lwG := by
  obtain ⟨p, hp⟩ := fr_in h
  simp only [frW, if_pos hc] at hp
  exact lwG_at p hp rfl
theorem fr_str {o i k : Nat} (h : fr o i = some (30, k)) : (if k = 0 then Cond.fieldLink (ownN o) i "java/lang/String" "value" "[B" else Cond.fieldLink (ownN o) i "java/lang/String" "coder" "B") ∈ lwG := by
  obtain ⟨p, hp⟩ := fr_in h
  have hp : lw_tbl[p]? = some (if k = 0 then Cond.fieldLink (ownN o) i "java/lang/String" "value" "[B" else Cond.fieldLink (ownN o) i "java/lang/String" "coder" "B") := hp
  exact lwG_at p hp (by split <;> rfl)
theorem fr_sta {o i k : Nat} (h : fr o i = some (32, k)) : (if k = 0 then Cond.fieldLink (ownN o) i "java/lang/String" "COMPACT_STRINGS" "Z" else Cond.fieldLink (ownN o) i "jdk/internal/util/Preconditions" "SIOOBE_FORMATTER" "Ljava/util/function/BiFunction;") ∈ lwG := by
  obtain ⟨p, hp⟩ := fr_in h
  have hp : lw_tbl[p]? = some (if k = 0 then Cond.fieldLink (ownN o) i "java/lang/String" "COMPACT_STRINGS" "Z" else Cond.fieldLink (ownN o) i "jdk/internal/util/Preconditions" "SIOOBE_FORMATTER" "Ljava/util/function/BiFunction;") := hp
  exact lwG_at p hp (by split <;> rfl)
theorem mr_in {o i kd j : Nat} (h : mr o i = some (kd, j)) : ∃ p1 p2 p3 p4, mrC (o, i, kd, j, p1, p2, p3, p4) = true := by
  unfold mr at h
  obtain ⟨e, he, e2⟩ := Option.map_eq_some_iff.mp h
  have hm := List.mem_of_find?_eq_some he
  have hp := List.find?_some he
  have ho := List.all_eq_true.mp mrL_ok e hm
  obtain ⟨a, b, c, d, p⟩ := e
  simp only [Bool.and_eq_true, beq_iff_eq] at hp
  simp only [Prod.mk.injEq] at e2
  obtain ⟨rfl, rfl⟩ := hp
  obtain ⟨rfl, rfl⟩ := e2
  exact ⟨_, _, _, _, ho⟩
theorem mr_0 {o i j : Nat} (h : mr o i = some (0, j)) : j < 137 ∧ Cond.methodLink (ownN o) i (my j) ∈ lwG ∧ Cond.instanceMethod (my j) ∈ lwG ∧ Cond.initialized (my j).cls ∈ lwG ∧ Cond.selects (my j).cls (my j) (my j) ∈ lwG := by
  obtain ⟨p1, p2, p3, p4, hp⟩ := mr_in h
  simp only [mrC, Bool.and_eq_true, decide_eq_true_eq] at hp
  exact ⟨hp.1.1.1.1, lwG_at _ hp.1.1.1.2 rfl, lwG_at _ hp.1.1.2 rfl, lwG_at _ hp.1.2 rfl, lwG_at _ hp.2 rfl⟩
theorem mr_1 {o i j : Nat} (h : mr o i = some (1, j)) : j < 137 ∧ Cond.methodLink (ownN o) i (my j) ∈ lwG ∧ Cond.static (my j) ∈ lwG ∧ Cond.initialized (my j).cls ∈ lwG := by
  obtain ⟨p1, p2, p3, p4, hp⟩ := mr_in h
  simp only [mrC, Bool.and_eq_true, decide_eq_true_eq] at hp
  exact ⟨hp.1.1.1, lwG_at _ hp.1.1.2 rfl, lwG_at _ hp.1.2 rfl, lwG_at _ hp.2 rfl⟩
theorem mr_2 {o i j : Nat} (h : mr o i = some (2, j)) : j < 137 ∧ Cond.methodLink (ownN o) i (my j) ∈ lwG ∧ Cond.instanceMethod (my j) ∈ lwG ∧ Cond.initialized (my j).cls ∈ lwG ∧ (my j).name = "<init>" ∧ mrt j = none := by
  obtain ⟨p1, p2, p3, p4, hp⟩ := mr_in h
  simp only [mrC, Bool.and_eq_true, decide_eq_true_eq] at hp
  exact ⟨hp.1.1.1.1.1, lwG_at _ hp.1.1.1.1.2 rfl, lwG_at _ hp.1.1.1.2 rfl, lwG_at _ hp.1.1.2 rfl, hp.1.2, hp.2⟩
theorem mr_3 {o i j : Nat} (h : mr o i = some (3, j)) : j < 137 ∧ Cond.methodLinkNest (ownN o) i (my j) "VarietyCircuit" ∈ lw_tbl ∧ Cond.static (my j) ∈ lwG ∧ Cond.initialized (my j).cls ∈ lwG := by
  obtain ⟨p1, p2, p3, p4, hp⟩ := mr_in h
  simp only [mrC, Bool.and_eq_true, decide_eq_true_eq] at hp
  exact ⟨hp.1.1.1, List.mem_of_getElem? hp.1.1.2, lwG_at _ hp.1.2 rfl, lwG_at _ hp.2 rfl⟩
theorem mr_4 {o i j : Nat} (h : mr o i = some (4, j)) : Cond.methodLink (ownN o) i Lib.objectInit ∈ lwG := by
  obtain ⟨p1, p2, p3, p4, hp⟩ := mr_in h
  simp only [mrC, decide_eq_true_eq] at hp
  exact lwG_at _ hp rfl
theorem mr_5 {o i j : Nat} (h : mr o i = some (5, j)) : Cond.methodLink (ownN o) i Lib.Math.min.name ∈ lwG := by
  obtain ⟨p1, p2, p3, p4, hp⟩ := mr_in h
  simp only [mrC, decide_eq_true_eq] at hp
  exact lwG_at _ hp rfl
theorem mr_6 {o i j : Nat} (h : mr o i = some (6, j)) : Cond.methodLink (ownN o) i Lib.Math.abs.name ∈ lwG := by
  obtain ⟨p1, p2, p3, p4, hp⟩ := mr_in h
  simp only [mrC, decide_eq_true_eq] at hp
  exact lwG_at _ hp rfl
theorem nm_at {j : Nat} (h : j < 137) : plainName (my j).cls = true ∧ ((my j).cls ≠ "java/lang/invoke/MethodHandle" ∧ (my j).cls ≠ "java/lang/invoke/VarHandle" ∧ (parseMethodDescriptor (my j).desc).map (fun d => d.parameters.length) = some (npq j)) ∧ (my j).cls = ownN (ow j) ∧ mxL j ≤ 17 ∧ (isIni j = true → (my j).name = "<init>") := by
  have hj := List.all_eq_true.mp nm_ok j (List.mem_range.mpr h)
  simp only [nmC, Bool.and_eq_true, Bool.or_eq_true, Bool.not_eq_true', decide_eq_true_eq] at hj
  obtain ⟨⟨⟨⟨⟨⟨⟨⟨h1, h2⟩, h3⟩, h4⟩, h5⟩, h6⟩, h7⟩, -⟩, -⟩ := hj
  refine ⟨h1, ⟨h2, h3, h4⟩, h5, h6, fun q => ?_⟩
  rcases h7 with h7 | h7
  · rw [q] at h7; cases h7
  · exact h7
theorem lays_in {ci : Nat} (h : ci < 9) : ∀ w ∈ u_ws (ownN ci) (cT ci) (nF ci), w ∈ lwG := by
  intro w hw
  have h1 := List.all_eq_true.mp (List.all_eq_true.mp lays_ok ci (List.mem_range.mpr h)) w hw
  simp only [Bool.and_eq_true, decide_eq_true_eq] at h1
  exact List.mem_filter.mpr h1
theorem ty_at {ci k : Nat} (h : ci < 9) (hk : k < nF ci) : parseFieldDescriptor (cT ci k).2.2.1 = some (tyC ci k) ∧ (cT ci k).1 = ownN ci ∧ defaultValue (tyC ci k) = if isR ci k = true then .null else .int 0 := by
  have h1 := List.all_eq_true.mp (List.all_eq_true.mp tyC_ok ci (List.mem_range.mpr h)) k (List.mem_range.mpr hk)
  simp only [Bool.and_eq_true, decide_eq_true_eq] at h1
  exact ⟨h1.1.1, h1.1.2, h1.2⟩
theorem nmD_at {ci : Nat} (h : ci < 9) : ∀ a, a < nF ci → ∀ b, b < nF ci → a ≠ b → (cT ci a).2.1 ≠ (cT ci b).2.1 := by
  intro a ha b hb
  have h1 := List.all_eq_true.mp (List.all_eq_true.mp (List.all_eq_true.mp nmD_ok ci (List.mem_range.mpr h)) a (List.mem_range.mpr ha)) b (List.mem_range.mpr hb)
  exact of_decide_eq_true h1
theorem ins_at {ci : Nat} (h : ci < 9) : Cond.instantiable (ownN ci) (nF ci) ∈ lwG ∧ Cond.initialized (ownN ci) ∈ lwG := by
  have h1 := List.all_eq_true.mp ins_ok ci (List.mem_range.mpr h)
  simp only [Bool.and_eq_true, decide_eq_true_eq] at h1
  exact ⟨lwG_at _ h1.1 rfl, lwG_at _ h1.2 rfl⟩
theorem cr_at {o i ci : Nat} (h : cr o i = some ci) : Cond.classLink (ownN o) i (ownN ci) ∈ lwG ∧ ci < 9 := by
  unfold cr at h
  obtain ⟨e, he, e2⟩ := Option.map_eq_some_iff.mp h
  have hm := List.mem_of_find?_eq_some he
  have hp := List.find?_some he
  have ho := List.all_eq_true.mp crL_ok e hm
  obtain ⟨a, b, c, d⟩ := e
  simp only [Bool.and_eq_true, beq_iff_eq] at hp
  simp only [Bool.and_eq_true, decide_eq_true_eq] at ho
  obtain ⟨rfl, rfl⟩ := hp
  subst e2
  exact ⟨lwG_at _ ho.1 rfl, ho.2⟩
theorem kI_at {o i : Nat} {v : Int32} (h : kI o i = some v) : Cond.constant (ownN o) i v ∈ lwG := by
  unfold kI at h
  obtain ⟨e, he, e2⟩ := Option.map_eq_some_iff.mp h
  have hm := List.mem_of_find?_eq_some he
  have hp := List.find?_some he
  have ho := of_decide_eq_true (List.all_eq_true.mp kIL_ok e hm)
  obtain ⟨a, b, c, d⟩ := e
  simp only [Bool.and_eq_true, beq_iff_eq] at hp
  obtain ⟨rfl, rfl⟩ := hp
  subst e2
  exact lwG_at _ ho rfl
theorem kL_at {o i : Nat} {v : Int64} (h : kL o i = some v) : Cond.constantLong (ownN o) i v ∈ lwG := by
  unfold kL at h
  obtain ⟨e, he, e2⟩ := Option.map_eq_some_iff.mp h
  have hm := List.mem_of_find?_eq_some he
  have hp := List.find?_some he
  have ho := of_decide_eq_true (List.all_eq_true.mp kLL_ok e hm)
  obtain ⟨a, b, c, d⟩ := e
  simp only [Bool.and_eq_true, beq_iff_eq] at hp
  obtain ⟨rfl, rfl⟩ := hp
  subst e2
  exact lwG_at _ ho rfl
theorem kS_at {o i q : Nat} (h : kS o i = some q) : o = 3 ∧ q < 10 ∧ sIx[q]? = some i := by
  unfold kS at h
  obtain ⟨e, he, e2⟩ := Option.map_eq_some_iff.mp h
  have hm := List.mem_of_find?_eq_some he
  have hp := List.find?_some he
  have ho := List.all_eq_true.mp kSL_ok e hm
  obtain ⟨a, b, c, d⟩ := e
  simp only [Bool.and_eq_true, beq_iff_eq] at hp
  simp only [Bool.and_eq_true, decide_eq_true_eq] at ho
  obtain ⟨rfl, rfl⟩ := hp
  subst e2
  exact ⟨ho.1.1, ho.1.2, ho.2⟩
set_option maxRecDepth 100000 in
theorem str_ok : (mrL.all fun e => !(e.2.2.1 == 0) || decide (ow e.2.2.2.1 < 9) || decide (ownN (ow e.2.2.2.1) = "java/lang/String")) = true := by decide +kernel
theorem str_own {o i j : Nat} (h : mr o i = some (0, j)) (hj : ¬ ow j < 9) : "java/lang/String" = ownN (ow j) := by
  unfold mr at h
  obtain ⟨e, he, e2⟩ := Option.map_eq_some_iff.mp h
  have hm := List.mem_of_find?_eq_some he
  have ho := List.all_eq_true.mp str_ok e hm
  obtain ⟨a, b, c, d, p⟩ := e
  simp only [Prod.mk.injEq] at e2
  obtain ⟨rfl, rfl⟩ := e2
  simp only [beq_self_eq_true, Bool.not_true, Bool.false_or, Bool.or_eq_true, decide_eq_true_eq] at ho
  rcases ho with ho | ho
  · exact absurd ho hj
  · exact ho.symm
