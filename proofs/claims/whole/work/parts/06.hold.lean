/-! what a memory says of the machine's heap, and how it is kept -/
abbrev Fix : Type := va_G × (Nat → ClassId) × Nat × (Nat → Nat) × (Nat → Nat) × Option Nat × Nat × Nat × (Nat → Int32)
def fD (E : Fix) : va_G := E.1
def fcy (E : Fix) : Nat → ClassId := E.2.1
def fb (E : Fix) : Nat := E.2.2.1
def fK (E : Fix) : Nat → Nat := E.2.2.2.1
def fV (E : Fix) : Nat → Nat := E.2.2.2.2.1
def fsi (E : Fix) : Option Nat := E.2.2.2.2.2.1
def fx (E : Fix) : Nat := E.2.2.2.2.2.2.1
def fxl (E : Fix) : Nat := E.2.2.2.2.2.2.2.1
def fxs (E : Fix) : Nat → Int32 := E.2.2.2.2.2.2.2.2
def fA (E : Fix) : Nat → Prop := fun q => fb E ≤ q
def sLen : List Nat := sBy.map List.length
def fv (G : Mem) (ci a k : Nat) : Value := if isR ci k = true then va_rf (mR G ci k a) else .int (mI G ci k a)
def av (G : Mem) (a i : Nat) : Value := if mK G a < 23 then .int (mE G a i) else va_rf (mQ G a i)
def holdP (E : Fix) (G : Mem) (H : Heap) : Prop := ∀ a, (mK G a < 9 → fb E ≤ a ∧ t_OB a ((fD E).1 (mK G a)) (nF (mK G a)) ((fD E).2 (mK G a)) H (fv G (mK G a) a)) ∧ (20 ≤ mK G a → mK G a ≤ 24 → fb E ≤ a ∧ H[a]? = some (arrV (fcy E (mK G a)) (mN G a) (av G a)))
def lnk (E : Fix) (G : Mem) : Prop := (∀ a, mK G a = 25 → a = fx E ∧ mN G a = fxl E ∧ ∀ i, mE G a i = fxs E i) ∧ (∀ a, mI G 33 0 a = 1 → ∃ i, i < 10 ∧ a = fK E i ∧ mR G 30 0 a = some (fV E i) ∧ mI G 30 1 a = 0)
  ∧ (∀ a, mK G a = 26 → ∃ i, i < 10 ∧ a = fV E i ∧ mN G a = sLen.getD i 0 ∧ ∀ k, mE G a k = (sBy.getD i []).getD k 0) ∧ (∀ i, i < 10 → mR G 31 i 0 = some (fK E i)) ∧ mR G 32 1 0 = fsi E
def tysOf (cy : Nat → ClassId) : List (ClassId × FieldType) := [(cy 20, .int), (cy 21, .byte), (cy 22, .boolean), (cy 23, .object RX4), (cy 24, .object RX6)]
def know (E : Fix) (U : State) : Prop := va_K (fD E) vwCl (tysOf (fcy E)) U ∧ va_AO RX4 U ∧ va_AO RX6 U ∧ (∀ o i y, Cond.methodLinkNest o i y "VarietyCircuit" ∈ lw_tbl → va_Nw (.methodLinkNest o i y "VarietyCircuit") U) ∧ ∀ i, i < 10 → vk_R RX3 (sIx.getD i 0) (sTx.getD i "") (fK E i) U
def frz (E : Fix) (U : State) (H : Heap) : Prop := vk_S 10 sLen sBy (fK E) (fV E) (fA E) U H ∧ va_Z "java/lang/String" "COMPACT_STRINGS" "Z" (.int 1) (fA E) U H ∧ va_Z "jdk/internal/util/Preconditions" "SIOOBE_FORMATTER" "Ljava/util/function/BiFunction;" (va_rf (fsi E)) (fA E) U H
  ∧ va_X (fx E) (fxl E) (fxs E) U H ∧ fx E < fb E ∧ fx E < H.size
theorem know.warm {E : Fix} {s U : State} (hW : s.WarmedH U.vm) (h : know E s) : know E U :=
  ⟨va_K.moved hW.alike h.1, va_AO.moved hW.alike h.2.1, va_AO.moved hW.alike h.2.2.1, fun o i y hm => va_Nw.warmM hW (h.2.2.2.1 o i y hm), fun i hi => vk_R.warm hW (h.2.2.2.2 i hi)⟩
theorem frz.moved {E : Fix} {u U : State} {H : Heap} (hvm : u.vm.Alike U.vm) (h : frz E u H) : frz E U H :=
  ⟨h.1.moved hvm, h.2.1.moved hvm, h.2.2.1.moved hvm, va_X.moved hvm h.2.2.2.1, h.2.2.2.2⟩
theorem frz.kept {E : Fix} {U : State} {H H1 : Heap} (h : frz E U H) (hz : H.size ≤ H1.size) (hq : ∀ a : Nat, a < H.size → ¬ fA E a → H1[a]? = H[a]?) : frz E U H1 :=
  ⟨h.1.kept hq, h.2.1.kept hq, h.2.2.1.kept hq, va_X.kept h.2.2.2.1 (hq _ h.2.2.2.2.2 (Nat.not_le.mpr h.2.2.2.2.1)), h.2.2.2.2.1, Nat.lt_of_lt_of_le h.2.2.2.2.2 hz⟩
theorem holdP.lt {E : Fix} {G : Mem} {H : Heap} (h : holdP E G H) {a : Nat} (hk : mK G a < 9 ∨ (20 ≤ mK G a ∧ mK G a ≤ 24)) : a < H.size := by
  rcases hk with hk | ⟨h1, h2⟩
  · obtain ⟨-, cell, q, -⟩ := (h a).1 hk
    exact (Array.getElem?_eq_some_iff.mp q).1
  · exact (Array.getElem?_eq_some_iff.mp ((h a).2 h1 h2).2).1
theorem fv_congr {G G' : Mem} {ci a : Nat} (h1 : ∀ k, mI G' ci k a = mI G ci k a) (h2 : ∀ k, mR G' ci k a = mR G ci k a) : fv G' ci a = fv G ci a := by
  funext k
  simp only [fv, h1 k, h2 k]
theorem av_congr {G G' : Mem} {a : Nat} (h0 : mK G' a = mK G a) (h1 : ∀ k, mE G' a k = mE G a k) (h2 : ∀ k, mQ G' a k = mQ G a k) : av G' a = av G a := by
  funext k
  simp only [av, h0, h1 k, h2 k]
/-- one cell is written, the others stand -/
theorem holdP.upd {E : Fix} {G G' : Mem} {H H' : Heap} {a : Nat} (h : holdP E G H) (hK : ∀ b, mK G' b = mK G b) (hN : ∀ b, mN G' b = mN G b)
    (hI : ∀ b, b ≠ a → ∀ c k, mI G' c k b = mI G c k b) (hR : ∀ b, b ≠ a → ∀ c k, mR G' c k b = mR G c k b) (hE : ∀ b, b ≠ a → ∀ k, mE G' b k = mE G b k) (hQ : ∀ b, b ≠ a → ∀ k, mQ G' b k = mQ G b k)
    (hH : ∀ q, q ≠ a → H'[q]? = H[q]?) (ha : (mK G a < 9 → fb E ≤ a ∧ t_OB a ((fD E).1 (mK G a)) (nF (mK G a)) ((fD E).2 (mK G a)) H' (fv G' (mK G a) a)) ∧ (20 ≤ mK G a → mK G a ≤ 24 → fb E ≤ a ∧ H'[a]? = some (arrV (fcy E (mK G a)) (mN G a) (av G' a)))) : holdP E G' H' := by
  intro b
  rw [hK b, hN b]
  by_cases hb : b = a
  · subst hb
    exact ha
  · rw [fv_congr (hI b hb (mK G b)) (hR b hb (mK G b)), av_congr (hK b) (hE b hb) (hQ b hb)]
    refine ⟨fun q => ⟨((h b).1 q).1, ((h b).1 q).2.kept (hH b hb)⟩, fun q1 q2 => ⟨((h b).2 q1 q2).1, ?_⟩⟩
    rw [hH b hb]
    exact ((h b).2 q1 q2).2
/-- a new cell comes, the others stand -/
theorem holdP.new {E : Fix} {G G' : Mem} {H H' : Heap} {a : Nat} (h : holdP E G H) (ha : a = H.size) (hK : ∀ b, b ≠ a → mK G' b = mK G b) (hN : ∀ b, b ≠ a → mN G' b = mN G b)
    (hI : ∀ b, b ≠ a → ∀ c k, mI G' c k b = mI G c k b) (hR : ∀ b, b ≠ a → ∀ c k, mR G' c k b = mR G c k b) (hE : ∀ b, b ≠ a → ∀ k, mE G' b k = mE G b k) (hQ : ∀ b, b ≠ a → ∀ k, mQ G' b k = mQ G b k)
    (hH : ∀ q, q < H.size → H'[q]? = H[q]?) (hn : (mK G' a < 9 → fb E ≤ a ∧ t_OB a ((fD E).1 (mK G' a)) (nF (mK G' a)) ((fD E).2 (mK G' a)) H' (fv G' (mK G' a) a)) ∧ (20 ≤ mK G' a → mK G' a ≤ 24 → fb E ≤ a ∧ H'[a]? = some (arrV (fcy E (mK G' a)) (mN G' a) (av G' a)))) : holdP E G' H' := by
  intro b
  by_cases hb : b = a
  · subst hb
    exact hn
  · rw [hK b hb, hN b hb, fv_congr (hI b hb (mK G b)) (hR b hb (mK G b)), av_congr (hK b hb) (hE b hb) (hQ b hb)]
    refine ⟨fun q => ⟨((h b).1 q).1, ((h b).1 q).2.kept (hH b (h.lt (Or.inl q)))⟩, fun q1 q2 => ⟨((h b).2 q1 q2).1, ?_⟩⟩
    rw [hH b (h.lt (Or.inr ⟨q1, q2⟩))]
    exact ((h b).2 q1 q2).2
theorem lnk.upd {E : Fix} {G G' : Mem} {a : Nat} (h : lnk E G) (ha : mK G a < 25) (hK : ∀ b, mK G' b = mK G b) (hN : ∀ b, mN G' b = mN G b)
    (hI : ∀ b c k, 9 ≤ c → mI G' c k b = mI G c k b) (hR : ∀ b c k, 9 ≤ c → mR G' c k b = mR G c k b) (hE : ∀ b, b ≠ a → ∀ k, mE G' b k = mE G b k) : lnk E G' := by
  obtain ⟨h1, h2, h3, h4, h5⟩ := h
  have ne : ∀ b, 25 ≤ mK G b → b ≠ a := fun b hb e => by subst e; omega
  refine ⟨fun b hb => ?_, fun b hb => ?_, fun b hb => ?_, fun i hi => ?_, ?_⟩
  · rw [hK] at hb
    obtain ⟨q1, q2, q3⟩ := h1 b hb
    exact ⟨q1, by rw [hN]; exact q2, fun i => by rw [hE b (ne b (by omega))]; exact q3 i⟩
  · rw [hI _ _ _ (by decide)] at hb
    obtain ⟨i, q1, q2, q3, q4⟩ := h2 b hb
    exact ⟨i, q1, q2, by rw [hR _ _ _ (by decide)]; exact q3, by rw [hI _ _ _ (by decide)]; exact q4⟩
  · rw [hK] at hb
    obtain ⟨i, q1, q2, q3, q4⟩ := h3 b hb
    exact ⟨i, q1, q2, by rw [hN]; exact q3, fun k => by rw [hE b (ne b (by omega))]; exact q4 k⟩
  · rw [hR _ _ _ (by decide)]; exact h4 i hi
  · rw [hR _ _ _ (by decide)]; exact h5
theorem lnk.new {E : Fix} {G G' : Mem} {a : Nat} (h : lnk E G) (ha : ¬ a = 0) (hn : mK G' a < 25) (hK : ∀ b, b ≠ a → mK G' b = mK G b) (hN : ∀ b, b ≠ a → mN G' b = mN G b)
    (hI : ∀ b, b ≠ a → ∀ c k, mI G' c k b = mI G c k b) (hR : ∀ b, b ≠ a → ∀ c k, mR G' c k b = mR G c k b) (hE : ∀ b, b ≠ a → ∀ k, mE G' b k = mE G b k)
    (hT : mI G' 33 0 a = 1 → mI G 33 0 a = 1 ∧ mR G' 30 0 a = mR G 30 0 a ∧ mI G' 30 1 a = mI G 30 1 a) : lnk E G' := by
  obtain ⟨h1, h2, h3, h4, h5⟩ := h
  have ne : ∀ b, 25 ≤ mK G' b → b ≠ a := fun b hb e => by subst e; omega
  refine ⟨fun b hb => ?_, fun b hb => ?_, fun b hb => ?_, fun i hi => ?_, ?_⟩
  · have hne := ne b (by omega)
    rw [hK b hne] at hb
    obtain ⟨q1, q2, q3⟩ := h1 b hb
    exact ⟨q1, by rw [hN b hne]; exact q2, fun i => by rw [hE b hne]; exact q3 i⟩
  · by_cases hne : b = a
    · subst hne
      obtain ⟨t1, t2, t3⟩ := hT hb
      obtain ⟨i, q1, q2, q3, q4⟩ := h2 b t1
      exact ⟨i, q1, q2, t2.trans q3, t3.trans q4⟩
    · rw [hI b hne] at hb
      obtain ⟨i, q1, q2, q3, q4⟩ := h2 b hb
      exact ⟨i, q1, q2, by rw [hR b hne]; exact q3, by rw [hI b hne]; exact q4⟩
  · have hne := ne b (by omega)
    rw [hK b hne] at hb
    obtain ⟨i, q1, q2, q3, q4⟩ := h3 b hb
    exact ⟨i, q1, q2, by rw [hN b hne]; exact q3, fun k => by rw [hE b hne]; exact q4 k⟩
  · rw [hR _ (fun e => ha e.symm)]; exact h4 i hi
  · rw [hR _ (fun e => ha e.symm)]; exact h5
/-! locals -/
def LOK (ls : Array Slot) (nL : Nat) (L : Lo) : Prop := ls.size = nL ∧ lv_wf ls ∧ ∀ k v, lgo L k = some v → ls[k]? = some (.val v)
def lz (L : Lo) : List (Nat × Value) := (List.range L.length).filterMap fun k => (lgo L k).map fun v => (k, v)
theorem lgo_lt : ∀ (L : Lo) (k : Nat) (v : Value), lgo L k = some v → k < L.length
  | [], k, v, h => by cases h
  | o :: L, 0, v, h => by simp
  | o :: L, k + 1, v, h => by
    have := lgo_lt L k v h
    simp; omega
theorem mem_lz {L : Lo} {k : Nat} {v : Value} : (k, v) ∈ lz L ↔ lgo L k = some v := by
  unfold lz
  rw [List.mem_filterMap]
  refine ⟨fun ⟨q, hq, h⟩ => ?_, fun h => ⟨k, List.mem_range.mpr (lgo_lt L k v h), by rw [h]; rfl⟩⟩
  obtain ⟨w, h1, h2⟩ := Option.map_eq_some_iff.mp h
  cases h2
  exact h1
theorem LOK.has {ls : Array Slot} {nL : Nat} {L : Lo} (h : LOK ls nL L) : lv_has ls nL (lz L) := ⟨h.1, h.2.1, fun q hq => h.2.2 q.1 q.2 (mem_lz.mp hq)⟩
theorem lgo_set : ∀ (L : Lo) (i : Nat) (o : Option Value) (k : Nat) (v : Value), lgo (lset L i o) k = some v → (k = i ∧ o = some v) ∨ (k ≠ i ∧ lgo L k = some v)
  | [], i, o, k, v, h => by cases h
  | p :: L, 0, o, 0, v, h => Or.inl ⟨rfl, h⟩
  | p :: L, 0, o, k + 1, v, h => Or.inr ⟨by omega, h⟩
  | p :: L, i + 1, o, 0, v, h => Or.inr ⟨by omega, h⟩
  | p :: L, i + 1, o, k + 1, v, h => by
    rcases lgo_set L i o k v h with ⟨a, b⟩ | ⟨a, b⟩
    · exact Or.inl ⟨by omega, b⟩
    · exact Or.inr ⟨by omega, b⟩
theorem cat_isL (v : Value) : v.category = 2 ↔ isL v = true := by cases v <;> simp [Value.category, isL]
theorem cat_1 {v : Value} (h : isL v = false) : v.category = 1 := by cases v <;> simp_all [Value.category, isL]
theorem isL_rf (r : Option Nat) : isL (va_rf r) = false := by cases r <;> rfl
theorem rOf_rf (r : Option Nat) : rOf (va_rf r) = some r := by cases r <;> rfl
theorem rOf_s {v : Value} {r : Option Nat} (h : rOf v = some r) : v = va_rf r := by cases v <;> simp_all [rOf] <;> subst h <;> rfl
theorem LOK.set1 {ls' : Array Slot} {nL : Nat} {L : Lo} {i : Nat} {v : Value} (h : lv_has ls' nL ((i, v) :: (lz L).filter (fun q => !(q.1 == i) && !(q.1 + 1 == i && q.2.category == 2)))) (hn : noL L i) : LOK ls' nL (lset L i (some v)) := by
  refine ⟨h.1, h.2.1, fun k w hk => ?_⟩
  rcases lgo_set _ _ _ _ _ hk with ⟨rfl, e⟩ | ⟨hne, hk9⟩
  · cases e
    exact h.2.2 (k, v) List.mem_cons_self
  · refine h.2.2 (k, w) (List.mem_cons_of_mem _ (List.mem_filter.mpr ⟨mem_lz.mpr hk9, ?_⟩))
    simp only [Bool.and_eq_true, Bool.not_eq_true', beq_eq_false_iff_ne, ne_eq, Bool.and_eq_false_iff]
    refine ⟨hne, ?_⟩
    by_cases e : k + 1 = i
    · right
      subst e
      simp only [noL, hk9] at hn
      intro q
      rw [cat_isL] at q
      rw [q] at hn; cases hn
    · exact Or.inl e
theorem LOK.set2 {ls' : Array Slot} {nL : Nat} {L : Lo} {i : Nat} {v : Value} (h : lv_has ls' nL ((i, v) :: (lz L).filter (fun q => !(q.1 == i) && (!(q.1 == i + 1) && !(q.1 + 1 == i && q.2.category == 2))))) (hn : noL L i) : LOK ls' nL (lset (lset L i (some v)) (i + 1) none) := by
  refine ⟨h.1, h.2.1, fun k w hk => ?_⟩
  rcases lgo_set _ _ _ _ _ hk with ⟨rfl, e⟩ | ⟨hne2, hk⟩
  · cases e
  rcases lgo_set _ _ _ _ _ hk with ⟨rfl, e⟩ | ⟨hne, hk9⟩
  · cases e
    exact h.2.2 (k, v) List.mem_cons_self
  · refine h.2.2 (k, w) (List.mem_cons_of_mem _ (List.mem_filter.mpr ⟨mem_lz.mpr hk9, ?_⟩))
    simp only [Bool.and_eq_true, Bool.not_eq_true', beq_eq_false_iff_ne, ne_eq, Bool.and_eq_false_iff]
    refine ⟨hne, hne2, ?_⟩
    by_cases e : k + 1 = i
    · right
      subst e
      simp only [noL, hk9] at hn
      intro q
      rw [cat_isL] at q
      rw [q] at hn; cases hn
    · exact Or.inl e
theorem lgo_app : ∀ (A B : Lo) (k : Nat) (v : Value), lgo (A ++ B) k = some v → lgo A k = some v ∨ (A.length ≤ k ∧ lgo B (k - A.length) = some v)
  | [], B, k, v, h => Or.inr ⟨Nat.zero_le _, by simpa using h⟩
  | o :: A, B, 0, v, h => Or.inl h
  | o :: A, B, k + 1, v, h => by
    rcases lgo_app A B k v h with q | ⟨q1, q2⟩
    · exact Or.inl q
    · exact Or.inr ⟨by simp; omega, by simpa using q2⟩
theorem lgo_rep : ∀ (n k : Nat) (v : Value), ¬ lgo (List.replicate n none) k = some v
  | 0, k, v, h => by cases h
  | n + 1, 0, v, h => by cases h
  | n + 1, k + 1, v, h => lgo_rep n k v h
theorem entL_args : ∀ (vs : List Value) (i k : Nat) (v : Value), lgo (entL vs) k = some v → (i + k, v) ∈ lv_args i vs
  | [], i, k, v, h => by cases h
  | w :: vs, i, 0, v, h => by
    cases h
    exact List.mem_cons_self
  | w :: vs, i, k + 1, v, h => by
    unfold lv_args
    apply List.mem_cons_of_mem
    unfold entL at h
    by_cases hw : isL w = true
    · rw [if_pos hw] at h
      rw [if_pos ((cat_isL w).mpr hw)]
      match k, h with
      | 0, h => cases h
      | k + 1, h =>
        have := entL_args vs (i + 2) k v h
        rwa [show i + 2 + k = i + (k + 1 + 1) by omega] at this
    · rw [if_neg hw] at h
      rw [if_neg (fun q => hw ((cat_isL w).mp q))]
      have := entL_args vs (i + 1) k v h
      rwa [show i + 1 + k = i + (k + 1) by omega] at this
theorem entL_len (vs : List Value) : (lg_sl vs).length = (entL vs).length := by
  induction vs with
  | nil => rfl
  | cons v vs ih =>
    have e : lg_sl (v :: vs) = (if v.category = 2 then [.val v, .second] else [.val v]) ++ lg_sl vs := by simp [lg_sl]
    rw [e, entL]
    by_cases hv : isL v = true
    · simp [hv, (cat_isL v).mpr hv, ih]
    · have : ¬ v.category = 2 := fun q => hv ((cat_isL v).mp q)
      simp [hv, this, ih]
theorem LOK.entry {vs : List Value} {n : Nat} (h : (entL vs).length ≤ n) : LOK ((lg_sl vs ++ List.replicate (n - (lg_sl vs).length) Slot.unset).toArray) n (ent vs n) := by
  have h1 := lv_entry vs (n := n) (by rw [entL_len]; exact h)
  refine ⟨h1.1, h1.2.1, fun k v hk => ?_⟩
  rcases lgo_app _ _ _ _ hk with q | ⟨-, q⟩
  · have := entL_args vs 0 k v q
    rw [Nat.zero_add] at this
    exact h1.2.2 (k, v) this
  · exact absurd q (lgo_rep _ _ _)
theorem popI_s {S : List Value} {k : Int32 → List Value → Res} {r} (h : popI S k = some r) : ∃ x T, S = .int x :: T ∧ k x T = some r := by
  unfold popI at h; split at h
  · exact ⟨_, _, rfl, h⟩
  · cases h
theorem popJ_s {S : List Value} {k : Int64 → List Value → Res} {r} (h : popJ S k = some r) : ∃ x T, S = .long x :: T ∧ k x T = some r := by
  unfold popJ at h; split at h
  · exact ⟨_, _, rfl, h⟩
  · cases h
theorem popA_s {S : List Value} {k : Nat → List Value → Res} {r} (h : popA S k = some r) : ∃ x T, S = .ref x :: T ∧ k x T = some r := by
  unfold popA at h; split at h
  · exact ⟨_, _, rfl, h⟩
  · cases h
theorem popR_s {S : List Value} {k : Option Nat → List Value → Res} {r} (h : popR S k = some r) : ∃ x T, S = va_rf x :: T ∧ k x T = some r := by
  unfold popR at h; split at h
  · split at h
    · rename_i hr
      exact ⟨_, _, by rw [rOf_s hr], h⟩
    · cases h
  · cases h
theorem ldI_s {o : Option Value} {k : Int32 → Res} {r} (h : ldI o k = some r) : ∃ x, o = some (.int x) ∧ k x = some r := by
  unfold ldI at h; split at h
  · exact ⟨_, rfl, h⟩
  · cases h
theorem ldJ_s {o : Option Value} {k : Int64 → Res} {r} (h : ldJ o k = some r) : ∃ x, o = some (.long x) ∧ k x = some r := by
  unfold ldJ at h; split at h
  · exact ⟨_, rfl, h⟩
  · cases h
theorem ldR_s {o : Option Value} {k : Option Nat → Res} {r} (h : ldR o k = some r) : ∃ x, o = some (va_rf x) ∧ k x = some r := by
  unfold ldR at h; split at h
  · split at h
    · rename_i hr
      exact ⟨_, by rw [rOf_s hr], h⟩
    · cases h
  · cases h
