/-! THE START: the memory with which the law begins; the claim's walk out of a run of the abstract machine -/
def tmS (i : Nat) : Term := Term.string RX3 (sIx.getD i 0)
set_option maxRecDepth 100000 in
theorem str_nar : ((List.range 10).all fun i => decide (Cond.exactly (tmS i) "java/lang/String" ∈ flatC (Jvm.Cond.and given_1 narrow_1)) && decide (Cond.eq (.field (tmS i) "java/lang/String" "coder" "B") (.int 0) ∈ flatC (Jvm.Cond.and given_1 narrow_1)) && decide (Cond.arrayOf (.field (tmS i) "java/lang/String" "value" "[B") .byte ∈ flatC (Jvm.Cond.and given_1 narrow_1))
    && decide (Cond.eq (.length (.field (tmS i) "java/lang/String" "value" "[B")) (.int (Int32.ofNat (sLen.getD i 0))) ∈ flatC (Jvm.Cond.and given_1 narrow_1)) && ((List.range (sLen.getD i 0)).all fun k => decide (Cond.eq (.elem (.field (tmS i) "java/lang/String" "value" "[B") (.int (Int32.ofNat k))) (.int ((sBy.getD i []).getD k 0)) ∈ flatC (Jvm.Cond.and given_1 narrow_1)))
    && ((List.range 10).all fun k => decide (i = k) || decide (Cond.not (Cond.eq (tmS i) (tmS k)) ∈ flatC (Jvm.Cond.and given_1 narrow_1)) || decide (Cond.not (Cond.eq (tmS k) (tmS i)) ∈ flatC (Jvm.Cond.and given_1 narrow_1)))) = true := by decide +kernel
set_option maxRecDepth 100000 in
theorem str_tbl : ((List.range 10).all fun i => decide (Cond.stringRef RX3 (sIx.getD i 0) (sTx.getD i "") ∈ lw_tbl)) = true := by decide +kernel
set_option maxRecDepth 100000 in
theorem sta_tbl : Cond.laysStatic "java/lang/String" "COMPACT_STRINGS" "Z" ∈ lw_tbl ∧ Cond.initialized "java/lang/String" ∈ lw_tbl ∧ Cond.laysStatic "jdk/internal/util/Preconditions" "SIOOBE_FORMATTER" "Ljava/util/function/BiFunction;" ∈ lw_tbl ∧ Cond.initialized "jdk/internal/util/Preconditions" ∈ lw_tbl ∧ Cond.arrayOver (.object RX4) ∈ lw_tbl ∧ Cond.arrayOver (.object RX6) ∈ lw_tbl := by
  refine ⟨?_, ?_, ?_, ?_, ?_, ?_⟩ <;> decide +kernel
set_option maxRecDepth 100000 in
theorem sta_nar : Cond.eq (.static "java/lang/String" "COMPACT_STRINGS" "Z") (.int 1) ∈ flatC (Jvm.Cond.and given_1 narrow_1) ∧ Cond.isRef (.static "jdk/internal/util/Preconditions" "SIOOBE_FORMATTER" "Ljava/util/function/BiFunction;") ∈ flatC (Jvm.Cond.and given_1 narrow_1) := by
  refine ⟨?_, ?_⟩ <;> decide +kernel
theorem getD_out {l : List Int32} {q : Nat} (h : l.length ≤ q) : l.getD q 0 = 0 := by
  rw [List.getD_eq_getElem?_getD, List.getElem?_eq_none h]; rfl
def ixOf (f : Nat → Nat) (a : Nat) : Option Nat := (List.range 10).find? (fun i => f i == a)
theorem ixOf_s {f : Nat → Nat} {a i : Nat} (h : ixOf f a = some i) : i < 10 ∧ f i = a := by
  have h1 := List.mem_of_find?_eq_some h
  have h2 := List.find?_some h
  exact ⟨List.mem_range.mp h1, by simpa using h2⟩
theorem ixOf_e {f : Nat → Nat} {i : Nat} (h : i < 10) : ∃ k, ixOf f (f i) = some k ∧ k < 10 ∧ f k = f i := by
  cases hq : ixOf f (f i) with
  | none =>
    have := List.find?_eq_none.mp hq i (List.mem_range.mpr h)
    simp at this
  | some k => exact ⟨k, rfl, ixOf_s hq⟩
def G0 (b L : Nat) (xs : Nat → Int32) (kS vS : Nat → Nat) (sio : Option Nat) : Mem :=
  ((fun a => if a = b then 25 else if (ixOf vS a).isSome = true then 26 else 99),
   (fun c k a => if c = 33 ∧ k = 0 ∧ (ixOf kS a).isSome = true then 1 else 0),
   (fun c k a => if c = 30 then (ixOf kS a).map vS else if c = 31 then (if k < 10 then some (kS k) else none) else if c = 32 then sio else none),
   (fun a => if a = b then L else sLen.getD ((ixOf vS a).getD 0) 0),
   (fun a k => if a = b then xs k else (sBy.getD ((ixOf vS a).getD 0) []).getD k 0),
   (fun _ _ => none))
/-- the texts stand in the memory -/
def StrOK (G : Mem) (z : Nat) : Prop := ∀ i, i < 10 → ∃ a v, mR G 31 i 0 = some a ∧ a < z ∧ v < z ∧ mI G 33 0 a = 1 ∧ mI G 30 1 a = 0 ∧ mR G 30 0 a = some v ∧ mK G v = 26 ∧ mN G v = sLen.getD i 0 ∧ ∀ k, mE G v k = (sBy.getD i []).getD k 0
/-- what is left to show: a run of the abstract machine -/
def PureGoal : Prop := ∀ (G : Mem) (z b L : Nat) (xs : Nat → Int32), L ≤ 3072 → mK G b = 25 → mN G b = L → (∀ i, mE G b i = xs i) → b < z → StrOK G z → (∀ a, mK G a ≠ 99 → a < z) → WP 12 137 (fun r _ _ => r = some (.int 1)) 0 [some (.ref b), none, none, none] [] G z 0 0
set_option maxRecDepth 100000 in
set_option maxHeartbeats 4000000 in
theorem start_of (hpure : PureGoal) {p : Program} {e : Env} {s : State} {m : MethodId} {below : List Frame} {meth : Method} {c : Code} (l : Launch) {b L : Nat} {xs : Nat → Int32} (hL : L ≤ 3072) (hx : p.tables.exec = Jvm.exec) (hb : c.code = cd 137) (hr : meth.sig.returnType = mrt 137) (hml : c.maxLocals = mxL 137) (hown : s.vm.findClass (ownN (ow 137)) = some m.cls)
    (hts : ∀ w ∈ lw_tbl, w.before #[Value.ref b] s = true) (hX : va_X b L xs s s.heap) (hbl : b < s.heap.size) (hlocks : meth.locks = false) (hgv : (Jvm.Cond.and given_1 narrow_1).before #[Value.ref b] s = true) {Q : State → Prop}
    (hend : ∀ (pc : Nat) (H : Heap) (locs : List Loc) (ls : Array Slot) (cl sl : Nat), decode (cd 137) pc = .ok (.ireturn, 1) → cl ≤ mcq 137 → sl ≤ msq 137 → (∀ q ∈ locs, s.heap.size ≤ q.base) → W p l e room_1 s m #[Value.ref b] below meth c H locs cl sl Q (F0 m pc ls [.int 1])) :
    W p l e room_1 s m #[Value.ref b] below meth c s.heap [] 0 0 Q (entryFrame m ([Value.ref b] : List Value).toArray 4) := by
  have hflat := flat_of_before _ hgv
  have htg : ∀ w ∈ lwG, w.before #[Value.ref b] s = true := fun w hw => hts w (List.mem_filter.mp hw).1
  -- classes
  have hcls : ∀ ci : Nat, ∃ q : ClassId × (Nat → Nat), ci < 9 → u_Kn s (ownN ci) (cT ci) (nF ci) q.1 q.2 := by
    intro ci
    by_cases hci : ci < 9
    · obtain ⟨cC, iS, h⟩ := u_known (C := ownN ci) (T := cT ci) (N := nF ci) (n := nF ci) htg (lays_in hci) (htg _ (ins_at hci).1)
      exact ⟨(cC, iS), fun _ => h⟩
    · exact ⟨(0, fun _ => 0), fun h => absurd h hci⟩
  obtain ⟨dd, hdd⟩ := Classical.axiomOfChoice hcls
  -- arrays
  have harr : ∀ (ty : FieldType), Cond.arrayClass ty ∈ lwG → (∀ nm, ty ≠ .object nm) → ∃ cA, ArrOfT s cA ty ∧ va_RA s cA ty := by
    intro ty hw hno
    obtain ⟨cA, kA, comp, h1, h2, h3⟩ := Cond.arrayClass_spec (htg _ hw)
    refine ⟨cA, fun N z => ⟨(fun k h => by cases h), kA, h2, comp, h3⟩, ?_⟩
    unfold va_RA
    split
    · exact absurd rfl (hno _)
    · exact h1
  have hobj : ∀ (C : String), Cond.arrayOver (.object C) ∈ lw_tbl → ∃ cA, ArrOfT s cA (.object C) ∧ va_RA s cA (.object C) := by
    intro C hw
    obtain ⟨comp, cA, kA, h1, h2, h3, h4, h5⟩ := Cond.arrayOver_spec (hts _ hw)
    exact ⟨cA, fun N z => ⟨(fun k h => by cases h), kA, h3, comp, h4⟩, kA, comp, h3, h4, h1, h5⟩
  obtain ⟨c20, a20⟩ := harr .int arr_ok.1 (fun _ q => by cases q)
  obtain ⟨c21, a21⟩ := harr .byte arr_ok.2.1 (fun _ q => by cases q)
  obtain ⟨c22, a22⟩ := harr .boolean arr_ok.2.2 (fun _ q => by cases q)
  obtain ⟨c23, a23⟩ := hobj RX4 sta_tbl.2.2.2.2.1
  obtain ⟨c24, a24⟩ := hobj RX6 sta_tbl.2.2.2.2.2
  -- texts
  have hA : ∀ a : Nat, a < s.heap.size → ¬ (fun q : Nat => s.heap.size ≤ q) a := fun a h => Nat.not_le.mpr h
  have hsn : ∀ i, i < 10 → _ := fun i hi => List.all_eq_true.mp str_nar i (List.mem_range.mpr hi)
  simp only [Bool.and_eq_true, decide_eq_true_eq, List.all_eq_true, List.mem_range, Bool.or_eq_true] at hsn
  obtain ⟨kS, vS, hvS, hkS⟩ := vk_Sof (args := #[Value.ref b]) (s := s) (N := 10) (tm := tmS) (len := sLen) (byt := sBy) (A := fun q : Nat => s.heap.size ≤ q) (by decide) (fun i hi => hflat _ (hsn i hi).1.1.1.1.1) (fun i hi => hflat _ (hsn i hi).1.1.1.1.2) (fun i hi => hflat _ (hsn i hi).1.1.1.2) (fun i hi => hflat _ (hsn i hi).1.1.2)
    (fun i hi k hk => hflat _ ((hsn i hi).1.2 k hk)) (fun i k hi hk hne => by
      rcases (hsn i hi).2 k hk with (q | q) | q
      · exact absurd q hne
      · exact Or.inl (hflat _ q)
      · exact Or.inr (hflat _ q)) hA
  have hst := fun i hi => List.all_eq_true.mp str_tbl i (List.mem_range.mpr hi)
  simp only [decide_eq_true_eq] at hst
  -- statics
  have hZ1 := va_Zof (A := fun q : Nat => s.heap.size ≤ q) (hts _ sta_tbl.1) (hts _ sta_tbl.2.1) (va_eqi (hflat _ sta_nar.1)) hA
  obtain ⟨v2, hv2, hr2⟩ := Cond.isRef_spec (hflat _ sta_nar.2)
  obtain ⟨sio, rfl⟩ : ∃ r, v2 = va_rf r := by
    cases v2 with
    | null => exact ⟨none, rfl⟩
    | ref a => exact ⟨some a, rfl⟩
    | _ => cases hr2
  have hZ2 := va_Zof (A := fun q : Nat => s.heap.size ≤ q) (hts _ sta_tbl.2.2.1) (hts _ sta_tbl.2.2.2.1) hv2 hA
  -- the fixed things
  generalize hE : (((fun ci => (dd ci).1, fun ci => (dd ci).2), (fun k => if k = 20 then c20 else if k = 21 then c21 else if k = 22 then c22 else if k = 23 then c23 else c24), s.heap.size, kS, vS, sio, b, L, xs) : Fix) = E
  have hEb : fb E = s.heap.size := by rw [← hE]; rfl
  have hEA : fA E = fun q : Nat => s.heap.size ≤ q := by funext q; unfold fA; rw [hEb]
  have hknow : know E s := by
    refine ⟨⟨fun k q hk => ?_, fun k q hk => ?_⟩, va_AO.of (hts _ sta_tbl.2.2.2.2.1), va_AO.of (hts _ sta_tbl.2.2.2.2.2), fun o i y hm => va_Nw.of rfl (hts _ hm), fun i hi => ?_⟩
    · have hk9 : k < 9 := (List.getElem?_eq_some_iff.mp hk).1
      rw [vwCl_at k hk9] at hk
      cases hk
      rw [← hE]
      exact hdd k hk9
    · rw [← hE] at hk
      match k, hk with
      | 0, hk => cases hk; exact a20
      | 1, hk => cases hk; exact a21
      | 2, hk => cases hk; exact a22
      | 3, hk => cases hk; exact a23
      | 4, hk => cases hk; exact a24
      | k + 5, hk => simp [tysOf] at hk
    · rw [← hE]
      exact vk_R.of (hts _ (hst i hi)) (hkS i hi)
  have hfrz : frz E s s.heap := by
    refine ⟨?_, ?_, ?_, ?_, ?_, ?_⟩ <;> rw [← hE]
    · exact hvS
    · exact hZ1
    · exact hZ2
    · exact hX
    · exact hbl
    · exact hbl
  have X : Std E p s m #[Value.ref b] meth c 137 := ⟨hx, hb, hr, hml, hown, htg, hknow, hfrz, by rw [hEb]; exact Nat.le_refl _, hlocks, fun q => absurd q (by decide)⟩
  -- the bytes of a text aren't the script
  have hvb : ∀ i, i < 10 → ¬ vS i = b := by
    intro i hi hq
    obtain ⟨cell, t1, t2, -⟩ := (hvS.1 i hi).2.2.2
    obtain ⟨scr, x1, x2, -⟩ := hX
    rw [hq, x1] at t1
    cases t1
    obtain ⟨-, k1, g1, comp1, g2⟩ := t2
    obtain ⟨-, k2, g3, comp2, g4⟩ := x2
    cases g1.symm.trans g3
    rw [g2] at g4
    cases g4
  have hsame : ∀ i k, i < 10 → k < 10 → vS i = vS k → sLen.getD i 0 = sLen.getD k 0 ∧ ∀ q, (sBy.getD i []).getD q 0 = (sBy.getD k []).getD q 0 := by
    intro i k hi hk hq
    obtain ⟨cell, t1, -, -, t4, t5, t6, -⟩ := (hvS.1 i hi).2.2.2
    obtain ⟨cell2, u1, -, -, u4, u5, u6, -⟩ := (hvS.1 k hk).2.2.2
    rw [hq, u1] at t1
    cases t1
    have hl8 : ∀ i, i < 10 → sLen.getD i 0 < 8 := by decide
    have hby : ∀ i, i < 10 → (sBy.getD i []).length = sLen.getD i 0 := by decide
    have e1 : sLen.getD i 0 = sLen.getD k 0 := by
      have h1 := hl8 i hi
      have h2 := hl8 k hk
      have h3 : Int32.ofNat (sLen.getD i 0) = Int32.ofNat (sLen.getD k 0) := t5.symm.trans u5
      exact (nI_eq (by omega) (by omega)).mp h3
    refine ⟨e1, fun q => ?_⟩
    by_cases hqq : q < sLen.getD i 0
    · have h1 := t6 q hqq
      have h2 := u6 q (by omega)
      rw [h1] at h2
      exact Value.int.inj (Option.some.inj h2)
    · rw [getD_out (by rw [hby i hi]; omega), getD_out (by rw [hby k hk]; omega)]
  generalize hG : G0 b L xs kS vS sio = G
  have hlnk : lnk E G := by
    rw [← hG, ← hE]
    refine ⟨fun a ha => ?_, fun a ha => ?_, fun a ha => ?_, fun i hi => ?_, rfl⟩
    · have hab : a = b := by
        by_cases hq : a = b
        · exact hq
        · simp only [mK, G0, if_neg hq] at ha
          split at ha <;> omega
      subst hab
      exact ⟨rfl, if_pos rfl, fun i => if_pos rfl⟩
    · have hq : (ixOf kS a).isSome = true := by
        simp only [mI, G0] at ha
        split at ha
        · rename_i hq; exact hq.2.2
        · exact absurd ha (by decide)
      obtain ⟨i, hi⟩ := Option.isSome_iff_exists.mp hq
      obtain ⟨h1, h2⟩ := ixOf_s hi
      refine ⟨i, h1, h2.symm, ?_, rfl⟩
      show (ixOf kS a).map vS = some (vS i)
      rw [hi]; rfl
    · have hab : ¬ a = b := fun hq => by simp only [mK, G0, if_pos hq] at ha; omega
      have hq : (ixOf vS a).isSome = true := by
        simp only [mK, G0, if_neg hab] at ha
        split at ha
        · assumption
        · omega
      obtain ⟨i, hi⟩ := Option.isSome_iff_exists.mp hq
      obtain ⟨h1, h2⟩ := ixOf_s hi
      refine ⟨i, h1, h2.symm, ?_, fun k => ?_⟩
      · simp only [mN, G0, if_neg hab, hi, Option.getD_some]
      · simp only [mE, G0, if_neg hab, hi, Option.getD_some]
    · show (if i < 10 then some (kS i) else none) = some (kS i)
      rw [if_pos hi]
  have hhold : holdP E G s.heap := by
    rw [← hG]
    intro a
    have hk : mK (G0 b L xs kS vS sio) a = 25 ∨ mK (G0 b L xs kS vS sio) a = 26 ∨ mK (G0 b L xs kS vS sio) a = 99 := by
      simp only [mK, G0]
      split
      · exact Or.inl rfl
      · split
        · exact Or.inr (Or.inl rfl)
        · exact Or.inr (Or.inr rfl)
    exact ⟨fun q => by omega, fun q1 q2 => by omega⟩
  have hstr : StrOK G s.heap.size := by
    rw [← hG]
    intro i hi
    obtain ⟨⟨cell1, o1, -⟩, -, -, ⟨cell2, o2, -⟩⟩ := hvS.1 i hi
    obtain ⟨k, k1, k2, k3⟩ := ixOf_e (f := kS) hi
    have hki : k = i := hvS.2 k i k2 hi k3
    subst hki
    obtain ⟨w, w1, w2, w3⟩ := ixOf_e (f := vS) hi
    have hse := hsame w k w2 hi w3
    refine ⟨kS k, vS k, if_pos hi, (Array.getElem?_eq_some_iff.mp o1).1, (Array.getElem?_eq_some_iff.mp o2).1, ?_, rfl, ?_, ?_, ?_, fun q => ?_⟩
    · simp only [mI, G0, k1, Option.isSome_some, and_self, if_true]
    · show (ixOf kS (kS k)).map vS = some (vS k)
      rw [k1]; rfl
    · simp only [mK, G0, if_neg (hvb k hi), w1, Option.isSome_some, if_true]
    · simp only [mN, G0, if_neg (hvb k hi), w1, Option.getD_some]
      exact hse.1
    · simp only [mE, G0, if_neg (hvb k hi), w1, Option.getD_some]
      exact hse.2 q
  have hbd : ∀ a, mK G a ≠ 99 → a < s.heap.size := by
    rw [← hG]
    intro a h
    by_cases e : a = b
    · rw [e]; exact hbl
    · cases hq : ixOf vS a with
      | none => exact absurd (by simp [mK, G0, e, hq]) h
      | some i =>
        obtain ⟨hi, hv⟩ := ixOf_s hq
        obtain ⟨-, -, -, ⟨cell2, o2, -⟩⟩ := hvS.1 i hi
        rw [← hv]
        exact (Array.getElem?_eq_some_iff.mp o2).1
  have hrun := hpure G s.heap.size b L xs hL (by rw [← hG]; exact if_pos rfl) (by rw [← hG]; exact if_pos rfl) (fun i => by rw [← hG]; exact if_pos rfl) hbl hstr hbd
  rw [lg_entry_eq]
  refine hrun (WA E p l e room_1 s m #[Value.ref b] below meth c (mxL 137) Q) ?_ s.heap [] _ rfl hhold hlnk va_S.rf (LOK.entry (vs := [Value.ref b]) (n := 4) (show 1 ≤ 4 by decide))
  intro pc Lo S G z cl sl hsem
  unfold isem at hsem
  split at hsem
  · rename_i il hd
    refine snd_step X (R := room_1) (d := 12) (by decide) (by decide) (by decide) (by decide) (MET E l 12) (fun _ _ _ _ _ _ _ q => q) ?_ hd hsem
    intro il v pc H locs ls G z cl sl hd ho hr hc hs hz hh hl hS
    subst hr
    rcases ho with ⟨rfl, ty, x, h1, h2, h3⟩ | ⟨-, h1, -⟩ | ⟨-, nm, r, h1, -⟩ | ⟨-, h1, -⟩
    · exact hend pc H locs ls cl sl hd hc hs (fun q hq => by have := hS.2.2 q hq; rw [hEA] at this; exact this)
    · cases h1
    · cases h1
    · cases h1
  · exact absurd hsem id
