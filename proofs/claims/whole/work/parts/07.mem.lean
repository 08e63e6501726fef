/-! the machine's rows for fields, arrays and new cells, over a memory -/
def Std (E : Fix) (p : Program) (s : State) (m : MethodId) (args : Array Value) (meth : Method) (c : Code) (j : Nat) : Prop :=
  p.tables.exec = Jvm.exec ∧ c.code = cd j ∧ meth.sig.returnType = mrt j ∧ c.maxLocals = mxL j ∧ s.vm.findClass (ownN (ow j)) = some m.cls ∧ (∀ w ∈ lwG, w.before args s = true) ∧ know E s ∧ frz E s s.heap ∧ fb E ≤ s.heap.size ∧ meth.locks = false ∧ (isIni j = true → meth.name = "<init>")
def WA (E : Fix) (p : Program) (l : Launch) (e : Env) (R : Room) (s : State) (m : MethodId) (args : Array Value) (below : List Frame) (meth : Method) (c : Code) (nL : Nat) (Q : State → Prop) : Kt := fun pc L S G z cl sl =>
  ∀ (H : Heap) (locs : List Loc) (ls : Array Slot), H.size = z → holdP E G H → lnk E G → va_S (fA E) s.heap H locs → LOK ls nL L → W p l e R s m args below meth c H locs cl sl Q (F0 m pc ls S)
section Snd
variable {E : Fix} {p : Program} {l : Launch} {e : Env} {R : Room} {s : State} {m : MethodId} {args : Array Value} {below : List Frame} {meth : Method} {c : Code} {Q : State → Prop} {j : Nat} {H : Heap} {locs : List Loc} {cells slots : Nat} {pc : Nat} {ls : Array Slot} {T : List Value} {G : Mem}
theorem g_get (X : Std E p s m args meth c j) {i ci k a : Nat} (hd : decode (cd j) pc = .ok (.getfield i, 3)) (hf : fr (ow j) i = some (ci, k)) (hc : ci < 9) (hk : k < nF ci) (ha : mK G a = ci) (hh : holdP E G H)
    (kk : W p l e R s m args below meth c H locs cells slots Q (F0 m (pc + 3) ls (fv G ci a k :: T))) : W p l e R s m args below meth c H locs cells slots Q (F0 m pc ls (.ref a :: T)) := by
  obtain ⟨hx, hb, hr, hml, hown, hts, hkn, hfz, hfb, hlk, hin⟩ := X
  subst ha
  obtain ⟨-, cell, q1, q2, q3, q4⟩ := (hh a).1 hc
  obtain ⟨hS, hfc, kC, hkC, hkind⟩ := hkn.1.1 (mK G a) _ (vwCl_at _ hc)
  obtain ⟨cf, kf, fi, f, hi, hsl⟩ := hS k hk
  refine W.getf hx hb hown (hts _ (fr_word hf hc)) hi (u_facts hfc hkC (u_lays hts (lays_in hc) hk) hi).1 q1 (by rw [q3]; exact fun h => by cases h) (v := fv G (mK G a) a k) ?_ rfl rfl hd kk
  rw [hsl, q4 k hk]
theorem g_put (X : Std E p s m args meth c j) {i ci k a : Nat} {v : Value} (hd : decode (cd j) pc = .ok (.putfield i, 3)) (hf : fr (ow j) i = some (ci, k)) (hc : ci < 9) (hk : k < nF ci) (hfn : fnl j ci k = true) (ha : mK G a = ci) (hn : narrow (tyC ci k) v = v) (hfit : fits (tyC ci k) v = true) (hh : holdP E G H) (hSS : va_S (fA E) s.heap H locs)
    (kk : ∀ (H' : Heap) (locs' : List Loc), t_OB a ((fD E).1 ci) (nF ci) ((fD E).2 ci) H' (updV (fv G ci a) k v) → H'.size = H.size → (∀ q, q ≠ a → H'[q]? = H[q]?) → va_S (fA E) s.heap H' locs' → W p l e R s m args below meth c H' locs' cells slots Q (F0 m (pc + 3) ls T)) :
    W p l e R s m args below meth c H locs cells slots Q (F0 m pc ls (v :: .ref a :: T)) := by
  obtain ⟨hx, hb, hr, hml, hown, hts, hkn, hfz, hfb, hlk, hin⟩ := X
  subst ha
  obtain ⟨haA, cell, q1, q2, q3, q4⟩ := (hh a).1 hc
  have hap := va_apart (own := ownN (ow j)) hts (lays_in hc) (tyC (mK G a)) (fun k hk => (ty_at hc hk).1) (nmD_at hc) hkn.1 (vwCl_at _ hc)
  obtain ⟨hS, hfc, kC, hkC, hkind⟩ := hkn.1.1 (mK G a) _ (vwCl_at _ hc)
  obtain ⟨cf, kf, fi, f, hi, hsl⟩ := hS k hk
  have hst := (u_facts hfc hkC (u_lays hts (lays_in hc) hk) hi).1
  have hlink := hts _ (fr_word hf hc)
  have fin : ∀ H' : Heap, H'[a]? = some (cell.setSlot f.slot v) → H'.size = H.size → (∀ q, q ≠ a → H'[q]? = H[q]?) → W p l e R s m args below meth c H' (locs ++ [⟨a, f.slot⟩]) cells slots Q (F0 m (pc + 3) ls T) := by
    intro H' e1 e2 e3
    refine kk H' _ ⟨_, e1, q2, q3, ?_⟩ e2 e3 (hSS.put e2 e3 haA)
    rw [hsl]
    exact t_set q4 hap hk v
  by_cases hfin : (cT (mK G a) k).2.2.2 = true
  · have hlay := hts _ (lays_in hc _ (u_in_lay hk))
    unfold u_lay at hlay
    rw [if_pos hfin] at hlay
    have hfn2 : isIni j = true ∧ ow j = mK G a := by
      unfold fnl at hfn
      rw [hfin] at hfn
      simpa using hfn
    have hcf : m.cls = cf := by
      obtain ⟨_, _, c', _, _, _, -, -, hf', -, -, -, hown2, -⟩ := Cond.laysFinal_spec hlay
      have e1 : c' = cf := by have := hi.symm.trans hf'; simp at this; exact this.1.symm
      rw [(ty_at hc hk).2.1, ← hfn2.2] at hown2
      rw [← e1]; exact Option.some.inj (hown.symm.trans hown2)
    have h6 := u_fits hfc hkC hkind (Or.inr hlay) hi (ty_at hc hk).1 hn hfit
    exact W.putFinK hx hb hown hlink hi hst hcf (hin hfn2.1) (by rw [q2]; exact h6) q1 q3 (by rw [hsl]; exact k2_hasslot (q4 k hk)) rfl rfl hd fin
  · have hlay := hts _ (lays_in hc _ (u_in_lay hk))
    unfold u_lay at hlay
    rw [if_neg hfin] at hlay
    have h6 := u_store hfc hkC hkind hlay hi (ty_at hc hk).1 hn hfit
    exact W.putK hx hb (f := f) ⟨hown, hlink, ⟨_, _, _, hi⟩, hst⟩ (by rw [q2]; exact h6) q1 q3 (by rw [hsl]; exact k2_hasslot (q4 k hk)) rfl rfl hd fin
/-- arrays: what the tables say of their classes -/
theorem k_ar (X : Std E p s m args meth c j) : (ArrOfT s (fcy E 20) .int ∧ va_RA s (fcy E 20) .int) ∧ (ArrOfT s (fcy E 21) .byte ∧ va_RA s (fcy E 21) .byte) ∧ (ArrOfT s (fcy E 22) .boolean ∧ va_RA s (fcy E 22) .boolean) ∧ (ArrOfT s (fcy E 23) (.object RX4) ∧ va_RA s (fcy E 23) (.object RX4)) ∧ (ArrOfT s (fcy E 24) (.object RX6) ∧ va_RA s (fcy E 24) (.object RX6)) := by
  have h := X.2.2.2.2.2.2.1.1.2
  exact ⟨h 0 _ rfl, h 1 _ rfl, h 2 _ rfl, h 3 _ rfl, h 4 _ rfl⟩
theorem vp_lt {i : Int32} {n : Nat} (h : vp_in i n) : i.toNatClampNeg < n := Nat.not_le.mp fun q => h (Or.inr q)
theorem av_i {a : Nat} (h : mK G a < 23) : av G a = fun i => .int (mE G a i) := by
  funext i; simp only [av, if_pos h]
theorem av_q {a : Nat} (h : ¬ mK G a < 23) : av G a = fun i => va_rf (mQ G a i) := by
  funext i; simp only [av, if_neg h]
theorem g_iald (X : Std E p s m args meth c j) {a : Nat} {i : Int32} (hd : decode (cd j) pc = .ok (.iaload, 1)) (ha : mK G a = 20) (hin : vp_in i (mN G a)) (hh : holdP E G H)
    (kk : W p l e R s m args below meth c H locs cells slots Q (F0 m (pc + 1) ls (.int (mE G a i.toNatClampNeg) :: T))) : W p l e R s m args below meth c H locs cells slots Q (F0 m pc ls (.int i :: .ref a :: T)) := by
  have hka := (k_ar X).1
  obtain ⟨-, hc⟩ := (hh a).2 (by omega) (by omega)
  rw [av_i (by omega), ha] at hc
  exact W.iald (v := .int (mE G a i.toNatClampNeg)) X.1 X.2.1 hc (hka.1 _ _) (fun q => by cases q) (by rw [arrV_size]; exact hin) (by rw [arrV_read _ _ (vp_lt hin)]) rfl rfl hd kk
theorem g_bald (X : Std E p s m args meth c j) {a : Nat} {i : Int32} (hd : decode (cd j) pc = .ok (.baload, 1)) (ha : mK G a = 21 ∨ mK G a = 22) (hin : vp_in i (mN G a)) (hh : holdP E G H)
    (kk : W p l e R s m args below meth c H locs cells slots Q (F0 m (pc + 1) ls (.int (mE G a i.toNatClampNeg) :: T))) : W p l e R s m args below meth c H locs cells slots Q (F0 m pc ls (.int i :: .ref a :: T)) := by
  obtain ⟨-, hc⟩ := (hh a).2 (by omega) (by omega)
  rw [av_i (by omega)] at hc
  rcases ha with ha | ha
  · rw [ha] at hc
    exact W.bald (v := .int (mE G a i.toNatClampNeg)) X.1 X.2.1 hc ((k_ar X).2.1.1 _ _) (fun q => by cases q) (by rw [arrV_size]; exact hin) (by rw [arrV_read _ _ (vp_lt hin)]) rfl rfl hd kk
  · rw [ha] at hc
    exact W.zald (v := .int (mE G a i.toNatClampNeg)) X.1 X.2.1 hc ((k_ar X).2.2.1.1 _ _) (fun q => by cases q) (by rw [arrV_size]; exact hin) (by rw [arrV_read _ _ (vp_lt hin)]) rfl rfl hd kk
theorem g_aald (X : Std E p s m args meth c j) {a : Nat} {i : Int32} (hd : decode (cd j) pc = .ok (.aaload, 1)) (ha : mK G a = 23 ∨ mK G a = 24) (hin : vp_in i (mN G a)) (hh : holdP E G H)
    (kk : W p l e R s m args below meth c H locs cells slots Q (F0 m (pc + 1) ls (va_rf (mQ G a i.toNatClampNeg) :: T))) : W p l e R s m args below meth c H locs cells slots Q (F0 m pc ls (.int i :: .ref a :: T)) := by
  obtain ⟨-, hc⟩ := (hh a).2 (by omega) (by omega)
  rw [av_q (by omega)] at hc
  rcases ha with ha | ha
  · rw [ha] at hc
    exact W.aald (v := va_rf (mQ G a i.toNatClampNeg)) (ty := .object RX4) X.1 X.2.1 hc ((k_ar X).2.2.2.1.1 _ _) rfl (fun q => by cases q) (by rw [arrV_size]; exact hin) (by rw [arrV_read _ _ (vp_lt hin)]) rfl rfl hd kk
  · rw [ha] at hc
    exact W.aald (v := va_rf (mQ G a i.toNatClampNeg)) (ty := .object RX6) X.1 X.2.1 hc ((k_ar X).2.2.2.2.1 _ _) rfl (fun q => by cases q) (by rw [arrV_size]; exact hin) (by rw [arrV_read _ _ (vp_lt hin)]) rfl rfl hd kk
theorem g_alen (X : Std E p s m args meth c j) {a : Nat} (hd : decode (cd j) pc = .ok (.arraylength, 1)) (ha : 20 ≤ mK G a ∧ mK G a ≤ 24) (hh : holdP E G H)
    (kk : W p l e R s m args below meth c H locs cells slots Q (F0 m (pc + 1) ls (.int (Int32.ofNat (mN G a)) :: T))) : W p l e R s m args below meth c H locs cells slots Q (F0 m pc ls (.ref a :: T)) := by
  obtain ⟨-, hc⟩ := (hh a).2 ha.1 ha.2
  have hty : ∃ ty, ArrOfT s (fcy E (mK G a)) ty := by
    obtain ⟨h0, h1, h2, h3, h4⟩ := k_ar X
    rcases (show mK G a = 20 ∨ mK G a = 21 ∨ mK G a = 22 ∨ mK G a = 23 ∨ mK G a = 24 by omega) with q | q | q | q | q <;> rw [q]
    · exact ⟨_, h0.1⟩
    · exact ⟨_, h1.1⟩
    · exact ⟨_, h2.1⟩
    · exact ⟨_, h3.1⟩
    · exact ⟨_, h4.1⟩
  obtain ⟨ty, hty⟩ := hty
  exact W.alen X.1 X.2.1 hc (hty _ _) (by rw [arrV_size]) rfl rfl hd kk
theorem g_iast (X : Std E p s m args meth c j) {a : Nat} {i x : Int32} (hd : decode (cd j) pc = .ok (.iastore, 1)) (ha : mK G a = 20) (hin : vp_in i (mN G a)) (hh : holdP E G H) (hSS : va_S (fA E) s.heap H locs)
    (kk : ∀ (H' : Heap) (locs' : List Loc), holdP E (pE G a i.toNatClampNeg x) H' → H'.size = H.size → va_S (fA E) s.heap H' locs' → W p l e R s m args below meth c H' locs' cells slots Q (F0 m (pc + 1) ls T)) :
    W p l e R s m args below meth c H locs cells slots Q (F0 m pc ls (.int x :: .int i :: .ref a :: T)) := by
  obtain ⟨haA, hc⟩ := (hh a).2 (by omega) (by omega)
  have hc0 := hc
  rw [av_i (by omega)] at hc
  have hc2 := hc
  rw [ha] at hc2
  refine W.iast X.1 X.2.1 hc2 ((k_ar X).1.1 _ _) (fun q => by cases q) (by rw [arrV_size]; exact hin) rfl rfl hd fun H' e1 e2 e3 => ?_
  refine kk H' _ (hh.upd (a := a) (fun _ => rfl) (fun _ => rfl) (fun _ _ _ _ => rfl) (fun _ _ _ _ => rfl) (fun b hb k => ?_) (fun _ _ _ => rfl) e3 ⟨fun q => absurd q (by omega), fun _ _ => ⟨haA, ?_⟩⟩) e2 (hSS.put e2 e3 haA)
  · simp only [memS, hb, false_and, if_false]
  · rw [e1, ha, arrV_store]
    congr 2
    funext q
    have hk : mK (pE G a i.toNatClampNeg x) a < 23 := by simp only [memS]; omega
    rw [av_i hk]
    by_cases hq : q = i.toNatClampNeg
    · subst hq; simp [updV, memS]
    · simp [updV, memS, hq]
theorem g_bast (X : Std E p s m args meth c j) {a : Nat} {i x : Int32} (hd : decode (cd j) pc = .ok (.bastore, 1)) (ha : mK G a = 21 ∨ mK G a = 22) (hin : vp_in i (mN G a)) (hh : holdP E G H) (hSS : va_S (fA E) s.heap H locs)
    (kk : ∀ (H' : Heap) (locs' : List Loc), holdP E (pE G a i.toNatClampNeg (if mK G a = 22 then x &&& 1 else x.toInt8.toInt32)) H' → H'.size = H.size → va_S (fA E) s.heap H' locs' → W p l e R s m args below meth c H' locs' cells slots Q (F0 m (pc + 1) ls T)) :
    W p l e R s m args below meth c H locs cells slots Q (F0 m pc ls (.int x :: .int i :: .ref a :: T)) := by
  obtain ⟨haA, hc⟩ := (hh a).2 (by omega) (by omega)
  rw [av_i (by omega)] at hc
  have fin : ∀ (v : Int32) (H' : Heap), H'[a]? = some ((arrV (fcy E (mK G a)) (mN G a) (fun i => .int (mE G a i))).setSlot i.toNatClampNeg (.int v)) → H'.size = H.size → (∀ q, q ≠ a → H'[q]? = H[q]?) → holdP E (pE G a i.toNatClampNeg v) H' := by
    intro v H' e1 e2 e3
    refine hh.upd (a := a) (fun _ => rfl) (fun _ => rfl) (fun _ _ _ _ => rfl) (fun _ _ _ _ => rfl) (fun b hb k => ?_) (fun _ _ _ => rfl) e3 ⟨fun q => absurd q (by omega), fun _ _ => ⟨haA, ?_⟩⟩
    · simp only [memS, hb, false_and, if_false]
    · rw [e1, arrV_store]
      congr 2
      funext q
      have hk : mK (pE G a i.toNatClampNeg v) a < 23 := by simp only [memS]; omega
      rw [av_i hk]
      by_cases hq : q = i.toNatClampNeg
      · subst hq; simp [updV, memS]
      · simp [updV, memS, hq]
  rcases ha with ha | ha
  · have hc2 := hc
    rw [ha] at hc2
    rw [if_neg (by omega)] at kk
    refine W.bast X.1 X.2.1 hc2 ((k_ar X).2.1.1 _ _) (fun q => by cases q) (by rw [arrV_size]; exact hin) rfl rfl hd fun H' e1 e2 e3 => ?_
    exact kk H' _ (fin _ H' (by rw [ha]; exact e1) e2 e3) e2 (hSS.put e2 e3 haA)
  · have hc2 := hc
    rw [ha] at hc2
    rw [if_pos ha] at kk
    refine W.zast X.1 X.2.1 hc2 ((k_ar X).2.2.1.1 _ _) (fun q => by cases q) (by rw [arrV_size]; exact hin) rfl rfl hd fun H' e1 e2 e3 => ?_
    exact kk H' _ (fin _ H' (by rw [ha]; exact e1) e2 e3) e2 (hSS.put e2 e3 haA)
theorem g_aast (X : Std E p s m args meth c j) {a : Nat} {i : Int32} {r : Option Nat} (hd : decode (cd j) pc = .ok (.aastore, 1)) (ha : (mK G a = 23 ∧ ∀ b, r = some b → mK G b = 4) ∨ (mK G a = 24 ∧ ∀ b, r = some b → mK G b = 6)) (hin : vp_in i (mN G a)) (hh : holdP E G H) (hSS : va_S (fA E) s.heap H locs)
    (kk : ∀ (H' : Heap) (locs' : List Loc), holdP E (pQ G a i.toNatClampNeg r) H' → H'.size = H.size → va_S (fA E) s.heap H' locs' → W p l e R s m args below meth c H' locs' cells slots Q (F0 m (pc + 1) ls T)) :
    W p l e R s m args below meth c H locs cells slots Q (F0 m pc ls (va_rf r :: .int i :: .ref a :: T)) := by
  have hk : 23 ≤ mK G a ∧ mK G a ≤ 24 := by omega
  obtain ⟨haA, hc⟩ := (hh a).2 (by omega) (by omega)
  rw [av_q (by omega)] at hc
  have fin : ∀ (H' : Heap), H'[a]? = some ((arrV (fcy E (mK G a)) (mN G a) (fun i => va_rf (mQ G a i))).setSlot i.toNatClampNeg (va_rf r)) → H'.size = H.size → (∀ q, q ≠ a → H'[q]? = H[q]?) → holdP E (pQ G a i.toNatClampNeg r) H' := by
    intro H' e1 e2 e3
    refine hh.upd (a := a) (fun _ => rfl) (fun _ => rfl) (fun _ _ _ _ => rfl) (fun _ _ _ _ => rfl) (fun _ _ _ => rfl) (fun b hb k => ?_) e3 ⟨fun q => absurd q (by omega), fun _ _ => ⟨haA, ?_⟩⟩
    · simp only [memS, hb, false_and, if_false]
    · rw [e1, arrV_store]
      congr 2
      funext q
      have hk : ¬ mK (pQ G a i.toNatClampNeg r) a < 23 := by simp only [memS]; omega
      rw [av_q hk]
      by_cases hq : q = i.toNatClampNeg
      · subst hq; simp [updV, memS]
      · simp [updV, memS, hq]
  have key : ∀ (C : String) (ci : Nat), ci < 9 → C = ownN ci → ArrOfT s (fcy E (mK G a)) (.object C) → va_RA s (fcy E (mK G a)) (.object C) → (∀ b, r = some b → mK G b = ci) → W p l e R s m args below meth c H locs cells slots Q (F0 m pc ls (va_rf r :: .int i :: .ref a :: T)) := by
    intro C ci hci hC h1 h2 h3
    cases r with
    | none =>
      refine va_WaastN (C := C) X.1 X.2.1 hc (h1 _ _) (fun h => by cases h) (by rw [arrV_size]; exact hin) rfl rfl hd fun H1 e z oq => ?_
      exact kk H1 _ (fin H1 e z oq) z (hSS.put z oq haA)
    | some v =>
      have hv := h3 v rfl
      obtain ⟨kA, comp, k1, k2, k3, -⟩ := h2
      obtain ⟨-, cellV, g1, g2, g3, -⟩ := (hh v).1 (by omega)
      have hcls := (X.2.2.2.2.2.2.1.1.1 ci _ (vwCl_at ci hci)).2
      have hcomp : comp = (fD E).1 ci := by rw [hC] at k3; exact Option.some.inj (k3.symm.trans hcls.1)
      subst hcomp
      obtain ⟨kC, hkC, -⟩ := hcls.2
      rw [hv] at g2
      refine W.aast X.1 X.2.1 hc (fun q h => by cases h) (fun h => by cases h) k1 k2 rfl hkC ⟨fun q => hin (Or.inl q), by rw [arrV_size]; exact vp_lt hin⟩ g1 (fun q h => by rw [g3] at h; cases h) (by rw [g2]; exact hkC) (by rw [g2]; exact va_assign hcls) rfl rfl hd fun H1 e z oq => ?_
      exact kk H1 _ (fin H1 e z oq) z (hSS.put z oq haA)
  obtain ⟨-, -, -, h3, h4⟩ := k_ar X
  rcases ha with ⟨ha, hb⟩ | ⟨ha, hb⟩
  · exact key RX4 4 (by omega) rfl (by rw [ha]; exact h3.1) (by rw [ha]; exact h3.2) hb
  · exact key RX6 6 (by omega) rfl (by rw [ha]; exact h4.1) (by rw [ha]; exact h4.2) hb
theorem va_S.grow {A : Nat → Prop} {H0 H H' : Heap} {locs : List Loc} (h : va_S A H0 H locs) (z : H'.size = H.size + 1) (o : ∀ q, q < H.size → H'[q]? = H[q]?) : va_S A H0 H' locs :=
  ⟨by rw [z]; exact Nat.le_succ_of_le h.1, fun q h1 h2 => (o q (Nat.lt_of_lt_of_le h1 h.1)).trans (h.2.1 q h1 h2), h.2.2⟩
theorem g_new (X : Std E p s m args meth c j) {i ci : Nat} (hd : decode (cd j) pc = .ok (.new i, 3)) (hf : cr (ow j) i = some ci) (hh : holdP E G H) (hSS : va_S (fA E) s.heap H locs) (hcells : cells + 1 ≤ R.cells) (hslots : slots + nF ci ≤ R.slots)
    (kk : ∀ (H' : Heap), holdP E (nO G H.size ci) H' → H'.size = H.size + 1 → va_S (fA E) s.heap H' locs → W p l e R s m args below meth c H' locs (cells + 1) (slots + nF ci) Q (F0 m (pc + 3) ls (.ref H.size :: T))) :
    W p l e R s m args below meth c H locs cells slots Q (F0 m pc ls T) := by
  obtain ⟨hcl, hc⟩ := cr_at hf
  obtain ⟨hx, hb, hr, hml, hown, hts, hkn, hfz, hfb, hlk, hin⟩ := X
  have hKn := hkn.1.1 ci _ (vwCl_at ci hc)
  refine W.newcK hx hb hown (hts _ hcl) (hts _ (ins_at hc).1) (hts _ (ins_at hc).2) rfl hd hcells hslots hKn.2.1 rfl fun H1 kC hkC e1 z1 o1 => ?_
  have hbo := u_born (tyC ci) hts (lays_in hc) hKn hkC e1 (fun k hk => (ty_at hc hk).1)
  refine kk H1 (hh.new (a := H.size) rfl (fun b hb => ?_) (fun _ _ => rfl) (fun b hb _ _ => ?_) (fun b hb _ _ => ?_) (fun _ _ _ => rfl) (fun _ _ _ => rfl) o1 ⟨fun q => ?_, fun q => ?_⟩) z1 (hSS.grow z1 o1)
  · simp only [memS, hb, if_false]
  · simp only [memS, hb, if_false]
  · simp only [memS, hb, if_false]
  · have hk : mK (nO G H.size ci) H.size = ci := by simp only [memS, if_true]
    rw [hk]
    refine ⟨Nat.le_trans hfb hSS.1, hbo.to fun k hk2 => ?_⟩
    rw [(ty_at hc hk2).2.2]
    simp only [fv, memS, if_true]
    rfl
  · have hk : mK (nO G H.size ci) H.size = ci := by simp only [memS, if_true]
    rw [hk] at q
    omega
theorem g_newA (X : Std E p s m args meth c j) {kd N : Nat} {cA : ClassId} {H1 : Heap} (hk : 20 ≤ kd ∧ kd ≤ 24) (hcA : cA = fcy E kd) (hh : holdP E G H) (hSS : va_S (fA E) s.heap H locs) (e1 : H1[H.size]? = some (arrV cA N (fun _ => if kd < 23 then .int 0 else .null))) (o1 : ∀ q, q < H.size → H1[q]? = H[q]?) : holdP E (nA G H.size kd N) H1 := by
  have hk0 : mK (nA G H.size kd N) H.size = kd := by simp only [memS, if_true]
  have hfb := X.2.2.2.2.2.2.2.2.1
  refine hh.new (a := H.size) rfl (fun b hb => ?_) (fun b hb => ?_) (fun _ _ _ _ => rfl) (fun _ _ _ _ => rfl) (fun b hb _ => ?_) (fun b hb _ => ?_) o1 ⟨fun q => ?_, fun q1 q2 => ⟨Nat.le_trans hfb hSS.1, ?_⟩⟩
  · simp only [memS, hb, if_false]
  · simp only [memS, hb, if_false]
  · simp only [memS, hb, if_false]
  · simp only [memS, hb, if_false]
  · rw [hk0] at q; omega
  · rw [hk0, e1, hcA]
    have hN : mN (nA G H.size kd N) H.size = N := by simp only [memS, if_true]
    rw [hN]
    congr 2
    funext q
    simp only [av, hk0, memS, if_true]
    rfl
end Snd
