/-! calls and returns on the machine; every method at every depth -/
def wsJ (j : Nat) : List Cond := Cond.code (my j) (cd j) (mxL j) (mrt j) :: lwG
def rmJ (d j : Nat) : Room := { frames := d, cells := mcq j, slots := msq j, locals := 36 * d }
def PreJ (E : Fix) (as : List Value) (G : Mem) (z : Nat) : Array Value → State → Prop := va_Pc as (fun U => U.heap.size = z ∧ fb E ≤ U.heap.size ∧ holdP E G U.heap ∧ lnk E G ∧ know E U ∧ frz E U U.heap)
def PostJ (E : Fix) (Q : Rt) : Array Value → State → Outcome → State → Prop := fun _ st o t => (∃ r G' z', o = .returned r ∧ Q r G' z' ∧ t.heap.size = z' ∧ holdP E G' t.heap ∧ lnk E G') ∧ va_F (fA E) st t
def MetJ (E : Fix) (l : Launch) (d j : Nat) (as : List Value) (G : Mem) (z : Nat) (Q : Rt) : Prop := Met l (my j) (wsJ j) (rmJ d j) (PreJ E as G z) (PostJ E Q) (mcq j) (msq j) (fA E)
theorem good_ws {j : Nat} (h : j < 137) : GoodIn lwG (wsJ j) := by
  intro w hw
  rcases List.mem_cons.mp hw with rfl | hw
  · exact ⟨code_in j h, good_of_word (List.mem_filter.mp (code_in j h)).2⟩
  · exact ⟨hw, good_of_word (List.mem_filter.mp hw).2⟩
def rOK (j : Nat) (il : Instr × Nat) (v : Option Value) : Prop :=
  (il = (.ireturn, 1) ∧ ∃ ty x, mrt j = some ty ∧ v = some (.int x) ∧ narrow ty (.int x) = .int x) ∨ (il = (.lreturn, 1) ∧ mrt j = some .long ∧ ∃ x, v = some (.long x)) ∨ (il = (.areturn, 1) ∧ ∃ nm r, mrt j = some (.object nm) ∧ v = some (va_rf r)) ∨ (il = (.return_, 1) ∧ mrt j = none ∧ v = none)
section Snd
variable {E : Fix} {p : Program} {l : Launch} {e : Env} {R : Room} {s : State} {m : MethodId} {args : Array Value} {below : List Frame} {meth : Method} {c : Code} {Q : State → Prop} {j : Nat}
theorem PreJ.blind {as : List Value} {G : Mem} {z : Nat} : FrameBlind (PreJ E as G z) := by
  intro a U g mk h
  obtain ⟨h1, h2, h3, h4, h5, h6, h7⟩ := h
  exact ⟨h1, h2, h3, h4, h5, know.warm (s := U) (U := U.calling g mk a) (State.WarmedH.refl U) h6, frz.moved (u := U) (U := U.calling g mk a) (Vm.Alike.refl U.vm) h7⟩
theorem PreJ.at {H : Heap} {locs : List Loc} {as : List Value} {G : Mem} {z : Nat} (X : Std E p s m args meth c j) (hz : H.size = z) (hh : holdP E G H) (hl : lnk E G) (hS : va_S (fA E) s.heap H locs) : ∀ U : State, U.heap = H → s.WarmedH U.vm → PreJ E as G z as.toArray U := by
  intro U hU hW
  have hfz := X.2.2.2.2.2.2.2.1
  refine ⟨rfl, by rw [hU]; exact hz, by rw [hU]; exact Nat.le_trans X.2.2.2.2.2.2.2.2.1 hS.1, by rw [hU]; exact hh, hl, know.warm hW X.2.2.2.2.2.2.1, ?_⟩
  rw [hU]
  exact frz.moved hW.alike (hfz.kept hS.1 hS.2.1)
theorem call_go {H : Heap} {locs : List Loc} {cells slots mc ms pc : Nat} {ls : Array Slot} {st0 rest : List Value} {a : Array Value} {Q' : Rt} (hr : va_Run p l e R s m args below meth c H locs cells slots mc ms (F0 m pc ls st0) rest (PostJ E Q' a) (fA E)) (hS : va_S (fA E) s.heap H locs)
    (kk : ∀ r G' z' (H1 : Heap) (locs1 : List Loc), Q' r G' z' → H1.size = z' → holdP E G' H1 → lnk E G' → va_S (fA E) s.heap H1 locs1 → W p l e R s m args below meth c H1 locs1 (cells + mc) (slots + ms) Q (F0 m (pc + 3) ls (r.toList ++ rest))) : W p l e R s m args below meth c H locs cells slots Q (F0 m pc ls st0) := by
  intro T hT X
  obtain ⟨v, st₀, t, T', L, h0, X', hL, e1, e2, ⟨⟨r, G', z', hv, hp, hsz, hh, hl⟩, hz, hk⟩, st⟩ := hr T hT X
  cases hv
  rw [h0] at hz hk
  obtain ⟨t2, a1, b1⟩ := kk v G' z' T'.heap (locs ++ L) hp (by rw [e1]; exact hsz) (by rw [e1]; exact hh) hl
    ⟨Nat.le_trans hS.1 (by rw [e1]; exact hz), fun q h1 h2 => by rw [e1, hk q (Nat.lt_of_lt_of_le h1 hS.1) h2]; exact hS.2.1 q h1 h2, fun q hq => by
      rcases List.mem_append.mp hq with h | h
      · exact hS.2.2 q h
      · exact hL q h⟩ T' rfl X'
  exact ⟨t2, st t2 a1, b1⟩
theorem cat_sum : ∀ (T : List Value), T.length ≤ 4 → (T.map fun v => v.category).sum ≤ 8 := by
  intro T hT
  have : ∀ (T : List Value), (T.map fun v => v.category).sum ≤ 2 * T.length := by
    intro T
    induction T with
    | nil => simp
    | cons v T ih =>
      have hv : v.category ≤ 2 := by cases v <;> simp [Value.category]
      simp only [List.map_cons, List.sum_cons, List.length_cons]
      omega
  have := this T
  omega
theorem callB_j (X : Std E p s m args meth c j) {d : Nat} (hRf : d + 1 ≤ R.frames) (hRl : 36 * (d + 1) ≤ R.locals) {i j2 : Nat} (hj : j2 < 137) (hl : Cond.methodLink (ownN (ow j)) i (my j2) ∈ lwG) (hi : Cond.initialized (my j2).cls ∈ lwG) :
    CallB R s args (ownN (ow j)) i (my j2) (cd j2) (mxL j2) (mrt j2) (wsJ j2) (rmJ d j2) (mcq j2) (msq j2) (npq j2) := by
  have hts := X.2.2.2.2.2.1
  have hn := nm_at hj
  exact callB_of (npq j2) hts (good_ws hj) rfl rfl rfl (hts _ hi) (hts _ hl) hn.2.1 ⟨hRf, by show 8 + (mxL j2 + 11) + 36 * d ≤ R.locals; have := hn.2.2.2.1; omega⟩
set_option maxHeartbeats 4000000 in
theorem snd_step (X : Std E p s m args meth c j) {d : Nat} (hRc : mcq j ≤ R.cells) (hRs : msq j ≤ R.slots) (hRf : d + 1 ≤ R.frames) (hRl : 36 * (d + 1) ≤ R.locals)
    (IH : ∀ j as G z Q, j < 137 → (entL as).length ≤ mxL j → CALL d j as G z Q → MetJ E l d j as G z Q) {K : Kt} (hK : ∀ pc L S G z cl sl, K pc L S G z cl sl → WA E p l e R s m args below meth c (mxL j) Q pc L S G z cl sl) {Rr : Rt}
    (hRet : ∀ (il : Instr × Nat) (v : Option Value) (pc : Nat) (H : Heap) (locs : List Loc) (ls : Array Slot) (G : Mem) (z cl sl : Nat), decode (cd j) pc = .ok il → rOK j il v → Rr v G z → cl ≤ mcq j → sl ≤ msq j → H.size = z → holdP E G H → lnk E G → va_S (fA E) s.heap H locs → W p l e R s m args below meth c H locs cl sl Q (F0 m pc ls v.toList))
    {il : Instr × Nat} {pc : Nat} {L : Lo} {S : List Value} {G : Mem} {z cl sl : Nat} (hd : decode (cd j) pc = .ok il) (h : istep (CALL d) j il pc L S G z cl sl K Rr) :
    WA E p l e R s m args below meth c (mxL j) Q pc L S G z cl sl := by
  have hx := X.1
  have hb := X.2.1
  have hml := X.2.2.2.1
  have hown := X.2.2.2.2.1
  have hts := X.2.2.2.2.2.1
  have hkn := X.2.2.2.2.2.2.1
  have hfz := X.2.2.2.2.2.2.2.1
  unfold istep at h
  split at h
  -- invokevirtual
  · split at h
    · rename_i i j2 hm
      split at h
      · rename_i b T hdr
        intro H locs ls hz hh hl hS hL
        obtain ⟨hk, ⟨hr4, hen⟩, hcc, hss, hcall⟩ := h
        obtain ⟨hj, w1, w2, w3, w4⟩ := mr_0 hm
        have hn := nm_at hj
        have hlen : npq j2 < S.length := by
          rcases Nat.lt_or_ge (npq j2) S.length with q | q
          · exact q
          · rw [List.drop_eq_nil_of_le q] at hdr; cases hdr
        have hst : S = ((S.take (npq j2)).reverse).reverse ++ .ref b :: T := by rw [List.reverse_reverse, ← hdr, List.take_append_drop]
        have hrec : ∃ cell : Cell, H[b]? = some cell ∧ cell.vm.isStatics = false ∧ s.vm.findClass (my j2).cls = some cell.cls := by
          rw [hn.2.2.1]
          unfold rcv at hk
          by_cases ho : ow j2 < 9
          · rw [if_pos ho] at hk
            obtain ⟨-, cell, g1, g2, g3, -⟩ := (hh b).1 (by omega)
            refine ⟨cell, g1, by rw [g3]; rfl, ?_⟩
            rw [g2, hk]
            exact (hkn.1.1 _ _ (vwCl_at _ ho)).2.1
          · rw [if_neg ho] at hk
            obtain ⟨q, q0, rfl, -⟩ := hl.2.1 b hk
            have := vk_recv hfz.1 q0 hS
            rw [← str_own hm ho]
            exact this
        refine call_go (va_runV (As := (S.take (npq j2)).reverse) (rest := T) (cc := cd j) (nL := mxL j) (Ts := lwG) ⟨hx, hb, hml, hown, hts⟩ (IH j2 _ G z _ hj hen hcall) ⟨callB_j X hRf hRl hj w1 w3, hts _ w2, hts _ w4⟩ ⟨PreJ.blind, hrec, PreJ.at X hz hh hl hS⟩ rfl (by simp; omega) hL.1 hst (lv_room (cat_sum T hr4)) hd ⟨Nat.le_trans hcc hRc, Nat.le_trans hss hRs⟩) hS fun r G' z' H1 locs1 q1 q2 q3 q4 q5 => hK _ _ _ _ _ _ _ q1 H1 locs1 ls q2 q3 q4 q5 hL
      · exact absurd h id
    · exact absurd h id
  -- invokestatic
  · split at h
    · rename_i i j2 hm
      intro H locs ls hz hh hl hS hL
      obtain ⟨hlen, ⟨hr4, hen⟩, hcc, hss, hcall⟩ := h
      obtain ⟨hj, w1, w2, w3⟩ := mr_1 hm
      have hst : S = ((S.take (npq j2)).reverse).reverse ++ S.drop (npq j2) := by rw [List.reverse_reverse, List.take_append_drop]
      refine call_go (va_runS (As := (S.take (npq j2)).reverse) (rest := S.drop (npq j2)) (cc := cd j) (nL := mxL j) (Ts := lwG) ⟨hx, hb, hml, hown, hts⟩ (IH j2 _ G z _ hj hen hcall) ⟨callB_j X hRf hRl hj w1 w3, hts _ w2⟩ ⟨PreJ.blind, PreJ.at X hz hh hl hS⟩ rfl (by simp; omega) hL.1 hst (lv_room (cat_sum _ hr4)) hd ⟨Nat.le_trans hcc hRc, Nat.le_trans hss hRs⟩) hS fun r G' z' H1 locs1 q1 q2 q3 q4 q5 => hK _ _ _ _ _ _ _ q1 H1 locs1 ls q2 q3 q4 q5 hL
    · rename_i i j2 hm
      intro H locs ls hz hh hl hS hL
      obtain ⟨hlen, ⟨hr4, hen⟩, hcc, hss, hcall⟩ := h
      obtain ⟨hj, w1, w2, w3⟩ := mr_3 hm
      have hn := nm_at hj
      have hst : S = ((S.take (npq j2)).reverse).reverse ++ S.drop (npq j2) := by rw [List.reverse_reverse, List.take_append_drop]
      refine call_go (va_runSN (As := (S.take (npq j2)).reverse) (rest := S.drop (npq j2)) (cc := cd j) (nL := mxL j) (Ts := lwG) ⟨hx, hb, hml, hown, hts⟩ (IH j2 _ G z _ hj hen hcall) ⟨va_cnB (npq j2) hts (good_ws hj) rfl rfl rfl (hkn.2.2.2.1 _ _ _ w1) (hts _ w3) hn.2.1 ⟨hRf, by show 8 + (mxL j2 + 11) + 36 * d ≤ R.locals; have := hn.2.2.2.1; omega⟩, hts _ w2, trivial⟩ ⟨PreJ.blind, PreJ.at X hz hh hl hS⟩ rfl (by simp; omega) hL.1 hst (lv_room (cat_sum _ hr4)) hd ⟨Nat.le_trans hcc hRc, Nat.le_trans hss hRs⟩) hS fun r G' z' H1 locs1 q1 q2 q3 q4 q5 => hK _ _ _ _ _ _ _ q1 H1 locs1 ls q2 q3 q4 q5 hL
    · rename_i hm
      split at h
      · intro H locs ls hz hh hl hS hL
        obtain ⟨h1, h2, h3, hc⟩ := h
        exact va_mmin hx hb (by rw [hml, hL.1]) hown (hts _ (mr_5 hm)) (hts _ math_ok.1.1) (hts _ math_ok.2.2) (hts _ math_ok.1.2) (by omega) (by have := cat_sum _ h1; omega) (by omega) (by omega) hd (hK _ _ _ _ _ _ _ hc H locs ls hz hh hl hS hL)
      · exact absurd h id
    · rename_i hm
      split at h
      · intro H locs ls hz hh hl hS hL
        obtain ⟨h1, h2, h3, hc⟩ := h
        exact va_mabs hx hb (by rw [hml, hL.1]) hown (hts _ (mr_6 hm)) (hts _ math_ok.2.1.1) (hts _ math_ok.2.2) (hts _ math_ok.2.1.2) (by omega) (by have := cat_sum _ h1; omega) (by omega) (by omega) hd (hK _ _ _ _ _ _ _ hc H locs ls hz hh hl hS hL)
      · exact absurd h id
    · exact absurd h id
  -- invokespecial
  · split at h
    · rename_i i j2 hm
      split at h
      · rename_i b T hdr
        intro H locs ls hz hh hl hS hL
        obtain ⟨⟨hr4, hen⟩, hcc, hss, hcall⟩ := h
        obtain ⟨hj, w1, w2, w3, w4, w5⟩ := mr_2 hm
        have hlen : npq j2 < S.length := by
          rcases Nat.lt_or_ge (npq j2) S.length with q | q
          · exact q
          · rw [List.drop_eq_nil_of_le q] at hdr; cases hdr
        have hst : S = ((S.take (npq j2)).reverse).reverse ++ .ref b :: T := by rw [List.reverse_reverse, ← hdr, List.take_append_drop]
        have hB := callB_j X hRf hRl hj w1 w3
        rw [w5] at hB
        refine call_go (va_runI (As := (S.take (npq j2)).reverse) (rest := T) (cc := cd j) (nL := mxL j) (Ts := lwG) ⟨hx, hb, hml, hown, hts⟩ (IH j2 _ G z _ hj hen hcall) ⟨hB, w4, hts _ w2⟩ ⟨PreJ.blind, PreJ.at X hz hh hl hS⟩ rfl (by simp; omega) hL.1 hst (lv_room (cat_sum T hr4)) hd ⟨Nat.le_trans hcc hRc, Nat.le_trans hss hRs⟩) hS fun r G' z' H1 locs1 q1 q2 q3 q4 q5 => hK _ _ _ _ _ _ _ q1 H1 locs1 ls q2 q3 q4 q5 hL
      · exact absurd h id
    · rename_i hm
      split at h
      · intro H locs ls hz hh hl hS hL
        obtain ⟨h1, hc⟩ := h
        refine W.objInit hx hb hown (hts _ (mr_4 hm)) (hts _ obj_ok.1) (hts _ obj_ok.2) rfl (by rw [hml]; exact hL.1) rfl hd (by omega) ?_ (hK _ _ _ _ _ _ _ hc H locs ls hz hh hl hS hL)
        have := lv_room (m := m) (pc := pc) (ls := ls) (rest := []) (cat_sum _ h1)
        show 2 * (F0 m pc ls _).monitorRoom + _ + 12 ≤ R.locals
        have e0 : ∀ st, (F0 m pc ls st).monitorRoom = (F0 m pc ls []).monitorRoom := fun _ => rfl
        rw [e0]
        omega
      · exact absurd h id
    · exact absurd h id
  -- returns
  · split at h
    · rename_i ty v hty
      intro H locs ls hz hh hl hS hL
      exact hRet _ (some (.int v)) pc H locs ls G z cl sl hd (Or.inl ⟨rfl, ty, v, hty, rfl, h.1⟩) h.2.2.2 h.2.1 h.2.2.1 hz hh hl hS
    · exact absurd h id
  · split at h
    · rename_i v hty
      intro H locs ls hz hh hl hS hL
      exact hRet _ (some (.long v)) pc H locs ls G z cl sl hd (Or.inr (Or.inl ⟨rfl, hty, v, rfl⟩)) h.2.2 h.1 h.2.1 hz hh hl hS
    · exact absurd h id
  · split at h
    · rename_i nm v hty
      intro H locs ls hz hh hl hS hL
      obtain ⟨r, hr⟩ := Option.isSome_iff_exists.mp h.1
      have hv := rOf_s hr
      subst hv
      exact hRet _ (some (va_rf r)) pc H locs ls G z cl sl hd (Or.inr (Or.inr (Or.inl ⟨rfl, nm, r, hty, rfl⟩))) h.2.2.2 h.2.1 h.2.2.1 hz hh hl hS
    · exact absurd h id
  · split at h
    · rename_i hty
      intro H locs ls hz hh hl hS hL
      exact hRet _ none pc H locs ls G z cl sl hd (Or.inr (Or.inr (Or.inr ⟨rfl, hty, rfl⟩))) h.2.2 h.1 h.2.1 hz hh hl hS
    · exact absurd h id
  · split at h
    · rename_i hn
      exact snd_next X hRc hRs hK hd hn h
    · exact absurd h id
end Snd
/-- EVERY METHOD: what the abstract machine says of a call, the machine does -/
theorem MET (E : Fix) (l : Launch) : ∀ d j as G z Q, j < 137 → (entL as).length ≤ mxL j → CALL d j as G z Q → MetJ E l d j as G z Q
  | 0 => fun _ _ _ _ _ _ _ h => absurd h id
  | d + 1 => by
    intro j as G z Qr hj hen h
    refine Met.ofW (cc := cd j) (maxL := mxL j) (ret := mrt j) (nm_at hj).1 rfl ?_
    intro p e s m args below meth c s₁ B hml hv
    obtain ⟨rfl, hz, hb0, hh, hl, hkn, hfz⟩ := hv
    have hts : ∀ w ∈ lwG, w.before as.toArray s = true := fun w hw => atoms_spec (ws := wsJ j) B.pre w (List.mem_cons_of_mem _ hw)
    have hown : s.vm.findClass (ownN (ow j)) = some m.cls := by rw [← (nm_at hj).2.2.1]; exact findClass_of_methodNamed B.named
    have hlocks := B.notSynchronized
    have X : Std E p s m as.toArray meth c j := ⟨B.exec, B.bytes, B.returns, hml, hown, hts, hkn, hfz, hb0, hlocks, fun q => (name_of_methodNamed B.named B.method).1.trans ((nm_at hj).2.2.2.2 q)⟩
    rw [lg_entry_eq]
    refine h (WA E p l e (headSpec (wsJ j) (rmJ (d + 1) j)).room s m as.toArray below meth c (mxL j) (MQ below (PostJ E Qr) as.toArray s (mcq j) (msq j) (fA E))) ?_ s.heap [] _ hz hh hl va_S.rf (LOK.entry hen)
    intro pc L S G z cl sl hsem
    unfold isem at hsem
    split at hsem
    · rename_i il hd
      refine snd_step X (R := (headSpec (wsJ j) (rmJ (d + 1) j)).room) (Nat.le_refl _) (Nat.le_refl _) (Nat.le_refl _) (Nat.le_refl _) (MET E l d) (fun _ _ _ _ _ _ _ q => q) ?_ hd hsem
      intro il v pc H locs ls G z cl sl hd ho hr hc hs hz hh hl hS
      have hq : ∀ t : State, t.heap = H → s.WarmedH t.vm → PostJ E Qr as.toArray s (.returned v) t := fun t ht _ => ⟨⟨v, G, z, rfl, hr, by rw [ht]; exact hz, by rw [ht]; exact hh, hl⟩, hS.F ht⟩
      refine W.widen (k := mcq j) (n := msq j) hc hs ?_
      rcases ho with ⟨rfl, ty, x, h1, rfl, h3⟩ | ⟨rfl, h1, x, rfl⟩ | ⟨rfl, nm, r, h1, rfl⟩ | ⟨rfl, h1, rfl⟩
      · exact W.zret B.exec B.bytes (B.returns.trans h1) h3 hq hS.2.2 hd
      · exact W.lret B.exec B.bytes (B.returns.trans h1) hq hS.2.2 hd
      · exact W.aret B.exec B.bytes (B.returns.trans h1) (Or.inl ⟨nm, rfl⟩) (va_rf_or r) hq hS.2.2 hd
      · exact W.vret B.exec B.bytes (B.returns.trans h1) hq hS.2.2 hd
    · exact absurd hsem id
