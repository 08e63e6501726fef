/-! THE CALLS of the document, as functions on the state; what a call of the class leaves alone -/
def opWeeks (S : St) (n : Int32) : St × Int32 := if 1 ≤ n ∧ n < nI (60 - sN S 0) then (uN S 0 (sN S 0 + n.toNatClampNeg), nI (sN S 0 + n.toNatClampNeg)) else (S, -1)
def nwT (S : St) (mi ki fu li dr : Int32) : St := uN (uI (uI (uI (uI (uI S 0 (sN S 1) mi) 1 (sN S 1) ki) 5 (sN S 1) fu) 2 (sN S 1) li) 3 (sN S 1) dr) 1 (sN S 1 + 1)
def okT (mi ki fu li dr : Int32) : Prop := (3 ≤ mi ∧ mi ≤ 20) ∧ (0 ≤ ki ∧ ki ≤ 3) ∧ ¬ (¬ fu = 0 ∧ ki = 3) ∧ (0 ≤ li ∧ li ≤ 9) ∧ (0 ≤ dr ∧ dr ≤ 99)
def opTurn (S : St) (mi ki fu li dr : Int32) : St × Int32 := if (((3 ≤ mi ∧ mi ≤ 20) ∧ (0 ≤ ki ∧ ki ≤ 3) ∧ ¬ (¬ fu = 0 ∧ ki = 3) ∧ (0 ≤ li ∧ li ≤ 9) ∧ (0 ≤ dr ∧ dr ≤ 99)) ∧ sN S 1 < 40) then (nwT S mi ki fu li dr, nI (sN S 1)) else (S, -1)
def nwH (S : St) (mi se lo : Int32) : St := uN (uI (uI (uI S 6 (sN S 2) mi) 7 (sN S 2) se) 8 (sN S 2) lo) 2 (sN S 2 + 1)
def opHall (S : St) (mi se lo : Int32) : St × Int32 := if ((0 ≤ mi ∧ mi ≤ 300) ∧ (1 ≤ se ∧ se ≤ 1000) ∧ (20 ≤ lo ∧ lo ≤ 120)) ∧ sN S 2 < 10 then (nwH S mi se lo, nI (sN S 2)) else (S, -1)
/-- the byte of a number at a shift -/
def byt (v : Int32) (k : Nat) : Int32 := (v >>> (nI k &&& 31)).toInt8.toInt32
def put4 (S : St) (v : Int32) : St := uN (uT (uT (uT (uT S (sN S 5) (byt v 24)) (sN S 5 + 1) (byt v 16)) (sN S 5 + 2) (byt v 8)) (sN S 5 + 3) (byt v 0)) 5 (sN S 5 + 4)
def opFeed (S : St) (a b c d e : Int32) : St × Int32 := if sN S 5 ≤ 580 then (put4 (put4 (put4 (put4 (put4 S a) b) c) d) e, nI (sN S 5 + 20)) else (S, -1)
def wkO (v : Int32) : Option Nat := ix v 60
/-- a week that is open -/
def opO (S : St) (v : Int32) : Option Nat := match ix v 60 with
  | none => none
  | some w => if sN S 0 ≤ w then some w else none
def opForce (S : St) (t w k : Int32) : Int32 := match ix t (sN S 1), ix w 60, ix k 60 with
  | some t, some w, some k => pInt (frc S t w k)
  | _, _, _ => -1
def opWhy (S : St) (t h w : Int32) : Int32 := match ix t (sN S 1), ix h (sN S 2), opO S w with
  | some t, some h, some w => whyS S t h w
  | _, _, _ => 1
def opBook (S : St) (t h w : Int32) : St × Int32 := match ix t (sN S 1), ix h (sN S 2), opO S w with
  | some t, some h, some w => if whyS S t h w = 0 ∧ sN S 4 < 400 then (bk S t w h, nI (bl (bk S t w h) h w).length) else (S, -1)
  | _, _, _ => (S, -1)
def opCancel (S : St) (t w : Int32) : St × Int32 := match ix t (sN S 1), opO S w with
  | some t, some w => if (sP S t w).isSome = true then (tk S t w, 1) else (S, 0)
  | _, _ => (S, 0)
def opWhere (S : St) (t w : Int32) : Int32 := match ix t (sN S 1), ix w 60 with
  | some t, some w => pInt (sP S t w)
  | _, _ => -1
def opBill (S : St) (h w wh : Int32) : Int32 := match ix h (sN S 2), ix w 60 with
  | some h, some w => if wh = 0 then nI (bl S h w).length else if wh = 1 then sumL (sI S 0) (bl S h w) else if wh = 2 then sI S 7 h * (if 40 + sumL (dwS S) (bl S h w) < 100 then 40 + sumL (dwS S) (bl S h w) else 100) / 100
      else if wh = 3 then sumL (pyS S w (sN S 0)) (bl S h w) else if wh = 4 then sumL (tpS S) (bl S h w) else if wh < 10 then -1 else match (ix (wh - 10) (bl S h w).length).bind fun k => (bl S h w)[k]? with | none => -1 | some t => nI t
  | _, _ => -1
def opFail (S : St) (t w : Int32) : St × Int32 := match ix t (sN S 1), opO S w with
  | some t, some w => match sP S t w with
    | none => (S, -2)
    | some h => match bestF (uI (tk S t w) 4 t (sI S 4 t + 1)) h w (some t) (sN S 1) with
      | none => (uI (tk S t w) 4 t (sI S 4 t + 1), -1)
      | some b => (bk (uI (tk S t w) 4 t (sI S 4 t + 1)) b w h, nI b)
  | _, _ => (S, -2)
/-- filling a bill, with at most f more -/
def fillF (h w n : Nat) : Nat → St → St
  | 0, S => S
  | f + 1, S => if (bl S h w).length < n ∧ sN S 4 < 400 then (match bestF S h w none (sN S 1) with
    | none => S
    | some b => fillF h w n f (bk S b w h)) else S
def opFill (S : St) (h w n : Int32) : St × Int32 := match ix h (sN S 2), opO S w, ix n 10 with
  | some h, some w, some n => (fillF h w n 10 S, nI (bl (fillF h w n 10 S) h w).length)
  | _, _, _ => (S, -1)
def opPay (S : St) (t w k : Int32) : Int32 := match ix t (sN S 1), ix w 60, ix k 60 with
  | some t, some w, some k => if (sP S t w).isSome = true then pyS S w k t else 0
  | _, _, _ => 0
def opTurnOf (S : St) (t wh : Int32) : Int32 := match ix t (sN S 1) with
  | none => -1
  | some t => if wh = 0 then sI S 0 t else if wh = 1 then sI S 1 t else if wh = 2 then sI S 5 t else if wh = 3 then sI S 2 t else if wh = 4 then sI S 3 t else if wh = 5 then nI (cntW S t 60) else if wh = 6 then sI S 4 t else -1
def opCount (S : St) (wh : Int32) : Int32 := if wh = 0 then nI (sN S 0) else if wh = 1 then nI (sN S 1) else if wh = 2 then nI (sN S 2) else if wh = 3 then nI (sN S 3) else if wh = 4 then nI (sN S 4) else if wh = 5 then nI (sN S 5) else -1
/-- all cells that are known lie below z -/
def Bd (G : Mem) (z : Nat) : Prop := ∀ a, mK G a ≠ 99 → a < z
/-- what a call of the class leaves alone -/
def FO (x z : Nat) (G G' : Mem) : Prop := (∀ a, a < z → mK G' a = mK G a ∧ mN G' a = mN G a) ∧ (∀ c k a, a < z → 8 ≤ c → mI G' c k a = mI G c k a ∧ mR G' c k a = mR G c k a) ∧ ∀ a i, a < z → (x + 12 ≤ a ∧ a ≤ x + 35) ∨ mK G a = 25 ∨ mK G a = 26 → mE G' a i = mE G a i
def FX (x z : Nat) (G G' : Mem) : Prop := FO x z G G' ∧ (Bd G z → Bd G' z)
theorem FO.rf {x z : Nat} {G : Mem} : FO x z G G := ⟨fun _ _ => ⟨rfl, rfl⟩, fun _ _ _ _ _ => ⟨rfl, rfl⟩, fun _ _ _ _ => rfl⟩
theorem FO.tr {x z z1 : Nat} {G G1 G2 : Mem} (hz : z ≤ z1) (h : FO x z G G1) (h2 : FO x z1 G1 G2) : FO x z G G2 :=
  ⟨fun a ha => ⟨(h2.1 a (by omega)).1.trans (h.1 a ha).1, (h2.1 a (by omega)).2.trans (h.1 a ha).2⟩, fun c k a ha hc => ⟨(h2.2.1 c k a (by omega) hc).1.trans (h.2.1 c k a ha hc).1, (h2.2.1 c k a (by omega) hc).2.trans (h.2.1 c k a ha hc).2⟩,
   fun a i ha hq => (h2.2.2 a i (by omega) (by rw [(h.1 a ha).1]; exact hq)).trans (h.2.2 a i ha hq)⟩
theorem FX.rf {x z : Nat} {G : Mem} : FX x z G G := ⟨FO.rf, fun h => h⟩
theorem FX.tr {x z : Nat} {G G1 G2 : Mem} (hz : z ≤ z) (h : FX x z G G1) (h2 : FX x z G1 G2) : FX x z G G2 := ⟨FO.tr hz h.1 h2.1, fun q => h2.2 (h.2 q)⟩
theorem SX.fx {x z : Nat} {G G' : Mem} (hs : XS G x) (h : SX x G G') : FX x z G G' := by
  refine ⟨⟨fun a _ => ⟨h.1 a, h.2.1 a⟩, fun c k a _ hc => ⟨h.2.2.1 c k a (by omega), h.2.2.2.1 c k a⟩, fun a i _ hq => h.2.2.2.2.1 a i fun q => ?_⟩, fun q a => by rw [h.1]; exact q a⟩
  have : a = x + 7 ∨ a = x + 8 ∨ a = x + 9 ∨ a = x + 10 ∨ a = x + 11 := by omega
  rcases this with e | e | e | e | e <;> subst e <;> simp only [hs] at hq <;> omega
theorem pbG_fx {x z a w : Nat} {r : Option Nat} {b n : Int32} {G : Mem} : FX x z G (pbG G x a w r b n) := by
  refine ⟨⟨fun _ _ => ⟨rfl, rfl⟩, fun c k a' _ hc => ⟨?_, rfl⟩, fun _ _ _ _ => rfl⟩, fun q => q⟩
  simp only [pbG, memS, show ¬ c = 7 by omega, show ¬ c = 6 by omega, false_and, if_false]
/-- a switch that goes to t -/
def tswB (pc : Nat) (dflt lo hi : Int) (offs : Array Int) (x : Int32) (t : Nat) : Bool := (decide (x.toInt < lo) || decide (hi < x.toInt) || (offs[(x.toInt - lo).toNat]?).isSome) && decide (0 ≤ (pc : Int) + tsw pc dflt lo hi offs x) && decide (jto pc (tsw pc dflt lo hi offs x) = t)
theorem tsw_go {d j : Nat} {R : Rt} {pc : Nat} {L : Lo} {T : List Value} {G : Mem} {z c s : Nat} {dflt lo hi : Int} {offs : Array Int} {x : Int32} (t : Nat) (h : tswB pc dflt lo hi offs x t = true) : (tswok lo hi offs x ∧ jok pc (tsw pc dflt lo hi offs x) ∧ WP d j R (jto pc (tsw pc dflt lo hi offs x)) L T G z c s) = WP d j R t L T G z c s := by
  simp only [tswB, Bool.and_eq_true, Bool.or_eq_true, decide_eq_true_eq] at h
  obtain ⟨⟨h1, h2⟩, h3⟩ := h
  rw [h3]
  have e1 : tswok lo hi offs x := by
    unfold tswok
    rcases h1 with (h1 | h1) | h1
    · exact Or.inl h1
    · exact Or.inr (Or.inl h1)
    · exact Or.inr (Or.inr h1)
  have e2 : jok pc (tsw pc dflt lo hi offs x) := h2
  simp only [e1, e2, true_and]
theorem tsw_out {d j : Nat} {R : Rt} {pc : Nat} {L : Lo} {T : List Value} {G : Mem} {z c s : Nat} {dflt lo hi : Int} {offs : Array Int} {x : Int32} (t : Nat) (h : x.toInt < lo ∨ hi < x.toInt) (ht : (pc : Int) + dflt = t) : (tswok lo hi offs x ∧ jok pc (tsw pc dflt lo hi offs x) ∧ WP d j R (jto pc (tsw pc dflt lo hi offs x)) L T G z c s) = WP d j R t L T G z c s := by
  have e0 : tsw pc dflt lo hi offs x = dflt := by unfold tsw; rw [if_pos h]
  have e1 : tswok lo hi offs x := by
    unfold tswok
    rcases h with h | h
    · exact Or.inl h
    · exact Or.inr (Or.inl h)
  rw [e0, (jto_t ht).1]
  simp only [e1, (jto_t ht).2, true_and]
/-- a number is one of the first n, or outside -/
theorem lit_cases (x : Int32) {n : Nat} (hn : n < 2 ^ 31) : (∃ k, k < n ∧ x = nI k) ∨ x.toInt < 0 ∨ (n : Int) ≤ x.toInt := by
  by_cases h : 0 ≤ x ∧ x < nI n
  · exact Or.inl (n_rng' hn h.1 h.2)
  · refine Or.inr ?_
    rw [i_le, i_lt, nI_toInt hn] at h
    have e3 : (0 : Int32).toInt = 0 := by decide
    omega
theorem lit_ne {x : Int32} {n k : Nat} (h : x.toInt < 0 ∨ (n : Int) ≤ x.toInt) (hk : k < n) (hn : n < 2 ^ 31) : ¬ x = nI k := by
  intro q
  rw [q, nI_toInt (by omega)] at h
  omega
