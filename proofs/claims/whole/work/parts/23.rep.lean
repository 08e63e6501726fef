/-! how the state lies in the memory: the class's object at x, the reference's at x + 12 -/
abbrev XS (G : Mem) (x : Nat) : Prop := mK G x = 7 ∧ mR G 7 0 x = some (x + 1) ∧ mR G 7 1 x = some (x + 2) ∧ mR G 7 2 x = some (x + 3) ∧ mR G 7 3 x = some (x + 4) ∧ mR G 7 4 x = some (x + 6)
  ∧ mK G (x + 1) = 24 ∧ mN G (x + 1) = 40 ∧ mK G (x + 2) = 23 ∧ mN G (x + 2) = 10 ∧ mK G (x + 3) = 21 ∧ mN G (x + 3) = 600 ∧ mK G (x + 4) = 1 ∧ mR G 1 0 (x + 4) = some (x + 5) ∧ mK G (x + 5) = 24 ∧ mN G (x + 5) = 9 ∧ mK G (x + 6) = 0
  ∧ mR G 0 0 (x + 6) = some (x + 7) ∧ mR G 0 1 (x + 6) = some (x + 8) ∧ mR G 0 2 (x + 6) = some (x + 9) ∧ mR G 0 3 (x + 6) = some (x + 10) ∧ mR G 0 4 (x + 6) = some (x + 11)
  ∧ mK G (x + 7) = 22 ∧ mN G (x + 7) = 9 ∧ mK G (x + 8) = 22 ∧ mN G (x + 8) = 9 ∧ mK G (x + 9) = 20 ∧ mN G (x + 9) = 9 ∧ mK G (x + 10) = 20 ∧ mN G (x + 10) = 4608 ∧ mK G (x + 11) = 20 ∧ mN G (x + 11) = 9
/-- the counts -/
abbrev XN (G : Mem) (x : Nat) (S : St) : Prop := mI G 7 5 x = nI (sN S 1) ∧ mI G 7 6 x = nI (sN S 2) ∧ mI G 7 7 x = nI (sN S 3) ∧ mI G 7 8 x = nI (sN S 4) ∧ mI G 7 9 x = nI (sN S 5) ∧ mI G 7 10 x = nI (sN S 0) ∧ mI G 7 11 x = sF S
/-- the turns -/
abbrev XT (G : Mem) (x : Nat) (ta ha ca : Nat → Nat) (S : St) : Prop := ∀ i, i < sN S 1 → mQ G (x + 1) i = some (ta i) ∧ x + 36 ≤ ta i ∧ mK G (ta i) = 6 ∧ mI G 6 0 (ta i) = nI i ∧ mI G 6 1 (ta i) = sI S 0 i ∧ mI G 6 2 (ta i) = sI S 1 i ∧ mI G 6 3 (ta i) = sI S 5 i ∧ mI G 6 4 (ta i) = sI S 2 i ∧ mI G 6 5 (ta i) = sI S 3 i
  ∧ mR G 6 6 (ta i) = some (ta i + 1) ∧ mK G (ta i + 1) = 23 ∧ mN G (ta i + 1) = 60 ∧ mR G 6 7 (ta i) = (lastC S i (sN S 3)).map ca ∧ mI G 6 8 (ta i) = nI (cntW S i 60) ∧ mI G 6 9 (ta i) = sI S 4 i ∧ ∀ w, w < 60 → mQ G (ta i + 1) w = (sP S i w).map ha
abbrev XH (G : Mem) (x : Nat) (ha : Nat → Nat) (S : St) : Prop := ∀ h, h < sN S 2 → mQ G (x + 2) h = some (ha h) ∧ mK G (ha h) = 4 ∧ mI G 4 0 (ha h) = nI h ∧ mI G 4 1 (ha h) = sI S 6 h ∧ mI G 4 2 (ha h) = sI S 7 h ∧ mI G 4 3 (ha h) = sI S 8 h
/-- a chain of statements -/
def SCh (G : Mem) : Option Nat → List (Int32 × Int32 × Int32) → Prop
  | r, [] => r = none
  | r, e :: l => ∃ a, r = some a ∧ mK G a = 5 ∧ mI G 5 0 a = e.1 ∧ mI G 5 1 a = e.2.1 ∧ mI G 5 2 a = e.2.2 ∧ SCh G (mR G 5 3 a) l
abbrev XC (G : Mem) (ca : Nat → Nat) (S : St) : Prop := ∀ c, c < sN S 3 → mK G (ca c) = 2 ∧ mI G 2 0 (ca c) = nI c ∧ mI G 2 1 (ca c) = nI (sC S 1 c) ∧ mI G 2 2 (ca c) = nI (sC S 2 c) ∧ mR G 2 3 (ca c) = (lastC S (sC S 0 c) c).map ca ∧ SCh G (mR G 2 4 (ca c)) (sS S c).reverse
abbrev XI (ta ha ca : Nat → Nat) (S : St) : Prop := (∀ i j, i < sN S 1 → j < sN S 1 → ta i = ta j → i = j) ∧ (∀ i j, i < sN S 2 → j < sN S 2 → ha i = ha j → i = j) ∧ (∀ i j, i < sN S 3 → j < sN S 3 → ca i = ca j → i = j)
/-- the class's object holds the state -/
def RX (G : Mem) (x : Nat) (ta ha ca : Nat → Nat) (S : St) : Prop := XS G x ∧ XN G x S ∧ XT G x ta ha ca S ∧ XH G x ha S ∧ XC G ca S ∧ XI ta ha ca S ∧ ∀ i, mE G (x + 3) i = sT S i
/-- a place as the reference has it -/
def pInt (o : Option Nat) : Int32 := match o with
  | none => -1
  | some h => nI h
abbrev MS (G : Mem) (m : Nat) : Prop := mK G m = 8 ∧ mR G 8 5 m = some (m + 1) ∧ mR G 8 6 m = some (m + 2) ∧ mR G 8 7 m = some (m + 3) ∧ mR G 8 8 m = some (m + 4) ∧ mR G 8 9 m = some (m + 5) ∧ mR G 8 10 m = some (m + 6) ∧ mR G 8 11 m = some (m + 7) ∧ mR G 8 12 m = some (m + 8) ∧ mR G 8 13 m = some (m + 9) ∧ mR G 8 14 m = some (m + 10) ∧ mR G 8 15 m = some (m + 11) ∧ mR G 8 16 m = some (m + 12)
  ∧ mR G 8 21 m = some (m + 13) ∧ mR G 8 22 m = some (m + 14) ∧ mR G 8 23 m = some (m + 15) ∧ mR G 8 24 m = some (m + 16) ∧ mR G 8 25 m = some (m + 17) ∧ mR G 8 26 m = some (m + 18) ∧ mR G 8 27 m = some (m + 19) ∧ mR G 8 30 m = some (m + 20) ∧ mR G 8 31 m = some (m + 21) ∧ mR G 8 32 m = some (m + 22) ∧ mR G 8 33 m = some (m + 23)
  ∧ mK G (m + 1) = 20 ∧ mN G (m + 1) = 40 ∧ mK G (m + 2) = 20 ∧ mN G (m + 2) = 40 ∧ mK G (m + 3) = 20 ∧ mN G (m + 3) = 40 ∧ mK G (m + 4) = 20 ∧ mN G (m + 4) = 40 ∧ mK G (m + 5) = 20 ∧ mN G (m + 5) = 40 ∧ mK G (m + 6) = 22 ∧ mN G (m + 6) = 40 ∧ mK G (m + 7) = 20 ∧ mN G (m + 7) = 10 ∧ mK G (m + 8) = 20 ∧ mN G (m + 8) = 10 ∧ mK G (m + 9) = 20 ∧ mN G (m + 9) = 10 ∧ mK G (m + 10) = 20 ∧ mN G (m + 10) = 2400
  ∧ mK G (m + 11) = 21 ∧ mN G (m + 11) = 600 ∧ mK G (m + 12) = 21 ∧ mN G (m + 12) = 600 ∧ mK G (m + 13) = 20 ∧ mN G (m + 13) = 61 ∧ mK G (m + 14) = 20 ∧ mN G (m + 14) = 61 ∧ mK G (m + 15) = 20 ∧ mN G (m + 15) = 61 ∧ mK G (m + 16) = 20 ∧ mN G (m + 16) = 61 ∧ mK G (m + 17) = 20 ∧ mN G (m + 17) = 732 ∧ mK G (m + 18) = 20 ∧ mN G (m + 18) = 732 ∧ mK G (m + 19) = 20 ∧ mN G (m + 19) = 732
  ∧ mK G (m + 20) = 20 ∧ mN G (m + 20) = 9 ∧ mK G (m + 21) = 20 ∧ mN G (m + 21) = 9 ∧ mK G (m + 22) = 20 ∧ mN G (m + 22) = 9 ∧ mK G (m + 23) = 20 ∧ mN G (m + 23) = 4608
abbrev MN (G : Mem) (m : Nat) (S : St) : Prop := mI G 8 1 m = nI (sN S 1) ∧ mI G 8 2 m = nI (sN S 2) ∧ mI G 8 3 m = nI (sN S 3) ∧ mI G 8 4 m = nI (sN S 4) ∧ mI G 8 17 m = nI (sN S 5) ∧ mI G 8 0 m = nI (sN S 0) ∧ mI G 8 20 m = sF S
abbrev MA (G : Mem) (m : Nat) (S : St) : Prop := (∀ i, mE G (m + 1) i = sI S 0 i) ∧ (∀ i, mE G (m + 2) i = sI S 1 i) ∧ (∀ i, mE G (m + 3) i = sI S 2 i) ∧ (∀ i, mE G (m + 4) i = sI S 3 i) ∧ (∀ i, mE G (m + 5) i = sI S 4 i) ∧ (∀ i, mE G (m + 6) i = sI S 5 i) ∧ (∀ i, mE G (m + 7) i = sI S 6 i) ∧ (∀ i, mE G (m + 8) i = sI S 7 i) ∧ (∀ i, mE G (m + 9) i = sI S 8 i)
  ∧ (∀ t w, t < 40 → w < 60 → mE G (m + 10) (60 * t + w) = pInt (sP S t w)) ∧ ∀ i, mE G (m + 11) i = sT S i
abbrev MC (G : Mem) (m : Nat) (S : St) : Prop := ∀ c, c < sN S 3 → mE G (m + 13) c = nI (sS S c).length ∧ mE G (m + 14) c = nI (sC S 0 c) ∧ mE G (m + 15) c = nI (sC S 1 c) ∧ mE G (m + 16) c = nI (sC S 2 c) ∧ ∀ k (e : Int32 × Int32 × Int32), (sS S c)[k]? = some e → mE G (m + 17) (12 * c + k) = e.1 ∧ mE G (m + 18) (12 * c + k) = e.2.1 ∧ mE G (m + 19) (12 * c + k) = e.2.2
/-- the reference's object holds the state -/
def RM (G : Mem) (m : Nat) (S : St) : Prop := MS G m ∧ MN G m S ∧ MA G m S ∧ MC G m S
/-- nothing but the class's own scratch has changed: the gathered bill, its row, the order and its rows -/
def SX (x : Nat) (G G' : Mem) : Prop := (∀ a, mK G' a = mK G a) ∧ (∀ a, mN G' a = mN G a) ∧ (∀ c k a, 2 ≤ c → mI G' c k a = mI G c k a) ∧ (∀ c k a, mR G' c k a = mR G c k a) ∧ (∀ a i, ¬ (x + 7 ≤ a ∧ a ≤ x + 11) → mE G' a i = mE G a i) ∧ ∀ a i, a ≠ x + 5 → mQ G' a i = mQ G a i
theorem SX.rf {x : Nat} {G : Mem} : SX x G G := ⟨fun _ => rfl, fun _ => rfl, fun _ _ _ _ => rfl, fun _ _ _ => rfl, fun _ _ _ => rfl, fun _ _ _ => rfl⟩
theorem SX.tr {x : Nat} {G G1 G2 : Mem} (h : SX x G G1) (h2 : SX x G1 G2) : SX x G G2 :=
  ⟨fun a => (h2.1 a).trans (h.1 a), fun a => (h2.2.1 a).trans (h.2.1 a), fun c k a q => (h2.2.2.1 c k a q).trans (h.2.2.1 c k a q), fun c k a => (h2.2.2.2.1 c k a).trans (h.2.2.2.1 c k a), fun a i q => (h2.2.2.2.2.1 a i q).trans (h.2.2.2.2.1 a i q), fun a i q => (h2.2.2.2.2.2 a i q).trans (h.2.2.2.2.2 a i q)⟩
theorem SCh.congr {G G' : Mem} : ∀ (l : List (Int32 × Int32 × Int32)) (r : Option Nat), (∀ a, mK G a = 5 → mK G' a = 5 ∧ (∀ k, mI G' 5 k a = mI G 5 k a) ∧ ∀ k, mR G' 5 k a = mR G 5 k a) → SCh G r l → SCh G' r l
  | [], r, _, h => h
  | e :: l, r, hc, h => by
    obtain ⟨a, h1, h2, h3, h4, h5, h6⟩ := h
    obtain ⟨q1, q2, q3⟩ := hc a h2
    refine ⟨a, h1, q1, by rw [q2]; exact h3, by rw [q2]; exact h4, by rw [q2]; exact h5, ?_⟩
    rw [q3]
    exact SCh.congr l _ hc h6
theorem RX.sx {G G' : Mem} {x : Nat} {ta ha ca : Nat → Nat} {S : St} (h : RX G x ta ha ca S) (q : SX x G G') : RX G' x ta ha ca S := by
  obtain ⟨h1, h2, h3, h4, h5, h6, h7⟩ := h
  obtain ⟨q1, q2, q3, q4, q5, q6⟩ := q
  refine ⟨?_, ?_, fun i hi => ?_, fun i hi => ?_, fun i hi => ?_, h6, fun i => ?_⟩
  · simp only [XS, q1, q2, q4]; exact h1
  · simp only [XN, q3 _ _ _ (by decide : 2 ≤ 7)]; exact h2
  · have hi := h3 i hi
    simp only [q1, q2, q4, q3 _ _ _ (by decide : 2 ≤ 6), q6 (x + 1) _ (by omega)]
    have : ∀ w, mQ G' (ta i + 1) w = mQ G (ta i + 1) w := fun w => q6 _ _ (by omega)
    simp only [this]
    exact hi
  · have hi := h4 i hi
    simp only [q1, q3 _ _ _ (by decide : 2 ≤ 4), q6 (x + 2) _ (by omega)]
    exact hi
  · obtain ⟨g1, g2, g3, g4, g5, g6⟩ := h5 i hi
    simp only [q1, q4, q3 _ _ _ (by decide : 2 ≤ 2)]
    exact ⟨g1, g2, g3, g4, g5, SCh.congr _ _ (fun a ha => ⟨by rw [q1]; exact ha, fun k => q3 _ _ _ (by decide), fun k => q4 _ _ _⟩) g6⟩
  · rw [q5 _ _ (by omega)]; exact h7 i
theorem RM.sx {G G' : Mem} {x : Nat} {S : St} (h : RM G (x + 12) S) (q : SX x G G') : RM G' (x + 12) S := by
  obtain ⟨h1, h2, h3, h4⟩ := h
  obtain ⟨q1, q2, q3, q4, q5, q6⟩ := q
  have e : ∀ k i, mE G' (x + 12 + k) i = mE G (x + 12 + k) i := fun k i => q5 _ _ (by omega)
  refine ⟨?_, ?_, ?_, ?_⟩
  · simp only [MS, q1, q2, q4]; exact h1
  · simp only [MN, q3 _ _ _ (by decide : 2 ≤ 8)]; exact h2
  · simp only [MA, e]; exact h3
  · simp only [MC, e]; exact h4
