/-! THE WORLD of the law's loop: the script, the program's texts, both objects -/
def SCo (G : Mem) (b L : Nat) (xs : Nat → Int32) : Prop := mK G b = 25 ∧ mN G b = L ∧ ∀ i, mE G b i = xs i
theorem SCo.fo {x z b L : Nat} {xs : Nat → Int32} {G G' : Mem} (h : SCo G b L xs) (hb : b < z) (q : FO x z G G') : SCo G' b L xs :=
  ⟨by rw [(q.1 b hb).1]; exact h.1, by rw [(q.1 b hb).2]; exact h.2.1, fun i => by rw [q.2.2 b i hb (Or.inr (Or.inl h.1))]; exact h.2.2 i⟩
theorem SCo.fm {m b L : Nat} {xs : Nat → Int32} {G G' : Mem} (h : SCo G b L xs) (hb : b < m) (q : FM m G G') : SCo G' b L xs :=
  ⟨by rw [q.1]; exact h.1, by rw [q.2.1]; exact h.2.1, fun i => by rw [q.2.2.2.2.1 b i (by omega)]; exact h.2.2 i⟩
theorem StrOK.fo {x y z : Nat} {G G' : Mem} (h : StrOK G y) (hy : y ≤ z) (q : FO x z G G') : StrOK G' y := fun i hi => by
  obtain ⟨a, v, h1, h2, h3, h4, h5, h6, h7, h8, h9⟩ := h i hi
  refine ⟨a, v, by rw [(q.2.1 31 i 0 (by omega) (by decide)).2]; exact h1, h2, h3, by rw [(q.2.1 33 0 a (by omega) (by decide)).1]; exact h4, by rw [(q.2.1 30 1 a (by omega) (by decide)).1]; exact h5, by rw [(q.2.1 30 0 a (by omega) (by decide)).2]; exact h6, by rw [(q.1 v (by omega)).1]; exact h7, by rw [(q.1 v (by omega)).2]; exact h8, fun k => by rw [q.2.2 v k (by omega) (Or.inr (Or.inr h7))]; exact h9 k⟩
theorem StrOK.fm {m y : Nat} {G G' : Mem} (h : StrOK G y) (hy : y ≤ m) (q : FM m G G') : StrOK G' y := fun i hi => by
  obtain ⟨a, v, h1, h2, h3, h4, h5, h6, h7, h8, h9⟩ := h i hi
  refine ⟨a, v, by rw [q.2.2.2.1]; exact h1, h2, h3, by rw [q.2.2.1 _ _ _ (by decide)]; exact h4, by rw [q.2.2.1 _ _ _ (by decide)]; exact h5, by rw [q.2.2.2.1]; exact h6, by rw [q.1]; exact h7, by rw [q.2.1]; exact h8, fun k => by rw [q.2.2.2.2.1 v k (by omega)]; exact h9 k⟩
theorem StrOK.up {y z : Nat} {G : Mem} (h : StrOK G y) (hy : y ≤ z) : StrOK G z := fun i hi => by
  obtain ⟨a, v, h1, h2, h3, h4⟩ := h i hi
  exact ⟨a, v, h1, by omega, by omega, h4⟩
/-- all stands, in the state S -/
def Wd (G : Mem) (z x b L : Nat) (xs : Nat → Int32) (S : St) : Prop := (∃ ta ha ca, RX G x ta ha ca S) ∧ RM G (x + 12) S ∧ Inv S ∧ InvT S ∧ Bd G z ∧ x + 36 ≤ z ∧ b < x ∧ SCo G b L xs ∧ StrOK G x
/-- the class has gone on to S', the reference stands at S -/
def Wh (G : Mem) (z x b L : Nat) (xs : Nat → Int32) (S S' : St) : Prop := (∃ ta ha ca, RX G x ta ha ca S') ∧ RM G (x + 12) S ∧ Bd G z ∧ x + 36 ≤ z ∧ b < x ∧ SCo G b L xs ∧ StrOK G x
section
variable {G G' : Mem} {z z' x b L : Nat} {xs : Nat → Int32} {S S' : St} {ta ha ca : Nat → Nat}
theorem Wd.cls (h : Wd G z x b L xs S) (hX : RX G' x ta ha ca S') (hF : FO x z G G') (hB : Bd G' z') (hz : z ≤ z') : Wh G' z' x b L xs S S' := by
  obtain ⟨-, h2, h3, h4, h5, h6, h7, h8, h9⟩ := h
  exact ⟨⟨ta, ha, ca, hX⟩, h2.fo h6 hF, hB, by omega, h7, h8.fo (by omega) hF, h9.fo (by omega) hF⟩
theorem Wd.clsX (h : Wd G z x b L xs S) (hX : RX G' x ta ha ca S') (hF : FX x z G G') : Wh G' z x b L xs S S' := h.cls hX hF.1 (hF.2 h.2.2.2.2.1) (Nat.le_refl _)
theorem Wd.same (h : Wd G z x b L xs S) : Wh G z x b L xs S S := ⟨h.1, h.2.1, h.2.2.2.2⟩
theorem Wh.ref (h : Wh G z x b L xs S S') (hM : RM G' (x + 12) S') (hF : FM (x + 12) G G') (hI : Inv S') (hT : InvT S') : Wd G' z x b L xs S' := by
  obtain ⟨⟨ta, ha, ca, h1⟩, h2, h3, h4, h5, h6, h7⟩ := h
  exact ⟨⟨ta, ha, ca, h1.fm hF⟩, hM, hI, hT, fun a q => h3 a (by rw [← hF.1]; exact q), h4, h5, h6.fm (by omega) hF, h7.fm (by omega) hF⟩
theorem Wh.refS (h : Wh G z x b L xs S S) (hI : Inv S) (hT : InvT S) : Wd G z x b L xs S := h.ref h.2.1 FM.rf hI hT
end
/-- the loop goes on -/
def Nx (R : Rt) (x b L : Nat) (xs : Nat → Int32) (i c s : Nat) : Prop := ∀ G' z' c' s' S', Wd G' z' x b L xs S' → c' ≤ c + 14 → s' ≤ s + 70 → WP 12 137 R 877 [some (va_rf (some b)), some (va_rf (some x)), some (va_rf (some (x + 12))), some (.int (nI (6 * i)))] [] G' z' c' s'
theorem n_2 (a : Nat) : nI a + 2 = nI (a + 2) := n_add a 2
theorem n_3 (a : Nat) : nI a + 3 = nI (a + 3) := n_add a 3
theorem n_4 (a : Nat) : nI a + 4 = nI (a + 4) := n_add a 4
theorem n_5 (a : Nat) : nI a + 5 = nI (a + 5) := n_add a 5
