/-! sets as numbers; the order that waits least, as the document has it -/
def bt (x : Int32) (k : Nat) : Bool := x.toBitVec.getLsbD k
theorem bt_and {x y : Int32} {k : Nat} : bt (x &&& y) k = (bt x k && bt y k) := by
  unfold bt; rw [Int32.toBitVec_and, BitVec.getLsbD_and]
theorem bt_or {x y : Int32} {k : Nat} : bt (x ||| y) k = (bt x k || bt y k) := by
  unfold bt; rw [Int32.toBitVec_or, BitVec.getLsbD_or]
theorem bt_not {x : Int32} {k : Nat} (hk : k < 9) : bt (x ^^^ -1) k = !bt x k := by
  unfold bt
  rw [Int32.toBitVec_xor, BitVec.getLsbD_xor]
  have : (Int32.toBitVec (-1)).getLsbD k = true := by
    have h : ((List.range 9).all fun k => (Int32.toBitVec (-1)).getLsbD k) = true := by decide
    rw [List.all_eq_true] at h
    exact h k (List.mem_range.mpr hk)
  rw [this]
  simp
theorem bt_n {n k : Nat} (hk : k < 9) : bt (nI n) k = n.testBit k := by
  unfold bt
  show (BitVec.ofNat 32 n).getLsbD k = _
  rw [BitVec.getLsbD_ofNat]
  simp [show k < 32 by omega]
theorem nine {k : Nat} (hk : k < 9) : k = 0 ∨ k = 1 ∨ k = 2 ∨ k = 3 ∨ k = 4 ∨ k = 5 ∨ k = 6 ∨ k = 7 ∨ k = 8 := by omega
theorem sh_bv {x : Int32} {k : Nat} (hk : k < 9) : (x >>> (nI k &&& 31)).toBitVec = x.toBitVec.sshiftRight k := by
  rw [Int32.toBitVec_shiftRight, BitVec.sshiftRight_eq']
  congr 1
  rcases nine hk with e | e | e | e | e | e | e | e | e <;> subst e <;> decide
/-- a member of a set, as the machine has it -/
theorem bt_sh {x : Int32} {k : Nat} (hk : k < 9) : (x >>> (nI k &&& 31)) &&& 1 = if bt x k = true then 1 else 0 := by
  apply Int32.toBitVec_inj.mp
  rw [Int32.toBitVec_and, sh_bv hk]
  apply BitVec.eq_of_getLsbD_eq
  intro i hi
  rw [BitVec.getLsbD_and, BitVec.getLsbD_sshiftRight]
  have e1 : (Int32.toBitVec 1).getLsbD i = decide (i = 0) := by
    show (BitVec.ofNat 32 1).getLsbD i = _
    rw [BitVec.getLsbD_ofNat]
    by_cases q : i = 0
    · subst q; decide
    · simp only [q, decide_false, hi, decide_true, Bool.true_and]
      rw [show i = (i - 1) + 1 by omega, Nat.testBit_succ]
      simp
  rw [e1]
  by_cases q : i = 0
  · subst q
    unfold bt
    rw [show k + 0 = k from rfl]
    simp only [show k < 32 by omega, if_true, decide_true, Bool.and_true]
    cases x.toBitVec.getLsbD k <;> decide
  · simp only [q, decide_false, Bool.and_false]
    split
    · rw [e1]; simp [q]
    · simp
theorem one_sh {k : Nat} (hk : k < 10) : (1 : Int32) <<< (nI k &&& 31) = nI (2 ^ k) := by
  have h : ((List.range 10).all fun k => decide ((1 : Int32) <<< (nI k &&& 31) = nI (2 ^ k))) = true := by decide
  rw [List.all_eq_true] at h
  have := h k (List.mem_range.mpr hk)
  rwa [decide_eq_true_eq] at this
theorem n_or (a b : Nat) : nI a ||| nI b = nI (a ||| b) := by
  apply Int32.toBitVec_inj.mp
  rw [Int32.toBitVec_or]
  show BitVec.ofNat 32 a ||| BitVec.ofNat 32 b = BitVec.ofNat 32 (a ||| b)
  exact (BitVec.ofNat_or ..).symm
/-- how many -/
def pc (s : Nat) : Nat := s % 2 + s / 2 % 2 + s / 4 % 2 + s / 8 % 2 + s / 16 % 2 + s / 32 % 2 + s / 64 % 2 + s / 128 % 2 + s / 256 % 2
theorem pc_or {s k : Nat} (hs : s < 512) (hk : k < 9) (h : s.testBit k = false) : pc (s ||| 2 ^ k) = pc s + 1 := by
  have h0 : ((List.range 512).all fun s => (List.range 9).all fun k => s.testBit k || decide (pc (s ||| 2 ^ k) = pc s + 1)) = true := by decide +kernel
  rw [List.all_eq_true] at h0
  have := h0 s (List.mem_range.mpr hs)
  rw [List.all_eq_true] at this
  have := this k (List.mem_range.mpr hk)
  rw [h, Bool.false_or, decide_eq_true_eq] at this
  exact this
theorem pc_f {n s : Nat} (hn : n < 10) (hs : s < 2 ^ n) : pc s ≤ n ∧ (pc s = n ↔ s = 2 ^ n - 1) ∧ (0 < s → 0 < pc s) := by
  have h0 : ((List.range 10).all fun n => (List.range (2 ^ n)).all fun s => decide (pc s ≤ n ∧ (pc s = n ↔ s = 2 ^ n - 1) ∧ (0 < s → 0 < pc s))) = true := by decide +kernel
  rw [List.all_eq_true] at h0
  have := h0 n (List.mem_range.mpr hn)
  rw [List.all_eq_true] at this
  have := this s (List.mem_range.mpr hs)
  rwa [decide_eq_true_eq] at this
theorem p9 {n : Nat} (hn : n < 10) : 2 ^ n ≤ 512 := by
  have : (2 : Nat) ^ n ≤ 2 ^ 9 := Nat.pow_le_pow_right (by decide) (by omega)
  omega
theorem or_lt {n s k : Nat} (hs : s < 2 ^ n) (hk : k < n) : s ||| 2 ^ k < 2 ^ n := Nat.or_lt_two_pow hs (Nat.pow_lt_pow_right (by decide) hk)
theorem or_bit {s k j : Nat} : (s ||| 2 ^ k).testBit j = (s.testBit j || decide (k = j)) := by
  rw [Nat.testBit_or, Nat.testBit_two_pow]
theorem or_gt {s k : Nat} (h : s.testBit k = false) : s < s ||| 2 ^ k := by
  refine Nat.lt_of_le_of_ne Nat.left_le_or fun q => ?_
  have : (s ||| 2 ^ k).testBit k = true := by rw [or_bit]; simp
  rw [← q, h] at this
  cases this
/-- the JDK's count of bits -/
def bcq (x : Int32) : Int32 := let u := fun (a : Int32) (n : Int32) => (a.toUInt32 >>> (n.toUInt32 &&& Int32.toUInt32 31)).toInt32
  let a := x - (u x 1 &&& 1431655765); let b := (a &&& 858993459) + (u a 2 &&& 858993459); let c := (b + u b 4) &&& 252645135; let d := c + u c 8; let e := d + u d 16; e &&& 63
theorem bcq_n {s : Nat} (hs : s < 512) : bcq (nI s) = nI (pc s) := by
  have h0 : ((List.range 512).all fun s => decide (bcq (nI s) = nI (pc s))) = true := by decide +kernel
  rw [List.all_eq_true] at h0
  have := h0 s (List.mem_range.mpr hs)
  rwa [decide_eq_true_eq] at this
set_option maxRecDepth 8000 in
theorem s_bitCount {d z s : Nat} {G : Mem} {Q : Rt} (hs : s < 512) : CALL (d + 1) 129 [.int (nI s)] G z Q = Q (some (.int (nI (pc s)))) G z := by
  rw [← bcq_n hs, CALL_eq]
  simp only [mxE_129, ent, entL, isL_int, isL_rf, isL_long, locS, List.length_cons, List.length_nil, List.cons_append, List.nil_append, List.replicate_succ, List.replicate_zero, Bool.false_eq_true, if_false, if_true, true_and, and_true, Nat.reduceAdd, Nat.reduceSub, Nat.reduceLeDiff, Nat.zero_le, Nat.le_refl, Nat.zero_add, Nat.add_zero, bI_0, bI_1, bI_n, Nat.reduceEqDiff, false_and, and_false, and_self, e_129_0, e_129_1, e_129_2, e_129_3, e_129_4, e_129_7, e_129_8, e_129_9, e_129_10, e_129_11, e_129_14, e_129_15, e_129_16, e_129_17, e_129_18, e_129_21, e_129_22, e_129_23, e_129_24, e_129_25, e_129_26, e_129_27, e_129_28, e_129_29, e_129_32, e_129_33, e_129_34, e_129_35, e_129_36, e_129_38, e_129_39, e_129_40, e_129_41, e_129_42, e_129_43, e_129_45, e_129_46, e_129_47, e_129_48, e_129_49, e_129_51, e_129_52]
  rfl
set_option maxRecDepth 8000 in
theorem s_has {d z k : Nat} {x : Int32} {G : Mem} {Q : Rt} (hk : k < 9) : CALL (d + 1) 11 [.int x, .int (nI k)] G z Q = Q (some (.int (bI (bt x k = true)))) G z := by
  rw [CALL_eq]
  simp only [mxE_11, ent, entL, isL_int, isL_rf, isL_long, locS, List.length_cons, List.length_nil, List.cons_append, List.nil_append, List.replicate_succ, List.replicate_zero, Bool.false_eq_true, if_false, if_true, true_and, and_true, Nat.reduceAdd, Nat.reduceSub, Nat.reduceLeDiff, Nat.zero_le, Nat.le_refl, Nat.zero_add, Nat.add_zero, bI_0, bI_1, bI_n, Nat.reduceEqDiff, false_and, and_false, and_self, e_11_0, e_11_1, e_11_2, e_11_3, e_11_4, e_11_5, e_11_8, e_11_9, e_11_12, e_11_13, bt_sh hk, nz_0, nz_1]
  unfold bI
  by_cases h : bt x k = true
  · simp [h]
  · simp [h]
/-! the first of the least -/
def bst (g : Nat → Option Nat) : Nat → Option (Nat × Nat)
  | 0 => none
  | k + 1 => match g k, bst g k with
    | none, b => b
    | some c, none => some (k, c)
    | some c, some (b, cb) => if c < cb then some (k, c) else some (b, cb)
def vM (M : Nat) (o : Option (Nat × Nat)) : Nat := match o with
  | none => M
  | some (_, c) => c
theorem bst_s {g : Nat → Option Nat} : ∀ {n b c : Nat}, bst g n = some (b, c) → b < n ∧ g b = some c ∧ (∀ j, j < b → ¬ g j = some c) ∧ ∀ j c', j < n → g j = some c' → c ≤ c'
  | 0, b, c, h => by cases h
  | n + 1, b, c, h => by
    unfold bst at h
    cases hg : g n with
    | none =>
      rw [hg] at h
      have := bst_s (n := n) h
      refine ⟨by omega, this.2.1, this.2.2.1, fun j c' hj hc => ?_⟩
      by_cases q : j = n
      · subst q; rw [hg] at hc; cases hc
      · exact this.2.2.2 j c' (by omega) hc
    | some v =>
      rw [hg] at h
      cases hb : bst g n with
      | none =>
        rw [hb] at h
        cases h
        have hno : ∀ k, k ≤ n → bst g k = none → ∀ j, j < k → g j = none := by
          intro k
          induction k with
          | zero => intro _ _ j hj; omega
          | succ k ih =>
            intro hk hq j hj
            unfold bst at hq
            cases hg' : g k with
            | none =>
              rw [hg'] at hq
              by_cases e : j = k
              · subst e; exact hg'
              · exact ih (by omega) hq j (by omega)
            | some v' =>
              rw [hg'] at hq
              cases hb' : bst g k with
              | none => rw [hb'] at hq; cases hq
              | some q => obtain ⟨q1, q2⟩ := q; rw [hb'] at hq; dsimp only at hq; split at hq <;> cases hq
        have hno := hno n (Nat.le_refl _) hb
        refine ⟨by omega, hg, fun j hj => by rw [hno j hj]; simp, fun j c' hj hc => ?_⟩
        by_cases q : j = n
        · subst q; rw [hg] at hc; cases hc; exact Nat.le_refl _
        · rw [hno j (by omega)] at hc; cases hc
      | some q =>
        obtain ⟨b0, c0⟩ := q
        rw [hb] at h
        dsimp only at h
        have ih := bst_s (n := n) hb
        by_cases e : v < c0
        · rw [if_pos e] at h
          cases h
          refine ⟨by omega, hg, fun j hj q => ?_, fun j c' hj hc => ?_⟩
          · have := ih.2.2.2 j _ hj q; omega
          · by_cases q : j = n
            · subst q; rw [hg] at hc; cases hc; exact Nat.le_refl _
            · have := ih.2.2.2 j _ (by omega) hc; omega
        · rw [if_neg e] at h
          cases h
          refine ⟨by omega, ih.2.1, ih.2.2.1, fun j c' hj hc => ?_⟩
          by_cases q : j = n
          · subst q; rw [hg] at hc; cases hc; omega
          · exact ih.2.2.2 j _ (by omega) hc
/-- a loop's step to it -/
theorem bst_step {g : Nat → Option Nat} {M i v : Nat} (hb : ∀ k c, g k = some c → c < M) (hv : (g i = none ∧ M ≤ v) ∨ g i = some v) : bst g (i + 1) = if v < vM M (bst g i) then some (i, v) else bst g i := by
  have hM : vM M (bst g i) ≤ M := by
    cases hq : bst g i with
    | none => exact Nat.le_refl _
    | some q => obtain ⟨b, c⟩ := q; exact Nat.le_of_lt (hb b c (bst_s hq).2.1)
  rw [bst]
  rcases hv with ⟨h1, h2⟩ | h1
  · rw [h1, if_neg (by omega)]
  · have := hb i v h1
    rw [h1]
    cases hq : bst g i with
    | none => exact (if_pos (show v < vM M none from this)).symm
    | some q => obtain ⟨b, c⟩ := q; rfl
theorem bst_no {g : Nat → Option Nat} {i : Nat} (h : g i = none) : bst g (i + 1) = bst g i := by rw [bst, h]
/-! the orders of a bill: how many, who may stand where, which are front cloth, which are full stage -/
abbrev OP : Type := Nat × (Nat → Nat → Bool) × (Nat → Bool) × (Nat → Bool)
def okO (P : OP) (lo : Option Nat) (k : Nat) : Bool := match lo with
  | none => true
  | some a => !(P.2.2.2 a && P.2.2.2 k)
def wtO (P : OP) (lo : Option Nat) (k : Nat) : Nat := match lo with
  | none => 0
  | some a => if (P.2.2.1 a || P.2.2.1 k) = true then 0 else if (P.2.2.2 a || P.2.2.2 k) = true then 2 else 1
def gO (P : OP) (F : Nat → Option Nat → Option Nat) (set : Nat) (lo : Option Nat) (place k : Nat) : Option Nat := if set.testBit k = false ∧ P.2.1 k place = true ∧ okO P lo k = true then (F (set ||| 2 ^ k) (some k)).map (· + wtO P lo k) else none
def FF (P : OP) : Nat → Nat → Option Nat → Option Nat
  | 0, _, _ => some 0
  | f + 1, set, lo => (bst (gO P (FF P f) set lo (P.1 - (f + 1))) P.1).map (·.2)
def ly (P : OP) : Nat → Nat → Option Nat → List Nat
  | 0, _, _ => []
  | f + 1, set, lo => match bst (gO P (FF P f) set lo (P.1 - (f + 1))) P.1 with
    | none => []
    | some (b, _) => b :: ly P f (set ||| 2 ^ b) (some b)
theorem wt_le {P : OP} {lo : Option Nat} {k : Nat} : wtO P lo k ≤ 2 := by
  unfold wtO
  split
  · omega
  · split
    · omega
    · split <;> omega
theorem gO_s {P : OP} {F : Nat → Option Nat → Option Nat} {set : Nat} {lo : Option Nat} {place k c : Nat} (h : gO P F set lo place k = some c) : set.testBit k = false ∧ P.2.1 k place = true ∧ okO P lo k = true ∧ ∃ c', F (set ||| 2 ^ k) (some k) = some c' ∧ c = c' + wtO P lo k := by
  unfold gO at h
  split at h
  · rename_i q
    cases hF : F (set ||| 2 ^ k) (some k) with
    | none => rw [hF] at h; cases h
    | some c' => rw [hF] at h; cases h; exact ⟨q.1, q.2.1, q.2.2, c', rfl, rfl⟩
  · cases h
theorem FF_le {P : OP} : ∀ {f set : Nat} {lo : Option Nat} {c : Nat}, FF P f set lo = some c → c ≤ 2 * f
  | 0, set, lo, c, h => by unfold FF at h; cases h; omega
  | f + 1, set, lo, c, h => by
    unfold FF at h
    cases hb : bst (gO P (FF P f) set lo (P.1 - (f + 1))) P.1 with
    | none => rw [hb] at h; cases h
    | some q =>
      obtain ⟨b, c0⟩ := q
      rw [hb] at h
      cases h
      obtain ⟨-, -, -, c', h1, h2⟩ := gO_s (bst_s hb).2.1
      have := FF_le h1
      have := wt_le (P := P) (lo := lo) (k := b)
      change c0 ≤ 2 * (f + 1)
      omega
theorem gO_lt {P : OP} {f set place k c : Nat} {lo : Option Nat} (h : gO P (FF P f) set lo place k = some c) : c ≤ 2 * f + 2 := by
  obtain ⟨-, -, -, c', h1, h2⟩ := gO_s h
  have := FF_le h1
  have := wt_le (P := P) (lo := lo) (k := k)
  omega
/-- what a loop reads of one that might come next: at least M, or its sum -/
theorem gO_v {P : OP} {F : Nat → Option Nat → Option Nat} {set : Nat} {lo : Option Nat} {place k M : Nat} (h1 : set.testBit k = false) (h2 : P.2.1 k place = true) (h3 : okO P lo k = true) : (gO P F set lo place k = none ∧ M ≤ wtO P lo k + (F (set ||| 2 ^ k) (some k)).getD M) ∨ gO P F set lo place k = some (wtO P lo k + (F (set ||| 2 ^ k) (some k)).getD M) := by
  unfold gO
  rw [if_pos ⟨h1, h2, h3⟩]
  cases F (set ||| 2 ^ k) (some k) with
  | none => exact Or.inl ⟨rfl, Nat.le_add_left _ _⟩
  | some c => exact Or.inr (by simp [Nat.add_comm])
theorem gO_n {P : OP} {F : Nat → Option Nat → Option Nat} {set : Nat} {lo : Option Nat} {place k : Nat} (h : ¬ (set.testBit k = false ∧ P.2.1 k place = true ∧ okO P lo k = true)) : gO P F set lo place k = none := by
  unfold gO; rw [if_neg h]
theorem ly_len {P : OP} : ∀ {f set : Nat} {lo : Option Nat} {c : Nat}, FF P f set lo = some c → (ly P f set lo).length = f
  | 0, set, lo, c, h => rfl
  | f + 1, set, lo, c, h => by
    unfold FF at h
    rw [ly]
    cases hb : bst (gO P (FF P f) set lo (P.1 - (f + 1))) P.1 with
    | none => rw [hb] at h; cases h
    | some q =>
      obtain ⟨b, c0⟩ := q
      obtain ⟨-, -, -, c', h1, h2⟩ := gO_s (bst_s hb).2.1
      simp only [List.length_cons, ly_len h1]
