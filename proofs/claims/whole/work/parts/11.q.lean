/-! one instruction, as an equation between runs: for simp -/
def okI (o : Option Value) : Prop := match o with
  | some (.int _) => True
  | _ => False
def vI (o : Option Value) : Int32 := match o with
  | some (.int x) => x
  | _ => 0
def okJ (o : Option Value) : Prop := match o with
  | some (.long _) => True
  | _ => False
def vJ (o : Option Value) : Int64 := match o with
  | some (.long x) => x
  | _ => 0
def okR (o : Option Value) : Prop := match o with
  | some v => (rOf v).isSome = true
  | none => False
def vR (o : Option Value) : Option Nat := match o with
  | some v => (rOf v).getD none
  | none => none
def rtn (d j : Nat) (R : Rt) (pc : Nat) (L : Lo) (S : List Value) (c s : Nat) : Rt := fun r G z => WP d j R pc L (r.toList ++ S) G z c s
/-- evaluation of locals -/
theorem locS : (∀ o L, lgo (o :: L) 0 = o) ∧ (∀ o L n, lgo (o :: L) (n + 1) = lgo L n) ∧ (∀ o L v, lset (o :: L) 0 v = v :: L) ∧ (∀ o L n v, lset (o :: L) (n + 1) v = o :: lset L n v)
    ∧ (∀ L, noL L 0 = True) ∧ (∀ x L, noL (some (.int x) :: L) 1 = True) ∧ (∀ r L, noL (some (va_rf r) :: L) 1 = True) ∧ (∀ L, noL (none :: L) 1 = True) ∧ (∀ o L n, noL (o :: L) (n + 2) = noL L (n + 1))
    ∧ (∀ x, okI (some (.int x)) = True) ∧ (∀ x, vI (some (.int x)) = x) ∧ (∀ x, okJ (some (.long x)) = True) ∧ (∀ x, vJ (some (.long x)) = x) ∧ (∀ r, okR (some (va_rf r)) = True) ∧ (∀ r, vR (some (va_rf r)) = r)
    ∧ (∀ x, isL (.int x) = false) ∧ (∀ r, isL (va_rf r) = false) ∧ (∀ x, isL (.long x) = true)
    ∧ (∀ d j R pc L S c s v G z, rtn d j R pc L S c s (some v) G z = WP d j R pc L (v :: S) G z c s) ∧ (∀ d j R pc L S c s G z, rtn d j R pc L S c s none G z = WP d j R pc L S G z c s) := by
  refine ⟨fun _ _ => rfl, fun _ _ _ => rfl, fun _ _ _ => rfl, fun _ _ _ _ => rfl, fun _ => rfl, fun _ _ => ?_, fun r _ => ?_, fun _ => rfl, fun o L n => rfl, fun _ => rfl, fun _ => rfl, fun _ => rfl, fun _ => rfl, fun r => ?_, fun r => ?_, fun _ => rfl, fun r => ?_, fun _ => rfl, fun _ _ _ _ _ _ _ _ _ _ _ => rfl, fun _ _ _ _ _ _ _ _ _ _ => rfl⟩
  · simp [noL, lgo, isL]
  · cases r <;> simp [noL, lgo, isL, va_rf]
  · cases r <;> simp [okR, va_rf, rOf]
  · cases r <;> rfl
  · cases r <;> rfl
theorem isL_int (x : Int32) : isL (.int x) = false := rfl
theorem isL_long (x : Int64) : isL (.long x) = true := rfl
section QR
variable {d j : Nat} {R : Rt} {pc : Nat} {L : Lo} {S : List Value} {G : Mem} {z c s : Nat} {cc : ByteArray}
theorem q_eq (hc : cd j = cc) {il : Instr × Nat} (hd : decode cc pc = .ok il) : WP d j R pc L S G z c s = istep (CALL d) j il pc L S G z c s (WP d j R) R := wp_eq (by rw [hc]; exact hd)
theorem q_iconst (hc : cd j = cc) {n : Int} {v : Int32} (hd : decode cc pc = .ok (.iconst n, 1)) (hv : Int32.ofInt n = v) : WP d j R pc L S G z c s = WP d j R (pc + 1) L (.int v :: S) G z c s := by
  rw [q_eq hc hd]; subst hv; rfl
theorem q_bipush (hc : cd j = cc) {n : Int} {v : Int32} (hd : decode cc pc = .ok (.bipush n, 2)) (hv : (Int8.ofInt n).toInt32 = v) : WP d j R pc L S G z c s = WP d j R (pc + 2) L (.int v :: S) G z c s := by
  rw [q_eq hc hd]; subst hv; rfl
theorem q_sipush (hc : cd j = cc) {n : Int} {v : Int32} (hd : decode cc pc = .ok (.sipush n, 3)) (hv : (Int16.ofInt n).toInt32 = v) : WP d j R pc L S G z c s = WP d j R (pc + 3) L (.int v :: S) G z c s := by
  rw [q_eq hc hd]; subst hv; rfl
theorem q_lconst (hc : cd j = cc) {n : Fin 2} {v : Int64} (hd : decode cc pc = .ok (.lconst n, 1)) (hv : Int64.ofNat (n : Nat) = v) : WP d j R pc L S G z c s = WP d j R (pc + 1) L (.long v :: S) G z c s := by
  rw [q_eq hc hd]; subst hv; rfl
theorem q_null (hc : cd j = cc) (hd : decode cc pc = .ok (.aconst_null, 1)) : WP d j R pc L S G z c s = WP d j R (pc + 1) L (va_rf none :: S) G z c s := by
  rw [q_eq hc hd]; rfl
theorem q_ldcI (hc : cd j = cc) {i o : Nat} {v : Int32} (hd : decode cc pc = .ok (.ldc i, 2)) (ho : ow j = o) (hk : kI o i = some v) : WP d j R pc L S G z c s = WP d j R (pc + 2) L (.int v :: S) G z c s := by
  rw [q_eq hc hd]; subst ho; simp only [istep, inext, hk, cnd]
theorem q_ldcS (hc : cd j = cc) {i o q : Nat} (hd : decode cc pc = .ok (.ldc i, 2)) (ho : ow j = o) (hk0 : kI o i = none) (hk : kS o i = some q) : WP d j R pc L S G z c s = WP d j R (pc + 2) L (va_rf (mR G 31 q 0) :: S) G z c s := by
  rw [q_eq hc hd]; subst ho; simp only [istep, inext, hk0, hk, cnd]
theorem q_ldcw (hc : cd j = cc) {i o : Nat} {v : Int32} (hd : decode cc pc = .ok (.ldc_w i, 3)) (ho : ow j = o) (hk : kI o i = some v) : WP d j R pc L S G z c s = WP d j R (pc + 3) L (.int v :: S) G z c s := by
  rw [q_eq hc hd]; subst ho; simp only [istep, inext, hk, cnd]
theorem q_ldc2 (hc : cd j = cc) {i o : Nat} {v : Int64} (hd : decode cc pc = .ok (.ldc2_w i, 3)) (ho : ow j = o) (hk : kL o i = some v) : WP d j R pc L S G z c s = WP d j R (pc + 3) L (.long v :: S) G z c s := by
  rw [q_eq hc hd]; subst ho; simp only [istep, inext, hk, cnd]
theorem ldI_c {o : Option Value} {f : Int32 → List Prop × Nat × Lo × List Value × Mem × Nat × Nat × Nat} {K : Kt} : (match ldI o (fun x => some (f x)) with
    | some (ps, pc', L', S', G', z', c', s') => cnd ps (K pc' L' S' G' z' c' s')
    | none => False) = (okI o ∧ (match f (vI o) with | (ps, pc', L', S', G', z', c', s') => cnd ps (K pc' L' S' G' z' c' s'))) := by
  cases o with
  | none => simp [ldI, okI]
  | some v => cases v <;> simp [ldI, okI, vI]
theorem ldJ_c {o : Option Value} {f : Int64 → List Prop × Nat × Lo × List Value × Mem × Nat × Nat × Nat} {K : Kt} : (match ldJ o (fun x => some (f x)) with
    | some (ps, pc', L', S', G', z', c', s') => cnd ps (K pc' L' S' G' z' c' s')
    | none => False) = (okJ o ∧ (match f (vJ o) with | (ps, pc', L', S', G', z', c', s') => cnd ps (K pc' L' S' G' z' c' s'))) := by
  cases o with
  | none => simp [ldJ, okJ]
  | some v => cases v <;> simp [ldJ, okJ, vJ]
theorem ldR_c {o : Option Value} {f : Option Nat → List Prop × Nat × Lo × List Value × Mem × Nat × Nat × Nat} {K : Kt} : (match ldR o (fun x => some (f x)) with
    | some (ps, pc', L', S', G', z', c', s') => cnd ps (K pc' L' S' G' z' c' s')
    | none => False) = (okR o ∧ (match f (vR o) with | (ps, pc', L', S', G', z', c', s') => cnd ps (K pc' L' S' G' z' c' s'))) := by
  cases o with
  | none => simp [ldR, okR]
  | some v =>
    cases hv : rOf v with
    | none => simp [ldR, okR, hv]
    | some r => simp [ldR, okR, vR, hv]
theorem q_iload_n (hc : cd j = cc) {k : Fin 4} {i : Nat} (hd : decode cc pc = .ok (.iload_n k, 1)) (hi : (k : Nat) = i) : WP d j R pc L S G z c s = (okI (lgo L i) ∧ WP d j R (pc + 1) L (.int (vI (lgo L i)) :: S) G z c s) := by
  rw [q_eq hc hd]; subst hi; exact ldI_c
theorem q_iload (hc : cd j = cc) {i : Nat} (hd : decode cc pc = .ok (.iload i, 2)) : WP d j R pc L S G z c s = (okI (lgo L i) ∧ WP d j R (pc + 2) L (.int (vI (lgo L i)) :: S) G z c s) := by
  rw [q_eq hc hd]; exact ldI_c
theorem q_lload_n (hc : cd j = cc) {k : Fin 4} {i : Nat} (hd : decode cc pc = .ok (.lload_n k, 1)) (hi : (k : Nat) = i) : WP d j R pc L S G z c s = (okJ (lgo L i) ∧ WP d j R (pc + 1) L (.long (vJ (lgo L i)) :: S) G z c s) := by
  rw [q_eq hc hd]; subst hi; exact ldJ_c
theorem q_aload_n (hc : cd j = cc) {k : Fin 4} {i : Nat} (hd : decode cc pc = .ok (.aload_n k, 1)) (hi : (k : Nat) = i) : WP d j R pc L S G z c s = (okR (lgo L i) ∧ WP d j R (pc + 1) L (va_rf (vR (lgo L i)) :: S) G z c s) := by
  rw [q_eq hc hd]; subst hi; exact ldR_c
theorem q_aload (hc : cd j = cc) {i : Nat} (hd : decode cc pc = .ok (.aload i, 2)) : WP d j R pc L S G z c s = (okR (lgo L i) ∧ WP d j R (pc + 2) L (va_rf (vR (lgo L i)) :: S) G z c s) := by
  rw [q_eq hc hd]; exact ldR_c
theorem q_istore_n (hc : cd j = cc) {k : Fin 4} {i n : Nat} {x : Int32} (hd : decode cc pc = .ok (.istore_n k, 1)) (hi : (k : Nat) = i) (hm : mxL j = n) (hn : i < n) : WP d j R pc L (.int x :: S) G z c s = (noL L i ∧ WP d j R (pc + 1) (lset L i (some (.int x))) S G z c s) := by
  rw [q_eq hc hd]; subst hi; subst hm
  show (_ ∧ _ ∧ _) = _
  simp only [hn, true_and, cnd]
theorem q_istore (hc : cd j = cc) {i n : Nat} {x : Int32} (hd : decode cc pc = .ok (.istore i, 2)) (hm : mxL j = n) (hn : i < n) : WP d j R pc L (.int x :: S) G z c s = (noL L i ∧ WP d j R (pc + 2) (lset L i (some (.int x))) S G z c s) := by
  rw [q_eq hc hd]; subst hm
  show (_ ∧ _ ∧ _) = _
  simp only [hn, true_and, cnd]
theorem q_astore_n (hc : cd j = cc) {k : Fin 4} {i n : Nat} {r : Option Nat} (hd : decode cc pc = .ok (.astore_n k, 1)) (hi : (k : Nat) = i) (hm : mxL j = n) (hn : i < n) : WP d j R pc L (va_rf r :: S) G z c s = (noL L i ∧ WP d j R (pc + 1) (lset L i (some (va_rf r))) S G z c s) := by
  rw [q_eq hc hd]; subst hi; subst hm
  cases r <;> (show (_ ∧ _ ∧ _) = _; simp only [hn, true_and, cnd])
theorem q_astore (hc : cd j = cc) {i n : Nat} {r : Option Nat} (hd : decode cc pc = .ok (.astore i, 2)) (hm : mxL j = n) (hn : i < n) : WP d j R pc L (va_rf r :: S) G z c s = (noL L i ∧ WP d j R (pc + 2) (lset L i (some (va_rf r))) S G z c s) := by
  rw [q_eq hc hd]; subst hm
  cases r <;> (show (_ ∧ _ ∧ _) = _; simp only [hn, true_and, cnd])
theorem q_lstore_n (hc : cd j = cc) {k : Fin 4} {i n : Nat} {x : Int64} (hd : decode cc pc = .ok (.lstore_n k, 1)) (hi : (k : Nat) = i) (hm : mxL j = n) (hn : i + 1 < n) : WP d j R pc L (.long x :: S) G z c s = (noL L i ∧ WP d j R (pc + 1) (lset (lset L i (some (.long x))) (i + 1) none) S G z c s) := by
  rw [q_eq hc hd]; subst hi; subst hm
  show (_ ∧ _ ∧ _) = _
  simp only [hn, true_and, cnd]
theorem q_iinc (hc : cd j = cc) {i n : Nat} {q : Int} {v : Int32} (hd : decode cc pc = .ok (.iinc i q, 3)) (hm : mxL j = n) (hn : i < n) (hv : Int32.ofInt q = v) : WP d j R pc L S G z c s = (okI (lgo L i) ∧ noL L i ∧ WP d j R (pc + 3) (lset L i (some (.int (vI (lgo L i) + v)))) S G z c s) := by
  rw [q_eq hc hd]; subst hm; subst hv
  refine (ldI_c (f := fun x => _)).trans ?_
  show (_ ∧ _ ∧ _ ∧ _) = _
  simp only [hn, true_and, cnd]
theorem q_iadd (hc : cd j = cc) {x y : Int32} (hd : decode cc pc = .ok (.iadd, 1)) : WP d j R pc L (.int y :: .int x :: S) G z c s = WP d j R (pc + 1) L (.int (x + y) :: S) G z c s := by rw [q_eq hc hd]; rfl
theorem q_isub (hc : cd j = cc) {x y : Int32} (hd : decode cc pc = .ok (.isub, 1)) : WP d j R pc L (.int y :: .int x :: S) G z c s = WP d j R (pc + 1) L (.int (x - y) :: S) G z c s := by rw [q_eq hc hd]; rfl
theorem q_imul (hc : cd j = cc) {x y : Int32} (hd : decode cc pc = .ok (.imul, 1)) : WP d j R pc L (.int y :: .int x :: S) G z c s = WP d j R (pc + 1) L (.int (x * y) :: S) G z c s := by rw [q_eq hc hd]; rfl
theorem q_idiv (hc : cd j = cc) {x y : Int32} (hd : decode cc pc = .ok (.idiv, 1)) : WP d j R pc L (.int y :: .int x :: S) G z c s = (¬ y = 0 ∧ WP d j R (pc + 1) L (.int (x / y) :: S) G z c s) := by rw [q_eq hc hd]; rfl
theorem q_iand (hc : cd j = cc) {x y : Int32} (hd : decode cc pc = .ok (.iand, 1)) : WP d j R pc L (.int y :: .int x :: S) G z c s = WP d j R (pc + 1) L (.int (x &&& y) :: S) G z c s := by rw [q_eq hc hd]; rfl
theorem q_ior (hc : cd j = cc) {x y : Int32} (hd : decode cc pc = .ok (.ior, 1)) : WP d j R pc L (.int y :: .int x :: S) G z c s = WP d j R (pc + 1) L (.int (x ||| y) :: S) G z c s := by rw [q_eq hc hd]; rfl
theorem q_ixor (hc : cd j = cc) {x y : Int32} (hd : decode cc pc = .ok (.ixor, 1)) : WP d j R pc L (.int y :: .int x :: S) G z c s = WP d j R (pc + 1) L (.int (x ^^^ y) :: S) G z c s := by rw [q_eq hc hd]; rfl
theorem q_ineg (hc : cd j = cc) {x : Int32} (hd : decode cc pc = .ok (.ineg, 1)) : WP d j R pc L (.int x :: S) G z c s = WP d j R (pc + 1) L (.int (-x) :: S) G z c s := by rw [q_eq hc hd]; rfl
theorem q_ishl (hc : cd j = cc) {x y : Int32} (hd : decode cc pc = .ok (.ishl, 1)) : WP d j R pc L (.int y :: .int x :: S) G z c s = WP d j R (pc + 1) L (.int (x <<< (y &&& 31)) :: S) G z c s := by rw [q_eq hc hd]; rfl
theorem q_ishr (hc : cd j = cc) {x y : Int32} (hd : decode cc pc = .ok (.ishr, 1)) : WP d j R pc L (.int y :: .int x :: S) G z c s = WP d j R (pc + 1) L (.int (x >>> (y &&& 31)) :: S) G z c s := by rw [q_eq hc hd]; rfl
theorem q_iushr (hc : cd j = cc) {x y : Int32} (hd : decode cc pc = .ok (.iushr, 1)) : WP d j R pc L (.int y :: .int x :: S) G z c s = WP d j R (pc + 1) L (.int (x.toUInt32 >>> (y.toUInt32 &&& Int32.toUInt32 31)).toInt32 :: S) G z c s := by rw [q_eq hc hd]; rfl
theorem q_i2b (hc : cd j = cc) {x : Int32} (hd : decode cc pc = .ok (.i2b, 1)) : WP d j R pc L (.int x :: S) G z c s = WP d j R (pc + 1) L (.int x.toInt8.toInt32 :: S) G z c s := by rw [q_eq hc hd]; rfl
theorem q_i2c (hc : cd j = cc) {x : Int32} (hd : decode cc pc = .ok (.i2c, 1)) : WP d j R pc L (.int x :: S) G z c s = WP d j R (pc + 1) L (.int (x.toUInt32 % 65536).toInt32 :: S) G z c s := by rw [q_eq hc hd]; rfl
theorem q_i2l (hc : cd j = cc) {x : Int32} (hd : decode cc pc = .ok (.i2l, 1)) : WP d j R pc L (.int x :: S) G z c s = WP d j R (pc + 1) L (.long x.toInt64 :: S) G z c s := by rw [q_eq hc hd]; rfl
theorem q_lor (hc : cd j = cc) {x y : Int64} (hd : decode cc pc = .ok (.lor, 1)) : WP d j R pc L (.long y :: .long x :: S) G z c s = WP d j R (pc + 1) L (.long (x ||| y) :: S) G z c s := by rw [q_eq hc hd]; rfl
theorem q_lshl (hc : cd j = cc) {x : Int64} {y : Int32} (hd : decode cc pc = .ok (.lshl, 1)) : WP d j R pc L (.int y :: .long x :: S) G z c s = WP d j R (pc + 1) L (.long (x <<< (y.toInt64 &&& 63)) :: S) G z c s := by rw [q_eq hc hd]; rfl
theorem q_lcmp (hc : cd j = cc) {x y : Int64} (hd : decode cc pc = .ok (.lcmp, 1)) : WP d j R pc L (.long y :: .long x :: S) G z c s = WP d j R (pc + 1) L (.int (lg_cmp x y) :: S) G z c s := by rw [q_eq hc hd]; rfl
theorem q_dup (hc : cd j = cc) {v : Value} (hd : decode cc pc = .ok (.dup, 1)) : WP d j R pc L (v :: S) G z c s = (isL v = false ∧ WP d j R (pc + 1) L (v :: v :: S) G z c s) := by rw [q_eq hc hd]; rfl
theorem q_dup2 (hc : cd j = cc) {v w : Value} (hd : decode cc pc = .ok (.dup2, 1)) : WP d j R pc L (v :: w :: S) G z c s = (isL v = false ∧ isL w = false ∧ WP d j R (pc + 1) L (v :: w :: v :: w :: S) G z c s) := by rw [q_eq hc hd]; rfl
theorem q_pop (hc : cd j = cc) {v : Value} (hd : decode cc pc = .ok (.pop, 1)) : WP d j R pc L (v :: S) G z c s = (isL v = false ∧ WP d j R (pc + 1) L S G z c s) := by rw [q_eq hc hd]; rfl
theorem jto_t {pc t : Nat} {off : Int} (h : (pc : Int) + off = t) : jto pc off = t ∧ jok pc off := by
  unfold jto jok
  omega
theorem q_goto (hc : cd j = cc) {off : Int} {t : Nat} (hd : decode cc pc = .ok (.goto off, 3)) (ht : (pc : Int) + off = t) : WP d j R pc L S G z c s = WP d j R t L S G z c s := by
  rw [q_eq hc hd]
  show (jok pc off ∧ WP d j R (jto pc off) L S G z c s) = _
  simp only [jto_t ht, true_and]
theorem wp_ite {p : Prop} [Decidable p] {a b : Nat} : WP d j R (if p then a else b) L S G z c s = if p then WP d j R a L S G z c s else WP d j R b L S G z c s := by split <;> rfl
theorem q_if (hc : cd j = cc) {x : Int32} {cn : Jvm.ClassFile.Cond} {off : Int} {t : Nat} (hd : decode cc pc = .ok (.ifCond cn off, 3)) (ht : (pc : Int) + off = t) : WP d j R pc L (.int x :: S) G z c s = if cIf cn x 0 = true then WP d j R t L S G z c s else WP d j R (pc + 3) L S G z c s := by
  rw [q_eq hc hd, ← wp_ite]
  show (jok pc off ∧ WP d j R (if cIf cn x 0 = true then jto pc off else pc + 3) L S G z c s) = _
  simp only [jto_t ht, true_and]
theorem q_icmp (hc : cd j = cc) {x y : Int32} {cn : Jvm.ClassFile.Cond} {off : Int} {t : Nat} (hd : decode cc pc = .ok (.if_icmp cn off, 3)) (ht : (pc : Int) + off = t) : WP d j R pc L (.int y :: .int x :: S) G z c s = if cIf cn x y = true then WP d j R t L S G z c s else WP d j R (pc + 3) L S G z c s := by
  rw [q_eq hc hd, ← wp_ite]
  show (jok pc off ∧ WP d j R (if cIf cn x y = true then jto pc off else pc + 3) L S G z c s) = _
  simp only [jto_t ht, true_and]
theorem q_ifnull (hc : cd j = cc) {r : Option Nat} {off : Int} {t : Nat} (hd : decode cc pc = .ok (.ifnull off, 3)) (ht : (pc : Int) + off = t) : WP d j R pc L (va_rf r :: S) G z c s = if r = none then WP d j R t L S G z c s else WP d j R (pc + 3) L S G z c s := by
  rw [q_eq hc hd, ← wp_ite]
  cases r <;> (show (jok pc off ∧ WP d j R (if _ = none then jto pc off else pc + 3) L S G z c s) = _; simp only [jto_t ht, true_and])
theorem q_ifnonnull (hc : cd j = cc) {r : Option Nat} {off : Int} {t : Nat} (hd : decode cc pc = .ok (.ifnonnull off, 3)) (ht : (pc : Int) + off = t) : WP d j R pc L (va_rf r :: S) G z c s = if r = none then WP d j R (pc + 3) L S G z c s else WP d j R t L S G z c s := by
  rw [q_eq hc hd, ← wp_ite]
  cases r <;> (show (jok pc off ∧ WP d j R (if _ = none then pc + 3 else jto pc off) L S G z c s) = _; simp only [jto_t ht, true_and])
theorem q_acmpeq (hc : cd j = cc) {x y : Option Nat} {off : Int} {t : Nat} (hd : decode cc pc = .ok (.if_acmp .eq off, 3)) (ht : (pc : Int) + off = t) : WP d j R pc L (va_rf y :: va_rf x :: S) G z c s = if x = y then WP d j R t L S G z c s else WP d j R (pc + 3) L S G z c s := by
  rw [q_eq hc hd, ← wp_ite]
  cases x <;> cases y <;> (show (jok pc off ∧ WP d j R (if _ = _ then jto pc off else pc + 3) L S G z c s) = _; simp only [jto_t ht, true_and])
theorem q_acmpne (hc : cd j = cc) {x y : Option Nat} {off : Int} {t : Nat} (hd : decode cc pc = .ok (.if_acmp .ne off, 3)) (ht : (pc : Int) + off = t) : WP d j R pc L (va_rf y :: va_rf x :: S) G z c s = if x = y then WP d j R (pc + 3) L S G z c s else WP d j R t L S G z c s := by
  rw [q_eq hc hd, ← wp_ite]
  cases x <;> cases y <;> (show (jok pc off ∧ WP d j R (if _ = _ then pc + 3 else jto pc off) L S G z c s) = _; simp only [jto_t ht, true_and])
theorem q_tsw (hc : cd j = cc) {x : Int32} {dflt lo hi : Int} {offs : Array Int} {len : Nat} (hd : decode cc pc = .ok (.tableswitch dflt lo hi offs, len)) : WP d j R pc L (.int x :: S) G z c s = (tswok lo hi offs x ∧ jok pc (tsw pc dflt lo hi offs x) ∧ WP d j R (jto pc (tsw pc dflt lo hi offs x)) L S G z c s) := by rw [q_eq hc hd]; rfl
theorem q_getI (hc : cd j = cc) {i o ci k a : Nat} (hd : decode cc pc = .ok (.getfield i, 3)) (ho : ow j = o) (hf : fr o i = some (ci, k)) (h9 : ci < 9 ∧ k < nF ci ∧ isR ci k = false) : WP d j R pc L (va_rf (some a) :: S) G z c s = (mK G a = ci ∧ WP d j R (pc + 3) L (.int (mI G ci k a) :: S) G z c s) := by
  rw [q_eq hc hd]; subst ho
  simp only [istep, inext, hf, va_rf, popA, if_pos h9.1, if_pos h9.2.1, h9.2.2, Bool.false_eq_true, if_false, cnd]
theorem q_getR (hc : cd j = cc) {i o ci k a : Nat} (hd : decode cc pc = .ok (.getfield i, 3)) (ho : ow j = o) (hf : fr o i = some (ci, k)) (h9 : ci < 9 ∧ k < nF ci ∧ isR ci k = true) : WP d j R pc L (va_rf (some a) :: S) G z c s = (mK G a = ci ∧ WP d j R (pc + 3) L (va_rf (mR G ci k a) :: S) G z c s) := by
  rw [q_eq hc hd]; subst ho
  show (match inext j (.getfield i, 3) pc L (Value.ref a :: S) G z c s with
    | some (ps, pc', L', S', G', z', c', s') => cnd ps (WP d j R pc' L' S' G' z' c' s')
    | none => False) = _
  simp only [inext, hf, popA, if_pos h9.1, if_pos h9.2.1, h9.2.2, if_true, cnd]
theorem q_getS0 (hc : cd j = cc) {i o a : Nat} (hd : decode cc pc = .ok (.getfield i, 3)) (ho : ow j = o) (hf : fr o i = some (30, 0)) : WP d j R pc L (va_rf (some a) :: S) G z c s = (mI G 33 0 a = 1 ∧ WP d j R (pc + 3) L (va_rf (mR G 30 0 a) :: S) G z c s) := by
  rw [q_eq hc hd]; subst ho
  show (match inext j (.getfield i, 3) pc L (Value.ref a :: S) G z c s with
    | some (ps, pc', L', S', G', z', c', s') => cnd ps (WP d j R pc' L' S' G' z' c' s')
    | none => False) = _
  simp only [inext, hf, popA]
  rfl
theorem q_getS1 (hc : cd j = cc) {i o a : Nat} (hd : decode cc pc = .ok (.getfield i, 3)) (ho : ow j = o) (hf : fr o i = some (30, 1)) : WP d j R pc L (va_rf (some a) :: S) G z c s = (mI G 33 0 a = 1 ∧ WP d j R (pc + 3) L (.int (mI G 30 1 a) :: S) G z c s) := by
  rw [q_eq hc hd]; subst ho
  show (match inext j (.getfield i, 3) pc L (Value.ref a :: S) G z c s with
    | some (ps, pc', L', S', G', z', c', s') => cnd ps (WP d j R pc' L' S' G' z' c' s')
    | none => False) = _
  simp only [inext, hf, popA]
  rfl
theorem q_gets0 (hc : cd j = cc) {i o : Nat} (hd : decode cc pc = .ok (.getstatic i, 3)) (ho : ow j = o) (hf : fr o i = some (32, 0)) : WP d j R pc L S G z c s = WP d j R (pc + 3) L (.int 1 :: S) G z c s := by
  rw [q_eq hc hd]; subst ho; simp only [istep, inext, hf, cnd]
theorem q_gets1 (hc : cd j = cc) {i o : Nat} (hd : decode cc pc = .ok (.getstatic i, 3)) (ho : ow j = o) (hf : fr o i = some (32, 1)) : WP d j R pc L S G z c s = WP d j R (pc + 3) L (va_rf (mR G 32 1 0) :: S) G z c s := by
  rw [q_eq hc hd]; subst ho; simp only [istep, inext, hf, cnd]
theorem q_putI (hc : cd j = cc) {i o ci k a : Nat} {v : Int32} (hd : decode cc pc = .ok (.putfield i, 3)) (ho : ow j = o) (hf : fr o i = some (ci, k)) (h9 : ci < 9 ∧ k < nF ci ∧ fnl j ci k = true) (ht : tyC ci k = .int) : WP d j R pc L (.int v :: va_rf (some a) :: S) G z c s = (mK G a = ci ∧ WP d j R (pc + 3) L S (pI G ci k a v) z c s) := by
  rw [q_eq hc hd]; subst ho
  have hr : isR ci k = false := by unfold isR; rw [ht]
  show (match inext j (.putfield i, 3) pc L (.int v :: Value.ref a :: S) G z c s with
    | some (ps, pc', L', S', G', z', c', s') => cnd ps (WP d j R pc' L' S' G' z' c' s')
    | none => False) = _
  simp only [inext, hf, popA, popI, if_pos h9, hr, Bool.false_eq_true, if_false, cnd, fOk, ht]
  have h1 : (narrow .int (.int v) = .int v ∧ fits .int (.int v) = true) = True := eq_true ⟨rfl, rfl⟩
  rw [h1, true_and]
theorem q_putZ (hc : cd j = cc) {i o ci k a : Nat} {v : Int32} (hd : decode cc pc = .ok (.putfield i, 3)) (ho : ow j = o) (hf : fr o i = some (ci, k)) (h9 : ci < 9 ∧ k < nF ci ∧ fnl j ci k = true) (ht : tyC ci k = .boolean) : WP d j R pc L (.int v :: va_rf (some a) :: S) G z c s = (mK G a = ci ∧ (v = 0 ∨ v = 1) ∧ WP d j R (pc + 3) L S (pI G ci k a v) z c s) := by
  rw [q_eq hc hd]; subst ho
  have hr : isR ci k = false := by unfold isR; rw [ht]
  show (match inext j (.putfield i, 3) pc L (.int v :: Value.ref a :: S) G z c s with
    | some (ps, pc', L', S', G', z', c', s') => cnd ps (WP d j R pc' L' S' G' z' c' s')
    | none => False) = _
  simp only [inext, hf, popA, popI, if_pos h9, hr, Bool.false_eq_true, if_false, cnd, fOk, ht]
  have h1 : (narrow .boolean (.int v) = .int v ∧ fits .boolean (.int v) = true) = (v = 0 ∨ v = 1) := by
    refine propext ⟨fun h => ?_, fun h => ?_⟩
    · have := h.2
      simpa [fits] using this
    · rcases h with rfl | rfl <;> exact ⟨by decide, by decide⟩
  rw [h1]
theorem q_putR (hc : cd j = cc) {i o ci k a : Nat} {r : Option Nat} (hd : decode cc pc = .ok (.putfield i, 3)) (ho : ow j = o) (hf : fr o i = some (ci, k)) (h9 : ci < 9 ∧ k < nF ci ∧ fnl j ci k = true) (hr : isR ci k = true) : WP d j R pc L (va_rf r :: va_rf (some a) :: S) G z c s = (mK G a = ci ∧ WP d j R (pc + 3) L S (pR G ci k a r) z c s) := by
  rw [q_eq hc hd]; subst ho
  show (match inext j (.putfield i, 3) pc L (va_rf r :: Value.ref a :: S) G z c s with
    | some (ps, pc', L', S', G', z', c', s') => cnd ps (WP d j R pc' L' S' G' z' c' s')
    | none => False) = _
  simp only [inext, hf, popA, popR, rOf_rf, if_pos h9, hr, if_true, cnd]
theorem q_iald (hc : cd j = cc) {i : Int32} {a : Nat} (hd : decode cc pc = .ok (.iaload, 1)) : WP d j R pc L (.int i :: va_rf (some a) :: S) G z c s = ((mK G a = 20 ∨ mK G a = 25) ∧ vp_in i (mN G a) ∧ WP d j R (pc + 1) L (.int (mE G a i.toNatClampNeg) :: S) G z c s) := by rw [q_eq hc hd]; rfl
theorem q_bald (hc : cd j = cc) {i : Int32} {a : Nat} (hd : decode cc pc = .ok (.baload, 1)) : WP d j R pc L (.int i :: va_rf (some a) :: S) G z c s = ((mK G a = 21 ∨ mK G a = 22 ∨ mK G a = 26) ∧ vp_in i (mN G a) ∧ WP d j R (pc + 1) L (.int (mE G a i.toNatClampNeg) :: S) G z c s) := by rw [q_eq hc hd]; rfl
theorem q_aald (hc : cd j = cc) {i : Int32} {a : Nat} (hd : decode cc pc = .ok (.aaload, 1)) : WP d j R pc L (.int i :: va_rf (some a) :: S) G z c s = ((mK G a = 23 ∨ mK G a = 24) ∧ vp_in i (mN G a) ∧ WP d j R (pc + 1) L (va_rf (mQ G a i.toNatClampNeg) :: S) G z c s) := by rw [q_eq hc hd]; rfl
theorem q_iast (hc : cd j = cc) {i x : Int32} {a : Nat} (hd : decode cc pc = .ok (.iastore, 1)) : WP d j R pc L (.int x :: .int i :: va_rf (some a) :: S) G z c s = (mK G a = 20 ∧ vp_in i (mN G a) ∧ WP d j R (pc + 1) L S (pE G a i.toNatClampNeg x) z c s) := by rw [q_eq hc hd]; rfl
theorem q_bast (hc : cd j = cc) {i x : Int32} {a : Nat} (hd : decode cc pc = .ok (.bastore, 1)) : WP d j R pc L (.int x :: .int i :: va_rf (some a) :: S) G z c s = ((mK G a = 21 ∨ mK G a = 22) ∧ vp_in i (mN G a) ∧ WP d j R (pc + 1) L S (pE G a i.toNatClampNeg (if mK G a = 22 then x &&& 1 else x.toInt8.toInt32)) z c s) := by rw [q_eq hc hd]; rfl
theorem q_aast (hc : cd j = cc) {i : Int32} {r : Option Nat} {a : Nat} (hd : decode cc pc = .ok (.aastore, 1)) : WP d j R pc L (va_rf r :: .int i :: va_rf (some a) :: S) G z c s = (((mK G a = 23 ∧ ∀ b, r = some b → mK G b = 4) ∨ (mK G a = 24 ∧ ∀ b, r = some b → mK G b = 6)) ∧ vp_in i (mN G a) ∧ WP d j R (pc + 1) L S (pQ G a i.toNatClampNeg r) z c s) := by
  rw [q_eq hc hd]; cases r <;> rfl
theorem q_alen (hc : cd j = cc) {a : Nat} (hd : decode cc pc = .ok (.arraylength, 1)) : WP d j R pc L (va_rf (some a) :: S) G z c s = ((20 ≤ mK G a ∧ mK G a ≤ 26) ∧ WP d j R (pc + 1) L (.int (Int32.ofNat (mN G a)) :: S) G z c s) := by rw [q_eq hc hd]; rfl
theorem q_newa (hc : cd j = cc) {at_ : ArrayType} {kd mc ms : Nat} {n : Int32} (hd : decode cc pc = .ok (.newarray at_, 2)) (hk : akP at_ = some kd) (hm : mcq j = mc) (hs : msq j = ms) : WP d j R pc L (.int n :: S) G z c s = (¬ n < 0 ∧ n.toNatClampNeg ≤ 100000 ∧ c + 1 ≤ mc ∧ s + n.toNatClampNeg ≤ ms ∧ WP d j R (pc + 2) L (va_rf (some z) :: S) (nA G z kd n.toNatClampNeg) (z + 1) (c + 1) (s + n.toNatClampNeg)) := by
  rw [q_eq hc hd]; subst hm; subst hs
  simp only [istep, inext, hk, popI, cnd, va_rf]
theorem q_anew (hc : cd j = cc) {i o ci kd mc ms : Nat} {n : Int32} (hd : decode cc pc = .ok (.anewarray i, 3)) (ho : ow j = o) (hf : cr o i = some ci) (hk : akO ci = some kd) (hm : mcq j = mc) (hs : msq j = ms) : WP d j R pc L (.int n :: S) G z c s = (¬ n < 0 ∧ n.toNatClampNeg ≤ 100000 ∧ c + 1 ≤ mc ∧ s + n.toNatClampNeg ≤ ms ∧ WP d j R (pc + 3) L (va_rf (some z) :: S) (nA G z kd n.toNatClampNeg) (z + 1) (c + 1) (s + n.toNatClampNeg)) := by
  rw [q_eq hc hd]; subst ho; subst hm; subst hs
  simp only [istep, inext, hf, hk, popI, cnd, va_rf]
theorem q_new (hc : cd j = cc) {i o ci mc ms n : Nat} (hd : decode cc pc = .ok (.new i, 3)) (ho : ow j = o) (hf : cr o i = some ci) (h9 : ci < 9) (hm : mcq j = mc) (hs : msq j = ms) (hn : nF ci = n) : WP d j R pc L S G z c s = (c + 1 ≤ mc ∧ s + n ≤ ms ∧ WP d j R (pc + 3) L (va_rf (some z) :: S) (nO G z ci) (z + 1) (c + 1) (s + n)) := by
  rw [q_eq hc hd]; subst ho; subst hm; subst hs; subst hn
  simp only [istep, inext, hf, if_pos h9, cnd, va_rf]
theorem q_iret (hc : cd j = cc) {mc ms : Nat} {v : Int32} (hd : decode cc pc = .ok (.ireturn, 1)) (ht : mrt j = some .int) (hm : mcq j = mc) (hs : msq j = ms) : WP d j R pc L [.int v] G z c s = (c ≤ mc ∧ s ≤ ms ∧ R (some (.int v)) G z) := by
  rw [q_eq hc hd]; subst hm; subst hs
  simp only [istep, ht]
  have h1 : (narrow .int (.int v) = .int v) = True := eq_true rfl
  rw [h1, true_and]
theorem q_nret (hc : cd j = cc) {mc ms : Nat} {v : Int32} {ty : FieldType} (hd : decode cc pc = .ok (.ireturn, 1)) (ht : mrt j = some ty) (hm : mcq j = mc) (hs : msq j = ms) : WP d j R pc L [.int v] G z c s = (narrow ty (.int v) = .int v ∧ c ≤ mc ∧ s ≤ ms ∧ R (some (.int v)) G z) := by
  rw [q_eq hc hd]; subst hm; subst hs
  simp only [istep, ht]
theorem q_lret (hc : cd j = cc) {mc ms : Nat} {v : Int64} (hd : decode cc pc = .ok (.lreturn, 1)) (ht : mrt j = some .long) (hm : mcq j = mc) (hs : msq j = ms) : WP d j R pc L [.long v] G z c s = (c ≤ mc ∧ s ≤ ms ∧ R (some (.long v)) G z) := by
  rw [q_eq hc hd]; subst hm; subst hs
  simp only [istep, ht]
theorem q_aret (hc : cd j = cc) {mc ms : Nat} {r : Option Nat} {nm : String} (hd : decode cc pc = .ok (.areturn, 1)) (ht : mrt j = some (.object nm)) (hm : mcq j = mc) (hs : msq j = ms) : WP d j R pc L [va_rf r] G z c s = (c ≤ mc ∧ s ≤ ms ∧ R (some (va_rf r)) G z) := by
  rw [q_eq hc hd]; subst hm; subst hs
  simp only [istep, ht, rOf_rf, Option.isSome_some, true_and]
theorem q_vret (hc : cd j = cc) {mc ms : Nat} (hd : decode cc pc = .ok (.return_, 1)) (ht : mrt j = none) (hm : mcq j = mc) (hs : msq j = ms) : WP d j R pc L [] G z c s = (c ≤ mc ∧ s ≤ ms ∧ R none G z) := by
  rw [q_eq hc hd]; subst hm; subst hs
  simp only [istep, ht]
/-- a call by the object: the arguments as they stand on the stack, the last on top -/
theorem q_callV (hc : cd j = cc) {i o j2 b n mc ms mc2 ms2 : Nat} {as : List Value} (hd : decode cc pc = .ok (.invokevirtual i, 3)) (ho : ow j = o) (hr : mr o i = some (0, j2)) (hn : npq j2 = n) (ha : as.length = n) (he : (entL (va_rf (some b) :: as.reverse)).length ≤ mxL j2) (hm : mcq j = mc) (hs : msq j = ms) (hm2 : mcq j2 = mc2) (hs2 : msq j2 = ms2) :
    WP d j R pc L (as ++ va_rf (some b) :: S) G z c s = (rcv G b j2 ∧ S.length ≤ 4 ∧ c + mc2 ≤ mc ∧ s + ms2 ≤ ms ∧ CALL d j2 (va_rf (some b) :: as.reverse) G z (rtn d j R (pc + 3) L S (c + mc2) (s + ms2))) := by
  rw [q_eq hc hd]; subst ho; subst hm; subst hs; subst hm2; subst hs2; subst hn
  simp only [istep, hr, List.drop_left' ha, List.take_left' ha]
  show (rcv G b j2 ∧ icall (CALL d) j j2 pc L (va_rf (some b) :: as.reverse) S G z c s (WP d j R)) = _
  simp only [icall, he, and_true]
  rfl
theorem q_callS (hc : cd j = cc) {i o j2 n mc ms mc2 ms2 : Nat} {as : List Value} (hd : decode cc pc = .ok (.invokestatic i, 3)) (ho : ow j = o) (hr : mr o i = some (1, j2) ∨ mr o i = some (3, j2)) (hn : npq j2 = n) (ha : as.length = n) (he : (entL as.reverse).length ≤ mxL j2) (hm : mcq j = mc) (hs : msq j = ms) (hm2 : mcq j2 = mc2) (hs2 : msq j2 = ms2) :
    WP d j R pc L (as ++ S) G z c s = (S.length ≤ 4 ∧ c + mc2 ≤ mc ∧ s + ms2 ≤ ms ∧ CALL d j2 as.reverse G z (rtn d j R (pc + 3) L S (c + mc2) (s + ms2))) := by
  rw [q_eq hc hd]; subst ho; subst hm; subst hs; subst hm2; subst hs2; subst hn
  have hl : npq j2 ≤ (as ++ S).length := by rw [List.length_append]; omega
  rcases hr with hr | hr <;>
  · simp only [istep, hr, List.drop_left' ha, List.take_left' ha, hl, true_and, icall, he, and_true]
    rfl
theorem q_callI (hc : cd j = cc) {i o j2 b n mc ms mc2 ms2 : Nat} {as : List Value} (hd : decode cc pc = .ok (.invokespecial i, 3)) (ho : ow j = o) (hr : mr o i = some (2, j2)) (hn : npq j2 = n) (ha : as.length = n) (he : (entL (va_rf (some b) :: as.reverse)).length ≤ mxL j2) (hm : mcq j = mc) (hs : msq j = ms) (hm2 : mcq j2 = mc2) (hs2 : msq j2 = ms2) :
    WP d j R pc L (as ++ va_rf (some b) :: S) G z c s = (S.length ≤ 4 ∧ c + mc2 ≤ mc ∧ s + ms2 ≤ ms ∧ CALL d j2 (va_rf (some b) :: as.reverse) G z (rtn d j R (pc + 3) L S (c + mc2) (s + ms2))) := by
  rw [q_eq hc hd]; subst ho; subst hm; subst hs; subst hm2; subst hs2; subst hn
  simp only [istep, hr, List.drop_left' ha, List.take_left' ha]
  show (icall (CALL d) j j2 pc L (va_rf (some b) :: as.reverse) S G z c s (WP d j R)) = _
  simp only [icall, he, and_true]
  rfl
theorem q_obj (hc : cd j = cc) {i o j2 b : Nat} (hd : decode cc pc = .ok (.invokespecial i, 3)) (ho : ow j = o) (hr : mr o i = some (4, j2)) : WP d j R pc L (va_rf (some b) :: S) G z c s = (S.length ≤ 4 ∧ WP d j R (pc + 3) L S G z c s) := by
  rw [q_eq hc hd]; subst ho
  simp only [istep, hr, va_rf]
theorem q_min (hc : cd j = cc) {i o j2 mc ms : Nat} {x y : Int32} (hd : decode cc pc = .ok (.invokestatic i, 3)) (ho : ow j = o) (hr : mr o i = some (5, j2)) (hm : mcq j = mc) (hs : msq j = ms) : WP d j R pc L (.int y :: .int x :: S) G z c s = (S.length ≤ 4 ∧ c ≤ mc ∧ s ≤ ms ∧ WP d j R (pc + 3) L (.int (if y < x then y else x) :: S) G z c s) := by
  rw [q_eq hc hd]; subst ho; subst hm; subst hs
  simp only [istep, hr]
theorem q_abs (hc : cd j = cc) {i o j2 mc ms : Nat} {x : Int32} (hd : decode cc pc = .ok (.invokestatic i, 3)) (ho : ow j = o) (hr : mr o i = some (6, j2)) (hm : mcq j = mc) (hs : msq j = ms) : WP d j R pc L (.int x :: S) G z c s = (S.length ≤ 4 ∧ c ≤ mc ∧ s ≤ ms ∧ WP d j R (pc + 3) L (.int (if 0 ≤ x then x else 0 - x) :: S) G z c s) := by
  rw [q_eq hc hd]; subst ho; subst hm; subst hs
  simp only [istep, hr]
theorem q_ifeq (hc : cd j = cc) {x : Int32} {off : Int} {t : Nat} (hd : decode cc pc = .ok (.ifCond .eq off, 3)) (ht : (pc : Int) + off = t) : WP d j R pc L (.int x :: S) G z c s = if x = 0 then WP d j R t L S G z c s else WP d j R (pc + 3) L S G z c s := by
  rw [q_if hc hd ht]; simp only [cIf, decide_eq_true_eq]
theorem q_ifne (hc : cd j = cc) {x : Int32} {off : Int} {t : Nat} (hd : decode cc pc = .ok (.ifCond .ne off, 3)) (ht : (pc : Int) + off = t) : WP d j R pc L (.int x :: S) G z c s = if x = 0 then WP d j R (pc + 3) L S G z c s else WP d j R t L S G z c s := by
  rw [q_if hc hd ht]; simp only [cIf, decide_eq_true_eq, ite_not]
theorem q_iflt (hc : cd j = cc) {x : Int32} {off : Int} {t : Nat} (hd : decode cc pc = .ok (.ifCond .lt off, 3)) (ht : (pc : Int) + off = t) : WP d j R pc L (.int x :: S) G z c s = if x < 0 then WP d j R t L S G z c s else WP d j R (pc + 3) L S G z c s := by
  rw [q_if hc hd ht]; simp only [cIf, decide_eq_true_eq]
theorem q_ifge (hc : cd j = cc) {x : Int32} {off : Int} {t : Nat} (hd : decode cc pc = .ok (.ifCond .ge off, 3)) (ht : (pc : Int) + off = t) : WP d j R pc L (.int x :: S) G z c s = if 0 ≤ x then WP d j R t L S G z c s else WP d j R (pc + 3) L S G z c s := by
  rw [q_if hc hd ht]; simp only [cIf, decide_eq_true_eq]
theorem q_ifgt (hc : cd j = cc) {x : Int32} {off : Int} {t : Nat} (hd : decode cc pc = .ok (.ifCond .gt off, 3)) (ht : (pc : Int) + off = t) : WP d j R pc L (.int x :: S) G z c s = if 0 < x then WP d j R t L S G z c s else WP d j R (pc + 3) L S G z c s := by
  rw [q_if hc hd ht]; simp only [cIf, decide_eq_true_eq]
theorem q_ifle (hc : cd j = cc) {x : Int32} {off : Int} {t : Nat} (hd : decode cc pc = .ok (.ifCond .le off, 3)) (ht : (pc : Int) + off = t) : WP d j R pc L (.int x :: S) G z c s = if x ≤ 0 then WP d j R t L S G z c s else WP d j R (pc + 3) L S G z c s := by
  rw [q_if hc hd ht]; simp only [cIf, decide_eq_true_eq]
theorem q_iceq (hc : cd j = cc) {x y : Int32} {off : Int} {t : Nat} (hd : decode cc pc = .ok (.if_icmp .eq off, 3)) (ht : (pc : Int) + off = t) : WP d j R pc L (.int y :: .int x :: S) G z c s = if x = y then WP d j R t L S G z c s else WP d j R (pc + 3) L S G z c s := by
  rw [q_icmp hc hd ht]; simp only [cIf, decide_eq_true_eq]
theorem q_icne (hc : cd j = cc) {x y : Int32} {off : Int} {t : Nat} (hd : decode cc pc = .ok (.if_icmp .ne off, 3)) (ht : (pc : Int) + off = t) : WP d j R pc L (.int y :: .int x :: S) G z c s = if x = y then WP d j R (pc + 3) L S G z c s else WP d j R t L S G z c s := by
  rw [q_icmp hc hd ht]; simp only [cIf, decide_eq_true_eq, ite_not]
theorem q_iclt (hc : cd j = cc) {x y : Int32} {off : Int} {t : Nat} (hd : decode cc pc = .ok (.if_icmp .lt off, 3)) (ht : (pc : Int) + off = t) : WP d j R pc L (.int y :: .int x :: S) G z c s = if x < y then WP d j R t L S G z c s else WP d j R (pc + 3) L S G z c s := by
  rw [q_icmp hc hd ht]; simp only [cIf, decide_eq_true_eq]
theorem q_icge (hc : cd j = cc) {x y : Int32} {off : Int} {t : Nat} (hd : decode cc pc = .ok (.if_icmp .ge off, 3)) (ht : (pc : Int) + off = t) : WP d j R pc L (.int y :: .int x :: S) G z c s = if y ≤ x then WP d j R t L S G z c s else WP d j R (pc + 3) L S G z c s := by
  rw [q_icmp hc hd ht]; simp only [cIf, decide_eq_true_eq]
theorem q_icgt (hc : cd j = cc) {x y : Int32} {off : Int} {t : Nat} (hd : decode cc pc = .ok (.if_icmp .gt off, 3)) (ht : (pc : Int) + off = t) : WP d j R pc L (.int y :: .int x :: S) G z c s = if y < x then WP d j R t L S G z c s else WP d j R (pc + 3) L S G z c s := by
  rw [q_icmp hc hd ht]; simp only [cIf, decide_eq_true_eq]
theorem q_icle (hc : cd j = cc) {x y : Int32} {off : Int} {t : Nat} (hd : decode cc pc = .ok (.if_icmp .le off, 3)) (ht : (pc : Int) + off = t) : WP d j R pc L (.int y :: .int x :: S) G z c s = if x ≤ y then WP d j R t L S G z c s else WP d j R (pc + 3) L S G z c s := by
  rw [q_icmp hc hd ht]; simp only [cIf, decide_eq_true_eq]
end QR
