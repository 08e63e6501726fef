/-! THE ABSTRACT MACHINE: a typed memory, one step of an instruction over it, and WP: the least predicate that is closed under the steps -/
abbrev Mem : Type := (Nat → Nat) × (Nat → Nat → Nat → Int32) × (Nat → Nat → Nat → Option Nat) × (Nat → Nat) × (Nat → Nat → Int32) × (Nat → Nat → Option Nat)
/-- kind of the cell at an address: a class's number; 20 int[], 21 byte[], 22 boolean[], 23 Hall[], 24 Turn[]; 25 the script, 26 a text's bytes; others: not known. Field 33 0 is 1 at a text -/
def mK (G : Mem) (a : Nat) : Nat := G.1 a
def mI (G : Mem) (ci k a : Nat) : Int32 := G.2.1 ci k a
def mR (G : Mem) (ci k a : Nat) : Option Nat := G.2.2.1 ci k a
def mN (G : Mem) (a : Nat) : Nat := G.2.2.2.1 a
def mE (G : Mem) (a i : Nat) : Int32 := G.2.2.2.2.1 a i
def mQ (G : Mem) (a i : Nat) : Option Nat := G.2.2.2.2.2 a i
def pI (G : Mem) (ci k a : Nat) (v : Int32) : Mem := (G.1, (fun c' k' a' => if c' = ci ∧ k' = k ∧ a' = a then v else G.2.1 c' k' a'), G.2.2)
def pR (G : Mem) (ci k a : Nat) (v : Option Nat) : Mem := (G.1, G.2.1, (fun c' k' a' => if c' = ci ∧ k' = k ∧ a' = a then v else G.2.2.1 c' k' a'), G.2.2.2)
def pE (G : Mem) (a i : Nat) (v : Int32) : Mem := (G.1, G.2.1, G.2.2.1, G.2.2.2.1, (fun a' i' => if a' = a ∧ i' = i then v else G.2.2.2.2.1 a' i'), G.2.2.2.2.2)
def pQ (G : Mem) (a i : Nat) (v : Option Nat) : Mem := (G.1, G.2.1, G.2.2.1, G.2.2.2.1, G.2.2.2.2.1, (fun a' i' => if a' = a ∧ i' = i then v else G.2.2.2.2.2 a' i'))
/-- a new object: its fields are 0 and null -/
def nO (G : Mem) (a ci : Nat) : Mem := ((fun a' => if a' = a then ci else G.1 a'), (fun c' k' a' => if a' = a then 0 else G.2.1 c' k' a'), (fun c' k' a' => if a' = a then none else G.2.2.1 c' k' a'), G.2.2.2)
/-- a new array -/
def nA (G : Mem) (a kd n : Nat) : Mem := ((fun a' => if a' = a then kd else G.1 a'), G.2.1, G.2.2.1, (fun a' => if a' = a then n else G.2.2.2.1 a'), (fun a' i' => if a' = a then 0 else G.2.2.2.2.1 a' i'), (fun a' i' => if a' = a then none else G.2.2.2.2.2 a' i'))
/-- what is read behind what was written -/
theorem memS : (∀ G ci k a v b, mK (pI G ci k a v) b = mK G b) ∧ (∀ G ci k a v b, mK (pR G ci k a v) b = mK G b) ∧ (∀ G a i v b, mK (pE G a i v) b = mK G b) ∧ (∀ G a i v b, mK (pQ G a i v) b = mK G b)
    ∧ (∀ G a ci b, mK (nO G a ci) b = if b = a then ci else mK G b) ∧ (∀ G a kd n b, mK (nA G a kd n) b = if b = a then kd else mK G b)
    ∧ (∀ G ci k a v b, mN (pI G ci k a v) b = mN G b) ∧ (∀ G ci k a v b, mN (pR G ci k a v) b = mN G b) ∧ (∀ G a i v b, mN (pE G a i v) b = mN G b) ∧ (∀ G a i v b, mN (pQ G a i v) b = mN G b)
    ∧ (∀ G a ci b, mN (nO G a ci) b = mN G b) ∧ (∀ G a kd n b, mN (nA G a kd n) b = if b = a then n else mN G b)
    ∧ (∀ G ci k a v c' k' b, mI (pI G ci k a v) c' k' b = if c' = ci ∧ k' = k ∧ b = a then v else mI G c' k' b) ∧ (∀ G ci k a v c' k' b, mI (pR G ci k a v) c' k' b = mI G c' k' b) ∧ (∀ G a i v c' k' b, mI (pE G a i v) c' k' b = mI G c' k' b) ∧ (∀ G a i v c' k' b, mI (pQ G a i v) c' k' b = mI G c' k' b)
    ∧ (∀ G a ci c' k' b, mI (nO G a ci) c' k' b = if b = a then 0 else mI G c' k' b) ∧ (∀ G a kd n c' k' b, mI (nA G a kd n) c' k' b = mI G c' k' b)
    ∧ (∀ G ci k a v c' k' b, mR (pI G ci k a v) c' k' b = mR G c' k' b) ∧ (∀ G ci k a v c' k' b, mR (pR G ci k a v) c' k' b = if c' = ci ∧ k' = k ∧ b = a then v else mR G c' k' b) ∧ (∀ G a i v c' k' b, mR (pE G a i v) c' k' b = mR G c' k' b) ∧ (∀ G a i v c' k' b, mR (pQ G a i v) c' k' b = mR G c' k' b)
    ∧ (∀ G a ci c' k' b, mR (nO G a ci) c' k' b = if b = a then none else mR G c' k' b) ∧ (∀ G a kd n c' k' b, mR (nA G a kd n) c' k' b = mR G c' k' b)
    ∧ (∀ G ci k a v b i', mE (pI G ci k a v) b i' = mE G b i') ∧ (∀ G ci k a v b i', mE (pR G ci k a v) b i' = mE G b i') ∧ (∀ G a i v b i', mE (pE G a i v) b i' = if b = a ∧ i' = i then v else mE G b i') ∧ (∀ G a i v b i', mE (pQ G a i v) b i' = mE G b i')
    ∧ (∀ G a ci b i', mE (nO G a ci) b i' = mE G b i') ∧ (∀ G a kd n b i', mE (nA G a kd n) b i' = if b = a then 0 else mE G b i')
    ∧ (∀ G ci k a v b i', mQ (pI G ci k a v) b i' = mQ G b i') ∧ (∀ G ci k a v b i', mQ (pR G ci k a v) b i' = mQ G b i') ∧ (∀ G a i v b i', mQ (pE G a i v) b i' = mQ G b i') ∧ (∀ G a i v b i', mQ (pQ G a i v) b i' = if b = a ∧ i' = i then v else mQ G b i')
    ∧ (∀ G a ci b i', mQ (nO G a ci) b i' = mQ G b i') ∧ (∀ G a kd n b i', mQ (nA G a kd n) b i' = if b = a then none else mQ G b i') := by
  refine ⟨?_, ?_, ?_, ?_, ?_, ?_, ?_, ?_, ?_, ?_, ?_, ?_, ?_, ?_, ?_, ?_, ?_, ?_, ?_, ?_, ?_, ?_, ?_, ?_, ?_, ?_, ?_, ?_, ?_, ?_, ?_, ?_, ?_, ?_, ?_, ?_⟩ <;> intros <;> rfl
abbrev Lo : Type := List (Option Value)
def lgo : Lo → Nat → Option Value
  | [], _ => none
  | o :: _, 0 => o
  | _ :: L, n + 1 => lgo L n
def lset : Lo → Nat → Option Value → Lo
  | [], _, _ => []
  | _ :: L, 0, v => v :: L
  | o :: L, n + 1, v => o :: lset L n v
/-- a value of two slots -/
def isL : Value → Bool
  | .long _ => true
  | .double _ => true
  | _ => false
/-- no value of two slots ahead of place i -/
def noL (L : Lo) : Nat → Prop
  | 0 => True
  | i + 1 => match lgo L i with
    | some v => isL v = false
    | none => True
def rOf : Value → Option (Option Nat)
  | .null => some none
  | .ref a => some (some a)
  | _ => none
/-- the locals with which a method begins -/
def entL : List Value → Lo
  | [] => []
  | v :: vs => some v :: (if isL v = true then none :: entL vs else entL vs)
def ent (vs : List Value) (n : Nat) : Lo := entL vs ++ List.replicate (n - (entL vs).length) none
abbrev Kt : Type := Nat → Lo → List Value → Mem → Nat → Nat → Nat → Prop
abbrev Rt : Type := Option Value → Mem → Nat → Prop
abbrev Ct : Type := Nat → List Value → Mem → Nat → Rt → Prop
abbrev Res : Type := Option (List Prop × Nat × Lo × List Value × Mem × Nat × Nat × Nat)
def cnd : List Prop → Prop → Prop
  | [], q => q
  | p :: ps, q => p ∧ cnd ps q
/-- where a jump goes -/
def jto (pc : Nat) (off : Int) : Nat := ((pc : Int) + off).toNat
def jok (pc : Nat) (off : Int) : Prop := 0 ≤ (pc : Int) + off
def tsw (pc : Nat) (dflt lo hi : Int) (offs : Array Int) (x : Int32) : Int :=
  if x.toInt < lo ∨ hi < x.toInt then dflt else (offs[(x.toInt - lo).toNat]?).getD 0
def tswok (lo hi : Int) (offs : Array Int) (x : Int32) : Prop := x.toInt < lo ∨ hi < x.toInt ∨ (offs[(x.toInt - lo).toNat]?).isSome = true
def cIf (cc : Jvm.ClassFile.Cond) (x y : Int32) : Bool := match cc with
  | .eq => decide (x = y)
  | .ne => decide (¬ x = y)
  | .lt => decide (x < y)
  | .ge => decide (y ≤ x)
  | .gt => decide (y < x)
  | .le => decide (x ≤ y)
def popI (S : List Value) (k : Int32 → List Value → Res) : Res := match S with
  | .int x :: T => k x T
  | _ => none
def popJ (S : List Value) (k : Int64 → List Value → Res) : Res := match S with
  | .long x :: T => k x T
  | _ => none
def popA (S : List Value) (k : Nat → List Value → Res) : Res := match S with
  | .ref a :: T => k a T
  | _ => none
def popR (S : List Value) (k : Option Nat → List Value → Res) : Res := match S with
  | v :: T => match rOf v with
    | some r => k r T
    | none => none
  | _ => none
def ldI (o : Option Value) (k : Int32 → Res) : Res := match o with
  | some (.int x) => k x
  | _ => none
def ldJ (o : Option Value) (k : Int64 → Res) : Res := match o with
  | some (.long x) => k x
  | _ => none
def ldR (o : Option Value) (k : Option Nat → Res) : Res := match o with
  | some v => match rOf v with
    | some r => k r
    | none => none
  | none => none
def fOk (ci k : Nat) (v : Int32) : Prop := narrow (tyC ci k) (.int v) = .int v ∧ fits (tyC ci k) (.int v) = true
/-- the array kind of a class's array, and of a primitive type's -/
def akO (ci : Nat) : Option Nat := match ci with
  | 4 => some 23
  | 6 => some 24
  | _ => none
def akP : ArrayType → Option Nat
  | .int => some 20
  | .byte => some 21
  | .boolean => some 22
  | _ => none
/-- the next state of an instruction that neither calls nor returns, and what must hold for it -/
def inext (j : Nat) (il : Instr × Nat) (pc : Nat) (L : Lo) (S : List Value) (G : Mem) (z c s : Nat) : Res :=
  match il with
  | (.iconst n, 1) => some ([], pc + 1, L, .int (Int32.ofInt n) :: S, G, z, c, s)
  | (.bipush n, 2) => some ([], pc + 2, L, .int (Int8.ofInt n).toInt32 :: S, G, z, c, s)
  | (.sipush n, 3) => some ([], pc + 3, L, .int (Int16.ofInt n).toInt32 :: S, G, z, c, s)
  | (.lconst n, 1) => some ([], pc + 1, L, .long (Int64.ofNat (n : Nat)) :: S, G, z, c, s)
  | (.aconst_null, 1) => some ([], pc + 1, L, .null :: S, G, z, c, s)
  | (.ldc i, 2) => match kI (ow j) i with
    | some v => some ([], pc + 2, L, .int v :: S, G, z, c, s)
    | none => match kS (ow j) i with
      | some q => some ([], pc + 2, L, va_rf (mR G 31 q 0) :: S, G, z, c, s)
      | none => none
  | (.ldc_w i, 3) => match kI (ow j) i with
    | some v => some ([], pc + 3, L, .int v :: S, G, z, c, s)
    | none => none
  | (.ldc2_w i, 3) => match kL (ow j) i with
    | some v => some ([], pc + 3, L, .long v :: S, G, z, c, s)
    | none => none
  | (.iload_n k, 1) => ldI (lgo L k) fun x => some ([], pc + 1, L, .int x :: S, G, z, c, s)
  | (.iload k, 2) => ldI (lgo L k) fun x => some ([], pc + 2, L, .int x :: S, G, z, c, s)
  | (.lload_n k, 1) => ldJ (lgo L k) fun x => some ([], pc + 1, L, .long x :: S, G, z, c, s)
  | (.aload_n k, 1) => ldR (lgo L k) fun r => some ([], pc + 1, L, va_rf r :: S, G, z, c, s)
  | (.aload k, 2) => ldR (lgo L k) fun r => some ([], pc + 2, L, va_rf r :: S, G, z, c, s)
  | (.istore_n k, 1) => popI S fun x T => some ([(k : Nat) < mxL j, noL L k], pc + 1, lset L k (some (.int x)), T, G, z, c, s)
  | (.istore k, 2) => popI S fun x T => some ([k < mxL j, noL L k], pc + 2, lset L k (some (.int x)), T, G, z, c, s)
  | (.astore_n k, 1) => popR S fun r T => some ([(k : Nat) < mxL j, noL L k], pc + 1, lset L k (some (va_rf r)), T, G, z, c, s)
  | (.astore k, 2) => popR S fun r T => some ([k < mxL j, noL L k], pc + 2, lset L k (some (va_rf r)), T, G, z, c, s)
  | (.lstore_n k, 1) => popJ S fun x T => some ([(k : Nat) + 1 < mxL j, noL L k], pc + 1, lset (lset L k (some (.long x))) (k + 1) none, T, G, z, c, s)
  | (.iinc k n, 3) => ldI (lgo L k) fun x => some ([k < mxL j, noL L k], pc + 3, lset L k (some (.int (x + Int32.ofInt n))), S, G, z, c, s)
  | (.iadd, 1) => popI S fun y T => popI T fun x T => some ([], pc + 1, L, .int (x + y) :: T, G, z, c, s)
  | (.isub, 1) => popI S fun y T => popI T fun x T => some ([], pc + 1, L, .int (x - y) :: T, G, z, c, s)
  | (.imul, 1) => popI S fun y T => popI T fun x T => some ([], pc + 1, L, .int (x * y) :: T, G, z, c, s)
  | (.idiv, 1) => popI S fun y T => popI T fun x T => some ([¬ y = 0], pc + 1, L, .int (x / y) :: T, G, z, c, s)
  | (.iand, 1) => popI S fun y T => popI T fun x T => some ([], pc + 1, L, .int (x &&& y) :: T, G, z, c, s)
  | (.ior, 1) => popI S fun y T => popI T fun x T => some ([], pc + 1, L, .int (x ||| y) :: T, G, z, c, s)
  | (.ixor, 1) => popI S fun y T => popI T fun x T => some ([], pc + 1, L, .int (x ^^^ y) :: T, G, z, c, s)
  | (.ineg, 1) => popI S fun x T => some ([], pc + 1, L, .int (-x) :: T, G, z, c, s)
  | (.ishl, 1) => popI S fun y T => popI T fun x T => some ([], pc + 1, L, .int (x <<< (y &&& 31)) :: T, G, z, c, s)
  | (.ishr, 1) => popI S fun y T => popI T fun x T => some ([], pc + 1, L, .int (x >>> (y &&& 31)) :: T, G, z, c, s)
  | (.iushr, 1) => popI S fun y T => popI T fun x T => some ([], pc + 1, L, .int (x.toUInt32 >>> (y.toUInt32 &&& Int32.toUInt32 31)).toInt32 :: T, G, z, c, s)
  | (.i2b, 1) => popI S fun x T => some ([], pc + 1, L, .int x.toInt8.toInt32 :: T, G, z, c, s)
  | (.i2c, 1) => popI S fun x T => some ([], pc + 1, L, .int (x.toUInt32 % 65536).toInt32 :: T, G, z, c, s)
  | (.i2l, 1) => popI S fun x T => some ([], pc + 1, L, .long x.toInt64 :: T, G, z, c, s)
  | (.lor, 1) => popJ S fun y T => popJ T fun x T => some ([], pc + 1, L, .long (x ||| y) :: T, G, z, c, s)
  | (.lshl, 1) => popI S fun y T => popJ T fun x T => some ([], pc + 1, L, .long (x <<< (y.toInt64 &&& 63)) :: T, G, z, c, s)
  | (.lcmp, 1) => popJ S fun y T => popJ T fun x T => some ([], pc + 1, L, .int (lg_cmp x y) :: T, G, z, c, s)
  | (.dup, 1) => match S with
    | v :: T => some ([isL v = false], pc + 1, L, v :: v :: T, G, z, c, s)
    | _ => none
  | (.dup2, 1) => match S with
    | v :: w :: T => some ([isL v = false, isL w = false], pc + 1, L, v :: w :: v :: w :: T, G, z, c, s)
    | _ => none
  | (.pop, 1) => match S with
    | v :: T => some ([isL v = false], pc + 1, L, T, G, z, c, s)
    | _ => none
  | (.goto off, 3) => some ([jok pc off], jto pc off, L, S, G, z, c, s)
  | (.ifCond cc off, 3) => popI S fun x T => some ([jok pc off], (if cIf cc x 0 = true then jto pc off else pc + 3), L, T, G, z, c, s)
  | (.if_icmp cc off, 3) => popI S fun y T => popI T fun x T => some ([jok pc off], (if cIf cc x y = true then jto pc off else pc + 3), L, T, G, z, c, s)
  | (.ifnull off, 3) => popR S fun r T => some ([jok pc off], (if r = none then jto pc off else pc + 3), L, T, G, z, c, s)
  | (.ifnonnull off, 3) => popR S fun r T => some ([jok pc off], (if r = none then pc + 3 else jto pc off), L, T, G, z, c, s)
  | (.if_acmp .eq off, 3) => popR S fun y T => popR T fun x T => some ([jok pc off], (if x = y then jto pc off else pc + 3), L, T, G, z, c, s)
  | (.if_acmp .ne off, 3) => popR S fun y T => popR T fun x T => some ([jok pc off], (if x = y then pc + 3 else jto pc off), L, T, G, z, c, s)
  | (.tableswitch dflt lo hi offs, len) => popI S fun x T => some ([tswok lo hi offs x, jok pc (tsw pc dflt lo hi offs x)], jto pc (tsw pc dflt lo hi offs x), L, T, G, z, c, s)
  | (.getfield i, 3) => match fr (ow j) i with
    | some (ci, k) => popA S fun a T => if ci < 9 then (if k < nF ci then some ([mK G a = ci], pc + 3, L, (if isR ci k = true then va_rf (mR G ci k a) else .int (mI G ci k a)) :: T, G, z, c, s) else none)
        else if ci = 30 then (if k = 0 then some ([mI G 33 0 a = 1], pc + 3, L, va_rf (mR G 30 0 a) :: T, G, z, c, s) else if k = 1 then some ([mI G 33 0 a = 1], pc + 3, L, .int (mI G 30 1 a) :: T, G, z, c, s) else none) else none
    | none => none
  | (.getstatic i, 3) => match fr (ow j) i with
    | some (32, 0) => some ([], pc + 3, L, .int 1 :: S, G, z, c, s)
    | some (32, 1) => some ([], pc + 3, L, va_rf (mR G 32 1 0) :: S, G, z, c, s)
    | _ => none
  | (.putfield i, 3) => match fr (ow j) i with
    | some (ci, k) => if ci < 9 ∧ k < nF ci ∧ fnl j ci k = true then (if isR ci k = true then popR S fun r T => popA T fun a T => some ([mK G a = ci], pc + 3, L, T, pR G ci k a r, z, c, s)
        else popI S fun v T => popA T fun a T => some ([mK G a = ci, fOk ci k v], pc + 3, L, T, pI G ci k a v, z, c, s)) else none
    | none => none
  | (.iaload, 1) => popI S fun i T => popA T fun a T => some ([mK G a = 20 ∨ mK G a = 25, vp_in i (mN G a)], pc + 1, L, .int (mE G a i.toNatClampNeg) :: T, G, z, c, s)
  | (.baload, 1) => popI S fun i T => popA T fun a T => some ([mK G a = 21 ∨ mK G a = 22 ∨ mK G a = 26, vp_in i (mN G a)], pc + 1, L, .int (mE G a i.toNatClampNeg) :: T, G, z, c, s)
  | (.aaload, 1) => popI S fun i T => popA T fun a T => some ([mK G a = 23 ∨ mK G a = 24, vp_in i (mN G a)], pc + 1, L, va_rf (mQ G a i.toNatClampNeg) :: T, G, z, c, s)
  | (.iastore, 1) => popI S fun x T => popI T fun i T => popA T fun a T => some ([mK G a = 20, vp_in i (mN G a)], pc + 1, L, T, pE G a i.toNatClampNeg x, z, c, s)
  | (.bastore, 1) => popI S fun x T => popI T fun i T => popA T fun a T => some ([mK G a = 21 ∨ mK G a = 22, vp_in i (mN G a)], pc + 1, L, T, pE G a i.toNatClampNeg (if mK G a = 22 then x &&& 1 else x.toInt8.toInt32), z, c, s)
  | (.aastore, 1) => popR S fun r T => popI T fun i T => popA T fun a T => some ([(mK G a = 23 ∧ ∀ b, r = some b → mK G b = 4) ∨ (mK G a = 24 ∧ ∀ b, r = some b → mK G b = 6), vp_in i (mN G a)], pc + 1, L, T, pQ G a i.toNatClampNeg r, z, c, s)
  | (.arraylength, 1) => popA S fun a T => some ([(20 ≤ mK G a ∧ mK G a ≤ 26)], pc + 1, L, .int (Int32.ofNat (mN G a)) :: T, G, z, c, s)
  | (.newarray at_, 2) => match akP at_ with
    | some kd => popI S fun n T => some ([¬ n < 0, n.toNatClampNeg ≤ 100000, c + 1 ≤ mcq j, s + n.toNatClampNeg ≤ msq j], pc + 2, L, .ref z :: T, nA G z kd n.toNatClampNeg, z + 1, c + 1, s + n.toNatClampNeg)
    | none => none
  | (.anewarray i, 3) => match cr (ow j) i with
    | some ci => match akO ci with
      | some kd => popI S fun n T => some ([¬ n < 0, n.toNatClampNeg ≤ 100000, c + 1 ≤ mcq j, s + n.toNatClampNeg ≤ msq j], pc + 3, L, .ref z :: T, nA G z kd n.toNatClampNeg, z + 1, c + 1, s + n.toNatClampNeg)
      | none => none
    | none => none
  | (.new i, 3) => match cr (ow j) i with
    | some ci => if ci < 9 then some ([c + 1 ≤ mcq j, s + nF ci ≤ msq j], pc + 3, L, .ref z :: S, nO G z ci, z + 1, c + 1, s + nF ci) else none
    | none => none
  | _ => none
/-- the class of a receiver of a method: one of the system's, or a text -/
def rcv (G : Mem) (b j : Nat) : Prop := if ow j < 9 then mK G b = ow j else mI G 33 0 b = 1
/-- a call behind its own words: the callee's arguments, what is left of the stack -/
def icall (call : Ct) (j j2 pc : Nat) (L : Lo) (as rest : List Value) (G : Mem) (z c s : Nat) (K : Kt) : Prop :=
  (rest.length ≤ 4 ∧ (entL as).length ≤ mxL j2) ∧ c + mcq j2 ≤ mcq j ∧ s + msq j2 ≤ msq j ∧ call j2 as G z (fun r G' z' => K (pc + 3) L (r.toList ++ rest) G' z' (c + mcq j2) (s + msq j2))
def istep (call : Ct) (j : Nat) (il : Instr × Nat) (pc : Nat) (L : Lo) (S : List Value) (G : Mem) (z c s : Nat) (K : Kt) (R : Rt) : Prop :=
  match il with
  | (.invokevirtual i, 3) => match mr (ow j) i with
    | some (0, j2) => match S.drop (npq j2) with
      | .ref b :: T => rcv G b j2 ∧ icall call j j2 pc L (.ref b :: (S.take (npq j2)).reverse) T G z c s K
      | _ => False
    | _ => False
  | (.invokestatic i, 3) => match mr (ow j) i with
    | some (1, j2) => npq j2 ≤ S.length ∧ icall call j j2 pc L (S.take (npq j2)).reverse (S.drop (npq j2)) G z c s K
    | some (3, j2) => npq j2 ≤ S.length ∧ icall call j j2 pc L (S.take (npq j2)).reverse (S.drop (npq j2)) G z c s K
    | some (5, _) => match S with
      | .int y :: .int x :: T => T.length ≤ 4 ∧ c ≤ mcq j ∧ s ≤ msq j ∧ K (pc + 3) L (.int (if y < x then y else x) :: T) G z c s
      | _ => False
    | some (6, _) => match S with
      | .int x :: T => T.length ≤ 4 ∧ c ≤ mcq j ∧ s ≤ msq j ∧ K (pc + 3) L (.int (if 0 ≤ x then x else 0 - x) :: T) G z c s
      | _ => False
    | _ => False
  | (.invokespecial i, 3) => match mr (ow j) i with
    | some (2, j2) => match S.drop (npq j2) with
      | .ref b :: T => icall call j j2 pc L (.ref b :: (S.take (npq j2)).reverse) T G z c s K
      | _ => False
    | some (4, _) => match S with
      | .ref _ :: T => T.length ≤ 4 ∧ K (pc + 3) L T G z c s
      | _ => False
    | _ => False
  | (.ireturn, 1) => match mrt j, S with
    | some ty, [.int v] => narrow ty (.int v) = .int v ∧ c ≤ mcq j ∧ s ≤ msq j ∧ R (some (.int v)) G z
    | _, _ => False
  | (.lreturn, 1) => match mrt j, S with
    | some .long, [.long v] => c ≤ mcq j ∧ s ≤ msq j ∧ R (some (.long v)) G z
    | _, _ => False
  | (.areturn, 1) => match mrt j, S with
    | some (.object _), [v] => (rOf v).isSome = true ∧ c ≤ mcq j ∧ s ≤ msq j ∧ R (some v) G z
    | _, _ => False
  | (.return_, 1) => match mrt j, S with
    | none, [] => c ≤ mcq j ∧ s ≤ msq j ∧ R none G z
    | _, _ => False
  | il => match inext j il pc L S G z c s with
    | some (ps, pc', L', S', G', z', c', s') => cnd ps (K pc' L' S' G' z' c' s')
    | none => False
def isem (call : Ct) (j : Nat) (pc : Nat) (L : Lo) (S : List Value) (G : Mem) (z c s : Nat) (K : Kt) (R : Rt) : Prop :=
  match decode (cd j) pc with
  | .ok il => istep call j il pc L S G z c s K R
  | _ => False
def WPf (call : Ct) (j : Nat) (R : Rt) : Kt := fun pc L S G z c s =>
  ∀ P : Kt, (∀ pc L S G z c s, isem call j pc L S G z c s P R → P pc L S G z c s) → P pc L S G z c s
def CALL : Nat → Ct
  | 0 => fun _ _ _ _ _ => False
  | d + 1 => fun j as G z Q => WPf (CALL d) j Q 0 (ent as (mxL j)) [] G z 0 0
abbrev WP (d j : Nat) (R : Rt) : Kt := WPf (CALL d) j R
theorem cnd_mono {p q : Prop} (h : p → q) : ∀ ps, cnd ps p → cnd ps q
  | [], a => h a
  | _ :: ps, a => ⟨a.1, cnd_mono h ps a.2⟩
def Cmono (call : Ct) : Prop := ∀ j as G z (Q Q' : Rt), (∀ r G z, Q r G z → Q' r G z) → call j as G z Q → call j as G z Q'
theorem icall_mono {call : Ct} (hc : Cmono call) {j j2 pc : Nat} {L : Lo} {as rest : List Value} {G : Mem} {z c s : Nat} {K K' : Kt} (hK : ∀ pc L S G z c s, K pc L S G z c s → K' pc L S G z c s)
    (h : icall call j j2 pc L as rest G z c s K) : icall call j j2 pc L as rest G z c s K' :=
  ⟨h.1, h.2.1, h.2.2.1, hc _ _ _ _ _ _ (fun _ _ _ q => hK _ _ _ _ _ _ _ q) h.2.2.2⟩
theorem istep_mono {call : Ct} (hc : Cmono call) {j : Nat} {il : Instr × Nat} {pc : Nat} {L : Lo} {S : List Value} {G : Mem} {z c s : Nat} {K K' : Kt} {R R' : Rt} (hK : ∀ pc L S G z c s, K pc L S G z c s → K' pc L S G z c s) (hR : ∀ r G z, R r G z → R' r G z)
    (h : istep call j il pc L S G z c s K R) : istep call j il pc L S G z c s K' R' := by
  unfold istep at h ⊢
  split at h
  · split at h
    · split at h
      · exact ⟨h.1, icall_mono hc hK h.2⟩
      · exact h
    · exact h
  · split at h
    · exact ⟨h.1, icall_mono hc hK h.2⟩
    · exact ⟨h.1, icall_mono hc hK h.2⟩
    · split at h
      · exact ⟨h.1, h.2.1, h.2.2.1, hK _ _ _ _ _ _ _ h.2.2.2⟩
      · exact h
    · split at h
      · exact ⟨h.1, h.2.1, h.2.2.1, hK _ _ _ _ _ _ _ h.2.2.2⟩
      · exact h
    · exact h
  · split at h
    · split at h
      · exact icall_mono hc hK h
      · exact h
    · split at h
      · exact ⟨h.1, hK _ _ _ _ _ _ _ h.2⟩
      · exact h
    · exact h
  · split at h
    · exact ⟨h.1, h.2.1, h.2.2.1, hR _ _ _ h.2.2.2⟩
    · exact h
  · split at h
    · exact ⟨h.1, h.2.1, hR _ _ _ h.2.2⟩
    · exact h
  · split at h
    · exact ⟨h.1, h.2.1, h.2.2.1, hR _ _ _ h.2.2.2⟩
    · exact h
  · split at h
    · exact ⟨h.1, h.2.1, hR _ _ _ h.2.2⟩
    · exact h
  · split at h
    · exact cnd_mono (hK _ _ _ _ _ _ _) _ h
    · exact h
theorem isem_mono {call : Ct} (hc : Cmono call) {j pc : Nat} {L : Lo} {S : List Value} {G : Mem} {z c s : Nat} {K K' : Kt} {R R' : Rt} (hK : ∀ pc L S G z c s, K pc L S G z c s → K' pc L S G z c s) (hR : ∀ r G z, R r G z → R' r G z)
    (h : isem call j pc L S G z c s K R) : isem call j pc L S G z c s K' R' := by
  unfold isem at h ⊢
  split at h
  · exact istep_mono hc hK hR h
  · exact h
theorem CALL_mono : ∀ d, Cmono (CALL d)
  | 0 => fun _ _ _ _ _ _ _ h => h
  | d + 1 => fun j as G z Q Q' hQ h P hP => h P (fun pc L S G z c s hs => hP pc L S G z c s (isem_mono (CALL_mono d) (fun _ _ _ _ _ _ _ q => q) hQ hs))
theorem WP_unfold {d j : Nat} {R : Rt} {pc : Nat} {L : Lo} {S : List Value} {G : Mem} {z c s : Nat} : WP d j R pc L S G z c s = isem (CALL d) j pc L S G z c s (WP d j R) R := by
  have h1 : ∀ pc L S G z c s, isem (CALL d) j pc L S G z c s (WP d j R) R → WP d j R pc L S G z c s := fun pc L S G z c s h P hP =>
    hP _ _ _ _ _ _ _ (isem_mono (CALL_mono d) (fun _ _ _ _ _ _ _ q => q P hP) (fun _ _ _ q => q) h)
  refine propext ⟨fun h => h (fun pc L S G z c s => isem (CALL d) j pc L S G z c s (WP d j R) R) fun pc L S G z c s hs => ?_, h1 pc L S G z c s⟩
  exact isem_mono (CALL_mono d) h1 (fun _ _ _ q => q) hs
/-- one instruction -/
theorem wp_eq {d j : Nat} {R : Rt} {pc : Nat} {L : Lo} {S : List Value} {G : Mem} {z c s : Nat} {il : Instr × Nat} (h : decode (cd j) pc = .ok il) : WP d j R pc L S G z c s = istep (CALL d) j il pc L S G z c s (WP d j R) R := by
  rw [WP_unfold]
  unfold isem
  rw [h]
theorem CALL_eq {d j : Nat} {as : List Value} {G : Mem} {z : Nat} {Q : Rt} : CALL (d + 1) j as G z Q = WP d j Q 0 (ent as (mxL j)) [] G z 0 0 := rfl
