/-! THE STATE of the document: counts, turns, halls, places, contracts, tape, fault -/
abbrev St : Type := (Nat → Nat) × (Nat → Nat → Int32) × (Nat → Nat → Option Nat) × (Nat → Nat → Nat) × (Nat → List (Int32 × Int32 × Int32)) × (Nat → Int32) × Int32
/-- 0 now, 1 turns, 2 halls, 3 contracts, 4 bookings, 5 bytes on the tape -/
def sN (S : St) (k : Nat) : Nat := S.1 k
/-- 0 minutes, 1 kind, 2 like, 3 draw, 4 failed, 5 full; 6 mile, 7 seats, 8 longest -/
def sI (S : St) (k i : Nat) : Int32 := S.2.1 k i
def sP (S : St) (t w : Nat) : Option Nat := S.2.2.1 t w
/-- 0 signer, 1 from, 2 signed -/
def sC (S : St) (k c : Nat) : Nat := S.2.2.2.1 k c
def sS (S : St) (c : Nat) : List (Int32 × Int32 × Int32) := S.2.2.2.2.1 c
def sT (S : St) (i : Nat) : Int32 := S.2.2.2.2.2.1 i
def sF (S : St) : Int32 := S.2.2.2.2.2.2
def uN (S : St) (k v : Nat) : St := ((fun k' => if k' = k then v else S.1 k'), S.2)
def uI (S : St) (k i : Nat) (v : Int32) : St := (S.1, (fun k' i' => if k' = k ∧ i' = i then v else S.2.1 k' i'), S.2.2)
def uP (S : St) (t w : Nat) (v : Option Nat) : St := (S.1, S.2.1, (fun t' w' => if t' = t ∧ w' = w then v else S.2.2.1 t' w'), S.2.2.2)
def uC (S : St) (k c v : Nat) : St := (S.1, S.2.1, S.2.2.1, (fun k' c' => if k' = k ∧ c' = c then v else S.2.2.2.1 k' c'), S.2.2.2.2)
def uS (S : St) (c : Nat) (v : List (Int32 × Int32 × Int32)) : St := (S.1, S.2.1, S.2.2.1, S.2.2.2.1, (fun c' => if c' = c then v else S.2.2.2.2.1 c'), S.2.2.2.2.2)
def uT (S : St) (i : Nat) (v : Int32) : St := (S.1, S.2.1, S.2.2.1, S.2.2.2.1, S.2.2.2.2.1, (fun i' => if i' = i then v else S.2.2.2.2.2.1 i'), S.2.2.2.2.2.2)
def uF (S : St) (v : Int32) : St := (S.1, S.2.1, S.2.2.1, S.2.2.2.1, S.2.2.2.2.1, S.2.2.2.2.2.1, v)
theorem stS : (∀ (S : St) (a v : Nat) (k : Nat), sN (uN S a v) k = if k = a then v else sN S k)
    ∧ (∀ (S : St) (a b : Nat) (v : Int32) (k : Nat), sN (uI S a b v) k = sN S k)
    ∧ (∀ (S : St) (a b : Nat) (v : Option Nat) (k : Nat), sN (uP S a b v) k = sN S k)
    ∧ (∀ (S : St) (a b v : Nat) (k : Nat), sN (uC S a b v) k = sN S k)
    ∧ (∀ (S : St) (a : Nat) (v : List (Int32 × Int32 × Int32)) (k : Nat), sN (uS S a v) k = sN S k)
    ∧ (∀ (S : St) (a : Nat) (v : Int32) (k : Nat), sN (uT S a v) k = sN S k)
    ∧ (∀ (S : St) (v : Int32) (k : Nat), sN (uF S v) k = sN S k)
    ∧ (∀ (S : St) (a v : Nat) (k i : Nat), sI (uN S a v) k i = sI S k i)
    ∧ (∀ (S : St) (a b : Nat) (v : Int32) (k i : Nat), sI (uI S a b v) k i = if k = a ∧ i = b then v else sI S k i)
    ∧ (∀ (S : St) (a b : Nat) (v : Option Nat) (k i : Nat), sI (uP S a b v) k i = sI S k i)
    ∧ (∀ (S : St) (a b v : Nat) (k i : Nat), sI (uC S a b v) k i = sI S k i)
    ∧ (∀ (S : St) (a : Nat) (v : List (Int32 × Int32 × Int32)) (k i : Nat), sI (uS S a v) k i = sI S k i)
    ∧ (∀ (S : St) (a : Nat) (v : Int32) (k i : Nat), sI (uT S a v) k i = sI S k i)
    ∧ (∀ (S : St) (v : Int32) (k i : Nat), sI (uF S v) k i = sI S k i)
    ∧ (∀ (S : St) (a v : Nat) (t w : Nat), sP (uN S a v) t w = sP S t w)
    ∧ (∀ (S : St) (a b : Nat) (v : Int32) (t w : Nat), sP (uI S a b v) t w = sP S t w)
    ∧ (∀ (S : St) (a b : Nat) (v : Option Nat) (t w : Nat), sP (uP S a b v) t w = if t = a ∧ w = b then v else sP S t w)
    ∧ (∀ (S : St) (a b v : Nat) (t w : Nat), sP (uC S a b v) t w = sP S t w)
    ∧ (∀ (S : St) (a : Nat) (v : List (Int32 × Int32 × Int32)) (t w : Nat), sP (uS S a v) t w = sP S t w)
    ∧ (∀ (S : St) (a : Nat) (v : Int32) (t w : Nat), sP (uT S a v) t w = sP S t w)
    ∧ (∀ (S : St) (v : Int32) (t w : Nat), sP (uF S v) t w = sP S t w)
    ∧ (∀ (S : St) (a v : Nat) (k c : Nat), sC (uN S a v) k c = sC S k c)
    ∧ (∀ (S : St) (a b : Nat) (v : Int32) (k c : Nat), sC (uI S a b v) k c = sC S k c)
    ∧ (∀ (S : St) (a b : Nat) (v : Option Nat) (k c : Nat), sC (uP S a b v) k c = sC S k c)
    ∧ (∀ (S : St) (a b v : Nat) (k c : Nat), sC (uC S a b v) k c = if k = a ∧ c = b then v else sC S k c)
    ∧ (∀ (S : St) (a : Nat) (v : List (Int32 × Int32 × Int32)) (k c : Nat), sC (uS S a v) k c = sC S k c)
    ∧ (∀ (S : St) (a : Nat) (v : Int32) (k c : Nat), sC (uT S a v) k c = sC S k c)
    ∧ (∀ (S : St) (v : Int32) (k c : Nat), sC (uF S v) k c = sC S k c)
    ∧ (∀ (S : St) (a v : Nat) (c : Nat), sS (uN S a v) c = sS S c)
    ∧ (∀ (S : St) (a b : Nat) (v : Int32) (c : Nat), sS (uI S a b v) c = sS S c)
    ∧ (∀ (S : St) (a b : Nat) (v : Option Nat) (c : Nat), sS (uP S a b v) c = sS S c)
    ∧ (∀ (S : St) (a b v : Nat) (c : Nat), sS (uC S a b v) c = sS S c)
    ∧ (∀ (S : St) (a : Nat) (v : List (Int32 × Int32 × Int32)) (c : Nat), sS (uS S a v) c = if c = a then v else sS S c)
    ∧ (∀ (S : St) (a : Nat) (v : Int32) (c : Nat), sS (uT S a v) c = sS S c)
    ∧ (∀ (S : St) (v : Int32) (c : Nat), sS (uF S v) c = sS S c)
    ∧ (∀ (S : St) (a v : Nat) (i : Nat), sT (uN S a v) i = sT S i)
    ∧ (∀ (S : St) (a b : Nat) (v : Int32) (i : Nat), sT (uI S a b v) i = sT S i)
    ∧ (∀ (S : St) (a b : Nat) (v : Option Nat) (i : Nat), sT (uP S a b v) i = sT S i)
    ∧ (∀ (S : St) (a b v : Nat) (i : Nat), sT (uC S a b v) i = sT S i)
    ∧ (∀ (S : St) (a : Nat) (v : List (Int32 × Int32 × Int32)) (i : Nat), sT (uS S a v) i = sT S i)
    ∧ (∀ (S : St) (a : Nat) (v : Int32) (i : Nat), sT (uT S a v) i = if i = a then v else sT S i)
    ∧ (∀ (S : St) (v : Int32) (i : Nat), sT (uF S v) i = sT S i)
    ∧ (∀ (S : St) (a v : Nat), sF (uN S a v) = sF S)
    ∧ (∀ (S : St) (a b : Nat) (v : Int32), sF (uI S a b v) = sF S)
    ∧ (∀ (S : St) (a b : Nat) (v : Option Nat), sF (uP S a b v) = sF S)
    ∧ (∀ (S : St) (a b v : Nat), sF (uC S a b v) = sF S)
    ∧ (∀ (S : St) (a : Nat) (v : List (Int32 × Int32 × Int32)), sF (uS S a v) = sF S)
    ∧ (∀ (S : St) (a : Nat) (v : Int32), sF (uT S a v) = sF S)
    ∧ (∀ (S : St) (v : Int32), sF (uF S v) = v) := by
  refine ⟨?_, ?_, ?_, ?_, ?_, ?_, ?_, ?_, ?_, ?_, ?_, ?_, ?_, ?_, ?_, ?_, ?_, ?_, ?_, ?_, ?_, ?_, ?_, ?_, ?_, ?_, ?_, ?_, ?_, ?_, ?_, ?_, ?_, ?_, ?_, ?_, ?_, ?_, ?_, ?_, ?_, ?_, ?_, ?_, ?_, ?_, ?_, ?_, ?_⟩ <;> intros <;> rfl
def leO (S : St) (o : Option Nat) (n : Nat) : Bool := match o with
  | none => true
  | some b => decide (sC S 1 b ≤ sC S 1 n)
/-- the contract in force among the first n -/
def inF (S : St) (t w k : Nat) : Nat → Option Nat
  | 0 => none
  | n + 1 => if sC S 0 n = t ∧ sC S 2 n ≤ k ∧ sC S 1 n ≤ w ∧ leO S (inF S t w k n) n = true then some n else inF S t w k n
def frc (S : St) (t w k : Nat) : Option Nat := inF S t w k (sN S 3)
def stO (S : St) (o : Option Nat) : List (Int32 × Int32 × Int32) := match o with
  | none => []
  | some c => sS S c
def lastN (l : List (Int32 × Int32 × Int32)) (kd : Int32) : Int32 := l.foldl (fun v e => if e.1 = kd then e.2.1 else v) 0
def tlls (l : List (Int32 × Int32 × Int32)) (kd v : Int32) : Bool := l.any fun e => decide (e.1 = kd ∧ e.2.1 = v)
def brs (l : List (Int32 × Int32 × Int32)) (miles away : Int32) : Bool := l.any fun e => decide (e.1 = 0 ∧ miles < e.2.1 ∧ away ≤ e.2.2)
/-- the bill of a hall in a week -/
def bl (S : St) (h w : Nat) : List Nat := (List.range (sN S 1)).filter fun t => decide (sP S t w = some h)
def sumL (f : Nat → Int32) (l : List Nat) : Int32 := l.foldl (fun a t => a + f t) 0
/-- the contract before the n-th of one signer -/
def lastC (S : St) (t : Nat) : Nat → Option Nat
  | 0 => none
  | n + 1 => if sC S 0 n = t then some n else lastC S t n
/-- how many bookings a turn has in the first n weeks -/
def cntW (S : St) (t : Nat) : Nat → Nat
  | 0 => 0
  | n + 1 => cntW S t n + (if (sP S t n).isSome = true then 1 else 0)
def sumT (f : Nat → Nat) : Nat → Nat
  | 0 => 0
  | n + 1 => sumT f n + f n
/-- what holds of every state that comes up -/
abbrev Inv (S : St) : Prop := sN S 0 ≤ 59 ∧ sN S 1 ≤ 40 ∧ sN S 2 ≤ 10 ∧ sN S 3 ≤ 60 ∧ sN S 4 ≤ 400 ∧ sN S 5 ≤ 600 ∧ (∀ t w h, sP S t w = some h → t < sN S 1 ∧ h < sN S 2)
  ∧ (∀ c, c < sN S 3 → sC S 0 c < sN S 1 ∧ sC S 1 c < 60 ∧ sC S 2 c < 60 ∧ (sS S c).length ≤ 12) ∧ (∀ h w, (bl S h w).length ≤ 9) ∧ (∀ h, h < sN S 2 → ∃ n, n ≤ 300 ∧ sI S 6 h = nI n) ∧ (∀ t, sI S 5 t = 0 ∨ sI S 5 t = 1) ∧ (∀ t, sN S 1 ≤ t → sI S 4 t = 0) ∧ sN S 4 = sumT (fun t => cntW S t 60) (sN S 1)
