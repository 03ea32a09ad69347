/-! THE ABSTRACT MACHINE: cells by number, values whose references are numbers of cells; an instruction is a function of states; a method a list of them. Memory: (how many cells, how many slots, the shapes), ints, longs, references. A shape: (0, class), (1, n) int[n], (2, n) boolean[n], (3 .. 5, n) Text[n], Pupil[n], Sheet[n]. -/
abbrev aHd : Type := Nat × Nat × List (Nat × Nat)
abbrev aM : Type := aHd × (Nat → Nat → Int32) × (Nat → Nat → Int64) × (Nat → Nat → Option Nat)
abbrev aSt : Type := Nat × List (Option Value) × List Value × aM
abbrev aNx : Type := Option (aSt ⊕ (Option Value × aM) ⊕ (Nat × List Value × aSt))
abbrev aOp : Type := aSt → aNx
def anth {α : Type} : List α → Nat → Option α
  | [], _ => none
  | x :: _, 0 => some x
  | _ :: t, n + 1 => anth t n
def aup {α : Type} (f : Nat → Nat → α) (a b : Nat) (v : α) : Nat → Nat → α := fun x y => if x = a then (if y = b then v else f x y) else f x y
def aget : List (Option Value) → Nat → Option Value
  | [], _ => none
  | x :: _, 0 => x
  | _ :: t, n + 1 => aget t n
def aset : List (Option Value) → Nat → Option Value → List (Option Value)
  | [], _, _ => []
  | _ :: t, 0, v => v :: t
  | x :: t, n + 1, v => x :: aset t n v
/-- a long whose second half is written over goes -/
def akl (loc : List (Option Value)) (j : Nat) : List (Option Value) := match aget loc j with
  | some v => if v.category = 2 then aset loc j none else loc
  | none => loc
def akill (loc : List (Option Value)) : Nat → List (Option Value)
  | 0 => loc
  | j + 1 => akl loc j
def ast1 (loc : List (Option Value)) (i : Nat) (v : Value) : List (Option Value) := aset (akill loc i) i (some v)
def ast2 (loc : List (Option Value)) (i : Nat) (v : Value) : List (Option Value) := aset (aset (akill loc i) i (some v)) (i + 1) none
def acty (ci j : Nat) : FieldType := match ci with
  | 0 => tyX0 j
  | 1 => tyX1 j
  | 2 => tyX2 j
  | 3 => tyX3 j
  | 4 => tyX4 j
  | 5 => tyX5 j
  | 6 => tyX6 j
  | _ => tyX7 j
def anf (ci : Nat) : Nat := match ci with
  | 0 => 5
  | 1 => 7
  | 2 => 3
  | 3 => 5
  | 4 => 6
  | 5 => 4
  | 6 => 11
  | _ => 41
def arf (r : Option Nat) : Value := match r with
  | none => .null
  | some k => .ref k
def afv (h : aM) (k ci j : Nat) : Value := match acty ci j with
  | .int => .int (h.2.1 k j)
  | .boolean => .int (h.2.1 k j)
  | .long => .long (h.2.2.1 k j)
  | _ => arf (h.2.2.2 k j)
/-- how a cell has changed by a value written into a field -/
def afw (h : aM) (k ci j : Nat) (v : Value) : Option aM := match acty ci j, v with
  | .int, .int x => some (h.1, aup h.2.1 k j x, h.2.2.1, h.2.2.2)
  | .boolean, .int x => if x = 0 ∨ x = 1 then some (h.1, aup h.2.1 k j x, h.2.2.1, h.2.2.2) else none
  | .long, .long x => some (h.1, h.2.1, aup h.2.2.1 k j x, h.2.2.2)
  | .object _, .ref q => some (h.1, h.2.1, h.2.2.1, aup h.2.2.2 k j (some q))
  | .array _, .ref q => some (h.1, h.2.1, h.2.2.1, aup h.2.2.2 k j (some q))
  | _, _ => none
-- what only turns locals and stack
abbrev aLS : Type := List (Option Value) × List Value
def aP (g : List (Option Value) → List Value → Option aLS) : aOp := fun s => match g s.2.1 s.2.2.1 with
  | some q => some (.inl (s.1 + 1, q.1, q.2, s.2.2.2))
  | none => none
def gC (v : Value) : List (Option Value) → List Value → Option aLS := fun loc st => some (loc, v :: st)
def gIld (k : Nat) : List (Option Value) → List Value → Option aLS := fun loc st => match aget loc k with
  | some (.int x) => some (loc, .int x :: st)
  | _ => none
def gLld (k : Nat) : List (Option Value) → List Value → Option aLS := fun loc st => match aget loc k with
  | some (.long x) => some (loc, .long x :: st)
  | _ => none
def gAld (k : Nat) : List (Option Value) → List Value → Option aLS := fun loc st => match aget loc k with
  | some (.ref x) => some (loc, .ref x :: st)
  | some .null => some (loc, .null :: st)
  | _ => none
def gIst (k : Nat) : List (Option Value) → List Value → Option aLS := fun loc st => match st with
  | .int x :: r => if k < loc.length then some (ast1 loc k (.int x), r) else none
  | _ => none
def gAst (k : Nat) : List (Option Value) → List Value → Option aLS := fun loc st => match st with
  | .ref x :: r => if k < loc.length then some (ast1 loc k (.ref x), r) else none
  | .null :: r => if k < loc.length then some (ast1 loc k .null, r) else none
  | _ => none
def gLst (k : Nat) : List (Option Value) → List Value → Option aLS := fun loc st => match st with
  | .long x :: r => if k + 1 < loc.length then some (ast2 loc k (.long x), r) else none
  | _ => none
def gInc (k : Nat) (n : Int) : List (Option Value) → List Value → Option aLS := fun loc st => match aget loc k with
  | some (.int x) => if k < loc.length then some (ast1 loc k (.int (x + Int32.ofInt n)), st) else none
  | _ => none
def gI2 (f : Int32 → Int32 → Int32) : List (Option Value) → List Value → Option aLS := fun loc st => match st with
  | .int y :: .int x :: r => some (loc, .int (f x y) :: r)
  | _ => none
def gD2 (f : Int32 → Int32 → Int32) : List (Option Value) → List Value → Option aLS := fun loc st => match st with
  | .int y :: .int x :: r => if y = 0 then none else some (loc, .int (f x y) :: r)
  | _ => none
def gI1 (f : Int32 → Int32) : List (Option Value) → List Value → Option aLS := fun loc st => match st with
  | .int x :: r => some (loc, .int (f x) :: r)
  | _ => none
def gL2 (f : Int64 → Int64 → Int64) : List (Option Value) → List Value → Option aLS := fun loc st => match st with
  | .long y :: .long x :: r => some (loc, .long (f x y) :: r)
  | _ => none
def gLD (f : Int64 → Int64 → Int64) : List (Option Value) → List Value → Option aLS := fun loc st => match st with
  | .long y :: .long x :: r => if y = 0 then none else some (loc, .long (f x y) :: r)
  | _ => none
def gI2l : List (Option Value) → List Value → Option aLS := fun loc st => match st with
  | .int x :: r => some (loc, .long x.toInt64 :: r)
  | _ => none
def gL2i : List (Option Value) → List Value → Option aLS := fun loc st => match st with
  | .long x :: r => some (loc, .int x.toInt32 :: r)
  | _ => none

def gLcmp : List (Option Value) → List Value → Option aLS := fun loc st => match st with
  | .long y :: .long x :: r => some (loc, .int (lg_cmp x y) :: r)
  | _ => none
def gDup : List (Option Value) → List Value → Option aLS := fun loc st => match st with
  | .int x :: r => some (loc, .int x :: .int x :: r)
  | .ref x :: r => some (loc, .ref x :: .ref x :: r)
  | _ => none
def gPop : List (Option Value) → List Value → Option aLS := fun loc st => match st with
  | .int _ :: r => some (loc, r)
  | .ref _ :: r => some (loc, r)
  | .null :: r => some (loc, r)
  | _ => none
def fushr (x y : Int32) : Int32 := (x.toUInt32 >>> (y.toUInt32 &&& Int32.toUInt32 31)).toInt32
def fi2b (x : Int32) : Int32 := x.toInt8.toInt32
def fi2s (x : Int32) : Int32 := x.toInt16.toInt32
def fmax (x y : Int32) : Int32 := if x < y then y else x
def fmin (x y : Int32) : Int32 := if y < x then y else x
/-- Math.max, Math.min: a call of one instruction -/
def asum (st : List Value) : Nat := (st.map fun v => v.category).sum
def gM2 (f : Int32 → Int32 → Int32) : List (Option Value) → List Value → Option aLS := fun loc st => match st with
  | .int y :: .int x :: r => if asum r ≤ 8 then some (loc, .int (f x y) :: r) else none
  | _ => none
/-- Object.<init> -/
def gObj : List (Option Value) → List Value → Option aLS := fun loc st => match st with
  | .ref _ :: r => if asum r ≤ 8 then some (loc, r) else none
  | _ => none
-- branches
def aB (g : List Value → Option (Bool × List Value)) (t : Nat) : aOp := fun s => match g s.2.2.1 with
  | some (b, r) => some (.inl (bif b then t else s.1 + 1, s.2.1, r, s.2.2.2))
  | none => none
def bI (q : Int32 → Bool) : List Value → Option (Bool × List Value) := fun st => match st with
  | .int x :: r => some (q x, r)
  | _ => none
def bC (q : Int32 → Int32 → Bool) : List Value → Option (Bool × List Value) := fun st => match st with
  | .int y :: .int x :: r => some (q x y, r)
  | _ => none
def bNul : List Value → Option (Bool × List Value) := fun st => match st with
  | .null :: r => some (true, r)
  | .ref _ :: r => some (false, r)
  | _ => none
def bNon : List Value → Option (Bool × List Value) := fun st => match st with
  | .null :: r => some (false, r)
  | .ref _ :: r => some (true, r)
  | _ => none
def aGo (t : Nat) : aOp := fun s => some (.inl (t, s.2))
/-- tableswitch: where x - lo is a place of ts, there; else d -/
def aSw (lo : Int) (d : Nat) (ts : List Nat) : aOp := fun s => match s.2.2.1 with
  | .int x :: r => some (.inl (if x.toInt < lo then d else (anth ts (x.toInt - lo).toNat).getD d, s.2.1, r, s.2.2.2))
  | _ => none
-- memory
def aGet (ci j : Nat) : aOp := fun s => match s.2.2.1 with
  | .ref k :: r => if k < s.2.2.2.1.1 ∧ anth s.2.2.2.1.2.2 k = some (0, ci) then some (.inl (s.1 + 1, s.2.1, afv s.2.2.2 k ci j :: r, s.2.2.2)) else none
  | _ => none
def aPut (ci j : Nat) : aOp := fun s => match s.2.2.1 with
  | v :: .ref k :: r => if k < s.2.2.2.1.1 ∧ anth s.2.2.2.1.2.2 k = some (0, ci) then (match afw s.2.2.2 k ci j v with
    | some h => some (.inl (s.1 + 1, s.2.1, r, h))
    | none => none) else none
  | _ => none
/-- an array that stands outside: the script, a static row: its length, what it holds -/
abbrev aXt : Type := Nat → Option (Nat × (Nat → Int32))
def aixn (i : Int32) (n : Nat) : Bool := !(decide (i < 0)) && decide (i.toNatClampNeg < n)
def aIal (X : aXt) : aOp := fun s => match s.2.2.1 with
  | .int i :: .ref k :: r => match X k with
    | some (n, f) => if aixn i n = true then some (.inl (s.1 + 1, s.2.1, .int (f i.toNatClampNeg) :: r, s.2.2.2)) else none
    | none => match anth s.2.2.2.1.2.2 k with
      | some (1, n) => if k < s.2.2.2.1.1 ∧ aixn i n = true then some (.inl (s.1 + 1, s.2.1, .int (s.2.2.2.2.1 k i.toNatClampNeg) :: r, s.2.2.2)) else none
      | _ => none
  | _ => none
def aZal : aOp := fun s => match s.2.2.1 with
  | .int i :: .ref k :: r => match anth s.2.2.2.1.2.2 k with
      | some (2, n) => if k < s.2.2.2.1.1 ∧ aixn i n = true then some (.inl (s.1 + 1, s.2.1, .int (s.2.2.2.2.1 k i.toNatClampNeg) :: r, s.2.2.2)) else none
      | _ => none
  | _ => none
def aIas : aOp := fun s => match s.2.2.1 with
  | .int x :: .int i :: .ref k :: r => match anth s.2.2.2.1.2.2 k with
      | some (1, n) => if k < s.2.2.2.1.1 ∧ aixn i n = true then some (.inl (s.1 + 1, s.2.1, r, (s.2.2.2.1, aup s.2.2.2.2.1 k i.toNatClampNeg x, s.2.2.2.2.2))) else none
      | _ => none
  | _ => none
def aZas : aOp := fun s => match s.2.2.1 with
  | .int x :: .int i :: .ref k :: r => match anth s.2.2.2.1.2.2 k with
      | some (2, n) => if k < s.2.2.2.1.1 ∧ aixn i n = true ∧ (x = 0 ∨ x = 1) then some (.inl (s.1 + 1, s.2.1, r, (s.2.2.2.1, aup s.2.2.2.2.1 k i.toNatClampNeg x, s.2.2.2.2.2))) else none
      | _ => none
  | _ => none
def aAal : aOp := fun s => match s.2.2.1 with
  | .int i :: .ref k :: r => match anth s.2.2.2.1.2.2 k with
      | some (t + 3, n) => if k < s.2.2.2.1.1 ∧ aixn i n = true ∧ t < 3 then some (.inl (s.1 + 1, s.2.1, arf (s.2.2.2.2.2.2 k i.toNatClampNeg) :: r, s.2.2.2)) else none
      | _ => none
  | _ => none
/-- the class of the objects that an array of shape t + 3 holds -/
def aElt (t : Nat) : Nat := match t with
  | 0 => 3
  | 1 => 0
  | _ => 2
def aAas : aOp := fun s => match s.2.2.1 with
  | .ref q :: .int i :: .ref k :: r => match anth s.2.2.2.1.2.2 k with
      | some (t + 3, n) => if k < s.2.2.2.1.1 ∧ aixn i n = true ∧ t < 3 ∧ q < s.2.2.2.1.1 ∧ anth s.2.2.2.1.2.2 q = some (0, aElt t) then some (.inl (s.1 + 1, s.2.1, r, (s.2.2.2.1, s.2.2.2.2.1, s.2.2.2.2.2.1, aup s.2.2.2.2.2.2 k i.toNatClampNeg (some q)))) else none
      | _ => none
  | _ => none
def aLen (X : aXt) : aOp := fun s => match s.2.2.1 with
  | .ref k :: r => match X k with
    | some (n, _) => some (.inl (s.1 + 1, s.2.1, .int (Int32.ofNat n) :: r, s.2.2.2))
    | none => match anth s.2.2.2.1.2.2 k with
      | some (t + 1, n) => if k < s.2.2.2.1.1 ∧ t < 5 then some (.inl (s.1 + 1, s.2.1, .int (Int32.ofNat n) :: r, s.2.2.2)) else none
      | _ => none
  | _ => none
/-- a new cell: all its numbers are 0, its references null -/
def azero {α : Type} (f : Nat → Nat → α) (k : Nat) (v : α) : Nat → Nat → α := fun x y => if x = k then v else f x y
def anew (h : aM) (sh : Nat × Nat) (w : Nat) : aM := ((h.1.1 + 1, h.1.2.1 + w, h.1.2.2 ++ [sh]), azero h.2.1 h.1.1 0, azero h.2.2.1 h.1.1 0, azero h.2.2.2 h.1.1 none)
def aCAP : Nat := 100000
def aNew (ci : Nat) : aOp := fun s => if s.2.2.2.1.1 < aCAP ∧ ci < 8 then some (.inl (s.1 + 1, s.2.1, .ref s.2.2.2.1.1 :: s.2.2.1, anew s.2.2.2 (0, ci) (anf ci))) else none
/-- tag 1, 2: numbers; 3 .. 5: references -/
def aNar (tag : Nat) : aOp := fun s => match s.2.2.1 with
  | .int n :: r => if s.2.2.2.1.1 < aCAP ∧ ¬ n < 0 ∧ n.toNatClampNeg ≤ 1000 then some (.inl (s.1 + 1, s.2.1, .ref s.2.2.2.1.1 :: r, anew s.2.2.2 (tag, n.toNatClampNeg) n.toNatClampNeg)) else none
  | _ => none
-- System.arraycopy of ints, Arrays.fill of ints
def acpy (f : Nat → Nat → Int32) (a b sp dp n : Nat) : Nat → Nat → Int32 := fun x y => if x = b then (if dp ≤ y ∧ y < dp + n then f a (sp + (y - dp)) else f x y) else f x y
def aCpy : aOp := fun s => match s.2.2.1 with
  | .int n :: .int dp :: .ref b :: .int sp :: .ref a :: r => match anth s.2.2.2.1.2.2 a, anth s.2.2.2.1.2.2 b with
      | some (1, n0), some (1, n1) => if a < s.2.2.2.1.1 ∧ b < s.2.2.2.1.1 ∧ ¬ sp < 0 ∧ ¬ dp < 0 ∧ ¬ n < 0 ∧ sp.toNatClampNeg + n.toNatClampNeg ≤ n0 ∧ dp.toNatClampNeg + n.toNatClampNeg ≤ n1 ∧ asum r ≤ 8 then some (.inl (s.1 + 1, s.2.1, r, (s.2.2.2.1, acpy s.2.2.2.2.1 a b sp.toNatClampNeg dp.toNatClampNeg n.toNatClampNeg, s.2.2.2.2.2))) else none
      | _, _ => none
  | _ => none
def afil (f : Nat → Nat → Int32) (k n : Nat) (v : Int32) : Nat → Nat → Int32 := fun x y => if x = k then (if y < n then v else f x y) else f x y
def aFil : aOp := fun s => match s.2.2.1 with
  | .int v :: .ref k :: r => match anth s.2.2.2.1.2.2 k with
      | some (1, n) => if k < s.2.2.2.1.1 ∧ n ≤ 1000 ∧ asum r ≤ 8 then some (.inl (s.1 + 1, s.2.1, r, (s.2.2.2.1, afil s.2.2.2.2.1 k n v, s.2.2.2.2.2))) else none
      | _ => none
  | _ => none
-- constant texts: the text of number k is the reference aSTR + k; their lengths and letters
def aSTR : Nat := 200000
def atx : List (List Nat) := [[116, 101, 97, 99, 104, 101, 115, 32, 56, 32, 45, 32, 100, 111, 110, 101, 32, 43, 32, 104, 101, 108, 112, 32, 59, 32, 102, 97, 100, 101, 115, 32, 49, 32, 59, 32, 110, 101, 114, 118, 101, 115, 32, 53, 32, 59], [115, 107, 105, 108, 108], [104, 97, 114, 100], [104, 101, 108, 112], [110, 117, 109, 98, 101, 114], [100, 97, 121], [100, 111, 110, 101], [116, 101, 97, 99, 104, 101, 115], [102, 97, 100, 101, 115], [110, 101, 114, 118, 101, 115], [111, 114], [97, 110, 100], [110, 111, 116]]
def gSlen : List (Option Value) → List Value → Option aLS := fun loc st => match st with
  | .ref k :: r => if aSTR ≤ k ∧ asum r ≤ 8 then (match anth atx (k - aSTR) with
    | some t => some (loc, .int (Int32.ofNat t.length) :: r)
    | none => none) else none
  | _ => none
def gChr : List (Option Value) → List Value → Option aLS := fun loc st => match st with
  | .int i :: .ref k :: r => if aSTR ≤ k ∧ asum r ≤ 8 then (match anth atx (k - aSTR) with
    | some t => if aixn i t.length = true then some (loc, .int (Int32.ofNat ((anth t i.toNatClampNeg).getD 0)) :: r) else none
    | none => none) else none
  | _ => none
-- calls and ends
/-- a call of method mid with n values of the stack; ci: the class of the first where it is looked at -/
def arcv (h : aM) : Option Nat → List Value → Bool
  | none, _ => true
  | some ci, .ref k :: _ => decide (k < h.1.1) && decide (anth h.1.2.2 k = some (0, ci))
  | _, _ => false
def aCal (mid n : Nat) (ci : Option Nat) : aOp := fun s => if (s.2.2.1.take n).length = n ∧ asum (s.2.2.1.drop n) ≤ 8 ∧ arcv s.2.2.2 ci (s.2.2.1.take n).reverse = true then some (.inr (.inr (mid, (s.2.2.1.take n).reverse, (s.1 + 1, s.2.1, s.2.2.1.drop n, s.2.2.2)))) else none
def aRet (q : Value → Bool) : aOp := fun s => match s.2.2.1 with
  | v :: [] => if q v = true then some (.inr (.inl (some v, s.2.2.2))) else none
  | _ => none
def qI (v : Value) : Bool := match v with
  | .int _ => true
  | _ => false
def qZ (v : Value) : Bool := match v with
  | .int x => x = 0 || x = 1
  | _ => false
def qL (v : Value) : Bool := match v with
  | .long _ => true
  | _ => false
def qA (v : Value) : Bool := match v with
  | .ref _ => true
  | .null => true
  | _ => false
def aRv : aOp := fun s => match s.2.2.1 with
  | [] => some (.inr (.inl (none, s.2.2.2)))
  | _ => none
def apush (s : aSt) (v : Option Value) (h : aM) : aSt := (s.1, s.2.1, (match v with
  | some x => x :: s.2.2.1
  | none => s.2.2.1), h)
def aRn (E : Nat → List Value → aM → Option Value → aM → Prop) (cd : List aOp) : Nat → aSt → Option Value → aM → Prop
  | 0, _, _, _ => False
  | n + 1, s, r, h' => match anth cd s.1 with
    | none => False
    | some f => match f s with
      | none => False
      | some (.inl s') => aRn E cd n s' r h'
      | some (.inr (.inl (v, h1))) => v = r ∧ h1 = h'
      | some (.inr (.inr (mid, as, s'))) => ∃ v h1, E mid as s'.2.2.2 v h1 ∧ aRn E cd n (apush s' v h1) r h'
/-- the locals at a method's entry -/
def aent : Nat → List Value → List (Option Value)
  | nL, [] => List.replicate nL none
  | nL, v :: t => if v.category = 2 then some v :: none :: aent (nL - 2) t else some v :: aent (nL - 1) t
def aEx (tb : Nat → Option (List aOp × Nat)) : Nat → Nat → List Value → aM → Option Value → aM → Prop
  | 0, _, _, _, _, _ => False
  | d + 1, mid, as, h, r, h' => (h.1.1 ≤ h'.1.1 ∧ h.1.2.1 ≤ h'.1.2.1) ∧ ∃ (cd : List aOp) (nL n : Nat), tb mid = some (cd, nL) ∧ (aent nL as).length = nL ∧ aRn (aEx tb d) cd n (0, aent nL as, [], h) r h'
