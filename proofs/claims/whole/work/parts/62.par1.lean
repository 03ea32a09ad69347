/-! the grammar by level (written by wip/whole/mkpar1.py) -/
abbrev pF := pS → Bool × pS
def lpF (b : Nat → Int32) (n : Nat) (jo : Int32 → Int32) (sub : pF) : Nat → pF
  | 0, s => (true, s)
  | g + 1, s => if jo s.2.2.1 = 0 then (true, s) else if (sub (stP b n s)).1 = true then lpF b n jo sub g (adP (jo s.2.2.1) (sub (stP b n s)).2) else (false, (sub (stP b n s)).2)
def chF (b : Nat → Int32) (n : Nat) (jo : Int32 → Int32) (sub : pF) : pF := fun s => if (sub s).1 = true then lpF b n jo sub 160 (sub s).2 else (false, (sub s).2)
def joO (t : Int32) : Int32 := if t = 6 then -11 else 0
def joA (t : Int32) : Int32 := if t = 7 then -12 else 0
def joS (t : Int32) : Int32 := if t = 43 then -16 else if t = 45 then -17 else 0
def joT (t : Int32) : Int32 := if t = 42 then -18 else 0
def liF (b : Nat → Int32) (n : Nat) (sub : pF) : pF := fun s => if (sub s).1 = true then (if (sub s).2.2.2.1 = 60 ∨ (sub s).2.2.2.1 = 61 then (if (sub (stP b n (sub s).2)).1 = true then (true, adP (if (sub s).2.2.2.1 = 60 then -14 else -15) (sub (stP b n (sub s).2)).2) else (false, (sub (stP b n (sub s).2)).2)) else (true, (sub s).2)) else (false, (sub s).2)
def onF (b : Nat → Int32) (n : Nat) (deep : Option (pF × pF × pF)) : pF := fun s =>
  if s.2.2.1 = 2 then (true, stP b n (adP s.2.2.2.1 s)) else if ¬ s.2.2.1 < 10 ∧ ¬ 16 ≤ s.2.2.1 then (true, stP b n (adP (9 - s.2.2.1) s)) else
  match deep with
  | none => (false, s)
  | some q => if s.2.2.1 = 45 then (if (q.2.2 (stP b n s)).1 = true then (true, adP (-19) (q.2.2 (stP b n s)).2) else (false, (q.2.2 (stP b n s)).2)) else if s.2.2.1 = 40 then (if (q.1 (stP b n s)).1 = true ∧ (q.1 (stP b n s)).2.2.2.1 = 41 then (true, stP b n (q.1 (stP b n s)).2) else (false, (q.1 (stP b n s)).2)) else (false, s)
def ntF (b : Nat → Int32) (n : Nat) (deep : Option (pF × pF × pF)) (like : pF) : pF := fun s => if s.2.2.1 = 8 then (match deep with
  | none => (false, s)
  | some q => if (q.2.1 (stP b n s)).1 = true then (true, adP (-13) (q.2.1 (stP b n s)).2) else (false, (q.2.1 (stP b n s)).2)) else like s
/-- or, not, one of a level whose deeper one is given -/
def lvF (b : Nat → Int32) (n : Nat) (deep : Option (pF × pF × pF)) : pF × pF × pF :=
  let one := onF b n deep
  let not := ntF b n deep (liF b n (chF b n joS (chF b n joT one)))
  (chF b n joO (chF b n joA not), not, one)
/-- level k: 5 - k are open -/
def leP (b : Nat → Int32) (n : Nat) : Nat → pF × pF × pF
  | 0 => lvF b n none
  | k + 1 => lvF b n (some (leP b n k))
/-- a way of the reader's does as F -/
def cwP (X : aXt × Value) (mi : Nat → Nat → Int32) (ml : Nat → Nat → Int64) (mr : Nat → Nat → Option Nat) (d mid : Nat) (op : Int32) (F : pF) : Prop := ∀ m s, PS mi m s → aCW X d mid [.ref 2, .int op] (HD, m, ml, mr) (fun r h' => ∃ m', h' = (HD, m', ml, mr) ∧ PS mi m' (F s).2 ∧ r = some (.int (if (F s).1 = true then 1 else 0)))
