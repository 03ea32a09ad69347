/-! the memory's layout behind both constructors (written by wip/whole/mkbase.py) -/
def SHL : List (Nat × Nat) := [(0, 6), (3, 6), (0, 1), (1, 160), (0, 3), (1, 160), (1, 3), (1, 32), (4, 5), (4, 5), (5, 4), (0, 3), (1, 160), (1, 3), (1, 32), (0, 3), (1, 160), (1, 3), (1, 32), (0, 3), (1, 160), (1, 3), (1, 32), (0, 3), (1, 160), (1, 3), (1, 32), (0, 3), (1, 160), (1, 3), (1, 32), (0, 3), (1, 160), (1, 3), (1, 32), (0, 0), (1, 8), (0, 0), (1, 8), (0, 0), (1, 8), (0, 0), (1, 8), (0, 0), (1, 8), (0, 0), (1, 8), (0, 0), (1, 8), (0, 0), (1, 8), (0, 0), (1, 8), (0, 0), (1, 8), (0, 2), (1, 40), (0, 2), (1, 40), (0, 2), (1, 40), (0, 2), (1, 40), (0, 5), (1, 8), (1, 6), (0, 5), (1, 8), (1, 6), (0, 4), (0, 0), (1, 8), (4, 4), (0, 5), (1, 8), (1, 6), (0, 0), (1, 8), (0, 0), (1, 8), (0, 0), (1, 8), (0, 0), (1, 8), (0, 7), (1, 960), (1, 6), (1, 160), (1, 8), (1, 5), (1, 5), (1, 50), (1, 10), (1, 5), (1, 8), (1, 5), (1, 50), (2, 4), (1, 4), (1, 4), (1, 160)]
def HD : aHd := (101, 3514, SHL)
/-- the references that stay: (cell, field or place, cell) -/
def MRL : List (Nat × Nat × Nat) := [(0, 0, 1), (0, 2, 2), (0, 3, 63), (0, 4, 8), (0, 6, 66), (0, 7, 9), (0, 9, 69), (0, 10, 10), (2, 1, 3), (2, 2, 4), (4, 1, 5), (4, 2, 6), (4, 3, 7), (1, 0, 11), (11, 1, 12), (11, 2, 13), (11, 3, 14), (1, 1, 15), (15, 1, 16), (15, 2, 17), (15, 3, 18), (1, 2, 19), (19, 1, 20), (19, 2, 21), (19, 3, 22), (1, 3, 23), (23, 1, 24), (23, 2, 25), (23, 3, 26), (1, 4, 27), (27, 1, 28), (27, 2, 29), (27, 3, 30), (1, 5, 31), (31, 1, 32), (31, 2, 33), (31, 3, 34), (8, 0, 35), (9, 0, 37), (35, 4, 36), (37, 4, 38), (8, 1, 39), (9, 1, 41), (39, 4, 40), (41, 4, 42), (8, 2, 43), (9, 2, 45), (43, 4, 44), (45, 4, 46), (8, 3, 47), (9, 3, 49), (47, 4, 48), (49, 4, 50), (8, 4, 51), (9, 4, 53), (51, 4, 52), (53, 4, 54), (10, 0, 55), (55, 2, 56), (10, 1, 57), (57, 2, 58), (10, 2, 59), (59, 2, 60), (10, 3, 61), (61, 2, 62), (63, 0, 64), (63, 3, 65), (66, 0, 67), (66, 3, 68), (73, 0, 74), (73, 3, 75), (69, 0, 73), (69, 1, 70), (69, 5, 72), (70, 4, 71), (72, 0, 76), (76, 4, 77), (72, 1, 78), (78, 4, 79), (72, 2, 80), (80, 4, 81), (72, 3, 82), (82, 4, 83), (84, 1, 85), (84, 2, 86), (84, 5, 87), (84, 8, 88), (84, 9, 89), (84, 10, 90), (84, 11, 91), (84, 28, 92), (84, 30, 93), (84, 31, 94), (84, 32, 95), (84, 33, 96), (84, 37, 97), (84, 38, 98), (84, 39, 99), (84, 40, 100)]
def MRok (mr : Nat → Nat → Option Nat) : Prop := ∀ q ∈ MRL, mr q.1 q.2.1 = some q.2.2
def PUPS : List Nat := [35, 37, 39, 41, 43, 45, 47, 49, 51, 53, 70, 76, 78, 80, 82]
def TOWNS : List Nat := [63, 66, 73]
def TXS : List Nat := [11, 15, 19, 23, 27, 31]
theorem shP {P : Nat} (h : P ∈ PUPS) : aSh HD P (0, 0) := by
  revert P
  unfold aSh
  decide
theorem shPs {P : Nat} (h : P ∈ PUPS) : aSh HD (P + 1) (1, 8) := by
  revert P
  unfold aSh
  decide
theorem shT {P : Nat} (h : P ∈ TOWNS) : aSh HD P (0, 5) := by
  revert P
  unfold aSh
  decide
theorem shTh {P : Nat} (h : P ∈ TOWNS) : aSh HD (P + 1) (1, 8) := by
  revert P
  unfold aSh
  decide
theorem shTn {P : Nat} (h : P ∈ TOWNS) : aSh HD (P + 2) (1, 6) := by
  revert P
  unfold aSh
  decide
theorem shX {P : Nat} (h : P ∈ TXS) : aSh HD P (0, 3) := by
  revert P
  unfold aSh
  decide
theorem shXs {P : Nat} (h : P ∈ TXS) : aSh HD (P + 1) (1, 160) := by
  revert P
  unfold aSh
  decide
theorem shXe {P : Nat} (h : P ∈ TXS) : aSh HD (P + 2) (1, 3) := by
  revert P
  unfold aSh
  decide
theorem shXt {P : Nat} (h : P ∈ TXS) : aSh HD (P + 3) (1, 32) := by
  revert P
  unfold aSh
  decide
theorem mlP {P : Nat} (h : P ∈ PUPS) : (P, 4, P + 1) ∈ MRL := by
  revert P
  decide
theorem mlT0 {P : Nat} (h : P ∈ TOWNS) : (P, 0, P + 1) ∈ MRL := by
  revert P
  decide
theorem mlT3 {P : Nat} (h : P ∈ TOWNS) : (P, 3, P + 2) ∈ MRL := by
  revert P
  decide
theorem mlX1 {P : Nat} (h : P ∈ TXS) : (P, 1, P + 1) ∈ MRL := by
  revert P
  decide
theorem mlX2 {P : Nat} (h : P ∈ TXS) : (P, 2, P + 2) ∈ MRL := by
  revert P
  decide
theorem mlX3 {P : Nat} (h : P ∈ TXS) : (P, 3, P + 3) ∈ MRL := by
  revert P
  decide
/-- memories that are alike but for what S names -/
def eqO (S : Nat → Nat → Bool) (m m' : Nat → Nat → Int32) : Prop := ∀ k j, S k j = false → m' k j = m k j
theorem eqO.rf {S : Nat → Nat → Bool} (m : Nat → Nat → Int32) : eqO S m m := fun _ _ _ => rfl
theorem eqO.tr {S : Nat → Nat → Bool} {a b c : Nat → Nat → Int32} (h : eqO S a b) (k : eqO S b c) : eqO S a c := fun x y q => (k x y q).trans (h x y q)
theorem eqO.up {S : Nat → Nat → Bool} {a b : Nat → Nat → Int32} (h : eqO S a b) {x y : Nat} {v : Int32} (hs : S x y = true) : eqO S a (aup b x y v) := by
  intro k j q
  unfold aup
  by_cases h1 : k = x
  · by_cases h2 : j = y
    · subst h1; subst h2
      rw [hs] at q
      cases q
    · rw [if_pos h1, if_neg h2]
      exact h k j q
  · rw [if_neg h1]
    exact h k j q
theorem eqO.upup {S : Nat → Nat → Bool} {a b : Nat → Nat → Int32} (h : eqO S a b) (x y : Nat) (v : Int32) : eqO S (aup a x y v) (aup b x y v) := by
  intro k j q
  unfold aup
  split
  · split
    · rfl
    · exact h k j q
  · exact h k j q
theorem eqO.wk {S S' : Nat → Nat → Bool} {a b : Nat → Nat → Int32} (h : eqO S a b) (hs : ∀ k j, S k j = true → S' k j = true) : eqO S' a b := by
  intro k j q
  refine h k j ?_
  cases hq : S k j with
  | false => rfl
  | true => rw [hs k j hq] at q; cases q
/-- names and stacks -/
def sN (k _ : Nat) : Bool := [65, 68, 75, 7, 14, 18, 22, 26, 30, 34].contains k
theorem sNT {P : Nat} (h : P ∈ TOWNS) (j : Nat) : sN (P + 2) j = true := by
  unfold sN
  revert P
  decide
theorem sNX {P : Nat} (h : P ∈ TXS) (j : Nat) : sN (P + 3) j = true := by
  unfold sN
  revert P
  decide
theorem nNT {P : Nat} (h : P ∈ TOWNS) (j : Nat) : sN P j = false ∧ sN (P + 1) j = false := by
  unfold sN
  revert P
  decide
theorem nNX {P : Nat} (h : P ∈ TXS) (j : Nat) : sN P j = false ∧ sN (P + 1) j = false ∧ sN (P + 2) j = false := by
  unfold sN
  revert P
  decide
theorem nNP {P : Nat} (h : P ∈ PUPS) (j : Nat) : sN P j = false ∧ sN (P + 1) j = false := by
  unfold sN
  revert P
  decide
/-- an int that is a place -/
theorem aix_nI {t n : Nat} (h : t < n) (hn : n < 2 ^ 31) : aixn (nI t) n = true := by
  unfold aixn
  rw [nI_clamp (by omega), decide_eq_false (nI_pos (by omega)), decide_eq_true h]
  rfl
theorem inc_nI (t : Nat) : nI t + Int32.ofInt 1 = nI (t + 1) := nI_1 t
theorem aix_eq {x : Int32} {n : Nat} (h : aixn x n = true) : x = nI x.toNatClampNeg ∧ x.toNatClampNeg < n := by
  obtain ⟨h1, h2⟩ := aix_out h
  refine ⟨?_, h2⟩
  apply Int32.toInt_inj.mp
  have h0 : (0 : Int) ≤ x.toInt := by
    have := Int32.not_lt.mp h1
    simpa using Int32.le_iff_toInt_le.mp this
  have h3 : x.toInt < 2 ^ 31 := Int32.toInt_lt x
  rw [nI_toInt (by show x.toInt.toNat < 2 ^ 31; omega)]
  show x.toInt = (x.toInt.toNat : Int)
  omega
