/-! links: guesses counted up and down (written by wip/whole/mklnk1.py) -/
def cuF (F : Nat → Int32) : Nat → Nat → Nat
  | 0, _ => 0
  | g + 1, k => (if F k = -1 then 1 else 0) + cuF F g (k + 1)
def cdF (F : Nat → Int32) : Nat → Nat
  | 0 => 0
  | k + 1 => (if F k = -1 then 1 else 0) + cdF F k
theorem cuF_last {F : Nat → Int32} : ∀ g k, cuF F (g + 1) k = cuF F g k + (if F (k + g) = -1 then 1 else 0) := by
  intro g
  induction g with
  | zero => intro k; show _ + 0 = 0 + _; rw [Nat.add_zero, Nat.zero_add, Nat.add_zero]
  | succ g ih =>
    intro k
    show (if F k = -1 then 1 else 0) + cuF F (g + 1) (k + 1) = (if F k = -1 then 1 else 0) + cuF F g (k + 1) + _
    rw [ih (k + 1), show k + 1 + g = k + (g + 1) from by omega, Nat.add_assoc]
theorem cu_cd {F : Nat → Int32} : ∀ g, cuF F g 0 = cdF F g := by
  intro g
  induction g with
  | zero => rfl
  | succ g ih =>
    rw [cuF_last, ih, Nat.zero_add, Nat.add_comm]
    rfl
theorem tlL_many {F : Nat → Int32} : ∀ g k (a : tA) (c : Nat), a.2.2.1 = nI c → (tlL F g k a).2.2.1 = nI (c + cuF F g k) := by
  intro g
  induction g with
  | zero => intro k a c h; exact h
  | succ g ih =>
    intro k a c h
    show (tlL F g (k + 1) (stT (F k) k a)).2.2.1 = _
    unfold stT
    show _ = nI (c + ((if F k = -1 then 1 else 0) + cuF F g (k + 1)))
    by_cases e : F k = -1
    · rw [if_pos e, if_pos e, ih (k + 1) _ (c + 1) (by show a.2.2.1 + 1 = nI (c + 1); rw [h]; exact inc_nI c), Nat.add_assoc]
    · rw [if_neg e, if_neg e, ih (k + 1) (F k, a.2.1, a.2.2.1, a.2.2.2) c h, Nat.zero_add]
