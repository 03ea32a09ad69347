/-! links: the first guess (written by wip/whole/mklnk2.py) -/
def fuA (F : Nat → Int32) : Nat → Nat → Int32 → Int32
  | 0, _, a => a
  | g + 1, k, a => if F k = -1 then nI k else fuA F g (k + 1) a
def dfF (F : Nat → Int32) : Nat → Int32 → Int32
  | 0, a => a
  | k + 1, a => dfF F k (if F k = -1 then nI k else a)
theorem fuA_last {F : Nat → Int32} : ∀ g k a, fuA F (g + 1) k a = fuA F g k (if F (k + g) = -1 then nI (k + g) else a) := by
  intro g
  induction g with
  | zero => intro k a; rfl
  | succ g ih =>
    intro k a
    show (if F k = -1 then nI k else fuA F (g + 1) (k + 1) a) = (if F k = -1 then nI k else fuA F g (k + 1) _)
    rw [ih (k + 1) a, show k + 1 + g = k + (g + 1) from by omega]
theorem fu_df {F : Nat → Int32} : ∀ g a, dfF F g a = fuA F g 0 a := by
  intro g
  induction g with
  | zero => intro a; rfl
  | succ g ih =>
    intro a
    rw [fuA_last, Nat.zero_add]
    exact ih _
theorem tlL_first {F : Nat → Int32} : ∀ g k (a : tA), k + g ≤ 1000 → (tlL F g k a).2.2.2 = if a.2.2.2 = -1 then fuA F g k (-1) else a.2.2.2 := by
  intro g
  induction g with
  | zero =>
    intro k a _
    show a.2.2.2 = if a.2.2.2 = -1 then -1 else a.2.2.2
    by_cases e : a.2.2.2 = -1
    · rw [if_pos e]; exact e
    · rw [if_neg e]
  | succ g ih =>
    intro k a hk
    show (tlL F g (k + 1) (stT (F k) k a)).2.2.2 = if a.2.2.2 = -1 then (if F k = -1 then nI k else fuA F g (k + 1) (-1)) else a.2.2.2
    rw [ih (k + 1) (stT (F k) k a) (by omega)]
    have n1 : ¬ nI k = -1 := by
      intro z
      have q := congrArg Int32.toInt z
      rw [nI_toInt (by omega), show (-1 : Int32).toInt = -1 from rfl] at q
      omega
    unfold stT
    by_cases e : F k = -1
    · simp only [if_pos e]
      by_cases e2 : a.2.2.2 = -1
      · simp only [if_pos e2, if_neg n1]
      · simp only [if_neg e2]
    · simp only [if_neg e]
