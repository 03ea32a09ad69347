/-! the reference: whose kind; a street and a help; learners from a sheet (written by wip/whole/mkrefL.py) -/
set_option maxRecDepth 20000 in
set_option maxHeartbeats 1000000 in
theorem c_over_0 {X : aXt × Value} {mi : Nat → Nat → Int32} {ml : Nat → Nat → Int64} {mr : Nat → Nat → Option Nat}  : aCW X 1 214 [.int 0] (HD, mi, ml, mr) (rdI mi ml mr (-1)) := by
  refine cw_of (cd := cd_X7_over) (nL := 1) rfl rfl ?_
  show aWP _ _ (0, [some (.int 0)], [], (HD, mi, ml, mr)) _
  refine wp_steps 1 (t' := (1, [some (.int 0)], [.int 0], (HD, mi, ml, mr))) rfl ?_
  refine wp_bI rfl (fun c_1 => ?_) (fun c_1 => ?_)
  · have c_1 : ¬ (0 : Int32) = 0 := of_decide_eq_true c_1
    exact absurd c_1 (by decide)
  have c_1 : (0 : Int32) = 0 := Decidable.not_not.mp (of_decide_eq_false c_1)
  refine wp_steps 2 (t' := (15, [some (.int 0)], [.int (-1)], (HD, mi, ml, mr))) rfl ?_
  refine wp_ret rfl rfl ⟨⟨Nat.le_refl _, Nat.le_refl _⟩, ?_⟩
  exact ⟨rfl, rfl⟩
set_option maxRecDepth 20000 in
set_option maxHeartbeats 1000000 in
theorem c_over_1 {X : aXt × Value} {mi : Nat → Nat → Int32} {ml : Nat → Nat → Int64} {mr : Nat → Nat → Option Nat}  : aCW X 1 214 [.int 1] (HD, mi, ml, mr) (rdI mi ml mr (0)) := by
  refine cw_of (cd := cd_X7_over) (nL := 1) rfl rfl ?_
  show aWP _ _ (0, [some (.int 1)], [], (HD, mi, ml, mr)) _
  refine wp_steps 1 (t' := (1, [some (.int 1)], [.int 1], (HD, mi, ml, mr))) rfl ?_
  refine wp_bI rfl (fun c_1 => ?_) (fun c_1 => ?_)
  rotate_left
  · have c_1 : (1 : Int32) = 0 := Decidable.not_not.mp (of_decide_eq_false c_1)
    exact absurd c_1 (by decide)
  have c_1 : ¬ (1 : Int32) = 0 := of_decide_eq_true c_1
  refine wp_steps 2 (t' := (6, [some (.int 1)], [.int 3, .int 1], (HD, mi, ml, mr))) rfl ?_
  refine wp_bC rfl (fun c_2 => ?_) (fun c_2 => ?_)
  rotate_left
  · have c_2 : (1 : Int32) = 3 := Decidable.not_not.mp (of_decide_eq_false c_2)
    exact absurd c_2 (by decide)
  have c_2 : ¬ (1 : Int32) = 3 := of_decide_eq_true c_2
  refine wp_steps 2 (t' := (11, [some (.int 1)], [.int 4, .int 1], (HD, mi, ml, mr))) rfl ?_
  refine wp_bC rfl (fun c_3 => ?_) (fun c_3 => ?_)
  rotate_left
  · have c_3 : (1 : Int32) = 4 := Decidable.not_not.mp (of_decide_eq_false c_3)
    exact absurd c_3 (by decide)
  have c_3 : ¬ (1 : Int32) = 4 := of_decide_eq_true c_3
  refine wp_steps 1 (t' := (15, [some (.int 1)], [.int 0], (HD, mi, ml, mr))) rfl ?_
  refine wp_ret rfl rfl ⟨⟨Nat.le_refl _, Nat.le_refl _⟩, ?_⟩
  exact ⟨rfl, rfl⟩
set_option maxRecDepth 20000 in
set_option maxHeartbeats 1000000 in
theorem c_over_2 {X : aXt × Value} {mi : Nat → Nat → Int32} {ml : Nat → Nat → Int64} {mr : Nat → Nat → Option Nat}  : aCW X 1 214 [.int 2] (HD, mi, ml, mr) (rdI mi ml mr (0)) := by
  refine cw_of (cd := cd_X7_over) (nL := 1) rfl rfl ?_
  show aWP _ _ (0, [some (.int 2)], [], (HD, mi, ml, mr)) _
  refine wp_steps 1 (t' := (1, [some (.int 2)], [.int 2], (HD, mi, ml, mr))) rfl ?_
  refine wp_bI rfl (fun c_1 => ?_) (fun c_1 => ?_)
  rotate_left
  · have c_1 : (2 : Int32) = 0 := Decidable.not_not.mp (of_decide_eq_false c_1)
    exact absurd c_1 (by decide)
  have c_1 : ¬ (2 : Int32) = 0 := of_decide_eq_true c_1
  refine wp_steps 2 (t' := (6, [some (.int 2)], [.int 3, .int 2], (HD, mi, ml, mr))) rfl ?_
  refine wp_bC rfl (fun c_2 => ?_) (fun c_2 => ?_)
  rotate_left
  · have c_2 : (2 : Int32) = 3 := Decidable.not_not.mp (of_decide_eq_false c_2)
    exact absurd c_2 (by decide)
  have c_2 : ¬ (2 : Int32) = 3 := of_decide_eq_true c_2
  refine wp_steps 2 (t' := (11, [some (.int 2)], [.int 4, .int 2], (HD, mi, ml, mr))) rfl ?_
  refine wp_bC rfl (fun c_3 => ?_) (fun c_3 => ?_)
  rotate_left
  · have c_3 : (2 : Int32) = 4 := Decidable.not_not.mp (of_decide_eq_false c_3)
    exact absurd c_3 (by decide)
  have c_3 : ¬ (2 : Int32) = 4 := of_decide_eq_true c_3
  refine wp_steps 1 (t' := (15, [some (.int 2)], [.int 0], (HD, mi, ml, mr))) rfl ?_
  refine wp_ret rfl rfl ⟨⟨Nat.le_refl _, Nat.le_refl _⟩, ?_⟩
  exact ⟨rfl, rfl⟩
set_option maxRecDepth 20000 in
set_option maxHeartbeats 1000000 in
theorem c_over_3 {X : aXt × Value} {mi : Nat → Nat → Int32} {ml : Nat → Nat → Int64} {mr : Nat → Nat → Option Nat}  : aCW X 1 214 [.int 3] (HD, mi, ml, mr) (rdI mi ml mr (1)) := by
  refine cw_of (cd := cd_X7_over) (nL := 1) rfl rfl ?_
  show aWP _ _ (0, [some (.int 3)], [], (HD, mi, ml, mr)) _
  refine wp_steps 1 (t' := (1, [some (.int 3)], [.int 3], (HD, mi, ml, mr))) rfl ?_
  refine wp_bI rfl (fun c_1 => ?_) (fun c_1 => ?_)
  rotate_left
  · have c_1 : (3 : Int32) = 0 := Decidable.not_not.mp (of_decide_eq_false c_1)
    exact absurd c_1 (by decide)
  have c_1 : ¬ (3 : Int32) = 0 := of_decide_eq_true c_1
  refine wp_steps 2 (t' := (6, [some (.int 3)], [.int 3, .int 3], (HD, mi, ml, mr))) rfl ?_
  refine wp_bC rfl (fun c_2 => ?_) (fun c_2 => ?_)
  · have c_2 : ¬ (3 : Int32) = 3 := of_decide_eq_true c_2
    exact absurd c_2 (by decide)
  have c_2 : (3 : Int32) = 3 := Decidable.not_not.mp (of_decide_eq_false c_2)
  refine wp_steps 2 (t' := (15, [some (.int 3)], [.int 1], (HD, mi, ml, mr))) rfl ?_
  refine wp_ret rfl rfl ⟨⟨Nat.le_refl _, Nat.le_refl _⟩, ?_⟩
  exact ⟨rfl, rfl⟩
set_option maxRecDepth 20000 in
set_option maxHeartbeats 1000000 in
theorem c_over_4 {X : aXt × Value} {mi : Nat → Nat → Int32} {ml : Nat → Nat → Int64} {mr : Nat → Nat → Option Nat}  : aCW X 1 214 [.int 4] (HD, mi, ml, mr) (rdI mi ml mr (2)) := by
  refine cw_of (cd := cd_X7_over) (nL := 1) rfl rfl ?_
  show aWP _ _ (0, [some (.int 4)], [], (HD, mi, ml, mr)) _
  refine wp_steps 1 (t' := (1, [some (.int 4)], [.int 4], (HD, mi, ml, mr))) rfl ?_
  refine wp_bI rfl (fun c_1 => ?_) (fun c_1 => ?_)
  rotate_left
  · have c_1 : (4 : Int32) = 0 := Decidable.not_not.mp (of_decide_eq_false c_1)
    exact absurd c_1 (by decide)
  have c_1 : ¬ (4 : Int32) = 0 := of_decide_eq_true c_1
  refine wp_steps 2 (t' := (6, [some (.int 4)], [.int 3, .int 4], (HD, mi, ml, mr))) rfl ?_
  refine wp_bC rfl (fun c_2 => ?_) (fun c_2 => ?_)
  rotate_left
  · have c_2 : (4 : Int32) = 3 := Decidable.not_not.mp (of_decide_eq_false c_2)
    exact absurd c_2 (by decide)
  have c_2 : ¬ (4 : Int32) = 3 := of_decide_eq_true c_2
  refine wp_steps 2 (t' := (11, [some (.int 4)], [.int 4, .int 4], (HD, mi, ml, mr))) rfl ?_
  refine wp_bC rfl (fun c_3 => ?_) (fun c_3 => ?_)
  · have c_3 : ¬ (4 : Int32) = 4 := of_decide_eq_true c_3
    exact absurd c_3 (by decide)
  have c_3 : (4 : Int32) = 4 := Decidable.not_not.mp (of_decide_eq_false c_3)
  refine wp_steps 2 (t' := (15, [some (.int 4)], [.int 2], (HD, mi, ml, mr))) rfl ?_
  refine wp_ret rfl rfl ⟨⟨Nat.le_refl _, Nat.le_refl _⟩, ?_⟩
  exact ⟨rfl, rfl⟩
set_option maxRecDepth 20000 in
set_option maxHeartbeats 1000000 in
theorem c_over_5 {X : aXt × Value} {mi : Nat → Nat → Int32} {ml : Nat → Nat → Int64} {mr : Nat → Nat → Option Nat}  : aCW X 1 214 [.int 5] (HD, mi, ml, mr) (rdI mi ml mr (0)) := by
  refine cw_of (cd := cd_X7_over) (nL := 1) rfl rfl ?_
  show aWP _ _ (0, [some (.int 5)], [], (HD, mi, ml, mr)) _
  refine wp_steps 1 (t' := (1, [some (.int 5)], [.int 5], (HD, mi, ml, mr))) rfl ?_
  refine wp_bI rfl (fun c_1 => ?_) (fun c_1 => ?_)
  rotate_left
  · have c_1 : (5 : Int32) = 0 := Decidable.not_not.mp (of_decide_eq_false c_1)
    exact absurd c_1 (by decide)
  have c_1 : ¬ (5 : Int32) = 0 := of_decide_eq_true c_1
  refine wp_steps 2 (t' := (6, [some (.int 5)], [.int 3, .int 5], (HD, mi, ml, mr))) rfl ?_
  refine wp_bC rfl (fun c_2 => ?_) (fun c_2 => ?_)
  rotate_left
  · have c_2 : (5 : Int32) = 3 := Decidable.not_not.mp (of_decide_eq_false c_2)
    exact absurd c_2 (by decide)
  have c_2 : ¬ (5 : Int32) = 3 := of_decide_eq_true c_2
  refine wp_steps 2 (t' := (11, [some (.int 5)], [.int 4, .int 5], (HD, mi, ml, mr))) rfl ?_
  refine wp_bC rfl (fun c_3 => ?_) (fun c_3 => ?_)
  rotate_left
  · have c_3 : (5 : Int32) = 4 := Decidable.not_not.mp (of_decide_eq_false c_3)
    exact absurd c_3 (by decide)
  have c_3 : ¬ (5 : Int32) = 4 := of_decide_eq_true c_3
  refine wp_steps 1 (t' := (15, [some (.int 5)], [.int 0], (HD, mi, ml, mr))) rfl ?_
  refine wp_ret rfl rfl ⟨⟨Nat.le_refl _, Nat.le_refl _⟩, ?_⟩
  exact ⟨rfl, rfl⟩
theorem c_over {X : aXt × Value} {mi : Nat → Nat → Int32} {ml : Nat → Nat → Int64} {mr : Nat → Nat → Option Nat} {x : Int32} (h : inR 0 5 x) : aCW X 1 214 [.int x] (HD, mi, ml, mr) (rdI mi ml mr (aUnd x.toNatClampNeg)) := by
  have h0 := rI.mp h
  rw [show (0 : Int32).toInt = 0 from rfl, show (5 : Int32).toInt = 5 from rfl] at h0
  rcases (by omega : x.toInt = 0 ∨ x.toInt = 1 ∨ x.toInt = 2 ∨ x.toInt = 3 ∨ x.toInt = 4 ∨ x.toInt = 5) with h | h | h | h | h | h
  · have e : x = 0 := Int32.toInt_inj.mp h
    subst e; exact c_over_0
  · have e : x = 1 := Int32.toInt_inj.mp h
    subst e; exact c_over_1
  · have e : x = 2 := Int32.toInt_inj.mp h
    subst e; exact c_over_2
  · have e : x = 3 := Int32.toInt_inj.mp h
    subst e; exact c_over_3
  · have e : x = 4 := Int32.toInt_inj.mp h
    subst e; exact c_over_4
  · have e : x = 5 := Int32.toInt_inj.mp h
    subst e; exact c_over_5
def rkK (x : Int32) : Nat := if x = -1 then 0 else if x = 0 then 1 else if x = 1 ∨ x = 2 ∨ x = 5 then 2 else 3
theorem rk_le (x : Int32) : rkK x ≤ 5 := by
  unfold rkK
  by_cases a : x = -1
  · rw [if_pos a]; decide
  · rw [if_neg a]
    by_cases b : x = 0
    · rw [if_pos b]; decide
    · rw [if_neg b]
      by_cases c : x = 1 ∨ x = 2 ∨ x = 5
      · rw [if_pos c]; decide
      · rw [if_neg c]; decide
theorem rk_un {x : Int32} (h : inR 0 5 x) : rkK (aUnd x.toNatClampNeg) + 1 ≤ rkK x ∧ inR (-1) 5 (aUnd x.toNatClampNeg) := by
  have h0 := rI.mp h
  rw [show (0 : Int32).toInt = 0 from rfl, show (5 : Int32).toInt = 5 from rfl] at h0
  rcases (by omega : x.toInt = 0 ∨ x.toInt = 1 ∨ x.toInt = 2 ∨ x.toInt = 3 ∨ x.toInt = 4 ∨ x.toInt = 5) with h | h | h | h | h | h
  · have e : x = 0 := Int32.toInt_inj.mp h
    subst e; decide
  · have e : x = 1 := Int32.toInt_inj.mp h
    subst e; decide
  · have e : x = 2 := Int32.toInt_inj.mp h
    subst e; decide
  · have e : x = 3 := Int32.toInt_inj.mp h
    subst e; decide
  · have e : x = 4 := Int32.toInt_inj.mp h
    subst e; decide
  · have e : x = 5 := Int32.toInt_inj.mp h
    subst e; decide
set_option maxRecDepth 20000 in
set_option maxHeartbeats 1000000 in
theorem q_taken_no {X : aXt × Value} {mi : Nat → Nat → Int32} {ml : Nat → Nat → Int64} {mr : Nat → Nat → Option Nat} (hM : MRok mr) {N : Nat} (hN : mi 84 12 = nI N) (hN5 : N ≤ 5) {one k : Int32} (hg : ¬ aixn one N = true) : aCW X 4 215 [.ref 84, .int one, .int k] (HD, mi, ml, mr) (qR mi mr (.int (if inR 0 5 k then -11 else -2))) := by
  refine cw_of (cd := cd_X7_taken) (nL := 4) rfl rfl ?_
  show aWP _ _ (0, [some (.ref 84), some (.int one), some (.int k), none], [], (HD, mi, ml, mr)) _
  refine wp_steps 4 (t' := (4, [some (.ref 84), some (.int one), some (.int k), none], [.long 5, .long 0, .long k.toInt64], (HD, mi, ml, mr))) rfl ?_
  refine wp_cal (as := [.long k.toInt64, .long 0, .long 5]) rfl rfl rfl (Nat.le_of_ble_eq_true rfl) ((c_in (x := k) (lo := 0) (hi := 5) rfl (by decide) (by decide))) (by decide) ?_
  rintro _ _ ⟨rfl, rfl⟩
  show aWP _ _ (5, [some (.ref 84), some (.int one), some (.int k), none], [.int (if inR 0 5 k then (1 : Int32) else 0)], (HD, mi, ml, mr)) _
  refine wp_bI rfl (fun c_1 => ?_) (fun c_1 => ?_)
  · have c_1 : ¬ (if inR 0 5 k then (1 : Int32) else 0) = 0 := of_decide_eq_true c_1
    refine wp_steps 2 (t' := (10, [some (.ref 84), some (.int one), some (.int k), none], [.int one, .ref 84], (HD, mi, ml, mr))) rfl ?_
    refine wp_calv (as := [.int one]) rfl rfl rfl (Nat.le_of_ble_eq_true rfl) ⟨by decide, rfl⟩ ((c_isOne_no (ml := ml) hM hN hN5 hg)) (by decide) ?_
    rintro _ _ ⟨rfl, rfl⟩
    show aWP _ _ (11, [some (.ref 84), some (.int one), some (.int k), none], [.int 0], (HD, mi, ml, mr)) _
    refine wp_bI rfl (fun c_2 => ?_) (fun c_2 => ?_)
    · have c_2 : ¬ (0 : Int32) = 0 := of_decide_eq_true c_2
      exact absurd c_2 (by decide)
    have c_2 : (0 : Int32) = 0 := Decidable.not_not.mp (of_decide_eq_false c_2)
    refine wp_steps 1 (t' := (13, [some (.ref 84), some (.int one), some (.int k), none], [.int (-11)], (HD, mi, ml, mr))) rfl ?_
    refine wp_ret rfl rfl ⟨⟨Nat.le_refl _, Nat.le_refl _⟩, ?_⟩
    exact ⟨by rw [if_pos (show inR 0 5 k from (i0_t c_1))], mi, ml, rfl, frQ.rf mi⟩
  · have c_1 : (if inR 0 5 k then (1 : Int32) else 0) = 0 := Decidable.not_not.mp (of_decide_eq_false c_1)
    refine wp_steps 1 (t' := (7, [some (.ref 84), some (.int one), some (.int k), none], [.int (-2)], (HD, mi, ml, mr))) rfl ?_
    refine wp_ret rfl rfl ⟨⟨Nat.le_refl _, Nat.le_refl _⟩, ?_⟩
    exact ⟨by rw [if_neg (show ¬ (inR 0 5 k) from fun z => (i0_f c_1) z)], mi, ml, rfl, frQ.rf mi⟩
set_option maxRecDepth 20000 in
set_option maxHeartbeats 1000000 in
theorem l_rtaken {X : aXt × Value} {mi : Nat → Nat → Int32} {ml : Nat → Nat → Int64} {mr : Nat → Nat → Option Nat} (hM : MRok mr) {p : Nat} (hp5 : p < 5) {k : Int32} (hk : inR 0 5 k) : ∀ (g : Nat) (x : Int32), inR (-1) 5 x → rkK x ≤ g → aWP (aEx (aTb X) 3) cd_X7_taken (19, [some (.ref 84), some (.int (nI p)), some (.int k), some (.int x)], [], (HD, mi, ml, mr)) (fun r h' => (HD.1 ≤ h'.1.1 ∧ HD.2.1 ≤ h'.1.2.1) ∧ r = some (.int (if okL k (g + 1) x = 0 then -13 else mi 90 p)) ∧ h' = (HD, mi, ml, mr)) := by
  have nk : ¬ k = -1 := fun z => hk.1 (by rw [z]; decide)
  intro g
  induction g with
  | zero =>
    intro x hx hr
    have ex : x = -1 := Decidable.byContradiction fun z => by
      unfold rkK at hr
      rw [if_neg z] at hr
      repeat' (split at hr)
      all_goals omega
    refine wp_steps 2 (t' := (21, [some (.ref 84), some (.int (nI p)), some (.int k), some (.int x)], [.int (-1), .int x], (HD, mi, ml, mr))) rfl ?_
    refine wp_bC rfl (fun c_1 => ?_) (fun c_1 => ?_)
    rotate_left
    · have c_1 : ¬ (x = (-1)) := of_decide_eq_false c_1
      exact absurd ex c_1
    have c_1 : x = (-1) := of_decide_eq_true c_1
    refine wp_steps 2 (t' := (31, [some (.ref 84), some (.int (nI p)), some (.int k), some (.int x)], [.int k, .int x], (HD, mi, ml, mr))) rfl ?_
    refine wp_bC rfl (fun c_2 => ?_) (fun c_2 => ?_)
    rotate_left
    · have c_2 : x = k := Decidable.not_not.mp (of_decide_eq_false c_2)
      exact absurd (c_2.symm.trans c_1) nk
    have c_2 : ¬ x = k := of_decide_eq_true c_2
    refine wp_steps 1 (t' := (38, [some (.ref 84), some (.int (nI p)), some (.int k), some (.int x)], [.int (-13)], (HD, mi, ml, mr))) rfl ?_
    refine wp_ret rfl rfl ⟨⟨Nat.le_refl _, Nat.le_refl _⟩, ?_⟩
    have e : okL k (0 + 1) x = 0 := by rw [c_1]; rfl
    exact ⟨by rw [if_pos e], rfl⟩
  | succ g ih =>
    intro x hx hr
    refine wp_steps 2 (t' := (21, [some (.ref 84), some (.int (nI p)), some (.int k), some (.int x)], [.int (-1), .int x], (HD, mi, ml, mr))) rfl ?_
    refine wp_bC rfl (fun c_1 => ?_) (fun c_1 => ?_)
    · have c_1 : x = (-1) := of_decide_eq_true c_1
      refine wp_steps 2 (t' := (31, [some (.ref 84), some (.int (nI p)), some (.int k), some (.int x)], [.int k, .int x], (HD, mi, ml, mr))) rfl ?_
      refine wp_bC rfl (fun c_2 => ?_) (fun c_2 => ?_)
      rotate_left
      · have c_2 : x = k := Decidable.not_not.mp (of_decide_eq_false c_2)
        exact absurd (c_2.symm.trans c_1) nk
      have c_2 : ¬ x = k := of_decide_eq_true c_2
      refine wp_steps 1 (t' := (38, [some (.ref 84), some (.int (nI p)), some (.int k), some (.int x)], [.int (-13)], (HD, mi, ml, mr))) rfl ?_
      refine wp_ret rfl rfl ⟨⟨Nat.le_refl _, Nat.le_refl _⟩, ?_⟩
      have e : okL k (g + 1 + 1) x = 0 := by rw [c_1]; rfl
      exact ⟨by rw [if_pos e], rfl⟩
    · have c_1 : ¬ (x = (-1)) := of_decide_eq_false c_1
      refine wp_steps 2 (t' := (24, [some (.ref 84), some (.int (nI p)), some (.int k), some (.int x)], [.int k, .int x], (HD, mi, ml, mr))) rfl ?_
      refine wp_bC rfl (fun c_3 => ?_) (fun c_3 => ?_)
      · have c_3 : x = k := of_decide_eq_true c_3
        refine wp_steps 2 (t' := (31, [some (.ref 84), some (.int (nI p)), some (.int k), some (.int x)], [.int k, .int x], (HD, mi, ml, mr))) rfl ?_
        refine wp_bC rfl (fun c_4 => ?_) (fun c_4 => ?_)
        · have c_4 : ¬ x = k := of_decide_eq_true c_4
          exact absurd c_3 c_4
        have c_4 : x = k := Decidable.not_not.mp (of_decide_eq_false c_4)
        refine wp_steps 1 (t' := (33, [some (.ref 84), some (.int (nI p)), some (.int k), some (.int x)], [.ref 84], (HD, mi, ml, mr))) rfl ?_
        refine wp_getr rfl ⟨by decide, rfl⟩ rfl (hM (84, 10, 90) (by decide)) ?_
        refine wp_steps 1 (t' := (35, [some (.ref 84), some (.int (nI p)), some (.int k), some (.int x)], [.int (nI p), .ref 90], (HD, mi, ml, mr))) rfl ?_
        refine wp_iald rfl ⟨by decide, rfl⟩ (aix_nI (by omega) (by decide)) ?_
        rw [nI_clamp (n := p) (by omega)]
        refine wp_steps 1 (t' := (38, [some (.ref 84), some (.int (nI p)), some (.int k), some (.int x)], [.int (mi 90 p)], (HD, mi, ml, mr))) rfl ?_
        refine wp_ret rfl rfl ⟨⟨Nat.le_refl _, Nat.le_refl _⟩, ?_⟩
        have hx0 : ¬ x < 0 := fun z => c_1 (by
          have b := (rI.mp hx).1
          rw [show (-1 : Int32).toInt = -1 from rfl] at b
          rw [Int32.lt_iff_toInt_lt, show (0 : Int32).toInt = 0 from rfl] at z
          exact Int32.toInt_inj.mp (by rw [show (-1 : Int32).toInt = -1 from rfl]; omega))
        have hx6 : ¬ Int32.ofNat 6 ≤ x := fun z => by
          have b := (rI.mp hx).2
          rw [show (5 : Int32).toInt = 5 from rfl] at b
          rw [Int32.le_iff_toInt_le, show (Int32.ofNat 6).toInt = 6 from rfl] at z
          omega
        have e : okL k (g + 1 + 1) x = 1 := by
          show (if _ then _ else if _ then _ else if _ then _ else _) = _
          rw [if_neg hx0, if_neg hx6, if_pos c_3]
        exact ⟨by rw [e]; rfl, rfl⟩
      · have c_3 : ¬ (x = k) := of_decide_eq_false c_3
        have hx0 : ¬ x < 0 := fun z => c_1 (by
          have b := (rI.mp hx).1
          rw [show (-1 : Int32).toInt = -1 from rfl] at b
          rw [Int32.lt_iff_toInt_lt, show (0 : Int32).toInt = 0 from rfl] at z
          exact Int32.toInt_inj.mp (by rw [show (-1 : Int32).toInt = -1 from rfl]; omega))
        have hx5 : inR 0 5 x := ⟨hx0, hx.2⟩
        have hx6 : ¬ Int32.ofNat 6 ≤ x := fun z => by
          have b := (rI.mp hx).2
          rw [show (5 : Int32).toInt = 5 from rfl] at b
          rw [Int32.le_iff_toInt_le, show (Int32.ofNat 6).toInt = 6 from rfl] at z
          omega
        refine wp_steps 1 (t' := (26, [some (.ref 84), some (.int (nI p)), some (.int k), some (.int x)], [.int x], (HD, mi, ml, mr))) rfl ?_
        refine wp_cal (as := [.int x]) rfl rfl rfl (Nat.le_of_ble_eq_true rfl) ((c_over (ml := ml) hx5)) (by decide) ?_
        rintro _ _ ⟨rfl, rfl⟩
        show aWP _ _ (27, [some (.ref 84), some (.int (nI p)), some (.int k), some (.int x)], [.int (aUnd x.toNatClampNeg)], (HD, mi, ml, mr)) _
        refine wp_steps 2 (t' := (19, [some (.ref 84), some (.int (nI p)), some (.int k), some (.int (aUnd x.toNatClampNeg))], [], (HD, mi, ml, mr))) rfl ?_
        have e : okL k (g + 1 + 1) x = okL k (g + 1) (aUnd x.toNatClampNeg) := by
          show (if _ then _ else if _ then _ else if _ then _ else _) = _
          rw [if_neg hx5.1, if_neg hx6, if_neg c_3]
        rw [e]
        exact ih _ (rk_un hx5).2 (by have := (rk_un hx5).1; omega)
set_option maxRecDepth 20000 in
set_option maxHeartbeats 1000000 in
theorem q_taken_ok {X : aXt × Value} {mi : Nat → Nat → Int32} {ml : Nat → Nat → Int64} {mr : Nat → Nat → Option Nat} (hM : MRok mr) {N : Nat} (hN : mi 84 12 = nI N) (hN5 : N ≤ 5) {c0 c1 c2 : List Int32} (hR : RUX mi c0 c1 c2) {p : Nat} (hpN : p < N) (hok : okU (puR mi p)) {k : Int32} : aCW X 4 215 [.ref 84, .int (nI p), .int k] (HD, mi, ml, mr) (qR mi mr (.int (if inR 0 5 k then (if okL k 6 (mi 89 p) = 0 then -13 else mi 90 p) else -2))) := by
  have hp5 : p < 5 := by omega
  refine cw_of (cd := cd_X7_taken) (nL := 4) rfl rfl ?_
  show aWP _ _ (0, [some (.ref 84), some (.int (nI p)), some (.int k), none], [], (HD, mi, ml, mr)) _
  refine wp_steps 4 (t' := (4, [some (.ref 84), some (.int (nI p)), some (.int k), none], [.long 5, .long 0, .long k.toInt64], (HD, mi, ml, mr))) rfl ?_
  refine wp_cal (as := [.long k.toInt64, .long 0, .long 5]) rfl rfl rfl (Nat.le_of_ble_eq_true rfl) ((c_in (x := k) (lo := 0) (hi := 5) rfl (by decide) (by decide))) (by decide) ?_
  rintro _ _ ⟨rfl, rfl⟩
  show aWP _ _ (5, [some (.ref 84), some (.int (nI p)), some (.int k), none], [.int (if inR 0 5 k then (1 : Int32) else 0)], (HD, mi, ml, mr)) _
  refine wp_bI rfl (fun c_1 => ?_) (fun c_1 => ?_)
  · have c_1 : ¬ (if inR 0 5 k then (1 : Int32) else 0) = 0 := of_decide_eq_true c_1
    refine wp_steps 2 (t' := (10, [some (.ref 84), some (.int (nI p)), some (.int k), none], [.int (nI p), .ref 84], (HD, mi, ml, mr))) rfl ?_
    refine wp_calv (as := [.int (nI p)]) rfl rfl rfl (Nat.le_of_ble_eq_true rfl) ⟨by decide, rfl⟩ ((c_isOne_ok (mi := mi) (ml := ml) hM hN hN5 hpN)) (by decide) ?_
    rintro _ _ ⟨rfl, rfl⟩
    show aWP _ _ (11, [some (.ref 84), some (.int (nI p)), some (.int k), none], [.int 1], (HD, mi, ml, mr)) _
    refine wp_bI rfl (fun c_2 => ?_) (fun c_2 => ?_)
    rotate_left
    · have c_2 : (1 : Int32) = 0 := Decidable.not_not.mp (of_decide_eq_false c_2)
      exact absurd c_2 (by decide)
    have c_2 : ¬ (1 : Int32) = 0 := of_decide_eq_true c_2
    refine wp_steps 1 (t' := (15, [some (.ref 84), some (.int (nI p)), some (.int k), none], [.ref 84], (HD, mi, ml, mr))) rfl ?_
    refine wp_getr rfl ⟨by decide, rfl⟩ rfl (hM (84, 9, 89) (by decide)) ?_
    refine wp_steps 1 (t' := (17, [some (.ref 84), some (.int (nI p)), some (.int k), none], [.int (nI p), .ref 89], (HD, mi, ml, mr))) rfl ?_
    refine wp_iald rfl ⟨by decide, rfl⟩ (aix_nI (by omega) (by decide)) ?_
    rw [nI_clamp (n := p) (by omega)]
    refine wp_steps 1 (t' := (19, [some (.ref 84), some (.int (nI p)), some (.int k), some (.int (mi 89 p))], [], (HD, mi, ml, mr))) rfl ?_
    have hG := (show inR 0 5 k from (i0_t c_1))
    rw [if_pos hG]
    have hr5 : rkK (mi 89 p) ≤ 5 := rk_le _
    refine wp_mono (l_rtaken (ml := ml) hM hp5 hG 5 (mi 89 p) ⟨fun z => hok.1.1 (Int32.lt_trans z (by decide)), hok.1.2⟩ hr5) ?_
    rintro _ _ ⟨x1, rfl, rfl⟩
    exact ⟨x1, rfl, mi, ml, rfl, frQ.rf mi⟩
  · have c_1 : (if inR 0 5 k then (1 : Int32) else 0) = 0 := Decidable.not_not.mp (of_decide_eq_false c_1)
    refine wp_steps 1 (t' := (7, [some (.ref 84), some (.int (nI p)), some (.int k), none], [.int (-2)], (HD, mi, ml, mr))) rfl ?_
    refine wp_ret rfl rfl ⟨⟨Nat.le_refl _, Nat.le_refl _⟩, ?_⟩
    exact ⟨by rw [if_neg (show ¬ (inR 0 5 k) from fun z => (i0_f c_1) z)], mi, ml, rfl, frQ.rf mi⟩
theorem shG_iff {v : Int32} : shG v = true ↔ inR 0 72 v ∧ ¬ 3 ≤ v - v / 10 * 10 := by
  by_cases h : v < 0
  · unfold shG
    simp only [h, decide_true, Bool.not_true, Bool.false_and, Bool.false_eq_true, false_iff]
    exact fun z => z.1.1 h
  · obtain ⟨n, hn, rfl⟩ := nI_of h
    have e1 : nI n / 10 = nI (n / 10) := dv_nI hn (by decide) (by decide)
    have e2 : nI n - nI n / 10 * 10 = nI (n % 10) := rm_nI hn (by decide) (by decide)
    unfold shG
    rw [e2, e1]
    simp only [h, decide_false, Bool.not_false, Bool.true_and, Bool.and_eq_true]
    rw [aix_iff (by decide), aix_iff (by decide)]
    have a1 : ¬ nI (n / 10) < 0 := nI_pos (by omega)
    have a2 : ¬ nI (n % 10) < 0 := nI_pos (by omega)
    have a3 : (3 : Int32) = nI 3 := rfl
    rw [a3, nI_leI (by decide) (by omega), nI_leI (by decide) (by omega), rI, nI_toInt hn, show (0 : Int32).toInt = 0 from rfl, show (72 : Int32).toInt = 72 from rfl]
    constructor
    · rintro ⟨⟨_, b1⟩, _, b2⟩
      exact ⟨⟨by omega, by omega⟩, b2⟩
    · rintro ⟨b1, b2⟩
      exact ⟨⟨a1, by omega⟩, a2, b2⟩
set_option maxRecDepth 20000 in
set_option maxHeartbeats 1000000 in
theorem c_rSH {X : aXt × Value} {mi : Nat → Nat → Int32} {ml : Nat → Nat → Int64} {mr : Nat → Nat → Option Nat} {v : Int32} : aCW X 2 199 [.int v] (HD, mi, ml, mr) (rdI mi ml mr (if shG v = true then 1 else 0)) := by
  refine cw_of (cd := cd_X7_isStreetHelp) (nL := 1) rfl rfl ?_
  show aWP _ _ (0, [some (.int v)], [], (HD, mi, ml, mr)) _
  refine wp_steps 4 (t' := (4, [some (.int v)], [.long 72, .long 0, .long v.toInt64], (HD, mi, ml, mr))) rfl ?_
  refine wp_cal (as := [.long v.toInt64, .long 0, .long 72]) rfl rfl rfl (Nat.le_of_ble_eq_true rfl) ((c_in (x := v) (lo := 0) (hi := 72) rfl (by decide) (by decide))) (by decide) ?_
  rintro _ _ ⟨rfl, rfl⟩
  show aWP _ _ (5, [some (.int v)], [.int (if inR 0 72 v then (1 : Int32) else 0)], (HD, mi, ml, mr)) _
  refine wp_bI rfl (fun c_1 => ?_) (fun c_1 => ?_)
  · have c_1 : (if inR 0 72 v then (1 : Int32) else 0) = 0 := of_decide_eq_true c_1
    refine wp_steps 1 (t' := (14, [some (.int v)], [.int 0], (HD, mi, ml, mr))) rfl ?_
    refine wp_ret rfl rfl ⟨⟨Nat.le_refl _, Nat.le_refl _⟩, ?_⟩
    have q : ¬ shG v = true := fun z => i0_f c_1 (shG_iff.mp z).1
    exact ⟨by rw [if_neg q], rfl⟩
  · have c_1 : ¬ ((if inR 0 72 v then (1 : Int32) else 0) = 0) := of_decide_eq_false c_1
    refine wp_steps 4 (t' := (10, [some (.int v)], [.int 3, .int (v - v / 10 * 10)], (HD, mi, ml, mr))) rfl ?_
    refine wp_bC rfl (fun c_2 => ?_) (fun c_2 => ?_)
    · have c_2 : 3 ≤ (v - v / 10 * 10) := of_decide_eq_true c_2
      refine wp_steps 1 (t' := (14, [some (.int v)], [.int 0], (HD, mi, ml, mr))) rfl ?_
      refine wp_ret rfl rfl ⟨⟨Nat.le_refl _, Nat.le_refl _⟩, ?_⟩
      have q : ¬ shG v = true := fun z => (shG_iff.mp z).2 c_2
      exact ⟨by rw [if_neg q], rfl⟩
    · have c_2 : ¬ (3 ≤ (v - v / 10 * 10)) := of_decide_eq_false c_2
      refine wp_steps 2 (t' := (14, [some (.int v)], [.int 1], (HD, mi, ml, mr))) rfl ?_
      refine wp_ret rfl rfl ⟨⟨Nat.le_refl _, Nat.le_refl _⟩, ?_⟩
      have q : shG v = true := shG_iff.mpr ⟨i0_t c_1, c_2⟩
      exact ⟨by rw [if_pos q], rfl⟩
