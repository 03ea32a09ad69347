/-! the reference: set (written by wip/whole/mkrefQ.py) -/
set_option maxRecDepth 20000 in
set_option maxHeartbeats 1000000 in
theorem c_rmost_0 {X : aXt × Value} {mi : Nat → Nat → Int32} {ml : Nat → Nat → Int64} {mr : Nat → Nat → Option Nat}  : aCW X 1 118 [.int 0] (HD, mi, ml, mr) (rdI mi ml mr 999) := by
  refine cw_of (cd := cd_X7_mostOf) (nL := 1) rfl rfl ?_
  show aWP _ _ (0, [some (.int 0)], [], (HD, mi, ml, mr)) _
  refine wp_steps 1 (t' := (1, [some (.int 0)], [.int 0], (HD, mi, ml, mr))) rfl ?_
  refine wp_bI rfl (fun c_1 => ?_) (fun c_1 => ?_)
  rotate_left
  · have c_1 : ¬ ((0 : Int32) = 0) := of_decide_eq_false c_1
    exact absurd c_1 (by decide)
  have c_1 : (0 : Int32) = 0 := of_decide_eq_true c_1
  refine wp_steps 2 (t' := (13, [some (.int 0)], [.int 999], (HD, mi, ml, mr))) rfl ?_
  refine wp_ret rfl rfl ⟨⟨Nat.le_refl _, Nat.le_refl _⟩, ?_⟩
  exact ⟨rfl, rfl⟩
set_option maxRecDepth 20000 in
set_option maxHeartbeats 1000000 in
theorem c_rmost_1 {X : aXt × Value} {mi : Nat → Nat → Int32} {ml : Nat → Nat → Int64} {mr : Nat → Nat → Option Nat}  : aCW X 1 118 [.int 1] (HD, mi, ml, mr) (rdI mi ml mr 99) := by
  refine cw_of (cd := cd_X7_mostOf) (nL := 1) rfl rfl ?_
  show aWP _ _ (0, [some (.int 1)], [], (HD, mi, ml, mr)) _
  refine wp_steps 1 (t' := (1, [some (.int 1)], [.int 1], (HD, mi, ml, mr))) rfl ?_
  refine wp_bI rfl (fun c_1 => ?_) (fun c_1 => ?_)
  · have c_1 : (1 : Int32) = 0 := of_decide_eq_true c_1
    exact absurd c_1 (by decide)
  have c_1 : ¬ ((1 : Int32) = 0) := of_decide_eq_false c_1
  refine wp_steps 2 (t' := (4, [some (.int 1)], [.int 4, .int 1], (HD, mi, ml, mr))) rfl ?_
  refine wp_bC rfl (fun c_2 => ?_) (fun c_2 => ?_)
  rotate_left
  · have c_2 : (1 : Int32) = 4 := Decidable.not_not.mp (of_decide_eq_false c_2)
    exact absurd c_2 (by decide)
  have c_2 : ¬ (1 : Int32) = 4 := of_decide_eq_true c_2
  refine wp_steps 2 (t' := (9, [some (.int 1)], [.int 2, .int 1], (HD, mi, ml, mr))) rfl ?_
  refine wp_bC rfl (fun c_3 => ?_) (fun c_3 => ?_)
  rotate_left
  · have c_3 : (1 : Int32) = 2 := Decidable.not_not.mp (of_decide_eq_false c_3)
    exact absurd c_3 (by decide)
  have c_3 : ¬ (1 : Int32) = 2 := of_decide_eq_true c_3
  refine wp_steps 1 (t' := (13, [some (.int 1)], [.int 99], (HD, mi, ml, mr))) rfl ?_
  refine wp_ret rfl rfl ⟨⟨Nat.le_refl _, Nat.le_refl _⟩, ?_⟩
  exact ⟨rfl, rfl⟩
set_option maxRecDepth 20000 in
set_option maxHeartbeats 1000000 in
theorem c_rmost_2 {X : aXt × Value} {mi : Nat → Nat → Int32} {ml : Nat → Nat → Int64} {mr : Nat → Nat → Option Nat}  : aCW X 1 118 [.int 2] (HD, mi, ml, mr) (rdI mi ml mr 9) := by
  refine cw_of (cd := cd_X7_mostOf) (nL := 1) rfl rfl ?_
  show aWP _ _ (0, [some (.int 2)], [], (HD, mi, ml, mr)) _
  refine wp_steps 1 (t' := (1, [some (.int 2)], [.int 2], (HD, mi, ml, mr))) rfl ?_
  refine wp_bI rfl (fun c_1 => ?_) (fun c_1 => ?_)
  · have c_1 : (2 : Int32) = 0 := of_decide_eq_true c_1
    exact absurd c_1 (by decide)
  have c_1 : ¬ ((2 : Int32) = 0) := of_decide_eq_false c_1
  refine wp_steps 2 (t' := (4, [some (.int 2)], [.int 4, .int 2], (HD, mi, ml, mr))) rfl ?_
  refine wp_bC rfl (fun c_2 => ?_) (fun c_2 => ?_)
  rotate_left
  · have c_2 : (2 : Int32) = 4 := Decidable.not_not.mp (of_decide_eq_false c_2)
    exact absurd c_2 (by decide)
  have c_2 : ¬ (2 : Int32) = 4 := of_decide_eq_true c_2
  refine wp_steps 2 (t' := (9, [some (.int 2)], [.int 2, .int 2], (HD, mi, ml, mr))) rfl ?_
  refine wp_bC rfl (fun c_3 => ?_) (fun c_3 => ?_)
  · have c_3 : ¬ (2 : Int32) = 2 := of_decide_eq_true c_3
    exact absurd c_3 (by decide)
  have c_3 : (2 : Int32) = 2 := Decidable.not_not.mp (of_decide_eq_false c_3)
  refine wp_steps 2 (t' := (13, [some (.int 2)], [.int 9], (HD, mi, ml, mr))) rfl ?_
  refine wp_ret rfl rfl ⟨⟨Nat.le_refl _, Nat.le_refl _⟩, ?_⟩
  exact ⟨rfl, rfl⟩
set_option maxRecDepth 20000 in
set_option maxHeartbeats 1000000 in
theorem c_rmost_3 {X : aXt × Value} {mi : Nat → Nat → Int32} {ml : Nat → Nat → Int64} {mr : Nat → Nat → Option Nat}  : aCW X 1 118 [.int 3] (HD, mi, ml, mr) (rdI mi ml mr 99) := by
  refine cw_of (cd := cd_X7_mostOf) (nL := 1) rfl rfl ?_
  show aWP _ _ (0, [some (.int 3)], [], (HD, mi, ml, mr)) _
  refine wp_steps 1 (t' := (1, [some (.int 3)], [.int 3], (HD, mi, ml, mr))) rfl ?_
  refine wp_bI rfl (fun c_1 => ?_) (fun c_1 => ?_)
  · have c_1 : (3 : Int32) = 0 := of_decide_eq_true c_1
    exact absurd c_1 (by decide)
  have c_1 : ¬ ((3 : Int32) = 0) := of_decide_eq_false c_1
  refine wp_steps 2 (t' := (4, [some (.int 3)], [.int 4, .int 3], (HD, mi, ml, mr))) rfl ?_
  refine wp_bC rfl (fun c_2 => ?_) (fun c_2 => ?_)
  rotate_left
  · have c_2 : (3 : Int32) = 4 := Decidable.not_not.mp (of_decide_eq_false c_2)
    exact absurd c_2 (by decide)
  have c_2 : ¬ (3 : Int32) = 4 := of_decide_eq_true c_2
  refine wp_steps 2 (t' := (9, [some (.int 3)], [.int 2, .int 3], (HD, mi, ml, mr))) rfl ?_
  refine wp_bC rfl (fun c_3 => ?_) (fun c_3 => ?_)
  rotate_left
  · have c_3 : (3 : Int32) = 2 := Decidable.not_not.mp (of_decide_eq_false c_3)
    exact absurd c_3 (by decide)
  have c_3 : ¬ (3 : Int32) = 2 := of_decide_eq_true c_3
  refine wp_steps 1 (t' := (13, [some (.int 3)], [.int 99], (HD, mi, ml, mr))) rfl ?_
  refine wp_ret rfl rfl ⟨⟨Nat.le_refl _, Nat.le_refl _⟩, ?_⟩
  exact ⟨rfl, rfl⟩
set_option maxRecDepth 20000 in
set_option maxHeartbeats 1000000 in
theorem c_rmost_4 {X : aXt × Value} {mi : Nat → Nat → Int32} {ml : Nat → Nat → Int64} {mr : Nat → Nat → Option Nat}  : aCW X 1 118 [.int 4] (HD, mi, ml, mr) (rdI mi ml mr 999) := by
  refine cw_of (cd := cd_X7_mostOf) (nL := 1) rfl rfl ?_
  show aWP _ _ (0, [some (.int 4)], [], (HD, mi, ml, mr)) _
  refine wp_steps 1 (t' := (1, [some (.int 4)], [.int 4], (HD, mi, ml, mr))) rfl ?_
  refine wp_bI rfl (fun c_1 => ?_) (fun c_1 => ?_)
  · have c_1 : (4 : Int32) = 0 := of_decide_eq_true c_1
    exact absurd c_1 (by decide)
  have c_1 : ¬ ((4 : Int32) = 0) := of_decide_eq_false c_1
  refine wp_steps 2 (t' := (4, [some (.int 4)], [.int 4, .int 4], (HD, mi, ml, mr))) rfl ?_
  refine wp_bC rfl (fun c_2 => ?_) (fun c_2 => ?_)
  · have c_2 : ¬ (4 : Int32) = 4 := of_decide_eq_true c_2
    exact absurd c_2 (by decide)
  have c_2 : (4 : Int32) = 4 := Decidable.not_not.mp (of_decide_eq_false c_2)
  refine wp_steps 2 (t' := (13, [some (.int 4)], [.int 999], (HD, mi, ml, mr))) rfl ?_
  refine wp_ret rfl rfl ⟨⟨Nat.le_refl _, Nat.le_refl _⟩, ?_⟩
  exact ⟨rfl, rfl⟩
set_option maxRecDepth 20000 in
set_option maxHeartbeats 1000000 in
theorem c_rmost_10 {X : aXt × Value} {mi : Nat → Nat → Int32} {ml : Nat → Nat → Int64} {mr : Nat → Nat → Option Nat}  : aCW X 1 118 [.int 10] (HD, mi, ml, mr) (rdI mi ml mr 99) := by
  refine cw_of (cd := cd_X7_mostOf) (nL := 1) rfl rfl ?_
  show aWP _ _ (0, [some (.int 10)], [], (HD, mi, ml, mr)) _
  refine wp_steps 1 (t' := (1, [some (.int 10)], [.int 10], (HD, mi, ml, mr))) rfl ?_
  refine wp_bI rfl (fun c_1 => ?_) (fun c_1 => ?_)
  · have c_1 : (10 : Int32) = 0 := of_decide_eq_true c_1
    exact absurd c_1 (by decide)
  have c_1 : ¬ ((10 : Int32) = 0) := of_decide_eq_false c_1
  refine wp_steps 2 (t' := (4, [some (.int 10)], [.int 4, .int 10], (HD, mi, ml, mr))) rfl ?_
  refine wp_bC rfl (fun c_2 => ?_) (fun c_2 => ?_)
  rotate_left
  · have c_2 : (10 : Int32) = 4 := Decidable.not_not.mp (of_decide_eq_false c_2)
    exact absurd c_2 (by decide)
  have c_2 : ¬ (10 : Int32) = 4 := of_decide_eq_true c_2
  refine wp_steps 2 (t' := (9, [some (.int 10)], [.int 2, .int 10], (HD, mi, ml, mr))) rfl ?_
  refine wp_bC rfl (fun c_3 => ?_) (fun c_3 => ?_)
  rotate_left
  · have c_3 : (10 : Int32) = 2 := Decidable.not_not.mp (of_decide_eq_false c_3)
    exact absurd c_3 (by decide)
  have c_3 : ¬ (10 : Int32) = 2 := of_decide_eq_true c_3
  refine wp_steps 1 (t' := (13, [some (.int 10)], [.int 99], (HD, mi, ml, mr))) rfl ?_
  refine wp_ret rfl rfl ⟨⟨Nat.le_refl _, Nat.le_refl _⟩, ?_⟩
  exact ⟨rfl, rfl⟩
set_option maxRecDepth 20000 in
set_option maxHeartbeats 1000000 in
theorem c_rmost_11 {X : aXt × Value} {mi : Nat → Nat → Int32} {ml : Nat → Nat → Int64} {mr : Nat → Nat → Option Nat}  : aCW X 1 118 [.int 11] (HD, mi, ml, mr) (rdI mi ml mr 99) := by
  refine cw_of (cd := cd_X7_mostOf) (nL := 1) rfl rfl ?_
  show aWP _ _ (0, [some (.int 11)], [], (HD, mi, ml, mr)) _
  refine wp_steps 1 (t' := (1, [some (.int 11)], [.int 11], (HD, mi, ml, mr))) rfl ?_
  refine wp_bI rfl (fun c_1 => ?_) (fun c_1 => ?_)
  · have c_1 : (11 : Int32) = 0 := of_decide_eq_true c_1
    exact absurd c_1 (by decide)
  have c_1 : ¬ ((11 : Int32) = 0) := of_decide_eq_false c_1
  refine wp_steps 2 (t' := (4, [some (.int 11)], [.int 4, .int 11], (HD, mi, ml, mr))) rfl ?_
  refine wp_bC rfl (fun c_2 => ?_) (fun c_2 => ?_)
  rotate_left
  · have c_2 : (11 : Int32) = 4 := Decidable.not_not.mp (of_decide_eq_false c_2)
    exact absurd c_2 (by decide)
  have c_2 : ¬ (11 : Int32) = 4 := of_decide_eq_true c_2
  refine wp_steps 2 (t' := (9, [some (.int 11)], [.int 2, .int 11], (HD, mi, ml, mr))) rfl ?_
  refine wp_bC rfl (fun c_3 => ?_) (fun c_3 => ?_)
  rotate_left
  · have c_3 : (11 : Int32) = 2 := Decidable.not_not.mp (of_decide_eq_false c_3)
    exact absurd c_3 (by decide)
  have c_3 : ¬ (11 : Int32) = 2 := of_decide_eq_true c_3
  refine wp_steps 1 (t' := (13, [some (.int 11)], [.int 99], (HD, mi, ml, mr))) rfl ?_
  refine wp_ret rfl rfl ⟨⟨Nat.le_refl _, Nat.le_refl _⟩, ?_⟩
  exact ⟨rfl, rfl⟩
set_option maxRecDepth 20000 in
set_option maxHeartbeats 1000000 in
theorem c_rmost_12 {X : aXt × Value} {mi : Nat → Nat → Int32} {ml : Nat → Nat → Int64} {mr : Nat → Nat → Option Nat}  : aCW X 1 118 [.int 12] (HD, mi, ml, mr) (rdI mi ml mr 99) := by
  refine cw_of (cd := cd_X7_mostOf) (nL := 1) rfl rfl ?_
  show aWP _ _ (0, [some (.int 12)], [], (HD, mi, ml, mr)) _
  refine wp_steps 1 (t' := (1, [some (.int 12)], [.int 12], (HD, mi, ml, mr))) rfl ?_
  refine wp_bI rfl (fun c_1 => ?_) (fun c_1 => ?_)
  · have c_1 : (12 : Int32) = 0 := of_decide_eq_true c_1
    exact absurd c_1 (by decide)
  have c_1 : ¬ ((12 : Int32) = 0) := of_decide_eq_false c_1
  refine wp_steps 2 (t' := (4, [some (.int 12)], [.int 4, .int 12], (HD, mi, ml, mr))) rfl ?_
  refine wp_bC rfl (fun c_2 => ?_) (fun c_2 => ?_)
  rotate_left
  · have c_2 : (12 : Int32) = 4 := Decidable.not_not.mp (of_decide_eq_false c_2)
    exact absurd c_2 (by decide)
  have c_2 : ¬ (12 : Int32) = 4 := of_decide_eq_true c_2
  refine wp_steps 2 (t' := (9, [some (.int 12)], [.int 2, .int 12], (HD, mi, ml, mr))) rfl ?_
  refine wp_bC rfl (fun c_3 => ?_) (fun c_3 => ?_)
  rotate_left
  · have c_3 : (12 : Int32) = 2 := Decidable.not_not.mp (of_decide_eq_false c_3)
    exact absurd c_3 (by decide)
  have c_3 : ¬ (12 : Int32) = 2 := of_decide_eq_true c_3
  refine wp_steps 1 (t' := (13, [some (.int 12)], [.int 99], (HD, mi, ml, mr))) rfl ?_
  refine wp_ret rfl rfl ⟨⟨Nat.le_refl _, Nat.le_refl _⟩, ?_⟩
  exact ⟨rfl, rfl⟩
set_option maxRecDepth 20000 in
set_option maxHeartbeats 1000000 in
theorem c_rmost_13 {X : aXt × Value} {mi : Nat → Nat → Int32} {ml : Nat → Nat → Int64} {mr : Nat → Nat → Option Nat}  : aCW X 1 118 [.int 13] (HD, mi, ml, mr) (rdI mi ml mr 99) := by
  refine cw_of (cd := cd_X7_mostOf) (nL := 1) rfl rfl ?_
  show aWP _ _ (0, [some (.int 13)], [], (HD, mi, ml, mr)) _
  refine wp_steps 1 (t' := (1, [some (.int 13)], [.int 13], (HD, mi, ml, mr))) rfl ?_
  refine wp_bI rfl (fun c_1 => ?_) (fun c_1 => ?_)
  · have c_1 : (13 : Int32) = 0 := of_decide_eq_true c_1
    exact absurd c_1 (by decide)
  have c_1 : ¬ ((13 : Int32) = 0) := of_decide_eq_false c_1
  refine wp_steps 2 (t' := (4, [some (.int 13)], [.int 4, .int 13], (HD, mi, ml, mr))) rfl ?_
  refine wp_bC rfl (fun c_2 => ?_) (fun c_2 => ?_)
  rotate_left
  · have c_2 : (13 : Int32) = 4 := Decidable.not_not.mp (of_decide_eq_false c_2)
    exact absurd c_2 (by decide)
  have c_2 : ¬ (13 : Int32) = 4 := of_decide_eq_true c_2
  refine wp_steps 2 (t' := (9, [some (.int 13)], [.int 2, .int 13], (HD, mi, ml, mr))) rfl ?_
  refine wp_bC rfl (fun c_3 => ?_) (fun c_3 => ?_)
  rotate_left
  · have c_3 : (13 : Int32) = 2 := Decidable.not_not.mp (of_decide_eq_false c_3)
    exact absurd c_3 (by decide)
  have c_3 : ¬ (13 : Int32) = 2 := of_decide_eq_true c_3
  refine wp_steps 1 (t' := (13, [some (.int 13)], [.int 99], (HD, mi, ml, mr))) rfl ?_
  refine wp_ret rfl rfl ⟨⟨Nat.le_refl _, Nat.le_refl _⟩, ?_⟩
  exact ⟨rfl, rfl⟩
set_option maxRecDepth 20000 in
set_option maxHeartbeats 1000000 in
theorem c_rmost_14 {X : aXt × Value} {mi : Nat → Nat → Int32} {ml : Nat → Nat → Int64} {mr : Nat → Nat → Option Nat}  : aCW X 1 118 [.int 14] (HD, mi, ml, mr) (rdI mi ml mr 99) := by
  refine cw_of (cd := cd_X7_mostOf) (nL := 1) rfl rfl ?_
  show aWP _ _ (0, [some (.int 14)], [], (HD, mi, ml, mr)) _
  refine wp_steps 1 (t' := (1, [some (.int 14)], [.int 14], (HD, mi, ml, mr))) rfl ?_
  refine wp_bI rfl (fun c_1 => ?_) (fun c_1 => ?_)
  · have c_1 : (14 : Int32) = 0 := of_decide_eq_true c_1
    exact absurd c_1 (by decide)
  have c_1 : ¬ ((14 : Int32) = 0) := of_decide_eq_false c_1
  refine wp_steps 2 (t' := (4, [some (.int 14)], [.int 4, .int 14], (HD, mi, ml, mr))) rfl ?_
  refine wp_bC rfl (fun c_2 => ?_) (fun c_2 => ?_)
  rotate_left
  · have c_2 : (14 : Int32) = 4 := Decidable.not_not.mp (of_decide_eq_false c_2)
    exact absurd c_2 (by decide)
  have c_2 : ¬ (14 : Int32) = 4 := of_decide_eq_true c_2
  refine wp_steps 2 (t' := (9, [some (.int 14)], [.int 2, .int 14], (HD, mi, ml, mr))) rfl ?_
  refine wp_bC rfl (fun c_3 => ?_) (fun c_3 => ?_)
  rotate_left
  · have c_3 : (14 : Int32) = 2 := Decidable.not_not.mp (of_decide_eq_false c_3)
    exact absurd c_3 (by decide)
  have c_3 : ¬ (14 : Int32) = 2 := of_decide_eq_true c_3
  refine wp_steps 1 (t' := (13, [some (.int 14)], [.int 99], (HD, mi, ml, mr))) rfl ?_
  refine wp_ret rfl rfl ⟨⟨Nat.le_refl _, Nat.le_refl _⟩, ?_⟩
  exact ⟨rfl, rfl⟩
set_option maxRecDepth 20000 in
set_option maxHeartbeats 1000000 in
theorem c_rmost_15 {X : aXt × Value} {mi : Nat → Nat → Int32} {ml : Nat → Nat → Int64} {mr : Nat → Nat → Option Nat}  : aCW X 1 118 [.int 15] (HD, mi, ml, mr) (rdI mi ml mr 99) := by
  refine cw_of (cd := cd_X7_mostOf) (nL := 1) rfl rfl ?_
  show aWP _ _ (0, [some (.int 15)], [], (HD, mi, ml, mr)) _
  refine wp_steps 1 (t' := (1, [some (.int 15)], [.int 15], (HD, mi, ml, mr))) rfl ?_
  refine wp_bI rfl (fun c_1 => ?_) (fun c_1 => ?_)
  · have c_1 : (15 : Int32) = 0 := of_decide_eq_true c_1
    exact absurd c_1 (by decide)
  have c_1 : ¬ ((15 : Int32) = 0) := of_decide_eq_false c_1
  refine wp_steps 2 (t' := (4, [some (.int 15)], [.int 4, .int 15], (HD, mi, ml, mr))) rfl ?_
  refine wp_bC rfl (fun c_2 => ?_) (fun c_2 => ?_)
  rotate_left
  · have c_2 : (15 : Int32) = 4 := Decidable.not_not.mp (of_decide_eq_false c_2)
    exact absurd c_2 (by decide)
  have c_2 : ¬ (15 : Int32) = 4 := of_decide_eq_true c_2
  refine wp_steps 2 (t' := (9, [some (.int 15)], [.int 2, .int 15], (HD, mi, ml, mr))) rfl ?_
  refine wp_bC rfl (fun c_3 => ?_) (fun c_3 => ?_)
  rotate_left
  · have c_3 : (15 : Int32) = 2 := Decidable.not_not.mp (of_decide_eq_false c_3)
    exact absurd c_3 (by decide)
  have c_3 : ¬ (15 : Int32) = 2 := of_decide_eq_true c_3
  refine wp_steps 1 (t' := (13, [some (.int 15)], [.int 99], (HD, mi, ml, mr))) rfl ?_
  refine wp_ret rfl rfl ⟨⟨Nat.le_refl _, Nat.le_refl _⟩, ?_⟩
  exact ⟨rfl, rfl⟩
set_option maxRecDepth 20000 in
set_option maxHeartbeats 1000000 in
theorem c_rmost_16 {X : aXt × Value} {mi : Nat → Nat → Int32} {ml : Nat → Nat → Int64} {mr : Nat → Nat → Option Nat}  : aCW X 1 118 [.int 16] (HD, mi, ml, mr) (rdI mi ml mr 99) := by
  refine cw_of (cd := cd_X7_mostOf) (nL := 1) rfl rfl ?_
  show aWP _ _ (0, [some (.int 16)], [], (HD, mi, ml, mr)) _
  refine wp_steps 1 (t' := (1, [some (.int 16)], [.int 16], (HD, mi, ml, mr))) rfl ?_
  refine wp_bI rfl (fun c_1 => ?_) (fun c_1 => ?_)
  · have c_1 : (16 : Int32) = 0 := of_decide_eq_true c_1
    exact absurd c_1 (by decide)
  have c_1 : ¬ ((16 : Int32) = 0) := of_decide_eq_false c_1
  refine wp_steps 2 (t' := (4, [some (.int 16)], [.int 4, .int 16], (HD, mi, ml, mr))) rfl ?_
  refine wp_bC rfl (fun c_2 => ?_) (fun c_2 => ?_)
  rotate_left
  · have c_2 : (16 : Int32) = 4 := Decidable.not_not.mp (of_decide_eq_false c_2)
    exact absurd c_2 (by decide)
  have c_2 : ¬ (16 : Int32) = 4 := of_decide_eq_true c_2
  refine wp_steps 2 (t' := (9, [some (.int 16)], [.int 2, .int 16], (HD, mi, ml, mr))) rfl ?_
  refine wp_bC rfl (fun c_3 => ?_) (fun c_3 => ?_)
  rotate_left
  · have c_3 : (16 : Int32) = 2 := Decidable.not_not.mp (of_decide_eq_false c_3)
    exact absurd c_3 (by decide)
  have c_3 : ¬ (16 : Int32) = 2 := of_decide_eq_true c_3
  refine wp_steps 1 (t' := (13, [some (.int 16)], [.int 99], (HD, mi, ml, mr))) rfl ?_
  refine wp_ret rfl rfl ⟨⟨Nat.le_refl _, Nat.le_refl _⟩, ?_⟩
  exact ⟨rfl, rfl⟩
set_option maxRecDepth 20000 in
set_option maxHeartbeats 1000000 in
theorem c_rmost_17 {X : aXt × Value} {mi : Nat → Nat → Int32} {ml : Nat → Nat → Int64} {mr : Nat → Nat → Option Nat}  : aCW X 1 118 [.int 17] (HD, mi, ml, mr) (rdI mi ml mr 99) := by
  refine cw_of (cd := cd_X7_mostOf) (nL := 1) rfl rfl ?_
  show aWP _ _ (0, [some (.int 17)], [], (HD, mi, ml, mr)) _
  refine wp_steps 1 (t' := (1, [some (.int 17)], [.int 17], (HD, mi, ml, mr))) rfl ?_
  refine wp_bI rfl (fun c_1 => ?_) (fun c_1 => ?_)
  · have c_1 : (17 : Int32) = 0 := of_decide_eq_true c_1
    exact absurd c_1 (by decide)
  have c_1 : ¬ ((17 : Int32) = 0) := of_decide_eq_false c_1
  refine wp_steps 2 (t' := (4, [some (.int 17)], [.int 4, .int 17], (HD, mi, ml, mr))) rfl ?_
  refine wp_bC rfl (fun c_2 => ?_) (fun c_2 => ?_)
  rotate_left
  · have c_2 : (17 : Int32) = 4 := Decidable.not_not.mp (of_decide_eq_false c_2)
    exact absurd c_2 (by decide)
  have c_2 : ¬ (17 : Int32) = 4 := of_decide_eq_true c_2
  refine wp_steps 2 (t' := (9, [some (.int 17)], [.int 2, .int 17], (HD, mi, ml, mr))) rfl ?_
  refine wp_bC rfl (fun c_3 => ?_) (fun c_3 => ?_)
  rotate_left
  · have c_3 : (17 : Int32) = 2 := Decidable.not_not.mp (of_decide_eq_false c_3)
    exact absurd c_3 (by decide)
  have c_3 : ¬ (17 : Int32) = 2 := of_decide_eq_true c_3
  refine wp_steps 1 (t' := (13, [some (.int 17)], [.int 99], (HD, mi, ml, mr))) rfl ?_
  refine wp_ret rfl rfl ⟨⟨Nat.le_refl _, Nat.le_refl _⟩, ?_⟩
  exact ⟨rfl, rfl⟩
set_option maxRecDepth 20000 in
set_option maxHeartbeats 1000000 in
theorem r_lays_0 {X : aXt × Value} {mi : Nat → Nat → Int32} {ml : Nat → Nat → Int64} {mr : Nat → Nat → Option Nat} (hM : MRok mr) {of : Int32} {v : Int32} : aCW X 2 121 [.ref 84, .int 0, .int of, .int v] (HD, mi, ml, mr) (fun r h' => r = none ∧ h' = (HD, aup mi 84 7 v, ml, mr)) := by
  refine cw_of (cd := cd_X7_lays) (nL := 4) rfl rfl ?_
  show aWP _ _ (0, [some (.ref 84), some (.int 0), some (.int of), some (.int v)], [], (HD, mi, ml, mr)) _
  refine wp_steps 1 (t' := (1, [some (.ref 84), some (.int 0), some (.int of), some (.int v)], [.int 0], (HD, mi, ml, mr))) rfl ?_
  refine wp_bI rfl (fun c_1 => ?_) (fun c_1 => ?_)
  · have c_1 : ¬ (0 : Int32) = 0 := of_decide_eq_true c_1
    exact absurd c_1 (by decide)
  have c_1 : (0 : Int32) = 0 := Decidable.not_not.mp (of_decide_eq_false c_1)
  refine wp_steps 2 (t' := (4, [some (.ref 84), some (.int 0), some (.int of), some (.int v)], [.int v, .ref 84], (HD, mi, ml, mr))) rfl ?_
  refine wp_puti rfl ⟨by decide, rfl⟩ rfl (fun m_2 h_3 => ?_)
  subst h_3
  refine wp_steps 1 (t' := (62, [some (.ref 84), some (.int 0), some (.int of), some (.int v)], [], (HD, (aup mi 84 7 v), ml, mr))) rfl ?_
  refine wp_ret rfl rfl ⟨⟨Nat.le_refl _, Nat.le_refl _⟩, ?_⟩
  exact ⟨rfl, rfl⟩
set_option maxRecDepth 20000 in
set_option maxHeartbeats 1000000 in
theorem r_lays_1 {X : aXt × Value} {mi : Nat → Nat → Int32} {ml : Nat → Nat → Int64} {mr : Nat → Nat → Option Nat} (hM : MRok mr) {s : Nat} (hs8 : s < 8) {v : Int32} : aCW X 2 121 [.ref 84, .int 1, .int (nI s), .int v] (HD, mi, ml, mr) (fun r h' => r = none ∧ h' = (HD, aup mi 88 s v, ml, mr)) := by
  refine cw_of (cd := cd_X7_lays) (nL := 4) rfl rfl ?_
  show aWP _ _ (0, [some (.ref 84), some (.int 1), some (.int (nI s)), some (.int v)], [], (HD, mi, ml, mr)) _
  refine wp_steps 1 (t' := (1, [some (.ref 84), some (.int 1), some (.int (nI s)), some (.int v)], [.int 1], (HD, mi, ml, mr))) rfl ?_
  refine wp_bI rfl (fun c_1 => ?_) (fun c_1 => ?_)
  rotate_left
  · have c_1 : (1 : Int32) = 0 := Decidable.not_not.mp (of_decide_eq_false c_1)
    exact absurd c_1 (by decide)
  have c_1 : ¬ (1 : Int32) = 0 := of_decide_eq_true c_1
  refine wp_steps 2 (t' := (8, [some (.ref 84), some (.int 1), some (.int (nI s)), some (.int v)], [.int 1, .int 1], (HD, mi, ml, mr))) rfl ?_
  refine wp_bC rfl (fun c_2 => ?_) (fun c_2 => ?_)
  · have c_2 : ¬ (1 : Int32) = 1 := of_decide_eq_true c_2
    exact absurd c_2 (by decide)
  have c_2 : (1 : Int32) = 1 := Decidable.not_not.mp (of_decide_eq_false c_2)
  refine wp_steps 1 (t' := (10, [some (.ref 84), some (.int 1), some (.int (nI s)), some (.int v)], [.ref 84], (HD, mi, ml, mr))) rfl ?_
  refine wp_getr rfl ⟨by decide, rfl⟩ rfl (hM (84, 8, 88) (by decide)) ?_
  refine wp_steps 2 (t' := (13, [some (.ref 84), some (.int 1), some (.int (nI s)), some (.int v)], [.int v, .int (nI s), .ref 88], (HD, mi, ml, mr))) rfl ?_
  refine wp_iast rfl ⟨by decide, rfl⟩ (aix_nI (by omega) (by decide)) (fun m_3 h_4 => ?_)
  subst h_4
  rw [nI_clamp (n := s) (by omega)]
  refine wp_steps 1 (t' := (62, [some (.ref 84), some (.int 1), some (.int (nI s)), some (.int v)], [], (HD, (aup mi 88 s v), ml, mr))) rfl ?_
  refine wp_ret rfl rfl ⟨⟨Nat.le_refl _, Nat.le_refl _⟩, ?_⟩
  exact ⟨rfl, rfl⟩
set_option maxRecDepth 20000 in
set_option maxHeartbeats 1000000 in
theorem r_lays_2 {X : aXt × Value} {mi : Nat → Nat → Int32} {ml : Nat → Nat → Int64} {mr : Nat → Nat → Option Nat} (hM : MRok mr) {p : Nat} (hp5 : p < 5) {v : Int32} : aCW X 2 121 [.ref 84, .int 2, .int (nI p), .int v] (HD, mi, ml, mr) (fun r h' => r = none ∧ h' = (HD, aup mi 90 p v, ml, mr)) := by
  refine cw_of (cd := cd_X7_lays) (nL := 4) rfl rfl ?_
  show aWP _ _ (0, [some (.ref 84), some (.int 2), some (.int (nI p)), some (.int v)], [], (HD, mi, ml, mr)) _
  refine wp_steps 1 (t' := (1, [some (.ref 84), some (.int 2), some (.int (nI p)), some (.int v)], [.int 2], (HD, mi, ml, mr))) rfl ?_
  refine wp_bI rfl (fun c_1 => ?_) (fun c_1 => ?_)
  rotate_left
  · have c_1 : (2 : Int32) = 0 := Decidable.not_not.mp (of_decide_eq_false c_1)
    exact absurd c_1 (by decide)
  have c_1 : ¬ (2 : Int32) = 0 := of_decide_eq_true c_1
  refine wp_steps 2 (t' := (8, [some (.ref 84), some (.int 2), some (.int (nI p)), some (.int v)], [.int 1, .int 2], (HD, mi, ml, mr))) rfl ?_
  refine wp_bC rfl (fun c_2 => ?_) (fun c_2 => ?_)
  rotate_left
  · have c_2 : (2 : Int32) = 1 := Decidable.not_not.mp (of_decide_eq_false c_2)
    exact absurd c_2 (by decide)
  have c_2 : ¬ (2 : Int32) = 1 := of_decide_eq_true c_2
  refine wp_steps 2 (t' := (17, [some (.ref 84), some (.int 2), some (.int (nI p)), some (.int v)], [.int 2, .int 2], (HD, mi, ml, mr))) rfl ?_
  refine wp_bC rfl (fun c_3 => ?_) (fun c_3 => ?_)
  · have c_3 : ¬ (2 : Int32) = 2 := of_decide_eq_true c_3
    exact absurd c_3 (by decide)
  have c_3 : (2 : Int32) = 2 := Decidable.not_not.mp (of_decide_eq_false c_3)
  refine wp_steps 1 (t' := (19, [some (.ref 84), some (.int 2), some (.int (nI p)), some (.int v)], [.ref 84], (HD, mi, ml, mr))) rfl ?_
  refine wp_getr rfl ⟨by decide, rfl⟩ rfl (hM (84, 10, 90) (by decide)) ?_
  refine wp_steps 2 (t' := (22, [some (.ref 84), some (.int 2), some (.int (nI p)), some (.int v)], [.int v, .int (nI p), .ref 90], (HD, mi, ml, mr))) rfl ?_
  refine wp_iast rfl ⟨by decide, rfl⟩ (aix_nI (by omega) (by decide)) (fun m_4 h_5 => ?_)
  subst h_5
  rw [nI_clamp (n := p) (by omega)]
  refine wp_steps 1 (t' := (62, [some (.ref 84), some (.int 2), some (.int (nI p)), some (.int v)], [], (HD, (aup mi 90 p v), ml, mr))) rfl ?_
  refine wp_ret rfl rfl ⟨⟨Nat.le_refl _, Nat.le_refl _⟩, ?_⟩
  exact ⟨rfl, rfl⟩
set_option maxRecDepth 20000 in
set_option maxHeartbeats 1000000 in
theorem r_lays_3 {X : aXt × Value} {mi : Nat → Nat → Int32} {ml : Nat → Nat → Int64} {mr : Nat → Nat → Option Nat} (hM : MRok mr) {p : Nat} (hp5 : p < 5) {v : Int32} : aCW X 2 121 [.ref 84, .int 3, .int (nI p), .int v] (HD, mi, ml, mr) (fun r h' => r = none ∧ h' = (HD, aup mi 91 (10 * p + 8) v, ml, mr)) := by
  refine cw_of (cd := cd_X7_lays) (nL := 4) rfl rfl ?_
  show aWP _ _ (0, [some (.ref 84), some (.int 3), some (.int (nI p)), some (.int v)], [], (HD, mi, ml, mr)) _
  refine wp_steps 1 (t' := (1, [some (.ref 84), some (.int 3), some (.int (nI p)), some (.int v)], [.int 3], (HD, mi, ml, mr))) rfl ?_
  refine wp_bI rfl (fun c_1 => ?_) (fun c_1 => ?_)
  rotate_left
  · have c_1 : (3 : Int32) = 0 := Decidable.not_not.mp (of_decide_eq_false c_1)
    exact absurd c_1 (by decide)
  have c_1 : ¬ (3 : Int32) = 0 := of_decide_eq_true c_1
  refine wp_steps 2 (t' := (8, [some (.ref 84), some (.int 3), some (.int (nI p)), some (.int v)], [.int 1, .int 3], (HD, mi, ml, mr))) rfl ?_
  refine wp_bC rfl (fun c_2 => ?_) (fun c_2 => ?_)
  rotate_left
  · have c_2 : (3 : Int32) = 1 := Decidable.not_not.mp (of_decide_eq_false c_2)
    exact absurd c_2 (by decide)
  have c_2 : ¬ (3 : Int32) = 1 := of_decide_eq_true c_2
  refine wp_steps 2 (t' := (17, [some (.ref 84), some (.int 3), some (.int (nI p)), some (.int v)], [.int 2, .int 3], (HD, mi, ml, mr))) rfl ?_
  refine wp_bC rfl (fun c_3 => ?_) (fun c_3 => ?_)
  rotate_left
  · have c_3 : (3 : Int32) = 2 := Decidable.not_not.mp (of_decide_eq_false c_3)
    exact absurd c_3 (by decide)
  have c_3 : ¬ (3 : Int32) = 2 := of_decide_eq_true c_3
  refine wp_steps 2 (t' := (26, [some (.ref 84), some (.int 3), some (.int (nI p)), some (.int v)], [.int 5, .int 3], (HD, mi, ml, mr))) rfl ?_
  refine wp_bC rfl (fun c_4 => ?_) (fun c_4 => ?_)
  · have c_4 : 5 ≤ (3 : Int32) := of_decide_eq_true c_4
    exact absurd c_4 (by decide)
  have c_4 : ¬ (5 ≤ (3 : Int32)) := of_decide_eq_false c_4
  refine wp_steps 1 (t' := (28, [some (.ref 84), some (.int 3), some (.int (nI p)), some (.int v)], [.ref 84], (HD, mi, ml, mr))) rfl ?_
  refine wp_getr rfl ⟨by decide, rfl⟩ rfl (hM (84, 11, 91) (by decide)) ?_
  refine wp_steps 4 (t' := (33, [some (.ref 84), some (.int 3), some (.int (nI p)), some (.int v)], [.int 8, .int (nI p), .ref 91], (HD, mi, ml, mr))) rfl ?_
  refine wp_cal (as := [.int (nI p), .int 8]) rfl rfl rfl (Nat.le_of_ble_eq_true rfl) ((c_rat_n (p := p) (s := 8))) (by decide) ?_
  rintro _ _ ⟨rfl, rfl⟩
  show aWP _ _ (34, [some (.ref 84), some (.int 3), some (.int (nI p)), some (.int v)], [.int (nI (10 * p + 8)), .ref 91], (HD, mi, ml, mr)) _
  refine wp_steps 1 (t' := (35, [some (.ref 84), some (.int 3), some (.int (nI p)), some (.int v)], [.int v, .int (nI (10 * p + 8)), .ref 91], (HD, mi, ml, mr))) rfl ?_
  refine wp_iast rfl ⟨by decide, rfl⟩ (aix_nI (by omega) (by decide)) (fun m_5 h_6 => ?_)
  subst h_6
  rw [nI_clamp (n := 10 * p + 8) (by omega)]
  refine wp_steps 1 (t' := (62, [some (.ref 84), some (.int 3), some (.int (nI p)), some (.int v)], [], (HD, (aup mi 91 (10 * p + 8) v), ml, mr))) rfl ?_
  refine wp_ret rfl rfl ⟨⟨Nat.le_refl _, Nat.le_refl _⟩, ?_⟩
  exact ⟨rfl, rfl⟩
set_option maxRecDepth 20000 in
set_option maxHeartbeats 1000000 in
theorem r_lays_4 {X : aXt × Value} {mi : Nat → Nat → Int32} {ml : Nat → Nat → Int64} {mr : Nat → Nat → Option Nat} (hM : MRok mr) {p : Nat} (hp5 : p < 5) {v : Int32} : aCW X 2 121 [.ref 84, .int 4, .int (nI p), .int v] (HD, mi, ml, mr) (fun r h' => r = none ∧ h' = (HD, aup mi 91 (10 * p + 9) v, ml, mr)) := by
  refine cw_of (cd := cd_X7_lays) (nL := 4) rfl rfl ?_
  show aWP _ _ (0, [some (.ref 84), some (.int 4), some (.int (nI p)), some (.int v)], [], (HD, mi, ml, mr)) _
  refine wp_steps 1 (t' := (1, [some (.ref 84), some (.int 4), some (.int (nI p)), some (.int v)], [.int 4], (HD, mi, ml, mr))) rfl ?_
  refine wp_bI rfl (fun c_1 => ?_) (fun c_1 => ?_)
  rotate_left
  · have c_1 : (4 : Int32) = 0 := Decidable.not_not.mp (of_decide_eq_false c_1)
    exact absurd c_1 (by decide)
  have c_1 : ¬ (4 : Int32) = 0 := of_decide_eq_true c_1
  refine wp_steps 2 (t' := (8, [some (.ref 84), some (.int 4), some (.int (nI p)), some (.int v)], [.int 1, .int 4], (HD, mi, ml, mr))) rfl ?_
  refine wp_bC rfl (fun c_2 => ?_) (fun c_2 => ?_)
  rotate_left
  · have c_2 : (4 : Int32) = 1 := Decidable.not_not.mp (of_decide_eq_false c_2)
    exact absurd c_2 (by decide)
  have c_2 : ¬ (4 : Int32) = 1 := of_decide_eq_true c_2
  refine wp_steps 2 (t' := (17, [some (.ref 84), some (.int 4), some (.int (nI p)), some (.int v)], [.int 2, .int 4], (HD, mi, ml, mr))) rfl ?_
  refine wp_bC rfl (fun c_3 => ?_) (fun c_3 => ?_)
  rotate_left
  · have c_3 : (4 : Int32) = 2 := Decidable.not_not.mp (of_decide_eq_false c_3)
    exact absurd c_3 (by decide)
  have c_3 : ¬ (4 : Int32) = 2 := of_decide_eq_true c_3
  refine wp_steps 2 (t' := (26, [some (.ref 84), some (.int 4), some (.int (nI p)), some (.int v)], [.int 5, .int 4], (HD, mi, ml, mr))) rfl ?_
  refine wp_bC rfl (fun c_4 => ?_) (fun c_4 => ?_)
  · have c_4 : 5 ≤ (4 : Int32) := of_decide_eq_true c_4
    exact absurd c_4 (by decide)
  have c_4 : ¬ (5 ≤ (4 : Int32)) := of_decide_eq_false c_4
  refine wp_steps 1 (t' := (28, [some (.ref 84), some (.int 4), some (.int (nI p)), some (.int v)], [.ref 84], (HD, mi, ml, mr))) rfl ?_
  refine wp_getr rfl ⟨by decide, rfl⟩ rfl (hM (84, 11, 91) (by decide)) ?_
  refine wp_steps 4 (t' := (33, [some (.ref 84), some (.int 4), some (.int (nI p)), some (.int v)], [.int 9, .int (nI p), .ref 91], (HD, mi, ml, mr))) rfl ?_
  refine wp_cal (as := [.int (nI p), .int 9]) rfl rfl rfl (Nat.le_of_ble_eq_true rfl) ((c_rat_n (p := p) (s := 9))) (by decide) ?_
  rintro _ _ ⟨rfl, rfl⟩
  show aWP _ _ (34, [some (.ref 84), some (.int 4), some (.int (nI p)), some (.int v)], [.int (nI (10 * p + 9)), .ref 91], (HD, mi, ml, mr)) _
  refine wp_steps 1 (t' := (35, [some (.ref 84), some (.int 4), some (.int (nI p)), some (.int v)], [.int v, .int (nI (10 * p + 9)), .ref 91], (HD, mi, ml, mr))) rfl ?_
  refine wp_iast rfl ⟨by decide, rfl⟩ (aix_nI (by omega) (by decide)) (fun m_5 h_6 => ?_)
  subst h_6
  rw [nI_clamp (n := 10 * p + 9) (by omega)]
  refine wp_steps 1 (t' := (62, [some (.ref 84), some (.int 4), some (.int (nI p)), some (.int v)], [], (HD, (aup mi 91 (10 * p + 9) v), ml, mr))) rfl ?_
  refine wp_ret rfl rfl ⟨⟨Nat.le_refl _, Nat.le_refl _⟩, ?_⟩
  exact ⟨rfl, rfl⟩
set_option maxRecDepth 20000 in
set_option maxHeartbeats 1000000 in
theorem r_lays_10 {X : aXt × Value} {mi : Nat → Nat → Int32} {ml : Nat → Nat → Int64} {mr : Nat → Nat → Option Nat} (hM : MRok mr) {p : Nat} (hp5 : p < 5) {v : Int32} : aCW X 2 121 [.ref 84, .int 10, .int (nI p), .int v] (HD, mi, ml, mr) (fun r h' => r = none ∧ h' = (HD, aup mi 91 (10 * p + 0) v, ml, mr)) := by
  refine cw_of (cd := cd_X7_lays) (nL := 4) rfl rfl ?_
  show aWP _ _ (0, [some (.ref 84), some (.int 10), some (.int (nI p)), some (.int v)], [], (HD, mi, ml, mr)) _
  refine wp_steps 1 (t' := (1, [some (.ref 84), some (.int 10), some (.int (nI p)), some (.int v)], [.int 10], (HD, mi, ml, mr))) rfl ?_
  refine wp_bI rfl (fun c_1 => ?_) (fun c_1 => ?_)
  rotate_left
  · have c_1 : (10 : Int32) = 0 := Decidable.not_not.mp (of_decide_eq_false c_1)
    exact absurd c_1 (by decide)
  have c_1 : ¬ (10 : Int32) = 0 := of_decide_eq_true c_1
  refine wp_steps 2 (t' := (8, [some (.ref 84), some (.int 10), some (.int (nI p)), some (.int v)], [.int 1, .int 10], (HD, mi, ml, mr))) rfl ?_
  refine wp_bC rfl (fun c_2 => ?_) (fun c_2 => ?_)
  rotate_left
  · have c_2 : (10 : Int32) = 1 := Decidable.not_not.mp (of_decide_eq_false c_2)
    exact absurd c_2 (by decide)
  have c_2 : ¬ (10 : Int32) = 1 := of_decide_eq_true c_2
  refine wp_steps 2 (t' := (17, [some (.ref 84), some (.int 10), some (.int (nI p)), some (.int v)], [.int 2, .int 10], (HD, mi, ml, mr))) rfl ?_
  refine wp_bC rfl (fun c_3 => ?_) (fun c_3 => ?_)
  rotate_left
  · have c_3 : (10 : Int32) = 2 := Decidable.not_not.mp (of_decide_eq_false c_3)
    exact absurd c_3 (by decide)
  have c_3 : ¬ (10 : Int32) = 2 := of_decide_eq_true c_3
  refine wp_steps 2 (t' := (26, [some (.ref 84), some (.int 10), some (.int (nI p)), some (.int v)], [.int 5, .int 10], (HD, mi, ml, mr))) rfl ?_
  refine wp_bC rfl (fun c_4 => ?_) (fun c_4 => ?_)
  rotate_left
  · have c_4 : ¬ (5 ≤ (10 : Int32)) := of_decide_eq_false c_4
    exact absurd c_4 (by decide)
  have c_4 : 5 ≤ (10 : Int32) := of_decide_eq_true c_4
  refine wp_steps 2 (t' := (39, [some (.ref 84), some (.int 10), some (.int (nI p)), some (.int v)], [.int 9, .int 10], (HD, mi, ml, mr))) rfl ?_
  refine wp_bC rfl (fun c_5 => ?_) (fun c_5 => ?_)
  · have c_5 : (10 : Int32) ≤ 9 := of_decide_eq_true c_5
    exact absurd c_5 (by decide)
  have c_5 : ¬ ((10 : Int32) ≤ 9) := of_decide_eq_false c_5
  refine wp_steps 1 (t' := (41, [some (.ref 84), some (.int 10), some (.int (nI p)), some (.int v)], [.ref 84], (HD, mi, ml, mr))) rfl ?_
  refine wp_getr rfl ⟨by decide, rfl⟩ rfl (hM (84, 11, 91) (by decide)) ?_
  refine wp_steps 4 (t' := (46, [some (.ref 84), some (.int 10), some (.int (nI p)), some (.int v)], [.int 0, .int (nI p), .ref 91], (HD, mi, ml, mr))) rfl ?_
  refine wp_cal (as := [.int (nI p), .int 0]) rfl rfl rfl (Nat.le_of_ble_eq_true rfl) ((c_rat_n (p := p) (s := 0))) (by decide) ?_
  rintro _ _ ⟨rfl, rfl⟩
  show aWP _ _ (47, [some (.ref 84), some (.int 10), some (.int (nI p)), some (.int v)], [.int (nI (10 * p + 0)), .ref 91], (HD, mi, ml, mr)) _
  refine wp_steps 1 (t' := (48, [some (.ref 84), some (.int 10), some (.int (nI p)), some (.int v)], [.int v, .int (nI (10 * p + 0)), .ref 91], (HD, mi, ml, mr))) rfl ?_
  refine wp_iast rfl ⟨by decide, rfl⟩ (aix_nI (by omega) (by decide)) (fun m_6 h_7 => ?_)
  subst h_7
  rw [nI_clamp (n := 10 * p + 0) (by omega)]
  refine wp_steps 1 (t' := (62, [some (.ref 84), some (.int 10), some (.int (nI p)), some (.int v)], [], (HD, (aup mi 91 (10 * p + 0) v), ml, mr))) rfl ?_
  refine wp_ret rfl rfl ⟨⟨Nat.le_refl _, Nat.le_refl _⟩, ?_⟩
  exact ⟨rfl, rfl⟩
set_option maxRecDepth 20000 in
set_option maxHeartbeats 1000000 in
theorem r_lays_11 {X : aXt × Value} {mi : Nat → Nat → Int32} {ml : Nat → Nat → Int64} {mr : Nat → Nat → Option Nat} (hM : MRok mr) {p : Nat} (hp5 : p < 5) {v : Int32} : aCW X 2 121 [.ref 84, .int 11, .int (nI p), .int v] (HD, mi, ml, mr) (fun r h' => r = none ∧ h' = (HD, aup mi 91 (10 * p + 1) v, ml, mr)) := by
  refine cw_of (cd := cd_X7_lays) (nL := 4) rfl rfl ?_
  show aWP _ _ (0, [some (.ref 84), some (.int 11), some (.int (nI p)), some (.int v)], [], (HD, mi, ml, mr)) _
  refine wp_steps 1 (t' := (1, [some (.ref 84), some (.int 11), some (.int (nI p)), some (.int v)], [.int 11], (HD, mi, ml, mr))) rfl ?_
  refine wp_bI rfl (fun c_1 => ?_) (fun c_1 => ?_)
  rotate_left
  · have c_1 : (11 : Int32) = 0 := Decidable.not_not.mp (of_decide_eq_false c_1)
    exact absurd c_1 (by decide)
  have c_1 : ¬ (11 : Int32) = 0 := of_decide_eq_true c_1
  refine wp_steps 2 (t' := (8, [some (.ref 84), some (.int 11), some (.int (nI p)), some (.int v)], [.int 1, .int 11], (HD, mi, ml, mr))) rfl ?_
  refine wp_bC rfl (fun c_2 => ?_) (fun c_2 => ?_)
  rotate_left
  · have c_2 : (11 : Int32) = 1 := Decidable.not_not.mp (of_decide_eq_false c_2)
    exact absurd c_2 (by decide)
  have c_2 : ¬ (11 : Int32) = 1 := of_decide_eq_true c_2
  refine wp_steps 2 (t' := (17, [some (.ref 84), some (.int 11), some (.int (nI p)), some (.int v)], [.int 2, .int 11], (HD, mi, ml, mr))) rfl ?_
  refine wp_bC rfl (fun c_3 => ?_) (fun c_3 => ?_)
  rotate_left
  · have c_3 : (11 : Int32) = 2 := Decidable.not_not.mp (of_decide_eq_false c_3)
    exact absurd c_3 (by decide)
  have c_3 : ¬ (11 : Int32) = 2 := of_decide_eq_true c_3
  refine wp_steps 2 (t' := (26, [some (.ref 84), some (.int 11), some (.int (nI p)), some (.int v)], [.int 5, .int 11], (HD, mi, ml, mr))) rfl ?_
  refine wp_bC rfl (fun c_4 => ?_) (fun c_4 => ?_)
  rotate_left
  · have c_4 : ¬ (5 ≤ (11 : Int32)) := of_decide_eq_false c_4
    exact absurd c_4 (by decide)
  have c_4 : 5 ≤ (11 : Int32) := of_decide_eq_true c_4
  refine wp_steps 2 (t' := (39, [some (.ref 84), some (.int 11), some (.int (nI p)), some (.int v)], [.int 9, .int 11], (HD, mi, ml, mr))) rfl ?_
  refine wp_bC rfl (fun c_5 => ?_) (fun c_5 => ?_)
  · have c_5 : (11 : Int32) ≤ 9 := of_decide_eq_true c_5
    exact absurd c_5 (by decide)
  have c_5 : ¬ ((11 : Int32) ≤ 9) := of_decide_eq_false c_5
  refine wp_steps 1 (t' := (41, [some (.ref 84), some (.int 11), some (.int (nI p)), some (.int v)], [.ref 84], (HD, mi, ml, mr))) rfl ?_
  refine wp_getr rfl ⟨by decide, rfl⟩ rfl (hM (84, 11, 91) (by decide)) ?_
  refine wp_steps 4 (t' := (46, [some (.ref 84), some (.int 11), some (.int (nI p)), some (.int v)], [.int 1, .int (nI p), .ref 91], (HD, mi, ml, mr))) rfl ?_
  refine wp_cal (as := [.int (nI p), .int 1]) rfl rfl rfl (Nat.le_of_ble_eq_true rfl) ((c_rat_n (p := p) (s := 1))) (by decide) ?_
  rintro _ _ ⟨rfl, rfl⟩
  show aWP _ _ (47, [some (.ref 84), some (.int 11), some (.int (nI p)), some (.int v)], [.int (nI (10 * p + 1)), .ref 91], (HD, mi, ml, mr)) _
  refine wp_steps 1 (t' := (48, [some (.ref 84), some (.int 11), some (.int (nI p)), some (.int v)], [.int v, .int (nI (10 * p + 1)), .ref 91], (HD, mi, ml, mr))) rfl ?_
  refine wp_iast rfl ⟨by decide, rfl⟩ (aix_nI (by omega) (by decide)) (fun m_6 h_7 => ?_)
  subst h_7
  rw [nI_clamp (n := 10 * p + 1) (by omega)]
  refine wp_steps 1 (t' := (62, [some (.ref 84), some (.int 11), some (.int (nI p)), some (.int v)], [], (HD, (aup mi 91 (10 * p + 1) v), ml, mr))) rfl ?_
  refine wp_ret rfl rfl ⟨⟨Nat.le_refl _, Nat.le_refl _⟩, ?_⟩
  exact ⟨rfl, rfl⟩
set_option maxRecDepth 20000 in
set_option maxHeartbeats 1000000 in
theorem r_lays_12 {X : aXt × Value} {mi : Nat → Nat → Int32} {ml : Nat → Nat → Int64} {mr : Nat → Nat → Option Nat} (hM : MRok mr) {p : Nat} (hp5 : p < 5) {v : Int32} : aCW X 2 121 [.ref 84, .int 12, .int (nI p), .int v] (HD, mi, ml, mr) (fun r h' => r = none ∧ h' = (HD, aup mi 91 (10 * p + 2) v, ml, mr)) := by
  refine cw_of (cd := cd_X7_lays) (nL := 4) rfl rfl ?_
  show aWP _ _ (0, [some (.ref 84), some (.int 12), some (.int (nI p)), some (.int v)], [], (HD, mi, ml, mr)) _
  refine wp_steps 1 (t' := (1, [some (.ref 84), some (.int 12), some (.int (nI p)), some (.int v)], [.int 12], (HD, mi, ml, mr))) rfl ?_
  refine wp_bI rfl (fun c_1 => ?_) (fun c_1 => ?_)
  rotate_left
  · have c_1 : (12 : Int32) = 0 := Decidable.not_not.mp (of_decide_eq_false c_1)
    exact absurd c_1 (by decide)
  have c_1 : ¬ (12 : Int32) = 0 := of_decide_eq_true c_1
  refine wp_steps 2 (t' := (8, [some (.ref 84), some (.int 12), some (.int (nI p)), some (.int v)], [.int 1, .int 12], (HD, mi, ml, mr))) rfl ?_
  refine wp_bC rfl (fun c_2 => ?_) (fun c_2 => ?_)
  rotate_left
  · have c_2 : (12 : Int32) = 1 := Decidable.not_not.mp (of_decide_eq_false c_2)
    exact absurd c_2 (by decide)
  have c_2 : ¬ (12 : Int32) = 1 := of_decide_eq_true c_2
  refine wp_steps 2 (t' := (17, [some (.ref 84), some (.int 12), some (.int (nI p)), some (.int v)], [.int 2, .int 12], (HD, mi, ml, mr))) rfl ?_
  refine wp_bC rfl (fun c_3 => ?_) (fun c_3 => ?_)
  rotate_left
  · have c_3 : (12 : Int32) = 2 := Decidable.not_not.mp (of_decide_eq_false c_3)
    exact absurd c_3 (by decide)
  have c_3 : ¬ (12 : Int32) = 2 := of_decide_eq_true c_3
  refine wp_steps 2 (t' := (26, [some (.ref 84), some (.int 12), some (.int (nI p)), some (.int v)], [.int 5, .int 12], (HD, mi, ml, mr))) rfl ?_
  refine wp_bC rfl (fun c_4 => ?_) (fun c_4 => ?_)
  rotate_left
  · have c_4 : ¬ (5 ≤ (12 : Int32)) := of_decide_eq_false c_4
    exact absurd c_4 (by decide)
  have c_4 : 5 ≤ (12 : Int32) := of_decide_eq_true c_4
  refine wp_steps 2 (t' := (39, [some (.ref 84), some (.int 12), some (.int (nI p)), some (.int v)], [.int 9, .int 12], (HD, mi, ml, mr))) rfl ?_
  refine wp_bC rfl (fun c_5 => ?_) (fun c_5 => ?_)
  · have c_5 : (12 : Int32) ≤ 9 := of_decide_eq_true c_5
    exact absurd c_5 (by decide)
  have c_5 : ¬ ((12 : Int32) ≤ 9) := of_decide_eq_false c_5
  refine wp_steps 1 (t' := (41, [some (.ref 84), some (.int 12), some (.int (nI p)), some (.int v)], [.ref 84], (HD, mi, ml, mr))) rfl ?_
  refine wp_getr rfl ⟨by decide, rfl⟩ rfl (hM (84, 11, 91) (by decide)) ?_
  refine wp_steps 4 (t' := (46, [some (.ref 84), some (.int 12), some (.int (nI p)), some (.int v)], [.int 2, .int (nI p), .ref 91], (HD, mi, ml, mr))) rfl ?_
  refine wp_cal (as := [.int (nI p), .int 2]) rfl rfl rfl (Nat.le_of_ble_eq_true rfl) ((c_rat_n (p := p) (s := 2))) (by decide) ?_
  rintro _ _ ⟨rfl, rfl⟩
  show aWP _ _ (47, [some (.ref 84), some (.int 12), some (.int (nI p)), some (.int v)], [.int (nI (10 * p + 2)), .ref 91], (HD, mi, ml, mr)) _
  refine wp_steps 1 (t' := (48, [some (.ref 84), some (.int 12), some (.int (nI p)), some (.int v)], [.int v, .int (nI (10 * p + 2)), .ref 91], (HD, mi, ml, mr))) rfl ?_
  refine wp_iast rfl ⟨by decide, rfl⟩ (aix_nI (by omega) (by decide)) (fun m_6 h_7 => ?_)
  subst h_7
  rw [nI_clamp (n := 10 * p + 2) (by omega)]
  refine wp_steps 1 (t' := (62, [some (.ref 84), some (.int 12), some (.int (nI p)), some (.int v)], [], (HD, (aup mi 91 (10 * p + 2) v), ml, mr))) rfl ?_
  refine wp_ret rfl rfl ⟨⟨Nat.le_refl _, Nat.le_refl _⟩, ?_⟩
  exact ⟨rfl, rfl⟩
set_option maxRecDepth 20000 in
set_option maxHeartbeats 1000000 in
theorem r_lays_13 {X : aXt × Value} {mi : Nat → Nat → Int32} {ml : Nat → Nat → Int64} {mr : Nat → Nat → Option Nat} (hM : MRok mr) {p : Nat} (hp5 : p < 5) {v : Int32} : aCW X 2 121 [.ref 84, .int 13, .int (nI p), .int v] (HD, mi, ml, mr) (fun r h' => r = none ∧ h' = (HD, aup mi 91 (10 * p + 3) v, ml, mr)) := by
  refine cw_of (cd := cd_X7_lays) (nL := 4) rfl rfl ?_
  show aWP _ _ (0, [some (.ref 84), some (.int 13), some (.int (nI p)), some (.int v)], [], (HD, mi, ml, mr)) _
  refine wp_steps 1 (t' := (1, [some (.ref 84), some (.int 13), some (.int (nI p)), some (.int v)], [.int 13], (HD, mi, ml, mr))) rfl ?_
  refine wp_bI rfl (fun c_1 => ?_) (fun c_1 => ?_)
  rotate_left
  · have c_1 : (13 : Int32) = 0 := Decidable.not_not.mp (of_decide_eq_false c_1)
    exact absurd c_1 (by decide)
  have c_1 : ¬ (13 : Int32) = 0 := of_decide_eq_true c_1
  refine wp_steps 2 (t' := (8, [some (.ref 84), some (.int 13), some (.int (nI p)), some (.int v)], [.int 1, .int 13], (HD, mi, ml, mr))) rfl ?_
  refine wp_bC rfl (fun c_2 => ?_) (fun c_2 => ?_)
  rotate_left
  · have c_2 : (13 : Int32) = 1 := Decidable.not_not.mp (of_decide_eq_false c_2)
    exact absurd c_2 (by decide)
  have c_2 : ¬ (13 : Int32) = 1 := of_decide_eq_true c_2
  refine wp_steps 2 (t' := (17, [some (.ref 84), some (.int 13), some (.int (nI p)), some (.int v)], [.int 2, .int 13], (HD, mi, ml, mr))) rfl ?_
  refine wp_bC rfl (fun c_3 => ?_) (fun c_3 => ?_)
  rotate_left
  · have c_3 : (13 : Int32) = 2 := Decidable.not_not.mp (of_decide_eq_false c_3)
    exact absurd c_3 (by decide)
  have c_3 : ¬ (13 : Int32) = 2 := of_decide_eq_true c_3
  refine wp_steps 2 (t' := (26, [some (.ref 84), some (.int 13), some (.int (nI p)), some (.int v)], [.int 5, .int 13], (HD, mi, ml, mr))) rfl ?_
  refine wp_bC rfl (fun c_4 => ?_) (fun c_4 => ?_)
  rotate_left
  · have c_4 : ¬ (5 ≤ (13 : Int32)) := of_decide_eq_false c_4
    exact absurd c_4 (by decide)
  have c_4 : 5 ≤ (13 : Int32) := of_decide_eq_true c_4
  refine wp_steps 2 (t' := (39, [some (.ref 84), some (.int 13), some (.int (nI p)), some (.int v)], [.int 9, .int 13], (HD, mi, ml, mr))) rfl ?_
  refine wp_bC rfl (fun c_5 => ?_) (fun c_5 => ?_)
  · have c_5 : (13 : Int32) ≤ 9 := of_decide_eq_true c_5
    exact absurd c_5 (by decide)
  have c_5 : ¬ ((13 : Int32) ≤ 9) := of_decide_eq_false c_5
  refine wp_steps 1 (t' := (41, [some (.ref 84), some (.int 13), some (.int (nI p)), some (.int v)], [.ref 84], (HD, mi, ml, mr))) rfl ?_
  refine wp_getr rfl ⟨by decide, rfl⟩ rfl (hM (84, 11, 91) (by decide)) ?_
  refine wp_steps 4 (t' := (46, [some (.ref 84), some (.int 13), some (.int (nI p)), some (.int v)], [.int 3, .int (nI p), .ref 91], (HD, mi, ml, mr))) rfl ?_
  refine wp_cal (as := [.int (nI p), .int 3]) rfl rfl rfl (Nat.le_of_ble_eq_true rfl) ((c_rat_n (p := p) (s := 3))) (by decide) ?_
  rintro _ _ ⟨rfl, rfl⟩
  show aWP _ _ (47, [some (.ref 84), some (.int 13), some (.int (nI p)), some (.int v)], [.int (nI (10 * p + 3)), .ref 91], (HD, mi, ml, mr)) _
  refine wp_steps 1 (t' := (48, [some (.ref 84), some (.int 13), some (.int (nI p)), some (.int v)], [.int v, .int (nI (10 * p + 3)), .ref 91], (HD, mi, ml, mr))) rfl ?_
  refine wp_iast rfl ⟨by decide, rfl⟩ (aix_nI (by omega) (by decide)) (fun m_6 h_7 => ?_)
  subst h_7
  rw [nI_clamp (n := 10 * p + 3) (by omega)]
  refine wp_steps 1 (t' := (62, [some (.ref 84), some (.int 13), some (.int (nI p)), some (.int v)], [], (HD, (aup mi 91 (10 * p + 3) v), ml, mr))) rfl ?_
  refine wp_ret rfl rfl ⟨⟨Nat.le_refl _, Nat.le_refl _⟩, ?_⟩
  exact ⟨rfl, rfl⟩
set_option maxRecDepth 20000 in
set_option maxHeartbeats 1000000 in
theorem r_lays_14 {X : aXt × Value} {mi : Nat → Nat → Int32} {ml : Nat → Nat → Int64} {mr : Nat → Nat → Option Nat} (hM : MRok mr) {p : Nat} (hp5 : p < 5) {v : Int32} : aCW X 2 121 [.ref 84, .int 14, .int (nI p), .int v] (HD, mi, ml, mr) (fun r h' => r = none ∧ h' = (HD, aup mi 91 (10 * p + 4) v, ml, mr)) := by
  refine cw_of (cd := cd_X7_lays) (nL := 4) rfl rfl ?_
  show aWP _ _ (0, [some (.ref 84), some (.int 14), some (.int (nI p)), some (.int v)], [], (HD, mi, ml, mr)) _
  refine wp_steps 1 (t' := (1, [some (.ref 84), some (.int 14), some (.int (nI p)), some (.int v)], [.int 14], (HD, mi, ml, mr))) rfl ?_
  refine wp_bI rfl (fun c_1 => ?_) (fun c_1 => ?_)
  rotate_left
  · have c_1 : (14 : Int32) = 0 := Decidable.not_not.mp (of_decide_eq_false c_1)
    exact absurd c_1 (by decide)
  have c_1 : ¬ (14 : Int32) = 0 := of_decide_eq_true c_1
  refine wp_steps 2 (t' := (8, [some (.ref 84), some (.int 14), some (.int (nI p)), some (.int v)], [.int 1, .int 14], (HD, mi, ml, mr))) rfl ?_
  refine wp_bC rfl (fun c_2 => ?_) (fun c_2 => ?_)
  rotate_left
  · have c_2 : (14 : Int32) = 1 := Decidable.not_not.mp (of_decide_eq_false c_2)
    exact absurd c_2 (by decide)
  have c_2 : ¬ (14 : Int32) = 1 := of_decide_eq_true c_2
  refine wp_steps 2 (t' := (17, [some (.ref 84), some (.int 14), some (.int (nI p)), some (.int v)], [.int 2, .int 14], (HD, mi, ml, mr))) rfl ?_
  refine wp_bC rfl (fun c_3 => ?_) (fun c_3 => ?_)
  rotate_left
  · have c_3 : (14 : Int32) = 2 := Decidable.not_not.mp (of_decide_eq_false c_3)
    exact absurd c_3 (by decide)
  have c_3 : ¬ (14 : Int32) = 2 := of_decide_eq_true c_3
  refine wp_steps 2 (t' := (26, [some (.ref 84), some (.int 14), some (.int (nI p)), some (.int v)], [.int 5, .int 14], (HD, mi, ml, mr))) rfl ?_
  refine wp_bC rfl (fun c_4 => ?_) (fun c_4 => ?_)
  rotate_left
  · have c_4 : ¬ (5 ≤ (14 : Int32)) := of_decide_eq_false c_4
    exact absurd c_4 (by decide)
  have c_4 : 5 ≤ (14 : Int32) := of_decide_eq_true c_4
  refine wp_steps 2 (t' := (39, [some (.ref 84), some (.int 14), some (.int (nI p)), some (.int v)], [.int 9, .int 14], (HD, mi, ml, mr))) rfl ?_
  refine wp_bC rfl (fun c_5 => ?_) (fun c_5 => ?_)
  · have c_5 : (14 : Int32) ≤ 9 := of_decide_eq_true c_5
    exact absurd c_5 (by decide)
  have c_5 : ¬ ((14 : Int32) ≤ 9) := of_decide_eq_false c_5
  refine wp_steps 1 (t' := (41, [some (.ref 84), some (.int 14), some (.int (nI p)), some (.int v)], [.ref 84], (HD, mi, ml, mr))) rfl ?_
  refine wp_getr rfl ⟨by decide, rfl⟩ rfl (hM (84, 11, 91) (by decide)) ?_
  refine wp_steps 4 (t' := (46, [some (.ref 84), some (.int 14), some (.int (nI p)), some (.int v)], [.int 4, .int (nI p), .ref 91], (HD, mi, ml, mr))) rfl ?_
  refine wp_cal (as := [.int (nI p), .int 4]) rfl rfl rfl (Nat.le_of_ble_eq_true rfl) ((c_rat_n (p := p) (s := 4))) (by decide) ?_
  rintro _ _ ⟨rfl, rfl⟩
  show aWP _ _ (47, [some (.ref 84), some (.int 14), some (.int (nI p)), some (.int v)], [.int (nI (10 * p + 4)), .ref 91], (HD, mi, ml, mr)) _
  refine wp_steps 1 (t' := (48, [some (.ref 84), some (.int 14), some (.int (nI p)), some (.int v)], [.int v, .int (nI (10 * p + 4)), .ref 91], (HD, mi, ml, mr))) rfl ?_
  refine wp_iast rfl ⟨by decide, rfl⟩ (aix_nI (by omega) (by decide)) (fun m_6 h_7 => ?_)
  subst h_7
  rw [nI_clamp (n := 10 * p + 4) (by omega)]
  refine wp_steps 1 (t' := (62, [some (.ref 84), some (.int 14), some (.int (nI p)), some (.int v)], [], (HD, (aup mi 91 (10 * p + 4) v), ml, mr))) rfl ?_
  refine wp_ret rfl rfl ⟨⟨Nat.le_refl _, Nat.le_refl _⟩, ?_⟩
  exact ⟨rfl, rfl⟩
set_option maxRecDepth 20000 in
set_option maxHeartbeats 1000000 in
theorem r_lays_15 {X : aXt × Value} {mi : Nat → Nat → Int32} {ml : Nat → Nat → Int64} {mr : Nat → Nat → Option Nat} (hM : MRok mr) {p : Nat} (hp5 : p < 5) {v : Int32} : aCW X 2 121 [.ref 84, .int 15, .int (nI p), .int v] (HD, mi, ml, mr) (fun r h' => r = none ∧ h' = (HD, aup mi 91 (10 * p + 5) v, ml, mr)) := by
  refine cw_of (cd := cd_X7_lays) (nL := 4) rfl rfl ?_
  show aWP _ _ (0, [some (.ref 84), some (.int 15), some (.int (nI p)), some (.int v)], [], (HD, mi, ml, mr)) _
  refine wp_steps 1 (t' := (1, [some (.ref 84), some (.int 15), some (.int (nI p)), some (.int v)], [.int 15], (HD, mi, ml, mr))) rfl ?_
  refine wp_bI rfl (fun c_1 => ?_) (fun c_1 => ?_)
  rotate_left
  · have c_1 : (15 : Int32) = 0 := Decidable.not_not.mp (of_decide_eq_false c_1)
    exact absurd c_1 (by decide)
  have c_1 : ¬ (15 : Int32) = 0 := of_decide_eq_true c_1
  refine wp_steps 2 (t' := (8, [some (.ref 84), some (.int 15), some (.int (nI p)), some (.int v)], [.int 1, .int 15], (HD, mi, ml, mr))) rfl ?_
  refine wp_bC rfl (fun c_2 => ?_) (fun c_2 => ?_)
  rotate_left
  · have c_2 : (15 : Int32) = 1 := Decidable.not_not.mp (of_decide_eq_false c_2)
    exact absurd c_2 (by decide)
  have c_2 : ¬ (15 : Int32) = 1 := of_decide_eq_true c_2
  refine wp_steps 2 (t' := (17, [some (.ref 84), some (.int 15), some (.int (nI p)), some (.int v)], [.int 2, .int 15], (HD, mi, ml, mr))) rfl ?_
  refine wp_bC rfl (fun c_3 => ?_) (fun c_3 => ?_)
  rotate_left
  · have c_3 : (15 : Int32) = 2 := Decidable.not_not.mp (of_decide_eq_false c_3)
    exact absurd c_3 (by decide)
  have c_3 : ¬ (15 : Int32) = 2 := of_decide_eq_true c_3
  refine wp_steps 2 (t' := (26, [some (.ref 84), some (.int 15), some (.int (nI p)), some (.int v)], [.int 5, .int 15], (HD, mi, ml, mr))) rfl ?_
  refine wp_bC rfl (fun c_4 => ?_) (fun c_4 => ?_)
  rotate_left
  · have c_4 : ¬ (5 ≤ (15 : Int32)) := of_decide_eq_false c_4
    exact absurd c_4 (by decide)
  have c_4 : 5 ≤ (15 : Int32) := of_decide_eq_true c_4
  refine wp_steps 2 (t' := (39, [some (.ref 84), some (.int 15), some (.int (nI p)), some (.int v)], [.int 9, .int 15], (HD, mi, ml, mr))) rfl ?_
  refine wp_bC rfl (fun c_5 => ?_) (fun c_5 => ?_)
  · have c_5 : (15 : Int32) ≤ 9 := of_decide_eq_true c_5
    exact absurd c_5 (by decide)
  have c_5 : ¬ ((15 : Int32) ≤ 9) := of_decide_eq_false c_5
  refine wp_steps 1 (t' := (41, [some (.ref 84), some (.int 15), some (.int (nI p)), some (.int v)], [.ref 84], (HD, mi, ml, mr))) rfl ?_
  refine wp_getr rfl ⟨by decide, rfl⟩ rfl (hM (84, 11, 91) (by decide)) ?_
  refine wp_steps 4 (t' := (46, [some (.ref 84), some (.int 15), some (.int (nI p)), some (.int v)], [.int 5, .int (nI p), .ref 91], (HD, mi, ml, mr))) rfl ?_
  refine wp_cal (as := [.int (nI p), .int 5]) rfl rfl rfl (Nat.le_of_ble_eq_true rfl) ((c_rat_n (p := p) (s := 5))) (by decide) ?_
  rintro _ _ ⟨rfl, rfl⟩
  show aWP _ _ (47, [some (.ref 84), some (.int 15), some (.int (nI p)), some (.int v)], [.int (nI (10 * p + 5)), .ref 91], (HD, mi, ml, mr)) _
  refine wp_steps 1 (t' := (48, [some (.ref 84), some (.int 15), some (.int (nI p)), some (.int v)], [.int v, .int (nI (10 * p + 5)), .ref 91], (HD, mi, ml, mr))) rfl ?_
  refine wp_iast rfl ⟨by decide, rfl⟩ (aix_nI (by omega) (by decide)) (fun m_6 h_7 => ?_)
  subst h_7
  rw [nI_clamp (n := 10 * p + 5) (by omega)]
  refine wp_steps 1 (t' := (62, [some (.ref 84), some (.int 15), some (.int (nI p)), some (.int v)], [], (HD, (aup mi 91 (10 * p + 5) v), ml, mr))) rfl ?_
  refine wp_ret rfl rfl ⟨⟨Nat.le_refl _, Nat.le_refl _⟩, ?_⟩
  exact ⟨rfl, rfl⟩
set_option maxRecDepth 20000 in
set_option maxHeartbeats 1000000 in
theorem r_lays_16 {X : aXt × Value} {mi : Nat → Nat → Int32} {ml : Nat → Nat → Int64} {mr : Nat → Nat → Option Nat} (hM : MRok mr) {p : Nat} (hp5 : p < 5) {v : Int32} : aCW X 2 121 [.ref 84, .int 16, .int (nI p), .int v] (HD, mi, ml, mr) (fun r h' => r = none ∧ h' = (HD, aup mi 91 (10 * p + 6) v, ml, mr)) := by
  refine cw_of (cd := cd_X7_lays) (nL := 4) rfl rfl ?_
  show aWP _ _ (0, [some (.ref 84), some (.int 16), some (.int (nI p)), some (.int v)], [], (HD, mi, ml, mr)) _
  refine wp_steps 1 (t' := (1, [some (.ref 84), some (.int 16), some (.int (nI p)), some (.int v)], [.int 16], (HD, mi, ml, mr))) rfl ?_
  refine wp_bI rfl (fun c_1 => ?_) (fun c_1 => ?_)
  rotate_left
  · have c_1 : (16 : Int32) = 0 := Decidable.not_not.mp (of_decide_eq_false c_1)
    exact absurd c_1 (by decide)
  have c_1 : ¬ (16 : Int32) = 0 := of_decide_eq_true c_1
  refine wp_steps 2 (t' := (8, [some (.ref 84), some (.int 16), some (.int (nI p)), some (.int v)], [.int 1, .int 16], (HD, mi, ml, mr))) rfl ?_
  refine wp_bC rfl (fun c_2 => ?_) (fun c_2 => ?_)
  rotate_left
  · have c_2 : (16 : Int32) = 1 := Decidable.not_not.mp (of_decide_eq_false c_2)
    exact absurd c_2 (by decide)
  have c_2 : ¬ (16 : Int32) = 1 := of_decide_eq_true c_2
  refine wp_steps 2 (t' := (17, [some (.ref 84), some (.int 16), some (.int (nI p)), some (.int v)], [.int 2, .int 16], (HD, mi, ml, mr))) rfl ?_
  refine wp_bC rfl (fun c_3 => ?_) (fun c_3 => ?_)
  rotate_left
  · have c_3 : (16 : Int32) = 2 := Decidable.not_not.mp (of_decide_eq_false c_3)
    exact absurd c_3 (by decide)
  have c_3 : ¬ (16 : Int32) = 2 := of_decide_eq_true c_3
  refine wp_steps 2 (t' := (26, [some (.ref 84), some (.int 16), some (.int (nI p)), some (.int v)], [.int 5, .int 16], (HD, mi, ml, mr))) rfl ?_
  refine wp_bC rfl (fun c_4 => ?_) (fun c_4 => ?_)
  rotate_left
  · have c_4 : ¬ (5 ≤ (16 : Int32)) := of_decide_eq_false c_4
    exact absurd c_4 (by decide)
  have c_4 : 5 ≤ (16 : Int32) := of_decide_eq_true c_4
  refine wp_steps 2 (t' := (39, [some (.ref 84), some (.int 16), some (.int (nI p)), some (.int v)], [.int 9, .int 16], (HD, mi, ml, mr))) rfl ?_
  refine wp_bC rfl (fun c_5 => ?_) (fun c_5 => ?_)
  · have c_5 : (16 : Int32) ≤ 9 := of_decide_eq_true c_5
    exact absurd c_5 (by decide)
  have c_5 : ¬ ((16 : Int32) ≤ 9) := of_decide_eq_false c_5
  refine wp_steps 1 (t' := (41, [some (.ref 84), some (.int 16), some (.int (nI p)), some (.int v)], [.ref 84], (HD, mi, ml, mr))) rfl ?_
  refine wp_getr rfl ⟨by decide, rfl⟩ rfl (hM (84, 11, 91) (by decide)) ?_
  refine wp_steps 4 (t' := (46, [some (.ref 84), some (.int 16), some (.int (nI p)), some (.int v)], [.int 6, .int (nI p), .ref 91], (HD, mi, ml, mr))) rfl ?_
  refine wp_cal (as := [.int (nI p), .int 6]) rfl rfl rfl (Nat.le_of_ble_eq_true rfl) ((c_rat_n (p := p) (s := 6))) (by decide) ?_
  rintro _ _ ⟨rfl, rfl⟩
  show aWP _ _ (47, [some (.ref 84), some (.int 16), some (.int (nI p)), some (.int v)], [.int (nI (10 * p + 6)), .ref 91], (HD, mi, ml, mr)) _
  refine wp_steps 1 (t' := (48, [some (.ref 84), some (.int 16), some (.int (nI p)), some (.int v)], [.int v, .int (nI (10 * p + 6)), .ref 91], (HD, mi, ml, mr))) rfl ?_
  refine wp_iast rfl ⟨by decide, rfl⟩ (aix_nI (by omega) (by decide)) (fun m_6 h_7 => ?_)
  subst h_7
  rw [nI_clamp (n := 10 * p + 6) (by omega)]
  refine wp_steps 1 (t' := (62, [some (.ref 84), some (.int 16), some (.int (nI p)), some (.int v)], [], (HD, (aup mi 91 (10 * p + 6) v), ml, mr))) rfl ?_
  refine wp_ret rfl rfl ⟨⟨Nat.le_refl _, Nat.le_refl _⟩, ?_⟩
  exact ⟨rfl, rfl⟩
set_option maxRecDepth 20000 in
set_option maxHeartbeats 1000000 in
theorem r_lays_17 {X : aXt × Value} {mi : Nat → Nat → Int32} {ml : Nat → Nat → Int64} {mr : Nat → Nat → Option Nat} (hM : MRok mr) {p : Nat} (hp5 : p < 5) {v : Int32} : aCW X 2 121 [.ref 84, .int 17, .int (nI p), .int v] (HD, mi, ml, mr) (fun r h' => r = none ∧ h' = (HD, aup mi 91 (10 * p + 7) v, ml, mr)) := by
  refine cw_of (cd := cd_X7_lays) (nL := 4) rfl rfl ?_
  show aWP _ _ (0, [some (.ref 84), some (.int 17), some (.int (nI p)), some (.int v)], [], (HD, mi, ml, mr)) _
  refine wp_steps 1 (t' := (1, [some (.ref 84), some (.int 17), some (.int (nI p)), some (.int v)], [.int 17], (HD, mi, ml, mr))) rfl ?_
  refine wp_bI rfl (fun c_1 => ?_) (fun c_1 => ?_)
  rotate_left
  · have c_1 : (17 : Int32) = 0 := Decidable.not_not.mp (of_decide_eq_false c_1)
    exact absurd c_1 (by decide)
  have c_1 : ¬ (17 : Int32) = 0 := of_decide_eq_true c_1
  refine wp_steps 2 (t' := (8, [some (.ref 84), some (.int 17), some (.int (nI p)), some (.int v)], [.int 1, .int 17], (HD, mi, ml, mr))) rfl ?_
  refine wp_bC rfl (fun c_2 => ?_) (fun c_2 => ?_)
  rotate_left
  · have c_2 : (17 : Int32) = 1 := Decidable.not_not.mp (of_decide_eq_false c_2)
    exact absurd c_2 (by decide)
  have c_2 : ¬ (17 : Int32) = 1 := of_decide_eq_true c_2
  refine wp_steps 2 (t' := (17, [some (.ref 84), some (.int 17), some (.int (nI p)), some (.int v)], [.int 2, .int 17], (HD, mi, ml, mr))) rfl ?_
  refine wp_bC rfl (fun c_3 => ?_) (fun c_3 => ?_)
  rotate_left
  · have c_3 : (17 : Int32) = 2 := Decidable.not_not.mp (of_decide_eq_false c_3)
    exact absurd c_3 (by decide)
  have c_3 : ¬ (17 : Int32) = 2 := of_decide_eq_true c_3
  refine wp_steps 2 (t' := (26, [some (.ref 84), some (.int 17), some (.int (nI p)), some (.int v)], [.int 5, .int 17], (HD, mi, ml, mr))) rfl ?_
  refine wp_bC rfl (fun c_4 => ?_) (fun c_4 => ?_)
  rotate_left
  · have c_4 : ¬ (5 ≤ (17 : Int32)) := of_decide_eq_false c_4
    exact absurd c_4 (by decide)
  have c_4 : 5 ≤ (17 : Int32) := of_decide_eq_true c_4
  refine wp_steps 2 (t' := (39, [some (.ref 84), some (.int 17), some (.int (nI p)), some (.int v)], [.int 9, .int 17], (HD, mi, ml, mr))) rfl ?_
  refine wp_bC rfl (fun c_5 => ?_) (fun c_5 => ?_)
  · have c_5 : (17 : Int32) ≤ 9 := of_decide_eq_true c_5
    exact absurd c_5 (by decide)
  have c_5 : ¬ ((17 : Int32) ≤ 9) := of_decide_eq_false c_5
  refine wp_steps 1 (t' := (41, [some (.ref 84), some (.int 17), some (.int (nI p)), some (.int v)], [.ref 84], (HD, mi, ml, mr))) rfl ?_
  refine wp_getr rfl ⟨by decide, rfl⟩ rfl (hM (84, 11, 91) (by decide)) ?_
  refine wp_steps 4 (t' := (46, [some (.ref 84), some (.int 17), some (.int (nI p)), some (.int v)], [.int 7, .int (nI p), .ref 91], (HD, mi, ml, mr))) rfl ?_
  refine wp_cal (as := [.int (nI p), .int 7]) rfl rfl rfl (Nat.le_of_ble_eq_true rfl) ((c_rat_n (p := p) (s := 7))) (by decide) ?_
  rintro _ _ ⟨rfl, rfl⟩
  show aWP _ _ (47, [some (.ref 84), some (.int 17), some (.int (nI p)), some (.int v)], [.int (nI (10 * p + 7)), .ref 91], (HD, mi, ml, mr)) _
  refine wp_steps 1 (t' := (48, [some (.ref 84), some (.int 17), some (.int (nI p)), some (.int v)], [.int v, .int (nI (10 * p + 7)), .ref 91], (HD, mi, ml, mr))) rfl ?_
  refine wp_iast rfl ⟨by decide, rfl⟩ (aix_nI (by omega) (by decide)) (fun m_6 h_7 => ?_)
  subst h_7
  rw [nI_clamp (n := 10 * p + 7) (by omega)]
  refine wp_steps 1 (t' := (62, [some (.ref 84), some (.int 17), some (.int (nI p)), some (.int v)], [], (HD, (aup mi 91 (10 * p + 7) v), ml, mr))) rfl ?_
  refine wp_ret rfl rfl ⟨⟨Nat.le_refl _, Nat.le_refl _⟩, ?_⟩
  exact ⟨rfl, rfl⟩
set_option maxRecDepth 20000 in
set_option maxHeartbeats 1000000 in
theorem r_set_0 {X : aXt × Value} {mi : Nat → Nat → Int32} {ml : Nat → Nat → Int64} {mr : Nat → Nat → Option Nat} (hM : MRok mr) {of v : Int32} : aCW X 49 120 [.ref 84, .int 0, .int of, .int v] (HD, mi, ml, mr) (fun r h' => r = some (.int (if inR 0 999 v then mi 84 7 else -2)) ∧ ∃ m' w', h' = (HD, if inR 0 999 v then aup m' 84 7 v else m', w', mr) ∧ frQ mi m') := by
  refine cw_of (cd := cd_X7_set) (nL := 5) rfl rfl ?_
  show aWP _ _ (0, [some (.ref 84), some (.int 0), some (.int of), some (.int v), none], [], (HD, mi, ml, mr)) _
  refine wp_steps 4 (t' := (4, [some (.ref 84), some (.int 0), some (.int of), some (.int v), none], [.long 4, .long 0, .long ((0 : Int32).toInt64)], (HD, mi, ml, mr))) rfl ?_
  refine wp_cal (as := [.long ((0 : Int32).toInt64), .long 0, .long 4]) rfl rfl rfl (Nat.le_of_ble_eq_true rfl) ((c_in (x := 0) (lo := 0) (hi := 4) (by decide) (by decide) (by decide))) (by decide) ?_
  rintro _ _ ⟨rfl, rfl⟩
  rw [if_pos (by decide)]
  show aWP _ _ (5, [some (.ref 84), some (.int 0), some (.int of), some (.int v), none], [.int 1], (HD, mi, ml, mr)) _
  refine wp_bI rfl (fun c_1 => ?_) (fun c_1 => ?_)
  rotate_left
  · have c_1 : (1 : Int32) = 0 := Decidable.not_not.mp (of_decide_eq_false c_1)
    exact absurd c_1 (by decide)
  have c_1 : ¬ (1 : Int32) = 0 := of_decide_eq_true c_1
  refine wp_steps 3 (t' := (15, [some (.ref 84), some (.int 0), some (.int of), some (.int v), none], [.int of, .int 0, .ref 84], (HD, mi, ml, mr))) rfl ?_
  refine wp_calv (as := [.int 0, .int of]) rfl rfl rfl (Nat.le_of_ble_eq_true rfl) ⟨by decide, rfl⟩ ((c_isOf_0 (ml := ml))) (by decide) ?_
  rintro _ _ ⟨rfl, rfl⟩
  show aWP _ _ (16, [some (.ref 84), some (.int 0), some (.int of), some (.int v), none], [.int 1], (HD, mi, ml, mr)) _
  refine wp_bI rfl (fun c_2 => ?_) (fun c_2 => ?_)
  · have c_2 : (1 : Int32) = 0 := of_decide_eq_true c_2
    exact absurd c_2 (by decide)
  have c_2 : ¬ ((1 : Int32) = 0) := of_decide_eq_false c_2
  refine wp_steps 4 (t' := (21, [some (.ref 84), some (.int 0), some (.int of), some (.int v), none], [.int 0, .long 0, .long v.toInt64], (HD, mi, ml, mr))) rfl ?_
  refine wp_cal (as := [.int 0]) rfl rfl rfl (Nat.le_of_ble_eq_true rfl) ((c_rmost_0 (mi := mi) (ml := ml) (mr := mr))) (by decide) ?_
  rintro _ _ ⟨rfl, rfl⟩
  show aWP _ _ (22, [some (.ref 84), some (.int 0), some (.int of), some (.int v), none], [.int 999, .long 0, .long v.toInt64], (HD, mi, ml, mr)) _
  refine wp_steps 1 (t' := (23, [some (.ref 84), some (.int 0), some (.int of), some (.int v), none], [.long ((999 : Int32).toInt64), .long 0, .long v.toInt64], (HD, mi, ml, mr))) rfl ?_
  refine wp_cal (as := [.long v.toInt64, .long 0, .long ((999 : Int32).toInt64)]) rfl rfl rfl (Nat.le_of_ble_eq_true rfl) ((c_in (x := v) (lo := 0) (hi := 999) rfl (by decide) rfl)) (by decide) ?_
  rintro _ _ ⟨rfl, rfl⟩
  show aWP _ _ (24, [some (.ref 84), some (.int 0), some (.int of), some (.int v), none], [.int (if inR 0 999 v then (1 : Int32) else 0)], (HD, mi, ml, mr)) _
  refine wp_bI rfl (fun c_3 => ?_) (fun c_3 => ?_)
  · have c_3 : ¬ (if inR 0 999 v then (1 : Int32) else 0) = 0 := of_decide_eq_true c_3
    refine wp_steps 3 (t' := (30, [some (.ref 84), some (.int 0), some (.int of), some (.int v), none], [.int 0, .int of, .ref 84], (HD, mi, ml, mr))) rfl ?_
    refine wp_calv (as := [.int of, .int 0]) rfl rfl rfl (Nat.le_of_ble_eq_true rfl) ⟨by decide, rfl⟩ ((q_told_0 (ml := ml) hM)) (by decide) ?_
    rintro _ _ ⟨rfl, m_1, w_1, rfl, f1⟩
    show aWP _ _ (31, [some (.ref 84), some (.int 0), some (.int of), some (.int v), none], [.int (mi 84 7)], (HD, m_1, w_1, mr)) _
    refine wp_steps 5 (t' := (36, [some (.ref 84), some (.int 0), some (.int of), some (.int v), some (.int (mi 84 7))], [.int v, .int of, .int 0, .ref 84], (HD, m_1, w_1, mr))) rfl ?_
    refine wp_calv (as := [.int 0, .int of, .int v]) rfl rfl rfl (Nat.le_of_ble_eq_true rfl) ⟨by decide, rfl⟩ ((r_lays_0 (mi := m_1) (ml := w_1) hM)) (by decide) ?_
    rintro _ _ ⟨rfl, rfl⟩
    show aWP _ _ (37, [some (.ref 84), some (.int 0), some (.int of), some (.int v), some (.int (mi 84 7))], [], (HD, (aup m_1 84 7 v), w_1, mr)) _
    refine wp_steps 1 (t' := (38, [some (.ref 84), some (.int 0), some (.int of), some (.int v), some (.int (mi 84 7))], [.int (mi 84 7)], (HD, (aup m_1 84 7 v), w_1, mr))) rfl ?_
    refine wp_ret rfl rfl ⟨⟨Nat.le_refl _, Nat.le_refl _⟩, ?_⟩
    exact ⟨by rw [if_pos (show inR 0 999 v from (i0_t c_3))], m_1, w_1, by rw [if_pos (show inR 0 999 v from (i0_t c_3))], f1⟩
  · have c_3 : (if inR 0 999 v then (1 : Int32) else 0) = 0 := Decidable.not_not.mp (of_decide_eq_false c_3)
    refine wp_steps 1 (t' := (26, [some (.ref 84), some (.int 0), some (.int of), some (.int v), none], [.int (-2)], (HD, mi, ml, mr))) rfl ?_
    refine wp_ret rfl rfl ⟨⟨Nat.le_refl _, Nat.le_refl _⟩, ?_⟩
    exact ⟨by rw [if_neg (show ¬ (inR 0 999 v) from fun z => (i0_f c_3) z)], mi, ml, by rw [if_neg (show ¬ (inR 0 999 v) from fun z => (i0_f c_3) z)], frQ.rf mi⟩
set_option maxRecDepth 20000 in
set_option maxHeartbeats 1000000 in
theorem r_set_2p {X : aXt × Value} {mi : Nat → Nat → Int32} {ml : Nat → Nat → Int64} {mr : Nat → Nat → Option Nat} (hM : MRok mr) {N : Nat} (hN : mi 84 12 = nI N) (hN5 : N ≤ 5) {c0 c1 c2 : List Int32} (hR : RUX mi c0 c1 c2) {p : Nat} (hpN : p < N) (hok : okU (puR mi p)) {v : Int32} : aCW X 49 120 [.ref 84, .int 2, .int (nI p), .int v] (HD, mi, ml, mr) (fun r h' => r = some (.int (if inR 0 9 v then toG (twR mi c0 c1 c2) (puR mi p) 2 else -2)) ∧ ∃ m' w', h' = (HD, if inR 0 9 v then aup m' 90 p v else m', w', mr) ∧ frQ mi m') := by
  refine cw_of (cd := cd_X7_set) (nL := 5) rfl rfl ?_
  show aWP _ _ (0, [some (.ref 84), some (.int 2), some (.int (nI p)), some (.int v), none], [], (HD, mi, ml, mr)) _
  refine wp_steps 4 (t' := (4, [some (.ref 84), some (.int 2), some (.int (nI p)), some (.int v), none], [.long 4, .long 0, .long ((2 : Int32).toInt64)], (HD, mi, ml, mr))) rfl ?_
  refine wp_cal (as := [.long ((2 : Int32).toInt64), .long 0, .long 4]) rfl rfl rfl (Nat.le_of_ble_eq_true rfl) ((c_in (x := 2) (lo := 0) (hi := 4) (by decide) (by decide) (by decide))) (by decide) ?_
  rintro _ _ ⟨rfl, rfl⟩
  rw [if_pos (by decide)]
  show aWP _ _ (5, [some (.ref 84), some (.int 2), some (.int (nI p)), some (.int v), none], [.int 1], (HD, mi, ml, mr)) _
  refine wp_bI rfl (fun c_1 => ?_) (fun c_1 => ?_)
  rotate_left
  · have c_1 : (1 : Int32) = 0 := Decidable.not_not.mp (of_decide_eq_false c_1)
    exact absurd c_1 (by decide)
  have c_1 : ¬ (1 : Int32) = 0 := of_decide_eq_true c_1
  refine wp_steps 3 (t' := (15, [some (.ref 84), some (.int 2), some (.int (nI p)), some (.int v), none], [.int (nI p), .int 2, .ref 84], (HD, mi, ml, mr))) rfl ?_
  refine wp_calv (as := [.int 2, .int (nI p)]) rfl rfl rfl (Nat.le_of_ble_eq_true rfl) ⟨by decide, rfl⟩ ((c_isOf_p (ml := ml) hM hN hN5 hpN (by decide))) (by decide) ?_
  rintro _ _ ⟨rfl, rfl⟩
  show aWP _ _ (16, [some (.ref 84), some (.int 2), some (.int (nI p)), some (.int v), none], [.int 1], (HD, mi, ml, mr)) _
  refine wp_bI rfl (fun c_2 => ?_) (fun c_2 => ?_)
  · have c_2 : (1 : Int32) = 0 := of_decide_eq_true c_2
    exact absurd c_2 (by decide)
  have c_2 : ¬ ((1 : Int32) = 0) := of_decide_eq_false c_2
  refine wp_steps 4 (t' := (21, [some (.ref 84), some (.int 2), some (.int (nI p)), some (.int v), none], [.int 2, .long 0, .long v.toInt64], (HD, mi, ml, mr))) rfl ?_
  refine wp_cal (as := [.int 2]) rfl rfl rfl (Nat.le_of_ble_eq_true rfl) ((c_rmost_2 (mi := mi) (ml := ml) (mr := mr))) (by decide) ?_
  rintro _ _ ⟨rfl, rfl⟩
  show aWP _ _ (22, [some (.ref 84), some (.int 2), some (.int (nI p)), some (.int v), none], [.int 9, .long 0, .long v.toInt64], (HD, mi, ml, mr)) _
  refine wp_steps 1 (t' := (23, [some (.ref 84), some (.int 2), some (.int (nI p)), some (.int v), none], [.long ((9 : Int32).toInt64), .long 0, .long v.toInt64], (HD, mi, ml, mr))) rfl ?_
  refine wp_cal (as := [.long v.toInt64, .long 0, .long ((9 : Int32).toInt64)]) rfl rfl rfl (Nat.le_of_ble_eq_true rfl) ((c_in (x := v) (lo := 0) (hi := 9) rfl (by decide) rfl)) (by decide) ?_
  rintro _ _ ⟨rfl, rfl⟩
  show aWP _ _ (24, [some (.ref 84), some (.int 2), some (.int (nI p)), some (.int v), none], [.int (if inR 0 9 v then (1 : Int32) else 0)], (HD, mi, ml, mr)) _
  refine wp_bI rfl (fun c_3 => ?_) (fun c_3 => ?_)
  · have c_3 : ¬ (if inR 0 9 v then (1 : Int32) else 0) = 0 := of_decide_eq_true c_3
    refine wp_steps 3 (t' := (30, [some (.ref 84), some (.int 2), some (.int (nI p)), some (.int v), none], [.int 2, .int (nI p), .ref 84], (HD, mi, ml, mr))) rfl ?_
    refine wp_calv (as := [.int (nI p), .int 2]) rfl rfl rfl (Nat.le_of_ble_eq_true rfl) ⟨by decide, rfl⟩ ((q_told_2p (ml := ml) hM hN hN5 hR hpN hok)) (by decide) ?_
    rintro _ _ ⟨rfl, m_1, w_1, rfl, f1⟩
    show aWP _ _ (31, [some (.ref 84), some (.int 2), some (.int (nI p)), some (.int v), none], [.int (toG (twR mi c0 c1 c2) (puR mi p) 2)], (HD, m_1, w_1, mr)) _
    refine wp_steps 5 (t' := (36, [some (.ref 84), some (.int 2), some (.int (nI p)), some (.int v), some (.int (toG (twR mi c0 c1 c2) (puR mi p) 2))], [.int v, .int (nI p), .int 2, .ref 84], (HD, m_1, w_1, mr))) rfl ?_
    refine wp_calv (as := [.int 2, .int (nI p), .int v]) rfl rfl rfl (Nat.le_of_ble_eq_true rfl) ⟨by decide, rfl⟩ ((r_lays_2 (mi := m_1) (ml := w_1) hM (show p < 5 by omega))) (by decide) ?_
    rintro _ _ ⟨rfl, rfl⟩
    show aWP _ _ (37, [some (.ref 84), some (.int 2), some (.int (nI p)), some (.int v), some (.int (toG (twR mi c0 c1 c2) (puR mi p) 2))], [], (HD, (aup m_1 90 p v), w_1, mr)) _
    refine wp_steps 1 (t' := (38, [some (.ref 84), some (.int 2), some (.int (nI p)), some (.int v), some (.int (toG (twR mi c0 c1 c2) (puR mi p) 2))], [.int (toG (twR mi c0 c1 c2) (puR mi p) 2)], (HD, (aup m_1 90 p v), w_1, mr))) rfl ?_
    refine wp_ret rfl rfl ⟨⟨Nat.le_refl _, Nat.le_refl _⟩, ?_⟩
    exact ⟨by rw [if_pos (show inR 0 9 v from (i0_t c_3))], m_1, w_1, by rw [if_pos (show inR 0 9 v from (i0_t c_3))], f1⟩
  · have c_3 : (if inR 0 9 v then (1 : Int32) else 0) = 0 := Decidable.not_not.mp (of_decide_eq_false c_3)
    refine wp_steps 1 (t' := (26, [some (.ref 84), some (.int 2), some (.int (nI p)), some (.int v), none], [.int (-2)], (HD, mi, ml, mr))) rfl ?_
    refine wp_ret rfl rfl ⟨⟨Nat.le_refl _, Nat.le_refl _⟩, ?_⟩
    exact ⟨by rw [if_neg (show ¬ (inR 0 9 v) from fun z => (i0_f c_3) z)], mi, ml, by rw [if_neg (show ¬ (inR 0 9 v) from fun z => (i0_f c_3) z)], frQ.rf mi⟩
set_option maxRecDepth 20000 in
set_option maxHeartbeats 1000000 in
theorem r_set_3p {X : aXt × Value} {mi : Nat → Nat → Int32} {ml : Nat → Nat → Int64} {mr : Nat → Nat → Option Nat} (hM : MRok mr) {N : Nat} (hN : mi 84 12 = nI N) (hN5 : N ≤ 5) {c0 c1 c2 : List Int32} (hR : RUX mi c0 c1 c2) {p : Nat} (hpN : p < N) (hok : okU (puR mi p)) {v : Int32} : aCW X 49 120 [.ref 84, .int 3, .int (nI p), .int v] (HD, mi, ml, mr) (fun r h' => r = some (.int (if inR 0 99 v then toG (twR mi c0 c1 c2) (puR mi p) 3 else -2)) ∧ ∃ m' w', h' = (HD, if inR 0 99 v then aup m' 91 (10 * p + 8) v else m', w', mr) ∧ frQ mi m') := by
  refine cw_of (cd := cd_X7_set) (nL := 5) rfl rfl ?_
  show aWP _ _ (0, [some (.ref 84), some (.int 3), some (.int (nI p)), some (.int v), none], [], (HD, mi, ml, mr)) _
  refine wp_steps 4 (t' := (4, [some (.ref 84), some (.int 3), some (.int (nI p)), some (.int v), none], [.long 4, .long 0, .long ((3 : Int32).toInt64)], (HD, mi, ml, mr))) rfl ?_
  refine wp_cal (as := [.long ((3 : Int32).toInt64), .long 0, .long 4]) rfl rfl rfl (Nat.le_of_ble_eq_true rfl) ((c_in (x := 3) (lo := 0) (hi := 4) (by decide) (by decide) (by decide))) (by decide) ?_
  rintro _ _ ⟨rfl, rfl⟩
  rw [if_pos (by decide)]
  show aWP _ _ (5, [some (.ref 84), some (.int 3), some (.int (nI p)), some (.int v), none], [.int 1], (HD, mi, ml, mr)) _
  refine wp_bI rfl (fun c_1 => ?_) (fun c_1 => ?_)
  rotate_left
  · have c_1 : (1 : Int32) = 0 := Decidable.not_not.mp (of_decide_eq_false c_1)
    exact absurd c_1 (by decide)
  have c_1 : ¬ (1 : Int32) = 0 := of_decide_eq_true c_1
  refine wp_steps 3 (t' := (15, [some (.ref 84), some (.int 3), some (.int (nI p)), some (.int v), none], [.int (nI p), .int 3, .ref 84], (HD, mi, ml, mr))) rfl ?_
  refine wp_calv (as := [.int 3, .int (nI p)]) rfl rfl rfl (Nat.le_of_ble_eq_true rfl) ⟨by decide, rfl⟩ ((c_isOf_p (ml := ml) hM hN hN5 hpN (by decide))) (by decide) ?_
  rintro _ _ ⟨rfl, rfl⟩
  show aWP _ _ (16, [some (.ref 84), some (.int 3), some (.int (nI p)), some (.int v), none], [.int 1], (HD, mi, ml, mr)) _
  refine wp_bI rfl (fun c_2 => ?_) (fun c_2 => ?_)
  · have c_2 : (1 : Int32) = 0 := of_decide_eq_true c_2
    exact absurd c_2 (by decide)
  have c_2 : ¬ ((1 : Int32) = 0) := of_decide_eq_false c_2
  refine wp_steps 4 (t' := (21, [some (.ref 84), some (.int 3), some (.int (nI p)), some (.int v), none], [.int 3, .long 0, .long v.toInt64], (HD, mi, ml, mr))) rfl ?_
  refine wp_cal (as := [.int 3]) rfl rfl rfl (Nat.le_of_ble_eq_true rfl) ((c_rmost_3 (mi := mi) (ml := ml) (mr := mr))) (by decide) ?_
  rintro _ _ ⟨rfl, rfl⟩
  show aWP _ _ (22, [some (.ref 84), some (.int 3), some (.int (nI p)), some (.int v), none], [.int 99, .long 0, .long v.toInt64], (HD, mi, ml, mr)) _
  refine wp_steps 1 (t' := (23, [some (.ref 84), some (.int 3), some (.int (nI p)), some (.int v), none], [.long ((99 : Int32).toInt64), .long 0, .long v.toInt64], (HD, mi, ml, mr))) rfl ?_
  refine wp_cal (as := [.long v.toInt64, .long 0, .long ((99 : Int32).toInt64)]) rfl rfl rfl (Nat.le_of_ble_eq_true rfl) ((c_in (x := v) (lo := 0) (hi := 99) rfl (by decide) rfl)) (by decide) ?_
  rintro _ _ ⟨rfl, rfl⟩
  show aWP _ _ (24, [some (.ref 84), some (.int 3), some (.int (nI p)), some (.int v), none], [.int (if inR 0 99 v then (1 : Int32) else 0)], (HD, mi, ml, mr)) _
  refine wp_bI rfl (fun c_3 => ?_) (fun c_3 => ?_)
  · have c_3 : ¬ (if inR 0 99 v then (1 : Int32) else 0) = 0 := of_decide_eq_true c_3
    refine wp_steps 3 (t' := (30, [some (.ref 84), some (.int 3), some (.int (nI p)), some (.int v), none], [.int 3, .int (nI p), .ref 84], (HD, mi, ml, mr))) rfl ?_
    refine wp_calv (as := [.int (nI p), .int 3]) rfl rfl rfl (Nat.le_of_ble_eq_true rfl) ⟨by decide, rfl⟩ ((q_told_3p (ml := ml) hM hN hN5 hR hpN hok)) (by decide) ?_
    rintro _ _ ⟨rfl, m_1, w_1, rfl, f1⟩
    show aWP _ _ (31, [some (.ref 84), some (.int 3), some (.int (nI p)), some (.int v), none], [.int (toG (twR mi c0 c1 c2) (puR mi p) 3)], (HD, m_1, w_1, mr)) _
    refine wp_steps 5 (t' := (36, [some (.ref 84), some (.int 3), some (.int (nI p)), some (.int v), some (.int (toG (twR mi c0 c1 c2) (puR mi p) 3))], [.int v, .int (nI p), .int 3, .ref 84], (HD, m_1, w_1, mr))) rfl ?_
    refine wp_calv (as := [.int 3, .int (nI p), .int v]) rfl rfl rfl (Nat.le_of_ble_eq_true rfl) ⟨by decide, rfl⟩ ((r_lays_3 (mi := m_1) (ml := w_1) hM (show p < 5 by omega))) (by decide) ?_
    rintro _ _ ⟨rfl, rfl⟩
    show aWP _ _ (37, [some (.ref 84), some (.int 3), some (.int (nI p)), some (.int v), some (.int (toG (twR mi c0 c1 c2) (puR mi p) 3))], [], (HD, (aup m_1 91 (10 * p + 8) v), w_1, mr)) _
    refine wp_steps 1 (t' := (38, [some (.ref 84), some (.int 3), some (.int (nI p)), some (.int v), some (.int (toG (twR mi c0 c1 c2) (puR mi p) 3))], [.int (toG (twR mi c0 c1 c2) (puR mi p) 3)], (HD, (aup m_1 91 (10 * p + 8) v), w_1, mr))) rfl ?_
    refine wp_ret rfl rfl ⟨⟨Nat.le_refl _, Nat.le_refl _⟩, ?_⟩
    exact ⟨by rw [if_pos (show inR 0 99 v from (i0_t c_3))], m_1, w_1, by rw [if_pos (show inR 0 99 v from (i0_t c_3))], f1⟩
  · have c_3 : (if inR 0 99 v then (1 : Int32) else 0) = 0 := Decidable.not_not.mp (of_decide_eq_false c_3)
    refine wp_steps 1 (t' := (26, [some (.ref 84), some (.int 3), some (.int (nI p)), some (.int v), none], [.int (-2)], (HD, mi, ml, mr))) rfl ?_
    refine wp_ret rfl rfl ⟨⟨Nat.le_refl _, Nat.le_refl _⟩, ?_⟩
    exact ⟨by rw [if_neg (show ¬ (inR 0 99 v) from fun z => (i0_f c_3) z)], mi, ml, by rw [if_neg (show ¬ (inR 0 99 v) from fun z => (i0_f c_3) z)], frQ.rf mi⟩
set_option maxRecDepth 20000 in
set_option maxHeartbeats 1000000 in
theorem r_set_4p {X : aXt × Value} {mi : Nat → Nat → Int32} {ml : Nat → Nat → Int64} {mr : Nat → Nat → Option Nat} (hM : MRok mr) {N : Nat} (hN : mi 84 12 = nI N) (hN5 : N ≤ 5) {c0 c1 c2 : List Int32} (hR : RUX mi c0 c1 c2) {p : Nat} (hpN : p < N) (hok : okU (puR mi p)) {v : Int32} : aCW X 49 120 [.ref 84, .int 4, .int (nI p), .int v] (HD, mi, ml, mr) (fun r h' => r = some (.int (if inR 0 999 v then toG (twR mi c0 c1 c2) (puR mi p) 4 else -2)) ∧ ∃ m' w', h' = (HD, if inR 0 999 v then aup m' 91 (10 * p + 9) v else m', w', mr) ∧ frQ mi m') := by
  refine cw_of (cd := cd_X7_set) (nL := 5) rfl rfl ?_
  show aWP _ _ (0, [some (.ref 84), some (.int 4), some (.int (nI p)), some (.int v), none], [], (HD, mi, ml, mr)) _
  refine wp_steps 4 (t' := (4, [some (.ref 84), some (.int 4), some (.int (nI p)), some (.int v), none], [.long 4, .long 0, .long ((4 : Int32).toInt64)], (HD, mi, ml, mr))) rfl ?_
  refine wp_cal (as := [.long ((4 : Int32).toInt64), .long 0, .long 4]) rfl rfl rfl (Nat.le_of_ble_eq_true rfl) ((c_in (x := 4) (lo := 0) (hi := 4) (by decide) (by decide) (by decide))) (by decide) ?_
  rintro _ _ ⟨rfl, rfl⟩
  rw [if_pos (by decide)]
  show aWP _ _ (5, [some (.ref 84), some (.int 4), some (.int (nI p)), some (.int v), none], [.int 1], (HD, mi, ml, mr)) _
  refine wp_bI rfl (fun c_1 => ?_) (fun c_1 => ?_)
  rotate_left
  · have c_1 : (1 : Int32) = 0 := Decidable.not_not.mp (of_decide_eq_false c_1)
    exact absurd c_1 (by decide)
  have c_1 : ¬ (1 : Int32) = 0 := of_decide_eq_true c_1
  refine wp_steps 3 (t' := (15, [some (.ref 84), some (.int 4), some (.int (nI p)), some (.int v), none], [.int (nI p), .int 4, .ref 84], (HD, mi, ml, mr))) rfl ?_
  refine wp_calv (as := [.int 4, .int (nI p)]) rfl rfl rfl (Nat.le_of_ble_eq_true rfl) ⟨by decide, rfl⟩ ((c_isOf_p (ml := ml) hM hN hN5 hpN (by decide))) (by decide) ?_
  rintro _ _ ⟨rfl, rfl⟩
  show aWP _ _ (16, [some (.ref 84), some (.int 4), some (.int (nI p)), some (.int v), none], [.int 1], (HD, mi, ml, mr)) _
  refine wp_bI rfl (fun c_2 => ?_) (fun c_2 => ?_)
  · have c_2 : (1 : Int32) = 0 := of_decide_eq_true c_2
    exact absurd c_2 (by decide)
  have c_2 : ¬ ((1 : Int32) = 0) := of_decide_eq_false c_2
  refine wp_steps 4 (t' := (21, [some (.ref 84), some (.int 4), some (.int (nI p)), some (.int v), none], [.int 4, .long 0, .long v.toInt64], (HD, mi, ml, mr))) rfl ?_
  refine wp_cal (as := [.int 4]) rfl rfl rfl (Nat.le_of_ble_eq_true rfl) ((c_rmost_4 (mi := mi) (ml := ml) (mr := mr))) (by decide) ?_
  rintro _ _ ⟨rfl, rfl⟩
  show aWP _ _ (22, [some (.ref 84), some (.int 4), some (.int (nI p)), some (.int v), none], [.int 999, .long 0, .long v.toInt64], (HD, mi, ml, mr)) _
  refine wp_steps 1 (t' := (23, [some (.ref 84), some (.int 4), some (.int (nI p)), some (.int v), none], [.long ((999 : Int32).toInt64), .long 0, .long v.toInt64], (HD, mi, ml, mr))) rfl ?_
  refine wp_cal (as := [.long v.toInt64, .long 0, .long ((999 : Int32).toInt64)]) rfl rfl rfl (Nat.le_of_ble_eq_true rfl) ((c_in (x := v) (lo := 0) (hi := 999) rfl (by decide) rfl)) (by decide) ?_
  rintro _ _ ⟨rfl, rfl⟩
  show aWP _ _ (24, [some (.ref 84), some (.int 4), some (.int (nI p)), some (.int v), none], [.int (if inR 0 999 v then (1 : Int32) else 0)], (HD, mi, ml, mr)) _
  refine wp_bI rfl (fun c_3 => ?_) (fun c_3 => ?_)
  · have c_3 : ¬ (if inR 0 999 v then (1 : Int32) else 0) = 0 := of_decide_eq_true c_3
    refine wp_steps 3 (t' := (30, [some (.ref 84), some (.int 4), some (.int (nI p)), some (.int v), none], [.int 4, .int (nI p), .ref 84], (HD, mi, ml, mr))) rfl ?_
    refine wp_calv (as := [.int (nI p), .int 4]) rfl rfl rfl (Nat.le_of_ble_eq_true rfl) ⟨by decide, rfl⟩ ((q_told_4p (ml := ml) hM hN hN5 hR hpN hok)) (by decide) ?_
    rintro _ _ ⟨rfl, m_1, w_1, rfl, f1⟩
    show aWP _ _ (31, [some (.ref 84), some (.int 4), some (.int (nI p)), some (.int v), none], [.int (toG (twR mi c0 c1 c2) (puR mi p) 4)], (HD, m_1, w_1, mr)) _
    refine wp_steps 5 (t' := (36, [some (.ref 84), some (.int 4), some (.int (nI p)), some (.int v), some (.int (toG (twR mi c0 c1 c2) (puR mi p) 4))], [.int v, .int (nI p), .int 4, .ref 84], (HD, m_1, w_1, mr))) rfl ?_
    refine wp_calv (as := [.int 4, .int (nI p), .int v]) rfl rfl rfl (Nat.le_of_ble_eq_true rfl) ⟨by decide, rfl⟩ ((r_lays_4 (mi := m_1) (ml := w_1) hM (show p < 5 by omega))) (by decide) ?_
    rintro _ _ ⟨rfl, rfl⟩
    show aWP _ _ (37, [some (.ref 84), some (.int 4), some (.int (nI p)), some (.int v), some (.int (toG (twR mi c0 c1 c2) (puR mi p) 4))], [], (HD, (aup m_1 91 (10 * p + 9) v), w_1, mr)) _
    refine wp_steps 1 (t' := (38, [some (.ref 84), some (.int 4), some (.int (nI p)), some (.int v), some (.int (toG (twR mi c0 c1 c2) (puR mi p) 4))], [.int (toG (twR mi c0 c1 c2) (puR mi p) 4)], (HD, (aup m_1 91 (10 * p + 9) v), w_1, mr))) rfl ?_
    refine wp_ret rfl rfl ⟨⟨Nat.le_refl _, Nat.le_refl _⟩, ?_⟩
    exact ⟨by rw [if_pos (show inR 0 999 v from (i0_t c_3))], m_1, w_1, by rw [if_pos (show inR 0 999 v from (i0_t c_3))], f1⟩
  · have c_3 : (if inR 0 999 v then (1 : Int32) else 0) = 0 := Decidable.not_not.mp (of_decide_eq_false c_3)
    refine wp_steps 1 (t' := (26, [some (.ref 84), some (.int 4), some (.int (nI p)), some (.int v), none], [.int (-2)], (HD, mi, ml, mr))) rfl ?_
    refine wp_ret rfl rfl ⟨⟨Nat.le_refl _, Nat.le_refl _⟩, ?_⟩
    exact ⟨by rw [if_neg (show ¬ (inR 0 999 v) from fun z => (i0_f c_3) z)], mi, ml, by rw [if_neg (show ¬ (inR 0 999 v) from fun z => (i0_f c_3) z)], frQ.rf mi⟩
set_option maxRecDepth 20000 in
set_option maxHeartbeats 1000000 in
theorem r_set_10p {X : aXt × Value} {mi : Nat → Nat → Int32} {ml : Nat → Nat → Int64} {mr : Nat → Nat → Option Nat} (hM : MRok mr) {N : Nat} (hN : mi 84 12 = nI N) (hN5 : N ≤ 5) {c0 c1 c2 : List Int32} (hR : RUX mi c0 c1 c2) {p : Nat} (hpN : p < N) (hok : okU (puR mi p)) {v : Int32} : aCW X 49 120 [.ref 84, .int 10, .int (nI p), .int v] (HD, mi, ml, mr) (fun r h' => r = some (.int (if inR 0 99 v then toG (twR mi c0 c1 c2) (puR mi p) 10 else -2)) ∧ ∃ m' w', h' = (HD, if inR 0 99 v then aup m' 91 (10 * p + 0) v else m', w', mr) ∧ frQ mi m') := by
  refine cw_of (cd := cd_X7_set) (nL := 5) rfl rfl ?_
  show aWP _ _ (0, [some (.ref 84), some (.int 10), some (.int (nI p)), some (.int v), none], [], (HD, mi, ml, mr)) _
  refine wp_steps 4 (t' := (4, [some (.ref 84), some (.int 10), some (.int (nI p)), some (.int v), none], [.long 4, .long 0, .long ((10 : Int32).toInt64)], (HD, mi, ml, mr))) rfl ?_
  refine wp_cal (as := [.long ((10 : Int32).toInt64), .long 0, .long 4]) rfl rfl rfl (Nat.le_of_ble_eq_true rfl) ((c_in (x := 10) (lo := 0) (hi := 4) (by decide) (by decide) (by decide))) (by decide) ?_
  rintro _ _ ⟨rfl, rfl⟩
  rw [if_neg (by decide)]
  show aWP _ _ (5, [some (.ref 84), some (.int 10), some (.int (nI p)), some (.int v), none], [.int 0], (HD, mi, ml, mr)) _
  refine wp_bI rfl (fun c_1 => ?_) (fun c_1 => ?_)
  · have c_1 : ¬ (0 : Int32) = 0 := of_decide_eq_true c_1
    exact absurd c_1 (by decide)
  have c_1 : (0 : Int32) = 0 := Decidable.not_not.mp (of_decide_eq_false c_1)
  refine wp_steps 4 (t' := (10, [some (.ref 84), some (.int 10), some (.int (nI p)), some (.int v), none], [.long 17, .long 10, .long ((10 : Int32).toInt64)], (HD, mi, ml, mr))) rfl ?_
  refine wp_cal (as := [.long ((10 : Int32).toInt64), .long 10, .long 17]) rfl rfl rfl (Nat.le_of_ble_eq_true rfl) ((c_in (x := 10) (lo := 10) (hi := 17) (by decide) (by decide) (by decide))) (by decide) ?_
  rintro _ _ ⟨rfl, rfl⟩
  rw [if_pos (by decide)]
  show aWP _ _ (11, [some (.ref 84), some (.int 10), some (.int (nI p)), some (.int v), none], [.int 1], (HD, mi, ml, mr)) _
  refine wp_bI rfl (fun c_2 => ?_) (fun c_2 => ?_)
  · have c_2 : (1 : Int32) = 0 := of_decide_eq_true c_2
    exact absurd c_2 (by decide)
  have c_2 : ¬ ((1 : Int32) = 0) := of_decide_eq_false c_2
  refine wp_steps 3 (t' := (15, [some (.ref 84), some (.int 10), some (.int (nI p)), some (.int v), none], [.int (nI p), .int 10, .ref 84], (HD, mi, ml, mr))) rfl ?_
  refine wp_calv (as := [.int 10, .int (nI p)]) rfl rfl rfl (Nat.le_of_ble_eq_true rfl) ⟨by decide, rfl⟩ ((c_isOf_p (ml := ml) hM hN hN5 hpN (by decide))) (by decide) ?_
  rintro _ _ ⟨rfl, rfl⟩
  show aWP _ _ (16, [some (.ref 84), some (.int 10), some (.int (nI p)), some (.int v), none], [.int 1], (HD, mi, ml, mr)) _
  refine wp_bI rfl (fun c_3 => ?_) (fun c_3 => ?_)
  · have c_3 : (1 : Int32) = 0 := of_decide_eq_true c_3
    exact absurd c_3 (by decide)
  have c_3 : ¬ ((1 : Int32) = 0) := of_decide_eq_false c_3
  refine wp_steps 4 (t' := (21, [some (.ref 84), some (.int 10), some (.int (nI p)), some (.int v), none], [.int 10, .long 0, .long v.toInt64], (HD, mi, ml, mr))) rfl ?_
  refine wp_cal (as := [.int 10]) rfl rfl rfl (Nat.le_of_ble_eq_true rfl) ((c_rmost_10 (mi := mi) (ml := ml) (mr := mr))) (by decide) ?_
  rintro _ _ ⟨rfl, rfl⟩
  show aWP _ _ (22, [some (.ref 84), some (.int 10), some (.int (nI p)), some (.int v), none], [.int 99, .long 0, .long v.toInt64], (HD, mi, ml, mr)) _
  refine wp_steps 1 (t' := (23, [some (.ref 84), some (.int 10), some (.int (nI p)), some (.int v), none], [.long ((99 : Int32).toInt64), .long 0, .long v.toInt64], (HD, mi, ml, mr))) rfl ?_
  refine wp_cal (as := [.long v.toInt64, .long 0, .long ((99 : Int32).toInt64)]) rfl rfl rfl (Nat.le_of_ble_eq_true rfl) ((c_in (x := v) (lo := 0) (hi := 99) rfl (by decide) rfl)) (by decide) ?_
  rintro _ _ ⟨rfl, rfl⟩
  show aWP _ _ (24, [some (.ref 84), some (.int 10), some (.int (nI p)), some (.int v), none], [.int (if inR 0 99 v then (1 : Int32) else 0)], (HD, mi, ml, mr)) _
  refine wp_bI rfl (fun c_4 => ?_) (fun c_4 => ?_)
  · have c_4 : ¬ (if inR 0 99 v then (1 : Int32) else 0) = 0 := of_decide_eq_true c_4
    refine wp_steps 3 (t' := (30, [some (.ref 84), some (.int 10), some (.int (nI p)), some (.int v), none], [.int 10, .int (nI p), .ref 84], (HD, mi, ml, mr))) rfl ?_
    refine wp_calv (as := [.int (nI p), .int 10]) rfl rfl rfl (Nat.le_of_ble_eq_true rfl) ⟨by decide, rfl⟩ ((q_told_10p (ml := ml) hM hN hN5 hR hpN hok)) (by decide) ?_
    rintro _ _ ⟨rfl, m_1, w_1, rfl, f1⟩
    show aWP _ _ (31, [some (.ref 84), some (.int 10), some (.int (nI p)), some (.int v), none], [.int (toG (twR mi c0 c1 c2) (puR mi p) 10)], (HD, m_1, w_1, mr)) _
    refine wp_steps 5 (t' := (36, [some (.ref 84), some (.int 10), some (.int (nI p)), some (.int v), some (.int (toG (twR mi c0 c1 c2) (puR mi p) 10))], [.int v, .int (nI p), .int 10, .ref 84], (HD, m_1, w_1, mr))) rfl ?_
    refine wp_calv (as := [.int 10, .int (nI p), .int v]) rfl rfl rfl (Nat.le_of_ble_eq_true rfl) ⟨by decide, rfl⟩ ((r_lays_10 (mi := m_1) (ml := w_1) hM (show p < 5 by omega))) (by decide) ?_
    rintro _ _ ⟨rfl, rfl⟩
    show aWP _ _ (37, [some (.ref 84), some (.int 10), some (.int (nI p)), some (.int v), some (.int (toG (twR mi c0 c1 c2) (puR mi p) 10))], [], (HD, (aup m_1 91 (10 * p + 0) v), w_1, mr)) _
    refine wp_steps 1 (t' := (38, [some (.ref 84), some (.int 10), some (.int (nI p)), some (.int v), some (.int (toG (twR mi c0 c1 c2) (puR mi p) 10))], [.int (toG (twR mi c0 c1 c2) (puR mi p) 10)], (HD, (aup m_1 91 (10 * p + 0) v), w_1, mr))) rfl ?_
    refine wp_ret rfl rfl ⟨⟨Nat.le_refl _, Nat.le_refl _⟩, ?_⟩
    exact ⟨by rw [if_pos (show inR 0 99 v from (i0_t c_4))], m_1, w_1, by rw [if_pos (show inR 0 99 v from (i0_t c_4))], f1⟩
  · have c_4 : (if inR 0 99 v then (1 : Int32) else 0) = 0 := Decidable.not_not.mp (of_decide_eq_false c_4)
    refine wp_steps 1 (t' := (26, [some (.ref 84), some (.int 10), some (.int (nI p)), some (.int v), none], [.int (-2)], (HD, mi, ml, mr))) rfl ?_
    refine wp_ret rfl rfl ⟨⟨Nat.le_refl _, Nat.le_refl _⟩, ?_⟩
    exact ⟨by rw [if_neg (show ¬ (inR 0 99 v) from fun z => (i0_f c_4) z)], mi, ml, by rw [if_neg (show ¬ (inR 0 99 v) from fun z => (i0_f c_4) z)], frQ.rf mi⟩
set_option maxRecDepth 20000 in
set_option maxHeartbeats 1000000 in
theorem r_set_11p {X : aXt × Value} {mi : Nat → Nat → Int32} {ml : Nat → Nat → Int64} {mr : Nat → Nat → Option Nat} (hM : MRok mr) {N : Nat} (hN : mi 84 12 = nI N) (hN5 : N ≤ 5) {c0 c1 c2 : List Int32} (hR : RUX mi c0 c1 c2) {p : Nat} (hpN : p < N) (hok : okU (puR mi p)) {v : Int32} : aCW X 49 120 [.ref 84, .int 11, .int (nI p), .int v] (HD, mi, ml, mr) (fun r h' => r = some (.int (if inR 0 99 v then toG (twR mi c0 c1 c2) (puR mi p) 11 else -2)) ∧ ∃ m' w', h' = (HD, if inR 0 99 v then aup m' 91 (10 * p + 1) v else m', w', mr) ∧ frQ mi m') := by
  refine cw_of (cd := cd_X7_set) (nL := 5) rfl rfl ?_
  show aWP _ _ (0, [some (.ref 84), some (.int 11), some (.int (nI p)), some (.int v), none], [], (HD, mi, ml, mr)) _
  refine wp_steps 4 (t' := (4, [some (.ref 84), some (.int 11), some (.int (nI p)), some (.int v), none], [.long 4, .long 0, .long ((11 : Int32).toInt64)], (HD, mi, ml, mr))) rfl ?_
  refine wp_cal (as := [.long ((11 : Int32).toInt64), .long 0, .long 4]) rfl rfl rfl (Nat.le_of_ble_eq_true rfl) ((c_in (x := 11) (lo := 0) (hi := 4) (by decide) (by decide) (by decide))) (by decide) ?_
  rintro _ _ ⟨rfl, rfl⟩
  rw [if_neg (by decide)]
  show aWP _ _ (5, [some (.ref 84), some (.int 11), some (.int (nI p)), some (.int v), none], [.int 0], (HD, mi, ml, mr)) _
  refine wp_bI rfl (fun c_1 => ?_) (fun c_1 => ?_)
  · have c_1 : ¬ (0 : Int32) = 0 := of_decide_eq_true c_1
    exact absurd c_1 (by decide)
  have c_1 : (0 : Int32) = 0 := Decidable.not_not.mp (of_decide_eq_false c_1)
  refine wp_steps 4 (t' := (10, [some (.ref 84), some (.int 11), some (.int (nI p)), some (.int v), none], [.long 17, .long 10, .long ((11 : Int32).toInt64)], (HD, mi, ml, mr))) rfl ?_
  refine wp_cal (as := [.long ((11 : Int32).toInt64), .long 10, .long 17]) rfl rfl rfl (Nat.le_of_ble_eq_true rfl) ((c_in (x := 11) (lo := 10) (hi := 17) (by decide) (by decide) (by decide))) (by decide) ?_
  rintro _ _ ⟨rfl, rfl⟩
  rw [if_pos (by decide)]
  show aWP _ _ (11, [some (.ref 84), some (.int 11), some (.int (nI p)), some (.int v), none], [.int 1], (HD, mi, ml, mr)) _
  refine wp_bI rfl (fun c_2 => ?_) (fun c_2 => ?_)
  · have c_2 : (1 : Int32) = 0 := of_decide_eq_true c_2
    exact absurd c_2 (by decide)
  have c_2 : ¬ ((1 : Int32) = 0) := of_decide_eq_false c_2
  refine wp_steps 3 (t' := (15, [some (.ref 84), some (.int 11), some (.int (nI p)), some (.int v), none], [.int (nI p), .int 11, .ref 84], (HD, mi, ml, mr))) rfl ?_
  refine wp_calv (as := [.int 11, .int (nI p)]) rfl rfl rfl (Nat.le_of_ble_eq_true rfl) ⟨by decide, rfl⟩ ((c_isOf_p (ml := ml) hM hN hN5 hpN (by decide))) (by decide) ?_
  rintro _ _ ⟨rfl, rfl⟩
  show aWP _ _ (16, [some (.ref 84), some (.int 11), some (.int (nI p)), some (.int v), none], [.int 1], (HD, mi, ml, mr)) _
  refine wp_bI rfl (fun c_3 => ?_) (fun c_3 => ?_)
  · have c_3 : (1 : Int32) = 0 := of_decide_eq_true c_3
    exact absurd c_3 (by decide)
  have c_3 : ¬ ((1 : Int32) = 0) := of_decide_eq_false c_3
  refine wp_steps 4 (t' := (21, [some (.ref 84), some (.int 11), some (.int (nI p)), some (.int v), none], [.int 11, .long 0, .long v.toInt64], (HD, mi, ml, mr))) rfl ?_
  refine wp_cal (as := [.int 11]) rfl rfl rfl (Nat.le_of_ble_eq_true rfl) ((c_rmost_11 (mi := mi) (ml := ml) (mr := mr))) (by decide) ?_
  rintro _ _ ⟨rfl, rfl⟩
  show aWP _ _ (22, [some (.ref 84), some (.int 11), some (.int (nI p)), some (.int v), none], [.int 99, .long 0, .long v.toInt64], (HD, mi, ml, mr)) _
  refine wp_steps 1 (t' := (23, [some (.ref 84), some (.int 11), some (.int (nI p)), some (.int v), none], [.long ((99 : Int32).toInt64), .long 0, .long v.toInt64], (HD, mi, ml, mr))) rfl ?_
  refine wp_cal (as := [.long v.toInt64, .long 0, .long ((99 : Int32).toInt64)]) rfl rfl rfl (Nat.le_of_ble_eq_true rfl) ((c_in (x := v) (lo := 0) (hi := 99) rfl (by decide) rfl)) (by decide) ?_
  rintro _ _ ⟨rfl, rfl⟩
  show aWP _ _ (24, [some (.ref 84), some (.int 11), some (.int (nI p)), some (.int v), none], [.int (if inR 0 99 v then (1 : Int32) else 0)], (HD, mi, ml, mr)) _
  refine wp_bI rfl (fun c_4 => ?_) (fun c_4 => ?_)
  · have c_4 : ¬ (if inR 0 99 v then (1 : Int32) else 0) = 0 := of_decide_eq_true c_4
    refine wp_steps 3 (t' := (30, [some (.ref 84), some (.int 11), some (.int (nI p)), some (.int v), none], [.int 11, .int (nI p), .ref 84], (HD, mi, ml, mr))) rfl ?_
    refine wp_calv (as := [.int (nI p), .int 11]) rfl rfl rfl (Nat.le_of_ble_eq_true rfl) ⟨by decide, rfl⟩ ((q_told_11p (ml := ml) hM hN hN5 hR hpN hok)) (by decide) ?_
    rintro _ _ ⟨rfl, m_1, w_1, rfl, f1⟩
    show aWP _ _ (31, [some (.ref 84), some (.int 11), some (.int (nI p)), some (.int v), none], [.int (toG (twR mi c0 c1 c2) (puR mi p) 11)], (HD, m_1, w_1, mr)) _
    refine wp_steps 5 (t' := (36, [some (.ref 84), some (.int 11), some (.int (nI p)), some (.int v), some (.int (toG (twR mi c0 c1 c2) (puR mi p) 11))], [.int v, .int (nI p), .int 11, .ref 84], (HD, m_1, w_1, mr))) rfl ?_
    refine wp_calv (as := [.int 11, .int (nI p), .int v]) rfl rfl rfl (Nat.le_of_ble_eq_true rfl) ⟨by decide, rfl⟩ ((r_lays_11 (mi := m_1) (ml := w_1) hM (show p < 5 by omega))) (by decide) ?_
    rintro _ _ ⟨rfl, rfl⟩
    show aWP _ _ (37, [some (.ref 84), some (.int 11), some (.int (nI p)), some (.int v), some (.int (toG (twR mi c0 c1 c2) (puR mi p) 11))], [], (HD, (aup m_1 91 (10 * p + 1) v), w_1, mr)) _
    refine wp_steps 1 (t' := (38, [some (.ref 84), some (.int 11), some (.int (nI p)), some (.int v), some (.int (toG (twR mi c0 c1 c2) (puR mi p) 11))], [.int (toG (twR mi c0 c1 c2) (puR mi p) 11)], (HD, (aup m_1 91 (10 * p + 1) v), w_1, mr))) rfl ?_
    refine wp_ret rfl rfl ⟨⟨Nat.le_refl _, Nat.le_refl _⟩, ?_⟩
    exact ⟨by rw [if_pos (show inR 0 99 v from (i0_t c_4))], m_1, w_1, by rw [if_pos (show inR 0 99 v from (i0_t c_4))], f1⟩
  · have c_4 : (if inR 0 99 v then (1 : Int32) else 0) = 0 := Decidable.not_not.mp (of_decide_eq_false c_4)
    refine wp_steps 1 (t' := (26, [some (.ref 84), some (.int 11), some (.int (nI p)), some (.int v), none], [.int (-2)], (HD, mi, ml, mr))) rfl ?_
    refine wp_ret rfl rfl ⟨⟨Nat.le_refl _, Nat.le_refl _⟩, ?_⟩
    exact ⟨by rw [if_neg (show ¬ (inR 0 99 v) from fun z => (i0_f c_4) z)], mi, ml, by rw [if_neg (show ¬ (inR 0 99 v) from fun z => (i0_f c_4) z)], frQ.rf mi⟩
set_option maxRecDepth 20000 in
set_option maxHeartbeats 1000000 in
theorem r_set_12p {X : aXt × Value} {mi : Nat → Nat → Int32} {ml : Nat → Nat → Int64} {mr : Nat → Nat → Option Nat} (hM : MRok mr) {N : Nat} (hN : mi 84 12 = nI N) (hN5 : N ≤ 5) {c0 c1 c2 : List Int32} (hR : RUX mi c0 c1 c2) {p : Nat} (hpN : p < N) (hok : okU (puR mi p)) {v : Int32} : aCW X 49 120 [.ref 84, .int 12, .int (nI p), .int v] (HD, mi, ml, mr) (fun r h' => r = some (.int (if inR 0 99 v then toG (twR mi c0 c1 c2) (puR mi p) 12 else -2)) ∧ ∃ m' w', h' = (HD, if inR 0 99 v then aup m' 91 (10 * p + 2) v else m', w', mr) ∧ frQ mi m') := by
  refine cw_of (cd := cd_X7_set) (nL := 5) rfl rfl ?_
  show aWP _ _ (0, [some (.ref 84), some (.int 12), some (.int (nI p)), some (.int v), none], [], (HD, mi, ml, mr)) _
  refine wp_steps 4 (t' := (4, [some (.ref 84), some (.int 12), some (.int (nI p)), some (.int v), none], [.long 4, .long 0, .long ((12 : Int32).toInt64)], (HD, mi, ml, mr))) rfl ?_
  refine wp_cal (as := [.long ((12 : Int32).toInt64), .long 0, .long 4]) rfl rfl rfl (Nat.le_of_ble_eq_true rfl) ((c_in (x := 12) (lo := 0) (hi := 4) (by decide) (by decide) (by decide))) (by decide) ?_
  rintro _ _ ⟨rfl, rfl⟩
  rw [if_neg (by decide)]
  show aWP _ _ (5, [some (.ref 84), some (.int 12), some (.int (nI p)), some (.int v), none], [.int 0], (HD, mi, ml, mr)) _
  refine wp_bI rfl (fun c_1 => ?_) (fun c_1 => ?_)
  · have c_1 : ¬ (0 : Int32) = 0 := of_decide_eq_true c_1
    exact absurd c_1 (by decide)
  have c_1 : (0 : Int32) = 0 := Decidable.not_not.mp (of_decide_eq_false c_1)
  refine wp_steps 4 (t' := (10, [some (.ref 84), some (.int 12), some (.int (nI p)), some (.int v), none], [.long 17, .long 10, .long ((12 : Int32).toInt64)], (HD, mi, ml, mr))) rfl ?_
  refine wp_cal (as := [.long ((12 : Int32).toInt64), .long 10, .long 17]) rfl rfl rfl (Nat.le_of_ble_eq_true rfl) ((c_in (x := 12) (lo := 10) (hi := 17) (by decide) (by decide) (by decide))) (by decide) ?_
  rintro _ _ ⟨rfl, rfl⟩
  rw [if_pos (by decide)]
  show aWP _ _ (11, [some (.ref 84), some (.int 12), some (.int (nI p)), some (.int v), none], [.int 1], (HD, mi, ml, mr)) _
  refine wp_bI rfl (fun c_2 => ?_) (fun c_2 => ?_)
  · have c_2 : (1 : Int32) = 0 := of_decide_eq_true c_2
    exact absurd c_2 (by decide)
  have c_2 : ¬ ((1 : Int32) = 0) := of_decide_eq_false c_2
  refine wp_steps 3 (t' := (15, [some (.ref 84), some (.int 12), some (.int (nI p)), some (.int v), none], [.int (nI p), .int 12, .ref 84], (HD, mi, ml, mr))) rfl ?_
  refine wp_calv (as := [.int 12, .int (nI p)]) rfl rfl rfl (Nat.le_of_ble_eq_true rfl) ⟨by decide, rfl⟩ ((c_isOf_p (ml := ml) hM hN hN5 hpN (by decide))) (by decide) ?_
  rintro _ _ ⟨rfl, rfl⟩
  show aWP _ _ (16, [some (.ref 84), some (.int 12), some (.int (nI p)), some (.int v), none], [.int 1], (HD, mi, ml, mr)) _
  refine wp_bI rfl (fun c_3 => ?_) (fun c_3 => ?_)
  · have c_3 : (1 : Int32) = 0 := of_decide_eq_true c_3
    exact absurd c_3 (by decide)
  have c_3 : ¬ ((1 : Int32) = 0) := of_decide_eq_false c_3
  refine wp_steps 4 (t' := (21, [some (.ref 84), some (.int 12), some (.int (nI p)), some (.int v), none], [.int 12, .long 0, .long v.toInt64], (HD, mi, ml, mr))) rfl ?_
  refine wp_cal (as := [.int 12]) rfl rfl rfl (Nat.le_of_ble_eq_true rfl) ((c_rmost_12 (mi := mi) (ml := ml) (mr := mr))) (by decide) ?_
  rintro _ _ ⟨rfl, rfl⟩
  show aWP _ _ (22, [some (.ref 84), some (.int 12), some (.int (nI p)), some (.int v), none], [.int 99, .long 0, .long v.toInt64], (HD, mi, ml, mr)) _
  refine wp_steps 1 (t' := (23, [some (.ref 84), some (.int 12), some (.int (nI p)), some (.int v), none], [.long ((99 : Int32).toInt64), .long 0, .long v.toInt64], (HD, mi, ml, mr))) rfl ?_
  refine wp_cal (as := [.long v.toInt64, .long 0, .long ((99 : Int32).toInt64)]) rfl rfl rfl (Nat.le_of_ble_eq_true rfl) ((c_in (x := v) (lo := 0) (hi := 99) rfl (by decide) rfl)) (by decide) ?_
  rintro _ _ ⟨rfl, rfl⟩
  show aWP _ _ (24, [some (.ref 84), some (.int 12), some (.int (nI p)), some (.int v), none], [.int (if inR 0 99 v then (1 : Int32) else 0)], (HD, mi, ml, mr)) _
  refine wp_bI rfl (fun c_4 => ?_) (fun c_4 => ?_)
  · have c_4 : ¬ (if inR 0 99 v then (1 : Int32) else 0) = 0 := of_decide_eq_true c_4
    refine wp_steps 3 (t' := (30, [some (.ref 84), some (.int 12), some (.int (nI p)), some (.int v), none], [.int 12, .int (nI p), .ref 84], (HD, mi, ml, mr))) rfl ?_
    refine wp_calv (as := [.int (nI p), .int 12]) rfl rfl rfl (Nat.le_of_ble_eq_true rfl) ⟨by decide, rfl⟩ ((q_told_12p (ml := ml) hM hN hN5 hR hpN hok)) (by decide) ?_
    rintro _ _ ⟨rfl, m_1, w_1, rfl, f1⟩
    show aWP _ _ (31, [some (.ref 84), some (.int 12), some (.int (nI p)), some (.int v), none], [.int (toG (twR mi c0 c1 c2) (puR mi p) 12)], (HD, m_1, w_1, mr)) _
    refine wp_steps 5 (t' := (36, [some (.ref 84), some (.int 12), some (.int (nI p)), some (.int v), some (.int (toG (twR mi c0 c1 c2) (puR mi p) 12))], [.int v, .int (nI p), .int 12, .ref 84], (HD, m_1, w_1, mr))) rfl ?_
    refine wp_calv (as := [.int 12, .int (nI p), .int v]) rfl rfl rfl (Nat.le_of_ble_eq_true rfl) ⟨by decide, rfl⟩ ((r_lays_12 (mi := m_1) (ml := w_1) hM (show p < 5 by omega))) (by decide) ?_
    rintro _ _ ⟨rfl, rfl⟩
    show aWP _ _ (37, [some (.ref 84), some (.int 12), some (.int (nI p)), some (.int v), some (.int (toG (twR mi c0 c1 c2) (puR mi p) 12))], [], (HD, (aup m_1 91 (10 * p + 2) v), w_1, mr)) _
    refine wp_steps 1 (t' := (38, [some (.ref 84), some (.int 12), some (.int (nI p)), some (.int v), some (.int (toG (twR mi c0 c1 c2) (puR mi p) 12))], [.int (toG (twR mi c0 c1 c2) (puR mi p) 12)], (HD, (aup m_1 91 (10 * p + 2) v), w_1, mr))) rfl ?_
    refine wp_ret rfl rfl ⟨⟨Nat.le_refl _, Nat.le_refl _⟩, ?_⟩
    exact ⟨by rw [if_pos (show inR 0 99 v from (i0_t c_4))], m_1, w_1, by rw [if_pos (show inR 0 99 v from (i0_t c_4))], f1⟩
  · have c_4 : (if inR 0 99 v then (1 : Int32) else 0) = 0 := Decidable.not_not.mp (of_decide_eq_false c_4)
    refine wp_steps 1 (t' := (26, [some (.ref 84), some (.int 12), some (.int (nI p)), some (.int v), none], [.int (-2)], (HD, mi, ml, mr))) rfl ?_
    refine wp_ret rfl rfl ⟨⟨Nat.le_refl _, Nat.le_refl _⟩, ?_⟩
    exact ⟨by rw [if_neg (show ¬ (inR 0 99 v) from fun z => (i0_f c_4) z)], mi, ml, by rw [if_neg (show ¬ (inR 0 99 v) from fun z => (i0_f c_4) z)], frQ.rf mi⟩
set_option maxRecDepth 20000 in
set_option maxHeartbeats 1000000 in
theorem r_set_13p {X : aXt × Value} {mi : Nat → Nat → Int32} {ml : Nat → Nat → Int64} {mr : Nat → Nat → Option Nat} (hM : MRok mr) {N : Nat} (hN : mi 84 12 = nI N) (hN5 : N ≤ 5) {c0 c1 c2 : List Int32} (hR : RUX mi c0 c1 c2) {p : Nat} (hpN : p < N) (hok : okU (puR mi p)) {v : Int32} : aCW X 49 120 [.ref 84, .int 13, .int (nI p), .int v] (HD, mi, ml, mr) (fun r h' => r = some (.int (if inR 0 99 v then toG (twR mi c0 c1 c2) (puR mi p) 13 else -2)) ∧ ∃ m' w', h' = (HD, if inR 0 99 v then aup m' 91 (10 * p + 3) v else m', w', mr) ∧ frQ mi m') := by
  refine cw_of (cd := cd_X7_set) (nL := 5) rfl rfl ?_
  show aWP _ _ (0, [some (.ref 84), some (.int 13), some (.int (nI p)), some (.int v), none], [], (HD, mi, ml, mr)) _
  refine wp_steps 4 (t' := (4, [some (.ref 84), some (.int 13), some (.int (nI p)), some (.int v), none], [.long 4, .long 0, .long ((13 : Int32).toInt64)], (HD, mi, ml, mr))) rfl ?_
  refine wp_cal (as := [.long ((13 : Int32).toInt64), .long 0, .long 4]) rfl rfl rfl (Nat.le_of_ble_eq_true rfl) ((c_in (x := 13) (lo := 0) (hi := 4) (by decide) (by decide) (by decide))) (by decide) ?_
  rintro _ _ ⟨rfl, rfl⟩
  rw [if_neg (by decide)]
  show aWP _ _ (5, [some (.ref 84), some (.int 13), some (.int (nI p)), some (.int v), none], [.int 0], (HD, mi, ml, mr)) _
  refine wp_bI rfl (fun c_1 => ?_) (fun c_1 => ?_)
  · have c_1 : ¬ (0 : Int32) = 0 := of_decide_eq_true c_1
    exact absurd c_1 (by decide)
  have c_1 : (0 : Int32) = 0 := Decidable.not_not.mp (of_decide_eq_false c_1)
  refine wp_steps 4 (t' := (10, [some (.ref 84), some (.int 13), some (.int (nI p)), some (.int v), none], [.long 17, .long 10, .long ((13 : Int32).toInt64)], (HD, mi, ml, mr))) rfl ?_
  refine wp_cal (as := [.long ((13 : Int32).toInt64), .long 10, .long 17]) rfl rfl rfl (Nat.le_of_ble_eq_true rfl) ((c_in (x := 13) (lo := 10) (hi := 17) (by decide) (by decide) (by decide))) (by decide) ?_
  rintro _ _ ⟨rfl, rfl⟩
  rw [if_pos (by decide)]
  show aWP _ _ (11, [some (.ref 84), some (.int 13), some (.int (nI p)), some (.int v), none], [.int 1], (HD, mi, ml, mr)) _
  refine wp_bI rfl (fun c_2 => ?_) (fun c_2 => ?_)
  · have c_2 : (1 : Int32) = 0 := of_decide_eq_true c_2
    exact absurd c_2 (by decide)
  have c_2 : ¬ ((1 : Int32) = 0) := of_decide_eq_false c_2
  refine wp_steps 3 (t' := (15, [some (.ref 84), some (.int 13), some (.int (nI p)), some (.int v), none], [.int (nI p), .int 13, .ref 84], (HD, mi, ml, mr))) rfl ?_
  refine wp_calv (as := [.int 13, .int (nI p)]) rfl rfl rfl (Nat.le_of_ble_eq_true rfl) ⟨by decide, rfl⟩ ((c_isOf_p (ml := ml) hM hN hN5 hpN (by decide))) (by decide) ?_
  rintro _ _ ⟨rfl, rfl⟩
  show aWP _ _ (16, [some (.ref 84), some (.int 13), some (.int (nI p)), some (.int v), none], [.int 1], (HD, mi, ml, mr)) _
  refine wp_bI rfl (fun c_3 => ?_) (fun c_3 => ?_)
  · have c_3 : (1 : Int32) = 0 := of_decide_eq_true c_3
    exact absurd c_3 (by decide)
  have c_3 : ¬ ((1 : Int32) = 0) := of_decide_eq_false c_3
  refine wp_steps 4 (t' := (21, [some (.ref 84), some (.int 13), some (.int (nI p)), some (.int v), none], [.int 13, .long 0, .long v.toInt64], (HD, mi, ml, mr))) rfl ?_
  refine wp_cal (as := [.int 13]) rfl rfl rfl (Nat.le_of_ble_eq_true rfl) ((c_rmost_13 (mi := mi) (ml := ml) (mr := mr))) (by decide) ?_
  rintro _ _ ⟨rfl, rfl⟩
  show aWP _ _ (22, [some (.ref 84), some (.int 13), some (.int (nI p)), some (.int v), none], [.int 99, .long 0, .long v.toInt64], (HD, mi, ml, mr)) _
  refine wp_steps 1 (t' := (23, [some (.ref 84), some (.int 13), some (.int (nI p)), some (.int v), none], [.long ((99 : Int32).toInt64), .long 0, .long v.toInt64], (HD, mi, ml, mr))) rfl ?_
  refine wp_cal (as := [.long v.toInt64, .long 0, .long ((99 : Int32).toInt64)]) rfl rfl rfl (Nat.le_of_ble_eq_true rfl) ((c_in (x := v) (lo := 0) (hi := 99) rfl (by decide) rfl)) (by decide) ?_
  rintro _ _ ⟨rfl, rfl⟩
  show aWP _ _ (24, [some (.ref 84), some (.int 13), some (.int (nI p)), some (.int v), none], [.int (if inR 0 99 v then (1 : Int32) else 0)], (HD, mi, ml, mr)) _
  refine wp_bI rfl (fun c_4 => ?_) (fun c_4 => ?_)
  · have c_4 : ¬ (if inR 0 99 v then (1 : Int32) else 0) = 0 := of_decide_eq_true c_4
    refine wp_steps 3 (t' := (30, [some (.ref 84), some (.int 13), some (.int (nI p)), some (.int v), none], [.int 13, .int (nI p), .ref 84], (HD, mi, ml, mr))) rfl ?_
    refine wp_calv (as := [.int (nI p), .int 13]) rfl rfl rfl (Nat.le_of_ble_eq_true rfl) ⟨by decide, rfl⟩ ((q_told_13p (ml := ml) hM hN hN5 hR hpN hok)) (by decide) ?_
    rintro _ _ ⟨rfl, m_1, w_1, rfl, f1⟩
    show aWP _ _ (31, [some (.ref 84), some (.int 13), some (.int (nI p)), some (.int v), none], [.int (toG (twR mi c0 c1 c2) (puR mi p) 13)], (HD, m_1, w_1, mr)) _
    refine wp_steps 5 (t' := (36, [some (.ref 84), some (.int 13), some (.int (nI p)), some (.int v), some (.int (toG (twR mi c0 c1 c2) (puR mi p) 13))], [.int v, .int (nI p), .int 13, .ref 84], (HD, m_1, w_1, mr))) rfl ?_
    refine wp_calv (as := [.int 13, .int (nI p), .int v]) rfl rfl rfl (Nat.le_of_ble_eq_true rfl) ⟨by decide, rfl⟩ ((r_lays_13 (mi := m_1) (ml := w_1) hM (show p < 5 by omega))) (by decide) ?_
    rintro _ _ ⟨rfl, rfl⟩
    show aWP _ _ (37, [some (.ref 84), some (.int 13), some (.int (nI p)), some (.int v), some (.int (toG (twR mi c0 c1 c2) (puR mi p) 13))], [], (HD, (aup m_1 91 (10 * p + 3) v), w_1, mr)) _
    refine wp_steps 1 (t' := (38, [some (.ref 84), some (.int 13), some (.int (nI p)), some (.int v), some (.int (toG (twR mi c0 c1 c2) (puR mi p) 13))], [.int (toG (twR mi c0 c1 c2) (puR mi p) 13)], (HD, (aup m_1 91 (10 * p + 3) v), w_1, mr))) rfl ?_
    refine wp_ret rfl rfl ⟨⟨Nat.le_refl _, Nat.le_refl _⟩, ?_⟩
    exact ⟨by rw [if_pos (show inR 0 99 v from (i0_t c_4))], m_1, w_1, by rw [if_pos (show inR 0 99 v from (i0_t c_4))], f1⟩
  · have c_4 : (if inR 0 99 v then (1 : Int32) else 0) = 0 := Decidable.not_not.mp (of_decide_eq_false c_4)
    refine wp_steps 1 (t' := (26, [some (.ref 84), some (.int 13), some (.int (nI p)), some (.int v), none], [.int (-2)], (HD, mi, ml, mr))) rfl ?_
    refine wp_ret rfl rfl ⟨⟨Nat.le_refl _, Nat.le_refl _⟩, ?_⟩
    exact ⟨by rw [if_neg (show ¬ (inR 0 99 v) from fun z => (i0_f c_4) z)], mi, ml, by rw [if_neg (show ¬ (inR 0 99 v) from fun z => (i0_f c_4) z)], frQ.rf mi⟩
set_option maxRecDepth 20000 in
set_option maxHeartbeats 1000000 in
theorem r_set_14p {X : aXt × Value} {mi : Nat → Nat → Int32} {ml : Nat → Nat → Int64} {mr : Nat → Nat → Option Nat} (hM : MRok mr) {N : Nat} (hN : mi 84 12 = nI N) (hN5 : N ≤ 5) {c0 c1 c2 : List Int32} (hR : RUX mi c0 c1 c2) {p : Nat} (hpN : p < N) (hok : okU (puR mi p)) {v : Int32} : aCW X 49 120 [.ref 84, .int 14, .int (nI p), .int v] (HD, mi, ml, mr) (fun r h' => r = some (.int (if inR 0 99 v then toG (twR mi c0 c1 c2) (puR mi p) 14 else -2)) ∧ ∃ m' w', h' = (HD, if inR 0 99 v then aup m' 91 (10 * p + 4) v else m', w', mr) ∧ frQ mi m') := by
  refine cw_of (cd := cd_X7_set) (nL := 5) rfl rfl ?_
  show aWP _ _ (0, [some (.ref 84), some (.int 14), some (.int (nI p)), some (.int v), none], [], (HD, mi, ml, mr)) _
  refine wp_steps 4 (t' := (4, [some (.ref 84), some (.int 14), some (.int (nI p)), some (.int v), none], [.long 4, .long 0, .long ((14 : Int32).toInt64)], (HD, mi, ml, mr))) rfl ?_
  refine wp_cal (as := [.long ((14 : Int32).toInt64), .long 0, .long 4]) rfl rfl rfl (Nat.le_of_ble_eq_true rfl) ((c_in (x := 14) (lo := 0) (hi := 4) (by decide) (by decide) (by decide))) (by decide) ?_
  rintro _ _ ⟨rfl, rfl⟩
  rw [if_neg (by decide)]
  show aWP _ _ (5, [some (.ref 84), some (.int 14), some (.int (nI p)), some (.int v), none], [.int 0], (HD, mi, ml, mr)) _
  refine wp_bI rfl (fun c_1 => ?_) (fun c_1 => ?_)
  · have c_1 : ¬ (0 : Int32) = 0 := of_decide_eq_true c_1
    exact absurd c_1 (by decide)
  have c_1 : (0 : Int32) = 0 := Decidable.not_not.mp (of_decide_eq_false c_1)
  refine wp_steps 4 (t' := (10, [some (.ref 84), some (.int 14), some (.int (nI p)), some (.int v), none], [.long 17, .long 10, .long ((14 : Int32).toInt64)], (HD, mi, ml, mr))) rfl ?_
  refine wp_cal (as := [.long ((14 : Int32).toInt64), .long 10, .long 17]) rfl rfl rfl (Nat.le_of_ble_eq_true rfl) ((c_in (x := 14) (lo := 10) (hi := 17) (by decide) (by decide) (by decide))) (by decide) ?_
  rintro _ _ ⟨rfl, rfl⟩
  rw [if_pos (by decide)]
  show aWP _ _ (11, [some (.ref 84), some (.int 14), some (.int (nI p)), some (.int v), none], [.int 1], (HD, mi, ml, mr)) _
  refine wp_bI rfl (fun c_2 => ?_) (fun c_2 => ?_)
  · have c_2 : (1 : Int32) = 0 := of_decide_eq_true c_2
    exact absurd c_2 (by decide)
  have c_2 : ¬ ((1 : Int32) = 0) := of_decide_eq_false c_2
  refine wp_steps 3 (t' := (15, [some (.ref 84), some (.int 14), some (.int (nI p)), some (.int v), none], [.int (nI p), .int 14, .ref 84], (HD, mi, ml, mr))) rfl ?_
  refine wp_calv (as := [.int 14, .int (nI p)]) rfl rfl rfl (Nat.le_of_ble_eq_true rfl) ⟨by decide, rfl⟩ ((c_isOf_p (ml := ml) hM hN hN5 hpN (by decide))) (by decide) ?_
  rintro _ _ ⟨rfl, rfl⟩
  show aWP _ _ (16, [some (.ref 84), some (.int 14), some (.int (nI p)), some (.int v), none], [.int 1], (HD, mi, ml, mr)) _
  refine wp_bI rfl (fun c_3 => ?_) (fun c_3 => ?_)
  · have c_3 : (1 : Int32) = 0 := of_decide_eq_true c_3
    exact absurd c_3 (by decide)
  have c_3 : ¬ ((1 : Int32) = 0) := of_decide_eq_false c_3
  refine wp_steps 4 (t' := (21, [some (.ref 84), some (.int 14), some (.int (nI p)), some (.int v), none], [.int 14, .long 0, .long v.toInt64], (HD, mi, ml, mr))) rfl ?_
  refine wp_cal (as := [.int 14]) rfl rfl rfl (Nat.le_of_ble_eq_true rfl) ((c_rmost_14 (mi := mi) (ml := ml) (mr := mr))) (by decide) ?_
  rintro _ _ ⟨rfl, rfl⟩
  show aWP _ _ (22, [some (.ref 84), some (.int 14), some (.int (nI p)), some (.int v), none], [.int 99, .long 0, .long v.toInt64], (HD, mi, ml, mr)) _
  refine wp_steps 1 (t' := (23, [some (.ref 84), some (.int 14), some (.int (nI p)), some (.int v), none], [.long ((99 : Int32).toInt64), .long 0, .long v.toInt64], (HD, mi, ml, mr))) rfl ?_
  refine wp_cal (as := [.long v.toInt64, .long 0, .long ((99 : Int32).toInt64)]) rfl rfl rfl (Nat.le_of_ble_eq_true rfl) ((c_in (x := v) (lo := 0) (hi := 99) rfl (by decide) rfl)) (by decide) ?_
  rintro _ _ ⟨rfl, rfl⟩
  show aWP _ _ (24, [some (.ref 84), some (.int 14), some (.int (nI p)), some (.int v), none], [.int (if inR 0 99 v then (1 : Int32) else 0)], (HD, mi, ml, mr)) _
  refine wp_bI rfl (fun c_4 => ?_) (fun c_4 => ?_)
  · have c_4 : ¬ (if inR 0 99 v then (1 : Int32) else 0) = 0 := of_decide_eq_true c_4
    refine wp_steps 3 (t' := (30, [some (.ref 84), some (.int 14), some (.int (nI p)), some (.int v), none], [.int 14, .int (nI p), .ref 84], (HD, mi, ml, mr))) rfl ?_
    refine wp_calv (as := [.int (nI p), .int 14]) rfl rfl rfl (Nat.le_of_ble_eq_true rfl) ⟨by decide, rfl⟩ ((q_told_14p (ml := ml) hM hN hN5 hR hpN hok)) (by decide) ?_
    rintro _ _ ⟨rfl, m_1, w_1, rfl, f1⟩
    show aWP _ _ (31, [some (.ref 84), some (.int 14), some (.int (nI p)), some (.int v), none], [.int (toG (twR mi c0 c1 c2) (puR mi p) 14)], (HD, m_1, w_1, mr)) _
    refine wp_steps 5 (t' := (36, [some (.ref 84), some (.int 14), some (.int (nI p)), some (.int v), some (.int (toG (twR mi c0 c1 c2) (puR mi p) 14))], [.int v, .int (nI p), .int 14, .ref 84], (HD, m_1, w_1, mr))) rfl ?_
    refine wp_calv (as := [.int 14, .int (nI p), .int v]) rfl rfl rfl (Nat.le_of_ble_eq_true rfl) ⟨by decide, rfl⟩ ((r_lays_14 (mi := m_1) (ml := w_1) hM (show p < 5 by omega))) (by decide) ?_
    rintro _ _ ⟨rfl, rfl⟩
    show aWP _ _ (37, [some (.ref 84), some (.int 14), some (.int (nI p)), some (.int v), some (.int (toG (twR mi c0 c1 c2) (puR mi p) 14))], [], (HD, (aup m_1 91 (10 * p + 4) v), w_1, mr)) _
    refine wp_steps 1 (t' := (38, [some (.ref 84), some (.int 14), some (.int (nI p)), some (.int v), some (.int (toG (twR mi c0 c1 c2) (puR mi p) 14))], [.int (toG (twR mi c0 c1 c2) (puR mi p) 14)], (HD, (aup m_1 91 (10 * p + 4) v), w_1, mr))) rfl ?_
    refine wp_ret rfl rfl ⟨⟨Nat.le_refl _, Nat.le_refl _⟩, ?_⟩
    exact ⟨by rw [if_pos (show inR 0 99 v from (i0_t c_4))], m_1, w_1, by rw [if_pos (show inR 0 99 v from (i0_t c_4))], f1⟩
  · have c_4 : (if inR 0 99 v then (1 : Int32) else 0) = 0 := Decidable.not_not.mp (of_decide_eq_false c_4)
    refine wp_steps 1 (t' := (26, [some (.ref 84), some (.int 14), some (.int (nI p)), some (.int v), none], [.int (-2)], (HD, mi, ml, mr))) rfl ?_
    refine wp_ret rfl rfl ⟨⟨Nat.le_refl _, Nat.le_refl _⟩, ?_⟩
    exact ⟨by rw [if_neg (show ¬ (inR 0 99 v) from fun z => (i0_f c_4) z)], mi, ml, by rw [if_neg (show ¬ (inR 0 99 v) from fun z => (i0_f c_4) z)], frQ.rf mi⟩
set_option maxRecDepth 20000 in
set_option maxHeartbeats 1000000 in
theorem r_set_15p {X : aXt × Value} {mi : Nat → Nat → Int32} {ml : Nat → Nat → Int64} {mr : Nat → Nat → Option Nat} (hM : MRok mr) {N : Nat} (hN : mi 84 12 = nI N) (hN5 : N ≤ 5) {c0 c1 c2 : List Int32} (hR : RUX mi c0 c1 c2) {p : Nat} (hpN : p < N) (hok : okU (puR mi p)) {v : Int32} : aCW X 49 120 [.ref 84, .int 15, .int (nI p), .int v] (HD, mi, ml, mr) (fun r h' => r = some (.int (if inR 0 99 v then toG (twR mi c0 c1 c2) (puR mi p) 15 else -2)) ∧ ∃ m' w', h' = (HD, if inR 0 99 v then aup m' 91 (10 * p + 5) v else m', w', mr) ∧ frQ mi m') := by
  refine cw_of (cd := cd_X7_set) (nL := 5) rfl rfl ?_
  show aWP _ _ (0, [some (.ref 84), some (.int 15), some (.int (nI p)), some (.int v), none], [], (HD, mi, ml, mr)) _
  refine wp_steps 4 (t' := (4, [some (.ref 84), some (.int 15), some (.int (nI p)), some (.int v), none], [.long 4, .long 0, .long ((15 : Int32).toInt64)], (HD, mi, ml, mr))) rfl ?_
  refine wp_cal (as := [.long ((15 : Int32).toInt64), .long 0, .long 4]) rfl rfl rfl (Nat.le_of_ble_eq_true rfl) ((c_in (x := 15) (lo := 0) (hi := 4) (by decide) (by decide) (by decide))) (by decide) ?_
  rintro _ _ ⟨rfl, rfl⟩
  rw [if_neg (by decide)]
  show aWP _ _ (5, [some (.ref 84), some (.int 15), some (.int (nI p)), some (.int v), none], [.int 0], (HD, mi, ml, mr)) _
  refine wp_bI rfl (fun c_1 => ?_) (fun c_1 => ?_)
  · have c_1 : ¬ (0 : Int32) = 0 := of_decide_eq_true c_1
    exact absurd c_1 (by decide)
  have c_1 : (0 : Int32) = 0 := Decidable.not_not.mp (of_decide_eq_false c_1)
  refine wp_steps 4 (t' := (10, [some (.ref 84), some (.int 15), some (.int (nI p)), some (.int v), none], [.long 17, .long 10, .long ((15 : Int32).toInt64)], (HD, mi, ml, mr))) rfl ?_
  refine wp_cal (as := [.long ((15 : Int32).toInt64), .long 10, .long 17]) rfl rfl rfl (Nat.le_of_ble_eq_true rfl) ((c_in (x := 15) (lo := 10) (hi := 17) (by decide) (by decide) (by decide))) (by decide) ?_
  rintro _ _ ⟨rfl, rfl⟩
  rw [if_pos (by decide)]
  show aWP _ _ (11, [some (.ref 84), some (.int 15), some (.int (nI p)), some (.int v), none], [.int 1], (HD, mi, ml, mr)) _
  refine wp_bI rfl (fun c_2 => ?_) (fun c_2 => ?_)
  · have c_2 : (1 : Int32) = 0 := of_decide_eq_true c_2
    exact absurd c_2 (by decide)
  have c_2 : ¬ ((1 : Int32) = 0) := of_decide_eq_false c_2
  refine wp_steps 3 (t' := (15, [some (.ref 84), some (.int 15), some (.int (nI p)), some (.int v), none], [.int (nI p), .int 15, .ref 84], (HD, mi, ml, mr))) rfl ?_
  refine wp_calv (as := [.int 15, .int (nI p)]) rfl rfl rfl (Nat.le_of_ble_eq_true rfl) ⟨by decide, rfl⟩ ((c_isOf_p (ml := ml) hM hN hN5 hpN (by decide))) (by decide) ?_
  rintro _ _ ⟨rfl, rfl⟩
  show aWP _ _ (16, [some (.ref 84), some (.int 15), some (.int (nI p)), some (.int v), none], [.int 1], (HD, mi, ml, mr)) _
  refine wp_bI rfl (fun c_3 => ?_) (fun c_3 => ?_)
  · have c_3 : (1 : Int32) = 0 := of_decide_eq_true c_3
    exact absurd c_3 (by decide)
  have c_3 : ¬ ((1 : Int32) = 0) := of_decide_eq_false c_3
  refine wp_steps 4 (t' := (21, [some (.ref 84), some (.int 15), some (.int (nI p)), some (.int v), none], [.int 15, .long 0, .long v.toInt64], (HD, mi, ml, mr))) rfl ?_
  refine wp_cal (as := [.int 15]) rfl rfl rfl (Nat.le_of_ble_eq_true rfl) ((c_rmost_15 (mi := mi) (ml := ml) (mr := mr))) (by decide) ?_
  rintro _ _ ⟨rfl, rfl⟩
  show aWP _ _ (22, [some (.ref 84), some (.int 15), some (.int (nI p)), some (.int v), none], [.int 99, .long 0, .long v.toInt64], (HD, mi, ml, mr)) _
  refine wp_steps 1 (t' := (23, [some (.ref 84), some (.int 15), some (.int (nI p)), some (.int v), none], [.long ((99 : Int32).toInt64), .long 0, .long v.toInt64], (HD, mi, ml, mr))) rfl ?_
  refine wp_cal (as := [.long v.toInt64, .long 0, .long ((99 : Int32).toInt64)]) rfl rfl rfl (Nat.le_of_ble_eq_true rfl) ((c_in (x := v) (lo := 0) (hi := 99) rfl (by decide) rfl)) (by decide) ?_
  rintro _ _ ⟨rfl, rfl⟩
  show aWP _ _ (24, [some (.ref 84), some (.int 15), some (.int (nI p)), some (.int v), none], [.int (if inR 0 99 v then (1 : Int32) else 0)], (HD, mi, ml, mr)) _
  refine wp_bI rfl (fun c_4 => ?_) (fun c_4 => ?_)
  · have c_4 : ¬ (if inR 0 99 v then (1 : Int32) else 0) = 0 := of_decide_eq_true c_4
    refine wp_steps 3 (t' := (30, [some (.ref 84), some (.int 15), some (.int (nI p)), some (.int v), none], [.int 15, .int (nI p), .ref 84], (HD, mi, ml, mr))) rfl ?_
    refine wp_calv (as := [.int (nI p), .int 15]) rfl rfl rfl (Nat.le_of_ble_eq_true rfl) ⟨by decide, rfl⟩ ((q_told_15p (ml := ml) hM hN hN5 hR hpN hok)) (by decide) ?_
    rintro _ _ ⟨rfl, m_1, w_1, rfl, f1⟩
    show aWP _ _ (31, [some (.ref 84), some (.int 15), some (.int (nI p)), some (.int v), none], [.int (toG (twR mi c0 c1 c2) (puR mi p) 15)], (HD, m_1, w_1, mr)) _
    refine wp_steps 5 (t' := (36, [some (.ref 84), some (.int 15), some (.int (nI p)), some (.int v), some (.int (toG (twR mi c0 c1 c2) (puR mi p) 15))], [.int v, .int (nI p), .int 15, .ref 84], (HD, m_1, w_1, mr))) rfl ?_
    refine wp_calv (as := [.int 15, .int (nI p), .int v]) rfl rfl rfl (Nat.le_of_ble_eq_true rfl) ⟨by decide, rfl⟩ ((r_lays_15 (mi := m_1) (ml := w_1) hM (show p < 5 by omega))) (by decide) ?_
    rintro _ _ ⟨rfl, rfl⟩
    show aWP _ _ (37, [some (.ref 84), some (.int 15), some (.int (nI p)), some (.int v), some (.int (toG (twR mi c0 c1 c2) (puR mi p) 15))], [], (HD, (aup m_1 91 (10 * p + 5) v), w_1, mr)) _
    refine wp_steps 1 (t' := (38, [some (.ref 84), some (.int 15), some (.int (nI p)), some (.int v), some (.int (toG (twR mi c0 c1 c2) (puR mi p) 15))], [.int (toG (twR mi c0 c1 c2) (puR mi p) 15)], (HD, (aup m_1 91 (10 * p + 5) v), w_1, mr))) rfl ?_
    refine wp_ret rfl rfl ⟨⟨Nat.le_refl _, Nat.le_refl _⟩, ?_⟩
    exact ⟨by rw [if_pos (show inR 0 99 v from (i0_t c_4))], m_1, w_1, by rw [if_pos (show inR 0 99 v from (i0_t c_4))], f1⟩
  · have c_4 : (if inR 0 99 v then (1 : Int32) else 0) = 0 := Decidable.not_not.mp (of_decide_eq_false c_4)
    refine wp_steps 1 (t' := (26, [some (.ref 84), some (.int 15), some (.int (nI p)), some (.int v), none], [.int (-2)], (HD, mi, ml, mr))) rfl ?_
    refine wp_ret rfl rfl ⟨⟨Nat.le_refl _, Nat.le_refl _⟩, ?_⟩
    exact ⟨by rw [if_neg (show ¬ (inR 0 99 v) from fun z => (i0_f c_4) z)], mi, ml, by rw [if_neg (show ¬ (inR 0 99 v) from fun z => (i0_f c_4) z)], frQ.rf mi⟩
set_option maxRecDepth 20000 in
set_option maxHeartbeats 1000000 in
theorem r_set_16p {X : aXt × Value} {mi : Nat → Nat → Int32} {ml : Nat → Nat → Int64} {mr : Nat → Nat → Option Nat} (hM : MRok mr) {N : Nat} (hN : mi 84 12 = nI N) (hN5 : N ≤ 5) {c0 c1 c2 : List Int32} (hR : RUX mi c0 c1 c2) {p : Nat} (hpN : p < N) (hok : okU (puR mi p)) {v : Int32} : aCW X 49 120 [.ref 84, .int 16, .int (nI p), .int v] (HD, mi, ml, mr) (fun r h' => r = some (.int (if inR 0 99 v then toG (twR mi c0 c1 c2) (puR mi p) 16 else -2)) ∧ ∃ m' w', h' = (HD, if inR 0 99 v then aup m' 91 (10 * p + 6) v else m', w', mr) ∧ frQ mi m') := by
  refine cw_of (cd := cd_X7_set) (nL := 5) rfl rfl ?_
  show aWP _ _ (0, [some (.ref 84), some (.int 16), some (.int (nI p)), some (.int v), none], [], (HD, mi, ml, mr)) _
  refine wp_steps 4 (t' := (4, [some (.ref 84), some (.int 16), some (.int (nI p)), some (.int v), none], [.long 4, .long 0, .long ((16 : Int32).toInt64)], (HD, mi, ml, mr))) rfl ?_
  refine wp_cal (as := [.long ((16 : Int32).toInt64), .long 0, .long 4]) rfl rfl rfl (Nat.le_of_ble_eq_true rfl) ((c_in (x := 16) (lo := 0) (hi := 4) (by decide) (by decide) (by decide))) (by decide) ?_
  rintro _ _ ⟨rfl, rfl⟩
  rw [if_neg (by decide)]
  show aWP _ _ (5, [some (.ref 84), some (.int 16), some (.int (nI p)), some (.int v), none], [.int 0], (HD, mi, ml, mr)) _
  refine wp_bI rfl (fun c_1 => ?_) (fun c_1 => ?_)
  · have c_1 : ¬ (0 : Int32) = 0 := of_decide_eq_true c_1
    exact absurd c_1 (by decide)
  have c_1 : (0 : Int32) = 0 := Decidable.not_not.mp (of_decide_eq_false c_1)
  refine wp_steps 4 (t' := (10, [some (.ref 84), some (.int 16), some (.int (nI p)), some (.int v), none], [.long 17, .long 10, .long ((16 : Int32).toInt64)], (HD, mi, ml, mr))) rfl ?_
  refine wp_cal (as := [.long ((16 : Int32).toInt64), .long 10, .long 17]) rfl rfl rfl (Nat.le_of_ble_eq_true rfl) ((c_in (x := 16) (lo := 10) (hi := 17) (by decide) (by decide) (by decide))) (by decide) ?_
  rintro _ _ ⟨rfl, rfl⟩
  rw [if_pos (by decide)]
  show aWP _ _ (11, [some (.ref 84), some (.int 16), some (.int (nI p)), some (.int v), none], [.int 1], (HD, mi, ml, mr)) _
  refine wp_bI rfl (fun c_2 => ?_) (fun c_2 => ?_)
  · have c_2 : (1 : Int32) = 0 := of_decide_eq_true c_2
    exact absurd c_2 (by decide)
  have c_2 : ¬ ((1 : Int32) = 0) := of_decide_eq_false c_2
  refine wp_steps 3 (t' := (15, [some (.ref 84), some (.int 16), some (.int (nI p)), some (.int v), none], [.int (nI p), .int 16, .ref 84], (HD, mi, ml, mr))) rfl ?_
  refine wp_calv (as := [.int 16, .int (nI p)]) rfl rfl rfl (Nat.le_of_ble_eq_true rfl) ⟨by decide, rfl⟩ ((c_isOf_p (ml := ml) hM hN hN5 hpN (by decide))) (by decide) ?_
  rintro _ _ ⟨rfl, rfl⟩
  show aWP _ _ (16, [some (.ref 84), some (.int 16), some (.int (nI p)), some (.int v), none], [.int 1], (HD, mi, ml, mr)) _
  refine wp_bI rfl (fun c_3 => ?_) (fun c_3 => ?_)
  · have c_3 : (1 : Int32) = 0 := of_decide_eq_true c_3
    exact absurd c_3 (by decide)
  have c_3 : ¬ ((1 : Int32) = 0) := of_decide_eq_false c_3
  refine wp_steps 4 (t' := (21, [some (.ref 84), some (.int 16), some (.int (nI p)), some (.int v), none], [.int 16, .long 0, .long v.toInt64], (HD, mi, ml, mr))) rfl ?_
  refine wp_cal (as := [.int 16]) rfl rfl rfl (Nat.le_of_ble_eq_true rfl) ((c_rmost_16 (mi := mi) (ml := ml) (mr := mr))) (by decide) ?_
  rintro _ _ ⟨rfl, rfl⟩
  show aWP _ _ (22, [some (.ref 84), some (.int 16), some (.int (nI p)), some (.int v), none], [.int 99, .long 0, .long v.toInt64], (HD, mi, ml, mr)) _
  refine wp_steps 1 (t' := (23, [some (.ref 84), some (.int 16), some (.int (nI p)), some (.int v), none], [.long ((99 : Int32).toInt64), .long 0, .long v.toInt64], (HD, mi, ml, mr))) rfl ?_
  refine wp_cal (as := [.long v.toInt64, .long 0, .long ((99 : Int32).toInt64)]) rfl rfl rfl (Nat.le_of_ble_eq_true rfl) ((c_in (x := v) (lo := 0) (hi := 99) rfl (by decide) rfl)) (by decide) ?_
  rintro _ _ ⟨rfl, rfl⟩
  show aWP _ _ (24, [some (.ref 84), some (.int 16), some (.int (nI p)), some (.int v), none], [.int (if inR 0 99 v then (1 : Int32) else 0)], (HD, mi, ml, mr)) _
  refine wp_bI rfl (fun c_4 => ?_) (fun c_4 => ?_)
  · have c_4 : ¬ (if inR 0 99 v then (1 : Int32) else 0) = 0 := of_decide_eq_true c_4
    refine wp_steps 3 (t' := (30, [some (.ref 84), some (.int 16), some (.int (nI p)), some (.int v), none], [.int 16, .int (nI p), .ref 84], (HD, mi, ml, mr))) rfl ?_
    refine wp_calv (as := [.int (nI p), .int 16]) rfl rfl rfl (Nat.le_of_ble_eq_true rfl) ⟨by decide, rfl⟩ ((q_told_16p (ml := ml) hM hN hN5 hR hpN hok)) (by decide) ?_
    rintro _ _ ⟨rfl, m_1, w_1, rfl, f1⟩
    show aWP _ _ (31, [some (.ref 84), some (.int 16), some (.int (nI p)), some (.int v), none], [.int (toG (twR mi c0 c1 c2) (puR mi p) 16)], (HD, m_1, w_1, mr)) _
    refine wp_steps 5 (t' := (36, [some (.ref 84), some (.int 16), some (.int (nI p)), some (.int v), some (.int (toG (twR mi c0 c1 c2) (puR mi p) 16))], [.int v, .int (nI p), .int 16, .ref 84], (HD, m_1, w_1, mr))) rfl ?_
    refine wp_calv (as := [.int 16, .int (nI p), .int v]) rfl rfl rfl (Nat.le_of_ble_eq_true rfl) ⟨by decide, rfl⟩ ((r_lays_16 (mi := m_1) (ml := w_1) hM (show p < 5 by omega))) (by decide) ?_
    rintro _ _ ⟨rfl, rfl⟩
    show aWP _ _ (37, [some (.ref 84), some (.int 16), some (.int (nI p)), some (.int v), some (.int (toG (twR mi c0 c1 c2) (puR mi p) 16))], [], (HD, (aup m_1 91 (10 * p + 6) v), w_1, mr)) _
    refine wp_steps 1 (t' := (38, [some (.ref 84), some (.int 16), some (.int (nI p)), some (.int v), some (.int (toG (twR mi c0 c1 c2) (puR mi p) 16))], [.int (toG (twR mi c0 c1 c2) (puR mi p) 16)], (HD, (aup m_1 91 (10 * p + 6) v), w_1, mr))) rfl ?_
    refine wp_ret rfl rfl ⟨⟨Nat.le_refl _, Nat.le_refl _⟩, ?_⟩
    exact ⟨by rw [if_pos (show inR 0 99 v from (i0_t c_4))], m_1, w_1, by rw [if_pos (show inR 0 99 v from (i0_t c_4))], f1⟩
  · have c_4 : (if inR 0 99 v then (1 : Int32) else 0) = 0 := Decidable.not_not.mp (of_decide_eq_false c_4)
    refine wp_steps 1 (t' := (26, [some (.ref 84), some (.int 16), some (.int (nI p)), some (.int v), none], [.int (-2)], (HD, mi, ml, mr))) rfl ?_
    refine wp_ret rfl rfl ⟨⟨Nat.le_refl _, Nat.le_refl _⟩, ?_⟩
    exact ⟨by rw [if_neg (show ¬ (inR 0 99 v) from fun z => (i0_f c_4) z)], mi, ml, by rw [if_neg (show ¬ (inR 0 99 v) from fun z => (i0_f c_4) z)], frQ.rf mi⟩
set_option maxRecDepth 20000 in
set_option maxHeartbeats 1000000 in
theorem r_set_17p {X : aXt × Value} {mi : Nat → Nat → Int32} {ml : Nat → Nat → Int64} {mr : Nat → Nat → Option Nat} (hM : MRok mr) {N : Nat} (hN : mi 84 12 = nI N) (hN5 : N ≤ 5) {c0 c1 c2 : List Int32} (hR : RUX mi c0 c1 c2) {p : Nat} (hpN : p < N) (hok : okU (puR mi p)) {v : Int32} : aCW X 49 120 [.ref 84, .int 17, .int (nI p), .int v] (HD, mi, ml, mr) (fun r h' => r = some (.int (if inR 0 99 v then toG (twR mi c0 c1 c2) (puR mi p) 17 else -2)) ∧ ∃ m' w', h' = (HD, if inR 0 99 v then aup m' 91 (10 * p + 7) v else m', w', mr) ∧ frQ mi m') := by
  refine cw_of (cd := cd_X7_set) (nL := 5) rfl rfl ?_
  show aWP _ _ (0, [some (.ref 84), some (.int 17), some (.int (nI p)), some (.int v), none], [], (HD, mi, ml, mr)) _
  refine wp_steps 4 (t' := (4, [some (.ref 84), some (.int 17), some (.int (nI p)), some (.int v), none], [.long 4, .long 0, .long ((17 : Int32).toInt64)], (HD, mi, ml, mr))) rfl ?_
  refine wp_cal (as := [.long ((17 : Int32).toInt64), .long 0, .long 4]) rfl rfl rfl (Nat.le_of_ble_eq_true rfl) ((c_in (x := 17) (lo := 0) (hi := 4) (by decide) (by decide) (by decide))) (by decide) ?_
  rintro _ _ ⟨rfl, rfl⟩
  rw [if_neg (by decide)]
  show aWP _ _ (5, [some (.ref 84), some (.int 17), some (.int (nI p)), some (.int v), none], [.int 0], (HD, mi, ml, mr)) _
  refine wp_bI rfl (fun c_1 => ?_) (fun c_1 => ?_)
  · have c_1 : ¬ (0 : Int32) = 0 := of_decide_eq_true c_1
    exact absurd c_1 (by decide)
  have c_1 : (0 : Int32) = 0 := Decidable.not_not.mp (of_decide_eq_false c_1)
  refine wp_steps 4 (t' := (10, [some (.ref 84), some (.int 17), some (.int (nI p)), some (.int v), none], [.long 17, .long 10, .long ((17 : Int32).toInt64)], (HD, mi, ml, mr))) rfl ?_
  refine wp_cal (as := [.long ((17 : Int32).toInt64), .long 10, .long 17]) rfl rfl rfl (Nat.le_of_ble_eq_true rfl) ((c_in (x := 17) (lo := 10) (hi := 17) (by decide) (by decide) (by decide))) (by decide) ?_
  rintro _ _ ⟨rfl, rfl⟩
  rw [if_pos (by decide)]
  show aWP _ _ (11, [some (.ref 84), some (.int 17), some (.int (nI p)), some (.int v), none], [.int 1], (HD, mi, ml, mr)) _
  refine wp_bI rfl (fun c_2 => ?_) (fun c_2 => ?_)
  · have c_2 : (1 : Int32) = 0 := of_decide_eq_true c_2
    exact absurd c_2 (by decide)
  have c_2 : ¬ ((1 : Int32) = 0) := of_decide_eq_false c_2
  refine wp_steps 3 (t' := (15, [some (.ref 84), some (.int 17), some (.int (nI p)), some (.int v), none], [.int (nI p), .int 17, .ref 84], (HD, mi, ml, mr))) rfl ?_
  refine wp_calv (as := [.int 17, .int (nI p)]) rfl rfl rfl (Nat.le_of_ble_eq_true rfl) ⟨by decide, rfl⟩ ((c_isOf_p (ml := ml) hM hN hN5 hpN (by decide))) (by decide) ?_
  rintro _ _ ⟨rfl, rfl⟩
  show aWP _ _ (16, [some (.ref 84), some (.int 17), some (.int (nI p)), some (.int v), none], [.int 1], (HD, mi, ml, mr)) _
  refine wp_bI rfl (fun c_3 => ?_) (fun c_3 => ?_)
  · have c_3 : (1 : Int32) = 0 := of_decide_eq_true c_3
    exact absurd c_3 (by decide)
  have c_3 : ¬ ((1 : Int32) = 0) := of_decide_eq_false c_3
  refine wp_steps 4 (t' := (21, [some (.ref 84), some (.int 17), some (.int (nI p)), some (.int v), none], [.int 17, .long 0, .long v.toInt64], (HD, mi, ml, mr))) rfl ?_
  refine wp_cal (as := [.int 17]) rfl rfl rfl (Nat.le_of_ble_eq_true rfl) ((c_rmost_17 (mi := mi) (ml := ml) (mr := mr))) (by decide) ?_
  rintro _ _ ⟨rfl, rfl⟩
  show aWP _ _ (22, [some (.ref 84), some (.int 17), some (.int (nI p)), some (.int v), none], [.int 99, .long 0, .long v.toInt64], (HD, mi, ml, mr)) _
  refine wp_steps 1 (t' := (23, [some (.ref 84), some (.int 17), some (.int (nI p)), some (.int v), none], [.long ((99 : Int32).toInt64), .long 0, .long v.toInt64], (HD, mi, ml, mr))) rfl ?_
  refine wp_cal (as := [.long v.toInt64, .long 0, .long ((99 : Int32).toInt64)]) rfl rfl rfl (Nat.le_of_ble_eq_true rfl) ((c_in (x := v) (lo := 0) (hi := 99) rfl (by decide) rfl)) (by decide) ?_
  rintro _ _ ⟨rfl, rfl⟩
  show aWP _ _ (24, [some (.ref 84), some (.int 17), some (.int (nI p)), some (.int v), none], [.int (if inR 0 99 v then (1 : Int32) else 0)], (HD, mi, ml, mr)) _
  refine wp_bI rfl (fun c_4 => ?_) (fun c_4 => ?_)
  · have c_4 : ¬ (if inR 0 99 v then (1 : Int32) else 0) = 0 := of_decide_eq_true c_4
    refine wp_steps 3 (t' := (30, [some (.ref 84), some (.int 17), some (.int (nI p)), some (.int v), none], [.int 17, .int (nI p), .ref 84], (HD, mi, ml, mr))) rfl ?_
    refine wp_calv (as := [.int (nI p), .int 17]) rfl rfl rfl (Nat.le_of_ble_eq_true rfl) ⟨by decide, rfl⟩ ((q_told_17p (ml := ml) hM hN hN5 hR hpN hok)) (by decide) ?_
    rintro _ _ ⟨rfl, m_1, w_1, rfl, f1⟩
    show aWP _ _ (31, [some (.ref 84), some (.int 17), some (.int (nI p)), some (.int v), none], [.int (toG (twR mi c0 c1 c2) (puR mi p) 17)], (HD, m_1, w_1, mr)) _
    refine wp_steps 5 (t' := (36, [some (.ref 84), some (.int 17), some (.int (nI p)), some (.int v), some (.int (toG (twR mi c0 c1 c2) (puR mi p) 17))], [.int v, .int (nI p), .int 17, .ref 84], (HD, m_1, w_1, mr))) rfl ?_
    refine wp_calv (as := [.int 17, .int (nI p), .int v]) rfl rfl rfl (Nat.le_of_ble_eq_true rfl) ⟨by decide, rfl⟩ ((r_lays_17 (mi := m_1) (ml := w_1) hM (show p < 5 by omega))) (by decide) ?_
    rintro _ _ ⟨rfl, rfl⟩
    show aWP _ _ (37, [some (.ref 84), some (.int 17), some (.int (nI p)), some (.int v), some (.int (toG (twR mi c0 c1 c2) (puR mi p) 17))], [], (HD, (aup m_1 91 (10 * p + 7) v), w_1, mr)) _
    refine wp_steps 1 (t' := (38, [some (.ref 84), some (.int 17), some (.int (nI p)), some (.int v), some (.int (toG (twR mi c0 c1 c2) (puR mi p) 17))], [.int (toG (twR mi c0 c1 c2) (puR mi p) 17)], (HD, (aup m_1 91 (10 * p + 7) v), w_1, mr))) rfl ?_
    refine wp_ret rfl rfl ⟨⟨Nat.le_refl _, Nat.le_refl _⟩, ?_⟩
    exact ⟨by rw [if_pos (show inR 0 99 v from (i0_t c_4))], m_1, w_1, by rw [if_pos (show inR 0 99 v from (i0_t c_4))], f1⟩
  · have c_4 : (if inR 0 99 v then (1 : Int32) else 0) = 0 := Decidable.not_not.mp (of_decide_eq_false c_4)
    refine wp_steps 1 (t' := (26, [some (.ref 84), some (.int 17), some (.int (nI p)), some (.int v), none], [.int (-2)], (HD, mi, ml, mr))) rfl ?_
    refine wp_ret rfl rfl ⟨⟨Nat.le_refl _, Nat.le_refl _⟩, ?_⟩
    exact ⟨by rw [if_neg (show ¬ (inR 0 99 v) from fun z => (i0_f c_4) z)], mi, ml, by rw [if_neg (show ¬ (inR 0 99 v) from fun z => (i0_f c_4) z)], frQ.rf mi⟩
