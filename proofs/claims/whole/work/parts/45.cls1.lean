/-! the learner (written by wip/whole/mkcls1.py) -/
def lOf (kind number help v : Int32) : Int32 :=
  if kind = 1 then (if help = 0 then 2 * v else v)
  else if kind = 2 then (if help = 0 then v / 2 else v)
  else if kind = 3 then (if help = 2 then 0 else if help = 0 then 2 * v else v)
  else if kind = 4 then (if help = 1 then (if help = 0 then v / 2 else v) + number else if help = 0 then v / 2 else v)
  else if kind = 5 then fmin v 3 else v
def gOf (kind number v : Int32) : Int32 := if kind = 2 then v + 1 else if kind = 3 then 2 * v else if kind = 4 then v + 1 else if kind = 5 then v + number else v
def nOf (kind number done v : Int32) : Int32 := if kind = 1 then v + 5 else if kind = 2 then v - 5 else if kind = 3 then v + 5 + number else if kind = 4 then (if done ≤ 1 then v - 5 else 0) else if kind = 5 then v / 2 else v
theorem pups_ne {P P2 : Nat} (h : P ∈ PUPS) (h2 : P2 ∈ PUPS) : P2 ≠ P + 1 ∧ P ≠ P2 + 1 := by
  have : ∀ P ∈ PUPS, ∀ P2 ∈ PUPS, P2 ≠ P + 1 ∧ P ≠ P2 + 1 := by decide
  exact this P h P2 h2
set_option maxRecDepth 20000 in
set_option maxHeartbeats 1000000 in
theorem c_learnsOf {X : aXt × Value} {mi : Nat → Nat → Int32} {ml : Nat → Nat → Int64} {mr : Nat → Nat → Option Nat} {P : Nat} (hP : P ∈ PUPS) {v hp : Int32} : aCW X 1 6 [.ref P, .int v, .int hp] (HD, mi, ml, mr) (rdI mi ml mr (lOf (mi P 0) (mi P 1) hp v)) := by
  refine cw_of (cd := cd_X0_learnsOf) (nL := 5) rfl rfl ?_
  show aWP _ _ (0, [some (.ref P), some (.int v), some (.int hp), none, none], [], (HD, mi, ml, mr)) _
  refine wp_steps 1 (t' := (1, [some (.ref P), some (.int v), some (.int hp), none, none], [.int hp], (HD, mi, ml, mr))) rfl ?_
  refine wp_bI rfl (fun c_1 => ?_) (fun c_1 => ?_)
  · have c_1 : ¬ hp = 0 := of_decide_eq_true c_1
    refine wp_steps 3 (t' := (9, [some (.ref P), some (.int v), some (.int hp), some (.int v), none], [.int hp], (HD, mi, ml, mr))) rfl ?_
    refine wp_bI rfl (fun c_2 => ?_) (fun c_2 => ?_)
    rotate_left
    · have c_2 : hp = 0 := Decidable.not_not.mp (of_decide_eq_false c_2)
      exact absurd c_2 c_1
    have c_2 : ¬ hp = 0 := of_decide_eq_true c_2
    refine wp_steps 3 (t' := (17, [some (.ref P), some (.int v), some (.int hp), some (.int v), some (.int v)], [.ref P], (HD, mi, ml, mr))) rfl ?_
    refine wp_geti rfl (shP hP) (Or.inl rfl) ?_
    by_cases s_3 : mi P 0 = 1
    · refine wp_sw 19 rfl (by rw [s_3]; decide) ?_
      refine wp_steps 1 (t' := (20, [some (.ref P), some (.int v), some (.int hp), some (.int v), some (.int v)], [.int v], (HD, mi, ml, mr))) rfl ?_
      refine wp_ret rfl rfl ⟨⟨Nat.le_refl _, Nat.le_refl _⟩, ?_⟩
      refine ⟨?_, rfl⟩
      first | (simp [lOf, c_1, c_2, s_3]; done) | (exfalso; simp_all; done)
    by_cases s_4 : mi P 0 = 2
    · refine wp_sw 21 rfl (by rw [s_4]; decide) ?_
      refine wp_steps 1 (t' := (22, [some (.ref P), some (.int v), some (.int hp), some (.int v), some (.int v)], [.int v], (HD, mi, ml, mr))) rfl ?_
      refine wp_ret rfl rfl ⟨⟨Nat.le_refl _, Nat.le_refl _⟩, ?_⟩
      refine ⟨?_, rfl⟩
      first | (simp [lOf, c_1, c_2, s_3, s_4]; done) | (exfalso; simp_all; done)
    by_cases s_5 : mi P 0 = 3
    · refine wp_sw 23 rfl (by rw [s_5]; decide) ?_
      refine wp_steps 2 (t' := (25, [some (.ref P), some (.int v), some (.int hp), some (.int v), some (.int v)], [.int 2, .int hp], (HD, mi, ml, mr))) rfl ?_
      refine wp_bC rfl (fun c_6 => ?_) (fun c_6 => ?_)
      · have c_6 : ¬ hp = 2 := of_decide_eq_true c_6
        refine wp_steps 1 (t' := (29, [some (.ref P), some (.int v), some (.int hp), some (.int v), some (.int v)], [.int v], (HD, mi, ml, mr))) rfl ?_
        refine wp_ret rfl rfl ⟨⟨Nat.le_refl _, Nat.le_refl _⟩, ?_⟩
        refine ⟨?_, rfl⟩
        first | (simp [lOf, c_1, c_2, s_3, s_4, s_5, c_6]; done) | (exfalso; simp_all; done)
      · have c_6 : hp = 2 := Decidable.not_not.mp (of_decide_eq_false c_6)
        refine wp_steps 2 (t' := (29, [some (.ref P), some (.int v), some (.int hp), some (.int v), some (.int v)], [.int 0], (HD, mi, ml, mr))) rfl ?_
        refine wp_ret rfl rfl ⟨⟨Nat.le_refl _, Nat.le_refl _⟩, ?_⟩
        refine ⟨?_, rfl⟩
        first | (simp [lOf, c_1, c_2, s_3, s_4, s_5, c_6]; done) | (exfalso; simp_all; done)
    by_cases s_7 : mi P 0 = 4
    · refine wp_sw 30 rfl (by rw [s_7]; decide) ?_
      refine wp_steps 2 (t' := (32, [some (.ref P), some (.int v), some (.int hp), some (.int v), some (.int v)], [.int 1, .int hp], (HD, mi, ml, mr))) rfl ?_
      refine wp_bC rfl (fun c_8 => ?_) (fun c_8 => ?_)
      · have c_8 : ¬ hp = 1 := of_decide_eq_true c_8
        refine wp_steps 1 (t' := (39, [some (.ref P), some (.int v), some (.int hp), some (.int v), some (.int v)], [.int v], (HD, mi, ml, mr))) rfl ?_
        refine wp_ret rfl rfl ⟨⟨Nat.le_refl _, Nat.le_refl _⟩, ?_⟩
        refine ⟨?_, rfl⟩
        first | (simp [lOf, c_1, c_2, s_3, s_4, s_5, s_7, c_8]; done) | (exfalso; simp_all; done)
      · have c_8 : hp = 1 := Decidable.not_not.mp (of_decide_eq_false c_8)
        refine wp_steps 2 (t' := (35, [some (.ref P), some (.int v), some (.int hp), some (.int v), some (.int v)], [.ref P, .int v], (HD, mi, ml, mr))) rfl ?_
        refine wp_geti rfl (shP hP) (Or.inl rfl) ?_
        refine wp_steps 2 (t' := (39, [some (.ref P), some (.int v), some (.int hp), some (.int v), some (.int v)], [.int (v + (mi P 1))], (HD, mi, ml, mr))) rfl ?_
        refine wp_ret rfl rfl ⟨⟨Nat.le_refl _, Nat.le_refl _⟩, ?_⟩
        refine ⟨?_, rfl⟩
        first | (simp [lOf, c_1, c_2, s_3, s_4, s_5, s_7, c_8]; done) | (exfalso; simp_all; done)
    by_cases s_9 : mi P 0 = 5
    · refine wp_sw 40 rfl (by rw [s_9]; decide) ?_
      refine wp_steps 3 (t' := (43, [some (.ref P), some (.int v), some (.int hp), some (.int v), some (.int v)], [.int (fmin v 3)], (HD, mi, ml, mr))) rfl ?_
      refine wp_ret rfl rfl ⟨⟨Nat.le_refl _, Nat.le_refl _⟩, ?_⟩
      refine ⟨?_, rfl⟩
      first | (simp [lOf, c_1, c_2, s_3, s_4, s_5, s_7, s_9]; done) | (exfalso; simp_all; done)
    refine wp_sw 44 rfl (aSw_out [1, 2, 3, 4, 5] (List.forall_mem_cons.mpr ⟨s_3, List.forall_mem_cons.mpr ⟨s_4, List.forall_mem_cons.mpr ⟨s_5, List.forall_mem_cons.mpr ⟨s_7, List.forall_mem_cons.mpr ⟨s_9, fun _ h => absurd h List.not_mem_nil⟩⟩⟩⟩⟩) (by decide)) ?_
    refine wp_steps 1 (t' := (45, [some (.ref P), some (.int v), some (.int hp), some (.int v), some (.int v)], [.int v], (HD, mi, ml, mr))) rfl ?_
    refine wp_ret rfl rfl ⟨⟨Nat.le_refl _, Nat.le_refl _⟩, ?_⟩
    refine ⟨?_, rfl⟩
    first | (simp [lOf, c_1, c_2, s_3, s_4, s_5, s_7, s_9]; done) | (exfalso; simp_all; done)
  · have c_1 : hp = 0 := Decidable.not_not.mp (of_decide_eq_false c_1)
    refine wp_steps 6 (t' := (9, [some (.ref P), some (.int v), some (.int hp), some (.int (2 * v)), none], [.int hp], (HD, mi, ml, mr))) rfl ?_
    refine wp_bI rfl (fun c_10 => ?_) (fun c_10 => ?_)
    · have c_10 : ¬ hp = 0 := of_decide_eq_true c_10
      exact absurd c_1 c_10
    have c_10 : hp = 0 := Decidable.not_not.mp (of_decide_eq_false c_10)
    refine wp_steps 6 (t' := (17, [some (.ref P), some (.int v), some (.int hp), some (.int (2 * v)), some (.int (v / 2))], [.ref P], (HD, mi, ml, mr))) rfl ?_
    refine wp_geti rfl (shP hP) (Or.inl rfl) ?_
    by_cases s_11 : mi P 0 = 1
    · refine wp_sw 19 rfl (by rw [s_11]; decide) ?_
      refine wp_steps 1 (t' := (20, [some (.ref P), some (.int v), some (.int hp), some (.int (2 * v)), some (.int (v / 2))], [.int (2 * v)], (HD, mi, ml, mr))) rfl ?_
      refine wp_ret rfl rfl ⟨⟨Nat.le_refl _, Nat.le_refl _⟩, ?_⟩
      refine ⟨?_, rfl⟩
      first | (simp [lOf, c_1, c_10, s_11]; done) | (exfalso; simp_all; done)
    by_cases s_12 : mi P 0 = 2
    · refine wp_sw 21 rfl (by rw [s_12]; decide) ?_
      refine wp_steps 1 (t' := (22, [some (.ref P), some (.int v), some (.int hp), some (.int (2 * v)), some (.int (v / 2))], [.int (v / 2)], (HD, mi, ml, mr))) rfl ?_
      refine wp_ret rfl rfl ⟨⟨Nat.le_refl _, Nat.le_refl _⟩, ?_⟩
      refine ⟨?_, rfl⟩
      first | (simp [lOf, c_1, c_10, s_11, s_12]; done) | (exfalso; simp_all; done)
    by_cases s_13 : mi P 0 = 3
    · refine wp_sw 23 rfl (by rw [s_13]; decide) ?_
      refine wp_steps 2 (t' := (25, [some (.ref P), some (.int v), some (.int hp), some (.int (2 * v)), some (.int (v / 2))], [.int 2, .int hp], (HD, mi, ml, mr))) rfl ?_
      refine wp_bC rfl (fun c_14 => ?_) (fun c_14 => ?_)
      · have c_14 : ¬ hp = 2 := of_decide_eq_true c_14
        refine wp_steps 1 (t' := (29, [some (.ref P), some (.int v), some (.int hp), some (.int (2 * v)), some (.int (v / 2))], [.int (2 * v)], (HD, mi, ml, mr))) rfl ?_
        refine wp_ret rfl rfl ⟨⟨Nat.le_refl _, Nat.le_refl _⟩, ?_⟩
        refine ⟨?_, rfl⟩
        first | (simp [lOf, c_1, c_10, s_11, s_12, s_13, c_14]; done) | (exfalso; simp_all; done)
      · have c_14 : hp = 2 := Decidable.not_not.mp (of_decide_eq_false c_14)
        refine wp_steps 2 (t' := (29, [some (.ref P), some (.int v), some (.int hp), some (.int (2 * v)), some (.int (v / 2))], [.int 0], (HD, mi, ml, mr))) rfl ?_
        refine wp_ret rfl rfl ⟨⟨Nat.le_refl _, Nat.le_refl _⟩, ?_⟩
        refine ⟨?_, rfl⟩
        first | (simp [lOf, c_1, c_10, s_11, s_12, s_13, c_14]; done) | (exfalso; simp_all; done)
    by_cases s_15 : mi P 0 = 4
    · refine wp_sw 30 rfl (by rw [s_15]; decide) ?_
      refine wp_steps 2 (t' := (32, [some (.ref P), some (.int v), some (.int hp), some (.int (2 * v)), some (.int (v / 2))], [.int 1, .int hp], (HD, mi, ml, mr))) rfl ?_
      refine wp_bC rfl (fun c_16 => ?_) (fun c_16 => ?_)
      · have c_16 : ¬ hp = 1 := of_decide_eq_true c_16
        refine wp_steps 1 (t' := (39, [some (.ref P), some (.int v), some (.int hp), some (.int (2 * v)), some (.int (v / 2))], [.int (v / 2)], (HD, mi, ml, mr))) rfl ?_
        refine wp_ret rfl rfl ⟨⟨Nat.le_refl _, Nat.le_refl _⟩, ?_⟩
        refine ⟨?_, rfl⟩
        first | (simp [lOf, c_1, c_10, s_11, s_12, s_13, s_15, c_16]; done) | (exfalso; simp_all; done)
      · have c_16 : hp = 1 := Decidable.not_not.mp (of_decide_eq_false c_16)
        refine wp_steps 2 (t' := (35, [some (.ref P), some (.int v), some (.int hp), some (.int (2 * v)), some (.int (v / 2))], [.ref P, .int (v / 2)], (HD, mi, ml, mr))) rfl ?_
        refine wp_geti rfl (shP hP) (Or.inl rfl) ?_
        refine wp_steps 2 (t' := (39, [some (.ref P), some (.int v), some (.int hp), some (.int (2 * v)), some (.int (v / 2))], [.int ((v / 2) + (mi P 1))], (HD, mi, ml, mr))) rfl ?_
        refine wp_ret rfl rfl ⟨⟨Nat.le_refl _, Nat.le_refl _⟩, ?_⟩
        refine ⟨?_, rfl⟩
        first | (simp [lOf, c_1, c_10, s_11, s_12, s_13, s_15, c_16]; done) | (exfalso; simp_all; done)
    by_cases s_17 : mi P 0 = 5
    · refine wp_sw 40 rfl (by rw [s_17]; decide) ?_
      refine wp_steps 3 (t' := (43, [some (.ref P), some (.int v), some (.int hp), some (.int (2 * v)), some (.int (v / 2))], [.int (fmin v 3)], (HD, mi, ml, mr))) rfl ?_
      refine wp_ret rfl rfl ⟨⟨Nat.le_refl _, Nat.le_refl _⟩, ?_⟩
      refine ⟨?_, rfl⟩
      first | (simp [lOf, c_1, c_10, s_11, s_12, s_13, s_15, s_17]; done) | (exfalso; simp_all; done)
    refine wp_sw 44 rfl (aSw_out [1, 2, 3, 4, 5] (List.forall_mem_cons.mpr ⟨s_11, List.forall_mem_cons.mpr ⟨s_12, List.forall_mem_cons.mpr ⟨s_13, List.forall_mem_cons.mpr ⟨s_15, List.forall_mem_cons.mpr ⟨s_17, fun _ h => absurd h List.not_mem_nil⟩⟩⟩⟩⟩) (by decide)) ?_
    refine wp_steps 1 (t' := (45, [some (.ref P), some (.int v), some (.int hp), some (.int (2 * v)), some (.int (v / 2))], [.int v], (HD, mi, ml, mr))) rfl ?_
    refine wp_ret rfl rfl ⟨⟨Nat.le_refl _, Nat.le_refl _⟩, ?_⟩
    refine ⟨?_, rfl⟩
    first | (simp [lOf, c_1, c_10, s_11, s_12, s_13, s_15, s_17]; done) | (exfalso; simp_all; done)
set_option maxRecDepth 20000 in
set_option maxHeartbeats 1000000 in
theorem c_forgetsOf {X : aXt × Value} {mi : Nat → Nat → Int32} {ml : Nat → Nat → Int64} {mr : Nat → Nat → Option Nat} {P : Nat} (hP : P ∈ PUPS) {v : Int32} : aCW X 1 7 [.ref P, .int v] (HD, mi, ml, mr) (rdI mi ml mr (gOf (mi P 0) (mi P 1) v)) := by
  refine cw_of (cd := cd_X0_forgetsOf) (nL := 2) rfl rfl ?_
  show aWP _ _ (0, [some (.ref P), some (.int v)], [], (HD, mi, ml, mr)) _
  refine wp_steps 1 (t' := (1, [some (.ref P), some (.int v)], [.ref P], (HD, mi, ml, mr))) rfl ?_
  refine wp_geti rfl (shP hP) (Or.inl rfl) ?_
  by_cases s_1 : mi P 0 = 2
  · refine wp_sw 3 rfl (by rw [s_1]; decide) ?_
    refine wp_steps 3 (t' := (6, [some (.ref P), some (.int v)], [.int (v + 1)], (HD, mi, ml, mr))) rfl ?_
    refine wp_ret rfl rfl ⟨⟨Nat.le_refl _, Nat.le_refl _⟩, ?_⟩
    refine ⟨?_, rfl⟩
    first | (simp [gOf, s_1]; done) | (exfalso; simp_all; done)
  by_cases s_2 : mi P 0 = 3
  · refine wp_sw 7 rfl (by rw [s_2]; decide) ?_
    refine wp_steps 3 (t' := (10, [some (.ref P), some (.int v)], [.int (2 * v)], (HD, mi, ml, mr))) rfl ?_
    refine wp_ret rfl rfl ⟨⟨Nat.le_refl _, Nat.le_refl _⟩, ?_⟩
    refine ⟨?_, rfl⟩
    first | (simp [gOf, s_1, s_2]; done) | (exfalso; simp_all; done)
  by_cases s_3 : mi P 0 = 4
  · refine wp_sw 3 rfl (by rw [s_3]; decide) ?_
    refine wp_steps 3 (t' := (6, [some (.ref P), some (.int v)], [.int (v + 1)], (HD, mi, ml, mr))) rfl ?_
    refine wp_ret rfl rfl ⟨⟨Nat.le_refl _, Nat.le_refl _⟩, ?_⟩
    refine ⟨?_, rfl⟩
    first | (simp [gOf, s_1, s_2, s_3]; done) | (exfalso; simp_all; done)
  by_cases s_4 : mi P 0 = 5
  · refine wp_sw 11 rfl (by rw [s_4]; decide) ?_
    refine wp_steps 2 (t' := (13, [some (.ref P), some (.int v)], [.ref P, .int v], (HD, mi, ml, mr))) rfl ?_
    refine wp_geti rfl (shP hP) (Or.inl rfl) ?_
    refine wp_steps 1 (t' := (15, [some (.ref P), some (.int v)], [.int (v + (mi P 1))], (HD, mi, ml, mr))) rfl ?_
    refine wp_ret rfl rfl ⟨⟨Nat.le_refl _, Nat.le_refl _⟩, ?_⟩
    refine ⟨?_, rfl⟩
    first | (simp [gOf, s_1, s_2, s_3, s_4]; done) | (exfalso; simp_all; done)
  refine wp_sw 16 rfl (aSw_out [2, 3, 4, 5] (List.forall_mem_cons.mpr ⟨s_1, List.forall_mem_cons.mpr ⟨s_2, List.forall_mem_cons.mpr ⟨s_3, List.forall_mem_cons.mpr ⟨s_4, fun _ h => absurd h List.not_mem_nil⟩⟩⟩⟩) (by decide)) ?_
  refine wp_steps 1 (t' := (17, [some (.ref P), some (.int v)], [.int v], (HD, mi, ml, mr))) rfl ?_
  refine wp_ret rfl rfl ⟨⟨Nat.le_refl _, Nat.le_refl _⟩, ?_⟩
  refine ⟨?_, rfl⟩
  first | (simp [gOf, s_1, s_2, s_3, s_4]; done) | (exfalso; simp_all; done)
set_option maxRecDepth 20000 in
set_option maxHeartbeats 1000000 in
theorem c_nerveOf {X : aXt × Value} {mi : Nat → Nat → Int32} {ml : Nat → Nat → Int64} {mr : Nat → Nat → Option Nat} {P : Nat} (hP : P ∈ PUPS) {v : Int32} : aCW X 1 8 [.ref P, .int v] (HD, mi, ml, mr) (rdI mi ml mr (nOf (mi P 0) (mi P 1) (mi P 2) v)) := by
  refine cw_of (cd := cd_X0_nerveOf) (nL := 2) rfl rfl ?_
  show aWP _ _ (0, [some (.ref P), some (.int v)], [], (HD, mi, ml, mr)) _
  refine wp_steps 1 (t' := (1, [some (.ref P), some (.int v)], [.ref P], (HD, mi, ml, mr))) rfl ?_
  refine wp_geti rfl (shP hP) (Or.inl rfl) ?_
  by_cases s_1 : mi P 0 = 1
  · refine wp_sw 3 rfl (by rw [s_1]; decide) ?_
    refine wp_steps 3 (t' := (6, [some (.ref P), some (.int v)], [.int (v + 5)], (HD, mi, ml, mr))) rfl ?_
    refine wp_ret rfl rfl ⟨⟨Nat.le_refl _, Nat.le_refl _⟩, ?_⟩
    refine ⟨?_, rfl⟩
    first | (simp [nOf, s_1]; done) | (exfalso; simp_all; done)
  by_cases s_2 : mi P 0 = 2
  · refine wp_sw 7 rfl (by rw [s_2]; decide) ?_
    refine wp_steps 3 (t' := (10, [some (.ref P), some (.int v)], [.int (v - 5)], (HD, mi, ml, mr))) rfl ?_
    refine wp_ret rfl rfl ⟨⟨Nat.le_refl _, Nat.le_refl _⟩, ?_⟩
    refine ⟨?_, rfl⟩
    first | (simp [nOf, s_1, s_2]; done) | (exfalso; simp_all; done)
  by_cases s_3 : mi P 0 = 3
  · refine wp_sw 11 rfl (by rw [s_3]; decide) ?_
    refine wp_steps 4 (t' := (15, [some (.ref P), some (.int v)], [.ref P, .int (v + 5)], (HD, mi, ml, mr))) rfl ?_
    refine wp_geti rfl (shP hP) (Or.inl rfl) ?_
    refine wp_steps 1 (t' := (17, [some (.ref P), some (.int v)], [.int ((v + 5) + (mi P 1))], (HD, mi, ml, mr))) rfl ?_
    refine wp_ret rfl rfl ⟨⟨Nat.le_refl _, Nat.le_refl _⟩, ?_⟩
    refine ⟨?_, rfl⟩
    first | (simp [nOf, s_1, s_2, s_3]; done) | (exfalso; simp_all; done)
  by_cases s_4 : mi P 0 = 4
  · refine wp_sw 18 rfl (by rw [s_4]; decide) ?_
    refine wp_steps 1 (t' := (19, [some (.ref P), some (.int v)], [.ref P], (HD, mi, ml, mr))) rfl ?_
    refine wp_geti rfl (shP hP) (Or.inl rfl) ?_
    refine wp_steps 1 (t' := (21, [some (.ref P), some (.int v)], [.int 1, .int (mi P 2)], (HD, mi, ml, mr))) rfl ?_
    refine wp_bC rfl (fun c_5 => ?_) (fun c_5 => ?_)
    · have c_5 : (mi P 2) ≤ 1 := of_decide_eq_true c_5
      refine wp_steps 3 (t' := (27, [some (.ref P), some (.int v)], [.int (v - 5)], (HD, mi, ml, mr))) rfl ?_
      refine wp_ret rfl rfl ⟨⟨Nat.le_refl _, Nat.le_refl _⟩, ?_⟩
      refine ⟨?_, rfl⟩
      first | (simp [nOf, s_1, s_2, s_3, s_4, c_5]; done) | (exfalso; simp_all; done)
    · have c_5 : ¬ ((mi P 2) ≤ 1) := of_decide_eq_false c_5
      refine wp_steps 2 (t' := (27, [some (.ref P), some (.int v)], [.int 0], (HD, mi, ml, mr))) rfl ?_
      refine wp_ret rfl rfl ⟨⟨Nat.le_refl _, Nat.le_refl _⟩, ?_⟩
      refine ⟨?_, rfl⟩
      first | (simp [nOf, s_1, s_2, s_3, s_4, c_5]; done) | (exfalso; simp_all; done)
  by_cases s_6 : mi P 0 = 5
  · refine wp_sw 28 rfl (by rw [s_6]; decide) ?_
    refine wp_steps 3 (t' := (31, [some (.ref P), some (.int v)], [.int (v / 2)], (HD, mi, ml, mr))) rfl ?_
    refine wp_ret rfl rfl ⟨⟨Nat.le_refl _, Nat.le_refl _⟩, ?_⟩
    refine ⟨?_, rfl⟩
    first | (simp [nOf, s_1, s_2, s_3, s_4, s_6]; done) | (exfalso; simp_all; done)
  refine wp_sw 32 rfl (aSw_out [1, 2, 3, 4, 5] (List.forall_mem_cons.mpr ⟨s_1, List.forall_mem_cons.mpr ⟨s_2, List.forall_mem_cons.mpr ⟨s_3, List.forall_mem_cons.mpr ⟨s_4, List.forall_mem_cons.mpr ⟨s_6, fun _ h => absurd h List.not_mem_nil⟩⟩⟩⟩⟩) (by decide)) ?_
  refine wp_steps 1 (t' := (33, [some (.ref P), some (.int v)], [.int v], (HD, mi, ml, mr))) rfl ?_
  refine wp_ret rfl rfl ⟨⟨Nat.le_refl _, Nat.le_refl _⟩, ?_⟩
  refine ⟨?_, rfl⟩
  first | (simp [nOf, s_1, s_2, s_3, s_4, s_6]; done) | (exfalso; simp_all; done)
def mOf (w : Int32) : Int32 := if w = 2 then 9 else if w = 3 then 99 else if w = 4 then 999 else if w = 5 then -1 else 99
set_option maxRecDepth 20000 in
set_option maxHeartbeats 1000000 in
theorem c_mostOf {X : aXt × Value} {mi : Nat → Nat → Int32} {ml : Nat → Nat → Int64} {mr : Nat → Nat → Option Nat} {w : Int32} : aCW X 1 5 [.int w] (HD, mi, ml, mr) (rdI mi ml mr (mOf w)) := by
  refine cw_of (cd := cd_X0_mostOf) (nL := 1) rfl rfl ?_
  show aWP _ _ (0, [some (.int w)], [], (HD, mi, ml, mr)) _
  refine wp_steps 1 (t' := (1, [some (.int w)], [.int w], (HD, mi, ml, mr))) rfl ?_
  by_cases s_1 : w = 2
  · refine wp_sw 2 rfl (by rw [s_1]; decide) ?_
    refine wp_steps 1 (t' := (3, [some (.int w)], [.int 9], (HD, mi, ml, mr))) rfl ?_
    refine wp_ret rfl rfl ⟨⟨Nat.le_refl _, Nat.le_refl _⟩, ?_⟩
    refine ⟨?_, rfl⟩
    first | (simp [mOf, s_1]; done) | (exfalso; simp_all; done)
  by_cases s_2 : w = 3
  · refine wp_sw 4 rfl (by rw [s_2]; decide) ?_
    refine wp_steps 1 (t' := (5, [some (.int w)], [.int 99], (HD, mi, ml, mr))) rfl ?_
    refine wp_ret rfl rfl ⟨⟨Nat.le_refl _, Nat.le_refl _⟩, ?_⟩
    refine ⟨?_, rfl⟩
    first | (simp [mOf, s_1, s_2]; done) | (exfalso; simp_all; done)
  by_cases s_3 : w = 4
  · refine wp_sw 6 rfl (by rw [s_3]; decide) ?_
    refine wp_steps 1 (t' := (7, [some (.int w)], [.int 999], (HD, mi, ml, mr))) rfl ?_
    refine wp_ret rfl rfl ⟨⟨Nat.le_refl _, Nat.le_refl _⟩, ?_⟩
    refine ⟨?_, rfl⟩
    first | (simp [mOf, s_1, s_2, s_3]; done) | (exfalso; simp_all; done)
  by_cases s_4 : w = 5
  · refine wp_sw 8 rfl (by rw [s_4]; decide) ?_
    refine wp_steps 1 (t' := (9, [some (.int w)], [.int (-1)], (HD, mi, ml, mr))) rfl ?_
    refine wp_ret rfl rfl ⟨⟨Nat.le_refl _, Nat.le_refl _⟩, ?_⟩
    refine ⟨?_, rfl⟩
    first | (simp [mOf, s_1, s_2, s_3, s_4]; done) | (exfalso; simp_all; done)
  refine wp_sw 10 rfl (aSw_out [2, 3, 4, 5] (List.forall_mem_cons.mpr ⟨s_1, List.forall_mem_cons.mpr ⟨s_2, List.forall_mem_cons.mpr ⟨s_3, List.forall_mem_cons.mpr ⟨s_4, fun _ h => absurd h List.not_mem_nil⟩⟩⟩⟩) (by decide)) ?_
  refine wp_steps 1 (t' := (11, [some (.int w)], [.int 99], (HD, mi, ml, mr))) rfl ?_
  refine wp_ret rfl rfl ⟨⟨Nat.le_refl _, Nat.le_refl _⟩, ?_⟩
  refine ⟨?_, rfl⟩
  first | (simp [mOf, s_1, s_2, s_3, s_4]; done) | (exfalso; simp_all; done)
def vOf (m : Nat → Nat → Int32) (P : Nat) (w : Int32) : Int32 := if w = 2 then m P 1 else if w = 3 then m P 2 else if w = 4 then m P 3 else if w = 5 then m P 0 else if w < 10 then -2 else if aixn (w - 10) 8 = true then m (P + 1) (w - 10).toNatClampNeg else -2
theorem ite_aix {b : Bool} (h : ¬ (if b = true then (1 : Int32) else 0) = 0) : b = true := by
  cases b with
  | true => rfl
  | false => exact absurd rfl h
theorem ite_nix {b : Bool} (h : (if b = true then (1 : Int32) else 0) = 0) : b = false := by
  cases b with
  | true => exact absurd h (by decide)
  | false => rfl
set_option maxRecDepth 20000 in
set_option maxHeartbeats 1000000 in
theorem c_valueOf {X : aXt × Value} {mi : Nat → Nat → Int32} {ml : Nat → Nat → Int64} {mr : Nat → Nat → Option Nat} (hM : MRok mr) {P : Nat} (hP : P ∈ PUPS) {w : Int32} : aCW X 2 3 [.ref P, .int w] (HD, mi, ml, mr) (rdI mi ml mr (vOf mi P w)) := by
  refine cw_of (cd := cd_X0_valueOf) (nL := 2) rfl rfl ?_
  show aWP _ _ (0, [some (.ref P), some (.int w)], [], (HD, mi, ml, mr)) _
  refine wp_steps 1 (t' := (1, [some (.ref P), some (.int w)], [.int w], (HD, mi, ml, mr))) rfl ?_
  by_cases s_1 : w = 2
  · refine wp_sw 2 rfl (by rw [s_1]; decide) ?_
    refine wp_steps 1 (t' := (3, [some (.ref P), some (.int w)], [.ref P], (HD, mi, ml, mr))) rfl ?_
    refine wp_geti rfl (shP hP) (Or.inl rfl) ?_
    refine wp_ret rfl rfl ⟨⟨Nat.le_refl _, Nat.le_refl _⟩, ?_⟩
    exact ⟨by simp [vOf, s_1], rfl⟩
  by_cases s_2 : w = 3
  · refine wp_sw 5 rfl (by rw [s_2]; decide) ?_
    refine wp_steps 1 (t' := (6, [some (.ref P), some (.int w)], [.ref P], (HD, mi, ml, mr))) rfl ?_
    refine wp_geti rfl (shP hP) (Or.inl rfl) ?_
    refine wp_ret rfl rfl ⟨⟨Nat.le_refl _, Nat.le_refl _⟩, ?_⟩
    exact ⟨by simp [vOf, s_1, s_2], rfl⟩
  by_cases s_3 : w = 4
  · refine wp_sw 8 rfl (by rw [s_3]; decide) ?_
    refine wp_steps 1 (t' := (9, [some (.ref P), some (.int w)], [.ref P], (HD, mi, ml, mr))) rfl ?_
    refine wp_geti rfl (shP hP) (Or.inl rfl) ?_
    refine wp_ret rfl rfl ⟨⟨Nat.le_refl _, Nat.le_refl _⟩, ?_⟩
    exact ⟨by simp [vOf, s_1, s_2, s_3], rfl⟩
  by_cases s_4 : w = 5
  · refine wp_sw 11 rfl (by rw [s_4]; decide) ?_
    refine wp_steps 1 (t' := (12, [some (.ref P), some (.int w)], [.ref P], (HD, mi, ml, mr))) rfl ?_
    refine wp_geti rfl (shP hP) (Or.inl rfl) ?_
    refine wp_ret rfl rfl ⟨⟨Nat.le_refl _, Nat.le_refl _⟩, ?_⟩
    exact ⟨by simp [vOf, s_1, s_2, s_3, s_4], rfl⟩
  refine wp_sw 14 rfl (aSw_out [2, 3, 4, 5] (List.forall_mem_cons.mpr ⟨s_1, List.forall_mem_cons.mpr ⟨s_2, List.forall_mem_cons.mpr ⟨s_3, List.forall_mem_cons.mpr ⟨s_4, fun _ h => absurd h List.not_mem_nil⟩⟩⟩⟩) (by decide)) ?_
  refine wp_steps 2 (t' := (16, [some (.ref P), some (.int w)], [.int 10, .int w], (HD, mi, ml, mr))) rfl ?_
  refine wp_bC rfl (fun c_5 => ?_) (fun c_5 => ?_)
  · have c_5 : w < 10 := of_decide_eq_true c_5
    refine wp_steps 1 (t' := (30, [some (.ref P), some (.int w)], [.int (-2)], (HD, mi, ml, mr))) rfl ?_
    refine wp_ret rfl rfl ⟨⟨Nat.le_refl _, Nat.le_refl _⟩, ?_⟩
    exact ⟨by simp [vOf, s_1, s_2, s_3, s_4, c_5], rfl⟩
  · have c_5 : ¬ (w < 10) := of_decide_eq_false c_5
    refine wp_steps 3 (t' := (20, [some (.ref P), some (.int w)], [.int (w - 10)], (HD, mi, ml, mr))) rfl ?_
    refine wp_cal (as := [.int (w - 10)]) rfl rfl rfl (by decide) (c_isStreet) (by decide) ?_
    rintro _ _ ⟨rfl, rfl⟩
    show aWP _ _ (21, [some (.ref P), some (.int w)], [.int (if aixn (w - 10) 8 = true then (1 : Int32) else 0)], (HD, mi, ml, mr)) _
    refine wp_bI rfl (fun c_6 => ?_) (fun c_6 => ?_)
    · have c_6 : (if aixn (w - 10) 8 = true then (1 : Int32) else 0) = 0 := of_decide_eq_true c_6
      refine wp_steps 1 (t' := (30, [some (.ref P), some (.int w)], [.int (-2)], (HD, mi, ml, mr))) rfl ?_
      refine wp_ret rfl rfl ⟨⟨Nat.le_refl _, Nat.le_refl _⟩, ?_⟩
      exact ⟨by simp [vOf, s_1, s_2, s_3, s_4, c_5, ite_nix c_6], rfl⟩
    · have c_6 : ¬ ((if aixn (w - 10) 8 = true then (1 : Int32) else 0) = 0) := of_decide_eq_false c_6
      refine wp_steps 1 (t' := (23, [some (.ref P), some (.int w)], [.ref P], (HD, mi, ml, mr))) rfl ?_
      refine wp_getr rfl (shP hP) rfl (hM _ (mlP hP)) ?_
      refine wp_steps 3 (t' := (27, [some (.ref P), some (.int w)], [.int (w - 10), .ref (P + 1)], (HD, mi, ml, mr))) rfl ?_
      refine wp_iald rfl (shPs hP) (ite_aix c_6) ?_
      refine wp_steps 1 (t' := (30, [some (.ref P), some (.int w)], [.int (mi (P + 1) (w - 10).toNatClampNeg)], (HD, mi, ml, mr))) rfl ?_
      refine wp_ret rfl rfl ⟨⟨Nat.le_refl _, Nat.le_refl _⟩, ?_⟩
      exact ⟨by simp [vOf, s_1, s_2, s_3, s_4, c_5, ite_aix c_6], rfl⟩
set_option maxRecDepth 20000 in
set_option maxHeartbeats 1000000 in
theorem c_begin {X : aXt × Value} {mi : Nat → Nat → Int32} {ml : Nat → Nat → Int64} {mr : Nat → Nat → Option Nat} (hM : MRok mr) {P : Nat} (hP : P ∈ PUPS) {kd nu : Int32} : aCW X 2 1 [.ref P, .int kd, .int nu] (HD, mi, ml, mr) (fun r h' => r = none ∧ h' = (HD, afil (aup (aup (aup (aup mi P 0 kd) P 1 nu) P 2 0) P 3 0) (P + 1) 8 0, ml, mr)) := by
  refine cw_of (cd := cd_X0_begin) (nL := 3) rfl rfl ?_
  show aWP _ _ (0, [some (.ref P), some (.int kd), some (.int nu)], [], (HD, mi, ml, mr)) _
  refine wp_steps 2 (t' := (2, [some (.ref P), some (.int kd), some (.int nu)], [.int kd, .ref P], (HD, mi, ml, mr))) rfl ?_
  refine wp_puti rfl (shP hP) rfl (fun m_1 h_2 => ?_)
  subst h_2
  refine wp_steps 2 (t' := (5, [some (.ref P), some (.int kd), some (.int nu)], [.int nu, .ref P], (HD, (aup mi P 0 kd), ml, mr))) rfl ?_
  refine wp_puti rfl (shP hP) rfl (fun m_3 h_4 => ?_)
  subst h_4
  refine wp_steps 2 (t' := (8, [some (.ref P), some (.int kd), some (.int nu)], [.int 0, .ref P], (HD, (aup (aup mi P 0 kd) P 1 nu), ml, mr))) rfl ?_
  refine wp_puti rfl (shP hP) rfl (fun m_5 h_6 => ?_)
  subst h_6
  refine wp_steps 2 (t' := (11, [some (.ref P), some (.int kd), some (.int nu)], [.int 0, .ref P], (HD, (aup (aup (aup mi P 0 kd) P 1 nu) P 2 0), ml, mr))) rfl ?_
  refine wp_puti rfl (shP hP) rfl (fun m_7 h_8 => ?_)
  subst h_8
  refine wp_steps 1 (t' := (13, [some (.ref P), some (.int kd), some (.int nu)], [.ref P], (HD, (aup (aup (aup (aup mi P 0 kd) P 1 nu) P 2 0) P 3 0), ml, mr))) rfl ?_
  refine wp_getr rfl (shP hP) rfl (hM _ (mlP hP)) ?_
  refine wp_steps 1 (t' := (15, [some (.ref P), some (.int kd), some (.int nu)], [.int 0, .ref (P + 1)], (HD, (aup (aup (aup (aup mi P 0 kd) P 1 nu) P 2 0) P 3 0), ml, mr))) rfl ?_
  refine wp_cal (as := [.ref (P + 1), .int 0]) rfl rfl rfl (by decide) (c_fill (shPs hP) (by decide)) (by decide) ?_
  rintro _ _ ⟨rfl, rfl⟩
  show aWP _ _ (16, [some (.ref P), some (.int kd), some (.int nu)], [], (HD, (afil (aup (aup (aup (aup mi P 0 kd) P 1 nu) P 2 0) P 3 0) (P + 1) 8 0), ml, mr)) _
  refine wp_ret rfl rfl ⟨⟨Nat.le_refl _, Nat.le_refl _⟩, ?_⟩
  exact ⟨rfl, rfl⟩
