/-! the reference: told, a learner comes (written by wip/whole/mkrefH.py) -/
set_option maxRecDepth 20000 in
set_option maxHeartbeats 1000000 in
theorem c_isOf_p {X : aXt × Value} {mi : Nat → Nat → Int32} {ml : Nat → Nat → Int64} {mr : Nat → Nat → Option Nat} (hM : MRok mr) {N : Nat} (hN : mi 84 12 = nI N) (hN5 : N ≤ 5) {p : Nat} (hpN : p < N) {w : Int32} (hw : ¬ w = 0 ∧ ¬ w = 1) : aCW X 3 119 [.ref 84, .int w, .int (nI p)] (HD, mi, ml, mr) (rdI mi ml mr 1) := by
  refine cw_of (cd := cd_X7_isOf) (nL := 3) rfl rfl ?_
  show aWP _ _ (0, [some (.ref 84), some (.int w), some (.int (nI p))], [], (HD, mi, ml, mr)) _
  refine wp_steps 1 (t' := (1, [some (.ref 84), some (.int w), some (.int (nI p))], [.int w], (HD, mi, ml, mr))) rfl ?_
  refine wp_bI rfl (fun c_1 => ?_) (fun c_1 => ?_)
  · have c_1 : w = 0 := of_decide_eq_true c_1
    exact absurd c_1 hw.1
  have c_1 : ¬ (w = 0) := of_decide_eq_false c_1
  refine wp_steps 2 (t' := (4, [some (.ref 84), some (.int w), some (.int (nI p))], [.int 1, .int w], (HD, mi, ml, mr))) rfl ?_
  refine wp_bC rfl (fun c_2 => ?_) (fun c_2 => ?_)
  rotate_left
  · have c_2 : w = 1 := Decidable.not_not.mp (of_decide_eq_false c_2)
    exact absurd c_2 hw.2
  have c_2 : ¬ w = 1 := of_decide_eq_true c_2
  refine wp_steps 2 (t' := (11, [some (.ref 84), some (.int w), some (.int (nI p))], [.int (nI p), .ref 84], (HD, mi, ml, mr))) rfl ?_
  refine wp_calv (as := [.int (nI p)]) rfl rfl rfl (Nat.le_of_ble_eq_true rfl) ⟨by decide, rfl⟩ ((c_isOne_ok (mi := mi) (ml := ml) hM hN hN5 hpN)) (by decide) ?_
  rintro _ _ ⟨rfl, rfl⟩
  show aWP _ _ (12, [some (.ref 84), some (.int w), some (.int (nI p))], [.int 1], (HD, mi, ml, mr)) _
  refine wp_bI rfl (fun c_3 => ?_) (fun c_3 => ?_)
  · have c_3 : (1 : Int32) = 0 := of_decide_eq_true c_3
    exact absurd c_3 (by decide)
  have c_3 : ¬ ((1 : Int32) = 0) := of_decide_eq_false c_3
  refine wp_steps 2 (t' := (16, [some (.ref 84), some (.int w), some (.int (nI p))], [.int 1], (HD, mi, ml, mr))) rfl ?_
  refine wp_ret rfl rfl ⟨⟨Nat.le_refl _, Nat.le_refl _⟩, ?_⟩
  exact ⟨rfl, rfl⟩
set_option maxRecDepth 20000 in
set_option maxHeartbeats 1000000 in
theorem c_isOf_n {X : aXt × Value} {mi : Nat → Nat → Int32} {ml : Nat → Nat → Int64} {mr : Nat → Nat → Option Nat} (hM : MRok mr) {N : Nat} (hN : mi 84 12 = nI N) (hN5 : N ≤ 5) {one : Int32} (hg : ¬ aixn one N = true) {w : Int32} (hw : ¬ w = 0 ∧ ¬ w = 1) : aCW X 3 119 [.ref 84, .int w, .int one] (HD, mi, ml, mr) (rdI mi ml mr 0) := by
  refine cw_of (cd := cd_X7_isOf) (nL := 3) rfl rfl ?_
  show aWP _ _ (0, [some (.ref 84), some (.int w), some (.int one)], [], (HD, mi, ml, mr)) _
  refine wp_steps 1 (t' := (1, [some (.ref 84), some (.int w), some (.int one)], [.int w], (HD, mi, ml, mr))) rfl ?_
  refine wp_bI rfl (fun c_1 => ?_) (fun c_1 => ?_)
  · have c_1 : w = 0 := of_decide_eq_true c_1
    exact absurd c_1 hw.1
  have c_1 : ¬ (w = 0) := of_decide_eq_false c_1
  refine wp_steps 2 (t' := (4, [some (.ref 84), some (.int w), some (.int one)], [.int 1, .int w], (HD, mi, ml, mr))) rfl ?_
  refine wp_bC rfl (fun c_2 => ?_) (fun c_2 => ?_)
  rotate_left
  · have c_2 : w = 1 := Decidable.not_not.mp (of_decide_eq_false c_2)
    exact absurd c_2 hw.2
  have c_2 : ¬ w = 1 := of_decide_eq_true c_2
  refine wp_steps 2 (t' := (11, [some (.ref 84), some (.int w), some (.int one)], [.int one, .ref 84], (HD, mi, ml, mr))) rfl ?_
  refine wp_calv (as := [.int one]) rfl rfl rfl (Nat.le_of_ble_eq_true rfl) ⟨by decide, rfl⟩ ((c_isOne_no (ml := ml) hM hN hN5 hg)) (by decide) ?_
  rintro _ _ ⟨rfl, rfl⟩
  show aWP _ _ (12, [some (.ref 84), some (.int w), some (.int one)], [.int 0], (HD, mi, ml, mr)) _
  refine wp_bI rfl (fun c_3 => ?_) (fun c_3 => ?_)
  rotate_left
  · have c_3 : ¬ ((0 : Int32) = 0) := of_decide_eq_false c_3
    exact absurd c_3 (by decide)
  have c_3 : (0 : Int32) = 0 := of_decide_eq_true c_3
  refine wp_steps 1 (t' := (16, [some (.ref 84), some (.int w), some (.int one)], [.int 0], (HD, mi, ml, mr))) rfl ?_
  refine wp_ret rfl rfl ⟨⟨Nat.le_refl _, Nat.le_refl _⟩, ?_⟩
  exact ⟨rfl, rfl⟩
set_option maxRecDepth 20000 in
set_option maxHeartbeats 1000000 in
theorem c_isOf_0 {X : aXt × Value} {mi : Nat → Nat → Int32} {ml : Nat → Nat → Int64} {mr : Nat → Nat → Option Nat} {one : Int32} : aCW X 3 119 [.ref 84, .int 0, .int one] (HD, mi, ml, mr) (rdI mi ml mr 1) := by
  refine cw_of (cd := cd_X7_isOf) (nL := 3) rfl rfl ?_
  show aWP _ _ (0, [some (.ref 84), some (.int 0), some (.int one)], [], (HD, mi, ml, mr)) _
  refine wp_steps 1 (t' := (1, [some (.ref 84), some (.int 0), some (.int one)], [.int 0], (HD, mi, ml, mr))) rfl ?_
  refine wp_bI rfl (fun c_1 => ?_) (fun c_1 => ?_)
  rotate_left
  · have c_1 : ¬ ((0 : Int32) = 0) := of_decide_eq_false c_1
    exact absurd c_1 (by decide)
  have c_1 : (0 : Int32) = 0 := of_decide_eq_true c_1
  refine wp_steps 2 (t' := (16, [some (.ref 84), some (.int 0), some (.int one)], [.int 1], (HD, mi, ml, mr))) rfl ?_
  refine wp_ret rfl rfl ⟨⟨Nat.le_refl _, Nat.le_refl _⟩, ?_⟩
  exact ⟨rfl, rfl⟩
set_option maxRecDepth 20000 in
set_option maxHeartbeats 1000000 in
theorem c_isOf_1 {X : aXt × Value} {mi : Nat → Nat → Int32} {ml : Nat → Nat → Int64} {mr : Nat → Nat → Option Nat} {one : Int32} : aCW X 3 119 [.ref 84, .int 1, .int one] (HD, mi, ml, mr) (rdI mi ml mr (if aixn one 8 = true then 1 else 0)) := by
  refine cw_of (cd := cd_X7_isOf) (nL := 3) rfl rfl ?_
  show aWP _ _ (0, [some (.ref 84), some (.int 1), some (.int one)], [], (HD, mi, ml, mr)) _
  refine wp_steps 1 (t' := (1, [some (.ref 84), some (.int 1), some (.int one)], [.int 1], (HD, mi, ml, mr))) rfl ?_
  refine wp_bI rfl (fun c_1 => ?_) (fun c_1 => ?_)
  · have c_1 : (1 : Int32) = 0 := of_decide_eq_true c_1
    exact absurd c_1 (by decide)
  have c_1 : ¬ ((1 : Int32) = 0) := of_decide_eq_false c_1
  refine wp_steps 2 (t' := (4, [some (.ref 84), some (.int 1), some (.int one)], [.int 1, .int 1], (HD, mi, ml, mr))) rfl ?_
  refine wp_bC rfl (fun c_2 => ?_) (fun c_2 => ?_)
  · have c_2 : ¬ (1 : Int32) = 1 := of_decide_eq_true c_2
    exact absurd c_2 (by decide)
  have c_2 : (1 : Int32) = 1 := Decidable.not_not.mp (of_decide_eq_false c_2)
  refine wp_steps 1 (t' := (6, [some (.ref 84), some (.int 1), some (.int one)], [.int one], (HD, mi, ml, mr))) rfl ?_
  refine wp_cal (as := [.int one]) rfl rfl rfl (Nat.le_of_ble_eq_true rfl) (c_risStreet) (by decide) ?_
  rintro _ _ ⟨rfl, rfl⟩
  show aWP _ _ (7, [some (.ref 84), some (.int 1), some (.int one)], [.int (if aixn one 8 = true then (1 : Int32) else 0)], (HD, mi, ml, mr)) _
  refine wp_bI rfl (fun c_3 => ?_) (fun c_3 => ?_)
  · have c_3 : (if aixn one 8 = true then (1 : Int32) else 0) = 0 := of_decide_eq_true c_3
    refine wp_steps 1 (t' := (16, [some (.ref 84), some (.int 1), some (.int one)], [.int 0], (HD, mi, ml, mr))) rfl ?_
    refine wp_ret rfl rfl ⟨⟨Nat.le_refl _, Nat.le_refl _⟩, ?_⟩
    exact ⟨by rw [ite_nix c_3]; rfl, rfl⟩
  · have c_3 : ¬ ((if aixn one 8 = true then (1 : Int32) else 0) = 0) := of_decide_eq_false c_3
    refine wp_steps 3 (t' := (16, [some (.ref 84), some (.int 1), some (.int one)], [.int 1], (HD, mi, ml, mr))) rfl ?_
    refine wp_ret rfl rfl ⟨⟨Nat.le_refl _, Nat.le_refl _⟩, ?_⟩
    exact ⟨by rw [ite_aix c_3]; rfl, rfl⟩
set_option maxRecDepth 20000 in
set_option maxHeartbeats 1000000 in
theorem q_told_0 {X : aXt × Value} {mi : Nat → Nat → Int32} {ml : Nat → Nat → Int64} {mr : Nat → Nat → Option Nat} (hM : MRok mr) {one : Int32} : aCW X 48 123 [.ref 84, .int one, .int 0] (HD, mi, ml, mr) (qR mi mr (.int (mi 84 7))) := by
  refine cw_of (cd := cd_X7_told) (nL := 3) rfl rfl ?_
  show aWP _ _ (0, [some (.ref 84), some (.int one), some (.int 0)], [], (HD, mi, ml, mr)) _
  refine wp_steps 4 (t' := (4, [some (.ref 84), some (.int one), some (.int 0)], [.long 7, .long 0, .long ((0 : Int32).toInt64)], (HD, mi, ml, mr))) rfl ?_
  refine wp_cal (as := [.long ((0 : Int32).toInt64), .long 0, .long 7]) rfl rfl rfl (Nat.le_of_ble_eq_true rfl) ((c_in (x := 0) (lo := 0) (hi := 7) (by decide) (by decide) (by decide))) (by decide) ?_
  rintro _ _ ⟨rfl, rfl⟩
  rw [if_pos (by decide)]
  show aWP _ _ (5, [some (.ref 84), some (.int one), some (.int 0)], [.int 1], (HD, mi, ml, mr)) _
  refine wp_bI rfl (fun c_1 => ?_) (fun c_1 => ?_)
  rotate_left
  · have c_1 : (1 : Int32) = 0 := Decidable.not_not.mp (of_decide_eq_false c_1)
    exact absurd c_1 (by decide)
  have c_1 : ¬ (1 : Int32) = 0 := of_decide_eq_true c_1
  refine wp_steps 3 (t' := (21, [some (.ref 84), some (.int one), some (.int 0)], [.int one, .int 0, .ref 84], (HD, mi, ml, mr))) rfl ?_
  refine wp_calv (as := [.int 0, .int one]) rfl rfl rfl (Nat.le_of_ble_eq_true rfl) ⟨by decide, rfl⟩ ((c_isOf_0 (ml := ml))) (by decide) ?_
  rintro _ _ ⟨rfl, rfl⟩
  show aWP _ _ (22, [some (.ref 84), some (.int one), some (.int 0)], [.int 1], (HD, mi, ml, mr)) _
  refine wp_bI rfl (fun c_2 => ?_) (fun c_2 => ?_)
  rotate_left
  · have c_2 : (1 : Int32) = 0 := Decidable.not_not.mp (of_decide_eq_false c_2)
    exact absurd c_2 (by decide)
  have c_2 : ¬ (1 : Int32) = 0 := of_decide_eq_true c_2
  refine wp_steps 2 (t' := (27, [some (.ref 84), some (.int one), some (.int 0)], [.int 5, .int 0], (HD, mi, ml, mr))) rfl ?_
  refine wp_bC rfl (fun c_3 => ?_) (fun c_3 => ?_)
  · have c_3 : 5 ≤ (0 : Int32) := of_decide_eq_true c_3
    exact absurd c_3 (by decide)
  have c_3 : ¬ (5 ≤ (0 : Int32)) := of_decide_eq_false c_3
  refine wp_steps 1 (t' := (29, [some (.ref 84), some (.int one), some (.int 0)], [.int 0], (HD, mi, ml, mr))) rfl ?_
  refine wp_bI rfl (fun c_4 => ?_) (fun c_4 => ?_)
  · have c_4 : ¬ (0 : Int32) = 0 := of_decide_eq_true c_4
    exact absurd c_4 (by decide)
  have c_4 : (0 : Int32) = 0 := Decidable.not_not.mp (of_decide_eq_false c_4)
  refine wp_steps 1 (t' := (31, [some (.ref 84), some (.int one), some (.int 0)], [.ref 84], (HD, mi, ml, mr))) rfl ?_
  refine wp_geti rfl ⟨by decide, rfl⟩ (Or.inl rfl) ?_
  refine wp_steps 1 (t' := (57, [some (.ref 84), some (.int one), some (.int 0)], [.int (mi 84 7)], (HD, mi, ml, mr))) rfl ?_
  refine wp_ret rfl rfl ⟨⟨Nat.le_refl _, Nat.le_refl _⟩, ?_⟩
  exact ⟨rfl, mi, ml, rfl, frQ.rf mi⟩
set_option maxRecDepth 20000 in
set_option maxHeartbeats 1000000 in
theorem q_told_1 {X : aXt × Value} {mi : Nat → Nat → Int32} {ml : Nat → Nat → Int64} {mr : Nat → Nat → Option Nat} (hM : MRok mr) {one : Int32} : aCW X 48 123 [.ref 84, .int one, .int 1] (HD, mi, ml, mr) (qR mi mr (.int (if aixn one 8 = true then mi 88 one.toNatClampNeg else -2))) := by
  refine cw_of (cd := cd_X7_told) (nL := 3) rfl rfl ?_
  show aWP _ _ (0, [some (.ref 84), some (.int one), some (.int 1)], [], (HD, mi, ml, mr)) _
  refine wp_steps 4 (t' := (4, [some (.ref 84), some (.int one), some (.int 1)], [.long 7, .long 0, .long ((1 : Int32).toInt64)], (HD, mi, ml, mr))) rfl ?_
  refine wp_cal (as := [.long ((1 : Int32).toInt64), .long 0, .long 7]) rfl rfl rfl (Nat.le_of_ble_eq_true rfl) ((c_in (x := 1) (lo := 0) (hi := 7) (by decide) (by decide) (by decide))) (by decide) ?_
  rintro _ _ ⟨rfl, rfl⟩
  rw [if_pos (by decide)]
  show aWP _ _ (5, [some (.ref 84), some (.int one), some (.int 1)], [.int 1], (HD, mi, ml, mr)) _
  refine wp_bI rfl (fun c_1 => ?_) (fun c_1 => ?_)
  rotate_left
  · have c_1 : (1 : Int32) = 0 := Decidable.not_not.mp (of_decide_eq_false c_1)
    exact absurd c_1 (by decide)
  have c_1 : ¬ (1 : Int32) = 0 := of_decide_eq_true c_1
  refine wp_steps 3 (t' := (21, [some (.ref 84), some (.int one), some (.int 1)], [.int one, .int 1, .ref 84], (HD, mi, ml, mr))) rfl ?_
  refine wp_calv (as := [.int 1, .int one]) rfl rfl rfl (Nat.le_of_ble_eq_true rfl) ⟨by decide, rfl⟩ ((c_isOf_1 (ml := ml))) (by decide) ?_
  rintro _ _ ⟨rfl, rfl⟩
  show aWP _ _ (22, [some (.ref 84), some (.int one), some (.int 1)], [.int (if aixn one 8 = true then (1 : Int32) else 0)], (HD, mi, ml, mr)) _
  refine wp_bI rfl (fun c_2 => ?_) (fun c_2 => ?_)
  · have c_2 : ¬ (if aixn one 8 = true then (1 : Int32) else 0) = 0 := of_decide_eq_true c_2
    refine wp_steps 2 (t' := (27, [some (.ref 84), some (.int one), some (.int 1)], [.int 5, .int 1], (HD, mi, ml, mr))) rfl ?_
    refine wp_bC rfl (fun c_3 => ?_) (fun c_3 => ?_)
    · have c_3 : 5 ≤ (1 : Int32) := of_decide_eq_true c_3
      exact absurd c_3 (by decide)
    have c_3 : ¬ (5 ≤ (1 : Int32)) := of_decide_eq_false c_3
    refine wp_steps 1 (t' := (29, [some (.ref 84), some (.int one), some (.int 1)], [.int 1], (HD, mi, ml, mr))) rfl ?_
    refine wp_bI rfl (fun c_4 => ?_) (fun c_4 => ?_)
    rotate_left
    · have c_4 : (1 : Int32) = 0 := Decidable.not_not.mp (of_decide_eq_false c_4)
      exact absurd c_4 (by decide)
    have c_4 : ¬ (1 : Int32) = 0 := of_decide_eq_true c_4
    refine wp_steps 2 (t' := (35, [some (.ref 84), some (.int one), some (.int 1)], [.int 1, .int 1], (HD, mi, ml, mr))) rfl ?_
    refine wp_bC rfl (fun c_5 => ?_) (fun c_5 => ?_)
    · have c_5 : ¬ (1 : Int32) = 1 := of_decide_eq_true c_5
      exact absurd c_5 (by decide)
    have c_5 : (1 : Int32) = 1 := Decidable.not_not.mp (of_decide_eq_false c_5)
    refine wp_steps 1 (t' := (37, [some (.ref 84), some (.int one), some (.int 1)], [.ref 84], (HD, mi, ml, mr))) rfl ?_
    refine wp_getr rfl ⟨by decide, rfl⟩ rfl (hM (84, 8, 88) (by decide)) ?_
    refine wp_steps 1 (t' := (39, [some (.ref 84), some (.int one), some (.int 1)], [.int one, .ref 88], (HD, mi, ml, mr))) rfl ?_
    refine wp_iald rfl ⟨by decide, rfl⟩ (ite_aix c_2) ?_
    refine wp_steps 1 (t' := (57, [some (.ref 84), some (.int one), some (.int 1)], [.int (mi 88 one.toNatClampNeg)], (HD, mi, ml, mr))) rfl ?_
    refine wp_ret rfl rfl ⟨⟨Nat.le_refl _, Nat.le_refl _⟩, ?_⟩
    exact ⟨by rw [if_pos (show aixn one 8 = true from (ite_aix c_2))], mi, ml, rfl, frQ.rf mi⟩
  · have c_2 : (if aixn one 8 = true then (1 : Int32) else 0) = 0 := Decidable.not_not.mp (of_decide_eq_false c_2)
    refine wp_steps 1 (t' := (24, [some (.ref 84), some (.int one), some (.int 1)], [.int (-2)], (HD, mi, ml, mr))) rfl ?_
    refine wp_ret rfl rfl ⟨⟨Nat.le_refl _, Nat.le_refl _⟩, ?_⟩
    exact ⟨by rw [if_neg (show ¬ (aixn one 8 = true) from fun z => (fun z => absurd (z.symm.trans (ite_nix c_2)) Bool.noConfusion) z)], mi, ml, rfl, frQ.rf mi⟩
set_option maxRecDepth 20000 in
set_option maxHeartbeats 1000000 in
theorem q_told_no {X : aXt × Value} {mi : Nat → Nat → Int32} {ml : Nat → Nat → Int64} {mr : Nat → Nat → Option Nat} (hM : MRok mr) {N : Nat} (hN : mi 84 12 = nI N) (hN5 : N ≤ 5) {one w : Int32} (hg : ¬ aixn one N = true) (hw : ¬ w = 0 ∧ ¬ w = 1) : aCW X 48 123 [.ref 84, .int one, .int w] (HD, mi, ml, mr) (qR mi mr (.int (-2))) := by
  refine cw_of (cd := cd_X7_told) (nL := 3) rfl rfl ?_
  show aWP _ _ (0, [some (.ref 84), some (.int one), some (.int w)], [], (HD, mi, ml, mr)) _
  refine wp_steps 4 (t' := (4, [some (.ref 84), some (.int one), some (.int w)], [.long 7, .long 0, .long w.toInt64], (HD, mi, ml, mr))) rfl ?_
  refine wp_cal (as := [.long w.toInt64, .long 0, .long 7]) rfl rfl rfl (Nat.le_of_ble_eq_true rfl) ((c_in (x := w) (lo := 0) (hi := 7) rfl (by decide) (by decide))) (by decide) ?_
  rintro _ _ ⟨rfl, rfl⟩
  show aWP _ _ (5, [some (.ref 84), some (.int one), some (.int w)], [.int (if inR 0 7 w then (1 : Int32) else 0)], (HD, mi, ml, mr)) _
  refine wp_bI rfl (fun c_1 => ?_) (fun c_1 => ?_)
  · have c_1 : ¬ (if inR 0 7 w then (1 : Int32) else 0) = 0 := of_decide_eq_true c_1
    refine wp_steps 3 (t' := (21, [some (.ref 84), some (.int one), some (.int w)], [.int one, .int w, .ref 84], (HD, mi, ml, mr))) rfl ?_
    refine wp_calv (as := [.int w, .int one]) rfl rfl rfl (Nat.le_of_ble_eq_true rfl) ⟨by decide, rfl⟩ ((c_isOf_n (ml := ml) hM hN hN5 hg hw)) (by decide) ?_
    rintro _ _ ⟨rfl, rfl⟩
    show aWP _ _ (22, [some (.ref 84), some (.int one), some (.int w)], [.int 0], (HD, mi, ml, mr)) _
    refine wp_bI rfl (fun c_2 => ?_) (fun c_2 => ?_)
    · have c_2 : ¬ (0 : Int32) = 0 := of_decide_eq_true c_2
      exact absurd c_2 (by decide)
    have c_2 : (0 : Int32) = 0 := Decidable.not_not.mp (of_decide_eq_false c_2)
    refine wp_steps 1 (t' := (24, [some (.ref 84), some (.int one), some (.int w)], [.int (-2)], (HD, mi, ml, mr))) rfl ?_
    refine wp_ret rfl rfl ⟨⟨Nat.le_refl _, Nat.le_refl _⟩, ?_⟩
    exact ⟨rfl, mi, ml, rfl, frQ.rf mi⟩
  · have c_1 : (if inR 0 7 w then (1 : Int32) else 0) = 0 := Decidable.not_not.mp (of_decide_eq_false c_1)
    refine wp_steps 4 (t' := (10, [some (.ref 84), some (.int one), some (.int w)], [.long 17, .long 10, .long w.toInt64], (HD, mi, ml, mr))) rfl ?_
    refine wp_cal (as := [.long w.toInt64, .long 10, .long 17]) rfl rfl rfl (Nat.le_of_ble_eq_true rfl) ((c_in (x := w) (lo := 10) (hi := 17) rfl (by decide) (by decide))) (by decide) ?_
    rintro _ _ ⟨rfl, rfl⟩
    show aWP _ _ (11, [some (.ref 84), some (.int one), some (.int w)], [.int (if inR 10 17 w then (1 : Int32) else 0)], (HD, mi, ml, mr)) _
    refine wp_bI rfl (fun c_3 => ?_) (fun c_3 => ?_)
    · have c_3 : ¬ (if inR 10 17 w then (1 : Int32) else 0) = 0 := of_decide_eq_true c_3
      refine wp_steps 3 (t' := (21, [some (.ref 84), some (.int one), some (.int w)], [.int one, .int w, .ref 84], (HD, mi, ml, mr))) rfl ?_
      refine wp_calv (as := [.int w, .int one]) rfl rfl rfl (Nat.le_of_ble_eq_true rfl) ⟨by decide, rfl⟩ ((c_isOf_n (ml := ml) hM hN hN5 hg hw)) (by decide) ?_
      rintro _ _ ⟨rfl, rfl⟩
      show aWP _ _ (22, [some (.ref 84), some (.int one), some (.int w)], [.int 0], (HD, mi, ml, mr)) _
      refine wp_bI rfl (fun c_4 => ?_) (fun c_4 => ?_)
      · have c_4 : ¬ (0 : Int32) = 0 := of_decide_eq_true c_4
        exact absurd c_4 (by decide)
      have c_4 : (0 : Int32) = 0 := Decidable.not_not.mp (of_decide_eq_false c_4)
      refine wp_steps 1 (t' := (24, [some (.ref 84), some (.int one), some (.int w)], [.int (-2)], (HD, mi, ml, mr))) rfl ?_
      refine wp_ret rfl rfl ⟨⟨Nat.le_refl _, Nat.le_refl _⟩, ?_⟩
      exact ⟨rfl, mi, ml, rfl, frQ.rf mi⟩
    · have c_3 : (if inR 10 17 w then (1 : Int32) else 0) = 0 := Decidable.not_not.mp (of_decide_eq_false c_3)
      refine wp_steps 4 (t' := (16, [some (.ref 84), some (.int one), some (.int w)], [.long 27, .long 20, .long w.toInt64], (HD, mi, ml, mr))) rfl ?_
      refine wp_cal (as := [.long w.toInt64, .long 20, .long 27]) rfl rfl rfl (Nat.le_of_ble_eq_true rfl) ((c_in (x := w) (lo := 20) (hi := 27) rfl (by decide) (by decide))) (by decide) ?_
      rintro _ _ ⟨rfl, rfl⟩
      show aWP _ _ (17, [some (.ref 84), some (.int one), some (.int w)], [.int (if inR 20 27 w then (1 : Int32) else 0)], (HD, mi, ml, mr)) _
      refine wp_bI rfl (fun c_5 => ?_) (fun c_5 => ?_)
      · have c_5 : (if inR 20 27 w then (1 : Int32) else 0) = 0 := of_decide_eq_true c_5
        refine wp_steps 1 (t' := (24, [some (.ref 84), some (.int one), some (.int w)], [.int (-2)], (HD, mi, ml, mr))) rfl ?_
        refine wp_ret rfl rfl ⟨⟨Nat.le_refl _, Nat.le_refl _⟩, ?_⟩
        exact ⟨rfl, mi, ml, rfl, frQ.rf mi⟩
      · have c_5 : ¬ ((if inR 20 27 w then (1 : Int32) else 0) = 0) := of_decide_eq_false c_5
        refine wp_steps 3 (t' := (21, [some (.ref 84), some (.int one), some (.int w)], [.int one, .int w, .ref 84], (HD, mi, ml, mr))) rfl ?_
        refine wp_calv (as := [.int w, .int one]) rfl rfl rfl (Nat.le_of_ble_eq_true rfl) ⟨by decide, rfl⟩ ((c_isOf_n (ml := ml) hM hN hN5 hg hw)) (by decide) ?_
        rintro _ _ ⟨rfl, rfl⟩
        show aWP _ _ (22, [some (.ref 84), some (.int one), some (.int w)], [.int 0], (HD, mi, ml, mr)) _
        refine wp_bI rfl (fun c_6 => ?_) (fun c_6 => ?_)
        · have c_6 : ¬ (0 : Int32) = 0 := of_decide_eq_true c_6
          exact absurd c_6 (by decide)
        have c_6 : (0 : Int32) = 0 := Decidable.not_not.mp (of_decide_eq_false c_6)
        refine wp_steps 1 (t' := (24, [some (.ref 84), some (.int one), some (.int w)], [.int (-2)], (HD, mi, ml, mr))) rfl ?_
        refine wp_ret rfl rfl ⟨⟨Nat.le_refl _, Nat.le_refl _⟩, ?_⟩
        exact ⟨rfl, mi, ml, rfl, frQ.rf mi⟩
set_option maxRecDepth 20000 in
set_option maxHeartbeats 1000000 in
theorem q_told_2p {X : aXt × Value} {mi : Nat → Nat → Int32} {ml : Nat → Nat → Int64} {mr : Nat → Nat → Option Nat} (hM : MRok mr) {N : Nat} (hN : mi 84 12 = nI N) (hN5 : N ≤ 5) {c0 c1 c2 : List Int32} (hR : RUX mi c0 c1 c2) {p : Nat} (hpN : p < N) (hok : okU (puR mi p)) : aCW X 48 123 [.ref 84, .int (nI p), .int 2] (HD, mi, ml, mr) (qR mi mr (.int (toG (twR mi c0 c1 c2) (puR mi p) 2))) := by
  have hp5 : p < 5 := by omega
  refine cw_of (cd := cd_X7_told) (nL := 3) rfl rfl ?_
  show aWP _ _ (0, [some (.ref 84), some (.int (nI p)), some (.int 2)], [], (HD, mi, ml, mr)) _
  refine wp_steps 4 (t' := (4, [some (.ref 84), some (.int (nI p)), some (.int 2)], [.long 7, .long 0, .long ((2 : Int32).toInt64)], (HD, mi, ml, mr))) rfl ?_
  refine wp_cal (as := [.long ((2 : Int32).toInt64), .long 0, .long 7]) rfl rfl rfl (Nat.le_of_ble_eq_true rfl) ((c_in (x := 2) (lo := 0) (hi := 7) (by decide) (by decide) (by decide))) (by decide) ?_
  rintro _ _ ⟨rfl, rfl⟩
  rw [if_pos (by decide)]
  show aWP _ _ (5, [some (.ref 84), some (.int (nI p)), some (.int 2)], [.int 1], (HD, mi, ml, mr)) _
  refine wp_bI rfl (fun c_1 => ?_) (fun c_1 => ?_)
  rotate_left
  · have c_1 : (1 : Int32) = 0 := Decidable.not_not.mp (of_decide_eq_false c_1)
    exact absurd c_1 (by decide)
  have c_1 : ¬ (1 : Int32) = 0 := of_decide_eq_true c_1
  refine wp_steps 3 (t' := (21, [some (.ref 84), some (.int (nI p)), some (.int 2)], [.int (nI p), .int 2, .ref 84], (HD, mi, ml, mr))) rfl ?_
  refine wp_calv (as := [.int 2, .int (nI p)]) rfl rfl rfl (Nat.le_of_ble_eq_true rfl) ⟨by decide, rfl⟩ ((c_isOf_p (ml := ml) hM hN hN5 hpN (by decide))) (by decide) ?_
  rintro _ _ ⟨rfl, rfl⟩
  show aWP _ _ (22, [some (.ref 84), some (.int (nI p)), some (.int 2)], [.int 1], (HD, mi, ml, mr)) _
  refine wp_bI rfl (fun c_2 => ?_) (fun c_2 => ?_)
  rotate_left
  · have c_2 : (1 : Int32) = 0 := Decidable.not_not.mp (of_decide_eq_false c_2)
    exact absurd c_2 (by decide)
  have c_2 : ¬ (1 : Int32) = 0 := of_decide_eq_true c_2
  refine wp_steps 2 (t' := (27, [some (.ref 84), some (.int (nI p)), some (.int 2)], [.int 5, .int 2], (HD, mi, ml, mr))) rfl ?_
  refine wp_bC rfl (fun c_3 => ?_) (fun c_3 => ?_)
  · have c_3 : 5 ≤ (2 : Int32) := of_decide_eq_true c_3
    exact absurd c_3 (by decide)
  have c_3 : ¬ (5 ≤ (2 : Int32)) := of_decide_eq_false c_3
  refine wp_steps 1 (t' := (29, [some (.ref 84), some (.int (nI p)), some (.int 2)], [.int 2], (HD, mi, ml, mr))) rfl ?_
  refine wp_bI rfl (fun c_4 => ?_) (fun c_4 => ?_)
  rotate_left
  · have c_4 : (2 : Int32) = 0 := Decidable.not_not.mp (of_decide_eq_false c_4)
    exact absurd c_4 (by decide)
  have c_4 : ¬ (2 : Int32) = 0 := of_decide_eq_true c_4
  refine wp_steps 2 (t' := (35, [some (.ref 84), some (.int (nI p)), some (.int 2)], [.int 1, .int 2], (HD, mi, ml, mr))) rfl ?_
  refine wp_bC rfl (fun c_5 => ?_) (fun c_5 => ?_)
  rotate_left
  · have c_5 : (2 : Int32) = 1 := Decidable.not_not.mp (of_decide_eq_false c_5)
    exact absurd c_5 (by decide)
  have c_5 : ¬ (2 : Int32) = 1 := of_decide_eq_true c_5
  refine wp_steps 2 (t' := (43, [some (.ref 84), some (.int (nI p)), some (.int 2)], [.int 2, .int 2], (HD, mi, ml, mr))) rfl ?_
  refine wp_bC rfl (fun c_6 => ?_) (fun c_6 => ?_)
  · have c_6 : ¬ (2 : Int32) = 2 := of_decide_eq_true c_6
    exact absurd c_6 (by decide)
  have c_6 : (2 : Int32) = 2 := Decidable.not_not.mp (of_decide_eq_false c_6)
  refine wp_steps 1 (t' := (45, [some (.ref 84), some (.int (nI p)), some (.int 2)], [.ref 84], (HD, mi, ml, mr))) rfl ?_
  refine wp_getr rfl ⟨by decide, rfl⟩ rfl (hM (84, 10, 90) (by decide)) ?_
  refine wp_steps 1 (t' := (47, [some (.ref 84), some (.int (nI p)), some (.int 2)], [.int (nI p), .ref 90], (HD, mi, ml, mr))) rfl ?_
  refine wp_iald rfl ⟨by decide, rfl⟩ (aix_nI (by omega) (by decide)) ?_
  rw [nI_clamp (n := p) (by omega)]
  refine wp_steps 1 (t' := (57, [some (.ref 84), some (.int (nI p)), some (.int 2)], [.int (mi 90 p)], (HD, mi, ml, mr))) rfl ?_
  refine wp_ret rfl rfl ⟨⟨Nat.le_refl _, Nat.le_refl _⟩, ?_⟩
  exact ⟨rfl, mi, ml, rfl, frQ.rf mi⟩
set_option maxRecDepth 20000 in
set_option maxHeartbeats 1000000 in
theorem q_told_3p {X : aXt × Value} {mi : Nat → Nat → Int32} {ml : Nat → Nat → Int64} {mr : Nat → Nat → Option Nat} (hM : MRok mr) {N : Nat} (hN : mi 84 12 = nI N) (hN5 : N ≤ 5) {c0 c1 c2 : List Int32} (hR : RUX mi c0 c1 c2) {p : Nat} (hpN : p < N) (hok : okU (puR mi p)) : aCW X 48 123 [.ref 84, .int (nI p), .int 3] (HD, mi, ml, mr) (qR mi mr (.int (toG (twR mi c0 c1 c2) (puR mi p) 3))) := by
  have hp5 : p < 5 := by omega
  refine cw_of (cd := cd_X7_told) (nL := 3) rfl rfl ?_
  show aWP _ _ (0, [some (.ref 84), some (.int (nI p)), some (.int 3)], [], (HD, mi, ml, mr)) _
  refine wp_steps 4 (t' := (4, [some (.ref 84), some (.int (nI p)), some (.int 3)], [.long 7, .long 0, .long ((3 : Int32).toInt64)], (HD, mi, ml, mr))) rfl ?_
  refine wp_cal (as := [.long ((3 : Int32).toInt64), .long 0, .long 7]) rfl rfl rfl (Nat.le_of_ble_eq_true rfl) ((c_in (x := 3) (lo := 0) (hi := 7) (by decide) (by decide) (by decide))) (by decide) ?_
  rintro _ _ ⟨rfl, rfl⟩
  rw [if_pos (by decide)]
  show aWP _ _ (5, [some (.ref 84), some (.int (nI p)), some (.int 3)], [.int 1], (HD, mi, ml, mr)) _
  refine wp_bI rfl (fun c_1 => ?_) (fun c_1 => ?_)
  rotate_left
  · have c_1 : (1 : Int32) = 0 := Decidable.not_not.mp (of_decide_eq_false c_1)
    exact absurd c_1 (by decide)
  have c_1 : ¬ (1 : Int32) = 0 := of_decide_eq_true c_1
  refine wp_steps 3 (t' := (21, [some (.ref 84), some (.int (nI p)), some (.int 3)], [.int (nI p), .int 3, .ref 84], (HD, mi, ml, mr))) rfl ?_
  refine wp_calv (as := [.int 3, .int (nI p)]) rfl rfl rfl (Nat.le_of_ble_eq_true rfl) ⟨by decide, rfl⟩ ((c_isOf_p (ml := ml) hM hN hN5 hpN (by decide))) (by decide) ?_
  rintro _ _ ⟨rfl, rfl⟩
  show aWP _ _ (22, [some (.ref 84), some (.int (nI p)), some (.int 3)], [.int 1], (HD, mi, ml, mr)) _
  refine wp_bI rfl (fun c_2 => ?_) (fun c_2 => ?_)
  rotate_left
  · have c_2 : (1 : Int32) = 0 := Decidable.not_not.mp (of_decide_eq_false c_2)
    exact absurd c_2 (by decide)
  have c_2 : ¬ (1 : Int32) = 0 := of_decide_eq_true c_2
  refine wp_steps 2 (t' := (27, [some (.ref 84), some (.int (nI p)), some (.int 3)], [.int 5, .int 3], (HD, mi, ml, mr))) rfl ?_
  refine wp_bC rfl (fun c_3 => ?_) (fun c_3 => ?_)
  · have c_3 : 5 ≤ (3 : Int32) := of_decide_eq_true c_3
    exact absurd c_3 (by decide)
  have c_3 : ¬ (5 ≤ (3 : Int32)) := of_decide_eq_false c_3
  refine wp_steps 1 (t' := (29, [some (.ref 84), some (.int (nI p)), some (.int 3)], [.int 3], (HD, mi, ml, mr))) rfl ?_
  refine wp_bI rfl (fun c_4 => ?_) (fun c_4 => ?_)
  rotate_left
  · have c_4 : (3 : Int32) = 0 := Decidable.not_not.mp (of_decide_eq_false c_4)
    exact absurd c_4 (by decide)
  have c_4 : ¬ (3 : Int32) = 0 := of_decide_eq_true c_4
  refine wp_steps 2 (t' := (35, [some (.ref 84), some (.int (nI p)), some (.int 3)], [.int 1, .int 3], (HD, mi, ml, mr))) rfl ?_
  refine wp_bC rfl (fun c_5 => ?_) (fun c_5 => ?_)
  rotate_left
  · have c_5 : (3 : Int32) = 1 := Decidable.not_not.mp (of_decide_eq_false c_5)
    exact absurd c_5 (by decide)
  have c_5 : ¬ (3 : Int32) = 1 := of_decide_eq_true c_5
  refine wp_steps 2 (t' := (43, [some (.ref 84), some (.int (nI p)), some (.int 3)], [.int 2, .int 3], (HD, mi, ml, mr))) rfl ?_
  refine wp_bC rfl (fun c_6 => ?_) (fun c_6 => ?_)
  rotate_left
  · have c_6 : (3 : Int32) = 2 := Decidable.not_not.mp (of_decide_eq_false c_6)
    exact absurd c_6 (by decide)
  have c_6 : ¬ (3 : Int32) = 2 := of_decide_eq_true c_6
  refine wp_steps 1 (t' := (50, [some (.ref 84), some (.int (nI p)), some (.int 3)], [.ref 84], (HD, mi, ml, mr))) rfl ?_
  refine wp_getr rfl ⟨by decide, rfl⟩ rfl (hM (84, 11, 91) (by decide)) ?_
  refine wp_steps 4 (t' := (55, [some (.ref 84), some (.int (nI p)), some (.int 3)], [.int 8, .int (nI p), .ref 91], (HD, mi, ml, mr))) rfl ?_
  refine wp_cal (as := [.int (nI p), .int 8]) rfl rfl rfl (Nat.le_of_ble_eq_true rfl) ((c_rat_n (p := p) (s := 8))) (by decide) ?_
  rintro _ _ ⟨rfl, rfl⟩
  show aWP _ _ (56, [some (.ref 84), some (.int (nI p)), some (.int 3)], [.int (nI (10 * p + 8)), .ref 91], (HD, mi, ml, mr)) _
  refine wp_iald rfl ⟨by decide, rfl⟩ (aix_nI (by omega) (by decide)) ?_
  rw [nI_clamp (n := 10 * p + 8) (by omega)]
  refine wp_ret rfl rfl ⟨⟨Nat.le_refl _, Nat.le_refl _⟩, ?_⟩
  exact ⟨rfl, mi, ml, rfl, frQ.rf mi⟩
set_option maxRecDepth 20000 in
set_option maxHeartbeats 1000000 in
theorem q_told_4p {X : aXt × Value} {mi : Nat → Nat → Int32} {ml : Nat → Nat → Int64} {mr : Nat → Nat → Option Nat} (hM : MRok mr) {N : Nat} (hN : mi 84 12 = nI N) (hN5 : N ≤ 5) {c0 c1 c2 : List Int32} (hR : RUX mi c0 c1 c2) {p : Nat} (hpN : p < N) (hok : okU (puR mi p)) : aCW X 48 123 [.ref 84, .int (nI p), .int 4] (HD, mi, ml, mr) (qR mi mr (.int (toG (twR mi c0 c1 c2) (puR mi p) 4))) := by
  have hp5 : p < 5 := by omega
  refine cw_of (cd := cd_X7_told) (nL := 3) rfl rfl ?_
  show aWP _ _ (0, [some (.ref 84), some (.int (nI p)), some (.int 4)], [], (HD, mi, ml, mr)) _
  refine wp_steps 4 (t' := (4, [some (.ref 84), some (.int (nI p)), some (.int 4)], [.long 7, .long 0, .long ((4 : Int32).toInt64)], (HD, mi, ml, mr))) rfl ?_
  refine wp_cal (as := [.long ((4 : Int32).toInt64), .long 0, .long 7]) rfl rfl rfl (Nat.le_of_ble_eq_true rfl) ((c_in (x := 4) (lo := 0) (hi := 7) (by decide) (by decide) (by decide))) (by decide) ?_
  rintro _ _ ⟨rfl, rfl⟩
  rw [if_pos (by decide)]
  show aWP _ _ (5, [some (.ref 84), some (.int (nI p)), some (.int 4)], [.int 1], (HD, mi, ml, mr)) _
  refine wp_bI rfl (fun c_1 => ?_) (fun c_1 => ?_)
  rotate_left
  · have c_1 : (1 : Int32) = 0 := Decidable.not_not.mp (of_decide_eq_false c_1)
    exact absurd c_1 (by decide)
  have c_1 : ¬ (1 : Int32) = 0 := of_decide_eq_true c_1
  refine wp_steps 3 (t' := (21, [some (.ref 84), some (.int (nI p)), some (.int 4)], [.int (nI p), .int 4, .ref 84], (HD, mi, ml, mr))) rfl ?_
  refine wp_calv (as := [.int 4, .int (nI p)]) rfl rfl rfl (Nat.le_of_ble_eq_true rfl) ⟨by decide, rfl⟩ ((c_isOf_p (ml := ml) hM hN hN5 hpN (by decide))) (by decide) ?_
  rintro _ _ ⟨rfl, rfl⟩
  show aWP _ _ (22, [some (.ref 84), some (.int (nI p)), some (.int 4)], [.int 1], (HD, mi, ml, mr)) _
  refine wp_bI rfl (fun c_2 => ?_) (fun c_2 => ?_)
  rotate_left
  · have c_2 : (1 : Int32) = 0 := Decidable.not_not.mp (of_decide_eq_false c_2)
    exact absurd c_2 (by decide)
  have c_2 : ¬ (1 : Int32) = 0 := of_decide_eq_true c_2
  refine wp_steps 2 (t' := (27, [some (.ref 84), some (.int (nI p)), some (.int 4)], [.int 5, .int 4], (HD, mi, ml, mr))) rfl ?_
  refine wp_bC rfl (fun c_3 => ?_) (fun c_3 => ?_)
  · have c_3 : 5 ≤ (4 : Int32) := of_decide_eq_true c_3
    exact absurd c_3 (by decide)
  have c_3 : ¬ (5 ≤ (4 : Int32)) := of_decide_eq_false c_3
  refine wp_steps 1 (t' := (29, [some (.ref 84), some (.int (nI p)), some (.int 4)], [.int 4], (HD, mi, ml, mr))) rfl ?_
  refine wp_bI rfl (fun c_4 => ?_) (fun c_4 => ?_)
  rotate_left
  · have c_4 : (4 : Int32) = 0 := Decidable.not_not.mp (of_decide_eq_false c_4)
    exact absurd c_4 (by decide)
  have c_4 : ¬ (4 : Int32) = 0 := of_decide_eq_true c_4
  refine wp_steps 2 (t' := (35, [some (.ref 84), some (.int (nI p)), some (.int 4)], [.int 1, .int 4], (HD, mi, ml, mr))) rfl ?_
  refine wp_bC rfl (fun c_5 => ?_) (fun c_5 => ?_)
  rotate_left
  · have c_5 : (4 : Int32) = 1 := Decidable.not_not.mp (of_decide_eq_false c_5)
    exact absurd c_5 (by decide)
  have c_5 : ¬ (4 : Int32) = 1 := of_decide_eq_true c_5
  refine wp_steps 2 (t' := (43, [some (.ref 84), some (.int (nI p)), some (.int 4)], [.int 2, .int 4], (HD, mi, ml, mr))) rfl ?_
  refine wp_bC rfl (fun c_6 => ?_) (fun c_6 => ?_)
  rotate_left
  · have c_6 : (4 : Int32) = 2 := Decidable.not_not.mp (of_decide_eq_false c_6)
    exact absurd c_6 (by decide)
  have c_6 : ¬ (4 : Int32) = 2 := of_decide_eq_true c_6
  refine wp_steps 1 (t' := (50, [some (.ref 84), some (.int (nI p)), some (.int 4)], [.ref 84], (HD, mi, ml, mr))) rfl ?_
  refine wp_getr rfl ⟨by decide, rfl⟩ rfl (hM (84, 11, 91) (by decide)) ?_
  refine wp_steps 4 (t' := (55, [some (.ref 84), some (.int (nI p)), some (.int 4)], [.int 9, .int (nI p), .ref 91], (HD, mi, ml, mr))) rfl ?_
  refine wp_cal (as := [.int (nI p), .int 9]) rfl rfl rfl (Nat.le_of_ble_eq_true rfl) ((c_rat_n (p := p) (s := 9))) (by decide) ?_
  rintro _ _ ⟨rfl, rfl⟩
  show aWP _ _ (56, [some (.ref 84), some (.int (nI p)), some (.int 4)], [.int (nI (10 * p + 9)), .ref 91], (HD, mi, ml, mr)) _
  refine wp_iald rfl ⟨by decide, rfl⟩ (aix_nI (by omega) (by decide)) ?_
  rw [nI_clamp (n := 10 * p + 9) (by omega)]
  refine wp_ret rfl rfl ⟨⟨Nat.le_refl _, Nat.le_refl _⟩, ?_⟩
  exact ⟨rfl, mi, ml, rfl, frQ.rf mi⟩
set_option maxRecDepth 20000 in
set_option maxHeartbeats 1000000 in
theorem q_told_5p {X : aXt × Value} {mi : Nat → Nat → Int32} {ml : Nat → Nat → Int64} {mr : Nat → Nat → Option Nat} (hM : MRok mr) {N : Nat} (hN : mi 84 12 = nI N) (hN5 : N ≤ 5) {c0 c1 c2 : List Int32} (hR : RUX mi c0 c1 c2) {p : Nat} (hpN : p < N) (hok : okU (puR mi p)) : aCW X 48 123 [.ref 84, .int (nI p), .int 5] (HD, mi, ml, mr) (qR mi mr (.int (toG (twR mi c0 c1 c2) (puR mi p) 5))) := by
  have hp5 : p < 5 := by omega
  refine cw_of (cd := cd_X7_told) (nL := 3) rfl rfl ?_
  show aWP _ _ (0, [some (.ref 84), some (.int (nI p)), some (.int 5)], [], (HD, mi, ml, mr)) _
  refine wp_steps 4 (t' := (4, [some (.ref 84), some (.int (nI p)), some (.int 5)], [.long 7, .long 0, .long ((5 : Int32).toInt64)], (HD, mi, ml, mr))) rfl ?_
  refine wp_cal (as := [.long ((5 : Int32).toInt64), .long 0, .long 7]) rfl rfl rfl (Nat.le_of_ble_eq_true rfl) ((c_in (x := 5) (lo := 0) (hi := 7) (by decide) (by decide) (by decide))) (by decide) ?_
  rintro _ _ ⟨rfl, rfl⟩
  rw [if_pos (by decide)]
  show aWP _ _ (5, [some (.ref 84), some (.int (nI p)), some (.int 5)], [.int 1], (HD, mi, ml, mr)) _
  refine wp_bI rfl (fun c_1 => ?_) (fun c_1 => ?_)
  rotate_left
  · have c_1 : (1 : Int32) = 0 := Decidable.not_not.mp (of_decide_eq_false c_1)
    exact absurd c_1 (by decide)
  have c_1 : ¬ (1 : Int32) = 0 := of_decide_eq_true c_1
  refine wp_steps 3 (t' := (21, [some (.ref 84), some (.int (nI p)), some (.int 5)], [.int (nI p), .int 5, .ref 84], (HD, mi, ml, mr))) rfl ?_
  refine wp_calv (as := [.int 5, .int (nI p)]) rfl rfl rfl (Nat.le_of_ble_eq_true rfl) ⟨by decide, rfl⟩ ((c_isOf_p (ml := ml) hM hN hN5 hpN (by decide))) (by decide) ?_
  rintro _ _ ⟨rfl, rfl⟩
  show aWP _ _ (22, [some (.ref 84), some (.int (nI p)), some (.int 5)], [.int 1], (HD, mi, ml, mr)) _
  refine wp_bI rfl (fun c_2 => ?_) (fun c_2 => ?_)
  rotate_left
  · have c_2 : (1 : Int32) = 0 := Decidable.not_not.mp (of_decide_eq_false c_2)
    exact absurd c_2 (by decide)
  have c_2 : ¬ (1 : Int32) = 0 := of_decide_eq_true c_2
  refine wp_steps 2 (t' := (27, [some (.ref 84), some (.int (nI p)), some (.int 5)], [.int 5, .int 5], (HD, mi, ml, mr))) rfl ?_
  refine wp_bC rfl (fun c_3 => ?_) (fun c_3 => ?_)
  rotate_left
  · have c_3 : ¬ (5 ≤ (5 : Int32)) := of_decide_eq_false c_3
    exact absurd c_3 (by decide)
  have c_3 : 5 ≤ (5 : Int32) := of_decide_eq_true c_3
  refine wp_steps 2 (t' := (60, [some (.ref 84), some (.int (nI p)), some (.int 5)], [.int 9, .int 5], (HD, mi, ml, mr))) rfl ?_
  refine wp_bC rfl (fun c_4 => ?_) (fun c_4 => ?_)
  rotate_left
  · have c_4 : ¬ ((5 : Int32) ≤ 9) := of_decide_eq_false c_4
    exact absurd c_4 (by decide)
  have c_4 : (5 : Int32) ≤ 9 := of_decide_eq_true c_4
  refine wp_steps 2 (t' := (86, [some (.ref 84), some (.int (nI p)), some (.int 5)], [.int 5, .int 5], (HD, mi, ml, mr))) rfl ?_
  refine wp_bC rfl (fun c_5 => ?_) (fun c_5 => ?_)
  · have c_5 : ¬ (5 : Int32) = 5 := of_decide_eq_true c_5
    exact absurd c_5 (by decide)
  have c_5 : (5 : Int32) = 5 := Decidable.not_not.mp (of_decide_eq_false c_5)
  refine wp_steps 1 (t' := (88, [some (.ref 84), some (.int (nI p)), some (.int 5)], [.ref 84], (HD, mi, ml, mr))) rfl ?_
  refine wp_getr rfl ⟨by decide, rfl⟩ rfl (hM (84, 9, 89) (by decide)) ?_
  refine wp_steps 1 (t' := (90, [some (.ref 84), some (.int (nI p)), some (.int 5)], [.int (nI p), .ref 89], (HD, mi, ml, mr))) rfl ?_
  refine wp_iald rfl ⟨by decide, rfl⟩ (aix_nI (by omega) (by decide)) ?_
  rw [nI_clamp (n := p) (by omega)]
  refine wp_steps 1 (t' := (107, [some (.ref 84), some (.int (nI p)), some (.int 5)], [.int (mi 89 p)], (HD, mi, ml, mr))) rfl ?_
  refine wp_ret rfl rfl ⟨⟨Nat.le_refl _, Nat.le_refl _⟩, ?_⟩
  exact ⟨rfl, mi, ml, rfl, frQ.rf mi⟩
set_option maxRecDepth 20000 in
set_option maxHeartbeats 1000000 in
theorem q_told_6p {X : aXt × Value} {mi : Nat → Nat → Int32} {ml : Nat → Nat → Int64} {mr : Nat → Nat → Option Nat} (hM : MRok mr) {N : Nat} (hN : mi 84 12 = nI N) (hN5 : N ≤ 5) {c0 c1 c2 : List Int32} (hR : RUX mi c0 c1 c2) {p : Nat} (hpN : p < N) (hok : okU (puR mi p)) : aCW X 48 123 [.ref 84, .int (nI p), .int 6] (HD, mi, ml, mr) (qR mi mr (.int (toG (twR mi c0 c1 c2) (puR mi p) 6))) := by
  have hp5 : p < 5 := by omega
  refine cw_of (cd := cd_X7_told) (nL := 3) rfl rfl ?_
  show aWP _ _ (0, [some (.ref 84), some (.int (nI p)), some (.int 6)], [], (HD, mi, ml, mr)) _
  refine wp_steps 4 (t' := (4, [some (.ref 84), some (.int (nI p)), some (.int 6)], [.long 7, .long 0, .long ((6 : Int32).toInt64)], (HD, mi, ml, mr))) rfl ?_
  refine wp_cal (as := [.long ((6 : Int32).toInt64), .long 0, .long 7]) rfl rfl rfl (Nat.le_of_ble_eq_true rfl) ((c_in (x := 6) (lo := 0) (hi := 7) (by decide) (by decide) (by decide))) (by decide) ?_
  rintro _ _ ⟨rfl, rfl⟩
  rw [if_pos (by decide)]
  show aWP _ _ (5, [some (.ref 84), some (.int (nI p)), some (.int 6)], [.int 1], (HD, mi, ml, mr)) _
  refine wp_bI rfl (fun c_1 => ?_) (fun c_1 => ?_)
  rotate_left
  · have c_1 : (1 : Int32) = 0 := Decidable.not_not.mp (of_decide_eq_false c_1)
    exact absurd c_1 (by decide)
  have c_1 : ¬ (1 : Int32) = 0 := of_decide_eq_true c_1
  refine wp_steps 3 (t' := (21, [some (.ref 84), some (.int (nI p)), some (.int 6)], [.int (nI p), .int 6, .ref 84], (HD, mi, ml, mr))) rfl ?_
  refine wp_calv (as := [.int 6, .int (nI p)]) rfl rfl rfl (Nat.le_of_ble_eq_true rfl) ⟨by decide, rfl⟩ ((c_isOf_p (ml := ml) hM hN hN5 hpN (by decide))) (by decide) ?_
  rintro _ _ ⟨rfl, rfl⟩
  show aWP _ _ (22, [some (.ref 84), some (.int (nI p)), some (.int 6)], [.int 1], (HD, mi, ml, mr)) _
  refine wp_bI rfl (fun c_2 => ?_) (fun c_2 => ?_)
  rotate_left
  · have c_2 : (1 : Int32) = 0 := Decidable.not_not.mp (of_decide_eq_false c_2)
    exact absurd c_2 (by decide)
  have c_2 : ¬ (1 : Int32) = 0 := of_decide_eq_true c_2
  refine wp_steps 2 (t' := (27, [some (.ref 84), some (.int (nI p)), some (.int 6)], [.int 5, .int 6], (HD, mi, ml, mr))) rfl ?_
  refine wp_bC rfl (fun c_3 => ?_) (fun c_3 => ?_)
  rotate_left
  · have c_3 : ¬ (5 ≤ (6 : Int32)) := of_decide_eq_false c_3
    exact absurd c_3 (by decide)
  have c_3 : 5 ≤ (6 : Int32) := of_decide_eq_true c_3
  refine wp_steps 2 (t' := (60, [some (.ref 84), some (.int (nI p)), some (.int 6)], [.int 9, .int 6], (HD, mi, ml, mr))) rfl ?_
  refine wp_bC rfl (fun c_4 => ?_) (fun c_4 => ?_)
  rotate_left
  · have c_4 : ¬ ((6 : Int32) ≤ 9) := of_decide_eq_false c_4
    exact absurd c_4 (by decide)
  have c_4 : (6 : Int32) ≤ 9 := of_decide_eq_true c_4
  refine wp_steps 2 (t' := (86, [some (.ref 84), some (.int (nI p)), some (.int 6)], [.int 5, .int 6], (HD, mi, ml, mr))) rfl ?_
  refine wp_bC rfl (fun c_5 => ?_) (fun c_5 => ?_)
  rotate_left
  · have c_5 : (6 : Int32) = 5 := Decidable.not_not.mp (of_decide_eq_false c_5)
    exact absurd c_5 (by decide)
  have c_5 : ¬ (6 : Int32) = 5 := of_decide_eq_true c_5
  refine wp_steps 2 (t' := (94, [some (.ref 84), some (.int (nI p)), some (.int 6)], [.int 7, .int 6], (HD, mi, ml, mr))) rfl ?_
  refine wp_bC rfl (fun c_6 => ?_) (fun c_6 => ?_)
  rotate_left
  · have c_6 : (6 : Int32) = 7 := Decidable.not_not.mp (of_decide_eq_false c_6)
    exact absurd c_6 (by decide)
  have c_6 : ¬ (6 : Int32) = 7 := of_decide_eq_true c_6
  refine wp_steps 2 (t' := (101, [some (.ref 84), some (.int (nI p)), some (.int 6)], [.int (nI p), .ref 84], (HD, mi, ml, mr))) rfl ?_
  refine wp_calv (as := [.int (nI p)]) rfl rfl rfl (Nat.le_of_ble_eq_true rfl) ⟨by decide, rfl⟩ ((r_many (ml := ml) hM hR hp5)) (by decide) ?_
  rintro _ _ ⟨rfl, m_1, w_1, rfl, f1⟩
  show aWP _ _ (102, [some (.ref 84), some (.int (nI p)), some (.int 6)], [.int (nI (mnG (twR mi c0 c1 c2) (puR mi p)))], (HD, m_1, w_1, mr)) _
  refine wp_steps 1 (t' := (103, [some (.ref 84), some (.int (nI p)), some (.int 6)], [.int 8, .int (nI (mnG (twR mi c0 c1 c2) (puR mi p)))], (HD, m_1, w_1, mr))) rfl ?_
  refine wp_bC rfl (fun c_7 => ?_) (fun c_7 => ?_)
  · have c_7 : ¬ (nI (mnG (twR mi c0 c1 c2) (puR mi p))) = 8 := of_decide_eq_true c_7
    refine wp_steps 1 (t' := (107, [some (.ref 84), some (.int (nI p)), some (.int 6)], [.int 0], (HD, m_1, w_1, mr))) rfl ?_
    refine wp_ret rfl rfl ⟨⟨Nat.le_refl _, Nat.le_refl _⟩, ?_⟩
    have q : ¬ mnG (twR mi c0 c1 c2) (puR mi p) = 8 := fun z => c_7 (by rw [z]; rfl)
    have e : toG (twR mi c0 c1 c2) (puR mi p) 6 = (if mnG (twR mi c0 c1 c2) (puR mi p) = 8 then 1 else 0) := rfl
    exact ⟨by rw [e, if_neg q], m_1, w_1, rfl, f1.Q⟩
  · have c_7 : (nI (mnG (twR mi c0 c1 c2) (puR mi p))) = 8 := Decidable.not_not.mp (of_decide_eq_false c_7)
    refine wp_steps 2 (t' := (107, [some (.ref 84), some (.int (nI p)), some (.int 6)], [.int 1], (HD, m_1, w_1, mr))) rfl ?_
    refine wp_ret rfl rfl ⟨⟨Nat.le_refl _, Nat.le_refl _⟩, ?_⟩
    have q : mnG (twR mi c0 c1 c2) (puR mi p) = 8 := (nI_eq (a := mnG (twR mi c0 c1 c2) (puR mi p)) (b := 8) (Nat.lt_of_le_of_lt (mgN_le _ 8) (by decide)) (by decide)).mp c_7
    have e : toG (twR mi c0 c1 c2) (puR mi p) 6 = (if mnG (twR mi c0 c1 c2) (puR mi p) = 8 then 1 else 0) := rfl
    exact ⟨by rw [e, if_pos q], m_1, w_1, rfl, f1.Q⟩
set_option maxRecDepth 20000 in
set_option maxHeartbeats 1000000 in
theorem q_told_7p {X : aXt × Value} {mi : Nat → Nat → Int32} {ml : Nat → Nat → Int64} {mr : Nat → Nat → Option Nat} (hM : MRok mr) {N : Nat} (hN : mi 84 12 = nI N) (hN5 : N ≤ 5) {c0 c1 c2 : List Int32} (hR : RUX mi c0 c1 c2) {p : Nat} (hpN : p < N) (hok : okU (puR mi p)) : aCW X 48 123 [.ref 84, .int (nI p), .int 7] (HD, mi, ml, mr) (qR mi mr (.int (toG (twR mi c0 c1 c2) (puR mi p) 7))) := by
  have hp5 : p < 5 := by omega
  refine cw_of (cd := cd_X7_told) (nL := 3) rfl rfl ?_
  show aWP _ _ (0, [some (.ref 84), some (.int (nI p)), some (.int 7)], [], (HD, mi, ml, mr)) _
  refine wp_steps 4 (t' := (4, [some (.ref 84), some (.int (nI p)), some (.int 7)], [.long 7, .long 0, .long ((7 : Int32).toInt64)], (HD, mi, ml, mr))) rfl ?_
  refine wp_cal (as := [.long ((7 : Int32).toInt64), .long 0, .long 7]) rfl rfl rfl (Nat.le_of_ble_eq_true rfl) ((c_in (x := 7) (lo := 0) (hi := 7) (by decide) (by decide) (by decide))) (by decide) ?_
  rintro _ _ ⟨rfl, rfl⟩
  rw [if_pos (by decide)]
  show aWP _ _ (5, [some (.ref 84), some (.int (nI p)), some (.int 7)], [.int 1], (HD, mi, ml, mr)) _
  refine wp_bI rfl (fun c_1 => ?_) (fun c_1 => ?_)
  rotate_left
  · have c_1 : (1 : Int32) = 0 := Decidable.not_not.mp (of_decide_eq_false c_1)
    exact absurd c_1 (by decide)
  have c_1 : ¬ (1 : Int32) = 0 := of_decide_eq_true c_1
  refine wp_steps 3 (t' := (21, [some (.ref 84), some (.int (nI p)), some (.int 7)], [.int (nI p), .int 7, .ref 84], (HD, mi, ml, mr))) rfl ?_
  refine wp_calv (as := [.int 7, .int (nI p)]) rfl rfl rfl (Nat.le_of_ble_eq_true rfl) ⟨by decide, rfl⟩ ((c_isOf_p (ml := ml) hM hN hN5 hpN (by decide))) (by decide) ?_
  rintro _ _ ⟨rfl, rfl⟩
  show aWP _ _ (22, [some (.ref 84), some (.int (nI p)), some (.int 7)], [.int 1], (HD, mi, ml, mr)) _
  refine wp_bI rfl (fun c_2 => ?_) (fun c_2 => ?_)
  rotate_left
  · have c_2 : (1 : Int32) = 0 := Decidable.not_not.mp (of_decide_eq_false c_2)
    exact absurd c_2 (by decide)
  have c_2 : ¬ (1 : Int32) = 0 := of_decide_eq_true c_2
  refine wp_steps 2 (t' := (27, [some (.ref 84), some (.int (nI p)), some (.int 7)], [.int 5, .int 7], (HD, mi, ml, mr))) rfl ?_
  refine wp_bC rfl (fun c_3 => ?_) (fun c_3 => ?_)
  rotate_left
  · have c_3 : ¬ (5 ≤ (7 : Int32)) := of_decide_eq_false c_3
    exact absurd c_3 (by decide)
  have c_3 : 5 ≤ (7 : Int32) := of_decide_eq_true c_3
  refine wp_steps 2 (t' := (60, [some (.ref 84), some (.int (nI p)), some (.int 7)], [.int 9, .int 7], (HD, mi, ml, mr))) rfl ?_
  refine wp_bC rfl (fun c_4 => ?_) (fun c_4 => ?_)
  rotate_left
  · have c_4 : ¬ ((7 : Int32) ≤ 9) := of_decide_eq_false c_4
    exact absurd c_4 (by decide)
  have c_4 : (7 : Int32) ≤ 9 := of_decide_eq_true c_4
  refine wp_steps 2 (t' := (86, [some (.ref 84), some (.int (nI p)), some (.int 7)], [.int 5, .int 7], (HD, mi, ml, mr))) rfl ?_
  refine wp_bC rfl (fun c_5 => ?_) (fun c_5 => ?_)
  rotate_left
  · have c_5 : (7 : Int32) = 5 := Decidable.not_not.mp (of_decide_eq_false c_5)
    exact absurd c_5 (by decide)
  have c_5 : ¬ (7 : Int32) = 5 := of_decide_eq_true c_5
  refine wp_steps 2 (t' := (94, [some (.ref 84), some (.int (nI p)), some (.int 7)], [.int 7, .int 7], (HD, mi, ml, mr))) rfl ?_
  refine wp_bC rfl (fun c_6 => ?_) (fun c_6 => ?_)
  · have c_6 : ¬ (7 : Int32) = 7 := of_decide_eq_true c_6
    exact absurd c_6 (by decide)
  have c_6 : (7 : Int32) = 7 := Decidable.not_not.mp (of_decide_eq_false c_6)
  refine wp_steps 2 (t' := (97, [some (.ref 84), some (.int (nI p)), some (.int 7)], [.int (nI p), .ref 84], (HD, mi, ml, mr))) rfl ?_
  refine wp_calv (as := [.int (nI p)]) rfl rfl rfl (Nat.le_of_ble_eq_true rfl) ⟨by decide, rfl⟩ ((r_many (ml := ml) hM hR hp5)) (by decide) ?_
  rintro _ _ ⟨rfl, m_1, w_1, rfl, f1⟩
  show aWP _ _ (98, [some (.ref 84), some (.int (nI p)), some (.int 7)], [.int (nI (mnG (twR mi c0 c1 c2) (puR mi p)))], (HD, m_1, w_1, mr)) _
  refine wp_steps 1 (t' := (107, [some (.ref 84), some (.int (nI p)), some (.int 7)], [.int (nI (mnG (twR mi c0 c1 c2) (puR mi p)))], (HD, m_1, w_1, mr))) rfl ?_
  refine wp_ret rfl rfl ⟨⟨Nat.le_refl _, Nat.le_refl _⟩, ?_⟩
  exact ⟨rfl, m_1, w_1, rfl, f1.Q⟩
set_option maxRecDepth 20000 in
set_option maxHeartbeats 1000000 in
theorem q_told_10p {X : aXt × Value} {mi : Nat → Nat → Int32} {ml : Nat → Nat → Int64} {mr : Nat → Nat → Option Nat} (hM : MRok mr) {N : Nat} (hN : mi 84 12 = nI N) (hN5 : N ≤ 5) {c0 c1 c2 : List Int32} (hR : RUX mi c0 c1 c2) {p : Nat} (hpN : p < N) (hok : okU (puR mi p)) : aCW X 48 123 [.ref 84, .int (nI p), .int 10] (HD, mi, ml, mr) (qR mi mr (.int (toG (twR mi c0 c1 c2) (puR mi p) 10))) := by
  have hp5 : p < 5 := by omega
  refine cw_of (cd := cd_X7_told) (nL := 3) rfl rfl ?_
  show aWP _ _ (0, [some (.ref 84), some (.int (nI p)), some (.int 10)], [], (HD, mi, ml, mr)) _
  refine wp_steps 4 (t' := (4, [some (.ref 84), some (.int (nI p)), some (.int 10)], [.long 7, .long 0, .long ((10 : Int32).toInt64)], (HD, mi, ml, mr))) rfl ?_
  refine wp_cal (as := [.long ((10 : Int32).toInt64), .long 0, .long 7]) rfl rfl rfl (Nat.le_of_ble_eq_true rfl) ((c_in (x := 10) (lo := 0) (hi := 7) (by decide) (by decide) (by decide))) (by decide) ?_
  rintro _ _ ⟨rfl, rfl⟩
  rw [if_neg (by decide)]
  show aWP _ _ (5, [some (.ref 84), some (.int (nI p)), some (.int 10)], [.int 0], (HD, mi, ml, mr)) _
  refine wp_bI rfl (fun c_1 => ?_) (fun c_1 => ?_)
  · have c_1 : ¬ (0 : Int32) = 0 := of_decide_eq_true c_1
    exact absurd c_1 (by decide)
  have c_1 : (0 : Int32) = 0 := Decidable.not_not.mp (of_decide_eq_false c_1)
  refine wp_steps 4 (t' := (10, [some (.ref 84), some (.int (nI p)), some (.int 10)], [.long 17, .long 10, .long ((10 : Int32).toInt64)], (HD, mi, ml, mr))) rfl ?_
  refine wp_cal (as := [.long ((10 : Int32).toInt64), .long 10, .long 17]) rfl rfl rfl (Nat.le_of_ble_eq_true rfl) ((c_in (x := 10) (lo := 10) (hi := 17) (by decide) (by decide) (by decide))) (by decide) ?_
  rintro _ _ ⟨rfl, rfl⟩
  rw [if_pos (by decide)]
  show aWP _ _ (11, [some (.ref 84), some (.int (nI p)), some (.int 10)], [.int 1], (HD, mi, ml, mr)) _
  refine wp_bI rfl (fun c_2 => ?_) (fun c_2 => ?_)
  rotate_left
  · have c_2 : (1 : Int32) = 0 := Decidable.not_not.mp (of_decide_eq_false c_2)
    exact absurd c_2 (by decide)
  have c_2 : ¬ (1 : Int32) = 0 := of_decide_eq_true c_2
  refine wp_steps 3 (t' := (21, [some (.ref 84), some (.int (nI p)), some (.int 10)], [.int (nI p), .int 10, .ref 84], (HD, mi, ml, mr))) rfl ?_
  refine wp_calv (as := [.int 10, .int (nI p)]) rfl rfl rfl (Nat.le_of_ble_eq_true rfl) ⟨by decide, rfl⟩ ((c_isOf_p (ml := ml) hM hN hN5 hpN (by decide))) (by decide) ?_
  rintro _ _ ⟨rfl, rfl⟩
  show aWP _ _ (22, [some (.ref 84), some (.int (nI p)), some (.int 10)], [.int 1], (HD, mi, ml, mr)) _
  refine wp_bI rfl (fun c_3 => ?_) (fun c_3 => ?_)
  rotate_left
  · have c_3 : (1 : Int32) = 0 := Decidable.not_not.mp (of_decide_eq_false c_3)
    exact absurd c_3 (by decide)
  have c_3 : ¬ (1 : Int32) = 0 := of_decide_eq_true c_3
  refine wp_steps 2 (t' := (27, [some (.ref 84), some (.int (nI p)), some (.int 10)], [.int 5, .int 10], (HD, mi, ml, mr))) rfl ?_
  refine wp_bC rfl (fun c_4 => ?_) (fun c_4 => ?_)
  rotate_left
  · have c_4 : ¬ (5 ≤ (10 : Int32)) := of_decide_eq_false c_4
    exact absurd c_4 (by decide)
  have c_4 : 5 ≤ (10 : Int32) := of_decide_eq_true c_4
  refine wp_steps 2 (t' := (60, [some (.ref 84), some (.int (nI p)), some (.int 10)], [.int 9, .int 10], (HD, mi, ml, mr))) rfl ?_
  refine wp_bC rfl (fun c_5 => ?_) (fun c_5 => ?_)
  · have c_5 : (10 : Int32) ≤ 9 := of_decide_eq_true c_5
    exact absurd c_5 (by decide)
  have c_5 : ¬ ((10 : Int32) ≤ 9) := of_decide_eq_false c_5
  refine wp_steps 2 (t' := (63, [some (.ref 84), some (.int (nI p)), some (.int 10)], [.int 20, .int 10], (HD, mi, ml, mr))) rfl ?_
  refine wp_bC rfl (fun c_6 => ?_) (fun c_6 => ?_)
  · have c_6 : 20 ≤ (10 : Int32) := of_decide_eq_true c_6
    exact absurd c_6 (by decide)
  have c_6 : ¬ (20 ≤ (10 : Int32)) := of_decide_eq_false c_6
  refine wp_steps 1 (t' := (65, [some (.ref 84), some (.int (nI p)), some (.int 10)], [.ref 84], (HD, mi, ml, mr))) rfl ?_
  refine wp_getr rfl ⟨by decide, rfl⟩ rfl (hM (84, 11, 91) (by decide)) ?_
  refine wp_steps 4 (t' := (70, [some (.ref 84), some (.int (nI p)), some (.int 10)], [.int 0, .int (nI p), .ref 91], (HD, mi, ml, mr))) rfl ?_
  refine wp_cal (as := [.int (nI p), .int 0]) rfl rfl rfl (Nat.le_of_ble_eq_true rfl) ((c_rat_n (p := p) (s := 0))) (by decide) ?_
  rintro _ _ ⟨rfl, rfl⟩
  show aWP _ _ (71, [some (.ref 84), some (.int (nI p)), some (.int 10)], [.int (nI (10 * p + 0)), .ref 91], (HD, mi, ml, mr)) _
  refine wp_iald rfl ⟨by decide, rfl⟩ (aix_nI (by omega) (by decide)) ?_
  rw [nI_clamp (n := 10 * p + 0) (by omega)]
  refine wp_steps 1 (t' := (83, [some (.ref 84), some (.int (nI p)), some (.int 10)], [.int (mi 91 (10 * p + 0))], (HD, mi, ml, mr))) rfl ?_
  refine wp_ret rfl rfl ⟨⟨Nat.le_refl _, Nat.le_refl _⟩, ?_⟩
  have e : toG (twR mi c0 c1 c2) (puR mi p) 10 = (puR mi p).2.2.2.2 0 := rfl
  exact ⟨by rw [e, ← sk_R (m := mi) (p := p) (s := 0) (by decide)], mi, ml, rfl, frQ.rf mi⟩
set_option maxRecDepth 20000 in
set_option maxHeartbeats 1000000 in
theorem q_told_11p {X : aXt × Value} {mi : Nat → Nat → Int32} {ml : Nat → Nat → Int64} {mr : Nat → Nat → Option Nat} (hM : MRok mr) {N : Nat} (hN : mi 84 12 = nI N) (hN5 : N ≤ 5) {c0 c1 c2 : List Int32} (hR : RUX mi c0 c1 c2) {p : Nat} (hpN : p < N) (hok : okU (puR mi p)) : aCW X 48 123 [.ref 84, .int (nI p), .int 11] (HD, mi, ml, mr) (qR mi mr (.int (toG (twR mi c0 c1 c2) (puR mi p) 11))) := by
  have hp5 : p < 5 := by omega
  refine cw_of (cd := cd_X7_told) (nL := 3) rfl rfl ?_
  show aWP _ _ (0, [some (.ref 84), some (.int (nI p)), some (.int 11)], [], (HD, mi, ml, mr)) _
  refine wp_steps 4 (t' := (4, [some (.ref 84), some (.int (nI p)), some (.int 11)], [.long 7, .long 0, .long ((11 : Int32).toInt64)], (HD, mi, ml, mr))) rfl ?_
  refine wp_cal (as := [.long ((11 : Int32).toInt64), .long 0, .long 7]) rfl rfl rfl (Nat.le_of_ble_eq_true rfl) ((c_in (x := 11) (lo := 0) (hi := 7) (by decide) (by decide) (by decide))) (by decide) ?_
  rintro _ _ ⟨rfl, rfl⟩
  rw [if_neg (by decide)]
  show aWP _ _ (5, [some (.ref 84), some (.int (nI p)), some (.int 11)], [.int 0], (HD, mi, ml, mr)) _
  refine wp_bI rfl (fun c_1 => ?_) (fun c_1 => ?_)
  · have c_1 : ¬ (0 : Int32) = 0 := of_decide_eq_true c_1
    exact absurd c_1 (by decide)
  have c_1 : (0 : Int32) = 0 := Decidable.not_not.mp (of_decide_eq_false c_1)
  refine wp_steps 4 (t' := (10, [some (.ref 84), some (.int (nI p)), some (.int 11)], [.long 17, .long 10, .long ((11 : Int32).toInt64)], (HD, mi, ml, mr))) rfl ?_
  refine wp_cal (as := [.long ((11 : Int32).toInt64), .long 10, .long 17]) rfl rfl rfl (Nat.le_of_ble_eq_true rfl) ((c_in (x := 11) (lo := 10) (hi := 17) (by decide) (by decide) (by decide))) (by decide) ?_
  rintro _ _ ⟨rfl, rfl⟩
  rw [if_pos (by decide)]
  show aWP _ _ (11, [some (.ref 84), some (.int (nI p)), some (.int 11)], [.int 1], (HD, mi, ml, mr)) _
  refine wp_bI rfl (fun c_2 => ?_) (fun c_2 => ?_)
  rotate_left
  · have c_2 : (1 : Int32) = 0 := Decidable.not_not.mp (of_decide_eq_false c_2)
    exact absurd c_2 (by decide)
  have c_2 : ¬ (1 : Int32) = 0 := of_decide_eq_true c_2
  refine wp_steps 3 (t' := (21, [some (.ref 84), some (.int (nI p)), some (.int 11)], [.int (nI p), .int 11, .ref 84], (HD, mi, ml, mr))) rfl ?_
  refine wp_calv (as := [.int 11, .int (nI p)]) rfl rfl rfl (Nat.le_of_ble_eq_true rfl) ⟨by decide, rfl⟩ ((c_isOf_p (ml := ml) hM hN hN5 hpN (by decide))) (by decide) ?_
  rintro _ _ ⟨rfl, rfl⟩
  show aWP _ _ (22, [some (.ref 84), some (.int (nI p)), some (.int 11)], [.int 1], (HD, mi, ml, mr)) _
  refine wp_bI rfl (fun c_3 => ?_) (fun c_3 => ?_)
  rotate_left
  · have c_3 : (1 : Int32) = 0 := Decidable.not_not.mp (of_decide_eq_false c_3)
    exact absurd c_3 (by decide)
  have c_3 : ¬ (1 : Int32) = 0 := of_decide_eq_true c_3
  refine wp_steps 2 (t' := (27, [some (.ref 84), some (.int (nI p)), some (.int 11)], [.int 5, .int 11], (HD, mi, ml, mr))) rfl ?_
  refine wp_bC rfl (fun c_4 => ?_) (fun c_4 => ?_)
  rotate_left
  · have c_4 : ¬ (5 ≤ (11 : Int32)) := of_decide_eq_false c_4
    exact absurd c_4 (by decide)
  have c_4 : 5 ≤ (11 : Int32) := of_decide_eq_true c_4
  refine wp_steps 2 (t' := (60, [some (.ref 84), some (.int (nI p)), some (.int 11)], [.int 9, .int 11], (HD, mi, ml, mr))) rfl ?_
  refine wp_bC rfl (fun c_5 => ?_) (fun c_5 => ?_)
  · have c_5 : (11 : Int32) ≤ 9 := of_decide_eq_true c_5
    exact absurd c_5 (by decide)
  have c_5 : ¬ ((11 : Int32) ≤ 9) := of_decide_eq_false c_5
  refine wp_steps 2 (t' := (63, [some (.ref 84), some (.int (nI p)), some (.int 11)], [.int 20, .int 11], (HD, mi, ml, mr))) rfl ?_
  refine wp_bC rfl (fun c_6 => ?_) (fun c_6 => ?_)
  · have c_6 : 20 ≤ (11 : Int32) := of_decide_eq_true c_6
    exact absurd c_6 (by decide)
  have c_6 : ¬ (20 ≤ (11 : Int32)) := of_decide_eq_false c_6
  refine wp_steps 1 (t' := (65, [some (.ref 84), some (.int (nI p)), some (.int 11)], [.ref 84], (HD, mi, ml, mr))) rfl ?_
  refine wp_getr rfl ⟨by decide, rfl⟩ rfl (hM (84, 11, 91) (by decide)) ?_
  refine wp_steps 4 (t' := (70, [some (.ref 84), some (.int (nI p)), some (.int 11)], [.int 1, .int (nI p), .ref 91], (HD, mi, ml, mr))) rfl ?_
  refine wp_cal (as := [.int (nI p), .int 1]) rfl rfl rfl (Nat.le_of_ble_eq_true rfl) ((c_rat_n (p := p) (s := 1))) (by decide) ?_
  rintro _ _ ⟨rfl, rfl⟩
  show aWP _ _ (71, [some (.ref 84), some (.int (nI p)), some (.int 11)], [.int (nI (10 * p + 1)), .ref 91], (HD, mi, ml, mr)) _
  refine wp_iald rfl ⟨by decide, rfl⟩ (aix_nI (by omega) (by decide)) ?_
  rw [nI_clamp (n := 10 * p + 1) (by omega)]
  refine wp_steps 1 (t' := (83, [some (.ref 84), some (.int (nI p)), some (.int 11)], [.int (mi 91 (10 * p + 1))], (HD, mi, ml, mr))) rfl ?_
  refine wp_ret rfl rfl ⟨⟨Nat.le_refl _, Nat.le_refl _⟩, ?_⟩
  have e : toG (twR mi c0 c1 c2) (puR mi p) 11 = (puR mi p).2.2.2.2 1 := rfl
  exact ⟨by rw [e, ← sk_R (m := mi) (p := p) (s := 1) (by decide)], mi, ml, rfl, frQ.rf mi⟩
set_option maxRecDepth 20000 in
set_option maxHeartbeats 1000000 in
theorem q_told_12p {X : aXt × Value} {mi : Nat → Nat → Int32} {ml : Nat → Nat → Int64} {mr : Nat → Nat → Option Nat} (hM : MRok mr) {N : Nat} (hN : mi 84 12 = nI N) (hN5 : N ≤ 5) {c0 c1 c2 : List Int32} (hR : RUX mi c0 c1 c2) {p : Nat} (hpN : p < N) (hok : okU (puR mi p)) : aCW X 48 123 [.ref 84, .int (nI p), .int 12] (HD, mi, ml, mr) (qR mi mr (.int (toG (twR mi c0 c1 c2) (puR mi p) 12))) := by
  have hp5 : p < 5 := by omega
  refine cw_of (cd := cd_X7_told) (nL := 3) rfl rfl ?_
  show aWP _ _ (0, [some (.ref 84), some (.int (nI p)), some (.int 12)], [], (HD, mi, ml, mr)) _
  refine wp_steps 4 (t' := (4, [some (.ref 84), some (.int (nI p)), some (.int 12)], [.long 7, .long 0, .long ((12 : Int32).toInt64)], (HD, mi, ml, mr))) rfl ?_
  refine wp_cal (as := [.long ((12 : Int32).toInt64), .long 0, .long 7]) rfl rfl rfl (Nat.le_of_ble_eq_true rfl) ((c_in (x := 12) (lo := 0) (hi := 7) (by decide) (by decide) (by decide))) (by decide) ?_
  rintro _ _ ⟨rfl, rfl⟩
  rw [if_neg (by decide)]
  show aWP _ _ (5, [some (.ref 84), some (.int (nI p)), some (.int 12)], [.int 0], (HD, mi, ml, mr)) _
  refine wp_bI rfl (fun c_1 => ?_) (fun c_1 => ?_)
  · have c_1 : ¬ (0 : Int32) = 0 := of_decide_eq_true c_1
    exact absurd c_1 (by decide)
  have c_1 : (0 : Int32) = 0 := Decidable.not_not.mp (of_decide_eq_false c_1)
  refine wp_steps 4 (t' := (10, [some (.ref 84), some (.int (nI p)), some (.int 12)], [.long 17, .long 10, .long ((12 : Int32).toInt64)], (HD, mi, ml, mr))) rfl ?_
  refine wp_cal (as := [.long ((12 : Int32).toInt64), .long 10, .long 17]) rfl rfl rfl (Nat.le_of_ble_eq_true rfl) ((c_in (x := 12) (lo := 10) (hi := 17) (by decide) (by decide) (by decide))) (by decide) ?_
  rintro _ _ ⟨rfl, rfl⟩
  rw [if_pos (by decide)]
  show aWP _ _ (11, [some (.ref 84), some (.int (nI p)), some (.int 12)], [.int 1], (HD, mi, ml, mr)) _
  refine wp_bI rfl (fun c_2 => ?_) (fun c_2 => ?_)
  rotate_left
  · have c_2 : (1 : Int32) = 0 := Decidable.not_not.mp (of_decide_eq_false c_2)
    exact absurd c_2 (by decide)
  have c_2 : ¬ (1 : Int32) = 0 := of_decide_eq_true c_2
  refine wp_steps 3 (t' := (21, [some (.ref 84), some (.int (nI p)), some (.int 12)], [.int (nI p), .int 12, .ref 84], (HD, mi, ml, mr))) rfl ?_
  refine wp_calv (as := [.int 12, .int (nI p)]) rfl rfl rfl (Nat.le_of_ble_eq_true rfl) ⟨by decide, rfl⟩ ((c_isOf_p (ml := ml) hM hN hN5 hpN (by decide))) (by decide) ?_
  rintro _ _ ⟨rfl, rfl⟩
  show aWP _ _ (22, [some (.ref 84), some (.int (nI p)), some (.int 12)], [.int 1], (HD, mi, ml, mr)) _
  refine wp_bI rfl (fun c_3 => ?_) (fun c_3 => ?_)
  rotate_left
  · have c_3 : (1 : Int32) = 0 := Decidable.not_not.mp (of_decide_eq_false c_3)
    exact absurd c_3 (by decide)
  have c_3 : ¬ (1 : Int32) = 0 := of_decide_eq_true c_3
  refine wp_steps 2 (t' := (27, [some (.ref 84), some (.int (nI p)), some (.int 12)], [.int 5, .int 12], (HD, mi, ml, mr))) rfl ?_
  refine wp_bC rfl (fun c_4 => ?_) (fun c_4 => ?_)
  rotate_left
  · have c_4 : ¬ (5 ≤ (12 : Int32)) := of_decide_eq_false c_4
    exact absurd c_4 (by decide)
  have c_4 : 5 ≤ (12 : Int32) := of_decide_eq_true c_4
  refine wp_steps 2 (t' := (60, [some (.ref 84), some (.int (nI p)), some (.int 12)], [.int 9, .int 12], (HD, mi, ml, mr))) rfl ?_
  refine wp_bC rfl (fun c_5 => ?_) (fun c_5 => ?_)
  · have c_5 : (12 : Int32) ≤ 9 := of_decide_eq_true c_5
    exact absurd c_5 (by decide)
  have c_5 : ¬ ((12 : Int32) ≤ 9) := of_decide_eq_false c_5
  refine wp_steps 2 (t' := (63, [some (.ref 84), some (.int (nI p)), some (.int 12)], [.int 20, .int 12], (HD, mi, ml, mr))) rfl ?_
  refine wp_bC rfl (fun c_6 => ?_) (fun c_6 => ?_)
  · have c_6 : 20 ≤ (12 : Int32) := of_decide_eq_true c_6
    exact absurd c_6 (by decide)
  have c_6 : ¬ (20 ≤ (12 : Int32)) := of_decide_eq_false c_6
  refine wp_steps 1 (t' := (65, [some (.ref 84), some (.int (nI p)), some (.int 12)], [.ref 84], (HD, mi, ml, mr))) rfl ?_
  refine wp_getr rfl ⟨by decide, rfl⟩ rfl (hM (84, 11, 91) (by decide)) ?_
  refine wp_steps 4 (t' := (70, [some (.ref 84), some (.int (nI p)), some (.int 12)], [.int 2, .int (nI p), .ref 91], (HD, mi, ml, mr))) rfl ?_
  refine wp_cal (as := [.int (nI p), .int 2]) rfl rfl rfl (Nat.le_of_ble_eq_true rfl) ((c_rat_n (p := p) (s := 2))) (by decide) ?_
  rintro _ _ ⟨rfl, rfl⟩
  show aWP _ _ (71, [some (.ref 84), some (.int (nI p)), some (.int 12)], [.int (nI (10 * p + 2)), .ref 91], (HD, mi, ml, mr)) _
  refine wp_iald rfl ⟨by decide, rfl⟩ (aix_nI (by omega) (by decide)) ?_
  rw [nI_clamp (n := 10 * p + 2) (by omega)]
  refine wp_steps 1 (t' := (83, [some (.ref 84), some (.int (nI p)), some (.int 12)], [.int (mi 91 (10 * p + 2))], (HD, mi, ml, mr))) rfl ?_
  refine wp_ret rfl rfl ⟨⟨Nat.le_refl _, Nat.le_refl _⟩, ?_⟩
  have e : toG (twR mi c0 c1 c2) (puR mi p) 12 = (puR mi p).2.2.2.2 2 := rfl
  exact ⟨by rw [e, ← sk_R (m := mi) (p := p) (s := 2) (by decide)], mi, ml, rfl, frQ.rf mi⟩
set_option maxRecDepth 20000 in
set_option maxHeartbeats 1000000 in
theorem q_told_13p {X : aXt × Value} {mi : Nat → Nat → Int32} {ml : Nat → Nat → Int64} {mr : Nat → Nat → Option Nat} (hM : MRok mr) {N : Nat} (hN : mi 84 12 = nI N) (hN5 : N ≤ 5) {c0 c1 c2 : List Int32} (hR : RUX mi c0 c1 c2) {p : Nat} (hpN : p < N) (hok : okU (puR mi p)) : aCW X 48 123 [.ref 84, .int (nI p), .int 13] (HD, mi, ml, mr) (qR mi mr (.int (toG (twR mi c0 c1 c2) (puR mi p) 13))) := by
  have hp5 : p < 5 := by omega
  refine cw_of (cd := cd_X7_told) (nL := 3) rfl rfl ?_
  show aWP _ _ (0, [some (.ref 84), some (.int (nI p)), some (.int 13)], [], (HD, mi, ml, mr)) _
  refine wp_steps 4 (t' := (4, [some (.ref 84), some (.int (nI p)), some (.int 13)], [.long 7, .long 0, .long ((13 : Int32).toInt64)], (HD, mi, ml, mr))) rfl ?_
  refine wp_cal (as := [.long ((13 : Int32).toInt64), .long 0, .long 7]) rfl rfl rfl (Nat.le_of_ble_eq_true rfl) ((c_in (x := 13) (lo := 0) (hi := 7) (by decide) (by decide) (by decide))) (by decide) ?_
  rintro _ _ ⟨rfl, rfl⟩
  rw [if_neg (by decide)]
  show aWP _ _ (5, [some (.ref 84), some (.int (nI p)), some (.int 13)], [.int 0], (HD, mi, ml, mr)) _
  refine wp_bI rfl (fun c_1 => ?_) (fun c_1 => ?_)
  · have c_1 : ¬ (0 : Int32) = 0 := of_decide_eq_true c_1
    exact absurd c_1 (by decide)
  have c_1 : (0 : Int32) = 0 := Decidable.not_not.mp (of_decide_eq_false c_1)
  refine wp_steps 4 (t' := (10, [some (.ref 84), some (.int (nI p)), some (.int 13)], [.long 17, .long 10, .long ((13 : Int32).toInt64)], (HD, mi, ml, mr))) rfl ?_
  refine wp_cal (as := [.long ((13 : Int32).toInt64), .long 10, .long 17]) rfl rfl rfl (Nat.le_of_ble_eq_true rfl) ((c_in (x := 13) (lo := 10) (hi := 17) (by decide) (by decide) (by decide))) (by decide) ?_
  rintro _ _ ⟨rfl, rfl⟩
  rw [if_pos (by decide)]
  show aWP _ _ (11, [some (.ref 84), some (.int (nI p)), some (.int 13)], [.int 1], (HD, mi, ml, mr)) _
  refine wp_bI rfl (fun c_2 => ?_) (fun c_2 => ?_)
  rotate_left
  · have c_2 : (1 : Int32) = 0 := Decidable.not_not.mp (of_decide_eq_false c_2)
    exact absurd c_2 (by decide)
  have c_2 : ¬ (1 : Int32) = 0 := of_decide_eq_true c_2
  refine wp_steps 3 (t' := (21, [some (.ref 84), some (.int (nI p)), some (.int 13)], [.int (nI p), .int 13, .ref 84], (HD, mi, ml, mr))) rfl ?_
  refine wp_calv (as := [.int 13, .int (nI p)]) rfl rfl rfl (Nat.le_of_ble_eq_true rfl) ⟨by decide, rfl⟩ ((c_isOf_p (ml := ml) hM hN hN5 hpN (by decide))) (by decide) ?_
  rintro _ _ ⟨rfl, rfl⟩
  show aWP _ _ (22, [some (.ref 84), some (.int (nI p)), some (.int 13)], [.int 1], (HD, mi, ml, mr)) _
  refine wp_bI rfl (fun c_3 => ?_) (fun c_3 => ?_)
  rotate_left
  · have c_3 : (1 : Int32) = 0 := Decidable.not_not.mp (of_decide_eq_false c_3)
    exact absurd c_3 (by decide)
  have c_3 : ¬ (1 : Int32) = 0 := of_decide_eq_true c_3
  refine wp_steps 2 (t' := (27, [some (.ref 84), some (.int (nI p)), some (.int 13)], [.int 5, .int 13], (HD, mi, ml, mr))) rfl ?_
  refine wp_bC rfl (fun c_4 => ?_) (fun c_4 => ?_)
  rotate_left
  · have c_4 : ¬ (5 ≤ (13 : Int32)) := of_decide_eq_false c_4
    exact absurd c_4 (by decide)
  have c_4 : 5 ≤ (13 : Int32) := of_decide_eq_true c_4
  refine wp_steps 2 (t' := (60, [some (.ref 84), some (.int (nI p)), some (.int 13)], [.int 9, .int 13], (HD, mi, ml, mr))) rfl ?_
  refine wp_bC rfl (fun c_5 => ?_) (fun c_5 => ?_)
  · have c_5 : (13 : Int32) ≤ 9 := of_decide_eq_true c_5
    exact absurd c_5 (by decide)
  have c_5 : ¬ ((13 : Int32) ≤ 9) := of_decide_eq_false c_5
  refine wp_steps 2 (t' := (63, [some (.ref 84), some (.int (nI p)), some (.int 13)], [.int 20, .int 13], (HD, mi, ml, mr))) rfl ?_
  refine wp_bC rfl (fun c_6 => ?_) (fun c_6 => ?_)
  · have c_6 : 20 ≤ (13 : Int32) := of_decide_eq_true c_6
    exact absurd c_6 (by decide)
  have c_6 : ¬ (20 ≤ (13 : Int32)) := of_decide_eq_false c_6
  refine wp_steps 1 (t' := (65, [some (.ref 84), some (.int (nI p)), some (.int 13)], [.ref 84], (HD, mi, ml, mr))) rfl ?_
  refine wp_getr rfl ⟨by decide, rfl⟩ rfl (hM (84, 11, 91) (by decide)) ?_
  refine wp_steps 4 (t' := (70, [some (.ref 84), some (.int (nI p)), some (.int 13)], [.int 3, .int (nI p), .ref 91], (HD, mi, ml, mr))) rfl ?_
  refine wp_cal (as := [.int (nI p), .int 3]) rfl rfl rfl (Nat.le_of_ble_eq_true rfl) ((c_rat_n (p := p) (s := 3))) (by decide) ?_
  rintro _ _ ⟨rfl, rfl⟩
  show aWP _ _ (71, [some (.ref 84), some (.int (nI p)), some (.int 13)], [.int (nI (10 * p + 3)), .ref 91], (HD, mi, ml, mr)) _
  refine wp_iald rfl ⟨by decide, rfl⟩ (aix_nI (by omega) (by decide)) ?_
  rw [nI_clamp (n := 10 * p + 3) (by omega)]
  refine wp_steps 1 (t' := (83, [some (.ref 84), some (.int (nI p)), some (.int 13)], [.int (mi 91 (10 * p + 3))], (HD, mi, ml, mr))) rfl ?_
  refine wp_ret rfl rfl ⟨⟨Nat.le_refl _, Nat.le_refl _⟩, ?_⟩
  have e : toG (twR mi c0 c1 c2) (puR mi p) 13 = (puR mi p).2.2.2.2 3 := rfl
  exact ⟨by rw [e, ← sk_R (m := mi) (p := p) (s := 3) (by decide)], mi, ml, rfl, frQ.rf mi⟩
set_option maxRecDepth 20000 in
set_option maxHeartbeats 1000000 in
theorem q_told_14p {X : aXt × Value} {mi : Nat → Nat → Int32} {ml : Nat → Nat → Int64} {mr : Nat → Nat → Option Nat} (hM : MRok mr) {N : Nat} (hN : mi 84 12 = nI N) (hN5 : N ≤ 5) {c0 c1 c2 : List Int32} (hR : RUX mi c0 c1 c2) {p : Nat} (hpN : p < N) (hok : okU (puR mi p)) : aCW X 48 123 [.ref 84, .int (nI p), .int 14] (HD, mi, ml, mr) (qR mi mr (.int (toG (twR mi c0 c1 c2) (puR mi p) 14))) := by
  have hp5 : p < 5 := by omega
  refine cw_of (cd := cd_X7_told) (nL := 3) rfl rfl ?_
  show aWP _ _ (0, [some (.ref 84), some (.int (nI p)), some (.int 14)], [], (HD, mi, ml, mr)) _
  refine wp_steps 4 (t' := (4, [some (.ref 84), some (.int (nI p)), some (.int 14)], [.long 7, .long 0, .long ((14 : Int32).toInt64)], (HD, mi, ml, mr))) rfl ?_
  refine wp_cal (as := [.long ((14 : Int32).toInt64), .long 0, .long 7]) rfl rfl rfl (Nat.le_of_ble_eq_true rfl) ((c_in (x := 14) (lo := 0) (hi := 7) (by decide) (by decide) (by decide))) (by decide) ?_
  rintro _ _ ⟨rfl, rfl⟩
  rw [if_neg (by decide)]
  show aWP _ _ (5, [some (.ref 84), some (.int (nI p)), some (.int 14)], [.int 0], (HD, mi, ml, mr)) _
  refine wp_bI rfl (fun c_1 => ?_) (fun c_1 => ?_)
  · have c_1 : ¬ (0 : Int32) = 0 := of_decide_eq_true c_1
    exact absurd c_1 (by decide)
  have c_1 : (0 : Int32) = 0 := Decidable.not_not.mp (of_decide_eq_false c_1)
  refine wp_steps 4 (t' := (10, [some (.ref 84), some (.int (nI p)), some (.int 14)], [.long 17, .long 10, .long ((14 : Int32).toInt64)], (HD, mi, ml, mr))) rfl ?_
  refine wp_cal (as := [.long ((14 : Int32).toInt64), .long 10, .long 17]) rfl rfl rfl (Nat.le_of_ble_eq_true rfl) ((c_in (x := 14) (lo := 10) (hi := 17) (by decide) (by decide) (by decide))) (by decide) ?_
  rintro _ _ ⟨rfl, rfl⟩
  rw [if_pos (by decide)]
  show aWP _ _ (11, [some (.ref 84), some (.int (nI p)), some (.int 14)], [.int 1], (HD, mi, ml, mr)) _
  refine wp_bI rfl (fun c_2 => ?_) (fun c_2 => ?_)
  rotate_left
  · have c_2 : (1 : Int32) = 0 := Decidable.not_not.mp (of_decide_eq_false c_2)
    exact absurd c_2 (by decide)
  have c_2 : ¬ (1 : Int32) = 0 := of_decide_eq_true c_2
  refine wp_steps 3 (t' := (21, [some (.ref 84), some (.int (nI p)), some (.int 14)], [.int (nI p), .int 14, .ref 84], (HD, mi, ml, mr))) rfl ?_
  refine wp_calv (as := [.int 14, .int (nI p)]) rfl rfl rfl (Nat.le_of_ble_eq_true rfl) ⟨by decide, rfl⟩ ((c_isOf_p (ml := ml) hM hN hN5 hpN (by decide))) (by decide) ?_
  rintro _ _ ⟨rfl, rfl⟩
  show aWP _ _ (22, [some (.ref 84), some (.int (nI p)), some (.int 14)], [.int 1], (HD, mi, ml, mr)) _
  refine wp_bI rfl (fun c_3 => ?_) (fun c_3 => ?_)
  rotate_left
  · have c_3 : (1 : Int32) = 0 := Decidable.not_not.mp (of_decide_eq_false c_3)
    exact absurd c_3 (by decide)
  have c_3 : ¬ (1 : Int32) = 0 := of_decide_eq_true c_3
  refine wp_steps 2 (t' := (27, [some (.ref 84), some (.int (nI p)), some (.int 14)], [.int 5, .int 14], (HD, mi, ml, mr))) rfl ?_
  refine wp_bC rfl (fun c_4 => ?_) (fun c_4 => ?_)
  rotate_left
  · have c_4 : ¬ (5 ≤ (14 : Int32)) := of_decide_eq_false c_4
    exact absurd c_4 (by decide)
  have c_4 : 5 ≤ (14 : Int32) := of_decide_eq_true c_4
  refine wp_steps 2 (t' := (60, [some (.ref 84), some (.int (nI p)), some (.int 14)], [.int 9, .int 14], (HD, mi, ml, mr))) rfl ?_
  refine wp_bC rfl (fun c_5 => ?_) (fun c_5 => ?_)
  · have c_5 : (14 : Int32) ≤ 9 := of_decide_eq_true c_5
    exact absurd c_5 (by decide)
  have c_5 : ¬ ((14 : Int32) ≤ 9) := of_decide_eq_false c_5
  refine wp_steps 2 (t' := (63, [some (.ref 84), some (.int (nI p)), some (.int 14)], [.int 20, .int 14], (HD, mi, ml, mr))) rfl ?_
  refine wp_bC rfl (fun c_6 => ?_) (fun c_6 => ?_)
  · have c_6 : 20 ≤ (14 : Int32) := of_decide_eq_true c_6
    exact absurd c_6 (by decide)
  have c_6 : ¬ (20 ≤ (14 : Int32)) := of_decide_eq_false c_6
  refine wp_steps 1 (t' := (65, [some (.ref 84), some (.int (nI p)), some (.int 14)], [.ref 84], (HD, mi, ml, mr))) rfl ?_
  refine wp_getr rfl ⟨by decide, rfl⟩ rfl (hM (84, 11, 91) (by decide)) ?_
  refine wp_steps 4 (t' := (70, [some (.ref 84), some (.int (nI p)), some (.int 14)], [.int 4, .int (nI p), .ref 91], (HD, mi, ml, mr))) rfl ?_
  refine wp_cal (as := [.int (nI p), .int 4]) rfl rfl rfl (Nat.le_of_ble_eq_true rfl) ((c_rat_n (p := p) (s := 4))) (by decide) ?_
  rintro _ _ ⟨rfl, rfl⟩
  show aWP _ _ (71, [some (.ref 84), some (.int (nI p)), some (.int 14)], [.int (nI (10 * p + 4)), .ref 91], (HD, mi, ml, mr)) _
  refine wp_iald rfl ⟨by decide, rfl⟩ (aix_nI (by omega) (by decide)) ?_
  rw [nI_clamp (n := 10 * p + 4) (by omega)]
  refine wp_steps 1 (t' := (83, [some (.ref 84), some (.int (nI p)), some (.int 14)], [.int (mi 91 (10 * p + 4))], (HD, mi, ml, mr))) rfl ?_
  refine wp_ret rfl rfl ⟨⟨Nat.le_refl _, Nat.le_refl _⟩, ?_⟩
  have e : toG (twR mi c0 c1 c2) (puR mi p) 14 = (puR mi p).2.2.2.2 4 := rfl
  exact ⟨by rw [e, ← sk_R (m := mi) (p := p) (s := 4) (by decide)], mi, ml, rfl, frQ.rf mi⟩
set_option maxRecDepth 20000 in
set_option maxHeartbeats 1000000 in
theorem q_told_15p {X : aXt × Value} {mi : Nat → Nat → Int32} {ml : Nat → Nat → Int64} {mr : Nat → Nat → Option Nat} (hM : MRok mr) {N : Nat} (hN : mi 84 12 = nI N) (hN5 : N ≤ 5) {c0 c1 c2 : List Int32} (hR : RUX mi c0 c1 c2) {p : Nat} (hpN : p < N) (hok : okU (puR mi p)) : aCW X 48 123 [.ref 84, .int (nI p), .int 15] (HD, mi, ml, mr) (qR mi mr (.int (toG (twR mi c0 c1 c2) (puR mi p) 15))) := by
  have hp5 : p < 5 := by omega
  refine cw_of (cd := cd_X7_told) (nL := 3) rfl rfl ?_
  show aWP _ _ (0, [some (.ref 84), some (.int (nI p)), some (.int 15)], [], (HD, mi, ml, mr)) _
  refine wp_steps 4 (t' := (4, [some (.ref 84), some (.int (nI p)), some (.int 15)], [.long 7, .long 0, .long ((15 : Int32).toInt64)], (HD, mi, ml, mr))) rfl ?_
  refine wp_cal (as := [.long ((15 : Int32).toInt64), .long 0, .long 7]) rfl rfl rfl (Nat.le_of_ble_eq_true rfl) ((c_in (x := 15) (lo := 0) (hi := 7) (by decide) (by decide) (by decide))) (by decide) ?_
  rintro _ _ ⟨rfl, rfl⟩
  rw [if_neg (by decide)]
  show aWP _ _ (5, [some (.ref 84), some (.int (nI p)), some (.int 15)], [.int 0], (HD, mi, ml, mr)) _
  refine wp_bI rfl (fun c_1 => ?_) (fun c_1 => ?_)
  · have c_1 : ¬ (0 : Int32) = 0 := of_decide_eq_true c_1
    exact absurd c_1 (by decide)
  have c_1 : (0 : Int32) = 0 := Decidable.not_not.mp (of_decide_eq_false c_1)
  refine wp_steps 4 (t' := (10, [some (.ref 84), some (.int (nI p)), some (.int 15)], [.long 17, .long 10, .long ((15 : Int32).toInt64)], (HD, mi, ml, mr))) rfl ?_
  refine wp_cal (as := [.long ((15 : Int32).toInt64), .long 10, .long 17]) rfl rfl rfl (Nat.le_of_ble_eq_true rfl) ((c_in (x := 15) (lo := 10) (hi := 17) (by decide) (by decide) (by decide))) (by decide) ?_
  rintro _ _ ⟨rfl, rfl⟩
  rw [if_pos (by decide)]
  show aWP _ _ (11, [some (.ref 84), some (.int (nI p)), some (.int 15)], [.int 1], (HD, mi, ml, mr)) _
  refine wp_bI rfl (fun c_2 => ?_) (fun c_2 => ?_)
  rotate_left
  · have c_2 : (1 : Int32) = 0 := Decidable.not_not.mp (of_decide_eq_false c_2)
    exact absurd c_2 (by decide)
  have c_2 : ¬ (1 : Int32) = 0 := of_decide_eq_true c_2
  refine wp_steps 3 (t' := (21, [some (.ref 84), some (.int (nI p)), some (.int 15)], [.int (nI p), .int 15, .ref 84], (HD, mi, ml, mr))) rfl ?_
  refine wp_calv (as := [.int 15, .int (nI p)]) rfl rfl rfl (Nat.le_of_ble_eq_true rfl) ⟨by decide, rfl⟩ ((c_isOf_p (ml := ml) hM hN hN5 hpN (by decide))) (by decide) ?_
  rintro _ _ ⟨rfl, rfl⟩
  show aWP _ _ (22, [some (.ref 84), some (.int (nI p)), some (.int 15)], [.int 1], (HD, mi, ml, mr)) _
  refine wp_bI rfl (fun c_3 => ?_) (fun c_3 => ?_)
  rotate_left
  · have c_3 : (1 : Int32) = 0 := Decidable.not_not.mp (of_decide_eq_false c_3)
    exact absurd c_3 (by decide)
  have c_3 : ¬ (1 : Int32) = 0 := of_decide_eq_true c_3
  refine wp_steps 2 (t' := (27, [some (.ref 84), some (.int (nI p)), some (.int 15)], [.int 5, .int 15], (HD, mi, ml, mr))) rfl ?_
  refine wp_bC rfl (fun c_4 => ?_) (fun c_4 => ?_)
  rotate_left
  · have c_4 : ¬ (5 ≤ (15 : Int32)) := of_decide_eq_false c_4
    exact absurd c_4 (by decide)
  have c_4 : 5 ≤ (15 : Int32) := of_decide_eq_true c_4
  refine wp_steps 2 (t' := (60, [some (.ref 84), some (.int (nI p)), some (.int 15)], [.int 9, .int 15], (HD, mi, ml, mr))) rfl ?_
  refine wp_bC rfl (fun c_5 => ?_) (fun c_5 => ?_)
  · have c_5 : (15 : Int32) ≤ 9 := of_decide_eq_true c_5
    exact absurd c_5 (by decide)
  have c_5 : ¬ ((15 : Int32) ≤ 9) := of_decide_eq_false c_5
  refine wp_steps 2 (t' := (63, [some (.ref 84), some (.int (nI p)), some (.int 15)], [.int 20, .int 15], (HD, mi, ml, mr))) rfl ?_
  refine wp_bC rfl (fun c_6 => ?_) (fun c_6 => ?_)
  · have c_6 : 20 ≤ (15 : Int32) := of_decide_eq_true c_6
    exact absurd c_6 (by decide)
  have c_6 : ¬ (20 ≤ (15 : Int32)) := of_decide_eq_false c_6
  refine wp_steps 1 (t' := (65, [some (.ref 84), some (.int (nI p)), some (.int 15)], [.ref 84], (HD, mi, ml, mr))) rfl ?_
  refine wp_getr rfl ⟨by decide, rfl⟩ rfl (hM (84, 11, 91) (by decide)) ?_
  refine wp_steps 4 (t' := (70, [some (.ref 84), some (.int (nI p)), some (.int 15)], [.int 5, .int (nI p), .ref 91], (HD, mi, ml, mr))) rfl ?_
  refine wp_cal (as := [.int (nI p), .int 5]) rfl rfl rfl (Nat.le_of_ble_eq_true rfl) ((c_rat_n (p := p) (s := 5))) (by decide) ?_
  rintro _ _ ⟨rfl, rfl⟩
  show aWP _ _ (71, [some (.ref 84), some (.int (nI p)), some (.int 15)], [.int (nI (10 * p + 5)), .ref 91], (HD, mi, ml, mr)) _
  refine wp_iald rfl ⟨by decide, rfl⟩ (aix_nI (by omega) (by decide)) ?_
  rw [nI_clamp (n := 10 * p + 5) (by omega)]
  refine wp_steps 1 (t' := (83, [some (.ref 84), some (.int (nI p)), some (.int 15)], [.int (mi 91 (10 * p + 5))], (HD, mi, ml, mr))) rfl ?_
  refine wp_ret rfl rfl ⟨⟨Nat.le_refl _, Nat.le_refl _⟩, ?_⟩
  have e : toG (twR mi c0 c1 c2) (puR mi p) 15 = (puR mi p).2.2.2.2 5 := rfl
  exact ⟨by rw [e, ← sk_R (m := mi) (p := p) (s := 5) (by decide)], mi, ml, rfl, frQ.rf mi⟩
set_option maxRecDepth 20000 in
set_option maxHeartbeats 1000000 in
theorem q_told_16p {X : aXt × Value} {mi : Nat → Nat → Int32} {ml : Nat → Nat → Int64} {mr : Nat → Nat → Option Nat} (hM : MRok mr) {N : Nat} (hN : mi 84 12 = nI N) (hN5 : N ≤ 5) {c0 c1 c2 : List Int32} (hR : RUX mi c0 c1 c2) {p : Nat} (hpN : p < N) (hok : okU (puR mi p)) : aCW X 48 123 [.ref 84, .int (nI p), .int 16] (HD, mi, ml, mr) (qR mi mr (.int (toG (twR mi c0 c1 c2) (puR mi p) 16))) := by
  have hp5 : p < 5 := by omega
  refine cw_of (cd := cd_X7_told) (nL := 3) rfl rfl ?_
  show aWP _ _ (0, [some (.ref 84), some (.int (nI p)), some (.int 16)], [], (HD, mi, ml, mr)) _
  refine wp_steps 4 (t' := (4, [some (.ref 84), some (.int (nI p)), some (.int 16)], [.long 7, .long 0, .long ((16 : Int32).toInt64)], (HD, mi, ml, mr))) rfl ?_
  refine wp_cal (as := [.long ((16 : Int32).toInt64), .long 0, .long 7]) rfl rfl rfl (Nat.le_of_ble_eq_true rfl) ((c_in (x := 16) (lo := 0) (hi := 7) (by decide) (by decide) (by decide))) (by decide) ?_
  rintro _ _ ⟨rfl, rfl⟩
  rw [if_neg (by decide)]
  show aWP _ _ (5, [some (.ref 84), some (.int (nI p)), some (.int 16)], [.int 0], (HD, mi, ml, mr)) _
  refine wp_bI rfl (fun c_1 => ?_) (fun c_1 => ?_)
  · have c_1 : ¬ (0 : Int32) = 0 := of_decide_eq_true c_1
    exact absurd c_1 (by decide)
  have c_1 : (0 : Int32) = 0 := Decidable.not_not.mp (of_decide_eq_false c_1)
  refine wp_steps 4 (t' := (10, [some (.ref 84), some (.int (nI p)), some (.int 16)], [.long 17, .long 10, .long ((16 : Int32).toInt64)], (HD, mi, ml, mr))) rfl ?_
  refine wp_cal (as := [.long ((16 : Int32).toInt64), .long 10, .long 17]) rfl rfl rfl (Nat.le_of_ble_eq_true rfl) ((c_in (x := 16) (lo := 10) (hi := 17) (by decide) (by decide) (by decide))) (by decide) ?_
  rintro _ _ ⟨rfl, rfl⟩
  rw [if_pos (by decide)]
  show aWP _ _ (11, [some (.ref 84), some (.int (nI p)), some (.int 16)], [.int 1], (HD, mi, ml, mr)) _
  refine wp_bI rfl (fun c_2 => ?_) (fun c_2 => ?_)
  rotate_left
  · have c_2 : (1 : Int32) = 0 := Decidable.not_not.mp (of_decide_eq_false c_2)
    exact absurd c_2 (by decide)
  have c_2 : ¬ (1 : Int32) = 0 := of_decide_eq_true c_2
  refine wp_steps 3 (t' := (21, [some (.ref 84), some (.int (nI p)), some (.int 16)], [.int (nI p), .int 16, .ref 84], (HD, mi, ml, mr))) rfl ?_
  refine wp_calv (as := [.int 16, .int (nI p)]) rfl rfl rfl (Nat.le_of_ble_eq_true rfl) ⟨by decide, rfl⟩ ((c_isOf_p (ml := ml) hM hN hN5 hpN (by decide))) (by decide) ?_
  rintro _ _ ⟨rfl, rfl⟩
  show aWP _ _ (22, [some (.ref 84), some (.int (nI p)), some (.int 16)], [.int 1], (HD, mi, ml, mr)) _
  refine wp_bI rfl (fun c_3 => ?_) (fun c_3 => ?_)
  rotate_left
  · have c_3 : (1 : Int32) = 0 := Decidable.not_not.mp (of_decide_eq_false c_3)
    exact absurd c_3 (by decide)
  have c_3 : ¬ (1 : Int32) = 0 := of_decide_eq_true c_3
  refine wp_steps 2 (t' := (27, [some (.ref 84), some (.int (nI p)), some (.int 16)], [.int 5, .int 16], (HD, mi, ml, mr))) rfl ?_
  refine wp_bC rfl (fun c_4 => ?_) (fun c_4 => ?_)
  rotate_left
  · have c_4 : ¬ (5 ≤ (16 : Int32)) := of_decide_eq_false c_4
    exact absurd c_4 (by decide)
  have c_4 : 5 ≤ (16 : Int32) := of_decide_eq_true c_4
  refine wp_steps 2 (t' := (60, [some (.ref 84), some (.int (nI p)), some (.int 16)], [.int 9, .int 16], (HD, mi, ml, mr))) rfl ?_
  refine wp_bC rfl (fun c_5 => ?_) (fun c_5 => ?_)
  · have c_5 : (16 : Int32) ≤ 9 := of_decide_eq_true c_5
    exact absurd c_5 (by decide)
  have c_5 : ¬ ((16 : Int32) ≤ 9) := of_decide_eq_false c_5
  refine wp_steps 2 (t' := (63, [some (.ref 84), some (.int (nI p)), some (.int 16)], [.int 20, .int 16], (HD, mi, ml, mr))) rfl ?_
  refine wp_bC rfl (fun c_6 => ?_) (fun c_6 => ?_)
  · have c_6 : 20 ≤ (16 : Int32) := of_decide_eq_true c_6
    exact absurd c_6 (by decide)
  have c_6 : ¬ (20 ≤ (16 : Int32)) := of_decide_eq_false c_6
  refine wp_steps 1 (t' := (65, [some (.ref 84), some (.int (nI p)), some (.int 16)], [.ref 84], (HD, mi, ml, mr))) rfl ?_
  refine wp_getr rfl ⟨by decide, rfl⟩ rfl (hM (84, 11, 91) (by decide)) ?_
  refine wp_steps 4 (t' := (70, [some (.ref 84), some (.int (nI p)), some (.int 16)], [.int 6, .int (nI p), .ref 91], (HD, mi, ml, mr))) rfl ?_
  refine wp_cal (as := [.int (nI p), .int 6]) rfl rfl rfl (Nat.le_of_ble_eq_true rfl) ((c_rat_n (p := p) (s := 6))) (by decide) ?_
  rintro _ _ ⟨rfl, rfl⟩
  show aWP _ _ (71, [some (.ref 84), some (.int (nI p)), some (.int 16)], [.int (nI (10 * p + 6)), .ref 91], (HD, mi, ml, mr)) _
  refine wp_iald rfl ⟨by decide, rfl⟩ (aix_nI (by omega) (by decide)) ?_
  rw [nI_clamp (n := 10 * p + 6) (by omega)]
  refine wp_steps 1 (t' := (83, [some (.ref 84), some (.int (nI p)), some (.int 16)], [.int (mi 91 (10 * p + 6))], (HD, mi, ml, mr))) rfl ?_
  refine wp_ret rfl rfl ⟨⟨Nat.le_refl _, Nat.le_refl _⟩, ?_⟩
  have e : toG (twR mi c0 c1 c2) (puR mi p) 16 = (puR mi p).2.2.2.2 6 := rfl
  exact ⟨by rw [e, ← sk_R (m := mi) (p := p) (s := 6) (by decide)], mi, ml, rfl, frQ.rf mi⟩
set_option maxRecDepth 20000 in
set_option maxHeartbeats 1000000 in
theorem q_told_17p {X : aXt × Value} {mi : Nat → Nat → Int32} {ml : Nat → Nat → Int64} {mr : Nat → Nat → Option Nat} (hM : MRok mr) {N : Nat} (hN : mi 84 12 = nI N) (hN5 : N ≤ 5) {c0 c1 c2 : List Int32} (hR : RUX mi c0 c1 c2) {p : Nat} (hpN : p < N) (hok : okU (puR mi p)) : aCW X 48 123 [.ref 84, .int (nI p), .int 17] (HD, mi, ml, mr) (qR mi mr (.int (toG (twR mi c0 c1 c2) (puR mi p) 17))) := by
  have hp5 : p < 5 := by omega
  refine cw_of (cd := cd_X7_told) (nL := 3) rfl rfl ?_
  show aWP _ _ (0, [some (.ref 84), some (.int (nI p)), some (.int 17)], [], (HD, mi, ml, mr)) _
  refine wp_steps 4 (t' := (4, [some (.ref 84), some (.int (nI p)), some (.int 17)], [.long 7, .long 0, .long ((17 : Int32).toInt64)], (HD, mi, ml, mr))) rfl ?_
  refine wp_cal (as := [.long ((17 : Int32).toInt64), .long 0, .long 7]) rfl rfl rfl (Nat.le_of_ble_eq_true rfl) ((c_in (x := 17) (lo := 0) (hi := 7) (by decide) (by decide) (by decide))) (by decide) ?_
  rintro _ _ ⟨rfl, rfl⟩
  rw [if_neg (by decide)]
  show aWP _ _ (5, [some (.ref 84), some (.int (nI p)), some (.int 17)], [.int 0], (HD, mi, ml, mr)) _
  refine wp_bI rfl (fun c_1 => ?_) (fun c_1 => ?_)
  · have c_1 : ¬ (0 : Int32) = 0 := of_decide_eq_true c_1
    exact absurd c_1 (by decide)
  have c_1 : (0 : Int32) = 0 := Decidable.not_not.mp (of_decide_eq_false c_1)
  refine wp_steps 4 (t' := (10, [some (.ref 84), some (.int (nI p)), some (.int 17)], [.long 17, .long 10, .long ((17 : Int32).toInt64)], (HD, mi, ml, mr))) rfl ?_
  refine wp_cal (as := [.long ((17 : Int32).toInt64), .long 10, .long 17]) rfl rfl rfl (Nat.le_of_ble_eq_true rfl) ((c_in (x := 17) (lo := 10) (hi := 17) (by decide) (by decide) (by decide))) (by decide) ?_
  rintro _ _ ⟨rfl, rfl⟩
  rw [if_pos (by decide)]
  show aWP _ _ (11, [some (.ref 84), some (.int (nI p)), some (.int 17)], [.int 1], (HD, mi, ml, mr)) _
  refine wp_bI rfl (fun c_2 => ?_) (fun c_2 => ?_)
  rotate_left
  · have c_2 : (1 : Int32) = 0 := Decidable.not_not.mp (of_decide_eq_false c_2)
    exact absurd c_2 (by decide)
  have c_2 : ¬ (1 : Int32) = 0 := of_decide_eq_true c_2
  refine wp_steps 3 (t' := (21, [some (.ref 84), some (.int (nI p)), some (.int 17)], [.int (nI p), .int 17, .ref 84], (HD, mi, ml, mr))) rfl ?_
  refine wp_calv (as := [.int 17, .int (nI p)]) rfl rfl rfl (Nat.le_of_ble_eq_true rfl) ⟨by decide, rfl⟩ ((c_isOf_p (ml := ml) hM hN hN5 hpN (by decide))) (by decide) ?_
  rintro _ _ ⟨rfl, rfl⟩
  show aWP _ _ (22, [some (.ref 84), some (.int (nI p)), some (.int 17)], [.int 1], (HD, mi, ml, mr)) _
  refine wp_bI rfl (fun c_3 => ?_) (fun c_3 => ?_)
  rotate_left
  · have c_3 : (1 : Int32) = 0 := Decidable.not_not.mp (of_decide_eq_false c_3)
    exact absurd c_3 (by decide)
  have c_3 : ¬ (1 : Int32) = 0 := of_decide_eq_true c_3
  refine wp_steps 2 (t' := (27, [some (.ref 84), some (.int (nI p)), some (.int 17)], [.int 5, .int 17], (HD, mi, ml, mr))) rfl ?_
  refine wp_bC rfl (fun c_4 => ?_) (fun c_4 => ?_)
  rotate_left
  · have c_4 : ¬ (5 ≤ (17 : Int32)) := of_decide_eq_false c_4
    exact absurd c_4 (by decide)
  have c_4 : 5 ≤ (17 : Int32) := of_decide_eq_true c_4
  refine wp_steps 2 (t' := (60, [some (.ref 84), some (.int (nI p)), some (.int 17)], [.int 9, .int 17], (HD, mi, ml, mr))) rfl ?_
  refine wp_bC rfl (fun c_5 => ?_) (fun c_5 => ?_)
  · have c_5 : (17 : Int32) ≤ 9 := of_decide_eq_true c_5
    exact absurd c_5 (by decide)
  have c_5 : ¬ ((17 : Int32) ≤ 9) := of_decide_eq_false c_5
  refine wp_steps 2 (t' := (63, [some (.ref 84), some (.int (nI p)), some (.int 17)], [.int 20, .int 17], (HD, mi, ml, mr))) rfl ?_
  refine wp_bC rfl (fun c_6 => ?_) (fun c_6 => ?_)
  · have c_6 : 20 ≤ (17 : Int32) := of_decide_eq_true c_6
    exact absurd c_6 (by decide)
  have c_6 : ¬ (20 ≤ (17 : Int32)) := of_decide_eq_false c_6
  refine wp_steps 1 (t' := (65, [some (.ref 84), some (.int (nI p)), some (.int 17)], [.ref 84], (HD, mi, ml, mr))) rfl ?_
  refine wp_getr rfl ⟨by decide, rfl⟩ rfl (hM (84, 11, 91) (by decide)) ?_
  refine wp_steps 4 (t' := (70, [some (.ref 84), some (.int (nI p)), some (.int 17)], [.int 7, .int (nI p), .ref 91], (HD, mi, ml, mr))) rfl ?_
  refine wp_cal (as := [.int (nI p), .int 7]) rfl rfl rfl (Nat.le_of_ble_eq_true rfl) ((c_rat_n (p := p) (s := 7))) (by decide) ?_
  rintro _ _ ⟨rfl, rfl⟩
  show aWP _ _ (71, [some (.ref 84), some (.int (nI p)), some (.int 17)], [.int (nI (10 * p + 7)), .ref 91], (HD, mi, ml, mr)) _
  refine wp_iald rfl ⟨by decide, rfl⟩ (aix_nI (by omega) (by decide)) ?_
  rw [nI_clamp (n := 10 * p + 7) (by omega)]
  refine wp_steps 1 (t' := (83, [some (.ref 84), some (.int (nI p)), some (.int 17)], [.int (mi 91 (10 * p + 7))], (HD, mi, ml, mr))) rfl ?_
  refine wp_ret rfl rfl ⟨⟨Nat.le_refl _, Nat.le_refl _⟩, ?_⟩
  have e : toG (twR mi c0 c1 c2) (puR mi p) 17 = (puR mi p).2.2.2.2 7 := rfl
  exact ⟨by rw [e, ← sk_R (m := mi) (p := p) (s := 7) (by decide)], mi, ml, rfl, frQ.rf mi⟩
set_option maxRecDepth 20000 in
set_option maxHeartbeats 1000000 in
theorem q_told_20p {X : aXt × Value} {mi : Nat → Nat → Int32} {ml : Nat → Nat → Int64} {mr : Nat → Nat → Option Nat} (hM : MRok mr) {N : Nat} (hN : mi 84 12 = nI N) (hN5 : N ≤ 5) {c0 c1 c2 : List Int32} (hR : RUX mi c0 c1 c2) {p : Nat} (hpN : p < N) (hok : okU (puR mi p)) : aCW X 48 123 [.ref 84, .int (nI p), .int 20] (HD, mi, ml, mr) (qR mi mr (.int (toG (twR mi c0 c1 c2) (puR mi p) 20))) := by
  have hp5 : p < 5 := by omega
  refine cw_of (cd := cd_X7_told) (nL := 3) rfl rfl ?_
  show aWP _ _ (0, [some (.ref 84), some (.int (nI p)), some (.int 20)], [], (HD, mi, ml, mr)) _
  refine wp_steps 4 (t' := (4, [some (.ref 84), some (.int (nI p)), some (.int 20)], [.long 7, .long 0, .long ((20 : Int32).toInt64)], (HD, mi, ml, mr))) rfl ?_
  refine wp_cal (as := [.long ((20 : Int32).toInt64), .long 0, .long 7]) rfl rfl rfl (Nat.le_of_ble_eq_true rfl) ((c_in (x := 20) (lo := 0) (hi := 7) (by decide) (by decide) (by decide))) (by decide) ?_
  rintro _ _ ⟨rfl, rfl⟩
  rw [if_neg (by decide)]
  show aWP _ _ (5, [some (.ref 84), some (.int (nI p)), some (.int 20)], [.int 0], (HD, mi, ml, mr)) _
  refine wp_bI rfl (fun c_1 => ?_) (fun c_1 => ?_)
  · have c_1 : ¬ (0 : Int32) = 0 := of_decide_eq_true c_1
    exact absurd c_1 (by decide)
  have c_1 : (0 : Int32) = 0 := Decidable.not_not.mp (of_decide_eq_false c_1)
  refine wp_steps 4 (t' := (10, [some (.ref 84), some (.int (nI p)), some (.int 20)], [.long 17, .long 10, .long ((20 : Int32).toInt64)], (HD, mi, ml, mr))) rfl ?_
  refine wp_cal (as := [.long ((20 : Int32).toInt64), .long 10, .long 17]) rfl rfl rfl (Nat.le_of_ble_eq_true rfl) ((c_in (x := 20) (lo := 10) (hi := 17) (by decide) (by decide) (by decide))) (by decide) ?_
  rintro _ _ ⟨rfl, rfl⟩
  rw [if_neg (by decide)]
  show aWP _ _ (11, [some (.ref 84), some (.int (nI p)), some (.int 20)], [.int 0], (HD, mi, ml, mr)) _
  refine wp_bI rfl (fun c_2 => ?_) (fun c_2 => ?_)
  · have c_2 : ¬ (0 : Int32) = 0 := of_decide_eq_true c_2
    exact absurd c_2 (by decide)
  have c_2 : (0 : Int32) = 0 := Decidable.not_not.mp (of_decide_eq_false c_2)
  refine wp_steps 4 (t' := (16, [some (.ref 84), some (.int (nI p)), some (.int 20)], [.long 27, .long 20, .long ((20 : Int32).toInt64)], (HD, mi, ml, mr))) rfl ?_
  refine wp_cal (as := [.long ((20 : Int32).toInt64), .long 20, .long 27]) rfl rfl rfl (Nat.le_of_ble_eq_true rfl) ((c_in (x := 20) (lo := 20) (hi := 27) (by decide) (by decide) (by decide))) (by decide) ?_
  rintro _ _ ⟨rfl, rfl⟩
  rw [if_pos (by decide)]
  show aWP _ _ (17, [some (.ref 84), some (.int (nI p)), some (.int 20)], [.int 1], (HD, mi, ml, mr)) _
  refine wp_bI rfl (fun c_3 => ?_) (fun c_3 => ?_)
  · have c_3 : (1 : Int32) = 0 := of_decide_eq_true c_3
    exact absurd c_3 (by decide)
  have c_3 : ¬ ((1 : Int32) = 0) := of_decide_eq_false c_3
  refine wp_steps 3 (t' := (21, [some (.ref 84), some (.int (nI p)), some (.int 20)], [.int (nI p), .int 20, .ref 84], (HD, mi, ml, mr))) rfl ?_
  refine wp_calv (as := [.int 20, .int (nI p)]) rfl rfl rfl (Nat.le_of_ble_eq_true rfl) ⟨by decide, rfl⟩ ((c_isOf_p (ml := ml) hM hN hN5 hpN (by decide))) (by decide) ?_
  rintro _ _ ⟨rfl, rfl⟩
  show aWP _ _ (22, [some (.ref 84), some (.int (nI p)), some (.int 20)], [.int 1], (HD, mi, ml, mr)) _
  refine wp_bI rfl (fun c_4 => ?_) (fun c_4 => ?_)
  rotate_left
  · have c_4 : (1 : Int32) = 0 := Decidable.not_not.mp (of_decide_eq_false c_4)
    exact absurd c_4 (by decide)
  have c_4 : ¬ (1 : Int32) = 0 := of_decide_eq_true c_4
  refine wp_steps 2 (t' := (27, [some (.ref 84), some (.int (nI p)), some (.int 20)], [.int 5, .int 20], (HD, mi, ml, mr))) rfl ?_
  refine wp_bC rfl (fun c_5 => ?_) (fun c_5 => ?_)
  rotate_left
  · have c_5 : ¬ (5 ≤ (20 : Int32)) := of_decide_eq_false c_5
    exact absurd c_5 (by decide)
  have c_5 : 5 ≤ (20 : Int32) := of_decide_eq_true c_5
  refine wp_steps 2 (t' := (60, [some (.ref 84), some (.int (nI p)), some (.int 20)], [.int 9, .int 20], (HD, mi, ml, mr))) rfl ?_
  refine wp_bC rfl (fun c_6 => ?_) (fun c_6 => ?_)
  · have c_6 : (20 : Int32) ≤ 9 := of_decide_eq_true c_6
    exact absurd c_6 (by decide)
  have c_6 : ¬ ((20 : Int32) ≤ 9) := of_decide_eq_false c_6
  refine wp_steps 2 (t' := (63, [some (.ref 84), some (.int (nI p)), some (.int 20)], [.int 20, .int 20], (HD, mi, ml, mr))) rfl ?_
  refine wp_bC rfl (fun c_7 => ?_) (fun c_7 => ?_)
  rotate_left
  · have c_7 : ¬ (20 ≤ (20 : Int32)) := of_decide_eq_false c_7
    exact absurd c_7 (by decide)
  have c_7 : 20 ≤ (20 : Int32) := of_decide_eq_true c_7
  refine wp_steps 5 (t' := (78, [some (.ref 84), some (.int (nI p)), some (.int 20)], [.int 0, .int (nI p), .ref 84], (HD, mi, ml, mr))) rfl ?_
  refine wp_calv (as := [.int (nI p), .int 0]) rfl rfl rfl (Nat.le_of_ble_eq_true rfl) ⟨by decide, rfl⟩ ((r_manages (ml := ml) hM hR hp5 (s := 0) (by decide))) (by decide) ?_
  rintro _ _ ⟨rfl, m_1, w_1, rfl, f1⟩
  show aWP _ _ (79, [some (.ref 84), some (.int (nI p)), some (.int 20)], [.int (if maG (twR mi c0 c1 c2) (puR mi p) 0 < 0 then (0 : Int32) else 1)], (HD, m_1, w_1, mr)) _
  refine wp_bI rfl (fun c_8 => ?_) (fun c_8 => ?_)
  · have c_8 : (if maG (twR mi c0 c1 c2) (puR mi p) 0 < 0 then (0 : Int32) else 1) = 0 := of_decide_eq_true c_8
    refine wp_steps 1 (t' := (83, [some (.ref 84), some (.int (nI p)), some (.int 20)], [.int 0], (HD, m_1, w_1, mr))) rfl ?_
    refine wp_ret rfl rfl ⟨⟨Nat.le_refl _, Nat.le_refl _⟩, ?_⟩
    have q : maG (twR mi c0 c1 c2) (puR mi p) 0 < 0 := Decidable.byContradiction fun z => absurd ((if_neg z).symm.trans c_8) (by decide)
    have e : toG (twR mi c0 c1 c2) (puR mi p) 20 = (if maG (twR mi c0 c1 c2) (puR mi p) 0 < 0 then 0 else 1) := rfl
    exact ⟨by rw [e, if_pos q], m_1, w_1, rfl, f1.Q⟩
  · have c_8 : ¬ ((if maG (twR mi c0 c1 c2) (puR mi p) 0 < 0 then (0 : Int32) else 1) = 0) := of_decide_eq_false c_8
    refine wp_steps 2 (t' := (83, [some (.ref 84), some (.int (nI p)), some (.int 20)], [.int 1], (HD, m_1, w_1, mr))) rfl ?_
    refine wp_ret rfl rfl ⟨⟨Nat.le_refl _, Nat.le_refl _⟩, ?_⟩
    have q : ¬ maG (twR mi c0 c1 c2) (puR mi p) 0 < 0 := fun z => c_8 (if_pos z)
    have e : toG (twR mi c0 c1 c2) (puR mi p) 20 = (if maG (twR mi c0 c1 c2) (puR mi p) 0 < 0 then 0 else 1) := rfl
    exact ⟨by rw [e, if_neg q], m_1, w_1, rfl, f1.Q⟩
set_option maxRecDepth 20000 in
set_option maxHeartbeats 1000000 in
theorem q_told_21p {X : aXt × Value} {mi : Nat → Nat → Int32} {ml : Nat → Nat → Int64} {mr : Nat → Nat → Option Nat} (hM : MRok mr) {N : Nat} (hN : mi 84 12 = nI N) (hN5 : N ≤ 5) {c0 c1 c2 : List Int32} (hR : RUX mi c0 c1 c2) {p : Nat} (hpN : p < N) (hok : okU (puR mi p)) : aCW X 48 123 [.ref 84, .int (nI p), .int 21] (HD, mi, ml, mr) (qR mi mr (.int (toG (twR mi c0 c1 c2) (puR mi p) 21))) := by
  have hp5 : p < 5 := by omega
  refine cw_of (cd := cd_X7_told) (nL := 3) rfl rfl ?_
  show aWP _ _ (0, [some (.ref 84), some (.int (nI p)), some (.int 21)], [], (HD, mi, ml, mr)) _
  refine wp_steps 4 (t' := (4, [some (.ref 84), some (.int (nI p)), some (.int 21)], [.long 7, .long 0, .long ((21 : Int32).toInt64)], (HD, mi, ml, mr))) rfl ?_
  refine wp_cal (as := [.long ((21 : Int32).toInt64), .long 0, .long 7]) rfl rfl rfl (Nat.le_of_ble_eq_true rfl) ((c_in (x := 21) (lo := 0) (hi := 7) (by decide) (by decide) (by decide))) (by decide) ?_
  rintro _ _ ⟨rfl, rfl⟩
  rw [if_neg (by decide)]
  show aWP _ _ (5, [some (.ref 84), some (.int (nI p)), some (.int 21)], [.int 0], (HD, mi, ml, mr)) _
  refine wp_bI rfl (fun c_1 => ?_) (fun c_1 => ?_)
  · have c_1 : ¬ (0 : Int32) = 0 := of_decide_eq_true c_1
    exact absurd c_1 (by decide)
  have c_1 : (0 : Int32) = 0 := Decidable.not_not.mp (of_decide_eq_false c_1)
  refine wp_steps 4 (t' := (10, [some (.ref 84), some (.int (nI p)), some (.int 21)], [.long 17, .long 10, .long ((21 : Int32).toInt64)], (HD, mi, ml, mr))) rfl ?_
  refine wp_cal (as := [.long ((21 : Int32).toInt64), .long 10, .long 17]) rfl rfl rfl (Nat.le_of_ble_eq_true rfl) ((c_in (x := 21) (lo := 10) (hi := 17) (by decide) (by decide) (by decide))) (by decide) ?_
  rintro _ _ ⟨rfl, rfl⟩
  rw [if_neg (by decide)]
  show aWP _ _ (11, [some (.ref 84), some (.int (nI p)), some (.int 21)], [.int 0], (HD, mi, ml, mr)) _
  refine wp_bI rfl (fun c_2 => ?_) (fun c_2 => ?_)
  · have c_2 : ¬ (0 : Int32) = 0 := of_decide_eq_true c_2
    exact absurd c_2 (by decide)
  have c_2 : (0 : Int32) = 0 := Decidable.not_not.mp (of_decide_eq_false c_2)
  refine wp_steps 4 (t' := (16, [some (.ref 84), some (.int (nI p)), some (.int 21)], [.long 27, .long 20, .long ((21 : Int32).toInt64)], (HD, mi, ml, mr))) rfl ?_
  refine wp_cal (as := [.long ((21 : Int32).toInt64), .long 20, .long 27]) rfl rfl rfl (Nat.le_of_ble_eq_true rfl) ((c_in (x := 21) (lo := 20) (hi := 27) (by decide) (by decide) (by decide))) (by decide) ?_
  rintro _ _ ⟨rfl, rfl⟩
  rw [if_pos (by decide)]
  show aWP _ _ (17, [some (.ref 84), some (.int (nI p)), some (.int 21)], [.int 1], (HD, mi, ml, mr)) _
  refine wp_bI rfl (fun c_3 => ?_) (fun c_3 => ?_)
  · have c_3 : (1 : Int32) = 0 := of_decide_eq_true c_3
    exact absurd c_3 (by decide)
  have c_3 : ¬ ((1 : Int32) = 0) := of_decide_eq_false c_3
  refine wp_steps 3 (t' := (21, [some (.ref 84), some (.int (nI p)), some (.int 21)], [.int (nI p), .int 21, .ref 84], (HD, mi, ml, mr))) rfl ?_
  refine wp_calv (as := [.int 21, .int (nI p)]) rfl rfl rfl (Nat.le_of_ble_eq_true rfl) ⟨by decide, rfl⟩ ((c_isOf_p (ml := ml) hM hN hN5 hpN (by decide))) (by decide) ?_
  rintro _ _ ⟨rfl, rfl⟩
  show aWP _ _ (22, [some (.ref 84), some (.int (nI p)), some (.int 21)], [.int 1], (HD, mi, ml, mr)) _
  refine wp_bI rfl (fun c_4 => ?_) (fun c_4 => ?_)
  rotate_left
  · have c_4 : (1 : Int32) = 0 := Decidable.not_not.mp (of_decide_eq_false c_4)
    exact absurd c_4 (by decide)
  have c_4 : ¬ (1 : Int32) = 0 := of_decide_eq_true c_4
  refine wp_steps 2 (t' := (27, [some (.ref 84), some (.int (nI p)), some (.int 21)], [.int 5, .int 21], (HD, mi, ml, mr))) rfl ?_
  refine wp_bC rfl (fun c_5 => ?_) (fun c_5 => ?_)
  rotate_left
  · have c_5 : ¬ (5 ≤ (21 : Int32)) := of_decide_eq_false c_5
    exact absurd c_5 (by decide)
  have c_5 : 5 ≤ (21 : Int32) := of_decide_eq_true c_5
  refine wp_steps 2 (t' := (60, [some (.ref 84), some (.int (nI p)), some (.int 21)], [.int 9, .int 21], (HD, mi, ml, mr))) rfl ?_
  refine wp_bC rfl (fun c_6 => ?_) (fun c_6 => ?_)
  · have c_6 : (21 : Int32) ≤ 9 := of_decide_eq_true c_6
    exact absurd c_6 (by decide)
  have c_6 : ¬ ((21 : Int32) ≤ 9) := of_decide_eq_false c_6
  refine wp_steps 2 (t' := (63, [some (.ref 84), some (.int (nI p)), some (.int 21)], [.int 20, .int 21], (HD, mi, ml, mr))) rfl ?_
  refine wp_bC rfl (fun c_7 => ?_) (fun c_7 => ?_)
  rotate_left
  · have c_7 : ¬ (20 ≤ (21 : Int32)) := of_decide_eq_false c_7
    exact absurd c_7 (by decide)
  have c_7 : 20 ≤ (21 : Int32) := of_decide_eq_true c_7
  refine wp_steps 5 (t' := (78, [some (.ref 84), some (.int (nI p)), some (.int 21)], [.int 1, .int (nI p), .ref 84], (HD, mi, ml, mr))) rfl ?_
  refine wp_calv (as := [.int (nI p), .int 1]) rfl rfl rfl (Nat.le_of_ble_eq_true rfl) ⟨by decide, rfl⟩ ((r_manages (ml := ml) hM hR hp5 (s := 1) (by decide))) (by decide) ?_
  rintro _ _ ⟨rfl, m_1, w_1, rfl, f1⟩
  show aWP _ _ (79, [some (.ref 84), some (.int (nI p)), some (.int 21)], [.int (if maG (twR mi c0 c1 c2) (puR mi p) 1 < 0 then (0 : Int32) else 1)], (HD, m_1, w_1, mr)) _
  refine wp_bI rfl (fun c_8 => ?_) (fun c_8 => ?_)
  · have c_8 : (if maG (twR mi c0 c1 c2) (puR mi p) 1 < 0 then (0 : Int32) else 1) = 0 := of_decide_eq_true c_8
    refine wp_steps 1 (t' := (83, [some (.ref 84), some (.int (nI p)), some (.int 21)], [.int 0], (HD, m_1, w_1, mr))) rfl ?_
    refine wp_ret rfl rfl ⟨⟨Nat.le_refl _, Nat.le_refl _⟩, ?_⟩
    have q : maG (twR mi c0 c1 c2) (puR mi p) 1 < 0 := Decidable.byContradiction fun z => absurd ((if_neg z).symm.trans c_8) (by decide)
    have e : toG (twR mi c0 c1 c2) (puR mi p) 21 = (if maG (twR mi c0 c1 c2) (puR mi p) 1 < 0 then 0 else 1) := rfl
    exact ⟨by rw [e, if_pos q], m_1, w_1, rfl, f1.Q⟩
  · have c_8 : ¬ ((if maG (twR mi c0 c1 c2) (puR mi p) 1 < 0 then (0 : Int32) else 1) = 0) := of_decide_eq_false c_8
    refine wp_steps 2 (t' := (83, [some (.ref 84), some (.int (nI p)), some (.int 21)], [.int 1], (HD, m_1, w_1, mr))) rfl ?_
    refine wp_ret rfl rfl ⟨⟨Nat.le_refl _, Nat.le_refl _⟩, ?_⟩
    have q : ¬ maG (twR mi c0 c1 c2) (puR mi p) 1 < 0 := fun z => c_8 (if_pos z)
    have e : toG (twR mi c0 c1 c2) (puR mi p) 21 = (if maG (twR mi c0 c1 c2) (puR mi p) 1 < 0 then 0 else 1) := rfl
    exact ⟨by rw [e, if_neg q], m_1, w_1, rfl, f1.Q⟩
set_option maxRecDepth 20000 in
set_option maxHeartbeats 1000000 in
theorem q_told_22p {X : aXt × Value} {mi : Nat → Nat → Int32} {ml : Nat → Nat → Int64} {mr : Nat → Nat → Option Nat} (hM : MRok mr) {N : Nat} (hN : mi 84 12 = nI N) (hN5 : N ≤ 5) {c0 c1 c2 : List Int32} (hR : RUX mi c0 c1 c2) {p : Nat} (hpN : p < N) (hok : okU (puR mi p)) : aCW X 48 123 [.ref 84, .int (nI p), .int 22] (HD, mi, ml, mr) (qR mi mr (.int (toG (twR mi c0 c1 c2) (puR mi p) 22))) := by
  have hp5 : p < 5 := by omega
  refine cw_of (cd := cd_X7_told) (nL := 3) rfl rfl ?_
  show aWP _ _ (0, [some (.ref 84), some (.int (nI p)), some (.int 22)], [], (HD, mi, ml, mr)) _
  refine wp_steps 4 (t' := (4, [some (.ref 84), some (.int (nI p)), some (.int 22)], [.long 7, .long 0, .long ((22 : Int32).toInt64)], (HD, mi, ml, mr))) rfl ?_
  refine wp_cal (as := [.long ((22 : Int32).toInt64), .long 0, .long 7]) rfl rfl rfl (Nat.le_of_ble_eq_true rfl) ((c_in (x := 22) (lo := 0) (hi := 7) (by decide) (by decide) (by decide))) (by decide) ?_
  rintro _ _ ⟨rfl, rfl⟩
  rw [if_neg (by decide)]
  show aWP _ _ (5, [some (.ref 84), some (.int (nI p)), some (.int 22)], [.int 0], (HD, mi, ml, mr)) _
  refine wp_bI rfl (fun c_1 => ?_) (fun c_1 => ?_)
  · have c_1 : ¬ (0 : Int32) = 0 := of_decide_eq_true c_1
    exact absurd c_1 (by decide)
  have c_1 : (0 : Int32) = 0 := Decidable.not_not.mp (of_decide_eq_false c_1)
  refine wp_steps 4 (t' := (10, [some (.ref 84), some (.int (nI p)), some (.int 22)], [.long 17, .long 10, .long ((22 : Int32).toInt64)], (HD, mi, ml, mr))) rfl ?_
  refine wp_cal (as := [.long ((22 : Int32).toInt64), .long 10, .long 17]) rfl rfl rfl (Nat.le_of_ble_eq_true rfl) ((c_in (x := 22) (lo := 10) (hi := 17) (by decide) (by decide) (by decide))) (by decide) ?_
  rintro _ _ ⟨rfl, rfl⟩
  rw [if_neg (by decide)]
  show aWP _ _ (11, [some (.ref 84), some (.int (nI p)), some (.int 22)], [.int 0], (HD, mi, ml, mr)) _
  refine wp_bI rfl (fun c_2 => ?_) (fun c_2 => ?_)
  · have c_2 : ¬ (0 : Int32) = 0 := of_decide_eq_true c_2
    exact absurd c_2 (by decide)
  have c_2 : (0 : Int32) = 0 := Decidable.not_not.mp (of_decide_eq_false c_2)
  refine wp_steps 4 (t' := (16, [some (.ref 84), some (.int (nI p)), some (.int 22)], [.long 27, .long 20, .long ((22 : Int32).toInt64)], (HD, mi, ml, mr))) rfl ?_
  refine wp_cal (as := [.long ((22 : Int32).toInt64), .long 20, .long 27]) rfl rfl rfl (Nat.le_of_ble_eq_true rfl) ((c_in (x := 22) (lo := 20) (hi := 27) (by decide) (by decide) (by decide))) (by decide) ?_
  rintro _ _ ⟨rfl, rfl⟩
  rw [if_pos (by decide)]
  show aWP _ _ (17, [some (.ref 84), some (.int (nI p)), some (.int 22)], [.int 1], (HD, mi, ml, mr)) _
  refine wp_bI rfl (fun c_3 => ?_) (fun c_3 => ?_)
  · have c_3 : (1 : Int32) = 0 := of_decide_eq_true c_3
    exact absurd c_3 (by decide)
  have c_3 : ¬ ((1 : Int32) = 0) := of_decide_eq_false c_3
  refine wp_steps 3 (t' := (21, [some (.ref 84), some (.int (nI p)), some (.int 22)], [.int (nI p), .int 22, .ref 84], (HD, mi, ml, mr))) rfl ?_
  refine wp_calv (as := [.int 22, .int (nI p)]) rfl rfl rfl (Nat.le_of_ble_eq_true rfl) ⟨by decide, rfl⟩ ((c_isOf_p (ml := ml) hM hN hN5 hpN (by decide))) (by decide) ?_
  rintro _ _ ⟨rfl, rfl⟩
  show aWP _ _ (22, [some (.ref 84), some (.int (nI p)), some (.int 22)], [.int 1], (HD, mi, ml, mr)) _
  refine wp_bI rfl (fun c_4 => ?_) (fun c_4 => ?_)
  rotate_left
  · have c_4 : (1 : Int32) = 0 := Decidable.not_not.mp (of_decide_eq_false c_4)
    exact absurd c_4 (by decide)
  have c_4 : ¬ (1 : Int32) = 0 := of_decide_eq_true c_4
  refine wp_steps 2 (t' := (27, [some (.ref 84), some (.int (nI p)), some (.int 22)], [.int 5, .int 22], (HD, mi, ml, mr))) rfl ?_
  refine wp_bC rfl (fun c_5 => ?_) (fun c_5 => ?_)
  rotate_left
  · have c_5 : ¬ (5 ≤ (22 : Int32)) := of_decide_eq_false c_5
    exact absurd c_5 (by decide)
  have c_5 : 5 ≤ (22 : Int32) := of_decide_eq_true c_5
  refine wp_steps 2 (t' := (60, [some (.ref 84), some (.int (nI p)), some (.int 22)], [.int 9, .int 22], (HD, mi, ml, mr))) rfl ?_
  refine wp_bC rfl (fun c_6 => ?_) (fun c_6 => ?_)
  · have c_6 : (22 : Int32) ≤ 9 := of_decide_eq_true c_6
    exact absurd c_6 (by decide)
  have c_6 : ¬ ((22 : Int32) ≤ 9) := of_decide_eq_false c_6
  refine wp_steps 2 (t' := (63, [some (.ref 84), some (.int (nI p)), some (.int 22)], [.int 20, .int 22], (HD, mi, ml, mr))) rfl ?_
  refine wp_bC rfl (fun c_7 => ?_) (fun c_7 => ?_)
  rotate_left
  · have c_7 : ¬ (20 ≤ (22 : Int32)) := of_decide_eq_false c_7
    exact absurd c_7 (by decide)
  have c_7 : 20 ≤ (22 : Int32) := of_decide_eq_true c_7
  refine wp_steps 5 (t' := (78, [some (.ref 84), some (.int (nI p)), some (.int 22)], [.int 2, .int (nI p), .ref 84], (HD, mi, ml, mr))) rfl ?_
  refine wp_calv (as := [.int (nI p), .int 2]) rfl rfl rfl (Nat.le_of_ble_eq_true rfl) ⟨by decide, rfl⟩ ((r_manages (ml := ml) hM hR hp5 (s := 2) (by decide))) (by decide) ?_
  rintro _ _ ⟨rfl, m_1, w_1, rfl, f1⟩
  show aWP _ _ (79, [some (.ref 84), some (.int (nI p)), some (.int 22)], [.int (if maG (twR mi c0 c1 c2) (puR mi p) 2 < 0 then (0 : Int32) else 1)], (HD, m_1, w_1, mr)) _
  refine wp_bI rfl (fun c_8 => ?_) (fun c_8 => ?_)
  · have c_8 : (if maG (twR mi c0 c1 c2) (puR mi p) 2 < 0 then (0 : Int32) else 1) = 0 := of_decide_eq_true c_8
    refine wp_steps 1 (t' := (83, [some (.ref 84), some (.int (nI p)), some (.int 22)], [.int 0], (HD, m_1, w_1, mr))) rfl ?_
    refine wp_ret rfl rfl ⟨⟨Nat.le_refl _, Nat.le_refl _⟩, ?_⟩
    have q : maG (twR mi c0 c1 c2) (puR mi p) 2 < 0 := Decidable.byContradiction fun z => absurd ((if_neg z).symm.trans c_8) (by decide)
    have e : toG (twR mi c0 c1 c2) (puR mi p) 22 = (if maG (twR mi c0 c1 c2) (puR mi p) 2 < 0 then 0 else 1) := rfl
    exact ⟨by rw [e, if_pos q], m_1, w_1, rfl, f1.Q⟩
  · have c_8 : ¬ ((if maG (twR mi c0 c1 c2) (puR mi p) 2 < 0 then (0 : Int32) else 1) = 0) := of_decide_eq_false c_8
    refine wp_steps 2 (t' := (83, [some (.ref 84), some (.int (nI p)), some (.int 22)], [.int 1], (HD, m_1, w_1, mr))) rfl ?_
    refine wp_ret rfl rfl ⟨⟨Nat.le_refl _, Nat.le_refl _⟩, ?_⟩
    have q : ¬ maG (twR mi c0 c1 c2) (puR mi p) 2 < 0 := fun z => c_8 (if_pos z)
    have e : toG (twR mi c0 c1 c2) (puR mi p) 22 = (if maG (twR mi c0 c1 c2) (puR mi p) 2 < 0 then 0 else 1) := rfl
    exact ⟨by rw [e, if_neg q], m_1, w_1, rfl, f1.Q⟩
set_option maxRecDepth 20000 in
set_option maxHeartbeats 1000000 in
theorem q_told_23p {X : aXt × Value} {mi : Nat → Nat → Int32} {ml : Nat → Nat → Int64} {mr : Nat → Nat → Option Nat} (hM : MRok mr) {N : Nat} (hN : mi 84 12 = nI N) (hN5 : N ≤ 5) {c0 c1 c2 : List Int32} (hR : RUX mi c0 c1 c2) {p : Nat} (hpN : p < N) (hok : okU (puR mi p)) : aCW X 48 123 [.ref 84, .int (nI p), .int 23] (HD, mi, ml, mr) (qR mi mr (.int (toG (twR mi c0 c1 c2) (puR mi p) 23))) := by
  have hp5 : p < 5 := by omega
  refine cw_of (cd := cd_X7_told) (nL := 3) rfl rfl ?_
  show aWP _ _ (0, [some (.ref 84), some (.int (nI p)), some (.int 23)], [], (HD, mi, ml, mr)) _
  refine wp_steps 4 (t' := (4, [some (.ref 84), some (.int (nI p)), some (.int 23)], [.long 7, .long 0, .long ((23 : Int32).toInt64)], (HD, mi, ml, mr))) rfl ?_
  refine wp_cal (as := [.long ((23 : Int32).toInt64), .long 0, .long 7]) rfl rfl rfl (Nat.le_of_ble_eq_true rfl) ((c_in (x := 23) (lo := 0) (hi := 7) (by decide) (by decide) (by decide))) (by decide) ?_
  rintro _ _ ⟨rfl, rfl⟩
  rw [if_neg (by decide)]
  show aWP _ _ (5, [some (.ref 84), some (.int (nI p)), some (.int 23)], [.int 0], (HD, mi, ml, mr)) _
  refine wp_bI rfl (fun c_1 => ?_) (fun c_1 => ?_)
  · have c_1 : ¬ (0 : Int32) = 0 := of_decide_eq_true c_1
    exact absurd c_1 (by decide)
  have c_1 : (0 : Int32) = 0 := Decidable.not_not.mp (of_decide_eq_false c_1)
  refine wp_steps 4 (t' := (10, [some (.ref 84), some (.int (nI p)), some (.int 23)], [.long 17, .long 10, .long ((23 : Int32).toInt64)], (HD, mi, ml, mr))) rfl ?_
  refine wp_cal (as := [.long ((23 : Int32).toInt64), .long 10, .long 17]) rfl rfl rfl (Nat.le_of_ble_eq_true rfl) ((c_in (x := 23) (lo := 10) (hi := 17) (by decide) (by decide) (by decide))) (by decide) ?_
  rintro _ _ ⟨rfl, rfl⟩
  rw [if_neg (by decide)]
  show aWP _ _ (11, [some (.ref 84), some (.int (nI p)), some (.int 23)], [.int 0], (HD, mi, ml, mr)) _
  refine wp_bI rfl (fun c_2 => ?_) (fun c_2 => ?_)
  · have c_2 : ¬ (0 : Int32) = 0 := of_decide_eq_true c_2
    exact absurd c_2 (by decide)
  have c_2 : (0 : Int32) = 0 := Decidable.not_not.mp (of_decide_eq_false c_2)
  refine wp_steps 4 (t' := (16, [some (.ref 84), some (.int (nI p)), some (.int 23)], [.long 27, .long 20, .long ((23 : Int32).toInt64)], (HD, mi, ml, mr))) rfl ?_
  refine wp_cal (as := [.long ((23 : Int32).toInt64), .long 20, .long 27]) rfl rfl rfl (Nat.le_of_ble_eq_true rfl) ((c_in (x := 23) (lo := 20) (hi := 27) (by decide) (by decide) (by decide))) (by decide) ?_
  rintro _ _ ⟨rfl, rfl⟩
  rw [if_pos (by decide)]
  show aWP _ _ (17, [some (.ref 84), some (.int (nI p)), some (.int 23)], [.int 1], (HD, mi, ml, mr)) _
  refine wp_bI rfl (fun c_3 => ?_) (fun c_3 => ?_)
  · have c_3 : (1 : Int32) = 0 := of_decide_eq_true c_3
    exact absurd c_3 (by decide)
  have c_3 : ¬ ((1 : Int32) = 0) := of_decide_eq_false c_3
  refine wp_steps 3 (t' := (21, [some (.ref 84), some (.int (nI p)), some (.int 23)], [.int (nI p), .int 23, .ref 84], (HD, mi, ml, mr))) rfl ?_
  refine wp_calv (as := [.int 23, .int (nI p)]) rfl rfl rfl (Nat.le_of_ble_eq_true rfl) ⟨by decide, rfl⟩ ((c_isOf_p (ml := ml) hM hN hN5 hpN (by decide))) (by decide) ?_
  rintro _ _ ⟨rfl, rfl⟩
  show aWP _ _ (22, [some (.ref 84), some (.int (nI p)), some (.int 23)], [.int 1], (HD, mi, ml, mr)) _
  refine wp_bI rfl (fun c_4 => ?_) (fun c_4 => ?_)
  rotate_left
  · have c_4 : (1 : Int32) = 0 := Decidable.not_not.mp (of_decide_eq_false c_4)
    exact absurd c_4 (by decide)
  have c_4 : ¬ (1 : Int32) = 0 := of_decide_eq_true c_4
  refine wp_steps 2 (t' := (27, [some (.ref 84), some (.int (nI p)), some (.int 23)], [.int 5, .int 23], (HD, mi, ml, mr))) rfl ?_
  refine wp_bC rfl (fun c_5 => ?_) (fun c_5 => ?_)
  rotate_left
  · have c_5 : ¬ (5 ≤ (23 : Int32)) := of_decide_eq_false c_5
    exact absurd c_5 (by decide)
  have c_5 : 5 ≤ (23 : Int32) := of_decide_eq_true c_5
  refine wp_steps 2 (t' := (60, [some (.ref 84), some (.int (nI p)), some (.int 23)], [.int 9, .int 23], (HD, mi, ml, mr))) rfl ?_
  refine wp_bC rfl (fun c_6 => ?_) (fun c_6 => ?_)
  · have c_6 : (23 : Int32) ≤ 9 := of_decide_eq_true c_6
    exact absurd c_6 (by decide)
  have c_6 : ¬ ((23 : Int32) ≤ 9) := of_decide_eq_false c_6
  refine wp_steps 2 (t' := (63, [some (.ref 84), some (.int (nI p)), some (.int 23)], [.int 20, .int 23], (HD, mi, ml, mr))) rfl ?_
  refine wp_bC rfl (fun c_7 => ?_) (fun c_7 => ?_)
  rotate_left
  · have c_7 : ¬ (20 ≤ (23 : Int32)) := of_decide_eq_false c_7
    exact absurd c_7 (by decide)
  have c_7 : 20 ≤ (23 : Int32) := of_decide_eq_true c_7
  refine wp_steps 5 (t' := (78, [some (.ref 84), some (.int (nI p)), some (.int 23)], [.int 3, .int (nI p), .ref 84], (HD, mi, ml, mr))) rfl ?_
  refine wp_calv (as := [.int (nI p), .int 3]) rfl rfl rfl (Nat.le_of_ble_eq_true rfl) ⟨by decide, rfl⟩ ((r_manages (ml := ml) hM hR hp5 (s := 3) (by decide))) (by decide) ?_
  rintro _ _ ⟨rfl, m_1, w_1, rfl, f1⟩
  show aWP _ _ (79, [some (.ref 84), some (.int (nI p)), some (.int 23)], [.int (if maG (twR mi c0 c1 c2) (puR mi p) 3 < 0 then (0 : Int32) else 1)], (HD, m_1, w_1, mr)) _
  refine wp_bI rfl (fun c_8 => ?_) (fun c_8 => ?_)
  · have c_8 : (if maG (twR mi c0 c1 c2) (puR mi p) 3 < 0 then (0 : Int32) else 1) = 0 := of_decide_eq_true c_8
    refine wp_steps 1 (t' := (83, [some (.ref 84), some (.int (nI p)), some (.int 23)], [.int 0], (HD, m_1, w_1, mr))) rfl ?_
    refine wp_ret rfl rfl ⟨⟨Nat.le_refl _, Nat.le_refl _⟩, ?_⟩
    have q : maG (twR mi c0 c1 c2) (puR mi p) 3 < 0 := Decidable.byContradiction fun z => absurd ((if_neg z).symm.trans c_8) (by decide)
    have e : toG (twR mi c0 c1 c2) (puR mi p) 23 = (if maG (twR mi c0 c1 c2) (puR mi p) 3 < 0 then 0 else 1) := rfl
    exact ⟨by rw [e, if_pos q], m_1, w_1, rfl, f1.Q⟩
  · have c_8 : ¬ ((if maG (twR mi c0 c1 c2) (puR mi p) 3 < 0 then (0 : Int32) else 1) = 0) := of_decide_eq_false c_8
    refine wp_steps 2 (t' := (83, [some (.ref 84), some (.int (nI p)), some (.int 23)], [.int 1], (HD, m_1, w_1, mr))) rfl ?_
    refine wp_ret rfl rfl ⟨⟨Nat.le_refl _, Nat.le_refl _⟩, ?_⟩
    have q : ¬ maG (twR mi c0 c1 c2) (puR mi p) 3 < 0 := fun z => c_8 (if_pos z)
    have e : toG (twR mi c0 c1 c2) (puR mi p) 23 = (if maG (twR mi c0 c1 c2) (puR mi p) 3 < 0 then 0 else 1) := rfl
    exact ⟨by rw [e, if_neg q], m_1, w_1, rfl, f1.Q⟩
set_option maxRecDepth 20000 in
set_option maxHeartbeats 1000000 in
theorem q_told_24p {X : aXt × Value} {mi : Nat → Nat → Int32} {ml : Nat → Nat → Int64} {mr : Nat → Nat → Option Nat} (hM : MRok mr) {N : Nat} (hN : mi 84 12 = nI N) (hN5 : N ≤ 5) {c0 c1 c2 : List Int32} (hR : RUX mi c0 c1 c2) {p : Nat} (hpN : p < N) (hok : okU (puR mi p)) : aCW X 48 123 [.ref 84, .int (nI p), .int 24] (HD, mi, ml, mr) (qR mi mr (.int (toG (twR mi c0 c1 c2) (puR mi p) 24))) := by
  have hp5 : p < 5 := by omega
  refine cw_of (cd := cd_X7_told) (nL := 3) rfl rfl ?_
  show aWP _ _ (0, [some (.ref 84), some (.int (nI p)), some (.int 24)], [], (HD, mi, ml, mr)) _
  refine wp_steps 4 (t' := (4, [some (.ref 84), some (.int (nI p)), some (.int 24)], [.long 7, .long 0, .long ((24 : Int32).toInt64)], (HD, mi, ml, mr))) rfl ?_
  refine wp_cal (as := [.long ((24 : Int32).toInt64), .long 0, .long 7]) rfl rfl rfl (Nat.le_of_ble_eq_true rfl) ((c_in (x := 24) (lo := 0) (hi := 7) (by decide) (by decide) (by decide))) (by decide) ?_
  rintro _ _ ⟨rfl, rfl⟩
  rw [if_neg (by decide)]
  show aWP _ _ (5, [some (.ref 84), some (.int (nI p)), some (.int 24)], [.int 0], (HD, mi, ml, mr)) _
  refine wp_bI rfl (fun c_1 => ?_) (fun c_1 => ?_)
  · have c_1 : ¬ (0 : Int32) = 0 := of_decide_eq_true c_1
    exact absurd c_1 (by decide)
  have c_1 : (0 : Int32) = 0 := Decidable.not_not.mp (of_decide_eq_false c_1)
  refine wp_steps 4 (t' := (10, [some (.ref 84), some (.int (nI p)), some (.int 24)], [.long 17, .long 10, .long ((24 : Int32).toInt64)], (HD, mi, ml, mr))) rfl ?_
  refine wp_cal (as := [.long ((24 : Int32).toInt64), .long 10, .long 17]) rfl rfl rfl (Nat.le_of_ble_eq_true rfl) ((c_in (x := 24) (lo := 10) (hi := 17) (by decide) (by decide) (by decide))) (by decide) ?_
  rintro _ _ ⟨rfl, rfl⟩
  rw [if_neg (by decide)]
  show aWP _ _ (11, [some (.ref 84), some (.int (nI p)), some (.int 24)], [.int 0], (HD, mi, ml, mr)) _
  refine wp_bI rfl (fun c_2 => ?_) (fun c_2 => ?_)
  · have c_2 : ¬ (0 : Int32) = 0 := of_decide_eq_true c_2
    exact absurd c_2 (by decide)
  have c_2 : (0 : Int32) = 0 := Decidable.not_not.mp (of_decide_eq_false c_2)
  refine wp_steps 4 (t' := (16, [some (.ref 84), some (.int (nI p)), some (.int 24)], [.long 27, .long 20, .long ((24 : Int32).toInt64)], (HD, mi, ml, mr))) rfl ?_
  refine wp_cal (as := [.long ((24 : Int32).toInt64), .long 20, .long 27]) rfl rfl rfl (Nat.le_of_ble_eq_true rfl) ((c_in (x := 24) (lo := 20) (hi := 27) (by decide) (by decide) (by decide))) (by decide) ?_
  rintro _ _ ⟨rfl, rfl⟩
  rw [if_pos (by decide)]
  show aWP _ _ (17, [some (.ref 84), some (.int (nI p)), some (.int 24)], [.int 1], (HD, mi, ml, mr)) _
  refine wp_bI rfl (fun c_3 => ?_) (fun c_3 => ?_)
  · have c_3 : (1 : Int32) = 0 := of_decide_eq_true c_3
    exact absurd c_3 (by decide)
  have c_3 : ¬ ((1 : Int32) = 0) := of_decide_eq_false c_3
  refine wp_steps 3 (t' := (21, [some (.ref 84), some (.int (nI p)), some (.int 24)], [.int (nI p), .int 24, .ref 84], (HD, mi, ml, mr))) rfl ?_
  refine wp_calv (as := [.int 24, .int (nI p)]) rfl rfl rfl (Nat.le_of_ble_eq_true rfl) ⟨by decide, rfl⟩ ((c_isOf_p (ml := ml) hM hN hN5 hpN (by decide))) (by decide) ?_
  rintro _ _ ⟨rfl, rfl⟩
  show aWP _ _ (22, [some (.ref 84), some (.int (nI p)), some (.int 24)], [.int 1], (HD, mi, ml, mr)) _
  refine wp_bI rfl (fun c_4 => ?_) (fun c_4 => ?_)
  rotate_left
  · have c_4 : (1 : Int32) = 0 := Decidable.not_not.mp (of_decide_eq_false c_4)
    exact absurd c_4 (by decide)
  have c_4 : ¬ (1 : Int32) = 0 := of_decide_eq_true c_4
  refine wp_steps 2 (t' := (27, [some (.ref 84), some (.int (nI p)), some (.int 24)], [.int 5, .int 24], (HD, mi, ml, mr))) rfl ?_
  refine wp_bC rfl (fun c_5 => ?_) (fun c_5 => ?_)
  rotate_left
  · have c_5 : ¬ (5 ≤ (24 : Int32)) := of_decide_eq_false c_5
    exact absurd c_5 (by decide)
  have c_5 : 5 ≤ (24 : Int32) := of_decide_eq_true c_5
  refine wp_steps 2 (t' := (60, [some (.ref 84), some (.int (nI p)), some (.int 24)], [.int 9, .int 24], (HD, mi, ml, mr))) rfl ?_
  refine wp_bC rfl (fun c_6 => ?_) (fun c_6 => ?_)
  · have c_6 : (24 : Int32) ≤ 9 := of_decide_eq_true c_6
    exact absurd c_6 (by decide)
  have c_6 : ¬ ((24 : Int32) ≤ 9) := of_decide_eq_false c_6
  refine wp_steps 2 (t' := (63, [some (.ref 84), some (.int (nI p)), some (.int 24)], [.int 20, .int 24], (HD, mi, ml, mr))) rfl ?_
  refine wp_bC rfl (fun c_7 => ?_) (fun c_7 => ?_)
  rotate_left
  · have c_7 : ¬ (20 ≤ (24 : Int32)) := of_decide_eq_false c_7
    exact absurd c_7 (by decide)
  have c_7 : 20 ≤ (24 : Int32) := of_decide_eq_true c_7
  refine wp_steps 5 (t' := (78, [some (.ref 84), some (.int (nI p)), some (.int 24)], [.int 4, .int (nI p), .ref 84], (HD, mi, ml, mr))) rfl ?_
  refine wp_calv (as := [.int (nI p), .int 4]) rfl rfl rfl (Nat.le_of_ble_eq_true rfl) ⟨by decide, rfl⟩ ((r_manages (ml := ml) hM hR hp5 (s := 4) (by decide))) (by decide) ?_
  rintro _ _ ⟨rfl, m_1, w_1, rfl, f1⟩
  show aWP _ _ (79, [some (.ref 84), some (.int (nI p)), some (.int 24)], [.int (if maG (twR mi c0 c1 c2) (puR mi p) 4 < 0 then (0 : Int32) else 1)], (HD, m_1, w_1, mr)) _
  refine wp_bI rfl (fun c_8 => ?_) (fun c_8 => ?_)
  · have c_8 : (if maG (twR mi c0 c1 c2) (puR mi p) 4 < 0 then (0 : Int32) else 1) = 0 := of_decide_eq_true c_8
    refine wp_steps 1 (t' := (83, [some (.ref 84), some (.int (nI p)), some (.int 24)], [.int 0], (HD, m_1, w_1, mr))) rfl ?_
    refine wp_ret rfl rfl ⟨⟨Nat.le_refl _, Nat.le_refl _⟩, ?_⟩
    have q : maG (twR mi c0 c1 c2) (puR mi p) 4 < 0 := Decidable.byContradiction fun z => absurd ((if_neg z).symm.trans c_8) (by decide)
    have e : toG (twR mi c0 c1 c2) (puR mi p) 24 = (if maG (twR mi c0 c1 c2) (puR mi p) 4 < 0 then 0 else 1) := rfl
    exact ⟨by rw [e, if_pos q], m_1, w_1, rfl, f1.Q⟩
  · have c_8 : ¬ ((if maG (twR mi c0 c1 c2) (puR mi p) 4 < 0 then (0 : Int32) else 1) = 0) := of_decide_eq_false c_8
    refine wp_steps 2 (t' := (83, [some (.ref 84), some (.int (nI p)), some (.int 24)], [.int 1], (HD, m_1, w_1, mr))) rfl ?_
    refine wp_ret rfl rfl ⟨⟨Nat.le_refl _, Nat.le_refl _⟩, ?_⟩
    have q : ¬ maG (twR mi c0 c1 c2) (puR mi p) 4 < 0 := fun z => c_8 (if_pos z)
    have e : toG (twR mi c0 c1 c2) (puR mi p) 24 = (if maG (twR mi c0 c1 c2) (puR mi p) 4 < 0 then 0 else 1) := rfl
    exact ⟨by rw [e, if_neg q], m_1, w_1, rfl, f1.Q⟩
set_option maxRecDepth 20000 in
set_option maxHeartbeats 1000000 in
theorem q_told_25p {X : aXt × Value} {mi : Nat → Nat → Int32} {ml : Nat → Nat → Int64} {mr : Nat → Nat → Option Nat} (hM : MRok mr) {N : Nat} (hN : mi 84 12 = nI N) (hN5 : N ≤ 5) {c0 c1 c2 : List Int32} (hR : RUX mi c0 c1 c2) {p : Nat} (hpN : p < N) (hok : okU (puR mi p)) : aCW X 48 123 [.ref 84, .int (nI p), .int 25] (HD, mi, ml, mr) (qR mi mr (.int (toG (twR mi c0 c1 c2) (puR mi p) 25))) := by
  have hp5 : p < 5 := by omega
  refine cw_of (cd := cd_X7_told) (nL := 3) rfl rfl ?_
  show aWP _ _ (0, [some (.ref 84), some (.int (nI p)), some (.int 25)], [], (HD, mi, ml, mr)) _
  refine wp_steps 4 (t' := (4, [some (.ref 84), some (.int (nI p)), some (.int 25)], [.long 7, .long 0, .long ((25 : Int32).toInt64)], (HD, mi, ml, mr))) rfl ?_
  refine wp_cal (as := [.long ((25 : Int32).toInt64), .long 0, .long 7]) rfl rfl rfl (Nat.le_of_ble_eq_true rfl) ((c_in (x := 25) (lo := 0) (hi := 7) (by decide) (by decide) (by decide))) (by decide) ?_
  rintro _ _ ⟨rfl, rfl⟩
  rw [if_neg (by decide)]
  show aWP _ _ (5, [some (.ref 84), some (.int (nI p)), some (.int 25)], [.int 0], (HD, mi, ml, mr)) _
  refine wp_bI rfl (fun c_1 => ?_) (fun c_1 => ?_)
  · have c_1 : ¬ (0 : Int32) = 0 := of_decide_eq_true c_1
    exact absurd c_1 (by decide)
  have c_1 : (0 : Int32) = 0 := Decidable.not_not.mp (of_decide_eq_false c_1)
  refine wp_steps 4 (t' := (10, [some (.ref 84), some (.int (nI p)), some (.int 25)], [.long 17, .long 10, .long ((25 : Int32).toInt64)], (HD, mi, ml, mr))) rfl ?_
  refine wp_cal (as := [.long ((25 : Int32).toInt64), .long 10, .long 17]) rfl rfl rfl (Nat.le_of_ble_eq_true rfl) ((c_in (x := 25) (lo := 10) (hi := 17) (by decide) (by decide) (by decide))) (by decide) ?_
  rintro _ _ ⟨rfl, rfl⟩
  rw [if_neg (by decide)]
  show aWP _ _ (11, [some (.ref 84), some (.int (nI p)), some (.int 25)], [.int 0], (HD, mi, ml, mr)) _
  refine wp_bI rfl (fun c_2 => ?_) (fun c_2 => ?_)
  · have c_2 : ¬ (0 : Int32) = 0 := of_decide_eq_true c_2
    exact absurd c_2 (by decide)
  have c_2 : (0 : Int32) = 0 := Decidable.not_not.mp (of_decide_eq_false c_2)
  refine wp_steps 4 (t' := (16, [some (.ref 84), some (.int (nI p)), some (.int 25)], [.long 27, .long 20, .long ((25 : Int32).toInt64)], (HD, mi, ml, mr))) rfl ?_
  refine wp_cal (as := [.long ((25 : Int32).toInt64), .long 20, .long 27]) rfl rfl rfl (Nat.le_of_ble_eq_true rfl) ((c_in (x := 25) (lo := 20) (hi := 27) (by decide) (by decide) (by decide))) (by decide) ?_
  rintro _ _ ⟨rfl, rfl⟩
  rw [if_pos (by decide)]
  show aWP _ _ (17, [some (.ref 84), some (.int (nI p)), some (.int 25)], [.int 1], (HD, mi, ml, mr)) _
  refine wp_bI rfl (fun c_3 => ?_) (fun c_3 => ?_)
  · have c_3 : (1 : Int32) = 0 := of_decide_eq_true c_3
    exact absurd c_3 (by decide)
  have c_3 : ¬ ((1 : Int32) = 0) := of_decide_eq_false c_3
  refine wp_steps 3 (t' := (21, [some (.ref 84), some (.int (nI p)), some (.int 25)], [.int (nI p), .int 25, .ref 84], (HD, mi, ml, mr))) rfl ?_
  refine wp_calv (as := [.int 25, .int (nI p)]) rfl rfl rfl (Nat.le_of_ble_eq_true rfl) ⟨by decide, rfl⟩ ((c_isOf_p (ml := ml) hM hN hN5 hpN (by decide))) (by decide) ?_
  rintro _ _ ⟨rfl, rfl⟩
  show aWP _ _ (22, [some (.ref 84), some (.int (nI p)), some (.int 25)], [.int 1], (HD, mi, ml, mr)) _
  refine wp_bI rfl (fun c_4 => ?_) (fun c_4 => ?_)
  rotate_left
  · have c_4 : (1 : Int32) = 0 := Decidable.not_not.mp (of_decide_eq_false c_4)
    exact absurd c_4 (by decide)
  have c_4 : ¬ (1 : Int32) = 0 := of_decide_eq_true c_4
  refine wp_steps 2 (t' := (27, [some (.ref 84), some (.int (nI p)), some (.int 25)], [.int 5, .int 25], (HD, mi, ml, mr))) rfl ?_
  refine wp_bC rfl (fun c_5 => ?_) (fun c_5 => ?_)
  rotate_left
  · have c_5 : ¬ (5 ≤ (25 : Int32)) := of_decide_eq_false c_5
    exact absurd c_5 (by decide)
  have c_5 : 5 ≤ (25 : Int32) := of_decide_eq_true c_5
  refine wp_steps 2 (t' := (60, [some (.ref 84), some (.int (nI p)), some (.int 25)], [.int 9, .int 25], (HD, mi, ml, mr))) rfl ?_
  refine wp_bC rfl (fun c_6 => ?_) (fun c_6 => ?_)
  · have c_6 : (25 : Int32) ≤ 9 := of_decide_eq_true c_6
    exact absurd c_6 (by decide)
  have c_6 : ¬ ((25 : Int32) ≤ 9) := of_decide_eq_false c_6
  refine wp_steps 2 (t' := (63, [some (.ref 84), some (.int (nI p)), some (.int 25)], [.int 20, .int 25], (HD, mi, ml, mr))) rfl ?_
  refine wp_bC rfl (fun c_7 => ?_) (fun c_7 => ?_)
  rotate_left
  · have c_7 : ¬ (20 ≤ (25 : Int32)) := of_decide_eq_false c_7
    exact absurd c_7 (by decide)
  have c_7 : 20 ≤ (25 : Int32) := of_decide_eq_true c_7
  refine wp_steps 5 (t' := (78, [some (.ref 84), some (.int (nI p)), some (.int 25)], [.int 5, .int (nI p), .ref 84], (HD, mi, ml, mr))) rfl ?_
  refine wp_calv (as := [.int (nI p), .int 5]) rfl rfl rfl (Nat.le_of_ble_eq_true rfl) ⟨by decide, rfl⟩ ((r_manages (ml := ml) hM hR hp5 (s := 5) (by decide))) (by decide) ?_
  rintro _ _ ⟨rfl, m_1, w_1, rfl, f1⟩
  show aWP _ _ (79, [some (.ref 84), some (.int (nI p)), some (.int 25)], [.int (if maG (twR mi c0 c1 c2) (puR mi p) 5 < 0 then (0 : Int32) else 1)], (HD, m_1, w_1, mr)) _
  refine wp_bI rfl (fun c_8 => ?_) (fun c_8 => ?_)
  · have c_8 : (if maG (twR mi c0 c1 c2) (puR mi p) 5 < 0 then (0 : Int32) else 1) = 0 := of_decide_eq_true c_8
    refine wp_steps 1 (t' := (83, [some (.ref 84), some (.int (nI p)), some (.int 25)], [.int 0], (HD, m_1, w_1, mr))) rfl ?_
    refine wp_ret rfl rfl ⟨⟨Nat.le_refl _, Nat.le_refl _⟩, ?_⟩
    have q : maG (twR mi c0 c1 c2) (puR mi p) 5 < 0 := Decidable.byContradiction fun z => absurd ((if_neg z).symm.trans c_8) (by decide)
    have e : toG (twR mi c0 c1 c2) (puR mi p) 25 = (if maG (twR mi c0 c1 c2) (puR mi p) 5 < 0 then 0 else 1) := rfl
    exact ⟨by rw [e, if_pos q], m_1, w_1, rfl, f1.Q⟩
  · have c_8 : ¬ ((if maG (twR mi c0 c1 c2) (puR mi p) 5 < 0 then (0 : Int32) else 1) = 0) := of_decide_eq_false c_8
    refine wp_steps 2 (t' := (83, [some (.ref 84), some (.int (nI p)), some (.int 25)], [.int 1], (HD, m_1, w_1, mr))) rfl ?_
    refine wp_ret rfl rfl ⟨⟨Nat.le_refl _, Nat.le_refl _⟩, ?_⟩
    have q : ¬ maG (twR mi c0 c1 c2) (puR mi p) 5 < 0 := fun z => c_8 (if_pos z)
    have e : toG (twR mi c0 c1 c2) (puR mi p) 25 = (if maG (twR mi c0 c1 c2) (puR mi p) 5 < 0 then 0 else 1) := rfl
    exact ⟨by rw [e, if_neg q], m_1, w_1, rfl, f1.Q⟩
set_option maxRecDepth 20000 in
set_option maxHeartbeats 1000000 in
theorem q_told_26p {X : aXt × Value} {mi : Nat → Nat → Int32} {ml : Nat → Nat → Int64} {mr : Nat → Nat → Option Nat} (hM : MRok mr) {N : Nat} (hN : mi 84 12 = nI N) (hN5 : N ≤ 5) {c0 c1 c2 : List Int32} (hR : RUX mi c0 c1 c2) {p : Nat} (hpN : p < N) (hok : okU (puR mi p)) : aCW X 48 123 [.ref 84, .int (nI p), .int 26] (HD, mi, ml, mr) (qR mi mr (.int (toG (twR mi c0 c1 c2) (puR mi p) 26))) := by
  have hp5 : p < 5 := by omega
  refine cw_of (cd := cd_X7_told) (nL := 3) rfl rfl ?_
  show aWP _ _ (0, [some (.ref 84), some (.int (nI p)), some (.int 26)], [], (HD, mi, ml, mr)) _
  refine wp_steps 4 (t' := (4, [some (.ref 84), some (.int (nI p)), some (.int 26)], [.long 7, .long 0, .long ((26 : Int32).toInt64)], (HD, mi, ml, mr))) rfl ?_
  refine wp_cal (as := [.long ((26 : Int32).toInt64), .long 0, .long 7]) rfl rfl rfl (Nat.le_of_ble_eq_true rfl) ((c_in (x := 26) (lo := 0) (hi := 7) (by decide) (by decide) (by decide))) (by decide) ?_
  rintro _ _ ⟨rfl, rfl⟩
  rw [if_neg (by decide)]
  show aWP _ _ (5, [some (.ref 84), some (.int (nI p)), some (.int 26)], [.int 0], (HD, mi, ml, mr)) _
  refine wp_bI rfl (fun c_1 => ?_) (fun c_1 => ?_)
  · have c_1 : ¬ (0 : Int32) = 0 := of_decide_eq_true c_1
    exact absurd c_1 (by decide)
  have c_1 : (0 : Int32) = 0 := Decidable.not_not.mp (of_decide_eq_false c_1)
  refine wp_steps 4 (t' := (10, [some (.ref 84), some (.int (nI p)), some (.int 26)], [.long 17, .long 10, .long ((26 : Int32).toInt64)], (HD, mi, ml, mr))) rfl ?_
  refine wp_cal (as := [.long ((26 : Int32).toInt64), .long 10, .long 17]) rfl rfl rfl (Nat.le_of_ble_eq_true rfl) ((c_in (x := 26) (lo := 10) (hi := 17) (by decide) (by decide) (by decide))) (by decide) ?_
  rintro _ _ ⟨rfl, rfl⟩
  rw [if_neg (by decide)]
  show aWP _ _ (11, [some (.ref 84), some (.int (nI p)), some (.int 26)], [.int 0], (HD, mi, ml, mr)) _
  refine wp_bI rfl (fun c_2 => ?_) (fun c_2 => ?_)
  · have c_2 : ¬ (0 : Int32) = 0 := of_decide_eq_true c_2
    exact absurd c_2 (by decide)
  have c_2 : (0 : Int32) = 0 := Decidable.not_not.mp (of_decide_eq_false c_2)
  refine wp_steps 4 (t' := (16, [some (.ref 84), some (.int (nI p)), some (.int 26)], [.long 27, .long 20, .long ((26 : Int32).toInt64)], (HD, mi, ml, mr))) rfl ?_
  refine wp_cal (as := [.long ((26 : Int32).toInt64), .long 20, .long 27]) rfl rfl rfl (Nat.le_of_ble_eq_true rfl) ((c_in (x := 26) (lo := 20) (hi := 27) (by decide) (by decide) (by decide))) (by decide) ?_
  rintro _ _ ⟨rfl, rfl⟩
  rw [if_pos (by decide)]
  show aWP _ _ (17, [some (.ref 84), some (.int (nI p)), some (.int 26)], [.int 1], (HD, mi, ml, mr)) _
  refine wp_bI rfl (fun c_3 => ?_) (fun c_3 => ?_)
  · have c_3 : (1 : Int32) = 0 := of_decide_eq_true c_3
    exact absurd c_3 (by decide)
  have c_3 : ¬ ((1 : Int32) = 0) := of_decide_eq_false c_3
  refine wp_steps 3 (t' := (21, [some (.ref 84), some (.int (nI p)), some (.int 26)], [.int (nI p), .int 26, .ref 84], (HD, mi, ml, mr))) rfl ?_
  refine wp_calv (as := [.int 26, .int (nI p)]) rfl rfl rfl (Nat.le_of_ble_eq_true rfl) ⟨by decide, rfl⟩ ((c_isOf_p (ml := ml) hM hN hN5 hpN (by decide))) (by decide) ?_
  rintro _ _ ⟨rfl, rfl⟩
  show aWP _ _ (22, [some (.ref 84), some (.int (nI p)), some (.int 26)], [.int 1], (HD, mi, ml, mr)) _
  refine wp_bI rfl (fun c_4 => ?_) (fun c_4 => ?_)
  rotate_left
  · have c_4 : (1 : Int32) = 0 := Decidable.not_not.mp (of_decide_eq_false c_4)
    exact absurd c_4 (by decide)
  have c_4 : ¬ (1 : Int32) = 0 := of_decide_eq_true c_4
  refine wp_steps 2 (t' := (27, [some (.ref 84), some (.int (nI p)), some (.int 26)], [.int 5, .int 26], (HD, mi, ml, mr))) rfl ?_
  refine wp_bC rfl (fun c_5 => ?_) (fun c_5 => ?_)
  rotate_left
  · have c_5 : ¬ (5 ≤ (26 : Int32)) := of_decide_eq_false c_5
    exact absurd c_5 (by decide)
  have c_5 : 5 ≤ (26 : Int32) := of_decide_eq_true c_5
  refine wp_steps 2 (t' := (60, [some (.ref 84), some (.int (nI p)), some (.int 26)], [.int 9, .int 26], (HD, mi, ml, mr))) rfl ?_
  refine wp_bC rfl (fun c_6 => ?_) (fun c_6 => ?_)
  · have c_6 : (26 : Int32) ≤ 9 := of_decide_eq_true c_6
    exact absurd c_6 (by decide)
  have c_6 : ¬ ((26 : Int32) ≤ 9) := of_decide_eq_false c_6
  refine wp_steps 2 (t' := (63, [some (.ref 84), some (.int (nI p)), some (.int 26)], [.int 20, .int 26], (HD, mi, ml, mr))) rfl ?_
  refine wp_bC rfl (fun c_7 => ?_) (fun c_7 => ?_)
  rotate_left
  · have c_7 : ¬ (20 ≤ (26 : Int32)) := of_decide_eq_false c_7
    exact absurd c_7 (by decide)
  have c_7 : 20 ≤ (26 : Int32) := of_decide_eq_true c_7
  refine wp_steps 5 (t' := (78, [some (.ref 84), some (.int (nI p)), some (.int 26)], [.int 6, .int (nI p), .ref 84], (HD, mi, ml, mr))) rfl ?_
  refine wp_calv (as := [.int (nI p), .int 6]) rfl rfl rfl (Nat.le_of_ble_eq_true rfl) ⟨by decide, rfl⟩ ((r_manages (ml := ml) hM hR hp5 (s := 6) (by decide))) (by decide) ?_
  rintro _ _ ⟨rfl, m_1, w_1, rfl, f1⟩
  show aWP _ _ (79, [some (.ref 84), some (.int (nI p)), some (.int 26)], [.int (if maG (twR mi c0 c1 c2) (puR mi p) 6 < 0 then (0 : Int32) else 1)], (HD, m_1, w_1, mr)) _
  refine wp_bI rfl (fun c_8 => ?_) (fun c_8 => ?_)
  · have c_8 : (if maG (twR mi c0 c1 c2) (puR mi p) 6 < 0 then (0 : Int32) else 1) = 0 := of_decide_eq_true c_8
    refine wp_steps 1 (t' := (83, [some (.ref 84), some (.int (nI p)), some (.int 26)], [.int 0], (HD, m_1, w_1, mr))) rfl ?_
    refine wp_ret rfl rfl ⟨⟨Nat.le_refl _, Nat.le_refl _⟩, ?_⟩
    have q : maG (twR mi c0 c1 c2) (puR mi p) 6 < 0 := Decidable.byContradiction fun z => absurd ((if_neg z).symm.trans c_8) (by decide)
    have e : toG (twR mi c0 c1 c2) (puR mi p) 26 = (if maG (twR mi c0 c1 c2) (puR mi p) 6 < 0 then 0 else 1) := rfl
    exact ⟨by rw [e, if_pos q], m_1, w_1, rfl, f1.Q⟩
  · have c_8 : ¬ ((if maG (twR mi c0 c1 c2) (puR mi p) 6 < 0 then (0 : Int32) else 1) = 0) := of_decide_eq_false c_8
    refine wp_steps 2 (t' := (83, [some (.ref 84), some (.int (nI p)), some (.int 26)], [.int 1], (HD, m_1, w_1, mr))) rfl ?_
    refine wp_ret rfl rfl ⟨⟨Nat.le_refl _, Nat.le_refl _⟩, ?_⟩
    have q : ¬ maG (twR mi c0 c1 c2) (puR mi p) 6 < 0 := fun z => c_8 (if_pos z)
    have e : toG (twR mi c0 c1 c2) (puR mi p) 26 = (if maG (twR mi c0 c1 c2) (puR mi p) 6 < 0 then 0 else 1) := rfl
    exact ⟨by rw [e, if_neg q], m_1, w_1, rfl, f1.Q⟩
set_option maxRecDepth 20000 in
set_option maxHeartbeats 1000000 in
theorem q_told_27p {X : aXt × Value} {mi : Nat → Nat → Int32} {ml : Nat → Nat → Int64} {mr : Nat → Nat → Option Nat} (hM : MRok mr) {N : Nat} (hN : mi 84 12 = nI N) (hN5 : N ≤ 5) {c0 c1 c2 : List Int32} (hR : RUX mi c0 c1 c2) {p : Nat} (hpN : p < N) (hok : okU (puR mi p)) : aCW X 48 123 [.ref 84, .int (nI p), .int 27] (HD, mi, ml, mr) (qR mi mr (.int (toG (twR mi c0 c1 c2) (puR mi p) 27))) := by
  have hp5 : p < 5 := by omega
  refine cw_of (cd := cd_X7_told) (nL := 3) rfl rfl ?_
  show aWP _ _ (0, [some (.ref 84), some (.int (nI p)), some (.int 27)], [], (HD, mi, ml, mr)) _
  refine wp_steps 4 (t' := (4, [some (.ref 84), some (.int (nI p)), some (.int 27)], [.long 7, .long 0, .long ((27 : Int32).toInt64)], (HD, mi, ml, mr))) rfl ?_
  refine wp_cal (as := [.long ((27 : Int32).toInt64), .long 0, .long 7]) rfl rfl rfl (Nat.le_of_ble_eq_true rfl) ((c_in (x := 27) (lo := 0) (hi := 7) (by decide) (by decide) (by decide))) (by decide) ?_
  rintro _ _ ⟨rfl, rfl⟩
  rw [if_neg (by decide)]
  show aWP _ _ (5, [some (.ref 84), some (.int (nI p)), some (.int 27)], [.int 0], (HD, mi, ml, mr)) _
  refine wp_bI rfl (fun c_1 => ?_) (fun c_1 => ?_)
  · have c_1 : ¬ (0 : Int32) = 0 := of_decide_eq_true c_1
    exact absurd c_1 (by decide)
  have c_1 : (0 : Int32) = 0 := Decidable.not_not.mp (of_decide_eq_false c_1)
  refine wp_steps 4 (t' := (10, [some (.ref 84), some (.int (nI p)), some (.int 27)], [.long 17, .long 10, .long ((27 : Int32).toInt64)], (HD, mi, ml, mr))) rfl ?_
  refine wp_cal (as := [.long ((27 : Int32).toInt64), .long 10, .long 17]) rfl rfl rfl (Nat.le_of_ble_eq_true rfl) ((c_in (x := 27) (lo := 10) (hi := 17) (by decide) (by decide) (by decide))) (by decide) ?_
  rintro _ _ ⟨rfl, rfl⟩
  rw [if_neg (by decide)]
  show aWP _ _ (11, [some (.ref 84), some (.int (nI p)), some (.int 27)], [.int 0], (HD, mi, ml, mr)) _
  refine wp_bI rfl (fun c_2 => ?_) (fun c_2 => ?_)
  · have c_2 : ¬ (0 : Int32) = 0 := of_decide_eq_true c_2
    exact absurd c_2 (by decide)
  have c_2 : (0 : Int32) = 0 := Decidable.not_not.mp (of_decide_eq_false c_2)
  refine wp_steps 4 (t' := (16, [some (.ref 84), some (.int (nI p)), some (.int 27)], [.long 27, .long 20, .long ((27 : Int32).toInt64)], (HD, mi, ml, mr))) rfl ?_
  refine wp_cal (as := [.long ((27 : Int32).toInt64), .long 20, .long 27]) rfl rfl rfl (Nat.le_of_ble_eq_true rfl) ((c_in (x := 27) (lo := 20) (hi := 27) (by decide) (by decide) (by decide))) (by decide) ?_
  rintro _ _ ⟨rfl, rfl⟩
  rw [if_pos (by decide)]
  show aWP _ _ (17, [some (.ref 84), some (.int (nI p)), some (.int 27)], [.int 1], (HD, mi, ml, mr)) _
  refine wp_bI rfl (fun c_3 => ?_) (fun c_3 => ?_)
  · have c_3 : (1 : Int32) = 0 := of_decide_eq_true c_3
    exact absurd c_3 (by decide)
  have c_3 : ¬ ((1 : Int32) = 0) := of_decide_eq_false c_3
  refine wp_steps 3 (t' := (21, [some (.ref 84), some (.int (nI p)), some (.int 27)], [.int (nI p), .int 27, .ref 84], (HD, mi, ml, mr))) rfl ?_
  refine wp_calv (as := [.int 27, .int (nI p)]) rfl rfl rfl (Nat.le_of_ble_eq_true rfl) ⟨by decide, rfl⟩ ((c_isOf_p (ml := ml) hM hN hN5 hpN (by decide))) (by decide) ?_
  rintro _ _ ⟨rfl, rfl⟩
  show aWP _ _ (22, [some (.ref 84), some (.int (nI p)), some (.int 27)], [.int 1], (HD, mi, ml, mr)) _
  refine wp_bI rfl (fun c_4 => ?_) (fun c_4 => ?_)
  rotate_left
  · have c_4 : (1 : Int32) = 0 := Decidable.not_not.mp (of_decide_eq_false c_4)
    exact absurd c_4 (by decide)
  have c_4 : ¬ (1 : Int32) = 0 := of_decide_eq_true c_4
  refine wp_steps 2 (t' := (27, [some (.ref 84), some (.int (nI p)), some (.int 27)], [.int 5, .int 27], (HD, mi, ml, mr))) rfl ?_
  refine wp_bC rfl (fun c_5 => ?_) (fun c_5 => ?_)
  rotate_left
  · have c_5 : ¬ (5 ≤ (27 : Int32)) := of_decide_eq_false c_5
    exact absurd c_5 (by decide)
  have c_5 : 5 ≤ (27 : Int32) := of_decide_eq_true c_5
  refine wp_steps 2 (t' := (60, [some (.ref 84), some (.int (nI p)), some (.int 27)], [.int 9, .int 27], (HD, mi, ml, mr))) rfl ?_
  refine wp_bC rfl (fun c_6 => ?_) (fun c_6 => ?_)
  · have c_6 : (27 : Int32) ≤ 9 := of_decide_eq_true c_6
    exact absurd c_6 (by decide)
  have c_6 : ¬ ((27 : Int32) ≤ 9) := of_decide_eq_false c_6
  refine wp_steps 2 (t' := (63, [some (.ref 84), some (.int (nI p)), some (.int 27)], [.int 20, .int 27], (HD, mi, ml, mr))) rfl ?_
  refine wp_bC rfl (fun c_7 => ?_) (fun c_7 => ?_)
  rotate_left
  · have c_7 : ¬ (20 ≤ (27 : Int32)) := of_decide_eq_false c_7
    exact absurd c_7 (by decide)
  have c_7 : 20 ≤ (27 : Int32) := of_decide_eq_true c_7
  refine wp_steps 5 (t' := (78, [some (.ref 84), some (.int (nI p)), some (.int 27)], [.int 7, .int (nI p), .ref 84], (HD, mi, ml, mr))) rfl ?_
  refine wp_calv (as := [.int (nI p), .int 7]) rfl rfl rfl (Nat.le_of_ble_eq_true rfl) ⟨by decide, rfl⟩ ((r_manages (ml := ml) hM hR hp5 (s := 7) (by decide))) (by decide) ?_
  rintro _ _ ⟨rfl, m_1, w_1, rfl, f1⟩
  show aWP _ _ (79, [some (.ref 84), some (.int (nI p)), some (.int 27)], [.int (if maG (twR mi c0 c1 c2) (puR mi p) 7 < 0 then (0 : Int32) else 1)], (HD, m_1, w_1, mr)) _
  refine wp_bI rfl (fun c_8 => ?_) (fun c_8 => ?_)
  · have c_8 : (if maG (twR mi c0 c1 c2) (puR mi p) 7 < 0 then (0 : Int32) else 1) = 0 := of_decide_eq_true c_8
    refine wp_steps 1 (t' := (83, [some (.ref 84), some (.int (nI p)), some (.int 27)], [.int 0], (HD, m_1, w_1, mr))) rfl ?_
    refine wp_ret rfl rfl ⟨⟨Nat.le_refl _, Nat.le_refl _⟩, ?_⟩
    have q : maG (twR mi c0 c1 c2) (puR mi p) 7 < 0 := Decidable.byContradiction fun z => absurd ((if_neg z).symm.trans c_8) (by decide)
    have e : toG (twR mi c0 c1 c2) (puR mi p) 27 = (if maG (twR mi c0 c1 c2) (puR mi p) 7 < 0 then 0 else 1) := rfl
    exact ⟨by rw [e, if_pos q], m_1, w_1, rfl, f1.Q⟩
  · have c_8 : ¬ ((if maG (twR mi c0 c1 c2) (puR mi p) 7 < 0 then (0 : Int32) else 1) = 0) := of_decide_eq_false c_8
    refine wp_steps 2 (t' := (83, [some (.ref 84), some (.int (nI p)), some (.int 27)], [.int 1], (HD, m_1, w_1, mr))) rfl ?_
    refine wp_ret rfl rfl ⟨⟨Nat.le_refl _, Nat.le_refl _⟩, ?_⟩
    have q : ¬ maG (twR mi c0 c1 c2) (puR mi p) 7 < 0 := fun z => c_8 (if_pos z)
    have e : toG (twR mi c0 c1 c2) (puR mi p) 27 = (if maG (twR mi c0 c1 c2) (puR mi p) 7 < 0 then 0 else 1) := rfl
    exact ⟨by rw [e, if_neg q], m_1, w_1, rfl, f1.Q⟩
set_option maxRecDepth 20000 in
set_option maxHeartbeats 1000000 in
theorem q_told_x {X : aXt × Value} {mi : Nat → Nat → Int32} {ml : Nat → Nat → Int64} {mr : Nat → Nat → Option Nat} (hM : MRok mr) {one w : Int32} (hx : ¬ inR 0 7 w ∧ ¬ inR 10 17 w ∧ ¬ inR 20 27 w) : aCW X 48 123 [.ref 84, .int one, .int w] (HD, mi, ml, mr) (qR mi mr (.int (-2))) := by
  refine cw_of (cd := cd_X7_told) (nL := 3) rfl rfl ?_
  show aWP _ _ (0, [some (.ref 84), some (.int one), some (.int w)], [], (HD, mi, ml, mr)) _
  refine wp_steps 4 (t' := (4, [some (.ref 84), some (.int one), some (.int w)], [.long 7, .long 0, .long w.toInt64], (HD, mi, ml, mr))) rfl ?_
  refine wp_cal (as := [.long w.toInt64, .long 0, .long 7]) rfl rfl rfl (Nat.le_of_ble_eq_true rfl) ((c_in (x := w) (lo := 0) (hi := 7) rfl (by decide) (by decide))) (by decide) ?_
  rintro _ _ ⟨rfl, rfl⟩
  show aWP _ _ (5, [some (.ref 84), some (.int one), some (.int w)], [.int (if inR 0 7 w then (1 : Int32) else 0)], (HD, mi, ml, mr)) _
  refine wp_bI rfl (fun c_1 => ?_) (fun c_1 => ?_)
  · have c_1 : ¬ (if inR 0 7 w then (1 : Int32) else 0) = 0 := of_decide_eq_true c_1
    exact absurd (i0_t c_1) hx.1
  have c_1 : (if inR 0 7 w then (1 : Int32) else 0) = 0 := Decidable.not_not.mp (of_decide_eq_false c_1)
  refine wp_steps 4 (t' := (10, [some (.ref 84), some (.int one), some (.int w)], [.long 17, .long 10, .long w.toInt64], (HD, mi, ml, mr))) rfl ?_
  refine wp_cal (as := [.long w.toInt64, .long 10, .long 17]) rfl rfl rfl (Nat.le_of_ble_eq_true rfl) ((c_in (x := w) (lo := 10) (hi := 17) rfl (by decide) (by decide))) (by decide) ?_
  rintro _ _ ⟨rfl, rfl⟩
  show aWP _ _ (11, [some (.ref 84), some (.int one), some (.int w)], [.int (if inR 10 17 w then (1 : Int32) else 0)], (HD, mi, ml, mr)) _
  refine wp_bI rfl (fun c_2 => ?_) (fun c_2 => ?_)
  · have c_2 : ¬ (if inR 10 17 w then (1 : Int32) else 0) = 0 := of_decide_eq_true c_2
    exact absurd (i0_t c_2) hx.2.1
  have c_2 : (if inR 10 17 w then (1 : Int32) else 0) = 0 := Decidable.not_not.mp (of_decide_eq_false c_2)
  refine wp_steps 4 (t' := (16, [some (.ref 84), some (.int one), some (.int w)], [.long 27, .long 20, .long w.toInt64], (HD, mi, ml, mr))) rfl ?_
  refine wp_cal (as := [.long w.toInt64, .long 20, .long 27]) rfl rfl rfl (Nat.le_of_ble_eq_true rfl) ((c_in (x := w) (lo := 20) (hi := 27) rfl (by decide) (by decide))) (by decide) ?_
  rintro _ _ ⟨rfl, rfl⟩
  show aWP _ _ (17, [some (.ref 84), some (.int one), some (.int w)], [.int (if inR 20 27 w then (1 : Int32) else 0)], (HD, mi, ml, mr)) _
  refine wp_bI rfl (fun c_3 => ?_) (fun c_3 => ?_)
  rotate_left
  · have c_3 : ¬ ((if inR 20 27 w then (1 : Int32) else 0) = 0) := of_decide_eq_false c_3
    exact absurd (i0_t c_3) hx.2.2
  have c_3 : (if inR 20 27 w then (1 : Int32) else 0) = 0 := of_decide_eq_true c_3
  refine wp_steps 1 (t' := (24, [some (.ref 84), some (.int one), some (.int w)], [.int (-2)], (HD, mi, ml, mr))) rfl ?_
  refine wp_ret rfl rfl ⟨⟨Nat.le_refl _, Nat.le_refl _⟩, ?_⟩
  exact ⟨rfl, mi, ml, rfl, frQ.rf mi⟩
theorem toG_x {t : tW} {u : pU} {w : Int32} (hx : ¬ inR 0 7 w ∧ ¬ inR 10 17 w ∧ ¬ inR 20 27 w) : toG t u w = -2 := by
  obtain ⟨x1, x2, x3⟩ := hx
  rw [rI] at x1 x2 x3
  simp only [show (0 : Int32).toInt = 0 from rfl, show (7 : Int32).toInt = 7 from rfl, show (10 : Int32).toInt = 10 from rfl, show (17 : Int32).toInt = 17 from rfl, show (20 : Int32).toInt = 20 from rfl, show (27 : Int32).toInt = 27 from rfl] at x1 x2 x3
  have ne : ∀ k : Int32, 0 ≤ k.toInt → k.toInt ≤ 7 → ¬ w = k := fun k a b z => x1 (by rw [z]; exact ⟨a, b⟩)
  unfold toG vG
  rw [if_neg (ne 6 (by decide) (by decide)), if_neg (ne 7 (by decide) (by decide))]
  have n20 : ¬ (20 ≤ w ∧ aixn (w - 20) 8 = true) := fun z => x3 (by
    have z1 := z.1
    rw [Int32.le_iff_toInt_le, show (20 : Int32).toInt = 20 from rfl] at z1
    obtain ⟨e, e2⟩ := aix_eq z.2
    have e3 := congrArg Int32.toInt e
    rw [nI_toInt (by omega)] at e3
    have e4 : w = (w - 20) + 20 := (Int32.sub_add_cancel w 20).symm
    have e5 := congrArg Int32.toInt e4
    rw [add_t (by omega) (by decide), show (20 : Int32).toInt = 20 from rfl] at e5
    omega)
  rw [if_neg n20, if_neg (ne 2 (by decide) (by decide)), if_neg (ne 3 (by decide) (by decide)), if_neg (ne 4 (by decide) (by decide)), if_neg (ne 5 (by decide) (by decide))]
  by_cases c : w < 10
  · rw [if_pos c]
  · rw [if_neg c, if_neg]
    intro z
    apply x2
    obtain ⟨e, e2⟩ := aix_eq z
    have e3 := congrArg Int32.toInt e
    rw [nI_toInt (by omega)] at e3
    have e4 : w = (w - 10) + 10 := (Int32.sub_add_cancel w 10).symm
    have e5 := congrArg Int32.toInt e4
    rw [add_t (by omega) (by decide), show (10 : Int32).toInt = 10 from rfl] at e5
    omega
theorem q_told_ok {X : aXt × Value} {mi : Nat → Nat → Int32} {ml : Nat → Nat → Int64} {mr : Nat → Nat → Option Nat} (hM : MRok mr) {N : Nat} (hN : mi 84 12 = nI N) (hN5 : N ≤ 5) {c0 c1 c2 : List Int32} (hR : RUX mi c0 c1 c2) {p : Nat} (hpN : p < N) (hok : okU (puR mi p)) {w : Int32} (hw : ¬ w = 0 ∧ ¬ w = 1) : aCW X 48 123 [.ref 84, .int (nI p), .int w] (HD, mi, ml, mr) (qR mi mr (.int (toG (twR mi c0 c1 c2) (puR mi p) w))) := by
  by_cases h : inR 0 7 w
  · skip
    have h0 := rI.mp h
    rw [show (0 : Int32).toInt = 0 from rfl, show (7 : Int32).toInt = 7 from rfl] at h0
    rcases (by omega : w.toInt = 0 ∨ w.toInt = 1 ∨ w.toInt = 2 ∨ w.toInt = 3 ∨ w.toInt = 4 ∨ w.toInt = 5 ∨ w.toInt = 6 ∨ w.toInt = 7) with h | h | h | h | h | h | h | h
    · have e : w = 0 := Int32.toInt_inj.mp h
      subst e; exact absurd rfl hw.1
    · have e : w = 1 := Int32.toInt_inj.mp h
      subst e; exact absurd rfl hw.2
    · have e : w = 2 := Int32.toInt_inj.mp h
      subst e; exact q_told_2p hM hN hN5 hR hpN hok
    · have e : w = 3 := Int32.toInt_inj.mp h
      subst e; exact q_told_3p hM hN hN5 hR hpN hok
    · have e : w = 4 := Int32.toInt_inj.mp h
      subst e; exact q_told_4p hM hN hN5 hR hpN hok
    · have e : w = 5 := Int32.toInt_inj.mp h
      subst e; exact q_told_5p hM hN hN5 hR hpN hok
    · have e : w = 6 := Int32.toInt_inj.mp h
      subst e; exact q_told_6p hM hN hN5 hR hpN hok
    · have e : w = 7 := Int32.toInt_inj.mp h
      subst e; exact q_told_7p hM hN hN5 hR hpN hok
  by_cases h : inR 10 17 w
  · skip
    have h0 := rI.mp h
    rw [show (10 : Int32).toInt = 10 from rfl, show (17 : Int32).toInt = 17 from rfl] at h0
    rcases (by omega : w.toInt = 10 ∨ w.toInt = 11 ∨ w.toInt = 12 ∨ w.toInt = 13 ∨ w.toInt = 14 ∨ w.toInt = 15 ∨ w.toInt = 16 ∨ w.toInt = 17) with h | h | h | h | h | h | h | h
    · have e : w = 10 := Int32.toInt_inj.mp h
      subst e; exact q_told_10p hM hN hN5 hR hpN hok
    · have e : w = 11 := Int32.toInt_inj.mp h
      subst e; exact q_told_11p hM hN hN5 hR hpN hok
    · have e : w = 12 := Int32.toInt_inj.mp h
      subst e; exact q_told_12p hM hN hN5 hR hpN hok
    · have e : w = 13 := Int32.toInt_inj.mp h
      subst e; exact q_told_13p hM hN hN5 hR hpN hok
    · have e : w = 14 := Int32.toInt_inj.mp h
      subst e; exact q_told_14p hM hN hN5 hR hpN hok
    · have e : w = 15 := Int32.toInt_inj.mp h
      subst e; exact q_told_15p hM hN hN5 hR hpN hok
    · have e : w = 16 := Int32.toInt_inj.mp h
      subst e; exact q_told_16p hM hN hN5 hR hpN hok
    · have e : w = 17 := Int32.toInt_inj.mp h
      subst e; exact q_told_17p hM hN hN5 hR hpN hok
  by_cases h : inR 20 27 w
  · skip
    have h0 := rI.mp h
    rw [show (20 : Int32).toInt = 20 from rfl, show (27 : Int32).toInt = 27 from rfl] at h0
    rcases (by omega : w.toInt = 20 ∨ w.toInt = 21 ∨ w.toInt = 22 ∨ w.toInt = 23 ∨ w.toInt = 24 ∨ w.toInt = 25 ∨ w.toInt = 26 ∨ w.toInt = 27) with h | h | h | h | h | h | h | h
    · have e : w = 20 := Int32.toInt_inj.mp h
      subst e; exact q_told_20p hM hN hN5 hR hpN hok
    · have e : w = 21 := Int32.toInt_inj.mp h
      subst e; exact q_told_21p hM hN hN5 hR hpN hok
    · have e : w = 22 := Int32.toInt_inj.mp h
      subst e; exact q_told_22p hM hN hN5 hR hpN hok
    · have e : w = 23 := Int32.toInt_inj.mp h
      subst e; exact q_told_23p hM hN hN5 hR hpN hok
    · have e : w = 24 := Int32.toInt_inj.mp h
      subst e; exact q_told_24p hM hN hN5 hR hpN hok
    · have e : w = 25 := Int32.toInt_inj.mp h
      subst e; exact q_told_25p hM hN hN5 hR hpN hok
    · have e : w = 26 := Int32.toInt_inj.mp h
      subst e; exact q_told_26p hM hN hN5 hR hpN hok
    · have e : w = 27 := Int32.toInt_inj.mp h
      subst e; exact q_told_27p hM hN hN5 hR hpN hok
  rename_i a b
  rw [toG_x ⟨a, b, h⟩]
  exact q_told_x hM ⟨a, b, h⟩
