/-! the reference: hours, what is not asked (written by wip/whole/mkrefU.py) -/
set_option maxRecDepth 20000 in
set_option maxHeartbeats 1000000 in
theorem r_hours_no {X : aXt × Value} {mi : Nat → Nat → Int32} {ml : Nat → Nat → Int64} {mr : Nat → Nat → Option Nat} (hM : MRok mr) {N : Nat} (hN : mi 84 12 = nI N) (hN5 : N ≤ 5) {one n hp w : Int32} (hg : ¬ aixn one N = true) : aCW X 3 190 [.ref 84, .int one, .int n, .int hp, .int w] (HD, mi, ml, mr) (fun r h' => r = some (.int (-2)) ∧ h' = (HD, mi, ml, mr)) := by
  refine cw_of (cd := cd_X7_hours) (nL := 13) rfl rfl ?_
  show aWP _ _ (0, [some (.ref 84), some (.int one), some (.int n), some (.int hp), some (.int w), none, none, none, none, none, none, none, none], [], (HD, mi, ml, mr)) _
  refine wp_steps 2 (t' := (2, [some (.ref 84), some (.int one), some (.int n), some (.int hp), some (.int w), none, none, none, none, none, none, none, none], [.int one, .ref 84], (HD, mi, ml, mr))) rfl ?_
  refine wp_calv (as := [.int one]) rfl rfl rfl (Nat.le_of_ble_eq_true rfl) ⟨by decide, rfl⟩ ((c_isOne_no (ml := ml) hM hN hN5 hg)) (by decide) ?_
  rintro _ _ ⟨rfl, rfl⟩
  show aWP _ _ (3, [some (.ref 84), some (.int one), some (.int n), some (.int hp), some (.int w), none, none, none, none, none, none, none, none], [.int 0], (HD, mi, ml, mr)) _
  refine wp_bI rfl (fun c_1 => ?_) (fun c_1 => ?_)
  rotate_left
  · have c_1 : ¬ ((0 : Int32) = 0) := of_decide_eq_false c_1
    exact absurd c_1 (by decide)
  have c_1 : (0 : Int32) = 0 := of_decide_eq_true c_1
  refine wp_steps 1 (t' := (23, [some (.ref 84), some (.int one), some (.int n), some (.int hp), some (.int w), none, none, none, none, none, none, none, none], [.int (-2)], (HD, mi, ml, mr))) rfl ?_
  refine wp_ret rfl rfl ⟨⟨Nat.le_refl _, Nat.le_refl _⟩, ?_⟩
  exact ⟨rfl, rfl⟩
set_option maxRecDepth 20000 in
set_option maxHeartbeats 1000000 in
theorem r_hours_x {X : aXt × Value} {mi : Nat → Nat → Int32} {ml : Nat → Nat → Int64} {mr : Nat → Nat → Option Nat} (hM : MRok mr) {N : Nat} (hN : mi 84 12 = nI N) (hN5 : N ≤ 5) {p : Nat} (hpN : p < N) {n hp w : Int32} (hb : ¬ (inR 0 3 n ∧ aixn hp 3 = true ∧ inR 0 2 w)) : aCW X 3 190 [.ref 84, .int (nI p), .int n, .int hp, .int w] (HD, mi, ml, mr) (fun r h' => r = some (.int (-2)) ∧ h' = (HD, mi, ml, mr)) := by
  refine cw_of (cd := cd_X7_hours) (nL := 13) rfl rfl ?_
  show aWP _ _ (0, [some (.ref 84), some (.int (nI p)), some (.int n), some (.int hp), some (.int w), none, none, none, none, none, none, none, none], [], (HD, mi, ml, mr)) _
  refine wp_steps 2 (t' := (2, [some (.ref 84), some (.int (nI p)), some (.int n), some (.int hp), some (.int w), none, none, none, none, none, none, none, none], [.int (nI p), .ref 84], (HD, mi, ml, mr))) rfl ?_
  refine wp_calv (as := [.int (nI p)]) rfl rfl rfl (Nat.le_of_ble_eq_true rfl) ⟨by decide, rfl⟩ ((c_isOne_ok (mi := mi) (ml := ml) hM hN hN5 hpN)) (by decide) ?_
  rintro _ _ ⟨rfl, rfl⟩
  show aWP _ _ (3, [some (.ref 84), some (.int (nI p)), some (.int n), some (.int hp), some (.int w), none, none, none, none, none, none, none, none], [.int 1], (HD, mi, ml, mr)) _
  refine wp_bI rfl (fun c_1 => ?_) (fun c_1 => ?_)
  · have c_1 : (1 : Int32) = 0 := of_decide_eq_true c_1
    exact absurd c_1 (by decide)
  have c_1 : ¬ ((1 : Int32) = 0) := of_decide_eq_false c_1
  refine wp_steps 4 (t' := (8, [some (.ref 84), some (.int (nI p)), some (.int n), some (.int hp), some (.int w), none, none, none, none, none, none, none, none], [.long 3, .long 0, .long n.toInt64], (HD, mi, ml, mr))) rfl ?_
  refine wp_cal (as := [.long n.toInt64, .long 0, .long 3]) rfl rfl rfl (Nat.le_of_ble_eq_true rfl) ((c_in (x := n) (lo := 0) (hi := 3) rfl (by decide) (by decide))) (by decide) ?_
  rintro _ _ ⟨rfl, rfl⟩
  show aWP _ _ (9, [some (.ref 84), some (.int (nI p)), some (.int n), some (.int hp), some (.int w), none, none, none, none, none, none, none, none], [.int (if inR 0 3 n then (1 : Int32) else 0)], (HD, mi, ml, mr)) _
  refine wp_bI rfl (fun c_2 => ?_) (fun c_2 => ?_)
  · have c_2 : (if inR 0 3 n then (1 : Int32) else 0) = 0 := of_decide_eq_true c_2
    refine wp_steps 1 (t' := (23, [some (.ref 84), some (.int (nI p)), some (.int n), some (.int hp), some (.int w), none, none, none, none, none, none, none, none], [.int (-2)], (HD, mi, ml, mr))) rfl ?_
    refine wp_ret rfl rfl ⟨⟨Nat.le_refl _, Nat.le_refl _⟩, ?_⟩
    exact ⟨rfl, rfl⟩
  · have c_2 : ¬ ((if inR 0 3 n then (1 : Int32) else 0) = 0) := of_decide_eq_false c_2
    refine wp_steps 4 (t' := (14, [some (.ref 84), some (.int (nI p)), some (.int n), some (.int hp), some (.int w), none, none, none, none, none, none, none, none], [.long 2, .long 0, .long hp.toInt64], (HD, mi, ml, mr))) rfl ?_
    refine wp_cal (as := [.long hp.toInt64, .long 0, .long 2]) rfl rfl rfl (Nat.le_of_ble_eq_true rfl) ((c_in_ax (x := hp) (hi := 2) (n := 3) (by decide) (by decide) (by decide))) (by decide) ?_
    rintro _ _ ⟨rfl, rfl⟩
    show aWP _ _ (15, [some (.ref 84), some (.int (nI p)), some (.int n), some (.int hp), some (.int w), none, none, none, none, none, none, none, none], [.int (if aixn hp 3 = true then (1 : Int32) else 0)], (HD, mi, ml, mr)) _
    refine wp_bI rfl (fun c_3 => ?_) (fun c_3 => ?_)
    · have c_3 : (if aixn hp 3 = true then (1 : Int32) else 0) = 0 := of_decide_eq_true c_3
      refine wp_steps 1 (t' := (23, [some (.ref 84), some (.int (nI p)), some (.int n), some (.int hp), some (.int w), none, none, none, none, none, none, none, none], [.int (-2)], (HD, mi, ml, mr))) rfl ?_
      refine wp_ret rfl rfl ⟨⟨Nat.le_refl _, Nat.le_refl _⟩, ?_⟩
      exact ⟨rfl, rfl⟩
    · have c_3 : ¬ ((if aixn hp 3 = true then (1 : Int32) else 0) = 0) := of_decide_eq_false c_3
      refine wp_steps 4 (t' := (20, [some (.ref 84), some (.int (nI p)), some (.int n), some (.int hp), some (.int w), none, none, none, none, none, none, none, none], [.long 2, .long 0, .long w.toInt64], (HD, mi, ml, mr))) rfl ?_
      refine wp_cal (as := [.long w.toInt64, .long 0, .long 2]) rfl rfl rfl (Nat.le_of_ble_eq_true rfl) ((c_in (x := w) (lo := 0) (hi := 2) rfl (by decide) (by decide))) (by decide) ?_
      rintro _ _ ⟨rfl, rfl⟩
      show aWP _ _ (21, [some (.ref 84), some (.int (nI p)), some (.int n), some (.int hp), some (.int w), none, none, none, none, none, none, none, none], [.int (if inR 0 2 w then (1 : Int32) else 0)], (HD, mi, ml, mr)) _
      refine wp_bI rfl (fun c_4 => ?_) (fun c_4 => ?_)
      · have c_4 : ¬ (if inR 0 2 w then (1 : Int32) else 0) = 0 := of_decide_eq_true c_4
        exact absurd (show inR 0 3 n ∧ aixn hp 3 = true ∧ inR 0 2 w from ⟨(i0_t c_2), (ite_aix c_3), (i0_t c_4)⟩) hb
      · have c_4 : (if inR 0 2 w then (1 : Int32) else 0) = 0 := Decidable.not_not.mp (of_decide_eq_false c_4)
        refine wp_steps 1 (t' := (23, [some (.ref 84), some (.int (nI p)), some (.int n), some (.int hp), some (.int w), none, none, none, none, none, none, none, none], [.int (-2)], (HD, mi, ml, mr))) rfl ?_
        refine wp_ret rfl rfl ⟨⟨Nat.le_refl _, Nat.le_refl _⟩, ?_⟩
        exact ⟨rfl, rfl⟩
