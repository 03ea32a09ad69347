/-! the reference: set, the rest (written by wip/whole/mkrefR.py) -/
set_option maxRecDepth 20000 in
set_option maxHeartbeats 1000000 in
theorem r_set_1s {X : aXt × Value} {mi : Nat → Nat → Int32} {ml : Nat → Nat → Int64} {mr : Nat → Nat → Option Nat} (hM : MRok mr) {s : Nat} (hs8 : s < 8) {v : Int32} : aCW X 49 120 [.ref 84, .int 1, .int (nI s), .int v] (HD, mi, ml, mr) (fun r h' => r = some (.int (if inR 0 99 v then mi 88 s else -2)) ∧ ∃ m' w', h' = (HD, if inR 0 99 v then aup m' 88 s v else m', w', mr) ∧ frQ mi m') := by
  refine cw_of (cd := cd_X7_set) (nL := 5) rfl rfl ?_
  show aWP _ _ (0, [some (.ref 84), some (.int 1), some (.int (nI s)), some (.int v), none], [], (HD, mi, ml, mr)) _
  refine wp_steps 4 (t' := (4, [some (.ref 84), some (.int 1), some (.int (nI s)), some (.int v), none], [.long 4, .long 0, .long ((1 : Int32).toInt64)], (HD, mi, ml, mr))) rfl ?_
  refine wp_cal (as := [.long ((1 : Int32).toInt64), .long 0, .long 4]) rfl rfl rfl (Nat.le_of_ble_eq_true rfl) ((c_in (x := 1) (lo := 0) (hi := 4) (by decide) (by decide) (by decide))) (by decide) ?_
  rintro _ _ ⟨rfl, rfl⟩
  rw [if_pos (by decide)]
  show aWP _ _ (5, [some (.ref 84), some (.int 1), some (.int (nI s)), some (.int v), none], [.int 1], (HD, mi, ml, mr)) _
  refine wp_bI rfl (fun c_1 => ?_) (fun c_1 => ?_)
  rotate_left
  · have c_1 : (1 : Int32) = 0 := Decidable.not_not.mp (of_decide_eq_false c_1)
    exact absurd c_1 (by decide)
  have c_1 : ¬ (1 : Int32) = 0 := of_decide_eq_true c_1
  refine wp_steps 3 (t' := (15, [some (.ref 84), some (.int 1), some (.int (nI s)), some (.int v), none], [.int (nI s), .int 1, .ref 84], (HD, mi, ml, mr))) rfl ?_
  refine wp_calv (as := [.int 1, .int (nI s)]) rfl rfl rfl (Nat.le_of_ble_eq_true rfl) ⟨by decide, rfl⟩ ((c_isOf_1 (ml := ml))) (by decide) ?_
  rintro _ _ ⟨rfl, rfl⟩
  rw [if_pos (aix_nI hs8 (by decide))]
  show aWP _ _ (16, [some (.ref 84), some (.int 1), some (.int (nI s)), some (.int v), none], [.int 1], (HD, mi, ml, mr)) _
  refine wp_bI rfl (fun c_2 => ?_) (fun c_2 => ?_)
  · have c_2 : (1 : Int32) = 0 := of_decide_eq_true c_2
    exact absurd c_2 (by decide)
  have c_2 : ¬ ((1 : Int32) = 0) := of_decide_eq_false c_2
  refine wp_steps 4 (t' := (21, [some (.ref 84), some (.int 1), some (.int (nI s)), some (.int v), none], [.int 1, .long 0, .long v.toInt64], (HD, mi, ml, mr))) rfl ?_
  refine wp_cal (as := [.int 1]) rfl rfl rfl (Nat.le_of_ble_eq_true rfl) ((c_rmost_1 (mi := mi) (ml := ml) (mr := mr))) (by decide) ?_
  rintro _ _ ⟨rfl, rfl⟩
  show aWP _ _ (22, [some (.ref 84), some (.int 1), some (.int (nI s)), some (.int v), none], [.int 99, .long 0, .long v.toInt64], (HD, mi, ml, mr)) _
  refine wp_steps 1 (t' := (23, [some (.ref 84), some (.int 1), some (.int (nI s)), some (.int v), none], [.long ((99 : Int32).toInt64), .long 0, .long v.toInt64], (HD, mi, ml, mr))) rfl ?_
  refine wp_cal (as := [.long v.toInt64, .long 0, .long ((99 : Int32).toInt64)]) rfl rfl rfl (Nat.le_of_ble_eq_true rfl) ((c_in (x := v) (lo := 0) (hi := 99) rfl (by decide) rfl)) (by decide) ?_
  rintro _ _ ⟨rfl, rfl⟩
  show aWP _ _ (24, [some (.ref 84), some (.int 1), some (.int (nI s)), some (.int v), none], [.int (if inR 0 99 v then (1 : Int32) else 0)], (HD, mi, ml, mr)) _
  refine wp_bI rfl (fun c_3 => ?_) (fun c_3 => ?_)
  · have c_3 : ¬ (if inR 0 99 v then (1 : Int32) else 0) = 0 := of_decide_eq_true c_3
    refine wp_steps 3 (t' := (30, [some (.ref 84), some (.int 1), some (.int (nI s)), some (.int v), none], [.int 1, .int (nI s), .ref 84], (HD, mi, ml, mr))) rfl ?_
    refine wp_calv (as := [.int (nI s), .int 1]) rfl rfl rfl (Nat.le_of_ble_eq_true rfl) ⟨by decide, rfl⟩ ((q_told_1 (ml := ml) (one := nI s) hM)) (by decide) ?_
    rintro _ _ ⟨rfl, m_1, w_1, rfl, f1⟩
    rw [if_pos (aix_nI hs8 (by decide)), nI_clamp (n := s) (by omega)]
    show aWP _ _ (31, [some (.ref 84), some (.int 1), some (.int (nI s)), some (.int v), none], [.int (mi 88 s)], (HD, m_1, w_1, mr)) _
    refine wp_steps 5 (t' := (36, [some (.ref 84), some (.int 1), some (.int (nI s)), some (.int v), some (.int (mi 88 s))], [.int v, .int (nI s), .int 1, .ref 84], (HD, m_1, w_1, mr))) rfl ?_
    refine wp_calv (as := [.int 1, .int (nI s), .int v]) rfl rfl rfl (Nat.le_of_ble_eq_true rfl) ⟨by decide, rfl⟩ ((r_lays_1 (mi := m_1) (ml := w_1) hM hs8)) (by decide) ?_
    rintro _ _ ⟨rfl, rfl⟩
    show aWP _ _ (37, [some (.ref 84), some (.int 1), some (.int (nI s)), some (.int v), some (.int (mi 88 s))], [], (HD, (aup m_1 88 s v), w_1, mr)) _
    refine wp_steps 1 (t' := (38, [some (.ref 84), some (.int 1), some (.int (nI s)), some (.int v), some (.int (mi 88 s))], [.int (mi 88 s)], (HD, (aup m_1 88 s v), w_1, mr))) rfl ?_
    refine wp_ret rfl rfl ⟨⟨Nat.le_refl _, Nat.le_refl _⟩, ?_⟩
    exact ⟨by rw [if_pos (show inR 0 99 v from (i0_t c_3))], m_1, w_1, by rw [if_pos (show inR 0 99 v from (i0_t c_3))], f1⟩
  · have c_3 : (if inR 0 99 v then (1 : Int32) else 0) = 0 := Decidable.not_not.mp (of_decide_eq_false c_3)
    refine wp_steps 1 (t' := (26, [some (.ref 84), some (.int 1), some (.int (nI s)), some (.int v), none], [.int (-2)], (HD, mi, ml, mr))) rfl ?_
    refine wp_ret rfl rfl ⟨⟨Nat.le_refl _, Nat.le_refl _⟩, ?_⟩
    exact ⟨by rw [if_neg (show ¬ (inR 0 99 v) from fun z => (i0_f c_3) z)], mi, ml, by rw [if_neg (show ¬ (inR 0 99 v) from fun z => (i0_f c_3) z)], frQ.rf mi⟩
set_option maxRecDepth 20000 in
set_option maxHeartbeats 1000000 in
theorem r_set_1x {X : aXt × Value} {mi : Nat → Nat → Int32} {ml : Nat → Nat → Int64} {mr : Nat → Nat → Option Nat} (hM : MRok mr) {of v : Int32} (hg : ¬ aixn of 8 = true) : aCW X 4 120 [.ref 84, .int 1, .int of, .int v] (HD, mi, ml, mr) (fun r h' => r = some (.int (-2)) ∧ h' = (HD, mi, ml, mr)) := by
  refine cw_of (cd := cd_X7_set) (nL := 5) rfl rfl ?_
  show aWP _ _ (0, [some (.ref 84), some (.int 1), some (.int of), some (.int v), none], [], (HD, mi, ml, mr)) _
  refine wp_steps 4 (t' := (4, [some (.ref 84), some (.int 1), some (.int of), some (.int v), none], [.long 4, .long 0, .long ((1 : Int32).toInt64)], (HD, mi, ml, mr))) rfl ?_
  refine wp_cal (as := [.long ((1 : Int32).toInt64), .long 0, .long 4]) rfl rfl rfl (Nat.le_of_ble_eq_true rfl) ((c_in (x := 1) (lo := 0) (hi := 4) (by decide) (by decide) (by decide))) (by decide) ?_
  rintro _ _ ⟨rfl, rfl⟩
  rw [if_pos (by decide)]
  show aWP _ _ (5, [some (.ref 84), some (.int 1), some (.int of), some (.int v), none], [.int 1], (HD, mi, ml, mr)) _
  refine wp_bI rfl (fun c_1 => ?_) (fun c_1 => ?_)
  rotate_left
  · have c_1 : (1 : Int32) = 0 := Decidable.not_not.mp (of_decide_eq_false c_1)
    exact absurd c_1 (by decide)
  have c_1 : ¬ (1 : Int32) = 0 := of_decide_eq_true c_1
  refine wp_steps 3 (t' := (15, [some (.ref 84), some (.int 1), some (.int of), some (.int v), none], [.int of, .int 1, .ref 84], (HD, mi, ml, mr))) rfl ?_
  refine wp_calv (as := [.int 1, .int of]) rfl rfl rfl (Nat.le_of_ble_eq_true rfl) ⟨by decide, rfl⟩ ((c_isOf_1 (ml := ml))) (by decide) ?_
  rintro _ _ ⟨rfl, rfl⟩
  rw [if_neg hg]
  show aWP _ _ (16, [some (.ref 84), some (.int 1), some (.int of), some (.int v), none], [.int 0], (HD, mi, ml, mr)) _
  refine wp_bI rfl (fun c_2 => ?_) (fun c_2 => ?_)
  rotate_left
  · have c_2 : ¬ ((0 : Int32) = 0) := of_decide_eq_false c_2
    exact absurd c_2 (by decide)
  have c_2 : (0 : Int32) = 0 := of_decide_eq_true c_2
  refine wp_steps 1 (t' := (26, [some (.ref 84), some (.int 1), some (.int of), some (.int v), none], [.int (-2)], (HD, mi, ml, mr))) rfl ?_
  refine wp_ret rfl rfl ⟨⟨Nat.le_refl _, Nat.le_refl _⟩, ?_⟩
  exact ⟨rfl, rfl⟩
set_option maxRecDepth 20000 in
set_option maxHeartbeats 1000000 in
theorem r_set_no {X : aXt × Value} {mi : Nat → Nat → Int32} {ml : Nat → Nat → Int64} {mr : Nat → Nat → Option Nat} (hM : MRok mr) {N : Nat} (hN : mi 84 12 = nI N) (hN5 : N ≤ 5) {w of v : Int32} (hg : ¬ aixn of N = true) (hw : ¬ w = 0 ∧ ¬ w = 1) : aCW X 4 120 [.ref 84, .int w, .int of, .int v] (HD, mi, ml, mr) (fun r h' => r = some (.int (-2)) ∧ h' = (HD, mi, ml, mr)) := by
  refine cw_of (cd := cd_X7_set) (nL := 5) rfl rfl ?_
  show aWP _ _ (0, [some (.ref 84), some (.int w), some (.int of), some (.int v), none], [], (HD, mi, ml, mr)) _
  refine wp_steps 4 (t' := (4, [some (.ref 84), some (.int w), some (.int of), some (.int v), none], [.long 4, .long 0, .long w.toInt64], (HD, mi, ml, mr))) rfl ?_
  refine wp_cal (as := [.long w.toInt64, .long 0, .long 4]) rfl rfl rfl (Nat.le_of_ble_eq_true rfl) ((c_in (x := w) (lo := 0) (hi := 4) rfl (by decide) (by decide))) (by decide) ?_
  rintro _ _ ⟨rfl, rfl⟩
  show aWP _ _ (5, [some (.ref 84), some (.int w), some (.int of), some (.int v), none], [.int (if inR 0 4 w then (1 : Int32) else 0)], (HD, mi, ml, mr)) _
  refine wp_bI rfl (fun c_1 => ?_) (fun c_1 => ?_)
  · have c_1 : ¬ (if inR 0 4 w then (1 : Int32) else 0) = 0 := of_decide_eq_true c_1
    refine wp_steps 3 (t' := (15, [some (.ref 84), some (.int w), some (.int of), some (.int v), none], [.int of, .int w, .ref 84], (HD, mi, ml, mr))) rfl ?_
    refine wp_calv (as := [.int w, .int of]) rfl rfl rfl (Nat.le_of_ble_eq_true rfl) ⟨by decide, rfl⟩ ((c_isOf_n (ml := ml) hM hN hN5 hg hw)) (by decide) ?_
    rintro _ _ ⟨rfl, rfl⟩
    show aWP _ _ (16, [some (.ref 84), some (.int w), some (.int of), some (.int v), none], [.int 0], (HD, mi, ml, mr)) _
    refine wp_bI rfl (fun c_2 => ?_) (fun c_2 => ?_)
    rotate_left
    · have c_2 : ¬ ((0 : Int32) = 0) := of_decide_eq_false c_2
      exact absurd c_2 (by decide)
    have c_2 : (0 : Int32) = 0 := of_decide_eq_true c_2
    refine wp_steps 1 (t' := (26, [some (.ref 84), some (.int w), some (.int of), some (.int v), none], [.int (-2)], (HD, mi, ml, mr))) rfl ?_
    refine wp_ret rfl rfl ⟨⟨Nat.le_refl _, Nat.le_refl _⟩, ?_⟩
    exact ⟨rfl, rfl⟩
  · have c_1 : (if inR 0 4 w then (1 : Int32) else 0) = 0 := Decidable.not_not.mp (of_decide_eq_false c_1)
    refine wp_steps 4 (t' := (10, [some (.ref 84), some (.int w), some (.int of), some (.int v), none], [.long 17, .long 10, .long w.toInt64], (HD, mi, ml, mr))) rfl ?_
    refine wp_cal (as := [.long w.toInt64, .long 10, .long 17]) rfl rfl rfl (Nat.le_of_ble_eq_true rfl) ((c_in (x := w) (lo := 10) (hi := 17) rfl (by decide) (by decide))) (by decide) ?_
    rintro _ _ ⟨rfl, rfl⟩
    show aWP _ _ (11, [some (.ref 84), some (.int w), some (.int of), some (.int v), none], [.int (if inR 10 17 w then (1 : Int32) else 0)], (HD, mi, ml, mr)) _
    refine wp_bI rfl (fun c_3 => ?_) (fun c_3 => ?_)
    · have c_3 : (if inR 10 17 w then (1 : Int32) else 0) = 0 := of_decide_eq_true c_3
      refine wp_steps 1 (t' := (26, [some (.ref 84), some (.int w), some (.int of), some (.int v), none], [.int (-2)], (HD, mi, ml, mr))) rfl ?_
      refine wp_ret rfl rfl ⟨⟨Nat.le_refl _, Nat.le_refl _⟩, ?_⟩
      exact ⟨rfl, rfl⟩
    · have c_3 : ¬ ((if inR 10 17 w then (1 : Int32) else 0) = 0) := of_decide_eq_false c_3
      refine wp_steps 3 (t' := (15, [some (.ref 84), some (.int w), some (.int of), some (.int v), none], [.int of, .int w, .ref 84], (HD, mi, ml, mr))) rfl ?_
      refine wp_calv (as := [.int w, .int of]) rfl rfl rfl (Nat.le_of_ble_eq_true rfl) ⟨by decide, rfl⟩ ((c_isOf_n (ml := ml) hM hN hN5 hg hw)) (by decide) ?_
      rintro _ _ ⟨rfl, rfl⟩
      show aWP _ _ (16, [some (.ref 84), some (.int w), some (.int of), some (.int v), none], [.int 0], (HD, mi, ml, mr)) _
      refine wp_bI rfl (fun c_4 => ?_) (fun c_4 => ?_)
      rotate_left
      · have c_4 : ¬ ((0 : Int32) = 0) := of_decide_eq_false c_4
        exact absurd c_4 (by decide)
      have c_4 : (0 : Int32) = 0 := of_decide_eq_true c_4
      refine wp_steps 1 (t' := (26, [some (.ref 84), some (.int w), some (.int of), some (.int v), none], [.int (-2)], (HD, mi, ml, mr))) rfl ?_
      refine wp_ret rfl rfl ⟨⟨Nat.le_refl _, Nat.le_refl _⟩, ?_⟩
      exact ⟨rfl, rfl⟩
set_option maxRecDepth 20000 in
set_option maxHeartbeats 1000000 in
theorem r_set_x {X : aXt × Value} {mi : Nat → Nat → Int32} {ml : Nat → Nat → Int64} {mr : Nat → Nat → Option Nat} (hM : MRok mr) {w of v : Int32} (hx : ¬ inR 0 4 w ∧ ¬ inR 10 17 w) : aCW X 4 120 [.ref 84, .int w, .int of, .int v] (HD, mi, ml, mr) (fun r h' => r = some (.int (-2)) ∧ h' = (HD, mi, ml, mr)) := by
  refine cw_of (cd := cd_X7_set) (nL := 5) rfl rfl ?_
  show aWP _ _ (0, [some (.ref 84), some (.int w), some (.int of), some (.int v), none], [], (HD, mi, ml, mr)) _
  refine wp_steps 4 (t' := (4, [some (.ref 84), some (.int w), some (.int of), some (.int v), none], [.long 4, .long 0, .long w.toInt64], (HD, mi, ml, mr))) rfl ?_
  refine wp_cal (as := [.long w.toInt64, .long 0, .long 4]) rfl rfl rfl (Nat.le_of_ble_eq_true rfl) ((c_in (x := w) (lo := 0) (hi := 4) rfl (by decide) (by decide))) (by decide) ?_
  rintro _ _ ⟨rfl, rfl⟩
  show aWP _ _ (5, [some (.ref 84), some (.int w), some (.int of), some (.int v), none], [.int (if inR 0 4 w then (1 : Int32) else 0)], (HD, mi, ml, mr)) _
  refine wp_bI rfl (fun c_1 => ?_) (fun c_1 => ?_)
  · have c_1 : ¬ (if inR 0 4 w then (1 : Int32) else 0) = 0 := of_decide_eq_true c_1
    exact absurd (i0_t c_1) hx.1
  have c_1 : (if inR 0 4 w then (1 : Int32) else 0) = 0 := Decidable.not_not.mp (of_decide_eq_false c_1)
  refine wp_steps 4 (t' := (10, [some (.ref 84), some (.int w), some (.int of), some (.int v), none], [.long 17, .long 10, .long w.toInt64], (HD, mi, ml, mr))) rfl ?_
  refine wp_cal (as := [.long w.toInt64, .long 10, .long 17]) rfl rfl rfl (Nat.le_of_ble_eq_true rfl) ((c_in (x := w) (lo := 10) (hi := 17) rfl (by decide) (by decide))) (by decide) ?_
  rintro _ _ ⟨rfl, rfl⟩
  show aWP _ _ (11, [some (.ref 84), some (.int w), some (.int of), some (.int v), none], [.int (if inR 10 17 w then (1 : Int32) else 0)], (HD, mi, ml, mr)) _
  refine wp_bI rfl (fun c_2 => ?_) (fun c_2 => ?_)
  rotate_left
  · have c_2 : ¬ ((if inR 10 17 w then (1 : Int32) else 0) = 0) := of_decide_eq_false c_2
    exact absurd (i0_t c_2) hx.2
  have c_2 : (if inR 10 17 w then (1 : Int32) else 0) = 0 := of_decide_eq_true c_2
  refine wp_steps 1 (t' := (26, [some (.ref 84), some (.int w), some (.int of), some (.int v), none], [.int (-2)], (HD, mi, ml, mr))) rfl ?_
  refine wp_ret rfl rfl ⟨⟨Nat.le_refl _, Nat.le_refl _⟩, ?_⟩
  exact ⟨rfl, rfl⟩
