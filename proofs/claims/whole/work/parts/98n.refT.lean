/-! the reference: tells, but for the guesses (written by wip/whole/mkrefT.py) -/
set_option maxRecDepth 20000 in
set_option maxHeartbeats 1000000 in
theorem r_tells_no1 {X : aXt × Value} {mi : Nat → Nat → Int32} {ml : Nat → Nat → Int64} {mr : Nat → Nat → Option Nat} (hM : MRok mr) {sh one sH w : Int32} (hg2 : ¬ aixn sh 4 = true) : aCW X 50 201 [.ref 84, .int sh, .int one, .int sH, .int w] (HD, mi, ml, mr) (fun r h' => r = some (.int (-2)) ∧ h' = (HD, mi, ml, mr)) := by
  refine cw_of (cd := cd_X7_tells) (nL := 15) rfl rfl ?_
  show aWP _ _ (0, [some (.ref 84), some (.int sh), some (.int one), some (.int sH), some (.int w), none, none, none, none, none, none, none, none, none, none], [], (HD, mi, ml, mr)) _
  refine wp_steps 1 (t' := (1, [some (.ref 84), some (.int sh), some (.int one), some (.int sH), some (.int w), none, none, none, none, none, none, none, none, none, none], [.int sh], (HD, mi, ml, mr))) rfl ?_
  refine wp_cal (as := [.int sh]) rfl rfl rfl (Nat.le_of_ble_eq_true rfl) ((c_isSheet_x (ml := ml) (mr := mr) hg2)) (by decide) ?_
  rintro _ _ ⟨rfl, rfl⟩
  show aWP _ _ (2, [some (.ref 84), some (.int sh), some (.int one), some (.int sH), some (.int w), none, none, none, none, none, none, none, none, none, none], [.int 0], (HD, mi, ml, mr)) _
  refine wp_bI rfl (fun c_1 => ?_) (fun c_1 => ?_)
  rotate_left
  · have c_1 : ¬ ((0 : Int32) = 0) := of_decide_eq_false c_1
    exact absurd c_1 (by decide)
  have c_1 : (0 : Int32) = 0 := of_decide_eq_true c_1
  refine wp_steps 1 (t' := (17, [some (.ref 84), some (.int sh), some (.int one), some (.int sH), some (.int w), none, none, none, none, none, none, none, none, none, none], [.int (-2)], (HD, mi, ml, mr))) rfl ?_
  refine wp_ret rfl rfl ⟨⟨Nat.le_refl _, Nat.le_refl _⟩, ?_⟩
  exact ⟨rfl, rfl⟩
set_option maxRecDepth 20000 in
set_option maxHeartbeats 1000000 in
theorem r_tells_no2 {X : aXt × Value} {mi : Nat → Nat → Int32} {ml : Nat → Nat → Int64} {mr : Nat → Nat → Option Nat} (hM : MRok mr) {N : Nat} (hN : mi 84 12 = nI N) (hN5 : N ≤ 5) {s : Nat} (hs4 : s < 4) {one sH w : Int32} (hg : ¬ aixn one N = true) : aCW X 50 201 [.ref 84, .int (nI s), .int one, .int sH, .int w] (HD, mi, ml, mr) (fun r h' => r = some (.int (-2)) ∧ h' = (HD, mi, ml, mr)) := by
  refine cw_of (cd := cd_X7_tells) (nL := 15) rfl rfl ?_
  show aWP _ _ (0, [some (.ref 84), some (.int (nI s)), some (.int one), some (.int sH), some (.int w), none, none, none, none, none, none, none, none, none, none], [], (HD, mi, ml, mr)) _
  refine wp_steps 1 (t' := (1, [some (.ref 84), some (.int (nI s)), some (.int one), some (.int sH), some (.int w), none, none, none, none, none, none, none, none, none, none], [.int (nI s)], (HD, mi, ml, mr))) rfl ?_
  refine wp_cal (as := [.int (nI s)]) rfl rfl rfl (Nat.le_of_ble_eq_true rfl) ((c_isSheet_n (ml := ml) (mr := mr) hs4)) (by decide) ?_
  rintro _ _ ⟨rfl, rfl⟩
  show aWP _ _ (2, [some (.ref 84), some (.int (nI s)), some (.int one), some (.int sH), some (.int w), none, none, none, none, none, none, none, none, none, none], [.int 1], (HD, mi, ml, mr)) _
  refine wp_bI rfl (fun c_1 => ?_) (fun c_1 => ?_)
  · have c_1 : (1 : Int32) = 0 := of_decide_eq_true c_1
    exact absurd c_1 (by decide)
  have c_1 : ¬ ((1 : Int32) = 0) := of_decide_eq_false c_1
  refine wp_steps 2 (t' := (5, [some (.ref 84), some (.int (nI s)), some (.int one), some (.int sH), some (.int w), none, none, none, none, none, none, none, none, none, none], [.int one, .ref 84], (HD, mi, ml, mr))) rfl ?_
  refine wp_calv (as := [.int one]) rfl rfl rfl (Nat.le_of_ble_eq_true rfl) ⟨by decide, rfl⟩ ((c_isOne_no (ml := ml) hM hN hN5 hg)) (by decide) ?_
  rintro _ _ ⟨rfl, rfl⟩
  show aWP _ _ (6, [some (.ref 84), some (.int (nI s)), some (.int one), some (.int sH), some (.int w), none, none, none, none, none, none, none, none, none, none], [.int 0], (HD, mi, ml, mr)) _
  refine wp_bI rfl (fun c_2 => ?_) (fun c_2 => ?_)
  rotate_left
  · have c_2 : ¬ ((0 : Int32) = 0) := of_decide_eq_false c_2
    exact absurd c_2 (by decide)
  have c_2 : (0 : Int32) = 0 := of_decide_eq_true c_2
  refine wp_steps 1 (t' := (17, [some (.ref 84), some (.int (nI s)), some (.int one), some (.int sH), some (.int w), none, none, none, none, none, none, none, none, none, none], [.int (-2)], (HD, mi, ml, mr))) rfl ?_
  refine wp_ret rfl rfl ⟨⟨Nat.le_refl _, Nat.le_refl _⟩, ?_⟩
  exact ⟨rfl, rfl⟩
set_option maxRecDepth 20000 in
set_option maxHeartbeats 1000000 in
theorem r_tells_x {X : aXt × Value} {mi : Nat → Nat → Int32} {ml : Nat → Nat → Int64} {mr : Nat → Nat → Option Nat} (hM : MRok mr) {N : Nat} (hN : mi 84 12 = nI N) (hN5 : N ≤ 5) {p : Nat} (hpN : p < N) {s : Nat} (hs4 : s < 4) {sH w : Int32} (hb : ¬ (shG sH = true ∧ inR 0 8 w)) : aCW X 50 201 [.ref 84, .int (nI s), .int (nI p), .int sH, .int w] (HD, mi, ml, mr) (fun r h' => r = some (.int (-2)) ∧ h' = (HD, mi, ml, mr)) := by
  refine cw_of (cd := cd_X7_tells) (nL := 15) rfl rfl ?_
  show aWP _ _ (0, [some (.ref 84), some (.int (nI s)), some (.int (nI p)), some (.int sH), some (.int w), none, none, none, none, none, none, none, none, none, none], [], (HD, mi, ml, mr)) _
  refine wp_steps 1 (t' := (1, [some (.ref 84), some (.int (nI s)), some (.int (nI p)), some (.int sH), some (.int w), none, none, none, none, none, none, none, none, none, none], [.int (nI s)], (HD, mi, ml, mr))) rfl ?_
  refine wp_cal (as := [.int (nI s)]) rfl rfl rfl (Nat.le_of_ble_eq_true rfl) ((c_isSheet_n (ml := ml) (mr := mr) hs4)) (by decide) ?_
  rintro _ _ ⟨rfl, rfl⟩
  show aWP _ _ (2, [some (.ref 84), some (.int (nI s)), some (.int (nI p)), some (.int sH), some (.int w), none, none, none, none, none, none, none, none, none, none], [.int 1], (HD, mi, ml, mr)) _
  refine wp_bI rfl (fun c_1 => ?_) (fun c_1 => ?_)
  · have c_1 : (1 : Int32) = 0 := of_decide_eq_true c_1
    exact absurd c_1 (by decide)
  have c_1 : ¬ ((1 : Int32) = 0) := of_decide_eq_false c_1
  refine wp_steps 2 (t' := (5, [some (.ref 84), some (.int (nI s)), some (.int (nI p)), some (.int sH), some (.int w), none, none, none, none, none, none, none, none, none, none], [.int (nI p), .ref 84], (HD, mi, ml, mr))) rfl ?_
  refine wp_calv (as := [.int (nI p)]) rfl rfl rfl (Nat.le_of_ble_eq_true rfl) ⟨by decide, rfl⟩ ((c_isOne_ok (mi := mi) (ml := ml) hM hN hN5 hpN)) (by decide) ?_
  rintro _ _ ⟨rfl, rfl⟩
  show aWP _ _ (6, [some (.ref 84), some (.int (nI s)), some (.int (nI p)), some (.int sH), some (.int w), none, none, none, none, none, none, none, none, none, none], [.int 1], (HD, mi, ml, mr)) _
  refine wp_bI rfl (fun c_2 => ?_) (fun c_2 => ?_)
  · have c_2 : (1 : Int32) = 0 := of_decide_eq_true c_2
    exact absurd c_2 (by decide)
  have c_2 : ¬ ((1 : Int32) = 0) := of_decide_eq_false c_2
  refine wp_steps 1 (t' := (8, [some (.ref 84), some (.int (nI s)), some (.int (nI p)), some (.int sH), some (.int w), none, none, none, none, none, none, none, none, none, none], [.int sH], (HD, mi, ml, mr))) rfl ?_
  refine wp_cal (as := [.int sH]) rfl rfl rfl (Nat.le_of_ble_eq_true rfl) (c_rSH) (by decide) ?_
  rintro _ _ ⟨rfl, rfl⟩
  show aWP _ _ (9, [some (.ref 84), some (.int (nI s)), some (.int (nI p)), some (.int sH), some (.int w), none, none, none, none, none, none, none, none, none, none], [.int (if shG sH = true then (1 : Int32) else 0)], (HD, mi, ml, mr)) _
  refine wp_bI rfl (fun c_3 => ?_) (fun c_3 => ?_)
  · have c_3 : (if shG sH = true then (1 : Int32) else 0) = 0 := of_decide_eq_true c_3
    refine wp_steps 1 (t' := (17, [some (.ref 84), some (.int (nI s)), some (.int (nI p)), some (.int sH), some (.int w), none, none, none, none, none, none, none, none, none, none], [.int (-2)], (HD, mi, ml, mr))) rfl ?_
    refine wp_ret rfl rfl ⟨⟨Nat.le_refl _, Nat.le_refl _⟩, ?_⟩
    exact ⟨rfl, rfl⟩
  · have c_3 : ¬ ((if shG sH = true then (1 : Int32) else 0) = 0) := of_decide_eq_false c_3
    refine wp_steps 4 (t' := (14, [some (.ref 84), some (.int (nI s)), some (.int (nI p)), some (.int sH), some (.int w), none, none, none, none, none, none, none, none, none, none], [.long 8, .long 0, .long w.toInt64], (HD, mi, ml, mr))) rfl ?_
    refine wp_cal (as := [.long w.toInt64, .long 0, .long 8]) rfl rfl rfl (Nat.le_of_ble_eq_true rfl) ((c_in (x := w) (lo := 0) (hi := 8) rfl (by decide) (by decide))) (by decide) ?_
    rintro _ _ ⟨rfl, rfl⟩
    show aWP _ _ (15, [some (.ref 84), some (.int (nI s)), some (.int (nI p)), some (.int sH), some (.int w), none, none, none, none, none, none, none, none, none, none], [.int (if inR 0 8 w then (1 : Int32) else 0)], (HD, mi, ml, mr)) _
    refine wp_bI rfl (fun c_4 => ?_) (fun c_4 => ?_)
    · have c_4 : ¬ (if inR 0 8 w then (1 : Int32) else 0) = 0 := of_decide_eq_true c_4
      exact absurd (show shG sH = true ∧ inR 0 8 w from ⟨(ite_aix c_3), (i0_t c_4)⟩) hb
    · have c_4 : (if inR 0 8 w then (1 : Int32) else 0) = 0 := Decidable.not_not.mp (of_decide_eq_false c_4)
      refine wp_steps 1 (t' := (17, [some (.ref 84), some (.int (nI s)), some (.int (nI p)), some (.int sH), some (.int w), none, none, none, none, none, none, none, none, none, none], [.int (-2)], (HD, mi, ml, mr))) rfl ?_
      refine wp_ret rfl rfl ⟨⟨Nat.le_refl _, Nat.le_refl _⟩, ?_⟩
      exact ⟨rfl, rfl⟩
set_option maxRecDepth 20000 in
set_option maxHeartbeats 1000000 in
theorem r_tells_e {X : aXt × Value} {mi : Nat → Nat → Int32} {ml : Nat → Nat → Int64} {mr : Nat → Nat → Option Nat} (hM : MRok mr) {N : Nat} (hN : mi 84 12 = nI N) (hN5 : N ≤ 5) {p : Nat} (hpN : p < N) {s : Nat} (hs4 : s < 4) {sH w : Int32} (hS : shG sH = true) (hw : inR 0 8 w) (hT : mi 97 s = 0) : aCW X 50 201 [.ref 84, .int (nI s), .int (nI p), .int sH, .int w] (HD, mi, ml, mr) (fun r h' => r = some (.int (-11)) ∧ h' = (HD, mi, ml, mr)) := by
  refine cw_of (cd := cd_X7_tells) (nL := 15) rfl rfl ?_
  show aWP _ _ (0, [some (.ref 84), some (.int (nI s)), some (.int (nI p)), some (.int sH), some (.int w), none, none, none, none, none, none, none, none, none, none], [], (HD, mi, ml, mr)) _
  refine wp_steps 1 (t' := (1, [some (.ref 84), some (.int (nI s)), some (.int (nI p)), some (.int sH), some (.int w), none, none, none, none, none, none, none, none, none, none], [.int (nI s)], (HD, mi, ml, mr))) rfl ?_
  refine wp_cal (as := [.int (nI s)]) rfl rfl rfl (Nat.le_of_ble_eq_true rfl) ((c_isSheet_n (ml := ml) (mr := mr) hs4)) (by decide) ?_
  rintro _ _ ⟨rfl, rfl⟩
  show aWP _ _ (2, [some (.ref 84), some (.int (nI s)), some (.int (nI p)), some (.int sH), some (.int w), none, none, none, none, none, none, none, none, none, none], [.int 1], (HD, mi, ml, mr)) _
  refine wp_bI rfl (fun c_1 => ?_) (fun c_1 => ?_)
  · have c_1 : (1 : Int32) = 0 := of_decide_eq_true c_1
    exact absurd c_1 (by decide)
  have c_1 : ¬ ((1 : Int32) = 0) := of_decide_eq_false c_1
  refine wp_steps 2 (t' := (5, [some (.ref 84), some (.int (nI s)), some (.int (nI p)), some (.int sH), some (.int w), none, none, none, none, none, none, none, none, none, none], [.int (nI p), .ref 84], (HD, mi, ml, mr))) rfl ?_
  refine wp_calv (as := [.int (nI p)]) rfl rfl rfl (Nat.le_of_ble_eq_true rfl) ⟨by decide, rfl⟩ ((c_isOne_ok (mi := mi) (ml := ml) hM hN hN5 hpN)) (by decide) ?_
  rintro _ _ ⟨rfl, rfl⟩
  show aWP _ _ (6, [some (.ref 84), some (.int (nI s)), some (.int (nI p)), some (.int sH), some (.int w), none, none, none, none, none, none, none, none, none, none], [.int 1], (HD, mi, ml, mr)) _
  refine wp_bI rfl (fun c_2 => ?_) (fun c_2 => ?_)
  · have c_2 : (1 : Int32) = 0 := of_decide_eq_true c_2
    exact absurd c_2 (by decide)
  have c_2 : ¬ ((1 : Int32) = 0) := of_decide_eq_false c_2
  refine wp_steps 1 (t' := (8, [some (.ref 84), some (.int (nI s)), some (.int (nI p)), some (.int sH), some (.int w), none, none, none, none, none, none, none, none, none, none], [.int sH], (HD, mi, ml, mr))) rfl ?_
  refine wp_cal (as := [.int sH]) rfl rfl rfl (Nat.le_of_ble_eq_true rfl) (c_rSH) (by decide) ?_
  rintro _ _ ⟨rfl, rfl⟩
  rw [if_pos hS]
  show aWP _ _ (9, [some (.ref 84), some (.int (nI s)), some (.int (nI p)), some (.int sH), some (.int w), none, none, none, none, none, none, none, none, none, none], [.int 1], (HD, mi, ml, mr)) _
  refine wp_bI rfl (fun c_3 => ?_) (fun c_3 => ?_)
  · have c_3 : (1 : Int32) = 0 := of_decide_eq_true c_3
    exact absurd c_3 (by decide)
  have c_3 : ¬ ((1 : Int32) = 0) := of_decide_eq_false c_3
  refine wp_steps 4 (t' := (14, [some (.ref 84), some (.int (nI s)), some (.int (nI p)), some (.int sH), some (.int w), none, none, none, none, none, none, none, none, none, none], [.long 8, .long 0, .long w.toInt64], (HD, mi, ml, mr))) rfl ?_
  refine wp_cal (as := [.long w.toInt64, .long 0, .long 8]) rfl rfl rfl (Nat.le_of_ble_eq_true rfl) ((c_in (x := w) (lo := 0) (hi := 8) rfl (by decide) (by decide))) (by decide) ?_
  rintro _ _ ⟨rfl, rfl⟩
  rw [if_pos hw]
  show aWP _ _ (15, [some (.ref 84), some (.int (nI s)), some (.int (nI p)), some (.int sH), some (.int w), none, none, none, none, none, none, none, none, none, none], [.int 1], (HD, mi, ml, mr)) _
  refine wp_bI rfl (fun c_4 => ?_) (fun c_4 => ?_)
  rotate_left
  · have c_4 : (1 : Int32) = 0 := Decidable.not_not.mp (of_decide_eq_false c_4)
    exact absurd c_4 (by decide)
  have c_4 : ¬ (1 : Int32) = 0 := of_decide_eq_true c_4
  refine wp_steps 1 (t' := (19, [some (.ref 84), some (.int (nI s)), some (.int (nI p)), some (.int sH), some (.int w), none, none, none, none, none, none, none, none, none, none], [.ref 84], (HD, mi, ml, mr))) rfl ?_
  refine wp_getr rfl ⟨by decide, rfl⟩ rfl (hM (84, 37, 97) (by decide)) ?_
  refine wp_steps 1 (t' := (21, [some (.ref 84), some (.int (nI s)), some (.int (nI p)), some (.int sH), some (.int w), none, none, none, none, none, none, none, none, none, none], [.int (nI s), .ref 97], (HD, mi, ml, mr))) rfl ?_
  refine wp_zald rfl ⟨by decide, rfl⟩ (aix_nI hs4 (by decide)) ?_
  rw [nI_clamp (n := s) (by omega)]
  rw [show mi 97 s = 0 from hT]
  refine wp_bI rfl (fun c_5 => ?_) (fun c_5 => ?_)
  · have c_5 : ¬ (0 : Int32) = 0 := of_decide_eq_true c_5
    exact absurd c_5 (by decide)
  have c_5 : (0 : Int32) = 0 := Decidable.not_not.mp (of_decide_eq_false c_5)
  refine wp_steps 1 (t' := (24, [some (.ref 84), some (.int (nI s)), some (.int (nI p)), some (.int sH), some (.int w), none, none, none, none, none, none, none, none, none, none], [.int (-11)], (HD, mi, ml, mr))) rfl ?_
  refine wp_ret rfl rfl ⟨⟨Nat.le_refl _, Nat.le_refl _⟩, ?_⟩
  exact ⟨rfl, rfl⟩
set_option maxRecDepth 20000 in
set_option maxHeartbeats 1000000 in
theorem r_tells_w0 {X : aXt × Value} {mi : Nat → Nat → Int32} {ml : Nat → Nat → Int64} {mr : Nat → Nat → Option Nat} (hM : MRok mr) {N : Nat} (hN : mi 84 12 = nI N) (hN5 : N ≤ 5) {c0 c1 c2 : List Int32} (hR : RUX mi c0 c1 c2) {p : Nat} (hpN : p < N) (hok : okU (puR mi p)) {s Z : Nat} (hs4 : s < 4) (hz : mi 99 s = nI Z) (hZ : Z ≤ 40) {sH : Int32} (hS : shG sH = true) (hT : mi 97 s = 1) : aCW X 50 201 [.ref 84, .int (nI s), .int (nI p), .int sH, .int 0] (HD, mi, ml, mr) (qR mi mr (.int (foL (twR mi c0 c1 c2) (sH / 10).toNatClampNeg (sH - sH / 10 * 10) (fun j => mi 100 (40 * s + j)) Z 0 (puR mi p)))) := by
  refine cw_of (cd := cd_X7_tells) (nL := 15) rfl rfl ?_
  show aWP _ _ (0, [some (.ref 84), some (.int (nI s)), some (.int (nI p)), some (.int sH), some (.int 0), none, none, none, none, none, none, none, none, none, none], [], (HD, mi, ml, mr)) _
  refine wp_steps 1 (t' := (1, [some (.ref 84), some (.int (nI s)), some (.int (nI p)), some (.int sH), some (.int 0), none, none, none, none, none, none, none, none, none, none], [.int (nI s)], (HD, mi, ml, mr))) rfl ?_
  refine wp_cal (as := [.int (nI s)]) rfl rfl rfl (Nat.le_of_ble_eq_true rfl) ((c_isSheet_n (ml := ml) (mr := mr) hs4)) (by decide) ?_
  rintro _ _ ⟨rfl, rfl⟩
  show aWP _ _ (2, [some (.ref 84), some (.int (nI s)), some (.int (nI p)), some (.int sH), some (.int 0), none, none, none, none, none, none, none, none, none, none], [.int 1], (HD, mi, ml, mr)) _
  refine wp_bI rfl (fun c_1 => ?_) (fun c_1 => ?_)
  · have c_1 : (1 : Int32) = 0 := of_decide_eq_true c_1
    exact absurd c_1 (by decide)
  have c_1 : ¬ ((1 : Int32) = 0) := of_decide_eq_false c_1
  refine wp_steps 2 (t' := (5, [some (.ref 84), some (.int (nI s)), some (.int (nI p)), some (.int sH), some (.int 0), none, none, none, none, none, none, none, none, none, none], [.int (nI p), .ref 84], (HD, mi, ml, mr))) rfl ?_
  refine wp_calv (as := [.int (nI p)]) rfl rfl rfl (Nat.le_of_ble_eq_true rfl) ⟨by decide, rfl⟩ ((c_isOne_ok (mi := mi) (ml := ml) hM hN hN5 hpN)) (by decide) ?_
  rintro _ _ ⟨rfl, rfl⟩
  show aWP _ _ (6, [some (.ref 84), some (.int (nI s)), some (.int (nI p)), some (.int sH), some (.int 0), none, none, none, none, none, none, none, none, none, none], [.int 1], (HD, mi, ml, mr)) _
  refine wp_bI rfl (fun c_2 => ?_) (fun c_2 => ?_)
  · have c_2 : (1 : Int32) = 0 := of_decide_eq_true c_2
    exact absurd c_2 (by decide)
  have c_2 : ¬ ((1 : Int32) = 0) := of_decide_eq_false c_2
  refine wp_steps 1 (t' := (8, [some (.ref 84), some (.int (nI s)), some (.int (nI p)), some (.int sH), some (.int 0), none, none, none, none, none, none, none, none, none, none], [.int sH], (HD, mi, ml, mr))) rfl ?_
  refine wp_cal (as := [.int sH]) rfl rfl rfl (Nat.le_of_ble_eq_true rfl) (c_rSH) (by decide) ?_
  rintro _ _ ⟨rfl, rfl⟩
  rw [if_pos hS]
  show aWP _ _ (9, [some (.ref 84), some (.int (nI s)), some (.int (nI p)), some (.int sH), some (.int 0), none, none, none, none, none, none, none, none, none, none], [.int 1], (HD, mi, ml, mr)) _
  refine wp_bI rfl (fun c_3 => ?_) (fun c_3 => ?_)
  · have c_3 : (1 : Int32) = 0 := of_decide_eq_true c_3
    exact absurd c_3 (by decide)
  have c_3 : ¬ ((1 : Int32) = 0) := of_decide_eq_false c_3
  refine wp_steps 4 (t' := (14, [some (.ref 84), some (.int (nI s)), some (.int (nI p)), some (.int sH), some (.int 0), none, none, none, none, none, none, none, none, none, none], [.long 8, .long 0, .long ((0 : Int32).toInt64)], (HD, mi, ml, mr))) rfl ?_
  refine wp_cal (as := [.long ((0 : Int32).toInt64), .long 0, .long 8]) rfl rfl rfl (Nat.le_of_ble_eq_true rfl) ((c_in (x := 0) (lo := 0) (hi := 8) (by decide) (by decide) (by decide))) (by decide) ?_
  rintro _ _ ⟨rfl, rfl⟩
  rw [if_pos (by decide)]
  show aWP _ _ (15, [some (.ref 84), some (.int (nI s)), some (.int (nI p)), some (.int sH), some (.int 0), none, none, none, none, none, none, none, none, none, none], [.int 1], (HD, mi, ml, mr)) _
  refine wp_bI rfl (fun c_4 => ?_) (fun c_4 => ?_)
  rotate_left
  · have c_4 : (1 : Int32) = 0 := Decidable.not_not.mp (of_decide_eq_false c_4)
    exact absurd c_4 (by decide)
  have c_4 : ¬ (1 : Int32) = 0 := of_decide_eq_true c_4
  refine wp_steps 1 (t' := (19, [some (.ref 84), some (.int (nI s)), some (.int (nI p)), some (.int sH), some (.int 0), none, none, none, none, none, none, none, none, none, none], [.ref 84], (HD, mi, ml, mr))) rfl ?_
  refine wp_getr rfl ⟨by decide, rfl⟩ rfl (hM (84, 37, 97) (by decide)) ?_
  refine wp_steps 1 (t' := (21, [some (.ref 84), some (.int (nI s)), some (.int (nI p)), some (.int sH), some (.int 0), none, none, none, none, none, none, none, none, none, none], [.int (nI s), .ref 97], (HD, mi, ml, mr))) rfl ?_
  refine wp_zald rfl ⟨by decide, rfl⟩ (aix_nI hs4 (by decide)) ?_
  rw [nI_clamp (n := s) (by omega)]
  rw [show mi 97 s = 1 from hT]
  refine wp_bI rfl (fun c_5 => ?_) (fun c_5 => ?_)
  rotate_left
  · have c_5 : (1 : Int32) = 0 := Decidable.not_not.mp (of_decide_eq_false c_5)
    exact absurd c_5 (by decide)
  have c_5 : ¬ (1 : Int32) = 0 := of_decide_eq_true c_5
  refine wp_steps 9 (t' := (34, [some (.ref 84), some (.int (nI s)), some (.int (nI p)), some (.int sH), some (.int 0), some (.int (sH / 10)), some (.int (sH - sH / 10 * 10)), none, none, none, none, none, none, none, none], [.int 0], (HD, mi, ml, mr))) rfl ?_
  refine wp_bI rfl (fun c_6 => ?_) (fun c_6 => ?_)
  · have c_6 : ¬ (0 : Int32) = 0 := of_decide_eq_true c_6
    exact absurd c_6 (by decide)
  have c_6 : (0 : Int32) = 0 := Decidable.not_not.mp (of_decide_eq_false c_6)
  refine wp_steps 5 (t' := (40, [some (.ref 84), some (.int (nI s)), some (.int (nI p)), some (.int sH), some (.int 0), some (.int (sH / 10)), some (.int (sH - sH / 10 * 10)), none, none, none, none, none, none, none, none], [.int (sH - sH / 10 * 10), .int (sH / 10), .int (nI p), .int (nI s), .ref 84], (HD, mi, ml, mr))) rfl ?_
  refine wp_calv (as := [.int (nI s), .int (nI p), .int (sH / 10), .int (sH - sH / 10 * 10)]) rfl rfl rfl (Nat.le_of_ble_eq_true rfl) ⟨by decide, rfl⟩ ((r_first (ml := ml) hM hR (show p < 5 by omega) hok hs4 hz hZ (hp := sH - sH / 10 * 10) (shG_s hS))) (by decide) ?_
  rintro _ _ ⟨rfl, m_1, w_1, rfl, f1⟩
  show aWP _ _ (41, [some (.ref 84), some (.int (nI s)), some (.int (nI p)), some (.int sH), some (.int 0), some (.int (sH / 10)), some (.int (sH - sH / 10 * 10)), none, none, none, none, none, none, none, none], [.int (foL (twR mi c0 c1 c2) (sH / 10).toNatClampNeg (sH - sH / 10 * 10) (fun j => mi 100 (40 * s + j)) Z 0 (puR mi p))], (HD, m_1, w_1, mr)) _
  refine wp_ret rfl rfl ⟨⟨Nat.le_refl _, Nat.le_refl _⟩, ?_⟩
  exact ⟨rfl, m_1, w_1, rfl, f1⟩
set_option maxRecDepth 20000 in
set_option maxHeartbeats 1000000 in
theorem r_tells_w3 {X : aXt × Value} {mi : Nat → Nat → Int32} {ml : Nat → Nat → Int64} {mr : Nat → Nat → Option Nat} (hM : MRok mr) {N : Nat} (hN : mi 84 12 = nI N) (hN5 : N ≤ 5) {c0 c1 c2 : List Int32} (hR : RUX mi c0 c1 c2) {p : Nat} (hpN : p < N) (hok : okU (puR mi p)) {s Z : Nat} (hs4 : s < 4) (hz : mi 99 s = nI Z) (hZ : Z ≤ 40) {sH : Int32} (hS : shG sH = true) (hT : mi 97 s = 1) : aCW X 50 201 [.ref 84, .int (nI s), .int (nI p), .int sH, .int 3] (HD, mi, ml, mr) (qR mi mr (.int (hbG (fun h => foL (twR mi c0 c1 c2) (sH / 10).toNatClampNeg h (fun j => mi 100 (40 * s + j)) Z 0 (puR mi p))))) := by
  refine cw_of (cd := cd_X7_tells) (nL := 15) rfl rfl ?_
  show aWP _ _ (0, [some (.ref 84), some (.int (nI s)), some (.int (nI p)), some (.int sH), some (.int 3), none, none, none, none, none, none, none, none, none, none], [], (HD, mi, ml, mr)) _
  refine wp_steps 1 (t' := (1, [some (.ref 84), some (.int (nI s)), some (.int (nI p)), some (.int sH), some (.int 3), none, none, none, none, none, none, none, none, none, none], [.int (nI s)], (HD, mi, ml, mr))) rfl ?_
  refine wp_cal (as := [.int (nI s)]) rfl rfl rfl (Nat.le_of_ble_eq_true rfl) ((c_isSheet_n (ml := ml) (mr := mr) hs4)) (by decide) ?_
  rintro _ _ ⟨rfl, rfl⟩
  show aWP _ _ (2, [some (.ref 84), some (.int (nI s)), some (.int (nI p)), some (.int sH), some (.int 3), none, none, none, none, none, none, none, none, none, none], [.int 1], (HD, mi, ml, mr)) _
  refine wp_bI rfl (fun c_1 => ?_) (fun c_1 => ?_)
  · have c_1 : (1 : Int32) = 0 := of_decide_eq_true c_1
    exact absurd c_1 (by decide)
  have c_1 : ¬ ((1 : Int32) = 0) := of_decide_eq_false c_1
  refine wp_steps 2 (t' := (5, [some (.ref 84), some (.int (nI s)), some (.int (nI p)), some (.int sH), some (.int 3), none, none, none, none, none, none, none, none, none, none], [.int (nI p), .ref 84], (HD, mi, ml, mr))) rfl ?_
  refine wp_calv (as := [.int (nI p)]) rfl rfl rfl (Nat.le_of_ble_eq_true rfl) ⟨by decide, rfl⟩ ((c_isOne_ok (mi := mi) (ml := ml) hM hN hN5 hpN)) (by decide) ?_
  rintro _ _ ⟨rfl, rfl⟩
  show aWP _ _ (6, [some (.ref 84), some (.int (nI s)), some (.int (nI p)), some (.int sH), some (.int 3), none, none, none, none, none, none, none, none, none, none], [.int 1], (HD, mi, ml, mr)) _
  refine wp_bI rfl (fun c_2 => ?_) (fun c_2 => ?_)
  · have c_2 : (1 : Int32) = 0 := of_decide_eq_true c_2
    exact absurd c_2 (by decide)
  have c_2 : ¬ ((1 : Int32) = 0) := of_decide_eq_false c_2
  refine wp_steps 1 (t' := (8, [some (.ref 84), some (.int (nI s)), some (.int (nI p)), some (.int sH), some (.int 3), none, none, none, none, none, none, none, none, none, none], [.int sH], (HD, mi, ml, mr))) rfl ?_
  refine wp_cal (as := [.int sH]) rfl rfl rfl (Nat.le_of_ble_eq_true rfl) (c_rSH) (by decide) ?_
  rintro _ _ ⟨rfl, rfl⟩
  rw [if_pos hS]
  show aWP _ _ (9, [some (.ref 84), some (.int (nI s)), some (.int (nI p)), some (.int sH), some (.int 3), none, none, none, none, none, none, none, none, none, none], [.int 1], (HD, mi, ml, mr)) _
  refine wp_bI rfl (fun c_3 => ?_) (fun c_3 => ?_)
  · have c_3 : (1 : Int32) = 0 := of_decide_eq_true c_3
    exact absurd c_3 (by decide)
  have c_3 : ¬ ((1 : Int32) = 0) := of_decide_eq_false c_3
  refine wp_steps 4 (t' := (14, [some (.ref 84), some (.int (nI s)), some (.int (nI p)), some (.int sH), some (.int 3), none, none, none, none, none, none, none, none, none, none], [.long 8, .long 0, .long ((3 : Int32).toInt64)], (HD, mi, ml, mr))) rfl ?_
  refine wp_cal (as := [.long ((3 : Int32).toInt64), .long 0, .long 8]) rfl rfl rfl (Nat.le_of_ble_eq_true rfl) ((c_in (x := 3) (lo := 0) (hi := 8) (by decide) (by decide) (by decide))) (by decide) ?_
  rintro _ _ ⟨rfl, rfl⟩
  rw [if_pos (by decide)]
  show aWP _ _ (15, [some (.ref 84), some (.int (nI s)), some (.int (nI p)), some (.int sH), some (.int 3), none, none, none, none, none, none, none, none, none, none], [.int 1], (HD, mi, ml, mr)) _
  refine wp_bI rfl (fun c_4 => ?_) (fun c_4 => ?_)
  rotate_left
  · have c_4 : (1 : Int32) = 0 := Decidable.not_not.mp (of_decide_eq_false c_4)
    exact absurd c_4 (by decide)
  have c_4 : ¬ (1 : Int32) = 0 := of_decide_eq_true c_4
  refine wp_steps 1 (t' := (19, [some (.ref 84), some (.int (nI s)), some (.int (nI p)), some (.int sH), some (.int 3), none, none, none, none, none, none, none, none, none, none], [.ref 84], (HD, mi, ml, mr))) rfl ?_
  refine wp_getr rfl ⟨by decide, rfl⟩ rfl (hM (84, 37, 97) (by decide)) ?_
  refine wp_steps 1 (t' := (21, [some (.ref 84), some (.int (nI s)), some (.int (nI p)), some (.int sH), some (.int 3), none, none, none, none, none, none, none, none, none, none], [.int (nI s), .ref 97], (HD, mi, ml, mr))) rfl ?_
  refine wp_zald rfl ⟨by decide, rfl⟩ (aix_nI hs4 (by decide)) ?_
  rw [nI_clamp (n := s) (by omega)]
  rw [show mi 97 s = 1 from hT]
  refine wp_bI rfl (fun c_5 => ?_) (fun c_5 => ?_)
  rotate_left
  · have c_5 : (1 : Int32) = 0 := Decidable.not_not.mp (of_decide_eq_false c_5)
    exact absurd c_5 (by decide)
  have c_5 : ¬ (1 : Int32) = 0 := of_decide_eq_true c_5
  refine wp_steps 9 (t' := (34, [some (.ref 84), some (.int (nI s)), some (.int (nI p)), some (.int sH), some (.int 3), some (.int (sH / 10)), some (.int (sH - sH / 10 * 10)), none, none, none, none, none, none, none, none], [.int 3], (HD, mi, ml, mr))) rfl ?_
  refine wp_bI rfl (fun c_6 => ?_) (fun c_6 => ?_)
  rotate_left
  · have c_6 : (3 : Int32) = 0 := Decidable.not_not.mp (of_decide_eq_false c_6)
    exact absurd c_6 (by decide)
  have c_6 : ¬ (3 : Int32) = 0 := of_decide_eq_true c_6
  refine wp_steps 2 (t' := (44, [some (.ref 84), some (.int (nI s)), some (.int (nI p)), some (.int sH), some (.int 3), some (.int (sH / 10)), some (.int (sH - sH / 10 * 10)), none, none, none, none, none, none, none, none], [.int 3, .int 3], (HD, mi, ml, mr))) rfl ?_
  refine wp_bC rfl (fun c_7 => ?_) (fun c_7 => ?_)
  · have c_7 : ¬ (3 : Int32) = 3 := of_decide_eq_true c_7
    exact absurd c_7 (by decide)
  have c_7 : (3 : Int32) = 3 := Decidable.not_not.mp (of_decide_eq_false c_7)
  refine wp_steps 4 (t' := (49, [some (.ref 84), some (.int (nI s)), some (.int (nI p)), some (.int sH), some (.int 3), some (.int (sH / 10)), some (.int (sH - sH / 10 * 10)), none, none, none, none, none, none, none, none], [.int (sH / 10), .int (nI p), .int (nI s), .ref 84], (HD, mi, ml, mr))) rfl ?_
  refine wp_calv (as := [.int (nI s), .int (nI p), .int (sH / 10)]) rfl rfl rfl (Nat.le_of_ble_eq_true rfl) ⟨by decide, rfl⟩ ((r_helps (ml := ml) hM hR (show p < 5 by omega) hok hs4 hz hZ (shG_s hS))) (by decide) ?_
  rintro _ _ ⟨rfl, m_1, w_1, rfl, f1⟩
  show aWP _ _ (50, [some (.ref 84), some (.int (nI s)), some (.int (nI p)), some (.int sH), some (.int 3), some (.int (sH / 10)), some (.int (sH - sH / 10 * 10)), none, none, none, none, none, none, none, none], [.int (hbG (fun h => foL (twR mi c0 c1 c2) (sH / 10).toNatClampNeg h (fun j => mi 100 (40 * s + j)) Z 0 (puR mi p)))], (HD, m_1, w_1, mr)) _
  refine wp_ret rfl rfl ⟨⟨Nat.le_refl _, Nat.le_refl _⟩, ?_⟩
  exact ⟨rfl, m_1, w_1, rfl, f1⟩
