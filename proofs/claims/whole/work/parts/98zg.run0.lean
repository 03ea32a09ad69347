/-! a call of the law's (written by wip/whole/mkrun.py) -/
theorem lx_c {i c L : Nat} (h : i + c < L) (hL : L ≤ 3072) {v : Int32} (hv : v = nI c) : aixn (nI i + v) L = true := by
  rw [hv, nI_add]
  exact aix_nI h (by omega)
theorem lc_self (x : Int64) : lg_cmp x x = 0 := by
  unfold lg_cmp
  rw [if_neg (fun z => Int64.lt_irrefl z), if_pos rfl]
set_option maxRecDepth 20000 in
set_option maxHeartbeats 1000000 in
theorem lw_set {W : aXt × Value} {L : Nat} {xs : Nat → Int32} (hX : W.1 aSCR = some (L, xs)) (hL : L ≤ 3072) {i : Nat} (hi : i + 6 ≤ L) {m : Nat → Nat → Int32} {ml : Nat → Nat → Int64} {mr : Nat → Nat → Option Nat} (hI : INV m mr) {Q : Option Value → aM → Prop} (hk : (∀ m2 w2 mr2, INV m2 mr2 → aWP (aEx (aTb W) 90) (cd_L_law W) (870, [some (.ref aSCR), some (.ref 0), some (.ref 84), some (.int (nI i))], [], (HD, m2, w2, mr2)) Q)) : aWP (aEx (aTb W) 90) (cd_L_law W) (22, [some (.ref aSCR), some (.ref 0), some (.ref 84), some (.int (nI i))], [], (HD, m, ml, mr)) Q := by
  refine wp_steps 5 (t' := (27, [some (.ref aSCR), some (.ref 0), some (.ref 84), some (.int (nI i))], [.int ((nI i) + 1), .ref aSCR, .ref 0], (HD, m, ml, mr))) rfl ?_
  refine wp_ial_x rfl hX (lx_c (i := i) (c := 1) (by omega) hL rfl) ?_
  refine wp_steps 4 (t' := (32, [some (.ref aSCR), some (.ref 0), some (.ref 84), some (.int (nI i))], [.int ((nI i) + 2), .ref aSCR, .int (xs ((nI i) + 1).toNatClampNeg), .ref 0], (HD, m, ml, mr))) rfl ?_
  refine wp_ial_x rfl hX (lx_c (i := i) (c := 2) (by omega) hL rfl) ?_
  refine wp_steps 4 (t' := (37, [some (.ref aSCR), some (.ref 0), some (.ref 84), some (.int (nI i))], [.int ((nI i) + 3), .ref aSCR, .int (xs ((nI i) + 2).toNatClampNeg), .int (xs ((nI i) + 1).toNatClampNeg), .ref 0], (HD, m, ml, mr))) rfl ?_
  refine wp_ial_x rfl hX (lx_c (i := i) (c := 3) (by omega) hL rfl) ?_
  refine wp_calv (as := [.int (xs ((nI i) + 1).toNatClampNeg), .int (xs ((nI i) + 2).toNatClampNeg), .int (xs ((nI i) + 3).toNatClampNeg)]) rfl rfl rfl (Nat.le_of_ble_eq_true rfl) ⟨by decide, rfl⟩ ((p_set m ml mr hI)) (by decide) ?_
  rintro _ _ ⟨_, m1, w1, mr1, ⟨x0, rfl⟩, rfl, rfl, k2⟩
  show aWP _ _ (39, [some (.ref aSCR), some (.ref 0), some (.ref 84), some (.int (nI i))], [.int x0], (HD, m1, w1, mr1)) _
  refine wp_steps 5 (t' := (44, [some (.ref aSCR), some (.ref 0), some (.ref 84), some (.int (nI i))], [.int ((nI i) + 1), .ref aSCR, .ref 84, .int x0], (HD, m1, w1, mr1))) rfl ?_
  refine wp_ial_x rfl hX (lx_c (i := i) (c := 1) (by omega) hL rfl) ?_
  refine wp_steps 4 (t' := (49, [some (.ref aSCR), some (.ref 0), some (.ref 84), some (.int (nI i))], [.int ((nI i) + 2), .ref aSCR, .int (xs ((nI i) + 1).toNatClampNeg), .ref 84, .int x0], (HD, m1, w1, mr1))) rfl ?_
  refine wp_ial_x rfl hX (lx_c (i := i) (c := 2) (by omega) hL rfl) ?_
  refine wp_steps 4 (t' := (54, [some (.ref aSCR), some (.ref 0), some (.ref 84), some (.int (nI i))], [.int ((nI i) + 3), .ref aSCR, .int (xs ((nI i) + 2).toNatClampNeg), .int (xs ((nI i) + 1).toNatClampNeg), .ref 84, .int x0], (HD, m1, w1, mr1))) rfl ?_
  refine wp_ial_x rfl hX (lx_c (i := i) (c := 3) (by omega) hL rfl) ?_
  refine wp_calv (as := [.int (xs ((nI i) + 1).toNatClampNeg), .int (xs ((nI i) + 2).toNatClampNeg), .int (xs ((nI i) + 3).toNatClampNeg)]) rfl rfl rfl (Nat.le_of_ble_eq_true rfl) ⟨by decide, rfl⟩ (k2) (by decide) ?_
  rintro _ _ ⟨rfl, m2, w2, rfl, hI2⟩
  show aWP _ _ (56, [some (.ref aSCR), some (.ref 0), some (.ref 84), some (.int (nI i))], [.int x0, .int x0], (HD, m2, w2, mr1)) _
  refine wp_bC rfl (fun c_1 => ?_) (fun c_1 => ?_)
  rotate_left
  · have c_1 : ¬ (x0 = x0) := of_decide_eq_false c_1
    exact absurd rfl c_1
  have c_1 : x0 = x0 := of_decide_eq_true c_1
  exact hk m2 w2 mr1 hI2
set_option maxRecDepth 20000 in
set_option maxHeartbeats 1000000 in
theorem lw_learner {W : aXt × Value} {L : Nat} {xs : Nat → Int32} (hX : W.1 aSCR = some (L, xs)) (hL : L ≤ 3072) {i : Nat} (hi : i + 6 ≤ L) {m : Nat → Nat → Int32} {ml : Nat → Nat → Int64} {mr : Nat → Nat → Option Nat} (hI : INV m mr) {Q : Option Value → aM → Prop} (hk : (∀ m2 w2 mr2, INV m2 mr2 → aWP (aEx (aTb W) 90) (cd_L_law W) (870, [some (.ref aSCR), some (.ref 0), some (.ref 84), some (.int (nI i))], [], (HD, m2, w2, mr2)) Q)) : aWP (aEx (aTb W) 90) (cd_L_law W) (59, [some (.ref aSCR), some (.ref 0), some (.ref 84), some (.int (nI i))], [], (HD, m, ml, mr)) Q := by
  refine wp_steps 5 (t' := (64, [some (.ref aSCR), some (.ref 0), some (.ref 84), some (.int (nI i))], [.int ((nI i) + 1), .ref aSCR, .ref 0], (HD, m, ml, mr))) rfl ?_
  refine wp_ial_x rfl hX (lx_c (i := i) (c := 1) (by omega) hL rfl) ?_
  refine wp_steps 4 (t' := (69, [some (.ref aSCR), some (.ref 0), some (.ref 84), some (.int (nI i))], [.int ((nI i) + 2), .ref aSCR, .int (xs ((nI i) + 1).toNatClampNeg), .ref 0], (HD, m, ml, mr))) rfl ?_
  refine wp_ial_x rfl hX (lx_c (i := i) (c := 2) (by omega) hL rfl) ?_
  refine wp_calv (as := [.int (xs ((nI i) + 1).toNatClampNeg), .int (xs ((nI i) + 2).toNatClampNeg)]) rfl rfl rfl (Nat.le_of_ble_eq_true rfl) ⟨by decide, rfl⟩ ((p_learner m ml mr hI)) (by decide) ?_
  rintro _ _ ⟨_, m1, w1, mr1, ⟨x0, rfl⟩, rfl, rfl, k2⟩
  show aWP _ _ (71, [some (.ref aSCR), some (.ref 0), some (.ref 84), some (.int (nI i))], [.int x0], (HD, m1, w1, mr1)) _
  refine wp_steps 5 (t' := (76, [some (.ref aSCR), some (.ref 0), some (.ref 84), some (.int (nI i))], [.int ((nI i) + 1), .ref aSCR, .ref 84, .int x0], (HD, m1, w1, mr1))) rfl ?_
  refine wp_ial_x rfl hX (lx_c (i := i) (c := 1) (by omega) hL rfl) ?_
  refine wp_steps 4 (t' := (81, [some (.ref aSCR), some (.ref 0), some (.ref 84), some (.int (nI i))], [.int ((nI i) + 2), .ref aSCR, .int (xs ((nI i) + 1).toNatClampNeg), .ref 84, .int x0], (HD, m1, w1, mr1))) rfl ?_
  refine wp_ial_x rfl hX (lx_c (i := i) (c := 2) (by omega) hL rfl) ?_
  refine wp_calv (as := [.int (xs ((nI i) + 1).toNatClampNeg), .int (xs ((nI i) + 2).toNatClampNeg)]) rfl rfl rfl (Nat.le_of_ble_eq_true rfl) ⟨by decide, rfl⟩ (k2) (by decide) ?_
  rintro _ _ ⟨rfl, m2, w2, rfl, hI2⟩
  show aWP _ _ (83, [some (.ref aSCR), some (.ref 0), some (.ref 84), some (.int (nI i))], [.int x0, .int x0], (HD, m2, w2, mr1)) _
  refine wp_bC rfl (fun c_1 => ?_) (fun c_1 => ?_)
  rotate_left
  · have c_1 : ¬ (x0 = x0) := of_decide_eq_false c_1
    exact absurd rfl c_1
  have c_1 : x0 = x0 := of_decide_eq_true c_1
  exact hk m2 w2 mr1 hI2
set_option maxRecDepth 20000 in
set_option maxHeartbeats 1000000 in
theorem lw_told {W : aXt × Value} {L : Nat} {xs : Nat → Int32} (hX : W.1 aSCR = some (L, xs)) (hL : L ≤ 3072) {i : Nat} (hi : i + 6 ≤ L) {m : Nat → Nat → Int32} {ml : Nat → Nat → Int64} {mr : Nat → Nat → Option Nat} (hI : INV m mr) {Q : Option Value → aM → Prop} (hk : (∀ m2 w2 mr2, INV m2 mr2 → aWP (aEx (aTb W) 90) (cd_L_law W) (870, [some (.ref aSCR), some (.ref 0), some (.ref 84), some (.int (nI i))], [], (HD, m2, w2, mr2)) Q)) : aWP (aEx (aTb W) 90) (cd_L_law W) (86, [some (.ref aSCR), some (.ref 0), some (.ref 84), some (.int (nI i))], [], (HD, m, ml, mr)) Q := by
  refine wp_steps 5 (t' := (91, [some (.ref aSCR), some (.ref 0), some (.ref 84), some (.int (nI i))], [.int ((nI i) + 1), .ref aSCR, .ref 0], (HD, m, ml, mr))) rfl ?_
  refine wp_ial_x rfl hX (lx_c (i := i) (c := 1) (by omega) hL rfl) ?_
  refine wp_steps 4 (t' := (96, [some (.ref aSCR), some (.ref 0), some (.ref 84), some (.int (nI i))], [.int ((nI i) + 2), .ref aSCR, .int (xs ((nI i) + 1).toNatClampNeg), .ref 0], (HD, m, ml, mr))) rfl ?_
  refine wp_ial_x rfl hX (lx_c (i := i) (c := 2) (by omega) hL rfl) ?_
  refine wp_calv (as := [.int (xs ((nI i) + 1).toNatClampNeg), .int (xs ((nI i) + 2).toNatClampNeg)]) rfl rfl rfl (Nat.le_of_ble_eq_true rfl) ⟨by decide, rfl⟩ ((p_told m ml mr hI)) (by decide) ?_
  rintro _ _ ⟨_, m1, w1, mr1, ⟨x0, rfl⟩, rfl, rfl, k2⟩
  show aWP _ _ (98, [some (.ref aSCR), some (.ref 0), some (.ref 84), some (.int (nI i))], [.int x0], (HD, m1, w1, mr1)) _
  refine wp_steps 5 (t' := (103, [some (.ref aSCR), some (.ref 0), some (.ref 84), some (.int (nI i))], [.int ((nI i) + 1), .ref aSCR, .ref 84, .int x0], (HD, m1, w1, mr1))) rfl ?_
  refine wp_ial_x rfl hX (lx_c (i := i) (c := 1) (by omega) hL rfl) ?_
  refine wp_steps 4 (t' := (108, [some (.ref aSCR), some (.ref 0), some (.ref 84), some (.int (nI i))], [.int ((nI i) + 2), .ref aSCR, .int (xs ((nI i) + 1).toNatClampNeg), .ref 84, .int x0], (HD, m1, w1, mr1))) rfl ?_
  refine wp_ial_x rfl hX (lx_c (i := i) (c := 2) (by omega) hL rfl) ?_
  refine wp_calv (as := [.int (xs ((nI i) + 1).toNatClampNeg), .int (xs ((nI i) + 2).toNatClampNeg)]) rfl rfl rfl (Nat.le_of_ble_eq_true rfl) ⟨by decide, rfl⟩ (k2) (by decide) ?_
  rintro _ _ ⟨rfl, m2, w2, rfl, hI2⟩
  show aWP _ _ (110, [some (.ref aSCR), some (.ref 0), some (.ref 84), some (.int (nI i))], [.int x0, .int x0], (HD, m2, w2, mr1)) _
  refine wp_bC rfl (fun c_1 => ?_) (fun c_1 => ?_)
  rotate_left
  · have c_1 : ¬ (x0 = x0) := of_decide_eq_false c_1
    exact absurd rfl c_1
  have c_1 : x0 = x0 := of_decide_eq_true c_1
  exact hk m2 w2 mr1 hI2
set_option maxRecDepth 20000 in
set_option maxHeartbeats 1000000 in
theorem lw_asks {W : aXt × Value} {L : Nat} {xs : Nat → Int32} (hX : W.1 aSCR = some (L, xs)) (hL : L ≤ 3072) {i : Nat} (hi : i + 6 ≤ L) {m : Nat → Nat → Int32} {ml : Nat → Nat → Int64} {mr : Nat → Nat → Option Nat} (hI : INV m mr) {Q : Option Value → aM → Prop} (hk : (∀ m2 w2 mr2, INV m2 mr2 → aWP (aEx (aTb W) 90) (cd_L_law W) (870, [some (.ref aSCR), some (.ref 0), some (.ref 84), some (.int (nI i))], [], (HD, m2, w2, mr2)) Q)) : aWP (aEx (aTb W) 90) (cd_L_law W) (113, [some (.ref aSCR), some (.ref 0), some (.ref 84), some (.int (nI i))], [], (HD, m, ml, mr)) Q := by
  refine wp_steps 5 (t' := (118, [some (.ref aSCR), some (.ref 0), some (.ref 84), some (.int (nI i))], [.int ((nI i) + 1), .ref aSCR, .ref 0], (HD, m, ml, mr))) rfl ?_
  refine wp_ial_x rfl hX (lx_c (i := i) (c := 1) (by omega) hL rfl) ?_
  refine wp_steps 4 (t' := (123, [some (.ref aSCR), some (.ref 0), some (.ref 84), some (.int (nI i))], [.int ((nI i) + 2), .ref aSCR, .int (xs ((nI i) + 1).toNatClampNeg), .ref 0], (HD, m, ml, mr))) rfl ?_
  refine wp_ial_x rfl hX (lx_c (i := i) (c := 2) (by omega) hL rfl) ?_
  refine wp_steps 4 (t' := (128, [some (.ref aSCR), some (.ref 0), some (.ref 84), some (.int (nI i))], [.int ((nI i) + 3), .ref aSCR, .int (xs ((nI i) + 2).toNatClampNeg), .int (xs ((nI i) + 1).toNatClampNeg), .ref 0], (HD, m, ml, mr))) rfl ?_
  refine wp_ial_x rfl hX (lx_c (i := i) (c := 3) (by omega) hL rfl) ?_
  refine wp_calv (as := [.int (xs ((nI i) + 1).toNatClampNeg), .int (xs ((nI i) + 2).toNatClampNeg), .int (xs ((nI i) + 3).toNatClampNeg)]) rfl rfl rfl (Nat.le_of_ble_eq_true rfl) ⟨by decide, rfl⟩ ((p_asks m ml mr hI)) (by decide) ?_
  rintro _ _ ⟨_, m1, w1, mr1, ⟨x0, rfl⟩, rfl, rfl, k2⟩
  show aWP _ _ (130, [some (.ref aSCR), some (.ref 0), some (.ref 84), some (.int (nI i))], [.int x0], (HD, m1, w1, mr1)) _
  refine wp_steps 5 (t' := (135, [some (.ref aSCR), some (.ref 0), some (.ref 84), some (.int (nI i))], [.int ((nI i) + 1), .ref aSCR, .ref 84, .int x0], (HD, m1, w1, mr1))) rfl ?_
  refine wp_ial_x rfl hX (lx_c (i := i) (c := 1) (by omega) hL rfl) ?_
  refine wp_steps 4 (t' := (140, [some (.ref aSCR), some (.ref 0), some (.ref 84), some (.int (nI i))], [.int ((nI i) + 2), .ref aSCR, .int (xs ((nI i) + 1).toNatClampNeg), .ref 84, .int x0], (HD, m1, w1, mr1))) rfl ?_
  refine wp_ial_x rfl hX (lx_c (i := i) (c := 2) (by omega) hL rfl) ?_
  refine wp_steps 4 (t' := (145, [some (.ref aSCR), some (.ref 0), some (.ref 84), some (.int (nI i))], [.int ((nI i) + 3), .ref aSCR, .int (xs ((nI i) + 2).toNatClampNeg), .int (xs ((nI i) + 1).toNatClampNeg), .ref 84, .int x0], (HD, m1, w1, mr1))) rfl ?_
  refine wp_ial_x rfl hX (lx_c (i := i) (c := 3) (by omega) hL rfl) ?_
  refine wp_calv (as := [.int (xs ((nI i) + 1).toNatClampNeg), .int (xs ((nI i) + 2).toNatClampNeg), .int (xs ((nI i) + 3).toNatClampNeg)]) rfl rfl rfl (Nat.le_of_ble_eq_true rfl) ⟨by decide, rfl⟩ (k2) (by decide) ?_
  rintro _ _ ⟨rfl, m2, w2, rfl, hI2⟩
  show aWP _ _ (147, [some (.ref aSCR), some (.ref 0), some (.ref 84), some (.int (nI i))], [.int x0, .int x0], (HD, m2, w2, mr1)) _
  refine wp_bC rfl (fun c_1 => ?_) (fun c_1 => ?_)
  rotate_left
  · have c_1 : ¬ (x0 = x0) := of_decide_eq_false c_1
    exact absurd rfl c_1
  have c_1 : x0 = x0 := of_decide_eq_true c_1
  exact hk m2 w2 mr1 hI2
set_option maxRecDepth 20000 in
set_option maxHeartbeats 1000000 in
theorem lw_feed {W : aXt × Value} {L : Nat} {xs : Nat → Int32} (hX : W.1 aSCR = some (L, xs)) (hL : L ≤ 3072) {i : Nat} (hi : i + 6 ≤ L) {m : Nat → Nat → Int32} {ml : Nat → Nat → Int64} {mr : Nat → Nat → Option Nat} (hI : INV m mr) {Q : Option Value → aM → Prop} (hk : (∀ m2 w2 mr2, INV m2 mr2 → aWP (aEx (aTb W) 90) (cd_L_law W) (870, [some (.ref aSCR), some (.ref 0), some (.ref 84), some (.int (nI i))], [], (HD, m2, w2, mr2)) Q)) : aWP (aEx (aTb W) 90) (cd_L_law W) (150, [some (.ref aSCR), some (.ref 0), some (.ref 84), some (.int (nI i))], [], (HD, m, ml, mr)) Q := by
  refine wp_steps 5 (t' := (155, [some (.ref aSCR), some (.ref 0), some (.ref 84), some (.int (nI i))], [.int ((nI i) + 1), .ref aSCR, .ref 0], (HD, m, ml, mr))) rfl ?_
  refine wp_ial_x rfl hX (lx_c (i := i) (c := 1) (by omega) hL rfl) ?_
  refine wp_calv (as := [.int (xs ((nI i) + 1).toNatClampNeg)]) rfl rfl rfl (Nat.le_of_ble_eq_true rfl) ⟨by decide, rfl⟩ ((p_feed m ml mr hI)) (by decide) ?_
  rintro _ _ ⟨_, m1, w1, mr1, ⟨x0, rfl⟩, rfl, rfl, k2⟩
  show aWP _ _ (157, [some (.ref aSCR), some (.ref 0), some (.ref 84), some (.int (nI i))], [.int x0], (HD, m1, w1, mr1)) _
  refine wp_steps 5 (t' := (162, [some (.ref aSCR), some (.ref 0), some (.ref 84), some (.int (nI i))], [.int ((nI i) + 1), .ref aSCR, .ref 84, .int x0], (HD, m1, w1, mr1))) rfl ?_
  refine wp_ial_x rfl hX (lx_c (i := i) (c := 1) (by omega) hL rfl) ?_
  refine wp_calv (as := [.int (xs ((nI i) + 1).toNatClampNeg)]) rfl rfl rfl (Nat.le_of_ble_eq_true rfl) ⟨by decide, rfl⟩ (k2) (by decide) ?_
  rintro _ _ ⟨rfl, m2, w2, rfl, hI2⟩
  show aWP _ _ (164, [some (.ref aSCR), some (.ref 0), some (.ref 84), some (.int (nI i))], [.int x0, .int x0], (HD, m2, w2, mr1)) _
  refine wp_bC rfl (fun c_1 => ?_) (fun c_1 => ?_)
  rotate_left
  · have c_1 : ¬ (x0 = x0) := of_decide_eq_false c_1
    exact absurd rfl c_1
  have c_1 : x0 = x0 := of_decide_eq_true c_1
  exact hk m2 w2 mr1 hI2
set_option maxRecDepth 20000 in
set_option maxHeartbeats 1000000 in
theorem lw_text {W : aXt × Value} {L : Nat} {xs : Nat → Int32} (hX : W.1 aSCR = some (L, xs)) (hL : L ≤ 3072) (hW : outOK W) {i : Nat} (hi : i + 6 ≤ L) {m : Nat → Nat → Int32} {ml : Nat → Nat → Int64} {mr : Nat → Nat → Option Nat} (hI : INV m mr) {Q : Option Value → aM → Prop} (hk : (∀ m2 w2 mr2, INV m2 mr2 → aWP (aEx (aTb W) 90) (cd_L_law W) (870, [some (.ref aSCR), some (.ref 0), some (.ref 84), some (.int (nI i))], [], (HD, m2, w2, mr2)) Q)) : aWP (aEx (aTb W) 90) (cd_L_law W) (167, [some (.ref aSCR), some (.ref 0), some (.ref 84), some (.int (nI i))], [], (HD, m, ml, mr)) Q := by
  refine wp_steps 1 (t' := (168, [some (.ref aSCR), some (.ref 0), some (.ref 84), some (.int (nI i))], [.ref 0], (HD, m, ml, mr))) rfl ?_
  refine wp_calv (as := []) rfl rfl rfl (Nat.le_of_ble_eq_true rfl) ⟨by decide, rfl⟩ ((p_text hW m ml mr hI)) (by decide) ?_
  rintro _ _ ⟨_, m1, w1, mr1, ⟨x0, rfl⟩, rfl, rfl, k2⟩
  show aWP _ _ (169, [some (.ref aSCR), some (.ref 0), some (.ref 84), some (.int (nI i))], [.int x0], (HD, m1, w1, mr1)) _
  refine wp_steps 1 (t' := (170, [some (.ref aSCR), some (.ref 0), some (.ref 84), some (.int (nI i))], [.ref 84, .int x0], (HD, m1, w1, mr1))) rfl ?_
  refine wp_calv (as := []) rfl rfl rfl (Nat.le_of_ble_eq_true rfl) ⟨by decide, rfl⟩ (k2) (by decide) ?_
  rintro _ _ ⟨rfl, m2, w2, rfl, hI2⟩
  show aWP _ _ (171, [some (.ref aSCR), some (.ref 0), some (.ref 84), some (.int (nI i))], [.int x0, .int x0], (HD, m2, w2, mr1)) _
  refine wp_bC rfl (fun c_1 => ?_) (fun c_1 => ?_)
  rotate_left
  · have c_1 : ¬ (x0 = x0) := of_decide_eq_false c_1
    exact absurd rfl c_1
  have c_1 : x0 = x0 := of_decide_eq_true c_1
  exact hk m2 w2 mr1 hI2
set_option maxRecDepth 20000 in
set_option maxHeartbeats 1000000 in
theorem lw_force {W : aXt × Value} {L : Nat} {xs : Nat → Int32} (hX : W.1 aSCR = some (L, xs)) (hL : L ≤ 3072) {i : Nat} (hi : i + 6 ≤ L) {m : Nat → Nat → Int32} {ml : Nat → Nat → Int64} {mr : Nat → Nat → Option Nat} (hI : INV m mr) {Q : Option Value → aM → Prop} (hk : (∀ m2 w2 mr2, INV m2 mr2 → aWP (aEx (aTb W) 90) (cd_L_law W) (870, [some (.ref aSCR), some (.ref 0), some (.ref 84), some (.int (nI i))], [], (HD, m2, w2, mr2)) Q)) : aWP (aEx (aTb W) 90) (cd_L_law W) (174, [some (.ref aSCR), some (.ref 0), some (.ref 84), some (.int (nI i))], [], (HD, m, ml, mr)) Q := by
  refine wp_steps 5 (t' := (179, [some (.ref aSCR), some (.ref 0), some (.ref 84), some (.int (nI i))], [.int ((nI i) + 1), .ref aSCR, .ref 0], (HD, m, ml, mr))) rfl ?_
  refine wp_ial_x rfl hX (lx_c (i := i) (c := 1) (by omega) hL rfl) ?_
  refine wp_calv (as := [.int (xs ((nI i) + 1).toNatClampNeg)]) rfl rfl rfl (Nat.le_of_ble_eq_true rfl) ⟨by decide, rfl⟩ ((p_force m ml mr hI)) (by decide) ?_
  rintro _ _ ⟨_, m1, w1, mr1, ⟨x0, rfl⟩, rfl, rfl, k2⟩
  show aWP _ _ (181, [some (.ref aSCR), some (.ref 0), some (.ref 84), some (.int (nI i))], [.int x0], (HD, m1, w1, mr1)) _
  refine wp_steps 5 (t' := (186, [some (.ref aSCR), some (.ref 0), some (.ref 84), some (.int (nI i))], [.int ((nI i) + 1), .ref aSCR, .ref 84, .int x0], (HD, m1, w1, mr1))) rfl ?_
  refine wp_ial_x rfl hX (lx_c (i := i) (c := 1) (by omega) hL rfl) ?_
  refine wp_calv (as := [.int (xs ((nI i) + 1).toNatClampNeg)]) rfl rfl rfl (Nat.le_of_ble_eq_true rfl) ⟨by decide, rfl⟩ (k2) (by decide) ?_
  rintro _ _ ⟨rfl, m2, w2, rfl, hI2⟩
  show aWP _ _ (188, [some (.ref aSCR), some (.ref 0), some (.ref 84), some (.int (nI i))], [.int x0, .int x0], (HD, m2, w2, mr1)) _
  refine wp_bC rfl (fun c_1 => ?_) (fun c_1 => ?_)
  rotate_left
  · have c_1 : ¬ (x0 = x0) := of_decide_eq_false c_1
    exact absurd rfl c_1
  have c_1 : x0 = x0 := of_decide_eq_true c_1
  exact hk m2 w2 mr1 hI2
set_option maxRecDepth 20000 in
set_option maxHeartbeats 1000000 in
theorem lw_drive {W : aXt × Value} {L : Nat} {xs : Nat → Int32} (hX : W.1 aSCR = some (L, xs)) (hL : L ≤ 3072) {i : Nat} (hi : i + 6 ≤ L) {m : Nat → Nat → Int32} {ml : Nat → Nat → Int64} {mr : Nat → Nat → Option Nat} (hI : INV m mr) {Q : Option Value → aM → Prop} (hk : (∀ m2 w2 mr2, INV m2 mr2 → aWP (aEx (aTb W) 90) (cd_L_law W) (870, [some (.ref aSCR), some (.ref 0), some (.ref 84), some (.int (nI i))], [], (HD, m2, w2, mr2)) Q)) : aWP (aEx (aTb W) 90) (cd_L_law W) (191, [some (.ref aSCR), some (.ref 0), some (.ref 84), some (.int (nI i))], [], (HD, m, ml, mr)) Q := by
  refine wp_steps 5 (t' := (196, [some (.ref aSCR), some (.ref 0), some (.ref 84), some (.int (nI i))], [.int ((nI i) + 1), .ref aSCR, .ref 0], (HD, m, ml, mr))) rfl ?_
  refine wp_ial_x rfl hX (lx_c (i := i) (c := 1) (by omega) hL rfl) ?_
  refine wp_steps 4 (t' := (201, [some (.ref aSCR), some (.ref 0), some (.ref 84), some (.int (nI i))], [.int ((nI i) + 2), .ref aSCR, .int (xs ((nI i) + 1).toNatClampNeg), .ref 0], (HD, m, ml, mr))) rfl ?_
  refine wp_ial_x rfl hX (lx_c (i := i) (c := 2) (by omega) hL rfl) ?_
  refine wp_steps 4 (t' := (206, [some (.ref aSCR), some (.ref 0), some (.ref 84), some (.int (nI i))], [.int ((nI i) + 3), .ref aSCR, .int (xs ((nI i) + 2).toNatClampNeg), .int (xs ((nI i) + 1).toNatClampNeg), .ref 0], (HD, m, ml, mr))) rfl ?_
  refine wp_ial_x rfl hX (lx_c (i := i) (c := 3) (by omega) hL rfl) ?_
  refine wp_calv (as := [.int (xs ((nI i) + 1).toNatClampNeg), .int (xs ((nI i) + 2).toNatClampNeg), .int (xs ((nI i) + 3).toNatClampNeg)]) rfl rfl rfl (Nat.le_of_ble_eq_true rfl) ⟨by decide, rfl⟩ ((p_drive m ml mr hI)) (by decide) ?_
  rintro _ _ ⟨_, m1, w1, mr1, ⟨x0, rfl⟩, rfl, rfl, k2⟩
  show aWP _ _ (208, [some (.ref aSCR), some (.ref 0), some (.ref 84), some (.int (nI i))], [.int x0], (HD, m1, w1, mr1)) _
  refine wp_steps 5 (t' := (213, [some (.ref aSCR), some (.ref 0), some (.ref 84), some (.int (nI i))], [.int ((nI i) + 1), .ref aSCR, .ref 84, .int x0], (HD, m1, w1, mr1))) rfl ?_
  refine wp_ial_x rfl hX (lx_c (i := i) (c := 1) (by omega) hL rfl) ?_
  refine wp_steps 4 (t' := (218, [some (.ref aSCR), some (.ref 0), some (.ref 84), some (.int (nI i))], [.int ((nI i) + 2), .ref aSCR, .int (xs ((nI i) + 1).toNatClampNeg), .ref 84, .int x0], (HD, m1, w1, mr1))) rfl ?_
  refine wp_ial_x rfl hX (lx_c (i := i) (c := 2) (by omega) hL rfl) ?_
  refine wp_steps 4 (t' := (223, [some (.ref aSCR), some (.ref 0), some (.ref 84), some (.int (nI i))], [.int ((nI i) + 3), .ref aSCR, .int (xs ((nI i) + 2).toNatClampNeg), .int (xs ((nI i) + 1).toNatClampNeg), .ref 84, .int x0], (HD, m1, w1, mr1))) rfl ?_
  refine wp_ial_x rfl hX (lx_c (i := i) (c := 3) (by omega) hL rfl) ?_
  refine wp_calv (as := [.int (xs ((nI i) + 1).toNatClampNeg), .int (xs ((nI i) + 2).toNatClampNeg), .int (xs ((nI i) + 3).toNatClampNeg)]) rfl rfl rfl (Nat.le_of_ble_eq_true rfl) ⟨by decide, rfl⟩ (k2) (by decide) ?_
  rintro _ _ ⟨rfl, m2, w2, rfl, hI2⟩
  show aWP _ _ (225, [some (.ref aSCR), some (.ref 0), some (.ref 84), some (.int (nI i))], [.int x0, .int x0], (HD, m2, w2, mr1)) _
  refine wp_bC rfl (fun c_1 => ?_) (fun c_1 => ?_)
  rotate_left
  · have c_1 : ¬ (x0 = x0) := of_decide_eq_false c_1
    exact absurd rfl c_1
  have c_1 : x0 = x0 := of_decide_eq_true c_1
  exact hk m2 w2 mr1 hI2
set_option maxRecDepth 20000 in
set_option maxHeartbeats 1000000 in
theorem lw_night {W : aXt × Value} {L : Nat} {xs : Nat → Int32} (hX : W.1 aSCR = some (L, xs)) (hL : L ≤ 3072) {i : Nat} (hi : i + 6 ≤ L) {m : Nat → Nat → Int32} {ml : Nat → Nat → Int64} {mr : Nat → Nat → Option Nat} (hI : INV m mr) {Q : Option Value → aM → Prop} (hk : (∀ m2 w2 mr2, INV m2 mr2 → aWP (aEx (aTb W) 90) (cd_L_law W) (870, [some (.ref aSCR), some (.ref 0), some (.ref 84), some (.int (nI i))], [], (HD, m2, w2, mr2)) Q)) : aWP (aEx (aTb W) 90) (cd_L_law W) (228, [some (.ref aSCR), some (.ref 0), some (.ref 84), some (.int (nI i))], [], (HD, m, ml, mr)) Q := by
  refine wp_steps 1 (t' := (229, [some (.ref aSCR), some (.ref 0), some (.ref 84), some (.int (nI i))], [.ref 0], (HD, m, ml, mr))) rfl ?_
  refine wp_calv (as := []) rfl rfl rfl (Nat.le_of_ble_eq_true rfl) ⟨by decide, rfl⟩ ((p_night m ml mr hI)) (by decide) ?_
  rintro _ _ ⟨_, m1, w1, mr1, ⟨x0, rfl⟩, rfl, rfl, k2⟩
  show aWP _ _ (230, [some (.ref aSCR), some (.ref 0), some (.ref 84), some (.int (nI i))], [.int x0], (HD, m1, w1, mr1)) _
  refine wp_steps 1 (t' := (231, [some (.ref aSCR), some (.ref 0), some (.ref 84), some (.int (nI i))], [.ref 84, .int x0], (HD, m1, w1, mr1))) rfl ?_
  refine wp_calv (as := []) rfl rfl rfl (Nat.le_of_ble_eq_true rfl) ⟨by decide, rfl⟩ (k2) (by decide) ?_
  rintro _ _ ⟨rfl, m2, w2, rfl, hI2⟩
  show aWP _ _ (232, [some (.ref aSCR), some (.ref 0), some (.ref 84), some (.int (nI i))], [.int x0, .int x0], (HD, m2, w2, mr1)) _
  refine wp_bC rfl (fun c_1 => ?_) (fun c_1 => ?_)
  rotate_left
  · have c_1 : ¬ (x0 = x0) := of_decide_eq_false c_1
    exact absurd rfl c_1
  have c_1 : x0 = x0 := of_decide_eq_true c_1
  exact hk m2 w2 mr1 hI2
set_option maxRecDepth 20000 in
set_option maxHeartbeats 1000000 in
theorem lw_best {W : aXt × Value} {L : Nat} {xs : Nat → Int32} (hX : W.1 aSCR = some (L, xs)) (hL : L ≤ 3072) {i : Nat} (hi : i + 6 ≤ L) {m : Nat → Nat → Int32} {ml : Nat → Nat → Int64} {mr : Nat → Nat → Option Nat} (hI : INV m mr) {Q : Option Value → aM → Prop} (hk : (∀ m2 w2 mr2, INV m2 mr2 → aWP (aEx (aTb W) 90) (cd_L_law W) (870, [some (.ref aSCR), some (.ref 0), some (.ref 84), some (.int (nI i))], [], (HD, m2, w2, mr2)) Q)) : aWP (aEx (aTb W) 90) (cd_L_law W) (235, [some (.ref aSCR), some (.ref 0), some (.ref 84), some (.int (nI i))], [], (HD, m, ml, mr)) Q := by
  refine wp_steps 5 (t' := (240, [some (.ref aSCR), some (.ref 0), some (.ref 84), some (.int (nI i))], [.int ((nI i) + 1), .ref aSCR, .ref 0], (HD, m, ml, mr))) rfl ?_
  refine wp_ial_x rfl hX (lx_c (i := i) (c := 1) (by omega) hL rfl) ?_
  refine wp_steps 4 (t' := (245, [some (.ref aSCR), some (.ref 0), some (.ref 84), some (.int (nI i))], [.int ((nI i) + 2), .ref aSCR, .int (xs ((nI i) + 1).toNatClampNeg), .ref 0], (HD, m, ml, mr))) rfl ?_
  refine wp_ial_x rfl hX (lx_c (i := i) (c := 2) (by omega) hL rfl) ?_
  refine wp_calv (as := [.int (xs ((nI i) + 1).toNatClampNeg), .int (xs ((nI i) + 2).toNatClampNeg)]) rfl rfl rfl (Nat.le_of_ble_eq_true rfl) ⟨by decide, rfl⟩ ((p_best m ml mr hI)) (by decide) ?_
  rintro _ _ ⟨_, m1, w1, mr1, ⟨x0, rfl⟩, rfl, rfl, k2⟩
  show aWP _ _ (247, [some (.ref aSCR), some (.ref 0), some (.ref 84), some (.int (nI i))], [.int x0], (HD, m1, w1, mr1)) _
  refine wp_steps 5 (t' := (252, [some (.ref aSCR), some (.ref 0), some (.ref 84), some (.int (nI i))], [.int ((nI i) + 1), .ref aSCR, .ref 84, .int x0], (HD, m1, w1, mr1))) rfl ?_
  refine wp_ial_x rfl hX (lx_c (i := i) (c := 1) (by omega) hL rfl) ?_
  refine wp_steps 4 (t' := (257, [some (.ref aSCR), some (.ref 0), some (.ref 84), some (.int (nI i))], [.int ((nI i) + 2), .ref aSCR, .int (xs ((nI i) + 1).toNatClampNeg), .ref 84, .int x0], (HD, m1, w1, mr1))) rfl ?_
  refine wp_ial_x rfl hX (lx_c (i := i) (c := 2) (by omega) hL rfl) ?_
  refine wp_calv (as := [.int (xs ((nI i) + 1).toNatClampNeg), .int (xs ((nI i) + 2).toNatClampNeg)]) rfl rfl rfl (Nat.le_of_ble_eq_true rfl) ⟨by decide, rfl⟩ (k2) (by decide) ?_
  rintro _ _ ⟨rfl, m2, w2, rfl, hI2⟩
  show aWP _ _ (259, [some (.ref aSCR), some (.ref 0), some (.ref 84), some (.int (nI i))], [.int x0, .int x0], (HD, m2, w2, mr1)) _
  refine wp_bC rfl (fun c_1 => ?_) (fun c_1 => ?_)
  rotate_left
  · have c_1 : ¬ (x0 = x0) := of_decide_eq_false c_1
    exact absurd rfl c_1
  have c_1 : x0 = x0 := of_decide_eq_true c_1
  exact hk m2 w2 mr1 hI2
set_option maxRecDepth 20000 in
set_option maxHeartbeats 1000000 in
theorem lw_hours {W : aXt × Value} {L : Nat} {xs : Nat → Int32} (hX : W.1 aSCR = some (L, xs)) (hL : L ≤ 3072) {i : Nat} (hi : i + 6 ≤ L) {m : Nat → Nat → Int32} {ml : Nat → Nat → Int64} {mr : Nat → Nat → Option Nat} (hI : INV m mr) {Q : Option Value → aM → Prop} (hk : (∀ m2 w2 mr2, INV m2 mr2 → aWP (aEx (aTb W) 90) (cd_L_law W) (870, [some (.ref aSCR), some (.ref 0), some (.ref 84), some (.int (nI i))], [], (HD, m2, w2, mr2)) Q)) : aWP (aEx (aTb W) 90) (cd_L_law W) (262, [some (.ref aSCR), some (.ref 0), some (.ref 84), some (.int (nI i))], [], (HD, m, ml, mr)) Q := by
  refine wp_steps 5 (t' := (267, [some (.ref aSCR), some (.ref 0), some (.ref 84), some (.int (nI i))], [.int ((nI i) + 1), .ref aSCR, .ref 0], (HD, m, ml, mr))) rfl ?_
  refine wp_ial_x rfl hX (lx_c (i := i) (c := 1) (by omega) hL rfl) ?_
  refine wp_steps 4 (t' := (272, [some (.ref aSCR), some (.ref 0), some (.ref 84), some (.int (nI i))], [.int ((nI i) + 2), .ref aSCR, .int (xs ((nI i) + 1).toNatClampNeg), .ref 0], (HD, m, ml, mr))) rfl ?_
  refine wp_ial_x rfl hX (lx_c (i := i) (c := 2) (by omega) hL rfl) ?_
  refine wp_steps 4 (t' := (277, [some (.ref aSCR), some (.ref 0), some (.ref 84), some (.int (nI i))], [.int ((nI i) + 3), .ref aSCR, .int (xs ((nI i) + 2).toNatClampNeg), .int (xs ((nI i) + 1).toNatClampNeg), .ref 0], (HD, m, ml, mr))) rfl ?_
  refine wp_ial_x rfl hX (lx_c (i := i) (c := 3) (by omega) hL rfl) ?_
  refine wp_steps 4 (t' := (282, [some (.ref aSCR), some (.ref 0), some (.ref 84), some (.int (nI i))], [.int ((nI i) + 4), .ref aSCR, .int (xs ((nI i) + 3).toNatClampNeg), .int (xs ((nI i) + 2).toNatClampNeg), .int (xs ((nI i) + 1).toNatClampNeg), .ref 0], (HD, m, ml, mr))) rfl ?_
  refine wp_ial_x rfl hX (lx_c (i := i) (c := 4) (by omega) hL rfl) ?_
  refine wp_calv (as := [.int (xs ((nI i) + 1).toNatClampNeg), .int (xs ((nI i) + 2).toNatClampNeg), .int (xs ((nI i) + 3).toNatClampNeg), .int (xs ((nI i) + 4).toNatClampNeg)]) rfl rfl rfl (Nat.le_of_ble_eq_true rfl) ⟨by decide, rfl⟩ ((p_hours m ml mr hI)) (by decide) ?_
  rintro _ _ ⟨_, m1, w1, mr1, ⟨x0, rfl⟩, rfl, rfl, k2⟩
  show aWP _ _ (284, [some (.ref aSCR), some (.ref 0), some (.ref 84), some (.int (nI i))], [.int x0], (HD, m1, w1, mr1)) _
  refine wp_steps 5 (t' := (289, [some (.ref aSCR), some (.ref 0), some (.ref 84), some (.int (nI i))], [.int ((nI i) + 1), .ref aSCR, .ref 84, .int x0], (HD, m1, w1, mr1))) rfl ?_
  refine wp_ial_x rfl hX (lx_c (i := i) (c := 1) (by omega) hL rfl) ?_
  refine wp_steps 4 (t' := (294, [some (.ref aSCR), some (.ref 0), some (.ref 84), some (.int (nI i))], [.int ((nI i) + 2), .ref aSCR, .int (xs ((nI i) + 1).toNatClampNeg), .ref 84, .int x0], (HD, m1, w1, mr1))) rfl ?_
  refine wp_ial_x rfl hX (lx_c (i := i) (c := 2) (by omega) hL rfl) ?_
  refine wp_steps 4 (t' := (299, [some (.ref aSCR), some (.ref 0), some (.ref 84), some (.int (nI i))], [.int ((nI i) + 3), .ref aSCR, .int (xs ((nI i) + 2).toNatClampNeg), .int (xs ((nI i) + 1).toNatClampNeg), .ref 84, .int x0], (HD, m1, w1, mr1))) rfl ?_
  refine wp_ial_x rfl hX (lx_c (i := i) (c := 3) (by omega) hL rfl) ?_
  refine wp_steps 4 (t' := (304, [some (.ref aSCR), some (.ref 0), some (.ref 84), some (.int (nI i))], [.int ((nI i) + 4), .ref aSCR, .int (xs ((nI i) + 3).toNatClampNeg), .int (xs ((nI i) + 2).toNatClampNeg), .int (xs ((nI i) + 1).toNatClampNeg), .ref 84, .int x0], (HD, m1, w1, mr1))) rfl ?_
  refine wp_ial_x rfl hX (lx_c (i := i) (c := 4) (by omega) hL rfl) ?_
  refine wp_calv (as := [.int (xs ((nI i) + 1).toNatClampNeg), .int (xs ((nI i) + 2).toNatClampNeg), .int (xs ((nI i) + 3).toNatClampNeg), .int (xs ((nI i) + 4).toNatClampNeg)]) rfl rfl rfl (Nat.le_of_ble_eq_true rfl) ⟨by decide, rfl⟩ (k2) (by decide) ?_
  rintro _ _ ⟨rfl, m2, w2, rfl, hI2⟩
  show aWP _ _ (306, [some (.ref aSCR), some (.ref 0), some (.ref 84), some (.int (nI i))], [.int x0, .int x0], (HD, m2, w2, mr1)) _
  refine wp_bC rfl (fun c_1 => ?_) (fun c_1 => ?_)
  rotate_left
  · have c_1 : ¬ (x0 = x0) := of_decide_eq_false c_1
    exact absurd rfl c_1
  have c_1 : x0 = x0 := of_decide_eq_true c_1
  exact hk m2 w2 mr1 hI2
set_option maxRecDepth 20000 in
set_option maxHeartbeats 1000000 in
theorem lw_takes {W : aXt × Value} {L : Nat} {xs : Nat → Int32} (hX : W.1 aSCR = some (L, xs)) (hL : L ≤ 3072) {i : Nat} (hi : i + 6 ≤ L) {m : Nat → Nat → Int32} {ml : Nat → Nat → Int64} {mr : Nat → Nat → Option Nat} (hI : INV m mr) {Q : Option Value → aM → Prop} (hk : (∀ m2 w2 mr2, INV m2 mr2 → aWP (aEx (aTb W) 90) (cd_L_law W) (870, [some (.ref aSCR), some (.ref 0), some (.ref 84), some (.int (nI i))], [], (HD, m2, w2, mr2)) Q)) : aWP (aEx (aTb W) 90) (cd_L_law W) (309, [some (.ref aSCR), some (.ref 0), some (.ref 84), some (.int (nI i))], [], (HD, m, ml, mr)) Q := by
  refine wp_steps 5 (t' := (314, [some (.ref aSCR), some (.ref 0), some (.ref 84), some (.int (nI i))], [.int ((nI i) + 1), .ref aSCR, .ref 0], (HD, m, ml, mr))) rfl ?_
  refine wp_ial_x rfl hX (lx_c (i := i) (c := 1) (by omega) hL rfl) ?_
  refine wp_steps 4 (t' := (319, [some (.ref aSCR), some (.ref 0), some (.ref 84), some (.int (nI i))], [.int ((nI i) + 2), .ref aSCR, .int (xs ((nI i) + 1).toNatClampNeg), .ref 0], (HD, m, ml, mr))) rfl ?_
  refine wp_ial_x rfl hX (lx_c (i := i) (c := 2) (by omega) hL rfl) ?_
  refine wp_steps 4 (t' := (324, [some (.ref aSCR), some (.ref 0), some (.ref 84), some (.int (nI i))], [.int ((nI i) + 3), .ref aSCR, .int (xs ((nI i) + 2).toNatClampNeg), .int (xs ((nI i) + 1).toNatClampNeg), .ref 0], (HD, m, ml, mr))) rfl ?_
  refine wp_ial_x rfl hX (lx_c (i := i) (c := 3) (by omega) hL rfl) ?_
  refine wp_calv (as := [.int (xs ((nI i) + 1).toNatClampNeg), .int (xs ((nI i) + 2).toNatClampNeg), .int (xs ((nI i) + 3).toNatClampNeg)]) rfl rfl rfl (Nat.le_of_ble_eq_true rfl) ⟨by decide, rfl⟩ ((p_takes m ml mr hI)) (by decide) ?_
  rintro _ _ ⟨_, m1, w1, mr1, ⟨x0, rfl⟩, rfl, rfl, k2⟩
  show aWP _ _ (326, [some (.ref aSCR), some (.ref 0), some (.ref 84), some (.int (nI i))], [.int x0], (HD, m1, w1, mr1)) _
  refine wp_steps 5 (t' := (331, [some (.ref aSCR), some (.ref 0), some (.ref 84), some (.int (nI i))], [.int ((nI i) + 1), .ref aSCR, .ref 84, .int x0], (HD, m1, w1, mr1))) rfl ?_
  refine wp_ial_x rfl hX (lx_c (i := i) (c := 1) (by omega) hL rfl) ?_
  refine wp_steps 4 (t' := (336, [some (.ref aSCR), some (.ref 0), some (.ref 84), some (.int (nI i))], [.int ((nI i) + 2), .ref aSCR, .int (xs ((nI i) + 1).toNatClampNeg), .ref 84, .int x0], (HD, m1, w1, mr1))) rfl ?_
  refine wp_ial_x rfl hX (lx_c (i := i) (c := 2) (by omega) hL rfl) ?_
  refine wp_steps 4 (t' := (341, [some (.ref aSCR), some (.ref 0), some (.ref 84), some (.int (nI i))], [.int ((nI i) + 3), .ref aSCR, .int (xs ((nI i) + 2).toNatClampNeg), .int (xs ((nI i) + 1).toNatClampNeg), .ref 84, .int x0], (HD, m1, w1, mr1))) rfl ?_
  refine wp_ial_x rfl hX (lx_c (i := i) (c := 3) (by omega) hL rfl) ?_
  refine wp_calv (as := [.int (xs ((nI i) + 1).toNatClampNeg), .int (xs ((nI i) + 2).toNatClampNeg), .int (xs ((nI i) + 3).toNatClampNeg)]) rfl rfl rfl (Nat.le_of_ble_eq_true rfl) ⟨by decide, rfl⟩ (k2) (by decide) ?_
  rintro _ _ ⟨rfl, m2, w2, rfl, hI2⟩
  show aWP _ _ (343, [some (.ref aSCR), some (.ref 0), some (.ref 84), some (.int (nI i))], [.int x0, .int x0], (HD, m2, w2, mr1)) _
  refine wp_bC rfl (fun c_1 => ?_) (fun c_1 => ?_)
  rotate_left
  · have c_1 : ¬ (x0 = x0) := of_decide_eq_false c_1
    exact absurd rfl c_1
  have c_1 : x0 = x0 := of_decide_eq_true c_1
  exact hk m2 w2 mr1 hI2
set_option maxRecDepth 20000 in
set_option maxHeartbeats 1000000 in
theorem lw_late {W : aXt × Value} {L : Nat} {xs : Nat → Int32} (hX : W.1 aSCR = some (L, xs)) (hL : L ≤ 3072) {i : Nat} (hi : i + 6 ≤ L) {m : Nat → Nat → Int32} {ml : Nat → Nat → Int64} {mr : Nat → Nat → Option Nat} (hI : INV m mr) {Q : Option Value → aM → Prop} (hk : (∀ m2 w2 mr2, INV m2 mr2 → aWP (aEx (aTb W) 90) (cd_L_law W) (870, [some (.ref aSCR), some (.ref 0), some (.ref 84), some (.int (nI i))], [], (HD, m2, w2, mr2)) Q)) : aWP (aEx (aTb W) 90) (cd_L_law W) (346, [some (.ref aSCR), some (.ref 0), some (.ref 84), some (.int (nI i))], [], (HD, m, ml, mr)) Q := by
  refine wp_steps 5 (t' := (351, [some (.ref aSCR), some (.ref 0), some (.ref 84), some (.int (nI i))], [.int ((nI i) + 1), .ref aSCR, .ref 0], (HD, m, ml, mr))) rfl ?_
  refine wp_ial_x rfl hX (lx_c (i := i) (c := 1) (by omega) hL rfl) ?_
  refine wp_steps 4 (t' := (356, [some (.ref aSCR), some (.ref 0), some (.ref 84), some (.int (nI i))], [.int ((nI i) + 2), .ref aSCR, .int (xs ((nI i) + 1).toNatClampNeg), .ref 0], (HD, m, ml, mr))) rfl ?_
  refine wp_ial_x rfl hX (lx_c (i := i) (c := 2) (by omega) hL rfl) ?_
  refine wp_calv (as := [.int (xs ((nI i) + 1).toNatClampNeg), .int (xs ((nI i) + 2).toNatClampNeg)]) rfl rfl rfl (Nat.le_of_ble_eq_true rfl) ⟨by decide, rfl⟩ ((p_late m ml mr hI)) (by decide) ?_
  rintro _ _ ⟨_, m1, w1, mr1, ⟨x0, rfl⟩, rfl, rfl, k2⟩
  show aWP _ _ (358, [some (.ref aSCR), some (.ref 0), some (.ref 84), some (.int (nI i))], [.int x0], (HD, m1, w1, mr1)) _
  refine wp_steps 5 (t' := (363, [some (.ref aSCR), some (.ref 0), some (.ref 84), some (.int (nI i))], [.int ((nI i) + 1), .ref aSCR, .ref 84, .int x0], (HD, m1, w1, mr1))) rfl ?_
  refine wp_ial_x rfl hX (lx_c (i := i) (c := 1) (by omega) hL rfl) ?_
  refine wp_steps 4 (t' := (368, [some (.ref aSCR), some (.ref 0), some (.ref 84), some (.int (nI i))], [.int ((nI i) + 2), .ref aSCR, .int (xs ((nI i) + 1).toNatClampNeg), .ref 84, .int x0], (HD, m1, w1, mr1))) rfl ?_
  refine wp_ial_x rfl hX (lx_c (i := i) (c := 2) (by omega) hL rfl) ?_
  refine wp_calv (as := [.int (xs ((nI i) + 1).toNatClampNeg), .int (xs ((nI i) + 2).toNatClampNeg)]) rfl rfl rfl (Nat.le_of_ble_eq_true rfl) ⟨by decide, rfl⟩ (k2) (by decide) ?_
  rintro _ _ ⟨rfl, m2, w2, rfl, hI2⟩
  show aWP _ _ (370, [some (.ref aSCR), some (.ref 0), some (.ref 84), some (.int (nI i))], [.int x0, .int x0], (HD, m2, w2, mr1)) _
  refine wp_bC rfl (fun c_1 => ?_) (fun c_1 => ?_)
  rotate_left
  · have c_1 : ¬ (x0 = x0) := of_decide_eq_false c_1
    exact absurd rfl c_1
  have c_1 : x0 = x0 := of_decide_eq_true c_1
  exact hk m2 w2 mr1 hI2
set_option maxRecDepth 20000 in
set_option maxHeartbeats 1000000 in
theorem lw_gap {W : aXt × Value} {L : Nat} {xs : Nat → Int32} (hX : W.1 aSCR = some (L, xs)) (hL : L ≤ 3072) {i : Nat} (hi : i + 6 ≤ L) {m : Nat → Nat → Int32} {ml : Nat → Nat → Int64} {mr : Nat → Nat → Option Nat} (hI : INV m mr) {Q : Option Value → aM → Prop} (hk : (∀ m2 w2 mr2, INV m2 mr2 → aWP (aEx (aTb W) 90) (cd_L_law W) (870, [some (.ref aSCR), some (.ref 0), some (.ref 84), some (.int (nI i))], [], (HD, m2, w2, mr2)) Q)) : aWP (aEx (aTb W) 90) (cd_L_law W) (373, [some (.ref aSCR), some (.ref 0), some (.ref 84), some (.int (nI i))], [], (HD, m, ml, mr)) Q := by
  refine wp_steps 5 (t' := (378, [some (.ref aSCR), some (.ref 0), some (.ref 84), some (.int (nI i))], [.int ((nI i) + 1), .ref aSCR, .ref 0], (HD, m, ml, mr))) rfl ?_
  refine wp_ial_x rfl hX (lx_c (i := i) (c := 1) (by omega) hL rfl) ?_
  refine wp_steps 4 (t' := (383, [some (.ref aSCR), some (.ref 0), some (.ref 84), some (.int (nI i))], [.int ((nI i) + 2), .ref aSCR, .int (xs ((nI i) + 1).toNatClampNeg), .ref 0], (HD, m, ml, mr))) rfl ?_
  refine wp_ial_x rfl hX (lx_c (i := i) (c := 2) (by omega) hL rfl) ?_
  refine wp_calv (as := [.int (xs ((nI i) + 1).toNatClampNeg), .int (xs ((nI i) + 2).toNatClampNeg)]) rfl rfl rfl (Nat.le_of_ble_eq_true rfl) ⟨by decide, rfl⟩ ((p_gap m ml mr hI)) (by decide) ?_
  rintro _ _ ⟨_, m1, w1, mr1, ⟨x0, rfl⟩, rfl, rfl, k2⟩
  show aWP _ _ (385, [some (.ref aSCR), some (.ref 0), some (.ref 84), some (.int (nI i))], [.int x0], (HD, m1, w1, mr1)) _
  refine wp_steps 5 (t' := (390, [some (.ref aSCR), some (.ref 0), some (.ref 84), some (.int (nI i))], [.int ((nI i) + 1), .ref aSCR, .ref 84, .int x0], (HD, m1, w1, mr1))) rfl ?_
  refine wp_ial_x rfl hX (lx_c (i := i) (c := 1) (by omega) hL rfl) ?_
  refine wp_steps 4 (t' := (395, [some (.ref aSCR), some (.ref 0), some (.ref 84), some (.int (nI i))], [.int ((nI i) + 2), .ref aSCR, .int (xs ((nI i) + 1).toNatClampNeg), .ref 84, .int x0], (HD, m1, w1, mr1))) rfl ?_
  refine wp_ial_x rfl hX (lx_c (i := i) (c := 2) (by omega) hL rfl) ?_
  refine wp_calv (as := [.int (xs ((nI i) + 1).toNatClampNeg), .int (xs ((nI i) + 2).toNatClampNeg)]) rfl rfl rfl (Nat.le_of_ble_eq_true rfl) ⟨by decide, rfl⟩ (k2) (by decide) ?_
  rintro _ _ ⟨rfl, m2, w2, rfl, hI2⟩
  show aWP _ _ (397, [some (.ref aSCR), some (.ref 0), some (.ref 84), some (.int (nI i))], [.int x0, .int x0], (HD, m2, w2, mr1)) _
  refine wp_bC rfl (fun c_1 => ?_) (fun c_1 => ?_)
  rotate_left
  · have c_1 : ¬ (x0 = x0) := of_decide_eq_false c_1
    exact absurd rfl c_1
  have c_1 : x0 = x0 := of_decide_eq_true c_1
  exact hk m2 w2 mr1 hI2
set_option maxRecDepth 20000 in
set_option maxHeartbeats 1000000 in
theorem lw_faded {W : aXt × Value} {L : Nat} {xs : Nat → Int32} (hX : W.1 aSCR = some (L, xs)) (hL : L ≤ 3072) {i : Nat} (hi : i + 6 ≤ L) {m : Nat → Nat → Int32} {ml : Nat → Nat → Int64} {mr : Nat → Nat → Option Nat} (hI : INV m mr) {Q : Option Value → aM → Prop} (hk : (∀ m2 w2 mr2, INV m2 mr2 → aWP (aEx (aTb W) 90) (cd_L_law W) (870, [some (.ref aSCR), some (.ref 0), some (.ref 84), some (.int (nI i))], [], (HD, m2, w2, mr2)) Q)) : aWP (aEx (aTb W) 90) (cd_L_law W) (400, [some (.ref aSCR), some (.ref 0), some (.ref 84), some (.int (nI i))], [], (HD, m, ml, mr)) Q := by
  refine wp_steps 5 (t' := (405, [some (.ref aSCR), some (.ref 0), some (.ref 84), some (.int (nI i))], [.int ((nI i) + 1), .ref aSCR, .ref 0], (HD, m, ml, mr))) rfl ?_
  refine wp_ial_x rfl hX (lx_c (i := i) (c := 1) (by omega) hL rfl) ?_
  refine wp_steps 4 (t' := (410, [some (.ref aSCR), some (.ref 0), some (.ref 84), some (.int (nI i))], [.int ((nI i) + 2), .ref aSCR, .int (xs ((nI i) + 1).toNatClampNeg), .ref 0], (HD, m, ml, mr))) rfl ?_
  refine wp_ial_x rfl hX (lx_c (i := i) (c := 2) (by omega) hL rfl) ?_
  refine wp_calv (as := [.int (xs ((nI i) + 1).toNatClampNeg), .int (xs ((nI i) + 2).toNatClampNeg)]) rfl rfl rfl (Nat.le_of_ble_eq_true rfl) ⟨by decide, rfl⟩ ((p_faded m ml mr hI)) (by decide) ?_
  rintro _ _ ⟨_, m1, w1, mr1, ⟨x0, rfl⟩, rfl, rfl, k2⟩
  show aWP _ _ (412, [some (.ref aSCR), some (.ref 0), some (.ref 84), some (.int (nI i))], [.int x0], (HD, m1, w1, mr1)) _
  refine wp_steps 5 (t' := (417, [some (.ref aSCR), some (.ref 0), some (.ref 84), some (.int (nI i))], [.int ((nI i) + 1), .ref aSCR, .ref 84, .int x0], (HD, m1, w1, mr1))) rfl ?_
  refine wp_ial_x rfl hX (lx_c (i := i) (c := 1) (by omega) hL rfl) ?_
  refine wp_steps 4 (t' := (422, [some (.ref aSCR), some (.ref 0), some (.ref 84), some (.int (nI i))], [.int ((nI i) + 2), .ref aSCR, .int (xs ((nI i) + 1).toNatClampNeg), .ref 84, .int x0], (HD, m1, w1, mr1))) rfl ?_
  refine wp_ial_x rfl hX (lx_c (i := i) (c := 2) (by omega) hL rfl) ?_
  refine wp_calv (as := [.int (xs ((nI i) + 1).toNatClampNeg), .int (xs ((nI i) + 2).toNatClampNeg)]) rfl rfl rfl (Nat.le_of_ble_eq_true rfl) ⟨by decide, rfl⟩ (k2) (by decide) ?_
  rintro _ _ ⟨rfl, m2, w2, rfl, hI2⟩
  show aWP _ _ (424, [some (.ref aSCR), some (.ref 0), some (.ref 84), some (.int (nI i))], [.int x0, .int x0], (HD, m2, w2, mr1)) _
  refine wp_bC rfl (fun c_1 => ?_) (fun c_1 => ?_)
  rotate_left
  · have c_1 : ¬ (x0 = x0) := of_decide_eq_false c_1
    exact absurd rfl c_1
  have c_1 : x0 = x0 := of_decide_eq_true c_1
  exact hk m2 w2 mr1 hI2
set_option maxRecDepth 20000 in
set_option maxHeartbeats 1000000 in
theorem lw_test {W : aXt × Value} {L : Nat} {xs : Nat → Int32} (hX : W.1 aSCR = some (L, xs)) (hL : L ≤ 3072) {i : Nat} (hi : i + 6 ≤ L) {m : Nat → Nat → Int32} {ml : Nat → Nat → Int64} {mr : Nat → Nat → Option Nat} (hI : INV m mr) {Q : Option Value → aM → Prop} (hk : (∀ m2 w2 mr2, INV m2 mr2 → aWP (aEx (aTb W) 90) (cd_L_law W) (870, [some (.ref aSCR), some (.ref 0), some (.ref 84), some (.int (nI i))], [], (HD, m2, w2, mr2)) Q)) : aWP (aEx (aTb W) 90) (cd_L_law W) (427, [some (.ref aSCR), some (.ref 0), some (.ref 84), some (.int (nI i))], [], (HD, m, ml, mr)) Q := by
  refine wp_steps 5 (t' := (432, [some (.ref aSCR), some (.ref 0), some (.ref 84), some (.int (nI i))], [.int ((nI i) + 1), .ref aSCR, .ref 0], (HD, m, ml, mr))) rfl ?_
  refine wp_ial_x rfl hX (lx_c (i := i) (c := 1) (by omega) hL rfl) ?_
  refine wp_steps 4 (t' := (437, [some (.ref aSCR), some (.ref 0), some (.ref 84), some (.int (nI i))], [.int ((nI i) + 2), .ref aSCR, .int (xs ((nI i) + 1).toNatClampNeg), .ref 0], (HD, m, ml, mr))) rfl ?_
  refine wp_ial_x rfl hX (lx_c (i := i) (c := 2) (by omega) hL rfl) ?_
  refine wp_steps 4 (t' := (442, [some (.ref aSCR), some (.ref 0), some (.ref 84), some (.int (nI i))], [.int ((nI i) + 3), .ref aSCR, .int (xs ((nI i) + 2).toNatClampNeg), .int (xs ((nI i) + 1).toNatClampNeg), .ref 0], (HD, m, ml, mr))) rfl ?_
  refine wp_ial_x rfl hX (lx_c (i := i) (c := 3) (by omega) hL rfl) ?_
  refine wp_calv (as := [.int (xs ((nI i) + 1).toNatClampNeg), .int (xs ((nI i) + 2).toNatClampNeg), .int (xs ((nI i) + 3).toNatClampNeg)]) rfl rfl rfl (Nat.le_of_ble_eq_true rfl) ⟨by decide, rfl⟩ ((p_test m ml mr hI)) (by decide) ?_
  rintro _ _ ⟨_, m1, w1, mr1, ⟨x0, rfl⟩, rfl, rfl, k2⟩
  show aWP _ _ (444, [some (.ref aSCR), some (.ref 0), some (.ref 84), some (.int (nI i))], [.long x0], (HD, m1, w1, mr1)) _
  refine wp_steps 5 (t' := (449, [some (.ref aSCR), some (.ref 0), some (.ref 84), some (.int (nI i))], [.int ((nI i) + 1), .ref aSCR, .ref 84, .long x0], (HD, m1, w1, mr1))) rfl ?_
  refine wp_ial_x rfl hX (lx_c (i := i) (c := 1) (by omega) hL rfl) ?_
  refine wp_steps 4 (t' := (454, [some (.ref aSCR), some (.ref 0), some (.ref 84), some (.int (nI i))], [.int ((nI i) + 2), .ref aSCR, .int (xs ((nI i) + 1).toNatClampNeg), .ref 84, .long x0], (HD, m1, w1, mr1))) rfl ?_
  refine wp_ial_x rfl hX (lx_c (i := i) (c := 2) (by omega) hL rfl) ?_
  refine wp_steps 4 (t' := (459, [some (.ref aSCR), some (.ref 0), some (.ref 84), some (.int (nI i))], [.int ((nI i) + 3), .ref aSCR, .int (xs ((nI i) + 2).toNatClampNeg), .int (xs ((nI i) + 1).toNatClampNeg), .ref 84, .long x0], (HD, m1, w1, mr1))) rfl ?_
  refine wp_ial_x rfl hX (lx_c (i := i) (c := 3) (by omega) hL rfl) ?_
  refine wp_calv (as := [.int (xs ((nI i) + 1).toNatClampNeg), .int (xs ((nI i) + 2).toNatClampNeg), .int (xs ((nI i) + 3).toNatClampNeg)]) rfl rfl rfl (Nat.le_of_ble_eq_true rfl) ⟨by decide, rfl⟩ (k2) (by decide) ?_
  rintro _ _ ⟨rfl, m2, w2, rfl, hI2⟩
  show aWP _ _ (461, [some (.ref aSCR), some (.ref 0), some (.ref 84), some (.int (nI i))], [.long x0, .long x0], (HD, m2, w2, mr1)) _
  refine wp_steps 1 (t' := (462, [some (.ref aSCR), some (.ref 0), some (.ref 84), some (.int (nI i))], [.int (lg_cmp x0 x0)], (HD, m2, w2, mr1))) rfl ?_
  refine wp_bI rfl (fun c_1 => ?_) (fun c_1 => ?_)
  rotate_left
  · have c_1 : ¬ ((lg_cmp x0 x0) = 0) := of_decide_eq_false c_1
    exact absurd (lc_self x0) c_1
  have c_1 : (lg_cmp x0 x0) = 0 := of_decide_eq_true c_1
  exact hk m2 w2 mr1 hI2
set_option maxRecDepth 20000 in
set_option maxHeartbeats 1000000 in
theorem lw_tells {W : aXt × Value} {L : Nat} {xs : Nat → Int32} (hX : W.1 aSCR = some (L, xs)) (hL : L ≤ 3072) {i : Nat} (hi : i + 6 ≤ L) {m : Nat → Nat → Int32} {ml : Nat → Nat → Int64} {mr : Nat → Nat → Option Nat} (hI : INV m mr) {Q : Option Value → aM → Prop} (hk : (∀ m2 w2 mr2, INV m2 mr2 → aWP (aEx (aTb W) 90) (cd_L_law W) (870, [some (.ref aSCR), some (.ref 0), some (.ref 84), some (.int (nI i))], [], (HD, m2, w2, mr2)) Q)) : aWP (aEx (aTb W) 90) (cd_L_law W) (465, [some (.ref aSCR), some (.ref 0), some (.ref 84), some (.int (nI i))], [], (HD, m, ml, mr)) Q := by
  refine wp_steps 5 (t' := (470, [some (.ref aSCR), some (.ref 0), some (.ref 84), some (.int (nI i))], [.int ((nI i) + 1), .ref aSCR, .ref 0], (HD, m, ml, mr))) rfl ?_
  refine wp_ial_x rfl hX (lx_c (i := i) (c := 1) (by omega) hL rfl) ?_
  refine wp_steps 4 (t' := (475, [some (.ref aSCR), some (.ref 0), some (.ref 84), some (.int (nI i))], [.int ((nI i) + 2), .ref aSCR, .int (xs ((nI i) + 1).toNatClampNeg), .ref 0], (HD, m, ml, mr))) rfl ?_
  refine wp_ial_x rfl hX (lx_c (i := i) (c := 2) (by omega) hL rfl) ?_
  refine wp_steps 4 (t' := (480, [some (.ref aSCR), some (.ref 0), some (.ref 84), some (.int (nI i))], [.int ((nI i) + 3), .ref aSCR, .int (xs ((nI i) + 2).toNatClampNeg), .int (xs ((nI i) + 1).toNatClampNeg), .ref 0], (HD, m, ml, mr))) rfl ?_
  refine wp_ial_x rfl hX (lx_c (i := i) (c := 3) (by omega) hL rfl) ?_
  refine wp_steps 4 (t' := (485, [some (.ref aSCR), some (.ref 0), some (.ref 84), some (.int (nI i))], [.int ((nI i) + 4), .ref aSCR, .int (xs ((nI i) + 3).toNatClampNeg), .int (xs ((nI i) + 2).toNatClampNeg), .int (xs ((nI i) + 1).toNatClampNeg), .ref 0], (HD, m, ml, mr))) rfl ?_
  refine wp_ial_x rfl hX (lx_c (i := i) (c := 4) (by omega) hL rfl) ?_
  refine wp_calv (as := [.int (xs ((nI i) + 1).toNatClampNeg), .int (xs ((nI i) + 2).toNatClampNeg), .int (xs ((nI i) + 3).toNatClampNeg), .int (xs ((nI i) + 4).toNatClampNeg)]) rfl rfl rfl (Nat.le_of_ble_eq_true rfl) ⟨by decide, rfl⟩ ((p_tells m ml mr hI)) (by decide) ?_
  rintro _ _ ⟨_, m1, w1, mr1, ⟨x0, rfl⟩, rfl, rfl, k2⟩
  show aWP _ _ (487, [some (.ref aSCR), some (.ref 0), some (.ref 84), some (.int (nI i))], [.int x0], (HD, m1, w1, mr1)) _
  refine wp_steps 5 (t' := (492, [some (.ref aSCR), some (.ref 0), some (.ref 84), some (.int (nI i))], [.int ((nI i) + 1), .ref aSCR, .ref 84, .int x0], (HD, m1, w1, mr1))) rfl ?_
  refine wp_ial_x rfl hX (lx_c (i := i) (c := 1) (by omega) hL rfl) ?_
  refine wp_steps 4 (t' := (497, [some (.ref aSCR), some (.ref 0), some (.ref 84), some (.int (nI i))], [.int ((nI i) + 2), .ref aSCR, .int (xs ((nI i) + 1).toNatClampNeg), .ref 84, .int x0], (HD, m1, w1, mr1))) rfl ?_
  refine wp_ial_x rfl hX (lx_c (i := i) (c := 2) (by omega) hL rfl) ?_
  refine wp_steps 4 (t' := (502, [some (.ref aSCR), some (.ref 0), some (.ref 84), some (.int (nI i))], [.int ((nI i) + 3), .ref aSCR, .int (xs ((nI i) + 2).toNatClampNeg), .int (xs ((nI i) + 1).toNatClampNeg), .ref 84, .int x0], (HD, m1, w1, mr1))) rfl ?_
  refine wp_ial_x rfl hX (lx_c (i := i) (c := 3) (by omega) hL rfl) ?_
  refine wp_steps 4 (t' := (507, [some (.ref aSCR), some (.ref 0), some (.ref 84), some (.int (nI i))], [.int ((nI i) + 4), .ref aSCR, .int (xs ((nI i) + 3).toNatClampNeg), .int (xs ((nI i) + 2).toNatClampNeg), .int (xs ((nI i) + 1).toNatClampNeg), .ref 84, .int x0], (HD, m1, w1, mr1))) rfl ?_
  refine wp_ial_x rfl hX (lx_c (i := i) (c := 4) (by omega) hL rfl) ?_
  refine wp_calv (as := [.int (xs ((nI i) + 1).toNatClampNeg), .int (xs ((nI i) + 2).toNatClampNeg), .int (xs ((nI i) + 3).toNatClampNeg), .int (xs ((nI i) + 4).toNatClampNeg)]) rfl rfl rfl (Nat.le_of_ble_eq_true rfl) ⟨by decide, rfl⟩ (k2) (by decide) ?_
  rintro _ _ ⟨rfl, m2, w2, rfl, hI2⟩
  show aWP _ _ (509, [some (.ref aSCR), some (.ref 0), some (.ref 84), some (.int (nI i))], [.int x0, .int x0], (HD, m2, w2, mr1)) _
  refine wp_bC rfl (fun c_1 => ?_) (fun c_1 => ?_)
  rotate_left
  · have c_1 : ¬ (x0 = x0) := of_decide_eq_false c_1
    exact absurd rfl c_1
  have c_1 : x0 = x0 := of_decide_eq_true c_1
  exact hk m2 w2 mr1 hI2
set_option maxRecDepth 20000 in
set_option maxHeartbeats 1000000 in
theorem lw_film {W : aXt × Value} {L : Nat} {xs : Nat → Int32} (hX : W.1 aSCR = some (L, xs)) (hL : L ≤ 3072) {i : Nat} (hi : i + 6 ≤ L) {m : Nat → Nat → Int32} {ml : Nat → Nat → Int64} {mr : Nat → Nat → Option Nat} (hI : INV m mr) {Q : Option Value → aM → Prop} (hk : (∀ m2 w2 mr2, INV m2 mr2 → aWP (aEx (aTb W) 90) (cd_L_law W) (870, [some (.ref aSCR), some (.ref 0), some (.ref 84), some (.int (nI i))], [], (HD, m2, w2, mr2)) Q)) : aWP (aEx (aTb W) 90) (cd_L_law W) (512, [some (.ref aSCR), some (.ref 0), some (.ref 84), some (.int (nI i))], [], (HD, m, ml, mr)) Q := by
  refine wp_steps 5 (t' := (517, [some (.ref aSCR), some (.ref 0), some (.ref 84), some (.int (nI i))], [.int ((nI i) + 1), .ref aSCR, .ref 0], (HD, m, ml, mr))) rfl ?_
  refine wp_ial_x rfl hX (lx_c (i := i) (c := 1) (by omega) hL rfl) ?_
  refine wp_steps 4 (t' := (522, [some (.ref aSCR), some (.ref 0), some (.ref 84), some (.int (nI i))], [.int ((nI i) + 2), .ref aSCR, .int (xs ((nI i) + 1).toNatClampNeg), .ref 0], (HD, m, ml, mr))) rfl ?_
  refine wp_ial_x rfl hX (lx_c (i := i) (c := 2) (by omega) hL rfl) ?_
  refine wp_steps 4 (t' := (527, [some (.ref aSCR), some (.ref 0), some (.ref 84), some (.int (nI i))], [.int ((nI i) + 3), .ref aSCR, .int (xs ((nI i) + 2).toNatClampNeg), .int (xs ((nI i) + 1).toNatClampNeg), .ref 0], (HD, m, ml, mr))) rfl ?_
  refine wp_ial_x rfl hX (lx_c (i := i) (c := 3) (by omega) hL rfl) ?_
  refine wp_steps 4 (t' := (532, [some (.ref aSCR), some (.ref 0), some (.ref 84), some (.int (nI i))], [.int ((nI i) + 4), .ref aSCR, .int (xs ((nI i) + 3).toNatClampNeg), .int (xs ((nI i) + 2).toNatClampNeg), .int (xs ((nI i) + 1).toNatClampNeg), .ref 0], (HD, m, ml, mr))) rfl ?_
  refine wp_ial_x rfl hX (lx_c (i := i) (c := 4) (by omega) hL rfl) ?_
  refine wp_calv (as := [.int (xs ((nI i) + 1).toNatClampNeg), .int (xs ((nI i) + 2).toNatClampNeg), .int (xs ((nI i) + 3).toNatClampNeg), .int (xs ((nI i) + 4).toNatClampNeg)]) rfl rfl rfl (Nat.le_of_ble_eq_true rfl) ⟨by decide, rfl⟩ ((p_film m ml mr hI)) (by decide) ?_
  rintro _ _ ⟨_, m1, w1, mr1, ⟨x0, rfl⟩, rfl, rfl, k2⟩
  show aWP _ _ (534, [some (.ref aSCR), some (.ref 0), some (.ref 84), some (.int (nI i))], [.int x0], (HD, m1, w1, mr1)) _
  refine wp_steps 5 (t' := (539, [some (.ref aSCR), some (.ref 0), some (.ref 84), some (.int (nI i))], [.int ((nI i) + 1), .ref aSCR, .ref 84, .int x0], (HD, m1, w1, mr1))) rfl ?_
  refine wp_ial_x rfl hX (lx_c (i := i) (c := 1) (by omega) hL rfl) ?_
  refine wp_steps 4 (t' := (544, [some (.ref aSCR), some (.ref 0), some (.ref 84), some (.int (nI i))], [.int ((nI i) + 2), .ref aSCR, .int (xs ((nI i) + 1).toNatClampNeg), .ref 84, .int x0], (HD, m1, w1, mr1))) rfl ?_
  refine wp_ial_x rfl hX (lx_c (i := i) (c := 2) (by omega) hL rfl) ?_
  refine wp_steps 4 (t' := (549, [some (.ref aSCR), some (.ref 0), some (.ref 84), some (.int (nI i))], [.int ((nI i) + 3), .ref aSCR, .int (xs ((nI i) + 2).toNatClampNeg), .int (xs ((nI i) + 1).toNatClampNeg), .ref 84, .int x0], (HD, m1, w1, mr1))) rfl ?_
  refine wp_ial_x rfl hX (lx_c (i := i) (c := 3) (by omega) hL rfl) ?_
  refine wp_steps 4 (t' := (554, [some (.ref aSCR), some (.ref 0), some (.ref 84), some (.int (nI i))], [.int ((nI i) + 4), .ref aSCR, .int (xs ((nI i) + 3).toNatClampNeg), .int (xs ((nI i) + 2).toNatClampNeg), .int (xs ((nI i) + 1).toNatClampNeg), .ref 84, .int x0], (HD, m1, w1, mr1))) rfl ?_
  refine wp_ial_x rfl hX (lx_c (i := i) (c := 4) (by omega) hL rfl) ?_
  refine wp_calv (as := [.int (xs ((nI i) + 1).toNatClampNeg), .int (xs ((nI i) + 2).toNatClampNeg), .int (xs ((nI i) + 3).toNatClampNeg), .int (xs ((nI i) + 4).toNatClampNeg)]) rfl rfl rfl (Nat.le_of_ble_eq_true rfl) ⟨by decide, rfl⟩ (k2) (by decide) ?_
  rintro _ _ ⟨rfl, m2, w2, rfl, hI2⟩
  show aWP _ _ (556, [some (.ref aSCR), some (.ref 0), some (.ref 84), some (.int (nI i))], [.int x0, .int x0], (HD, m2, w2, mr1)) _
  refine wp_bC rfl (fun c_1 => ?_) (fun c_1 => ?_)
  rotate_left
  · have c_1 : ¬ (x0 = x0) := of_decide_eq_false c_1
    exact absurd rfl c_1
  have c_1 : x0 = x0 := of_decide_eq_true c_1
  exact hk m2 w2 mr1 hI2
set_option maxRecDepth 20000 in
set_option maxHeartbeats 1000000 in
theorem lw_drawn {W : aXt × Value} {L : Nat} {xs : Nat → Int32} (hX : W.1 aSCR = some (L, xs)) (hL : L ≤ 3072) {i : Nat} (hi : i + 6 ≤ L) {m : Nat → Nat → Int32} {ml : Nat → Nat → Int64} {mr : Nat → Nat → Option Nat} (hI : INV m mr) {Q : Option Value → aM → Prop} (hk : (∀ m2 w2 mr2, INV m2 mr2 → aWP (aEx (aTb W) 90) (cd_L_law W) (870, [some (.ref aSCR), some (.ref 0), some (.ref 84), some (.int (nI i))], [], (HD, m2, w2, mr2)) Q)) : aWP (aEx (aTb W) 90) (cd_L_law W) (559, [some (.ref aSCR), some (.ref 0), some (.ref 84), some (.int (nI i))], [], (HD, m, ml, mr)) Q := by
  refine wp_steps 5 (t' := (564, [some (.ref aSCR), some (.ref 0), some (.ref 84), some (.int (nI i))], [.int ((nI i) + 1), .ref aSCR, .ref 0], (HD, m, ml, mr))) rfl ?_
  refine wp_ial_x rfl hX (lx_c (i := i) (c := 1) (by omega) hL rfl) ?_
  refine wp_steps 4 (t' := (569, [some (.ref aSCR), some (.ref 0), some (.ref 84), some (.int (nI i))], [.int ((nI i) + 2), .ref aSCR, .int (xs ((nI i) + 1).toNatClampNeg), .ref 0], (HD, m, ml, mr))) rfl ?_
  refine wp_ial_x rfl hX (lx_c (i := i) (c := 2) (by omega) hL rfl) ?_
  refine wp_calv (as := [.int (xs ((nI i) + 1).toNatClampNeg), .int (xs ((nI i) + 2).toNatClampNeg)]) rfl rfl rfl (Nat.le_of_ble_eq_true rfl) ⟨by decide, rfl⟩ ((p_drawn m ml mr hI)) (by decide) ?_
  rintro _ _ ⟨_, m1, w1, mr1, ⟨x0, rfl⟩, rfl, rfl, k2⟩
  show aWP _ _ (571, [some (.ref aSCR), some (.ref 0), some (.ref 84), some (.int (nI i))], [.int x0], (HD, m1, w1, mr1)) _
  refine wp_steps 5 (t' := (576, [some (.ref aSCR), some (.ref 0), some (.ref 84), some (.int (nI i))], [.int ((nI i) + 1), .ref aSCR, .ref 84, .int x0], (HD, m1, w1, mr1))) rfl ?_
  refine wp_ial_x rfl hX (lx_c (i := i) (c := 1) (by omega) hL rfl) ?_
  refine wp_steps 4 (t' := (581, [some (.ref aSCR), some (.ref 0), some (.ref 84), some (.int (nI i))], [.int ((nI i) + 2), .ref aSCR, .int (xs ((nI i) + 1).toNatClampNeg), .ref 84, .int x0], (HD, m1, w1, mr1))) rfl ?_
  refine wp_ial_x rfl hX (lx_c (i := i) (c := 2) (by omega) hL rfl) ?_
  refine wp_calv (as := [.int (xs ((nI i) + 1).toNatClampNeg), .int (xs ((nI i) + 2).toNatClampNeg)]) rfl rfl rfl (Nat.le_of_ble_eq_true rfl) ⟨by decide, rfl⟩ (k2) (by decide) ?_
  rintro _ _ ⟨rfl, m2, w2, rfl, hI2⟩
  show aWP _ _ (583, [some (.ref aSCR), some (.ref 0), some (.ref 84), some (.int (nI i))], [.int x0, .int x0], (HD, m2, w2, mr1)) _
  refine wp_bC rfl (fun c_1 => ?_) (fun c_1 => ?_)
  rotate_left
  · have c_1 : ¬ (x0 = x0) := of_decide_eq_false c_1
    exact absurd rfl c_1
  have c_1 : x0 = x0 := of_decide_eq_true c_1
  exact hk m2 w2 mr1 hI2
set_option maxRecDepth 20000 in
set_option maxHeartbeats 1000000 in
theorem lw_chance {W : aXt × Value} {L : Nat} {xs : Nat → Int32} (hX : W.1 aSCR = some (L, xs)) (hL : L ≤ 3072) {i : Nat} (hi : i + 6 ≤ L) {m : Nat → Nat → Int32} {ml : Nat → Nat → Int64} {mr : Nat → Nat → Option Nat} (hI : INV m mr) {Q : Option Value → aM → Prop} (hk : (∀ m2 w2 mr2, INV m2 mr2 → aWP (aEx (aTb W) 90) (cd_L_law W) (870, [some (.ref aSCR), some (.ref 0), some (.ref 84), some (.int (nI i))], [], (HD, m2, w2, mr2)) Q)) : aWP (aEx (aTb W) 90) (cd_L_law W) (586, [some (.ref aSCR), some (.ref 0), some (.ref 84), some (.int (nI i))], [], (HD, m, ml, mr)) Q := by
  refine wp_steps 5 (t' := (591, [some (.ref aSCR), some (.ref 0), some (.ref 84), some (.int (nI i))], [.int ((nI i) + 1), .ref aSCR, .ref 0], (HD, m, ml, mr))) rfl ?_
  refine wp_ial_x rfl hX (lx_c (i := i) (c := 1) (by omega) hL rfl) ?_
  refine wp_steps 4 (t' := (596, [some (.ref aSCR), some (.ref 0), some (.ref 84), some (.int (nI i))], [.int ((nI i) + 2), .ref aSCR, .int (xs ((nI i) + 1).toNatClampNeg), .ref 0], (HD, m, ml, mr))) rfl ?_
  refine wp_ial_x rfl hX (lx_c (i := i) (c := 2) (by omega) hL rfl) ?_
  refine wp_steps 4 (t' := (601, [some (.ref aSCR), some (.ref 0), some (.ref 84), some (.int (nI i))], [.int ((nI i) + 3), .ref aSCR, .int (xs ((nI i) + 2).toNatClampNeg), .int (xs ((nI i) + 1).toNatClampNeg), .ref 0], (HD, m, ml, mr))) rfl ?_
  refine wp_ial_x rfl hX (lx_c (i := i) (c := 3) (by omega) hL rfl) ?_
  refine wp_steps 4 (t' := (606, [some (.ref aSCR), some (.ref 0), some (.ref 84), some (.int (nI i))], [.int ((nI i) + 4), .ref aSCR, .int (xs ((nI i) + 3).toNatClampNeg), .int (xs ((nI i) + 2).toNatClampNeg), .int (xs ((nI i) + 1).toNatClampNeg), .ref 0], (HD, m, ml, mr))) rfl ?_
  refine wp_ial_x rfl hX (lx_c (i := i) (c := 4) (by omega) hL rfl) ?_
  refine wp_calv (as := [.int (xs ((nI i) + 1).toNatClampNeg), .int (xs ((nI i) + 2).toNatClampNeg), .int (xs ((nI i) + 3).toNatClampNeg), .int (xs ((nI i) + 4).toNatClampNeg)]) rfl rfl rfl (Nat.le_of_ble_eq_true rfl) ⟨by decide, rfl⟩ ((p_chance m ml mr hI)) (by decide) ?_
  rintro _ _ ⟨_, m1, w1, mr1, ⟨x0, rfl⟩, rfl, rfl, k2⟩
  show aWP _ _ (608, [some (.ref aSCR), some (.ref 0), some (.ref 84), some (.int (nI i))], [.long x0], (HD, m1, w1, mr1)) _
  refine wp_steps 5 (t' := (613, [some (.ref aSCR), some (.ref 0), some (.ref 84), some (.int (nI i))], [.int ((nI i) + 1), .ref aSCR, .ref 84, .long x0], (HD, m1, w1, mr1))) rfl ?_
  refine wp_ial_x rfl hX (lx_c (i := i) (c := 1) (by omega) hL rfl) ?_
  refine wp_steps 4 (t' := (618, [some (.ref aSCR), some (.ref 0), some (.ref 84), some (.int (nI i))], [.int ((nI i) + 2), .ref aSCR, .int (xs ((nI i) + 1).toNatClampNeg), .ref 84, .long x0], (HD, m1, w1, mr1))) rfl ?_
  refine wp_ial_x rfl hX (lx_c (i := i) (c := 2) (by omega) hL rfl) ?_
  refine wp_steps 4 (t' := (623, [some (.ref aSCR), some (.ref 0), some (.ref 84), some (.int (nI i))], [.int ((nI i) + 3), .ref aSCR, .int (xs ((nI i) + 2).toNatClampNeg), .int (xs ((nI i) + 1).toNatClampNeg), .ref 84, .long x0], (HD, m1, w1, mr1))) rfl ?_
  refine wp_ial_x rfl hX (lx_c (i := i) (c := 3) (by omega) hL rfl) ?_
  refine wp_steps 4 (t' := (628, [some (.ref aSCR), some (.ref 0), some (.ref 84), some (.int (nI i))], [.int ((nI i) + 4), .ref aSCR, .int (xs ((nI i) + 3).toNatClampNeg), .int (xs ((nI i) + 2).toNatClampNeg), .int (xs ((nI i) + 1).toNatClampNeg), .ref 84, .long x0], (HD, m1, w1, mr1))) rfl ?_
  refine wp_ial_x rfl hX (lx_c (i := i) (c := 4) (by omega) hL rfl) ?_
  refine wp_calv (as := [.int (xs ((nI i) + 1).toNatClampNeg), .int (xs ((nI i) + 2).toNatClampNeg), .int (xs ((nI i) + 3).toNatClampNeg), .int (xs ((nI i) + 4).toNatClampNeg)]) rfl rfl rfl (Nat.le_of_ble_eq_true rfl) ⟨by decide, rfl⟩ (k2) (by decide) ?_
  rintro _ _ ⟨rfl, m2, w2, rfl, hI2⟩
  show aWP _ _ (630, [some (.ref aSCR), some (.ref 0), some (.ref 84), some (.int (nI i))], [.long x0, .long x0], (HD, m2, w2, mr1)) _
  refine wp_steps 1 (t' := (631, [some (.ref aSCR), some (.ref 0), some (.ref 84), some (.int (nI i))], [.int (lg_cmp x0 x0)], (HD, m2, w2, mr1))) rfl ?_
  refine wp_bI rfl (fun c_1 => ?_) (fun c_1 => ?_)
  rotate_left
  · have c_1 : ¬ ((lg_cmp x0 x0) = 0) := of_decide_eq_false c_1
    exact absurd (lc_self x0) c_1
  have c_1 : (lg_cmp x0 x0) = 0 := of_decide_eq_true c_1
  exact hk m2 w2 mr1 hI2
set_option maxRecDepth 20000 in
set_option maxHeartbeats 1000000 in
theorem lw_image {W : aXt × Value} {L : Nat} {xs : Nat → Int32} (hX : W.1 aSCR = some (L, xs)) (hL : L ≤ 3072) {i : Nat} (hi : i + 6 ≤ L) {m : Nat → Nat → Int32} {ml : Nat → Nat → Int64} {mr : Nat → Nat → Option Nat} (hI : INV m mr) {Q : Option Value → aM → Prop} (hk : (∀ m2 w2 mr2, INV m2 mr2 → aWP (aEx (aTb W) 90) (cd_L_law W) (870, [some (.ref aSCR), some (.ref 0), some (.ref 84), some (.int (nI i))], [], (HD, m2, w2, mr2)) Q)) : aWP (aEx (aTb W) 90) (cd_L_law W) (634, [some (.ref aSCR), some (.ref 0), some (.ref 84), some (.int (nI i))], [], (HD, m, ml, mr)) Q := by
  refine wp_steps 1 (t' := (635, [some (.ref aSCR), some (.ref 0), some (.ref 84), some (.int (nI i))], [.ref 0], (HD, m, ml, mr))) rfl ?_
  refine wp_calv (as := []) rfl rfl rfl (Nat.le_of_ble_eq_true rfl) ⟨by decide, rfl⟩ ((p_image m ml mr hI)) (by decide) ?_
  rintro _ _ ⟨_, m1, w1, mr1, ⟨x0, rfl⟩, rfl, rfl, k2⟩
  show aWP _ _ (636, [some (.ref aSCR), some (.ref 0), some (.ref 84), some (.int (nI i))], [.int x0], (HD, m1, w1, mr1)) _
  refine wp_steps 1 (t' := (637, [some (.ref aSCR), some (.ref 0), some (.ref 84), some (.int (nI i))], [.ref 84, .int x0], (HD, m1, w1, mr1))) rfl ?_
  refine wp_calv (as := []) rfl rfl rfl (Nat.le_of_ble_eq_true rfl) ⟨by decide, rfl⟩ (k2) (by decide) ?_
  rintro _ _ ⟨rfl, m2, w2, rfl, hI2⟩
  show aWP _ _ (638, [some (.ref aSCR), some (.ref 0), some (.ref 84), some (.int (nI i))], [.int x0, .int x0], (HD, m2, w2, mr1)) _
  refine wp_bC rfl (fun c_1 => ?_) (fun c_1 => ?_)
  rotate_left
  · have c_1 : ¬ (x0 = x0) := of_decide_eq_false c_1
    exact absurd rfl c_1
  have c_1 : x0 = x0 := of_decide_eq_true c_1
  exact hk m2 w2 mr1 hI2
set_option maxRecDepth 20000 in
set_option maxHeartbeats 1000000 in
theorem lw_back {W : aXt × Value} {L : Nat} {xs : Nat → Int32} (hX : W.1 aSCR = some (L, xs)) (hL : L ≤ 3072) {i : Nat} (hi : i + 6 ≤ L) {m : Nat → Nat → Int32} {ml : Nat → Nat → Int64} {mr : Nat → Nat → Option Nat} (hI : INV m mr) {Q : Option Value → aM → Prop} (hk : (∀ m2 w2 mr2, INV m2 mr2 → aWP (aEx (aTb W) 90) (cd_L_law W) (870, [some (.ref aSCR), some (.ref 0), some (.ref 84), some (.int (nI i))], [], (HD, m2, w2, mr2)) Q)) : aWP (aEx (aTb W) 90) (cd_L_law W) (641, [some (.ref aSCR), some (.ref 0), some (.ref 84), some (.int (nI i))], [], (HD, m, ml, mr)) Q := by
  refine wp_steps 1 (t' := (642, [some (.ref aSCR), some (.ref 0), some (.ref 84), some (.int (nI i))], [.ref 0], (HD, m, ml, mr))) rfl ?_
  refine wp_calv (as := []) rfl rfl rfl (Nat.le_of_ble_eq_true rfl) ⟨by decide, rfl⟩ ((p_back m ml mr hI)) (by decide) ?_
  rintro _ _ ⟨_, m1, w1, mr1, ⟨x0, rfl⟩, rfl, rfl, k2⟩
  show aWP _ _ (643, [some (.ref aSCR), some (.ref 0), some (.ref 84), some (.int (nI i))], [.int x0], (HD, m1, w1, mr1)) _
  refine wp_steps 1 (t' := (644, [some (.ref aSCR), some (.ref 0), some (.ref 84), some (.int (nI i))], [.ref 84, .int x0], (HD, m1, w1, mr1))) rfl ?_
  refine wp_calv (as := []) rfl rfl rfl (Nat.le_of_ble_eq_true rfl) ⟨by decide, rfl⟩ (k2) (by decide) ?_
  rintro _ _ ⟨rfl, m2, w2, rfl, hI2⟩
  show aWP _ _ (645, [some (.ref aSCR), some (.ref 0), some (.ref 84), some (.int (nI i))], [.int x0, .int x0], (HD, m2, w2, mr1)) _
  refine wp_bC rfl (fun c_1 => ?_) (fun c_1 => ?_)
  rotate_left
  · have c_1 : ¬ (x0 = x0) := of_decide_eq_false c_1
    exact absurd rfl c_1
  have c_1 : x0 = x0 := of_decide_eq_true c_1
  exact hk m2 w2 mr1 hI2
set_option maxRecDepth 20000 in
set_option maxHeartbeats 1000000 in
theorem lw_count {W : aXt × Value} {L : Nat} {xs : Nat → Int32} (hX : W.1 aSCR = some (L, xs)) (hL : L ≤ 3072) {i : Nat} (hi : i + 6 ≤ L) {m : Nat → Nat → Int32} {ml : Nat → Nat → Int64} {mr : Nat → Nat → Option Nat} (hI : INV m mr) {Q : Option Value → aM → Prop} (hk : (∀ m2 w2 mr2, INV m2 mr2 → aWP (aEx (aTb W) 90) (cd_L_law W) (870, [some (.ref aSCR), some (.ref 0), some (.ref 84), some (.int (nI i))], [], (HD, m2, w2, mr2)) Q)) : aWP (aEx (aTb W) 90) (cd_L_law W) (648, [some (.ref aSCR), some (.ref 0), some (.ref 84), some (.int (nI i))], [], (HD, m, ml, mr)) Q := by
  refine wp_steps 5 (t' := (653, [some (.ref aSCR), some (.ref 0), some (.ref 84), some (.int (nI i))], [.int ((nI i) + 1), .ref aSCR, .ref 0], (HD, m, ml, mr))) rfl ?_
  refine wp_ial_x rfl hX (lx_c (i := i) (c := 1) (by omega) hL rfl) ?_
  refine wp_calv (as := [.int (xs ((nI i) + 1).toNatClampNeg)]) rfl rfl rfl (Nat.le_of_ble_eq_true rfl) ⟨by decide, rfl⟩ ((p_count m ml mr hI)) (by decide) ?_
  rintro _ _ ⟨_, m1, w1, mr1, ⟨x0, rfl⟩, rfl, rfl, k2⟩
  show aWP _ _ (655, [some (.ref aSCR), some (.ref 0), some (.ref 84), some (.int (nI i))], [.int x0], (HD, m1, w1, mr1)) _
  refine wp_steps 5 (t' := (660, [some (.ref aSCR), some (.ref 0), some (.ref 84), some (.int (nI i))], [.int ((nI i) + 1), .ref aSCR, .ref 84, .int x0], (HD, m1, w1, mr1))) rfl ?_
  refine wp_ial_x rfl hX (lx_c (i := i) (c := 1) (by omega) hL rfl) ?_
  refine wp_calv (as := [.int (xs ((nI i) + 1).toNatClampNeg)]) rfl rfl rfl (Nat.le_of_ble_eq_true rfl) ⟨by decide, rfl⟩ (k2) (by decide) ?_
  rintro _ _ ⟨rfl, m2, w2, rfl, hI2⟩
  show aWP _ _ (662, [some (.ref aSCR), some (.ref 0), some (.ref 84), some (.int (nI i))], [.int x0, .int x0], (HD, m2, w2, mr1)) _
  refine wp_bC rfl (fun c_1 => ?_) (fun c_1 => ?_)
  rotate_left
  · have c_1 : ¬ (x0 = x0) := of_decide_eq_false c_1
    exact absurd rfl c_1
  have c_1 : x0 = x0 := of_decide_eq_true c_1
  exact hk m2 w2 mr1 hI2
set_option maxRecDepth 20000 in
set_option maxHeartbeats 1000000 in
theorem lw_sheet {W : aXt × Value} {L : Nat} {xs : Nat → Int32} (hX : W.1 aSCR = some (L, xs)) (hL : L ≤ 3072) {i : Nat} (hi : i + 6 ≤ L) {m : Nat → Nat → Int32} {ml : Nat → Nat → Int64} {mr : Nat → Nat → Option Nat} (hI : INV m mr) {Q : Option Value → aM → Prop} (hk : (∀ m2 w2 mr2, INV m2 mr2 → aWP (aEx (aTb W) 90) (cd_L_law W) (870, [some (.ref aSCR), some (.ref 0), some (.ref 84), some (.int (nI i))], [], (HD, m2, w2, mr2)) Q)) : aWP (aEx (aTb W) 90) (cd_L_law W) (665, [some (.ref aSCR), some (.ref 0), some (.ref 84), some (.int (nI i))], [], (HD, m, ml, mr)) Q := by
  refine wp_steps 5 (t' := (670, [some (.ref aSCR), some (.ref 0), some (.ref 84), some (.int (nI i))], [.int ((nI i) + 1), .ref aSCR, .ref 0], (HD, m, ml, mr))) rfl ?_
  refine wp_ial_x rfl hX (lx_c (i := i) (c := 1) (by omega) hL rfl) ?_
  refine wp_steps 4 (t' := (675, [some (.ref aSCR), some (.ref 0), some (.ref 84), some (.int (nI i))], [.int ((nI i) + 2), .ref aSCR, .int (xs ((nI i) + 1).toNatClampNeg), .ref 0], (HD, m, ml, mr))) rfl ?_
  refine wp_ial_x rfl hX (lx_c (i := i) (c := 2) (by omega) hL rfl) ?_
  refine wp_steps 4 (t' := (680, [some (.ref aSCR), some (.ref 0), some (.ref 84), some (.int (nI i))], [.int ((nI i) + 3), .ref aSCR, .int (xs ((nI i) + 2).toNatClampNeg), .int (xs ((nI i) + 1).toNatClampNeg), .ref 0], (HD, m, ml, mr))) rfl ?_
  refine wp_ial_x rfl hX (lx_c (i := i) (c := 3) (by omega) hL rfl) ?_
  refine wp_calv (as := [.int (xs ((nI i) + 1).toNatClampNeg), .int (xs ((nI i) + 2).toNatClampNeg), .int (xs ((nI i) + 3).toNatClampNeg)]) rfl rfl rfl (Nat.le_of_ble_eq_true rfl) ⟨by decide, rfl⟩ ((p_sheet m ml mr hI)) (by decide) ?_
  rintro _ _ ⟨_, m1, w1, mr1, ⟨x0, rfl⟩, rfl, rfl, k2⟩
  show aWP _ _ (682, [some (.ref aSCR), some (.ref 0), some (.ref 84), some (.int (nI i))], [.int x0], (HD, m1, w1, mr1)) _
  refine wp_steps 5 (t' := (687, [some (.ref aSCR), some (.ref 0), some (.ref 84), some (.int (nI i))], [.int ((nI i) + 1), .ref aSCR, .ref 84, .int x0], (HD, m1, w1, mr1))) rfl ?_
  refine wp_ial_x rfl hX (lx_c (i := i) (c := 1) (by omega) hL rfl) ?_
  refine wp_steps 4 (t' := (692, [some (.ref aSCR), some (.ref 0), some (.ref 84), some (.int (nI i))], [.int ((nI i) + 2), .ref aSCR, .int (xs ((nI i) + 1).toNatClampNeg), .ref 84, .int x0], (HD, m1, w1, mr1))) rfl ?_
  refine wp_ial_x rfl hX (lx_c (i := i) (c := 2) (by omega) hL rfl) ?_
  refine wp_steps 4 (t' := (697, [some (.ref aSCR), some (.ref 0), some (.ref 84), some (.int (nI i))], [.int ((nI i) + 3), .ref aSCR, .int (xs ((nI i) + 2).toNatClampNeg), .int (xs ((nI i) + 1).toNatClampNeg), .ref 84, .int x0], (HD, m1, w1, mr1))) rfl ?_
  refine wp_ial_x rfl hX (lx_c (i := i) (c := 3) (by omega) hL rfl) ?_
  refine wp_calv (as := [.int (xs ((nI i) + 1).toNatClampNeg), .int (xs ((nI i) + 2).toNatClampNeg), .int (xs ((nI i) + 3).toNatClampNeg)]) rfl rfl rfl (Nat.le_of_ble_eq_true rfl) ⟨by decide, rfl⟩ (k2) (by decide) ?_
  rintro _ _ ⟨rfl, m2, w2, rfl, hI2⟩
  show aWP _ _ (699, [some (.ref aSCR), some (.ref 0), some (.ref 84), some (.int (nI i))], [.int x0, .int x0], (HD, m2, w2, mr1)) _
  refine wp_bC rfl (fun c_1 => ?_) (fun c_1 => ?_)
  rotate_left
  · have c_1 : ¬ (x0 = x0) := of_decide_eq_false c_1
    exact absurd rfl c_1
  have c_1 : x0 = x0 := of_decide_eq_true c_1
  exact hk m2 w2 mr1 hI2
set_option maxRecDepth 20000 in
set_option maxHeartbeats 1000000 in
theorem lw_cell {W : aXt × Value} {L : Nat} {xs : Nat → Int32} (hX : W.1 aSCR = some (L, xs)) (hL : L ≤ 3072) {i : Nat} (hi : i + 6 ≤ L) {m : Nat → Nat → Int32} {ml : Nat → Nat → Int64} {mr : Nat → Nat → Option Nat} (hI : INV m mr) {Q : Option Value → aM → Prop} (hk : (∀ m2 w2 mr2, INV m2 mr2 → aWP (aEx (aTb W) 90) (cd_L_law W) (870, [some (.ref aSCR), some (.ref 0), some (.ref 84), some (.int (nI i))], [], (HD, m2, w2, mr2)) Q)) : aWP (aEx (aTb W) 90) (cd_L_law W) (702, [some (.ref aSCR), some (.ref 0), some (.ref 84), some (.int (nI i))], [], (HD, m, ml, mr)) Q := by
  refine wp_steps 5 (t' := (707, [some (.ref aSCR), some (.ref 0), some (.ref 84), some (.int (nI i))], [.int ((nI i) + 1), .ref aSCR, .ref 0], (HD, m, ml, mr))) rfl ?_
  refine wp_ial_x rfl hX (lx_c (i := i) (c := 1) (by omega) hL rfl) ?_
  refine wp_steps 4 (t' := (712, [some (.ref aSCR), some (.ref 0), some (.ref 84), some (.int (nI i))], [.int ((nI i) + 2), .ref aSCR, .int (xs ((nI i) + 1).toNatClampNeg), .ref 0], (HD, m, ml, mr))) rfl ?_
  refine wp_ial_x rfl hX (lx_c (i := i) (c := 2) (by omega) hL rfl) ?_
  refine wp_steps 4 (t' := (717, [some (.ref aSCR), some (.ref 0), some (.ref 84), some (.int (nI i))], [.int ((nI i) + 3), .ref aSCR, .int (xs ((nI i) + 2).toNatClampNeg), .int (xs ((nI i) + 1).toNatClampNeg), .ref 0], (HD, m, ml, mr))) rfl ?_
  refine wp_ial_x rfl hX (lx_c (i := i) (c := 3) (by omega) hL rfl) ?_
  refine wp_calv (as := [.int (xs ((nI i) + 1).toNatClampNeg), .int (xs ((nI i) + 2).toNatClampNeg), .int (xs ((nI i) + 3).toNatClampNeg)]) rfl rfl rfl (Nat.le_of_ble_eq_true rfl) ⟨by decide, rfl⟩ ((p_cell m ml mr hI)) (by decide) ?_
  rintro _ _ ⟨_, m1, w1, mr1, ⟨x0, rfl⟩, rfl, rfl, k2⟩
  show aWP _ _ (719, [some (.ref aSCR), some (.ref 0), some (.ref 84), some (.int (nI i))], [.int x0], (HD, m1, w1, mr1)) _
  refine wp_steps 5 (t' := (724, [some (.ref aSCR), some (.ref 0), some (.ref 84), some (.int (nI i))], [.int ((nI i) + 1), .ref aSCR, .ref 84, .int x0], (HD, m1, w1, mr1))) rfl ?_
  refine wp_ial_x rfl hX (lx_c (i := i) (c := 1) (by omega) hL rfl) ?_
  refine wp_steps 4 (t' := (729, [some (.ref aSCR), some (.ref 0), some (.ref 84), some (.int (nI i))], [.int ((nI i) + 2), .ref aSCR, .int (xs ((nI i) + 1).toNatClampNeg), .ref 84, .int x0], (HD, m1, w1, mr1))) rfl ?_
  refine wp_ial_x rfl hX (lx_c (i := i) (c := 2) (by omega) hL rfl) ?_
  refine wp_steps 4 (t' := (734, [some (.ref aSCR), some (.ref 0), some (.ref 84), some (.int (nI i))], [.int ((nI i) + 3), .ref aSCR, .int (xs ((nI i) + 2).toNatClampNeg), .int (xs ((nI i) + 1).toNatClampNeg), .ref 84, .int x0], (HD, m1, w1, mr1))) rfl ?_
  refine wp_ial_x rfl hX (lx_c (i := i) (c := 3) (by omega) hL rfl) ?_
  refine wp_calv (as := [.int (xs ((nI i) + 1).toNatClampNeg), .int (xs ((nI i) + 2).toNatClampNeg), .int (xs ((nI i) + 3).toNatClampNeg)]) rfl rfl rfl (Nat.le_of_ble_eq_true rfl) ⟨by decide, rfl⟩ (k2) (by decide) ?_
  rintro _ _ ⟨rfl, m2, w2, rfl, hI2⟩
  show aWP _ _ (736, [some (.ref aSCR), some (.ref 0), some (.ref 84), some (.int (nI i))], [.int x0, .int x0], (HD, m2, w2, mr1)) _
  refine wp_bC rfl (fun c_1 => ?_) (fun c_1 => ?_)
  rotate_left
  · have c_1 : ¬ (x0 = x0) := of_decide_eq_false c_1
    exact absurd rfl c_1
  have c_1 : x0 = x0 := of_decide_eq_true c_1
  exact hk m2 w2 mr1 hI2
set_option maxRecDepth 20000 in
set_option maxHeartbeats 1000000 in
theorem lw_copy {W : aXt × Value} {L : Nat} {xs : Nat → Int32} (hX : W.1 aSCR = some (L, xs)) (hL : L ≤ 3072) {i : Nat} (hi : i + 6 ≤ L) {m : Nat → Nat → Int32} {ml : Nat → Nat → Int64} {mr : Nat → Nat → Option Nat} (hI : INV m mr) {Q : Option Value → aM → Prop} (hk : (∀ m2 w2 mr2, INV m2 mr2 → aWP (aEx (aTb W) 90) (cd_L_law W) (870, [some (.ref aSCR), some (.ref 0), some (.ref 84), some (.int (nI i))], [], (HD, m2, w2, mr2)) Q)) : aWP (aEx (aTb W) 90) (cd_L_law W) (739, [some (.ref aSCR), some (.ref 0), some (.ref 84), some (.int (nI i))], [], (HD, m, ml, mr)) Q := by
  refine wp_steps 5 (t' := (744, [some (.ref aSCR), some (.ref 0), some (.ref 84), some (.int (nI i))], [.int ((nI i) + 1), .ref aSCR, .ref 0], (HD, m, ml, mr))) rfl ?_
  refine wp_ial_x rfl hX (lx_c (i := i) (c := 1) (by omega) hL rfl) ?_
  refine wp_steps 4 (t' := (749, [some (.ref aSCR), some (.ref 0), some (.ref 84), some (.int (nI i))], [.int ((nI i) + 2), .ref aSCR, .int (xs ((nI i) + 1).toNatClampNeg), .ref 0], (HD, m, ml, mr))) rfl ?_
  refine wp_ial_x rfl hX (lx_c (i := i) (c := 2) (by omega) hL rfl) ?_
  refine wp_steps 4 (t' := (754, [some (.ref aSCR), some (.ref 0), some (.ref 84), some (.int (nI i))], [.int ((nI i) + 3), .ref aSCR, .int (xs ((nI i) + 2).toNatClampNeg), .int (xs ((nI i) + 1).toNatClampNeg), .ref 0], (HD, m, ml, mr))) rfl ?_
  refine wp_ial_x rfl hX (lx_c (i := i) (c := 3) (by omega) hL rfl) ?_
  refine wp_steps 4 (t' := (759, [some (.ref aSCR), some (.ref 0), some (.ref 84), some (.int (nI i))], [.int ((nI i) + 4), .ref aSCR, .int (xs ((nI i) + 3).toNatClampNeg), .int (xs ((nI i) + 2).toNatClampNeg), .int (xs ((nI i) + 1).toNatClampNeg), .ref 0], (HD, m, ml, mr))) rfl ?_
  refine wp_ial_x rfl hX (lx_c (i := i) (c := 4) (by omega) hL rfl) ?_
  refine wp_steps 4 (t' := (764, [some (.ref aSCR), some (.ref 0), some (.ref 84), some (.int (nI i))], [.int ((nI i) + 5), .ref aSCR, .int (xs ((nI i) + 4).toNatClampNeg), .int (xs ((nI i) + 3).toNatClampNeg), .int (xs ((nI i) + 2).toNatClampNeg), .int (xs ((nI i) + 1).toNatClampNeg), .ref 0], (HD, m, ml, mr))) rfl ?_
  refine wp_ial_x rfl hX (lx_c (i := i) (c := 5) (by omega) hL rfl) ?_
  refine wp_calv (as := [.int (xs ((nI i) + 1).toNatClampNeg), .int (xs ((nI i) + 2).toNatClampNeg), .int (xs ((nI i) + 3).toNatClampNeg), .int (xs ((nI i) + 4).toNatClampNeg), .int (xs ((nI i) + 5).toNatClampNeg)]) rfl rfl rfl (Nat.le_of_ble_eq_true rfl) ⟨by decide, rfl⟩ ((p_copy m ml mr hI)) (by decide) ?_
  rintro _ _ ⟨_, m1, w1, mr1, ⟨x0, rfl⟩, rfl, rfl, k2⟩
  show aWP _ _ (766, [some (.ref aSCR), some (.ref 0), some (.ref 84), some (.int (nI i))], [.int x0], (HD, m1, w1, mr1)) _
  refine wp_steps 5 (t' := (771, [some (.ref aSCR), some (.ref 0), some (.ref 84), some (.int (nI i))], [.int ((nI i) + 1), .ref aSCR, .ref 84, .int x0], (HD, m1, w1, mr1))) rfl ?_
  refine wp_ial_x rfl hX (lx_c (i := i) (c := 1) (by omega) hL rfl) ?_
  refine wp_steps 4 (t' := (776, [some (.ref aSCR), some (.ref 0), some (.ref 84), some (.int (nI i))], [.int ((nI i) + 2), .ref aSCR, .int (xs ((nI i) + 1).toNatClampNeg), .ref 84, .int x0], (HD, m1, w1, mr1))) rfl ?_
  refine wp_ial_x rfl hX (lx_c (i := i) (c := 2) (by omega) hL rfl) ?_
  refine wp_steps 4 (t' := (781, [some (.ref aSCR), some (.ref 0), some (.ref 84), some (.int (nI i))], [.int ((nI i) + 3), .ref aSCR, .int (xs ((nI i) + 2).toNatClampNeg), .int (xs ((nI i) + 1).toNatClampNeg), .ref 84, .int x0], (HD, m1, w1, mr1))) rfl ?_
  refine wp_ial_x rfl hX (lx_c (i := i) (c := 3) (by omega) hL rfl) ?_
  refine wp_steps 4 (t' := (786, [some (.ref aSCR), some (.ref 0), some (.ref 84), some (.int (nI i))], [.int ((nI i) + 4), .ref aSCR, .int (xs ((nI i) + 3).toNatClampNeg), .int (xs ((nI i) + 2).toNatClampNeg), .int (xs ((nI i) + 1).toNatClampNeg), .ref 84, .int x0], (HD, m1, w1, mr1))) rfl ?_
  refine wp_ial_x rfl hX (lx_c (i := i) (c := 4) (by omega) hL rfl) ?_
  refine wp_steps 4 (t' := (791, [some (.ref aSCR), some (.ref 0), some (.ref 84), some (.int (nI i))], [.int ((nI i) + 5), .ref aSCR, .int (xs ((nI i) + 4).toNatClampNeg), .int (xs ((nI i) + 3).toNatClampNeg), .int (xs ((nI i) + 2).toNatClampNeg), .int (xs ((nI i) + 1).toNatClampNeg), .ref 84, .int x0], (HD, m1, w1, mr1))) rfl ?_
  refine wp_ial_x rfl hX (lx_c (i := i) (c := 5) (by omega) hL rfl) ?_
  refine wp_calv (as := [.int (xs ((nI i) + 1).toNatClampNeg), .int (xs ((nI i) + 2).toNatClampNeg), .int (xs ((nI i) + 3).toNatClampNeg), .int (xs ((nI i) + 4).toNatClampNeg), .int (xs ((nI i) + 5).toNatClampNeg)]) rfl rfl rfl (Nat.le_of_ble_eq_true rfl) ⟨by decide, rfl⟩ (k2) (by decide) ?_
  rintro _ _ ⟨rfl, m2, w2, rfl, hI2⟩
  show aWP _ _ (793, [some (.ref aSCR), some (.ref 0), some (.ref 84), some (.int (nI i))], [.int x0, .int x0], (HD, m2, w2, mr1)) _
  refine wp_bC rfl (fun c_1 => ?_) (fun c_1 => ?_)
  rotate_left
  · have c_1 : ¬ (x0 = x0) := of_decide_eq_false c_1
    exact absurd rfl c_1
  have c_1 : x0 = x0 := of_decide_eq_true c_1
  exact hk m2 w2 mr1 hI2
set_option maxRecDepth 20000 in
set_option maxHeartbeats 1000000 in
theorem lw_learners {W : aXt × Value} {L : Nat} {xs : Nat → Int32} (hX : W.1 aSCR = some (L, xs)) (hL : L ≤ 3072) {i : Nat} (hi : i + 6 ≤ L) {m : Nat → Nat → Int32} {ml : Nat → Nat → Int64} {mr : Nat → Nat → Option Nat} (hI : INV m mr) {Q : Option Value → aM → Prop} (hk : (∀ m2 w2 mr2, INV m2 mr2 → aWP (aEx (aTb W) 90) (cd_L_law W) (870, [some (.ref aSCR), some (.ref 0), some (.ref 84), some (.int (nI i))], [], (HD, m2, w2, mr2)) Q)) : aWP (aEx (aTb W) 90) (cd_L_law W) (796, [some (.ref aSCR), some (.ref 0), some (.ref 84), some (.int (nI i))], [], (HD, m, ml, mr)) Q := by
  refine wp_steps 5 (t' := (801, [some (.ref aSCR), some (.ref 0), some (.ref 84), some (.int (nI i))], [.int ((nI i) + 1), .ref aSCR, .ref 0], (HD, m, ml, mr))) rfl ?_
  refine wp_ial_x rfl hX (lx_c (i := i) (c := 1) (by omega) hL rfl) ?_
  refine wp_steps 4 (t' := (806, [some (.ref aSCR), some (.ref 0), some (.ref 84), some (.int (nI i))], [.int ((nI i) + 2), .ref aSCR, .int (xs ((nI i) + 1).toNatClampNeg), .ref 0], (HD, m, ml, mr))) rfl ?_
  refine wp_ial_x rfl hX (lx_c (i := i) (c := 2) (by omega) hL rfl) ?_
  refine wp_steps 4 (t' := (811, [some (.ref aSCR), some (.ref 0), some (.ref 84), some (.int (nI i))], [.int ((nI i) + 3), .ref aSCR, .int (xs ((nI i) + 2).toNatClampNeg), .int (xs ((nI i) + 1).toNatClampNeg), .ref 0], (HD, m, ml, mr))) rfl ?_
  refine wp_ial_x rfl hX (lx_c (i := i) (c := 3) (by omega) hL rfl) ?_
  refine wp_steps 4 (t' := (816, [some (.ref aSCR), some (.ref 0), some (.ref 84), some (.int (nI i))], [.int ((nI i) + 4), .ref aSCR, .int (xs ((nI i) + 3).toNatClampNeg), .int (xs ((nI i) + 2).toNatClampNeg), .int (xs ((nI i) + 1).toNatClampNeg), .ref 0], (HD, m, ml, mr))) rfl ?_
  refine wp_ial_x rfl hX (lx_c (i := i) (c := 4) (by omega) hL rfl) ?_
  refine wp_calv (as := [.int (xs ((nI i) + 1).toNatClampNeg), .int (xs ((nI i) + 2).toNatClampNeg), .int (xs ((nI i) + 3).toNatClampNeg), .int (xs ((nI i) + 4).toNatClampNeg)]) rfl rfl rfl (Nat.le_of_ble_eq_true rfl) ⟨by decide, rfl⟩ ((p_learners m ml mr hI)) (by decide) ?_
  rintro _ _ ⟨_, m1, w1, mr1, ⟨x0, rfl⟩, rfl, rfl, k2⟩
  show aWP _ _ (818, [some (.ref aSCR), some (.ref 0), some (.ref 84), some (.int (nI i))], [.int x0], (HD, m1, w1, mr1)) _
  refine wp_steps 5 (t' := (823, [some (.ref aSCR), some (.ref 0), some (.ref 84), some (.int (nI i))], [.int ((nI i) + 1), .ref aSCR, .ref 84, .int x0], (HD, m1, w1, mr1))) rfl ?_
  refine wp_ial_x rfl hX (lx_c (i := i) (c := 1) (by omega) hL rfl) ?_
  refine wp_steps 4 (t' := (828, [some (.ref aSCR), some (.ref 0), some (.ref 84), some (.int (nI i))], [.int ((nI i) + 2), .ref aSCR, .int (xs ((nI i) + 1).toNatClampNeg), .ref 84, .int x0], (HD, m1, w1, mr1))) rfl ?_
  refine wp_ial_x rfl hX (lx_c (i := i) (c := 2) (by omega) hL rfl) ?_
  refine wp_steps 4 (t' := (833, [some (.ref aSCR), some (.ref 0), some (.ref 84), some (.int (nI i))], [.int ((nI i) + 3), .ref aSCR, .int (xs ((nI i) + 2).toNatClampNeg), .int (xs ((nI i) + 1).toNatClampNeg), .ref 84, .int x0], (HD, m1, w1, mr1))) rfl ?_
  refine wp_ial_x rfl hX (lx_c (i := i) (c := 3) (by omega) hL rfl) ?_
  refine wp_steps 4 (t' := (838, [some (.ref aSCR), some (.ref 0), some (.ref 84), some (.int (nI i))], [.int ((nI i) + 4), .ref aSCR, .int (xs ((nI i) + 3).toNatClampNeg), .int (xs ((nI i) + 2).toNatClampNeg), .int (xs ((nI i) + 1).toNatClampNeg), .ref 84, .int x0], (HD, m1, w1, mr1))) rfl ?_
  refine wp_ial_x rfl hX (lx_c (i := i) (c := 4) (by omega) hL rfl) ?_
  refine wp_calv (as := [.int (xs ((nI i) + 1).toNatClampNeg), .int (xs ((nI i) + 2).toNatClampNeg), .int (xs ((nI i) + 3).toNatClampNeg), .int (xs ((nI i) + 4).toNatClampNeg)]) rfl rfl rfl (Nat.le_of_ble_eq_true rfl) ⟨by decide, rfl⟩ (k2) (by decide) ?_
  rintro _ _ ⟨rfl, m2, w2, rfl, hI2⟩
  show aWP _ _ (840, [some (.ref aSCR), some (.ref 0), some (.ref 84), some (.int (nI i))], [.int x0, .int x0], (HD, m2, w2, mr1)) _
  refine wp_bC rfl (fun c_1 => ?_) (fun c_1 => ?_)
  rotate_left
  · have c_1 : ¬ (x0 = x0) := of_decide_eq_false c_1
    exact absurd rfl c_1
  have c_1 : x0 = x0 := of_decide_eq_true c_1
  exact hk m2 w2 mr1 hI2
set_option maxRecDepth 20000 in
set_option maxHeartbeats 1000000 in
theorem lw_taken {W : aXt × Value} {L : Nat} {xs : Nat → Int32} (hX : W.1 aSCR = some (L, xs)) (hL : L ≤ 3072) (hU : W.1 aUND = some (6, aUnd)) {i : Nat} (hi : i + 6 ≤ L) {m : Nat → Nat → Int32} {ml : Nat → Nat → Int64} {mr : Nat → Nat → Option Nat} (hI : INV m mr) {Q : Option Value → aM → Prop} (hk : (∀ m2 w2 mr2, INV m2 mr2 → aWP (aEx (aTb W) 90) (cd_L_law W) (870, [some (.ref aSCR), some (.ref 0), some (.ref 84), some (.int (nI i))], [], (HD, m2, w2, mr2)) Q)) : aWP (aEx (aTb W) 90) (cd_L_law W) (843, [some (.ref aSCR), some (.ref 0), some (.ref 84), some (.int (nI i))], [], (HD, m, ml, mr)) Q := by
  refine wp_steps 5 (t' := (848, [some (.ref aSCR), some (.ref 0), some (.ref 84), some (.int (nI i))], [.int ((nI i) + 1), .ref aSCR, .ref 0], (HD, m, ml, mr))) rfl ?_
  refine wp_ial_x rfl hX (lx_c (i := i) (c := 1) (by omega) hL rfl) ?_
  refine wp_steps 4 (t' := (853, [some (.ref aSCR), some (.ref 0), some (.ref 84), some (.int (nI i))], [.int ((nI i) + 2), .ref aSCR, .int (xs ((nI i) + 1).toNatClampNeg), .ref 0], (HD, m, ml, mr))) rfl ?_
  refine wp_ial_x rfl hX (lx_c (i := i) (c := 2) (by omega) hL rfl) ?_
  refine wp_calv (as := [.int (xs ((nI i) + 1).toNatClampNeg), .int (xs ((nI i) + 2).toNatClampNeg)]) rfl rfl rfl (Nat.le_of_ble_eq_true rfl) ⟨by decide, rfl⟩ ((p_taken hU m ml mr hI)) (by decide) ?_
  rintro _ _ ⟨_, m1, w1, mr1, ⟨x0, rfl⟩, rfl, rfl, k2⟩
  show aWP _ _ (855, [some (.ref aSCR), some (.ref 0), some (.ref 84), some (.int (nI i))], [.int x0], (HD, m1, w1, mr1)) _
  refine wp_steps 5 (t' := (860, [some (.ref aSCR), some (.ref 0), some (.ref 84), some (.int (nI i))], [.int ((nI i) + 1), .ref aSCR, .ref 84, .int x0], (HD, m1, w1, mr1))) rfl ?_
  refine wp_ial_x rfl hX (lx_c (i := i) (c := 1) (by omega) hL rfl) ?_
  refine wp_steps 4 (t' := (865, [some (.ref aSCR), some (.ref 0), some (.ref 84), some (.int (nI i))], [.int ((nI i) + 2), .ref aSCR, .int (xs ((nI i) + 1).toNatClampNeg), .ref 84, .int x0], (HD, m1, w1, mr1))) rfl ?_
  refine wp_ial_x rfl hX (lx_c (i := i) (c := 2) (by omega) hL rfl) ?_
  refine wp_calv (as := [.int (xs ((nI i) + 1).toNatClampNeg), .int (xs ((nI i) + 2).toNatClampNeg)]) rfl rfl rfl (Nat.le_of_ble_eq_true rfl) ⟨by decide, rfl⟩ (k2) (by decide) ?_
  rintro _ _ ⟨rfl, m2, w2, rfl, hI2⟩
  show aWP _ _ (867, [some (.ref aSCR), some (.ref 0), some (.ref 84), some (.int (nI i))], [.int x0, .int x0], (HD, m2, w2, mr1)) _
  refine wp_bC rfl (fun c_1 => ?_) (fun c_1 => ?_)
  rotate_left
  · have c_1 : ¬ (x0 = x0) := of_decide_eq_false c_1
    exact absurd rfl c_1
  have c_1 : x0 = x0 := of_decide_eq_true c_1
  exact hk m2 w2 mr1 hI2
