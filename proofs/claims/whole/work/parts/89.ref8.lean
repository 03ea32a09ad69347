/-! the reference reads a text (written by wip/whole/mkref8.py) -/
theorem pt_y {b : Nat → Int32} {n : Nat} {key : Int32} {s : pS} (h : s.2.2.1 = key) : ptF b n key s = if ((leP b n 5).1 (stP b n s)).1 = true ∧ ((leP b n 5).1 (stP b n s)).2.2.2.1 = 59 then (true, stP b n ((leP b n 5).1 (stP b n s)).2) else (false, ((leP b n 5).1 (stP b n s)).2) := if_pos h
theorem pt_n {b : Nat → Int32} {n : Nat} {key : Int32} {s : pS} (h : ¬ s.2.2.1 = key) : ptF b n key s = (false, s) := if_neg h
set_option maxRecDepth 20000 in
set_option maxHeartbeats 1000000 in
theorem r_part_y {X : aXt × Value} {mr : Nat → Nat → Option Nat} (hM : MRok mr) {b : Nat → Int32} {n t : Nat} (hnn : nnB b n) {nm : Nat → Int32} {key : Int32} (hk0 : ¬ key = 0) (hk1 : ¬ key = 1) {m : Nat → Nat → Int32} {w : Nat → Nat → Int64} {s : pS} (h : RS b n t 0 m w s) (hnm : nmO m nm) (eT : s.2.2.1 = key) : aCW X 41 169 [.ref 84, .int 1] (HD, m, w, mr) (fun r h' => ∃ v m' w', r = some (.int v) ∧ h' = (HD, m', w', mr) ∧ frR m m' ∧ RES b n t 0 nm 31 m' w' s (ptF b n key s) v) := by
  refine cw_of (cd := cd_X7_part) (nL := 3) rfl rfl ?_
  show aWP _ _ (0, [some (.ref 84), some (.int 1), none], [], (HD, m, w, mr)) _
  refine wp_steps 1 (t' := (1, [some (.ref 84), some (.int 1), none], [.int 1], (HD, m, w, mr))) rfl ?_
  refine wp_bI rfl (fun c_1 => ?_) (fun c_1 => ?_)
  rotate_left
  · have c_1 : (1 : Int32) = 0 := Decidable.not_not.mp (of_decide_eq_false c_1)
    exact absurd c_1 (by decide)
  have c_1 : ¬ (1 : Int32) = 0 := of_decide_eq_true c_1
  refine wp_steps 1 (t' := (5, [some (.ref 84), some (.int 1), none], [.ref 84], (HD, m, w, mr))) rfl ?_
  refine wp_geti rfl ⟨by decide, rfl⟩ (Or.inr rfl) ?_
  refine wp_bI rfl (fun c_2 => ?_) (fun c_2 => ?_)
  · have c_2 : ¬ (m 84 26) = 0 := of_decide_eq_true c_2
    exact absurd h.2.2.2.2 c_2
  have c_2 : (m 84 26) = 0 := Decidable.not_not.mp (of_decide_eq_false c_2)
  refine wp_steps 1 (t' := (8, [some (.ref 84), some (.int 1), none], [.ref 84], (HD, m, w, mr))) rfl ?_
  refine wp_calv (as := []) rfl rfl rfl (Nat.le_of_ble_eq_true rfl) ⟨by decide, rfl⟩ ((r_next (ml := w) hM h hnn (by rw [← h.T, eT]; exact hk1))) (by decide) ?_
  rintro _ _ ⟨rfl, m_1, w_1, rfl, f1, g1⟩
  show aWP _ _ (9, [some (.ref 84), some (.int 1), none], [], (HD, m_1, w_1, mr)) _
  skip
  · skip
    refine wp_steps 1 (t' := (10, [some (.ref 84), some (.int 1), none], [.ref 84], (HD, m_1, w_1, mr))) rfl ?_
    refine wp_geti rfl ⟨by decide, rfl⟩ (Or.inr rfl) ?_
    refine wp_bI rfl (fun c_3 => ?_) (fun c_3 => ?_)
    rotate_left
    · have c_3 : ¬ ((m_1 84 26) = 0) := of_decide_eq_false c_3
      exact absurd g1.2.2.2.2 c_3
    have c_3 : (m_1 84 26) = 0 := of_decide_eq_true c_3
    refine wp_steps 1 (t' := (15, [some (.ref 84), some (.int 1), none], [.ref 84], (HD, m_1, w_1, mr))) rfl ?_
    refine wp_calv (as := []) rfl rfl rfl (Nat.le_of_ble_eq_true rfl) ⟨by decide, rfl⟩ (((lr_5 (X := X) (t := t) (nm := nm) hM hnn).1 _ _ _ g1 (hnm.fr f1))) (by decide) ?_
    rintro _ _ ⟨v_2, m_2, w_2, rfl, rfl, f2, r2⟩
    show aWP _ _ (16, [some (.ref 84), some (.int 1), none], [.int v_2], (HD, m_2, w_2, mr)) _
    by_cases hF : ((leP b n 5).1 (stP b n s)).1 = true
    · obtain ⟨g2, go2⟩ := r2.1 hF
      refine wp_steps 3 (t' := (19, [some (.ref 84), some (.int 1), some (.int v_2)], [.int 59, .ref 84], (HD, m_2, w_2, mr))) rfl ?_
      refine wp_calv (as := [.int 59]) rfl rfl rfl (Nat.le_of_ble_eq_true rfl) ⟨by decide, rfl⟩ ((r_sign (ml := w_2) hM g2 (c := 59) (by decide))) (by decide) ?_
      rintro _ _ ⟨rfl, rfl⟩
      show aWP _ _ (20, [some (.ref 84), some (.int 1), some (.int v_2)], [.int (if ((leP b n 5).1 (stP b n s)).2.2.2.1 = 59 then (1 : Int32) else 0)], (HD, m_2, w_2, mr)) _
      refine wp_bI rfl (fun c_4 => ?_) (fun c_4 => ?_)
      · have c_4 : ¬ (if ((leP b n 5).1 (stP b n s)).2.2.2.1 = 59 then (1 : Int32) else 0) = 0 := of_decide_eq_true c_4
        refine wp_steps 1 (t' := (24, [some (.ref 84), some (.int 1), some (.int v_2)], [.ref 84], (HD, m_2, w_2, mr))) rfl ?_
        refine wp_geti rfl ⟨by decide, rfl⟩ (Or.inr rfl) ?_
        refine wp_bI rfl (fun c_5 => ?_) (fun c_5 => ?_)
        · have c_5 : ¬ (m_2 84 26) = 0 := of_decide_eq_true c_5
          exact absurd g2.2.2.2.2 c_5
        have c_5 : (m_2 84 26) = 0 := Decidable.not_not.mp (of_decide_eq_false c_5)
        refine wp_steps 1 (t' := (27, [some (.ref 84), some (.int 1), some (.int v_2)], [.ref 84], (HD, m_2, w_2, mr))) rfl ?_
        refine wp_calv (as := []) rfl rfl rfl (Nat.le_of_ble_eq_true rfl) ⟨by decide, rfl⟩ ((r_next (ml := w_2) hM g2 hnn (by rw [← g2.T, i0_t c_4]; decide))) (by decide) ?_
        rintro _ _ ⟨rfl, m_3, w_3, rfl, f3, g3⟩
        show aWP _ _ (28, [some (.ref 84), some (.int 1), some (.int v_2)], [], (HD, m_3, w_3, mr)) _
        skip
        · skip
          refine wp_steps 1 (t' := (29, [some (.ref 84), some (.int 1), some (.int v_2)], [.int v_2], (HD, m_3, w_3, mr))) rfl ?_
          refine wp_ret rfl rfl ⟨⟨Nat.le_refl _, Nat.le_refl _⟩, ?_⟩
          refine ⟨_, _, _, rfl, rfl, (f1.tr f2).tr f3, ?_⟩
          rw [pt_y eT, if_pos ⟨hF, i0_t c_4⟩]
          exact ⟨fun _ => ⟨g3, GO_par h (by rw [eT]; exact hk0) g2 go2⟩, fun z => Bool.noConfusion z⟩
      · have c_4 : (if ((leP b n 5).1 (stP b n s)).2.2.2.1 = 59 then (1 : Int32) else 0) = 0 := Decidable.not_not.mp (of_decide_eq_false c_4)
        refine wp_steps 1 (t' := (22, [some (.ref 84), some (.int 1), some (.int v_2)], [.ref 84], (HD, m_2, w_2, mr))) rfl ?_
        refine wp_calv (as := []) rfl rfl rfl (Nat.le_of_ble_eq_true rfl) ⟨by decide, rfl⟩ ((r_fail (ml := w_2) hM g2)) (by decide) ?_
        rintro _ _ ⟨rfl, m_9, rfl, f9, g9⟩
        show aWP _ _ (23, [some (.ref 84), some (.int 1), some (.int v_2)], [], (HD, m_9, w_2, mr)) _
        skip
        · skip
          refine wp_steps 1 (t' := (24, [some (.ref 84), some (.int 1), some (.int v_2)], [.ref 84], (HD, m_9, w_2, mr))) rfl ?_
          refine wp_geti rfl ⟨by decide, rfl⟩ (Or.inr rfl) ?_
          refine wp_bI rfl (fun c_6 => ?_) (fun c_6 => ?_)
          rotate_left
          · have c_6 : (m_9 84 26) = 0 := Decidable.not_not.mp (of_decide_eq_false c_6)
            exact absurd c_6 g9.b
          have c_6 : ¬ (m_9 84 26) = 0 := of_decide_eq_true c_6
          refine wp_steps 1 (t' := (29, [some (.ref 84), some (.int 1), some (.int v_2)], [.int v_2], (HD, m_9, w_2, mr))) rfl ?_
          refine wp_ret rfl rfl ⟨⟨Nat.le_refl _, Nat.le_refl _⟩, ?_⟩
          refine ⟨_, _, _, rfl, rfl, (f1.tr f2).tr f9, ?_⟩
          rw [pt_y eT, if_neg (fun z => i0_f c_4 z.2)]
          exact ⟨fun z => Bool.noConfusion z, fun _ => g9⟩
    · have g2 := r2.2 (Bool.eq_false_iff.mpr hF)
      refine wp_steps 3 (t' := (19, [some (.ref 84), some (.int 1), some (.int v_2)], [.int 59, .ref 84], (HD, m_2, w_2, mr))) rfl ?_
      refine wp_calv (as := [.int 59]) rfl rfl rfl (Nat.le_of_ble_eq_true rfl) ⟨by decide, rfl⟩ ((r_sign_b (ml := w_2) (mr := mr) g2.b (c := 59))) (by decide) ?_
      rintro _ _ ⟨rfl, rfl⟩
      show aWP _ _ (20, [some (.ref 84), some (.int 1), some (.int v_2)], [.int 0], (HD, m_2, w_2, mr)) _
      refine wp_bI rfl (fun c_7 => ?_) (fun c_7 => ?_)
      · have c_7 : ¬ (0 : Int32) = 0 := of_decide_eq_true c_7
        exact absurd c_7 (by decide)
      have c_7 : (0 : Int32) = 0 := Decidable.not_not.mp (of_decide_eq_false c_7)
      refine wp_steps 1 (t' := (22, [some (.ref 84), some (.int 1), some (.int v_2)], [.ref 84], (HD, m_2, w_2, mr))) rfl ?_
      refine wp_calv (as := []) rfl rfl rfl (Nat.le_of_ble_eq_true rfl) ⟨by decide, rfl⟩ ((r_fail_b (ml := w_2) (mr := mr) g2.b)) (by decide) ?_
      rintro _ _ ⟨rfl, rfl⟩
      show aWP _ _ (23, [some (.ref 84), some (.int 1), some (.int v_2)], [], (HD, m_2, w_2, mr)) _
      refine wp_steps 1 (t' := (24, [some (.ref 84), some (.int 1), some (.int v_2)], [.ref 84], (HD, m_2, w_2, mr))) rfl ?_
      refine wp_geti rfl ⟨by decide, rfl⟩ (Or.inr rfl) ?_
      refine wp_bI rfl (fun c_8 => ?_) (fun c_8 => ?_)
      rotate_left
      · have c_8 : (m_2 84 26) = 0 := Decidable.not_not.mp (of_decide_eq_false c_8)
        exact absurd c_8 g2.b
      have c_8 : ¬ (m_2 84 26) = 0 := of_decide_eq_true c_8
      refine wp_steps 1 (t' := (29, [some (.ref 84), some (.int 1), some (.int v_2)], [.int v_2], (HD, m_2, w_2, mr))) rfl ?_
      refine wp_ret rfl rfl ⟨⟨Nat.le_refl _, Nat.le_refl _⟩, ?_⟩
      refine ⟨_, _, _, rfl, rfl, f1.tr f2, ?_⟩
      rw [pt_y eT, if_neg (fun z => hF z.1)]
      exact ⟨fun z => Bool.noConfusion z, fun _ => g2⟩
set_option maxRecDepth 20000 in
set_option maxHeartbeats 1000000 in
theorem r_part_n {X : aXt × Value} {mr : Nat → Nat → Option Nat} (hM : MRok mr) {b : Nat → Int32} {n t : Nat} (hnn : nnB b n) {nm : Nat → Int32} {key : Int32} (hk0 : ¬ key = 0) (hk1 : ¬ key = 1) {m : Nat → Nat → Int32} {w : Nat → Nat → Int64} {s : pS} (h : RS b n t 0 m w s) (hnm : nmO m nm) (eT : ¬ s.2.2.1 = key) : aCW X 41 169 [.ref 84, .int 0] (HD, m, w, mr) (fun r h' => ∃ v m' w', r = some (.int v) ∧ h' = (HD, m', w', mr) ∧ frR m m' ∧ RES b n t 0 nm 31 m' w' s (ptF b n key s) v) := by
  refine cw_of (cd := cd_X7_part) (nL := 3) rfl rfl ?_
  show aWP _ _ (0, [some (.ref 84), some (.int 0), none], [], (HD, m, w, mr)) _
  refine wp_steps 1 (t' := (1, [some (.ref 84), some (.int 0), none], [.int 0], (HD, m, w, mr))) rfl ?_
  refine wp_bI rfl (fun c_1 => ?_) (fun c_1 => ?_)
  · have c_1 : ¬ (0 : Int32) = 0 := of_decide_eq_true c_1
    exact absurd c_1 (by decide)
  have c_1 : (0 : Int32) = 0 := Decidable.not_not.mp (of_decide_eq_false c_1)
  refine wp_steps 1 (t' := (3, [some (.ref 84), some (.int 0), none], [.ref 84], (HD, m, w, mr))) rfl ?_
  refine wp_calv (as := []) rfl rfl rfl (Nat.le_of_ble_eq_true rfl) ⟨by decide, rfl⟩ ((r_fail (ml := w) hM h)) (by decide) ?_
  rintro _ _ ⟨rfl, m_9, rfl, f9, g9⟩
  show aWP _ _ (4, [some (.ref 84), some (.int 0), none], [], (HD, m_9, w, mr)) _
  skip
  · skip
    refine wp_steps 1 (t' := (5, [some (.ref 84), some (.int 0), none], [.ref 84], (HD, m_9, w, mr))) rfl ?_
    refine wp_geti rfl ⟨by decide, rfl⟩ (Or.inr rfl) ?_
    refine wp_bI rfl (fun c_2 => ?_) (fun c_2 => ?_)
    rotate_left
    · have c_2 : (m_9 84 26) = 0 := Decidable.not_not.mp (of_decide_eq_false c_2)
      exact absurd c_2 g9.b
    have c_2 : ¬ (m_9 84 26) = 0 := of_decide_eq_true c_2
    refine wp_steps 1 (t' := (10, [some (.ref 84), some (.int 0), none], [.ref 84], (HD, m_9, w, mr))) rfl ?_
    refine wp_geti rfl ⟨by decide, rfl⟩ (Or.inr rfl) ?_
    refine wp_bI rfl (fun c_3 => ?_) (fun c_3 => ?_)
    · have c_3 : (m_9 84 26) = 0 := of_decide_eq_true c_3
      exact absurd c_3 g9.b
    have c_3 : ¬ ((m_9 84 26) = 0) := of_decide_eq_false c_3
    refine wp_steps 5 (t' := (19, [some (.ref 84), some (.int 0), some (.int 0)], [.int 59, .ref 84], (HD, m_9, w, mr))) rfl ?_
    refine wp_calv (as := [.int 59]) rfl rfl rfl (Nat.le_of_ble_eq_true rfl) ⟨by decide, rfl⟩ ((r_sign_b (ml := w) (mr := mr) g9.b (c := 59))) (by decide) ?_
    rintro _ _ ⟨rfl, rfl⟩
    show aWP _ _ (20, [some (.ref 84), some (.int 0), some (.int 0)], [.int 0], (HD, m_9, w, mr)) _
    refine wp_bI rfl (fun c_4 => ?_) (fun c_4 => ?_)
    · have c_4 : ¬ (0 : Int32) = 0 := of_decide_eq_true c_4
      exact absurd c_4 (by decide)
    have c_4 : (0 : Int32) = 0 := Decidable.not_not.mp (of_decide_eq_false c_4)
    refine wp_steps 1 (t' := (22, [some (.ref 84), some (.int 0), some (.int 0)], [.ref 84], (HD, m_9, w, mr))) rfl ?_
    refine wp_calv (as := []) rfl rfl rfl (Nat.le_of_ble_eq_true rfl) ⟨by decide, rfl⟩ ((r_fail_b (ml := w) (mr := mr) g9.b)) (by decide) ?_
    rintro _ _ ⟨rfl, rfl⟩
    show aWP _ _ (23, [some (.ref 84), some (.int 0), some (.int 0)], [], (HD, m_9, w, mr)) _
    refine wp_steps 1 (t' := (24, [some (.ref 84), some (.int 0), some (.int 0)], [.ref 84], (HD, m_9, w, mr))) rfl ?_
    refine wp_geti rfl ⟨by decide, rfl⟩ (Or.inr rfl) ?_
    refine wp_bI rfl (fun c_5 => ?_) (fun c_5 => ?_)
    rotate_left
    · have c_5 : (m_9 84 26) = 0 := Decidable.not_not.mp (of_decide_eq_false c_5)
      exact absurd c_5 g9.b
    have c_5 : ¬ (m_9 84 26) = 0 := of_decide_eq_true c_5
    refine wp_steps 1 (t' := (29, [some (.ref 84), some (.int 0), some (.int 0)], [.int 0], (HD, m_9, w, mr))) rfl ?_
    refine wp_ret rfl rfl ⟨⟨Nat.le_refl _, Nat.le_refl _⟩, ?_⟩
    refine ⟨_, _, _, rfl, rfl, f9, ?_⟩
    rw [pt_n eT]
    exact ⟨fun z => Bool.noConfusion z, fun _ => g9⟩
theorem r_part {X : aXt × Value} {mr : Nat → Nat → Option Nat} (hM : MRok mr) {b : Nat → Int32} {n t : Nat} (hnn : nnB b n) {nm : Nat → Int32} {key : Int32} (hk0 : ¬ key = 0) (hk1 : ¬ key = 1) {m : Nat → Nat → Int32} {w : Nat → Nat → Int64} {s : pS} (h : RS b n t 0 m w s) (hnm : nmO m nm) : aCW X 41 169 [.ref 84, .int (if s.2.2.1 = key then 1 else 0)] (HD, m, w, mr) (fun r h' => ∃ v m' w', r = some (.int v) ∧ h' = (HD, m', w', mr) ∧ frR m m' ∧ RES b n t 0 nm 31 m' w' s (ptF b n key s) v) := by
  by_cases e : s.2.2.1 = key
  · rw [if_pos e]; exact r_part_y hM hnn hk0 hk1 h hnm e
  · rw [if_neg e]; exact r_part_n hM hnn hk0 hk1 h hnm e
/-- alike but for what reading a text writes -/
def frD (m m' : Nat → Nat → Int32) : Prop := ∀ k j, ¬ (k = 84 ∧ 19 ≤ j ∧ j ≤ 27) → m' k j = m k j
theorem frD.R {m m' m2 : Nat → Nat → Int32} (h : frD m m') (k : frR m' m2) : frD m m2 := fun x y q => (k x y (fun z => q ⟨z.1, by omega, z.2.2⟩)).trans (h x y q)
def rdS (v0 : Int32) : pS := (0, 0, 0, v0, [])
/-- text t's bytes -/
def txB (m : Nat → Nat → Int32) (t n : Nat) : Nat → Int32 := byN (fun j => m 85 (160 * t + j)) n
/-- the reference's memory as it begins to read text t -/
def rdI0 (m : Nat → Nat → Int32) (t n : Nat) : Nat → Nat → Int32 := aup (aup (aup (aup (aup m 84 19 (nI (160 * t))) 84 20 (nI n)) 84 21 0) 84 25 0) 84 26 0
theorem rdI0_D {m : Nat → Nat → Int32} {t n : Nat} : frD m (rdI0 m t n) := by
  intro k j q
  unfold rdI0 aup
  by_cases e : k = 84
  · have h1 : ¬ j = 26 := fun z => q ⟨e, by omega, by omega⟩
    have h2 : ¬ j = 25 := fun z => q ⟨e, by omega, by omega⟩
    have h3 : ¬ j = 21 := fun z => q ⟨e, by omega, by omega⟩
    have h4 : ¬ j = 20 := fun z => q ⟨e, by omega, by omega⟩
    have h5 : ¬ j = 19 := fun z => q ⟨e, by omega, by omega⟩
    simp [e, h1, h2, h3, h4, h5]
  · simp [e]
theorem rdI0_B {m : Nat → Nat → Int32} {t n : Nat} (ht : t < 6) (hn : n ≤ 160) : RB (txB m t n) n t (rdI0 m t n) := ⟨⟨by simp [rdI0, aup], ht, by simp [rdI0, aup], hn⟩, rfl⟩
/-- the reading's end: all is well, or a fault -/
def rfE (b : Nat → Int32) (n t : Nat) (v0 : Int32) (nm : Nat → Int32) (wh : Int32) (m : Nat → Nat → Int32) (v : Int32) : Prop := ((rfF b n v0).1 = true → m 84 26 = 0 ∧ ∃ p q r, GO nm 31 (stP b n (rdS v0)) (r1F b n v0).2 p ∧ GO nm 31 (r1F b n v0).2 (r2F b n v0).2 q ∧ GO nm 31 (r2F b n v0).2 (r3F b n v0).2 r ∧ v = (if wh = 0 then p else if wh = 1 then q else r)) ∧ ((rfF b n v0).1 = false → m 84 26 = 1 ∧ m 84 27 = nI (rfF b n v0).2)
set_option maxRecDepth 20000 in
set_option maxHeartbeats 1000000 in
theorem r_read {X : aXt × Value} {mi : Nat → Nat → Int32} {ml : Nat → Nat → Int64} {mr : Nat → Nat → Option Nat} (hM : MRok mr) {t n : Nat} (ht : t < 6) (hn : n ≤ 160) (hz : mi 86 t = nI n) (hnn : nnB (txB mi t n) n) (v0 : Int32) {nm : Nat → Int32} (hnm : nmO mi nm) {wh : Int32} : aCW X 42 170 [.ref 84, .int (nI t), .int wh] (HD, mi, ml, mr) (fun r h' => ∃ v m' w', r = some (.int v) ∧ h' = (HD, m', w', mr) ∧ frD mi m' ∧ rfE (txB mi t n) n t v0 nm wh m' v) := by
  refine cw_of (cd := cd_X7_read) (nL := 6) rfl rfl ?_
  show aWP _ _ (0, [some (.ref 84), some (.int (nI t)), some (.int wh), none, none, none], [], (HD, mi, ml, mr)) _
  refine wp_steps 4 (t' := (4, [some (.ref 84), some (.int (nI t)), some (.int wh), none, none, none], [.int (160 * (nI t)), .ref 84], (HD, mi, ml, mr))) rfl ?_
  rw [show (160 : Int32) * nI t = nI (160 * t) from (Int32.ofNat_mul 160 t).symm]
  refine wp_puti rfl ⟨by decide, rfl⟩ rfl (fun m_1 h_2 => ?_)
  subst h_2
  refine wp_steps 2 (t' := (7, [some (.ref 84), some (.int (nI t)), some (.int wh), none, none, none], [.ref 84, .ref 84], (HD, (aup mi 84 19 (nI (160 * t))), ml, mr))) rfl ?_
  refine wp_getr rfl ⟨by decide, rfl⟩ rfl (hM (84, 2, 86) (by decide)) ?_
  refine wp_steps 1 (t' := (9, [some (.ref 84), some (.int (nI t)), some (.int wh), none, none, none], [.int (nI t), .ref 86, .ref 84], (HD, (aup mi 84 19 (nI (160 * t))), ml, mr))) rfl ?_
  refine wp_iald rfl ⟨by decide, rfl⟩ (aix_nI ht (by decide)) ?_
  rw [show (aup mi 84 19 (nI (160 * t))) 86 (nI t).toNatClampNeg = nI n by rw [nI_clamp (show t < 2 ^ 31 by omega)]; exact hz]
  refine wp_puti rfl ⟨by decide, rfl⟩ rfl (fun m_3 h_4 => ?_)
  subst h_4
  refine wp_steps 2 (t' := (13, [some (.ref 84), some (.int (nI t)), some (.int wh), none, none, none], [.int 0, .ref 84], (HD, (aup (aup mi 84 19 (nI (160 * t))) 84 20 (nI n)), ml, mr))) rfl ?_
  refine wp_puti rfl ⟨by decide, rfl⟩ rfl (fun m_5 h_6 => ?_)
  subst h_6
  refine wp_steps 2 (t' := (16, [some (.ref 84), some (.int (nI t)), some (.int wh), none, none, none], [.int 0, .ref 84], (HD, (aup (aup (aup mi 84 19 (nI (160 * t))) 84 20 (nI n)) 84 21 0), ml, mr))) rfl ?_
  refine wp_puti rfl ⟨by decide, rfl⟩ rfl (fun m_7 h_8 => ?_)
  subst h_8
  refine wp_steps 2 (t' := (19, [some (.ref 84), some (.int (nI t)), some (.int wh), none, none, none], [.int 0, .ref 84], (HD, (aup (aup (aup (aup mi 84 19 (nI (160 * t))) 84 20 (nI n)) 84 21 0) 84 25 0), ml, mr))) rfl ?_
  refine wp_putz rfl ⟨by decide, rfl⟩ rfl (by decide) (fun m_9 h_10 => ?_)
  subst h_10
  show aWP _ _ (20, [some (.ref 84), some (.int (nI t)), some (.int wh), none, none, none], [], (HD, (rdI0 mi t n), ml, mr)) _
  refine wp_steps 1 (t' := (21, [some (.ref 84), some (.int (nI t)), some (.int wh), none, none, none], [.ref 84], (HD, (rdI0 mi t n), ml, mr))) rfl ?_
  refine wp_calv (as := []) rfl rfl rfl (Nat.le_of_ble_eq_true rfl) ⟨by decide, rfl⟩ ((c_next (mi := rdI0 mi t n) (ml := ml) hM (rdI0_B ht hn) hnn (h := 0) rfl (Nat.zero_le _))) (by decide) ?_
  rintro _ _ ⟨rfl, m_0, w_0, rfl, f0, k0⟩
  have g0 : RS (txB mi t n) n t 0 m_0 w_0 (stP (txB mi t n) n (rdS v0)) := ⟨(rdI0_B ht hn).fr f0.R, k0, ⟨k0.1, rfl, rfl, fun z => lxV_2 _ z, Nat.zero_le _⟩, (f0 _ _ (by decide)).trans rfl, (f0 _ _ (by decide)).trans rfl⟩
  have d0 := rdI0_D.R f0.R
  have n0 : nmO m_0 nm := fun j hj => (d0 _ _ (by omega)).trans (hnm j hj)
  show aWP _ _ (22, [some (.ref 84), some (.int (nI t)), some (.int wh), none, none, none], [], (HD, m_0, w_0, mr)) _
  refine wp_steps 10 (t' := (32, [some (.ref 84), some (.int (nI t)), some (.int wh), none, none, none], [.int 0, .int 115, .int 101, .int 104, .int 99, .int 97, .int 101, .int 116, .ref 84, .ref 84], (HD, m_0, w_0, mr))) rfl ?_
  refine wp_calv (as := [.int 116, .int 101, .int 97, .int 99, .int 104, .int 101, .int 115, .int 0]) rfl rfl rfl (Nat.le_of_ble_eq_true rfl) ⟨by decide, rfl⟩ ((rw_teaches (ml := w_0) hM g0)) (by decide) ?_
  rintro _ _ ⟨rfl, rfl⟩
  show aWP _ _ (33, [some (.ref 84), some (.int (nI t)), some (.int wh), none, none, none], [.int (if (stP (txB mi t n) n (rdS v0)).2.2.1 = 3 then (1 : Int32) else 0), .ref 84], (HD, m_0, w_0, mr)) _
  refine wp_calv (as := [.int (if (stP (txB mi t n) n (rdS v0)).2.2.1 = 3 then (1 : Int32) else 0)]) rfl rfl rfl (Nat.le_of_ble_eq_true rfl) ⟨by decide, rfl⟩ ((r_part hM hnn (key := 3) (by decide) (by decide) g0 n0)) (by decide) ?_
  rintro _ _ ⟨v_1, m_1, w_1, rfl, rfl, f1, k1⟩
  change RES (txB mi t n) n t 0 nm 31 m_1 w_1 (stP (txB mi t n) n (rdS v0)) (r1F (txB mi t n) n v0) v_1 at k1
  have d1 := d0.R f1
  have n1 := n0.fr f1
  show aWP _ _ (34, [some (.ref 84), some (.int (nI t)), some (.int wh), none, none, none], [.int v_1], (HD, m_1, w_1, mr)) _
  by_cases hF1 : (r1F (txB mi t n) n v0).1 = true
  · obtain ⟨g1, go1⟩ := k1.1 hF1
    refine wp_steps 2 (t' := (36, [some (.ref 84), some (.int (nI t)), some (.int wh), some (.int v_1), none, none], [.ref 84], (HD, m_1, w_1, mr))) rfl ?_
    refine wp_geti rfl ⟨by decide, rfl⟩ (Or.inr rfl) ?_
    refine wp_bI rfl (fun c_11 => ?_) (fun c_11 => ?_)
    rotate_left
    · have c_11 : ¬ ((m_1 84 26) = 0) := of_decide_eq_false c_11
      exact absurd g1.2.2.2.2 c_11
    have c_11 : (m_1 84 26) = 0 := of_decide_eq_true c_11
    refine wp_steps 10 (t' := (50, [some (.ref 84), some (.int (nI t)), some (.int wh), some (.int v_1), none, none], [.int 0, .int 0, .int 0, .int 115, .int 101, .int 100, .int 97, .int 102, .ref 84, .ref 84], (HD, m_1, w_1, mr))) rfl ?_
    refine wp_calv (as := [.int 102, .int 97, .int 100, .int 101, .int 115, .int 0, .int 0, .int 0]) rfl rfl rfl (Nat.le_of_ble_eq_true rfl) ⟨by decide, rfl⟩ ((rw_fades (ml := w_1) hM g1)) (by decide) ?_
    rintro _ _ ⟨rfl, rfl⟩
    show aWP _ _ (51, [some (.ref 84), some (.int (nI t)), some (.int wh), some (.int v_1), none, none], [.int (if (r1F (txB mi t n) n v0).2.2.2.1 = 4 then (1 : Int32) else 0), .ref 84], (HD, m_1, w_1, mr)) _
    refine wp_calv (as := [.int (if (r1F (txB mi t n) n v0).2.2.2.1 = 4 then (1 : Int32) else 0)]) rfl rfl rfl (Nat.le_of_ble_eq_true rfl) ⟨by decide, rfl⟩ ((r_part hM hnn (key := 4) (by decide) (by decide) g1 n1)) (by decide) ?_
    rintro _ _ ⟨v_2, m_2, w_2, rfl, rfl, f2, k2⟩
    change RES (txB mi t n) n t 0 nm 31 m_2 w_2 (r1F (txB mi t n) n v0).2 (r2F (txB mi t n) n v0) v_2 at k2
    have d2 := d1.R f2
    have n2 := n1.fr f2
    show aWP _ _ (52, [some (.ref 84), some (.int (nI t)), some (.int wh), some (.int v_1), none, none], [.int v_2], (HD, m_2, w_2, mr)) _
    by_cases hF2 : (r2F (txB mi t n) n v0).1 = true
    · obtain ⟨g2, go2⟩ := k2.1 hF2
      refine wp_steps 2 (t' := (54, [some (.ref 84), some (.int (nI t)), some (.int wh), some (.int v_1), some (.int v_2), none], [.ref 84], (HD, m_2, w_2, mr))) rfl ?_
      refine wp_geti rfl ⟨by decide, rfl⟩ (Or.inr rfl) ?_
      refine wp_bI rfl (fun c_12 => ?_) (fun c_12 => ?_)
      rotate_left
      · have c_12 : ¬ ((m_2 84 26) = 0) := of_decide_eq_false c_12
        exact absurd g2.2.2.2.2 c_12
      have c_12 : (m_2 84 26) = 0 := of_decide_eq_true c_12
      refine wp_steps 10 (t' := (68, [some (.ref 84), some (.int (nI t)), some (.int wh), some (.int v_1), some (.int v_2), none], [.int 0, .int 0, .int 115, .int 101, .int 118, .int 114, .int 101, .int 110, .ref 84, .ref 84], (HD, m_2, w_2, mr))) rfl ?_
      refine wp_calv (as := [.int 110, .int 101, .int 114, .int 118, .int 101, .int 115, .int 0, .int 0]) rfl rfl rfl (Nat.le_of_ble_eq_true rfl) ⟨by decide, rfl⟩ ((rw_nerves (ml := w_2) hM g2)) (by decide) ?_
      rintro _ _ ⟨rfl, rfl⟩
      show aWP _ _ (69, [some (.ref 84), some (.int (nI t)), some (.int wh), some (.int v_1), some (.int v_2), none], [.int (if (r2F (txB mi t n) n v0).2.2.2.1 = 5 then (1 : Int32) else 0), .ref 84], (HD, m_2, w_2, mr)) _
      refine wp_calv (as := [.int (if (r2F (txB mi t n) n v0).2.2.2.1 = 5 then (1 : Int32) else 0)]) rfl rfl rfl (Nat.le_of_ble_eq_true rfl) ⟨by decide, rfl⟩ ((r_part hM hnn (key := 5) (by decide) (by decide) g2 n2)) (by decide) ?_
      rintro _ _ ⟨v_3, m_3, w_3, rfl, rfl, f3, k3⟩
      change RES (txB mi t n) n t 0 nm 31 m_3 w_3 (r2F (txB mi t n) n v0).2 (r3F (txB mi t n) n v0) v_3 at k3
      have d3 := d2.R f3
      have n3 := n2.fr f3
      show aWP _ _ (70, [some (.ref 84), some (.int (nI t)), some (.int wh), some (.int v_1), some (.int v_2), none], [.int v_3], (HD, m_3, w_3, mr)) _
      by_cases hF3 : (r3F (txB mi t n) n v0).1 = true
      · obtain ⟨g3, go3⟩ := k3.1 hF3
        refine wp_steps 2 (t' := (72, [some (.ref 84), some (.int (nI t)), some (.int wh), some (.int v_1), some (.int v_2), some (.int v_3)], [.ref 84], (HD, m_3, w_3, mr))) rfl ?_
        refine wp_geti rfl ⟨by decide, rfl⟩ (Or.inr rfl) ?_
        refine wp_bI rfl (fun c_13 => ?_) (fun c_13 => ?_)
        · have c_13 : ¬ (m_3 84 26) = 0 := of_decide_eq_true c_13
          exact absurd g3.2.2.2.2 c_13
        have c_13 : (m_3 84 26) = 0 := Decidable.not_not.mp (of_decide_eq_false c_13)
        refine wp_steps 1 (t' := (75, [some (.ref 84), some (.int (nI t)), some (.int wh), some (.int v_1), some (.int v_2), some (.int v_3)], [.ref 84], (HD, m_3, w_3, mr))) rfl ?_
        refine wp_geti rfl ⟨by decide, rfl⟩ (Or.inl rfl) ?_
        refine wp_bI rfl (fun c_14 => ?_) (fun c_14 => ?_)
        · have c_14 : (m_3 84 22) = 0 := of_decide_eq_true c_14
          refine wp_steps 1 (t' := (80, [some (.ref 84), some (.int (nI t)), some (.int wh), some (.int v_1), some (.int v_2), some (.int v_3)], [.int wh], (HD, m_3, w_3, mr))) rfl ?_
          refine wp_bI rfl (fun c_15 => ?_) (fun c_15 => ?_)
          · have c_15 : ¬ wh = 0 := of_decide_eq_true c_15
            refine wp_steps 2 (t' := (85, [some (.ref 84), some (.int (nI t)), some (.int wh), some (.int v_1), some (.int v_2), some (.int v_3)], [.int 1, .int wh], (HD, m_3, w_3, mr))) rfl ?_
            refine wp_bC rfl (fun c_16 => ?_) (fun c_16 => ?_)
            · have c_16 : ¬ wh = 1 := of_decide_eq_true c_16
              refine wp_steps 1 (t' := (89, [some (.ref 84), some (.int (nI t)), some (.int wh), some (.int v_1), some (.int v_2), some (.int v_3)], [.int v_3], (HD, m_3, w_3, mr))) rfl ?_
              refine wp_ret rfl rfl ⟨⟨Nat.le_refl _, Nat.le_refl _⟩, ?_⟩
              have q : (r3F (txB mi t n) n v0).2.2.2.1 = 0 := g3.T.trans (rt_0.mp (g3.r.symm.trans c_14))
              have e : rfF (txB mi t n) n v0 = (true, 0) := by unfold rfF; rw [if_pos hF1, if_pos hF2, if_pos hF3, if_pos q]
              refine ⟨_, _, _, rfl, rfl, d3, ?_⟩
              unfold rfE
              rw [e]
              exact ⟨fun _ => ⟨g3.2.2.2.2, v_1, v_2, v_3, go1, go2, go3, by rw [if_neg c_15, if_neg c_16]⟩, fun z => Bool.noConfusion z⟩
            · have c_16 : wh = 1 := Decidable.not_not.mp (of_decide_eq_false c_16)
              refine wp_steps 2 (t' := (89, [some (.ref 84), some (.int (nI t)), some (.int wh), some (.int v_1), some (.int v_2), some (.int v_3)], [.int v_2], (HD, m_3, w_3, mr))) rfl ?_
              refine wp_ret rfl rfl ⟨⟨Nat.le_refl _, Nat.le_refl _⟩, ?_⟩
              have q : (r3F (txB mi t n) n v0).2.2.2.1 = 0 := g3.T.trans (rt_0.mp (g3.r.symm.trans c_14))
              have e : rfF (txB mi t n) n v0 = (true, 0) := by unfold rfF; rw [if_pos hF1, if_pos hF2, if_pos hF3, if_pos q]
              refine ⟨_, _, _, rfl, rfl, d3, ?_⟩
              unfold rfE
              rw [e]
              exact ⟨fun _ => ⟨g3.2.2.2.2, v_1, v_2, v_3, go1, go2, go3, by rw [if_neg c_15, if_pos c_16]⟩, fun z => Bool.noConfusion z⟩
          · have c_15 : wh = 0 := Decidable.not_not.mp (of_decide_eq_false c_15)
            refine wp_steps 2 (t' := (89, [some (.ref 84), some (.int (nI t)), some (.int wh), some (.int v_1), some (.int v_2), some (.int v_3)], [.int v_1], (HD, m_3, w_3, mr))) rfl ?_
            refine wp_ret rfl rfl ⟨⟨Nat.le_refl _, Nat.le_refl _⟩, ?_⟩
            have q : (r3F (txB mi t n) n v0).2.2.2.1 = 0 := g3.T.trans (rt_0.mp (g3.r.symm.trans c_14))
            have e : rfF (txB mi t n) n v0 = (true, 0) := by unfold rfF; rw [if_pos hF1, if_pos hF2, if_pos hF3, if_pos q]
            refine ⟨_, _, _, rfl, rfl, d3, ?_⟩
            unfold rfE
            rw [e]
            exact ⟨fun _ => ⟨g3.2.2.2.2, v_1, v_2, v_3, go1, go2, go3, by rw [if_pos c_15]⟩, fun z => Bool.noConfusion z⟩
        · have c_14 : ¬ ((m_3 84 22) = 0) := of_decide_eq_false c_14
          refine wp_steps 1 (t' := (78, [some (.ref 84), some (.int (nI t)), some (.int wh), some (.int v_1), some (.int v_2), some (.int v_3)], [.ref 84], (HD, m_3, w_3, mr))) rfl ?_
          refine wp_calv (as := []) rfl rfl rfl (Nat.le_of_ble_eq_true rfl) ⟨by decide, rfl⟩ ((r_fail (ml := w_3) hM g3)) (by decide) ?_
          rintro _ _ ⟨rfl, m_9, rfl, f9, g9⟩
          show aWP _ _ (79, [some (.ref 84), some (.int (nI t)), some (.int wh), some (.int v_1), some (.int v_2), some (.int v_3)], [], (HD, m_9, w_3, mr)) _
          skip
          · skip
            refine wp_steps 1 (t' := (80, [some (.ref 84), some (.int (nI t)), some (.int wh), some (.int v_1), some (.int v_2), some (.int v_3)], [.int wh], (HD, m_9, w_3, mr))) rfl ?_
            refine wp_bI rfl (fun c_17 => ?_) (fun c_17 => ?_)
            · have c_17 : ¬ wh = 0 := of_decide_eq_true c_17
              refine wp_steps 2 (t' := (85, [some (.ref 84), some (.int (nI t)), some (.int wh), some (.int v_1), some (.int v_2), some (.int v_3)], [.int 1, .int wh], (HD, m_9, w_3, mr))) rfl ?_
              refine wp_bC rfl (fun c_18 => ?_) (fun c_18 => ?_)
              · have c_18 : ¬ wh = 1 := of_decide_eq_true c_18
                refine wp_steps 1 (t' := (89, [some (.ref 84), some (.int (nI t)), some (.int wh), some (.int v_1), some (.int v_2), some (.int v_3)], [.int v_3], (HD, m_9, w_3, mr))) rfl ?_
                refine wp_ret rfl rfl ⟨⟨Nat.le_refl _, Nat.le_refl _⟩, ?_⟩
                have q : ¬ (r3F (txB mi t n) n v0).2.2.2.1 = 0 := fun z => c_14 (g3.r.trans (rt_0.mpr (g3.T.symm.trans z)))
                have e : rfF (txB mi t n) n v0 = (false, (r3F (txB mi t n) n v0).2.1) := by unfold rfF; rw [if_pos hF1, if_pos hF2, if_pos hF3, if_neg q]
                refine ⟨_, _, _, rfl, rfl, (d3.R f9), ?_⟩
                unfold rfE
                rw [e]
                exact ⟨fun z => Bool.noConfusion z, fun _ => ⟨g9.2.1, g9.2.2⟩⟩
              · have c_18 : wh = 1 := Decidable.not_not.mp (of_decide_eq_false c_18)
                refine wp_steps 2 (t' := (89, [some (.ref 84), some (.int (nI t)), some (.int wh), some (.int v_1), some (.int v_2), some (.int v_3)], [.int v_2], (HD, m_9, w_3, mr))) rfl ?_
                refine wp_ret rfl rfl ⟨⟨Nat.le_refl _, Nat.le_refl _⟩, ?_⟩
                have q : ¬ (r3F (txB mi t n) n v0).2.2.2.1 = 0 := fun z => c_14 (g3.r.trans (rt_0.mpr (g3.T.symm.trans z)))
                have e : rfF (txB mi t n) n v0 = (false, (r3F (txB mi t n) n v0).2.1) := by unfold rfF; rw [if_pos hF1, if_pos hF2, if_pos hF3, if_neg q]
                refine ⟨_, _, _, rfl, rfl, (d3.R f9), ?_⟩
                unfold rfE
                rw [e]
                exact ⟨fun z => Bool.noConfusion z, fun _ => ⟨g9.2.1, g9.2.2⟩⟩
            · have c_17 : wh = 0 := Decidable.not_not.mp (of_decide_eq_false c_17)
              refine wp_steps 2 (t' := (89, [some (.ref 84), some (.int (nI t)), some (.int wh), some (.int v_1), some (.int v_2), some (.int v_3)], [.int v_1], (HD, m_9, w_3, mr))) rfl ?_
              refine wp_ret rfl rfl ⟨⟨Nat.le_refl _, Nat.le_refl _⟩, ?_⟩
              have q : ¬ (r3F (txB mi t n) n v0).2.2.2.1 = 0 := fun z => c_14 (g3.r.trans (rt_0.mpr (g3.T.symm.trans z)))
              have e : rfF (txB mi t n) n v0 = (false, (r3F (txB mi t n) n v0).2.1) := by unfold rfF; rw [if_pos hF1, if_pos hF2, if_pos hF3, if_neg q]
              refine ⟨_, _, _, rfl, rfl, (d3.R f9), ?_⟩
              unfold rfE
              rw [e]
              exact ⟨fun z => Bool.noConfusion z, fun _ => ⟨g9.2.1, g9.2.2⟩⟩
      · have g3 := k3.2 (Bool.eq_false_iff.mpr hF3)
        refine wp_steps 2 (t' := (72, [some (.ref 84), some (.int (nI t)), some (.int wh), some (.int v_1), some (.int v_2), some (.int v_3)], [.ref 84], (HD, m_3, w_3, mr))) rfl ?_
        refine wp_geti rfl ⟨by decide, rfl⟩ (Or.inr rfl) ?_
        refine wp_bI rfl (fun c_19 => ?_) (fun c_19 => ?_)
        rotate_left
        · have c_19 : (m_3 84 26) = 0 := Decidable.not_not.mp (of_decide_eq_false c_19)
          exact absurd c_19 g3.b
        have c_19 : ¬ (m_3 84 26) = 0 := of_decide_eq_true c_19
        refine wp_steps 1 (t' := (80, [some (.ref 84), some (.int (nI t)), some (.int wh), some (.int v_1), some (.int v_2), some (.int v_3)], [.int wh], (HD, m_3, w_3, mr))) rfl ?_
        refine wp_bI rfl (fun c_20 => ?_) (fun c_20 => ?_)
        · have c_20 : ¬ wh = 0 := of_decide_eq_true c_20
          refine wp_steps 2 (t' := (85, [some (.ref 84), some (.int (nI t)), some (.int wh), some (.int v_1), some (.int v_2), some (.int v_3)], [.int 1, .int wh], (HD, m_3, w_3, mr))) rfl ?_
          refine wp_bC rfl (fun c_21 => ?_) (fun c_21 => ?_)
          · have c_21 : ¬ wh = 1 := of_decide_eq_true c_21
            refine wp_steps 1 (t' := (89, [some (.ref 84), some (.int (nI t)), some (.int wh), some (.int v_1), some (.int v_2), some (.int v_3)], [.int v_3], (HD, m_3, w_3, mr))) rfl ?_
            refine wp_ret rfl rfl ⟨⟨Nat.le_refl _, Nat.le_refl _⟩, ?_⟩
            have e : rfF (txB mi t n) n v0 = (false, (r3F (txB mi t n) n v0).2.1) := by unfold rfF; rw [if_pos hF1, if_pos hF2, if_neg hF3]
            refine ⟨_, _, _, rfl, rfl, d3, ?_⟩
            unfold rfE
            rw [e]
            exact ⟨fun z => Bool.noConfusion z, fun _ => ⟨g3.2.1, g3.2.2⟩⟩
          · have c_21 : wh = 1 := Decidable.not_not.mp (of_decide_eq_false c_21)
            refine wp_steps 2 (t' := (89, [some (.ref 84), some (.int (nI t)), some (.int wh), some (.int v_1), some (.int v_2), some (.int v_3)], [.int v_2], (HD, m_3, w_3, mr))) rfl ?_
            refine wp_ret rfl rfl ⟨⟨Nat.le_refl _, Nat.le_refl _⟩, ?_⟩
            have e : rfF (txB mi t n) n v0 = (false, (r3F (txB mi t n) n v0).2.1) := by unfold rfF; rw [if_pos hF1, if_pos hF2, if_neg hF3]
            refine ⟨_, _, _, rfl, rfl, d3, ?_⟩
            unfold rfE
            rw [e]
            exact ⟨fun z => Bool.noConfusion z, fun _ => ⟨g3.2.1, g3.2.2⟩⟩
        · have c_20 : wh = 0 := Decidable.not_not.mp (of_decide_eq_false c_20)
          refine wp_steps 2 (t' := (89, [some (.ref 84), some (.int (nI t)), some (.int wh), some (.int v_1), some (.int v_2), some (.int v_3)], [.int v_1], (HD, m_3, w_3, mr))) rfl ?_
          refine wp_ret rfl rfl ⟨⟨Nat.le_refl _, Nat.le_refl _⟩, ?_⟩
          have e : rfF (txB mi t n) n v0 = (false, (r3F (txB mi t n) n v0).2.1) := by unfold rfF; rw [if_pos hF1, if_pos hF2, if_neg hF3]
          refine ⟨_, _, _, rfl, rfl, d3, ?_⟩
          unfold rfE
          rw [e]
          exact ⟨fun z => Bool.noConfusion z, fun _ => ⟨g3.2.1, g3.2.2⟩⟩
    · have g2 := k2.2 (Bool.eq_false_iff.mpr hF2)
      refine wp_steps 2 (t' := (54, [some (.ref 84), some (.int (nI t)), some (.int wh), some (.int v_1), some (.int v_2), none], [.ref 84], (HD, m_2, w_2, mr))) rfl ?_
      refine wp_geti rfl ⟨by decide, rfl⟩ (Or.inr rfl) ?_
      refine wp_bI rfl (fun c_22 => ?_) (fun c_22 => ?_)
      · have c_22 : (m_2 84 26) = 0 := of_decide_eq_true c_22
        exact absurd c_22 g2.b
      have c_22 : ¬ ((m_2 84 26) = 0) := of_decide_eq_false c_22
      refine wp_steps 4 (t' := (72, [some (.ref 84), some (.int (nI t)), some (.int wh), some (.int v_1), some (.int v_2), some (.int 0)], [.ref 84], (HD, m_2, w_2, mr))) rfl ?_
      refine wp_geti rfl ⟨by decide, rfl⟩ (Or.inr rfl) ?_
      refine wp_bI rfl (fun c_23 => ?_) (fun c_23 => ?_)
      rotate_left
      · have c_23 : (m_2 84 26) = 0 := Decidable.not_not.mp (of_decide_eq_false c_23)
        exact absurd c_23 g2.b
      have c_23 : ¬ (m_2 84 26) = 0 := of_decide_eq_true c_23
      refine wp_steps 1 (t' := (80, [some (.ref 84), some (.int (nI t)), some (.int wh), some (.int v_1), some (.int v_2), some (.int 0)], [.int wh], (HD, m_2, w_2, mr))) rfl ?_
      refine wp_bI rfl (fun c_24 => ?_) (fun c_24 => ?_)
      · have c_24 : ¬ wh = 0 := of_decide_eq_true c_24
        refine wp_steps 2 (t' := (85, [some (.ref 84), some (.int (nI t)), some (.int wh), some (.int v_1), some (.int v_2), some (.int 0)], [.int 1, .int wh], (HD, m_2, w_2, mr))) rfl ?_
        refine wp_bC rfl (fun c_25 => ?_) (fun c_25 => ?_)
        · have c_25 : ¬ wh = 1 := of_decide_eq_true c_25
          refine wp_steps 1 (t' := (89, [some (.ref 84), some (.int (nI t)), some (.int wh), some (.int v_1), some (.int v_2), some (.int 0)], [.int 0], (HD, m_2, w_2, mr))) rfl ?_
          refine wp_ret rfl rfl ⟨⟨Nat.le_refl _, Nat.le_refl _⟩, ?_⟩
          have e : rfF (txB mi t n) n v0 = (false, (r2F (txB mi t n) n v0).2.1) := by unfold rfF; rw [if_pos hF1, if_neg hF2]
          refine ⟨_, _, _, rfl, rfl, d2, ?_⟩
          unfold rfE
          rw [e]
          exact ⟨fun z => Bool.noConfusion z, fun _ => ⟨g2.2.1, g2.2.2⟩⟩
        · have c_25 : wh = 1 := Decidable.not_not.mp (of_decide_eq_false c_25)
          refine wp_steps 2 (t' := (89, [some (.ref 84), some (.int (nI t)), some (.int wh), some (.int v_1), some (.int v_2), some (.int 0)], [.int v_2], (HD, m_2, w_2, mr))) rfl ?_
          refine wp_ret rfl rfl ⟨⟨Nat.le_refl _, Nat.le_refl _⟩, ?_⟩
          have e : rfF (txB mi t n) n v0 = (false, (r2F (txB mi t n) n v0).2.1) := by unfold rfF; rw [if_pos hF1, if_neg hF2]
          refine ⟨_, _, _, rfl, rfl, d2, ?_⟩
          unfold rfE
          rw [e]
          exact ⟨fun z => Bool.noConfusion z, fun _ => ⟨g2.2.1, g2.2.2⟩⟩
      · have c_24 : wh = 0 := Decidable.not_not.mp (of_decide_eq_false c_24)
        refine wp_steps 2 (t' := (89, [some (.ref 84), some (.int (nI t)), some (.int wh), some (.int v_1), some (.int v_2), some (.int 0)], [.int v_1], (HD, m_2, w_2, mr))) rfl ?_
        refine wp_ret rfl rfl ⟨⟨Nat.le_refl _, Nat.le_refl _⟩, ?_⟩
        have e : rfF (txB mi t n) n v0 = (false, (r2F (txB mi t n) n v0).2.1) := by unfold rfF; rw [if_pos hF1, if_neg hF2]
        refine ⟨_, _, _, rfl, rfl, d2, ?_⟩
        unfold rfE
        rw [e]
        exact ⟨fun z => Bool.noConfusion z, fun _ => ⟨g2.2.1, g2.2.2⟩⟩
  · have g1 := k1.2 (Bool.eq_false_iff.mpr hF1)
    refine wp_steps 2 (t' := (36, [some (.ref 84), some (.int (nI t)), some (.int wh), some (.int v_1), none, none], [.ref 84], (HD, m_1, w_1, mr))) rfl ?_
    refine wp_geti rfl ⟨by decide, rfl⟩ (Or.inr rfl) ?_
    refine wp_bI rfl (fun c_26 => ?_) (fun c_26 => ?_)
    · have c_26 : (m_1 84 26) = 0 := of_decide_eq_true c_26
      exact absurd c_26 g1.b
    have c_26 : ¬ ((m_1 84 26) = 0) := of_decide_eq_false c_26
    refine wp_steps 4 (t' := (54, [some (.ref 84), some (.int (nI t)), some (.int wh), some (.int v_1), some (.int 0), none], [.ref 84], (HD, m_1, w_1, mr))) rfl ?_
    refine wp_geti rfl ⟨by decide, rfl⟩ (Or.inr rfl) ?_
    refine wp_bI rfl (fun c_27 => ?_) (fun c_27 => ?_)
    · have c_27 : (m_1 84 26) = 0 := of_decide_eq_true c_27
      exact absurd c_27 g1.b
    have c_27 : ¬ ((m_1 84 26) = 0) := of_decide_eq_false c_27
    refine wp_steps 4 (t' := (72, [some (.ref 84), some (.int (nI t)), some (.int wh), some (.int v_1), some (.int 0), some (.int 0)], [.ref 84], (HD, m_1, w_1, mr))) rfl ?_
    refine wp_geti rfl ⟨by decide, rfl⟩ (Or.inr rfl) ?_
    refine wp_bI rfl (fun c_28 => ?_) (fun c_28 => ?_)
    rotate_left
    · have c_28 : (m_1 84 26) = 0 := Decidable.not_not.mp (of_decide_eq_false c_28)
      exact absurd c_28 g1.b
    have c_28 : ¬ (m_1 84 26) = 0 := of_decide_eq_true c_28
    refine wp_steps 1 (t' := (80, [some (.ref 84), some (.int (nI t)), some (.int wh), some (.int v_1), some (.int 0), some (.int 0)], [.int wh], (HD, m_1, w_1, mr))) rfl ?_
    refine wp_bI rfl (fun c_29 => ?_) (fun c_29 => ?_)
    · have c_29 : ¬ wh = 0 := of_decide_eq_true c_29
      refine wp_steps 2 (t' := (85, [some (.ref 84), some (.int (nI t)), some (.int wh), some (.int v_1), some (.int 0), some (.int 0)], [.int 1, .int wh], (HD, m_1, w_1, mr))) rfl ?_
      refine wp_bC rfl (fun c_30 => ?_) (fun c_30 => ?_)
      · have c_30 : ¬ wh = 1 := of_decide_eq_true c_30
        refine wp_steps 1 (t' := (89, [some (.ref 84), some (.int (nI t)), some (.int wh), some (.int v_1), some (.int 0), some (.int 0)], [.int 0], (HD, m_1, w_1, mr))) rfl ?_
        refine wp_ret rfl rfl ⟨⟨Nat.le_refl _, Nat.le_refl _⟩, ?_⟩
        have e : rfF (txB mi t n) n v0 = (false, (r1F (txB mi t n) n v0).2.1) := by unfold rfF; rw [if_neg hF1]
        refine ⟨_, _, _, rfl, rfl, d1, ?_⟩
        unfold rfE
        rw [e]
        exact ⟨fun z => Bool.noConfusion z, fun _ => ⟨g1.2.1, g1.2.2⟩⟩
      · have c_30 : wh = 1 := Decidable.not_not.mp (of_decide_eq_false c_30)
        refine wp_steps 2 (t' := (89, [some (.ref 84), some (.int (nI t)), some (.int wh), some (.int v_1), some (.int 0), some (.int 0)], [.int 0], (HD, m_1, w_1, mr))) rfl ?_
        refine wp_ret rfl rfl ⟨⟨Nat.le_refl _, Nat.le_refl _⟩, ?_⟩
        have e : rfF (txB mi t n) n v0 = (false, (r1F (txB mi t n) n v0).2.1) := by unfold rfF; rw [if_neg hF1]
        refine ⟨_, _, _, rfl, rfl, d1, ?_⟩
        unfold rfE
        rw [e]
        exact ⟨fun z => Bool.noConfusion z, fun _ => ⟨g1.2.1, g1.2.2⟩⟩
    · have c_29 : wh = 0 := Decidable.not_not.mp (of_decide_eq_false c_29)
      refine wp_steps 2 (t' := (89, [some (.ref 84), some (.int (nI t)), some (.int wh), some (.int v_1), some (.int 0), some (.int 0)], [.int v_1], (HD, m_1, w_1, mr))) rfl ?_
      refine wp_ret rfl rfl ⟨⟨Nat.le_refl _, Nat.le_refl _⟩, ?_⟩
      have e : rfF (txB mi t n) n v0 = (false, (r1F (txB mi t n) n v0).2.1) := by unfold rfF; rw [if_neg hF1]
      refine ⟨_, _, _, rfl, rfl, d1, ?_⟩
      unfold rfE
      rw [e]
      exact ⟨fun z => Bool.noConfusion z, fun _ => ⟨g1.2.1, g1.2.2⟩⟩
