/-! the reference's parser, its six levels (written by wip/whole/mkref5.py) -/
theorem RS.stad {b : Nat → Int32} {n t op o2 : Nat} {m m2 : Nat → Nat → Int32} {w w2 : Nat → Nat → Int64} {s : pS} {c : Int32} (h : RS b n t op m w s) (hT : ¬ s.2.2.1 = 0) (h2 : RS b n t o2 m2 w2 (stP b n s)) : RS b n t o2 m2 w2 (stP b n (adP c s)) := by
  have hlt := h.lt hT
  have hlen := h.2.2.1.2.2.2.2
  have hst := h.st.1 hlt
  have h160 := h.1.1.2.2.2
  have e : adP c s = (s.1, s.2.1, s.2.2.1, s.2.2.2.1, s.2.2.2.2 ++ [c]) := if_pos (by omega)
  rw [e]
  obtain ⟨hB, hk, ⟨a1, a2, a3, a4, a5⟩, ho, hb⟩ := h2
  refine ⟨hB, hk, ⟨a1, a2, a3, a4, ?_⟩, ho, hb⟩
  show (s.2.2.2.2 ++ [c]).length ≤ (stP b n s).1
  rw [List.length_append]
  simp only [List.length_cons, List.length_nil]
  omega
theorem RS.T {b : Nat → Int32} {n t op : Nat} {m : Nat → Nat → Int32} {w : Nat → Nat → Int64} {s : pS} (h : RS b n t op m w s) : s.2.2.1 = lxT b n s.1 := h.2.2.1.2.2.1
theorem RS.r {b : Nat → Int32} {n t op : Nat} {m : Nat → Nat → Int32} {w : Nat → Nat → Int64} {s : pS} (h : RS b n t op m w s) : m 84 22 = rtF b n s.1 := h.2.1.2.2.1
theorem nD6 {b : Nat → Int32} {n a : Nat} (h : ¬ rtF b n a = 1) : ¬ D6 (lxT b n a) := by
  intro z
  unfold D6 at z
  rcases z with z | z | z | z | z | z
  · exact nw_skill h z
  · exact nw_hard h z
  · exact nw_help h z
  · exact nw_number h z
  · exact nw_day h z
  · exact nw_done h z
theorem RS.sg {b : Nat → Int32} {n t op : Nat} {m : Nat → Nat → Int32} {w : Nat → Nat → Int64} {s : pS} (h : RS b n t op m w s) {c : Int32} (hc : sgn c) (hT : s.2.2.1 = c) : w 84 24 = c.toInt64 := by
  have q := (sg_iff hc).mpr (h.T.symm.trans hT)
  rw [h.2.1.2.2.2.2.2 q.1, q.2]
set_option maxRecDepth 20000 in
set_option maxHeartbeats 1000000 in
theorem r_atom5 {X : aXt × Value} {mr : Nat → Nat → Option Nat} (hM : MRok mr) {b : Nat → Int32} {n t : Nat} (hnn : nnB b n) {nm : Nat → Int32} {d : Nat} (hd : 4 ≤ d)  : cwR X mr b n t 5 nm (d + 1) 133 1 (onF b n none) := by
  intro m w s h hnm
  refine cw_of (cd := cd_X7_atom5) (nL := 2) rfl rfl ?_
  show aWP _ _ (0, [some (.ref 84), none], [], (HD, m, w, mr)) _
  refine wp_steps 4 (t' := (4, [some (.ref 84), some (.int 0)], [.int 45, .ref 84], (HD, m, w, mr))) rfl ?_
  refine wp_calv (as := [.int 45]) rfl rfl rfl (Nat.le_of_ble_eq_true rfl) ⟨by decide, rfl⟩ ((r_sign (ml := w) hM h (c := 45) (by decide))) (by omega) ?_
  rintro _ _ ⟨rfl, rfl⟩
  show aWP _ _ (5, [some (.ref 84), some (.int 0)], [.int (if s.2.2.1 = 45 then (1 : Int32) else 0)], (HD, m, w, mr)) _
  refine wp_bI rfl (fun c_1 => ?_) (fun c_1 => ?_)
  · have c_1 : (if s.2.2.1 = 45 then (1 : Int32) else 0) = 0 := of_decide_eq_true c_1
    refine wp_steps 2 (t' := (12, [some (.ref 84), some (.int 0)], [.int 40, .ref 84], (HD, m, w, mr))) rfl ?_
    refine wp_calv (as := [.int 40]) rfl rfl rfl (Nat.le_of_ble_eq_true rfl) ⟨by decide, rfl⟩ ((r_sign (ml := w) hM h (c := 40) (by decide))) (by omega) ?_
    rintro _ _ ⟨rfl, rfl⟩
    show aWP _ _ (13, [some (.ref 84), some (.int 0)], [.int (if s.2.2.1 = 40 then (1 : Int32) else 0)], (HD, m, w, mr)) _
    refine wp_bI rfl (fun c_2 => ?_) (fun c_2 => ?_)
    · have c_2 : (if s.2.2.1 = 40 then (1 : Int32) else 0) = 0 := of_decide_eq_true c_2
      refine wp_steps 1 (t' := (19, [some (.ref 84), some (.int 0)], [.ref 84], (HD, m, w, mr))) rfl ?_
      refine wp_geti rfl ⟨by decide, rfl⟩ (Or.inr rfl) ?_
      refine wp_bI rfl (fun c_3 => ?_) (fun c_3 => ?_)
      · have c_3 : ¬ (m 84 26) = 0 := of_decide_eq_true c_3
        exact absurd h.2.2.2.2 c_3
      have c_3 : (m 84 26) = 0 := Decidable.not_not.mp (of_decide_eq_false c_3)
      refine wp_steps 1 (t' := (22, [some (.ref 84), some (.int 0)], [.ref 84], (HD, m, w, mr))) rfl ?_
      refine wp_geti rfl ⟨by decide, rfl⟩ (Or.inl rfl) ?_
      refine wp_steps 1 (t' := (24, [some (.ref 84), some (.int 0)], [.int 2, .int (m 84 22)], (HD, m, w, mr))) rfl ?_
      refine wp_bC rfl (fun c_4 => ?_) (fun c_4 => ?_)
      · have c_4 : ¬ (m 84 22) = 2 := of_decide_eq_true c_4
        refine wp_steps 1 (t' := (33, [some (.ref 84), some (.int 0)], [.ref 84], (HD, m, w, mr))) rfl ?_
        refine wp_geti rfl ⟨by decide, rfl⟩ (Or.inr rfl) ?_
        refine wp_bI rfl (fun c_5 => ?_) (fun c_5 => ?_)
        · have c_5 : ¬ (m 84 26) = 0 := of_decide_eq_true c_5
          exact absurd h.2.2.2.2 c_5
        have c_5 : (m 84 26) = 0 := Decidable.not_not.mp (of_decide_eq_false c_5)
        refine wp_steps 1 (t' := (36, [some (.ref 84), some (.int 0)], [.ref 84], (HD, m, w, mr))) rfl ?_
        refine wp_geti rfl ⟨by decide, rfl⟩ (Or.inl rfl) ?_
        refine wp_steps 1 (t' := (38, [some (.ref 84), some (.int 0)], [.int 1, .int (m 84 22)], (HD, m, w, mr))) rfl ?_
        refine wp_bC rfl (fun c_6 => ?_) (fun c_6 => ?_)
        · have c_6 : ¬ (m 84 22) = 1 := of_decide_eq_true c_6
          refine wp_steps 1 (t' := (49, [some (.ref 84), some (.int 0)], [.ref 84], (HD, m, w, mr))) rfl ?_
          refine wp_calv (as := []) rfl rfl rfl (Nat.le_of_ble_eq_true rfl) ⟨by decide, rfl⟩ ((r_fail (ml := w) hM h)) (by omega) ?_
          rintro _ _ ⟨rfl, m_3, rfl, f3, g3⟩
          show aWP _ _ (50, [some (.ref 84), some (.int 0)], [], (HD, m_3, w, mr)) _
          skip
          · skip
            refine wp_steps 1 (t' := (51, [some (.ref 84), some (.int 0)], [.int 0], (HD, m_3, w, mr))) rfl ?_
            refine wp_ret rfl rfl ⟨⟨Nat.le_refl _, Nat.le_refl _⟩, ?_⟩
            have hD : ¬ D6 s.2.2.1 := by rw [h.T]; exact nD6 (fun z => c_6 (h.r.trans z))
            have e := on_out (b := b) (n := n) (deep := none) (s := s) (fun z => c_4 (h.r.trans (rt_2.mpr (h.T.symm.trans z)))) hD (Or.inl rfl)
            refine ⟨_, _, _, rfl, rfl, f3, ?_⟩
            rw [e]
            exact ⟨fun z => Bool.noConfusion z, fun _ => g3⟩
        · have c_6 : (m 84 22) = 1 := Decidable.not_not.mp (of_decide_eq_false c_6)
          refine wp_steps 1 (t' := (40, [some (.ref 84), some (.int 0)], [.ref 84], (HD, m, w, mr))) rfl ?_
          refine wp_calv (as := []) rfl rfl rfl (Nat.le_of_ble_eq_true rfl) ⟨by decide, rfl⟩ ((r_name (ml := w) hM h)) (by omega) ?_
          rintro _ _ ⟨v_1, m_1, rfl, rfl, n1, n2⟩
          show aWP _ _ (41, [some (.ref 84), some (.int 0)], [.int v_1], (HD, m_1, w, mr)) _
          by_cases hD : D6 s.2.2.1
          · rw [(n1 hD).1, (n1 hD).2]
            refine wp_steps 2 (t' := (43, [some (.ref 84), some (.int (m 84 (s.2.2.1 + 3).toNatClampNeg))], [.ref 84], (HD, m, w, mr))) rfl ?_
            refine wp_geti rfl ⟨by decide, rfl⟩ (Or.inr rfl) ?_
            refine wp_bI rfl (fun c_7 => ?_) (fun c_7 => ?_)
            · have c_7 : ¬ (m 84 26) = 0 := of_decide_eq_true c_7
              exact absurd h.2.2.2.2 c_7
            have c_7 : (m 84 26) = 0 := Decidable.not_not.mp (of_decide_eq_false c_7)
            refine wp_steps 1 (t' := (46, [some (.ref 84), some (.int (m 84 (s.2.2.1 + 3).toNatClampNeg))], [.ref 84], (HD, m, w, mr))) rfl ?_
            refine wp_calv (as := []) rfl rfl rfl (Nat.le_of_ble_eq_true rfl) ⟨by decide, rfl⟩ ((r_next (ml := w) hM h hnn (by rw [← h.T]; intro z; rw [z] at hD; exact absurd hD (by decide)))) (by omega) ?_
            rintro _ _ ⟨rfl, m_4, w_4, rfl, f4, g4⟩
            show aWP _ _ (47, [some (.ref 84), some (.int (m 84 (s.2.2.1 + 3).toNatClampNeg))], [], (HD, m_4, w_4, mr)) _
            refine wp_steps 2 (t' := (51, [some (.ref 84), some (.int (m 84 (s.2.2.1 + 3).toNatClampNeg))], [.int (m 84 (s.2.2.1 + 3).toNatClampNeg)], (HD, m_4, w_4, mr))) rfl ?_
            refine wp_ret rfl rfl ⟨⟨Nat.le_refl _, Nat.le_refl _⟩, ?_⟩
            have e := on_nam (b := b) (n := n) (deep := none) (s := s) hD
            obtain ⟨q1, q2, q3, q4⟩ := nam_ok hD nm
            have hT0 : ¬ s.2.2.1 = 0 := fun z => by rw [z] at hD; exact absurd hD (by decide)
            refine ⟨_, _, _, rfl, rfl, f4, ?_⟩
            rw [e, q3, hnm _ q4]
            exact ⟨fun _ => ⟨h.stad hT0 g4, GO_one h hT0 (Or.inr (by have := h.lt hT0; have := h.2.2.1.2.2.2.2; have := h.1.1.2.2.2; omega)) q1 q2 (by decide)⟩, fun z => Bool.noConfusion z⟩
          · obtain ⟨f1, g1⟩ := n2 hD
            refine wp_steps 2 (t' := (43, [some (.ref 84), some (.int v_1)], [.ref 84], (HD, m_1, w, mr))) rfl ?_
            refine wp_geti rfl ⟨by decide, rfl⟩ (Or.inr rfl) ?_
            refine wp_bI rfl (fun c_8 => ?_) (fun c_8 => ?_)
            rotate_left
            · have c_8 : (m_1 84 26) = 0 := Decidable.not_not.mp (of_decide_eq_false c_8)
              exact absurd c_8 (RF.b (g1))
            have c_8 : ¬ (m_1 84 26) = 0 := of_decide_eq_true c_8
            refine wp_steps 1 (t' := (51, [some (.ref 84), some (.int v_1)], [.int v_1], (HD, m_1, w, mr))) rfl ?_
            refine wp_ret rfl rfl ⟨⟨Nat.le_refl _, Nat.le_refl _⟩, ?_⟩
            have e := on_out (b := b) (n := n) (deep := none) (s := s) (fun z => c_4 (h.r.trans (rt_2.mpr (h.T.symm.trans z)))) hD (Or.inl rfl)
            refine ⟨_, _, _, rfl, rfl, f1, ?_⟩
            rw [e]
            exact ⟨fun z => Bool.noConfusion z, fun _ => g1⟩
      · have c_4 : (m 84 22) = 2 := Decidable.not_not.mp (of_decide_eq_false c_4)
        refine wp_steps 1 (t' := (26, [some (.ref 84), some (.int 0)], [.ref 84], (HD, m, w, mr))) rfl ?_
        refine wp_getl rfl ⟨by decide, rfl⟩ rfl ?_
        refine wp_steps 1 (t' := (28, [some (.ref 84), some (.int 0)], [.int ((w 84 24).toInt32)], (HD, m, w, mr))) rfl ?_
        have hr2 : rtF b n s.1 = 2 := h.r.symm.trans c_4
        have hl2 := rt_2.mp hr2
        have eT : s.2.2.1 = 2 := h.T.trans hl2
        have ev : s.2.2.2.1 = nuF b (lxE b n s.1 - s.1) s.1 0 := h.2.2.1.2.2.2.1 hl2
        rw [show (w 84 24).toInt32 = s.2.2.2.1 from (h.2.1.2.2.2.2.1 hr2).trans ev.symm]
        refine wp_steps 2 (t' := (30, [some (.ref 84), some (.int s.2.2.2.1)], [.ref 84], (HD, m, w, mr))) rfl ?_
        refine wp_calv (as := []) rfl rfl rfl (Nat.le_of_ble_eq_true rfl) ⟨by decide, rfl⟩ ((r_next (ml := w) hM h hnn (by rw [hl2]; decide))) (by omega) ?_
        rintro _ _ ⟨rfl, m_4, w_4, rfl, f4, g4⟩
        show aWP _ _ (31, [some (.ref 84), some (.int s.2.2.2.1)], [], (HD, m_4, w_4, mr)) _
        refine wp_steps 2 (t' := (51, [some (.ref 84), some (.int s.2.2.2.1)], [.int s.2.2.2.1], (HD, m_4, w_4, mr))) rfl ?_
        refine wp_ret rfl rfl ⟨⟨Nat.le_refl _, Nat.le_refl _⟩, ?_⟩
        have e := on_num (b := b) (n := n) (deep := none) (s := s) eT
        have nv := nu_ok hl2 nm
        rw [← ev] at nv
        have hT0 : ¬ s.2.2.1 = 0 := by rw [eT]; decide
        refine ⟨_, _, _, rfl, rfl, f4, ?_⟩
        rw [e]
        exact ⟨fun _ => ⟨h.stad hT0 g4, GO_one h hT0 (Or.inr (by have := h.lt hT0; have := h.2.2.1.2.2.2.2; have := h.1.1.2.2.2; omega)) nv.1 nv.2 (by decide)⟩, fun z => Bool.noConfusion z⟩
    · have c_2 : ¬ ((if s.2.2.1 = 40 then (1 : Int32) else 0) = 0) := of_decide_eq_false c_2
      refine wp_steps 1 (t' := (15, [some (.ref 84), some (.int 0)], [.ref 84], (HD, m, w, mr))) rfl ?_
      refine wp_calv (as := []) rfl rfl rfl (Nat.le_of_ble_eq_true rfl) ⟨by decide, rfl⟩ ((r_opens_f (ml := w) hM h rfl)) (by omega) ?_
      rintro _ _ ⟨rfl, m_1, rfl, f1, g1⟩
      have eT : s.2.2.1 = 40 := i0_t c_2
      show aWP _ _ (16, [some (.ref 84), some (.int 0)], [.int 0], (HD, m_1, w, mr)) _
      skip
      · skip
        refine wp_steps 3 (t' := (51, [some (.ref 84), some (.int 0)], [.int 0], (HD, m_1, w, mr))) rfl ?_
        refine wp_ret rfl rfl ⟨⟨Nat.le_refl _, Nat.le_refl _⟩, ?_⟩
        have e := on_out (b := b) (n := n) (deep := none) (s := s) (by rw [eT]; decide) (by rw [eT]; decide) (Or.inl rfl)
        refine ⟨_, _, _, rfl, rfl, f1, ?_⟩
        rw [e]
        exact ⟨fun z => Bool.noConfusion z, fun _ => g1⟩
  · have c_1 : ¬ ((if s.2.2.1 = 45 then (1 : Int32) else 0) = 0) := of_decide_eq_false c_1
    refine wp_steps 1 (t' := (7, [some (.ref 84), some (.int 0)], [.ref 84], (HD, m, w, mr))) rfl ?_
    refine wp_calv (as := []) rfl rfl rfl (Nat.le_of_ble_eq_true rfl) ⟨by decide, rfl⟩ ((r_opens_f (ml := w) hM h rfl)) (by omega) ?_
    rintro _ _ ⟨rfl, m_1, rfl, f1, g1⟩
    have eT : s.2.2.1 = 45 := i0_t c_1
    show aWP _ _ (8, [some (.ref 84), some (.int 0)], [.int 0], (HD, m_1, w, mr)) _
    skip
    · skip
      refine wp_steps 3 (t' := (51, [some (.ref 84), some (.int 0)], [.int 0], (HD, m_1, w, mr))) rfl ?_
      refine wp_ret rfl rfl ⟨⟨Nat.le_refl _, Nat.le_refl _⟩, ?_⟩
      have e := on_out (b := b) (n := n) (deep := none) (s := s) (by rw [eT]; decide) (by rw [eT]; decide) (Or.inl rfl)
      refine ⟨_, _, _, rfl, rfl, f1, ?_⟩
      rw [e]
      exact ⟨fun z => Bool.noConfusion z, fun _ => g1⟩
set_option maxRecDepth 20000 in
set_option maxHeartbeats 1000000 in
theorem r_atom4 {X : aXt × Value} {mr : Nat → Nat → Option Nat} (hM : MRok mr) {b : Nat → Int32} {n t : Nat} (hnn : nnB b n) {nm : Nat → Int32} {d : Nat} (hd : 4 ≤ d) {q : pF × pF × pF} (h1 : cwR X mr b n t 5 nm d 138 6 q.1) (h2 : cwR X mr b n t 5 nm d 136 4 q.2.1) (h3 : cwR X mr b n t 5 nm d 133 1 q.2.2) : cwR X mr b n t 4 nm (d + 1) 139 6 (onF b n (some q)) := by
  intro m w s h hnm
  refine cw_of (cd := cd_X7_atom4) (nL := 2) rfl rfl ?_
  show aWP _ _ (0, [some (.ref 84), none], [], (HD, m, w, mr)) _
  refine wp_steps 4 (t' := (4, [some (.ref 84), some (.int 0)], [.int 45, .ref 84], (HD, m, w, mr))) rfl ?_
  refine wp_calv (as := [.int 45]) rfl rfl rfl (Nat.le_of_ble_eq_true rfl) ⟨by decide, rfl⟩ ((r_sign (ml := w) hM h (c := 45) (by decide))) (by omega) ?_
  rintro _ _ ⟨rfl, rfl⟩
  show aWP _ _ (5, [some (.ref 84), some (.int 0)], [.int (if s.2.2.1 = 45 then (1 : Int32) else 0)], (HD, m, w, mr)) _
  refine wp_bI rfl (fun c_1 => ?_) (fun c_1 => ?_)
  · have c_1 : (if s.2.2.1 = 45 then (1 : Int32) else 0) = 0 := of_decide_eq_true c_1
    refine wp_steps 2 (t' := (22, [some (.ref 84), some (.int 0)], [.int 40, .ref 84], (HD, m, w, mr))) rfl ?_
    refine wp_calv (as := [.int 40]) rfl rfl rfl (Nat.le_of_ble_eq_true rfl) ⟨by decide, rfl⟩ ((r_sign (ml := w) hM h (c := 40) (by decide))) (by omega) ?_
    rintro _ _ ⟨rfl, rfl⟩
    show aWP _ _ (23, [some (.ref 84), some (.int 0)], [.int (if s.2.2.1 = 40 then (1 : Int32) else 0)], (HD, m, w, mr)) _
    refine wp_bI rfl (fun c_2 => ?_) (fun c_2 => ?_)
    · have c_2 : (if s.2.2.1 = 40 then (1 : Int32) else 0) = 0 := of_decide_eq_true c_2
      refine wp_steps 1 (t' := (49, [some (.ref 84), some (.int 0)], [.ref 84], (HD, m, w, mr))) rfl ?_
      refine wp_geti rfl ⟨by decide, rfl⟩ (Or.inr rfl) ?_
      refine wp_bI rfl (fun c_3 => ?_) (fun c_3 => ?_)
      · have c_3 : ¬ (m 84 26) = 0 := of_decide_eq_true c_3
        exact absurd h.2.2.2.2 c_3
      have c_3 : (m 84 26) = 0 := Decidable.not_not.mp (of_decide_eq_false c_3)
      refine wp_steps 1 (t' := (52, [some (.ref 84), some (.int 0)], [.ref 84], (HD, m, w, mr))) rfl ?_
      refine wp_geti rfl ⟨by decide, rfl⟩ (Or.inl rfl) ?_
      refine wp_steps 1 (t' := (54, [some (.ref 84), some (.int 0)], [.int 2, .int (m 84 22)], (HD, m, w, mr))) rfl ?_
      refine wp_bC rfl (fun c_4 => ?_) (fun c_4 => ?_)
      · have c_4 : ¬ (m 84 22) = 2 := of_decide_eq_true c_4
        refine wp_steps 1 (t' := (63, [some (.ref 84), some (.int 0)], [.ref 84], (HD, m, w, mr))) rfl ?_
        refine wp_geti rfl ⟨by decide, rfl⟩ (Or.inr rfl) ?_
        refine wp_bI rfl (fun c_5 => ?_) (fun c_5 => ?_)
        · have c_5 : ¬ (m 84 26) = 0 := of_decide_eq_true c_5
          exact absurd h.2.2.2.2 c_5
        have c_5 : (m 84 26) = 0 := Decidable.not_not.mp (of_decide_eq_false c_5)
        refine wp_steps 1 (t' := (66, [some (.ref 84), some (.int 0)], [.ref 84], (HD, m, w, mr))) rfl ?_
        refine wp_geti rfl ⟨by decide, rfl⟩ (Or.inl rfl) ?_
        refine wp_steps 1 (t' := (68, [some (.ref 84), some (.int 0)], [.int 1, .int (m 84 22)], (HD, m, w, mr))) rfl ?_
        refine wp_bC rfl (fun c_6 => ?_) (fun c_6 => ?_)
        · have c_6 : ¬ (m 84 22) = 1 := of_decide_eq_true c_6
          refine wp_steps 1 (t' := (79, [some (.ref 84), some (.int 0)], [.ref 84], (HD, m, w, mr))) rfl ?_
          refine wp_calv (as := []) rfl rfl rfl (Nat.le_of_ble_eq_true rfl) ⟨by decide, rfl⟩ ((r_fail (ml := w) hM h)) (by omega) ?_
          rintro _ _ ⟨rfl, m_3, rfl, f3, g3⟩
          show aWP _ _ (80, [some (.ref 84), some (.int 0)], [], (HD, m_3, w, mr)) _
          skip
          · skip
            refine wp_steps 1 (t' := (81, [some (.ref 84), some (.int 0)], [.int 0], (HD, m_3, w, mr))) rfl ?_
            refine wp_ret rfl rfl ⟨⟨Nat.le_refl _, Nat.le_refl _⟩, ?_⟩
            have hD : ¬ D6 s.2.2.1 := by rw [h.T]; exact nD6 (fun z => c_6 (h.r.trans z))
            have e := on_out (b := b) (n := n) (deep := (some q)) (s := s) (fun z => c_4 (h.r.trans (rt_2.mpr (h.T.symm.trans z)))) hD (Or.inr ⟨i0_f c_1, i0_f c_2⟩)
            refine ⟨_, _, _, rfl, rfl, f3, ?_⟩
            rw [e]
            exact ⟨fun z => Bool.noConfusion z, fun _ => g3⟩
        · have c_6 : (m 84 22) = 1 := Decidable.not_not.mp (of_decide_eq_false c_6)
          refine wp_steps 1 (t' := (70, [some (.ref 84), some (.int 0)], [.ref 84], (HD, m, w, mr))) rfl ?_
          refine wp_calv (as := []) rfl rfl rfl (Nat.le_of_ble_eq_true rfl) ⟨by decide, rfl⟩ ((r_name (ml := w) hM h)) (by omega) ?_
          rintro _ _ ⟨v_1, m_1, rfl, rfl, n1, n2⟩
          show aWP _ _ (71, [some (.ref 84), some (.int 0)], [.int v_1], (HD, m_1, w, mr)) _
          by_cases hD : D6 s.2.2.1
          · rw [(n1 hD).1, (n1 hD).2]
            refine wp_steps 2 (t' := (73, [some (.ref 84), some (.int (m 84 (s.2.2.1 + 3).toNatClampNeg))], [.ref 84], (HD, m, w, mr))) rfl ?_
            refine wp_geti rfl ⟨by decide, rfl⟩ (Or.inr rfl) ?_
            refine wp_bI rfl (fun c_7 => ?_) (fun c_7 => ?_)
            · have c_7 : ¬ (m 84 26) = 0 := of_decide_eq_true c_7
              exact absurd h.2.2.2.2 c_7
            have c_7 : (m 84 26) = 0 := Decidable.not_not.mp (of_decide_eq_false c_7)
            refine wp_steps 1 (t' := (76, [some (.ref 84), some (.int (m 84 (s.2.2.1 + 3).toNatClampNeg))], [.ref 84], (HD, m, w, mr))) rfl ?_
            refine wp_calv (as := []) rfl rfl rfl (Nat.le_of_ble_eq_true rfl) ⟨by decide, rfl⟩ ((r_next (ml := w) hM h hnn (by rw [← h.T]; intro z; rw [z] at hD; exact absurd hD (by decide)))) (by omega) ?_
            rintro _ _ ⟨rfl, m_4, w_4, rfl, f4, g4⟩
            show aWP _ _ (77, [some (.ref 84), some (.int (m 84 (s.2.2.1 + 3).toNatClampNeg))], [], (HD, m_4, w_4, mr)) _
            refine wp_steps 2 (t' := (81, [some (.ref 84), some (.int (m 84 (s.2.2.1 + 3).toNatClampNeg))], [.int (m 84 (s.2.2.1 + 3).toNatClampNeg)], (HD, m_4, w_4, mr))) rfl ?_
            refine wp_ret rfl rfl ⟨⟨Nat.le_refl _, Nat.le_refl _⟩, ?_⟩
            have e := on_nam (b := b) (n := n) (deep := (some q)) (s := s) hD
            obtain ⟨q1, q2, q3, q4⟩ := nam_ok hD nm
            have hT0 : ¬ s.2.2.1 = 0 := fun z => by rw [z] at hD; exact absurd hD (by decide)
            refine ⟨_, _, _, rfl, rfl, f4, ?_⟩
            rw [e, q3, hnm _ q4]
            exact ⟨fun _ => ⟨h.stad hT0 g4, GO_one h hT0 (Or.inr (by have := h.lt hT0; have := h.2.2.1.2.2.2.2; have := h.1.1.2.2.2; omega)) q1 q2 (by decide)⟩, fun z => Bool.noConfusion z⟩
          · obtain ⟨f1, g1⟩ := n2 hD
            refine wp_steps 2 (t' := (73, [some (.ref 84), some (.int v_1)], [.ref 84], (HD, m_1, w, mr))) rfl ?_
            refine wp_geti rfl ⟨by decide, rfl⟩ (Or.inr rfl) ?_
            refine wp_bI rfl (fun c_8 => ?_) (fun c_8 => ?_)
            rotate_left
            · have c_8 : (m_1 84 26) = 0 := Decidable.not_not.mp (of_decide_eq_false c_8)
              exact absurd c_8 (RF.b (g1))
            have c_8 : ¬ (m_1 84 26) = 0 := of_decide_eq_true c_8
            refine wp_steps 1 (t' := (81, [some (.ref 84), some (.int v_1)], [.int v_1], (HD, m_1, w, mr))) rfl ?_
            refine wp_ret rfl rfl ⟨⟨Nat.le_refl _, Nat.le_refl _⟩, ?_⟩
            have e := on_out (b := b) (n := n) (deep := (some q)) (s := s) (fun z => c_4 (h.r.trans (rt_2.mpr (h.T.symm.trans z)))) hD (Or.inr ⟨i0_f c_1, i0_f c_2⟩)
            refine ⟨_, _, _, rfl, rfl, f1, ?_⟩
            rw [e]
            exact ⟨fun z => Bool.noConfusion z, fun _ => g1⟩
      · have c_4 : (m 84 22) = 2 := Decidable.not_not.mp (of_decide_eq_false c_4)
        refine wp_steps 1 (t' := (56, [some (.ref 84), some (.int 0)], [.ref 84], (HD, m, w, mr))) rfl ?_
        refine wp_getl rfl ⟨by decide, rfl⟩ rfl ?_
        refine wp_steps 1 (t' := (58, [some (.ref 84), some (.int 0)], [.int ((w 84 24).toInt32)], (HD, m, w, mr))) rfl ?_
        have hr2 : rtF b n s.1 = 2 := h.r.symm.trans c_4
        have hl2 := rt_2.mp hr2
        have eT : s.2.2.1 = 2 := h.T.trans hl2
        have ev : s.2.2.2.1 = nuF b (lxE b n s.1 - s.1) s.1 0 := h.2.2.1.2.2.2.1 hl2
        rw [show (w 84 24).toInt32 = s.2.2.2.1 from (h.2.1.2.2.2.2.1 hr2).trans ev.symm]
        refine wp_steps 2 (t' := (60, [some (.ref 84), some (.int s.2.2.2.1)], [.ref 84], (HD, m, w, mr))) rfl ?_
        refine wp_calv (as := []) rfl rfl rfl (Nat.le_of_ble_eq_true rfl) ⟨by decide, rfl⟩ ((r_next (ml := w) hM h hnn (by rw [hl2]; decide))) (by omega) ?_
        rintro _ _ ⟨rfl, m_4, w_4, rfl, f4, g4⟩
        show aWP _ _ (61, [some (.ref 84), some (.int s.2.2.2.1)], [], (HD, m_4, w_4, mr)) _
        refine wp_steps 2 (t' := (81, [some (.ref 84), some (.int s.2.2.2.1)], [.int s.2.2.2.1], (HD, m_4, w_4, mr))) rfl ?_
        refine wp_ret rfl rfl ⟨⟨Nat.le_refl _, Nat.le_refl _⟩, ?_⟩
        have e := on_num (b := b) (n := n) (deep := (some q)) (s := s) eT
        have nv := nu_ok hl2 nm
        rw [← ev] at nv
        have hT0 : ¬ s.2.2.1 = 0 := by rw [eT]; decide
        refine ⟨_, _, _, rfl, rfl, f4, ?_⟩
        rw [e]
        exact ⟨fun _ => ⟨h.stad hT0 g4, GO_one h hT0 (Or.inr (by have := h.lt hT0; have := h.2.2.1.2.2.2.2; have := h.1.1.2.2.2; omega)) nv.1 nv.2 (by decide)⟩, fun z => Bool.noConfusion z⟩
    · have c_2 : ¬ ((if s.2.2.1 = 40 then (1 : Int32) else 0) = 0) := of_decide_eq_false c_2
      refine wp_steps 1 (t' := (25, [some (.ref 84), some (.int 0)], [.ref 84], (HD, m, w, mr))) rfl ?_
      refine wp_calv (as := []) rfl rfl rfl (Nat.le_of_ble_eq_true rfl) ⟨by decide, rfl⟩ ((r_opens (ml := w) hM h hnn (by rw [← h.T, i0_t c_2]; decide) (by decide))) (by omega) ?_
      rintro _ _ ⟨rfl, m_1, w_1, rfl, f1, g1⟩
      have eT : s.2.2.1 = 40 := i0_t c_2
      show aWP _ _ (26, [some (.ref 84), some (.int 0)], [.int 1], (HD, m_1, w_1, mr)) _
      skip
      · skip
        refine wp_bI rfl (fun c_9 => ?_) (fun c_9 => ?_)
        · have c_9 : (1 : Int32) = 0 := of_decide_eq_true c_9
          exact absurd c_9 (by decide)
        have c_9 : ¬ ((1 : Int32) = 0) := of_decide_eq_false c_9
        refine wp_steps 1 (t' := (28, [some (.ref 84), some (.int 0)], [.ref 84], (HD, m_1, w_1, mr))) rfl ?_
        refine wp_calv (as := []) rfl rfl rfl (Nat.le_of_ble_eq_true rfl) ⟨by decide, rfl⟩ ((h1 _ _ _ g1 (hnm.fr f1))) (by omega) ?_
        rintro _ _ ⟨v_2, m_2, w_2, rfl, rfl, f2, r2⟩
        show aWP _ _ (29, [some (.ref 84), some (.int 0)], [.int v_2], (HD, m_2, w_2, mr)) _
        by_cases hF : (q.1 (stP b n s)).1 = true
        · obtain ⟨g2, go2⟩ := r2.1 hF
          refine wp_steps 3 (t' := (32, [some (.ref 84), some (.int v_2)], [.int 41, .ref 84], (HD, m_2, w_2, mr))) rfl ?_
          refine wp_calv (as := [.int 41]) rfl rfl rfl (Nat.le_of_ble_eq_true rfl) ⟨by decide, rfl⟩ ((r_sign (ml := w_2) hM g2 (c := 41) (by decide))) (by omega) ?_
          rintro _ _ ⟨rfl, rfl⟩
          show aWP _ _ (33, [some (.ref 84), some (.int v_2)], [.int (if (q.1 (stP b n s)).2.2.2.1 = 41 then (1 : Int32) else 0)], (HD, m_2, w_2, mr)) _
          refine wp_bI rfl (fun c_10 => ?_) (fun c_10 => ?_)
          · have c_10 : ¬ (if (q.1 (stP b n s)).2.2.2.1 = 41 then (1 : Int32) else 0) = 0 := of_decide_eq_true c_10
            refine wp_steps 2 (t' := (38, [some (.ref 84), some (.int v_2)], [.ref 84, .ref 84], (HD, m_2, w_2, mr))) rfl ?_
            refine wp_geti rfl ⟨by decide, rfl⟩ (Or.inl rfl) ?_
            refine wp_steps 2 (t' := (41, [some (.ref 84), some (.int v_2)], [.int ((m_2 84 25) - 1), .ref 84], (HD, m_2, w_2, mr))) rfl ?_
            rw [show m_2 84 25 - 1 = nI 4 from by rw [g2.2.2.2.1]; exact nI_pred 4]
            refine wp_puti rfl ⟨by decide, rfl⟩ rfl (fun m_11 h_12 => ?_)
            subst h_12
            refine wp_steps 1 (t' := (43, [some (.ref 84), some (.int v_2)], [.ref 84], (HD, (aup m_2 84 25 (nI 4)), w_2, mr))) rfl ?_
            refine wp_geti rfl ⟨by decide, rfl⟩ (Or.inr rfl) ?_
            refine wp_bI rfl (fun c_13 => ?_) (fun c_13 => ?_)
            · have c_13 : ¬ ((aup m_2 84 25 (nI 4)) 84 26) = 0 := of_decide_eq_true c_13
              exact absurd (g2.op 4).2.2.2.2 c_13
            have c_13 : ((aup m_2 84 25 (nI 4)) 84 26) = 0 := Decidable.not_not.mp (of_decide_eq_false c_13)
            refine wp_steps 1 (t' := (46, [some (.ref 84), some (.int v_2)], [.ref 84], (HD, (aup m_2 84 25 (nI 4)), w_2, mr))) rfl ?_
            refine wp_calv (as := []) rfl rfl rfl (Nat.le_of_ble_eq_true rfl) ⟨by decide, rfl⟩ ((r_next (ml := w_2) hM (g2.op 4) hnn (by rw [← g2.T, i0_t c_10]; decide))) (by omega) ?_
            rintro _ _ ⟨rfl, m_4, w_4, rfl, f4, g4⟩
            show aWP _ _ (47, [some (.ref 84), some (.int v_2)], [], (HD, m_4, w_4, mr)) _
            refine wp_steps 2 (t' := (81, [some (.ref 84), some (.int v_2)], [.int v_2], (HD, m_4, w_4, mr))) rfl ?_
            refine wp_ret rfl rfl ⟨⟨Nat.le_refl _, Nat.le_refl _⟩, ?_⟩
            have e := on_par (b := b) (n := n) (q := q) eT
            rw [if_pos ⟨hF, i0_t c_10⟩] at e
            refine ⟨_, _, _, rfl, rfl, ((f1.tr f2).tr (frR.up (by decide) (by decide) _)).tr f4, ?_⟩
            rw [e]
            exact ⟨fun _ => ⟨g4, (GO_par h (by rw [eT]; decide) g2 go2).wk (by decide)⟩, fun z => Bool.noConfusion z⟩
          · have c_10 : (if (q.1 (stP b n s)).2.2.2.1 = 41 then (1 : Int32) else 0) = 0 := Decidable.not_not.mp (of_decide_eq_false c_10)
            refine wp_steps 1 (t' := (35, [some (.ref 84), some (.int v_2)], [.ref 84], (HD, m_2, w_2, mr))) rfl ?_
            refine wp_calv (as := []) rfl rfl rfl (Nat.le_of_ble_eq_true rfl) ⟨by decide, rfl⟩ ((r_fail (ml := w_2) hM g2)) (by omega) ?_
            rintro _ _ ⟨rfl, m_3, rfl, f3, g3⟩
            show aWP _ _ (36, [some (.ref 84), some (.int v_2)], [], (HD, m_3, w_2, mr)) _
            skip
            · skip
              refine wp_steps 2 (t' := (38, [some (.ref 84), some (.int v_2)], [.ref 84, .ref 84], (HD, m_3, w_2, mr))) rfl ?_
              refine wp_geti rfl ⟨by decide, rfl⟩ (Or.inl rfl) ?_
              refine wp_steps 2 (t' := (41, [some (.ref 84), some (.int v_2)], [.int ((m_3 84 25) - 1), .ref 84], (HD, m_3, w_2, mr))) rfl ?_
              refine wp_puti rfl ⟨by decide, rfl⟩ rfl (fun m_14 h_15 => ?_)
              subst h_15
              refine wp_steps 1 (t' := (43, [some (.ref 84), some (.int v_2)], [.ref 84], (HD, (aup m_3 84 25 ((m_3 84 25) - 1)), w_2, mr))) rfl ?_
              refine wp_geti rfl ⟨by decide, rfl⟩ (Or.inr rfl) ?_
              refine wp_bI rfl (fun c_16 => ?_) (fun c_16 => ?_)
              rotate_left
              · have c_16 : ((aup m_3 84 25 ((m_3 84 25) - 1)) 84 26) = 0 := Decidable.not_not.mp (of_decide_eq_false c_16)
                exact absurd c_16 (RF.b (RF.up g3 _))
              have c_16 : ¬ ((aup m_3 84 25 ((m_3 84 25) - 1)) 84 26) = 0 := of_decide_eq_true c_16
              refine wp_steps 1 (t' := (81, [some (.ref 84), some (.int v_2)], [.int v_2], (HD, (aup m_3 84 25 ((m_3 84 25) - 1)), w_2, mr))) rfl ?_
              refine wp_ret rfl rfl ⟨⟨Nat.le_refl _, Nat.le_refl _⟩, ?_⟩
              have e := on_par (b := b) (n := n) (q := q) eT
              rw [if_neg (fun z => i0_f c_10 z.2)] at e
              refine ⟨_, _, _, rfl, rfl, ((f1.tr f2).tr f3).tr (frR.up (by decide) (by decide) _), ?_⟩
              rw [e]
              exact ⟨fun z => Bool.noConfusion z, fun _ => g3.up _⟩
        · have g2 := r2.2 (Bool.eq_false_iff.mpr hF)
          refine wp_steps 3 (t' := (32, [some (.ref 84), some (.int v_2)], [.int 41, .ref 84], (HD, m_2, w_2, mr))) rfl ?_
          refine wp_calv (as := [.int 41]) rfl rfl rfl (Nat.le_of_ble_eq_true rfl) ⟨by decide, rfl⟩ ((r_sign_b (ml := w_2) (mr := mr) g2.b (c := 41))) (by omega) ?_
          rintro _ _ ⟨rfl, rfl⟩
          show aWP _ _ (33, [some (.ref 84), some (.int v_2)], [.int 0], (HD, m_2, w_2, mr)) _
          refine wp_bI rfl (fun c_17 => ?_) (fun c_17 => ?_)
          · have c_17 : ¬ (0 : Int32) = 0 := of_decide_eq_true c_17
            exact absurd c_17 (by decide)
          have c_17 : (0 : Int32) = 0 := Decidable.not_not.mp (of_decide_eq_false c_17)
          refine wp_steps 1 (t' := (35, [some (.ref 84), some (.int v_2)], [.ref 84], (HD, m_2, w_2, mr))) rfl ?_
          refine wp_calv (as := []) rfl rfl rfl (Nat.le_of_ble_eq_true rfl) ⟨by decide, rfl⟩ ((r_fail_b (ml := w_2) (mr := mr) g2.b)) (by omega) ?_
          rintro _ _ ⟨rfl, rfl⟩
          show aWP _ _ (36, [some (.ref 84), some (.int v_2)], [], (HD, m_2, w_2, mr)) _
          refine wp_steps 2 (t' := (38, [some (.ref 84), some (.int v_2)], [.ref 84, .ref 84], (HD, m_2, w_2, mr))) rfl ?_
          refine wp_geti rfl ⟨by decide, rfl⟩ (Or.inl rfl) ?_
          refine wp_steps 2 (t' := (41, [some (.ref 84), some (.int v_2)], [.int ((m_2 84 25) - 1), .ref 84], (HD, m_2, w_2, mr))) rfl ?_
          refine wp_puti rfl ⟨by decide, rfl⟩ rfl (fun m_18 h_19 => ?_)
          subst h_19
          refine wp_steps 1 (t' := (43, [some (.ref 84), some (.int v_2)], [.ref 84], (HD, (aup m_2 84 25 ((m_2 84 25) - 1)), w_2, mr))) rfl ?_
          refine wp_geti rfl ⟨by decide, rfl⟩ (Or.inr rfl) ?_
          refine wp_bI rfl (fun c_20 => ?_) (fun c_20 => ?_)
          rotate_left
          · have c_20 : ((aup m_2 84 25 ((m_2 84 25) - 1)) 84 26) = 0 := Decidable.not_not.mp (of_decide_eq_false c_20)
            exact absurd c_20 (RF.b (RF.up g2 _))
          have c_20 : ¬ ((aup m_2 84 25 ((m_2 84 25) - 1)) 84 26) = 0 := of_decide_eq_true c_20
          refine wp_steps 1 (t' := (81, [some (.ref 84), some (.int v_2)], [.int v_2], (HD, (aup m_2 84 25 ((m_2 84 25) - 1)), w_2, mr))) rfl ?_
          refine wp_ret rfl rfl ⟨⟨Nat.le_refl _, Nat.le_refl _⟩, ?_⟩
          have e := on_par (b := b) (n := n) (q := q) eT
          rw [if_neg (fun z => hF z.1)] at e
          refine ⟨_, _, _, rfl, rfl, (f1.tr f2).tr (frR.up (by decide) (by decide) _), ?_⟩
          rw [e]
          exact ⟨fun z => Bool.noConfusion z, fun _ => g2.up _⟩
  · have c_1 : ¬ ((if s.2.2.1 = 45 then (1 : Int32) else 0) = 0) := of_decide_eq_false c_1
    refine wp_steps 1 (t' := (7, [some (.ref 84), some (.int 0)], [.ref 84], (HD, m, w, mr))) rfl ?_
    refine wp_calv (as := []) rfl rfl rfl (Nat.le_of_ble_eq_true rfl) ⟨by decide, rfl⟩ ((r_opens (ml := w) hM h hnn (by rw [← h.T, i0_t c_1]; decide) (by decide))) (by omega) ?_
    rintro _ _ ⟨rfl, m_1, w_1, rfl, f1, g1⟩
    have eT : s.2.2.1 = 45 := i0_t c_1
    show aWP _ _ (8, [some (.ref 84), some (.int 0)], [.int 1], (HD, m_1, w_1, mr)) _
    skip
    · skip
      refine wp_bI rfl (fun c_21 => ?_) (fun c_21 => ?_)
      · have c_21 : (1 : Int32) = 0 := of_decide_eq_true c_21
        exact absurd c_21 (by decide)
      have c_21 : ¬ ((1 : Int32) = 0) := of_decide_eq_false c_21
      refine wp_steps 1 (t' := (10, [some (.ref 84), some (.int 0)], [.ref 84], (HD, m_1, w_1, mr))) rfl ?_
      refine wp_calv (as := []) rfl rfl rfl (Nat.le_of_ble_eq_true rfl) ⟨by decide, rfl⟩ ((h3 _ _ _ g1 (hnm.fr f1))) (by omega) ?_
      rintro _ _ ⟨v_2, m_2, w_2, rfl, rfl, f2, r2⟩
      show aWP _ _ (11, [some (.ref 84), some (.int 0)], [.int v_2], (HD, m_2, w_2, mr)) _
      by_cases hF : (q.2.2 (stP b n s)).1 = true
      · obtain ⟨g2, go2⟩ := r2.1 hF
        refine wp_steps 4 (t' := (15, [some (.ref 84), some (.int (-v_2))], [.ref 84, .ref 84], (HD, m_2, w_2, mr))) rfl ?_
        refine wp_geti rfl ⟨by decide, rfl⟩ (Or.inl rfl) ?_
        refine wp_steps 2 (t' := (18, [some (.ref 84), some (.int (-v_2))], [.int ((m_2 84 25) - 1), .ref 84], (HD, m_2, w_2, mr))) rfl ?_
        rw [show m_2 84 25 - 1 = nI 4 from by rw [g2.2.2.2.1]; exact nI_pred 4]
        refine wp_puti rfl ⟨by decide, rfl⟩ rfl (fun m_22 h_23 => ?_)
        subst h_23
        refine wp_steps 2 (t' := (81, [some (.ref 84), some (.int (-v_2))], [.int (-v_2)], (HD, (aup m_2 84 25 (nI 4)), w_2, mr))) rfl ?_
        refine wp_ret rfl rfl ⟨⟨Nat.le_refl _, Nat.le_refl _⟩, ?_⟩
        have e := on_neg (b := b) (n := n) (q := q) eT
        rw [if_pos hF] at e
        obtain ⟨k1, k2⟩ := GO_un h (by rw [eT]; decide) g2 go2 (Or.inr (rfl : (-19 : Int32) = -19))
        refine ⟨_, _, _, rfl, rfl, (f1.tr f2).tr (frR.up (by decide) (by decide) _), ?_⟩
        rw [e]
        exact ⟨fun _ => ⟨k1.op 4, k2.wk (by decide)⟩, fun z => Bool.noConfusion z⟩
      · have g2 := r2.2 (Bool.eq_false_iff.mpr hF)
        refine wp_steps 4 (t' := (15, [some (.ref 84), some (.int (-v_2))], [.ref 84, .ref 84], (HD, m_2, w_2, mr))) rfl ?_
        refine wp_geti rfl ⟨by decide, rfl⟩ (Or.inl rfl) ?_
        refine wp_steps 2 (t' := (18, [some (.ref 84), some (.int (-v_2))], [.int ((m_2 84 25) - 1), .ref 84], (HD, m_2, w_2, mr))) rfl ?_
        refine wp_puti rfl ⟨by decide, rfl⟩ rfl (fun m_24 h_25 => ?_)
        subst h_25
        refine wp_steps 2 (t' := (81, [some (.ref 84), some (.int (-v_2))], [.int (-v_2)], (HD, (aup m_2 84 25 ((m_2 84 25) - 1)), w_2, mr))) rfl ?_
        refine wp_ret rfl rfl ⟨⟨Nat.le_refl _, Nat.le_refl _⟩, ?_⟩
        have e := on_neg (b := b) (n := n) (q := q) eT
        rw [if_neg hF] at e
        refine ⟨_, _, _, rfl, rfl, (f1.tr f2).tr (frR.up (by decide) (by decide) _), ?_⟩
        rw [e]
        exact ⟨fun z => Bool.noConfusion z, fun _ => g2.up _⟩
set_option maxRecDepth 20000 in
set_option maxHeartbeats 1000000 in
theorem r_atom3 {X : aXt × Value} {mr : Nat → Nat → Option Nat} (hM : MRok mr) {b : Nat → Int32} {n t : Nat} (hnn : nnB b n) {nm : Nat → Int32} {d : Nat} (hd : 4 ≤ d) {q : pF × pF × pF} (h1 : cwR X mr b n t 4 nm d 144 11 q.1) (h2 : cwR X mr b n t 4 nm d 142 9 q.2.1) (h3 : cwR X mr b n t 4 nm d 139 6 q.2.2) : cwR X mr b n t 3 nm (d + 1) 145 11 (onF b n (some q)) := by
  intro m w s h hnm
  refine cw_of (cd := cd_X7_atom3) (nL := 2) rfl rfl ?_
  show aWP _ _ (0, [some (.ref 84), none], [], (HD, m, w, mr)) _
  refine wp_steps 4 (t' := (4, [some (.ref 84), some (.int 0)], [.int 45, .ref 84], (HD, m, w, mr))) rfl ?_
  refine wp_calv (as := [.int 45]) rfl rfl rfl (Nat.le_of_ble_eq_true rfl) ⟨by decide, rfl⟩ ((r_sign (ml := w) hM h (c := 45) (by decide))) (by omega) ?_
  rintro _ _ ⟨rfl, rfl⟩
  show aWP _ _ (5, [some (.ref 84), some (.int 0)], [.int (if s.2.2.1 = 45 then (1 : Int32) else 0)], (HD, m, w, mr)) _
  refine wp_bI rfl (fun c_1 => ?_) (fun c_1 => ?_)
  · have c_1 : (if s.2.2.1 = 45 then (1 : Int32) else 0) = 0 := of_decide_eq_true c_1
    refine wp_steps 2 (t' := (22, [some (.ref 84), some (.int 0)], [.int 40, .ref 84], (HD, m, w, mr))) rfl ?_
    refine wp_calv (as := [.int 40]) rfl rfl rfl (Nat.le_of_ble_eq_true rfl) ⟨by decide, rfl⟩ ((r_sign (ml := w) hM h (c := 40) (by decide))) (by omega) ?_
    rintro _ _ ⟨rfl, rfl⟩
    show aWP _ _ (23, [some (.ref 84), some (.int 0)], [.int (if s.2.2.1 = 40 then (1 : Int32) else 0)], (HD, m, w, mr)) _
    refine wp_bI rfl (fun c_2 => ?_) (fun c_2 => ?_)
    · have c_2 : (if s.2.2.1 = 40 then (1 : Int32) else 0) = 0 := of_decide_eq_true c_2
      refine wp_steps 1 (t' := (49, [some (.ref 84), some (.int 0)], [.ref 84], (HD, m, w, mr))) rfl ?_
      refine wp_geti rfl ⟨by decide, rfl⟩ (Or.inr rfl) ?_
      refine wp_bI rfl (fun c_3 => ?_) (fun c_3 => ?_)
      · have c_3 : ¬ (m 84 26) = 0 := of_decide_eq_true c_3
        exact absurd h.2.2.2.2 c_3
      have c_3 : (m 84 26) = 0 := Decidable.not_not.mp (of_decide_eq_false c_3)
      refine wp_steps 1 (t' := (52, [some (.ref 84), some (.int 0)], [.ref 84], (HD, m, w, mr))) rfl ?_
      refine wp_geti rfl ⟨by decide, rfl⟩ (Or.inl rfl) ?_
      refine wp_steps 1 (t' := (54, [some (.ref 84), some (.int 0)], [.int 2, .int (m 84 22)], (HD, m, w, mr))) rfl ?_
      refine wp_bC rfl (fun c_4 => ?_) (fun c_4 => ?_)
      · have c_4 : ¬ (m 84 22) = 2 := of_decide_eq_true c_4
        refine wp_steps 1 (t' := (63, [some (.ref 84), some (.int 0)], [.ref 84], (HD, m, w, mr))) rfl ?_
        refine wp_geti rfl ⟨by decide, rfl⟩ (Or.inr rfl) ?_
        refine wp_bI rfl (fun c_5 => ?_) (fun c_5 => ?_)
        · have c_5 : ¬ (m 84 26) = 0 := of_decide_eq_true c_5
          exact absurd h.2.2.2.2 c_5
        have c_5 : (m 84 26) = 0 := Decidable.not_not.mp (of_decide_eq_false c_5)
        refine wp_steps 1 (t' := (66, [some (.ref 84), some (.int 0)], [.ref 84], (HD, m, w, mr))) rfl ?_
        refine wp_geti rfl ⟨by decide, rfl⟩ (Or.inl rfl) ?_
        refine wp_steps 1 (t' := (68, [some (.ref 84), some (.int 0)], [.int 1, .int (m 84 22)], (HD, m, w, mr))) rfl ?_
        refine wp_bC rfl (fun c_6 => ?_) (fun c_6 => ?_)
        · have c_6 : ¬ (m 84 22) = 1 := of_decide_eq_true c_6
          refine wp_steps 1 (t' := (79, [some (.ref 84), some (.int 0)], [.ref 84], (HD, m, w, mr))) rfl ?_
          refine wp_calv (as := []) rfl rfl rfl (Nat.le_of_ble_eq_true rfl) ⟨by decide, rfl⟩ ((r_fail (ml := w) hM h)) (by omega) ?_
          rintro _ _ ⟨rfl, m_3, rfl, f3, g3⟩
          show aWP _ _ (80, [some (.ref 84), some (.int 0)], [], (HD, m_3, w, mr)) _
          skip
          · skip
            refine wp_steps 1 (t' := (81, [some (.ref 84), some (.int 0)], [.int 0], (HD, m_3, w, mr))) rfl ?_
            refine wp_ret rfl rfl ⟨⟨Nat.le_refl _, Nat.le_refl _⟩, ?_⟩
            have hD : ¬ D6 s.2.2.1 := by rw [h.T]; exact nD6 (fun z => c_6 (h.r.trans z))
            have e := on_out (b := b) (n := n) (deep := (some q)) (s := s) (fun z => c_4 (h.r.trans (rt_2.mpr (h.T.symm.trans z)))) hD (Or.inr ⟨i0_f c_1, i0_f c_2⟩)
            refine ⟨_, _, _, rfl, rfl, f3, ?_⟩
            rw [e]
            exact ⟨fun z => Bool.noConfusion z, fun _ => g3⟩
        · have c_6 : (m 84 22) = 1 := Decidable.not_not.mp (of_decide_eq_false c_6)
          refine wp_steps 1 (t' := (70, [some (.ref 84), some (.int 0)], [.ref 84], (HD, m, w, mr))) rfl ?_
          refine wp_calv (as := []) rfl rfl rfl (Nat.le_of_ble_eq_true rfl) ⟨by decide, rfl⟩ ((r_name (ml := w) hM h)) (by omega) ?_
          rintro _ _ ⟨v_1, m_1, rfl, rfl, n1, n2⟩
          show aWP _ _ (71, [some (.ref 84), some (.int 0)], [.int v_1], (HD, m_1, w, mr)) _
          by_cases hD : D6 s.2.2.1
          · rw [(n1 hD).1, (n1 hD).2]
            refine wp_steps 2 (t' := (73, [some (.ref 84), some (.int (m 84 (s.2.2.1 + 3).toNatClampNeg))], [.ref 84], (HD, m, w, mr))) rfl ?_
            refine wp_geti rfl ⟨by decide, rfl⟩ (Or.inr rfl) ?_
            refine wp_bI rfl (fun c_7 => ?_) (fun c_7 => ?_)
            · have c_7 : ¬ (m 84 26) = 0 := of_decide_eq_true c_7
              exact absurd h.2.2.2.2 c_7
            have c_7 : (m 84 26) = 0 := Decidable.not_not.mp (of_decide_eq_false c_7)
            refine wp_steps 1 (t' := (76, [some (.ref 84), some (.int (m 84 (s.2.2.1 + 3).toNatClampNeg))], [.ref 84], (HD, m, w, mr))) rfl ?_
            refine wp_calv (as := []) rfl rfl rfl (Nat.le_of_ble_eq_true rfl) ⟨by decide, rfl⟩ ((r_next (ml := w) hM h hnn (by rw [← h.T]; intro z; rw [z] at hD; exact absurd hD (by decide)))) (by omega) ?_
            rintro _ _ ⟨rfl, m_4, w_4, rfl, f4, g4⟩
            show aWP _ _ (77, [some (.ref 84), some (.int (m 84 (s.2.2.1 + 3).toNatClampNeg))], [], (HD, m_4, w_4, mr)) _
            refine wp_steps 2 (t' := (81, [some (.ref 84), some (.int (m 84 (s.2.2.1 + 3).toNatClampNeg))], [.int (m 84 (s.2.2.1 + 3).toNatClampNeg)], (HD, m_4, w_4, mr))) rfl ?_
            refine wp_ret rfl rfl ⟨⟨Nat.le_refl _, Nat.le_refl _⟩, ?_⟩
            have e := on_nam (b := b) (n := n) (deep := (some q)) (s := s) hD
            obtain ⟨q1, q2, q3, q4⟩ := nam_ok hD nm
            have hT0 : ¬ s.2.2.1 = 0 := fun z => by rw [z] at hD; exact absurd hD (by decide)
            refine ⟨_, _, _, rfl, rfl, f4, ?_⟩
            rw [e, q3, hnm _ q4]
            exact ⟨fun _ => ⟨h.stad hT0 g4, GO_one h hT0 (Or.inr (by have := h.lt hT0; have := h.2.2.1.2.2.2.2; have := h.1.1.2.2.2; omega)) q1 q2 (by decide)⟩, fun z => Bool.noConfusion z⟩
          · obtain ⟨f1, g1⟩ := n2 hD
            refine wp_steps 2 (t' := (73, [some (.ref 84), some (.int v_1)], [.ref 84], (HD, m_1, w, mr))) rfl ?_
            refine wp_geti rfl ⟨by decide, rfl⟩ (Or.inr rfl) ?_
            refine wp_bI rfl (fun c_8 => ?_) (fun c_8 => ?_)
            rotate_left
            · have c_8 : (m_1 84 26) = 0 := Decidable.not_not.mp (of_decide_eq_false c_8)
              exact absurd c_8 (RF.b (g1))
            have c_8 : ¬ (m_1 84 26) = 0 := of_decide_eq_true c_8
            refine wp_steps 1 (t' := (81, [some (.ref 84), some (.int v_1)], [.int v_1], (HD, m_1, w, mr))) rfl ?_
            refine wp_ret rfl rfl ⟨⟨Nat.le_refl _, Nat.le_refl _⟩, ?_⟩
            have e := on_out (b := b) (n := n) (deep := (some q)) (s := s) (fun z => c_4 (h.r.trans (rt_2.mpr (h.T.symm.trans z)))) hD (Or.inr ⟨i0_f c_1, i0_f c_2⟩)
            refine ⟨_, _, _, rfl, rfl, f1, ?_⟩
            rw [e]
            exact ⟨fun z => Bool.noConfusion z, fun _ => g1⟩
      · have c_4 : (m 84 22) = 2 := Decidable.not_not.mp (of_decide_eq_false c_4)
        refine wp_steps 1 (t' := (56, [some (.ref 84), some (.int 0)], [.ref 84], (HD, m, w, mr))) rfl ?_
        refine wp_getl rfl ⟨by decide, rfl⟩ rfl ?_
        refine wp_steps 1 (t' := (58, [some (.ref 84), some (.int 0)], [.int ((w 84 24).toInt32)], (HD, m, w, mr))) rfl ?_
        have hr2 : rtF b n s.1 = 2 := h.r.symm.trans c_4
        have hl2 := rt_2.mp hr2
        have eT : s.2.2.1 = 2 := h.T.trans hl2
        have ev : s.2.2.2.1 = nuF b (lxE b n s.1 - s.1) s.1 0 := h.2.2.1.2.2.2.1 hl2
        rw [show (w 84 24).toInt32 = s.2.2.2.1 from (h.2.1.2.2.2.2.1 hr2).trans ev.symm]
        refine wp_steps 2 (t' := (60, [some (.ref 84), some (.int s.2.2.2.1)], [.ref 84], (HD, m, w, mr))) rfl ?_
        refine wp_calv (as := []) rfl rfl rfl (Nat.le_of_ble_eq_true rfl) ⟨by decide, rfl⟩ ((r_next (ml := w) hM h hnn (by rw [hl2]; decide))) (by omega) ?_
        rintro _ _ ⟨rfl, m_4, w_4, rfl, f4, g4⟩
        show aWP _ _ (61, [some (.ref 84), some (.int s.2.2.2.1)], [], (HD, m_4, w_4, mr)) _
        refine wp_steps 2 (t' := (81, [some (.ref 84), some (.int s.2.2.2.1)], [.int s.2.2.2.1], (HD, m_4, w_4, mr))) rfl ?_
        refine wp_ret rfl rfl ⟨⟨Nat.le_refl _, Nat.le_refl _⟩, ?_⟩
        have e := on_num (b := b) (n := n) (deep := (some q)) (s := s) eT
        have nv := nu_ok hl2 nm
        rw [← ev] at nv
        have hT0 : ¬ s.2.2.1 = 0 := by rw [eT]; decide
        refine ⟨_, _, _, rfl, rfl, f4, ?_⟩
        rw [e]
        exact ⟨fun _ => ⟨h.stad hT0 g4, GO_one h hT0 (Or.inr (by have := h.lt hT0; have := h.2.2.1.2.2.2.2; have := h.1.1.2.2.2; omega)) nv.1 nv.2 (by decide)⟩, fun z => Bool.noConfusion z⟩
    · have c_2 : ¬ ((if s.2.2.1 = 40 then (1 : Int32) else 0) = 0) := of_decide_eq_false c_2
      refine wp_steps 1 (t' := (25, [some (.ref 84), some (.int 0)], [.ref 84], (HD, m, w, mr))) rfl ?_
      refine wp_calv (as := []) rfl rfl rfl (Nat.le_of_ble_eq_true rfl) ⟨by decide, rfl⟩ ((r_opens (ml := w) hM h hnn (by rw [← h.T, i0_t c_2]; decide) (by decide))) (by omega) ?_
      rintro _ _ ⟨rfl, m_1, w_1, rfl, f1, g1⟩
      have eT : s.2.2.1 = 40 := i0_t c_2
      show aWP _ _ (26, [some (.ref 84), some (.int 0)], [.int 1], (HD, m_1, w_1, mr)) _
      skip
      · skip
        refine wp_bI rfl (fun c_9 => ?_) (fun c_9 => ?_)
        · have c_9 : (1 : Int32) = 0 := of_decide_eq_true c_9
          exact absurd c_9 (by decide)
        have c_9 : ¬ ((1 : Int32) = 0) := of_decide_eq_false c_9
        refine wp_steps 1 (t' := (28, [some (.ref 84), some (.int 0)], [.ref 84], (HD, m_1, w_1, mr))) rfl ?_
        refine wp_calv (as := []) rfl rfl rfl (Nat.le_of_ble_eq_true rfl) ⟨by decide, rfl⟩ ((h1 _ _ _ g1 (hnm.fr f1))) (by omega) ?_
        rintro _ _ ⟨v_2, m_2, w_2, rfl, rfl, f2, r2⟩
        show aWP _ _ (29, [some (.ref 84), some (.int 0)], [.int v_2], (HD, m_2, w_2, mr)) _
        by_cases hF : (q.1 (stP b n s)).1 = true
        · obtain ⟨g2, go2⟩ := r2.1 hF
          refine wp_steps 3 (t' := (32, [some (.ref 84), some (.int v_2)], [.int 41, .ref 84], (HD, m_2, w_2, mr))) rfl ?_
          refine wp_calv (as := [.int 41]) rfl rfl rfl (Nat.le_of_ble_eq_true rfl) ⟨by decide, rfl⟩ ((r_sign (ml := w_2) hM g2 (c := 41) (by decide))) (by omega) ?_
          rintro _ _ ⟨rfl, rfl⟩
          show aWP _ _ (33, [some (.ref 84), some (.int v_2)], [.int (if (q.1 (stP b n s)).2.2.2.1 = 41 then (1 : Int32) else 0)], (HD, m_2, w_2, mr)) _
          refine wp_bI rfl (fun c_10 => ?_) (fun c_10 => ?_)
          · have c_10 : ¬ (if (q.1 (stP b n s)).2.2.2.1 = 41 then (1 : Int32) else 0) = 0 := of_decide_eq_true c_10
            refine wp_steps 2 (t' := (38, [some (.ref 84), some (.int v_2)], [.ref 84, .ref 84], (HD, m_2, w_2, mr))) rfl ?_
            refine wp_geti rfl ⟨by decide, rfl⟩ (Or.inl rfl) ?_
            refine wp_steps 2 (t' := (41, [some (.ref 84), some (.int v_2)], [.int ((m_2 84 25) - 1), .ref 84], (HD, m_2, w_2, mr))) rfl ?_
            rw [show m_2 84 25 - 1 = nI 3 from by rw [g2.2.2.2.1]; exact nI_pred 3]
            refine wp_puti rfl ⟨by decide, rfl⟩ rfl (fun m_11 h_12 => ?_)
            subst h_12
            refine wp_steps 1 (t' := (43, [some (.ref 84), some (.int v_2)], [.ref 84], (HD, (aup m_2 84 25 (nI 3)), w_2, mr))) rfl ?_
            refine wp_geti rfl ⟨by decide, rfl⟩ (Or.inr rfl) ?_
            refine wp_bI rfl (fun c_13 => ?_) (fun c_13 => ?_)
            · have c_13 : ¬ ((aup m_2 84 25 (nI 3)) 84 26) = 0 := of_decide_eq_true c_13
              exact absurd (g2.op 3).2.2.2.2 c_13
            have c_13 : ((aup m_2 84 25 (nI 3)) 84 26) = 0 := Decidable.not_not.mp (of_decide_eq_false c_13)
            refine wp_steps 1 (t' := (46, [some (.ref 84), some (.int v_2)], [.ref 84], (HD, (aup m_2 84 25 (nI 3)), w_2, mr))) rfl ?_
            refine wp_calv (as := []) rfl rfl rfl (Nat.le_of_ble_eq_true rfl) ⟨by decide, rfl⟩ ((r_next (ml := w_2) hM (g2.op 3) hnn (by rw [← g2.T, i0_t c_10]; decide))) (by omega) ?_
            rintro _ _ ⟨rfl, m_4, w_4, rfl, f4, g4⟩
            show aWP _ _ (47, [some (.ref 84), some (.int v_2)], [], (HD, m_4, w_4, mr)) _
            refine wp_steps 2 (t' := (81, [some (.ref 84), some (.int v_2)], [.int v_2], (HD, m_4, w_4, mr))) rfl ?_
            refine wp_ret rfl rfl ⟨⟨Nat.le_refl _, Nat.le_refl _⟩, ?_⟩
            have e := on_par (b := b) (n := n) (q := q) eT
            rw [if_pos ⟨hF, i0_t c_10⟩] at e
            refine ⟨_, _, _, rfl, rfl, ((f1.tr f2).tr (frR.up (by decide) (by decide) _)).tr f4, ?_⟩
            rw [e]
            exact ⟨fun _ => ⟨g4, (GO_par h (by rw [eT]; decide) g2 go2).wk (by decide)⟩, fun z => Bool.noConfusion z⟩
          · have c_10 : (if (q.1 (stP b n s)).2.2.2.1 = 41 then (1 : Int32) else 0) = 0 := Decidable.not_not.mp (of_decide_eq_false c_10)
            refine wp_steps 1 (t' := (35, [some (.ref 84), some (.int v_2)], [.ref 84], (HD, m_2, w_2, mr))) rfl ?_
            refine wp_calv (as := []) rfl rfl rfl (Nat.le_of_ble_eq_true rfl) ⟨by decide, rfl⟩ ((r_fail (ml := w_2) hM g2)) (by omega) ?_
            rintro _ _ ⟨rfl, m_3, rfl, f3, g3⟩
            show aWP _ _ (36, [some (.ref 84), some (.int v_2)], [], (HD, m_3, w_2, mr)) _
            skip
            · skip
              refine wp_steps 2 (t' := (38, [some (.ref 84), some (.int v_2)], [.ref 84, .ref 84], (HD, m_3, w_2, mr))) rfl ?_
              refine wp_geti rfl ⟨by decide, rfl⟩ (Or.inl rfl) ?_
              refine wp_steps 2 (t' := (41, [some (.ref 84), some (.int v_2)], [.int ((m_3 84 25) - 1), .ref 84], (HD, m_3, w_2, mr))) rfl ?_
              refine wp_puti rfl ⟨by decide, rfl⟩ rfl (fun m_14 h_15 => ?_)
              subst h_15
              refine wp_steps 1 (t' := (43, [some (.ref 84), some (.int v_2)], [.ref 84], (HD, (aup m_3 84 25 ((m_3 84 25) - 1)), w_2, mr))) rfl ?_
              refine wp_geti rfl ⟨by decide, rfl⟩ (Or.inr rfl) ?_
              refine wp_bI rfl (fun c_16 => ?_) (fun c_16 => ?_)
              rotate_left
              · have c_16 : ((aup m_3 84 25 ((m_3 84 25) - 1)) 84 26) = 0 := Decidable.not_not.mp (of_decide_eq_false c_16)
                exact absurd c_16 (RF.b (RF.up g3 _))
              have c_16 : ¬ ((aup m_3 84 25 ((m_3 84 25) - 1)) 84 26) = 0 := of_decide_eq_true c_16
              refine wp_steps 1 (t' := (81, [some (.ref 84), some (.int v_2)], [.int v_2], (HD, (aup m_3 84 25 ((m_3 84 25) - 1)), w_2, mr))) rfl ?_
              refine wp_ret rfl rfl ⟨⟨Nat.le_refl _, Nat.le_refl _⟩, ?_⟩
              have e := on_par (b := b) (n := n) (q := q) eT
              rw [if_neg (fun z => i0_f c_10 z.2)] at e
              refine ⟨_, _, _, rfl, rfl, ((f1.tr f2).tr f3).tr (frR.up (by decide) (by decide) _), ?_⟩
              rw [e]
              exact ⟨fun z => Bool.noConfusion z, fun _ => g3.up _⟩
        · have g2 := r2.2 (Bool.eq_false_iff.mpr hF)
          refine wp_steps 3 (t' := (32, [some (.ref 84), some (.int v_2)], [.int 41, .ref 84], (HD, m_2, w_2, mr))) rfl ?_
          refine wp_calv (as := [.int 41]) rfl rfl rfl (Nat.le_of_ble_eq_true rfl) ⟨by decide, rfl⟩ ((r_sign_b (ml := w_2) (mr := mr) g2.b (c := 41))) (by omega) ?_
          rintro _ _ ⟨rfl, rfl⟩
          show aWP _ _ (33, [some (.ref 84), some (.int v_2)], [.int 0], (HD, m_2, w_2, mr)) _
          refine wp_bI rfl (fun c_17 => ?_) (fun c_17 => ?_)
          · have c_17 : ¬ (0 : Int32) = 0 := of_decide_eq_true c_17
            exact absurd c_17 (by decide)
          have c_17 : (0 : Int32) = 0 := Decidable.not_not.mp (of_decide_eq_false c_17)
          refine wp_steps 1 (t' := (35, [some (.ref 84), some (.int v_2)], [.ref 84], (HD, m_2, w_2, mr))) rfl ?_
          refine wp_calv (as := []) rfl rfl rfl (Nat.le_of_ble_eq_true rfl) ⟨by decide, rfl⟩ ((r_fail_b (ml := w_2) (mr := mr) g2.b)) (by omega) ?_
          rintro _ _ ⟨rfl, rfl⟩
          show aWP _ _ (36, [some (.ref 84), some (.int v_2)], [], (HD, m_2, w_2, mr)) _
          refine wp_steps 2 (t' := (38, [some (.ref 84), some (.int v_2)], [.ref 84, .ref 84], (HD, m_2, w_2, mr))) rfl ?_
          refine wp_geti rfl ⟨by decide, rfl⟩ (Or.inl rfl) ?_
          refine wp_steps 2 (t' := (41, [some (.ref 84), some (.int v_2)], [.int ((m_2 84 25) - 1), .ref 84], (HD, m_2, w_2, mr))) rfl ?_
          refine wp_puti rfl ⟨by decide, rfl⟩ rfl (fun m_18 h_19 => ?_)
          subst h_19
          refine wp_steps 1 (t' := (43, [some (.ref 84), some (.int v_2)], [.ref 84], (HD, (aup m_2 84 25 ((m_2 84 25) - 1)), w_2, mr))) rfl ?_
          refine wp_geti rfl ⟨by decide, rfl⟩ (Or.inr rfl) ?_
          refine wp_bI rfl (fun c_20 => ?_) (fun c_20 => ?_)
          rotate_left
          · have c_20 : ((aup m_2 84 25 ((m_2 84 25) - 1)) 84 26) = 0 := Decidable.not_not.mp (of_decide_eq_false c_20)
            exact absurd c_20 (RF.b (RF.up g2 _))
          have c_20 : ¬ ((aup m_2 84 25 ((m_2 84 25) - 1)) 84 26) = 0 := of_decide_eq_true c_20
          refine wp_steps 1 (t' := (81, [some (.ref 84), some (.int v_2)], [.int v_2], (HD, (aup m_2 84 25 ((m_2 84 25) - 1)), w_2, mr))) rfl ?_
          refine wp_ret rfl rfl ⟨⟨Nat.le_refl _, Nat.le_refl _⟩, ?_⟩
          have e := on_par (b := b) (n := n) (q := q) eT
          rw [if_neg (fun z => hF z.1)] at e
          refine ⟨_, _, _, rfl, rfl, (f1.tr f2).tr (frR.up (by decide) (by decide) _), ?_⟩
          rw [e]
          exact ⟨fun z => Bool.noConfusion z, fun _ => g2.up _⟩
  · have c_1 : ¬ ((if s.2.2.1 = 45 then (1 : Int32) else 0) = 0) := of_decide_eq_false c_1
    refine wp_steps 1 (t' := (7, [some (.ref 84), some (.int 0)], [.ref 84], (HD, m, w, mr))) rfl ?_
    refine wp_calv (as := []) rfl rfl rfl (Nat.le_of_ble_eq_true rfl) ⟨by decide, rfl⟩ ((r_opens (ml := w) hM h hnn (by rw [← h.T, i0_t c_1]; decide) (by decide))) (by omega) ?_
    rintro _ _ ⟨rfl, m_1, w_1, rfl, f1, g1⟩
    have eT : s.2.2.1 = 45 := i0_t c_1
    show aWP _ _ (8, [some (.ref 84), some (.int 0)], [.int 1], (HD, m_1, w_1, mr)) _
    skip
    · skip
      refine wp_bI rfl (fun c_21 => ?_) (fun c_21 => ?_)
      · have c_21 : (1 : Int32) = 0 := of_decide_eq_true c_21
        exact absurd c_21 (by decide)
      have c_21 : ¬ ((1 : Int32) = 0) := of_decide_eq_false c_21
      refine wp_steps 1 (t' := (10, [some (.ref 84), some (.int 0)], [.ref 84], (HD, m_1, w_1, mr))) rfl ?_
      refine wp_calv (as := []) rfl rfl rfl (Nat.le_of_ble_eq_true rfl) ⟨by decide, rfl⟩ ((h3 _ _ _ g1 (hnm.fr f1))) (by omega) ?_
      rintro _ _ ⟨v_2, m_2, w_2, rfl, rfl, f2, r2⟩
      show aWP _ _ (11, [some (.ref 84), some (.int 0)], [.int v_2], (HD, m_2, w_2, mr)) _
      by_cases hF : (q.2.2 (stP b n s)).1 = true
      · obtain ⟨g2, go2⟩ := r2.1 hF
        refine wp_steps 4 (t' := (15, [some (.ref 84), some (.int (-v_2))], [.ref 84, .ref 84], (HD, m_2, w_2, mr))) rfl ?_
        refine wp_geti rfl ⟨by decide, rfl⟩ (Or.inl rfl) ?_
        refine wp_steps 2 (t' := (18, [some (.ref 84), some (.int (-v_2))], [.int ((m_2 84 25) - 1), .ref 84], (HD, m_2, w_2, mr))) rfl ?_
        rw [show m_2 84 25 - 1 = nI 3 from by rw [g2.2.2.2.1]; exact nI_pred 3]
        refine wp_puti rfl ⟨by decide, rfl⟩ rfl (fun m_22 h_23 => ?_)
        subst h_23
        refine wp_steps 2 (t' := (81, [some (.ref 84), some (.int (-v_2))], [.int (-v_2)], (HD, (aup m_2 84 25 (nI 3)), w_2, mr))) rfl ?_
        refine wp_ret rfl rfl ⟨⟨Nat.le_refl _, Nat.le_refl _⟩, ?_⟩
        have e := on_neg (b := b) (n := n) (q := q) eT
        rw [if_pos hF] at e
        obtain ⟨k1, k2⟩ := GO_un h (by rw [eT]; decide) g2 go2 (Or.inr (rfl : (-19 : Int32) = -19))
        refine ⟨_, _, _, rfl, rfl, (f1.tr f2).tr (frR.up (by decide) (by decide) _), ?_⟩
        rw [e]
        exact ⟨fun _ => ⟨k1.op 3, k2.wk (by decide)⟩, fun z => Bool.noConfusion z⟩
      · have g2 := r2.2 (Bool.eq_false_iff.mpr hF)
        refine wp_steps 4 (t' := (15, [some (.ref 84), some (.int (-v_2))], [.ref 84, .ref 84], (HD, m_2, w_2, mr))) rfl ?_
        refine wp_geti rfl ⟨by decide, rfl⟩ (Or.inl rfl) ?_
        refine wp_steps 2 (t' := (18, [some (.ref 84), some (.int (-v_2))], [.int ((m_2 84 25) - 1), .ref 84], (HD, m_2, w_2, mr))) rfl ?_
        refine wp_puti rfl ⟨by decide, rfl⟩ rfl (fun m_24 h_25 => ?_)
        subst h_25
        refine wp_steps 2 (t' := (81, [some (.ref 84), some (.int (-v_2))], [.int (-v_2)], (HD, (aup m_2 84 25 ((m_2 84 25) - 1)), w_2, mr))) rfl ?_
        refine wp_ret rfl rfl ⟨⟨Nat.le_refl _, Nat.le_refl _⟩, ?_⟩
        have e := on_neg (b := b) (n := n) (q := q) eT
        rw [if_neg hF] at e
        refine ⟨_, _, _, rfl, rfl, (f1.tr f2).tr (frR.up (by decide) (by decide) _), ?_⟩
        rw [e]
        exact ⟨fun z => Bool.noConfusion z, fun _ => g2.up _⟩
set_option maxRecDepth 20000 in
set_option maxHeartbeats 1000000 in
theorem r_atom2 {X : aXt × Value} {mr : Nat → Nat → Option Nat} (hM : MRok mr) {b : Nat → Int32} {n t : Nat} (hnn : nnB b n) {nm : Nat → Int32} {d : Nat} (hd : 4 ≤ d) {q : pF × pF × pF} (h1 : cwR X mr b n t 3 nm d 150 16 q.1) (h2 : cwR X mr b n t 3 nm d 148 14 q.2.1) (h3 : cwR X mr b n t 3 nm d 145 11 q.2.2) : cwR X mr b n t 2 nm (d + 1) 151 16 (onF b n (some q)) := by
  intro m w s h hnm
  refine cw_of (cd := cd_X7_atom2) (nL := 2) rfl rfl ?_
  show aWP _ _ (0, [some (.ref 84), none], [], (HD, m, w, mr)) _
  refine wp_steps 4 (t' := (4, [some (.ref 84), some (.int 0)], [.int 45, .ref 84], (HD, m, w, mr))) rfl ?_
  refine wp_calv (as := [.int 45]) rfl rfl rfl (Nat.le_of_ble_eq_true rfl) ⟨by decide, rfl⟩ ((r_sign (ml := w) hM h (c := 45) (by decide))) (by omega) ?_
  rintro _ _ ⟨rfl, rfl⟩
  show aWP _ _ (5, [some (.ref 84), some (.int 0)], [.int (if s.2.2.1 = 45 then (1 : Int32) else 0)], (HD, m, w, mr)) _
  refine wp_bI rfl (fun c_1 => ?_) (fun c_1 => ?_)
  · have c_1 : (if s.2.2.1 = 45 then (1 : Int32) else 0) = 0 := of_decide_eq_true c_1
    refine wp_steps 2 (t' := (22, [some (.ref 84), some (.int 0)], [.int 40, .ref 84], (HD, m, w, mr))) rfl ?_
    refine wp_calv (as := [.int 40]) rfl rfl rfl (Nat.le_of_ble_eq_true rfl) ⟨by decide, rfl⟩ ((r_sign (ml := w) hM h (c := 40) (by decide))) (by omega) ?_
    rintro _ _ ⟨rfl, rfl⟩
    show aWP _ _ (23, [some (.ref 84), some (.int 0)], [.int (if s.2.2.1 = 40 then (1 : Int32) else 0)], (HD, m, w, mr)) _
    refine wp_bI rfl (fun c_2 => ?_) (fun c_2 => ?_)
    · have c_2 : (if s.2.2.1 = 40 then (1 : Int32) else 0) = 0 := of_decide_eq_true c_2
      refine wp_steps 1 (t' := (49, [some (.ref 84), some (.int 0)], [.ref 84], (HD, m, w, mr))) rfl ?_
      refine wp_geti rfl ⟨by decide, rfl⟩ (Or.inr rfl) ?_
      refine wp_bI rfl (fun c_3 => ?_) (fun c_3 => ?_)
      · have c_3 : ¬ (m 84 26) = 0 := of_decide_eq_true c_3
        exact absurd h.2.2.2.2 c_3
      have c_3 : (m 84 26) = 0 := Decidable.not_not.mp (of_decide_eq_false c_3)
      refine wp_steps 1 (t' := (52, [some (.ref 84), some (.int 0)], [.ref 84], (HD, m, w, mr))) rfl ?_
      refine wp_geti rfl ⟨by decide, rfl⟩ (Or.inl rfl) ?_
      refine wp_steps 1 (t' := (54, [some (.ref 84), some (.int 0)], [.int 2, .int (m 84 22)], (HD, m, w, mr))) rfl ?_
      refine wp_bC rfl (fun c_4 => ?_) (fun c_4 => ?_)
      · have c_4 : ¬ (m 84 22) = 2 := of_decide_eq_true c_4
        refine wp_steps 1 (t' := (63, [some (.ref 84), some (.int 0)], [.ref 84], (HD, m, w, mr))) rfl ?_
        refine wp_geti rfl ⟨by decide, rfl⟩ (Or.inr rfl) ?_
        refine wp_bI rfl (fun c_5 => ?_) (fun c_5 => ?_)
        · have c_5 : ¬ (m 84 26) = 0 := of_decide_eq_true c_5
          exact absurd h.2.2.2.2 c_5
        have c_5 : (m 84 26) = 0 := Decidable.not_not.mp (of_decide_eq_false c_5)
        refine wp_steps 1 (t' := (66, [some (.ref 84), some (.int 0)], [.ref 84], (HD, m, w, mr))) rfl ?_
        refine wp_geti rfl ⟨by decide, rfl⟩ (Or.inl rfl) ?_
        refine wp_steps 1 (t' := (68, [some (.ref 84), some (.int 0)], [.int 1, .int (m 84 22)], (HD, m, w, mr))) rfl ?_
        refine wp_bC rfl (fun c_6 => ?_) (fun c_6 => ?_)
        · have c_6 : ¬ (m 84 22) = 1 := of_decide_eq_true c_6
          refine wp_steps 1 (t' := (79, [some (.ref 84), some (.int 0)], [.ref 84], (HD, m, w, mr))) rfl ?_
          refine wp_calv (as := []) rfl rfl rfl (Nat.le_of_ble_eq_true rfl) ⟨by decide, rfl⟩ ((r_fail (ml := w) hM h)) (by omega) ?_
          rintro _ _ ⟨rfl, m_3, rfl, f3, g3⟩
          show aWP _ _ (80, [some (.ref 84), some (.int 0)], [], (HD, m_3, w, mr)) _
          skip
          · skip
            refine wp_steps 1 (t' := (81, [some (.ref 84), some (.int 0)], [.int 0], (HD, m_3, w, mr))) rfl ?_
            refine wp_ret rfl rfl ⟨⟨Nat.le_refl _, Nat.le_refl _⟩, ?_⟩
            have hD : ¬ D6 s.2.2.1 := by rw [h.T]; exact nD6 (fun z => c_6 (h.r.trans z))
            have e := on_out (b := b) (n := n) (deep := (some q)) (s := s) (fun z => c_4 (h.r.trans (rt_2.mpr (h.T.symm.trans z)))) hD (Or.inr ⟨i0_f c_1, i0_f c_2⟩)
            refine ⟨_, _, _, rfl, rfl, f3, ?_⟩
            rw [e]
            exact ⟨fun z => Bool.noConfusion z, fun _ => g3⟩
        · have c_6 : (m 84 22) = 1 := Decidable.not_not.mp (of_decide_eq_false c_6)
          refine wp_steps 1 (t' := (70, [some (.ref 84), some (.int 0)], [.ref 84], (HD, m, w, mr))) rfl ?_
          refine wp_calv (as := []) rfl rfl rfl (Nat.le_of_ble_eq_true rfl) ⟨by decide, rfl⟩ ((r_name (ml := w) hM h)) (by omega) ?_
          rintro _ _ ⟨v_1, m_1, rfl, rfl, n1, n2⟩
          show aWP _ _ (71, [some (.ref 84), some (.int 0)], [.int v_1], (HD, m_1, w, mr)) _
          by_cases hD : D6 s.2.2.1
          · rw [(n1 hD).1, (n1 hD).2]
            refine wp_steps 2 (t' := (73, [some (.ref 84), some (.int (m 84 (s.2.2.1 + 3).toNatClampNeg))], [.ref 84], (HD, m, w, mr))) rfl ?_
            refine wp_geti rfl ⟨by decide, rfl⟩ (Or.inr rfl) ?_
            refine wp_bI rfl (fun c_7 => ?_) (fun c_7 => ?_)
            · have c_7 : ¬ (m 84 26) = 0 := of_decide_eq_true c_7
              exact absurd h.2.2.2.2 c_7
            have c_7 : (m 84 26) = 0 := Decidable.not_not.mp (of_decide_eq_false c_7)
            refine wp_steps 1 (t' := (76, [some (.ref 84), some (.int (m 84 (s.2.2.1 + 3).toNatClampNeg))], [.ref 84], (HD, m, w, mr))) rfl ?_
            refine wp_calv (as := []) rfl rfl rfl (Nat.le_of_ble_eq_true rfl) ⟨by decide, rfl⟩ ((r_next (ml := w) hM h hnn (by rw [← h.T]; intro z; rw [z] at hD; exact absurd hD (by decide)))) (by omega) ?_
            rintro _ _ ⟨rfl, m_4, w_4, rfl, f4, g4⟩
            show aWP _ _ (77, [some (.ref 84), some (.int (m 84 (s.2.2.1 + 3).toNatClampNeg))], [], (HD, m_4, w_4, mr)) _
            refine wp_steps 2 (t' := (81, [some (.ref 84), some (.int (m 84 (s.2.2.1 + 3).toNatClampNeg))], [.int (m 84 (s.2.2.1 + 3).toNatClampNeg)], (HD, m_4, w_4, mr))) rfl ?_
            refine wp_ret rfl rfl ⟨⟨Nat.le_refl _, Nat.le_refl _⟩, ?_⟩
            have e := on_nam (b := b) (n := n) (deep := (some q)) (s := s) hD
            obtain ⟨q1, q2, q3, q4⟩ := nam_ok hD nm
            have hT0 : ¬ s.2.2.1 = 0 := fun z => by rw [z] at hD; exact absurd hD (by decide)
            refine ⟨_, _, _, rfl, rfl, f4, ?_⟩
            rw [e, q3, hnm _ q4]
            exact ⟨fun _ => ⟨h.stad hT0 g4, GO_one h hT0 (Or.inr (by have := h.lt hT0; have := h.2.2.1.2.2.2.2; have := h.1.1.2.2.2; omega)) q1 q2 (by decide)⟩, fun z => Bool.noConfusion z⟩
          · obtain ⟨f1, g1⟩ := n2 hD
            refine wp_steps 2 (t' := (73, [some (.ref 84), some (.int v_1)], [.ref 84], (HD, m_1, w, mr))) rfl ?_
            refine wp_geti rfl ⟨by decide, rfl⟩ (Or.inr rfl) ?_
            refine wp_bI rfl (fun c_8 => ?_) (fun c_8 => ?_)
            rotate_left
            · have c_8 : (m_1 84 26) = 0 := Decidable.not_not.mp (of_decide_eq_false c_8)
              exact absurd c_8 (RF.b (g1))
            have c_8 : ¬ (m_1 84 26) = 0 := of_decide_eq_true c_8
            refine wp_steps 1 (t' := (81, [some (.ref 84), some (.int v_1)], [.int v_1], (HD, m_1, w, mr))) rfl ?_
            refine wp_ret rfl rfl ⟨⟨Nat.le_refl _, Nat.le_refl _⟩, ?_⟩
            have e := on_out (b := b) (n := n) (deep := (some q)) (s := s) (fun z => c_4 (h.r.trans (rt_2.mpr (h.T.symm.trans z)))) hD (Or.inr ⟨i0_f c_1, i0_f c_2⟩)
            refine ⟨_, _, _, rfl, rfl, f1, ?_⟩
            rw [e]
            exact ⟨fun z => Bool.noConfusion z, fun _ => g1⟩
      · have c_4 : (m 84 22) = 2 := Decidable.not_not.mp (of_decide_eq_false c_4)
        refine wp_steps 1 (t' := (56, [some (.ref 84), some (.int 0)], [.ref 84], (HD, m, w, mr))) rfl ?_
        refine wp_getl rfl ⟨by decide, rfl⟩ rfl ?_
        refine wp_steps 1 (t' := (58, [some (.ref 84), some (.int 0)], [.int ((w 84 24).toInt32)], (HD, m, w, mr))) rfl ?_
        have hr2 : rtF b n s.1 = 2 := h.r.symm.trans c_4
        have hl2 := rt_2.mp hr2
        have eT : s.2.2.1 = 2 := h.T.trans hl2
        have ev : s.2.2.2.1 = nuF b (lxE b n s.1 - s.1) s.1 0 := h.2.2.1.2.2.2.1 hl2
        rw [show (w 84 24).toInt32 = s.2.2.2.1 from (h.2.1.2.2.2.2.1 hr2).trans ev.symm]
        refine wp_steps 2 (t' := (60, [some (.ref 84), some (.int s.2.2.2.1)], [.ref 84], (HD, m, w, mr))) rfl ?_
        refine wp_calv (as := []) rfl rfl rfl (Nat.le_of_ble_eq_true rfl) ⟨by decide, rfl⟩ ((r_next (ml := w) hM h hnn (by rw [hl2]; decide))) (by omega) ?_
        rintro _ _ ⟨rfl, m_4, w_4, rfl, f4, g4⟩
        show aWP _ _ (61, [some (.ref 84), some (.int s.2.2.2.1)], [], (HD, m_4, w_4, mr)) _
        refine wp_steps 2 (t' := (81, [some (.ref 84), some (.int s.2.2.2.1)], [.int s.2.2.2.1], (HD, m_4, w_4, mr))) rfl ?_
        refine wp_ret rfl rfl ⟨⟨Nat.le_refl _, Nat.le_refl _⟩, ?_⟩
        have e := on_num (b := b) (n := n) (deep := (some q)) (s := s) eT
        have nv := nu_ok hl2 nm
        rw [← ev] at nv
        have hT0 : ¬ s.2.2.1 = 0 := by rw [eT]; decide
        refine ⟨_, _, _, rfl, rfl, f4, ?_⟩
        rw [e]
        exact ⟨fun _ => ⟨h.stad hT0 g4, GO_one h hT0 (Or.inr (by have := h.lt hT0; have := h.2.2.1.2.2.2.2; have := h.1.1.2.2.2; omega)) nv.1 nv.2 (by decide)⟩, fun z => Bool.noConfusion z⟩
    · have c_2 : ¬ ((if s.2.2.1 = 40 then (1 : Int32) else 0) = 0) := of_decide_eq_false c_2
      refine wp_steps 1 (t' := (25, [some (.ref 84), some (.int 0)], [.ref 84], (HD, m, w, mr))) rfl ?_
      refine wp_calv (as := []) rfl rfl rfl (Nat.le_of_ble_eq_true rfl) ⟨by decide, rfl⟩ ((r_opens (ml := w) hM h hnn (by rw [← h.T, i0_t c_2]; decide) (by decide))) (by omega) ?_
      rintro _ _ ⟨rfl, m_1, w_1, rfl, f1, g1⟩
      have eT : s.2.2.1 = 40 := i0_t c_2
      show aWP _ _ (26, [some (.ref 84), some (.int 0)], [.int 1], (HD, m_1, w_1, mr)) _
      skip
      · skip
        refine wp_bI rfl (fun c_9 => ?_) (fun c_9 => ?_)
        · have c_9 : (1 : Int32) = 0 := of_decide_eq_true c_9
          exact absurd c_9 (by decide)
        have c_9 : ¬ ((1 : Int32) = 0) := of_decide_eq_false c_9
        refine wp_steps 1 (t' := (28, [some (.ref 84), some (.int 0)], [.ref 84], (HD, m_1, w_1, mr))) rfl ?_
        refine wp_calv (as := []) rfl rfl rfl (Nat.le_of_ble_eq_true rfl) ⟨by decide, rfl⟩ ((h1 _ _ _ g1 (hnm.fr f1))) (by omega) ?_
        rintro _ _ ⟨v_2, m_2, w_2, rfl, rfl, f2, r2⟩
        show aWP _ _ (29, [some (.ref 84), some (.int 0)], [.int v_2], (HD, m_2, w_2, mr)) _
        by_cases hF : (q.1 (stP b n s)).1 = true
        · obtain ⟨g2, go2⟩ := r2.1 hF
          refine wp_steps 3 (t' := (32, [some (.ref 84), some (.int v_2)], [.int 41, .ref 84], (HD, m_2, w_2, mr))) rfl ?_
          refine wp_calv (as := [.int 41]) rfl rfl rfl (Nat.le_of_ble_eq_true rfl) ⟨by decide, rfl⟩ ((r_sign (ml := w_2) hM g2 (c := 41) (by decide))) (by omega) ?_
          rintro _ _ ⟨rfl, rfl⟩
          show aWP _ _ (33, [some (.ref 84), some (.int v_2)], [.int (if (q.1 (stP b n s)).2.2.2.1 = 41 then (1 : Int32) else 0)], (HD, m_2, w_2, mr)) _
          refine wp_bI rfl (fun c_10 => ?_) (fun c_10 => ?_)
          · have c_10 : ¬ (if (q.1 (stP b n s)).2.2.2.1 = 41 then (1 : Int32) else 0) = 0 := of_decide_eq_true c_10
            refine wp_steps 2 (t' := (38, [some (.ref 84), some (.int v_2)], [.ref 84, .ref 84], (HD, m_2, w_2, mr))) rfl ?_
            refine wp_geti rfl ⟨by decide, rfl⟩ (Or.inl rfl) ?_
            refine wp_steps 2 (t' := (41, [some (.ref 84), some (.int v_2)], [.int ((m_2 84 25) - 1), .ref 84], (HD, m_2, w_2, mr))) rfl ?_
            rw [show m_2 84 25 - 1 = nI 2 from by rw [g2.2.2.2.1]; exact nI_pred 2]
            refine wp_puti rfl ⟨by decide, rfl⟩ rfl (fun m_11 h_12 => ?_)
            subst h_12
            refine wp_steps 1 (t' := (43, [some (.ref 84), some (.int v_2)], [.ref 84], (HD, (aup m_2 84 25 (nI 2)), w_2, mr))) rfl ?_
            refine wp_geti rfl ⟨by decide, rfl⟩ (Or.inr rfl) ?_
            refine wp_bI rfl (fun c_13 => ?_) (fun c_13 => ?_)
            · have c_13 : ¬ ((aup m_2 84 25 (nI 2)) 84 26) = 0 := of_decide_eq_true c_13
              exact absurd (g2.op 2).2.2.2.2 c_13
            have c_13 : ((aup m_2 84 25 (nI 2)) 84 26) = 0 := Decidable.not_not.mp (of_decide_eq_false c_13)
            refine wp_steps 1 (t' := (46, [some (.ref 84), some (.int v_2)], [.ref 84], (HD, (aup m_2 84 25 (nI 2)), w_2, mr))) rfl ?_
            refine wp_calv (as := []) rfl rfl rfl (Nat.le_of_ble_eq_true rfl) ⟨by decide, rfl⟩ ((r_next (ml := w_2) hM (g2.op 2) hnn (by rw [← g2.T, i0_t c_10]; decide))) (by omega) ?_
            rintro _ _ ⟨rfl, m_4, w_4, rfl, f4, g4⟩
            show aWP _ _ (47, [some (.ref 84), some (.int v_2)], [], (HD, m_4, w_4, mr)) _
            refine wp_steps 2 (t' := (81, [some (.ref 84), some (.int v_2)], [.int v_2], (HD, m_4, w_4, mr))) rfl ?_
            refine wp_ret rfl rfl ⟨⟨Nat.le_refl _, Nat.le_refl _⟩, ?_⟩
            have e := on_par (b := b) (n := n) (q := q) eT
            rw [if_pos ⟨hF, i0_t c_10⟩] at e
            refine ⟨_, _, _, rfl, rfl, ((f1.tr f2).tr (frR.up (by decide) (by decide) _)).tr f4, ?_⟩
            rw [e]
            exact ⟨fun _ => ⟨g4, (GO_par h (by rw [eT]; decide) g2 go2).wk (by decide)⟩, fun z => Bool.noConfusion z⟩
          · have c_10 : (if (q.1 (stP b n s)).2.2.2.1 = 41 then (1 : Int32) else 0) = 0 := Decidable.not_not.mp (of_decide_eq_false c_10)
            refine wp_steps 1 (t' := (35, [some (.ref 84), some (.int v_2)], [.ref 84], (HD, m_2, w_2, mr))) rfl ?_
            refine wp_calv (as := []) rfl rfl rfl (Nat.le_of_ble_eq_true rfl) ⟨by decide, rfl⟩ ((r_fail (ml := w_2) hM g2)) (by omega) ?_
            rintro _ _ ⟨rfl, m_3, rfl, f3, g3⟩
            show aWP _ _ (36, [some (.ref 84), some (.int v_2)], [], (HD, m_3, w_2, mr)) _
            skip
            · skip
              refine wp_steps 2 (t' := (38, [some (.ref 84), some (.int v_2)], [.ref 84, .ref 84], (HD, m_3, w_2, mr))) rfl ?_
              refine wp_geti rfl ⟨by decide, rfl⟩ (Or.inl rfl) ?_
              refine wp_steps 2 (t' := (41, [some (.ref 84), some (.int v_2)], [.int ((m_3 84 25) - 1), .ref 84], (HD, m_3, w_2, mr))) rfl ?_
              refine wp_puti rfl ⟨by decide, rfl⟩ rfl (fun m_14 h_15 => ?_)
              subst h_15
              refine wp_steps 1 (t' := (43, [some (.ref 84), some (.int v_2)], [.ref 84], (HD, (aup m_3 84 25 ((m_3 84 25) - 1)), w_2, mr))) rfl ?_
              refine wp_geti rfl ⟨by decide, rfl⟩ (Or.inr rfl) ?_
              refine wp_bI rfl (fun c_16 => ?_) (fun c_16 => ?_)
              rotate_left
              · have c_16 : ((aup m_3 84 25 ((m_3 84 25) - 1)) 84 26) = 0 := Decidable.not_not.mp (of_decide_eq_false c_16)
                exact absurd c_16 (RF.b (RF.up g3 _))
              have c_16 : ¬ ((aup m_3 84 25 ((m_3 84 25) - 1)) 84 26) = 0 := of_decide_eq_true c_16
              refine wp_steps 1 (t' := (81, [some (.ref 84), some (.int v_2)], [.int v_2], (HD, (aup m_3 84 25 ((m_3 84 25) - 1)), w_2, mr))) rfl ?_
              refine wp_ret rfl rfl ⟨⟨Nat.le_refl _, Nat.le_refl _⟩, ?_⟩
              have e := on_par (b := b) (n := n) (q := q) eT
              rw [if_neg (fun z => i0_f c_10 z.2)] at e
              refine ⟨_, _, _, rfl, rfl, ((f1.tr f2).tr f3).tr (frR.up (by decide) (by decide) _), ?_⟩
              rw [e]
              exact ⟨fun z => Bool.noConfusion z, fun _ => g3.up _⟩
        · have g2 := r2.2 (Bool.eq_false_iff.mpr hF)
          refine wp_steps 3 (t' := (32, [some (.ref 84), some (.int v_2)], [.int 41, .ref 84], (HD, m_2, w_2, mr))) rfl ?_
          refine wp_calv (as := [.int 41]) rfl rfl rfl (Nat.le_of_ble_eq_true rfl) ⟨by decide, rfl⟩ ((r_sign_b (ml := w_2) (mr := mr) g2.b (c := 41))) (by omega) ?_
          rintro _ _ ⟨rfl, rfl⟩
          show aWP _ _ (33, [some (.ref 84), some (.int v_2)], [.int 0], (HD, m_2, w_2, mr)) _
          refine wp_bI rfl (fun c_17 => ?_) (fun c_17 => ?_)
          · have c_17 : ¬ (0 : Int32) = 0 := of_decide_eq_true c_17
            exact absurd c_17 (by decide)
          have c_17 : (0 : Int32) = 0 := Decidable.not_not.mp (of_decide_eq_false c_17)
          refine wp_steps 1 (t' := (35, [some (.ref 84), some (.int v_2)], [.ref 84], (HD, m_2, w_2, mr))) rfl ?_
          refine wp_calv (as := []) rfl rfl rfl (Nat.le_of_ble_eq_true rfl) ⟨by decide, rfl⟩ ((r_fail_b (ml := w_2) (mr := mr) g2.b)) (by omega) ?_
          rintro _ _ ⟨rfl, rfl⟩
          show aWP _ _ (36, [some (.ref 84), some (.int v_2)], [], (HD, m_2, w_2, mr)) _
          refine wp_steps 2 (t' := (38, [some (.ref 84), some (.int v_2)], [.ref 84, .ref 84], (HD, m_2, w_2, mr))) rfl ?_
          refine wp_geti rfl ⟨by decide, rfl⟩ (Or.inl rfl) ?_
          refine wp_steps 2 (t' := (41, [some (.ref 84), some (.int v_2)], [.int ((m_2 84 25) - 1), .ref 84], (HD, m_2, w_2, mr))) rfl ?_
          refine wp_puti rfl ⟨by decide, rfl⟩ rfl (fun m_18 h_19 => ?_)
          subst h_19
          refine wp_steps 1 (t' := (43, [some (.ref 84), some (.int v_2)], [.ref 84], (HD, (aup m_2 84 25 ((m_2 84 25) - 1)), w_2, mr))) rfl ?_
          refine wp_geti rfl ⟨by decide, rfl⟩ (Or.inr rfl) ?_
          refine wp_bI rfl (fun c_20 => ?_) (fun c_20 => ?_)
          rotate_left
          · have c_20 : ((aup m_2 84 25 ((m_2 84 25) - 1)) 84 26) = 0 := Decidable.not_not.mp (of_decide_eq_false c_20)
            exact absurd c_20 (RF.b (RF.up g2 _))
          have c_20 : ¬ ((aup m_2 84 25 ((m_2 84 25) - 1)) 84 26) = 0 := of_decide_eq_true c_20
          refine wp_steps 1 (t' := (81, [some (.ref 84), some (.int v_2)], [.int v_2], (HD, (aup m_2 84 25 ((m_2 84 25) - 1)), w_2, mr))) rfl ?_
          refine wp_ret rfl rfl ⟨⟨Nat.le_refl _, Nat.le_refl _⟩, ?_⟩
          have e := on_par (b := b) (n := n) (q := q) eT
          rw [if_neg (fun z => hF z.1)] at e
          refine ⟨_, _, _, rfl, rfl, (f1.tr f2).tr (frR.up (by decide) (by decide) _), ?_⟩
          rw [e]
          exact ⟨fun z => Bool.noConfusion z, fun _ => g2.up _⟩
  · have c_1 : ¬ ((if s.2.2.1 = 45 then (1 : Int32) else 0) = 0) := of_decide_eq_false c_1
    refine wp_steps 1 (t' := (7, [some (.ref 84), some (.int 0)], [.ref 84], (HD, m, w, mr))) rfl ?_
    refine wp_calv (as := []) rfl rfl rfl (Nat.le_of_ble_eq_true rfl) ⟨by decide, rfl⟩ ((r_opens (ml := w) hM h hnn (by rw [← h.T, i0_t c_1]; decide) (by decide))) (by omega) ?_
    rintro _ _ ⟨rfl, m_1, w_1, rfl, f1, g1⟩
    have eT : s.2.2.1 = 45 := i0_t c_1
    show aWP _ _ (8, [some (.ref 84), some (.int 0)], [.int 1], (HD, m_1, w_1, mr)) _
    skip
    · skip
      refine wp_bI rfl (fun c_21 => ?_) (fun c_21 => ?_)
      · have c_21 : (1 : Int32) = 0 := of_decide_eq_true c_21
        exact absurd c_21 (by decide)
      have c_21 : ¬ ((1 : Int32) = 0) := of_decide_eq_false c_21
      refine wp_steps 1 (t' := (10, [some (.ref 84), some (.int 0)], [.ref 84], (HD, m_1, w_1, mr))) rfl ?_
      refine wp_calv (as := []) rfl rfl rfl (Nat.le_of_ble_eq_true rfl) ⟨by decide, rfl⟩ ((h3 _ _ _ g1 (hnm.fr f1))) (by omega) ?_
      rintro _ _ ⟨v_2, m_2, w_2, rfl, rfl, f2, r2⟩
      show aWP _ _ (11, [some (.ref 84), some (.int 0)], [.int v_2], (HD, m_2, w_2, mr)) _
      by_cases hF : (q.2.2 (stP b n s)).1 = true
      · obtain ⟨g2, go2⟩ := r2.1 hF
        refine wp_steps 4 (t' := (15, [some (.ref 84), some (.int (-v_2))], [.ref 84, .ref 84], (HD, m_2, w_2, mr))) rfl ?_
        refine wp_geti rfl ⟨by decide, rfl⟩ (Or.inl rfl) ?_
        refine wp_steps 2 (t' := (18, [some (.ref 84), some (.int (-v_2))], [.int ((m_2 84 25) - 1), .ref 84], (HD, m_2, w_2, mr))) rfl ?_
        rw [show m_2 84 25 - 1 = nI 2 from by rw [g2.2.2.2.1]; exact nI_pred 2]
        refine wp_puti rfl ⟨by decide, rfl⟩ rfl (fun m_22 h_23 => ?_)
        subst h_23
        refine wp_steps 2 (t' := (81, [some (.ref 84), some (.int (-v_2))], [.int (-v_2)], (HD, (aup m_2 84 25 (nI 2)), w_2, mr))) rfl ?_
        refine wp_ret rfl rfl ⟨⟨Nat.le_refl _, Nat.le_refl _⟩, ?_⟩
        have e := on_neg (b := b) (n := n) (q := q) eT
        rw [if_pos hF] at e
        obtain ⟨k1, k2⟩ := GO_un h (by rw [eT]; decide) g2 go2 (Or.inr (rfl : (-19 : Int32) = -19))
        refine ⟨_, _, _, rfl, rfl, (f1.tr f2).tr (frR.up (by decide) (by decide) _), ?_⟩
        rw [e]
        exact ⟨fun _ => ⟨k1.op 2, k2.wk (by decide)⟩, fun z => Bool.noConfusion z⟩
      · have g2 := r2.2 (Bool.eq_false_iff.mpr hF)
        refine wp_steps 4 (t' := (15, [some (.ref 84), some (.int (-v_2))], [.ref 84, .ref 84], (HD, m_2, w_2, mr))) rfl ?_
        refine wp_geti rfl ⟨by decide, rfl⟩ (Or.inl rfl) ?_
        refine wp_steps 2 (t' := (18, [some (.ref 84), some (.int (-v_2))], [.int ((m_2 84 25) - 1), .ref 84], (HD, m_2, w_2, mr))) rfl ?_
        refine wp_puti rfl ⟨by decide, rfl⟩ rfl (fun m_24 h_25 => ?_)
        subst h_25
        refine wp_steps 2 (t' := (81, [some (.ref 84), some (.int (-v_2))], [.int (-v_2)], (HD, (aup m_2 84 25 ((m_2 84 25) - 1)), w_2, mr))) rfl ?_
        refine wp_ret rfl rfl ⟨⟨Nat.le_refl _, Nat.le_refl _⟩, ?_⟩
        have e := on_neg (b := b) (n := n) (q := q) eT
        rw [if_neg hF] at e
        refine ⟨_, _, _, rfl, rfl, (f1.tr f2).tr (frR.up (by decide) (by decide) _), ?_⟩
        rw [e]
        exact ⟨fun z => Bool.noConfusion z, fun _ => g2.up _⟩
set_option maxRecDepth 20000 in
set_option maxHeartbeats 1000000 in
theorem r_atom1 {X : aXt × Value} {mr : Nat → Nat → Option Nat} (hM : MRok mr) {b : Nat → Int32} {n t : Nat} (hnn : nnB b n) {nm : Nat → Int32} {d : Nat} (hd : 4 ≤ d) {q : pF × pF × pF} (h1 : cwR X mr b n t 2 nm d 156 21 q.1) (h2 : cwR X mr b n t 2 nm d 154 19 q.2.1) (h3 : cwR X mr b n t 2 nm d 151 16 q.2.2) : cwR X mr b n t 1 nm (d + 1) 157 21 (onF b n (some q)) := by
  intro m w s h hnm
  refine cw_of (cd := cd_X7_atom1) (nL := 2) rfl rfl ?_
  show aWP _ _ (0, [some (.ref 84), none], [], (HD, m, w, mr)) _
  refine wp_steps 4 (t' := (4, [some (.ref 84), some (.int 0)], [.int 45, .ref 84], (HD, m, w, mr))) rfl ?_
  refine wp_calv (as := [.int 45]) rfl rfl rfl (Nat.le_of_ble_eq_true rfl) ⟨by decide, rfl⟩ ((r_sign (ml := w) hM h (c := 45) (by decide))) (by omega) ?_
  rintro _ _ ⟨rfl, rfl⟩
  show aWP _ _ (5, [some (.ref 84), some (.int 0)], [.int (if s.2.2.1 = 45 then (1 : Int32) else 0)], (HD, m, w, mr)) _
  refine wp_bI rfl (fun c_1 => ?_) (fun c_1 => ?_)
  · have c_1 : (if s.2.2.1 = 45 then (1 : Int32) else 0) = 0 := of_decide_eq_true c_1
    refine wp_steps 2 (t' := (22, [some (.ref 84), some (.int 0)], [.int 40, .ref 84], (HD, m, w, mr))) rfl ?_
    refine wp_calv (as := [.int 40]) rfl rfl rfl (Nat.le_of_ble_eq_true rfl) ⟨by decide, rfl⟩ ((r_sign (ml := w) hM h (c := 40) (by decide))) (by omega) ?_
    rintro _ _ ⟨rfl, rfl⟩
    show aWP _ _ (23, [some (.ref 84), some (.int 0)], [.int (if s.2.2.1 = 40 then (1 : Int32) else 0)], (HD, m, w, mr)) _
    refine wp_bI rfl (fun c_2 => ?_) (fun c_2 => ?_)
    · have c_2 : (if s.2.2.1 = 40 then (1 : Int32) else 0) = 0 := of_decide_eq_true c_2
      refine wp_steps 1 (t' := (49, [some (.ref 84), some (.int 0)], [.ref 84], (HD, m, w, mr))) rfl ?_
      refine wp_geti rfl ⟨by decide, rfl⟩ (Or.inr rfl) ?_
      refine wp_bI rfl (fun c_3 => ?_) (fun c_3 => ?_)
      · have c_3 : ¬ (m 84 26) = 0 := of_decide_eq_true c_3
        exact absurd h.2.2.2.2 c_3
      have c_3 : (m 84 26) = 0 := Decidable.not_not.mp (of_decide_eq_false c_3)
      refine wp_steps 1 (t' := (52, [some (.ref 84), some (.int 0)], [.ref 84], (HD, m, w, mr))) rfl ?_
      refine wp_geti rfl ⟨by decide, rfl⟩ (Or.inl rfl) ?_
      refine wp_steps 1 (t' := (54, [some (.ref 84), some (.int 0)], [.int 2, .int (m 84 22)], (HD, m, w, mr))) rfl ?_
      refine wp_bC rfl (fun c_4 => ?_) (fun c_4 => ?_)
      · have c_4 : ¬ (m 84 22) = 2 := of_decide_eq_true c_4
        refine wp_steps 1 (t' := (63, [some (.ref 84), some (.int 0)], [.ref 84], (HD, m, w, mr))) rfl ?_
        refine wp_geti rfl ⟨by decide, rfl⟩ (Or.inr rfl) ?_
        refine wp_bI rfl (fun c_5 => ?_) (fun c_5 => ?_)
        · have c_5 : ¬ (m 84 26) = 0 := of_decide_eq_true c_5
          exact absurd h.2.2.2.2 c_5
        have c_5 : (m 84 26) = 0 := Decidable.not_not.mp (of_decide_eq_false c_5)
        refine wp_steps 1 (t' := (66, [some (.ref 84), some (.int 0)], [.ref 84], (HD, m, w, mr))) rfl ?_
        refine wp_geti rfl ⟨by decide, rfl⟩ (Or.inl rfl) ?_
        refine wp_steps 1 (t' := (68, [some (.ref 84), some (.int 0)], [.int 1, .int (m 84 22)], (HD, m, w, mr))) rfl ?_
        refine wp_bC rfl (fun c_6 => ?_) (fun c_6 => ?_)
        · have c_6 : ¬ (m 84 22) = 1 := of_decide_eq_true c_6
          refine wp_steps 1 (t' := (79, [some (.ref 84), some (.int 0)], [.ref 84], (HD, m, w, mr))) rfl ?_
          refine wp_calv (as := []) rfl rfl rfl (Nat.le_of_ble_eq_true rfl) ⟨by decide, rfl⟩ ((r_fail (ml := w) hM h)) (by omega) ?_
          rintro _ _ ⟨rfl, m_3, rfl, f3, g3⟩
          show aWP _ _ (80, [some (.ref 84), some (.int 0)], [], (HD, m_3, w, mr)) _
          skip
          · skip
            refine wp_steps 1 (t' := (81, [some (.ref 84), some (.int 0)], [.int 0], (HD, m_3, w, mr))) rfl ?_
            refine wp_ret rfl rfl ⟨⟨Nat.le_refl _, Nat.le_refl _⟩, ?_⟩
            have hD : ¬ D6 s.2.2.1 := by rw [h.T]; exact nD6 (fun z => c_6 (h.r.trans z))
            have e := on_out (b := b) (n := n) (deep := (some q)) (s := s) (fun z => c_4 (h.r.trans (rt_2.mpr (h.T.symm.trans z)))) hD (Or.inr ⟨i0_f c_1, i0_f c_2⟩)
            refine ⟨_, _, _, rfl, rfl, f3, ?_⟩
            rw [e]
            exact ⟨fun z => Bool.noConfusion z, fun _ => g3⟩
        · have c_6 : (m 84 22) = 1 := Decidable.not_not.mp (of_decide_eq_false c_6)
          refine wp_steps 1 (t' := (70, [some (.ref 84), some (.int 0)], [.ref 84], (HD, m, w, mr))) rfl ?_
          refine wp_calv (as := []) rfl rfl rfl (Nat.le_of_ble_eq_true rfl) ⟨by decide, rfl⟩ ((r_name (ml := w) hM h)) (by omega) ?_
          rintro _ _ ⟨v_1, m_1, rfl, rfl, n1, n2⟩
          show aWP _ _ (71, [some (.ref 84), some (.int 0)], [.int v_1], (HD, m_1, w, mr)) _
          by_cases hD : D6 s.2.2.1
          · rw [(n1 hD).1, (n1 hD).2]
            refine wp_steps 2 (t' := (73, [some (.ref 84), some (.int (m 84 (s.2.2.1 + 3).toNatClampNeg))], [.ref 84], (HD, m, w, mr))) rfl ?_
            refine wp_geti rfl ⟨by decide, rfl⟩ (Or.inr rfl) ?_
            refine wp_bI rfl (fun c_7 => ?_) (fun c_7 => ?_)
            · have c_7 : ¬ (m 84 26) = 0 := of_decide_eq_true c_7
              exact absurd h.2.2.2.2 c_7
            have c_7 : (m 84 26) = 0 := Decidable.not_not.mp (of_decide_eq_false c_7)
            refine wp_steps 1 (t' := (76, [some (.ref 84), some (.int (m 84 (s.2.2.1 + 3).toNatClampNeg))], [.ref 84], (HD, m, w, mr))) rfl ?_
            refine wp_calv (as := []) rfl rfl rfl (Nat.le_of_ble_eq_true rfl) ⟨by decide, rfl⟩ ((r_next (ml := w) hM h hnn (by rw [← h.T]; intro z; rw [z] at hD; exact absurd hD (by decide)))) (by omega) ?_
            rintro _ _ ⟨rfl, m_4, w_4, rfl, f4, g4⟩
            show aWP _ _ (77, [some (.ref 84), some (.int (m 84 (s.2.2.1 + 3).toNatClampNeg))], [], (HD, m_4, w_4, mr)) _
            refine wp_steps 2 (t' := (81, [some (.ref 84), some (.int (m 84 (s.2.2.1 + 3).toNatClampNeg))], [.int (m 84 (s.2.2.1 + 3).toNatClampNeg)], (HD, m_4, w_4, mr))) rfl ?_
            refine wp_ret rfl rfl ⟨⟨Nat.le_refl _, Nat.le_refl _⟩, ?_⟩
            have e := on_nam (b := b) (n := n) (deep := (some q)) (s := s) hD
            obtain ⟨q1, q2, q3, q4⟩ := nam_ok hD nm
            have hT0 : ¬ s.2.2.1 = 0 := fun z => by rw [z] at hD; exact absurd hD (by decide)
            refine ⟨_, _, _, rfl, rfl, f4, ?_⟩
            rw [e, q3, hnm _ q4]
            exact ⟨fun _ => ⟨h.stad hT0 g4, GO_one h hT0 (Or.inr (by have := h.lt hT0; have := h.2.2.1.2.2.2.2; have := h.1.1.2.2.2; omega)) q1 q2 (by decide)⟩, fun z => Bool.noConfusion z⟩
          · obtain ⟨f1, g1⟩ := n2 hD
            refine wp_steps 2 (t' := (73, [some (.ref 84), some (.int v_1)], [.ref 84], (HD, m_1, w, mr))) rfl ?_
            refine wp_geti rfl ⟨by decide, rfl⟩ (Or.inr rfl) ?_
            refine wp_bI rfl (fun c_8 => ?_) (fun c_8 => ?_)
            rotate_left
            · have c_8 : (m_1 84 26) = 0 := Decidable.not_not.mp (of_decide_eq_false c_8)
              exact absurd c_8 (RF.b (g1))
            have c_8 : ¬ (m_1 84 26) = 0 := of_decide_eq_true c_8
            refine wp_steps 1 (t' := (81, [some (.ref 84), some (.int v_1)], [.int v_1], (HD, m_1, w, mr))) rfl ?_
            refine wp_ret rfl rfl ⟨⟨Nat.le_refl _, Nat.le_refl _⟩, ?_⟩
            have e := on_out (b := b) (n := n) (deep := (some q)) (s := s) (fun z => c_4 (h.r.trans (rt_2.mpr (h.T.symm.trans z)))) hD (Or.inr ⟨i0_f c_1, i0_f c_2⟩)
            refine ⟨_, _, _, rfl, rfl, f1, ?_⟩
            rw [e]
            exact ⟨fun z => Bool.noConfusion z, fun _ => g1⟩
      · have c_4 : (m 84 22) = 2 := Decidable.not_not.mp (of_decide_eq_false c_4)
        refine wp_steps 1 (t' := (56, [some (.ref 84), some (.int 0)], [.ref 84], (HD, m, w, mr))) rfl ?_
        refine wp_getl rfl ⟨by decide, rfl⟩ rfl ?_
        refine wp_steps 1 (t' := (58, [some (.ref 84), some (.int 0)], [.int ((w 84 24).toInt32)], (HD, m, w, mr))) rfl ?_
        have hr2 : rtF b n s.1 = 2 := h.r.symm.trans c_4
        have hl2 := rt_2.mp hr2
        have eT : s.2.2.1 = 2 := h.T.trans hl2
        have ev : s.2.2.2.1 = nuF b (lxE b n s.1 - s.1) s.1 0 := h.2.2.1.2.2.2.1 hl2
        rw [show (w 84 24).toInt32 = s.2.2.2.1 from (h.2.1.2.2.2.2.1 hr2).trans ev.symm]
        refine wp_steps 2 (t' := (60, [some (.ref 84), some (.int s.2.2.2.1)], [.ref 84], (HD, m, w, mr))) rfl ?_
        refine wp_calv (as := []) rfl rfl rfl (Nat.le_of_ble_eq_true rfl) ⟨by decide, rfl⟩ ((r_next (ml := w) hM h hnn (by rw [hl2]; decide))) (by omega) ?_
        rintro _ _ ⟨rfl, m_4, w_4, rfl, f4, g4⟩
        show aWP _ _ (61, [some (.ref 84), some (.int s.2.2.2.1)], [], (HD, m_4, w_4, mr)) _
        refine wp_steps 2 (t' := (81, [some (.ref 84), some (.int s.2.2.2.1)], [.int s.2.2.2.1], (HD, m_4, w_4, mr))) rfl ?_
        refine wp_ret rfl rfl ⟨⟨Nat.le_refl _, Nat.le_refl _⟩, ?_⟩
        have e := on_num (b := b) (n := n) (deep := (some q)) (s := s) eT
        have nv := nu_ok hl2 nm
        rw [← ev] at nv
        have hT0 : ¬ s.2.2.1 = 0 := by rw [eT]; decide
        refine ⟨_, _, _, rfl, rfl, f4, ?_⟩
        rw [e]
        exact ⟨fun _ => ⟨h.stad hT0 g4, GO_one h hT0 (Or.inr (by have := h.lt hT0; have := h.2.2.1.2.2.2.2; have := h.1.1.2.2.2; omega)) nv.1 nv.2 (by decide)⟩, fun z => Bool.noConfusion z⟩
    · have c_2 : ¬ ((if s.2.2.1 = 40 then (1 : Int32) else 0) = 0) := of_decide_eq_false c_2
      refine wp_steps 1 (t' := (25, [some (.ref 84), some (.int 0)], [.ref 84], (HD, m, w, mr))) rfl ?_
      refine wp_calv (as := []) rfl rfl rfl (Nat.le_of_ble_eq_true rfl) ⟨by decide, rfl⟩ ((r_opens (ml := w) hM h hnn (by rw [← h.T, i0_t c_2]; decide) (by decide))) (by omega) ?_
      rintro _ _ ⟨rfl, m_1, w_1, rfl, f1, g1⟩
      have eT : s.2.2.1 = 40 := i0_t c_2
      show aWP _ _ (26, [some (.ref 84), some (.int 0)], [.int 1], (HD, m_1, w_1, mr)) _
      skip
      · skip
        refine wp_bI rfl (fun c_9 => ?_) (fun c_9 => ?_)
        · have c_9 : (1 : Int32) = 0 := of_decide_eq_true c_9
          exact absurd c_9 (by decide)
        have c_9 : ¬ ((1 : Int32) = 0) := of_decide_eq_false c_9
        refine wp_steps 1 (t' := (28, [some (.ref 84), some (.int 0)], [.ref 84], (HD, m_1, w_1, mr))) rfl ?_
        refine wp_calv (as := []) rfl rfl rfl (Nat.le_of_ble_eq_true rfl) ⟨by decide, rfl⟩ ((h1 _ _ _ g1 (hnm.fr f1))) (by omega) ?_
        rintro _ _ ⟨v_2, m_2, w_2, rfl, rfl, f2, r2⟩
        show aWP _ _ (29, [some (.ref 84), some (.int 0)], [.int v_2], (HD, m_2, w_2, mr)) _
        by_cases hF : (q.1 (stP b n s)).1 = true
        · obtain ⟨g2, go2⟩ := r2.1 hF
          refine wp_steps 3 (t' := (32, [some (.ref 84), some (.int v_2)], [.int 41, .ref 84], (HD, m_2, w_2, mr))) rfl ?_
          refine wp_calv (as := [.int 41]) rfl rfl rfl (Nat.le_of_ble_eq_true rfl) ⟨by decide, rfl⟩ ((r_sign (ml := w_2) hM g2 (c := 41) (by decide))) (by omega) ?_
          rintro _ _ ⟨rfl, rfl⟩
          show aWP _ _ (33, [some (.ref 84), some (.int v_2)], [.int (if (q.1 (stP b n s)).2.2.2.1 = 41 then (1 : Int32) else 0)], (HD, m_2, w_2, mr)) _
          refine wp_bI rfl (fun c_10 => ?_) (fun c_10 => ?_)
          · have c_10 : ¬ (if (q.1 (stP b n s)).2.2.2.1 = 41 then (1 : Int32) else 0) = 0 := of_decide_eq_true c_10
            refine wp_steps 2 (t' := (38, [some (.ref 84), some (.int v_2)], [.ref 84, .ref 84], (HD, m_2, w_2, mr))) rfl ?_
            refine wp_geti rfl ⟨by decide, rfl⟩ (Or.inl rfl) ?_
            refine wp_steps 2 (t' := (41, [some (.ref 84), some (.int v_2)], [.int ((m_2 84 25) - 1), .ref 84], (HD, m_2, w_2, mr))) rfl ?_
            rw [show m_2 84 25 - 1 = nI 1 from by rw [g2.2.2.2.1]; exact nI_pred 1]
            refine wp_puti rfl ⟨by decide, rfl⟩ rfl (fun m_11 h_12 => ?_)
            subst h_12
            refine wp_steps 1 (t' := (43, [some (.ref 84), some (.int v_2)], [.ref 84], (HD, (aup m_2 84 25 (nI 1)), w_2, mr))) rfl ?_
            refine wp_geti rfl ⟨by decide, rfl⟩ (Or.inr rfl) ?_
            refine wp_bI rfl (fun c_13 => ?_) (fun c_13 => ?_)
            · have c_13 : ¬ ((aup m_2 84 25 (nI 1)) 84 26) = 0 := of_decide_eq_true c_13
              exact absurd (g2.op 1).2.2.2.2 c_13
            have c_13 : ((aup m_2 84 25 (nI 1)) 84 26) = 0 := Decidable.not_not.mp (of_decide_eq_false c_13)
            refine wp_steps 1 (t' := (46, [some (.ref 84), some (.int v_2)], [.ref 84], (HD, (aup m_2 84 25 (nI 1)), w_2, mr))) rfl ?_
            refine wp_calv (as := []) rfl rfl rfl (Nat.le_of_ble_eq_true rfl) ⟨by decide, rfl⟩ ((r_next (ml := w_2) hM (g2.op 1) hnn (by rw [← g2.T, i0_t c_10]; decide))) (by omega) ?_
            rintro _ _ ⟨rfl, m_4, w_4, rfl, f4, g4⟩
            show aWP _ _ (47, [some (.ref 84), some (.int v_2)], [], (HD, m_4, w_4, mr)) _
            refine wp_steps 2 (t' := (81, [some (.ref 84), some (.int v_2)], [.int v_2], (HD, m_4, w_4, mr))) rfl ?_
            refine wp_ret rfl rfl ⟨⟨Nat.le_refl _, Nat.le_refl _⟩, ?_⟩
            have e := on_par (b := b) (n := n) (q := q) eT
            rw [if_pos ⟨hF, i0_t c_10⟩] at e
            refine ⟨_, _, _, rfl, rfl, ((f1.tr f2).tr (frR.up (by decide) (by decide) _)).tr f4, ?_⟩
            rw [e]
            exact ⟨fun _ => ⟨g4, (GO_par h (by rw [eT]; decide) g2 go2).wk (by decide)⟩, fun z => Bool.noConfusion z⟩
          · have c_10 : (if (q.1 (stP b n s)).2.2.2.1 = 41 then (1 : Int32) else 0) = 0 := Decidable.not_not.mp (of_decide_eq_false c_10)
            refine wp_steps 1 (t' := (35, [some (.ref 84), some (.int v_2)], [.ref 84], (HD, m_2, w_2, mr))) rfl ?_
            refine wp_calv (as := []) rfl rfl rfl (Nat.le_of_ble_eq_true rfl) ⟨by decide, rfl⟩ ((r_fail (ml := w_2) hM g2)) (by omega) ?_
            rintro _ _ ⟨rfl, m_3, rfl, f3, g3⟩
            show aWP _ _ (36, [some (.ref 84), some (.int v_2)], [], (HD, m_3, w_2, mr)) _
            skip
            · skip
              refine wp_steps 2 (t' := (38, [some (.ref 84), some (.int v_2)], [.ref 84, .ref 84], (HD, m_3, w_2, mr))) rfl ?_
              refine wp_geti rfl ⟨by decide, rfl⟩ (Or.inl rfl) ?_
              refine wp_steps 2 (t' := (41, [some (.ref 84), some (.int v_2)], [.int ((m_3 84 25) - 1), .ref 84], (HD, m_3, w_2, mr))) rfl ?_
              refine wp_puti rfl ⟨by decide, rfl⟩ rfl (fun m_14 h_15 => ?_)
              subst h_15
              refine wp_steps 1 (t' := (43, [some (.ref 84), some (.int v_2)], [.ref 84], (HD, (aup m_3 84 25 ((m_3 84 25) - 1)), w_2, mr))) rfl ?_
              refine wp_geti rfl ⟨by decide, rfl⟩ (Or.inr rfl) ?_
              refine wp_bI rfl (fun c_16 => ?_) (fun c_16 => ?_)
              rotate_left
              · have c_16 : ((aup m_3 84 25 ((m_3 84 25) - 1)) 84 26) = 0 := Decidable.not_not.mp (of_decide_eq_false c_16)
                exact absurd c_16 (RF.b (RF.up g3 _))
              have c_16 : ¬ ((aup m_3 84 25 ((m_3 84 25) - 1)) 84 26) = 0 := of_decide_eq_true c_16
              refine wp_steps 1 (t' := (81, [some (.ref 84), some (.int v_2)], [.int v_2], (HD, (aup m_3 84 25 ((m_3 84 25) - 1)), w_2, mr))) rfl ?_
              refine wp_ret rfl rfl ⟨⟨Nat.le_refl _, Nat.le_refl _⟩, ?_⟩
              have e := on_par (b := b) (n := n) (q := q) eT
              rw [if_neg (fun z => i0_f c_10 z.2)] at e
              refine ⟨_, _, _, rfl, rfl, ((f1.tr f2).tr f3).tr (frR.up (by decide) (by decide) _), ?_⟩
              rw [e]
              exact ⟨fun z => Bool.noConfusion z, fun _ => g3.up _⟩
        · have g2 := r2.2 (Bool.eq_false_iff.mpr hF)
          refine wp_steps 3 (t' := (32, [some (.ref 84), some (.int v_2)], [.int 41, .ref 84], (HD, m_2, w_2, mr))) rfl ?_
          refine wp_calv (as := [.int 41]) rfl rfl rfl (Nat.le_of_ble_eq_true rfl) ⟨by decide, rfl⟩ ((r_sign_b (ml := w_2) (mr := mr) g2.b (c := 41))) (by omega) ?_
          rintro _ _ ⟨rfl, rfl⟩
          show aWP _ _ (33, [some (.ref 84), some (.int v_2)], [.int 0], (HD, m_2, w_2, mr)) _
          refine wp_bI rfl (fun c_17 => ?_) (fun c_17 => ?_)
          · have c_17 : ¬ (0 : Int32) = 0 := of_decide_eq_true c_17
            exact absurd c_17 (by decide)
          have c_17 : (0 : Int32) = 0 := Decidable.not_not.mp (of_decide_eq_false c_17)
          refine wp_steps 1 (t' := (35, [some (.ref 84), some (.int v_2)], [.ref 84], (HD, m_2, w_2, mr))) rfl ?_
          refine wp_calv (as := []) rfl rfl rfl (Nat.le_of_ble_eq_true rfl) ⟨by decide, rfl⟩ ((r_fail_b (ml := w_2) (mr := mr) g2.b)) (by omega) ?_
          rintro _ _ ⟨rfl, rfl⟩
          show aWP _ _ (36, [some (.ref 84), some (.int v_2)], [], (HD, m_2, w_2, mr)) _
          refine wp_steps 2 (t' := (38, [some (.ref 84), some (.int v_2)], [.ref 84, .ref 84], (HD, m_2, w_2, mr))) rfl ?_
          refine wp_geti rfl ⟨by decide, rfl⟩ (Or.inl rfl) ?_
          refine wp_steps 2 (t' := (41, [some (.ref 84), some (.int v_2)], [.int ((m_2 84 25) - 1), .ref 84], (HD, m_2, w_2, mr))) rfl ?_
          refine wp_puti rfl ⟨by decide, rfl⟩ rfl (fun m_18 h_19 => ?_)
          subst h_19
          refine wp_steps 1 (t' := (43, [some (.ref 84), some (.int v_2)], [.ref 84], (HD, (aup m_2 84 25 ((m_2 84 25) - 1)), w_2, mr))) rfl ?_
          refine wp_geti rfl ⟨by decide, rfl⟩ (Or.inr rfl) ?_
          refine wp_bI rfl (fun c_20 => ?_) (fun c_20 => ?_)
          rotate_left
          · have c_20 : ((aup m_2 84 25 ((m_2 84 25) - 1)) 84 26) = 0 := Decidable.not_not.mp (of_decide_eq_false c_20)
            exact absurd c_20 (RF.b (RF.up g2 _))
          have c_20 : ¬ ((aup m_2 84 25 ((m_2 84 25) - 1)) 84 26) = 0 := of_decide_eq_true c_20
          refine wp_steps 1 (t' := (81, [some (.ref 84), some (.int v_2)], [.int v_2], (HD, (aup m_2 84 25 ((m_2 84 25) - 1)), w_2, mr))) rfl ?_
          refine wp_ret rfl rfl ⟨⟨Nat.le_refl _, Nat.le_refl _⟩, ?_⟩
          have e := on_par (b := b) (n := n) (q := q) eT
          rw [if_neg (fun z => hF z.1)] at e
          refine ⟨_, _, _, rfl, rfl, (f1.tr f2).tr (frR.up (by decide) (by decide) _), ?_⟩
          rw [e]
          exact ⟨fun z => Bool.noConfusion z, fun _ => g2.up _⟩
  · have c_1 : ¬ ((if s.2.2.1 = 45 then (1 : Int32) else 0) = 0) := of_decide_eq_false c_1
    refine wp_steps 1 (t' := (7, [some (.ref 84), some (.int 0)], [.ref 84], (HD, m, w, mr))) rfl ?_
    refine wp_calv (as := []) rfl rfl rfl (Nat.le_of_ble_eq_true rfl) ⟨by decide, rfl⟩ ((r_opens (ml := w) hM h hnn (by rw [← h.T, i0_t c_1]; decide) (by decide))) (by omega) ?_
    rintro _ _ ⟨rfl, m_1, w_1, rfl, f1, g1⟩
    have eT : s.2.2.1 = 45 := i0_t c_1
    show aWP _ _ (8, [some (.ref 84), some (.int 0)], [.int 1], (HD, m_1, w_1, mr)) _
    skip
    · skip
      refine wp_bI rfl (fun c_21 => ?_) (fun c_21 => ?_)
      · have c_21 : (1 : Int32) = 0 := of_decide_eq_true c_21
        exact absurd c_21 (by decide)
      have c_21 : ¬ ((1 : Int32) = 0) := of_decide_eq_false c_21
      refine wp_steps 1 (t' := (10, [some (.ref 84), some (.int 0)], [.ref 84], (HD, m_1, w_1, mr))) rfl ?_
      refine wp_calv (as := []) rfl rfl rfl (Nat.le_of_ble_eq_true rfl) ⟨by decide, rfl⟩ ((h3 _ _ _ g1 (hnm.fr f1))) (by omega) ?_
      rintro _ _ ⟨v_2, m_2, w_2, rfl, rfl, f2, r2⟩
      show aWP _ _ (11, [some (.ref 84), some (.int 0)], [.int v_2], (HD, m_2, w_2, mr)) _
      by_cases hF : (q.2.2 (stP b n s)).1 = true
      · obtain ⟨g2, go2⟩ := r2.1 hF
        refine wp_steps 4 (t' := (15, [some (.ref 84), some (.int (-v_2))], [.ref 84, .ref 84], (HD, m_2, w_2, mr))) rfl ?_
        refine wp_geti rfl ⟨by decide, rfl⟩ (Or.inl rfl) ?_
        refine wp_steps 2 (t' := (18, [some (.ref 84), some (.int (-v_2))], [.int ((m_2 84 25) - 1), .ref 84], (HD, m_2, w_2, mr))) rfl ?_
        rw [show m_2 84 25 - 1 = nI 1 from by rw [g2.2.2.2.1]; exact nI_pred 1]
        refine wp_puti rfl ⟨by decide, rfl⟩ rfl (fun m_22 h_23 => ?_)
        subst h_23
        refine wp_steps 2 (t' := (81, [some (.ref 84), some (.int (-v_2))], [.int (-v_2)], (HD, (aup m_2 84 25 (nI 1)), w_2, mr))) rfl ?_
        refine wp_ret rfl rfl ⟨⟨Nat.le_refl _, Nat.le_refl _⟩, ?_⟩
        have e := on_neg (b := b) (n := n) (q := q) eT
        rw [if_pos hF] at e
        obtain ⟨k1, k2⟩ := GO_un h (by rw [eT]; decide) g2 go2 (Or.inr (rfl : (-19 : Int32) = -19))
        refine ⟨_, _, _, rfl, rfl, (f1.tr f2).tr (frR.up (by decide) (by decide) _), ?_⟩
        rw [e]
        exact ⟨fun _ => ⟨k1.op 1, k2.wk (by decide)⟩, fun z => Bool.noConfusion z⟩
      · have g2 := r2.2 (Bool.eq_false_iff.mpr hF)
        refine wp_steps 4 (t' := (15, [some (.ref 84), some (.int (-v_2))], [.ref 84, .ref 84], (HD, m_2, w_2, mr))) rfl ?_
        refine wp_geti rfl ⟨by decide, rfl⟩ (Or.inl rfl) ?_
        refine wp_steps 2 (t' := (18, [some (.ref 84), some (.int (-v_2))], [.int ((m_2 84 25) - 1), .ref 84], (HD, m_2, w_2, mr))) rfl ?_
        refine wp_puti rfl ⟨by decide, rfl⟩ rfl (fun m_24 h_25 => ?_)
        subst h_25
        refine wp_steps 2 (t' := (81, [some (.ref 84), some (.int (-v_2))], [.int (-v_2)], (HD, (aup m_2 84 25 ((m_2 84 25) - 1)), w_2, mr))) rfl ?_
        refine wp_ret rfl rfl ⟨⟨Nat.le_refl _, Nat.le_refl _⟩, ?_⟩
        have e := on_neg (b := b) (n := n) (q := q) eT
        rw [if_neg hF] at e
        refine ⟨_, _, _, rfl, rfl, (f1.tr f2).tr (frR.up (by decide) (by decide) _), ?_⟩
        rw [e]
        exact ⟨fun z => Bool.noConfusion z, fun _ => g2.up _⟩
set_option maxRecDepth 20000 in
set_option maxHeartbeats 1000000 in
theorem r_atom0 {X : aXt × Value} {mr : Nat → Nat → Option Nat} (hM : MRok mr) {b : Nat → Int32} {n t : Nat} (hnn : nnB b n) {nm : Nat → Int32} {d : Nat} (hd : 4 ≤ d) {q : pF × pF × pF} (h1 : cwR X mr b n t 1 nm d 162 26 q.1) (h2 : cwR X mr b n t 1 nm d 160 24 q.2.1) (h3 : cwR X mr b n t 1 nm d 157 21 q.2.2) : cwR X mr b n t 0 nm (d + 1) 163 26 (onF b n (some q)) := by
  intro m w s h hnm
  refine cw_of (cd := cd_X7_atom0) (nL := 2) rfl rfl ?_
  show aWP _ _ (0, [some (.ref 84), none], [], (HD, m, w, mr)) _
  refine wp_steps 4 (t' := (4, [some (.ref 84), some (.int 0)], [.int 45, .ref 84], (HD, m, w, mr))) rfl ?_
  refine wp_calv (as := [.int 45]) rfl rfl rfl (Nat.le_of_ble_eq_true rfl) ⟨by decide, rfl⟩ ((r_sign (ml := w) hM h (c := 45) (by decide))) (by omega) ?_
  rintro _ _ ⟨rfl, rfl⟩
  show aWP _ _ (5, [some (.ref 84), some (.int 0)], [.int (if s.2.2.1 = 45 then (1 : Int32) else 0)], (HD, m, w, mr)) _
  refine wp_bI rfl (fun c_1 => ?_) (fun c_1 => ?_)
  · have c_1 : (if s.2.2.1 = 45 then (1 : Int32) else 0) = 0 := of_decide_eq_true c_1
    refine wp_steps 2 (t' := (22, [some (.ref 84), some (.int 0)], [.int 40, .ref 84], (HD, m, w, mr))) rfl ?_
    refine wp_calv (as := [.int 40]) rfl rfl rfl (Nat.le_of_ble_eq_true rfl) ⟨by decide, rfl⟩ ((r_sign (ml := w) hM h (c := 40) (by decide))) (by omega) ?_
    rintro _ _ ⟨rfl, rfl⟩
    show aWP _ _ (23, [some (.ref 84), some (.int 0)], [.int (if s.2.2.1 = 40 then (1 : Int32) else 0)], (HD, m, w, mr)) _
    refine wp_bI rfl (fun c_2 => ?_) (fun c_2 => ?_)
    · have c_2 : (if s.2.2.1 = 40 then (1 : Int32) else 0) = 0 := of_decide_eq_true c_2
      refine wp_steps 1 (t' := (49, [some (.ref 84), some (.int 0)], [.ref 84], (HD, m, w, mr))) rfl ?_
      refine wp_geti rfl ⟨by decide, rfl⟩ (Or.inr rfl) ?_
      refine wp_bI rfl (fun c_3 => ?_) (fun c_3 => ?_)
      · have c_3 : ¬ (m 84 26) = 0 := of_decide_eq_true c_3
        exact absurd h.2.2.2.2 c_3
      have c_3 : (m 84 26) = 0 := Decidable.not_not.mp (of_decide_eq_false c_3)
      refine wp_steps 1 (t' := (52, [some (.ref 84), some (.int 0)], [.ref 84], (HD, m, w, mr))) rfl ?_
      refine wp_geti rfl ⟨by decide, rfl⟩ (Or.inl rfl) ?_
      refine wp_steps 1 (t' := (54, [some (.ref 84), some (.int 0)], [.int 2, .int (m 84 22)], (HD, m, w, mr))) rfl ?_
      refine wp_bC rfl (fun c_4 => ?_) (fun c_4 => ?_)
      · have c_4 : ¬ (m 84 22) = 2 := of_decide_eq_true c_4
        refine wp_steps 1 (t' := (63, [some (.ref 84), some (.int 0)], [.ref 84], (HD, m, w, mr))) rfl ?_
        refine wp_geti rfl ⟨by decide, rfl⟩ (Or.inr rfl) ?_
        refine wp_bI rfl (fun c_5 => ?_) (fun c_5 => ?_)
        · have c_5 : ¬ (m 84 26) = 0 := of_decide_eq_true c_5
          exact absurd h.2.2.2.2 c_5
        have c_5 : (m 84 26) = 0 := Decidable.not_not.mp (of_decide_eq_false c_5)
        refine wp_steps 1 (t' := (66, [some (.ref 84), some (.int 0)], [.ref 84], (HD, m, w, mr))) rfl ?_
        refine wp_geti rfl ⟨by decide, rfl⟩ (Or.inl rfl) ?_
        refine wp_steps 1 (t' := (68, [some (.ref 84), some (.int 0)], [.int 1, .int (m 84 22)], (HD, m, w, mr))) rfl ?_
        refine wp_bC rfl (fun c_6 => ?_) (fun c_6 => ?_)
        · have c_6 : ¬ (m 84 22) = 1 := of_decide_eq_true c_6
          refine wp_steps 1 (t' := (79, [some (.ref 84), some (.int 0)], [.ref 84], (HD, m, w, mr))) rfl ?_
          refine wp_calv (as := []) rfl rfl rfl (Nat.le_of_ble_eq_true rfl) ⟨by decide, rfl⟩ ((r_fail (ml := w) hM h)) (by omega) ?_
          rintro _ _ ⟨rfl, m_3, rfl, f3, g3⟩
          show aWP _ _ (80, [some (.ref 84), some (.int 0)], [], (HD, m_3, w, mr)) _
          skip
          · skip
            refine wp_steps 1 (t' := (81, [some (.ref 84), some (.int 0)], [.int 0], (HD, m_3, w, mr))) rfl ?_
            refine wp_ret rfl rfl ⟨⟨Nat.le_refl _, Nat.le_refl _⟩, ?_⟩
            have hD : ¬ D6 s.2.2.1 := by rw [h.T]; exact nD6 (fun z => c_6 (h.r.trans z))
            have e := on_out (b := b) (n := n) (deep := (some q)) (s := s) (fun z => c_4 (h.r.trans (rt_2.mpr (h.T.symm.trans z)))) hD (Or.inr ⟨i0_f c_1, i0_f c_2⟩)
            refine ⟨_, _, _, rfl, rfl, f3, ?_⟩
            rw [e]
            exact ⟨fun z => Bool.noConfusion z, fun _ => g3⟩
        · have c_6 : (m 84 22) = 1 := Decidable.not_not.mp (of_decide_eq_false c_6)
          refine wp_steps 1 (t' := (70, [some (.ref 84), some (.int 0)], [.ref 84], (HD, m, w, mr))) rfl ?_
          refine wp_calv (as := []) rfl rfl rfl (Nat.le_of_ble_eq_true rfl) ⟨by decide, rfl⟩ ((r_name (ml := w) hM h)) (by omega) ?_
          rintro _ _ ⟨v_1, m_1, rfl, rfl, n1, n2⟩
          show aWP _ _ (71, [some (.ref 84), some (.int 0)], [.int v_1], (HD, m_1, w, mr)) _
          by_cases hD : D6 s.2.2.1
          · rw [(n1 hD).1, (n1 hD).2]
            refine wp_steps 2 (t' := (73, [some (.ref 84), some (.int (m 84 (s.2.2.1 + 3).toNatClampNeg))], [.ref 84], (HD, m, w, mr))) rfl ?_
            refine wp_geti rfl ⟨by decide, rfl⟩ (Or.inr rfl) ?_
            refine wp_bI rfl (fun c_7 => ?_) (fun c_7 => ?_)
            · have c_7 : ¬ (m 84 26) = 0 := of_decide_eq_true c_7
              exact absurd h.2.2.2.2 c_7
            have c_7 : (m 84 26) = 0 := Decidable.not_not.mp (of_decide_eq_false c_7)
            refine wp_steps 1 (t' := (76, [some (.ref 84), some (.int (m 84 (s.2.2.1 + 3).toNatClampNeg))], [.ref 84], (HD, m, w, mr))) rfl ?_
            refine wp_calv (as := []) rfl rfl rfl (Nat.le_of_ble_eq_true rfl) ⟨by decide, rfl⟩ ((r_next (ml := w) hM h hnn (by rw [← h.T]; intro z; rw [z] at hD; exact absurd hD (by decide)))) (by omega) ?_
            rintro _ _ ⟨rfl, m_4, w_4, rfl, f4, g4⟩
            show aWP _ _ (77, [some (.ref 84), some (.int (m 84 (s.2.2.1 + 3).toNatClampNeg))], [], (HD, m_4, w_4, mr)) _
            refine wp_steps 2 (t' := (81, [some (.ref 84), some (.int (m 84 (s.2.2.1 + 3).toNatClampNeg))], [.int (m 84 (s.2.2.1 + 3).toNatClampNeg)], (HD, m_4, w_4, mr))) rfl ?_
            refine wp_ret rfl rfl ⟨⟨Nat.le_refl _, Nat.le_refl _⟩, ?_⟩
            have e := on_nam (b := b) (n := n) (deep := (some q)) (s := s) hD
            obtain ⟨q1, q2, q3, q4⟩ := nam_ok hD nm
            have hT0 : ¬ s.2.2.1 = 0 := fun z => by rw [z] at hD; exact absurd hD (by decide)
            refine ⟨_, _, _, rfl, rfl, f4, ?_⟩
            rw [e, q3, hnm _ q4]
            exact ⟨fun _ => ⟨h.stad hT0 g4, GO_one h hT0 (Or.inr (by have := h.lt hT0; have := h.2.2.1.2.2.2.2; have := h.1.1.2.2.2; omega)) q1 q2 (by decide)⟩, fun z => Bool.noConfusion z⟩
          · obtain ⟨f1, g1⟩ := n2 hD
            refine wp_steps 2 (t' := (73, [some (.ref 84), some (.int v_1)], [.ref 84], (HD, m_1, w, mr))) rfl ?_
            refine wp_geti rfl ⟨by decide, rfl⟩ (Or.inr rfl) ?_
            refine wp_bI rfl (fun c_8 => ?_) (fun c_8 => ?_)
            rotate_left
            · have c_8 : (m_1 84 26) = 0 := Decidable.not_not.mp (of_decide_eq_false c_8)
              exact absurd c_8 (RF.b (g1))
            have c_8 : ¬ (m_1 84 26) = 0 := of_decide_eq_true c_8
            refine wp_steps 1 (t' := (81, [some (.ref 84), some (.int v_1)], [.int v_1], (HD, m_1, w, mr))) rfl ?_
            refine wp_ret rfl rfl ⟨⟨Nat.le_refl _, Nat.le_refl _⟩, ?_⟩
            have e := on_out (b := b) (n := n) (deep := (some q)) (s := s) (fun z => c_4 (h.r.trans (rt_2.mpr (h.T.symm.trans z)))) hD (Or.inr ⟨i0_f c_1, i0_f c_2⟩)
            refine ⟨_, _, _, rfl, rfl, f1, ?_⟩
            rw [e]
            exact ⟨fun z => Bool.noConfusion z, fun _ => g1⟩
      · have c_4 : (m 84 22) = 2 := Decidable.not_not.mp (of_decide_eq_false c_4)
        refine wp_steps 1 (t' := (56, [some (.ref 84), some (.int 0)], [.ref 84], (HD, m, w, mr))) rfl ?_
        refine wp_getl rfl ⟨by decide, rfl⟩ rfl ?_
        refine wp_steps 1 (t' := (58, [some (.ref 84), some (.int 0)], [.int ((w 84 24).toInt32)], (HD, m, w, mr))) rfl ?_
        have hr2 : rtF b n s.1 = 2 := h.r.symm.trans c_4
        have hl2 := rt_2.mp hr2
        have eT : s.2.2.1 = 2 := h.T.trans hl2
        have ev : s.2.2.2.1 = nuF b (lxE b n s.1 - s.1) s.1 0 := h.2.2.1.2.2.2.1 hl2
        rw [show (w 84 24).toInt32 = s.2.2.2.1 from (h.2.1.2.2.2.2.1 hr2).trans ev.symm]
        refine wp_steps 2 (t' := (60, [some (.ref 84), some (.int s.2.2.2.1)], [.ref 84], (HD, m, w, mr))) rfl ?_
        refine wp_calv (as := []) rfl rfl rfl (Nat.le_of_ble_eq_true rfl) ⟨by decide, rfl⟩ ((r_next (ml := w) hM h hnn (by rw [hl2]; decide))) (by omega) ?_
        rintro _ _ ⟨rfl, m_4, w_4, rfl, f4, g4⟩
        show aWP _ _ (61, [some (.ref 84), some (.int s.2.2.2.1)], [], (HD, m_4, w_4, mr)) _
        refine wp_steps 2 (t' := (81, [some (.ref 84), some (.int s.2.2.2.1)], [.int s.2.2.2.1], (HD, m_4, w_4, mr))) rfl ?_
        refine wp_ret rfl rfl ⟨⟨Nat.le_refl _, Nat.le_refl _⟩, ?_⟩
        have e := on_num (b := b) (n := n) (deep := (some q)) (s := s) eT
        have nv := nu_ok hl2 nm
        rw [← ev] at nv
        have hT0 : ¬ s.2.2.1 = 0 := by rw [eT]; decide
        refine ⟨_, _, _, rfl, rfl, f4, ?_⟩
        rw [e]
        exact ⟨fun _ => ⟨h.stad hT0 g4, GO_one h hT0 (Or.inr (by have := h.lt hT0; have := h.2.2.1.2.2.2.2; have := h.1.1.2.2.2; omega)) nv.1 nv.2 (by decide)⟩, fun z => Bool.noConfusion z⟩
    · have c_2 : ¬ ((if s.2.2.1 = 40 then (1 : Int32) else 0) = 0) := of_decide_eq_false c_2
      refine wp_steps 1 (t' := (25, [some (.ref 84), some (.int 0)], [.ref 84], (HD, m, w, mr))) rfl ?_
      refine wp_calv (as := []) rfl rfl rfl (Nat.le_of_ble_eq_true rfl) ⟨by decide, rfl⟩ ((r_opens (ml := w) hM h hnn (by rw [← h.T, i0_t c_2]; decide) (by decide))) (by omega) ?_
      rintro _ _ ⟨rfl, m_1, w_1, rfl, f1, g1⟩
      have eT : s.2.2.1 = 40 := i0_t c_2
      show aWP _ _ (26, [some (.ref 84), some (.int 0)], [.int 1], (HD, m_1, w_1, mr)) _
      skip
      · skip
        refine wp_bI rfl (fun c_9 => ?_) (fun c_9 => ?_)
        · have c_9 : (1 : Int32) = 0 := of_decide_eq_true c_9
          exact absurd c_9 (by decide)
        have c_9 : ¬ ((1 : Int32) = 0) := of_decide_eq_false c_9
        refine wp_steps 1 (t' := (28, [some (.ref 84), some (.int 0)], [.ref 84], (HD, m_1, w_1, mr))) rfl ?_
        refine wp_calv (as := []) rfl rfl rfl (Nat.le_of_ble_eq_true rfl) ⟨by decide, rfl⟩ ((h1 _ _ _ g1 (hnm.fr f1))) (by omega) ?_
        rintro _ _ ⟨v_2, m_2, w_2, rfl, rfl, f2, r2⟩
        show aWP _ _ (29, [some (.ref 84), some (.int 0)], [.int v_2], (HD, m_2, w_2, mr)) _
        by_cases hF : (q.1 (stP b n s)).1 = true
        · obtain ⟨g2, go2⟩ := r2.1 hF
          refine wp_steps 3 (t' := (32, [some (.ref 84), some (.int v_2)], [.int 41, .ref 84], (HD, m_2, w_2, mr))) rfl ?_
          refine wp_calv (as := [.int 41]) rfl rfl rfl (Nat.le_of_ble_eq_true rfl) ⟨by decide, rfl⟩ ((r_sign (ml := w_2) hM g2 (c := 41) (by decide))) (by omega) ?_
          rintro _ _ ⟨rfl, rfl⟩
          show aWP _ _ (33, [some (.ref 84), some (.int v_2)], [.int (if (q.1 (stP b n s)).2.2.2.1 = 41 then (1 : Int32) else 0)], (HD, m_2, w_2, mr)) _
          refine wp_bI rfl (fun c_10 => ?_) (fun c_10 => ?_)
          · have c_10 : ¬ (if (q.1 (stP b n s)).2.2.2.1 = 41 then (1 : Int32) else 0) = 0 := of_decide_eq_true c_10
            refine wp_steps 2 (t' := (38, [some (.ref 84), some (.int v_2)], [.ref 84, .ref 84], (HD, m_2, w_2, mr))) rfl ?_
            refine wp_geti rfl ⟨by decide, rfl⟩ (Or.inl rfl) ?_
            refine wp_steps 2 (t' := (41, [some (.ref 84), some (.int v_2)], [.int ((m_2 84 25) - 1), .ref 84], (HD, m_2, w_2, mr))) rfl ?_
            rw [show m_2 84 25 - 1 = nI 0 from by rw [g2.2.2.2.1]; exact nI_pred 0]
            refine wp_puti rfl ⟨by decide, rfl⟩ rfl (fun m_11 h_12 => ?_)
            subst h_12
            refine wp_steps 1 (t' := (43, [some (.ref 84), some (.int v_2)], [.ref 84], (HD, (aup m_2 84 25 (nI 0)), w_2, mr))) rfl ?_
            refine wp_geti rfl ⟨by decide, rfl⟩ (Or.inr rfl) ?_
            refine wp_bI rfl (fun c_13 => ?_) (fun c_13 => ?_)
            · have c_13 : ¬ ((aup m_2 84 25 (nI 0)) 84 26) = 0 := of_decide_eq_true c_13
              exact absurd (g2.op 0).2.2.2.2 c_13
            have c_13 : ((aup m_2 84 25 (nI 0)) 84 26) = 0 := Decidable.not_not.mp (of_decide_eq_false c_13)
            refine wp_steps 1 (t' := (46, [some (.ref 84), some (.int v_2)], [.ref 84], (HD, (aup m_2 84 25 (nI 0)), w_2, mr))) rfl ?_
            refine wp_calv (as := []) rfl rfl rfl (Nat.le_of_ble_eq_true rfl) ⟨by decide, rfl⟩ ((r_next (ml := w_2) hM (g2.op 0) hnn (by rw [← g2.T, i0_t c_10]; decide))) (by omega) ?_
            rintro _ _ ⟨rfl, m_4, w_4, rfl, f4, g4⟩
            show aWP _ _ (47, [some (.ref 84), some (.int v_2)], [], (HD, m_4, w_4, mr)) _
            refine wp_steps 2 (t' := (81, [some (.ref 84), some (.int v_2)], [.int v_2], (HD, m_4, w_4, mr))) rfl ?_
            refine wp_ret rfl rfl ⟨⟨Nat.le_refl _, Nat.le_refl _⟩, ?_⟩
            have e := on_par (b := b) (n := n) (q := q) eT
            rw [if_pos ⟨hF, i0_t c_10⟩] at e
            refine ⟨_, _, _, rfl, rfl, ((f1.tr f2).tr (frR.up (by decide) (by decide) _)).tr f4, ?_⟩
            rw [e]
            exact ⟨fun _ => ⟨g4, (GO_par h (by rw [eT]; decide) g2 go2).wk (by decide)⟩, fun z => Bool.noConfusion z⟩
          · have c_10 : (if (q.1 (stP b n s)).2.2.2.1 = 41 then (1 : Int32) else 0) = 0 := Decidable.not_not.mp (of_decide_eq_false c_10)
            refine wp_steps 1 (t' := (35, [some (.ref 84), some (.int v_2)], [.ref 84], (HD, m_2, w_2, mr))) rfl ?_
            refine wp_calv (as := []) rfl rfl rfl (Nat.le_of_ble_eq_true rfl) ⟨by decide, rfl⟩ ((r_fail (ml := w_2) hM g2)) (by omega) ?_
            rintro _ _ ⟨rfl, m_3, rfl, f3, g3⟩
            show aWP _ _ (36, [some (.ref 84), some (.int v_2)], [], (HD, m_3, w_2, mr)) _
            skip
            · skip
              refine wp_steps 2 (t' := (38, [some (.ref 84), some (.int v_2)], [.ref 84, .ref 84], (HD, m_3, w_2, mr))) rfl ?_
              refine wp_geti rfl ⟨by decide, rfl⟩ (Or.inl rfl) ?_
              refine wp_steps 2 (t' := (41, [some (.ref 84), some (.int v_2)], [.int ((m_3 84 25) - 1), .ref 84], (HD, m_3, w_2, mr))) rfl ?_
              refine wp_puti rfl ⟨by decide, rfl⟩ rfl (fun m_14 h_15 => ?_)
              subst h_15
              refine wp_steps 1 (t' := (43, [some (.ref 84), some (.int v_2)], [.ref 84], (HD, (aup m_3 84 25 ((m_3 84 25) - 1)), w_2, mr))) rfl ?_
              refine wp_geti rfl ⟨by decide, rfl⟩ (Or.inr rfl) ?_
              refine wp_bI rfl (fun c_16 => ?_) (fun c_16 => ?_)
              rotate_left
              · have c_16 : ((aup m_3 84 25 ((m_3 84 25) - 1)) 84 26) = 0 := Decidable.not_not.mp (of_decide_eq_false c_16)
                exact absurd c_16 (RF.b (RF.up g3 _))
              have c_16 : ¬ ((aup m_3 84 25 ((m_3 84 25) - 1)) 84 26) = 0 := of_decide_eq_true c_16
              refine wp_steps 1 (t' := (81, [some (.ref 84), some (.int v_2)], [.int v_2], (HD, (aup m_3 84 25 ((m_3 84 25) - 1)), w_2, mr))) rfl ?_
              refine wp_ret rfl rfl ⟨⟨Nat.le_refl _, Nat.le_refl _⟩, ?_⟩
              have e := on_par (b := b) (n := n) (q := q) eT
              rw [if_neg (fun z => i0_f c_10 z.2)] at e
              refine ⟨_, _, _, rfl, rfl, ((f1.tr f2).tr f3).tr (frR.up (by decide) (by decide) _), ?_⟩
              rw [e]
              exact ⟨fun z => Bool.noConfusion z, fun _ => g3.up _⟩
        · have g2 := r2.2 (Bool.eq_false_iff.mpr hF)
          refine wp_steps 3 (t' := (32, [some (.ref 84), some (.int v_2)], [.int 41, .ref 84], (HD, m_2, w_2, mr))) rfl ?_
          refine wp_calv (as := [.int 41]) rfl rfl rfl (Nat.le_of_ble_eq_true rfl) ⟨by decide, rfl⟩ ((r_sign_b (ml := w_2) (mr := mr) g2.b (c := 41))) (by omega) ?_
          rintro _ _ ⟨rfl, rfl⟩
          show aWP _ _ (33, [some (.ref 84), some (.int v_2)], [.int 0], (HD, m_2, w_2, mr)) _
          refine wp_bI rfl (fun c_17 => ?_) (fun c_17 => ?_)
          · have c_17 : ¬ (0 : Int32) = 0 := of_decide_eq_true c_17
            exact absurd c_17 (by decide)
          have c_17 : (0 : Int32) = 0 := Decidable.not_not.mp (of_decide_eq_false c_17)
          refine wp_steps 1 (t' := (35, [some (.ref 84), some (.int v_2)], [.ref 84], (HD, m_2, w_2, mr))) rfl ?_
          refine wp_calv (as := []) rfl rfl rfl (Nat.le_of_ble_eq_true rfl) ⟨by decide, rfl⟩ ((r_fail_b (ml := w_2) (mr := mr) g2.b)) (by omega) ?_
          rintro _ _ ⟨rfl, rfl⟩
          show aWP _ _ (36, [some (.ref 84), some (.int v_2)], [], (HD, m_2, w_2, mr)) _
          refine wp_steps 2 (t' := (38, [some (.ref 84), some (.int v_2)], [.ref 84, .ref 84], (HD, m_2, w_2, mr))) rfl ?_
          refine wp_geti rfl ⟨by decide, rfl⟩ (Or.inl rfl) ?_
          refine wp_steps 2 (t' := (41, [some (.ref 84), some (.int v_2)], [.int ((m_2 84 25) - 1), .ref 84], (HD, m_2, w_2, mr))) rfl ?_
          refine wp_puti rfl ⟨by decide, rfl⟩ rfl (fun m_18 h_19 => ?_)
          subst h_19
          refine wp_steps 1 (t' := (43, [some (.ref 84), some (.int v_2)], [.ref 84], (HD, (aup m_2 84 25 ((m_2 84 25) - 1)), w_2, mr))) rfl ?_
          refine wp_geti rfl ⟨by decide, rfl⟩ (Or.inr rfl) ?_
          refine wp_bI rfl (fun c_20 => ?_) (fun c_20 => ?_)
          rotate_left
          · have c_20 : ((aup m_2 84 25 ((m_2 84 25) - 1)) 84 26) = 0 := Decidable.not_not.mp (of_decide_eq_false c_20)
            exact absurd c_20 (RF.b (RF.up g2 _))
          have c_20 : ¬ ((aup m_2 84 25 ((m_2 84 25) - 1)) 84 26) = 0 := of_decide_eq_true c_20
          refine wp_steps 1 (t' := (81, [some (.ref 84), some (.int v_2)], [.int v_2], (HD, (aup m_2 84 25 ((m_2 84 25) - 1)), w_2, mr))) rfl ?_
          refine wp_ret rfl rfl ⟨⟨Nat.le_refl _, Nat.le_refl _⟩, ?_⟩
          have e := on_par (b := b) (n := n) (q := q) eT
          rw [if_neg (fun z => hF z.1)] at e
          refine ⟨_, _, _, rfl, rfl, (f1.tr f2).tr (frR.up (by decide) (by decide) _), ?_⟩
          rw [e]
          exact ⟨fun z => Bool.noConfusion z, fun _ => g2.up _⟩
  · have c_1 : ¬ ((if s.2.2.1 = 45 then (1 : Int32) else 0) = 0) := of_decide_eq_false c_1
    refine wp_steps 1 (t' := (7, [some (.ref 84), some (.int 0)], [.ref 84], (HD, m, w, mr))) rfl ?_
    refine wp_calv (as := []) rfl rfl rfl (Nat.le_of_ble_eq_true rfl) ⟨by decide, rfl⟩ ((r_opens (ml := w) hM h hnn (by rw [← h.T, i0_t c_1]; decide) (by decide))) (by omega) ?_
    rintro _ _ ⟨rfl, m_1, w_1, rfl, f1, g1⟩
    have eT : s.2.2.1 = 45 := i0_t c_1
    show aWP _ _ (8, [some (.ref 84), some (.int 0)], [.int 1], (HD, m_1, w_1, mr)) _
    skip
    · skip
      refine wp_bI rfl (fun c_21 => ?_) (fun c_21 => ?_)
      · have c_21 : (1 : Int32) = 0 := of_decide_eq_true c_21
        exact absurd c_21 (by decide)
      have c_21 : ¬ ((1 : Int32) = 0) := of_decide_eq_false c_21
      refine wp_steps 1 (t' := (10, [some (.ref 84), some (.int 0)], [.ref 84], (HD, m_1, w_1, mr))) rfl ?_
      refine wp_calv (as := []) rfl rfl rfl (Nat.le_of_ble_eq_true rfl) ⟨by decide, rfl⟩ ((h3 _ _ _ g1 (hnm.fr f1))) (by omega) ?_
      rintro _ _ ⟨v_2, m_2, w_2, rfl, rfl, f2, r2⟩
      show aWP _ _ (11, [some (.ref 84), some (.int 0)], [.int v_2], (HD, m_2, w_2, mr)) _
      by_cases hF : (q.2.2 (stP b n s)).1 = true
      · obtain ⟨g2, go2⟩ := r2.1 hF
        refine wp_steps 4 (t' := (15, [some (.ref 84), some (.int (-v_2))], [.ref 84, .ref 84], (HD, m_2, w_2, mr))) rfl ?_
        refine wp_geti rfl ⟨by decide, rfl⟩ (Or.inl rfl) ?_
        refine wp_steps 2 (t' := (18, [some (.ref 84), some (.int (-v_2))], [.int ((m_2 84 25) - 1), .ref 84], (HD, m_2, w_2, mr))) rfl ?_
        rw [show m_2 84 25 - 1 = nI 0 from by rw [g2.2.2.2.1]; exact nI_pred 0]
        refine wp_puti rfl ⟨by decide, rfl⟩ rfl (fun m_22 h_23 => ?_)
        subst h_23
        refine wp_steps 2 (t' := (81, [some (.ref 84), some (.int (-v_2))], [.int (-v_2)], (HD, (aup m_2 84 25 (nI 0)), w_2, mr))) rfl ?_
        refine wp_ret rfl rfl ⟨⟨Nat.le_refl _, Nat.le_refl _⟩, ?_⟩
        have e := on_neg (b := b) (n := n) (q := q) eT
        rw [if_pos hF] at e
        obtain ⟨k1, k2⟩ := GO_un h (by rw [eT]; decide) g2 go2 (Or.inr (rfl : (-19 : Int32) = -19))
        refine ⟨_, _, _, rfl, rfl, (f1.tr f2).tr (frR.up (by decide) (by decide) _), ?_⟩
        rw [e]
        exact ⟨fun _ => ⟨k1.op 0, k2.wk (by decide)⟩, fun z => Bool.noConfusion z⟩
      · have g2 := r2.2 (Bool.eq_false_iff.mpr hF)
        refine wp_steps 4 (t' := (15, [some (.ref 84), some (.int (-v_2))], [.ref 84, .ref 84], (HD, m_2, w_2, mr))) rfl ?_
        refine wp_geti rfl ⟨by decide, rfl⟩ (Or.inl rfl) ?_
        refine wp_steps 2 (t' := (18, [some (.ref 84), some (.int (-v_2))], [.int ((m_2 84 25) - 1), .ref 84], (HD, m_2, w_2, mr))) rfl ?_
        refine wp_puti rfl ⟨by decide, rfl⟩ rfl (fun m_24 h_25 => ?_)
        subst h_25
        refine wp_steps 2 (t' := (81, [some (.ref 84), some (.int (-v_2))], [.int (-v_2)], (HD, (aup m_2 84 25 ((m_2 84 25) - 1)), w_2, mr))) rfl ?_
        refine wp_ret rfl rfl ⟨⟨Nat.le_refl _, Nat.le_refl _⟩, ?_⟩
        have e := on_neg (b := b) (n := n) (q := q) eT
        rw [if_neg hF] at e
        refine ⟨_, _, _, rfl, rfl, (f1.tr f2).tr (frR.up (by decide) (by decide) _), ?_⟩
        rw [e]
        exact ⟨fun z => Bool.noConfusion z, fun _ => g2.up _⟩
