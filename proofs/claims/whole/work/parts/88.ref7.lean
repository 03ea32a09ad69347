/-! the reference's nots and comparisons; its levels (written by wip/whole/mkref7.py) -/
theorem li_ok {b : Nat → Int32} {n : Nat} {sub : pF} {s : pS} (h : (sub s).1 = true) (hT : (sub s).2.2.2.1 = 60 ∨ (sub s).2.2.2.1 = 61) : liF b n sub s = if (sub (stP b n (sub s).2)).1 = true then (true, adP (if (sub s).2.2.2.1 = 60 then -14 else -15) (sub (stP b n (sub s).2)).2) else (false, (sub (stP b n (sub s).2)).2) := by
  unfold liF
  rw [if_pos h, if_pos hT]
theorem li_no {b : Nat → Int32} {n : Nat} {sub : pF} {s : pS} (h : (sub s).1 = true) (h1 : ¬ (sub s).2.2.2.1 = 60) (h2 : ¬ (sub s).2.2.2.1 = 61) : liF b n sub s = (true, (sub s).2) := by
  unfold liF
  rw [if_pos h, if_neg (fun z => z.elim h1 h2)]
theorem li_ba {b : Nat → Int32} {n : Nat} {sub : pF} {s : pS} (h : ¬ (sub s).1 = true) : liF b n sub s = (false, (sub s).2) := if_neg h
theorem nt_l {b : Nat → Int32} {n : Nat} {deep : Option (pF × pF × pF)} {like : pF} {s : pS} (h : ¬ s.2.2.1 = 8) : ntF b n deep like s = like s := if_neg h
theorem nt_0 {b : Nat → Int32} {n : Nat} {like : pF} {s : pS} (h : s.2.2.1 = 8) : ntF b n none like s = (false, s) := if_pos h
theorem nt_s {b : Nat → Int32} {n : Nat} {q : pF × pF × pF} {like : pF} {s : pS} (h : s.2.2.1 = 8) : ntF b n (some q) like s = if (q.2.1 (stP b n s)).1 = true then (true, adP (-13) (q.2.1 (stP b n s)).2) else (false, (q.2.1 (stP b n s)).2) := if_pos h
set_option maxRecDepth 20000 in
set_option maxHeartbeats 1000000 in
theorem r_not5 {X : aXt × Value} {mr : Nat → Nat → Option Nat} (hM : MRok mr) {b : Nat → Int32} {n t : Nat} (hnn : nnB b n) {nm : Nat → Int32} {d : Nat} (hd : 4 ≤ d) {sub : pF} (hsub : cwR X mr b n t 5 nm d 135 3 sub)  : cwR X mr b n t 5 nm (d + 1) 136 4 (ntF b n none (liF b n sub)) := by
  intro m w s h hnm
  refine cw_of (cd := cd_X7_not5) (nL := 4) rfl rfl ?_
  show aWP _ _ (0, [some (.ref 84), none, none, none], [], (HD, m, w, mr)) _
  refine wp_steps 9 (t' := (9, [some (.ref 84), none, none, none], [.int 0, .int 0, .int 0, .int 0, .int 0, .int 116, .int 111, .int 110, .ref 84], (HD, m, w, mr))) rfl ?_
  refine wp_calv (as := [.int 110, .int 111, .int 116, .int 0, .int 0, .int 0, .int 0, .int 0]) rfl rfl rfl (Nat.le_of_ble_eq_true rfl) ⟨by decide, rfl⟩ ((rw_not (ml := w) hM h)) (by omega) ?_
  rintro _ _ ⟨rfl, rfl⟩
  show aWP _ _ (10, [some (.ref 84), none, none, none], [.int (if s.2.2.1 = 8 then (1 : Int32) else 0)], (HD, m, w, mr)) _
  refine wp_bI rfl (fun c_1 => ?_) (fun c_1 => ?_)
  · have c_1 : (if s.2.2.1 = 8 then (1 : Int32) else 0) = 0 := of_decide_eq_true c_1
    refine wp_steps 1 (t' := (17, [some (.ref 84), none, none, none], [.ref 84], (HD, m, w, mr))) rfl ?_
    refine wp_calv (as := []) rfl rfl rfl (Nat.le_of_ble_eq_true rfl) ⟨by decide, rfl⟩ ((hsub _ _ _ h hnm)) (by omega) ?_
    rintro _ _ ⟨v_1, m_1, w_1, rfl, rfl, f1, r1⟩
    have nT : ¬ s.2.2.1 = 8 := i0_f c_1
    show aWP _ _ (18, [some (.ref 84), none, none, none], [.int v_1], (HD, m_1, w_1, mr)) _
    by_cases hF : (sub s).1 = true
    · obtain ⟨g1, go1⟩ := r1.1 hF
      refine wp_steps 3 (t' := (21, [some (.ref 84), some (.int v_1), none, none], [.int 60, .ref 84], (HD, m_1, w_1, mr))) rfl ?_
      refine wp_calv (as := [.int 60]) rfl rfl rfl (Nat.le_of_ble_eq_true rfl) ⟨by decide, rfl⟩ ((r_sign (ml := w_1) hM g1 (c := 60) (by decide))) (by omega) ?_
      rintro _ _ ⟨rfl, rfl⟩
      show aWP _ _ (22, [some (.ref 84), some (.int v_1), none, none], [.int (if (sub s).2.2.2.1 = 60 then (1 : Int32) else 0)], (HD, m_1, w_1, mr)) _
      refine wp_bI rfl (fun c_2 => ?_) (fun c_2 => ?_)
      · have c_2 : ¬ (if (sub s).2.2.2.1 = 60 then (1 : Int32) else 0) = 0 := of_decide_eq_true c_2
        refine wp_steps 1 (t' := (30, [some (.ref 84), some (.int v_1), none, none], [.ref 84], (HD, m_1, w_1, mr))) rfl ?_
        refine wp_getl rfl ⟨by decide, rfl⟩ rfl ?_
        have e1 : (sub s).2.2.2.1 = 60 := i0_t c_2
        rw [show w_1 84 24 = (60 : Int32).toInt64 from g1.sg (by decide) e1]
        refine wp_steps 2 (t' := (33, [some (.ref 84), some (.int v_1), none, none], [.int (lg_cmp ((60 : Int32).toInt64) 60)], (HD, m_1, w_1, mr))) rfl ?_
        refine wp_bI rfl (fun c_3 => ?_) (fun c_3 => ?_)
        · have c_3 : ¬ (lg_cmp ((60 : Int32).toInt64) 60) = 0 := of_decide_eq_true c_3
          exact absurd ((lg_cmp_eq _ _).mpr (by decide)) c_3
        have c_3 : (lg_cmp ((60 : Int32).toInt64) 60) = 0 := Decidable.not_not.mp (of_decide_eq_false c_3)
        refine wp_steps 4 (t' := (39, [some (.ref 84), some (.int v_1), some (.int 1), none], [.ref 84], (HD, m_1, w_1, mr))) rfl ?_
        refine wp_calv (as := []) rfl rfl rfl (Nat.le_of_ble_eq_true rfl) ⟨by decide, rfl⟩ ((r_next (ml := w_1) hM g1 hnn (by rw [← g1.T, e1]; decide))) (by omega) ?_
        rintro _ _ ⟨rfl, m_3, w_3, rfl, f3, g3⟩
        show aWP _ _ (40, [some (.ref 84), some (.int v_1), some (.int 1), none], [], (HD, m_3, w_3, mr)) _
        skip
        · skip
          refine wp_steps 1 (t' := (41, [some (.ref 84), some (.int v_1), some (.int 1), none], [.ref 84], (HD, m_3, w_3, mr))) rfl ?_
          refine wp_calv (as := []) rfl rfl rfl (Nat.le_of_ble_eq_true rfl) ⟨by decide, rfl⟩ ((hsub _ _ _ g3 ((hnm.fr f1).fr f3))) (by omega) ?_
          rintro _ _ ⟨v_4, m_4, w_4, rfl, rfl, f4, r4⟩
          show aWP _ _ (42, [some (.ref 84), some (.int v_1), some (.int 1), none], [.int v_4], (HD, m_4, w_4, mr)) _
          by_cases hF2 : (sub (stP b n (sub s).2)).1 = true
          · obtain ⟨g4, go4⟩ := r4.1 hF2
            refine wp_steps 2 (t' := (44, [some (.ref 84), some (.int v_1), some (.int 1), some (.int v_4)], [.int 1], (HD, m_4, w_4, mr))) rfl ?_
            refine wp_bI rfl (fun c_4 => ?_) (fun c_4 => ?_)
            · have c_4 : (1 : Int32) = 0 := of_decide_eq_true c_4
              exact absurd c_4 (by decide)
            have c_4 : ¬ ((1 : Int32) = 0) := of_decide_eq_false c_4
            refine wp_steps 2 (t' := (47, [some (.ref 84), some (.int v_1), some (.int 1), some (.int v_4)], [.int v_4, .int v_1], (HD, m_4, w_4, mr))) rfl ?_
            refine wp_bC rfl (fun c_5 => ?_) (fun c_5 => ?_)
            · have c_5 : v_4 ≤ v_1 := of_decide_eq_true c_5
              refine wp_steps 1 (t' := (55, [some (.ref 84), some (.int v_1), some (.int 1), some (.int v_4)], [.int 0], (HD, m_4, w_4, mr))) rfl ?_
              refine wp_ret rfl rfl ⟨⟨Nat.le_refl _, Nat.le_refl _⟩, ?_⟩
              have eN := nt_l (b := b) (n := n) (deep := none) (like := liF b n sub) nT
              have eo : (if (sub s).2.2.2.1 = 60 then (-14 : Int32) else -15) = -14 := by rw [e1]; rfl
              obtain ⟨k1, k2, k3⟩ := GO_bi (c := -14) h.2.2.1.2.2.2.2 g1 (by rw [e1]; decide) (go1.wk (by decide)) g4 go4 (by decide) (by decide)
              have ev : pfJ (-14) v_1 v_4 = 0 := by simp [pfJ, Int32.not_lt.mpr c_5]
              rw [ev] at k2
              refine ⟨_, _, _, rfl, rfl, (f1.tr f3).tr f4, ?_⟩
              rw [eN, li_ok hF (Or.inl e1), if_pos hF2, eo]
              exact ⟨fun _ => ⟨k1, k2⟩, fun z => Bool.noConfusion z⟩
            · have c_5 : ¬ (v_4 ≤ v_1) := of_decide_eq_false c_5
              refine wp_steps 3 (t' := (55, [some (.ref 84), some (.int v_1), some (.int 1), some (.int v_4)], [.int 1], (HD, m_4, w_4, mr))) rfl ?_
              refine wp_ret rfl rfl ⟨⟨Nat.le_refl _, Nat.le_refl _⟩, ?_⟩
              have eN := nt_l (b := b) (n := n) (deep := none) (like := liF b n sub) nT
              have eo : (if (sub s).2.2.2.1 = 60 then (-14 : Int32) else -15) = -14 := by rw [e1]; rfl
              obtain ⟨k1, k2, k3⟩ := GO_bi (c := -14) h.2.2.1.2.2.2.2 g1 (by rw [e1]; decide) (go1.wk (by decide)) g4 go4 (by decide) (by decide)
              have ev : pfJ (-14) v_1 v_4 = 1 := by simp [pfJ, Int32.not_le.mp c_5]
              rw [ev] at k2
              refine ⟨_, _, _, rfl, rfl, (f1.tr f3).tr f4, ?_⟩
              rw [eN, li_ok hF (Or.inl e1), if_pos hF2, eo]
              exact ⟨fun _ => ⟨k1, k2⟩, fun z => Bool.noConfusion z⟩
          · have g4 := r4.2 (Bool.eq_false_iff.mpr hF2)
            refine wp_steps 2 (t' := (44, [some (.ref 84), some (.int v_1), some (.int 1), some (.int v_4)], [.int 1], (HD, m_4, w_4, mr))) rfl ?_
            refine wp_bI rfl (fun c_6 => ?_) (fun c_6 => ?_)
            · have c_6 : (1 : Int32) = 0 := of_decide_eq_true c_6
              exact absurd c_6 (by decide)
            have c_6 : ¬ ((1 : Int32) = 0) := of_decide_eq_false c_6
            refine wp_steps 2 (t' := (47, [some (.ref 84), some (.int v_1), some (.int 1), some (.int v_4)], [.int v_4, .int v_1], (HD, m_4, w_4, mr))) rfl ?_
            refine wp_bC rfl (fun c_7 => ?_) (fun c_7 => ?_)
            · have c_7 : v_4 ≤ v_1 := of_decide_eq_true c_7
              refine wp_steps 1 (t' := (55, [some (.ref 84), some (.int v_1), some (.int 1), some (.int v_4)], [.int 0], (HD, m_4, w_4, mr))) rfl ?_
              refine wp_ret rfl rfl ⟨⟨Nat.le_refl _, Nat.le_refl _⟩, ?_⟩
              have eN := nt_l (b := b) (n := n) (deep := none) (like := liF b n sub) nT
              refine ⟨_, _, _, rfl, rfl, (f1.tr f3).tr f4, ?_⟩
              rw [eN, li_ok hF (Or.inl e1), if_neg hF2]
              exact ⟨fun z => Bool.noConfusion z, fun _ => g4⟩
            · have c_7 : ¬ (v_4 ≤ v_1) := of_decide_eq_false c_7
              refine wp_steps 3 (t' := (55, [some (.ref 84), some (.int v_1), some (.int 1), some (.int v_4)], [.int 1], (HD, m_4, w_4, mr))) rfl ?_
              refine wp_ret rfl rfl ⟨⟨Nat.le_refl _, Nat.le_refl _⟩, ?_⟩
              have eN := nt_l (b := b) (n := n) (deep := none) (like := liF b n sub) nT
              refine ⟨_, _, _, rfl, rfl, (f1.tr f3).tr f4, ?_⟩
              rw [eN, li_ok hF (Or.inl e1), if_neg hF2]
              exact ⟨fun z => Bool.noConfusion z, fun _ => g4⟩
      · have c_2 : (if (sub s).2.2.2.1 = 60 then (1 : Int32) else 0) = 0 := Decidable.not_not.mp (of_decide_eq_false c_2)
        refine wp_steps 2 (t' := (25, [some (.ref 84), some (.int v_1), none, none], [.int 61, .ref 84], (HD, m_1, w_1, mr))) rfl ?_
        refine wp_calv (as := [.int 61]) rfl rfl rfl (Nat.le_of_ble_eq_true rfl) ⟨by decide, rfl⟩ ((r_sign (ml := w_1) hM g1 (c := 61) (by decide))) (by omega) ?_
        rintro _ _ ⟨rfl, rfl⟩
        show aWP _ _ (26, [some (.ref 84), some (.int v_1), none, none], [.int (if (sub s).2.2.2.1 = 61 then (1 : Int32) else 0)], (HD, m_1, w_1, mr)) _
        refine wp_bI rfl (fun c_8 => ?_) (fun c_8 => ?_)
        · have c_8 : ¬ (if (sub s).2.2.2.1 = 61 then (1 : Int32) else 0) = 0 := of_decide_eq_true c_8
          refine wp_steps 1 (t' := (30, [some (.ref 84), some (.int v_1), none, none], [.ref 84], (HD, m_1, w_1, mr))) rfl ?_
          refine wp_getl rfl ⟨by decide, rfl⟩ rfl ?_
          have e1 : (sub s).2.2.2.1 = 61 := i0_t c_8
          rw [show w_1 84 24 = (61 : Int32).toInt64 from g1.sg (by decide) e1]
          refine wp_steps 2 (t' := (33, [some (.ref 84), some (.int v_1), none, none], [.int (lg_cmp ((61 : Int32).toInt64) 60)], (HD, m_1, w_1, mr))) rfl ?_
          refine wp_bI rfl (fun c_9 => ?_) (fun c_9 => ?_)
          rotate_left
          · have c_9 : (lg_cmp ((61 : Int32).toInt64) 60) = 0 := Decidable.not_not.mp (of_decide_eq_false c_9)
            exact absurd ((lg_cmp_eq _ _).mp c_9) (by decide)
          have c_9 : ¬ (lg_cmp ((61 : Int32).toInt64) 60) = 0 := of_decide_eq_true c_9
          refine wp_steps 3 (t' := (39, [some (.ref 84), some (.int v_1), some (.int 0), none], [.ref 84], (HD, m_1, w_1, mr))) rfl ?_
          refine wp_calv (as := []) rfl rfl rfl (Nat.le_of_ble_eq_true rfl) ⟨by decide, rfl⟩ ((r_next (ml := w_1) hM g1 hnn (by rw [← g1.T, e1]; decide))) (by omega) ?_
          rintro _ _ ⟨rfl, m_3, w_3, rfl, f3, g3⟩
          show aWP _ _ (40, [some (.ref 84), some (.int v_1), some (.int 0), none], [], (HD, m_3, w_3, mr)) _
          skip
          · skip
            refine wp_steps 1 (t' := (41, [some (.ref 84), some (.int v_1), some (.int 0), none], [.ref 84], (HD, m_3, w_3, mr))) rfl ?_
            refine wp_calv (as := []) rfl rfl rfl (Nat.le_of_ble_eq_true rfl) ⟨by decide, rfl⟩ ((hsub _ _ _ g3 ((hnm.fr f1).fr f3))) (by omega) ?_
            rintro _ _ ⟨v_4, m_4, w_4, rfl, rfl, f4, r4⟩
            show aWP _ _ (42, [some (.ref 84), some (.int v_1), some (.int 0), none], [.int v_4], (HD, m_4, w_4, mr)) _
            by_cases hF2 : (sub (stP b n (sub s).2)).1 = true
            · obtain ⟨g4, go4⟩ := r4.1 hF2
              refine wp_steps 2 (t' := (44, [some (.ref 84), some (.int v_1), some (.int 0), some (.int v_4)], [.int 0], (HD, m_4, w_4, mr))) rfl ?_
              refine wp_bI rfl (fun c_10 => ?_) (fun c_10 => ?_)
              rotate_left
              · have c_10 : ¬ ((0 : Int32) = 0) := of_decide_eq_false c_10
                exact absurd c_10 (by decide)
              have c_10 : (0 : Int32) = 0 := of_decide_eq_true c_10
              refine wp_steps 2 (t' := (51, [some (.ref 84), some (.int v_1), some (.int 0), some (.int v_4)], [.int v_4, .int v_1], (HD, m_4, w_4, mr))) rfl ?_
              refine wp_bC rfl (fun c_11 => ?_) (fun c_11 => ?_)
              · have c_11 : ¬ v_1 = v_4 := of_decide_eq_true c_11
                refine wp_steps 1 (t' := (55, [some (.ref 84), some (.int v_1), some (.int 0), some (.int v_4)], [.int 0], (HD, m_4, w_4, mr))) rfl ?_
                refine wp_ret rfl rfl ⟨⟨Nat.le_refl _, Nat.le_refl _⟩, ?_⟩
                have eN := nt_l (b := b) (n := n) (deep := none) (like := liF b n sub) nT
                have eo : (if (sub s).2.2.2.1 = 60 then (-14 : Int32) else -15) = -15 := by rw [e1]; rfl
                obtain ⟨k1, k2, k3⟩ := GO_bi (c := -15) h.2.2.1.2.2.2.2 g1 (by rw [e1]; decide) (go1.wk (by decide)) g4 go4 (by decide) (by decide)
                have ev : pfJ (-15) v_1 v_4 = 0 := by simp [pfJ, c_11]
                rw [ev] at k2
                refine ⟨_, _, _, rfl, rfl, (f1.tr f3).tr f4, ?_⟩
                rw [eN, li_ok hF (Or.inr e1), if_pos hF2, eo]
                exact ⟨fun _ => ⟨k1, k2⟩, fun z => Bool.noConfusion z⟩
              · have c_11 : v_1 = v_4 := Decidable.not_not.mp (of_decide_eq_false c_11)
                refine wp_steps 2 (t' := (55, [some (.ref 84), some (.int v_1), some (.int 0), some (.int v_4)], [.int 1], (HD, m_4, w_4, mr))) rfl ?_
                refine wp_ret rfl rfl ⟨⟨Nat.le_refl _, Nat.le_refl _⟩, ?_⟩
                have eN := nt_l (b := b) (n := n) (deep := none) (like := liF b n sub) nT
                have eo : (if (sub s).2.2.2.1 = 60 then (-14 : Int32) else -15) = -15 := by rw [e1]; rfl
                obtain ⟨k1, k2, k3⟩ := GO_bi (c := -15) h.2.2.1.2.2.2.2 g1 (by rw [e1]; decide) (go1.wk (by decide)) g4 go4 (by decide) (by decide)
                have ev : pfJ (-15) v_1 v_4 = 1 := by simp [pfJ, c_11]
                rw [ev] at k2
                refine ⟨_, _, _, rfl, rfl, (f1.tr f3).tr f4, ?_⟩
                rw [eN, li_ok hF (Or.inr e1), if_pos hF2, eo]
                exact ⟨fun _ => ⟨k1, k2⟩, fun z => Bool.noConfusion z⟩
            · have g4 := r4.2 (Bool.eq_false_iff.mpr hF2)
              refine wp_steps 2 (t' := (44, [some (.ref 84), some (.int v_1), some (.int 0), some (.int v_4)], [.int 0], (HD, m_4, w_4, mr))) rfl ?_
              refine wp_bI rfl (fun c_12 => ?_) (fun c_12 => ?_)
              rotate_left
              · have c_12 : ¬ ((0 : Int32) = 0) := of_decide_eq_false c_12
                exact absurd c_12 (by decide)
              have c_12 : (0 : Int32) = 0 := of_decide_eq_true c_12
              refine wp_steps 2 (t' := (51, [some (.ref 84), some (.int v_1), some (.int 0), some (.int v_4)], [.int v_4, .int v_1], (HD, m_4, w_4, mr))) rfl ?_
              refine wp_bC rfl (fun c_13 => ?_) (fun c_13 => ?_)
              · have c_13 : ¬ v_1 = v_4 := of_decide_eq_true c_13
                refine wp_steps 1 (t' := (55, [some (.ref 84), some (.int v_1), some (.int 0), some (.int v_4)], [.int 0], (HD, m_4, w_4, mr))) rfl ?_
                refine wp_ret rfl rfl ⟨⟨Nat.le_refl _, Nat.le_refl _⟩, ?_⟩
                have eN := nt_l (b := b) (n := n) (deep := none) (like := liF b n sub) nT
                refine ⟨_, _, _, rfl, rfl, (f1.tr f3).tr f4, ?_⟩
                rw [eN, li_ok hF (Or.inr e1), if_neg hF2]
                exact ⟨fun z => Bool.noConfusion z, fun _ => g4⟩
              · have c_13 : v_1 = v_4 := Decidable.not_not.mp (of_decide_eq_false c_13)
                refine wp_steps 2 (t' := (55, [some (.ref 84), some (.int v_1), some (.int 0), some (.int v_4)], [.int 1], (HD, m_4, w_4, mr))) rfl ?_
                refine wp_ret rfl rfl ⟨⟨Nat.le_refl _, Nat.le_refl _⟩, ?_⟩
                have eN := nt_l (b := b) (n := n) (deep := none) (like := liF b n sub) nT
                refine ⟨_, _, _, rfl, rfl, (f1.tr f3).tr f4, ?_⟩
                rw [eN, li_ok hF (Or.inr e1), if_neg hF2]
                exact ⟨fun z => Bool.noConfusion z, fun _ => g4⟩
        · have c_8 : (if (sub s).2.2.2.1 = 61 then (1 : Int32) else 0) = 0 := Decidable.not_not.mp (of_decide_eq_false c_8)
          refine wp_steps 1 (t' := (28, [some (.ref 84), some (.int v_1), none, none], [.int v_1], (HD, m_1, w_1, mr))) rfl ?_
          refine wp_ret rfl rfl ⟨⟨Nat.le_refl _, Nat.le_refl _⟩, ?_⟩
          have eN := nt_l (b := b) (n := n) (deep := none) (like := liF b n sub) nT
          refine ⟨_, _, _, rfl, rfl, f1, ?_⟩
          rw [eN, li_no hF (i0_f c_2) (i0_f c_8)]
          exact ⟨fun _ => ⟨g1, go1.wk (by decide)⟩, fun z => Bool.noConfusion z⟩
    · have g1 := r1.2 (Bool.eq_false_iff.mpr hF)
      refine wp_steps 3 (t' := (21, [some (.ref 84), some (.int v_1), none, none], [.int 60, .ref 84], (HD, m_1, w_1, mr))) rfl ?_
      refine wp_calv (as := [.int 60]) rfl rfl rfl (Nat.le_of_ble_eq_true rfl) ⟨by decide, rfl⟩ ((r_sign_b (ml := w_1) (mr := mr) g1.b (c := 60))) (by omega) ?_
      rintro _ _ ⟨rfl, rfl⟩
      show aWP _ _ (22, [some (.ref 84), some (.int v_1), none, none], [.int 0], (HD, m_1, w_1, mr)) _
      refine wp_bI rfl (fun c_14 => ?_) (fun c_14 => ?_)
      · have c_14 : ¬ (0 : Int32) = 0 := of_decide_eq_true c_14
        exact absurd c_14 (by decide)
      have c_14 : (0 : Int32) = 0 := Decidable.not_not.mp (of_decide_eq_false c_14)
      refine wp_steps 2 (t' := (25, [some (.ref 84), some (.int v_1), none, none], [.int 61, .ref 84], (HD, m_1, w_1, mr))) rfl ?_
      refine wp_calv (as := [.int 61]) rfl rfl rfl (Nat.le_of_ble_eq_true rfl) ⟨by decide, rfl⟩ ((r_sign_b (ml := w_1) (mr := mr) g1.b (c := 61))) (by omega) ?_
      rintro _ _ ⟨rfl, rfl⟩
      show aWP _ _ (26, [some (.ref 84), some (.int v_1), none, none], [.int 0], (HD, m_1, w_1, mr)) _
      refine wp_bI rfl (fun c_15 => ?_) (fun c_15 => ?_)
      · have c_15 : ¬ (0 : Int32) = 0 := of_decide_eq_true c_15
        exact absurd c_15 (by decide)
      have c_15 : (0 : Int32) = 0 := Decidable.not_not.mp (of_decide_eq_false c_15)
      refine wp_steps 1 (t' := (28, [some (.ref 84), some (.int v_1), none, none], [.int v_1], (HD, m_1, w_1, mr))) rfl ?_
      refine wp_ret rfl rfl ⟨⟨Nat.le_refl _, Nat.le_refl _⟩, ?_⟩
      have eN := nt_l (b := b) (n := n) (deep := none) (like := liF b n sub) nT
      refine ⟨_, _, _, rfl, rfl, f1, ?_⟩
      rw [eN, li_ba hF]
      exact ⟨fun z => Bool.noConfusion z, fun _ => g1⟩
  · have c_1 : ¬ ((if s.2.2.1 = 8 then (1 : Int32) else 0) = 0) := of_decide_eq_false c_1
    refine wp_steps 1 (t' := (12, [some (.ref 84), none, none, none], [.ref 84], (HD, m, w, mr))) rfl ?_
    refine wp_calv (as := []) rfl rfl rfl (Nat.le_of_ble_eq_true rfl) ⟨by decide, rfl⟩ ((r_opens_f (ml := w) hM h rfl)) (by omega) ?_
    rintro _ _ ⟨rfl, m_1, rfl, f1, g1⟩
    have eT : s.2.2.1 = 8 := i0_t c_1
    show aWP _ _ (13, [some (.ref 84), none, none, none], [.int 0], (HD, m_1, w, mr)) _
    skip
    · skip
      refine wp_steps 2 (t' := (15, [some (.ref 84), none, none, none], [.int 0], (HD, m_1, w, mr))) rfl ?_
      refine wp_ret rfl rfl ⟨⟨Nat.le_refl _, Nat.le_refl _⟩, ?_⟩
      have e := nt_0 (b := b) (n := n) (like := liF b n sub) eT
      refine ⟨_, _, _, rfl, rfl, f1, ?_⟩
      rw [e]
      exact ⟨fun z => Bool.noConfusion z, fun _ => g1⟩
set_option maxRecDepth 20000 in
set_option maxHeartbeats 1000000 in
theorem r_not4 {X : aXt × Value} {mr : Nat → Nat → Option Nat} (hM : MRok mr) {b : Nat → Int32} {n t : Nat} (hnn : nnB b n) {nm : Nat → Int32} {d : Nat} (hd : 4 ≤ d) {sub : pF} (hsub : cwR X mr b n t 4 nm d 141 8 sub) {q : pF × pF × pF} (h2 : cwR X mr b n t 5 nm d 136 4 q.2.1) : cwR X mr b n t 4 nm (d + 1) 142 9 (ntF b n (some q) (liF b n sub)) := by
  intro m w s h hnm
  refine cw_of (cd := cd_X7_not4) (nL := 4) rfl rfl ?_
  show aWP _ _ (0, [some (.ref 84), none, none, none], [], (HD, m, w, mr)) _
  refine wp_steps 9 (t' := (9, [some (.ref 84), none, none, none], [.int 0, .int 0, .int 0, .int 0, .int 0, .int 116, .int 111, .int 110, .ref 84], (HD, m, w, mr))) rfl ?_
  refine wp_calv (as := [.int 110, .int 111, .int 116, .int 0, .int 0, .int 0, .int 0, .int 0]) rfl rfl rfl (Nat.le_of_ble_eq_true rfl) ⟨by decide, rfl⟩ ((rw_not (ml := w) hM h)) (by omega) ?_
  rintro _ _ ⟨rfl, rfl⟩
  show aWP _ _ (10, [some (.ref 84), none, none, none], [.int (if s.2.2.1 = 8 then (1 : Int32) else 0)], (HD, m, w, mr)) _
  refine wp_bI rfl (fun c_1 => ?_) (fun c_1 => ?_)
  · have c_1 : (if s.2.2.1 = 8 then (1 : Int32) else 0) = 0 := of_decide_eq_true c_1
    refine wp_steps 1 (t' := (32, [some (.ref 84), none, none, none], [.ref 84], (HD, m, w, mr))) rfl ?_
    refine wp_calv (as := []) rfl rfl rfl (Nat.le_of_ble_eq_true rfl) ⟨by decide, rfl⟩ ((hsub _ _ _ h hnm)) (by omega) ?_
    rintro _ _ ⟨v_1, m_1, w_1, rfl, rfl, f1, r1⟩
    have nT : ¬ s.2.2.1 = 8 := i0_f c_1
    show aWP _ _ (33, [some (.ref 84), none, none, none], [.int v_1], (HD, m_1, w_1, mr)) _
    by_cases hF : (sub s).1 = true
    · obtain ⟨g1, go1⟩ := r1.1 hF
      refine wp_steps 3 (t' := (36, [some (.ref 84), some (.int v_1), none, none], [.int 60, .ref 84], (HD, m_1, w_1, mr))) rfl ?_
      refine wp_calv (as := [.int 60]) rfl rfl rfl (Nat.le_of_ble_eq_true rfl) ⟨by decide, rfl⟩ ((r_sign (ml := w_1) hM g1 (c := 60) (by decide))) (by omega) ?_
      rintro _ _ ⟨rfl, rfl⟩
      show aWP _ _ (37, [some (.ref 84), some (.int v_1), none, none], [.int (if (sub s).2.2.2.1 = 60 then (1 : Int32) else 0)], (HD, m_1, w_1, mr)) _
      refine wp_bI rfl (fun c_2 => ?_) (fun c_2 => ?_)
      · have c_2 : ¬ (if (sub s).2.2.2.1 = 60 then (1 : Int32) else 0) = 0 := of_decide_eq_true c_2
        refine wp_steps 1 (t' := (45, [some (.ref 84), some (.int v_1), none, none], [.ref 84], (HD, m_1, w_1, mr))) rfl ?_
        refine wp_getl rfl ⟨by decide, rfl⟩ rfl ?_
        have e1 : (sub s).2.2.2.1 = 60 := i0_t c_2
        rw [show w_1 84 24 = (60 : Int32).toInt64 from g1.sg (by decide) e1]
        refine wp_steps 2 (t' := (48, [some (.ref 84), some (.int v_1), none, none], [.int (lg_cmp ((60 : Int32).toInt64) 60)], (HD, m_1, w_1, mr))) rfl ?_
        refine wp_bI rfl (fun c_3 => ?_) (fun c_3 => ?_)
        · have c_3 : ¬ (lg_cmp ((60 : Int32).toInt64) 60) = 0 := of_decide_eq_true c_3
          exact absurd ((lg_cmp_eq _ _).mpr (by decide)) c_3
        have c_3 : (lg_cmp ((60 : Int32).toInt64) 60) = 0 := Decidable.not_not.mp (of_decide_eq_false c_3)
        refine wp_steps 4 (t' := (54, [some (.ref 84), some (.int v_1), some (.int 1), none], [.ref 84], (HD, m_1, w_1, mr))) rfl ?_
        refine wp_calv (as := []) rfl rfl rfl (Nat.le_of_ble_eq_true rfl) ⟨by decide, rfl⟩ ((r_next (ml := w_1) hM g1 hnn (by rw [← g1.T, e1]; decide))) (by omega) ?_
        rintro _ _ ⟨rfl, m_3, w_3, rfl, f3, g3⟩
        show aWP _ _ (55, [some (.ref 84), some (.int v_1), some (.int 1), none], [], (HD, m_3, w_3, mr)) _
        skip
        · skip
          refine wp_steps 1 (t' := (56, [some (.ref 84), some (.int v_1), some (.int 1), none], [.ref 84], (HD, m_3, w_3, mr))) rfl ?_
          refine wp_calv (as := []) rfl rfl rfl (Nat.le_of_ble_eq_true rfl) ⟨by decide, rfl⟩ ((hsub _ _ _ g3 ((hnm.fr f1).fr f3))) (by omega) ?_
          rintro _ _ ⟨v_4, m_4, w_4, rfl, rfl, f4, r4⟩
          show aWP _ _ (57, [some (.ref 84), some (.int v_1), some (.int 1), none], [.int v_4], (HD, m_4, w_4, mr)) _
          by_cases hF2 : (sub (stP b n (sub s).2)).1 = true
          · obtain ⟨g4, go4⟩ := r4.1 hF2
            refine wp_steps 2 (t' := (59, [some (.ref 84), some (.int v_1), some (.int 1), some (.int v_4)], [.int 1], (HD, m_4, w_4, mr))) rfl ?_
            refine wp_bI rfl (fun c_4 => ?_) (fun c_4 => ?_)
            · have c_4 : (1 : Int32) = 0 := of_decide_eq_true c_4
              exact absurd c_4 (by decide)
            have c_4 : ¬ ((1 : Int32) = 0) := of_decide_eq_false c_4
            refine wp_steps 2 (t' := (62, [some (.ref 84), some (.int v_1), some (.int 1), some (.int v_4)], [.int v_4, .int v_1], (HD, m_4, w_4, mr))) rfl ?_
            refine wp_bC rfl (fun c_5 => ?_) (fun c_5 => ?_)
            · have c_5 : v_4 ≤ v_1 := of_decide_eq_true c_5
              refine wp_steps 1 (t' := (70, [some (.ref 84), some (.int v_1), some (.int 1), some (.int v_4)], [.int 0], (HD, m_4, w_4, mr))) rfl ?_
              refine wp_ret rfl rfl ⟨⟨Nat.le_refl _, Nat.le_refl _⟩, ?_⟩
              have eN := nt_l (b := b) (n := n) (deep := (some q)) (like := liF b n sub) nT
              have eo : (if (sub s).2.2.2.1 = 60 then (-14 : Int32) else -15) = -14 := by rw [e1]; rfl
              obtain ⟨k1, k2, k3⟩ := GO_bi (c := -14) h.2.2.1.2.2.2.2 g1 (by rw [e1]; decide) (go1.wk (by decide)) g4 go4 (by decide) (by decide)
              have ev : pfJ (-14) v_1 v_4 = 0 := by simp [pfJ, Int32.not_lt.mpr c_5]
              rw [ev] at k2
              refine ⟨_, _, _, rfl, rfl, (f1.tr f3).tr f4, ?_⟩
              rw [eN, li_ok hF (Or.inl e1), if_pos hF2, eo]
              exact ⟨fun _ => ⟨k1, k2⟩, fun z => Bool.noConfusion z⟩
            · have c_5 : ¬ (v_4 ≤ v_1) := of_decide_eq_false c_5
              refine wp_steps 3 (t' := (70, [some (.ref 84), some (.int v_1), some (.int 1), some (.int v_4)], [.int 1], (HD, m_4, w_4, mr))) rfl ?_
              refine wp_ret rfl rfl ⟨⟨Nat.le_refl _, Nat.le_refl _⟩, ?_⟩
              have eN := nt_l (b := b) (n := n) (deep := (some q)) (like := liF b n sub) nT
              have eo : (if (sub s).2.2.2.1 = 60 then (-14 : Int32) else -15) = -14 := by rw [e1]; rfl
              obtain ⟨k1, k2, k3⟩ := GO_bi (c := -14) h.2.2.1.2.2.2.2 g1 (by rw [e1]; decide) (go1.wk (by decide)) g4 go4 (by decide) (by decide)
              have ev : pfJ (-14) v_1 v_4 = 1 := by simp [pfJ, Int32.not_le.mp c_5]
              rw [ev] at k2
              refine ⟨_, _, _, rfl, rfl, (f1.tr f3).tr f4, ?_⟩
              rw [eN, li_ok hF (Or.inl e1), if_pos hF2, eo]
              exact ⟨fun _ => ⟨k1, k2⟩, fun z => Bool.noConfusion z⟩
          · have g4 := r4.2 (Bool.eq_false_iff.mpr hF2)
            refine wp_steps 2 (t' := (59, [some (.ref 84), some (.int v_1), some (.int 1), some (.int v_4)], [.int 1], (HD, m_4, w_4, mr))) rfl ?_
            refine wp_bI rfl (fun c_6 => ?_) (fun c_6 => ?_)
            · have c_6 : (1 : Int32) = 0 := of_decide_eq_true c_6
              exact absurd c_6 (by decide)
            have c_6 : ¬ ((1 : Int32) = 0) := of_decide_eq_false c_6
            refine wp_steps 2 (t' := (62, [some (.ref 84), some (.int v_1), some (.int 1), some (.int v_4)], [.int v_4, .int v_1], (HD, m_4, w_4, mr))) rfl ?_
            refine wp_bC rfl (fun c_7 => ?_) (fun c_7 => ?_)
            · have c_7 : v_4 ≤ v_1 := of_decide_eq_true c_7
              refine wp_steps 1 (t' := (70, [some (.ref 84), some (.int v_1), some (.int 1), some (.int v_4)], [.int 0], (HD, m_4, w_4, mr))) rfl ?_
              refine wp_ret rfl rfl ⟨⟨Nat.le_refl _, Nat.le_refl _⟩, ?_⟩
              have eN := nt_l (b := b) (n := n) (deep := (some q)) (like := liF b n sub) nT
              refine ⟨_, _, _, rfl, rfl, (f1.tr f3).tr f4, ?_⟩
              rw [eN, li_ok hF (Or.inl e1), if_neg hF2]
              exact ⟨fun z => Bool.noConfusion z, fun _ => g4⟩
            · have c_7 : ¬ (v_4 ≤ v_1) := of_decide_eq_false c_7
              refine wp_steps 3 (t' := (70, [some (.ref 84), some (.int v_1), some (.int 1), some (.int v_4)], [.int 1], (HD, m_4, w_4, mr))) rfl ?_
              refine wp_ret rfl rfl ⟨⟨Nat.le_refl _, Nat.le_refl _⟩, ?_⟩
              have eN := nt_l (b := b) (n := n) (deep := (some q)) (like := liF b n sub) nT
              refine ⟨_, _, _, rfl, rfl, (f1.tr f3).tr f4, ?_⟩
              rw [eN, li_ok hF (Or.inl e1), if_neg hF2]
              exact ⟨fun z => Bool.noConfusion z, fun _ => g4⟩
      · have c_2 : (if (sub s).2.2.2.1 = 60 then (1 : Int32) else 0) = 0 := Decidable.not_not.mp (of_decide_eq_false c_2)
        refine wp_steps 2 (t' := (40, [some (.ref 84), some (.int v_1), none, none], [.int 61, .ref 84], (HD, m_1, w_1, mr))) rfl ?_
        refine wp_calv (as := [.int 61]) rfl rfl rfl (Nat.le_of_ble_eq_true rfl) ⟨by decide, rfl⟩ ((r_sign (ml := w_1) hM g1 (c := 61) (by decide))) (by omega) ?_
        rintro _ _ ⟨rfl, rfl⟩
        show aWP _ _ (41, [some (.ref 84), some (.int v_1), none, none], [.int (if (sub s).2.2.2.1 = 61 then (1 : Int32) else 0)], (HD, m_1, w_1, mr)) _
        refine wp_bI rfl (fun c_8 => ?_) (fun c_8 => ?_)
        · have c_8 : ¬ (if (sub s).2.2.2.1 = 61 then (1 : Int32) else 0) = 0 := of_decide_eq_true c_8
          refine wp_steps 1 (t' := (45, [some (.ref 84), some (.int v_1), none, none], [.ref 84], (HD, m_1, w_1, mr))) rfl ?_
          refine wp_getl rfl ⟨by decide, rfl⟩ rfl ?_
          have e1 : (sub s).2.2.2.1 = 61 := i0_t c_8
          rw [show w_1 84 24 = (61 : Int32).toInt64 from g1.sg (by decide) e1]
          refine wp_steps 2 (t' := (48, [some (.ref 84), some (.int v_1), none, none], [.int (lg_cmp ((61 : Int32).toInt64) 60)], (HD, m_1, w_1, mr))) rfl ?_
          refine wp_bI rfl (fun c_9 => ?_) (fun c_9 => ?_)
          rotate_left
          · have c_9 : (lg_cmp ((61 : Int32).toInt64) 60) = 0 := Decidable.not_not.mp (of_decide_eq_false c_9)
            exact absurd ((lg_cmp_eq _ _).mp c_9) (by decide)
          have c_9 : ¬ (lg_cmp ((61 : Int32).toInt64) 60) = 0 := of_decide_eq_true c_9
          refine wp_steps 3 (t' := (54, [some (.ref 84), some (.int v_1), some (.int 0), none], [.ref 84], (HD, m_1, w_1, mr))) rfl ?_
          refine wp_calv (as := []) rfl rfl rfl (Nat.le_of_ble_eq_true rfl) ⟨by decide, rfl⟩ ((r_next (ml := w_1) hM g1 hnn (by rw [← g1.T, e1]; decide))) (by omega) ?_
          rintro _ _ ⟨rfl, m_3, w_3, rfl, f3, g3⟩
          show aWP _ _ (55, [some (.ref 84), some (.int v_1), some (.int 0), none], [], (HD, m_3, w_3, mr)) _
          skip
          · skip
            refine wp_steps 1 (t' := (56, [some (.ref 84), some (.int v_1), some (.int 0), none], [.ref 84], (HD, m_3, w_3, mr))) rfl ?_
            refine wp_calv (as := []) rfl rfl rfl (Nat.le_of_ble_eq_true rfl) ⟨by decide, rfl⟩ ((hsub _ _ _ g3 ((hnm.fr f1).fr f3))) (by omega) ?_
            rintro _ _ ⟨v_4, m_4, w_4, rfl, rfl, f4, r4⟩
            show aWP _ _ (57, [some (.ref 84), some (.int v_1), some (.int 0), none], [.int v_4], (HD, m_4, w_4, mr)) _
            by_cases hF2 : (sub (stP b n (sub s).2)).1 = true
            · obtain ⟨g4, go4⟩ := r4.1 hF2
              refine wp_steps 2 (t' := (59, [some (.ref 84), some (.int v_1), some (.int 0), some (.int v_4)], [.int 0], (HD, m_4, w_4, mr))) rfl ?_
              refine wp_bI rfl (fun c_10 => ?_) (fun c_10 => ?_)
              rotate_left
              · have c_10 : ¬ ((0 : Int32) = 0) := of_decide_eq_false c_10
                exact absurd c_10 (by decide)
              have c_10 : (0 : Int32) = 0 := of_decide_eq_true c_10
              refine wp_steps 2 (t' := (66, [some (.ref 84), some (.int v_1), some (.int 0), some (.int v_4)], [.int v_4, .int v_1], (HD, m_4, w_4, mr))) rfl ?_
              refine wp_bC rfl (fun c_11 => ?_) (fun c_11 => ?_)
              · have c_11 : ¬ v_1 = v_4 := of_decide_eq_true c_11
                refine wp_steps 1 (t' := (70, [some (.ref 84), some (.int v_1), some (.int 0), some (.int v_4)], [.int 0], (HD, m_4, w_4, mr))) rfl ?_
                refine wp_ret rfl rfl ⟨⟨Nat.le_refl _, Nat.le_refl _⟩, ?_⟩
                have eN := nt_l (b := b) (n := n) (deep := (some q)) (like := liF b n sub) nT
                have eo : (if (sub s).2.2.2.1 = 60 then (-14 : Int32) else -15) = -15 := by rw [e1]; rfl
                obtain ⟨k1, k2, k3⟩ := GO_bi (c := -15) h.2.2.1.2.2.2.2 g1 (by rw [e1]; decide) (go1.wk (by decide)) g4 go4 (by decide) (by decide)
                have ev : pfJ (-15) v_1 v_4 = 0 := by simp [pfJ, c_11]
                rw [ev] at k2
                refine ⟨_, _, _, rfl, rfl, (f1.tr f3).tr f4, ?_⟩
                rw [eN, li_ok hF (Or.inr e1), if_pos hF2, eo]
                exact ⟨fun _ => ⟨k1, k2⟩, fun z => Bool.noConfusion z⟩
              · have c_11 : v_1 = v_4 := Decidable.not_not.mp (of_decide_eq_false c_11)
                refine wp_steps 2 (t' := (70, [some (.ref 84), some (.int v_1), some (.int 0), some (.int v_4)], [.int 1], (HD, m_4, w_4, mr))) rfl ?_
                refine wp_ret rfl rfl ⟨⟨Nat.le_refl _, Nat.le_refl _⟩, ?_⟩
                have eN := nt_l (b := b) (n := n) (deep := (some q)) (like := liF b n sub) nT
                have eo : (if (sub s).2.2.2.1 = 60 then (-14 : Int32) else -15) = -15 := by rw [e1]; rfl
                obtain ⟨k1, k2, k3⟩ := GO_bi (c := -15) h.2.2.1.2.2.2.2 g1 (by rw [e1]; decide) (go1.wk (by decide)) g4 go4 (by decide) (by decide)
                have ev : pfJ (-15) v_1 v_4 = 1 := by simp [pfJ, c_11]
                rw [ev] at k2
                refine ⟨_, _, _, rfl, rfl, (f1.tr f3).tr f4, ?_⟩
                rw [eN, li_ok hF (Or.inr e1), if_pos hF2, eo]
                exact ⟨fun _ => ⟨k1, k2⟩, fun z => Bool.noConfusion z⟩
            · have g4 := r4.2 (Bool.eq_false_iff.mpr hF2)
              refine wp_steps 2 (t' := (59, [some (.ref 84), some (.int v_1), some (.int 0), some (.int v_4)], [.int 0], (HD, m_4, w_4, mr))) rfl ?_
              refine wp_bI rfl (fun c_12 => ?_) (fun c_12 => ?_)
              rotate_left
              · have c_12 : ¬ ((0 : Int32) = 0) := of_decide_eq_false c_12
                exact absurd c_12 (by decide)
              have c_12 : (0 : Int32) = 0 := of_decide_eq_true c_12
              refine wp_steps 2 (t' := (66, [some (.ref 84), some (.int v_1), some (.int 0), some (.int v_4)], [.int v_4, .int v_1], (HD, m_4, w_4, mr))) rfl ?_
              refine wp_bC rfl (fun c_13 => ?_) (fun c_13 => ?_)
              · have c_13 : ¬ v_1 = v_4 := of_decide_eq_true c_13
                refine wp_steps 1 (t' := (70, [some (.ref 84), some (.int v_1), some (.int 0), some (.int v_4)], [.int 0], (HD, m_4, w_4, mr))) rfl ?_
                refine wp_ret rfl rfl ⟨⟨Nat.le_refl _, Nat.le_refl _⟩, ?_⟩
                have eN := nt_l (b := b) (n := n) (deep := (some q)) (like := liF b n sub) nT
                refine ⟨_, _, _, rfl, rfl, (f1.tr f3).tr f4, ?_⟩
                rw [eN, li_ok hF (Or.inr e1), if_neg hF2]
                exact ⟨fun z => Bool.noConfusion z, fun _ => g4⟩
              · have c_13 : v_1 = v_4 := Decidable.not_not.mp (of_decide_eq_false c_13)
                refine wp_steps 2 (t' := (70, [some (.ref 84), some (.int v_1), some (.int 0), some (.int v_4)], [.int 1], (HD, m_4, w_4, mr))) rfl ?_
                refine wp_ret rfl rfl ⟨⟨Nat.le_refl _, Nat.le_refl _⟩, ?_⟩
                have eN := nt_l (b := b) (n := n) (deep := (some q)) (like := liF b n sub) nT
                refine ⟨_, _, _, rfl, rfl, (f1.tr f3).tr f4, ?_⟩
                rw [eN, li_ok hF (Or.inr e1), if_neg hF2]
                exact ⟨fun z => Bool.noConfusion z, fun _ => g4⟩
        · have c_8 : (if (sub s).2.2.2.1 = 61 then (1 : Int32) else 0) = 0 := Decidable.not_not.mp (of_decide_eq_false c_8)
          refine wp_steps 1 (t' := (43, [some (.ref 84), some (.int v_1), none, none], [.int v_1], (HD, m_1, w_1, mr))) rfl ?_
          refine wp_ret rfl rfl ⟨⟨Nat.le_refl _, Nat.le_refl _⟩, ?_⟩
          have eN := nt_l (b := b) (n := n) (deep := (some q)) (like := liF b n sub) nT
          refine ⟨_, _, _, rfl, rfl, f1, ?_⟩
          rw [eN, li_no hF (i0_f c_2) (i0_f c_8)]
          exact ⟨fun _ => ⟨g1, go1.wk (by decide)⟩, fun z => Bool.noConfusion z⟩
    · have g1 := r1.2 (Bool.eq_false_iff.mpr hF)
      refine wp_steps 3 (t' := (36, [some (.ref 84), some (.int v_1), none, none], [.int 60, .ref 84], (HD, m_1, w_1, mr))) rfl ?_
      refine wp_calv (as := [.int 60]) rfl rfl rfl (Nat.le_of_ble_eq_true rfl) ⟨by decide, rfl⟩ ((r_sign_b (ml := w_1) (mr := mr) g1.b (c := 60))) (by omega) ?_
      rintro _ _ ⟨rfl, rfl⟩
      show aWP _ _ (37, [some (.ref 84), some (.int v_1), none, none], [.int 0], (HD, m_1, w_1, mr)) _
      refine wp_bI rfl (fun c_14 => ?_) (fun c_14 => ?_)
      · have c_14 : ¬ (0 : Int32) = 0 := of_decide_eq_true c_14
        exact absurd c_14 (by decide)
      have c_14 : (0 : Int32) = 0 := Decidable.not_not.mp (of_decide_eq_false c_14)
      refine wp_steps 2 (t' := (40, [some (.ref 84), some (.int v_1), none, none], [.int 61, .ref 84], (HD, m_1, w_1, mr))) rfl ?_
      refine wp_calv (as := [.int 61]) rfl rfl rfl (Nat.le_of_ble_eq_true rfl) ⟨by decide, rfl⟩ ((r_sign_b (ml := w_1) (mr := mr) g1.b (c := 61))) (by omega) ?_
      rintro _ _ ⟨rfl, rfl⟩
      show aWP _ _ (41, [some (.ref 84), some (.int v_1), none, none], [.int 0], (HD, m_1, w_1, mr)) _
      refine wp_bI rfl (fun c_15 => ?_) (fun c_15 => ?_)
      · have c_15 : ¬ (0 : Int32) = 0 := of_decide_eq_true c_15
        exact absurd c_15 (by decide)
      have c_15 : (0 : Int32) = 0 := Decidable.not_not.mp (of_decide_eq_false c_15)
      refine wp_steps 1 (t' := (43, [some (.ref 84), some (.int v_1), none, none], [.int v_1], (HD, m_1, w_1, mr))) rfl ?_
      refine wp_ret rfl rfl ⟨⟨Nat.le_refl _, Nat.le_refl _⟩, ?_⟩
      have eN := nt_l (b := b) (n := n) (deep := (some q)) (like := liF b n sub) nT
      refine ⟨_, _, _, rfl, rfl, f1, ?_⟩
      rw [eN, li_ba hF]
      exact ⟨fun z => Bool.noConfusion z, fun _ => g1⟩
  · have c_1 : ¬ ((if s.2.2.1 = 8 then (1 : Int32) else 0) = 0) := of_decide_eq_false c_1
    refine wp_steps 1 (t' := (12, [some (.ref 84), none, none, none], [.ref 84], (HD, m, w, mr))) rfl ?_
    refine wp_calv (as := []) rfl rfl rfl (Nat.le_of_ble_eq_true rfl) ⟨by decide, rfl⟩ ((r_opens (ml := w) hM h hnn (by rw [← h.T, i0_t c_1]; decide) (by decide))) (by omega) ?_
    rintro _ _ ⟨rfl, m_1, w_1, rfl, f1, g1⟩
    have eT : s.2.2.1 = 8 := i0_t c_1
    show aWP _ _ (13, [some (.ref 84), none, none, none], [.int 1], (HD, m_1, w_1, mr)) _
    skip
    · skip
      refine wp_bI rfl (fun c_16 => ?_) (fun c_16 => ?_)
      rotate_left
      · have c_16 : (1 : Int32) = 0 := Decidable.not_not.mp (of_decide_eq_false c_16)
        exact absurd c_16 (by decide)
      have c_16 : ¬ (1 : Int32) = 0 := of_decide_eq_true c_16
      refine wp_steps 1 (t' := (17, [some (.ref 84), none, none, none], [.ref 84], (HD, m_1, w_1, mr))) rfl ?_
      refine wp_calv (as := []) rfl rfl rfl (Nat.le_of_ble_eq_true rfl) ⟨by decide, rfl⟩ ((h2 _ _ _ g1 (hnm.fr f1))) (by omega) ?_
      rintro _ _ ⟨v_2, m_2, w_2, rfl, rfl, f2, r2⟩
      show aWP _ _ (18, [some (.ref 84), none, none, none], [.int v_2], (HD, m_2, w_2, mr)) _
      by_cases hF : (q.2.1 (stP b n s)).1 = true
      · obtain ⟨g2, go2⟩ := r2.1 hF
        refine wp_steps 3 (t' := (21, [some (.ref 84), some (.int v_2), none, none], [.ref 84, .ref 84], (HD, m_2, w_2, mr))) rfl ?_
        refine wp_geti rfl ⟨by decide, rfl⟩ (Or.inl rfl) ?_
        refine wp_steps 2 (t' := (24, [some (.ref 84), some (.int v_2), none, none], [.int ((m_2 84 25) - 1), .ref 84], (HD, m_2, w_2, mr))) rfl ?_
        rw [show m_2 84 25 - 1 = nI 4 from by rw [g2.2.2.2.1]; exact nI_pred 4]
        refine wp_puti rfl ⟨by decide, rfl⟩ rfl (fun m_17 h_18 => ?_)
        subst h_18
        refine wp_steps 1 (t' := (26, [some (.ref 84), some (.int v_2), none, none], [.int v_2], (HD, (aup m_2 84 25 (nI 4)), w_2, mr))) rfl ?_
        refine wp_bI rfl (fun c_19 => ?_) (fun c_19 => ?_)
        · have c_19 : ¬ v_2 = 0 := of_decide_eq_true c_19
          refine wp_steps 1 (t' := (30, [some (.ref 84), some (.int v_2), none, none], [.int 0], (HD, (aup m_2 84 25 (nI 4)), w_2, mr))) rfl ?_
          refine wp_ret rfl rfl ⟨⟨Nat.le_refl _, Nat.le_refl _⟩, ?_⟩
          have e := nt_s (b := b) (n := n) (q := q) (like := liF b n sub) eT
          rw [if_pos hF] at e
          obtain ⟨k1, k2⟩ := GO_un h (by rw [eT]; decide) g2 go2 (Or.inl (rfl : (-13 : Int32) = -13))
          have ev : pfU (-13) v_2 = 0 := by simp [pfU, c_19]
          rw [ev] at k2
          refine ⟨_, _, _, rfl, rfl, (f1.tr f2).tr (frR.up (by decide) (by decide) _), ?_⟩
          rw [e]
          exact ⟨fun _ => ⟨k1.op 4, k2.wk (by decide)⟩, fun z => Bool.noConfusion z⟩
        · have c_19 : v_2 = 0 := Decidable.not_not.mp (of_decide_eq_false c_19)
          refine wp_steps 2 (t' := (30, [some (.ref 84), some (.int v_2), none, none], [.int 1], (HD, (aup m_2 84 25 (nI 4)), w_2, mr))) rfl ?_
          refine wp_ret rfl rfl ⟨⟨Nat.le_refl _, Nat.le_refl _⟩, ?_⟩
          have e := nt_s (b := b) (n := n) (q := q) (like := liF b n sub) eT
          rw [if_pos hF] at e
          obtain ⟨k1, k2⟩ := GO_un h (by rw [eT]; decide) g2 go2 (Or.inl (rfl : (-13 : Int32) = -13))
          have ev : pfU (-13) v_2 = 1 := by simp [pfU, c_19]
          rw [ev] at k2
          refine ⟨_, _, _, rfl, rfl, (f1.tr f2).tr (frR.up (by decide) (by decide) _), ?_⟩
          rw [e]
          exact ⟨fun _ => ⟨k1.op 4, k2.wk (by decide)⟩, fun z => Bool.noConfusion z⟩
      · have g2 := r2.2 (Bool.eq_false_iff.mpr hF)
        refine wp_steps 3 (t' := (21, [some (.ref 84), some (.int v_2), none, none], [.ref 84, .ref 84], (HD, m_2, w_2, mr))) rfl ?_
        refine wp_geti rfl ⟨by decide, rfl⟩ (Or.inl rfl) ?_
        refine wp_steps 2 (t' := (24, [some (.ref 84), some (.int v_2), none, none], [.int ((m_2 84 25) - 1), .ref 84], (HD, m_2, w_2, mr))) rfl ?_
        refine wp_puti rfl ⟨by decide, rfl⟩ rfl (fun m_20 h_21 => ?_)
        subst h_21
        refine wp_steps 1 (t' := (26, [some (.ref 84), some (.int v_2), none, none], [.int v_2], (HD, (aup m_2 84 25 ((m_2 84 25) - 1)), w_2, mr))) rfl ?_
        refine wp_bI rfl (fun c_22 => ?_) (fun c_22 => ?_)
        · have c_22 : ¬ v_2 = 0 := of_decide_eq_true c_22
          refine wp_steps 1 (t' := (30, [some (.ref 84), some (.int v_2), none, none], [.int 0], (HD, (aup m_2 84 25 ((m_2 84 25) - 1)), w_2, mr))) rfl ?_
          refine wp_ret rfl rfl ⟨⟨Nat.le_refl _, Nat.le_refl _⟩, ?_⟩
          have e := nt_s (b := b) (n := n) (q := q) (like := liF b n sub) eT
          rw [if_neg hF] at e
          refine ⟨_, _, _, rfl, rfl, (f1.tr f2).tr (frR.up (by decide) (by decide) _), ?_⟩
          rw [e]
          exact ⟨fun z => Bool.noConfusion z, fun _ => g2.up _⟩
        · have c_22 : v_2 = 0 := Decidable.not_not.mp (of_decide_eq_false c_22)
          refine wp_steps 2 (t' := (30, [some (.ref 84), some (.int v_2), none, none], [.int 1], (HD, (aup m_2 84 25 ((m_2 84 25) - 1)), w_2, mr))) rfl ?_
          refine wp_ret rfl rfl ⟨⟨Nat.le_refl _, Nat.le_refl _⟩, ?_⟩
          have e := nt_s (b := b) (n := n) (q := q) (like := liF b n sub) eT
          rw [if_neg hF] at e
          refine ⟨_, _, _, rfl, rfl, (f1.tr f2).tr (frR.up (by decide) (by decide) _), ?_⟩
          rw [e]
          exact ⟨fun z => Bool.noConfusion z, fun _ => g2.up _⟩
set_option maxRecDepth 20000 in
set_option maxHeartbeats 1000000 in
theorem r_not3 {X : aXt × Value} {mr : Nat → Nat → Option Nat} (hM : MRok mr) {b : Nat → Int32} {n t : Nat} (hnn : nnB b n) {nm : Nat → Int32} {d : Nat} (hd : 4 ≤ d) {sub : pF} (hsub : cwR X mr b n t 3 nm d 147 13 sub) {q : pF × pF × pF} (h2 : cwR X mr b n t 4 nm d 142 9 q.2.1) : cwR X mr b n t 3 nm (d + 1) 148 14 (ntF b n (some q) (liF b n sub)) := by
  intro m w s h hnm
  refine cw_of (cd := cd_X7_not3) (nL := 4) rfl rfl ?_
  show aWP _ _ (0, [some (.ref 84), none, none, none], [], (HD, m, w, mr)) _
  refine wp_steps 9 (t' := (9, [some (.ref 84), none, none, none], [.int 0, .int 0, .int 0, .int 0, .int 0, .int 116, .int 111, .int 110, .ref 84], (HD, m, w, mr))) rfl ?_
  refine wp_calv (as := [.int 110, .int 111, .int 116, .int 0, .int 0, .int 0, .int 0, .int 0]) rfl rfl rfl (Nat.le_of_ble_eq_true rfl) ⟨by decide, rfl⟩ ((rw_not (ml := w) hM h)) (by omega) ?_
  rintro _ _ ⟨rfl, rfl⟩
  show aWP _ _ (10, [some (.ref 84), none, none, none], [.int (if s.2.2.1 = 8 then (1 : Int32) else 0)], (HD, m, w, mr)) _
  refine wp_bI rfl (fun c_1 => ?_) (fun c_1 => ?_)
  · have c_1 : (if s.2.2.1 = 8 then (1 : Int32) else 0) = 0 := of_decide_eq_true c_1
    refine wp_steps 1 (t' := (32, [some (.ref 84), none, none, none], [.ref 84], (HD, m, w, mr))) rfl ?_
    refine wp_calv (as := []) rfl rfl rfl (Nat.le_of_ble_eq_true rfl) ⟨by decide, rfl⟩ ((hsub _ _ _ h hnm)) (by omega) ?_
    rintro _ _ ⟨v_1, m_1, w_1, rfl, rfl, f1, r1⟩
    have nT : ¬ s.2.2.1 = 8 := i0_f c_1
    show aWP _ _ (33, [some (.ref 84), none, none, none], [.int v_1], (HD, m_1, w_1, mr)) _
    by_cases hF : (sub s).1 = true
    · obtain ⟨g1, go1⟩ := r1.1 hF
      refine wp_steps 3 (t' := (36, [some (.ref 84), some (.int v_1), none, none], [.int 60, .ref 84], (HD, m_1, w_1, mr))) rfl ?_
      refine wp_calv (as := [.int 60]) rfl rfl rfl (Nat.le_of_ble_eq_true rfl) ⟨by decide, rfl⟩ ((r_sign (ml := w_1) hM g1 (c := 60) (by decide))) (by omega) ?_
      rintro _ _ ⟨rfl, rfl⟩
      show aWP _ _ (37, [some (.ref 84), some (.int v_1), none, none], [.int (if (sub s).2.2.2.1 = 60 then (1 : Int32) else 0)], (HD, m_1, w_1, mr)) _
      refine wp_bI rfl (fun c_2 => ?_) (fun c_2 => ?_)
      · have c_2 : ¬ (if (sub s).2.2.2.1 = 60 then (1 : Int32) else 0) = 0 := of_decide_eq_true c_2
        refine wp_steps 1 (t' := (45, [some (.ref 84), some (.int v_1), none, none], [.ref 84], (HD, m_1, w_1, mr))) rfl ?_
        refine wp_getl rfl ⟨by decide, rfl⟩ rfl ?_
        have e1 : (sub s).2.2.2.1 = 60 := i0_t c_2
        rw [show w_1 84 24 = (60 : Int32).toInt64 from g1.sg (by decide) e1]
        refine wp_steps 2 (t' := (48, [some (.ref 84), some (.int v_1), none, none], [.int (lg_cmp ((60 : Int32).toInt64) 60)], (HD, m_1, w_1, mr))) rfl ?_
        refine wp_bI rfl (fun c_3 => ?_) (fun c_3 => ?_)
        · have c_3 : ¬ (lg_cmp ((60 : Int32).toInt64) 60) = 0 := of_decide_eq_true c_3
          exact absurd ((lg_cmp_eq _ _).mpr (by decide)) c_3
        have c_3 : (lg_cmp ((60 : Int32).toInt64) 60) = 0 := Decidable.not_not.mp (of_decide_eq_false c_3)
        refine wp_steps 4 (t' := (54, [some (.ref 84), some (.int v_1), some (.int 1), none], [.ref 84], (HD, m_1, w_1, mr))) rfl ?_
        refine wp_calv (as := []) rfl rfl rfl (Nat.le_of_ble_eq_true rfl) ⟨by decide, rfl⟩ ((r_next (ml := w_1) hM g1 hnn (by rw [← g1.T, e1]; decide))) (by omega) ?_
        rintro _ _ ⟨rfl, m_3, w_3, rfl, f3, g3⟩
        show aWP _ _ (55, [some (.ref 84), some (.int v_1), some (.int 1), none], [], (HD, m_3, w_3, mr)) _
        skip
        · skip
          refine wp_steps 1 (t' := (56, [some (.ref 84), some (.int v_1), some (.int 1), none], [.ref 84], (HD, m_3, w_3, mr))) rfl ?_
          refine wp_calv (as := []) rfl rfl rfl (Nat.le_of_ble_eq_true rfl) ⟨by decide, rfl⟩ ((hsub _ _ _ g3 ((hnm.fr f1).fr f3))) (by omega) ?_
          rintro _ _ ⟨v_4, m_4, w_4, rfl, rfl, f4, r4⟩
          show aWP _ _ (57, [some (.ref 84), some (.int v_1), some (.int 1), none], [.int v_4], (HD, m_4, w_4, mr)) _
          by_cases hF2 : (sub (stP b n (sub s).2)).1 = true
          · obtain ⟨g4, go4⟩ := r4.1 hF2
            refine wp_steps 2 (t' := (59, [some (.ref 84), some (.int v_1), some (.int 1), some (.int v_4)], [.int 1], (HD, m_4, w_4, mr))) rfl ?_
            refine wp_bI rfl (fun c_4 => ?_) (fun c_4 => ?_)
            · have c_4 : (1 : Int32) = 0 := of_decide_eq_true c_4
              exact absurd c_4 (by decide)
            have c_4 : ¬ ((1 : Int32) = 0) := of_decide_eq_false c_4
            refine wp_steps 2 (t' := (62, [some (.ref 84), some (.int v_1), some (.int 1), some (.int v_4)], [.int v_4, .int v_1], (HD, m_4, w_4, mr))) rfl ?_
            refine wp_bC rfl (fun c_5 => ?_) (fun c_5 => ?_)
            · have c_5 : v_4 ≤ v_1 := of_decide_eq_true c_5
              refine wp_steps 1 (t' := (70, [some (.ref 84), some (.int v_1), some (.int 1), some (.int v_4)], [.int 0], (HD, m_4, w_4, mr))) rfl ?_
              refine wp_ret rfl rfl ⟨⟨Nat.le_refl _, Nat.le_refl _⟩, ?_⟩
              have eN := nt_l (b := b) (n := n) (deep := (some q)) (like := liF b n sub) nT
              have eo : (if (sub s).2.2.2.1 = 60 then (-14 : Int32) else -15) = -14 := by rw [e1]; rfl
              obtain ⟨k1, k2, k3⟩ := GO_bi (c := -14) h.2.2.1.2.2.2.2 g1 (by rw [e1]; decide) (go1.wk (by decide)) g4 go4 (by decide) (by decide)
              have ev : pfJ (-14) v_1 v_4 = 0 := by simp [pfJ, Int32.not_lt.mpr c_5]
              rw [ev] at k2
              refine ⟨_, _, _, rfl, rfl, (f1.tr f3).tr f4, ?_⟩
              rw [eN, li_ok hF (Or.inl e1), if_pos hF2, eo]
              exact ⟨fun _ => ⟨k1, k2⟩, fun z => Bool.noConfusion z⟩
            · have c_5 : ¬ (v_4 ≤ v_1) := of_decide_eq_false c_5
              refine wp_steps 3 (t' := (70, [some (.ref 84), some (.int v_1), some (.int 1), some (.int v_4)], [.int 1], (HD, m_4, w_4, mr))) rfl ?_
              refine wp_ret rfl rfl ⟨⟨Nat.le_refl _, Nat.le_refl _⟩, ?_⟩
              have eN := nt_l (b := b) (n := n) (deep := (some q)) (like := liF b n sub) nT
              have eo : (if (sub s).2.2.2.1 = 60 then (-14 : Int32) else -15) = -14 := by rw [e1]; rfl
              obtain ⟨k1, k2, k3⟩ := GO_bi (c := -14) h.2.2.1.2.2.2.2 g1 (by rw [e1]; decide) (go1.wk (by decide)) g4 go4 (by decide) (by decide)
              have ev : pfJ (-14) v_1 v_4 = 1 := by simp [pfJ, Int32.not_le.mp c_5]
              rw [ev] at k2
              refine ⟨_, _, _, rfl, rfl, (f1.tr f3).tr f4, ?_⟩
              rw [eN, li_ok hF (Or.inl e1), if_pos hF2, eo]
              exact ⟨fun _ => ⟨k1, k2⟩, fun z => Bool.noConfusion z⟩
          · have g4 := r4.2 (Bool.eq_false_iff.mpr hF2)
            refine wp_steps 2 (t' := (59, [some (.ref 84), some (.int v_1), some (.int 1), some (.int v_4)], [.int 1], (HD, m_4, w_4, mr))) rfl ?_
            refine wp_bI rfl (fun c_6 => ?_) (fun c_6 => ?_)
            · have c_6 : (1 : Int32) = 0 := of_decide_eq_true c_6
              exact absurd c_6 (by decide)
            have c_6 : ¬ ((1 : Int32) = 0) := of_decide_eq_false c_6
            refine wp_steps 2 (t' := (62, [some (.ref 84), some (.int v_1), some (.int 1), some (.int v_4)], [.int v_4, .int v_1], (HD, m_4, w_4, mr))) rfl ?_
            refine wp_bC rfl (fun c_7 => ?_) (fun c_7 => ?_)
            · have c_7 : v_4 ≤ v_1 := of_decide_eq_true c_7
              refine wp_steps 1 (t' := (70, [some (.ref 84), some (.int v_1), some (.int 1), some (.int v_4)], [.int 0], (HD, m_4, w_4, mr))) rfl ?_
              refine wp_ret rfl rfl ⟨⟨Nat.le_refl _, Nat.le_refl _⟩, ?_⟩
              have eN := nt_l (b := b) (n := n) (deep := (some q)) (like := liF b n sub) nT
              refine ⟨_, _, _, rfl, rfl, (f1.tr f3).tr f4, ?_⟩
              rw [eN, li_ok hF (Or.inl e1), if_neg hF2]
              exact ⟨fun z => Bool.noConfusion z, fun _ => g4⟩
            · have c_7 : ¬ (v_4 ≤ v_1) := of_decide_eq_false c_7
              refine wp_steps 3 (t' := (70, [some (.ref 84), some (.int v_1), some (.int 1), some (.int v_4)], [.int 1], (HD, m_4, w_4, mr))) rfl ?_
              refine wp_ret rfl rfl ⟨⟨Nat.le_refl _, Nat.le_refl _⟩, ?_⟩
              have eN := nt_l (b := b) (n := n) (deep := (some q)) (like := liF b n sub) nT
              refine ⟨_, _, _, rfl, rfl, (f1.tr f3).tr f4, ?_⟩
              rw [eN, li_ok hF (Or.inl e1), if_neg hF2]
              exact ⟨fun z => Bool.noConfusion z, fun _ => g4⟩
      · have c_2 : (if (sub s).2.2.2.1 = 60 then (1 : Int32) else 0) = 0 := Decidable.not_not.mp (of_decide_eq_false c_2)
        refine wp_steps 2 (t' := (40, [some (.ref 84), some (.int v_1), none, none], [.int 61, .ref 84], (HD, m_1, w_1, mr))) rfl ?_
        refine wp_calv (as := [.int 61]) rfl rfl rfl (Nat.le_of_ble_eq_true rfl) ⟨by decide, rfl⟩ ((r_sign (ml := w_1) hM g1 (c := 61) (by decide))) (by omega) ?_
        rintro _ _ ⟨rfl, rfl⟩
        show aWP _ _ (41, [some (.ref 84), some (.int v_1), none, none], [.int (if (sub s).2.2.2.1 = 61 then (1 : Int32) else 0)], (HD, m_1, w_1, mr)) _
        refine wp_bI rfl (fun c_8 => ?_) (fun c_8 => ?_)
        · have c_8 : ¬ (if (sub s).2.2.2.1 = 61 then (1 : Int32) else 0) = 0 := of_decide_eq_true c_8
          refine wp_steps 1 (t' := (45, [some (.ref 84), some (.int v_1), none, none], [.ref 84], (HD, m_1, w_1, mr))) rfl ?_
          refine wp_getl rfl ⟨by decide, rfl⟩ rfl ?_
          have e1 : (sub s).2.2.2.1 = 61 := i0_t c_8
          rw [show w_1 84 24 = (61 : Int32).toInt64 from g1.sg (by decide) e1]
          refine wp_steps 2 (t' := (48, [some (.ref 84), some (.int v_1), none, none], [.int (lg_cmp ((61 : Int32).toInt64) 60)], (HD, m_1, w_1, mr))) rfl ?_
          refine wp_bI rfl (fun c_9 => ?_) (fun c_9 => ?_)
          rotate_left
          · have c_9 : (lg_cmp ((61 : Int32).toInt64) 60) = 0 := Decidable.not_not.mp (of_decide_eq_false c_9)
            exact absurd ((lg_cmp_eq _ _).mp c_9) (by decide)
          have c_9 : ¬ (lg_cmp ((61 : Int32).toInt64) 60) = 0 := of_decide_eq_true c_9
          refine wp_steps 3 (t' := (54, [some (.ref 84), some (.int v_1), some (.int 0), none], [.ref 84], (HD, m_1, w_1, mr))) rfl ?_
          refine wp_calv (as := []) rfl rfl rfl (Nat.le_of_ble_eq_true rfl) ⟨by decide, rfl⟩ ((r_next (ml := w_1) hM g1 hnn (by rw [← g1.T, e1]; decide))) (by omega) ?_
          rintro _ _ ⟨rfl, m_3, w_3, rfl, f3, g3⟩
          show aWP _ _ (55, [some (.ref 84), some (.int v_1), some (.int 0), none], [], (HD, m_3, w_3, mr)) _
          skip
          · skip
            refine wp_steps 1 (t' := (56, [some (.ref 84), some (.int v_1), some (.int 0), none], [.ref 84], (HD, m_3, w_3, mr))) rfl ?_
            refine wp_calv (as := []) rfl rfl rfl (Nat.le_of_ble_eq_true rfl) ⟨by decide, rfl⟩ ((hsub _ _ _ g3 ((hnm.fr f1).fr f3))) (by omega) ?_
            rintro _ _ ⟨v_4, m_4, w_4, rfl, rfl, f4, r4⟩
            show aWP _ _ (57, [some (.ref 84), some (.int v_1), some (.int 0), none], [.int v_4], (HD, m_4, w_4, mr)) _
            by_cases hF2 : (sub (stP b n (sub s).2)).1 = true
            · obtain ⟨g4, go4⟩ := r4.1 hF2
              refine wp_steps 2 (t' := (59, [some (.ref 84), some (.int v_1), some (.int 0), some (.int v_4)], [.int 0], (HD, m_4, w_4, mr))) rfl ?_
              refine wp_bI rfl (fun c_10 => ?_) (fun c_10 => ?_)
              rotate_left
              · have c_10 : ¬ ((0 : Int32) = 0) := of_decide_eq_false c_10
                exact absurd c_10 (by decide)
              have c_10 : (0 : Int32) = 0 := of_decide_eq_true c_10
              refine wp_steps 2 (t' := (66, [some (.ref 84), some (.int v_1), some (.int 0), some (.int v_4)], [.int v_4, .int v_1], (HD, m_4, w_4, mr))) rfl ?_
              refine wp_bC rfl (fun c_11 => ?_) (fun c_11 => ?_)
              · have c_11 : ¬ v_1 = v_4 := of_decide_eq_true c_11
                refine wp_steps 1 (t' := (70, [some (.ref 84), some (.int v_1), some (.int 0), some (.int v_4)], [.int 0], (HD, m_4, w_4, mr))) rfl ?_
                refine wp_ret rfl rfl ⟨⟨Nat.le_refl _, Nat.le_refl _⟩, ?_⟩
                have eN := nt_l (b := b) (n := n) (deep := (some q)) (like := liF b n sub) nT
                have eo : (if (sub s).2.2.2.1 = 60 then (-14 : Int32) else -15) = -15 := by rw [e1]; rfl
                obtain ⟨k1, k2, k3⟩ := GO_bi (c := -15) h.2.2.1.2.2.2.2 g1 (by rw [e1]; decide) (go1.wk (by decide)) g4 go4 (by decide) (by decide)
                have ev : pfJ (-15) v_1 v_4 = 0 := by simp [pfJ, c_11]
                rw [ev] at k2
                refine ⟨_, _, _, rfl, rfl, (f1.tr f3).tr f4, ?_⟩
                rw [eN, li_ok hF (Or.inr e1), if_pos hF2, eo]
                exact ⟨fun _ => ⟨k1, k2⟩, fun z => Bool.noConfusion z⟩
              · have c_11 : v_1 = v_4 := Decidable.not_not.mp (of_decide_eq_false c_11)
                refine wp_steps 2 (t' := (70, [some (.ref 84), some (.int v_1), some (.int 0), some (.int v_4)], [.int 1], (HD, m_4, w_4, mr))) rfl ?_
                refine wp_ret rfl rfl ⟨⟨Nat.le_refl _, Nat.le_refl _⟩, ?_⟩
                have eN := nt_l (b := b) (n := n) (deep := (some q)) (like := liF b n sub) nT
                have eo : (if (sub s).2.2.2.1 = 60 then (-14 : Int32) else -15) = -15 := by rw [e1]; rfl
                obtain ⟨k1, k2, k3⟩ := GO_bi (c := -15) h.2.2.1.2.2.2.2 g1 (by rw [e1]; decide) (go1.wk (by decide)) g4 go4 (by decide) (by decide)
                have ev : pfJ (-15) v_1 v_4 = 1 := by simp [pfJ, c_11]
                rw [ev] at k2
                refine ⟨_, _, _, rfl, rfl, (f1.tr f3).tr f4, ?_⟩
                rw [eN, li_ok hF (Or.inr e1), if_pos hF2, eo]
                exact ⟨fun _ => ⟨k1, k2⟩, fun z => Bool.noConfusion z⟩
            · have g4 := r4.2 (Bool.eq_false_iff.mpr hF2)
              refine wp_steps 2 (t' := (59, [some (.ref 84), some (.int v_1), some (.int 0), some (.int v_4)], [.int 0], (HD, m_4, w_4, mr))) rfl ?_
              refine wp_bI rfl (fun c_12 => ?_) (fun c_12 => ?_)
              rotate_left
              · have c_12 : ¬ ((0 : Int32) = 0) := of_decide_eq_false c_12
                exact absurd c_12 (by decide)
              have c_12 : (0 : Int32) = 0 := of_decide_eq_true c_12
              refine wp_steps 2 (t' := (66, [some (.ref 84), some (.int v_1), some (.int 0), some (.int v_4)], [.int v_4, .int v_1], (HD, m_4, w_4, mr))) rfl ?_
              refine wp_bC rfl (fun c_13 => ?_) (fun c_13 => ?_)
              · have c_13 : ¬ v_1 = v_4 := of_decide_eq_true c_13
                refine wp_steps 1 (t' := (70, [some (.ref 84), some (.int v_1), some (.int 0), some (.int v_4)], [.int 0], (HD, m_4, w_4, mr))) rfl ?_
                refine wp_ret rfl rfl ⟨⟨Nat.le_refl _, Nat.le_refl _⟩, ?_⟩
                have eN := nt_l (b := b) (n := n) (deep := (some q)) (like := liF b n sub) nT
                refine ⟨_, _, _, rfl, rfl, (f1.tr f3).tr f4, ?_⟩
                rw [eN, li_ok hF (Or.inr e1), if_neg hF2]
                exact ⟨fun z => Bool.noConfusion z, fun _ => g4⟩
              · have c_13 : v_1 = v_4 := Decidable.not_not.mp (of_decide_eq_false c_13)
                refine wp_steps 2 (t' := (70, [some (.ref 84), some (.int v_1), some (.int 0), some (.int v_4)], [.int 1], (HD, m_4, w_4, mr))) rfl ?_
                refine wp_ret rfl rfl ⟨⟨Nat.le_refl _, Nat.le_refl _⟩, ?_⟩
                have eN := nt_l (b := b) (n := n) (deep := (some q)) (like := liF b n sub) nT
                refine ⟨_, _, _, rfl, rfl, (f1.tr f3).tr f4, ?_⟩
                rw [eN, li_ok hF (Or.inr e1), if_neg hF2]
                exact ⟨fun z => Bool.noConfusion z, fun _ => g4⟩
        · have c_8 : (if (sub s).2.2.2.1 = 61 then (1 : Int32) else 0) = 0 := Decidable.not_not.mp (of_decide_eq_false c_8)
          refine wp_steps 1 (t' := (43, [some (.ref 84), some (.int v_1), none, none], [.int v_1], (HD, m_1, w_1, mr))) rfl ?_
          refine wp_ret rfl rfl ⟨⟨Nat.le_refl _, Nat.le_refl _⟩, ?_⟩
          have eN := nt_l (b := b) (n := n) (deep := (some q)) (like := liF b n sub) nT
          refine ⟨_, _, _, rfl, rfl, f1, ?_⟩
          rw [eN, li_no hF (i0_f c_2) (i0_f c_8)]
          exact ⟨fun _ => ⟨g1, go1.wk (by decide)⟩, fun z => Bool.noConfusion z⟩
    · have g1 := r1.2 (Bool.eq_false_iff.mpr hF)
      refine wp_steps 3 (t' := (36, [some (.ref 84), some (.int v_1), none, none], [.int 60, .ref 84], (HD, m_1, w_1, mr))) rfl ?_
      refine wp_calv (as := [.int 60]) rfl rfl rfl (Nat.le_of_ble_eq_true rfl) ⟨by decide, rfl⟩ ((r_sign_b (ml := w_1) (mr := mr) g1.b (c := 60))) (by omega) ?_
      rintro _ _ ⟨rfl, rfl⟩
      show aWP _ _ (37, [some (.ref 84), some (.int v_1), none, none], [.int 0], (HD, m_1, w_1, mr)) _
      refine wp_bI rfl (fun c_14 => ?_) (fun c_14 => ?_)
      · have c_14 : ¬ (0 : Int32) = 0 := of_decide_eq_true c_14
        exact absurd c_14 (by decide)
      have c_14 : (0 : Int32) = 0 := Decidable.not_not.mp (of_decide_eq_false c_14)
      refine wp_steps 2 (t' := (40, [some (.ref 84), some (.int v_1), none, none], [.int 61, .ref 84], (HD, m_1, w_1, mr))) rfl ?_
      refine wp_calv (as := [.int 61]) rfl rfl rfl (Nat.le_of_ble_eq_true rfl) ⟨by decide, rfl⟩ ((r_sign_b (ml := w_1) (mr := mr) g1.b (c := 61))) (by omega) ?_
      rintro _ _ ⟨rfl, rfl⟩
      show aWP _ _ (41, [some (.ref 84), some (.int v_1), none, none], [.int 0], (HD, m_1, w_1, mr)) _
      refine wp_bI rfl (fun c_15 => ?_) (fun c_15 => ?_)
      · have c_15 : ¬ (0 : Int32) = 0 := of_decide_eq_true c_15
        exact absurd c_15 (by decide)
      have c_15 : (0 : Int32) = 0 := Decidable.not_not.mp (of_decide_eq_false c_15)
      refine wp_steps 1 (t' := (43, [some (.ref 84), some (.int v_1), none, none], [.int v_1], (HD, m_1, w_1, mr))) rfl ?_
      refine wp_ret rfl rfl ⟨⟨Nat.le_refl _, Nat.le_refl _⟩, ?_⟩
      have eN := nt_l (b := b) (n := n) (deep := (some q)) (like := liF b n sub) nT
      refine ⟨_, _, _, rfl, rfl, f1, ?_⟩
      rw [eN, li_ba hF]
      exact ⟨fun z => Bool.noConfusion z, fun _ => g1⟩
  · have c_1 : ¬ ((if s.2.2.1 = 8 then (1 : Int32) else 0) = 0) := of_decide_eq_false c_1
    refine wp_steps 1 (t' := (12, [some (.ref 84), none, none, none], [.ref 84], (HD, m, w, mr))) rfl ?_
    refine wp_calv (as := []) rfl rfl rfl (Nat.le_of_ble_eq_true rfl) ⟨by decide, rfl⟩ ((r_opens (ml := w) hM h hnn (by rw [← h.T, i0_t c_1]; decide) (by decide))) (by omega) ?_
    rintro _ _ ⟨rfl, m_1, w_1, rfl, f1, g1⟩
    have eT : s.2.2.1 = 8 := i0_t c_1
    show aWP _ _ (13, [some (.ref 84), none, none, none], [.int 1], (HD, m_1, w_1, mr)) _
    skip
    · skip
      refine wp_bI rfl (fun c_16 => ?_) (fun c_16 => ?_)
      rotate_left
      · have c_16 : (1 : Int32) = 0 := Decidable.not_not.mp (of_decide_eq_false c_16)
        exact absurd c_16 (by decide)
      have c_16 : ¬ (1 : Int32) = 0 := of_decide_eq_true c_16
      refine wp_steps 1 (t' := (17, [some (.ref 84), none, none, none], [.ref 84], (HD, m_1, w_1, mr))) rfl ?_
      refine wp_calv (as := []) rfl rfl rfl (Nat.le_of_ble_eq_true rfl) ⟨by decide, rfl⟩ ((h2 _ _ _ g1 (hnm.fr f1))) (by omega) ?_
      rintro _ _ ⟨v_2, m_2, w_2, rfl, rfl, f2, r2⟩
      show aWP _ _ (18, [some (.ref 84), none, none, none], [.int v_2], (HD, m_2, w_2, mr)) _
      by_cases hF : (q.2.1 (stP b n s)).1 = true
      · obtain ⟨g2, go2⟩ := r2.1 hF
        refine wp_steps 3 (t' := (21, [some (.ref 84), some (.int v_2), none, none], [.ref 84, .ref 84], (HD, m_2, w_2, mr))) rfl ?_
        refine wp_geti rfl ⟨by decide, rfl⟩ (Or.inl rfl) ?_
        refine wp_steps 2 (t' := (24, [some (.ref 84), some (.int v_2), none, none], [.int ((m_2 84 25) - 1), .ref 84], (HD, m_2, w_2, mr))) rfl ?_
        rw [show m_2 84 25 - 1 = nI 3 from by rw [g2.2.2.2.1]; exact nI_pred 3]
        refine wp_puti rfl ⟨by decide, rfl⟩ rfl (fun m_17 h_18 => ?_)
        subst h_18
        refine wp_steps 1 (t' := (26, [some (.ref 84), some (.int v_2), none, none], [.int v_2], (HD, (aup m_2 84 25 (nI 3)), w_2, mr))) rfl ?_
        refine wp_bI rfl (fun c_19 => ?_) (fun c_19 => ?_)
        · have c_19 : ¬ v_2 = 0 := of_decide_eq_true c_19
          refine wp_steps 1 (t' := (30, [some (.ref 84), some (.int v_2), none, none], [.int 0], (HD, (aup m_2 84 25 (nI 3)), w_2, mr))) rfl ?_
          refine wp_ret rfl rfl ⟨⟨Nat.le_refl _, Nat.le_refl _⟩, ?_⟩
          have e := nt_s (b := b) (n := n) (q := q) (like := liF b n sub) eT
          rw [if_pos hF] at e
          obtain ⟨k1, k2⟩ := GO_un h (by rw [eT]; decide) g2 go2 (Or.inl (rfl : (-13 : Int32) = -13))
          have ev : pfU (-13) v_2 = 0 := by simp [pfU, c_19]
          rw [ev] at k2
          refine ⟨_, _, _, rfl, rfl, (f1.tr f2).tr (frR.up (by decide) (by decide) _), ?_⟩
          rw [e]
          exact ⟨fun _ => ⟨k1.op 3, k2.wk (by decide)⟩, fun z => Bool.noConfusion z⟩
        · have c_19 : v_2 = 0 := Decidable.not_not.mp (of_decide_eq_false c_19)
          refine wp_steps 2 (t' := (30, [some (.ref 84), some (.int v_2), none, none], [.int 1], (HD, (aup m_2 84 25 (nI 3)), w_2, mr))) rfl ?_
          refine wp_ret rfl rfl ⟨⟨Nat.le_refl _, Nat.le_refl _⟩, ?_⟩
          have e := nt_s (b := b) (n := n) (q := q) (like := liF b n sub) eT
          rw [if_pos hF] at e
          obtain ⟨k1, k2⟩ := GO_un h (by rw [eT]; decide) g2 go2 (Or.inl (rfl : (-13 : Int32) = -13))
          have ev : pfU (-13) v_2 = 1 := by simp [pfU, c_19]
          rw [ev] at k2
          refine ⟨_, _, _, rfl, rfl, (f1.tr f2).tr (frR.up (by decide) (by decide) _), ?_⟩
          rw [e]
          exact ⟨fun _ => ⟨k1.op 3, k2.wk (by decide)⟩, fun z => Bool.noConfusion z⟩
      · have g2 := r2.2 (Bool.eq_false_iff.mpr hF)
        refine wp_steps 3 (t' := (21, [some (.ref 84), some (.int v_2), none, none], [.ref 84, .ref 84], (HD, m_2, w_2, mr))) rfl ?_
        refine wp_geti rfl ⟨by decide, rfl⟩ (Or.inl rfl) ?_
        refine wp_steps 2 (t' := (24, [some (.ref 84), some (.int v_2), none, none], [.int ((m_2 84 25) - 1), .ref 84], (HD, m_2, w_2, mr))) rfl ?_
        refine wp_puti rfl ⟨by decide, rfl⟩ rfl (fun m_20 h_21 => ?_)
        subst h_21
        refine wp_steps 1 (t' := (26, [some (.ref 84), some (.int v_2), none, none], [.int v_2], (HD, (aup m_2 84 25 ((m_2 84 25) - 1)), w_2, mr))) rfl ?_
        refine wp_bI rfl (fun c_22 => ?_) (fun c_22 => ?_)
        · have c_22 : ¬ v_2 = 0 := of_decide_eq_true c_22
          refine wp_steps 1 (t' := (30, [some (.ref 84), some (.int v_2), none, none], [.int 0], (HD, (aup m_2 84 25 ((m_2 84 25) - 1)), w_2, mr))) rfl ?_
          refine wp_ret rfl rfl ⟨⟨Nat.le_refl _, Nat.le_refl _⟩, ?_⟩
          have e := nt_s (b := b) (n := n) (q := q) (like := liF b n sub) eT
          rw [if_neg hF] at e
          refine ⟨_, _, _, rfl, rfl, (f1.tr f2).tr (frR.up (by decide) (by decide) _), ?_⟩
          rw [e]
          exact ⟨fun z => Bool.noConfusion z, fun _ => g2.up _⟩
        · have c_22 : v_2 = 0 := Decidable.not_not.mp (of_decide_eq_false c_22)
          refine wp_steps 2 (t' := (30, [some (.ref 84), some (.int v_2), none, none], [.int 1], (HD, (aup m_2 84 25 ((m_2 84 25) - 1)), w_2, mr))) rfl ?_
          refine wp_ret rfl rfl ⟨⟨Nat.le_refl _, Nat.le_refl _⟩, ?_⟩
          have e := nt_s (b := b) (n := n) (q := q) (like := liF b n sub) eT
          rw [if_neg hF] at e
          refine ⟨_, _, _, rfl, rfl, (f1.tr f2).tr (frR.up (by decide) (by decide) _), ?_⟩
          rw [e]
          exact ⟨fun z => Bool.noConfusion z, fun _ => g2.up _⟩
set_option maxRecDepth 20000 in
set_option maxHeartbeats 1000000 in
theorem r_not2 {X : aXt × Value} {mr : Nat → Nat → Option Nat} (hM : MRok mr) {b : Nat → Int32} {n t : Nat} (hnn : nnB b n) {nm : Nat → Int32} {d : Nat} (hd : 4 ≤ d) {sub : pF} (hsub : cwR X mr b n t 2 nm d 153 18 sub) {q : pF × pF × pF} (h2 : cwR X mr b n t 3 nm d 148 14 q.2.1) : cwR X mr b n t 2 nm (d + 1) 154 19 (ntF b n (some q) (liF b n sub)) := by
  intro m w s h hnm
  refine cw_of (cd := cd_X7_not2) (nL := 4) rfl rfl ?_
  show aWP _ _ (0, [some (.ref 84), none, none, none], [], (HD, m, w, mr)) _
  refine wp_steps 9 (t' := (9, [some (.ref 84), none, none, none], [.int 0, .int 0, .int 0, .int 0, .int 0, .int 116, .int 111, .int 110, .ref 84], (HD, m, w, mr))) rfl ?_
  refine wp_calv (as := [.int 110, .int 111, .int 116, .int 0, .int 0, .int 0, .int 0, .int 0]) rfl rfl rfl (Nat.le_of_ble_eq_true rfl) ⟨by decide, rfl⟩ ((rw_not (ml := w) hM h)) (by omega) ?_
  rintro _ _ ⟨rfl, rfl⟩
  show aWP _ _ (10, [some (.ref 84), none, none, none], [.int (if s.2.2.1 = 8 then (1 : Int32) else 0)], (HD, m, w, mr)) _
  refine wp_bI rfl (fun c_1 => ?_) (fun c_1 => ?_)
  · have c_1 : (if s.2.2.1 = 8 then (1 : Int32) else 0) = 0 := of_decide_eq_true c_1
    refine wp_steps 1 (t' := (32, [some (.ref 84), none, none, none], [.ref 84], (HD, m, w, mr))) rfl ?_
    refine wp_calv (as := []) rfl rfl rfl (Nat.le_of_ble_eq_true rfl) ⟨by decide, rfl⟩ ((hsub _ _ _ h hnm)) (by omega) ?_
    rintro _ _ ⟨v_1, m_1, w_1, rfl, rfl, f1, r1⟩
    have nT : ¬ s.2.2.1 = 8 := i0_f c_1
    show aWP _ _ (33, [some (.ref 84), none, none, none], [.int v_1], (HD, m_1, w_1, mr)) _
    by_cases hF : (sub s).1 = true
    · obtain ⟨g1, go1⟩ := r1.1 hF
      refine wp_steps 3 (t' := (36, [some (.ref 84), some (.int v_1), none, none], [.int 60, .ref 84], (HD, m_1, w_1, mr))) rfl ?_
      refine wp_calv (as := [.int 60]) rfl rfl rfl (Nat.le_of_ble_eq_true rfl) ⟨by decide, rfl⟩ ((r_sign (ml := w_1) hM g1 (c := 60) (by decide))) (by omega) ?_
      rintro _ _ ⟨rfl, rfl⟩
      show aWP _ _ (37, [some (.ref 84), some (.int v_1), none, none], [.int (if (sub s).2.2.2.1 = 60 then (1 : Int32) else 0)], (HD, m_1, w_1, mr)) _
      refine wp_bI rfl (fun c_2 => ?_) (fun c_2 => ?_)
      · have c_2 : ¬ (if (sub s).2.2.2.1 = 60 then (1 : Int32) else 0) = 0 := of_decide_eq_true c_2
        refine wp_steps 1 (t' := (45, [some (.ref 84), some (.int v_1), none, none], [.ref 84], (HD, m_1, w_1, mr))) rfl ?_
        refine wp_getl rfl ⟨by decide, rfl⟩ rfl ?_
        have e1 : (sub s).2.2.2.1 = 60 := i0_t c_2
        rw [show w_1 84 24 = (60 : Int32).toInt64 from g1.sg (by decide) e1]
        refine wp_steps 2 (t' := (48, [some (.ref 84), some (.int v_1), none, none], [.int (lg_cmp ((60 : Int32).toInt64) 60)], (HD, m_1, w_1, mr))) rfl ?_
        refine wp_bI rfl (fun c_3 => ?_) (fun c_3 => ?_)
        · have c_3 : ¬ (lg_cmp ((60 : Int32).toInt64) 60) = 0 := of_decide_eq_true c_3
          exact absurd ((lg_cmp_eq _ _).mpr (by decide)) c_3
        have c_3 : (lg_cmp ((60 : Int32).toInt64) 60) = 0 := Decidable.not_not.mp (of_decide_eq_false c_3)
        refine wp_steps 4 (t' := (54, [some (.ref 84), some (.int v_1), some (.int 1), none], [.ref 84], (HD, m_1, w_1, mr))) rfl ?_
        refine wp_calv (as := []) rfl rfl rfl (Nat.le_of_ble_eq_true rfl) ⟨by decide, rfl⟩ ((r_next (ml := w_1) hM g1 hnn (by rw [← g1.T, e1]; decide))) (by omega) ?_
        rintro _ _ ⟨rfl, m_3, w_3, rfl, f3, g3⟩
        show aWP _ _ (55, [some (.ref 84), some (.int v_1), some (.int 1), none], [], (HD, m_3, w_3, mr)) _
        skip
        · skip
          refine wp_steps 1 (t' := (56, [some (.ref 84), some (.int v_1), some (.int 1), none], [.ref 84], (HD, m_3, w_3, mr))) rfl ?_
          refine wp_calv (as := []) rfl rfl rfl (Nat.le_of_ble_eq_true rfl) ⟨by decide, rfl⟩ ((hsub _ _ _ g3 ((hnm.fr f1).fr f3))) (by omega) ?_
          rintro _ _ ⟨v_4, m_4, w_4, rfl, rfl, f4, r4⟩
          show aWP _ _ (57, [some (.ref 84), some (.int v_1), some (.int 1), none], [.int v_4], (HD, m_4, w_4, mr)) _
          by_cases hF2 : (sub (stP b n (sub s).2)).1 = true
          · obtain ⟨g4, go4⟩ := r4.1 hF2
            refine wp_steps 2 (t' := (59, [some (.ref 84), some (.int v_1), some (.int 1), some (.int v_4)], [.int 1], (HD, m_4, w_4, mr))) rfl ?_
            refine wp_bI rfl (fun c_4 => ?_) (fun c_4 => ?_)
            · have c_4 : (1 : Int32) = 0 := of_decide_eq_true c_4
              exact absurd c_4 (by decide)
            have c_4 : ¬ ((1 : Int32) = 0) := of_decide_eq_false c_4
            refine wp_steps 2 (t' := (62, [some (.ref 84), some (.int v_1), some (.int 1), some (.int v_4)], [.int v_4, .int v_1], (HD, m_4, w_4, mr))) rfl ?_
            refine wp_bC rfl (fun c_5 => ?_) (fun c_5 => ?_)
            · have c_5 : v_4 ≤ v_1 := of_decide_eq_true c_5
              refine wp_steps 1 (t' := (70, [some (.ref 84), some (.int v_1), some (.int 1), some (.int v_4)], [.int 0], (HD, m_4, w_4, mr))) rfl ?_
              refine wp_ret rfl rfl ⟨⟨Nat.le_refl _, Nat.le_refl _⟩, ?_⟩
              have eN := nt_l (b := b) (n := n) (deep := (some q)) (like := liF b n sub) nT
              have eo : (if (sub s).2.2.2.1 = 60 then (-14 : Int32) else -15) = -14 := by rw [e1]; rfl
              obtain ⟨k1, k2, k3⟩ := GO_bi (c := -14) h.2.2.1.2.2.2.2 g1 (by rw [e1]; decide) (go1.wk (by decide)) g4 go4 (by decide) (by decide)
              have ev : pfJ (-14) v_1 v_4 = 0 := by simp [pfJ, Int32.not_lt.mpr c_5]
              rw [ev] at k2
              refine ⟨_, _, _, rfl, rfl, (f1.tr f3).tr f4, ?_⟩
              rw [eN, li_ok hF (Or.inl e1), if_pos hF2, eo]
              exact ⟨fun _ => ⟨k1, k2⟩, fun z => Bool.noConfusion z⟩
            · have c_5 : ¬ (v_4 ≤ v_1) := of_decide_eq_false c_5
              refine wp_steps 3 (t' := (70, [some (.ref 84), some (.int v_1), some (.int 1), some (.int v_4)], [.int 1], (HD, m_4, w_4, mr))) rfl ?_
              refine wp_ret rfl rfl ⟨⟨Nat.le_refl _, Nat.le_refl _⟩, ?_⟩
              have eN := nt_l (b := b) (n := n) (deep := (some q)) (like := liF b n sub) nT
              have eo : (if (sub s).2.2.2.1 = 60 then (-14 : Int32) else -15) = -14 := by rw [e1]; rfl
              obtain ⟨k1, k2, k3⟩ := GO_bi (c := -14) h.2.2.1.2.2.2.2 g1 (by rw [e1]; decide) (go1.wk (by decide)) g4 go4 (by decide) (by decide)
              have ev : pfJ (-14) v_1 v_4 = 1 := by simp [pfJ, Int32.not_le.mp c_5]
              rw [ev] at k2
              refine ⟨_, _, _, rfl, rfl, (f1.tr f3).tr f4, ?_⟩
              rw [eN, li_ok hF (Or.inl e1), if_pos hF2, eo]
              exact ⟨fun _ => ⟨k1, k2⟩, fun z => Bool.noConfusion z⟩
          · have g4 := r4.2 (Bool.eq_false_iff.mpr hF2)
            refine wp_steps 2 (t' := (59, [some (.ref 84), some (.int v_1), some (.int 1), some (.int v_4)], [.int 1], (HD, m_4, w_4, mr))) rfl ?_
            refine wp_bI rfl (fun c_6 => ?_) (fun c_6 => ?_)
            · have c_6 : (1 : Int32) = 0 := of_decide_eq_true c_6
              exact absurd c_6 (by decide)
            have c_6 : ¬ ((1 : Int32) = 0) := of_decide_eq_false c_6
            refine wp_steps 2 (t' := (62, [some (.ref 84), some (.int v_1), some (.int 1), some (.int v_4)], [.int v_4, .int v_1], (HD, m_4, w_4, mr))) rfl ?_
            refine wp_bC rfl (fun c_7 => ?_) (fun c_7 => ?_)
            · have c_7 : v_4 ≤ v_1 := of_decide_eq_true c_7
              refine wp_steps 1 (t' := (70, [some (.ref 84), some (.int v_1), some (.int 1), some (.int v_4)], [.int 0], (HD, m_4, w_4, mr))) rfl ?_
              refine wp_ret rfl rfl ⟨⟨Nat.le_refl _, Nat.le_refl _⟩, ?_⟩
              have eN := nt_l (b := b) (n := n) (deep := (some q)) (like := liF b n sub) nT
              refine ⟨_, _, _, rfl, rfl, (f1.tr f3).tr f4, ?_⟩
              rw [eN, li_ok hF (Or.inl e1), if_neg hF2]
              exact ⟨fun z => Bool.noConfusion z, fun _ => g4⟩
            · have c_7 : ¬ (v_4 ≤ v_1) := of_decide_eq_false c_7
              refine wp_steps 3 (t' := (70, [some (.ref 84), some (.int v_1), some (.int 1), some (.int v_4)], [.int 1], (HD, m_4, w_4, mr))) rfl ?_
              refine wp_ret rfl rfl ⟨⟨Nat.le_refl _, Nat.le_refl _⟩, ?_⟩
              have eN := nt_l (b := b) (n := n) (deep := (some q)) (like := liF b n sub) nT
              refine ⟨_, _, _, rfl, rfl, (f1.tr f3).tr f4, ?_⟩
              rw [eN, li_ok hF (Or.inl e1), if_neg hF2]
              exact ⟨fun z => Bool.noConfusion z, fun _ => g4⟩
      · have c_2 : (if (sub s).2.2.2.1 = 60 then (1 : Int32) else 0) = 0 := Decidable.not_not.mp (of_decide_eq_false c_2)
        refine wp_steps 2 (t' := (40, [some (.ref 84), some (.int v_1), none, none], [.int 61, .ref 84], (HD, m_1, w_1, mr))) rfl ?_
        refine wp_calv (as := [.int 61]) rfl rfl rfl (Nat.le_of_ble_eq_true rfl) ⟨by decide, rfl⟩ ((r_sign (ml := w_1) hM g1 (c := 61) (by decide))) (by omega) ?_
        rintro _ _ ⟨rfl, rfl⟩
        show aWP _ _ (41, [some (.ref 84), some (.int v_1), none, none], [.int (if (sub s).2.2.2.1 = 61 then (1 : Int32) else 0)], (HD, m_1, w_1, mr)) _
        refine wp_bI rfl (fun c_8 => ?_) (fun c_8 => ?_)
        · have c_8 : ¬ (if (sub s).2.2.2.1 = 61 then (1 : Int32) else 0) = 0 := of_decide_eq_true c_8
          refine wp_steps 1 (t' := (45, [some (.ref 84), some (.int v_1), none, none], [.ref 84], (HD, m_1, w_1, mr))) rfl ?_
          refine wp_getl rfl ⟨by decide, rfl⟩ rfl ?_
          have e1 : (sub s).2.2.2.1 = 61 := i0_t c_8
          rw [show w_1 84 24 = (61 : Int32).toInt64 from g1.sg (by decide) e1]
          refine wp_steps 2 (t' := (48, [some (.ref 84), some (.int v_1), none, none], [.int (lg_cmp ((61 : Int32).toInt64) 60)], (HD, m_1, w_1, mr))) rfl ?_
          refine wp_bI rfl (fun c_9 => ?_) (fun c_9 => ?_)
          rotate_left
          · have c_9 : (lg_cmp ((61 : Int32).toInt64) 60) = 0 := Decidable.not_not.mp (of_decide_eq_false c_9)
            exact absurd ((lg_cmp_eq _ _).mp c_9) (by decide)
          have c_9 : ¬ (lg_cmp ((61 : Int32).toInt64) 60) = 0 := of_decide_eq_true c_9
          refine wp_steps 3 (t' := (54, [some (.ref 84), some (.int v_1), some (.int 0), none], [.ref 84], (HD, m_1, w_1, mr))) rfl ?_
          refine wp_calv (as := []) rfl rfl rfl (Nat.le_of_ble_eq_true rfl) ⟨by decide, rfl⟩ ((r_next (ml := w_1) hM g1 hnn (by rw [← g1.T, e1]; decide))) (by omega) ?_
          rintro _ _ ⟨rfl, m_3, w_3, rfl, f3, g3⟩
          show aWP _ _ (55, [some (.ref 84), some (.int v_1), some (.int 0), none], [], (HD, m_3, w_3, mr)) _
          skip
          · skip
            refine wp_steps 1 (t' := (56, [some (.ref 84), some (.int v_1), some (.int 0), none], [.ref 84], (HD, m_3, w_3, mr))) rfl ?_
            refine wp_calv (as := []) rfl rfl rfl (Nat.le_of_ble_eq_true rfl) ⟨by decide, rfl⟩ ((hsub _ _ _ g3 ((hnm.fr f1).fr f3))) (by omega) ?_
            rintro _ _ ⟨v_4, m_4, w_4, rfl, rfl, f4, r4⟩
            show aWP _ _ (57, [some (.ref 84), some (.int v_1), some (.int 0), none], [.int v_4], (HD, m_4, w_4, mr)) _
            by_cases hF2 : (sub (stP b n (sub s).2)).1 = true
            · obtain ⟨g4, go4⟩ := r4.1 hF2
              refine wp_steps 2 (t' := (59, [some (.ref 84), some (.int v_1), some (.int 0), some (.int v_4)], [.int 0], (HD, m_4, w_4, mr))) rfl ?_
              refine wp_bI rfl (fun c_10 => ?_) (fun c_10 => ?_)
              rotate_left
              · have c_10 : ¬ ((0 : Int32) = 0) := of_decide_eq_false c_10
                exact absurd c_10 (by decide)
              have c_10 : (0 : Int32) = 0 := of_decide_eq_true c_10
              refine wp_steps 2 (t' := (66, [some (.ref 84), some (.int v_1), some (.int 0), some (.int v_4)], [.int v_4, .int v_1], (HD, m_4, w_4, mr))) rfl ?_
              refine wp_bC rfl (fun c_11 => ?_) (fun c_11 => ?_)
              · have c_11 : ¬ v_1 = v_4 := of_decide_eq_true c_11
                refine wp_steps 1 (t' := (70, [some (.ref 84), some (.int v_1), some (.int 0), some (.int v_4)], [.int 0], (HD, m_4, w_4, mr))) rfl ?_
                refine wp_ret rfl rfl ⟨⟨Nat.le_refl _, Nat.le_refl _⟩, ?_⟩
                have eN := nt_l (b := b) (n := n) (deep := (some q)) (like := liF b n sub) nT
                have eo : (if (sub s).2.2.2.1 = 60 then (-14 : Int32) else -15) = -15 := by rw [e1]; rfl
                obtain ⟨k1, k2, k3⟩ := GO_bi (c := -15) h.2.2.1.2.2.2.2 g1 (by rw [e1]; decide) (go1.wk (by decide)) g4 go4 (by decide) (by decide)
                have ev : pfJ (-15) v_1 v_4 = 0 := by simp [pfJ, c_11]
                rw [ev] at k2
                refine ⟨_, _, _, rfl, rfl, (f1.tr f3).tr f4, ?_⟩
                rw [eN, li_ok hF (Or.inr e1), if_pos hF2, eo]
                exact ⟨fun _ => ⟨k1, k2⟩, fun z => Bool.noConfusion z⟩
              · have c_11 : v_1 = v_4 := Decidable.not_not.mp (of_decide_eq_false c_11)
                refine wp_steps 2 (t' := (70, [some (.ref 84), some (.int v_1), some (.int 0), some (.int v_4)], [.int 1], (HD, m_4, w_4, mr))) rfl ?_
                refine wp_ret rfl rfl ⟨⟨Nat.le_refl _, Nat.le_refl _⟩, ?_⟩
                have eN := nt_l (b := b) (n := n) (deep := (some q)) (like := liF b n sub) nT
                have eo : (if (sub s).2.2.2.1 = 60 then (-14 : Int32) else -15) = -15 := by rw [e1]; rfl
                obtain ⟨k1, k2, k3⟩ := GO_bi (c := -15) h.2.2.1.2.2.2.2 g1 (by rw [e1]; decide) (go1.wk (by decide)) g4 go4 (by decide) (by decide)
                have ev : pfJ (-15) v_1 v_4 = 1 := by simp [pfJ, c_11]
                rw [ev] at k2
                refine ⟨_, _, _, rfl, rfl, (f1.tr f3).tr f4, ?_⟩
                rw [eN, li_ok hF (Or.inr e1), if_pos hF2, eo]
                exact ⟨fun _ => ⟨k1, k2⟩, fun z => Bool.noConfusion z⟩
            · have g4 := r4.2 (Bool.eq_false_iff.mpr hF2)
              refine wp_steps 2 (t' := (59, [some (.ref 84), some (.int v_1), some (.int 0), some (.int v_4)], [.int 0], (HD, m_4, w_4, mr))) rfl ?_
              refine wp_bI rfl (fun c_12 => ?_) (fun c_12 => ?_)
              rotate_left
              · have c_12 : ¬ ((0 : Int32) = 0) := of_decide_eq_false c_12
                exact absurd c_12 (by decide)
              have c_12 : (0 : Int32) = 0 := of_decide_eq_true c_12
              refine wp_steps 2 (t' := (66, [some (.ref 84), some (.int v_1), some (.int 0), some (.int v_4)], [.int v_4, .int v_1], (HD, m_4, w_4, mr))) rfl ?_
              refine wp_bC rfl (fun c_13 => ?_) (fun c_13 => ?_)
              · have c_13 : ¬ v_1 = v_4 := of_decide_eq_true c_13
                refine wp_steps 1 (t' := (70, [some (.ref 84), some (.int v_1), some (.int 0), some (.int v_4)], [.int 0], (HD, m_4, w_4, mr))) rfl ?_
                refine wp_ret rfl rfl ⟨⟨Nat.le_refl _, Nat.le_refl _⟩, ?_⟩
                have eN := nt_l (b := b) (n := n) (deep := (some q)) (like := liF b n sub) nT
                refine ⟨_, _, _, rfl, rfl, (f1.tr f3).tr f4, ?_⟩
                rw [eN, li_ok hF (Or.inr e1), if_neg hF2]
                exact ⟨fun z => Bool.noConfusion z, fun _ => g4⟩
              · have c_13 : v_1 = v_4 := Decidable.not_not.mp (of_decide_eq_false c_13)
                refine wp_steps 2 (t' := (70, [some (.ref 84), some (.int v_1), some (.int 0), some (.int v_4)], [.int 1], (HD, m_4, w_4, mr))) rfl ?_
                refine wp_ret rfl rfl ⟨⟨Nat.le_refl _, Nat.le_refl _⟩, ?_⟩
                have eN := nt_l (b := b) (n := n) (deep := (some q)) (like := liF b n sub) nT
                refine ⟨_, _, _, rfl, rfl, (f1.tr f3).tr f4, ?_⟩
                rw [eN, li_ok hF (Or.inr e1), if_neg hF2]
                exact ⟨fun z => Bool.noConfusion z, fun _ => g4⟩
        · have c_8 : (if (sub s).2.2.2.1 = 61 then (1 : Int32) else 0) = 0 := Decidable.not_not.mp (of_decide_eq_false c_8)
          refine wp_steps 1 (t' := (43, [some (.ref 84), some (.int v_1), none, none], [.int v_1], (HD, m_1, w_1, mr))) rfl ?_
          refine wp_ret rfl rfl ⟨⟨Nat.le_refl _, Nat.le_refl _⟩, ?_⟩
          have eN := nt_l (b := b) (n := n) (deep := (some q)) (like := liF b n sub) nT
          refine ⟨_, _, _, rfl, rfl, f1, ?_⟩
          rw [eN, li_no hF (i0_f c_2) (i0_f c_8)]
          exact ⟨fun _ => ⟨g1, go1.wk (by decide)⟩, fun z => Bool.noConfusion z⟩
    · have g1 := r1.2 (Bool.eq_false_iff.mpr hF)
      refine wp_steps 3 (t' := (36, [some (.ref 84), some (.int v_1), none, none], [.int 60, .ref 84], (HD, m_1, w_1, mr))) rfl ?_
      refine wp_calv (as := [.int 60]) rfl rfl rfl (Nat.le_of_ble_eq_true rfl) ⟨by decide, rfl⟩ ((r_sign_b (ml := w_1) (mr := mr) g1.b (c := 60))) (by omega) ?_
      rintro _ _ ⟨rfl, rfl⟩
      show aWP _ _ (37, [some (.ref 84), some (.int v_1), none, none], [.int 0], (HD, m_1, w_1, mr)) _
      refine wp_bI rfl (fun c_14 => ?_) (fun c_14 => ?_)
      · have c_14 : ¬ (0 : Int32) = 0 := of_decide_eq_true c_14
        exact absurd c_14 (by decide)
      have c_14 : (0 : Int32) = 0 := Decidable.not_not.mp (of_decide_eq_false c_14)
      refine wp_steps 2 (t' := (40, [some (.ref 84), some (.int v_1), none, none], [.int 61, .ref 84], (HD, m_1, w_1, mr))) rfl ?_
      refine wp_calv (as := [.int 61]) rfl rfl rfl (Nat.le_of_ble_eq_true rfl) ⟨by decide, rfl⟩ ((r_sign_b (ml := w_1) (mr := mr) g1.b (c := 61))) (by omega) ?_
      rintro _ _ ⟨rfl, rfl⟩
      show aWP _ _ (41, [some (.ref 84), some (.int v_1), none, none], [.int 0], (HD, m_1, w_1, mr)) _
      refine wp_bI rfl (fun c_15 => ?_) (fun c_15 => ?_)
      · have c_15 : ¬ (0 : Int32) = 0 := of_decide_eq_true c_15
        exact absurd c_15 (by decide)
      have c_15 : (0 : Int32) = 0 := Decidable.not_not.mp (of_decide_eq_false c_15)
      refine wp_steps 1 (t' := (43, [some (.ref 84), some (.int v_1), none, none], [.int v_1], (HD, m_1, w_1, mr))) rfl ?_
      refine wp_ret rfl rfl ⟨⟨Nat.le_refl _, Nat.le_refl _⟩, ?_⟩
      have eN := nt_l (b := b) (n := n) (deep := (some q)) (like := liF b n sub) nT
      refine ⟨_, _, _, rfl, rfl, f1, ?_⟩
      rw [eN, li_ba hF]
      exact ⟨fun z => Bool.noConfusion z, fun _ => g1⟩
  · have c_1 : ¬ ((if s.2.2.1 = 8 then (1 : Int32) else 0) = 0) := of_decide_eq_false c_1
    refine wp_steps 1 (t' := (12, [some (.ref 84), none, none, none], [.ref 84], (HD, m, w, mr))) rfl ?_
    refine wp_calv (as := []) rfl rfl rfl (Nat.le_of_ble_eq_true rfl) ⟨by decide, rfl⟩ ((r_opens (ml := w) hM h hnn (by rw [← h.T, i0_t c_1]; decide) (by decide))) (by omega) ?_
    rintro _ _ ⟨rfl, m_1, w_1, rfl, f1, g1⟩
    have eT : s.2.2.1 = 8 := i0_t c_1
    show aWP _ _ (13, [some (.ref 84), none, none, none], [.int 1], (HD, m_1, w_1, mr)) _
    skip
    · skip
      refine wp_bI rfl (fun c_16 => ?_) (fun c_16 => ?_)
      rotate_left
      · have c_16 : (1 : Int32) = 0 := Decidable.not_not.mp (of_decide_eq_false c_16)
        exact absurd c_16 (by decide)
      have c_16 : ¬ (1 : Int32) = 0 := of_decide_eq_true c_16
      refine wp_steps 1 (t' := (17, [some (.ref 84), none, none, none], [.ref 84], (HD, m_1, w_1, mr))) rfl ?_
      refine wp_calv (as := []) rfl rfl rfl (Nat.le_of_ble_eq_true rfl) ⟨by decide, rfl⟩ ((h2 _ _ _ g1 (hnm.fr f1))) (by omega) ?_
      rintro _ _ ⟨v_2, m_2, w_2, rfl, rfl, f2, r2⟩
      show aWP _ _ (18, [some (.ref 84), none, none, none], [.int v_2], (HD, m_2, w_2, mr)) _
      by_cases hF : (q.2.1 (stP b n s)).1 = true
      · obtain ⟨g2, go2⟩ := r2.1 hF
        refine wp_steps 3 (t' := (21, [some (.ref 84), some (.int v_2), none, none], [.ref 84, .ref 84], (HD, m_2, w_2, mr))) rfl ?_
        refine wp_geti rfl ⟨by decide, rfl⟩ (Or.inl rfl) ?_
        refine wp_steps 2 (t' := (24, [some (.ref 84), some (.int v_2), none, none], [.int ((m_2 84 25) - 1), .ref 84], (HD, m_2, w_2, mr))) rfl ?_
        rw [show m_2 84 25 - 1 = nI 2 from by rw [g2.2.2.2.1]; exact nI_pred 2]
        refine wp_puti rfl ⟨by decide, rfl⟩ rfl (fun m_17 h_18 => ?_)
        subst h_18
        refine wp_steps 1 (t' := (26, [some (.ref 84), some (.int v_2), none, none], [.int v_2], (HD, (aup m_2 84 25 (nI 2)), w_2, mr))) rfl ?_
        refine wp_bI rfl (fun c_19 => ?_) (fun c_19 => ?_)
        · have c_19 : ¬ v_2 = 0 := of_decide_eq_true c_19
          refine wp_steps 1 (t' := (30, [some (.ref 84), some (.int v_2), none, none], [.int 0], (HD, (aup m_2 84 25 (nI 2)), w_2, mr))) rfl ?_
          refine wp_ret rfl rfl ⟨⟨Nat.le_refl _, Nat.le_refl _⟩, ?_⟩
          have e := nt_s (b := b) (n := n) (q := q) (like := liF b n sub) eT
          rw [if_pos hF] at e
          obtain ⟨k1, k2⟩ := GO_un h (by rw [eT]; decide) g2 go2 (Or.inl (rfl : (-13 : Int32) = -13))
          have ev : pfU (-13) v_2 = 0 := by simp [pfU, c_19]
          rw [ev] at k2
          refine ⟨_, _, _, rfl, rfl, (f1.tr f2).tr (frR.up (by decide) (by decide) _), ?_⟩
          rw [e]
          exact ⟨fun _ => ⟨k1.op 2, k2.wk (by decide)⟩, fun z => Bool.noConfusion z⟩
        · have c_19 : v_2 = 0 := Decidable.not_not.mp (of_decide_eq_false c_19)
          refine wp_steps 2 (t' := (30, [some (.ref 84), some (.int v_2), none, none], [.int 1], (HD, (aup m_2 84 25 (nI 2)), w_2, mr))) rfl ?_
          refine wp_ret rfl rfl ⟨⟨Nat.le_refl _, Nat.le_refl _⟩, ?_⟩
          have e := nt_s (b := b) (n := n) (q := q) (like := liF b n sub) eT
          rw [if_pos hF] at e
          obtain ⟨k1, k2⟩ := GO_un h (by rw [eT]; decide) g2 go2 (Or.inl (rfl : (-13 : Int32) = -13))
          have ev : pfU (-13) v_2 = 1 := by simp [pfU, c_19]
          rw [ev] at k2
          refine ⟨_, _, _, rfl, rfl, (f1.tr f2).tr (frR.up (by decide) (by decide) _), ?_⟩
          rw [e]
          exact ⟨fun _ => ⟨k1.op 2, k2.wk (by decide)⟩, fun z => Bool.noConfusion z⟩
      · have g2 := r2.2 (Bool.eq_false_iff.mpr hF)
        refine wp_steps 3 (t' := (21, [some (.ref 84), some (.int v_2), none, none], [.ref 84, .ref 84], (HD, m_2, w_2, mr))) rfl ?_
        refine wp_geti rfl ⟨by decide, rfl⟩ (Or.inl rfl) ?_
        refine wp_steps 2 (t' := (24, [some (.ref 84), some (.int v_2), none, none], [.int ((m_2 84 25) - 1), .ref 84], (HD, m_2, w_2, mr))) rfl ?_
        refine wp_puti rfl ⟨by decide, rfl⟩ rfl (fun m_20 h_21 => ?_)
        subst h_21
        refine wp_steps 1 (t' := (26, [some (.ref 84), some (.int v_2), none, none], [.int v_2], (HD, (aup m_2 84 25 ((m_2 84 25) - 1)), w_2, mr))) rfl ?_
        refine wp_bI rfl (fun c_22 => ?_) (fun c_22 => ?_)
        · have c_22 : ¬ v_2 = 0 := of_decide_eq_true c_22
          refine wp_steps 1 (t' := (30, [some (.ref 84), some (.int v_2), none, none], [.int 0], (HD, (aup m_2 84 25 ((m_2 84 25) - 1)), w_2, mr))) rfl ?_
          refine wp_ret rfl rfl ⟨⟨Nat.le_refl _, Nat.le_refl _⟩, ?_⟩
          have e := nt_s (b := b) (n := n) (q := q) (like := liF b n sub) eT
          rw [if_neg hF] at e
          refine ⟨_, _, _, rfl, rfl, (f1.tr f2).tr (frR.up (by decide) (by decide) _), ?_⟩
          rw [e]
          exact ⟨fun z => Bool.noConfusion z, fun _ => g2.up _⟩
        · have c_22 : v_2 = 0 := Decidable.not_not.mp (of_decide_eq_false c_22)
          refine wp_steps 2 (t' := (30, [some (.ref 84), some (.int v_2), none, none], [.int 1], (HD, (aup m_2 84 25 ((m_2 84 25) - 1)), w_2, mr))) rfl ?_
          refine wp_ret rfl rfl ⟨⟨Nat.le_refl _, Nat.le_refl _⟩, ?_⟩
          have e := nt_s (b := b) (n := n) (q := q) (like := liF b n sub) eT
          rw [if_neg hF] at e
          refine ⟨_, _, _, rfl, rfl, (f1.tr f2).tr (frR.up (by decide) (by decide) _), ?_⟩
          rw [e]
          exact ⟨fun z => Bool.noConfusion z, fun _ => g2.up _⟩
set_option maxRecDepth 20000 in
set_option maxHeartbeats 1000000 in
theorem r_not1 {X : aXt × Value} {mr : Nat → Nat → Option Nat} (hM : MRok mr) {b : Nat → Int32} {n t : Nat} (hnn : nnB b n) {nm : Nat → Int32} {d : Nat} (hd : 4 ≤ d) {sub : pF} (hsub : cwR X mr b n t 1 nm d 159 23 sub) {q : pF × pF × pF} (h2 : cwR X mr b n t 2 nm d 154 19 q.2.1) : cwR X mr b n t 1 nm (d + 1) 160 24 (ntF b n (some q) (liF b n sub)) := by
  intro m w s h hnm
  refine cw_of (cd := cd_X7_not1) (nL := 4) rfl rfl ?_
  show aWP _ _ (0, [some (.ref 84), none, none, none], [], (HD, m, w, mr)) _
  refine wp_steps 9 (t' := (9, [some (.ref 84), none, none, none], [.int 0, .int 0, .int 0, .int 0, .int 0, .int 116, .int 111, .int 110, .ref 84], (HD, m, w, mr))) rfl ?_
  refine wp_calv (as := [.int 110, .int 111, .int 116, .int 0, .int 0, .int 0, .int 0, .int 0]) rfl rfl rfl (Nat.le_of_ble_eq_true rfl) ⟨by decide, rfl⟩ ((rw_not (ml := w) hM h)) (by omega) ?_
  rintro _ _ ⟨rfl, rfl⟩
  show aWP _ _ (10, [some (.ref 84), none, none, none], [.int (if s.2.2.1 = 8 then (1 : Int32) else 0)], (HD, m, w, mr)) _
  refine wp_bI rfl (fun c_1 => ?_) (fun c_1 => ?_)
  · have c_1 : (if s.2.2.1 = 8 then (1 : Int32) else 0) = 0 := of_decide_eq_true c_1
    refine wp_steps 1 (t' := (32, [some (.ref 84), none, none, none], [.ref 84], (HD, m, w, mr))) rfl ?_
    refine wp_calv (as := []) rfl rfl rfl (Nat.le_of_ble_eq_true rfl) ⟨by decide, rfl⟩ ((hsub _ _ _ h hnm)) (by omega) ?_
    rintro _ _ ⟨v_1, m_1, w_1, rfl, rfl, f1, r1⟩
    have nT : ¬ s.2.2.1 = 8 := i0_f c_1
    show aWP _ _ (33, [some (.ref 84), none, none, none], [.int v_1], (HD, m_1, w_1, mr)) _
    by_cases hF : (sub s).1 = true
    · obtain ⟨g1, go1⟩ := r1.1 hF
      refine wp_steps 3 (t' := (36, [some (.ref 84), some (.int v_1), none, none], [.int 60, .ref 84], (HD, m_1, w_1, mr))) rfl ?_
      refine wp_calv (as := [.int 60]) rfl rfl rfl (Nat.le_of_ble_eq_true rfl) ⟨by decide, rfl⟩ ((r_sign (ml := w_1) hM g1 (c := 60) (by decide))) (by omega) ?_
      rintro _ _ ⟨rfl, rfl⟩
      show aWP _ _ (37, [some (.ref 84), some (.int v_1), none, none], [.int (if (sub s).2.2.2.1 = 60 then (1 : Int32) else 0)], (HD, m_1, w_1, mr)) _
      refine wp_bI rfl (fun c_2 => ?_) (fun c_2 => ?_)
      · have c_2 : ¬ (if (sub s).2.2.2.1 = 60 then (1 : Int32) else 0) = 0 := of_decide_eq_true c_2
        refine wp_steps 1 (t' := (45, [some (.ref 84), some (.int v_1), none, none], [.ref 84], (HD, m_1, w_1, mr))) rfl ?_
        refine wp_getl rfl ⟨by decide, rfl⟩ rfl ?_
        have e1 : (sub s).2.2.2.1 = 60 := i0_t c_2
        rw [show w_1 84 24 = (60 : Int32).toInt64 from g1.sg (by decide) e1]
        refine wp_steps 2 (t' := (48, [some (.ref 84), some (.int v_1), none, none], [.int (lg_cmp ((60 : Int32).toInt64) 60)], (HD, m_1, w_1, mr))) rfl ?_
        refine wp_bI rfl (fun c_3 => ?_) (fun c_3 => ?_)
        · have c_3 : ¬ (lg_cmp ((60 : Int32).toInt64) 60) = 0 := of_decide_eq_true c_3
          exact absurd ((lg_cmp_eq _ _).mpr (by decide)) c_3
        have c_3 : (lg_cmp ((60 : Int32).toInt64) 60) = 0 := Decidable.not_not.mp (of_decide_eq_false c_3)
        refine wp_steps 4 (t' := (54, [some (.ref 84), some (.int v_1), some (.int 1), none], [.ref 84], (HD, m_1, w_1, mr))) rfl ?_
        refine wp_calv (as := []) rfl rfl rfl (Nat.le_of_ble_eq_true rfl) ⟨by decide, rfl⟩ ((r_next (ml := w_1) hM g1 hnn (by rw [← g1.T, e1]; decide))) (by omega) ?_
        rintro _ _ ⟨rfl, m_3, w_3, rfl, f3, g3⟩
        show aWP _ _ (55, [some (.ref 84), some (.int v_1), some (.int 1), none], [], (HD, m_3, w_3, mr)) _
        skip
        · skip
          refine wp_steps 1 (t' := (56, [some (.ref 84), some (.int v_1), some (.int 1), none], [.ref 84], (HD, m_3, w_3, mr))) rfl ?_
          refine wp_calv (as := []) rfl rfl rfl (Nat.le_of_ble_eq_true rfl) ⟨by decide, rfl⟩ ((hsub _ _ _ g3 ((hnm.fr f1).fr f3))) (by omega) ?_
          rintro _ _ ⟨v_4, m_4, w_4, rfl, rfl, f4, r4⟩
          show aWP _ _ (57, [some (.ref 84), some (.int v_1), some (.int 1), none], [.int v_4], (HD, m_4, w_4, mr)) _
          by_cases hF2 : (sub (stP b n (sub s).2)).1 = true
          · obtain ⟨g4, go4⟩ := r4.1 hF2
            refine wp_steps 2 (t' := (59, [some (.ref 84), some (.int v_1), some (.int 1), some (.int v_4)], [.int 1], (HD, m_4, w_4, mr))) rfl ?_
            refine wp_bI rfl (fun c_4 => ?_) (fun c_4 => ?_)
            · have c_4 : (1 : Int32) = 0 := of_decide_eq_true c_4
              exact absurd c_4 (by decide)
            have c_4 : ¬ ((1 : Int32) = 0) := of_decide_eq_false c_4
            refine wp_steps 2 (t' := (62, [some (.ref 84), some (.int v_1), some (.int 1), some (.int v_4)], [.int v_4, .int v_1], (HD, m_4, w_4, mr))) rfl ?_
            refine wp_bC rfl (fun c_5 => ?_) (fun c_5 => ?_)
            · have c_5 : v_4 ≤ v_1 := of_decide_eq_true c_5
              refine wp_steps 1 (t' := (70, [some (.ref 84), some (.int v_1), some (.int 1), some (.int v_4)], [.int 0], (HD, m_4, w_4, mr))) rfl ?_
              refine wp_ret rfl rfl ⟨⟨Nat.le_refl _, Nat.le_refl _⟩, ?_⟩
              have eN := nt_l (b := b) (n := n) (deep := (some q)) (like := liF b n sub) nT
              have eo : (if (sub s).2.2.2.1 = 60 then (-14 : Int32) else -15) = -14 := by rw [e1]; rfl
              obtain ⟨k1, k2, k3⟩ := GO_bi (c := -14) h.2.2.1.2.2.2.2 g1 (by rw [e1]; decide) (go1.wk (by decide)) g4 go4 (by decide) (by decide)
              have ev : pfJ (-14) v_1 v_4 = 0 := by simp [pfJ, Int32.not_lt.mpr c_5]
              rw [ev] at k2
              refine ⟨_, _, _, rfl, rfl, (f1.tr f3).tr f4, ?_⟩
              rw [eN, li_ok hF (Or.inl e1), if_pos hF2, eo]
              exact ⟨fun _ => ⟨k1, k2⟩, fun z => Bool.noConfusion z⟩
            · have c_5 : ¬ (v_4 ≤ v_1) := of_decide_eq_false c_5
              refine wp_steps 3 (t' := (70, [some (.ref 84), some (.int v_1), some (.int 1), some (.int v_4)], [.int 1], (HD, m_4, w_4, mr))) rfl ?_
              refine wp_ret rfl rfl ⟨⟨Nat.le_refl _, Nat.le_refl _⟩, ?_⟩
              have eN := nt_l (b := b) (n := n) (deep := (some q)) (like := liF b n sub) nT
              have eo : (if (sub s).2.2.2.1 = 60 then (-14 : Int32) else -15) = -14 := by rw [e1]; rfl
              obtain ⟨k1, k2, k3⟩ := GO_bi (c := -14) h.2.2.1.2.2.2.2 g1 (by rw [e1]; decide) (go1.wk (by decide)) g4 go4 (by decide) (by decide)
              have ev : pfJ (-14) v_1 v_4 = 1 := by simp [pfJ, Int32.not_le.mp c_5]
              rw [ev] at k2
              refine ⟨_, _, _, rfl, rfl, (f1.tr f3).tr f4, ?_⟩
              rw [eN, li_ok hF (Or.inl e1), if_pos hF2, eo]
              exact ⟨fun _ => ⟨k1, k2⟩, fun z => Bool.noConfusion z⟩
          · have g4 := r4.2 (Bool.eq_false_iff.mpr hF2)
            refine wp_steps 2 (t' := (59, [some (.ref 84), some (.int v_1), some (.int 1), some (.int v_4)], [.int 1], (HD, m_4, w_4, mr))) rfl ?_
            refine wp_bI rfl (fun c_6 => ?_) (fun c_6 => ?_)
            · have c_6 : (1 : Int32) = 0 := of_decide_eq_true c_6
              exact absurd c_6 (by decide)
            have c_6 : ¬ ((1 : Int32) = 0) := of_decide_eq_false c_6
            refine wp_steps 2 (t' := (62, [some (.ref 84), some (.int v_1), some (.int 1), some (.int v_4)], [.int v_4, .int v_1], (HD, m_4, w_4, mr))) rfl ?_
            refine wp_bC rfl (fun c_7 => ?_) (fun c_7 => ?_)
            · have c_7 : v_4 ≤ v_1 := of_decide_eq_true c_7
              refine wp_steps 1 (t' := (70, [some (.ref 84), some (.int v_1), some (.int 1), some (.int v_4)], [.int 0], (HD, m_4, w_4, mr))) rfl ?_
              refine wp_ret rfl rfl ⟨⟨Nat.le_refl _, Nat.le_refl _⟩, ?_⟩
              have eN := nt_l (b := b) (n := n) (deep := (some q)) (like := liF b n sub) nT
              refine ⟨_, _, _, rfl, rfl, (f1.tr f3).tr f4, ?_⟩
              rw [eN, li_ok hF (Or.inl e1), if_neg hF2]
              exact ⟨fun z => Bool.noConfusion z, fun _ => g4⟩
            · have c_7 : ¬ (v_4 ≤ v_1) := of_decide_eq_false c_7
              refine wp_steps 3 (t' := (70, [some (.ref 84), some (.int v_1), some (.int 1), some (.int v_4)], [.int 1], (HD, m_4, w_4, mr))) rfl ?_
              refine wp_ret rfl rfl ⟨⟨Nat.le_refl _, Nat.le_refl _⟩, ?_⟩
              have eN := nt_l (b := b) (n := n) (deep := (some q)) (like := liF b n sub) nT
              refine ⟨_, _, _, rfl, rfl, (f1.tr f3).tr f4, ?_⟩
              rw [eN, li_ok hF (Or.inl e1), if_neg hF2]
              exact ⟨fun z => Bool.noConfusion z, fun _ => g4⟩
      · have c_2 : (if (sub s).2.2.2.1 = 60 then (1 : Int32) else 0) = 0 := Decidable.not_not.mp (of_decide_eq_false c_2)
        refine wp_steps 2 (t' := (40, [some (.ref 84), some (.int v_1), none, none], [.int 61, .ref 84], (HD, m_1, w_1, mr))) rfl ?_
        refine wp_calv (as := [.int 61]) rfl rfl rfl (Nat.le_of_ble_eq_true rfl) ⟨by decide, rfl⟩ ((r_sign (ml := w_1) hM g1 (c := 61) (by decide))) (by omega) ?_
        rintro _ _ ⟨rfl, rfl⟩
        show aWP _ _ (41, [some (.ref 84), some (.int v_1), none, none], [.int (if (sub s).2.2.2.1 = 61 then (1 : Int32) else 0)], (HD, m_1, w_1, mr)) _
        refine wp_bI rfl (fun c_8 => ?_) (fun c_8 => ?_)
        · have c_8 : ¬ (if (sub s).2.2.2.1 = 61 then (1 : Int32) else 0) = 0 := of_decide_eq_true c_8
          refine wp_steps 1 (t' := (45, [some (.ref 84), some (.int v_1), none, none], [.ref 84], (HD, m_1, w_1, mr))) rfl ?_
          refine wp_getl rfl ⟨by decide, rfl⟩ rfl ?_
          have e1 : (sub s).2.2.2.1 = 61 := i0_t c_8
          rw [show w_1 84 24 = (61 : Int32).toInt64 from g1.sg (by decide) e1]
          refine wp_steps 2 (t' := (48, [some (.ref 84), some (.int v_1), none, none], [.int (lg_cmp ((61 : Int32).toInt64) 60)], (HD, m_1, w_1, mr))) rfl ?_
          refine wp_bI rfl (fun c_9 => ?_) (fun c_9 => ?_)
          rotate_left
          · have c_9 : (lg_cmp ((61 : Int32).toInt64) 60) = 0 := Decidable.not_not.mp (of_decide_eq_false c_9)
            exact absurd ((lg_cmp_eq _ _).mp c_9) (by decide)
          have c_9 : ¬ (lg_cmp ((61 : Int32).toInt64) 60) = 0 := of_decide_eq_true c_9
          refine wp_steps 3 (t' := (54, [some (.ref 84), some (.int v_1), some (.int 0), none], [.ref 84], (HD, m_1, w_1, mr))) rfl ?_
          refine wp_calv (as := []) rfl rfl rfl (Nat.le_of_ble_eq_true rfl) ⟨by decide, rfl⟩ ((r_next (ml := w_1) hM g1 hnn (by rw [← g1.T, e1]; decide))) (by omega) ?_
          rintro _ _ ⟨rfl, m_3, w_3, rfl, f3, g3⟩
          show aWP _ _ (55, [some (.ref 84), some (.int v_1), some (.int 0), none], [], (HD, m_3, w_3, mr)) _
          skip
          · skip
            refine wp_steps 1 (t' := (56, [some (.ref 84), some (.int v_1), some (.int 0), none], [.ref 84], (HD, m_3, w_3, mr))) rfl ?_
            refine wp_calv (as := []) rfl rfl rfl (Nat.le_of_ble_eq_true rfl) ⟨by decide, rfl⟩ ((hsub _ _ _ g3 ((hnm.fr f1).fr f3))) (by omega) ?_
            rintro _ _ ⟨v_4, m_4, w_4, rfl, rfl, f4, r4⟩
            show aWP _ _ (57, [some (.ref 84), some (.int v_1), some (.int 0), none], [.int v_4], (HD, m_4, w_4, mr)) _
            by_cases hF2 : (sub (stP b n (sub s).2)).1 = true
            · obtain ⟨g4, go4⟩ := r4.1 hF2
              refine wp_steps 2 (t' := (59, [some (.ref 84), some (.int v_1), some (.int 0), some (.int v_4)], [.int 0], (HD, m_4, w_4, mr))) rfl ?_
              refine wp_bI rfl (fun c_10 => ?_) (fun c_10 => ?_)
              rotate_left
              · have c_10 : ¬ ((0 : Int32) = 0) := of_decide_eq_false c_10
                exact absurd c_10 (by decide)
              have c_10 : (0 : Int32) = 0 := of_decide_eq_true c_10
              refine wp_steps 2 (t' := (66, [some (.ref 84), some (.int v_1), some (.int 0), some (.int v_4)], [.int v_4, .int v_1], (HD, m_4, w_4, mr))) rfl ?_
              refine wp_bC rfl (fun c_11 => ?_) (fun c_11 => ?_)
              · have c_11 : ¬ v_1 = v_4 := of_decide_eq_true c_11
                refine wp_steps 1 (t' := (70, [some (.ref 84), some (.int v_1), some (.int 0), some (.int v_4)], [.int 0], (HD, m_4, w_4, mr))) rfl ?_
                refine wp_ret rfl rfl ⟨⟨Nat.le_refl _, Nat.le_refl _⟩, ?_⟩
                have eN := nt_l (b := b) (n := n) (deep := (some q)) (like := liF b n sub) nT
                have eo : (if (sub s).2.2.2.1 = 60 then (-14 : Int32) else -15) = -15 := by rw [e1]; rfl
                obtain ⟨k1, k2, k3⟩ := GO_bi (c := -15) h.2.2.1.2.2.2.2 g1 (by rw [e1]; decide) (go1.wk (by decide)) g4 go4 (by decide) (by decide)
                have ev : pfJ (-15) v_1 v_4 = 0 := by simp [pfJ, c_11]
                rw [ev] at k2
                refine ⟨_, _, _, rfl, rfl, (f1.tr f3).tr f4, ?_⟩
                rw [eN, li_ok hF (Or.inr e1), if_pos hF2, eo]
                exact ⟨fun _ => ⟨k1, k2⟩, fun z => Bool.noConfusion z⟩
              · have c_11 : v_1 = v_4 := Decidable.not_not.mp (of_decide_eq_false c_11)
                refine wp_steps 2 (t' := (70, [some (.ref 84), some (.int v_1), some (.int 0), some (.int v_4)], [.int 1], (HD, m_4, w_4, mr))) rfl ?_
                refine wp_ret rfl rfl ⟨⟨Nat.le_refl _, Nat.le_refl _⟩, ?_⟩
                have eN := nt_l (b := b) (n := n) (deep := (some q)) (like := liF b n sub) nT
                have eo : (if (sub s).2.2.2.1 = 60 then (-14 : Int32) else -15) = -15 := by rw [e1]; rfl
                obtain ⟨k1, k2, k3⟩ := GO_bi (c := -15) h.2.2.1.2.2.2.2 g1 (by rw [e1]; decide) (go1.wk (by decide)) g4 go4 (by decide) (by decide)
                have ev : pfJ (-15) v_1 v_4 = 1 := by simp [pfJ, c_11]
                rw [ev] at k2
                refine ⟨_, _, _, rfl, rfl, (f1.tr f3).tr f4, ?_⟩
                rw [eN, li_ok hF (Or.inr e1), if_pos hF2, eo]
                exact ⟨fun _ => ⟨k1, k2⟩, fun z => Bool.noConfusion z⟩
            · have g4 := r4.2 (Bool.eq_false_iff.mpr hF2)
              refine wp_steps 2 (t' := (59, [some (.ref 84), some (.int v_1), some (.int 0), some (.int v_4)], [.int 0], (HD, m_4, w_4, mr))) rfl ?_
              refine wp_bI rfl (fun c_12 => ?_) (fun c_12 => ?_)
              rotate_left
              · have c_12 : ¬ ((0 : Int32) = 0) := of_decide_eq_false c_12
                exact absurd c_12 (by decide)
              have c_12 : (0 : Int32) = 0 := of_decide_eq_true c_12
              refine wp_steps 2 (t' := (66, [some (.ref 84), some (.int v_1), some (.int 0), some (.int v_4)], [.int v_4, .int v_1], (HD, m_4, w_4, mr))) rfl ?_
              refine wp_bC rfl (fun c_13 => ?_) (fun c_13 => ?_)
              · have c_13 : ¬ v_1 = v_4 := of_decide_eq_true c_13
                refine wp_steps 1 (t' := (70, [some (.ref 84), some (.int v_1), some (.int 0), some (.int v_4)], [.int 0], (HD, m_4, w_4, mr))) rfl ?_
                refine wp_ret rfl rfl ⟨⟨Nat.le_refl _, Nat.le_refl _⟩, ?_⟩
                have eN := nt_l (b := b) (n := n) (deep := (some q)) (like := liF b n sub) nT
                refine ⟨_, _, _, rfl, rfl, (f1.tr f3).tr f4, ?_⟩
                rw [eN, li_ok hF (Or.inr e1), if_neg hF2]
                exact ⟨fun z => Bool.noConfusion z, fun _ => g4⟩
              · have c_13 : v_1 = v_4 := Decidable.not_not.mp (of_decide_eq_false c_13)
                refine wp_steps 2 (t' := (70, [some (.ref 84), some (.int v_1), some (.int 0), some (.int v_4)], [.int 1], (HD, m_4, w_4, mr))) rfl ?_
                refine wp_ret rfl rfl ⟨⟨Nat.le_refl _, Nat.le_refl _⟩, ?_⟩
                have eN := nt_l (b := b) (n := n) (deep := (some q)) (like := liF b n sub) nT
                refine ⟨_, _, _, rfl, rfl, (f1.tr f3).tr f4, ?_⟩
                rw [eN, li_ok hF (Or.inr e1), if_neg hF2]
                exact ⟨fun z => Bool.noConfusion z, fun _ => g4⟩
        · have c_8 : (if (sub s).2.2.2.1 = 61 then (1 : Int32) else 0) = 0 := Decidable.not_not.mp (of_decide_eq_false c_8)
          refine wp_steps 1 (t' := (43, [some (.ref 84), some (.int v_1), none, none], [.int v_1], (HD, m_1, w_1, mr))) rfl ?_
          refine wp_ret rfl rfl ⟨⟨Nat.le_refl _, Nat.le_refl _⟩, ?_⟩
          have eN := nt_l (b := b) (n := n) (deep := (some q)) (like := liF b n sub) nT
          refine ⟨_, _, _, rfl, rfl, f1, ?_⟩
          rw [eN, li_no hF (i0_f c_2) (i0_f c_8)]
          exact ⟨fun _ => ⟨g1, go1.wk (by decide)⟩, fun z => Bool.noConfusion z⟩
    · have g1 := r1.2 (Bool.eq_false_iff.mpr hF)
      refine wp_steps 3 (t' := (36, [some (.ref 84), some (.int v_1), none, none], [.int 60, .ref 84], (HD, m_1, w_1, mr))) rfl ?_
      refine wp_calv (as := [.int 60]) rfl rfl rfl (Nat.le_of_ble_eq_true rfl) ⟨by decide, rfl⟩ ((r_sign_b (ml := w_1) (mr := mr) g1.b (c := 60))) (by omega) ?_
      rintro _ _ ⟨rfl, rfl⟩
      show aWP _ _ (37, [some (.ref 84), some (.int v_1), none, none], [.int 0], (HD, m_1, w_1, mr)) _
      refine wp_bI rfl (fun c_14 => ?_) (fun c_14 => ?_)
      · have c_14 : ¬ (0 : Int32) = 0 := of_decide_eq_true c_14
        exact absurd c_14 (by decide)
      have c_14 : (0 : Int32) = 0 := Decidable.not_not.mp (of_decide_eq_false c_14)
      refine wp_steps 2 (t' := (40, [some (.ref 84), some (.int v_1), none, none], [.int 61, .ref 84], (HD, m_1, w_1, mr))) rfl ?_
      refine wp_calv (as := [.int 61]) rfl rfl rfl (Nat.le_of_ble_eq_true rfl) ⟨by decide, rfl⟩ ((r_sign_b (ml := w_1) (mr := mr) g1.b (c := 61))) (by omega) ?_
      rintro _ _ ⟨rfl, rfl⟩
      show aWP _ _ (41, [some (.ref 84), some (.int v_1), none, none], [.int 0], (HD, m_1, w_1, mr)) _
      refine wp_bI rfl (fun c_15 => ?_) (fun c_15 => ?_)
      · have c_15 : ¬ (0 : Int32) = 0 := of_decide_eq_true c_15
        exact absurd c_15 (by decide)
      have c_15 : (0 : Int32) = 0 := Decidable.not_not.mp (of_decide_eq_false c_15)
      refine wp_steps 1 (t' := (43, [some (.ref 84), some (.int v_1), none, none], [.int v_1], (HD, m_1, w_1, mr))) rfl ?_
      refine wp_ret rfl rfl ⟨⟨Nat.le_refl _, Nat.le_refl _⟩, ?_⟩
      have eN := nt_l (b := b) (n := n) (deep := (some q)) (like := liF b n sub) nT
      refine ⟨_, _, _, rfl, rfl, f1, ?_⟩
      rw [eN, li_ba hF]
      exact ⟨fun z => Bool.noConfusion z, fun _ => g1⟩
  · have c_1 : ¬ ((if s.2.2.1 = 8 then (1 : Int32) else 0) = 0) := of_decide_eq_false c_1
    refine wp_steps 1 (t' := (12, [some (.ref 84), none, none, none], [.ref 84], (HD, m, w, mr))) rfl ?_
    refine wp_calv (as := []) rfl rfl rfl (Nat.le_of_ble_eq_true rfl) ⟨by decide, rfl⟩ ((r_opens (ml := w) hM h hnn (by rw [← h.T, i0_t c_1]; decide) (by decide))) (by omega) ?_
    rintro _ _ ⟨rfl, m_1, w_1, rfl, f1, g1⟩
    have eT : s.2.2.1 = 8 := i0_t c_1
    show aWP _ _ (13, [some (.ref 84), none, none, none], [.int 1], (HD, m_1, w_1, mr)) _
    skip
    · skip
      refine wp_bI rfl (fun c_16 => ?_) (fun c_16 => ?_)
      rotate_left
      · have c_16 : (1 : Int32) = 0 := Decidable.not_not.mp (of_decide_eq_false c_16)
        exact absurd c_16 (by decide)
      have c_16 : ¬ (1 : Int32) = 0 := of_decide_eq_true c_16
      refine wp_steps 1 (t' := (17, [some (.ref 84), none, none, none], [.ref 84], (HD, m_1, w_1, mr))) rfl ?_
      refine wp_calv (as := []) rfl rfl rfl (Nat.le_of_ble_eq_true rfl) ⟨by decide, rfl⟩ ((h2 _ _ _ g1 (hnm.fr f1))) (by omega) ?_
      rintro _ _ ⟨v_2, m_2, w_2, rfl, rfl, f2, r2⟩
      show aWP _ _ (18, [some (.ref 84), none, none, none], [.int v_2], (HD, m_2, w_2, mr)) _
      by_cases hF : (q.2.1 (stP b n s)).1 = true
      · obtain ⟨g2, go2⟩ := r2.1 hF
        refine wp_steps 3 (t' := (21, [some (.ref 84), some (.int v_2), none, none], [.ref 84, .ref 84], (HD, m_2, w_2, mr))) rfl ?_
        refine wp_geti rfl ⟨by decide, rfl⟩ (Or.inl rfl) ?_
        refine wp_steps 2 (t' := (24, [some (.ref 84), some (.int v_2), none, none], [.int ((m_2 84 25) - 1), .ref 84], (HD, m_2, w_2, mr))) rfl ?_
        rw [show m_2 84 25 - 1 = nI 1 from by rw [g2.2.2.2.1]; exact nI_pred 1]
        refine wp_puti rfl ⟨by decide, rfl⟩ rfl (fun m_17 h_18 => ?_)
        subst h_18
        refine wp_steps 1 (t' := (26, [some (.ref 84), some (.int v_2), none, none], [.int v_2], (HD, (aup m_2 84 25 (nI 1)), w_2, mr))) rfl ?_
        refine wp_bI rfl (fun c_19 => ?_) (fun c_19 => ?_)
        · have c_19 : ¬ v_2 = 0 := of_decide_eq_true c_19
          refine wp_steps 1 (t' := (30, [some (.ref 84), some (.int v_2), none, none], [.int 0], (HD, (aup m_2 84 25 (nI 1)), w_2, mr))) rfl ?_
          refine wp_ret rfl rfl ⟨⟨Nat.le_refl _, Nat.le_refl _⟩, ?_⟩
          have e := nt_s (b := b) (n := n) (q := q) (like := liF b n sub) eT
          rw [if_pos hF] at e
          obtain ⟨k1, k2⟩ := GO_un h (by rw [eT]; decide) g2 go2 (Or.inl (rfl : (-13 : Int32) = -13))
          have ev : pfU (-13) v_2 = 0 := by simp [pfU, c_19]
          rw [ev] at k2
          refine ⟨_, _, _, rfl, rfl, (f1.tr f2).tr (frR.up (by decide) (by decide) _), ?_⟩
          rw [e]
          exact ⟨fun _ => ⟨k1.op 1, k2.wk (by decide)⟩, fun z => Bool.noConfusion z⟩
        · have c_19 : v_2 = 0 := Decidable.not_not.mp (of_decide_eq_false c_19)
          refine wp_steps 2 (t' := (30, [some (.ref 84), some (.int v_2), none, none], [.int 1], (HD, (aup m_2 84 25 (nI 1)), w_2, mr))) rfl ?_
          refine wp_ret rfl rfl ⟨⟨Nat.le_refl _, Nat.le_refl _⟩, ?_⟩
          have e := nt_s (b := b) (n := n) (q := q) (like := liF b n sub) eT
          rw [if_pos hF] at e
          obtain ⟨k1, k2⟩ := GO_un h (by rw [eT]; decide) g2 go2 (Or.inl (rfl : (-13 : Int32) = -13))
          have ev : pfU (-13) v_2 = 1 := by simp [pfU, c_19]
          rw [ev] at k2
          refine ⟨_, _, _, rfl, rfl, (f1.tr f2).tr (frR.up (by decide) (by decide) _), ?_⟩
          rw [e]
          exact ⟨fun _ => ⟨k1.op 1, k2.wk (by decide)⟩, fun z => Bool.noConfusion z⟩
      · have g2 := r2.2 (Bool.eq_false_iff.mpr hF)
        refine wp_steps 3 (t' := (21, [some (.ref 84), some (.int v_2), none, none], [.ref 84, .ref 84], (HD, m_2, w_2, mr))) rfl ?_
        refine wp_geti rfl ⟨by decide, rfl⟩ (Or.inl rfl) ?_
        refine wp_steps 2 (t' := (24, [some (.ref 84), some (.int v_2), none, none], [.int ((m_2 84 25) - 1), .ref 84], (HD, m_2, w_2, mr))) rfl ?_
        refine wp_puti rfl ⟨by decide, rfl⟩ rfl (fun m_20 h_21 => ?_)
        subst h_21
        refine wp_steps 1 (t' := (26, [some (.ref 84), some (.int v_2), none, none], [.int v_2], (HD, (aup m_2 84 25 ((m_2 84 25) - 1)), w_2, mr))) rfl ?_
        refine wp_bI rfl (fun c_22 => ?_) (fun c_22 => ?_)
        · have c_22 : ¬ v_2 = 0 := of_decide_eq_true c_22
          refine wp_steps 1 (t' := (30, [some (.ref 84), some (.int v_2), none, none], [.int 0], (HD, (aup m_2 84 25 ((m_2 84 25) - 1)), w_2, mr))) rfl ?_
          refine wp_ret rfl rfl ⟨⟨Nat.le_refl _, Nat.le_refl _⟩, ?_⟩
          have e := nt_s (b := b) (n := n) (q := q) (like := liF b n sub) eT
          rw [if_neg hF] at e
          refine ⟨_, _, _, rfl, rfl, (f1.tr f2).tr (frR.up (by decide) (by decide) _), ?_⟩
          rw [e]
          exact ⟨fun z => Bool.noConfusion z, fun _ => g2.up _⟩
        · have c_22 : v_2 = 0 := Decidable.not_not.mp (of_decide_eq_false c_22)
          refine wp_steps 2 (t' := (30, [some (.ref 84), some (.int v_2), none, none], [.int 1], (HD, (aup m_2 84 25 ((m_2 84 25) - 1)), w_2, mr))) rfl ?_
          refine wp_ret rfl rfl ⟨⟨Nat.le_refl _, Nat.le_refl _⟩, ?_⟩
          have e := nt_s (b := b) (n := n) (q := q) (like := liF b n sub) eT
          rw [if_neg hF] at e
          refine ⟨_, _, _, rfl, rfl, (f1.tr f2).tr (frR.up (by decide) (by decide) _), ?_⟩
          rw [e]
          exact ⟨fun z => Bool.noConfusion z, fun _ => g2.up _⟩
set_option maxRecDepth 20000 in
set_option maxHeartbeats 1000000 in
theorem r_not0 {X : aXt × Value} {mr : Nat → Nat → Option Nat} (hM : MRok mr) {b : Nat → Int32} {n t : Nat} (hnn : nnB b n) {nm : Nat → Int32} {d : Nat} (hd : 4 ≤ d) {sub : pF} (hsub : cwR X mr b n t 0 nm d 165 28 sub) {q : pF × pF × pF} (h2 : cwR X mr b n t 1 nm d 160 24 q.2.1) : cwR X mr b n t 0 nm (d + 1) 166 29 (ntF b n (some q) (liF b n sub)) := by
  intro m w s h hnm
  refine cw_of (cd := cd_X7_not0) (nL := 4) rfl rfl ?_
  show aWP _ _ (0, [some (.ref 84), none, none, none], [], (HD, m, w, mr)) _
  refine wp_steps 9 (t' := (9, [some (.ref 84), none, none, none], [.int 0, .int 0, .int 0, .int 0, .int 0, .int 116, .int 111, .int 110, .ref 84], (HD, m, w, mr))) rfl ?_
  refine wp_calv (as := [.int 110, .int 111, .int 116, .int 0, .int 0, .int 0, .int 0, .int 0]) rfl rfl rfl (Nat.le_of_ble_eq_true rfl) ⟨by decide, rfl⟩ ((rw_not (ml := w) hM h)) (by omega) ?_
  rintro _ _ ⟨rfl, rfl⟩
  show aWP _ _ (10, [some (.ref 84), none, none, none], [.int (if s.2.2.1 = 8 then (1 : Int32) else 0)], (HD, m, w, mr)) _
  refine wp_bI rfl (fun c_1 => ?_) (fun c_1 => ?_)
  · have c_1 : (if s.2.2.1 = 8 then (1 : Int32) else 0) = 0 := of_decide_eq_true c_1
    refine wp_steps 1 (t' := (32, [some (.ref 84), none, none, none], [.ref 84], (HD, m, w, mr))) rfl ?_
    refine wp_calv (as := []) rfl rfl rfl (Nat.le_of_ble_eq_true rfl) ⟨by decide, rfl⟩ ((hsub _ _ _ h hnm)) (by omega) ?_
    rintro _ _ ⟨v_1, m_1, w_1, rfl, rfl, f1, r1⟩
    have nT : ¬ s.2.2.1 = 8 := i0_f c_1
    show aWP _ _ (33, [some (.ref 84), none, none, none], [.int v_1], (HD, m_1, w_1, mr)) _
    by_cases hF : (sub s).1 = true
    · obtain ⟨g1, go1⟩ := r1.1 hF
      refine wp_steps 3 (t' := (36, [some (.ref 84), some (.int v_1), none, none], [.int 60, .ref 84], (HD, m_1, w_1, mr))) rfl ?_
      refine wp_calv (as := [.int 60]) rfl rfl rfl (Nat.le_of_ble_eq_true rfl) ⟨by decide, rfl⟩ ((r_sign (ml := w_1) hM g1 (c := 60) (by decide))) (by omega) ?_
      rintro _ _ ⟨rfl, rfl⟩
      show aWP _ _ (37, [some (.ref 84), some (.int v_1), none, none], [.int (if (sub s).2.2.2.1 = 60 then (1 : Int32) else 0)], (HD, m_1, w_1, mr)) _
      refine wp_bI rfl (fun c_2 => ?_) (fun c_2 => ?_)
      · have c_2 : ¬ (if (sub s).2.2.2.1 = 60 then (1 : Int32) else 0) = 0 := of_decide_eq_true c_2
        refine wp_steps 1 (t' := (45, [some (.ref 84), some (.int v_1), none, none], [.ref 84], (HD, m_1, w_1, mr))) rfl ?_
        refine wp_getl rfl ⟨by decide, rfl⟩ rfl ?_
        have e1 : (sub s).2.2.2.1 = 60 := i0_t c_2
        rw [show w_1 84 24 = (60 : Int32).toInt64 from g1.sg (by decide) e1]
        refine wp_steps 2 (t' := (48, [some (.ref 84), some (.int v_1), none, none], [.int (lg_cmp ((60 : Int32).toInt64) 60)], (HD, m_1, w_1, mr))) rfl ?_
        refine wp_bI rfl (fun c_3 => ?_) (fun c_3 => ?_)
        · have c_3 : ¬ (lg_cmp ((60 : Int32).toInt64) 60) = 0 := of_decide_eq_true c_3
          exact absurd ((lg_cmp_eq _ _).mpr (by decide)) c_3
        have c_3 : (lg_cmp ((60 : Int32).toInt64) 60) = 0 := Decidable.not_not.mp (of_decide_eq_false c_3)
        refine wp_steps 4 (t' := (54, [some (.ref 84), some (.int v_1), some (.int 1), none], [.ref 84], (HD, m_1, w_1, mr))) rfl ?_
        refine wp_calv (as := []) rfl rfl rfl (Nat.le_of_ble_eq_true rfl) ⟨by decide, rfl⟩ ((r_next (ml := w_1) hM g1 hnn (by rw [← g1.T, e1]; decide))) (by omega) ?_
        rintro _ _ ⟨rfl, m_3, w_3, rfl, f3, g3⟩
        show aWP _ _ (55, [some (.ref 84), some (.int v_1), some (.int 1), none], [], (HD, m_3, w_3, mr)) _
        skip
        · skip
          refine wp_steps 1 (t' := (56, [some (.ref 84), some (.int v_1), some (.int 1), none], [.ref 84], (HD, m_3, w_3, mr))) rfl ?_
          refine wp_calv (as := []) rfl rfl rfl (Nat.le_of_ble_eq_true rfl) ⟨by decide, rfl⟩ ((hsub _ _ _ g3 ((hnm.fr f1).fr f3))) (by omega) ?_
          rintro _ _ ⟨v_4, m_4, w_4, rfl, rfl, f4, r4⟩
          show aWP _ _ (57, [some (.ref 84), some (.int v_1), some (.int 1), none], [.int v_4], (HD, m_4, w_4, mr)) _
          by_cases hF2 : (sub (stP b n (sub s).2)).1 = true
          · obtain ⟨g4, go4⟩ := r4.1 hF2
            refine wp_steps 2 (t' := (59, [some (.ref 84), some (.int v_1), some (.int 1), some (.int v_4)], [.int 1], (HD, m_4, w_4, mr))) rfl ?_
            refine wp_bI rfl (fun c_4 => ?_) (fun c_4 => ?_)
            · have c_4 : (1 : Int32) = 0 := of_decide_eq_true c_4
              exact absurd c_4 (by decide)
            have c_4 : ¬ ((1 : Int32) = 0) := of_decide_eq_false c_4
            refine wp_steps 2 (t' := (62, [some (.ref 84), some (.int v_1), some (.int 1), some (.int v_4)], [.int v_4, .int v_1], (HD, m_4, w_4, mr))) rfl ?_
            refine wp_bC rfl (fun c_5 => ?_) (fun c_5 => ?_)
            · have c_5 : v_4 ≤ v_1 := of_decide_eq_true c_5
              refine wp_steps 1 (t' := (70, [some (.ref 84), some (.int v_1), some (.int 1), some (.int v_4)], [.int 0], (HD, m_4, w_4, mr))) rfl ?_
              refine wp_ret rfl rfl ⟨⟨Nat.le_refl _, Nat.le_refl _⟩, ?_⟩
              have eN := nt_l (b := b) (n := n) (deep := (some q)) (like := liF b n sub) nT
              have eo : (if (sub s).2.2.2.1 = 60 then (-14 : Int32) else -15) = -14 := by rw [e1]; rfl
              obtain ⟨k1, k2, k3⟩ := GO_bi (c := -14) h.2.2.1.2.2.2.2 g1 (by rw [e1]; decide) (go1.wk (by decide)) g4 go4 (by decide) (by decide)
              have ev : pfJ (-14) v_1 v_4 = 0 := by simp [pfJ, Int32.not_lt.mpr c_5]
              rw [ev] at k2
              refine ⟨_, _, _, rfl, rfl, (f1.tr f3).tr f4, ?_⟩
              rw [eN, li_ok hF (Or.inl e1), if_pos hF2, eo]
              exact ⟨fun _ => ⟨k1, k2⟩, fun z => Bool.noConfusion z⟩
            · have c_5 : ¬ (v_4 ≤ v_1) := of_decide_eq_false c_5
              refine wp_steps 3 (t' := (70, [some (.ref 84), some (.int v_1), some (.int 1), some (.int v_4)], [.int 1], (HD, m_4, w_4, mr))) rfl ?_
              refine wp_ret rfl rfl ⟨⟨Nat.le_refl _, Nat.le_refl _⟩, ?_⟩
              have eN := nt_l (b := b) (n := n) (deep := (some q)) (like := liF b n sub) nT
              have eo : (if (sub s).2.2.2.1 = 60 then (-14 : Int32) else -15) = -14 := by rw [e1]; rfl
              obtain ⟨k1, k2, k3⟩ := GO_bi (c := -14) h.2.2.1.2.2.2.2 g1 (by rw [e1]; decide) (go1.wk (by decide)) g4 go4 (by decide) (by decide)
              have ev : pfJ (-14) v_1 v_4 = 1 := by simp [pfJ, Int32.not_le.mp c_5]
              rw [ev] at k2
              refine ⟨_, _, _, rfl, rfl, (f1.tr f3).tr f4, ?_⟩
              rw [eN, li_ok hF (Or.inl e1), if_pos hF2, eo]
              exact ⟨fun _ => ⟨k1, k2⟩, fun z => Bool.noConfusion z⟩
          · have g4 := r4.2 (Bool.eq_false_iff.mpr hF2)
            refine wp_steps 2 (t' := (59, [some (.ref 84), some (.int v_1), some (.int 1), some (.int v_4)], [.int 1], (HD, m_4, w_4, mr))) rfl ?_
            refine wp_bI rfl (fun c_6 => ?_) (fun c_6 => ?_)
            · have c_6 : (1 : Int32) = 0 := of_decide_eq_true c_6
              exact absurd c_6 (by decide)
            have c_6 : ¬ ((1 : Int32) = 0) := of_decide_eq_false c_6
            refine wp_steps 2 (t' := (62, [some (.ref 84), some (.int v_1), some (.int 1), some (.int v_4)], [.int v_4, .int v_1], (HD, m_4, w_4, mr))) rfl ?_
            refine wp_bC rfl (fun c_7 => ?_) (fun c_7 => ?_)
            · have c_7 : v_4 ≤ v_1 := of_decide_eq_true c_7
              refine wp_steps 1 (t' := (70, [some (.ref 84), some (.int v_1), some (.int 1), some (.int v_4)], [.int 0], (HD, m_4, w_4, mr))) rfl ?_
              refine wp_ret rfl rfl ⟨⟨Nat.le_refl _, Nat.le_refl _⟩, ?_⟩
              have eN := nt_l (b := b) (n := n) (deep := (some q)) (like := liF b n sub) nT
              refine ⟨_, _, _, rfl, rfl, (f1.tr f3).tr f4, ?_⟩
              rw [eN, li_ok hF (Or.inl e1), if_neg hF2]
              exact ⟨fun z => Bool.noConfusion z, fun _ => g4⟩
            · have c_7 : ¬ (v_4 ≤ v_1) := of_decide_eq_false c_7
              refine wp_steps 3 (t' := (70, [some (.ref 84), some (.int v_1), some (.int 1), some (.int v_4)], [.int 1], (HD, m_4, w_4, mr))) rfl ?_
              refine wp_ret rfl rfl ⟨⟨Nat.le_refl _, Nat.le_refl _⟩, ?_⟩
              have eN := nt_l (b := b) (n := n) (deep := (some q)) (like := liF b n sub) nT
              refine ⟨_, _, _, rfl, rfl, (f1.tr f3).tr f4, ?_⟩
              rw [eN, li_ok hF (Or.inl e1), if_neg hF2]
              exact ⟨fun z => Bool.noConfusion z, fun _ => g4⟩
      · have c_2 : (if (sub s).2.2.2.1 = 60 then (1 : Int32) else 0) = 0 := Decidable.not_not.mp (of_decide_eq_false c_2)
        refine wp_steps 2 (t' := (40, [some (.ref 84), some (.int v_1), none, none], [.int 61, .ref 84], (HD, m_1, w_1, mr))) rfl ?_
        refine wp_calv (as := [.int 61]) rfl rfl rfl (Nat.le_of_ble_eq_true rfl) ⟨by decide, rfl⟩ ((r_sign (ml := w_1) hM g1 (c := 61) (by decide))) (by omega) ?_
        rintro _ _ ⟨rfl, rfl⟩
        show aWP _ _ (41, [some (.ref 84), some (.int v_1), none, none], [.int (if (sub s).2.2.2.1 = 61 then (1 : Int32) else 0)], (HD, m_1, w_1, mr)) _
        refine wp_bI rfl (fun c_8 => ?_) (fun c_8 => ?_)
        · have c_8 : ¬ (if (sub s).2.2.2.1 = 61 then (1 : Int32) else 0) = 0 := of_decide_eq_true c_8
          refine wp_steps 1 (t' := (45, [some (.ref 84), some (.int v_1), none, none], [.ref 84], (HD, m_1, w_1, mr))) rfl ?_
          refine wp_getl rfl ⟨by decide, rfl⟩ rfl ?_
          have e1 : (sub s).2.2.2.1 = 61 := i0_t c_8
          rw [show w_1 84 24 = (61 : Int32).toInt64 from g1.sg (by decide) e1]
          refine wp_steps 2 (t' := (48, [some (.ref 84), some (.int v_1), none, none], [.int (lg_cmp ((61 : Int32).toInt64) 60)], (HD, m_1, w_1, mr))) rfl ?_
          refine wp_bI rfl (fun c_9 => ?_) (fun c_9 => ?_)
          rotate_left
          · have c_9 : (lg_cmp ((61 : Int32).toInt64) 60) = 0 := Decidable.not_not.mp (of_decide_eq_false c_9)
            exact absurd ((lg_cmp_eq _ _).mp c_9) (by decide)
          have c_9 : ¬ (lg_cmp ((61 : Int32).toInt64) 60) = 0 := of_decide_eq_true c_9
          refine wp_steps 3 (t' := (54, [some (.ref 84), some (.int v_1), some (.int 0), none], [.ref 84], (HD, m_1, w_1, mr))) rfl ?_
          refine wp_calv (as := []) rfl rfl rfl (Nat.le_of_ble_eq_true rfl) ⟨by decide, rfl⟩ ((r_next (ml := w_1) hM g1 hnn (by rw [← g1.T, e1]; decide))) (by omega) ?_
          rintro _ _ ⟨rfl, m_3, w_3, rfl, f3, g3⟩
          show aWP _ _ (55, [some (.ref 84), some (.int v_1), some (.int 0), none], [], (HD, m_3, w_3, mr)) _
          skip
          · skip
            refine wp_steps 1 (t' := (56, [some (.ref 84), some (.int v_1), some (.int 0), none], [.ref 84], (HD, m_3, w_3, mr))) rfl ?_
            refine wp_calv (as := []) rfl rfl rfl (Nat.le_of_ble_eq_true rfl) ⟨by decide, rfl⟩ ((hsub _ _ _ g3 ((hnm.fr f1).fr f3))) (by omega) ?_
            rintro _ _ ⟨v_4, m_4, w_4, rfl, rfl, f4, r4⟩
            show aWP _ _ (57, [some (.ref 84), some (.int v_1), some (.int 0), none], [.int v_4], (HD, m_4, w_4, mr)) _
            by_cases hF2 : (sub (stP b n (sub s).2)).1 = true
            · obtain ⟨g4, go4⟩ := r4.1 hF2
              refine wp_steps 2 (t' := (59, [some (.ref 84), some (.int v_1), some (.int 0), some (.int v_4)], [.int 0], (HD, m_4, w_4, mr))) rfl ?_
              refine wp_bI rfl (fun c_10 => ?_) (fun c_10 => ?_)
              rotate_left
              · have c_10 : ¬ ((0 : Int32) = 0) := of_decide_eq_false c_10
                exact absurd c_10 (by decide)
              have c_10 : (0 : Int32) = 0 := of_decide_eq_true c_10
              refine wp_steps 2 (t' := (66, [some (.ref 84), some (.int v_1), some (.int 0), some (.int v_4)], [.int v_4, .int v_1], (HD, m_4, w_4, mr))) rfl ?_
              refine wp_bC rfl (fun c_11 => ?_) (fun c_11 => ?_)
              · have c_11 : ¬ v_1 = v_4 := of_decide_eq_true c_11
                refine wp_steps 1 (t' := (70, [some (.ref 84), some (.int v_1), some (.int 0), some (.int v_4)], [.int 0], (HD, m_4, w_4, mr))) rfl ?_
                refine wp_ret rfl rfl ⟨⟨Nat.le_refl _, Nat.le_refl _⟩, ?_⟩
                have eN := nt_l (b := b) (n := n) (deep := (some q)) (like := liF b n sub) nT
                have eo : (if (sub s).2.2.2.1 = 60 then (-14 : Int32) else -15) = -15 := by rw [e1]; rfl
                obtain ⟨k1, k2, k3⟩ := GO_bi (c := -15) h.2.2.1.2.2.2.2 g1 (by rw [e1]; decide) (go1.wk (by decide)) g4 go4 (by decide) (by decide)
                have ev : pfJ (-15) v_1 v_4 = 0 := by simp [pfJ, c_11]
                rw [ev] at k2
                refine ⟨_, _, _, rfl, rfl, (f1.tr f3).tr f4, ?_⟩
                rw [eN, li_ok hF (Or.inr e1), if_pos hF2, eo]
                exact ⟨fun _ => ⟨k1, k2⟩, fun z => Bool.noConfusion z⟩
              · have c_11 : v_1 = v_4 := Decidable.not_not.mp (of_decide_eq_false c_11)
                refine wp_steps 2 (t' := (70, [some (.ref 84), some (.int v_1), some (.int 0), some (.int v_4)], [.int 1], (HD, m_4, w_4, mr))) rfl ?_
                refine wp_ret rfl rfl ⟨⟨Nat.le_refl _, Nat.le_refl _⟩, ?_⟩
                have eN := nt_l (b := b) (n := n) (deep := (some q)) (like := liF b n sub) nT
                have eo : (if (sub s).2.2.2.1 = 60 then (-14 : Int32) else -15) = -15 := by rw [e1]; rfl
                obtain ⟨k1, k2, k3⟩ := GO_bi (c := -15) h.2.2.1.2.2.2.2 g1 (by rw [e1]; decide) (go1.wk (by decide)) g4 go4 (by decide) (by decide)
                have ev : pfJ (-15) v_1 v_4 = 1 := by simp [pfJ, c_11]
                rw [ev] at k2
                refine ⟨_, _, _, rfl, rfl, (f1.tr f3).tr f4, ?_⟩
                rw [eN, li_ok hF (Or.inr e1), if_pos hF2, eo]
                exact ⟨fun _ => ⟨k1, k2⟩, fun z => Bool.noConfusion z⟩
            · have g4 := r4.2 (Bool.eq_false_iff.mpr hF2)
              refine wp_steps 2 (t' := (59, [some (.ref 84), some (.int v_1), some (.int 0), some (.int v_4)], [.int 0], (HD, m_4, w_4, mr))) rfl ?_
              refine wp_bI rfl (fun c_12 => ?_) (fun c_12 => ?_)
              rotate_left
              · have c_12 : ¬ ((0 : Int32) = 0) := of_decide_eq_false c_12
                exact absurd c_12 (by decide)
              have c_12 : (0 : Int32) = 0 := of_decide_eq_true c_12
              refine wp_steps 2 (t' := (66, [some (.ref 84), some (.int v_1), some (.int 0), some (.int v_4)], [.int v_4, .int v_1], (HD, m_4, w_4, mr))) rfl ?_
              refine wp_bC rfl (fun c_13 => ?_) (fun c_13 => ?_)
              · have c_13 : ¬ v_1 = v_4 := of_decide_eq_true c_13
                refine wp_steps 1 (t' := (70, [some (.ref 84), some (.int v_1), some (.int 0), some (.int v_4)], [.int 0], (HD, m_4, w_4, mr))) rfl ?_
                refine wp_ret rfl rfl ⟨⟨Nat.le_refl _, Nat.le_refl _⟩, ?_⟩
                have eN := nt_l (b := b) (n := n) (deep := (some q)) (like := liF b n sub) nT
                refine ⟨_, _, _, rfl, rfl, (f1.tr f3).tr f4, ?_⟩
                rw [eN, li_ok hF (Or.inr e1), if_neg hF2]
                exact ⟨fun z => Bool.noConfusion z, fun _ => g4⟩
              · have c_13 : v_1 = v_4 := Decidable.not_not.mp (of_decide_eq_false c_13)
                refine wp_steps 2 (t' := (70, [some (.ref 84), some (.int v_1), some (.int 0), some (.int v_4)], [.int 1], (HD, m_4, w_4, mr))) rfl ?_
                refine wp_ret rfl rfl ⟨⟨Nat.le_refl _, Nat.le_refl _⟩, ?_⟩
                have eN := nt_l (b := b) (n := n) (deep := (some q)) (like := liF b n sub) nT
                refine ⟨_, _, _, rfl, rfl, (f1.tr f3).tr f4, ?_⟩
                rw [eN, li_ok hF (Or.inr e1), if_neg hF2]
                exact ⟨fun z => Bool.noConfusion z, fun _ => g4⟩
        · have c_8 : (if (sub s).2.2.2.1 = 61 then (1 : Int32) else 0) = 0 := Decidable.not_not.mp (of_decide_eq_false c_8)
          refine wp_steps 1 (t' := (43, [some (.ref 84), some (.int v_1), none, none], [.int v_1], (HD, m_1, w_1, mr))) rfl ?_
          refine wp_ret rfl rfl ⟨⟨Nat.le_refl _, Nat.le_refl _⟩, ?_⟩
          have eN := nt_l (b := b) (n := n) (deep := (some q)) (like := liF b n sub) nT
          refine ⟨_, _, _, rfl, rfl, f1, ?_⟩
          rw [eN, li_no hF (i0_f c_2) (i0_f c_8)]
          exact ⟨fun _ => ⟨g1, go1.wk (by decide)⟩, fun z => Bool.noConfusion z⟩
    · have g1 := r1.2 (Bool.eq_false_iff.mpr hF)
      refine wp_steps 3 (t' := (36, [some (.ref 84), some (.int v_1), none, none], [.int 60, .ref 84], (HD, m_1, w_1, mr))) rfl ?_
      refine wp_calv (as := [.int 60]) rfl rfl rfl (Nat.le_of_ble_eq_true rfl) ⟨by decide, rfl⟩ ((r_sign_b (ml := w_1) (mr := mr) g1.b (c := 60))) (by omega) ?_
      rintro _ _ ⟨rfl, rfl⟩
      show aWP _ _ (37, [some (.ref 84), some (.int v_1), none, none], [.int 0], (HD, m_1, w_1, mr)) _
      refine wp_bI rfl (fun c_14 => ?_) (fun c_14 => ?_)
      · have c_14 : ¬ (0 : Int32) = 0 := of_decide_eq_true c_14
        exact absurd c_14 (by decide)
      have c_14 : (0 : Int32) = 0 := Decidable.not_not.mp (of_decide_eq_false c_14)
      refine wp_steps 2 (t' := (40, [some (.ref 84), some (.int v_1), none, none], [.int 61, .ref 84], (HD, m_1, w_1, mr))) rfl ?_
      refine wp_calv (as := [.int 61]) rfl rfl rfl (Nat.le_of_ble_eq_true rfl) ⟨by decide, rfl⟩ ((r_sign_b (ml := w_1) (mr := mr) g1.b (c := 61))) (by omega) ?_
      rintro _ _ ⟨rfl, rfl⟩
      show aWP _ _ (41, [some (.ref 84), some (.int v_1), none, none], [.int 0], (HD, m_1, w_1, mr)) _
      refine wp_bI rfl (fun c_15 => ?_) (fun c_15 => ?_)
      · have c_15 : ¬ (0 : Int32) = 0 := of_decide_eq_true c_15
        exact absurd c_15 (by decide)
      have c_15 : (0 : Int32) = 0 := Decidable.not_not.mp (of_decide_eq_false c_15)
      refine wp_steps 1 (t' := (43, [some (.ref 84), some (.int v_1), none, none], [.int v_1], (HD, m_1, w_1, mr))) rfl ?_
      refine wp_ret rfl rfl ⟨⟨Nat.le_refl _, Nat.le_refl _⟩, ?_⟩
      have eN := nt_l (b := b) (n := n) (deep := (some q)) (like := liF b n sub) nT
      refine ⟨_, _, _, rfl, rfl, f1, ?_⟩
      rw [eN, li_ba hF]
      exact ⟨fun z => Bool.noConfusion z, fun _ => g1⟩
  · have c_1 : ¬ ((if s.2.2.1 = 8 then (1 : Int32) else 0) = 0) := of_decide_eq_false c_1
    refine wp_steps 1 (t' := (12, [some (.ref 84), none, none, none], [.ref 84], (HD, m, w, mr))) rfl ?_
    refine wp_calv (as := []) rfl rfl rfl (Nat.le_of_ble_eq_true rfl) ⟨by decide, rfl⟩ ((r_opens (ml := w) hM h hnn (by rw [← h.T, i0_t c_1]; decide) (by decide))) (by omega) ?_
    rintro _ _ ⟨rfl, m_1, w_1, rfl, f1, g1⟩
    have eT : s.2.2.1 = 8 := i0_t c_1
    show aWP _ _ (13, [some (.ref 84), none, none, none], [.int 1], (HD, m_1, w_1, mr)) _
    skip
    · skip
      refine wp_bI rfl (fun c_16 => ?_) (fun c_16 => ?_)
      rotate_left
      · have c_16 : (1 : Int32) = 0 := Decidable.not_not.mp (of_decide_eq_false c_16)
        exact absurd c_16 (by decide)
      have c_16 : ¬ (1 : Int32) = 0 := of_decide_eq_true c_16
      refine wp_steps 1 (t' := (17, [some (.ref 84), none, none, none], [.ref 84], (HD, m_1, w_1, mr))) rfl ?_
      refine wp_calv (as := []) rfl rfl rfl (Nat.le_of_ble_eq_true rfl) ⟨by decide, rfl⟩ ((h2 _ _ _ g1 (hnm.fr f1))) (by omega) ?_
      rintro _ _ ⟨v_2, m_2, w_2, rfl, rfl, f2, r2⟩
      show aWP _ _ (18, [some (.ref 84), none, none, none], [.int v_2], (HD, m_2, w_2, mr)) _
      by_cases hF : (q.2.1 (stP b n s)).1 = true
      · obtain ⟨g2, go2⟩ := r2.1 hF
        refine wp_steps 3 (t' := (21, [some (.ref 84), some (.int v_2), none, none], [.ref 84, .ref 84], (HD, m_2, w_2, mr))) rfl ?_
        refine wp_geti rfl ⟨by decide, rfl⟩ (Or.inl rfl) ?_
        refine wp_steps 2 (t' := (24, [some (.ref 84), some (.int v_2), none, none], [.int ((m_2 84 25) - 1), .ref 84], (HD, m_2, w_2, mr))) rfl ?_
        rw [show m_2 84 25 - 1 = nI 0 from by rw [g2.2.2.2.1]; exact nI_pred 0]
        refine wp_puti rfl ⟨by decide, rfl⟩ rfl (fun m_17 h_18 => ?_)
        subst h_18
        refine wp_steps 1 (t' := (26, [some (.ref 84), some (.int v_2), none, none], [.int v_2], (HD, (aup m_2 84 25 (nI 0)), w_2, mr))) rfl ?_
        refine wp_bI rfl (fun c_19 => ?_) (fun c_19 => ?_)
        · have c_19 : ¬ v_2 = 0 := of_decide_eq_true c_19
          refine wp_steps 1 (t' := (30, [some (.ref 84), some (.int v_2), none, none], [.int 0], (HD, (aup m_2 84 25 (nI 0)), w_2, mr))) rfl ?_
          refine wp_ret rfl rfl ⟨⟨Nat.le_refl _, Nat.le_refl _⟩, ?_⟩
          have e := nt_s (b := b) (n := n) (q := q) (like := liF b n sub) eT
          rw [if_pos hF] at e
          obtain ⟨k1, k2⟩ := GO_un h (by rw [eT]; decide) g2 go2 (Or.inl (rfl : (-13 : Int32) = -13))
          have ev : pfU (-13) v_2 = 0 := by simp [pfU, c_19]
          rw [ev] at k2
          refine ⟨_, _, _, rfl, rfl, (f1.tr f2).tr (frR.up (by decide) (by decide) _), ?_⟩
          rw [e]
          exact ⟨fun _ => ⟨k1.op 0, k2.wk (by decide)⟩, fun z => Bool.noConfusion z⟩
        · have c_19 : v_2 = 0 := Decidable.not_not.mp (of_decide_eq_false c_19)
          refine wp_steps 2 (t' := (30, [some (.ref 84), some (.int v_2), none, none], [.int 1], (HD, (aup m_2 84 25 (nI 0)), w_2, mr))) rfl ?_
          refine wp_ret rfl rfl ⟨⟨Nat.le_refl _, Nat.le_refl _⟩, ?_⟩
          have e := nt_s (b := b) (n := n) (q := q) (like := liF b n sub) eT
          rw [if_pos hF] at e
          obtain ⟨k1, k2⟩ := GO_un h (by rw [eT]; decide) g2 go2 (Or.inl (rfl : (-13 : Int32) = -13))
          have ev : pfU (-13) v_2 = 1 := by simp [pfU, c_19]
          rw [ev] at k2
          refine ⟨_, _, _, rfl, rfl, (f1.tr f2).tr (frR.up (by decide) (by decide) _), ?_⟩
          rw [e]
          exact ⟨fun _ => ⟨k1.op 0, k2.wk (by decide)⟩, fun z => Bool.noConfusion z⟩
      · have g2 := r2.2 (Bool.eq_false_iff.mpr hF)
        refine wp_steps 3 (t' := (21, [some (.ref 84), some (.int v_2), none, none], [.ref 84, .ref 84], (HD, m_2, w_2, mr))) rfl ?_
        refine wp_geti rfl ⟨by decide, rfl⟩ (Or.inl rfl) ?_
        refine wp_steps 2 (t' := (24, [some (.ref 84), some (.int v_2), none, none], [.int ((m_2 84 25) - 1), .ref 84], (HD, m_2, w_2, mr))) rfl ?_
        refine wp_puti rfl ⟨by decide, rfl⟩ rfl (fun m_20 h_21 => ?_)
        subst h_21
        refine wp_steps 1 (t' := (26, [some (.ref 84), some (.int v_2), none, none], [.int v_2], (HD, (aup m_2 84 25 ((m_2 84 25) - 1)), w_2, mr))) rfl ?_
        refine wp_bI rfl (fun c_22 => ?_) (fun c_22 => ?_)
        · have c_22 : ¬ v_2 = 0 := of_decide_eq_true c_22
          refine wp_steps 1 (t' := (30, [some (.ref 84), some (.int v_2), none, none], [.int 0], (HD, (aup m_2 84 25 ((m_2 84 25) - 1)), w_2, mr))) rfl ?_
          refine wp_ret rfl rfl ⟨⟨Nat.le_refl _, Nat.le_refl _⟩, ?_⟩
          have e := nt_s (b := b) (n := n) (q := q) (like := liF b n sub) eT
          rw [if_neg hF] at e
          refine ⟨_, _, _, rfl, rfl, (f1.tr f2).tr (frR.up (by decide) (by decide) _), ?_⟩
          rw [e]
          exact ⟨fun z => Bool.noConfusion z, fun _ => g2.up _⟩
        · have c_22 : v_2 = 0 := Decidable.not_not.mp (of_decide_eq_false c_22)
          refine wp_steps 2 (t' := (30, [some (.ref 84), some (.int v_2), none, none], [.int 1], (HD, (aup m_2 84 25 ((m_2 84 25) - 1)), w_2, mr))) rfl ?_
          refine wp_ret rfl rfl ⟨⟨Nat.le_refl _, Nat.le_refl _⟩, ?_⟩
          have e := nt_s (b := b) (n := n) (q := q) (like := liF b n sub) eT
          rw [if_neg hF] at e
          refine ⟨_, _, _, rfl, rfl, (f1.tr f2).tr (frR.up (by decide) (by decide) _), ?_⟩
          rw [e]
          exact ⟨fun z => Bool.noConfusion z, fun _ => g2.up _⟩
theorem lr_0 {X : aXt × Value} {mr : Nat → Nat → Option Nat} (hM : MRok mr) {b : Nat → Int32} {n t : Nat} (hnn : nnB b n) {nm : Nat → Int32} : cwR X mr b n t 5 nm 10 138 6 (leP b n 0).1 ∧ cwR X mr b n t 5 nm 10 136 4 (leP b n 0).2.1 ∧ cwR X mr b n t 5 nm 10 133 1 (leP b n 0).2.2 := by
  have a := r_atom5 (X := X) (t := t) (nm := nm) hM hnn (d := 4) (by decide)
  have ad := r_added5 hM hnn (by decide) (r_term5 hM hnn (by decide) a)
  have nt := r_not5 hM hnn (by decide) ad
  exact ⟨r_either5 hM hnn (by decide) (r_both5 hM hnn (by decide) nt), cwR_up nt (by decide) (by decide), cwR_up a (by decide) (by decide)⟩
theorem lr_1 {X : aXt × Value} {mr : Nat → Nat → Option Nat} (hM : MRok mr) {b : Nat → Int32} {n t : Nat} (hnn : nnB b n) {nm : Nat → Int32} : cwR X mr b n t 4 nm 16 144 11 (leP b n 1).1 ∧ cwR X mr b n t 4 nm 16 142 9 (leP b n 1).2.1 ∧ cwR X mr b n t 4 nm 16 139 6 (leP b n 1).2.2 := by
  obtain ⟨h1, h2, h3⟩ := lr_0 (X := X) (t := t) (nm := nm) hM hnn
  have a := r_atom4 (X := X) (t := t) (nm := nm) hM hnn (d := 10) (by decide) h1 h2 h3
  have ad := r_added4 hM hnn (by decide) (r_term4 hM hnn (by decide) a)
  have nt := r_not4 hM hnn (by decide) ad (cwR_up h2 (by decide) (by decide))
  exact ⟨r_either4 hM hnn (by decide) (r_both4 hM hnn (by decide) nt), cwR_up nt (by decide) (by decide), cwR_up a (by decide) (by decide)⟩
theorem lr_2 {X : aXt × Value} {mr : Nat → Nat → Option Nat} (hM : MRok mr) {b : Nat → Int32} {n t : Nat} (hnn : nnB b n) {nm : Nat → Int32} : cwR X mr b n t 3 nm 22 150 16 (leP b n 2).1 ∧ cwR X mr b n t 3 nm 22 148 14 (leP b n 2).2.1 ∧ cwR X mr b n t 3 nm 22 145 11 (leP b n 2).2.2 := by
  obtain ⟨h1, h2, h3⟩ := lr_1 (X := X) (t := t) (nm := nm) hM hnn
  have a := r_atom3 (X := X) (t := t) (nm := nm) hM hnn (d := 16) (by decide) h1 h2 h3
  have ad := r_added3 hM hnn (by decide) (r_term3 hM hnn (by decide) a)
  have nt := r_not3 hM hnn (by decide) ad (cwR_up h2 (by decide) (by decide))
  exact ⟨r_either3 hM hnn (by decide) (r_both3 hM hnn (by decide) nt), cwR_up nt (by decide) (by decide), cwR_up a (by decide) (by decide)⟩
theorem lr_3 {X : aXt × Value} {mr : Nat → Nat → Option Nat} (hM : MRok mr) {b : Nat → Int32} {n t : Nat} (hnn : nnB b n) {nm : Nat → Int32} : cwR X mr b n t 2 nm 28 156 21 (leP b n 3).1 ∧ cwR X mr b n t 2 nm 28 154 19 (leP b n 3).2.1 ∧ cwR X mr b n t 2 nm 28 151 16 (leP b n 3).2.2 := by
  obtain ⟨h1, h2, h3⟩ := lr_2 (X := X) (t := t) (nm := nm) hM hnn
  have a := r_atom2 (X := X) (t := t) (nm := nm) hM hnn (d := 22) (by decide) h1 h2 h3
  have ad := r_added2 hM hnn (by decide) (r_term2 hM hnn (by decide) a)
  have nt := r_not2 hM hnn (by decide) ad (cwR_up h2 (by decide) (by decide))
  exact ⟨r_either2 hM hnn (by decide) (r_both2 hM hnn (by decide) nt), cwR_up nt (by decide) (by decide), cwR_up a (by decide) (by decide)⟩
theorem lr_4 {X : aXt × Value} {mr : Nat → Nat → Option Nat} (hM : MRok mr) {b : Nat → Int32} {n t : Nat} (hnn : nnB b n) {nm : Nat → Int32} : cwR X mr b n t 1 nm 34 162 26 (leP b n 4).1 ∧ cwR X mr b n t 1 nm 34 160 24 (leP b n 4).2.1 ∧ cwR X mr b n t 1 nm 34 157 21 (leP b n 4).2.2 := by
  obtain ⟨h1, h2, h3⟩ := lr_3 (X := X) (t := t) (nm := nm) hM hnn
  have a := r_atom1 (X := X) (t := t) (nm := nm) hM hnn (d := 28) (by decide) h1 h2 h3
  have ad := r_added1 hM hnn (by decide) (r_term1 hM hnn (by decide) a)
  have nt := r_not1 hM hnn (by decide) ad (cwR_up h2 (by decide) (by decide))
  exact ⟨r_either1 hM hnn (by decide) (r_both1 hM hnn (by decide) nt), cwR_up nt (by decide) (by decide), cwR_up a (by decide) (by decide)⟩
theorem lr_5 {X : aXt × Value} {mr : Nat → Nat → Option Nat} (hM : MRok mr) {b : Nat → Int32} {n t : Nat} (hnn : nnB b n) {nm : Nat → Int32} : cwR X mr b n t 0 nm 40 168 31 (leP b n 5).1 ∧ cwR X mr b n t 0 nm 40 166 29 (leP b n 5).2.1 ∧ cwR X mr b n t 0 nm 40 163 26 (leP b n 5).2.2 := by
  obtain ⟨h1, h2, h3⟩ := lr_4 (X := X) (t := t) (nm := nm) hM hnn
  have a := r_atom0 (X := X) (t := t) (nm := nm) hM hnn (d := 34) (by decide) h1 h2 h3
  have ad := r_added0 hM hnn (by decide) (r_term0 hM hnn (by decide) a)
  have nt := r_not0 hM hnn (by decide) ad (cwR_up h2 (by decide) (by decide))
  exact ⟨r_either0 hM hnn (by decide) (r_both0 hM hnn (by decide) nt), cwR_up nt (by decide) (by decide), cwR_up a (by decide) (by decide)⟩
