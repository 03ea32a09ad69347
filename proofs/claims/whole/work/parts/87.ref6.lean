/-! the reference's chains, its six levels (written by wip/whole/mkref6.py) -/
set_option maxRecDepth 20000 in
set_option maxHeartbeats 1000000 in
theorem l_term5 {X : aXt × Value} {mr : Nat → Nat → Option Nat} (hM : MRok mr) {b : Nat → Int32} {n t : Nat} (hnn : nnB b n) {nm : Nat → Int32} {d : Nat} (hd : 4 ≤ d) {sub : pF} (hsub : cwR X mr b n t 5 nm d 133 1 sub) {s0 : pS} (hs0 : s0.2.2.2.2.length ≤ s0.1) {m0 : Nat → Nat → Int32} : ∀ (g : Nat) (v : Int32) (m : Nat → Nat → Int32) (w : Nat → Nat → Int64) (s : pS), RS b n t 5 m w s → GO nm 2 s0 s v → nmO m nm → frR m0 m → n ≤ s.1 + g → aWP (aEx (aTb X) d) cd_X7_term5 (3, [some (.ref 84), some (.int v)], [], (HD, m, w, mr)) (fun r h' => (HD.1 ≤ h'.1.1 ∧ HD.2.1 ≤ h'.1.2.1) ∧ ∃ v m' w', r = some (.int v) ∧ h' = (HD, m', w', mr) ∧ frR m0 m' ∧ RES b n t 5 nm 2 m' w' s0 (lpF b n joT sub g s) v) := by
  intro g
  induction g with
  | zero =>
    intro v m w s h go hnm hf hg
    have h0 : s.2.2.1 = 0 := h.T.trans (lx_n (by omega))
    refine wp_steps 2 (t' := (5, [some (.ref 84), some (.int v)], [.int 42, .ref 84], (HD, m, w, mr))) rfl ?_
    refine wp_calv (as := [.int 42]) rfl rfl rfl (Nat.le_of_ble_eq_true rfl) ⟨by decide, rfl⟩ ((r_sign (ml := w) hM h (c := 42) (by decide))) (by omega) ?_
    rintro _ _ ⟨rfl, rfl⟩
    show aWP _ _ (6, [some (.ref 84), some (.int v)], [.int (if s.2.2.1 = 42 then (1 : Int32) else 0)], (HD, m, w, mr)) _
    refine wp_bI rfl (fun c_1 => ?_) (fun c_1 => ?_)
    rotate_left
    · have c_1 : ¬ ((if s.2.2.1 = 42 then (1 : Int32) else 0) = 0) := of_decide_eq_false c_1
      exact absurd (if_neg (by rw [h0]; decide)) c_1
    have c_1 : (if s.2.2.1 = 42 then (1 : Int32) else 0) = 0 := of_decide_eq_true c_1
    refine wp_steps 1 (t' := (16, [some (.ref 84), some (.int v)], [.int v], (HD, m, w, mr))) rfl ?_
    refine wp_ret rfl rfl ⟨⟨Nat.le_refl _, Nat.le_refl _⟩, ?_⟩
    have hj : joT s.2.2.1 = 0 := by simp [joT, i0_f c_1]
    have e : lpF b n joT sub 0 s = (true, s) := rfl
    refine ⟨_, _, _, rfl, rfl, hf, ?_⟩
    rw [e]
    exact ⟨fun _ => ⟨h, go⟩, fun z => Bool.noConfusion z⟩
  | succ g ih =>
    intro v m w s h go hnm hf hg
    refine wp_steps 2 (t' := (5, [some (.ref 84), some (.int v)], [.int 42, .ref 84], (HD, m, w, mr))) rfl ?_
    refine wp_calv (as := [.int 42]) rfl rfl rfl (Nat.le_of_ble_eq_true rfl) ⟨by decide, rfl⟩ ((r_sign (ml := w) hM h (c := 42) (by decide))) (by omega) ?_
    rintro _ _ ⟨rfl, rfl⟩
    show aWP _ _ (6, [some (.ref 84), some (.int v)], [.int (if s.2.2.1 = 42 then (1 : Int32) else 0)], (HD, m, w, mr)) _
    refine wp_bI rfl (fun c_1 => ?_) (fun c_1 => ?_)
    · have c_1 : (if s.2.2.1 = 42 then (1 : Int32) else 0) = 0 := of_decide_eq_true c_1
      refine wp_steps 1 (t' := (16, [some (.ref 84), some (.int v)], [.int v], (HD, m, w, mr))) rfl ?_
      refine wp_ret rfl rfl ⟨⟨Nat.le_refl _, Nat.le_refl _⟩, ?_⟩
      have hj : joT s.2.2.1 = 0 := by simp [joT, i0_f c_1]
      have e : lpF b n joT sub (g + 1) s = (true, s) := if_pos hj
      refine ⟨_, _, _, rfl, rfl, hf, ?_⟩
      rw [e]
      exact ⟨fun _ => ⟨h, go⟩, fun z => Bool.noConfusion z⟩
    · have c_1 : ¬ ((if s.2.2.1 = 42 then (1 : Int32) else 0) = 0) := of_decide_eq_false c_1
      refine wp_steps 1 (t' := (8, [some (.ref 84), some (.int v)], [.ref 84], (HD, m, w, mr))) rfl ?_
      have eT : s.2.2.1 = 42 := i0_t c_1
      refine wp_calv (as := []) rfl rfl rfl (Nat.le_of_ble_eq_true rfl) ⟨by decide, rfl⟩ ((r_next (ml := w) hM h hnn (by rw [← h.T, eT]; decide))) (by omega) ?_
      rintro _ _ ⟨rfl, m_1, w_1, rfl, f1, g1⟩
      show aWP _ _ (9, [some (.ref 84), some (.int v)], [], (HD, m_1, w_1, mr)) _
      refine wp_steps 2 (t' := (11, [some (.ref 84), some (.int v)], [.ref 84, .int v], (HD, m_1, w_1, mr))) rfl ?_
      refine wp_calv (as := []) rfl rfl rfl (Nat.le_of_ble_eq_true rfl) ⟨by decide, rfl⟩ ((hsub _ _ _ g1 (hnm.fr f1))) (by omega) ?_
      rintro _ _ ⟨v_2, m_2, w_2, rfl, rfl, f2, r2⟩
      show aWP _ _ (12, [some (.ref 84), some (.int v)], [.int v_2, .int v], (HD, m_2, w_2, mr)) _
      by_cases hF : (sub (stP b n s)).1 = true
      · obtain ⟨g2, go2⟩ := r2.1 hF
        refine wp_steps 3 (t' := (3, [some (.ref 84), some (.int (v * v_2))], [], (HD, m_2, w_2, mr))) rfl ?_
        have hj : joT s.2.2.1 = -18 := by rw [eT]; rfl
        have ev : pfJ (-18) v v_2 = v * v_2 := rfl
        obtain ⟨k1, k2, k3⟩ := GO_bi (c := -18) hs0 h (by rw [eT]; decide) go g2 go2 (by decide) (by decide)
        rw [ev] at k2
        have e : lpF b n joT sub (g + 1) s = lpF b n joT sub g (adP (-18) (sub (stP b n s)).2) := by
          show (if _ then _ else _) = _
          rw [hj, if_neg (by decide), if_pos hF]
        rw [e]
        exact ih _ _ _ _ k1 k2 ((hnm.fr f1).fr f2) ((hf.tr f1).tr f2) (by omega)
      · have g2 := r2.2 (Bool.eq_false_iff.mpr hF)
        refine wp_steps 5 (t' := (5, [some (.ref 84), some (.int (v * v_2))], [.int 42, .ref 84], (HD, m_2, w_2, mr))) rfl ?_
        refine wp_calv (as := [.int 42]) rfl rfl rfl (Nat.le_of_ble_eq_true rfl) ⟨by decide, rfl⟩ ((r_sign_b (ml := w_2) (mr := mr) g2.b (c := 42))) (by omega) ?_
        rintro _ _ ⟨rfl, rfl⟩
        show aWP _ _ (6, [some (.ref 84), some (.int (v * v_2))], [.int 0], (HD, m_2, w_2, mr)) _
        refine wp_bI rfl (fun c_2 => ?_) (fun c_2 => ?_)
        rotate_left
        · have c_2 : ¬ ((0 : Int32) = 0) := of_decide_eq_false c_2
          exact absurd c_2 (by decide)
        have c_2 : (0 : Int32) = 0 := of_decide_eq_true c_2
        refine wp_steps 1 (t' := (16, [some (.ref 84), some (.int (v * v_2))], [.int (v * v_2)], (HD, m_2, w_2, mr))) rfl ?_
        refine wp_ret rfl rfl ⟨⟨Nat.le_refl _, Nat.le_refl _⟩, ?_⟩
        have hj : joT s.2.2.1 = -18 := by rw [eT]; rfl
        have e : lpF b n joT sub (g + 1) s = (false, (sub (stP b n s)).2) := by
          show (if _ then _ else _) = _
          rw [hj, if_neg (by decide), if_neg hF]
        refine ⟨_, _, _, rfl, rfl, (hf.tr f1).tr f2, ?_⟩
        rw [e]
        exact ⟨fun z => Bool.noConfusion z, fun _ => g2⟩
set_option maxRecDepth 20000 in
set_option maxHeartbeats 1000000 in
theorem r_term5 {X : aXt × Value} {mr : Nat → Nat → Option Nat} (hM : MRok mr) {b : Nat → Int32} {n t : Nat} (hnn : nnB b n) {nm : Nat → Int32} {d : Nat} (hd : 4 ≤ d) {sub : pF} (hsub : cwR X mr b n t 5 nm d 133 1 sub) : cwR X mr b n t 5 nm (d + 1) 134 2 (chF b n joT sub) := by
  intro m w s h hnm
  refine cw_of (cd := cd_X7_term5) (nL := 2) rfl rfl ?_
  show aWP _ _ (0, [some (.ref 84), none], [], (HD, m, w, mr)) _
  refine wp_steps 1 (t' := (1, [some (.ref 84), none], [.ref 84], (HD, m, w, mr))) rfl ?_
  refine wp_calv (as := []) rfl rfl rfl (Nat.le_of_ble_eq_true rfl) ⟨by decide, rfl⟩ ((hsub _ _ _ h hnm)) (by omega) ?_
  rintro _ _ ⟨v_2, m_2, w_2, rfl, rfl, f2, r2⟩
  show aWP _ _ (2, [some (.ref 84), none], [.int v_2], (HD, m_2, w_2, mr)) _
  by_cases hF : (sub s).1 = true
  · obtain ⟨g2, go2⟩ := r2.1 hF
    refine wp_steps 1 (t' := (3, [some (.ref 84), some (.int v_2)], [], (HD, m_2, w_2, mr))) rfl ?_
    have e : chF b n joT sub s = lpF b n joT sub 160 (sub s).2 := if_pos hF
    rw [e]
    exact l_term5 hM hnn hd hsub h.2.2.1.2.2.2.2 160 _ _ _ _ g2 (go2.wk (by decide)) (hnm.fr f2) f2 (by have := g2.1.1.2.2.2; omega)
  · have g2 := r2.2 (Bool.eq_false_iff.mpr hF)
    refine wp_steps 3 (t' := (5, [some (.ref 84), some (.int v_2)], [.int 42, .ref 84], (HD, m_2, w_2, mr))) rfl ?_
    refine wp_calv (as := [.int 42]) rfl rfl rfl (Nat.le_of_ble_eq_true rfl) ⟨by decide, rfl⟩ ((r_sign_b (ml := w_2) (mr := mr) g2.b (c := 42))) (by omega) ?_
    rintro _ _ ⟨rfl, rfl⟩
    show aWP _ _ (6, [some (.ref 84), some (.int v_2)], [.int 0], (HD, m_2, w_2, mr)) _
    refine wp_bI rfl (fun c_1 => ?_) (fun c_1 => ?_)
    rotate_left
    · have c_1 : ¬ ((0 : Int32) = 0) := of_decide_eq_false c_1
      exact absurd c_1 (by decide)
    have c_1 : (0 : Int32) = 0 := of_decide_eq_true c_1
    refine wp_steps 1 (t' := (16, [some (.ref 84), some (.int v_2)], [.int v_2], (HD, m_2, w_2, mr))) rfl ?_
    refine wp_ret rfl rfl ⟨⟨Nat.le_refl _, Nat.le_refl _⟩, ?_⟩
    have e : chF b n joT sub s = (false, (sub s).2) := if_neg hF
    refine ⟨_, _, _, rfl, rfl, f2, ?_⟩
    rw [e]
    exact ⟨fun z => Bool.noConfusion z, fun _ => g2⟩
set_option maxRecDepth 20000 in
set_option maxHeartbeats 1000000 in
theorem l_added5 {X : aXt × Value} {mr : Nat → Nat → Option Nat} (hM : MRok mr) {b : Nat → Int32} {n t : Nat} (hnn : nnB b n) {nm : Nat → Int32} {d : Nat} (hd : 4 ≤ d) {sub : pF} (hsub : cwR X mr b n t 5 nm d 134 2 sub) {s0 : pS} (hs0 : s0.2.2.2.2.length ≤ s0.1) {m0 : Nat → Nat → Int32} : ∀ (g : Nat) (v : Int32) (m : Nat → Nat → Int32) (w : Nat → Nat → Int64) (s : pS) (o1 o2 : Option Value), RS b n t 5 m w s → GO nm 3 s0 s v → nmO m nm → frR m0 m → n ≤ s.1 + g → aWP (aEx (aTb X) d) cd_X7_added5 (3, [some (.ref 84), some (.int v), o1, o2], [], (HD, m, w, mr)) (fun r h' => (HD.1 ≤ h'.1.1 ∧ HD.2.1 ≤ h'.1.2.1) ∧ ∃ v m' w', r = some (.int v) ∧ h' = (HD, m', w', mr) ∧ frR m0 m' ∧ RES b n t 5 nm 3 m' w' s0 (lpF b n joS sub g s) v) := by
  intro g
  induction g with
  | zero =>
    intro v m w s o1 o2 h go hnm hf hg
    have h0 : s.2.2.1 = 0 := h.T.trans (lx_n (by omega))
    refine wp_steps 2 (t' := (5, [some (.ref 84), some (.int v), o1, o2], [.int 43, .ref 84], (HD, m, w, mr))) rfl ?_
    refine wp_calv (as := [.int 43]) rfl rfl rfl (Nat.le_of_ble_eq_true rfl) ⟨by decide, rfl⟩ ((r_sign (ml := w) hM h (c := 43) (by decide))) (by omega) ?_
    rintro _ _ ⟨rfl, rfl⟩
    show aWP _ _ (6, [some (.ref 84), some (.int v), o1, o2], [.int (if s.2.2.1 = 43 then (1 : Int32) else 0)], (HD, m, w, mr)) _
    refine wp_bI rfl (fun c_1 => ?_) (fun c_1 => ?_)
    · have c_1 : ¬ (if s.2.2.1 = 43 then (1 : Int32) else 0) = 0 := of_decide_eq_true c_1
      exact absurd (if_neg (by rw [h0]; decide)) c_1
    have c_1 : (if s.2.2.1 = 43 then (1 : Int32) else 0) = 0 := Decidable.not_not.mp (of_decide_eq_false c_1)
    refine wp_steps 2 (t' := (9, [some (.ref 84), some (.int v), o1, o2], [.int 45, .ref 84], (HD, m, w, mr))) rfl ?_
    refine wp_calv (as := [.int 45]) rfl rfl rfl (Nat.le_of_ble_eq_true rfl) ⟨by decide, rfl⟩ ((r_sign (ml := w) hM h (c := 45) (by decide))) (by omega) ?_
    rintro _ _ ⟨rfl, rfl⟩
    show aWP _ _ (10, [some (.ref 84), some (.int v), o1, o2], [.int (if s.2.2.1 = 45 then (1 : Int32) else 0)], (HD, m, w, mr)) _
    refine wp_bI rfl (fun c_2 => ?_) (fun c_2 => ?_)
    rotate_left
    · have c_2 : ¬ ((if s.2.2.1 = 45 then (1 : Int32) else 0) = 0) := of_decide_eq_false c_2
      exact absurd (if_neg (by rw [h0]; decide)) c_2
    have c_2 : (if s.2.2.1 = 45 then (1 : Int32) else 0) = 0 := of_decide_eq_true c_2
    refine wp_steps 1 (t' := (37, [some (.ref 84), some (.int v), o1, o2], [.int v], (HD, m, w, mr))) rfl ?_
    refine wp_ret rfl rfl ⟨⟨Nat.le_refl _, Nat.le_refl _⟩, ?_⟩
    have hj : joS s.2.2.1 = 0 := by simp [joS, i0_f c_1, i0_f c_2]
    have e : lpF b n joS sub 0 s = (true, s) := rfl
    refine ⟨_, _, _, rfl, rfl, hf, ?_⟩
    rw [e]
    exact ⟨fun _ => ⟨h, go⟩, fun z => Bool.noConfusion z⟩
  | succ g ih =>
    intro v m w s o1 o2 h go hnm hf hg
    refine wp_steps 2 (t' := (5, [some (.ref 84), some (.int v), o1, o2], [.int 43, .ref 84], (HD, m, w, mr))) rfl ?_
    refine wp_calv (as := [.int 43]) rfl rfl rfl (Nat.le_of_ble_eq_true rfl) ⟨by decide, rfl⟩ ((r_sign (ml := w) hM h (c := 43) (by decide))) (by omega) ?_
    rintro _ _ ⟨rfl, rfl⟩
    show aWP _ _ (6, [some (.ref 84), some (.int v), o1, o2], [.int (if s.2.2.1 = 43 then (1 : Int32) else 0)], (HD, m, w, mr)) _
    refine wp_bI rfl (fun c_1 => ?_) (fun c_1 => ?_)
    · have c_1 : ¬ (if s.2.2.1 = 43 then (1 : Int32) else 0) = 0 := of_decide_eq_true c_1
      refine wp_steps 1 (t' := (12, [some (.ref 84), some (.int v), o1, o2], [.ref 84], (HD, m, w, mr))) rfl ?_
      refine wp_getl rfl ⟨by decide, rfl⟩ rfl ?_
      have ew : w 84 24 = (43 : Int32).toInt64 := h.sg (by decide) (i0_t c_1)
      rw [ew]
      refine wp_steps 2 (t' := (15, [some (.ref 84), some (.int v), o1, o2], [.int (lg_cmp ((43 : Int32).toInt64) 43)], (HD, m, w, mr))) rfl ?_
      refine wp_bI rfl (fun c_2 => ?_) (fun c_2 => ?_)
      · have c_2 : ¬ (lg_cmp ((43 : Int32).toInt64) 43) = 0 := of_decide_eq_true c_2
        exact absurd ((lg_cmp_eq _ _).mpr (by decide)) c_2
      have c_2 : (lg_cmp ((43 : Int32).toInt64) 43) = 0 := Decidable.not_not.mp (of_decide_eq_false c_2)
      refine wp_steps 4 (t' := (21, [some (.ref 84), some (.int v), some (.int 1), o2], [.ref 84], (HD, m, w, mr))) rfl ?_
      have eT : s.2.2.1 = 43 := i0_t c_1
      refine wp_calv (as := []) rfl rfl rfl (Nat.le_of_ble_eq_true rfl) ⟨by decide, rfl⟩ ((r_next (ml := w) hM h hnn (by rw [← h.T, eT]; decide))) (by omega) ?_
      rintro _ _ ⟨rfl, m_1, w_1, rfl, f1, g1⟩
      show aWP _ _ (22, [some (.ref 84), some (.int v), some (.int 1), o2], [], (HD, m_1, w_1, mr)) _
      refine wp_steps 1 (t' := (23, [some (.ref 84), some (.int v), some (.int 1), o2], [.ref 84], (HD, m_1, w_1, mr))) rfl ?_
      refine wp_calv (as := []) rfl rfl rfl (Nat.le_of_ble_eq_true rfl) ⟨by decide, rfl⟩ ((hsub _ _ _ g1 (hnm.fr f1))) (by omega) ?_
      rintro _ _ ⟨v_2, m_2, w_2, rfl, rfl, f2, r2⟩
      show aWP _ _ (24, [some (.ref 84), some (.int v), some (.int 1), o2], [.int v_2], (HD, m_2, w_2, mr)) _
      by_cases hF : (sub (stP b n s)).1 = true
      · obtain ⟨g2, go2⟩ := r2.1 hF
        refine wp_steps 2 (t' := (26, [some (.ref 84), some (.int v), some (.int 1), some (.int v_2)], [.int 1], (HD, m_2, w_2, mr))) rfl ?_
        refine wp_bI rfl (fun c_3 => ?_) (fun c_3 => ?_)
        · have c_3 : (1 : Int32) = 0 := of_decide_eq_true c_3
          exact absurd c_3 (by decide)
        have c_3 : ¬ ((1 : Int32) = 0) := of_decide_eq_false c_3
        refine wp_steps 6 (t' := (3, [some (.ref 84), some (.int (v + v_2)), some (.int 1), some (.int v_2)], [], (HD, m_2, w_2, mr))) rfl ?_
        have hj : joS s.2.2.1 = -16 := by rw [eT]; rfl
        have ev : pfJ (-16) v v_2 = v + v_2 := rfl
        obtain ⟨k1, k2, k3⟩ := GO_bi (c := -16) hs0 h (by rw [eT]; decide) go g2 go2 (by decide) (by decide)
        rw [ev] at k2
        have e : lpF b n joS sub (g + 1) s = lpF b n joS sub g (adP (-16) (sub (stP b n s)).2) := by
          show (if _ then _ else _) = _
          rw [hj, if_neg (by decide), if_pos hF]
        rw [e]
        exact ih _ _ _ _ _ _ k1 k2 ((hnm.fr f1).fr f2) ((hf.tr f1).tr f2) (by omega)
      · have g2 := r2.2 (Bool.eq_false_iff.mpr hF)
        refine wp_steps 2 (t' := (26, [some (.ref 84), some (.int v), some (.int 1), some (.int v_2)], [.int 1], (HD, m_2, w_2, mr))) rfl ?_
        refine wp_bI rfl (fun c_4 => ?_) (fun c_4 => ?_)
        · have c_4 : (1 : Int32) = 0 := of_decide_eq_true c_4
          exact absurd c_4 (by decide)
        have c_4 : ¬ ((1 : Int32) = 0) := of_decide_eq_false c_4
        refine wp_steps 8 (t' := (5, [some (.ref 84), some (.int (v + v_2)), some (.int 1), some (.int v_2)], [.int 43, .ref 84], (HD, m_2, w_2, mr))) rfl ?_
        refine wp_calv (as := [.int 43]) rfl rfl rfl (Nat.le_of_ble_eq_true rfl) ⟨by decide, rfl⟩ ((r_sign_b (ml := w_2) (mr := mr) g2.b (c := 43))) (by omega) ?_
        rintro _ _ ⟨rfl, rfl⟩
        show aWP _ _ (6, [some (.ref 84), some (.int (v + v_2)), some (.int 1), some (.int v_2)], [.int 0], (HD, m_2, w_2, mr)) _
        refine wp_bI rfl (fun c_5 => ?_) (fun c_5 => ?_)
        · have c_5 : ¬ (0 : Int32) = 0 := of_decide_eq_true c_5
          exact absurd c_5 (by decide)
        have c_5 : (0 : Int32) = 0 := Decidable.not_not.mp (of_decide_eq_false c_5)
        refine wp_steps 2 (t' := (9, [some (.ref 84), some (.int (v + v_2)), some (.int 1), some (.int v_2)], [.int 45, .ref 84], (HD, m_2, w_2, mr))) rfl ?_
        refine wp_calv (as := [.int 45]) rfl rfl rfl (Nat.le_of_ble_eq_true rfl) ⟨by decide, rfl⟩ ((r_sign_b (ml := w_2) (mr := mr) g2.b (c := 45))) (by omega) ?_
        rintro _ _ ⟨rfl, rfl⟩
        show aWP _ _ (10, [some (.ref 84), some (.int (v + v_2)), some (.int 1), some (.int v_2)], [.int 0], (HD, m_2, w_2, mr)) _
        refine wp_bI rfl (fun c_6 => ?_) (fun c_6 => ?_)
        rotate_left
        · have c_6 : ¬ ((0 : Int32) = 0) := of_decide_eq_false c_6
          exact absurd c_6 (by decide)
        have c_6 : (0 : Int32) = 0 := of_decide_eq_true c_6
        refine wp_steps 1 (t' := (37, [some (.ref 84), some (.int (v + v_2)), some (.int 1), some (.int v_2)], [.int (v + v_2)], (HD, m_2, w_2, mr))) rfl ?_
        refine wp_ret rfl rfl ⟨⟨Nat.le_refl _, Nat.le_refl _⟩, ?_⟩
        have hj : joS s.2.2.1 = -16 := by rw [eT]; rfl
        have e : lpF b n joS sub (g + 1) s = (false, (sub (stP b n s)).2) := by
          show (if _ then _ else _) = _
          rw [hj, if_neg (by decide), if_neg hF]
        refine ⟨_, _, _, rfl, rfl, (hf.tr f1).tr f2, ?_⟩
        rw [e]
        exact ⟨fun z => Bool.noConfusion z, fun _ => g2⟩
    · have c_1 : (if s.2.2.1 = 43 then (1 : Int32) else 0) = 0 := Decidable.not_not.mp (of_decide_eq_false c_1)
      refine wp_steps 2 (t' := (9, [some (.ref 84), some (.int v), o1, o2], [.int 45, .ref 84], (HD, m, w, mr))) rfl ?_
      refine wp_calv (as := [.int 45]) rfl rfl rfl (Nat.le_of_ble_eq_true rfl) ⟨by decide, rfl⟩ ((r_sign (ml := w) hM h (c := 45) (by decide))) (by omega) ?_
      rintro _ _ ⟨rfl, rfl⟩
      show aWP _ _ (10, [some (.ref 84), some (.int v), o1, o2], [.int (if s.2.2.1 = 45 then (1 : Int32) else 0)], (HD, m, w, mr)) _
      refine wp_bI rfl (fun c_7 => ?_) (fun c_7 => ?_)
      · have c_7 : (if s.2.2.1 = 45 then (1 : Int32) else 0) = 0 := of_decide_eq_true c_7
        refine wp_steps 1 (t' := (37, [some (.ref 84), some (.int v), o1, o2], [.int v], (HD, m, w, mr))) rfl ?_
        refine wp_ret rfl rfl ⟨⟨Nat.le_refl _, Nat.le_refl _⟩, ?_⟩
        have hj : joS s.2.2.1 = 0 := by simp [joS, i0_f c_1, i0_f c_7]
        have e : lpF b n joS sub (g + 1) s = (true, s) := if_pos hj
        refine ⟨_, _, _, rfl, rfl, hf, ?_⟩
        rw [e]
        exact ⟨fun _ => ⟨h, go⟩, fun z => Bool.noConfusion z⟩
      · have c_7 : ¬ ((if s.2.2.1 = 45 then (1 : Int32) else 0) = 0) := of_decide_eq_false c_7
        refine wp_steps 1 (t' := (12, [some (.ref 84), some (.int v), o1, o2], [.ref 84], (HD, m, w, mr))) rfl ?_
        refine wp_getl rfl ⟨by decide, rfl⟩ rfl ?_
        have ew : w 84 24 = (45 : Int32).toInt64 := h.sg (by decide) (i0_t c_7)
        rw [ew]
        refine wp_steps 2 (t' := (15, [some (.ref 84), some (.int v), o1, o2], [.int (lg_cmp ((45 : Int32).toInt64) 43)], (HD, m, w, mr))) rfl ?_
        refine wp_bI rfl (fun c_8 => ?_) (fun c_8 => ?_)
        rotate_left
        · have c_8 : (lg_cmp ((45 : Int32).toInt64) 43) = 0 := Decidable.not_not.mp (of_decide_eq_false c_8)
          exact absurd ((lg_cmp_eq _ _).mp c_8) (by decide)
        have c_8 : ¬ (lg_cmp ((45 : Int32).toInt64) 43) = 0 := of_decide_eq_true c_8
        refine wp_steps 3 (t' := (21, [some (.ref 84), some (.int v), some (.int 0), o2], [.ref 84], (HD, m, w, mr))) rfl ?_
        have eT : s.2.2.1 = 45 := i0_t c_7
        refine wp_calv (as := []) rfl rfl rfl (Nat.le_of_ble_eq_true rfl) ⟨by decide, rfl⟩ ((r_next (ml := w) hM h hnn (by rw [← h.T, eT]; decide))) (by omega) ?_
        rintro _ _ ⟨rfl, m_1, w_1, rfl, f1, g1⟩
        show aWP _ _ (22, [some (.ref 84), some (.int v), some (.int 0), o2], [], (HD, m_1, w_1, mr)) _
        refine wp_steps 1 (t' := (23, [some (.ref 84), some (.int v), some (.int 0), o2], [.ref 84], (HD, m_1, w_1, mr))) rfl ?_
        refine wp_calv (as := []) rfl rfl rfl (Nat.le_of_ble_eq_true rfl) ⟨by decide, rfl⟩ ((hsub _ _ _ g1 (hnm.fr f1))) (by omega) ?_
        rintro _ _ ⟨v_2, m_2, w_2, rfl, rfl, f2, r2⟩
        show aWP _ _ (24, [some (.ref 84), some (.int v), some (.int 0), o2], [.int v_2], (HD, m_2, w_2, mr)) _
        by_cases hF : (sub (stP b n s)).1 = true
        · obtain ⟨g2, go2⟩ := r2.1 hF
          refine wp_steps 2 (t' := (26, [some (.ref 84), some (.int v), some (.int 0), some (.int v_2)], [.int 0], (HD, m_2, w_2, mr))) rfl ?_
          refine wp_bI rfl (fun c_9 => ?_) (fun c_9 => ?_)
          rotate_left
          · have c_9 : ¬ ((0 : Int32) = 0) := of_decide_eq_false c_9
            exact absurd c_9 (by decide)
          have c_9 : (0 : Int32) = 0 := of_decide_eq_true c_9
          refine wp_steps 5 (t' := (3, [some (.ref 84), some (.int (v - v_2)), some (.int 0), some (.int v_2)], [], (HD, m_2, w_2, mr))) rfl ?_
          have hj : joS s.2.2.1 = -17 := by rw [eT]; rfl
          have ev : pfJ (-17) v v_2 = v - v_2 := rfl
          obtain ⟨k1, k2, k3⟩ := GO_bi (c := -17) hs0 h (by rw [eT]; decide) go g2 go2 (by decide) (by decide)
          rw [ev] at k2
          have e : lpF b n joS sub (g + 1) s = lpF b n joS sub g (adP (-17) (sub (stP b n s)).2) := by
            show (if _ then _ else _) = _
            rw [hj, if_neg (by decide), if_pos hF]
          rw [e]
          exact ih _ _ _ _ _ _ k1 k2 ((hnm.fr f1).fr f2) ((hf.tr f1).tr f2) (by omega)
        · have g2 := r2.2 (Bool.eq_false_iff.mpr hF)
          refine wp_steps 2 (t' := (26, [some (.ref 84), some (.int v), some (.int 0), some (.int v_2)], [.int 0], (HD, m_2, w_2, mr))) rfl ?_
          refine wp_bI rfl (fun c_10 => ?_) (fun c_10 => ?_)
          rotate_left
          · have c_10 : ¬ ((0 : Int32) = 0) := of_decide_eq_false c_10
            exact absurd c_10 (by decide)
          have c_10 : (0 : Int32) = 0 := of_decide_eq_true c_10
          refine wp_steps 7 (t' := (5, [some (.ref 84), some (.int (v - v_2)), some (.int 0), some (.int v_2)], [.int 43, .ref 84], (HD, m_2, w_2, mr))) rfl ?_
          refine wp_calv (as := [.int 43]) rfl rfl rfl (Nat.le_of_ble_eq_true rfl) ⟨by decide, rfl⟩ ((r_sign_b (ml := w_2) (mr := mr) g2.b (c := 43))) (by omega) ?_
          rintro _ _ ⟨rfl, rfl⟩
          show aWP _ _ (6, [some (.ref 84), some (.int (v - v_2)), some (.int 0), some (.int v_2)], [.int 0], (HD, m_2, w_2, mr)) _
          refine wp_bI rfl (fun c_11 => ?_) (fun c_11 => ?_)
          · have c_11 : ¬ (0 : Int32) = 0 := of_decide_eq_true c_11
            exact absurd c_11 (by decide)
          have c_11 : (0 : Int32) = 0 := Decidable.not_not.mp (of_decide_eq_false c_11)
          refine wp_steps 2 (t' := (9, [some (.ref 84), some (.int (v - v_2)), some (.int 0), some (.int v_2)], [.int 45, .ref 84], (HD, m_2, w_2, mr))) rfl ?_
          refine wp_calv (as := [.int 45]) rfl rfl rfl (Nat.le_of_ble_eq_true rfl) ⟨by decide, rfl⟩ ((r_sign_b (ml := w_2) (mr := mr) g2.b (c := 45))) (by omega) ?_
          rintro _ _ ⟨rfl, rfl⟩
          show aWP _ _ (10, [some (.ref 84), some (.int (v - v_2)), some (.int 0), some (.int v_2)], [.int 0], (HD, m_2, w_2, mr)) _
          refine wp_bI rfl (fun c_12 => ?_) (fun c_12 => ?_)
          rotate_left
          · have c_12 : ¬ ((0 : Int32) = 0) := of_decide_eq_false c_12
            exact absurd c_12 (by decide)
          have c_12 : (0 : Int32) = 0 := of_decide_eq_true c_12
          refine wp_steps 1 (t' := (37, [some (.ref 84), some (.int (v - v_2)), some (.int 0), some (.int v_2)], [.int (v - v_2)], (HD, m_2, w_2, mr))) rfl ?_
          refine wp_ret rfl rfl ⟨⟨Nat.le_refl _, Nat.le_refl _⟩, ?_⟩
          have hj : joS s.2.2.1 = -17 := by rw [eT]; rfl
          have e : lpF b n joS sub (g + 1) s = (false, (sub (stP b n s)).2) := by
            show (if _ then _ else _) = _
            rw [hj, if_neg (by decide), if_neg hF]
          refine ⟨_, _, _, rfl, rfl, (hf.tr f1).tr f2, ?_⟩
          rw [e]
          exact ⟨fun z => Bool.noConfusion z, fun _ => g2⟩
set_option maxRecDepth 20000 in
set_option maxHeartbeats 1000000 in
theorem r_added5 {X : aXt × Value} {mr : Nat → Nat → Option Nat} (hM : MRok mr) {b : Nat → Int32} {n t : Nat} (hnn : nnB b n) {nm : Nat → Int32} {d : Nat} (hd : 4 ≤ d) {sub : pF} (hsub : cwR X mr b n t 5 nm d 134 2 sub) : cwR X mr b n t 5 nm (d + 1) 135 3 (chF b n joS sub) := by
  intro m w s h hnm
  refine cw_of (cd := cd_X7_added5) (nL := 4) rfl rfl ?_
  show aWP _ _ (0, [some (.ref 84), none, none, none], [], (HD, m, w, mr)) _
  refine wp_steps 1 (t' := (1, [some (.ref 84), none, none, none], [.ref 84], (HD, m, w, mr))) rfl ?_
  refine wp_calv (as := []) rfl rfl rfl (Nat.le_of_ble_eq_true rfl) ⟨by decide, rfl⟩ ((hsub _ _ _ h hnm)) (by omega) ?_
  rintro _ _ ⟨v_2, m_2, w_2, rfl, rfl, f2, r2⟩
  show aWP _ _ (2, [some (.ref 84), none, none, none], [.int v_2], (HD, m_2, w_2, mr)) _
  by_cases hF : (sub s).1 = true
  · obtain ⟨g2, go2⟩ := r2.1 hF
    refine wp_steps 1 (t' := (3, [some (.ref 84), some (.int v_2), none, none], [], (HD, m_2, w_2, mr))) rfl ?_
    have e : chF b n joS sub s = lpF b n joS sub 160 (sub s).2 := if_pos hF
    rw [e]
    exact l_added5 hM hnn hd hsub h.2.2.1.2.2.2.2 160 _ _ _ _ _ _ g2 (go2.wk (by decide)) (hnm.fr f2) f2 (by have := g2.1.1.2.2.2; omega)
  · have g2 := r2.2 (Bool.eq_false_iff.mpr hF)
    refine wp_steps 3 (t' := (5, [some (.ref 84), some (.int v_2), none, none], [.int 43, .ref 84], (HD, m_2, w_2, mr))) rfl ?_
    refine wp_calv (as := [.int 43]) rfl rfl rfl (Nat.le_of_ble_eq_true rfl) ⟨by decide, rfl⟩ ((r_sign_b (ml := w_2) (mr := mr) g2.b (c := 43))) (by omega) ?_
    rintro _ _ ⟨rfl, rfl⟩
    show aWP _ _ (6, [some (.ref 84), some (.int v_2), none, none], [.int 0], (HD, m_2, w_2, mr)) _
    refine wp_bI rfl (fun c_1 => ?_) (fun c_1 => ?_)
    · have c_1 : ¬ (0 : Int32) = 0 := of_decide_eq_true c_1
      exact absurd c_1 (by decide)
    have c_1 : (0 : Int32) = 0 := Decidable.not_not.mp (of_decide_eq_false c_1)
    refine wp_steps 2 (t' := (9, [some (.ref 84), some (.int v_2), none, none], [.int 45, .ref 84], (HD, m_2, w_2, mr))) rfl ?_
    refine wp_calv (as := [.int 45]) rfl rfl rfl (Nat.le_of_ble_eq_true rfl) ⟨by decide, rfl⟩ ((r_sign_b (ml := w_2) (mr := mr) g2.b (c := 45))) (by omega) ?_
    rintro _ _ ⟨rfl, rfl⟩
    show aWP _ _ (10, [some (.ref 84), some (.int v_2), none, none], [.int 0], (HD, m_2, w_2, mr)) _
    refine wp_bI rfl (fun c_2 => ?_) (fun c_2 => ?_)
    rotate_left
    · have c_2 : ¬ ((0 : Int32) = 0) := of_decide_eq_false c_2
      exact absurd c_2 (by decide)
    have c_2 : (0 : Int32) = 0 := of_decide_eq_true c_2
    refine wp_steps 1 (t' := (37, [some (.ref 84), some (.int v_2), none, none], [.int v_2], (HD, m_2, w_2, mr))) rfl ?_
    refine wp_ret rfl rfl ⟨⟨Nat.le_refl _, Nat.le_refl _⟩, ?_⟩
    have e : chF b n joS sub s = (false, (sub s).2) := if_neg hF
    refine ⟨_, _, _, rfl, rfl, f2, ?_⟩
    rw [e]
    exact ⟨fun z => Bool.noConfusion z, fun _ => g2⟩
set_option maxRecDepth 20000 in
set_option maxHeartbeats 1000000 in
theorem l_both5 {X : aXt × Value} {mr : Nat → Nat → Option Nat} (hM : MRok mr) {b : Nat → Int32} {n t : Nat} (hnn : nnB b n) {nm : Nat → Int32} {d : Nat} (hd : 4 ≤ d) {sub : pF} (hsub : cwR X mr b n t 5 nm d 136 4 sub) {s0 : pS} (hs0 : s0.2.2.2.2.length ≤ s0.1) {m0 : Nat → Nat → Int32} : ∀ (g : Nat) (v : Int32) (m : Nat → Nat → Int32) (w : Nat → Nat → Int64) (s : pS) (o1 : Option Value), RS b n t 5 m w s → GO nm 5 s0 s v → nmO m nm → frR m0 m → n ≤ s.1 + g → aWP (aEx (aTb X) d) cd_X7_both5 (3, [some (.ref 84), some (.int v), o1], [], (HD, m, w, mr)) (fun r h' => (HD.1 ≤ h'.1.1 ∧ HD.2.1 ≤ h'.1.2.1) ∧ ∃ v m' w', r = some (.int v) ∧ h' = (HD, m', w', mr) ∧ frR m0 m' ∧ RES b n t 5 nm 5 m' w' s0 (lpF b n joA sub g s) v) := by
  intro g
  induction g with
  | zero =>
    intro v m w s o1 h go hnm hf hg
    have h0 : s.2.2.1 = 0 := h.T.trans (lx_n (by omega))
    refine wp_steps 9 (t' := (12, [some (.ref 84), some (.int v), o1], [.int 0, .int 0, .int 0, .int 0, .int 0, .int 100, .int 110, .int 97, .ref 84], (HD, m, w, mr))) rfl ?_
    refine wp_calv (as := [.int 97, .int 110, .int 100, .int 0, .int 0, .int 0, .int 0, .int 0]) rfl rfl rfl (Nat.le_of_ble_eq_true rfl) ⟨by decide, rfl⟩ ((rw_and (ml := w) hM h)) (by omega) ?_
    rintro _ _ ⟨rfl, rfl⟩
    show aWP _ _ (13, [some (.ref 84), some (.int v), o1], [.int (if s.2.2.1 = 7 then (1 : Int32) else 0)], (HD, m, w, mr)) _
    refine wp_bI rfl (fun c_1 => ?_) (fun c_1 => ?_)
    rotate_left
    · have c_1 : ¬ ((if s.2.2.1 = 7 then (1 : Int32) else 0) = 0) := of_decide_eq_false c_1
      exact absurd (if_neg (by rw [h0]; decide)) c_1
    have c_1 : (if s.2.2.1 = 7 then (1 : Int32) else 0) = 0 := of_decide_eq_true c_1
    refine wp_steps 1 (t' := (29, [some (.ref 84), some (.int v), o1], [.int v], (HD, m, w, mr))) rfl ?_
    refine wp_ret rfl rfl ⟨⟨Nat.le_refl _, Nat.le_refl _⟩, ?_⟩
    have hj : joA s.2.2.1 = 0 := by simp [joA, i0_f c_1]
    have e : lpF b n joA sub 0 s = (true, s) := rfl
    refine ⟨_, _, _, rfl, rfl, hf, ?_⟩
    rw [e]
    exact ⟨fun _ => ⟨h, go⟩, fun z => Bool.noConfusion z⟩
  | succ g ih =>
    intro v m w s o1 h go hnm hf hg
    refine wp_steps 9 (t' := (12, [some (.ref 84), some (.int v), o1], [.int 0, .int 0, .int 0, .int 0, .int 0, .int 100, .int 110, .int 97, .ref 84], (HD, m, w, mr))) rfl ?_
    refine wp_calv (as := [.int 97, .int 110, .int 100, .int 0, .int 0, .int 0, .int 0, .int 0]) rfl rfl rfl (Nat.le_of_ble_eq_true rfl) ⟨by decide, rfl⟩ ((rw_and (ml := w) hM h)) (by omega) ?_
    rintro _ _ ⟨rfl, rfl⟩
    show aWP _ _ (13, [some (.ref 84), some (.int v), o1], [.int (if s.2.2.1 = 7 then (1 : Int32) else 0)], (HD, m, w, mr)) _
    refine wp_bI rfl (fun c_1 => ?_) (fun c_1 => ?_)
    · have c_1 : (if s.2.2.1 = 7 then (1 : Int32) else 0) = 0 := of_decide_eq_true c_1
      refine wp_steps 1 (t' := (29, [some (.ref 84), some (.int v), o1], [.int v], (HD, m, w, mr))) rfl ?_
      refine wp_ret rfl rfl ⟨⟨Nat.le_refl _, Nat.le_refl _⟩, ?_⟩
      have hj : joA s.2.2.1 = 0 := by simp [joA, i0_f c_1]
      have e : lpF b n joA sub (g + 1) s = (true, s) := if_pos hj
      refine ⟨_, _, _, rfl, rfl, hf, ?_⟩
      rw [e]
      exact ⟨fun _ => ⟨h, go⟩, fun z => Bool.noConfusion z⟩
    · have c_1 : ¬ ((if s.2.2.1 = 7 then (1 : Int32) else 0) = 0) := of_decide_eq_false c_1
      refine wp_steps 1 (t' := (15, [some (.ref 84), some (.int v), o1], [.ref 84], (HD, m, w, mr))) rfl ?_
      have eT : s.2.2.1 = 7 := i0_t c_1
      refine wp_calv (as := []) rfl rfl rfl (Nat.le_of_ble_eq_true rfl) ⟨by decide, rfl⟩ ((r_next (ml := w) hM h hnn (by rw [← h.T, eT]; decide))) (by omega) ?_
      rintro _ _ ⟨rfl, m_1, w_1, rfl, f1, g1⟩
      show aWP _ _ (16, [some (.ref 84), some (.int v), o1], [], (HD, m_1, w_1, mr)) _
      refine wp_steps 1 (t' := (17, [some (.ref 84), some (.int v), o1], [.ref 84], (HD, m_1, w_1, mr))) rfl ?_
      refine wp_calv (as := []) rfl rfl rfl (Nat.le_of_ble_eq_true rfl) ⟨by decide, rfl⟩ ((hsub _ _ _ g1 (hnm.fr f1))) (by omega) ?_
      rintro _ _ ⟨v_2, m_2, w_2, rfl, rfl, f2, r2⟩
      show aWP _ _ (18, [some (.ref 84), some (.int v), o1], [.int v_2], (HD, m_2, w_2, mr)) _
      by_cases hF : (sub (stP b n s)).1 = true
      · obtain ⟨g2, go2⟩ := r2.1 hF
        refine wp_steps 2 (t' := (20, [some (.ref 84), some (.int v), some (.int v_2)], [.int v], (HD, m_2, w_2, mr))) rfl ?_
        refine wp_bI rfl (fun c_2 => ?_) (fun c_2 => ?_)
        · have c_2 : v = 0 := of_decide_eq_true c_2
          refine wp_steps 3 (t' := (3, [some (.ref 84), some (.int 0), some (.int v_2)], [], (HD, m_2, w_2, mr))) rfl ?_
          have hj : joA s.2.2.1 = -12 := by rw [eT]; rfl
          have ev : pfJ (-12) v v_2 = 0 := by simp [pfJ, c_2]
          obtain ⟨k1, k2, k3⟩ := GO_bi (c := -12) hs0 h (by rw [eT]; decide) go g2 go2 (by decide) (by decide)
          rw [ev] at k2
          have e : lpF b n joA sub (g + 1) s = lpF b n joA sub g (adP (-12) (sub (stP b n s)).2) := by
            show (if _ then _ else _) = _
            rw [hj, if_neg (by decide), if_pos hF]
          rw [e]
          exact ih _ _ _ _ _ k1 k2 ((hnm.fr f1).fr f2) ((hf.tr f1).tr f2) (by omega)
        · have c_2 : ¬ (v = 0) := of_decide_eq_false c_2
          refine wp_steps 1 (t' := (22, [some (.ref 84), some (.int v), some (.int v_2)], [.int v_2], (HD, m_2, w_2, mr))) rfl ?_
          refine wp_bI rfl (fun c_3 => ?_) (fun c_3 => ?_)
          · have c_3 : v_2 = 0 := of_decide_eq_true c_3
            refine wp_steps 3 (t' := (3, [some (.ref 84), some (.int 0), some (.int v_2)], [], (HD, m_2, w_2, mr))) rfl ?_
            have hj : joA s.2.2.1 = -12 := by rw [eT]; rfl
            have ev : pfJ (-12) v v_2 = 0 := by simp [pfJ, c_2, c_3]
            obtain ⟨k1, k2, k3⟩ := GO_bi (c := -12) hs0 h (by rw [eT]; decide) go g2 go2 (by decide) (by decide)
            rw [ev] at k2
            have e : lpF b n joA sub (g + 1) s = lpF b n joA sub g (adP (-12) (sub (stP b n s)).2) := by
              show (if _ then _ else _) = _
              rw [hj, if_neg (by decide), if_pos hF]
            rw [e]
            exact ih _ _ _ _ _ k1 k2 ((hnm.fr f1).fr f2) ((hf.tr f1).tr f2) (by omega)
          · have c_3 : ¬ (v_2 = 0) := of_decide_eq_false c_3
            refine wp_steps 4 (t' := (3, [some (.ref 84), some (.int 1), some (.int v_2)], [], (HD, m_2, w_2, mr))) rfl ?_
            have hj : joA s.2.2.1 = -12 := by rw [eT]; rfl
            have ev : pfJ (-12) v v_2 = 1 := by simp [pfJ, c_2, c_3]
            obtain ⟨k1, k2, k3⟩ := GO_bi (c := -12) hs0 h (by rw [eT]; decide) go g2 go2 (by decide) (by decide)
            rw [ev] at k2
            have e : lpF b n joA sub (g + 1) s = lpF b n joA sub g (adP (-12) (sub (stP b n s)).2) := by
              show (if _ then _ else _) = _
              rw [hj, if_neg (by decide), if_pos hF]
            rw [e]
            exact ih _ _ _ _ _ k1 k2 ((hnm.fr f1).fr f2) ((hf.tr f1).tr f2) (by omega)
      · have g2 := r2.2 (Bool.eq_false_iff.mpr hF)
        refine wp_steps 2 (t' := (20, [some (.ref 84), some (.int v), some (.int v_2)], [.int v], (HD, m_2, w_2, mr))) rfl ?_
        refine wp_bI rfl (fun c_4 => ?_) (fun c_4 => ?_)
        · have c_4 : v = 0 := of_decide_eq_true c_4
          refine wp_steps 12 (t' := (12, [some (.ref 84), some (.int 0), some (.int v_2)], [.int 0, .int 0, .int 0, .int 0, .int 0, .int 100, .int 110, .int 97, .ref 84], (HD, m_2, w_2, mr))) rfl ?_
          refine wp_calv (as := [.int 97, .int 110, .int 100, .int 0, .int 0, .int 0, .int 0, .int 0]) rfl rfl rfl (Nat.le_of_ble_eq_true rfl) ⟨by decide, rfl⟩ ((r_word_b (ml := w_2) (mr := mr) g2.b)) (by omega) ?_
          rintro _ _ ⟨rfl, rfl⟩
          show aWP _ _ (13, [some (.ref 84), some (.int 0), some (.int v_2)], [.int 0], (HD, m_2, w_2, mr)) _
          refine wp_bI rfl (fun c_5 => ?_) (fun c_5 => ?_)
          rotate_left
          · have c_5 : ¬ ((0 : Int32) = 0) := of_decide_eq_false c_5
            exact absurd c_5 (by decide)
          have c_5 : (0 : Int32) = 0 := of_decide_eq_true c_5
          refine wp_steps 1 (t' := (29, [some (.ref 84), some (.int 0), some (.int v_2)], [.int 0], (HD, m_2, w_2, mr))) rfl ?_
          refine wp_ret rfl rfl ⟨⟨Nat.le_refl _, Nat.le_refl _⟩, ?_⟩
          have hj : joA s.2.2.1 = -12 := by rw [eT]; rfl
          have e : lpF b n joA sub (g + 1) s = (false, (sub (stP b n s)).2) := by
            show (if _ then _ else _) = _
            rw [hj, if_neg (by decide), if_neg hF]
          refine ⟨_, _, _, rfl, rfl, (hf.tr f1).tr f2, ?_⟩
          rw [e]
          exact ⟨fun z => Bool.noConfusion z, fun _ => g2⟩
        · have c_4 : ¬ (v = 0) := of_decide_eq_false c_4
          refine wp_steps 1 (t' := (22, [some (.ref 84), some (.int v), some (.int v_2)], [.int v_2], (HD, m_2, w_2, mr))) rfl ?_
          refine wp_bI rfl (fun c_6 => ?_) (fun c_6 => ?_)
          · have c_6 : v_2 = 0 := of_decide_eq_true c_6
            refine wp_steps 12 (t' := (12, [some (.ref 84), some (.int 0), some (.int v_2)], [.int 0, .int 0, .int 0, .int 0, .int 0, .int 100, .int 110, .int 97, .ref 84], (HD, m_2, w_2, mr))) rfl ?_
            refine wp_calv (as := [.int 97, .int 110, .int 100, .int 0, .int 0, .int 0, .int 0, .int 0]) rfl rfl rfl (Nat.le_of_ble_eq_true rfl) ⟨by decide, rfl⟩ ((r_word_b (ml := w_2) (mr := mr) g2.b)) (by omega) ?_
            rintro _ _ ⟨rfl, rfl⟩
            show aWP _ _ (13, [some (.ref 84), some (.int 0), some (.int v_2)], [.int 0], (HD, m_2, w_2, mr)) _
            refine wp_bI rfl (fun c_7 => ?_) (fun c_7 => ?_)
            rotate_left
            · have c_7 : ¬ ((0 : Int32) = 0) := of_decide_eq_false c_7
              exact absurd c_7 (by decide)
            have c_7 : (0 : Int32) = 0 := of_decide_eq_true c_7
            refine wp_steps 1 (t' := (29, [some (.ref 84), some (.int 0), some (.int v_2)], [.int 0], (HD, m_2, w_2, mr))) rfl ?_
            refine wp_ret rfl rfl ⟨⟨Nat.le_refl _, Nat.le_refl _⟩, ?_⟩
            have hj : joA s.2.2.1 = -12 := by rw [eT]; rfl
            have e : lpF b n joA sub (g + 1) s = (false, (sub (stP b n s)).2) := by
              show (if _ then _ else _) = _
              rw [hj, if_neg (by decide), if_neg hF]
            refine ⟨_, _, _, rfl, rfl, (hf.tr f1).tr f2, ?_⟩
            rw [e]
            exact ⟨fun z => Bool.noConfusion z, fun _ => g2⟩
          · have c_6 : ¬ (v_2 = 0) := of_decide_eq_false c_6
            refine wp_steps 13 (t' := (12, [some (.ref 84), some (.int 1), some (.int v_2)], [.int 0, .int 0, .int 0, .int 0, .int 0, .int 100, .int 110, .int 97, .ref 84], (HD, m_2, w_2, mr))) rfl ?_
            refine wp_calv (as := [.int 97, .int 110, .int 100, .int 0, .int 0, .int 0, .int 0, .int 0]) rfl rfl rfl (Nat.le_of_ble_eq_true rfl) ⟨by decide, rfl⟩ ((r_word_b (ml := w_2) (mr := mr) g2.b)) (by omega) ?_
            rintro _ _ ⟨rfl, rfl⟩
            show aWP _ _ (13, [some (.ref 84), some (.int 1), some (.int v_2)], [.int 0], (HD, m_2, w_2, mr)) _
            refine wp_bI rfl (fun c_8 => ?_) (fun c_8 => ?_)
            rotate_left
            · have c_8 : ¬ ((0 : Int32) = 0) := of_decide_eq_false c_8
              exact absurd c_8 (by decide)
            have c_8 : (0 : Int32) = 0 := of_decide_eq_true c_8
            refine wp_steps 1 (t' := (29, [some (.ref 84), some (.int 1), some (.int v_2)], [.int 1], (HD, m_2, w_2, mr))) rfl ?_
            refine wp_ret rfl rfl ⟨⟨Nat.le_refl _, Nat.le_refl _⟩, ?_⟩
            have hj : joA s.2.2.1 = -12 := by rw [eT]; rfl
            have e : lpF b n joA sub (g + 1) s = (false, (sub (stP b n s)).2) := by
              show (if _ then _ else _) = _
              rw [hj, if_neg (by decide), if_neg hF]
            refine ⟨_, _, _, rfl, rfl, (hf.tr f1).tr f2, ?_⟩
            rw [e]
            exact ⟨fun z => Bool.noConfusion z, fun _ => g2⟩
set_option maxRecDepth 20000 in
set_option maxHeartbeats 1000000 in
theorem r_both5 {X : aXt × Value} {mr : Nat → Nat → Option Nat} (hM : MRok mr) {b : Nat → Int32} {n t : Nat} (hnn : nnB b n) {nm : Nat → Int32} {d : Nat} (hd : 4 ≤ d) {sub : pF} (hsub : cwR X mr b n t 5 nm d 136 4 sub) : cwR X mr b n t 5 nm (d + 1) 137 5 (chF b n joA sub) := by
  intro m w s h hnm
  refine cw_of (cd := cd_X7_both5) (nL := 3) rfl rfl ?_
  show aWP _ _ (0, [some (.ref 84), none, none], [], (HD, m, w, mr)) _
  refine wp_steps 1 (t' := (1, [some (.ref 84), none, none], [.ref 84], (HD, m, w, mr))) rfl ?_
  refine wp_calv (as := []) rfl rfl rfl (Nat.le_of_ble_eq_true rfl) ⟨by decide, rfl⟩ ((hsub _ _ _ h hnm)) (by omega) ?_
  rintro _ _ ⟨v_2, m_2, w_2, rfl, rfl, f2, r2⟩
  show aWP _ _ (2, [some (.ref 84), none, none], [.int v_2], (HD, m_2, w_2, mr)) _
  by_cases hF : (sub s).1 = true
  · obtain ⟨g2, go2⟩ := r2.1 hF
    refine wp_steps 1 (t' := (3, [some (.ref 84), some (.int v_2), none], [], (HD, m_2, w_2, mr))) rfl ?_
    have e : chF b n joA sub s = lpF b n joA sub 160 (sub s).2 := if_pos hF
    rw [e]
    exact l_both5 hM hnn hd hsub h.2.2.1.2.2.2.2 160 _ _ _ _ _ g2 (go2.wk (by decide)) (hnm.fr f2) f2 (by have := g2.1.1.2.2.2; omega)
  · have g2 := r2.2 (Bool.eq_false_iff.mpr hF)
    refine wp_steps 10 (t' := (12, [some (.ref 84), some (.int v_2), none], [.int 0, .int 0, .int 0, .int 0, .int 0, .int 100, .int 110, .int 97, .ref 84], (HD, m_2, w_2, mr))) rfl ?_
    refine wp_calv (as := [.int 97, .int 110, .int 100, .int 0, .int 0, .int 0, .int 0, .int 0]) rfl rfl rfl (Nat.le_of_ble_eq_true rfl) ⟨by decide, rfl⟩ ((r_word_b (ml := w_2) (mr := mr) g2.b)) (by omega) ?_
    rintro _ _ ⟨rfl, rfl⟩
    show aWP _ _ (13, [some (.ref 84), some (.int v_2), none], [.int 0], (HD, m_2, w_2, mr)) _
    refine wp_bI rfl (fun c_1 => ?_) (fun c_1 => ?_)
    rotate_left
    · have c_1 : ¬ ((0 : Int32) = 0) := of_decide_eq_false c_1
      exact absurd c_1 (by decide)
    have c_1 : (0 : Int32) = 0 := of_decide_eq_true c_1
    refine wp_steps 1 (t' := (29, [some (.ref 84), some (.int v_2), none], [.int v_2], (HD, m_2, w_2, mr))) rfl ?_
    refine wp_ret rfl rfl ⟨⟨Nat.le_refl _, Nat.le_refl _⟩, ?_⟩
    have e : chF b n joA sub s = (false, (sub s).2) := if_neg hF
    refine ⟨_, _, _, rfl, rfl, f2, ?_⟩
    rw [e]
    exact ⟨fun z => Bool.noConfusion z, fun _ => g2⟩
set_option maxRecDepth 20000 in
set_option maxHeartbeats 1000000 in
theorem l_either5 {X : aXt × Value} {mr : Nat → Nat → Option Nat} (hM : MRok mr) {b : Nat → Int32} {n t : Nat} (hnn : nnB b n) {nm : Nat → Int32} {d : Nat} (hd : 4 ≤ d) {sub : pF} (hsub : cwR X mr b n t 5 nm d 137 5 sub) {s0 : pS} (hs0 : s0.2.2.2.2.length ≤ s0.1) {m0 : Nat → Nat → Int32} : ∀ (g : Nat) (v : Int32) (m : Nat → Nat → Int32) (w : Nat → Nat → Int64) (s : pS) (o1 : Option Value), RS b n t 5 m w s → GO nm 6 s0 s v → nmO m nm → frR m0 m → n ≤ s.1 + g → aWP (aEx (aTb X) d) cd_X7_either5 (3, [some (.ref 84), some (.int v), o1], [], (HD, m, w, mr)) (fun r h' => (HD.1 ≤ h'.1.1 ∧ HD.2.1 ≤ h'.1.2.1) ∧ ∃ v m' w', r = some (.int v) ∧ h' = (HD, m', w', mr) ∧ frR m0 m' ∧ RES b n t 5 nm 6 m' w' s0 (lpF b n joO sub g s) v) := by
  intro g
  induction g with
  | zero =>
    intro v m w s o1 h go hnm hf hg
    have h0 : s.2.2.1 = 0 := h.T.trans (lx_n (by omega))
    refine wp_steps 9 (t' := (12, [some (.ref 84), some (.int v), o1], [.int 0, .int 0, .int 0, .int 0, .int 0, .int 0, .int 114, .int 111, .ref 84], (HD, m, w, mr))) rfl ?_
    refine wp_calv (as := [.int 111, .int 114, .int 0, .int 0, .int 0, .int 0, .int 0, .int 0]) rfl rfl rfl (Nat.le_of_ble_eq_true rfl) ⟨by decide, rfl⟩ ((rw_or (ml := w) hM h)) (by omega) ?_
    rintro _ _ ⟨rfl, rfl⟩
    show aWP _ _ (13, [some (.ref 84), some (.int v), o1], [.int (if s.2.2.1 = 6 then (1 : Int32) else 0)], (HD, m, w, mr)) _
    refine wp_bI rfl (fun c_1 => ?_) (fun c_1 => ?_)
    rotate_left
    · have c_1 : ¬ ((if s.2.2.1 = 6 then (1 : Int32) else 0) = 0) := of_decide_eq_false c_1
      exact absurd (if_neg (by rw [h0]; decide)) c_1
    have c_1 : (if s.2.2.1 = 6 then (1 : Int32) else 0) = 0 := of_decide_eq_true c_1
    refine wp_steps 1 (t' := (29, [some (.ref 84), some (.int v), o1], [.int v], (HD, m, w, mr))) rfl ?_
    refine wp_ret rfl rfl ⟨⟨Nat.le_refl _, Nat.le_refl _⟩, ?_⟩
    have hj : joO s.2.2.1 = 0 := by simp [joO, i0_f c_1]
    have e : lpF b n joO sub 0 s = (true, s) := rfl
    refine ⟨_, _, _, rfl, rfl, hf, ?_⟩
    rw [e]
    exact ⟨fun _ => ⟨h, go⟩, fun z => Bool.noConfusion z⟩
  | succ g ih =>
    intro v m w s o1 h go hnm hf hg
    refine wp_steps 9 (t' := (12, [some (.ref 84), some (.int v), o1], [.int 0, .int 0, .int 0, .int 0, .int 0, .int 0, .int 114, .int 111, .ref 84], (HD, m, w, mr))) rfl ?_
    refine wp_calv (as := [.int 111, .int 114, .int 0, .int 0, .int 0, .int 0, .int 0, .int 0]) rfl rfl rfl (Nat.le_of_ble_eq_true rfl) ⟨by decide, rfl⟩ ((rw_or (ml := w) hM h)) (by omega) ?_
    rintro _ _ ⟨rfl, rfl⟩
    show aWP _ _ (13, [some (.ref 84), some (.int v), o1], [.int (if s.2.2.1 = 6 then (1 : Int32) else 0)], (HD, m, w, mr)) _
    refine wp_bI rfl (fun c_1 => ?_) (fun c_1 => ?_)
    · have c_1 : (if s.2.2.1 = 6 then (1 : Int32) else 0) = 0 := of_decide_eq_true c_1
      refine wp_steps 1 (t' := (29, [some (.ref 84), some (.int v), o1], [.int v], (HD, m, w, mr))) rfl ?_
      refine wp_ret rfl rfl ⟨⟨Nat.le_refl _, Nat.le_refl _⟩, ?_⟩
      have hj : joO s.2.2.1 = 0 := by simp [joO, i0_f c_1]
      have e : lpF b n joO sub (g + 1) s = (true, s) := if_pos hj
      refine ⟨_, _, _, rfl, rfl, hf, ?_⟩
      rw [e]
      exact ⟨fun _ => ⟨h, go⟩, fun z => Bool.noConfusion z⟩
    · have c_1 : ¬ ((if s.2.2.1 = 6 then (1 : Int32) else 0) = 0) := of_decide_eq_false c_1
      refine wp_steps 1 (t' := (15, [some (.ref 84), some (.int v), o1], [.ref 84], (HD, m, w, mr))) rfl ?_
      have eT : s.2.2.1 = 6 := i0_t c_1
      refine wp_calv (as := []) rfl rfl rfl (Nat.le_of_ble_eq_true rfl) ⟨by decide, rfl⟩ ((r_next (ml := w) hM h hnn (by rw [← h.T, eT]; decide))) (by omega) ?_
      rintro _ _ ⟨rfl, m_1, w_1, rfl, f1, g1⟩
      show aWP _ _ (16, [some (.ref 84), some (.int v), o1], [], (HD, m_1, w_1, mr)) _
      refine wp_steps 1 (t' := (17, [some (.ref 84), some (.int v), o1], [.ref 84], (HD, m_1, w_1, mr))) rfl ?_
      refine wp_calv (as := []) rfl rfl rfl (Nat.le_of_ble_eq_true rfl) ⟨by decide, rfl⟩ ((hsub _ _ _ g1 (hnm.fr f1))) (by omega) ?_
      rintro _ _ ⟨v_2, m_2, w_2, rfl, rfl, f2, r2⟩
      show aWP _ _ (18, [some (.ref 84), some (.int v), o1], [.int v_2], (HD, m_2, w_2, mr)) _
      by_cases hF : (sub (stP b n s)).1 = true
      · obtain ⟨g2, go2⟩ := r2.1 hF
        refine wp_steps 2 (t' := (20, [some (.ref 84), some (.int v), some (.int v_2)], [.int v], (HD, m_2, w_2, mr))) rfl ?_
        refine wp_bI rfl (fun c_2 => ?_) (fun c_2 => ?_)
        · have c_2 : ¬ v = 0 := of_decide_eq_true c_2
          refine wp_steps 4 (t' := (3, [some (.ref 84), some (.int 1), some (.int v_2)], [], (HD, m_2, w_2, mr))) rfl ?_
          have hj : joO s.2.2.1 = -11 := by rw [eT]; rfl
          have ev : pfJ (-11) v v_2 = 1 := by simp [pfJ, c_2]
          obtain ⟨k1, k2, k3⟩ := GO_bi (c := -11) hs0 h (by rw [eT]; decide) go g2 go2 (by decide) (by decide)
          rw [ev] at k2
          have e : lpF b n joO sub (g + 1) s = lpF b n joO sub g (adP (-11) (sub (stP b n s)).2) := by
            show (if _ then _ else _) = _
            rw [hj, if_neg (by decide), if_pos hF]
          rw [e]
          exact ih _ _ _ _ _ k1 k2 ((hnm.fr f1).fr f2) ((hf.tr f1).tr f2) (by omega)
        · have c_2 : v = 0 := Decidable.not_not.mp (of_decide_eq_false c_2)
          refine wp_steps 1 (t' := (22, [some (.ref 84), some (.int v), some (.int v_2)], [.int v_2], (HD, m_2, w_2, mr))) rfl ?_
          refine wp_bI rfl (fun c_3 => ?_) (fun c_3 => ?_)
          · have c_3 : v_2 = 0 := of_decide_eq_true c_3
            refine wp_steps 3 (t' := (3, [some (.ref 84), some (.int 0), some (.int v_2)], [], (HD, m_2, w_2, mr))) rfl ?_
            have hj : joO s.2.2.1 = -11 := by rw [eT]; rfl
            have ev : pfJ (-11) v v_2 = 0 := by simp [pfJ, c_2, c_3]
            obtain ⟨k1, k2, k3⟩ := GO_bi (c := -11) hs0 h (by rw [eT]; decide) go g2 go2 (by decide) (by decide)
            rw [ev] at k2
            have e : lpF b n joO sub (g + 1) s = lpF b n joO sub g (adP (-11) (sub (stP b n s)).2) := by
              show (if _ then _ else _) = _
              rw [hj, if_neg (by decide), if_pos hF]
            rw [e]
            exact ih _ _ _ _ _ k1 k2 ((hnm.fr f1).fr f2) ((hf.tr f1).tr f2) (by omega)
          · have c_3 : ¬ (v_2 = 0) := of_decide_eq_false c_3
            refine wp_steps 4 (t' := (3, [some (.ref 84), some (.int 1), some (.int v_2)], [], (HD, m_2, w_2, mr))) rfl ?_
            have hj : joO s.2.2.1 = -11 := by rw [eT]; rfl
            have ev : pfJ (-11) v v_2 = 1 := by simp [pfJ, c_2, c_3]
            obtain ⟨k1, k2, k3⟩ := GO_bi (c := -11) hs0 h (by rw [eT]; decide) go g2 go2 (by decide) (by decide)
            rw [ev] at k2
            have e : lpF b n joO sub (g + 1) s = lpF b n joO sub g (adP (-11) (sub (stP b n s)).2) := by
              show (if _ then _ else _) = _
              rw [hj, if_neg (by decide), if_pos hF]
            rw [e]
            exact ih _ _ _ _ _ k1 k2 ((hnm.fr f1).fr f2) ((hf.tr f1).tr f2) (by omega)
      · have g2 := r2.2 (Bool.eq_false_iff.mpr hF)
        refine wp_steps 2 (t' := (20, [some (.ref 84), some (.int v), some (.int v_2)], [.int v], (HD, m_2, w_2, mr))) rfl ?_
        refine wp_bI rfl (fun c_4 => ?_) (fun c_4 => ?_)
        · have c_4 : ¬ v = 0 := of_decide_eq_true c_4
          refine wp_steps 13 (t' := (12, [some (.ref 84), some (.int 1), some (.int v_2)], [.int 0, .int 0, .int 0, .int 0, .int 0, .int 0, .int 114, .int 111, .ref 84], (HD, m_2, w_2, mr))) rfl ?_
          refine wp_calv (as := [.int 111, .int 114, .int 0, .int 0, .int 0, .int 0, .int 0, .int 0]) rfl rfl rfl (Nat.le_of_ble_eq_true rfl) ⟨by decide, rfl⟩ ((r_word_b (ml := w_2) (mr := mr) g2.b)) (by omega) ?_
          rintro _ _ ⟨rfl, rfl⟩
          show aWP _ _ (13, [some (.ref 84), some (.int 1), some (.int v_2)], [.int 0], (HD, m_2, w_2, mr)) _
          refine wp_bI rfl (fun c_5 => ?_) (fun c_5 => ?_)
          rotate_left
          · have c_5 : ¬ ((0 : Int32) = 0) := of_decide_eq_false c_5
            exact absurd c_5 (by decide)
          have c_5 : (0 : Int32) = 0 := of_decide_eq_true c_5
          refine wp_steps 1 (t' := (29, [some (.ref 84), some (.int 1), some (.int v_2)], [.int 1], (HD, m_2, w_2, mr))) rfl ?_
          refine wp_ret rfl rfl ⟨⟨Nat.le_refl _, Nat.le_refl _⟩, ?_⟩
          have hj : joO s.2.2.1 = -11 := by rw [eT]; rfl
          have e : lpF b n joO sub (g + 1) s = (false, (sub (stP b n s)).2) := by
            show (if _ then _ else _) = _
            rw [hj, if_neg (by decide), if_neg hF]
          refine ⟨_, _, _, rfl, rfl, (hf.tr f1).tr f2, ?_⟩
          rw [e]
          exact ⟨fun z => Bool.noConfusion z, fun _ => g2⟩
        · have c_4 : v = 0 := Decidable.not_not.mp (of_decide_eq_false c_4)
          refine wp_steps 1 (t' := (22, [some (.ref 84), some (.int v), some (.int v_2)], [.int v_2], (HD, m_2, w_2, mr))) rfl ?_
          refine wp_bI rfl (fun c_6 => ?_) (fun c_6 => ?_)
          · have c_6 : v_2 = 0 := of_decide_eq_true c_6
            refine wp_steps 12 (t' := (12, [some (.ref 84), some (.int 0), some (.int v_2)], [.int 0, .int 0, .int 0, .int 0, .int 0, .int 0, .int 114, .int 111, .ref 84], (HD, m_2, w_2, mr))) rfl ?_
            refine wp_calv (as := [.int 111, .int 114, .int 0, .int 0, .int 0, .int 0, .int 0, .int 0]) rfl rfl rfl (Nat.le_of_ble_eq_true rfl) ⟨by decide, rfl⟩ ((r_word_b (ml := w_2) (mr := mr) g2.b)) (by omega) ?_
            rintro _ _ ⟨rfl, rfl⟩
            show aWP _ _ (13, [some (.ref 84), some (.int 0), some (.int v_2)], [.int 0], (HD, m_2, w_2, mr)) _
            refine wp_bI rfl (fun c_7 => ?_) (fun c_7 => ?_)
            rotate_left
            · have c_7 : ¬ ((0 : Int32) = 0) := of_decide_eq_false c_7
              exact absurd c_7 (by decide)
            have c_7 : (0 : Int32) = 0 := of_decide_eq_true c_7
            refine wp_steps 1 (t' := (29, [some (.ref 84), some (.int 0), some (.int v_2)], [.int 0], (HD, m_2, w_2, mr))) rfl ?_
            refine wp_ret rfl rfl ⟨⟨Nat.le_refl _, Nat.le_refl _⟩, ?_⟩
            have hj : joO s.2.2.1 = -11 := by rw [eT]; rfl
            have e : lpF b n joO sub (g + 1) s = (false, (sub (stP b n s)).2) := by
              show (if _ then _ else _) = _
              rw [hj, if_neg (by decide), if_neg hF]
            refine ⟨_, _, _, rfl, rfl, (hf.tr f1).tr f2, ?_⟩
            rw [e]
            exact ⟨fun z => Bool.noConfusion z, fun _ => g2⟩
          · have c_6 : ¬ (v_2 = 0) := of_decide_eq_false c_6
            refine wp_steps 13 (t' := (12, [some (.ref 84), some (.int 1), some (.int v_2)], [.int 0, .int 0, .int 0, .int 0, .int 0, .int 0, .int 114, .int 111, .ref 84], (HD, m_2, w_2, mr))) rfl ?_
            refine wp_calv (as := [.int 111, .int 114, .int 0, .int 0, .int 0, .int 0, .int 0, .int 0]) rfl rfl rfl (Nat.le_of_ble_eq_true rfl) ⟨by decide, rfl⟩ ((r_word_b (ml := w_2) (mr := mr) g2.b)) (by omega) ?_
            rintro _ _ ⟨rfl, rfl⟩
            show aWP _ _ (13, [some (.ref 84), some (.int 1), some (.int v_2)], [.int 0], (HD, m_2, w_2, mr)) _
            refine wp_bI rfl (fun c_8 => ?_) (fun c_8 => ?_)
            rotate_left
            · have c_8 : ¬ ((0 : Int32) = 0) := of_decide_eq_false c_8
              exact absurd c_8 (by decide)
            have c_8 : (0 : Int32) = 0 := of_decide_eq_true c_8
            refine wp_steps 1 (t' := (29, [some (.ref 84), some (.int 1), some (.int v_2)], [.int 1], (HD, m_2, w_2, mr))) rfl ?_
            refine wp_ret rfl rfl ⟨⟨Nat.le_refl _, Nat.le_refl _⟩, ?_⟩
            have hj : joO s.2.2.1 = -11 := by rw [eT]; rfl
            have e : lpF b n joO sub (g + 1) s = (false, (sub (stP b n s)).2) := by
              show (if _ then _ else _) = _
              rw [hj, if_neg (by decide), if_neg hF]
            refine ⟨_, _, _, rfl, rfl, (hf.tr f1).tr f2, ?_⟩
            rw [e]
            exact ⟨fun z => Bool.noConfusion z, fun _ => g2⟩
set_option maxRecDepth 20000 in
set_option maxHeartbeats 1000000 in
theorem r_either5 {X : aXt × Value} {mr : Nat → Nat → Option Nat} (hM : MRok mr) {b : Nat → Int32} {n t : Nat} (hnn : nnB b n) {nm : Nat → Int32} {d : Nat} (hd : 4 ≤ d) {sub : pF} (hsub : cwR X mr b n t 5 nm d 137 5 sub) : cwR X mr b n t 5 nm (d + 1) 138 6 (chF b n joO sub) := by
  intro m w s h hnm
  refine cw_of (cd := cd_X7_either5) (nL := 3) rfl rfl ?_
  show aWP _ _ (0, [some (.ref 84), none, none], [], (HD, m, w, mr)) _
  refine wp_steps 1 (t' := (1, [some (.ref 84), none, none], [.ref 84], (HD, m, w, mr))) rfl ?_
  refine wp_calv (as := []) rfl rfl rfl (Nat.le_of_ble_eq_true rfl) ⟨by decide, rfl⟩ ((hsub _ _ _ h hnm)) (by omega) ?_
  rintro _ _ ⟨v_2, m_2, w_2, rfl, rfl, f2, r2⟩
  show aWP _ _ (2, [some (.ref 84), none, none], [.int v_2], (HD, m_2, w_2, mr)) _
  by_cases hF : (sub s).1 = true
  · obtain ⟨g2, go2⟩ := r2.1 hF
    refine wp_steps 1 (t' := (3, [some (.ref 84), some (.int v_2), none], [], (HD, m_2, w_2, mr))) rfl ?_
    have e : chF b n joO sub s = lpF b n joO sub 160 (sub s).2 := if_pos hF
    rw [e]
    exact l_either5 hM hnn hd hsub h.2.2.1.2.2.2.2 160 _ _ _ _ _ g2 (go2.wk (by decide)) (hnm.fr f2) f2 (by have := g2.1.1.2.2.2; omega)
  · have g2 := r2.2 (Bool.eq_false_iff.mpr hF)
    refine wp_steps 10 (t' := (12, [some (.ref 84), some (.int v_2), none], [.int 0, .int 0, .int 0, .int 0, .int 0, .int 0, .int 114, .int 111, .ref 84], (HD, m_2, w_2, mr))) rfl ?_
    refine wp_calv (as := [.int 111, .int 114, .int 0, .int 0, .int 0, .int 0, .int 0, .int 0]) rfl rfl rfl (Nat.le_of_ble_eq_true rfl) ⟨by decide, rfl⟩ ((r_word_b (ml := w_2) (mr := mr) g2.b)) (by omega) ?_
    rintro _ _ ⟨rfl, rfl⟩
    show aWP _ _ (13, [some (.ref 84), some (.int v_2), none], [.int 0], (HD, m_2, w_2, mr)) _
    refine wp_bI rfl (fun c_1 => ?_) (fun c_1 => ?_)
    rotate_left
    · have c_1 : ¬ ((0 : Int32) = 0) := of_decide_eq_false c_1
      exact absurd c_1 (by decide)
    have c_1 : (0 : Int32) = 0 := of_decide_eq_true c_1
    refine wp_steps 1 (t' := (29, [some (.ref 84), some (.int v_2), none], [.int v_2], (HD, m_2, w_2, mr))) rfl ?_
    refine wp_ret rfl rfl ⟨⟨Nat.le_refl _, Nat.le_refl _⟩, ?_⟩
    have e : chF b n joO sub s = (false, (sub s).2) := if_neg hF
    refine ⟨_, _, _, rfl, rfl, f2, ?_⟩
    rw [e]
    exact ⟨fun z => Bool.noConfusion z, fun _ => g2⟩
set_option maxRecDepth 20000 in
set_option maxHeartbeats 1000000 in
theorem l_term4 {X : aXt × Value} {mr : Nat → Nat → Option Nat} (hM : MRok mr) {b : Nat → Int32} {n t : Nat} (hnn : nnB b n) {nm : Nat → Int32} {d : Nat} (hd : 4 ≤ d) {sub : pF} (hsub : cwR X mr b n t 4 nm d 139 6 sub) {s0 : pS} (hs0 : s0.2.2.2.2.length ≤ s0.1) {m0 : Nat → Nat → Int32} : ∀ (g : Nat) (v : Int32) (m : Nat → Nat → Int32) (w : Nat → Nat → Int64) (s : pS), RS b n t 4 m w s → GO nm 7 s0 s v → nmO m nm → frR m0 m → n ≤ s.1 + g → aWP (aEx (aTb X) d) cd_X7_term4 (3, [some (.ref 84), some (.int v)], [], (HD, m, w, mr)) (fun r h' => (HD.1 ≤ h'.1.1 ∧ HD.2.1 ≤ h'.1.2.1) ∧ ∃ v m' w', r = some (.int v) ∧ h' = (HD, m', w', mr) ∧ frR m0 m' ∧ RES b n t 4 nm 7 m' w' s0 (lpF b n joT sub g s) v) := by
  intro g
  induction g with
  | zero =>
    intro v m w s h go hnm hf hg
    have h0 : s.2.2.1 = 0 := h.T.trans (lx_n (by omega))
    refine wp_steps 2 (t' := (5, [some (.ref 84), some (.int v)], [.int 42, .ref 84], (HD, m, w, mr))) rfl ?_
    refine wp_calv (as := [.int 42]) rfl rfl rfl (Nat.le_of_ble_eq_true rfl) ⟨by decide, rfl⟩ ((r_sign (ml := w) hM h (c := 42) (by decide))) (by omega) ?_
    rintro _ _ ⟨rfl, rfl⟩
    show aWP _ _ (6, [some (.ref 84), some (.int v)], [.int (if s.2.2.1 = 42 then (1 : Int32) else 0)], (HD, m, w, mr)) _
    refine wp_bI rfl (fun c_1 => ?_) (fun c_1 => ?_)
    rotate_left
    · have c_1 : ¬ ((if s.2.2.1 = 42 then (1 : Int32) else 0) = 0) := of_decide_eq_false c_1
      exact absurd (if_neg (by rw [h0]; decide)) c_1
    have c_1 : (if s.2.2.1 = 42 then (1 : Int32) else 0) = 0 := of_decide_eq_true c_1
    refine wp_steps 1 (t' := (16, [some (.ref 84), some (.int v)], [.int v], (HD, m, w, mr))) rfl ?_
    refine wp_ret rfl rfl ⟨⟨Nat.le_refl _, Nat.le_refl _⟩, ?_⟩
    have hj : joT s.2.2.1 = 0 := by simp [joT, i0_f c_1]
    have e : lpF b n joT sub 0 s = (true, s) := rfl
    refine ⟨_, _, _, rfl, rfl, hf, ?_⟩
    rw [e]
    exact ⟨fun _ => ⟨h, go⟩, fun z => Bool.noConfusion z⟩
  | succ g ih =>
    intro v m w s h go hnm hf hg
    refine wp_steps 2 (t' := (5, [some (.ref 84), some (.int v)], [.int 42, .ref 84], (HD, m, w, mr))) rfl ?_
    refine wp_calv (as := [.int 42]) rfl rfl rfl (Nat.le_of_ble_eq_true rfl) ⟨by decide, rfl⟩ ((r_sign (ml := w) hM h (c := 42) (by decide))) (by omega) ?_
    rintro _ _ ⟨rfl, rfl⟩
    show aWP _ _ (6, [some (.ref 84), some (.int v)], [.int (if s.2.2.1 = 42 then (1 : Int32) else 0)], (HD, m, w, mr)) _
    refine wp_bI rfl (fun c_1 => ?_) (fun c_1 => ?_)
    · have c_1 : (if s.2.2.1 = 42 then (1 : Int32) else 0) = 0 := of_decide_eq_true c_1
      refine wp_steps 1 (t' := (16, [some (.ref 84), some (.int v)], [.int v], (HD, m, w, mr))) rfl ?_
      refine wp_ret rfl rfl ⟨⟨Nat.le_refl _, Nat.le_refl _⟩, ?_⟩
      have hj : joT s.2.2.1 = 0 := by simp [joT, i0_f c_1]
      have e : lpF b n joT sub (g + 1) s = (true, s) := if_pos hj
      refine ⟨_, _, _, rfl, rfl, hf, ?_⟩
      rw [e]
      exact ⟨fun _ => ⟨h, go⟩, fun z => Bool.noConfusion z⟩
    · have c_1 : ¬ ((if s.2.2.1 = 42 then (1 : Int32) else 0) = 0) := of_decide_eq_false c_1
      refine wp_steps 1 (t' := (8, [some (.ref 84), some (.int v)], [.ref 84], (HD, m, w, mr))) rfl ?_
      have eT : s.2.2.1 = 42 := i0_t c_1
      refine wp_calv (as := []) rfl rfl rfl (Nat.le_of_ble_eq_true rfl) ⟨by decide, rfl⟩ ((r_next (ml := w) hM h hnn (by rw [← h.T, eT]; decide))) (by omega) ?_
      rintro _ _ ⟨rfl, m_1, w_1, rfl, f1, g1⟩
      show aWP _ _ (9, [some (.ref 84), some (.int v)], [], (HD, m_1, w_1, mr)) _
      refine wp_steps 2 (t' := (11, [some (.ref 84), some (.int v)], [.ref 84, .int v], (HD, m_1, w_1, mr))) rfl ?_
      refine wp_calv (as := []) rfl rfl rfl (Nat.le_of_ble_eq_true rfl) ⟨by decide, rfl⟩ ((hsub _ _ _ g1 (hnm.fr f1))) (by omega) ?_
      rintro _ _ ⟨v_2, m_2, w_2, rfl, rfl, f2, r2⟩
      show aWP _ _ (12, [some (.ref 84), some (.int v)], [.int v_2, .int v], (HD, m_2, w_2, mr)) _
      by_cases hF : (sub (stP b n s)).1 = true
      · obtain ⟨g2, go2⟩ := r2.1 hF
        refine wp_steps 3 (t' := (3, [some (.ref 84), some (.int (v * v_2))], [], (HD, m_2, w_2, mr))) rfl ?_
        have hj : joT s.2.2.1 = -18 := by rw [eT]; rfl
        have ev : pfJ (-18) v v_2 = v * v_2 := rfl
        obtain ⟨k1, k2, k3⟩ := GO_bi (c := -18) hs0 h (by rw [eT]; decide) go g2 go2 (by decide) (by decide)
        rw [ev] at k2
        have e : lpF b n joT sub (g + 1) s = lpF b n joT sub g (adP (-18) (sub (stP b n s)).2) := by
          show (if _ then _ else _) = _
          rw [hj, if_neg (by decide), if_pos hF]
        rw [e]
        exact ih _ _ _ _ k1 k2 ((hnm.fr f1).fr f2) ((hf.tr f1).tr f2) (by omega)
      · have g2 := r2.2 (Bool.eq_false_iff.mpr hF)
        refine wp_steps 5 (t' := (5, [some (.ref 84), some (.int (v * v_2))], [.int 42, .ref 84], (HD, m_2, w_2, mr))) rfl ?_
        refine wp_calv (as := [.int 42]) rfl rfl rfl (Nat.le_of_ble_eq_true rfl) ⟨by decide, rfl⟩ ((r_sign_b (ml := w_2) (mr := mr) g2.b (c := 42))) (by omega) ?_
        rintro _ _ ⟨rfl, rfl⟩
        show aWP _ _ (6, [some (.ref 84), some (.int (v * v_2))], [.int 0], (HD, m_2, w_2, mr)) _
        refine wp_bI rfl (fun c_2 => ?_) (fun c_2 => ?_)
        rotate_left
        · have c_2 : ¬ ((0 : Int32) = 0) := of_decide_eq_false c_2
          exact absurd c_2 (by decide)
        have c_2 : (0 : Int32) = 0 := of_decide_eq_true c_2
        refine wp_steps 1 (t' := (16, [some (.ref 84), some (.int (v * v_2))], [.int (v * v_2)], (HD, m_2, w_2, mr))) rfl ?_
        refine wp_ret rfl rfl ⟨⟨Nat.le_refl _, Nat.le_refl _⟩, ?_⟩
        have hj : joT s.2.2.1 = -18 := by rw [eT]; rfl
        have e : lpF b n joT sub (g + 1) s = (false, (sub (stP b n s)).2) := by
          show (if _ then _ else _) = _
          rw [hj, if_neg (by decide), if_neg hF]
        refine ⟨_, _, _, rfl, rfl, (hf.tr f1).tr f2, ?_⟩
        rw [e]
        exact ⟨fun z => Bool.noConfusion z, fun _ => g2⟩
set_option maxRecDepth 20000 in
set_option maxHeartbeats 1000000 in
theorem r_term4 {X : aXt × Value} {mr : Nat → Nat → Option Nat} (hM : MRok mr) {b : Nat → Int32} {n t : Nat} (hnn : nnB b n) {nm : Nat → Int32} {d : Nat} (hd : 4 ≤ d) {sub : pF} (hsub : cwR X mr b n t 4 nm d 139 6 sub) : cwR X mr b n t 4 nm (d + 1) 140 7 (chF b n joT sub) := by
  intro m w s h hnm
  refine cw_of (cd := cd_X7_term4) (nL := 2) rfl rfl ?_
  show aWP _ _ (0, [some (.ref 84), none], [], (HD, m, w, mr)) _
  refine wp_steps 1 (t' := (1, [some (.ref 84), none], [.ref 84], (HD, m, w, mr))) rfl ?_
  refine wp_calv (as := []) rfl rfl rfl (Nat.le_of_ble_eq_true rfl) ⟨by decide, rfl⟩ ((hsub _ _ _ h hnm)) (by omega) ?_
  rintro _ _ ⟨v_2, m_2, w_2, rfl, rfl, f2, r2⟩
  show aWP _ _ (2, [some (.ref 84), none], [.int v_2], (HD, m_2, w_2, mr)) _
  by_cases hF : (sub s).1 = true
  · obtain ⟨g2, go2⟩ := r2.1 hF
    refine wp_steps 1 (t' := (3, [some (.ref 84), some (.int v_2)], [], (HD, m_2, w_2, mr))) rfl ?_
    have e : chF b n joT sub s = lpF b n joT sub 160 (sub s).2 := if_pos hF
    rw [e]
    exact l_term4 hM hnn hd hsub h.2.2.1.2.2.2.2 160 _ _ _ _ g2 (go2.wk (by decide)) (hnm.fr f2) f2 (by have := g2.1.1.2.2.2; omega)
  · have g2 := r2.2 (Bool.eq_false_iff.mpr hF)
    refine wp_steps 3 (t' := (5, [some (.ref 84), some (.int v_2)], [.int 42, .ref 84], (HD, m_2, w_2, mr))) rfl ?_
    refine wp_calv (as := [.int 42]) rfl rfl rfl (Nat.le_of_ble_eq_true rfl) ⟨by decide, rfl⟩ ((r_sign_b (ml := w_2) (mr := mr) g2.b (c := 42))) (by omega) ?_
    rintro _ _ ⟨rfl, rfl⟩
    show aWP _ _ (6, [some (.ref 84), some (.int v_2)], [.int 0], (HD, m_2, w_2, mr)) _
    refine wp_bI rfl (fun c_1 => ?_) (fun c_1 => ?_)
    rotate_left
    · have c_1 : ¬ ((0 : Int32) = 0) := of_decide_eq_false c_1
      exact absurd c_1 (by decide)
    have c_1 : (0 : Int32) = 0 := of_decide_eq_true c_1
    refine wp_steps 1 (t' := (16, [some (.ref 84), some (.int v_2)], [.int v_2], (HD, m_2, w_2, mr))) rfl ?_
    refine wp_ret rfl rfl ⟨⟨Nat.le_refl _, Nat.le_refl _⟩, ?_⟩
    have e : chF b n joT sub s = (false, (sub s).2) := if_neg hF
    refine ⟨_, _, _, rfl, rfl, f2, ?_⟩
    rw [e]
    exact ⟨fun z => Bool.noConfusion z, fun _ => g2⟩
set_option maxRecDepth 20000 in
set_option maxHeartbeats 1000000 in
theorem l_added4 {X : aXt × Value} {mr : Nat → Nat → Option Nat} (hM : MRok mr) {b : Nat → Int32} {n t : Nat} (hnn : nnB b n) {nm : Nat → Int32} {d : Nat} (hd : 4 ≤ d) {sub : pF} (hsub : cwR X mr b n t 4 nm d 140 7 sub) {s0 : pS} (hs0 : s0.2.2.2.2.length ≤ s0.1) {m0 : Nat → Nat → Int32} : ∀ (g : Nat) (v : Int32) (m : Nat → Nat → Int32) (w : Nat → Nat → Int64) (s : pS) (o1 o2 : Option Value), RS b n t 4 m w s → GO nm 8 s0 s v → nmO m nm → frR m0 m → n ≤ s.1 + g → aWP (aEx (aTb X) d) cd_X7_added4 (3, [some (.ref 84), some (.int v), o1, o2], [], (HD, m, w, mr)) (fun r h' => (HD.1 ≤ h'.1.1 ∧ HD.2.1 ≤ h'.1.2.1) ∧ ∃ v m' w', r = some (.int v) ∧ h' = (HD, m', w', mr) ∧ frR m0 m' ∧ RES b n t 4 nm 8 m' w' s0 (lpF b n joS sub g s) v) := by
  intro g
  induction g with
  | zero =>
    intro v m w s o1 o2 h go hnm hf hg
    have h0 : s.2.2.1 = 0 := h.T.trans (lx_n (by omega))
    refine wp_steps 2 (t' := (5, [some (.ref 84), some (.int v), o1, o2], [.int 43, .ref 84], (HD, m, w, mr))) rfl ?_
    refine wp_calv (as := [.int 43]) rfl rfl rfl (Nat.le_of_ble_eq_true rfl) ⟨by decide, rfl⟩ ((r_sign (ml := w) hM h (c := 43) (by decide))) (by omega) ?_
    rintro _ _ ⟨rfl, rfl⟩
    show aWP _ _ (6, [some (.ref 84), some (.int v), o1, o2], [.int (if s.2.2.1 = 43 then (1 : Int32) else 0)], (HD, m, w, mr)) _
    refine wp_bI rfl (fun c_1 => ?_) (fun c_1 => ?_)
    · have c_1 : ¬ (if s.2.2.1 = 43 then (1 : Int32) else 0) = 0 := of_decide_eq_true c_1
      exact absurd (if_neg (by rw [h0]; decide)) c_1
    have c_1 : (if s.2.2.1 = 43 then (1 : Int32) else 0) = 0 := Decidable.not_not.mp (of_decide_eq_false c_1)
    refine wp_steps 2 (t' := (9, [some (.ref 84), some (.int v), o1, o2], [.int 45, .ref 84], (HD, m, w, mr))) rfl ?_
    refine wp_calv (as := [.int 45]) rfl rfl rfl (Nat.le_of_ble_eq_true rfl) ⟨by decide, rfl⟩ ((r_sign (ml := w) hM h (c := 45) (by decide))) (by omega) ?_
    rintro _ _ ⟨rfl, rfl⟩
    show aWP _ _ (10, [some (.ref 84), some (.int v), o1, o2], [.int (if s.2.2.1 = 45 then (1 : Int32) else 0)], (HD, m, w, mr)) _
    refine wp_bI rfl (fun c_2 => ?_) (fun c_2 => ?_)
    rotate_left
    · have c_2 : ¬ ((if s.2.2.1 = 45 then (1 : Int32) else 0) = 0) := of_decide_eq_false c_2
      exact absurd (if_neg (by rw [h0]; decide)) c_2
    have c_2 : (if s.2.2.1 = 45 then (1 : Int32) else 0) = 0 := of_decide_eq_true c_2
    refine wp_steps 1 (t' := (37, [some (.ref 84), some (.int v), o1, o2], [.int v], (HD, m, w, mr))) rfl ?_
    refine wp_ret rfl rfl ⟨⟨Nat.le_refl _, Nat.le_refl _⟩, ?_⟩
    have hj : joS s.2.2.1 = 0 := by simp [joS, i0_f c_1, i0_f c_2]
    have e : lpF b n joS sub 0 s = (true, s) := rfl
    refine ⟨_, _, _, rfl, rfl, hf, ?_⟩
    rw [e]
    exact ⟨fun _ => ⟨h, go⟩, fun z => Bool.noConfusion z⟩
  | succ g ih =>
    intro v m w s o1 o2 h go hnm hf hg
    refine wp_steps 2 (t' := (5, [some (.ref 84), some (.int v), o1, o2], [.int 43, .ref 84], (HD, m, w, mr))) rfl ?_
    refine wp_calv (as := [.int 43]) rfl rfl rfl (Nat.le_of_ble_eq_true rfl) ⟨by decide, rfl⟩ ((r_sign (ml := w) hM h (c := 43) (by decide))) (by omega) ?_
    rintro _ _ ⟨rfl, rfl⟩
    show aWP _ _ (6, [some (.ref 84), some (.int v), o1, o2], [.int (if s.2.2.1 = 43 then (1 : Int32) else 0)], (HD, m, w, mr)) _
    refine wp_bI rfl (fun c_1 => ?_) (fun c_1 => ?_)
    · have c_1 : ¬ (if s.2.2.1 = 43 then (1 : Int32) else 0) = 0 := of_decide_eq_true c_1
      refine wp_steps 1 (t' := (12, [some (.ref 84), some (.int v), o1, o2], [.ref 84], (HD, m, w, mr))) rfl ?_
      refine wp_getl rfl ⟨by decide, rfl⟩ rfl ?_
      have ew : w 84 24 = (43 : Int32).toInt64 := h.sg (by decide) (i0_t c_1)
      rw [ew]
      refine wp_steps 2 (t' := (15, [some (.ref 84), some (.int v), o1, o2], [.int (lg_cmp ((43 : Int32).toInt64) 43)], (HD, m, w, mr))) rfl ?_
      refine wp_bI rfl (fun c_2 => ?_) (fun c_2 => ?_)
      · have c_2 : ¬ (lg_cmp ((43 : Int32).toInt64) 43) = 0 := of_decide_eq_true c_2
        exact absurd ((lg_cmp_eq _ _).mpr (by decide)) c_2
      have c_2 : (lg_cmp ((43 : Int32).toInt64) 43) = 0 := Decidable.not_not.mp (of_decide_eq_false c_2)
      refine wp_steps 4 (t' := (21, [some (.ref 84), some (.int v), some (.int 1), o2], [.ref 84], (HD, m, w, mr))) rfl ?_
      have eT : s.2.2.1 = 43 := i0_t c_1
      refine wp_calv (as := []) rfl rfl rfl (Nat.le_of_ble_eq_true rfl) ⟨by decide, rfl⟩ ((r_next (ml := w) hM h hnn (by rw [← h.T, eT]; decide))) (by omega) ?_
      rintro _ _ ⟨rfl, m_1, w_1, rfl, f1, g1⟩
      show aWP _ _ (22, [some (.ref 84), some (.int v), some (.int 1), o2], [], (HD, m_1, w_1, mr)) _
      refine wp_steps 1 (t' := (23, [some (.ref 84), some (.int v), some (.int 1), o2], [.ref 84], (HD, m_1, w_1, mr))) rfl ?_
      refine wp_calv (as := []) rfl rfl rfl (Nat.le_of_ble_eq_true rfl) ⟨by decide, rfl⟩ ((hsub _ _ _ g1 (hnm.fr f1))) (by omega) ?_
      rintro _ _ ⟨v_2, m_2, w_2, rfl, rfl, f2, r2⟩
      show aWP _ _ (24, [some (.ref 84), some (.int v), some (.int 1), o2], [.int v_2], (HD, m_2, w_2, mr)) _
      by_cases hF : (sub (stP b n s)).1 = true
      · obtain ⟨g2, go2⟩ := r2.1 hF
        refine wp_steps 2 (t' := (26, [some (.ref 84), some (.int v), some (.int 1), some (.int v_2)], [.int 1], (HD, m_2, w_2, mr))) rfl ?_
        refine wp_bI rfl (fun c_3 => ?_) (fun c_3 => ?_)
        · have c_3 : (1 : Int32) = 0 := of_decide_eq_true c_3
          exact absurd c_3 (by decide)
        have c_3 : ¬ ((1 : Int32) = 0) := of_decide_eq_false c_3
        refine wp_steps 6 (t' := (3, [some (.ref 84), some (.int (v + v_2)), some (.int 1), some (.int v_2)], [], (HD, m_2, w_2, mr))) rfl ?_
        have hj : joS s.2.2.1 = -16 := by rw [eT]; rfl
        have ev : pfJ (-16) v v_2 = v + v_2 := rfl
        obtain ⟨k1, k2, k3⟩ := GO_bi (c := -16) hs0 h (by rw [eT]; decide) go g2 go2 (by decide) (by decide)
        rw [ev] at k2
        have e : lpF b n joS sub (g + 1) s = lpF b n joS sub g (adP (-16) (sub (stP b n s)).2) := by
          show (if _ then _ else _) = _
          rw [hj, if_neg (by decide), if_pos hF]
        rw [e]
        exact ih _ _ _ _ _ _ k1 k2 ((hnm.fr f1).fr f2) ((hf.tr f1).tr f2) (by omega)
      · have g2 := r2.2 (Bool.eq_false_iff.mpr hF)
        refine wp_steps 2 (t' := (26, [some (.ref 84), some (.int v), some (.int 1), some (.int v_2)], [.int 1], (HD, m_2, w_2, mr))) rfl ?_
        refine wp_bI rfl (fun c_4 => ?_) (fun c_4 => ?_)
        · have c_4 : (1 : Int32) = 0 := of_decide_eq_true c_4
          exact absurd c_4 (by decide)
        have c_4 : ¬ ((1 : Int32) = 0) := of_decide_eq_false c_4
        refine wp_steps 8 (t' := (5, [some (.ref 84), some (.int (v + v_2)), some (.int 1), some (.int v_2)], [.int 43, .ref 84], (HD, m_2, w_2, mr))) rfl ?_
        refine wp_calv (as := [.int 43]) rfl rfl rfl (Nat.le_of_ble_eq_true rfl) ⟨by decide, rfl⟩ ((r_sign_b (ml := w_2) (mr := mr) g2.b (c := 43))) (by omega) ?_
        rintro _ _ ⟨rfl, rfl⟩
        show aWP _ _ (6, [some (.ref 84), some (.int (v + v_2)), some (.int 1), some (.int v_2)], [.int 0], (HD, m_2, w_2, mr)) _
        refine wp_bI rfl (fun c_5 => ?_) (fun c_5 => ?_)
        · have c_5 : ¬ (0 : Int32) = 0 := of_decide_eq_true c_5
          exact absurd c_5 (by decide)
        have c_5 : (0 : Int32) = 0 := Decidable.not_not.mp (of_decide_eq_false c_5)
        refine wp_steps 2 (t' := (9, [some (.ref 84), some (.int (v + v_2)), some (.int 1), some (.int v_2)], [.int 45, .ref 84], (HD, m_2, w_2, mr))) rfl ?_
        refine wp_calv (as := [.int 45]) rfl rfl rfl (Nat.le_of_ble_eq_true rfl) ⟨by decide, rfl⟩ ((r_sign_b (ml := w_2) (mr := mr) g2.b (c := 45))) (by omega) ?_
        rintro _ _ ⟨rfl, rfl⟩
        show aWP _ _ (10, [some (.ref 84), some (.int (v + v_2)), some (.int 1), some (.int v_2)], [.int 0], (HD, m_2, w_2, mr)) _
        refine wp_bI rfl (fun c_6 => ?_) (fun c_6 => ?_)
        rotate_left
        · have c_6 : ¬ ((0 : Int32) = 0) := of_decide_eq_false c_6
          exact absurd c_6 (by decide)
        have c_6 : (0 : Int32) = 0 := of_decide_eq_true c_6
        refine wp_steps 1 (t' := (37, [some (.ref 84), some (.int (v + v_2)), some (.int 1), some (.int v_2)], [.int (v + v_2)], (HD, m_2, w_2, mr))) rfl ?_
        refine wp_ret rfl rfl ⟨⟨Nat.le_refl _, Nat.le_refl _⟩, ?_⟩
        have hj : joS s.2.2.1 = -16 := by rw [eT]; rfl
        have e : lpF b n joS sub (g + 1) s = (false, (sub (stP b n s)).2) := by
          show (if _ then _ else _) = _
          rw [hj, if_neg (by decide), if_neg hF]
        refine ⟨_, _, _, rfl, rfl, (hf.tr f1).tr f2, ?_⟩
        rw [e]
        exact ⟨fun z => Bool.noConfusion z, fun _ => g2⟩
    · have c_1 : (if s.2.2.1 = 43 then (1 : Int32) else 0) = 0 := Decidable.not_not.mp (of_decide_eq_false c_1)
      refine wp_steps 2 (t' := (9, [some (.ref 84), some (.int v), o1, o2], [.int 45, .ref 84], (HD, m, w, mr))) rfl ?_
      refine wp_calv (as := [.int 45]) rfl rfl rfl (Nat.le_of_ble_eq_true rfl) ⟨by decide, rfl⟩ ((r_sign (ml := w) hM h (c := 45) (by decide))) (by omega) ?_
      rintro _ _ ⟨rfl, rfl⟩
      show aWP _ _ (10, [some (.ref 84), some (.int v), o1, o2], [.int (if s.2.2.1 = 45 then (1 : Int32) else 0)], (HD, m, w, mr)) _
      refine wp_bI rfl (fun c_7 => ?_) (fun c_7 => ?_)
      · have c_7 : (if s.2.2.1 = 45 then (1 : Int32) else 0) = 0 := of_decide_eq_true c_7
        refine wp_steps 1 (t' := (37, [some (.ref 84), some (.int v), o1, o2], [.int v], (HD, m, w, mr))) rfl ?_
        refine wp_ret rfl rfl ⟨⟨Nat.le_refl _, Nat.le_refl _⟩, ?_⟩
        have hj : joS s.2.2.1 = 0 := by simp [joS, i0_f c_1, i0_f c_7]
        have e : lpF b n joS sub (g + 1) s = (true, s) := if_pos hj
        refine ⟨_, _, _, rfl, rfl, hf, ?_⟩
        rw [e]
        exact ⟨fun _ => ⟨h, go⟩, fun z => Bool.noConfusion z⟩
      · have c_7 : ¬ ((if s.2.2.1 = 45 then (1 : Int32) else 0) = 0) := of_decide_eq_false c_7
        refine wp_steps 1 (t' := (12, [some (.ref 84), some (.int v), o1, o2], [.ref 84], (HD, m, w, mr))) rfl ?_
        refine wp_getl rfl ⟨by decide, rfl⟩ rfl ?_
        have ew : w 84 24 = (45 : Int32).toInt64 := h.sg (by decide) (i0_t c_7)
        rw [ew]
        refine wp_steps 2 (t' := (15, [some (.ref 84), some (.int v), o1, o2], [.int (lg_cmp ((45 : Int32).toInt64) 43)], (HD, m, w, mr))) rfl ?_
        refine wp_bI rfl (fun c_8 => ?_) (fun c_8 => ?_)
        rotate_left
        · have c_8 : (lg_cmp ((45 : Int32).toInt64) 43) = 0 := Decidable.not_not.mp (of_decide_eq_false c_8)
          exact absurd ((lg_cmp_eq _ _).mp c_8) (by decide)
        have c_8 : ¬ (lg_cmp ((45 : Int32).toInt64) 43) = 0 := of_decide_eq_true c_8
        refine wp_steps 3 (t' := (21, [some (.ref 84), some (.int v), some (.int 0), o2], [.ref 84], (HD, m, w, mr))) rfl ?_
        have eT : s.2.2.1 = 45 := i0_t c_7
        refine wp_calv (as := []) rfl rfl rfl (Nat.le_of_ble_eq_true rfl) ⟨by decide, rfl⟩ ((r_next (ml := w) hM h hnn (by rw [← h.T, eT]; decide))) (by omega) ?_
        rintro _ _ ⟨rfl, m_1, w_1, rfl, f1, g1⟩
        show aWP _ _ (22, [some (.ref 84), some (.int v), some (.int 0), o2], [], (HD, m_1, w_1, mr)) _
        refine wp_steps 1 (t' := (23, [some (.ref 84), some (.int v), some (.int 0), o2], [.ref 84], (HD, m_1, w_1, mr))) rfl ?_
        refine wp_calv (as := []) rfl rfl rfl (Nat.le_of_ble_eq_true rfl) ⟨by decide, rfl⟩ ((hsub _ _ _ g1 (hnm.fr f1))) (by omega) ?_
        rintro _ _ ⟨v_2, m_2, w_2, rfl, rfl, f2, r2⟩
        show aWP _ _ (24, [some (.ref 84), some (.int v), some (.int 0), o2], [.int v_2], (HD, m_2, w_2, mr)) _
        by_cases hF : (sub (stP b n s)).1 = true
        · obtain ⟨g2, go2⟩ := r2.1 hF
          refine wp_steps 2 (t' := (26, [some (.ref 84), some (.int v), some (.int 0), some (.int v_2)], [.int 0], (HD, m_2, w_2, mr))) rfl ?_
          refine wp_bI rfl (fun c_9 => ?_) (fun c_9 => ?_)
          rotate_left
          · have c_9 : ¬ ((0 : Int32) = 0) := of_decide_eq_false c_9
            exact absurd c_9 (by decide)
          have c_9 : (0 : Int32) = 0 := of_decide_eq_true c_9
          refine wp_steps 5 (t' := (3, [some (.ref 84), some (.int (v - v_2)), some (.int 0), some (.int v_2)], [], (HD, m_2, w_2, mr))) rfl ?_
          have hj : joS s.2.2.1 = -17 := by rw [eT]; rfl
          have ev : pfJ (-17) v v_2 = v - v_2 := rfl
          obtain ⟨k1, k2, k3⟩ := GO_bi (c := -17) hs0 h (by rw [eT]; decide) go g2 go2 (by decide) (by decide)
          rw [ev] at k2
          have e : lpF b n joS sub (g + 1) s = lpF b n joS sub g (adP (-17) (sub (stP b n s)).2) := by
            show (if _ then _ else _) = _
            rw [hj, if_neg (by decide), if_pos hF]
          rw [e]
          exact ih _ _ _ _ _ _ k1 k2 ((hnm.fr f1).fr f2) ((hf.tr f1).tr f2) (by omega)
        · have g2 := r2.2 (Bool.eq_false_iff.mpr hF)
          refine wp_steps 2 (t' := (26, [some (.ref 84), some (.int v), some (.int 0), some (.int v_2)], [.int 0], (HD, m_2, w_2, mr))) rfl ?_
          refine wp_bI rfl (fun c_10 => ?_) (fun c_10 => ?_)
          rotate_left
          · have c_10 : ¬ ((0 : Int32) = 0) := of_decide_eq_false c_10
            exact absurd c_10 (by decide)
          have c_10 : (0 : Int32) = 0 := of_decide_eq_true c_10
          refine wp_steps 7 (t' := (5, [some (.ref 84), some (.int (v - v_2)), some (.int 0), some (.int v_2)], [.int 43, .ref 84], (HD, m_2, w_2, mr))) rfl ?_
          refine wp_calv (as := [.int 43]) rfl rfl rfl (Nat.le_of_ble_eq_true rfl) ⟨by decide, rfl⟩ ((r_sign_b (ml := w_2) (mr := mr) g2.b (c := 43))) (by omega) ?_
          rintro _ _ ⟨rfl, rfl⟩
          show aWP _ _ (6, [some (.ref 84), some (.int (v - v_2)), some (.int 0), some (.int v_2)], [.int 0], (HD, m_2, w_2, mr)) _
          refine wp_bI rfl (fun c_11 => ?_) (fun c_11 => ?_)
          · have c_11 : ¬ (0 : Int32) = 0 := of_decide_eq_true c_11
            exact absurd c_11 (by decide)
          have c_11 : (0 : Int32) = 0 := Decidable.not_not.mp (of_decide_eq_false c_11)
          refine wp_steps 2 (t' := (9, [some (.ref 84), some (.int (v - v_2)), some (.int 0), some (.int v_2)], [.int 45, .ref 84], (HD, m_2, w_2, mr))) rfl ?_
          refine wp_calv (as := [.int 45]) rfl rfl rfl (Nat.le_of_ble_eq_true rfl) ⟨by decide, rfl⟩ ((r_sign_b (ml := w_2) (mr := mr) g2.b (c := 45))) (by omega) ?_
          rintro _ _ ⟨rfl, rfl⟩
          show aWP _ _ (10, [some (.ref 84), some (.int (v - v_2)), some (.int 0), some (.int v_2)], [.int 0], (HD, m_2, w_2, mr)) _
          refine wp_bI rfl (fun c_12 => ?_) (fun c_12 => ?_)
          rotate_left
          · have c_12 : ¬ ((0 : Int32) = 0) := of_decide_eq_false c_12
            exact absurd c_12 (by decide)
          have c_12 : (0 : Int32) = 0 := of_decide_eq_true c_12
          refine wp_steps 1 (t' := (37, [some (.ref 84), some (.int (v - v_2)), some (.int 0), some (.int v_2)], [.int (v - v_2)], (HD, m_2, w_2, mr))) rfl ?_
          refine wp_ret rfl rfl ⟨⟨Nat.le_refl _, Nat.le_refl _⟩, ?_⟩
          have hj : joS s.2.2.1 = -17 := by rw [eT]; rfl
          have e : lpF b n joS sub (g + 1) s = (false, (sub (stP b n s)).2) := by
            show (if _ then _ else _) = _
            rw [hj, if_neg (by decide), if_neg hF]
          refine ⟨_, _, _, rfl, rfl, (hf.tr f1).tr f2, ?_⟩
          rw [e]
          exact ⟨fun z => Bool.noConfusion z, fun _ => g2⟩
set_option maxRecDepth 20000 in
set_option maxHeartbeats 1000000 in
theorem r_added4 {X : aXt × Value} {mr : Nat → Nat → Option Nat} (hM : MRok mr) {b : Nat → Int32} {n t : Nat} (hnn : nnB b n) {nm : Nat → Int32} {d : Nat} (hd : 4 ≤ d) {sub : pF} (hsub : cwR X mr b n t 4 nm d 140 7 sub) : cwR X mr b n t 4 nm (d + 1) 141 8 (chF b n joS sub) := by
  intro m w s h hnm
  refine cw_of (cd := cd_X7_added4) (nL := 4) rfl rfl ?_
  show aWP _ _ (0, [some (.ref 84), none, none, none], [], (HD, m, w, mr)) _
  refine wp_steps 1 (t' := (1, [some (.ref 84), none, none, none], [.ref 84], (HD, m, w, mr))) rfl ?_
  refine wp_calv (as := []) rfl rfl rfl (Nat.le_of_ble_eq_true rfl) ⟨by decide, rfl⟩ ((hsub _ _ _ h hnm)) (by omega) ?_
  rintro _ _ ⟨v_2, m_2, w_2, rfl, rfl, f2, r2⟩
  show aWP _ _ (2, [some (.ref 84), none, none, none], [.int v_2], (HD, m_2, w_2, mr)) _
  by_cases hF : (sub s).1 = true
  · obtain ⟨g2, go2⟩ := r2.1 hF
    refine wp_steps 1 (t' := (3, [some (.ref 84), some (.int v_2), none, none], [], (HD, m_2, w_2, mr))) rfl ?_
    have e : chF b n joS sub s = lpF b n joS sub 160 (sub s).2 := if_pos hF
    rw [e]
    exact l_added4 hM hnn hd hsub h.2.2.1.2.2.2.2 160 _ _ _ _ _ _ g2 (go2.wk (by decide)) (hnm.fr f2) f2 (by have := g2.1.1.2.2.2; omega)
  · have g2 := r2.2 (Bool.eq_false_iff.mpr hF)
    refine wp_steps 3 (t' := (5, [some (.ref 84), some (.int v_2), none, none], [.int 43, .ref 84], (HD, m_2, w_2, mr))) rfl ?_
    refine wp_calv (as := [.int 43]) rfl rfl rfl (Nat.le_of_ble_eq_true rfl) ⟨by decide, rfl⟩ ((r_sign_b (ml := w_2) (mr := mr) g2.b (c := 43))) (by omega) ?_
    rintro _ _ ⟨rfl, rfl⟩
    show aWP _ _ (6, [some (.ref 84), some (.int v_2), none, none], [.int 0], (HD, m_2, w_2, mr)) _
    refine wp_bI rfl (fun c_1 => ?_) (fun c_1 => ?_)
    · have c_1 : ¬ (0 : Int32) = 0 := of_decide_eq_true c_1
      exact absurd c_1 (by decide)
    have c_1 : (0 : Int32) = 0 := Decidable.not_not.mp (of_decide_eq_false c_1)
    refine wp_steps 2 (t' := (9, [some (.ref 84), some (.int v_2), none, none], [.int 45, .ref 84], (HD, m_2, w_2, mr))) rfl ?_
    refine wp_calv (as := [.int 45]) rfl rfl rfl (Nat.le_of_ble_eq_true rfl) ⟨by decide, rfl⟩ ((r_sign_b (ml := w_2) (mr := mr) g2.b (c := 45))) (by omega) ?_
    rintro _ _ ⟨rfl, rfl⟩
    show aWP _ _ (10, [some (.ref 84), some (.int v_2), none, none], [.int 0], (HD, m_2, w_2, mr)) _
    refine wp_bI rfl (fun c_2 => ?_) (fun c_2 => ?_)
    rotate_left
    · have c_2 : ¬ ((0 : Int32) = 0) := of_decide_eq_false c_2
      exact absurd c_2 (by decide)
    have c_2 : (0 : Int32) = 0 := of_decide_eq_true c_2
    refine wp_steps 1 (t' := (37, [some (.ref 84), some (.int v_2), none, none], [.int v_2], (HD, m_2, w_2, mr))) rfl ?_
    refine wp_ret rfl rfl ⟨⟨Nat.le_refl _, Nat.le_refl _⟩, ?_⟩
    have e : chF b n joS sub s = (false, (sub s).2) := if_neg hF
    refine ⟨_, _, _, rfl, rfl, f2, ?_⟩
    rw [e]
    exact ⟨fun z => Bool.noConfusion z, fun _ => g2⟩
set_option maxRecDepth 20000 in
set_option maxHeartbeats 1000000 in
theorem l_both4 {X : aXt × Value} {mr : Nat → Nat → Option Nat} (hM : MRok mr) {b : Nat → Int32} {n t : Nat} (hnn : nnB b n) {nm : Nat → Int32} {d : Nat} (hd : 4 ≤ d) {sub : pF} (hsub : cwR X mr b n t 4 nm d 142 9 sub) {s0 : pS} (hs0 : s0.2.2.2.2.length ≤ s0.1) {m0 : Nat → Nat → Int32} : ∀ (g : Nat) (v : Int32) (m : Nat → Nat → Int32) (w : Nat → Nat → Int64) (s : pS) (o1 : Option Value), RS b n t 4 m w s → GO nm 10 s0 s v → nmO m nm → frR m0 m → n ≤ s.1 + g → aWP (aEx (aTb X) d) cd_X7_both4 (3, [some (.ref 84), some (.int v), o1], [], (HD, m, w, mr)) (fun r h' => (HD.1 ≤ h'.1.1 ∧ HD.2.1 ≤ h'.1.2.1) ∧ ∃ v m' w', r = some (.int v) ∧ h' = (HD, m', w', mr) ∧ frR m0 m' ∧ RES b n t 4 nm 10 m' w' s0 (lpF b n joA sub g s) v) := by
  intro g
  induction g with
  | zero =>
    intro v m w s o1 h go hnm hf hg
    have h0 : s.2.2.1 = 0 := h.T.trans (lx_n (by omega))
    refine wp_steps 9 (t' := (12, [some (.ref 84), some (.int v), o1], [.int 0, .int 0, .int 0, .int 0, .int 0, .int 100, .int 110, .int 97, .ref 84], (HD, m, w, mr))) rfl ?_
    refine wp_calv (as := [.int 97, .int 110, .int 100, .int 0, .int 0, .int 0, .int 0, .int 0]) rfl rfl rfl (Nat.le_of_ble_eq_true rfl) ⟨by decide, rfl⟩ ((rw_and (ml := w) hM h)) (by omega) ?_
    rintro _ _ ⟨rfl, rfl⟩
    show aWP _ _ (13, [some (.ref 84), some (.int v), o1], [.int (if s.2.2.1 = 7 then (1 : Int32) else 0)], (HD, m, w, mr)) _
    refine wp_bI rfl (fun c_1 => ?_) (fun c_1 => ?_)
    rotate_left
    · have c_1 : ¬ ((if s.2.2.1 = 7 then (1 : Int32) else 0) = 0) := of_decide_eq_false c_1
      exact absurd (if_neg (by rw [h0]; decide)) c_1
    have c_1 : (if s.2.2.1 = 7 then (1 : Int32) else 0) = 0 := of_decide_eq_true c_1
    refine wp_steps 1 (t' := (29, [some (.ref 84), some (.int v), o1], [.int v], (HD, m, w, mr))) rfl ?_
    refine wp_ret rfl rfl ⟨⟨Nat.le_refl _, Nat.le_refl _⟩, ?_⟩
    have hj : joA s.2.2.1 = 0 := by simp [joA, i0_f c_1]
    have e : lpF b n joA sub 0 s = (true, s) := rfl
    refine ⟨_, _, _, rfl, rfl, hf, ?_⟩
    rw [e]
    exact ⟨fun _ => ⟨h, go⟩, fun z => Bool.noConfusion z⟩
  | succ g ih =>
    intro v m w s o1 h go hnm hf hg
    refine wp_steps 9 (t' := (12, [some (.ref 84), some (.int v), o1], [.int 0, .int 0, .int 0, .int 0, .int 0, .int 100, .int 110, .int 97, .ref 84], (HD, m, w, mr))) rfl ?_
    refine wp_calv (as := [.int 97, .int 110, .int 100, .int 0, .int 0, .int 0, .int 0, .int 0]) rfl rfl rfl (Nat.le_of_ble_eq_true rfl) ⟨by decide, rfl⟩ ((rw_and (ml := w) hM h)) (by omega) ?_
    rintro _ _ ⟨rfl, rfl⟩
    show aWP _ _ (13, [some (.ref 84), some (.int v), o1], [.int (if s.2.2.1 = 7 then (1 : Int32) else 0)], (HD, m, w, mr)) _
    refine wp_bI rfl (fun c_1 => ?_) (fun c_1 => ?_)
    · have c_1 : (if s.2.2.1 = 7 then (1 : Int32) else 0) = 0 := of_decide_eq_true c_1
      refine wp_steps 1 (t' := (29, [some (.ref 84), some (.int v), o1], [.int v], (HD, m, w, mr))) rfl ?_
      refine wp_ret rfl rfl ⟨⟨Nat.le_refl _, Nat.le_refl _⟩, ?_⟩
      have hj : joA s.2.2.1 = 0 := by simp [joA, i0_f c_1]
      have e : lpF b n joA sub (g + 1) s = (true, s) := if_pos hj
      refine ⟨_, _, _, rfl, rfl, hf, ?_⟩
      rw [e]
      exact ⟨fun _ => ⟨h, go⟩, fun z => Bool.noConfusion z⟩
    · have c_1 : ¬ ((if s.2.2.1 = 7 then (1 : Int32) else 0) = 0) := of_decide_eq_false c_1
      refine wp_steps 1 (t' := (15, [some (.ref 84), some (.int v), o1], [.ref 84], (HD, m, w, mr))) rfl ?_
      have eT : s.2.2.1 = 7 := i0_t c_1
      refine wp_calv (as := []) rfl rfl rfl (Nat.le_of_ble_eq_true rfl) ⟨by decide, rfl⟩ ((r_next (ml := w) hM h hnn (by rw [← h.T, eT]; decide))) (by omega) ?_
      rintro _ _ ⟨rfl, m_1, w_1, rfl, f1, g1⟩
      show aWP _ _ (16, [some (.ref 84), some (.int v), o1], [], (HD, m_1, w_1, mr)) _
      refine wp_steps 1 (t' := (17, [some (.ref 84), some (.int v), o1], [.ref 84], (HD, m_1, w_1, mr))) rfl ?_
      refine wp_calv (as := []) rfl rfl rfl (Nat.le_of_ble_eq_true rfl) ⟨by decide, rfl⟩ ((hsub _ _ _ g1 (hnm.fr f1))) (by omega) ?_
      rintro _ _ ⟨v_2, m_2, w_2, rfl, rfl, f2, r2⟩
      show aWP _ _ (18, [some (.ref 84), some (.int v), o1], [.int v_2], (HD, m_2, w_2, mr)) _
      by_cases hF : (sub (stP b n s)).1 = true
      · obtain ⟨g2, go2⟩ := r2.1 hF
        refine wp_steps 2 (t' := (20, [some (.ref 84), some (.int v), some (.int v_2)], [.int v], (HD, m_2, w_2, mr))) rfl ?_
        refine wp_bI rfl (fun c_2 => ?_) (fun c_2 => ?_)
        · have c_2 : v = 0 := of_decide_eq_true c_2
          refine wp_steps 3 (t' := (3, [some (.ref 84), some (.int 0), some (.int v_2)], [], (HD, m_2, w_2, mr))) rfl ?_
          have hj : joA s.2.2.1 = -12 := by rw [eT]; rfl
          have ev : pfJ (-12) v v_2 = 0 := by simp [pfJ, c_2]
          obtain ⟨k1, k2, k3⟩ := GO_bi (c := -12) hs0 h (by rw [eT]; decide) go g2 go2 (by decide) (by decide)
          rw [ev] at k2
          have e : lpF b n joA sub (g + 1) s = lpF b n joA sub g (adP (-12) (sub (stP b n s)).2) := by
            show (if _ then _ else _) = _
            rw [hj, if_neg (by decide), if_pos hF]
          rw [e]
          exact ih _ _ _ _ _ k1 k2 ((hnm.fr f1).fr f2) ((hf.tr f1).tr f2) (by omega)
        · have c_2 : ¬ (v = 0) := of_decide_eq_false c_2
          refine wp_steps 1 (t' := (22, [some (.ref 84), some (.int v), some (.int v_2)], [.int v_2], (HD, m_2, w_2, mr))) rfl ?_
          refine wp_bI rfl (fun c_3 => ?_) (fun c_3 => ?_)
          · have c_3 : v_2 = 0 := of_decide_eq_true c_3
            refine wp_steps 3 (t' := (3, [some (.ref 84), some (.int 0), some (.int v_2)], [], (HD, m_2, w_2, mr))) rfl ?_
            have hj : joA s.2.2.1 = -12 := by rw [eT]; rfl
            have ev : pfJ (-12) v v_2 = 0 := by simp [pfJ, c_2, c_3]
            obtain ⟨k1, k2, k3⟩ := GO_bi (c := -12) hs0 h (by rw [eT]; decide) go g2 go2 (by decide) (by decide)
            rw [ev] at k2
            have e : lpF b n joA sub (g + 1) s = lpF b n joA sub g (adP (-12) (sub (stP b n s)).2) := by
              show (if _ then _ else _) = _
              rw [hj, if_neg (by decide), if_pos hF]
            rw [e]
            exact ih _ _ _ _ _ k1 k2 ((hnm.fr f1).fr f2) ((hf.tr f1).tr f2) (by omega)
          · have c_3 : ¬ (v_2 = 0) := of_decide_eq_false c_3
            refine wp_steps 4 (t' := (3, [some (.ref 84), some (.int 1), some (.int v_2)], [], (HD, m_2, w_2, mr))) rfl ?_
            have hj : joA s.2.2.1 = -12 := by rw [eT]; rfl
            have ev : pfJ (-12) v v_2 = 1 := by simp [pfJ, c_2, c_3]
            obtain ⟨k1, k2, k3⟩ := GO_bi (c := -12) hs0 h (by rw [eT]; decide) go g2 go2 (by decide) (by decide)
            rw [ev] at k2
            have e : lpF b n joA sub (g + 1) s = lpF b n joA sub g (adP (-12) (sub (stP b n s)).2) := by
              show (if _ then _ else _) = _
              rw [hj, if_neg (by decide), if_pos hF]
            rw [e]
            exact ih _ _ _ _ _ k1 k2 ((hnm.fr f1).fr f2) ((hf.tr f1).tr f2) (by omega)
      · have g2 := r2.2 (Bool.eq_false_iff.mpr hF)
        refine wp_steps 2 (t' := (20, [some (.ref 84), some (.int v), some (.int v_2)], [.int v], (HD, m_2, w_2, mr))) rfl ?_
        refine wp_bI rfl (fun c_4 => ?_) (fun c_4 => ?_)
        · have c_4 : v = 0 := of_decide_eq_true c_4
          refine wp_steps 12 (t' := (12, [some (.ref 84), some (.int 0), some (.int v_2)], [.int 0, .int 0, .int 0, .int 0, .int 0, .int 100, .int 110, .int 97, .ref 84], (HD, m_2, w_2, mr))) rfl ?_
          refine wp_calv (as := [.int 97, .int 110, .int 100, .int 0, .int 0, .int 0, .int 0, .int 0]) rfl rfl rfl (Nat.le_of_ble_eq_true rfl) ⟨by decide, rfl⟩ ((r_word_b (ml := w_2) (mr := mr) g2.b)) (by omega) ?_
          rintro _ _ ⟨rfl, rfl⟩
          show aWP _ _ (13, [some (.ref 84), some (.int 0), some (.int v_2)], [.int 0], (HD, m_2, w_2, mr)) _
          refine wp_bI rfl (fun c_5 => ?_) (fun c_5 => ?_)
          rotate_left
          · have c_5 : ¬ ((0 : Int32) = 0) := of_decide_eq_false c_5
            exact absurd c_5 (by decide)
          have c_5 : (0 : Int32) = 0 := of_decide_eq_true c_5
          refine wp_steps 1 (t' := (29, [some (.ref 84), some (.int 0), some (.int v_2)], [.int 0], (HD, m_2, w_2, mr))) rfl ?_
          refine wp_ret rfl rfl ⟨⟨Nat.le_refl _, Nat.le_refl _⟩, ?_⟩
          have hj : joA s.2.2.1 = -12 := by rw [eT]; rfl
          have e : lpF b n joA sub (g + 1) s = (false, (sub (stP b n s)).2) := by
            show (if _ then _ else _) = _
            rw [hj, if_neg (by decide), if_neg hF]
          refine ⟨_, _, _, rfl, rfl, (hf.tr f1).tr f2, ?_⟩
          rw [e]
          exact ⟨fun z => Bool.noConfusion z, fun _ => g2⟩
        · have c_4 : ¬ (v = 0) := of_decide_eq_false c_4
          refine wp_steps 1 (t' := (22, [some (.ref 84), some (.int v), some (.int v_2)], [.int v_2], (HD, m_2, w_2, mr))) rfl ?_
          refine wp_bI rfl (fun c_6 => ?_) (fun c_6 => ?_)
          · have c_6 : v_2 = 0 := of_decide_eq_true c_6
            refine wp_steps 12 (t' := (12, [some (.ref 84), some (.int 0), some (.int v_2)], [.int 0, .int 0, .int 0, .int 0, .int 0, .int 100, .int 110, .int 97, .ref 84], (HD, m_2, w_2, mr))) rfl ?_
            refine wp_calv (as := [.int 97, .int 110, .int 100, .int 0, .int 0, .int 0, .int 0, .int 0]) rfl rfl rfl (Nat.le_of_ble_eq_true rfl) ⟨by decide, rfl⟩ ((r_word_b (ml := w_2) (mr := mr) g2.b)) (by omega) ?_
            rintro _ _ ⟨rfl, rfl⟩
            show aWP _ _ (13, [some (.ref 84), some (.int 0), some (.int v_2)], [.int 0], (HD, m_2, w_2, mr)) _
            refine wp_bI rfl (fun c_7 => ?_) (fun c_7 => ?_)
            rotate_left
            · have c_7 : ¬ ((0 : Int32) = 0) := of_decide_eq_false c_7
              exact absurd c_7 (by decide)
            have c_7 : (0 : Int32) = 0 := of_decide_eq_true c_7
            refine wp_steps 1 (t' := (29, [some (.ref 84), some (.int 0), some (.int v_2)], [.int 0], (HD, m_2, w_2, mr))) rfl ?_
            refine wp_ret rfl rfl ⟨⟨Nat.le_refl _, Nat.le_refl _⟩, ?_⟩
            have hj : joA s.2.2.1 = -12 := by rw [eT]; rfl
            have e : lpF b n joA sub (g + 1) s = (false, (sub (stP b n s)).2) := by
              show (if _ then _ else _) = _
              rw [hj, if_neg (by decide), if_neg hF]
            refine ⟨_, _, _, rfl, rfl, (hf.tr f1).tr f2, ?_⟩
            rw [e]
            exact ⟨fun z => Bool.noConfusion z, fun _ => g2⟩
          · have c_6 : ¬ (v_2 = 0) := of_decide_eq_false c_6
            refine wp_steps 13 (t' := (12, [some (.ref 84), some (.int 1), some (.int v_2)], [.int 0, .int 0, .int 0, .int 0, .int 0, .int 100, .int 110, .int 97, .ref 84], (HD, m_2, w_2, mr))) rfl ?_
            refine wp_calv (as := [.int 97, .int 110, .int 100, .int 0, .int 0, .int 0, .int 0, .int 0]) rfl rfl rfl (Nat.le_of_ble_eq_true rfl) ⟨by decide, rfl⟩ ((r_word_b (ml := w_2) (mr := mr) g2.b)) (by omega) ?_
            rintro _ _ ⟨rfl, rfl⟩
            show aWP _ _ (13, [some (.ref 84), some (.int 1), some (.int v_2)], [.int 0], (HD, m_2, w_2, mr)) _
            refine wp_bI rfl (fun c_8 => ?_) (fun c_8 => ?_)
            rotate_left
            · have c_8 : ¬ ((0 : Int32) = 0) := of_decide_eq_false c_8
              exact absurd c_8 (by decide)
            have c_8 : (0 : Int32) = 0 := of_decide_eq_true c_8
            refine wp_steps 1 (t' := (29, [some (.ref 84), some (.int 1), some (.int v_2)], [.int 1], (HD, m_2, w_2, mr))) rfl ?_
            refine wp_ret rfl rfl ⟨⟨Nat.le_refl _, Nat.le_refl _⟩, ?_⟩
            have hj : joA s.2.2.1 = -12 := by rw [eT]; rfl
            have e : lpF b n joA sub (g + 1) s = (false, (sub (stP b n s)).2) := by
              show (if _ then _ else _) = _
              rw [hj, if_neg (by decide), if_neg hF]
            refine ⟨_, _, _, rfl, rfl, (hf.tr f1).tr f2, ?_⟩
            rw [e]
            exact ⟨fun z => Bool.noConfusion z, fun _ => g2⟩
set_option maxRecDepth 20000 in
set_option maxHeartbeats 1000000 in
theorem r_both4 {X : aXt × Value} {mr : Nat → Nat → Option Nat} (hM : MRok mr) {b : Nat → Int32} {n t : Nat} (hnn : nnB b n) {nm : Nat → Int32} {d : Nat} (hd : 4 ≤ d) {sub : pF} (hsub : cwR X mr b n t 4 nm d 142 9 sub) : cwR X mr b n t 4 nm (d + 1) 143 10 (chF b n joA sub) := by
  intro m w s h hnm
  refine cw_of (cd := cd_X7_both4) (nL := 3) rfl rfl ?_
  show aWP _ _ (0, [some (.ref 84), none, none], [], (HD, m, w, mr)) _
  refine wp_steps 1 (t' := (1, [some (.ref 84), none, none], [.ref 84], (HD, m, w, mr))) rfl ?_
  refine wp_calv (as := []) rfl rfl rfl (Nat.le_of_ble_eq_true rfl) ⟨by decide, rfl⟩ ((hsub _ _ _ h hnm)) (by omega) ?_
  rintro _ _ ⟨v_2, m_2, w_2, rfl, rfl, f2, r2⟩
  show aWP _ _ (2, [some (.ref 84), none, none], [.int v_2], (HD, m_2, w_2, mr)) _
  by_cases hF : (sub s).1 = true
  · obtain ⟨g2, go2⟩ := r2.1 hF
    refine wp_steps 1 (t' := (3, [some (.ref 84), some (.int v_2), none], [], (HD, m_2, w_2, mr))) rfl ?_
    have e : chF b n joA sub s = lpF b n joA sub 160 (sub s).2 := if_pos hF
    rw [e]
    exact l_both4 hM hnn hd hsub h.2.2.1.2.2.2.2 160 _ _ _ _ _ g2 (go2.wk (by decide)) (hnm.fr f2) f2 (by have := g2.1.1.2.2.2; omega)
  · have g2 := r2.2 (Bool.eq_false_iff.mpr hF)
    refine wp_steps 10 (t' := (12, [some (.ref 84), some (.int v_2), none], [.int 0, .int 0, .int 0, .int 0, .int 0, .int 100, .int 110, .int 97, .ref 84], (HD, m_2, w_2, mr))) rfl ?_
    refine wp_calv (as := [.int 97, .int 110, .int 100, .int 0, .int 0, .int 0, .int 0, .int 0]) rfl rfl rfl (Nat.le_of_ble_eq_true rfl) ⟨by decide, rfl⟩ ((r_word_b (ml := w_2) (mr := mr) g2.b)) (by omega) ?_
    rintro _ _ ⟨rfl, rfl⟩
    show aWP _ _ (13, [some (.ref 84), some (.int v_2), none], [.int 0], (HD, m_2, w_2, mr)) _
    refine wp_bI rfl (fun c_1 => ?_) (fun c_1 => ?_)
    rotate_left
    · have c_1 : ¬ ((0 : Int32) = 0) := of_decide_eq_false c_1
      exact absurd c_1 (by decide)
    have c_1 : (0 : Int32) = 0 := of_decide_eq_true c_1
    refine wp_steps 1 (t' := (29, [some (.ref 84), some (.int v_2), none], [.int v_2], (HD, m_2, w_2, mr))) rfl ?_
    refine wp_ret rfl rfl ⟨⟨Nat.le_refl _, Nat.le_refl _⟩, ?_⟩
    have e : chF b n joA sub s = (false, (sub s).2) := if_neg hF
    refine ⟨_, _, _, rfl, rfl, f2, ?_⟩
    rw [e]
    exact ⟨fun z => Bool.noConfusion z, fun _ => g2⟩
set_option maxRecDepth 20000 in
set_option maxHeartbeats 1000000 in
theorem l_either4 {X : aXt × Value} {mr : Nat → Nat → Option Nat} (hM : MRok mr) {b : Nat → Int32} {n t : Nat} (hnn : nnB b n) {nm : Nat → Int32} {d : Nat} (hd : 4 ≤ d) {sub : pF} (hsub : cwR X mr b n t 4 nm d 143 10 sub) {s0 : pS} (hs0 : s0.2.2.2.2.length ≤ s0.1) {m0 : Nat → Nat → Int32} : ∀ (g : Nat) (v : Int32) (m : Nat → Nat → Int32) (w : Nat → Nat → Int64) (s : pS) (o1 : Option Value), RS b n t 4 m w s → GO nm 11 s0 s v → nmO m nm → frR m0 m → n ≤ s.1 + g → aWP (aEx (aTb X) d) cd_X7_either4 (3, [some (.ref 84), some (.int v), o1], [], (HD, m, w, mr)) (fun r h' => (HD.1 ≤ h'.1.1 ∧ HD.2.1 ≤ h'.1.2.1) ∧ ∃ v m' w', r = some (.int v) ∧ h' = (HD, m', w', mr) ∧ frR m0 m' ∧ RES b n t 4 nm 11 m' w' s0 (lpF b n joO sub g s) v) := by
  intro g
  induction g with
  | zero =>
    intro v m w s o1 h go hnm hf hg
    have h0 : s.2.2.1 = 0 := h.T.trans (lx_n (by omega))
    refine wp_steps 9 (t' := (12, [some (.ref 84), some (.int v), o1], [.int 0, .int 0, .int 0, .int 0, .int 0, .int 0, .int 114, .int 111, .ref 84], (HD, m, w, mr))) rfl ?_
    refine wp_calv (as := [.int 111, .int 114, .int 0, .int 0, .int 0, .int 0, .int 0, .int 0]) rfl rfl rfl (Nat.le_of_ble_eq_true rfl) ⟨by decide, rfl⟩ ((rw_or (ml := w) hM h)) (by omega) ?_
    rintro _ _ ⟨rfl, rfl⟩
    show aWP _ _ (13, [some (.ref 84), some (.int v), o1], [.int (if s.2.2.1 = 6 then (1 : Int32) else 0)], (HD, m, w, mr)) _
    refine wp_bI rfl (fun c_1 => ?_) (fun c_1 => ?_)
    rotate_left
    · have c_1 : ¬ ((if s.2.2.1 = 6 then (1 : Int32) else 0) = 0) := of_decide_eq_false c_1
      exact absurd (if_neg (by rw [h0]; decide)) c_1
    have c_1 : (if s.2.2.1 = 6 then (1 : Int32) else 0) = 0 := of_decide_eq_true c_1
    refine wp_steps 1 (t' := (29, [some (.ref 84), some (.int v), o1], [.int v], (HD, m, w, mr))) rfl ?_
    refine wp_ret rfl rfl ⟨⟨Nat.le_refl _, Nat.le_refl _⟩, ?_⟩
    have hj : joO s.2.2.1 = 0 := by simp [joO, i0_f c_1]
    have e : lpF b n joO sub 0 s = (true, s) := rfl
    refine ⟨_, _, _, rfl, rfl, hf, ?_⟩
    rw [e]
    exact ⟨fun _ => ⟨h, go⟩, fun z => Bool.noConfusion z⟩
  | succ g ih =>
    intro v m w s o1 h go hnm hf hg
    refine wp_steps 9 (t' := (12, [some (.ref 84), some (.int v), o1], [.int 0, .int 0, .int 0, .int 0, .int 0, .int 0, .int 114, .int 111, .ref 84], (HD, m, w, mr))) rfl ?_
    refine wp_calv (as := [.int 111, .int 114, .int 0, .int 0, .int 0, .int 0, .int 0, .int 0]) rfl rfl rfl (Nat.le_of_ble_eq_true rfl) ⟨by decide, rfl⟩ ((rw_or (ml := w) hM h)) (by omega) ?_
    rintro _ _ ⟨rfl, rfl⟩
    show aWP _ _ (13, [some (.ref 84), some (.int v), o1], [.int (if s.2.2.1 = 6 then (1 : Int32) else 0)], (HD, m, w, mr)) _
    refine wp_bI rfl (fun c_1 => ?_) (fun c_1 => ?_)
    · have c_1 : (if s.2.2.1 = 6 then (1 : Int32) else 0) = 0 := of_decide_eq_true c_1
      refine wp_steps 1 (t' := (29, [some (.ref 84), some (.int v), o1], [.int v], (HD, m, w, mr))) rfl ?_
      refine wp_ret rfl rfl ⟨⟨Nat.le_refl _, Nat.le_refl _⟩, ?_⟩
      have hj : joO s.2.2.1 = 0 := by simp [joO, i0_f c_1]
      have e : lpF b n joO sub (g + 1) s = (true, s) := if_pos hj
      refine ⟨_, _, _, rfl, rfl, hf, ?_⟩
      rw [e]
      exact ⟨fun _ => ⟨h, go⟩, fun z => Bool.noConfusion z⟩
    · have c_1 : ¬ ((if s.2.2.1 = 6 then (1 : Int32) else 0) = 0) := of_decide_eq_false c_1
      refine wp_steps 1 (t' := (15, [some (.ref 84), some (.int v), o1], [.ref 84], (HD, m, w, mr))) rfl ?_
      have eT : s.2.2.1 = 6 := i0_t c_1
      refine wp_calv (as := []) rfl rfl rfl (Nat.le_of_ble_eq_true rfl) ⟨by decide, rfl⟩ ((r_next (ml := w) hM h hnn (by rw [← h.T, eT]; decide))) (by omega) ?_
      rintro _ _ ⟨rfl, m_1, w_1, rfl, f1, g1⟩
      show aWP _ _ (16, [some (.ref 84), some (.int v), o1], [], (HD, m_1, w_1, mr)) _
      refine wp_steps 1 (t' := (17, [some (.ref 84), some (.int v), o1], [.ref 84], (HD, m_1, w_1, mr))) rfl ?_
      refine wp_calv (as := []) rfl rfl rfl (Nat.le_of_ble_eq_true rfl) ⟨by decide, rfl⟩ ((hsub _ _ _ g1 (hnm.fr f1))) (by omega) ?_
      rintro _ _ ⟨v_2, m_2, w_2, rfl, rfl, f2, r2⟩
      show aWP _ _ (18, [some (.ref 84), some (.int v), o1], [.int v_2], (HD, m_2, w_2, mr)) _
      by_cases hF : (sub (stP b n s)).1 = true
      · obtain ⟨g2, go2⟩ := r2.1 hF
        refine wp_steps 2 (t' := (20, [some (.ref 84), some (.int v), some (.int v_2)], [.int v], (HD, m_2, w_2, mr))) rfl ?_
        refine wp_bI rfl (fun c_2 => ?_) (fun c_2 => ?_)
        · have c_2 : ¬ v = 0 := of_decide_eq_true c_2
          refine wp_steps 4 (t' := (3, [some (.ref 84), some (.int 1), some (.int v_2)], [], (HD, m_2, w_2, mr))) rfl ?_
          have hj : joO s.2.2.1 = -11 := by rw [eT]; rfl
          have ev : pfJ (-11) v v_2 = 1 := by simp [pfJ, c_2]
          obtain ⟨k1, k2, k3⟩ := GO_bi (c := -11) hs0 h (by rw [eT]; decide) go g2 go2 (by decide) (by decide)
          rw [ev] at k2
          have e : lpF b n joO sub (g + 1) s = lpF b n joO sub g (adP (-11) (sub (stP b n s)).2) := by
            show (if _ then _ else _) = _
            rw [hj, if_neg (by decide), if_pos hF]
          rw [e]
          exact ih _ _ _ _ _ k1 k2 ((hnm.fr f1).fr f2) ((hf.tr f1).tr f2) (by omega)
        · have c_2 : v = 0 := Decidable.not_not.mp (of_decide_eq_false c_2)
          refine wp_steps 1 (t' := (22, [some (.ref 84), some (.int v), some (.int v_2)], [.int v_2], (HD, m_2, w_2, mr))) rfl ?_
          refine wp_bI rfl (fun c_3 => ?_) (fun c_3 => ?_)
          · have c_3 : v_2 = 0 := of_decide_eq_true c_3
            refine wp_steps 3 (t' := (3, [some (.ref 84), some (.int 0), some (.int v_2)], [], (HD, m_2, w_2, mr))) rfl ?_
            have hj : joO s.2.2.1 = -11 := by rw [eT]; rfl
            have ev : pfJ (-11) v v_2 = 0 := by simp [pfJ, c_2, c_3]
            obtain ⟨k1, k2, k3⟩ := GO_bi (c := -11) hs0 h (by rw [eT]; decide) go g2 go2 (by decide) (by decide)
            rw [ev] at k2
            have e : lpF b n joO sub (g + 1) s = lpF b n joO sub g (adP (-11) (sub (stP b n s)).2) := by
              show (if _ then _ else _) = _
              rw [hj, if_neg (by decide), if_pos hF]
            rw [e]
            exact ih _ _ _ _ _ k1 k2 ((hnm.fr f1).fr f2) ((hf.tr f1).tr f2) (by omega)
          · have c_3 : ¬ (v_2 = 0) := of_decide_eq_false c_3
            refine wp_steps 4 (t' := (3, [some (.ref 84), some (.int 1), some (.int v_2)], [], (HD, m_2, w_2, mr))) rfl ?_
            have hj : joO s.2.2.1 = -11 := by rw [eT]; rfl
            have ev : pfJ (-11) v v_2 = 1 := by simp [pfJ, c_2, c_3]
            obtain ⟨k1, k2, k3⟩ := GO_bi (c := -11) hs0 h (by rw [eT]; decide) go g2 go2 (by decide) (by decide)
            rw [ev] at k2
            have e : lpF b n joO sub (g + 1) s = lpF b n joO sub g (adP (-11) (sub (stP b n s)).2) := by
              show (if _ then _ else _) = _
              rw [hj, if_neg (by decide), if_pos hF]
            rw [e]
            exact ih _ _ _ _ _ k1 k2 ((hnm.fr f1).fr f2) ((hf.tr f1).tr f2) (by omega)
      · have g2 := r2.2 (Bool.eq_false_iff.mpr hF)
        refine wp_steps 2 (t' := (20, [some (.ref 84), some (.int v), some (.int v_2)], [.int v], (HD, m_2, w_2, mr))) rfl ?_
        refine wp_bI rfl (fun c_4 => ?_) (fun c_4 => ?_)
        · have c_4 : ¬ v = 0 := of_decide_eq_true c_4
          refine wp_steps 13 (t' := (12, [some (.ref 84), some (.int 1), some (.int v_2)], [.int 0, .int 0, .int 0, .int 0, .int 0, .int 0, .int 114, .int 111, .ref 84], (HD, m_2, w_2, mr))) rfl ?_
          refine wp_calv (as := [.int 111, .int 114, .int 0, .int 0, .int 0, .int 0, .int 0, .int 0]) rfl rfl rfl (Nat.le_of_ble_eq_true rfl) ⟨by decide, rfl⟩ ((r_word_b (ml := w_2) (mr := mr) g2.b)) (by omega) ?_
          rintro _ _ ⟨rfl, rfl⟩
          show aWP _ _ (13, [some (.ref 84), some (.int 1), some (.int v_2)], [.int 0], (HD, m_2, w_2, mr)) _
          refine wp_bI rfl (fun c_5 => ?_) (fun c_5 => ?_)
          rotate_left
          · have c_5 : ¬ ((0 : Int32) = 0) := of_decide_eq_false c_5
            exact absurd c_5 (by decide)
          have c_5 : (0 : Int32) = 0 := of_decide_eq_true c_5
          refine wp_steps 1 (t' := (29, [some (.ref 84), some (.int 1), some (.int v_2)], [.int 1], (HD, m_2, w_2, mr))) rfl ?_
          refine wp_ret rfl rfl ⟨⟨Nat.le_refl _, Nat.le_refl _⟩, ?_⟩
          have hj : joO s.2.2.1 = -11 := by rw [eT]; rfl
          have e : lpF b n joO sub (g + 1) s = (false, (sub (stP b n s)).2) := by
            show (if _ then _ else _) = _
            rw [hj, if_neg (by decide), if_neg hF]
          refine ⟨_, _, _, rfl, rfl, (hf.tr f1).tr f2, ?_⟩
          rw [e]
          exact ⟨fun z => Bool.noConfusion z, fun _ => g2⟩
        · have c_4 : v = 0 := Decidable.not_not.mp (of_decide_eq_false c_4)
          refine wp_steps 1 (t' := (22, [some (.ref 84), some (.int v), some (.int v_2)], [.int v_2], (HD, m_2, w_2, mr))) rfl ?_
          refine wp_bI rfl (fun c_6 => ?_) (fun c_6 => ?_)
          · have c_6 : v_2 = 0 := of_decide_eq_true c_6
            refine wp_steps 12 (t' := (12, [some (.ref 84), some (.int 0), some (.int v_2)], [.int 0, .int 0, .int 0, .int 0, .int 0, .int 0, .int 114, .int 111, .ref 84], (HD, m_2, w_2, mr))) rfl ?_
            refine wp_calv (as := [.int 111, .int 114, .int 0, .int 0, .int 0, .int 0, .int 0, .int 0]) rfl rfl rfl (Nat.le_of_ble_eq_true rfl) ⟨by decide, rfl⟩ ((r_word_b (ml := w_2) (mr := mr) g2.b)) (by omega) ?_
            rintro _ _ ⟨rfl, rfl⟩
            show aWP _ _ (13, [some (.ref 84), some (.int 0), some (.int v_2)], [.int 0], (HD, m_2, w_2, mr)) _
            refine wp_bI rfl (fun c_7 => ?_) (fun c_7 => ?_)
            rotate_left
            · have c_7 : ¬ ((0 : Int32) = 0) := of_decide_eq_false c_7
              exact absurd c_7 (by decide)
            have c_7 : (0 : Int32) = 0 := of_decide_eq_true c_7
            refine wp_steps 1 (t' := (29, [some (.ref 84), some (.int 0), some (.int v_2)], [.int 0], (HD, m_2, w_2, mr))) rfl ?_
            refine wp_ret rfl rfl ⟨⟨Nat.le_refl _, Nat.le_refl _⟩, ?_⟩
            have hj : joO s.2.2.1 = -11 := by rw [eT]; rfl
            have e : lpF b n joO sub (g + 1) s = (false, (sub (stP b n s)).2) := by
              show (if _ then _ else _) = _
              rw [hj, if_neg (by decide), if_neg hF]
            refine ⟨_, _, _, rfl, rfl, (hf.tr f1).tr f2, ?_⟩
            rw [e]
            exact ⟨fun z => Bool.noConfusion z, fun _ => g2⟩
          · have c_6 : ¬ (v_2 = 0) := of_decide_eq_false c_6
            refine wp_steps 13 (t' := (12, [some (.ref 84), some (.int 1), some (.int v_2)], [.int 0, .int 0, .int 0, .int 0, .int 0, .int 0, .int 114, .int 111, .ref 84], (HD, m_2, w_2, mr))) rfl ?_
            refine wp_calv (as := [.int 111, .int 114, .int 0, .int 0, .int 0, .int 0, .int 0, .int 0]) rfl rfl rfl (Nat.le_of_ble_eq_true rfl) ⟨by decide, rfl⟩ ((r_word_b (ml := w_2) (mr := mr) g2.b)) (by omega) ?_
            rintro _ _ ⟨rfl, rfl⟩
            show aWP _ _ (13, [some (.ref 84), some (.int 1), some (.int v_2)], [.int 0], (HD, m_2, w_2, mr)) _
            refine wp_bI rfl (fun c_8 => ?_) (fun c_8 => ?_)
            rotate_left
            · have c_8 : ¬ ((0 : Int32) = 0) := of_decide_eq_false c_8
              exact absurd c_8 (by decide)
            have c_8 : (0 : Int32) = 0 := of_decide_eq_true c_8
            refine wp_steps 1 (t' := (29, [some (.ref 84), some (.int 1), some (.int v_2)], [.int 1], (HD, m_2, w_2, mr))) rfl ?_
            refine wp_ret rfl rfl ⟨⟨Nat.le_refl _, Nat.le_refl _⟩, ?_⟩
            have hj : joO s.2.2.1 = -11 := by rw [eT]; rfl
            have e : lpF b n joO sub (g + 1) s = (false, (sub (stP b n s)).2) := by
              show (if _ then _ else _) = _
              rw [hj, if_neg (by decide), if_neg hF]
            refine ⟨_, _, _, rfl, rfl, (hf.tr f1).tr f2, ?_⟩
            rw [e]
            exact ⟨fun z => Bool.noConfusion z, fun _ => g2⟩
set_option maxRecDepth 20000 in
set_option maxHeartbeats 1000000 in
theorem r_either4 {X : aXt × Value} {mr : Nat → Nat → Option Nat} (hM : MRok mr) {b : Nat → Int32} {n t : Nat} (hnn : nnB b n) {nm : Nat → Int32} {d : Nat} (hd : 4 ≤ d) {sub : pF} (hsub : cwR X mr b n t 4 nm d 143 10 sub) : cwR X mr b n t 4 nm (d + 1) 144 11 (chF b n joO sub) := by
  intro m w s h hnm
  refine cw_of (cd := cd_X7_either4) (nL := 3) rfl rfl ?_
  show aWP _ _ (0, [some (.ref 84), none, none], [], (HD, m, w, mr)) _
  refine wp_steps 1 (t' := (1, [some (.ref 84), none, none], [.ref 84], (HD, m, w, mr))) rfl ?_
  refine wp_calv (as := []) rfl rfl rfl (Nat.le_of_ble_eq_true rfl) ⟨by decide, rfl⟩ ((hsub _ _ _ h hnm)) (by omega) ?_
  rintro _ _ ⟨v_2, m_2, w_2, rfl, rfl, f2, r2⟩
  show aWP _ _ (2, [some (.ref 84), none, none], [.int v_2], (HD, m_2, w_2, mr)) _
  by_cases hF : (sub s).1 = true
  · obtain ⟨g2, go2⟩ := r2.1 hF
    refine wp_steps 1 (t' := (3, [some (.ref 84), some (.int v_2), none], [], (HD, m_2, w_2, mr))) rfl ?_
    have e : chF b n joO sub s = lpF b n joO sub 160 (sub s).2 := if_pos hF
    rw [e]
    exact l_either4 hM hnn hd hsub h.2.2.1.2.2.2.2 160 _ _ _ _ _ g2 (go2.wk (by decide)) (hnm.fr f2) f2 (by have := g2.1.1.2.2.2; omega)
  · have g2 := r2.2 (Bool.eq_false_iff.mpr hF)
    refine wp_steps 10 (t' := (12, [some (.ref 84), some (.int v_2), none], [.int 0, .int 0, .int 0, .int 0, .int 0, .int 0, .int 114, .int 111, .ref 84], (HD, m_2, w_2, mr))) rfl ?_
    refine wp_calv (as := [.int 111, .int 114, .int 0, .int 0, .int 0, .int 0, .int 0, .int 0]) rfl rfl rfl (Nat.le_of_ble_eq_true rfl) ⟨by decide, rfl⟩ ((r_word_b (ml := w_2) (mr := mr) g2.b)) (by omega) ?_
    rintro _ _ ⟨rfl, rfl⟩
    show aWP _ _ (13, [some (.ref 84), some (.int v_2), none], [.int 0], (HD, m_2, w_2, mr)) _
    refine wp_bI rfl (fun c_1 => ?_) (fun c_1 => ?_)
    rotate_left
    · have c_1 : ¬ ((0 : Int32) = 0) := of_decide_eq_false c_1
      exact absurd c_1 (by decide)
    have c_1 : (0 : Int32) = 0 := of_decide_eq_true c_1
    refine wp_steps 1 (t' := (29, [some (.ref 84), some (.int v_2), none], [.int v_2], (HD, m_2, w_2, mr))) rfl ?_
    refine wp_ret rfl rfl ⟨⟨Nat.le_refl _, Nat.le_refl _⟩, ?_⟩
    have e : chF b n joO sub s = (false, (sub s).2) := if_neg hF
    refine ⟨_, _, _, rfl, rfl, f2, ?_⟩
    rw [e]
    exact ⟨fun z => Bool.noConfusion z, fun _ => g2⟩
set_option maxRecDepth 20000 in
set_option maxHeartbeats 1000000 in
theorem l_term3 {X : aXt × Value} {mr : Nat → Nat → Option Nat} (hM : MRok mr) {b : Nat → Int32} {n t : Nat} (hnn : nnB b n) {nm : Nat → Int32} {d : Nat} (hd : 4 ≤ d) {sub : pF} (hsub : cwR X mr b n t 3 nm d 145 11 sub) {s0 : pS} (hs0 : s0.2.2.2.2.length ≤ s0.1) {m0 : Nat → Nat → Int32} : ∀ (g : Nat) (v : Int32) (m : Nat → Nat → Int32) (w : Nat → Nat → Int64) (s : pS), RS b n t 3 m w s → GO nm 12 s0 s v → nmO m nm → frR m0 m → n ≤ s.1 + g → aWP (aEx (aTb X) d) cd_X7_term3 (3, [some (.ref 84), some (.int v)], [], (HD, m, w, mr)) (fun r h' => (HD.1 ≤ h'.1.1 ∧ HD.2.1 ≤ h'.1.2.1) ∧ ∃ v m' w', r = some (.int v) ∧ h' = (HD, m', w', mr) ∧ frR m0 m' ∧ RES b n t 3 nm 12 m' w' s0 (lpF b n joT sub g s) v) := by
  intro g
  induction g with
  | zero =>
    intro v m w s h go hnm hf hg
    have h0 : s.2.2.1 = 0 := h.T.trans (lx_n (by omega))
    refine wp_steps 2 (t' := (5, [some (.ref 84), some (.int v)], [.int 42, .ref 84], (HD, m, w, mr))) rfl ?_
    refine wp_calv (as := [.int 42]) rfl rfl rfl (Nat.le_of_ble_eq_true rfl) ⟨by decide, rfl⟩ ((r_sign (ml := w) hM h (c := 42) (by decide))) (by omega) ?_
    rintro _ _ ⟨rfl, rfl⟩
    show aWP _ _ (6, [some (.ref 84), some (.int v)], [.int (if s.2.2.1 = 42 then (1 : Int32) else 0)], (HD, m, w, mr)) _
    refine wp_bI rfl (fun c_1 => ?_) (fun c_1 => ?_)
    rotate_left
    · have c_1 : ¬ ((if s.2.2.1 = 42 then (1 : Int32) else 0) = 0) := of_decide_eq_false c_1
      exact absurd (if_neg (by rw [h0]; decide)) c_1
    have c_1 : (if s.2.2.1 = 42 then (1 : Int32) else 0) = 0 := of_decide_eq_true c_1
    refine wp_steps 1 (t' := (16, [some (.ref 84), some (.int v)], [.int v], (HD, m, w, mr))) rfl ?_
    refine wp_ret rfl rfl ⟨⟨Nat.le_refl _, Nat.le_refl _⟩, ?_⟩
    have hj : joT s.2.2.1 = 0 := by simp [joT, i0_f c_1]
    have e : lpF b n joT sub 0 s = (true, s) := rfl
    refine ⟨_, _, _, rfl, rfl, hf, ?_⟩
    rw [e]
    exact ⟨fun _ => ⟨h, go⟩, fun z => Bool.noConfusion z⟩
  | succ g ih =>
    intro v m w s h go hnm hf hg
    refine wp_steps 2 (t' := (5, [some (.ref 84), some (.int v)], [.int 42, .ref 84], (HD, m, w, mr))) rfl ?_
    refine wp_calv (as := [.int 42]) rfl rfl rfl (Nat.le_of_ble_eq_true rfl) ⟨by decide, rfl⟩ ((r_sign (ml := w) hM h (c := 42) (by decide))) (by omega) ?_
    rintro _ _ ⟨rfl, rfl⟩
    show aWP _ _ (6, [some (.ref 84), some (.int v)], [.int (if s.2.2.1 = 42 then (1 : Int32) else 0)], (HD, m, w, mr)) _
    refine wp_bI rfl (fun c_1 => ?_) (fun c_1 => ?_)
    · have c_1 : (if s.2.2.1 = 42 then (1 : Int32) else 0) = 0 := of_decide_eq_true c_1
      refine wp_steps 1 (t' := (16, [some (.ref 84), some (.int v)], [.int v], (HD, m, w, mr))) rfl ?_
      refine wp_ret rfl rfl ⟨⟨Nat.le_refl _, Nat.le_refl _⟩, ?_⟩
      have hj : joT s.2.2.1 = 0 := by simp [joT, i0_f c_1]
      have e : lpF b n joT sub (g + 1) s = (true, s) := if_pos hj
      refine ⟨_, _, _, rfl, rfl, hf, ?_⟩
      rw [e]
      exact ⟨fun _ => ⟨h, go⟩, fun z => Bool.noConfusion z⟩
    · have c_1 : ¬ ((if s.2.2.1 = 42 then (1 : Int32) else 0) = 0) := of_decide_eq_false c_1
      refine wp_steps 1 (t' := (8, [some (.ref 84), some (.int v)], [.ref 84], (HD, m, w, mr))) rfl ?_
      have eT : s.2.2.1 = 42 := i0_t c_1
      refine wp_calv (as := []) rfl rfl rfl (Nat.le_of_ble_eq_true rfl) ⟨by decide, rfl⟩ ((r_next (ml := w) hM h hnn (by rw [← h.T, eT]; decide))) (by omega) ?_
      rintro _ _ ⟨rfl, m_1, w_1, rfl, f1, g1⟩
      show aWP _ _ (9, [some (.ref 84), some (.int v)], [], (HD, m_1, w_1, mr)) _
      refine wp_steps 2 (t' := (11, [some (.ref 84), some (.int v)], [.ref 84, .int v], (HD, m_1, w_1, mr))) rfl ?_
      refine wp_calv (as := []) rfl rfl rfl (Nat.le_of_ble_eq_true rfl) ⟨by decide, rfl⟩ ((hsub _ _ _ g1 (hnm.fr f1))) (by omega) ?_
      rintro _ _ ⟨v_2, m_2, w_2, rfl, rfl, f2, r2⟩
      show aWP _ _ (12, [some (.ref 84), some (.int v)], [.int v_2, .int v], (HD, m_2, w_2, mr)) _
      by_cases hF : (sub (stP b n s)).1 = true
      · obtain ⟨g2, go2⟩ := r2.1 hF
        refine wp_steps 3 (t' := (3, [some (.ref 84), some (.int (v * v_2))], [], (HD, m_2, w_2, mr))) rfl ?_
        have hj : joT s.2.2.1 = -18 := by rw [eT]; rfl
        have ev : pfJ (-18) v v_2 = v * v_2 := rfl
        obtain ⟨k1, k2, k3⟩ := GO_bi (c := -18) hs0 h (by rw [eT]; decide) go g2 go2 (by decide) (by decide)
        rw [ev] at k2
        have e : lpF b n joT sub (g + 1) s = lpF b n joT sub g (adP (-18) (sub (stP b n s)).2) := by
          show (if _ then _ else _) = _
          rw [hj, if_neg (by decide), if_pos hF]
        rw [e]
        exact ih _ _ _ _ k1 k2 ((hnm.fr f1).fr f2) ((hf.tr f1).tr f2) (by omega)
      · have g2 := r2.2 (Bool.eq_false_iff.mpr hF)
        refine wp_steps 5 (t' := (5, [some (.ref 84), some (.int (v * v_2))], [.int 42, .ref 84], (HD, m_2, w_2, mr))) rfl ?_
        refine wp_calv (as := [.int 42]) rfl rfl rfl (Nat.le_of_ble_eq_true rfl) ⟨by decide, rfl⟩ ((r_sign_b (ml := w_2) (mr := mr) g2.b (c := 42))) (by omega) ?_
        rintro _ _ ⟨rfl, rfl⟩
        show aWP _ _ (6, [some (.ref 84), some (.int (v * v_2))], [.int 0], (HD, m_2, w_2, mr)) _
        refine wp_bI rfl (fun c_2 => ?_) (fun c_2 => ?_)
        rotate_left
        · have c_2 : ¬ ((0 : Int32) = 0) := of_decide_eq_false c_2
          exact absurd c_2 (by decide)
        have c_2 : (0 : Int32) = 0 := of_decide_eq_true c_2
        refine wp_steps 1 (t' := (16, [some (.ref 84), some (.int (v * v_2))], [.int (v * v_2)], (HD, m_2, w_2, mr))) rfl ?_
        refine wp_ret rfl rfl ⟨⟨Nat.le_refl _, Nat.le_refl _⟩, ?_⟩
        have hj : joT s.2.2.1 = -18 := by rw [eT]; rfl
        have e : lpF b n joT sub (g + 1) s = (false, (sub (stP b n s)).2) := by
          show (if _ then _ else _) = _
          rw [hj, if_neg (by decide), if_neg hF]
        refine ⟨_, _, _, rfl, rfl, (hf.tr f1).tr f2, ?_⟩
        rw [e]
        exact ⟨fun z => Bool.noConfusion z, fun _ => g2⟩
set_option maxRecDepth 20000 in
set_option maxHeartbeats 1000000 in
theorem r_term3 {X : aXt × Value} {mr : Nat → Nat → Option Nat} (hM : MRok mr) {b : Nat → Int32} {n t : Nat} (hnn : nnB b n) {nm : Nat → Int32} {d : Nat} (hd : 4 ≤ d) {sub : pF} (hsub : cwR X mr b n t 3 nm d 145 11 sub) : cwR X mr b n t 3 nm (d + 1) 146 12 (chF b n joT sub) := by
  intro m w s h hnm
  refine cw_of (cd := cd_X7_term3) (nL := 2) rfl rfl ?_
  show aWP _ _ (0, [some (.ref 84), none], [], (HD, m, w, mr)) _
  refine wp_steps 1 (t' := (1, [some (.ref 84), none], [.ref 84], (HD, m, w, mr))) rfl ?_
  refine wp_calv (as := []) rfl rfl rfl (Nat.le_of_ble_eq_true rfl) ⟨by decide, rfl⟩ ((hsub _ _ _ h hnm)) (by omega) ?_
  rintro _ _ ⟨v_2, m_2, w_2, rfl, rfl, f2, r2⟩
  show aWP _ _ (2, [some (.ref 84), none], [.int v_2], (HD, m_2, w_2, mr)) _
  by_cases hF : (sub s).1 = true
  · obtain ⟨g2, go2⟩ := r2.1 hF
    refine wp_steps 1 (t' := (3, [some (.ref 84), some (.int v_2)], [], (HD, m_2, w_2, mr))) rfl ?_
    have e : chF b n joT sub s = lpF b n joT sub 160 (sub s).2 := if_pos hF
    rw [e]
    exact l_term3 hM hnn hd hsub h.2.2.1.2.2.2.2 160 _ _ _ _ g2 (go2.wk (by decide)) (hnm.fr f2) f2 (by have := g2.1.1.2.2.2; omega)
  · have g2 := r2.2 (Bool.eq_false_iff.mpr hF)
    refine wp_steps 3 (t' := (5, [some (.ref 84), some (.int v_2)], [.int 42, .ref 84], (HD, m_2, w_2, mr))) rfl ?_
    refine wp_calv (as := [.int 42]) rfl rfl rfl (Nat.le_of_ble_eq_true rfl) ⟨by decide, rfl⟩ ((r_sign_b (ml := w_2) (mr := mr) g2.b (c := 42))) (by omega) ?_
    rintro _ _ ⟨rfl, rfl⟩
    show aWP _ _ (6, [some (.ref 84), some (.int v_2)], [.int 0], (HD, m_2, w_2, mr)) _
    refine wp_bI rfl (fun c_1 => ?_) (fun c_1 => ?_)
    rotate_left
    · have c_1 : ¬ ((0 : Int32) = 0) := of_decide_eq_false c_1
      exact absurd c_1 (by decide)
    have c_1 : (0 : Int32) = 0 := of_decide_eq_true c_1
    refine wp_steps 1 (t' := (16, [some (.ref 84), some (.int v_2)], [.int v_2], (HD, m_2, w_2, mr))) rfl ?_
    refine wp_ret rfl rfl ⟨⟨Nat.le_refl _, Nat.le_refl _⟩, ?_⟩
    have e : chF b n joT sub s = (false, (sub s).2) := if_neg hF
    refine ⟨_, _, _, rfl, rfl, f2, ?_⟩
    rw [e]
    exact ⟨fun z => Bool.noConfusion z, fun _ => g2⟩
set_option maxRecDepth 20000 in
set_option maxHeartbeats 1000000 in
theorem l_added3 {X : aXt × Value} {mr : Nat → Nat → Option Nat} (hM : MRok mr) {b : Nat → Int32} {n t : Nat} (hnn : nnB b n) {nm : Nat → Int32} {d : Nat} (hd : 4 ≤ d) {sub : pF} (hsub : cwR X mr b n t 3 nm d 146 12 sub) {s0 : pS} (hs0 : s0.2.2.2.2.length ≤ s0.1) {m0 : Nat → Nat → Int32} : ∀ (g : Nat) (v : Int32) (m : Nat → Nat → Int32) (w : Nat → Nat → Int64) (s : pS) (o1 o2 : Option Value), RS b n t 3 m w s → GO nm 13 s0 s v → nmO m nm → frR m0 m → n ≤ s.1 + g → aWP (aEx (aTb X) d) cd_X7_added3 (3, [some (.ref 84), some (.int v), o1, o2], [], (HD, m, w, mr)) (fun r h' => (HD.1 ≤ h'.1.1 ∧ HD.2.1 ≤ h'.1.2.1) ∧ ∃ v m' w', r = some (.int v) ∧ h' = (HD, m', w', mr) ∧ frR m0 m' ∧ RES b n t 3 nm 13 m' w' s0 (lpF b n joS sub g s) v) := by
  intro g
  induction g with
  | zero =>
    intro v m w s o1 o2 h go hnm hf hg
    have h0 : s.2.2.1 = 0 := h.T.trans (lx_n (by omega))
    refine wp_steps 2 (t' := (5, [some (.ref 84), some (.int v), o1, o2], [.int 43, .ref 84], (HD, m, w, mr))) rfl ?_
    refine wp_calv (as := [.int 43]) rfl rfl rfl (Nat.le_of_ble_eq_true rfl) ⟨by decide, rfl⟩ ((r_sign (ml := w) hM h (c := 43) (by decide))) (by omega) ?_
    rintro _ _ ⟨rfl, rfl⟩
    show aWP _ _ (6, [some (.ref 84), some (.int v), o1, o2], [.int (if s.2.2.1 = 43 then (1 : Int32) else 0)], (HD, m, w, mr)) _
    refine wp_bI rfl (fun c_1 => ?_) (fun c_1 => ?_)
    · have c_1 : ¬ (if s.2.2.1 = 43 then (1 : Int32) else 0) = 0 := of_decide_eq_true c_1
      exact absurd (if_neg (by rw [h0]; decide)) c_1
    have c_1 : (if s.2.2.1 = 43 then (1 : Int32) else 0) = 0 := Decidable.not_not.mp (of_decide_eq_false c_1)
    refine wp_steps 2 (t' := (9, [some (.ref 84), some (.int v), o1, o2], [.int 45, .ref 84], (HD, m, w, mr))) rfl ?_
    refine wp_calv (as := [.int 45]) rfl rfl rfl (Nat.le_of_ble_eq_true rfl) ⟨by decide, rfl⟩ ((r_sign (ml := w) hM h (c := 45) (by decide))) (by omega) ?_
    rintro _ _ ⟨rfl, rfl⟩
    show aWP _ _ (10, [some (.ref 84), some (.int v), o1, o2], [.int (if s.2.2.1 = 45 then (1 : Int32) else 0)], (HD, m, w, mr)) _
    refine wp_bI rfl (fun c_2 => ?_) (fun c_2 => ?_)
    rotate_left
    · have c_2 : ¬ ((if s.2.2.1 = 45 then (1 : Int32) else 0) = 0) := of_decide_eq_false c_2
      exact absurd (if_neg (by rw [h0]; decide)) c_2
    have c_2 : (if s.2.2.1 = 45 then (1 : Int32) else 0) = 0 := of_decide_eq_true c_2
    refine wp_steps 1 (t' := (37, [some (.ref 84), some (.int v), o1, o2], [.int v], (HD, m, w, mr))) rfl ?_
    refine wp_ret rfl rfl ⟨⟨Nat.le_refl _, Nat.le_refl _⟩, ?_⟩
    have hj : joS s.2.2.1 = 0 := by simp [joS, i0_f c_1, i0_f c_2]
    have e : lpF b n joS sub 0 s = (true, s) := rfl
    refine ⟨_, _, _, rfl, rfl, hf, ?_⟩
    rw [e]
    exact ⟨fun _ => ⟨h, go⟩, fun z => Bool.noConfusion z⟩
  | succ g ih =>
    intro v m w s o1 o2 h go hnm hf hg
    refine wp_steps 2 (t' := (5, [some (.ref 84), some (.int v), o1, o2], [.int 43, .ref 84], (HD, m, w, mr))) rfl ?_
    refine wp_calv (as := [.int 43]) rfl rfl rfl (Nat.le_of_ble_eq_true rfl) ⟨by decide, rfl⟩ ((r_sign (ml := w) hM h (c := 43) (by decide))) (by omega) ?_
    rintro _ _ ⟨rfl, rfl⟩
    show aWP _ _ (6, [some (.ref 84), some (.int v), o1, o2], [.int (if s.2.2.1 = 43 then (1 : Int32) else 0)], (HD, m, w, mr)) _
    refine wp_bI rfl (fun c_1 => ?_) (fun c_1 => ?_)
    · have c_1 : ¬ (if s.2.2.1 = 43 then (1 : Int32) else 0) = 0 := of_decide_eq_true c_1
      refine wp_steps 1 (t' := (12, [some (.ref 84), some (.int v), o1, o2], [.ref 84], (HD, m, w, mr))) rfl ?_
      refine wp_getl rfl ⟨by decide, rfl⟩ rfl ?_
      have ew : w 84 24 = (43 : Int32).toInt64 := h.sg (by decide) (i0_t c_1)
      rw [ew]
      refine wp_steps 2 (t' := (15, [some (.ref 84), some (.int v), o1, o2], [.int (lg_cmp ((43 : Int32).toInt64) 43)], (HD, m, w, mr))) rfl ?_
      refine wp_bI rfl (fun c_2 => ?_) (fun c_2 => ?_)
      · have c_2 : ¬ (lg_cmp ((43 : Int32).toInt64) 43) = 0 := of_decide_eq_true c_2
        exact absurd ((lg_cmp_eq _ _).mpr (by decide)) c_2
      have c_2 : (lg_cmp ((43 : Int32).toInt64) 43) = 0 := Decidable.not_not.mp (of_decide_eq_false c_2)
      refine wp_steps 4 (t' := (21, [some (.ref 84), some (.int v), some (.int 1), o2], [.ref 84], (HD, m, w, mr))) rfl ?_
      have eT : s.2.2.1 = 43 := i0_t c_1
      refine wp_calv (as := []) rfl rfl rfl (Nat.le_of_ble_eq_true rfl) ⟨by decide, rfl⟩ ((r_next (ml := w) hM h hnn (by rw [← h.T, eT]; decide))) (by omega) ?_
      rintro _ _ ⟨rfl, m_1, w_1, rfl, f1, g1⟩
      show aWP _ _ (22, [some (.ref 84), some (.int v), some (.int 1), o2], [], (HD, m_1, w_1, mr)) _
      refine wp_steps 1 (t' := (23, [some (.ref 84), some (.int v), some (.int 1), o2], [.ref 84], (HD, m_1, w_1, mr))) rfl ?_
      refine wp_calv (as := []) rfl rfl rfl (Nat.le_of_ble_eq_true rfl) ⟨by decide, rfl⟩ ((hsub _ _ _ g1 (hnm.fr f1))) (by omega) ?_
      rintro _ _ ⟨v_2, m_2, w_2, rfl, rfl, f2, r2⟩
      show aWP _ _ (24, [some (.ref 84), some (.int v), some (.int 1), o2], [.int v_2], (HD, m_2, w_2, mr)) _
      by_cases hF : (sub (stP b n s)).1 = true
      · obtain ⟨g2, go2⟩ := r2.1 hF
        refine wp_steps 2 (t' := (26, [some (.ref 84), some (.int v), some (.int 1), some (.int v_2)], [.int 1], (HD, m_2, w_2, mr))) rfl ?_
        refine wp_bI rfl (fun c_3 => ?_) (fun c_3 => ?_)
        · have c_3 : (1 : Int32) = 0 := of_decide_eq_true c_3
          exact absurd c_3 (by decide)
        have c_3 : ¬ ((1 : Int32) = 0) := of_decide_eq_false c_3
        refine wp_steps 6 (t' := (3, [some (.ref 84), some (.int (v + v_2)), some (.int 1), some (.int v_2)], [], (HD, m_2, w_2, mr))) rfl ?_
        have hj : joS s.2.2.1 = -16 := by rw [eT]; rfl
        have ev : pfJ (-16) v v_2 = v + v_2 := rfl
        obtain ⟨k1, k2, k3⟩ := GO_bi (c := -16) hs0 h (by rw [eT]; decide) go g2 go2 (by decide) (by decide)
        rw [ev] at k2
        have e : lpF b n joS sub (g + 1) s = lpF b n joS sub g (adP (-16) (sub (stP b n s)).2) := by
          show (if _ then _ else _) = _
          rw [hj, if_neg (by decide), if_pos hF]
        rw [e]
        exact ih _ _ _ _ _ _ k1 k2 ((hnm.fr f1).fr f2) ((hf.tr f1).tr f2) (by omega)
      · have g2 := r2.2 (Bool.eq_false_iff.mpr hF)
        refine wp_steps 2 (t' := (26, [some (.ref 84), some (.int v), some (.int 1), some (.int v_2)], [.int 1], (HD, m_2, w_2, mr))) rfl ?_
        refine wp_bI rfl (fun c_4 => ?_) (fun c_4 => ?_)
        · have c_4 : (1 : Int32) = 0 := of_decide_eq_true c_4
          exact absurd c_4 (by decide)
        have c_4 : ¬ ((1 : Int32) = 0) := of_decide_eq_false c_4
        refine wp_steps 8 (t' := (5, [some (.ref 84), some (.int (v + v_2)), some (.int 1), some (.int v_2)], [.int 43, .ref 84], (HD, m_2, w_2, mr))) rfl ?_
        refine wp_calv (as := [.int 43]) rfl rfl rfl (Nat.le_of_ble_eq_true rfl) ⟨by decide, rfl⟩ ((r_sign_b (ml := w_2) (mr := mr) g2.b (c := 43))) (by omega) ?_
        rintro _ _ ⟨rfl, rfl⟩
        show aWP _ _ (6, [some (.ref 84), some (.int (v + v_2)), some (.int 1), some (.int v_2)], [.int 0], (HD, m_2, w_2, mr)) _
        refine wp_bI rfl (fun c_5 => ?_) (fun c_5 => ?_)
        · have c_5 : ¬ (0 : Int32) = 0 := of_decide_eq_true c_5
          exact absurd c_5 (by decide)
        have c_5 : (0 : Int32) = 0 := Decidable.not_not.mp (of_decide_eq_false c_5)
        refine wp_steps 2 (t' := (9, [some (.ref 84), some (.int (v + v_2)), some (.int 1), some (.int v_2)], [.int 45, .ref 84], (HD, m_2, w_2, mr))) rfl ?_
        refine wp_calv (as := [.int 45]) rfl rfl rfl (Nat.le_of_ble_eq_true rfl) ⟨by decide, rfl⟩ ((r_sign_b (ml := w_2) (mr := mr) g2.b (c := 45))) (by omega) ?_
        rintro _ _ ⟨rfl, rfl⟩
        show aWP _ _ (10, [some (.ref 84), some (.int (v + v_2)), some (.int 1), some (.int v_2)], [.int 0], (HD, m_2, w_2, mr)) _
        refine wp_bI rfl (fun c_6 => ?_) (fun c_6 => ?_)
        rotate_left
        · have c_6 : ¬ ((0 : Int32) = 0) := of_decide_eq_false c_6
          exact absurd c_6 (by decide)
        have c_6 : (0 : Int32) = 0 := of_decide_eq_true c_6
        refine wp_steps 1 (t' := (37, [some (.ref 84), some (.int (v + v_2)), some (.int 1), some (.int v_2)], [.int (v + v_2)], (HD, m_2, w_2, mr))) rfl ?_
        refine wp_ret rfl rfl ⟨⟨Nat.le_refl _, Nat.le_refl _⟩, ?_⟩
        have hj : joS s.2.2.1 = -16 := by rw [eT]; rfl
        have e : lpF b n joS sub (g + 1) s = (false, (sub (stP b n s)).2) := by
          show (if _ then _ else _) = _
          rw [hj, if_neg (by decide), if_neg hF]
        refine ⟨_, _, _, rfl, rfl, (hf.tr f1).tr f2, ?_⟩
        rw [e]
        exact ⟨fun z => Bool.noConfusion z, fun _ => g2⟩
    · have c_1 : (if s.2.2.1 = 43 then (1 : Int32) else 0) = 0 := Decidable.not_not.mp (of_decide_eq_false c_1)
      refine wp_steps 2 (t' := (9, [some (.ref 84), some (.int v), o1, o2], [.int 45, .ref 84], (HD, m, w, mr))) rfl ?_
      refine wp_calv (as := [.int 45]) rfl rfl rfl (Nat.le_of_ble_eq_true rfl) ⟨by decide, rfl⟩ ((r_sign (ml := w) hM h (c := 45) (by decide))) (by omega) ?_
      rintro _ _ ⟨rfl, rfl⟩
      show aWP _ _ (10, [some (.ref 84), some (.int v), o1, o2], [.int (if s.2.2.1 = 45 then (1 : Int32) else 0)], (HD, m, w, mr)) _
      refine wp_bI rfl (fun c_7 => ?_) (fun c_7 => ?_)
      · have c_7 : (if s.2.2.1 = 45 then (1 : Int32) else 0) = 0 := of_decide_eq_true c_7
        refine wp_steps 1 (t' := (37, [some (.ref 84), some (.int v), o1, o2], [.int v], (HD, m, w, mr))) rfl ?_
        refine wp_ret rfl rfl ⟨⟨Nat.le_refl _, Nat.le_refl _⟩, ?_⟩
        have hj : joS s.2.2.1 = 0 := by simp [joS, i0_f c_1, i0_f c_7]
        have e : lpF b n joS sub (g + 1) s = (true, s) := if_pos hj
        refine ⟨_, _, _, rfl, rfl, hf, ?_⟩
        rw [e]
        exact ⟨fun _ => ⟨h, go⟩, fun z => Bool.noConfusion z⟩
      · have c_7 : ¬ ((if s.2.2.1 = 45 then (1 : Int32) else 0) = 0) := of_decide_eq_false c_7
        refine wp_steps 1 (t' := (12, [some (.ref 84), some (.int v), o1, o2], [.ref 84], (HD, m, w, mr))) rfl ?_
        refine wp_getl rfl ⟨by decide, rfl⟩ rfl ?_
        have ew : w 84 24 = (45 : Int32).toInt64 := h.sg (by decide) (i0_t c_7)
        rw [ew]
        refine wp_steps 2 (t' := (15, [some (.ref 84), some (.int v), o1, o2], [.int (lg_cmp ((45 : Int32).toInt64) 43)], (HD, m, w, mr))) rfl ?_
        refine wp_bI rfl (fun c_8 => ?_) (fun c_8 => ?_)
        rotate_left
        · have c_8 : (lg_cmp ((45 : Int32).toInt64) 43) = 0 := Decidable.not_not.mp (of_decide_eq_false c_8)
          exact absurd ((lg_cmp_eq _ _).mp c_8) (by decide)
        have c_8 : ¬ (lg_cmp ((45 : Int32).toInt64) 43) = 0 := of_decide_eq_true c_8
        refine wp_steps 3 (t' := (21, [some (.ref 84), some (.int v), some (.int 0), o2], [.ref 84], (HD, m, w, mr))) rfl ?_
        have eT : s.2.2.1 = 45 := i0_t c_7
        refine wp_calv (as := []) rfl rfl rfl (Nat.le_of_ble_eq_true rfl) ⟨by decide, rfl⟩ ((r_next (ml := w) hM h hnn (by rw [← h.T, eT]; decide))) (by omega) ?_
        rintro _ _ ⟨rfl, m_1, w_1, rfl, f1, g1⟩
        show aWP _ _ (22, [some (.ref 84), some (.int v), some (.int 0), o2], [], (HD, m_1, w_1, mr)) _
        refine wp_steps 1 (t' := (23, [some (.ref 84), some (.int v), some (.int 0), o2], [.ref 84], (HD, m_1, w_1, mr))) rfl ?_
        refine wp_calv (as := []) rfl rfl rfl (Nat.le_of_ble_eq_true rfl) ⟨by decide, rfl⟩ ((hsub _ _ _ g1 (hnm.fr f1))) (by omega) ?_
        rintro _ _ ⟨v_2, m_2, w_2, rfl, rfl, f2, r2⟩
        show aWP _ _ (24, [some (.ref 84), some (.int v), some (.int 0), o2], [.int v_2], (HD, m_2, w_2, mr)) _
        by_cases hF : (sub (stP b n s)).1 = true
        · obtain ⟨g2, go2⟩ := r2.1 hF
          refine wp_steps 2 (t' := (26, [some (.ref 84), some (.int v), some (.int 0), some (.int v_2)], [.int 0], (HD, m_2, w_2, mr))) rfl ?_
          refine wp_bI rfl (fun c_9 => ?_) (fun c_9 => ?_)
          rotate_left
          · have c_9 : ¬ ((0 : Int32) = 0) := of_decide_eq_false c_9
            exact absurd c_9 (by decide)
          have c_9 : (0 : Int32) = 0 := of_decide_eq_true c_9
          refine wp_steps 5 (t' := (3, [some (.ref 84), some (.int (v - v_2)), some (.int 0), some (.int v_2)], [], (HD, m_2, w_2, mr))) rfl ?_
          have hj : joS s.2.2.1 = -17 := by rw [eT]; rfl
          have ev : pfJ (-17) v v_2 = v - v_2 := rfl
          obtain ⟨k1, k2, k3⟩ := GO_bi (c := -17) hs0 h (by rw [eT]; decide) go g2 go2 (by decide) (by decide)
          rw [ev] at k2
          have e : lpF b n joS sub (g + 1) s = lpF b n joS sub g (adP (-17) (sub (stP b n s)).2) := by
            show (if _ then _ else _) = _
            rw [hj, if_neg (by decide), if_pos hF]
          rw [e]
          exact ih _ _ _ _ _ _ k1 k2 ((hnm.fr f1).fr f2) ((hf.tr f1).tr f2) (by omega)
        · have g2 := r2.2 (Bool.eq_false_iff.mpr hF)
          refine wp_steps 2 (t' := (26, [some (.ref 84), some (.int v), some (.int 0), some (.int v_2)], [.int 0], (HD, m_2, w_2, mr))) rfl ?_
          refine wp_bI rfl (fun c_10 => ?_) (fun c_10 => ?_)
          rotate_left
          · have c_10 : ¬ ((0 : Int32) = 0) := of_decide_eq_false c_10
            exact absurd c_10 (by decide)
          have c_10 : (0 : Int32) = 0 := of_decide_eq_true c_10
          refine wp_steps 7 (t' := (5, [some (.ref 84), some (.int (v - v_2)), some (.int 0), some (.int v_2)], [.int 43, .ref 84], (HD, m_2, w_2, mr))) rfl ?_
          refine wp_calv (as := [.int 43]) rfl rfl rfl (Nat.le_of_ble_eq_true rfl) ⟨by decide, rfl⟩ ((r_sign_b (ml := w_2) (mr := mr) g2.b (c := 43))) (by omega) ?_
          rintro _ _ ⟨rfl, rfl⟩
          show aWP _ _ (6, [some (.ref 84), some (.int (v - v_2)), some (.int 0), some (.int v_2)], [.int 0], (HD, m_2, w_2, mr)) _
          refine wp_bI rfl (fun c_11 => ?_) (fun c_11 => ?_)
          · have c_11 : ¬ (0 : Int32) = 0 := of_decide_eq_true c_11
            exact absurd c_11 (by decide)
          have c_11 : (0 : Int32) = 0 := Decidable.not_not.mp (of_decide_eq_false c_11)
          refine wp_steps 2 (t' := (9, [some (.ref 84), some (.int (v - v_2)), some (.int 0), some (.int v_2)], [.int 45, .ref 84], (HD, m_2, w_2, mr))) rfl ?_
          refine wp_calv (as := [.int 45]) rfl rfl rfl (Nat.le_of_ble_eq_true rfl) ⟨by decide, rfl⟩ ((r_sign_b (ml := w_2) (mr := mr) g2.b (c := 45))) (by omega) ?_
          rintro _ _ ⟨rfl, rfl⟩
          show aWP _ _ (10, [some (.ref 84), some (.int (v - v_2)), some (.int 0), some (.int v_2)], [.int 0], (HD, m_2, w_2, mr)) _
          refine wp_bI rfl (fun c_12 => ?_) (fun c_12 => ?_)
          rotate_left
          · have c_12 : ¬ ((0 : Int32) = 0) := of_decide_eq_false c_12
            exact absurd c_12 (by decide)
          have c_12 : (0 : Int32) = 0 := of_decide_eq_true c_12
          refine wp_steps 1 (t' := (37, [some (.ref 84), some (.int (v - v_2)), some (.int 0), some (.int v_2)], [.int (v - v_2)], (HD, m_2, w_2, mr))) rfl ?_
          refine wp_ret rfl rfl ⟨⟨Nat.le_refl _, Nat.le_refl _⟩, ?_⟩
          have hj : joS s.2.2.1 = -17 := by rw [eT]; rfl
          have e : lpF b n joS sub (g + 1) s = (false, (sub (stP b n s)).2) := by
            show (if _ then _ else _) = _
            rw [hj, if_neg (by decide), if_neg hF]
          refine ⟨_, _, _, rfl, rfl, (hf.tr f1).tr f2, ?_⟩
          rw [e]
          exact ⟨fun z => Bool.noConfusion z, fun _ => g2⟩
set_option maxRecDepth 20000 in
set_option maxHeartbeats 1000000 in
theorem r_added3 {X : aXt × Value} {mr : Nat → Nat → Option Nat} (hM : MRok mr) {b : Nat → Int32} {n t : Nat} (hnn : nnB b n) {nm : Nat → Int32} {d : Nat} (hd : 4 ≤ d) {sub : pF} (hsub : cwR X mr b n t 3 nm d 146 12 sub) : cwR X mr b n t 3 nm (d + 1) 147 13 (chF b n joS sub) := by
  intro m w s h hnm
  refine cw_of (cd := cd_X7_added3) (nL := 4) rfl rfl ?_
  show aWP _ _ (0, [some (.ref 84), none, none, none], [], (HD, m, w, mr)) _
  refine wp_steps 1 (t' := (1, [some (.ref 84), none, none, none], [.ref 84], (HD, m, w, mr))) rfl ?_
  refine wp_calv (as := []) rfl rfl rfl (Nat.le_of_ble_eq_true rfl) ⟨by decide, rfl⟩ ((hsub _ _ _ h hnm)) (by omega) ?_
  rintro _ _ ⟨v_2, m_2, w_2, rfl, rfl, f2, r2⟩
  show aWP _ _ (2, [some (.ref 84), none, none, none], [.int v_2], (HD, m_2, w_2, mr)) _
  by_cases hF : (sub s).1 = true
  · obtain ⟨g2, go2⟩ := r2.1 hF
    refine wp_steps 1 (t' := (3, [some (.ref 84), some (.int v_2), none, none], [], (HD, m_2, w_2, mr))) rfl ?_
    have e : chF b n joS sub s = lpF b n joS sub 160 (sub s).2 := if_pos hF
    rw [e]
    exact l_added3 hM hnn hd hsub h.2.2.1.2.2.2.2 160 _ _ _ _ _ _ g2 (go2.wk (by decide)) (hnm.fr f2) f2 (by have := g2.1.1.2.2.2; omega)
  · have g2 := r2.2 (Bool.eq_false_iff.mpr hF)
    refine wp_steps 3 (t' := (5, [some (.ref 84), some (.int v_2), none, none], [.int 43, .ref 84], (HD, m_2, w_2, mr))) rfl ?_
    refine wp_calv (as := [.int 43]) rfl rfl rfl (Nat.le_of_ble_eq_true rfl) ⟨by decide, rfl⟩ ((r_sign_b (ml := w_2) (mr := mr) g2.b (c := 43))) (by omega) ?_
    rintro _ _ ⟨rfl, rfl⟩
    show aWP _ _ (6, [some (.ref 84), some (.int v_2), none, none], [.int 0], (HD, m_2, w_2, mr)) _
    refine wp_bI rfl (fun c_1 => ?_) (fun c_1 => ?_)
    · have c_1 : ¬ (0 : Int32) = 0 := of_decide_eq_true c_1
      exact absurd c_1 (by decide)
    have c_1 : (0 : Int32) = 0 := Decidable.not_not.mp (of_decide_eq_false c_1)
    refine wp_steps 2 (t' := (9, [some (.ref 84), some (.int v_2), none, none], [.int 45, .ref 84], (HD, m_2, w_2, mr))) rfl ?_
    refine wp_calv (as := [.int 45]) rfl rfl rfl (Nat.le_of_ble_eq_true rfl) ⟨by decide, rfl⟩ ((r_sign_b (ml := w_2) (mr := mr) g2.b (c := 45))) (by omega) ?_
    rintro _ _ ⟨rfl, rfl⟩
    show aWP _ _ (10, [some (.ref 84), some (.int v_2), none, none], [.int 0], (HD, m_2, w_2, mr)) _
    refine wp_bI rfl (fun c_2 => ?_) (fun c_2 => ?_)
    rotate_left
    · have c_2 : ¬ ((0 : Int32) = 0) := of_decide_eq_false c_2
      exact absurd c_2 (by decide)
    have c_2 : (0 : Int32) = 0 := of_decide_eq_true c_2
    refine wp_steps 1 (t' := (37, [some (.ref 84), some (.int v_2), none, none], [.int v_2], (HD, m_2, w_2, mr))) rfl ?_
    refine wp_ret rfl rfl ⟨⟨Nat.le_refl _, Nat.le_refl _⟩, ?_⟩
    have e : chF b n joS sub s = (false, (sub s).2) := if_neg hF
    refine ⟨_, _, _, rfl, rfl, f2, ?_⟩
    rw [e]
    exact ⟨fun z => Bool.noConfusion z, fun _ => g2⟩
set_option maxRecDepth 20000 in
set_option maxHeartbeats 1000000 in
theorem l_both3 {X : aXt × Value} {mr : Nat → Nat → Option Nat} (hM : MRok mr) {b : Nat → Int32} {n t : Nat} (hnn : nnB b n) {nm : Nat → Int32} {d : Nat} (hd : 4 ≤ d) {sub : pF} (hsub : cwR X mr b n t 3 nm d 148 14 sub) {s0 : pS} (hs0 : s0.2.2.2.2.length ≤ s0.1) {m0 : Nat → Nat → Int32} : ∀ (g : Nat) (v : Int32) (m : Nat → Nat → Int32) (w : Nat → Nat → Int64) (s : pS) (o1 : Option Value), RS b n t 3 m w s → GO nm 15 s0 s v → nmO m nm → frR m0 m → n ≤ s.1 + g → aWP (aEx (aTb X) d) cd_X7_both3 (3, [some (.ref 84), some (.int v), o1], [], (HD, m, w, mr)) (fun r h' => (HD.1 ≤ h'.1.1 ∧ HD.2.1 ≤ h'.1.2.1) ∧ ∃ v m' w', r = some (.int v) ∧ h' = (HD, m', w', mr) ∧ frR m0 m' ∧ RES b n t 3 nm 15 m' w' s0 (lpF b n joA sub g s) v) := by
  intro g
  induction g with
  | zero =>
    intro v m w s o1 h go hnm hf hg
    have h0 : s.2.2.1 = 0 := h.T.trans (lx_n (by omega))
    refine wp_steps 9 (t' := (12, [some (.ref 84), some (.int v), o1], [.int 0, .int 0, .int 0, .int 0, .int 0, .int 100, .int 110, .int 97, .ref 84], (HD, m, w, mr))) rfl ?_
    refine wp_calv (as := [.int 97, .int 110, .int 100, .int 0, .int 0, .int 0, .int 0, .int 0]) rfl rfl rfl (Nat.le_of_ble_eq_true rfl) ⟨by decide, rfl⟩ ((rw_and (ml := w) hM h)) (by omega) ?_
    rintro _ _ ⟨rfl, rfl⟩
    show aWP _ _ (13, [some (.ref 84), some (.int v), o1], [.int (if s.2.2.1 = 7 then (1 : Int32) else 0)], (HD, m, w, mr)) _
    refine wp_bI rfl (fun c_1 => ?_) (fun c_1 => ?_)
    rotate_left
    · have c_1 : ¬ ((if s.2.2.1 = 7 then (1 : Int32) else 0) = 0) := of_decide_eq_false c_1
      exact absurd (if_neg (by rw [h0]; decide)) c_1
    have c_1 : (if s.2.2.1 = 7 then (1 : Int32) else 0) = 0 := of_decide_eq_true c_1
    refine wp_steps 1 (t' := (29, [some (.ref 84), some (.int v), o1], [.int v], (HD, m, w, mr))) rfl ?_
    refine wp_ret rfl rfl ⟨⟨Nat.le_refl _, Nat.le_refl _⟩, ?_⟩
    have hj : joA s.2.2.1 = 0 := by simp [joA, i0_f c_1]
    have e : lpF b n joA sub 0 s = (true, s) := rfl
    refine ⟨_, _, _, rfl, rfl, hf, ?_⟩
    rw [e]
    exact ⟨fun _ => ⟨h, go⟩, fun z => Bool.noConfusion z⟩
  | succ g ih =>
    intro v m w s o1 h go hnm hf hg
    refine wp_steps 9 (t' := (12, [some (.ref 84), some (.int v), o1], [.int 0, .int 0, .int 0, .int 0, .int 0, .int 100, .int 110, .int 97, .ref 84], (HD, m, w, mr))) rfl ?_
    refine wp_calv (as := [.int 97, .int 110, .int 100, .int 0, .int 0, .int 0, .int 0, .int 0]) rfl rfl rfl (Nat.le_of_ble_eq_true rfl) ⟨by decide, rfl⟩ ((rw_and (ml := w) hM h)) (by omega) ?_
    rintro _ _ ⟨rfl, rfl⟩
    show aWP _ _ (13, [some (.ref 84), some (.int v), o1], [.int (if s.2.2.1 = 7 then (1 : Int32) else 0)], (HD, m, w, mr)) _
    refine wp_bI rfl (fun c_1 => ?_) (fun c_1 => ?_)
    · have c_1 : (if s.2.2.1 = 7 then (1 : Int32) else 0) = 0 := of_decide_eq_true c_1
      refine wp_steps 1 (t' := (29, [some (.ref 84), some (.int v), o1], [.int v], (HD, m, w, mr))) rfl ?_
      refine wp_ret rfl rfl ⟨⟨Nat.le_refl _, Nat.le_refl _⟩, ?_⟩
      have hj : joA s.2.2.1 = 0 := by simp [joA, i0_f c_1]
      have e : lpF b n joA sub (g + 1) s = (true, s) := if_pos hj
      refine ⟨_, _, _, rfl, rfl, hf, ?_⟩
      rw [e]
      exact ⟨fun _ => ⟨h, go⟩, fun z => Bool.noConfusion z⟩
    · have c_1 : ¬ ((if s.2.2.1 = 7 then (1 : Int32) else 0) = 0) := of_decide_eq_false c_1
      refine wp_steps 1 (t' := (15, [some (.ref 84), some (.int v), o1], [.ref 84], (HD, m, w, mr))) rfl ?_
      have eT : s.2.2.1 = 7 := i0_t c_1
      refine wp_calv (as := []) rfl rfl rfl (Nat.le_of_ble_eq_true rfl) ⟨by decide, rfl⟩ ((r_next (ml := w) hM h hnn (by rw [← h.T, eT]; decide))) (by omega) ?_
      rintro _ _ ⟨rfl, m_1, w_1, rfl, f1, g1⟩
      show aWP _ _ (16, [some (.ref 84), some (.int v), o1], [], (HD, m_1, w_1, mr)) _
      refine wp_steps 1 (t' := (17, [some (.ref 84), some (.int v), o1], [.ref 84], (HD, m_1, w_1, mr))) rfl ?_
      refine wp_calv (as := []) rfl rfl rfl (Nat.le_of_ble_eq_true rfl) ⟨by decide, rfl⟩ ((hsub _ _ _ g1 (hnm.fr f1))) (by omega) ?_
      rintro _ _ ⟨v_2, m_2, w_2, rfl, rfl, f2, r2⟩
      show aWP _ _ (18, [some (.ref 84), some (.int v), o1], [.int v_2], (HD, m_2, w_2, mr)) _
      by_cases hF : (sub (stP b n s)).1 = true
      · obtain ⟨g2, go2⟩ := r2.1 hF
        refine wp_steps 2 (t' := (20, [some (.ref 84), some (.int v), some (.int v_2)], [.int v], (HD, m_2, w_2, mr))) rfl ?_
        refine wp_bI rfl (fun c_2 => ?_) (fun c_2 => ?_)
        · have c_2 : v = 0 := of_decide_eq_true c_2
          refine wp_steps 3 (t' := (3, [some (.ref 84), some (.int 0), some (.int v_2)], [], (HD, m_2, w_2, mr))) rfl ?_
          have hj : joA s.2.2.1 = -12 := by rw [eT]; rfl
          have ev : pfJ (-12) v v_2 = 0 := by simp [pfJ, c_2]
          obtain ⟨k1, k2, k3⟩ := GO_bi (c := -12) hs0 h (by rw [eT]; decide) go g2 go2 (by decide) (by decide)
          rw [ev] at k2
          have e : lpF b n joA sub (g + 1) s = lpF b n joA sub g (adP (-12) (sub (stP b n s)).2) := by
            show (if _ then _ else _) = _
            rw [hj, if_neg (by decide), if_pos hF]
          rw [e]
          exact ih _ _ _ _ _ k1 k2 ((hnm.fr f1).fr f2) ((hf.tr f1).tr f2) (by omega)
        · have c_2 : ¬ (v = 0) := of_decide_eq_false c_2
          refine wp_steps 1 (t' := (22, [some (.ref 84), some (.int v), some (.int v_2)], [.int v_2], (HD, m_2, w_2, mr))) rfl ?_
          refine wp_bI rfl (fun c_3 => ?_) (fun c_3 => ?_)
          · have c_3 : v_2 = 0 := of_decide_eq_true c_3
            refine wp_steps 3 (t' := (3, [some (.ref 84), some (.int 0), some (.int v_2)], [], (HD, m_2, w_2, mr))) rfl ?_
            have hj : joA s.2.2.1 = -12 := by rw [eT]; rfl
            have ev : pfJ (-12) v v_2 = 0 := by simp [pfJ, c_2, c_3]
            obtain ⟨k1, k2, k3⟩ := GO_bi (c := -12) hs0 h (by rw [eT]; decide) go g2 go2 (by decide) (by decide)
            rw [ev] at k2
            have e : lpF b n joA sub (g + 1) s = lpF b n joA sub g (adP (-12) (sub (stP b n s)).2) := by
              show (if _ then _ else _) = _
              rw [hj, if_neg (by decide), if_pos hF]
            rw [e]
            exact ih _ _ _ _ _ k1 k2 ((hnm.fr f1).fr f2) ((hf.tr f1).tr f2) (by omega)
          · have c_3 : ¬ (v_2 = 0) := of_decide_eq_false c_3
            refine wp_steps 4 (t' := (3, [some (.ref 84), some (.int 1), some (.int v_2)], [], (HD, m_2, w_2, mr))) rfl ?_
            have hj : joA s.2.2.1 = -12 := by rw [eT]; rfl
            have ev : pfJ (-12) v v_2 = 1 := by simp [pfJ, c_2, c_3]
            obtain ⟨k1, k2, k3⟩ := GO_bi (c := -12) hs0 h (by rw [eT]; decide) go g2 go2 (by decide) (by decide)
            rw [ev] at k2
            have e : lpF b n joA sub (g + 1) s = lpF b n joA sub g (adP (-12) (sub (stP b n s)).2) := by
              show (if _ then _ else _) = _
              rw [hj, if_neg (by decide), if_pos hF]
            rw [e]
            exact ih _ _ _ _ _ k1 k2 ((hnm.fr f1).fr f2) ((hf.tr f1).tr f2) (by omega)
      · have g2 := r2.2 (Bool.eq_false_iff.mpr hF)
        refine wp_steps 2 (t' := (20, [some (.ref 84), some (.int v), some (.int v_2)], [.int v], (HD, m_2, w_2, mr))) rfl ?_
        refine wp_bI rfl (fun c_4 => ?_) (fun c_4 => ?_)
        · have c_4 : v = 0 := of_decide_eq_true c_4
          refine wp_steps 12 (t' := (12, [some (.ref 84), some (.int 0), some (.int v_2)], [.int 0, .int 0, .int 0, .int 0, .int 0, .int 100, .int 110, .int 97, .ref 84], (HD, m_2, w_2, mr))) rfl ?_
          refine wp_calv (as := [.int 97, .int 110, .int 100, .int 0, .int 0, .int 0, .int 0, .int 0]) rfl rfl rfl (Nat.le_of_ble_eq_true rfl) ⟨by decide, rfl⟩ ((r_word_b (ml := w_2) (mr := mr) g2.b)) (by omega) ?_
          rintro _ _ ⟨rfl, rfl⟩
          show aWP _ _ (13, [some (.ref 84), some (.int 0), some (.int v_2)], [.int 0], (HD, m_2, w_2, mr)) _
          refine wp_bI rfl (fun c_5 => ?_) (fun c_5 => ?_)
          rotate_left
          · have c_5 : ¬ ((0 : Int32) = 0) := of_decide_eq_false c_5
            exact absurd c_5 (by decide)
          have c_5 : (0 : Int32) = 0 := of_decide_eq_true c_5
          refine wp_steps 1 (t' := (29, [some (.ref 84), some (.int 0), some (.int v_2)], [.int 0], (HD, m_2, w_2, mr))) rfl ?_
          refine wp_ret rfl rfl ⟨⟨Nat.le_refl _, Nat.le_refl _⟩, ?_⟩
          have hj : joA s.2.2.1 = -12 := by rw [eT]; rfl
          have e : lpF b n joA sub (g + 1) s = (false, (sub (stP b n s)).2) := by
            show (if _ then _ else _) = _
            rw [hj, if_neg (by decide), if_neg hF]
          refine ⟨_, _, _, rfl, rfl, (hf.tr f1).tr f2, ?_⟩
          rw [e]
          exact ⟨fun z => Bool.noConfusion z, fun _ => g2⟩
        · have c_4 : ¬ (v = 0) := of_decide_eq_false c_4
          refine wp_steps 1 (t' := (22, [some (.ref 84), some (.int v), some (.int v_2)], [.int v_2], (HD, m_2, w_2, mr))) rfl ?_
          refine wp_bI rfl (fun c_6 => ?_) (fun c_6 => ?_)
          · have c_6 : v_2 = 0 := of_decide_eq_true c_6
            refine wp_steps 12 (t' := (12, [some (.ref 84), some (.int 0), some (.int v_2)], [.int 0, .int 0, .int 0, .int 0, .int 0, .int 100, .int 110, .int 97, .ref 84], (HD, m_2, w_2, mr))) rfl ?_
            refine wp_calv (as := [.int 97, .int 110, .int 100, .int 0, .int 0, .int 0, .int 0, .int 0]) rfl rfl rfl (Nat.le_of_ble_eq_true rfl) ⟨by decide, rfl⟩ ((r_word_b (ml := w_2) (mr := mr) g2.b)) (by omega) ?_
            rintro _ _ ⟨rfl, rfl⟩
            show aWP _ _ (13, [some (.ref 84), some (.int 0), some (.int v_2)], [.int 0], (HD, m_2, w_2, mr)) _
            refine wp_bI rfl (fun c_7 => ?_) (fun c_7 => ?_)
            rotate_left
            · have c_7 : ¬ ((0 : Int32) = 0) := of_decide_eq_false c_7
              exact absurd c_7 (by decide)
            have c_7 : (0 : Int32) = 0 := of_decide_eq_true c_7
            refine wp_steps 1 (t' := (29, [some (.ref 84), some (.int 0), some (.int v_2)], [.int 0], (HD, m_2, w_2, mr))) rfl ?_
            refine wp_ret rfl rfl ⟨⟨Nat.le_refl _, Nat.le_refl _⟩, ?_⟩
            have hj : joA s.2.2.1 = -12 := by rw [eT]; rfl
            have e : lpF b n joA sub (g + 1) s = (false, (sub (stP b n s)).2) := by
              show (if _ then _ else _) = _
              rw [hj, if_neg (by decide), if_neg hF]
            refine ⟨_, _, _, rfl, rfl, (hf.tr f1).tr f2, ?_⟩
            rw [e]
            exact ⟨fun z => Bool.noConfusion z, fun _ => g2⟩
          · have c_6 : ¬ (v_2 = 0) := of_decide_eq_false c_6
            refine wp_steps 13 (t' := (12, [some (.ref 84), some (.int 1), some (.int v_2)], [.int 0, .int 0, .int 0, .int 0, .int 0, .int 100, .int 110, .int 97, .ref 84], (HD, m_2, w_2, mr))) rfl ?_
            refine wp_calv (as := [.int 97, .int 110, .int 100, .int 0, .int 0, .int 0, .int 0, .int 0]) rfl rfl rfl (Nat.le_of_ble_eq_true rfl) ⟨by decide, rfl⟩ ((r_word_b (ml := w_2) (mr := mr) g2.b)) (by omega) ?_
            rintro _ _ ⟨rfl, rfl⟩
            show aWP _ _ (13, [some (.ref 84), some (.int 1), some (.int v_2)], [.int 0], (HD, m_2, w_2, mr)) _
            refine wp_bI rfl (fun c_8 => ?_) (fun c_8 => ?_)
            rotate_left
            · have c_8 : ¬ ((0 : Int32) = 0) := of_decide_eq_false c_8
              exact absurd c_8 (by decide)
            have c_8 : (0 : Int32) = 0 := of_decide_eq_true c_8
            refine wp_steps 1 (t' := (29, [some (.ref 84), some (.int 1), some (.int v_2)], [.int 1], (HD, m_2, w_2, mr))) rfl ?_
            refine wp_ret rfl rfl ⟨⟨Nat.le_refl _, Nat.le_refl _⟩, ?_⟩
            have hj : joA s.2.2.1 = -12 := by rw [eT]; rfl
            have e : lpF b n joA sub (g + 1) s = (false, (sub (stP b n s)).2) := by
              show (if _ then _ else _) = _
              rw [hj, if_neg (by decide), if_neg hF]
            refine ⟨_, _, _, rfl, rfl, (hf.tr f1).tr f2, ?_⟩
            rw [e]
            exact ⟨fun z => Bool.noConfusion z, fun _ => g2⟩
set_option maxRecDepth 20000 in
set_option maxHeartbeats 1000000 in
theorem r_both3 {X : aXt × Value} {mr : Nat → Nat → Option Nat} (hM : MRok mr) {b : Nat → Int32} {n t : Nat} (hnn : nnB b n) {nm : Nat → Int32} {d : Nat} (hd : 4 ≤ d) {sub : pF} (hsub : cwR X mr b n t 3 nm d 148 14 sub) : cwR X mr b n t 3 nm (d + 1) 149 15 (chF b n joA sub) := by
  intro m w s h hnm
  refine cw_of (cd := cd_X7_both3) (nL := 3) rfl rfl ?_
  show aWP _ _ (0, [some (.ref 84), none, none], [], (HD, m, w, mr)) _
  refine wp_steps 1 (t' := (1, [some (.ref 84), none, none], [.ref 84], (HD, m, w, mr))) rfl ?_
  refine wp_calv (as := []) rfl rfl rfl (Nat.le_of_ble_eq_true rfl) ⟨by decide, rfl⟩ ((hsub _ _ _ h hnm)) (by omega) ?_
  rintro _ _ ⟨v_2, m_2, w_2, rfl, rfl, f2, r2⟩
  show aWP _ _ (2, [some (.ref 84), none, none], [.int v_2], (HD, m_2, w_2, mr)) _
  by_cases hF : (sub s).1 = true
  · obtain ⟨g2, go2⟩ := r2.1 hF
    refine wp_steps 1 (t' := (3, [some (.ref 84), some (.int v_2), none], [], (HD, m_2, w_2, mr))) rfl ?_
    have e : chF b n joA sub s = lpF b n joA sub 160 (sub s).2 := if_pos hF
    rw [e]
    exact l_both3 hM hnn hd hsub h.2.2.1.2.2.2.2 160 _ _ _ _ _ g2 (go2.wk (by decide)) (hnm.fr f2) f2 (by have := g2.1.1.2.2.2; omega)
  · have g2 := r2.2 (Bool.eq_false_iff.mpr hF)
    refine wp_steps 10 (t' := (12, [some (.ref 84), some (.int v_2), none], [.int 0, .int 0, .int 0, .int 0, .int 0, .int 100, .int 110, .int 97, .ref 84], (HD, m_2, w_2, mr))) rfl ?_
    refine wp_calv (as := [.int 97, .int 110, .int 100, .int 0, .int 0, .int 0, .int 0, .int 0]) rfl rfl rfl (Nat.le_of_ble_eq_true rfl) ⟨by decide, rfl⟩ ((r_word_b (ml := w_2) (mr := mr) g2.b)) (by omega) ?_
    rintro _ _ ⟨rfl, rfl⟩
    show aWP _ _ (13, [some (.ref 84), some (.int v_2), none], [.int 0], (HD, m_2, w_2, mr)) _
    refine wp_bI rfl (fun c_1 => ?_) (fun c_1 => ?_)
    rotate_left
    · have c_1 : ¬ ((0 : Int32) = 0) := of_decide_eq_false c_1
      exact absurd c_1 (by decide)
    have c_1 : (0 : Int32) = 0 := of_decide_eq_true c_1
    refine wp_steps 1 (t' := (29, [some (.ref 84), some (.int v_2), none], [.int v_2], (HD, m_2, w_2, mr))) rfl ?_
    refine wp_ret rfl rfl ⟨⟨Nat.le_refl _, Nat.le_refl _⟩, ?_⟩
    have e : chF b n joA sub s = (false, (sub s).2) := if_neg hF
    refine ⟨_, _, _, rfl, rfl, f2, ?_⟩
    rw [e]
    exact ⟨fun z => Bool.noConfusion z, fun _ => g2⟩
set_option maxRecDepth 20000 in
set_option maxHeartbeats 1000000 in
theorem l_either3 {X : aXt × Value} {mr : Nat → Nat → Option Nat} (hM : MRok mr) {b : Nat → Int32} {n t : Nat} (hnn : nnB b n) {nm : Nat → Int32} {d : Nat} (hd : 4 ≤ d) {sub : pF} (hsub : cwR X mr b n t 3 nm d 149 15 sub) {s0 : pS} (hs0 : s0.2.2.2.2.length ≤ s0.1) {m0 : Nat → Nat → Int32} : ∀ (g : Nat) (v : Int32) (m : Nat → Nat → Int32) (w : Nat → Nat → Int64) (s : pS) (o1 : Option Value), RS b n t 3 m w s → GO nm 16 s0 s v → nmO m nm → frR m0 m → n ≤ s.1 + g → aWP (aEx (aTb X) d) cd_X7_either3 (3, [some (.ref 84), some (.int v), o1], [], (HD, m, w, mr)) (fun r h' => (HD.1 ≤ h'.1.1 ∧ HD.2.1 ≤ h'.1.2.1) ∧ ∃ v m' w', r = some (.int v) ∧ h' = (HD, m', w', mr) ∧ frR m0 m' ∧ RES b n t 3 nm 16 m' w' s0 (lpF b n joO sub g s) v) := by
  intro g
  induction g with
  | zero =>
    intro v m w s o1 h go hnm hf hg
    have h0 : s.2.2.1 = 0 := h.T.trans (lx_n (by omega))
    refine wp_steps 9 (t' := (12, [some (.ref 84), some (.int v), o1], [.int 0, .int 0, .int 0, .int 0, .int 0, .int 0, .int 114, .int 111, .ref 84], (HD, m, w, mr))) rfl ?_
    refine wp_calv (as := [.int 111, .int 114, .int 0, .int 0, .int 0, .int 0, .int 0, .int 0]) rfl rfl rfl (Nat.le_of_ble_eq_true rfl) ⟨by decide, rfl⟩ ((rw_or (ml := w) hM h)) (by omega) ?_
    rintro _ _ ⟨rfl, rfl⟩
    show aWP _ _ (13, [some (.ref 84), some (.int v), o1], [.int (if s.2.2.1 = 6 then (1 : Int32) else 0)], (HD, m, w, mr)) _
    refine wp_bI rfl (fun c_1 => ?_) (fun c_1 => ?_)
    rotate_left
    · have c_1 : ¬ ((if s.2.2.1 = 6 then (1 : Int32) else 0) = 0) := of_decide_eq_false c_1
      exact absurd (if_neg (by rw [h0]; decide)) c_1
    have c_1 : (if s.2.2.1 = 6 then (1 : Int32) else 0) = 0 := of_decide_eq_true c_1
    refine wp_steps 1 (t' := (29, [some (.ref 84), some (.int v), o1], [.int v], (HD, m, w, mr))) rfl ?_
    refine wp_ret rfl rfl ⟨⟨Nat.le_refl _, Nat.le_refl _⟩, ?_⟩
    have hj : joO s.2.2.1 = 0 := by simp [joO, i0_f c_1]
    have e : lpF b n joO sub 0 s = (true, s) := rfl
    refine ⟨_, _, _, rfl, rfl, hf, ?_⟩
    rw [e]
    exact ⟨fun _ => ⟨h, go⟩, fun z => Bool.noConfusion z⟩
  | succ g ih =>
    intro v m w s o1 h go hnm hf hg
    refine wp_steps 9 (t' := (12, [some (.ref 84), some (.int v), o1], [.int 0, .int 0, .int 0, .int 0, .int 0, .int 0, .int 114, .int 111, .ref 84], (HD, m, w, mr))) rfl ?_
    refine wp_calv (as := [.int 111, .int 114, .int 0, .int 0, .int 0, .int 0, .int 0, .int 0]) rfl rfl rfl (Nat.le_of_ble_eq_true rfl) ⟨by decide, rfl⟩ ((rw_or (ml := w) hM h)) (by omega) ?_
    rintro _ _ ⟨rfl, rfl⟩
    show aWP _ _ (13, [some (.ref 84), some (.int v), o1], [.int (if s.2.2.1 = 6 then (1 : Int32) else 0)], (HD, m, w, mr)) _
    refine wp_bI rfl (fun c_1 => ?_) (fun c_1 => ?_)
    · have c_1 : (if s.2.2.1 = 6 then (1 : Int32) else 0) = 0 := of_decide_eq_true c_1
      refine wp_steps 1 (t' := (29, [some (.ref 84), some (.int v), o1], [.int v], (HD, m, w, mr))) rfl ?_
      refine wp_ret rfl rfl ⟨⟨Nat.le_refl _, Nat.le_refl _⟩, ?_⟩
      have hj : joO s.2.2.1 = 0 := by simp [joO, i0_f c_1]
      have e : lpF b n joO sub (g + 1) s = (true, s) := if_pos hj
      refine ⟨_, _, _, rfl, rfl, hf, ?_⟩
      rw [e]
      exact ⟨fun _ => ⟨h, go⟩, fun z => Bool.noConfusion z⟩
    · have c_1 : ¬ ((if s.2.2.1 = 6 then (1 : Int32) else 0) = 0) := of_decide_eq_false c_1
      refine wp_steps 1 (t' := (15, [some (.ref 84), some (.int v), o1], [.ref 84], (HD, m, w, mr))) rfl ?_
      have eT : s.2.2.1 = 6 := i0_t c_1
      refine wp_calv (as := []) rfl rfl rfl (Nat.le_of_ble_eq_true rfl) ⟨by decide, rfl⟩ ((r_next (ml := w) hM h hnn (by rw [← h.T, eT]; decide))) (by omega) ?_
      rintro _ _ ⟨rfl, m_1, w_1, rfl, f1, g1⟩
      show aWP _ _ (16, [some (.ref 84), some (.int v), o1], [], (HD, m_1, w_1, mr)) _
      refine wp_steps 1 (t' := (17, [some (.ref 84), some (.int v), o1], [.ref 84], (HD, m_1, w_1, mr))) rfl ?_
      refine wp_calv (as := []) rfl rfl rfl (Nat.le_of_ble_eq_true rfl) ⟨by decide, rfl⟩ ((hsub _ _ _ g1 (hnm.fr f1))) (by omega) ?_
      rintro _ _ ⟨v_2, m_2, w_2, rfl, rfl, f2, r2⟩
      show aWP _ _ (18, [some (.ref 84), some (.int v), o1], [.int v_2], (HD, m_2, w_2, mr)) _
      by_cases hF : (sub (stP b n s)).1 = true
      · obtain ⟨g2, go2⟩ := r2.1 hF
        refine wp_steps 2 (t' := (20, [some (.ref 84), some (.int v), some (.int v_2)], [.int v], (HD, m_2, w_2, mr))) rfl ?_
        refine wp_bI rfl (fun c_2 => ?_) (fun c_2 => ?_)
        · have c_2 : ¬ v = 0 := of_decide_eq_true c_2
          refine wp_steps 4 (t' := (3, [some (.ref 84), some (.int 1), some (.int v_2)], [], (HD, m_2, w_2, mr))) rfl ?_
          have hj : joO s.2.2.1 = -11 := by rw [eT]; rfl
          have ev : pfJ (-11) v v_2 = 1 := by simp [pfJ, c_2]
          obtain ⟨k1, k2, k3⟩ := GO_bi (c := -11) hs0 h (by rw [eT]; decide) go g2 go2 (by decide) (by decide)
          rw [ev] at k2
          have e : lpF b n joO sub (g + 1) s = lpF b n joO sub g (adP (-11) (sub (stP b n s)).2) := by
            show (if _ then _ else _) = _
            rw [hj, if_neg (by decide), if_pos hF]
          rw [e]
          exact ih _ _ _ _ _ k1 k2 ((hnm.fr f1).fr f2) ((hf.tr f1).tr f2) (by omega)
        · have c_2 : v = 0 := Decidable.not_not.mp (of_decide_eq_false c_2)
          refine wp_steps 1 (t' := (22, [some (.ref 84), some (.int v), some (.int v_2)], [.int v_2], (HD, m_2, w_2, mr))) rfl ?_
          refine wp_bI rfl (fun c_3 => ?_) (fun c_3 => ?_)
          · have c_3 : v_2 = 0 := of_decide_eq_true c_3
            refine wp_steps 3 (t' := (3, [some (.ref 84), some (.int 0), some (.int v_2)], [], (HD, m_2, w_2, mr))) rfl ?_
            have hj : joO s.2.2.1 = -11 := by rw [eT]; rfl
            have ev : pfJ (-11) v v_2 = 0 := by simp [pfJ, c_2, c_3]
            obtain ⟨k1, k2, k3⟩ := GO_bi (c := -11) hs0 h (by rw [eT]; decide) go g2 go2 (by decide) (by decide)
            rw [ev] at k2
            have e : lpF b n joO sub (g + 1) s = lpF b n joO sub g (adP (-11) (sub (stP b n s)).2) := by
              show (if _ then _ else _) = _
              rw [hj, if_neg (by decide), if_pos hF]
            rw [e]
            exact ih _ _ _ _ _ k1 k2 ((hnm.fr f1).fr f2) ((hf.tr f1).tr f2) (by omega)
          · have c_3 : ¬ (v_2 = 0) := of_decide_eq_false c_3
            refine wp_steps 4 (t' := (3, [some (.ref 84), some (.int 1), some (.int v_2)], [], (HD, m_2, w_2, mr))) rfl ?_
            have hj : joO s.2.2.1 = -11 := by rw [eT]; rfl
            have ev : pfJ (-11) v v_2 = 1 := by simp [pfJ, c_2, c_3]
            obtain ⟨k1, k2, k3⟩ := GO_bi (c := -11) hs0 h (by rw [eT]; decide) go g2 go2 (by decide) (by decide)
            rw [ev] at k2
            have e : lpF b n joO sub (g + 1) s = lpF b n joO sub g (adP (-11) (sub (stP b n s)).2) := by
              show (if _ then _ else _) = _
              rw [hj, if_neg (by decide), if_pos hF]
            rw [e]
            exact ih _ _ _ _ _ k1 k2 ((hnm.fr f1).fr f2) ((hf.tr f1).tr f2) (by omega)
      · have g2 := r2.2 (Bool.eq_false_iff.mpr hF)
        refine wp_steps 2 (t' := (20, [some (.ref 84), some (.int v), some (.int v_2)], [.int v], (HD, m_2, w_2, mr))) rfl ?_
        refine wp_bI rfl (fun c_4 => ?_) (fun c_4 => ?_)
        · have c_4 : ¬ v = 0 := of_decide_eq_true c_4
          refine wp_steps 13 (t' := (12, [some (.ref 84), some (.int 1), some (.int v_2)], [.int 0, .int 0, .int 0, .int 0, .int 0, .int 0, .int 114, .int 111, .ref 84], (HD, m_2, w_2, mr))) rfl ?_
          refine wp_calv (as := [.int 111, .int 114, .int 0, .int 0, .int 0, .int 0, .int 0, .int 0]) rfl rfl rfl (Nat.le_of_ble_eq_true rfl) ⟨by decide, rfl⟩ ((r_word_b (ml := w_2) (mr := mr) g2.b)) (by omega) ?_
          rintro _ _ ⟨rfl, rfl⟩
          show aWP _ _ (13, [some (.ref 84), some (.int 1), some (.int v_2)], [.int 0], (HD, m_2, w_2, mr)) _
          refine wp_bI rfl (fun c_5 => ?_) (fun c_5 => ?_)
          rotate_left
          · have c_5 : ¬ ((0 : Int32) = 0) := of_decide_eq_false c_5
            exact absurd c_5 (by decide)
          have c_5 : (0 : Int32) = 0 := of_decide_eq_true c_5
          refine wp_steps 1 (t' := (29, [some (.ref 84), some (.int 1), some (.int v_2)], [.int 1], (HD, m_2, w_2, mr))) rfl ?_
          refine wp_ret rfl rfl ⟨⟨Nat.le_refl _, Nat.le_refl _⟩, ?_⟩
          have hj : joO s.2.2.1 = -11 := by rw [eT]; rfl
          have e : lpF b n joO sub (g + 1) s = (false, (sub (stP b n s)).2) := by
            show (if _ then _ else _) = _
            rw [hj, if_neg (by decide), if_neg hF]
          refine ⟨_, _, _, rfl, rfl, (hf.tr f1).tr f2, ?_⟩
          rw [e]
          exact ⟨fun z => Bool.noConfusion z, fun _ => g2⟩
        · have c_4 : v = 0 := Decidable.not_not.mp (of_decide_eq_false c_4)
          refine wp_steps 1 (t' := (22, [some (.ref 84), some (.int v), some (.int v_2)], [.int v_2], (HD, m_2, w_2, mr))) rfl ?_
          refine wp_bI rfl (fun c_6 => ?_) (fun c_6 => ?_)
          · have c_6 : v_2 = 0 := of_decide_eq_true c_6
            refine wp_steps 12 (t' := (12, [some (.ref 84), some (.int 0), some (.int v_2)], [.int 0, .int 0, .int 0, .int 0, .int 0, .int 0, .int 114, .int 111, .ref 84], (HD, m_2, w_2, mr))) rfl ?_
            refine wp_calv (as := [.int 111, .int 114, .int 0, .int 0, .int 0, .int 0, .int 0, .int 0]) rfl rfl rfl (Nat.le_of_ble_eq_true rfl) ⟨by decide, rfl⟩ ((r_word_b (ml := w_2) (mr := mr) g2.b)) (by omega) ?_
            rintro _ _ ⟨rfl, rfl⟩
            show aWP _ _ (13, [some (.ref 84), some (.int 0), some (.int v_2)], [.int 0], (HD, m_2, w_2, mr)) _
            refine wp_bI rfl (fun c_7 => ?_) (fun c_7 => ?_)
            rotate_left
            · have c_7 : ¬ ((0 : Int32) = 0) := of_decide_eq_false c_7
              exact absurd c_7 (by decide)
            have c_7 : (0 : Int32) = 0 := of_decide_eq_true c_7
            refine wp_steps 1 (t' := (29, [some (.ref 84), some (.int 0), some (.int v_2)], [.int 0], (HD, m_2, w_2, mr))) rfl ?_
            refine wp_ret rfl rfl ⟨⟨Nat.le_refl _, Nat.le_refl _⟩, ?_⟩
            have hj : joO s.2.2.1 = -11 := by rw [eT]; rfl
            have e : lpF b n joO sub (g + 1) s = (false, (sub (stP b n s)).2) := by
              show (if _ then _ else _) = _
              rw [hj, if_neg (by decide), if_neg hF]
            refine ⟨_, _, _, rfl, rfl, (hf.tr f1).tr f2, ?_⟩
            rw [e]
            exact ⟨fun z => Bool.noConfusion z, fun _ => g2⟩
          · have c_6 : ¬ (v_2 = 0) := of_decide_eq_false c_6
            refine wp_steps 13 (t' := (12, [some (.ref 84), some (.int 1), some (.int v_2)], [.int 0, .int 0, .int 0, .int 0, .int 0, .int 0, .int 114, .int 111, .ref 84], (HD, m_2, w_2, mr))) rfl ?_
            refine wp_calv (as := [.int 111, .int 114, .int 0, .int 0, .int 0, .int 0, .int 0, .int 0]) rfl rfl rfl (Nat.le_of_ble_eq_true rfl) ⟨by decide, rfl⟩ ((r_word_b (ml := w_2) (mr := mr) g2.b)) (by omega) ?_
            rintro _ _ ⟨rfl, rfl⟩
            show aWP _ _ (13, [some (.ref 84), some (.int 1), some (.int v_2)], [.int 0], (HD, m_2, w_2, mr)) _
            refine wp_bI rfl (fun c_8 => ?_) (fun c_8 => ?_)
            rotate_left
            · have c_8 : ¬ ((0 : Int32) = 0) := of_decide_eq_false c_8
              exact absurd c_8 (by decide)
            have c_8 : (0 : Int32) = 0 := of_decide_eq_true c_8
            refine wp_steps 1 (t' := (29, [some (.ref 84), some (.int 1), some (.int v_2)], [.int 1], (HD, m_2, w_2, mr))) rfl ?_
            refine wp_ret rfl rfl ⟨⟨Nat.le_refl _, Nat.le_refl _⟩, ?_⟩
            have hj : joO s.2.2.1 = -11 := by rw [eT]; rfl
            have e : lpF b n joO sub (g + 1) s = (false, (sub (stP b n s)).2) := by
              show (if _ then _ else _) = _
              rw [hj, if_neg (by decide), if_neg hF]
            refine ⟨_, _, _, rfl, rfl, (hf.tr f1).tr f2, ?_⟩
            rw [e]
            exact ⟨fun z => Bool.noConfusion z, fun _ => g2⟩
set_option maxRecDepth 20000 in
set_option maxHeartbeats 1000000 in
theorem r_either3 {X : aXt × Value} {mr : Nat → Nat → Option Nat} (hM : MRok mr) {b : Nat → Int32} {n t : Nat} (hnn : nnB b n) {nm : Nat → Int32} {d : Nat} (hd : 4 ≤ d) {sub : pF} (hsub : cwR X mr b n t 3 nm d 149 15 sub) : cwR X mr b n t 3 nm (d + 1) 150 16 (chF b n joO sub) := by
  intro m w s h hnm
  refine cw_of (cd := cd_X7_either3) (nL := 3) rfl rfl ?_
  show aWP _ _ (0, [some (.ref 84), none, none], [], (HD, m, w, mr)) _
  refine wp_steps 1 (t' := (1, [some (.ref 84), none, none], [.ref 84], (HD, m, w, mr))) rfl ?_
  refine wp_calv (as := []) rfl rfl rfl (Nat.le_of_ble_eq_true rfl) ⟨by decide, rfl⟩ ((hsub _ _ _ h hnm)) (by omega) ?_
  rintro _ _ ⟨v_2, m_2, w_2, rfl, rfl, f2, r2⟩
  show aWP _ _ (2, [some (.ref 84), none, none], [.int v_2], (HD, m_2, w_2, mr)) _
  by_cases hF : (sub s).1 = true
  · obtain ⟨g2, go2⟩ := r2.1 hF
    refine wp_steps 1 (t' := (3, [some (.ref 84), some (.int v_2), none], [], (HD, m_2, w_2, mr))) rfl ?_
    have e : chF b n joO sub s = lpF b n joO sub 160 (sub s).2 := if_pos hF
    rw [e]
    exact l_either3 hM hnn hd hsub h.2.2.1.2.2.2.2 160 _ _ _ _ _ g2 (go2.wk (by decide)) (hnm.fr f2) f2 (by have := g2.1.1.2.2.2; omega)
  · have g2 := r2.2 (Bool.eq_false_iff.mpr hF)
    refine wp_steps 10 (t' := (12, [some (.ref 84), some (.int v_2), none], [.int 0, .int 0, .int 0, .int 0, .int 0, .int 0, .int 114, .int 111, .ref 84], (HD, m_2, w_2, mr))) rfl ?_
    refine wp_calv (as := [.int 111, .int 114, .int 0, .int 0, .int 0, .int 0, .int 0, .int 0]) rfl rfl rfl (Nat.le_of_ble_eq_true rfl) ⟨by decide, rfl⟩ ((r_word_b (ml := w_2) (mr := mr) g2.b)) (by omega) ?_
    rintro _ _ ⟨rfl, rfl⟩
    show aWP _ _ (13, [some (.ref 84), some (.int v_2), none], [.int 0], (HD, m_2, w_2, mr)) _
    refine wp_bI rfl (fun c_1 => ?_) (fun c_1 => ?_)
    rotate_left
    · have c_1 : ¬ ((0 : Int32) = 0) := of_decide_eq_false c_1
      exact absurd c_1 (by decide)
    have c_1 : (0 : Int32) = 0 := of_decide_eq_true c_1
    refine wp_steps 1 (t' := (29, [some (.ref 84), some (.int v_2), none], [.int v_2], (HD, m_2, w_2, mr))) rfl ?_
    refine wp_ret rfl rfl ⟨⟨Nat.le_refl _, Nat.le_refl _⟩, ?_⟩
    have e : chF b n joO sub s = (false, (sub s).2) := if_neg hF
    refine ⟨_, _, _, rfl, rfl, f2, ?_⟩
    rw [e]
    exact ⟨fun z => Bool.noConfusion z, fun _ => g2⟩
set_option maxRecDepth 20000 in
set_option maxHeartbeats 1000000 in
theorem l_term2 {X : aXt × Value} {mr : Nat → Nat → Option Nat} (hM : MRok mr) {b : Nat → Int32} {n t : Nat} (hnn : nnB b n) {nm : Nat → Int32} {d : Nat} (hd : 4 ≤ d) {sub : pF} (hsub : cwR X mr b n t 2 nm d 151 16 sub) {s0 : pS} (hs0 : s0.2.2.2.2.length ≤ s0.1) {m0 : Nat → Nat → Int32} : ∀ (g : Nat) (v : Int32) (m : Nat → Nat → Int32) (w : Nat → Nat → Int64) (s : pS), RS b n t 2 m w s → GO nm 17 s0 s v → nmO m nm → frR m0 m → n ≤ s.1 + g → aWP (aEx (aTb X) d) cd_X7_term2 (3, [some (.ref 84), some (.int v)], [], (HD, m, w, mr)) (fun r h' => (HD.1 ≤ h'.1.1 ∧ HD.2.1 ≤ h'.1.2.1) ∧ ∃ v m' w', r = some (.int v) ∧ h' = (HD, m', w', mr) ∧ frR m0 m' ∧ RES b n t 2 nm 17 m' w' s0 (lpF b n joT sub g s) v) := by
  intro g
  induction g with
  | zero =>
    intro v m w s h go hnm hf hg
    have h0 : s.2.2.1 = 0 := h.T.trans (lx_n (by omega))
    refine wp_steps 2 (t' := (5, [some (.ref 84), some (.int v)], [.int 42, .ref 84], (HD, m, w, mr))) rfl ?_
    refine wp_calv (as := [.int 42]) rfl rfl rfl (Nat.le_of_ble_eq_true rfl) ⟨by decide, rfl⟩ ((r_sign (ml := w) hM h (c := 42) (by decide))) (by omega) ?_
    rintro _ _ ⟨rfl, rfl⟩
    show aWP _ _ (6, [some (.ref 84), some (.int v)], [.int (if s.2.2.1 = 42 then (1 : Int32) else 0)], (HD, m, w, mr)) _
    refine wp_bI rfl (fun c_1 => ?_) (fun c_1 => ?_)
    rotate_left
    · have c_1 : ¬ ((if s.2.2.1 = 42 then (1 : Int32) else 0) = 0) := of_decide_eq_false c_1
      exact absurd (if_neg (by rw [h0]; decide)) c_1
    have c_1 : (if s.2.2.1 = 42 then (1 : Int32) else 0) = 0 := of_decide_eq_true c_1
    refine wp_steps 1 (t' := (16, [some (.ref 84), some (.int v)], [.int v], (HD, m, w, mr))) rfl ?_
    refine wp_ret rfl rfl ⟨⟨Nat.le_refl _, Nat.le_refl _⟩, ?_⟩
    have hj : joT s.2.2.1 = 0 := by simp [joT, i0_f c_1]
    have e : lpF b n joT sub 0 s = (true, s) := rfl
    refine ⟨_, _, _, rfl, rfl, hf, ?_⟩
    rw [e]
    exact ⟨fun _ => ⟨h, go⟩, fun z => Bool.noConfusion z⟩
  | succ g ih =>
    intro v m w s h go hnm hf hg
    refine wp_steps 2 (t' := (5, [some (.ref 84), some (.int v)], [.int 42, .ref 84], (HD, m, w, mr))) rfl ?_
    refine wp_calv (as := [.int 42]) rfl rfl rfl (Nat.le_of_ble_eq_true rfl) ⟨by decide, rfl⟩ ((r_sign (ml := w) hM h (c := 42) (by decide))) (by omega) ?_
    rintro _ _ ⟨rfl, rfl⟩
    show aWP _ _ (6, [some (.ref 84), some (.int v)], [.int (if s.2.2.1 = 42 then (1 : Int32) else 0)], (HD, m, w, mr)) _
    refine wp_bI rfl (fun c_1 => ?_) (fun c_1 => ?_)
    · have c_1 : (if s.2.2.1 = 42 then (1 : Int32) else 0) = 0 := of_decide_eq_true c_1
      refine wp_steps 1 (t' := (16, [some (.ref 84), some (.int v)], [.int v], (HD, m, w, mr))) rfl ?_
      refine wp_ret rfl rfl ⟨⟨Nat.le_refl _, Nat.le_refl _⟩, ?_⟩
      have hj : joT s.2.2.1 = 0 := by simp [joT, i0_f c_1]
      have e : lpF b n joT sub (g + 1) s = (true, s) := if_pos hj
      refine ⟨_, _, _, rfl, rfl, hf, ?_⟩
      rw [e]
      exact ⟨fun _ => ⟨h, go⟩, fun z => Bool.noConfusion z⟩
    · have c_1 : ¬ ((if s.2.2.1 = 42 then (1 : Int32) else 0) = 0) := of_decide_eq_false c_1
      refine wp_steps 1 (t' := (8, [some (.ref 84), some (.int v)], [.ref 84], (HD, m, w, mr))) rfl ?_
      have eT : s.2.2.1 = 42 := i0_t c_1
      refine wp_calv (as := []) rfl rfl rfl (Nat.le_of_ble_eq_true rfl) ⟨by decide, rfl⟩ ((r_next (ml := w) hM h hnn (by rw [← h.T, eT]; decide))) (by omega) ?_
      rintro _ _ ⟨rfl, m_1, w_1, rfl, f1, g1⟩
      show aWP _ _ (9, [some (.ref 84), some (.int v)], [], (HD, m_1, w_1, mr)) _
      refine wp_steps 2 (t' := (11, [some (.ref 84), some (.int v)], [.ref 84, .int v], (HD, m_1, w_1, mr))) rfl ?_
      refine wp_calv (as := []) rfl rfl rfl (Nat.le_of_ble_eq_true rfl) ⟨by decide, rfl⟩ ((hsub _ _ _ g1 (hnm.fr f1))) (by omega) ?_
      rintro _ _ ⟨v_2, m_2, w_2, rfl, rfl, f2, r2⟩
      show aWP _ _ (12, [some (.ref 84), some (.int v)], [.int v_2, .int v], (HD, m_2, w_2, mr)) _
      by_cases hF : (sub (stP b n s)).1 = true
      · obtain ⟨g2, go2⟩ := r2.1 hF
        refine wp_steps 3 (t' := (3, [some (.ref 84), some (.int (v * v_2))], [], (HD, m_2, w_2, mr))) rfl ?_
        have hj : joT s.2.2.1 = -18 := by rw [eT]; rfl
        have ev : pfJ (-18) v v_2 = v * v_2 := rfl
        obtain ⟨k1, k2, k3⟩ := GO_bi (c := -18) hs0 h (by rw [eT]; decide) go g2 go2 (by decide) (by decide)
        rw [ev] at k2
        have e : lpF b n joT sub (g + 1) s = lpF b n joT sub g (adP (-18) (sub (stP b n s)).2) := by
          show (if _ then _ else _) = _
          rw [hj, if_neg (by decide), if_pos hF]
        rw [e]
        exact ih _ _ _ _ k1 k2 ((hnm.fr f1).fr f2) ((hf.tr f1).tr f2) (by omega)
      · have g2 := r2.2 (Bool.eq_false_iff.mpr hF)
        refine wp_steps 5 (t' := (5, [some (.ref 84), some (.int (v * v_2))], [.int 42, .ref 84], (HD, m_2, w_2, mr))) rfl ?_
        refine wp_calv (as := [.int 42]) rfl rfl rfl (Nat.le_of_ble_eq_true rfl) ⟨by decide, rfl⟩ ((r_sign_b (ml := w_2) (mr := mr) g2.b (c := 42))) (by omega) ?_
        rintro _ _ ⟨rfl, rfl⟩
        show aWP _ _ (6, [some (.ref 84), some (.int (v * v_2))], [.int 0], (HD, m_2, w_2, mr)) _
        refine wp_bI rfl (fun c_2 => ?_) (fun c_2 => ?_)
        rotate_left
        · have c_2 : ¬ ((0 : Int32) = 0) := of_decide_eq_false c_2
          exact absurd c_2 (by decide)
        have c_2 : (0 : Int32) = 0 := of_decide_eq_true c_2
        refine wp_steps 1 (t' := (16, [some (.ref 84), some (.int (v * v_2))], [.int (v * v_2)], (HD, m_2, w_2, mr))) rfl ?_
        refine wp_ret rfl rfl ⟨⟨Nat.le_refl _, Nat.le_refl _⟩, ?_⟩
        have hj : joT s.2.2.1 = -18 := by rw [eT]; rfl
        have e : lpF b n joT sub (g + 1) s = (false, (sub (stP b n s)).2) := by
          show (if _ then _ else _) = _
          rw [hj, if_neg (by decide), if_neg hF]
        refine ⟨_, _, _, rfl, rfl, (hf.tr f1).tr f2, ?_⟩
        rw [e]
        exact ⟨fun z => Bool.noConfusion z, fun _ => g2⟩
set_option maxRecDepth 20000 in
set_option maxHeartbeats 1000000 in
theorem r_term2 {X : aXt × Value} {mr : Nat → Nat → Option Nat} (hM : MRok mr) {b : Nat → Int32} {n t : Nat} (hnn : nnB b n) {nm : Nat → Int32} {d : Nat} (hd : 4 ≤ d) {sub : pF} (hsub : cwR X mr b n t 2 nm d 151 16 sub) : cwR X mr b n t 2 nm (d + 1) 152 17 (chF b n joT sub) := by
  intro m w s h hnm
  refine cw_of (cd := cd_X7_term2) (nL := 2) rfl rfl ?_
  show aWP _ _ (0, [some (.ref 84), none], [], (HD, m, w, mr)) _
  refine wp_steps 1 (t' := (1, [some (.ref 84), none], [.ref 84], (HD, m, w, mr))) rfl ?_
  refine wp_calv (as := []) rfl rfl rfl (Nat.le_of_ble_eq_true rfl) ⟨by decide, rfl⟩ ((hsub _ _ _ h hnm)) (by omega) ?_
  rintro _ _ ⟨v_2, m_2, w_2, rfl, rfl, f2, r2⟩
  show aWP _ _ (2, [some (.ref 84), none], [.int v_2], (HD, m_2, w_2, mr)) _
  by_cases hF : (sub s).1 = true
  · obtain ⟨g2, go2⟩ := r2.1 hF
    refine wp_steps 1 (t' := (3, [some (.ref 84), some (.int v_2)], [], (HD, m_2, w_2, mr))) rfl ?_
    have e : chF b n joT sub s = lpF b n joT sub 160 (sub s).2 := if_pos hF
    rw [e]
    exact l_term2 hM hnn hd hsub h.2.2.1.2.2.2.2 160 _ _ _ _ g2 (go2.wk (by decide)) (hnm.fr f2) f2 (by have := g2.1.1.2.2.2; omega)
  · have g2 := r2.2 (Bool.eq_false_iff.mpr hF)
    refine wp_steps 3 (t' := (5, [some (.ref 84), some (.int v_2)], [.int 42, .ref 84], (HD, m_2, w_2, mr))) rfl ?_
    refine wp_calv (as := [.int 42]) rfl rfl rfl (Nat.le_of_ble_eq_true rfl) ⟨by decide, rfl⟩ ((r_sign_b (ml := w_2) (mr := mr) g2.b (c := 42))) (by omega) ?_
    rintro _ _ ⟨rfl, rfl⟩
    show aWP _ _ (6, [some (.ref 84), some (.int v_2)], [.int 0], (HD, m_2, w_2, mr)) _
    refine wp_bI rfl (fun c_1 => ?_) (fun c_1 => ?_)
    rotate_left
    · have c_1 : ¬ ((0 : Int32) = 0) := of_decide_eq_false c_1
      exact absurd c_1 (by decide)
    have c_1 : (0 : Int32) = 0 := of_decide_eq_true c_1
    refine wp_steps 1 (t' := (16, [some (.ref 84), some (.int v_2)], [.int v_2], (HD, m_2, w_2, mr))) rfl ?_
    refine wp_ret rfl rfl ⟨⟨Nat.le_refl _, Nat.le_refl _⟩, ?_⟩
    have e : chF b n joT sub s = (false, (sub s).2) := if_neg hF
    refine ⟨_, _, _, rfl, rfl, f2, ?_⟩
    rw [e]
    exact ⟨fun z => Bool.noConfusion z, fun _ => g2⟩
set_option maxRecDepth 20000 in
set_option maxHeartbeats 1000000 in
theorem l_added2 {X : aXt × Value} {mr : Nat → Nat → Option Nat} (hM : MRok mr) {b : Nat → Int32} {n t : Nat} (hnn : nnB b n) {nm : Nat → Int32} {d : Nat} (hd : 4 ≤ d) {sub : pF} (hsub : cwR X mr b n t 2 nm d 152 17 sub) {s0 : pS} (hs0 : s0.2.2.2.2.length ≤ s0.1) {m0 : Nat → Nat → Int32} : ∀ (g : Nat) (v : Int32) (m : Nat → Nat → Int32) (w : Nat → Nat → Int64) (s : pS) (o1 o2 : Option Value), RS b n t 2 m w s → GO nm 18 s0 s v → nmO m nm → frR m0 m → n ≤ s.1 + g → aWP (aEx (aTb X) d) cd_X7_added2 (3, [some (.ref 84), some (.int v), o1, o2], [], (HD, m, w, mr)) (fun r h' => (HD.1 ≤ h'.1.1 ∧ HD.2.1 ≤ h'.1.2.1) ∧ ∃ v m' w', r = some (.int v) ∧ h' = (HD, m', w', mr) ∧ frR m0 m' ∧ RES b n t 2 nm 18 m' w' s0 (lpF b n joS sub g s) v) := by
  intro g
  induction g with
  | zero =>
    intro v m w s o1 o2 h go hnm hf hg
    have h0 : s.2.2.1 = 0 := h.T.trans (lx_n (by omega))
    refine wp_steps 2 (t' := (5, [some (.ref 84), some (.int v), o1, o2], [.int 43, .ref 84], (HD, m, w, mr))) rfl ?_
    refine wp_calv (as := [.int 43]) rfl rfl rfl (Nat.le_of_ble_eq_true rfl) ⟨by decide, rfl⟩ ((r_sign (ml := w) hM h (c := 43) (by decide))) (by omega) ?_
    rintro _ _ ⟨rfl, rfl⟩
    show aWP _ _ (6, [some (.ref 84), some (.int v), o1, o2], [.int (if s.2.2.1 = 43 then (1 : Int32) else 0)], (HD, m, w, mr)) _
    refine wp_bI rfl (fun c_1 => ?_) (fun c_1 => ?_)
    · have c_1 : ¬ (if s.2.2.1 = 43 then (1 : Int32) else 0) = 0 := of_decide_eq_true c_1
      exact absurd (if_neg (by rw [h0]; decide)) c_1
    have c_1 : (if s.2.2.1 = 43 then (1 : Int32) else 0) = 0 := Decidable.not_not.mp (of_decide_eq_false c_1)
    refine wp_steps 2 (t' := (9, [some (.ref 84), some (.int v), o1, o2], [.int 45, .ref 84], (HD, m, w, mr))) rfl ?_
    refine wp_calv (as := [.int 45]) rfl rfl rfl (Nat.le_of_ble_eq_true rfl) ⟨by decide, rfl⟩ ((r_sign (ml := w) hM h (c := 45) (by decide))) (by omega) ?_
    rintro _ _ ⟨rfl, rfl⟩
    show aWP _ _ (10, [some (.ref 84), some (.int v), o1, o2], [.int (if s.2.2.1 = 45 then (1 : Int32) else 0)], (HD, m, w, mr)) _
    refine wp_bI rfl (fun c_2 => ?_) (fun c_2 => ?_)
    rotate_left
    · have c_2 : ¬ ((if s.2.2.1 = 45 then (1 : Int32) else 0) = 0) := of_decide_eq_false c_2
      exact absurd (if_neg (by rw [h0]; decide)) c_2
    have c_2 : (if s.2.2.1 = 45 then (1 : Int32) else 0) = 0 := of_decide_eq_true c_2
    refine wp_steps 1 (t' := (37, [some (.ref 84), some (.int v), o1, o2], [.int v], (HD, m, w, mr))) rfl ?_
    refine wp_ret rfl rfl ⟨⟨Nat.le_refl _, Nat.le_refl _⟩, ?_⟩
    have hj : joS s.2.2.1 = 0 := by simp [joS, i0_f c_1, i0_f c_2]
    have e : lpF b n joS sub 0 s = (true, s) := rfl
    refine ⟨_, _, _, rfl, rfl, hf, ?_⟩
    rw [e]
    exact ⟨fun _ => ⟨h, go⟩, fun z => Bool.noConfusion z⟩
  | succ g ih =>
    intro v m w s o1 o2 h go hnm hf hg
    refine wp_steps 2 (t' := (5, [some (.ref 84), some (.int v), o1, o2], [.int 43, .ref 84], (HD, m, w, mr))) rfl ?_
    refine wp_calv (as := [.int 43]) rfl rfl rfl (Nat.le_of_ble_eq_true rfl) ⟨by decide, rfl⟩ ((r_sign (ml := w) hM h (c := 43) (by decide))) (by omega) ?_
    rintro _ _ ⟨rfl, rfl⟩
    show aWP _ _ (6, [some (.ref 84), some (.int v), o1, o2], [.int (if s.2.2.1 = 43 then (1 : Int32) else 0)], (HD, m, w, mr)) _
    refine wp_bI rfl (fun c_1 => ?_) (fun c_1 => ?_)
    · have c_1 : ¬ (if s.2.2.1 = 43 then (1 : Int32) else 0) = 0 := of_decide_eq_true c_1
      refine wp_steps 1 (t' := (12, [some (.ref 84), some (.int v), o1, o2], [.ref 84], (HD, m, w, mr))) rfl ?_
      refine wp_getl rfl ⟨by decide, rfl⟩ rfl ?_
      have ew : w 84 24 = (43 : Int32).toInt64 := h.sg (by decide) (i0_t c_1)
      rw [ew]
      refine wp_steps 2 (t' := (15, [some (.ref 84), some (.int v), o1, o2], [.int (lg_cmp ((43 : Int32).toInt64) 43)], (HD, m, w, mr))) rfl ?_
      refine wp_bI rfl (fun c_2 => ?_) (fun c_2 => ?_)
      · have c_2 : ¬ (lg_cmp ((43 : Int32).toInt64) 43) = 0 := of_decide_eq_true c_2
        exact absurd ((lg_cmp_eq _ _).mpr (by decide)) c_2
      have c_2 : (lg_cmp ((43 : Int32).toInt64) 43) = 0 := Decidable.not_not.mp (of_decide_eq_false c_2)
      refine wp_steps 4 (t' := (21, [some (.ref 84), some (.int v), some (.int 1), o2], [.ref 84], (HD, m, w, mr))) rfl ?_
      have eT : s.2.2.1 = 43 := i0_t c_1
      refine wp_calv (as := []) rfl rfl rfl (Nat.le_of_ble_eq_true rfl) ⟨by decide, rfl⟩ ((r_next (ml := w) hM h hnn (by rw [← h.T, eT]; decide))) (by omega) ?_
      rintro _ _ ⟨rfl, m_1, w_1, rfl, f1, g1⟩
      show aWP _ _ (22, [some (.ref 84), some (.int v), some (.int 1), o2], [], (HD, m_1, w_1, mr)) _
      refine wp_steps 1 (t' := (23, [some (.ref 84), some (.int v), some (.int 1), o2], [.ref 84], (HD, m_1, w_1, mr))) rfl ?_
      refine wp_calv (as := []) rfl rfl rfl (Nat.le_of_ble_eq_true rfl) ⟨by decide, rfl⟩ ((hsub _ _ _ g1 (hnm.fr f1))) (by omega) ?_
      rintro _ _ ⟨v_2, m_2, w_2, rfl, rfl, f2, r2⟩
      show aWP _ _ (24, [some (.ref 84), some (.int v), some (.int 1), o2], [.int v_2], (HD, m_2, w_2, mr)) _
      by_cases hF : (sub (stP b n s)).1 = true
      · obtain ⟨g2, go2⟩ := r2.1 hF
        refine wp_steps 2 (t' := (26, [some (.ref 84), some (.int v), some (.int 1), some (.int v_2)], [.int 1], (HD, m_2, w_2, mr))) rfl ?_
        refine wp_bI rfl (fun c_3 => ?_) (fun c_3 => ?_)
        · have c_3 : (1 : Int32) = 0 := of_decide_eq_true c_3
          exact absurd c_3 (by decide)
        have c_3 : ¬ ((1 : Int32) = 0) := of_decide_eq_false c_3
        refine wp_steps 6 (t' := (3, [some (.ref 84), some (.int (v + v_2)), some (.int 1), some (.int v_2)], [], (HD, m_2, w_2, mr))) rfl ?_
        have hj : joS s.2.2.1 = -16 := by rw [eT]; rfl
        have ev : pfJ (-16) v v_2 = v + v_2 := rfl
        obtain ⟨k1, k2, k3⟩ := GO_bi (c := -16) hs0 h (by rw [eT]; decide) go g2 go2 (by decide) (by decide)
        rw [ev] at k2
        have e : lpF b n joS sub (g + 1) s = lpF b n joS sub g (adP (-16) (sub (stP b n s)).2) := by
          show (if _ then _ else _) = _
          rw [hj, if_neg (by decide), if_pos hF]
        rw [e]
        exact ih _ _ _ _ _ _ k1 k2 ((hnm.fr f1).fr f2) ((hf.tr f1).tr f2) (by omega)
      · have g2 := r2.2 (Bool.eq_false_iff.mpr hF)
        refine wp_steps 2 (t' := (26, [some (.ref 84), some (.int v), some (.int 1), some (.int v_2)], [.int 1], (HD, m_2, w_2, mr))) rfl ?_
        refine wp_bI rfl (fun c_4 => ?_) (fun c_4 => ?_)
        · have c_4 : (1 : Int32) = 0 := of_decide_eq_true c_4
          exact absurd c_4 (by decide)
        have c_4 : ¬ ((1 : Int32) = 0) := of_decide_eq_false c_4
        refine wp_steps 8 (t' := (5, [some (.ref 84), some (.int (v + v_2)), some (.int 1), some (.int v_2)], [.int 43, .ref 84], (HD, m_2, w_2, mr))) rfl ?_
        refine wp_calv (as := [.int 43]) rfl rfl rfl (Nat.le_of_ble_eq_true rfl) ⟨by decide, rfl⟩ ((r_sign_b (ml := w_2) (mr := mr) g2.b (c := 43))) (by omega) ?_
        rintro _ _ ⟨rfl, rfl⟩
        show aWP _ _ (6, [some (.ref 84), some (.int (v + v_2)), some (.int 1), some (.int v_2)], [.int 0], (HD, m_2, w_2, mr)) _
        refine wp_bI rfl (fun c_5 => ?_) (fun c_5 => ?_)
        · have c_5 : ¬ (0 : Int32) = 0 := of_decide_eq_true c_5
          exact absurd c_5 (by decide)
        have c_5 : (0 : Int32) = 0 := Decidable.not_not.mp (of_decide_eq_false c_5)
        refine wp_steps 2 (t' := (9, [some (.ref 84), some (.int (v + v_2)), some (.int 1), some (.int v_2)], [.int 45, .ref 84], (HD, m_2, w_2, mr))) rfl ?_
        refine wp_calv (as := [.int 45]) rfl rfl rfl (Nat.le_of_ble_eq_true rfl) ⟨by decide, rfl⟩ ((r_sign_b (ml := w_2) (mr := mr) g2.b (c := 45))) (by omega) ?_
        rintro _ _ ⟨rfl, rfl⟩
        show aWP _ _ (10, [some (.ref 84), some (.int (v + v_2)), some (.int 1), some (.int v_2)], [.int 0], (HD, m_2, w_2, mr)) _
        refine wp_bI rfl (fun c_6 => ?_) (fun c_6 => ?_)
        rotate_left
        · have c_6 : ¬ ((0 : Int32) = 0) := of_decide_eq_false c_6
          exact absurd c_6 (by decide)
        have c_6 : (0 : Int32) = 0 := of_decide_eq_true c_6
        refine wp_steps 1 (t' := (37, [some (.ref 84), some (.int (v + v_2)), some (.int 1), some (.int v_2)], [.int (v + v_2)], (HD, m_2, w_2, mr))) rfl ?_
        refine wp_ret rfl rfl ⟨⟨Nat.le_refl _, Nat.le_refl _⟩, ?_⟩
        have hj : joS s.2.2.1 = -16 := by rw [eT]; rfl
        have e : lpF b n joS sub (g + 1) s = (false, (sub (stP b n s)).2) := by
          show (if _ then _ else _) = _
          rw [hj, if_neg (by decide), if_neg hF]
        refine ⟨_, _, _, rfl, rfl, (hf.tr f1).tr f2, ?_⟩
        rw [e]
        exact ⟨fun z => Bool.noConfusion z, fun _ => g2⟩
    · have c_1 : (if s.2.2.1 = 43 then (1 : Int32) else 0) = 0 := Decidable.not_not.mp (of_decide_eq_false c_1)
      refine wp_steps 2 (t' := (9, [some (.ref 84), some (.int v), o1, o2], [.int 45, .ref 84], (HD, m, w, mr))) rfl ?_
      refine wp_calv (as := [.int 45]) rfl rfl rfl (Nat.le_of_ble_eq_true rfl) ⟨by decide, rfl⟩ ((r_sign (ml := w) hM h (c := 45) (by decide))) (by omega) ?_
      rintro _ _ ⟨rfl, rfl⟩
      show aWP _ _ (10, [some (.ref 84), some (.int v), o1, o2], [.int (if s.2.2.1 = 45 then (1 : Int32) else 0)], (HD, m, w, mr)) _
      refine wp_bI rfl (fun c_7 => ?_) (fun c_7 => ?_)
      · have c_7 : (if s.2.2.1 = 45 then (1 : Int32) else 0) = 0 := of_decide_eq_true c_7
        refine wp_steps 1 (t' := (37, [some (.ref 84), some (.int v), o1, o2], [.int v], (HD, m, w, mr))) rfl ?_
        refine wp_ret rfl rfl ⟨⟨Nat.le_refl _, Nat.le_refl _⟩, ?_⟩
        have hj : joS s.2.2.1 = 0 := by simp [joS, i0_f c_1, i0_f c_7]
        have e : lpF b n joS sub (g + 1) s = (true, s) := if_pos hj
        refine ⟨_, _, _, rfl, rfl, hf, ?_⟩
        rw [e]
        exact ⟨fun _ => ⟨h, go⟩, fun z => Bool.noConfusion z⟩
      · have c_7 : ¬ ((if s.2.2.1 = 45 then (1 : Int32) else 0) = 0) := of_decide_eq_false c_7
        refine wp_steps 1 (t' := (12, [some (.ref 84), some (.int v), o1, o2], [.ref 84], (HD, m, w, mr))) rfl ?_
        refine wp_getl rfl ⟨by decide, rfl⟩ rfl ?_
        have ew : w 84 24 = (45 : Int32).toInt64 := h.sg (by decide) (i0_t c_7)
        rw [ew]
        refine wp_steps 2 (t' := (15, [some (.ref 84), some (.int v), o1, o2], [.int (lg_cmp ((45 : Int32).toInt64) 43)], (HD, m, w, mr))) rfl ?_
        refine wp_bI rfl (fun c_8 => ?_) (fun c_8 => ?_)
        rotate_left
        · have c_8 : (lg_cmp ((45 : Int32).toInt64) 43) = 0 := Decidable.not_not.mp (of_decide_eq_false c_8)
          exact absurd ((lg_cmp_eq _ _).mp c_8) (by decide)
        have c_8 : ¬ (lg_cmp ((45 : Int32).toInt64) 43) = 0 := of_decide_eq_true c_8
        refine wp_steps 3 (t' := (21, [some (.ref 84), some (.int v), some (.int 0), o2], [.ref 84], (HD, m, w, mr))) rfl ?_
        have eT : s.2.2.1 = 45 := i0_t c_7
        refine wp_calv (as := []) rfl rfl rfl (Nat.le_of_ble_eq_true rfl) ⟨by decide, rfl⟩ ((r_next (ml := w) hM h hnn (by rw [← h.T, eT]; decide))) (by omega) ?_
        rintro _ _ ⟨rfl, m_1, w_1, rfl, f1, g1⟩
        show aWP _ _ (22, [some (.ref 84), some (.int v), some (.int 0), o2], [], (HD, m_1, w_1, mr)) _
        refine wp_steps 1 (t' := (23, [some (.ref 84), some (.int v), some (.int 0), o2], [.ref 84], (HD, m_1, w_1, mr))) rfl ?_
        refine wp_calv (as := []) rfl rfl rfl (Nat.le_of_ble_eq_true rfl) ⟨by decide, rfl⟩ ((hsub _ _ _ g1 (hnm.fr f1))) (by omega) ?_
        rintro _ _ ⟨v_2, m_2, w_2, rfl, rfl, f2, r2⟩
        show aWP _ _ (24, [some (.ref 84), some (.int v), some (.int 0), o2], [.int v_2], (HD, m_2, w_2, mr)) _
        by_cases hF : (sub (stP b n s)).1 = true
        · obtain ⟨g2, go2⟩ := r2.1 hF
          refine wp_steps 2 (t' := (26, [some (.ref 84), some (.int v), some (.int 0), some (.int v_2)], [.int 0], (HD, m_2, w_2, mr))) rfl ?_
          refine wp_bI rfl (fun c_9 => ?_) (fun c_9 => ?_)
          rotate_left
          · have c_9 : ¬ ((0 : Int32) = 0) := of_decide_eq_false c_9
            exact absurd c_9 (by decide)
          have c_9 : (0 : Int32) = 0 := of_decide_eq_true c_9
          refine wp_steps 5 (t' := (3, [some (.ref 84), some (.int (v - v_2)), some (.int 0), some (.int v_2)], [], (HD, m_2, w_2, mr))) rfl ?_
          have hj : joS s.2.2.1 = -17 := by rw [eT]; rfl
          have ev : pfJ (-17) v v_2 = v - v_2 := rfl
          obtain ⟨k1, k2, k3⟩ := GO_bi (c := -17) hs0 h (by rw [eT]; decide) go g2 go2 (by decide) (by decide)
          rw [ev] at k2
          have e : lpF b n joS sub (g + 1) s = lpF b n joS sub g (adP (-17) (sub (stP b n s)).2) := by
            show (if _ then _ else _) = _
            rw [hj, if_neg (by decide), if_pos hF]
          rw [e]
          exact ih _ _ _ _ _ _ k1 k2 ((hnm.fr f1).fr f2) ((hf.tr f1).tr f2) (by omega)
        · have g2 := r2.2 (Bool.eq_false_iff.mpr hF)
          refine wp_steps 2 (t' := (26, [some (.ref 84), some (.int v), some (.int 0), some (.int v_2)], [.int 0], (HD, m_2, w_2, mr))) rfl ?_
          refine wp_bI rfl (fun c_10 => ?_) (fun c_10 => ?_)
          rotate_left
          · have c_10 : ¬ ((0 : Int32) = 0) := of_decide_eq_false c_10
            exact absurd c_10 (by decide)
          have c_10 : (0 : Int32) = 0 := of_decide_eq_true c_10
          refine wp_steps 7 (t' := (5, [some (.ref 84), some (.int (v - v_2)), some (.int 0), some (.int v_2)], [.int 43, .ref 84], (HD, m_2, w_2, mr))) rfl ?_
          refine wp_calv (as := [.int 43]) rfl rfl rfl (Nat.le_of_ble_eq_true rfl) ⟨by decide, rfl⟩ ((r_sign_b (ml := w_2) (mr := mr) g2.b (c := 43))) (by omega) ?_
          rintro _ _ ⟨rfl, rfl⟩
          show aWP _ _ (6, [some (.ref 84), some (.int (v - v_2)), some (.int 0), some (.int v_2)], [.int 0], (HD, m_2, w_2, mr)) _
          refine wp_bI rfl (fun c_11 => ?_) (fun c_11 => ?_)
          · have c_11 : ¬ (0 : Int32) = 0 := of_decide_eq_true c_11
            exact absurd c_11 (by decide)
          have c_11 : (0 : Int32) = 0 := Decidable.not_not.mp (of_decide_eq_false c_11)
          refine wp_steps 2 (t' := (9, [some (.ref 84), some (.int (v - v_2)), some (.int 0), some (.int v_2)], [.int 45, .ref 84], (HD, m_2, w_2, mr))) rfl ?_
          refine wp_calv (as := [.int 45]) rfl rfl rfl (Nat.le_of_ble_eq_true rfl) ⟨by decide, rfl⟩ ((r_sign_b (ml := w_2) (mr := mr) g2.b (c := 45))) (by omega) ?_
          rintro _ _ ⟨rfl, rfl⟩
          show aWP _ _ (10, [some (.ref 84), some (.int (v - v_2)), some (.int 0), some (.int v_2)], [.int 0], (HD, m_2, w_2, mr)) _
          refine wp_bI rfl (fun c_12 => ?_) (fun c_12 => ?_)
          rotate_left
          · have c_12 : ¬ ((0 : Int32) = 0) := of_decide_eq_false c_12
            exact absurd c_12 (by decide)
          have c_12 : (0 : Int32) = 0 := of_decide_eq_true c_12
          refine wp_steps 1 (t' := (37, [some (.ref 84), some (.int (v - v_2)), some (.int 0), some (.int v_2)], [.int (v - v_2)], (HD, m_2, w_2, mr))) rfl ?_
          refine wp_ret rfl rfl ⟨⟨Nat.le_refl _, Nat.le_refl _⟩, ?_⟩
          have hj : joS s.2.2.1 = -17 := by rw [eT]; rfl
          have e : lpF b n joS sub (g + 1) s = (false, (sub (stP b n s)).2) := by
            show (if _ then _ else _) = _
            rw [hj, if_neg (by decide), if_neg hF]
          refine ⟨_, _, _, rfl, rfl, (hf.tr f1).tr f2, ?_⟩
          rw [e]
          exact ⟨fun z => Bool.noConfusion z, fun _ => g2⟩
set_option maxRecDepth 20000 in
set_option maxHeartbeats 1000000 in
theorem r_added2 {X : aXt × Value} {mr : Nat → Nat → Option Nat} (hM : MRok mr) {b : Nat → Int32} {n t : Nat} (hnn : nnB b n) {nm : Nat → Int32} {d : Nat} (hd : 4 ≤ d) {sub : pF} (hsub : cwR X mr b n t 2 nm d 152 17 sub) : cwR X mr b n t 2 nm (d + 1) 153 18 (chF b n joS sub) := by
  intro m w s h hnm
  refine cw_of (cd := cd_X7_added2) (nL := 4) rfl rfl ?_
  show aWP _ _ (0, [some (.ref 84), none, none, none], [], (HD, m, w, mr)) _
  refine wp_steps 1 (t' := (1, [some (.ref 84), none, none, none], [.ref 84], (HD, m, w, mr))) rfl ?_
  refine wp_calv (as := []) rfl rfl rfl (Nat.le_of_ble_eq_true rfl) ⟨by decide, rfl⟩ ((hsub _ _ _ h hnm)) (by omega) ?_
  rintro _ _ ⟨v_2, m_2, w_2, rfl, rfl, f2, r2⟩
  show aWP _ _ (2, [some (.ref 84), none, none, none], [.int v_2], (HD, m_2, w_2, mr)) _
  by_cases hF : (sub s).1 = true
  · obtain ⟨g2, go2⟩ := r2.1 hF
    refine wp_steps 1 (t' := (3, [some (.ref 84), some (.int v_2), none, none], [], (HD, m_2, w_2, mr))) rfl ?_
    have e : chF b n joS sub s = lpF b n joS sub 160 (sub s).2 := if_pos hF
    rw [e]
    exact l_added2 hM hnn hd hsub h.2.2.1.2.2.2.2 160 _ _ _ _ _ _ g2 (go2.wk (by decide)) (hnm.fr f2) f2 (by have := g2.1.1.2.2.2; omega)
  · have g2 := r2.2 (Bool.eq_false_iff.mpr hF)
    refine wp_steps 3 (t' := (5, [some (.ref 84), some (.int v_2), none, none], [.int 43, .ref 84], (HD, m_2, w_2, mr))) rfl ?_
    refine wp_calv (as := [.int 43]) rfl rfl rfl (Nat.le_of_ble_eq_true rfl) ⟨by decide, rfl⟩ ((r_sign_b (ml := w_2) (mr := mr) g2.b (c := 43))) (by omega) ?_
    rintro _ _ ⟨rfl, rfl⟩
    show aWP _ _ (6, [some (.ref 84), some (.int v_2), none, none], [.int 0], (HD, m_2, w_2, mr)) _
    refine wp_bI rfl (fun c_1 => ?_) (fun c_1 => ?_)
    · have c_1 : ¬ (0 : Int32) = 0 := of_decide_eq_true c_1
      exact absurd c_1 (by decide)
    have c_1 : (0 : Int32) = 0 := Decidable.not_not.mp (of_decide_eq_false c_1)
    refine wp_steps 2 (t' := (9, [some (.ref 84), some (.int v_2), none, none], [.int 45, .ref 84], (HD, m_2, w_2, mr))) rfl ?_
    refine wp_calv (as := [.int 45]) rfl rfl rfl (Nat.le_of_ble_eq_true rfl) ⟨by decide, rfl⟩ ((r_sign_b (ml := w_2) (mr := mr) g2.b (c := 45))) (by omega) ?_
    rintro _ _ ⟨rfl, rfl⟩
    show aWP _ _ (10, [some (.ref 84), some (.int v_2), none, none], [.int 0], (HD, m_2, w_2, mr)) _
    refine wp_bI rfl (fun c_2 => ?_) (fun c_2 => ?_)
    rotate_left
    · have c_2 : ¬ ((0 : Int32) = 0) := of_decide_eq_false c_2
      exact absurd c_2 (by decide)
    have c_2 : (0 : Int32) = 0 := of_decide_eq_true c_2
    refine wp_steps 1 (t' := (37, [some (.ref 84), some (.int v_2), none, none], [.int v_2], (HD, m_2, w_2, mr))) rfl ?_
    refine wp_ret rfl rfl ⟨⟨Nat.le_refl _, Nat.le_refl _⟩, ?_⟩
    have e : chF b n joS sub s = (false, (sub s).2) := if_neg hF
    refine ⟨_, _, _, rfl, rfl, f2, ?_⟩
    rw [e]
    exact ⟨fun z => Bool.noConfusion z, fun _ => g2⟩
set_option maxRecDepth 20000 in
set_option maxHeartbeats 1000000 in
theorem l_both2 {X : aXt × Value} {mr : Nat → Nat → Option Nat} (hM : MRok mr) {b : Nat → Int32} {n t : Nat} (hnn : nnB b n) {nm : Nat → Int32} {d : Nat} (hd : 4 ≤ d) {sub : pF} (hsub : cwR X mr b n t 2 nm d 154 19 sub) {s0 : pS} (hs0 : s0.2.2.2.2.length ≤ s0.1) {m0 : Nat → Nat → Int32} : ∀ (g : Nat) (v : Int32) (m : Nat → Nat → Int32) (w : Nat → Nat → Int64) (s : pS) (o1 : Option Value), RS b n t 2 m w s → GO nm 20 s0 s v → nmO m nm → frR m0 m → n ≤ s.1 + g → aWP (aEx (aTb X) d) cd_X7_both2 (3, [some (.ref 84), some (.int v), o1], [], (HD, m, w, mr)) (fun r h' => (HD.1 ≤ h'.1.1 ∧ HD.2.1 ≤ h'.1.2.1) ∧ ∃ v m' w', r = some (.int v) ∧ h' = (HD, m', w', mr) ∧ frR m0 m' ∧ RES b n t 2 nm 20 m' w' s0 (lpF b n joA sub g s) v) := by
  intro g
  induction g with
  | zero =>
    intro v m w s o1 h go hnm hf hg
    have h0 : s.2.2.1 = 0 := h.T.trans (lx_n (by omega))
    refine wp_steps 9 (t' := (12, [some (.ref 84), some (.int v), o1], [.int 0, .int 0, .int 0, .int 0, .int 0, .int 100, .int 110, .int 97, .ref 84], (HD, m, w, mr))) rfl ?_
    refine wp_calv (as := [.int 97, .int 110, .int 100, .int 0, .int 0, .int 0, .int 0, .int 0]) rfl rfl rfl (Nat.le_of_ble_eq_true rfl) ⟨by decide, rfl⟩ ((rw_and (ml := w) hM h)) (by omega) ?_
    rintro _ _ ⟨rfl, rfl⟩
    show aWP _ _ (13, [some (.ref 84), some (.int v), o1], [.int (if s.2.2.1 = 7 then (1 : Int32) else 0)], (HD, m, w, mr)) _
    refine wp_bI rfl (fun c_1 => ?_) (fun c_1 => ?_)
    rotate_left
    · have c_1 : ¬ ((if s.2.2.1 = 7 then (1 : Int32) else 0) = 0) := of_decide_eq_false c_1
      exact absurd (if_neg (by rw [h0]; decide)) c_1
    have c_1 : (if s.2.2.1 = 7 then (1 : Int32) else 0) = 0 := of_decide_eq_true c_1
    refine wp_steps 1 (t' := (29, [some (.ref 84), some (.int v), o1], [.int v], (HD, m, w, mr))) rfl ?_
    refine wp_ret rfl rfl ⟨⟨Nat.le_refl _, Nat.le_refl _⟩, ?_⟩
    have hj : joA s.2.2.1 = 0 := by simp [joA, i0_f c_1]
    have e : lpF b n joA sub 0 s = (true, s) := rfl
    refine ⟨_, _, _, rfl, rfl, hf, ?_⟩
    rw [e]
    exact ⟨fun _ => ⟨h, go⟩, fun z => Bool.noConfusion z⟩
  | succ g ih =>
    intro v m w s o1 h go hnm hf hg
    refine wp_steps 9 (t' := (12, [some (.ref 84), some (.int v), o1], [.int 0, .int 0, .int 0, .int 0, .int 0, .int 100, .int 110, .int 97, .ref 84], (HD, m, w, mr))) rfl ?_
    refine wp_calv (as := [.int 97, .int 110, .int 100, .int 0, .int 0, .int 0, .int 0, .int 0]) rfl rfl rfl (Nat.le_of_ble_eq_true rfl) ⟨by decide, rfl⟩ ((rw_and (ml := w) hM h)) (by omega) ?_
    rintro _ _ ⟨rfl, rfl⟩
    show aWP _ _ (13, [some (.ref 84), some (.int v), o1], [.int (if s.2.2.1 = 7 then (1 : Int32) else 0)], (HD, m, w, mr)) _
    refine wp_bI rfl (fun c_1 => ?_) (fun c_1 => ?_)
    · have c_1 : (if s.2.2.1 = 7 then (1 : Int32) else 0) = 0 := of_decide_eq_true c_1
      refine wp_steps 1 (t' := (29, [some (.ref 84), some (.int v), o1], [.int v], (HD, m, w, mr))) rfl ?_
      refine wp_ret rfl rfl ⟨⟨Nat.le_refl _, Nat.le_refl _⟩, ?_⟩
      have hj : joA s.2.2.1 = 0 := by simp [joA, i0_f c_1]
      have e : lpF b n joA sub (g + 1) s = (true, s) := if_pos hj
      refine ⟨_, _, _, rfl, rfl, hf, ?_⟩
      rw [e]
      exact ⟨fun _ => ⟨h, go⟩, fun z => Bool.noConfusion z⟩
    · have c_1 : ¬ ((if s.2.2.1 = 7 then (1 : Int32) else 0) = 0) := of_decide_eq_false c_1
      refine wp_steps 1 (t' := (15, [some (.ref 84), some (.int v), o1], [.ref 84], (HD, m, w, mr))) rfl ?_
      have eT : s.2.2.1 = 7 := i0_t c_1
      refine wp_calv (as := []) rfl rfl rfl (Nat.le_of_ble_eq_true rfl) ⟨by decide, rfl⟩ ((r_next (ml := w) hM h hnn (by rw [← h.T, eT]; decide))) (by omega) ?_
      rintro _ _ ⟨rfl, m_1, w_1, rfl, f1, g1⟩
      show aWP _ _ (16, [some (.ref 84), some (.int v), o1], [], (HD, m_1, w_1, mr)) _
      refine wp_steps 1 (t' := (17, [some (.ref 84), some (.int v), o1], [.ref 84], (HD, m_1, w_1, mr))) rfl ?_
      refine wp_calv (as := []) rfl rfl rfl (Nat.le_of_ble_eq_true rfl) ⟨by decide, rfl⟩ ((hsub _ _ _ g1 (hnm.fr f1))) (by omega) ?_
      rintro _ _ ⟨v_2, m_2, w_2, rfl, rfl, f2, r2⟩
      show aWP _ _ (18, [some (.ref 84), some (.int v), o1], [.int v_2], (HD, m_2, w_2, mr)) _
      by_cases hF : (sub (stP b n s)).1 = true
      · obtain ⟨g2, go2⟩ := r2.1 hF
        refine wp_steps 2 (t' := (20, [some (.ref 84), some (.int v), some (.int v_2)], [.int v], (HD, m_2, w_2, mr))) rfl ?_
        refine wp_bI rfl (fun c_2 => ?_) (fun c_2 => ?_)
        · have c_2 : v = 0 := of_decide_eq_true c_2
          refine wp_steps 3 (t' := (3, [some (.ref 84), some (.int 0), some (.int v_2)], [], (HD, m_2, w_2, mr))) rfl ?_
          have hj : joA s.2.2.1 = -12 := by rw [eT]; rfl
          have ev : pfJ (-12) v v_2 = 0 := by simp [pfJ, c_2]
          obtain ⟨k1, k2, k3⟩ := GO_bi (c := -12) hs0 h (by rw [eT]; decide) go g2 go2 (by decide) (by decide)
          rw [ev] at k2
          have e : lpF b n joA sub (g + 1) s = lpF b n joA sub g (adP (-12) (sub (stP b n s)).2) := by
            show (if _ then _ else _) = _
            rw [hj, if_neg (by decide), if_pos hF]
          rw [e]
          exact ih _ _ _ _ _ k1 k2 ((hnm.fr f1).fr f2) ((hf.tr f1).tr f2) (by omega)
        · have c_2 : ¬ (v = 0) := of_decide_eq_false c_2
          refine wp_steps 1 (t' := (22, [some (.ref 84), some (.int v), some (.int v_2)], [.int v_2], (HD, m_2, w_2, mr))) rfl ?_
          refine wp_bI rfl (fun c_3 => ?_) (fun c_3 => ?_)
          · have c_3 : v_2 = 0 := of_decide_eq_true c_3
            refine wp_steps 3 (t' := (3, [some (.ref 84), some (.int 0), some (.int v_2)], [], (HD, m_2, w_2, mr))) rfl ?_
            have hj : joA s.2.2.1 = -12 := by rw [eT]; rfl
            have ev : pfJ (-12) v v_2 = 0 := by simp [pfJ, c_2, c_3]
            obtain ⟨k1, k2, k3⟩ := GO_bi (c := -12) hs0 h (by rw [eT]; decide) go g2 go2 (by decide) (by decide)
            rw [ev] at k2
            have e : lpF b n joA sub (g + 1) s = lpF b n joA sub g (adP (-12) (sub (stP b n s)).2) := by
              show (if _ then _ else _) = _
              rw [hj, if_neg (by decide), if_pos hF]
            rw [e]
            exact ih _ _ _ _ _ k1 k2 ((hnm.fr f1).fr f2) ((hf.tr f1).tr f2) (by omega)
          · have c_3 : ¬ (v_2 = 0) := of_decide_eq_false c_3
            refine wp_steps 4 (t' := (3, [some (.ref 84), some (.int 1), some (.int v_2)], [], (HD, m_2, w_2, mr))) rfl ?_
            have hj : joA s.2.2.1 = -12 := by rw [eT]; rfl
            have ev : pfJ (-12) v v_2 = 1 := by simp [pfJ, c_2, c_3]
            obtain ⟨k1, k2, k3⟩ := GO_bi (c := -12) hs0 h (by rw [eT]; decide) go g2 go2 (by decide) (by decide)
            rw [ev] at k2
            have e : lpF b n joA sub (g + 1) s = lpF b n joA sub g (adP (-12) (sub (stP b n s)).2) := by
              show (if _ then _ else _) = _
              rw [hj, if_neg (by decide), if_pos hF]
            rw [e]
            exact ih _ _ _ _ _ k1 k2 ((hnm.fr f1).fr f2) ((hf.tr f1).tr f2) (by omega)
      · have g2 := r2.2 (Bool.eq_false_iff.mpr hF)
        refine wp_steps 2 (t' := (20, [some (.ref 84), some (.int v), some (.int v_2)], [.int v], (HD, m_2, w_2, mr))) rfl ?_
        refine wp_bI rfl (fun c_4 => ?_) (fun c_4 => ?_)
        · have c_4 : v = 0 := of_decide_eq_true c_4
          refine wp_steps 12 (t' := (12, [some (.ref 84), some (.int 0), some (.int v_2)], [.int 0, .int 0, .int 0, .int 0, .int 0, .int 100, .int 110, .int 97, .ref 84], (HD, m_2, w_2, mr))) rfl ?_
          refine wp_calv (as := [.int 97, .int 110, .int 100, .int 0, .int 0, .int 0, .int 0, .int 0]) rfl rfl rfl (Nat.le_of_ble_eq_true rfl) ⟨by decide, rfl⟩ ((r_word_b (ml := w_2) (mr := mr) g2.b)) (by omega) ?_
          rintro _ _ ⟨rfl, rfl⟩
          show aWP _ _ (13, [some (.ref 84), some (.int 0), some (.int v_2)], [.int 0], (HD, m_2, w_2, mr)) _
          refine wp_bI rfl (fun c_5 => ?_) (fun c_5 => ?_)
          rotate_left
          · have c_5 : ¬ ((0 : Int32) = 0) := of_decide_eq_false c_5
            exact absurd c_5 (by decide)
          have c_5 : (0 : Int32) = 0 := of_decide_eq_true c_5
          refine wp_steps 1 (t' := (29, [some (.ref 84), some (.int 0), some (.int v_2)], [.int 0], (HD, m_2, w_2, mr))) rfl ?_
          refine wp_ret rfl rfl ⟨⟨Nat.le_refl _, Nat.le_refl _⟩, ?_⟩
          have hj : joA s.2.2.1 = -12 := by rw [eT]; rfl
          have e : lpF b n joA sub (g + 1) s = (false, (sub (stP b n s)).2) := by
            show (if _ then _ else _) = _
            rw [hj, if_neg (by decide), if_neg hF]
          refine ⟨_, _, _, rfl, rfl, (hf.tr f1).tr f2, ?_⟩
          rw [e]
          exact ⟨fun z => Bool.noConfusion z, fun _ => g2⟩
        · have c_4 : ¬ (v = 0) := of_decide_eq_false c_4
          refine wp_steps 1 (t' := (22, [some (.ref 84), some (.int v), some (.int v_2)], [.int v_2], (HD, m_2, w_2, mr))) rfl ?_
          refine wp_bI rfl (fun c_6 => ?_) (fun c_6 => ?_)
          · have c_6 : v_2 = 0 := of_decide_eq_true c_6
            refine wp_steps 12 (t' := (12, [some (.ref 84), some (.int 0), some (.int v_2)], [.int 0, .int 0, .int 0, .int 0, .int 0, .int 100, .int 110, .int 97, .ref 84], (HD, m_2, w_2, mr))) rfl ?_
            refine wp_calv (as := [.int 97, .int 110, .int 100, .int 0, .int 0, .int 0, .int 0, .int 0]) rfl rfl rfl (Nat.le_of_ble_eq_true rfl) ⟨by decide, rfl⟩ ((r_word_b (ml := w_2) (mr := mr) g2.b)) (by omega) ?_
            rintro _ _ ⟨rfl, rfl⟩
            show aWP _ _ (13, [some (.ref 84), some (.int 0), some (.int v_2)], [.int 0], (HD, m_2, w_2, mr)) _
            refine wp_bI rfl (fun c_7 => ?_) (fun c_7 => ?_)
            rotate_left
            · have c_7 : ¬ ((0 : Int32) = 0) := of_decide_eq_false c_7
              exact absurd c_7 (by decide)
            have c_7 : (0 : Int32) = 0 := of_decide_eq_true c_7
            refine wp_steps 1 (t' := (29, [some (.ref 84), some (.int 0), some (.int v_2)], [.int 0], (HD, m_2, w_2, mr))) rfl ?_
            refine wp_ret rfl rfl ⟨⟨Nat.le_refl _, Nat.le_refl _⟩, ?_⟩
            have hj : joA s.2.2.1 = -12 := by rw [eT]; rfl
            have e : lpF b n joA sub (g + 1) s = (false, (sub (stP b n s)).2) := by
              show (if _ then _ else _) = _
              rw [hj, if_neg (by decide), if_neg hF]
            refine ⟨_, _, _, rfl, rfl, (hf.tr f1).tr f2, ?_⟩
            rw [e]
            exact ⟨fun z => Bool.noConfusion z, fun _ => g2⟩
          · have c_6 : ¬ (v_2 = 0) := of_decide_eq_false c_6
            refine wp_steps 13 (t' := (12, [some (.ref 84), some (.int 1), some (.int v_2)], [.int 0, .int 0, .int 0, .int 0, .int 0, .int 100, .int 110, .int 97, .ref 84], (HD, m_2, w_2, mr))) rfl ?_
            refine wp_calv (as := [.int 97, .int 110, .int 100, .int 0, .int 0, .int 0, .int 0, .int 0]) rfl rfl rfl (Nat.le_of_ble_eq_true rfl) ⟨by decide, rfl⟩ ((r_word_b (ml := w_2) (mr := mr) g2.b)) (by omega) ?_
            rintro _ _ ⟨rfl, rfl⟩
            show aWP _ _ (13, [some (.ref 84), some (.int 1), some (.int v_2)], [.int 0], (HD, m_2, w_2, mr)) _
            refine wp_bI rfl (fun c_8 => ?_) (fun c_8 => ?_)
            rotate_left
            · have c_8 : ¬ ((0 : Int32) = 0) := of_decide_eq_false c_8
              exact absurd c_8 (by decide)
            have c_8 : (0 : Int32) = 0 := of_decide_eq_true c_8
            refine wp_steps 1 (t' := (29, [some (.ref 84), some (.int 1), some (.int v_2)], [.int 1], (HD, m_2, w_2, mr))) rfl ?_
            refine wp_ret rfl rfl ⟨⟨Nat.le_refl _, Nat.le_refl _⟩, ?_⟩
            have hj : joA s.2.2.1 = -12 := by rw [eT]; rfl
            have e : lpF b n joA sub (g + 1) s = (false, (sub (stP b n s)).2) := by
              show (if _ then _ else _) = _
              rw [hj, if_neg (by decide), if_neg hF]
            refine ⟨_, _, _, rfl, rfl, (hf.tr f1).tr f2, ?_⟩
            rw [e]
            exact ⟨fun z => Bool.noConfusion z, fun _ => g2⟩
set_option maxRecDepth 20000 in
set_option maxHeartbeats 1000000 in
theorem r_both2 {X : aXt × Value} {mr : Nat → Nat → Option Nat} (hM : MRok mr) {b : Nat → Int32} {n t : Nat} (hnn : nnB b n) {nm : Nat → Int32} {d : Nat} (hd : 4 ≤ d) {sub : pF} (hsub : cwR X mr b n t 2 nm d 154 19 sub) : cwR X mr b n t 2 nm (d + 1) 155 20 (chF b n joA sub) := by
  intro m w s h hnm
  refine cw_of (cd := cd_X7_both2) (nL := 3) rfl rfl ?_
  show aWP _ _ (0, [some (.ref 84), none, none], [], (HD, m, w, mr)) _
  refine wp_steps 1 (t' := (1, [some (.ref 84), none, none], [.ref 84], (HD, m, w, mr))) rfl ?_
  refine wp_calv (as := []) rfl rfl rfl (Nat.le_of_ble_eq_true rfl) ⟨by decide, rfl⟩ ((hsub _ _ _ h hnm)) (by omega) ?_
  rintro _ _ ⟨v_2, m_2, w_2, rfl, rfl, f2, r2⟩
  show aWP _ _ (2, [some (.ref 84), none, none], [.int v_2], (HD, m_2, w_2, mr)) _
  by_cases hF : (sub s).1 = true
  · obtain ⟨g2, go2⟩ := r2.1 hF
    refine wp_steps 1 (t' := (3, [some (.ref 84), some (.int v_2), none], [], (HD, m_2, w_2, mr))) rfl ?_
    have e : chF b n joA sub s = lpF b n joA sub 160 (sub s).2 := if_pos hF
    rw [e]
    exact l_both2 hM hnn hd hsub h.2.2.1.2.2.2.2 160 _ _ _ _ _ g2 (go2.wk (by decide)) (hnm.fr f2) f2 (by have := g2.1.1.2.2.2; omega)
  · have g2 := r2.2 (Bool.eq_false_iff.mpr hF)
    refine wp_steps 10 (t' := (12, [some (.ref 84), some (.int v_2), none], [.int 0, .int 0, .int 0, .int 0, .int 0, .int 100, .int 110, .int 97, .ref 84], (HD, m_2, w_2, mr))) rfl ?_
    refine wp_calv (as := [.int 97, .int 110, .int 100, .int 0, .int 0, .int 0, .int 0, .int 0]) rfl rfl rfl (Nat.le_of_ble_eq_true rfl) ⟨by decide, rfl⟩ ((r_word_b (ml := w_2) (mr := mr) g2.b)) (by omega) ?_
    rintro _ _ ⟨rfl, rfl⟩
    show aWP _ _ (13, [some (.ref 84), some (.int v_2), none], [.int 0], (HD, m_2, w_2, mr)) _
    refine wp_bI rfl (fun c_1 => ?_) (fun c_1 => ?_)
    rotate_left
    · have c_1 : ¬ ((0 : Int32) = 0) := of_decide_eq_false c_1
      exact absurd c_1 (by decide)
    have c_1 : (0 : Int32) = 0 := of_decide_eq_true c_1
    refine wp_steps 1 (t' := (29, [some (.ref 84), some (.int v_2), none], [.int v_2], (HD, m_2, w_2, mr))) rfl ?_
    refine wp_ret rfl rfl ⟨⟨Nat.le_refl _, Nat.le_refl _⟩, ?_⟩
    have e : chF b n joA sub s = (false, (sub s).2) := if_neg hF
    refine ⟨_, _, _, rfl, rfl, f2, ?_⟩
    rw [e]
    exact ⟨fun z => Bool.noConfusion z, fun _ => g2⟩
set_option maxRecDepth 20000 in
set_option maxHeartbeats 1000000 in
theorem l_either2 {X : aXt × Value} {mr : Nat → Nat → Option Nat} (hM : MRok mr) {b : Nat → Int32} {n t : Nat} (hnn : nnB b n) {nm : Nat → Int32} {d : Nat} (hd : 4 ≤ d) {sub : pF} (hsub : cwR X mr b n t 2 nm d 155 20 sub) {s0 : pS} (hs0 : s0.2.2.2.2.length ≤ s0.1) {m0 : Nat → Nat → Int32} : ∀ (g : Nat) (v : Int32) (m : Nat → Nat → Int32) (w : Nat → Nat → Int64) (s : pS) (o1 : Option Value), RS b n t 2 m w s → GO nm 21 s0 s v → nmO m nm → frR m0 m → n ≤ s.1 + g → aWP (aEx (aTb X) d) cd_X7_either2 (3, [some (.ref 84), some (.int v), o1], [], (HD, m, w, mr)) (fun r h' => (HD.1 ≤ h'.1.1 ∧ HD.2.1 ≤ h'.1.2.1) ∧ ∃ v m' w', r = some (.int v) ∧ h' = (HD, m', w', mr) ∧ frR m0 m' ∧ RES b n t 2 nm 21 m' w' s0 (lpF b n joO sub g s) v) := by
  intro g
  induction g with
  | zero =>
    intro v m w s o1 h go hnm hf hg
    have h0 : s.2.2.1 = 0 := h.T.trans (lx_n (by omega))
    refine wp_steps 9 (t' := (12, [some (.ref 84), some (.int v), o1], [.int 0, .int 0, .int 0, .int 0, .int 0, .int 0, .int 114, .int 111, .ref 84], (HD, m, w, mr))) rfl ?_
    refine wp_calv (as := [.int 111, .int 114, .int 0, .int 0, .int 0, .int 0, .int 0, .int 0]) rfl rfl rfl (Nat.le_of_ble_eq_true rfl) ⟨by decide, rfl⟩ ((rw_or (ml := w) hM h)) (by omega) ?_
    rintro _ _ ⟨rfl, rfl⟩
    show aWP _ _ (13, [some (.ref 84), some (.int v), o1], [.int (if s.2.2.1 = 6 then (1 : Int32) else 0)], (HD, m, w, mr)) _
    refine wp_bI rfl (fun c_1 => ?_) (fun c_1 => ?_)
    rotate_left
    · have c_1 : ¬ ((if s.2.2.1 = 6 then (1 : Int32) else 0) = 0) := of_decide_eq_false c_1
      exact absurd (if_neg (by rw [h0]; decide)) c_1
    have c_1 : (if s.2.2.1 = 6 then (1 : Int32) else 0) = 0 := of_decide_eq_true c_1
    refine wp_steps 1 (t' := (29, [some (.ref 84), some (.int v), o1], [.int v], (HD, m, w, mr))) rfl ?_
    refine wp_ret rfl rfl ⟨⟨Nat.le_refl _, Nat.le_refl _⟩, ?_⟩
    have hj : joO s.2.2.1 = 0 := by simp [joO, i0_f c_1]
    have e : lpF b n joO sub 0 s = (true, s) := rfl
    refine ⟨_, _, _, rfl, rfl, hf, ?_⟩
    rw [e]
    exact ⟨fun _ => ⟨h, go⟩, fun z => Bool.noConfusion z⟩
  | succ g ih =>
    intro v m w s o1 h go hnm hf hg
    refine wp_steps 9 (t' := (12, [some (.ref 84), some (.int v), o1], [.int 0, .int 0, .int 0, .int 0, .int 0, .int 0, .int 114, .int 111, .ref 84], (HD, m, w, mr))) rfl ?_
    refine wp_calv (as := [.int 111, .int 114, .int 0, .int 0, .int 0, .int 0, .int 0, .int 0]) rfl rfl rfl (Nat.le_of_ble_eq_true rfl) ⟨by decide, rfl⟩ ((rw_or (ml := w) hM h)) (by omega) ?_
    rintro _ _ ⟨rfl, rfl⟩
    show aWP _ _ (13, [some (.ref 84), some (.int v), o1], [.int (if s.2.2.1 = 6 then (1 : Int32) else 0)], (HD, m, w, mr)) _
    refine wp_bI rfl (fun c_1 => ?_) (fun c_1 => ?_)
    · have c_1 : (if s.2.2.1 = 6 then (1 : Int32) else 0) = 0 := of_decide_eq_true c_1
      refine wp_steps 1 (t' := (29, [some (.ref 84), some (.int v), o1], [.int v], (HD, m, w, mr))) rfl ?_
      refine wp_ret rfl rfl ⟨⟨Nat.le_refl _, Nat.le_refl _⟩, ?_⟩
      have hj : joO s.2.2.1 = 0 := by simp [joO, i0_f c_1]
      have e : lpF b n joO sub (g + 1) s = (true, s) := if_pos hj
      refine ⟨_, _, _, rfl, rfl, hf, ?_⟩
      rw [e]
      exact ⟨fun _ => ⟨h, go⟩, fun z => Bool.noConfusion z⟩
    · have c_1 : ¬ ((if s.2.2.1 = 6 then (1 : Int32) else 0) = 0) := of_decide_eq_false c_1
      refine wp_steps 1 (t' := (15, [some (.ref 84), some (.int v), o1], [.ref 84], (HD, m, w, mr))) rfl ?_
      have eT : s.2.2.1 = 6 := i0_t c_1
      refine wp_calv (as := []) rfl rfl rfl (Nat.le_of_ble_eq_true rfl) ⟨by decide, rfl⟩ ((r_next (ml := w) hM h hnn (by rw [← h.T, eT]; decide))) (by omega) ?_
      rintro _ _ ⟨rfl, m_1, w_1, rfl, f1, g1⟩
      show aWP _ _ (16, [some (.ref 84), some (.int v), o1], [], (HD, m_1, w_1, mr)) _
      refine wp_steps 1 (t' := (17, [some (.ref 84), some (.int v), o1], [.ref 84], (HD, m_1, w_1, mr))) rfl ?_
      refine wp_calv (as := []) rfl rfl rfl (Nat.le_of_ble_eq_true rfl) ⟨by decide, rfl⟩ ((hsub _ _ _ g1 (hnm.fr f1))) (by omega) ?_
      rintro _ _ ⟨v_2, m_2, w_2, rfl, rfl, f2, r2⟩
      show aWP _ _ (18, [some (.ref 84), some (.int v), o1], [.int v_2], (HD, m_2, w_2, mr)) _
      by_cases hF : (sub (stP b n s)).1 = true
      · obtain ⟨g2, go2⟩ := r2.1 hF
        refine wp_steps 2 (t' := (20, [some (.ref 84), some (.int v), some (.int v_2)], [.int v], (HD, m_2, w_2, mr))) rfl ?_
        refine wp_bI rfl (fun c_2 => ?_) (fun c_2 => ?_)
        · have c_2 : ¬ v = 0 := of_decide_eq_true c_2
          refine wp_steps 4 (t' := (3, [some (.ref 84), some (.int 1), some (.int v_2)], [], (HD, m_2, w_2, mr))) rfl ?_
          have hj : joO s.2.2.1 = -11 := by rw [eT]; rfl
          have ev : pfJ (-11) v v_2 = 1 := by simp [pfJ, c_2]
          obtain ⟨k1, k2, k3⟩ := GO_bi (c := -11) hs0 h (by rw [eT]; decide) go g2 go2 (by decide) (by decide)
          rw [ev] at k2
          have e : lpF b n joO sub (g + 1) s = lpF b n joO sub g (adP (-11) (sub (stP b n s)).2) := by
            show (if _ then _ else _) = _
            rw [hj, if_neg (by decide), if_pos hF]
          rw [e]
          exact ih _ _ _ _ _ k1 k2 ((hnm.fr f1).fr f2) ((hf.tr f1).tr f2) (by omega)
        · have c_2 : v = 0 := Decidable.not_not.mp (of_decide_eq_false c_2)
          refine wp_steps 1 (t' := (22, [some (.ref 84), some (.int v), some (.int v_2)], [.int v_2], (HD, m_2, w_2, mr))) rfl ?_
          refine wp_bI rfl (fun c_3 => ?_) (fun c_3 => ?_)
          · have c_3 : v_2 = 0 := of_decide_eq_true c_3
            refine wp_steps 3 (t' := (3, [some (.ref 84), some (.int 0), some (.int v_2)], [], (HD, m_2, w_2, mr))) rfl ?_
            have hj : joO s.2.2.1 = -11 := by rw [eT]; rfl
            have ev : pfJ (-11) v v_2 = 0 := by simp [pfJ, c_2, c_3]
            obtain ⟨k1, k2, k3⟩ := GO_bi (c := -11) hs0 h (by rw [eT]; decide) go g2 go2 (by decide) (by decide)
            rw [ev] at k2
            have e : lpF b n joO sub (g + 1) s = lpF b n joO sub g (adP (-11) (sub (stP b n s)).2) := by
              show (if _ then _ else _) = _
              rw [hj, if_neg (by decide), if_pos hF]
            rw [e]
            exact ih _ _ _ _ _ k1 k2 ((hnm.fr f1).fr f2) ((hf.tr f1).tr f2) (by omega)
          · have c_3 : ¬ (v_2 = 0) := of_decide_eq_false c_3
            refine wp_steps 4 (t' := (3, [some (.ref 84), some (.int 1), some (.int v_2)], [], (HD, m_2, w_2, mr))) rfl ?_
            have hj : joO s.2.2.1 = -11 := by rw [eT]; rfl
            have ev : pfJ (-11) v v_2 = 1 := by simp [pfJ, c_2, c_3]
            obtain ⟨k1, k2, k3⟩ := GO_bi (c := -11) hs0 h (by rw [eT]; decide) go g2 go2 (by decide) (by decide)
            rw [ev] at k2
            have e : lpF b n joO sub (g + 1) s = lpF b n joO sub g (adP (-11) (sub (stP b n s)).2) := by
              show (if _ then _ else _) = _
              rw [hj, if_neg (by decide), if_pos hF]
            rw [e]
            exact ih _ _ _ _ _ k1 k2 ((hnm.fr f1).fr f2) ((hf.tr f1).tr f2) (by omega)
      · have g2 := r2.2 (Bool.eq_false_iff.mpr hF)
        refine wp_steps 2 (t' := (20, [some (.ref 84), some (.int v), some (.int v_2)], [.int v], (HD, m_2, w_2, mr))) rfl ?_
        refine wp_bI rfl (fun c_4 => ?_) (fun c_4 => ?_)
        · have c_4 : ¬ v = 0 := of_decide_eq_true c_4
          refine wp_steps 13 (t' := (12, [some (.ref 84), some (.int 1), some (.int v_2)], [.int 0, .int 0, .int 0, .int 0, .int 0, .int 0, .int 114, .int 111, .ref 84], (HD, m_2, w_2, mr))) rfl ?_
          refine wp_calv (as := [.int 111, .int 114, .int 0, .int 0, .int 0, .int 0, .int 0, .int 0]) rfl rfl rfl (Nat.le_of_ble_eq_true rfl) ⟨by decide, rfl⟩ ((r_word_b (ml := w_2) (mr := mr) g2.b)) (by omega) ?_
          rintro _ _ ⟨rfl, rfl⟩
          show aWP _ _ (13, [some (.ref 84), some (.int 1), some (.int v_2)], [.int 0], (HD, m_2, w_2, mr)) _
          refine wp_bI rfl (fun c_5 => ?_) (fun c_5 => ?_)
          rotate_left
          · have c_5 : ¬ ((0 : Int32) = 0) := of_decide_eq_false c_5
            exact absurd c_5 (by decide)
          have c_5 : (0 : Int32) = 0 := of_decide_eq_true c_5
          refine wp_steps 1 (t' := (29, [some (.ref 84), some (.int 1), some (.int v_2)], [.int 1], (HD, m_2, w_2, mr))) rfl ?_
          refine wp_ret rfl rfl ⟨⟨Nat.le_refl _, Nat.le_refl _⟩, ?_⟩
          have hj : joO s.2.2.1 = -11 := by rw [eT]; rfl
          have e : lpF b n joO sub (g + 1) s = (false, (sub (stP b n s)).2) := by
            show (if _ then _ else _) = _
            rw [hj, if_neg (by decide), if_neg hF]
          refine ⟨_, _, _, rfl, rfl, (hf.tr f1).tr f2, ?_⟩
          rw [e]
          exact ⟨fun z => Bool.noConfusion z, fun _ => g2⟩
        · have c_4 : v = 0 := Decidable.not_not.mp (of_decide_eq_false c_4)
          refine wp_steps 1 (t' := (22, [some (.ref 84), some (.int v), some (.int v_2)], [.int v_2], (HD, m_2, w_2, mr))) rfl ?_
          refine wp_bI rfl (fun c_6 => ?_) (fun c_6 => ?_)
          · have c_6 : v_2 = 0 := of_decide_eq_true c_6
            refine wp_steps 12 (t' := (12, [some (.ref 84), some (.int 0), some (.int v_2)], [.int 0, .int 0, .int 0, .int 0, .int 0, .int 0, .int 114, .int 111, .ref 84], (HD, m_2, w_2, mr))) rfl ?_
            refine wp_calv (as := [.int 111, .int 114, .int 0, .int 0, .int 0, .int 0, .int 0, .int 0]) rfl rfl rfl (Nat.le_of_ble_eq_true rfl) ⟨by decide, rfl⟩ ((r_word_b (ml := w_2) (mr := mr) g2.b)) (by omega) ?_
            rintro _ _ ⟨rfl, rfl⟩
            show aWP _ _ (13, [some (.ref 84), some (.int 0), some (.int v_2)], [.int 0], (HD, m_2, w_2, mr)) _
            refine wp_bI rfl (fun c_7 => ?_) (fun c_7 => ?_)
            rotate_left
            · have c_7 : ¬ ((0 : Int32) = 0) := of_decide_eq_false c_7
              exact absurd c_7 (by decide)
            have c_7 : (0 : Int32) = 0 := of_decide_eq_true c_7
            refine wp_steps 1 (t' := (29, [some (.ref 84), some (.int 0), some (.int v_2)], [.int 0], (HD, m_2, w_2, mr))) rfl ?_
            refine wp_ret rfl rfl ⟨⟨Nat.le_refl _, Nat.le_refl _⟩, ?_⟩
            have hj : joO s.2.2.1 = -11 := by rw [eT]; rfl
            have e : lpF b n joO sub (g + 1) s = (false, (sub (stP b n s)).2) := by
              show (if _ then _ else _) = _
              rw [hj, if_neg (by decide), if_neg hF]
            refine ⟨_, _, _, rfl, rfl, (hf.tr f1).tr f2, ?_⟩
            rw [e]
            exact ⟨fun z => Bool.noConfusion z, fun _ => g2⟩
          · have c_6 : ¬ (v_2 = 0) := of_decide_eq_false c_6
            refine wp_steps 13 (t' := (12, [some (.ref 84), some (.int 1), some (.int v_2)], [.int 0, .int 0, .int 0, .int 0, .int 0, .int 0, .int 114, .int 111, .ref 84], (HD, m_2, w_2, mr))) rfl ?_
            refine wp_calv (as := [.int 111, .int 114, .int 0, .int 0, .int 0, .int 0, .int 0, .int 0]) rfl rfl rfl (Nat.le_of_ble_eq_true rfl) ⟨by decide, rfl⟩ ((r_word_b (ml := w_2) (mr := mr) g2.b)) (by omega) ?_
            rintro _ _ ⟨rfl, rfl⟩
            show aWP _ _ (13, [some (.ref 84), some (.int 1), some (.int v_2)], [.int 0], (HD, m_2, w_2, mr)) _
            refine wp_bI rfl (fun c_8 => ?_) (fun c_8 => ?_)
            rotate_left
            · have c_8 : ¬ ((0 : Int32) = 0) := of_decide_eq_false c_8
              exact absurd c_8 (by decide)
            have c_8 : (0 : Int32) = 0 := of_decide_eq_true c_8
            refine wp_steps 1 (t' := (29, [some (.ref 84), some (.int 1), some (.int v_2)], [.int 1], (HD, m_2, w_2, mr))) rfl ?_
            refine wp_ret rfl rfl ⟨⟨Nat.le_refl _, Nat.le_refl _⟩, ?_⟩
            have hj : joO s.2.2.1 = -11 := by rw [eT]; rfl
            have e : lpF b n joO sub (g + 1) s = (false, (sub (stP b n s)).2) := by
              show (if _ then _ else _) = _
              rw [hj, if_neg (by decide), if_neg hF]
            refine ⟨_, _, _, rfl, rfl, (hf.tr f1).tr f2, ?_⟩
            rw [e]
            exact ⟨fun z => Bool.noConfusion z, fun _ => g2⟩
set_option maxRecDepth 20000 in
set_option maxHeartbeats 1000000 in
theorem r_either2 {X : aXt × Value} {mr : Nat → Nat → Option Nat} (hM : MRok mr) {b : Nat → Int32} {n t : Nat} (hnn : nnB b n) {nm : Nat → Int32} {d : Nat} (hd : 4 ≤ d) {sub : pF} (hsub : cwR X mr b n t 2 nm d 155 20 sub) : cwR X mr b n t 2 nm (d + 1) 156 21 (chF b n joO sub) := by
  intro m w s h hnm
  refine cw_of (cd := cd_X7_either2) (nL := 3) rfl rfl ?_
  show aWP _ _ (0, [some (.ref 84), none, none], [], (HD, m, w, mr)) _
  refine wp_steps 1 (t' := (1, [some (.ref 84), none, none], [.ref 84], (HD, m, w, mr))) rfl ?_
  refine wp_calv (as := []) rfl rfl rfl (Nat.le_of_ble_eq_true rfl) ⟨by decide, rfl⟩ ((hsub _ _ _ h hnm)) (by omega) ?_
  rintro _ _ ⟨v_2, m_2, w_2, rfl, rfl, f2, r2⟩
  show aWP _ _ (2, [some (.ref 84), none, none], [.int v_2], (HD, m_2, w_2, mr)) _
  by_cases hF : (sub s).1 = true
  · obtain ⟨g2, go2⟩ := r2.1 hF
    refine wp_steps 1 (t' := (3, [some (.ref 84), some (.int v_2), none], [], (HD, m_2, w_2, mr))) rfl ?_
    have e : chF b n joO sub s = lpF b n joO sub 160 (sub s).2 := if_pos hF
    rw [e]
    exact l_either2 hM hnn hd hsub h.2.2.1.2.2.2.2 160 _ _ _ _ _ g2 (go2.wk (by decide)) (hnm.fr f2) f2 (by have := g2.1.1.2.2.2; omega)
  · have g2 := r2.2 (Bool.eq_false_iff.mpr hF)
    refine wp_steps 10 (t' := (12, [some (.ref 84), some (.int v_2), none], [.int 0, .int 0, .int 0, .int 0, .int 0, .int 0, .int 114, .int 111, .ref 84], (HD, m_2, w_2, mr))) rfl ?_
    refine wp_calv (as := [.int 111, .int 114, .int 0, .int 0, .int 0, .int 0, .int 0, .int 0]) rfl rfl rfl (Nat.le_of_ble_eq_true rfl) ⟨by decide, rfl⟩ ((r_word_b (ml := w_2) (mr := mr) g2.b)) (by omega) ?_
    rintro _ _ ⟨rfl, rfl⟩
    show aWP _ _ (13, [some (.ref 84), some (.int v_2), none], [.int 0], (HD, m_2, w_2, mr)) _
    refine wp_bI rfl (fun c_1 => ?_) (fun c_1 => ?_)
    rotate_left
    · have c_1 : ¬ ((0 : Int32) = 0) := of_decide_eq_false c_1
      exact absurd c_1 (by decide)
    have c_1 : (0 : Int32) = 0 := of_decide_eq_true c_1
    refine wp_steps 1 (t' := (29, [some (.ref 84), some (.int v_2), none], [.int v_2], (HD, m_2, w_2, mr))) rfl ?_
    refine wp_ret rfl rfl ⟨⟨Nat.le_refl _, Nat.le_refl _⟩, ?_⟩
    have e : chF b n joO sub s = (false, (sub s).2) := if_neg hF
    refine ⟨_, _, _, rfl, rfl, f2, ?_⟩
    rw [e]
    exact ⟨fun z => Bool.noConfusion z, fun _ => g2⟩
set_option maxRecDepth 20000 in
set_option maxHeartbeats 1000000 in
theorem l_term1 {X : aXt × Value} {mr : Nat → Nat → Option Nat} (hM : MRok mr) {b : Nat → Int32} {n t : Nat} (hnn : nnB b n) {nm : Nat → Int32} {d : Nat} (hd : 4 ≤ d) {sub : pF} (hsub : cwR X mr b n t 1 nm d 157 21 sub) {s0 : pS} (hs0 : s0.2.2.2.2.length ≤ s0.1) {m0 : Nat → Nat → Int32} : ∀ (g : Nat) (v : Int32) (m : Nat → Nat → Int32) (w : Nat → Nat → Int64) (s : pS), RS b n t 1 m w s → GO nm 22 s0 s v → nmO m nm → frR m0 m → n ≤ s.1 + g → aWP (aEx (aTb X) d) cd_X7_term1 (3, [some (.ref 84), some (.int v)], [], (HD, m, w, mr)) (fun r h' => (HD.1 ≤ h'.1.1 ∧ HD.2.1 ≤ h'.1.2.1) ∧ ∃ v m' w', r = some (.int v) ∧ h' = (HD, m', w', mr) ∧ frR m0 m' ∧ RES b n t 1 nm 22 m' w' s0 (lpF b n joT sub g s) v) := by
  intro g
  induction g with
  | zero =>
    intro v m w s h go hnm hf hg
    have h0 : s.2.2.1 = 0 := h.T.trans (lx_n (by omega))
    refine wp_steps 2 (t' := (5, [some (.ref 84), some (.int v)], [.int 42, .ref 84], (HD, m, w, mr))) rfl ?_
    refine wp_calv (as := [.int 42]) rfl rfl rfl (Nat.le_of_ble_eq_true rfl) ⟨by decide, rfl⟩ ((r_sign (ml := w) hM h (c := 42) (by decide))) (by omega) ?_
    rintro _ _ ⟨rfl, rfl⟩
    show aWP _ _ (6, [some (.ref 84), some (.int v)], [.int (if s.2.2.1 = 42 then (1 : Int32) else 0)], (HD, m, w, mr)) _
    refine wp_bI rfl (fun c_1 => ?_) (fun c_1 => ?_)
    rotate_left
    · have c_1 : ¬ ((if s.2.2.1 = 42 then (1 : Int32) else 0) = 0) := of_decide_eq_false c_1
      exact absurd (if_neg (by rw [h0]; decide)) c_1
    have c_1 : (if s.2.2.1 = 42 then (1 : Int32) else 0) = 0 := of_decide_eq_true c_1
    refine wp_steps 1 (t' := (16, [some (.ref 84), some (.int v)], [.int v], (HD, m, w, mr))) rfl ?_
    refine wp_ret rfl rfl ⟨⟨Nat.le_refl _, Nat.le_refl _⟩, ?_⟩
    have hj : joT s.2.2.1 = 0 := by simp [joT, i0_f c_1]
    have e : lpF b n joT sub 0 s = (true, s) := rfl
    refine ⟨_, _, _, rfl, rfl, hf, ?_⟩
    rw [e]
    exact ⟨fun _ => ⟨h, go⟩, fun z => Bool.noConfusion z⟩
  | succ g ih =>
    intro v m w s h go hnm hf hg
    refine wp_steps 2 (t' := (5, [some (.ref 84), some (.int v)], [.int 42, .ref 84], (HD, m, w, mr))) rfl ?_
    refine wp_calv (as := [.int 42]) rfl rfl rfl (Nat.le_of_ble_eq_true rfl) ⟨by decide, rfl⟩ ((r_sign (ml := w) hM h (c := 42) (by decide))) (by omega) ?_
    rintro _ _ ⟨rfl, rfl⟩
    show aWP _ _ (6, [some (.ref 84), some (.int v)], [.int (if s.2.2.1 = 42 then (1 : Int32) else 0)], (HD, m, w, mr)) _
    refine wp_bI rfl (fun c_1 => ?_) (fun c_1 => ?_)
    · have c_1 : (if s.2.2.1 = 42 then (1 : Int32) else 0) = 0 := of_decide_eq_true c_1
      refine wp_steps 1 (t' := (16, [some (.ref 84), some (.int v)], [.int v], (HD, m, w, mr))) rfl ?_
      refine wp_ret rfl rfl ⟨⟨Nat.le_refl _, Nat.le_refl _⟩, ?_⟩
      have hj : joT s.2.2.1 = 0 := by simp [joT, i0_f c_1]
      have e : lpF b n joT sub (g + 1) s = (true, s) := if_pos hj
      refine ⟨_, _, _, rfl, rfl, hf, ?_⟩
      rw [e]
      exact ⟨fun _ => ⟨h, go⟩, fun z => Bool.noConfusion z⟩
    · have c_1 : ¬ ((if s.2.2.1 = 42 then (1 : Int32) else 0) = 0) := of_decide_eq_false c_1
      refine wp_steps 1 (t' := (8, [some (.ref 84), some (.int v)], [.ref 84], (HD, m, w, mr))) rfl ?_
      have eT : s.2.2.1 = 42 := i0_t c_1
      refine wp_calv (as := []) rfl rfl rfl (Nat.le_of_ble_eq_true rfl) ⟨by decide, rfl⟩ ((r_next (ml := w) hM h hnn (by rw [← h.T, eT]; decide))) (by omega) ?_
      rintro _ _ ⟨rfl, m_1, w_1, rfl, f1, g1⟩
      show aWP _ _ (9, [some (.ref 84), some (.int v)], [], (HD, m_1, w_1, mr)) _
      refine wp_steps 2 (t' := (11, [some (.ref 84), some (.int v)], [.ref 84, .int v], (HD, m_1, w_1, mr))) rfl ?_
      refine wp_calv (as := []) rfl rfl rfl (Nat.le_of_ble_eq_true rfl) ⟨by decide, rfl⟩ ((hsub _ _ _ g1 (hnm.fr f1))) (by omega) ?_
      rintro _ _ ⟨v_2, m_2, w_2, rfl, rfl, f2, r2⟩
      show aWP _ _ (12, [some (.ref 84), some (.int v)], [.int v_2, .int v], (HD, m_2, w_2, mr)) _
      by_cases hF : (sub (stP b n s)).1 = true
      · obtain ⟨g2, go2⟩ := r2.1 hF
        refine wp_steps 3 (t' := (3, [some (.ref 84), some (.int (v * v_2))], [], (HD, m_2, w_2, mr))) rfl ?_
        have hj : joT s.2.2.1 = -18 := by rw [eT]; rfl
        have ev : pfJ (-18) v v_2 = v * v_2 := rfl
        obtain ⟨k1, k2, k3⟩ := GO_bi (c := -18) hs0 h (by rw [eT]; decide) go g2 go2 (by decide) (by decide)
        rw [ev] at k2
        have e : lpF b n joT sub (g + 1) s = lpF b n joT sub g (adP (-18) (sub (stP b n s)).2) := by
          show (if _ then _ else _) = _
          rw [hj, if_neg (by decide), if_pos hF]
        rw [e]
        exact ih _ _ _ _ k1 k2 ((hnm.fr f1).fr f2) ((hf.tr f1).tr f2) (by omega)
      · have g2 := r2.2 (Bool.eq_false_iff.mpr hF)
        refine wp_steps 5 (t' := (5, [some (.ref 84), some (.int (v * v_2))], [.int 42, .ref 84], (HD, m_2, w_2, mr))) rfl ?_
        refine wp_calv (as := [.int 42]) rfl rfl rfl (Nat.le_of_ble_eq_true rfl) ⟨by decide, rfl⟩ ((r_sign_b (ml := w_2) (mr := mr) g2.b (c := 42))) (by omega) ?_
        rintro _ _ ⟨rfl, rfl⟩
        show aWP _ _ (6, [some (.ref 84), some (.int (v * v_2))], [.int 0], (HD, m_2, w_2, mr)) _
        refine wp_bI rfl (fun c_2 => ?_) (fun c_2 => ?_)
        rotate_left
        · have c_2 : ¬ ((0 : Int32) = 0) := of_decide_eq_false c_2
          exact absurd c_2 (by decide)
        have c_2 : (0 : Int32) = 0 := of_decide_eq_true c_2
        refine wp_steps 1 (t' := (16, [some (.ref 84), some (.int (v * v_2))], [.int (v * v_2)], (HD, m_2, w_2, mr))) rfl ?_
        refine wp_ret rfl rfl ⟨⟨Nat.le_refl _, Nat.le_refl _⟩, ?_⟩
        have hj : joT s.2.2.1 = -18 := by rw [eT]; rfl
        have e : lpF b n joT sub (g + 1) s = (false, (sub (stP b n s)).2) := by
          show (if _ then _ else _) = _
          rw [hj, if_neg (by decide), if_neg hF]
        refine ⟨_, _, _, rfl, rfl, (hf.tr f1).tr f2, ?_⟩
        rw [e]
        exact ⟨fun z => Bool.noConfusion z, fun _ => g2⟩
set_option maxRecDepth 20000 in
set_option maxHeartbeats 1000000 in
theorem r_term1 {X : aXt × Value} {mr : Nat → Nat → Option Nat} (hM : MRok mr) {b : Nat → Int32} {n t : Nat} (hnn : nnB b n) {nm : Nat → Int32} {d : Nat} (hd : 4 ≤ d) {sub : pF} (hsub : cwR X mr b n t 1 nm d 157 21 sub) : cwR X mr b n t 1 nm (d + 1) 158 22 (chF b n joT sub) := by
  intro m w s h hnm
  refine cw_of (cd := cd_X7_term1) (nL := 2) rfl rfl ?_
  show aWP _ _ (0, [some (.ref 84), none], [], (HD, m, w, mr)) _
  refine wp_steps 1 (t' := (1, [some (.ref 84), none], [.ref 84], (HD, m, w, mr))) rfl ?_
  refine wp_calv (as := []) rfl rfl rfl (Nat.le_of_ble_eq_true rfl) ⟨by decide, rfl⟩ ((hsub _ _ _ h hnm)) (by omega) ?_
  rintro _ _ ⟨v_2, m_2, w_2, rfl, rfl, f2, r2⟩
  show aWP _ _ (2, [some (.ref 84), none], [.int v_2], (HD, m_2, w_2, mr)) _
  by_cases hF : (sub s).1 = true
  · obtain ⟨g2, go2⟩ := r2.1 hF
    refine wp_steps 1 (t' := (3, [some (.ref 84), some (.int v_2)], [], (HD, m_2, w_2, mr))) rfl ?_
    have e : chF b n joT sub s = lpF b n joT sub 160 (sub s).2 := if_pos hF
    rw [e]
    exact l_term1 hM hnn hd hsub h.2.2.1.2.2.2.2 160 _ _ _ _ g2 (go2.wk (by decide)) (hnm.fr f2) f2 (by have := g2.1.1.2.2.2; omega)
  · have g2 := r2.2 (Bool.eq_false_iff.mpr hF)
    refine wp_steps 3 (t' := (5, [some (.ref 84), some (.int v_2)], [.int 42, .ref 84], (HD, m_2, w_2, mr))) rfl ?_
    refine wp_calv (as := [.int 42]) rfl rfl rfl (Nat.le_of_ble_eq_true rfl) ⟨by decide, rfl⟩ ((r_sign_b (ml := w_2) (mr := mr) g2.b (c := 42))) (by omega) ?_
    rintro _ _ ⟨rfl, rfl⟩
    show aWP _ _ (6, [some (.ref 84), some (.int v_2)], [.int 0], (HD, m_2, w_2, mr)) _
    refine wp_bI rfl (fun c_1 => ?_) (fun c_1 => ?_)
    rotate_left
    · have c_1 : ¬ ((0 : Int32) = 0) := of_decide_eq_false c_1
      exact absurd c_1 (by decide)
    have c_1 : (0 : Int32) = 0 := of_decide_eq_true c_1
    refine wp_steps 1 (t' := (16, [some (.ref 84), some (.int v_2)], [.int v_2], (HD, m_2, w_2, mr))) rfl ?_
    refine wp_ret rfl rfl ⟨⟨Nat.le_refl _, Nat.le_refl _⟩, ?_⟩
    have e : chF b n joT sub s = (false, (sub s).2) := if_neg hF
    refine ⟨_, _, _, rfl, rfl, f2, ?_⟩
    rw [e]
    exact ⟨fun z => Bool.noConfusion z, fun _ => g2⟩
set_option maxRecDepth 20000 in
set_option maxHeartbeats 1000000 in
theorem l_added1 {X : aXt × Value} {mr : Nat → Nat → Option Nat} (hM : MRok mr) {b : Nat → Int32} {n t : Nat} (hnn : nnB b n) {nm : Nat → Int32} {d : Nat} (hd : 4 ≤ d) {sub : pF} (hsub : cwR X mr b n t 1 nm d 158 22 sub) {s0 : pS} (hs0 : s0.2.2.2.2.length ≤ s0.1) {m0 : Nat → Nat → Int32} : ∀ (g : Nat) (v : Int32) (m : Nat → Nat → Int32) (w : Nat → Nat → Int64) (s : pS) (o1 o2 : Option Value), RS b n t 1 m w s → GO nm 23 s0 s v → nmO m nm → frR m0 m → n ≤ s.1 + g → aWP (aEx (aTb X) d) cd_X7_added1 (3, [some (.ref 84), some (.int v), o1, o2], [], (HD, m, w, mr)) (fun r h' => (HD.1 ≤ h'.1.1 ∧ HD.2.1 ≤ h'.1.2.1) ∧ ∃ v m' w', r = some (.int v) ∧ h' = (HD, m', w', mr) ∧ frR m0 m' ∧ RES b n t 1 nm 23 m' w' s0 (lpF b n joS sub g s) v) := by
  intro g
  induction g with
  | zero =>
    intro v m w s o1 o2 h go hnm hf hg
    have h0 : s.2.2.1 = 0 := h.T.trans (lx_n (by omega))
    refine wp_steps 2 (t' := (5, [some (.ref 84), some (.int v), o1, o2], [.int 43, .ref 84], (HD, m, w, mr))) rfl ?_
    refine wp_calv (as := [.int 43]) rfl rfl rfl (Nat.le_of_ble_eq_true rfl) ⟨by decide, rfl⟩ ((r_sign (ml := w) hM h (c := 43) (by decide))) (by omega) ?_
    rintro _ _ ⟨rfl, rfl⟩
    show aWP _ _ (6, [some (.ref 84), some (.int v), o1, o2], [.int (if s.2.2.1 = 43 then (1 : Int32) else 0)], (HD, m, w, mr)) _
    refine wp_bI rfl (fun c_1 => ?_) (fun c_1 => ?_)
    · have c_1 : ¬ (if s.2.2.1 = 43 then (1 : Int32) else 0) = 0 := of_decide_eq_true c_1
      exact absurd (if_neg (by rw [h0]; decide)) c_1
    have c_1 : (if s.2.2.1 = 43 then (1 : Int32) else 0) = 0 := Decidable.not_not.mp (of_decide_eq_false c_1)
    refine wp_steps 2 (t' := (9, [some (.ref 84), some (.int v), o1, o2], [.int 45, .ref 84], (HD, m, w, mr))) rfl ?_
    refine wp_calv (as := [.int 45]) rfl rfl rfl (Nat.le_of_ble_eq_true rfl) ⟨by decide, rfl⟩ ((r_sign (ml := w) hM h (c := 45) (by decide))) (by omega) ?_
    rintro _ _ ⟨rfl, rfl⟩
    show aWP _ _ (10, [some (.ref 84), some (.int v), o1, o2], [.int (if s.2.2.1 = 45 then (1 : Int32) else 0)], (HD, m, w, mr)) _
    refine wp_bI rfl (fun c_2 => ?_) (fun c_2 => ?_)
    rotate_left
    · have c_2 : ¬ ((if s.2.2.1 = 45 then (1 : Int32) else 0) = 0) := of_decide_eq_false c_2
      exact absurd (if_neg (by rw [h0]; decide)) c_2
    have c_2 : (if s.2.2.1 = 45 then (1 : Int32) else 0) = 0 := of_decide_eq_true c_2
    refine wp_steps 1 (t' := (37, [some (.ref 84), some (.int v), o1, o2], [.int v], (HD, m, w, mr))) rfl ?_
    refine wp_ret rfl rfl ⟨⟨Nat.le_refl _, Nat.le_refl _⟩, ?_⟩
    have hj : joS s.2.2.1 = 0 := by simp [joS, i0_f c_1, i0_f c_2]
    have e : lpF b n joS sub 0 s = (true, s) := rfl
    refine ⟨_, _, _, rfl, rfl, hf, ?_⟩
    rw [e]
    exact ⟨fun _ => ⟨h, go⟩, fun z => Bool.noConfusion z⟩
  | succ g ih =>
    intro v m w s o1 o2 h go hnm hf hg
    refine wp_steps 2 (t' := (5, [some (.ref 84), some (.int v), o1, o2], [.int 43, .ref 84], (HD, m, w, mr))) rfl ?_
    refine wp_calv (as := [.int 43]) rfl rfl rfl (Nat.le_of_ble_eq_true rfl) ⟨by decide, rfl⟩ ((r_sign (ml := w) hM h (c := 43) (by decide))) (by omega) ?_
    rintro _ _ ⟨rfl, rfl⟩
    show aWP _ _ (6, [some (.ref 84), some (.int v), o1, o2], [.int (if s.2.2.1 = 43 then (1 : Int32) else 0)], (HD, m, w, mr)) _
    refine wp_bI rfl (fun c_1 => ?_) (fun c_1 => ?_)
    · have c_1 : ¬ (if s.2.2.1 = 43 then (1 : Int32) else 0) = 0 := of_decide_eq_true c_1
      refine wp_steps 1 (t' := (12, [some (.ref 84), some (.int v), o1, o2], [.ref 84], (HD, m, w, mr))) rfl ?_
      refine wp_getl rfl ⟨by decide, rfl⟩ rfl ?_
      have ew : w 84 24 = (43 : Int32).toInt64 := h.sg (by decide) (i0_t c_1)
      rw [ew]
      refine wp_steps 2 (t' := (15, [some (.ref 84), some (.int v), o1, o2], [.int (lg_cmp ((43 : Int32).toInt64) 43)], (HD, m, w, mr))) rfl ?_
      refine wp_bI rfl (fun c_2 => ?_) (fun c_2 => ?_)
      · have c_2 : ¬ (lg_cmp ((43 : Int32).toInt64) 43) = 0 := of_decide_eq_true c_2
        exact absurd ((lg_cmp_eq _ _).mpr (by decide)) c_2
      have c_2 : (lg_cmp ((43 : Int32).toInt64) 43) = 0 := Decidable.not_not.mp (of_decide_eq_false c_2)
      refine wp_steps 4 (t' := (21, [some (.ref 84), some (.int v), some (.int 1), o2], [.ref 84], (HD, m, w, mr))) rfl ?_
      have eT : s.2.2.1 = 43 := i0_t c_1
      refine wp_calv (as := []) rfl rfl rfl (Nat.le_of_ble_eq_true rfl) ⟨by decide, rfl⟩ ((r_next (ml := w) hM h hnn (by rw [← h.T, eT]; decide))) (by omega) ?_
      rintro _ _ ⟨rfl, m_1, w_1, rfl, f1, g1⟩
      show aWP _ _ (22, [some (.ref 84), some (.int v), some (.int 1), o2], [], (HD, m_1, w_1, mr)) _
      refine wp_steps 1 (t' := (23, [some (.ref 84), some (.int v), some (.int 1), o2], [.ref 84], (HD, m_1, w_1, mr))) rfl ?_
      refine wp_calv (as := []) rfl rfl rfl (Nat.le_of_ble_eq_true rfl) ⟨by decide, rfl⟩ ((hsub _ _ _ g1 (hnm.fr f1))) (by omega) ?_
      rintro _ _ ⟨v_2, m_2, w_2, rfl, rfl, f2, r2⟩
      show aWP _ _ (24, [some (.ref 84), some (.int v), some (.int 1), o2], [.int v_2], (HD, m_2, w_2, mr)) _
      by_cases hF : (sub (stP b n s)).1 = true
      · obtain ⟨g2, go2⟩ := r2.1 hF
        refine wp_steps 2 (t' := (26, [some (.ref 84), some (.int v), some (.int 1), some (.int v_2)], [.int 1], (HD, m_2, w_2, mr))) rfl ?_
        refine wp_bI rfl (fun c_3 => ?_) (fun c_3 => ?_)
        · have c_3 : (1 : Int32) = 0 := of_decide_eq_true c_3
          exact absurd c_3 (by decide)
        have c_3 : ¬ ((1 : Int32) = 0) := of_decide_eq_false c_3
        refine wp_steps 6 (t' := (3, [some (.ref 84), some (.int (v + v_2)), some (.int 1), some (.int v_2)], [], (HD, m_2, w_2, mr))) rfl ?_
        have hj : joS s.2.2.1 = -16 := by rw [eT]; rfl
        have ev : pfJ (-16) v v_2 = v + v_2 := rfl
        obtain ⟨k1, k2, k3⟩ := GO_bi (c := -16) hs0 h (by rw [eT]; decide) go g2 go2 (by decide) (by decide)
        rw [ev] at k2
        have e : lpF b n joS sub (g + 1) s = lpF b n joS sub g (adP (-16) (sub (stP b n s)).2) := by
          show (if _ then _ else _) = _
          rw [hj, if_neg (by decide), if_pos hF]
        rw [e]
        exact ih _ _ _ _ _ _ k1 k2 ((hnm.fr f1).fr f2) ((hf.tr f1).tr f2) (by omega)
      · have g2 := r2.2 (Bool.eq_false_iff.mpr hF)
        refine wp_steps 2 (t' := (26, [some (.ref 84), some (.int v), some (.int 1), some (.int v_2)], [.int 1], (HD, m_2, w_2, mr))) rfl ?_
        refine wp_bI rfl (fun c_4 => ?_) (fun c_4 => ?_)
        · have c_4 : (1 : Int32) = 0 := of_decide_eq_true c_4
          exact absurd c_4 (by decide)
        have c_4 : ¬ ((1 : Int32) = 0) := of_decide_eq_false c_4
        refine wp_steps 8 (t' := (5, [some (.ref 84), some (.int (v + v_2)), some (.int 1), some (.int v_2)], [.int 43, .ref 84], (HD, m_2, w_2, mr))) rfl ?_
        refine wp_calv (as := [.int 43]) rfl rfl rfl (Nat.le_of_ble_eq_true rfl) ⟨by decide, rfl⟩ ((r_sign_b (ml := w_2) (mr := mr) g2.b (c := 43))) (by omega) ?_
        rintro _ _ ⟨rfl, rfl⟩
        show aWP _ _ (6, [some (.ref 84), some (.int (v + v_2)), some (.int 1), some (.int v_2)], [.int 0], (HD, m_2, w_2, mr)) _
        refine wp_bI rfl (fun c_5 => ?_) (fun c_5 => ?_)
        · have c_5 : ¬ (0 : Int32) = 0 := of_decide_eq_true c_5
          exact absurd c_5 (by decide)
        have c_5 : (0 : Int32) = 0 := Decidable.not_not.mp (of_decide_eq_false c_5)
        refine wp_steps 2 (t' := (9, [some (.ref 84), some (.int (v + v_2)), some (.int 1), some (.int v_2)], [.int 45, .ref 84], (HD, m_2, w_2, mr))) rfl ?_
        refine wp_calv (as := [.int 45]) rfl rfl rfl (Nat.le_of_ble_eq_true rfl) ⟨by decide, rfl⟩ ((r_sign_b (ml := w_2) (mr := mr) g2.b (c := 45))) (by omega) ?_
        rintro _ _ ⟨rfl, rfl⟩
        show aWP _ _ (10, [some (.ref 84), some (.int (v + v_2)), some (.int 1), some (.int v_2)], [.int 0], (HD, m_2, w_2, mr)) _
        refine wp_bI rfl (fun c_6 => ?_) (fun c_6 => ?_)
        rotate_left
        · have c_6 : ¬ ((0 : Int32) = 0) := of_decide_eq_false c_6
          exact absurd c_6 (by decide)
        have c_6 : (0 : Int32) = 0 := of_decide_eq_true c_6
        refine wp_steps 1 (t' := (37, [some (.ref 84), some (.int (v + v_2)), some (.int 1), some (.int v_2)], [.int (v + v_2)], (HD, m_2, w_2, mr))) rfl ?_
        refine wp_ret rfl rfl ⟨⟨Nat.le_refl _, Nat.le_refl _⟩, ?_⟩
        have hj : joS s.2.2.1 = -16 := by rw [eT]; rfl
        have e : lpF b n joS sub (g + 1) s = (false, (sub (stP b n s)).2) := by
          show (if _ then _ else _) = _
          rw [hj, if_neg (by decide), if_neg hF]
        refine ⟨_, _, _, rfl, rfl, (hf.tr f1).tr f2, ?_⟩
        rw [e]
        exact ⟨fun z => Bool.noConfusion z, fun _ => g2⟩
    · have c_1 : (if s.2.2.1 = 43 then (1 : Int32) else 0) = 0 := Decidable.not_not.mp (of_decide_eq_false c_1)
      refine wp_steps 2 (t' := (9, [some (.ref 84), some (.int v), o1, o2], [.int 45, .ref 84], (HD, m, w, mr))) rfl ?_
      refine wp_calv (as := [.int 45]) rfl rfl rfl (Nat.le_of_ble_eq_true rfl) ⟨by decide, rfl⟩ ((r_sign (ml := w) hM h (c := 45) (by decide))) (by omega) ?_
      rintro _ _ ⟨rfl, rfl⟩
      show aWP _ _ (10, [some (.ref 84), some (.int v), o1, o2], [.int (if s.2.2.1 = 45 then (1 : Int32) else 0)], (HD, m, w, mr)) _
      refine wp_bI rfl (fun c_7 => ?_) (fun c_7 => ?_)
      · have c_7 : (if s.2.2.1 = 45 then (1 : Int32) else 0) = 0 := of_decide_eq_true c_7
        refine wp_steps 1 (t' := (37, [some (.ref 84), some (.int v), o1, o2], [.int v], (HD, m, w, mr))) rfl ?_
        refine wp_ret rfl rfl ⟨⟨Nat.le_refl _, Nat.le_refl _⟩, ?_⟩
        have hj : joS s.2.2.1 = 0 := by simp [joS, i0_f c_1, i0_f c_7]
        have e : lpF b n joS sub (g + 1) s = (true, s) := if_pos hj
        refine ⟨_, _, _, rfl, rfl, hf, ?_⟩
        rw [e]
        exact ⟨fun _ => ⟨h, go⟩, fun z => Bool.noConfusion z⟩
      · have c_7 : ¬ ((if s.2.2.1 = 45 then (1 : Int32) else 0) = 0) := of_decide_eq_false c_7
        refine wp_steps 1 (t' := (12, [some (.ref 84), some (.int v), o1, o2], [.ref 84], (HD, m, w, mr))) rfl ?_
        refine wp_getl rfl ⟨by decide, rfl⟩ rfl ?_
        have ew : w 84 24 = (45 : Int32).toInt64 := h.sg (by decide) (i0_t c_7)
        rw [ew]
        refine wp_steps 2 (t' := (15, [some (.ref 84), some (.int v), o1, o2], [.int (lg_cmp ((45 : Int32).toInt64) 43)], (HD, m, w, mr))) rfl ?_
        refine wp_bI rfl (fun c_8 => ?_) (fun c_8 => ?_)
        rotate_left
        · have c_8 : (lg_cmp ((45 : Int32).toInt64) 43) = 0 := Decidable.not_not.mp (of_decide_eq_false c_8)
          exact absurd ((lg_cmp_eq _ _).mp c_8) (by decide)
        have c_8 : ¬ (lg_cmp ((45 : Int32).toInt64) 43) = 0 := of_decide_eq_true c_8
        refine wp_steps 3 (t' := (21, [some (.ref 84), some (.int v), some (.int 0), o2], [.ref 84], (HD, m, w, mr))) rfl ?_
        have eT : s.2.2.1 = 45 := i0_t c_7
        refine wp_calv (as := []) rfl rfl rfl (Nat.le_of_ble_eq_true rfl) ⟨by decide, rfl⟩ ((r_next (ml := w) hM h hnn (by rw [← h.T, eT]; decide))) (by omega) ?_
        rintro _ _ ⟨rfl, m_1, w_1, rfl, f1, g1⟩
        show aWP _ _ (22, [some (.ref 84), some (.int v), some (.int 0), o2], [], (HD, m_1, w_1, mr)) _
        refine wp_steps 1 (t' := (23, [some (.ref 84), some (.int v), some (.int 0), o2], [.ref 84], (HD, m_1, w_1, mr))) rfl ?_
        refine wp_calv (as := []) rfl rfl rfl (Nat.le_of_ble_eq_true rfl) ⟨by decide, rfl⟩ ((hsub _ _ _ g1 (hnm.fr f1))) (by omega) ?_
        rintro _ _ ⟨v_2, m_2, w_2, rfl, rfl, f2, r2⟩
        show aWP _ _ (24, [some (.ref 84), some (.int v), some (.int 0), o2], [.int v_2], (HD, m_2, w_2, mr)) _
        by_cases hF : (sub (stP b n s)).1 = true
        · obtain ⟨g2, go2⟩ := r2.1 hF
          refine wp_steps 2 (t' := (26, [some (.ref 84), some (.int v), some (.int 0), some (.int v_2)], [.int 0], (HD, m_2, w_2, mr))) rfl ?_
          refine wp_bI rfl (fun c_9 => ?_) (fun c_9 => ?_)
          rotate_left
          · have c_9 : ¬ ((0 : Int32) = 0) := of_decide_eq_false c_9
            exact absurd c_9 (by decide)
          have c_9 : (0 : Int32) = 0 := of_decide_eq_true c_9
          refine wp_steps 5 (t' := (3, [some (.ref 84), some (.int (v - v_2)), some (.int 0), some (.int v_2)], [], (HD, m_2, w_2, mr))) rfl ?_
          have hj : joS s.2.2.1 = -17 := by rw [eT]; rfl
          have ev : pfJ (-17) v v_2 = v - v_2 := rfl
          obtain ⟨k1, k2, k3⟩ := GO_bi (c := -17) hs0 h (by rw [eT]; decide) go g2 go2 (by decide) (by decide)
          rw [ev] at k2
          have e : lpF b n joS sub (g + 1) s = lpF b n joS sub g (adP (-17) (sub (stP b n s)).2) := by
            show (if _ then _ else _) = _
            rw [hj, if_neg (by decide), if_pos hF]
          rw [e]
          exact ih _ _ _ _ _ _ k1 k2 ((hnm.fr f1).fr f2) ((hf.tr f1).tr f2) (by omega)
        · have g2 := r2.2 (Bool.eq_false_iff.mpr hF)
          refine wp_steps 2 (t' := (26, [some (.ref 84), some (.int v), some (.int 0), some (.int v_2)], [.int 0], (HD, m_2, w_2, mr))) rfl ?_
          refine wp_bI rfl (fun c_10 => ?_) (fun c_10 => ?_)
          rotate_left
          · have c_10 : ¬ ((0 : Int32) = 0) := of_decide_eq_false c_10
            exact absurd c_10 (by decide)
          have c_10 : (0 : Int32) = 0 := of_decide_eq_true c_10
          refine wp_steps 7 (t' := (5, [some (.ref 84), some (.int (v - v_2)), some (.int 0), some (.int v_2)], [.int 43, .ref 84], (HD, m_2, w_2, mr))) rfl ?_
          refine wp_calv (as := [.int 43]) rfl rfl rfl (Nat.le_of_ble_eq_true rfl) ⟨by decide, rfl⟩ ((r_sign_b (ml := w_2) (mr := mr) g2.b (c := 43))) (by omega) ?_
          rintro _ _ ⟨rfl, rfl⟩
          show aWP _ _ (6, [some (.ref 84), some (.int (v - v_2)), some (.int 0), some (.int v_2)], [.int 0], (HD, m_2, w_2, mr)) _
          refine wp_bI rfl (fun c_11 => ?_) (fun c_11 => ?_)
          · have c_11 : ¬ (0 : Int32) = 0 := of_decide_eq_true c_11
            exact absurd c_11 (by decide)
          have c_11 : (0 : Int32) = 0 := Decidable.not_not.mp (of_decide_eq_false c_11)
          refine wp_steps 2 (t' := (9, [some (.ref 84), some (.int (v - v_2)), some (.int 0), some (.int v_2)], [.int 45, .ref 84], (HD, m_2, w_2, mr))) rfl ?_
          refine wp_calv (as := [.int 45]) rfl rfl rfl (Nat.le_of_ble_eq_true rfl) ⟨by decide, rfl⟩ ((r_sign_b (ml := w_2) (mr := mr) g2.b (c := 45))) (by omega) ?_
          rintro _ _ ⟨rfl, rfl⟩
          show aWP _ _ (10, [some (.ref 84), some (.int (v - v_2)), some (.int 0), some (.int v_2)], [.int 0], (HD, m_2, w_2, mr)) _
          refine wp_bI rfl (fun c_12 => ?_) (fun c_12 => ?_)
          rotate_left
          · have c_12 : ¬ ((0 : Int32) = 0) := of_decide_eq_false c_12
            exact absurd c_12 (by decide)
          have c_12 : (0 : Int32) = 0 := of_decide_eq_true c_12
          refine wp_steps 1 (t' := (37, [some (.ref 84), some (.int (v - v_2)), some (.int 0), some (.int v_2)], [.int (v - v_2)], (HD, m_2, w_2, mr))) rfl ?_
          refine wp_ret rfl rfl ⟨⟨Nat.le_refl _, Nat.le_refl _⟩, ?_⟩
          have hj : joS s.2.2.1 = -17 := by rw [eT]; rfl
          have e : lpF b n joS sub (g + 1) s = (false, (sub (stP b n s)).2) := by
            show (if _ then _ else _) = _
            rw [hj, if_neg (by decide), if_neg hF]
          refine ⟨_, _, _, rfl, rfl, (hf.tr f1).tr f2, ?_⟩
          rw [e]
          exact ⟨fun z => Bool.noConfusion z, fun _ => g2⟩
set_option maxRecDepth 20000 in
set_option maxHeartbeats 1000000 in
theorem r_added1 {X : aXt × Value} {mr : Nat → Nat → Option Nat} (hM : MRok mr) {b : Nat → Int32} {n t : Nat} (hnn : nnB b n) {nm : Nat → Int32} {d : Nat} (hd : 4 ≤ d) {sub : pF} (hsub : cwR X mr b n t 1 nm d 158 22 sub) : cwR X mr b n t 1 nm (d + 1) 159 23 (chF b n joS sub) := by
  intro m w s h hnm
  refine cw_of (cd := cd_X7_added1) (nL := 4) rfl rfl ?_
  show aWP _ _ (0, [some (.ref 84), none, none, none], [], (HD, m, w, mr)) _
  refine wp_steps 1 (t' := (1, [some (.ref 84), none, none, none], [.ref 84], (HD, m, w, mr))) rfl ?_
  refine wp_calv (as := []) rfl rfl rfl (Nat.le_of_ble_eq_true rfl) ⟨by decide, rfl⟩ ((hsub _ _ _ h hnm)) (by omega) ?_
  rintro _ _ ⟨v_2, m_2, w_2, rfl, rfl, f2, r2⟩
  show aWP _ _ (2, [some (.ref 84), none, none, none], [.int v_2], (HD, m_2, w_2, mr)) _
  by_cases hF : (sub s).1 = true
  · obtain ⟨g2, go2⟩ := r2.1 hF
    refine wp_steps 1 (t' := (3, [some (.ref 84), some (.int v_2), none, none], [], (HD, m_2, w_2, mr))) rfl ?_
    have e : chF b n joS sub s = lpF b n joS sub 160 (sub s).2 := if_pos hF
    rw [e]
    exact l_added1 hM hnn hd hsub h.2.2.1.2.2.2.2 160 _ _ _ _ _ _ g2 (go2.wk (by decide)) (hnm.fr f2) f2 (by have := g2.1.1.2.2.2; omega)
  · have g2 := r2.2 (Bool.eq_false_iff.mpr hF)
    refine wp_steps 3 (t' := (5, [some (.ref 84), some (.int v_2), none, none], [.int 43, .ref 84], (HD, m_2, w_2, mr))) rfl ?_
    refine wp_calv (as := [.int 43]) rfl rfl rfl (Nat.le_of_ble_eq_true rfl) ⟨by decide, rfl⟩ ((r_sign_b (ml := w_2) (mr := mr) g2.b (c := 43))) (by omega) ?_
    rintro _ _ ⟨rfl, rfl⟩
    show aWP _ _ (6, [some (.ref 84), some (.int v_2), none, none], [.int 0], (HD, m_2, w_2, mr)) _
    refine wp_bI rfl (fun c_1 => ?_) (fun c_1 => ?_)
    · have c_1 : ¬ (0 : Int32) = 0 := of_decide_eq_true c_1
      exact absurd c_1 (by decide)
    have c_1 : (0 : Int32) = 0 := Decidable.not_not.mp (of_decide_eq_false c_1)
    refine wp_steps 2 (t' := (9, [some (.ref 84), some (.int v_2), none, none], [.int 45, .ref 84], (HD, m_2, w_2, mr))) rfl ?_
    refine wp_calv (as := [.int 45]) rfl rfl rfl (Nat.le_of_ble_eq_true rfl) ⟨by decide, rfl⟩ ((r_sign_b (ml := w_2) (mr := mr) g2.b (c := 45))) (by omega) ?_
    rintro _ _ ⟨rfl, rfl⟩
    show aWP _ _ (10, [some (.ref 84), some (.int v_2), none, none], [.int 0], (HD, m_2, w_2, mr)) _
    refine wp_bI rfl (fun c_2 => ?_) (fun c_2 => ?_)
    rotate_left
    · have c_2 : ¬ ((0 : Int32) = 0) := of_decide_eq_false c_2
      exact absurd c_2 (by decide)
    have c_2 : (0 : Int32) = 0 := of_decide_eq_true c_2
    refine wp_steps 1 (t' := (37, [some (.ref 84), some (.int v_2), none, none], [.int v_2], (HD, m_2, w_2, mr))) rfl ?_
    refine wp_ret rfl rfl ⟨⟨Nat.le_refl _, Nat.le_refl _⟩, ?_⟩
    have e : chF b n joS sub s = (false, (sub s).2) := if_neg hF
    refine ⟨_, _, _, rfl, rfl, f2, ?_⟩
    rw [e]
    exact ⟨fun z => Bool.noConfusion z, fun _ => g2⟩
set_option maxRecDepth 20000 in
set_option maxHeartbeats 1000000 in
theorem l_both1 {X : aXt × Value} {mr : Nat → Nat → Option Nat} (hM : MRok mr) {b : Nat → Int32} {n t : Nat} (hnn : nnB b n) {nm : Nat → Int32} {d : Nat} (hd : 4 ≤ d) {sub : pF} (hsub : cwR X mr b n t 1 nm d 160 24 sub) {s0 : pS} (hs0 : s0.2.2.2.2.length ≤ s0.1) {m0 : Nat → Nat → Int32} : ∀ (g : Nat) (v : Int32) (m : Nat → Nat → Int32) (w : Nat → Nat → Int64) (s : pS) (o1 : Option Value), RS b n t 1 m w s → GO nm 25 s0 s v → nmO m nm → frR m0 m → n ≤ s.1 + g → aWP (aEx (aTb X) d) cd_X7_both1 (3, [some (.ref 84), some (.int v), o1], [], (HD, m, w, mr)) (fun r h' => (HD.1 ≤ h'.1.1 ∧ HD.2.1 ≤ h'.1.2.1) ∧ ∃ v m' w', r = some (.int v) ∧ h' = (HD, m', w', mr) ∧ frR m0 m' ∧ RES b n t 1 nm 25 m' w' s0 (lpF b n joA sub g s) v) := by
  intro g
  induction g with
  | zero =>
    intro v m w s o1 h go hnm hf hg
    have h0 : s.2.2.1 = 0 := h.T.trans (lx_n (by omega))
    refine wp_steps 9 (t' := (12, [some (.ref 84), some (.int v), o1], [.int 0, .int 0, .int 0, .int 0, .int 0, .int 100, .int 110, .int 97, .ref 84], (HD, m, w, mr))) rfl ?_
    refine wp_calv (as := [.int 97, .int 110, .int 100, .int 0, .int 0, .int 0, .int 0, .int 0]) rfl rfl rfl (Nat.le_of_ble_eq_true rfl) ⟨by decide, rfl⟩ ((rw_and (ml := w) hM h)) (by omega) ?_
    rintro _ _ ⟨rfl, rfl⟩
    show aWP _ _ (13, [some (.ref 84), some (.int v), o1], [.int (if s.2.2.1 = 7 then (1 : Int32) else 0)], (HD, m, w, mr)) _
    refine wp_bI rfl (fun c_1 => ?_) (fun c_1 => ?_)
    rotate_left
    · have c_1 : ¬ ((if s.2.2.1 = 7 then (1 : Int32) else 0) = 0) := of_decide_eq_false c_1
      exact absurd (if_neg (by rw [h0]; decide)) c_1
    have c_1 : (if s.2.2.1 = 7 then (1 : Int32) else 0) = 0 := of_decide_eq_true c_1
    refine wp_steps 1 (t' := (29, [some (.ref 84), some (.int v), o1], [.int v], (HD, m, w, mr))) rfl ?_
    refine wp_ret rfl rfl ⟨⟨Nat.le_refl _, Nat.le_refl _⟩, ?_⟩
    have hj : joA s.2.2.1 = 0 := by simp [joA, i0_f c_1]
    have e : lpF b n joA sub 0 s = (true, s) := rfl
    refine ⟨_, _, _, rfl, rfl, hf, ?_⟩
    rw [e]
    exact ⟨fun _ => ⟨h, go⟩, fun z => Bool.noConfusion z⟩
  | succ g ih =>
    intro v m w s o1 h go hnm hf hg
    refine wp_steps 9 (t' := (12, [some (.ref 84), some (.int v), o1], [.int 0, .int 0, .int 0, .int 0, .int 0, .int 100, .int 110, .int 97, .ref 84], (HD, m, w, mr))) rfl ?_
    refine wp_calv (as := [.int 97, .int 110, .int 100, .int 0, .int 0, .int 0, .int 0, .int 0]) rfl rfl rfl (Nat.le_of_ble_eq_true rfl) ⟨by decide, rfl⟩ ((rw_and (ml := w) hM h)) (by omega) ?_
    rintro _ _ ⟨rfl, rfl⟩
    show aWP _ _ (13, [some (.ref 84), some (.int v), o1], [.int (if s.2.2.1 = 7 then (1 : Int32) else 0)], (HD, m, w, mr)) _
    refine wp_bI rfl (fun c_1 => ?_) (fun c_1 => ?_)
    · have c_1 : (if s.2.2.1 = 7 then (1 : Int32) else 0) = 0 := of_decide_eq_true c_1
      refine wp_steps 1 (t' := (29, [some (.ref 84), some (.int v), o1], [.int v], (HD, m, w, mr))) rfl ?_
      refine wp_ret rfl rfl ⟨⟨Nat.le_refl _, Nat.le_refl _⟩, ?_⟩
      have hj : joA s.2.2.1 = 0 := by simp [joA, i0_f c_1]
      have e : lpF b n joA sub (g + 1) s = (true, s) := if_pos hj
      refine ⟨_, _, _, rfl, rfl, hf, ?_⟩
      rw [e]
      exact ⟨fun _ => ⟨h, go⟩, fun z => Bool.noConfusion z⟩
    · have c_1 : ¬ ((if s.2.2.1 = 7 then (1 : Int32) else 0) = 0) := of_decide_eq_false c_1
      refine wp_steps 1 (t' := (15, [some (.ref 84), some (.int v), o1], [.ref 84], (HD, m, w, mr))) rfl ?_
      have eT : s.2.2.1 = 7 := i0_t c_1
      refine wp_calv (as := []) rfl rfl rfl (Nat.le_of_ble_eq_true rfl) ⟨by decide, rfl⟩ ((r_next (ml := w) hM h hnn (by rw [← h.T, eT]; decide))) (by omega) ?_
      rintro _ _ ⟨rfl, m_1, w_1, rfl, f1, g1⟩
      show aWP _ _ (16, [some (.ref 84), some (.int v), o1], [], (HD, m_1, w_1, mr)) _
      refine wp_steps 1 (t' := (17, [some (.ref 84), some (.int v), o1], [.ref 84], (HD, m_1, w_1, mr))) rfl ?_
      refine wp_calv (as := []) rfl rfl rfl (Nat.le_of_ble_eq_true rfl) ⟨by decide, rfl⟩ ((hsub _ _ _ g1 (hnm.fr f1))) (by omega) ?_
      rintro _ _ ⟨v_2, m_2, w_2, rfl, rfl, f2, r2⟩
      show aWP _ _ (18, [some (.ref 84), some (.int v), o1], [.int v_2], (HD, m_2, w_2, mr)) _
      by_cases hF : (sub (stP b n s)).1 = true
      · obtain ⟨g2, go2⟩ := r2.1 hF
        refine wp_steps 2 (t' := (20, [some (.ref 84), some (.int v), some (.int v_2)], [.int v], (HD, m_2, w_2, mr))) rfl ?_
        refine wp_bI rfl (fun c_2 => ?_) (fun c_2 => ?_)
        · have c_2 : v = 0 := of_decide_eq_true c_2
          refine wp_steps 3 (t' := (3, [some (.ref 84), some (.int 0), some (.int v_2)], [], (HD, m_2, w_2, mr))) rfl ?_
          have hj : joA s.2.2.1 = -12 := by rw [eT]; rfl
          have ev : pfJ (-12) v v_2 = 0 := by simp [pfJ, c_2]
          obtain ⟨k1, k2, k3⟩ := GO_bi (c := -12) hs0 h (by rw [eT]; decide) go g2 go2 (by decide) (by decide)
          rw [ev] at k2
          have e : lpF b n joA sub (g + 1) s = lpF b n joA sub g (adP (-12) (sub (stP b n s)).2) := by
            show (if _ then _ else _) = _
            rw [hj, if_neg (by decide), if_pos hF]
          rw [e]
          exact ih _ _ _ _ _ k1 k2 ((hnm.fr f1).fr f2) ((hf.tr f1).tr f2) (by omega)
        · have c_2 : ¬ (v = 0) := of_decide_eq_false c_2
          refine wp_steps 1 (t' := (22, [some (.ref 84), some (.int v), some (.int v_2)], [.int v_2], (HD, m_2, w_2, mr))) rfl ?_
          refine wp_bI rfl (fun c_3 => ?_) (fun c_3 => ?_)
          · have c_3 : v_2 = 0 := of_decide_eq_true c_3
            refine wp_steps 3 (t' := (3, [some (.ref 84), some (.int 0), some (.int v_2)], [], (HD, m_2, w_2, mr))) rfl ?_
            have hj : joA s.2.2.1 = -12 := by rw [eT]; rfl
            have ev : pfJ (-12) v v_2 = 0 := by simp [pfJ, c_2, c_3]
            obtain ⟨k1, k2, k3⟩ := GO_bi (c := -12) hs0 h (by rw [eT]; decide) go g2 go2 (by decide) (by decide)
            rw [ev] at k2
            have e : lpF b n joA sub (g + 1) s = lpF b n joA sub g (adP (-12) (sub (stP b n s)).2) := by
              show (if _ then _ else _) = _
              rw [hj, if_neg (by decide), if_pos hF]
            rw [e]
            exact ih _ _ _ _ _ k1 k2 ((hnm.fr f1).fr f2) ((hf.tr f1).tr f2) (by omega)
          · have c_3 : ¬ (v_2 = 0) := of_decide_eq_false c_3
            refine wp_steps 4 (t' := (3, [some (.ref 84), some (.int 1), some (.int v_2)], [], (HD, m_2, w_2, mr))) rfl ?_
            have hj : joA s.2.2.1 = -12 := by rw [eT]; rfl
            have ev : pfJ (-12) v v_2 = 1 := by simp [pfJ, c_2, c_3]
            obtain ⟨k1, k2, k3⟩ := GO_bi (c := -12) hs0 h (by rw [eT]; decide) go g2 go2 (by decide) (by decide)
            rw [ev] at k2
            have e : lpF b n joA sub (g + 1) s = lpF b n joA sub g (adP (-12) (sub (stP b n s)).2) := by
              show (if _ then _ else _) = _
              rw [hj, if_neg (by decide), if_pos hF]
            rw [e]
            exact ih _ _ _ _ _ k1 k2 ((hnm.fr f1).fr f2) ((hf.tr f1).tr f2) (by omega)
      · have g2 := r2.2 (Bool.eq_false_iff.mpr hF)
        refine wp_steps 2 (t' := (20, [some (.ref 84), some (.int v), some (.int v_2)], [.int v], (HD, m_2, w_2, mr))) rfl ?_
        refine wp_bI rfl (fun c_4 => ?_) (fun c_4 => ?_)
        · have c_4 : v = 0 := of_decide_eq_true c_4
          refine wp_steps 12 (t' := (12, [some (.ref 84), some (.int 0), some (.int v_2)], [.int 0, .int 0, .int 0, .int 0, .int 0, .int 100, .int 110, .int 97, .ref 84], (HD, m_2, w_2, mr))) rfl ?_
          refine wp_calv (as := [.int 97, .int 110, .int 100, .int 0, .int 0, .int 0, .int 0, .int 0]) rfl rfl rfl (Nat.le_of_ble_eq_true rfl) ⟨by decide, rfl⟩ ((r_word_b (ml := w_2) (mr := mr) g2.b)) (by omega) ?_
          rintro _ _ ⟨rfl, rfl⟩
          show aWP _ _ (13, [some (.ref 84), some (.int 0), some (.int v_2)], [.int 0], (HD, m_2, w_2, mr)) _
          refine wp_bI rfl (fun c_5 => ?_) (fun c_5 => ?_)
          rotate_left
          · have c_5 : ¬ ((0 : Int32) = 0) := of_decide_eq_false c_5
            exact absurd c_5 (by decide)
          have c_5 : (0 : Int32) = 0 := of_decide_eq_true c_5
          refine wp_steps 1 (t' := (29, [some (.ref 84), some (.int 0), some (.int v_2)], [.int 0], (HD, m_2, w_2, mr))) rfl ?_
          refine wp_ret rfl rfl ⟨⟨Nat.le_refl _, Nat.le_refl _⟩, ?_⟩
          have hj : joA s.2.2.1 = -12 := by rw [eT]; rfl
          have e : lpF b n joA sub (g + 1) s = (false, (sub (stP b n s)).2) := by
            show (if _ then _ else _) = _
            rw [hj, if_neg (by decide), if_neg hF]
          refine ⟨_, _, _, rfl, rfl, (hf.tr f1).tr f2, ?_⟩
          rw [e]
          exact ⟨fun z => Bool.noConfusion z, fun _ => g2⟩
        · have c_4 : ¬ (v = 0) := of_decide_eq_false c_4
          refine wp_steps 1 (t' := (22, [some (.ref 84), some (.int v), some (.int v_2)], [.int v_2], (HD, m_2, w_2, mr))) rfl ?_
          refine wp_bI rfl (fun c_6 => ?_) (fun c_6 => ?_)
          · have c_6 : v_2 = 0 := of_decide_eq_true c_6
            refine wp_steps 12 (t' := (12, [some (.ref 84), some (.int 0), some (.int v_2)], [.int 0, .int 0, .int 0, .int 0, .int 0, .int 100, .int 110, .int 97, .ref 84], (HD, m_2, w_2, mr))) rfl ?_
            refine wp_calv (as := [.int 97, .int 110, .int 100, .int 0, .int 0, .int 0, .int 0, .int 0]) rfl rfl rfl (Nat.le_of_ble_eq_true rfl) ⟨by decide, rfl⟩ ((r_word_b (ml := w_2) (mr := mr) g2.b)) (by omega) ?_
            rintro _ _ ⟨rfl, rfl⟩
            show aWP _ _ (13, [some (.ref 84), some (.int 0), some (.int v_2)], [.int 0], (HD, m_2, w_2, mr)) _
            refine wp_bI rfl (fun c_7 => ?_) (fun c_7 => ?_)
            rotate_left
            · have c_7 : ¬ ((0 : Int32) = 0) := of_decide_eq_false c_7
              exact absurd c_7 (by decide)
            have c_7 : (0 : Int32) = 0 := of_decide_eq_true c_7
            refine wp_steps 1 (t' := (29, [some (.ref 84), some (.int 0), some (.int v_2)], [.int 0], (HD, m_2, w_2, mr))) rfl ?_
            refine wp_ret rfl rfl ⟨⟨Nat.le_refl _, Nat.le_refl _⟩, ?_⟩
            have hj : joA s.2.2.1 = -12 := by rw [eT]; rfl
            have e : lpF b n joA sub (g + 1) s = (false, (sub (stP b n s)).2) := by
              show (if _ then _ else _) = _
              rw [hj, if_neg (by decide), if_neg hF]
            refine ⟨_, _, _, rfl, rfl, (hf.tr f1).tr f2, ?_⟩
            rw [e]
            exact ⟨fun z => Bool.noConfusion z, fun _ => g2⟩
          · have c_6 : ¬ (v_2 = 0) := of_decide_eq_false c_6
            refine wp_steps 13 (t' := (12, [some (.ref 84), some (.int 1), some (.int v_2)], [.int 0, .int 0, .int 0, .int 0, .int 0, .int 100, .int 110, .int 97, .ref 84], (HD, m_2, w_2, mr))) rfl ?_
            refine wp_calv (as := [.int 97, .int 110, .int 100, .int 0, .int 0, .int 0, .int 0, .int 0]) rfl rfl rfl (Nat.le_of_ble_eq_true rfl) ⟨by decide, rfl⟩ ((r_word_b (ml := w_2) (mr := mr) g2.b)) (by omega) ?_
            rintro _ _ ⟨rfl, rfl⟩
            show aWP _ _ (13, [some (.ref 84), some (.int 1), some (.int v_2)], [.int 0], (HD, m_2, w_2, mr)) _
            refine wp_bI rfl (fun c_8 => ?_) (fun c_8 => ?_)
            rotate_left
            · have c_8 : ¬ ((0 : Int32) = 0) := of_decide_eq_false c_8
              exact absurd c_8 (by decide)
            have c_8 : (0 : Int32) = 0 := of_decide_eq_true c_8
            refine wp_steps 1 (t' := (29, [some (.ref 84), some (.int 1), some (.int v_2)], [.int 1], (HD, m_2, w_2, mr))) rfl ?_
            refine wp_ret rfl rfl ⟨⟨Nat.le_refl _, Nat.le_refl _⟩, ?_⟩
            have hj : joA s.2.2.1 = -12 := by rw [eT]; rfl
            have e : lpF b n joA sub (g + 1) s = (false, (sub (stP b n s)).2) := by
              show (if _ then _ else _) = _
              rw [hj, if_neg (by decide), if_neg hF]
            refine ⟨_, _, _, rfl, rfl, (hf.tr f1).tr f2, ?_⟩
            rw [e]
            exact ⟨fun z => Bool.noConfusion z, fun _ => g2⟩
set_option maxRecDepth 20000 in
set_option maxHeartbeats 1000000 in
theorem r_both1 {X : aXt × Value} {mr : Nat → Nat → Option Nat} (hM : MRok mr) {b : Nat → Int32} {n t : Nat} (hnn : nnB b n) {nm : Nat → Int32} {d : Nat} (hd : 4 ≤ d) {sub : pF} (hsub : cwR X mr b n t 1 nm d 160 24 sub) : cwR X mr b n t 1 nm (d + 1) 161 25 (chF b n joA sub) := by
  intro m w s h hnm
  refine cw_of (cd := cd_X7_both1) (nL := 3) rfl rfl ?_
  show aWP _ _ (0, [some (.ref 84), none, none], [], (HD, m, w, mr)) _
  refine wp_steps 1 (t' := (1, [some (.ref 84), none, none], [.ref 84], (HD, m, w, mr))) rfl ?_
  refine wp_calv (as := []) rfl rfl rfl (Nat.le_of_ble_eq_true rfl) ⟨by decide, rfl⟩ ((hsub _ _ _ h hnm)) (by omega) ?_
  rintro _ _ ⟨v_2, m_2, w_2, rfl, rfl, f2, r2⟩
  show aWP _ _ (2, [some (.ref 84), none, none], [.int v_2], (HD, m_2, w_2, mr)) _
  by_cases hF : (sub s).1 = true
  · obtain ⟨g2, go2⟩ := r2.1 hF
    refine wp_steps 1 (t' := (3, [some (.ref 84), some (.int v_2), none], [], (HD, m_2, w_2, mr))) rfl ?_
    have e : chF b n joA sub s = lpF b n joA sub 160 (sub s).2 := if_pos hF
    rw [e]
    exact l_both1 hM hnn hd hsub h.2.2.1.2.2.2.2 160 _ _ _ _ _ g2 (go2.wk (by decide)) (hnm.fr f2) f2 (by have := g2.1.1.2.2.2; omega)
  · have g2 := r2.2 (Bool.eq_false_iff.mpr hF)
    refine wp_steps 10 (t' := (12, [some (.ref 84), some (.int v_2), none], [.int 0, .int 0, .int 0, .int 0, .int 0, .int 100, .int 110, .int 97, .ref 84], (HD, m_2, w_2, mr))) rfl ?_
    refine wp_calv (as := [.int 97, .int 110, .int 100, .int 0, .int 0, .int 0, .int 0, .int 0]) rfl rfl rfl (Nat.le_of_ble_eq_true rfl) ⟨by decide, rfl⟩ ((r_word_b (ml := w_2) (mr := mr) g2.b)) (by omega) ?_
    rintro _ _ ⟨rfl, rfl⟩
    show aWP _ _ (13, [some (.ref 84), some (.int v_2), none], [.int 0], (HD, m_2, w_2, mr)) _
    refine wp_bI rfl (fun c_1 => ?_) (fun c_1 => ?_)
    rotate_left
    · have c_1 : ¬ ((0 : Int32) = 0) := of_decide_eq_false c_1
      exact absurd c_1 (by decide)
    have c_1 : (0 : Int32) = 0 := of_decide_eq_true c_1
    refine wp_steps 1 (t' := (29, [some (.ref 84), some (.int v_2), none], [.int v_2], (HD, m_2, w_2, mr))) rfl ?_
    refine wp_ret rfl rfl ⟨⟨Nat.le_refl _, Nat.le_refl _⟩, ?_⟩
    have e : chF b n joA sub s = (false, (sub s).2) := if_neg hF
    refine ⟨_, _, _, rfl, rfl, f2, ?_⟩
    rw [e]
    exact ⟨fun z => Bool.noConfusion z, fun _ => g2⟩
set_option maxRecDepth 20000 in
set_option maxHeartbeats 1000000 in
theorem l_either1 {X : aXt × Value} {mr : Nat → Nat → Option Nat} (hM : MRok mr) {b : Nat → Int32} {n t : Nat} (hnn : nnB b n) {nm : Nat → Int32} {d : Nat} (hd : 4 ≤ d) {sub : pF} (hsub : cwR X mr b n t 1 nm d 161 25 sub) {s0 : pS} (hs0 : s0.2.2.2.2.length ≤ s0.1) {m0 : Nat → Nat → Int32} : ∀ (g : Nat) (v : Int32) (m : Nat → Nat → Int32) (w : Nat → Nat → Int64) (s : pS) (o1 : Option Value), RS b n t 1 m w s → GO nm 26 s0 s v → nmO m nm → frR m0 m → n ≤ s.1 + g → aWP (aEx (aTb X) d) cd_X7_either1 (3, [some (.ref 84), some (.int v), o1], [], (HD, m, w, mr)) (fun r h' => (HD.1 ≤ h'.1.1 ∧ HD.2.1 ≤ h'.1.2.1) ∧ ∃ v m' w', r = some (.int v) ∧ h' = (HD, m', w', mr) ∧ frR m0 m' ∧ RES b n t 1 nm 26 m' w' s0 (lpF b n joO sub g s) v) := by
  intro g
  induction g with
  | zero =>
    intro v m w s o1 h go hnm hf hg
    have h0 : s.2.2.1 = 0 := h.T.trans (lx_n (by omega))
    refine wp_steps 9 (t' := (12, [some (.ref 84), some (.int v), o1], [.int 0, .int 0, .int 0, .int 0, .int 0, .int 0, .int 114, .int 111, .ref 84], (HD, m, w, mr))) rfl ?_
    refine wp_calv (as := [.int 111, .int 114, .int 0, .int 0, .int 0, .int 0, .int 0, .int 0]) rfl rfl rfl (Nat.le_of_ble_eq_true rfl) ⟨by decide, rfl⟩ ((rw_or (ml := w) hM h)) (by omega) ?_
    rintro _ _ ⟨rfl, rfl⟩
    show aWP _ _ (13, [some (.ref 84), some (.int v), o1], [.int (if s.2.2.1 = 6 then (1 : Int32) else 0)], (HD, m, w, mr)) _
    refine wp_bI rfl (fun c_1 => ?_) (fun c_1 => ?_)
    rotate_left
    · have c_1 : ¬ ((if s.2.2.1 = 6 then (1 : Int32) else 0) = 0) := of_decide_eq_false c_1
      exact absurd (if_neg (by rw [h0]; decide)) c_1
    have c_1 : (if s.2.2.1 = 6 then (1 : Int32) else 0) = 0 := of_decide_eq_true c_1
    refine wp_steps 1 (t' := (29, [some (.ref 84), some (.int v), o1], [.int v], (HD, m, w, mr))) rfl ?_
    refine wp_ret rfl rfl ⟨⟨Nat.le_refl _, Nat.le_refl _⟩, ?_⟩
    have hj : joO s.2.2.1 = 0 := by simp [joO, i0_f c_1]
    have e : lpF b n joO sub 0 s = (true, s) := rfl
    refine ⟨_, _, _, rfl, rfl, hf, ?_⟩
    rw [e]
    exact ⟨fun _ => ⟨h, go⟩, fun z => Bool.noConfusion z⟩
  | succ g ih =>
    intro v m w s o1 h go hnm hf hg
    refine wp_steps 9 (t' := (12, [some (.ref 84), some (.int v), o1], [.int 0, .int 0, .int 0, .int 0, .int 0, .int 0, .int 114, .int 111, .ref 84], (HD, m, w, mr))) rfl ?_
    refine wp_calv (as := [.int 111, .int 114, .int 0, .int 0, .int 0, .int 0, .int 0, .int 0]) rfl rfl rfl (Nat.le_of_ble_eq_true rfl) ⟨by decide, rfl⟩ ((rw_or (ml := w) hM h)) (by omega) ?_
    rintro _ _ ⟨rfl, rfl⟩
    show aWP _ _ (13, [some (.ref 84), some (.int v), o1], [.int (if s.2.2.1 = 6 then (1 : Int32) else 0)], (HD, m, w, mr)) _
    refine wp_bI rfl (fun c_1 => ?_) (fun c_1 => ?_)
    · have c_1 : (if s.2.2.1 = 6 then (1 : Int32) else 0) = 0 := of_decide_eq_true c_1
      refine wp_steps 1 (t' := (29, [some (.ref 84), some (.int v), o1], [.int v], (HD, m, w, mr))) rfl ?_
      refine wp_ret rfl rfl ⟨⟨Nat.le_refl _, Nat.le_refl _⟩, ?_⟩
      have hj : joO s.2.2.1 = 0 := by simp [joO, i0_f c_1]
      have e : lpF b n joO sub (g + 1) s = (true, s) := if_pos hj
      refine ⟨_, _, _, rfl, rfl, hf, ?_⟩
      rw [e]
      exact ⟨fun _ => ⟨h, go⟩, fun z => Bool.noConfusion z⟩
    · have c_1 : ¬ ((if s.2.2.1 = 6 then (1 : Int32) else 0) = 0) := of_decide_eq_false c_1
      refine wp_steps 1 (t' := (15, [some (.ref 84), some (.int v), o1], [.ref 84], (HD, m, w, mr))) rfl ?_
      have eT : s.2.2.1 = 6 := i0_t c_1
      refine wp_calv (as := []) rfl rfl rfl (Nat.le_of_ble_eq_true rfl) ⟨by decide, rfl⟩ ((r_next (ml := w) hM h hnn (by rw [← h.T, eT]; decide))) (by omega) ?_
      rintro _ _ ⟨rfl, m_1, w_1, rfl, f1, g1⟩
      show aWP _ _ (16, [some (.ref 84), some (.int v), o1], [], (HD, m_1, w_1, mr)) _
      refine wp_steps 1 (t' := (17, [some (.ref 84), some (.int v), o1], [.ref 84], (HD, m_1, w_1, mr))) rfl ?_
      refine wp_calv (as := []) rfl rfl rfl (Nat.le_of_ble_eq_true rfl) ⟨by decide, rfl⟩ ((hsub _ _ _ g1 (hnm.fr f1))) (by omega) ?_
      rintro _ _ ⟨v_2, m_2, w_2, rfl, rfl, f2, r2⟩
      show aWP _ _ (18, [some (.ref 84), some (.int v), o1], [.int v_2], (HD, m_2, w_2, mr)) _
      by_cases hF : (sub (stP b n s)).1 = true
      · obtain ⟨g2, go2⟩ := r2.1 hF
        refine wp_steps 2 (t' := (20, [some (.ref 84), some (.int v), some (.int v_2)], [.int v], (HD, m_2, w_2, mr))) rfl ?_
        refine wp_bI rfl (fun c_2 => ?_) (fun c_2 => ?_)
        · have c_2 : ¬ v = 0 := of_decide_eq_true c_2
          refine wp_steps 4 (t' := (3, [some (.ref 84), some (.int 1), some (.int v_2)], [], (HD, m_2, w_2, mr))) rfl ?_
          have hj : joO s.2.2.1 = -11 := by rw [eT]; rfl
          have ev : pfJ (-11) v v_2 = 1 := by simp [pfJ, c_2]
          obtain ⟨k1, k2, k3⟩ := GO_bi (c := -11) hs0 h (by rw [eT]; decide) go g2 go2 (by decide) (by decide)
          rw [ev] at k2
          have e : lpF b n joO sub (g + 1) s = lpF b n joO sub g (adP (-11) (sub (stP b n s)).2) := by
            show (if _ then _ else _) = _
            rw [hj, if_neg (by decide), if_pos hF]
          rw [e]
          exact ih _ _ _ _ _ k1 k2 ((hnm.fr f1).fr f2) ((hf.tr f1).tr f2) (by omega)
        · have c_2 : v = 0 := Decidable.not_not.mp (of_decide_eq_false c_2)
          refine wp_steps 1 (t' := (22, [some (.ref 84), some (.int v), some (.int v_2)], [.int v_2], (HD, m_2, w_2, mr))) rfl ?_
          refine wp_bI rfl (fun c_3 => ?_) (fun c_3 => ?_)
          · have c_3 : v_2 = 0 := of_decide_eq_true c_3
            refine wp_steps 3 (t' := (3, [some (.ref 84), some (.int 0), some (.int v_2)], [], (HD, m_2, w_2, mr))) rfl ?_
            have hj : joO s.2.2.1 = -11 := by rw [eT]; rfl
            have ev : pfJ (-11) v v_2 = 0 := by simp [pfJ, c_2, c_3]
            obtain ⟨k1, k2, k3⟩ := GO_bi (c := -11) hs0 h (by rw [eT]; decide) go g2 go2 (by decide) (by decide)
            rw [ev] at k2
            have e : lpF b n joO sub (g + 1) s = lpF b n joO sub g (adP (-11) (sub (stP b n s)).2) := by
              show (if _ then _ else _) = _
              rw [hj, if_neg (by decide), if_pos hF]
            rw [e]
            exact ih _ _ _ _ _ k1 k2 ((hnm.fr f1).fr f2) ((hf.tr f1).tr f2) (by omega)
          · have c_3 : ¬ (v_2 = 0) := of_decide_eq_false c_3
            refine wp_steps 4 (t' := (3, [some (.ref 84), some (.int 1), some (.int v_2)], [], (HD, m_2, w_2, mr))) rfl ?_
            have hj : joO s.2.2.1 = -11 := by rw [eT]; rfl
            have ev : pfJ (-11) v v_2 = 1 := by simp [pfJ, c_2, c_3]
            obtain ⟨k1, k2, k3⟩ := GO_bi (c := -11) hs0 h (by rw [eT]; decide) go g2 go2 (by decide) (by decide)
            rw [ev] at k2
            have e : lpF b n joO sub (g + 1) s = lpF b n joO sub g (adP (-11) (sub (stP b n s)).2) := by
              show (if _ then _ else _) = _
              rw [hj, if_neg (by decide), if_pos hF]
            rw [e]
            exact ih _ _ _ _ _ k1 k2 ((hnm.fr f1).fr f2) ((hf.tr f1).tr f2) (by omega)
      · have g2 := r2.2 (Bool.eq_false_iff.mpr hF)
        refine wp_steps 2 (t' := (20, [some (.ref 84), some (.int v), some (.int v_2)], [.int v], (HD, m_2, w_2, mr))) rfl ?_
        refine wp_bI rfl (fun c_4 => ?_) (fun c_4 => ?_)
        · have c_4 : ¬ v = 0 := of_decide_eq_true c_4
          refine wp_steps 13 (t' := (12, [some (.ref 84), some (.int 1), some (.int v_2)], [.int 0, .int 0, .int 0, .int 0, .int 0, .int 0, .int 114, .int 111, .ref 84], (HD, m_2, w_2, mr))) rfl ?_
          refine wp_calv (as := [.int 111, .int 114, .int 0, .int 0, .int 0, .int 0, .int 0, .int 0]) rfl rfl rfl (Nat.le_of_ble_eq_true rfl) ⟨by decide, rfl⟩ ((r_word_b (ml := w_2) (mr := mr) g2.b)) (by omega) ?_
          rintro _ _ ⟨rfl, rfl⟩
          show aWP _ _ (13, [some (.ref 84), some (.int 1), some (.int v_2)], [.int 0], (HD, m_2, w_2, mr)) _
          refine wp_bI rfl (fun c_5 => ?_) (fun c_5 => ?_)
          rotate_left
          · have c_5 : ¬ ((0 : Int32) = 0) := of_decide_eq_false c_5
            exact absurd c_5 (by decide)
          have c_5 : (0 : Int32) = 0 := of_decide_eq_true c_5
          refine wp_steps 1 (t' := (29, [some (.ref 84), some (.int 1), some (.int v_2)], [.int 1], (HD, m_2, w_2, mr))) rfl ?_
          refine wp_ret rfl rfl ⟨⟨Nat.le_refl _, Nat.le_refl _⟩, ?_⟩
          have hj : joO s.2.2.1 = -11 := by rw [eT]; rfl
          have e : lpF b n joO sub (g + 1) s = (false, (sub (stP b n s)).2) := by
            show (if _ then _ else _) = _
            rw [hj, if_neg (by decide), if_neg hF]
          refine ⟨_, _, _, rfl, rfl, (hf.tr f1).tr f2, ?_⟩
          rw [e]
          exact ⟨fun z => Bool.noConfusion z, fun _ => g2⟩
        · have c_4 : v = 0 := Decidable.not_not.mp (of_decide_eq_false c_4)
          refine wp_steps 1 (t' := (22, [some (.ref 84), some (.int v), some (.int v_2)], [.int v_2], (HD, m_2, w_2, mr))) rfl ?_
          refine wp_bI rfl (fun c_6 => ?_) (fun c_6 => ?_)
          · have c_6 : v_2 = 0 := of_decide_eq_true c_6
            refine wp_steps 12 (t' := (12, [some (.ref 84), some (.int 0), some (.int v_2)], [.int 0, .int 0, .int 0, .int 0, .int 0, .int 0, .int 114, .int 111, .ref 84], (HD, m_2, w_2, mr))) rfl ?_
            refine wp_calv (as := [.int 111, .int 114, .int 0, .int 0, .int 0, .int 0, .int 0, .int 0]) rfl rfl rfl (Nat.le_of_ble_eq_true rfl) ⟨by decide, rfl⟩ ((r_word_b (ml := w_2) (mr := mr) g2.b)) (by omega) ?_
            rintro _ _ ⟨rfl, rfl⟩
            show aWP _ _ (13, [some (.ref 84), some (.int 0), some (.int v_2)], [.int 0], (HD, m_2, w_2, mr)) _
            refine wp_bI rfl (fun c_7 => ?_) (fun c_7 => ?_)
            rotate_left
            · have c_7 : ¬ ((0 : Int32) = 0) := of_decide_eq_false c_7
              exact absurd c_7 (by decide)
            have c_7 : (0 : Int32) = 0 := of_decide_eq_true c_7
            refine wp_steps 1 (t' := (29, [some (.ref 84), some (.int 0), some (.int v_2)], [.int 0], (HD, m_2, w_2, mr))) rfl ?_
            refine wp_ret rfl rfl ⟨⟨Nat.le_refl _, Nat.le_refl _⟩, ?_⟩
            have hj : joO s.2.2.1 = -11 := by rw [eT]; rfl
            have e : lpF b n joO sub (g + 1) s = (false, (sub (stP b n s)).2) := by
              show (if _ then _ else _) = _
              rw [hj, if_neg (by decide), if_neg hF]
            refine ⟨_, _, _, rfl, rfl, (hf.tr f1).tr f2, ?_⟩
            rw [e]
            exact ⟨fun z => Bool.noConfusion z, fun _ => g2⟩
          · have c_6 : ¬ (v_2 = 0) := of_decide_eq_false c_6
            refine wp_steps 13 (t' := (12, [some (.ref 84), some (.int 1), some (.int v_2)], [.int 0, .int 0, .int 0, .int 0, .int 0, .int 0, .int 114, .int 111, .ref 84], (HD, m_2, w_2, mr))) rfl ?_
            refine wp_calv (as := [.int 111, .int 114, .int 0, .int 0, .int 0, .int 0, .int 0, .int 0]) rfl rfl rfl (Nat.le_of_ble_eq_true rfl) ⟨by decide, rfl⟩ ((r_word_b (ml := w_2) (mr := mr) g2.b)) (by omega) ?_
            rintro _ _ ⟨rfl, rfl⟩
            show aWP _ _ (13, [some (.ref 84), some (.int 1), some (.int v_2)], [.int 0], (HD, m_2, w_2, mr)) _
            refine wp_bI rfl (fun c_8 => ?_) (fun c_8 => ?_)
            rotate_left
            · have c_8 : ¬ ((0 : Int32) = 0) := of_decide_eq_false c_8
              exact absurd c_8 (by decide)
            have c_8 : (0 : Int32) = 0 := of_decide_eq_true c_8
            refine wp_steps 1 (t' := (29, [some (.ref 84), some (.int 1), some (.int v_2)], [.int 1], (HD, m_2, w_2, mr))) rfl ?_
            refine wp_ret rfl rfl ⟨⟨Nat.le_refl _, Nat.le_refl _⟩, ?_⟩
            have hj : joO s.2.2.1 = -11 := by rw [eT]; rfl
            have e : lpF b n joO sub (g + 1) s = (false, (sub (stP b n s)).2) := by
              show (if _ then _ else _) = _
              rw [hj, if_neg (by decide), if_neg hF]
            refine ⟨_, _, _, rfl, rfl, (hf.tr f1).tr f2, ?_⟩
            rw [e]
            exact ⟨fun z => Bool.noConfusion z, fun _ => g2⟩
set_option maxRecDepth 20000 in
set_option maxHeartbeats 1000000 in
theorem r_either1 {X : aXt × Value} {mr : Nat → Nat → Option Nat} (hM : MRok mr) {b : Nat → Int32} {n t : Nat} (hnn : nnB b n) {nm : Nat → Int32} {d : Nat} (hd : 4 ≤ d) {sub : pF} (hsub : cwR X mr b n t 1 nm d 161 25 sub) : cwR X mr b n t 1 nm (d + 1) 162 26 (chF b n joO sub) := by
  intro m w s h hnm
  refine cw_of (cd := cd_X7_either1) (nL := 3) rfl rfl ?_
  show aWP _ _ (0, [some (.ref 84), none, none], [], (HD, m, w, mr)) _
  refine wp_steps 1 (t' := (1, [some (.ref 84), none, none], [.ref 84], (HD, m, w, mr))) rfl ?_
  refine wp_calv (as := []) rfl rfl rfl (Nat.le_of_ble_eq_true rfl) ⟨by decide, rfl⟩ ((hsub _ _ _ h hnm)) (by omega) ?_
  rintro _ _ ⟨v_2, m_2, w_2, rfl, rfl, f2, r2⟩
  show aWP _ _ (2, [some (.ref 84), none, none], [.int v_2], (HD, m_2, w_2, mr)) _
  by_cases hF : (sub s).1 = true
  · obtain ⟨g2, go2⟩ := r2.1 hF
    refine wp_steps 1 (t' := (3, [some (.ref 84), some (.int v_2), none], [], (HD, m_2, w_2, mr))) rfl ?_
    have e : chF b n joO sub s = lpF b n joO sub 160 (sub s).2 := if_pos hF
    rw [e]
    exact l_either1 hM hnn hd hsub h.2.2.1.2.2.2.2 160 _ _ _ _ _ g2 (go2.wk (by decide)) (hnm.fr f2) f2 (by have := g2.1.1.2.2.2; omega)
  · have g2 := r2.2 (Bool.eq_false_iff.mpr hF)
    refine wp_steps 10 (t' := (12, [some (.ref 84), some (.int v_2), none], [.int 0, .int 0, .int 0, .int 0, .int 0, .int 0, .int 114, .int 111, .ref 84], (HD, m_2, w_2, mr))) rfl ?_
    refine wp_calv (as := [.int 111, .int 114, .int 0, .int 0, .int 0, .int 0, .int 0, .int 0]) rfl rfl rfl (Nat.le_of_ble_eq_true rfl) ⟨by decide, rfl⟩ ((r_word_b (ml := w_2) (mr := mr) g2.b)) (by omega) ?_
    rintro _ _ ⟨rfl, rfl⟩
    show aWP _ _ (13, [some (.ref 84), some (.int v_2), none], [.int 0], (HD, m_2, w_2, mr)) _
    refine wp_bI rfl (fun c_1 => ?_) (fun c_1 => ?_)
    rotate_left
    · have c_1 : ¬ ((0 : Int32) = 0) := of_decide_eq_false c_1
      exact absurd c_1 (by decide)
    have c_1 : (0 : Int32) = 0 := of_decide_eq_true c_1
    refine wp_steps 1 (t' := (29, [some (.ref 84), some (.int v_2), none], [.int v_2], (HD, m_2, w_2, mr))) rfl ?_
    refine wp_ret rfl rfl ⟨⟨Nat.le_refl _, Nat.le_refl _⟩, ?_⟩
    have e : chF b n joO sub s = (false, (sub s).2) := if_neg hF
    refine ⟨_, _, _, rfl, rfl, f2, ?_⟩
    rw [e]
    exact ⟨fun z => Bool.noConfusion z, fun _ => g2⟩
set_option maxRecDepth 20000 in
set_option maxHeartbeats 1000000 in
theorem l_term0 {X : aXt × Value} {mr : Nat → Nat → Option Nat} (hM : MRok mr) {b : Nat → Int32} {n t : Nat} (hnn : nnB b n) {nm : Nat → Int32} {d : Nat} (hd : 4 ≤ d) {sub : pF} (hsub : cwR X mr b n t 0 nm d 163 26 sub) {s0 : pS} (hs0 : s0.2.2.2.2.length ≤ s0.1) {m0 : Nat → Nat → Int32} : ∀ (g : Nat) (v : Int32) (m : Nat → Nat → Int32) (w : Nat → Nat → Int64) (s : pS), RS b n t 0 m w s → GO nm 27 s0 s v → nmO m nm → frR m0 m → n ≤ s.1 + g → aWP (aEx (aTb X) d) cd_X7_term0 (3, [some (.ref 84), some (.int v)], [], (HD, m, w, mr)) (fun r h' => (HD.1 ≤ h'.1.1 ∧ HD.2.1 ≤ h'.1.2.1) ∧ ∃ v m' w', r = some (.int v) ∧ h' = (HD, m', w', mr) ∧ frR m0 m' ∧ RES b n t 0 nm 27 m' w' s0 (lpF b n joT sub g s) v) := by
  intro g
  induction g with
  | zero =>
    intro v m w s h go hnm hf hg
    have h0 : s.2.2.1 = 0 := h.T.trans (lx_n (by omega))
    refine wp_steps 2 (t' := (5, [some (.ref 84), some (.int v)], [.int 42, .ref 84], (HD, m, w, mr))) rfl ?_
    refine wp_calv (as := [.int 42]) rfl rfl rfl (Nat.le_of_ble_eq_true rfl) ⟨by decide, rfl⟩ ((r_sign (ml := w) hM h (c := 42) (by decide))) (by omega) ?_
    rintro _ _ ⟨rfl, rfl⟩
    show aWP _ _ (6, [some (.ref 84), some (.int v)], [.int (if s.2.2.1 = 42 then (1 : Int32) else 0)], (HD, m, w, mr)) _
    refine wp_bI rfl (fun c_1 => ?_) (fun c_1 => ?_)
    rotate_left
    · have c_1 : ¬ ((if s.2.2.1 = 42 then (1 : Int32) else 0) = 0) := of_decide_eq_false c_1
      exact absurd (if_neg (by rw [h0]; decide)) c_1
    have c_1 : (if s.2.2.1 = 42 then (1 : Int32) else 0) = 0 := of_decide_eq_true c_1
    refine wp_steps 1 (t' := (16, [some (.ref 84), some (.int v)], [.int v], (HD, m, w, mr))) rfl ?_
    refine wp_ret rfl rfl ⟨⟨Nat.le_refl _, Nat.le_refl _⟩, ?_⟩
    have hj : joT s.2.2.1 = 0 := by simp [joT, i0_f c_1]
    have e : lpF b n joT sub 0 s = (true, s) := rfl
    refine ⟨_, _, _, rfl, rfl, hf, ?_⟩
    rw [e]
    exact ⟨fun _ => ⟨h, go⟩, fun z => Bool.noConfusion z⟩
  | succ g ih =>
    intro v m w s h go hnm hf hg
    refine wp_steps 2 (t' := (5, [some (.ref 84), some (.int v)], [.int 42, .ref 84], (HD, m, w, mr))) rfl ?_
    refine wp_calv (as := [.int 42]) rfl rfl rfl (Nat.le_of_ble_eq_true rfl) ⟨by decide, rfl⟩ ((r_sign (ml := w) hM h (c := 42) (by decide))) (by omega) ?_
    rintro _ _ ⟨rfl, rfl⟩
    show aWP _ _ (6, [some (.ref 84), some (.int v)], [.int (if s.2.2.1 = 42 then (1 : Int32) else 0)], (HD, m, w, mr)) _
    refine wp_bI rfl (fun c_1 => ?_) (fun c_1 => ?_)
    · have c_1 : (if s.2.2.1 = 42 then (1 : Int32) else 0) = 0 := of_decide_eq_true c_1
      refine wp_steps 1 (t' := (16, [some (.ref 84), some (.int v)], [.int v], (HD, m, w, mr))) rfl ?_
      refine wp_ret rfl rfl ⟨⟨Nat.le_refl _, Nat.le_refl _⟩, ?_⟩
      have hj : joT s.2.2.1 = 0 := by simp [joT, i0_f c_1]
      have e : lpF b n joT sub (g + 1) s = (true, s) := if_pos hj
      refine ⟨_, _, _, rfl, rfl, hf, ?_⟩
      rw [e]
      exact ⟨fun _ => ⟨h, go⟩, fun z => Bool.noConfusion z⟩
    · have c_1 : ¬ ((if s.2.2.1 = 42 then (1 : Int32) else 0) = 0) := of_decide_eq_false c_1
      refine wp_steps 1 (t' := (8, [some (.ref 84), some (.int v)], [.ref 84], (HD, m, w, mr))) rfl ?_
      have eT : s.2.2.1 = 42 := i0_t c_1
      refine wp_calv (as := []) rfl rfl rfl (Nat.le_of_ble_eq_true rfl) ⟨by decide, rfl⟩ ((r_next (ml := w) hM h hnn (by rw [← h.T, eT]; decide))) (by omega) ?_
      rintro _ _ ⟨rfl, m_1, w_1, rfl, f1, g1⟩
      show aWP _ _ (9, [some (.ref 84), some (.int v)], [], (HD, m_1, w_1, mr)) _
      refine wp_steps 2 (t' := (11, [some (.ref 84), some (.int v)], [.ref 84, .int v], (HD, m_1, w_1, mr))) rfl ?_
      refine wp_calv (as := []) rfl rfl rfl (Nat.le_of_ble_eq_true rfl) ⟨by decide, rfl⟩ ((hsub _ _ _ g1 (hnm.fr f1))) (by omega) ?_
      rintro _ _ ⟨v_2, m_2, w_2, rfl, rfl, f2, r2⟩
      show aWP _ _ (12, [some (.ref 84), some (.int v)], [.int v_2, .int v], (HD, m_2, w_2, mr)) _
      by_cases hF : (sub (stP b n s)).1 = true
      · obtain ⟨g2, go2⟩ := r2.1 hF
        refine wp_steps 3 (t' := (3, [some (.ref 84), some (.int (v * v_2))], [], (HD, m_2, w_2, mr))) rfl ?_
        have hj : joT s.2.2.1 = -18 := by rw [eT]; rfl
        have ev : pfJ (-18) v v_2 = v * v_2 := rfl
        obtain ⟨k1, k2, k3⟩ := GO_bi (c := -18) hs0 h (by rw [eT]; decide) go g2 go2 (by decide) (by decide)
        rw [ev] at k2
        have e : lpF b n joT sub (g + 1) s = lpF b n joT sub g (adP (-18) (sub (stP b n s)).2) := by
          show (if _ then _ else _) = _
          rw [hj, if_neg (by decide), if_pos hF]
        rw [e]
        exact ih _ _ _ _ k1 k2 ((hnm.fr f1).fr f2) ((hf.tr f1).tr f2) (by omega)
      · have g2 := r2.2 (Bool.eq_false_iff.mpr hF)
        refine wp_steps 5 (t' := (5, [some (.ref 84), some (.int (v * v_2))], [.int 42, .ref 84], (HD, m_2, w_2, mr))) rfl ?_
        refine wp_calv (as := [.int 42]) rfl rfl rfl (Nat.le_of_ble_eq_true rfl) ⟨by decide, rfl⟩ ((r_sign_b (ml := w_2) (mr := mr) g2.b (c := 42))) (by omega) ?_
        rintro _ _ ⟨rfl, rfl⟩
        show aWP _ _ (6, [some (.ref 84), some (.int (v * v_2))], [.int 0], (HD, m_2, w_2, mr)) _
        refine wp_bI rfl (fun c_2 => ?_) (fun c_2 => ?_)
        rotate_left
        · have c_2 : ¬ ((0 : Int32) = 0) := of_decide_eq_false c_2
          exact absurd c_2 (by decide)
        have c_2 : (0 : Int32) = 0 := of_decide_eq_true c_2
        refine wp_steps 1 (t' := (16, [some (.ref 84), some (.int (v * v_2))], [.int (v * v_2)], (HD, m_2, w_2, mr))) rfl ?_
        refine wp_ret rfl rfl ⟨⟨Nat.le_refl _, Nat.le_refl _⟩, ?_⟩
        have hj : joT s.2.2.1 = -18 := by rw [eT]; rfl
        have e : lpF b n joT sub (g + 1) s = (false, (sub (stP b n s)).2) := by
          show (if _ then _ else _) = _
          rw [hj, if_neg (by decide), if_neg hF]
        refine ⟨_, _, _, rfl, rfl, (hf.tr f1).tr f2, ?_⟩
        rw [e]
        exact ⟨fun z => Bool.noConfusion z, fun _ => g2⟩
set_option maxRecDepth 20000 in
set_option maxHeartbeats 1000000 in
theorem r_term0 {X : aXt × Value} {mr : Nat → Nat → Option Nat} (hM : MRok mr) {b : Nat → Int32} {n t : Nat} (hnn : nnB b n) {nm : Nat → Int32} {d : Nat} (hd : 4 ≤ d) {sub : pF} (hsub : cwR X mr b n t 0 nm d 163 26 sub) : cwR X mr b n t 0 nm (d + 1) 164 27 (chF b n joT sub) := by
  intro m w s h hnm
  refine cw_of (cd := cd_X7_term0) (nL := 2) rfl rfl ?_
  show aWP _ _ (0, [some (.ref 84), none], [], (HD, m, w, mr)) _
  refine wp_steps 1 (t' := (1, [some (.ref 84), none], [.ref 84], (HD, m, w, mr))) rfl ?_
  refine wp_calv (as := []) rfl rfl rfl (Nat.le_of_ble_eq_true rfl) ⟨by decide, rfl⟩ ((hsub _ _ _ h hnm)) (by omega) ?_
  rintro _ _ ⟨v_2, m_2, w_2, rfl, rfl, f2, r2⟩
  show aWP _ _ (2, [some (.ref 84), none], [.int v_2], (HD, m_2, w_2, mr)) _
  by_cases hF : (sub s).1 = true
  · obtain ⟨g2, go2⟩ := r2.1 hF
    refine wp_steps 1 (t' := (3, [some (.ref 84), some (.int v_2)], [], (HD, m_2, w_2, mr))) rfl ?_
    have e : chF b n joT sub s = lpF b n joT sub 160 (sub s).2 := if_pos hF
    rw [e]
    exact l_term0 hM hnn hd hsub h.2.2.1.2.2.2.2 160 _ _ _ _ g2 (go2.wk (by decide)) (hnm.fr f2) f2 (by have := g2.1.1.2.2.2; omega)
  · have g2 := r2.2 (Bool.eq_false_iff.mpr hF)
    refine wp_steps 3 (t' := (5, [some (.ref 84), some (.int v_2)], [.int 42, .ref 84], (HD, m_2, w_2, mr))) rfl ?_
    refine wp_calv (as := [.int 42]) rfl rfl rfl (Nat.le_of_ble_eq_true rfl) ⟨by decide, rfl⟩ ((r_sign_b (ml := w_2) (mr := mr) g2.b (c := 42))) (by omega) ?_
    rintro _ _ ⟨rfl, rfl⟩
    show aWP _ _ (6, [some (.ref 84), some (.int v_2)], [.int 0], (HD, m_2, w_2, mr)) _
    refine wp_bI rfl (fun c_1 => ?_) (fun c_1 => ?_)
    rotate_left
    · have c_1 : ¬ ((0 : Int32) = 0) := of_decide_eq_false c_1
      exact absurd c_1 (by decide)
    have c_1 : (0 : Int32) = 0 := of_decide_eq_true c_1
    refine wp_steps 1 (t' := (16, [some (.ref 84), some (.int v_2)], [.int v_2], (HD, m_2, w_2, mr))) rfl ?_
    refine wp_ret rfl rfl ⟨⟨Nat.le_refl _, Nat.le_refl _⟩, ?_⟩
    have e : chF b n joT sub s = (false, (sub s).2) := if_neg hF
    refine ⟨_, _, _, rfl, rfl, f2, ?_⟩
    rw [e]
    exact ⟨fun z => Bool.noConfusion z, fun _ => g2⟩
set_option maxRecDepth 20000 in
set_option maxHeartbeats 1000000 in
theorem l_added0 {X : aXt × Value} {mr : Nat → Nat → Option Nat} (hM : MRok mr) {b : Nat → Int32} {n t : Nat} (hnn : nnB b n) {nm : Nat → Int32} {d : Nat} (hd : 4 ≤ d) {sub : pF} (hsub : cwR X mr b n t 0 nm d 164 27 sub) {s0 : pS} (hs0 : s0.2.2.2.2.length ≤ s0.1) {m0 : Nat → Nat → Int32} : ∀ (g : Nat) (v : Int32) (m : Nat → Nat → Int32) (w : Nat → Nat → Int64) (s : pS) (o1 o2 : Option Value), RS b n t 0 m w s → GO nm 28 s0 s v → nmO m nm → frR m0 m → n ≤ s.1 + g → aWP (aEx (aTb X) d) cd_X7_added0 (3, [some (.ref 84), some (.int v), o1, o2], [], (HD, m, w, mr)) (fun r h' => (HD.1 ≤ h'.1.1 ∧ HD.2.1 ≤ h'.1.2.1) ∧ ∃ v m' w', r = some (.int v) ∧ h' = (HD, m', w', mr) ∧ frR m0 m' ∧ RES b n t 0 nm 28 m' w' s0 (lpF b n joS sub g s) v) := by
  intro g
  induction g with
  | zero =>
    intro v m w s o1 o2 h go hnm hf hg
    have h0 : s.2.2.1 = 0 := h.T.trans (lx_n (by omega))
    refine wp_steps 2 (t' := (5, [some (.ref 84), some (.int v), o1, o2], [.int 43, .ref 84], (HD, m, w, mr))) rfl ?_
    refine wp_calv (as := [.int 43]) rfl rfl rfl (Nat.le_of_ble_eq_true rfl) ⟨by decide, rfl⟩ ((r_sign (ml := w) hM h (c := 43) (by decide))) (by omega) ?_
    rintro _ _ ⟨rfl, rfl⟩
    show aWP _ _ (6, [some (.ref 84), some (.int v), o1, o2], [.int (if s.2.2.1 = 43 then (1 : Int32) else 0)], (HD, m, w, mr)) _
    refine wp_bI rfl (fun c_1 => ?_) (fun c_1 => ?_)
    · have c_1 : ¬ (if s.2.2.1 = 43 then (1 : Int32) else 0) = 0 := of_decide_eq_true c_1
      exact absurd (if_neg (by rw [h0]; decide)) c_1
    have c_1 : (if s.2.2.1 = 43 then (1 : Int32) else 0) = 0 := Decidable.not_not.mp (of_decide_eq_false c_1)
    refine wp_steps 2 (t' := (9, [some (.ref 84), some (.int v), o1, o2], [.int 45, .ref 84], (HD, m, w, mr))) rfl ?_
    refine wp_calv (as := [.int 45]) rfl rfl rfl (Nat.le_of_ble_eq_true rfl) ⟨by decide, rfl⟩ ((r_sign (ml := w) hM h (c := 45) (by decide))) (by omega) ?_
    rintro _ _ ⟨rfl, rfl⟩
    show aWP _ _ (10, [some (.ref 84), some (.int v), o1, o2], [.int (if s.2.2.1 = 45 then (1 : Int32) else 0)], (HD, m, w, mr)) _
    refine wp_bI rfl (fun c_2 => ?_) (fun c_2 => ?_)
    rotate_left
    · have c_2 : ¬ ((if s.2.2.1 = 45 then (1 : Int32) else 0) = 0) := of_decide_eq_false c_2
      exact absurd (if_neg (by rw [h0]; decide)) c_2
    have c_2 : (if s.2.2.1 = 45 then (1 : Int32) else 0) = 0 := of_decide_eq_true c_2
    refine wp_steps 1 (t' := (37, [some (.ref 84), some (.int v), o1, o2], [.int v], (HD, m, w, mr))) rfl ?_
    refine wp_ret rfl rfl ⟨⟨Nat.le_refl _, Nat.le_refl _⟩, ?_⟩
    have hj : joS s.2.2.1 = 0 := by simp [joS, i0_f c_1, i0_f c_2]
    have e : lpF b n joS sub 0 s = (true, s) := rfl
    refine ⟨_, _, _, rfl, rfl, hf, ?_⟩
    rw [e]
    exact ⟨fun _ => ⟨h, go⟩, fun z => Bool.noConfusion z⟩
  | succ g ih =>
    intro v m w s o1 o2 h go hnm hf hg
    refine wp_steps 2 (t' := (5, [some (.ref 84), some (.int v), o1, o2], [.int 43, .ref 84], (HD, m, w, mr))) rfl ?_
    refine wp_calv (as := [.int 43]) rfl rfl rfl (Nat.le_of_ble_eq_true rfl) ⟨by decide, rfl⟩ ((r_sign (ml := w) hM h (c := 43) (by decide))) (by omega) ?_
    rintro _ _ ⟨rfl, rfl⟩
    show aWP _ _ (6, [some (.ref 84), some (.int v), o1, o2], [.int (if s.2.2.1 = 43 then (1 : Int32) else 0)], (HD, m, w, mr)) _
    refine wp_bI rfl (fun c_1 => ?_) (fun c_1 => ?_)
    · have c_1 : ¬ (if s.2.2.1 = 43 then (1 : Int32) else 0) = 0 := of_decide_eq_true c_1
      refine wp_steps 1 (t' := (12, [some (.ref 84), some (.int v), o1, o2], [.ref 84], (HD, m, w, mr))) rfl ?_
      refine wp_getl rfl ⟨by decide, rfl⟩ rfl ?_
      have ew : w 84 24 = (43 : Int32).toInt64 := h.sg (by decide) (i0_t c_1)
      rw [ew]
      refine wp_steps 2 (t' := (15, [some (.ref 84), some (.int v), o1, o2], [.int (lg_cmp ((43 : Int32).toInt64) 43)], (HD, m, w, mr))) rfl ?_
      refine wp_bI rfl (fun c_2 => ?_) (fun c_2 => ?_)
      · have c_2 : ¬ (lg_cmp ((43 : Int32).toInt64) 43) = 0 := of_decide_eq_true c_2
        exact absurd ((lg_cmp_eq _ _).mpr (by decide)) c_2
      have c_2 : (lg_cmp ((43 : Int32).toInt64) 43) = 0 := Decidable.not_not.mp (of_decide_eq_false c_2)
      refine wp_steps 4 (t' := (21, [some (.ref 84), some (.int v), some (.int 1), o2], [.ref 84], (HD, m, w, mr))) rfl ?_
      have eT : s.2.2.1 = 43 := i0_t c_1
      refine wp_calv (as := []) rfl rfl rfl (Nat.le_of_ble_eq_true rfl) ⟨by decide, rfl⟩ ((r_next (ml := w) hM h hnn (by rw [← h.T, eT]; decide))) (by omega) ?_
      rintro _ _ ⟨rfl, m_1, w_1, rfl, f1, g1⟩
      show aWP _ _ (22, [some (.ref 84), some (.int v), some (.int 1), o2], [], (HD, m_1, w_1, mr)) _
      refine wp_steps 1 (t' := (23, [some (.ref 84), some (.int v), some (.int 1), o2], [.ref 84], (HD, m_1, w_1, mr))) rfl ?_
      refine wp_calv (as := []) rfl rfl rfl (Nat.le_of_ble_eq_true rfl) ⟨by decide, rfl⟩ ((hsub _ _ _ g1 (hnm.fr f1))) (by omega) ?_
      rintro _ _ ⟨v_2, m_2, w_2, rfl, rfl, f2, r2⟩
      show aWP _ _ (24, [some (.ref 84), some (.int v), some (.int 1), o2], [.int v_2], (HD, m_2, w_2, mr)) _
      by_cases hF : (sub (stP b n s)).1 = true
      · obtain ⟨g2, go2⟩ := r2.1 hF
        refine wp_steps 2 (t' := (26, [some (.ref 84), some (.int v), some (.int 1), some (.int v_2)], [.int 1], (HD, m_2, w_2, mr))) rfl ?_
        refine wp_bI rfl (fun c_3 => ?_) (fun c_3 => ?_)
        · have c_3 : (1 : Int32) = 0 := of_decide_eq_true c_3
          exact absurd c_3 (by decide)
        have c_3 : ¬ ((1 : Int32) = 0) := of_decide_eq_false c_3
        refine wp_steps 6 (t' := (3, [some (.ref 84), some (.int (v + v_2)), some (.int 1), some (.int v_2)], [], (HD, m_2, w_2, mr))) rfl ?_
        have hj : joS s.2.2.1 = -16 := by rw [eT]; rfl
        have ev : pfJ (-16) v v_2 = v + v_2 := rfl
        obtain ⟨k1, k2, k3⟩ := GO_bi (c := -16) hs0 h (by rw [eT]; decide) go g2 go2 (by decide) (by decide)
        rw [ev] at k2
        have e : lpF b n joS sub (g + 1) s = lpF b n joS sub g (adP (-16) (sub (stP b n s)).2) := by
          show (if _ then _ else _) = _
          rw [hj, if_neg (by decide), if_pos hF]
        rw [e]
        exact ih _ _ _ _ _ _ k1 k2 ((hnm.fr f1).fr f2) ((hf.tr f1).tr f2) (by omega)
      · have g2 := r2.2 (Bool.eq_false_iff.mpr hF)
        refine wp_steps 2 (t' := (26, [some (.ref 84), some (.int v), some (.int 1), some (.int v_2)], [.int 1], (HD, m_2, w_2, mr))) rfl ?_
        refine wp_bI rfl (fun c_4 => ?_) (fun c_4 => ?_)
        · have c_4 : (1 : Int32) = 0 := of_decide_eq_true c_4
          exact absurd c_4 (by decide)
        have c_4 : ¬ ((1 : Int32) = 0) := of_decide_eq_false c_4
        refine wp_steps 8 (t' := (5, [some (.ref 84), some (.int (v + v_2)), some (.int 1), some (.int v_2)], [.int 43, .ref 84], (HD, m_2, w_2, mr))) rfl ?_
        refine wp_calv (as := [.int 43]) rfl rfl rfl (Nat.le_of_ble_eq_true rfl) ⟨by decide, rfl⟩ ((r_sign_b (ml := w_2) (mr := mr) g2.b (c := 43))) (by omega) ?_
        rintro _ _ ⟨rfl, rfl⟩
        show aWP _ _ (6, [some (.ref 84), some (.int (v + v_2)), some (.int 1), some (.int v_2)], [.int 0], (HD, m_2, w_2, mr)) _
        refine wp_bI rfl (fun c_5 => ?_) (fun c_5 => ?_)
        · have c_5 : ¬ (0 : Int32) = 0 := of_decide_eq_true c_5
          exact absurd c_5 (by decide)
        have c_5 : (0 : Int32) = 0 := Decidable.not_not.mp (of_decide_eq_false c_5)
        refine wp_steps 2 (t' := (9, [some (.ref 84), some (.int (v + v_2)), some (.int 1), some (.int v_2)], [.int 45, .ref 84], (HD, m_2, w_2, mr))) rfl ?_
        refine wp_calv (as := [.int 45]) rfl rfl rfl (Nat.le_of_ble_eq_true rfl) ⟨by decide, rfl⟩ ((r_sign_b (ml := w_2) (mr := mr) g2.b (c := 45))) (by omega) ?_
        rintro _ _ ⟨rfl, rfl⟩
        show aWP _ _ (10, [some (.ref 84), some (.int (v + v_2)), some (.int 1), some (.int v_2)], [.int 0], (HD, m_2, w_2, mr)) _
        refine wp_bI rfl (fun c_6 => ?_) (fun c_6 => ?_)
        rotate_left
        · have c_6 : ¬ ((0 : Int32) = 0) := of_decide_eq_false c_6
          exact absurd c_6 (by decide)
        have c_6 : (0 : Int32) = 0 := of_decide_eq_true c_6
        refine wp_steps 1 (t' := (37, [some (.ref 84), some (.int (v + v_2)), some (.int 1), some (.int v_2)], [.int (v + v_2)], (HD, m_2, w_2, mr))) rfl ?_
        refine wp_ret rfl rfl ⟨⟨Nat.le_refl _, Nat.le_refl _⟩, ?_⟩
        have hj : joS s.2.2.1 = -16 := by rw [eT]; rfl
        have e : lpF b n joS sub (g + 1) s = (false, (sub (stP b n s)).2) := by
          show (if _ then _ else _) = _
          rw [hj, if_neg (by decide), if_neg hF]
        refine ⟨_, _, _, rfl, rfl, (hf.tr f1).tr f2, ?_⟩
        rw [e]
        exact ⟨fun z => Bool.noConfusion z, fun _ => g2⟩
    · have c_1 : (if s.2.2.1 = 43 then (1 : Int32) else 0) = 0 := Decidable.not_not.mp (of_decide_eq_false c_1)
      refine wp_steps 2 (t' := (9, [some (.ref 84), some (.int v), o1, o2], [.int 45, .ref 84], (HD, m, w, mr))) rfl ?_
      refine wp_calv (as := [.int 45]) rfl rfl rfl (Nat.le_of_ble_eq_true rfl) ⟨by decide, rfl⟩ ((r_sign (ml := w) hM h (c := 45) (by decide))) (by omega) ?_
      rintro _ _ ⟨rfl, rfl⟩
      show aWP _ _ (10, [some (.ref 84), some (.int v), o1, o2], [.int (if s.2.2.1 = 45 then (1 : Int32) else 0)], (HD, m, w, mr)) _
      refine wp_bI rfl (fun c_7 => ?_) (fun c_7 => ?_)
      · have c_7 : (if s.2.2.1 = 45 then (1 : Int32) else 0) = 0 := of_decide_eq_true c_7
        refine wp_steps 1 (t' := (37, [some (.ref 84), some (.int v), o1, o2], [.int v], (HD, m, w, mr))) rfl ?_
        refine wp_ret rfl rfl ⟨⟨Nat.le_refl _, Nat.le_refl _⟩, ?_⟩
        have hj : joS s.2.2.1 = 0 := by simp [joS, i0_f c_1, i0_f c_7]
        have e : lpF b n joS sub (g + 1) s = (true, s) := if_pos hj
        refine ⟨_, _, _, rfl, rfl, hf, ?_⟩
        rw [e]
        exact ⟨fun _ => ⟨h, go⟩, fun z => Bool.noConfusion z⟩
      · have c_7 : ¬ ((if s.2.2.1 = 45 then (1 : Int32) else 0) = 0) := of_decide_eq_false c_7
        refine wp_steps 1 (t' := (12, [some (.ref 84), some (.int v), o1, o2], [.ref 84], (HD, m, w, mr))) rfl ?_
        refine wp_getl rfl ⟨by decide, rfl⟩ rfl ?_
        have ew : w 84 24 = (45 : Int32).toInt64 := h.sg (by decide) (i0_t c_7)
        rw [ew]
        refine wp_steps 2 (t' := (15, [some (.ref 84), some (.int v), o1, o2], [.int (lg_cmp ((45 : Int32).toInt64) 43)], (HD, m, w, mr))) rfl ?_
        refine wp_bI rfl (fun c_8 => ?_) (fun c_8 => ?_)
        rotate_left
        · have c_8 : (lg_cmp ((45 : Int32).toInt64) 43) = 0 := Decidable.not_not.mp (of_decide_eq_false c_8)
          exact absurd ((lg_cmp_eq _ _).mp c_8) (by decide)
        have c_8 : ¬ (lg_cmp ((45 : Int32).toInt64) 43) = 0 := of_decide_eq_true c_8
        refine wp_steps 3 (t' := (21, [some (.ref 84), some (.int v), some (.int 0), o2], [.ref 84], (HD, m, w, mr))) rfl ?_
        have eT : s.2.2.1 = 45 := i0_t c_7
        refine wp_calv (as := []) rfl rfl rfl (Nat.le_of_ble_eq_true rfl) ⟨by decide, rfl⟩ ((r_next (ml := w) hM h hnn (by rw [← h.T, eT]; decide))) (by omega) ?_
        rintro _ _ ⟨rfl, m_1, w_1, rfl, f1, g1⟩
        show aWP _ _ (22, [some (.ref 84), some (.int v), some (.int 0), o2], [], (HD, m_1, w_1, mr)) _
        refine wp_steps 1 (t' := (23, [some (.ref 84), some (.int v), some (.int 0), o2], [.ref 84], (HD, m_1, w_1, mr))) rfl ?_
        refine wp_calv (as := []) rfl rfl rfl (Nat.le_of_ble_eq_true rfl) ⟨by decide, rfl⟩ ((hsub _ _ _ g1 (hnm.fr f1))) (by omega) ?_
        rintro _ _ ⟨v_2, m_2, w_2, rfl, rfl, f2, r2⟩
        show aWP _ _ (24, [some (.ref 84), some (.int v), some (.int 0), o2], [.int v_2], (HD, m_2, w_2, mr)) _
        by_cases hF : (sub (stP b n s)).1 = true
        · obtain ⟨g2, go2⟩ := r2.1 hF
          refine wp_steps 2 (t' := (26, [some (.ref 84), some (.int v), some (.int 0), some (.int v_2)], [.int 0], (HD, m_2, w_2, mr))) rfl ?_
          refine wp_bI rfl (fun c_9 => ?_) (fun c_9 => ?_)
          rotate_left
          · have c_9 : ¬ ((0 : Int32) = 0) := of_decide_eq_false c_9
            exact absurd c_9 (by decide)
          have c_9 : (0 : Int32) = 0 := of_decide_eq_true c_9
          refine wp_steps 5 (t' := (3, [some (.ref 84), some (.int (v - v_2)), some (.int 0), some (.int v_2)], [], (HD, m_2, w_2, mr))) rfl ?_
          have hj : joS s.2.2.1 = -17 := by rw [eT]; rfl
          have ev : pfJ (-17) v v_2 = v - v_2 := rfl
          obtain ⟨k1, k2, k3⟩ := GO_bi (c := -17) hs0 h (by rw [eT]; decide) go g2 go2 (by decide) (by decide)
          rw [ev] at k2
          have e : lpF b n joS sub (g + 1) s = lpF b n joS sub g (adP (-17) (sub (stP b n s)).2) := by
            show (if _ then _ else _) = _
            rw [hj, if_neg (by decide), if_pos hF]
          rw [e]
          exact ih _ _ _ _ _ _ k1 k2 ((hnm.fr f1).fr f2) ((hf.tr f1).tr f2) (by omega)
        · have g2 := r2.2 (Bool.eq_false_iff.mpr hF)
          refine wp_steps 2 (t' := (26, [some (.ref 84), some (.int v), some (.int 0), some (.int v_2)], [.int 0], (HD, m_2, w_2, mr))) rfl ?_
          refine wp_bI rfl (fun c_10 => ?_) (fun c_10 => ?_)
          rotate_left
          · have c_10 : ¬ ((0 : Int32) = 0) := of_decide_eq_false c_10
            exact absurd c_10 (by decide)
          have c_10 : (0 : Int32) = 0 := of_decide_eq_true c_10
          refine wp_steps 7 (t' := (5, [some (.ref 84), some (.int (v - v_2)), some (.int 0), some (.int v_2)], [.int 43, .ref 84], (HD, m_2, w_2, mr))) rfl ?_
          refine wp_calv (as := [.int 43]) rfl rfl rfl (Nat.le_of_ble_eq_true rfl) ⟨by decide, rfl⟩ ((r_sign_b (ml := w_2) (mr := mr) g2.b (c := 43))) (by omega) ?_
          rintro _ _ ⟨rfl, rfl⟩
          show aWP _ _ (6, [some (.ref 84), some (.int (v - v_2)), some (.int 0), some (.int v_2)], [.int 0], (HD, m_2, w_2, mr)) _
          refine wp_bI rfl (fun c_11 => ?_) (fun c_11 => ?_)
          · have c_11 : ¬ (0 : Int32) = 0 := of_decide_eq_true c_11
            exact absurd c_11 (by decide)
          have c_11 : (0 : Int32) = 0 := Decidable.not_not.mp (of_decide_eq_false c_11)
          refine wp_steps 2 (t' := (9, [some (.ref 84), some (.int (v - v_2)), some (.int 0), some (.int v_2)], [.int 45, .ref 84], (HD, m_2, w_2, mr))) rfl ?_
          refine wp_calv (as := [.int 45]) rfl rfl rfl (Nat.le_of_ble_eq_true rfl) ⟨by decide, rfl⟩ ((r_sign_b (ml := w_2) (mr := mr) g2.b (c := 45))) (by omega) ?_
          rintro _ _ ⟨rfl, rfl⟩
          show aWP _ _ (10, [some (.ref 84), some (.int (v - v_2)), some (.int 0), some (.int v_2)], [.int 0], (HD, m_2, w_2, mr)) _
          refine wp_bI rfl (fun c_12 => ?_) (fun c_12 => ?_)
          rotate_left
          · have c_12 : ¬ ((0 : Int32) = 0) := of_decide_eq_false c_12
            exact absurd c_12 (by decide)
          have c_12 : (0 : Int32) = 0 := of_decide_eq_true c_12
          refine wp_steps 1 (t' := (37, [some (.ref 84), some (.int (v - v_2)), some (.int 0), some (.int v_2)], [.int (v - v_2)], (HD, m_2, w_2, mr))) rfl ?_
          refine wp_ret rfl rfl ⟨⟨Nat.le_refl _, Nat.le_refl _⟩, ?_⟩
          have hj : joS s.2.2.1 = -17 := by rw [eT]; rfl
          have e : lpF b n joS sub (g + 1) s = (false, (sub (stP b n s)).2) := by
            show (if _ then _ else _) = _
            rw [hj, if_neg (by decide), if_neg hF]
          refine ⟨_, _, _, rfl, rfl, (hf.tr f1).tr f2, ?_⟩
          rw [e]
          exact ⟨fun z => Bool.noConfusion z, fun _ => g2⟩
set_option maxRecDepth 20000 in
set_option maxHeartbeats 1000000 in
theorem r_added0 {X : aXt × Value} {mr : Nat → Nat → Option Nat} (hM : MRok mr) {b : Nat → Int32} {n t : Nat} (hnn : nnB b n) {nm : Nat → Int32} {d : Nat} (hd : 4 ≤ d) {sub : pF} (hsub : cwR X mr b n t 0 nm d 164 27 sub) : cwR X mr b n t 0 nm (d + 1) 165 28 (chF b n joS sub) := by
  intro m w s h hnm
  refine cw_of (cd := cd_X7_added0) (nL := 4) rfl rfl ?_
  show aWP _ _ (0, [some (.ref 84), none, none, none], [], (HD, m, w, mr)) _
  refine wp_steps 1 (t' := (1, [some (.ref 84), none, none, none], [.ref 84], (HD, m, w, mr))) rfl ?_
  refine wp_calv (as := []) rfl rfl rfl (Nat.le_of_ble_eq_true rfl) ⟨by decide, rfl⟩ ((hsub _ _ _ h hnm)) (by omega) ?_
  rintro _ _ ⟨v_2, m_2, w_2, rfl, rfl, f2, r2⟩
  show aWP _ _ (2, [some (.ref 84), none, none, none], [.int v_2], (HD, m_2, w_2, mr)) _
  by_cases hF : (sub s).1 = true
  · obtain ⟨g2, go2⟩ := r2.1 hF
    refine wp_steps 1 (t' := (3, [some (.ref 84), some (.int v_2), none, none], [], (HD, m_2, w_2, mr))) rfl ?_
    have e : chF b n joS sub s = lpF b n joS sub 160 (sub s).2 := if_pos hF
    rw [e]
    exact l_added0 hM hnn hd hsub h.2.2.1.2.2.2.2 160 _ _ _ _ _ _ g2 (go2.wk (by decide)) (hnm.fr f2) f2 (by have := g2.1.1.2.2.2; omega)
  · have g2 := r2.2 (Bool.eq_false_iff.mpr hF)
    refine wp_steps 3 (t' := (5, [some (.ref 84), some (.int v_2), none, none], [.int 43, .ref 84], (HD, m_2, w_2, mr))) rfl ?_
    refine wp_calv (as := [.int 43]) rfl rfl rfl (Nat.le_of_ble_eq_true rfl) ⟨by decide, rfl⟩ ((r_sign_b (ml := w_2) (mr := mr) g2.b (c := 43))) (by omega) ?_
    rintro _ _ ⟨rfl, rfl⟩
    show aWP _ _ (6, [some (.ref 84), some (.int v_2), none, none], [.int 0], (HD, m_2, w_2, mr)) _
    refine wp_bI rfl (fun c_1 => ?_) (fun c_1 => ?_)
    · have c_1 : ¬ (0 : Int32) = 0 := of_decide_eq_true c_1
      exact absurd c_1 (by decide)
    have c_1 : (0 : Int32) = 0 := Decidable.not_not.mp (of_decide_eq_false c_1)
    refine wp_steps 2 (t' := (9, [some (.ref 84), some (.int v_2), none, none], [.int 45, .ref 84], (HD, m_2, w_2, mr))) rfl ?_
    refine wp_calv (as := [.int 45]) rfl rfl rfl (Nat.le_of_ble_eq_true rfl) ⟨by decide, rfl⟩ ((r_sign_b (ml := w_2) (mr := mr) g2.b (c := 45))) (by omega) ?_
    rintro _ _ ⟨rfl, rfl⟩
    show aWP _ _ (10, [some (.ref 84), some (.int v_2), none, none], [.int 0], (HD, m_2, w_2, mr)) _
    refine wp_bI rfl (fun c_2 => ?_) (fun c_2 => ?_)
    rotate_left
    · have c_2 : ¬ ((0 : Int32) = 0) := of_decide_eq_false c_2
      exact absurd c_2 (by decide)
    have c_2 : (0 : Int32) = 0 := of_decide_eq_true c_2
    refine wp_steps 1 (t' := (37, [some (.ref 84), some (.int v_2), none, none], [.int v_2], (HD, m_2, w_2, mr))) rfl ?_
    refine wp_ret rfl rfl ⟨⟨Nat.le_refl _, Nat.le_refl _⟩, ?_⟩
    have e : chF b n joS sub s = (false, (sub s).2) := if_neg hF
    refine ⟨_, _, _, rfl, rfl, f2, ?_⟩
    rw [e]
    exact ⟨fun z => Bool.noConfusion z, fun _ => g2⟩
set_option maxRecDepth 20000 in
set_option maxHeartbeats 1000000 in
theorem l_both0 {X : aXt × Value} {mr : Nat → Nat → Option Nat} (hM : MRok mr) {b : Nat → Int32} {n t : Nat} (hnn : nnB b n) {nm : Nat → Int32} {d : Nat} (hd : 4 ≤ d) {sub : pF} (hsub : cwR X mr b n t 0 nm d 166 29 sub) {s0 : pS} (hs0 : s0.2.2.2.2.length ≤ s0.1) {m0 : Nat → Nat → Int32} : ∀ (g : Nat) (v : Int32) (m : Nat → Nat → Int32) (w : Nat → Nat → Int64) (s : pS) (o1 : Option Value), RS b n t 0 m w s → GO nm 30 s0 s v → nmO m nm → frR m0 m → n ≤ s.1 + g → aWP (aEx (aTb X) d) cd_X7_both0 (3, [some (.ref 84), some (.int v), o1], [], (HD, m, w, mr)) (fun r h' => (HD.1 ≤ h'.1.1 ∧ HD.2.1 ≤ h'.1.2.1) ∧ ∃ v m' w', r = some (.int v) ∧ h' = (HD, m', w', mr) ∧ frR m0 m' ∧ RES b n t 0 nm 30 m' w' s0 (lpF b n joA sub g s) v) := by
  intro g
  induction g with
  | zero =>
    intro v m w s o1 h go hnm hf hg
    have h0 : s.2.2.1 = 0 := h.T.trans (lx_n (by omega))
    refine wp_steps 9 (t' := (12, [some (.ref 84), some (.int v), o1], [.int 0, .int 0, .int 0, .int 0, .int 0, .int 100, .int 110, .int 97, .ref 84], (HD, m, w, mr))) rfl ?_
    refine wp_calv (as := [.int 97, .int 110, .int 100, .int 0, .int 0, .int 0, .int 0, .int 0]) rfl rfl rfl (Nat.le_of_ble_eq_true rfl) ⟨by decide, rfl⟩ ((rw_and (ml := w) hM h)) (by omega) ?_
    rintro _ _ ⟨rfl, rfl⟩
    show aWP _ _ (13, [some (.ref 84), some (.int v), o1], [.int (if s.2.2.1 = 7 then (1 : Int32) else 0)], (HD, m, w, mr)) _
    refine wp_bI rfl (fun c_1 => ?_) (fun c_1 => ?_)
    rotate_left
    · have c_1 : ¬ ((if s.2.2.1 = 7 then (1 : Int32) else 0) = 0) := of_decide_eq_false c_1
      exact absurd (if_neg (by rw [h0]; decide)) c_1
    have c_1 : (if s.2.2.1 = 7 then (1 : Int32) else 0) = 0 := of_decide_eq_true c_1
    refine wp_steps 1 (t' := (29, [some (.ref 84), some (.int v), o1], [.int v], (HD, m, w, mr))) rfl ?_
    refine wp_ret rfl rfl ⟨⟨Nat.le_refl _, Nat.le_refl _⟩, ?_⟩
    have hj : joA s.2.2.1 = 0 := by simp [joA, i0_f c_1]
    have e : lpF b n joA sub 0 s = (true, s) := rfl
    refine ⟨_, _, _, rfl, rfl, hf, ?_⟩
    rw [e]
    exact ⟨fun _ => ⟨h, go⟩, fun z => Bool.noConfusion z⟩
  | succ g ih =>
    intro v m w s o1 h go hnm hf hg
    refine wp_steps 9 (t' := (12, [some (.ref 84), some (.int v), o1], [.int 0, .int 0, .int 0, .int 0, .int 0, .int 100, .int 110, .int 97, .ref 84], (HD, m, w, mr))) rfl ?_
    refine wp_calv (as := [.int 97, .int 110, .int 100, .int 0, .int 0, .int 0, .int 0, .int 0]) rfl rfl rfl (Nat.le_of_ble_eq_true rfl) ⟨by decide, rfl⟩ ((rw_and (ml := w) hM h)) (by omega) ?_
    rintro _ _ ⟨rfl, rfl⟩
    show aWP _ _ (13, [some (.ref 84), some (.int v), o1], [.int (if s.2.2.1 = 7 then (1 : Int32) else 0)], (HD, m, w, mr)) _
    refine wp_bI rfl (fun c_1 => ?_) (fun c_1 => ?_)
    · have c_1 : (if s.2.2.1 = 7 then (1 : Int32) else 0) = 0 := of_decide_eq_true c_1
      refine wp_steps 1 (t' := (29, [some (.ref 84), some (.int v), o1], [.int v], (HD, m, w, mr))) rfl ?_
      refine wp_ret rfl rfl ⟨⟨Nat.le_refl _, Nat.le_refl _⟩, ?_⟩
      have hj : joA s.2.2.1 = 0 := by simp [joA, i0_f c_1]
      have e : lpF b n joA sub (g + 1) s = (true, s) := if_pos hj
      refine ⟨_, _, _, rfl, rfl, hf, ?_⟩
      rw [e]
      exact ⟨fun _ => ⟨h, go⟩, fun z => Bool.noConfusion z⟩
    · have c_1 : ¬ ((if s.2.2.1 = 7 then (1 : Int32) else 0) = 0) := of_decide_eq_false c_1
      refine wp_steps 1 (t' := (15, [some (.ref 84), some (.int v), o1], [.ref 84], (HD, m, w, mr))) rfl ?_
      have eT : s.2.2.1 = 7 := i0_t c_1
      refine wp_calv (as := []) rfl rfl rfl (Nat.le_of_ble_eq_true rfl) ⟨by decide, rfl⟩ ((r_next (ml := w) hM h hnn (by rw [← h.T, eT]; decide))) (by omega) ?_
      rintro _ _ ⟨rfl, m_1, w_1, rfl, f1, g1⟩
      show aWP _ _ (16, [some (.ref 84), some (.int v), o1], [], (HD, m_1, w_1, mr)) _
      refine wp_steps 1 (t' := (17, [some (.ref 84), some (.int v), o1], [.ref 84], (HD, m_1, w_1, mr))) rfl ?_
      refine wp_calv (as := []) rfl rfl rfl (Nat.le_of_ble_eq_true rfl) ⟨by decide, rfl⟩ ((hsub _ _ _ g1 (hnm.fr f1))) (by omega) ?_
      rintro _ _ ⟨v_2, m_2, w_2, rfl, rfl, f2, r2⟩
      show aWP _ _ (18, [some (.ref 84), some (.int v), o1], [.int v_2], (HD, m_2, w_2, mr)) _
      by_cases hF : (sub (stP b n s)).1 = true
      · obtain ⟨g2, go2⟩ := r2.1 hF
        refine wp_steps 2 (t' := (20, [some (.ref 84), some (.int v), some (.int v_2)], [.int v], (HD, m_2, w_2, mr))) rfl ?_
        refine wp_bI rfl (fun c_2 => ?_) (fun c_2 => ?_)
        · have c_2 : v = 0 := of_decide_eq_true c_2
          refine wp_steps 3 (t' := (3, [some (.ref 84), some (.int 0), some (.int v_2)], [], (HD, m_2, w_2, mr))) rfl ?_
          have hj : joA s.2.2.1 = -12 := by rw [eT]; rfl
          have ev : pfJ (-12) v v_2 = 0 := by simp [pfJ, c_2]
          obtain ⟨k1, k2, k3⟩ := GO_bi (c := -12) hs0 h (by rw [eT]; decide) go g2 go2 (by decide) (by decide)
          rw [ev] at k2
          have e : lpF b n joA sub (g + 1) s = lpF b n joA sub g (adP (-12) (sub (stP b n s)).2) := by
            show (if _ then _ else _) = _
            rw [hj, if_neg (by decide), if_pos hF]
          rw [e]
          exact ih _ _ _ _ _ k1 k2 ((hnm.fr f1).fr f2) ((hf.tr f1).tr f2) (by omega)
        · have c_2 : ¬ (v = 0) := of_decide_eq_false c_2
          refine wp_steps 1 (t' := (22, [some (.ref 84), some (.int v), some (.int v_2)], [.int v_2], (HD, m_2, w_2, mr))) rfl ?_
          refine wp_bI rfl (fun c_3 => ?_) (fun c_3 => ?_)
          · have c_3 : v_2 = 0 := of_decide_eq_true c_3
            refine wp_steps 3 (t' := (3, [some (.ref 84), some (.int 0), some (.int v_2)], [], (HD, m_2, w_2, mr))) rfl ?_
            have hj : joA s.2.2.1 = -12 := by rw [eT]; rfl
            have ev : pfJ (-12) v v_2 = 0 := by simp [pfJ, c_2, c_3]
            obtain ⟨k1, k2, k3⟩ := GO_bi (c := -12) hs0 h (by rw [eT]; decide) go g2 go2 (by decide) (by decide)
            rw [ev] at k2
            have e : lpF b n joA sub (g + 1) s = lpF b n joA sub g (adP (-12) (sub (stP b n s)).2) := by
              show (if _ then _ else _) = _
              rw [hj, if_neg (by decide), if_pos hF]
            rw [e]
            exact ih _ _ _ _ _ k1 k2 ((hnm.fr f1).fr f2) ((hf.tr f1).tr f2) (by omega)
          · have c_3 : ¬ (v_2 = 0) := of_decide_eq_false c_3
            refine wp_steps 4 (t' := (3, [some (.ref 84), some (.int 1), some (.int v_2)], [], (HD, m_2, w_2, mr))) rfl ?_
            have hj : joA s.2.2.1 = -12 := by rw [eT]; rfl
            have ev : pfJ (-12) v v_2 = 1 := by simp [pfJ, c_2, c_3]
            obtain ⟨k1, k2, k3⟩ := GO_bi (c := -12) hs0 h (by rw [eT]; decide) go g2 go2 (by decide) (by decide)
            rw [ev] at k2
            have e : lpF b n joA sub (g + 1) s = lpF b n joA sub g (adP (-12) (sub (stP b n s)).2) := by
              show (if _ then _ else _) = _
              rw [hj, if_neg (by decide), if_pos hF]
            rw [e]
            exact ih _ _ _ _ _ k1 k2 ((hnm.fr f1).fr f2) ((hf.tr f1).tr f2) (by omega)
      · have g2 := r2.2 (Bool.eq_false_iff.mpr hF)
        refine wp_steps 2 (t' := (20, [some (.ref 84), some (.int v), some (.int v_2)], [.int v], (HD, m_2, w_2, mr))) rfl ?_
        refine wp_bI rfl (fun c_4 => ?_) (fun c_4 => ?_)
        · have c_4 : v = 0 := of_decide_eq_true c_4
          refine wp_steps 12 (t' := (12, [some (.ref 84), some (.int 0), some (.int v_2)], [.int 0, .int 0, .int 0, .int 0, .int 0, .int 100, .int 110, .int 97, .ref 84], (HD, m_2, w_2, mr))) rfl ?_
          refine wp_calv (as := [.int 97, .int 110, .int 100, .int 0, .int 0, .int 0, .int 0, .int 0]) rfl rfl rfl (Nat.le_of_ble_eq_true rfl) ⟨by decide, rfl⟩ ((r_word_b (ml := w_2) (mr := mr) g2.b)) (by omega) ?_
          rintro _ _ ⟨rfl, rfl⟩
          show aWP _ _ (13, [some (.ref 84), some (.int 0), some (.int v_2)], [.int 0], (HD, m_2, w_2, mr)) _
          refine wp_bI rfl (fun c_5 => ?_) (fun c_5 => ?_)
          rotate_left
          · have c_5 : ¬ ((0 : Int32) = 0) := of_decide_eq_false c_5
            exact absurd c_5 (by decide)
          have c_5 : (0 : Int32) = 0 := of_decide_eq_true c_5
          refine wp_steps 1 (t' := (29, [some (.ref 84), some (.int 0), some (.int v_2)], [.int 0], (HD, m_2, w_2, mr))) rfl ?_
          refine wp_ret rfl rfl ⟨⟨Nat.le_refl _, Nat.le_refl _⟩, ?_⟩
          have hj : joA s.2.2.1 = -12 := by rw [eT]; rfl
          have e : lpF b n joA sub (g + 1) s = (false, (sub (stP b n s)).2) := by
            show (if _ then _ else _) = _
            rw [hj, if_neg (by decide), if_neg hF]
          refine ⟨_, _, _, rfl, rfl, (hf.tr f1).tr f2, ?_⟩
          rw [e]
          exact ⟨fun z => Bool.noConfusion z, fun _ => g2⟩
        · have c_4 : ¬ (v = 0) := of_decide_eq_false c_4
          refine wp_steps 1 (t' := (22, [some (.ref 84), some (.int v), some (.int v_2)], [.int v_2], (HD, m_2, w_2, mr))) rfl ?_
          refine wp_bI rfl (fun c_6 => ?_) (fun c_6 => ?_)
          · have c_6 : v_2 = 0 := of_decide_eq_true c_6
            refine wp_steps 12 (t' := (12, [some (.ref 84), some (.int 0), some (.int v_2)], [.int 0, .int 0, .int 0, .int 0, .int 0, .int 100, .int 110, .int 97, .ref 84], (HD, m_2, w_2, mr))) rfl ?_
            refine wp_calv (as := [.int 97, .int 110, .int 100, .int 0, .int 0, .int 0, .int 0, .int 0]) rfl rfl rfl (Nat.le_of_ble_eq_true rfl) ⟨by decide, rfl⟩ ((r_word_b (ml := w_2) (mr := mr) g2.b)) (by omega) ?_
            rintro _ _ ⟨rfl, rfl⟩
            show aWP _ _ (13, [some (.ref 84), some (.int 0), some (.int v_2)], [.int 0], (HD, m_2, w_2, mr)) _
            refine wp_bI rfl (fun c_7 => ?_) (fun c_7 => ?_)
            rotate_left
            · have c_7 : ¬ ((0 : Int32) = 0) := of_decide_eq_false c_7
              exact absurd c_7 (by decide)
            have c_7 : (0 : Int32) = 0 := of_decide_eq_true c_7
            refine wp_steps 1 (t' := (29, [some (.ref 84), some (.int 0), some (.int v_2)], [.int 0], (HD, m_2, w_2, mr))) rfl ?_
            refine wp_ret rfl rfl ⟨⟨Nat.le_refl _, Nat.le_refl _⟩, ?_⟩
            have hj : joA s.2.2.1 = -12 := by rw [eT]; rfl
            have e : lpF b n joA sub (g + 1) s = (false, (sub (stP b n s)).2) := by
              show (if _ then _ else _) = _
              rw [hj, if_neg (by decide), if_neg hF]
            refine ⟨_, _, _, rfl, rfl, (hf.tr f1).tr f2, ?_⟩
            rw [e]
            exact ⟨fun z => Bool.noConfusion z, fun _ => g2⟩
          · have c_6 : ¬ (v_2 = 0) := of_decide_eq_false c_6
            refine wp_steps 13 (t' := (12, [some (.ref 84), some (.int 1), some (.int v_2)], [.int 0, .int 0, .int 0, .int 0, .int 0, .int 100, .int 110, .int 97, .ref 84], (HD, m_2, w_2, mr))) rfl ?_
            refine wp_calv (as := [.int 97, .int 110, .int 100, .int 0, .int 0, .int 0, .int 0, .int 0]) rfl rfl rfl (Nat.le_of_ble_eq_true rfl) ⟨by decide, rfl⟩ ((r_word_b (ml := w_2) (mr := mr) g2.b)) (by omega) ?_
            rintro _ _ ⟨rfl, rfl⟩
            show aWP _ _ (13, [some (.ref 84), some (.int 1), some (.int v_2)], [.int 0], (HD, m_2, w_2, mr)) _
            refine wp_bI rfl (fun c_8 => ?_) (fun c_8 => ?_)
            rotate_left
            · have c_8 : ¬ ((0 : Int32) = 0) := of_decide_eq_false c_8
              exact absurd c_8 (by decide)
            have c_8 : (0 : Int32) = 0 := of_decide_eq_true c_8
            refine wp_steps 1 (t' := (29, [some (.ref 84), some (.int 1), some (.int v_2)], [.int 1], (HD, m_2, w_2, mr))) rfl ?_
            refine wp_ret rfl rfl ⟨⟨Nat.le_refl _, Nat.le_refl _⟩, ?_⟩
            have hj : joA s.2.2.1 = -12 := by rw [eT]; rfl
            have e : lpF b n joA sub (g + 1) s = (false, (sub (stP b n s)).2) := by
              show (if _ then _ else _) = _
              rw [hj, if_neg (by decide), if_neg hF]
            refine ⟨_, _, _, rfl, rfl, (hf.tr f1).tr f2, ?_⟩
            rw [e]
            exact ⟨fun z => Bool.noConfusion z, fun _ => g2⟩
set_option maxRecDepth 20000 in
set_option maxHeartbeats 1000000 in
theorem r_both0 {X : aXt × Value} {mr : Nat → Nat → Option Nat} (hM : MRok mr) {b : Nat → Int32} {n t : Nat} (hnn : nnB b n) {nm : Nat → Int32} {d : Nat} (hd : 4 ≤ d) {sub : pF} (hsub : cwR X mr b n t 0 nm d 166 29 sub) : cwR X mr b n t 0 nm (d + 1) 167 30 (chF b n joA sub) := by
  intro m w s h hnm
  refine cw_of (cd := cd_X7_both0) (nL := 3) rfl rfl ?_
  show aWP _ _ (0, [some (.ref 84), none, none], [], (HD, m, w, mr)) _
  refine wp_steps 1 (t' := (1, [some (.ref 84), none, none], [.ref 84], (HD, m, w, mr))) rfl ?_
  refine wp_calv (as := []) rfl rfl rfl (Nat.le_of_ble_eq_true rfl) ⟨by decide, rfl⟩ ((hsub _ _ _ h hnm)) (by omega) ?_
  rintro _ _ ⟨v_2, m_2, w_2, rfl, rfl, f2, r2⟩
  show aWP _ _ (2, [some (.ref 84), none, none], [.int v_2], (HD, m_2, w_2, mr)) _
  by_cases hF : (sub s).1 = true
  · obtain ⟨g2, go2⟩ := r2.1 hF
    refine wp_steps 1 (t' := (3, [some (.ref 84), some (.int v_2), none], [], (HD, m_2, w_2, mr))) rfl ?_
    have e : chF b n joA sub s = lpF b n joA sub 160 (sub s).2 := if_pos hF
    rw [e]
    exact l_both0 hM hnn hd hsub h.2.2.1.2.2.2.2 160 _ _ _ _ _ g2 (go2.wk (by decide)) (hnm.fr f2) f2 (by have := g2.1.1.2.2.2; omega)
  · have g2 := r2.2 (Bool.eq_false_iff.mpr hF)
    refine wp_steps 10 (t' := (12, [some (.ref 84), some (.int v_2), none], [.int 0, .int 0, .int 0, .int 0, .int 0, .int 100, .int 110, .int 97, .ref 84], (HD, m_2, w_2, mr))) rfl ?_
    refine wp_calv (as := [.int 97, .int 110, .int 100, .int 0, .int 0, .int 0, .int 0, .int 0]) rfl rfl rfl (Nat.le_of_ble_eq_true rfl) ⟨by decide, rfl⟩ ((r_word_b (ml := w_2) (mr := mr) g2.b)) (by omega) ?_
    rintro _ _ ⟨rfl, rfl⟩
    show aWP _ _ (13, [some (.ref 84), some (.int v_2), none], [.int 0], (HD, m_2, w_2, mr)) _
    refine wp_bI rfl (fun c_1 => ?_) (fun c_1 => ?_)
    rotate_left
    · have c_1 : ¬ ((0 : Int32) = 0) := of_decide_eq_false c_1
      exact absurd c_1 (by decide)
    have c_1 : (0 : Int32) = 0 := of_decide_eq_true c_1
    refine wp_steps 1 (t' := (29, [some (.ref 84), some (.int v_2), none], [.int v_2], (HD, m_2, w_2, mr))) rfl ?_
    refine wp_ret rfl rfl ⟨⟨Nat.le_refl _, Nat.le_refl _⟩, ?_⟩
    have e : chF b n joA sub s = (false, (sub s).2) := if_neg hF
    refine ⟨_, _, _, rfl, rfl, f2, ?_⟩
    rw [e]
    exact ⟨fun z => Bool.noConfusion z, fun _ => g2⟩
set_option maxRecDepth 20000 in
set_option maxHeartbeats 1000000 in
theorem l_either0 {X : aXt × Value} {mr : Nat → Nat → Option Nat} (hM : MRok mr) {b : Nat → Int32} {n t : Nat} (hnn : nnB b n) {nm : Nat → Int32} {d : Nat} (hd : 4 ≤ d) {sub : pF} (hsub : cwR X mr b n t 0 nm d 167 30 sub) {s0 : pS} (hs0 : s0.2.2.2.2.length ≤ s0.1) {m0 : Nat → Nat → Int32} : ∀ (g : Nat) (v : Int32) (m : Nat → Nat → Int32) (w : Nat → Nat → Int64) (s : pS) (o1 : Option Value), RS b n t 0 m w s → GO nm 31 s0 s v → nmO m nm → frR m0 m → n ≤ s.1 + g → aWP (aEx (aTb X) d) cd_X7_either0 (3, [some (.ref 84), some (.int v), o1], [], (HD, m, w, mr)) (fun r h' => (HD.1 ≤ h'.1.1 ∧ HD.2.1 ≤ h'.1.2.1) ∧ ∃ v m' w', r = some (.int v) ∧ h' = (HD, m', w', mr) ∧ frR m0 m' ∧ RES b n t 0 nm 31 m' w' s0 (lpF b n joO sub g s) v) := by
  intro g
  induction g with
  | zero =>
    intro v m w s o1 h go hnm hf hg
    have h0 : s.2.2.1 = 0 := h.T.trans (lx_n (by omega))
    refine wp_steps 9 (t' := (12, [some (.ref 84), some (.int v), o1], [.int 0, .int 0, .int 0, .int 0, .int 0, .int 0, .int 114, .int 111, .ref 84], (HD, m, w, mr))) rfl ?_
    refine wp_calv (as := [.int 111, .int 114, .int 0, .int 0, .int 0, .int 0, .int 0, .int 0]) rfl rfl rfl (Nat.le_of_ble_eq_true rfl) ⟨by decide, rfl⟩ ((rw_or (ml := w) hM h)) (by omega) ?_
    rintro _ _ ⟨rfl, rfl⟩
    show aWP _ _ (13, [some (.ref 84), some (.int v), o1], [.int (if s.2.2.1 = 6 then (1 : Int32) else 0)], (HD, m, w, mr)) _
    refine wp_bI rfl (fun c_1 => ?_) (fun c_1 => ?_)
    rotate_left
    · have c_1 : ¬ ((if s.2.2.1 = 6 then (1 : Int32) else 0) = 0) := of_decide_eq_false c_1
      exact absurd (if_neg (by rw [h0]; decide)) c_1
    have c_1 : (if s.2.2.1 = 6 then (1 : Int32) else 0) = 0 := of_decide_eq_true c_1
    refine wp_steps 1 (t' := (29, [some (.ref 84), some (.int v), o1], [.int v], (HD, m, w, mr))) rfl ?_
    refine wp_ret rfl rfl ⟨⟨Nat.le_refl _, Nat.le_refl _⟩, ?_⟩
    have hj : joO s.2.2.1 = 0 := by simp [joO, i0_f c_1]
    have e : lpF b n joO sub 0 s = (true, s) := rfl
    refine ⟨_, _, _, rfl, rfl, hf, ?_⟩
    rw [e]
    exact ⟨fun _ => ⟨h, go⟩, fun z => Bool.noConfusion z⟩
  | succ g ih =>
    intro v m w s o1 h go hnm hf hg
    refine wp_steps 9 (t' := (12, [some (.ref 84), some (.int v), o1], [.int 0, .int 0, .int 0, .int 0, .int 0, .int 0, .int 114, .int 111, .ref 84], (HD, m, w, mr))) rfl ?_
    refine wp_calv (as := [.int 111, .int 114, .int 0, .int 0, .int 0, .int 0, .int 0, .int 0]) rfl rfl rfl (Nat.le_of_ble_eq_true rfl) ⟨by decide, rfl⟩ ((rw_or (ml := w) hM h)) (by omega) ?_
    rintro _ _ ⟨rfl, rfl⟩
    show aWP _ _ (13, [some (.ref 84), some (.int v), o1], [.int (if s.2.2.1 = 6 then (1 : Int32) else 0)], (HD, m, w, mr)) _
    refine wp_bI rfl (fun c_1 => ?_) (fun c_1 => ?_)
    · have c_1 : (if s.2.2.1 = 6 then (1 : Int32) else 0) = 0 := of_decide_eq_true c_1
      refine wp_steps 1 (t' := (29, [some (.ref 84), some (.int v), o1], [.int v], (HD, m, w, mr))) rfl ?_
      refine wp_ret rfl rfl ⟨⟨Nat.le_refl _, Nat.le_refl _⟩, ?_⟩
      have hj : joO s.2.2.1 = 0 := by simp [joO, i0_f c_1]
      have e : lpF b n joO sub (g + 1) s = (true, s) := if_pos hj
      refine ⟨_, _, _, rfl, rfl, hf, ?_⟩
      rw [e]
      exact ⟨fun _ => ⟨h, go⟩, fun z => Bool.noConfusion z⟩
    · have c_1 : ¬ ((if s.2.2.1 = 6 then (1 : Int32) else 0) = 0) := of_decide_eq_false c_1
      refine wp_steps 1 (t' := (15, [some (.ref 84), some (.int v), o1], [.ref 84], (HD, m, w, mr))) rfl ?_
      have eT : s.2.2.1 = 6 := i0_t c_1
      refine wp_calv (as := []) rfl rfl rfl (Nat.le_of_ble_eq_true rfl) ⟨by decide, rfl⟩ ((r_next (ml := w) hM h hnn (by rw [← h.T, eT]; decide))) (by omega) ?_
      rintro _ _ ⟨rfl, m_1, w_1, rfl, f1, g1⟩
      show aWP _ _ (16, [some (.ref 84), some (.int v), o1], [], (HD, m_1, w_1, mr)) _
      refine wp_steps 1 (t' := (17, [some (.ref 84), some (.int v), o1], [.ref 84], (HD, m_1, w_1, mr))) rfl ?_
      refine wp_calv (as := []) rfl rfl rfl (Nat.le_of_ble_eq_true rfl) ⟨by decide, rfl⟩ ((hsub _ _ _ g1 (hnm.fr f1))) (by omega) ?_
      rintro _ _ ⟨v_2, m_2, w_2, rfl, rfl, f2, r2⟩
      show aWP _ _ (18, [some (.ref 84), some (.int v), o1], [.int v_2], (HD, m_2, w_2, mr)) _
      by_cases hF : (sub (stP b n s)).1 = true
      · obtain ⟨g2, go2⟩ := r2.1 hF
        refine wp_steps 2 (t' := (20, [some (.ref 84), some (.int v), some (.int v_2)], [.int v], (HD, m_2, w_2, mr))) rfl ?_
        refine wp_bI rfl (fun c_2 => ?_) (fun c_2 => ?_)
        · have c_2 : ¬ v = 0 := of_decide_eq_true c_2
          refine wp_steps 4 (t' := (3, [some (.ref 84), some (.int 1), some (.int v_2)], [], (HD, m_2, w_2, mr))) rfl ?_
          have hj : joO s.2.2.1 = -11 := by rw [eT]; rfl
          have ev : pfJ (-11) v v_2 = 1 := by simp [pfJ, c_2]
          obtain ⟨k1, k2, k3⟩ := GO_bi (c := -11) hs0 h (by rw [eT]; decide) go g2 go2 (by decide) (by decide)
          rw [ev] at k2
          have e : lpF b n joO sub (g + 1) s = lpF b n joO sub g (adP (-11) (sub (stP b n s)).2) := by
            show (if _ then _ else _) = _
            rw [hj, if_neg (by decide), if_pos hF]
          rw [e]
          exact ih _ _ _ _ _ k1 k2 ((hnm.fr f1).fr f2) ((hf.tr f1).tr f2) (by omega)
        · have c_2 : v = 0 := Decidable.not_not.mp (of_decide_eq_false c_2)
          refine wp_steps 1 (t' := (22, [some (.ref 84), some (.int v), some (.int v_2)], [.int v_2], (HD, m_2, w_2, mr))) rfl ?_
          refine wp_bI rfl (fun c_3 => ?_) (fun c_3 => ?_)
          · have c_3 : v_2 = 0 := of_decide_eq_true c_3
            refine wp_steps 3 (t' := (3, [some (.ref 84), some (.int 0), some (.int v_2)], [], (HD, m_2, w_2, mr))) rfl ?_
            have hj : joO s.2.2.1 = -11 := by rw [eT]; rfl
            have ev : pfJ (-11) v v_2 = 0 := by simp [pfJ, c_2, c_3]
            obtain ⟨k1, k2, k3⟩ := GO_bi (c := -11) hs0 h (by rw [eT]; decide) go g2 go2 (by decide) (by decide)
            rw [ev] at k2
            have e : lpF b n joO sub (g + 1) s = lpF b n joO sub g (adP (-11) (sub (stP b n s)).2) := by
              show (if _ then _ else _) = _
              rw [hj, if_neg (by decide), if_pos hF]
            rw [e]
            exact ih _ _ _ _ _ k1 k2 ((hnm.fr f1).fr f2) ((hf.tr f1).tr f2) (by omega)
          · have c_3 : ¬ (v_2 = 0) := of_decide_eq_false c_3
            refine wp_steps 4 (t' := (3, [some (.ref 84), some (.int 1), some (.int v_2)], [], (HD, m_2, w_2, mr))) rfl ?_
            have hj : joO s.2.2.1 = -11 := by rw [eT]; rfl
            have ev : pfJ (-11) v v_2 = 1 := by simp [pfJ, c_2, c_3]
            obtain ⟨k1, k2, k3⟩ := GO_bi (c := -11) hs0 h (by rw [eT]; decide) go g2 go2 (by decide) (by decide)
            rw [ev] at k2
            have e : lpF b n joO sub (g + 1) s = lpF b n joO sub g (adP (-11) (sub (stP b n s)).2) := by
              show (if _ then _ else _) = _
              rw [hj, if_neg (by decide), if_pos hF]
            rw [e]
            exact ih _ _ _ _ _ k1 k2 ((hnm.fr f1).fr f2) ((hf.tr f1).tr f2) (by omega)
      · have g2 := r2.2 (Bool.eq_false_iff.mpr hF)
        refine wp_steps 2 (t' := (20, [some (.ref 84), some (.int v), some (.int v_2)], [.int v], (HD, m_2, w_2, mr))) rfl ?_
        refine wp_bI rfl (fun c_4 => ?_) (fun c_4 => ?_)
        · have c_4 : ¬ v = 0 := of_decide_eq_true c_4
          refine wp_steps 13 (t' := (12, [some (.ref 84), some (.int 1), some (.int v_2)], [.int 0, .int 0, .int 0, .int 0, .int 0, .int 0, .int 114, .int 111, .ref 84], (HD, m_2, w_2, mr))) rfl ?_
          refine wp_calv (as := [.int 111, .int 114, .int 0, .int 0, .int 0, .int 0, .int 0, .int 0]) rfl rfl rfl (Nat.le_of_ble_eq_true rfl) ⟨by decide, rfl⟩ ((r_word_b (ml := w_2) (mr := mr) g2.b)) (by omega) ?_
          rintro _ _ ⟨rfl, rfl⟩
          show aWP _ _ (13, [some (.ref 84), some (.int 1), some (.int v_2)], [.int 0], (HD, m_2, w_2, mr)) _
          refine wp_bI rfl (fun c_5 => ?_) (fun c_5 => ?_)
          rotate_left
          · have c_5 : ¬ ((0 : Int32) = 0) := of_decide_eq_false c_5
            exact absurd c_5 (by decide)
          have c_5 : (0 : Int32) = 0 := of_decide_eq_true c_5
          refine wp_steps 1 (t' := (29, [some (.ref 84), some (.int 1), some (.int v_2)], [.int 1], (HD, m_2, w_2, mr))) rfl ?_
          refine wp_ret rfl rfl ⟨⟨Nat.le_refl _, Nat.le_refl _⟩, ?_⟩
          have hj : joO s.2.2.1 = -11 := by rw [eT]; rfl
          have e : lpF b n joO sub (g + 1) s = (false, (sub (stP b n s)).2) := by
            show (if _ then _ else _) = _
            rw [hj, if_neg (by decide), if_neg hF]
          refine ⟨_, _, _, rfl, rfl, (hf.tr f1).tr f2, ?_⟩
          rw [e]
          exact ⟨fun z => Bool.noConfusion z, fun _ => g2⟩
        · have c_4 : v = 0 := Decidable.not_not.mp (of_decide_eq_false c_4)
          refine wp_steps 1 (t' := (22, [some (.ref 84), some (.int v), some (.int v_2)], [.int v_2], (HD, m_2, w_2, mr))) rfl ?_
          refine wp_bI rfl (fun c_6 => ?_) (fun c_6 => ?_)
          · have c_6 : v_2 = 0 := of_decide_eq_true c_6
            refine wp_steps 12 (t' := (12, [some (.ref 84), some (.int 0), some (.int v_2)], [.int 0, .int 0, .int 0, .int 0, .int 0, .int 0, .int 114, .int 111, .ref 84], (HD, m_2, w_2, mr))) rfl ?_
            refine wp_calv (as := [.int 111, .int 114, .int 0, .int 0, .int 0, .int 0, .int 0, .int 0]) rfl rfl rfl (Nat.le_of_ble_eq_true rfl) ⟨by decide, rfl⟩ ((r_word_b (ml := w_2) (mr := mr) g2.b)) (by omega) ?_
            rintro _ _ ⟨rfl, rfl⟩
            show aWP _ _ (13, [some (.ref 84), some (.int 0), some (.int v_2)], [.int 0], (HD, m_2, w_2, mr)) _
            refine wp_bI rfl (fun c_7 => ?_) (fun c_7 => ?_)
            rotate_left
            · have c_7 : ¬ ((0 : Int32) = 0) := of_decide_eq_false c_7
              exact absurd c_7 (by decide)
            have c_7 : (0 : Int32) = 0 := of_decide_eq_true c_7
            refine wp_steps 1 (t' := (29, [some (.ref 84), some (.int 0), some (.int v_2)], [.int 0], (HD, m_2, w_2, mr))) rfl ?_
            refine wp_ret rfl rfl ⟨⟨Nat.le_refl _, Nat.le_refl _⟩, ?_⟩
            have hj : joO s.2.2.1 = -11 := by rw [eT]; rfl
            have e : lpF b n joO sub (g + 1) s = (false, (sub (stP b n s)).2) := by
              show (if _ then _ else _) = _
              rw [hj, if_neg (by decide), if_neg hF]
            refine ⟨_, _, _, rfl, rfl, (hf.tr f1).tr f2, ?_⟩
            rw [e]
            exact ⟨fun z => Bool.noConfusion z, fun _ => g2⟩
          · have c_6 : ¬ (v_2 = 0) := of_decide_eq_false c_6
            refine wp_steps 13 (t' := (12, [some (.ref 84), some (.int 1), some (.int v_2)], [.int 0, .int 0, .int 0, .int 0, .int 0, .int 0, .int 114, .int 111, .ref 84], (HD, m_2, w_2, mr))) rfl ?_
            refine wp_calv (as := [.int 111, .int 114, .int 0, .int 0, .int 0, .int 0, .int 0, .int 0]) rfl rfl rfl (Nat.le_of_ble_eq_true rfl) ⟨by decide, rfl⟩ ((r_word_b (ml := w_2) (mr := mr) g2.b)) (by omega) ?_
            rintro _ _ ⟨rfl, rfl⟩
            show aWP _ _ (13, [some (.ref 84), some (.int 1), some (.int v_2)], [.int 0], (HD, m_2, w_2, mr)) _
            refine wp_bI rfl (fun c_8 => ?_) (fun c_8 => ?_)
            rotate_left
            · have c_8 : ¬ ((0 : Int32) = 0) := of_decide_eq_false c_8
              exact absurd c_8 (by decide)
            have c_8 : (0 : Int32) = 0 := of_decide_eq_true c_8
            refine wp_steps 1 (t' := (29, [some (.ref 84), some (.int 1), some (.int v_2)], [.int 1], (HD, m_2, w_2, mr))) rfl ?_
            refine wp_ret rfl rfl ⟨⟨Nat.le_refl _, Nat.le_refl _⟩, ?_⟩
            have hj : joO s.2.2.1 = -11 := by rw [eT]; rfl
            have e : lpF b n joO sub (g + 1) s = (false, (sub (stP b n s)).2) := by
              show (if _ then _ else _) = _
              rw [hj, if_neg (by decide), if_neg hF]
            refine ⟨_, _, _, rfl, rfl, (hf.tr f1).tr f2, ?_⟩
            rw [e]
            exact ⟨fun z => Bool.noConfusion z, fun _ => g2⟩
set_option maxRecDepth 20000 in
set_option maxHeartbeats 1000000 in
theorem r_either0 {X : aXt × Value} {mr : Nat → Nat → Option Nat} (hM : MRok mr) {b : Nat → Int32} {n t : Nat} (hnn : nnB b n) {nm : Nat → Int32} {d : Nat} (hd : 4 ≤ d) {sub : pF} (hsub : cwR X mr b n t 0 nm d 167 30 sub) : cwR X mr b n t 0 nm (d + 1) 168 31 (chF b n joO sub) := by
  intro m w s h hnm
  refine cw_of (cd := cd_X7_either0) (nL := 3) rfl rfl ?_
  show aWP _ _ (0, [some (.ref 84), none, none], [], (HD, m, w, mr)) _
  refine wp_steps 1 (t' := (1, [some (.ref 84), none, none], [.ref 84], (HD, m, w, mr))) rfl ?_
  refine wp_calv (as := []) rfl rfl rfl (Nat.le_of_ble_eq_true rfl) ⟨by decide, rfl⟩ ((hsub _ _ _ h hnm)) (by omega) ?_
  rintro _ _ ⟨v_2, m_2, w_2, rfl, rfl, f2, r2⟩
  show aWP _ _ (2, [some (.ref 84), none, none], [.int v_2], (HD, m_2, w_2, mr)) _
  by_cases hF : (sub s).1 = true
  · obtain ⟨g2, go2⟩ := r2.1 hF
    refine wp_steps 1 (t' := (3, [some (.ref 84), some (.int v_2), none], [], (HD, m_2, w_2, mr))) rfl ?_
    have e : chF b n joO sub s = lpF b n joO sub 160 (sub s).2 := if_pos hF
    rw [e]
    exact l_either0 hM hnn hd hsub h.2.2.1.2.2.2.2 160 _ _ _ _ _ g2 (go2.wk (by decide)) (hnm.fr f2) f2 (by have := g2.1.1.2.2.2; omega)
  · have g2 := r2.2 (Bool.eq_false_iff.mpr hF)
    refine wp_steps 10 (t' := (12, [some (.ref 84), some (.int v_2), none], [.int 0, .int 0, .int 0, .int 0, .int 0, .int 0, .int 114, .int 111, .ref 84], (HD, m_2, w_2, mr))) rfl ?_
    refine wp_calv (as := [.int 111, .int 114, .int 0, .int 0, .int 0, .int 0, .int 0, .int 0]) rfl rfl rfl (Nat.le_of_ble_eq_true rfl) ⟨by decide, rfl⟩ ((r_word_b (ml := w_2) (mr := mr) g2.b)) (by omega) ?_
    rintro _ _ ⟨rfl, rfl⟩
    show aWP _ _ (13, [some (.ref 84), some (.int v_2), none], [.int 0], (HD, m_2, w_2, mr)) _
    refine wp_bI rfl (fun c_1 => ?_) (fun c_1 => ?_)
    rotate_left
    · have c_1 : ¬ ((0 : Int32) = 0) := of_decide_eq_false c_1
      exact absurd c_1 (by decide)
    have c_1 : (0 : Int32) = 0 := of_decide_eq_true c_1
    refine wp_steps 1 (t' := (29, [some (.ref 84), some (.int v_2), none], [.int v_2], (HD, m_2, w_2, mr))) rfl ?_
    refine wp_ret rfl rfl ⟨⟨Nat.le_refl _, Nat.le_refl _⟩, ?_⟩
    have e : chF b n joO sub s = (false, (sub s).2) := if_neg hF
    refine ⟨_, _, _, rfl, rfl, f2, ?_⟩
    rw [e]
    exact ⟨fun z => Bool.noConfusion z, fun _ => g2⟩
