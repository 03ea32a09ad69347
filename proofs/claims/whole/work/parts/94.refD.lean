/-! the reference: gap, takes, best (written by wip/whole/mkrefD.py) -/
set_option maxRecDepth 20000 in
set_option maxHeartbeats 1000000 in
theorem q_gap_no {X : aXt × Value} {mi : Nat → Nat → Int32} {ml : Nat → Nat → Int64} {mr : Nat → Nat → Option Nat} (hM : MRok mr) {N : Nat} (hN : mi 84 12 = nI N) (hN5 : N ≤ 5) {one w : Int32} (hg : ¬ aixn one N = true) : aCW X 4 194 [.ref 84, .int one, .int w] (HD, mi, ml, mr) (qR mi mr (.int (-1000))) := by
  refine cw_of (cd := cd_X7_gap) (nL := 5) rfl rfl ?_
  show aWP _ _ (0, [some (.ref 84), some (.int one), some (.int w), none, none], [], (HD, mi, ml, mr)) _
  refine wp_steps 2 (t' := (2, [some (.ref 84), some (.int one), some (.int w), none, none], [.int one, .ref 84], (HD, mi, ml, mr))) rfl ?_
  refine wp_calv (as := [.int one]) rfl rfl rfl (Nat.le_of_ble_eq_true rfl) ⟨by decide, rfl⟩ ((c_isOne_no (ml := ml) hM hN hN5 hg)) (by decide) ?_
  rintro _ _ ⟨rfl, rfl⟩
  show aWP _ _ (3, [some (.ref 84), some (.int one), some (.int w), none, none], [.int 0], (HD, mi, ml, mr)) _
  refine wp_bI rfl (fun c_1 => ?_) (fun c_1 => ?_)
  rotate_left
  · have c_1 : ¬ ((0 : Int32) = 0) := of_decide_eq_false c_1
    exact absurd c_1 (by decide)
  have c_1 : (0 : Int32) = 0 := of_decide_eq_true c_1
  refine wp_steps 1 (t' := (11, [some (.ref 84), some (.int one), some (.int w), none, none], [.int (-1000)], (HD, mi, ml, mr))) rfl ?_
  refine wp_ret rfl rfl ⟨⟨Nat.le_refl _, Nat.le_refl _⟩, ?_⟩
  exact ⟨rfl, mi, ml, rfl, frQ.rf mi⟩
set_option maxRecDepth 20000 in
set_option maxHeartbeats 1000000 in
theorem l_rgap {X : aXt × Value} {mi : Nat → Nat → Int32} {ml : Nat → Nat → Int64} {mr : Nat → Nat → Option Nat} (hM : MRok mr) {c0 c1 c2 : List Int32} (hR : RUX mi c0 c1 c2) {p : Nat} (hp5 : p < 5) {w : Int32} {Q : Option Value → aM → Prop} (hk : (∀ m' x', frY mi m' → aWP (aEx (aTb X) 45) cd_X7_gap (34, [some (.ref 84), some (.int (nI p)), some (.int w), some (.int (nI (wkF (maG (twR mi c0 c1 c2) (puR mi p)) 8))), some (.int (nI 8))], [], (HD, m', x', mr)) Q)) : ∀ (g s : Nat) (m : Nat → Nat → Int32) (x : Nat → Nat → Int64), s + g = 8 → 0 < s → frY mi m → aWP (aEx (aTb X) 45) cd_X7_gap (16, [some (.ref 84), some (.int (nI p)), some (.int w), some (.int (nI (wkF (maG (twR mi c0 c1 c2) (puR mi p)) s))), some (.int (nI s))], [], (HD, m, x, mr)) Q := by
  intro g
  induction g with
  | zero =>
    intro s m x hg h0 h
    obtain rfl : s = 8 := by omega
    refine wp_steps 2 (t' := (18, [some (.ref 84), some (.int (nI p)), some (.int w), some (.int (nI (wkF (maG (twR mi c0 c1 c2) (puR mi p)) 8))), some (.int (nI 8))], [.int 8, .int (nI 8)], (HD, m, x, mr))) rfl ?_
    refine wp_bC rfl (fun c_1 => ?_) (fun c_1 => ?_)
    rotate_left
    · have c_1 : ¬ (8 ≤ (nI 8)) := of_decide_eq_false c_1
      exact absurd (by decide) c_1
    have c_1 : 8 ≤ (nI 8) := of_decide_eq_true c_1
    exact hk m x h
  | succ g ih =>
    intro s m x hg h0 h
    have hs : s < 8 := by omega
    have hw := wkF_lt (maG (twR mi c0 c1 c2) (puR mi p)) s h0
    refine wp_steps 2 (t' := (18, [some (.ref 84), some (.int (nI p)), some (.int w), some (.int (nI (wkF (maG (twR mi c0 c1 c2) (puR mi p)) s))), some (.int (nI s))], [.int 8, .int (nI s)], (HD, m, x, mr))) rfl ?_
    refine wp_bC rfl (fun c_1 => ?_) (fun c_1 => ?_)
    · have c_1 : 8 ≤ (nI s) := of_decide_eq_true c_1
      exact absurd c_1 (nI_ge hs (by decide))
    have c_1 : ¬ (8 ≤ (nI s)) := of_decide_eq_false c_1
    refine wp_steps 3 (t' := (22, [some (.ref 84), some (.int (nI p)), some (.int w), some (.int (nI (wkF (maG (twR mi c0 c1 c2) (puR mi p)) s))), some (.int (nI s))], [.int (nI s), .int (nI p), .ref 84], (HD, m, x, mr))) rfl ?_
    refine wp_calv (as := [.int (nI p), .int (nI s)]) rfl rfl rfl (Nat.le_of_ble_eq_true rfl) ⟨by decide, rfl⟩ ((r_over (mi := m) (ml := x) hM (hR.Y h) hp5 hs)) (by decide) ?_
    rintro _ _ ⟨rfl, m_1, x_1, rfl, f1⟩
    rw [twR_Y h, puR_Y h]
    show aWP _ _ (23, [some (.ref 84), some (.int (nI p)), some (.int w), some (.int (nI (wkF (maG (twR mi c0 c1 c2) (puR mi p)) s))), some (.int (nI s))], [.int (maG (twR mi c0 c1 c2) (puR mi p) s)], (HD, m_1, x_1, mr)) _
    refine wp_steps 3 (t' := (26, [some (.ref 84), some (.int (nI p)), some (.int w), some (.int (nI (wkF (maG (twR mi c0 c1 c2) (puR mi p)) s))), some (.int (nI s))], [.int (nI (wkF (maG (twR mi c0 c1 c2) (puR mi p)) s)), .int (nI p), .ref 84, .int (maG (twR mi c0 c1 c2) (puR mi p) s)], (HD, m_1, x_1, mr))) rfl ?_
    refine wp_calv (as := [.int (nI p), .int (nI (wkF (maG (twR mi c0 c1 c2) (puR mi p)) s))]) rfl rfl rfl (Nat.le_of_ble_eq_true rfl) ⟨by decide, rfl⟩ ((r_over (mi := m_1) (ml := x_1) hM (hR.Y (h.tr f1)) hp5 (s := wkF (maG (twR mi c0 c1 c2) (puR mi p)) s) (by omega))) (by decide) ?_
    rintro _ _ ⟨rfl, m_2, x_2, rfl, f2⟩
    rw [twR_Y (h.tr f1), puR_Y (h.tr f1)]
    show aWP _ _ (27, [some (.ref 84), some (.int (nI p)), some (.int w), some (.int (nI (wkF (maG (twR mi c0 c1 c2) (puR mi p)) s))), some (.int (nI s))], [.int (maG (twR mi c0 c1 c2) (puR mi p) (wkF (maG (twR mi c0 c1 c2) (puR mi p)) s)), .int (maG (twR mi c0 c1 c2) (puR mi p) s)], (HD, m_2, x_2, mr)) _
    refine wp_bC rfl (fun c_2 => ?_) (fun c_2 => ?_)
    · have c_2 : (maG (twR mi c0 c1 c2) (puR mi p) (wkF (maG (twR mi c0 c1 c2) (puR mi p)) s)) ≤ (maG (twR mi c0 c1 c2) (puR mi p) s) := of_decide_eq_true c_2
      refine wp_steps 4 (t' := (16, [some (.ref 84), some (.int (nI p)), some (.int w), some (.int (nI (wkF (maG (twR mi c0 c1 c2) (puR mi p)) s))), some (.int ((nI s) + Int32.ofInt 1))], [], (HD, m_2, x_2, mr))) rfl ?_
      have e : wkF (maG (twR mi c0 c1 c2) (puR mi p)) (s + 1) = wkF (maG (twR mi c0 c1 c2) (puR mi p)) s := if_neg (Int32.not_lt.mpr c_2)
      have z := ih (s + 1) m_2 x_2 (by omega) (by omega) ((h.tr f1).tr f2)
      rw [e] at z
      rw [inc_nI]
      exact z
    · have c_2 : ¬ ((maG (twR mi c0 c1 c2) (puR mi p) (wkF (maG (twR mi c0 c1 c2) (puR mi p)) s)) ≤ (maG (twR mi c0 c1 c2) (puR mi p) s)) := of_decide_eq_false c_2
      refine wp_steps 5 (t' := (16, [some (.ref 84), some (.int (nI p)), some (.int w), some (.int (nI s)), some (.int ((nI s) + Int32.ofInt 1))], [], (HD, m_2, x_2, mr))) rfl ?_
      have e : wkF (maG (twR mi c0 c1 c2) (puR mi p)) (s + 1) = s := if_pos (Int32.not_le.mp c_2)
      have z := ih (s + 1) m_2 x_2 (by omega) (by omega) ((h.tr f1).tr f2)
      rw [e] at z
      rw [inc_nI]
      exact z
set_option maxRecDepth 20000 in
set_option maxHeartbeats 1000000 in
theorem q_gap_ok {X : aXt × Value} {mi : Nat → Nat → Int32} {ml : Nat → Nat → Int64} {mr : Nat → Nat → Option Nat} (hM : MRok mr) {N : Nat} (hN : mi 84 12 = nI N) (hN5 : N ≤ 5) {c0 c1 c2 : List Int32} (hR : RUX mi c0 c1 c2) {p : Nat} (hpN : p < N) (hok : okU (puR mi p)) {w : Int32}  : aCW X 46 194 [.ref 84, .int (nI p), .int w] (HD, mi, ml, mr) (qR mi mr (.int (if inR 0 1 w then gpG (twR mi c0 c1 c2) (puR mi p) w else -1000))) := by
  have hp5 : p < 5 := by omega
  refine cw_of (cd := cd_X7_gap) (nL := 5) rfl rfl ?_
  show aWP _ _ (0, [some (.ref 84), some (.int (nI p)), some (.int w), none, none], [], (HD, mi, ml, mr)) _
  refine wp_steps 2 (t' := (2, [some (.ref 84), some (.int (nI p)), some (.int w), none, none], [.int (nI p), .ref 84], (HD, mi, ml, mr))) rfl ?_
  refine wp_calv (as := [.int (nI p)]) rfl rfl rfl (Nat.le_of_ble_eq_true rfl) ⟨by decide, rfl⟩ ((c_isOne_ok (mi := mi) (ml := ml) hM hN hN5 hpN)) (by decide) ?_
  rintro _ _ ⟨rfl, rfl⟩
  show aWP _ _ (3, [some (.ref 84), some (.int (nI p)), some (.int w), none, none], [.int 1], (HD, mi, ml, mr)) _
  refine wp_bI rfl (fun c_1 => ?_) (fun c_1 => ?_)
  · have c_1 : (1 : Int32) = 0 := of_decide_eq_true c_1
    exact absurd c_1 (by decide)
  have c_1 : ¬ ((1 : Int32) = 0) := of_decide_eq_false c_1
  refine wp_steps 4 (t' := (8, [some (.ref 84), some (.int (nI p)), some (.int w), none, none], [.long 1, .long 0, .long w.toInt64], (HD, mi, ml, mr))) rfl ?_
  refine wp_cal (as := [.long w.toInt64, .long 0, .long 1]) rfl rfl rfl (Nat.le_of_ble_eq_true rfl) ((c_in (x := w) (lo := 0) (hi := 1) rfl (by decide) (by decide))) (by decide) ?_
  rintro _ _ ⟨rfl, rfl⟩
  show aWP _ _ (9, [some (.ref 84), some (.int (nI p)), some (.int w), none, none], [.int (if inR 0 1 w then (1 : Int32) else 0)], (HD, mi, ml, mr)) _
  refine wp_bI rfl (fun c_2 => ?_) (fun c_2 => ?_)
  · have c_2 : ¬ (if inR 0 1 w then (1 : Int32) else 0) = 0 := of_decide_eq_true c_2
    refine wp_steps 4 (t' := (16, [some (.ref 84), some (.int (nI p)), some (.int w), some (.int 0), some (.int 1)], [], (HD, mi, ml, mr))) rfl ?_
    have e1 : wkF (maG (twR mi c0 c1 c2) (puR mi p)) 1 = 0 := by
      unfold wkF
      split <;> rfl
    suffices hh : aWP (aEx (aTb X) 45) cd_X7_gap (16, [some (.ref 84), some (.int (nI p)), some (.int w), some (.int (nI (wkF (maG (twR mi c0 c1 c2) (puR mi p)) 1))), some (.int (nI 1))], [], (HD, mi, ml, mr)) _ by
      rw [e1] at hh
      exact hh
    refine l_rgap (ml := ml) hM hR hp5 (fun m_5 x_5 f5 => ?_) 7 1 mi ml rfl (by decide) (frY.rf mi)
    refine wp_steps 1 (t' := (35, [some (.ref 84), some (.int (nI p)), some (.int w), some (.int (nI (wkF (maG (twR mi c0 c1 c2) (puR mi p)) 8))), some (.int (nI 8))], [.int w], (HD, m_5, x_5, mr))) rfl ?_
    refine wp_bI rfl (fun c_81 => ?_) (fun c_81 => ?_)
    · have c_81 : ¬ w = 0 := of_decide_eq_true c_81
      refine wp_steps 3 (t' := (41, [some (.ref 84), some (.int (nI p)), some (.int w), some (.int (nI (wkF (maG (twR mi c0 c1 c2) (puR mi p)) 8))), some (.int (nI 8))], [.int (nI (wkF (maG (twR mi c0 c1 c2) (puR mi p)) 8)), .int (nI p), .ref 84], (HD, m_5, x_5, mr))) rfl ?_
      refine wp_calv (as := [.int (nI p), .int (nI (wkF (maG (twR mi c0 c1 c2) (puR mi p)) 8))]) rfl rfl rfl (Nat.le_of_ble_eq_true rfl) ⟨by decide, rfl⟩ ((r_over (mi := m_5) (ml := x_5) hM (hR.Y f5) hp5 (s := wkF (maG (twR mi c0 c1 c2) (puR mi p)) 8) (wkF_lt _ 8 (by decide)))) (by decide) ?_
      rintro _ _ ⟨rfl, m_7, x_7, rfl, f7⟩
      rw [twR_Y f5, puR_Y f5]
      show aWP _ _ (42, [some (.ref 84), some (.int (nI p)), some (.int w), some (.int (nI (wkF (maG (twR mi c0 c1 c2) (puR mi p)) 8))), some (.int (nI 8))], [.int (maG (twR mi c0 c1 c2) (puR mi p) (wkF (maG (twR mi c0 c1 c2) (puR mi p)) 8))], (HD, m_7, x_7, mr)) _
      refine wp_ret rfl rfl ⟨⟨Nat.le_refl _, Nat.le_refl _⟩, ?_⟩
      exact ⟨by rw [if_pos (show inR 0 1 w from (i0_t c_2))]; unfold gpG; rw [if_neg c_81], m_7, x_7, rfl, (f5.tr f7).Q⟩
    · have c_81 : w = 0 := Decidable.not_not.mp (of_decide_eq_false c_81)
      refine wp_steps 2 (t' := (42, [some (.ref 84), some (.int (nI p)), some (.int w), some (.int (nI (wkF (maG (twR mi c0 c1 c2) (puR mi p)) 8))), some (.int (nI 8))], [.int (nI (wkF (maG (twR mi c0 c1 c2) (puR mi p)) 8))], (HD, m_5, x_5, mr))) rfl ?_
      refine wp_ret rfl rfl ⟨⟨Nat.le_refl _, Nat.le_refl _⟩, ?_⟩
      exact ⟨by rw [if_pos (show inR 0 1 w from (i0_t c_2))]; unfold gpG; rw [if_pos c_81], m_5, x_5, rfl, f5.Q⟩
  · have c_2 : (if inR 0 1 w then (1 : Int32) else 0) = 0 := Decidable.not_not.mp (of_decide_eq_false c_2)
    refine wp_steps 1 (t' := (11, [some (.ref 84), some (.int (nI p)), some (.int w), none, none], [.int (-1000)], (HD, mi, ml, mr))) rfl ?_
    refine wp_ret rfl rfl ⟨⟨Nat.le_refl _, Nat.le_refl _⟩, ?_⟩
    exact ⟨by rw [if_neg (show ¬ (inR 0 1 w) from fun z => (i0_f c_2) z)], mi, ml, rfl, frQ.rf mi⟩
set_option maxRecDepth 20000 in
set_option maxHeartbeats 1000000 in
theorem q_takes_no {X : aXt × Value} {mi : Nat → Nat → Int32} {ml : Nat → Nat → Int64} {mr : Nat → Nat → Option Nat} (hM : MRok mr) {N : Nat} (hN : mi 84 12 = nI N) (hN5 : N ≤ 5) {one hp h : Int32} (hg : ¬ aixn one N = true) : aCW X 4 192 [.ref 84, .int one, .int hp, .int h] (HD, mi, ml, mr) (qR mi mr (.int (-2))) := by
  refine cw_of (cd := cd_X7_takes) (nL := 7) rfl rfl ?_
  show aWP _ _ (0, [some (.ref 84), some (.int one), some (.int hp), some (.int h), none, none, none], [], (HD, mi, ml, mr)) _
  refine wp_steps 2 (t' := (2, [some (.ref 84), some (.int one), some (.int hp), some (.int h), none, none, none], [.int one, .ref 84], (HD, mi, ml, mr))) rfl ?_
  refine wp_calv (as := [.int one]) rfl rfl rfl (Nat.le_of_ble_eq_true rfl) ⟨by decide, rfl⟩ ((c_isOne_no (ml := ml) hM hN hN5 hg)) (by decide) ?_
  rintro _ _ ⟨rfl, rfl⟩
  show aWP _ _ (3, [some (.ref 84), some (.int one), some (.int hp), some (.int h), none, none, none], [.int 0], (HD, mi, ml, mr)) _
  refine wp_bI rfl (fun c_1 => ?_) (fun c_1 => ?_)
  rotate_left
  · have c_1 : ¬ ((0 : Int32) = 0) := of_decide_eq_false c_1
    exact absurd c_1 (by decide)
  have c_1 : (0 : Int32) = 0 := of_decide_eq_true c_1
  refine wp_steps 1 (t' := (17, [some (.ref 84), some (.int one), some (.int hp), some (.int h), none, none, none], [.int (-2)], (HD, mi, ml, mr))) rfl ?_
  refine wp_ret rfl rfl ⟨⟨Nat.le_refl _, Nat.le_refl _⟩, ?_⟩
  exact ⟨rfl, mi, ml, rfl, frQ.rf mi⟩
set_option maxRecDepth 20000 in
set_option maxHeartbeats 1000000 in
theorem l_rhours {X : aXt × Value} {mr : Nat → Nat → Option Nat} (hM : MRok mr) {c0 c1 c2 : List Int32} {p : Nat} (hp5 : p < 5) {ma : Nat → Nat → Int32} {hp d : Int32} {H : Nat} (hH : H ≤ 9) {t : tW} {Q : Option Value → aM → Prop} : ∀ (g k : Nat) (m : Nat → Nat → Int32) (w : Nat → Nat → Int64) (u : pU), k + g = H → WY p c0 c1 c2 ma m t u → (∀ m' w', WY p c0 c1 c2 ma m' t (hsG t hp g u) → aWP (aEx (aTb X) 47) cd_X7_takes (52, [some (.ref 84), some (.int (nI p)), some (.int hp), some (.int (nI H)), some (.int (-1)), some (.int d), some (.int (nI H))], [], (HD, m', w', mr)) Q) → aWP (aEx (aTb X) 47) cd_X7_takes (40, [some (.ref 84), some (.int (nI p)), some (.int hp), some (.int (nI H)), some (.int (-1)), some (.int d), some (.int (nI k))], [], (HD, m, w, mr)) Q := by
  intro g
  induction g with
  | zero =>
    intro k m w u hg h hk
    obtain rfl : k = H := by omega
    refine wp_steps 2 (t' := (42, [some (.ref 84), some (.int (nI p)), some (.int hp), some (.int (nI k)), some (.int (-1)), some (.int d), some (.int (nI k))], [.int (nI k), .int (nI k)], (HD, m, w, mr))) rfl ?_
    refine wp_bC rfl (fun c_1 => ?_) (fun c_1 => ?_)
    rotate_left
    · have c_1 : ¬ ((nI k) ≤ (nI k)) := of_decide_eq_false c_1
      exact absurd (Int32.le_refl _) c_1
    have c_1 : (nI k) ≤ (nI k) := of_decide_eq_true c_1
    exact hk m w h
  | succ g ih =>
    intro k m w u hg h hk
    refine wp_steps 2 (t' := (42, [some (.ref 84), some (.int (nI p)), some (.int hp), some (.int (nI H)), some (.int (-1)), some (.int d), some (.int (nI k))], [.int (nI H), .int (nI k)], (HD, m, w, mr))) rfl ?_
    refine wp_bC rfl (fun c_1 => ?_) (fun c_1 => ?_)
    · have c_1 : (nI H) ≤ (nI k) := of_decide_eq_true c_1
      exact absurd c_1 (nI_ge (a := k) (b := H) (by omega) (by omega))
    have c_1 : ¬ ((nI H) ≤ (nI k)) := of_decide_eq_false c_1
    refine wp_steps 4 (t' := (47, [some (.ref 84), some (.int (nI p)), some (.int hp), some (.int (nI H)), some (.int (-1)), some (.int d), some (.int (nI k))], [.int (nI p), .ref 84, .int (nI p), .ref 84], (HD, m, w, mr))) rfl ?_
    refine wp_calv (as := [.int (nI p)]) rfl rfl rfl (Nat.le_of_ble_eq_true rfl) ⟨by decide, rfl⟩ ((y_weak (w := w) hM hp5 h)) (by decide) ?_
    rintro _ _ ⟨rfl, rfl⟩
    show aWP _ _ (48, [some (.ref 84), some (.int (nI p)), some (.int hp), some (.int (nI H)), some (.int (-1)), some (.int d), some (.int (nI k))], [.int (nI (wkF u.2.2.2.2 8)), .int (nI p), .ref 84], (HD, m, w, mr)) _
    refine wp_steps 1 (t' := (49, [some (.ref 84), some (.int (nI p)), some (.int hp), some (.int (nI H)), some (.int (-1)), some (.int d), some (.int (nI k))], [.int hp, .int (nI (wkF u.2.2.2.2 8)), .int (nI p), .ref 84], (HD, m, w, mr))) rfl ?_
    refine wp_calv (as := [.int (nI p), .int (nI (wkF u.2.2.2.2 8)), .int hp]) rfl rfl rfl (Nat.le_of_ble_eq_true rfl) ⟨by decide, rfl⟩ ((y_hour (w := w) (hp := hp) hM hp5 h (aix_nI (wkF_lt u.2.2.2.2 8 (by decide)) (by decide)))) (by decide) ?_
    rintro _ _ ⟨rfl, m_1, w_1, rfl, h1⟩
    rw [nI_clamp (Nat.lt_trans (wkF_lt _ 8 (by decide)) (by decide))] at h1
    show aWP _ _ (50, [some (.ref 84), some (.int (nI p)), some (.int hp), some (.int (nI H)), some (.int (-1)), some (.int d), some (.int (nI k))], [], (HD, m_1, w_1, mr)) _
    refine wp_steps 2 (t' := (40, [some (.ref 84), some (.int (nI p)), some (.int hp), some (.int (nI H)), some (.int (-1)), some (.int d), some (.int ((nI k) + Int32.ofInt 1))], [], (HD, m_1, w_1, mr))) rfl ?_
    rw [inc_nI]
    exact ih (k + 1) m_1 w_1 _ (by omega) h1 hk
set_option maxRecDepth 20000 in
set_option maxHeartbeats 1000000 in
theorem l_rdays {X : aXt × Value} {mr : Nat → Nat → Option Nat} (hM : MRok mr) {c0 c1 c2 : List Int32} {p : Nat} (hp5 : p < 5) {ma : Nat → Nat → Int32} {hp : Int32} {H : Nat} (hH : H ≤ 9) {Q : Option Value → aM → Prop} : ∀ (g d : Nat) (m : Nat → Nat → Int32) (w : Nat → Nat → Int64) (t : tW) (u : pU) (o : Option Value), d + g = 41 → 1 ≤ d → WY p c0 c1 c2 ma m t u → (∀ m' w' t' u' d' o', WY p c0 c1 c2 ma m' t' u' → aWP (aEx (aTb X) 47) cd_X7_takes (72, [some (.ref 84), some (.int (nI p)), some (.int hp), some (.int (nI H)), some (.int (tkL hp H g d t u)), some (.int d'), o'], [], (HD, m', w', mr)) Q) → aWP (aEx (aTb X) 47) cd_X7_takes (32, [some (.ref 84), some (.int (nI p)), some (.int hp), some (.int (nI H)), some (.int (-1)), some (.int (nI d)), o], [], (HD, m, w, mr)) Q := by
  intro g
  induction g with
  | zero =>
    intro d m w t u o hg hd h hk
    obtain rfl : d = 41 := by omega
    refine wp_steps 2 (t' := (34, [some (.ref 84), some (.int (nI p)), some (.int hp), some (.int (nI H)), some (.int (-1)), some (.int (nI 41)), o], [.int 40, .int (nI 41)], (HD, m, w, mr))) rfl ?_
    refine wp_bC rfl (fun c_1 => ?_) (fun c_1 => ?_)
    rotate_left
    · have c_1 : ¬ (40 < (nI 41)) := of_decide_eq_false c_1
      exact absurd (by decide) c_1
    have c_1 : 40 < (nI 41) := of_decide_eq_true c_1
    exact hk m w t u _ _ h
  | succ g ih =>
    intro d m w t u o hg hd h hk
    refine wp_steps 2 (t' := (34, [some (.ref 84), some (.int (nI p)), some (.int hp), some (.int (nI H)), some (.int (-1)), some (.int (nI d)), o], [.int 40, .int (nI d)], (HD, m, w, mr))) rfl ?_
    refine wp_bC rfl (fun c_1 => ?_) (fun c_1 => ?_)
    · have c_1 : 40 < (nI d) := of_decide_eq_true c_1
      exact absurd c_1 (nI_nlt (a := 40) (b := d) (by omega) (by decide))
    have c_1 : ¬ (40 < (nI d)) := of_decide_eq_false c_1
    refine wp_steps 2 (t' := (37, [some (.ref 84), some (.int (nI p)), some (.int hp), some (.int (nI H)), some (.int (-1)), some (.int (nI d)), o], [.int (-1), .int (-1)], (HD, m, w, mr))) rfl ?_
    refine wp_bC rfl (fun c_2 => ?_) (fun c_2 => ?_)
    · have c_2 : ¬ (-1 : Int32) = (-1) := of_decide_eq_true c_2
      exact absurd c_2 (by decide)
    have c_2 : (-1 : Int32) = (-1) := Decidable.not_not.mp (of_decide_eq_false c_2)
    refine wp_steps 2 (t' := (40, [some (.ref 84), some (.int (nI p)), some (.int hp), some (.int (nI H)), some (.int (-1)), some (.int (nI d)), some (.int 0)], [], (HD, m, w, mr))) rfl ?_
    refine l_rhours hM hp5 hH H 0 m w u (by omega) h (fun m_2 w_2 h2 => ?_)
    refine wp_steps 2 (t' := (54, [some (.ref 84), some (.int (nI p)), some (.int hp), some (.int (nI H)), some (.int (-1)), some (.int (nI d)), some (.int (nI H))], [.int (nI p), .ref 84], (HD, m_2, w_2, mr))) rfl ?_
    refine wp_calv (as := [.int (nI p)]) rfl rfl rfl (Nat.le_of_ble_eq_true rfl) ⟨by decide, rfl⟩ ((y_many (w := w_2) hM hp5 h2)) (by decide) ?_
    rintro _ _ ⟨rfl, m_3, w_3, rfl, h3⟩
    show aWP _ _ (55, [some (.ref 84), some (.int (nI p)), some (.int hp), some (.int (nI H)), some (.int (-1)), some (.int (nI d)), some (.int (nI H))], [.int (nI (mnG t (hsG t hp H u)))], (HD, m_3, w_3, mr)) _
    refine wp_steps 1 (t' := (56, [some (.ref 84), some (.int (nI p)), some (.int hp), some (.int (nI H)), some (.int (-1)), some (.int (nI d)), some (.int (nI H))], [.int 8, .int (nI (mnG t (hsG t hp H u)))], (HD, m_3, w_3, mr))) rfl ?_
    refine wp_bC rfl (fun c_61 => ?_) (fun c_61 => ?_)
    · have c_61 : ¬ (nI (mnG t (hsG t hp H u))) = 8 := of_decide_eq_true c_61
      refine wp_steps 4 (t' := (63, [some (.ref 84), some (.int (nI p)), some (.int hp), some (.int (nI H)), some (.int (-1)), some (.int (nI d)), some (.int (nI H))], [.int (nI p), .ref 84], (HD, m_3, w_3, mr))) rfl ?_
      refine wp_calv (as := [.int (nI p)]) rfl rfl rfl (Nat.le_of_ble_eq_true rfl) ⟨by decide, rfl⟩ ((y_sleep (w := w_3) hM hp5 h3)) (by decide) ?_
      rintro _ _ ⟨rfl, m_4, w_4, rfl, h4⟩
      show aWP _ _ (64, [some (.ref 84), some (.int (nI p)), some (.int hp), some (.int (nI H)), some (.int (-1)), some (.int (nI d)), some (.int (nI H))], [], (HD, m_4, w_4, mr)) _
      refine wp_steps 2 (t' := (66, [some (.ref 84), some (.int (nI p)), some (.int hp), some (.int (nI H)), some (.int (-1)), some (.int (nI d)), some (.int (nI H))], [.ref 84, .ref 84], (HD, m_4, w_4, mr))) rfl ?_
      refine wp_geti rfl ⟨by decide, rfl⟩ (Or.inl rfl) ?_
      refine wp_steps 2 (t' := (69, [some (.ref 84), some (.int (nI p)), some (.int hp), some (.int (nI H)), some (.int (-1)), some (.int (nI d)), some (.int (nI H))], [.int ((m_4 84 7) + 1), .ref 84], (HD, m_4, w_4, mr))) rfl ?_
      refine wp_puti rfl ⟨by decide, rfl⟩ rfl (fun m_62 h_63 => ?_)
      subst h_63
      refine wp_steps 2 (t' := (32, [some (.ref 84), some (.int (nI p)), some (.int hp), some (.int (nI H)), some (.int (-1)), some (.int ((nI d) + Int32.ofInt 1)), some (.int (nI H))], [], (HD, (aup m_4 84 7 ((m_4 84 7) + 1)), w_4, mr))) rfl ?_
      have q : ¬ mnG t (hsG t hp H u) = 8 := fun z => c_61 (by rw [z]; rfl)
      have e : tkL hp H (g + 1) d t u = tkL hp H g (d + 1) (ndG t) (spG t (hsG t hp H u)) := if_neg q
      rw [e] at hk
      rw [inc_nI]
      exact ih (d + 1) _ w_4 _ _ _ (by omega) (by omega) h4.nd hk
    · have c_61 : (nI (mnG t (hsG t hp H u))) = 8 := Decidable.not_not.mp (of_decide_eq_false c_61)
      refine wp_steps 5 (t' := (63, [some (.ref 84), some (.int (nI p)), some (.int hp), some (.int (nI H)), some (.int (nI d)), some (.int (nI d)), some (.int (nI H))], [.int (nI p), .ref 84], (HD, m_3, w_3, mr))) rfl ?_
      refine wp_calv (as := [.int (nI p)]) rfl rfl rfl (Nat.le_of_ble_eq_true rfl) ⟨by decide, rfl⟩ ((y_sleep (w := w_3) hM hp5 h3)) (by decide) ?_
      rintro _ _ ⟨rfl, m_4, w_4, rfl, h4⟩
      show aWP _ _ (64, [some (.ref 84), some (.int (nI p)), some (.int hp), some (.int (nI H)), some (.int (nI d)), some (.int (nI d)), some (.int (nI H))], [], (HD, m_4, w_4, mr)) _
      refine wp_steps 2 (t' := (66, [some (.ref 84), some (.int (nI p)), some (.int hp), some (.int (nI H)), some (.int (nI d)), some (.int (nI d)), some (.int (nI H))], [.ref 84, .ref 84], (HD, m_4, w_4, mr))) rfl ?_
      refine wp_geti rfl ⟨by decide, rfl⟩ (Or.inl rfl) ?_
      refine wp_steps 2 (t' := (69, [some (.ref 84), some (.int (nI p)), some (.int hp), some (.int (nI H)), some (.int (nI d)), some (.int (nI d)), some (.int (nI H))], [.int ((m_4 84 7) + 1), .ref 84], (HD, m_4, w_4, mr))) rfl ?_
      refine wp_puti rfl ⟨by decide, rfl⟩ rfl (fun m_64 h_65 => ?_)
      subst h_65
      refine wp_steps 2 (t' := (32, [some (.ref 84), some (.int (nI p)), some (.int hp), some (.int (nI H)), some (.int (nI d)), some (.int ((nI d) + Int32.ofInt 1)), some (.int (nI H))], [], (HD, (aup m_4 84 7 ((m_4 84 7) + 1)), w_4, mr))) rfl ?_
      have q : mnG t (hsG t hp H u) = 8 := (nI_eq (a := mnG t (hsG t hp H u)) (b := 8) (Nat.lt_of_le_of_lt (mgN_le _ 8) (by decide)) (by decide)).mp c_61
      have e : tkL hp H (g + 1) d t u = nI d := if_pos q
      rw [e] at hk
      rw [inc_nI]
      refine wp_steps 2 (t' := (34, [some (.ref 84), some (.int (nI p)), some (.int hp), some (.int (nI H)), some (.int (nI d)), some (.int (nI (d + 1))), some (.int (nI H))], [.int 40, .int (nI (d + 1))], (HD, (aup m_4 84 7 (m_4 84 7 + 1)), w_4, mr))) rfl ?_
      refine wp_bC rfl (fun c_91 => ?_) (fun c_91 => ?_)
      · have c_91 : 40 < (nI (d + 1)) := of_decide_eq_true c_91
        exact hk _ w_4 _ _ _ _ h4.nd
      · have c_91 : ¬ (40 < (nI (d + 1))) := of_decide_eq_false c_91
        refine wp_steps 2 (t' := (37, [some (.ref 84), some (.int (nI p)), some (.int hp), some (.int (nI H)), some (.int (nI d)), some (.int (nI (d + 1))), some (.int (nI H))], [.int (-1), .int (nI d)], (HD, (aup m_4 84 7 (m_4 84 7 + 1)), w_4, mr))) rfl ?_
        refine wp_bC rfl (fun c_92 => ?_) (fun c_92 => ?_)
        rotate_left
        · have c_92 : (nI d) = (-1) := Decidable.not_not.mp (of_decide_eq_false c_92)
          exact absurd (show (0 : Int32) ≤ -1 from c_92 ▸ nI_pos' (show d < 2 ^ 31 by omega)) (by decide)
        have c_92 : ¬ (nI d) = (-1) := of_decide_eq_true c_92
        exact hk _ w_4 _ _ _ _ h4.nd
set_option maxRecDepth 20000 in
set_option maxHeartbeats 1000000 in
theorem q_takes_ok {X : aXt × Value} {mi : Nat → Nat → Int32} {ml : Nat → Nat → Int64} {mr : Nat → Nat → Option Nat} (hM : MRok mr) {N : Nat} (hN : mi 84 12 = nI N) (hN5 : N ≤ 5) {c0 c1 c2 : List Int32} (hR : RUX mi c0 c1 c2) {p : Nat} (hpN : p < N) (hok : okU (puR mi p)) {hp h : Int32}  : aCW X 48 192 [.ref 84, .int (nI p), .int hp, .int h] (HD, mi, ml, mr) (qR mi mr (.int (if aixn hp 3 = true ∧ inR 1 9 h then tkG (twR mi c0 c1 c2) (puR mi p) hp h.toNatClampNeg else -2))) := by
  have hp5 : p < 5 := by omega
  refine cw_of (cd := cd_X7_takes) (nL := 7) rfl rfl ?_
  show aWP _ _ (0, [some (.ref 84), some (.int (nI p)), some (.int hp), some (.int h), none, none, none], [], (HD, mi, ml, mr)) _
  refine wp_steps 2 (t' := (2, [some (.ref 84), some (.int (nI p)), some (.int hp), some (.int h), none, none, none], [.int (nI p), .ref 84], (HD, mi, ml, mr))) rfl ?_
  refine wp_calv (as := [.int (nI p)]) rfl rfl rfl (Nat.le_of_ble_eq_true rfl) ⟨by decide, rfl⟩ ((c_isOne_ok (mi := mi) (ml := ml) hM hN hN5 hpN)) (by decide) ?_
  rintro _ _ ⟨rfl, rfl⟩
  show aWP _ _ (3, [some (.ref 84), some (.int (nI p)), some (.int hp), some (.int h), none, none, none], [.int 1], (HD, mi, ml, mr)) _
  refine wp_bI rfl (fun c_1 => ?_) (fun c_1 => ?_)
  · have c_1 : (1 : Int32) = 0 := of_decide_eq_true c_1
    exact absurd c_1 (by decide)
  have c_1 : ¬ ((1 : Int32) = 0) := of_decide_eq_false c_1
  refine wp_steps 4 (t' := (8, [some (.ref 84), some (.int (nI p)), some (.int hp), some (.int h), none, none, none], [.long 2, .long 0, .long hp.toInt64], (HD, mi, ml, mr))) rfl ?_
  refine wp_cal (as := [.long hp.toInt64, .long 0, .long 2]) rfl rfl rfl (Nat.le_of_ble_eq_true rfl) ((c_in_ax (x := hp) (hi := 2) (n := 3) (by decide) (by decide) (by decide))) (by decide) ?_
  rintro _ _ ⟨rfl, rfl⟩
  show aWP _ _ (9, [some (.ref 84), some (.int (nI p)), some (.int hp), some (.int h), none, none, none], [.int (if aixn hp 3 = true then (1 : Int32) else 0)], (HD, mi, ml, mr)) _
  refine wp_bI rfl (fun c_2 => ?_) (fun c_2 => ?_)
  · have c_2 : (if aixn hp 3 = true then (1 : Int32) else 0) = 0 := of_decide_eq_true c_2
    refine wp_steps 1 (t' := (17, [some (.ref 84), some (.int (nI p)), some (.int hp), some (.int h), none, none, none], [.int (-2)], (HD, mi, ml, mr))) rfl ?_
    refine wp_ret rfl rfl ⟨⟨Nat.le_refl _, Nat.le_refl _⟩, ?_⟩
    exact ⟨by rw [if_neg (show ¬ (aixn hp 3 = true ∧ inR 1 9 h) from fun z => (fun z => absurd (z.symm.trans (ite_nix c_2)) Bool.noConfusion) z.1)], mi, ml, rfl, frQ.rf mi⟩
  · have c_2 : ¬ ((if aixn hp 3 = true then (1 : Int32) else 0) = 0) := of_decide_eq_false c_2
    refine wp_steps 4 (t' := (14, [some (.ref 84), some (.int (nI p)), some (.int hp), some (.int h), none, none, none], [.long 9, .long 1, .long h.toInt64], (HD, mi, ml, mr))) rfl ?_
    refine wp_cal (as := [.long h.toInt64, .long 1, .long 9]) rfl rfl rfl (Nat.le_of_ble_eq_true rfl) ((c_in (x := h) (lo := 1) (hi := 9) rfl (by decide) (by decide))) (by decide) ?_
    rintro _ _ ⟨rfl, rfl⟩
    show aWP _ _ (15, [some (.ref 84), some (.int (nI p)), some (.int hp), some (.int h), none, none, none], [.int (if inR 1 9 h then (1 : Int32) else 0)], (HD, mi, ml, mr)) _
    refine wp_bI rfl (fun c_3 => ?_) (fun c_3 => ?_)
    · have c_3 : ¬ (if inR 1 9 h then (1 : Int32) else 0) = 0 := of_decide_eq_true c_3
      refine wp_steps 2 (t' := (20, [some (.ref 84), some (.int (nI p)), some (.int hp), some (.int h), none, none, none], [.int (nI p), .ref 84], (HD, mi, ml, mr))) rfl ?_
      refine wp_calv (as := [.int (nI p)]) rfl rfl rfl (Nat.le_of_ble_eq_true rfl) ⟨by decide, rfl⟩ ((r_aside (mi := mi) (ml := ml) hM hp5)) (by decide) ?_
      rintro _ _ ⟨rfl, m_1, rfl, a1⟩
      show aWP _ _ (21, [some (.ref 84), some (.int (nI p)), some (.int hp), some (.int h), none, none, none], [], (HD, m_1, ml, mr)) _
      refine wp_steps 2 (t' := (23, [some (.ref 84), some (.int (nI p)), some (.int hp), some (.int h), none, none, none], [.int (nI p), .ref 84], (HD, m_1, ml, mr))) rfl ?_
      refine wp_calv (as := [.int (nI p)]) rfl rfl rfl (Nat.le_of_ble_eq_true rfl) ⟨by decide, rfl⟩ ((y_many (w := ml) hM hp5 (WY.of a1 hR hok))) (by decide) ?_
      rintro _ _ ⟨rfl, m_2, w_9, rfl, h9⟩
      show aWP _ _ (24, [some (.ref 84), some (.int (nI p)), some (.int hp), some (.int h), none, none, none], [.int (nI (mnG (twR mi c0 c1 c2) (puR mi p)))], (HD, m_2, w_9, mr)) _
      refine wp_steps 1 (t' := (25, [some (.ref 84), some (.int (nI p)), some (.int hp), some (.int h), none, none, none], [.int 8, .int (nI (mnG (twR mi c0 c1 c2) (puR mi p)))], (HD, m_2, w_9, mr))) rfl ?_
      refine wp_bC rfl (fun c_4 => ?_) (fun c_4 => ?_)
      · have c_4 : ¬ (nI (mnG (twR mi c0 c1 c2) (puR mi p))) = 8 := of_decide_eq_true c_4
        refine wp_steps 4 (t' := (32, [some (.ref 84), some (.int (nI p)), some (.int hp), some (.int h), some (.int (-1)), some (.int 1), none], [], (HD, m_2, w_9, mr))) rfl ?_
        have hG := (show aixn hp 3 = true ∧ inR 1 9 h from ⟨(ite_aix c_2), (i0_t c_3)⟩)
        have h10 := ax19 hG.2
        have en := (aix_eq h10).1
        have hle : h.toNatClampNeg ≤ 9 := Nat.le_of_lt_succ (aix_out h10).2
        have q : ¬ mnG (twR mi c0 c1 c2) (puR mi p) = 8 := fun z => c_4 (by rw [z]; rfl)
        suffices hh : aWP (aEx (aTb X) 47) cd_X7_takes (32, [some (.ref 84), some (.int (nI p)), some (.int hp), some (.int (nI h.toNatClampNeg)), some (.int (-1)), some (.int (nI 1)), none], [], (HD, m_2, w_9, mr)) _ by
          rw [← en] at hh
          exact hh
        refine l_rdays hM hp5 hle 40 1 m_2 w_9 _ _ _ (by omega) (by decide) h9 (fun m_8 w_9 t' u' d' o' h9 => ?_)
        refine wp_steps 2 (t' := (74, [some (.ref 84), some (.int (nI p)), some (.int hp), some (.int (nI h.toNatClampNeg)), some (.int (tkL hp h.toNatClampNeg 40 1 (twR mi c0 c1 c2) (puR mi p))), some (.int d'), o'], [.int (nI p), .ref 84], (HD, m_8, w_9, mr))) rfl ?_
        refine wp_calv (as := [.int (nI p)]) rfl rfl rfl (Nat.le_of_ble_eq_true rfl) ⟨by decide, rfl⟩ ((r_back (mi := m_8) (ml := w_9) hM hp5)) (by decide) ?_
        rintro _ _ ⟨rfl, m_9, rfl, b9⟩
        show aWP _ _ (75, [some (.ref 84), some (.int (nI p)), some (.int hp), some (.int (nI h.toNatClampNeg)), some (.int (tkL hp h.toNatClampNeg 40 1 (twR mi c0 c1 c2) (puR mi p))), some (.int d'), o'], [], (HD, m_9, w_9, mr)) _
        refine wp_steps 1 (t' := (76, [some (.ref 84), some (.int (nI p)), some (.int hp), some (.int (nI h.toNatClampNeg)), some (.int (tkL hp h.toNatClampNeg 40 1 (twR mi c0 c1 c2) (puR mi p))), some (.int d'), o'], [.int (tkL hp h.toNatClampNeg 40 1 (twR mi c0 c1 c2) (puR mi p))], (HD, m_9, w_9, mr))) rfl ?_
        refine wp_ret rfl rfl ⟨⟨Nat.le_refl _, Nat.le_refl _⟩, ?_⟩
        exact ⟨by rw [if_pos hG]; unfold tkG; rw [if_neg q], m_9, w_9, rfl, abq a1 h9.1 b9⟩
      · have c_4 : (nI (mnG (twR mi c0 c1 c2) (puR mi p))) = 8 := Decidable.not_not.mp (of_decide_eq_false c_4)
        refine wp_steps 5 (t' := (32, [some (.ref 84), some (.int (nI p)), some (.int hp), some (.int h), some (.int 0), some (.int 1), none], [], (HD, m_2, w_9, mr))) rfl ?_
        have hG := (show aixn hp 3 = true ∧ inR 1 9 h from ⟨(ite_aix c_2), (i0_t c_3)⟩)
        have h10 := ax19 hG.2
        have en := (aix_eq h10).1
        have hle : h.toNatClampNeg ≤ 9 := Nat.le_of_lt_succ (aix_out h10).2
        have q : mnG (twR mi c0 c1 c2) (puR mi p) = 8 := (nI_eq (a := mnG (twR mi c0 c1 c2) (puR mi p)) (b := 8) (Nat.lt_of_le_of_lt (mgN_le _ 8) (by decide)) (by decide)).mp c_4
        refine wp_steps 2 (t' := (34, [some (.ref 84), some (.int (nI p)), some (.int hp), some (.int h), some (.int 0), some (.int 1), none], [.int 40, .int 1], (HD, m_2, w_9, mr))) rfl ?_
        refine wp_bC rfl (fun c_81 => ?_) (fun c_81 => ?_)
        · have c_81 : 40 < (1 : Int32) := of_decide_eq_true c_81
          exact absurd c_81 (by decide)
        have c_81 : ¬ (40 < (1 : Int32)) := of_decide_eq_false c_81
        refine wp_steps 2 (t' := (37, [some (.ref 84), some (.int (nI p)), some (.int hp), some (.int h), some (.int 0), some (.int 1), none], [.int (-1), .int 0], (HD, m_2, w_9, mr))) rfl ?_
        refine wp_bC rfl (fun c_82 => ?_) (fun c_82 => ?_)
        rotate_left
        · have c_82 : (0 : Int32) = (-1) := Decidable.not_not.mp (of_decide_eq_false c_82)
          exact absurd c_82 (by decide)
        have c_82 : ¬ (0 : Int32) = (-1) := of_decide_eq_true c_82
        refine wp_steps 2 (t' := (74, [some (.ref 84), some (.int (nI p)), some (.int hp), some (.int h), some (.int 0), some (.int 1), none], [.int (nI p), .ref 84], (HD, m_2, w_9, mr))) rfl ?_
        refine wp_calv (as := [.int (nI p)]) rfl rfl rfl (Nat.le_of_ble_eq_true rfl) ⟨by decide, rfl⟩ ((r_back (mi := m_2) (ml := w_9) hM hp5)) (by decide) ?_
        rintro _ _ ⟨rfl, m_9, rfl, b9⟩
        show aWP _ _ (75, [some (.ref 84), some (.int (nI p)), some (.int hp), some (.int h), some (.int 0), some (.int 1), none], [], (HD, m_9, w_9, mr)) _
        refine wp_steps 1 (t' := (76, [some (.ref 84), some (.int (nI p)), some (.int hp), some (.int h), some (.int 0), some (.int 1), none], [.int 0], (HD, m_9, w_9, mr))) rfl ?_
        refine wp_ret rfl rfl ⟨⟨Nat.le_refl _, Nat.le_refl _⟩, ?_⟩
        exact ⟨by rw [if_pos hG]; unfold tkG; rw [if_pos q], m_9, w_9, rfl, abq a1 h9.1 b9⟩
    · have c_3 : (if inR 1 9 h then (1 : Int32) else 0) = 0 := Decidable.not_not.mp (of_decide_eq_false c_3)
      refine wp_steps 1 (t' := (17, [some (.ref 84), some (.int (nI p)), some (.int hp), some (.int h), none, none, none], [.int (-2)], (HD, mi, ml, mr))) rfl ?_
      refine wp_ret rfl rfl ⟨⟨Nat.le_refl _, Nat.le_refl _⟩, ?_⟩
      exact ⟨by rw [if_neg (show ¬ (aixn hp 3 = true ∧ inR 1 9 h) from fun z => (i0_f c_3) z.2)], mi, ml, rfl, frQ.rf mi⟩
