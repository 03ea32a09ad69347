/-! the reference: a learner comes; feed, force, image, back, count (written by wip/whole/mkrefI.py) -/
/-- so many learners, so each -/
def LSr (m : Nat → Nat → Int32) (s : lS) : Prop := m 84 12 = nI s.1 ∧ s.1 ≤ 5 ∧ ∀ p, p < 5 → puR m p = s.2 p
/-- alike but for the learners -/
def frL (m m' : Nat → Nat → Int32) : Prop := ∀ k j, ¬ (k = 84 ∧ j = 12) → k ≠ 89 → k ≠ 90 → k ≠ 91 → m' k j = m k j
theorem frL.rf (m : Nat → Nat → Int32) : frL m m := fun _ _ _ _ _ _ => rfl
theorem frL.tr {a b c : Nat → Nat → Int32} (h : frL a b) (k : frL b c) : frL a c := fun x y q1 q2 q3 q4 => (k x y q1 q2 q3 q4).trans (h x y q1 q2 q3 q4)
set_option maxRecDepth 20000 in
set_option maxHeartbeats 1000000 in
theorem l_rlearner {X : aXt × Value} {mi : Nat → Nat → Int32} {ml : Nat → Nat → Int64} {mr : Nat → Nat → Option Nat} (hM : MRok mr) {s : lS} (h : LSr mi s) {kd nu : Int32} (h5 : s.1 < 5) {Q : Option Value → aM → Prop} (hk : (∀ m', (∀ x j, x ≠ 91 → m' x j = (aup (aup mi 89 s.1 kd) 90 s.1 nu) x j) → (∀ j, ¬ (10 * s.1 ≤ j ∧ j < 10 * s.1 + 10) → m' 91 j = mi 91 j) → (∀ j, j < 10 → m' 91 (10 * s.1 + j) = 0) → aWP (aEx (aTb X) 3) cd_X7_learner (47, [some (.ref 84), some (.int kd), some (.int nu), some (.int (nI 10))], [], (HD, m', ml, mr)) Q)) : ∀ (g k : Nat) (m : Nat → Nat → Int32), k + g = 10 → (∀ x j, x ≠ 91 → m x j = (aup (aup mi 89 s.1 kd) 90 s.1 nu) x j) → (∀ j, ¬ (10 * s.1 ≤ j ∧ j < 10 * s.1 + 10) → m 91 j = mi 91 j) → (∀ j, j < k → m 91 (10 * s.1 + j) = 0) → aWP (aEx (aTb X) 3) cd_X7_learner (34, [some (.ref 84), some (.int kd), some (.int nu), some (.int (nI k))], [], (HD, m, ml, mr)) Q := by
  intro g
  induction g with
  | zero =>
    intro k m hg h1 h2 h3
    obtain rfl : k = 10 := by omega
    refine wp_steps 2 (t' := (36, [some (.ref 84), some (.int kd), some (.int nu), some (.int (nI 10))], [.int 10, .int (nI 10)], (HD, m, ml, mr))) rfl ?_
    refine wp_bC rfl (fun c_1 => ?_) (fun c_1 => ?_)
    rotate_left
    · have c_1 : ¬ (10 ≤ (nI 10)) := of_decide_eq_false c_1
      exact absurd (by decide) c_1
    have c_1 : 10 ≤ (nI 10) := of_decide_eq_true c_1
    exact hk m h1 h2 h3
  | succ g ih =>
    intro k m hg h1 h2 h3
    have hk10 : k < 10 := by omega
    refine wp_steps 2 (t' := (36, [some (.ref 84), some (.int kd), some (.int nu), some (.int (nI k))], [.int 10, .int (nI k)], (HD, m, ml, mr))) rfl ?_
    refine wp_bC rfl (fun c_1 => ?_) (fun c_1 => ?_)
    · have c_1 : 10 ≤ (nI k) := of_decide_eq_true c_1
      exact absurd c_1 (nI_ge hk10 (by decide))
    have c_1 : ¬ (10 ≤ (nI k)) := of_decide_eq_false c_1
    refine wp_steps 1 (t' := (38, [some (.ref 84), some (.int kd), some (.int nu), some (.int (nI k))], [.ref 84], (HD, m, ml, mr))) rfl ?_
    refine wp_getr rfl ⟨by decide, rfl⟩ rfl (hM (84, 11, 91) (by decide)) ?_
    refine wp_steps 1 (t' := (40, [some (.ref 84), some (.int kd), some (.int nu), some (.int (nI k))], [.ref 84, .ref 91], (HD, m, ml, mr))) rfl ?_
    refine wp_geti rfl ⟨by decide, rfl⟩ (Or.inl rfl) ?_
    rw [show m 84 12 = nI s.1 from (h1 84 12 (by decide)).trans h.1]
    refine wp_steps 1 (t' := (42, [some (.ref 84), some (.int kd), some (.int nu), some (.int (nI k))], [.int (nI k), .int (nI s.1), .ref 91], (HD, m, ml, mr))) rfl ?_
    refine wp_cal (as := [.int (nI s.1), .int (nI k)]) rfl rfl rfl (Nat.le_of_ble_eq_true rfl) ((c_rat_n (p := s.1) (s := k))) (by decide) ?_
    rintro _ _ ⟨rfl, rfl⟩
    show aWP _ _ (43, [some (.ref 84), some (.int kd), some (.int nu), some (.int (nI k))], [.int (nI (10 * s.1 + k)), .ref 91], (HD, m, ml, mr)) _
    refine wp_steps 1 (t' := (44, [some (.ref 84), some (.int kd), some (.int nu), some (.int (nI k))], [.int 0, .int (nI (10 * s.1 + k)), .ref 91], (HD, m, ml, mr))) rfl ?_
    refine wp_iast rfl ⟨by decide, rfl⟩ (aix_nI (by omega) (by decide)) (fun m_2 h_3 => ?_)
    subst h_3
    rw [nI_clamp (n := 10 * s.1 + k) (by omega)]
    refine wp_steps 2 (t' := (34, [some (.ref 84), some (.int kd), some (.int nu), some (.int ((nI k) + Int32.ofInt 1))], [], (HD, (aup m 91 (10 * s.1 + k) 0), ml, mr))) rfl ?_
    rw [inc_nI]
    refine ih (k + 1) _ (by omega) (fun x j q => ?_) (fun j q => ?_) (fun j hj => ?_)
    · rw [← h1 x j q]; simp only [aup, if_neg q]
    · have e : ¬ j = 10 * s.1 + k := fun z => q (by omega)
      rw [← h2 j q]; simp only [aup, if_pos, if_neg e]
    · by_cases e : j = k
      · subst e; simp only [aup, if_pos]
      · have e2 : ¬ 10 * s.1 + j = 10 * s.1 + k := by omega
        simp only [aup, if_pos, if_neg e2]; exact h3 j (by omega)
set_option maxRecDepth 20000 in
set_option maxHeartbeats 1000000 in
theorem r_learner {X : aXt × Value} {mi : Nat → Nat → Int32} {ml : Nat → Nat → Int64} {mr : Nat → Nat → Option Nat} (hM : MRok mr) {s : lS} (h : LSr mi s) {kd nu : Int32} : aCW X 4 122 [.ref 84, .int kd, .int nu] (HD, mi, ml, mr) (fun r h' => r = some (.int (coV s kd nu)) ∧ ∃ m', h' = (HD, m', ml, mr) ∧ LSr m' (coS s kd nu) ∧ frL mi m') := by
  refine cw_of (cd := cd_X7_learner) (nL := 4) rfl rfl ?_
  show aWP _ _ (0, [some (.ref 84), some (.int kd), some (.int nu), none], [], (HD, mi, ml, mr)) _
  refine wp_steps 4 (t' := (4, [some (.ref 84), some (.int kd), some (.int nu), none], [.long 5, .long 0, .long kd.toInt64], (HD, mi, ml, mr))) rfl ?_
  refine wp_cal (as := [.long kd.toInt64, .long 0, .long 5]) rfl rfl rfl (Nat.le_of_ble_eq_true rfl) ((c_in (x := kd) (lo := 0) (hi := 5) rfl (by decide) (by decide))) (by decide) ?_
  rintro _ _ ⟨rfl, rfl⟩
  show aWP _ _ (5, [some (.ref 84), some (.int kd), some (.int nu), none], [.int (if inR 0 5 kd then (1 : Int32) else 0)], (HD, mi, ml, mr)) _
  refine wp_bI rfl (fun c_1 => ?_) (fun c_1 => ?_)
  · have c_1 : (if inR 0 5 kd then (1 : Int32) else 0) = 0 := of_decide_eq_true c_1
    refine wp_steps 1 (t' := (13, [some (.ref 84), some (.int kd), some (.int nu), none], [.int (-2)], (HD, mi, ml, mr))) rfl ?_
    refine wp_ret rfl rfl ⟨⟨Nat.le_refl _, Nat.le_refl _⟩, ?_⟩
    have e : coV s kd nu = -2 := if_neg (show ¬ (inR 0 5 kd ∧ inR 0 9 nu) from fun z => (i0_f c_1) z.1)
    have e2 : coS s kd nu = s := if_neg (show ¬ (inR 0 5 kd ∧ inR 0 9 nu) from fun z => (i0_f c_1) z.1)
    exact ⟨by rw [e], mi, rfl, by rw [e2]; exact h, frL.rf mi⟩
  · have c_1 : ¬ ((if inR 0 5 kd then (1 : Int32) else 0) = 0) := of_decide_eq_false c_1
    refine wp_steps 4 (t' := (10, [some (.ref 84), some (.int kd), some (.int nu), none], [.long 9, .long 0, .long nu.toInt64], (HD, mi, ml, mr))) rfl ?_
    refine wp_cal (as := [.long nu.toInt64, .long 0, .long 9]) rfl rfl rfl (Nat.le_of_ble_eq_true rfl) ((c_in (x := nu) (lo := 0) (hi := 9) rfl (by decide) (by decide))) (by decide) ?_
    rintro _ _ ⟨rfl, rfl⟩
    show aWP _ _ (11, [some (.ref 84), some (.int kd), some (.int nu), none], [.int (if inR 0 9 nu then (1 : Int32) else 0)], (HD, mi, ml, mr)) _
    refine wp_bI rfl (fun c_2 => ?_) (fun c_2 => ?_)
    · have c_2 : ¬ (if inR 0 9 nu then (1 : Int32) else 0) = 0 := of_decide_eq_true c_2
      refine wp_steps 1 (t' := (15, [some (.ref 84), some (.int kd), some (.int nu), none], [.ref 84], (HD, mi, ml, mr))) rfl ?_
      refine wp_geti rfl ⟨by decide, rfl⟩ (Or.inl rfl) ?_
      rw [show mi 84 12 = nI s.1 from h.1]
      refine wp_steps 1 (t' := (17, [some (.ref 84), some (.int kd), some (.int nu), none], [.int 5, .int (nI s.1)], (HD, mi, ml, mr))) rfl ?_
      refine wp_bC rfl (fun c_3 => ?_) (fun c_3 => ?_)
      · have c_3 : ¬ (nI s.1) = 5 := of_decide_eq_true c_3
        refine wp_steps 1 (t' := (21, [some (.ref 84), some (.int kd), some (.int nu), none], [.ref 84], (HD, mi, ml, mr))) rfl ?_
        refine wp_getr rfl ⟨by decide, rfl⟩ rfl (hM (84, 9, 89) (by decide)) ?_
        refine wp_steps 1 (t' := (23, [some (.ref 84), some (.int kd), some (.int nu), none], [.ref 84, .ref 89], (HD, mi, ml, mr))) rfl ?_
        refine wp_geti rfl ⟨by decide, rfl⟩ (Or.inl rfl) ?_
        rw [show mi 84 12 = nI s.1 from h.1]
        refine wp_steps 1 (t' := (25, [some (.ref 84), some (.int kd), some (.int nu), none], [.int kd, .int (nI s.1), .ref 89], (HD, mi, ml, mr))) rfl ?_
        refine wp_iast rfl ⟨by decide, rfl⟩ (aix_nI (Nat.lt_of_le_of_ne h.2.1 (fun z => c_3 (by rw [z]; rfl))) (by decide)) (fun m_4 h_5 => ?_)
        subst h_5
        rw [nI_clamp (n := s.1) (by have := h.2.1; omega)]
        refine wp_steps 1 (t' := (27, [some (.ref 84), some (.int kd), some (.int nu), none], [.ref 84], (HD, (aup mi 89 s.1 kd), ml, mr))) rfl ?_
        refine wp_getr rfl ⟨by decide, rfl⟩ rfl (hM (84, 10, 90) (by decide)) ?_
        refine wp_steps 1 (t' := (29, [some (.ref 84), some (.int kd), some (.int nu), none], [.ref 84, .ref 90], (HD, (aup mi 89 s.1 kd), ml, mr))) rfl ?_
        refine wp_geti rfl ⟨by decide, rfl⟩ (Or.inl rfl) ?_
        rw [show (aup mi 89 s.1 kd) 84 12 = nI s.1 from h.1]
        refine wp_steps 1 (t' := (31, [some (.ref 84), some (.int kd), some (.int nu), none], [.int nu, .int (nI s.1), .ref 90], (HD, (aup mi 89 s.1 kd), ml, mr))) rfl ?_
        refine wp_iast rfl ⟨by decide, rfl⟩ (aix_nI (Nat.lt_of_le_of_ne h.2.1 (fun z => c_3 (by rw [z]; rfl))) (by decide)) (fun m_6 h_7 => ?_)
        subst h_7
        rw [nI_clamp (n := s.1) (by have := h.2.1; omega)]
        refine wp_steps 2 (t' := (34, [some (.ref 84), some (.int kd), some (.int nu), some (.int 0)], [], (HD, (aup (aup mi 89 s.1 kd) 90 s.1 nu), ml, mr))) rfl ?_
        have hG := (show inR 0 5 kd ∧ inR 0 9 nu from ⟨(i0_t c_1), (i0_t c_2)⟩)
        have q5 : s.1 < 5 := Nat.lt_of_le_of_ne h.2.1 (fun z => c_3 (by rw [z]; rfl))
        refine l_rlearner hM h q5 (fun m h1 h2 h3 => ?_) 10 0 (aup (aup mi 89 s.1 kd) 90 s.1 nu) rfl (fun _ _ _ => rfl) (fun _ _ => rfl) (fun j hj => absurd hj (Nat.not_lt_zero j))
        refine wp_steps 2 (t' := (49, [some (.ref 84), some (.int kd), some (.int nu), some (.int (nI 10))], [.ref 84, .ref 84], (HD, m, ml, mr))) rfl ?_
        refine wp_geti rfl ⟨by decide, rfl⟩ (Or.inl rfl) ?_
        rw [show m 84 12 = nI s.1 from (h1 84 12 (by decide)).trans h.1]
        refine wp_steps 2 (t' := (52, [some (.ref 84), some (.int kd), some (.int nu), some (.int (nI 10))], [.int ((nI s.1) + 1), .ref 84], (HD, m, ml, mr))) rfl ?_
        rw [nI_1]
        refine wp_puti rfl ⟨by decide, rfl⟩ rfl (fun m_81 h_82 => ?_)
        subst h_82
        refine wp_steps 1 (t' := (54, [some (.ref 84), some (.int kd), some (.int nu), some (.int (nI 10))], [.ref 84], (HD, (aup m 84 12 (nI (s.1 + 1))), ml, mr))) rfl ?_
        refine wp_geti rfl ⟨by decide, rfl⟩ (Or.inl rfl) ?_
        rw [show (aup m 84 12 (nI (s.1 + 1))) 84 12 = nI (s.1 + 1) from rfl]
        refine wp_steps 2 (t' := (57, [some (.ref 84), some (.int kd), some (.int nu), some (.int (nI 10))], [.int ((nI (s.1 + 1)) - 1)], (HD, (aup m 84 12 (nI (s.1 + 1))), ml, mr))) rfl ?_
        rw [show nI (s.1 + 1) - 1 = nI s.1 from nI_pred s.1]
        refine wp_ret rfl rfl ⟨⟨Nat.le_refl _, Nat.le_refl _⟩, ?_⟩
        have e : coV s kd nu = nI s.1 := by unfold coV; rw [if_pos hG, if_pos q5]
        have e2 : coS s kd nu = (s.1 + 1, fun p => if p = s.1 then (kd, nu, 0, 0, fun _ => 0) else s.2 p) := by unfold coS; rw [if_pos hG, if_pos q5]
        refine ⟨by rw [e], _, rfl, ?_, fun x j q1 q2 q3 q4 => ?_⟩
        · rw [e2]
          refine ⟨rfl, q5, fun p hp => ?_⟩
          show _ = if p = s.1 then _ else _
          by_cases ep : p = s.1
          · rw [if_pos ep]
            subst ep
            refine Prod.ext ?_ (Prod.ext ?_ (Prod.ext ?_ (Prod.ext ?_ (funext fun j => ?_))))
            · exact (h1 89 _ (by decide)).trans (by simp [aup])
            · exact (h1 90 _ (by decide)).trans (by simp [aup])
            · exact h3 8 (by decide)
            · exact h3 9 (by decide)
            · show c8 (fun i => m 91 (10 * s.1 + i)) j = 0
              unfold c8
              by_cases hj : j < 8
              · rw [if_pos hj]; exact h3 j (by omega)
              · rw [if_neg hj]
          · rw [if_neg ep, ← h.2.2 p hp]
            refine Prod.ext ?_ (Prod.ext ?_ (Prod.ext ?_ (Prod.ext ?_ (funext fun j => ?_))))
            · exact (h1 89 _ (by decide)).trans (by simp [aup, ep]; rfl)
            · exact (h1 90 _ (by decide)).trans (by simp [aup, ep]; rfl)
            · exact h2 _ (by omega)
            · exact h2 _ (by omega)
            · show c8 (fun i => m 91 (10 * p + i)) j = c8 (fun i => mi 91 (10 * p + i)) j
              unfold c8
              by_cases hj : j < 8
              · rw [if_pos hj, if_pos hj]; exact h2 _ (by omega)
              · rw [if_neg hj, if_neg hj]
        · have z := h1 x j q4
          simp only [aup, if_neg q2, if_neg q3] at z
          rw [← z]
          unfold aup
          by_cases ex : x = 84
          · rw [if_pos ex, if_neg (fun y => q1 ⟨ex, y⟩)]
          · rw [if_neg ex]
      · have c_3 : (nI s.1) = 5 := Decidable.not_not.mp (of_decide_eq_false c_3)
        refine wp_steps 1 (t' := (19, [some (.ref 84), some (.int kd), some (.int nu), none], [.int (-4)], (HD, mi, ml, mr))) rfl ?_
        refine wp_ret rfl rfl ⟨⟨Nat.le_refl _, Nat.le_refl _⟩, ?_⟩
        have q5 : ¬ s.1 < 5 := fun z => by have y := (nI_eq (a := s.1) (b := 5) (by omega) (by decide)).mp c_3; omega
        have e : coV s kd nu = -4 := by unfold coV; rw [if_pos (show inR 0 5 kd ∧ inR 0 9 nu from ⟨(i0_t c_1), (i0_t c_2)⟩), if_neg q5]
        have e2 : coS s kd nu = s := by unfold coS; rw [if_pos (show inR 0 5 kd ∧ inR 0 9 nu from ⟨(i0_t c_1), (i0_t c_2)⟩), if_neg q5]
        exact ⟨by rw [e], mi, rfl, by rw [e2]; exact h, frL.rf mi⟩
    · have c_2 : (if inR 0 9 nu then (1 : Int32) else 0) = 0 := Decidable.not_not.mp (of_decide_eq_false c_2)
      refine wp_steps 1 (t' := (13, [some (.ref 84), some (.int kd), some (.int nu), none], [.int (-2)], (HD, mi, ml, mr))) rfl ?_
      refine wp_ret rfl rfl ⟨⟨Nat.le_refl _, Nat.le_refl _⟩, ?_⟩
      have e : coV s kd nu = -2 := if_neg (show ¬ (inR 0 5 kd ∧ inR 0 9 nu) from fun z => (i0_f c_2) z.2)
      have e2 : coS s kd nu = s := if_neg (show ¬ (inR 0 5 kd ∧ inR 0 9 nu) from fun z => (i0_f c_2) z.2)
      exact ⟨by rw [e], mi, rfl, by rw [e2]; exact h, frL.rf mi⟩
set_option maxRecDepth 20000 in
set_option maxHeartbeats 1000000 in
theorem r_feed {X : aXt × Value} {mi : Nat → Nat → Int32} {ml : Nat → Nat → Int64} {mr : Nat → Nat → Option Nat} (hM : MRok mr) {n : Nat} (hn : n ≤ 160) (hs : mi 84 6 = nI n) {x : Int32} : aCW X 2 124 [.ref 84, .int x] (HD, mi, ml, mr) (fun r h' => r = some (.int (if inR 0 255 x then (if n < 160 then nI (n + 1) else -4) else -2)) ∧ h' = (HD, if inR 0 255 x then (if n < 160 then aup (aup mi 87 n x) 84 6 (nI (n + 1)) else mi) else mi, ml, mr)) := by
  refine cw_of (cd := cd_X7_feed) (nL := 2) rfl rfl ?_
  show aWP _ _ (0, [some (.ref 84), some (.int x)], [], (HD, mi, ml, mr)) _
  refine wp_steps 4 (t' := (4, [some (.ref 84), some (.int x)], [.long 255, .long 0, .long x.toInt64], (HD, mi, ml, mr))) rfl ?_
  refine wp_cal (as := [.long x.toInt64, .long 0, .long 255]) rfl rfl rfl (Nat.le_of_ble_eq_true rfl) ((c_in (x := x) (lo := 0) (hi := 255) rfl (by decide) (by decide))) (by decide) ?_
  rintro _ _ ⟨rfl, rfl⟩
  show aWP _ _ (5, [some (.ref 84), some (.int x)], [.int (if inR 0 255 x then (1 : Int32) else 0)], (HD, mi, ml, mr)) _
  refine wp_bI rfl (fun c_1 => ?_) (fun c_1 => ?_)
  · have c_1 : ¬ (if inR 0 255 x then (1 : Int32) else 0) = 0 := of_decide_eq_true c_1
    refine wp_steps 1 (t' := (9, [some (.ref 84), some (.int x)], [.ref 84], (HD, mi, ml, mr))) rfl ?_
    refine wp_geti rfl ⟨by decide, rfl⟩ (Or.inl rfl) ?_
    rw [show mi 84 6 = nI n from hs]
    refine wp_steps 1 (t' := (11, [some (.ref 84), some (.int x)], [.int 160, .int (nI n)], (HD, mi, ml, mr))) rfl ?_
    refine wp_bC rfl (fun c_2 => ?_) (fun c_2 => ?_)
    · have c_2 : ¬ (nI n) = 160 := of_decide_eq_true c_2
      refine wp_steps 1 (t' := (15, [some (.ref 84), some (.int x)], [.ref 84], (HD, mi, ml, mr))) rfl ?_
      refine wp_getr rfl ⟨by decide, rfl⟩ rfl (hM (84, 5, 87) (by decide)) ?_
      refine wp_steps 1 (t' := (17, [some (.ref 84), some (.int x)], [.ref 84, .ref 87], (HD, mi, ml, mr))) rfl ?_
      refine wp_geti rfl ⟨by decide, rfl⟩ (Or.inl rfl) ?_
      rw [hs]
      have q : n < 160 := Nat.lt_of_le_of_ne hn (fun z => c_2 (by rw [z]; rfl))
      refine wp_steps 1 (t' := (19, [some (.ref 84), some (.int x)], [.int x, .int (nI n), .ref 87], (HD, mi, ml, mr))) rfl ?_
      refine wp_iast rfl ⟨by decide, rfl⟩ (aix_nI q (by decide)) (fun m_3 h_4 => ?_)
      subst h_4
      rw [nI_clamp (n := n) (by omega)]
      refine wp_steps 2 (t' := (22, [some (.ref 84), some (.int x)], [.ref 84, .ref 84], (HD, (aup mi 87 n x), ml, mr))) rfl ?_
      refine wp_geti rfl ⟨by decide, rfl⟩ (Or.inl rfl) ?_
      rw [show (aup mi 87 n x) 84 6 = nI n from hs]
      refine wp_steps 2 (t' := (25, [some (.ref 84), some (.int x)], [.int ((nI n) + 1), .ref 84], (HD, (aup mi 87 n x), ml, mr))) rfl ?_
      rw [nI_1]
      refine wp_puti rfl ⟨by decide, rfl⟩ rfl (fun m_5 h_6 => ?_)
      subst h_6
      refine wp_steps 1 (t' := (27, [some (.ref 84), some (.int x)], [.ref 84], (HD, (aup (aup mi 87 n x) 84 6 (nI (n + 1))), ml, mr))) rfl ?_
      refine wp_geti rfl ⟨by decide, rfl⟩ (Or.inl rfl) ?_
      refine wp_ret rfl rfl ⟨⟨Nat.le_refl _, Nat.le_refl _⟩, ?_⟩
      exact ⟨by rw [if_pos (show inR 0 255 x from (i0_t c_1)), if_pos q]; rfl, by rw [if_pos (show inR 0 255 x from (i0_t c_1)), if_pos q]⟩
    · have c_2 : (nI n) = 160 := Decidable.not_not.mp (of_decide_eq_false c_2)
      refine wp_steps 1 (t' := (13, [some (.ref 84), some (.int x)], [.int (-4)], (HD, mi, ml, mr))) rfl ?_
      refine wp_ret rfl rfl ⟨⟨Nat.le_refl _, Nat.le_refl _⟩, ?_⟩
      have q : ¬ n < 160 := fun z => by have y := (nI_eq (a := n) (b := 160) (by omega) (by decide)).mp c_2; omega
      exact ⟨by rw [if_pos (show inR 0 255 x from (i0_t c_1)), if_neg q], by rw [if_pos (show inR 0 255 x from (i0_t c_1)), if_neg q]⟩
  · have c_1 : (if inR 0 255 x then (1 : Int32) else 0) = 0 := Decidable.not_not.mp (of_decide_eq_false c_1)
    refine wp_steps 1 (t' := (7, [some (.ref 84), some (.int x)], [.int (-2)], (HD, mi, ml, mr))) rfl ?_
    refine wp_ret rfl rfl ⟨⟨Nat.le_refl _, Nat.le_refl _⟩, ?_⟩
    exact ⟨by rw [if_neg (show ¬ (inR 0 255 x) from fun z => (i0_f c_1) z)], by rw [if_neg (show ¬ (inR 0 255 x) from fun z => (i0_f c_1) z)]⟩
theorem inC {x : Int32} {C : Nat} (hC : C ≤ 6) : inR 0 (nI C - 1) x ↔ aixn x C = true := by
  have e : (nI C - 1).toInt = (C : Int) - 1 := by
    rw [sub_t (by rw [nI_toInt (by omega)]; omega) (by decide), nI_toInt (by omega)]
    rfl
  rw [aix_iff (by omega), rI, e, i0, Int32.lt_iff_toInt_lt, Int32.le_iff_toInt_le, nI_toInt (by omega), i0]
  omega
set_option maxRecDepth 20000 in
set_option maxHeartbeats 1000000 in
theorem r_force {X : aXt × Value} {mi : Nat → Nat → Int32} {ml : Nat → Nat → Int64} {mr : Nat → Nat → Option Nat} (hM : MRok mr) {C : Nat} (hC : mi 84 3 = nI C) (hC6 : C ≤ 6) {x : Int32} : aCW X 2 172 [.ref 84, .int x] (HD, mi, ml, mr) (fun r h' => r = some (.int (if aixn x C = true then mi 84 4 else -2)) ∧ h' = (HD, if aixn x C = true then aup mi 84 4 x else mi, ml, mr)) := by
  refine cw_of (cd := cd_X7_force) (nL := 3) rfl rfl ?_
  show aWP _ _ (0, [some (.ref 84), some (.int x), none], [], (HD, mi, ml, mr)) _
  refine wp_steps 4 (t' := (4, [some (.ref 84), some (.int x), none], [.ref 84, .long 0, .long x.toInt64], (HD, mi, ml, mr))) rfl ?_
  refine wp_geti rfl ⟨by decide, rfl⟩ (Or.inl rfl) ?_
  refine wp_steps 1 (t' := (6, [some (.ref 84), some (.int x), none], [.int 1, .int (mi 84 3), .long 0, .long x.toInt64], (HD, mi, ml, mr))) rfl ?_
  rw [hC]
  refine wp_steps 2 (t' := (8, [some (.ref 84), some (.int x), none], [.long (((nI C) - 1).toInt64), .long 0, .long x.toInt64], (HD, mi, ml, mr))) rfl ?_
  refine wp_cal (as := [.long x.toInt64, .long 0, .long (((nI C) - 1).toInt64)]) rfl rfl rfl (Nat.le_of_ble_eq_true rfl) ((c_in (x := x) (lo := 0) (hi := nI C - 1) rfl (by decide) rfl)) (by decide) ?_
  rintro _ _ ⟨rfl, rfl⟩
  show aWP _ _ (9, [some (.ref 84), some (.int x), none], [.int (if inR 0 (nI C - 1) x then (1 : Int32) else 0)], (HD, mi, ml, mr)) _
  refine wp_bI rfl (fun c_1 => ?_) (fun c_1 => ?_)
  · have c_1 : ¬ (if inR 0 (nI C - 1) x then (1 : Int32) else 0) = 0 := of_decide_eq_true c_1
    refine wp_steps 1 (t' := (13, [some (.ref 84), some (.int x), none], [.ref 84], (HD, mi, ml, mr))) rfl ?_
    refine wp_geti rfl ⟨by decide, rfl⟩ (Or.inl rfl) ?_
    refine wp_steps 3 (t' := (17, [some (.ref 84), some (.int x), some (.int (mi 84 4))], [.int x, .ref 84], (HD, mi, ml, mr))) rfl ?_
    refine wp_puti rfl ⟨by decide, rfl⟩ rfl (fun m_2 h_3 => ?_)
    subst h_3
    refine wp_steps 1 (t' := (19, [some (.ref 84), some (.int x), some (.int (mi 84 4))], [.int (mi 84 4)], (HD, (aup mi 84 4 x), ml, mr))) rfl ?_
    refine wp_ret rfl rfl ⟨⟨Nat.le_refl _, Nat.le_refl _⟩, ?_⟩
    have q := (inC hC6).mp (i0_t c_1)
    exact ⟨by rw [if_pos q], by rw [if_pos q]⟩
  · have c_1 : (if inR 0 (nI C - 1) x then (1 : Int32) else 0) = 0 := Decidable.not_not.mp (of_decide_eq_false c_1)
    refine wp_steps 1 (t' := (11, [some (.ref 84), some (.int x), none], [.int (-2)], (HD, mi, ml, mr))) rfl ?_
    refine wp_ret rfl rfl ⟨⟨Nat.le_refl _, Nat.le_refl _⟩, ?_⟩
    have q : ¬ aixn x C = true := fun z => i0_f c_1 ((inC hC6).mpr z)
    exact ⟨by rw [if_neg q], by rw [if_neg q]⟩
set_option maxRecDepth 20000 in
set_option maxHeartbeats 1000000 in
theorem l_rimage94 {X : aXt × Value} {mi : Nat → Nat → Int32} {ml : Nat → Nat → Int64} {mr : Nat → Nat → Option Nat} (hM : MRok mr) {Q : Option Value → aM → Prop} : ∀ (g k : Nat) (m : Nat → Nat → Int32), k + g = 8 → (∀ x j, x ≠ 94 → m x j = mi x j) → (∀ j, j < k → m 94 j = mi 88 j) → (∀ m', (∀ x j, x ≠ 94 → m' x j = mi x j) → (∀ j, j < 8 → m' 94 j = mi 88 j) → aWP (aEx (aTb X) 0) cd_X7_image (15, [some (.ref 84), some (.int (nI 8))], [], (HD, m', ml, mr)) Q) → aWP (aEx (aTb X) 0) cd_X7_image (2, [some (.ref 84), some (.int (nI k))], [], (HD, m, ml, mr)) Q := by
  intro g
  induction g with
  | zero =>
    intro k m hg h1 h2 hk
    obtain rfl : k = 8 := by omega
    refine wp_steps 2 (t' := (4, [some (.ref 84), some (.int (nI 8))], [.int 8, .int (nI 8)], (HD, m, ml, mr))) rfl ?_
    refine wp_bC rfl (fun c_1 => ?_) (fun c_1 => ?_)
    rotate_left
    · have c_1 : ¬ (8 ≤ (nI 8)) := of_decide_eq_false c_1
      exact absurd (by decide) c_1
    have c_1 : 8 ≤ (nI 8) := of_decide_eq_true c_1
    exact hk m h1 h2
  | succ g ih =>
    intro k m hg h1 h2 hk
    have hkn : k < 8 := by omega
    refine wp_steps 2 (t' := (4, [some (.ref 84), some (.int (nI k))], [.int 8, .int (nI k)], (HD, m, ml, mr))) rfl ?_
    refine wp_bC rfl (fun c_1 => ?_) (fun c_1 => ?_)
    · have c_1 : 8 ≤ (nI k) := of_decide_eq_true c_1
      exact absurd c_1 (nI_ge hkn (by decide))
    have c_1 : ¬ (8 ≤ (nI k)) := of_decide_eq_false c_1
    refine wp_steps 1 (t' := (6, [some (.ref 84), some (.int (nI k))], [.ref 84], (HD, m, ml, mr))) rfl ?_
    refine wp_getr rfl ⟨by decide, rfl⟩ rfl (hM (84, 31, 94) (by decide)) ?_
    refine wp_steps 2 (t' := (9, [some (.ref 84), some (.int (nI k))], [.ref 84, .int (nI k), .ref 94], (HD, m, ml, mr))) rfl ?_
    refine wp_getr rfl ⟨by decide, rfl⟩ rfl (hM (84, 8, 88) (by decide)) ?_
    refine wp_steps 1 (t' := (11, [some (.ref 84), some (.int (nI k))], [.int (nI k), .ref 88, .int (nI k), .ref 94], (HD, m, ml, mr))) rfl ?_
    refine wp_iald rfl ⟨by decide, rfl⟩ (aix_nI hkn (by decide)) ?_
    rw [nI_clamp (n := k) (by omega)]
    refine wp_iast rfl ⟨by decide, rfl⟩ (aix_nI hkn (by decide)) (fun m_2 h_3 => ?_)
    subst h_3
    rw [nI_clamp (n := k) (by omega)]
    refine wp_steps 2 (t' := (2, [some (.ref 84), some (.int ((nI k) + Int32.ofInt 1))], [], (HD, (aup m 94 k (m 88 k)), ml, mr))) rfl ?_
    rw [inc_nI]
    refine ih (k + 1) _ (by omega) (fun x j q => ?_) (fun j hj => ?_) hk
    · rw [← h1 x j q]; simp only [aup, if_neg q]
    · by_cases e : j = k
      · subst e; simp only [aup, if_pos]; exact h1 88 _ (by decide)
      · simp only [aup, if_pos, if_neg e]; exact h2 j (by omega)
set_option maxRecDepth 20000 in
set_option maxHeartbeats 1000000 in
theorem l_rimage95 {X : aXt × Value} {mi : Nat → Nat → Int32} {ml : Nat → Nat → Int64} {mr : Nat → Nat → Option Nat} (hM : MRok mr) {Q : Option Value → aM → Prop} : ∀ (g k : Nat) (m : Nat → Nat → Int32), k + g = 5 → (∀ x j, x ≠ 95 → m x j = mi x j) → (∀ j, j < k → m 95 j = mi 90 j) → (∀ m', (∀ x j, x ≠ 95 → m' x j = mi x j) → (∀ j, j < 5 → m' 95 j = mi 90 j) → aWP (aEx (aTb X) 0) cd_X7_image (30, [some (.ref 84), some (.int (nI 5))], [], (HD, m', ml, mr)) Q) → aWP (aEx (aTb X) 0) cd_X7_image (17, [some (.ref 84), some (.int (nI k))], [], (HD, m, ml, mr)) Q := by
  intro g
  induction g with
  | zero =>
    intro k m hg h1 h2 hk
    obtain rfl : k = 5 := by omega
    refine wp_steps 2 (t' := (19, [some (.ref 84), some (.int (nI 5))], [.int 5, .int (nI 5)], (HD, m, ml, mr))) rfl ?_
    refine wp_bC rfl (fun c_1 => ?_) (fun c_1 => ?_)
    rotate_left
    · have c_1 : ¬ (5 ≤ (nI 5)) := of_decide_eq_false c_1
      exact absurd (by decide) c_1
    have c_1 : 5 ≤ (nI 5) := of_decide_eq_true c_1
    exact hk m h1 h2
  | succ g ih =>
    intro k m hg h1 h2 hk
    have hkn : k < 5 := by omega
    refine wp_steps 2 (t' := (19, [some (.ref 84), some (.int (nI k))], [.int 5, .int (nI k)], (HD, m, ml, mr))) rfl ?_
    refine wp_bC rfl (fun c_1 => ?_) (fun c_1 => ?_)
    · have c_1 : 5 ≤ (nI k) := of_decide_eq_true c_1
      exact absurd c_1 (nI_ge hkn (by decide))
    have c_1 : ¬ (5 ≤ (nI k)) := of_decide_eq_false c_1
    refine wp_steps 1 (t' := (21, [some (.ref 84), some (.int (nI k))], [.ref 84], (HD, m, ml, mr))) rfl ?_
    refine wp_getr rfl ⟨by decide, rfl⟩ rfl (hM (84, 32, 95) (by decide)) ?_
    refine wp_steps 2 (t' := (24, [some (.ref 84), some (.int (nI k))], [.ref 84, .int (nI k), .ref 95], (HD, m, ml, mr))) rfl ?_
    refine wp_getr rfl ⟨by decide, rfl⟩ rfl (hM (84, 10, 90) (by decide)) ?_
    refine wp_steps 1 (t' := (26, [some (.ref 84), some (.int (nI k))], [.int (nI k), .ref 90, .int (nI k), .ref 95], (HD, m, ml, mr))) rfl ?_
    refine wp_iald rfl ⟨by decide, rfl⟩ (aix_nI hkn (by decide)) ?_
    rw [nI_clamp (n := k) (by omega)]
    refine wp_iast rfl ⟨by decide, rfl⟩ (aix_nI hkn (by decide)) (fun m_2 h_3 => ?_)
    subst h_3
    rw [nI_clamp (n := k) (by omega)]
    refine wp_steps 2 (t' := (17, [some (.ref 84), some (.int ((nI k) + Int32.ofInt 1))], [], (HD, (aup m 95 k (m 90 k)), ml, mr))) rfl ?_
    rw [inc_nI]
    refine ih (k + 1) _ (by omega) (fun x j q => ?_) (fun j hj => ?_) hk
    · rw [← h1 x j q]; simp only [aup, if_neg q]
    · by_cases e : j = k
      · subst e; simp only [aup, if_pos]; exact h1 90 _ (by decide)
      · simp only [aup, if_pos, if_neg e]; exact h2 j (by omega)
set_option maxRecDepth 20000 in
set_option maxHeartbeats 1000000 in
theorem l_rimage96 {X : aXt × Value} {mi : Nat → Nat → Int32} {ml : Nat → Nat → Int64} {mr : Nat → Nat → Option Nat} (hM : MRok mr) {Q : Option Value → aM → Prop} : ∀ (g k : Nat) (m : Nat → Nat → Int32), k + g = 50 → (∀ x j, x ≠ 96 → m x j = mi x j) → (∀ j, j < k → m 96 j = mi 91 j) → (∀ m', (∀ x j, x ≠ 96 → m' x j = mi x j) → (∀ j, j < 50 → m' 96 j = mi 91 j) → aWP (aEx (aTb X) 0) cd_X7_image (45, [some (.ref 84), some (.int (nI 50))], [], (HD, m', ml, mr)) Q) → aWP (aEx (aTb X) 0) cd_X7_image (32, [some (.ref 84), some (.int (nI k))], [], (HD, m, ml, mr)) Q := by
  intro g
  induction g with
  | zero =>
    intro k m hg h1 h2 hk
    obtain rfl : k = 50 := by omega
    refine wp_steps 2 (t' := (34, [some (.ref 84), some (.int (nI 50))], [.int 50, .int (nI 50)], (HD, m, ml, mr))) rfl ?_
    refine wp_bC rfl (fun c_1 => ?_) (fun c_1 => ?_)
    rotate_left
    · have c_1 : ¬ (50 ≤ (nI 50)) := of_decide_eq_false c_1
      exact absurd (by decide) c_1
    have c_1 : 50 ≤ (nI 50) := of_decide_eq_true c_1
    exact hk m h1 h2
  | succ g ih =>
    intro k m hg h1 h2 hk
    have hkn : k < 50 := by omega
    refine wp_steps 2 (t' := (34, [some (.ref 84), some (.int (nI k))], [.int 50, .int (nI k)], (HD, m, ml, mr))) rfl ?_
    refine wp_bC rfl (fun c_1 => ?_) (fun c_1 => ?_)
    · have c_1 : 50 ≤ (nI k) := of_decide_eq_true c_1
      exact absurd c_1 (nI_ge hkn (by decide))
    have c_1 : ¬ (50 ≤ (nI k)) := of_decide_eq_false c_1
    refine wp_steps 1 (t' := (36, [some (.ref 84), some (.int (nI k))], [.ref 84], (HD, m, ml, mr))) rfl ?_
    refine wp_getr rfl ⟨by decide, rfl⟩ rfl (hM (84, 33, 96) (by decide)) ?_
    refine wp_steps 2 (t' := (39, [some (.ref 84), some (.int (nI k))], [.ref 84, .int (nI k), .ref 96], (HD, m, ml, mr))) rfl ?_
    refine wp_getr rfl ⟨by decide, rfl⟩ rfl (hM (84, 11, 91) (by decide)) ?_
    refine wp_steps 1 (t' := (41, [some (.ref 84), some (.int (nI k))], [.int (nI k), .ref 91, .int (nI k), .ref 96], (HD, m, ml, mr))) rfl ?_
    refine wp_iald rfl ⟨by decide, rfl⟩ (aix_nI hkn (by decide)) ?_
    rw [nI_clamp (n := k) (by omega)]
    refine wp_iast rfl ⟨by decide, rfl⟩ (aix_nI hkn (by decide)) (fun m_2 h_3 => ?_)
    subst h_3
    rw [nI_clamp (n := k) (by omega)]
    refine wp_steps 2 (t' := (32, [some (.ref 84), some (.int ((nI k) + Int32.ofInt 1))], [], (HD, (aup m 96 k (m 91 k)), ml, mr))) rfl ?_
    rw [inc_nI]
    refine ih (k + 1) _ (by omega) (fun x j q => ?_) (fun j hj => ?_) hk
    · rw [← h1 x j q]; simp only [aup, if_neg q]
    · by_cases e : j = k
      · subst e; simp only [aup, if_pos]; exact h1 91 _ (by decide)
      · simp only [aup, if_pos, if_neg e]; exact h2 j (by omega)
set_option maxRecDepth 20000 in
set_option maxHeartbeats 1000000 in
theorem l_rback88 {X : aXt × Value} {mi : Nat → Nat → Int32} {ml : Nat → Nat → Int64} {mr : Nat → Nat → Option Nat} (hM : MRok mr) {Q : Option Value → aM → Prop} : ∀ (g k : Nat) (m : Nat → Nat → Int32), k + g = 8 → (∀ x j, x ≠ 88 → m x j = mi x j) → (∀ j, j < k → m 88 j = mi 94 j) → (∀ m', (∀ x j, x ≠ 88 → m' x j = mi x j) → (∀ j, j < 8 → m' 88 j = mi 94 j) → aWP (aEx (aTb X) 0) cd_X7_back (21, [some (.ref 84), some (.int (nI 8))], [], (HD, m', ml, mr)) Q) → aWP (aEx (aTb X) 0) cd_X7_back (8, [some (.ref 84), some (.int (nI k))], [], (HD, m, ml, mr)) Q := by
  intro g
  induction g with
  | zero =>
    intro k m hg h1 h2 hk
    obtain rfl : k = 8 := by omega
    refine wp_steps 2 (t' := (10, [some (.ref 84), some (.int (nI 8))], [.int 8, .int (nI 8)], (HD, m, ml, mr))) rfl ?_
    refine wp_bC rfl (fun c_1 => ?_) (fun c_1 => ?_)
    rotate_left
    · have c_1 : ¬ (8 ≤ (nI 8)) := of_decide_eq_false c_1
      exact absurd (by decide) c_1
    have c_1 : 8 ≤ (nI 8) := of_decide_eq_true c_1
    exact hk m h1 h2
  | succ g ih =>
    intro k m hg h1 h2 hk
    have hkn : k < 8 := by omega
    refine wp_steps 2 (t' := (10, [some (.ref 84), some (.int (nI k))], [.int 8, .int (nI k)], (HD, m, ml, mr))) rfl ?_
    refine wp_bC rfl (fun c_1 => ?_) (fun c_1 => ?_)
    · have c_1 : 8 ≤ (nI k) := of_decide_eq_true c_1
      exact absurd c_1 (nI_ge hkn (by decide))
    have c_1 : ¬ (8 ≤ (nI k)) := of_decide_eq_false c_1
    refine wp_steps 1 (t' := (12, [some (.ref 84), some (.int (nI k))], [.ref 84], (HD, m, ml, mr))) rfl ?_
    refine wp_getr rfl ⟨by decide, rfl⟩ rfl (hM (84, 8, 88) (by decide)) ?_
    refine wp_steps 2 (t' := (15, [some (.ref 84), some (.int (nI k))], [.ref 84, .int (nI k), .ref 88], (HD, m, ml, mr))) rfl ?_
    refine wp_getr rfl ⟨by decide, rfl⟩ rfl (hM (84, 31, 94) (by decide)) ?_
    refine wp_steps 1 (t' := (17, [some (.ref 84), some (.int (nI k))], [.int (nI k), .ref 94, .int (nI k), .ref 88], (HD, m, ml, mr))) rfl ?_
    refine wp_iald rfl ⟨by decide, rfl⟩ (aix_nI hkn (by decide)) ?_
    rw [nI_clamp (n := k) (by omega)]
    refine wp_iast rfl ⟨by decide, rfl⟩ (aix_nI hkn (by decide)) (fun m_2 h_3 => ?_)
    subst h_3
    rw [nI_clamp (n := k) (by omega)]
    refine wp_steps 2 (t' := (8, [some (.ref 84), some (.int ((nI k) + Int32.ofInt 1))], [], (HD, (aup m 88 k (m 94 k)), ml, mr))) rfl ?_
    rw [inc_nI]
    refine ih (k + 1) _ (by omega) (fun x j q => ?_) (fun j hj => ?_) hk
    · rw [← h1 x j q]; simp only [aup, if_neg q]
    · by_cases e : j = k
      · subst e; simp only [aup, if_pos]; exact h1 94 _ (by decide)
      · simp only [aup, if_pos, if_neg e]; exact h2 j (by omega)
set_option maxRecDepth 20000 in
set_option maxHeartbeats 1000000 in
theorem l_rback90 {X : aXt × Value} {mi : Nat → Nat → Int32} {ml : Nat → Nat → Int64} {mr : Nat → Nat → Option Nat} (hM : MRok mr) {Q : Option Value → aM → Prop} : ∀ (g k : Nat) (m : Nat → Nat → Int32), k + g = 5 → (∀ x j, x ≠ 90 → m x j = mi x j) → (∀ j, j < k → m 90 j = mi 95 j) → (∀ m', (∀ x j, x ≠ 90 → m' x j = mi x j) → (∀ j, j < 5 → m' 90 j = mi 95 j) → aWP (aEx (aTb X) 0) cd_X7_back (36, [some (.ref 84), some (.int (nI 5))], [], (HD, m', ml, mr)) Q) → aWP (aEx (aTb X) 0) cd_X7_back (23, [some (.ref 84), some (.int (nI k))], [], (HD, m, ml, mr)) Q := by
  intro g
  induction g with
  | zero =>
    intro k m hg h1 h2 hk
    obtain rfl : k = 5 := by omega
    refine wp_steps 2 (t' := (25, [some (.ref 84), some (.int (nI 5))], [.int 5, .int (nI 5)], (HD, m, ml, mr))) rfl ?_
    refine wp_bC rfl (fun c_1 => ?_) (fun c_1 => ?_)
    rotate_left
    · have c_1 : ¬ (5 ≤ (nI 5)) := of_decide_eq_false c_1
      exact absurd (by decide) c_1
    have c_1 : 5 ≤ (nI 5) := of_decide_eq_true c_1
    exact hk m h1 h2
  | succ g ih =>
    intro k m hg h1 h2 hk
    have hkn : k < 5 := by omega
    refine wp_steps 2 (t' := (25, [some (.ref 84), some (.int (nI k))], [.int 5, .int (nI k)], (HD, m, ml, mr))) rfl ?_
    refine wp_bC rfl (fun c_1 => ?_) (fun c_1 => ?_)
    · have c_1 : 5 ≤ (nI k) := of_decide_eq_true c_1
      exact absurd c_1 (nI_ge hkn (by decide))
    have c_1 : ¬ (5 ≤ (nI k)) := of_decide_eq_false c_1
    refine wp_steps 1 (t' := (27, [some (.ref 84), some (.int (nI k))], [.ref 84], (HD, m, ml, mr))) rfl ?_
    refine wp_getr rfl ⟨by decide, rfl⟩ rfl (hM (84, 10, 90) (by decide)) ?_
    refine wp_steps 2 (t' := (30, [some (.ref 84), some (.int (nI k))], [.ref 84, .int (nI k), .ref 90], (HD, m, ml, mr))) rfl ?_
    refine wp_getr rfl ⟨by decide, rfl⟩ rfl (hM (84, 32, 95) (by decide)) ?_
    refine wp_steps 1 (t' := (32, [some (.ref 84), some (.int (nI k))], [.int (nI k), .ref 95, .int (nI k), .ref 90], (HD, m, ml, mr))) rfl ?_
    refine wp_iald rfl ⟨by decide, rfl⟩ (aix_nI hkn (by decide)) ?_
    rw [nI_clamp (n := k) (by omega)]
    refine wp_iast rfl ⟨by decide, rfl⟩ (aix_nI hkn (by decide)) (fun m_2 h_3 => ?_)
    subst h_3
    rw [nI_clamp (n := k) (by omega)]
    refine wp_steps 2 (t' := (23, [some (.ref 84), some (.int ((nI k) + Int32.ofInt 1))], [], (HD, (aup m 90 k (m 95 k)), ml, mr))) rfl ?_
    rw [inc_nI]
    refine ih (k + 1) _ (by omega) (fun x j q => ?_) (fun j hj => ?_) hk
    · rw [← h1 x j q]; simp only [aup, if_neg q]
    · by_cases e : j = k
      · subst e; simp only [aup, if_pos]; exact h1 95 _ (by decide)
      · simp only [aup, if_pos, if_neg e]; exact h2 j (by omega)
set_option maxRecDepth 20000 in
set_option maxHeartbeats 1000000 in
theorem l_rback91 {X : aXt × Value} {mi : Nat → Nat → Int32} {ml : Nat → Nat → Int64} {mr : Nat → Nat → Option Nat} (hM : MRok mr) {Q : Option Value → aM → Prop} : ∀ (g k : Nat) (m : Nat → Nat → Int32), k + g = 50 → (∀ x j, x ≠ 91 → m x j = mi x j) → (∀ j, j < k → m 91 j = mi 96 j) → (∀ m', (∀ x j, x ≠ 91 → m' x j = mi x j) → (∀ j, j < 50 → m' 91 j = mi 96 j) → aWP (aEx (aTb X) 0) cd_X7_back (51, [some (.ref 84), some (.int (nI 50))], [], (HD, m', ml, mr)) Q) → aWP (aEx (aTb X) 0) cd_X7_back (38, [some (.ref 84), some (.int (nI k))], [], (HD, m, ml, mr)) Q := by
  intro g
  induction g with
  | zero =>
    intro k m hg h1 h2 hk
    obtain rfl : k = 50 := by omega
    refine wp_steps 2 (t' := (40, [some (.ref 84), some (.int (nI 50))], [.int 50, .int (nI 50)], (HD, m, ml, mr))) rfl ?_
    refine wp_bC rfl (fun c_1 => ?_) (fun c_1 => ?_)
    rotate_left
    · have c_1 : ¬ (50 ≤ (nI 50)) := of_decide_eq_false c_1
      exact absurd (by decide) c_1
    have c_1 : 50 ≤ (nI 50) := of_decide_eq_true c_1
    exact hk m h1 h2
  | succ g ih =>
    intro k m hg h1 h2 hk
    have hkn : k < 50 := by omega
    refine wp_steps 2 (t' := (40, [some (.ref 84), some (.int (nI k))], [.int 50, .int (nI k)], (HD, m, ml, mr))) rfl ?_
    refine wp_bC rfl (fun c_1 => ?_) (fun c_1 => ?_)
    · have c_1 : 50 ≤ (nI k) := of_decide_eq_true c_1
      exact absurd c_1 (nI_ge hkn (by decide))
    have c_1 : ¬ (50 ≤ (nI k)) := of_decide_eq_false c_1
    refine wp_steps 1 (t' := (42, [some (.ref 84), some (.int (nI k))], [.ref 84], (HD, m, ml, mr))) rfl ?_
    refine wp_getr rfl ⟨by decide, rfl⟩ rfl (hM (84, 11, 91) (by decide)) ?_
    refine wp_steps 2 (t' := (45, [some (.ref 84), some (.int (nI k))], [.ref 84, .int (nI k), .ref 91], (HD, m, ml, mr))) rfl ?_
    refine wp_getr rfl ⟨by decide, rfl⟩ rfl (hM (84, 33, 96) (by decide)) ?_
    refine wp_steps 1 (t' := (47, [some (.ref 84), some (.int (nI k))], [.int (nI k), .ref 96, .int (nI k), .ref 91], (HD, m, ml, mr))) rfl ?_
    refine wp_iald rfl ⟨by decide, rfl⟩ (aix_nI hkn (by decide)) ?_
    rw [nI_clamp (n := k) (by omega)]
    refine wp_iast rfl ⟨by decide, rfl⟩ (aix_nI hkn (by decide)) (fun m_2 h_3 => ?_)
    subst h_3
    rw [nI_clamp (n := k) (by omega)]
    refine wp_steps 2 (t' := (38, [some (.ref 84), some (.int ((nI k) + Int32.ofInt 1))], [], (HD, (aup m 91 k (m 96 k)), ml, mr))) rfl ?_
    rw [inc_nI]
    refine ih (k + 1) _ (by omega) (fun x j q => ?_) (fun j hj => ?_) hk
    · rw [← h1 x j q]; simp only [aup, if_neg q]
    · by_cases e : j = k
      · subst e; simp only [aup, if_pos]; exact h1 96 _ (by decide)
      · simp only [aup, if_pos, if_neg e]; exact h2 j (by omega)
