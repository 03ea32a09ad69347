/-! the reader's sums, comparisons, nots, ones (written by wip/whole/mkpar3.py) -/
set_option maxRecDepth 20000 in
set_option maxHeartbeats 1000000 in
theorem l_readSum {X : aXt × Value} {mi : Nat → Nat → Int32} {ml : Nat → Nat → Int64} {mr : Nat → Nat → Option Nat} (hM : MRok mr) {n : Nat} (hn : n ≤ 160) (hs : mi 2 0 = nI n) (hX : outOK X) {op : Int32} {sub : pF} {d : Nat} (hd : 7 ≤ d) (hsub : cwP X mi ml mr d 21 op sub) : ∀ (g t : Nat) (m : Nat → Nat → Int32) (s : pS) (o : Option Value), t + g = 160 → PS mi m s → aWP (aEx (aTb X) d) cd_X1_readSum (8, [some (.ref 2), some (.int op), some (.int (nI t)), o], [], (HD, m, ml, mr)) (fun r h' => (HD.1 ≤ h'.1.1 ∧ HD.2.1 ≤ h'.1.2.1) ∧ (∃ m', h' = (HD, m', ml, mr) ∧ PS mi m' (lpF (byN (mi 3) n) n joS sub g s).2 ∧ r = some (.int (if (lpF (byN (mi 3) n) n joS sub g s).1 = true then 1 else 0)))) := by
  intro g
  induction g with
  | zero =>
    intro t m s o hg hi
    have e : t = 160 := by omega
    subst e
    refine wp_steps 2 (t' := (10, [some (.ref 2), some (.int op), some (.int (nI 160)), o], [.int 160, .int (nI 160)], (HD, m, ml, mr))) rfl ?_
    refine wp_bC rfl (fun c_1 => ?_) (fun c_1 => ?_)
    rotate_left
    · have c_1 : ¬ (160 ≤ (nI 160)) := of_decide_eq_false c_1
      exact absurd (by decide) c_1
    have c_1 : 160 ≤ (nI 160) := of_decide_eq_true c_1
    refine wp_steps 1 (t' := (42, [some (.ref 2), some (.int op), some (.int (nI 160)), o], [.int 1], (HD, m, ml, mr))) rfl ?_
    refine wp_ret rfl rfl ⟨⟨Nat.le_refl _, Nat.le_refl _⟩, ?_⟩
    exact ⟨m, rfl, hi, rfl⟩
  | succ g ih =>
    intro t m s o hg hi
    have ht : t < 160 := by omega
    refine wp_steps 2 (t' := (10, [some (.ref 2), some (.int op), some (.int (nI t)), o], [.int 160, .int (nI t)], (HD, m, ml, mr))) rfl ?_
    refine wp_bC rfl (fun c_1 => ?_) (fun c_1 => ?_)
    · have c_1 : 160 ≤ (nI t) := of_decide_eq_true c_1
      exact absurd c_1 (nI_ge ht (by decide))
    have c_1 : ¬ (160 ≤ (nI t)) := of_decide_eq_false c_1
    refine wp_steps 1 (t' := (12, [some (.ref 2), some (.int op), some (.int (nI t)), o], [.ref 2], (HD, m, ml, mr))) rfl ?_
    refine wp_geti rfl ⟨by decide, rfl⟩ (Or.inl rfl) ?_
    refine wp_steps 1 (t' := (14, [some (.ref 2), some (.int op), some (.int (nI t)), o], [.int 43, .int (m 2 3)], (HD, m, ml, mr))) rfl ?_
    refine wp_bC rfl (fun c_2 => ?_) (fun c_2 => ?_)
    · have c_2 : (m 2 3) = 43 := of_decide_eq_true c_2
      refine wp_steps 1 (t' := (20, [some (.ref 2), some (.int op), some (.int (nI t)), o], [.ref 2], (HD, m, ml, mr))) rfl ?_
      refine wp_geti rfl ⟨by decide, rfl⟩ (Or.inl rfl) ?_
      refine wp_steps 1 (t' := (22, [some (.ref 2), some (.int op), some (.int (nI t)), o], [.int 43, .int (m 2 3)], (HD, m, ml, mr))) rfl ?_
      refine wp_bC rfl (fun c_3 => ?_) (fun c_3 => ?_)
      · have c_3 : ¬ (m 2 3) = 43 := of_decide_eq_true c_3
        exact absurd c_2 c_3
      have c_3 : (m 2 3) = 43 := Decidable.not_not.mp (of_decide_eq_false c_3)
      refine wp_steps 4 (t' := (28, [some (.ref 2), some (.int op), some (.int (nI t)), some (.int (-16))], [.ref 2], (HD, m, ml, mr))) rfl ?_
      refine wp_calv (as := []) rfl rfl rfl (Nat.le_of_ble_eq_true rfl) ⟨by decide, rfl⟩ ((c_pstep hM hn hs hX hi)) (by omega) ?_
      rintro _ _ ⟨rfl, m_1, rfl, hp1⟩
      show aWP _ _ (29, [some (.ref 2), some (.int op), some (.int (nI t)), some (.int (-16))], [], (HD, m_1, ml, mr)) _
      refine wp_steps 2 (t' := (31, [some (.ref 2), some (.int op), some (.int (nI t)), some (.int (-16))], [.int op, .ref 2], (HD, m_1, ml, mr))) rfl ?_
      refine wp_calv (as := [.int op]) rfl rfl rfl (Nat.le_of_ble_eq_true rfl) ⟨by decide, rfl⟩ (hsub _ _ hp1) (by omega) ?_
      rintro _ _ ⟨m_2, rfl, hp2, rfl⟩
      show aWP _ _ (32, [some (.ref 2), some (.int op), some (.int (nI t)), some (.int (-16))], [.int (if (sub (stP (byN (mi 3) n) n s)).1 = true then (1 : Int32) else 0)], (HD, m_2, ml, mr)) _
      refine wp_bI rfl (fun c_4 => ?_) (fun c_4 => ?_)
      · have c_4 : ¬ (if (sub (stP (byN (mi 3) n) n s)).1 = true then (1 : Int32) else 0) = 0 := of_decide_eq_true c_4
        refine wp_steps 1 (t' := (36, [some (.ref 2), some (.int op), some (.int (nI t)), some (.int (-16))], [.ref 2], (HD, m_2, ml, mr))) rfl ?_
        refine wp_getr rfl ⟨by decide, rfl⟩ rfl (hM (2, 2, 4) (by decide)) ?_
        refine wp_steps 1 (t' := (38, [some (.ref 2), some (.int op), some (.int (nI t)), some (.int (-16))], [.int (-16), .ref 4], (HD, m_2, ml, mr))) rfl ?_
        refine wp_calv (as := [.int (-16)]) rfl rfl rfl (Nat.le_of_ble_eq_true rfl) ⟨by decide, rfl⟩ ((c_padd hM hp2)) (by omega) ?_
        rintro _ _ ⟨rfl, m_3, rfl, hp3⟩
        show aWP _ _ (39, [some (.ref 2), some (.int op), some (.int (nI t)), some (.int (-16))], [], (HD, m_3, ml, mr)) _
        refine wp_steps 2 (t' := (8, [some (.ref 2), some (.int op), some (.int ((nI t) + Int32.ofInt 1)), some (.int (-16))], [], (HD, m_3, ml, mr))) rfl ?_
        rw [inc_nI]
        have hj : joS s.2.2.1 = -16 := by rw [← hi.2.1]; simp [joS, c_2, c_3]
        have e : lpF (byN (mi 3) n) n joS sub (g + 1) s = lpF (byN (mi 3) n) n joS sub g (adP (-16) (sub (stP (byN (mi 3) n) n s)).2) := by
          show (if _ then _ else _) = _
          rw [hj, if_neg (by decide), if_pos (i1_t c_4)]
        rw [e]
        exact ih (t + 1) m_3 _ _ (by omega) hp3
      · have c_4 : (if (sub (stP (byN (mi 3) n) n s)).1 = true then (1 : Int32) else 0) = 0 := Decidable.not_not.mp (of_decide_eq_false c_4)
        refine wp_steps 1 (t' := (34, [some (.ref 2), some (.int op), some (.int (nI t)), some (.int (-16))], [.int 0], (HD, m_2, ml, mr))) rfl ?_
        refine wp_ret rfl rfl ⟨⟨Nat.le_refl _, Nat.le_refl _⟩, ?_⟩
        have hj : joS s.2.2.1 = -16 := by rw [← hi.2.1]; simp [joS, c_2, c_3]
        have e : lpF (byN (mi 3) n) n joS sub (g + 1) s = (false, (sub (stP (byN (mi 3) n) n s)).2) := by
          show (if _ then _ else _) = _
          rw [hj, if_neg (by decide), if_neg (i1_f c_4)]
        rw [e]
        exact ⟨m_2, rfl, hp2, rfl⟩
    · have c_2 : ¬ ((m 2 3) = 43) := of_decide_eq_false c_2
      refine wp_steps 1 (t' := (16, [some (.ref 2), some (.int op), some (.int (nI t)), o], [.ref 2], (HD, m, ml, mr))) rfl ?_
      refine wp_geti rfl ⟨by decide, rfl⟩ (Or.inl rfl) ?_
      refine wp_steps 1 (t' := (18, [some (.ref 2), some (.int op), some (.int (nI t)), o], [.int 45, .int (m 2 3)], (HD, m, ml, mr))) rfl ?_
      refine wp_bC rfl (fun c_5 => ?_) (fun c_5 => ?_)
      · have c_5 : ¬ (m 2 3) = 45 := of_decide_eq_true c_5
        refine wp_steps 1 (t' := (42, [some (.ref 2), some (.int op), some (.int (nI t)), o], [.int 1], (HD, m, ml, mr))) rfl ?_
        refine wp_ret rfl rfl ⟨⟨Nat.le_refl _, Nat.le_refl _⟩, ?_⟩
        have hj : joS s.2.2.1 = 0 := by rw [← hi.2.1]; simp [joS, c_2, c_5]
        have e : lpF (byN (mi 3) n) n joS sub (g + 1) s = (true, s) := if_pos hj
        rw [e]
        exact ⟨m, rfl, hi, rfl⟩
      · have c_5 : (m 2 3) = 45 := Decidable.not_not.mp (of_decide_eq_false c_5)
        refine wp_steps 1 (t' := (20, [some (.ref 2), some (.int op), some (.int (nI t)), o], [.ref 2], (HD, m, ml, mr))) rfl ?_
        refine wp_geti rfl ⟨by decide, rfl⟩ (Or.inl rfl) ?_
        refine wp_steps 1 (t' := (22, [some (.ref 2), some (.int op), some (.int (nI t)), o], [.int 43, .int (m 2 3)], (HD, m, ml, mr))) rfl ?_
        refine wp_bC rfl (fun c_6 => ?_) (fun c_6 => ?_)
        rotate_left
        · have c_6 : (m 2 3) = 43 := Decidable.not_not.mp (of_decide_eq_false c_6)
          exact absurd c_6 c_2
        have c_6 : ¬ (m 2 3) = 43 := of_decide_eq_true c_6
        refine wp_steps 3 (t' := (28, [some (.ref 2), some (.int op), some (.int (nI t)), some (.int (-17))], [.ref 2], (HD, m, ml, mr))) rfl ?_
        refine wp_calv (as := []) rfl rfl rfl (Nat.le_of_ble_eq_true rfl) ⟨by decide, rfl⟩ ((c_pstep hM hn hs hX hi)) (by omega) ?_
        rintro _ _ ⟨rfl, m_1, rfl, hp1⟩
        show aWP _ _ (29, [some (.ref 2), some (.int op), some (.int (nI t)), some (.int (-17))], [], (HD, m_1, ml, mr)) _
        refine wp_steps 2 (t' := (31, [some (.ref 2), some (.int op), some (.int (nI t)), some (.int (-17))], [.int op, .ref 2], (HD, m_1, ml, mr))) rfl ?_
        refine wp_calv (as := [.int op]) rfl rfl rfl (Nat.le_of_ble_eq_true rfl) ⟨by decide, rfl⟩ (hsub _ _ hp1) (by omega) ?_
        rintro _ _ ⟨m_2, rfl, hp2, rfl⟩
        show aWP _ _ (32, [some (.ref 2), some (.int op), some (.int (nI t)), some (.int (-17))], [.int (if (sub (stP (byN (mi 3) n) n s)).1 = true then (1 : Int32) else 0)], (HD, m_2, ml, mr)) _
        refine wp_bI rfl (fun c_7 => ?_) (fun c_7 => ?_)
        · have c_7 : ¬ (if (sub (stP (byN (mi 3) n) n s)).1 = true then (1 : Int32) else 0) = 0 := of_decide_eq_true c_7
          refine wp_steps 1 (t' := (36, [some (.ref 2), some (.int op), some (.int (nI t)), some (.int (-17))], [.ref 2], (HD, m_2, ml, mr))) rfl ?_
          refine wp_getr rfl ⟨by decide, rfl⟩ rfl (hM (2, 2, 4) (by decide)) ?_
          refine wp_steps 1 (t' := (38, [some (.ref 2), some (.int op), some (.int (nI t)), some (.int (-17))], [.int (-17), .ref 4], (HD, m_2, ml, mr))) rfl ?_
          refine wp_calv (as := [.int (-17)]) rfl rfl rfl (Nat.le_of_ble_eq_true rfl) ⟨by decide, rfl⟩ ((c_padd hM hp2)) (by omega) ?_
          rintro _ _ ⟨rfl, m_3, rfl, hp3⟩
          show aWP _ _ (39, [some (.ref 2), some (.int op), some (.int (nI t)), some (.int (-17))], [], (HD, m_3, ml, mr)) _
          refine wp_steps 2 (t' := (8, [some (.ref 2), some (.int op), some (.int ((nI t) + Int32.ofInt 1)), some (.int (-17))], [], (HD, m_3, ml, mr))) rfl ?_
          rw [inc_nI]
          have hj : joS s.2.2.1 = -17 := by rw [← hi.2.1]; simp [joS, c_2, c_5, c_6]
          have e : lpF (byN (mi 3) n) n joS sub (g + 1) s = lpF (byN (mi 3) n) n joS sub g (adP (-17) (sub (stP (byN (mi 3) n) n s)).2) := by
            show (if _ then _ else _) = _
            rw [hj, if_neg (by decide), if_pos (i1_t c_7)]
          rw [e]
          exact ih (t + 1) m_3 _ _ (by omega) hp3
        · have c_7 : (if (sub (stP (byN (mi 3) n) n s)).1 = true then (1 : Int32) else 0) = 0 := Decidable.not_not.mp (of_decide_eq_false c_7)
          refine wp_steps 1 (t' := (34, [some (.ref 2), some (.int op), some (.int (nI t)), some (.int (-17))], [.int 0], (HD, m_2, ml, mr))) rfl ?_
          refine wp_ret rfl rfl ⟨⟨Nat.le_refl _, Nat.le_refl _⟩, ?_⟩
          have hj : joS s.2.2.1 = -17 := by rw [← hi.2.1]; simp [joS, c_2, c_5, c_6]
          have e : lpF (byN (mi 3) n) n joS sub (g + 1) s = (false, (sub (stP (byN (mi 3) n) n s)).2) := by
            show (if _ then _ else _) = _
            rw [hj, if_neg (by decide), if_neg (i1_f c_7)]
          rw [e]
          exact ⟨m_2, rfl, hp2, rfl⟩
set_option maxRecDepth 20000 in
set_option maxHeartbeats 1000000 in
theorem c_readSum {X : aXt × Value} {mi : Nat → Nat → Int32} {ml : Nat → Nat → Int64} {mr : Nat → Nat → Option Nat} (hM : MRok mr) {n : Nat} (hn : n ≤ 160) (hs : mi 2 0 = nI n) (hX : outOK X) {op : Int32} {sub : pF} {d : Nat} (hd : 7 ≤ d) (hsub : cwP X mi ml mr d 21 op sub) : cwP X mi ml mr (d + 1) 20 op (chF (byN (mi 3) n) n joS sub) := by
  intro m s hp0
  refine cw_of (cd := cd_X1_readSum) (nL := 4) rfl rfl ?_
  show aWP _ _ (0, [some (.ref 2), some (.int op), none, none], [], (HD, m, ml, mr)) _
  refine wp_steps 2 (t' := (2, [some (.ref 2), some (.int op), none, none], [.int op, .ref 2], (HD, m, ml, mr))) rfl ?_
  refine wp_calv (as := [.int op]) rfl rfl rfl (Nat.le_of_ble_eq_true rfl) ⟨by decide, rfl⟩ (hsub _ _ hp0) (by omega) ?_
  rintro _ _ ⟨m_0, rfl, hp1, rfl⟩
  show aWP _ _ (3, [some (.ref 2), some (.int op), none, none], [.int (if (sub s).1 = true then (1 : Int32) else 0)], (HD, m_0, ml, mr)) _
  refine wp_bI rfl (fun c_1 => ?_) (fun c_1 => ?_)
  · have c_1 : ¬ (if (sub s).1 = true then (1 : Int32) else 0) = 0 := of_decide_eq_true c_1
    refine wp_steps 2 (t' := (8, [some (.ref 2), some (.int op), some (.int 0), none], [], (HD, m_0, ml, mr))) rfl ?_
    have e : chF (byN (mi 3) n) n joS sub s = lpF (byN (mi 3) n) n joS sub 160 (sub s).2 := if_pos (i1_t c_1)
    rw [e]
    exact l_readSum hM hn hs hX hd hsub 160 0 m_0 _ _ rfl hp1
  · have c_1 : (if (sub s).1 = true then (1 : Int32) else 0) = 0 := Decidable.not_not.mp (of_decide_eq_false c_1)
    refine wp_steps 1 (t' := (5, [some (.ref 2), some (.int op), none, none], [.int 0], (HD, m_0, ml, mr))) rfl ?_
    refine wp_ret rfl rfl ⟨⟨Nat.le_refl _, Nat.le_refl _⟩, ?_⟩
    have e : chF (byN (mi 3) n) n joS sub s = (false, (sub s).2) := if_neg (i1_f c_1)
    rw [e]
    exact ⟨m_0, rfl, hp1, rfl⟩
set_option maxRecDepth 20000 in
set_option maxHeartbeats 1000000 in
theorem c_readLike {X : aXt × Value} {mi : Nat → Nat → Int32} {ml : Nat → Nat → Int64} {mr : Nat → Nat → Option Nat} (hM : MRok mr) {n : Nat} (hn : n ≤ 160) (hs : mi 2 0 = nI n) (hX : outOK X) {op : Int32} {sub : pF} {d : Nat} (hd : 7 ≤ d) (hsub : cwP X mi ml mr d 20 op sub) : cwP X mi ml mr (d + 1) 19 op (liF (byN (mi 3) n) n sub) := by
  intro m s hp0
  refine cw_of (cd := cd_X1_readLike) (nL := 3) rfl rfl ?_
  show aWP _ _ (0, [some (.ref 2), some (.int op), none], [], (HD, m, ml, mr)) _
  refine wp_steps 2 (t' := (2, [some (.ref 2), some (.int op), none], [.int op, .ref 2], (HD, m, ml, mr))) rfl ?_
  refine wp_calv (as := [.int op]) rfl rfl rfl (Nat.le_of_ble_eq_true rfl) ⟨by decide, rfl⟩ (hsub _ _ hp0) (by omega) ?_
  rintro _ _ ⟨m_0, rfl, hp1, rfl⟩
  show aWP _ _ (3, [some (.ref 2), some (.int op), none], [.int (if (sub s).1 = true then (1 : Int32) else 0)], (HD, m_0, ml, mr)) _
  refine wp_bI rfl (fun c_1 => ?_) (fun c_1 => ?_)
  · have c_1 : ¬ (if (sub s).1 = true then (1 : Int32) else 0) = 0 := of_decide_eq_true c_1
    refine wp_steps 1 (t' := (7, [some (.ref 2), some (.int op), none], [.ref 2], (HD, m_0, ml, mr))) rfl ?_
    refine wp_geti rfl ⟨by decide, rfl⟩ (Or.inl rfl) ?_
    refine wp_steps 1 (t' := (9, [some (.ref 2), some (.int op), none], [.int 60, .int (m_0 2 3)], (HD, m_0, ml, mr))) rfl ?_
    refine wp_bC rfl (fun c_2 => ?_) (fun c_2 => ?_)
    · have c_2 : (m_0 2 3) = 60 := of_decide_eq_true c_2
      refine wp_steps 1 (t' := (17, [some (.ref 2), some (.int op), none], [.ref 2], (HD, m_0, ml, mr))) rfl ?_
      refine wp_geti rfl ⟨by decide, rfl⟩ (Or.inl rfl) ?_
      refine wp_steps 1 (t' := (19, [some (.ref 2), some (.int op), none], [.int 60, .int (m_0 2 3)], (HD, m_0, ml, mr))) rfl ?_
      refine wp_bC rfl (fun c_3 => ?_) (fun c_3 => ?_)
      · have c_3 : ¬ (m_0 2 3) = 60 := of_decide_eq_true c_3
        exact absurd c_2 c_3
      have c_3 : (m_0 2 3) = 60 := Decidable.not_not.mp (of_decide_eq_false c_3)
      refine wp_steps 4 (t' := (25, [some (.ref 2), some (.int op), some (.int (-14))], [.ref 2], (HD, m_0, ml, mr))) rfl ?_
      refine wp_calv (as := []) rfl rfl rfl (Nat.le_of_ble_eq_true rfl) ⟨by decide, rfl⟩ ((c_pstep hM hn hs hX hp1)) (by omega) ?_
      rintro _ _ ⟨rfl, m_1, rfl, hp2⟩
      show aWP _ _ (26, [some (.ref 2), some (.int op), some (.int (-14))], [], (HD, m_1, ml, mr)) _
      refine wp_steps 2 (t' := (28, [some (.ref 2), some (.int op), some (.int (-14))], [.int op, .ref 2], (HD, m_1, ml, mr))) rfl ?_
      refine wp_calv (as := [.int op]) rfl rfl rfl (Nat.le_of_ble_eq_true rfl) ⟨by decide, rfl⟩ (hsub _ _ hp2) (by omega) ?_
      rintro _ _ ⟨m_2, rfl, hp3, rfl⟩
      show aWP _ _ (29, [some (.ref 2), some (.int op), some (.int (-14))], [.int (if (sub (stP (byN (mi 3) n) n (sub s).2)).1 = true then (1 : Int32) else 0)], (HD, m_2, ml, mr)) _
      refine wp_bI rfl (fun c_4 => ?_) (fun c_4 => ?_)
      · have c_4 : ¬ (if (sub (stP (byN (mi 3) n) n (sub s).2)).1 = true then (1 : Int32) else 0) = 0 := of_decide_eq_true c_4
        refine wp_steps 1 (t' := (33, [some (.ref 2), some (.int op), some (.int (-14))], [.ref 2], (HD, m_2, ml, mr))) rfl ?_
        refine wp_getr rfl ⟨by decide, rfl⟩ rfl (hM (2, 2, 4) (by decide)) ?_
        refine wp_steps 1 (t' := (35, [some (.ref 2), some (.int op), some (.int (-14))], [.int (-14), .ref 4], (HD, m_2, ml, mr))) rfl ?_
        refine wp_calv (as := [.int (-14)]) rfl rfl rfl (Nat.le_of_ble_eq_true rfl) ⟨by decide, rfl⟩ ((c_padd hM hp3)) (by omega) ?_
        rintro _ _ ⟨rfl, m_3, rfl, hp4⟩
        show aWP _ _ (36, [some (.ref 2), some (.int op), some (.int (-14))], [], (HD, m_3, ml, mr)) _
        refine wp_steps 1 (t' := (37, [some (.ref 2), some (.int op), some (.int (-14))], [.int 1], (HD, m_3, ml, mr))) rfl ?_
        refine wp_ret rfl rfl ⟨⟨Nat.le_refl _, Nat.le_refl _⟩, ?_⟩
        have ht : (sub s).2.2.2.1 = m_0 2 3 := hp1.2.1.symm
        have e : liF (byN (mi 3) n) n sub s = (true, adP (-14) (sub (stP (byN (mi 3) n) n (sub s).2)).2) := by
          show (if _ then (if _ then (if _ then _ else _) else _) else _) = _
          rw [if_pos (i1_t c_1), ht, if_pos (by simp [c_2, c_3]), if_pos (i1_t c_4)]
          simp [c_2, c_3]
        rw [e]
        exact ⟨m_3, rfl, hp4, rfl⟩
      · have c_4 : (if (sub (stP (byN (mi 3) n) n (sub s).2)).1 = true then (1 : Int32) else 0) = 0 := Decidable.not_not.mp (of_decide_eq_false c_4)
        refine wp_steps 1 (t' := (31, [some (.ref 2), some (.int op), some (.int (-14))], [.int 0], (HD, m_2, ml, mr))) rfl ?_
        refine wp_ret rfl rfl ⟨⟨Nat.le_refl _, Nat.le_refl _⟩, ?_⟩
        have ht : (sub s).2.2.2.1 = m_0 2 3 := hp1.2.1.symm
        have e : liF (byN (mi 3) n) n sub s = (false, (sub (stP (byN (mi 3) n) n (sub s).2)).2) := by
          show (if _ then (if _ then (if _ then _ else _) else _) else _) = _
          rw [if_pos (i1_t c_1), ht, if_pos (by simp [c_2, c_3]), if_neg (i1_f c_4)]
        rw [e]
        exact ⟨m_2, rfl, hp3, rfl⟩
    · have c_2 : ¬ ((m_0 2 3) = 60) := of_decide_eq_false c_2
      refine wp_steps 1 (t' := (11, [some (.ref 2), some (.int op), none], [.ref 2], (HD, m_0, ml, mr))) rfl ?_
      refine wp_geti rfl ⟨by decide, rfl⟩ (Or.inl rfl) ?_
      refine wp_steps 1 (t' := (13, [some (.ref 2), some (.int op), none], [.int 61, .int (m_0 2 3)], (HD, m_0, ml, mr))) rfl ?_
      refine wp_bC rfl (fun c_5 => ?_) (fun c_5 => ?_)
      · have c_5 : (m_0 2 3) = 61 := of_decide_eq_true c_5
        refine wp_steps 1 (t' := (17, [some (.ref 2), some (.int op), none], [.ref 2], (HD, m_0, ml, mr))) rfl ?_
        refine wp_geti rfl ⟨by decide, rfl⟩ (Or.inl rfl) ?_
        refine wp_steps 1 (t' := (19, [some (.ref 2), some (.int op), none], [.int 60, .int (m_0 2 3)], (HD, m_0, ml, mr))) rfl ?_
        refine wp_bC rfl (fun c_6 => ?_) (fun c_6 => ?_)
        rotate_left
        · have c_6 : (m_0 2 3) = 60 := Decidable.not_not.mp (of_decide_eq_false c_6)
          exact absurd c_6 c_2
        have c_6 : ¬ (m_0 2 3) = 60 := of_decide_eq_true c_6
        refine wp_steps 3 (t' := (25, [some (.ref 2), some (.int op), some (.int (-15))], [.ref 2], (HD, m_0, ml, mr))) rfl ?_
        refine wp_calv (as := []) rfl rfl rfl (Nat.le_of_ble_eq_true rfl) ⟨by decide, rfl⟩ ((c_pstep hM hn hs hX hp1)) (by omega) ?_
        rintro _ _ ⟨rfl, m_1, rfl, hp2⟩
        show aWP _ _ (26, [some (.ref 2), some (.int op), some (.int (-15))], [], (HD, m_1, ml, mr)) _
        refine wp_steps 2 (t' := (28, [some (.ref 2), some (.int op), some (.int (-15))], [.int op, .ref 2], (HD, m_1, ml, mr))) rfl ?_
        refine wp_calv (as := [.int op]) rfl rfl rfl (Nat.le_of_ble_eq_true rfl) ⟨by decide, rfl⟩ (hsub _ _ hp2) (by omega) ?_
        rintro _ _ ⟨m_2, rfl, hp3, rfl⟩
        show aWP _ _ (29, [some (.ref 2), some (.int op), some (.int (-15))], [.int (if (sub (stP (byN (mi 3) n) n (sub s).2)).1 = true then (1 : Int32) else 0)], (HD, m_2, ml, mr)) _
        refine wp_bI rfl (fun c_7 => ?_) (fun c_7 => ?_)
        · have c_7 : ¬ (if (sub (stP (byN (mi 3) n) n (sub s).2)).1 = true then (1 : Int32) else 0) = 0 := of_decide_eq_true c_7
          refine wp_steps 1 (t' := (33, [some (.ref 2), some (.int op), some (.int (-15))], [.ref 2], (HD, m_2, ml, mr))) rfl ?_
          refine wp_getr rfl ⟨by decide, rfl⟩ rfl (hM (2, 2, 4) (by decide)) ?_
          refine wp_steps 1 (t' := (35, [some (.ref 2), some (.int op), some (.int (-15))], [.int (-15), .ref 4], (HD, m_2, ml, mr))) rfl ?_
          refine wp_calv (as := [.int (-15)]) rfl rfl rfl (Nat.le_of_ble_eq_true rfl) ⟨by decide, rfl⟩ ((c_padd hM hp3)) (by omega) ?_
          rintro _ _ ⟨rfl, m_3, rfl, hp4⟩
          show aWP _ _ (36, [some (.ref 2), some (.int op), some (.int (-15))], [], (HD, m_3, ml, mr)) _
          refine wp_steps 1 (t' := (37, [some (.ref 2), some (.int op), some (.int (-15))], [.int 1], (HD, m_3, ml, mr))) rfl ?_
          refine wp_ret rfl rfl ⟨⟨Nat.le_refl _, Nat.le_refl _⟩, ?_⟩
          have ht : (sub s).2.2.2.1 = m_0 2 3 := hp1.2.1.symm
          have e : liF (byN (mi 3) n) n sub s = (true, adP (-15) (sub (stP (byN (mi 3) n) n (sub s).2)).2) := by
            show (if _ then (if _ then (if _ then _ else _) else _) else _) = _
            rw [if_pos (i1_t c_1), ht, if_pos (by simp [c_2, c_5, c_6]), if_pos (i1_t c_7)]
            simp [c_2, c_5, c_6]
          rw [e]
          exact ⟨m_3, rfl, hp4, rfl⟩
        · have c_7 : (if (sub (stP (byN (mi 3) n) n (sub s).2)).1 = true then (1 : Int32) else 0) = 0 := Decidable.not_not.mp (of_decide_eq_false c_7)
          refine wp_steps 1 (t' := (31, [some (.ref 2), some (.int op), some (.int (-15))], [.int 0], (HD, m_2, ml, mr))) rfl ?_
          refine wp_ret rfl rfl ⟨⟨Nat.le_refl _, Nat.le_refl _⟩, ?_⟩
          have ht : (sub s).2.2.2.1 = m_0 2 3 := hp1.2.1.symm
          have e : liF (byN (mi 3) n) n sub s = (false, (sub (stP (byN (mi 3) n) n (sub s).2)).2) := by
            show (if _ then (if _ then (if _ then _ else _) else _) else _) = _
            rw [if_pos (i1_t c_1), ht, if_pos (by simp [c_2, c_5, c_6]), if_neg (i1_f c_7)]
          rw [e]
          exact ⟨m_2, rfl, hp3, rfl⟩
      · have c_5 : ¬ ((m_0 2 3) = 61) := of_decide_eq_false c_5
        refine wp_steps 1 (t' := (15, [some (.ref 2), some (.int op), none], [.int 1], (HD, m_0, ml, mr))) rfl ?_
        refine wp_ret rfl rfl ⟨⟨Nat.le_refl _, Nat.le_refl _⟩, ?_⟩
        have ht : (sub s).2.2.2.1 = m_0 2 3 := hp1.2.1.symm
        have e : liF (byN (mi 3) n) n sub s = (true, (sub s).2) := by
          show (if _ then (if _ then _ else _) else _) = _
          rw [if_pos (i1_t c_1), ht, if_neg (by simp [c_2, c_5])]
        rw [e]
        exact ⟨m_0, rfl, hp1, rfl⟩
  · have c_1 : (if (sub s).1 = true then (1 : Int32) else 0) = 0 := Decidable.not_not.mp (of_decide_eq_false c_1)
    refine wp_steps 1 (t' := (5, [some (.ref 2), some (.int op), none], [.int 0], (HD, m_0, ml, mr))) rfl ?_
    refine wp_ret rfl rfl ⟨⟨Nat.le_refl _, Nat.le_refl _⟩, ?_⟩
    have e : liF (byN (mi 3) n) n sub s = (false, (sub s).2) := if_neg (i1_f c_1)
    rw [e]
    exact ⟨m_0, rfl, hp1, rfl⟩
theorem qZ_i1 (b : Bool) : qZ (.int (if b = true then (1 : Int32) else 0)) = true := by cases b <;> rfl
/-- what the next level does -/
def dpP (X : aXt × Value) (mi : Nat → Nat → Int32) (ml : Nat → Nat → Int64) (mr : Nat → Nat → Option Nat) (d : Nat) (op : Int32) : Option (pF × pF × pF) → Prop
  | none => ¬ op < 5
  | some q => op < 5 ∧ cwP X mi ml mr d 16 (op + 1) q.1 ∧ cwP X mi ml mr d 18 (op + 1) q.2.1 ∧ cwP X mi ml mr d 22 (op + 1) q.2.2
set_option maxRecDepth 20000 in
set_option maxHeartbeats 1000000 in
theorem c_readNot_n {X : aXt × Value} {mi : Nat → Nat → Int32} {ml : Nat → Nat → Int64} {mr : Nat → Nat → Option Nat} (hM : MRok mr) {n : Nat} (hn : n ≤ 160) (hs : mi 2 0 = nI n) (hX : outOK X) {op : Int32} {sub : pF} {d : Nat} (hd : 7 ≤ d) (hsub : cwP X mi ml mr d 19 op sub) (hq : dpP X mi ml mr d op none) : cwP X mi ml mr (d + 1) 18 op (ntF (byN (mi 3) n) n none sub) := by
  intro m s hp0
  refine cw_of (cd := cd_X1_readNot) (nL := 2) rfl rfl ?_
  show aWP _ _ (0, [some (.ref 2), some (.int op)], [], (HD, m, ml, mr)) _
  refine wp_steps 1 (t' := (1, [some (.ref 2), some (.int op)], [.ref 2], (HD, m, ml, mr))) rfl ?_
  refine wp_geti rfl ⟨by decide, rfl⟩ (Or.inl rfl) ?_
  refine wp_steps 1 (t' := (3, [some (.ref 2), some (.int op)], [.int 8, .int (m 2 3)], (HD, m, ml, mr))) rfl ?_
  refine wp_bC rfl (fun c_1 => ?_) (fun c_1 => ?_)
  · have c_1 : (m 2 3) = 8 := of_decide_eq_true c_1
    refine wp_steps 2 (t' := (10, [some (.ref 2), some (.int op)], [.int 5, .int op], (HD, m, ml, mr))) rfl ?_
    refine wp_bC rfl (fun c_2 => ?_) (fun c_2 => ?_)
    · have c_2 : op < 5 := of_decide_eq_true c_2
      exact absurd c_2 hq
    have c_2 : ¬ (op < 5) := of_decide_eq_false c_2
    refine wp_steps 1 (t' := (12, [some (.ref 2), some (.int op)], [.int 0], (HD, m, ml, mr))) rfl ?_
    refine wp_ret rfl rfl ⟨⟨Nat.le_refl _, Nat.le_refl _⟩, ?_⟩
    have ht : s.2.2.1 = m 2 3 := hp0.2.1.symm
    have e : ntF (byN (mi 3) n) n none sub s = (false, s) := if_pos (by rw [ht]; exact c_1)
    rw [e]
    exact ⟨m, rfl, hp0, rfl⟩
  · have c_1 : ¬ ((m 2 3) = 8) := of_decide_eq_false c_1
    refine wp_steps 2 (t' := (6, [some (.ref 2), some (.int op)], [.int op, .ref 2], (HD, m, ml, mr))) rfl ?_
    refine wp_calv (as := [.int op]) rfl rfl rfl (Nat.le_of_ble_eq_true rfl) ⟨by decide, rfl⟩ (hsub _ _ hp0) (by omega) ?_
    rintro _ _ ⟨m_0, rfl, hp1, rfl⟩
    show aWP _ _ (7, [some (.ref 2), some (.int op)], [.int (if (sub s).1 = true then (1 : Int32) else 0)], (HD, m_0, ml, mr)) _
    refine wp_ret rfl (if_pos (qZ_i1 _)) ⟨⟨Nat.le_refl _, Nat.le_refl _⟩, ?_⟩
    have ht : s.2.2.1 = m 2 3 := hp0.2.1.symm
    have e : ntF (byN (mi 3) n) n none sub s = sub s := if_neg (by rw [ht]; exact c_1)
    rw [e]
    exact ⟨m_0, rfl, hp1, rfl⟩
set_option maxRecDepth 20000 in
set_option maxHeartbeats 1000000 in
theorem c_readNot_s {X : aXt × Value} {mi : Nat → Nat → Int32} {ml : Nat → Nat → Int64} {mr : Nat → Nat → Option Nat} (hM : MRok mr) {n : Nat} (hn : n ≤ 160) (hs : mi 2 0 = nI n) (hX : outOK X) {op : Int32} {sub : pF} {d : Nat} (hd : 7 ≤ d) (hsub : cwP X mi ml mr d 19 op sub) {q : pF × pF × pF} (hq : dpP X mi ml mr d op (some q)) : cwP X mi ml mr (d + 1) 18 op (ntF (byN (mi 3) n) n (some q) sub) := by
  intro m s hp0
  refine cw_of (cd := cd_X1_readNot) (nL := 2) rfl rfl ?_
  show aWP _ _ (0, [some (.ref 2), some (.int op)], [], (HD, m, ml, mr)) _
  refine wp_steps 1 (t' := (1, [some (.ref 2), some (.int op)], [.ref 2], (HD, m, ml, mr))) rfl ?_
  refine wp_geti rfl ⟨by decide, rfl⟩ (Or.inl rfl) ?_
  refine wp_steps 1 (t' := (3, [some (.ref 2), some (.int op)], [.int 8, .int (m 2 3)], (HD, m, ml, mr))) rfl ?_
  refine wp_bC rfl (fun c_1 => ?_) (fun c_1 => ?_)
  · have c_1 : (m 2 3) = 8 := of_decide_eq_true c_1
    refine wp_steps 2 (t' := (10, [some (.ref 2), some (.int op)], [.int 5, .int op], (HD, m, ml, mr))) rfl ?_
    refine wp_bC rfl (fun c_2 => ?_) (fun c_2 => ?_)
    rotate_left
    · have c_2 : ¬ (op < 5) := of_decide_eq_false c_2
      exact absurd hq.1 c_2
    have c_2 : op < 5 := of_decide_eq_true c_2
    refine wp_steps 1 (t' := (14, [some (.ref 2), some (.int op)], [.ref 2], (HD, m, ml, mr))) rfl ?_
    refine wp_calv (as := []) rfl rfl rfl (Nat.le_of_ble_eq_true rfl) ⟨by decide, rfl⟩ ((c_pstep hM hn hs hX hp0)) (by omega) ?_
    rintro _ _ ⟨rfl, m_1, rfl, hp2⟩
    show aWP _ _ (15, [some (.ref 2), some (.int op)], [], (HD, m_1, ml, mr)) _
    refine wp_steps 4 (t' := (19, [some (.ref 2), some (.int op)], [.int (op + 1), .ref 2], (HD, m_1, ml, mr))) rfl ?_
    refine wp_calv (as := [.int (op + 1)]) rfl rfl rfl (Nat.le_of_ble_eq_true rfl) ⟨by decide, rfl⟩ (hq.2.2.1 _ _ hp2) (by omega) ?_
    rintro _ _ ⟨m_2, rfl, hp3, rfl⟩
    show aWP _ _ (20, [some (.ref 2), some (.int op)], [.int (if (q.2.1 (stP (byN (mi 3) n) n s)).1 = true then (1 : Int32) else 0)], (HD, m_2, ml, mr)) _
    refine wp_bI rfl (fun c_3 => ?_) (fun c_3 => ?_)
    · have c_3 : ¬ (if (q.2.1 (stP (byN (mi 3) n) n s)).1 = true then (1 : Int32) else 0) = 0 := of_decide_eq_true c_3
      refine wp_steps 1 (t' := (24, [some (.ref 2), some (.int op)], [.ref 2], (HD, m_2, ml, mr))) rfl ?_
      refine wp_getr rfl ⟨by decide, rfl⟩ rfl (hM (2, 2, 4) (by decide)) ?_
      refine wp_steps 1 (t' := (26, [some (.ref 2), some (.int op)], [.int (-13), .ref 4], (HD, m_2, ml, mr))) rfl ?_
      refine wp_calv (as := [.int (-13)]) rfl rfl rfl (Nat.le_of_ble_eq_true rfl) ⟨by decide, rfl⟩ ((c_padd hM hp3)) (by omega) ?_
      rintro _ _ ⟨rfl, m_3, rfl, hp4⟩
      show aWP _ _ (27, [some (.ref 2), some (.int op)], [], (HD, m_3, ml, mr)) _
      refine wp_steps 1 (t' := (28, [some (.ref 2), some (.int op)], [.int 1], (HD, m_3, ml, mr))) rfl ?_
      refine wp_ret rfl rfl ⟨⟨Nat.le_refl _, Nat.le_refl _⟩, ?_⟩
      have ht : s.2.2.1 = m 2 3 := hp0.2.1.symm
      have e : ntF (byN (mi 3) n) n (some q) sub s = (true, adP (-13) (q.2.1 (stP (byN (mi 3) n) n s)).2) := by
        show (if _ then (if _ then _ else _) else _) = _
        rw [ht, if_pos (by exact c_1), if_pos (i1_t c_3)]
      rw [e]
      exact ⟨m_3, rfl, hp4, rfl⟩
    · have c_3 : (if (q.2.1 (stP (byN (mi 3) n) n s)).1 = true then (1 : Int32) else 0) = 0 := Decidable.not_not.mp (of_decide_eq_false c_3)
      refine wp_steps 1 (t' := (22, [some (.ref 2), some (.int op)], [.int 0], (HD, m_2, ml, mr))) rfl ?_
      refine wp_ret rfl rfl ⟨⟨Nat.le_refl _, Nat.le_refl _⟩, ?_⟩
      have ht : s.2.2.1 = m 2 3 := hp0.2.1.symm
      have e : ntF (byN (mi 3) n) n (some q) sub s = (false, (q.2.1 (stP (byN (mi 3) n) n s)).2) := by
        show (if _ then (if _ then _ else _) else _) = _
        rw [ht, if_pos (by exact c_1), if_neg (i1_f c_3)]
      rw [e]
      exact ⟨m_2, rfl, hp3, rfl⟩
  · have c_1 : ¬ ((m 2 3) = 8) := of_decide_eq_false c_1
    refine wp_steps 2 (t' := (6, [some (.ref 2), some (.int op)], [.int op, .ref 2], (HD, m, ml, mr))) rfl ?_
    refine wp_calv (as := [.int op]) rfl rfl rfl (Nat.le_of_ble_eq_true rfl) ⟨by decide, rfl⟩ (hsub _ _ hp0) (by omega) ?_
    rintro _ _ ⟨m_0, rfl, hp1, rfl⟩
    show aWP _ _ (7, [some (.ref 2), some (.int op)], [.int (if (sub s).1 = true then (1 : Int32) else 0)], (HD, m_0, ml, mr)) _
    refine wp_ret rfl (if_pos (qZ_i1 _)) ⟨⟨Nat.le_refl _, Nat.le_refl _⟩, ?_⟩
    have ht : s.2.2.1 = m 2 3 := hp0.2.1.symm
    have e : ntF (byN (mi 3) n) n (some q) sub s = sub s := if_neg (by rw [ht]; exact c_1)
    rw [e]
    exact ⟨m_0, rfl, hp1, rfl⟩
set_option maxRecDepth 20000 in
set_option maxHeartbeats 1000000 in
theorem c_readOne_n {X : aXt × Value} {mi : Nat → Nat → Int32} {ml : Nat → Nat → Int64} {mr : Nat → Nat → Option Nat} (hM : MRok mr) {n : Nat} (hn : n ≤ 160) (hs : mi 2 0 = nI n) (hX : outOK X) {op : Int32} {d : Nat} (hd : 7 ≤ d) (hq : dpP X mi ml mr d op none) : cwP X mi ml mr (d + 1) 22 op (onF (byN (mi 3) n) n none) := by
  intro m s hp0
  refine cw_of (cd := cd_X1_readOne) (nL := 3) rfl rfl ?_
  show aWP _ _ (0, [some (.ref 2), some (.int op), none], [], (HD, m, ml, mr)) _
  refine wp_steps 1 (t' := (1, [some (.ref 2), some (.int op), none], [.ref 2], (HD, m, ml, mr))) rfl ?_
  refine wp_geti rfl ⟨by decide, rfl⟩ (Or.inl rfl) ?_
  refine wp_steps 1 (t' := (3, [some (.ref 2), some (.int op), none], [.int 10, .int (m 2 3)], (HD, m, ml, mr))) rfl ?_
  refine wp_bC rfl (fun c_1 => ?_) (fun c_1 => ?_)
  · have c_1 : (m 2 3) < 10 := of_decide_eq_true c_1
    refine wp_steps 3 (t' := (13, [some (.ref 2), some (.int op), some (.int 0)], [.ref 2], (HD, m, ml, mr))) rfl ?_
    refine wp_geti rfl ⟨by decide, rfl⟩ (Or.inl rfl) ?_
    refine wp_steps 1 (t' := (15, [some (.ref 2), some (.int op), some (.int 0)], [.int 2, .int (m 2 3)], (HD, m, ml, mr))) rfl ?_
    refine wp_bC rfl (fun c_2 => ?_) (fun c_2 => ?_)
    · have c_2 : (m 2 3) = 2 := of_decide_eq_true c_2
      refine wp_steps 1 (t' := (19, [some (.ref 2), some (.int op), some (.int 0)], [.ref 2], (HD, m, ml, mr))) rfl ?_
      refine wp_getr rfl ⟨by decide, rfl⟩ rfl (hM (2, 2, 4) (by decide)) ?_
      refine wp_steps 1 (t' := (21, [some (.ref 2), some (.int op), some (.int 0)], [.int 0, .ref 4], (HD, m, ml, mr))) rfl ?_
      refine wp_bI rfl (fun c_3 => ?_) (fun c_3 => ?_)
      rotate_left
      · have c_3 : ¬ ((0 : Int32) = 0) := of_decide_eq_false c_3
        exact absurd c_3 (by decide)
      have c_3 : (0 : Int32) = 0 := of_decide_eq_true c_3
      refine wp_steps 1 (t' := (28, [some (.ref 2), some (.int op), some (.int 0)], [.ref 2, .ref 4], (HD, m, ml, mr))) rfl ?_
      refine wp_geti rfl ⟨by decide, rfl⟩ (Or.inl rfl) ?_
      refine wp_calv (as := [.int (m 2 6)]) rfl rfl rfl (Nat.le_of_ble_eq_true rfl) ⟨by decide, rfl⟩ ((c_padd hM hp0)) (by omega) ?_
      rintro _ _ ⟨rfl, m_1, rfl, hp1⟩
      show aWP _ _ (30, [some (.ref 2), some (.int op), some (.int 0)], [], (HD, m_1, ml, mr)) _
      refine wp_steps 1 (t' := (31, [some (.ref 2), some (.int op), some (.int 0)], [.ref 2], (HD, m_1, ml, mr))) rfl ?_
      refine wp_calv (as := []) rfl rfl rfl (Nat.le_of_ble_eq_true rfl) ⟨by decide, rfl⟩ ((c_pstep hM hn hs hX hp1)) (by omega) ?_
      rintro _ _ ⟨rfl, m_2, rfl, hp2⟩
      show aWP _ _ (32, [some (.ref 2), some (.int op), some (.int 0)], [], (HD, m_2, ml, mr)) _
      refine wp_steps 1 (t' := (33, [some (.ref 2), some (.int op), some (.int 0)], [.int 1], (HD, m_2, ml, mr))) rfl ?_
      refine wp_ret rfl rfl ⟨⟨Nat.le_refl _, Nat.le_refl _⟩, ?_⟩
      have ht : s.2.2.1 = m 2 3 := hp0.2.1.symm
      have hv : s.2.2.2.1 = m 2 6 := hp0.2.2.2.2.1.symm
      have e : onF (byN (mi 3) n) n none s = (true, stP (byN (mi 3) n) n (adP (m 2 6) s)) := by
        simp [onF, ht, hv, c_1, c_2]
      rw [e]
      exact ⟨m_2, rfl, hp2, rfl⟩
    · have c_2 : ¬ ((m 2 3) = 2) := of_decide_eq_false c_2
      refine wp_steps 1 (t' := (17, [some (.ref 2), some (.int op), some (.int 0)], [.int 0], (HD, m, ml, mr))) rfl ?_
      refine wp_bI rfl (fun c_4 => ?_) (fun c_4 => ?_)
      rotate_left
      · have c_4 : ¬ ((0 : Int32) = 0) := of_decide_eq_false c_4
        exact absurd c_4 (by decide)
      have c_4 : (0 : Int32) = 0 := of_decide_eq_true c_4
      refine wp_steps 2 (t' := (36, [some (.ref 2), some (.int op), some (.int 0)], [.int 5, .int op], (HD, m, ml, mr))) rfl ?_
      refine wp_bC rfl (fun c_5 => ?_) (fun c_5 => ?_)
      · have c_5 : op < 5 := of_decide_eq_true c_5
        exact absurd c_5 hq
      have c_5 : ¬ (op < 5) := of_decide_eq_false c_5
      refine wp_steps 1 (t' := (38, [some (.ref 2), some (.int op), some (.int 0)], [.int 0], (HD, m, ml, mr))) rfl ?_
      refine wp_ret rfl rfl ⟨⟨Nat.le_refl _, Nat.le_refl _⟩, ?_⟩
      have ht : s.2.2.1 = m 2 3 := hp0.2.1.symm
      have hv : s.2.2.2.1 = m 2 6 := hp0.2.2.2.2.1.symm
      have e : onF (byN (mi 3) n) n none s = (false, s) := by
        simp [onF, ht, hv, c_1, c_2]
      rw [e]
      exact ⟨m, rfl, hp0, rfl⟩
  · have c_1 : ¬ ((m 2 3) < 10) := of_decide_eq_false c_1
    refine wp_steps 1 (t' := (5, [some (.ref 2), some (.int op), none], [.ref 2], (HD, m, ml, mr))) rfl ?_
    refine wp_geti rfl ⟨by decide, rfl⟩ (Or.inl rfl) ?_
    refine wp_steps 1 (t' := (7, [some (.ref 2), some (.int op), none], [.int 16, .int (m 2 3)], (HD, m, ml, mr))) rfl ?_
    refine wp_bC rfl (fun c_6 => ?_) (fun c_6 => ?_)
    · have c_6 : 16 ≤ (m 2 3) := of_decide_eq_true c_6
      refine wp_steps 3 (t' := (13, [some (.ref 2), some (.int op), some (.int 0)], [.ref 2], (HD, m, ml, mr))) rfl ?_
      refine wp_geti rfl ⟨by decide, rfl⟩ (Or.inl rfl) ?_
      refine wp_steps 1 (t' := (15, [some (.ref 2), some (.int op), some (.int 0)], [.int 2, .int (m 2 3)], (HD, m, ml, mr))) rfl ?_
      refine wp_bC rfl (fun c_7 => ?_) (fun c_7 => ?_)
      · have c_7 : (m 2 3) = 2 := of_decide_eq_true c_7
        refine wp_steps 1 (t' := (19, [some (.ref 2), some (.int op), some (.int 0)], [.ref 2], (HD, m, ml, mr))) rfl ?_
        refine wp_getr rfl ⟨by decide, rfl⟩ rfl (hM (2, 2, 4) (by decide)) ?_
        refine wp_steps 1 (t' := (21, [some (.ref 2), some (.int op), some (.int 0)], [.int 0, .ref 4], (HD, m, ml, mr))) rfl ?_
        refine wp_bI rfl (fun c_8 => ?_) (fun c_8 => ?_)
        rotate_left
        · have c_8 : ¬ ((0 : Int32) = 0) := of_decide_eq_false c_8
          exact absurd c_8 (by decide)
        have c_8 : (0 : Int32) = 0 := of_decide_eq_true c_8
        refine wp_steps 1 (t' := (28, [some (.ref 2), some (.int op), some (.int 0)], [.ref 2, .ref 4], (HD, m, ml, mr))) rfl ?_
        refine wp_geti rfl ⟨by decide, rfl⟩ (Or.inl rfl) ?_
        refine wp_calv (as := [.int (m 2 6)]) rfl rfl rfl (Nat.le_of_ble_eq_true rfl) ⟨by decide, rfl⟩ ((c_padd hM hp0)) (by omega) ?_
        rintro _ _ ⟨rfl, m_1, rfl, hp1⟩
        show aWP _ _ (30, [some (.ref 2), some (.int op), some (.int 0)], [], (HD, m_1, ml, mr)) _
        refine wp_steps 1 (t' := (31, [some (.ref 2), some (.int op), some (.int 0)], [.ref 2], (HD, m_1, ml, mr))) rfl ?_
        refine wp_calv (as := []) rfl rfl rfl (Nat.le_of_ble_eq_true rfl) ⟨by decide, rfl⟩ ((c_pstep hM hn hs hX hp1)) (by omega) ?_
        rintro _ _ ⟨rfl, m_2, rfl, hp2⟩
        show aWP _ _ (32, [some (.ref 2), some (.int op), some (.int 0)], [], (HD, m_2, ml, mr)) _
        refine wp_steps 1 (t' := (33, [some (.ref 2), some (.int op), some (.int 0)], [.int 1], (HD, m_2, ml, mr))) rfl ?_
        refine wp_ret rfl rfl ⟨⟨Nat.le_refl _, Nat.le_refl _⟩, ?_⟩
        have ht : s.2.2.1 = m 2 3 := hp0.2.1.symm
        have hv : s.2.2.2.1 = m 2 6 := hp0.2.2.2.2.1.symm
        have e : onF (byN (mi 3) n) n none s = (true, stP (byN (mi 3) n) n (adP (m 2 6) s)) := by
          simp [onF, ht, hv, c_1, c_6, c_7]
        rw [e]
        exact ⟨m_2, rfl, hp2, rfl⟩
      · have c_7 : ¬ ((m 2 3) = 2) := of_decide_eq_false c_7
        refine wp_steps 1 (t' := (17, [some (.ref 2), some (.int op), some (.int 0)], [.int 0], (HD, m, ml, mr))) rfl ?_
        refine wp_bI rfl (fun c_9 => ?_) (fun c_9 => ?_)
        rotate_left
        · have c_9 : ¬ ((0 : Int32) = 0) := of_decide_eq_false c_9
          exact absurd c_9 (by decide)
        have c_9 : (0 : Int32) = 0 := of_decide_eq_true c_9
        refine wp_steps 2 (t' := (36, [some (.ref 2), some (.int op), some (.int 0)], [.int 5, .int op], (HD, m, ml, mr))) rfl ?_
        refine wp_bC rfl (fun c_10 => ?_) (fun c_10 => ?_)
        · have c_10 : op < 5 := of_decide_eq_true c_10
          exact absurd c_10 hq
        have c_10 : ¬ (op < 5) := of_decide_eq_false c_10
        refine wp_steps 1 (t' := (38, [some (.ref 2), some (.int op), some (.int 0)], [.int 0], (HD, m, ml, mr))) rfl ?_
        refine wp_ret rfl rfl ⟨⟨Nat.le_refl _, Nat.le_refl _⟩, ?_⟩
        have ht : s.2.2.1 = m 2 3 := hp0.2.1.symm
        have hv : s.2.2.2.1 = m 2 6 := hp0.2.2.2.2.1.symm
        have e : onF (byN (mi 3) n) n none s = (false, s) := by
          simp [onF, ht, hv, c_1, c_6, c_7]
        rw [e]
        exact ⟨m, rfl, hp0, rfl⟩
    · have c_6 : ¬ (16 ≤ (m 2 3)) := of_decide_eq_false c_6
      refine wp_steps 4 (t' := (13, [some (.ref 2), some (.int op), some (.int 1)], [.ref 2], (HD, m, ml, mr))) rfl ?_
      refine wp_geti rfl ⟨by decide, rfl⟩ (Or.inl rfl) ?_
      refine wp_steps 1 (t' := (15, [some (.ref 2), some (.int op), some (.int 1)], [.int 2, .int (m 2 3)], (HD, m, ml, mr))) rfl ?_
      refine wp_bC rfl (fun c_11 => ?_) (fun c_11 => ?_)
      · have c_11 : (m 2 3) = 2 := of_decide_eq_true c_11
        refine wp_steps 1 (t' := (19, [some (.ref 2), some (.int op), some (.int 1)], [.ref 2], (HD, m, ml, mr))) rfl ?_
        refine wp_getr rfl ⟨by decide, rfl⟩ rfl (hM (2, 2, 4) (by decide)) ?_
        refine wp_steps 1 (t' := (21, [some (.ref 2), some (.int op), some (.int 1)], [.int 1, .ref 4], (HD, m, ml, mr))) rfl ?_
        refine wp_bI rfl (fun c_12 => ?_) (fun c_12 => ?_)
        · have c_12 : (1 : Int32) = 0 := of_decide_eq_true c_12
          exact absurd c_12 (by decide)
        have c_12 : ¬ ((1 : Int32) = 0) := of_decide_eq_false c_12
        refine wp_steps 2 (t' := (24, [some (.ref 2), some (.int op), some (.int 1)], [.ref 2, .int 9, .ref 4], (HD, m, ml, mr))) rfl ?_
        refine wp_geti rfl ⟨by decide, rfl⟩ (Or.inl rfl) ?_
        refine wp_steps 2 (t' := (29, [some (.ref 2), some (.int op), some (.int 1)], [.int (9 - (m 2 3)), .ref 4], (HD, m, ml, mr))) rfl ?_
        refine wp_calv (as := [.int (9 - (m 2 3))]) rfl rfl rfl (Nat.le_of_ble_eq_true rfl) ⟨by decide, rfl⟩ ((c_padd hM hp0)) (by omega) ?_
        rintro _ _ ⟨rfl, m_1, rfl, hp1⟩
        show aWP _ _ (30, [some (.ref 2), some (.int op), some (.int 1)], [], (HD, m_1, ml, mr)) _
        refine wp_steps 1 (t' := (31, [some (.ref 2), some (.int op), some (.int 1)], [.ref 2], (HD, m_1, ml, mr))) rfl ?_
        refine wp_calv (as := []) rfl rfl rfl (Nat.le_of_ble_eq_true rfl) ⟨by decide, rfl⟩ ((c_pstep hM hn hs hX hp1)) (by omega) ?_
        rintro _ _ ⟨rfl, m_2, rfl, hp2⟩
        show aWP _ _ (32, [some (.ref 2), some (.int op), some (.int 1)], [], (HD, m_2, ml, mr)) _
        refine wp_steps 1 (t' := (33, [some (.ref 2), some (.int op), some (.int 1)], [.int 1], (HD, m_2, ml, mr))) rfl ?_
        refine wp_ret rfl rfl ⟨⟨Nat.le_refl _, Nat.le_refl _⟩, ?_⟩
        exact absurd (by rw [c_11]; decide) c_1
      · have c_11 : ¬ ((m 2 3) = 2) := of_decide_eq_false c_11
        refine wp_steps 1 (t' := (17, [some (.ref 2), some (.int op), some (.int 1)], [.int 1], (HD, m, ml, mr))) rfl ?_
        refine wp_bI rfl (fun c_13 => ?_) (fun c_13 => ?_)
        · have c_13 : (1 : Int32) = 0 := of_decide_eq_true c_13
          exact absurd c_13 (by decide)
        have c_13 : ¬ ((1 : Int32) = 0) := of_decide_eq_false c_13
        refine wp_steps 1 (t' := (19, [some (.ref 2), some (.int op), some (.int 1)], [.ref 2], (HD, m, ml, mr))) rfl ?_
        refine wp_getr rfl ⟨by decide, rfl⟩ rfl (hM (2, 2, 4) (by decide)) ?_
        refine wp_steps 1 (t' := (21, [some (.ref 2), some (.int op), some (.int 1)], [.int 1, .ref 4], (HD, m, ml, mr))) rfl ?_
        refine wp_bI rfl (fun c_14 => ?_) (fun c_14 => ?_)
        · have c_14 : (1 : Int32) = 0 := of_decide_eq_true c_14
          exact absurd c_14 (by decide)
        have c_14 : ¬ ((1 : Int32) = 0) := of_decide_eq_false c_14
        refine wp_steps 2 (t' := (24, [some (.ref 2), some (.int op), some (.int 1)], [.ref 2, .int 9, .ref 4], (HD, m, ml, mr))) rfl ?_
        refine wp_geti rfl ⟨by decide, rfl⟩ (Or.inl rfl) ?_
        refine wp_steps 2 (t' := (29, [some (.ref 2), some (.int op), some (.int 1)], [.int (9 - (m 2 3)), .ref 4], (HD, m, ml, mr))) rfl ?_
        refine wp_calv (as := [.int (9 - (m 2 3))]) rfl rfl rfl (Nat.le_of_ble_eq_true rfl) ⟨by decide, rfl⟩ ((c_padd hM hp0)) (by omega) ?_
        rintro _ _ ⟨rfl, m_1, rfl, hp1⟩
        show aWP _ _ (30, [some (.ref 2), some (.int op), some (.int 1)], [], (HD, m_1, ml, mr)) _
        refine wp_steps 1 (t' := (31, [some (.ref 2), some (.int op), some (.int 1)], [.ref 2], (HD, m_1, ml, mr))) rfl ?_
        refine wp_calv (as := []) rfl rfl rfl (Nat.le_of_ble_eq_true rfl) ⟨by decide, rfl⟩ ((c_pstep hM hn hs hX hp1)) (by omega) ?_
        rintro _ _ ⟨rfl, m_2, rfl, hp2⟩
        show aWP _ _ (32, [some (.ref 2), some (.int op), some (.int 1)], [], (HD, m_2, ml, mr)) _
        refine wp_steps 1 (t' := (33, [some (.ref 2), some (.int op), some (.int 1)], [.int 1], (HD, m_2, ml, mr))) rfl ?_
        refine wp_ret rfl rfl ⟨⟨Nat.le_refl _, Nat.le_refl _⟩, ?_⟩
        have ht : s.2.2.1 = m 2 3 := hp0.2.1.symm
        have hv : s.2.2.2.1 = m 2 6 := hp0.2.2.2.2.1.symm
        have e : onF (byN (mi 3) n) n none s = (true, stP (byN (mi 3) n) n (adP (9 - m 2 3) s)) := by
          simp [onF, ht, hv, c_1, c_6, c_11]
        rw [e]
        exact ⟨m_2, rfl, hp2, rfl⟩
set_option maxRecDepth 20000 in
set_option maxHeartbeats 1000000 in
theorem c_readOne_s {X : aXt × Value} {mi : Nat → Nat → Int32} {ml : Nat → Nat → Int64} {mr : Nat → Nat → Option Nat} (hM : MRok mr) {n : Nat} (hn : n ≤ 160) (hs : mi 2 0 = nI n) (hX : outOK X) {op : Int32} {d : Nat} (hd : 7 ≤ d) {q : pF × pF × pF} (hq : dpP X mi ml mr d op (some q)) : cwP X mi ml mr (d + 1) 22 op (onF (byN (mi 3) n) n (some q)) := by
  intro m s hp0
  refine cw_of (cd := cd_X1_readOne) (nL := 3) rfl rfl ?_
  show aWP _ _ (0, [some (.ref 2), some (.int op), none], [], (HD, m, ml, mr)) _
  refine wp_steps 1 (t' := (1, [some (.ref 2), some (.int op), none], [.ref 2], (HD, m, ml, mr))) rfl ?_
  refine wp_geti rfl ⟨by decide, rfl⟩ (Or.inl rfl) ?_
  refine wp_steps 1 (t' := (3, [some (.ref 2), some (.int op), none], [.int 10, .int (m 2 3)], (HD, m, ml, mr))) rfl ?_
  refine wp_bC rfl (fun c_1 => ?_) (fun c_1 => ?_)
  · have c_1 : (m 2 3) < 10 := of_decide_eq_true c_1
    refine wp_steps 3 (t' := (13, [some (.ref 2), some (.int op), some (.int 0)], [.ref 2], (HD, m, ml, mr))) rfl ?_
    refine wp_geti rfl ⟨by decide, rfl⟩ (Or.inl rfl) ?_
    refine wp_steps 1 (t' := (15, [some (.ref 2), some (.int op), some (.int 0)], [.int 2, .int (m 2 3)], (HD, m, ml, mr))) rfl ?_
    refine wp_bC rfl (fun c_2 => ?_) (fun c_2 => ?_)
    · have c_2 : (m 2 3) = 2 := of_decide_eq_true c_2
      refine wp_steps 1 (t' := (19, [some (.ref 2), some (.int op), some (.int 0)], [.ref 2], (HD, m, ml, mr))) rfl ?_
      refine wp_getr rfl ⟨by decide, rfl⟩ rfl (hM (2, 2, 4) (by decide)) ?_
      refine wp_steps 1 (t' := (21, [some (.ref 2), some (.int op), some (.int 0)], [.int 0, .ref 4], (HD, m, ml, mr))) rfl ?_
      refine wp_bI rfl (fun c_3 => ?_) (fun c_3 => ?_)
      rotate_left
      · have c_3 : ¬ ((0 : Int32) = 0) := of_decide_eq_false c_3
        exact absurd c_3 (by decide)
      have c_3 : (0 : Int32) = 0 := of_decide_eq_true c_3
      refine wp_steps 1 (t' := (28, [some (.ref 2), some (.int op), some (.int 0)], [.ref 2, .ref 4], (HD, m, ml, mr))) rfl ?_
      refine wp_geti rfl ⟨by decide, rfl⟩ (Or.inl rfl) ?_
      refine wp_calv (as := [.int (m 2 6)]) rfl rfl rfl (Nat.le_of_ble_eq_true rfl) ⟨by decide, rfl⟩ ((c_padd hM hp0)) (by omega) ?_
      rintro _ _ ⟨rfl, m_1, rfl, hp1⟩
      show aWP _ _ (30, [some (.ref 2), some (.int op), some (.int 0)], [], (HD, m_1, ml, mr)) _
      refine wp_steps 1 (t' := (31, [some (.ref 2), some (.int op), some (.int 0)], [.ref 2], (HD, m_1, ml, mr))) rfl ?_
      refine wp_calv (as := []) rfl rfl rfl (Nat.le_of_ble_eq_true rfl) ⟨by decide, rfl⟩ ((c_pstep hM hn hs hX hp1)) (by omega) ?_
      rintro _ _ ⟨rfl, m_2, rfl, hp2⟩
      show aWP _ _ (32, [some (.ref 2), some (.int op), some (.int 0)], [], (HD, m_2, ml, mr)) _
      refine wp_steps 1 (t' := (33, [some (.ref 2), some (.int op), some (.int 0)], [.int 1], (HD, m_2, ml, mr))) rfl ?_
      refine wp_ret rfl rfl ⟨⟨Nat.le_refl _, Nat.le_refl _⟩, ?_⟩
      have ht : s.2.2.1 = m 2 3 := hp0.2.1.symm
      have hv : s.2.2.2.1 = m 2 6 := hp0.2.2.2.2.1.symm
      have e : onF (byN (mi 3) n) n (some q) s = (true, stP (byN (mi 3) n) n (adP (m 2 6) s)) := by
        simp [onF, ht, hv, c_1, c_2]
      rw [e]
      exact ⟨m_2, rfl, hp2, rfl⟩
    · have c_2 : ¬ ((m 2 3) = 2) := of_decide_eq_false c_2
      refine wp_steps 1 (t' := (17, [some (.ref 2), some (.int op), some (.int 0)], [.int 0], (HD, m, ml, mr))) rfl ?_
      refine wp_bI rfl (fun c_4 => ?_) (fun c_4 => ?_)
      rotate_left
      · have c_4 : ¬ ((0 : Int32) = 0) := of_decide_eq_false c_4
        exact absurd c_4 (by decide)
      have c_4 : (0 : Int32) = 0 := of_decide_eq_true c_4
      refine wp_steps 2 (t' := (36, [some (.ref 2), some (.int op), some (.int 0)], [.int 5, .int op], (HD, m, ml, mr))) rfl ?_
      refine wp_bC rfl (fun c_5 => ?_) (fun c_5 => ?_)
      rotate_left
      · have c_5 : ¬ (op < 5) := of_decide_eq_false c_5
        exact absurd hq.1 c_5
      have c_5 : op < 5 := of_decide_eq_true c_5
      refine wp_steps 1 (t' := (40, [some (.ref 2), some (.int op), some (.int 0)], [.ref 2], (HD, m, ml, mr))) rfl ?_
      refine wp_geti rfl ⟨by decide, rfl⟩ (Or.inl rfl) ?_
      refine wp_steps 1 (t' := (42, [some (.ref 2), some (.int op), some (.int 0)], [.int 45, .int (m 2 3)], (HD, m, ml, mr))) rfl ?_
      refine wp_bC rfl (fun c_6 => ?_) (fun c_6 => ?_)
      · have c_6 : ¬ (m 2 3) = 45 := of_decide_eq_true c_6
        refine wp_steps 1 (t' := (60, [some (.ref 2), some (.int op), some (.int 0)], [.ref 2], (HD, m, ml, mr))) rfl ?_
        refine wp_geti rfl ⟨by decide, rfl⟩ (Or.inl rfl) ?_
        refine wp_steps 1 (t' := (62, [some (.ref 2), some (.int op), some (.int 0)], [.int 40, .int (m 2 3)], (HD, m, ml, mr))) rfl ?_
        refine wp_bC rfl (fun c_7 => ?_) (fun c_7 => ?_)
        · have c_7 : (m 2 3) = 40 := of_decide_eq_true c_7
          refine wp_steps 1 (t' := (66, [some (.ref 2), some (.int op), some (.int 0)], [.ref 2], (HD, m, ml, mr))) rfl ?_
          refine wp_calv (as := []) rfl rfl rfl (Nat.le_of_ble_eq_true rfl) ⟨by decide, rfl⟩ ((c_pstep hM hn hs hX hp0)) (by omega) ?_
          rintro _ _ ⟨rfl, m_1, rfl, hp1⟩
          show aWP _ _ (67, [some (.ref 2), some (.int op), some (.int 0)], [], (HD, m_1, ml, mr)) _
          refine wp_steps 4 (t' := (71, [some (.ref 2), some (.int op), some (.int 0)], [.int (op + 1), .ref 2], (HD, m_1, ml, mr))) rfl ?_
          refine wp_calv (as := [.int (op + 1)]) rfl rfl rfl (Nat.le_of_ble_eq_true rfl) ⟨by decide, rfl⟩ (hq.2.1 _ _ hp1) (by omega) ?_
          rintro _ _ ⟨m_2, rfl, hp2, rfl⟩
          show aWP _ _ (72, [some (.ref 2), some (.int op), some (.int 0)], [.int (if (q.1 (stP (byN (mi 3) n) n s)).1 = true then (1 : Int32) else 0)], (HD, m_2, ml, mr)) _
          refine wp_bI rfl (fun c_8 => ?_) (fun c_8 => ?_)
          · have c_8 : (if (q.1 (stP (byN (mi 3) n) n s)).1 = true then (1 : Int32) else 0) = 0 := of_decide_eq_true c_8
            refine wp_steps 1 (t' := (78, [some (.ref 2), some (.int op), some (.int 0)], [.int 0], (HD, m_2, ml, mr))) rfl ?_
            refine wp_ret rfl rfl ⟨⟨Nat.le_refl _, Nat.le_refl _⟩, ?_⟩
            have ht : s.2.2.1 = m 2 3 := hp0.2.1.symm
            have hv : s.2.2.2.1 = m 2 6 := hp0.2.2.2.2.1.symm
            have e : onF (byN (mi 3) n) n (some q) s = (false, (q.1 (stP (byN (mi 3) n) n s)).2) := by
              simp [onF, ht, hv, c_1, c_2, c_6, c_7, i1_f c_8, hp2.2.1.symm]
            rw [e]
            exact ⟨m_2, rfl, hp2, rfl⟩
          · have c_8 : ¬ ((if (q.1 (stP (byN (mi 3) n) n s)).1 = true then (1 : Int32) else 0) = 0) := of_decide_eq_false c_8
            refine wp_steps 1 (t' := (74, [some (.ref 2), some (.int op), some (.int 0)], [.ref 2], (HD, m_2, ml, mr))) rfl ?_
            refine wp_geti rfl ⟨by decide, rfl⟩ (Or.inl rfl) ?_
            refine wp_steps 1 (t' := (76, [some (.ref 2), some (.int op), some (.int 0)], [.int 41, .int (m_2 2 3)], (HD, m_2, ml, mr))) rfl ?_
            refine wp_bC rfl (fun c_9 => ?_) (fun c_9 => ?_)
            · have c_9 : (m_2 2 3) = 41 := of_decide_eq_true c_9
              refine wp_steps 1 (t' := (80, [some (.ref 2), some (.int op), some (.int 0)], [.ref 2], (HD, m_2, ml, mr))) rfl ?_
              refine wp_calv (as := []) rfl rfl rfl (Nat.le_of_ble_eq_true rfl) ⟨by decide, rfl⟩ ((c_pstep hM hn hs hX hp2)) (by omega) ?_
              rintro _ _ ⟨rfl, m_3, rfl, hp3⟩
              show aWP _ _ (81, [some (.ref 2), some (.int op), some (.int 0)], [], (HD, m_3, ml, mr)) _
              refine wp_steps 1 (t' := (82, [some (.ref 2), some (.int op), some (.int 0)], [.int 1], (HD, m_3, ml, mr))) rfl ?_
              refine wp_ret rfl rfl ⟨⟨Nat.le_refl _, Nat.le_refl _⟩, ?_⟩
              have ht : s.2.2.1 = m 2 3 := hp0.2.1.symm
              have hv : s.2.2.2.1 = m 2 6 := hp0.2.2.2.2.1.symm
              have e : onF (byN (mi 3) n) n (some q) s = (true, stP (byN (mi 3) n) n (q.1 (stP (byN (mi 3) n) n s)).2) := by
                simp [onF, ht, hv, c_1, c_2, c_6, c_7, c_9, i1_t c_8, hp2.2.1.symm]
              rw [e]
              exact ⟨m_3, rfl, hp3, rfl⟩
            · have c_9 : ¬ ((m_2 2 3) = 41) := of_decide_eq_false c_9
              refine wp_steps 1 (t' := (78, [some (.ref 2), some (.int op), some (.int 0)], [.int 0], (HD, m_2, ml, mr))) rfl ?_
              refine wp_ret rfl rfl ⟨⟨Nat.le_refl _, Nat.le_refl _⟩, ?_⟩
              have ht : s.2.2.1 = m 2 3 := hp0.2.1.symm
              have hv : s.2.2.2.1 = m 2 6 := hp0.2.2.2.2.1.symm
              have e : onF (byN (mi 3) n) n (some q) s = (false, (q.1 (stP (byN (mi 3) n) n s)).2) := by
                simp [onF, ht, hv, c_1, c_2, c_6, c_7, c_9, i1_t c_8, hp2.2.1.symm]
              rw [e]
              exact ⟨m_2, rfl, hp2, rfl⟩
        · have c_7 : ¬ ((m 2 3) = 40) := of_decide_eq_false c_7
          refine wp_steps 1 (t' := (64, [some (.ref 2), some (.int op), some (.int 0)], [.int 0], (HD, m, ml, mr))) rfl ?_
          refine wp_ret rfl rfl ⟨⟨Nat.le_refl _, Nat.le_refl _⟩, ?_⟩
          have ht : s.2.2.1 = m 2 3 := hp0.2.1.symm
          have hv : s.2.2.2.1 = m 2 6 := hp0.2.2.2.2.1.symm
          have e : onF (byN (mi 3) n) n (some q) s = (false, s) := by
            simp [onF, ht, hv, c_1, c_2, c_6, c_7]
          rw [e]
          exact ⟨m, rfl, hp0, rfl⟩
      · have c_6 : (m 2 3) = 45 := Decidable.not_not.mp (of_decide_eq_false c_6)
        refine wp_steps 1 (t' := (44, [some (.ref 2), some (.int op), some (.int 0)], [.ref 2], (HD, m, ml, mr))) rfl ?_
        refine wp_calv (as := []) rfl rfl rfl (Nat.le_of_ble_eq_true rfl) ⟨by decide, rfl⟩ ((c_pstep hM hn hs hX hp0)) (by omega) ?_
        rintro _ _ ⟨rfl, m_1, rfl, hp1⟩
        show aWP _ _ (45, [some (.ref 2), some (.int op), some (.int 0)], [], (HD, m_1, ml, mr)) _
        refine wp_steps 4 (t' := (49, [some (.ref 2), some (.int op), some (.int 0)], [.int (op + 1), .ref 2], (HD, m_1, ml, mr))) rfl ?_
        refine wp_calv (as := [.int (op + 1)]) rfl rfl rfl (Nat.le_of_ble_eq_true rfl) ⟨by decide, rfl⟩ (hq.2.2.2 _ _ hp1) (by omega) ?_
        rintro _ _ ⟨m_2, rfl, hp2, rfl⟩
        show aWP _ _ (50, [some (.ref 2), some (.int op), some (.int 0)], [.int (if (q.2.2 (stP (byN (mi 3) n) n s)).1 = true then (1 : Int32) else 0)], (HD, m_2, ml, mr)) _
        refine wp_bI rfl (fun c_10 => ?_) (fun c_10 => ?_)
        · have c_10 : ¬ (if (q.2.2 (stP (byN (mi 3) n) n s)).1 = true then (1 : Int32) else 0) = 0 := of_decide_eq_true c_10
          refine wp_steps 1 (t' := (54, [some (.ref 2), some (.int op), some (.int 0)], [.ref 2], (HD, m_2, ml, mr))) rfl ?_
          refine wp_getr rfl ⟨by decide, rfl⟩ rfl (hM (2, 2, 4) (by decide)) ?_
          refine wp_steps 1 (t' := (56, [some (.ref 2), some (.int op), some (.int 0)], [.int (-19), .ref 4], (HD, m_2, ml, mr))) rfl ?_
          refine wp_calv (as := [.int (-19)]) rfl rfl rfl (Nat.le_of_ble_eq_true rfl) ⟨by decide, rfl⟩ ((c_padd hM hp2)) (by omega) ?_
          rintro _ _ ⟨rfl, m_3, rfl, hp3⟩
          show aWP _ _ (57, [some (.ref 2), some (.int op), some (.int 0)], [], (HD, m_3, ml, mr)) _
          refine wp_steps 1 (t' := (58, [some (.ref 2), some (.int op), some (.int 0)], [.int 1], (HD, m_3, ml, mr))) rfl ?_
          refine wp_ret rfl rfl ⟨⟨Nat.le_refl _, Nat.le_refl _⟩, ?_⟩
          have ht : s.2.2.1 = m 2 3 := hp0.2.1.symm
          have hv : s.2.2.2.1 = m 2 6 := hp0.2.2.2.2.1.symm
          have e : onF (byN (mi 3) n) n (some q) s = (true, adP (-19) (q.2.2 (stP (byN (mi 3) n) n s)).2) := by
            simp [onF, ht, hv, c_1, c_2, c_6, i1_t c_10]
          rw [e]
          exact ⟨m_3, rfl, hp3, rfl⟩
        · have c_10 : (if (q.2.2 (stP (byN (mi 3) n) n s)).1 = true then (1 : Int32) else 0) = 0 := Decidable.not_not.mp (of_decide_eq_false c_10)
          refine wp_steps 1 (t' := (52, [some (.ref 2), some (.int op), some (.int 0)], [.int 0], (HD, m_2, ml, mr))) rfl ?_
          refine wp_ret rfl rfl ⟨⟨Nat.le_refl _, Nat.le_refl _⟩, ?_⟩
          have ht : s.2.2.1 = m 2 3 := hp0.2.1.symm
          have hv : s.2.2.2.1 = m 2 6 := hp0.2.2.2.2.1.symm
          have e : onF (byN (mi 3) n) n (some q) s = (false, (q.2.2 (stP (byN (mi 3) n) n s)).2) := by
            simp [onF, ht, hv, c_1, c_2, c_6, i1_f c_10]
          rw [e]
          exact ⟨m_2, rfl, hp2, rfl⟩
  · have c_1 : ¬ ((m 2 3) < 10) := of_decide_eq_false c_1
    refine wp_steps 1 (t' := (5, [some (.ref 2), some (.int op), none], [.ref 2], (HD, m, ml, mr))) rfl ?_
    refine wp_geti rfl ⟨by decide, rfl⟩ (Or.inl rfl) ?_
    refine wp_steps 1 (t' := (7, [some (.ref 2), some (.int op), none], [.int 16, .int (m 2 3)], (HD, m, ml, mr))) rfl ?_
    refine wp_bC rfl (fun c_11 => ?_) (fun c_11 => ?_)
    · have c_11 : 16 ≤ (m 2 3) := of_decide_eq_true c_11
      refine wp_steps 3 (t' := (13, [some (.ref 2), some (.int op), some (.int 0)], [.ref 2], (HD, m, ml, mr))) rfl ?_
      refine wp_geti rfl ⟨by decide, rfl⟩ (Or.inl rfl) ?_
      refine wp_steps 1 (t' := (15, [some (.ref 2), some (.int op), some (.int 0)], [.int 2, .int (m 2 3)], (HD, m, ml, mr))) rfl ?_
      refine wp_bC rfl (fun c_12 => ?_) (fun c_12 => ?_)
      · have c_12 : (m 2 3) = 2 := of_decide_eq_true c_12
        refine wp_steps 1 (t' := (19, [some (.ref 2), some (.int op), some (.int 0)], [.ref 2], (HD, m, ml, mr))) rfl ?_
        refine wp_getr rfl ⟨by decide, rfl⟩ rfl (hM (2, 2, 4) (by decide)) ?_
        refine wp_steps 1 (t' := (21, [some (.ref 2), some (.int op), some (.int 0)], [.int 0, .ref 4], (HD, m, ml, mr))) rfl ?_
        refine wp_bI rfl (fun c_13 => ?_) (fun c_13 => ?_)
        rotate_left
        · have c_13 : ¬ ((0 : Int32) = 0) := of_decide_eq_false c_13
          exact absurd c_13 (by decide)
        have c_13 : (0 : Int32) = 0 := of_decide_eq_true c_13
        refine wp_steps 1 (t' := (28, [some (.ref 2), some (.int op), some (.int 0)], [.ref 2, .ref 4], (HD, m, ml, mr))) rfl ?_
        refine wp_geti rfl ⟨by decide, rfl⟩ (Or.inl rfl) ?_
        refine wp_calv (as := [.int (m 2 6)]) rfl rfl rfl (Nat.le_of_ble_eq_true rfl) ⟨by decide, rfl⟩ ((c_padd hM hp0)) (by omega) ?_
        rintro _ _ ⟨rfl, m_1, rfl, hp1⟩
        show aWP _ _ (30, [some (.ref 2), some (.int op), some (.int 0)], [], (HD, m_1, ml, mr)) _
        refine wp_steps 1 (t' := (31, [some (.ref 2), some (.int op), some (.int 0)], [.ref 2], (HD, m_1, ml, mr))) rfl ?_
        refine wp_calv (as := []) rfl rfl rfl (Nat.le_of_ble_eq_true rfl) ⟨by decide, rfl⟩ ((c_pstep hM hn hs hX hp1)) (by omega) ?_
        rintro _ _ ⟨rfl, m_2, rfl, hp2⟩
        show aWP _ _ (32, [some (.ref 2), some (.int op), some (.int 0)], [], (HD, m_2, ml, mr)) _
        refine wp_steps 1 (t' := (33, [some (.ref 2), some (.int op), some (.int 0)], [.int 1], (HD, m_2, ml, mr))) rfl ?_
        refine wp_ret rfl rfl ⟨⟨Nat.le_refl _, Nat.le_refl _⟩, ?_⟩
        have ht : s.2.2.1 = m 2 3 := hp0.2.1.symm
        have hv : s.2.2.2.1 = m 2 6 := hp0.2.2.2.2.1.symm
        have e : onF (byN (mi 3) n) n (some q) s = (true, stP (byN (mi 3) n) n (adP (m 2 6) s)) := by
          simp [onF, ht, hv, c_1, c_11, c_12]
        rw [e]
        exact ⟨m_2, rfl, hp2, rfl⟩
      · have c_12 : ¬ ((m 2 3) = 2) := of_decide_eq_false c_12
        refine wp_steps 1 (t' := (17, [some (.ref 2), some (.int op), some (.int 0)], [.int 0], (HD, m, ml, mr))) rfl ?_
        refine wp_bI rfl (fun c_14 => ?_) (fun c_14 => ?_)
        rotate_left
        · have c_14 : ¬ ((0 : Int32) = 0) := of_decide_eq_false c_14
          exact absurd c_14 (by decide)
        have c_14 : (0 : Int32) = 0 := of_decide_eq_true c_14
        refine wp_steps 2 (t' := (36, [some (.ref 2), some (.int op), some (.int 0)], [.int 5, .int op], (HD, m, ml, mr))) rfl ?_
        refine wp_bC rfl (fun c_15 => ?_) (fun c_15 => ?_)
        rotate_left
        · have c_15 : ¬ (op < 5) := of_decide_eq_false c_15
          exact absurd hq.1 c_15
        have c_15 : op < 5 := of_decide_eq_true c_15
        refine wp_steps 1 (t' := (40, [some (.ref 2), some (.int op), some (.int 0)], [.ref 2], (HD, m, ml, mr))) rfl ?_
        refine wp_geti rfl ⟨by decide, rfl⟩ (Or.inl rfl) ?_
        refine wp_steps 1 (t' := (42, [some (.ref 2), some (.int op), some (.int 0)], [.int 45, .int (m 2 3)], (HD, m, ml, mr))) rfl ?_
        refine wp_bC rfl (fun c_16 => ?_) (fun c_16 => ?_)
        · have c_16 : ¬ (m 2 3) = 45 := of_decide_eq_true c_16
          refine wp_steps 1 (t' := (60, [some (.ref 2), some (.int op), some (.int 0)], [.ref 2], (HD, m, ml, mr))) rfl ?_
          refine wp_geti rfl ⟨by decide, rfl⟩ (Or.inl rfl) ?_
          refine wp_steps 1 (t' := (62, [some (.ref 2), some (.int op), some (.int 0)], [.int 40, .int (m 2 3)], (HD, m, ml, mr))) rfl ?_
          refine wp_bC rfl (fun c_17 => ?_) (fun c_17 => ?_)
          · have c_17 : (m 2 3) = 40 := of_decide_eq_true c_17
            refine wp_steps 1 (t' := (66, [some (.ref 2), some (.int op), some (.int 0)], [.ref 2], (HD, m, ml, mr))) rfl ?_
            refine wp_calv (as := []) rfl rfl rfl (Nat.le_of_ble_eq_true rfl) ⟨by decide, rfl⟩ ((c_pstep hM hn hs hX hp0)) (by omega) ?_
            rintro _ _ ⟨rfl, m_1, rfl, hp1⟩
            show aWP _ _ (67, [some (.ref 2), some (.int op), some (.int 0)], [], (HD, m_1, ml, mr)) _
            refine wp_steps 4 (t' := (71, [some (.ref 2), some (.int op), some (.int 0)], [.int (op + 1), .ref 2], (HD, m_1, ml, mr))) rfl ?_
            refine wp_calv (as := [.int (op + 1)]) rfl rfl rfl (Nat.le_of_ble_eq_true rfl) ⟨by decide, rfl⟩ (hq.2.1 _ _ hp1) (by omega) ?_
            rintro _ _ ⟨m_2, rfl, hp2, rfl⟩
            show aWP _ _ (72, [some (.ref 2), some (.int op), some (.int 0)], [.int (if (q.1 (stP (byN (mi 3) n) n s)).1 = true then (1 : Int32) else 0)], (HD, m_2, ml, mr)) _
            refine wp_bI rfl (fun c_18 => ?_) (fun c_18 => ?_)
            · have c_18 : (if (q.1 (stP (byN (mi 3) n) n s)).1 = true then (1 : Int32) else 0) = 0 := of_decide_eq_true c_18
              refine wp_steps 1 (t' := (78, [some (.ref 2), some (.int op), some (.int 0)], [.int 0], (HD, m_2, ml, mr))) rfl ?_
              refine wp_ret rfl rfl ⟨⟨Nat.le_refl _, Nat.le_refl _⟩, ?_⟩
              have ht : s.2.2.1 = m 2 3 := hp0.2.1.symm
              have hv : s.2.2.2.1 = m 2 6 := hp0.2.2.2.2.1.symm
              have e : onF (byN (mi 3) n) n (some q) s = (false, (q.1 (stP (byN (mi 3) n) n s)).2) := by
                simp [onF, ht, hv, c_1, c_11, c_12, c_16, c_17, i1_f c_18, hp2.2.1.symm]
              rw [e]
              exact ⟨m_2, rfl, hp2, rfl⟩
            · have c_18 : ¬ ((if (q.1 (stP (byN (mi 3) n) n s)).1 = true then (1 : Int32) else 0) = 0) := of_decide_eq_false c_18
              refine wp_steps 1 (t' := (74, [some (.ref 2), some (.int op), some (.int 0)], [.ref 2], (HD, m_2, ml, mr))) rfl ?_
              refine wp_geti rfl ⟨by decide, rfl⟩ (Or.inl rfl) ?_
              refine wp_steps 1 (t' := (76, [some (.ref 2), some (.int op), some (.int 0)], [.int 41, .int (m_2 2 3)], (HD, m_2, ml, mr))) rfl ?_
              refine wp_bC rfl (fun c_19 => ?_) (fun c_19 => ?_)
              · have c_19 : (m_2 2 3) = 41 := of_decide_eq_true c_19
                refine wp_steps 1 (t' := (80, [some (.ref 2), some (.int op), some (.int 0)], [.ref 2], (HD, m_2, ml, mr))) rfl ?_
                refine wp_calv (as := []) rfl rfl rfl (Nat.le_of_ble_eq_true rfl) ⟨by decide, rfl⟩ ((c_pstep hM hn hs hX hp2)) (by omega) ?_
                rintro _ _ ⟨rfl, m_3, rfl, hp3⟩
                show aWP _ _ (81, [some (.ref 2), some (.int op), some (.int 0)], [], (HD, m_3, ml, mr)) _
                refine wp_steps 1 (t' := (82, [some (.ref 2), some (.int op), some (.int 0)], [.int 1], (HD, m_3, ml, mr))) rfl ?_
                refine wp_ret rfl rfl ⟨⟨Nat.le_refl _, Nat.le_refl _⟩, ?_⟩
                have ht : s.2.2.1 = m 2 3 := hp0.2.1.symm
                have hv : s.2.2.2.1 = m 2 6 := hp0.2.2.2.2.1.symm
                have e : onF (byN (mi 3) n) n (some q) s = (true, stP (byN (mi 3) n) n (q.1 (stP (byN (mi 3) n) n s)).2) := by
                  simp [onF, ht, hv, c_1, c_11, c_12, c_16, c_17, c_19, i1_t c_18, hp2.2.1.symm]
                rw [e]
                exact ⟨m_3, rfl, hp3, rfl⟩
              · have c_19 : ¬ ((m_2 2 3) = 41) := of_decide_eq_false c_19
                refine wp_steps 1 (t' := (78, [some (.ref 2), some (.int op), some (.int 0)], [.int 0], (HD, m_2, ml, mr))) rfl ?_
                refine wp_ret rfl rfl ⟨⟨Nat.le_refl _, Nat.le_refl _⟩, ?_⟩
                have ht : s.2.2.1 = m 2 3 := hp0.2.1.symm
                have hv : s.2.2.2.1 = m 2 6 := hp0.2.2.2.2.1.symm
                have e : onF (byN (mi 3) n) n (some q) s = (false, (q.1 (stP (byN (mi 3) n) n s)).2) := by
                  simp [onF, ht, hv, c_1, c_11, c_12, c_16, c_17, c_19, i1_t c_18, hp2.2.1.symm]
                rw [e]
                exact ⟨m_2, rfl, hp2, rfl⟩
          · have c_17 : ¬ ((m 2 3) = 40) := of_decide_eq_false c_17
            refine wp_steps 1 (t' := (64, [some (.ref 2), some (.int op), some (.int 0)], [.int 0], (HD, m, ml, mr))) rfl ?_
            refine wp_ret rfl rfl ⟨⟨Nat.le_refl _, Nat.le_refl _⟩, ?_⟩
            have ht : s.2.2.1 = m 2 3 := hp0.2.1.symm
            have hv : s.2.2.2.1 = m 2 6 := hp0.2.2.2.2.1.symm
            have e : onF (byN (mi 3) n) n (some q) s = (false, s) := by
              simp [onF, ht, hv, c_1, c_11, c_12, c_16, c_17]
            rw [e]
            exact ⟨m, rfl, hp0, rfl⟩
        · have c_16 : (m 2 3) = 45 := Decidable.not_not.mp (of_decide_eq_false c_16)
          refine wp_steps 1 (t' := (44, [some (.ref 2), some (.int op), some (.int 0)], [.ref 2], (HD, m, ml, mr))) rfl ?_
          refine wp_calv (as := []) rfl rfl rfl (Nat.le_of_ble_eq_true rfl) ⟨by decide, rfl⟩ ((c_pstep hM hn hs hX hp0)) (by omega) ?_
          rintro _ _ ⟨rfl, m_1, rfl, hp1⟩
          show aWP _ _ (45, [some (.ref 2), some (.int op), some (.int 0)], [], (HD, m_1, ml, mr)) _
          refine wp_steps 4 (t' := (49, [some (.ref 2), some (.int op), some (.int 0)], [.int (op + 1), .ref 2], (HD, m_1, ml, mr))) rfl ?_
          refine wp_calv (as := [.int (op + 1)]) rfl rfl rfl (Nat.le_of_ble_eq_true rfl) ⟨by decide, rfl⟩ (hq.2.2.2 _ _ hp1) (by omega) ?_
          rintro _ _ ⟨m_2, rfl, hp2, rfl⟩
          show aWP _ _ (50, [some (.ref 2), some (.int op), some (.int 0)], [.int (if (q.2.2 (stP (byN (mi 3) n) n s)).1 = true then (1 : Int32) else 0)], (HD, m_2, ml, mr)) _
          refine wp_bI rfl (fun c_20 => ?_) (fun c_20 => ?_)
          · have c_20 : ¬ (if (q.2.2 (stP (byN (mi 3) n) n s)).1 = true then (1 : Int32) else 0) = 0 := of_decide_eq_true c_20
            refine wp_steps 1 (t' := (54, [some (.ref 2), some (.int op), some (.int 0)], [.ref 2], (HD, m_2, ml, mr))) rfl ?_
            refine wp_getr rfl ⟨by decide, rfl⟩ rfl (hM (2, 2, 4) (by decide)) ?_
            refine wp_steps 1 (t' := (56, [some (.ref 2), some (.int op), some (.int 0)], [.int (-19), .ref 4], (HD, m_2, ml, mr))) rfl ?_
            refine wp_calv (as := [.int (-19)]) rfl rfl rfl (Nat.le_of_ble_eq_true rfl) ⟨by decide, rfl⟩ ((c_padd hM hp2)) (by omega) ?_
            rintro _ _ ⟨rfl, m_3, rfl, hp3⟩
            show aWP _ _ (57, [some (.ref 2), some (.int op), some (.int 0)], [], (HD, m_3, ml, mr)) _
            refine wp_steps 1 (t' := (58, [some (.ref 2), some (.int op), some (.int 0)], [.int 1], (HD, m_3, ml, mr))) rfl ?_
            refine wp_ret rfl rfl ⟨⟨Nat.le_refl _, Nat.le_refl _⟩, ?_⟩
            have ht : s.2.2.1 = m 2 3 := hp0.2.1.symm
            have hv : s.2.2.2.1 = m 2 6 := hp0.2.2.2.2.1.symm
            have e : onF (byN (mi 3) n) n (some q) s = (true, adP (-19) (q.2.2 (stP (byN (mi 3) n) n s)).2) := by
              simp [onF, ht, hv, c_1, c_11, c_12, c_16, i1_t c_20]
            rw [e]
            exact ⟨m_3, rfl, hp3, rfl⟩
          · have c_20 : (if (q.2.2 (stP (byN (mi 3) n) n s)).1 = true then (1 : Int32) else 0) = 0 := Decidable.not_not.mp (of_decide_eq_false c_20)
            refine wp_steps 1 (t' := (52, [some (.ref 2), some (.int op), some (.int 0)], [.int 0], (HD, m_2, ml, mr))) rfl ?_
            refine wp_ret rfl rfl ⟨⟨Nat.le_refl _, Nat.le_refl _⟩, ?_⟩
            have ht : s.2.2.1 = m 2 3 := hp0.2.1.symm
            have hv : s.2.2.2.1 = m 2 6 := hp0.2.2.2.2.1.symm
            have e : onF (byN (mi 3) n) n (some q) s = (false, (q.2.2 (stP (byN (mi 3) n) n s)).2) := by
              simp [onF, ht, hv, c_1, c_11, c_12, c_16, i1_f c_20]
            rw [e]
            exact ⟨m_2, rfl, hp2, rfl⟩
    · have c_11 : ¬ (16 ≤ (m 2 3)) := of_decide_eq_false c_11
      refine wp_steps 4 (t' := (13, [some (.ref 2), some (.int op), some (.int 1)], [.ref 2], (HD, m, ml, mr))) rfl ?_
      refine wp_geti rfl ⟨by decide, rfl⟩ (Or.inl rfl) ?_
      refine wp_steps 1 (t' := (15, [some (.ref 2), some (.int op), some (.int 1)], [.int 2, .int (m 2 3)], (HD, m, ml, mr))) rfl ?_
      refine wp_bC rfl (fun c_21 => ?_) (fun c_21 => ?_)
      · have c_21 : (m 2 3) = 2 := of_decide_eq_true c_21
        refine wp_steps 1 (t' := (19, [some (.ref 2), some (.int op), some (.int 1)], [.ref 2], (HD, m, ml, mr))) rfl ?_
        refine wp_getr rfl ⟨by decide, rfl⟩ rfl (hM (2, 2, 4) (by decide)) ?_
        refine wp_steps 1 (t' := (21, [some (.ref 2), some (.int op), some (.int 1)], [.int 1, .ref 4], (HD, m, ml, mr))) rfl ?_
        refine wp_bI rfl (fun c_22 => ?_) (fun c_22 => ?_)
        · have c_22 : (1 : Int32) = 0 := of_decide_eq_true c_22
          exact absurd c_22 (by decide)
        have c_22 : ¬ ((1 : Int32) = 0) := of_decide_eq_false c_22
        refine wp_steps 2 (t' := (24, [some (.ref 2), some (.int op), some (.int 1)], [.ref 2, .int 9, .ref 4], (HD, m, ml, mr))) rfl ?_
        refine wp_geti rfl ⟨by decide, rfl⟩ (Or.inl rfl) ?_
        refine wp_steps 2 (t' := (29, [some (.ref 2), some (.int op), some (.int 1)], [.int (9 - (m 2 3)), .ref 4], (HD, m, ml, mr))) rfl ?_
        refine wp_calv (as := [.int (9 - (m 2 3))]) rfl rfl rfl (Nat.le_of_ble_eq_true rfl) ⟨by decide, rfl⟩ ((c_padd hM hp0)) (by omega) ?_
        rintro _ _ ⟨rfl, m_1, rfl, hp1⟩
        show aWP _ _ (30, [some (.ref 2), some (.int op), some (.int 1)], [], (HD, m_1, ml, mr)) _
        refine wp_steps 1 (t' := (31, [some (.ref 2), some (.int op), some (.int 1)], [.ref 2], (HD, m_1, ml, mr))) rfl ?_
        refine wp_calv (as := []) rfl rfl rfl (Nat.le_of_ble_eq_true rfl) ⟨by decide, rfl⟩ ((c_pstep hM hn hs hX hp1)) (by omega) ?_
        rintro _ _ ⟨rfl, m_2, rfl, hp2⟩
        show aWP _ _ (32, [some (.ref 2), some (.int op), some (.int 1)], [], (HD, m_2, ml, mr)) _
        refine wp_steps 1 (t' := (33, [some (.ref 2), some (.int op), some (.int 1)], [.int 1], (HD, m_2, ml, mr))) rfl ?_
        refine wp_ret rfl rfl ⟨⟨Nat.le_refl _, Nat.le_refl _⟩, ?_⟩
        exact absurd (by rw [c_21]; decide) c_1
      · have c_21 : ¬ ((m 2 3) = 2) := of_decide_eq_false c_21
        refine wp_steps 1 (t' := (17, [some (.ref 2), some (.int op), some (.int 1)], [.int 1], (HD, m, ml, mr))) rfl ?_
        refine wp_bI rfl (fun c_23 => ?_) (fun c_23 => ?_)
        · have c_23 : (1 : Int32) = 0 := of_decide_eq_true c_23
          exact absurd c_23 (by decide)
        have c_23 : ¬ ((1 : Int32) = 0) := of_decide_eq_false c_23
        refine wp_steps 1 (t' := (19, [some (.ref 2), some (.int op), some (.int 1)], [.ref 2], (HD, m, ml, mr))) rfl ?_
        refine wp_getr rfl ⟨by decide, rfl⟩ rfl (hM (2, 2, 4) (by decide)) ?_
        refine wp_steps 1 (t' := (21, [some (.ref 2), some (.int op), some (.int 1)], [.int 1, .ref 4], (HD, m, ml, mr))) rfl ?_
        refine wp_bI rfl (fun c_24 => ?_) (fun c_24 => ?_)
        · have c_24 : (1 : Int32) = 0 := of_decide_eq_true c_24
          exact absurd c_24 (by decide)
        have c_24 : ¬ ((1 : Int32) = 0) := of_decide_eq_false c_24
        refine wp_steps 2 (t' := (24, [some (.ref 2), some (.int op), some (.int 1)], [.ref 2, .int 9, .ref 4], (HD, m, ml, mr))) rfl ?_
        refine wp_geti rfl ⟨by decide, rfl⟩ (Or.inl rfl) ?_
        refine wp_steps 2 (t' := (29, [some (.ref 2), some (.int op), some (.int 1)], [.int (9 - (m 2 3)), .ref 4], (HD, m, ml, mr))) rfl ?_
        refine wp_calv (as := [.int (9 - (m 2 3))]) rfl rfl rfl (Nat.le_of_ble_eq_true rfl) ⟨by decide, rfl⟩ ((c_padd hM hp0)) (by omega) ?_
        rintro _ _ ⟨rfl, m_1, rfl, hp1⟩
        show aWP _ _ (30, [some (.ref 2), some (.int op), some (.int 1)], [], (HD, m_1, ml, mr)) _
        refine wp_steps 1 (t' := (31, [some (.ref 2), some (.int op), some (.int 1)], [.ref 2], (HD, m_1, ml, mr))) rfl ?_
        refine wp_calv (as := []) rfl rfl rfl (Nat.le_of_ble_eq_true rfl) ⟨by decide, rfl⟩ ((c_pstep hM hn hs hX hp1)) (by omega) ?_
        rintro _ _ ⟨rfl, m_2, rfl, hp2⟩
        show aWP _ _ (32, [some (.ref 2), some (.int op), some (.int 1)], [], (HD, m_2, ml, mr)) _
        refine wp_steps 1 (t' := (33, [some (.ref 2), some (.int op), some (.int 1)], [.int 1], (HD, m_2, ml, mr))) rfl ?_
        refine wp_ret rfl rfl ⟨⟨Nat.le_refl _, Nat.le_refl _⟩, ?_⟩
        have ht : s.2.2.1 = m 2 3 := hp0.2.1.symm
        have hv : s.2.2.2.1 = m 2 6 := hp0.2.2.2.2.1.symm
        have e : onF (byN (mi 3) n) n (some q) s = (true, stP (byN (mi 3) n) n (adP (9 - m 2 3) s)) := by
          simp [onF, ht, hv, c_1, c_11, c_21]
        rw [e]
        exact ⟨m_2, rfl, hp2, rfl⟩
