/-! the reader's chains (written by wip/whole/mkpar2.py) -/
theorem i1_t {b : Bool} (h : ¬ (if b = true then (1 : Int32) else 0) = 0) : b = true := by
  cases b with
  | true => rfl
  | false => exact absurd rfl h
theorem i1_f {b : Bool} (h : (if b = true then (1 : Int32) else 0) = 0) : ¬ b = true := by
  cases b with
  | true => exact absurd h (by decide)
  | false => decide
set_option maxRecDepth 20000 in
set_option maxHeartbeats 1000000 in
theorem l_readOr {X : aXt × Value} {mi : Nat → Nat → Int32} {ml : Nat → Nat → Int64} {mr : Nat → Nat → Option Nat} (hM : MRok mr) {n : Nat} (hn : n ≤ 160) (hs : mi 2 0 = nI n) (hX : outOK X) {op : Int32} {sub : pF} {d : Nat} (hd : 7 ≤ d) (hsub : cwP X mi ml mr d 17 op sub) : ∀ (g t : Nat) (m : Nat → Nat → Int32) (s : pS), t + g = 160 → PS mi m s → aWP (aEx (aTb X) d) cd_X1_readOr (8, [some (.ref 2), some (.int op), some (.int (nI t))], [], (HD, m, ml, mr)) (fun r h' => (HD.1 ≤ h'.1.1 ∧ HD.2.1 ≤ h'.1.2.1) ∧ (∃ m', h' = (HD, m', ml, mr) ∧ PS mi m' (lpF (byN (mi 3) n) n joO sub g s).2 ∧ r = some (.int (if (lpF (byN (mi 3) n) n joO sub g s).1 = true then 1 else 0)))) := by
  intro g
  induction g with
  | zero =>
    intro t m s hg hi
    have e : t = 160 := by omega
    subst e
    refine wp_steps 2 (t' := (10, [some (.ref 2), some (.int op), some (.int (nI 160))], [.int 160, .int (nI 160)], (HD, m, ml, mr))) rfl ?_
    refine wp_bC rfl (fun c_1 => ?_) (fun c_1 => ?_)
    rotate_left
    · have c_1 : ¬ (160 ≤ (nI 160)) := of_decide_eq_false c_1
      exact absurd (by decide) c_1
    have c_1 : 160 ≤ (nI 160) := of_decide_eq_true c_1
    refine wp_steps 1 (t' := (30, [some (.ref 2), some (.int op), some (.int (nI 160))], [.int 1], (HD, m, ml, mr))) rfl ?_
    refine wp_ret rfl rfl ⟨⟨Nat.le_refl _, Nat.le_refl _⟩, ?_⟩
    exact ⟨m, rfl, hi, rfl⟩
  | succ g ih =>
    intro t m s hg hi
    have ht : t < 160 := by omega
    refine wp_steps 2 (t' := (10, [some (.ref 2), some (.int op), some (.int (nI t))], [.int 160, .int (nI t)], (HD, m, ml, mr))) rfl ?_
    refine wp_bC rfl (fun c_1 => ?_) (fun c_1 => ?_)
    · have c_1 : 160 ≤ (nI t) := of_decide_eq_true c_1
      exact absurd c_1 (nI_ge ht (by decide))
    have c_1 : ¬ (160 ≤ (nI t)) := of_decide_eq_false c_1
    refine wp_steps 1 (t' := (12, [some (.ref 2), some (.int op), some (.int (nI t))], [.ref 2], (HD, m, ml, mr))) rfl ?_
    refine wp_geti rfl ⟨by decide, rfl⟩ (Or.inl rfl) ?_
    refine wp_steps 1 (t' := (14, [some (.ref 2), some (.int op), some (.int (nI t))], [.int 6, .int (m 2 3)], (HD, m, ml, mr))) rfl ?_
    refine wp_bC rfl (fun c_2 => ?_) (fun c_2 => ?_)
    · have c_2 : ¬ (m 2 3) = 6 := of_decide_eq_true c_2
      refine wp_steps 1 (t' := (30, [some (.ref 2), some (.int op), some (.int (nI t))], [.int 1], (HD, m, ml, mr))) rfl ?_
      refine wp_ret rfl rfl ⟨⟨Nat.le_refl _, Nat.le_refl _⟩, ?_⟩
      have hj : joO s.2.2.1 = 0 := by rw [← hi.2.1]; simp [joO, c_2]
      have e : lpF (byN (mi 3) n) n joO sub (g + 1) s = (true, s) := if_pos hj
      rw [e]
      exact ⟨m, rfl, hi, rfl⟩
    · have c_2 : (m 2 3) = 6 := Decidable.not_not.mp (of_decide_eq_false c_2)
      refine wp_steps 1 (t' := (16, [some (.ref 2), some (.int op), some (.int (nI t))], [.ref 2], (HD, m, ml, mr))) rfl ?_
      refine wp_calv (as := []) rfl rfl rfl (Nat.le_of_ble_eq_true rfl) ⟨by decide, rfl⟩ ((c_pstep hM hn hs hX hi)) (by omega) ?_
      rintro _ _ ⟨rfl, m_1, rfl, hp1⟩
      show aWP _ _ (17, [some (.ref 2), some (.int op), some (.int (nI t))], [], (HD, m_1, ml, mr)) _
      refine wp_steps 2 (t' := (19, [some (.ref 2), some (.int op), some (.int (nI t))], [.int op, .ref 2], (HD, m_1, ml, mr))) rfl ?_
      refine wp_calv (as := [.int op]) rfl rfl rfl (Nat.le_of_ble_eq_true rfl) ⟨by decide, rfl⟩ (hsub _ _ hp1) (by omega) ?_
      rintro _ _ ⟨m_2, rfl, hp2, rfl⟩
      show aWP _ _ (20, [some (.ref 2), some (.int op), some (.int (nI t))], [.int (if (sub (stP (byN (mi 3) n) n s)).1 = true then (1 : Int32) else 0)], (HD, m_2, ml, mr)) _
      refine wp_bI rfl (fun c_3 => ?_) (fun c_3 => ?_)
      · have c_3 : ¬ (if (sub (stP (byN (mi 3) n) n s)).1 = true then (1 : Int32) else 0) = 0 := of_decide_eq_true c_3
        refine wp_steps 1 (t' := (24, [some (.ref 2), some (.int op), some (.int (nI t))], [.ref 2], (HD, m_2, ml, mr))) rfl ?_
        refine wp_getr rfl ⟨by decide, rfl⟩ rfl (hM (2, 2, 4) (by decide)) ?_
        refine wp_steps 1 (t' := (26, [some (.ref 2), some (.int op), some (.int (nI t))], [.int (-11), .ref 4], (HD, m_2, ml, mr))) rfl ?_
        refine wp_calv (as := [.int (-11)]) rfl rfl rfl (Nat.le_of_ble_eq_true rfl) ⟨by decide, rfl⟩ ((c_padd hM hp2)) (by omega) ?_
        rintro _ _ ⟨rfl, m_3, rfl, hp3⟩
        show aWP _ _ (27, [some (.ref 2), some (.int op), some (.int (nI t))], [], (HD, m_3, ml, mr)) _
        refine wp_steps 2 (t' := (8, [some (.ref 2), some (.int op), some (.int ((nI t) + Int32.ofInt 1))], [], (HD, m_3, ml, mr))) rfl ?_
        rw [inc_nI]
        have hj : joO s.2.2.1 = -11 := by rw [← hi.2.1]; simp [joO, c_2]
        have e : lpF (byN (mi 3) n) n joO sub (g + 1) s = lpF (byN (mi 3) n) n joO sub g (adP (-11) (sub (stP (byN (mi 3) n) n s)).2) := by
          show (if _ then _ else _) = _
          rw [hj, if_neg (by decide), if_pos (i1_t c_3)]
        rw [e]
        exact ih (t + 1) m_3 _ (by omega) hp3
      · have c_3 : (if (sub (stP (byN (mi 3) n) n s)).1 = true then (1 : Int32) else 0) = 0 := Decidable.not_not.mp (of_decide_eq_false c_3)
        refine wp_steps 1 (t' := (22, [some (.ref 2), some (.int op), some (.int (nI t))], [.int 0], (HD, m_2, ml, mr))) rfl ?_
        refine wp_ret rfl rfl ⟨⟨Nat.le_refl _, Nat.le_refl _⟩, ?_⟩
        have hj : joO s.2.2.1 = -11 := by rw [← hi.2.1]; simp [joO, c_2]
        have e : lpF (byN (mi 3) n) n joO sub (g + 1) s = (false, (sub (stP (byN (mi 3) n) n s)).2) := by
          show (if _ then _ else _) = _
          rw [hj, if_neg (by decide), if_neg (i1_f c_3)]
        rw [e]
        exact ⟨m_2, rfl, hp2, rfl⟩
set_option maxRecDepth 20000 in
set_option maxHeartbeats 1000000 in
theorem c_readOr {X : aXt × Value} {mi : Nat → Nat → Int32} {ml : Nat → Nat → Int64} {mr : Nat → Nat → Option Nat} (hM : MRok mr) {n : Nat} (hn : n ≤ 160) (hs : mi 2 0 = nI n) (hX : outOK X) {op : Int32} {sub : pF} {d : Nat} (hd : 7 ≤ d) (hsub : cwP X mi ml mr d 17 op sub) : cwP X mi ml mr (d + 1) 16 op (chF (byN (mi 3) n) n joO sub) := by
  intro m s hp0
  refine cw_of (cd := cd_X1_readOr) (nL := 3) rfl rfl ?_
  show aWP _ _ (0, [some (.ref 2), some (.int op), none], [], (HD, m, ml, mr)) _
  refine wp_steps 2 (t' := (2, [some (.ref 2), some (.int op), none], [.int op, .ref 2], (HD, m, ml, mr))) rfl ?_
  refine wp_calv (as := [.int op]) rfl rfl rfl (Nat.le_of_ble_eq_true rfl) ⟨by decide, rfl⟩ (hsub _ _ hp0) (by omega) ?_
  rintro _ _ ⟨m_0, rfl, hp1, rfl⟩
  show aWP _ _ (3, [some (.ref 2), some (.int op), none], [.int (if (sub s).1 = true then (1 : Int32) else 0)], (HD, m_0, ml, mr)) _
  refine wp_bI rfl (fun c_1 => ?_) (fun c_1 => ?_)
  · have c_1 : ¬ (if (sub s).1 = true then (1 : Int32) else 0) = 0 := of_decide_eq_true c_1
    refine wp_steps 2 (t' := (8, [some (.ref 2), some (.int op), some (.int 0)], [], (HD, m_0, ml, mr))) rfl ?_
    have e : chF (byN (mi 3) n) n joO sub s = lpF (byN (mi 3) n) n joO sub 160 (sub s).2 := if_pos (i1_t c_1)
    rw [e]
    exact l_readOr hM hn hs hX hd hsub 160 0 m_0 _ rfl hp1
  · have c_1 : (if (sub s).1 = true then (1 : Int32) else 0) = 0 := Decidable.not_not.mp (of_decide_eq_false c_1)
    refine wp_steps 1 (t' := (5, [some (.ref 2), some (.int op), none], [.int 0], (HD, m_0, ml, mr))) rfl ?_
    refine wp_ret rfl rfl ⟨⟨Nat.le_refl _, Nat.le_refl _⟩, ?_⟩
    have e : chF (byN (mi 3) n) n joO sub s = (false, (sub s).2) := if_neg (i1_f c_1)
    rw [e]
    exact ⟨m_0, rfl, hp1, rfl⟩
set_option maxRecDepth 20000 in
set_option maxHeartbeats 1000000 in
theorem l_readAnd {X : aXt × Value} {mi : Nat → Nat → Int32} {ml : Nat → Nat → Int64} {mr : Nat → Nat → Option Nat} (hM : MRok mr) {n : Nat} (hn : n ≤ 160) (hs : mi 2 0 = nI n) (hX : outOK X) {op : Int32} {sub : pF} {d : Nat} (hd : 7 ≤ d) (hsub : cwP X mi ml mr d 18 op sub) : ∀ (g t : Nat) (m : Nat → Nat → Int32) (s : pS), t + g = 160 → PS mi m s → aWP (aEx (aTb X) d) cd_X1_readAnd (8, [some (.ref 2), some (.int op), some (.int (nI t))], [], (HD, m, ml, mr)) (fun r h' => (HD.1 ≤ h'.1.1 ∧ HD.2.1 ≤ h'.1.2.1) ∧ (∃ m', h' = (HD, m', ml, mr) ∧ PS mi m' (lpF (byN (mi 3) n) n joA sub g s).2 ∧ r = some (.int (if (lpF (byN (mi 3) n) n joA sub g s).1 = true then 1 else 0)))) := by
  intro g
  induction g with
  | zero =>
    intro t m s hg hi
    have e : t = 160 := by omega
    subst e
    refine wp_steps 2 (t' := (10, [some (.ref 2), some (.int op), some (.int (nI 160))], [.int 160, .int (nI 160)], (HD, m, ml, mr))) rfl ?_
    refine wp_bC rfl (fun c_1 => ?_) (fun c_1 => ?_)
    rotate_left
    · have c_1 : ¬ (160 ≤ (nI 160)) := of_decide_eq_false c_1
      exact absurd (by decide) c_1
    have c_1 : 160 ≤ (nI 160) := of_decide_eq_true c_1
    refine wp_steps 1 (t' := (30, [some (.ref 2), some (.int op), some (.int (nI 160))], [.int 1], (HD, m, ml, mr))) rfl ?_
    refine wp_ret rfl rfl ⟨⟨Nat.le_refl _, Nat.le_refl _⟩, ?_⟩
    exact ⟨m, rfl, hi, rfl⟩
  | succ g ih =>
    intro t m s hg hi
    have ht : t < 160 := by omega
    refine wp_steps 2 (t' := (10, [some (.ref 2), some (.int op), some (.int (nI t))], [.int 160, .int (nI t)], (HD, m, ml, mr))) rfl ?_
    refine wp_bC rfl (fun c_1 => ?_) (fun c_1 => ?_)
    · have c_1 : 160 ≤ (nI t) := of_decide_eq_true c_1
      exact absurd c_1 (nI_ge ht (by decide))
    have c_1 : ¬ (160 ≤ (nI t)) := of_decide_eq_false c_1
    refine wp_steps 1 (t' := (12, [some (.ref 2), some (.int op), some (.int (nI t))], [.ref 2], (HD, m, ml, mr))) rfl ?_
    refine wp_geti rfl ⟨by decide, rfl⟩ (Or.inl rfl) ?_
    refine wp_steps 1 (t' := (14, [some (.ref 2), some (.int op), some (.int (nI t))], [.int 7, .int (m 2 3)], (HD, m, ml, mr))) rfl ?_
    refine wp_bC rfl (fun c_2 => ?_) (fun c_2 => ?_)
    · have c_2 : ¬ (m 2 3) = 7 := of_decide_eq_true c_2
      refine wp_steps 1 (t' := (30, [some (.ref 2), some (.int op), some (.int (nI t))], [.int 1], (HD, m, ml, mr))) rfl ?_
      refine wp_ret rfl rfl ⟨⟨Nat.le_refl _, Nat.le_refl _⟩, ?_⟩
      have hj : joA s.2.2.1 = 0 := by rw [← hi.2.1]; simp [joA, c_2]
      have e : lpF (byN (mi 3) n) n joA sub (g + 1) s = (true, s) := if_pos hj
      rw [e]
      exact ⟨m, rfl, hi, rfl⟩
    · have c_2 : (m 2 3) = 7 := Decidable.not_not.mp (of_decide_eq_false c_2)
      refine wp_steps 1 (t' := (16, [some (.ref 2), some (.int op), some (.int (nI t))], [.ref 2], (HD, m, ml, mr))) rfl ?_
      refine wp_calv (as := []) rfl rfl rfl (Nat.le_of_ble_eq_true rfl) ⟨by decide, rfl⟩ ((c_pstep hM hn hs hX hi)) (by omega) ?_
      rintro _ _ ⟨rfl, m_1, rfl, hp1⟩
      show aWP _ _ (17, [some (.ref 2), some (.int op), some (.int (nI t))], [], (HD, m_1, ml, mr)) _
      refine wp_steps 2 (t' := (19, [some (.ref 2), some (.int op), some (.int (nI t))], [.int op, .ref 2], (HD, m_1, ml, mr))) rfl ?_
      refine wp_calv (as := [.int op]) rfl rfl rfl (Nat.le_of_ble_eq_true rfl) ⟨by decide, rfl⟩ (hsub _ _ hp1) (by omega) ?_
      rintro _ _ ⟨m_2, rfl, hp2, rfl⟩
      show aWP _ _ (20, [some (.ref 2), some (.int op), some (.int (nI t))], [.int (if (sub (stP (byN (mi 3) n) n s)).1 = true then (1 : Int32) else 0)], (HD, m_2, ml, mr)) _
      refine wp_bI rfl (fun c_3 => ?_) (fun c_3 => ?_)
      · have c_3 : ¬ (if (sub (stP (byN (mi 3) n) n s)).1 = true then (1 : Int32) else 0) = 0 := of_decide_eq_true c_3
        refine wp_steps 1 (t' := (24, [some (.ref 2), some (.int op), some (.int (nI t))], [.ref 2], (HD, m_2, ml, mr))) rfl ?_
        refine wp_getr rfl ⟨by decide, rfl⟩ rfl (hM (2, 2, 4) (by decide)) ?_
        refine wp_steps 1 (t' := (26, [some (.ref 2), some (.int op), some (.int (nI t))], [.int (-12), .ref 4], (HD, m_2, ml, mr))) rfl ?_
        refine wp_calv (as := [.int (-12)]) rfl rfl rfl (Nat.le_of_ble_eq_true rfl) ⟨by decide, rfl⟩ ((c_padd hM hp2)) (by omega) ?_
        rintro _ _ ⟨rfl, m_3, rfl, hp3⟩
        show aWP _ _ (27, [some (.ref 2), some (.int op), some (.int (nI t))], [], (HD, m_3, ml, mr)) _
        refine wp_steps 2 (t' := (8, [some (.ref 2), some (.int op), some (.int ((nI t) + Int32.ofInt 1))], [], (HD, m_3, ml, mr))) rfl ?_
        rw [inc_nI]
        have hj : joA s.2.2.1 = -12 := by rw [← hi.2.1]; simp [joA, c_2]
        have e : lpF (byN (mi 3) n) n joA sub (g + 1) s = lpF (byN (mi 3) n) n joA sub g (adP (-12) (sub (stP (byN (mi 3) n) n s)).2) := by
          show (if _ then _ else _) = _
          rw [hj, if_neg (by decide), if_pos (i1_t c_3)]
        rw [e]
        exact ih (t + 1) m_3 _ (by omega) hp3
      · have c_3 : (if (sub (stP (byN (mi 3) n) n s)).1 = true then (1 : Int32) else 0) = 0 := Decidable.not_not.mp (of_decide_eq_false c_3)
        refine wp_steps 1 (t' := (22, [some (.ref 2), some (.int op), some (.int (nI t))], [.int 0], (HD, m_2, ml, mr))) rfl ?_
        refine wp_ret rfl rfl ⟨⟨Nat.le_refl _, Nat.le_refl _⟩, ?_⟩
        have hj : joA s.2.2.1 = -12 := by rw [← hi.2.1]; simp [joA, c_2]
        have e : lpF (byN (mi 3) n) n joA sub (g + 1) s = (false, (sub (stP (byN (mi 3) n) n s)).2) := by
          show (if _ then _ else _) = _
          rw [hj, if_neg (by decide), if_neg (i1_f c_3)]
        rw [e]
        exact ⟨m_2, rfl, hp2, rfl⟩
set_option maxRecDepth 20000 in
set_option maxHeartbeats 1000000 in
theorem c_readAnd {X : aXt × Value} {mi : Nat → Nat → Int32} {ml : Nat → Nat → Int64} {mr : Nat → Nat → Option Nat} (hM : MRok mr) {n : Nat} (hn : n ≤ 160) (hs : mi 2 0 = nI n) (hX : outOK X) {op : Int32} {sub : pF} {d : Nat} (hd : 7 ≤ d) (hsub : cwP X mi ml mr d 18 op sub) : cwP X mi ml mr (d + 1) 17 op (chF (byN (mi 3) n) n joA sub) := by
  intro m s hp0
  refine cw_of (cd := cd_X1_readAnd) (nL := 3) rfl rfl ?_
  show aWP _ _ (0, [some (.ref 2), some (.int op), none], [], (HD, m, ml, mr)) _
  refine wp_steps 2 (t' := (2, [some (.ref 2), some (.int op), none], [.int op, .ref 2], (HD, m, ml, mr))) rfl ?_
  refine wp_calv (as := [.int op]) rfl rfl rfl (Nat.le_of_ble_eq_true rfl) ⟨by decide, rfl⟩ (hsub _ _ hp0) (by omega) ?_
  rintro _ _ ⟨m_0, rfl, hp1, rfl⟩
  show aWP _ _ (3, [some (.ref 2), some (.int op), none], [.int (if (sub s).1 = true then (1 : Int32) else 0)], (HD, m_0, ml, mr)) _
  refine wp_bI rfl (fun c_1 => ?_) (fun c_1 => ?_)
  · have c_1 : ¬ (if (sub s).1 = true then (1 : Int32) else 0) = 0 := of_decide_eq_true c_1
    refine wp_steps 2 (t' := (8, [some (.ref 2), some (.int op), some (.int 0)], [], (HD, m_0, ml, mr))) rfl ?_
    have e : chF (byN (mi 3) n) n joA sub s = lpF (byN (mi 3) n) n joA sub 160 (sub s).2 := if_pos (i1_t c_1)
    rw [e]
    exact l_readAnd hM hn hs hX hd hsub 160 0 m_0 _ rfl hp1
  · have c_1 : (if (sub s).1 = true then (1 : Int32) else 0) = 0 := Decidable.not_not.mp (of_decide_eq_false c_1)
    refine wp_steps 1 (t' := (5, [some (.ref 2), some (.int op), none], [.int 0], (HD, m_0, ml, mr))) rfl ?_
    refine wp_ret rfl rfl ⟨⟨Nat.le_refl _, Nat.le_refl _⟩, ?_⟩
    have e : chF (byN (mi 3) n) n joA sub s = (false, (sub s).2) := if_neg (i1_f c_1)
    rw [e]
    exact ⟨m_0, rfl, hp1, rfl⟩
set_option maxRecDepth 20000 in
set_option maxHeartbeats 1000000 in
theorem l_readTerm {X : aXt × Value} {mi : Nat → Nat → Int32} {ml : Nat → Nat → Int64} {mr : Nat → Nat → Option Nat} (hM : MRok mr) {n : Nat} (hn : n ≤ 160) (hs : mi 2 0 = nI n) (hX : outOK X) {op : Int32} {sub : pF} {d : Nat} (hd : 7 ≤ d) (hsub : cwP X mi ml mr d 22 op sub) : ∀ (g t : Nat) (m : Nat → Nat → Int32) (s : pS), t + g = 160 → PS mi m s → aWP (aEx (aTb X) d) cd_X1_readTerm (8, [some (.ref 2), some (.int op), some (.int (nI t))], [], (HD, m, ml, mr)) (fun r h' => (HD.1 ≤ h'.1.1 ∧ HD.2.1 ≤ h'.1.2.1) ∧ (∃ m', h' = (HD, m', ml, mr) ∧ PS mi m' (lpF (byN (mi 3) n) n joT sub g s).2 ∧ r = some (.int (if (lpF (byN (mi 3) n) n joT sub g s).1 = true then 1 else 0)))) := by
  intro g
  induction g with
  | zero =>
    intro t m s hg hi
    have e : t = 160 := by omega
    subst e
    refine wp_steps 2 (t' := (10, [some (.ref 2), some (.int op), some (.int (nI 160))], [.int 160, .int (nI 160)], (HD, m, ml, mr))) rfl ?_
    refine wp_bC rfl (fun c_1 => ?_) (fun c_1 => ?_)
    rotate_left
    · have c_1 : ¬ (160 ≤ (nI 160)) := of_decide_eq_false c_1
      exact absurd (by decide) c_1
    have c_1 : 160 ≤ (nI 160) := of_decide_eq_true c_1
    refine wp_steps 1 (t' := (30, [some (.ref 2), some (.int op), some (.int (nI 160))], [.int 1], (HD, m, ml, mr))) rfl ?_
    refine wp_ret rfl rfl ⟨⟨Nat.le_refl _, Nat.le_refl _⟩, ?_⟩
    exact ⟨m, rfl, hi, rfl⟩
  | succ g ih =>
    intro t m s hg hi
    have ht : t < 160 := by omega
    refine wp_steps 2 (t' := (10, [some (.ref 2), some (.int op), some (.int (nI t))], [.int 160, .int (nI t)], (HD, m, ml, mr))) rfl ?_
    refine wp_bC rfl (fun c_1 => ?_) (fun c_1 => ?_)
    · have c_1 : 160 ≤ (nI t) := of_decide_eq_true c_1
      exact absurd c_1 (nI_ge ht (by decide))
    have c_1 : ¬ (160 ≤ (nI t)) := of_decide_eq_false c_1
    refine wp_steps 1 (t' := (12, [some (.ref 2), some (.int op), some (.int (nI t))], [.ref 2], (HD, m, ml, mr))) rfl ?_
    refine wp_geti rfl ⟨by decide, rfl⟩ (Or.inl rfl) ?_
    refine wp_steps 1 (t' := (14, [some (.ref 2), some (.int op), some (.int (nI t))], [.int 42, .int (m 2 3)], (HD, m, ml, mr))) rfl ?_
    refine wp_bC rfl (fun c_2 => ?_) (fun c_2 => ?_)
    · have c_2 : ¬ (m 2 3) = 42 := of_decide_eq_true c_2
      refine wp_steps 1 (t' := (30, [some (.ref 2), some (.int op), some (.int (nI t))], [.int 1], (HD, m, ml, mr))) rfl ?_
      refine wp_ret rfl rfl ⟨⟨Nat.le_refl _, Nat.le_refl _⟩, ?_⟩
      have hj : joT s.2.2.1 = 0 := by rw [← hi.2.1]; simp [joT, c_2]
      have e : lpF (byN (mi 3) n) n joT sub (g + 1) s = (true, s) := if_pos hj
      rw [e]
      exact ⟨m, rfl, hi, rfl⟩
    · have c_2 : (m 2 3) = 42 := Decidable.not_not.mp (of_decide_eq_false c_2)
      refine wp_steps 1 (t' := (16, [some (.ref 2), some (.int op), some (.int (nI t))], [.ref 2], (HD, m, ml, mr))) rfl ?_
      refine wp_calv (as := []) rfl rfl rfl (Nat.le_of_ble_eq_true rfl) ⟨by decide, rfl⟩ ((c_pstep hM hn hs hX hi)) (by omega) ?_
      rintro _ _ ⟨rfl, m_1, rfl, hp1⟩
      show aWP _ _ (17, [some (.ref 2), some (.int op), some (.int (nI t))], [], (HD, m_1, ml, mr)) _
      refine wp_steps 2 (t' := (19, [some (.ref 2), some (.int op), some (.int (nI t))], [.int op, .ref 2], (HD, m_1, ml, mr))) rfl ?_
      refine wp_calv (as := [.int op]) rfl rfl rfl (Nat.le_of_ble_eq_true rfl) ⟨by decide, rfl⟩ (hsub _ _ hp1) (by omega) ?_
      rintro _ _ ⟨m_2, rfl, hp2, rfl⟩
      show aWP _ _ (20, [some (.ref 2), some (.int op), some (.int (nI t))], [.int (if (sub (stP (byN (mi 3) n) n s)).1 = true then (1 : Int32) else 0)], (HD, m_2, ml, mr)) _
      refine wp_bI rfl (fun c_3 => ?_) (fun c_3 => ?_)
      · have c_3 : ¬ (if (sub (stP (byN (mi 3) n) n s)).1 = true then (1 : Int32) else 0) = 0 := of_decide_eq_true c_3
        refine wp_steps 1 (t' := (24, [some (.ref 2), some (.int op), some (.int (nI t))], [.ref 2], (HD, m_2, ml, mr))) rfl ?_
        refine wp_getr rfl ⟨by decide, rfl⟩ rfl (hM (2, 2, 4) (by decide)) ?_
        refine wp_steps 1 (t' := (26, [some (.ref 2), some (.int op), some (.int (nI t))], [.int (-18), .ref 4], (HD, m_2, ml, mr))) rfl ?_
        refine wp_calv (as := [.int (-18)]) rfl rfl rfl (Nat.le_of_ble_eq_true rfl) ⟨by decide, rfl⟩ ((c_padd hM hp2)) (by omega) ?_
        rintro _ _ ⟨rfl, m_3, rfl, hp3⟩
        show aWP _ _ (27, [some (.ref 2), some (.int op), some (.int (nI t))], [], (HD, m_3, ml, mr)) _
        refine wp_steps 2 (t' := (8, [some (.ref 2), some (.int op), some (.int ((nI t) + Int32.ofInt 1))], [], (HD, m_3, ml, mr))) rfl ?_
        rw [inc_nI]
        have hj : joT s.2.2.1 = -18 := by rw [← hi.2.1]; simp [joT, c_2]
        have e : lpF (byN (mi 3) n) n joT sub (g + 1) s = lpF (byN (mi 3) n) n joT sub g (adP (-18) (sub (stP (byN (mi 3) n) n s)).2) := by
          show (if _ then _ else _) = _
          rw [hj, if_neg (by decide), if_pos (i1_t c_3)]
        rw [e]
        exact ih (t + 1) m_3 _ (by omega) hp3
      · have c_3 : (if (sub (stP (byN (mi 3) n) n s)).1 = true then (1 : Int32) else 0) = 0 := Decidable.not_not.mp (of_decide_eq_false c_3)
        refine wp_steps 1 (t' := (22, [some (.ref 2), some (.int op), some (.int (nI t))], [.int 0], (HD, m_2, ml, mr))) rfl ?_
        refine wp_ret rfl rfl ⟨⟨Nat.le_refl _, Nat.le_refl _⟩, ?_⟩
        have hj : joT s.2.2.1 = -18 := by rw [← hi.2.1]; simp [joT, c_2]
        have e : lpF (byN (mi 3) n) n joT sub (g + 1) s = (false, (sub (stP (byN (mi 3) n) n s)).2) := by
          show (if _ then _ else _) = _
          rw [hj, if_neg (by decide), if_neg (i1_f c_3)]
        rw [e]
        exact ⟨m_2, rfl, hp2, rfl⟩
set_option maxRecDepth 20000 in
set_option maxHeartbeats 1000000 in
theorem c_readTerm {X : aXt × Value} {mi : Nat → Nat → Int32} {ml : Nat → Nat → Int64} {mr : Nat → Nat → Option Nat} (hM : MRok mr) {n : Nat} (hn : n ≤ 160) (hs : mi 2 0 = nI n) (hX : outOK X) {op : Int32} {sub : pF} {d : Nat} (hd : 7 ≤ d) (hsub : cwP X mi ml mr d 22 op sub) : cwP X mi ml mr (d + 1) 21 op (chF (byN (mi 3) n) n joT sub) := by
  intro m s hp0
  refine cw_of (cd := cd_X1_readTerm) (nL := 3) rfl rfl ?_
  show aWP _ _ (0, [some (.ref 2), some (.int op), none], [], (HD, m, ml, mr)) _
  refine wp_steps 2 (t' := (2, [some (.ref 2), some (.int op), none], [.int op, .ref 2], (HD, m, ml, mr))) rfl ?_
  refine wp_calv (as := [.int op]) rfl rfl rfl (Nat.le_of_ble_eq_true rfl) ⟨by decide, rfl⟩ (hsub _ _ hp0) (by omega) ?_
  rintro _ _ ⟨m_0, rfl, hp1, rfl⟩
  show aWP _ _ (3, [some (.ref 2), some (.int op), none], [.int (if (sub s).1 = true then (1 : Int32) else 0)], (HD, m_0, ml, mr)) _
  refine wp_bI rfl (fun c_1 => ?_) (fun c_1 => ?_)
  · have c_1 : ¬ (if (sub s).1 = true then (1 : Int32) else 0) = 0 := of_decide_eq_true c_1
    refine wp_steps 2 (t' := (8, [some (.ref 2), some (.int op), some (.int 0)], [], (HD, m_0, ml, mr))) rfl ?_
    have e : chF (byN (mi 3) n) n joT sub s = lpF (byN (mi 3) n) n joT sub 160 (sub s).2 := if_pos (i1_t c_1)
    rw [e]
    exact l_readTerm hM hn hs hX hd hsub 160 0 m_0 _ rfl hp1
  · have c_1 : (if (sub s).1 = true then (1 : Int32) else 0) = 0 := Decidable.not_not.mp (of_decide_eq_false c_1)
    refine wp_steps 1 (t' := (5, [some (.ref 2), some (.int op), none], [.int 0], (HD, m_0, ml, mr))) rfl ?_
    refine wp_ret rfl rfl ⟨⟨Nat.le_refl _, Nat.le_refl _⟩, ?_⟩
    have e : chF (byN (mi 3) n) n joT sub s = (false, (sub s).2) := if_neg (i1_f c_1)
    rw [e]
    exact ⟨m_0, rfl, hp1, rfl⟩
