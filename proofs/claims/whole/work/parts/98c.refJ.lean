/-! the reference: image, back, count; the first item that is otherwise (written by wip/whole/mkrefJ.py) -/
set_option maxRecDepth 20000 in
set_option maxHeartbeats 1000000 in
theorem r_image {X : aXt × Value} {mi : Nat → Nat → Int32} {ml : Nat → Nat → Int64} {mr : Nat → Nat → Option Nat} (hM : MRok mr) : aCW X 1 206 [.ref 84] (HD, mi, ml, mr) (fun r h' => r = some (.int (mi 84 12)) ∧ ∃ m', h' = (HD, m', ml, mr) ∧ m' 84 34 = mi 84 12 ∧ m' 84 35 = mi 84 7 ∧ m' 84 36 = mi 84 4 ∧ (∀ x j, ¬ (x = 84 ∧ 34 ≤ j ∧ j ≤ 36) → x ≠ 94 → x ≠ 95 → x ≠ 96 → m' x j = mi x j) ∧ (∀ j, j < 8 → m' 94 j = mi 88 j) ∧ (∀ j, j < 5 → m' 95 j = mi 90 j) ∧ (∀ j, j < 50 → m' 96 j = mi 91 j)) := by
  refine cw_of (cd := cd_X7_image) (nL := 2) rfl rfl ?_
  show aWP _ _ (0, [some (.ref 84), none], [], (HD, mi, ml, mr)) _
  refine wp_steps 2 (t' := (2, [some (.ref 84), some (.int 0)], [], (HD, mi, ml, mr))) rfl ?_
  refine l_rimage94 (ml := ml) hM 8 0 mi rfl (fun _ _ _ => rfl) (fun j hj => absurd hj (Nat.not_lt_zero j)) (fun m1 a1 b1 => ?_)
  refine wp_steps 2 (t' := (17, [some (.ref 84), some (.int (nI 0))], [], (HD, m1, ml, mr))) rfl ?_
  refine l_rimage95 (mi := m1) (ml := ml) hM 5 0 m1 rfl (fun _ _ _ => rfl) (fun j hj => absurd hj (Nat.not_lt_zero j)) (fun m2 a2 b2 => ?_)
  refine wp_steps 2 (t' := (32, [some (.ref 84), some (.int (nI 0))], [], (HD, m2, ml, mr))) rfl ?_
  refine l_rimage96 (mi := m2) (ml := ml) hM 50 0 m2 rfl (fun _ _ _ => rfl) (fun j hj => absurd hj (Nat.not_lt_zero j)) (fun m3 a3 b3 => ?_)
  refine wp_steps 2 (t' := (47, [some (.ref 84), some (.int (nI 50))], [.ref 84, .ref 84], (HD, m3, ml, mr))) rfl ?_
  refine wp_geti rfl ⟨by decide, rfl⟩ (Or.inl rfl) ?_
  refine wp_puti rfl ⟨by decide, rfl⟩ rfl (fun m_1 h_2 => ?_)
  subst h_2
  refine wp_steps 2 (t' := (51, [some (.ref 84), some (.int (nI 50))], [.ref 84, .ref 84], (HD, (aup m3 84 34 (m3 84 12)), ml, mr))) rfl ?_
  refine wp_geti rfl ⟨by decide, rfl⟩ (Or.inl rfl) ?_
  refine wp_puti rfl ⟨by decide, rfl⟩ rfl (fun m_3 h_4 => ?_)
  subst h_4
  refine wp_steps 2 (t' := (55, [some (.ref 84), some (.int (nI 50))], [.ref 84, .ref 84], (HD, (aup (aup m3 84 34 (m3 84 12)) 84 35 ((aup m3 84 34 (m3 84 12)) 84 7)), ml, mr))) rfl ?_
  refine wp_geti rfl ⟨by decide, rfl⟩ (Or.inl rfl) ?_
  refine wp_puti rfl ⟨by decide, rfl⟩ rfl (fun m_5 h_6 => ?_)
  subst h_6
  refine wp_steps 1 (t' := (58, [some (.ref 84), some (.int (nI 50))], [.ref 84], (HD, (aup (aup (aup m3 84 34 (m3 84 12)) 84 35 ((aup m3 84 34 (m3 84 12)) 84 7)) 84 36 ((aup (aup m3 84 34 (m3 84 12)) 84 35 ((aup m3 84 34 (m3 84 12)) 84 7)) 84 4)), ml, mr))) rfl ?_
  refine wp_geti rfl ⟨by decide, rfl⟩ (Or.inl rfl) ?_
  refine wp_ret rfl rfl ⟨⟨Nat.le_refl _, Nat.le_refl _⟩, ?_⟩
  refine ⟨?_, _, rfl, ?_, ?_, ?_, fun x j q1 q2 q3 q4 => ?_, fun j hj => ?_, fun j hj => ?_, fun j hj => ?_⟩
  · show some (Value.int (m3 84 12)) = _
    rw [a3 84 12 (by decide), a2 84 12 (by decide), a1 84 12 (by decide)]
  · show m3 84 12 = _
    rw [a3 84 12 (by decide), a2 84 12 (by decide), a1 84 12 (by decide)]
  · show m3 84 7 = _
    rw [a3 84 7 (by decide), a2 84 7 (by decide), a1 84 7 (by decide)]
  · show m3 84 4 = _
    rw [a3 84 4 (by decide), a2 84 4 (by decide), a1 84 4 (by decide)]
  · rw [show mi x j = m3 x j from by rw [a3 x j q4, a2 x j q3, a1 x j q2]]
    by_cases e : x = 84
    · have n1 : ¬ j = 34 := fun z => q1 ⟨e, by omega, by omega⟩
      have n2 : ¬ j = 35 := fun z => q1 ⟨e, by omega, by omega⟩
      have n3 : ¬ j = 36 := fun z => q1 ⟨e, by omega, by omega⟩
      simp [aup, e, n1, n2, n3]
    · simp [aup, e]
  · show m3 94 j = _
    rw [a3 94 j (by decide), a2 94 j (by decide), b1 j hj]
  · show m3 95 j = _
    rw [a3 95 j (by decide), b2 j hj, a1 90 j (by decide)]
  · show m3 96 j = _
    rw [b3 j hj, a2 91 j (by decide), a1 91 j (by decide)]
set_option maxRecDepth 20000 in
set_option maxHeartbeats 1000000 in
theorem r_back_no {X : aXt × Value} {mi : Nat → Nat → Int32} {ml : Nat → Nat → Int64} {mr : Nat → Nat → Option Nat} (hM : MRok mr) (hK : mi 84 34 = -1) : aCW X 1 207 [.ref 84] (HD, mi, ml, mr) (fun r h' => r = some (.int (-3)) ∧ h' = (HD, mi, ml, mr)) := by
  refine cw_of (cd := cd_X7_back) (nL := 2) rfl rfl ?_
  show aWP _ _ (0, [some (.ref 84), none], [], (HD, mi, ml, mr)) _
  refine wp_steps 1 (t' := (1, [some (.ref 84), none], [.ref 84], (HD, mi, ml, mr))) rfl ?_
  refine wp_geti rfl ⟨by decide, rfl⟩ (Or.inl rfl) ?_
  refine wp_steps 1 (t' := (3, [some (.ref 84), none], [.int (-1), .int (mi 84 34)], (HD, mi, ml, mr))) rfl ?_
  refine wp_bC rfl (fun c_1 => ?_) (fun c_1 => ?_)
  · have c_1 : ¬ (mi 84 34) = (-1) := of_decide_eq_true c_1
    exact absurd hK c_1
  have c_1 : (mi 84 34) = (-1) := Decidable.not_not.mp (of_decide_eq_false c_1)
  refine wp_steps 1 (t' := (5, [some (.ref 84), none], [.int (-3)], (HD, mi, ml, mr))) rfl ?_
  refine wp_ret rfl rfl ⟨⟨Nat.le_refl _, Nat.le_refl _⟩, ?_⟩
  exact ⟨rfl, rfl⟩
set_option maxRecDepth 20000 in
set_option maxHeartbeats 1000000 in
theorem r_back_ok {X : aXt × Value} {mi : Nat → Nat → Int32} {ml : Nat → Nat → Int64} {mr : Nat → Nat → Option Nat} (hM : MRok mr) (hK : ¬ mi 84 34 = -1) : aCW X 1 207 [.ref 84] (HD, mi, ml, mr) (fun r h' => r = some (.int (mi 84 34)) ∧ ∃ m', h' = (HD, m', ml, mr) ∧ m' 84 12 = mi 84 34 ∧ m' 84 7 = mi 84 35 ∧ m' 84 4 = mi 84 36 ∧ (∀ x j, ¬ (x = 84 ∧ (j = 12 ∨ j = 7 ∨ j = 4)) → x ≠ 88 → x ≠ 90 → x ≠ 91 → m' x j = mi x j) ∧ (∀ j, j < 8 → m' 88 j = mi 94 j) ∧ (∀ j, j < 5 → m' 90 j = mi 95 j) ∧ (∀ j, j < 50 → m' 91 j = mi 96 j)) := by
  refine cw_of (cd := cd_X7_back) (nL := 2) rfl rfl ?_
  show aWP _ _ (0, [some (.ref 84), none], [], (HD, mi, ml, mr)) _
  refine wp_steps 1 (t' := (1, [some (.ref 84), none], [.ref 84], (HD, mi, ml, mr))) rfl ?_
  refine wp_geti rfl ⟨by decide, rfl⟩ (Or.inl rfl) ?_
  refine wp_steps 1 (t' := (3, [some (.ref 84), none], [.int (-1), .int (mi 84 34)], (HD, mi, ml, mr))) rfl ?_
  refine wp_bC rfl (fun c_1 => ?_) (fun c_1 => ?_)
  rotate_left
  · have c_1 : (mi 84 34) = (-1) := Decidable.not_not.mp (of_decide_eq_false c_1)
    exact absurd c_1 hK
  have c_1 : ¬ (mi 84 34) = (-1) := of_decide_eq_true c_1
  refine wp_steps 2 (t' := (8, [some (.ref 84), some (.int 0)], [], (HD, mi, ml, mr))) rfl ?_
  refine l_rback88 (ml := ml) hM 8 0 mi rfl (fun _ _ _ => rfl) (fun j hj => absurd hj (Nat.not_lt_zero j)) (fun m1 a1 b1 => ?_)
  refine wp_steps 2 (t' := (23, [some (.ref 84), some (.int (nI 0))], [], (HD, m1, ml, mr))) rfl ?_
  refine l_rback90 (mi := m1) (ml := ml) hM 5 0 m1 rfl (fun _ _ _ => rfl) (fun j hj => absurd hj (Nat.not_lt_zero j)) (fun m2 a2 b2 => ?_)
  refine wp_steps 2 (t' := (38, [some (.ref 84), some (.int (nI 0))], [], (HD, m2, ml, mr))) rfl ?_
  refine l_rback91 (mi := m2) (ml := ml) hM 50 0 m2 rfl (fun _ _ _ => rfl) (fun j hj => absurd hj (Nat.not_lt_zero j)) (fun m3 a3 b3 => ?_)
  refine wp_steps 2 (t' := (53, [some (.ref 84), some (.int (nI 50))], [.ref 84, .ref 84], (HD, m3, ml, mr))) rfl ?_
  refine wp_geti rfl ⟨by decide, rfl⟩ (Or.inl rfl) ?_
  refine wp_puti rfl ⟨by decide, rfl⟩ rfl (fun m_1 h_2 => ?_)
  subst h_2
  refine wp_steps 2 (t' := (57, [some (.ref 84), some (.int (nI 50))], [.ref 84, .ref 84], (HD, (aup m3 84 12 (m3 84 34)), ml, mr))) rfl ?_
  refine wp_geti rfl ⟨by decide, rfl⟩ (Or.inl rfl) ?_
  refine wp_puti rfl ⟨by decide, rfl⟩ rfl (fun m_3 h_4 => ?_)
  subst h_4
  refine wp_steps 2 (t' := (61, [some (.ref 84), some (.int (nI 50))], [.ref 84, .ref 84], (HD, (aup (aup m3 84 12 (m3 84 34)) 84 7 ((aup m3 84 12 (m3 84 34)) 84 35)), ml, mr))) rfl ?_
  refine wp_geti rfl ⟨by decide, rfl⟩ (Or.inl rfl) ?_
  refine wp_puti rfl ⟨by decide, rfl⟩ rfl (fun m_5 h_6 => ?_)
  subst h_6
  refine wp_steps 1 (t' := (64, [some (.ref 84), some (.int (nI 50))], [.ref 84], (HD, (aup (aup (aup m3 84 12 (m3 84 34)) 84 7 ((aup m3 84 12 (m3 84 34)) 84 35)) 84 4 ((aup (aup m3 84 12 (m3 84 34)) 84 7 ((aup m3 84 12 (m3 84 34)) 84 35)) 84 36)), ml, mr))) rfl ?_
  refine wp_geti rfl ⟨by decide, rfl⟩ (Or.inl rfl) ?_
  refine wp_ret rfl rfl ⟨⟨Nat.le_refl _, Nat.le_refl _⟩, ?_⟩
  refine ⟨?_, _, rfl, ?_, ?_, ?_, fun x j q1 q2 q3 q4 => ?_, fun j hj => ?_, fun j hj => ?_, fun j hj => ?_⟩
  · show some (Value.int (m3 84 34)) = _
    rw [a3 84 34 (by decide), a2 84 34 (by decide), a1 84 34 (by decide)]
  · show m3 84 34 = _
    rw [a3 84 34 (by decide), a2 84 34 (by decide), a1 84 34 (by decide)]
  · show m3 84 35 = _
    rw [a3 84 35 (by decide), a2 84 35 (by decide), a1 84 35 (by decide)]
  · show m3 84 36 = _
    rw [a3 84 36 (by decide), a2 84 36 (by decide), a1 84 36 (by decide)]
  · rw [show mi x j = m3 x j from by rw [a3 x j q4, a2 x j q3, a1 x j q2]]
    by_cases e : x = 84
    · have n1 : ¬ j = 12 := fun z => q1 ⟨e, by omega⟩
      have n2 : ¬ j = 7 := fun z => q1 ⟨e, by omega⟩
      have n3 : ¬ j = 4 := fun z => q1 ⟨e, by omega⟩
      simp [aup, e, n1, n2, n3]
    · simp [aup, e]
  · show m3 88 j = _
    rw [a3 88 j (by decide), a2 88 j (by decide), b1 j hj]
  · show m3 90 j = _
    rw [a3 90 j (by decide), b2 j hj, a1 95 j (by decide)]
  · show m3 91 j = _
    rw [b3 j hj, a2 96 j (by decide), a1 96 j (by decide)]
set_option maxRecDepth 20000 in
set_option maxHeartbeats 1000000 in
theorem l_rcount {X : aXt × Value} {mi : Nat → Nat → Int32} {ml : Nat → Nat → Int64} {mr : Nat → Nat → Option Nat} (hM : MRok mr) {N : Nat} (hN : mi 84 12 = nI N) (hN5 : N ≤ 5) {w : Int32} {Q : Option Value → aM → Prop} (hk : (aWP (aEx (aTb X) 48) cd_X7_count (45, [some (.ref 84), some (.int w), some (.int (smF (fun p => (puR mi p).2.2.2.1) N)), some (.int (nI N))], [], (HD, mi, ml, mr)) Q)) : ∀ (g k : Nat), k + g = N → aWP (aEx (aTb X) 48) cd_X7_count (30, [some (.ref 84), some (.int w), some (.int (smF (fun p => (puR mi p).2.2.2.1) k)), some (.int (nI k))], [], (HD, mi, ml, mr)) Q := by
  intro g
  induction g with
  | zero =>
    intro k hg
    obtain rfl : k = N := by omega
    refine wp_steps 2 (t' := (32, [some (.ref 84), some (.int w), some (.int (smF (fun p => (puR mi p).2.2.2.1) k)), some (.int (nI k))], [.ref 84, .int (nI k)], (HD, mi, ml, mr))) rfl ?_
    refine wp_geti rfl ⟨by decide, rfl⟩ (Or.inl rfl) ?_
    rw [hN]
    refine wp_bC rfl (fun c_1 => ?_) (fun c_1 => ?_)
    rotate_left
    · have c_1 : ¬ ((nI k) ≤ (nI k)) := of_decide_eq_false c_1
      exact absurd (Int32.le_refl _) c_1
    have c_1 : (nI k) ≤ (nI k) := of_decide_eq_true c_1
    exact hk
  | succ g ih =>
    intro k hg
    refine wp_steps 2 (t' := (32, [some (.ref 84), some (.int w), some (.int (smF (fun p => (puR mi p).2.2.2.1) k)), some (.int (nI k))], [.ref 84, .int (nI k)], (HD, mi, ml, mr))) rfl ?_
    refine wp_geti rfl ⟨by decide, rfl⟩ (Or.inl rfl) ?_
    rw [hN]
    refine wp_bC rfl (fun c_1 => ?_) (fun c_1 => ?_)
    · have c_1 : (nI N) ≤ (nI k) := of_decide_eq_true c_1
      exact absurd c_1 (nI_ge (a := k) (b := N) (by omega) (by omega))
    have c_1 : ¬ ((nI N) ≤ (nI k)) := of_decide_eq_false c_1
    refine wp_steps 2 (t' := (36, [some (.ref 84), some (.int w), some (.int (smF (fun p => (puR mi p).2.2.2.1) k)), some (.int (nI k))], [.ref 84, .int (smF (fun p => (puR mi p).2.2.2.1) k)], (HD, mi, ml, mr))) rfl ?_
    refine wp_getr rfl ⟨by decide, rfl⟩ rfl (hM (84, 11, 91) (by decide)) ?_
    refine wp_steps 2 (t' := (39, [some (.ref 84), some (.int w), some (.int (smF (fun p => (puR mi p).2.2.2.1) k)), some (.int (nI k))], [.int 9, .int (nI k), .ref 91, .int (smF (fun p => (puR mi p).2.2.2.1) k)], (HD, mi, ml, mr))) rfl ?_
    refine wp_cal (as := [.int (nI k), .int 9]) rfl rfl rfl (Nat.le_of_ble_eq_true rfl) ((c_rat_n (p := k) (s := 9))) (by decide) ?_
    rintro _ _ ⟨rfl, rfl⟩
    show aWP _ _ (40, [some (.ref 84), some (.int w), some (.int (smF (fun p => (puR mi p).2.2.2.1) k)), some (.int (nI k))], [.int (nI (10 * k + 9)), .ref 91, .int (smF (fun p => (puR mi p).2.2.2.1) k)], (HD, mi, ml, mr)) _
    refine wp_iald rfl ⟨by decide, rfl⟩ (aix_nI (by omega) (by decide)) ?_
    rw [nI_clamp (n := 10 * k + 9) (by omega)]
    refine wp_steps 4 (t' := (30, [some (.ref 84), some (.int w), some (.int ((smF (fun p => (puR mi p).2.2.2.1) k) + (mi 91 (10 * k + 9)))), some (.int ((nI k) + Int32.ofInt 1))], [], (HD, mi, ml, mr))) rfl ?_
    rw [inc_nI]
    exact ih (k + 1) (by omega)
set_option maxRecDepth 20000 in
set_option maxHeartbeats 1000000 in
theorem r_count {X : aXt × Value} {mi : Nat → Nat → Int32} {ml : Nat → Nat → Int64} {mr : Nat → Nat → Option Nat} (hM : MRok mr) {N : Nat} (hN : mi 84 12 = nI N) (hN5 : N ≤ 5) {c0 c1 c2 : List Int32} (hR : RUX mi c0 c1 c2) {w : Int32} : aCW X 49 208 [.ref 84, .int w] (HD, mi, ml, mr) (qR mi mr (.int (coG (mi 84 12) (mi 84 7) (nI (ryN (fun p => mnG (twR mi c0 c1 c2) (puR mi p)) N)) (smF (fun p => (puR mi p).2.2.2.1) N) (mi 84 3) (mi 84 6) (mi 84 4) w))) := by
  refine cw_of (cd := cd_X7_count) (nL := 4) rfl rfl ?_
  show aWP _ _ (0, [some (.ref 84), some (.int w), none, none], [], (HD, mi, ml, mr)) _
  refine wp_steps 4 (t' := (4, [some (.ref 84), some (.int w), none, none], [.long 6, .long 0, .long w.toInt64], (HD, mi, ml, mr))) rfl ?_
  refine wp_cal (as := [.long w.toInt64, .long 0, .long 6]) rfl rfl rfl (Nat.le_of_ble_eq_true rfl) ((c_in (x := w) (lo := 0) (hi := 6) rfl (by decide) (by decide))) (by decide) ?_
  rintro _ _ ⟨rfl, rfl⟩
  show aWP _ _ (5, [some (.ref 84), some (.int w), none, none], [.int (if inR 0 6 w then (1 : Int32) else 0)], (HD, mi, ml, mr)) _
  refine wp_bI rfl (fun c_1 => ?_) (fun c_1 => ?_)
  · have c_1 : ¬ (if inR 0 6 w then (1 : Int32) else 0) = 0 := of_decide_eq_true c_1
    refine wp_steps 2 (t' := (10, [some (.ref 84), some (.int w), none, none], [.int 3, .int w], (HD, mi, ml, mr))) rfl ?_
    refine wp_bC rfl (fun c_2 => ?_) (fun c_2 => ?_)
    · have c_2 : w ≤ 3 := of_decide_eq_true c_2
      refine wp_steps 4 (t' := (30, [some (.ref 84), some (.int w), some (.int 0), some (.int 0)], [], (HD, mi, ml, mr))) rfl ?_
      refine l_rcount (ml := ml) hM hN hN5 ?_ N 0 (by omega)
      refine wp_steps 1 (t' := (46, [some (.ref 84), some (.int w), some (.int (smF (fun p => (puR mi p).2.2.2.1) N)), some (.int (nI N))], [.int w], (HD, mi, ml, mr))) rfl ?_
      refine wp_bI rfl (fun c_61 => ?_) (fun c_61 => ?_)
      · have c_61 : ¬ w = 0 := of_decide_eq_true c_61
        refine wp_steps 2 (t' := (52, [some (.ref 84), some (.int w), some (.int (smF (fun p => (puR mi p).2.2.2.1) N)), some (.int (nI N))], [.int 1, .int w], (HD, mi, ml, mr))) rfl ?_
        refine wp_bC rfl (fun c_62 => ?_) (fun c_62 => ?_)
        · have c_62 : ¬ w = 1 := of_decide_eq_true c_62
          refine wp_steps 2 (t' := (58, [some (.ref 84), some (.int w), some (.int (smF (fun p => (puR mi p).2.2.2.1) N)), some (.int (nI N))], [.int 2, .int w], (HD, mi, ml, mr))) rfl ?_
          refine wp_bC rfl (fun c_63 => ?_) (fun c_63 => ?_)
          · have c_63 : ¬ w = 2 := of_decide_eq_true c_63
            refine wp_steps 1 (t' := (63, [some (.ref 84), some (.int w), some (.int (smF (fun p => (puR mi p).2.2.2.1) N)), some (.int (nI N))], [.int (smF (fun p => (puR mi p).2.2.2.1) N)], (HD, mi, ml, mr))) rfl ?_
            refine wp_ret rfl rfl ⟨⟨Nat.le_refl _, Nat.le_refl _⟩, ?_⟩
            have q := rI.mp (show inR 0 6 w from (i0_t c_1))
            simp only [show (0 : Int32).toInt = 0 from rfl, show (6 : Int32).toInt = 6 from rfl] at q
            have q3 := c_2
            rw [Int32.le_iff_toInt_le, show (3 : Int32).toInt = 3 from rfl] at q3
            have n0 : ¬ w.toInt = 0 := fun z => c_61 (Int32.toInt_inj.mp z)
            have n1 : ¬ w.toInt = 1 := fun z => c_62 (Int32.toInt_inj.mp z)
            have n2 : ¬ w.toInt = 2 := fun z => c_63 (Int32.toInt_inj.mp z)
            have e : w = 3 := Int32.toInt_inj.mp (show w.toInt = 3 by omega)
            refine ⟨?_, mi, ml, rfl, frQ.rf mi⟩
            rw [e]
            rfl
          · have c_63 : w = 2 := Decidable.not_not.mp (of_decide_eq_false c_63)
            refine wp_steps 1 (t' := (60, [some (.ref 84), some (.int w), some (.int (smF (fun p => (puR mi p).2.2.2.1) N)), some (.int (nI N))], [.ref 84], (HD, mi, ml, mr))) rfl ?_
            refine wp_calv (as := []) rfl rfl rfl (Nat.le_of_ble_eq_true rfl) ⟨by decide, rfl⟩ ((r_ready (ml := ml) hM hN hN5 hR)) (by decide) ?_
            rintro _ _ ⟨rfl, m_1, w_1, rfl, f1⟩
            show aWP _ _ (61, [some (.ref 84), some (.int w), some (.int (smF (fun p => (puR mi p).2.2.2.1) N)), some (.int (nI N))], [.int (nI (ryN (fun p => mnG (twR mi c0 c1 c2) (puR mi p)) N))], (HD, m_1, w_1, mr)) _
            refine wp_steps 1 (t' := (63, [some (.ref 84), some (.int w), some (.int (smF (fun p => (puR mi p).2.2.2.1) N)), some (.int (nI N))], [.int (nI (ryN (fun p => mnG (twR mi c0 c1 c2) (puR mi p)) N))], (HD, m_1, w_1, mr))) rfl ?_
            refine wp_ret rfl rfl ⟨⟨Nat.le_refl _, Nat.le_refl _⟩, ?_⟩
            refine ⟨?_, m_1, w_1, rfl, f1.Q⟩
            rw [show w = 2 from c_63]
            rfl
        · have c_62 : w = 1 := Decidable.not_not.mp (of_decide_eq_false c_62)
          refine wp_steps 1 (t' := (54, [some (.ref 84), some (.int w), some (.int (smF (fun p => (puR mi p).2.2.2.1) N)), some (.int (nI N))], [.ref 84], (HD, mi, ml, mr))) rfl ?_
          refine wp_geti rfl ⟨by decide, rfl⟩ (Or.inl rfl) ?_
          refine wp_steps 1 (t' := (63, [some (.ref 84), some (.int w), some (.int (smF (fun p => (puR mi p).2.2.2.1) N)), some (.int (nI N))], [.int (mi 84 7)], (HD, mi, ml, mr))) rfl ?_
          refine wp_ret rfl rfl ⟨⟨Nat.le_refl _, Nat.le_refl _⟩, ?_⟩
          refine ⟨?_, mi, ml, rfl, frQ.rf mi⟩
          rw [show w = 1 from c_62]
          rfl
      · have c_61 : w = 0 := Decidable.not_not.mp (of_decide_eq_false c_61)
        refine wp_steps 1 (t' := (48, [some (.ref 84), some (.int w), some (.int (smF (fun p => (puR mi p).2.2.2.1) N)), some (.int (nI N))], [.ref 84], (HD, mi, ml, mr))) rfl ?_
        refine wp_geti rfl ⟨by decide, rfl⟩ (Or.inl rfl) ?_
        refine wp_steps 1 (t' := (63, [some (.ref 84), some (.int w), some (.int (smF (fun p => (puR mi p).2.2.2.1) N)), some (.int (nI N))], [.int (mi 84 12)], (HD, mi, ml, mr))) rfl ?_
        refine wp_ret rfl rfl ⟨⟨Nat.le_refl _, Nat.le_refl _⟩, ?_⟩
        refine ⟨?_, mi, ml, rfl, frQ.rf mi⟩
        rw [show w = 0 from c_61]
        rfl
    · have c_2 : ¬ (w ≤ 3) := of_decide_eq_false c_2
      refine wp_steps 2 (t' := (13, [some (.ref 84), some (.int w), none, none], [.int 4, .int w], (HD, mi, ml, mr))) rfl ?_
      refine wp_bC rfl (fun c_3 => ?_) (fun c_3 => ?_)
      · have c_3 : ¬ w = 4 := of_decide_eq_true c_3
        refine wp_steps 2 (t' := (19, [some (.ref 84), some (.int w), none, none], [.int 5, .int w], (HD, mi, ml, mr))) rfl ?_
        refine wp_bC rfl (fun c_4 => ?_) (fun c_4 => ?_)
        · have c_4 : ¬ w = 5 := of_decide_eq_true c_4
          refine wp_steps 1 (t' := (24, [some (.ref 84), some (.int w), none, none], [.ref 84], (HD, mi, ml, mr))) rfl ?_
          refine wp_geti rfl ⟨by decide, rfl⟩ (Or.inl rfl) ?_
          refine wp_ret rfl rfl ⟨⟨Nat.le_refl _, Nat.le_refl _⟩, ?_⟩
          have q := rI.mp (show inR 0 6 w from (i0_t c_1))
          simp only [show (0 : Int32).toInt = 0 from rfl, show (6 : Int32).toInt = 6 from rfl] at q
          have q3 := c_2
          rw [Int32.le_iff_toInt_le, show (3 : Int32).toInt = 3 from rfl] at q3
          have n4 : ¬ w.toInt = 4 := fun z => c_3 (Int32.toInt_inj.mp z)
          have n5 : ¬ w.toInt = 5 := fun z => c_4 (Int32.toInt_inj.mp z)
          have e : w = 6 := Int32.toInt_inj.mp (show w.toInt = 6 by omega)
          refine ⟨?_, mi, ml, rfl, frQ.rf mi⟩
          rw [e]
          rfl
        · have c_4 : w = 5 := Decidable.not_not.mp (of_decide_eq_false c_4)
          refine wp_steps 1 (t' := (21, [some (.ref 84), some (.int w), none, none], [.ref 84], (HD, mi, ml, mr))) rfl ?_
          refine wp_geti rfl ⟨by decide, rfl⟩ (Or.inl rfl) ?_
          refine wp_steps 1 (t' := (25, [some (.ref 84), some (.int w), none, none], [.int (mi 84 6)], (HD, mi, ml, mr))) rfl ?_
          refine wp_ret rfl rfl ⟨⟨Nat.le_refl _, Nat.le_refl _⟩, ?_⟩
          refine ⟨?_, mi, ml, rfl, frQ.rf mi⟩
          rw [show w = 5 from c_4]
          rfl
      · have c_3 : w = 4 := Decidable.not_not.mp (of_decide_eq_false c_3)
        refine wp_steps 1 (t' := (15, [some (.ref 84), some (.int w), none, none], [.ref 84], (HD, mi, ml, mr))) rfl ?_
        refine wp_geti rfl ⟨by decide, rfl⟩ (Or.inl rfl) ?_
        refine wp_steps 1 (t' := (25, [some (.ref 84), some (.int w), none, none], [.int (mi 84 3)], (HD, mi, ml, mr))) rfl ?_
        refine wp_ret rfl rfl ⟨⟨Nat.le_refl _, Nat.le_refl _⟩, ?_⟩
        refine ⟨?_, mi, ml, rfl, frQ.rf mi⟩
        rw [show w = 4 from c_3]
        rfl
  · have c_1 : (if inR 0 6 w then (1 : Int32) else 0) = 0 := Decidable.not_not.mp (of_decide_eq_false c_1)
    refine wp_steps 1 (t' := (7, [some (.ref 84), some (.int w), none, none], [.int (-2)], (HD, mi, ml, mr))) rfl ?_
    refine wp_ret rfl rfl ⟨⟨Nat.le_refl _, Nat.le_refl _⟩, ?_⟩
    have q := (show ¬ (inR 0 6 w) from fun z => (i0_f c_1) z)
    rw [rI] at q
    simp only [show (0 : Int32).toInt = 0 from rfl, show (6 : Int32).toInt = 6 from rfl] at q
    have ne : ∀ k : Int32, 0 ≤ k.toInt → k.toInt ≤ 6 → ¬ w = k := fun k a b z => q (by rw [z]; exact ⟨a, b⟩)
    refine ⟨?_, mi, ml, rfl, frQ.rf mi⟩
    unfold coG
    rw [if_neg (ne 0 (by decide) (by decide)), if_neg (ne 1 (by decide) (by decide)), if_neg (ne 2 (by decide) (by decide)), if_neg (ne 3 (by decide) (by decide)), if_neg (ne 4 (by decide) (by decide)), if_neg (ne 5 (by decide) (by decide)), if_neg (ne 6 (by decide) (by decide))]
set_option maxRecDepth 20000 in
set_option maxHeartbeats 1000000 in
theorem l_rfirst {X : aXt × Value} {mr : Nat → Nat → Option Nat} (hM : MRok mr) {c0 c1 c2 : List Int32} {p : Nat} (hp5 : p < 5) {mi ma : Nat → Nat → Int32} {s Z : Nat} (hs4 : s < 4) (hz : mi 99 s = nI Z) (hZ : Z ≤ 40) (a1 : ASD p mi ma) {x hp : Int32} (hx : aixn x 8 = true) {t : tW} {Q : Option Value → aM → Prop} : ∀ (g k : Nat) (m : Nat → Nat → Int32) (w : Nat → Nat → Int64) (u : pU), k + g = Z → WY p c0 c1 c2 ma m t u → (∀ m' w' f' t' u' k', f' = foL t x.toNatClampNeg hp (fun j => mi 100 (40 * s + j)) g k u → WY p c0 c1 c2 ma m' t' u' → aWP (aEx (aTb X) 47) cd_X7_firstOther (42, [some (.ref 84), some (.int (nI s)), some (.int (nI p)), some (.int x), some (.int hp), some (.int f'), some (.int k')], [], (HD, m', w', mr)) Q) → aWP (aEx (aTb X) 47) cd_X7_firstOther (7, [some (.ref 84), some (.int (nI s)), some (.int (nI p)), some (.int x), some (.int hp), some (.int (-1)), some (.int (nI k))], [], (HD, m, w, mr)) Q := by
  intro g
  induction g with
  | zero =>
    intro k m w u hg h hk
    obtain rfl : k = Z := by omega
    refine wp_steps 2 (t' := (9, [some (.ref 84), some (.int (nI s)), some (.int (nI p)), some (.int x), some (.int hp), some (.int (-1)), some (.int (nI k))], [.ref 84, .int (nI k)], (HD, m, w, mr))) rfl ?_
    refine wp_getr rfl ⟨by decide, rfl⟩ rfl (hM (84, 39, 99) (by decide)) ?_
    refine wp_steps 1 (t' := (11, [some (.ref 84), some (.int (nI s)), some (.int (nI p)), some (.int x), some (.int hp), some (.int (-1)), some (.int (nI k))], [.int (nI s), .ref 99, .int (nI k)], (HD, m, w, mr))) rfl ?_
    refine wp_iald rfl ⟨by decide, rfl⟩ (aix_nI hs4 (by decide)) ?_
    rw [nI_clamp (n := s) (by omega)]
    rw [show m 99 s = nI k from ((h.1 99 s (by omega) (by omega)).trans (a1.1 99 s (by decide) (by omega))).trans hz]
    refine wp_bC rfl (fun c_1 => ?_) (fun c_1 => ?_)
    rotate_left
    · have c_1 : ¬ ((nI k) ≤ (nI k)) := of_decide_eq_false c_1
      exact absurd (Int32.le_refl _) c_1
    have c_1 : (nI k) ≤ (nI k) := of_decide_eq_true c_1
    exact hk m w _ t u _ rfl h
  | succ g ih =>
    intro k m w u hg h hk
    have hkz : k < Z := by omega
    refine wp_steps 2 (t' := (9, [some (.ref 84), some (.int (nI s)), some (.int (nI p)), some (.int x), some (.int hp), some (.int (-1)), some (.int (nI k))], [.ref 84, .int (nI k)], (HD, m, w, mr))) rfl ?_
    refine wp_getr rfl ⟨by decide, rfl⟩ rfl (hM (84, 39, 99) (by decide)) ?_
    refine wp_steps 1 (t' := (11, [some (.ref 84), some (.int (nI s)), some (.int (nI p)), some (.int x), some (.int hp), some (.int (-1)), some (.int (nI k))], [.int (nI s), .ref 99, .int (nI k)], (HD, m, w, mr))) rfl ?_
    refine wp_iald rfl ⟨by decide, rfl⟩ (aix_nI hs4 (by decide)) ?_
    rw [nI_clamp (n := s) (by first | omega | (have := hx8; omega))]
    rw [show m 99 s = nI Z from ((h.1 99 s (by omega) (by omega)).trans (a1.1 99 s (by decide) (by omega))).trans hz]
    refine wp_bC rfl (fun c_1 => ?_) (fun c_1 => ?_)
    · have c_1 : (nI Z) ≤ (nI k) := of_decide_eq_true c_1
      exact absurd c_1 (nI_ge (a := k) (b := Z) hkz (by omega))
    have c_1 : ¬ ((nI Z) ≤ (nI k)) := of_decide_eq_false c_1
    refine wp_steps 2 (t' := (15, [some (.ref 84), some (.int (nI s)), some (.int (nI p)), some (.int x), some (.int hp), some (.int (-1)), some (.int (nI k))], [.int (-1), .int (-1)], (HD, m, w, mr))) rfl ?_
    refine wp_bC rfl (fun c_2 => ?_) (fun c_2 => ?_)
    · have c_2 : ¬ (-1 : Int32) = (-1) := of_decide_eq_true c_2
      exact absurd c_2 (by decide)
    have c_2 : (-1 : Int32) = (-1) := Decidable.not_not.mp (of_decide_eq_false c_2)
    refine wp_steps 4 (t' := (20, [some (.ref 84), some (.int (nI s)), some (.int (nI p)), some (.int x), some (.int hp), some (.int (-1)), some (.int (nI k))], [.int hp, .int x, .int (nI p), .ref 84], (HD, m, w, mr))) rfl ?_
    refine wp_calv (as := [.int (nI p), .int x, .int hp]) rfl rfl rfl (Nat.le_of_ble_eq_true rfl) ⟨by decide, rfl⟩ ((y_hour (w := w) (hp := hp) hM hp5 h hx)) (by decide) ?_
    rintro _ _ ⟨rfl, m_1, w_1, rfl, h1⟩
    have hx8 := (aix_out hx).2
    show aWP _ _ (21, [some (.ref 84), some (.int (nI s)), some (.int (nI p)), some (.int x), some (.int hp), some (.int (-1)), some (.int (nI k))], [], (HD, m_1, w_1, mr)) _
    refine wp_steps 1 (t' := (22, [some (.ref 84), some (.int (nI s)), some (.int (nI p)), some (.int x), some (.int hp), some (.int (-1)), some (.int (nI k))], [.ref 84], (HD, m_1, w_1, mr))) rfl ?_
    refine wp_getr rfl ⟨by decide, rfl⟩ rfl (hM (84, 11, 91) (by decide)) ?_
    refine wp_steps 2 (t' := (25, [some (.ref 84), some (.int (nI s)), some (.int (nI p)), some (.int x), some (.int hp), some (.int (-1)), some (.int (nI k))], [.int x, .int (nI p), .ref 91], (HD, m_1, w_1, mr))) rfl ?_
    refine wp_cal (as := [.int (nI p), .int x]) rfl rfl rfl (Nat.le_of_ble_eq_true rfl) ((c_rat_i (mi := m_1) (ml := w_1) hx)) (by decide) ?_
    rintro _ _ ⟨rfl, rfl⟩
    show aWP _ _ (26, [some (.ref 84), some (.int (nI s)), some (.int (nI p)), some (.int x), some (.int hp), some (.int (-1)), some (.int (nI k))], [.int (nI (10 * p + x.toNatClampNeg)), .ref 91], (HD, m_1, w_1, mr)) _
    refine wp_iald rfl ⟨by decide, rfl⟩ (aix_nI (by first | omega | (have := hx8; omega)) (by decide)) ?_
    rw [nI_clamp (n := 10 * p + x.toNatClampNeg) (by first | omega | (have := hx8; omega))]
    rw [show m_1 91 (10 * p + x.toNatClampNeg) = (hrG t u x.toNatClampNeg hp).2.2.2.2 x.toNatClampNeg from by rw [← h1.2.1]; exact sk_R hx8]
    refine wp_steps 1 (t' := (28, [some (.ref 84), some (.int (nI s)), some (.int (nI p)), some (.int x), some (.int hp), some (.int (-1)), some (.int (nI k))], [.ref 84, .int ((hrG t u x.toNatClampNeg hp).2.2.2.2 x.toNatClampNeg)], (HD, m_1, w_1, mr))) rfl ?_
    refine wp_getr rfl ⟨by decide, rfl⟩ rfl (hM (84, 40, 100) (by decide)) ?_
    refine wp_steps 3 (t' := (32, [some (.ref 84), some (.int (nI s)), some (.int (nI p)), some (.int x), some (.int hp), some (.int (-1)), some (.int (nI k))], [.int (40 * (nI s)), .ref 100, .int ((hrG t u x.toNatClampNeg hp).2.2.2.2 x.toNatClampNeg)], (HD, m_1, w_1, mr))) rfl ?_
    rw [show (40 : Int32) * nI s = nI (40 * s) from (Int32.ofNat_mul 40 s).symm]
    refine wp_steps 2 (t' := (34, [some (.ref 84), some (.int (nI s)), some (.int (nI p)), some (.int x), some (.int hp), some (.int (-1)), some (.int (nI k))], [.int ((nI (40 * s)) + (nI k)), .ref 100, .int ((hrG t u x.toNatClampNeg hp).2.2.2.2 x.toNatClampNeg)], (HD, m_1, w_1, mr))) rfl ?_
    rw [nI_add]
    refine wp_iald rfl ⟨by decide, rfl⟩ (aix_nI (by first | omega | (have := hx8; omega)) (by decide)) ?_
    rw [nI_clamp (n := 40 * s + k) (by first | omega | (have := hx8; omega))]
    rw [show m_1 100 (40 * s + k) = mi 100 (40 * s + k) from (h1.1 100 _ (by omega) (by omega)).trans (a1.1 100 _ (by decide) (by omega))]
    refine wp_bC rfl (fun c_3 => ?_) (fun c_3 => ?_)
    · have c_3 : ¬ ((hrG t u x.toNatClampNeg hp).2.2.2.2 x.toNatClampNeg) = (mi 100 (40 * s + k)) := of_decide_eq_true c_3
      refine wp_steps 4 (t' := (7, [some (.ref 84), some (.int (nI s)), some (.int (nI p)), some (.int x), some (.int hp), some (.int (nI k)), some (.int ((nI k) + Int32.ofInt 1))], [], (HD, m_1, w_1, mr))) rfl ?_
      have e : foL t x.toNatClampNeg hp (fun j => mi 100 (40 * s + j)) (g + 1) k u = nI k := if_neg (fun z => c_3 z.symm)
      rw [inc_nI]
      refine wp_steps 2 (t' := (9, [some (.ref 84), some (.int (nI s)), some (.int (nI p)), some (.int x), some (.int hp), some (.int (nI k)), some (.int (nI (k + 1)))], [.ref 84, .int (nI (k + 1))], (HD, m_1, w_1, mr))) rfl ?_
      refine wp_getr rfl ⟨by decide, rfl⟩ rfl (hM (84, 39, 99) (by decide)) ?_
      refine wp_steps 1 (t' := (11, [some (.ref 84), some (.int (nI s)), some (.int (nI p)), some (.int x), some (.int hp), some (.int (nI k)), some (.int (nI (k + 1)))], [.int (nI s), .ref 99, .int (nI (k + 1))], (HD, m_1, w_1, mr))) rfl ?_
      refine wp_iald rfl ⟨by decide, rfl⟩ (aix_nI hs4 (by decide)) ?_
      rw [nI_clamp (n := s) (by omega)]
      rw [show m_1 99 s = nI Z from ((h1.1 99 s (by omega) (by omega)).trans (a1.1 99 s (by decide) (by omega))).trans hz]
      refine wp_bC rfl (fun c_81 => ?_) (fun c_81 => ?_)
      · have c_81 : (nI Z) ≤ (nI (k + 1)) := of_decide_eq_true c_81
        exact hk m_1 w_1 _ t _ _ e.symm h1
      · have c_81 : ¬ ((nI Z) ≤ (nI (k + 1))) := of_decide_eq_false c_81
        refine wp_steps 2 (t' := (15, [some (.ref 84), some (.int (nI s)), some (.int (nI p)), some (.int x), some (.int hp), some (.int (nI k)), some (.int (nI (k + 1)))], [.int (-1), .int (nI k)], (HD, m_1, w_1, mr))) rfl ?_
        refine wp_bC rfl (fun c_82 => ?_) (fun c_82 => ?_)
        rotate_left
        · have c_82 : (nI k) = (-1) := Decidable.not_not.mp (of_decide_eq_false c_82)
          exact absurd (show (0 : Int32) ≤ -1 from c_82 ▸ nI_pos' (show k < 2 ^ 31 by omega)) (by decide)
        have c_82 : ¬ (nI k) = (-1) := of_decide_eq_true c_82
        exact hk m_1 w_1 _ t _ _ e.symm h1
    · have c_3 : ((hrG t u x.toNatClampNeg hp).2.2.2.2 x.toNatClampNeg) = (mi 100 (40 * s + k)) := Decidable.not_not.mp (of_decide_eq_false c_3)
      refine wp_steps 5 (t' := (7, [some (.ref 84), some (.int (nI s)), some (.int (nI p)), some (.int x), some (.int hp), some (.int (-1)), some (.int ((nI k) + Int32.ofInt 1))], [], (HD, m_1, w_1, mr))) rfl ?_
      have e : foL t x.toNatClampNeg hp (fun j => mi 100 (40 * s + j)) (g + 1) k u = foL t x.toNatClampNeg hp (fun j => mi 100 (40 * s + j)) g (k + 1) (hrG t u x.toNatClampNeg hp) := if_pos c_3.symm
      rw [e] at hk
      rw [inc_nI]
      exact ih (k + 1) m_1 w_1 _ (by omega) h1 hk
set_option maxRecDepth 20000 in
set_option maxHeartbeats 1000000 in
theorem r_first {X : aXt × Value} {mi : Nat → Nat → Int32} {ml : Nat → Nat → Int64} {mr : Nat → Nat → Option Nat} (hM : MRok mr) {c0 c1 c2 : List Int32} (hR : RUX mi c0 c1 c2) {p : Nat} (hp5 : p < 5) (hok : okU (puR mi p)) {s Z : Nat} (hs4 : s < 4) (hz : mi 99 s = nI Z) (hZ : Z ≤ 40) {x hp : Int32} (hx : aixn x 8 = true) : aCW X 48 198 [.ref 84, .int (nI s), .int (nI p), .int x, .int hp] (HD, mi, ml, mr) (qR mi mr (.int (foL (twR mi c0 c1 c2) x.toNatClampNeg hp (fun j => mi 100 (40 * s + j)) Z 0 (puR mi p)))) := by
  refine cw_of (cd := cd_X7_firstOther) (nL := 7) rfl rfl ?_
  show aWP _ _ (0, [some (.ref 84), some (.int (nI s)), some (.int (nI p)), some (.int x), some (.int hp), none, none], [], (HD, mi, ml, mr)) _
  refine wp_steps 4 (t' := (4, [some (.ref 84), some (.int (nI s)), some (.int (nI p)), some (.int x), some (.int hp), some (.int (-1)), none], [.int (nI p), .ref 84], (HD, mi, ml, mr))) rfl ?_
  refine wp_calv (as := [.int (nI p)]) rfl rfl rfl (Nat.le_of_ble_eq_true rfl) ⟨by decide, rfl⟩ ((r_aside (mi := mi) (ml := ml) hM hp5)) (by decide) ?_
  rintro _ _ ⟨rfl, m_1, rfl, a1⟩
  show aWP _ _ (5, [some (.ref 84), some (.int (nI s)), some (.int (nI p)), some (.int x), some (.int hp), some (.int (-1)), none], [], (HD, m_1, ml, mr)) _
  refine wp_steps 2 (t' := (7, [some (.ref 84), some (.int (nI s)), some (.int (nI p)), some (.int x), some (.int hp), some (.int (-1)), some (.int 0)], [], (HD, m_1, ml, mr))) rfl ?_
  refine l_rfirst hM hp5 hs4 hz hZ a1 hx Z 0 m_1 ml _ (by omega) (WY.of a1 hR hok) (fun m' w' f' t' u' k' e h4 => ?_)
  refine wp_steps 2 (t' := (44, [some (.ref 84), some (.int (nI s)), some (.int (nI p)), some (.int x), some (.int hp), some (.int f'), some (.int k')], [.int (nI p), .ref 84], (HD, m', w', mr))) rfl ?_
  refine wp_calv (as := [.int (nI p)]) rfl rfl rfl (Nat.le_of_ble_eq_true rfl) ⟨by decide, rfl⟩ ((r_back (mi := m') (ml := w') hM hp5)) (by decide) ?_
  rintro _ _ ⟨rfl, m_4, rfl, b4⟩
  show aWP _ _ (45, [some (.ref 84), some (.int (nI s)), some (.int (nI p)), some (.int x), some (.int hp), some (.int f'), some (.int k')], [], (HD, m_4, w', mr)) _
  refine wp_steps 1 (t' := (46, [some (.ref 84), some (.int (nI s)), some (.int (nI p)), some (.int x), some (.int hp), some (.int f'), some (.int k')], [.int f'], (HD, m_4, w', mr))) rfl ?_
  refine wp_ret rfl rfl ⟨⟨Nat.le_refl _, Nat.le_refl _⟩, ?_⟩
  exact ⟨by rw [e], m_4, w', rfl, abq a1 h4.1 b4⟩
