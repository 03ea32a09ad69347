/-! a byte is taken (written by wip/whole/mkread7.py) -/
set_option maxRecDepth 20000 in
set_option maxHeartbeats 1000000 in
theorem c_take {X : aXt × Value} {mi : Nat → Nat → Int32} {ml : Nat → Nat → Int64} {mr : Nat → Nat → Option Nat} (hM : MRok mr) {n : Nat} (hn : n ≤ 160) (hs : mi 2 0 = nI n) {x : Int32} : aCW X 1 13 [.ref 2, .int x] (HD, mi, ml, mr) (fun r h' => r = some (.int (if n < 160 then 1 else 0)) ∧ h' = (HD, if n < 160 then aup (aup mi 3 n x) 2 0 (nI (n + 1)) else mi, ml, mr)) := by
  refine cw_of (cd := cd_X1_take) (nL := 2) rfl rfl ?_
  show aWP _ _ (0, [some (.ref 2), some (.int x)], [], (HD, mi, ml, mr)) _
  refine wp_steps 1 (t' := (1, [some (.ref 2), some (.int x)], [.ref 2], (HD, mi, ml, mr))) rfl ?_
  refine wp_geti rfl ⟨by decide, rfl⟩ (Or.inl rfl) ?_
  rw [show mi 2 0 = nI n from hs]
  refine wp_bI rfl (fun c_1 => ?_) (fun c_1 => ?_)
  · have c_1 : (nI n) < 0 := of_decide_eq_true c_1
    refine wp_steps 1 (t' := (8, [some (.ref 2), some (.int x)], [.int 0], (HD, mi, ml, mr))) rfl ?_
    refine wp_ret rfl rfl ⟨⟨Nat.le_refl _, Nat.le_refl _⟩, ?_⟩
    exact absurd c_1 (nI_pos (by omega))
  · have c_1 : ¬ ((nI n) < 0) := of_decide_eq_false c_1
    refine wp_steps 1 (t' := (4, [some (.ref 2), some (.int x)], [.ref 2], (HD, mi, ml, mr))) rfl ?_
    refine wp_geti rfl ⟨by decide, rfl⟩ (Or.inl rfl) ?_
    rw [show mi 2 0 = nI n from hs]
    refine wp_steps 1 (t' := (6, [some (.ref 2), some (.int x)], [.int 160, .int (nI n)], (HD, mi, ml, mr))) rfl ?_
    refine wp_bC rfl (fun c_2 => ?_) (fun c_2 => ?_)
    · have c_2 : (nI n) < 160 := of_decide_eq_true c_2
      refine wp_steps 1 (t' := (10, [some (.ref 2), some (.int x)], [.ref 2], (HD, mi, ml, mr))) rfl ?_
      refine wp_getr rfl ⟨by decide, rfl⟩ rfl (hM (2, 1, 3) (by decide)) ?_
      refine wp_steps 1 (t' := (12, [some (.ref 2), some (.int x)], [.ref 2, .ref 3], (HD, mi, ml, mr))) rfl ?_
      refine wp_geti rfl ⟨by decide, rfl⟩ (Or.inl rfl) ?_
      rw [show mi 2 0 = nI n from hs]
      refine wp_steps 1 (t' := (14, [some (.ref 2), some (.int x)], [.int x, .int (nI n), .ref 3], (HD, mi, ml, mr))) rfl ?_
      refine wp_iast rfl ⟨by decide, rfl⟩ (aix_nI (by rcases Nat.lt_or_ge n 160 with z | z; exact z; exact absurd c_2 (nI_nlt z (by omega))) (by decide)) (fun m_3 h_4 => ?_)
      subst h_4
      refine wp_steps 2 (t' := (17, [some (.ref 2), some (.int x)], [.ref 2, .ref 2], (HD, (aup mi 3 (nI n).toNatClampNeg x), ml, mr))) rfl ?_
      refine wp_geti rfl ⟨by decide, rfl⟩ (Or.inl rfl) ?_
      rw [show (aup mi 3 (nI n).toNatClampNeg x) 2 0 = nI n from hs]
      refine wp_steps 2 (t' := (20, [some (.ref 2), some (.int x)], [.int ((nI n) + 1), .ref 2], (HD, (aup mi 3 (nI n).toNatClampNeg x), ml, mr))) rfl ?_
      refine wp_puti rfl ⟨by decide, rfl⟩ rfl (fun m_5 h_6 => ?_)
      subst h_6
      refine wp_steps 1 (t' := (22, [some (.ref 2), some (.int x)], [.int 1], (HD, (aup (aup mi 3 (nI n).toNatClampNeg x) 2 0 ((nI n) + 1)), ml, mr))) rfl ?_
      refine wp_ret rfl rfl ⟨⟨Nat.le_refl _, Nat.le_refl _⟩, ?_⟩
      have q : n < 160 := by
        rcases Nat.lt_or_ge n 160 with z | z
        · exact z
        · exact absurd c_2 (nI_nlt z (by omega))
      exact ⟨by rw [if_pos q], by rw [if_pos q, nI_clamp (by omega), nI_1]⟩
    · have c_2 : ¬ ((nI n) < 160) := of_decide_eq_false c_2
      refine wp_steps 1 (t' := (8, [some (.ref 2), some (.int x)], [.int 0], (HD, mi, ml, mr))) rfl ?_
      refine wp_ret rfl rfl ⟨⟨Nat.le_refl _, Nat.le_refl _⟩, ?_⟩
      have q : ¬ n < 160 := fun q => c_2 (nI_lt q (by decide))
      exact ⟨by rw [if_neg q], by rw [if_neg q]⟩
