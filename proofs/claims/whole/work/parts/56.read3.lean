/-! a word is read (written by wip/whole/mkread3.py) -/
set_option maxRecDepth 20000 in
set_option maxHeartbeats 1000000 in
theorem c_reads1 {X : aXt × Value} {mi : Nat → Nat → Int32} {ml : Nat → Nat → Int64} {mr : Nat → Nat → Option Nat} (hM : MRok mr) {n : Nat} (hn : n ≤ 160) (hs : mi 2 0 = nI n) (hX : outOK X) {a e : Nat} (hae : a ≤ e) (hl : e ≤ 170) (he4 : mi 2 4 = nI a) (he5 : mi 2 5 = nI e) : aCW X 5 29 [.ref 2, .ref (aSTR + 1)] (HD, mi, ml, mr) (rdI mi ml mr (wdF (byN (mi 3) n) a e [115, 107, 105, 108, 108])) := by
  refine cw_of (cd := cd_X1_reads) (nL := 3) rfl rfl ?_
  show aWP _ _ (0, [some (.ref 2), some (.ref (aSTR + 1)), none], [], (HD, mi, ml, mr)) _
  refine wp_steps 1 (t' := (1, [some (.ref 2), some (.ref (aSTR + 1)), none], [.ref 2], (HD, mi, ml, mr))) rfl ?_
  refine wp_geti rfl ⟨by decide, rfl⟩ (Or.inl rfl) ?_
  rw [he5]
  refine wp_steps 1 (t' := (3, [some (.ref 2), some (.ref (aSTR + 1)), none], [.ref 2, .int (nI e)], (HD, mi, ml, mr))) rfl ?_
  refine wp_geti rfl ⟨by decide, rfl⟩ (Or.inl rfl) ?_
  rw [he4]
  refine wp_steps 1 (t' := (5, [some (.ref 2), some (.ref (aSTR + 1)), none], [.int ((nI e) - (nI a))], (HD, mi, ml, mr))) rfl ?_
  rw [nI_sb hae]
  refine wp_steps 1 (t' := (6, [some (.ref 2), some (.ref (aSTR + 1)), none], [.ref (aSTR + 1), .int (nI (e - a))], (HD, mi, ml, mr))) rfl ?_
  refine wp_calt (as := []) rfl rfl rfl (Nat.le_of_ble_eq_true rfl) (by decide) (c_len1) (by decide) ?_
  rintro _ _ ⟨rfl, rfl⟩
  show aWP _ _ (7, [some (.ref 2), some (.ref (aSTR + 1)), none], [.int 5, .int (nI (e - a))], (HD, mi, ml, mr)) _
  refine wp_bC rfl (fun c_1 => ?_) (fun c_1 => ?_)
  · have c_1 : (nI (e - a)) = 5 := of_decide_eq_true c_1
    refine wp_steps 4 (t' := (14, [some (.ref 2), some (.ref (aSTR + 1)), some (.int 0)], [.ref (aSTR + 1), .int 0], (HD, mi, ml, mr))) rfl ?_
    refine wp_calt (as := []) rfl rfl rfl (Nat.le_of_ble_eq_true rfl) (by decide) (c_len1) (by decide) ?_
    rintro _ _ ⟨rfl, rfl⟩
    show aWP _ _ (15, [some (.ref 2), some (.ref (aSTR + 1)), some (.int 0)], [.int 5, .int 0], (HD, mi, ml, mr)) _
    refine wp_bC rfl (fun c_2 => ?_) (fun c_2 => ?_)
    · have c_2 : 5 ≤ 0 := of_decide_eq_true c_2
      exact absurd c_2 (by decide)
    have c_2 : ¬ (5 ≤ 0) := of_decide_eq_false c_2
    refine wp_steps 2 (t' := (18, [some (.ref 2), some (.ref (aSTR + 1)), some (.int 0)], [.ref 2, .ref 2], (HD, mi, ml, mr))) rfl ?_
    refine wp_geti rfl ⟨by decide, rfl⟩ (Or.inl rfl) ?_
    rw [he4]
    refine wp_steps 2 (t' := (21, [some (.ref 2), some (.ref (aSTR + 1)), some (.int 0)], [.int ((nI a) + 0), .ref 2], (HD, mi, ml, mr))) rfl ?_
    rw [show nI a + 0 = nI (a + 0) from nI_add a 0]
    refine wp_calv (as := [.int (nI (a + 0))]) rfl rfl rfl (Nat.le_of_ble_eq_true rfl) ⟨by decide, rfl⟩ (c_byteAt hM hn hs (p := a + 0) (by omega)) (by decide) ?_
    rintro _ _ ⟨rfl, rfl⟩
    show aWP _ _ (22, [some (.ref 2), some (.ref (aSTR + 1)), some (.int 0)], [.int (byN (mi 3) n (a + 0))], (HD, mi, ml, mr)) _
    refine wp_steps 2 (t' := (24, [some (.ref 2), some (.ref (aSTR + 1)), some (.int 0)], [.int 0, .ref (aSTR + 1), .int (byN (mi 3) n (a + 0))], (HD, mi, ml, mr))) rfl ?_
    refine wp_calt (as := [.int 0]) rfl rfl rfl (Nat.le_of_ble_eq_true rfl) (by decide) (c_chr1_0 hX) (by decide) ?_
    rintro _ _ ⟨rfl, rfl⟩
    show aWP _ _ (25, [some (.ref 2), some (.ref (aSTR + 1)), some (.int 0)], [.int 115, .int (byN (mi 3) n (a + 0))], (HD, mi, ml, mr)) _
    refine wp_bC rfl (fun c_3 => ?_) (fun c_3 => ?_)
    · have c_3 : (byN (mi 3) n (a + 0)) = 115 := of_decide_eq_true c_3
      refine wp_steps 4 (t' := (14, [some (.ref 2), some (.ref (aSTR + 1)), some (.int 1)], [.ref (aSTR + 1), .int 1], (HD, mi, ml, mr))) rfl ?_
      refine wp_calt (as := []) rfl rfl rfl (Nat.le_of_ble_eq_true rfl) (by decide) (c_len1) (by decide) ?_
      rintro _ _ ⟨rfl, rfl⟩
      show aWP _ _ (15, [some (.ref 2), some (.ref (aSTR + 1)), some (.int 1)], [.int 5, .int 1], (HD, mi, ml, mr)) _
      refine wp_bC rfl (fun c_4 => ?_) (fun c_4 => ?_)
      · have c_4 : 5 ≤ 1 := of_decide_eq_true c_4
        exact absurd c_4 (by decide)
      have c_4 : ¬ (5 ≤ 1) := of_decide_eq_false c_4
      refine wp_steps 2 (t' := (18, [some (.ref 2), some (.ref (aSTR + 1)), some (.int 1)], [.ref 2, .ref 2], (HD, mi, ml, mr))) rfl ?_
      refine wp_geti rfl ⟨by decide, rfl⟩ (Or.inl rfl) ?_
      rw [he4]
      refine wp_steps 2 (t' := (21, [some (.ref 2), some (.ref (aSTR + 1)), some (.int 1)], [.int ((nI a) + 1), .ref 2], (HD, mi, ml, mr))) rfl ?_
      rw [show nI a + 1 = nI (a + 1) from nI_add a 1]
      refine wp_calv (as := [.int (nI (a + 1))]) rfl rfl rfl (Nat.le_of_ble_eq_true rfl) ⟨by decide, rfl⟩ (c_byteAt hM hn hs (p := a + 1) (by omega)) (by decide) ?_
      rintro _ _ ⟨rfl, rfl⟩
      show aWP _ _ (22, [some (.ref 2), some (.ref (aSTR + 1)), some (.int 1)], [.int (byN (mi 3) n (a + 1))], (HD, mi, ml, mr)) _
      refine wp_steps 2 (t' := (24, [some (.ref 2), some (.ref (aSTR + 1)), some (.int 1)], [.int 1, .ref (aSTR + 1), .int (byN (mi 3) n (a + 1))], (HD, mi, ml, mr))) rfl ?_
      refine wp_calt (as := [.int 1]) rfl rfl rfl (Nat.le_of_ble_eq_true rfl) (by decide) (c_chr1_1 hX) (by decide) ?_
      rintro _ _ ⟨rfl, rfl⟩
      show aWP _ _ (25, [some (.ref 2), some (.ref (aSTR + 1)), some (.int 1)], [.int 107, .int (byN (mi 3) n (a + 1))], (HD, mi, ml, mr)) _
      refine wp_bC rfl (fun c_5 => ?_) (fun c_5 => ?_)
      · have c_5 : (byN (mi 3) n (a + 1)) = 107 := of_decide_eq_true c_5
        refine wp_steps 4 (t' := (14, [some (.ref 2), some (.ref (aSTR + 1)), some (.int 2)], [.ref (aSTR + 1), .int 2], (HD, mi, ml, mr))) rfl ?_
        refine wp_calt (as := []) rfl rfl rfl (Nat.le_of_ble_eq_true rfl) (by decide) (c_len1) (by decide) ?_
        rintro _ _ ⟨rfl, rfl⟩
        show aWP _ _ (15, [some (.ref 2), some (.ref (aSTR + 1)), some (.int 2)], [.int 5, .int 2], (HD, mi, ml, mr)) _
        refine wp_bC rfl (fun c_6 => ?_) (fun c_6 => ?_)
        · have c_6 : 5 ≤ 2 := of_decide_eq_true c_6
          exact absurd c_6 (by decide)
        have c_6 : ¬ (5 ≤ 2) := of_decide_eq_false c_6
        refine wp_steps 2 (t' := (18, [some (.ref 2), some (.ref (aSTR + 1)), some (.int 2)], [.ref 2, .ref 2], (HD, mi, ml, mr))) rfl ?_
        refine wp_geti rfl ⟨by decide, rfl⟩ (Or.inl rfl) ?_
        rw [he4]
        refine wp_steps 2 (t' := (21, [some (.ref 2), some (.ref (aSTR + 1)), some (.int 2)], [.int ((nI a) + 2), .ref 2], (HD, mi, ml, mr))) rfl ?_
        rw [show nI a + 2 = nI (a + 2) from nI_add a 2]
        refine wp_calv (as := [.int (nI (a + 2))]) rfl rfl rfl (Nat.le_of_ble_eq_true rfl) ⟨by decide, rfl⟩ (c_byteAt hM hn hs (p := a + 2) (by omega)) (by decide) ?_
        rintro _ _ ⟨rfl, rfl⟩
        show aWP _ _ (22, [some (.ref 2), some (.ref (aSTR + 1)), some (.int 2)], [.int (byN (mi 3) n (a + 2))], (HD, mi, ml, mr)) _
        refine wp_steps 2 (t' := (24, [some (.ref 2), some (.ref (aSTR + 1)), some (.int 2)], [.int 2, .ref (aSTR + 1), .int (byN (mi 3) n (a + 2))], (HD, mi, ml, mr))) rfl ?_
        refine wp_calt (as := [.int 2]) rfl rfl rfl (Nat.le_of_ble_eq_true rfl) (by decide) (c_chr1_2 hX) (by decide) ?_
        rintro _ _ ⟨rfl, rfl⟩
        show aWP _ _ (25, [some (.ref 2), some (.ref (aSTR + 1)), some (.int 2)], [.int 105, .int (byN (mi 3) n (a + 2))], (HD, mi, ml, mr)) _
        refine wp_bC rfl (fun c_7 => ?_) (fun c_7 => ?_)
        · have c_7 : (byN (mi 3) n (a + 2)) = 105 := of_decide_eq_true c_7
          refine wp_steps 4 (t' := (14, [some (.ref 2), some (.ref (aSTR + 1)), some (.int 3)], [.ref (aSTR + 1), .int 3], (HD, mi, ml, mr))) rfl ?_
          refine wp_calt (as := []) rfl rfl rfl (Nat.le_of_ble_eq_true rfl) (by decide) (c_len1) (by decide) ?_
          rintro _ _ ⟨rfl, rfl⟩
          show aWP _ _ (15, [some (.ref 2), some (.ref (aSTR + 1)), some (.int 3)], [.int 5, .int 3], (HD, mi, ml, mr)) _
          refine wp_bC rfl (fun c_8 => ?_) (fun c_8 => ?_)
          · have c_8 : 5 ≤ 3 := of_decide_eq_true c_8
            exact absurd c_8 (by decide)
          have c_8 : ¬ (5 ≤ 3) := of_decide_eq_false c_8
          refine wp_steps 2 (t' := (18, [some (.ref 2), some (.ref (aSTR + 1)), some (.int 3)], [.ref 2, .ref 2], (HD, mi, ml, mr))) rfl ?_
          refine wp_geti rfl ⟨by decide, rfl⟩ (Or.inl rfl) ?_
          rw [he4]
          refine wp_steps 2 (t' := (21, [some (.ref 2), some (.ref (aSTR + 1)), some (.int 3)], [.int ((nI a) + 3), .ref 2], (HD, mi, ml, mr))) rfl ?_
          rw [show nI a + 3 = nI (a + 3) from nI_add a 3]
          refine wp_calv (as := [.int (nI (a + 3))]) rfl rfl rfl (Nat.le_of_ble_eq_true rfl) ⟨by decide, rfl⟩ (c_byteAt hM hn hs (p := a + 3) (by omega)) (by decide) ?_
          rintro _ _ ⟨rfl, rfl⟩
          show aWP _ _ (22, [some (.ref 2), some (.ref (aSTR + 1)), some (.int 3)], [.int (byN (mi 3) n (a + 3))], (HD, mi, ml, mr)) _
          refine wp_steps 2 (t' := (24, [some (.ref 2), some (.ref (aSTR + 1)), some (.int 3)], [.int 3, .ref (aSTR + 1), .int (byN (mi 3) n (a + 3))], (HD, mi, ml, mr))) rfl ?_
          refine wp_calt (as := [.int 3]) rfl rfl rfl (Nat.le_of_ble_eq_true rfl) (by decide) (c_chr1_3 hX) (by decide) ?_
          rintro _ _ ⟨rfl, rfl⟩
          show aWP _ _ (25, [some (.ref 2), some (.ref (aSTR + 1)), some (.int 3)], [.int 108, .int (byN (mi 3) n (a + 3))], (HD, mi, ml, mr)) _
          refine wp_bC rfl (fun c_9 => ?_) (fun c_9 => ?_)
          · have c_9 : (byN (mi 3) n (a + 3)) = 108 := of_decide_eq_true c_9
            refine wp_steps 4 (t' := (14, [some (.ref 2), some (.ref (aSTR + 1)), some (.int 4)], [.ref (aSTR + 1), .int 4], (HD, mi, ml, mr))) rfl ?_
            refine wp_calt (as := []) rfl rfl rfl (Nat.le_of_ble_eq_true rfl) (by decide) (c_len1) (by decide) ?_
            rintro _ _ ⟨rfl, rfl⟩
            show aWP _ _ (15, [some (.ref 2), some (.ref (aSTR + 1)), some (.int 4)], [.int 5, .int 4], (HD, mi, ml, mr)) _
            refine wp_bC rfl (fun c_10 => ?_) (fun c_10 => ?_)
            · have c_10 : 5 ≤ 4 := of_decide_eq_true c_10
              exact absurd c_10 (by decide)
            have c_10 : ¬ (5 ≤ 4) := of_decide_eq_false c_10
            refine wp_steps 2 (t' := (18, [some (.ref 2), some (.ref (aSTR + 1)), some (.int 4)], [.ref 2, .ref 2], (HD, mi, ml, mr))) rfl ?_
            refine wp_geti rfl ⟨by decide, rfl⟩ (Or.inl rfl) ?_
            rw [he4]
            refine wp_steps 2 (t' := (21, [some (.ref 2), some (.ref (aSTR + 1)), some (.int 4)], [.int ((nI a) + 4), .ref 2], (HD, mi, ml, mr))) rfl ?_
            rw [show nI a + 4 = nI (a + 4) from nI_add a 4]
            refine wp_calv (as := [.int (nI (a + 4))]) rfl rfl rfl (Nat.le_of_ble_eq_true rfl) ⟨by decide, rfl⟩ (c_byteAt hM hn hs (p := a + 4) (by omega)) (by decide) ?_
            rintro _ _ ⟨rfl, rfl⟩
            show aWP _ _ (22, [some (.ref 2), some (.ref (aSTR + 1)), some (.int 4)], [.int (byN (mi 3) n (a + 4))], (HD, mi, ml, mr)) _
            refine wp_steps 2 (t' := (24, [some (.ref 2), some (.ref (aSTR + 1)), some (.int 4)], [.int 4, .ref (aSTR + 1), .int (byN (mi 3) n (a + 4))], (HD, mi, ml, mr))) rfl ?_
            refine wp_calt (as := [.int 4]) rfl rfl rfl (Nat.le_of_ble_eq_true rfl) (by decide) (c_chr1_4 hX) (by decide) ?_
            rintro _ _ ⟨rfl, rfl⟩
            show aWP _ _ (25, [some (.ref 2), some (.ref (aSTR + 1)), some (.int 4)], [.int 108, .int (byN (mi 3) n (a + 4))], (HD, mi, ml, mr)) _
            refine wp_bC rfl (fun c_11 => ?_) (fun c_11 => ?_)
            · have c_11 : (byN (mi 3) n (a + 4)) = 108 := of_decide_eq_true c_11
              refine wp_steps 4 (t' := (14, [some (.ref 2), some (.ref (aSTR + 1)), some (.int 5)], [.ref (aSTR + 1), .int 5], (HD, mi, ml, mr))) rfl ?_
              refine wp_calt (as := []) rfl rfl rfl (Nat.le_of_ble_eq_true rfl) (by decide) (c_len1) (by decide) ?_
              rintro _ _ ⟨rfl, rfl⟩
              show aWP _ _ (15, [some (.ref 2), some (.ref (aSTR + 1)), some (.int 5)], [.int 5, .int 5], (HD, mi, ml, mr)) _
              refine wp_bC rfl (fun c_12 => ?_) (fun c_12 => ?_)
              rotate_left
              · have c_12 : ¬ (5 ≤ 5) := of_decide_eq_false c_12
                exact absurd c_12 (by decide)
              have c_12 : 5 ≤ 5 := of_decide_eq_true c_12
              refine wp_steps 1 (t' := (31, [some (.ref 2), some (.ref (aSTR + 1)), some (.int 5)], [.int 1], (HD, mi, ml, mr))) rfl ?_
              refine wp_ret rfl rfl ⟨⟨Nat.le_refl _, Nat.le_refl _⟩, ?_⟩
              have q : e - a = 5 := (nI_eq (by omega) (by decide)).mp c_1
              exact ⟨by simp [wdF, rdF, q, show ¬ (5 ≤ 0) from c_2, show (byN (mi 3) n a) = 115 from c_3, show ¬ (5 ≤ 1) from c_4, show (byN (mi 3) n (a + 1)) = 107 from c_5, show ¬ (5 ≤ 2) from c_6, show (byN (mi 3) n (a + 2)) = 105 from c_7, show ¬ (5 ≤ 3) from c_8, show (byN (mi 3) n (a + 3)) = 108 from c_9, show ¬ (5 ≤ 4) from c_10, show (byN (mi 3) n (a + 4)) = 108 from c_11, show 5 ≤ 5 from c_12], rfl⟩
            · have c_11 : ¬ ((byN (mi 3) n (a + 4)) = 108) := of_decide_eq_false c_11
              refine wp_steps 1 (t' := (27, [some (.ref 2), some (.ref (aSTR + 1)), some (.int 4)], [.int 0], (HD, mi, ml, mr))) rfl ?_
              refine wp_ret rfl rfl ⟨⟨Nat.le_refl _, Nat.le_refl _⟩, ?_⟩
              have q : e - a = 5 := (nI_eq (by omega) (by decide)).mp c_1
              exact ⟨by simp [wdF, rdF, q, show ¬ (5 ≤ 0) from c_2, show (byN (mi 3) n a) = 115 from c_3, show ¬ (5 ≤ 1) from c_4, show (byN (mi 3) n (a + 1)) = 107 from c_5, show ¬ (5 ≤ 2) from c_6, show (byN (mi 3) n (a + 2)) = 105 from c_7, show ¬ (5 ≤ 3) from c_8, show (byN (mi 3) n (a + 3)) = 108 from c_9, show ¬ (5 ≤ 4) from c_10, show ¬ ((byN (mi 3) n (a + 4)) = 108) from c_11], rfl⟩
          · have c_9 : ¬ ((byN (mi 3) n (a + 3)) = 108) := of_decide_eq_false c_9
            refine wp_steps 1 (t' := (27, [some (.ref 2), some (.ref (aSTR + 1)), some (.int 3)], [.int 0], (HD, mi, ml, mr))) rfl ?_
            refine wp_ret rfl rfl ⟨⟨Nat.le_refl _, Nat.le_refl _⟩, ?_⟩
            have q : e - a = 5 := (nI_eq (by omega) (by decide)).mp c_1
            exact ⟨by simp [wdF, rdF, q, show ¬ (5 ≤ 0) from c_2, show (byN (mi 3) n a) = 115 from c_3, show ¬ (5 ≤ 1) from c_4, show (byN (mi 3) n (a + 1)) = 107 from c_5, show ¬ (5 ≤ 2) from c_6, show (byN (mi 3) n (a + 2)) = 105 from c_7, show ¬ (5 ≤ 3) from c_8, show ¬ ((byN (mi 3) n (a + 3)) = 108) from c_9], rfl⟩
        · have c_7 : ¬ ((byN (mi 3) n (a + 2)) = 105) := of_decide_eq_false c_7
          refine wp_steps 1 (t' := (27, [some (.ref 2), some (.ref (aSTR + 1)), some (.int 2)], [.int 0], (HD, mi, ml, mr))) rfl ?_
          refine wp_ret rfl rfl ⟨⟨Nat.le_refl _, Nat.le_refl _⟩, ?_⟩
          have q : e - a = 5 := (nI_eq (by omega) (by decide)).mp c_1
          exact ⟨by simp [wdF, rdF, q, show ¬ (5 ≤ 0) from c_2, show (byN (mi 3) n a) = 115 from c_3, show ¬ (5 ≤ 1) from c_4, show (byN (mi 3) n (a + 1)) = 107 from c_5, show ¬ (5 ≤ 2) from c_6, show ¬ ((byN (mi 3) n (a + 2)) = 105) from c_7], rfl⟩
      · have c_5 : ¬ ((byN (mi 3) n (a + 1)) = 107) := of_decide_eq_false c_5
        refine wp_steps 1 (t' := (27, [some (.ref 2), some (.ref (aSTR + 1)), some (.int 1)], [.int 0], (HD, mi, ml, mr))) rfl ?_
        refine wp_ret rfl rfl ⟨⟨Nat.le_refl _, Nat.le_refl _⟩, ?_⟩
        have q : e - a = 5 := (nI_eq (by omega) (by decide)).mp c_1
        exact ⟨by simp [wdF, rdF, q, show ¬ (5 ≤ 0) from c_2, show (byN (mi 3) n a) = 115 from c_3, show ¬ (5 ≤ 1) from c_4, show ¬ ((byN (mi 3) n (a + 1)) = 107) from c_5], rfl⟩
    · have c_3 : ¬ ((byN (mi 3) n (a + 0)) = 115) := of_decide_eq_false c_3
      refine wp_steps 1 (t' := (27, [some (.ref 2), some (.ref (aSTR + 1)), some (.int 0)], [.int 0], (HD, mi, ml, mr))) rfl ?_
      refine wp_ret rfl rfl ⟨⟨Nat.le_refl _, Nat.le_refl _⟩, ?_⟩
      have q : e - a = 5 := (nI_eq (by omega) (by decide)).mp c_1
      exact ⟨by simp [wdF, rdF, q, show ¬ (5 ≤ 0) from c_2, show ¬ ((byN (mi 3) n a) = 115) from c_3], rfl⟩
  · have c_1 : ¬ ((nI (e - a)) = 5) := of_decide_eq_false c_1
    refine wp_steps 1 (t' := (9, [some (.ref 2), some (.ref (aSTR + 1)), none], [.int 0], (HD, mi, ml, mr))) rfl ?_
    refine wp_ret rfl rfl ⟨⟨Nat.le_refl _, Nat.le_refl _⟩, ?_⟩
    have q : ¬ e - a = 5 := fun q => c_1 (by rw [q]; rfl)
    exact ⟨by simp [wdF, q], rfl⟩
set_option maxRecDepth 20000 in
set_option maxHeartbeats 1000000 in
theorem c_reads2 {X : aXt × Value} {mi : Nat → Nat → Int32} {ml : Nat → Nat → Int64} {mr : Nat → Nat → Option Nat} (hM : MRok mr) {n : Nat} (hn : n ≤ 160) (hs : mi 2 0 = nI n) (hX : outOK X) {a e : Nat} (hae : a ≤ e) (hl : e ≤ 170) (he4 : mi 2 4 = nI a) (he5 : mi 2 5 = nI e) : aCW X 5 29 [.ref 2, .ref (aSTR + 2)] (HD, mi, ml, mr) (rdI mi ml mr (wdF (byN (mi 3) n) a e [104, 97, 114, 100])) := by
  refine cw_of (cd := cd_X1_reads) (nL := 3) rfl rfl ?_
  show aWP _ _ (0, [some (.ref 2), some (.ref (aSTR + 2)), none], [], (HD, mi, ml, mr)) _
  refine wp_steps 1 (t' := (1, [some (.ref 2), some (.ref (aSTR + 2)), none], [.ref 2], (HD, mi, ml, mr))) rfl ?_
  refine wp_geti rfl ⟨by decide, rfl⟩ (Or.inl rfl) ?_
  rw [he5]
  refine wp_steps 1 (t' := (3, [some (.ref 2), some (.ref (aSTR + 2)), none], [.ref 2, .int (nI e)], (HD, mi, ml, mr))) rfl ?_
  refine wp_geti rfl ⟨by decide, rfl⟩ (Or.inl rfl) ?_
  rw [he4]
  refine wp_steps 1 (t' := (5, [some (.ref 2), some (.ref (aSTR + 2)), none], [.int ((nI e) - (nI a))], (HD, mi, ml, mr))) rfl ?_
  rw [nI_sb hae]
  refine wp_steps 1 (t' := (6, [some (.ref 2), some (.ref (aSTR + 2)), none], [.ref (aSTR + 2), .int (nI (e - a))], (HD, mi, ml, mr))) rfl ?_
  refine wp_calt (as := []) rfl rfl rfl (Nat.le_of_ble_eq_true rfl) (by decide) (c_len2) (by decide) ?_
  rintro _ _ ⟨rfl, rfl⟩
  show aWP _ _ (7, [some (.ref 2), some (.ref (aSTR + 2)), none], [.int 4, .int (nI (e - a))], (HD, mi, ml, mr)) _
  refine wp_bC rfl (fun c_1 => ?_) (fun c_1 => ?_)
  · have c_1 : (nI (e - a)) = 4 := of_decide_eq_true c_1
    refine wp_steps 4 (t' := (14, [some (.ref 2), some (.ref (aSTR + 2)), some (.int 0)], [.ref (aSTR + 2), .int 0], (HD, mi, ml, mr))) rfl ?_
    refine wp_calt (as := []) rfl rfl rfl (Nat.le_of_ble_eq_true rfl) (by decide) (c_len2) (by decide) ?_
    rintro _ _ ⟨rfl, rfl⟩
    show aWP _ _ (15, [some (.ref 2), some (.ref (aSTR + 2)), some (.int 0)], [.int 4, .int 0], (HD, mi, ml, mr)) _
    refine wp_bC rfl (fun c_2 => ?_) (fun c_2 => ?_)
    · have c_2 : 4 ≤ 0 := of_decide_eq_true c_2
      exact absurd c_2 (by decide)
    have c_2 : ¬ (4 ≤ 0) := of_decide_eq_false c_2
    refine wp_steps 2 (t' := (18, [some (.ref 2), some (.ref (aSTR + 2)), some (.int 0)], [.ref 2, .ref 2], (HD, mi, ml, mr))) rfl ?_
    refine wp_geti rfl ⟨by decide, rfl⟩ (Or.inl rfl) ?_
    rw [he4]
    refine wp_steps 2 (t' := (21, [some (.ref 2), some (.ref (aSTR + 2)), some (.int 0)], [.int ((nI a) + 0), .ref 2], (HD, mi, ml, mr))) rfl ?_
    rw [show nI a + 0 = nI (a + 0) from nI_add a 0]
    refine wp_calv (as := [.int (nI (a + 0))]) rfl rfl rfl (Nat.le_of_ble_eq_true rfl) ⟨by decide, rfl⟩ (c_byteAt hM hn hs (p := a + 0) (by omega)) (by decide) ?_
    rintro _ _ ⟨rfl, rfl⟩
    show aWP _ _ (22, [some (.ref 2), some (.ref (aSTR + 2)), some (.int 0)], [.int (byN (mi 3) n (a + 0))], (HD, mi, ml, mr)) _
    refine wp_steps 2 (t' := (24, [some (.ref 2), some (.ref (aSTR + 2)), some (.int 0)], [.int 0, .ref (aSTR + 2), .int (byN (mi 3) n (a + 0))], (HD, mi, ml, mr))) rfl ?_
    refine wp_calt (as := [.int 0]) rfl rfl rfl (Nat.le_of_ble_eq_true rfl) (by decide) (c_chr2_0 hX) (by decide) ?_
    rintro _ _ ⟨rfl, rfl⟩
    show aWP _ _ (25, [some (.ref 2), some (.ref (aSTR + 2)), some (.int 0)], [.int 104, .int (byN (mi 3) n (a + 0))], (HD, mi, ml, mr)) _
    refine wp_bC rfl (fun c_3 => ?_) (fun c_3 => ?_)
    · have c_3 : (byN (mi 3) n (a + 0)) = 104 := of_decide_eq_true c_3
      refine wp_steps 4 (t' := (14, [some (.ref 2), some (.ref (aSTR + 2)), some (.int 1)], [.ref (aSTR + 2), .int 1], (HD, mi, ml, mr))) rfl ?_
      refine wp_calt (as := []) rfl rfl rfl (Nat.le_of_ble_eq_true rfl) (by decide) (c_len2) (by decide) ?_
      rintro _ _ ⟨rfl, rfl⟩
      show aWP _ _ (15, [some (.ref 2), some (.ref (aSTR + 2)), some (.int 1)], [.int 4, .int 1], (HD, mi, ml, mr)) _
      refine wp_bC rfl (fun c_4 => ?_) (fun c_4 => ?_)
      · have c_4 : 4 ≤ 1 := of_decide_eq_true c_4
        exact absurd c_4 (by decide)
      have c_4 : ¬ (4 ≤ 1) := of_decide_eq_false c_4
      refine wp_steps 2 (t' := (18, [some (.ref 2), some (.ref (aSTR + 2)), some (.int 1)], [.ref 2, .ref 2], (HD, mi, ml, mr))) rfl ?_
      refine wp_geti rfl ⟨by decide, rfl⟩ (Or.inl rfl) ?_
      rw [he4]
      refine wp_steps 2 (t' := (21, [some (.ref 2), some (.ref (aSTR + 2)), some (.int 1)], [.int ((nI a) + 1), .ref 2], (HD, mi, ml, mr))) rfl ?_
      rw [show nI a + 1 = nI (a + 1) from nI_add a 1]
      refine wp_calv (as := [.int (nI (a + 1))]) rfl rfl rfl (Nat.le_of_ble_eq_true rfl) ⟨by decide, rfl⟩ (c_byteAt hM hn hs (p := a + 1) (by omega)) (by decide) ?_
      rintro _ _ ⟨rfl, rfl⟩
      show aWP _ _ (22, [some (.ref 2), some (.ref (aSTR + 2)), some (.int 1)], [.int (byN (mi 3) n (a + 1))], (HD, mi, ml, mr)) _
      refine wp_steps 2 (t' := (24, [some (.ref 2), some (.ref (aSTR + 2)), some (.int 1)], [.int 1, .ref (aSTR + 2), .int (byN (mi 3) n (a + 1))], (HD, mi, ml, mr))) rfl ?_
      refine wp_calt (as := [.int 1]) rfl rfl rfl (Nat.le_of_ble_eq_true rfl) (by decide) (c_chr2_1 hX) (by decide) ?_
      rintro _ _ ⟨rfl, rfl⟩
      show aWP _ _ (25, [some (.ref 2), some (.ref (aSTR + 2)), some (.int 1)], [.int 97, .int (byN (mi 3) n (a + 1))], (HD, mi, ml, mr)) _
      refine wp_bC rfl (fun c_5 => ?_) (fun c_5 => ?_)
      · have c_5 : (byN (mi 3) n (a + 1)) = 97 := of_decide_eq_true c_5
        refine wp_steps 4 (t' := (14, [some (.ref 2), some (.ref (aSTR + 2)), some (.int 2)], [.ref (aSTR + 2), .int 2], (HD, mi, ml, mr))) rfl ?_
        refine wp_calt (as := []) rfl rfl rfl (Nat.le_of_ble_eq_true rfl) (by decide) (c_len2) (by decide) ?_
        rintro _ _ ⟨rfl, rfl⟩
        show aWP _ _ (15, [some (.ref 2), some (.ref (aSTR + 2)), some (.int 2)], [.int 4, .int 2], (HD, mi, ml, mr)) _
        refine wp_bC rfl (fun c_6 => ?_) (fun c_6 => ?_)
        · have c_6 : 4 ≤ 2 := of_decide_eq_true c_6
          exact absurd c_6 (by decide)
        have c_6 : ¬ (4 ≤ 2) := of_decide_eq_false c_6
        refine wp_steps 2 (t' := (18, [some (.ref 2), some (.ref (aSTR + 2)), some (.int 2)], [.ref 2, .ref 2], (HD, mi, ml, mr))) rfl ?_
        refine wp_geti rfl ⟨by decide, rfl⟩ (Or.inl rfl) ?_
        rw [he4]
        refine wp_steps 2 (t' := (21, [some (.ref 2), some (.ref (aSTR + 2)), some (.int 2)], [.int ((nI a) + 2), .ref 2], (HD, mi, ml, mr))) rfl ?_
        rw [show nI a + 2 = nI (a + 2) from nI_add a 2]
        refine wp_calv (as := [.int (nI (a + 2))]) rfl rfl rfl (Nat.le_of_ble_eq_true rfl) ⟨by decide, rfl⟩ (c_byteAt hM hn hs (p := a + 2) (by omega)) (by decide) ?_
        rintro _ _ ⟨rfl, rfl⟩
        show aWP _ _ (22, [some (.ref 2), some (.ref (aSTR + 2)), some (.int 2)], [.int (byN (mi 3) n (a + 2))], (HD, mi, ml, mr)) _
        refine wp_steps 2 (t' := (24, [some (.ref 2), some (.ref (aSTR + 2)), some (.int 2)], [.int 2, .ref (aSTR + 2), .int (byN (mi 3) n (a + 2))], (HD, mi, ml, mr))) rfl ?_
        refine wp_calt (as := [.int 2]) rfl rfl rfl (Nat.le_of_ble_eq_true rfl) (by decide) (c_chr2_2 hX) (by decide) ?_
        rintro _ _ ⟨rfl, rfl⟩
        show aWP _ _ (25, [some (.ref 2), some (.ref (aSTR + 2)), some (.int 2)], [.int 114, .int (byN (mi 3) n (a + 2))], (HD, mi, ml, mr)) _
        refine wp_bC rfl (fun c_7 => ?_) (fun c_7 => ?_)
        · have c_7 : (byN (mi 3) n (a + 2)) = 114 := of_decide_eq_true c_7
          refine wp_steps 4 (t' := (14, [some (.ref 2), some (.ref (aSTR + 2)), some (.int 3)], [.ref (aSTR + 2), .int 3], (HD, mi, ml, mr))) rfl ?_
          refine wp_calt (as := []) rfl rfl rfl (Nat.le_of_ble_eq_true rfl) (by decide) (c_len2) (by decide) ?_
          rintro _ _ ⟨rfl, rfl⟩
          show aWP _ _ (15, [some (.ref 2), some (.ref (aSTR + 2)), some (.int 3)], [.int 4, .int 3], (HD, mi, ml, mr)) _
          refine wp_bC rfl (fun c_8 => ?_) (fun c_8 => ?_)
          · have c_8 : 4 ≤ 3 := of_decide_eq_true c_8
            exact absurd c_8 (by decide)
          have c_8 : ¬ (4 ≤ 3) := of_decide_eq_false c_8
          refine wp_steps 2 (t' := (18, [some (.ref 2), some (.ref (aSTR + 2)), some (.int 3)], [.ref 2, .ref 2], (HD, mi, ml, mr))) rfl ?_
          refine wp_geti rfl ⟨by decide, rfl⟩ (Or.inl rfl) ?_
          rw [he4]
          refine wp_steps 2 (t' := (21, [some (.ref 2), some (.ref (aSTR + 2)), some (.int 3)], [.int ((nI a) + 3), .ref 2], (HD, mi, ml, mr))) rfl ?_
          rw [show nI a + 3 = nI (a + 3) from nI_add a 3]
          refine wp_calv (as := [.int (nI (a + 3))]) rfl rfl rfl (Nat.le_of_ble_eq_true rfl) ⟨by decide, rfl⟩ (c_byteAt hM hn hs (p := a + 3) (by omega)) (by decide) ?_
          rintro _ _ ⟨rfl, rfl⟩
          show aWP _ _ (22, [some (.ref 2), some (.ref (aSTR + 2)), some (.int 3)], [.int (byN (mi 3) n (a + 3))], (HD, mi, ml, mr)) _
          refine wp_steps 2 (t' := (24, [some (.ref 2), some (.ref (aSTR + 2)), some (.int 3)], [.int 3, .ref (aSTR + 2), .int (byN (mi 3) n (a + 3))], (HD, mi, ml, mr))) rfl ?_
          refine wp_calt (as := [.int 3]) rfl rfl rfl (Nat.le_of_ble_eq_true rfl) (by decide) (c_chr2_3 hX) (by decide) ?_
          rintro _ _ ⟨rfl, rfl⟩
          show aWP _ _ (25, [some (.ref 2), some (.ref (aSTR + 2)), some (.int 3)], [.int 100, .int (byN (mi 3) n (a + 3))], (HD, mi, ml, mr)) _
          refine wp_bC rfl (fun c_9 => ?_) (fun c_9 => ?_)
          · have c_9 : (byN (mi 3) n (a + 3)) = 100 := of_decide_eq_true c_9
            refine wp_steps 4 (t' := (14, [some (.ref 2), some (.ref (aSTR + 2)), some (.int 4)], [.ref (aSTR + 2), .int 4], (HD, mi, ml, mr))) rfl ?_
            refine wp_calt (as := []) rfl rfl rfl (Nat.le_of_ble_eq_true rfl) (by decide) (c_len2) (by decide) ?_
            rintro _ _ ⟨rfl, rfl⟩
            show aWP _ _ (15, [some (.ref 2), some (.ref (aSTR + 2)), some (.int 4)], [.int 4, .int 4], (HD, mi, ml, mr)) _
            refine wp_bC rfl (fun c_10 => ?_) (fun c_10 => ?_)
            rotate_left
            · have c_10 : ¬ (4 ≤ 4) := of_decide_eq_false c_10
              exact absurd c_10 (by decide)
            have c_10 : 4 ≤ 4 := of_decide_eq_true c_10
            refine wp_steps 1 (t' := (31, [some (.ref 2), some (.ref (aSTR + 2)), some (.int 4)], [.int 1], (HD, mi, ml, mr))) rfl ?_
            refine wp_ret rfl rfl ⟨⟨Nat.le_refl _, Nat.le_refl _⟩, ?_⟩
            have q : e - a = 4 := (nI_eq (by omega) (by decide)).mp c_1
            exact ⟨by simp [wdF, rdF, q, show ¬ (4 ≤ 0) from c_2, show (byN (mi 3) n a) = 104 from c_3, show ¬ (4 ≤ 1) from c_4, show (byN (mi 3) n (a + 1)) = 97 from c_5, show ¬ (4 ≤ 2) from c_6, show (byN (mi 3) n (a + 2)) = 114 from c_7, show ¬ (4 ≤ 3) from c_8, show (byN (mi 3) n (a + 3)) = 100 from c_9, show 4 ≤ 4 from c_10], rfl⟩
          · have c_9 : ¬ ((byN (mi 3) n (a + 3)) = 100) := of_decide_eq_false c_9
            refine wp_steps 1 (t' := (27, [some (.ref 2), some (.ref (aSTR + 2)), some (.int 3)], [.int 0], (HD, mi, ml, mr))) rfl ?_
            refine wp_ret rfl rfl ⟨⟨Nat.le_refl _, Nat.le_refl _⟩, ?_⟩
            have q : e - a = 4 := (nI_eq (by omega) (by decide)).mp c_1
            exact ⟨by simp [wdF, rdF, q, show ¬ (4 ≤ 0) from c_2, show (byN (mi 3) n a) = 104 from c_3, show ¬ (4 ≤ 1) from c_4, show (byN (mi 3) n (a + 1)) = 97 from c_5, show ¬ (4 ≤ 2) from c_6, show (byN (mi 3) n (a + 2)) = 114 from c_7, show ¬ (4 ≤ 3) from c_8, show ¬ ((byN (mi 3) n (a + 3)) = 100) from c_9], rfl⟩
        · have c_7 : ¬ ((byN (mi 3) n (a + 2)) = 114) := of_decide_eq_false c_7
          refine wp_steps 1 (t' := (27, [some (.ref 2), some (.ref (aSTR + 2)), some (.int 2)], [.int 0], (HD, mi, ml, mr))) rfl ?_
          refine wp_ret rfl rfl ⟨⟨Nat.le_refl _, Nat.le_refl _⟩, ?_⟩
          have q : e - a = 4 := (nI_eq (by omega) (by decide)).mp c_1
          exact ⟨by simp [wdF, rdF, q, show ¬ (4 ≤ 0) from c_2, show (byN (mi 3) n a) = 104 from c_3, show ¬ (4 ≤ 1) from c_4, show (byN (mi 3) n (a + 1)) = 97 from c_5, show ¬ (4 ≤ 2) from c_6, show ¬ ((byN (mi 3) n (a + 2)) = 114) from c_7], rfl⟩
      · have c_5 : ¬ ((byN (mi 3) n (a + 1)) = 97) := of_decide_eq_false c_5
        refine wp_steps 1 (t' := (27, [some (.ref 2), some (.ref (aSTR + 2)), some (.int 1)], [.int 0], (HD, mi, ml, mr))) rfl ?_
        refine wp_ret rfl rfl ⟨⟨Nat.le_refl _, Nat.le_refl _⟩, ?_⟩
        have q : e - a = 4 := (nI_eq (by omega) (by decide)).mp c_1
        exact ⟨by simp [wdF, rdF, q, show ¬ (4 ≤ 0) from c_2, show (byN (mi 3) n a) = 104 from c_3, show ¬ (4 ≤ 1) from c_4, show ¬ ((byN (mi 3) n (a + 1)) = 97) from c_5], rfl⟩
    · have c_3 : ¬ ((byN (mi 3) n (a + 0)) = 104) := of_decide_eq_false c_3
      refine wp_steps 1 (t' := (27, [some (.ref 2), some (.ref (aSTR + 2)), some (.int 0)], [.int 0], (HD, mi, ml, mr))) rfl ?_
      refine wp_ret rfl rfl ⟨⟨Nat.le_refl _, Nat.le_refl _⟩, ?_⟩
      have q : e - a = 4 := (nI_eq (by omega) (by decide)).mp c_1
      exact ⟨by simp [wdF, rdF, q, show ¬ (4 ≤ 0) from c_2, show ¬ ((byN (mi 3) n a) = 104) from c_3], rfl⟩
  · have c_1 : ¬ ((nI (e - a)) = 4) := of_decide_eq_false c_1
    refine wp_steps 1 (t' := (9, [some (.ref 2), some (.ref (aSTR + 2)), none], [.int 0], (HD, mi, ml, mr))) rfl ?_
    refine wp_ret rfl rfl ⟨⟨Nat.le_refl _, Nat.le_refl _⟩, ?_⟩
    have q : ¬ e - a = 4 := fun q => c_1 (by rw [q]; rfl)
    exact ⟨by simp [wdF, q], rfl⟩
set_option maxRecDepth 20000 in
set_option maxHeartbeats 1000000 in
theorem c_reads3 {X : aXt × Value} {mi : Nat → Nat → Int32} {ml : Nat → Nat → Int64} {mr : Nat → Nat → Option Nat} (hM : MRok mr) {n : Nat} (hn : n ≤ 160) (hs : mi 2 0 = nI n) (hX : outOK X) {a e : Nat} (hae : a ≤ e) (hl : e ≤ 170) (he4 : mi 2 4 = nI a) (he5 : mi 2 5 = nI e) : aCW X 5 29 [.ref 2, .ref (aSTR + 3)] (HD, mi, ml, mr) (rdI mi ml mr (wdF (byN (mi 3) n) a e [104, 101, 108, 112])) := by
  refine cw_of (cd := cd_X1_reads) (nL := 3) rfl rfl ?_
  show aWP _ _ (0, [some (.ref 2), some (.ref (aSTR + 3)), none], [], (HD, mi, ml, mr)) _
  refine wp_steps 1 (t' := (1, [some (.ref 2), some (.ref (aSTR + 3)), none], [.ref 2], (HD, mi, ml, mr))) rfl ?_
  refine wp_geti rfl ⟨by decide, rfl⟩ (Or.inl rfl) ?_
  rw [he5]
  refine wp_steps 1 (t' := (3, [some (.ref 2), some (.ref (aSTR + 3)), none], [.ref 2, .int (nI e)], (HD, mi, ml, mr))) rfl ?_
  refine wp_geti rfl ⟨by decide, rfl⟩ (Or.inl rfl) ?_
  rw [he4]
  refine wp_steps 1 (t' := (5, [some (.ref 2), some (.ref (aSTR + 3)), none], [.int ((nI e) - (nI a))], (HD, mi, ml, mr))) rfl ?_
  rw [nI_sb hae]
  refine wp_steps 1 (t' := (6, [some (.ref 2), some (.ref (aSTR + 3)), none], [.ref (aSTR + 3), .int (nI (e - a))], (HD, mi, ml, mr))) rfl ?_
  refine wp_calt (as := []) rfl rfl rfl (Nat.le_of_ble_eq_true rfl) (by decide) (c_len3) (by decide) ?_
  rintro _ _ ⟨rfl, rfl⟩
  show aWP _ _ (7, [some (.ref 2), some (.ref (aSTR + 3)), none], [.int 4, .int (nI (e - a))], (HD, mi, ml, mr)) _
  refine wp_bC rfl (fun c_1 => ?_) (fun c_1 => ?_)
  · have c_1 : (nI (e - a)) = 4 := of_decide_eq_true c_1
    refine wp_steps 4 (t' := (14, [some (.ref 2), some (.ref (aSTR + 3)), some (.int 0)], [.ref (aSTR + 3), .int 0], (HD, mi, ml, mr))) rfl ?_
    refine wp_calt (as := []) rfl rfl rfl (Nat.le_of_ble_eq_true rfl) (by decide) (c_len3) (by decide) ?_
    rintro _ _ ⟨rfl, rfl⟩
    show aWP _ _ (15, [some (.ref 2), some (.ref (aSTR + 3)), some (.int 0)], [.int 4, .int 0], (HD, mi, ml, mr)) _
    refine wp_bC rfl (fun c_2 => ?_) (fun c_2 => ?_)
    · have c_2 : 4 ≤ 0 := of_decide_eq_true c_2
      exact absurd c_2 (by decide)
    have c_2 : ¬ (4 ≤ 0) := of_decide_eq_false c_2
    refine wp_steps 2 (t' := (18, [some (.ref 2), some (.ref (aSTR + 3)), some (.int 0)], [.ref 2, .ref 2], (HD, mi, ml, mr))) rfl ?_
    refine wp_geti rfl ⟨by decide, rfl⟩ (Or.inl rfl) ?_
    rw [he4]
    refine wp_steps 2 (t' := (21, [some (.ref 2), some (.ref (aSTR + 3)), some (.int 0)], [.int ((nI a) + 0), .ref 2], (HD, mi, ml, mr))) rfl ?_
    rw [show nI a + 0 = nI (a + 0) from nI_add a 0]
    refine wp_calv (as := [.int (nI (a + 0))]) rfl rfl rfl (Nat.le_of_ble_eq_true rfl) ⟨by decide, rfl⟩ (c_byteAt hM hn hs (p := a + 0) (by omega)) (by decide) ?_
    rintro _ _ ⟨rfl, rfl⟩
    show aWP _ _ (22, [some (.ref 2), some (.ref (aSTR + 3)), some (.int 0)], [.int (byN (mi 3) n (a + 0))], (HD, mi, ml, mr)) _
    refine wp_steps 2 (t' := (24, [some (.ref 2), some (.ref (aSTR + 3)), some (.int 0)], [.int 0, .ref (aSTR + 3), .int (byN (mi 3) n (a + 0))], (HD, mi, ml, mr))) rfl ?_
    refine wp_calt (as := [.int 0]) rfl rfl rfl (Nat.le_of_ble_eq_true rfl) (by decide) (c_chr3_0 hX) (by decide) ?_
    rintro _ _ ⟨rfl, rfl⟩
    show aWP _ _ (25, [some (.ref 2), some (.ref (aSTR + 3)), some (.int 0)], [.int 104, .int (byN (mi 3) n (a + 0))], (HD, mi, ml, mr)) _
    refine wp_bC rfl (fun c_3 => ?_) (fun c_3 => ?_)
    · have c_3 : (byN (mi 3) n (a + 0)) = 104 := of_decide_eq_true c_3
      refine wp_steps 4 (t' := (14, [some (.ref 2), some (.ref (aSTR + 3)), some (.int 1)], [.ref (aSTR + 3), .int 1], (HD, mi, ml, mr))) rfl ?_
      refine wp_calt (as := []) rfl rfl rfl (Nat.le_of_ble_eq_true rfl) (by decide) (c_len3) (by decide) ?_
      rintro _ _ ⟨rfl, rfl⟩
      show aWP _ _ (15, [some (.ref 2), some (.ref (aSTR + 3)), some (.int 1)], [.int 4, .int 1], (HD, mi, ml, mr)) _
      refine wp_bC rfl (fun c_4 => ?_) (fun c_4 => ?_)
      · have c_4 : 4 ≤ 1 := of_decide_eq_true c_4
        exact absurd c_4 (by decide)
      have c_4 : ¬ (4 ≤ 1) := of_decide_eq_false c_4
      refine wp_steps 2 (t' := (18, [some (.ref 2), some (.ref (aSTR + 3)), some (.int 1)], [.ref 2, .ref 2], (HD, mi, ml, mr))) rfl ?_
      refine wp_geti rfl ⟨by decide, rfl⟩ (Or.inl rfl) ?_
      rw [he4]
      refine wp_steps 2 (t' := (21, [some (.ref 2), some (.ref (aSTR + 3)), some (.int 1)], [.int ((nI a) + 1), .ref 2], (HD, mi, ml, mr))) rfl ?_
      rw [show nI a + 1 = nI (a + 1) from nI_add a 1]
      refine wp_calv (as := [.int (nI (a + 1))]) rfl rfl rfl (Nat.le_of_ble_eq_true rfl) ⟨by decide, rfl⟩ (c_byteAt hM hn hs (p := a + 1) (by omega)) (by decide) ?_
      rintro _ _ ⟨rfl, rfl⟩
      show aWP _ _ (22, [some (.ref 2), some (.ref (aSTR + 3)), some (.int 1)], [.int (byN (mi 3) n (a + 1))], (HD, mi, ml, mr)) _
      refine wp_steps 2 (t' := (24, [some (.ref 2), some (.ref (aSTR + 3)), some (.int 1)], [.int 1, .ref (aSTR + 3), .int (byN (mi 3) n (a + 1))], (HD, mi, ml, mr))) rfl ?_
      refine wp_calt (as := [.int 1]) rfl rfl rfl (Nat.le_of_ble_eq_true rfl) (by decide) (c_chr3_1 hX) (by decide) ?_
      rintro _ _ ⟨rfl, rfl⟩
      show aWP _ _ (25, [some (.ref 2), some (.ref (aSTR + 3)), some (.int 1)], [.int 101, .int (byN (mi 3) n (a + 1))], (HD, mi, ml, mr)) _
      refine wp_bC rfl (fun c_5 => ?_) (fun c_5 => ?_)
      · have c_5 : (byN (mi 3) n (a + 1)) = 101 := of_decide_eq_true c_5
        refine wp_steps 4 (t' := (14, [some (.ref 2), some (.ref (aSTR + 3)), some (.int 2)], [.ref (aSTR + 3), .int 2], (HD, mi, ml, mr))) rfl ?_
        refine wp_calt (as := []) rfl rfl rfl (Nat.le_of_ble_eq_true rfl) (by decide) (c_len3) (by decide) ?_
        rintro _ _ ⟨rfl, rfl⟩
        show aWP _ _ (15, [some (.ref 2), some (.ref (aSTR + 3)), some (.int 2)], [.int 4, .int 2], (HD, mi, ml, mr)) _
        refine wp_bC rfl (fun c_6 => ?_) (fun c_6 => ?_)
        · have c_6 : 4 ≤ 2 := of_decide_eq_true c_6
          exact absurd c_6 (by decide)
        have c_6 : ¬ (4 ≤ 2) := of_decide_eq_false c_6
        refine wp_steps 2 (t' := (18, [some (.ref 2), some (.ref (aSTR + 3)), some (.int 2)], [.ref 2, .ref 2], (HD, mi, ml, mr))) rfl ?_
        refine wp_geti rfl ⟨by decide, rfl⟩ (Or.inl rfl) ?_
        rw [he4]
        refine wp_steps 2 (t' := (21, [some (.ref 2), some (.ref (aSTR + 3)), some (.int 2)], [.int ((nI a) + 2), .ref 2], (HD, mi, ml, mr))) rfl ?_
        rw [show nI a + 2 = nI (a + 2) from nI_add a 2]
        refine wp_calv (as := [.int (nI (a + 2))]) rfl rfl rfl (Nat.le_of_ble_eq_true rfl) ⟨by decide, rfl⟩ (c_byteAt hM hn hs (p := a + 2) (by omega)) (by decide) ?_
        rintro _ _ ⟨rfl, rfl⟩
        show aWP _ _ (22, [some (.ref 2), some (.ref (aSTR + 3)), some (.int 2)], [.int (byN (mi 3) n (a + 2))], (HD, mi, ml, mr)) _
        refine wp_steps 2 (t' := (24, [some (.ref 2), some (.ref (aSTR + 3)), some (.int 2)], [.int 2, .ref (aSTR + 3), .int (byN (mi 3) n (a + 2))], (HD, mi, ml, mr))) rfl ?_
        refine wp_calt (as := [.int 2]) rfl rfl rfl (Nat.le_of_ble_eq_true rfl) (by decide) (c_chr3_2 hX) (by decide) ?_
        rintro _ _ ⟨rfl, rfl⟩
        show aWP _ _ (25, [some (.ref 2), some (.ref (aSTR + 3)), some (.int 2)], [.int 108, .int (byN (mi 3) n (a + 2))], (HD, mi, ml, mr)) _
        refine wp_bC rfl (fun c_7 => ?_) (fun c_7 => ?_)
        · have c_7 : (byN (mi 3) n (a + 2)) = 108 := of_decide_eq_true c_7
          refine wp_steps 4 (t' := (14, [some (.ref 2), some (.ref (aSTR + 3)), some (.int 3)], [.ref (aSTR + 3), .int 3], (HD, mi, ml, mr))) rfl ?_
          refine wp_calt (as := []) rfl rfl rfl (Nat.le_of_ble_eq_true rfl) (by decide) (c_len3) (by decide) ?_
          rintro _ _ ⟨rfl, rfl⟩
          show aWP _ _ (15, [some (.ref 2), some (.ref (aSTR + 3)), some (.int 3)], [.int 4, .int 3], (HD, mi, ml, mr)) _
          refine wp_bC rfl (fun c_8 => ?_) (fun c_8 => ?_)
          · have c_8 : 4 ≤ 3 := of_decide_eq_true c_8
            exact absurd c_8 (by decide)
          have c_8 : ¬ (4 ≤ 3) := of_decide_eq_false c_8
          refine wp_steps 2 (t' := (18, [some (.ref 2), some (.ref (aSTR + 3)), some (.int 3)], [.ref 2, .ref 2], (HD, mi, ml, mr))) rfl ?_
          refine wp_geti rfl ⟨by decide, rfl⟩ (Or.inl rfl) ?_
          rw [he4]
          refine wp_steps 2 (t' := (21, [some (.ref 2), some (.ref (aSTR + 3)), some (.int 3)], [.int ((nI a) + 3), .ref 2], (HD, mi, ml, mr))) rfl ?_
          rw [show nI a + 3 = nI (a + 3) from nI_add a 3]
          refine wp_calv (as := [.int (nI (a + 3))]) rfl rfl rfl (Nat.le_of_ble_eq_true rfl) ⟨by decide, rfl⟩ (c_byteAt hM hn hs (p := a + 3) (by omega)) (by decide) ?_
          rintro _ _ ⟨rfl, rfl⟩
          show aWP _ _ (22, [some (.ref 2), some (.ref (aSTR + 3)), some (.int 3)], [.int (byN (mi 3) n (a + 3))], (HD, mi, ml, mr)) _
          refine wp_steps 2 (t' := (24, [some (.ref 2), some (.ref (aSTR + 3)), some (.int 3)], [.int 3, .ref (aSTR + 3), .int (byN (mi 3) n (a + 3))], (HD, mi, ml, mr))) rfl ?_
          refine wp_calt (as := [.int 3]) rfl rfl rfl (Nat.le_of_ble_eq_true rfl) (by decide) (c_chr3_3 hX) (by decide) ?_
          rintro _ _ ⟨rfl, rfl⟩
          show aWP _ _ (25, [some (.ref 2), some (.ref (aSTR + 3)), some (.int 3)], [.int 112, .int (byN (mi 3) n (a + 3))], (HD, mi, ml, mr)) _
          refine wp_bC rfl (fun c_9 => ?_) (fun c_9 => ?_)
          · have c_9 : (byN (mi 3) n (a + 3)) = 112 := of_decide_eq_true c_9
            refine wp_steps 4 (t' := (14, [some (.ref 2), some (.ref (aSTR + 3)), some (.int 4)], [.ref (aSTR + 3), .int 4], (HD, mi, ml, mr))) rfl ?_
            refine wp_calt (as := []) rfl rfl rfl (Nat.le_of_ble_eq_true rfl) (by decide) (c_len3) (by decide) ?_
            rintro _ _ ⟨rfl, rfl⟩
            show aWP _ _ (15, [some (.ref 2), some (.ref (aSTR + 3)), some (.int 4)], [.int 4, .int 4], (HD, mi, ml, mr)) _
            refine wp_bC rfl (fun c_10 => ?_) (fun c_10 => ?_)
            rotate_left
            · have c_10 : ¬ (4 ≤ 4) := of_decide_eq_false c_10
              exact absurd c_10 (by decide)
            have c_10 : 4 ≤ 4 := of_decide_eq_true c_10
            refine wp_steps 1 (t' := (31, [some (.ref 2), some (.ref (aSTR + 3)), some (.int 4)], [.int 1], (HD, mi, ml, mr))) rfl ?_
            refine wp_ret rfl rfl ⟨⟨Nat.le_refl _, Nat.le_refl _⟩, ?_⟩
            have q : e - a = 4 := (nI_eq (by omega) (by decide)).mp c_1
            exact ⟨by simp [wdF, rdF, q, show ¬ (4 ≤ 0) from c_2, show (byN (mi 3) n a) = 104 from c_3, show ¬ (4 ≤ 1) from c_4, show (byN (mi 3) n (a + 1)) = 101 from c_5, show ¬ (4 ≤ 2) from c_6, show (byN (mi 3) n (a + 2)) = 108 from c_7, show ¬ (4 ≤ 3) from c_8, show (byN (mi 3) n (a + 3)) = 112 from c_9, show 4 ≤ 4 from c_10], rfl⟩
          · have c_9 : ¬ ((byN (mi 3) n (a + 3)) = 112) := of_decide_eq_false c_9
            refine wp_steps 1 (t' := (27, [some (.ref 2), some (.ref (aSTR + 3)), some (.int 3)], [.int 0], (HD, mi, ml, mr))) rfl ?_
            refine wp_ret rfl rfl ⟨⟨Nat.le_refl _, Nat.le_refl _⟩, ?_⟩
            have q : e - a = 4 := (nI_eq (by omega) (by decide)).mp c_1
            exact ⟨by simp [wdF, rdF, q, show ¬ (4 ≤ 0) from c_2, show (byN (mi 3) n a) = 104 from c_3, show ¬ (4 ≤ 1) from c_4, show (byN (mi 3) n (a + 1)) = 101 from c_5, show ¬ (4 ≤ 2) from c_6, show (byN (mi 3) n (a + 2)) = 108 from c_7, show ¬ (4 ≤ 3) from c_8, show ¬ ((byN (mi 3) n (a + 3)) = 112) from c_9], rfl⟩
        · have c_7 : ¬ ((byN (mi 3) n (a + 2)) = 108) := of_decide_eq_false c_7
          refine wp_steps 1 (t' := (27, [some (.ref 2), some (.ref (aSTR + 3)), some (.int 2)], [.int 0], (HD, mi, ml, mr))) rfl ?_
          refine wp_ret rfl rfl ⟨⟨Nat.le_refl _, Nat.le_refl _⟩, ?_⟩
          have q : e - a = 4 := (nI_eq (by omega) (by decide)).mp c_1
          exact ⟨by simp [wdF, rdF, q, show ¬ (4 ≤ 0) from c_2, show (byN (mi 3) n a) = 104 from c_3, show ¬ (4 ≤ 1) from c_4, show (byN (mi 3) n (a + 1)) = 101 from c_5, show ¬ (4 ≤ 2) from c_6, show ¬ ((byN (mi 3) n (a + 2)) = 108) from c_7], rfl⟩
      · have c_5 : ¬ ((byN (mi 3) n (a + 1)) = 101) := of_decide_eq_false c_5
        refine wp_steps 1 (t' := (27, [some (.ref 2), some (.ref (aSTR + 3)), some (.int 1)], [.int 0], (HD, mi, ml, mr))) rfl ?_
        refine wp_ret rfl rfl ⟨⟨Nat.le_refl _, Nat.le_refl _⟩, ?_⟩
        have q : e - a = 4 := (nI_eq (by omega) (by decide)).mp c_1
        exact ⟨by simp [wdF, rdF, q, show ¬ (4 ≤ 0) from c_2, show (byN (mi 3) n a) = 104 from c_3, show ¬ (4 ≤ 1) from c_4, show ¬ ((byN (mi 3) n (a + 1)) = 101) from c_5], rfl⟩
    · have c_3 : ¬ ((byN (mi 3) n (a + 0)) = 104) := of_decide_eq_false c_3
      refine wp_steps 1 (t' := (27, [some (.ref 2), some (.ref (aSTR + 3)), some (.int 0)], [.int 0], (HD, mi, ml, mr))) rfl ?_
      refine wp_ret rfl rfl ⟨⟨Nat.le_refl _, Nat.le_refl _⟩, ?_⟩
      have q : e - a = 4 := (nI_eq (by omega) (by decide)).mp c_1
      exact ⟨by simp [wdF, rdF, q, show ¬ (4 ≤ 0) from c_2, show ¬ ((byN (mi 3) n a) = 104) from c_3], rfl⟩
  · have c_1 : ¬ ((nI (e - a)) = 4) := of_decide_eq_false c_1
    refine wp_steps 1 (t' := (9, [some (.ref 2), some (.ref (aSTR + 3)), none], [.int 0], (HD, mi, ml, mr))) rfl ?_
    refine wp_ret rfl rfl ⟨⟨Nat.le_refl _, Nat.le_refl _⟩, ?_⟩
    have q : ¬ e - a = 4 := fun q => c_1 (by rw [q]; rfl)
    exact ⟨by simp [wdF, q], rfl⟩
set_option maxRecDepth 20000 in
set_option maxHeartbeats 1000000 in
theorem c_reads4 {X : aXt × Value} {mi : Nat → Nat → Int32} {ml : Nat → Nat → Int64} {mr : Nat → Nat → Option Nat} (hM : MRok mr) {n : Nat} (hn : n ≤ 160) (hs : mi 2 0 = nI n) (hX : outOK X) {a e : Nat} (hae : a ≤ e) (hl : e ≤ 170) (he4 : mi 2 4 = nI a) (he5 : mi 2 5 = nI e) : aCW X 5 29 [.ref 2, .ref (aSTR + 4)] (HD, mi, ml, mr) (rdI mi ml mr (wdF (byN (mi 3) n) a e [110, 117, 109, 98, 101, 114])) := by
  refine cw_of (cd := cd_X1_reads) (nL := 3) rfl rfl ?_
  show aWP _ _ (0, [some (.ref 2), some (.ref (aSTR + 4)), none], [], (HD, mi, ml, mr)) _
  refine wp_steps 1 (t' := (1, [some (.ref 2), some (.ref (aSTR + 4)), none], [.ref 2], (HD, mi, ml, mr))) rfl ?_
  refine wp_geti rfl ⟨by decide, rfl⟩ (Or.inl rfl) ?_
  rw [he5]
  refine wp_steps 1 (t' := (3, [some (.ref 2), some (.ref (aSTR + 4)), none], [.ref 2, .int (nI e)], (HD, mi, ml, mr))) rfl ?_
  refine wp_geti rfl ⟨by decide, rfl⟩ (Or.inl rfl) ?_
  rw [he4]
  refine wp_steps 1 (t' := (5, [some (.ref 2), some (.ref (aSTR + 4)), none], [.int ((nI e) - (nI a))], (HD, mi, ml, mr))) rfl ?_
  rw [nI_sb hae]
  refine wp_steps 1 (t' := (6, [some (.ref 2), some (.ref (aSTR + 4)), none], [.ref (aSTR + 4), .int (nI (e - a))], (HD, mi, ml, mr))) rfl ?_
  refine wp_calt (as := []) rfl rfl rfl (Nat.le_of_ble_eq_true rfl) (by decide) (c_len4) (by decide) ?_
  rintro _ _ ⟨rfl, rfl⟩
  show aWP _ _ (7, [some (.ref 2), some (.ref (aSTR + 4)), none], [.int 6, .int (nI (e - a))], (HD, mi, ml, mr)) _
  refine wp_bC rfl (fun c_1 => ?_) (fun c_1 => ?_)
  · have c_1 : (nI (e - a)) = 6 := of_decide_eq_true c_1
    refine wp_steps 4 (t' := (14, [some (.ref 2), some (.ref (aSTR + 4)), some (.int 0)], [.ref (aSTR + 4), .int 0], (HD, mi, ml, mr))) rfl ?_
    refine wp_calt (as := []) rfl rfl rfl (Nat.le_of_ble_eq_true rfl) (by decide) (c_len4) (by decide) ?_
    rintro _ _ ⟨rfl, rfl⟩
    show aWP _ _ (15, [some (.ref 2), some (.ref (aSTR + 4)), some (.int 0)], [.int 6, .int 0], (HD, mi, ml, mr)) _
    refine wp_bC rfl (fun c_2 => ?_) (fun c_2 => ?_)
    · have c_2 : 6 ≤ 0 := of_decide_eq_true c_2
      exact absurd c_2 (by decide)
    have c_2 : ¬ (6 ≤ 0) := of_decide_eq_false c_2
    refine wp_steps 2 (t' := (18, [some (.ref 2), some (.ref (aSTR + 4)), some (.int 0)], [.ref 2, .ref 2], (HD, mi, ml, mr))) rfl ?_
    refine wp_geti rfl ⟨by decide, rfl⟩ (Or.inl rfl) ?_
    rw [he4]
    refine wp_steps 2 (t' := (21, [some (.ref 2), some (.ref (aSTR + 4)), some (.int 0)], [.int ((nI a) + 0), .ref 2], (HD, mi, ml, mr))) rfl ?_
    rw [show nI a + 0 = nI (a + 0) from nI_add a 0]
    refine wp_calv (as := [.int (nI (a + 0))]) rfl rfl rfl (Nat.le_of_ble_eq_true rfl) ⟨by decide, rfl⟩ (c_byteAt hM hn hs (p := a + 0) (by omega)) (by decide) ?_
    rintro _ _ ⟨rfl, rfl⟩
    show aWP _ _ (22, [some (.ref 2), some (.ref (aSTR + 4)), some (.int 0)], [.int (byN (mi 3) n (a + 0))], (HD, mi, ml, mr)) _
    refine wp_steps 2 (t' := (24, [some (.ref 2), some (.ref (aSTR + 4)), some (.int 0)], [.int 0, .ref (aSTR + 4), .int (byN (mi 3) n (a + 0))], (HD, mi, ml, mr))) rfl ?_
    refine wp_calt (as := [.int 0]) rfl rfl rfl (Nat.le_of_ble_eq_true rfl) (by decide) (c_chr4_0 hX) (by decide) ?_
    rintro _ _ ⟨rfl, rfl⟩
    show aWP _ _ (25, [some (.ref 2), some (.ref (aSTR + 4)), some (.int 0)], [.int 110, .int (byN (mi 3) n (a + 0))], (HD, mi, ml, mr)) _
    refine wp_bC rfl (fun c_3 => ?_) (fun c_3 => ?_)
    · have c_3 : (byN (mi 3) n (a + 0)) = 110 := of_decide_eq_true c_3
      refine wp_steps 4 (t' := (14, [some (.ref 2), some (.ref (aSTR + 4)), some (.int 1)], [.ref (aSTR + 4), .int 1], (HD, mi, ml, mr))) rfl ?_
      refine wp_calt (as := []) rfl rfl rfl (Nat.le_of_ble_eq_true rfl) (by decide) (c_len4) (by decide) ?_
      rintro _ _ ⟨rfl, rfl⟩
      show aWP _ _ (15, [some (.ref 2), some (.ref (aSTR + 4)), some (.int 1)], [.int 6, .int 1], (HD, mi, ml, mr)) _
      refine wp_bC rfl (fun c_4 => ?_) (fun c_4 => ?_)
      · have c_4 : 6 ≤ 1 := of_decide_eq_true c_4
        exact absurd c_4 (by decide)
      have c_4 : ¬ (6 ≤ 1) := of_decide_eq_false c_4
      refine wp_steps 2 (t' := (18, [some (.ref 2), some (.ref (aSTR + 4)), some (.int 1)], [.ref 2, .ref 2], (HD, mi, ml, mr))) rfl ?_
      refine wp_geti rfl ⟨by decide, rfl⟩ (Or.inl rfl) ?_
      rw [he4]
      refine wp_steps 2 (t' := (21, [some (.ref 2), some (.ref (aSTR + 4)), some (.int 1)], [.int ((nI a) + 1), .ref 2], (HD, mi, ml, mr))) rfl ?_
      rw [show nI a + 1 = nI (a + 1) from nI_add a 1]
      refine wp_calv (as := [.int (nI (a + 1))]) rfl rfl rfl (Nat.le_of_ble_eq_true rfl) ⟨by decide, rfl⟩ (c_byteAt hM hn hs (p := a + 1) (by omega)) (by decide) ?_
      rintro _ _ ⟨rfl, rfl⟩
      show aWP _ _ (22, [some (.ref 2), some (.ref (aSTR + 4)), some (.int 1)], [.int (byN (mi 3) n (a + 1))], (HD, mi, ml, mr)) _
      refine wp_steps 2 (t' := (24, [some (.ref 2), some (.ref (aSTR + 4)), some (.int 1)], [.int 1, .ref (aSTR + 4), .int (byN (mi 3) n (a + 1))], (HD, mi, ml, mr))) rfl ?_
      refine wp_calt (as := [.int 1]) rfl rfl rfl (Nat.le_of_ble_eq_true rfl) (by decide) (c_chr4_1 hX) (by decide) ?_
      rintro _ _ ⟨rfl, rfl⟩
      show aWP _ _ (25, [some (.ref 2), some (.ref (aSTR + 4)), some (.int 1)], [.int 117, .int (byN (mi 3) n (a + 1))], (HD, mi, ml, mr)) _
      refine wp_bC rfl (fun c_5 => ?_) (fun c_5 => ?_)
      · have c_5 : (byN (mi 3) n (a + 1)) = 117 := of_decide_eq_true c_5
        refine wp_steps 4 (t' := (14, [some (.ref 2), some (.ref (aSTR + 4)), some (.int 2)], [.ref (aSTR + 4), .int 2], (HD, mi, ml, mr))) rfl ?_
        refine wp_calt (as := []) rfl rfl rfl (Nat.le_of_ble_eq_true rfl) (by decide) (c_len4) (by decide) ?_
        rintro _ _ ⟨rfl, rfl⟩
        show aWP _ _ (15, [some (.ref 2), some (.ref (aSTR + 4)), some (.int 2)], [.int 6, .int 2], (HD, mi, ml, mr)) _
        refine wp_bC rfl (fun c_6 => ?_) (fun c_6 => ?_)
        · have c_6 : 6 ≤ 2 := of_decide_eq_true c_6
          exact absurd c_6 (by decide)
        have c_6 : ¬ (6 ≤ 2) := of_decide_eq_false c_6
        refine wp_steps 2 (t' := (18, [some (.ref 2), some (.ref (aSTR + 4)), some (.int 2)], [.ref 2, .ref 2], (HD, mi, ml, mr))) rfl ?_
        refine wp_geti rfl ⟨by decide, rfl⟩ (Or.inl rfl) ?_
        rw [he4]
        refine wp_steps 2 (t' := (21, [some (.ref 2), some (.ref (aSTR + 4)), some (.int 2)], [.int ((nI a) + 2), .ref 2], (HD, mi, ml, mr))) rfl ?_
        rw [show nI a + 2 = nI (a + 2) from nI_add a 2]
        refine wp_calv (as := [.int (nI (a + 2))]) rfl rfl rfl (Nat.le_of_ble_eq_true rfl) ⟨by decide, rfl⟩ (c_byteAt hM hn hs (p := a + 2) (by omega)) (by decide) ?_
        rintro _ _ ⟨rfl, rfl⟩
        show aWP _ _ (22, [some (.ref 2), some (.ref (aSTR + 4)), some (.int 2)], [.int (byN (mi 3) n (a + 2))], (HD, mi, ml, mr)) _
        refine wp_steps 2 (t' := (24, [some (.ref 2), some (.ref (aSTR + 4)), some (.int 2)], [.int 2, .ref (aSTR + 4), .int (byN (mi 3) n (a + 2))], (HD, mi, ml, mr))) rfl ?_
        refine wp_calt (as := [.int 2]) rfl rfl rfl (Nat.le_of_ble_eq_true rfl) (by decide) (c_chr4_2 hX) (by decide) ?_
        rintro _ _ ⟨rfl, rfl⟩
        show aWP _ _ (25, [some (.ref 2), some (.ref (aSTR + 4)), some (.int 2)], [.int 109, .int (byN (mi 3) n (a + 2))], (HD, mi, ml, mr)) _
        refine wp_bC rfl (fun c_7 => ?_) (fun c_7 => ?_)
        · have c_7 : (byN (mi 3) n (a + 2)) = 109 := of_decide_eq_true c_7
          refine wp_steps 4 (t' := (14, [some (.ref 2), some (.ref (aSTR + 4)), some (.int 3)], [.ref (aSTR + 4), .int 3], (HD, mi, ml, mr))) rfl ?_
          refine wp_calt (as := []) rfl rfl rfl (Nat.le_of_ble_eq_true rfl) (by decide) (c_len4) (by decide) ?_
          rintro _ _ ⟨rfl, rfl⟩
          show aWP _ _ (15, [some (.ref 2), some (.ref (aSTR + 4)), some (.int 3)], [.int 6, .int 3], (HD, mi, ml, mr)) _
          refine wp_bC rfl (fun c_8 => ?_) (fun c_8 => ?_)
          · have c_8 : 6 ≤ 3 := of_decide_eq_true c_8
            exact absurd c_8 (by decide)
          have c_8 : ¬ (6 ≤ 3) := of_decide_eq_false c_8
          refine wp_steps 2 (t' := (18, [some (.ref 2), some (.ref (aSTR + 4)), some (.int 3)], [.ref 2, .ref 2], (HD, mi, ml, mr))) rfl ?_
          refine wp_geti rfl ⟨by decide, rfl⟩ (Or.inl rfl) ?_
          rw [he4]
          refine wp_steps 2 (t' := (21, [some (.ref 2), some (.ref (aSTR + 4)), some (.int 3)], [.int ((nI a) + 3), .ref 2], (HD, mi, ml, mr))) rfl ?_
          rw [show nI a + 3 = nI (a + 3) from nI_add a 3]
          refine wp_calv (as := [.int (nI (a + 3))]) rfl rfl rfl (Nat.le_of_ble_eq_true rfl) ⟨by decide, rfl⟩ (c_byteAt hM hn hs (p := a + 3) (by omega)) (by decide) ?_
          rintro _ _ ⟨rfl, rfl⟩
          show aWP _ _ (22, [some (.ref 2), some (.ref (aSTR + 4)), some (.int 3)], [.int (byN (mi 3) n (a + 3))], (HD, mi, ml, mr)) _
          refine wp_steps 2 (t' := (24, [some (.ref 2), some (.ref (aSTR + 4)), some (.int 3)], [.int 3, .ref (aSTR + 4), .int (byN (mi 3) n (a + 3))], (HD, mi, ml, mr))) rfl ?_
          refine wp_calt (as := [.int 3]) rfl rfl rfl (Nat.le_of_ble_eq_true rfl) (by decide) (c_chr4_3 hX) (by decide) ?_
          rintro _ _ ⟨rfl, rfl⟩
          show aWP _ _ (25, [some (.ref 2), some (.ref (aSTR + 4)), some (.int 3)], [.int 98, .int (byN (mi 3) n (a + 3))], (HD, mi, ml, mr)) _
          refine wp_bC rfl (fun c_9 => ?_) (fun c_9 => ?_)
          · have c_9 : (byN (mi 3) n (a + 3)) = 98 := of_decide_eq_true c_9
            refine wp_steps 4 (t' := (14, [some (.ref 2), some (.ref (aSTR + 4)), some (.int 4)], [.ref (aSTR + 4), .int 4], (HD, mi, ml, mr))) rfl ?_
            refine wp_calt (as := []) rfl rfl rfl (Nat.le_of_ble_eq_true rfl) (by decide) (c_len4) (by decide) ?_
            rintro _ _ ⟨rfl, rfl⟩
            show aWP _ _ (15, [some (.ref 2), some (.ref (aSTR + 4)), some (.int 4)], [.int 6, .int 4], (HD, mi, ml, mr)) _
            refine wp_bC rfl (fun c_10 => ?_) (fun c_10 => ?_)
            · have c_10 : 6 ≤ 4 := of_decide_eq_true c_10
              exact absurd c_10 (by decide)
            have c_10 : ¬ (6 ≤ 4) := of_decide_eq_false c_10
            refine wp_steps 2 (t' := (18, [some (.ref 2), some (.ref (aSTR + 4)), some (.int 4)], [.ref 2, .ref 2], (HD, mi, ml, mr))) rfl ?_
            refine wp_geti rfl ⟨by decide, rfl⟩ (Or.inl rfl) ?_
            rw [he4]
            refine wp_steps 2 (t' := (21, [some (.ref 2), some (.ref (aSTR + 4)), some (.int 4)], [.int ((nI a) + 4), .ref 2], (HD, mi, ml, mr))) rfl ?_
            rw [show nI a + 4 = nI (a + 4) from nI_add a 4]
            refine wp_calv (as := [.int (nI (a + 4))]) rfl rfl rfl (Nat.le_of_ble_eq_true rfl) ⟨by decide, rfl⟩ (c_byteAt hM hn hs (p := a + 4) (by omega)) (by decide) ?_
            rintro _ _ ⟨rfl, rfl⟩
            show aWP _ _ (22, [some (.ref 2), some (.ref (aSTR + 4)), some (.int 4)], [.int (byN (mi 3) n (a + 4))], (HD, mi, ml, mr)) _
            refine wp_steps 2 (t' := (24, [some (.ref 2), some (.ref (aSTR + 4)), some (.int 4)], [.int 4, .ref (aSTR + 4), .int (byN (mi 3) n (a + 4))], (HD, mi, ml, mr))) rfl ?_
            refine wp_calt (as := [.int 4]) rfl rfl rfl (Nat.le_of_ble_eq_true rfl) (by decide) (c_chr4_4 hX) (by decide) ?_
            rintro _ _ ⟨rfl, rfl⟩
            show aWP _ _ (25, [some (.ref 2), some (.ref (aSTR + 4)), some (.int 4)], [.int 101, .int (byN (mi 3) n (a + 4))], (HD, mi, ml, mr)) _
            refine wp_bC rfl (fun c_11 => ?_) (fun c_11 => ?_)
            · have c_11 : (byN (mi 3) n (a + 4)) = 101 := of_decide_eq_true c_11
              refine wp_steps 4 (t' := (14, [some (.ref 2), some (.ref (aSTR + 4)), some (.int 5)], [.ref (aSTR + 4), .int 5], (HD, mi, ml, mr))) rfl ?_
              refine wp_calt (as := []) rfl rfl rfl (Nat.le_of_ble_eq_true rfl) (by decide) (c_len4) (by decide) ?_
              rintro _ _ ⟨rfl, rfl⟩
              show aWP _ _ (15, [some (.ref 2), some (.ref (aSTR + 4)), some (.int 5)], [.int 6, .int 5], (HD, mi, ml, mr)) _
              refine wp_bC rfl (fun c_12 => ?_) (fun c_12 => ?_)
              · have c_12 : 6 ≤ 5 := of_decide_eq_true c_12
                exact absurd c_12 (by decide)
              have c_12 : ¬ (6 ≤ 5) := of_decide_eq_false c_12
              refine wp_steps 2 (t' := (18, [some (.ref 2), some (.ref (aSTR + 4)), some (.int 5)], [.ref 2, .ref 2], (HD, mi, ml, mr))) rfl ?_
              refine wp_geti rfl ⟨by decide, rfl⟩ (Or.inl rfl) ?_
              rw [he4]
              refine wp_steps 2 (t' := (21, [some (.ref 2), some (.ref (aSTR + 4)), some (.int 5)], [.int ((nI a) + 5), .ref 2], (HD, mi, ml, mr))) rfl ?_
              rw [show nI a + 5 = nI (a + 5) from nI_add a 5]
              refine wp_calv (as := [.int (nI (a + 5))]) rfl rfl rfl (Nat.le_of_ble_eq_true rfl) ⟨by decide, rfl⟩ (c_byteAt hM hn hs (p := a + 5) (by omega)) (by decide) ?_
              rintro _ _ ⟨rfl, rfl⟩
              show aWP _ _ (22, [some (.ref 2), some (.ref (aSTR + 4)), some (.int 5)], [.int (byN (mi 3) n (a + 5))], (HD, mi, ml, mr)) _
              refine wp_steps 2 (t' := (24, [some (.ref 2), some (.ref (aSTR + 4)), some (.int 5)], [.int 5, .ref (aSTR + 4), .int (byN (mi 3) n (a + 5))], (HD, mi, ml, mr))) rfl ?_
              refine wp_calt (as := [.int 5]) rfl rfl rfl (Nat.le_of_ble_eq_true rfl) (by decide) (c_chr4_5 hX) (by decide) ?_
              rintro _ _ ⟨rfl, rfl⟩
              show aWP _ _ (25, [some (.ref 2), some (.ref (aSTR + 4)), some (.int 5)], [.int 114, .int (byN (mi 3) n (a + 5))], (HD, mi, ml, mr)) _
              refine wp_bC rfl (fun c_13 => ?_) (fun c_13 => ?_)
              · have c_13 : (byN (mi 3) n (a + 5)) = 114 := of_decide_eq_true c_13
                refine wp_steps 4 (t' := (14, [some (.ref 2), some (.ref (aSTR + 4)), some (.int 6)], [.ref (aSTR + 4), .int 6], (HD, mi, ml, mr))) rfl ?_
                refine wp_calt (as := []) rfl rfl rfl (Nat.le_of_ble_eq_true rfl) (by decide) (c_len4) (by decide) ?_
                rintro _ _ ⟨rfl, rfl⟩
                show aWP _ _ (15, [some (.ref 2), some (.ref (aSTR + 4)), some (.int 6)], [.int 6, .int 6], (HD, mi, ml, mr)) _
                refine wp_bC rfl (fun c_14 => ?_) (fun c_14 => ?_)
                rotate_left
                · have c_14 : ¬ (6 ≤ 6) := of_decide_eq_false c_14
                  exact absurd c_14 (by decide)
                have c_14 : 6 ≤ 6 := of_decide_eq_true c_14
                refine wp_steps 1 (t' := (31, [some (.ref 2), some (.ref (aSTR + 4)), some (.int 6)], [.int 1], (HD, mi, ml, mr))) rfl ?_
                refine wp_ret rfl rfl ⟨⟨Nat.le_refl _, Nat.le_refl _⟩, ?_⟩
                have q : e - a = 6 := (nI_eq (by omega) (by decide)).mp c_1
                exact ⟨by simp [wdF, rdF, q, show ¬ (6 ≤ 0) from c_2, show (byN (mi 3) n a) = 110 from c_3, show ¬ (6 ≤ 1) from c_4, show (byN (mi 3) n (a + 1)) = 117 from c_5, show ¬ (6 ≤ 2) from c_6, show (byN (mi 3) n (a + 2)) = 109 from c_7, show ¬ (6 ≤ 3) from c_8, show (byN (mi 3) n (a + 3)) = 98 from c_9, show ¬ (6 ≤ 4) from c_10, show (byN (mi 3) n (a + 4)) = 101 from c_11, show ¬ (6 ≤ 5) from c_12, show (byN (mi 3) n (a + 5)) = 114 from c_13, show 6 ≤ 6 from c_14], rfl⟩
              · have c_13 : ¬ ((byN (mi 3) n (a + 5)) = 114) := of_decide_eq_false c_13
                refine wp_steps 1 (t' := (27, [some (.ref 2), some (.ref (aSTR + 4)), some (.int 5)], [.int 0], (HD, mi, ml, mr))) rfl ?_
                refine wp_ret rfl rfl ⟨⟨Nat.le_refl _, Nat.le_refl _⟩, ?_⟩
                have q : e - a = 6 := (nI_eq (by omega) (by decide)).mp c_1
                exact ⟨by simp [wdF, rdF, q, show ¬ (6 ≤ 0) from c_2, show (byN (mi 3) n a) = 110 from c_3, show ¬ (6 ≤ 1) from c_4, show (byN (mi 3) n (a + 1)) = 117 from c_5, show ¬ (6 ≤ 2) from c_6, show (byN (mi 3) n (a + 2)) = 109 from c_7, show ¬ (6 ≤ 3) from c_8, show (byN (mi 3) n (a + 3)) = 98 from c_9, show ¬ (6 ≤ 4) from c_10, show (byN (mi 3) n (a + 4)) = 101 from c_11, show ¬ (6 ≤ 5) from c_12, show ¬ ((byN (mi 3) n (a + 5)) = 114) from c_13], rfl⟩
            · have c_11 : ¬ ((byN (mi 3) n (a + 4)) = 101) := of_decide_eq_false c_11
              refine wp_steps 1 (t' := (27, [some (.ref 2), some (.ref (aSTR + 4)), some (.int 4)], [.int 0], (HD, mi, ml, mr))) rfl ?_
              refine wp_ret rfl rfl ⟨⟨Nat.le_refl _, Nat.le_refl _⟩, ?_⟩
              have q : e - a = 6 := (nI_eq (by omega) (by decide)).mp c_1
              exact ⟨by simp [wdF, rdF, q, show ¬ (6 ≤ 0) from c_2, show (byN (mi 3) n a) = 110 from c_3, show ¬ (6 ≤ 1) from c_4, show (byN (mi 3) n (a + 1)) = 117 from c_5, show ¬ (6 ≤ 2) from c_6, show (byN (mi 3) n (a + 2)) = 109 from c_7, show ¬ (6 ≤ 3) from c_8, show (byN (mi 3) n (a + 3)) = 98 from c_9, show ¬ (6 ≤ 4) from c_10, show ¬ ((byN (mi 3) n (a + 4)) = 101) from c_11], rfl⟩
          · have c_9 : ¬ ((byN (mi 3) n (a + 3)) = 98) := of_decide_eq_false c_9
            refine wp_steps 1 (t' := (27, [some (.ref 2), some (.ref (aSTR + 4)), some (.int 3)], [.int 0], (HD, mi, ml, mr))) rfl ?_
            refine wp_ret rfl rfl ⟨⟨Nat.le_refl _, Nat.le_refl _⟩, ?_⟩
            have q : e - a = 6 := (nI_eq (by omega) (by decide)).mp c_1
            exact ⟨by simp [wdF, rdF, q, show ¬ (6 ≤ 0) from c_2, show (byN (mi 3) n a) = 110 from c_3, show ¬ (6 ≤ 1) from c_4, show (byN (mi 3) n (a + 1)) = 117 from c_5, show ¬ (6 ≤ 2) from c_6, show (byN (mi 3) n (a + 2)) = 109 from c_7, show ¬ (6 ≤ 3) from c_8, show ¬ ((byN (mi 3) n (a + 3)) = 98) from c_9], rfl⟩
        · have c_7 : ¬ ((byN (mi 3) n (a + 2)) = 109) := of_decide_eq_false c_7
          refine wp_steps 1 (t' := (27, [some (.ref 2), some (.ref (aSTR + 4)), some (.int 2)], [.int 0], (HD, mi, ml, mr))) rfl ?_
          refine wp_ret rfl rfl ⟨⟨Nat.le_refl _, Nat.le_refl _⟩, ?_⟩
          have q : e - a = 6 := (nI_eq (by omega) (by decide)).mp c_1
          exact ⟨by simp [wdF, rdF, q, show ¬ (6 ≤ 0) from c_2, show (byN (mi 3) n a) = 110 from c_3, show ¬ (6 ≤ 1) from c_4, show (byN (mi 3) n (a + 1)) = 117 from c_5, show ¬ (6 ≤ 2) from c_6, show ¬ ((byN (mi 3) n (a + 2)) = 109) from c_7], rfl⟩
      · have c_5 : ¬ ((byN (mi 3) n (a + 1)) = 117) := of_decide_eq_false c_5
        refine wp_steps 1 (t' := (27, [some (.ref 2), some (.ref (aSTR + 4)), some (.int 1)], [.int 0], (HD, mi, ml, mr))) rfl ?_
        refine wp_ret rfl rfl ⟨⟨Nat.le_refl _, Nat.le_refl _⟩, ?_⟩
        have q : e - a = 6 := (nI_eq (by omega) (by decide)).mp c_1
        exact ⟨by simp [wdF, rdF, q, show ¬ (6 ≤ 0) from c_2, show (byN (mi 3) n a) = 110 from c_3, show ¬ (6 ≤ 1) from c_4, show ¬ ((byN (mi 3) n (a + 1)) = 117) from c_5], rfl⟩
    · have c_3 : ¬ ((byN (mi 3) n (a + 0)) = 110) := of_decide_eq_false c_3
      refine wp_steps 1 (t' := (27, [some (.ref 2), some (.ref (aSTR + 4)), some (.int 0)], [.int 0], (HD, mi, ml, mr))) rfl ?_
      refine wp_ret rfl rfl ⟨⟨Nat.le_refl _, Nat.le_refl _⟩, ?_⟩
      have q : e - a = 6 := (nI_eq (by omega) (by decide)).mp c_1
      exact ⟨by simp [wdF, rdF, q, show ¬ (6 ≤ 0) from c_2, show ¬ ((byN (mi 3) n a) = 110) from c_3], rfl⟩
  · have c_1 : ¬ ((nI (e - a)) = 6) := of_decide_eq_false c_1
    refine wp_steps 1 (t' := (9, [some (.ref 2), some (.ref (aSTR + 4)), none], [.int 0], (HD, mi, ml, mr))) rfl ?_
    refine wp_ret rfl rfl ⟨⟨Nat.le_refl _, Nat.le_refl _⟩, ?_⟩
    have q : ¬ e - a = 6 := fun q => c_1 (by rw [q]; rfl)
    exact ⟨by simp [wdF, q], rfl⟩
set_option maxRecDepth 20000 in
set_option maxHeartbeats 1000000 in
theorem c_reads5 {X : aXt × Value} {mi : Nat → Nat → Int32} {ml : Nat → Nat → Int64} {mr : Nat → Nat → Option Nat} (hM : MRok mr) {n : Nat} (hn : n ≤ 160) (hs : mi 2 0 = nI n) (hX : outOK X) {a e : Nat} (hae : a ≤ e) (hl : e ≤ 170) (he4 : mi 2 4 = nI a) (he5 : mi 2 5 = nI e) : aCW X 5 29 [.ref 2, .ref (aSTR + 5)] (HD, mi, ml, mr) (rdI mi ml mr (wdF (byN (mi 3) n) a e [100, 97, 121])) := by
  refine cw_of (cd := cd_X1_reads) (nL := 3) rfl rfl ?_
  show aWP _ _ (0, [some (.ref 2), some (.ref (aSTR + 5)), none], [], (HD, mi, ml, mr)) _
  refine wp_steps 1 (t' := (1, [some (.ref 2), some (.ref (aSTR + 5)), none], [.ref 2], (HD, mi, ml, mr))) rfl ?_
  refine wp_geti rfl ⟨by decide, rfl⟩ (Or.inl rfl) ?_
  rw [he5]
  refine wp_steps 1 (t' := (3, [some (.ref 2), some (.ref (aSTR + 5)), none], [.ref 2, .int (nI e)], (HD, mi, ml, mr))) rfl ?_
  refine wp_geti rfl ⟨by decide, rfl⟩ (Or.inl rfl) ?_
  rw [he4]
  refine wp_steps 1 (t' := (5, [some (.ref 2), some (.ref (aSTR + 5)), none], [.int ((nI e) - (nI a))], (HD, mi, ml, mr))) rfl ?_
  rw [nI_sb hae]
  refine wp_steps 1 (t' := (6, [some (.ref 2), some (.ref (aSTR + 5)), none], [.ref (aSTR + 5), .int (nI (e - a))], (HD, mi, ml, mr))) rfl ?_
  refine wp_calt (as := []) rfl rfl rfl (Nat.le_of_ble_eq_true rfl) (by decide) (c_len5) (by decide) ?_
  rintro _ _ ⟨rfl, rfl⟩
  show aWP _ _ (7, [some (.ref 2), some (.ref (aSTR + 5)), none], [.int 3, .int (nI (e - a))], (HD, mi, ml, mr)) _
  refine wp_bC rfl (fun c_1 => ?_) (fun c_1 => ?_)
  · have c_1 : (nI (e - a)) = 3 := of_decide_eq_true c_1
    refine wp_steps 4 (t' := (14, [some (.ref 2), some (.ref (aSTR + 5)), some (.int 0)], [.ref (aSTR + 5), .int 0], (HD, mi, ml, mr))) rfl ?_
    refine wp_calt (as := []) rfl rfl rfl (Nat.le_of_ble_eq_true rfl) (by decide) (c_len5) (by decide) ?_
    rintro _ _ ⟨rfl, rfl⟩
    show aWP _ _ (15, [some (.ref 2), some (.ref (aSTR + 5)), some (.int 0)], [.int 3, .int 0], (HD, mi, ml, mr)) _
    refine wp_bC rfl (fun c_2 => ?_) (fun c_2 => ?_)
    · have c_2 : 3 ≤ 0 := of_decide_eq_true c_2
      exact absurd c_2 (by decide)
    have c_2 : ¬ (3 ≤ 0) := of_decide_eq_false c_2
    refine wp_steps 2 (t' := (18, [some (.ref 2), some (.ref (aSTR + 5)), some (.int 0)], [.ref 2, .ref 2], (HD, mi, ml, mr))) rfl ?_
    refine wp_geti rfl ⟨by decide, rfl⟩ (Or.inl rfl) ?_
    rw [he4]
    refine wp_steps 2 (t' := (21, [some (.ref 2), some (.ref (aSTR + 5)), some (.int 0)], [.int ((nI a) + 0), .ref 2], (HD, mi, ml, mr))) rfl ?_
    rw [show nI a + 0 = nI (a + 0) from nI_add a 0]
    refine wp_calv (as := [.int (nI (a + 0))]) rfl rfl rfl (Nat.le_of_ble_eq_true rfl) ⟨by decide, rfl⟩ (c_byteAt hM hn hs (p := a + 0) (by omega)) (by decide) ?_
    rintro _ _ ⟨rfl, rfl⟩
    show aWP _ _ (22, [some (.ref 2), some (.ref (aSTR + 5)), some (.int 0)], [.int (byN (mi 3) n (a + 0))], (HD, mi, ml, mr)) _
    refine wp_steps 2 (t' := (24, [some (.ref 2), some (.ref (aSTR + 5)), some (.int 0)], [.int 0, .ref (aSTR + 5), .int (byN (mi 3) n (a + 0))], (HD, mi, ml, mr))) rfl ?_
    refine wp_calt (as := [.int 0]) rfl rfl rfl (Nat.le_of_ble_eq_true rfl) (by decide) (c_chr5_0 hX) (by decide) ?_
    rintro _ _ ⟨rfl, rfl⟩
    show aWP _ _ (25, [some (.ref 2), some (.ref (aSTR + 5)), some (.int 0)], [.int 100, .int (byN (mi 3) n (a + 0))], (HD, mi, ml, mr)) _
    refine wp_bC rfl (fun c_3 => ?_) (fun c_3 => ?_)
    · have c_3 : (byN (mi 3) n (a + 0)) = 100 := of_decide_eq_true c_3
      refine wp_steps 4 (t' := (14, [some (.ref 2), some (.ref (aSTR + 5)), some (.int 1)], [.ref (aSTR + 5), .int 1], (HD, mi, ml, mr))) rfl ?_
      refine wp_calt (as := []) rfl rfl rfl (Nat.le_of_ble_eq_true rfl) (by decide) (c_len5) (by decide) ?_
      rintro _ _ ⟨rfl, rfl⟩
      show aWP _ _ (15, [some (.ref 2), some (.ref (aSTR + 5)), some (.int 1)], [.int 3, .int 1], (HD, mi, ml, mr)) _
      refine wp_bC rfl (fun c_4 => ?_) (fun c_4 => ?_)
      · have c_4 : 3 ≤ 1 := of_decide_eq_true c_4
        exact absurd c_4 (by decide)
      have c_4 : ¬ (3 ≤ 1) := of_decide_eq_false c_4
      refine wp_steps 2 (t' := (18, [some (.ref 2), some (.ref (aSTR + 5)), some (.int 1)], [.ref 2, .ref 2], (HD, mi, ml, mr))) rfl ?_
      refine wp_geti rfl ⟨by decide, rfl⟩ (Or.inl rfl) ?_
      rw [he4]
      refine wp_steps 2 (t' := (21, [some (.ref 2), some (.ref (aSTR + 5)), some (.int 1)], [.int ((nI a) + 1), .ref 2], (HD, mi, ml, mr))) rfl ?_
      rw [show nI a + 1 = nI (a + 1) from nI_add a 1]
      refine wp_calv (as := [.int (nI (a + 1))]) rfl rfl rfl (Nat.le_of_ble_eq_true rfl) ⟨by decide, rfl⟩ (c_byteAt hM hn hs (p := a + 1) (by omega)) (by decide) ?_
      rintro _ _ ⟨rfl, rfl⟩
      show aWP _ _ (22, [some (.ref 2), some (.ref (aSTR + 5)), some (.int 1)], [.int (byN (mi 3) n (a + 1))], (HD, mi, ml, mr)) _
      refine wp_steps 2 (t' := (24, [some (.ref 2), some (.ref (aSTR + 5)), some (.int 1)], [.int 1, .ref (aSTR + 5), .int (byN (mi 3) n (a + 1))], (HD, mi, ml, mr))) rfl ?_
      refine wp_calt (as := [.int 1]) rfl rfl rfl (Nat.le_of_ble_eq_true rfl) (by decide) (c_chr5_1 hX) (by decide) ?_
      rintro _ _ ⟨rfl, rfl⟩
      show aWP _ _ (25, [some (.ref 2), some (.ref (aSTR + 5)), some (.int 1)], [.int 97, .int (byN (mi 3) n (a + 1))], (HD, mi, ml, mr)) _
      refine wp_bC rfl (fun c_5 => ?_) (fun c_5 => ?_)
      · have c_5 : (byN (mi 3) n (a + 1)) = 97 := of_decide_eq_true c_5
        refine wp_steps 4 (t' := (14, [some (.ref 2), some (.ref (aSTR + 5)), some (.int 2)], [.ref (aSTR + 5), .int 2], (HD, mi, ml, mr))) rfl ?_
        refine wp_calt (as := []) rfl rfl rfl (Nat.le_of_ble_eq_true rfl) (by decide) (c_len5) (by decide) ?_
        rintro _ _ ⟨rfl, rfl⟩
        show aWP _ _ (15, [some (.ref 2), some (.ref (aSTR + 5)), some (.int 2)], [.int 3, .int 2], (HD, mi, ml, mr)) _
        refine wp_bC rfl (fun c_6 => ?_) (fun c_6 => ?_)
        · have c_6 : 3 ≤ 2 := of_decide_eq_true c_6
          exact absurd c_6 (by decide)
        have c_6 : ¬ (3 ≤ 2) := of_decide_eq_false c_6
        refine wp_steps 2 (t' := (18, [some (.ref 2), some (.ref (aSTR + 5)), some (.int 2)], [.ref 2, .ref 2], (HD, mi, ml, mr))) rfl ?_
        refine wp_geti rfl ⟨by decide, rfl⟩ (Or.inl rfl) ?_
        rw [he4]
        refine wp_steps 2 (t' := (21, [some (.ref 2), some (.ref (aSTR + 5)), some (.int 2)], [.int ((nI a) + 2), .ref 2], (HD, mi, ml, mr))) rfl ?_
        rw [show nI a + 2 = nI (a + 2) from nI_add a 2]
        refine wp_calv (as := [.int (nI (a + 2))]) rfl rfl rfl (Nat.le_of_ble_eq_true rfl) ⟨by decide, rfl⟩ (c_byteAt hM hn hs (p := a + 2) (by omega)) (by decide) ?_
        rintro _ _ ⟨rfl, rfl⟩
        show aWP _ _ (22, [some (.ref 2), some (.ref (aSTR + 5)), some (.int 2)], [.int (byN (mi 3) n (a + 2))], (HD, mi, ml, mr)) _
        refine wp_steps 2 (t' := (24, [some (.ref 2), some (.ref (aSTR + 5)), some (.int 2)], [.int 2, .ref (aSTR + 5), .int (byN (mi 3) n (a + 2))], (HD, mi, ml, mr))) rfl ?_
        refine wp_calt (as := [.int 2]) rfl rfl rfl (Nat.le_of_ble_eq_true rfl) (by decide) (c_chr5_2 hX) (by decide) ?_
        rintro _ _ ⟨rfl, rfl⟩
        show aWP _ _ (25, [some (.ref 2), some (.ref (aSTR + 5)), some (.int 2)], [.int 121, .int (byN (mi 3) n (a + 2))], (HD, mi, ml, mr)) _
        refine wp_bC rfl (fun c_7 => ?_) (fun c_7 => ?_)
        · have c_7 : (byN (mi 3) n (a + 2)) = 121 := of_decide_eq_true c_7
          refine wp_steps 4 (t' := (14, [some (.ref 2), some (.ref (aSTR + 5)), some (.int 3)], [.ref (aSTR + 5), .int 3], (HD, mi, ml, mr))) rfl ?_
          refine wp_calt (as := []) rfl rfl rfl (Nat.le_of_ble_eq_true rfl) (by decide) (c_len5) (by decide) ?_
          rintro _ _ ⟨rfl, rfl⟩
          show aWP _ _ (15, [some (.ref 2), some (.ref (aSTR + 5)), some (.int 3)], [.int 3, .int 3], (HD, mi, ml, mr)) _
          refine wp_bC rfl (fun c_8 => ?_) (fun c_8 => ?_)
          rotate_left
          · have c_8 : ¬ (3 ≤ 3) := of_decide_eq_false c_8
            exact absurd c_8 (by decide)
          have c_8 : 3 ≤ 3 := of_decide_eq_true c_8
          refine wp_steps 1 (t' := (31, [some (.ref 2), some (.ref (aSTR + 5)), some (.int 3)], [.int 1], (HD, mi, ml, mr))) rfl ?_
          refine wp_ret rfl rfl ⟨⟨Nat.le_refl _, Nat.le_refl _⟩, ?_⟩
          have q : e - a = 3 := (nI_eq (by omega) (by decide)).mp c_1
          exact ⟨by simp [wdF, rdF, q, show ¬ (3 ≤ 0) from c_2, show (byN (mi 3) n a) = 100 from c_3, show ¬ (3 ≤ 1) from c_4, show (byN (mi 3) n (a + 1)) = 97 from c_5, show ¬ (3 ≤ 2) from c_6, show (byN (mi 3) n (a + 2)) = 121 from c_7, show 3 ≤ 3 from c_8], rfl⟩
        · have c_7 : ¬ ((byN (mi 3) n (a + 2)) = 121) := of_decide_eq_false c_7
          refine wp_steps 1 (t' := (27, [some (.ref 2), some (.ref (aSTR + 5)), some (.int 2)], [.int 0], (HD, mi, ml, mr))) rfl ?_
          refine wp_ret rfl rfl ⟨⟨Nat.le_refl _, Nat.le_refl _⟩, ?_⟩
          have q : e - a = 3 := (nI_eq (by omega) (by decide)).mp c_1
          exact ⟨by simp [wdF, rdF, q, show ¬ (3 ≤ 0) from c_2, show (byN (mi 3) n a) = 100 from c_3, show ¬ (3 ≤ 1) from c_4, show (byN (mi 3) n (a + 1)) = 97 from c_5, show ¬ (3 ≤ 2) from c_6, show ¬ ((byN (mi 3) n (a + 2)) = 121) from c_7], rfl⟩
      · have c_5 : ¬ ((byN (mi 3) n (a + 1)) = 97) := of_decide_eq_false c_5
        refine wp_steps 1 (t' := (27, [some (.ref 2), some (.ref (aSTR + 5)), some (.int 1)], [.int 0], (HD, mi, ml, mr))) rfl ?_
        refine wp_ret rfl rfl ⟨⟨Nat.le_refl _, Nat.le_refl _⟩, ?_⟩
        have q : e - a = 3 := (nI_eq (by omega) (by decide)).mp c_1
        exact ⟨by simp [wdF, rdF, q, show ¬ (3 ≤ 0) from c_2, show (byN (mi 3) n a) = 100 from c_3, show ¬ (3 ≤ 1) from c_4, show ¬ ((byN (mi 3) n (a + 1)) = 97) from c_5], rfl⟩
    · have c_3 : ¬ ((byN (mi 3) n (a + 0)) = 100) := of_decide_eq_false c_3
      refine wp_steps 1 (t' := (27, [some (.ref 2), some (.ref (aSTR + 5)), some (.int 0)], [.int 0], (HD, mi, ml, mr))) rfl ?_
      refine wp_ret rfl rfl ⟨⟨Nat.le_refl _, Nat.le_refl _⟩, ?_⟩
      have q : e - a = 3 := (nI_eq (by omega) (by decide)).mp c_1
      exact ⟨by simp [wdF, rdF, q, show ¬ (3 ≤ 0) from c_2, show ¬ ((byN (mi 3) n a) = 100) from c_3], rfl⟩
  · have c_1 : ¬ ((nI (e - a)) = 3) := of_decide_eq_false c_1
    refine wp_steps 1 (t' := (9, [some (.ref 2), some (.ref (aSTR + 5)), none], [.int 0], (HD, mi, ml, mr))) rfl ?_
    refine wp_ret rfl rfl ⟨⟨Nat.le_refl _, Nat.le_refl _⟩, ?_⟩
    have q : ¬ e - a = 3 := fun q => c_1 (by rw [q]; rfl)
    exact ⟨by simp [wdF, q], rfl⟩
set_option maxRecDepth 20000 in
set_option maxHeartbeats 1000000 in
theorem c_reads6 {X : aXt × Value} {mi : Nat → Nat → Int32} {ml : Nat → Nat → Int64} {mr : Nat → Nat → Option Nat} (hM : MRok mr) {n : Nat} (hn : n ≤ 160) (hs : mi 2 0 = nI n) (hX : outOK X) {a e : Nat} (hae : a ≤ e) (hl : e ≤ 170) (he4 : mi 2 4 = nI a) (he5 : mi 2 5 = nI e) : aCW X 5 29 [.ref 2, .ref (aSTR + 6)] (HD, mi, ml, mr) (rdI mi ml mr (wdF (byN (mi 3) n) a e [100, 111, 110, 101])) := by
  refine cw_of (cd := cd_X1_reads) (nL := 3) rfl rfl ?_
  show aWP _ _ (0, [some (.ref 2), some (.ref (aSTR + 6)), none], [], (HD, mi, ml, mr)) _
  refine wp_steps 1 (t' := (1, [some (.ref 2), some (.ref (aSTR + 6)), none], [.ref 2], (HD, mi, ml, mr))) rfl ?_
  refine wp_geti rfl ⟨by decide, rfl⟩ (Or.inl rfl) ?_
  rw [he5]
  refine wp_steps 1 (t' := (3, [some (.ref 2), some (.ref (aSTR + 6)), none], [.ref 2, .int (nI e)], (HD, mi, ml, mr))) rfl ?_
  refine wp_geti rfl ⟨by decide, rfl⟩ (Or.inl rfl) ?_
  rw [he4]
  refine wp_steps 1 (t' := (5, [some (.ref 2), some (.ref (aSTR + 6)), none], [.int ((nI e) - (nI a))], (HD, mi, ml, mr))) rfl ?_
  rw [nI_sb hae]
  refine wp_steps 1 (t' := (6, [some (.ref 2), some (.ref (aSTR + 6)), none], [.ref (aSTR + 6), .int (nI (e - a))], (HD, mi, ml, mr))) rfl ?_
  refine wp_calt (as := []) rfl rfl rfl (Nat.le_of_ble_eq_true rfl) (by decide) (c_len6) (by decide) ?_
  rintro _ _ ⟨rfl, rfl⟩
  show aWP _ _ (7, [some (.ref 2), some (.ref (aSTR + 6)), none], [.int 4, .int (nI (e - a))], (HD, mi, ml, mr)) _
  refine wp_bC rfl (fun c_1 => ?_) (fun c_1 => ?_)
  · have c_1 : (nI (e - a)) = 4 := of_decide_eq_true c_1
    refine wp_steps 4 (t' := (14, [some (.ref 2), some (.ref (aSTR + 6)), some (.int 0)], [.ref (aSTR + 6), .int 0], (HD, mi, ml, mr))) rfl ?_
    refine wp_calt (as := []) rfl rfl rfl (Nat.le_of_ble_eq_true rfl) (by decide) (c_len6) (by decide) ?_
    rintro _ _ ⟨rfl, rfl⟩
    show aWP _ _ (15, [some (.ref 2), some (.ref (aSTR + 6)), some (.int 0)], [.int 4, .int 0], (HD, mi, ml, mr)) _
    refine wp_bC rfl (fun c_2 => ?_) (fun c_2 => ?_)
    · have c_2 : 4 ≤ 0 := of_decide_eq_true c_2
      exact absurd c_2 (by decide)
    have c_2 : ¬ (4 ≤ 0) := of_decide_eq_false c_2
    refine wp_steps 2 (t' := (18, [some (.ref 2), some (.ref (aSTR + 6)), some (.int 0)], [.ref 2, .ref 2], (HD, mi, ml, mr))) rfl ?_
    refine wp_geti rfl ⟨by decide, rfl⟩ (Or.inl rfl) ?_
    rw [he4]
    refine wp_steps 2 (t' := (21, [some (.ref 2), some (.ref (aSTR + 6)), some (.int 0)], [.int ((nI a) + 0), .ref 2], (HD, mi, ml, mr))) rfl ?_
    rw [show nI a + 0 = nI (a + 0) from nI_add a 0]
    refine wp_calv (as := [.int (nI (a + 0))]) rfl rfl rfl (Nat.le_of_ble_eq_true rfl) ⟨by decide, rfl⟩ (c_byteAt hM hn hs (p := a + 0) (by omega)) (by decide) ?_
    rintro _ _ ⟨rfl, rfl⟩
    show aWP _ _ (22, [some (.ref 2), some (.ref (aSTR + 6)), some (.int 0)], [.int (byN (mi 3) n (a + 0))], (HD, mi, ml, mr)) _
    refine wp_steps 2 (t' := (24, [some (.ref 2), some (.ref (aSTR + 6)), some (.int 0)], [.int 0, .ref (aSTR + 6), .int (byN (mi 3) n (a + 0))], (HD, mi, ml, mr))) rfl ?_
    refine wp_calt (as := [.int 0]) rfl rfl rfl (Nat.le_of_ble_eq_true rfl) (by decide) (c_chr6_0 hX) (by decide) ?_
    rintro _ _ ⟨rfl, rfl⟩
    show aWP _ _ (25, [some (.ref 2), some (.ref (aSTR + 6)), some (.int 0)], [.int 100, .int (byN (mi 3) n (a + 0))], (HD, mi, ml, mr)) _
    refine wp_bC rfl (fun c_3 => ?_) (fun c_3 => ?_)
    · have c_3 : (byN (mi 3) n (a + 0)) = 100 := of_decide_eq_true c_3
      refine wp_steps 4 (t' := (14, [some (.ref 2), some (.ref (aSTR + 6)), some (.int 1)], [.ref (aSTR + 6), .int 1], (HD, mi, ml, mr))) rfl ?_
      refine wp_calt (as := []) rfl rfl rfl (Nat.le_of_ble_eq_true rfl) (by decide) (c_len6) (by decide) ?_
      rintro _ _ ⟨rfl, rfl⟩
      show aWP _ _ (15, [some (.ref 2), some (.ref (aSTR + 6)), some (.int 1)], [.int 4, .int 1], (HD, mi, ml, mr)) _
      refine wp_bC rfl (fun c_4 => ?_) (fun c_4 => ?_)
      · have c_4 : 4 ≤ 1 := of_decide_eq_true c_4
        exact absurd c_4 (by decide)
      have c_4 : ¬ (4 ≤ 1) := of_decide_eq_false c_4
      refine wp_steps 2 (t' := (18, [some (.ref 2), some (.ref (aSTR + 6)), some (.int 1)], [.ref 2, .ref 2], (HD, mi, ml, mr))) rfl ?_
      refine wp_geti rfl ⟨by decide, rfl⟩ (Or.inl rfl) ?_
      rw [he4]
      refine wp_steps 2 (t' := (21, [some (.ref 2), some (.ref (aSTR + 6)), some (.int 1)], [.int ((nI a) + 1), .ref 2], (HD, mi, ml, mr))) rfl ?_
      rw [show nI a + 1 = nI (a + 1) from nI_add a 1]
      refine wp_calv (as := [.int (nI (a + 1))]) rfl rfl rfl (Nat.le_of_ble_eq_true rfl) ⟨by decide, rfl⟩ (c_byteAt hM hn hs (p := a + 1) (by omega)) (by decide) ?_
      rintro _ _ ⟨rfl, rfl⟩
      show aWP _ _ (22, [some (.ref 2), some (.ref (aSTR + 6)), some (.int 1)], [.int (byN (mi 3) n (a + 1))], (HD, mi, ml, mr)) _
      refine wp_steps 2 (t' := (24, [some (.ref 2), some (.ref (aSTR + 6)), some (.int 1)], [.int 1, .ref (aSTR + 6), .int (byN (mi 3) n (a + 1))], (HD, mi, ml, mr))) rfl ?_
      refine wp_calt (as := [.int 1]) rfl rfl rfl (Nat.le_of_ble_eq_true rfl) (by decide) (c_chr6_1 hX) (by decide) ?_
      rintro _ _ ⟨rfl, rfl⟩
      show aWP _ _ (25, [some (.ref 2), some (.ref (aSTR + 6)), some (.int 1)], [.int 111, .int (byN (mi 3) n (a + 1))], (HD, mi, ml, mr)) _
      refine wp_bC rfl (fun c_5 => ?_) (fun c_5 => ?_)
      · have c_5 : (byN (mi 3) n (a + 1)) = 111 := of_decide_eq_true c_5
        refine wp_steps 4 (t' := (14, [some (.ref 2), some (.ref (aSTR + 6)), some (.int 2)], [.ref (aSTR + 6), .int 2], (HD, mi, ml, mr))) rfl ?_
        refine wp_calt (as := []) rfl rfl rfl (Nat.le_of_ble_eq_true rfl) (by decide) (c_len6) (by decide) ?_
        rintro _ _ ⟨rfl, rfl⟩
        show aWP _ _ (15, [some (.ref 2), some (.ref (aSTR + 6)), some (.int 2)], [.int 4, .int 2], (HD, mi, ml, mr)) _
        refine wp_bC rfl (fun c_6 => ?_) (fun c_6 => ?_)
        · have c_6 : 4 ≤ 2 := of_decide_eq_true c_6
          exact absurd c_6 (by decide)
        have c_6 : ¬ (4 ≤ 2) := of_decide_eq_false c_6
        refine wp_steps 2 (t' := (18, [some (.ref 2), some (.ref (aSTR + 6)), some (.int 2)], [.ref 2, .ref 2], (HD, mi, ml, mr))) rfl ?_
        refine wp_geti rfl ⟨by decide, rfl⟩ (Or.inl rfl) ?_
        rw [he4]
        refine wp_steps 2 (t' := (21, [some (.ref 2), some (.ref (aSTR + 6)), some (.int 2)], [.int ((nI a) + 2), .ref 2], (HD, mi, ml, mr))) rfl ?_
        rw [show nI a + 2 = nI (a + 2) from nI_add a 2]
        refine wp_calv (as := [.int (nI (a + 2))]) rfl rfl rfl (Nat.le_of_ble_eq_true rfl) ⟨by decide, rfl⟩ (c_byteAt hM hn hs (p := a + 2) (by omega)) (by decide) ?_
        rintro _ _ ⟨rfl, rfl⟩
        show aWP _ _ (22, [some (.ref 2), some (.ref (aSTR + 6)), some (.int 2)], [.int (byN (mi 3) n (a + 2))], (HD, mi, ml, mr)) _
        refine wp_steps 2 (t' := (24, [some (.ref 2), some (.ref (aSTR + 6)), some (.int 2)], [.int 2, .ref (aSTR + 6), .int (byN (mi 3) n (a + 2))], (HD, mi, ml, mr))) rfl ?_
        refine wp_calt (as := [.int 2]) rfl rfl rfl (Nat.le_of_ble_eq_true rfl) (by decide) (c_chr6_2 hX) (by decide) ?_
        rintro _ _ ⟨rfl, rfl⟩
        show aWP _ _ (25, [some (.ref 2), some (.ref (aSTR + 6)), some (.int 2)], [.int 110, .int (byN (mi 3) n (a + 2))], (HD, mi, ml, mr)) _
        refine wp_bC rfl (fun c_7 => ?_) (fun c_7 => ?_)
        · have c_7 : (byN (mi 3) n (a + 2)) = 110 := of_decide_eq_true c_7
          refine wp_steps 4 (t' := (14, [some (.ref 2), some (.ref (aSTR + 6)), some (.int 3)], [.ref (aSTR + 6), .int 3], (HD, mi, ml, mr))) rfl ?_
          refine wp_calt (as := []) rfl rfl rfl (Nat.le_of_ble_eq_true rfl) (by decide) (c_len6) (by decide) ?_
          rintro _ _ ⟨rfl, rfl⟩
          show aWP _ _ (15, [some (.ref 2), some (.ref (aSTR + 6)), some (.int 3)], [.int 4, .int 3], (HD, mi, ml, mr)) _
          refine wp_bC rfl (fun c_8 => ?_) (fun c_8 => ?_)
          · have c_8 : 4 ≤ 3 := of_decide_eq_true c_8
            exact absurd c_8 (by decide)
          have c_8 : ¬ (4 ≤ 3) := of_decide_eq_false c_8
          refine wp_steps 2 (t' := (18, [some (.ref 2), some (.ref (aSTR + 6)), some (.int 3)], [.ref 2, .ref 2], (HD, mi, ml, mr))) rfl ?_
          refine wp_geti rfl ⟨by decide, rfl⟩ (Or.inl rfl) ?_
          rw [he4]
          refine wp_steps 2 (t' := (21, [some (.ref 2), some (.ref (aSTR + 6)), some (.int 3)], [.int ((nI a) + 3), .ref 2], (HD, mi, ml, mr))) rfl ?_
          rw [show nI a + 3 = nI (a + 3) from nI_add a 3]
          refine wp_calv (as := [.int (nI (a + 3))]) rfl rfl rfl (Nat.le_of_ble_eq_true rfl) ⟨by decide, rfl⟩ (c_byteAt hM hn hs (p := a + 3) (by omega)) (by decide) ?_
          rintro _ _ ⟨rfl, rfl⟩
          show aWP _ _ (22, [some (.ref 2), some (.ref (aSTR + 6)), some (.int 3)], [.int (byN (mi 3) n (a + 3))], (HD, mi, ml, mr)) _
          refine wp_steps 2 (t' := (24, [some (.ref 2), some (.ref (aSTR + 6)), some (.int 3)], [.int 3, .ref (aSTR + 6), .int (byN (mi 3) n (a + 3))], (HD, mi, ml, mr))) rfl ?_
          refine wp_calt (as := [.int 3]) rfl rfl rfl (Nat.le_of_ble_eq_true rfl) (by decide) (c_chr6_3 hX) (by decide) ?_
          rintro _ _ ⟨rfl, rfl⟩
          show aWP _ _ (25, [some (.ref 2), some (.ref (aSTR + 6)), some (.int 3)], [.int 101, .int (byN (mi 3) n (a + 3))], (HD, mi, ml, mr)) _
          refine wp_bC rfl (fun c_9 => ?_) (fun c_9 => ?_)
          · have c_9 : (byN (mi 3) n (a + 3)) = 101 := of_decide_eq_true c_9
            refine wp_steps 4 (t' := (14, [some (.ref 2), some (.ref (aSTR + 6)), some (.int 4)], [.ref (aSTR + 6), .int 4], (HD, mi, ml, mr))) rfl ?_
            refine wp_calt (as := []) rfl rfl rfl (Nat.le_of_ble_eq_true rfl) (by decide) (c_len6) (by decide) ?_
            rintro _ _ ⟨rfl, rfl⟩
            show aWP _ _ (15, [some (.ref 2), some (.ref (aSTR + 6)), some (.int 4)], [.int 4, .int 4], (HD, mi, ml, mr)) _
            refine wp_bC rfl (fun c_10 => ?_) (fun c_10 => ?_)
            rotate_left
            · have c_10 : ¬ (4 ≤ 4) := of_decide_eq_false c_10
              exact absurd c_10 (by decide)
            have c_10 : 4 ≤ 4 := of_decide_eq_true c_10
            refine wp_steps 1 (t' := (31, [some (.ref 2), some (.ref (aSTR + 6)), some (.int 4)], [.int 1], (HD, mi, ml, mr))) rfl ?_
            refine wp_ret rfl rfl ⟨⟨Nat.le_refl _, Nat.le_refl _⟩, ?_⟩
            have q : e - a = 4 := (nI_eq (by omega) (by decide)).mp c_1
            exact ⟨by simp [wdF, rdF, q, show ¬ (4 ≤ 0) from c_2, show (byN (mi 3) n a) = 100 from c_3, show ¬ (4 ≤ 1) from c_4, show (byN (mi 3) n (a + 1)) = 111 from c_5, show ¬ (4 ≤ 2) from c_6, show (byN (mi 3) n (a + 2)) = 110 from c_7, show ¬ (4 ≤ 3) from c_8, show (byN (mi 3) n (a + 3)) = 101 from c_9, show 4 ≤ 4 from c_10], rfl⟩
          · have c_9 : ¬ ((byN (mi 3) n (a + 3)) = 101) := of_decide_eq_false c_9
            refine wp_steps 1 (t' := (27, [some (.ref 2), some (.ref (aSTR + 6)), some (.int 3)], [.int 0], (HD, mi, ml, mr))) rfl ?_
            refine wp_ret rfl rfl ⟨⟨Nat.le_refl _, Nat.le_refl _⟩, ?_⟩
            have q : e - a = 4 := (nI_eq (by omega) (by decide)).mp c_1
            exact ⟨by simp [wdF, rdF, q, show ¬ (4 ≤ 0) from c_2, show (byN (mi 3) n a) = 100 from c_3, show ¬ (4 ≤ 1) from c_4, show (byN (mi 3) n (a + 1)) = 111 from c_5, show ¬ (4 ≤ 2) from c_6, show (byN (mi 3) n (a + 2)) = 110 from c_7, show ¬ (4 ≤ 3) from c_8, show ¬ ((byN (mi 3) n (a + 3)) = 101) from c_9], rfl⟩
        · have c_7 : ¬ ((byN (mi 3) n (a + 2)) = 110) := of_decide_eq_false c_7
          refine wp_steps 1 (t' := (27, [some (.ref 2), some (.ref (aSTR + 6)), some (.int 2)], [.int 0], (HD, mi, ml, mr))) rfl ?_
          refine wp_ret rfl rfl ⟨⟨Nat.le_refl _, Nat.le_refl _⟩, ?_⟩
          have q : e - a = 4 := (nI_eq (by omega) (by decide)).mp c_1
          exact ⟨by simp [wdF, rdF, q, show ¬ (4 ≤ 0) from c_2, show (byN (mi 3) n a) = 100 from c_3, show ¬ (4 ≤ 1) from c_4, show (byN (mi 3) n (a + 1)) = 111 from c_5, show ¬ (4 ≤ 2) from c_6, show ¬ ((byN (mi 3) n (a + 2)) = 110) from c_7], rfl⟩
      · have c_5 : ¬ ((byN (mi 3) n (a + 1)) = 111) := of_decide_eq_false c_5
        refine wp_steps 1 (t' := (27, [some (.ref 2), some (.ref (aSTR + 6)), some (.int 1)], [.int 0], (HD, mi, ml, mr))) rfl ?_
        refine wp_ret rfl rfl ⟨⟨Nat.le_refl _, Nat.le_refl _⟩, ?_⟩
        have q : e - a = 4 := (nI_eq (by omega) (by decide)).mp c_1
        exact ⟨by simp [wdF, rdF, q, show ¬ (4 ≤ 0) from c_2, show (byN (mi 3) n a) = 100 from c_3, show ¬ (4 ≤ 1) from c_4, show ¬ ((byN (mi 3) n (a + 1)) = 111) from c_5], rfl⟩
    · have c_3 : ¬ ((byN (mi 3) n (a + 0)) = 100) := of_decide_eq_false c_3
      refine wp_steps 1 (t' := (27, [some (.ref 2), some (.ref (aSTR + 6)), some (.int 0)], [.int 0], (HD, mi, ml, mr))) rfl ?_
      refine wp_ret rfl rfl ⟨⟨Nat.le_refl _, Nat.le_refl _⟩, ?_⟩
      have q : e - a = 4 := (nI_eq (by omega) (by decide)).mp c_1
      exact ⟨by simp [wdF, rdF, q, show ¬ (4 ≤ 0) from c_2, show ¬ ((byN (mi 3) n a) = 100) from c_3], rfl⟩
  · have c_1 : ¬ ((nI (e - a)) = 4) := of_decide_eq_false c_1
    refine wp_steps 1 (t' := (9, [some (.ref 2), some (.ref (aSTR + 6)), none], [.int 0], (HD, mi, ml, mr))) rfl ?_
    refine wp_ret rfl rfl ⟨⟨Nat.le_refl _, Nat.le_refl _⟩, ?_⟩
    have q : ¬ e - a = 4 := fun q => c_1 (by rw [q]; rfl)
    exact ⟨by simp [wdF, q], rfl⟩
set_option maxRecDepth 20000 in
set_option maxHeartbeats 1000000 in
theorem c_reads7 {X : aXt × Value} {mi : Nat → Nat → Int32} {ml : Nat → Nat → Int64} {mr : Nat → Nat → Option Nat} (hM : MRok mr) {n : Nat} (hn : n ≤ 160) (hs : mi 2 0 = nI n) (hX : outOK X) {a e : Nat} (hae : a ≤ e) (hl : e ≤ 170) (he4 : mi 2 4 = nI a) (he5 : mi 2 5 = nI e) : aCW X 5 29 [.ref 2, .ref (aSTR + 7)] (HD, mi, ml, mr) (rdI mi ml mr (wdF (byN (mi 3) n) a e [116, 101, 97, 99, 104, 101, 115])) := by
  refine cw_of (cd := cd_X1_reads) (nL := 3) rfl rfl ?_
  show aWP _ _ (0, [some (.ref 2), some (.ref (aSTR + 7)), none], [], (HD, mi, ml, mr)) _
  refine wp_steps 1 (t' := (1, [some (.ref 2), some (.ref (aSTR + 7)), none], [.ref 2], (HD, mi, ml, mr))) rfl ?_
  refine wp_geti rfl ⟨by decide, rfl⟩ (Or.inl rfl) ?_
  rw [he5]
  refine wp_steps 1 (t' := (3, [some (.ref 2), some (.ref (aSTR + 7)), none], [.ref 2, .int (nI e)], (HD, mi, ml, mr))) rfl ?_
  refine wp_geti rfl ⟨by decide, rfl⟩ (Or.inl rfl) ?_
  rw [he4]
  refine wp_steps 1 (t' := (5, [some (.ref 2), some (.ref (aSTR + 7)), none], [.int ((nI e) - (nI a))], (HD, mi, ml, mr))) rfl ?_
  rw [nI_sb hae]
  refine wp_steps 1 (t' := (6, [some (.ref 2), some (.ref (aSTR + 7)), none], [.ref (aSTR + 7), .int (nI (e - a))], (HD, mi, ml, mr))) rfl ?_
  refine wp_calt (as := []) rfl rfl rfl (Nat.le_of_ble_eq_true rfl) (by decide) (c_len7) (by decide) ?_
  rintro _ _ ⟨rfl, rfl⟩
  show aWP _ _ (7, [some (.ref 2), some (.ref (aSTR + 7)), none], [.int 7, .int (nI (e - a))], (HD, mi, ml, mr)) _
  refine wp_bC rfl (fun c_1 => ?_) (fun c_1 => ?_)
  · have c_1 : (nI (e - a)) = 7 := of_decide_eq_true c_1
    refine wp_steps 4 (t' := (14, [some (.ref 2), some (.ref (aSTR + 7)), some (.int 0)], [.ref (aSTR + 7), .int 0], (HD, mi, ml, mr))) rfl ?_
    refine wp_calt (as := []) rfl rfl rfl (Nat.le_of_ble_eq_true rfl) (by decide) (c_len7) (by decide) ?_
    rintro _ _ ⟨rfl, rfl⟩
    show aWP _ _ (15, [some (.ref 2), some (.ref (aSTR + 7)), some (.int 0)], [.int 7, .int 0], (HD, mi, ml, mr)) _
    refine wp_bC rfl (fun c_2 => ?_) (fun c_2 => ?_)
    · have c_2 : 7 ≤ 0 := of_decide_eq_true c_2
      exact absurd c_2 (by decide)
    have c_2 : ¬ (7 ≤ 0) := of_decide_eq_false c_2
    refine wp_steps 2 (t' := (18, [some (.ref 2), some (.ref (aSTR + 7)), some (.int 0)], [.ref 2, .ref 2], (HD, mi, ml, mr))) rfl ?_
    refine wp_geti rfl ⟨by decide, rfl⟩ (Or.inl rfl) ?_
    rw [he4]
    refine wp_steps 2 (t' := (21, [some (.ref 2), some (.ref (aSTR + 7)), some (.int 0)], [.int ((nI a) + 0), .ref 2], (HD, mi, ml, mr))) rfl ?_
    rw [show nI a + 0 = nI (a + 0) from nI_add a 0]
    refine wp_calv (as := [.int (nI (a + 0))]) rfl rfl rfl (Nat.le_of_ble_eq_true rfl) ⟨by decide, rfl⟩ (c_byteAt hM hn hs (p := a + 0) (by omega)) (by decide) ?_
    rintro _ _ ⟨rfl, rfl⟩
    show aWP _ _ (22, [some (.ref 2), some (.ref (aSTR + 7)), some (.int 0)], [.int (byN (mi 3) n (a + 0))], (HD, mi, ml, mr)) _
    refine wp_steps 2 (t' := (24, [some (.ref 2), some (.ref (aSTR + 7)), some (.int 0)], [.int 0, .ref (aSTR + 7), .int (byN (mi 3) n (a + 0))], (HD, mi, ml, mr))) rfl ?_
    refine wp_calt (as := [.int 0]) rfl rfl rfl (Nat.le_of_ble_eq_true rfl) (by decide) (c_chr7_0 hX) (by decide) ?_
    rintro _ _ ⟨rfl, rfl⟩
    show aWP _ _ (25, [some (.ref 2), some (.ref (aSTR + 7)), some (.int 0)], [.int 116, .int (byN (mi 3) n (a + 0))], (HD, mi, ml, mr)) _
    refine wp_bC rfl (fun c_3 => ?_) (fun c_3 => ?_)
    · have c_3 : (byN (mi 3) n (a + 0)) = 116 := of_decide_eq_true c_3
      refine wp_steps 4 (t' := (14, [some (.ref 2), some (.ref (aSTR + 7)), some (.int 1)], [.ref (aSTR + 7), .int 1], (HD, mi, ml, mr))) rfl ?_
      refine wp_calt (as := []) rfl rfl rfl (Nat.le_of_ble_eq_true rfl) (by decide) (c_len7) (by decide) ?_
      rintro _ _ ⟨rfl, rfl⟩
      show aWP _ _ (15, [some (.ref 2), some (.ref (aSTR + 7)), some (.int 1)], [.int 7, .int 1], (HD, mi, ml, mr)) _
      refine wp_bC rfl (fun c_4 => ?_) (fun c_4 => ?_)
      · have c_4 : 7 ≤ 1 := of_decide_eq_true c_4
        exact absurd c_4 (by decide)
      have c_4 : ¬ (7 ≤ 1) := of_decide_eq_false c_4
      refine wp_steps 2 (t' := (18, [some (.ref 2), some (.ref (aSTR + 7)), some (.int 1)], [.ref 2, .ref 2], (HD, mi, ml, mr))) rfl ?_
      refine wp_geti rfl ⟨by decide, rfl⟩ (Or.inl rfl) ?_
      rw [he4]
      refine wp_steps 2 (t' := (21, [some (.ref 2), some (.ref (aSTR + 7)), some (.int 1)], [.int ((nI a) + 1), .ref 2], (HD, mi, ml, mr))) rfl ?_
      rw [show nI a + 1 = nI (a + 1) from nI_add a 1]
      refine wp_calv (as := [.int (nI (a + 1))]) rfl rfl rfl (Nat.le_of_ble_eq_true rfl) ⟨by decide, rfl⟩ (c_byteAt hM hn hs (p := a + 1) (by omega)) (by decide) ?_
      rintro _ _ ⟨rfl, rfl⟩
      show aWP _ _ (22, [some (.ref 2), some (.ref (aSTR + 7)), some (.int 1)], [.int (byN (mi 3) n (a + 1))], (HD, mi, ml, mr)) _
      refine wp_steps 2 (t' := (24, [some (.ref 2), some (.ref (aSTR + 7)), some (.int 1)], [.int 1, .ref (aSTR + 7), .int (byN (mi 3) n (a + 1))], (HD, mi, ml, mr))) rfl ?_
      refine wp_calt (as := [.int 1]) rfl rfl rfl (Nat.le_of_ble_eq_true rfl) (by decide) (c_chr7_1 hX) (by decide) ?_
      rintro _ _ ⟨rfl, rfl⟩
      show aWP _ _ (25, [some (.ref 2), some (.ref (aSTR + 7)), some (.int 1)], [.int 101, .int (byN (mi 3) n (a + 1))], (HD, mi, ml, mr)) _
      refine wp_bC rfl (fun c_5 => ?_) (fun c_5 => ?_)
      · have c_5 : (byN (mi 3) n (a + 1)) = 101 := of_decide_eq_true c_5
        refine wp_steps 4 (t' := (14, [some (.ref 2), some (.ref (aSTR + 7)), some (.int 2)], [.ref (aSTR + 7), .int 2], (HD, mi, ml, mr))) rfl ?_
        refine wp_calt (as := []) rfl rfl rfl (Nat.le_of_ble_eq_true rfl) (by decide) (c_len7) (by decide) ?_
        rintro _ _ ⟨rfl, rfl⟩
        show aWP _ _ (15, [some (.ref 2), some (.ref (aSTR + 7)), some (.int 2)], [.int 7, .int 2], (HD, mi, ml, mr)) _
        refine wp_bC rfl (fun c_6 => ?_) (fun c_6 => ?_)
        · have c_6 : 7 ≤ 2 := of_decide_eq_true c_6
          exact absurd c_6 (by decide)
        have c_6 : ¬ (7 ≤ 2) := of_decide_eq_false c_6
        refine wp_steps 2 (t' := (18, [some (.ref 2), some (.ref (aSTR + 7)), some (.int 2)], [.ref 2, .ref 2], (HD, mi, ml, mr))) rfl ?_
        refine wp_geti rfl ⟨by decide, rfl⟩ (Or.inl rfl) ?_
        rw [he4]
        refine wp_steps 2 (t' := (21, [some (.ref 2), some (.ref (aSTR + 7)), some (.int 2)], [.int ((nI a) + 2), .ref 2], (HD, mi, ml, mr))) rfl ?_
        rw [show nI a + 2 = nI (a + 2) from nI_add a 2]
        refine wp_calv (as := [.int (nI (a + 2))]) rfl rfl rfl (Nat.le_of_ble_eq_true rfl) ⟨by decide, rfl⟩ (c_byteAt hM hn hs (p := a + 2) (by omega)) (by decide) ?_
        rintro _ _ ⟨rfl, rfl⟩
        show aWP _ _ (22, [some (.ref 2), some (.ref (aSTR + 7)), some (.int 2)], [.int (byN (mi 3) n (a + 2))], (HD, mi, ml, mr)) _
        refine wp_steps 2 (t' := (24, [some (.ref 2), some (.ref (aSTR + 7)), some (.int 2)], [.int 2, .ref (aSTR + 7), .int (byN (mi 3) n (a + 2))], (HD, mi, ml, mr))) rfl ?_
        refine wp_calt (as := [.int 2]) rfl rfl rfl (Nat.le_of_ble_eq_true rfl) (by decide) (c_chr7_2 hX) (by decide) ?_
        rintro _ _ ⟨rfl, rfl⟩
        show aWP _ _ (25, [some (.ref 2), some (.ref (aSTR + 7)), some (.int 2)], [.int 97, .int (byN (mi 3) n (a + 2))], (HD, mi, ml, mr)) _
        refine wp_bC rfl (fun c_7 => ?_) (fun c_7 => ?_)
        · have c_7 : (byN (mi 3) n (a + 2)) = 97 := of_decide_eq_true c_7
          refine wp_steps 4 (t' := (14, [some (.ref 2), some (.ref (aSTR + 7)), some (.int 3)], [.ref (aSTR + 7), .int 3], (HD, mi, ml, mr))) rfl ?_
          refine wp_calt (as := []) rfl rfl rfl (Nat.le_of_ble_eq_true rfl) (by decide) (c_len7) (by decide) ?_
          rintro _ _ ⟨rfl, rfl⟩
          show aWP _ _ (15, [some (.ref 2), some (.ref (aSTR + 7)), some (.int 3)], [.int 7, .int 3], (HD, mi, ml, mr)) _
          refine wp_bC rfl (fun c_8 => ?_) (fun c_8 => ?_)
          · have c_8 : 7 ≤ 3 := of_decide_eq_true c_8
            exact absurd c_8 (by decide)
          have c_8 : ¬ (7 ≤ 3) := of_decide_eq_false c_8
          refine wp_steps 2 (t' := (18, [some (.ref 2), some (.ref (aSTR + 7)), some (.int 3)], [.ref 2, .ref 2], (HD, mi, ml, mr))) rfl ?_
          refine wp_geti rfl ⟨by decide, rfl⟩ (Or.inl rfl) ?_
          rw [he4]
          refine wp_steps 2 (t' := (21, [some (.ref 2), some (.ref (aSTR + 7)), some (.int 3)], [.int ((nI a) + 3), .ref 2], (HD, mi, ml, mr))) rfl ?_
          rw [show nI a + 3 = nI (a + 3) from nI_add a 3]
          refine wp_calv (as := [.int (nI (a + 3))]) rfl rfl rfl (Nat.le_of_ble_eq_true rfl) ⟨by decide, rfl⟩ (c_byteAt hM hn hs (p := a + 3) (by omega)) (by decide) ?_
          rintro _ _ ⟨rfl, rfl⟩
          show aWP _ _ (22, [some (.ref 2), some (.ref (aSTR + 7)), some (.int 3)], [.int (byN (mi 3) n (a + 3))], (HD, mi, ml, mr)) _
          refine wp_steps 2 (t' := (24, [some (.ref 2), some (.ref (aSTR + 7)), some (.int 3)], [.int 3, .ref (aSTR + 7), .int (byN (mi 3) n (a + 3))], (HD, mi, ml, mr))) rfl ?_
          refine wp_calt (as := [.int 3]) rfl rfl rfl (Nat.le_of_ble_eq_true rfl) (by decide) (c_chr7_3 hX) (by decide) ?_
          rintro _ _ ⟨rfl, rfl⟩
          show aWP _ _ (25, [some (.ref 2), some (.ref (aSTR + 7)), some (.int 3)], [.int 99, .int (byN (mi 3) n (a + 3))], (HD, mi, ml, mr)) _
          refine wp_bC rfl (fun c_9 => ?_) (fun c_9 => ?_)
          · have c_9 : (byN (mi 3) n (a + 3)) = 99 := of_decide_eq_true c_9
            refine wp_steps 4 (t' := (14, [some (.ref 2), some (.ref (aSTR + 7)), some (.int 4)], [.ref (aSTR + 7), .int 4], (HD, mi, ml, mr))) rfl ?_
            refine wp_calt (as := []) rfl rfl rfl (Nat.le_of_ble_eq_true rfl) (by decide) (c_len7) (by decide) ?_
            rintro _ _ ⟨rfl, rfl⟩
            show aWP _ _ (15, [some (.ref 2), some (.ref (aSTR + 7)), some (.int 4)], [.int 7, .int 4], (HD, mi, ml, mr)) _
            refine wp_bC rfl (fun c_10 => ?_) (fun c_10 => ?_)
            · have c_10 : 7 ≤ 4 := of_decide_eq_true c_10
              exact absurd c_10 (by decide)
            have c_10 : ¬ (7 ≤ 4) := of_decide_eq_false c_10
            refine wp_steps 2 (t' := (18, [some (.ref 2), some (.ref (aSTR + 7)), some (.int 4)], [.ref 2, .ref 2], (HD, mi, ml, mr))) rfl ?_
            refine wp_geti rfl ⟨by decide, rfl⟩ (Or.inl rfl) ?_
            rw [he4]
            refine wp_steps 2 (t' := (21, [some (.ref 2), some (.ref (aSTR + 7)), some (.int 4)], [.int ((nI a) + 4), .ref 2], (HD, mi, ml, mr))) rfl ?_
            rw [show nI a + 4 = nI (a + 4) from nI_add a 4]
            refine wp_calv (as := [.int (nI (a + 4))]) rfl rfl rfl (Nat.le_of_ble_eq_true rfl) ⟨by decide, rfl⟩ (c_byteAt hM hn hs (p := a + 4) (by omega)) (by decide) ?_
            rintro _ _ ⟨rfl, rfl⟩
            show aWP _ _ (22, [some (.ref 2), some (.ref (aSTR + 7)), some (.int 4)], [.int (byN (mi 3) n (a + 4))], (HD, mi, ml, mr)) _
            refine wp_steps 2 (t' := (24, [some (.ref 2), some (.ref (aSTR + 7)), some (.int 4)], [.int 4, .ref (aSTR + 7), .int (byN (mi 3) n (a + 4))], (HD, mi, ml, mr))) rfl ?_
            refine wp_calt (as := [.int 4]) rfl rfl rfl (Nat.le_of_ble_eq_true rfl) (by decide) (c_chr7_4 hX) (by decide) ?_
            rintro _ _ ⟨rfl, rfl⟩
            show aWP _ _ (25, [some (.ref 2), some (.ref (aSTR + 7)), some (.int 4)], [.int 104, .int (byN (mi 3) n (a + 4))], (HD, mi, ml, mr)) _
            refine wp_bC rfl (fun c_11 => ?_) (fun c_11 => ?_)
            · have c_11 : (byN (mi 3) n (a + 4)) = 104 := of_decide_eq_true c_11
              refine wp_steps 4 (t' := (14, [some (.ref 2), some (.ref (aSTR + 7)), some (.int 5)], [.ref (aSTR + 7), .int 5], (HD, mi, ml, mr))) rfl ?_
              refine wp_calt (as := []) rfl rfl rfl (Nat.le_of_ble_eq_true rfl) (by decide) (c_len7) (by decide) ?_
              rintro _ _ ⟨rfl, rfl⟩
              show aWP _ _ (15, [some (.ref 2), some (.ref (aSTR + 7)), some (.int 5)], [.int 7, .int 5], (HD, mi, ml, mr)) _
              refine wp_bC rfl (fun c_12 => ?_) (fun c_12 => ?_)
              · have c_12 : 7 ≤ 5 := of_decide_eq_true c_12
                exact absurd c_12 (by decide)
              have c_12 : ¬ (7 ≤ 5) := of_decide_eq_false c_12
              refine wp_steps 2 (t' := (18, [some (.ref 2), some (.ref (aSTR + 7)), some (.int 5)], [.ref 2, .ref 2], (HD, mi, ml, mr))) rfl ?_
              refine wp_geti rfl ⟨by decide, rfl⟩ (Or.inl rfl) ?_
              rw [he4]
              refine wp_steps 2 (t' := (21, [some (.ref 2), some (.ref (aSTR + 7)), some (.int 5)], [.int ((nI a) + 5), .ref 2], (HD, mi, ml, mr))) rfl ?_
              rw [show nI a + 5 = nI (a + 5) from nI_add a 5]
              refine wp_calv (as := [.int (nI (a + 5))]) rfl rfl rfl (Nat.le_of_ble_eq_true rfl) ⟨by decide, rfl⟩ (c_byteAt hM hn hs (p := a + 5) (by omega)) (by decide) ?_
              rintro _ _ ⟨rfl, rfl⟩
              show aWP _ _ (22, [some (.ref 2), some (.ref (aSTR + 7)), some (.int 5)], [.int (byN (mi 3) n (a + 5))], (HD, mi, ml, mr)) _
              refine wp_steps 2 (t' := (24, [some (.ref 2), some (.ref (aSTR + 7)), some (.int 5)], [.int 5, .ref (aSTR + 7), .int (byN (mi 3) n (a + 5))], (HD, mi, ml, mr))) rfl ?_
              refine wp_calt (as := [.int 5]) rfl rfl rfl (Nat.le_of_ble_eq_true rfl) (by decide) (c_chr7_5 hX) (by decide) ?_
              rintro _ _ ⟨rfl, rfl⟩
              show aWP _ _ (25, [some (.ref 2), some (.ref (aSTR + 7)), some (.int 5)], [.int 101, .int (byN (mi 3) n (a + 5))], (HD, mi, ml, mr)) _
              refine wp_bC rfl (fun c_13 => ?_) (fun c_13 => ?_)
              · have c_13 : (byN (mi 3) n (a + 5)) = 101 := of_decide_eq_true c_13
                refine wp_steps 4 (t' := (14, [some (.ref 2), some (.ref (aSTR + 7)), some (.int 6)], [.ref (aSTR + 7), .int 6], (HD, mi, ml, mr))) rfl ?_
                refine wp_calt (as := []) rfl rfl rfl (Nat.le_of_ble_eq_true rfl) (by decide) (c_len7) (by decide) ?_
                rintro _ _ ⟨rfl, rfl⟩
                show aWP _ _ (15, [some (.ref 2), some (.ref (aSTR + 7)), some (.int 6)], [.int 7, .int 6], (HD, mi, ml, mr)) _
                refine wp_bC rfl (fun c_14 => ?_) (fun c_14 => ?_)
                · have c_14 : 7 ≤ 6 := of_decide_eq_true c_14
                  exact absurd c_14 (by decide)
                have c_14 : ¬ (7 ≤ 6) := of_decide_eq_false c_14
                refine wp_steps 2 (t' := (18, [some (.ref 2), some (.ref (aSTR + 7)), some (.int 6)], [.ref 2, .ref 2], (HD, mi, ml, mr))) rfl ?_
                refine wp_geti rfl ⟨by decide, rfl⟩ (Or.inl rfl) ?_
                rw [he4]
                refine wp_steps 2 (t' := (21, [some (.ref 2), some (.ref (aSTR + 7)), some (.int 6)], [.int ((nI a) + 6), .ref 2], (HD, mi, ml, mr))) rfl ?_
                rw [show nI a + 6 = nI (a + 6) from nI_add a 6]
                refine wp_calv (as := [.int (nI (a + 6))]) rfl rfl rfl (Nat.le_of_ble_eq_true rfl) ⟨by decide, rfl⟩ (c_byteAt hM hn hs (p := a + 6) (by omega)) (by decide) ?_
                rintro _ _ ⟨rfl, rfl⟩
                show aWP _ _ (22, [some (.ref 2), some (.ref (aSTR + 7)), some (.int 6)], [.int (byN (mi 3) n (a + 6))], (HD, mi, ml, mr)) _
                refine wp_steps 2 (t' := (24, [some (.ref 2), some (.ref (aSTR + 7)), some (.int 6)], [.int 6, .ref (aSTR + 7), .int (byN (mi 3) n (a + 6))], (HD, mi, ml, mr))) rfl ?_
                refine wp_calt (as := [.int 6]) rfl rfl rfl (Nat.le_of_ble_eq_true rfl) (by decide) (c_chr7_6 hX) (by decide) ?_
                rintro _ _ ⟨rfl, rfl⟩
                show aWP _ _ (25, [some (.ref 2), some (.ref (aSTR + 7)), some (.int 6)], [.int 115, .int (byN (mi 3) n (a + 6))], (HD, mi, ml, mr)) _
                refine wp_bC rfl (fun c_15 => ?_) (fun c_15 => ?_)
                · have c_15 : (byN (mi 3) n (a + 6)) = 115 := of_decide_eq_true c_15
                  refine wp_steps 4 (t' := (14, [some (.ref 2), some (.ref (aSTR + 7)), some (.int 7)], [.ref (aSTR + 7), .int 7], (HD, mi, ml, mr))) rfl ?_
                  refine wp_calt (as := []) rfl rfl rfl (Nat.le_of_ble_eq_true rfl) (by decide) (c_len7) (by decide) ?_
                  rintro _ _ ⟨rfl, rfl⟩
                  show aWP _ _ (15, [some (.ref 2), some (.ref (aSTR + 7)), some (.int 7)], [.int 7, .int 7], (HD, mi, ml, mr)) _
                  refine wp_bC rfl (fun c_16 => ?_) (fun c_16 => ?_)
                  rotate_left
                  · have c_16 : ¬ (7 ≤ 7) := of_decide_eq_false c_16
                    exact absurd c_16 (by decide)
                  have c_16 : 7 ≤ 7 := of_decide_eq_true c_16
                  refine wp_steps 1 (t' := (31, [some (.ref 2), some (.ref (aSTR + 7)), some (.int 7)], [.int 1], (HD, mi, ml, mr))) rfl ?_
                  refine wp_ret rfl rfl ⟨⟨Nat.le_refl _, Nat.le_refl _⟩, ?_⟩
                  have q : e - a = 7 := (nI_eq (by omega) (by decide)).mp c_1
                  exact ⟨by simp [wdF, rdF, q, show ¬ (7 ≤ 0) from c_2, show (byN (mi 3) n a) = 116 from c_3, show ¬ (7 ≤ 1) from c_4, show (byN (mi 3) n (a + 1)) = 101 from c_5, show ¬ (7 ≤ 2) from c_6, show (byN (mi 3) n (a + 2)) = 97 from c_7, show ¬ (7 ≤ 3) from c_8, show (byN (mi 3) n (a + 3)) = 99 from c_9, show ¬ (7 ≤ 4) from c_10, show (byN (mi 3) n (a + 4)) = 104 from c_11, show ¬ (7 ≤ 5) from c_12, show (byN (mi 3) n (a + 5)) = 101 from c_13, show ¬ (7 ≤ 6) from c_14, show (byN (mi 3) n (a + 6)) = 115 from c_15, show 7 ≤ 7 from c_16], rfl⟩
                · have c_15 : ¬ ((byN (mi 3) n (a + 6)) = 115) := of_decide_eq_false c_15
                  refine wp_steps 1 (t' := (27, [some (.ref 2), some (.ref (aSTR + 7)), some (.int 6)], [.int 0], (HD, mi, ml, mr))) rfl ?_
                  refine wp_ret rfl rfl ⟨⟨Nat.le_refl _, Nat.le_refl _⟩, ?_⟩
                  have q : e - a = 7 := (nI_eq (by omega) (by decide)).mp c_1
                  exact ⟨by simp [wdF, rdF, q, show ¬ (7 ≤ 0) from c_2, show (byN (mi 3) n a) = 116 from c_3, show ¬ (7 ≤ 1) from c_4, show (byN (mi 3) n (a + 1)) = 101 from c_5, show ¬ (7 ≤ 2) from c_6, show (byN (mi 3) n (a + 2)) = 97 from c_7, show ¬ (7 ≤ 3) from c_8, show (byN (mi 3) n (a + 3)) = 99 from c_9, show ¬ (7 ≤ 4) from c_10, show (byN (mi 3) n (a + 4)) = 104 from c_11, show ¬ (7 ≤ 5) from c_12, show (byN (mi 3) n (a + 5)) = 101 from c_13, show ¬ (7 ≤ 6) from c_14, show ¬ ((byN (mi 3) n (a + 6)) = 115) from c_15], rfl⟩
              · have c_13 : ¬ ((byN (mi 3) n (a + 5)) = 101) := of_decide_eq_false c_13
                refine wp_steps 1 (t' := (27, [some (.ref 2), some (.ref (aSTR + 7)), some (.int 5)], [.int 0], (HD, mi, ml, mr))) rfl ?_
                refine wp_ret rfl rfl ⟨⟨Nat.le_refl _, Nat.le_refl _⟩, ?_⟩
                have q : e - a = 7 := (nI_eq (by omega) (by decide)).mp c_1
                exact ⟨by simp [wdF, rdF, q, show ¬ (7 ≤ 0) from c_2, show (byN (mi 3) n a) = 116 from c_3, show ¬ (7 ≤ 1) from c_4, show (byN (mi 3) n (a + 1)) = 101 from c_5, show ¬ (7 ≤ 2) from c_6, show (byN (mi 3) n (a + 2)) = 97 from c_7, show ¬ (7 ≤ 3) from c_8, show (byN (mi 3) n (a + 3)) = 99 from c_9, show ¬ (7 ≤ 4) from c_10, show (byN (mi 3) n (a + 4)) = 104 from c_11, show ¬ (7 ≤ 5) from c_12, show ¬ ((byN (mi 3) n (a + 5)) = 101) from c_13], rfl⟩
            · have c_11 : ¬ ((byN (mi 3) n (a + 4)) = 104) := of_decide_eq_false c_11
              refine wp_steps 1 (t' := (27, [some (.ref 2), some (.ref (aSTR + 7)), some (.int 4)], [.int 0], (HD, mi, ml, mr))) rfl ?_
              refine wp_ret rfl rfl ⟨⟨Nat.le_refl _, Nat.le_refl _⟩, ?_⟩
              have q : e - a = 7 := (nI_eq (by omega) (by decide)).mp c_1
              exact ⟨by simp [wdF, rdF, q, show ¬ (7 ≤ 0) from c_2, show (byN (mi 3) n a) = 116 from c_3, show ¬ (7 ≤ 1) from c_4, show (byN (mi 3) n (a + 1)) = 101 from c_5, show ¬ (7 ≤ 2) from c_6, show (byN (mi 3) n (a + 2)) = 97 from c_7, show ¬ (7 ≤ 3) from c_8, show (byN (mi 3) n (a + 3)) = 99 from c_9, show ¬ (7 ≤ 4) from c_10, show ¬ ((byN (mi 3) n (a + 4)) = 104) from c_11], rfl⟩
          · have c_9 : ¬ ((byN (mi 3) n (a + 3)) = 99) := of_decide_eq_false c_9
            refine wp_steps 1 (t' := (27, [some (.ref 2), some (.ref (aSTR + 7)), some (.int 3)], [.int 0], (HD, mi, ml, mr))) rfl ?_
            refine wp_ret rfl rfl ⟨⟨Nat.le_refl _, Nat.le_refl _⟩, ?_⟩
            have q : e - a = 7 := (nI_eq (by omega) (by decide)).mp c_1
            exact ⟨by simp [wdF, rdF, q, show ¬ (7 ≤ 0) from c_2, show (byN (mi 3) n a) = 116 from c_3, show ¬ (7 ≤ 1) from c_4, show (byN (mi 3) n (a + 1)) = 101 from c_5, show ¬ (7 ≤ 2) from c_6, show (byN (mi 3) n (a + 2)) = 97 from c_7, show ¬ (7 ≤ 3) from c_8, show ¬ ((byN (mi 3) n (a + 3)) = 99) from c_9], rfl⟩
        · have c_7 : ¬ ((byN (mi 3) n (a + 2)) = 97) := of_decide_eq_false c_7
          refine wp_steps 1 (t' := (27, [some (.ref 2), some (.ref (aSTR + 7)), some (.int 2)], [.int 0], (HD, mi, ml, mr))) rfl ?_
          refine wp_ret rfl rfl ⟨⟨Nat.le_refl _, Nat.le_refl _⟩, ?_⟩
          have q : e - a = 7 := (nI_eq (by omega) (by decide)).mp c_1
          exact ⟨by simp [wdF, rdF, q, show ¬ (7 ≤ 0) from c_2, show (byN (mi 3) n a) = 116 from c_3, show ¬ (7 ≤ 1) from c_4, show (byN (mi 3) n (a + 1)) = 101 from c_5, show ¬ (7 ≤ 2) from c_6, show ¬ ((byN (mi 3) n (a + 2)) = 97) from c_7], rfl⟩
      · have c_5 : ¬ ((byN (mi 3) n (a + 1)) = 101) := of_decide_eq_false c_5
        refine wp_steps 1 (t' := (27, [some (.ref 2), some (.ref (aSTR + 7)), some (.int 1)], [.int 0], (HD, mi, ml, mr))) rfl ?_
        refine wp_ret rfl rfl ⟨⟨Nat.le_refl _, Nat.le_refl _⟩, ?_⟩
        have q : e - a = 7 := (nI_eq (by omega) (by decide)).mp c_1
        exact ⟨by simp [wdF, rdF, q, show ¬ (7 ≤ 0) from c_2, show (byN (mi 3) n a) = 116 from c_3, show ¬ (7 ≤ 1) from c_4, show ¬ ((byN (mi 3) n (a + 1)) = 101) from c_5], rfl⟩
    · have c_3 : ¬ ((byN (mi 3) n (a + 0)) = 116) := of_decide_eq_false c_3
      refine wp_steps 1 (t' := (27, [some (.ref 2), some (.ref (aSTR + 7)), some (.int 0)], [.int 0], (HD, mi, ml, mr))) rfl ?_
      refine wp_ret rfl rfl ⟨⟨Nat.le_refl _, Nat.le_refl _⟩, ?_⟩
      have q : e - a = 7 := (nI_eq (by omega) (by decide)).mp c_1
      exact ⟨by simp [wdF, rdF, q, show ¬ (7 ≤ 0) from c_2, show ¬ ((byN (mi 3) n a) = 116) from c_3], rfl⟩
  · have c_1 : ¬ ((nI (e - a)) = 7) := of_decide_eq_false c_1
    refine wp_steps 1 (t' := (9, [some (.ref 2), some (.ref (aSTR + 7)), none], [.int 0], (HD, mi, ml, mr))) rfl ?_
    refine wp_ret rfl rfl ⟨⟨Nat.le_refl _, Nat.le_refl _⟩, ?_⟩
    have q : ¬ e - a = 7 := fun q => c_1 (by rw [q]; rfl)
    exact ⟨by simp [wdF, q], rfl⟩
set_option maxRecDepth 20000 in
set_option maxHeartbeats 1000000 in
theorem c_reads8 {X : aXt × Value} {mi : Nat → Nat → Int32} {ml : Nat → Nat → Int64} {mr : Nat → Nat → Option Nat} (hM : MRok mr) {n : Nat} (hn : n ≤ 160) (hs : mi 2 0 = nI n) (hX : outOK X) {a e : Nat} (hae : a ≤ e) (hl : e ≤ 170) (he4 : mi 2 4 = nI a) (he5 : mi 2 5 = nI e) : aCW X 5 29 [.ref 2, .ref (aSTR + 8)] (HD, mi, ml, mr) (rdI mi ml mr (wdF (byN (mi 3) n) a e [102, 97, 100, 101, 115])) := by
  refine cw_of (cd := cd_X1_reads) (nL := 3) rfl rfl ?_
  show aWP _ _ (0, [some (.ref 2), some (.ref (aSTR + 8)), none], [], (HD, mi, ml, mr)) _
  refine wp_steps 1 (t' := (1, [some (.ref 2), some (.ref (aSTR + 8)), none], [.ref 2], (HD, mi, ml, mr))) rfl ?_
  refine wp_geti rfl ⟨by decide, rfl⟩ (Or.inl rfl) ?_
  rw [he5]
  refine wp_steps 1 (t' := (3, [some (.ref 2), some (.ref (aSTR + 8)), none], [.ref 2, .int (nI e)], (HD, mi, ml, mr))) rfl ?_
  refine wp_geti rfl ⟨by decide, rfl⟩ (Or.inl rfl) ?_
  rw [he4]
  refine wp_steps 1 (t' := (5, [some (.ref 2), some (.ref (aSTR + 8)), none], [.int ((nI e) - (nI a))], (HD, mi, ml, mr))) rfl ?_
  rw [nI_sb hae]
  refine wp_steps 1 (t' := (6, [some (.ref 2), some (.ref (aSTR + 8)), none], [.ref (aSTR + 8), .int (nI (e - a))], (HD, mi, ml, mr))) rfl ?_
  refine wp_calt (as := []) rfl rfl rfl (Nat.le_of_ble_eq_true rfl) (by decide) (c_len8) (by decide) ?_
  rintro _ _ ⟨rfl, rfl⟩
  show aWP _ _ (7, [some (.ref 2), some (.ref (aSTR + 8)), none], [.int 5, .int (nI (e - a))], (HD, mi, ml, mr)) _
  refine wp_bC rfl (fun c_1 => ?_) (fun c_1 => ?_)
  · have c_1 : (nI (e - a)) = 5 := of_decide_eq_true c_1
    refine wp_steps 4 (t' := (14, [some (.ref 2), some (.ref (aSTR + 8)), some (.int 0)], [.ref (aSTR + 8), .int 0], (HD, mi, ml, mr))) rfl ?_
    refine wp_calt (as := []) rfl rfl rfl (Nat.le_of_ble_eq_true rfl) (by decide) (c_len8) (by decide) ?_
    rintro _ _ ⟨rfl, rfl⟩
    show aWP _ _ (15, [some (.ref 2), some (.ref (aSTR + 8)), some (.int 0)], [.int 5, .int 0], (HD, mi, ml, mr)) _
    refine wp_bC rfl (fun c_2 => ?_) (fun c_2 => ?_)
    · have c_2 : 5 ≤ 0 := of_decide_eq_true c_2
      exact absurd c_2 (by decide)
    have c_2 : ¬ (5 ≤ 0) := of_decide_eq_false c_2
    refine wp_steps 2 (t' := (18, [some (.ref 2), some (.ref (aSTR + 8)), some (.int 0)], [.ref 2, .ref 2], (HD, mi, ml, mr))) rfl ?_
    refine wp_geti rfl ⟨by decide, rfl⟩ (Or.inl rfl) ?_
    rw [he4]
    refine wp_steps 2 (t' := (21, [some (.ref 2), some (.ref (aSTR + 8)), some (.int 0)], [.int ((nI a) + 0), .ref 2], (HD, mi, ml, mr))) rfl ?_
    rw [show nI a + 0 = nI (a + 0) from nI_add a 0]
    refine wp_calv (as := [.int (nI (a + 0))]) rfl rfl rfl (Nat.le_of_ble_eq_true rfl) ⟨by decide, rfl⟩ (c_byteAt hM hn hs (p := a + 0) (by omega)) (by decide) ?_
    rintro _ _ ⟨rfl, rfl⟩
    show aWP _ _ (22, [some (.ref 2), some (.ref (aSTR + 8)), some (.int 0)], [.int (byN (mi 3) n (a + 0))], (HD, mi, ml, mr)) _
    refine wp_steps 2 (t' := (24, [some (.ref 2), some (.ref (aSTR + 8)), some (.int 0)], [.int 0, .ref (aSTR + 8), .int (byN (mi 3) n (a + 0))], (HD, mi, ml, mr))) rfl ?_
    refine wp_calt (as := [.int 0]) rfl rfl rfl (Nat.le_of_ble_eq_true rfl) (by decide) (c_chr8_0 hX) (by decide) ?_
    rintro _ _ ⟨rfl, rfl⟩
    show aWP _ _ (25, [some (.ref 2), some (.ref (aSTR + 8)), some (.int 0)], [.int 102, .int (byN (mi 3) n (a + 0))], (HD, mi, ml, mr)) _
    refine wp_bC rfl (fun c_3 => ?_) (fun c_3 => ?_)
    · have c_3 : (byN (mi 3) n (a + 0)) = 102 := of_decide_eq_true c_3
      refine wp_steps 4 (t' := (14, [some (.ref 2), some (.ref (aSTR + 8)), some (.int 1)], [.ref (aSTR + 8), .int 1], (HD, mi, ml, mr))) rfl ?_
      refine wp_calt (as := []) rfl rfl rfl (Nat.le_of_ble_eq_true rfl) (by decide) (c_len8) (by decide) ?_
      rintro _ _ ⟨rfl, rfl⟩
      show aWP _ _ (15, [some (.ref 2), some (.ref (aSTR + 8)), some (.int 1)], [.int 5, .int 1], (HD, mi, ml, mr)) _
      refine wp_bC rfl (fun c_4 => ?_) (fun c_4 => ?_)
      · have c_4 : 5 ≤ 1 := of_decide_eq_true c_4
        exact absurd c_4 (by decide)
      have c_4 : ¬ (5 ≤ 1) := of_decide_eq_false c_4
      refine wp_steps 2 (t' := (18, [some (.ref 2), some (.ref (aSTR + 8)), some (.int 1)], [.ref 2, .ref 2], (HD, mi, ml, mr))) rfl ?_
      refine wp_geti rfl ⟨by decide, rfl⟩ (Or.inl rfl) ?_
      rw [he4]
      refine wp_steps 2 (t' := (21, [some (.ref 2), some (.ref (aSTR + 8)), some (.int 1)], [.int ((nI a) + 1), .ref 2], (HD, mi, ml, mr))) rfl ?_
      rw [show nI a + 1 = nI (a + 1) from nI_add a 1]
      refine wp_calv (as := [.int (nI (a + 1))]) rfl rfl rfl (Nat.le_of_ble_eq_true rfl) ⟨by decide, rfl⟩ (c_byteAt hM hn hs (p := a + 1) (by omega)) (by decide) ?_
      rintro _ _ ⟨rfl, rfl⟩
      show aWP _ _ (22, [some (.ref 2), some (.ref (aSTR + 8)), some (.int 1)], [.int (byN (mi 3) n (a + 1))], (HD, mi, ml, mr)) _
      refine wp_steps 2 (t' := (24, [some (.ref 2), some (.ref (aSTR + 8)), some (.int 1)], [.int 1, .ref (aSTR + 8), .int (byN (mi 3) n (a + 1))], (HD, mi, ml, mr))) rfl ?_
      refine wp_calt (as := [.int 1]) rfl rfl rfl (Nat.le_of_ble_eq_true rfl) (by decide) (c_chr8_1 hX) (by decide) ?_
      rintro _ _ ⟨rfl, rfl⟩
      show aWP _ _ (25, [some (.ref 2), some (.ref (aSTR + 8)), some (.int 1)], [.int 97, .int (byN (mi 3) n (a + 1))], (HD, mi, ml, mr)) _
      refine wp_bC rfl (fun c_5 => ?_) (fun c_5 => ?_)
      · have c_5 : (byN (mi 3) n (a + 1)) = 97 := of_decide_eq_true c_5
        refine wp_steps 4 (t' := (14, [some (.ref 2), some (.ref (aSTR + 8)), some (.int 2)], [.ref (aSTR + 8), .int 2], (HD, mi, ml, mr))) rfl ?_
        refine wp_calt (as := []) rfl rfl rfl (Nat.le_of_ble_eq_true rfl) (by decide) (c_len8) (by decide) ?_
        rintro _ _ ⟨rfl, rfl⟩
        show aWP _ _ (15, [some (.ref 2), some (.ref (aSTR + 8)), some (.int 2)], [.int 5, .int 2], (HD, mi, ml, mr)) _
        refine wp_bC rfl (fun c_6 => ?_) (fun c_6 => ?_)
        · have c_6 : 5 ≤ 2 := of_decide_eq_true c_6
          exact absurd c_6 (by decide)
        have c_6 : ¬ (5 ≤ 2) := of_decide_eq_false c_6
        refine wp_steps 2 (t' := (18, [some (.ref 2), some (.ref (aSTR + 8)), some (.int 2)], [.ref 2, .ref 2], (HD, mi, ml, mr))) rfl ?_
        refine wp_geti rfl ⟨by decide, rfl⟩ (Or.inl rfl) ?_
        rw [he4]
        refine wp_steps 2 (t' := (21, [some (.ref 2), some (.ref (aSTR + 8)), some (.int 2)], [.int ((nI a) + 2), .ref 2], (HD, mi, ml, mr))) rfl ?_
        rw [show nI a + 2 = nI (a + 2) from nI_add a 2]
        refine wp_calv (as := [.int (nI (a + 2))]) rfl rfl rfl (Nat.le_of_ble_eq_true rfl) ⟨by decide, rfl⟩ (c_byteAt hM hn hs (p := a + 2) (by omega)) (by decide) ?_
        rintro _ _ ⟨rfl, rfl⟩
        show aWP _ _ (22, [some (.ref 2), some (.ref (aSTR + 8)), some (.int 2)], [.int (byN (mi 3) n (a + 2))], (HD, mi, ml, mr)) _
        refine wp_steps 2 (t' := (24, [some (.ref 2), some (.ref (aSTR + 8)), some (.int 2)], [.int 2, .ref (aSTR + 8), .int (byN (mi 3) n (a + 2))], (HD, mi, ml, mr))) rfl ?_
        refine wp_calt (as := [.int 2]) rfl rfl rfl (Nat.le_of_ble_eq_true rfl) (by decide) (c_chr8_2 hX) (by decide) ?_
        rintro _ _ ⟨rfl, rfl⟩
        show aWP _ _ (25, [some (.ref 2), some (.ref (aSTR + 8)), some (.int 2)], [.int 100, .int (byN (mi 3) n (a + 2))], (HD, mi, ml, mr)) _
        refine wp_bC rfl (fun c_7 => ?_) (fun c_7 => ?_)
        · have c_7 : (byN (mi 3) n (a + 2)) = 100 := of_decide_eq_true c_7
          refine wp_steps 4 (t' := (14, [some (.ref 2), some (.ref (aSTR + 8)), some (.int 3)], [.ref (aSTR + 8), .int 3], (HD, mi, ml, mr))) rfl ?_
          refine wp_calt (as := []) rfl rfl rfl (Nat.le_of_ble_eq_true rfl) (by decide) (c_len8) (by decide) ?_
          rintro _ _ ⟨rfl, rfl⟩
          show aWP _ _ (15, [some (.ref 2), some (.ref (aSTR + 8)), some (.int 3)], [.int 5, .int 3], (HD, mi, ml, mr)) _
          refine wp_bC rfl (fun c_8 => ?_) (fun c_8 => ?_)
          · have c_8 : 5 ≤ 3 := of_decide_eq_true c_8
            exact absurd c_8 (by decide)
          have c_8 : ¬ (5 ≤ 3) := of_decide_eq_false c_8
          refine wp_steps 2 (t' := (18, [some (.ref 2), some (.ref (aSTR + 8)), some (.int 3)], [.ref 2, .ref 2], (HD, mi, ml, mr))) rfl ?_
          refine wp_geti rfl ⟨by decide, rfl⟩ (Or.inl rfl) ?_
          rw [he4]
          refine wp_steps 2 (t' := (21, [some (.ref 2), some (.ref (aSTR + 8)), some (.int 3)], [.int ((nI a) + 3), .ref 2], (HD, mi, ml, mr))) rfl ?_
          rw [show nI a + 3 = nI (a + 3) from nI_add a 3]
          refine wp_calv (as := [.int (nI (a + 3))]) rfl rfl rfl (Nat.le_of_ble_eq_true rfl) ⟨by decide, rfl⟩ (c_byteAt hM hn hs (p := a + 3) (by omega)) (by decide) ?_
          rintro _ _ ⟨rfl, rfl⟩
          show aWP _ _ (22, [some (.ref 2), some (.ref (aSTR + 8)), some (.int 3)], [.int (byN (mi 3) n (a + 3))], (HD, mi, ml, mr)) _
          refine wp_steps 2 (t' := (24, [some (.ref 2), some (.ref (aSTR + 8)), some (.int 3)], [.int 3, .ref (aSTR + 8), .int (byN (mi 3) n (a + 3))], (HD, mi, ml, mr))) rfl ?_
          refine wp_calt (as := [.int 3]) rfl rfl rfl (Nat.le_of_ble_eq_true rfl) (by decide) (c_chr8_3 hX) (by decide) ?_
          rintro _ _ ⟨rfl, rfl⟩
          show aWP _ _ (25, [some (.ref 2), some (.ref (aSTR + 8)), some (.int 3)], [.int 101, .int (byN (mi 3) n (a + 3))], (HD, mi, ml, mr)) _
          refine wp_bC rfl (fun c_9 => ?_) (fun c_9 => ?_)
          · have c_9 : (byN (mi 3) n (a + 3)) = 101 := of_decide_eq_true c_9
            refine wp_steps 4 (t' := (14, [some (.ref 2), some (.ref (aSTR + 8)), some (.int 4)], [.ref (aSTR + 8), .int 4], (HD, mi, ml, mr))) rfl ?_
            refine wp_calt (as := []) rfl rfl rfl (Nat.le_of_ble_eq_true rfl) (by decide) (c_len8) (by decide) ?_
            rintro _ _ ⟨rfl, rfl⟩
            show aWP _ _ (15, [some (.ref 2), some (.ref (aSTR + 8)), some (.int 4)], [.int 5, .int 4], (HD, mi, ml, mr)) _
            refine wp_bC rfl (fun c_10 => ?_) (fun c_10 => ?_)
            · have c_10 : 5 ≤ 4 := of_decide_eq_true c_10
              exact absurd c_10 (by decide)
            have c_10 : ¬ (5 ≤ 4) := of_decide_eq_false c_10
            refine wp_steps 2 (t' := (18, [some (.ref 2), some (.ref (aSTR + 8)), some (.int 4)], [.ref 2, .ref 2], (HD, mi, ml, mr))) rfl ?_
            refine wp_geti rfl ⟨by decide, rfl⟩ (Or.inl rfl) ?_
            rw [he4]
            refine wp_steps 2 (t' := (21, [some (.ref 2), some (.ref (aSTR + 8)), some (.int 4)], [.int ((nI a) + 4), .ref 2], (HD, mi, ml, mr))) rfl ?_
            rw [show nI a + 4 = nI (a + 4) from nI_add a 4]
            refine wp_calv (as := [.int (nI (a + 4))]) rfl rfl rfl (Nat.le_of_ble_eq_true rfl) ⟨by decide, rfl⟩ (c_byteAt hM hn hs (p := a + 4) (by omega)) (by decide) ?_
            rintro _ _ ⟨rfl, rfl⟩
            show aWP _ _ (22, [some (.ref 2), some (.ref (aSTR + 8)), some (.int 4)], [.int (byN (mi 3) n (a + 4))], (HD, mi, ml, mr)) _
            refine wp_steps 2 (t' := (24, [some (.ref 2), some (.ref (aSTR + 8)), some (.int 4)], [.int 4, .ref (aSTR + 8), .int (byN (mi 3) n (a + 4))], (HD, mi, ml, mr))) rfl ?_
            refine wp_calt (as := [.int 4]) rfl rfl rfl (Nat.le_of_ble_eq_true rfl) (by decide) (c_chr8_4 hX) (by decide) ?_
            rintro _ _ ⟨rfl, rfl⟩
            show aWP _ _ (25, [some (.ref 2), some (.ref (aSTR + 8)), some (.int 4)], [.int 115, .int (byN (mi 3) n (a + 4))], (HD, mi, ml, mr)) _
            refine wp_bC rfl (fun c_11 => ?_) (fun c_11 => ?_)
            · have c_11 : (byN (mi 3) n (a + 4)) = 115 := of_decide_eq_true c_11
              refine wp_steps 4 (t' := (14, [some (.ref 2), some (.ref (aSTR + 8)), some (.int 5)], [.ref (aSTR + 8), .int 5], (HD, mi, ml, mr))) rfl ?_
              refine wp_calt (as := []) rfl rfl rfl (Nat.le_of_ble_eq_true rfl) (by decide) (c_len8) (by decide) ?_
              rintro _ _ ⟨rfl, rfl⟩
              show aWP _ _ (15, [some (.ref 2), some (.ref (aSTR + 8)), some (.int 5)], [.int 5, .int 5], (HD, mi, ml, mr)) _
              refine wp_bC rfl (fun c_12 => ?_) (fun c_12 => ?_)
              rotate_left
              · have c_12 : ¬ (5 ≤ 5) := of_decide_eq_false c_12
                exact absurd c_12 (by decide)
              have c_12 : 5 ≤ 5 := of_decide_eq_true c_12
              refine wp_steps 1 (t' := (31, [some (.ref 2), some (.ref (aSTR + 8)), some (.int 5)], [.int 1], (HD, mi, ml, mr))) rfl ?_
              refine wp_ret rfl rfl ⟨⟨Nat.le_refl _, Nat.le_refl _⟩, ?_⟩
              have q : e - a = 5 := (nI_eq (by omega) (by decide)).mp c_1
              exact ⟨by simp [wdF, rdF, q, show ¬ (5 ≤ 0) from c_2, show (byN (mi 3) n a) = 102 from c_3, show ¬ (5 ≤ 1) from c_4, show (byN (mi 3) n (a + 1)) = 97 from c_5, show ¬ (5 ≤ 2) from c_6, show (byN (mi 3) n (a + 2)) = 100 from c_7, show ¬ (5 ≤ 3) from c_8, show (byN (mi 3) n (a + 3)) = 101 from c_9, show ¬ (5 ≤ 4) from c_10, show (byN (mi 3) n (a + 4)) = 115 from c_11, show 5 ≤ 5 from c_12], rfl⟩
            · have c_11 : ¬ ((byN (mi 3) n (a + 4)) = 115) := of_decide_eq_false c_11
              refine wp_steps 1 (t' := (27, [some (.ref 2), some (.ref (aSTR + 8)), some (.int 4)], [.int 0], (HD, mi, ml, mr))) rfl ?_
              refine wp_ret rfl rfl ⟨⟨Nat.le_refl _, Nat.le_refl _⟩, ?_⟩
              have q : e - a = 5 := (nI_eq (by omega) (by decide)).mp c_1
              exact ⟨by simp [wdF, rdF, q, show ¬ (5 ≤ 0) from c_2, show (byN (mi 3) n a) = 102 from c_3, show ¬ (5 ≤ 1) from c_4, show (byN (mi 3) n (a + 1)) = 97 from c_5, show ¬ (5 ≤ 2) from c_6, show (byN (mi 3) n (a + 2)) = 100 from c_7, show ¬ (5 ≤ 3) from c_8, show (byN (mi 3) n (a + 3)) = 101 from c_9, show ¬ (5 ≤ 4) from c_10, show ¬ ((byN (mi 3) n (a + 4)) = 115) from c_11], rfl⟩
          · have c_9 : ¬ ((byN (mi 3) n (a + 3)) = 101) := of_decide_eq_false c_9
            refine wp_steps 1 (t' := (27, [some (.ref 2), some (.ref (aSTR + 8)), some (.int 3)], [.int 0], (HD, mi, ml, mr))) rfl ?_
            refine wp_ret rfl rfl ⟨⟨Nat.le_refl _, Nat.le_refl _⟩, ?_⟩
            have q : e - a = 5 := (nI_eq (by omega) (by decide)).mp c_1
            exact ⟨by simp [wdF, rdF, q, show ¬ (5 ≤ 0) from c_2, show (byN (mi 3) n a) = 102 from c_3, show ¬ (5 ≤ 1) from c_4, show (byN (mi 3) n (a + 1)) = 97 from c_5, show ¬ (5 ≤ 2) from c_6, show (byN (mi 3) n (a + 2)) = 100 from c_7, show ¬ (5 ≤ 3) from c_8, show ¬ ((byN (mi 3) n (a + 3)) = 101) from c_9], rfl⟩
        · have c_7 : ¬ ((byN (mi 3) n (a + 2)) = 100) := of_decide_eq_false c_7
          refine wp_steps 1 (t' := (27, [some (.ref 2), some (.ref (aSTR + 8)), some (.int 2)], [.int 0], (HD, mi, ml, mr))) rfl ?_
          refine wp_ret rfl rfl ⟨⟨Nat.le_refl _, Nat.le_refl _⟩, ?_⟩
          have q : e - a = 5 := (nI_eq (by omega) (by decide)).mp c_1
          exact ⟨by simp [wdF, rdF, q, show ¬ (5 ≤ 0) from c_2, show (byN (mi 3) n a) = 102 from c_3, show ¬ (5 ≤ 1) from c_4, show (byN (mi 3) n (a + 1)) = 97 from c_5, show ¬ (5 ≤ 2) from c_6, show ¬ ((byN (mi 3) n (a + 2)) = 100) from c_7], rfl⟩
      · have c_5 : ¬ ((byN (mi 3) n (a + 1)) = 97) := of_decide_eq_false c_5
        refine wp_steps 1 (t' := (27, [some (.ref 2), some (.ref (aSTR + 8)), some (.int 1)], [.int 0], (HD, mi, ml, mr))) rfl ?_
        refine wp_ret rfl rfl ⟨⟨Nat.le_refl _, Nat.le_refl _⟩, ?_⟩
        have q : e - a = 5 := (nI_eq (by omega) (by decide)).mp c_1
        exact ⟨by simp [wdF, rdF, q, show ¬ (5 ≤ 0) from c_2, show (byN (mi 3) n a) = 102 from c_3, show ¬ (5 ≤ 1) from c_4, show ¬ ((byN (mi 3) n (a + 1)) = 97) from c_5], rfl⟩
    · have c_3 : ¬ ((byN (mi 3) n (a + 0)) = 102) := of_decide_eq_false c_3
      refine wp_steps 1 (t' := (27, [some (.ref 2), some (.ref (aSTR + 8)), some (.int 0)], [.int 0], (HD, mi, ml, mr))) rfl ?_
      refine wp_ret rfl rfl ⟨⟨Nat.le_refl _, Nat.le_refl _⟩, ?_⟩
      have q : e - a = 5 := (nI_eq (by omega) (by decide)).mp c_1
      exact ⟨by simp [wdF, rdF, q, show ¬ (5 ≤ 0) from c_2, show ¬ ((byN (mi 3) n a) = 102) from c_3], rfl⟩
  · have c_1 : ¬ ((nI (e - a)) = 5) := of_decide_eq_false c_1
    refine wp_steps 1 (t' := (9, [some (.ref 2), some (.ref (aSTR + 8)), none], [.int 0], (HD, mi, ml, mr))) rfl ?_
    refine wp_ret rfl rfl ⟨⟨Nat.le_refl _, Nat.le_refl _⟩, ?_⟩
    have q : ¬ e - a = 5 := fun q => c_1 (by rw [q]; rfl)
    exact ⟨by simp [wdF, q], rfl⟩
set_option maxRecDepth 20000 in
set_option maxHeartbeats 1000000 in
theorem c_reads9 {X : aXt × Value} {mi : Nat → Nat → Int32} {ml : Nat → Nat → Int64} {mr : Nat → Nat → Option Nat} (hM : MRok mr) {n : Nat} (hn : n ≤ 160) (hs : mi 2 0 = nI n) (hX : outOK X) {a e : Nat} (hae : a ≤ e) (hl : e ≤ 170) (he4 : mi 2 4 = nI a) (he5 : mi 2 5 = nI e) : aCW X 5 29 [.ref 2, .ref (aSTR + 9)] (HD, mi, ml, mr) (rdI mi ml mr (wdF (byN (mi 3) n) a e [110, 101, 114, 118, 101, 115])) := by
  refine cw_of (cd := cd_X1_reads) (nL := 3) rfl rfl ?_
  show aWP _ _ (0, [some (.ref 2), some (.ref (aSTR + 9)), none], [], (HD, mi, ml, mr)) _
  refine wp_steps 1 (t' := (1, [some (.ref 2), some (.ref (aSTR + 9)), none], [.ref 2], (HD, mi, ml, mr))) rfl ?_
  refine wp_geti rfl ⟨by decide, rfl⟩ (Or.inl rfl) ?_
  rw [he5]
  refine wp_steps 1 (t' := (3, [some (.ref 2), some (.ref (aSTR + 9)), none], [.ref 2, .int (nI e)], (HD, mi, ml, mr))) rfl ?_
  refine wp_geti rfl ⟨by decide, rfl⟩ (Or.inl rfl) ?_
  rw [he4]
  refine wp_steps 1 (t' := (5, [some (.ref 2), some (.ref (aSTR + 9)), none], [.int ((nI e) - (nI a))], (HD, mi, ml, mr))) rfl ?_
  rw [nI_sb hae]
  refine wp_steps 1 (t' := (6, [some (.ref 2), some (.ref (aSTR + 9)), none], [.ref (aSTR + 9), .int (nI (e - a))], (HD, mi, ml, mr))) rfl ?_
  refine wp_calt (as := []) rfl rfl rfl (Nat.le_of_ble_eq_true rfl) (by decide) (c_len9) (by decide) ?_
  rintro _ _ ⟨rfl, rfl⟩
  show aWP _ _ (7, [some (.ref 2), some (.ref (aSTR + 9)), none], [.int 6, .int (nI (e - a))], (HD, mi, ml, mr)) _
  refine wp_bC rfl (fun c_1 => ?_) (fun c_1 => ?_)
  · have c_1 : (nI (e - a)) = 6 := of_decide_eq_true c_1
    refine wp_steps 4 (t' := (14, [some (.ref 2), some (.ref (aSTR + 9)), some (.int 0)], [.ref (aSTR + 9), .int 0], (HD, mi, ml, mr))) rfl ?_
    refine wp_calt (as := []) rfl rfl rfl (Nat.le_of_ble_eq_true rfl) (by decide) (c_len9) (by decide) ?_
    rintro _ _ ⟨rfl, rfl⟩
    show aWP _ _ (15, [some (.ref 2), some (.ref (aSTR + 9)), some (.int 0)], [.int 6, .int 0], (HD, mi, ml, mr)) _
    refine wp_bC rfl (fun c_2 => ?_) (fun c_2 => ?_)
    · have c_2 : 6 ≤ 0 := of_decide_eq_true c_2
      exact absurd c_2 (by decide)
    have c_2 : ¬ (6 ≤ 0) := of_decide_eq_false c_2
    refine wp_steps 2 (t' := (18, [some (.ref 2), some (.ref (aSTR + 9)), some (.int 0)], [.ref 2, .ref 2], (HD, mi, ml, mr))) rfl ?_
    refine wp_geti rfl ⟨by decide, rfl⟩ (Or.inl rfl) ?_
    rw [he4]
    refine wp_steps 2 (t' := (21, [some (.ref 2), some (.ref (aSTR + 9)), some (.int 0)], [.int ((nI a) + 0), .ref 2], (HD, mi, ml, mr))) rfl ?_
    rw [show nI a + 0 = nI (a + 0) from nI_add a 0]
    refine wp_calv (as := [.int (nI (a + 0))]) rfl rfl rfl (Nat.le_of_ble_eq_true rfl) ⟨by decide, rfl⟩ (c_byteAt hM hn hs (p := a + 0) (by omega)) (by decide) ?_
    rintro _ _ ⟨rfl, rfl⟩
    show aWP _ _ (22, [some (.ref 2), some (.ref (aSTR + 9)), some (.int 0)], [.int (byN (mi 3) n (a + 0))], (HD, mi, ml, mr)) _
    refine wp_steps 2 (t' := (24, [some (.ref 2), some (.ref (aSTR + 9)), some (.int 0)], [.int 0, .ref (aSTR + 9), .int (byN (mi 3) n (a + 0))], (HD, mi, ml, mr))) rfl ?_
    refine wp_calt (as := [.int 0]) rfl rfl rfl (Nat.le_of_ble_eq_true rfl) (by decide) (c_chr9_0 hX) (by decide) ?_
    rintro _ _ ⟨rfl, rfl⟩
    show aWP _ _ (25, [some (.ref 2), some (.ref (aSTR + 9)), some (.int 0)], [.int 110, .int (byN (mi 3) n (a + 0))], (HD, mi, ml, mr)) _
    refine wp_bC rfl (fun c_3 => ?_) (fun c_3 => ?_)
    · have c_3 : (byN (mi 3) n (a + 0)) = 110 := of_decide_eq_true c_3
      refine wp_steps 4 (t' := (14, [some (.ref 2), some (.ref (aSTR + 9)), some (.int 1)], [.ref (aSTR + 9), .int 1], (HD, mi, ml, mr))) rfl ?_
      refine wp_calt (as := []) rfl rfl rfl (Nat.le_of_ble_eq_true rfl) (by decide) (c_len9) (by decide) ?_
      rintro _ _ ⟨rfl, rfl⟩
      show aWP _ _ (15, [some (.ref 2), some (.ref (aSTR + 9)), some (.int 1)], [.int 6, .int 1], (HD, mi, ml, mr)) _
      refine wp_bC rfl (fun c_4 => ?_) (fun c_4 => ?_)
      · have c_4 : 6 ≤ 1 := of_decide_eq_true c_4
        exact absurd c_4 (by decide)
      have c_4 : ¬ (6 ≤ 1) := of_decide_eq_false c_4
      refine wp_steps 2 (t' := (18, [some (.ref 2), some (.ref (aSTR + 9)), some (.int 1)], [.ref 2, .ref 2], (HD, mi, ml, mr))) rfl ?_
      refine wp_geti rfl ⟨by decide, rfl⟩ (Or.inl rfl) ?_
      rw [he4]
      refine wp_steps 2 (t' := (21, [some (.ref 2), some (.ref (aSTR + 9)), some (.int 1)], [.int ((nI a) + 1), .ref 2], (HD, mi, ml, mr))) rfl ?_
      rw [show nI a + 1 = nI (a + 1) from nI_add a 1]
      refine wp_calv (as := [.int (nI (a + 1))]) rfl rfl rfl (Nat.le_of_ble_eq_true rfl) ⟨by decide, rfl⟩ (c_byteAt hM hn hs (p := a + 1) (by omega)) (by decide) ?_
      rintro _ _ ⟨rfl, rfl⟩
      show aWP _ _ (22, [some (.ref 2), some (.ref (aSTR + 9)), some (.int 1)], [.int (byN (mi 3) n (a + 1))], (HD, mi, ml, mr)) _
      refine wp_steps 2 (t' := (24, [some (.ref 2), some (.ref (aSTR + 9)), some (.int 1)], [.int 1, .ref (aSTR + 9), .int (byN (mi 3) n (a + 1))], (HD, mi, ml, mr))) rfl ?_
      refine wp_calt (as := [.int 1]) rfl rfl rfl (Nat.le_of_ble_eq_true rfl) (by decide) (c_chr9_1 hX) (by decide) ?_
      rintro _ _ ⟨rfl, rfl⟩
      show aWP _ _ (25, [some (.ref 2), some (.ref (aSTR + 9)), some (.int 1)], [.int 101, .int (byN (mi 3) n (a + 1))], (HD, mi, ml, mr)) _
      refine wp_bC rfl (fun c_5 => ?_) (fun c_5 => ?_)
      · have c_5 : (byN (mi 3) n (a + 1)) = 101 := of_decide_eq_true c_5
        refine wp_steps 4 (t' := (14, [some (.ref 2), some (.ref (aSTR + 9)), some (.int 2)], [.ref (aSTR + 9), .int 2], (HD, mi, ml, mr))) rfl ?_
        refine wp_calt (as := []) rfl rfl rfl (Nat.le_of_ble_eq_true rfl) (by decide) (c_len9) (by decide) ?_
        rintro _ _ ⟨rfl, rfl⟩
        show aWP _ _ (15, [some (.ref 2), some (.ref (aSTR + 9)), some (.int 2)], [.int 6, .int 2], (HD, mi, ml, mr)) _
        refine wp_bC rfl (fun c_6 => ?_) (fun c_6 => ?_)
        · have c_6 : 6 ≤ 2 := of_decide_eq_true c_6
          exact absurd c_6 (by decide)
        have c_6 : ¬ (6 ≤ 2) := of_decide_eq_false c_6
        refine wp_steps 2 (t' := (18, [some (.ref 2), some (.ref (aSTR + 9)), some (.int 2)], [.ref 2, .ref 2], (HD, mi, ml, mr))) rfl ?_
        refine wp_geti rfl ⟨by decide, rfl⟩ (Or.inl rfl) ?_
        rw [he4]
        refine wp_steps 2 (t' := (21, [some (.ref 2), some (.ref (aSTR + 9)), some (.int 2)], [.int ((nI a) + 2), .ref 2], (HD, mi, ml, mr))) rfl ?_
        rw [show nI a + 2 = nI (a + 2) from nI_add a 2]
        refine wp_calv (as := [.int (nI (a + 2))]) rfl rfl rfl (Nat.le_of_ble_eq_true rfl) ⟨by decide, rfl⟩ (c_byteAt hM hn hs (p := a + 2) (by omega)) (by decide) ?_
        rintro _ _ ⟨rfl, rfl⟩
        show aWP _ _ (22, [some (.ref 2), some (.ref (aSTR + 9)), some (.int 2)], [.int (byN (mi 3) n (a + 2))], (HD, mi, ml, mr)) _
        refine wp_steps 2 (t' := (24, [some (.ref 2), some (.ref (aSTR + 9)), some (.int 2)], [.int 2, .ref (aSTR + 9), .int (byN (mi 3) n (a + 2))], (HD, mi, ml, mr))) rfl ?_
        refine wp_calt (as := [.int 2]) rfl rfl rfl (Nat.le_of_ble_eq_true rfl) (by decide) (c_chr9_2 hX) (by decide) ?_
        rintro _ _ ⟨rfl, rfl⟩
        show aWP _ _ (25, [some (.ref 2), some (.ref (aSTR + 9)), some (.int 2)], [.int 114, .int (byN (mi 3) n (a + 2))], (HD, mi, ml, mr)) _
        refine wp_bC rfl (fun c_7 => ?_) (fun c_7 => ?_)
        · have c_7 : (byN (mi 3) n (a + 2)) = 114 := of_decide_eq_true c_7
          refine wp_steps 4 (t' := (14, [some (.ref 2), some (.ref (aSTR + 9)), some (.int 3)], [.ref (aSTR + 9), .int 3], (HD, mi, ml, mr))) rfl ?_
          refine wp_calt (as := []) rfl rfl rfl (Nat.le_of_ble_eq_true rfl) (by decide) (c_len9) (by decide) ?_
          rintro _ _ ⟨rfl, rfl⟩
          show aWP _ _ (15, [some (.ref 2), some (.ref (aSTR + 9)), some (.int 3)], [.int 6, .int 3], (HD, mi, ml, mr)) _
          refine wp_bC rfl (fun c_8 => ?_) (fun c_8 => ?_)
          · have c_8 : 6 ≤ 3 := of_decide_eq_true c_8
            exact absurd c_8 (by decide)
          have c_8 : ¬ (6 ≤ 3) := of_decide_eq_false c_8
          refine wp_steps 2 (t' := (18, [some (.ref 2), some (.ref (aSTR + 9)), some (.int 3)], [.ref 2, .ref 2], (HD, mi, ml, mr))) rfl ?_
          refine wp_geti rfl ⟨by decide, rfl⟩ (Or.inl rfl) ?_
          rw [he4]
          refine wp_steps 2 (t' := (21, [some (.ref 2), some (.ref (aSTR + 9)), some (.int 3)], [.int ((nI a) + 3), .ref 2], (HD, mi, ml, mr))) rfl ?_
          rw [show nI a + 3 = nI (a + 3) from nI_add a 3]
          refine wp_calv (as := [.int (nI (a + 3))]) rfl rfl rfl (Nat.le_of_ble_eq_true rfl) ⟨by decide, rfl⟩ (c_byteAt hM hn hs (p := a + 3) (by omega)) (by decide) ?_
          rintro _ _ ⟨rfl, rfl⟩
          show aWP _ _ (22, [some (.ref 2), some (.ref (aSTR + 9)), some (.int 3)], [.int (byN (mi 3) n (a + 3))], (HD, mi, ml, mr)) _
          refine wp_steps 2 (t' := (24, [some (.ref 2), some (.ref (aSTR + 9)), some (.int 3)], [.int 3, .ref (aSTR + 9), .int (byN (mi 3) n (a + 3))], (HD, mi, ml, mr))) rfl ?_
          refine wp_calt (as := [.int 3]) rfl rfl rfl (Nat.le_of_ble_eq_true rfl) (by decide) (c_chr9_3 hX) (by decide) ?_
          rintro _ _ ⟨rfl, rfl⟩
          show aWP _ _ (25, [some (.ref 2), some (.ref (aSTR + 9)), some (.int 3)], [.int 118, .int (byN (mi 3) n (a + 3))], (HD, mi, ml, mr)) _
          refine wp_bC rfl (fun c_9 => ?_) (fun c_9 => ?_)
          · have c_9 : (byN (mi 3) n (a + 3)) = 118 := of_decide_eq_true c_9
            refine wp_steps 4 (t' := (14, [some (.ref 2), some (.ref (aSTR + 9)), some (.int 4)], [.ref (aSTR + 9), .int 4], (HD, mi, ml, mr))) rfl ?_
            refine wp_calt (as := []) rfl rfl rfl (Nat.le_of_ble_eq_true rfl) (by decide) (c_len9) (by decide) ?_
            rintro _ _ ⟨rfl, rfl⟩
            show aWP _ _ (15, [some (.ref 2), some (.ref (aSTR + 9)), some (.int 4)], [.int 6, .int 4], (HD, mi, ml, mr)) _
            refine wp_bC rfl (fun c_10 => ?_) (fun c_10 => ?_)
            · have c_10 : 6 ≤ 4 := of_decide_eq_true c_10
              exact absurd c_10 (by decide)
            have c_10 : ¬ (6 ≤ 4) := of_decide_eq_false c_10
            refine wp_steps 2 (t' := (18, [some (.ref 2), some (.ref (aSTR + 9)), some (.int 4)], [.ref 2, .ref 2], (HD, mi, ml, mr))) rfl ?_
            refine wp_geti rfl ⟨by decide, rfl⟩ (Or.inl rfl) ?_
            rw [he4]
            refine wp_steps 2 (t' := (21, [some (.ref 2), some (.ref (aSTR + 9)), some (.int 4)], [.int ((nI a) + 4), .ref 2], (HD, mi, ml, mr))) rfl ?_
            rw [show nI a + 4 = nI (a + 4) from nI_add a 4]
            refine wp_calv (as := [.int (nI (a + 4))]) rfl rfl rfl (Nat.le_of_ble_eq_true rfl) ⟨by decide, rfl⟩ (c_byteAt hM hn hs (p := a + 4) (by omega)) (by decide) ?_
            rintro _ _ ⟨rfl, rfl⟩
            show aWP _ _ (22, [some (.ref 2), some (.ref (aSTR + 9)), some (.int 4)], [.int (byN (mi 3) n (a + 4))], (HD, mi, ml, mr)) _
            refine wp_steps 2 (t' := (24, [some (.ref 2), some (.ref (aSTR + 9)), some (.int 4)], [.int 4, .ref (aSTR + 9), .int (byN (mi 3) n (a + 4))], (HD, mi, ml, mr))) rfl ?_
            refine wp_calt (as := [.int 4]) rfl rfl rfl (Nat.le_of_ble_eq_true rfl) (by decide) (c_chr9_4 hX) (by decide) ?_
            rintro _ _ ⟨rfl, rfl⟩
            show aWP _ _ (25, [some (.ref 2), some (.ref (aSTR + 9)), some (.int 4)], [.int 101, .int (byN (mi 3) n (a + 4))], (HD, mi, ml, mr)) _
            refine wp_bC rfl (fun c_11 => ?_) (fun c_11 => ?_)
            · have c_11 : (byN (mi 3) n (a + 4)) = 101 := of_decide_eq_true c_11
              refine wp_steps 4 (t' := (14, [some (.ref 2), some (.ref (aSTR + 9)), some (.int 5)], [.ref (aSTR + 9), .int 5], (HD, mi, ml, mr))) rfl ?_
              refine wp_calt (as := []) rfl rfl rfl (Nat.le_of_ble_eq_true rfl) (by decide) (c_len9) (by decide) ?_
              rintro _ _ ⟨rfl, rfl⟩
              show aWP _ _ (15, [some (.ref 2), some (.ref (aSTR + 9)), some (.int 5)], [.int 6, .int 5], (HD, mi, ml, mr)) _
              refine wp_bC rfl (fun c_12 => ?_) (fun c_12 => ?_)
              · have c_12 : 6 ≤ 5 := of_decide_eq_true c_12
                exact absurd c_12 (by decide)
              have c_12 : ¬ (6 ≤ 5) := of_decide_eq_false c_12
              refine wp_steps 2 (t' := (18, [some (.ref 2), some (.ref (aSTR + 9)), some (.int 5)], [.ref 2, .ref 2], (HD, mi, ml, mr))) rfl ?_
              refine wp_geti rfl ⟨by decide, rfl⟩ (Or.inl rfl) ?_
              rw [he4]
              refine wp_steps 2 (t' := (21, [some (.ref 2), some (.ref (aSTR + 9)), some (.int 5)], [.int ((nI a) + 5), .ref 2], (HD, mi, ml, mr))) rfl ?_
              rw [show nI a + 5 = nI (a + 5) from nI_add a 5]
              refine wp_calv (as := [.int (nI (a + 5))]) rfl rfl rfl (Nat.le_of_ble_eq_true rfl) ⟨by decide, rfl⟩ (c_byteAt hM hn hs (p := a + 5) (by omega)) (by decide) ?_
              rintro _ _ ⟨rfl, rfl⟩
              show aWP _ _ (22, [some (.ref 2), some (.ref (aSTR + 9)), some (.int 5)], [.int (byN (mi 3) n (a + 5))], (HD, mi, ml, mr)) _
              refine wp_steps 2 (t' := (24, [some (.ref 2), some (.ref (aSTR + 9)), some (.int 5)], [.int 5, .ref (aSTR + 9), .int (byN (mi 3) n (a + 5))], (HD, mi, ml, mr))) rfl ?_
              refine wp_calt (as := [.int 5]) rfl rfl rfl (Nat.le_of_ble_eq_true rfl) (by decide) (c_chr9_5 hX) (by decide) ?_
              rintro _ _ ⟨rfl, rfl⟩
              show aWP _ _ (25, [some (.ref 2), some (.ref (aSTR + 9)), some (.int 5)], [.int 115, .int (byN (mi 3) n (a + 5))], (HD, mi, ml, mr)) _
              refine wp_bC rfl (fun c_13 => ?_) (fun c_13 => ?_)
              · have c_13 : (byN (mi 3) n (a + 5)) = 115 := of_decide_eq_true c_13
                refine wp_steps 4 (t' := (14, [some (.ref 2), some (.ref (aSTR + 9)), some (.int 6)], [.ref (aSTR + 9), .int 6], (HD, mi, ml, mr))) rfl ?_
                refine wp_calt (as := []) rfl rfl rfl (Nat.le_of_ble_eq_true rfl) (by decide) (c_len9) (by decide) ?_
                rintro _ _ ⟨rfl, rfl⟩
                show aWP _ _ (15, [some (.ref 2), some (.ref (aSTR + 9)), some (.int 6)], [.int 6, .int 6], (HD, mi, ml, mr)) _
                refine wp_bC rfl (fun c_14 => ?_) (fun c_14 => ?_)
                rotate_left
                · have c_14 : ¬ (6 ≤ 6) := of_decide_eq_false c_14
                  exact absurd c_14 (by decide)
                have c_14 : 6 ≤ 6 := of_decide_eq_true c_14
                refine wp_steps 1 (t' := (31, [some (.ref 2), some (.ref (aSTR + 9)), some (.int 6)], [.int 1], (HD, mi, ml, mr))) rfl ?_
                refine wp_ret rfl rfl ⟨⟨Nat.le_refl _, Nat.le_refl _⟩, ?_⟩
                have q : e - a = 6 := (nI_eq (by omega) (by decide)).mp c_1
                exact ⟨by simp [wdF, rdF, q, show ¬ (6 ≤ 0) from c_2, show (byN (mi 3) n a) = 110 from c_3, show ¬ (6 ≤ 1) from c_4, show (byN (mi 3) n (a + 1)) = 101 from c_5, show ¬ (6 ≤ 2) from c_6, show (byN (mi 3) n (a + 2)) = 114 from c_7, show ¬ (6 ≤ 3) from c_8, show (byN (mi 3) n (a + 3)) = 118 from c_9, show ¬ (6 ≤ 4) from c_10, show (byN (mi 3) n (a + 4)) = 101 from c_11, show ¬ (6 ≤ 5) from c_12, show (byN (mi 3) n (a + 5)) = 115 from c_13, show 6 ≤ 6 from c_14], rfl⟩
              · have c_13 : ¬ ((byN (mi 3) n (a + 5)) = 115) := of_decide_eq_false c_13
                refine wp_steps 1 (t' := (27, [some (.ref 2), some (.ref (aSTR + 9)), some (.int 5)], [.int 0], (HD, mi, ml, mr))) rfl ?_
                refine wp_ret rfl rfl ⟨⟨Nat.le_refl _, Nat.le_refl _⟩, ?_⟩
                have q : e - a = 6 := (nI_eq (by omega) (by decide)).mp c_1
                exact ⟨by simp [wdF, rdF, q, show ¬ (6 ≤ 0) from c_2, show (byN (mi 3) n a) = 110 from c_3, show ¬ (6 ≤ 1) from c_4, show (byN (mi 3) n (a + 1)) = 101 from c_5, show ¬ (6 ≤ 2) from c_6, show (byN (mi 3) n (a + 2)) = 114 from c_7, show ¬ (6 ≤ 3) from c_8, show (byN (mi 3) n (a + 3)) = 118 from c_9, show ¬ (6 ≤ 4) from c_10, show (byN (mi 3) n (a + 4)) = 101 from c_11, show ¬ (6 ≤ 5) from c_12, show ¬ ((byN (mi 3) n (a + 5)) = 115) from c_13], rfl⟩
            · have c_11 : ¬ ((byN (mi 3) n (a + 4)) = 101) := of_decide_eq_false c_11
              refine wp_steps 1 (t' := (27, [some (.ref 2), some (.ref (aSTR + 9)), some (.int 4)], [.int 0], (HD, mi, ml, mr))) rfl ?_
              refine wp_ret rfl rfl ⟨⟨Nat.le_refl _, Nat.le_refl _⟩, ?_⟩
              have q : e - a = 6 := (nI_eq (by omega) (by decide)).mp c_1
              exact ⟨by simp [wdF, rdF, q, show ¬ (6 ≤ 0) from c_2, show (byN (mi 3) n a) = 110 from c_3, show ¬ (6 ≤ 1) from c_4, show (byN (mi 3) n (a + 1)) = 101 from c_5, show ¬ (6 ≤ 2) from c_6, show (byN (mi 3) n (a + 2)) = 114 from c_7, show ¬ (6 ≤ 3) from c_8, show (byN (mi 3) n (a + 3)) = 118 from c_9, show ¬ (6 ≤ 4) from c_10, show ¬ ((byN (mi 3) n (a + 4)) = 101) from c_11], rfl⟩
          · have c_9 : ¬ ((byN (mi 3) n (a + 3)) = 118) := of_decide_eq_false c_9
            refine wp_steps 1 (t' := (27, [some (.ref 2), some (.ref (aSTR + 9)), some (.int 3)], [.int 0], (HD, mi, ml, mr))) rfl ?_
            refine wp_ret rfl rfl ⟨⟨Nat.le_refl _, Nat.le_refl _⟩, ?_⟩
            have q : e - a = 6 := (nI_eq (by omega) (by decide)).mp c_1
            exact ⟨by simp [wdF, rdF, q, show ¬ (6 ≤ 0) from c_2, show (byN (mi 3) n a) = 110 from c_3, show ¬ (6 ≤ 1) from c_4, show (byN (mi 3) n (a + 1)) = 101 from c_5, show ¬ (6 ≤ 2) from c_6, show (byN (mi 3) n (a + 2)) = 114 from c_7, show ¬ (6 ≤ 3) from c_8, show ¬ ((byN (mi 3) n (a + 3)) = 118) from c_9], rfl⟩
        · have c_7 : ¬ ((byN (mi 3) n (a + 2)) = 114) := of_decide_eq_false c_7
          refine wp_steps 1 (t' := (27, [some (.ref 2), some (.ref (aSTR + 9)), some (.int 2)], [.int 0], (HD, mi, ml, mr))) rfl ?_
          refine wp_ret rfl rfl ⟨⟨Nat.le_refl _, Nat.le_refl _⟩, ?_⟩
          have q : e - a = 6 := (nI_eq (by omega) (by decide)).mp c_1
          exact ⟨by simp [wdF, rdF, q, show ¬ (6 ≤ 0) from c_2, show (byN (mi 3) n a) = 110 from c_3, show ¬ (6 ≤ 1) from c_4, show (byN (mi 3) n (a + 1)) = 101 from c_5, show ¬ (6 ≤ 2) from c_6, show ¬ ((byN (mi 3) n (a + 2)) = 114) from c_7], rfl⟩
      · have c_5 : ¬ ((byN (mi 3) n (a + 1)) = 101) := of_decide_eq_false c_5
        refine wp_steps 1 (t' := (27, [some (.ref 2), some (.ref (aSTR + 9)), some (.int 1)], [.int 0], (HD, mi, ml, mr))) rfl ?_
        refine wp_ret rfl rfl ⟨⟨Nat.le_refl _, Nat.le_refl _⟩, ?_⟩
        have q : e - a = 6 := (nI_eq (by omega) (by decide)).mp c_1
        exact ⟨by simp [wdF, rdF, q, show ¬ (6 ≤ 0) from c_2, show (byN (mi 3) n a) = 110 from c_3, show ¬ (6 ≤ 1) from c_4, show ¬ ((byN (mi 3) n (a + 1)) = 101) from c_5], rfl⟩
    · have c_3 : ¬ ((byN (mi 3) n (a + 0)) = 110) := of_decide_eq_false c_3
      refine wp_steps 1 (t' := (27, [some (.ref 2), some (.ref (aSTR + 9)), some (.int 0)], [.int 0], (HD, mi, ml, mr))) rfl ?_
      refine wp_ret rfl rfl ⟨⟨Nat.le_refl _, Nat.le_refl _⟩, ?_⟩
      have q : e - a = 6 := (nI_eq (by omega) (by decide)).mp c_1
      exact ⟨by simp [wdF, rdF, q, show ¬ (6 ≤ 0) from c_2, show ¬ ((byN (mi 3) n a) = 110) from c_3], rfl⟩
  · have c_1 : ¬ ((nI (e - a)) = 6) := of_decide_eq_false c_1
    refine wp_steps 1 (t' := (9, [some (.ref 2), some (.ref (aSTR + 9)), none], [.int 0], (HD, mi, ml, mr))) rfl ?_
    refine wp_ret rfl rfl ⟨⟨Nat.le_refl _, Nat.le_refl _⟩, ?_⟩
    have q : ¬ e - a = 6 := fun q => c_1 (by rw [q]; rfl)
    exact ⟨by simp [wdF, q], rfl⟩
set_option maxRecDepth 20000 in
set_option maxHeartbeats 1000000 in
theorem c_reads10 {X : aXt × Value} {mi : Nat → Nat → Int32} {ml : Nat → Nat → Int64} {mr : Nat → Nat → Option Nat} (hM : MRok mr) {n : Nat} (hn : n ≤ 160) (hs : mi 2 0 = nI n) (hX : outOK X) {a e : Nat} (hae : a ≤ e) (hl : e ≤ 170) (he4 : mi 2 4 = nI a) (he5 : mi 2 5 = nI e) : aCW X 5 29 [.ref 2, .ref (aSTR + 10)] (HD, mi, ml, mr) (rdI mi ml mr (wdF (byN (mi 3) n) a e [111, 114])) := by
  refine cw_of (cd := cd_X1_reads) (nL := 3) rfl rfl ?_
  show aWP _ _ (0, [some (.ref 2), some (.ref (aSTR + 10)), none], [], (HD, mi, ml, mr)) _
  refine wp_steps 1 (t' := (1, [some (.ref 2), some (.ref (aSTR + 10)), none], [.ref 2], (HD, mi, ml, mr))) rfl ?_
  refine wp_geti rfl ⟨by decide, rfl⟩ (Or.inl rfl) ?_
  rw [he5]
  refine wp_steps 1 (t' := (3, [some (.ref 2), some (.ref (aSTR + 10)), none], [.ref 2, .int (nI e)], (HD, mi, ml, mr))) rfl ?_
  refine wp_geti rfl ⟨by decide, rfl⟩ (Or.inl rfl) ?_
  rw [he4]
  refine wp_steps 1 (t' := (5, [some (.ref 2), some (.ref (aSTR + 10)), none], [.int ((nI e) - (nI a))], (HD, mi, ml, mr))) rfl ?_
  rw [nI_sb hae]
  refine wp_steps 1 (t' := (6, [some (.ref 2), some (.ref (aSTR + 10)), none], [.ref (aSTR + 10), .int (nI (e - a))], (HD, mi, ml, mr))) rfl ?_
  refine wp_calt (as := []) rfl rfl rfl (Nat.le_of_ble_eq_true rfl) (by decide) (c_len10) (by decide) ?_
  rintro _ _ ⟨rfl, rfl⟩
  show aWP _ _ (7, [some (.ref 2), some (.ref (aSTR + 10)), none], [.int 2, .int (nI (e - a))], (HD, mi, ml, mr)) _
  refine wp_bC rfl (fun c_1 => ?_) (fun c_1 => ?_)
  · have c_1 : (nI (e - a)) = 2 := of_decide_eq_true c_1
    refine wp_steps 4 (t' := (14, [some (.ref 2), some (.ref (aSTR + 10)), some (.int 0)], [.ref (aSTR + 10), .int 0], (HD, mi, ml, mr))) rfl ?_
    refine wp_calt (as := []) rfl rfl rfl (Nat.le_of_ble_eq_true rfl) (by decide) (c_len10) (by decide) ?_
    rintro _ _ ⟨rfl, rfl⟩
    show aWP _ _ (15, [some (.ref 2), some (.ref (aSTR + 10)), some (.int 0)], [.int 2, .int 0], (HD, mi, ml, mr)) _
    refine wp_bC rfl (fun c_2 => ?_) (fun c_2 => ?_)
    · have c_2 : 2 ≤ 0 := of_decide_eq_true c_2
      exact absurd c_2 (by decide)
    have c_2 : ¬ (2 ≤ 0) := of_decide_eq_false c_2
    refine wp_steps 2 (t' := (18, [some (.ref 2), some (.ref (aSTR + 10)), some (.int 0)], [.ref 2, .ref 2], (HD, mi, ml, mr))) rfl ?_
    refine wp_geti rfl ⟨by decide, rfl⟩ (Or.inl rfl) ?_
    rw [he4]
    refine wp_steps 2 (t' := (21, [some (.ref 2), some (.ref (aSTR + 10)), some (.int 0)], [.int ((nI a) + 0), .ref 2], (HD, mi, ml, mr))) rfl ?_
    rw [show nI a + 0 = nI (a + 0) from nI_add a 0]
    refine wp_calv (as := [.int (nI (a + 0))]) rfl rfl rfl (Nat.le_of_ble_eq_true rfl) ⟨by decide, rfl⟩ (c_byteAt hM hn hs (p := a + 0) (by omega)) (by decide) ?_
    rintro _ _ ⟨rfl, rfl⟩
    show aWP _ _ (22, [some (.ref 2), some (.ref (aSTR + 10)), some (.int 0)], [.int (byN (mi 3) n (a + 0))], (HD, mi, ml, mr)) _
    refine wp_steps 2 (t' := (24, [some (.ref 2), some (.ref (aSTR + 10)), some (.int 0)], [.int 0, .ref (aSTR + 10), .int (byN (mi 3) n (a + 0))], (HD, mi, ml, mr))) rfl ?_
    refine wp_calt (as := [.int 0]) rfl rfl rfl (Nat.le_of_ble_eq_true rfl) (by decide) (c_chr10_0 hX) (by decide) ?_
    rintro _ _ ⟨rfl, rfl⟩
    show aWP _ _ (25, [some (.ref 2), some (.ref (aSTR + 10)), some (.int 0)], [.int 111, .int (byN (mi 3) n (a + 0))], (HD, mi, ml, mr)) _
    refine wp_bC rfl (fun c_3 => ?_) (fun c_3 => ?_)
    · have c_3 : (byN (mi 3) n (a + 0)) = 111 := of_decide_eq_true c_3
      refine wp_steps 4 (t' := (14, [some (.ref 2), some (.ref (aSTR + 10)), some (.int 1)], [.ref (aSTR + 10), .int 1], (HD, mi, ml, mr))) rfl ?_
      refine wp_calt (as := []) rfl rfl rfl (Nat.le_of_ble_eq_true rfl) (by decide) (c_len10) (by decide) ?_
      rintro _ _ ⟨rfl, rfl⟩
      show aWP _ _ (15, [some (.ref 2), some (.ref (aSTR + 10)), some (.int 1)], [.int 2, .int 1], (HD, mi, ml, mr)) _
      refine wp_bC rfl (fun c_4 => ?_) (fun c_4 => ?_)
      · have c_4 : 2 ≤ 1 := of_decide_eq_true c_4
        exact absurd c_4 (by decide)
      have c_4 : ¬ (2 ≤ 1) := of_decide_eq_false c_4
      refine wp_steps 2 (t' := (18, [some (.ref 2), some (.ref (aSTR + 10)), some (.int 1)], [.ref 2, .ref 2], (HD, mi, ml, mr))) rfl ?_
      refine wp_geti rfl ⟨by decide, rfl⟩ (Or.inl rfl) ?_
      rw [he4]
      refine wp_steps 2 (t' := (21, [some (.ref 2), some (.ref (aSTR + 10)), some (.int 1)], [.int ((nI a) + 1), .ref 2], (HD, mi, ml, mr))) rfl ?_
      rw [show nI a + 1 = nI (a + 1) from nI_add a 1]
      refine wp_calv (as := [.int (nI (a + 1))]) rfl rfl rfl (Nat.le_of_ble_eq_true rfl) ⟨by decide, rfl⟩ (c_byteAt hM hn hs (p := a + 1) (by omega)) (by decide) ?_
      rintro _ _ ⟨rfl, rfl⟩
      show aWP _ _ (22, [some (.ref 2), some (.ref (aSTR + 10)), some (.int 1)], [.int (byN (mi 3) n (a + 1))], (HD, mi, ml, mr)) _
      refine wp_steps 2 (t' := (24, [some (.ref 2), some (.ref (aSTR + 10)), some (.int 1)], [.int 1, .ref (aSTR + 10), .int (byN (mi 3) n (a + 1))], (HD, mi, ml, mr))) rfl ?_
      refine wp_calt (as := [.int 1]) rfl rfl rfl (Nat.le_of_ble_eq_true rfl) (by decide) (c_chr10_1 hX) (by decide) ?_
      rintro _ _ ⟨rfl, rfl⟩
      show aWP _ _ (25, [some (.ref 2), some (.ref (aSTR + 10)), some (.int 1)], [.int 114, .int (byN (mi 3) n (a + 1))], (HD, mi, ml, mr)) _
      refine wp_bC rfl (fun c_5 => ?_) (fun c_5 => ?_)
      · have c_5 : (byN (mi 3) n (a + 1)) = 114 := of_decide_eq_true c_5
        refine wp_steps 4 (t' := (14, [some (.ref 2), some (.ref (aSTR + 10)), some (.int 2)], [.ref (aSTR + 10), .int 2], (HD, mi, ml, mr))) rfl ?_
        refine wp_calt (as := []) rfl rfl rfl (Nat.le_of_ble_eq_true rfl) (by decide) (c_len10) (by decide) ?_
        rintro _ _ ⟨rfl, rfl⟩
        show aWP _ _ (15, [some (.ref 2), some (.ref (aSTR + 10)), some (.int 2)], [.int 2, .int 2], (HD, mi, ml, mr)) _
        refine wp_bC rfl (fun c_6 => ?_) (fun c_6 => ?_)
        rotate_left
        · have c_6 : ¬ (2 ≤ 2) := of_decide_eq_false c_6
          exact absurd c_6 (by decide)
        have c_6 : 2 ≤ 2 := of_decide_eq_true c_6
        refine wp_steps 1 (t' := (31, [some (.ref 2), some (.ref (aSTR + 10)), some (.int 2)], [.int 1], (HD, mi, ml, mr))) rfl ?_
        refine wp_ret rfl rfl ⟨⟨Nat.le_refl _, Nat.le_refl _⟩, ?_⟩
        have q : e - a = 2 := (nI_eq (by omega) (by decide)).mp c_1
        exact ⟨by simp [wdF, rdF, q, show ¬ (2 ≤ 0) from c_2, show (byN (mi 3) n a) = 111 from c_3, show ¬ (2 ≤ 1) from c_4, show (byN (mi 3) n (a + 1)) = 114 from c_5, show 2 ≤ 2 from c_6], rfl⟩
      · have c_5 : ¬ ((byN (mi 3) n (a + 1)) = 114) := of_decide_eq_false c_5
        refine wp_steps 1 (t' := (27, [some (.ref 2), some (.ref (aSTR + 10)), some (.int 1)], [.int 0], (HD, mi, ml, mr))) rfl ?_
        refine wp_ret rfl rfl ⟨⟨Nat.le_refl _, Nat.le_refl _⟩, ?_⟩
        have q : e - a = 2 := (nI_eq (by omega) (by decide)).mp c_1
        exact ⟨by simp [wdF, rdF, q, show ¬ (2 ≤ 0) from c_2, show (byN (mi 3) n a) = 111 from c_3, show ¬ (2 ≤ 1) from c_4, show ¬ ((byN (mi 3) n (a + 1)) = 114) from c_5], rfl⟩
    · have c_3 : ¬ ((byN (mi 3) n (a + 0)) = 111) := of_decide_eq_false c_3
      refine wp_steps 1 (t' := (27, [some (.ref 2), some (.ref (aSTR + 10)), some (.int 0)], [.int 0], (HD, mi, ml, mr))) rfl ?_
      refine wp_ret rfl rfl ⟨⟨Nat.le_refl _, Nat.le_refl _⟩, ?_⟩
      have q : e - a = 2 := (nI_eq (by omega) (by decide)).mp c_1
      exact ⟨by simp [wdF, rdF, q, show ¬ (2 ≤ 0) from c_2, show ¬ ((byN (mi 3) n a) = 111) from c_3], rfl⟩
  · have c_1 : ¬ ((nI (e - a)) = 2) := of_decide_eq_false c_1
    refine wp_steps 1 (t' := (9, [some (.ref 2), some (.ref (aSTR + 10)), none], [.int 0], (HD, mi, ml, mr))) rfl ?_
    refine wp_ret rfl rfl ⟨⟨Nat.le_refl _, Nat.le_refl _⟩, ?_⟩
    have q : ¬ e - a = 2 := fun q => c_1 (by rw [q]; rfl)
    exact ⟨by simp [wdF, q], rfl⟩
set_option maxRecDepth 20000 in
set_option maxHeartbeats 1000000 in
theorem c_reads11 {X : aXt × Value} {mi : Nat → Nat → Int32} {ml : Nat → Nat → Int64} {mr : Nat → Nat → Option Nat} (hM : MRok mr) {n : Nat} (hn : n ≤ 160) (hs : mi 2 0 = nI n) (hX : outOK X) {a e : Nat} (hae : a ≤ e) (hl : e ≤ 170) (he4 : mi 2 4 = nI a) (he5 : mi 2 5 = nI e) : aCW X 5 29 [.ref 2, .ref (aSTR + 11)] (HD, mi, ml, mr) (rdI mi ml mr (wdF (byN (mi 3) n) a e [97, 110, 100])) := by
  refine cw_of (cd := cd_X1_reads) (nL := 3) rfl rfl ?_
  show aWP _ _ (0, [some (.ref 2), some (.ref (aSTR + 11)), none], [], (HD, mi, ml, mr)) _
  refine wp_steps 1 (t' := (1, [some (.ref 2), some (.ref (aSTR + 11)), none], [.ref 2], (HD, mi, ml, mr))) rfl ?_
  refine wp_geti rfl ⟨by decide, rfl⟩ (Or.inl rfl) ?_
  rw [he5]
  refine wp_steps 1 (t' := (3, [some (.ref 2), some (.ref (aSTR + 11)), none], [.ref 2, .int (nI e)], (HD, mi, ml, mr))) rfl ?_
  refine wp_geti rfl ⟨by decide, rfl⟩ (Or.inl rfl) ?_
  rw [he4]
  refine wp_steps 1 (t' := (5, [some (.ref 2), some (.ref (aSTR + 11)), none], [.int ((nI e) - (nI a))], (HD, mi, ml, mr))) rfl ?_
  rw [nI_sb hae]
  refine wp_steps 1 (t' := (6, [some (.ref 2), some (.ref (aSTR + 11)), none], [.ref (aSTR + 11), .int (nI (e - a))], (HD, mi, ml, mr))) rfl ?_
  refine wp_calt (as := []) rfl rfl rfl (Nat.le_of_ble_eq_true rfl) (by decide) (c_len11) (by decide) ?_
  rintro _ _ ⟨rfl, rfl⟩
  show aWP _ _ (7, [some (.ref 2), some (.ref (aSTR + 11)), none], [.int 3, .int (nI (e - a))], (HD, mi, ml, mr)) _
  refine wp_bC rfl (fun c_1 => ?_) (fun c_1 => ?_)
  · have c_1 : (nI (e - a)) = 3 := of_decide_eq_true c_1
    refine wp_steps 4 (t' := (14, [some (.ref 2), some (.ref (aSTR + 11)), some (.int 0)], [.ref (aSTR + 11), .int 0], (HD, mi, ml, mr))) rfl ?_
    refine wp_calt (as := []) rfl rfl rfl (Nat.le_of_ble_eq_true rfl) (by decide) (c_len11) (by decide) ?_
    rintro _ _ ⟨rfl, rfl⟩
    show aWP _ _ (15, [some (.ref 2), some (.ref (aSTR + 11)), some (.int 0)], [.int 3, .int 0], (HD, mi, ml, mr)) _
    refine wp_bC rfl (fun c_2 => ?_) (fun c_2 => ?_)
    · have c_2 : 3 ≤ 0 := of_decide_eq_true c_2
      exact absurd c_2 (by decide)
    have c_2 : ¬ (3 ≤ 0) := of_decide_eq_false c_2
    refine wp_steps 2 (t' := (18, [some (.ref 2), some (.ref (aSTR + 11)), some (.int 0)], [.ref 2, .ref 2], (HD, mi, ml, mr))) rfl ?_
    refine wp_geti rfl ⟨by decide, rfl⟩ (Or.inl rfl) ?_
    rw [he4]
    refine wp_steps 2 (t' := (21, [some (.ref 2), some (.ref (aSTR + 11)), some (.int 0)], [.int ((nI a) + 0), .ref 2], (HD, mi, ml, mr))) rfl ?_
    rw [show nI a + 0 = nI (a + 0) from nI_add a 0]
    refine wp_calv (as := [.int (nI (a + 0))]) rfl rfl rfl (Nat.le_of_ble_eq_true rfl) ⟨by decide, rfl⟩ (c_byteAt hM hn hs (p := a + 0) (by omega)) (by decide) ?_
    rintro _ _ ⟨rfl, rfl⟩
    show aWP _ _ (22, [some (.ref 2), some (.ref (aSTR + 11)), some (.int 0)], [.int (byN (mi 3) n (a + 0))], (HD, mi, ml, mr)) _
    refine wp_steps 2 (t' := (24, [some (.ref 2), some (.ref (aSTR + 11)), some (.int 0)], [.int 0, .ref (aSTR + 11), .int (byN (mi 3) n (a + 0))], (HD, mi, ml, mr))) rfl ?_
    refine wp_calt (as := [.int 0]) rfl rfl rfl (Nat.le_of_ble_eq_true rfl) (by decide) (c_chr11_0 hX) (by decide) ?_
    rintro _ _ ⟨rfl, rfl⟩
    show aWP _ _ (25, [some (.ref 2), some (.ref (aSTR + 11)), some (.int 0)], [.int 97, .int (byN (mi 3) n (a + 0))], (HD, mi, ml, mr)) _
    refine wp_bC rfl (fun c_3 => ?_) (fun c_3 => ?_)
    · have c_3 : (byN (mi 3) n (a + 0)) = 97 := of_decide_eq_true c_3
      refine wp_steps 4 (t' := (14, [some (.ref 2), some (.ref (aSTR + 11)), some (.int 1)], [.ref (aSTR + 11), .int 1], (HD, mi, ml, mr))) rfl ?_
      refine wp_calt (as := []) rfl rfl rfl (Nat.le_of_ble_eq_true rfl) (by decide) (c_len11) (by decide) ?_
      rintro _ _ ⟨rfl, rfl⟩
      show aWP _ _ (15, [some (.ref 2), some (.ref (aSTR + 11)), some (.int 1)], [.int 3, .int 1], (HD, mi, ml, mr)) _
      refine wp_bC rfl (fun c_4 => ?_) (fun c_4 => ?_)
      · have c_4 : 3 ≤ 1 := of_decide_eq_true c_4
        exact absurd c_4 (by decide)
      have c_4 : ¬ (3 ≤ 1) := of_decide_eq_false c_4
      refine wp_steps 2 (t' := (18, [some (.ref 2), some (.ref (aSTR + 11)), some (.int 1)], [.ref 2, .ref 2], (HD, mi, ml, mr))) rfl ?_
      refine wp_geti rfl ⟨by decide, rfl⟩ (Or.inl rfl) ?_
      rw [he4]
      refine wp_steps 2 (t' := (21, [some (.ref 2), some (.ref (aSTR + 11)), some (.int 1)], [.int ((nI a) + 1), .ref 2], (HD, mi, ml, mr))) rfl ?_
      rw [show nI a + 1 = nI (a + 1) from nI_add a 1]
      refine wp_calv (as := [.int (nI (a + 1))]) rfl rfl rfl (Nat.le_of_ble_eq_true rfl) ⟨by decide, rfl⟩ (c_byteAt hM hn hs (p := a + 1) (by omega)) (by decide) ?_
      rintro _ _ ⟨rfl, rfl⟩
      show aWP _ _ (22, [some (.ref 2), some (.ref (aSTR + 11)), some (.int 1)], [.int (byN (mi 3) n (a + 1))], (HD, mi, ml, mr)) _
      refine wp_steps 2 (t' := (24, [some (.ref 2), some (.ref (aSTR + 11)), some (.int 1)], [.int 1, .ref (aSTR + 11), .int (byN (mi 3) n (a + 1))], (HD, mi, ml, mr))) rfl ?_
      refine wp_calt (as := [.int 1]) rfl rfl rfl (Nat.le_of_ble_eq_true rfl) (by decide) (c_chr11_1 hX) (by decide) ?_
      rintro _ _ ⟨rfl, rfl⟩
      show aWP _ _ (25, [some (.ref 2), some (.ref (aSTR + 11)), some (.int 1)], [.int 110, .int (byN (mi 3) n (a + 1))], (HD, mi, ml, mr)) _
      refine wp_bC rfl (fun c_5 => ?_) (fun c_5 => ?_)
      · have c_5 : (byN (mi 3) n (a + 1)) = 110 := of_decide_eq_true c_5
        refine wp_steps 4 (t' := (14, [some (.ref 2), some (.ref (aSTR + 11)), some (.int 2)], [.ref (aSTR + 11), .int 2], (HD, mi, ml, mr))) rfl ?_
        refine wp_calt (as := []) rfl rfl rfl (Nat.le_of_ble_eq_true rfl) (by decide) (c_len11) (by decide) ?_
        rintro _ _ ⟨rfl, rfl⟩
        show aWP _ _ (15, [some (.ref 2), some (.ref (aSTR + 11)), some (.int 2)], [.int 3, .int 2], (HD, mi, ml, mr)) _
        refine wp_bC rfl (fun c_6 => ?_) (fun c_6 => ?_)
        · have c_6 : 3 ≤ 2 := of_decide_eq_true c_6
          exact absurd c_6 (by decide)
        have c_6 : ¬ (3 ≤ 2) := of_decide_eq_false c_6
        refine wp_steps 2 (t' := (18, [some (.ref 2), some (.ref (aSTR + 11)), some (.int 2)], [.ref 2, .ref 2], (HD, mi, ml, mr))) rfl ?_
        refine wp_geti rfl ⟨by decide, rfl⟩ (Or.inl rfl) ?_
        rw [he4]
        refine wp_steps 2 (t' := (21, [some (.ref 2), some (.ref (aSTR + 11)), some (.int 2)], [.int ((nI a) + 2), .ref 2], (HD, mi, ml, mr))) rfl ?_
        rw [show nI a + 2 = nI (a + 2) from nI_add a 2]
        refine wp_calv (as := [.int (nI (a + 2))]) rfl rfl rfl (Nat.le_of_ble_eq_true rfl) ⟨by decide, rfl⟩ (c_byteAt hM hn hs (p := a + 2) (by omega)) (by decide) ?_
        rintro _ _ ⟨rfl, rfl⟩
        show aWP _ _ (22, [some (.ref 2), some (.ref (aSTR + 11)), some (.int 2)], [.int (byN (mi 3) n (a + 2))], (HD, mi, ml, mr)) _
        refine wp_steps 2 (t' := (24, [some (.ref 2), some (.ref (aSTR + 11)), some (.int 2)], [.int 2, .ref (aSTR + 11), .int (byN (mi 3) n (a + 2))], (HD, mi, ml, mr))) rfl ?_
        refine wp_calt (as := [.int 2]) rfl rfl rfl (Nat.le_of_ble_eq_true rfl) (by decide) (c_chr11_2 hX) (by decide) ?_
        rintro _ _ ⟨rfl, rfl⟩
        show aWP _ _ (25, [some (.ref 2), some (.ref (aSTR + 11)), some (.int 2)], [.int 100, .int (byN (mi 3) n (a + 2))], (HD, mi, ml, mr)) _
        refine wp_bC rfl (fun c_7 => ?_) (fun c_7 => ?_)
        · have c_7 : (byN (mi 3) n (a + 2)) = 100 := of_decide_eq_true c_7
          refine wp_steps 4 (t' := (14, [some (.ref 2), some (.ref (aSTR + 11)), some (.int 3)], [.ref (aSTR + 11), .int 3], (HD, mi, ml, mr))) rfl ?_
          refine wp_calt (as := []) rfl rfl rfl (Nat.le_of_ble_eq_true rfl) (by decide) (c_len11) (by decide) ?_
          rintro _ _ ⟨rfl, rfl⟩
          show aWP _ _ (15, [some (.ref 2), some (.ref (aSTR + 11)), some (.int 3)], [.int 3, .int 3], (HD, mi, ml, mr)) _
          refine wp_bC rfl (fun c_8 => ?_) (fun c_8 => ?_)
          rotate_left
          · have c_8 : ¬ (3 ≤ 3) := of_decide_eq_false c_8
            exact absurd c_8 (by decide)
          have c_8 : 3 ≤ 3 := of_decide_eq_true c_8
          refine wp_steps 1 (t' := (31, [some (.ref 2), some (.ref (aSTR + 11)), some (.int 3)], [.int 1], (HD, mi, ml, mr))) rfl ?_
          refine wp_ret rfl rfl ⟨⟨Nat.le_refl _, Nat.le_refl _⟩, ?_⟩
          have q : e - a = 3 := (nI_eq (by omega) (by decide)).mp c_1
          exact ⟨by simp [wdF, rdF, q, show ¬ (3 ≤ 0) from c_2, show (byN (mi 3) n a) = 97 from c_3, show ¬ (3 ≤ 1) from c_4, show (byN (mi 3) n (a + 1)) = 110 from c_5, show ¬ (3 ≤ 2) from c_6, show (byN (mi 3) n (a + 2)) = 100 from c_7, show 3 ≤ 3 from c_8], rfl⟩
        · have c_7 : ¬ ((byN (mi 3) n (a + 2)) = 100) := of_decide_eq_false c_7
          refine wp_steps 1 (t' := (27, [some (.ref 2), some (.ref (aSTR + 11)), some (.int 2)], [.int 0], (HD, mi, ml, mr))) rfl ?_
          refine wp_ret rfl rfl ⟨⟨Nat.le_refl _, Nat.le_refl _⟩, ?_⟩
          have q : e - a = 3 := (nI_eq (by omega) (by decide)).mp c_1
          exact ⟨by simp [wdF, rdF, q, show ¬ (3 ≤ 0) from c_2, show (byN (mi 3) n a) = 97 from c_3, show ¬ (3 ≤ 1) from c_4, show (byN (mi 3) n (a + 1)) = 110 from c_5, show ¬ (3 ≤ 2) from c_6, show ¬ ((byN (mi 3) n (a + 2)) = 100) from c_7], rfl⟩
      · have c_5 : ¬ ((byN (mi 3) n (a + 1)) = 110) := of_decide_eq_false c_5
        refine wp_steps 1 (t' := (27, [some (.ref 2), some (.ref (aSTR + 11)), some (.int 1)], [.int 0], (HD, mi, ml, mr))) rfl ?_
        refine wp_ret rfl rfl ⟨⟨Nat.le_refl _, Nat.le_refl _⟩, ?_⟩
        have q : e - a = 3 := (nI_eq (by omega) (by decide)).mp c_1
        exact ⟨by simp [wdF, rdF, q, show ¬ (3 ≤ 0) from c_2, show (byN (mi 3) n a) = 97 from c_3, show ¬ (3 ≤ 1) from c_4, show ¬ ((byN (mi 3) n (a + 1)) = 110) from c_5], rfl⟩
    · have c_3 : ¬ ((byN (mi 3) n (a + 0)) = 97) := of_decide_eq_false c_3
      refine wp_steps 1 (t' := (27, [some (.ref 2), some (.ref (aSTR + 11)), some (.int 0)], [.int 0], (HD, mi, ml, mr))) rfl ?_
      refine wp_ret rfl rfl ⟨⟨Nat.le_refl _, Nat.le_refl _⟩, ?_⟩
      have q : e - a = 3 := (nI_eq (by omega) (by decide)).mp c_1
      exact ⟨by simp [wdF, rdF, q, show ¬ (3 ≤ 0) from c_2, show ¬ ((byN (mi 3) n a) = 97) from c_3], rfl⟩
  · have c_1 : ¬ ((nI (e - a)) = 3) := of_decide_eq_false c_1
    refine wp_steps 1 (t' := (9, [some (.ref 2), some (.ref (aSTR + 11)), none], [.int 0], (HD, mi, ml, mr))) rfl ?_
    refine wp_ret rfl rfl ⟨⟨Nat.le_refl _, Nat.le_refl _⟩, ?_⟩
    have q : ¬ e - a = 3 := fun q => c_1 (by rw [q]; rfl)
    exact ⟨by simp [wdF, q], rfl⟩
set_option maxRecDepth 20000 in
set_option maxHeartbeats 1000000 in
theorem c_reads12 {X : aXt × Value} {mi : Nat → Nat → Int32} {ml : Nat → Nat → Int64} {mr : Nat → Nat → Option Nat} (hM : MRok mr) {n : Nat} (hn : n ≤ 160) (hs : mi 2 0 = nI n) (hX : outOK X) {a e : Nat} (hae : a ≤ e) (hl : e ≤ 170) (he4 : mi 2 4 = nI a) (he5 : mi 2 5 = nI e) : aCW X 5 29 [.ref 2, .ref (aSTR + 12)] (HD, mi, ml, mr) (rdI mi ml mr (wdF (byN (mi 3) n) a e [110, 111, 116])) := by
  refine cw_of (cd := cd_X1_reads) (nL := 3) rfl rfl ?_
  show aWP _ _ (0, [some (.ref 2), some (.ref (aSTR + 12)), none], [], (HD, mi, ml, mr)) _
  refine wp_steps 1 (t' := (1, [some (.ref 2), some (.ref (aSTR + 12)), none], [.ref 2], (HD, mi, ml, mr))) rfl ?_
  refine wp_geti rfl ⟨by decide, rfl⟩ (Or.inl rfl) ?_
  rw [he5]
  refine wp_steps 1 (t' := (3, [some (.ref 2), some (.ref (aSTR + 12)), none], [.ref 2, .int (nI e)], (HD, mi, ml, mr))) rfl ?_
  refine wp_geti rfl ⟨by decide, rfl⟩ (Or.inl rfl) ?_
  rw [he4]
  refine wp_steps 1 (t' := (5, [some (.ref 2), some (.ref (aSTR + 12)), none], [.int ((nI e) - (nI a))], (HD, mi, ml, mr))) rfl ?_
  rw [nI_sb hae]
  refine wp_steps 1 (t' := (6, [some (.ref 2), some (.ref (aSTR + 12)), none], [.ref (aSTR + 12), .int (nI (e - a))], (HD, mi, ml, mr))) rfl ?_
  refine wp_calt (as := []) rfl rfl rfl (Nat.le_of_ble_eq_true rfl) (by decide) (c_len12) (by decide) ?_
  rintro _ _ ⟨rfl, rfl⟩
  show aWP _ _ (7, [some (.ref 2), some (.ref (aSTR + 12)), none], [.int 3, .int (nI (e - a))], (HD, mi, ml, mr)) _
  refine wp_bC rfl (fun c_1 => ?_) (fun c_1 => ?_)
  · have c_1 : (nI (e - a)) = 3 := of_decide_eq_true c_1
    refine wp_steps 4 (t' := (14, [some (.ref 2), some (.ref (aSTR + 12)), some (.int 0)], [.ref (aSTR + 12), .int 0], (HD, mi, ml, mr))) rfl ?_
    refine wp_calt (as := []) rfl rfl rfl (Nat.le_of_ble_eq_true rfl) (by decide) (c_len12) (by decide) ?_
    rintro _ _ ⟨rfl, rfl⟩
    show aWP _ _ (15, [some (.ref 2), some (.ref (aSTR + 12)), some (.int 0)], [.int 3, .int 0], (HD, mi, ml, mr)) _
    refine wp_bC rfl (fun c_2 => ?_) (fun c_2 => ?_)
    · have c_2 : 3 ≤ 0 := of_decide_eq_true c_2
      exact absurd c_2 (by decide)
    have c_2 : ¬ (3 ≤ 0) := of_decide_eq_false c_2
    refine wp_steps 2 (t' := (18, [some (.ref 2), some (.ref (aSTR + 12)), some (.int 0)], [.ref 2, .ref 2], (HD, mi, ml, mr))) rfl ?_
    refine wp_geti rfl ⟨by decide, rfl⟩ (Or.inl rfl) ?_
    rw [he4]
    refine wp_steps 2 (t' := (21, [some (.ref 2), some (.ref (aSTR + 12)), some (.int 0)], [.int ((nI a) + 0), .ref 2], (HD, mi, ml, mr))) rfl ?_
    rw [show nI a + 0 = nI (a + 0) from nI_add a 0]
    refine wp_calv (as := [.int (nI (a + 0))]) rfl rfl rfl (Nat.le_of_ble_eq_true rfl) ⟨by decide, rfl⟩ (c_byteAt hM hn hs (p := a + 0) (by omega)) (by decide) ?_
    rintro _ _ ⟨rfl, rfl⟩
    show aWP _ _ (22, [some (.ref 2), some (.ref (aSTR + 12)), some (.int 0)], [.int (byN (mi 3) n (a + 0))], (HD, mi, ml, mr)) _
    refine wp_steps 2 (t' := (24, [some (.ref 2), some (.ref (aSTR + 12)), some (.int 0)], [.int 0, .ref (aSTR + 12), .int (byN (mi 3) n (a + 0))], (HD, mi, ml, mr))) rfl ?_
    refine wp_calt (as := [.int 0]) rfl rfl rfl (Nat.le_of_ble_eq_true rfl) (by decide) (c_chr12_0 hX) (by decide) ?_
    rintro _ _ ⟨rfl, rfl⟩
    show aWP _ _ (25, [some (.ref 2), some (.ref (aSTR + 12)), some (.int 0)], [.int 110, .int (byN (mi 3) n (a + 0))], (HD, mi, ml, mr)) _
    refine wp_bC rfl (fun c_3 => ?_) (fun c_3 => ?_)
    · have c_3 : (byN (mi 3) n (a + 0)) = 110 := of_decide_eq_true c_3
      refine wp_steps 4 (t' := (14, [some (.ref 2), some (.ref (aSTR + 12)), some (.int 1)], [.ref (aSTR + 12), .int 1], (HD, mi, ml, mr))) rfl ?_
      refine wp_calt (as := []) rfl rfl rfl (Nat.le_of_ble_eq_true rfl) (by decide) (c_len12) (by decide) ?_
      rintro _ _ ⟨rfl, rfl⟩
      show aWP _ _ (15, [some (.ref 2), some (.ref (aSTR + 12)), some (.int 1)], [.int 3, .int 1], (HD, mi, ml, mr)) _
      refine wp_bC rfl (fun c_4 => ?_) (fun c_4 => ?_)
      · have c_4 : 3 ≤ 1 := of_decide_eq_true c_4
        exact absurd c_4 (by decide)
      have c_4 : ¬ (3 ≤ 1) := of_decide_eq_false c_4
      refine wp_steps 2 (t' := (18, [some (.ref 2), some (.ref (aSTR + 12)), some (.int 1)], [.ref 2, .ref 2], (HD, mi, ml, mr))) rfl ?_
      refine wp_geti rfl ⟨by decide, rfl⟩ (Or.inl rfl) ?_
      rw [he4]
      refine wp_steps 2 (t' := (21, [some (.ref 2), some (.ref (aSTR + 12)), some (.int 1)], [.int ((nI a) + 1), .ref 2], (HD, mi, ml, mr))) rfl ?_
      rw [show nI a + 1 = nI (a + 1) from nI_add a 1]
      refine wp_calv (as := [.int (nI (a + 1))]) rfl rfl rfl (Nat.le_of_ble_eq_true rfl) ⟨by decide, rfl⟩ (c_byteAt hM hn hs (p := a + 1) (by omega)) (by decide) ?_
      rintro _ _ ⟨rfl, rfl⟩
      show aWP _ _ (22, [some (.ref 2), some (.ref (aSTR + 12)), some (.int 1)], [.int (byN (mi 3) n (a + 1))], (HD, mi, ml, mr)) _
      refine wp_steps 2 (t' := (24, [some (.ref 2), some (.ref (aSTR + 12)), some (.int 1)], [.int 1, .ref (aSTR + 12), .int (byN (mi 3) n (a + 1))], (HD, mi, ml, mr))) rfl ?_
      refine wp_calt (as := [.int 1]) rfl rfl rfl (Nat.le_of_ble_eq_true rfl) (by decide) (c_chr12_1 hX) (by decide) ?_
      rintro _ _ ⟨rfl, rfl⟩
      show aWP _ _ (25, [some (.ref 2), some (.ref (aSTR + 12)), some (.int 1)], [.int 111, .int (byN (mi 3) n (a + 1))], (HD, mi, ml, mr)) _
      refine wp_bC rfl (fun c_5 => ?_) (fun c_5 => ?_)
      · have c_5 : (byN (mi 3) n (a + 1)) = 111 := of_decide_eq_true c_5
        refine wp_steps 4 (t' := (14, [some (.ref 2), some (.ref (aSTR + 12)), some (.int 2)], [.ref (aSTR + 12), .int 2], (HD, mi, ml, mr))) rfl ?_
        refine wp_calt (as := []) rfl rfl rfl (Nat.le_of_ble_eq_true rfl) (by decide) (c_len12) (by decide) ?_
        rintro _ _ ⟨rfl, rfl⟩
        show aWP _ _ (15, [some (.ref 2), some (.ref (aSTR + 12)), some (.int 2)], [.int 3, .int 2], (HD, mi, ml, mr)) _
        refine wp_bC rfl (fun c_6 => ?_) (fun c_6 => ?_)
        · have c_6 : 3 ≤ 2 := of_decide_eq_true c_6
          exact absurd c_6 (by decide)
        have c_6 : ¬ (3 ≤ 2) := of_decide_eq_false c_6
        refine wp_steps 2 (t' := (18, [some (.ref 2), some (.ref (aSTR + 12)), some (.int 2)], [.ref 2, .ref 2], (HD, mi, ml, mr))) rfl ?_
        refine wp_geti rfl ⟨by decide, rfl⟩ (Or.inl rfl) ?_
        rw [he4]
        refine wp_steps 2 (t' := (21, [some (.ref 2), some (.ref (aSTR + 12)), some (.int 2)], [.int ((nI a) + 2), .ref 2], (HD, mi, ml, mr))) rfl ?_
        rw [show nI a + 2 = nI (a + 2) from nI_add a 2]
        refine wp_calv (as := [.int (nI (a + 2))]) rfl rfl rfl (Nat.le_of_ble_eq_true rfl) ⟨by decide, rfl⟩ (c_byteAt hM hn hs (p := a + 2) (by omega)) (by decide) ?_
        rintro _ _ ⟨rfl, rfl⟩
        show aWP _ _ (22, [some (.ref 2), some (.ref (aSTR + 12)), some (.int 2)], [.int (byN (mi 3) n (a + 2))], (HD, mi, ml, mr)) _
        refine wp_steps 2 (t' := (24, [some (.ref 2), some (.ref (aSTR + 12)), some (.int 2)], [.int 2, .ref (aSTR + 12), .int (byN (mi 3) n (a + 2))], (HD, mi, ml, mr))) rfl ?_
        refine wp_calt (as := [.int 2]) rfl rfl rfl (Nat.le_of_ble_eq_true rfl) (by decide) (c_chr12_2 hX) (by decide) ?_
        rintro _ _ ⟨rfl, rfl⟩
        show aWP _ _ (25, [some (.ref 2), some (.ref (aSTR + 12)), some (.int 2)], [.int 116, .int (byN (mi 3) n (a + 2))], (HD, mi, ml, mr)) _
        refine wp_bC rfl (fun c_7 => ?_) (fun c_7 => ?_)
        · have c_7 : (byN (mi 3) n (a + 2)) = 116 := of_decide_eq_true c_7
          refine wp_steps 4 (t' := (14, [some (.ref 2), some (.ref (aSTR + 12)), some (.int 3)], [.ref (aSTR + 12), .int 3], (HD, mi, ml, mr))) rfl ?_
          refine wp_calt (as := []) rfl rfl rfl (Nat.le_of_ble_eq_true rfl) (by decide) (c_len12) (by decide) ?_
          rintro _ _ ⟨rfl, rfl⟩
          show aWP _ _ (15, [some (.ref 2), some (.ref (aSTR + 12)), some (.int 3)], [.int 3, .int 3], (HD, mi, ml, mr)) _
          refine wp_bC rfl (fun c_8 => ?_) (fun c_8 => ?_)
          rotate_left
          · have c_8 : ¬ (3 ≤ 3) := of_decide_eq_false c_8
            exact absurd c_8 (by decide)
          have c_8 : 3 ≤ 3 := of_decide_eq_true c_8
          refine wp_steps 1 (t' := (31, [some (.ref 2), some (.ref (aSTR + 12)), some (.int 3)], [.int 1], (HD, mi, ml, mr))) rfl ?_
          refine wp_ret rfl rfl ⟨⟨Nat.le_refl _, Nat.le_refl _⟩, ?_⟩
          have q : e - a = 3 := (nI_eq (by omega) (by decide)).mp c_1
          exact ⟨by simp [wdF, rdF, q, show ¬ (3 ≤ 0) from c_2, show (byN (mi 3) n a) = 110 from c_3, show ¬ (3 ≤ 1) from c_4, show (byN (mi 3) n (a + 1)) = 111 from c_5, show ¬ (3 ≤ 2) from c_6, show (byN (mi 3) n (a + 2)) = 116 from c_7, show 3 ≤ 3 from c_8], rfl⟩
        · have c_7 : ¬ ((byN (mi 3) n (a + 2)) = 116) := of_decide_eq_false c_7
          refine wp_steps 1 (t' := (27, [some (.ref 2), some (.ref (aSTR + 12)), some (.int 2)], [.int 0], (HD, mi, ml, mr))) rfl ?_
          refine wp_ret rfl rfl ⟨⟨Nat.le_refl _, Nat.le_refl _⟩, ?_⟩
          have q : e - a = 3 := (nI_eq (by omega) (by decide)).mp c_1
          exact ⟨by simp [wdF, rdF, q, show ¬ (3 ≤ 0) from c_2, show (byN (mi 3) n a) = 110 from c_3, show ¬ (3 ≤ 1) from c_4, show (byN (mi 3) n (a + 1)) = 111 from c_5, show ¬ (3 ≤ 2) from c_6, show ¬ ((byN (mi 3) n (a + 2)) = 116) from c_7], rfl⟩
      · have c_5 : ¬ ((byN (mi 3) n (a + 1)) = 111) := of_decide_eq_false c_5
        refine wp_steps 1 (t' := (27, [some (.ref 2), some (.ref (aSTR + 12)), some (.int 1)], [.int 0], (HD, mi, ml, mr))) rfl ?_
        refine wp_ret rfl rfl ⟨⟨Nat.le_refl _, Nat.le_refl _⟩, ?_⟩
        have q : e - a = 3 := (nI_eq (by omega) (by decide)).mp c_1
        exact ⟨by simp [wdF, rdF, q, show ¬ (3 ≤ 0) from c_2, show (byN (mi 3) n a) = 110 from c_3, show ¬ (3 ≤ 1) from c_4, show ¬ ((byN (mi 3) n (a + 1)) = 111) from c_5], rfl⟩
    · have c_3 : ¬ ((byN (mi 3) n (a + 0)) = 110) := of_decide_eq_false c_3
      refine wp_steps 1 (t' := (27, [some (.ref 2), some (.ref (aSTR + 12)), some (.int 0)], [.int 0], (HD, mi, ml, mr))) rfl ?_
      refine wp_ret rfl rfl ⟨⟨Nat.le_refl _, Nat.le_refl _⟩, ?_⟩
      have q : e - a = 3 := (nI_eq (by omega) (by decide)).mp c_1
      exact ⟨by simp [wdF, rdF, q, show ¬ (3 ≤ 0) from c_2, show ¬ ((byN (mi 3) n a) = 110) from c_3], rfl⟩
  · have c_1 : ¬ ((nI (e - a)) = 3) := of_decide_eq_false c_1
    refine wp_steps 1 (t' := (9, [some (.ref 2), some (.ref (aSTR + 12)), none], [.int 0], (HD, mi, ml, mr))) rfl ?_
    refine wp_ret rfl rfl ⟨⟨Nat.le_refl _, Nat.le_refl _⟩, ?_⟩
    have q : ¬ e - a = 3 := fun q => c_1 (by rw [q]; rfl)
    exact ⟨by simp [wdF, q], rfl⟩
