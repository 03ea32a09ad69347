/-! the law (written by wip/whole/mkrun.py) -/
set_option maxRecDepth 20000 in
set_option maxHeartbeats 1000000 in
theorem l_law {W : aXt × Value} {L : Nat} {xs : Nat → Int32} (hX : W.1 aSCR = some (L, xs)) (hL : L ≤ 3072) (hW : outOK W) (hU : W.1 aUND = some (6, aUnd)) : ∀ (g i : Nat) (m : Nat → Nat → Int32) (ml : Nat → Nat → Int64) (mr : Nat → Nat → Option Nat), L ≤ i + g → i ≤ L + 6 → INV m mr → aWP (aEx (aTb W) 90) (cd_L_law W) (10, [some (.ref aSCR), some (.ref 0), some (.ref 84), some (.int (nI i))], [], (HD, m, ml, mr)) (fun r h' => (HD.1 ≤ h'.1.1 ∧ HD.2.1 ≤ h'.1.2.1) ∧ r = some (.int 1) ∧ h'.1 = HD) := by
  have e6 : (nI L - 6).toInt = (L : Int) - 6 := by rw [sub_t (by rw [nI_toInt (by omega)]; omega) (by decide), nI_toInt (by omega)]; rfl
  intro g
  induction g with
  | zero =>
    intro i m ml mr hg hi6 hI
    refine wp_steps 2 (t' := (12, [some (.ref aSCR), some (.ref 0), some (.ref 84), some (.int (nI i))], [.ref aSCR, .int (nI i)], (HD, m, ml, mr))) rfl ?_
    refine wp_len_x rfl hX ?_
    refine wp_steps 2 (t' := (15, [some (.ref aSCR), some (.ref 0), some (.ref 84), some (.int (nI i))], [.int ((nI L) - 6), .int (nI i)], (HD, m, ml, mr))) rfl ?_
    refine wp_bC rfl (fun c_1 => ?_) (fun c_1 => ?_)
    rotate_left
    · have c_1 : ¬ (((nI L) - 6) < (nI i)) := of_decide_eq_false c_1
      exact absurd (show nI L - 6 < nI i from Int32.lt_iff_toInt_lt.mpr (by rw [e6, nI_toInt (by omega)]; omega)) c_1
    have c_1 : ((nI L) - 6) < (nI i) := of_decide_eq_true c_1
    refine wp_steps 1 (t' := (873, [some (.ref aSCR), some (.ref 0), some (.ref 84), some (.int (nI i))], [.int 1], (HD, m, ml, mr))) rfl ?_
    refine wp_ret rfl rfl ⟨⟨Nat.le_refl _, Nat.le_refl _⟩, ?_⟩
    exact ⟨rfl, rfl⟩
  | succ g ih =>
    intro i m ml mr hg hi6 hI
    refine wp_steps 2 (t' := (12, [some (.ref aSCR), some (.ref 0), some (.ref 84), some (.int (nI i))], [.ref aSCR, .int (nI i)], (HD, m, ml, mr))) rfl ?_
    refine wp_len_x rfl hX ?_
    refine wp_steps 2 (t' := (15, [some (.ref aSCR), some (.ref 0), some (.ref 84), some (.int (nI i))], [.int ((nI L) - 6), .int (nI i)], (HD, m, ml, mr))) rfl ?_
    refine wp_bC rfl (fun c_1 => ?_) (fun c_1 => ?_)
    · have c_1 : ((nI L) - 6) < (nI i) := of_decide_eq_true c_1
      refine wp_steps 1 (t' := (873, [some (.ref aSCR), some (.ref 0), some (.ref 84), some (.int (nI i))], [.int 1], (HD, m, ml, mr))) rfl ?_
      refine wp_ret rfl rfl ⟨⟨Nat.le_refl _, Nat.le_refl _⟩, ?_⟩
      exact ⟨rfl, rfl⟩
    · have c_1 : ¬ (((nI L) - 6) < (nI i)) := of_decide_eq_false c_1
      have hi : i + 6 ≤ L := by
        have q := Int32.not_lt.mp c_1
        rw [Int32.le_iff_toInt_le, e6, nI_toInt (by omega)] at q
        omega
      refine wp_steps 2 (t' := (18, [some (.ref aSCR), some (.ref 0), some (.ref 84), some (.int (nI i))], [.int (nI i), .ref aSCR], (HD, m, ml, mr))) rfl ?_
      refine wp_ial_x rfl hX (aix_nI (by omega) (by omega)) ?_
      refine wp_steps 2 (t' := (21, [some (.ref aSCR), some (.ref 0), some (.ref 84), some (.int (nI i))], [.int ((xs (nI i).toNatClampNeg) &&& 31)], (HD, m, ml, mr))) rfl ?_
      have hk : ∀ m2 w2 mr2, INV m2 mr2 → aWP (aEx (aTb W) 90) (cd_L_law W) (870, [some (.ref aSCR), some (.ref 0), some (.ref 84), some (.int (nI i))], [], (HD, m2, w2, mr2)) (fun r h' => (HD.1 ≤ h'.1.1 ∧ HD.2.1 ≤ h'.1.2.1) ∧ r = some (.int 1) ∧ h'.1 = HD) := by
        intro m2 w2 mr2 h2
        refine wp_steps 2 (t' := (10, [some (.ref aSCR), some (.ref 0), some (.ref 84), some (.int (nI i + Int32.ofInt 6))], [], (HD, m2, w2, mr2))) rfl ?_
        rw [show nI i + Int32.ofInt 6 = nI (i + 6) from nI_add (a := i) (b := 6)]
        exact ih (i + 6) m2 w2 mr2 (by omega) (by omega) h2
      generalize (xs (nI i).toNatClampNeg) &&& 31 = y
      by_cases s_0 : y = 0
      · refine wp_sw 22 rfl (by rw [s_0]; decide) ?_
        exact lw_set hX hL hi hI hk
      by_cases s_1 : y = 1
      · refine wp_sw 59 rfl (by rw [s_1]; decide) ?_
        exact lw_learner hX hL hi hI hk
      by_cases s_2 : y = 2
      · refine wp_sw 86 rfl (by rw [s_2]; decide) ?_
        exact lw_told hX hL hi hI hk
      by_cases s_3 : y = 3
      · refine wp_sw 113 rfl (by rw [s_3]; decide) ?_
        exact lw_asks hX hL hi hI hk
      by_cases s_4 : y = 4
      · refine wp_sw 150 rfl (by rw [s_4]; decide) ?_
        exact lw_feed hX hL hi hI hk
      by_cases s_5 : y = 5
      · refine wp_sw 167 rfl (by rw [s_5]; decide) ?_
        exact lw_text hX hL hW hi hI hk
      by_cases s_6 : y = 6
      · refine wp_sw 174 rfl (by rw [s_6]; decide) ?_
        exact lw_force hX hL hi hI hk
      by_cases s_7 : y = 7
      · refine wp_sw 191 rfl (by rw [s_7]; decide) ?_
        exact lw_drive hX hL hi hI hk
      by_cases s_8 : y = 8
      · refine wp_sw 228 rfl (by rw [s_8]; decide) ?_
        exact lw_night hX hL hi hI hk
      by_cases s_9 : y = 9
      · refine wp_sw 235 rfl (by rw [s_9]; decide) ?_
        exact lw_best hX hL hi hI hk
      by_cases s_10 : y = 10
      · refine wp_sw 262 rfl (by rw [s_10]; decide) ?_
        exact lw_hours hX hL hi hI hk
      by_cases s_11 : y = 11
      · refine wp_sw 309 rfl (by rw [s_11]; decide) ?_
        exact lw_takes hX hL hi hI hk
      by_cases s_12 : y = 12
      · refine wp_sw 346 rfl (by rw [s_12]; decide) ?_
        exact lw_late hX hL hi hI hk
      by_cases s_13 : y = 13
      · refine wp_sw 373 rfl (by rw [s_13]; decide) ?_
        exact lw_gap hX hL hi hI hk
      by_cases s_14 : y = 14
      · refine wp_sw 400 rfl (by rw [s_14]; decide) ?_
        exact lw_faded hX hL hi hI hk
      by_cases s_15 : y = 15
      · refine wp_sw 427 rfl (by rw [s_15]; decide) ?_
        exact lw_test hX hL hi hI hk
      by_cases s_16 : y = 16
      · refine wp_sw 465 rfl (by rw [s_16]; decide) ?_
        exact lw_tells hX hL hi hI hk
      by_cases s_17 : y = 17
      · refine wp_sw 512 rfl (by rw [s_17]; decide) ?_
        exact lw_film hX hL hi hI hk
      by_cases s_18 : y = 18
      · refine wp_sw 559 rfl (by rw [s_18]; decide) ?_
        exact lw_drawn hX hL hi hI hk
      by_cases s_19 : y = 19
      · refine wp_sw 586 rfl (by rw [s_19]; decide) ?_
        exact lw_chance hX hL hi hI hk
      by_cases s_20 : y = 20
      · refine wp_sw 634 rfl (by rw [s_20]; decide) ?_
        exact lw_image hX hL hi hI hk
      by_cases s_21 : y = 21
      · refine wp_sw 641 rfl (by rw [s_21]; decide) ?_
        exact lw_back hX hL hi hI hk
      by_cases s_22 : y = 22
      · refine wp_sw 648 rfl (by rw [s_22]; decide) ?_
        exact lw_count hX hL hi hI hk
      by_cases s_23 : y = 23
      · refine wp_sw 665 rfl (by rw [s_23]; decide) ?_
        exact lw_sheet hX hL hi hI hk
      by_cases s_24 : y = 24
      · refine wp_sw 702 rfl (by rw [s_24]; decide) ?_
        exact lw_cell hX hL hi hI hk
      by_cases s_25 : y = 25
      · refine wp_sw 739 rfl (by rw [s_25]; decide) ?_
        exact lw_copy hX hL hi hI hk
      by_cases s_26 : y = 26
      · refine wp_sw 796 rfl (by rw [s_26]; decide) ?_
        exact lw_learners hX hL hi hI hk
      by_cases s_27 : y = 27
      · refine wp_sw 843 rfl (by rw [s_27]; decide) ?_
        exact lw_taken hX hL hU hi hI hk
      refine wp_sw 870 rfl (aSw_out [0, 1, 2, 3, 4, 5, 6, 7, 8, 9, 10, 11, 12, 13, 14, 15, 16, 17, 18, 19, 20, 21, 22, 23, 24, 25, 26, 27] (List.forall_mem_cons.mpr ⟨s_0, List.forall_mem_cons.mpr ⟨s_1, List.forall_mem_cons.mpr ⟨s_2, List.forall_mem_cons.mpr ⟨s_3, List.forall_mem_cons.mpr ⟨s_4, List.forall_mem_cons.mpr ⟨s_5, List.forall_mem_cons.mpr ⟨s_6, List.forall_mem_cons.mpr ⟨s_7, List.forall_mem_cons.mpr ⟨s_8, List.forall_mem_cons.mpr ⟨s_9, List.forall_mem_cons.mpr ⟨s_10, List.forall_mem_cons.mpr ⟨s_11, List.forall_mem_cons.mpr ⟨s_12, List.forall_mem_cons.mpr ⟨s_13, List.forall_mem_cons.mpr ⟨s_14, List.forall_mem_cons.mpr ⟨s_15, List.forall_mem_cons.mpr ⟨s_16, List.forall_mem_cons.mpr ⟨s_17, List.forall_mem_cons.mpr ⟨s_18, List.forall_mem_cons.mpr ⟨s_19, List.forall_mem_cons.mpr ⟨s_20, List.forall_mem_cons.mpr ⟨s_21, List.forall_mem_cons.mpr ⟨s_22, List.forall_mem_cons.mpr ⟨s_23, List.forall_mem_cons.mpr ⟨s_24, List.forall_mem_cons.mpr ⟨s_25, List.forall_mem_cons.mpr ⟨s_26, List.forall_mem_cons.mpr ⟨s_27, fun _ h => absurd h List.not_mem_nil⟩⟩⟩⟩⟩⟩⟩⟩⟩⟩⟩⟩⟩⟩⟩⟩⟩⟩⟩⟩⟩⟩⟩⟩⟩⟩⟩⟩) (by decide)) ?_
      exact hk m ml mr hI
theorem law_go (L : Nat) (xs : Nat → Int32) (sv : Value) (hL : L ≤ 3072) (hsv : sv = .null ∨ sv = .ref aSIO) {q : aM × aM} (hq : in0 sv = some q) (h84 : q.1.1.1 = 84 ∧ q.1.1.2.2 = SHL.take 84) (k1 : ck1 q.2) (k2 : ck2 q.2.2.1 q.2.2.2.2) (k3 : ck3 q.2.2.1) : aWP (aEx (aTb (aXs L xs, sv)) 90) (cd_L_law (aXs L xs, sv)) (0, [some (.ref aSCR), none, none, none], [], aH0) (fun r h' => r = some (.int 1) ∧ h'.1 = HD) := by
  obtain ⟨r1, r2⟩ := in0_run hq (aXs L xs)
  obtain ⟨⟨⟨z0, n0, l0⟩, mi0, ml0, mr0⟩, ⟨hd, m, ml, mr⟩⟩ := q
  obtain ⟨h84, hsh⟩ := h84
  have h84 : z0 = 84 := h84
  have hsh : l0 = SHL.take 84 := hsh
  subst h84
  subst hsh
  have hd1 : hd = HD := k1.1
  subst hd1
  have hI : INV m mr := ck_INV k1.2 k2 k3
  have hX : (aXs L xs, sv).1 aSCR = some (L, xs) := by show aXs L xs aSCR = _; unfold aXs; rw [if_pos rfl]
  have hU : (aXs L xs, sv).1 aUND = some (6, aUnd) := by show aXs L xs aUND = _; unfold aXs; rw [if_neg (by decide), if_pos rfl]
  refine wp_step (t' := (1, [some (.ref aSCR), none, none, none], [.ref 0], anew aH0 (0, 6) (anf 6))) rfl rfl ?_
  refine wp_steps 1 (t' := (2, [some (.ref aSCR), none, none, none], [.ref 0, .ref 0], anew aH0 (0, 6) (anf 6))) rfl ?_
  refine wp_calv (as := []) rfl rfl rfl (Nat.le_of_ble_eq_true rfl) ⟨by decide, rfl⟩ (show aCW (aXs L xs, sv) 40 65 [.ref 0] (anew aH0 (0, 6) (anf 6)) (fun r h' => r = none ∧ h' = ((84, n0, SHL.take 84), mi0, ml0, mr0)) from ⟨_, _, r1, rfl, rfl⟩) (by decide) ?_
  rintro _ _ ⟨rfl, rfl⟩
  show aWP _ _ (3, [some (.ref aSCR), none, none, none], [.ref 0], ((84, n0, SHL.take 84), mi0, ml0, mr0)) _
  refine wp_steps 1 (t' := (4, [some (.ref aSCR), some (.ref 0), none, none], [], ((84, n0, SHL.take 84), mi0, ml0, mr0))) rfl ?_
  refine wp_step (t' := (5, [some (.ref aSCR), some (.ref 0), none, none], [.ref 84], anew ((84, n0, SHL.take 84), mi0, ml0, mr0) (0, 7) (anf 7))) rfl rfl ?_
  refine wp_steps 1 (t' := (6, [some (.ref aSCR), some (.ref 0), none, none], [.ref 84, .ref 84], anew ((84, n0, SHL.take 84), mi0, ml0, mr0) (0, 7) (anf 7))) rfl ?_
  refine wp_calv (as := []) rfl rfl rfl (Nat.le_of_ble_eq_true rfl) ⟨show 84 < 84 + 1 by decide, rfl⟩ (show aCW (aXs L xs, sv) 40 113 [.ref 84] (anew ((84, n0, SHL.take 84), mi0, ml0, mr0) (0, 7) (anf 7)) (fun r h' => r = none ∧ h' = (HD, m, ml, mr)) from ⟨_, _, r2, rfl, rfl⟩) (by decide) ?_
  rintro _ _ ⟨rfl, rfl⟩
  show aWP _ _ (7, [some (.ref aSCR), some (.ref 0), none, none], [.ref 84], (HD, m, ml, mr)) _
  refine wp_steps 3 (t' := (10, [some (.ref aSCR), some (.ref 0), some (.ref 84), some (.int (nI 0))], [], (HD, m, ml, mr))) rfl ?_
  exact wp_mono (l_law hX hL hsv hU L 0 m ml mr (by omega) (by omega) hI) (fun r h q => q.2)
theorem aLaw : aGoalLaw := by
  intro L xs sv hL hsv
  have g : aWP (aEx (aTb (aXs L xs, sv)) 90) (cd_L_law (aXs L xs, sv)) (0, [some (.ref aSCR), none, none, none], [], aH0) (fun r h' => r = some (.int 1) ∧ h'.1 = HD) := by
    rcases hsv with e | e
    · subst e
      obtain ⟨q, k0, k84, k1, k2, k3⟩ := ck_n
      exact law_go L xs _ hL (Or.inl rfl) k0 k84 k1 k2 k3
    · subst e
      obtain ⟨q, k0, k84, k1, k2, k3⟩ := ck_s
      exact law_go L xs _ hL (Or.inr rfl) k0 k84 k1 k2 k3
  obtain ⟨n, r, h', g1, g2, g3⟩ := g
  subst g2
  refine ⟨90, n, h', by decide, ?_, ?_, g1⟩
  · rw [g3]; decide
  · rw [g3]; decide
