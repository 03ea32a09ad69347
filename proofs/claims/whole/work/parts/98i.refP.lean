/-! the reference: text (written by wip/whole/mkrefP.py) -/
theorem cp_st {f : Nat → Nat → Int32} {a b sp dp k : Nat} (h : a ≠ b) : aup (acpy f a b sp dp k) b (dp + k) (acpy f a b sp dp k a (sp + k)) = acpy f a b sp dp (k + 1) := by
  funext x y
  rw [acpy_ne h]
  unfold aup acpy
  by_cases e : x = b
  · simp only [if_pos e]
    by_cases e2 : y = dp + k
    · subst e2
      rw [if_pos rfl, if_pos ⟨by omega, by omega⟩, show dp + k - dp = k from by omega]
    · rw [if_neg e2]
      by_cases e3 : dp ≤ y ∧ y < dp + k
      · rw [if_pos e3, if_pos ⟨e3.1, by omega⟩]
      · rw [if_neg e3, if_neg (by omega)]
  · simp only [if_neg e]
theorem cp_00 {f : Nat → Nat → Int32} {a b sp dp : Nat} : acpy f a b sp dp 0 = f := by
  funext x y
  unfold acpy
  by_cases e : x = b
  · rw [if_pos e, if_neg (by omega)]
  · rw [if_neg e]
set_option maxRecDepth 20000 in
set_option maxHeartbeats 1000000 in
theorem l_rtxt {X : aXt × Value} {mi : Nat → Nat → Int32} {ml : Nat → Nat → Int64} {mr : Nat → Nat → Option Nat} (hM : MRok mr) {n C : Nat} (hn : n ≤ 160) (hz : mi 84 6 = nI n) (hC : mi 84 3 = nI C) (hc : C < 6) {Q : Option Value → aM → Prop} (hk : (aWP (aEx (aTb X) 42) cd_X7_text (27, [some (.ref 84), some (.int (nI n))], [], (HD, (acpy mi 87 85 0 (160 * C) n), ml, mr)) Q)) : ∀ (g k : Nat), k + g = n → aWP (aEx (aTb X) 42) cd_X7_text (8, [some (.ref 84), some (.int (nI k))], [], (HD, (acpy mi 87 85 0 (160 * C) k), ml, mr)) Q := by
  intro g
  induction g with
  | zero =>
    intro k hg
    obtain rfl : k = n := by omega
    refine wp_steps 2 (t' := (10, [some (.ref 84), some (.int (nI k))], [.ref 84, .int (nI k)], (HD, (acpy mi 87 85 0 (160 * C) k), ml, mr))) rfl ?_
    refine wp_geti rfl ⟨by decide, rfl⟩ (Or.inl rfl) ?_
    rw [acpy_ne (show (84 : Nat) ≠ 85 by decide), hz]
    refine wp_bC rfl (fun c_1 => ?_) (fun c_1 => ?_)
    rotate_left
    · have c_1 : ¬ ((nI k) ≤ (nI k)) := of_decide_eq_false c_1
      exact absurd (Int32.le_refl _) c_1
    have c_1 : (nI k) ≤ (nI k) := of_decide_eq_true c_1
    exact hk
  | succ g ih =>
    intro k hg
    have hkn : k < n := by omega
    refine wp_steps 2 (t' := (10, [some (.ref 84), some (.int (nI k))], [.ref 84, .int (nI k)], (HD, (acpy mi 87 85 0 (160 * C) k), ml, mr))) rfl ?_
    refine wp_geti rfl ⟨by decide, rfl⟩ (Or.inl rfl) ?_
    rw [acpy_ne (show (84 : Nat) ≠ 85 by decide), hz]
    refine wp_bC rfl (fun c_1 => ?_) (fun c_1 => ?_)
    · have c_1 : (nI n) ≤ (nI k) := of_decide_eq_true c_1
      exact absurd c_1 (nI_ge (a := k) (b := n) hkn (by omega))
    have c_1 : ¬ ((nI n) ≤ (nI k)) := of_decide_eq_false c_1
    refine wp_steps 1 (t' := (13, [some (.ref 84), some (.int (nI k))], [.ref 84], (HD, (acpy mi 87 85 0 (160 * C) k), ml, mr))) rfl ?_
    refine wp_getr rfl ⟨by decide, rfl⟩ rfl (hM (84, 1, 85) (by decide)) ?_
    refine wp_steps 2 (t' := (16, [some (.ref 84), some (.int (nI k))], [.ref 84, .int 160, .ref 85], (HD, (acpy mi 87 85 0 (160 * C) k), ml, mr))) rfl ?_
    refine wp_geti rfl ⟨by decide, rfl⟩ (Or.inl rfl) ?_
    rw [acpy_ne (show (84 : Nat) ≠ 85 by decide), hC]
    refine wp_steps 1 (t' := (18, [some (.ref 84), some (.int (nI k))], [.int (160 * (nI C)), .ref 85], (HD, (acpy mi 87 85 0 (160 * C) k), ml, mr))) rfl ?_
    rw [show (160 : Int32) * nI C = nI (160 * C) from (Int32.ofNat_mul 160 C).symm]
    refine wp_steps 2 (t' := (20, [some (.ref 84), some (.int (nI k))], [.int ((nI (160 * C)) + (nI k)), .ref 85], (HD, (acpy mi 87 85 0 (160 * C) k), ml, mr))) rfl ?_
    rw [nI_add]
    refine wp_steps 1 (t' := (21, [some (.ref 84), some (.int (nI k))], [.ref 84, .int (nI (160 * C + k)), .ref 85], (HD, (acpy mi 87 85 0 (160 * C) k), ml, mr))) rfl ?_
    refine wp_getr rfl ⟨by decide, rfl⟩ rfl (hM (84, 5, 87) (by decide)) ?_
    refine wp_steps 1 (t' := (23, [some (.ref 84), some (.int (nI k))], [.int (nI k), .ref 87, .int (nI (160 * C + k)), .ref 85], (HD, (acpy mi 87 85 0 (160 * C) k), ml, mr))) rfl ?_
    refine wp_iald rfl ⟨by decide, rfl⟩ (aix_nI (by omega) (by decide)) ?_
    rw [nI_clamp (n := k) (by omega)]
    refine wp_iast rfl ⟨by decide, rfl⟩ (aix_nI (by omega) (by decide)) (fun m_2 h_3 => ?_)
    subst h_3
    rw [nI_clamp (n := 160 * C + k) (by omega)]
    refine wp_steps 2 (t' := (8, [some (.ref 84), some (.int ((nI k) + Int32.ofInt 1))], [], (HD, (aup (acpy mi 87 85 0 (160 * C) k) 85 (160 * C + k) ((acpy mi 87 85 0 (160 * C) k) 87 k)), ml, mr))) rfl ?_
    have e : (aup (acpy mi 87 85 0 (160 * C) k) 85 (160 * C + k) ((acpy mi 87 85 0 (160 * C) k) 87 k)) = (acpy mi 87 85 0 (160 * C) (k + 1)) := by
      have q := cp_st (f := mi) (a := 87) (b := 85) (sp := 0) (dp := 160 * C) (k := k) (by decide)
      rw [Nat.zero_add] at q
      exact q
    rw [inc_nI, e]
    exact ih (k + 1) (by omega)
set_option maxRecDepth 20000 in
set_option maxHeartbeats 1000000 in
theorem r_text_full {X : aXt × Value} {mi : Nat → Nat → Int32} {ml : Nat → Nat → Int64} {mr : Nat → Nat → Option Nat} (hM : MRok mr) (hC : mi 84 3 = 6) : aCW X 2 171 [.ref 84] (HD, mi, ml, mr) (fun r h' => r = some (.int (-4)) ∧ h' = (HD, mi, ml, mr)) := by
  refine cw_of (cd := cd_X7_text) (nL := 2) rfl rfl ?_
  show aWP _ _ (0, [some (.ref 84), none], [], (HD, mi, ml, mr)) _
  refine wp_steps 1 (t' := (1, [some (.ref 84), none], [.ref 84], (HD, mi, ml, mr))) rfl ?_
  refine wp_geti rfl ⟨by decide, rfl⟩ (Or.inl rfl) ?_
  rw [hC]
  refine wp_steps 1 (t' := (3, [some (.ref 84), none], [.int 6, .int 6], (HD, mi, ml, mr))) rfl ?_
  refine wp_bC rfl (fun c_1 => ?_) (fun c_1 => ?_)
  · have c_1 : ¬ (6 : Int32) = 6 := of_decide_eq_true c_1
    exact absurd c_1 (by decide)
  have c_1 : (6 : Int32) = 6 := Decidable.not_not.mp (of_decide_eq_false c_1)
  refine wp_steps 1 (t' := (5, [some (.ref 84), none], [.int (-4)], (HD, mi, ml, mr))) rfl ?_
  refine wp_ret rfl rfl ⟨⟨Nat.le_refl _, Nat.le_refl _⟩, ?_⟩
  exact ⟨rfl, rfl⟩
/-- the reference's memory as it begins to read what was said -/
def rtM (m : Nat → Nat → Int32) (C n : Nat) : Nat → Nat → Int32 := aup (aup (acpy m 87 85 0 (160 * C) n) 86 C (nI n)) 84 6 0
theorem rtM_B {m : Nat → Nat → Int32} {C n : Nat} : txB (rtM m C n) C n = byN (m 87) n := by
  funext p
  unfold txB byN
  by_cases e : p < n
  · rw [if_pos e, if_pos e]
    show aup (aup (acpy m 87 85 0 (160 * C) n) 86 C (nI n)) 84 6 0 85 (160 * C + p) = m 87 p
    unfold aup acpy
    rw [if_neg (by decide), if_neg (by decide), if_pos rfl, if_pos ⟨by omega, by omega⟩]
    exact congrArg (m 87) (by omega)
  · rw [if_neg e, if_neg e]
theorem rtM_84 {m : Nat → Nat → Int32} {C n j : Nat} (h : j ≠ 6) : rtM m C n 84 j = m 84 j := by
  unfold rtM aup acpy
  rw [if_pos rfl, if_neg h, if_neg (by decide), if_neg (by decide)]
theorem rtM_sz {m : Nat → Nat → Int32} {C n : Nat} : rtM m C n 86 C = nI n := by
  unfold rtM aup
  rw [if_neg (by decide), if_pos rfl, if_pos rfl]
set_option maxRecDepth 20000 in
set_option maxHeartbeats 1000000 in
theorem r_text_ok {X : aXt × Value} {mi : Nat → Nat → Int32} {ml : Nat → Nat → Int64} {mr : Nat → Nat → Option Nat} (hM : MRok mr) {n C : Nat} (hn : n ≤ 160) (hz : mi 84 6 = nI n) (hC : mi 84 3 = nI C) (hc : C < 6) {v0 : Int32} (hnn : nnB (byN (mi 87) n) n) (hb : (rfF (byN (mi 87) n) n v0).1 = true) : aCW X 43 171 [.ref 84] (HD, mi, ml, mr) (fun r h' => r = some (.int (nI C)) ∧ ∃ m' w', h' = (HD, aup m' 84 3 (nI (C + 1)), w', mr) ∧ frD (rtM mi C n) m' ∧ ∃ v, rfE (byN (mi 87) n) n C v0 (fun j => mi 84 (13 + j)) 0 m' v) := by
  refine cw_of (cd := cd_X7_text) (nL := 2) rfl rfl ?_
  show aWP _ _ (0, [some (.ref 84), none], [], (HD, mi, ml, mr)) _
  refine wp_steps 1 (t' := (1, [some (.ref 84), none], [.ref 84], (HD, mi, ml, mr))) rfl ?_
  refine wp_geti rfl ⟨by decide, rfl⟩ (Or.inl rfl) ?_
  rw [hC]
  refine wp_steps 1 (t' := (3, [some (.ref 84), none], [.int 6, .int (nI C)], (HD, mi, ml, mr))) rfl ?_
  refine wp_bC rfl (fun c_1 => ?_) (fun c_1 => ?_)
  rotate_left
  · have c_1 : (nI C) = 6 := Decidable.not_not.mp (of_decide_eq_false c_1)
    have q := congrArg Int32.toInt c_1
    rw [nI_toInt (by omega), show (6 : Int32).toInt = 6 from rfl] at q
    omega
  have c_1 : ¬ (nI C) = 6 := of_decide_eq_true c_1
  refine wp_steps 2 (t' := (8, [some (.ref 84), some (.int 0)], [], (HD, mi, ml, mr))) rfl ?_
  suffices hh : aWP (aEx (aTb X) 42) cd_X7_text (8, [some (.ref 84), some (.int 0)], [], (HD, (acpy mi 87 85 0 (160 * C) 0), ml, mr)) _ by
    rw [cp_00] at hh
    exact hh
  refine l_rtxt (X := X) (mi := mi) (ml := ml) hM hn hz hC hc ?_ n 0 (by omega)
  refine wp_steps 1 (t' := (28, [some (.ref 84), some (.int (nI n))], [.ref 84], (HD, (acpy mi 87 85 0 (160 * C) n), ml, mr))) rfl ?_
  refine wp_getr rfl ⟨by decide, rfl⟩ rfl (hM (84, 2, 86) (by decide)) ?_
  refine wp_steps 1 (t' := (30, [some (.ref 84), some (.int (nI n))], [.ref 84, .ref 86], (HD, (acpy mi 87 85 0 (160 * C) n), ml, mr))) rfl ?_
  refine wp_geti rfl ⟨by decide, rfl⟩ (Or.inl rfl) ?_
  rw [acpy_ne (show (84 : Nat) ≠ 85 by decide), hC]
  refine wp_steps 1 (t' := (32, [some (.ref 84), some (.int (nI n))], [.ref 84, .int (nI C), .ref 86], (HD, (acpy mi 87 85 0 (160 * C) n), ml, mr))) rfl ?_
  refine wp_geti rfl ⟨by decide, rfl⟩ (Or.inl rfl) ?_
  rw [acpy_ne (show (84 : Nat) ≠ 85 by decide), hz]
  refine wp_iast rfl ⟨by decide, rfl⟩ (aix_nI (by omega) (by decide)) (fun m_21 h_22 => ?_)
  subst h_22
  rw [nI_clamp (n := C) (by omega)]
  refine wp_steps 2 (t' := (36, [some (.ref 84), some (.int (nI n))], [.int 0, .ref 84], (HD, (aup (acpy mi 87 85 0 (160 * C) n) 86 C (nI n)), ml, mr))) rfl ?_
  refine wp_puti rfl ⟨by decide, rfl⟩ rfl (fun m_23 h_24 => ?_)
  subst h_24
  show aWP _ _ (37, [some (.ref 84), some (.int (nI n))], [], (HD, (rtM mi C n), ml, mr)) _
  refine wp_steps 2 (t' := (39, [some (.ref 84), some (.int (nI n))], [.ref 84, .ref 84], (HD, (rtM mi C n), ml, mr))) rfl ?_
  refine wp_geti rfl ⟨by decide, rfl⟩ (Or.inl rfl) ?_
  rw [show rtM mi C n 84 3 = nI C from (rtM_84 (by decide)).trans hC]
  refine wp_steps 1 (t' := (41, [some (.ref 84), some (.int (nI n))], [.int 0, .int (nI C), .ref 84], (HD, (rtM mi C n), ml, mr))) rfl ?_
  refine wp_calv (as := [.int (nI C), .int 0]) rfl rfl rfl (Nat.le_of_ble_eq_true rfl) ⟨by decide, rfl⟩ ((r_read (mi := rtM mi C n) (ml := ml) hM hc hn rtM_sz (by rw [rtM_B]; exact hnn) v0 (nm := (fun j => mi 84 (13 + j))) (fun j hj => rtM_84 (by omega)) (wh := 0))) (by decide) ?_
  rintro _ _ ⟨v_1, m_1, w_1, rfl, rfl, f_1, g_1⟩
  show aWP _ _ (42, [some (.ref 84), some (.int (nI n))], [.int v_1], (HD, m_1, w_1, mr)) _
  rw [rtM_B] at g_1
  refine wp_steps 2 (t' := (44, [some (.ref 84), some (.int v_1)], [.ref 84], (HD, m_1, w_1, mr))) rfl ?_
  refine wp_geti rfl ⟨by decide, rfl⟩ (Or.inr rfl) ?_
  rw [(g_1.1 hb).1]
  refine wp_bI rfl (fun c_61 => ?_) (fun c_61 => ?_)
  rotate_left
  · have c_61 : ¬ ((0 : Int32) = 0) := of_decide_eq_false c_61
    exact absurd c_61 (by decide)
  have c_61 : (0 : Int32) = 0 := of_decide_eq_true c_61
  refine wp_steps 2 (t' := (53, [some (.ref 84), some (.int v_1)], [.ref 84, .ref 84], (HD, m_1, w_1, mr))) rfl ?_
  refine wp_geti rfl ⟨by decide, rfl⟩ (Or.inl rfl) ?_
  rw [show m_1 84 3 = nI C from (f_1 84 3 (by omega)).trans ((rtM_84 (by decide)).trans hC)]
  refine wp_steps 2 (t' := (56, [some (.ref 84), some (.int v_1)], [.int ((nI C) + 1), .ref 84], (HD, m_1, w_1, mr))) rfl ?_
  rw [show nI C + 1 = nI (C + 1) from inc_nI C]
  refine wp_puti rfl ⟨by decide, rfl⟩ rfl (fun m_62 h_63 => ?_)
  subst h_63
  refine wp_steps 1 (t' := (58, [some (.ref 84), some (.int v_1)], [.ref 84], (HD, (aup m_1 84 3 (nI (C + 1))), w_1, mr))) rfl ?_
  refine wp_geti rfl ⟨by decide, rfl⟩ (Or.inl rfl) ?_
  rw [show aup m_1 84 3 (nI (C + 1)) 84 3 = nI (C + 1) from by simp [aup]]
  refine wp_steps 2 (t' := (61, [some (.ref 84), some (.int v_1)], [.int ((nI (C + 1)) - 1)], (HD, (aup m_1 84 3 (nI (C + 1))), w_1, mr))) rfl ?_
  rw [show nI (C + 1) - 1 = nI C from nI_sb (a := 1) (e := C + 1) (by omega)]
  refine wp_ret rfl rfl ⟨⟨Nat.le_refl _, Nat.le_refl _⟩, ?_⟩
  exact ⟨rfl, m_1, w_1, rfl, f_1, v_1, g_1⟩
set_option maxRecDepth 20000 in
set_option maxHeartbeats 1000000 in
theorem r_text_no {X : aXt × Value} {mi : Nat → Nat → Int32} {ml : Nat → Nat → Int64} {mr : Nat → Nat → Option Nat} (hM : MRok mr) {n C : Nat} (hn : n ≤ 160) (hz : mi 84 6 = nI n) (hC : mi 84 3 = nI C) (hc : C < 6) {v0 : Int32} (hnn : nnB (byN (mi 87) n) n) (hb : (rfF (byN (mi 87) n) n v0).1 = false) : aCW X 43 171 [.ref 84] (HD, mi, ml, mr) (fun r h' => r = some (.int (-100 - nI (rfF (byN (mi 87) n) n v0).2)) ∧ ∃ m' w', h' = (HD, m', w', mr) ∧ frD (rtM mi C n) m') := by
  refine cw_of (cd := cd_X7_text) (nL := 2) rfl rfl ?_
  show aWP _ _ (0, [some (.ref 84), none], [], (HD, mi, ml, mr)) _
  refine wp_steps 1 (t' := (1, [some (.ref 84), none], [.ref 84], (HD, mi, ml, mr))) rfl ?_
  refine wp_geti rfl ⟨by decide, rfl⟩ (Or.inl rfl) ?_
  rw [hC]
  refine wp_steps 1 (t' := (3, [some (.ref 84), none], [.int 6, .int (nI C)], (HD, mi, ml, mr))) rfl ?_
  refine wp_bC rfl (fun c_1 => ?_) (fun c_1 => ?_)
  rotate_left
  · have c_1 : (nI C) = 6 := Decidable.not_not.mp (of_decide_eq_false c_1)
    have q := congrArg Int32.toInt c_1
    rw [nI_toInt (by omega), show (6 : Int32).toInt = 6 from rfl] at q
    omega
  have c_1 : ¬ (nI C) = 6 := of_decide_eq_true c_1
  refine wp_steps 2 (t' := (8, [some (.ref 84), some (.int 0)], [], (HD, mi, ml, mr))) rfl ?_
  suffices hh : aWP (aEx (aTb X) 42) cd_X7_text (8, [some (.ref 84), some (.int 0)], [], (HD, (acpy mi 87 85 0 (160 * C) 0), ml, mr)) _ by
    rw [cp_00] at hh
    exact hh
  refine l_rtxt (X := X) (mi := mi) (ml := ml) hM hn hz hC hc ?_ n 0 (by omega)
  refine wp_steps 1 (t' := (28, [some (.ref 84), some (.int (nI n))], [.ref 84], (HD, (acpy mi 87 85 0 (160 * C) n), ml, mr))) rfl ?_
  refine wp_getr rfl ⟨by decide, rfl⟩ rfl (hM (84, 2, 86) (by decide)) ?_
  refine wp_steps 1 (t' := (30, [some (.ref 84), some (.int (nI n))], [.ref 84, .ref 86], (HD, (acpy mi 87 85 0 (160 * C) n), ml, mr))) rfl ?_
  refine wp_geti rfl ⟨by decide, rfl⟩ (Or.inl rfl) ?_
  rw [acpy_ne (show (84 : Nat) ≠ 85 by decide), hC]
  refine wp_steps 1 (t' := (32, [some (.ref 84), some (.int (nI n))], [.ref 84, .int (nI C), .ref 86], (HD, (acpy mi 87 85 0 (160 * C) n), ml, mr))) rfl ?_
  refine wp_geti rfl ⟨by decide, rfl⟩ (Or.inl rfl) ?_
  rw [acpy_ne (show (84 : Nat) ≠ 85 by decide), hz]
  refine wp_iast rfl ⟨by decide, rfl⟩ (aix_nI (by omega) (by decide)) (fun m_21 h_22 => ?_)
  subst h_22
  rw [nI_clamp (n := C) (by omega)]
  refine wp_steps 2 (t' := (36, [some (.ref 84), some (.int (nI n))], [.int 0, .ref 84], (HD, (aup (acpy mi 87 85 0 (160 * C) n) 86 C (nI n)), ml, mr))) rfl ?_
  refine wp_puti rfl ⟨by decide, rfl⟩ rfl (fun m_23 h_24 => ?_)
  subst h_24
  show aWP _ _ (37, [some (.ref 84), some (.int (nI n))], [], (HD, (rtM mi C n), ml, mr)) _
  refine wp_steps 2 (t' := (39, [some (.ref 84), some (.int (nI n))], [.ref 84, .ref 84], (HD, (rtM mi C n), ml, mr))) rfl ?_
  refine wp_geti rfl ⟨by decide, rfl⟩ (Or.inl rfl) ?_
  rw [show rtM mi C n 84 3 = nI C from (rtM_84 (by decide)).trans hC]
  refine wp_steps 1 (t' := (41, [some (.ref 84), some (.int (nI n))], [.int 0, .int (nI C), .ref 84], (HD, (rtM mi C n), ml, mr))) rfl ?_
  refine wp_calv (as := [.int (nI C), .int 0]) rfl rfl rfl (Nat.le_of_ble_eq_true rfl) ⟨by decide, rfl⟩ ((r_read (mi := rtM mi C n) (ml := ml) hM hc hn rtM_sz (by rw [rtM_B]; exact hnn) v0 (nm := (fun j => mi 84 (13 + j))) (fun j hj => rtM_84 (by omega)) (wh := 0))) (by decide) ?_
  rintro _ _ ⟨v_1, m_1, w_1, rfl, rfl, f_1, g_1⟩
  show aWP _ _ (42, [some (.ref 84), some (.int (nI n))], [.int v_1], (HD, m_1, w_1, mr)) _
  rw [rtM_B] at g_1
  refine wp_steps 2 (t' := (44, [some (.ref 84), some (.int v_1)], [.ref 84], (HD, m_1, w_1, mr))) rfl ?_
  refine wp_geti rfl ⟨by decide, rfl⟩ (Or.inr rfl) ?_
  rw [(g_1.2 hb).1]
  refine wp_bI rfl (fun c_61 => ?_) (fun c_61 => ?_)
  · have c_61 : (1 : Int32) = 0 := of_decide_eq_true c_61
    exact absurd c_61 (by decide)
  have c_61 : ¬ ((1 : Int32) = 0) := of_decide_eq_false c_61
  refine wp_steps 2 (t' := (48, [some (.ref 84), some (.int v_1)], [.ref 84, .int (-100)], (HD, m_1, w_1, mr))) rfl ?_
  refine wp_geti rfl ⟨by decide, rfl⟩ (Or.inl rfl) ?_
  rw [(g_1.2 hb).2]
  refine wp_steps 1 (t' := (50, [some (.ref 84), some (.int v_1)], [.int ((-100) - (nI (rfF (byN (mi 87) n) n v0).2))], (HD, m_1, w_1, mr))) rfl ?_
  refine wp_ret rfl rfl ⟨⟨Nat.le_refl _, Nat.le_refl _⟩, ?_⟩
  exact ⟨rfl, m_1, w_1, rfl, f_1⟩
