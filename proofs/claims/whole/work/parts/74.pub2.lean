/-! feed, text, force, drive, night (written by wip/whole/mkpub2.py) -/
set_option maxRecDepth 20000 in
set_option maxHeartbeats 1000000 in
theorem c_feed {X : aXt × Value} {mi : Nat → Nat → Int32} {ml : Nat → Nat → Int64} {mr : Nat → Nat → Option Nat} (hM : MRok mr) {n : Nat} (hn : n ≤ 160) (hs : mi 2 0 = nI n) {x : Int32} : aCW X 2 73 [.ref 0, .int x] (HD, mi, ml, mr) (fun r h' => r = some (.int (if inR 0 255 x then (if n < 160 then nI (n + 1) else -4) else -2)) ∧ h' = (HD, if inR 0 255 x then (if n < 160 then aup (aup mi 3 n x) 2 0 (nI (n + 1)) else mi) else mi, ml, mr)) := by
  refine cw_of (cd := cd_X6_feed) (nL := 2) rfl rfl ?_
  show aWP _ _ (0, [some (.ref 0), some (.int x)], [], (HD, mi, ml, mr)) _
  refine wp_steps 1 (t' := (1, [some (.ref 0), some (.int x)], [.int x], (HD, mi, ml, mr))) rfl ?_
  refine wp_bI rfl (fun c_1 => ?_) (fun c_1 => ?_)
  · have c_1 : x < 0 := of_decide_eq_true c_1
    refine wp_steps 1 (t' := (6, [some (.ref 0), some (.int x)], [.int (-2)], (HD, mi, ml, mr))) rfl ?_
    refine wp_ret rfl rfl ⟨⟨Nat.le_refl _, Nat.le_refl _⟩, ?_⟩
    exact ⟨by rw [if_neg (show ¬ (inR 0 255 x) from fun z => (fun z => z.1 c_1) z)], by rw [if_neg (show ¬ (inR 0 255 x) from fun z => (fun z => z.1 c_1) z)]⟩
  · have c_1 : ¬ (x < 0) := of_decide_eq_false c_1
    refine wp_steps 2 (t' := (4, [some (.ref 0), some (.int x)], [.int 255, .int x], (HD, mi, ml, mr))) rfl ?_
    refine wp_bC rfl (fun c_2 => ?_) (fun c_2 => ?_)
    · have c_2 : x ≤ 255 := of_decide_eq_true c_2
      refine wp_steps 1 (t' := (8, [some (.ref 0), some (.int x)], [.ref 0], (HD, mi, ml, mr))) rfl ?_
      refine wp_getr rfl ⟨by decide, rfl⟩ rfl (hM (0, 2, 2) (by decide)) ?_
      refine wp_steps 1 (t' := (10, [some (.ref 0), some (.int x)], [.int x, .ref 2], (HD, mi, ml, mr))) rfl ?_
      refine wp_calv (as := [.int x]) rfl rfl rfl (Nat.le_of_ble_eq_true rfl) ⟨by decide, rfl⟩ ((c_take (mi := mi) (ml := ml) (x := x) hM hn hs)) (by decide) ?_
      rintro _ _ ⟨rfl, rfl⟩
      show aWP _ _ (11, [some (.ref 0), some (.int x)], [.int (if n < 160 then (1 : Int32) else 0)], (HD, (if n < 160 then aup (aup mi 3 n x) 2 0 (nI (n + 1)) else mi), ml, mr)) _
      refine wp_bI rfl (fun c_3 => ?_) (fun c_3 => ?_)
      · have c_3 : (if n < 160 then (1 : Int32) else 0) = 0 := of_decide_eq_true c_3
        refine wp_steps 1 (t' := (17, [some (.ref 0), some (.int x)], [.int (-4)], (HD, (if n < 160 then aup (aup mi 3 n x) 2 0 (nI (n + 1)) else mi), ml, mr))) rfl ?_
        refine wp_ret rfl rfl ⟨⟨Nat.le_refl _, Nat.le_refl _⟩, ?_⟩
        have q : ¬ n < 160 := fun z => absurd ((if_pos z).symm.trans c_3) (by decide)
        exact ⟨by rw [if_pos (show inR 0 255 x from ⟨c_1, (Int32.not_lt.mpr c_2)⟩), if_neg q], by rw [if_pos (show inR 0 255 x from ⟨c_1, (Int32.not_lt.mpr c_2)⟩)]⟩
      · have c_3 : ¬ ((if n < 160 then (1 : Int32) else 0) = 0) := of_decide_eq_false c_3
        refine wp_steps 1 (t' := (13, [some (.ref 0), some (.int x)], [.ref 0], (HD, (if n < 160 then aup (aup mi 3 n x) 2 0 (nI (n + 1)) else mi), ml, mr))) rfl ?_
        refine wp_getr rfl ⟨by decide, rfl⟩ rfl (hM (0, 2, 2) (by decide)) ?_
        refine wp_geti rfl ⟨by decide, rfl⟩ (Or.inl rfl) ?_
        refine wp_steps 1 (t' := (17, [some (.ref 0), some (.int x)], [.int ((if n < 160 then aup (aup mi 3 n x) 2 0 (nI (n + 1)) else mi) 2 0)], (HD, (if n < 160 then aup (aup mi 3 n x) 2 0 (nI (n + 1)) else mi), ml, mr))) rfl ?_
        refine wp_ret rfl rfl ⟨⟨Nat.le_refl _, Nat.le_refl _⟩, ?_⟩
        have q : n < 160 := Decidable.byContradiction fun z => c_3 (if_neg z)
        exact ⟨by rw [if_pos (show inR 0 255 x from ⟨c_1, (Int32.not_lt.mpr c_2)⟩), if_pos q, if_pos q]; rfl, by rw [if_pos (show inR 0 255 x from ⟨c_1, (Int32.not_lt.mpr c_2)⟩)]⟩
    · have c_2 : ¬ (x ≤ 255) := of_decide_eq_false c_2
      refine wp_steps 1 (t' := (6, [some (.ref 0), some (.int x)], [.int (-2)], (HD, mi, ml, mr))) rfl ?_
      refine wp_ret rfl rfl ⟨⟨Nat.le_refl _, Nat.le_refl _⟩, ?_⟩
      exact ⟨by rw [if_neg (show ¬ (inR 0 255 x) from fun z => (fun z => z.2 (Int32.not_le.mp c_2)) z)], by rw [if_neg (show ¬ (inR 0 255 x) from fun z => (fun z => z.2 (Int32.not_le.mp c_2)) z)]⟩
set_option maxRecDepth 20000 in
set_option maxHeartbeats 1000000 in
theorem c_text_full {X : aXt × Value} {mi : Nat → Nat → Int32} {ml : Nat → Nat → Int64} {mr : Nat → Nat → Option Nat} (hM : MRok mr) {C : Nat} (hC : mi 0 1 = nI C) (hc : C = 6) : aCW X 52 74 [.ref 0] (HD, mi, ml, mr) (fun r h' => r = some (.int (-4)) ∧ h' = (HD, mi, ml, mr)) := by
  refine cw_of (cd := cd_X6_text) (nL := 2) rfl rfl ?_
  show aWP _ _ (0, [some (.ref 0), none], [], (HD, mi, ml, mr)) _
  refine wp_steps 1 (t' := (1, [some (.ref 0), none], [.ref 0], (HD, mi, ml, mr))) rfl ?_
  refine wp_geti rfl ⟨by decide, rfl⟩ (Or.inl rfl) ?_
  rw [hC]
  refine wp_bI rfl (fun c_1 => ?_) (fun c_1 => ?_)
  · have c_1 : (nI C) < 0 := of_decide_eq_true c_1
    exact absurd c_1 (nI_pos (show C < 2 ^ 31 by omega))
  have c_1 : ¬ ((nI C) < 0) := of_decide_eq_false c_1
  refine wp_steps 1 (t' := (4, [some (.ref 0), none], [.ref 0], (HD, mi, ml, mr))) rfl ?_
  refine wp_geti rfl ⟨by decide, rfl⟩ (Or.inl rfl) ?_
  rw [hC]
  refine wp_steps 1 (t' := (6, [some (.ref 0), none], [.int 6, .int (nI C)], (HD, mi, ml, mr))) rfl ?_
  refine wp_bC rfl (fun c_2 => ?_) (fun c_2 => ?_)
  · have c_2 : (nI C) < 6 := of_decide_eq_true c_2
    exact absurd c_2 (nI_nlt (a := C) (b := 6) (by omega) (by omega))
  have c_2 : ¬ ((nI C) < 6) := of_decide_eq_false c_2
  refine wp_steps 1 (t' := (8, [some (.ref 0), none], [.int (-4)], (HD, mi, ml, mr))) rfl ?_
  refine wp_ret rfl rfl ⟨⟨Nat.le_refl _, Nat.le_refl _⟩, ?_⟩
  exact ⟨rfl, rfl⟩
theorem tAt_C {C : Nat} (hc : C < 6) : (1, C, 11 + 4 * C) ∈ MRL ∧ 11 + 4 * C ∈ TXS := tAt_ml C hc
theorem c_readInto_ok {X : aXt × Value} {mi : Nat → Nat → Int32} {ml : Nat → Nat → Int64} {mr : Nat → Nat → Option Nat} (hM : MRok mr) {n : Nat} (hn : n ≤ 160) (hs : mi 2 0 = nI n) (hX : outOK X) {ρ : Nat} (hρ : ρ ∈ TXS) (hb : (rfF (byN (mi 3) n) n (mi 2 6)).1 = true) : aCW X 51 14 [.ref 2, .ref ρ] (HD, mi, ml, mr) (fun r h' => r = some (.int (-1)) ∧ ∃ m', h' = (HD, m', ml, mr) ∧ rdK true ρ mi m' ∧ m' 2 0 = 0 ∧ rdT (byN (mi 3) n) n (mi 2 6) ρ m') := by
  obtain ⟨r, h', g, m', h1, h2, h3, h4, h5⟩ := c_readInto (X := X) (ml := ml) hM hn hs hX hρ
  rw [hb] at h2
  exact ⟨r, h', g, (h4 hb).1, m', h1, h2, h3, (h4 hb).2⟩
theorem c_readInto_no {X : aXt × Value} {mi : Nat → Nat → Int32} {ml : Nat → Nat → Int64} {mr : Nat → Nat → Option Nat} (hM : MRok mr) {n : Nat} (hn : n ≤ 160) (hs : mi 2 0 = nI n) (hX : outOK X) {ρ : Nat} (hρ : ρ ∈ TXS) (hb : (rfF (byN (mi 3) n) n (mi 2 6)).1 = false) : aCW X 51 14 [.ref 2, .ref ρ] (HD, mi, ml, mr) (fun r h' => r = some (.int (nI (rfF (byN (mi 3) n) n (mi 2 6)).2)) ∧ (rfF (byN (mi 3) n) n (mi 2 6)).2 ≤ 161 ∧ ∃ m', h' = (HD, m', ml, mr) ∧ rdK false ρ mi m' ∧ m' 2 0 = 0) := by
  obtain ⟨r, h', g, m', h1, h2, h3, h4, h5⟩ := c_readInto (X := X) (ml := ml) hM hn hs hX hρ
  rw [hb] at h2
  exact ⟨r, h', g, (h5 hb).1, (h5 hb).2, m', h1, h2, h3⟩
set_option maxRecDepth 20000 in
set_option maxHeartbeats 1000000 in
theorem c_text_ok {X : aXt × Value} {mi : Nat → Nat → Int32} {ml : Nat → Nat → Int64} {mr : Nat → Nat → Option Nat} (hM : MRok mr) {n : Nat} (hn : n ≤ 160) (hs : mi 2 0 = nI n) (hX : outOK X) {C : Nat} (hC : mi 0 1 = nI C) (hc : C < 6) (hb : (rfF (byN (mi 3) n) n (mi 2 6)).1 = true) : aCW X 52 74 [.ref 0] (HD, mi, ml, mr) (fun r h' => r = some (.int (nI C)) ∧ ∃ m', h' = (HD, aup m' 0 1 (nI (C + 1)), ml, mr) ∧ rdK true (11 + 4 * C) mi m' ∧ m' 2 0 = 0 ∧ rdT (byN (mi 3) n) n (mi 2 6) (11 + 4 * C) m') := by
  refine cw_of (cd := cd_X6_text) (nL := 2) rfl rfl ?_
  show aWP _ _ (0, [some (.ref 0), none], [], (HD, mi, ml, mr)) _
  refine wp_steps 1 (t' := (1, [some (.ref 0), none], [.ref 0], (HD, mi, ml, mr))) rfl ?_
  refine wp_geti rfl ⟨by decide, rfl⟩ (Or.inl rfl) ?_
  rw [hC]
  refine wp_bI rfl (fun c_1 => ?_) (fun c_1 => ?_)
  · have c_1 : (nI C) < 0 := of_decide_eq_true c_1
    exact absurd c_1 (nI_pos (show C < 2 ^ 31 by omega))
  have c_1 : ¬ ((nI C) < 0) := of_decide_eq_false c_1
  refine wp_steps 1 (t' := (4, [some (.ref 0), none], [.ref 0], (HD, mi, ml, mr))) rfl ?_
  refine wp_geti rfl ⟨by decide, rfl⟩ (Or.inl rfl) ?_
  rw [hC]
  refine wp_steps 1 (t' := (6, [some (.ref 0), none], [.int 6, .int (nI C)], (HD, mi, ml, mr))) rfl ?_
  refine wp_bC rfl (fun c_2 => ?_) (fun c_2 => ?_)
  rotate_left
  · have c_2 : ¬ ((nI C) < 6) := of_decide_eq_false c_2
    exact absurd (nI_lt (a := C) (b := 6) hc (by decide)) c_2
  have c_2 : (nI C) < 6 := of_decide_eq_true c_2
  refine wp_steps 1 (t' := (10, [some (.ref 0), none], [.ref 0], (HD, mi, ml, mr))) rfl ?_
  refine wp_getr rfl ⟨by decide, rfl⟩ rfl (hM (0, 2, 2) (by decide)) ?_
  refine wp_steps 1 (t' := (12, [some (.ref 0), none], [.ref 0, .ref 2], (HD, mi, ml, mr))) rfl ?_
  refine wp_getr rfl ⟨by decide, rfl⟩ rfl (hM (0, 0, 1) (by decide)) ?_
  refine wp_steps 1 (t' := (14, [some (.ref 0), none], [.ref 0, .ref 1, .ref 2], (HD, mi, ml, mr))) rfl ?_
  refine wp_geti rfl ⟨by decide, rfl⟩ (Or.inl rfl) ?_
  rw [hC]
  refine wp_aald rfl ⟨by decide, rfl⟩ (by decide) (aix_nI hc (by decide)) (by rw [nI_clamp (show C < 2 ^ 31 by omega)]; exact hM _ (tAt_C hc).1) ?_
  refine wp_calv (as := [.ref (11 + 4 * C)]) rfl rfl rfl (Nat.le_of_ble_eq_true rfl) ⟨by decide, rfl⟩ ((c_readInto_ok (ml := ml) hM hn hs hX (tAt_C hc).2 hb)) (by decide) ?_
  rintro _ _ ⟨rfl, m_1, rfl, k1, z1, t1⟩
  show aWP _ _ (17, [some (.ref 0), none], [.int (-1)], (HD, m_1, ml, mr)) _
  refine wp_steps 3 (t' := (20, [some (.ref 0), some (.int (-1))], [.int (-1), .int (-1)], (HD, m_1, ml, mr))) rfl ?_
  refine wp_bC rfl (fun c_3 => ?_) (fun c_3 => ?_)
  rotate_left
  · have c_3 : ¬ ((-1 : Int32) = (-1)) := of_decide_eq_false c_3
    exact absurd c_3 (by decide)
  have c_3 : (-1 : Int32) = (-1) := of_decide_eq_true c_3
  refine wp_steps 2 (t' := (27, [some (.ref 0), some (.int (-1))], [.ref 0, .ref 0], (HD, m_1, ml, mr))) rfl ?_
  refine wp_geti rfl ⟨by decide, rfl⟩ (Or.inl rfl) ?_
  rw [show m_1 0 1 = nI C from (k1 0 1 (by decide) (by decide) (by decide) (by decide) (fun _ => ⟨fun z => by omega, by omega, by omega⟩)).trans hC]
  refine wp_steps 2 (t' := (30, [some (.ref 0), some (.int (-1))], [.int ((nI C) + 1), .ref 0], (HD, m_1, ml, mr))) rfl ?_
  rw [nI_1]
  refine wp_puti rfl ⟨by decide, rfl⟩ rfl (fun m_4 h_5 => ?_)
  subst h_5
  refine wp_steps 1 (t' := (32, [some (.ref 0), some (.int (-1))], [.ref 0], (HD, (aup m_1 0 1 (nI (C + 1))), ml, mr))) rfl ?_
  refine wp_geti rfl ⟨by decide, rfl⟩ (Or.inl rfl) ?_
  rw [show (aup m_1 0 1 (nI (C + 1))) 0 1 = nI (C + 1) from rfl]
  refine wp_steps 2 (t' := (35, [some (.ref 0), some (.int (-1))], [.int ((nI (C + 1)) - 1)], (HD, (aup m_1 0 1 (nI (C + 1))), ml, mr))) rfl ?_
  rw [show nI (C + 1) - 1 = nI C from nI_pred C]
  refine wp_ret rfl rfl ⟨⟨Nat.le_refl _, Nat.le_refl _⟩, ?_⟩
  exact ⟨rfl, m_1, rfl, k1, z1, t1⟩
set_option maxRecDepth 20000 in
set_option maxHeartbeats 1000000 in
theorem c_text_no {X : aXt × Value} {mi : Nat → Nat → Int32} {ml : Nat → Nat → Int64} {mr : Nat → Nat → Option Nat} (hM : MRok mr) {n : Nat} (hn : n ≤ 160) (hs : mi 2 0 = nI n) (hX : outOK X) {C : Nat} (hC : mi 0 1 = nI C) (hc : C < 6) (hb : (rfF (byN (mi 3) n) n (mi 2 6)).1 = false) : aCW X 52 74 [.ref 0] (HD, mi, ml, mr) (fun r h' => r = some (.int (-100 - nI (rfF (byN (mi 3) n) n (mi 2 6)).2)) ∧ ∃ m', h' = (HD, m', ml, mr) ∧ rdK false (11 + 4 * C) mi m' ∧ m' 2 0 = 0) := by
  refine cw_of (cd := cd_X6_text) (nL := 2) rfl rfl ?_
  show aWP _ _ (0, [some (.ref 0), none], [], (HD, mi, ml, mr)) _
  refine wp_steps 1 (t' := (1, [some (.ref 0), none], [.ref 0], (HD, mi, ml, mr))) rfl ?_
  refine wp_geti rfl ⟨by decide, rfl⟩ (Or.inl rfl) ?_
  rw [hC]
  refine wp_bI rfl (fun c_1 => ?_) (fun c_1 => ?_)
  · have c_1 : (nI C) < 0 := of_decide_eq_true c_1
    exact absurd c_1 (nI_pos (show C < 2 ^ 31 by omega))
  have c_1 : ¬ ((nI C) < 0) := of_decide_eq_false c_1
  refine wp_steps 1 (t' := (4, [some (.ref 0), none], [.ref 0], (HD, mi, ml, mr))) rfl ?_
  refine wp_geti rfl ⟨by decide, rfl⟩ (Or.inl rfl) ?_
  rw [hC]
  refine wp_steps 1 (t' := (6, [some (.ref 0), none], [.int 6, .int (nI C)], (HD, mi, ml, mr))) rfl ?_
  refine wp_bC rfl (fun c_2 => ?_) (fun c_2 => ?_)
  rotate_left
  · have c_2 : ¬ ((nI C) < 6) := of_decide_eq_false c_2
    exact absurd (nI_lt (a := C) (b := 6) hc (by decide)) c_2
  have c_2 : (nI C) < 6 := of_decide_eq_true c_2
  refine wp_steps 1 (t' := (10, [some (.ref 0), none], [.ref 0], (HD, mi, ml, mr))) rfl ?_
  refine wp_getr rfl ⟨by decide, rfl⟩ rfl (hM (0, 2, 2) (by decide)) ?_
  refine wp_steps 1 (t' := (12, [some (.ref 0), none], [.ref 0, .ref 2], (HD, mi, ml, mr))) rfl ?_
  refine wp_getr rfl ⟨by decide, rfl⟩ rfl (hM (0, 0, 1) (by decide)) ?_
  refine wp_steps 1 (t' := (14, [some (.ref 0), none], [.ref 0, .ref 1, .ref 2], (HD, mi, ml, mr))) rfl ?_
  refine wp_geti rfl ⟨by decide, rfl⟩ (Or.inl rfl) ?_
  rw [hC]
  refine wp_aald rfl ⟨by decide, rfl⟩ (by decide) (aix_nI hc (by decide)) (by rw [nI_clamp (show C < 2 ^ 31 by omega)]; exact hM _ (tAt_C hc).1) ?_
  refine wp_calv (as := [.ref (11 + 4 * C)]) rfl rfl rfl (Nat.le_of_ble_eq_true rfl) ⟨by decide, rfl⟩ ((c_readInto_no (ml := ml) hM hn hs hX (tAt_C hc).2 hb)) (by decide) ?_
  rintro _ _ ⟨rfl, l1, m_1, rfl, k1, z1⟩
  show aWP _ _ (17, [some (.ref 0), none], [.int (nI (rfF (byN (mi 3) n) n (mi 2 6)).2)], (HD, m_1, ml, mr)) _
  refine wp_steps 3 (t' := (20, [some (.ref 0), some (.int (nI (rfF (byN (mi 3) n) n (mi 2 6)).2))], [.int (-1), .int (nI (rfF (byN (mi 3) n) n (mi 2 6)).2)], (HD, m_1, ml, mr))) rfl ?_
  refine wp_bC rfl (fun c_3 => ?_) (fun c_3 => ?_)
  · have c_3 : (nI (rfF (byN (mi 3) n) n (mi 2 6)).2) = (-1) := of_decide_eq_true c_3
    exact absurd (show (0 : Int32) ≤ -1 from c_3 ▸ nI_pos' (Nat.lt_of_le_of_lt l1 (by decide))) (by decide)
  have c_3 : ¬ ((nI (rfF (byN (mi 3) n) n (mi 2 6)).2) = (-1)) := of_decide_eq_false c_3
  refine wp_steps 3 (t' := (24, [some (.ref 0), some (.int (nI (rfF (byN (mi 3) n) n (mi 2 6)).2))], [.int ((-100) - (nI (rfF (byN (mi 3) n) n (mi 2 6)).2))], (HD, m_1, ml, mr))) rfl ?_
  refine wp_ret rfl rfl ⟨⟨Nat.le_refl _, Nat.le_refl _⟩, ?_⟩
  exact ⟨rfl, m_1, rfl, k1, z1⟩
set_option maxRecDepth 20000 in
set_option maxHeartbeats 1000000 in
theorem c_force_no {X : aXt × Value} {mi : Nat → Nat → Int32} {ml : Nat → Nat → Int64} {mr : Nat → Nat → Option Nat} (hM : MRok mr) {C : Nat} (hC : mi 0 1 = nI C) (hC6 : C ≤ 6) {ρ : Nat} (hρ : ρ ∈ TXS) (hr : mr 63 2 = some ρ) {x : Int32} (hg : ¬ aixn x C = true) : aCW X 2 75 [.ref 0, .int x] (HD, mi, ml, mr) (fun r h' => r = some (.int (-2)) ∧ h' = (HD, mi, ml, mr)) := by
  refine cw_of (cd := cd_X6_force) (nL := 4) rfl rfl ?_
  show aWP _ _ (0, [some (.ref 0), some (.int x), none, none], [], (HD, mi, ml, mr)) _
  refine wp_steps 2 (t' := (2, [some (.ref 0), some (.int x), none, none], [.int x, .ref 0], (HD, mi, ml, mr))) rfl ?_
  refine wp_calv (as := [.int x]) rfl rfl rfl (Nat.le_of_ble_eq_true rfl) ⟨by decide, rfl⟩ ((c_textAt_no hM hC hC6 hg)) (by decide) ?_
  rintro _ _ ⟨rfl, rfl⟩
  show aWP _ _ (3, [some (.ref 0), some (.int x), none, none], [.null], (HD, mi, ml, mr)) _
  refine wp_steps 2 (t' := (5, [some (.ref 0), some (.int x), some (.null), none], [.null], (HD, mi, ml, mr))) rfl ?_
  refine wp_step (t' := (6, [some (.ref 0), some (.int x), some (.null), none], [], (HD, mi, ml, mr))) rfl rfl ?_
  refine wp_steps 1 (t' := (7, [some (.ref 0), some (.int x), some (.null), none], [.int (-2)], (HD, mi, ml, mr))) rfl ?_
  refine wp_ret rfl rfl ⟨⟨Nat.le_refl _, Nat.le_refl _⟩, ?_⟩
  exact ⟨rfl, rfl⟩
set_option maxRecDepth 20000 in
set_option maxHeartbeats 1000000 in
theorem c_force_ok {X : aXt × Value} {mi : Nat → Nat → Int32} {ml : Nat → Nat → Int64} {mr : Nat → Nat → Option Nat} (hM : MRok mr) {C : Nat} (hC : mi 0 1 = nI C) (hC6 : C ≤ 6) {ρ : Nat} (hρ : ρ ∈ TXS) (hr : mr 63 2 = some ρ) {x : Int32} (hg : aixn x C = true) : aCW X 2 75 [.ref 0, .int x] (HD, mi, ml, mr) (fun r h' => r = some (.int (mi ρ 0)) ∧ h' = (HD, mi, ml, aup mr 63 2 (some (tAt x)))) := by
  refine cw_of (cd := cd_X6_force) (nL := 4) rfl rfl ?_
  show aWP _ _ (0, [some (.ref 0), some (.int x), none, none], [], (HD, mi, ml, mr)) _
  refine wp_steps 2 (t' := (2, [some (.ref 0), some (.int x), none, none], [.int x, .ref 0], (HD, mi, ml, mr))) rfl ?_
  refine wp_calv (as := [.int x]) rfl rfl rfl (Nat.le_of_ble_eq_true rfl) ⟨by decide, rfl⟩ ((c_textAt_ok (ml := ml) hM hC hC6 hg)) (by decide) ?_
  rintro _ _ ⟨rfl, rfl⟩
  show aWP _ _ (3, [some (.ref 0), some (.int x), none, none], [.ref (tAt x)], (HD, mi, ml, mr)) _
  refine wp_steps 2 (t' := (5, [some (.ref 0), some (.int x), some (.ref (tAt x)), none], [.ref (tAt x)], (HD, mi, ml, mr))) rfl ?_
  refine wp_step (t' := (8, [some (.ref 0), some (.int x), some (.ref (tAt x)), none], [], (HD, mi, ml, mr))) rfl rfl ?_
  refine wp_steps 1 (t' := (9, [some (.ref 0), some (.int x), some (.ref (tAt x)), none], [.ref 0], (HD, mi, ml, mr))) rfl ?_
  refine wp_getr rfl ⟨by decide, rfl⟩ rfl (hM (0, 3, 63) (by decide)) ?_
  refine wp_getr rfl ⟨by decide, rfl⟩ rfl hr ?_
  refine wp_geti rfl (shX hρ) (Or.inl rfl) ?_
  refine wp_steps 2 (t' := (14, [some (.ref 0), some (.int x), some (.ref (tAt x)), some (.int (mi (ρ) 0))], [.ref 0], (HD, mi, ml, mr))) rfl ?_
  refine wp_getr rfl ⟨by decide, rfl⟩ rfl (hM (0, 3, 63) (by decide)) ?_
  refine wp_steps 1 (t' := (16, [some (.ref 0), some (.int x), some (.ref (tAt x)), some (.int (mi (ρ) 0))], [.ref (tAt x), .ref 63], (HD, mi, ml, mr))) rfl ?_
  refine wp_putr rfl ⟨by decide, rfl⟩ rfl (fun m_1 h_2 => ?_)
  subst h_2
  refine wp_steps 1 (t' := (18, [some (.ref 0), some (.int x), some (.ref (tAt x)), some (.int (mi (ρ) 0))], [.int (mi (ρ) 0)], (HD, mi, ml, (aup mr 63 2 (some (tAt x)))))) rfl ?_
  refine wp_ret rfl rfl ⟨⟨Nat.le_refl _, Nat.le_refl _⟩, ?_⟩
  exact ⟨rfl, rfl⟩
set_option maxRecDepth 20000 in
set_option maxHeartbeats 1000000 in
theorem c_drive_no {X : aXt × Value} {mi : Nat → Nat → Int32} {ml : Nat → Nat → Int64} {mr : Nat → Nat → Option Nat} (hM : MRok mr) {N : Nat} (hN : mi 0 5 = nI N) (hN5 : N ≤ 5) {one s hp : Int32} (hg : ¬ aixn one N = true) : aCW X 6 76 [.ref 0, .int one, .int s, .int hp] (HD, mi, ml, mr) (fun r h' => r = some (.int (-2)) ∧ h' = (HD, mi, ml, mr)) := by
  refine cw_of (cd := cd_X6_drive) (nL := 5) rfl rfl ?_
  show aWP _ _ (0, [some (.ref 0), some (.int one), some (.int s), some (.int hp), none], [], (HD, mi, ml, mr)) _
  refine wp_steps 2 (t' := (2, [some (.ref 0), some (.int one), some (.int s), some (.int hp), none], [.int one, .ref 0], (HD, mi, ml, mr))) rfl ?_
  refine wp_calv (as := [.int one]) rfl rfl rfl (Nat.le_of_ble_eq_true rfl) ⟨by decide, rfl⟩ ((c_pupilAt_no hM hN hN5 hg)) (by decide) ?_
  rintro _ _ ⟨rfl, rfl⟩
  show aWP _ _ (3, [some (.ref 0), some (.int one), some (.int s), some (.int hp), none], [.null], (HD, mi, ml, mr)) _
  refine wp_steps 2 (t' := (5, [some (.ref 0), some (.int one), some (.int s), some (.int hp), some (.null)], [.null], (HD, mi, ml, mr))) rfl ?_
  refine wp_step (t' := (12, [some (.ref 0), some (.int one), some (.int s), some (.int hp), some (.null)], [], (HD, mi, ml, mr))) rfl rfl ?_
  refine wp_steps 1 (t' := (13, [some (.ref 0), some (.int one), some (.int s), some (.int hp), some (.null)], [.int (-2)], (HD, mi, ml, mr))) rfl ?_
  refine wp_ret rfl rfl ⟨⟨Nat.le_refl _, Nat.le_refl _⟩, ?_⟩
  exact ⟨rfl, rfl⟩
set_option maxRecDepth 20000 in
set_option maxHeartbeats 1000000 in
theorem c_drive_ok {X : aXt × Value} {mi : Nat → Nat → Int32} {ml : Nat → Nat → Int64} {mr : Nat → Nat → Option Nat} (hM : MRok mr) {N : Nat} (hN : mi 0 5 = nI N) (hN5 : N ≤ 5) {ρ : Nat} {c0 c1 c2 : List Int32} (hρ : ρ ∈ TXS) (hr : mr 63 2 = some ρ) (hx : TXok mi ρ c0 c1 c2) {one s hp : Int32} (hg : aixn one N = true) : aCW X 6 76 [.ref 0, .int one, .int s, .int hp] (HD, mi, ml, mr) (fun r h' => ∃ m', h' = (HD, m', ml, mr) ∧ (aixn s 8 = true ∧ aixn hp 3 = true → r = some (.int ((hrG (twC mi 63 c0 c1 c2) (puC mi (pAt one)) s.toNatClampNeg hp).2.2.2.2 s.toNatClampNeg)) ∧ frm [pAt one, pAt one + 1, 63 + 2, ρ + 3] mi m' ∧ puC m' (pAt one) = (hrG (twC mi 63 c0 c1 c2) (puC mi (pAt one)) s.toNatClampNeg hp)) ∧ (¬ (aixn s 8 = true ∧ aixn hp 3 = true) → r = some (.int (-2)) ∧ m' = mi)) := by
  have hP := pAt_mem hg hN5
  refine cw_of (cd := cd_X6_drive) (nL := 5) rfl rfl ?_
  show aWP _ _ (0, [some (.ref 0), some (.int one), some (.int s), some (.int hp), none], [], (HD, mi, ml, mr)) _
  refine wp_steps 2 (t' := (2, [some (.ref 0), some (.int one), some (.int s), some (.int hp), none], [.int one, .ref 0], (HD, mi, ml, mr))) rfl ?_
  refine wp_calv (as := [.int one]) rfl rfl rfl (Nat.le_of_ble_eq_true rfl) ⟨by decide, rfl⟩ ((c_pupilAt_ok (ml := ml) hM hN hN5 hg)) (by decide) ?_
  rintro _ _ ⟨rfl, rfl⟩
  show aWP _ _ (3, [some (.ref 0), some (.int one), some (.int s), some (.int hp), none], [.ref (pAt one)], (HD, mi, ml, mr)) _
  refine wp_steps 2 (t' := (5, [some (.ref 0), some (.int one), some (.int s), some (.int hp), some (.ref (pAt one))], [.ref (pAt one)], (HD, mi, ml, mr))) rfl ?_
  refine wp_step (t' := (6, [some (.ref 0), some (.int one), some (.int s), some (.int hp), some (.ref (pAt one))], [], (HD, mi, ml, mr))) rfl rfl ?_
  refine wp_steps 1 (t' := (7, [some (.ref 0), some (.int one), some (.int s), some (.int hp), some (.ref (pAt one))], [.int s], (HD, mi, ml, mr))) rfl ?_
  refine wp_cal (as := [.int s]) rfl rfl rfl (Nat.le_of_ble_eq_true rfl) (c_isStreet) (by decide) ?_
  rintro _ _ ⟨rfl, rfl⟩
  show aWP _ _ (8, [some (.ref 0), some (.int one), some (.int s), some (.int hp), some (.ref (pAt one))], [.int (if aixn s 8 = true then (1 : Int32) else 0)], (HD, mi, ml, mr)) _
  refine wp_bI rfl (fun c_1 => ?_) (fun c_1 => ?_)
  · have c_1 : (if aixn s 8 = true then (1 : Int32) else 0) = 0 := of_decide_eq_true c_1
    refine wp_steps 1 (t' := (13, [some (.ref 0), some (.int one), some (.int s), some (.int hp), some (.ref (pAt one))], [.int (-2)], (HD, mi, ml, mr))) rfl ?_
    refine wp_ret rfl rfl ⟨⟨Nat.le_refl _, Nat.le_refl _⟩, ?_⟩
    exact ⟨mi, rfl, fun z => absurd z (show ¬ (aixn s 8 = true ∧ aixn hp 3 = true) from fun z => (fun z => absurd (z.symm.trans (ite_nix c_1)) Bool.noConfusion) z.1), fun _ => ⟨rfl, rfl⟩⟩
  · have c_1 : ¬ ((if aixn s 8 = true then (1 : Int32) else 0) = 0) := of_decide_eq_false c_1
    refine wp_steps 1 (t' := (10, [some (.ref 0), some (.int one), some (.int s), some (.int hp), some (.ref (pAt one))], [.int hp], (HD, mi, ml, mr))) rfl ?_
    refine wp_cal (as := [.int hp]) rfl rfl rfl (Nat.le_of_ble_eq_true rfl) (c_isHelp) (by decide) ?_
    rintro _ _ ⟨rfl, rfl⟩
    show aWP _ _ (11, [some (.ref 0), some (.int one), some (.int s), some (.int hp), some (.ref (pAt one))], [.int (if aixn hp 3 = true then (1 : Int32) else 0)], (HD, mi, ml, mr)) _
    refine wp_bI rfl (fun c_2 => ?_) (fun c_2 => ?_)
    · have c_2 : ¬ (if aixn hp 3 = true then (1 : Int32) else 0) = 0 := of_decide_eq_true c_2
      refine wp_steps 1 (t' := (15, [some (.ref 0), some (.int one), some (.int s), some (.int hp), some (.ref (pAt one))], [.ref 0], (HD, mi, ml, mr))) rfl ?_
      refine wp_getr rfl ⟨by decide, rfl⟩ rfl (hM (0, 3, 63) (by decide)) ?_
      refine wp_steps 3 (t' := (19, [some (.ref 0), some (.int one), some (.int s), some (.int hp), some (.ref (pAt one))], [.int hp, .int s, .ref (pAt one), .ref 63], (HD, mi, ml, mr))) rfl ?_
      refine wp_calv (as := [.ref (pAt one), .int s, .int hp]) rfl rfl rfl (Nat.le_of_ble_eq_true rfl) ⟨by decide, rfl⟩ ((g_hour (ml := ml) (hp := hp) hM (T := 63) (by decide) (p5_U hP).2.2.1 hρ hr hx (ite_aix c_1))) (by decide) ?_
      rintro _ _ ⟨m_1, f1, u1, rfl, rfl⟩
      show aWP _ _ (20, [some (.ref 0), some (.int one), some (.int s), some (.int hp), some (.ref (pAt one))], [], (HD, m_1, ml, mr)) _
      refine wp_steps 1 (t' := (21, [some (.ref 0), some (.int one), some (.int s), some (.int hp), some (.ref (pAt one))], [.ref (pAt one)], (HD, m_1, ml, mr))) rfl ?_
      refine wp_getr rfl (shP (p5_U hP).2.2.1) rfl (hM _ (mlP (p5_U hP).2.2.1)) ?_
      refine wp_steps 1 (t' := (23, [some (.ref 0), some (.int one), some (.int s), some (.int hp), some (.ref (pAt one))], [.int s, .ref (pAt one + 1)], (HD, m_1, ml, mr))) rfl ?_
      refine wp_iald rfl (shPs (p5_U hP).2.2.1) (ite_aix c_1) ?_
      refine wp_ret rfl rfl ⟨⟨Nat.le_refl _, Nat.le_refl _⟩, ?_⟩
      have q : m_1 (pAt one + 1) s.toNatClampNeg = (hrG (twC mi 63 c0 c1 c2) (puC mi (pAt one)) s.toNatClampNeg hp).2.2.2.2 s.toNatClampNeg := by rw [← u1]; exact (c8_lt (aix_out (ite_aix c_1)).2).symm
      rw [q]
      exact ⟨m_1, rfl, fun _ => ⟨rfl, f1, u1⟩, fun z => absurd (show aixn s 8 = true ∧ aixn hp 3 = true from ⟨(ite_aix c_1), (ite_aix c_2)⟩) z⟩
    · have c_2 : (if aixn hp 3 = true then (1 : Int32) else 0) = 0 := Decidable.not_not.mp (of_decide_eq_false c_2)
      refine wp_steps 1 (t' := (13, [some (.ref 0), some (.int one), some (.int s), some (.int hp), some (.ref (pAt one))], [.int (-2)], (HD, mi, ml, mr))) rfl ?_
      refine wp_ret rfl rfl ⟨⟨Nat.le_refl _, Nat.le_refl _⟩, ?_⟩
      exact ⟨mi, rfl, fun z => absurd z (show ¬ (aixn s 8 = true ∧ aixn hp 3 = true) from fun z => (fun z => absurd (z.symm.trans (ite_nix c_2)) Bool.noConfusion) z.2), fun _ => ⟨rfl, rfl⟩⟩
/-- how many of the first n are ready -/
def ryN (f : Nat → Nat) : Nat → Nat
  | 0 => 0
  | n + 1 => if f n = 8 then ryN f n + 1 else ryN f n
theorem p5_S {ρ : Nat} (h : ρ ∈ TXS) : ∀ k, k < 5 → 35 + 4 * k ∉ [63 + 2, ρ + 3] ∧ 35 + 4 * k + 1 ∉ [63 + 2, ρ + 3] := by
  revert ρ
  decide
theorem pc_S {ρ : Nat} (h : ρ ∈ TXS) : ρ + 1 ∉ [63 + 2, ρ + 3] ∧ ρ + 2 ∉ [63 + 2, ρ + 3] ∧ 63 ∉ [63 + 2, ρ + 3] ∧ 63 + 1 ∉ [63 + 2, ρ + 3] ∧ 0 ∉ [63 + 2, ρ + 3] := by
  revert ρ
  decide
set_option maxRecDepth 20000 in
set_option maxHeartbeats 1000000 in
theorem l_ready {X : aXt × Value} {mi : Nat → Nat → Int32} {ml : Nat → Nat → Int64} {mr : Nat → Nat → Option Nat} (hM : MRok mr) {N : Nat} (hN : mi 0 5 = nI N) (hN5 : N ≤ 5) {ρ : Nat} {c0 c1 c2 : List Int32} (hρ : ρ ∈ TXS) (hr : mr 63 2 = some ρ) (hx : TXok mi ρ c0 c1 c2) : ∀ (g k : Nat) (m : Nat → Nat → Int32), k + g = N → frm [63 + 2, ρ + 3] mi m → aWP (aEx (aTb X) 5) cd_X6_readyPupils (4, [some (.ref 0), some (.int (nI (ryN (fun p => mnG (twC mi 63 c0 c1 c2) (puC mi (35 + 4 * p))) k))), some (.int (nI k))], [], (HD, m, ml, mr)) (fun r h' => (HD.1 ≤ h'.1.1 ∧ HD.2.1 ≤ h'.1.2.1) ∧ r = some (.int (nI (ryN (fun p => mnG (twC mi 63 c0 c1 c2) (puC mi (35 + 4 * p))) N))) ∧ ∃ m', h' = (HD, m', ml, mr) ∧ frm [63 + 2, ρ + 3] mi m') := by
  intro g
  induction g with
  | zero =>
    intro k m hg h
    have e : k = N := by omega
    subst e
    refine wp_steps 2 (t' := (6, [some (.ref 0), some (.int (nI (ryN (fun p => mnG (twC mi 63 c0 c1 c2) (puC mi (35 + 4 * p))) k))), some (.int (nI k))], [.ref 0, .int (nI k)], (HD, m, ml, mr))) rfl ?_
    refine wp_geti rfl ⟨by decide, rfl⟩ (Or.inl rfl) ?_
    rw [show m 0 5 = nI k from (h 0 5 (pc_S hρ).2.2.2.2).trans hN]
    refine wp_bC rfl (fun c_1 => ?_) (fun c_1 => ?_)
    rotate_left
    · have c_1 : ¬ ((nI k) ≤ (nI k)) := of_decide_eq_false c_1
      exact absurd (Int32.le_refl _) c_1
    have c_1 : (nI k) ≤ (nI k) := of_decide_eq_true c_1
    refine wp_steps 1 (t' := (23, [some (.ref 0), some (.int (nI (ryN (fun p => mnG (twC mi 63 c0 c1 c2) (puC mi (35 + 4 * p))) k))), some (.int (nI k))], [.int (nI (ryN (fun p => mnG (twC mi 63 c0 c1 c2) (puC mi (35 + 4 * p))) k))], (HD, m, ml, mr))) rfl ?_
    refine wp_ret rfl rfl ⟨⟨Nat.le_refl _, Nat.le_refl _⟩, ?_⟩
    exact ⟨rfl, m, rfl, h⟩
  | succ g ih =>
    intro k m hg h
    have h5 : k < 5 := by omega
    refine wp_steps 2 (t' := (6, [some (.ref 0), some (.int (nI (ryN (fun p => mnG (twC mi 63 c0 c1 c2) (puC mi (35 + 4 * p))) k))), some (.int (nI k))], [.ref 0, .int (nI k)], (HD, m, ml, mr))) rfl ?_
    refine wp_geti rfl ⟨by decide, rfl⟩ (Or.inl rfl) ?_
    rw [show m 0 5 = nI N from (h 0 5 (pc_S hρ).2.2.2.2).trans hN]
    refine wp_bC rfl (fun c_1 => ?_) (fun c_1 => ?_)
    · have c_1 : (nI N) ≤ (nI k) := of_decide_eq_true c_1
      exact absurd c_1 (nI_ge (a := k) (b := N) (by omega) (by omega))
    have c_1 : ¬ ((nI N) ≤ (nI k)) := of_decide_eq_false c_1
    refine wp_steps 2 (t' := (10, [some (.ref 0), some (.int (nI (ryN (fun p => mnG (twC mi 63 c0 c1 c2) (puC mi (35 + 4 * p))) k))), some (.int (nI k))], [.int 5, .int (nI k)], (HD, m, ml, mr))) rfl ?_
    refine wp_bC rfl (fun c_2 => ?_) (fun c_2 => ?_)
    · have c_2 : 5 ≤ (nI k) := of_decide_eq_true c_2
      exact absurd c_2 (nI_ge (a := k) (b := 5) h5 (by decide))
    have c_2 : ¬ (5 ≤ (nI k)) := of_decide_eq_false c_2
    refine wp_steps 1 (t' := (12, [some (.ref 0), some (.int (nI (ryN (fun p => mnG (twC mi 63 c0 c1 c2) (puC mi (35 + 4 * p))) k))), some (.int (nI k))], [.ref 0], (HD, m, ml, mr))) rfl ?_
    refine wp_getr rfl ⟨by decide, rfl⟩ rfl (hM (0, 3, 63) (by decide)) ?_
    refine wp_steps 1 (t' := (14, [some (.ref 0), some (.int (nI (ryN (fun p => mnG (twC mi 63 c0 c1 c2) (puC mi (35 + 4 * p))) k))), some (.int (nI k))], [.ref 0, .ref 63], (HD, m, ml, mr))) rfl ?_
    refine wp_getr rfl ⟨by decide, rfl⟩ rfl (hM (0, 4, 8) (by decide)) ?_
    refine wp_steps 1 (t' := (16, [some (.ref 0), some (.int (nI (ryN (fun p => mnG (twC mi 63 c0 c1 c2) (puC mi (35 + 4 * p))) k))), some (.int (nI k))], [.int (nI k), .ref 8, .ref 63], (HD, m, ml, mr))) rfl ?_
    refine wp_aald rfl ⟨by decide, rfl⟩ (by decide) (aix_nI h5 (by decide)) (by rw [nI_clamp (show k < 2 ^ 31 by omega)]; exact hM _ (pAt_ml k h5).1) ?_
    refine wp_calv (as := [.ref (35 + 4 * k)]) rfl rfl rfl (Nat.le_of_ble_eq_true rfl) ⟨by decide, rfl⟩ ((g_isReady (mi := m) (ml := ml) hM (T := 63) (P := 35 + 4 * k) (by decide) (p5_U (pAt_ml k h5).2).2.2.1 hρ hr (TXok_fr h hx (pc_S hρ).1 (pc_S hρ).2.1))) (by decide) ?_
    rintro _ _ ⟨m_1, f1, rfl, rfl⟩
    rw [twC_fr h (pc_S hρ).2.2.1 (pc_S hρ).2.2.2.1, puC_fr h (p5_S hρ k h5).1 (p5_S hρ k h5).2]
    show aWP _ _ (18, [some (.ref 0), some (.int (nI (ryN (fun p => mnG (twC mi 63 c0 c1 c2) (puC mi (35 + 4 * p))) k))), some (.int (nI k))], [.int (if mnG (twC mi 63 c0 c1 c2) (puC mi (35 + 4 * k)) = 8 then (1 : Int32) else 0)], (HD, m_1, ml, mr)) _
    refine wp_bI rfl (fun c_3 => ?_) (fun c_3 => ?_)
    · have c_3 : (if mnG (twC mi 63 c0 c1 c2) (puC mi (35 + 4 * k)) = 8 then (1 : Int32) else 0) = 0 := of_decide_eq_true c_3
      refine wp_steps 2 (t' := (4, [some (.ref 0), some (.int (nI (ryN (fun p => mnG (twC mi 63 c0 c1 c2) (puC mi (35 + 4 * p))) k))), some (.int ((nI k) + Int32.ofInt 1))], [], (HD, m_1, ml, mr))) rfl ?_
      have q : ¬ mnG (twC mi 63 c0 c1 c2) (puC mi (35 + 4 * k)) = 8 := fun z => absurd ((if_pos z).symm.trans c_3) (by decide)
      have e : ryN (fun p => mnG (twC mi 63 c0 c1 c2) (puC mi (35 + 4 * p))) (k + 1) = ryN (fun p => mnG (twC mi 63 c0 c1 c2) (puC mi (35 + 4 * p))) k := if_neg q
      rw [inc_nI, ← e]
      exact ih (k + 1) m_1 (by omega) (h.tr f1)
    · have c_3 : ¬ ((if mnG (twC mi 63 c0 c1 c2) (puC mi (35 + 4 * k)) = 8 then (1 : Int32) else 0) = 0) := of_decide_eq_false c_3
      refine wp_steps 3 (t' := (4, [some (.ref 0), some (.int ((nI (ryN (fun p => mnG (twC mi 63 c0 c1 c2) (puC mi (35 + 4 * p))) k)) + Int32.ofInt 1)), some (.int ((nI k) + Int32.ofInt 1))], [], (HD, m_1, ml, mr))) rfl ?_
      have q : mnG (twC mi 63 c0 c1 c2) (puC mi (35 + 4 * k)) = 8 := Decidable.byContradiction fun z => c_3 (if_neg z)
      have e : ryN (fun p => mnG (twC mi 63 c0 c1 c2) (puC mi (35 + 4 * p))) (k + 1) = ryN (fun p => mnG (twC mi 63 c0 c1 c2) (puC mi (35 + 4 * p))) k + 1 := if_pos q
      rw [inc_nI, inc_nI, ← e]
      exact ih (k + 1) m_1 (by omega) (h.tr f1)
set_option maxRecDepth 20000 in
set_option maxHeartbeats 1000000 in
theorem c_ready {X : aXt × Value} {mi : Nat → Nat → Int32} {ml : Nat → Nat → Int64} {mr : Nat → Nat → Option Nat} (hM : MRok mr) {N : Nat} (hN : mi 0 5 = nI N) (hN5 : N ≤ 5) {ρ : Nat} {c0 c1 c2 : List Int32} (hρ : ρ ∈ TXS) (hr : mr 63 2 = some ρ) (hx : TXok mi ρ c0 c1 c2) : aCW X 6 78 [.ref 0] (HD, mi, ml, mr) (fun r h' => r = some (.int (nI (ryN (fun p => mnG (twC mi 63 c0 c1 c2) (puC mi (35 + 4 * p))) N))) ∧ ∃ m', h' = (HD, m', ml, mr) ∧ frm [63 + 2, ρ + 3] mi m') := by
  refine cw_of (cd := cd_X6_readyPupils) (nL := 3) rfl rfl ?_
  show aWP _ _ (0, [some (.ref 0), none, none], [], (HD, mi, ml, mr)) _
  refine wp_steps 4 (t' := (4, [some (.ref 0), some (.int 0), some (.int 0)], [], (HD, mi, ml, mr))) rfl ?_
  exact l_ready hM hN hN5 hρ hr hx N 0 mi (by omega) (frm.rf _ _)
/-- the first k have slept -/
def slP (ρ : Nat) (t : tW) (k : Nat) (mi m : Nat → Nat → Int32) : Prop := (∀ x j, (∀ p, p < k → x ≠ 35 + 4 * p ∧ x ≠ 35 + 4 * p + 1) → x ∉ [63 + 2, ρ + 3] → m x j = mi x j) ∧ ∀ p, p < k → puC m (35 + 4 * p) = spG t (puC mi (35 + 4 * p))
theorem slP.step {ρ : Nat} {t : tW} {k : Nat} {mi m m' : Nat → Nat → Int32} (h : slP ρ t k mi m) (hρ : ρ ∈ TXS) (hk : k < 5) (f : frm [35 + 4 * k, 35 + 4 * k + 1, 63 + 2, ρ + 3] m m') (u : puC m' (35 + 4 * k) = spG t (puC m (35 + 4 * k))) : slP ρ t (k + 1) mi m' := by
  have q5 := p5_S hρ
  have qk : puC m (35 + 4 * k) = puC mi (35 + 4 * k) := by
    unfold puC
    have e1 : m (35 + 4 * k) = mi (35 + 4 * k) := funext fun j => h.1 _ j (fun p hp => ⟨by omega, by omega⟩) (q5 k hk).1
    have e2 : m (35 + 4 * k + 1) = mi (35 + 4 * k + 1) := funext fun j => h.1 _ j (fun p hp => ⟨by omega, by omega⟩) (q5 k hk).2
    rw [e1, e2]
  refine ⟨fun x j hx hS => ?_, fun p hp => ?_⟩
  · rw [f x j (fun z => ?_)]
    · exact h.1 x j (fun p hp => hx p (by omega)) hS
    · have := hx k (by omega)
      simp only [List.mem_cons, List.not_mem_nil, or_false] at z hS
      omega
  · by_cases e : p = k
    · subst e; rw [u, qk]
    · have hp2 : p < k := by omega
      have a := q5 p (by omega)
      rw [puC_fr f (P := 35 + 4 * p) (fun z => ?_) (fun z => ?_)]
      · exact h.2 p hp2
      · have a1 := a.1
        simp only [List.mem_cons, List.not_mem_nil, or_false] at z a1
        omega
      · have a1 := a.2
        simp only [List.mem_cons, List.not_mem_nil, or_false] at z a1
        omega
theorem slP.rd {ρ : Nat} {t : tW} {k : Nat} {mi m : Nat → Nat → Int32} (h : slP ρ t k mi m) (hk : k ≤ 5) (hρ : ρ ∈ TXS) : m 0 = mi 0 ∧ m 63 = mi 63 ∧ m 64 = mi 64 ∧ m (ρ + 1) = mi (ρ + 1) ∧ m (ρ + 2) = mi (ρ + 2) := by
  have q : ∀ ρ ∈ TXS, (∀ p, p < 5 → ρ + 1 ≠ 35 + 4 * p ∧ ρ + 1 ≠ 35 + 4 * p + 1) ∧ (∀ p, p < 5 → ρ + 2 ≠ 35 + 4 * p ∧ ρ + 2 ≠ 35 + 4 * p + 1) ∧ 0 ∉ [63 + 2, ρ + 3] ∧ 63 ∉ [63 + 2, ρ + 3] ∧ 64 ∉ [63 + 2, ρ + 3] ∧ ρ + 1 ∉ [63 + 2, ρ + 3] ∧ ρ + 2 ∉ [63 + 2, ρ + 3] := by decide
  obtain ⟨q1, q2, q3, q4, q5, q6, q7⟩ := q ρ hρ
  exact ⟨funext fun j => h.1 _ j (fun p hp => ⟨by omega, by omega⟩) q3, funext fun j => h.1 _ j (fun p hp => ⟨by omega, by omega⟩) q4, funext fun j => h.1 _ j (fun p hp => ⟨by omega, by omega⟩) q5, funext fun j => h.1 _ j (fun p hp => q1 p (by omega)) q6, funext fun j => h.1 _ j (fun p hp => q2 p (by omega)) q7⟩
theorem slP.tx {ρ : Nat} {t : tW} {k : Nat} {mi m : Nat → Nat → Int32} {c0 c1 c2 : List Int32} (h : slP ρ t k mi m) (hk : k ≤ 5) (hρ : ρ ∈ TXS) (hx : TXok mi ρ c0 c1 c2) : TXok m ρ c0 c1 c2 ∧ twC m 63 c0 c1 c2 = twC mi 63 c0 c1 c2 := by
  obtain ⟨e0, e1, e2, e3, e4⟩ := h.rd hk hρ
  refine ⟨hx.kept (fun j => by rw [e3]) (fun j => by rw [e4]), ?_⟩
  unfold twC
  rw [show m (63 + 1) = mi (63 + 1) from e2, e1]
set_option maxRecDepth 20000 in
set_option maxHeartbeats 1000000 in
theorem l_night {X : aXt × Value} {mi : Nat → Nat → Int32} {ml : Nat → Nat → Int64} {mr : Nat → Nat → Option Nat} (hM : MRok mr) {N : Nat} (hN : mi 0 5 = nI N) (hN5 : N ≤ 5) {ρ : Nat} {c0 c1 c2 : List Int32} (hρ : ρ ∈ TXS) (hr : mr 63 2 = some ρ) (hx : TXok mi ρ c0 c1 c2) {Q : Option Value → aM → Prop} (hk : (∀ m', slP ρ (twC mi 63 c0 c1 c2) N mi m' → aWP (aEx (aTb X) 6) cd_X6_night (25, [some (.ref 0), some (.int (nI N))], [], (HD, m', ml, mr)) Q)) : ∀ (g k : Nat) (m : Nat → Nat → Int32), k + g = N → slP ρ (twC mi 63 c0 c1 c2) k mi m → aWP (aEx (aTb X) 6) cd_X6_night (9, [some (.ref 0), some (.int (nI k))], [], (HD, m, ml, mr)) Q := by
  intro g
  induction g with
  | zero =>
    intro k m hg h
    have e : k = N := by omega
    subst e
    refine wp_steps 2 (t' := (11, [some (.ref 0), some (.int (nI k))], [.ref 0, .int (nI k)], (HD, m, ml, mr))) rfl ?_
    refine wp_geti rfl ⟨by decide, rfl⟩ (Or.inl rfl) ?_
    rw [show m 0 5 = nI k from (congrFun (h.rd (by omega) hρ).1 5).trans hN]
    refine wp_bC rfl (fun c_1 => ?_) (fun c_1 => ?_)
    rotate_left
    · have c_1 : ¬ ((nI k) ≤ (nI k)) := of_decide_eq_false c_1
      exact absurd (Int32.le_refl _) c_1
    have c_1 : (nI k) ≤ (nI k) := of_decide_eq_true c_1
    exact hk m h
  | succ g ih =>
    intro k m hg h
    have h5 : k < 5 := by omega
    refine wp_steps 2 (t' := (11, [some (.ref 0), some (.int (nI k))], [.ref 0, .int (nI k)], (HD, m, ml, mr))) rfl ?_
    refine wp_geti rfl ⟨by decide, rfl⟩ (Or.inl rfl) ?_
    rw [show m 0 5 = nI N from (congrFun (h.rd (by omega) hρ).1 5).trans hN]
    refine wp_bC rfl (fun c_1 => ?_) (fun c_1 => ?_)
    · have c_1 : (nI N) ≤ (nI k) := of_decide_eq_true c_1
      exact absurd c_1 (nI_ge (a := k) (b := N) (by omega) (by omega))
    have c_1 : ¬ ((nI N) ≤ (nI k)) := of_decide_eq_false c_1
    refine wp_steps 2 (t' := (15, [some (.ref 0), some (.int (nI k))], [.int 5, .int (nI k)], (HD, m, ml, mr))) rfl ?_
    refine wp_bC rfl (fun c_2 => ?_) (fun c_2 => ?_)
    · have c_2 : 5 ≤ (nI k) := of_decide_eq_true c_2
      exact absurd c_2 (nI_ge (a := k) (b := 5) h5 (by decide))
    have c_2 : ¬ (5 ≤ (nI k)) := of_decide_eq_false c_2
    refine wp_steps 1 (t' := (17, [some (.ref 0), some (.int (nI k))], [.ref 0], (HD, m, ml, mr))) rfl ?_
    refine wp_getr rfl ⟨by decide, rfl⟩ rfl (hM (0, 3, 63) (by decide)) ?_
    refine wp_steps 1 (t' := (19, [some (.ref 0), some (.int (nI k))], [.ref 0, .ref 63], (HD, m, ml, mr))) rfl ?_
    refine wp_getr rfl ⟨by decide, rfl⟩ rfl (hM (0, 4, 8) (by decide)) ?_
    refine wp_steps 1 (t' := (21, [some (.ref 0), some (.int (nI k))], [.int (nI k), .ref 8, .ref 63], (HD, m, ml, mr))) rfl ?_
    refine wp_aald rfl ⟨by decide, rfl⟩ (by decide) (aix_nI h5 (by decide)) (by rw [nI_clamp (show k < 2 ^ 31 by omega)]; exact hM _ (pAt_ml k h5).1) ?_
    refine wp_calv (as := [.ref (35 + 4 * k)]) rfl rfl rfl (Nat.le_of_ble_eq_true rfl) ⟨by decide, rfl⟩ ((g_sleep (mi := m) (ml := ml) hM (T := 63) (P := 35 + 4 * k) (by decide) (p5_U (pAt_ml k h5).2).2.2.1 hρ hr (h.tx (by omega) hρ hx).1)) (by decide) ?_
    rintro _ _ ⟨m_1, f1, u1, rfl, rfl⟩
    rw [(h.tx (by omega) hρ hx).2] at u1
    show aWP _ _ (23, [some (.ref 0), some (.int (nI k))], [], (HD, m_1, ml, mr)) _
    refine wp_steps 2 (t' := (9, [some (.ref 0), some (.int ((nI k) + Int32.ofInt 1))], [], (HD, m_1, ml, mr))) rfl ?_
    rw [inc_nI]
    exact ih (k + 1) m_1 (by omega) (h.step hρ h5 f1 u1)
theorem slP.up {ρ : Nat} {t : tW} {k : Nat} {mi m : Nat → Nat → Int32} {v : Int32} {c0 c1 c2 : List Int32} (hx : TXok m ρ c0 c1 c2) (hρ : ρ ∈ TXS) : TXok (aup m 63 1 v) ρ c0 c1 c2 ∧ (∀ p, p < 5 → puC (aup m 63 1 v) (35 + 4 * p) = puC m (35 + 4 * p)) ∧ twC (aup m 63 1 v) 63 c0 c1 c2 = ((twC m 63 c0 c1 c2).1, v, (twC m 63 c0 c1 c2).2.2) ∧ (aup m 63 1 v) 0 5 = m 0 5 := by
  have f : frm [63] m (aup m 63 1 v) := fun k j q => by
    have : k ≠ 63 := fun z => q (by rw [z]; exact List.mem_cons_self ..)
    simp [aup, this]
  have q2 : ρ + 1 ∉ [63] ∧ ρ + 2 ∉ [63] := by
    clear f hx
    revert ρ
    decide
  refine ⟨TXok_fr f hx q2.1 q2.2, fun p hp => puC_fr f (by simp only [List.mem_cons, List.not_mem_nil, or_false]; omega) (by simp only [List.mem_cons, List.not_mem_nil, or_false]; omega), ?_, rfl⟩
  refine Prod.ext (funext fun j => ?_) (Prod.ext ?_ rfl)
  · simp [twC, aup, c8]
  · simp [twC, aup]
theorem ryN_cg {f g : Nat → Nat} : ∀ {n : Nat}, (∀ j, j < n → f j = g j) → ryN f n = ryN g n
  | 0, _ => rfl
  | n + 1, h => by
    unfold ryN
    rw [ryN_cg (fun j hj => h j (by omega)), h n (by omega)]
set_option maxRecDepth 20000 in
set_option maxHeartbeats 1000000 in
theorem c_night_no {X : aXt × Value} {mi : Nat → Nat → Int32} {ml : Nat → Nat → Int64} {mr : Nat → Nat → Option Nat} (hM : MRok mr) (hd : ¬ mi 63 1 < 999) : aCW X 7 77 [.ref 0] (HD, mi, ml, mr) (fun r h' => r = some (.int (-3)) ∧ h' = (HD, mi, ml, mr)) := by
  refine cw_of (cd := cd_X6_night) (nL := 2) rfl rfl ?_
  show aWP _ _ (0, [some (.ref 0), none], [], (HD, mi, ml, mr)) _
  refine wp_steps 1 (t' := (1, [some (.ref 0), none], [.ref 0], (HD, mi, ml, mr))) rfl ?_
  refine wp_getr rfl ⟨by decide, rfl⟩ rfl (hM (0, 3, 63) (by decide)) ?_
  refine wp_geti rfl ⟨by decide, rfl⟩ (Or.inl rfl) ?_
  refine wp_steps 1 (t' := (4, [some (.ref 0), none], [.int 999, .int (mi 63 1)], (HD, mi, ml, mr))) rfl ?_
  refine wp_bC rfl (fun c_1 => ?_) (fun c_1 => ?_)
  · have c_1 : (mi 63 1) < 999 := of_decide_eq_true c_1
    exact absurd c_1 hd
  have c_1 : ¬ ((mi 63 1) < 999) := of_decide_eq_false c_1
  refine wp_steps 1 (t' := (6, [some (.ref 0), none], [.int (-3)], (HD, mi, ml, mr))) rfl ?_
  refine wp_ret rfl rfl ⟨⟨Nat.le_refl _, Nat.le_refl _⟩, ?_⟩
  exact ⟨rfl, rfl⟩
set_option maxRecDepth 20000 in
set_option maxHeartbeats 1000000 in
theorem c_night_ok {X : aXt × Value} {mi : Nat → Nat → Int32} {ml : Nat → Nat → Int64} {mr : Nat → Nat → Option Nat} (hM : MRok mr) {N : Nat} (hN : mi 0 5 = nI N) (hN5 : N ≤ 5) {ρ : Nat} {c0 c1 c2 : List Int32} (hρ : ρ ∈ TXS) (hr : mr 63 2 = some ρ) (hx : TXok mi ρ c0 c1 c2) (hd : mi 63 1 < 999) : aCW X 7 77 [.ref 0] (HD, mi, ml, mr) (fun r h' => r = some (.int (nI (ryN (fun p => mnG (ndG (twC mi 63 c0 c1 c2)) (spG (twC mi 63 c0 c1 c2) (puC mi (35 + 4 * p)))) N))) ∧ ∃ m', h' = (HD, m', ml, mr) ∧ (∀ x j, (∀ p, p < N → x ≠ 35 + 4 * p ∧ x ≠ 35 + 4 * p + 1) → x ∉ [63 + 2, ρ + 3] → ¬ (x = 63 ∧ j = 1) → m' x j = mi x j) ∧ (∀ p, p < N → puC m' (35 + 4 * p) = spG (twC mi 63 c0 c1 c2) (puC mi (35 + 4 * p))) ∧ m' 63 1 = mi 63 1 + 1) := by
  refine cw_of (cd := cd_X6_night) (nL := 2) rfl rfl ?_
  show aWP _ _ (0, [some (.ref 0), none], [], (HD, mi, ml, mr)) _
  refine wp_steps 1 (t' := (1, [some (.ref 0), none], [.ref 0], (HD, mi, ml, mr))) rfl ?_
  refine wp_getr rfl ⟨by decide, rfl⟩ rfl (hM (0, 3, 63) (by decide)) ?_
  refine wp_geti rfl ⟨by decide, rfl⟩ (Or.inl rfl) ?_
  refine wp_steps 1 (t' := (4, [some (.ref 0), none], [.int 999, .int (mi 63 1)], (HD, mi, ml, mr))) rfl ?_
  refine wp_bC rfl (fun c_1 => ?_) (fun c_1 => ?_)
  rotate_left
  · have c_1 : ¬ ((mi 63 1) < 999) := of_decide_eq_false c_1
    exact absurd hd c_1
  have c_1 : (mi 63 1) < 999 := of_decide_eq_true c_1
  refine wp_steps 2 (t' := (9, [some (.ref 0), some (.int 0)], [], (HD, mi, ml, mr))) rfl ?_
  refine l_night hM hN hN5 hρ hr hx (fun m h => ?_) N 0 mi (by omega) ⟨fun _ _ _ _ => rfl, fun p hp => absurd hp (Nat.not_lt_zero p)⟩
  refine wp_steps 1 (t' := (26, [some (.ref 0), some (.int (nI N))], [.ref 0], (HD, m, ml, mr))) rfl ?_
  refine wp_getr rfl ⟨by decide, rfl⟩ rfl (hM (0, 3, 63) (by decide)) ?_
  refine wp_steps 1 (t' := (28, [some (.ref 0), some (.int (nI N))], [.ref 63, .ref 63], (HD, m, ml, mr))) rfl ?_
  refine wp_geti rfl ⟨by decide, rfl⟩ (Or.inl rfl) ?_
  refine wp_steps 1 (t' := (30, [some (.ref 0), some (.int (nI N))], [.int 1, .int (m 63 1), .ref 63], (HD, m, ml, mr))) rfl ?_
  rw [show m 63 1 = mi 63 1 from congrFun (h.rd hN5 hρ).2.1 1]
  refine wp_steps 1 (t' := (31, [some (.ref 0), some (.int (nI N))], [.int ((mi 63 1) + 1), .ref 63], (HD, m, ml, mr))) rfl ?_
  refine wp_puti rfl ⟨by decide, rfl⟩ rfl (fun m_1 h_2 => ?_)
  subst h_2
  have u2 := slP.up (t := (twC mi 63 c0 c1 c2)) (k := N) (mi := mi) (v := mi 63 1 + 1) (h.tx hN5 hρ hx).1 hρ
  refine wp_steps 1 (t' := (33, [some (.ref 0), some (.int (nI N))], [.ref 0], (HD, (aup m 63 1 ((mi 63 1) + 1)), ml, mr))) rfl ?_
  refine wp_calv (as := []) rfl rfl rfl (Nat.le_of_ble_eq_true rfl) ⟨by decide, rfl⟩ ((c_ready (mi := (aup m 63 1 (mi 63 1 + 1))) (ml := ml) hM (((u2.2.2.2).trans (congrFun (h.rd hN5 hρ).1 5)).trans hN) hN5 hρ hr u2.1)) (by decide) ?_
  rintro _ _ ⟨rfl, m_2, rfl, f2⟩
  have er : ryN (fun p => mnG (twC (aup m 63 1 (mi 63 1 + 1)) 63 c0 c1 c2) (puC (aup m 63 1 (mi 63 1 + 1)) (35 + 4 * p))) N = ryN (fun p => mnG (ndG (twC mi 63 c0 c1 c2)) (spG (twC mi 63 c0 c1 c2) (puC mi (35 + 4 * p)))) N := ryN_cg fun p hp => by
    show mnG _ _ = mnG _ _
    rw [u2.2.1 p (by omega), h.2 p hp, u2.2.2.1, (h.tx hN5 hρ hx).2]
    rfl
  rw [er]
  show aWP _ _ (34, [some (.ref 0), some (.int (nI N))], [.int (nI (ryN (fun p => mnG (ndG (twC mi 63 c0 c1 c2)) (spG (twC mi 63 c0 c1 c2) (puC mi (35 + 4 * p)))) N))], (HD, m_2, ml, mr)) _
  refine wp_ret rfl rfl ⟨⟨Nat.le_refl _, Nat.le_refl _⟩, ?_⟩
  refine ⟨rfl, m_2, rfl, fun x j hx1 hS h63 => ?_, fun p hp => ?_, ?_⟩
  · rw [f2 x j hS, ← h.1 x j hx1 hS]
    unfold aup
    by_cases e : x = 63
    · rw [if_pos e, if_neg (fun z => h63 ⟨e, z⟩)]
    · rw [if_neg e]
  · rw [puC_fr f2 (p5_S hρ p (by omega)).1 (p5_S hρ p (by omega)).2, u2.2.1 p (by omega), h.2 p hp]
  · rw [f2 63 1 (pc_S hρ).2.2.1]
    simp [aup]
