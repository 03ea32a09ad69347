/-! set, learner, told, asks (written by wip/whole/mkpub1.py) -/
theorem tw_U {ρ : Nat} (h : ρ ∈ TXS) : (∀ k ∈ [63 + 2, ρ + 3], k ∈ UCL) ∧ ρ ∉ UCL := by
  revert ρ
  decide
theorem mlP5 : ∀ k, k < 5 → (8, k, 35 + 4 * k) ∈ MRL := fun k h => (pAt_ml k h).1
def vG (u : pU) (w : Int32) : Int32 := if w = 2 then u.2.1 else if w = 3 then u.2.2.1 else if w = 4 then u.2.2.2.1 else if w = 5 then u.1 else if w < 10 then -2 else if aixn (w - 10) 8 = true then u.2.2.2.2 (w - 10).toNatClampNeg else -2
theorem vOf_G {m : Nat → Nat → Int32} {P : Nat} {w : Int32} : vOf m P w = vG (puC m P) w := by
  unfold vOf vG puC
  by_cases h : aixn (w - 10) 8 = true
  · simp only [if_pos h, c8_lt (aix_out h).2]
  · simp only [if_neg h]
def askG (t : tW) (u : pU) (s : Nat) (w : Int32) : Int32 := if w < 3 then leG t u s w else if w = 3 then foG t u s else neG t u s
def toG (t : tW) (u : pU) (w : Int32) : Int32 := if w = 6 then (if mnG t u = 8 then 1 else 0) else if w = 7 then nI (mnG t u) else if 20 ≤ w ∧ aixn (w - 20) 8 = true then (if maG t u (w - 20).toNatClampNeg < 0 then 0 else 1) else vG u w
set_option maxRecDepth 20000 in
set_option maxHeartbeats 1000000 in
theorem c_setDay {X : aXt × Value} {mi : Nat → Nat → Int32} {ml : Nat → Nat → Int64} {mr : Nat → Nat → Option Nat} (hM : MRok mr) {v : Int32} : aCW X 1 67 [.ref 0, .int v] (HD, mi, ml, mr) (fun r h' => r = some (.int (if inR 0 999 v then mi 63 1 else -2)) ∧ h' = (HD, if inR 0 999 v then aup mi 63 1 v else mi, ml, mr)) := by
  refine cw_of (cd := cd_X6_setDay) (nL := 3) rfl rfl ?_
  show aWP _ _ (0, [some (.ref 0), some (.int v), none], [], (HD, mi, ml, mr)) _
  refine wp_steps 1 (t' := (1, [some (.ref 0), some (.int v), none], [.int v], (HD, mi, ml, mr))) rfl ?_
  refine wp_bI rfl (fun c_1 => ?_) (fun c_1 => ?_)
  · have c_1 : v < 0 := of_decide_eq_true c_1
    refine wp_steps 1 (t' := (6, [some (.ref 0), some (.int v), none], [.int (-2)], (HD, mi, ml, mr))) rfl ?_
    refine wp_ret rfl rfl ⟨⟨Nat.le_refl _, Nat.le_refl _⟩, ?_⟩
    exact ⟨by rw [if_neg (fun z => (fun z => z.1 c_1) z)], by rw [if_neg (fun z => (fun z => z.1 c_1) z)]⟩
  · have c_1 : ¬ (v < 0) := of_decide_eq_false c_1
    refine wp_steps 2 (t' := (4, [some (.ref 0), some (.int v), none], [.int 999, .int v], (HD, mi, ml, mr))) rfl ?_
    refine wp_bC rfl (fun c_2 => ?_) (fun c_2 => ?_)
    · have c_2 : v ≤ 999 := of_decide_eq_true c_2
      refine wp_steps 1 (t' := (8, [some (.ref 0), some (.int v), none], [.ref 0], (HD, mi, ml, mr))) rfl ?_
      refine wp_getr rfl ⟨by decide, rfl⟩ rfl (hM (0, 3, 63) (by decide)) ?_
      refine wp_geti rfl ⟨by decide, rfl⟩ (Or.inl rfl) ?_
      refine wp_steps 2 (t' := (12, [some (.ref 0), some (.int v), some (.int (mi 63 1))], [.ref 0], (HD, mi, ml, mr))) rfl ?_
      refine wp_getr rfl ⟨by decide, rfl⟩ rfl (hM (0, 3, 63) (by decide)) ?_
      refine wp_steps 1 (t' := (14, [some (.ref 0), some (.int v), some (.int (mi 63 1))], [.int v, .ref 63], (HD, mi, ml, mr))) rfl ?_
      refine wp_puti rfl ⟨by decide, rfl⟩ rfl (fun m_3 h_4 => ?_)
      subst h_4
      refine wp_steps 1 (t' := (16, [some (.ref 0), some (.int v), some (.int (mi 63 1))], [.int (mi 63 1)], (HD, (aup mi 63 1 v), ml, mr))) rfl ?_
      refine wp_ret rfl rfl ⟨⟨Nat.le_refl _, Nat.le_refl _⟩, ?_⟩
      exact ⟨by rw [if_pos ⟨c_1, (Int32.not_lt.mpr c_2)⟩], by rw [if_pos ⟨c_1, (Int32.not_lt.mpr c_2)⟩]⟩
    · have c_2 : ¬ (v ≤ 999) := of_decide_eq_false c_2
      refine wp_steps 1 (t' := (6, [some (.ref 0), some (.int v), none], [.int (-2)], (HD, mi, ml, mr))) rfl ?_
      refine wp_ret rfl rfl ⟨⟨Nat.le_refl _, Nat.le_refl _⟩, ?_⟩
      exact ⟨by rw [if_neg (fun z => (fun z => z.2 (Int32.not_le.mp c_2)) z)], by rw [if_neg (fun z => (fun z => z.2 (Int32.not_le.mp c_2)) z)]⟩
set_option maxRecDepth 20000 in
set_option maxHeartbeats 1000000 in
theorem c_setHard {X : aXt × Value} {mi : Nat → Nat → Int32} {ml : Nat → Nat → Int64} {mr : Nat → Nat → Option Nat} (hM : MRok mr) {s v : Int32} : aCW X 2 68 [.ref 0, .int s, .int v] (HD, mi, ml, mr) (fun r h' => r = some (.int (if aixn s 8 = true ∧ inR 0 99 v then mi 64 s.toNatClampNeg else -2)) ∧ h' = (HD, if aixn s 8 = true ∧ inR 0 99 v then aup mi 64 s.toNatClampNeg v else mi, ml, mr)) := by
  refine cw_of (cd := cd_X6_setHard) (nL := 4) rfl rfl ?_
  show aWP _ _ (0, [some (.ref 0), some (.int s), some (.int v), none], [], (HD, mi, ml, mr)) _
  refine wp_steps 1 (t' := (1, [some (.ref 0), some (.int s), some (.int v), none], [.int s], (HD, mi, ml, mr))) rfl ?_
  refine wp_cal (as := [.int s]) rfl rfl rfl (Nat.le_of_ble_eq_true rfl) (c_isStreet) (by decide) ?_
  rintro _ _ ⟨rfl, rfl⟩
  show aWP _ _ (2, [some (.ref 0), some (.int s), some (.int v), none], [.int (if aixn s 8 = true then (1 : Int32) else 0)], (HD, mi, ml, mr)) _
  refine wp_bI rfl (fun c_1 => ?_) (fun c_1 => ?_)
  · have c_1 : (if aixn s 8 = true then (1 : Int32) else 0) = 0 := of_decide_eq_true c_1
    refine wp_steps 1 (t' := (9, [some (.ref 0), some (.int s), some (.int v), none], [.int (-2)], (HD, mi, ml, mr))) rfl ?_
    refine wp_ret rfl rfl ⟨⟨Nat.le_refl _, Nat.le_refl _⟩, ?_⟩
    exact ⟨by rw [if_neg (fun z => (fun z => absurd (z.symm.trans (ite_nix c_1)) Bool.noConfusion) z.1)], by rw [if_neg (fun z => (fun z => absurd (z.symm.trans (ite_nix c_1)) Bool.noConfusion) z.1)]⟩
  · have c_1 : ¬ ((if aixn s 8 = true then (1 : Int32) else 0) = 0) := of_decide_eq_false c_1
    refine wp_steps 1 (t' := (4, [some (.ref 0), some (.int s), some (.int v), none], [.int v], (HD, mi, ml, mr))) rfl ?_
    refine wp_bI rfl (fun c_2 => ?_) (fun c_2 => ?_)
    · have c_2 : v < 0 := of_decide_eq_true c_2
      refine wp_steps 1 (t' := (9, [some (.ref 0), some (.int s), some (.int v), none], [.int (-2)], (HD, mi, ml, mr))) rfl ?_
      refine wp_ret rfl rfl ⟨⟨Nat.le_refl _, Nat.le_refl _⟩, ?_⟩
      exact ⟨by rw [if_neg (fun z => (fun z => z.1 c_2) z.2)], by rw [if_neg (fun z => (fun z => z.1 c_2) z.2)]⟩
    · have c_2 : ¬ (v < 0) := of_decide_eq_false c_2
      refine wp_steps 2 (t' := (7, [some (.ref 0), some (.int s), some (.int v), none], [.int 99, .int v], (HD, mi, ml, mr))) rfl ?_
      refine wp_bC rfl (fun c_3 => ?_) (fun c_3 => ?_)
      · have c_3 : v ≤ 99 := of_decide_eq_true c_3
        refine wp_steps 1 (t' := (11, [some (.ref 0), some (.int s), some (.int v), none], [.ref 0], (HD, mi, ml, mr))) rfl ?_
        refine wp_getr rfl ⟨by decide, rfl⟩ rfl (hM (0, 3, 63) (by decide)) ?_
        refine wp_getr rfl ⟨by decide, rfl⟩ rfl (hM (63, 0, 64) (by decide)) ?_
        refine wp_steps 1 (t' := (14, [some (.ref 0), some (.int s), some (.int v), none], [.int s, .ref 64], (HD, mi, ml, mr))) rfl ?_
        refine wp_iald rfl ⟨by decide, rfl⟩ (ite_aix c_1) ?_
        refine wp_steps 2 (t' := (17, [some (.ref 0), some (.int s), some (.int v), some (.int (mi 64 s.toNatClampNeg))], [.ref 0], (HD, mi, ml, mr))) rfl ?_
        refine wp_getr rfl ⟨by decide, rfl⟩ rfl (hM (0, 3, 63) (by decide)) ?_
        refine wp_getr rfl ⟨by decide, rfl⟩ rfl (hM (63, 0, 64) (by decide)) ?_
        refine wp_steps 2 (t' := (21, [some (.ref 0), some (.int s), some (.int v), some (.int (mi 64 s.toNatClampNeg))], [.int v, .int s, .ref 64], (HD, mi, ml, mr))) rfl ?_
        refine wp_iast rfl ⟨by decide, rfl⟩ (ite_aix c_1) (fun m_4 h_5 => ?_)
        subst h_5
        refine wp_steps 1 (t' := (23, [some (.ref 0), some (.int s), some (.int v), some (.int (mi 64 s.toNatClampNeg))], [.int (mi 64 s.toNatClampNeg)], (HD, (aup mi 64 s.toNatClampNeg v), ml, mr))) rfl ?_
        refine wp_ret rfl rfl ⟨⟨Nat.le_refl _, Nat.le_refl _⟩, ?_⟩
        exact ⟨by rw [if_pos ⟨(ite_aix c_1), ⟨c_2, (Int32.not_lt.mpr c_3)⟩⟩], by rw [if_pos ⟨(ite_aix c_1), ⟨c_2, (Int32.not_lt.mpr c_3)⟩⟩]⟩
      · have c_3 : ¬ (v ≤ 99) := of_decide_eq_false c_3
        refine wp_steps 1 (t' := (9, [some (.ref 0), some (.int s), some (.int v), none], [.int (-2)], (HD, mi, ml, mr))) rfl ?_
        refine wp_ret rfl rfl ⟨⟨Nat.le_refl _, Nat.le_refl _⟩, ?_⟩
        exact ⟨by rw [if_neg (fun z => (fun z => z.2 (Int32.not_le.mp c_3)) z.2)], by rw [if_neg (fun z => (fun z => z.2 (Int32.not_le.mp c_3)) z.2)]⟩
set_option maxRecDepth 20000 in
set_option maxHeartbeats 1000000 in
theorem c_set_0 {X : aXt × Value} {mi : Nat → Nat → Int32} {ml : Nat → Nat → Int64} {mr : Nat → Nat → Option Nat} (hM : MRok mr) {N : Nat} (hN : mi 0 5 = nI N) (hN5 : N ≤ 5) {w of v : Int32} (hw : w = 0) : aCW X 4 66 [.ref 0, .int w, .int of, .int v] (HD, mi, ml, mr) (fun r h' => r = some (.int (if inR 0 999 v then mi 63 1 else -2)) ∧ h' = (HD, if inR 0 999 v then aup mi 63 1 v else mi, ml, mr)) := by
  refine cw_of (cd := cd_X6_set) (nL := 5) rfl rfl ?_
  show aWP _ _ (0, [some (.ref 0), some (.int w), some (.int of), some (.int v), none], [], (HD, mi, ml, mr)) _
  refine wp_steps 1 (t' := (1, [some (.ref 0), some (.int w), some (.int of), some (.int v), none], [.int w], (HD, mi, ml, mr))) rfl ?_
  refine wp_bI rfl (fun c_1 => ?_) (fun c_1 => ?_)
  · have c_1 : ¬ w = 0 := of_decide_eq_true c_1
    exact absurd hw c_1
  have c_1 : w = 0 := Decidable.not_not.mp (of_decide_eq_false c_1)
  refine wp_steps 2 (t' := (4, [some (.ref 0), some (.int w), some (.int of), some (.int v), none], [.int v, .ref 0], (HD, mi, ml, mr))) rfl ?_
  refine wp_calv (as := [.int v]) rfl rfl rfl (Nat.le_of_ble_eq_true rfl) ⟨by decide, rfl⟩ ((c_setDay (mi := mi) (ml := ml) (v := v) hM)) (by decide) ?_
  rintro _ _ ⟨rfl, rfl⟩
  show aWP _ _ (5, [some (.ref 0), some (.int w), some (.int of), some (.int v), none], [.int (if inR 0 999 v then mi 63 1 else -2)], (HD, (if inR 0 999 v then aup mi 63 1 v else mi), ml, mr)) _
  refine wp_ret rfl rfl ⟨⟨Nat.le_refl _, Nat.le_refl _⟩, ?_⟩
  exact ⟨rfl, rfl⟩
set_option maxRecDepth 20000 in
set_option maxHeartbeats 1000000 in
theorem c_set_1 {X : aXt × Value} {mi : Nat → Nat → Int32} {ml : Nat → Nat → Int64} {mr : Nat → Nat → Option Nat} (hM : MRok mr) {N : Nat} (hN : mi 0 5 = nI N) (hN5 : N ≤ 5) {w of v : Int32} (hw : w = 1) : aCW X 4 66 [.ref 0, .int w, .int of, .int v] (HD, mi, ml, mr) (fun r h' => r = some (.int (if aixn of 8 = true ∧ inR 0 99 v then mi 64 of.toNatClampNeg else -2)) ∧ h' = (HD, if aixn of 8 = true ∧ inR 0 99 v then aup mi 64 of.toNatClampNeg v else mi, ml, mr)) := by
  refine cw_of (cd := cd_X6_set) (nL := 5) rfl rfl ?_
  show aWP _ _ (0, [some (.ref 0), some (.int w), some (.int of), some (.int v), none], [], (HD, mi, ml, mr)) _
  refine wp_steps 1 (t' := (1, [some (.ref 0), some (.int w), some (.int of), some (.int v), none], [.int w], (HD, mi, ml, mr))) rfl ?_
  refine wp_bI rfl (fun c_1 => ?_) (fun c_1 => ?_)
  rotate_left
  · have c_1 : w = 0 := Decidable.not_not.mp (of_decide_eq_false c_1)
    exact absurd (hw.symm.trans c_1) (by decide)
  have c_1 : ¬ w = 0 := of_decide_eq_true c_1
  refine wp_steps 2 (t' := (8, [some (.ref 0), some (.int w), some (.int of), some (.int v), none], [.int 1, .int w], (HD, mi, ml, mr))) rfl ?_
  refine wp_bC rfl (fun c_2 => ?_) (fun c_2 => ?_)
  · have c_2 : ¬ w = 1 := of_decide_eq_true c_2
    exact absurd hw c_2
  have c_2 : w = 1 := Decidable.not_not.mp (of_decide_eq_false c_2)
  refine wp_steps 3 (t' := (12, [some (.ref 0), some (.int w), some (.int of), some (.int v), none], [.int v, .int of, .ref 0], (HD, mi, ml, mr))) rfl ?_
  refine wp_calv (as := [.int of, .int v]) rfl rfl rfl (Nat.le_of_ble_eq_true rfl) ⟨by decide, rfl⟩ ((c_setHard (mi := mi) (ml := ml) (s := of) (v := v) hM)) (by decide) ?_
  rintro _ _ ⟨rfl, rfl⟩
  show aWP _ _ (13, [some (.ref 0), some (.int w), some (.int of), some (.int v), none], [.int (if aixn of 8 = true ∧ inR 0 99 v then mi 64 of.toNatClampNeg else -2)], (HD, (if aixn of 8 = true ∧ inR 0 99 v then aup mi 64 of.toNatClampNeg v else mi), ml, mr)) _
  refine wp_ret rfl rfl ⟨⟨Nat.le_refl _, Nat.le_refl _⟩, ?_⟩
  exact ⟨rfl, rfl⟩
set_option maxRecDepth 20000 in
set_option maxHeartbeats 1000000 in
theorem c_set_no {X : aXt × Value} {mi : Nat → Nat → Int32} {ml : Nat → Nat → Int64} {mr : Nat → Nat → Option Nat} (hM : MRok mr) {N : Nat} (hN : mi 0 5 = nI N) (hN5 : N ≤ 5) {w of v : Int32} (hw : ¬ w = 0 ∧ ¬ w = 1) (hg : ¬ aixn of N = true) : aCW X 4 66 [.ref 0, .int w, .int of, .int v] (HD, mi, ml, mr) (fun r h' => r = some (.int (-2)) ∧ h' = (HD, mi, ml, mr)) := by
  refine cw_of (cd := cd_X6_set) (nL := 5) rfl rfl ?_
  show aWP _ _ (0, [some (.ref 0), some (.int w), some (.int of), some (.int v), none], [], (HD, mi, ml, mr)) _
  refine wp_steps 1 (t' := (1, [some (.ref 0), some (.int w), some (.int of), some (.int v), none], [.int w], (HD, mi, ml, mr))) rfl ?_
  refine wp_bI rfl (fun c_1 => ?_) (fun c_1 => ?_)
  rotate_left
  · have c_1 : w = 0 := Decidable.not_not.mp (of_decide_eq_false c_1)
    exact absurd c_1 hw.1
  have c_1 : ¬ w = 0 := of_decide_eq_true c_1
  refine wp_steps 2 (t' := (8, [some (.ref 0), some (.int w), some (.int of), some (.int v), none], [.int 1, .int w], (HD, mi, ml, mr))) rfl ?_
  refine wp_bC rfl (fun c_2 => ?_) (fun c_2 => ?_)
  rotate_left
  · have c_2 : w = 1 := Decidable.not_not.mp (of_decide_eq_false c_2)
    exact absurd c_2 hw.2
  have c_2 : ¬ w = 1 := of_decide_eq_true c_2
  refine wp_steps 2 (t' := (16, [some (.ref 0), some (.int w), some (.int of), some (.int v), none], [.int of, .ref 0], (HD, mi, ml, mr))) rfl ?_
  refine wp_calv (as := [.int of]) rfl rfl rfl (Nat.le_of_ble_eq_true rfl) ⟨by decide, rfl⟩ ((c_pupilAt_no hM hN hN5 hg)) (by decide) ?_
  rintro _ _ ⟨rfl, rfl⟩
  show aWP _ _ (17, [some (.ref 0), some (.int w), some (.int of), some (.int v), none], [.null], (HD, mi, ml, mr)) _
  refine wp_steps 2 (t' := (19, [some (.ref 0), some (.int w), some (.int of), some (.int v), some (.null)], [.null], (HD, mi, ml, mr))) rfl ?_
  refine wp_step (t' := (20, [some (.ref 0), some (.int w), some (.int of), some (.int v), some (.null)], [], (HD, mi, ml, mr))) rfl rfl ?_
  refine wp_steps 2 (t' := (26, [some (.ref 0), some (.int w), some (.int of), some (.int v), some (.null)], [.int (-2)], (HD, mi, ml, mr))) rfl ?_
  refine wp_ret rfl rfl ⟨⟨Nat.le_refl _, Nat.le_refl _⟩, ?_⟩
  exact ⟨rfl, rfl⟩
set_option maxRecDepth 20000 in
set_option maxHeartbeats 1000000 in
theorem c_set_ok {X : aXt × Value} {mi : Nat → Nat → Int32} {ml : Nat → Nat → Int64} {mr : Nat → Nat → Option Nat} (hM : MRok mr) {N : Nat} (hN : mi 0 5 = nI N) (hN5 : N ≤ 5) {w of v : Int32} (hw : ¬ w = 0 ∧ ¬ w = 1) (hg : aixn of N = true) : aCW X 4 66 [.ref 0, .int w, .int of, .int v] (HD, mi, ml, mr) (fun r h' => r = some (.int (puV mi (pAt of) w v)) ∧ h' = (HD, puM mi (pAt of) w v, ml, mr)) := by
  have hP := pAt_mem hg hN5
  refine cw_of (cd := cd_X6_set) (nL := 5) rfl rfl ?_
  show aWP _ _ (0, [some (.ref 0), some (.int w), some (.int of), some (.int v), none], [], (HD, mi, ml, mr)) _
  refine wp_steps 1 (t' := (1, [some (.ref 0), some (.int w), some (.int of), some (.int v), none], [.int w], (HD, mi, ml, mr))) rfl ?_
  refine wp_bI rfl (fun c_1 => ?_) (fun c_1 => ?_)
  rotate_left
  · have c_1 : w = 0 := Decidable.not_not.mp (of_decide_eq_false c_1)
    exact absurd c_1 hw.1
  have c_1 : ¬ w = 0 := of_decide_eq_true c_1
  refine wp_steps 2 (t' := (8, [some (.ref 0), some (.int w), some (.int of), some (.int v), none], [.int 1, .int w], (HD, mi, ml, mr))) rfl ?_
  refine wp_bC rfl (fun c_2 => ?_) (fun c_2 => ?_)
  rotate_left
  · have c_2 : w = 1 := Decidable.not_not.mp (of_decide_eq_false c_2)
    exact absurd c_2 hw.2
  have c_2 : ¬ w = 1 := of_decide_eq_true c_2
  refine wp_steps 2 (t' := (16, [some (.ref 0), some (.int w), some (.int of), some (.int v), none], [.int of, .ref 0], (HD, mi, ml, mr))) rfl ?_
  refine wp_calv (as := [.int of]) rfl rfl rfl (Nat.le_of_ble_eq_true rfl) ⟨by decide, rfl⟩ ((c_pupilAt_ok (ml := ml) hM hN hN5 hg)) (by decide) ?_
  rintro _ _ ⟨rfl, rfl⟩
  show aWP _ _ (17, [some (.ref 0), some (.int w), some (.int of), some (.int v), none], [.ref (pAt of)], (HD, mi, ml, mr)) _
  refine wp_steps 2 (t' := (19, [some (.ref 0), some (.int w), some (.int of), some (.int v), some (.ref (pAt of))], [.ref (pAt of)], (HD, mi, ml, mr))) rfl ?_
  refine wp_step (t' := (22, [some (.ref 0), some (.int w), some (.int of), some (.int v), some (.ref (pAt of))], [], (HD, mi, ml, mr))) rfl rfl ?_
  refine wp_steps 3 (t' := (25, [some (.ref 0), some (.int w), some (.int of), some (.int v), some (.ref (pAt of))], [.int v, .int w, .ref (pAt of)], (HD, mi, ml, mr))) rfl ?_
  refine wp_calv (as := [.int w, .int v]) rfl rfl rfl (Nat.le_of_ble_eq_true rfl) (shP (p5_U hP).2.2.1) ((c_Pput (mi := mi) (ml := ml) (w := w) (v := v) hM (p5_U hP).2.2.1)) (by decide) ?_
  rintro _ _ ⟨rfl, rfl⟩
  show aWP _ _ (26, [some (.ref 0), some (.int w), some (.int of), some (.int v), some (.ref (pAt of))], [.int (puV mi (pAt of) w v)], (HD, (puM mi (pAt of) w v), ml, mr)) _
  refine wp_ret rfl rfl ⟨⟨Nat.le_refl _, Nat.le_refl _⟩, ?_⟩
  exact ⟨rfl, rfl⟩
set_option maxRecDepth 20000 in
set_option maxHeartbeats 1000000 in
theorem c_comes {X : aXt × Value} {mi : Nat → Nat → Int32} {ml : Nat → Nat → Int64} {mr : Nat → Nat → Option Nat} (hM : MRok mr) {N : Nat} (hN : mi 0 5 = nI N) (hN5 : N ≤ 5) {kd nu : Int32} : aCW X 3 70 [.ref 0, .int kd, .int nu] (HD, mi, ml, mr) (fun r h' => r = some (.int (if inR 0 5 kd ∧ inR 0 9 nu then (if N < 5 then nI N else -4) else -2)) ∧ h' = (HD, if inR 0 5 kd ∧ inR 0 9 nu then (if N < 5 then (aup (afil (aup (aup (aup (aup mi (35 + 4 * N) 0 kd) (35 + 4 * N) 1 nu) (35 + 4 * N) 2 0) (35 + 4 * N) 3 0) (35 + 4 * N + 1) 8 0) 0 5 (nI (N + 1))) else mi) else mi, ml, mr)) := by
  refine cw_of (cd := cd_X6_comes) (nL := 3) rfl rfl ?_
  show aWP _ _ (0, [some (.ref 0), some (.int kd), some (.int nu)], [], (HD, mi, ml, mr)) _
  refine wp_steps 1 (t' := (1, [some (.ref 0), some (.int kd), some (.int nu)], [.int kd], (HD, mi, ml, mr))) rfl ?_
  refine wp_bI rfl (fun c_1 => ?_) (fun c_1 => ?_)
  · have c_1 : kd < 0 := of_decide_eq_true c_1
    refine wp_steps 1 (t' := (11, [some (.ref 0), some (.int kd), some (.int nu)], [.int (-2)], (HD, mi, ml, mr))) rfl ?_
    refine wp_ret rfl rfl ⟨⟨Nat.le_refl _, Nat.le_refl _⟩, ?_⟩
    exact ⟨by rw [if_neg (fun z => (fun z => z.1 c_1) z.1)], by rw [if_neg (fun z => (fun z => z.1 c_1) z.1)]⟩
  · have c_1 : ¬ (kd < 0) := of_decide_eq_false c_1
    refine wp_steps 2 (t' := (4, [some (.ref 0), some (.int kd), some (.int nu)], [.int 6, .int kd], (HD, mi, ml, mr))) rfl ?_
    refine wp_bC rfl (fun c_2 => ?_) (fun c_2 => ?_)
    · have c_2 : 6 ≤ kd := of_decide_eq_true c_2
      refine wp_steps 1 (t' := (11, [some (.ref 0), some (.int kd), some (.int nu)], [.int (-2)], (HD, mi, ml, mr))) rfl ?_
      refine wp_ret rfl rfl ⟨⟨Nat.le_refl _, Nat.le_refl _⟩, ?_⟩
      exact ⟨by rw [if_neg (fun z => (fun z => z.2 (Int32.lt_of_lt_of_le (by decide) c_2)) z.1)], by rw [if_neg (fun z => (fun z => z.2 (Int32.lt_of_lt_of_le (by decide) c_2)) z.1)]⟩
    · have c_2 : ¬ (6 ≤ kd) := of_decide_eq_false c_2
      refine wp_steps 1 (t' := (6, [some (.ref 0), some (.int kd), some (.int nu)], [.int nu], (HD, mi, ml, mr))) rfl ?_
      refine wp_bI rfl (fun c_3 => ?_) (fun c_3 => ?_)
      · have c_3 : nu < 0 := of_decide_eq_true c_3
        refine wp_steps 1 (t' := (11, [some (.ref 0), some (.int kd), some (.int nu)], [.int (-2)], (HD, mi, ml, mr))) rfl ?_
        refine wp_ret rfl rfl ⟨⟨Nat.le_refl _, Nat.le_refl _⟩, ?_⟩
        exact ⟨by rw [if_neg (fun z => (fun z => z.1 c_3) z.2)], by rw [if_neg (fun z => (fun z => z.1 c_3) z.2)]⟩
      · have c_3 : ¬ (nu < 0) := of_decide_eq_false c_3
        refine wp_steps 2 (t' := (9, [some (.ref 0), some (.int kd), some (.int nu)], [.int 10, .int nu], (HD, mi, ml, mr))) rfl ?_
        refine wp_bC rfl (fun c_4 => ?_) (fun c_4 => ?_)
        · have c_4 : nu < 10 := of_decide_eq_true c_4
          refine wp_steps 1 (t' := (13, [some (.ref 0), some (.int kd), some (.int nu)], [.ref 0], (HD, mi, ml, mr))) rfl ?_
          refine wp_geti rfl ⟨by decide, rfl⟩ (Or.inl rfl) ?_
          rw [hN]
          refine wp_bI rfl (fun c_5 => ?_) (fun c_5 => ?_)
          · have c_5 : (nI N) < 0 := of_decide_eq_true c_5
            exact absurd c_5 (nI_pos (show N < 2 ^ 31 by omega))
          have c_5 : ¬ ((nI N) < 0) := of_decide_eq_false c_5
          refine wp_steps 1 (t' := (16, [some (.ref 0), some (.int kd), some (.int nu)], [.ref 0], (HD, mi, ml, mr))) rfl ?_
          refine wp_geti rfl ⟨by decide, rfl⟩ (Or.inl rfl) ?_
          rw [hN]
          refine wp_steps 1 (t' := (18, [some (.ref 0), some (.int kd), some (.int nu)], [.int 5, .int (nI N)], (HD, mi, ml, mr))) rfl ?_
          refine wp_bC rfl (fun c_6 => ?_) (fun c_6 => ?_)
          · have c_6 : (nI N) < 5 := of_decide_eq_true c_6
            refine wp_steps 1 (t' := (22, [some (.ref 0), some (.int kd), some (.int nu)], [.ref 0], (HD, mi, ml, mr))) rfl ?_
            refine wp_getr rfl ⟨by decide, rfl⟩ rfl (hM (0, 4, 8) (by decide)) ?_
            refine wp_steps 1 (t' := (24, [some (.ref 0), some (.int kd), some (.int nu)], [.ref 0, .ref 8], (HD, mi, ml, mr))) rfl ?_
            refine wp_geti rfl ⟨by decide, rfl⟩ (Or.inl rfl) ?_
            rw [hN]
            refine wp_aald rfl ⟨by decide, rfl⟩ (by decide) (aix_nI (Nat.lt_of_not_le (fun z => nI_nlt (a := N) (b := 5) z (by omega) c_6)) (by decide)) (by rw [nI_clamp (show N < 2 ^ 31 by omega)]; exact hM _ (mlP5 N (Nat.lt_of_not_le (fun z => nI_nlt (a := N) (b := 5) z (by omega) c_6)))) ?_
            refine wp_steps 2 (t' := (28, [some (.ref 0), some (.int kd), some (.int nu)], [.int nu, .int kd, .ref (35 + 4 * N)], (HD, mi, ml, mr))) rfl ?_
            refine wp_calv (as := [.int kd, .int nu]) rfl rfl rfl (Nat.le_of_ble_eq_true rfl) (shP (p5_U (pAt_ml N (Nat.lt_of_not_le (fun z => nI_nlt (a := N) (b := 5) z (by omega) c_6))).2).2.2.1) ((c_begin (mi := mi) (ml := ml) (kd := kd) (nu := nu) hM (p5_U (pAt_ml N (Nat.lt_of_not_le (fun z => nI_nlt (a := N) (b := 5) z (by omega) c_6))).2).2.2.1)) (by decide) ?_
            rintro _ _ ⟨rfl, rfl⟩
            show aWP _ _ (29, [some (.ref 0), some (.int kd), some (.int nu)], [], (HD, (afil (aup (aup (aup (aup mi (35 + 4 * N) 0 kd) (35 + 4 * N) 1 nu) (35 + 4 * N) 2 0) (35 + 4 * N) 3 0) (35 + 4 * N + 1) 8 0), ml, mr)) _
            refine wp_steps 2 (t' := (31, [some (.ref 0), some (.int kd), some (.int nu)], [.ref 0, .ref 0], (HD, (afil (aup (aup (aup (aup mi (35 + 4 * N) 0 kd) (35 + 4 * N) 1 nu) (35 + 4 * N) 2 0) (35 + 4 * N) 3 0) (35 + 4 * N + 1) 8 0), ml, mr))) rfl ?_
            refine wp_geti rfl ⟨by decide, rfl⟩ (Or.inl rfl) ?_
            rw [show (afil (aup (aup (aup (aup mi (35 + 4 * N) 0 kd) (35 + 4 * N) 1 nu) (35 + 4 * N) 2 0) (35 + 4 * N) 3 0) (35 + 4 * N + 1) 8 0) 0 5 = nI N from by
              rw [← hN]
              have a1 : ¬ 0 = 35 + 4 * N + 1 := by omega
              have a2 : ¬ 0 = 35 + 4 * N := by omega
              simp only [afil, aup, if_neg a1, if_neg a2]]
            refine wp_steps 2 (t' := (34, [some (.ref 0), some (.int kd), some (.int nu)], [.int ((nI N) + 1), .ref 0], (HD, (afil (aup (aup (aup (aup mi (35 + 4 * N) 0 kd) (35 + 4 * N) 1 nu) (35 + 4 * N) 2 0) (35 + 4 * N) 3 0) (35 + 4 * N + 1) 8 0), ml, mr))) rfl ?_
            rw [nI_1]
            refine wp_puti rfl ⟨by decide, rfl⟩ rfl (fun m_7 h_8 => ?_)
            subst h_8
            refine wp_steps 1 (t' := (36, [some (.ref 0), some (.int kd), some (.int nu)], [.ref 0], (HD, (aup (afil (aup (aup (aup (aup mi (35 + 4 * N) 0 kd) (35 + 4 * N) 1 nu) (35 + 4 * N) 2 0) (35 + 4 * N) 3 0) (35 + 4 * N + 1) 8 0) 0 5 (nI (N + 1))), ml, mr))) rfl ?_
            refine wp_geti rfl ⟨by decide, rfl⟩ (Or.inl rfl) ?_
            rw [show ((aup (afil (aup (aup (aup (aup mi (35 + 4 * N) 0 kd) (35 + 4 * N) 1 nu) (35 + 4 * N) 2 0) (35 + 4 * N) 3 0) (35 + 4 * N + 1) 8 0) 0 5 (nI (N + 1))) : Nat → Nat → Int32) 0 5 = nI (N + 1) from rfl]
            refine wp_steps 2 (t' := (39, [some (.ref 0), some (.int kd), some (.int nu)], [.int ((nI (N + 1)) - 1)], (HD, (aup (afil (aup (aup (aup (aup mi (35 + 4 * N) 0 kd) (35 + 4 * N) 1 nu) (35 + 4 * N) 2 0) (35 + 4 * N) 3 0) (35 + 4 * N + 1) 8 0) 0 5 (nI (N + 1))), ml, mr))) rfl ?_
            rw [show nI (N + 1) - 1 = nI N from nI_pred N]
            refine wp_ret rfl rfl ⟨⟨Nat.le_refl _, Nat.le_refl _⟩, ?_⟩
            have q : N < 5 := Nat.lt_of_not_le (fun z => nI_nlt (a := N) (b := 5) z (by omega) c_6)
            exact ⟨by rw [if_pos ⟨⟨c_1, (r_lt (Int32.not_le.mp c_2) (by decide))⟩, ⟨c_3, (r_lt c_4 (by decide))⟩⟩, if_pos q], by rw [if_pos ⟨⟨c_1, (r_lt (Int32.not_le.mp c_2) (by decide))⟩, ⟨c_3, (r_lt c_4 (by decide))⟩⟩, if_pos q]⟩
          · have c_6 : ¬ ((nI N) < 5) := of_decide_eq_false c_6
            refine wp_steps 1 (t' := (20, [some (.ref 0), some (.int kd), some (.int nu)], [.int (-4)], (HD, mi, ml, mr))) rfl ?_
            refine wp_ret rfl rfl ⟨⟨Nat.le_refl _, Nat.le_refl _⟩, ?_⟩
            have q : ¬ N < 5 := fun z => c_6 (nI_lt (b := 5) z (by decide))
            exact ⟨by rw [if_pos ⟨⟨c_1, (r_lt (Int32.not_le.mp c_2) (by decide))⟩, ⟨c_3, (r_lt c_4 (by decide))⟩⟩, if_neg q], by rw [if_pos ⟨⟨c_1, (r_lt (Int32.not_le.mp c_2) (by decide))⟩, ⟨c_3, (r_lt c_4 (by decide))⟩⟩, if_neg q]⟩
        · have c_4 : ¬ (nu < 10) := of_decide_eq_false c_4
          refine wp_steps 1 (t' := (11, [some (.ref 0), some (.int kd), some (.int nu)], [.int (-2)], (HD, mi, ml, mr))) rfl ?_
          refine wp_ret rfl rfl ⟨⟨Nat.le_refl _, Nat.le_refl _⟩, ?_⟩
          exact ⟨by rw [if_neg (fun z => (fun z => z.2 (Int32.lt_of_lt_of_le (by decide) (Int32.not_lt.mp c_4))) z.2)], by rw [if_neg (fun z => (fun z => z.2 (Int32.lt_of_lt_of_le (by decide) (Int32.not_lt.mp c_4))) z.2)]⟩
set_option maxRecDepth 20000 in
set_option maxHeartbeats 1000000 in
theorem c_learner {X : aXt × Value} {mi : Nat → Nat → Int32} {ml : Nat → Nat → Int64} {mr : Nat → Nat → Option Nat} (hM : MRok mr) {N : Nat} (hN : mi 0 5 = nI N) (hN5 : N ≤ 5) {kd nu : Int32} : aCW X 4 69 [.ref 0, .int kd, .int nu] (HD, mi, ml, mr) (fun r h' => r = some (.int (if inR 0 5 kd ∧ inR 0 9 nu then (if N < 5 then nI N else -4) else -2)) ∧ h' = (HD, if inR 0 5 kd ∧ inR 0 9 nu then (if N < 5 then (aup (afil (aup (aup (aup (aup mi (35 + 4 * N) 0 kd) (35 + 4 * N) 1 nu) (35 + 4 * N) 2 0) (35 + 4 * N) 3 0) (35 + 4 * N + 1) 8 0) 0 5 (nI (N + 1))) else mi) else mi, ml, mr)) := by
  refine cw_of (cd := cd_X6_learner) (nL := 3) rfl rfl ?_
  show aWP _ _ (0, [some (.ref 0), some (.int kd), some (.int nu)], [], (HD, mi, ml, mr)) _
  refine wp_steps 3 (t' := (3, [some (.ref 0), some (.int kd), some (.int nu)], [.int nu, .int kd, .ref 0], (HD, mi, ml, mr))) rfl ?_
  refine wp_calv (as := [.int kd, .int nu]) rfl rfl rfl (Nat.le_of_ble_eq_true rfl) ⟨by decide, rfl⟩ ((c_comes (mi := mi) (ml := ml) (kd := kd) (nu := nu) hM hN hN5)) (by decide) ?_
  rintro _ _ ⟨rfl, rfl⟩
  show aWP _ _ (4, [some (.ref 0), some (.int kd), some (.int nu)], [.int (if inR 0 5 kd ∧ inR 0 9 nu then (if N < 5 then nI N else -4) else -2)], (HD, (if inR 0 5 kd ∧ inR 0 9 nu then (if N < 5 then (aup (afil (aup (aup (aup (aup mi (35 + 4 * N) 0 kd) (35 + 4 * N) 1 nu) (35 + 4 * N) 2 0) (35 + 4 * N) 3 0) (35 + 4 * N + 1) 8 0) 0 5 (nI (N + 1))) else mi) else mi), ml, mr)) _
  refine wp_ret rfl rfl ⟨⟨Nat.le_refl _, Nat.le_refl _⟩, ?_⟩
  exact ⟨rfl, rfl⟩
set_option maxRecDepth 20000 in
set_option maxHeartbeats 1000000 in
theorem c_asks_no {X : aXt × Value} {mi : Nat → Nat → Int32} {ml : Nat → Nat → Int64} {mr : Nat → Nat → Option Nat} (hM : MRok mr) {N : Nat} (hN : mi 0 5 = nI N) (hN5 : N ≤ 5) {one s w : Int32} (hg : ¬ aixn one N = true) : aCW X 4 72 [.ref 0, .int one, .int s, .int w] (HD, mi, ml, mr) (qU mi ml mr (.int (-1000))) := by
  refine cw_of (cd := cd_X6_asks) (nL := 5) rfl rfl ?_
  show aWP _ _ (0, [some (.ref 0), some (.int one), some (.int s), some (.int w), none], [], (HD, mi, ml, mr)) _
  refine wp_steps 2 (t' := (2, [some (.ref 0), some (.int one), some (.int s), some (.int w), none], [.int one, .ref 0], (HD, mi, ml, mr))) rfl ?_
  refine wp_calv (as := [.int one]) rfl rfl rfl (Nat.le_of_ble_eq_true rfl) ⟨by decide, rfl⟩ ((c_pupilAt_no hM hN hN5 hg)) (by decide) ?_
  rintro _ _ ⟨rfl, rfl⟩
  show aWP _ _ (3, [some (.ref 0), some (.int one), some (.int s), some (.int w), none], [.null], (HD, mi, ml, mr)) _
  refine wp_steps 2 (t' := (5, [some (.ref 0), some (.int one), some (.int s), some (.int w), some (.null)], [.null], (HD, mi, ml, mr))) rfl ?_
  refine wp_step (t' := (14, [some (.ref 0), some (.int one), some (.int s), some (.int w), some (.null)], [], (HD, mi, ml, mr))) rfl rfl ?_
  refine wp_steps 1 (t' := (15, [some (.ref 0), some (.int one), some (.int s), some (.int w), some (.null)], [.int (-1000)], (HD, mi, ml, mr))) rfl ?_
  refine wp_ret rfl rfl ⟨⟨Nat.le_refl _, Nat.le_refl _⟩, ?_⟩
  exact ⟨rfl, mi, mr 73 2, by rw [mr_self], frm.rf _ _⟩
set_option maxRecDepth 20000 in
set_option maxHeartbeats 1000000 in
theorem c_asks_ok {X : aXt × Value} {mi : Nat → Nat → Int32} {ml : Nat → Nat → Int64} {mr : Nat → Nat → Option Nat} (hM : MRok mr) {N : Nat} (hN : mi 0 5 = nI N) (hN5 : N ≤ 5) {ρ : Nat} {c0 c1 c2 : List Int32} (hρ : ρ ∈ TXS) (hr : mr 63 2 = some ρ) (hx : TXok mi ρ c0 c1 c2) {one s w : Int32} (hg : aixn one N = true) : aCW X 4 72 [.ref 0, .int one, .int s, .int w] (HD, mi, ml, mr) (qU mi ml mr (.int (if aixn s 8 = true ∧ inR 0 4 w then askG (twC mi 63 c0 c1 c2) (puC mi (pAt one)) s.toNatClampNeg w else -1000))) := by
  have hP := pAt_mem hg hN5
  refine cw_of (cd := cd_X6_asks) (nL := 5) rfl rfl ?_
  show aWP _ _ (0, [some (.ref 0), some (.int one), some (.int s), some (.int w), none], [], (HD, mi, ml, mr)) _
  refine wp_steps 2 (t' := (2, [some (.ref 0), some (.int one), some (.int s), some (.int w), none], [.int one, .ref 0], (HD, mi, ml, mr))) rfl ?_
  refine wp_calv (as := [.int one]) rfl rfl rfl (Nat.le_of_ble_eq_true rfl) ⟨by decide, rfl⟩ ((c_pupilAt_ok (ml := ml) hM hN hN5 hg)) (by decide) ?_
  rintro _ _ ⟨rfl, rfl⟩
  show aWP _ _ (3, [some (.ref 0), some (.int one), some (.int s), some (.int w), none], [.ref (pAt one)], (HD, mi, ml, mr)) _
  refine wp_steps 2 (t' := (5, [some (.ref 0), some (.int one), some (.int s), some (.int w), some (.ref (pAt one))], [.ref (pAt one)], (HD, mi, ml, mr))) rfl ?_
  refine wp_step (t' := (6, [some (.ref 0), some (.int one), some (.int s), some (.int w), some (.ref (pAt one))], [], (HD, mi, ml, mr))) rfl rfl ?_
  refine wp_steps 1 (t' := (7, [some (.ref 0), some (.int one), some (.int s), some (.int w), some (.ref (pAt one))], [.int s], (HD, mi, ml, mr))) rfl ?_
  refine wp_cal (as := [.int s]) rfl rfl rfl (Nat.le_of_ble_eq_true rfl) (c_isStreet) (by decide) ?_
  rintro _ _ ⟨rfl, rfl⟩
  show aWP _ _ (8, [some (.ref 0), some (.int one), some (.int s), some (.int w), some (.ref (pAt one))], [.int (if aixn s 8 = true then (1 : Int32) else 0)], (HD, mi, ml, mr)) _
  refine wp_bI rfl (fun c_1 => ?_) (fun c_1 => ?_)
  · have c_1 : (if aixn s 8 = true then (1 : Int32) else 0) = 0 := of_decide_eq_true c_1
    refine wp_steps 1 (t' := (15, [some (.ref 0), some (.int one), some (.int s), some (.int w), some (.ref (pAt one))], [.int (-1000)], (HD, mi, ml, mr))) rfl ?_
    refine wp_ret rfl rfl ⟨⟨Nat.le_refl _, Nat.le_refl _⟩, ?_⟩
    exact ⟨by rw [if_neg (fun z => (fun z => absurd (z.symm.trans (ite_nix c_1)) Bool.noConfusion) z.1)], mi, mr 73 2, by rw [mr_self], frm.rf _ _⟩
  · have c_1 : ¬ ((if aixn s 8 = true then (1 : Int32) else 0) = 0) := of_decide_eq_false c_1
    refine wp_steps 1 (t' := (10, [some (.ref 0), some (.int one), some (.int s), some (.int w), some (.ref (pAt one))], [.int w], (HD, mi, ml, mr))) rfl ?_
    refine wp_bI rfl (fun c_2 => ?_) (fun c_2 => ?_)
    · have c_2 : w < 0 := of_decide_eq_true c_2
      refine wp_steps 1 (t' := (15, [some (.ref 0), some (.int one), some (.int s), some (.int w), some (.ref (pAt one))], [.int (-1000)], (HD, mi, ml, mr))) rfl ?_
      refine wp_ret rfl rfl ⟨⟨Nat.le_refl _, Nat.le_refl _⟩, ?_⟩
      exact ⟨by rw [if_neg (fun z => (fun z => z.1 c_2) z.2)], mi, mr 73 2, by rw [mr_self], frm.rf _ _⟩
    · have c_2 : ¬ (w < 0) := of_decide_eq_false c_2
      refine wp_steps 2 (t' := (13, [some (.ref 0), some (.int one), some (.int s), some (.int w), some (.ref (pAt one))], [.int 4, .int w], (HD, mi, ml, mr))) rfl ?_
      refine wp_bC rfl (fun c_3 => ?_) (fun c_3 => ?_)
      · have c_3 : w ≤ 4 := of_decide_eq_true c_3
        refine wp_steps 2 (t' := (18, [some (.ref 0), some (.int one), some (.int s), some (.int w), some (.ref (pAt one))], [.int 3, .int w], (HD, mi, ml, mr))) rfl ?_
        refine wp_bC rfl (fun c_4 => ?_) (fun c_4 => ?_)
        · have c_4 : 3 ≤ w := of_decide_eq_true c_4
          refine wp_steps 2 (t' := (28, [some (.ref 0), some (.int one), some (.int s), some (.int w), some (.ref (pAt one))], [.int 3, .int w], (HD, mi, ml, mr))) rfl ?_
          refine wp_bC rfl (fun c_5 => ?_) (fun c_5 => ?_)
          · have c_5 : ¬ w = 3 := of_decide_eq_true c_5
            refine wp_steps 1 (t' := (36, [some (.ref 0), some (.int one), some (.int s), some (.int w), some (.ref (pAt one))], [.ref 0], (HD, mi, ml, mr))) rfl ?_
            refine wp_getr rfl ⟨by decide, rfl⟩ rfl (hM (0, 3, 63) (by decide)) ?_
            refine wp_steps 2 (t' := (39, [some (.ref 0), some (.int one), some (.int s), some (.int w), some (.ref (pAt one))], [.int s, .ref (pAt one), .ref 63], (HD, mi, ml, mr))) rfl ?_
            refine wp_calv (as := [.ref (pAt one), .int s]) rfl rfl rfl (Nat.le_of_ble_eq_true rfl) ⟨by decide, rfl⟩ ((g_nerve (ml := ml) hM (T := 63) (by decide) (p5_U hP).2.2.1 hρ hr hx (ite_aix c_1))) (by decide) ?_
            rintro _ _ ⟨m_1, f1, rfl, rfl⟩
            show aWP _ _ (40, [some (.ref 0), some (.int one), some (.int s), some (.int w), some (.ref (pAt one))], [.int (neG (twC mi 63 c0 c1 c2) (puC mi (pAt one)) s.toNatClampNeg)], (HD, m_1, ml, mr)) _
            refine wp_ret rfl rfl ⟨⟨Nat.le_refl _, Nat.le_refl _⟩, ?_⟩
            exact ⟨by rw [if_pos ⟨(ite_aix c_1), ⟨c_2, (Int32.not_lt.mpr c_3)⟩⟩]; unfold askG; rw [if_neg (Int32.not_lt.mpr c_4), if_neg c_5], m_1, mr 73 2, by rw [mr_self], f1.wk (tw_U hρ).1⟩
          · have c_5 : w = 3 := Decidable.not_not.mp (of_decide_eq_false c_5)
            refine wp_steps 1 (t' := (30, [some (.ref 0), some (.int one), some (.int s), some (.int w), some (.ref (pAt one))], [.ref 0], (HD, mi, ml, mr))) rfl ?_
            refine wp_getr rfl ⟨by decide, rfl⟩ rfl (hM (0, 3, 63) (by decide)) ?_
            refine wp_steps 2 (t' := (33, [some (.ref 0), some (.int one), some (.int s), some (.int w), some (.ref (pAt one))], [.int s, .ref (pAt one), .ref 63], (HD, mi, ml, mr))) rfl ?_
            refine wp_calv (as := [.ref (pAt one), .int s]) rfl rfl rfl (Nat.le_of_ble_eq_true rfl) ⟨by decide, rfl⟩ ((g_forgets (ml := ml) hM (T := 63) (by decide) (p5_U hP).2.2.1 hρ hr hx (ite_aix c_1))) (by decide) ?_
            rintro _ _ ⟨m_1, f1, rfl, rfl⟩
            show aWP _ _ (34, [some (.ref 0), some (.int one), some (.int s), some (.int w), some (.ref (pAt one))], [.int (foG (twC mi 63 c0 c1 c2) (puC mi (pAt one)) s.toNatClampNeg)], (HD, m_1, ml, mr)) _
            refine wp_steps 1 (t' := (40, [some (.ref 0), some (.int one), some (.int s), some (.int w), some (.ref (pAt one))], [.int (foG (twC mi 63 c0 c1 c2) (puC mi (pAt one)) s.toNatClampNeg)], (HD, m_1, ml, mr))) rfl ?_
            refine wp_ret rfl rfl ⟨⟨Nat.le_refl _, Nat.le_refl _⟩, ?_⟩
            exact ⟨by rw [if_pos ⟨(ite_aix c_1), ⟨c_2, (Int32.not_lt.mpr c_3)⟩⟩]; unfold askG; rw [if_neg (Int32.not_lt.mpr c_4), if_pos c_5], m_1, mr 73 2, by rw [mr_self], f1.wk (tw_U hρ).1⟩
        · have c_4 : ¬ (3 ≤ w) := of_decide_eq_false c_4
          refine wp_steps 1 (t' := (20, [some (.ref 0), some (.int one), some (.int s), some (.int w), some (.ref (pAt one))], [.ref 0], (HD, mi, ml, mr))) rfl ?_
          refine wp_getr rfl ⟨by decide, rfl⟩ rfl (hM (0, 3, 63) (by decide)) ?_
          refine wp_steps 3 (t' := (24, [some (.ref 0), some (.int one), some (.int s), some (.int w), some (.ref (pAt one))], [.int w, .int s, .ref (pAt one), .ref 63], (HD, mi, ml, mr))) rfl ?_
          refine wp_calv (as := [.ref (pAt one), .int s, .int w]) rfl rfl rfl (Nat.le_of_ble_eq_true rfl) ⟨by decide, rfl⟩ ((g_learns (ml := ml) (hp := w) hM (T := 63) (by decide) (p5_U hP).2.2.1 hρ hr hx (ite_aix c_1))) (by decide) ?_
          rintro _ _ ⟨m_1, f1, rfl, rfl⟩
          show aWP _ _ (25, [some (.ref 0), some (.int one), some (.int s), some (.int w), some (.ref (pAt one))], [.int (leG (twC mi 63 c0 c1 c2) (puC mi (pAt one)) s.toNatClampNeg w)], (HD, m_1, ml, mr)) _
          refine wp_ret rfl rfl ⟨⟨Nat.le_refl _, Nat.le_refl _⟩, ?_⟩
          exact ⟨by rw [if_pos ⟨(ite_aix c_1), ⟨c_2, (Int32.not_lt.mpr c_3)⟩⟩]; unfold askG; rw [if_pos (Int32.not_le.mp c_4)], m_1, mr 73 2, by rw [mr_self], f1.wk (tw_U hρ).1⟩
      · have c_3 : ¬ (w ≤ 4) := of_decide_eq_false c_3
        refine wp_steps 1 (t' := (15, [some (.ref 0), some (.int one), some (.int s), some (.int w), some (.ref (pAt one))], [.int (-1000)], (HD, mi, ml, mr))) rfl ?_
        refine wp_ret rfl rfl ⟨⟨Nat.le_refl _, Nat.le_refl _⟩, ?_⟩
        exact ⟨by rw [if_neg (fun z => (fun z => z.2 (Int32.not_le.mp c_3)) z.2)], mi, mr 73 2, by rw [mr_self], frm.rf _ _⟩
set_option maxRecDepth 20000 in
set_option maxHeartbeats 1000000 in
theorem c_told_0 {X : aXt × Value} {mi : Nat → Nat → Int32} {ml : Nat → Nat → Int64} {mr : Nat → Nat → Option Nat} (hM : MRok mr) {of w : Int32} (hw : w = 0) : aCW X 6 71 [.ref 0, .int of, .int w] (HD, mi, ml, mr) (qU mi ml mr (.int (mi 63 1))) := by
  refine cw_of (cd := cd_X6_told) (nL := 4) rfl rfl ?_
  show aWP _ _ (0, [some (.ref 0), some (.int of), some (.int w), none], [], (HD, mi, ml, mr)) _
  refine wp_steps 1 (t' := (1, [some (.ref 0), some (.int of), some (.int w), none], [.int w], (HD, mi, ml, mr))) rfl ?_
  refine wp_bI rfl (fun c_1 => ?_) (fun c_1 => ?_)
  · have c_1 : ¬ w = 0 := of_decide_eq_true c_1
    exact absurd hw c_1
  have c_1 : w = 0 := Decidable.not_not.mp (of_decide_eq_false c_1)
  refine wp_steps 1 (t' := (3, [some (.ref 0), some (.int of), some (.int w), none], [.ref 0], (HD, mi, ml, mr))) rfl ?_
  refine wp_getr rfl ⟨by decide, rfl⟩ rfl (hM (0, 3, 63) (by decide)) ?_
  refine wp_geti rfl ⟨by decide, rfl⟩ (Or.inl rfl) ?_
  refine wp_ret rfl rfl ⟨⟨Nat.le_refl _, Nat.le_refl _⟩, ?_⟩
  exact ⟨rfl, mi, mr 73 2, by rw [mr_self], frm.rf _ _⟩
set_option maxRecDepth 20000 in
set_option maxHeartbeats 1000000 in
theorem c_told_1 {X : aXt × Value} {mi : Nat → Nat → Int32} {ml : Nat → Nat → Int64} {mr : Nat → Nat → Option Nat} (hM : MRok mr) {of w : Int32} (hw : w = 1) : aCW X 6 71 [.ref 0, .int of, .int w] (HD, mi, ml, mr) (qU mi ml mr (.int (if aixn of 8 = true then mi 64 of.toNatClampNeg else -2))) := by
  refine cw_of (cd := cd_X6_told) (nL := 4) rfl rfl ?_
  show aWP _ _ (0, [some (.ref 0), some (.int of), some (.int w), none], [], (HD, mi, ml, mr)) _
  refine wp_steps 1 (t' := (1, [some (.ref 0), some (.int of), some (.int w), none], [.int w], (HD, mi, ml, mr))) rfl ?_
  refine wp_bI rfl (fun c_1 => ?_) (fun c_1 => ?_)
  rotate_left
  · have c_1 : w = 0 := Decidable.not_not.mp (of_decide_eq_false c_1)
    exact absurd (hw.symm.trans c_1) (by decide)
  have c_1 : ¬ w = 0 := of_decide_eq_true c_1
  refine wp_steps 2 (t' := (8, [some (.ref 0), some (.int of), some (.int w), none], [.int 1, .int w], (HD, mi, ml, mr))) rfl ?_
  refine wp_bC rfl (fun c_2 => ?_) (fun c_2 => ?_)
  · have c_2 : ¬ w = 1 := of_decide_eq_true c_2
    exact absurd hw c_2
  have c_2 : w = 1 := Decidable.not_not.mp (of_decide_eq_false c_2)
  refine wp_steps 1 (t' := (10, [some (.ref 0), some (.int of), some (.int w), none], [.int of], (HD, mi, ml, mr))) rfl ?_
  refine wp_cal (as := [.int of]) rfl rfl rfl (Nat.le_of_ble_eq_true rfl) (c_isStreet) (by decide) ?_
  rintro _ _ ⟨rfl, rfl⟩
  show aWP _ _ (11, [some (.ref 0), some (.int of), some (.int w), none], [.int (if aixn of 8 = true then (1 : Int32) else 0)], (HD, mi, ml, mr)) _
  refine wp_bI rfl (fun c_3 => ?_) (fun c_3 => ?_)
  · have c_3 : (if aixn of 8 = true then (1 : Int32) else 0) = 0 := of_decide_eq_true c_3
    refine wp_steps 1 (t' := (19, [some (.ref 0), some (.int of), some (.int w), none], [.int (-2)], (HD, mi, ml, mr))) rfl ?_
    refine wp_ret rfl rfl ⟨⟨Nat.le_refl _, Nat.le_refl _⟩, ?_⟩
    exact ⟨by rw [if_neg (fun z => (fun z => absurd (z.symm.trans (ite_nix c_3)) Bool.noConfusion) z)], mi, mr 73 2, by rw [mr_self], frm.rf _ _⟩
  · have c_3 : ¬ ((if aixn of 8 = true then (1 : Int32) else 0) = 0) := of_decide_eq_false c_3
    refine wp_steps 1 (t' := (13, [some (.ref 0), some (.int of), some (.int w), none], [.ref 0], (HD, mi, ml, mr))) rfl ?_
    refine wp_getr rfl ⟨by decide, rfl⟩ rfl (hM (0, 3, 63) (by decide)) ?_
    refine wp_getr rfl ⟨by decide, rfl⟩ rfl (hM (63, 0, 64) (by decide)) ?_
    refine wp_steps 1 (t' := (16, [some (.ref 0), some (.int of), some (.int w), none], [.int of, .ref 64], (HD, mi, ml, mr))) rfl ?_
    refine wp_iald rfl ⟨by decide, rfl⟩ (ite_aix c_3) ?_
    refine wp_steps 1 (t' := (19, [some (.ref 0), some (.int of), some (.int w), none], [.int (mi 64 of.toNatClampNeg)], (HD, mi, ml, mr))) rfl ?_
    refine wp_ret rfl rfl ⟨⟨Nat.le_refl _, Nat.le_refl _⟩, ?_⟩
    exact ⟨by rw [if_pos (ite_aix c_3)], mi, mr 73 2, by rw [mr_self], frm.rf _ _⟩
set_option maxRecDepth 20000 in
set_option maxHeartbeats 1000000 in
theorem c_told_no {X : aXt × Value} {mi : Nat → Nat → Int32} {ml : Nat → Nat → Int64} {mr : Nat → Nat → Option Nat} (hM : MRok mr) {N : Nat} (hN : mi 0 5 = nI N) (hN5 : N ≤ 5) {of w : Int32} (hw : ¬ w = 0 ∧ ¬ w = 1) (hg : ¬ aixn of N = true) : aCW X 6 71 [.ref 0, .int of, .int w] (HD, mi, ml, mr) (qU mi ml mr (.int (-2))) := by
  refine cw_of (cd := cd_X6_told) (nL := 4) rfl rfl ?_
  show aWP _ _ (0, [some (.ref 0), some (.int of), some (.int w), none], [], (HD, mi, ml, mr)) _
  refine wp_steps 1 (t' := (1, [some (.ref 0), some (.int of), some (.int w), none], [.int w], (HD, mi, ml, mr))) rfl ?_
  refine wp_bI rfl (fun c_1 => ?_) (fun c_1 => ?_)
  rotate_left
  · have c_1 : w = 0 := Decidable.not_not.mp (of_decide_eq_false c_1)
    exact absurd c_1 hw.1
  have c_1 : ¬ w = 0 := of_decide_eq_true c_1
  refine wp_steps 2 (t' := (8, [some (.ref 0), some (.int of), some (.int w), none], [.int 1, .int w], (HD, mi, ml, mr))) rfl ?_
  refine wp_bC rfl (fun c_2 => ?_) (fun c_2 => ?_)
  rotate_left
  · have c_2 : w = 1 := Decidable.not_not.mp (of_decide_eq_false c_2)
    exact absurd c_2 hw.2
  have c_2 : ¬ w = 1 := of_decide_eq_true c_2
  refine wp_steps 2 (t' := (22, [some (.ref 0), some (.int of), some (.int w), none], [.int of, .ref 0], (HD, mi, ml, mr))) rfl ?_
  refine wp_calv (as := [.int of]) rfl rfl rfl (Nat.le_of_ble_eq_true rfl) ⟨by decide, rfl⟩ ((c_pupilAt_no hM hN hN5 hg)) (by decide) ?_
  rintro _ _ ⟨rfl, rfl⟩
  show aWP _ _ (23, [some (.ref 0), some (.int of), some (.int w), none], [.null], (HD, mi, ml, mr)) _
  refine wp_steps 2 (t' := (25, [some (.ref 0), some (.int of), some (.int w), some (.null)], [.null], (HD, mi, ml, mr))) rfl ?_
  refine wp_step (t' := (26, [some (.ref 0), some (.int of), some (.int w), some (.null)], [], (HD, mi, ml, mr))) rfl rfl ?_
  refine wp_steps 1 (t' := (27, [some (.ref 0), some (.int of), some (.int w), some (.null)], [.int (-2)], (HD, mi, ml, mr))) rfl ?_
  refine wp_ret rfl rfl ⟨⟨Nat.le_refl _, Nat.le_refl _⟩, ?_⟩
  exact ⟨rfl, mi, mr 73 2, by rw [mr_self], frm.rf _ _⟩
set_option maxRecDepth 20000 in
set_option maxHeartbeats 1000000 in
theorem c_told_ok {X : aXt × Value} {mi : Nat → Nat → Int32} {ml : Nat → Nat → Int64} {mr : Nat → Nat → Option Nat} (hM : MRok mr) {N : Nat} (hN : mi 0 5 = nI N) (hN5 : N ≤ 5) {ρ : Nat} {c0 c1 c2 : List Int32} (hρ : ρ ∈ TXS) (hr : mr 63 2 = some ρ) (hx : TXok mi ρ c0 c1 c2) {of w : Int32} (hw : ¬ w = 0 ∧ ¬ w = 1) (hg : aixn of N = true) : aCW X 6 71 [.ref 0, .int of, .int w] (HD, mi, ml, mr) (qU mi ml mr (.int (toG (twC mi 63 c0 c1 c2) (puC mi (pAt of)) w))) := by
  have hP := pAt_mem hg hN5
  refine cw_of (cd := cd_X6_told) (nL := 4) rfl rfl ?_
  show aWP _ _ (0, [some (.ref 0), some (.int of), some (.int w), none], [], (HD, mi, ml, mr)) _
  refine wp_steps 1 (t' := (1, [some (.ref 0), some (.int of), some (.int w), none], [.int w], (HD, mi, ml, mr))) rfl ?_
  refine wp_bI rfl (fun c_1 => ?_) (fun c_1 => ?_)
  rotate_left
  · have c_1 : w = 0 := Decidable.not_not.mp (of_decide_eq_false c_1)
    exact absurd c_1 hw.1
  have c_1 : ¬ w = 0 := of_decide_eq_true c_1
  refine wp_steps 2 (t' := (8, [some (.ref 0), some (.int of), some (.int w), none], [.int 1, .int w], (HD, mi, ml, mr))) rfl ?_
  refine wp_bC rfl (fun c_2 => ?_) (fun c_2 => ?_)
  rotate_left
  · have c_2 : w = 1 := Decidable.not_not.mp (of_decide_eq_false c_2)
    exact absurd c_2 hw.2
  have c_2 : ¬ w = 1 := of_decide_eq_true c_2
  refine wp_steps 2 (t' := (22, [some (.ref 0), some (.int of), some (.int w), none], [.int of, .ref 0], (HD, mi, ml, mr))) rfl ?_
  refine wp_calv (as := [.int of]) rfl rfl rfl (Nat.le_of_ble_eq_true rfl) ⟨by decide, rfl⟩ ((c_pupilAt_ok (ml := ml) hM hN hN5 hg)) (by decide) ?_
  rintro _ _ ⟨rfl, rfl⟩
  show aWP _ _ (23, [some (.ref 0), some (.int of), some (.int w), none], [.ref (pAt of)], (HD, mi, ml, mr)) _
  refine wp_steps 2 (t' := (25, [some (.ref 0), some (.int of), some (.int w), some (.ref (pAt of))], [.ref (pAt of)], (HD, mi, ml, mr))) rfl ?_
  refine wp_step (t' := (28, [some (.ref 0), some (.int of), some (.int w), some (.ref (pAt of))], [], (HD, mi, ml, mr))) rfl rfl ?_
  refine wp_steps 2 (t' := (30, [some (.ref 0), some (.int of), some (.int w), some (.ref (pAt of))], [.int 6, .int w], (HD, mi, ml, mr))) rfl ?_
  refine wp_bC rfl (fun c_3 => ?_) (fun c_3 => ?_)
  · have c_3 : ¬ w = 6 := of_decide_eq_true c_3
    refine wp_steps 2 (t' := (42, [some (.ref 0), some (.int of), some (.int w), some (.ref (pAt of))], [.int 7, .int w], (HD, mi, ml, mr))) rfl ?_
    refine wp_bC rfl (fun c_4 => ?_) (fun c_4 => ?_)
    · have c_4 : ¬ w = 7 := of_decide_eq_true c_4
      refine wp_steps 2 (t' := (50, [some (.ref 0), some (.int of), some (.int w), some (.ref (pAt of))], [.int 20, .int w], (HD, mi, ml, mr))) rfl ?_
      refine wp_bC rfl (fun c_5 => ?_) (fun c_5 => ?_)
      · have c_5 : w < 20 := of_decide_eq_true c_5
        refine wp_steps 2 (t' := (70, [some (.ref 0), some (.int of), some (.int w), some (.ref (pAt of))], [.int w, .ref (pAt of)], (HD, mi, ml, mr))) rfl ?_
        refine wp_calv (as := [.int w]) rfl rfl rfl (Nat.le_of_ble_eq_true rfl) (shP (p5_U hP).2.2.1) ((c_valueOf (ml := ml) (w := w) hM (p5_U hP).2.2.1)) (by decide) ?_
        rintro _ _ ⟨rfl, rfl⟩
        show aWP _ _ (71, [some (.ref 0), some (.int of), some (.int w), some (.ref (pAt of))], [.int (vOf mi (pAt of) w)], (HD, mi, ml, mr)) _
        refine wp_ret rfl rfl ⟨⟨Nat.le_refl _, Nat.le_refl _⟩, ?_⟩
        have q : ¬ (20 ≤ w ∧ aixn (w - 20) 8 = true) := fun z => Int32.not_le.mpr c_5 z.1
        exact ⟨by unfold toG; rw [if_neg c_3, if_neg c_4, if_neg q, vOf_G], mi, mr 73 2, by rw [mr_self], frm.rf _ _⟩
      · have c_5 : ¬ (w < 20) := of_decide_eq_false c_5
        refine wp_steps 3 (t' := (54, [some (.ref 0), some (.int of), some (.int w), some (.ref (pAt of))], [.int (w - 20)], (HD, mi, ml, mr))) rfl ?_
        refine wp_cal (as := [.int (w - 20)]) rfl rfl rfl (Nat.le_of_ble_eq_true rfl) (c_isStreet) (by decide) ?_
        rintro _ _ ⟨rfl, rfl⟩
        show aWP _ _ (55, [some (.ref 0), some (.int of), some (.int w), some (.ref (pAt of))], [.int (if aixn (w - 20) 8 = true then (1 : Int32) else 0)], (HD, mi, ml, mr)) _
        refine wp_bI rfl (fun c_6 => ?_) (fun c_6 => ?_)
        · have c_6 : (if aixn (w - 20) 8 = true then (1 : Int32) else 0) = 0 := of_decide_eq_true c_6
          refine wp_steps 2 (t' := (70, [some (.ref 0), some (.int of), some (.int w), some (.ref (pAt of))], [.int w, .ref (pAt of)], (HD, mi, ml, mr))) rfl ?_
          refine wp_calv (as := [.int w]) rfl rfl rfl (Nat.le_of_ble_eq_true rfl) (shP (p5_U hP).2.2.1) ((c_valueOf (ml := ml) (w := w) hM (p5_U hP).2.2.1)) (by decide) ?_
          rintro _ _ ⟨rfl, rfl⟩
          show aWP _ _ (71, [some (.ref 0), some (.int of), some (.int w), some (.ref (pAt of))], [.int (vOf mi (pAt of) w)], (HD, mi, ml, mr)) _
          refine wp_ret rfl rfl ⟨⟨Nat.le_refl _, Nat.le_refl _⟩, ?_⟩
          have q : ¬ (20 ≤ w ∧ aixn (w - 20) 8 = true) := fun z => (fun z => absurd (z.symm.trans (ite_nix c_6)) Bool.noConfusion) z.2
          exact ⟨by unfold toG; rw [if_neg c_3, if_neg c_4, if_neg q, vOf_G], mi, mr 73 2, by rw [mr_self], frm.rf _ _⟩
        · have c_6 : ¬ ((if aixn (w - 20) 8 = true then (1 : Int32) else 0) = 0) := of_decide_eq_false c_6
          refine wp_steps 1 (t' := (57, [some (.ref 0), some (.int of), some (.int w), some (.ref (pAt of))], [.ref 0], (HD, mi, ml, mr))) rfl ?_
          refine wp_getr rfl ⟨by decide, rfl⟩ rfl (hM (0, 3, 63) (by decide)) ?_
          refine wp_steps 4 (t' := (62, [some (.ref 0), some (.int of), some (.int w), some (.ref (pAt of))], [.int (w - 20), .ref (pAt of), .ref 63], (HD, mi, ml, mr))) rfl ?_
          refine wp_calv (as := [.ref (pAt of), .int (w - 20)]) rfl rfl rfl (Nat.le_of_ble_eq_true rfl) ⟨by decide, rfl⟩ ((g_margin (ml := ml) hM (T := 63) (by decide) (p5_U hP).2.2.1 hρ hr hx (ite_aix c_6))) (by decide) ?_
          rintro _ _ ⟨m_1, f1, rfl, rfl⟩
          show aWP _ _ (63, [some (.ref 0), some (.int of), some (.int w), some (.ref (pAt of))], [.int (maG (twC mi 63 c0 c1 c2) (puC mi (pAt of)) (w - 20).toNatClampNeg)], (HD, m_1, ml, mr)) _
          refine wp_bI rfl (fun c_7 => ?_) (fun c_7 => ?_)
          · have c_7 : (maG (twC mi 63 c0 c1 c2) (puC mi (pAt of)) (w - 20).toNatClampNeg) < 0 := of_decide_eq_true c_7
            refine wp_steps 1 (t' := (67, [some (.ref 0), some (.int of), some (.int w), some (.ref (pAt of))], [.int 0], (HD, m_1, ml, mr))) rfl ?_
            refine wp_ret rfl rfl ⟨⟨Nat.le_refl _, Nat.le_refl _⟩, ?_⟩
            have q : 20 ≤ w ∧ aixn (w - 20) 8 = true := ⟨Int32.not_lt.mp c_5, (ite_aix c_6)⟩
            exact ⟨by unfold toG; rw [if_neg c_3, if_neg c_4, if_pos q, if_pos c_7], m_1, mr 73 2, by rw [mr_self], f1.wk (tw_U hρ).1⟩
          · have c_7 : ¬ ((maG (twC mi 63 c0 c1 c2) (puC mi (pAt of)) (w - 20).toNatClampNeg) < 0) := of_decide_eq_false c_7
            refine wp_steps 2 (t' := (67, [some (.ref 0), some (.int of), some (.int w), some (.ref (pAt of))], [.int 1], (HD, m_1, ml, mr))) rfl ?_
            refine wp_ret rfl rfl ⟨⟨Nat.le_refl _, Nat.le_refl _⟩, ?_⟩
            have q : 20 ≤ w ∧ aixn (w - 20) 8 = true := ⟨Int32.not_lt.mp c_5, (ite_aix c_6)⟩
            exact ⟨by unfold toG; rw [if_neg c_3, if_neg c_4, if_pos q, if_neg c_7], m_1, mr 73 2, by rw [mr_self], f1.wk (tw_U hρ).1⟩
    · have c_4 : w = 7 := Decidable.not_not.mp (of_decide_eq_false c_4)
      refine wp_steps 1 (t' := (44, [some (.ref 0), some (.int of), some (.int w), some (.ref (pAt of))], [.ref 0], (HD, mi, ml, mr))) rfl ?_
      refine wp_getr rfl ⟨by decide, rfl⟩ rfl (hM (0, 3, 63) (by decide)) ?_
      refine wp_steps 1 (t' := (46, [some (.ref 0), some (.int of), some (.int w), some (.ref (pAt of))], [.ref (pAt of), .ref 63], (HD, mi, ml, mr))) rfl ?_
      refine wp_calv (as := [.ref (pAt of)]) rfl rfl rfl (Nat.le_of_ble_eq_true rfl) ⟨by decide, rfl⟩ ((g_managedBy (ml := ml) hM (T := 63) (by decide) (p5_U hP).2.2.1 hρ hr hx)) (by decide) ?_
      rintro _ _ ⟨m_1, f1, rfl, rfl⟩
      show aWP _ _ (47, [some (.ref 0), some (.int of), some (.int w), some (.ref (pAt of))], [.int (nI (mnG (twC mi 63 c0 c1 c2) (puC mi (pAt of))))], (HD, m_1, ml, mr)) _
      refine wp_ret rfl rfl ⟨⟨Nat.le_refl _, Nat.le_refl _⟩, ?_⟩
      exact ⟨by unfold toG; rw [if_neg c_3, if_pos c_4], m_1, mr 73 2, by rw [mr_self], f1.wk (tw_U hρ).1⟩
  · have c_3 : w = 6 := Decidable.not_not.mp (of_decide_eq_false c_3)
    refine wp_steps 1 (t' := (32, [some (.ref 0), some (.int of), some (.int w), some (.ref (pAt of))], [.ref 0], (HD, mi, ml, mr))) rfl ?_
    refine wp_getr rfl ⟨by decide, rfl⟩ rfl (hM (0, 3, 63) (by decide)) ?_
    refine wp_steps 1 (t' := (34, [some (.ref 0), some (.int of), some (.int w), some (.ref (pAt of))], [.ref (pAt of), .ref 63], (HD, mi, ml, mr))) rfl ?_
    refine wp_calv (as := [.ref (pAt of)]) rfl rfl rfl (Nat.le_of_ble_eq_true rfl) ⟨by decide, rfl⟩ ((g_isReady (ml := ml) hM (T := 63) (by decide) (p5_U hP).2.2.1 hρ hr hx)) (by decide) ?_
    rintro _ _ ⟨m_1, f1, rfl, rfl⟩
    show aWP _ _ (35, [some (.ref 0), some (.int of), some (.int w), some (.ref (pAt of))], [.int (if mnG (twC mi 63 c0 c1 c2) (puC mi (pAt of)) = 8 then (1 : Int32) else 0)], (HD, m_1, ml, mr)) _
    refine wp_bI rfl (fun c_8 => ?_) (fun c_8 => ?_)
    · have c_8 : (if mnG (twC mi 63 c0 c1 c2) (puC mi (pAt of)) = 8 then (1 : Int32) else 0) = 0 := of_decide_eq_true c_8
      refine wp_steps 1 (t' := (39, [some (.ref 0), some (.int of), some (.int w), some (.ref (pAt of))], [.int 0], (HD, m_1, ml, mr))) rfl ?_
      refine wp_ret rfl rfl ⟨⟨Nat.le_refl _, Nat.le_refl _⟩, ?_⟩
      have q : ¬ mnG (twC mi 63 c0 c1 c2) (puC mi (pAt of)) = 8 := fun z => absurd ((if_pos z).symm.trans c_8) (by decide)
      exact ⟨by unfold toG; rw [if_pos c_3, if_neg q], m_1, mr 73 2, by rw [mr_self], f1.wk (tw_U hρ).1⟩
    · have c_8 : ¬ ((if mnG (twC mi 63 c0 c1 c2) (puC mi (pAt of)) = 8 then (1 : Int32) else 0) = 0) := of_decide_eq_false c_8
      refine wp_steps 2 (t' := (39, [some (.ref 0), some (.int of), some (.int w), some (.ref (pAt of))], [.int 1], (HD, m_1, ml, mr))) rfl ?_
      refine wp_ret rfl rfl ⟨⟨Nat.le_refl _, Nat.le_refl _⟩, ?_⟩
      have q : mnG (twC mi 63 c0 c1 c2) (puC mi (pAt of)) = 8 := Decidable.byContradiction fun z => c_8 (if_neg z)
      exact ⟨by unfold toG; rw [if_pos c_3, if_pos q], m_1, mr 73 2, by rw [mr_self], f1.wk (tw_U hρ).1⟩
