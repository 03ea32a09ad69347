/-! best, hours, takes, late, gap, faded (written by wip/whole/mkpub3.py) -/
theorem t_rows_i {X : aXt × Value} {mi : Nat → Nat → Int32} {ml : Nat → Nat → Int64} {mr : Nat → Nat → Option Nat} (hM : MRok mr) {ρ : Nat} {c0 c1 c2 : List Int32} (hρ : ρ ∈ TXS) (hr : mr 73 2 = some ρ) {hp : Int32} {t : tW} {b0 n : Int32} (h : aixn n 4 = true) : trC X mi ml mr ρ c0 c1 c2 9 76 [76] 0 n hp t b0 (trG t hp b0 n.toNatClampNeg) := by
  have q := t_rows (X := X) (mi := mi) (ml := ml) (c0 := c0) (c1 := c1) (c2 := c2) (hp := hp) (t := t) (b0 := b0) hM hρ hr (N := n.toNatClampNeg) (Nat.le_of_lt_succ (aix_out h).2)
  rw [← (aix_eq h).1] at q
  exact q
theorem t_takes_i {X : aXt × Value} {mi : Nat → Nat → Int32} {ml : Nat → Nat → Int64} {mr : Nat → Nat → Option Nat} (hM : MRok mr) {ρ : Nat} {c0 c1 c2 : List Int32} (hρ : ρ ∈ TXS) (hr : mr 63 2 = some ρ) (hx : TXok mi ρ c0 c1 c2) {P : Nat} (hP : P ∈ PU5) {hp n : Int32} (h : aixn n 10 = true) : aCW X 7 48 [.ref 69, .ref 63, .ref P, .int hp, .int n] (HD, mi, ml, mr) (anU mi ml (aup mr 73 2 (some ρ)) (tkG (twC mi 63 c0 c1 c2) (puC mi P) hp n.toNatClampNeg)) := by
  have q := t_takes (X := X) (mi := mi) (ml := ml) (hp := hp) hM hρ hr hx hP (H := n.toNatClampNeg) (Nat.le_of_lt_succ (aix_out h).2)
  rw [← (aix_eq h).1] at q
  exact q
theorem t_faded_i {X : aXt × Value} {mi : Nat → Nat → Int32} {ml : Nat → Nat → Int64} {mr : Nat → Nat → Option Nat} (hM : MRok mr) {ρ : Nat} {c0 c1 c2 : List Int32} (hρ : ρ ∈ TXS) (hr : mr 63 2 = some ρ) (hx : TXok mi ρ c0 c1 c2) {P : Nat} (hP : P ∈ PU5) {n : Int32} (h : aixn n 41 = true) : aCW X 7 51 [.ref 69, .ref 63, .ref P, .int n] (HD, mi, ml, mr) (anU mi ml (aup mr 73 2 (some ρ)) (nI (fdG (twC mi 63 c0 c1 c2) (puC mi P) n.toNatClampNeg))) := by
  have q := t_faded (X := X) (mi := mi) (ml := ml) hM hρ hr hx hP (n := n.toNatClampNeg) (Nat.le_of_lt_succ (aix_out h).2)
  rw [← (aix_eq h).1] at q
  exact q
theorem ax19 {x : Int32} (h : inR 1 9 x) : aixn x 10 = true := (inR_ax (hi := 9) (by decide) (by decide)).mp ⟨fun z => h.1 (by
  rw [Int32.lt_iff_toInt_lt] at z ⊢
  have e0 : (0 : Int32).toInt = 0 := rfl
  have e1 : (1 : Int32).toInt = 1 := rfl
  omega), h.2⟩
theorem ax03 {x : Int32} (h : inR 0 3 x) : aixn x 4 = true := (inR_ax (hi := 3) (by decide) (by decide)).mp h
theorem ax40 {x : Int32} (h : inR 0 40 x) : aixn x 41 = true := (inR_ax (hi := 40) (by decide) (by decide)).mp h
def bsG (t : tW) (u : pU) (w : Int32) : Int32 := if w = 0 then (beO t u 8 0 (-1, 0)).2 else (beO t u 8 0 (-1, 0)).1
def hwG (t : tW) (u : pU) (n : Nat) (hp w : Int32) : Int32 := if w = 0 then (trG t hp u.2.2.2.1 n u 0 (0, -1, 0)).1 else if w = 1 then (trG t hp u.2.2.2.1 n u 0 (0, -1, 0)).2.1 else (trG t hp u.2.2.2.1 n u 0 (0, -1, 0)).2.2
def gpG (t : tW) (u : pU) (w : Int32) : Int32 := if w = 0 then nI (wkF (maG t u) 8) else maG t u (wkF (maG t u) 8)
set_option maxRecDepth 20000 in
set_option maxHeartbeats 1000000 in
theorem c_late_no {X : aXt × Value} {mi : Nat → Nat → Int32} {ml : Nat → Nat → Int64} {mr : Nat → Nat → Option Nat} (hM : MRok mr) {N : Nat} (hN : mi 0 5 = nI N) (hN5 : N ≤ 5) {one s : Int32} (hg : ¬ aixn one N = true) : aCW X 3 82 [.ref 0, .int one, .int s] (HD, mi, ml, mr) (qU mi ml mr (.int (-2))) := by
  refine cw_of (cd := cd_X6_late) (nL := 4) rfl rfl ?_
  show aWP _ _ (0, [some (.ref 0), some (.int one), some (.int s), none], [], (HD, mi, ml, mr)) _
  refine wp_steps 2 (t' := (2, [some (.ref 0), some (.int one), some (.int s), none], [.int one, .ref 0], (HD, mi, ml, mr))) rfl ?_
  refine wp_calv (as := [.int one]) rfl rfl rfl (Nat.le_of_ble_eq_true rfl) ⟨by decide, rfl⟩ ((c_pupilAt_no hM hN hN5 hg)) (by decide) ?_
  rintro _ _ ⟨rfl, rfl⟩
  show aWP _ _ (3, [some (.ref 0), some (.int one), some (.int s), none], [.null], (HD, mi, ml, mr)) _
  refine wp_steps 2 (t' := (5, [some (.ref 0), some (.int one), some (.int s), some (.null)], [.null], (HD, mi, ml, mr))) rfl ?_
  refine wp_step (t' := (9, [some (.ref 0), some (.int one), some (.int s), some (.null)], [], (HD, mi, ml, mr))) rfl rfl ?_
  refine wp_steps 1 (t' := (10, [some (.ref 0), some (.int one), some (.int s), some (.null)], [.int (-2)], (HD, mi, ml, mr))) rfl ?_
  refine wp_ret rfl rfl ⟨⟨Nat.le_refl _, Nat.le_refl _⟩, ?_⟩
  exact ⟨rfl, mi, mr 73 2, by rw [mr_self], frm.rf _ _⟩
set_option maxRecDepth 20000 in
set_option maxHeartbeats 1000000 in
theorem c_late_ok {X : aXt × Value} {mi : Nat → Nat → Int32} {ml : Nat → Nat → Int64} {mr : Nat → Nat → Option Nat} (hM : MRok mr) {N : Nat} (hN : mi 0 5 = nI N) (hN5 : N ≤ 5) {ρ : Nat} {c0 c1 c2 : List Int32} (hρ : ρ ∈ TXS) (hr : mr 63 2 = some ρ) (hx : TXok mi ρ c0 c1 c2) {one s : Int32} (hg : aixn one N = true) : aCW X 8 82 [.ref 0, .int one, .int s] (HD, mi, ml, mr) (qU mi ml mr (.int (if aixn s 8 = true then blG (twC mi 63 c0 c1 c2) s.toNatClampNeg 31 0 (puC mi (pAt one)) else -2))) := by
  have hP := pAt_mem hg hN5
  refine cw_of (cd := cd_X6_late) (nL := 4) rfl rfl ?_
  show aWP _ _ (0, [some (.ref 0), some (.int one), some (.int s), none], [], (HD, mi, ml, mr)) _
  refine wp_steps 2 (t' := (2, [some (.ref 0), some (.int one), some (.int s), none], [.int one, .ref 0], (HD, mi, ml, mr))) rfl ?_
  refine wp_calv (as := [.int one]) rfl rfl rfl (Nat.le_of_ble_eq_true rfl) ⟨by decide, rfl⟩ ((c_pupilAt_ok (ml := ml) hM hN hN5 hg)) (by decide) ?_
  rintro _ _ ⟨rfl, rfl⟩
  show aWP _ _ (3, [some (.ref 0), some (.int one), some (.int s), none], [.ref (pAt one)], (HD, mi, ml, mr)) _
  refine wp_steps 2 (t' := (5, [some (.ref 0), some (.int one), some (.int s), some (.ref (pAt one))], [.ref (pAt one)], (HD, mi, ml, mr))) rfl ?_
  refine wp_step (t' := (6, [some (.ref 0), some (.int one), some (.int s), some (.ref (pAt one))], [], (HD, mi, ml, mr))) rfl rfl ?_
  refine wp_steps 1 (t' := (7, [some (.ref 0), some (.int one), some (.int s), some (.ref (pAt one))], [.int s], (HD, mi, ml, mr))) rfl ?_
  refine wp_cal (as := [.int s]) rfl rfl rfl (Nat.le_of_ble_eq_true rfl) (c_isStreet) (by decide) ?_
  rintro _ _ ⟨rfl, rfl⟩
  show aWP _ _ (8, [some (.ref 0), some (.int one), some (.int s), some (.ref (pAt one))], [.int (if aixn s 8 = true then (1 : Int32) else 0)], (HD, mi, ml, mr)) _
  refine wp_bI rfl (fun c_1 => ?_) (fun c_1 => ?_)
  · have c_1 : ¬ (if aixn s 8 = true then (1 : Int32) else 0) = 0 := of_decide_eq_true c_1
    refine wp_steps 1 (t' := (12, [some (.ref 0), some (.int one), some (.int s), some (.ref (pAt one))], [.ref 0], (HD, mi, ml, mr))) rfl ?_
    refine wp_getr rfl ⟨by decide, rfl⟩ rfl (hM (0, 9, 69) (by decide)) ?_
    refine wp_steps 1 (t' := (14, [some (.ref 0), some (.int one), some (.int s), some (.ref (pAt one))], [.ref 0, .ref 69], (HD, mi, ml, mr))) rfl ?_
    refine wp_getr rfl ⟨by decide, rfl⟩ rfl (hM (0, 3, 63) (by decide)) ?_
    refine wp_steps 2 (t' := (17, [some (.ref 0), some (.int one), some (.int s), some (.ref (pAt one))], [.int s, .ref (pAt one), .ref 63, .ref 69], (HD, mi, ml, mr))) rfl ?_
    refine wp_calv (as := [.ref 63, .ref (pAt one), .int s]) rfl rfl rfl (Nat.le_of_ble_eq_true rfl) ⟨by decide, rfl⟩ ((t_late (ml := ml) hM hρ hr hx hP (ite_aix c_1))) (by decide) ?_
    rintro _ _ ⟨rfl, m_1, rfl, f1⟩
    show aWP _ _ (18, [some (.ref 0), some (.int one), some (.int s), some (.ref (pAt one))], [.int (blG (twC mi 63 c0 c1 c2) s.toNatClampNeg 31 0 (puC mi (pAt one)))], (HD, m_1, ml, (aup mr 73 2 (some ρ)))) _
    refine wp_ret rfl rfl ⟨⟨Nat.le_refl _, Nat.le_refl _⟩, ?_⟩
    exact ⟨by rw [if_pos (show aixn s 8 = true from (ite_aix c_1))], m_1, some ρ, rfl, f1⟩
  · have c_1 : (if aixn s 8 = true then (1 : Int32) else 0) = 0 := Decidable.not_not.mp (of_decide_eq_false c_1)
    refine wp_steps 1 (t' := (10, [some (.ref 0), some (.int one), some (.int s), some (.ref (pAt one))], [.int (-2)], (HD, mi, ml, mr))) rfl ?_
    refine wp_ret rfl rfl ⟨⟨Nat.le_refl _, Nat.le_refl _⟩, ?_⟩
    exact ⟨by rw [if_neg (show ¬ (aixn s 8 = true) from fun z => (fun z => absurd (z.symm.trans (ite_nix c_1)) Bool.noConfusion) z)], mi, mr 73 2, by rw [mr_self], frm.rf _ _⟩
set_option maxRecDepth 20000 in
set_option maxHeartbeats 1000000 in
theorem c_faded_no {X : aXt × Value} {mi : Nat → Nat → Int32} {ml : Nat → Nat → Int64} {mr : Nat → Nat → Option Nat} (hM : MRok mr) {N : Nat} (hN : mi 0 5 = nI N) (hN5 : N ≤ 5) {one n : Int32} (hg : ¬ aixn one N = true) : aCW X 3 84 [.ref 0, .int one, .int n] (HD, mi, ml, mr) (qU mi ml mr (.int (-2))) := by
  refine cw_of (cd := cd_X6_faded) (nL := 4) rfl rfl ?_
  show aWP _ _ (0, [some (.ref 0), some (.int one), some (.int n), none], [], (HD, mi, ml, mr)) _
  refine wp_steps 2 (t' := (2, [some (.ref 0), some (.int one), some (.int n), none], [.int one, .ref 0], (HD, mi, ml, mr))) rfl ?_
  refine wp_calv (as := [.int one]) rfl rfl rfl (Nat.le_of_ble_eq_true rfl) ⟨by decide, rfl⟩ ((c_pupilAt_no hM hN hN5 hg)) (by decide) ?_
  rintro _ _ ⟨rfl, rfl⟩
  show aWP _ _ (3, [some (.ref 0), some (.int one), some (.int n), none], [.null], (HD, mi, ml, mr)) _
  refine wp_steps 2 (t' := (5, [some (.ref 0), some (.int one), some (.int n), some (.null)], [.null], (HD, mi, ml, mr))) rfl ?_
  refine wp_step (t' := (11, [some (.ref 0), some (.int one), some (.int n), some (.null)], [], (HD, mi, ml, mr))) rfl rfl ?_
  refine wp_steps 1 (t' := (12, [some (.ref 0), some (.int one), some (.int n), some (.null)], [.int (-2)], (HD, mi, ml, mr))) rfl ?_
  refine wp_ret rfl rfl ⟨⟨Nat.le_refl _, Nat.le_refl _⟩, ?_⟩
  exact ⟨rfl, mi, mr 73 2, by rw [mr_self], frm.rf _ _⟩
set_option maxRecDepth 20000 in
set_option maxHeartbeats 1000000 in
theorem c_faded_ok {X : aXt × Value} {mi : Nat → Nat → Int32} {ml : Nat → Nat → Int64} {mr : Nat → Nat → Option Nat} (hM : MRok mr) {N : Nat} (hN : mi 0 5 = nI N) (hN5 : N ≤ 5) {ρ : Nat} {c0 c1 c2 : List Int32} (hρ : ρ ∈ TXS) (hr : mr 63 2 = some ρ) (hx : TXok mi ρ c0 c1 c2) {one n : Int32} (hg : aixn one N = true) : aCW X 8 84 [.ref 0, .int one, .int n] (HD, mi, ml, mr) (qU mi ml mr (.int (if inR 0 40 n then nI (fdG (twC mi 63 c0 c1 c2) (puC mi (pAt one)) n.toNatClampNeg) else -2))) := by
  have hP := pAt_mem hg hN5
  refine cw_of (cd := cd_X6_faded) (nL := 4) rfl rfl ?_
  show aWP _ _ (0, [some (.ref 0), some (.int one), some (.int n), none], [], (HD, mi, ml, mr)) _
  refine wp_steps 2 (t' := (2, [some (.ref 0), some (.int one), some (.int n), none], [.int one, .ref 0], (HD, mi, ml, mr))) rfl ?_
  refine wp_calv (as := [.int one]) rfl rfl rfl (Nat.le_of_ble_eq_true rfl) ⟨by decide, rfl⟩ ((c_pupilAt_ok (ml := ml) hM hN hN5 hg)) (by decide) ?_
  rintro _ _ ⟨rfl, rfl⟩
  show aWP _ _ (3, [some (.ref 0), some (.int one), some (.int n), none], [.ref (pAt one)], (HD, mi, ml, mr)) _
  refine wp_steps 2 (t' := (5, [some (.ref 0), some (.int one), some (.int n), some (.ref (pAt one))], [.ref (pAt one)], (HD, mi, ml, mr))) rfl ?_
  refine wp_step (t' := (6, [some (.ref 0), some (.int one), some (.int n), some (.ref (pAt one))], [], (HD, mi, ml, mr))) rfl rfl ?_
  refine wp_steps 1 (t' := (7, [some (.ref 0), some (.int one), some (.int n), some (.ref (pAt one))], [.int n], (HD, mi, ml, mr))) rfl ?_
  refine wp_bI rfl (fun c_1 => ?_) (fun c_1 => ?_)
  · have c_1 : n < 0 := of_decide_eq_true c_1
    refine wp_steps 1 (t' := (12, [some (.ref 0), some (.int one), some (.int n), some (.ref (pAt one))], [.int (-2)], (HD, mi, ml, mr))) rfl ?_
    refine wp_ret rfl rfl ⟨⟨Nat.le_refl _, Nat.le_refl _⟩, ?_⟩
    exact ⟨by rw [if_neg (show ¬ (inR 0 40 n) from fun z => (fun z => z.1 c_1) z)], mi, mr 73 2, by rw [mr_self], frm.rf _ _⟩
  · have c_1 : ¬ (n < 0) := of_decide_eq_false c_1
    refine wp_steps 2 (t' := (10, [some (.ref 0), some (.int one), some (.int n), some (.ref (pAt one))], [.int 40, .int n], (HD, mi, ml, mr))) rfl ?_
    refine wp_bC rfl (fun c_2 => ?_) (fun c_2 => ?_)
    · have c_2 : n ≤ 40 := of_decide_eq_true c_2
      refine wp_steps 1 (t' := (14, [some (.ref 0), some (.int one), some (.int n), some (.ref (pAt one))], [.ref 0], (HD, mi, ml, mr))) rfl ?_
      refine wp_getr rfl ⟨by decide, rfl⟩ rfl (hM (0, 9, 69) (by decide)) ?_
      refine wp_steps 1 (t' := (16, [some (.ref 0), some (.int one), some (.int n), some (.ref (pAt one))], [.ref 0, .ref 69], (HD, mi, ml, mr))) rfl ?_
      refine wp_getr rfl ⟨by decide, rfl⟩ rfl (hM (0, 3, 63) (by decide)) ?_
      refine wp_steps 2 (t' := (19, [some (.ref 0), some (.int one), some (.int n), some (.ref (pAt one))], [.int n, .ref (pAt one), .ref 63, .ref 69], (HD, mi, ml, mr))) rfl ?_
      refine wp_calv (as := [.ref 63, .ref (pAt one), .int n]) rfl rfl rfl (Nat.le_of_ble_eq_true rfl) ⟨by decide, rfl⟩ ((t_faded_i (ml := ml) hM hρ hr hx hP (ax40 (show inR 0 40 n from ⟨c_1, (Int32.not_lt.mpr c_2)⟩)))) (by decide) ?_
      rintro _ _ ⟨rfl, m_1, rfl, f1⟩
      show aWP _ _ (20, [some (.ref 0), some (.int one), some (.int n), some (.ref (pAt one))], [.int (nI (fdG (twC mi 63 c0 c1 c2) (puC mi (pAt one)) n.toNatClampNeg))], (HD, m_1, ml, (aup mr 73 2 (some ρ)))) _
      refine wp_ret rfl rfl ⟨⟨Nat.le_refl _, Nat.le_refl _⟩, ?_⟩
      exact ⟨by rw [if_pos (show inR 0 40 n from ⟨c_1, (Int32.not_lt.mpr c_2)⟩)], m_1, some ρ, rfl, f1⟩
    · have c_2 : ¬ (n ≤ 40) := of_decide_eq_false c_2
      refine wp_steps 1 (t' := (12, [some (.ref 0), some (.int one), some (.int n), some (.ref (pAt one))], [.int (-2)], (HD, mi, ml, mr))) rfl ?_
      refine wp_ret rfl rfl ⟨⟨Nat.le_refl _, Nat.le_refl _⟩, ?_⟩
      exact ⟨by rw [if_neg (show ¬ (inR 0 40 n) from fun z => (fun z => z.2 (Int32.not_le.mp c_2)) z)], mi, mr 73 2, by rw [mr_self], frm.rf _ _⟩
set_option maxRecDepth 20000 in
set_option maxHeartbeats 1000000 in
theorem c_takes_no {X : aXt × Value} {mi : Nat → Nat → Int32} {ml : Nat → Nat → Int64} {mr : Nat → Nat → Option Nat} (hM : MRok mr) {N : Nat} (hN : mi 0 5 = nI N) (hN5 : N ≤ 5) {one hp h : Int32} (hg : ¬ aixn one N = true) : aCW X 3 81 [.ref 0, .int one, .int hp, .int h] (HD, mi, ml, mr) (qU mi ml mr (.int (-2))) := by
  refine cw_of (cd := cd_X6_takes) (nL := 5) rfl rfl ?_
  show aWP _ _ (0, [some (.ref 0), some (.int one), some (.int hp), some (.int h), none], [], (HD, mi, ml, mr)) _
  refine wp_steps 2 (t' := (2, [some (.ref 0), some (.int one), some (.int hp), some (.int h), none], [.int one, .ref 0], (HD, mi, ml, mr))) rfl ?_
  refine wp_calv (as := [.int one]) rfl rfl rfl (Nat.le_of_ble_eq_true rfl) ⟨by decide, rfl⟩ ((c_pupilAt_no hM hN hN5 hg)) (by decide) ?_
  rintro _ _ ⟨rfl, rfl⟩
  show aWP _ _ (3, [some (.ref 0), some (.int one), some (.int hp), some (.int h), none], [.null], (HD, mi, ml, mr)) _
  refine wp_steps 2 (t' := (5, [some (.ref 0), some (.int one), some (.int hp), some (.int h), some (.null)], [.null], (HD, mi, ml, mr))) rfl ?_
  refine wp_step (t' := (15, [some (.ref 0), some (.int one), some (.int hp), some (.int h), some (.null)], [], (HD, mi, ml, mr))) rfl rfl ?_
  refine wp_steps 1 (t' := (16, [some (.ref 0), some (.int one), some (.int hp), some (.int h), some (.null)], [.int (-2)], (HD, mi, ml, mr))) rfl ?_
  refine wp_ret rfl rfl ⟨⟨Nat.le_refl _, Nat.le_refl _⟩, ?_⟩
  exact ⟨rfl, mi, mr 73 2, by rw [mr_self], frm.rf _ _⟩
set_option maxRecDepth 20000 in
set_option maxHeartbeats 1000000 in
theorem c_takes_ok {X : aXt × Value} {mi : Nat → Nat → Int32} {ml : Nat → Nat → Int64} {mr : Nat → Nat → Option Nat} (hM : MRok mr) {N : Nat} (hN : mi 0 5 = nI N) (hN5 : N ≤ 5) {ρ : Nat} {c0 c1 c2 : List Int32} (hρ : ρ ∈ TXS) (hr : mr 63 2 = some ρ) (hx : TXok mi ρ c0 c1 c2) {one hp h : Int32} (hg : aixn one N = true) : aCW X 8 81 [.ref 0, .int one, .int hp, .int h] (HD, mi, ml, mr) (qU mi ml mr (.int (if aixn hp 3 = true ∧ inR 1 9 h then tkG (twC mi 63 c0 c1 c2) (puC mi (pAt one)) hp h.toNatClampNeg else -2))) := by
  have hP := pAt_mem hg hN5
  refine cw_of (cd := cd_X6_takes) (nL := 5) rfl rfl ?_
  show aWP _ _ (0, [some (.ref 0), some (.int one), some (.int hp), some (.int h), none], [], (HD, mi, ml, mr)) _
  refine wp_steps 2 (t' := (2, [some (.ref 0), some (.int one), some (.int hp), some (.int h), none], [.int one, .ref 0], (HD, mi, ml, mr))) rfl ?_
  refine wp_calv (as := [.int one]) rfl rfl rfl (Nat.le_of_ble_eq_true rfl) ⟨by decide, rfl⟩ ((c_pupilAt_ok (ml := ml) hM hN hN5 hg)) (by decide) ?_
  rintro _ _ ⟨rfl, rfl⟩
  show aWP _ _ (3, [some (.ref 0), some (.int one), some (.int hp), some (.int h), none], [.ref (pAt one)], (HD, mi, ml, mr)) _
  refine wp_steps 2 (t' := (5, [some (.ref 0), some (.int one), some (.int hp), some (.int h), some (.ref (pAt one))], [.ref (pAt one)], (HD, mi, ml, mr))) rfl ?_
  refine wp_step (t' := (6, [some (.ref 0), some (.int one), some (.int hp), some (.int h), some (.ref (pAt one))], [], (HD, mi, ml, mr))) rfl rfl ?_
  refine wp_steps 1 (t' := (7, [some (.ref 0), some (.int one), some (.int hp), some (.int h), some (.ref (pAt one))], [.int hp], (HD, mi, ml, mr))) rfl ?_
  refine wp_cal (as := [.int hp]) rfl rfl rfl (Nat.le_of_ble_eq_true rfl) (c_isHelp) (by decide) ?_
  rintro _ _ ⟨rfl, rfl⟩
  show aWP _ _ (8, [some (.ref 0), some (.int one), some (.int hp), some (.int h), some (.ref (pAt one))], [.int (if aixn hp 3 = true then (1 : Int32) else 0)], (HD, mi, ml, mr)) _
  refine wp_bI rfl (fun c_1 => ?_) (fun c_1 => ?_)
  · have c_1 : (if aixn hp 3 = true then (1 : Int32) else 0) = 0 := of_decide_eq_true c_1
    refine wp_steps 1 (t' := (16, [some (.ref 0), some (.int one), some (.int hp), some (.int h), some (.ref (pAt one))], [.int (-2)], (HD, mi, ml, mr))) rfl ?_
    refine wp_ret rfl rfl ⟨⟨Nat.le_refl _, Nat.le_refl _⟩, ?_⟩
    exact ⟨by rw [if_neg (show ¬ (aixn hp 3 = true ∧ inR 1 9 h) from fun z => (fun z => absurd (z.symm.trans (ite_nix c_1)) Bool.noConfusion) z.1)], mi, mr 73 2, by rw [mr_self], frm.rf _ _⟩
  · have c_1 : ¬ ((if aixn hp 3 = true then (1 : Int32) else 0) = 0) := of_decide_eq_false c_1
    refine wp_steps 2 (t' := (11, [some (.ref 0), some (.int one), some (.int hp), some (.int h), some (.ref (pAt one))], [.int 1, .int h], (HD, mi, ml, mr))) rfl ?_
    refine wp_bC rfl (fun c_2 => ?_) (fun c_2 => ?_)
    · have c_2 : h < 1 := of_decide_eq_true c_2
      refine wp_steps 1 (t' := (16, [some (.ref 0), some (.int one), some (.int hp), some (.int h), some (.ref (pAt one))], [.int (-2)], (HD, mi, ml, mr))) rfl ?_
      refine wp_ret rfl rfl ⟨⟨Nat.le_refl _, Nat.le_refl _⟩, ?_⟩
      exact ⟨by rw [if_neg (show ¬ (aixn hp 3 = true ∧ inR 1 9 h) from fun z => (fun z => z.1 c_2) z.2)], mi, mr 73 2, by rw [mr_self], frm.rf _ _⟩
    · have c_2 : ¬ (h < 1) := of_decide_eq_false c_2
      refine wp_steps 2 (t' := (14, [some (.ref 0), some (.int one), some (.int hp), some (.int h), some (.ref (pAt one))], [.int 9, .int h], (HD, mi, ml, mr))) rfl ?_
      refine wp_bC rfl (fun c_3 => ?_) (fun c_3 => ?_)
      · have c_3 : h ≤ 9 := of_decide_eq_true c_3
        refine wp_steps 1 (t' := (18, [some (.ref 0), some (.int one), some (.int hp), some (.int h), some (.ref (pAt one))], [.ref 0], (HD, mi, ml, mr))) rfl ?_
        refine wp_getr rfl ⟨by decide, rfl⟩ rfl (hM (0, 9, 69) (by decide)) ?_
        refine wp_steps 1 (t' := (20, [some (.ref 0), some (.int one), some (.int hp), some (.int h), some (.ref (pAt one))], [.ref 0, .ref 69], (HD, mi, ml, mr))) rfl ?_
        refine wp_getr rfl ⟨by decide, rfl⟩ rfl (hM (0, 3, 63) (by decide)) ?_
        refine wp_steps 3 (t' := (24, [some (.ref 0), some (.int one), some (.int hp), some (.int h), some (.ref (pAt one))], [.int h, .int hp, .ref (pAt one), .ref 63, .ref 69], (HD, mi, ml, mr))) rfl ?_
        refine wp_calv (as := [.ref 63, .ref (pAt one), .int hp, .int h]) rfl rfl rfl (Nat.le_of_ble_eq_true rfl) ⟨by decide, rfl⟩ ((t_takes_i (ml := ml) hM hρ hr hx hP (ax19 (show aixn hp 3 = true ∧ inR 1 9 h from ⟨(ite_aix c_1), ⟨c_2, (Int32.not_lt.mpr c_3)⟩⟩).2))) (by decide) ?_
        rintro _ _ ⟨rfl, m_1, rfl, f1⟩
        show aWP _ _ (25, [some (.ref 0), some (.int one), some (.int hp), some (.int h), some (.ref (pAt one))], [.int (tkG (twC mi 63 c0 c1 c2) (puC mi (pAt one)) hp h.toNatClampNeg)], (HD, m_1, ml, (aup mr 73 2 (some ρ)))) _
        refine wp_ret rfl rfl ⟨⟨Nat.le_refl _, Nat.le_refl _⟩, ?_⟩
        exact ⟨by rw [if_pos (show aixn hp 3 = true ∧ inR 1 9 h from ⟨(ite_aix c_1), ⟨c_2, (Int32.not_lt.mpr c_3)⟩⟩)], m_1, some ρ, rfl, f1⟩
      · have c_3 : ¬ (h ≤ 9) := of_decide_eq_false c_3
        refine wp_steps 1 (t' := (16, [some (.ref 0), some (.int one), some (.int hp), some (.int h), some (.ref (pAt one))], [.int (-2)], (HD, mi, ml, mr))) rfl ?_
        refine wp_ret rfl rfl ⟨⟨Nat.le_refl _, Nat.le_refl _⟩, ?_⟩
        exact ⟨by rw [if_neg (show ¬ (aixn hp 3 = true ∧ inR 1 9 h) from fun z => (fun z => z.2 (Int32.not_le.mp c_3)) z.2)], mi, mr 73 2, by rw [mr_self], frm.rf _ _⟩
theorem pa_S {ρ P : Nat} (h : ρ ∈ TXS) (hP : P ∈ PU5) : P ∉ [63 + 2, ρ + 3] ∧ P + 1 ∉ [63 + 2, ρ + 3] := by
  revert P
  revert ρ
  decide
set_option maxRecDepth 20000 in
set_option maxHeartbeats 1000000 in
theorem c_gap_no {X : aXt × Value} {mi : Nat → Nat → Int32} {ml : Nat → Nat → Int64} {mr : Nat → Nat → Option Nat} (hM : MRok mr) {N : Nat} (hN : mi 0 5 = nI N) (hN5 : N ≤ 5) {one w : Int32} (hg : ¬ aixn one N = true) : aCW X 3 83 [.ref 0, .int one, .int w] (HD, mi, ml, mr) (qU mi ml mr (.int (-1000))) := by
  refine cw_of (cd := cd_X6_gap) (nL := 5) rfl rfl ?_
  show aWP _ _ (0, [some (.ref 0), some (.int one), some (.int w), none, none], [], (HD, mi, ml, mr)) _
  refine wp_steps 2 (t' := (2, [some (.ref 0), some (.int one), some (.int w), none, none], [.int one, .ref 0], (HD, mi, ml, mr))) rfl ?_
  refine wp_calv (as := [.int one]) rfl rfl rfl (Nat.le_of_ble_eq_true rfl) ⟨by decide, rfl⟩ ((c_pupilAt_no hM hN hN5 hg)) (by decide) ?_
  rintro _ _ ⟨rfl, rfl⟩
  show aWP _ _ (3, [some (.ref 0), some (.int one), some (.int w), none, none], [.null], (HD, mi, ml, mr)) _
  refine wp_steps 2 (t' := (5, [some (.ref 0), some (.int one), some (.int w), some (.null), none], [.null], (HD, mi, ml, mr))) rfl ?_
  refine wp_step (t' := (11, [some (.ref 0), some (.int one), some (.int w), some (.null), none], [], (HD, mi, ml, mr))) rfl rfl ?_
  refine wp_steps 1 (t' := (12, [some (.ref 0), some (.int one), some (.int w), some (.null), none], [.int (-1000)], (HD, mi, ml, mr))) rfl ?_
  refine wp_ret rfl rfl ⟨⟨Nat.le_refl _, Nat.le_refl _⟩, ?_⟩
  exact ⟨rfl, mi, mr 73 2, by rw [mr_self], frm.rf _ _⟩
set_option maxRecDepth 20000 in
set_option maxHeartbeats 1000000 in
theorem c_gap_ok {X : aXt × Value} {mi : Nat → Nat → Int32} {ml : Nat → Nat → Int64} {mr : Nat → Nat → Option Nat} (hM : MRok mr) {N : Nat} (hN : mi 0 5 = nI N) (hN5 : N ≤ 5) {ρ : Nat} {c0 c1 c2 : List Int32} (hρ : ρ ∈ TXS) (hr : mr 63 2 = some ρ) (hx : TXok mi ρ c0 c1 c2) {one w : Int32} (hg : aixn one N = true) : aCW X 6 83 [.ref 0, .int one, .int w] (HD, mi, ml, mr) (qU mi ml mr (.int (if inR 0 1 w then gpG (twC mi 63 c0 c1 c2) (puC mi (pAt one)) w else -1000))) := by
  have hP := pAt_mem hg hN5
  refine cw_of (cd := cd_X6_gap) (nL := 5) rfl rfl ?_
  show aWP _ _ (0, [some (.ref 0), some (.int one), some (.int w), none, none], [], (HD, mi, ml, mr)) _
  refine wp_steps 2 (t' := (2, [some (.ref 0), some (.int one), some (.int w), none, none], [.int one, .ref 0], (HD, mi, ml, mr))) rfl ?_
  refine wp_calv (as := [.int one]) rfl rfl rfl (Nat.le_of_ble_eq_true rfl) ⟨by decide, rfl⟩ ((c_pupilAt_ok (ml := ml) hM hN hN5 hg)) (by decide) ?_
  rintro _ _ ⟨rfl, rfl⟩
  show aWP _ _ (3, [some (.ref 0), some (.int one), some (.int w), none, none], [.ref (pAt one)], (HD, mi, ml, mr)) _
  refine wp_steps 2 (t' := (5, [some (.ref 0), some (.int one), some (.int w), some (.ref (pAt one)), none], [.ref (pAt one)], (HD, mi, ml, mr))) rfl ?_
  refine wp_step (t' := (6, [some (.ref 0), some (.int one), some (.int w), some (.ref (pAt one)), none], [], (HD, mi, ml, mr))) rfl rfl ?_
  refine wp_steps 1 (t' := (7, [some (.ref 0), some (.int one), some (.int w), some (.ref (pAt one)), none], [.int w], (HD, mi, ml, mr))) rfl ?_
  refine wp_bI rfl (fun c_1 => ?_) (fun c_1 => ?_)
  · have c_1 : w < 0 := of_decide_eq_true c_1
    refine wp_steps 1 (t' := (12, [some (.ref 0), some (.int one), some (.int w), some (.ref (pAt one)), none], [.int (-1000)], (HD, mi, ml, mr))) rfl ?_
    refine wp_ret rfl rfl ⟨⟨Nat.le_refl _, Nat.le_refl _⟩, ?_⟩
    exact ⟨by rw [if_neg (show ¬ (inR 0 1 w) from fun z => (fun z => z.1 c_1) z)], mi, mr 73 2, by rw [mr_self], frm.rf _ _⟩
  · have c_1 : ¬ (w < 0) := of_decide_eq_false c_1
    refine wp_steps 2 (t' := (10, [some (.ref 0), some (.int one), some (.int w), some (.ref (pAt one)), none], [.int 1, .int w], (HD, mi, ml, mr))) rfl ?_
    refine wp_bC rfl (fun c_2 => ?_) (fun c_2 => ?_)
    · have c_2 : w ≤ 1 := of_decide_eq_true c_2
      refine wp_steps 1 (t' := (14, [some (.ref 0), some (.int one), some (.int w), some (.ref (pAt one)), none], [.ref 0], (HD, mi, ml, mr))) rfl ?_
      refine wp_getr rfl ⟨by decide, rfl⟩ rfl (hM (0, 3, 63) (by decide)) ?_
      refine wp_steps 1 (t' := (16, [some (.ref 0), some (.int one), some (.int w), some (.ref (pAt one)), none], [.ref (pAt one), .ref 63], (HD, mi, ml, mr))) rfl ?_
      refine wp_calv (as := [.ref (pAt one)]) rfl rfl rfl (Nat.le_of_ble_eq_true rfl) ⟨by decide, rfl⟩ ((g_leastManaged (ml := ml) hM (T := 63) (by decide) (p5_U hP).2.2.1 hρ hr hx)) (by decide) ?_
      rintro _ _ ⟨m_1, f1, rfl, rfl⟩
      show aWP _ _ (17, [some (.ref 0), some (.int one), some (.int w), some (.ref (pAt one)), none], [.int (nI (wkF (maG (twC mi 63 c0 c1 c2) (puC mi (pAt one))) 8))], (HD, m_1, ml, mr)) _
      refine wp_steps 2 (t' := (19, [some (.ref 0), some (.int one), some (.int w), some (.ref (pAt one)), some (.int (nI (wkF (maG (twC mi 63 c0 c1 c2) (puC mi (pAt one))) 8)))], [.int w], (HD, m_1, ml, mr))) rfl ?_
      refine wp_bI rfl (fun c_3 => ?_) (fun c_3 => ?_)
      · have c_3 : ¬ w = 0 := of_decide_eq_true c_3
        refine wp_steps 1 (t' := (23, [some (.ref 0), some (.int one), some (.int w), some (.ref (pAt one)), some (.int (nI (wkF (maG (twC mi 63 c0 c1 c2) (puC mi (pAt one))) 8)))], [.ref 0], (HD, m_1, ml, mr))) rfl ?_
        refine wp_getr rfl ⟨by decide, rfl⟩ rfl (hM (0, 3, 63) (by decide)) ?_
        refine wp_steps 2 (t' := (26, [some (.ref 0), some (.int one), some (.int w), some (.ref (pAt one)), some (.int (nI (wkF (maG (twC mi 63 c0 c1 c2) (puC mi (pAt one))) 8)))], [.int (nI (wkF (maG (twC mi 63 c0 c1 c2) (puC mi (pAt one))) 8)), .ref (pAt one), .ref 63], (HD, m_1, ml, mr))) rfl ?_
        refine wp_calv (as := [.ref (pAt one), .int (nI (wkF (maG (twC mi 63 c0 c1 c2) (puC mi (pAt one))) 8))]) rfl rfl rfl (Nat.le_of_ble_eq_true rfl) ⟨by decide, rfl⟩ ((g_margin (mi := m_1) (ml := ml) hM (T := 63) (by decide) (p5_U hP).2.2.1 hρ hr (TXok_fr f1 hx (pc_S hρ).1 (pc_S hρ).2.1) (aix_nI (wkF_lt _ 8 (by decide)) (by decide)))) (by decide) ?_
        rintro _ _ ⟨m_2, f2, rfl, rfl⟩
        rw [twC_fr f1 (pc_S hρ).2.2.1 (pc_S hρ).2.2.2.1, puC_fr f1 (pa_S hρ hP).1 (pa_S hρ hP).2, nI_clamp (Nat.lt_trans (wkF_lt (maG (twC mi 63 c0 c1 c2) (puC mi (pAt one))) 8 (by decide)) (by decide))]
        show aWP _ _ (27, [some (.ref 0), some (.int one), some (.int w), some (.ref (pAt one)), some (.int (nI (wkF (maG (twC mi 63 c0 c1 c2) (puC mi (pAt one))) 8)))], [.int (maG (twC mi 63 c0 c1 c2) (puC mi (pAt one)) (wkF (maG (twC mi 63 c0 c1 c2) (puC mi (pAt one))) 8))], (HD, m_2, ml, mr)) _
        refine wp_ret rfl rfl ⟨⟨Nat.le_refl _, Nat.le_refl _⟩, ?_⟩
        exact ⟨by rw [if_pos (show inR 0 1 w from ⟨c_1, (Int32.not_lt.mpr c_2)⟩)]; unfold gpG; rw [if_neg c_3], m_2, mr 73 2, by rw [mr_self], (f1.tr f2).wk (tw_U hρ).1⟩
      · have c_3 : w = 0 := Decidable.not_not.mp (of_decide_eq_false c_3)
        refine wp_steps 2 (t' := (27, [some (.ref 0), some (.int one), some (.int w), some (.ref (pAt one)), some (.int (nI (wkF (maG (twC mi 63 c0 c1 c2) (puC mi (pAt one))) 8)))], [.int (nI (wkF (maG (twC mi 63 c0 c1 c2) (puC mi (pAt one))) 8))], (HD, m_1, ml, mr))) rfl ?_
        refine wp_ret rfl rfl ⟨⟨Nat.le_refl _, Nat.le_refl _⟩, ?_⟩
        exact ⟨by rw [if_pos (show inR 0 1 w from ⟨c_1, (Int32.not_lt.mpr c_2)⟩)]; unfold gpG; rw [if_pos c_3], m_1, mr 73 2, by rw [mr_self], f1.wk (tw_U hρ).1⟩
    · have c_2 : ¬ (w ≤ 1) := of_decide_eq_false c_2
      refine wp_steps 1 (t' := (12, [some (.ref 0), some (.int one), some (.int w), some (.ref (pAt one)), none], [.int (-1000)], (HD, mi, ml, mr))) rfl ?_
      refine wp_ret rfl rfl ⟨⟨Nat.le_refl _, Nat.le_refl _⟩, ?_⟩
      exact ⟨by rw [if_neg (show ¬ (inR 0 1 w) from fun z => (fun z => z.2 (Int32.not_le.mp c_2)) z)], mi, mr 73 2, by rw [mr_self], frm.rf _ _⟩
set_option maxRecDepth 20000 in
set_option maxHeartbeats 1000000 in
theorem c_best_no {X : aXt × Value} {mi : Nat → Nat → Int32} {ml : Nat → Nat → Int64} {mr : Nat → Nat → Option Nat} (hM : MRok mr) {N : Nat} (hN : mi 0 5 = nI N) (hN5 : N ≤ 5) {one w : Int32} (hg : ¬ aixn one N = true) : aCW X 3 79 [.ref 0, .int one, .int w] (HD, mi, ml, mr) (qU mi ml mr (.int (-2))) := by
  refine cw_of (cd := cd_X6_best) (nL := 4) rfl rfl ?_
  show aWP _ _ (0, [some (.ref 0), some (.int one), some (.int w), none], [], (HD, mi, ml, mr)) _
  refine wp_steps 2 (t' := (2, [some (.ref 0), some (.int one), some (.int w), none], [.int one, .ref 0], (HD, mi, ml, mr))) rfl ?_
  refine wp_calv (as := [.int one]) rfl rfl rfl (Nat.le_of_ble_eq_true rfl) ⟨by decide, rfl⟩ ((c_pupilAt_no hM hN hN5 hg)) (by decide) ?_
  rintro _ _ ⟨rfl, rfl⟩
  show aWP _ _ (3, [some (.ref 0), some (.int one), some (.int w), none], [.null], (HD, mi, ml, mr)) _
  refine wp_steps 2 (t' := (5, [some (.ref 0), some (.int one), some (.int w), some (.null)], [.null], (HD, mi, ml, mr))) rfl ?_
  refine wp_step (t' := (11, [some (.ref 0), some (.int one), some (.int w), some (.null)], [], (HD, mi, ml, mr))) rfl rfl ?_
  refine wp_steps 1 (t' := (12, [some (.ref 0), some (.int one), some (.int w), some (.null)], [.int (-2)], (HD, mi, ml, mr))) rfl ?_
  refine wp_ret rfl rfl ⟨⟨Nat.le_refl _, Nat.le_refl _⟩, ?_⟩
  exact ⟨rfl, mi, mr 73 2, by rw [mr_self], frm.rf _ _⟩
set_option maxRecDepth 20000 in
set_option maxHeartbeats 1000000 in
theorem c_best_ok {X : aXt × Value} {mi : Nat → Nat → Int32} {ml : Nat → Nat → Int64} {mr : Nat → Nat → Option Nat} (hM : MRok mr) {N : Nat} (hN : mi 0 5 = nI N) (hN5 : N ≤ 5) {ρ : Nat} {c0 c1 c2 : List Int32} (hρ : ρ ∈ TXS) (hr : mr 63 2 = some ρ) (hx : TXok mi ρ c0 c1 c2) {one w : Int32} (hg : aixn one N = true) : aCW X 8 79 [.ref 0, .int one, .int w] (HD, mi, ml, mr) (qU mi ml mr (.int (if inR 0 1 w then bsG (twC mi 63 c0 c1 c2) (puC mi (pAt one)) w else -2))) := by
  have hP := pAt_mem hg hN5
  refine cw_of (cd := cd_X6_best) (nL := 4) rfl rfl ?_
  show aWP _ _ (0, [some (.ref 0), some (.int one), some (.int w), none], [], (HD, mi, ml, mr)) _
  refine wp_steps 2 (t' := (2, [some (.ref 0), some (.int one), some (.int w), none], [.int one, .ref 0], (HD, mi, ml, mr))) rfl ?_
  refine wp_calv (as := [.int one]) rfl rfl rfl (Nat.le_of_ble_eq_true rfl) ⟨by decide, rfl⟩ ((c_pupilAt_ok (ml := ml) hM hN hN5 hg)) (by decide) ?_
  rintro _ _ ⟨rfl, rfl⟩
  show aWP _ _ (3, [some (.ref 0), some (.int one), some (.int w), none], [.ref (pAt one)], (HD, mi, ml, mr)) _
  refine wp_steps 2 (t' := (5, [some (.ref 0), some (.int one), some (.int w), some (.ref (pAt one))], [.ref (pAt one)], (HD, mi, ml, mr))) rfl ?_
  refine wp_step (t' := (6, [some (.ref 0), some (.int one), some (.int w), some (.ref (pAt one))], [], (HD, mi, ml, mr))) rfl rfl ?_
  refine wp_steps 1 (t' := (7, [some (.ref 0), some (.int one), some (.int w), some (.ref (pAt one))], [.int w], (HD, mi, ml, mr))) rfl ?_
  refine wp_bI rfl (fun c_1 => ?_) (fun c_1 => ?_)
  · have c_1 : w < 0 := of_decide_eq_true c_1
    refine wp_steps 1 (t' := (12, [some (.ref 0), some (.int one), some (.int w), some (.ref (pAt one))], [.int (-2)], (HD, mi, ml, mr))) rfl ?_
    refine wp_ret rfl rfl ⟨⟨Nat.le_refl _, Nat.le_refl _⟩, ?_⟩
    exact ⟨by rw [if_neg (show ¬ (inR 0 1 w) from fun z => (fun z => z.1 c_1) z)], mi, mr 73 2, by rw [mr_self], frm.rf _ _⟩
  · have c_1 : ¬ (w < 0) := of_decide_eq_false c_1
    refine wp_steps 2 (t' := (10, [some (.ref 0), some (.int one), some (.int w), some (.ref (pAt one))], [.int 1, .int w], (HD, mi, ml, mr))) rfl ?_
    refine wp_bC rfl (fun c_2 => ?_) (fun c_2 => ?_)
    · have c_2 : w ≤ 1 := of_decide_eq_true c_2
      refine wp_steps 1 (t' := (14, [some (.ref 0), some (.int one), some (.int w), some (.ref (pAt one))], [.ref 0], (HD, mi, ml, mr))) rfl ?_
      refine wp_getr rfl ⟨by decide, rfl⟩ rfl (hM (0, 9, 69) (by decide)) ?_
      refine wp_steps 1 (t' := (16, [some (.ref 0), some (.int one), some (.int w), some (.ref (pAt one))], [.ref 0, .ref 69], (HD, mi, ml, mr))) rfl ?_
      refine wp_getr rfl ⟨by decide, rfl⟩ rfl (hM (0, 3, 63) (by decide)) ?_
      refine wp_steps 2 (t' := (19, [some (.ref 0), some (.int one), some (.int w), some (.ref (pAt one))], [.int w, .ref (pAt one), .ref 63, .ref 69], (HD, mi, ml, mr))) rfl ?_
      refine wp_bI rfl (fun c_3 => ?_) (fun c_3 => ?_)
      · have c_3 : ¬ w = 0 := of_decide_eq_true c_3
        refine wp_steps 1 (t' := (23, [some (.ref 0), some (.int one), some (.int w), some (.ref (pAt one))], [.int 0, .ref (pAt one), .ref 63, .ref 69], (HD, mi, ml, mr))) rfl ?_
        refine wp_calv (as := [.ref 63, .ref (pAt one), .int 0]) rfl rfl rfl (Nat.le_of_ble_eq_true rfl) ⟨by decide, rfl⟩ ((t_best (ml := ml) hM hρ hr hx hP (b := 0))) (by decide) ?_
        rintro _ _ ⟨rfl, m_1, w_1, rfl, f1⟩
        show aWP _ _ (24, [some (.ref 0), some (.int one), some (.int w), some (.ref (pAt one))], [.int (if (0 : Int32) = 0 then (beO (twC mi 63 c0 c1 c2) (puC mi (pAt one)) 8 0 (-1, 0)).1 else (beO (twC mi 63 c0 c1 c2) (puC mi (pAt one)) 8 0 (-1, 0)).2)], (HD, m_1, ml, (aup mr 73 2 w_1))) _
        refine wp_ret rfl rfl ⟨⟨Nat.le_refl _, Nat.le_refl _⟩, ?_⟩
        exact ⟨by rw [if_pos (show inR 0 1 w from ⟨c_1, (Int32.not_lt.mpr c_2)⟩)]; unfold bsG; rw [if_neg c_3]; rfl, m_1, w_1, rfl, f1⟩
      · have c_3 : w = 0 := Decidable.not_not.mp (of_decide_eq_false c_3)
        refine wp_steps 2 (t' := (23, [some (.ref 0), some (.int one), some (.int w), some (.ref (pAt one))], [.int 1, .ref (pAt one), .ref 63, .ref 69], (HD, mi, ml, mr))) rfl ?_
        refine wp_calv (as := [.ref 63, .ref (pAt one), .int 1]) rfl rfl rfl (Nat.le_of_ble_eq_true rfl) ⟨by decide, rfl⟩ ((t_best (ml := ml) hM hρ hr hx hP (b := 1))) (by decide) ?_
        rintro _ _ ⟨rfl, m_1, w_1, rfl, f1⟩
        show aWP _ _ (24, [some (.ref 0), some (.int one), some (.int w), some (.ref (pAt one))], [.int (if (1 : Int32) = 0 then (beO (twC mi 63 c0 c1 c2) (puC mi (pAt one)) 8 0 (-1, 0)).1 else (beO (twC mi 63 c0 c1 c2) (puC mi (pAt one)) 8 0 (-1, 0)).2)], (HD, m_1, ml, (aup mr 73 2 w_1))) _
        refine wp_ret rfl rfl ⟨⟨Nat.le_refl _, Nat.le_refl _⟩, ?_⟩
        exact ⟨by rw [if_pos (show inR 0 1 w from ⟨c_1, (Int32.not_lt.mpr c_2)⟩)]; unfold bsG; rw [if_pos c_3]; rfl, m_1, w_1, rfl, f1⟩
    · have c_2 : ¬ (w ≤ 1) := of_decide_eq_false c_2
      refine wp_steps 1 (t' := (12, [some (.ref 0), some (.int one), some (.int w), some (.ref (pAt one))], [.int (-2)], (HD, mi, ml, mr))) rfl ?_
      refine wp_ret rfl rfl ⟨⟨Nat.le_refl _, Nat.le_refl _⟩, ?_⟩
      exact ⟨by rw [if_neg (show ¬ (inR 0 1 w) from fun z => (fun z => z.2 (Int32.not_le.mp c_2)) z)], mi, mr 73 2, by rw [mr_self], frm.rf _ _⟩
set_option maxRecDepth 20000 in
set_option maxHeartbeats 1000000 in
theorem c_hours_no {X : aXt × Value} {mi : Nat → Nat → Int32} {ml : Nat → Nat → Int64} {mr : Nat → Nat → Option Nat} (hM : MRok mr) {N : Nat} (hN : mi 0 5 = nI N) (hN5 : N ≤ 5) {one n hp w : Int32} (hg : ¬ aixn one N = true) : aCW X 3 80 [.ref 0, .int one, .int n, .int hp, .int w] (HD, mi, ml, mr) (qU mi ml mr (.int (-2))) := by
  refine cw_of (cd := cd_X6_hours) (nL := 6) rfl rfl ?_
  show aWP _ _ (0, [some (.ref 0), some (.int one), some (.int n), some (.int hp), some (.int w), none], [], (HD, mi, ml, mr)) _
  refine wp_steps 2 (t' := (2, [some (.ref 0), some (.int one), some (.int n), some (.int hp), some (.int w), none], [.int one, .ref 0], (HD, mi, ml, mr))) rfl ?_
  refine wp_calv (as := [.int one]) rfl rfl rfl (Nat.le_of_ble_eq_true rfl) ⟨by decide, rfl⟩ ((c_pupilAt_no hM hN hN5 hg)) (by decide) ?_
  rintro _ _ ⟨rfl, rfl⟩
  show aWP _ _ (3, [some (.ref 0), some (.int one), some (.int n), some (.int hp), some (.int w), none], [.null], (HD, mi, ml, mr)) _
  refine wp_steps 2 (t' := (5, [some (.ref 0), some (.int one), some (.int n), some (.int hp), some (.int w), some (.null)], [.null], (HD, mi, ml, mr))) rfl ?_
  refine wp_step (t' := (19, [some (.ref 0), some (.int one), some (.int n), some (.int hp), some (.int w), some (.null)], [], (HD, mi, ml, mr))) rfl rfl ?_
  refine wp_steps 1 (t' := (20, [some (.ref 0), some (.int one), some (.int n), some (.int hp), some (.int w), some (.null)], [.int (-2)], (HD, mi, ml, mr))) rfl ?_
  refine wp_ret rfl rfl ⟨⟨Nat.le_refl _, Nat.le_refl _⟩, ?_⟩
  exact ⟨rfl, mi, mr 73 2, by rw [mr_self], frm.rf _ _⟩
set_option maxRecDepth 20000 in
set_option maxHeartbeats 1000000 in
theorem c_hours_ok {X : aXt × Value} {mi : Nat → Nat → Int32} {ml : Nat → Nat → Int64} {mr : Nat → Nat → Option Nat} (hM : MRok mr) {N : Nat} (hN : mi 0 5 = nI N) (hN5 : N ≤ 5) {ρ : Nat} {c0 c1 c2 : List Int32} (hρ : ρ ∈ TXS) (hr : mr 63 2 = some ρ) (hx : TXok mi ρ c0 c1 c2) {one n hp w : Int32} (hg : aixn one N = true) : aCW X 10 80 [.ref 0, .int one, .int n, .int hp, .int w] (HD, mi, ml, mr) (qU mi ml mr (.int (if inR 0 3 n ∧ aixn hp 3 = true ∧ inR 0 2 w then hwG (twC mi 63 c0 c1 c2) (puC mi (pAt one)) n.toNatClampNeg hp w else -2))) := by
  have hP := pAt_mem hg hN5
  refine cw_of (cd := cd_X6_hours) (nL := 6) rfl rfl ?_
  show aWP _ _ (0, [some (.ref 0), some (.int one), some (.int n), some (.int hp), some (.int w), none], [], (HD, mi, ml, mr)) _
  refine wp_steps 2 (t' := (2, [some (.ref 0), some (.int one), some (.int n), some (.int hp), some (.int w), none], [.int one, .ref 0], (HD, mi, ml, mr))) rfl ?_
  refine wp_calv (as := [.int one]) rfl rfl rfl (Nat.le_of_ble_eq_true rfl) ⟨by decide, rfl⟩ ((c_pupilAt_ok (ml := ml) hM hN hN5 hg)) (by decide) ?_
  rintro _ _ ⟨rfl, rfl⟩
  show aWP _ _ (3, [some (.ref 0), some (.int one), some (.int n), some (.int hp), some (.int w), none], [.ref (pAt one)], (HD, mi, ml, mr)) _
  refine wp_steps 2 (t' := (5, [some (.ref 0), some (.int one), some (.int n), some (.int hp), some (.int w), some (.ref (pAt one))], [.ref (pAt one)], (HD, mi, ml, mr))) rfl ?_
  refine wp_step (t' := (6, [some (.ref 0), some (.int one), some (.int n), some (.int hp), some (.int w), some (.ref (pAt one))], [], (HD, mi, ml, mr))) rfl rfl ?_
  refine wp_steps 1 (t' := (7, [some (.ref 0), some (.int one), some (.int n), some (.int hp), some (.int w), some (.ref (pAt one))], [.int n], (HD, mi, ml, mr))) rfl ?_
  refine wp_bI rfl (fun c_1 => ?_) (fun c_1 => ?_)
  · have c_1 : n < 0 := of_decide_eq_true c_1
    refine wp_steps 1 (t' := (20, [some (.ref 0), some (.int one), some (.int n), some (.int hp), some (.int w), some (.ref (pAt one))], [.int (-2)], (HD, mi, ml, mr))) rfl ?_
    refine wp_ret rfl rfl ⟨⟨Nat.le_refl _, Nat.le_refl _⟩, ?_⟩
    exact ⟨by rw [if_neg (show ¬ (inR 0 3 n ∧ aixn hp 3 = true ∧ inR 0 2 w) from fun z => (fun z => z.1 c_1) z.1)], mi, mr 73 2, by rw [mr_self], frm.rf _ _⟩
  · have c_1 : ¬ (n < 0) := of_decide_eq_false c_1
    refine wp_steps 2 (t' := (10, [some (.ref 0), some (.int one), some (.int n), some (.int hp), some (.int w), some (.ref (pAt one))], [.int 3, .int n], (HD, mi, ml, mr))) rfl ?_
    refine wp_bC rfl (fun c_2 => ?_) (fun c_2 => ?_)
    · have c_2 : 3 < n := of_decide_eq_true c_2
      refine wp_steps 1 (t' := (20, [some (.ref 0), some (.int one), some (.int n), some (.int hp), some (.int w), some (.ref (pAt one))], [.int (-2)], (HD, mi, ml, mr))) rfl ?_
      refine wp_ret rfl rfl ⟨⟨Nat.le_refl _, Nat.le_refl _⟩, ?_⟩
      exact ⟨by rw [if_neg (show ¬ (inR 0 3 n ∧ aixn hp 3 = true ∧ inR 0 2 w) from fun z => (fun z => z.2 c_2) z.1)], mi, mr 73 2, by rw [mr_self], frm.rf _ _⟩
    · have c_2 : ¬ (3 < n) := of_decide_eq_false c_2
      refine wp_steps 1 (t' := (12, [some (.ref 0), some (.int one), some (.int n), some (.int hp), some (.int w), some (.ref (pAt one))], [.int hp], (HD, mi, ml, mr))) rfl ?_
      refine wp_cal (as := [.int hp]) rfl rfl rfl (Nat.le_of_ble_eq_true rfl) (c_isHelp) (by decide) ?_
      rintro _ _ ⟨rfl, rfl⟩
      show aWP _ _ (13, [some (.ref 0), some (.int one), some (.int n), some (.int hp), some (.int w), some (.ref (pAt one))], [.int (if aixn hp 3 = true then (1 : Int32) else 0)], (HD, mi, ml, mr)) _
      refine wp_bI rfl (fun c_3 => ?_) (fun c_3 => ?_)
      · have c_3 : (if aixn hp 3 = true then (1 : Int32) else 0) = 0 := of_decide_eq_true c_3
        refine wp_steps 1 (t' := (20, [some (.ref 0), some (.int one), some (.int n), some (.int hp), some (.int w), some (.ref (pAt one))], [.int (-2)], (HD, mi, ml, mr))) rfl ?_
        refine wp_ret rfl rfl ⟨⟨Nat.le_refl _, Nat.le_refl _⟩, ?_⟩
        exact ⟨by rw [if_neg (show ¬ (inR 0 3 n ∧ aixn hp 3 = true ∧ inR 0 2 w) from fun z => (fun z => absurd (z.symm.trans (ite_nix c_3)) Bool.noConfusion) z.2.1)], mi, mr 73 2, by rw [mr_self], frm.rf _ _⟩
      · have c_3 : ¬ ((if aixn hp 3 = true then (1 : Int32) else 0) = 0) := of_decide_eq_false c_3
        refine wp_steps 1 (t' := (15, [some (.ref 0), some (.int one), some (.int n), some (.int hp), some (.int w), some (.ref (pAt one))], [.int w], (HD, mi, ml, mr))) rfl ?_
        refine wp_bI rfl (fun c_4 => ?_) (fun c_4 => ?_)
        · have c_4 : w < 0 := of_decide_eq_true c_4
          refine wp_steps 1 (t' := (20, [some (.ref 0), some (.int one), some (.int n), some (.int hp), some (.int w), some (.ref (pAt one))], [.int (-2)], (HD, mi, ml, mr))) rfl ?_
          refine wp_ret rfl rfl ⟨⟨Nat.le_refl _, Nat.le_refl _⟩, ?_⟩
          exact ⟨by rw [if_neg (show ¬ (inR 0 3 n ∧ aixn hp 3 = true ∧ inR 0 2 w) from fun z => (fun z => z.1 c_4) z.2.2)], mi, mr 73 2, by rw [mr_self], frm.rf _ _⟩
        · have c_4 : ¬ (w < 0) := of_decide_eq_false c_4
          refine wp_steps 2 (t' := (18, [some (.ref 0), some (.int one), some (.int n), some (.int hp), some (.int w), some (.ref (pAt one))], [.int 2, .int w], (HD, mi, ml, mr))) rfl ?_
          refine wp_bC rfl (fun c_5 => ?_) (fun c_5 => ?_)
          · have c_5 : w ≤ 2 := of_decide_eq_true c_5
            refine wp_steps 1 (t' := (22, [some (.ref 0), some (.int one), some (.int n), some (.int hp), some (.int w), some (.ref (pAt one))], [.ref 0], (HD, mi, ml, mr))) rfl ?_
            refine wp_getr rfl ⟨by decide, rfl⟩ rfl (hM (0, 9, 69) (by decide)) ?_
            refine wp_steps 1 (t' := (24, [some (.ref 0), some (.int one), some (.int n), some (.int hp), some (.int w), some (.ref (pAt one))], [.ref 0, .ref 69], (HD, mi, ml, mr))) rfl ?_
            refine wp_getr rfl ⟨by decide, rfl⟩ rfl (hM (0, 3, 63) (by decide)) ?_
            refine wp_steps 1 (t' := (26, [some (.ref 0), some (.int one), some (.int n), some (.int hp), some (.int w), some (.ref (pAt one))], [.ref (pAt one), .ref 63, .ref 69], (HD, mi, ml, mr))) rfl ?_
            refine wp_calv (as := [.ref 63, .ref (pAt one)]) rfl rfl rfl (Nat.le_of_ble_eq_true rfl) ⟨by decide, rfl⟩ ((t_beginRows (ml := ml) hM hρ hr hx hP)) (by decide) ?_
            rintro _ _ ⟨rfl, m_1, rfl, h1, u1⟩
            show aWP _ _ (27, [some (.ref 0), some (.int one), some (.int n), some (.int hp), some (.int w), some (.ref (pAt one))], [], (HD, m_1, ml, (aup mr 73 2 (some ρ)))) _
            refine wp_steps 1 (t' := (28, [some (.ref 0), some (.int one), some (.int n), some (.int hp), some (.int w), some (.ref (pAt one))], [.ref 0], (HD, m_1, ml, (aup mr 73 2 (some ρ))))) rfl ?_
            refine wp_getr rfl ⟨by decide, rfl⟩ rfl ((mr_up hM (by decide) _) (0, 9, 69) (by decide)) ?_
            refine wp_steps 4 (t' := (33, [some (.ref 0), some (.int one), some (.int n), some (.int hp), some (.int w), some (.ref (pAt one))], [.int 0, .int hp, .int n, .int 0, .ref 69], (HD, m_1, ml, (aup mr 73 2 (some ρ))))) rfl ?_
            refine wp_calv (as := [.int 0, .int n, .int hp, .int 0]) rfl rfl rfl (Nat.le_of_ble_eq_true rfl) ⟨by decide, rfl⟩ ((t_rows_i (ml := ml) (mr := (aup mr 73 2 (some ρ))) (mr_up hM (by decide) _) hρ (mr_at _) (ax03 (show inR 0 3 n ∧ aixn hp 3 = true ∧ inR 0 2 w from ⟨⟨c_1, c_2⟩, (ite_aix c_3), ⟨c_4, (Int32.not_lt.mpr c_5)⟩⟩).1) m_1 _ 0 _ h1 u1)) (by decide) ?_
            rintro _ _ ⟨rfl, m_2, rfl, h2, k2⟩
            show aWP _ _ (34, [some (.ref 0), some (.int one), some (.int n), some (.int hp), some (.int w), some (.ref (pAt one))], [], (HD, m_2, ml, (aup mr 73 2 (some ρ)))) _
            refine wp_steps 1 (t' := (35, [some (.ref 0), some (.int one), some (.int n), some (.int hp), some (.int w), some (.ref (pAt one))], [.int w], (HD, m_2, ml, (aup mr 73 2 (some ρ))))) rfl ?_
            refine wp_bI rfl (fun c_6 => ?_) (fun c_6 => ?_)
            · have c_6 : ¬ w = 0 := of_decide_eq_true c_6
              refine wp_steps 2 (t' := (42, [some (.ref 0), some (.int one), some (.int n), some (.int hp), some (.int w), some (.ref (pAt one))], [.int 1, .int w], (HD, m_2, ml, (aup mr 73 2 (some ρ))))) rfl ?_
              refine wp_bC rfl (fun c_7 => ?_) (fun c_7 => ?_)
              · have c_7 : ¬ w = 1 := of_decide_eq_true c_7
                refine wp_steps 1 (t' := (48, [some (.ref 0), some (.int one), some (.int n), some (.int hp), some (.int w), some (.ref (pAt one))], [.ref 0], (HD, m_2, ml, (aup mr 73 2 (some ρ))))) rfl ?_
                refine wp_getr rfl ⟨by decide, rfl⟩ rfl ((mr_up hM (by decide) _) (0, 9, 69) (by decide)) ?_
                refine wp_geti rfl ⟨by decide, rfl⟩ (Or.inl rfl) ?_
                refine wp_ret rfl rfl ⟨⟨Nat.le_refl _, Nat.le_refl _⟩, ?_⟩
                exact ⟨by rw [if_pos (show inR 0 3 n ∧ aixn hp 3 = true ∧ inR 0 2 w from ⟨⟨c_1, c_2⟩, (ite_aix c_3), ⟨c_4, (Int32.not_lt.mpr c_5)⟩⟩)]; unfold hwG; rw [if_neg c_6, if_neg c_7, h2.2.2.2.2.2.2], m_2, some ρ, rfl, h2.1⟩
              · have c_7 : w = 1 := Decidable.not_not.mp (of_decide_eq_false c_7)
                refine wp_steps 1 (t' := (44, [some (.ref 0), some (.int one), some (.int n), some (.int hp), some (.int w), some (.ref (pAt one))], [.ref 0], (HD, m_2, ml, (aup mr 73 2 (some ρ))))) rfl ?_
                refine wp_getr rfl ⟨by decide, rfl⟩ rfl ((mr_up hM (by decide) _) (0, 9, 69) (by decide)) ?_
                refine wp_geti rfl ⟨by decide, rfl⟩ (Or.inl rfl) ?_
                refine wp_steps 1 (t' := (50, [some (.ref 0), some (.int one), some (.int n), some (.int hp), some (.int w), some (.ref (pAt one))], [.int (m_2 69 3)], (HD, m_2, ml, (aup mr 73 2 (some ρ))))) rfl ?_
                refine wp_ret rfl rfl ⟨⟨Nat.le_refl _, Nat.le_refl _⟩, ?_⟩
                exact ⟨by rw [if_pos (show inR 0 3 n ∧ aixn hp 3 = true ∧ inR 0 2 w from ⟨⟨c_1, c_2⟩, (ite_aix c_3), ⟨c_4, (Int32.not_lt.mpr c_5)⟩⟩)]; unfold hwG; rw [if_neg c_6, if_pos c_7, h2.2.2.2.2.2.1], m_2, some ρ, rfl, h2.1⟩
            · have c_6 : w = 0 := Decidable.not_not.mp (of_decide_eq_false c_6)
              refine wp_steps 1 (t' := (37, [some (.ref 0), some (.int one), some (.int n), some (.int hp), some (.int w), some (.ref (pAt one))], [.ref 0], (HD, m_2, ml, (aup mr 73 2 (some ρ))))) rfl ?_
              refine wp_getr rfl ⟨by decide, rfl⟩ rfl ((mr_up hM (by decide) _) (0, 9, 69) (by decide)) ?_
              refine wp_geti rfl ⟨by decide, rfl⟩ (Or.inl rfl) ?_
              refine wp_ret rfl rfl ⟨⟨Nat.le_refl _, Nat.le_refl _⟩, ?_⟩
              exact ⟨by rw [if_pos (show inR 0 3 n ∧ aixn hp 3 = true ∧ inR 0 2 w from ⟨⟨c_1, c_2⟩, (ite_aix c_3), ⟨c_4, (Int32.not_lt.mpr c_5)⟩⟩)]; unfold hwG; rw [if_pos c_6, h2.2.2.2.2.1], m_2, some ρ, rfl, h2.1⟩
          · have c_5 : ¬ (w ≤ 2) := of_decide_eq_false c_5
            refine wp_steps 1 (t' := (20, [some (.ref 0), some (.int one), some (.int n), some (.int hp), some (.int w), some (.ref (pAt one))], [.int (-2)], (HD, mi, ml, mr))) rfl ?_
            refine wp_ret rfl rfl ⟨⟨Nat.le_refl _, Nat.le_refl _⟩, ?_⟩
            exact ⟨by rw [if_neg (show ¬ (inR 0 3 n ∧ aixn hp 3 = true ∧ inR 0 2 w) from fun z => (fun z => z.2 (Int32.not_le.mp c_5)) z.2.2)], mi, mr 73 2, by rw [mr_self], frm.rf _ _⟩
