/-! who, which text, which sheet; ranges (written by wip/whole/mkpub0.py) -/
def pAt (x : Int32) : Nat := 35 + 4 * x.toNatClampNeg
def tAt (x : Int32) : Nat := 11 + 4 * x.toNatClampNeg
def sAt (x : Int32) : Nat := 55 + 2 * x.toNatClampNeg
theorem pAt_ml : ∀ k, k < 5 → (8, k, 35 + 4 * k) ∈ MRL ∧ 35 + 4 * k ∈ PU5 := by decide
theorem tAt_ml : ∀ k, k < 6 → (1, k, 11 + 4 * k) ∈ MRL ∧ 11 + 4 * k ∈ TXS := by decide
theorem sAt_ml : ∀ k, k < 4 → (10, k, 55 + 2 * k) ∈ MRL ∧ 55 + 2 * k ∈ SHS := by decide
theorem pAt_mem {x : Int32} {N : Nat} (h : aixn x N = true) (hN : N ≤ 5) : pAt x ∈ PU5 := (pAt_ml _ (Nat.lt_of_lt_of_le (aix_out h).2 hN)).2
theorem tAt_mem {x : Int32} {N : Nat} (h : aixn x N = true) (hN : N ≤ 6) : tAt x ∈ TXS := (tAt_ml _ (Nat.lt_of_lt_of_le (aix_out h).2 hN)).2
theorem sAt_mem {x : Int32} (h : aixn x 4 = true) : sAt x ∈ SHS := (sAt_ml _ (aix_out h).2).2
abbrev inR (lo hi x : Int32) : Prop := ¬ x < lo ∧ ¬ hi < x
theorem r_lt {x a b : Int32} (h : x < b) (e : b.toInt = a.toInt + 1) : ¬ a < x := by
  rw [Int32.lt_iff_toInt_lt] at h ⊢
  omega
theorem aix_rf {x : Int32} {n : Nat} (h0 : ¬ x < 0) (h1 : ¬ nI n ≤ x) (hn : n < 2 ^ 31) : aixn x n = true := (aix_iff hn).mpr ⟨h0, h1⟩
theorem aix_wk {x : Int32} {n k : Nat} (h : aixn x n = true) (hk : n ≤ k) (hb : k < 2 ^ 31) : aixn x k = true := by
  obtain ⟨e, h2⟩ := aix_eq h
  rw [e]
  exact aix_nI (by omega) hb
theorem inR_ax {x hi : Int32} {n : Nat} (hb : n < 2 ^ 31) (hh : hi.toInt + 1 = (n : Int)) : inR 0 hi x ↔ aixn x n = true := by
  rw [aix_iff hb]
  unfold inR
  have e := nI_toInt hb
  simp only [Int32.lt_iff_toInt_lt, Int32.le_iff_toInt_le, e]
  have z : (0 : Int32).toInt = 0 := rfl
  omega
set_option maxRecDepth 20000 in
set_option maxHeartbeats 1000000 in
theorem c_pupilAt_ok {X : aXt × Value} {mi : Nat → Nat → Int32} {ml : Nat → Nat → Int64} {mr : Nat → Nat → Option Nat} (hM : MRok mr) {N : Nat} (hN : mi 0 5 = nI N) (hN5 : N ≤ 5) {one : Int32} (hg : aixn one N = true) : aCW X 1 103 [.ref 0, .int one] (HD, mi, ml, mr) (fun r h' => r = some (.ref (pAt one)) ∧ h' = (HD, mi, ml, mr)) := by
  refine cw_of (cd := cd_X6_pupilAt) (nL := 2) rfl rfl ?_
  show aWP _ _ (0, [some (.ref 0), some (.int one)], [], (HD, mi, ml, mr)) _
  refine wp_steps 1 (t' := (1, [some (.ref 0), some (.int one)], [.int one], (HD, mi, ml, mr))) rfl ?_
  refine wp_bI rfl (fun c_1 => ?_) (fun c_1 => ?_)
  · have c_1 : one < 0 := of_decide_eq_true c_1
    exact absurd c_1 ((aix_iff (show N < 2 ^ 31 by omega)).mp hg).1
  have c_1 : ¬ (one < 0) := of_decide_eq_false c_1
  refine wp_steps 2 (t' := (4, [some (.ref 0), some (.int one)], [.ref 0, .int one], (HD, mi, ml, mr))) rfl ?_
  refine wp_geti rfl ⟨by decide, rfl⟩ (Or.inl rfl) ?_
  rw [hN]
  refine wp_bC rfl (fun c_2 => ?_) (fun c_2 => ?_)
  · have c_2 : (nI N) ≤ one := of_decide_eq_true c_2
    exact absurd c_2 ((aix_iff (show N < 2 ^ 31 by omega)).mp hg).2
  have c_2 : ¬ ((nI N) ≤ one) := of_decide_eq_false c_2
  refine wp_steps 2 (t' := (8, [some (.ref 0), some (.int one)], [.int 5, .int one], (HD, mi, ml, mr))) rfl ?_
  refine wp_bC rfl (fun c_3 => ?_) (fun c_3 => ?_)
  · have c_3 : 5 ≤ one := of_decide_eq_true c_3
    exact absurd c_3 ((aix_iff (show 5 < 2 ^ 31 by decide)).mp (aix_wk hg hN5 (by decide))).2
  have c_3 : ¬ (5 ≤ one) := of_decide_eq_false c_3
  refine wp_steps 1 (t' := (10, [some (.ref 0), some (.int one)], [.ref 0], (HD, mi, ml, mr))) rfl ?_
  refine wp_getr rfl ⟨by decide, rfl⟩ rfl (hM (0, 4, 8) (by decide)) ?_
  refine wp_steps 1 (t' := (12, [some (.ref 0), some (.int one)], [.int one, .ref 8], (HD, mi, ml, mr))) rfl ?_
  refine wp_aald rfl ⟨by decide, rfl⟩ (by decide) (aix_wk hg hN5 (by decide)) (hM (8, one.toNatClampNeg, pAt one) (pAt_ml _ (Nat.lt_of_lt_of_le (aix_out hg).2 hN5)).1) ?_
  refine wp_steps 1 (t' := (15, [some (.ref 0), some (.int one)], [.ref (pAt one)], (HD, mi, ml, mr))) rfl ?_
  refine wp_ret rfl rfl ⟨⟨Nat.le_refl _, Nat.le_refl _⟩, ?_⟩
  exact ⟨rfl, rfl⟩
set_option maxRecDepth 20000 in
set_option maxHeartbeats 1000000 in
theorem c_pupilAt_no {X : aXt × Value} {mi : Nat → Nat → Int32} {ml : Nat → Nat → Int64} {mr : Nat → Nat → Option Nat} (hM : MRok mr) {N : Nat} (hN : mi 0 5 = nI N) (hN5 : N ≤ 5) {one : Int32} (hg : ¬ aixn one N = true) : aCW X 1 103 [.ref 0, .int one] (HD, mi, ml, mr) (fun r h' => r = some .null ∧ h' = (HD, mi, ml, mr)) := by
  refine cw_of (cd := cd_X6_pupilAt) (nL := 2) rfl rfl ?_
  show aWP _ _ (0, [some (.ref 0), some (.int one)], [], (HD, mi, ml, mr)) _
  refine wp_steps 1 (t' := (1, [some (.ref 0), some (.int one)], [.int one], (HD, mi, ml, mr))) rfl ?_
  refine wp_bI rfl (fun c_1 => ?_) (fun c_1 => ?_)
  · have c_1 : one < 0 := of_decide_eq_true c_1
    refine wp_steps 1 (t' := (15, [some (.ref 0), some (.int one)], [.null], (HD, mi, ml, mr))) rfl ?_
    refine wp_ret rfl rfl ⟨⟨Nat.le_refl _, Nat.le_refl _⟩, ?_⟩
    exact ⟨rfl, rfl⟩
  · have c_1 : ¬ (one < 0) := of_decide_eq_false c_1
    refine wp_steps 2 (t' := (4, [some (.ref 0), some (.int one)], [.ref 0, .int one], (HD, mi, ml, mr))) rfl ?_
    refine wp_geti rfl ⟨by decide, rfl⟩ (Or.inl rfl) ?_
    rw [hN]
    refine wp_bC rfl (fun c_2 => ?_) (fun c_2 => ?_)
    rotate_left
    · have c_2 : ¬ ((nI N) ≤ one) := of_decide_eq_false c_2
      exact absurd (aix_rf c_1 c_2 (by omega)) hg
    have c_2 : (nI N) ≤ one := of_decide_eq_true c_2
    refine wp_steps 1 (t' := (15, [some (.ref 0), some (.int one)], [.null], (HD, mi, ml, mr))) rfl ?_
    refine wp_ret rfl rfl ⟨⟨Nat.le_refl _, Nat.le_refl _⟩, ?_⟩
    exact ⟨rfl, rfl⟩
set_option maxRecDepth 20000 in
set_option maxHeartbeats 1000000 in
theorem c_textAt_ok {X : aXt × Value} {mi : Nat → Nat → Int32} {ml : Nat → Nat → Int64} {mr : Nat → Nat → Option Nat} (hM : MRok mr) {C : Nat} (hC : mi 0 1 = nI C) (hC6 : C ≤ 6) {one : Int32} (hg : aixn one C = true) : aCW X 1 104 [.ref 0, .int one] (HD, mi, ml, mr) (fun r h' => r = some (.ref (tAt one)) ∧ h' = (HD, mi, ml, mr)) := by
  refine cw_of (cd := cd_X6_textAt) (nL := 2) rfl rfl ?_
  show aWP _ _ (0, [some (.ref 0), some (.int one)], [], (HD, mi, ml, mr)) _
  refine wp_steps 1 (t' := (1, [some (.ref 0), some (.int one)], [.int one], (HD, mi, ml, mr))) rfl ?_
  refine wp_bI rfl (fun c_1 => ?_) (fun c_1 => ?_)
  · have c_1 : one < 0 := of_decide_eq_true c_1
    exact absurd c_1 ((aix_iff (show C < 2 ^ 31 by omega)).mp hg).1
  have c_1 : ¬ (one < 0) := of_decide_eq_false c_1
  refine wp_steps 2 (t' := (4, [some (.ref 0), some (.int one)], [.ref 0, .int one], (HD, mi, ml, mr))) rfl ?_
  refine wp_geti rfl ⟨by decide, rfl⟩ (Or.inl rfl) ?_
  rw [hC]
  refine wp_bC rfl (fun c_2 => ?_) (fun c_2 => ?_)
  · have c_2 : (nI C) ≤ one := of_decide_eq_true c_2
    exact absurd c_2 ((aix_iff (show C < 2 ^ 31 by omega)).mp hg).2
  have c_2 : ¬ ((nI C) ≤ one) := of_decide_eq_false c_2
  refine wp_steps 2 (t' := (8, [some (.ref 0), some (.int one)], [.int 6, .int one], (HD, mi, ml, mr))) rfl ?_
  refine wp_bC rfl (fun c_3 => ?_) (fun c_3 => ?_)
  · have c_3 : 6 ≤ one := of_decide_eq_true c_3
    exact absurd c_3 ((aix_iff (show 6 < 2 ^ 31 by decide)).mp (aix_wk hg hC6 (by decide))).2
  have c_3 : ¬ (6 ≤ one) := of_decide_eq_false c_3
  refine wp_steps 1 (t' := (10, [some (.ref 0), some (.int one)], [.ref 0], (HD, mi, ml, mr))) rfl ?_
  refine wp_getr rfl ⟨by decide, rfl⟩ rfl (hM (0, 0, 1) (by decide)) ?_
  refine wp_steps 1 (t' := (12, [some (.ref 0), some (.int one)], [.int one, .ref 1], (HD, mi, ml, mr))) rfl ?_
  refine wp_aald rfl ⟨by decide, rfl⟩ (by decide) (aix_wk hg hC6 (by decide)) (hM (1, one.toNatClampNeg, tAt one) (tAt_ml _ (Nat.lt_of_lt_of_le (aix_out hg).2 hC6)).1) ?_
  refine wp_steps 1 (t' := (15, [some (.ref 0), some (.int one)], [.ref (tAt one)], (HD, mi, ml, mr))) rfl ?_
  refine wp_ret rfl rfl ⟨⟨Nat.le_refl _, Nat.le_refl _⟩, ?_⟩
  exact ⟨rfl, rfl⟩
set_option maxRecDepth 20000 in
set_option maxHeartbeats 1000000 in
theorem c_textAt_no {X : aXt × Value} {mi : Nat → Nat → Int32} {ml : Nat → Nat → Int64} {mr : Nat → Nat → Option Nat} (hM : MRok mr) {C : Nat} (hC : mi 0 1 = nI C) (hC6 : C ≤ 6) {one : Int32} (hg : ¬ aixn one C = true) : aCW X 1 104 [.ref 0, .int one] (HD, mi, ml, mr) (fun r h' => r = some .null ∧ h' = (HD, mi, ml, mr)) := by
  refine cw_of (cd := cd_X6_textAt) (nL := 2) rfl rfl ?_
  show aWP _ _ (0, [some (.ref 0), some (.int one)], [], (HD, mi, ml, mr)) _
  refine wp_steps 1 (t' := (1, [some (.ref 0), some (.int one)], [.int one], (HD, mi, ml, mr))) rfl ?_
  refine wp_bI rfl (fun c_1 => ?_) (fun c_1 => ?_)
  · have c_1 : one < 0 := of_decide_eq_true c_1
    refine wp_steps 1 (t' := (15, [some (.ref 0), some (.int one)], [.null], (HD, mi, ml, mr))) rfl ?_
    refine wp_ret rfl rfl ⟨⟨Nat.le_refl _, Nat.le_refl _⟩, ?_⟩
    exact ⟨rfl, rfl⟩
  · have c_1 : ¬ (one < 0) := of_decide_eq_false c_1
    refine wp_steps 2 (t' := (4, [some (.ref 0), some (.int one)], [.ref 0, .int one], (HD, mi, ml, mr))) rfl ?_
    refine wp_geti rfl ⟨by decide, rfl⟩ (Or.inl rfl) ?_
    rw [hC]
    refine wp_bC rfl (fun c_2 => ?_) (fun c_2 => ?_)
    rotate_left
    · have c_2 : ¬ ((nI C) ≤ one) := of_decide_eq_false c_2
      exact absurd (aix_rf c_1 c_2 (by omega)) hg
    have c_2 : (nI C) ≤ one := of_decide_eq_true c_2
    refine wp_steps 1 (t' := (15, [some (.ref 0), some (.int one)], [.null], (HD, mi, ml, mr))) rfl ?_
    refine wp_ret rfl rfl ⟨⟨Nat.le_refl _, Nat.le_refl _⟩, ?_⟩
    exact ⟨rfl, rfl⟩
set_option maxRecDepth 20000 in
set_option maxHeartbeats 1000000 in
theorem c_sheetAt_ok {X : aXt × Value} {mi : Nat → Nat → Int32} {ml : Nat → Nat → Int64} {mr : Nat → Nat → Option Nat} (hM : MRok mr) {sh : Int32} (hg : aixn sh 4 = true) : aCW X 1 105 [.ref 0, .int sh] (HD, mi, ml, mr) (fun r h' => r = some (.ref (sAt sh)) ∧ h' = (HD, mi, ml, mr)) := by
  refine cw_of (cd := cd_X6_sheetAt) (nL := 2) rfl rfl ?_
  show aWP _ _ (0, [some (.ref 0), some (.int sh)], [], (HD, mi, ml, mr)) _
  refine wp_steps 1 (t' := (1, [some (.ref 0), some (.int sh)], [.int sh], (HD, mi, ml, mr))) rfl ?_
  refine wp_bI rfl (fun c_1 => ?_) (fun c_1 => ?_)
  · have c_1 : sh < 0 := of_decide_eq_true c_1
    exact absurd c_1 ((aix_iff (show 4 < 2 ^ 31 by decide)).mp hg).1
  have c_1 : ¬ (sh < 0) := of_decide_eq_false c_1
  refine wp_steps 2 (t' := (4, [some (.ref 0), some (.int sh)], [.int 4, .int sh], (HD, mi, ml, mr))) rfl ?_
  refine wp_bC rfl (fun c_2 => ?_) (fun c_2 => ?_)
  · have c_2 : 4 ≤ sh := of_decide_eq_true c_2
    exact absurd c_2 ((aix_iff (show 4 < 2 ^ 31 by decide)).mp hg).2
  have c_2 : ¬ (4 ≤ sh) := of_decide_eq_false c_2
  refine wp_steps 1 (t' := (6, [some (.ref 0), some (.int sh)], [.ref 0], (HD, mi, ml, mr))) rfl ?_
  refine wp_getr rfl ⟨by decide, rfl⟩ rfl (hM (0, 10, 10) (by decide)) ?_
  refine wp_steps 1 (t' := (8, [some (.ref 0), some (.int sh)], [.int sh, .ref 10], (HD, mi, ml, mr))) rfl ?_
  refine wp_aald rfl ⟨by decide, rfl⟩ (by decide) hg (hM (10, sh.toNatClampNeg, sAt sh) (sAt_ml _ (aix_out hg).2).1) ?_
  refine wp_steps 1 (t' := (11, [some (.ref 0), some (.int sh)], [.ref (sAt sh)], (HD, mi, ml, mr))) rfl ?_
  refine wp_ret rfl rfl ⟨⟨Nat.le_refl _, Nat.le_refl _⟩, ?_⟩
  exact ⟨rfl, rfl⟩
set_option maxRecDepth 20000 in
set_option maxHeartbeats 1000000 in
theorem c_sheetAt_no {X : aXt × Value} {mi : Nat → Nat → Int32} {ml : Nat → Nat → Int64} {mr : Nat → Nat → Option Nat} (hM : MRok mr) {sh : Int32} (hg : ¬ aixn sh 4 = true) : aCW X 1 105 [.ref 0, .int sh] (HD, mi, ml, mr) (fun r h' => r = some .null ∧ h' = (HD, mi, ml, mr)) := by
  refine cw_of (cd := cd_X6_sheetAt) (nL := 2) rfl rfl ?_
  show aWP _ _ (0, [some (.ref 0), some (.int sh)], [], (HD, mi, ml, mr)) _
  refine wp_steps 1 (t' := (1, [some (.ref 0), some (.int sh)], [.int sh], (HD, mi, ml, mr))) rfl ?_
  refine wp_bI rfl (fun c_1 => ?_) (fun c_1 => ?_)
  · have c_1 : sh < 0 := of_decide_eq_true c_1
    refine wp_steps 1 (t' := (11, [some (.ref 0), some (.int sh)], [.null], (HD, mi, ml, mr))) rfl ?_
    refine wp_ret rfl rfl ⟨⟨Nat.le_refl _, Nat.le_refl _⟩, ?_⟩
    exact ⟨rfl, rfl⟩
  · have c_1 : ¬ (sh < 0) := of_decide_eq_false c_1
    refine wp_steps 2 (t' := (4, [some (.ref 0), some (.int sh)], [.int 4, .int sh], (HD, mi, ml, mr))) rfl ?_
    refine wp_bC rfl (fun c_2 => ?_) (fun c_2 => ?_)
    rotate_left
    · have c_2 : ¬ (4 ≤ sh) := of_decide_eq_false c_2
      exact absurd (aix_rf c_1 c_2 (by decide)) hg
    have c_2 : 4 ≤ sh := of_decide_eq_true c_2
    refine wp_steps 1 (t' := (11, [some (.ref 0), some (.int sh)], [.null], (HD, mi, ml, mr))) rfl ?_
    refine wp_ret rfl rfl ⟨⟨Nat.le_refl _, Nat.le_refl _⟩, ?_⟩
    exact ⟨rfl, rfl⟩
def shG (x : Int32) : Bool := !decide (x < 0) && aixn (x / 10) 8 && aixn (x - x / 10 * 10) 3
set_option maxRecDepth 20000 in
set_option maxHeartbeats 1000000 in
theorem c_isSH {X : aXt × Value} {mi : Nat → Nat → Int32} {ml : Nat → Nat → Int64} {mr : Nat → Nat → Option Nat} {x : Int32} : aCW X 2 108 [.int x] (HD, mi, ml, mr) (rdI mi ml mr (if shG x = true then 1 else 0)) := by
  refine cw_of (cd := cd_X6_isStreetHelp) (nL := 1) rfl rfl ?_
  show aWP _ _ (0, [some (.int x)], [], (HD, mi, ml, mr)) _
  refine wp_steps 1 (t' := (1, [some (.int x)], [.int x], (HD, mi, ml, mr))) rfl ?_
  refine wp_bI rfl (fun c_1 => ?_) (fun c_1 => ?_)
  · have c_1 : x < 0 := of_decide_eq_true c_1
    refine wp_steps 1 (t' := (15, [some (.int x)], [.int 0], (HD, mi, ml, mr))) rfl ?_
    refine wp_ret rfl rfl ⟨⟨Nat.le_refl _, Nat.le_refl _⟩, ?_⟩
    refine ⟨?_, rfl⟩
    simp [shG, c_1]
  · have c_1 : ¬ (x < 0) := of_decide_eq_false c_1
    refine wp_steps 3 (t' := (5, [some (.int x)], [.int (x / 10)], (HD, mi, ml, mr))) rfl ?_
    refine wp_cal (as := [.int (x / 10)]) rfl rfl rfl (Nat.le_of_ble_eq_true rfl) (c_isStreet) (by decide) ?_
    rintro _ _ ⟨rfl, rfl⟩
    show aWP _ _ (6, [some (.int x)], [.int (if aixn (x / 10) 8 = true then (1 : Int32) else 0)], (HD, mi, ml, mr)) _
    refine wp_bI rfl (fun c_2 => ?_) (fun c_2 => ?_)
    · have c_2 : (if aixn (x / 10) 8 = true then (1 : Int32) else 0) = 0 := of_decide_eq_true c_2
      refine wp_steps 1 (t' := (15, [some (.int x)], [.int 0], (HD, mi, ml, mr))) rfl ?_
      refine wp_ret rfl rfl ⟨⟨Nat.le_refl _, Nat.le_refl _⟩, ?_⟩
      refine ⟨?_, rfl⟩
      simp [shG, c_1, ite_nix c_2]
    · have c_2 : ¬ ((if aixn (x / 10) 8 = true then (1 : Int32) else 0) = 0) := of_decide_eq_false c_2
      refine wp_steps 3 (t' := (10, [some (.int x)], [.int (x - x / 10 * 10)], (HD, mi, ml, mr))) rfl ?_
      refine wp_cal (as := [.int (x - x / 10 * 10)]) rfl rfl rfl (Nat.le_of_ble_eq_true rfl) (c_isHelp) (by decide) ?_
      rintro _ _ ⟨rfl, rfl⟩
      show aWP _ _ (11, [some (.int x)], [.int (if aixn (x - x / 10 * 10) 3 = true then (1 : Int32) else 0)], (HD, mi, ml, mr)) _
      refine wp_bI rfl (fun c_3 => ?_) (fun c_3 => ?_)
      · have c_3 : (if aixn (x - x / 10 * 10) 3 = true then (1 : Int32) else 0) = 0 := of_decide_eq_true c_3
        refine wp_steps 1 (t' := (15, [some (.int x)], [.int 0], (HD, mi, ml, mr))) rfl ?_
        refine wp_ret rfl rfl ⟨⟨Nat.le_refl _, Nat.le_refl _⟩, ?_⟩
        refine ⟨?_, rfl⟩
        simp [shG, c_1, ite_aix c_2, ite_nix c_3]
      · have c_3 : ¬ ((if aixn (x - x / 10 * 10) 3 = true then (1 : Int32) else 0) = 0) := of_decide_eq_false c_3
        refine wp_steps 2 (t' := (15, [some (.int x)], [.int 1], (HD, mi, ml, mr))) rfl ?_
        refine wp_ret rfl rfl ⟨⟨Nat.le_refl _, Nat.le_refl _⟩, ?_⟩
        refine ⟨?_, rfl⟩
        simp [shG, c_1, ite_aix c_2, ite_aix c_3]
set_option maxRecDepth 20000 in
set_option maxHeartbeats 1000000 in
theorem c_drawnOn {X : aXt × Value} {mi : Nat → Nat → Int32} {ml : Nat → Nat → Int64} {mr : Nat → Nat → Option Nat} {x : Int32} : aCW X 1 93 [.int x] (HD, mi, ml, mr) (rdI mi ml mr (x * 1103515245 + 12345)) := by
  refine cw_of (cd := cd_X6_drawnOn) (nL := 1) rfl rfl ?_
  show aWP _ _ (0, [some (.int x)], [], (HD, mi, ml, mr)) _
  refine wp_steps 5 (t' := (5, [some (.int x)], [.int ((x * 1103515245) + 12345)], (HD, mi, ml, mr))) rfl ?_
  refine wp_ret rfl rfl ⟨⟨Nat.le_refl _, Nat.le_refl _⟩, ?_⟩
  exact ⟨rfl, rfl⟩
