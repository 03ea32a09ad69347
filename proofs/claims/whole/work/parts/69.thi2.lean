/-! the thought: nights, bumps, days, a sheet's items (written by wip/whole/mkthi2.py) -/
def ngG : Nat → tW → pU → tW × pU
  | 0, t, u => (t, u)
  | n + 1, t, u => ngG n (ndG t) (spG t u)
def fdG (t : tW) (u : pU) (n : Nat) : Nat := mnG (ngG n t u).1 (ngG n t u).2
def blG (t : tW) (s : Nat) : Nat → Nat → pU → Int32
  | 0, _, _ => -1
  | g + 1, n, u => if maG t u s < 0 then blG t s g (n + 1) (hrG t u s 0) else nI n
/-- h hours, each where one is least skilled -/
def hsG (t : tW) (hp : Int32) : Nat → pU → pU
  | 0, u => u
  | k + 1, u => hsG t hp k (hrG t u (wkF u.2.2.2.2 8) hp)
def tkL (hp : Int32) (h : Nat) : Nat → Nat → tW → pU → Int32
  | 0, _, _, _ => -1
  | g + 1, d, t, u => if mnG t (hsG t hp h u) = 8 then nI d else tkL hp h g (d + 1) (ndG t) (spG t (hsG t hp h u))
def tkG (t : tW) (u : pU) (hp : Int32) (h : Nat) : Int32 := if mnG t u = 8 then 0 else tkL hp h 40 1 t u
/-- items against skill behind hours, from the k'th on -/
def foL (t : tW) (s : Nat) (hp : Int32) (it : Nat → Int32) : Nat → Nat → pU → Int32
  | 0, _, _ => -1
  | g + 1, k, u => if it k = (hrG t u s hp).2.2.2.2 s then foL t s hp it g (k + 1) (hrG t u s hp) else nI k
/-- an answer, nothing that shows is changed -/
def anU (mi : Nat → Nat → Int32) (ml : Nat → Nat → Int64) (mr : Nat → Nat → Option Nat) (v : Int32) : Option Value → aM → Prop := fun r h' => r = some (.int v) ∧ ∃ m', h' = (HD, m', ml, mr) ∧ frm UCL mi m'
set_option maxRecDepth 20000 in
set_option maxHeartbeats 1000000 in
theorem l_faded {X : aXt × Value} {mi : Nat → Nat → Int32} {ml : Nat → Nat → Int64} {mr : Nat → Nat → Option Nat} (hM : MRok mr) {ρ : Nat} {c0 c1 c2 : List Int32} (hρ : ρ ∈ TXS) (hr : mr 73 2 = some ρ) {n P : Nat} (hn : n ≤ 40) : ∀ (g k : Nat) (m : Nat → Nat → Int32) (t : tW) (u : pU) , k + g = n → TH ρ c0 c1 c2 mi m t u → aWP (aEx (aTb X) 6) cd_X4_managedBehind (6, [some (.ref 69), some (.ref 63), some (.ref P), some (.int (nI n)), some (.int (nI k))], [], (HD, m, ml, mr)) (fun r h' => (HD.1 ≤ h'.1.1 ∧ HD.2.1 ≤ h'.1.2.1) ∧ anU mi ml mr (nI (fdG t u g)) r h') := by
  intro g
  induction g with
  | zero =>
    intro k m t u hg h
    have e : k = n := by omega
    rw [e]
    refine wp_steps 2 (t' := (8, [some (.ref 69), some (.ref 63), some (.ref P), some (.int (nI n)), some (.int (nI n))], [.int (nI n), .int (nI n)], (HD, m, ml, mr))) rfl ?_
    refine wp_bC rfl (fun c_1 => ?_) (fun c_1 => ?_)
    rotate_left
    · have c_1 : ¬ ((nI n) ≤ (nI n)) := of_decide_eq_false c_1
      exact absurd (Int32.le_refl _) c_1
    have c_1 : (nI n) ≤ (nI n) := of_decide_eq_true c_1
    refine wp_steps 1 (t' := (14, [some (.ref 69), some (.ref 63), some (.ref P), some (.int (nI n)), some (.int (nI n))], [.ref 69], (HD, m, ml, mr))) rfl ?_
    refine wp_getr rfl ⟨by decide, rfl⟩ rfl (hM (69, 0, 73) (by decide)) ?_
    refine wp_steps 1 (t' := (16, [some (.ref 69), some (.ref 63), some (.ref P), some (.int (nI n)), some (.int (nI n))], [.ref 69, .ref 73], (HD, m, ml, mr))) rfl ?_
    refine wp_getr rfl ⟨by decide, rfl⟩ rfl (hM (69, 1, 70) (by decide)) ?_
    refine wp_calv (as := [.ref 70]) rfl rfl rfl (Nat.le_of_ble_eq_true rfl) ⟨by decide, rfl⟩ ((t_managedBy (ml := ml) hM hρ hr h)) (by decide) ?_
    rintro _ _ ⟨rfl, m_1, rfl, h1⟩
    show aWP _ _ (18, [some (.ref 69), some (.ref 63), some (.ref P), some (.int (nI n)), some (.int (nI n))], [.int (nI (mnG t u))], (HD, m_1, ml, mr)) _
    refine wp_ret rfl rfl ⟨⟨Nat.le_refl _, Nat.le_refl _⟩, ?_⟩
    exact ⟨rfl, _, rfl, h1.1⟩
  | succ g ih =>
    intro k m t u hg h
    have ht : k < n := by omega
    refine wp_steps 2 (t' := (8, [some (.ref 69), some (.ref 63), some (.ref P), some (.int (nI n)), some (.int (nI k))], [.int (nI n), .int (nI k)], (HD, m, ml, mr))) rfl ?_
    refine wp_bC rfl (fun c_1 => ?_) (fun c_1 => ?_)
    · have c_1 : (nI n) ≤ (nI k) := of_decide_eq_true c_1
      exact absurd c_1 (nI_ge ht (by omega))
    have c_1 : ¬ ((nI n) ≤ (nI k)) := of_decide_eq_false c_1
    refine wp_steps 1 (t' := (10, [some (.ref 69), some (.ref 63), some (.ref P), some (.int (nI n)), some (.int (nI k))], [.ref 69], (HD, m, ml, mr))) rfl ?_
    refine wp_calv (as := []) rfl rfl rfl (Nat.le_of_ble_eq_true rfl) ⟨by decide, rfl⟩ ((t_night (ml := ml) hM hρ hr h)) (by decide) ?_
    rintro _ _ ⟨rfl, m_1, rfl, h1⟩
    show aWP _ _ (11, [some (.ref 69), some (.ref 63), some (.ref P), some (.int (nI n)), some (.int (nI k))], [], (HD, m_1, ml, mr)) _
    refine wp_steps 2 (t' := (6, [some (.ref 69), some (.ref 63), some (.ref P), some (.int (nI n)), some (.int ((nI k) + Int32.ofInt 1))], [], (HD, m_1, ml, mr))) rfl ?_
    rw [inc_nI]
    exact ih (k + 1) m_1 _ _ (by omega) h1
set_option maxRecDepth 20000 in
set_option maxHeartbeats 1000000 in
theorem t_faded {X : aXt × Value} {mi : Nat → Nat → Int32} {ml : Nat → Nat → Int64} {mr : Nat → Nat → Option Nat} (hM : MRok mr) {ρ : Nat} {c0 c1 c2 : List Int32} (hρ : ρ ∈ TXS) (hr : mr 63 2 = some ρ) (hx : TXok mi ρ c0 c1 c2) {P : Nat} (hP : P ∈ PU5) {n : Nat} (hn : n ≤ 40) : aCW X 7 51 [.ref 69, .ref 63, .ref P, .int (nI n)] (HD, mi, ml, mr) (anU mi ml (aup mr 73 2 (some ρ)) (nI (fdG (twC mi 63 c0 c1 c2) (puC mi P) n))) := by
  refine cw_of (cd := cd_X4_managedBehind) (nL := 5) rfl rfl ?_
  show aWP _ _ (0, [some (.ref 69), some (.ref 63), some (.ref P), some (.int (nI n)), none], [], (HD, mi, ml, mr)) _
  refine wp_steps 3 (t' := (3, [some (.ref 69), some (.ref 63), some (.ref P), some (.int (nI n)), none], [.ref P, .ref 63, .ref 69], (HD, mi, ml, mr))) rfl ?_
  refine wp_calv (as := [.ref 63, .ref P]) rfl rfl rfl (Nat.le_of_ble_eq_true rfl) ⟨by decide, rfl⟩ ((t_begin (ml := ml) hM hρ hr (frm.rf _ _) hx hP)) (by decide) ?_
  rintro _ _ ⟨rfl, m_1, rfl, h1⟩
  show aWP _ _ (4, [some (.ref 69), some (.ref 63), some (.ref P), some (.int (nI n)), none], [], (HD, m_1, ml, (aup mr 73 2 (some ρ)))) _
  refine wp_steps 2 (t' := (6, [some (.ref 69), some (.ref 63), some (.ref P), some (.int (nI n)), some (.int 0)], [], (HD, m_1, ml, (aup mr 73 2 (some ρ))))) rfl ?_
  exact l_faded (mr := aup mr 73 2 (some ρ)) (mr_up hM (by decide) _) hρ (mr_at _) hn n 0 m_1 _ _ (by omega) h1
set_option maxRecDepth 20000 in
set_option maxHeartbeats 1000000 in
theorem l_late {X : aXt × Value} {mi : Nat → Nat → Int32} {ml : Nat → Nat → Int64} {mr : Nat → Nat → Option Nat} (hM : MRok mr) {ρ : Nat} {c0 c1 c2 : List Int32} (hρ : ρ ∈ TXS) (hr : mr 73 2 = some ρ) {t : tW} {P : Nat} {s : Int32} (hs : aixn s 8 = true) : ∀ (g k : Nat) (m : Nat → Nat → Int32) (u : pU), k + g = 31 → TH ρ c0 c1 c2 mi m t u → aWP (aEx (aTb X) 6) cd_X4_bumpsTill (6, [some (.ref 69), some (.ref 63), some (.ref P), some (.int s), some (.int (nI k))], [], (HD, m, ml, mr)) (fun r h' => (HD.1 ≤ h'.1.1 ∧ HD.2.1 ≤ h'.1.2.1) ∧ anU mi ml mr (blG t s.toNatClampNeg g k u) r h') := by
  intro g
  induction g with
  | zero =>
    intro k m u hg h
    have e : k = 31 := by omega
    subst e
    refine wp_steps 2 (t' := (8, [some (.ref 69), some (.ref 63), some (.ref P), some (.int s), some (.int (nI 31))], [.int 30, .int (nI 31)], (HD, m, ml, mr))) rfl ?_
    refine wp_bC rfl (fun c_1 => ?_) (fun c_1 => ?_)
    rotate_left
    · have c_1 : ¬ (30 < (nI 31)) := of_decide_eq_false c_1
      exact absurd (by decide) c_1
    have c_1 : 30 < (nI 31) := of_decide_eq_true c_1
    refine wp_steps 1 (t' := (28, [some (.ref 69), some (.ref 63), some (.ref P), some (.int s), some (.int (nI 31))], [.int (-1)], (HD, m, ml, mr))) rfl ?_
    refine wp_ret rfl rfl ⟨⟨Nat.le_refl _, Nat.le_refl _⟩, ?_⟩
    exact ⟨rfl, _, rfl, h.1⟩
  | succ g ih =>
    intro k m u hg h
    have ht : k < 31 := by omega
    refine wp_steps 2 (t' := (8, [some (.ref 69), some (.ref 63), some (.ref P), some (.int s), some (.int (nI k))], [.int 30, .int (nI k)], (HD, m, ml, mr))) rfl ?_
    refine wp_bC rfl (fun c_1 => ?_) (fun c_1 => ?_)
    · have c_1 : 30 < (nI k) := of_decide_eq_true c_1
      exact absurd c_1 (nI_nlt (a := 30) (b := k) (by omega) (by decide))
    have c_1 : ¬ (30 < (nI k)) := of_decide_eq_false c_1
    refine wp_steps 1 (t' := (10, [some (.ref 69), some (.ref 63), some (.ref P), some (.int s), some (.int (nI k))], [.ref 69], (HD, m, ml, mr))) rfl ?_
    refine wp_getr rfl ⟨by decide, rfl⟩ rfl (hM (69, 0, 73) (by decide)) ?_
    refine wp_steps 1 (t' := (12, [some (.ref 69), some (.ref 63), some (.ref P), some (.int s), some (.int (nI k))], [.ref 69, .ref 73], (HD, m, ml, mr))) rfl ?_
    refine wp_getr rfl ⟨by decide, rfl⟩ rfl (hM (69, 1, 70) (by decide)) ?_
    refine wp_steps 1 (t' := (14, [some (.ref 69), some (.ref 63), some (.ref P), some (.int s), some (.int (nI k))], [.int s, .ref 70, .ref 73], (HD, m, ml, mr))) rfl ?_
    refine wp_calv (as := [.ref 70, .int s]) rfl rfl rfl (Nat.le_of_ble_eq_true rfl) ⟨by decide, rfl⟩ ((t_margin (ml := ml) hM hρ hr h hs)) (by decide) ?_
    rintro _ _ ⟨rfl, m_1, rfl, h1⟩
    show aWP _ _ (15, [some (.ref 69), some (.ref 63), some (.ref P), some (.int s), some (.int (nI k))], [.int (maG t u s.toNatClampNeg)], (HD, m_1, ml, mr)) _
    refine wp_bI rfl (fun c_2 => ?_) (fun c_2 => ?_)
    · have c_2 : (maG t u s.toNatClampNeg) < 0 := of_decide_eq_true c_2
      refine wp_steps 1 (t' := (19, [some (.ref 69), some (.ref 63), some (.ref P), some (.int s), some (.int (nI k))], [.ref 69], (HD, m_1, ml, mr))) rfl ?_
      refine wp_getr rfl ⟨by decide, rfl⟩ rfl (hM (69, 0, 73) (by decide)) ?_
      refine wp_steps 1 (t' := (21, [some (.ref 69), some (.ref 63), some (.ref P), some (.int s), some (.int (nI k))], [.ref 69, .ref 73], (HD, m_1, ml, mr))) rfl ?_
      refine wp_getr rfl ⟨by decide, rfl⟩ rfl (hM (69, 1, 70) (by decide)) ?_
      refine wp_steps 2 (t' := (24, [some (.ref 69), some (.ref 63), some (.ref P), some (.int s), some (.int (nI k))], [.int 0, .int s, .ref 70, .ref 73], (HD, m_1, ml, mr))) rfl ?_
      refine wp_calv (as := [.ref 70, .int s, .int 0]) rfl rfl rfl (Nat.le_of_ble_eq_true rfl) ⟨by decide, rfl⟩ ((t_hour (ml := ml) (hp := 0) hM hρ hr h1 hs)) (by decide) ?_
      rintro _ _ ⟨rfl, m_2, rfl, h2⟩
      show aWP _ _ (25, [some (.ref 69), some (.ref 63), some (.ref P), some (.int s), some (.int (nI k))], [], (HD, m_2, ml, mr)) _
      refine wp_steps 2 (t' := (6, [some (.ref 69), some (.ref 63), some (.ref P), some (.int s), some (.int ((nI k) + Int32.ofInt 1))], [], (HD, m_2, ml, mr))) rfl ?_
      rw [inc_nI]
      have e : blG t s.toNatClampNeg (g + 1) k u = blG t s.toNatClampNeg g (k + 1) (hrG t u s.toNatClampNeg 0) := if_pos c_2
      rw [e]
      exact ih (k + 1) m_2 _ (by omega) h2
    · have c_2 : ¬ ((maG t u s.toNatClampNeg) < 0) := of_decide_eq_false c_2
      refine wp_steps 1 (t' := (17, [some (.ref 69), some (.ref 63), some (.ref P), some (.int s), some (.int (nI k))], [.int (nI k)], (HD, m_1, ml, mr))) rfl ?_
      refine wp_ret rfl rfl ⟨⟨Nat.le_refl _, Nat.le_refl _⟩, ?_⟩
      have e : blG t s.toNatClampNeg (g + 1) k u = nI k := if_neg c_2
      rw [e]
      exact ⟨rfl, _, rfl, h1.1⟩
set_option maxRecDepth 20000 in
set_option maxHeartbeats 1000000 in
theorem t_late {X : aXt × Value} {mi : Nat → Nat → Int32} {ml : Nat → Nat → Int64} {mr : Nat → Nat → Option Nat} (hM : MRok mr) {ρ : Nat} {c0 c1 c2 : List Int32} (hρ : ρ ∈ TXS) (hr : mr 63 2 = some ρ) (hx : TXok mi ρ c0 c1 c2) {P : Nat} (hP : P ∈ PU5) {s : Int32} (hs : aixn s 8 = true) : aCW X 7 50 [.ref 69, .ref 63, .ref P, .int s] (HD, mi, ml, mr) (anU mi ml (aup mr 73 2 (some ρ)) (blG (twC mi 63 c0 c1 c2) s.toNatClampNeg 31 0 (puC mi P))) := by
  refine cw_of (cd := cd_X4_bumpsTill) (nL := 5) rfl rfl ?_
  show aWP _ _ (0, [some (.ref 69), some (.ref 63), some (.ref P), some (.int s), none], [], (HD, mi, ml, mr)) _
  refine wp_steps 3 (t' := (3, [some (.ref 69), some (.ref 63), some (.ref P), some (.int s), none], [.ref P, .ref 63, .ref 69], (HD, mi, ml, mr))) rfl ?_
  refine wp_calv (as := [.ref 63, .ref P]) rfl rfl rfl (Nat.le_of_ble_eq_true rfl) ⟨by decide, rfl⟩ ((t_begin (ml := ml) hM hρ hr (frm.rf _ _) hx hP)) (by decide) ?_
  rintro _ _ ⟨rfl, m_1, rfl, h1⟩
  show aWP _ _ (4, [some (.ref 69), some (.ref 63), some (.ref P), some (.int s), none], [], (HD, m_1, ml, (aup mr 73 2 (some ρ)))) _
  refine wp_steps 2 (t' := (6, [some (.ref 69), some (.ref 63), some (.ref P), some (.int s), some (.int 0)], [], (HD, m_1, ml, (aup mr 73 2 (some ρ))))) rfl ?_
  exact l_late (mr := aup mr 73 2 (some ρ)) (mr_up hM (by decide) _) hρ (mr_at _) hs 31 0 m_1 _ rfl h1
set_option maxRecDepth 20000 in
set_option maxHeartbeats 1000000 in
theorem l_hours {X : aXt × Value} {mi : Nat → Nat → Int32} {ml : Nat → Nat → Int64} {mr : Nat → Nat → Option Nat} (hM : MRok mr) {ρ : Nat} {c0 c1 c2 : List Int32} (hρ : ρ ∈ TXS) (hr : mr 73 2 = some ρ) {t : tW} {P H : Nat} (hH : H ≤ 9) {hp d : Int32} {Q : Option Value → aM → Prop} : ∀ (g k : Nat) (m : Nat → Nat → Int32) (u : pU), k + g = H → TH ρ c0 c1 c2 mi m t u → (∀ m', TH ρ c0 c1 c2 mi m' t (hsG t hp g u) → aWP (aEx (aTb X) 6) cd_X4_daysTill (33, [some (.ref 69), some (.ref 63), some (.ref P), some (.int hp), some (.int (nI H)), some (.int d), some (.int (nI H))], [], (HD, m', ml, mr)) Q) → aWP (aEx (aTb X) 6) cd_X4_daysTill (19, [some (.ref 69), some (.ref 63), some (.ref P), some (.int hp), some (.int (nI H)), some (.int d), some (.int (nI k))], [], (HD, m, ml, mr)) Q := by
  intro g
  induction g with
  | zero =>
    intro k m u hg h hk
    have e : k = H := by omega
    rw [e]
    refine wp_steps 2 (t' := (21, [some (.ref 69), some (.ref 63), some (.ref P), some (.int hp), some (.int (nI H)), some (.int d), some (.int (nI H))], [.int (nI H), .int (nI H)], (HD, m, ml, mr))) rfl ?_
    refine wp_bC rfl (fun c_1 => ?_) (fun c_1 => ?_)
    rotate_left
    · have c_1 : ¬ ((nI H) ≤ (nI H)) := of_decide_eq_false c_1
      exact absurd (Int32.le_refl _) c_1
    have c_1 : (nI H) ≤ (nI H) := of_decide_eq_true c_1
    exact hk m h
  | succ g ih =>
    intro k m u hg h hk
    have ht : k < H := by omega
    refine wp_steps 2 (t' := (21, [some (.ref 69), some (.ref 63), some (.ref P), some (.int hp), some (.int (nI H)), some (.int d), some (.int (nI k))], [.int (nI H), .int (nI k)], (HD, m, ml, mr))) rfl ?_
    refine wp_bC rfl (fun c_1 => ?_) (fun c_1 => ?_)
    · have c_1 : (nI H) ≤ (nI k) := of_decide_eq_true c_1
      exact absurd c_1 (nI_ge ht (by omega))
    have c_1 : ¬ ((nI H) ≤ (nI k)) := of_decide_eq_false c_1
    refine wp_steps 1 (t' := (23, [some (.ref 69), some (.ref 63), some (.ref P), some (.int hp), some (.int (nI H)), some (.int d), some (.int (nI k))], [.ref 69], (HD, m, ml, mr))) rfl ?_
    refine wp_getr rfl ⟨by decide, rfl⟩ rfl (hM (69, 0, 73) (by decide)) ?_
    refine wp_steps 1 (t' := (25, [some (.ref 69), some (.ref 63), some (.ref P), some (.int hp), some (.int (nI H)), some (.int d), some (.int (nI k))], [.ref 69, .ref 73], (HD, m, ml, mr))) rfl ?_
    refine wp_getr rfl ⟨by decide, rfl⟩ rfl (hM (69, 1, 70) (by decide)) ?_
    refine wp_steps 1 (t' := (27, [some (.ref 69), some (.ref 63), some (.ref P), some (.int hp), some (.int (nI H)), some (.int d), some (.int (nI k))], [.ref 69, .ref 70, .ref 73], (HD, m, ml, mr))) rfl ?_
    refine wp_getr rfl ⟨by decide, rfl⟩ rfl (hM (69, 1, 70) (by decide)) ?_
    refine wp_calv (as := []) rfl rfl rfl (Nat.le_of_ble_eq_true rfl) ⟨by decide, rfl⟩ ((t_least (ml := ml) hM hρ hr h)) (by decide) ?_
    rintro _ _ ⟨rfl, rfl⟩
    show aWP _ _ (29, [some (.ref 69), some (.ref 63), some (.ref P), some (.int hp), some (.int (nI H)), some (.int d), some (.int (nI k))], [.int (nI (wkF u.2.2.2.2 8)), .ref 70, .ref 73], (HD, m, ml, mr)) _
    refine wp_steps 1 (t' := (30, [some (.ref 69), some (.ref 63), some (.ref P), some (.int hp), some (.int (nI H)), some (.int d), some (.int (nI k))], [.int hp, .int (nI (wkF u.2.2.2.2 8)), .ref 70, .ref 73], (HD, m, ml, mr))) rfl ?_
    refine wp_calv (as := [.ref 70, .int (nI (wkF u.2.2.2.2 8)), .int hp]) rfl rfl rfl (Nat.le_of_ble_eq_true rfl) ⟨by decide, rfl⟩ ((t_hour (ml := ml) (hp := hp) hM hρ hr h (aix_nI (wkF_lt _ 8 (by decide)) (by decide)))) (by decide) ?_
    rintro _ _ ⟨rfl, m_1, rfl, h1⟩
    rw [nI_clamp (Nat.lt_trans (wkF_lt _ 8 (by decide)) (by decide))] at h1
    show aWP _ _ (31, [some (.ref 69), some (.ref 63), some (.ref P), some (.int hp), some (.int (nI H)), some (.int d), some (.int (nI k))], [], (HD, m_1, ml, mr)) _
    refine wp_steps 2 (t' := (19, [some (.ref 69), some (.ref 63), some (.ref P), some (.int hp), some (.int (nI H)), some (.int d), some (.int ((nI k) + Int32.ofInt 1))], [], (HD, m_1, ml, mr))) rfl ?_
    rw [inc_nI]
    exact ih (k + 1) m_1 _ (by omega) h1 hk
set_option maxRecDepth 20000 in
set_option maxHeartbeats 1000000 in
theorem l_takes {X : aXt × Value} {mi : Nat → Nat → Int32} {ml : Nat → Nat → Int64} {mr : Nat → Nat → Option Nat} (hM : MRok mr) {ρ : Nat} {c0 c1 c2 : List Int32} (hρ : ρ ∈ TXS) (hr : mr 73 2 = some ρ) {P H : Nat} (hH : H ≤ 9) {hp : Int32} : ∀ (g k : Nat) (m : Nat → Nat → Int32) (t : tW) (u : pU) (o : Option Value), k + g = 41 → TH ρ c0 c1 c2 mi m t u → aWP (aEx (aTb X) 6) cd_X4_daysTill (14, [some (.ref 69), some (.ref 63), some (.ref P), some (.int hp), some (.int (nI H)), some (.int (nI k)), o], [], (HD, m, ml, mr)) (fun r h' => (HD.1 ≤ h'.1.1 ∧ HD.2.1 ≤ h'.1.2.1) ∧ anU mi ml mr (tkL hp H g k t u) r h') := by
  intro g
  induction g with
  | zero =>
    intro k m t u o hg h
    have e : k = 41 := by omega
    subst e
    refine wp_steps 2 (t' := (16, [some (.ref 69), some (.ref 63), some (.ref P), some (.int hp), some (.int (nI H)), some (.int (nI 41)), o], [.int 40, .int (nI 41)], (HD, m, ml, mr))) rfl ?_
    refine wp_bC rfl (fun c_1 => ?_) (fun c_1 => ?_)
    rotate_left
    · have c_1 : ¬ (40 < (nI 41)) := of_decide_eq_false c_1
      exact absurd (by decide) c_1
    have c_1 : 40 < (nI 41) := of_decide_eq_true c_1
    refine wp_steps 1 (t' := (46, [some (.ref 69), some (.ref 63), some (.ref P), some (.int hp), some (.int (nI H)), some (.int (nI 41)), o], [.int (-1)], (HD, m, ml, mr))) rfl ?_
    refine wp_ret rfl rfl ⟨⟨Nat.le_refl _, Nat.le_refl _⟩, ?_⟩
    exact ⟨rfl, _, rfl, h.1⟩
  | succ g ih =>
    intro k m t u o hg h
    have ht : k < 41 := by omega
    refine wp_steps 2 (t' := (16, [some (.ref 69), some (.ref 63), some (.ref P), some (.int hp), some (.int (nI H)), some (.int (nI k)), o], [.int 40, .int (nI k)], (HD, m, ml, mr))) rfl ?_
    refine wp_bC rfl (fun c_1 => ?_) (fun c_1 => ?_)
    · have c_1 : 40 < (nI k) := of_decide_eq_true c_1
      exact absurd c_1 (nI_nlt (a := 40) (b := k) (by omega) (by decide))
    have c_1 : ¬ (40 < (nI k)) := of_decide_eq_false c_1
    refine wp_steps 2 (t' := (19, [some (.ref 69), some (.ref 63), some (.ref P), some (.int hp), some (.int (nI H)), some (.int (nI k)), some (.int 0)], [], (HD, m, ml, mr))) rfl ?_
    refine l_hours (P := P) hM hρ hr hH (hp := hp) (d := nI k) H 0 m u (by omega) h (fun m_2 h2 => ?_)
    refine wp_steps 1 (t' := (34, [some (.ref 69), some (.ref 63), some (.ref P), some (.int hp), some (.int (nI H)), some (.int (nI k)), some (.int (nI H))], [.ref 69], (HD, m_2, ml, mr))) rfl ?_
    refine wp_getr rfl ⟨by decide, rfl⟩ rfl (hM (69, 0, 73) (by decide)) ?_
    refine wp_steps 1 (t' := (36, [some (.ref 69), some (.ref 63), some (.ref P), some (.int hp), some (.int (nI H)), some (.int (nI k)), some (.int (nI H))], [.ref 69, .ref 73], (HD, m_2, ml, mr))) rfl ?_
    refine wp_getr rfl ⟨by decide, rfl⟩ rfl (hM (69, 1, 70) (by decide)) ?_
    refine wp_calv (as := [.ref 70]) rfl rfl rfl (Nat.le_of_ble_eq_true rfl) ⟨by decide, rfl⟩ ((t_isReady (ml := ml) hM hρ hr h2)) (by decide) ?_
    rintro _ _ ⟨rfl, m_3, rfl, h3⟩
    show aWP _ _ (38, [some (.ref 69), some (.ref 63), some (.ref P), some (.int hp), some (.int (nI H)), some (.int (nI k)), some (.int (nI H))], [.int (if mnG t (hsG t hp H u) = 8 then (1 : Int32) else 0)], (HD, m_3, ml, mr)) _
    refine wp_bI rfl (fun c_51 => ?_) (fun c_51 => ?_)
    · have c_51 : (if mnG t (hsG t hp H u) = 8 then (1 : Int32) else 0) = 0 := of_decide_eq_true c_51
      refine wp_steps 1 (t' := (42, [some (.ref 69), some (.ref 63), some (.ref P), some (.int hp), some (.int (nI H)), some (.int (nI k)), some (.int (nI H))], [.ref 69], (HD, m_3, ml, mr))) rfl ?_
      refine wp_calv (as := []) rfl rfl rfl (Nat.le_of_ble_eq_true rfl) ⟨by decide, rfl⟩ ((t_night (ml := ml) hM hρ hr h3)) (by decide) ?_
      rintro _ _ ⟨rfl, m_4, rfl, h4⟩
      show aWP _ _ (43, [some (.ref 69), some (.ref 63), some (.ref P), some (.int hp), some (.int (nI H)), some (.int (nI k)), some (.int (nI H))], [], (HD, m_4, ml, mr)) _
      refine wp_steps 2 (t' := (14, [some (.ref 69), some (.ref 63), some (.ref P), some (.int hp), some (.int (nI H)), some (.int ((nI k) + Int32.ofInt 1)), some (.int (nI H))], [], (HD, m_4, ml, mr))) rfl ?_
      rw [inc_nI]
      have q : ¬ mnG t (hsG t hp H u) = 8 := fun z => absurd ((if_pos z).symm.trans c_51) (by decide)
      have e : tkL hp H (g + 1) k t u = tkL hp H g (k + 1) (ndG t) (spG t (hsG t hp H u)) := if_neg q
      rw [e]
      exact ih (k + 1) m_4 _ _ _ (by omega) h4
    · have c_51 : ¬ ((if mnG t (hsG t hp H u) = 8 then (1 : Int32) else 0) = 0) := of_decide_eq_false c_51
      refine wp_steps 1 (t' := (40, [some (.ref 69), some (.ref 63), some (.ref P), some (.int hp), some (.int (nI H)), some (.int (nI k)), some (.int (nI H))], [.int (nI k)], (HD, m_3, ml, mr))) rfl ?_
      refine wp_ret rfl rfl ⟨⟨Nat.le_refl _, Nat.le_refl _⟩, ?_⟩
      have q : mnG t (hsG t hp H u) = 8 := Decidable.byContradiction fun z => c_51 (if_neg z)
      have e : tkL hp H (g + 1) k t u = nI k := if_pos q
      rw [e]
      exact ⟨rfl, _, rfl, h3.1⟩
set_option maxRecDepth 20000 in
set_option maxHeartbeats 1000000 in
theorem t_takes {X : aXt × Value} {mi : Nat → Nat → Int32} {ml : Nat → Nat → Int64} {mr : Nat → Nat → Option Nat} (hM : MRok mr) {ρ : Nat} {c0 c1 c2 : List Int32} (hρ : ρ ∈ TXS) (hr : mr 63 2 = some ρ) (hx : TXok mi ρ c0 c1 c2) {P : Nat} (hP : P ∈ PU5) {H : Nat} (hH : H ≤ 9) {hp : Int32} : aCW X 7 48 [.ref 69, .ref 63, .ref P, .int hp, .int (nI H)] (HD, mi, ml, mr) (anU mi ml (aup mr 73 2 (some ρ)) (tkG (twC mi 63 c0 c1 c2) (puC mi P) hp H)) := by
  refine cw_of (cd := cd_X4_daysTill) (nL := 7) rfl rfl ?_
  show aWP _ _ (0, [some (.ref 69), some (.ref 63), some (.ref P), some (.int hp), some (.int (nI H)), none, none], [], (HD, mi, ml, mr)) _
  refine wp_steps 3 (t' := (3, [some (.ref 69), some (.ref 63), some (.ref P), some (.int hp), some (.int (nI H)), none, none], [.ref P, .ref 63, .ref 69], (HD, mi, ml, mr))) rfl ?_
  refine wp_calv (as := [.ref 63, .ref P]) rfl rfl rfl (Nat.le_of_ble_eq_true rfl) ⟨by decide, rfl⟩ ((t_begin (ml := ml) hM hρ hr (frm.rf _ _) hx hP)) (by decide) ?_
  rintro _ _ ⟨rfl, m_1, rfl, h1⟩
  show aWP _ _ (4, [some (.ref 69), some (.ref 63), some (.ref P), some (.int hp), some (.int (nI H)), none, none], [], (HD, m_1, ml, (aup mr 73 2 (some ρ)))) _
  refine wp_steps 1 (t' := (5, [some (.ref 69), some (.ref 63), some (.ref P), some (.int hp), some (.int (nI H)), none, none], [.ref 69], (HD, m_1, ml, (aup mr 73 2 (some ρ))))) rfl ?_
  refine wp_getr rfl ⟨by decide, rfl⟩ rfl ((mr_up hM (by decide) _) (69, 0, 73) (by decide)) ?_
  refine wp_steps 1 (t' := (7, [some (.ref 69), some (.ref 63), some (.ref P), some (.int hp), some (.int (nI H)), none, none], [.ref 69, .ref 73], (HD, m_1, ml, (aup mr 73 2 (some ρ))))) rfl ?_
  refine wp_getr rfl ⟨by decide, rfl⟩ rfl ((mr_up hM (by decide) _) (69, 1, 70) (by decide)) ?_
  refine wp_calv (as := [.ref 70]) rfl rfl rfl (Nat.le_of_ble_eq_true rfl) ⟨by decide, rfl⟩ ((t_isReady (ml := ml) (mr := aup mr 73 2 (some ρ)) (mr_up hM (by decide) _) hρ (mr_at _) h1)) (by decide) ?_
  rintro _ _ ⟨rfl, m_2, rfl, h2⟩
  show aWP _ _ (9, [some (.ref 69), some (.ref 63), some (.ref P), some (.int hp), some (.int (nI H)), none, none], [.int (if mnG (twC mi 63 c0 c1 c2) (puC mi P) = 8 then (1 : Int32) else 0)], (HD, m_2, ml, (aup mr 73 2 (some ρ)))) _
  refine wp_bI rfl (fun c_1 => ?_) (fun c_1 => ?_)
  · have c_1 : (if mnG (twC mi 63 c0 c1 c2) (puC mi P) = 8 then (1 : Int32) else 0) = 0 := of_decide_eq_true c_1
    refine wp_steps 2 (t' := (14, [some (.ref 69), some (.ref 63), some (.ref P), some (.int hp), some (.int (nI H)), some (.int 1), none], [], (HD, m_2, ml, (aup mr 73 2 (some ρ))))) rfl ?_
    have q : ¬ mnG (twC mi 63 c0 c1 c2) (puC mi P) = 8 := fun z => absurd ((if_pos z).symm.trans c_1) (by decide)
    have e : tkG (twC mi 63 c0 c1 c2) (puC mi P) hp H = tkL hp H 40 1 (twC mi 63 c0 c1 c2) (puC mi P) := if_neg q
    rw [e]
    exact l_takes (mr := aup mr 73 2 (some ρ)) (mr_up hM (by decide) _) hρ (mr_at _) hH 40 1 m_2 _ _ _ (by omega) h2
  · have c_1 : ¬ ((if mnG (twC mi 63 c0 c1 c2) (puC mi P) = 8 then (1 : Int32) else 0) = 0) := of_decide_eq_false c_1
    refine wp_steps 1 (t' := (11, [some (.ref 69), some (.ref 63), some (.ref P), some (.int hp), some (.int (nI H)), none, none], [.int 0], (HD, m_2, ml, (aup mr 73 2 (some ρ))))) rfl ?_
    refine wp_ret rfl rfl ⟨⟨Nat.le_refl _, Nat.le_refl _⟩, ?_⟩
    have q : mnG (twC mi 63 c0 c1 c2) (puC mi P) = 8 := Decidable.byContradiction fun z => c_1 (if_neg z)
    have e : tkG (twC mi 63 c0 c1 c2) (puC mi P) hp H = 0 := if_pos q
    rw [e]
    exact ⟨rfl, _, rfl, h2.1⟩
