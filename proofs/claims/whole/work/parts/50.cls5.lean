/-! what is managed; an hour; a sleep (written by wip/whole/mkcls5.py) -/
def mgN (M : Nat → Int32) : Nat → Nat
  | 0 => 0
  | t + 1 => if M t < 0 then mgN M t else mgN M t + 1
theorem mgN_le (M : Nat → Int32) : ∀ n, mgN M n ≤ n
  | 0 => Nat.le_refl 0
  | n + 1 => by
    have := mgN_le M n
    unfold mgN
    split <;> omega
theorem mgN_lt (M : Nat → Int32) {t : Nat} (h : M t < 0) : ∀ n, t < n → mgN M n < n
  | 0, hn => absurd hn (Nat.not_lt_zero t)
  | n + 1, hn => by
    have h1 := mgN_le M n
    by_cases e : t = n
    · subst e
      unfold mgN
      rw [if_pos h]
      omega
    · have := mgN_lt M h n (by omega)
      unfold mgN
      split <;> omega
set_option maxRecDepth 20000 in
set_option maxHeartbeats 1000000 in
theorem l_managedBy {X : aXt × Value} {mi : Nat → Nat → Int32} {ml : Nat → Nat → Int64} {mr : Nat → Nat → Option Nat} (hM : MRok mr) {T P ρ : Nat} {c0 c1 c2 : List Int32} (hT : T ∈ TOWNS) (hP : P ∈ PUPS) (hρ : ρ ∈ TXS) (hr : mr T 2 = some ρ) (hx : TXok mi ρ c0 c1 c2) : ∀ (g t : Nat) (m : Nat → Nat → Int32), t + g = 8 → scr T ρ mi m → aWP (aEx (aTb X) 4) cd_X5_managedBy (4, [some (.ref T), some (.ref P), some (.int (nI (mgN (atF (maF c2) mi T P) t))), some (.int (nI t))], [], (HD, m, ml, mr)) (fun r h' => (HD.1 ≤ h'.1.1 ∧ HD.2.1 ≤ h'.1.2.1) ∧ (∃ m', scr T ρ mi m' ∧ h' = (HD, m', ml, mr) ∧ r = some (.int (nI (mgN (atF (maF c2) mi T P) 8))))) := by
  intro g
  induction g with
  | zero =>
    intro t m hg hi
    have e : t = 8 := by omega
    subst e
    refine wp_steps 2 (t' := (6, [some (.ref T), some (.ref P), some (.int (nI (mgN (atF (maF c2) mi T P) 8))), some (.int (nI 8))], [.int 8, .int (nI 8)], (HD, m, ml, mr))) rfl ?_
    refine wp_bC rfl (fun c_1 => ?_) (fun c_1 => ?_)
    rotate_left
    · have c_1 : ¬ (8 ≤ (nI 8)) := of_decide_eq_false c_1
      exact absurd (by decide) c_1
    have c_1 : 8 ≤ (nI 8) := of_decide_eq_true c_1
    refine wp_steps 1 (t' := (16, [some (.ref T), some (.ref P), some (.int (nI (mgN (atF (maF c2) mi T P) 8))), some (.int (nI 8))], [.int (nI (mgN (atF (maF c2) mi T P) 8))], (HD, m, ml, mr))) rfl ?_
    refine wp_ret rfl rfl ⟨⟨Nat.le_refl _, Nat.le_refl _⟩, ?_⟩
    exact ⟨m, hi, rfl, rfl⟩
  | succ g ih =>
    intro t m hg hi
    have ht : t < 8 := by omega
    refine wp_steps 2 (t' := (6, [some (.ref T), some (.ref P), some (.int (nI (mgN (atF (maF c2) mi T P) t))), some (.int (nI t))], [.int 8, .int (nI t)], (HD, m, ml, mr))) rfl ?_
    refine wp_bC rfl (fun c_1 => ?_) (fun c_1 => ?_)
    · have c_1 : 8 ≤ (nI t) := of_decide_eq_true c_1
      exact absurd c_1 (nI_ge ht (by decide))
    have c_1 : ¬ (8 ≤ (nI t)) := of_decide_eq_false c_1
    refine wp_steps 3 (t' := (10, [some (.ref T), some (.ref P), some (.int (nI (mgN (atF (maF c2) mi T P) t))), some (.int (nI t))], [.int (nI t), .ref P, .ref T], (HD, m, ml, mr))) rfl ?_
    refine wp_calv (as := [.ref P, .int (nI t)]) rfl rfl rfl (Nat.le_of_ble_eq_true rfl) (shT hT) (c_margin (mi := m) hM hT hP hρ hr (scr_X hi hT hρ hP hx) (aix_nI ht (by decide))) (by decide) ?_
    rintro _ _ ⟨m_2, z2, rfl, rfl⟩
    rw [atF_scr hi hT hρ hP, nI_clamp (n := t) (by omega)]
    show aWP _ _ (11, [some (.ref T), some (.ref P), some (.int (nI (mgN (atF (maF c2) mi T P) t))), some (.int (nI t))], [.int (atF (maF c2) mi T P t)], (HD, m_2, ml, mr)) _
    refine wp_bI rfl (fun c_2 => ?_) (fun c_2 => ?_)
    · have c_2 : (atF (maF c2) mi T P t) < 0 := of_decide_eq_true c_2
      refine wp_steps 2 (t' := (4, [some (.ref T), some (.ref P), some (.int (nI (mgN (atF (maF c2) mi T P) t))), some (.int ((nI t) + Int32.ofInt 1))], [], (HD, m_2, ml, mr))) rfl ?_
      rw [inc_nI]
      have e2 : mgN (atF (maF c2) mi T P) (t + 1) = mgN (atF (maF c2) mi T P) t := if_pos c_2
      have k := ih (t + 1) m_2 (by omega) (scr_tr hi z2)
      rw [e2] at k
      exact k
    · have c_2 : ¬ ((atF (maF c2) mi T P t) < 0) := of_decide_eq_false c_2
      refine wp_steps 3 (t' := (4, [some (.ref T), some (.ref P), some (.int ((nI (mgN (atF (maF c2) mi T P) t)) + Int32.ofInt 1)), some (.int ((nI t) + Int32.ofInt 1))], [], (HD, m_2, ml, mr))) rfl ?_
      rw [inc_nI, inc_nI]
      have e2 : mgN (atF (maF c2) mi T P) (t + 1) = mgN (atF (maF c2) mi T P) t + 1 := if_neg c_2
      have k := ih (t + 1) m_2 (by omega) (scr_tr hi z2)
      rw [e2] at k
      exact k
set_option maxRecDepth 20000 in
set_option maxHeartbeats 1000000 in
theorem c_managedBy {X : aXt × Value} {mi : Nat → Nat → Int32} {ml : Nat → Nat → Int64} {mr : Nat → Nat → Option Nat} (hM : MRok mr) {T P ρ : Nat} {c0 c1 c2 : List Int32} (hT : T ∈ TOWNS) (hP : P ∈ PUPS) (hρ : ρ ∈ TXS) (hr : mr T 2 = some ρ) (hx : TXok mi ρ c0 c1 c2) : aCW X 5 60 [.ref T, .ref P] (HD, mi, ml, mr) (fun r h' => ∃ m', scr T ρ mi m' ∧ h' = (HD, m', ml, mr) ∧ r = some (.int (nI (mgN (atF (maF c2) mi T P) 8)))) := by
  refine cw_of (cd := cd_X5_managedBy) (nL := 4) rfl rfl ?_
  show aWP _ _ (0, [some (.ref T), some (.ref P), none, none], [], (HD, mi, ml, mr)) _
  refine wp_steps 4 (t' := (4, [some (.ref T), some (.ref P), some (.int 0), some (.int 0)], [], (HD, mi, ml, mr))) rfl ?_
  exact l_managedBy hM hT hP hρ hr hx 8 0 mi rfl scr_rf
set_option maxRecDepth 20000 in
set_option maxHeartbeats 1000000 in
theorem l_isReady {X : aXt × Value} {mi : Nat → Nat → Int32} {ml : Nat → Nat → Int64} {mr : Nat → Nat → Option Nat} (hM : MRok mr) {T P ρ : Nat} {c0 c1 c2 : List Int32} (hT : T ∈ TOWNS) (hP : P ∈ PUPS) (hρ : ρ ∈ TXS) (hr : mr T 2 = some ρ) (hx : TXok mi ρ c0 c1 c2) : ∀ (g t : Nat) (m : Nat → Nat → Int32), t + g = 8 → (scr T ρ mi m ∧ mgN (atF (maF c2) mi T P) t = t) → aWP (aEx (aTb X) 4) cd_X5_isReady (2, [some (.ref T), some (.ref P), some (.int (nI t))], [], (HD, m, ml, mr)) (fun r h' => (HD.1 ≤ h'.1.1 ∧ HD.2.1 ≤ h'.1.2.1) ∧ (∃ m', scr T ρ mi m' ∧ h' = (HD, m', ml, mr) ∧ r = some (.int (if mgN (atF (maF c2) mi T P) 8 = 8 then 1 else 0)))) := by
  intro g
  induction g with
  | zero =>
    intro t m hg hi
    have e : t = 8 := by omega
    subst e
    refine wp_steps 2 (t' := (4, [some (.ref T), some (.ref P), some (.int (nI 8))], [.int 8, .int (nI 8)], (HD, m, ml, mr))) rfl ?_
    refine wp_bC rfl (fun c_1 => ?_) (fun c_1 => ?_)
    rotate_left
    · have c_1 : ¬ (8 ≤ (nI 8)) := of_decide_eq_false c_1
      exact absurd (by decide) c_1
    have c_1 : 8 ≤ (nI 8) := of_decide_eq_true c_1
    refine wp_steps 1 (t' := (15, [some (.ref T), some (.ref P), some (.int (nI 8))], [.int 1], (HD, m, ml, mr))) rfl ?_
    refine wp_ret rfl rfl ⟨⟨Nat.le_refl _, Nat.le_refl _⟩, ?_⟩
    exact ⟨m, hi.1, rfl, by rw [if_pos hi.2]⟩
  | succ g ih =>
    intro t m hg hi
    have ht : t < 8 := by omega
    refine wp_steps 2 (t' := (4, [some (.ref T), some (.ref P), some (.int (nI t))], [.int 8, .int (nI t)], (HD, m, ml, mr))) rfl ?_
    refine wp_bC rfl (fun c_1 => ?_) (fun c_1 => ?_)
    · have c_1 : 8 ≤ (nI t) := of_decide_eq_true c_1
      exact absurd c_1 (nI_ge ht (by decide))
    have c_1 : ¬ (8 ≤ (nI t)) := of_decide_eq_false c_1
    refine wp_steps 3 (t' := (8, [some (.ref T), some (.ref P), some (.int (nI t))], [.int (nI t), .ref P, .ref T], (HD, m, ml, mr))) rfl ?_
    refine wp_calv (as := [.ref P, .int (nI t)]) rfl rfl rfl (Nat.le_of_ble_eq_true rfl) (shT hT) (c_margin (mi := m) hM hT hP hρ hr (scr_X hi.1 hT hρ hP hx) (aix_nI ht (by decide))) (by decide) ?_
    rintro _ _ ⟨m_2, z2, rfl, rfl⟩
    rw [atF_scr hi.1 hT hρ hP, nI_clamp (n := t) (by omega)]
    show aWP _ _ (9, [some (.ref T), some (.ref P), some (.int (nI t))], [.int (atF (maF c2) mi T P t)], (HD, m_2, ml, mr)) _
    refine wp_bI rfl (fun c_2 => ?_) (fun c_2 => ?_)
    · have c_2 : 0 ≤ (atF (maF c2) mi T P t) := of_decide_eq_true c_2
      refine wp_steps 2 (t' := (2, [some (.ref T), some (.ref P), some (.int ((nI t) + Int32.ofInt 1))], [], (HD, m_2, ml, mr))) rfl ?_
      rw [inc_nI]
      exact ih (t + 1) m_2 (by omega) ⟨scr_tr hi.1 z2, by unfold mgN; rw [if_neg (Int32.not_lt.mpr c_2), hi.2]⟩
    · have c_2 : ¬ (0 ≤ (atF (maF c2) mi T P t)) := of_decide_eq_false c_2
      refine wp_steps 1 (t' := (11, [some (.ref T), some (.ref P), some (.int (nI t))], [.int 0], (HD, m_2, ml, mr))) rfl ?_
      refine wp_ret rfl rfl ⟨⟨Nat.le_refl _, Nat.le_refl _⟩, ?_⟩
      exact ⟨m_2, scr_tr hi.1 z2, rfl, by rw [if_neg (by have := mgN_lt _ (Int32.not_le.mp c_2) 8 ht; omega)]⟩
set_option maxRecDepth 20000 in
set_option maxHeartbeats 1000000 in
theorem c_isReady {X : aXt × Value} {mi : Nat → Nat → Int32} {ml : Nat → Nat → Int64} {mr : Nat → Nat → Option Nat} (hM : MRok mr) {T P ρ : Nat} {c0 c1 c2 : List Int32} (hT : T ∈ TOWNS) (hP : P ∈ PUPS) (hρ : ρ ∈ TXS) (hr : mr T 2 = some ρ) (hx : TXok mi ρ c0 c1 c2) : aCW X 5 61 [.ref T, .ref P] (HD, mi, ml, mr) (fun r h' => ∃ m', scr T ρ mi m' ∧ h' = (HD, m', ml, mr) ∧ r = some (.int (if mgN (atF (maF c2) mi T P) 8 = 8 then 1 else 0))) := by
  refine cw_of (cd := cd_X5_isReady) (nL := 3) rfl rfl ?_
  show aWP _ _ (0, [some (.ref T), some (.ref P), none], [], (HD, mi, ml, mr)) _
  refine wp_steps 2 (t' := (2, [some (.ref T), some (.ref P), some (.int 0)], [], (HD, mi, ml, mr))) rfl ?_
  exact l_isReady hM hT hP hρ hr hx 8 0 mi rfl ⟨scr_rf, rfl⟩
set_option maxRecDepth 20000 in
set_option maxHeartbeats 1000000 in
theorem l_leastManaged {X : aXt × Value} {mi : Nat → Nat → Int32} {ml : Nat → Nat → Int64} {mr : Nat → Nat → Option Nat} (hM : MRok mr) {T P ρ : Nat} {c0 c1 c2 : List Int32} (hT : T ∈ TOWNS) (hP : P ∈ PUPS) (hρ : ρ ∈ TXS) (hr : mr T 2 = some ρ) (hx : TXok mi ρ c0 c1 c2) : ∀ (g t : Nat) (m : Nat → Nat → Int32) (w : Option Value), t + g = 8 → (scr T ρ mi m ∧ 0 < t) → aWP (aEx (aTb X) 4) cd_X5_leastManaged (9, [some (.ref T), some (.ref P), some (.int (nI (wkF (atF (maF c2) mi T P) t))), some (.int (atF (maF c2) mi T P (wkF (atF (maF c2) mi T P) t))), some (.int (nI t)), w], [], (HD, m, ml, mr)) (fun r h' => (HD.1 ≤ h'.1.1 ∧ HD.2.1 ≤ h'.1.2.1) ∧ (∃ m', scr T ρ mi m' ∧ h' = (HD, m', ml, mr) ∧ r = some (.int (nI (wkF (atF (maF c2) mi T P) 8))))) := by
  intro g
  induction g with
  | zero =>
    intro t m w hg hi
    have e : t = 8 := by omega
    subst e
    refine wp_steps 2 (t' := (11, [some (.ref T), some (.ref P), some (.int (nI (wkF (atF (maF c2) mi T P) 8))), some (.int (atF (maF c2) mi T P (wkF (atF (maF c2) mi T P) 8))), some (.int (nI 8)), w], [.int 8, .int (nI 8)], (HD, m, ml, mr))) rfl ?_
    refine wp_bC rfl (fun c_1 => ?_) (fun c_1 => ?_)
    rotate_left
    · have c_1 : ¬ (8 ≤ (nI 8)) := of_decide_eq_false c_1
      exact absurd (by decide) c_1
    have c_1 : 8 ≤ (nI 8) := of_decide_eq_true c_1
    refine wp_steps 1 (t' := (27, [some (.ref T), some (.ref P), some (.int (nI (wkF (atF (maF c2) mi T P) 8))), some (.int (atF (maF c2) mi T P (wkF (atF (maF c2) mi T P) 8))), some (.int (nI 8)), w], [.int (nI (wkF (atF (maF c2) mi T P) 8))], (HD, m, ml, mr))) rfl ?_
    refine wp_ret rfl rfl ⟨⟨Nat.le_refl _, Nat.le_refl _⟩, ?_⟩
    exact ⟨m, hi.1, rfl, rfl⟩
  | succ g ih =>
    intro t m w hg hi
    have ht : t < 8 := by omega
    refine wp_steps 2 (t' := (11, [some (.ref T), some (.ref P), some (.int (nI (wkF (atF (maF c2) mi T P) t))), some (.int (atF (maF c2) mi T P (wkF (atF (maF c2) mi T P) t))), some (.int (nI t)), w], [.int 8, .int (nI t)], (HD, m, ml, mr))) rfl ?_
    refine wp_bC rfl (fun c_1 => ?_) (fun c_1 => ?_)
    · have c_1 : 8 ≤ (nI t) := of_decide_eq_true c_1
      exact absurd c_1 (nI_ge ht (by decide))
    have c_1 : ¬ (8 ≤ (nI t)) := of_decide_eq_false c_1
    refine wp_steps 3 (t' := (15, [some (.ref T), some (.ref P), some (.int (nI (wkF (atF (maF c2) mi T P) t))), some (.int (atF (maF c2) mi T P (wkF (atF (maF c2) mi T P) t))), some (.int (nI t)), w], [.int (nI t), .ref P, .ref T], (HD, m, ml, mr))) rfl ?_
    refine wp_calv (as := [.ref P, .int (nI t)]) rfl rfl rfl (Nat.le_of_ble_eq_true rfl) (shT hT) (c_margin (mi := m) hM hT hP hρ hr (scr_X hi.1 hT hρ hP hx) (aix_nI ht (by decide))) (by decide) ?_
    rintro _ _ ⟨m_2, z2, rfl, rfl⟩
    rw [atF_scr hi.1 hT hρ hP, nI_clamp (n := t) (by omega)]
    show aWP _ _ (16, [some (.ref T), some (.ref P), some (.int (nI (wkF (atF (maF c2) mi T P) t))), some (.int (atF (maF c2) mi T P (wkF (atF (maF c2) mi T P) t))), some (.int (nI t)), w], [.int (atF (maF c2) mi T P t)], (HD, m_2, ml, mr)) _
    refine wp_steps 3 (t' := (19, [some (.ref T), some (.ref P), some (.int (nI (wkF (atF (maF c2) mi T P) t))), some (.int (atF (maF c2) mi T P (wkF (atF (maF c2) mi T P) t))), some (.int (nI t)), some (.int (atF (maF c2) mi T P t))], [.int (atF (maF c2) mi T P (wkF (atF (maF c2) mi T P) t)), .int (atF (maF c2) mi T P t)], (HD, m_2, ml, mr))) rfl ?_
    refine wp_bC rfl (fun c_2 => ?_) (fun c_2 => ?_)
    · have c_2 : (atF (maF c2) mi T P (wkF (atF (maF c2) mi T P) t)) ≤ (atF (maF c2) mi T P t) := of_decide_eq_true c_2
      refine wp_steps 2 (t' := (9, [some (.ref T), some (.ref P), some (.int (nI (wkF (atF (maF c2) mi T P) t))), some (.int (atF (maF c2) mi T P (wkF (atF (maF c2) mi T P) t))), some (.int ((nI t) + Int32.ofInt 1)), some (.int (atF (maF c2) mi T P t))], [], (HD, m_2, ml, mr))) rfl ?_
      rw [inc_nI]
      have e2 : wkF (atF (maF c2) mi T P) (t + 1) = wkF (atF (maF c2) mi T P) t := if_neg (Int32.not_lt.mpr c_2)
      have k := ih (t + 1) m_2 (some (.int (atF (maF c2) mi T P t))) (by omega) ⟨scr_tr hi.1 z2, by omega⟩
      rw [e2] at k
      exact k
    · have c_2 : ¬ ((atF (maF c2) mi T P (wkF (atF (maF c2) mi T P) t)) ≤ (atF (maF c2) mi T P t)) := of_decide_eq_false c_2
      refine wp_steps 6 (t' := (9, [some (.ref T), some (.ref P), some (.int (nI t)), some (.int (atF (maF c2) mi T P t)), some (.int ((nI t) + Int32.ofInt 1)), some (.int (atF (maF c2) mi T P t))], [], (HD, m_2, ml, mr))) rfl ?_
      rw [inc_nI]
      have e2 : wkF (atF (maF c2) mi T P) (t + 1) = t := if_pos (Int32.not_le.mp c_2)
      have k := ih (t + 1) m_2 (some (.int (atF (maF c2) mi T P t))) (by omega) ⟨scr_tr hi.1 z2, by omega⟩
      rw [e2] at k
      exact k
set_option maxRecDepth 20000 in
set_option maxHeartbeats 1000000 in
theorem c_leastManaged {X : aXt × Value} {mi : Nat → Nat → Int32} {ml : Nat → Nat → Int64} {mr : Nat → Nat → Option Nat} (hM : MRok mr) {T P ρ : Nat} {c0 c1 c2 : List Int32} (hT : T ∈ TOWNS) (hP : P ∈ PUPS) (hρ : ρ ∈ TXS) (hr : mr T 2 = some ρ) (hx : TXok mi ρ c0 c1 c2) : aCW X 5 62 [.ref T, .ref P] (HD, mi, ml, mr) (fun r h' => ∃ m', scr T ρ mi m' ∧ h' = (HD, m', ml, mr) ∧ r = some (.int (nI (wkF (atF (maF c2) mi T P) 8)))) := by
  refine cw_of (cd := cd_X5_leastManaged) (nL := 6) rfl rfl ?_
  show aWP _ _ (0, [some (.ref T), some (.ref P), none, none, none, none], [], (HD, mi, ml, mr)) _
  refine wp_steps 5 (t' := (5, [some (.ref T), some (.ref P), some (.int 0), none, none, none], [.int 0, .ref P, .ref T], (HD, mi, ml, mr))) rfl ?_
  refine wp_calv (as := [.ref P, .int 0]) rfl rfl rfl (Nat.le_of_ble_eq_true rfl) (shT hT) (c_margin (mi := mi) hM hT hP hρ hr (scr_X (scr_rf (m := mi)) hT hρ hP hx) (by decide)) (by decide) ?_
  rintro _ _ ⟨m_2, z2, rfl, rfl⟩
  rw [atF_scr (scr_rf (m := mi)) hT hρ hP]
  show aWP _ _ (6, [some (.ref T), some (.ref P), some (.int 0), none, none, none], [.int (atF (maF c2) mi T P 0)], (HD, m_2, ml, mr)) _
  refine wp_steps 3 (t' := (9, [some (.ref T), some (.ref P), some (.int 0), some (.int (atF (maF c2) mi T P 0)), some (.int 1), none], [], (HD, m_2, ml, mr))) rfl ?_
  have k := l_leastManaged (X := X) (ml := ml) hM hT hP hρ hr hx 7 1 m_2 none rfl ⟨z2, by decide⟩
  have e1 : wkF (atF (maF c2) mi T P) 1 = 0 := by unfold wkF; split <;> (try rfl) <;> (unfold wkF; rfl)
  rw [e1] at k
  exact k
