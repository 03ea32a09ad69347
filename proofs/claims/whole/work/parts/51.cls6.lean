/-! an hour; a sleep (written by wip/whole/mkcls6.py) -/
/-- the learner's rows behind an hour: more is taught, b: a bump -/
def hoF (m : Nat → Nat → Int32) (P s : Nat) (more : Int32) (b : Bool) : Nat → Nat → Int32 := fun k j =>
  if k = P then (if j = 3 then (if b then fmin 999 (m P 3 + 1) else m P 3) else if j = 2 then fmin 99 (m P 2 + 1) else m P j)
  else if k = P + 1 then (if j = s then fmin 99 (m (P + 1) s + (if b then more / 2 else more)) else m (P + 1) j) else m k j
def buF (ma : Int32) (hp : Int32) : Bool := decide (¬ hp = 2) && decide (ma < 0)
set_option maxRecDepth 20000 in
set_option maxHeartbeats 1000000 in
theorem c_spendHour {X : aXt × Value} {mi : Nat → Nat → Int32} {ml : Nat → Nat → Int64} {mr : Nat → Nat → Option Nat} (hM : MRok mr) {T P ρ : Nat} {c0 c1 c2 : List Int32} (hT : T ∈ TOWNS) (hP : P ∈ PUPS) (hρ : ρ ∈ TXS) (hr : mr T 2 = some ρ) (hx : TXok mi ρ c0 c1 c2) {s hp : Int32} (hs : aixn s 8 = true) : aCW X 5 63 [.ref T, .ref P, .int s, .int hp] (HD, mi, ml, mr) (fun r h' => ∃ m', scr T ρ (hoF mi P s.toNatClampNeg (atF (fun k n d s h y => leF c0 k n d s h y hp) mi T P s.toNatClampNeg) (buF (atF (maF c2) mi T P s.toNatClampNeg) hp)) m' ∧ h' = (HD, m', ml, mr) ∧ r = none) := by
  refine cw_of (cd := cd_X5_spendHour) (nL := 5) rfl rfl ?_
  show aWP _ _ (0, [some (.ref T), some (.ref P), some (.int s), some (.int hp), none], [], (HD, mi, ml, mr)) _
  refine wp_steps 4 (t' := (4, [some (.ref T), some (.ref P), some (.int s), some (.int hp), none], [.int hp, .int s, .ref P, .ref T], (HD, mi, ml, mr))) rfl ?_
  refine wp_calv (as := [.ref P, .int s, .int hp]) rfl rfl rfl (Nat.le_of_ble_eq_true rfl) (shT hT) (c_learns (mi := mi) hM hT hP hρ hr hx hs) (by decide) ?_
  rintro _ _ ⟨m_1, z1, rfl, rfl⟩
  show aWP _ _ (5, [some (.ref T), some (.ref P), some (.int s), some (.int hp), none], [.int (atF (fun k n d s h y => leF c0 k n d s h y hp) mi T P s.toNatClampNeg)], (HD, m_1, ml, mr)) _
  refine wp_steps 3 (t' := (8, [some (.ref T), some (.ref P), some (.int s), some (.int hp), some (.int (atF (fun k n d s h y => leF c0 k n d s h y hp) mi T P s.toNatClampNeg))], [.int 2, .int hp], (HD, m_1, ml, mr))) rfl ?_
  refine wp_bC rfl (fun c_1 => ?_) (fun c_1 => ?_)
  · have c_1 : hp = 2 := of_decide_eq_true c_1
    refine wp_steps 1 (t' := (27, [some (.ref T), some (.ref P), some (.int s), some (.int hp), some (.int (atF (fun k n d s h y => leF c0 k n d s h y hp) mi T P s.toNatClampNeg))], [.ref P], (HD, m_1, ml, mr))) rfl ?_
    refine wp_getr rfl (shP hP) rfl (hM _ (mlP hP)) ?_
    refine wp_steps 3 (t' := (31, [some (.ref T), some (.ref P), some (.int s), some (.int hp), some (.int (atF (fun k n d s h y => leF c0 k n d s h y hp) mi T P s.toNatClampNeg))], [.ref P, .int 99, .int s, .ref (P + 1)], (HD, m_1, ml, mr))) rfl ?_
    refine wp_getr rfl (shP hP) rfl (hM _ (mlP hP)) ?_
    refine wp_steps 1 (t' := (33, [some (.ref T), some (.ref P), some (.int s), some (.int hp), some (.int (atF (fun k n d s h y => leF c0 k n d s h y hp) mi T P s.toNatClampNeg))], [.int s, .ref (P + 1), .int 99, .int s, .ref (P + 1)], (HD, m_1, ml, mr))) rfl ?_
    refine wp_iald rfl (shPs hP) hs ?_
    refine wp_steps 3 (t' := (37, [some (.ref T), some (.ref P), some (.int s), some (.int hp), some (.int (atF (fun k n d s h y => leF c0 k n d s h y hp) mi T P s.toNatClampNeg))], [.int (fmin 99 ((m_1 (P + 1) s.toNatClampNeg) + (atF (fun k n d s h y => leF c0 k n d s h y hp) mi T P s.toNatClampNeg))), .int s, .ref (P + 1)], (HD, m_1, ml, mr))) rfl ?_
    refine wp_iast rfl (shPs hP) hs (fun m_2 h_3 => ?_)
    subst h_3
    refine wp_steps 3 (t' := (41, [some (.ref T), some (.ref P), some (.int s), some (.int hp), some (.int (atF (fun k n d s h y => leF c0 k n d s h y hp) mi T P s.toNatClampNeg))], [.ref P, .int 99, .ref P], (HD, (aup m_1 (P + 1) s.toNatClampNeg (fmin 99 ((m_1 (P + 1) s.toNatClampNeg) + (atF (fun k n d s h y => leF c0 k n d s h y hp) mi T P s.toNatClampNeg)))), ml, mr))) rfl ?_
    refine wp_geti rfl (shP hP) (Or.inl rfl) ?_
    refine wp_steps 3 (t' := (45, [some (.ref T), some (.ref P), some (.int s), some (.int hp), some (.int (atF (fun k n d s h y => leF c0 k n d s h y hp) mi T P s.toNatClampNeg))], [.int (fmin 99 (((aup m_1 (P + 1) s.toNatClampNeg (fmin 99 ((m_1 (P + 1) s.toNatClampNeg) + (atF (fun k n d s h y => leF c0 k n d s h y hp) mi T P s.toNatClampNeg)))) P 2) + 1)), .ref P], (HD, (aup m_1 (P + 1) s.toNatClampNeg (fmin 99 ((m_1 (P + 1) s.toNatClampNeg) + (atF (fun k n d s h y => leF c0 k n d s h y hp) mi T P s.toNatClampNeg)))), ml, mr))) rfl ?_
    refine wp_puti rfl (shP hP) rfl (fun m_4 h_5 => ?_)
    subst h_5
    refine wp_ret rfl rfl ⟨⟨Nat.le_refl _, Nat.le_refl _⟩, ?_⟩
    have z3 := z1
    refine ⟨_, ?_, rfl, rfl⟩
    have eb : buF (atF (maF c2) mi T P s.toNatClampNeg) hp = false := by simp [buF, c_1]
    rw [eb]
    intro k j hk1 hk2
    have e1 := scr_P z3 hT hρ hP
    have e2 := scr_P1 z3 hT hρ hP
    have e3 : k ≠ P → k ≠ P + 1 → _ = mi k j := fun _ _ => z3 k j hk1 hk2
    by_cases k1 : k = P
    · subst k1
      by_cases j3 : j = 3
      · subst j3; simp [aup, hoF, e1, e2]
      · by_cases j2 : j = 2
        · subst j2; simp [aup, hoF, e1, e2]
        · simp [aup, hoF, e1, e2, j3, j2]
    · by_cases k2 : k = P + 1
      · subst k2
        by_cases js : j = s.toNatClampNeg
        · subst js; simp [aup, hoF, e1, e2]
        · simp [aup, hoF, e1, e2, js]
      · simp [aup, hoF, k1, k2, e3]
  · have c_1 : ¬ (hp = 2) := of_decide_eq_false c_1
    refine wp_steps 3 (t' := (12, [some (.ref T), some (.ref P), some (.int s), some (.int hp), some (.int (atF (fun k n d s h y => leF c0 k n d s h y hp) mi T P s.toNatClampNeg))], [.int s, .ref P, .ref T], (HD, m_1, ml, mr))) rfl ?_
    refine wp_calv (as := [.ref P, .int s]) rfl rfl rfl (Nat.le_of_ble_eq_true rfl) (shT hT) (c_margin (mi := m_1) hM hT hP hρ hr (scr_X z1 hT hρ hP hx) hs) (by decide) ?_
    rintro _ _ ⟨m_2, z2, rfl, rfl⟩
    rw [atF_scr z1 hT hρ hP]
    show aWP _ _ (13, [some (.ref T), some (.ref P), some (.int s), some (.int hp), some (.int (atF (fun k n d s h y => leF c0 k n d s h y hp) mi T P s.toNatClampNeg))], [.int (atF (maF c2) mi T P s.toNatClampNeg)], (HD, m_2, ml, mr)) _
    refine wp_bI rfl (fun c_6 => ?_) (fun c_6 => ?_)
    · have c_6 : 0 ≤ (atF (maF c2) mi T P s.toNatClampNeg) := of_decide_eq_true c_6
      refine wp_steps 1 (t' := (27, [some (.ref T), some (.ref P), some (.int s), some (.int hp), some (.int (atF (fun k n d s h y => leF c0 k n d s h y hp) mi T P s.toNatClampNeg))], [.ref P], (HD, m_2, ml, mr))) rfl ?_
      refine wp_getr rfl (shP hP) rfl (hM _ (mlP hP)) ?_
      refine wp_steps 3 (t' := (31, [some (.ref T), some (.ref P), some (.int s), some (.int hp), some (.int (atF (fun k n d s h y => leF c0 k n d s h y hp) mi T P s.toNatClampNeg))], [.ref P, .int 99, .int s, .ref (P + 1)], (HD, m_2, ml, mr))) rfl ?_
      refine wp_getr rfl (shP hP) rfl (hM _ (mlP hP)) ?_
      refine wp_steps 1 (t' := (33, [some (.ref T), some (.ref P), some (.int s), some (.int hp), some (.int (atF (fun k n d s h y => leF c0 k n d s h y hp) mi T P s.toNatClampNeg))], [.int s, .ref (P + 1), .int 99, .int s, .ref (P + 1)], (HD, m_2, ml, mr))) rfl ?_
      refine wp_iald rfl (shPs hP) hs ?_
      refine wp_steps 3 (t' := (37, [some (.ref T), some (.ref P), some (.int s), some (.int hp), some (.int (atF (fun k n d s h y => leF c0 k n d s h y hp) mi T P s.toNatClampNeg))], [.int (fmin 99 ((m_2 (P + 1) s.toNatClampNeg) + (atF (fun k n d s h y => leF c0 k n d s h y hp) mi T P s.toNatClampNeg))), .int s, .ref (P + 1)], (HD, m_2, ml, mr))) rfl ?_
      refine wp_iast rfl (shPs hP) hs (fun m_7 h_8 => ?_)
      subst h_8
      refine wp_steps 3 (t' := (41, [some (.ref T), some (.ref P), some (.int s), some (.int hp), some (.int (atF (fun k n d s h y => leF c0 k n d s h y hp) mi T P s.toNatClampNeg))], [.ref P, .int 99, .ref P], (HD, (aup m_2 (P + 1) s.toNatClampNeg (fmin 99 ((m_2 (P + 1) s.toNatClampNeg) + (atF (fun k n d s h y => leF c0 k n d s h y hp) mi T P s.toNatClampNeg)))), ml, mr))) rfl ?_
      refine wp_geti rfl (shP hP) (Or.inl rfl) ?_
      refine wp_steps 3 (t' := (45, [some (.ref T), some (.ref P), some (.int s), some (.int hp), some (.int (atF (fun k n d s h y => leF c0 k n d s h y hp) mi T P s.toNatClampNeg))], [.int (fmin 99 (((aup m_2 (P + 1) s.toNatClampNeg (fmin 99 ((m_2 (P + 1) s.toNatClampNeg) + (atF (fun k n d s h y => leF c0 k n d s h y hp) mi T P s.toNatClampNeg)))) P 2) + 1)), .ref P], (HD, (aup m_2 (P + 1) s.toNatClampNeg (fmin 99 ((m_2 (P + 1) s.toNatClampNeg) + (atF (fun k n d s h y => leF c0 k n d s h y hp) mi T P s.toNatClampNeg)))), ml, mr))) rfl ?_
      refine wp_puti rfl (shP hP) rfl (fun m_9 h_10 => ?_)
      subst h_10
      refine wp_ret rfl rfl ⟨⟨Nat.le_refl _, Nat.le_refl _⟩, ?_⟩
      have z3 := (scr_tr z1 z2)
      refine ⟨_, ?_, rfl, rfl⟩
      have eb : buF (atF (maF c2) mi T P s.toNatClampNeg) hp = false := by simp [buF, c_1, Int32.not_lt.mpr c_6]
      rw [eb]
      intro k j hk1 hk2
      have e1 := scr_P z3 hT hρ hP
      have e2 := scr_P1 z3 hT hρ hP
      have e3 : k ≠ P → k ≠ P + 1 → _ = mi k j := fun _ _ => z3 k j hk1 hk2
      by_cases k1 : k = P
      · subst k1
        by_cases j3 : j = 3
        · subst j3; simp [aup, hoF, e1, e2]
        · by_cases j2 : j = 2
          · subst j2; simp [aup, hoF, e1, e2]
          · simp [aup, hoF, e1, e2, j3, j2]
      · by_cases k2 : k = P + 1
        · subst k2
          by_cases js : j = s.toNatClampNeg
          · subst js; simp [aup, hoF, e1, e2]
          · simp [aup, hoF, e1, e2, js]
        · simp [aup, hoF, k1, k2, e3]
    · have c_6 : ¬ (0 ≤ (atF (maF c2) mi T P s.toNatClampNeg)) := of_decide_eq_false c_6
      refine wp_steps 3 (t' := (17, [some (.ref T), some (.ref P), some (.int s), some (.int hp), some (.int (atF (fun k n d s h y => leF c0 k n d s h y hp) mi T P s.toNatClampNeg))], [.ref P, .int 999, .ref P], (HD, m_2, ml, mr))) rfl ?_
      refine wp_geti rfl (shP hP) (Or.inl rfl) ?_
      refine wp_steps 3 (t' := (21, [some (.ref T), some (.ref P), some (.int s), some (.int hp), some (.int (atF (fun k n d s h y => leF c0 k n d s h y hp) mi T P s.toNatClampNeg))], [.int (fmin 999 ((m_2 P 3) + 1)), .ref P], (HD, m_2, ml, mr))) rfl ?_
      refine wp_puti rfl (shP hP) rfl (fun m_11 h_12 => ?_)
      subst h_12
      refine wp_steps 5 (t' := (27, [some (.ref T), some (.ref P), some (.int s), some (.int hp), some (.int ((atF (fun k n d s h y => leF c0 k n d s h y hp) mi T P s.toNatClampNeg) / 2))], [.ref P], (HD, (aup m_2 P 3 (fmin 999 ((m_2 P 3) + 1))), ml, mr))) rfl ?_
      refine wp_getr rfl (shP hP) rfl (hM _ (mlP hP)) ?_
      refine wp_steps 3 (t' := (31, [some (.ref T), some (.ref P), some (.int s), some (.int hp), some (.int ((atF (fun k n d s h y => leF c0 k n d s h y hp) mi T P s.toNatClampNeg) / 2))], [.ref P, .int 99, .int s, .ref (P + 1)], (HD, (aup m_2 P 3 (fmin 999 ((m_2 P 3) + 1))), ml, mr))) rfl ?_
      refine wp_getr rfl (shP hP) rfl (hM _ (mlP hP)) ?_
      refine wp_steps 1 (t' := (33, [some (.ref T), some (.ref P), some (.int s), some (.int hp), some (.int ((atF (fun k n d s h y => leF c0 k n d s h y hp) mi T P s.toNatClampNeg) / 2))], [.int s, .ref (P + 1), .int 99, .int s, .ref (P + 1)], (HD, (aup m_2 P 3 (fmin 999 ((m_2 P 3) + 1))), ml, mr))) rfl ?_
      refine wp_iald rfl (shPs hP) hs ?_
      refine wp_steps 3 (t' := (37, [some (.ref T), some (.ref P), some (.int s), some (.int hp), some (.int ((atF (fun k n d s h y => leF c0 k n d s h y hp) mi T P s.toNatClampNeg) / 2))], [.int (fmin 99 (((aup m_2 P 3 (fmin 999 ((m_2 P 3) + 1))) (P + 1) s.toNatClampNeg) + ((atF (fun k n d s h y => leF c0 k n d s h y hp) mi T P s.toNatClampNeg) / 2))), .int s, .ref (P + 1)], (HD, (aup m_2 P 3 (fmin 999 ((m_2 P 3) + 1))), ml, mr))) rfl ?_
      refine wp_iast rfl (shPs hP) hs (fun m_13 h_14 => ?_)
      subst h_14
      refine wp_steps 3 (t' := (41, [some (.ref T), some (.ref P), some (.int s), some (.int hp), some (.int ((atF (fun k n d s h y => leF c0 k n d s h y hp) mi T P s.toNatClampNeg) / 2))], [.ref P, .int 99, .ref P], (HD, (aup (aup m_2 P 3 (fmin 999 ((m_2 P 3) + 1))) (P + 1) s.toNatClampNeg (fmin 99 (((aup m_2 P 3 (fmin 999 ((m_2 P 3) + 1))) (P + 1) s.toNatClampNeg) + ((atF (fun k n d s h y => leF c0 k n d s h y hp) mi T P s.toNatClampNeg) / 2)))), ml, mr))) rfl ?_
      refine wp_geti rfl (shP hP) (Or.inl rfl) ?_
      refine wp_steps 3 (t' := (45, [some (.ref T), some (.ref P), some (.int s), some (.int hp), some (.int ((atF (fun k n d s h y => leF c0 k n d s h y hp) mi T P s.toNatClampNeg) / 2))], [.int (fmin 99 (((aup (aup m_2 P 3 (fmin 999 ((m_2 P 3) + 1))) (P + 1) s.toNatClampNeg (fmin 99 (((aup m_2 P 3 (fmin 999 ((m_2 P 3) + 1))) (P + 1) s.toNatClampNeg) + ((atF (fun k n d s h y => leF c0 k n d s h y hp) mi T P s.toNatClampNeg) / 2)))) P 2) + 1)), .ref P], (HD, (aup (aup m_2 P 3 (fmin 999 ((m_2 P 3) + 1))) (P + 1) s.toNatClampNeg (fmin 99 (((aup m_2 P 3 (fmin 999 ((m_2 P 3) + 1))) (P + 1) s.toNatClampNeg) + ((atF (fun k n d s h y => leF c0 k n d s h y hp) mi T P s.toNatClampNeg) / 2)))), ml, mr))) rfl ?_
      refine wp_puti rfl (shP hP) rfl (fun m_15 h_16 => ?_)
      subst h_16
      refine wp_ret rfl rfl ⟨⟨Nat.le_refl _, Nat.le_refl _⟩, ?_⟩
      have z3 := (scr_tr z1 z2)
      refine ⟨_, ?_, rfl, rfl⟩
      have eb : buF (atF (maF c2) mi T P s.toNatClampNeg) hp = true := by simp [buF, c_1, Int32.not_le.mp c_6]
      rw [eb]
      intro k j hk1 hk2
      have e1 := scr_P z3 hT hρ hP
      have e2 := scr_P1 z3 hT hρ hP
      have e3 : k ≠ P → k ≠ P + 1 → _ = mi k j := fun _ _ => z3 k j hk1 hk2
      by_cases k1 : k = P
      · subst k1
        by_cases j3 : j = 3
        · subst j3; simp [aup, hoF, e1, e2]
        · by_cases j2 : j = 2
          · subst j2; simp [aup, hoF, e1, e2]
          · simp [aup, hoF, e1, e2, j3, j2]
      · by_cases k2 : k = P + 1
        · subst k2
          by_cases js : j = s.toNatClampNeg
          · subst js; simp [aup, hoF, e1, e2]
          · simp [aup, hoF, e1, e2, js]
        · simp [aup, hoF, k1, k2, e3]
/-- the learner's skills behind the first t streets of a sleep -/
def slF (c1 : List Int32) (m : Nat → Nat → Int32) (T P t : Nat) : Nat → Nat → Int32 := fun k j => if k = P + 1 then (if j < t then fmax 0 (m (P + 1) j - atF (foF c1) m T P j) else m (P + 1) j) else m k j
def slE (c1 : List Int32) (m : Nat → Nat → Int32) (T P : Nat) : Nat → Nat → Int32 := fun k j => if k = P then (if j = 2 then 0 else m P j) else slF c1 m T P 8 k j
theorem slF_at {c1 : List Int32} {m : Nat → Nat → Int32} {T P t : Nat} (hT : T ∈ TOWNS) (hP : P ∈ PUPS) : atF (foF c1) (slF c1 m T P t) T P t = atF (foF c1) m T P t := by
  have h : ∀ T ∈ TOWNS, ∀ P ∈ PUPS, T ≠ P + 1 ∧ T ≠ P := by decide
  obtain ⟨a1, a2⟩ := h T hT P hP
  simp [atF, slF, a1, a2]
theorem slF_tx {c1 d0 d1 d2 : List Int32} {m : Nat → Nat → Int32} {T P t ρ : Nat} (hP : P ∈ PUPS) (hρ : ρ ∈ TXS) (hx : TXok m ρ d0 d1 d2) : TXok (slF c1 m T P t) ρ d0 d1 d2 := by
  have h : ∀ ρ ∈ TXS, ∀ P ∈ PUPS, ρ + 1 ≠ P + 1 ∧ ρ + 2 ≠ P + 1 := by decide
  obtain ⟨a1, a2⟩ := h ρ hρ P hP
  exact hx.kept (fun j => by unfold slF; rw [if_neg a1]) (fun j => by unfold slF; rw [if_neg a2])
theorem slF_st {c1 : List Int32} {m m' : Nat → Nat → Int32} {T P t ρ : Nat} (hT : T ∈ TOWNS) (hP : P ∈ PUPS) (hρ : ρ ∈ TXS) (hz : scr T ρ (slF c1 m T P t) m') : scr T ρ (slF c1 m T P (t + 1)) (aup m' (P + 1) t (fmax 0 (m' (P + 1) t - atF (foF c1) m T P t))) := by
  intro k j h1 h2
  have e1 := scr_P1 hz hT hρ hP
  by_cases hk : k = P + 1
  · subst hk
    by_cases hj : j = t
    · subst hj
      simp [aup, e1, slF]
    · have : (j < t + 1) = (j < t) := by simp; omega
      simp [aup, hj, e1, slF, this]
  · have := hz k j h1 h2
    simp [aup, hk, this, slF]
set_option maxRecDepth 20000 in
set_option maxHeartbeats 1000000 in
theorem l_sleep {X : aXt × Value} {mi : Nat → Nat → Int32} {ml : Nat → Nat → Int64} {mr : Nat → Nat → Option Nat} (hM : MRok mr) {T P ρ : Nat} {c0 c1 c2 : List Int32} (hT : T ∈ TOWNS) (hP : P ∈ PUPS) (hρ : ρ ∈ TXS) (hr : mr T 2 = some ρ) (hx : TXok mi ρ c0 c1 c2) : ∀ (g t : Nat) (m : Nat → Nat → Int32), t + g = 8 → scr T ρ (slF c1 mi T P t) m → aWP (aEx (aTb X) 4) cd_X5_sleep (2, [some (.ref T), some (.ref P), some (.int (nI t))], [], (HD, m, ml, mr)) (fun r h' => (HD.1 ≤ h'.1.1 ∧ HD.2.1 ≤ h'.1.2.1) ∧ (∃ m', scr T ρ (slE c1 mi T P) m' ∧ h' = (HD, m', ml, mr) ∧ r = none)) := by
  intro g
  induction g with
  | zero =>
    intro t m hg hi
    have e : t = 8 := by omega
    subst e
    refine wp_steps 2 (t' := (4, [some (.ref T), some (.ref P), some (.int (nI 8))], [.int 8, .int (nI 8)], (HD, m, ml, mr))) rfl ?_
    refine wp_bC rfl (fun c_1 => ?_) (fun c_1 => ?_)
    rotate_left
    · have c_1 : ¬ (8 ≤ (nI 8)) := of_decide_eq_false c_1
      exact absurd (by decide) c_1
    have c_1 : 8 ≤ (nI 8) := of_decide_eq_true c_1
    refine wp_steps 2 (t' := (24, [some (.ref T), some (.ref P), some (.int (nI 8))], [.int 0, .ref P], (HD, m, ml, mr))) rfl ?_
    refine wp_puti rfl (shP hP) rfl (fun m_2 h_3 => ?_)
    subst h_3
    refine wp_ret rfl rfl ⟨⟨Nat.le_refl _, Nat.le_refl _⟩, ?_⟩
    refine ⟨_, ?_, rfl, rfl⟩
    intro k j hk1 hk2
    have e1 := scr_P hi hT hρ hP
    by_cases k1 : k = P
    · subst k1
      by_cases j2 : j = 2
      · subst j2; simp [aup, slE]
      · simp [aup, slE, j2, e1, slF]
    · simp [aup, slE, k1, hi k j hk1 hk2]
  | succ g ih =>
    intro t m hg hi
    have ht : t < 8 := by omega
    refine wp_steps 2 (t' := (4, [some (.ref T), some (.ref P), some (.int (nI t))], [.int 8, .int (nI t)], (HD, m, ml, mr))) rfl ?_
    refine wp_bC rfl (fun c_1 => ?_) (fun c_1 => ?_)
    · have c_1 : 8 ≤ (nI t) := of_decide_eq_true c_1
      exact absurd c_1 (nI_ge ht (by decide))
    have c_1 : ¬ (8 ≤ (nI t)) := of_decide_eq_false c_1
    refine wp_steps 1 (t' := (6, [some (.ref T), some (.ref P), some (.int (nI t))], [.ref P], (HD, m, ml, mr))) rfl ?_
    refine wp_getr rfl (shP hP) rfl (hM _ (mlP hP)) ?_
    refine wp_steps 3 (t' := (10, [some (.ref T), some (.ref P), some (.int (nI t))], [.ref P, .int 0, .int (nI t), .ref (P + 1)], (HD, m, ml, mr))) rfl ?_
    refine wp_getr rfl (shP hP) rfl (hM _ (mlP hP)) ?_
    refine wp_steps 1 (t' := (12, [some (.ref T), some (.ref P), some (.int (nI t))], [.int (nI t), .ref (P + 1), .int 0, .int (nI t), .ref (P + 1)], (HD, m, ml, mr))) rfl ?_
    refine wp_iald rfl (shPs hP) (aix_nI ht (by decide)) ?_
    refine wp_steps 3 (t' := (16, [some (.ref T), some (.ref P), some (.int (nI t))], [.int (nI t), .ref P, .ref T, .int (m (P + 1) (nI t).toNatClampNeg), .int 0, .int (nI t), .ref (P + 1)], (HD, m, ml, mr))) rfl ?_
    refine wp_calv (as := [.ref P, .int (nI t)]) rfl rfl rfl (Nat.le_of_ble_eq_true rfl) (shT hT) (c_forgets (mi := m) hM hT hP hρ hr (scr_X hi hT hρ hP (slF_tx hP hρ hx)) (aix_nI ht (by decide))) (by decide) ?_
    rintro _ _ ⟨m_2, z2, rfl, rfl⟩
    have e : atF (foF c1) (slF c1 mi T P t) T P (nI t).toNatClampNeg = atF (foF c1) mi T P t := by rw [nI_clamp (n := t) (by omega), slF_at hT hP]
    rw [atF_scr hi hT hρ hP, e]
    show aWP _ _ (17, [some (.ref T), some (.ref P), some (.int (nI t))], [.int (atF (foF c1) mi T P t), .int (m (P + 1) (nI t).toNatClampNeg), .int 0, .int (nI t), .ref (P + 1)], (HD, m_2, ml, mr)) _
    refine wp_steps 2 (t' := (19, [some (.ref T), some (.ref P), some (.int (nI t))], [.int (fmax 0 ((m (P + 1) (nI t).toNatClampNeg) - (atF (foF c1) mi T P t))), .int (nI t), .ref (P + 1)], (HD, m_2, ml, mr))) rfl ?_
    refine wp_iast rfl (shPs hP) (aix_nI ht (by decide)) (fun m_2 h_3 => ?_)
    subst h_3
    refine wp_steps 2 (t' := (2, [some (.ref T), some (.ref P), some (.int ((nI t) + Int32.ofInt 1))], [], (HD, (aup m_2 (P + 1) (nI t).toNatClampNeg (fmax 0 ((m (P + 1) (nI t).toNatClampNeg) - (atF (foF c1) mi T P t)))), ml, mr))) rfl ?_
    rw [inc_nI]
    rw [nI_clamp (n := t) (by omega)]
    rw [← scr_P1 z2 hT hρ hP t]
    exact ih (t + 1) _ (by omega) (slF_st hT hP hρ (scr_tr hi z2))
set_option maxRecDepth 20000 in
set_option maxHeartbeats 1000000 in
theorem c_sleep {X : aXt × Value} {mi : Nat → Nat → Int32} {ml : Nat → Nat → Int64} {mr : Nat → Nat → Option Nat} (hM : MRok mr) {T P ρ : Nat} {c0 c1 c2 : List Int32} (hT : T ∈ TOWNS) (hP : P ∈ PUPS) (hρ : ρ ∈ TXS) (hr : mr T 2 = some ρ) (hx : TXok mi ρ c0 c1 c2) : aCW X 5 64 [.ref T, .ref P] (HD, mi, ml, mr) (fun r h' => (∃ m', scr T ρ (slE c1 mi T P) m' ∧ h' = (HD, m', ml, mr) ∧ r = none)) := by
  refine cw_of (cd := cd_X5_sleep) (nL := 3) rfl rfl ?_
  show aWP _ _ (0, [some (.ref T), some (.ref P), none], [], (HD, mi, ml, mr)) _
  refine wp_steps 2 (t' := (2, [some (.ref T), some (.ref P), some (.int 0)], [], (HD, mi, ml, mr))) rfl ?_
  exact l_sleep hM hT hP hρ hr hx 8 0 mi rfl (fun k j _ _ => by unfold slF; split <;> simp [*])
