/-! the learner: loops, become (written by wip/whole/mkcls2.py) -/
/-- the first place of the least, among the first t -/
def wkF (s : Nat → Int32) : Nat → Nat
  | 0 => 0
  | t + 1 => if s t < s (wkF s t) then t else wkF s t
theorem wkF_lt (s : Nat → Int32) : ∀ t, 0 < t → wkF s t < t
  | 0, h => absurd h (Nat.lt_irrefl 0)
  | 1, _ => by unfold wkF; split <;> (try decide) <;> (unfold wkF; decide)
  | t + 2, _ => by
    unfold wkF
    split
    · omega
    · have := wkF_lt s (t + 1) (by omega)
      omega
def smF (s : Nat → Int32) : Nat → Int32
  | 0 => 0
  | t + 1 => smF s t + s t
set_option maxRecDepth 20000 in
set_option maxHeartbeats 1000000 in
theorem l_leastSkilled {X : aXt × Value} {mi : Nat → Nat → Int32} {ml : Nat → Nat → Int64} {mr : Nat → Nat → Option Nat} (hM : MRok mr) {P : Nat} (hP : P ∈ PUPS) : ∀ (g t : Nat), t + g = 8 → 0 < t → aWP (aEx (aTb X) 0) cd_X0_leastSkilled (4, [some (.ref P), some (.int (nI (wkF (mi (P + 1)) t))), some (.int (nI t))], [], (HD, mi, ml, mr)) (fun r h' => (HD.1 ≤ h'.1.1 ∧ HD.2.1 ≤ h'.1.2.1) ∧ rdI mi ml mr (nI (wkF (mi (P + 1)) 8)) r h') := by
  intro g
  induction g with
  | zero =>
    intro t hg hi
    have e : t = 8 := by omega
    subst e
    refine wp_steps 2 (t' := (6, [some (.ref P), some (.int (nI (wkF (mi (P + 1)) 8))), some (.int (nI 8))], [.int 8, .int (nI 8)], (HD, mi, ml, mr))) rfl ?_
    refine wp_bC rfl (fun c_1 => ?_) (fun c_1 => ?_)
    rotate_left
    · have c_1 : ¬ (8 ≤ (nI 8)) := of_decide_eq_false c_1
      exact absurd (by decide) c_1
    have c_1 : 8 ≤ (nI 8) := of_decide_eq_true c_1
    refine wp_steps 1 (t' := (21, [some (.ref P), some (.int (nI (wkF (mi (P + 1)) 8))), some (.int (nI 8))], [.int (nI (wkF (mi (P + 1)) 8))], (HD, mi, ml, mr))) rfl ?_
    refine wp_ret rfl rfl ⟨⟨Nat.le_refl _, Nat.le_refl _⟩, ?_⟩
    exact ⟨rfl, rfl⟩
  | succ g ih =>
    intro t hg hi
    have ht : t < 8 := by omega
    refine wp_steps 2 (t' := (6, [some (.ref P), some (.int (nI (wkF (mi (P + 1)) t))), some (.int (nI t))], [.int 8, .int (nI t)], (HD, mi, ml, mr))) rfl ?_
    refine wp_bC rfl (fun c_1 => ?_) (fun c_1 => ?_)
    · have c_1 : 8 ≤ (nI t) := of_decide_eq_true c_1
      exact absurd c_1 (nI_ge ht (by decide))
    have c_1 : ¬ (8 ≤ (nI t)) := of_decide_eq_false c_1
    refine wp_steps 1 (t' := (8, [some (.ref P), some (.int (nI (wkF (mi (P + 1)) t))), some (.int (nI t))], [.ref P], (HD, mi, ml, mr))) rfl ?_
    refine wp_getr rfl (shP hP) rfl (hM _ (mlP hP)) ?_
    refine wp_steps 1 (t' := (10, [some (.ref P), some (.int (nI (wkF (mi (P + 1)) t))), some (.int (nI t))], [.int (nI t), .ref (P + 1)], (HD, mi, ml, mr))) rfl ?_
    refine wp_iald rfl (shPs hP) (aix_nI ht (by decide)) ?_
    refine wp_steps 1 (t' := (12, [some (.ref P), some (.int (nI (wkF (mi (P + 1)) t))), some (.int (nI t))], [.ref P, .int (mi (P + 1) (nI t).toNatClampNeg)], (HD, mi, ml, mr))) rfl ?_
    refine wp_getr rfl (shP hP) rfl (hM _ (mlP hP)) ?_
    refine wp_steps 1 (t' := (14, [some (.ref P), some (.int (nI (wkF (mi (P + 1)) t))), some (.int (nI t))], [.int (nI (wkF (mi (P + 1)) t)), .ref (P + 1), .int (mi (P + 1) (nI t).toNatClampNeg)], (HD, mi, ml, mr))) rfl ?_
    refine wp_iald rfl (shPs hP) (aix_nI (Nat.lt_trans (wkF_lt _ t hi) ht) (by decide)) ?_
    refine wp_bC rfl (fun c_2 => ?_) (fun c_2 => ?_)
    · have c_2 : (mi (P + 1) (nI (wkF (mi (P + 1)) t)).toNatClampNeg) ≤ (mi (P + 1) (nI t).toNatClampNeg) := of_decide_eq_true c_2
      refine wp_steps 2 (t' := (4, [some (.ref P), some (.int (nI (wkF (mi (P + 1)) t))), some (.int ((nI t) + Int32.ofInt 1))], [], (HD, mi, ml, mr))) rfl ?_
      rw [inc_nI]
      have e2 : wkF (mi (P + 1)) (t + 1) = wkF (mi (P + 1)) t := by
        show (if mi (P + 1) t < mi (P + 1) (wkF (mi (P + 1)) t) then t else wkF (mi (P + 1)) t) = _
        rw [nI_clamp (n := t) (by omega), nI_clamp (n := wkF (mi (P + 1)) t) (by have := wkF_lt (mi (P + 1)) t hi; omega)] at c_2
        exact if_neg (Int32.not_lt.mpr c_2)
      have k := ih (t + 1) (by omega) (by omega)
      rw [e2] at k
      exact k
    · have c_2 : ¬ ((mi (P + 1) (nI (wkF (mi (P + 1)) t)).toNatClampNeg) ≤ (mi (P + 1) (nI t).toNatClampNeg)) := of_decide_eq_false c_2
      refine wp_steps 4 (t' := (4, [some (.ref P), some (.int (nI t)), some (.int ((nI t) + Int32.ofInt 1))], [], (HD, mi, ml, mr))) rfl ?_
      rw [inc_nI]
      have e2 : wkF (mi (P + 1)) (t + 1) = t := by
        show (if mi (P + 1) t < mi (P + 1) (wkF (mi (P + 1)) t) then t else wkF (mi (P + 1)) t) = t
        rw [nI_clamp (n := t) (by omega), nI_clamp (n := wkF (mi (P + 1)) t) (by have := wkF_lt (mi (P + 1)) t hi; omega)] at c_2
        exact if_pos (Int32.not_le.mp c_2)
      have k := ih (t + 1) (by omega) (by omega)
      rw [e2] at k
      exact k
set_option maxRecDepth 20000 in
set_option maxHeartbeats 1000000 in
theorem c_leastSkilled {X : aXt × Value} {mi : Nat → Nat → Int32} {ml : Nat → Nat → Int64} {mr : Nat → Nat → Option Nat} (hM : MRok mr) {P : Nat} (hP : P ∈ PUPS) : aCW X 1 10 [.ref P] (HD, mi, ml, mr) (rdI mi ml mr (nI (wkF (mi (P + 1)) 8))) := by
  refine cw_of (cd := cd_X0_leastSkilled) (nL := 3) rfl rfl ?_
  show aWP _ _ (0, [some (.ref P), none, none], [], (HD, mi, ml, mr)) _
  refine wp_steps 4 (t' := (4, [some (.ref P), some (.int 0), some (.int 1)], [], (HD, mi, ml, mr))) rfl ?_
  have k := l_leastSkilled (X := X) (mi := mi) (ml := ml) hM hP 7 1 rfl (by decide)
  have e1 : wkF (mi (P + 1)) 1 = 0 := by unfold wkF; split <;> (try rfl) <;> (unfold wkF; rfl)
  rw [e1] at k
  exact k
set_option maxRecDepth 20000 in
set_option maxHeartbeats 1000000 in
theorem l_skillsTogether {X : aXt × Value} {mi : Nat → Nat → Int32} {ml : Nat → Nat → Int64} {mr : Nat → Nat → Option Nat} (hM : MRok mr) {P : Nat} (hP : P ∈ PUPS) : ∀ (g t : Nat), t + g = 8 → aWP (aEx (aTb X) 0) cd_X0_skillsTogether (4, [some (.ref P), some (.int (smF (mi (P + 1)) t)), some (.int (nI t))], [], (HD, mi, ml, mr)) (fun r h' => (HD.1 ≤ h'.1.1 ∧ HD.2.1 ≤ h'.1.2.1) ∧ rdI mi ml mr (smF (mi (P + 1)) 8) r h') := by
  intro g
  induction g with
  | zero =>
    intro t hg
    have e : t = 8 := by omega
    subst e
    refine wp_steps 2 (t' := (6, [some (.ref P), some (.int (smF (mi (P + 1)) 8)), some (.int (nI 8))], [.int 8, .int (nI 8)], (HD, mi, ml, mr))) rfl ?_
    refine wp_bC rfl (fun c_1 => ?_) (fun c_1 => ?_)
    rotate_left
    · have c_1 : ¬ (8 ≤ (nI 8)) := of_decide_eq_false c_1
      exact absurd (by decide) c_1
    have c_1 : 8 ≤ (nI 8) := of_decide_eq_true c_1
    refine wp_steps 1 (t' := (17, [some (.ref P), some (.int (smF (mi (P + 1)) 8)), some (.int (nI 8))], [.int (smF (mi (P + 1)) 8)], (HD, mi, ml, mr))) rfl ?_
    refine wp_ret rfl rfl ⟨⟨Nat.le_refl _, Nat.le_refl _⟩, ?_⟩
    exact ⟨rfl, rfl⟩
  | succ g ih =>
    intro t hg
    have ht : t < 8 := by omega
    refine wp_steps 2 (t' := (6, [some (.ref P), some (.int (smF (mi (P + 1)) t)), some (.int (nI t))], [.int 8, .int (nI t)], (HD, mi, ml, mr))) rfl ?_
    refine wp_bC rfl (fun c_1 => ?_) (fun c_1 => ?_)
    · have c_1 : 8 ≤ (nI t) := of_decide_eq_true c_1
      exact absurd c_1 (nI_ge ht (by decide))
    have c_1 : ¬ (8 ≤ (nI t)) := of_decide_eq_false c_1
    refine wp_steps 2 (t' := (9, [some (.ref P), some (.int (smF (mi (P + 1)) t)), some (.int (nI t))], [.ref P, .int (smF (mi (P + 1)) t)], (HD, mi, ml, mr))) rfl ?_
    refine wp_getr rfl (shP hP) rfl (hM _ (mlP hP)) ?_
    refine wp_steps 1 (t' := (11, [some (.ref P), some (.int (smF (mi (P + 1)) t)), some (.int (nI t))], [.int (nI t), .ref (P + 1), .int (smF (mi (P + 1)) t)], (HD, mi, ml, mr))) rfl ?_
    refine wp_iald rfl (shPs hP) (aix_nI ht (by decide)) ?_
    refine wp_steps 4 (t' := (4, [some (.ref P), some (.int ((smF (mi (P + 1)) t) + (mi (P + 1) (nI t).toNatClampNeg))), some (.int ((nI t) + Int32.ofInt 1))], [], (HD, mi, ml, mr))) rfl ?_
    rw [inc_nI, nI_clamp (by omega)]
    exact ih (t + 1) (by omega)
set_option maxRecDepth 20000 in
set_option maxHeartbeats 1000000 in
theorem c_skillsTogether {X : aXt × Value} {mi : Nat → Nat → Int32} {ml : Nat → Nat → Int64} {mr : Nat → Nat → Option Nat} (hM : MRok mr) {P : Nat} (hP : P ∈ PUPS) : aCW X 1 11 [.ref P] (HD, mi, ml, mr) (rdI mi ml mr (smF (mi (P + 1)) 8)) := by
  refine cw_of (cd := cd_X0_skillsTogether) (nL := 3) rfl rfl ?_
  show aWP _ _ (0, [some (.ref P), none, none], [], (HD, mi, ml, mr)) _
  refine wp_steps 4 (t' := (4, [some (.ref P), some (.int 0), some (.int 0)], [], (HD, mi, ml, mr))) rfl ?_
  exact l_skillsTogether hM hP 8 0 rfl
/-- the learner P as P2 -/
def cpP (m : Nat → Nat → Int32) (P P2 : Nat) : Nat → Nat → Int32 := fun k j => if k = P then (if j < 4 then m P2 j else m P j) else if k = P + 1 then (if j < 8 then m (P2 + 1) j else m (P + 1) j) else m k j
theorem cpP_eq (m : Nat → Nat → Int32) {P P2 : Nat} (hP : P ∈ PUPS) (hP2 : P2 ∈ PUPS) : acpy (aup (aup (aup (aup m P 0 (m P2 0)) P 1 (aup m P 0 (m P2 0) P2 1)) P 2 (aup (aup m P 0 (m P2 0)) P 1 (aup m P 0 (m P2 0) P2 1) P2 2)) P 3 (aup (aup (aup m P 0 (m P2 0)) P 1 (aup m P 0 (m P2 0) P2 1)) P 2 (aup (aup m P 0 (m P2 0)) P 1 (aup m P 0 (m P2 0) P2 1) P2 2) P2 3)) (P2 + 1) (P + 1) 0 0 8 = cpP m P P2 := by
  obtain ⟨h1, h2⟩ := pups_ne hP hP2
  funext k j
  have a1 : (P + 1 = P) = False := by simp
  have a2 : (P2 + 1 = P) = False := by simp; omega
  by_cases hk : k = P + 1
  · subst hk
    by_cases hj : j < 8
    · simp [acpy, aup, cpP, hj, a2]
    · simp [acpy, aup, cpP, hj]
  · by_cases hk2 : k = P
    · subst hk2
      by_cases hp : P2 = k
      · subst hp
        simp [acpy, aup, cpP]
        split <;> (try rfl) <;> (subst_vars; try rfl) <;> (split <;> (try rfl) <;> (subst_vars; try rfl) <;> (split <;> (try rfl) <;> (subst_vars; try rfl) <;> (split <;> subst_vars <;> rfl)))
      · have e : j < 4 ↔ j = 0 ∨ j = 1 ∨ j = 2 ∨ j = 3 := by omega
        by_cases j0 : j = 0
        · subst j0; simp [acpy, aup, cpP]
        · by_cases j1 : j = 1
          · subst j1; simp [acpy, aup, cpP, hp]
          · by_cases j2 : j = 2
            · subst j2; simp [acpy, aup, cpP, hp]
            · by_cases j3 : j = 3
              · subst j3; simp [acpy, aup, cpP, hp]
              · have : ¬ j < 4 := by omega
                simp [acpy, aup, cpP, j0, j1, j2, j3, this]
    · simp [acpy, aup, cpP, hk, hk2]
set_option maxRecDepth 20000 in
set_option maxHeartbeats 1000000 in
theorem c_Pbecome {X : aXt × Value} {mi : Nat → Nat → Int32} {ml : Nat → Nat → Int64} {mr : Nat → Nat → Option Nat} (hM : MRok mr) {P P2 : Nat} (hP : P ∈ PUPS) (hP2 : P2 ∈ PUPS) : aCW X 1 2 [.ref P, .ref P2] (HD, mi, ml, mr) (fun r h' => r = none ∧ h' = (HD, cpP mi P P2, ml, mr)) := by
  refine cw_of (cd := cd_X0_become) (nL := 2) rfl rfl ?_
  show aWP _ _ (0, [some (.ref P), some (.ref P2)], [], (HD, mi, ml, mr)) _
  refine wp_steps 2 (t' := (2, [some (.ref P), some (.ref P2)], [.ref P2, .ref P], (HD, mi, ml, mr))) rfl ?_
  refine wp_geti rfl (shP hP2) (Or.inl rfl) ?_
  refine wp_puti rfl (shP hP) rfl (fun m_1 h_2 => ?_)
  subst h_2
  refine wp_steps 2 (t' := (6, [some (.ref P), some (.ref P2)], [.ref P2, .ref P], (HD, (aup mi P 0 (mi P2 0)), ml, mr))) rfl ?_
  refine wp_geti rfl (shP hP2) (Or.inl rfl) ?_
  refine wp_puti rfl (shP hP) rfl (fun m_3 h_4 => ?_)
  subst h_4
  refine wp_steps 2 (t' := (10, [some (.ref P), some (.ref P2)], [.ref P2, .ref P], (HD, (aup (aup mi P 0 (mi P2 0)) P 1 ((aup mi P 0 (mi P2 0)) P2 1)), ml, mr))) rfl ?_
  refine wp_geti rfl (shP hP2) (Or.inl rfl) ?_
  refine wp_puti rfl (shP hP) rfl (fun m_5 h_6 => ?_)
  subst h_6
  refine wp_steps 2 (t' := (14, [some (.ref P), some (.ref P2)], [.ref P2, .ref P], (HD, (aup (aup (aup mi P 0 (mi P2 0)) P 1 ((aup mi P 0 (mi P2 0)) P2 1)) P 2 ((aup (aup mi P 0 (mi P2 0)) P 1 ((aup mi P 0 (mi P2 0)) P2 1)) P2 2)), ml, mr))) rfl ?_
  refine wp_geti rfl (shP hP2) (Or.inl rfl) ?_
  refine wp_puti rfl (shP hP) rfl (fun m_7 h_8 => ?_)
  subst h_8
  refine wp_steps 1 (t' := (17, [some (.ref P), some (.ref P2)], [.ref P2], (HD, (aup (aup (aup (aup mi P 0 (mi P2 0)) P 1 ((aup mi P 0 (mi P2 0)) P2 1)) P 2 ((aup (aup mi P 0 (mi P2 0)) P 1 ((aup mi P 0 (mi P2 0)) P2 1)) P2 2)) P 3 ((aup (aup (aup mi P 0 (mi P2 0)) P 1 ((aup mi P 0 (mi P2 0)) P2 1)) P 2 ((aup (aup mi P 0 (mi P2 0)) P 1 ((aup mi P 0 (mi P2 0)) P2 1)) P2 2)) P2 3)), ml, mr))) rfl ?_
  refine wp_getr rfl (shP hP2) rfl (hM _ (mlP hP2)) ?_
  refine wp_steps 2 (t' := (20, [some (.ref P), some (.ref P2)], [.ref P, .int 0, .ref (P2 + 1)], (HD, (aup (aup (aup (aup mi P 0 (mi P2 0)) P 1 ((aup mi P 0 (mi P2 0)) P2 1)) P 2 ((aup (aup mi P 0 (mi P2 0)) P 1 ((aup mi P 0 (mi P2 0)) P2 1)) P2 2)) P 3 ((aup (aup (aup mi P 0 (mi P2 0)) P 1 ((aup mi P 0 (mi P2 0)) P2 1)) P 2 ((aup (aup mi P 0 (mi P2 0)) P 1 ((aup mi P 0 (mi P2 0)) P2 1)) P2 2)) P2 3)), ml, mr))) rfl ?_
  refine wp_getr rfl (shP hP) rfl (hM _ (mlP hP)) ?_
  refine wp_steps 2 (t' := (23, [some (.ref P), some (.ref P2)], [.int 8, .int 0, .ref (P + 1), .int 0, .ref (P2 + 1)], (HD, (aup (aup (aup (aup mi P 0 (mi P2 0)) P 1 ((aup mi P 0 (mi P2 0)) P2 1)) P 2 ((aup (aup mi P 0 (mi P2 0)) P 1 ((aup mi P 0 (mi P2 0)) P2 1)) P2 2)) P 3 ((aup (aup (aup mi P 0 (mi P2 0)) P 1 ((aup mi P 0 (mi P2 0)) P2 1)) P 2 ((aup (aup mi P 0 (mi P2 0)) P 1 ((aup mi P 0 (mi P2 0)) P2 1)) P2 2)) P2 3)), ml, mr))) rfl ?_
  refine wp_cpy rfl (shPs hP2) (shPs hP) (by decide) (by decide) (by decide) (by decide) (by decide) (by decide) (fun m_9 h_10 => ?_)
  subst h_10
  refine wp_ret rfl rfl ⟨⟨Nat.le_refl _, Nat.le_refl _⟩, ?_⟩
  exact ⟨rfl, by rw [← cpP_eq mi hP hP2]; rfl⟩
