/-! learners, film (written by wip/whole/mkpub7.py) -/
/-- how many learners, what each is -/
abbrev lS := Nat × (Nat → pU)
def coS (s : lS) (kd nu : Int32) : lS := if inR 0 5 kd ∧ inR 0 9 nu then (if s.1 < 5 then (s.1 + 1, fun p => if p = s.1 then (kd, nu, 0, 0, fun _ => 0) else s.2 p) else s) else s
def coV (s : lS) (kd nu : Int32) : Int32 := if inR 0 5 kd ∧ inR 0 9 nu then (if s.1 < 5 then nI s.1 else -4) else -2
def LSt (m : Nat → Nat → Int32) (s : lS) : Prop := m 0 5 = nI s.1 ∧ s.1 ≤ 5 ∧ ∀ p, p < 5 → puC m (35 + 4 * p) = s.2 p
/-- alike but for the learners -/
def frP (m m' : Nat → Nat → Int32) : Prop := ∀ x j, (∀ p, p < 5 → x ≠ 35 + 4 * p ∧ x ≠ 35 + 4 * p + 1) → ¬ (x = 0 ∧ j = 5) → m' x j = m x j
theorem frP.rf (m : Nat → Nat → Int32) : frP m m := fun _ _ _ _ => rfl
theorem frP.tr {a b c : Nat → Nat → Int32} (h : frP a b) (k : frP b c) : frP a c := fun x j q z => (k x j q z).trans (h x j q z)
theorem g_comes {X : aXt × Value} {m : Nat → Nat → Int32} {ml : Nat → Nat → Int64} {mr : Nat → Nat → Option Nat} (hM : MRok mr) {s : lS} (h : LSt m s) {kd nu : Int32} : aCW X 3 70 [.ref 0, .int kd, .int nu] (HD, m, ml, mr) (fun r h' => r = some (.int (coV s kd nu)) ∧ ∃ m', h' = (HD, m', ml, mr) ∧ LSt m' (coS s kd nu) ∧ frP m m') := by
  obtain ⟨h1, h2, h3⟩ := h
  obtain ⟨r, h', g, e1, e2⟩ := c_comes (X := X) (ml := ml) hM h1 h2 (kd := kd) (nu := nu)
  refine ⟨r, h', g, e1, _, e2, ?_⟩
  unfold coS
  by_cases hG : inR 0 5 kd ∧ inR 0 9 nu
  · rw [if_pos hG, if_pos hG]
    by_cases h5 : s.1 < 5
    · rw [if_pos h5, if_pos h5]
      refine ⟨⟨rfl, h5, fun p hp => ?_⟩, fun x j hx hj => ?_⟩
      · by_cases e : p = s.1
        · subst e
          show _ = if s.1 = s.1 then _ else _
          rw [if_pos rfl]
          refine Prod.ext ?_ (Prod.ext ?_ (Prod.ext ?_ (Prod.ext ?_ (funext fun j => ?_)))) <;> first | (simp [puC, aup, afil, c8]; done) | (simp [puC, aup, afil, c8]; omega)
        · show _ = if p = s.1 then _ else _
          rw [if_neg e, ← h3 p hp]
          have a1 : ¬ 35 + 4 * p = 0 := by omega
          have a2 : ¬ 35 + 4 * p = 35 + 4 * s.1 + 1 := by omega
          have a3 : ¬ 35 + 4 * p = 35 + 4 * s.1 := by omega
          have a4 : ¬ 35 + 4 * p + 1 = 0 := by omega
          have a5 : ¬ 35 + 4 * p + 1 = 35 + 4 * s.1 + 1 := by omega
          have a6 : ¬ 35 + 4 * p + 1 = 35 + 4 * s.1 := by omega
          refine Prod.ext ?_ (Prod.ext ?_ (Prod.ext ?_ (Prod.ext ?_ (funext fun j => ?_)))) <;> simp only [puC, aup, afil, c8, if_neg a1, if_neg a2, if_neg a3, if_neg a4, if_neg a5, if_neg a6]
      · have q := hx s.1 h5
        simp only [aup, afil]
        rw [if_neg q.2, if_neg q.1]
        by_cases x0 : x = 0
        · rw [if_pos x0, if_neg (fun z => hj ⟨x0, z⟩)]; simp [if_neg q.1]
        · rw [if_neg x0]; simp [if_neg q.1]
    · rw [if_neg h5, if_neg h5]
      exact ⟨⟨h1, h2, h3⟩, frP.rf m⟩
  · rw [if_neg hG, if_neg hG]
    exact ⟨⟨h1, h2, h3⟩, frP.rf m⟩
/-- learners that come from a sheet's items: what is answered, who there is then -/
def lrS (sz : Int32) (it : Nat → Int32) : Nat → Int32 → Int32 → lS → Int32 × lS
  | 0, _, came, s => (came, s)
  | g + 1, a, came, s => if hsF sz a = 0 then (-12, s) else if hsF sz (a + 1) = 0 then (-12, s) else lrS sz it g (a + 2) (if coV s (it a.toNatClampNeg) (it (a + 1).toNatClampNeg) < 0 then came else came + 1) (coS s (it a.toNatClampNeg) (it (a + 1).toNatClampNeg))
theorem sh_P5 {K : Nat} (h : K ∈ SHS) : (∀ p, p < 5 → K ≠ 35 + 4 * p ∧ K ≠ 35 + 4 * p + 1) ∧ (∀ p, p < 5 → K + 1 ≠ 35 + 4 * p ∧ K + 1 ≠ 35 + 4 * p + 1) ∧ K ≠ 0 ∧ K + 1 ≠ 0 := by
  revert K
  decide
set_option maxRecDepth 20000 in
set_option maxHeartbeats 1000000 in
theorem l_learners {X : aXt × Value} {mi : Nat → Nat → Int32} {ml : Nat → Nat → Int64} {mr : Nat → Nat → Option Nat} (hM : MRok mr) {sh so fr : Int32} (hK : sAt sh ∈ SHS) {n : Nat} (hn : n ≤ 5) : ∀ (g k : Nat) (a ca : Int32) (s : lS) (m : Nat → Nat → Int32), k + g = n → LSt m s → frP mi m → aWP (aEx (aTb X) 3) cd_X6_learners (36, [some (.ref 0), some (.int sh), some (.int so), some (.int fr), some (.int (nI n)), some (.ref (sAt sh)), some (.int ca), some (.int a), some (.int (nI k))], [], (HD, m, ml, mr)) (fun r h' => (HD.1 ≤ h'.1.1 ∧ HD.2.1 ≤ h'.1.2.1) ∧ r = some (.int (lrS (mi (sAt sh) 1) (mi (sAt sh + 1)) g a ca s).1) ∧ ∃ m', h' = (HD, m', ml, mr) ∧ LSt m' (lrS (mi (sAt sh) 1) (mi (sAt sh + 1)) g a ca s).2 ∧ frP mi m') := by
  intro g
  induction g with
  | zero =>
    intro k a ca s m hg h hf
    obtain rfl : k = n := by omega
    refine wp_steps 2 (t' := (38, [some (.ref 0), some (.int sh), some (.int so), some (.int fr), some (.int (nI k)), some (.ref (sAt sh)), some (.int ca), some (.int a), some (.int (nI k))], [.int (nI k), .int (nI k)], (HD, m, ml, mr))) rfl ?_
    refine wp_bC rfl (fun c_1 => ?_) (fun c_1 => ?_)
    rotate_left
    · have c_1 : ¬ ((nI k) ≤ (nI k)) := of_decide_eq_false c_1
      exact absurd (Int32.le_refl _) c_1
    have c_1 : (nI k) ≤ (nI k) := of_decide_eq_true c_1
    refine wp_steps 1 (t' := (69, [some (.ref 0), some (.int sh), some (.int so), some (.int fr), some (.int (nI k)), some (.ref (sAt sh)), some (.int ca), some (.int a), some (.int (nI k))], [.int ca], (HD, m, ml, mr))) rfl ?_
    refine wp_ret rfl rfl ⟨⟨Nat.le_refl _, Nat.le_refl _⟩, ?_⟩
    exact ⟨rfl, m, rfl, h, hf⟩
  | succ g ih =>
    intro k a ca s m hg h hf
    have z1 : m (sAt sh) 1 = mi (sAt sh) 1 := hf _ _ (sh_P5 hK).1 (fun z => (sh_P5 hK).2.2.1 z.1)
    have z2 : m (sAt sh + 1) = mi (sAt sh + 1) := funext fun j => hf _ _ (sh_P5 hK).2.1 (fun z => (sh_P5 hK).2.2.2 z.1)
    refine wp_steps 2 (t' := (38, [some (.ref 0), some (.int sh), some (.int so), some (.int fr), some (.int (nI n)), some (.ref (sAt sh)), some (.int ca), some (.int a), some (.int (nI k))], [.int (nI n), .int (nI k)], (HD, m, ml, mr))) rfl ?_
    refine wp_bC rfl (fun c_1 => ?_) (fun c_1 => ?_)
    · have c_1 : (nI n) ≤ (nI k) := of_decide_eq_true c_1
      exact absurd c_1 (nI_ge (a := k) (b := n) (by omega) (by omega))
    have c_1 : ¬ ((nI n) ≤ (nI k)) := of_decide_eq_false c_1
    refine wp_steps 2 (t' := (41, [some (.ref 0), some (.int sh), some (.int so), some (.int fr), some (.int (nI n)), some (.ref (sAt sh)), some (.int ca), some (.int a), some (.int (nI k))], [.int a, .ref (sAt sh)], (HD, m, ml, mr))) rfl ?_
    refine wp_calv (as := [.int a]) rfl rfl rfl (Nat.le_of_ble_eq_true rfl) (shS hK) ((c_Shas (mi := m) (ml := ml) hK (i := a))) (by decide) ?_
    rintro _ _ ⟨rfl, rfl⟩
    rw [z1]
    show aWP _ _ (42, [some (.ref 0), some (.int sh), some (.int so), some (.int fr), some (.int (nI n)), some (.ref (sAt sh)), some (.int ca), some (.int a), some (.int (nI k))], [.int (hsF (mi (sAt sh) 1) a)], (HD, m, ml, mr)) _
    refine wp_bI rfl (fun c_2 => ?_) (fun c_2 => ?_)
    · have c_2 : (hsF (mi (sAt sh) 1) a) = 0 := of_decide_eq_true c_2
      refine wp_steps 1 (t' := (50, [some (.ref 0), some (.int sh), some (.int so), some (.int fr), some (.int (nI n)), some (.ref (sAt sh)), some (.int ca), some (.int a), some (.int (nI k))], [.int (-12)], (HD, m, ml, mr))) rfl ?_
      refine wp_ret rfl rfl ⟨⟨Nat.le_refl _, Nat.le_refl _⟩, ?_⟩
      have e : lrS (mi (sAt sh) 1) (mi (sAt sh + 1)) (g + 1) a ca s = (-12, s) := by
        show (if _ then _ else if _ then _ else _) = _
        rw [if_pos c_2]
      rw [e]
      exact ⟨rfl, m, rfl, h, hf⟩
    · have c_2 : ¬ ((hsF (mi (sAt sh) 1) a) = 0) := of_decide_eq_false c_2
      refine wp_steps 4 (t' := (47, [some (.ref 0), some (.int sh), some (.int so), some (.int fr), some (.int (nI n)), some (.ref (sAt sh)), some (.int ca), some (.int a), some (.int (nI k))], [.int (a + 1), .ref (sAt sh)], (HD, m, ml, mr))) rfl ?_
      refine wp_calv (as := [.int (a + 1)]) rfl rfl rfl (Nat.le_of_ble_eq_true rfl) (shS hK) ((c_Shas (mi := m) (ml := ml) hK (i := a + 1))) (by decide) ?_
      rintro _ _ ⟨rfl, rfl⟩
      rw [z1]
      show aWP _ _ (48, [some (.ref 0), some (.int sh), some (.int so), some (.int fr), some (.int (nI n)), some (.ref (sAt sh)), some (.int ca), some (.int a), some (.int (nI k))], [.int (hsF (mi (sAt sh) 1) (a + 1))], (HD, m, ml, mr)) _
      refine wp_bI rfl (fun c_3 => ?_) (fun c_3 => ?_)
      · have c_3 : ¬ (hsF (mi (sAt sh) 1) (a + 1)) = 0 := of_decide_eq_true c_3
        refine wp_steps 2 (t' := (53, [some (.ref 0), some (.int sh), some (.int so), some (.int fr), some (.int (nI n)), some (.ref (sAt sh)), some (.int ca), some (.int a), some (.int (nI k))], [.ref (sAt sh), .ref 0], (HD, m, ml, mr))) rfl ?_
        refine wp_getr rfl (shS hK) rfl (hM _ (mlS hK)) ?_
        refine wp_steps 1 (t' := (55, [some (.ref 0), some (.int sh), some (.int so), some (.int fr), some (.int (nI n)), some (.ref (sAt sh)), some (.int ca), some (.int a), some (.int (nI k))], [.int a, .ref (sAt sh + 1), .ref 0], (HD, m, ml, mr))) rfl ?_
        refine wp_iald rfl (shSi hK) (hsF_ix c_2) ?_
        rw [z2]
        refine wp_steps 1 (t' := (57, [some (.ref 0), some (.int sh), some (.int so), some (.int fr), some (.int (nI n)), some (.ref (sAt sh)), some (.int ca), some (.int a), some (.int (nI k))], [.ref (sAt sh), .int (mi (sAt sh + 1) a.toNatClampNeg), .ref 0], (HD, m, ml, mr))) rfl ?_
        refine wp_getr rfl (shS hK) rfl (hM _ (mlS hK)) ?_
        refine wp_steps 3 (t' := (61, [some (.ref 0), some (.int sh), some (.int so), some (.int fr), some (.int (nI n)), some (.ref (sAt sh)), some (.int ca), some (.int a), some (.int (nI k))], [.int (a + 1), .ref (sAt sh + 1), .int (mi (sAt sh + 1) a.toNatClampNeg), .ref 0], (HD, m, ml, mr))) rfl ?_
        refine wp_iald rfl (shSi hK) (hsF_ix c_3) ?_
        rw [z2]
        refine wp_calv (as := [.int (mi (sAt sh + 1) a.toNatClampNeg), .int (mi (sAt sh + 1) (a + 1).toNatClampNeg)]) rfl rfl rfl (Nat.le_of_ble_eq_true rfl) ⟨by decide, rfl⟩ ((g_comes (ml := ml) hM h (kd := (mi (sAt sh + 1) a.toNatClampNeg)) (nu := (mi (sAt sh + 1) (a + 1).toNatClampNeg)))) (by decide) ?_
        rintro _ _ ⟨rfl, m_1, rfl, h1, f1⟩
        show aWP _ _ (63, [some (.ref 0), some (.int sh), some (.int so), some (.int fr), some (.int (nI n)), some (.ref (sAt sh)), some (.int ca), some (.int a), some (.int (nI k))], [.int (coV s (mi (sAt sh + 1) a.toNatClampNeg) (mi (sAt sh + 1) (a + 1).toNatClampNeg))], (HD, m_1, ml, mr)) _
        refine wp_bI rfl (fun c_4 => ?_) (fun c_4 => ?_)
        · have c_4 : (coV s (mi (sAt sh + 1) a.toNatClampNeg) (mi (sAt sh + 1) (a + 1).toNatClampNeg)) < 0 := of_decide_eq_true c_4
          refine wp_steps 3 (t' := (36, [some (.ref 0), some (.int sh), some (.int so), some (.int fr), some (.int (nI n)), some (.ref (sAt sh)), some (.int ca), some (.int (a + Int32.ofInt 2)), some (.int ((nI k) + Int32.ofInt 1))], [], (HD, m_1, ml, mr))) rfl ?_
          have e : lrS (mi (sAt sh) 1) (mi (sAt sh + 1)) (g + 1) a ca s = lrS (mi (sAt sh) 1) (mi (sAt sh + 1)) g (a + 2) ca (coS s (mi (sAt sh + 1) a.toNatClampNeg) (mi (sAt sh + 1) (a + 1).toNatClampNeg)) := by
            show (if _ then _ else if _ then _ else _) = _
            rw [if_neg c_2, if_neg c_3, if_pos c_4]
          rw [inc_nI, e]
          exact ih (k + 1) (a + 2) ca _ m_1 (by omega) h1 (hf.tr f1)
        · have c_4 : ¬ ((coV s (mi (sAt sh + 1) a.toNatClampNeg) (mi (sAt sh + 1) (a + 1).toNatClampNeg)) < 0) := of_decide_eq_false c_4
          refine wp_steps 4 (t' := (36, [some (.ref 0), some (.int sh), some (.int so), some (.int fr), some (.int (nI n)), some (.ref (sAt sh)), some (.int (ca + Int32.ofInt 1)), some (.int (a + Int32.ofInt 2)), some (.int ((nI k) + Int32.ofInt 1))], [], (HD, m_1, ml, mr))) rfl ?_
          have e : lrS (mi (sAt sh) 1) (mi (sAt sh + 1)) (g + 1) a ca s = lrS (mi (sAt sh) 1) (mi (sAt sh + 1)) g (a + 2) (ca + 1) (coS s (mi (sAt sh + 1) a.toNatClampNeg) (mi (sAt sh + 1) (a + 1).toNatClampNeg)) := by
            show (if _ then _ else if _ then _ else _) = _
            rw [if_neg c_2, if_neg c_3, if_neg c_4]
          rw [inc_nI, e]
          exact ih (k + 1) (a + 2) (ca + 1) _ m_1 (by omega) h1 (hf.tr f1)
      · have c_3 : (hsF (mi (sAt sh) 1) (a + 1)) = 0 := Decidable.not_not.mp (of_decide_eq_false c_3)
        refine wp_steps 1 (t' := (50, [some (.ref 0), some (.int sh), some (.int so), some (.int fr), some (.int (nI n)), some (.ref (sAt sh)), some (.int ca), some (.int a), some (.int (nI k))], [.int (-12)], (HD, m, ml, mr))) rfl ?_
        refine wp_ret rfl rfl ⟨⟨Nat.le_refl _, Nat.le_refl _⟩, ?_⟩
        have e : lrS (mi (sAt sh) 1) (mi (sAt sh + 1)) (g + 1) a ca s = (-12, s) := by
          show (if _ then _ else if _ then _ else _) = _
          rw [if_neg c_2, if_pos c_3]
        rw [e]
        exact ⟨rfl, m, rfl, h, hf⟩
set_option maxRecDepth 20000 in
set_option maxHeartbeats 1000000 in
theorem c_learners_no {X : aXt × Value} {mi : Nat → Nat → Int32} {ml : Nat → Nat → Int64} {mr : Nat → Nat → Option Nat} (hM : MRok mr) {sh so fr n : Int32} (hg : ¬ aixn sh 4 = true) : aCW X 4 101 [.ref 0, .int sh, .int so, .int fr, .int n] (HD, mi, ml, mr) (fun r h' => r = some (.int (-2)) ∧ h' = (HD, mi, ml, mr)) := by
  refine cw_of (cd := cd_X6_learners) (nL := 9) rfl rfl ?_
  show aWP _ _ (0, [some (.ref 0), some (.int sh), some (.int so), some (.int fr), some (.int n), none, none, none, none], [], (HD, mi, ml, mr)) _
  refine wp_steps 2 (t' := (2, [some (.ref 0), some (.int sh), some (.int so), some (.int fr), some (.int n), none, none, none, none], [.int sh, .ref 0], (HD, mi, ml, mr))) rfl ?_
  refine wp_calv (as := [.int sh]) rfl rfl rfl (Nat.le_of_ble_eq_true rfl) ⟨by decide, rfl⟩ ((c_sheetAt_no (ml := ml) hM hg)) (by decide) ?_
  rintro _ _ ⟨rfl, rfl⟩
  show aWP _ _ (3, [some (.ref 0), some (.int sh), some (.int so), some (.int fr), some (.int n), none, none, none, none], [.null], (HD, mi, ml, mr)) _
  refine wp_steps 2 (t' := (5, [some (.ref 0), some (.int sh), some (.int so), some (.int fr), some (.int n), some (.null), none, none, none], [.null], (HD, mi, ml, mr))) rfl ?_
  refine wp_step (t' := (16, [some (.ref 0), some (.int sh), some (.int so), some (.int fr), some (.int n), some (.null), none, none, none], [], (HD, mi, ml, mr))) rfl rfl ?_
  refine wp_steps 1 (t' := (17, [some (.ref 0), some (.int sh), some (.int so), some (.int fr), some (.int n), some (.null), none, none, none], [.int (-2)], (HD, mi, ml, mr))) rfl ?_
  refine wp_ret rfl rfl ⟨⟨Nat.le_refl _, Nat.le_refl _⟩, ?_⟩
  exact ⟨rfl, rfl⟩
set_option maxRecDepth 20000 in
set_option maxHeartbeats 1000000 in
theorem c_learners_ok {X : aXt × Value} {mi : Nat → Nat → Int32} {ml : Nat → Nat → Int64} {mr : Nat → Nat → Option Nat} (hM : MRok mr) {sh so fr n : Int32} (hg : aixn sh 4 = true) {s : lS} (hs : LSt mi s) : aCW X 4 101 [.ref 0, .int sh, .int so, .int fr, .int n] (HD, mi, ml, mr) (fun r h' => r = some (.int (if inR 0 2 so ∧ inR 0 5 n then (if mi (sAt sh) 0 = -1 then -11 else if mi (sAt sh) 0 = so then (lrS (mi (sAt sh) 1) (mi (sAt sh + 1)) n.toNatClampNeg fr 0 s).1 else -13) else -2)) ∧ ∃ m', h' = (HD, m', ml, mr) ∧ LSt m' (if inR 0 2 so ∧ inR 0 5 n ∧ ¬ mi (sAt sh) 0 = -1 ∧ mi (sAt sh) 0 = so then (lrS (mi (sAt sh) 1) (mi (sAt sh + 1)) n.toNatClampNeg fr 0 s).2 else s) ∧ frP mi m') := by
  have hK := sAt_mem hg
  refine cw_of (cd := cd_X6_learners) (nL := 9) rfl rfl ?_
  show aWP _ _ (0, [some (.ref 0), some (.int sh), some (.int so), some (.int fr), some (.int n), none, none, none, none], [], (HD, mi, ml, mr)) _
  refine wp_steps 2 (t' := (2, [some (.ref 0), some (.int sh), some (.int so), some (.int fr), some (.int n), none, none, none, none], [.int sh, .ref 0], (HD, mi, ml, mr))) rfl ?_
  refine wp_calv (as := [.int sh]) rfl rfl rfl (Nat.le_of_ble_eq_true rfl) ⟨by decide, rfl⟩ ((c_sheetAt_ok (ml := ml) hM hg)) (by decide) ?_
  rintro _ _ ⟨rfl, rfl⟩
  show aWP _ _ (3, [some (.ref 0), some (.int sh), some (.int so), some (.int fr), some (.int n), none, none, none, none], [.ref (sAt sh)], (HD, mi, ml, mr)) _
  refine wp_steps 2 (t' := (5, [some (.ref 0), some (.int sh), some (.int so), some (.int fr), some (.int n), some (.ref (sAt sh)), none, none, none], [.ref (sAt sh)], (HD, mi, ml, mr))) rfl ?_
  refine wp_step (t' := (6, [some (.ref 0), some (.int sh), some (.int so), some (.int fr), some (.int n), some (.ref (sAt sh)), none, none, none], [], (HD, mi, ml, mr))) rfl rfl ?_
  refine wp_steps 1 (t' := (7, [some (.ref 0), some (.int sh), some (.int so), some (.int fr), some (.int n), some (.ref (sAt sh)), none, none, none], [.int so], (HD, mi, ml, mr))) rfl ?_
  refine wp_bI rfl (fun c_1 => ?_) (fun c_1 => ?_)
  · have c_1 : so < 0 := of_decide_eq_true c_1
    refine wp_steps 1 (t' := (17, [some (.ref 0), some (.int sh), some (.int so), some (.int fr), some (.int n), some (.ref (sAt sh)), none, none, none], [.int (-2)], (HD, mi, ml, mr))) rfl ?_
    refine wp_ret rfl rfl ⟨⟨Nat.le_refl _, Nat.le_refl _⟩, ?_⟩
    have q : ¬ (inR 0 2 so ∧ inR 0 5 n ∧ ¬ mi (sAt sh) 0 = -1 ∧ mi (sAt sh) 0 = so) := fun z => (show ¬ (inR 0 2 so ∧ inR 0 5 n) from fun z => (fun z => z.1 c_1) z.1) ⟨z.1, z.2.1⟩
    exact ⟨by rw [if_neg (show ¬ (inR 0 2 so ∧ inR 0 5 n) from fun z => (fun z => z.1 c_1) z.1)], mi, rfl, by rw [if_neg q]; exact hs, frP.rf mi⟩
  · have c_1 : ¬ (so < 0) := of_decide_eq_false c_1
    refine wp_steps 2 (t' := (10, [some (.ref 0), some (.int sh), some (.int so), some (.int fr), some (.int n), some (.ref (sAt sh)), none, none, none], [.int 2, .int so], (HD, mi, ml, mr))) rfl ?_
    refine wp_bC rfl (fun c_2 => ?_) (fun c_2 => ?_)
    · have c_2 : 2 < so := of_decide_eq_true c_2
      refine wp_steps 1 (t' := (17, [some (.ref 0), some (.int sh), some (.int so), some (.int fr), some (.int n), some (.ref (sAt sh)), none, none, none], [.int (-2)], (HD, mi, ml, mr))) rfl ?_
      refine wp_ret rfl rfl ⟨⟨Nat.le_refl _, Nat.le_refl _⟩, ?_⟩
      have q : ¬ (inR 0 2 so ∧ inR 0 5 n ∧ ¬ mi (sAt sh) 0 = -1 ∧ mi (sAt sh) 0 = so) := fun z => (show ¬ (inR 0 2 so ∧ inR 0 5 n) from fun z => (fun z => z.2 c_2) z.1) ⟨z.1, z.2.1⟩
      exact ⟨by rw [if_neg (show ¬ (inR 0 2 so ∧ inR 0 5 n) from fun z => (fun z => z.2 c_2) z.1)], mi, rfl, by rw [if_neg q]; exact hs, frP.rf mi⟩
    · have c_2 : ¬ (2 < so) := of_decide_eq_false c_2
      refine wp_steps 1 (t' := (12, [some (.ref 0), some (.int sh), some (.int so), some (.int fr), some (.int n), some (.ref (sAt sh)), none, none, none], [.int n], (HD, mi, ml, mr))) rfl ?_
      refine wp_bI rfl (fun c_3 => ?_) (fun c_3 => ?_)
      · have c_3 : n < 0 := of_decide_eq_true c_3
        refine wp_steps 1 (t' := (17, [some (.ref 0), some (.int sh), some (.int so), some (.int fr), some (.int n), some (.ref (sAt sh)), none, none, none], [.int (-2)], (HD, mi, ml, mr))) rfl ?_
        refine wp_ret rfl rfl ⟨⟨Nat.le_refl _, Nat.le_refl _⟩, ?_⟩
        have q : ¬ (inR 0 2 so ∧ inR 0 5 n ∧ ¬ mi (sAt sh) 0 = -1 ∧ mi (sAt sh) 0 = so) := fun z => (show ¬ (inR 0 2 so ∧ inR 0 5 n) from fun z => (fun z => z.1 c_3) z.2) ⟨z.1, z.2.1⟩
        exact ⟨by rw [if_neg (show ¬ (inR 0 2 so ∧ inR 0 5 n) from fun z => (fun z => z.1 c_3) z.2)], mi, rfl, by rw [if_neg q]; exact hs, frP.rf mi⟩
      · have c_3 : ¬ (n < 0) := of_decide_eq_false c_3
        refine wp_steps 2 (t' := (15, [some (.ref 0), some (.int sh), some (.int so), some (.int fr), some (.int n), some (.ref (sAt sh)), none, none, none], [.int 5, .int n], (HD, mi, ml, mr))) rfl ?_
        refine wp_bC rfl (fun c_4 => ?_) (fun c_4 => ?_)
        · have c_4 : n ≤ 5 := of_decide_eq_true c_4
          refine wp_steps 1 (t' := (19, [some (.ref 0), some (.int sh), some (.int so), some (.int fr), some (.int n), some (.ref (sAt sh)), none, none, none], [.ref (sAt sh)], (HD, mi, ml, mr))) rfl ?_
          refine wp_geti rfl (shS hK) (Or.inl rfl) ?_
          refine wp_steps 1 (t' := (21, [some (.ref 0), some (.int sh), some (.int so), some (.int fr), some (.int n), some (.ref (sAt sh)), none, none, none], [.int (-1), .int (mi (sAt sh) 0)], (HD, mi, ml, mr))) rfl ?_
          refine wp_bC rfl (fun c_5 => ?_) (fun c_5 => ?_)
          · have c_5 : ¬ (mi (sAt sh) 0) = (-1) := of_decide_eq_true c_5
            refine wp_steps 1 (t' := (25, [some (.ref 0), some (.int sh), some (.int so), some (.int fr), some (.int n), some (.ref (sAt sh)), none, none, none], [.ref (sAt sh)], (HD, mi, ml, mr))) rfl ?_
            refine wp_geti rfl (shS hK) (Or.inl rfl) ?_
            refine wp_steps 1 (t' := (27, [some (.ref 0), some (.int sh), some (.int so), some (.int fr), some (.int n), some (.ref (sAt sh)), none, none, none], [.int so, .int (mi (sAt sh) 0)], (HD, mi, ml, mr))) rfl ?_
            refine wp_bC rfl (fun c_6 => ?_) (fun c_6 => ?_)
            · have c_6 : (mi (sAt sh) 0) = so := of_decide_eq_true c_6
              refine wp_steps 6 (t' := (36, [some (.ref 0), some (.int sh), some (.int so), some (.int fr), some (.int n), some (.ref (sAt sh)), some (.int 0), some (.int fr), some (.int 0)], [], (HD, mi, ml, mr))) rfl ?_
              have hG := (show inR 0 2 so ∧ inR 0 5 n from ⟨⟨c_1, c_2⟩, ⟨c_3, (Int32.not_lt.mpr c_4)⟩⟩)
              have q : inR 0 2 so ∧ inR 0 5 n ∧ ¬ mi (sAt sh) 0 = -1 ∧ mi (sAt sh) 0 = so := ⟨hG.1, hG.2, c_5, c_6⟩
              rw [if_pos hG, if_neg c_5, if_pos c_6, if_pos q]
              have h6 := (inR_ax (hi := 5) (n := 6) (by decide) (by decide)).mp hG.2
              have e := (aix_eq h6).1
              have l := l_learners (X := X) (mi := mi) (ml := ml) hM (sh := sh) (so := so) (fr := fr) hK (n := n.toNatClampNeg) (Nat.le_of_lt_succ (aix_out h6).2) n.toNatClampNeg 0 fr 0 s mi (by omega) hs (frP.rf mi)
              rw [← e] at l
              exact l
            · have c_6 : ¬ ((mi (sAt sh) 0) = so) := of_decide_eq_false c_6
              refine wp_steps 1 (t' := (29, [some (.ref 0), some (.int sh), some (.int so), some (.int fr), some (.int n), some (.ref (sAt sh)), none, none, none], [.int (-13)], (HD, mi, ml, mr))) rfl ?_
              refine wp_ret rfl rfl ⟨⟨Nat.le_refl _, Nat.le_refl _⟩, ?_⟩
              have q : ¬ (inR 0 2 so ∧ inR 0 5 n ∧ ¬ mi (sAt sh) 0 = -1 ∧ mi (sAt sh) 0 = so) := fun z => c_6 z.2.2.2
              exact ⟨by rw [if_pos (show inR 0 2 so ∧ inR 0 5 n from ⟨⟨c_1, c_2⟩, ⟨c_3, (Int32.not_lt.mpr c_4)⟩⟩), if_neg c_5, if_neg c_6], mi, rfl, by rw [if_neg q]; exact hs, frP.rf mi⟩
          · have c_5 : (mi (sAt sh) 0) = (-1) := Decidable.not_not.mp (of_decide_eq_false c_5)
            refine wp_steps 1 (t' := (23, [some (.ref 0), some (.int sh), some (.int so), some (.int fr), some (.int n), some (.ref (sAt sh)), none, none, none], [.int (-11)], (HD, mi, ml, mr))) rfl ?_
            refine wp_ret rfl rfl ⟨⟨Nat.le_refl _, Nat.le_refl _⟩, ?_⟩
            have q : ¬ (inR 0 2 so ∧ inR 0 5 n ∧ ¬ mi (sAt sh) 0 = -1 ∧ mi (sAt sh) 0 = so) := fun z => z.2.2.1 c_5
            exact ⟨by rw [if_pos (show inR 0 2 so ∧ inR 0 5 n from ⟨⟨c_1, c_2⟩, ⟨c_3, (Int32.not_lt.mpr c_4)⟩⟩), if_pos c_5], mi, rfl, by rw [if_neg q]; exact hs, frP.rf mi⟩
        · have c_4 : ¬ (n ≤ 5) := of_decide_eq_false c_4
          refine wp_steps 1 (t' := (17, [some (.ref 0), some (.int sh), some (.int so), some (.int fr), some (.int n), some (.ref (sAt sh)), none, none, none], [.int (-2)], (HD, mi, ml, mr))) rfl ?_
          refine wp_ret rfl rfl ⟨⟨Nat.le_refl _, Nat.le_refl _⟩, ?_⟩
          have q : ¬ (inR 0 2 so ∧ inR 0 5 n ∧ ¬ mi (sAt sh) 0 = -1 ∧ mi (sAt sh) 0 = so) := fun z => (show ¬ (inR 0 2 so ∧ inR 0 5 n) from fun z => (fun z => z.2 (Int32.not_le.mp c_4)) z.2) ⟨z.1, z.2.1⟩
          exact ⟨by rw [if_neg (show ¬ (inR 0 2 so ∧ inR 0 5 n) from fun z => (fun z => z.2 (Int32.not_le.mp c_4)) z.2)], mi, rfl, by rw [if_neg q]; exact hs, frP.rf mi⟩
/-- behind k hours at one street -/
def fhG (t : tW) (s : Nat) (hp : Int32) : Nat → pU → pU
  | 0, u => u
  | k + 1, u => hrG t (fhG t s hp k u) s hp
theorem hsF_in {Z k : Nat} (hk : k < Z) (hZ : Z ≤ 40) : ¬ hsF (nI Z) (nI k) = 0 := by
  unfold hsF
  rw [if_neg (nI_pos (by omega)), if_neg (nI_ge hk (by omega)), if_neg (show ¬ (40 : Int32) ≤ nI k from nI_ge (a := k) (b := 40) (by omega) (by decide))]
  decide
/-- the thought's town and learner -/
def TQ (ρ : Nat) (c0 c1 c2 : List Int32) (m : Nat → Nat → Int32) (t : tW) (u : pU) : Prop := TXok m ρ c0 c1 c2 ∧ twC m 73 c0 c1 c2 = t ∧ puC m 70 = u
theorem sh_tq {K ρ : Nat} (hK : K ∈ SHS) (hρ : ρ ∈ TXS) : ρ + 1 ∉ [K, K + 1] ∧ ρ + 2 ∉ [K, K + 1] ∧ 73 ∉ [K, K + 1] ∧ 73 + 1 ∉ [K, K + 1] ∧ 70 ∉ [K, K + 1] ∧ 70 + 1 ∉ [K, K + 1] := by
  revert ρ
  revert K
  decide
theorem TQ.fr {ρ K : Nat} {c0 c1 c2 : List Int32} {m m' : Nat → Nat → Int32} {t : tW} {u : pU} (h : TQ ρ c0 c1 c2 m t u) (hK : K ∈ SHS) (hρ : ρ ∈ TXS) (f : frm [K, K + 1] m m') : TQ ρ c0 c1 c2 m' t u := by
  obtain ⟨s1, s2, s3, s4, s5, s6⟩ := sh_tq hK hρ
  exact ⟨TXok_fr f h.1 s1 s2, (twC_fr f s3 s4).trans h.2.1, (puC_fr f s5 s6).trans h.2.2⟩
theorem shM_fr {m : Nat → Nat → Int32} {K : Nat} {so n : Int32} : frm [K, K + 1] m (shM m K so n) := by
  intro k j q
  simp only [List.mem_cons, List.not_mem_nil, or_false, not_or] at q
  simp only [shM, afil, aup, if_neg q.1, if_neg q.2]
theorem put_fr {m : Nat → Nat → Int32} {K i : Nat} {v : Int32} : frm [K, K + 1] m (aup m (K + 1) i v) := by
  intro k j q
  simp only [List.mem_cons, List.not_mem_nil, or_false, not_or] at q
  simp only [aup, if_neg q.2]
theorem mem2u {K k : Nat} (h : k ∈ [K, K + 1]) : k ∈ K :: (K + 1) :: UCL := by
  simp only [List.mem_cons, List.not_mem_nil, or_false] at h ⊢
  omega
set_option maxRecDepth 20000 in
set_option maxHeartbeats 1000000 in
theorem l_film {X : aXt × Value} {mi : Nat → Nat → Int32} {ml : Nat → Nat → Int64} {mr : Nat → Nat → Option Nat} (hM : MRok mr) {ρ : Nat} {c0 c1 c2 : List Int32} (hρ : ρ ∈ TXS) {sh one sH : Int32} (hK : sAt sh ∈ SHS) (hP : pAt one ∈ PU5) (hs : aixn (sH / 10) 8 = true) {n : Nat} (hn : n ≤ 40) : ∀ (g k : Nat) (m : Nat → Nat → Int32), k + g = n → TQ ρ c0 c1 c2 m (twC mi 63 c0 c1 c2) (fhG (twC mi 63 c0 c1 c2) (sH / 10).toNatClampNeg (sH - sH / 10 * 10) k (puC mi (pAt one))) → m (sAt sh) 0 = 0 → m (sAt sh) 1 = nI n → (∀ j, j < k → m (sAt sh + 1) j = fi2b ((fhG (twC mi 63 c0 c1 c2) (sH / 10).toNatClampNeg (sH - sH / 10 * 10) (j + 1) (puC mi (pAt one))).2.2.2.2 (sH / 10).toNatClampNeg)) → frm (sAt sh :: (sAt sh + 1) :: UCL) mi m → aWP (aEx (aTb X) 7) cd_X6_film (38, [some (.ref 0), some (.int sh), some (.int one), some (.int sH), some (.int (nI n)), some (.ref (sAt sh)), some (.ref (pAt one)), some (.int (sH / 10)), some (.int (nI k))], [], (HD, m, ml, (aup mr 73 2 (some ρ)))) (fun r h' => (HD.1 ≤ h'.1.1 ∧ HD.2.1 ≤ h'.1.2.1) ∧ r = some (.int (nI n)) ∧ ∃ m', h' = (HD, m', ml, (aup mr 73 2 (some ρ))) ∧ m' (sAt sh) 0 = 0 ∧ m' (sAt sh) 1 = nI n ∧ (∀ j, j < n → m' (sAt sh + 1) j = fi2b ((fhG (twC mi 63 c0 c1 c2) (sH / 10).toNatClampNeg (sH - sH / 10 * 10) (j + 1) (puC mi (pAt one))).2.2.2.2 (sH / 10).toNatClampNeg)) ∧ frm (sAt sh :: (sAt sh + 1) :: UCL) mi m') := by
  intro g
  induction g with
  | zero =>
    intro k m hg h h0 h1 hi hf
    obtain rfl : k = n := by omega
    refine wp_steps 2 (t' := (40, [some (.ref 0), some (.int sh), some (.int one), some (.int sH), some (.int (nI k)), some (.ref (sAt sh)), some (.ref (pAt one)), some (.int (sH / 10)), some (.int (nI k))], [.int (nI k), .int (nI k)], (HD, m, ml, (aup mr 73 2 (some ρ))))) rfl ?_
    refine wp_bC rfl (fun c_1 => ?_) (fun c_1 => ?_)
    rotate_left
    · have c_1 : ¬ ((nI k) ≤ (nI k)) := of_decide_eq_false c_1
      exact absurd (Int32.le_refl _) c_1
    have c_1 : (nI k) ≤ (nI k) := of_decide_eq_true c_1
    refine wp_steps 1 (t' := (64, [some (.ref 0), some (.int sh), some (.int one), some (.int sH), some (.int (nI k)), some (.ref (sAt sh)), some (.ref (pAt one)), some (.int (sH / 10)), some (.int (nI k))], [.int (nI k)], (HD, m, ml, (aup mr 73 2 (some ρ))))) rfl ?_
    refine wp_ret rfl rfl ⟨⟨Nat.le_refl _, Nat.le_refl _⟩, ?_⟩
    exact ⟨rfl, m, rfl, h0, h1, hi, hf⟩
  | succ g ih =>
    intro k m hg h h0 h1 hi hf
    have hkn : k < n := by omega
    refine wp_steps 2 (t' := (40, [some (.ref 0), some (.int sh), some (.int one), some (.int sH), some (.int (nI n)), some (.ref (sAt sh)), some (.ref (pAt one)), some (.int (sH / 10)), some (.int (nI k))], [.int (nI n), .int (nI k)], (HD, m, ml, (aup mr 73 2 (some ρ))))) rfl ?_
    refine wp_bC rfl (fun c_1 => ?_) (fun c_1 => ?_)
    · have c_1 : (nI n) ≤ (nI k) := of_decide_eq_true c_1
      exact absurd c_1 (nI_ge (a := k) (b := n) hkn (by omega))
    have c_1 : ¬ ((nI n) ≤ (nI k)) := of_decide_eq_false c_1
    refine wp_steps 1 (t' := (42, [some (.ref 0), some (.int sh), some (.int one), some (.int sH), some (.int (nI n)), some (.ref (sAt sh)), some (.ref (pAt one)), some (.int (sH / 10)), some (.int (nI k))], [.ref 0], (HD, m, ml, (aup mr 73 2 (some ρ))))) rfl ?_
    refine wp_getr rfl ⟨by decide, rfl⟩ rfl ((mr_up hM (by decide) _) (0, 9, 69) (by decide)) ?_
    refine wp_getr rfl ⟨by decide, rfl⟩ rfl ((mr_up hM (by decide) _) (69, 0, 73) (by decide)) ?_
    refine wp_steps 1 (t' := (45, [some (.ref 0), some (.int sh), some (.int one), some (.int sH), some (.int (nI n)), some (.ref (sAt sh)), some (.ref (pAt one)), some (.int (sH / 10)), some (.int (nI k))], [.ref 0, .ref 73], (HD, m, ml, (aup mr 73 2 (some ρ))))) rfl ?_
    refine wp_getr rfl ⟨by decide, rfl⟩ rfl ((mr_up hM (by decide) _) (0, 9, 69) (by decide)) ?_
    refine wp_getr rfl ⟨by decide, rfl⟩ rfl ((mr_up hM (by decide) _) (69, 1, 70) (by decide)) ?_
    refine wp_steps 4 (t' := (51, [some (.ref 0), some (.int sh), some (.int one), some (.int sH), some (.int (nI n)), some (.ref (sAt sh)), some (.ref (pAt one)), some (.int (sH / 10)), some (.int (nI k))], [.int (sH - sH / 10 * 10), .int (sH / 10), .ref 70, .ref 73], (HD, m, ml, (aup mr 73 2 (some ρ))))) rfl ?_
    refine wp_calv (as := [.ref 70, .int (sH / 10), .int (sH - sH / 10 * 10)]) rfl rfl rfl (Nat.le_of_ble_eq_true rfl) ⟨by decide, rfl⟩ ((t_hour (mi := m) (ml := ml) (mr := (aup mr 73 2 (some ρ))) (s := sH / 10) (hp := (sH - sH / 10 * 10)) (mr_up hM (by decide) _) hρ (mr_at _) ⟨frm.rf _ _, h⟩ hs)) (by decide) ?_
    rintro _ _ ⟨rfl, m_1, rfl, q1⟩
    show aWP _ _ (52, [some (.ref 0), some (.int sh), some (.int one), some (.int sH), some (.int (nI n)), some (.ref (sAt sh)), some (.ref (pAt one)), some (.int (sH / 10)), some (.int (nI k))], [], (HD, m_1, ml, (aup mr 73 2 (some ρ)))) _
    refine wp_steps 3 (t' := (55, [some (.ref 0), some (.int sh), some (.int one), some (.int sH), some (.int (nI n)), some (.ref (sAt sh)), some (.ref (pAt one)), some (.int (sH / 10)), some (.int (nI k))], [.ref 0, .int (nI k), .ref (sAt sh)], (HD, m_1, ml, (aup mr 73 2 (some ρ))))) rfl ?_
    refine wp_getr rfl ⟨by decide, rfl⟩ rfl ((mr_up hM (by decide) _) (0, 9, 69) (by decide)) ?_
    refine wp_getr rfl ⟨by decide, rfl⟩ rfl ((mr_up hM (by decide) _) (69, 1, 70) (by decide)) ?_
    refine wp_getr rfl ⟨by decide, rfl⟩ rfl ((mr_up hM (by decide) _) (70, 4, 71) (by decide)) ?_
    refine wp_steps 1 (t' := (59, [some (.ref 0), some (.int sh), some (.int one), some (.int sH), some (.int (nI n)), some (.ref (sAt sh)), some (.ref (pAt one)), some (.int (sH / 10)), some (.int (nI k))], [.int (sH / 10), .ref 71, .int (nI k), .ref (sAt sh)], (HD, m_1, ml, (aup mr 73 2 (some ρ))))) rfl ?_
    refine wp_iald rfl ⟨by decide, rfl⟩ hs ?_
    refine wp_calv (as := [.int (nI k), .int (m_1 71 (sH / 10).toNatClampNeg)]) rfl rfl rfl (Nat.le_of_ble_eq_true rfl) (shS hK) ((c_Sput (mi := m_1) (ml := ml) (mr := (aup mr 73 2 (some ρ))) (mr_up hM (by decide) _) hK (i := nI k) (v := m_1 71 (sH / 10).toNatClampNeg))) (by decide) ?_
    rintro _ _ ⟨rfl, rfl⟩
    have e1 : m_1 (sAt sh) 1 = nI n := (q1.1 _ _ (sh_U hK).1).trans h1
    have e0 : m_1 (sAt sh) 0 = 0 := (q1.1 _ _ (sh_U hK).1).trans h0
    have ev : m_1 71 (sH / 10).toNatClampNeg = (hrG (twC mi 63 c0 c1 c2) (fhG (twC mi 63 c0 c1 c2) (sH / 10).toNatClampNeg (sH - sH / 10 * 10) k (puC mi (pAt one))) (sH / 10).toNatClampNeg (sH - sH / 10 * 10)).2.2.2.2 (sH / 10).toNatClampNeg := q1.sk (aix_out hs).2
    rw [e1, if_neg (hsF_in hkn hn), e0, ev, nI_clamp (show k < 2 ^ 31 by omega)]
    generalize hm3 : aup m_1 (sAt sh + 1) k (siF 0 ((hrG (twC mi 63 c0 c1 c2) (fhG (twC mi 63 c0 c1 c2) (sH / 10).toNatClampNeg (sH - sH / 10 * 10) k (puC mi (pAt one))) (sH / 10).toNatClampNeg (sH - sH / 10 * 10)).2.2.2.2 (sH / 10).toNatClampNeg)) = m_3
    have f3 : frm [sAt sh, sAt sh + 1] m_1 m_3 := by rw [← hm3]; exact put_fr
    show aWP _ _ (61, [some (.ref 0), some (.int sh), some (.int one), some (.int sH), some (.int (nI n)), some (.ref (sAt sh)), some (.ref (pAt one)), some (.int (sH / 10)), some (.int (nI k))], [], (HD, m_3, ml, (aup mr 73 2 (some ρ)))) _
    refine wp_steps 2 (t' := (38, [some (.ref 0), some (.int sh), some (.int one), some (.int sH), some (.int (nI n)), some (.ref (sAt sh)), some (.ref (pAt one)), some (.int (sH / 10)), some (.int ((nI k) + Int32.ofInt 1))], [], (HD, m_3, ml, (aup mr 73 2 (some ρ))))) rfl ?_
    rw [inc_nI]
    have q3 : TQ ρ c0 c1 c2 m_3 (twC mi 63 c0 c1 c2) (hrG (twC mi 63 c0 c1 c2) (fhG (twC mi 63 c0 c1 c2) (sH / 10).toNatClampNeg (sH - sH / 10 * 10) k (puC mi (pAt one))) (sH / 10).toNatClampNeg (sH - sH / 10 * 10)) := TQ.fr q1.2 hK hρ f3
    refine ih (k + 1) m_3 (by omega) q3 ?_ ?_ ?_ ?_
    · rw [← hm3, ← e0]; simp [aup]
    · rw [← hm3, ← e1]; simp [aup]
    · intro j hj
      by_cases e : j = k
      · subst e; rw [← hm3]; simp only [aup, if_pos]; rfl
      · rw [← hm3]; simp only [aup, if_pos, if_neg e]
        rw [q1.1 _ _ (sh_U hK).2]
        exact hi j (by omega)
    · exact (hf.tr (q1.1.wk fun _ z => List.mem_cons_of_mem _ (List.mem_cons_of_mem _ z))).tr (f3.wk fun _ z => mem2u z)
set_option maxRecDepth 20000 in
set_option maxHeartbeats 1000000 in
theorem c_film_no1 {X : aXt × Value} {mi : Nat → Nat → Int32} {ml : Nat → Nat → Int64} {mr : Nat → Nat → Option Nat} (hM : MRok mr) {N : Nat} (hN : mi 0 5 = nI N) (hN5 : N ≤ 5) {sh one sH n : Int32} (hg2 : ¬ aixn sh 4 = true) (hg : aixn one N = true) : aCW X 8 89 [.ref 0, .int sh, .int one, .int sH, .int n] (HD, mi, ml, mr) (qU mi ml mr (.int (-2))) := by
  refine cw_of (cd := cd_X6_film) (nL := 9) rfl rfl ?_
  show aWP _ _ (0, [some (.ref 0), some (.int sh), some (.int one), some (.int sH), some (.int n), none, none, none, none], [], (HD, mi, ml, mr)) _
  refine wp_steps 2 (t' := (2, [some (.ref 0), some (.int sh), some (.int one), some (.int sH), some (.int n), none, none, none, none], [.int sh, .ref 0], (HD, mi, ml, mr))) rfl ?_
  refine wp_calv (as := [.int sh]) rfl rfl rfl (Nat.le_of_ble_eq_true rfl) ⟨by decide, rfl⟩ ((c_sheetAt_no (ml := ml) hM hg2)) (by decide) ?_
  rintro _ _ ⟨rfl, rfl⟩
  show aWP _ _ (3, [some (.ref 0), some (.int sh), some (.int one), some (.int sH), some (.int n), none, none, none, none], [.null], (HD, mi, ml, mr)) _
  refine wp_steps 3 (t' := (6, [some (.ref 0), some (.int sh), some (.int one), some (.int sH), some (.int n), some (.null), none, none, none], [.int one, .ref 0], (HD, mi, ml, mr))) rfl ?_
  refine wp_calv (as := [.int one]) rfl rfl rfl (Nat.le_of_ble_eq_true rfl) ⟨by decide, rfl⟩ ((c_pupilAt_ok (ml := ml) hM hN hN5 hg)) (by decide) ?_
  rintro _ _ ⟨rfl, rfl⟩
  show aWP _ _ (7, [some (.ref 0), some (.int sh), some (.int one), some (.int sH), some (.int n), some (.null), none, none, none], [.ref (pAt one)], (HD, mi, ml, mr)) _
  refine wp_steps 2 (t' := (9, [some (.ref 0), some (.int sh), some (.int one), some (.int sH), some (.int n), some (.null), some (.ref (pAt one)), none, none], [.null], (HD, mi, ml, mr))) rfl ?_
  refine wp_step (t' := (20, [some (.ref 0), some (.int sh), some (.int one), some (.int sH), some (.int n), some (.null), some (.ref (pAt one)), none, none], [], (HD, mi, ml, mr))) rfl rfl ?_
  refine wp_steps 1 (t' := (21, [some (.ref 0), some (.int sh), some (.int one), some (.int sH), some (.int n), some (.null), some (.ref (pAt one)), none, none], [.int (-2)], (HD, mi, ml, mr))) rfl ?_
  refine wp_ret rfl rfl ⟨⟨Nat.le_refl _, Nat.le_refl _⟩, ?_⟩
  exact ⟨rfl, mi, mr 73 2, by rw [mr_self], frm.rf _ _⟩
set_option maxRecDepth 20000 in
set_option maxHeartbeats 1000000 in
theorem c_film_no2 {X : aXt × Value} {mi : Nat → Nat → Int32} {ml : Nat → Nat → Int64} {mr : Nat → Nat → Option Nat} (hM : MRok mr) {N : Nat} (hN : mi 0 5 = nI N) (hN5 : N ≤ 5) {sh one sH n : Int32} (hg2 : ¬ aixn sh 4 = true) (hg : ¬ aixn one N = true) : aCW X 8 89 [.ref 0, .int sh, .int one, .int sH, .int n] (HD, mi, ml, mr) (qU mi ml mr (.int (-2))) := by
  refine cw_of (cd := cd_X6_film) (nL := 9) rfl rfl ?_
  show aWP _ _ (0, [some (.ref 0), some (.int sh), some (.int one), some (.int sH), some (.int n), none, none, none, none], [], (HD, mi, ml, mr)) _
  refine wp_steps 2 (t' := (2, [some (.ref 0), some (.int sh), some (.int one), some (.int sH), some (.int n), none, none, none, none], [.int sh, .ref 0], (HD, mi, ml, mr))) rfl ?_
  refine wp_calv (as := [.int sh]) rfl rfl rfl (Nat.le_of_ble_eq_true rfl) ⟨by decide, rfl⟩ ((c_sheetAt_no (ml := ml) hM hg2)) (by decide) ?_
  rintro _ _ ⟨rfl, rfl⟩
  show aWP _ _ (3, [some (.ref 0), some (.int sh), some (.int one), some (.int sH), some (.int n), none, none, none, none], [.null], (HD, mi, ml, mr)) _
  refine wp_steps 3 (t' := (6, [some (.ref 0), some (.int sh), some (.int one), some (.int sH), some (.int n), some (.null), none, none, none], [.int one, .ref 0], (HD, mi, ml, mr))) rfl ?_
  refine wp_calv (as := [.int one]) rfl rfl rfl (Nat.le_of_ble_eq_true rfl) ⟨by decide, rfl⟩ ((c_pupilAt_no hM hN hN5 hg)) (by decide) ?_
  rintro _ _ ⟨rfl, rfl⟩
  show aWP _ _ (7, [some (.ref 0), some (.int sh), some (.int one), some (.int sH), some (.int n), some (.null), none, none, none], [.null], (HD, mi, ml, mr)) _
  refine wp_steps 2 (t' := (9, [some (.ref 0), some (.int sh), some (.int one), some (.int sH), some (.int n), some (.null), some (.null), none, none], [.null], (HD, mi, ml, mr))) rfl ?_
  refine wp_step (t' := (20, [some (.ref 0), some (.int sh), some (.int one), some (.int sH), some (.int n), some (.null), some (.null), none, none], [], (HD, mi, ml, mr))) rfl rfl ?_
  refine wp_steps 1 (t' := (21, [some (.ref 0), some (.int sh), some (.int one), some (.int sH), some (.int n), some (.null), some (.null), none, none], [.int (-2)], (HD, mi, ml, mr))) rfl ?_
  refine wp_ret rfl rfl ⟨⟨Nat.le_refl _, Nat.le_refl _⟩, ?_⟩
  exact ⟨rfl, mi, mr 73 2, by rw [mr_self], frm.rf _ _⟩
set_option maxRecDepth 20000 in
set_option maxHeartbeats 1000000 in
theorem c_film_no3 {X : aXt × Value} {mi : Nat → Nat → Int32} {ml : Nat → Nat → Int64} {mr : Nat → Nat → Option Nat} (hM : MRok mr) {N : Nat} (hN : mi 0 5 = nI N) (hN5 : N ≤ 5) {sh one sH n : Int32} (hg2 : aixn sh 4 = true) (hg : ¬ aixn one N = true) : aCW X 8 89 [.ref 0, .int sh, .int one, .int sH, .int n] (HD, mi, ml, mr) (qU mi ml mr (.int (-2))) := by
  refine cw_of (cd := cd_X6_film) (nL := 9) rfl rfl ?_
  show aWP _ _ (0, [some (.ref 0), some (.int sh), some (.int one), some (.int sH), some (.int n), none, none, none, none], [], (HD, mi, ml, mr)) _
  refine wp_steps 2 (t' := (2, [some (.ref 0), some (.int sh), some (.int one), some (.int sH), some (.int n), none, none, none, none], [.int sh, .ref 0], (HD, mi, ml, mr))) rfl ?_
  refine wp_calv (as := [.int sh]) rfl rfl rfl (Nat.le_of_ble_eq_true rfl) ⟨by decide, rfl⟩ ((c_sheetAt_ok (ml := ml) hM hg2)) (by decide) ?_
  rintro _ _ ⟨rfl, rfl⟩
  show aWP _ _ (3, [some (.ref 0), some (.int sh), some (.int one), some (.int sH), some (.int n), none, none, none, none], [.ref (sAt sh)], (HD, mi, ml, mr)) _
  refine wp_steps 3 (t' := (6, [some (.ref 0), some (.int sh), some (.int one), some (.int sH), some (.int n), some (.ref (sAt sh)), none, none, none], [.int one, .ref 0], (HD, mi, ml, mr))) rfl ?_
  refine wp_calv (as := [.int one]) rfl rfl rfl (Nat.le_of_ble_eq_true rfl) ⟨by decide, rfl⟩ ((c_pupilAt_no hM hN hN5 hg)) (by decide) ?_
  rintro _ _ ⟨rfl, rfl⟩
  show aWP _ _ (7, [some (.ref 0), some (.int sh), some (.int one), some (.int sH), some (.int n), some (.ref (sAt sh)), none, none, none], [.null], (HD, mi, ml, mr)) _
  refine wp_steps 2 (t' := (9, [some (.ref 0), some (.int sh), some (.int one), some (.int sH), some (.int n), some (.ref (sAt sh)), some (.null), none, none], [.ref (sAt sh)], (HD, mi, ml, mr))) rfl ?_
  refine wp_step (t' := (10, [some (.ref 0), some (.int sh), some (.int one), some (.int sH), some (.int n), some (.ref (sAt sh)), some (.null), none, none], [], (HD, mi, ml, mr))) rfl rfl ?_
  refine wp_steps 1 (t' := (11, [some (.ref 0), some (.int sh), some (.int one), some (.int sH), some (.int n), some (.ref (sAt sh)), some (.null), none, none], [.null], (HD, mi, ml, mr))) rfl ?_
  refine wp_step (t' := (20, [some (.ref 0), some (.int sh), some (.int one), some (.int sH), some (.int n), some (.ref (sAt sh)), some (.null), none, none], [], (HD, mi, ml, mr))) rfl rfl ?_
  refine wp_steps 1 (t' := (21, [some (.ref 0), some (.int sh), some (.int one), some (.int sH), some (.int n), some (.ref (sAt sh)), some (.null), none, none], [.int (-2)], (HD, mi, ml, mr))) rfl ?_
  refine wp_ret rfl rfl ⟨⟨Nat.le_refl _, Nat.le_refl _⟩, ?_⟩
  exact ⟨rfl, mi, mr 73 2, by rw [mr_self], frm.rf _ _⟩
theorem shG_s {x : Int32} (h : shG x = true) : aixn (x / 10) 8 = true := by
  unfold shG at h
  simp only [Bool.and_eq_true] at h
  exact h.1.2
theorem shG_h {x : Int32} (h : shG x = true) : aixn (x - x / 10 * 10) 3 = true := by
  unfold shG at h
  simp only [Bool.and_eq_true] at h
  exact h.2
set_option maxRecDepth 20000 in
set_option maxHeartbeats 1000000 in
theorem c_film_ok {X : aXt × Value} {mi : Nat → Nat → Int32} {ml : Nat → Nat → Int64} {mr : Nat → Nat → Option Nat} (hM : MRok mr) {N : Nat} (hN : mi 0 5 = nI N) (hN5 : N ≤ 5) {ρ : Nat} {c0 c1 c2 : List Int32} (hρ : ρ ∈ TXS) (hr : mr 63 2 = some ρ) (hx : TXok mi ρ c0 c1 c2) {sh one sH n : Int32} (hg2 : aixn sh 4 = true) (hg : aixn one N = true) : aCW X 8 89 [.ref 0, .int sh, .int one, .int sH, .int n] (HD, mi, ml, mr) (fun r h' => ∃ m' w, h' = (HD, m', ml, aup mr 73 2 w) ∧ (shG sH = true ∧ inR 0 40 n → r = some (.int n) ∧ m' (sAt sh) 0 = 0 ∧ m' (sAt sh) 1 = n ∧ (∀ j, j < n.toNatClampNeg → m' (sAt sh + 1) j = fi2b ((fhG (twC mi 63 c0 c1 c2) (sH / 10).toNatClampNeg (sH - sH / 10 * 10) (j + 1) (puC mi (pAt one))).2.2.2.2 (sH / 10).toNatClampNeg)) ∧ frm (sAt sh :: (sAt sh + 1) :: UCL) mi m') ∧ (¬ (shG sH = true ∧ inR 0 40 n) → r = some (.int (-2)) ∧ m' = mi)) := by
  have hK := sAt_mem hg2
  have hP := pAt_mem hg hN5
  refine cw_of (cd := cd_X6_film) (nL := 9) rfl rfl ?_
  show aWP _ _ (0, [some (.ref 0), some (.int sh), some (.int one), some (.int sH), some (.int n), none, none, none, none], [], (HD, mi, ml, mr)) _
  refine wp_steps 2 (t' := (2, [some (.ref 0), some (.int sh), some (.int one), some (.int sH), some (.int n), none, none, none, none], [.int sh, .ref 0], (HD, mi, ml, mr))) rfl ?_
  refine wp_calv (as := [.int sh]) rfl rfl rfl (Nat.le_of_ble_eq_true rfl) ⟨by decide, rfl⟩ ((c_sheetAt_ok (ml := ml) hM hg2)) (by decide) ?_
  rintro _ _ ⟨rfl, rfl⟩
  show aWP _ _ (3, [some (.ref 0), some (.int sh), some (.int one), some (.int sH), some (.int n), none, none, none, none], [.ref (sAt sh)], (HD, mi, ml, mr)) _
  refine wp_steps 3 (t' := (6, [some (.ref 0), some (.int sh), some (.int one), some (.int sH), some (.int n), some (.ref (sAt sh)), none, none, none], [.int one, .ref 0], (HD, mi, ml, mr))) rfl ?_
  refine wp_calv (as := [.int one]) rfl rfl rfl (Nat.le_of_ble_eq_true rfl) ⟨by decide, rfl⟩ ((c_pupilAt_ok (ml := ml) hM hN hN5 hg)) (by decide) ?_
  rintro _ _ ⟨rfl, rfl⟩
  show aWP _ _ (7, [some (.ref 0), some (.int sh), some (.int one), some (.int sH), some (.int n), some (.ref (sAt sh)), none, none, none], [.ref (pAt one)], (HD, mi, ml, mr)) _
  refine wp_steps 2 (t' := (9, [some (.ref 0), some (.int sh), some (.int one), some (.int sH), some (.int n), some (.ref (sAt sh)), some (.ref (pAt one)), none, none], [.ref (sAt sh)], (HD, mi, ml, mr))) rfl ?_
  refine wp_step (t' := (10, [some (.ref 0), some (.int sh), some (.int one), some (.int sH), some (.int n), some (.ref (sAt sh)), some (.ref (pAt one)), none, none], [], (HD, mi, ml, mr))) rfl rfl ?_
  refine wp_steps 1 (t' := (11, [some (.ref 0), some (.int sh), some (.int one), some (.int sH), some (.int n), some (.ref (sAt sh)), some (.ref (pAt one)), none, none], [.ref (pAt one)], (HD, mi, ml, mr))) rfl ?_
  refine wp_step (t' := (12, [some (.ref 0), some (.int sh), some (.int one), some (.int sH), some (.int n), some (.ref (sAt sh)), some (.ref (pAt one)), none, none], [], (HD, mi, ml, mr))) rfl rfl ?_
  refine wp_steps 1 (t' := (13, [some (.ref 0), some (.int sh), some (.int one), some (.int sH), some (.int n), some (.ref (sAt sh)), some (.ref (pAt one)), none, none], [.int sH], (HD, mi, ml, mr))) rfl ?_
  refine wp_cal (as := [.int sH]) rfl rfl rfl (Nat.le_of_ble_eq_true rfl) (c_isSH) (by decide) ?_
  rintro _ _ ⟨rfl, rfl⟩
  show aWP _ _ (14, [some (.ref 0), some (.int sh), some (.int one), some (.int sH), some (.int n), some (.ref (sAt sh)), some (.ref (pAt one)), none, none], [.int (if shG sH = true then (1 : Int32) else 0)], (HD, mi, ml, mr)) _
  refine wp_bI rfl (fun c_1 => ?_) (fun c_1 => ?_)
  · have c_1 : (if shG sH = true then (1 : Int32) else 0) = 0 := of_decide_eq_true c_1
    refine wp_steps 1 (t' := (21, [some (.ref 0), some (.int sh), some (.int one), some (.int sH), some (.int n), some (.ref (sAt sh)), some (.ref (pAt one)), none, none], [.int (-2)], (HD, mi, ml, mr))) rfl ?_
    refine wp_ret rfl rfl ⟨⟨Nat.le_refl _, Nat.le_refl _⟩, ?_⟩
    exact ⟨mi, mr 73 2, by rw [mr_self], fun z => absurd z (show ¬ (shG sH = true ∧ inR 0 40 n) from fun z => (fun z => absurd (z.symm.trans (ite_nix c_1)) Bool.noConfusion) z.1), fun _ => ⟨rfl, rfl⟩⟩
  · have c_1 : ¬ ((if shG sH = true then (1 : Int32) else 0) = 0) := of_decide_eq_false c_1
    refine wp_steps 1 (t' := (16, [some (.ref 0), some (.int sh), some (.int one), some (.int sH), some (.int n), some (.ref (sAt sh)), some (.ref (pAt one)), none, none], [.int n], (HD, mi, ml, mr))) rfl ?_
    refine wp_bI rfl (fun c_2 => ?_) (fun c_2 => ?_)
    · have c_2 : n < 0 := of_decide_eq_true c_2
      refine wp_steps 1 (t' := (21, [some (.ref 0), some (.int sh), some (.int one), some (.int sH), some (.int n), some (.ref (sAt sh)), some (.ref (pAt one)), none, none], [.int (-2)], (HD, mi, ml, mr))) rfl ?_
      refine wp_ret rfl rfl ⟨⟨Nat.le_refl _, Nat.le_refl _⟩, ?_⟩
      exact ⟨mi, mr 73 2, by rw [mr_self], fun z => absurd z (show ¬ (shG sH = true ∧ inR 0 40 n) from fun z => (fun z => z.1 c_2) z.2), fun _ => ⟨rfl, rfl⟩⟩
    · have c_2 : ¬ (n < 0) := of_decide_eq_false c_2
      refine wp_steps 2 (t' := (19, [some (.ref 0), some (.int sh), some (.int one), some (.int sH), some (.int n), some (.ref (sAt sh)), some (.ref (pAt one)), none, none], [.int 40, .int n], (HD, mi, ml, mr))) rfl ?_
      refine wp_bC rfl (fun c_3 => ?_) (fun c_3 => ?_)
      · have c_3 : n ≤ 40 := of_decide_eq_true c_3
        refine wp_steps 5 (t' := (27, [some (.ref 0), some (.int sh), some (.int one), some (.int sH), some (.int n), some (.ref (sAt sh)), some (.ref (pAt one)), some (.int (sH / 10)), none], [.ref 0], (HD, mi, ml, mr))) rfl ?_
        refine wp_getr rfl ⟨by decide, rfl⟩ rfl (hM (0, 9, 69) (by decide)) ?_
        refine wp_steps 1 (t' := (29, [some (.ref 0), some (.int sh), some (.int one), some (.int sH), some (.int n), some (.ref (sAt sh)), some (.ref (pAt one)), some (.int (sH / 10)), none], [.ref 0, .ref 69], (HD, mi, ml, mr))) rfl ?_
        refine wp_getr rfl ⟨by decide, rfl⟩ rfl (hM (0, 3, 63) (by decide)) ?_
        refine wp_steps 1 (t' := (31, [some (.ref 0), some (.int sh), some (.int one), some (.int sH), some (.int n), some (.ref (sAt sh)), some (.ref (pAt one)), some (.int (sH / 10)), none], [.ref (pAt one), .ref 63, .ref 69], (HD, mi, ml, mr))) rfl ?_
        refine wp_calv (as := [.ref 63, .ref (pAt one)]) rfl rfl rfl (Nat.le_of_ble_eq_true rfl) ⟨by decide, rfl⟩ ((t_begin (ml := ml) hM hρ hr (frm.rf _ _) hx hP)) (by decide) ?_
        rintro _ _ ⟨rfl, m_1, rfl, h1⟩
        show aWP _ _ (32, [some (.ref 0), some (.int sh), some (.int one), some (.int sH), some (.int n), some (.ref (sAt sh)), some (.ref (pAt one)), some (.int (sH / 10)), none], [], (HD, m_1, ml, (aup mr 73 2 (some ρ)))) _
        refine wp_steps 3 (t' := (35, [some (.ref 0), some (.int sh), some (.int one), some (.int sH), some (.int n), some (.ref (sAt sh)), some (.ref (pAt one)), some (.int (sH / 10)), none], [.int n, .int 0, .ref (sAt sh)], (HD, m_1, ml, (aup mr 73 2 (some ρ))))) rfl ?_
        refine wp_calv (as := [.int 0, .int n]) rfl rfl rfl (Nat.le_of_ble_eq_true rfl) (shS hK) ((c_Sbecome (mi := m_1) (ml := ml) (mr := (aup mr 73 2 (some ρ))) (so := 0) (n := n) (mr_up hM (by decide) _) hK)) (by decide) ?_
        rintro _ _ ⟨rfl, rfl⟩
        show aWP _ _ (36, [some (.ref 0), some (.int sh), some (.int one), some (.int sH), some (.int n), some (.ref (sAt sh)), some (.ref (pAt one)), some (.int (sH / 10)), none], [], (HD, (shM m_1 (sAt sh) 0 n), ml, (aup mr 73 2 (some ρ)))) _
        refine wp_steps 2 (t' := (38, [some (.ref 0), some (.int sh), some (.int one), some (.int sH), some (.int n), some (.ref (sAt sh)), some (.ref (pAt one)), some (.int (sH / 10)), some (.int 0)], [], (HD, (shM m_1 (sAt sh) 0 n), ml, (aup mr 73 2 (some ρ))))) rfl ?_
        have hG := (show shG sH = true ∧ inR 0 40 n from ⟨(ite_aix c_1), ⟨c_2, (Int32.not_lt.mpr c_3)⟩⟩)
        have hs : aixn (sH / 10) 8 = true := shG_s hG.1
        have h41 := ax40 hG.2
        have e := (aix_eq h41).1
        have hle : n.toNatClampNeg ≤ 40 := Nat.le_of_lt_succ (aix_out h41).2
        have f2 : frm [sAt sh, sAt sh + 1] m_1 (shM m_1 (sAt sh) 0 n) := shM_fr
        have hcl : cl 0 40 n = n := by unfold cl; rw [if_neg hG.2.1, if_neg hG.2.2]
        have l := l_film (X := X) (mi := mi) (ml := ml) hM hρ (sh := sh) (one := one) (sH := sH) hK hP hs hle n.toNatClampNeg 0 (shM m_1 (sAt sh) 0 n) (by omega) (TQ.fr h1.2 hK hρ f2) (by simp [shM, afil, aup]) (by rw [← e]; simp [shM, afil, aup, hcl]) (fun j hj => absurd hj (Nat.not_lt_zero j)) ((h1.1.wk fun _ z => List.mem_cons_of_mem _ (List.mem_cons_of_mem _ z)).tr (f2.wk fun _ z => mem2u z))
        rw [← e] at l
        refine wp_mono l ?_
        rintro _ _ ⟨a0, rfl, m', rfl, b1, b2, b3, b4⟩
        exact ⟨a0, m', some ρ, rfl, fun _ => ⟨rfl, b1, b2, b3, b4⟩, fun z => absurd hG z⟩
      · have c_3 : ¬ (n ≤ 40) := of_decide_eq_false c_3
        refine wp_steps 1 (t' := (21, [some (.ref 0), some (.int sh), some (.int one), some (.int sH), some (.int n), some (.ref (sAt sh)), some (.ref (pAt one)), none, none], [.int (-2)], (HD, mi, ml, mr))) rfl ?_
        refine wp_ret rfl rfl ⟨⟨Nat.le_refl _, Nat.le_refl _⟩, ?_⟩
        exact ⟨mi, mr 73 2, by rw [mr_self], fun z => absurd z (show ¬ (shG sH = true ∧ inR 0 40 n) from fun z => (fun z => z.2 (Int32.not_le.mp c_3)) z.2), fun _ => ⟨rfl, rfl⟩⟩
