/-! the reference: its reading state; signs, words, names, faults (written by wip/whole/mkref3.py) -/
/-- a state of the class's reading comes of one step -/
def coh (b : Nat → Int32) (n : Nat) (s : pS) : Prop := s.1 ≤ n ∧ s.2.1 = lxE b n s.1 ∧ s.2.2.1 = lxT b n s.1 ∧ (lxT b n s.1 = 2 → s.2.2.2.1 = nuF b (lxE b n s.1 - s.1) s.1 0) ∧ s.2.2.2.2.length ≤ s.1
/-- the reference reads on where the class does; op are open -/
def RS (b : Nat → Int32) (n t op : Nat) (m : Nat → Nat → Int32) (w : Nat → Nat → Int64) (s : pS) : Prop := RB b n t m ∧ RTK b n s.1 m w ∧ coh b n s ∧ m 84 25 = nI op ∧ m 84 26 = 0
/-- a fault was found -/
def RF (b : Nat → Int32) (n t : Nat) (m : Nat → Nat → Int32) (f : Nat) : Prop := RB b n t m ∧ m 84 26 = 1 ∧ m 84 27 = nI f
theorem lxV_2 {b : Nat → Int32} {n a : Nat} (v : Int32) (h : lxT b n a = 2) : lxV b n a v = nuF b (lxE b n a - a) a 0 := by
  rcases Nat.lt_or_ge a n with h1 | h1
  · by_cases q : inR 97 122 (b a)
    · rw [lx_l h1 q] at h; exact absurd h wo_lt.2.2
    · by_cases q2 : inR 48 57 (b a)
      · rw [lx_d h1 q q2] at h
        have h4 : lxE b n a - a ≤ 4 := Decidable.byContradiction fun z => by rw [if_neg z] at h; exact absurd h (by decide)
        rw [lxE_d h1 q q2] at h4 ⊢
        unfold lxV
        rw [if_neg (by omega), if_pos (not_l q), if_neg (fun z => z.elim q2.1 q2.2), if_pos h4]
      · rw [lx_s h1 q q2] at h
        rcases siG_c (b a) with y | y
        · rw [y] at h; exact absurd h (by decide)
        · rw [h] at y; exact absurd rfl (sgn_b y).2.1
  · rw [lx_n h1] at h; exact absurd h (by decide)
theorem spF_ge {b : Nat → Int32} : ∀ g h, h ≤ spF b g h
  | 0, _ => Nat.le_refl _
  | g + 1, h => by
    unfold spF
    split
    · exact Nat.le_trans (Nat.le_succ h) (spF_ge g (h + 1))
    · exact Nat.le_refl _
theorem coh_st {b : Nat → Int32} {n : Nat} (hb : ∀ p, n ≤ p → b p = -1) {s : pS} (h : coh b n s) : coh b n (stP b n s) ∧ (s.1 < n → s.2.2.2.2.length < (stP b n s).1 ∧ s.1 < (stP b n s).1) ∧ s.1 ≤ (stP b n s).1 := by
  obtain ⟨a1, a2, a3, a4, a5⟩ := h
  have e := lxE_n hb a1
  have q := spF_n hb 160 s.2.1 (by rw [a2]; exact e.1)
  have q2 : s.2.1 ≤ spF b 160 s.2.1 := spF_ge 160 s.2.1
  have q3 : s.1 ≤ s.2.1 := by
    rw [a2]
    rcases Nat.lt_or_ge s.1 n with z | z
    · exact Nat.le_of_lt (e.2 z)
    · unfold lxE; rw [if_pos z]; exact Nat.le_refl _
  refine ⟨⟨q, rfl, rfl, fun z => lxV_2 _ z, ?_⟩, fun z => ?_, ?_⟩
  · show s.2.2.2.2.length ≤ spF b 160 s.2.1
    omega
  · have := e.2 z
    rw [← a2] at this
    show s.2.2.2.2.length < spF b 160 s.2.1 ∧ s.1 < spF b 160 s.2.1
    omega
  · show s.1 ≤ spF b 160 s.2.1
    omega
theorem coh_ad {b : Nat → Int32} {n : Nat} {s : pS} {c : Int32} (h : coh b n s) (hl : s.2.2.2.2.length < s.1) (hn : n ≤ 160) : coh b n (adP c s) ∧ (adP c s).2.2.2.2 = s.2.2.2.2 ++ [c] ∧ (adP c s).1 = s.1 := by
  obtain ⟨a1, a2, a3, a4, a5⟩ := h
  have q : s.2.2.2.2.length < 160 := by omega
  have e : adP c s = (s.1, s.2.1, s.2.2.1, s.2.2.2.1, s.2.2.2.2 ++ [c]) := if_pos q
  rw [e]
  exact ⟨⟨a1, a2, a3, a4, by simp; omega⟩, rfl, rfl⟩
theorem adP_t {c : Int32} {s : pS} : (adP c s).2.2.1 = s.2.2.1 ∧ (adP c s).1 = s.1 ∧ (adP c s).2.1 = s.2.1 ∧ (adP c s).2.2.2.1 = s.2.2.2.1 := by
  unfold adP
  split <;> exact ⟨rfl, rfl, rfl, rfl⟩
theorem rt_4 {b : Nat → Int32} {n a : Nat} (h : rtF b n a = 4) : lxT b n a = 1 := by
  rcases Nat.lt_or_ge a n with h1 | h1
  · by_cases q : inR 97 122 (b a)
    · rw [rt_l h1 q] at h; exact absurd h (by decide)
    · by_cases q2 : inR 48 57 (b a)
      · rw [rt_d h1 q q2] at h
        rw [lx_d h1 q q2]
        by_cases q3 : lxE b n a - a ≤ 4
        · rw [if_pos q3] at h; exact absurd h (by decide)
        · rw [if_neg q3]
      · rw [rt_s h1 q q2] at h
        rw [lx_s h1 q q2]
        by_cases q3 : siG (b a) = 1
        · exact q3
        · rw [if_neg q3] at h; exact absurd h (by decide)
  · rw [rt_end h1] at h; exact absurd h (by decide)
/-- a number is one for both -/
theorem rt_2 {b : Nat → Int32} {n a : Nat} : rtF b n a = 2 ↔ lxT b n a = 2 := by
  rcases Nat.lt_or_ge a n with h1 | h1
  · by_cases q : inR 97 122 (b a)
    · rw [rt_l h1 q, lx_l h1 q]
      exact ⟨fun z => absurd z (by decide), fun z => absurd z wo_lt.2.2⟩
    · by_cases q2 : inR 48 57 (b a)
      · rw [rt_d h1 q q2, lx_d h1 q q2]
        by_cases q3 : lxE b n a - a ≤ 4
        · rw [if_pos q3, if_pos q3]
        · rw [if_neg q3, if_neg q3]; exact ⟨fun z => absurd z (by decide), fun z => absurd z (by decide)⟩
      · rw [rt_s h1 q q2, lx_s h1 q q2]
        constructor
        · intro z; split at z <;> exact absurd z (by decide)
        · intro z
          rcases siG_c (b a) with y | y
          · rw [y] at z; exact absurd z (by decide)
          · rw [z] at y; exact absurd rfl (sgn_b y).2.1
  · rw [rt_end h1, lx_n h1]
theorem rt_0 {b : Nat → Int32} {n a : Nat} : rtF b n a = 0 ↔ lxT b n a = 0 := by
  rcases Nat.lt_or_ge a n with h1 | h1
  · by_cases q : inR 97 122 (b a)
    · rw [rt_l h1 q, lx_l h1 q]
      exact ⟨fun z => absurd z (by decide), fun z => absurd wo_lt.2.1 (by rw [z]; decide)⟩
    · by_cases q2 : inR 48 57 (b a)
      · rw [rt_d h1 q q2, lx_d h1 q q2]
        by_cases q3 : lxE b n a - a ≤ 4
        · rw [if_pos q3, if_pos q3]
        · rw [if_neg q3, if_neg q3]; exact ⟨fun z => absurd z (by decide), fun z => absurd z (by decide)⟩
      · rw [rt_s h1 q q2, lx_s h1 q q2]
        constructor
        · intro z; split at z <;> exact absurd z (by decide)
        · intro z
          rcases siG_c (b a) with y | y
          · rw [y] at z; exact absurd z (by decide)
          · rw [z] at y; exact absurd rfl (sgn_b y).2.2.2
  · rw [rt_end h1, lx_n h1]
theorem r_next {X : aXt × Value} {mi : Nat → Nat → Int32} {ml : Nat → Nat → Int64} {mr : Nat → Nat → Option Nat} (hM : MRok mr) {b : Nat → Int32} {n t op : Nat} {s : pS} (h : RS b n t op mi ml s) (hnn : nnB b n) (h4 : ¬ lxT b n s.1 = 1) : aCW X 3 126 [.ref 84] (HD, mi, ml, mr) (fun r h' => r = none ∧ ∃ m' w', h' = (HD, m', w', mr) ∧ frR mi m' ∧ RS b n t op m' w' (stP b n s)) := by
  obtain ⟨hB, ⟨a1, a2, a3, a4, a5, a6⟩, hc, ho, hb⟩ := h
  have hr : rtF b n s.1 ≠ 4 := fun z => h4 (rt_4 z)
  have h21 : mi 84 21 = nI s.2.1 := (a4 hr).trans (by rw [hc.2.1])
  have hn : s.2.1 ≤ n := by rw [hc.2.1]; exact (lxE_n (fun p => hB.out) a1).1
  obtain ⟨r, h', g, hr', m', w', e, f, k⟩ := c_next (X := X) (ml := ml) hM hB hnn h21 hn
  exact ⟨r, h', g, hr', m', w', e, f.R, hB.fr f.R, k, (coh_st (fun p => hB.out) hc).1, (f _ _ (by omega)).trans ho, (f _ _ (by omega)).trans hb⟩
set_option maxRecDepth 20000 in
set_option maxHeartbeats 1000000 in
theorem r_sign {X : aXt × Value} {mi : Nat → Nat → Int32} {ml : Nat → Nat → Int64} {mr : Nat → Nat → Option Nat} (hM : MRok mr) {b : Nat → Int32} {n t op : Nat} {s : pS} (h : RS b n t op mi ml s) {c : Int32} (hg : sgn c) : aCW X 1 130 [.ref 84, .int c] (HD, mi, ml, mr) (rdI mi ml mr (if s.2.2.1 = c then 1 else 0)) := by
  obtain ⟨hB, ⟨a1, a2, a3, a4, a5, a6⟩, hc, ho, hb⟩ := h
  refine cw_of (cd := cd_X7_isSign) (nL := 2) rfl rfl ?_
  show aWP _ _ (0, [some (.ref 84), some (.int c)], [], (HD, mi, ml, mr)) _
  refine wp_steps 1 (t' := (1, [some (.ref 84), some (.int c)], [.ref 84], (HD, mi, ml, mr))) rfl ?_
  refine wp_geti rfl ⟨by decide, rfl⟩ (Or.inr rfl) ?_
  refine wp_bI rfl (fun c_1 => ?_) (fun c_1 => ?_)
  · have c_1 : ¬ (mi 84 26) = 0 := of_decide_eq_true c_1
    exact absurd hb c_1
  have c_1 : (mi 84 26) = 0 := Decidable.not_not.mp (of_decide_eq_false c_1)
  refine wp_steps 1 (t' := (4, [some (.ref 84), some (.int c)], [.ref 84], (HD, mi, ml, mr))) rfl ?_
  refine wp_geti rfl ⟨by decide, rfl⟩ (Or.inl rfl) ?_
  refine wp_steps 1 (t' := (6, [some (.ref 84), some (.int c)], [.int 3, .int (mi 84 22)], (HD, mi, ml, mr))) rfl ?_
  refine wp_bC rfl (fun c_2 => ?_) (fun c_2 => ?_)
  · have c_2 : ¬ (mi 84 22) = 3 := of_decide_eq_true c_2
    refine wp_steps 1 (t' := (16, [some (.ref 84), some (.int c)], [.int 0], (HD, mi, ml, mr))) rfl ?_
    refine wp_ret rfl rfl ⟨⟨Nat.le_refl _, Nat.le_refl _⟩, ?_⟩
    have q : ¬ s.2.2.1 = c := fun z => by
      rw [hc.2.2.1] at z
      exact c_2 (by rw [a3]; exact ((sg_iff hg).mpr z).1)
    exact ⟨by rw [if_neg q], rfl⟩
  · have c_2 : (mi 84 22) = 3 := Decidable.not_not.mp (of_decide_eq_false c_2)
    refine wp_steps 1 (t' := (8, [some (.ref 84), some (.int c)], [.ref 84], (HD, mi, ml, mr))) rfl ?_
    refine wp_getl rfl ⟨by decide, rfl⟩ rfl ?_
    refine wp_steps 3 (t' := (12, [some (.ref 84), some (.int c)], [.int (lg_cmp (ml 84 24) c.toInt64)], (HD, mi, ml, mr))) rfl ?_
    refine wp_bI rfl (fun c_3 => ?_) (fun c_3 => ?_)
    · have c_3 : ¬ (lg_cmp (ml 84 24) c.toInt64) = 0 := of_decide_eq_true c_3
      refine wp_steps 1 (t' := (16, [some (.ref 84), some (.int c)], [.int 0], (HD, mi, ml, mr))) rfl ?_
      refine wp_ret rfl rfl ⟨⟨Nat.le_refl _, Nat.le_refl _⟩, ?_⟩
      have q1 : rtF b n s.1 = 3 := by rw [← a3]; exact c_2
      have q : ¬ s.2.2.1 = c := fun z => by
        rw [hc.2.2.1] at z
        have y := ((sg_iff hg).mpr z).2
        exact c_3 ((lg_cmp_eq _ _).mpr (by rw [a6 q1, y]))
      exact ⟨by rw [if_neg q], rfl⟩
    · have c_3 : (lg_cmp (ml 84 24) c.toInt64) = 0 := Decidable.not_not.mp (of_decide_eq_false c_3)
      refine wp_steps 2 (t' := (16, [some (.ref 84), some (.int c)], [.int 1], (HD, mi, ml, mr))) rfl ?_
      refine wp_ret rfl rfl ⟨⟨Nat.le_refl _, Nat.le_refl _⟩, ?_⟩
      have q1 : rtF b n s.1 = 3 := by rw [← a3]; exact c_2
      have q2 : b s.1 = c := by have z := (lg_cmp_eq _ _).mp c_3; rw [a6 q1] at z; exact (i64_eq _ _).mp z
      have q : s.2.2.1 = c := by rw [hc.2.2.1]; exact (sg_iff hg).mp ⟨q1, q2⟩
      exact ⟨by rw [if_pos q], rfl⟩
set_option maxRecDepth 20000 in
set_option maxHeartbeats 1000000 in
theorem r_sign_b {X : aXt × Value} {mi : Nat → Nat → Int32} {ml : Nat → Nat → Int64} {mr : Nat → Nat → Option Nat} (hb : ¬ mi 84 26 = 0) {c : Int32} : aCW X 1 130 [.ref 84, .int c] (HD, mi, ml, mr) (rdI mi ml mr 0) := by
  refine cw_of (cd := cd_X7_isSign) (nL := 2) rfl rfl ?_
  show aWP _ _ (0, [some (.ref 84), some (.int c)], [], (HD, mi, ml, mr)) _
  refine wp_steps 1 (t' := (1, [some (.ref 84), some (.int c)], [.ref 84], (HD, mi, ml, mr))) rfl ?_
  refine wp_geti rfl ⟨by decide, rfl⟩ (Or.inr rfl) ?_
  refine wp_bI rfl (fun c_1 => ?_) (fun c_1 => ?_)
  rotate_left
  · have c_1 : (mi 84 26) = 0 := Decidable.not_not.mp (of_decide_eq_false c_1)
    exact absurd c_1 hb
  have c_1 : ¬ (mi 84 26) = 0 := of_decide_eq_true c_1
  refine wp_steps 1 (t' := (16, [some (.ref 84), some (.int c)], [.int 0], (HD, mi, ml, mr))) rfl ?_
  refine wp_ret rfl rfl ⟨⟨Nat.le_refl _, Nat.le_refl _⟩, ?_⟩
  exact ⟨rfl, rfl⟩
set_option maxRecDepth 20000 in
set_option maxHeartbeats 1000000 in
theorem r_letter {X : aXt × Value} {mi : Nat → Nat → Int32} {ml : Nat → Nat → Int64} {mr : Nat → Nat → Option Nat} (hM : MRok mr) {b : Nat → Int32} {n t a e : Nat} (hB : RB b n t mi) (h23 : mi 84 23 = nI a) (h21 : mi 84 21 = nI e) (ha : a ≤ 160) (he : e ≤ 160) {i : Nat} (hi : i < 8) {c : Int32} : aCW X 2 128 [.ref 84, .int (nI i), .int c] (HD, mi, ml, mr) (rdI mi ml mr (if iL b a e i c = true then 1 else 0)) := by
  refine cw_of (cd := cd_X7_isLetter) (nL := 3) rfl rfl ?_
  show aWP _ _ (0, [some (.ref 84), some (.int (nI i)), some (.int c)], [], (HD, mi, ml, mr)) _
  refine wp_steps 1 (t' := (1, [some (.ref 84), some (.int (nI i)), some (.int c)], [.ref 84], (HD, mi, ml, mr))) rfl ?_
  refine wp_geti rfl ⟨by decide, rfl⟩ (Or.inl rfl) ?_
  refine wp_steps 2 (t' := (4, [some (.ref 84), some (.int (nI i)), some (.int c)], [.int ((mi 84 23) + (nI i))], (HD, mi, ml, mr))) rfl ?_
  rw [h23, nI_add]
  refine wp_steps 1 (t' := (5, [some (.ref 84), some (.int (nI i)), some (.int c)], [.ref 84, .int (nI (a + i))], (HD, mi, ml, mr))) rfl ?_
  refine wp_geti rfl ⟨by decide, rfl⟩ (Or.inl rfl) ?_
  rw [h21]
  refine wp_bC rfl (fun c_1 => ?_) (fun c_1 => ?_)
  · have c_1 : (nI e) ≤ (nI (a + i)) := of_decide_eq_true c_1
    refine wp_steps 1 (t' := (20, [some (.ref 84), some (.int (nI i)), some (.int c)], [.int c], (HD, mi, ml, mr))) rfl ?_
    refine wp_bI rfl (fun c_2 => ?_) (fun c_2 => ?_)
    · have c_2 : ¬ c = 0 := of_decide_eq_true c_2
      refine wp_steps 1 (t' := (24, [some (.ref 84), some (.int (nI i)), some (.int c)], [.int 0], (HD, mi, ml, mr))) rfl ?_
      refine wp_ret rfl rfl ⟨⟨Nat.le_refl _, Nat.le_refl _⟩, ?_⟩
      have q : ¬ a + i < e := fun z => nI_ge z (by omega) c_1
      refine ⟨?_, rfl⟩
      unfold iL
      rw [if_neg q]
      simp [c_2]
    · have c_2 : c = 0 := Decidable.not_not.mp (of_decide_eq_false c_2)
      refine wp_steps 2 (t' := (24, [some (.ref 84), some (.int (nI i)), some (.int c)], [.int 1], (HD, mi, ml, mr))) rfl ?_
      refine wp_ret rfl rfl ⟨⟨Nat.le_refl _, Nat.le_refl _⟩, ?_⟩
      have q : ¬ a + i < e := fun z => nI_ge z (by omega) c_1
      refine ⟨?_, rfl⟩
      unfold iL
      rw [if_neg q]
      simp [c_2]
  · have c_1 : ¬ ((nI e) ≤ (nI (a + i))) := of_decide_eq_false c_1
    refine wp_steps 2 (t' := (9, [some (.ref 84), some (.int (nI i)), some (.int c)], [.ref 84, .ref 84], (HD, mi, ml, mr))) rfl ?_
    refine wp_geti rfl ⟨by decide, rfl⟩ (Or.inl rfl) ?_
    refine wp_steps 2 (t' := (12, [some (.ref 84), some (.int (nI i)), some (.int c)], [.int ((mi 84 23) + (nI i)), .ref 84], (HD, mi, ml, mr))) rfl ?_
    rw [h23, nI_add]
    refine wp_calv (as := [.int (nI (a + i))]) rfl rfl rfl (Nat.le_of_ble_eq_true rfl) ⟨by decide, rfl⟩ ((c_rbyte (ml := ml) hM (p := a + i) hB (by omega))) (by decide) ?_
    rintro _ _ ⟨rfl, rfl⟩
    show aWP _ _ (13, [some (.ref 84), some (.int (nI i)), some (.int c)], [.int (b (a + i))], (HD, mi, ml, mr)) _
    refine wp_steps 1 (t' := (14, [some (.ref 84), some (.int (nI i)), some (.int c)], [.int c, .int (b (a + i))], (HD, mi, ml, mr))) rfl ?_
    refine wp_bC rfl (fun c_3 => ?_) (fun c_3 => ?_)
    · have c_3 : ¬ (b (a + i)) = c := of_decide_eq_true c_3
      refine wp_steps 2 (t' := (24, [some (.ref 84), some (.int (nI i)), some (.int c)], [.int 0], (HD, mi, ml, mr))) rfl ?_
      refine wp_ret rfl rfl ⟨⟨Nat.le_refl _, Nat.le_refl _⟩, ?_⟩
      have q : a + i < e := Nat.lt_of_not_le (fun z => c_1 (nI_le z (by omega)))
      refine ⟨?_, rfl⟩
      unfold iL
      rw [if_pos q]
      simp [c_3]
    · have c_3 : (b (a + i)) = c := Decidable.not_not.mp (of_decide_eq_false c_3)
      refine wp_steps 2 (t' := (24, [some (.ref 84), some (.int (nI i)), some (.int c)], [.int 1], (HD, mi, ml, mr))) rfl ?_
      refine wp_ret rfl rfl ⟨⟨Nat.le_refl _, Nat.le_refl _⟩, ?_⟩
      have q : a + i < e := Nat.lt_of_not_le (fun z => c_1 (nI_le z (by omega)))
      refine ⟨?_, rfl⟩
      unfold iL
      rw [if_pos q]
      simp [c_3]
set_option maxRecDepth 20000 in
set_option maxHeartbeats 1000000 in
theorem r_word {X : aXt × Value} {mi : Nat → Nat → Int32} {ml : Nat → Nat → Int64} {mr : Nat → Nat → Option Nat} (hM : MRok mr) {b : Nat → Int32} {n t op : Nat} {s : pS} (h : RS b n t op mi ml s) (ht : rtF b n s.1 = 1) {k0 k1 k2 k3 k4 k5 k6 k7 : Int32} : aCW X 3 129 [.ref 84, .int k0, .int k1, .int k2, .int k3, .int k4, .int k5, .int k6, .int k7] (HD, mi, ml, mr) (rdI mi ml mr (if iW b s.1 (lxE b n s.1) [k0, k1, k2, k3, k4, k5, k6, k7] = true then 1 else 0)) := by
  obtain ⟨hB, ⟨a1, a2, a3, a4, a5, a6⟩, hc, ho, hb⟩ := h
  have h21 : mi 84 21 = nI (lxE b n s.1) := a4 (by rw [ht]; decide)
  have he := (lxE_n (fun p => hB.out) a1).1
  have h160 := hB.1.2.2.2
  refine cw_of (cd := cd_X7_isWord) (nL := 9) rfl rfl ?_
  show aWP _ _ (0, [some (.ref 84), some (.int k0), some (.int k1), some (.int k2), some (.int k3), some (.int k4), some (.int k5), some (.int k6), some (.int k7)], [], (HD, mi, ml, mr)) _
  refine wp_steps 1 (t' := (1, [some (.ref 84), some (.int k0), some (.int k1), some (.int k2), some (.int k3), some (.int k4), some (.int k5), some (.int k6), some (.int k7)], [.ref 84], (HD, mi, ml, mr))) rfl ?_
  refine wp_geti rfl ⟨by decide, rfl⟩ (Or.inr rfl) ?_
  refine wp_bI rfl (fun c_1 => ?_) (fun c_1 => ?_)
  · have c_1 : ¬ (mi 84 26) = 0 := of_decide_eq_true c_1
    exact absurd hb c_1
  have c_1 : (mi 84 26) = 0 := Decidable.not_not.mp (of_decide_eq_false c_1)
  refine wp_steps 1 (t' := (4, [some (.ref 84), some (.int k0), some (.int k1), some (.int k2), some (.int k3), some (.int k4), some (.int k5), some (.int k6), some (.int k7)], [.ref 84], (HD, mi, ml, mr))) rfl ?_
  refine wp_geti rfl ⟨by decide, rfl⟩ (Or.inl rfl) ?_
  refine wp_steps 1 (t' := (6, [some (.ref 84), some (.int k0), some (.int k1), some (.int k2), some (.int k3), some (.int k4), some (.int k5), some (.int k6), some (.int k7)], [.int 1, .int (mi 84 22)], (HD, mi, ml, mr))) rfl ?_
  refine wp_bC rfl (fun c_2 => ?_) (fun c_2 => ?_)
  · have c_2 : ¬ (mi 84 22) = 1 := of_decide_eq_true c_2
    exact absurd (a3.trans ht) c_2
  have c_2 : (mi 84 22) = 1 := Decidable.not_not.mp (of_decide_eq_false c_2)
  refine wp_steps 1 (t' := (8, [some (.ref 84), some (.int k0), some (.int k1), some (.int k2), some (.int k3), some (.int k4), some (.int k5), some (.int k6), some (.int k7)], [.ref 84], (HD, mi, ml, mr))) rfl ?_
  refine wp_geti rfl ⟨by decide, rfl⟩ (Or.inl rfl) ?_
  rw [h21]
  refine wp_steps 1 (t' := (10, [some (.ref 84), some (.int k0), some (.int k1), some (.int k2), some (.int k3), some (.int k4), some (.int k5), some (.int k6), some (.int k7)], [.ref 84, .int (nI (lxE b n s.1))], (HD, mi, ml, mr))) rfl ?_
  refine wp_geti rfl ⟨by decide, rfl⟩ (Or.inl rfl) ?_
  rw [a2]
  refine wp_steps 2 (t' := (13, [some (.ref 84), some (.int k0), some (.int k1), some (.int k2), some (.int k3), some (.int k4), some (.int k5), some (.int k6), some (.int k7)], [.int ((nI s.1) + 8), .int (nI (lxE b n s.1))], (HD, mi, ml, mr))) rfl ?_
  rw [show nI s.1 + 8 = nI (s.1 + 8) from nI_add s.1 8]
  refine wp_bC rfl (fun c_3 => ?_) (fun c_3 => ?_)
  · have c_3 : (nI (s.1 + 8)) < (nI (lxE b n s.1)) := of_decide_eq_true c_3
    refine wp_steps 1 (t' := (57, [some (.ref 84), some (.int k0), some (.int k1), some (.int k2), some (.int k3), some (.int k4), some (.int k5), some (.int k6), some (.int k7)], [.int 0], (HD, mi, ml, mr))) rfl ?_
    refine wp_ret rfl rfl ⟨⟨Nat.le_refl _, Nat.le_refl _⟩, ?_⟩
    have q : ¬ lxE b n s.1 ≤ s.1 + 8 := fun z => nI_nlt z (by omega) c_3
    exact ⟨by simp [iW, q], rfl⟩
  · have c_3 : ¬ ((nI (s.1 + 8)) < (nI (lxE b n s.1))) := of_decide_eq_false c_3
    refine wp_steps 3 (t' := (17, [some (.ref 84), some (.int k0), some (.int k1), some (.int k2), some (.int k3), some (.int k4), some (.int k5), some (.int k6), some (.int k7)], [.int k0, .int 0, .ref 84], (HD, mi, ml, mr))) rfl ?_
    refine wp_calv (as := [.int 0, .int k0]) rfl rfl rfl (Nat.le_of_ble_eq_true rfl) ⟨by decide, rfl⟩ ((r_letter (ml := ml) hM hB a2 h21 (by omega) (by omega) (i := 0) (by decide) (c := k0))) (by decide) ?_
    rintro _ _ ⟨rfl, rfl⟩
    show aWP _ _ (18, [some (.ref 84), some (.int k0), some (.int k1), some (.int k2), some (.int k3), some (.int k4), some (.int k5), some (.int k6), some (.int k7)], [.int (if iL b s.1 (lxE b n s.1) 0 k0 = true then (1 : Int32) else 0)], (HD, mi, ml, mr)) _
    refine wp_bI rfl (fun c_4 => ?_) (fun c_4 => ?_)
    · have c_4 : (if iL b s.1 (lxE b n s.1) 0 k0 = true then (1 : Int32) else 0) = 0 := of_decide_eq_true c_4
      refine wp_steps 1 (t' := (57, [some (.ref 84), some (.int k0), some (.int k1), some (.int k2), some (.int k3), some (.int k4), some (.int k5), some (.int k6), some (.int k7)], [.int 0], (HD, mi, ml, mr))) rfl ?_
      refine wp_ret rfl rfl ⟨⟨Nat.le_refl _, Nat.le_refl _⟩, ?_⟩
      have q : lxE b n s.1 ≤ s.1 + 8 := Nat.le_of_not_lt (fun z => c_3 (nI_lt z (by omega)))
      exact ⟨by simp [iW, iWL, q, ite_nix c_4], rfl⟩
    · have c_4 : ¬ ((if iL b s.1 (lxE b n s.1) 0 k0 = true then (1 : Int32) else 0) = 0) := of_decide_eq_false c_4
      refine wp_steps 3 (t' := (22, [some (.ref 84), some (.int k0), some (.int k1), some (.int k2), some (.int k3), some (.int k4), some (.int k5), some (.int k6), some (.int k7)], [.int k1, .int 1, .ref 84], (HD, mi, ml, mr))) rfl ?_
      refine wp_calv (as := [.int 1, .int k1]) rfl rfl rfl (Nat.le_of_ble_eq_true rfl) ⟨by decide, rfl⟩ ((r_letter (ml := ml) hM hB a2 h21 (by omega) (by omega) (i := 1) (by decide) (c := k1))) (by decide) ?_
      rintro _ _ ⟨rfl, rfl⟩
      show aWP _ _ (23, [some (.ref 84), some (.int k0), some (.int k1), some (.int k2), some (.int k3), some (.int k4), some (.int k5), some (.int k6), some (.int k7)], [.int (if iL b s.1 (lxE b n s.1) 1 k1 = true then (1 : Int32) else 0)], (HD, mi, ml, mr)) _
      refine wp_bI rfl (fun c_5 => ?_) (fun c_5 => ?_)
      · have c_5 : (if iL b s.1 (lxE b n s.1) 1 k1 = true then (1 : Int32) else 0) = 0 := of_decide_eq_true c_5
        refine wp_steps 1 (t' := (57, [some (.ref 84), some (.int k0), some (.int k1), some (.int k2), some (.int k3), some (.int k4), some (.int k5), some (.int k6), some (.int k7)], [.int 0], (HD, mi, ml, mr))) rfl ?_
        refine wp_ret rfl rfl ⟨⟨Nat.le_refl _, Nat.le_refl _⟩, ?_⟩
        have q : lxE b n s.1 ≤ s.1 + 8 := Nat.le_of_not_lt (fun z => c_3 (nI_lt z (by omega)))
        exact ⟨by simp [iW, iWL, q, ite_aix c_4, ite_nix c_5], rfl⟩
      · have c_5 : ¬ ((if iL b s.1 (lxE b n s.1) 1 k1 = true then (1 : Int32) else 0) = 0) := of_decide_eq_false c_5
        refine wp_steps 3 (t' := (27, [some (.ref 84), some (.int k0), some (.int k1), some (.int k2), some (.int k3), some (.int k4), some (.int k5), some (.int k6), some (.int k7)], [.int k2, .int 2, .ref 84], (HD, mi, ml, mr))) rfl ?_
        refine wp_calv (as := [.int 2, .int k2]) rfl rfl rfl (Nat.le_of_ble_eq_true rfl) ⟨by decide, rfl⟩ ((r_letter (ml := ml) hM hB a2 h21 (by omega) (by omega) (i := 2) (by decide) (c := k2))) (by decide) ?_
        rintro _ _ ⟨rfl, rfl⟩
        show aWP _ _ (28, [some (.ref 84), some (.int k0), some (.int k1), some (.int k2), some (.int k3), some (.int k4), some (.int k5), some (.int k6), some (.int k7)], [.int (if iL b s.1 (lxE b n s.1) 2 k2 = true then (1 : Int32) else 0)], (HD, mi, ml, mr)) _
        refine wp_bI rfl (fun c_6 => ?_) (fun c_6 => ?_)
        · have c_6 : (if iL b s.1 (lxE b n s.1) 2 k2 = true then (1 : Int32) else 0) = 0 := of_decide_eq_true c_6
          refine wp_steps 1 (t' := (57, [some (.ref 84), some (.int k0), some (.int k1), some (.int k2), some (.int k3), some (.int k4), some (.int k5), some (.int k6), some (.int k7)], [.int 0], (HD, mi, ml, mr))) rfl ?_
          refine wp_ret rfl rfl ⟨⟨Nat.le_refl _, Nat.le_refl _⟩, ?_⟩
          have q : lxE b n s.1 ≤ s.1 + 8 := Nat.le_of_not_lt (fun z => c_3 (nI_lt z (by omega)))
          exact ⟨by simp [iW, iWL, q, ite_aix c_4, ite_aix c_5, ite_nix c_6], rfl⟩
        · have c_6 : ¬ ((if iL b s.1 (lxE b n s.1) 2 k2 = true then (1 : Int32) else 0) = 0) := of_decide_eq_false c_6
          refine wp_steps 3 (t' := (32, [some (.ref 84), some (.int k0), some (.int k1), some (.int k2), some (.int k3), some (.int k4), some (.int k5), some (.int k6), some (.int k7)], [.int k3, .int 3, .ref 84], (HD, mi, ml, mr))) rfl ?_
          refine wp_calv (as := [.int 3, .int k3]) rfl rfl rfl (Nat.le_of_ble_eq_true rfl) ⟨by decide, rfl⟩ ((r_letter (ml := ml) hM hB a2 h21 (by omega) (by omega) (i := 3) (by decide) (c := k3))) (by decide) ?_
          rintro _ _ ⟨rfl, rfl⟩
          show aWP _ _ (33, [some (.ref 84), some (.int k0), some (.int k1), some (.int k2), some (.int k3), some (.int k4), some (.int k5), some (.int k6), some (.int k7)], [.int (if iL b s.1 (lxE b n s.1) 3 k3 = true then (1 : Int32) else 0)], (HD, mi, ml, mr)) _
          refine wp_bI rfl (fun c_7 => ?_) (fun c_7 => ?_)
          · have c_7 : (if iL b s.1 (lxE b n s.1) 3 k3 = true then (1 : Int32) else 0) = 0 := of_decide_eq_true c_7
            refine wp_steps 1 (t' := (57, [some (.ref 84), some (.int k0), some (.int k1), some (.int k2), some (.int k3), some (.int k4), some (.int k5), some (.int k6), some (.int k7)], [.int 0], (HD, mi, ml, mr))) rfl ?_
            refine wp_ret rfl rfl ⟨⟨Nat.le_refl _, Nat.le_refl _⟩, ?_⟩
            have q : lxE b n s.1 ≤ s.1 + 8 := Nat.le_of_not_lt (fun z => c_3 (nI_lt z (by omega)))
            exact ⟨by simp [iW, iWL, q, ite_aix c_4, ite_aix c_5, ite_aix c_6, ite_nix c_7], rfl⟩
          · have c_7 : ¬ ((if iL b s.1 (lxE b n s.1) 3 k3 = true then (1 : Int32) else 0) = 0) := of_decide_eq_false c_7
            refine wp_steps 3 (t' := (37, [some (.ref 84), some (.int k0), some (.int k1), some (.int k2), some (.int k3), some (.int k4), some (.int k5), some (.int k6), some (.int k7)], [.int k4, .int 4, .ref 84], (HD, mi, ml, mr))) rfl ?_
            refine wp_calv (as := [.int 4, .int k4]) rfl rfl rfl (Nat.le_of_ble_eq_true rfl) ⟨by decide, rfl⟩ ((r_letter (ml := ml) hM hB a2 h21 (by omega) (by omega) (i := 4) (by decide) (c := k4))) (by decide) ?_
            rintro _ _ ⟨rfl, rfl⟩
            show aWP _ _ (38, [some (.ref 84), some (.int k0), some (.int k1), some (.int k2), some (.int k3), some (.int k4), some (.int k5), some (.int k6), some (.int k7)], [.int (if iL b s.1 (lxE b n s.1) 4 k4 = true then (1 : Int32) else 0)], (HD, mi, ml, mr)) _
            refine wp_bI rfl (fun c_8 => ?_) (fun c_8 => ?_)
            · have c_8 : (if iL b s.1 (lxE b n s.1) 4 k4 = true then (1 : Int32) else 0) = 0 := of_decide_eq_true c_8
              refine wp_steps 1 (t' := (57, [some (.ref 84), some (.int k0), some (.int k1), some (.int k2), some (.int k3), some (.int k4), some (.int k5), some (.int k6), some (.int k7)], [.int 0], (HD, mi, ml, mr))) rfl ?_
              refine wp_ret rfl rfl ⟨⟨Nat.le_refl _, Nat.le_refl _⟩, ?_⟩
              have q : lxE b n s.1 ≤ s.1 + 8 := Nat.le_of_not_lt (fun z => c_3 (nI_lt z (by omega)))
              exact ⟨by simp [iW, iWL, q, ite_aix c_4, ite_aix c_5, ite_aix c_6, ite_aix c_7, ite_nix c_8], rfl⟩
            · have c_8 : ¬ ((if iL b s.1 (lxE b n s.1) 4 k4 = true then (1 : Int32) else 0) = 0) := of_decide_eq_false c_8
              refine wp_steps 3 (t' := (42, [some (.ref 84), some (.int k0), some (.int k1), some (.int k2), some (.int k3), some (.int k4), some (.int k5), some (.int k6), some (.int k7)], [.int k5, .int 5, .ref 84], (HD, mi, ml, mr))) rfl ?_
              refine wp_calv (as := [.int 5, .int k5]) rfl rfl rfl (Nat.le_of_ble_eq_true rfl) ⟨by decide, rfl⟩ ((r_letter (ml := ml) hM hB a2 h21 (by omega) (by omega) (i := 5) (by decide) (c := k5))) (by decide) ?_
              rintro _ _ ⟨rfl, rfl⟩
              show aWP _ _ (43, [some (.ref 84), some (.int k0), some (.int k1), some (.int k2), some (.int k3), some (.int k4), some (.int k5), some (.int k6), some (.int k7)], [.int (if iL b s.1 (lxE b n s.1) 5 k5 = true then (1 : Int32) else 0)], (HD, mi, ml, mr)) _
              refine wp_bI rfl (fun c_9 => ?_) (fun c_9 => ?_)
              · have c_9 : (if iL b s.1 (lxE b n s.1) 5 k5 = true then (1 : Int32) else 0) = 0 := of_decide_eq_true c_9
                refine wp_steps 1 (t' := (57, [some (.ref 84), some (.int k0), some (.int k1), some (.int k2), some (.int k3), some (.int k4), some (.int k5), some (.int k6), some (.int k7)], [.int 0], (HD, mi, ml, mr))) rfl ?_
                refine wp_ret rfl rfl ⟨⟨Nat.le_refl _, Nat.le_refl _⟩, ?_⟩
                have q : lxE b n s.1 ≤ s.1 + 8 := Nat.le_of_not_lt (fun z => c_3 (nI_lt z (by omega)))
                exact ⟨by simp [iW, iWL, q, ite_aix c_4, ite_aix c_5, ite_aix c_6, ite_aix c_7, ite_aix c_8, ite_nix c_9], rfl⟩
              · have c_9 : ¬ ((if iL b s.1 (lxE b n s.1) 5 k5 = true then (1 : Int32) else 0) = 0) := of_decide_eq_false c_9
                refine wp_steps 3 (t' := (47, [some (.ref 84), some (.int k0), some (.int k1), some (.int k2), some (.int k3), some (.int k4), some (.int k5), some (.int k6), some (.int k7)], [.int k6, .int 6, .ref 84], (HD, mi, ml, mr))) rfl ?_
                refine wp_calv (as := [.int 6, .int k6]) rfl rfl rfl (Nat.le_of_ble_eq_true rfl) ⟨by decide, rfl⟩ ((r_letter (ml := ml) hM hB a2 h21 (by omega) (by omega) (i := 6) (by decide) (c := k6))) (by decide) ?_
                rintro _ _ ⟨rfl, rfl⟩
                show aWP _ _ (48, [some (.ref 84), some (.int k0), some (.int k1), some (.int k2), some (.int k3), some (.int k4), some (.int k5), some (.int k6), some (.int k7)], [.int (if iL b s.1 (lxE b n s.1) 6 k6 = true then (1 : Int32) else 0)], (HD, mi, ml, mr)) _
                refine wp_bI rfl (fun c_10 => ?_) (fun c_10 => ?_)
                · have c_10 : (if iL b s.1 (lxE b n s.1) 6 k6 = true then (1 : Int32) else 0) = 0 := of_decide_eq_true c_10
                  refine wp_steps 1 (t' := (57, [some (.ref 84), some (.int k0), some (.int k1), some (.int k2), some (.int k3), some (.int k4), some (.int k5), some (.int k6), some (.int k7)], [.int 0], (HD, mi, ml, mr))) rfl ?_
                  refine wp_ret rfl rfl ⟨⟨Nat.le_refl _, Nat.le_refl _⟩, ?_⟩
                  have q : lxE b n s.1 ≤ s.1 + 8 := Nat.le_of_not_lt (fun z => c_3 (nI_lt z (by omega)))
                  exact ⟨by simp [iW, iWL, q, ite_aix c_4, ite_aix c_5, ite_aix c_6, ite_aix c_7, ite_aix c_8, ite_aix c_9, ite_nix c_10], rfl⟩
                · have c_10 : ¬ ((if iL b s.1 (lxE b n s.1) 6 k6 = true then (1 : Int32) else 0) = 0) := of_decide_eq_false c_10
                  refine wp_steps 3 (t' := (52, [some (.ref 84), some (.int k0), some (.int k1), some (.int k2), some (.int k3), some (.int k4), some (.int k5), some (.int k6), some (.int k7)], [.int k7, .int 7, .ref 84], (HD, mi, ml, mr))) rfl ?_
                  refine wp_calv (as := [.int 7, .int k7]) rfl rfl rfl (Nat.le_of_ble_eq_true rfl) ⟨by decide, rfl⟩ ((r_letter (ml := ml) hM hB a2 h21 (by omega) (by omega) (i := 7) (by decide) (c := k7))) (by decide) ?_
                  rintro _ _ ⟨rfl, rfl⟩
                  show aWP _ _ (53, [some (.ref 84), some (.int k0), some (.int k1), some (.int k2), some (.int k3), some (.int k4), some (.int k5), some (.int k6), some (.int k7)], [.int (if iL b s.1 (lxE b n s.1) 7 k7 = true then (1 : Int32) else 0)], (HD, mi, ml, mr)) _
                  refine wp_bI rfl (fun c_11 => ?_) (fun c_11 => ?_)
                  · have c_11 : (if iL b s.1 (lxE b n s.1) 7 k7 = true then (1 : Int32) else 0) = 0 := of_decide_eq_true c_11
                    refine wp_steps 1 (t' := (57, [some (.ref 84), some (.int k0), some (.int k1), some (.int k2), some (.int k3), some (.int k4), some (.int k5), some (.int k6), some (.int k7)], [.int 0], (HD, mi, ml, mr))) rfl ?_
                    refine wp_ret rfl rfl ⟨⟨Nat.le_refl _, Nat.le_refl _⟩, ?_⟩
                    have q : lxE b n s.1 ≤ s.1 + 8 := Nat.le_of_not_lt (fun z => c_3 (nI_lt z (by omega)))
                    exact ⟨by simp [iW, iWL, q, ite_aix c_4, ite_aix c_5, ite_aix c_6, ite_aix c_7, ite_aix c_8, ite_aix c_9, ite_aix c_10, ite_nix c_11], rfl⟩
                  · have c_11 : ¬ ((if iL b s.1 (lxE b n s.1) 7 k7 = true then (1 : Int32) else 0) = 0) := of_decide_eq_false c_11
                    refine wp_steps 2 (t' := (57, [some (.ref 84), some (.int k0), some (.int k1), some (.int k2), some (.int k3), some (.int k4), some (.int k5), some (.int k6), some (.int k7)], [.int 1], (HD, mi, ml, mr))) rfl ?_
                    refine wp_ret rfl rfl ⟨⟨Nat.le_refl _, Nat.le_refl _⟩, ?_⟩
                    have q : lxE b n s.1 ≤ s.1 + 8 := Nat.le_of_not_lt (fun z => c_3 (nI_lt z (by omega)))
                    exact ⟨by simp [iW, iWL, q, ite_aix c_4, ite_aix c_5, ite_aix c_6, ite_aix c_7, ite_aix c_8, ite_aix c_9, ite_aix c_10, ite_aix c_11], rfl⟩
set_option maxRecDepth 20000 in
set_option maxHeartbeats 1000000 in
theorem r_word_n {X : aXt × Value} {mi : Nat → Nat → Int32} {ml : Nat → Nat → Int64} {mr : Nat → Nat → Option Nat} (hM : MRok mr) {b : Nat → Int32} {n t op : Nat} {s : pS} (h : RS b n t op mi ml s) (ht : ¬ rtF b n s.1 = 1) {k0 k1 k2 k3 k4 k5 k6 k7 : Int32} : aCW X 3 129 [.ref 84, .int k0, .int k1, .int k2, .int k3, .int k4, .int k5, .int k6, .int k7] (HD, mi, ml, mr) (rdI mi ml mr 0) := by
  obtain ⟨hB, ⟨a1, a2, a3, a4, a5, a6⟩, hc, ho, hb⟩ := h
  refine cw_of (cd := cd_X7_isWord) (nL := 9) rfl rfl ?_
  show aWP _ _ (0, [some (.ref 84), some (.int k0), some (.int k1), some (.int k2), some (.int k3), some (.int k4), some (.int k5), some (.int k6), some (.int k7)], [], (HD, mi, ml, mr)) _
  refine wp_steps 1 (t' := (1, [some (.ref 84), some (.int k0), some (.int k1), some (.int k2), some (.int k3), some (.int k4), some (.int k5), some (.int k6), some (.int k7)], [.ref 84], (HD, mi, ml, mr))) rfl ?_
  refine wp_geti rfl ⟨by decide, rfl⟩ (Or.inr rfl) ?_
  refine wp_bI rfl (fun c_1 => ?_) (fun c_1 => ?_)
  · have c_1 : ¬ (mi 84 26) = 0 := of_decide_eq_true c_1
    exact absurd hb c_1
  have c_1 : (mi 84 26) = 0 := Decidable.not_not.mp (of_decide_eq_false c_1)
  refine wp_steps 1 (t' := (4, [some (.ref 84), some (.int k0), some (.int k1), some (.int k2), some (.int k3), some (.int k4), some (.int k5), some (.int k6), some (.int k7)], [.ref 84], (HD, mi, ml, mr))) rfl ?_
  refine wp_geti rfl ⟨by decide, rfl⟩ (Or.inl rfl) ?_
  refine wp_steps 1 (t' := (6, [some (.ref 84), some (.int k0), some (.int k1), some (.int k2), some (.int k3), some (.int k4), some (.int k5), some (.int k6), some (.int k7)], [.int 1, .int (mi 84 22)], (HD, mi, ml, mr))) rfl ?_
  refine wp_bC rfl (fun c_2 => ?_) (fun c_2 => ?_)
  rotate_left
  · have c_2 : (mi 84 22) = 1 := Decidable.not_not.mp (of_decide_eq_false c_2)
    exact absurd (a3.symm.trans c_2) ht
  have c_2 : ¬ (mi 84 22) = 1 := of_decide_eq_true c_2
  refine wp_steps 1 (t' := (57, [some (.ref 84), some (.int k0), some (.int k1), some (.int k2), some (.int k3), some (.int k4), some (.int k5), some (.int k6), some (.int k7)], [.int 0], (HD, mi, ml, mr))) rfl ?_
  refine wp_ret rfl rfl ⟨⟨Nat.le_refl _, Nat.le_refl _⟩, ?_⟩
  exact ⟨rfl, rfl⟩
set_option maxRecDepth 20000 in
set_option maxHeartbeats 1000000 in
theorem r_word_b {X : aXt × Value} {mi : Nat → Nat → Int32} {ml : Nat → Nat → Int64} {mr : Nat → Nat → Option Nat} (hb : ¬ mi 84 26 = 0) {k0 k1 k2 k3 k4 k5 k6 k7 : Int32} : aCW X 3 129 [.ref 84, .int k0, .int k1, .int k2, .int k3, .int k4, .int k5, .int k6, .int k7] (HD, mi, ml, mr) (rdI mi ml mr 0) := by
  refine cw_of (cd := cd_X7_isWord) (nL := 9) rfl rfl ?_
  show aWP _ _ (0, [some (.ref 84), some (.int k0), some (.int k1), some (.int k2), some (.int k3), some (.int k4), some (.int k5), some (.int k6), some (.int k7)], [], (HD, mi, ml, mr)) _
  refine wp_steps 1 (t' := (1, [some (.ref 84), some (.int k0), some (.int k1), some (.int k2), some (.int k3), some (.int k4), some (.int k5), some (.int k6), some (.int k7)], [.ref 84], (HD, mi, ml, mr))) rfl ?_
  refine wp_geti rfl ⟨by decide, rfl⟩ (Or.inr rfl) ?_
  refine wp_bI rfl (fun c_1 => ?_) (fun c_1 => ?_)
  rotate_left
  · have c_1 : (mi 84 26) = 0 := Decidable.not_not.mp (of_decide_eq_false c_1)
    exact absurd c_1 hb
  have c_1 : ¬ (mi 84 26) = 0 := of_decide_eq_true c_1
  refine wp_steps 1 (t' := (57, [some (.ref 84), some (.int k0), some (.int k1), some (.int k2), some (.int k3), some (.int k4), some (.int k5), some (.int k6), some (.int k7)], [.int 0], (HD, mi, ml, mr))) rfl ?_
  refine wp_ret rfl rfl ⟨⟨Nat.le_refl _, Nat.le_refl _⟩, ?_⟩
  exact ⟨rfl, rfl⟩
theorem rw_skill {X : aXt × Value} {mi : Nat → Nat → Int32} {ml : Nat → Nat → Int64} {mr : Nat → Nat → Option Nat} (hM : MRok mr) {b : Nat → Int32} {n t op : Nat} {s : pS} (h : RS b n t op mi ml s) : aCW X 3 129 [.ref 84, .int 115, .int 107, .int 105, .int 108, .int 108, .int 0, .int 0, .int 0] (HD, mi, ml, mr) (rdI mi ml mr (if s.2.2.1 = 10 then 1 else 0)) := by
  have e := h.2.2.1.2.2.1
  by_cases ht : rtF b n s.1 = 1
  · have q : iW b s.1 (lxE b n s.1) [115, 107, 105, 108, 108, 0, 0, 0] = true ↔ lxT b n s.1 = 10 := iw_skill ht
    have z := r_word (ml := ml) (X := X) hM h ht (k0 := 115) (k1 := 107) (k2 := 105) (k3 := 108) (k4 := 108) (k5 := 0) (k6 := 0) (k7 := 0)
    rw [e]
    by_cases y : lxT b n s.1 = 10
    · rw [if_pos y]
      rw [if_pos (q.mpr y)] at z
      exact z
    · rw [if_neg y]
      rw [if_neg (fun x => y (q.mp x))] at z
      exact z
  · rw [e, if_neg (nw_skill ht)]
    exact r_word_n hM h ht
theorem rw_hard {X : aXt × Value} {mi : Nat → Nat → Int32} {ml : Nat → Nat → Int64} {mr : Nat → Nat → Option Nat} (hM : MRok mr) {b : Nat → Int32} {n t op : Nat} {s : pS} (h : RS b n t op mi ml s) : aCW X 3 129 [.ref 84, .int 104, .int 97, .int 114, .int 100, .int 0, .int 0, .int 0, .int 0] (HD, mi, ml, mr) (rdI mi ml mr (if s.2.2.1 = 11 then 1 else 0)) := by
  have e := h.2.2.1.2.2.1
  by_cases ht : rtF b n s.1 = 1
  · have q : iW b s.1 (lxE b n s.1) [104, 97, 114, 100, 0, 0, 0, 0] = true ↔ lxT b n s.1 = 11 := iw_hard ht
    have z := r_word (ml := ml) (X := X) hM h ht (k0 := 104) (k1 := 97) (k2 := 114) (k3 := 100) (k4 := 0) (k5 := 0) (k6 := 0) (k7 := 0)
    rw [e]
    by_cases y : lxT b n s.1 = 11
    · rw [if_pos y]
      rw [if_pos (q.mpr y)] at z
      exact z
    · rw [if_neg y]
      rw [if_neg (fun x => y (q.mp x))] at z
      exact z
  · rw [e, if_neg (nw_hard ht)]
    exact r_word_n hM h ht
theorem rw_help {X : aXt × Value} {mi : Nat → Nat → Int32} {ml : Nat → Nat → Int64} {mr : Nat → Nat → Option Nat} (hM : MRok mr) {b : Nat → Int32} {n t op : Nat} {s : pS} (h : RS b n t op mi ml s) : aCW X 3 129 [.ref 84, .int 104, .int 101, .int 108, .int 112, .int 0, .int 0, .int 0, .int 0] (HD, mi, ml, mr) (rdI mi ml mr (if s.2.2.1 = 12 then 1 else 0)) := by
  have e := h.2.2.1.2.2.1
  by_cases ht : rtF b n s.1 = 1
  · have q : iW b s.1 (lxE b n s.1) [104, 101, 108, 112, 0, 0, 0, 0] = true ↔ lxT b n s.1 = 12 := iw_help ht
    have z := r_word (ml := ml) (X := X) hM h ht (k0 := 104) (k1 := 101) (k2 := 108) (k3 := 112) (k4 := 0) (k5 := 0) (k6 := 0) (k7 := 0)
    rw [e]
    by_cases y : lxT b n s.1 = 12
    · rw [if_pos y]
      rw [if_pos (q.mpr y)] at z
      exact z
    · rw [if_neg y]
      rw [if_neg (fun x => y (q.mp x))] at z
      exact z
  · rw [e, if_neg (nw_help ht)]
    exact r_word_n hM h ht
theorem rw_number {X : aXt × Value} {mi : Nat → Nat → Int32} {ml : Nat → Nat → Int64} {mr : Nat → Nat → Option Nat} (hM : MRok mr) {b : Nat → Int32} {n t op : Nat} {s : pS} (h : RS b n t op mi ml s) : aCW X 3 129 [.ref 84, .int 110, .int 117, .int 109, .int 98, .int 101, .int 114, .int 0, .int 0] (HD, mi, ml, mr) (rdI mi ml mr (if s.2.2.1 = 13 then 1 else 0)) := by
  have e := h.2.2.1.2.2.1
  by_cases ht : rtF b n s.1 = 1
  · have q : iW b s.1 (lxE b n s.1) [110, 117, 109, 98, 101, 114, 0, 0] = true ↔ lxT b n s.1 = 13 := iw_number ht
    have z := r_word (ml := ml) (X := X) hM h ht (k0 := 110) (k1 := 117) (k2 := 109) (k3 := 98) (k4 := 101) (k5 := 114) (k6 := 0) (k7 := 0)
    rw [e]
    by_cases y : lxT b n s.1 = 13
    · rw [if_pos y]
      rw [if_pos (q.mpr y)] at z
      exact z
    · rw [if_neg y]
      rw [if_neg (fun x => y (q.mp x))] at z
      exact z
  · rw [e, if_neg (nw_number ht)]
    exact r_word_n hM h ht
theorem rw_day {X : aXt × Value} {mi : Nat → Nat → Int32} {ml : Nat → Nat → Int64} {mr : Nat → Nat → Option Nat} (hM : MRok mr) {b : Nat → Int32} {n t op : Nat} {s : pS} (h : RS b n t op mi ml s) : aCW X 3 129 [.ref 84, .int 100, .int 97, .int 121, .int 0, .int 0, .int 0, .int 0, .int 0] (HD, mi, ml, mr) (rdI mi ml mr (if s.2.2.1 = 14 then 1 else 0)) := by
  have e := h.2.2.1.2.2.1
  by_cases ht : rtF b n s.1 = 1
  · have q : iW b s.1 (lxE b n s.1) [100, 97, 121, 0, 0, 0, 0, 0] = true ↔ lxT b n s.1 = 14 := iw_day ht
    have z := r_word (ml := ml) (X := X) hM h ht (k0 := 100) (k1 := 97) (k2 := 121) (k3 := 0) (k4 := 0) (k5 := 0) (k6 := 0) (k7 := 0)
    rw [e]
    by_cases y : lxT b n s.1 = 14
    · rw [if_pos y]
      rw [if_pos (q.mpr y)] at z
      exact z
    · rw [if_neg y]
      rw [if_neg (fun x => y (q.mp x))] at z
      exact z
  · rw [e, if_neg (nw_day ht)]
    exact r_word_n hM h ht
theorem rw_done {X : aXt × Value} {mi : Nat → Nat → Int32} {ml : Nat → Nat → Int64} {mr : Nat → Nat → Option Nat} (hM : MRok mr) {b : Nat → Int32} {n t op : Nat} {s : pS} (h : RS b n t op mi ml s) : aCW X 3 129 [.ref 84, .int 100, .int 111, .int 110, .int 101, .int 0, .int 0, .int 0, .int 0] (HD, mi, ml, mr) (rdI mi ml mr (if s.2.2.1 = 15 then 1 else 0)) := by
  have e := h.2.2.1.2.2.1
  by_cases ht : rtF b n s.1 = 1
  · have q : iW b s.1 (lxE b n s.1) [100, 111, 110, 101, 0, 0, 0, 0] = true ↔ lxT b n s.1 = 15 := iw_done ht
    have z := r_word (ml := ml) (X := X) hM h ht (k0 := 100) (k1 := 111) (k2 := 110) (k3 := 101) (k4 := 0) (k5 := 0) (k6 := 0) (k7 := 0)
    rw [e]
    by_cases y : lxT b n s.1 = 15
    · rw [if_pos y]
      rw [if_pos (q.mpr y)] at z
      exact z
    · rw [if_neg y]
      rw [if_neg (fun x => y (q.mp x))] at z
      exact z
  · rw [e, if_neg (nw_done ht)]
    exact r_word_n hM h ht
theorem rw_teaches {X : aXt × Value} {mi : Nat → Nat → Int32} {ml : Nat → Nat → Int64} {mr : Nat → Nat → Option Nat} (hM : MRok mr) {b : Nat → Int32} {n t op : Nat} {s : pS} (h : RS b n t op mi ml s) : aCW X 3 129 [.ref 84, .int 116, .int 101, .int 97, .int 99, .int 104, .int 101, .int 115, .int 0] (HD, mi, ml, mr) (rdI mi ml mr (if s.2.2.1 = 3 then 1 else 0)) := by
  have e := h.2.2.1.2.2.1
  by_cases ht : rtF b n s.1 = 1
  · have q : iW b s.1 (lxE b n s.1) [116, 101, 97, 99, 104, 101, 115, 0] = true ↔ lxT b n s.1 = 3 := iw_teaches ht
    have z := r_word (ml := ml) (X := X) hM h ht (k0 := 116) (k1 := 101) (k2 := 97) (k3 := 99) (k4 := 104) (k5 := 101) (k6 := 115) (k7 := 0)
    rw [e]
    by_cases y : lxT b n s.1 = 3
    · rw [if_pos y]
      rw [if_pos (q.mpr y)] at z
      exact z
    · rw [if_neg y]
      rw [if_neg (fun x => y (q.mp x))] at z
      exact z
  · rw [e, if_neg (nw_teaches ht)]
    exact r_word_n hM h ht
theorem rw_fades {X : aXt × Value} {mi : Nat → Nat → Int32} {ml : Nat → Nat → Int64} {mr : Nat → Nat → Option Nat} (hM : MRok mr) {b : Nat → Int32} {n t op : Nat} {s : pS} (h : RS b n t op mi ml s) : aCW X 3 129 [.ref 84, .int 102, .int 97, .int 100, .int 101, .int 115, .int 0, .int 0, .int 0] (HD, mi, ml, mr) (rdI mi ml mr (if s.2.2.1 = 4 then 1 else 0)) := by
  have e := h.2.2.1.2.2.1
  by_cases ht : rtF b n s.1 = 1
  · have q : iW b s.1 (lxE b n s.1) [102, 97, 100, 101, 115, 0, 0, 0] = true ↔ lxT b n s.1 = 4 := iw_fades ht
    have z := r_word (ml := ml) (X := X) hM h ht (k0 := 102) (k1 := 97) (k2 := 100) (k3 := 101) (k4 := 115) (k5 := 0) (k6 := 0) (k7 := 0)
    rw [e]
    by_cases y : lxT b n s.1 = 4
    · rw [if_pos y]
      rw [if_pos (q.mpr y)] at z
      exact z
    · rw [if_neg y]
      rw [if_neg (fun x => y (q.mp x))] at z
      exact z
  · rw [e, if_neg (nw_fades ht)]
    exact r_word_n hM h ht
theorem rw_nerves {X : aXt × Value} {mi : Nat → Nat → Int32} {ml : Nat → Nat → Int64} {mr : Nat → Nat → Option Nat} (hM : MRok mr) {b : Nat → Int32} {n t op : Nat} {s : pS} (h : RS b n t op mi ml s) : aCW X 3 129 [.ref 84, .int 110, .int 101, .int 114, .int 118, .int 101, .int 115, .int 0, .int 0] (HD, mi, ml, mr) (rdI mi ml mr (if s.2.2.1 = 5 then 1 else 0)) := by
  have e := h.2.2.1.2.2.1
  by_cases ht : rtF b n s.1 = 1
  · have q : iW b s.1 (lxE b n s.1) [110, 101, 114, 118, 101, 115, 0, 0] = true ↔ lxT b n s.1 = 5 := iw_nerves ht
    have z := r_word (ml := ml) (X := X) hM h ht (k0 := 110) (k1 := 101) (k2 := 114) (k3 := 118) (k4 := 101) (k5 := 115) (k6 := 0) (k7 := 0)
    rw [e]
    by_cases y : lxT b n s.1 = 5
    · rw [if_pos y]
      rw [if_pos (q.mpr y)] at z
      exact z
    · rw [if_neg y]
      rw [if_neg (fun x => y (q.mp x))] at z
      exact z
  · rw [e, if_neg (nw_nerves ht)]
    exact r_word_n hM h ht
theorem rw_or {X : aXt × Value} {mi : Nat → Nat → Int32} {ml : Nat → Nat → Int64} {mr : Nat → Nat → Option Nat} (hM : MRok mr) {b : Nat → Int32} {n t op : Nat} {s : pS} (h : RS b n t op mi ml s) : aCW X 3 129 [.ref 84, .int 111, .int 114, .int 0, .int 0, .int 0, .int 0, .int 0, .int 0] (HD, mi, ml, mr) (rdI mi ml mr (if s.2.2.1 = 6 then 1 else 0)) := by
  have e := h.2.2.1.2.2.1
  by_cases ht : rtF b n s.1 = 1
  · have q : iW b s.1 (lxE b n s.1) [111, 114, 0, 0, 0, 0, 0, 0] = true ↔ lxT b n s.1 = 6 := iw_or ht
    have z := r_word (ml := ml) (X := X) hM h ht (k0 := 111) (k1 := 114) (k2 := 0) (k3 := 0) (k4 := 0) (k5 := 0) (k6 := 0) (k7 := 0)
    rw [e]
    by_cases y : lxT b n s.1 = 6
    · rw [if_pos y]
      rw [if_pos (q.mpr y)] at z
      exact z
    · rw [if_neg y]
      rw [if_neg (fun x => y (q.mp x))] at z
      exact z
  · rw [e, if_neg (nw_or ht)]
    exact r_word_n hM h ht
theorem rw_and {X : aXt × Value} {mi : Nat → Nat → Int32} {ml : Nat → Nat → Int64} {mr : Nat → Nat → Option Nat} (hM : MRok mr) {b : Nat → Int32} {n t op : Nat} {s : pS} (h : RS b n t op mi ml s) : aCW X 3 129 [.ref 84, .int 97, .int 110, .int 100, .int 0, .int 0, .int 0, .int 0, .int 0] (HD, mi, ml, mr) (rdI mi ml mr (if s.2.2.1 = 7 then 1 else 0)) := by
  have e := h.2.2.1.2.2.1
  by_cases ht : rtF b n s.1 = 1
  · have q : iW b s.1 (lxE b n s.1) [97, 110, 100, 0, 0, 0, 0, 0] = true ↔ lxT b n s.1 = 7 := iw_and ht
    have z := r_word (ml := ml) (X := X) hM h ht (k0 := 97) (k1 := 110) (k2 := 100) (k3 := 0) (k4 := 0) (k5 := 0) (k6 := 0) (k7 := 0)
    rw [e]
    by_cases y : lxT b n s.1 = 7
    · rw [if_pos y]
      rw [if_pos (q.mpr y)] at z
      exact z
    · rw [if_neg y]
      rw [if_neg (fun x => y (q.mp x))] at z
      exact z
  · rw [e, if_neg (nw_and ht)]
    exact r_word_n hM h ht
theorem rw_not {X : aXt × Value} {mi : Nat → Nat → Int32} {ml : Nat → Nat → Int64} {mr : Nat → Nat → Option Nat} (hM : MRok mr) {b : Nat → Int32} {n t op : Nat} {s : pS} (h : RS b n t op mi ml s) : aCW X 3 129 [.ref 84, .int 110, .int 111, .int 116, .int 0, .int 0, .int 0, .int 0, .int 0] (HD, mi, ml, mr) (rdI mi ml mr (if s.2.2.1 = 8 then 1 else 0)) := by
  have e := h.2.2.1.2.2.1
  by_cases ht : rtF b n s.1 = 1
  · have q : iW b s.1 (lxE b n s.1) [110, 111, 116, 0, 0, 0, 0, 0] = true ↔ lxT b n s.1 = 8 := iw_not ht
    have z := r_word (ml := ml) (X := X) hM h ht (k0 := 110) (k1 := 111) (k2 := 116) (k3 := 0) (k4 := 0) (k5 := 0) (k6 := 0) (k7 := 0)
    rw [e]
    by_cases y : lxT b n s.1 = 8
    · rw [if_pos y]
      rw [if_pos (q.mpr y)] at z
      exact z
    · rw [if_neg y]
      rw [if_neg (fun x => y (q.mp x))] at z
      exact z
  · rw [e, if_neg (nw_not ht)]
    exact r_word_n hM h ht
set_option maxRecDepth 20000 in
set_option maxHeartbeats 1000000 in
theorem r_fail {X : aXt × Value} {mi : Nat → Nat → Int32} {ml : Nat → Nat → Int64} {mr : Nat → Nat → Option Nat} (hM : MRok mr) {b : Nat → Int32} {n t op : Nat} {s : pS} (h : RS b n t op mi ml s) : aCW X 1 127 [.ref 84] (HD, mi, ml, mr) (fun r h' => r = none ∧ ∃ m', h' = (HD, m', ml, mr) ∧ frR mi m' ∧ RF b n t m' s.1) := by
  obtain ⟨hB, ⟨a1, a2, a3, a4, a5, a6⟩, hc, ho, hb⟩ := h
  refine cw_of (cd := cd_X7_fail) (nL := 1) rfl rfl ?_
  show aWP _ _ (0, [some (.ref 84)], [], (HD, mi, ml, mr)) _
  refine wp_steps 1 (t' := (1, [some (.ref 84)], [.ref 84], (HD, mi, ml, mr))) rfl ?_
  refine wp_geti rfl ⟨by decide, rfl⟩ (Or.inr rfl) ?_
  refine wp_bI rfl (fun c_1 => ?_) (fun c_1 => ?_)
  · have c_1 : ¬ (mi 84 26) = 0 := of_decide_eq_true c_1
    exact absurd hb c_1
  have c_1 : (mi 84 26) = 0 := Decidable.not_not.mp (of_decide_eq_false c_1)
  refine wp_steps 2 (t' := (5, [some (.ref 84)], [.int 1, .ref 84], (HD, mi, ml, mr))) rfl ?_
  refine wp_putz rfl ⟨by decide, rfl⟩ rfl (by decide) (fun m_2 h_3 => ?_)
  subst h_3
  refine wp_steps 2 (t' := (8, [some (.ref 84)], [.ref 84, .ref 84], (HD, (aup mi 84 26 1), ml, mr))) rfl ?_
  refine wp_geti rfl ⟨by decide, rfl⟩ (Or.inl rfl) ?_
  refine wp_puti rfl ⟨by decide, rfl⟩ rfl (fun m_4 h_5 => ?_)
  subst h_5
  refine wp_ret rfl rfl ⟨⟨Nat.le_refl _, Nat.le_refl _⟩, ?_⟩
  have f : frR mi (aup (aup mi 84 26 1) 84 27 ((aup mi 84 26 1) 84 23)) := (frR.rf mi).tr (frR.up (by decide) (by decide) _) |>.tr (frR.up (by decide) (by decide) _)
  exact ⟨rfl, _, rfl, f, hB.fr f, by simp [aup], by rw [← a2]; simp [aup]⟩
set_option maxRecDepth 20000 in
set_option maxHeartbeats 1000000 in
theorem r_fail_b {X : aXt × Value} {mi : Nat → Nat → Int32} {ml : Nat → Nat → Int64} {mr : Nat → Nat → Option Nat} (hb : ¬ mi 84 26 = 0) : aCW X 1 127 [.ref 84] (HD, mi, ml, mr) (fun r h' => r = none ∧ h' = (HD, mi, ml, mr)) := by
  refine cw_of (cd := cd_X7_fail) (nL := 1) rfl rfl ?_
  show aWP _ _ (0, [some (.ref 84)], [], (HD, mi, ml, mr)) _
  refine wp_steps 1 (t' := (1, [some (.ref 84)], [.ref 84], (HD, mi, ml, mr))) rfl ?_
  refine wp_geti rfl ⟨by decide, rfl⟩ (Or.inr rfl) ?_
  refine wp_bI rfl (fun c_1 => ?_) (fun c_1 => ?_)
  rotate_left
  · have c_1 : (mi 84 26) = 0 := Decidable.not_not.mp (of_decide_eq_false c_1)
    exact absurd c_1 hb
  have c_1 : ¬ (mi 84 26) = 0 := of_decide_eq_true c_1
  refine wp_ret rfl rfl ⟨⟨Nat.le_refl _, Nat.le_refl _⟩, ?_⟩
  exact ⟨rfl, rfl⟩
theorem RS.op {b : Nat → Int32} {n t op : Nat} {m : Nat → Nat → Int32} {w : Nat → Nat → Int64} {s : pS} (h : RS b n t op m w s) (o : Nat) : RS b n t o (aup m 84 25 (nI o)) w s := by
  obtain ⟨hB, ⟨a1, a2, a3, a4, a5, a6⟩, hc, ho, hb⟩ := h
  refine ⟨hB.up (by decide) _, ⟨a1, ?_, ?_, fun z => ?_, a5, a6⟩, hc, by simp [aup], ?_⟩
  · rw [← a2]; simp [aup]
  · rw [← a3]; simp [aup]
  · rw [← a4 z]; simp [aup]
  · rw [← hb]; simp [aup]
set_option maxRecDepth 20000 in
set_option maxHeartbeats 1000000 in
theorem r_opens {X : aXt × Value} {mi : Nat → Nat → Int32} {ml : Nat → Nat → Int64} {mr : Nat → Nat → Option Nat} (hM : MRok mr) {b : Nat → Int32} {n t op : Nat} {s : pS} (h : RS b n t op mi ml s) (hnn : nnB b n) (h4 : ¬ lxT b n s.1 = 1) (ho : op < 5) : aCW X 4 131 [.ref 84] (HD, mi, ml, mr) (fun r h' => r = some (.int 1) ∧ ∃ m' w', h' = (HD, m', w', mr) ∧ frR mi m' ∧ RS b n t (op + 1) m' w' (stP b n s)) := by
  refine cw_of (cd := cd_X7_opens) (nL := 1) rfl rfl ?_
  show aWP _ _ (0, [some (.ref 84)], [], (HD, mi, ml, mr)) _
  refine wp_steps 1 (t' := (1, [some (.ref 84)], [.ref 84], (HD, mi, ml, mr))) rfl ?_
  refine wp_geti rfl ⟨by decide, rfl⟩ (Or.inl rfl) ?_
  rw [h.2.2.2.1]
  refine wp_steps 1 (t' := (3, [some (.ref 84)], [.int 5, .int (nI op)], (HD, mi, ml, mr))) rfl ?_
  refine wp_bC rfl (fun c_1 => ?_) (fun c_1 => ?_)
  rotate_left
  · have c_1 : (nI op) = 5 := Decidable.not_not.mp (of_decide_eq_false c_1)
    have z : op = 5 := (nI_eq (a := op) (b := 5) (by omega) (by decide)).mp c_1
    omega
  have c_1 : ¬ (nI op) = 5 := of_decide_eq_true c_1
  refine wp_steps 2 (t' := (10, [some (.ref 84)], [.ref 84, .ref 84], (HD, mi, ml, mr))) rfl ?_
  refine wp_geti rfl ⟨by decide, rfl⟩ (Or.inl rfl) ?_
  rw [h.2.2.2.1]
  refine wp_steps 2 (t' := (13, [some (.ref 84)], [.int ((nI op) + 1), .ref 84], (HD, mi, ml, mr))) rfl ?_
  rw [nI_1]
  refine wp_puti rfl ⟨by decide, rfl⟩ rfl (fun m_2 h_3 => ?_)
  subst h_3
  refine wp_steps 1 (t' := (15, [some (.ref 84)], [.ref 84], (HD, (aup mi 84 25 (nI (op + 1))), ml, mr))) rfl ?_
  refine wp_calv (as := []) rfl rfl rfl (Nat.le_of_ble_eq_true rfl) ⟨by decide, rfl⟩ ((r_next (ml := ml) hM (h.op (op + 1)) hnn h4)) (by decide) ?_
  rintro _ _ ⟨rfl, m', w', rfl, f1, h1⟩
  show aWP _ _ (16, [some (.ref 84)], [], (HD, m', w', mr)) _
  refine wp_steps 1 (t' := (17, [some (.ref 84)], [.int 1], (HD, m', w', mr))) rfl ?_
  refine wp_ret rfl rfl ⟨⟨Nat.le_refl _, Nat.le_refl _⟩, ?_⟩
  exact ⟨rfl, m', w', rfl, (frR.up (by decide) (by decide) _).tr f1, h1⟩
set_option maxRecDepth 20000 in
set_option maxHeartbeats 1000000 in
theorem r_opens_f {X : aXt × Value} {mi : Nat → Nat → Int32} {ml : Nat → Nat → Int64} {mr : Nat → Nat → Option Nat} (hM : MRok mr) {b : Nat → Int32} {n t op : Nat} {s : pS} (h : RS b n t op mi ml s) (ho : op = 5) : aCW X 4 131 [.ref 84] (HD, mi, ml, mr) (fun r h' => r = some (.int 0) ∧ ∃ m', h' = (HD, m', ml, mr) ∧ frR mi m' ∧ RF b n t m' s.1) := by
  refine cw_of (cd := cd_X7_opens) (nL := 1) rfl rfl ?_
  show aWP _ _ (0, [some (.ref 84)], [], (HD, mi, ml, mr)) _
  refine wp_steps 1 (t' := (1, [some (.ref 84)], [.ref 84], (HD, mi, ml, mr))) rfl ?_
  refine wp_geti rfl ⟨by decide, rfl⟩ (Or.inl rfl) ?_
  rw [h.2.2.2.1]
  refine wp_steps 1 (t' := (3, [some (.ref 84)], [.int 5, .int (nI op)], (HD, mi, ml, mr))) rfl ?_
  refine wp_bC rfl (fun c_1 => ?_) (fun c_1 => ?_)
  · have c_1 : ¬ (nI op) = 5 := of_decide_eq_true c_1
    exact absurd (show nI op = 5 by rw [ho]; rfl) c_1
  have c_1 : (nI op) = 5 := Decidable.not_not.mp (of_decide_eq_false c_1)
  refine wp_steps 1 (t' := (5, [some (.ref 84)], [.ref 84], (HD, mi, ml, mr))) rfl ?_
  refine wp_calv (as := []) rfl rfl rfl (Nat.le_of_ble_eq_true rfl) ⟨by decide, rfl⟩ ((r_fail (ml := ml) hM h)) (by decide) ?_
  rintro _ _ ⟨rfl, m', rfl, f1, h1⟩
  show aWP _ _ (6, [some (.ref 84)], [], (HD, m', ml, mr)) _
  refine wp_steps 1 (t' := (7, [some (.ref 84)], [.int 0], (HD, m', ml, mr))) rfl ?_
  refine wp_ret rfl rfl ⟨⟨Nat.le_refl _, Nat.le_refl _⟩, ?_⟩
  exact ⟨rfl, m', rfl, f1, h1⟩
set_option maxRecDepth 20000 in
set_option maxHeartbeats 1000000 in
theorem r_name {X : aXt × Value} {mi : Nat → Nat → Int32} {ml : Nat → Nat → Int64} {mr : Nat → Nat → Option Nat} (hM : MRok mr) {b : Nat → Int32} {n t op : Nat} {s : pS} (h : RS b n t op mi ml s) : aCW X 4 132 [.ref 84] (HD, mi, ml, mr) (fun r h' => ∃ v m', r = some (.int v) ∧ h' = (HD, m', ml, mr) ∧ ((s.2.2.1 = 10 ∨ s.2.2.1 = 11 ∨ s.2.2.1 = 12 ∨ s.2.2.1 = 13 ∨ s.2.2.1 = 14 ∨ s.2.2.1 = 15) → m' = mi ∧ v = mi 84 (s.2.2.1 + 3).toNatClampNeg) ∧ (¬ (s.2.2.1 = 10 ∨ s.2.2.1 = 11 ∨ s.2.2.1 = 12 ∨ s.2.2.1 = 13 ∨ s.2.2.1 = 14 ∨ s.2.2.1 = 15) → frR mi m' ∧ RF b n t m' s.1)) := by
  refine cw_of (cd := cd_X7_name) (nL := 1) rfl rfl ?_
  show aWP _ _ (0, [some (.ref 84)], [], (HD, mi, ml, mr)) _
  refine wp_steps 9 (t' := (9, [some (.ref 84)], [.int 0, .int 0, .int 0, .int 108, .int 108, .int 105, .int 107, .int 115, .ref 84], (HD, mi, ml, mr))) rfl ?_
  refine wp_calv (as := [.int 115, .int 107, .int 105, .int 108, .int 108, .int 0, .int 0, .int 0]) rfl rfl rfl (Nat.le_of_ble_eq_true rfl) ⟨by decide, rfl⟩ ((rw_skill (ml := ml) hM h)) (by decide) ?_
  rintro _ _ ⟨rfl, rfl⟩
  show aWP _ _ (10, [some (.ref 84)], [.int (if s.2.2.1 = 10 then (1 : Int32) else 0)], (HD, mi, ml, mr)) _
  refine wp_bI rfl (fun c_1 => ?_) (fun c_1 => ?_)
  · have c_1 : (if s.2.2.1 = 10 then (1 : Int32) else 0) = 0 := of_decide_eq_true c_1
    refine wp_steps 9 (t' := (23, [some (.ref 84)], [.int 0, .int 0, .int 0, .int 0, .int 100, .int 114, .int 97, .int 104, .ref 84], (HD, mi, ml, mr))) rfl ?_
    refine wp_calv (as := [.int 104, .int 97, .int 114, .int 100, .int 0, .int 0, .int 0, .int 0]) rfl rfl rfl (Nat.le_of_ble_eq_true rfl) ⟨by decide, rfl⟩ ((rw_hard (ml := ml) hM h)) (by decide) ?_
    rintro _ _ ⟨rfl, rfl⟩
    show aWP _ _ (24, [some (.ref 84)], [.int (if s.2.2.1 = 11 then (1 : Int32) else 0)], (HD, mi, ml, mr)) _
    refine wp_bI rfl (fun c_2 => ?_) (fun c_2 => ?_)
    · have c_2 : (if s.2.2.1 = 11 then (1 : Int32) else 0) = 0 := of_decide_eq_true c_2
      refine wp_steps 9 (t' := (37, [some (.ref 84)], [.int 0, .int 0, .int 0, .int 0, .int 112, .int 108, .int 101, .int 104, .ref 84], (HD, mi, ml, mr))) rfl ?_
      refine wp_calv (as := [.int 104, .int 101, .int 108, .int 112, .int 0, .int 0, .int 0, .int 0]) rfl rfl rfl (Nat.le_of_ble_eq_true rfl) ⟨by decide, rfl⟩ ((rw_help (ml := ml) hM h)) (by decide) ?_
      rintro _ _ ⟨rfl, rfl⟩
      show aWP _ _ (38, [some (.ref 84)], [.int (if s.2.2.1 = 12 then (1 : Int32) else 0)], (HD, mi, ml, mr)) _
      refine wp_bI rfl (fun c_3 => ?_) (fun c_3 => ?_)
      · have c_3 : (if s.2.2.1 = 12 then (1 : Int32) else 0) = 0 := of_decide_eq_true c_3
        refine wp_steps 9 (t' := (51, [some (.ref 84)], [.int 0, .int 0, .int 114, .int 101, .int 98, .int 109, .int 117, .int 110, .ref 84], (HD, mi, ml, mr))) rfl ?_
        refine wp_calv (as := [.int 110, .int 117, .int 109, .int 98, .int 101, .int 114, .int 0, .int 0]) rfl rfl rfl (Nat.le_of_ble_eq_true rfl) ⟨by decide, rfl⟩ ((rw_number (ml := ml) hM h)) (by decide) ?_
        rintro _ _ ⟨rfl, rfl⟩
        show aWP _ _ (52, [some (.ref 84)], [.int (if s.2.2.1 = 13 then (1 : Int32) else 0)], (HD, mi, ml, mr)) _
        refine wp_bI rfl (fun c_4 => ?_) (fun c_4 => ?_)
        · have c_4 : (if s.2.2.1 = 13 then (1 : Int32) else 0) = 0 := of_decide_eq_true c_4
          refine wp_steps 9 (t' := (65, [some (.ref 84)], [.int 0, .int 0, .int 0, .int 0, .int 0, .int 121, .int 97, .int 100, .ref 84], (HD, mi, ml, mr))) rfl ?_
          refine wp_calv (as := [.int 100, .int 97, .int 121, .int 0, .int 0, .int 0, .int 0, .int 0]) rfl rfl rfl (Nat.le_of_ble_eq_true rfl) ⟨by decide, rfl⟩ ((rw_day (ml := ml) hM h)) (by decide) ?_
          rintro _ _ ⟨rfl, rfl⟩
          show aWP _ _ (66, [some (.ref 84)], [.int (if s.2.2.1 = 14 then (1 : Int32) else 0)], (HD, mi, ml, mr)) _
          refine wp_bI rfl (fun c_5 => ?_) (fun c_5 => ?_)
          · have c_5 : (if s.2.2.1 = 14 then (1 : Int32) else 0) = 0 := of_decide_eq_true c_5
            refine wp_steps 9 (t' := (79, [some (.ref 84)], [.int 0, .int 0, .int 0, .int 0, .int 101, .int 110, .int 111, .int 100, .ref 84], (HD, mi, ml, mr))) rfl ?_
            refine wp_calv (as := [.int 100, .int 111, .int 110, .int 101, .int 0, .int 0, .int 0, .int 0]) rfl rfl rfl (Nat.le_of_ble_eq_true rfl) ⟨by decide, rfl⟩ ((rw_done (ml := ml) hM h)) (by decide) ?_
            rintro _ _ ⟨rfl, rfl⟩
            show aWP _ _ (80, [some (.ref 84)], [.int (if s.2.2.1 = 15 then (1 : Int32) else 0)], (HD, mi, ml, mr)) _
            refine wp_bI rfl (fun c_6 => ?_) (fun c_6 => ?_)
            · have c_6 : (if s.2.2.1 = 15 then (1 : Int32) else 0) = 0 := of_decide_eq_true c_6
              refine wp_steps 1 (t' := (85, [some (.ref 84)], [.ref 84], (HD, mi, ml, mr))) rfl ?_
              refine wp_calv (as := []) rfl rfl rfl (Nat.le_of_ble_eq_true rfl) ⟨by decide, rfl⟩ ((r_fail (ml := ml) hM h)) (by decide) ?_
              rintro _ _ ⟨rfl, m', rfl, f1, h1⟩
              show aWP _ _ (86, [some (.ref 84)], [], (HD, m', ml, mr)) _
              refine wp_steps 1 (t' := (87, [some (.ref 84)], [.int 0], (HD, m', ml, mr))) rfl ?_
              refine wp_ret rfl rfl ⟨⟨Nat.le_refl _, Nat.le_refl _⟩, ?_⟩
              refine ⟨0, m', rfl, rfl, fun z => ?_, fun _ => ⟨f1, h1⟩⟩
              exfalso
              rcases z with z | z | z | z | z | z
              · exact i0_f c_1 z
              · exact i0_f c_2 z
              · exact i0_f c_3 z
              · exact i0_f c_4 z
              · exact i0_f c_5 z
              · exact i0_f c_6 z
            · have c_6 : ¬ ((if s.2.2.1 = 15 then (1 : Int32) else 0) = 0) := of_decide_eq_false c_6
              refine wp_steps 1 (t' := (82, [some (.ref 84)], [.ref 84], (HD, mi, ml, mr))) rfl ?_
              refine wp_geti rfl ⟨by decide, rfl⟩ (Or.inl rfl) ?_
              refine wp_ret rfl rfl ⟨⟨Nat.le_refl _, Nat.le_refl _⟩, ?_⟩
              have q := i0_t c_6
              refine ⟨_, mi, rfl, rfl, fun _ => ⟨rfl, ?_⟩, fun z => absurd q (fun y => z (Or.inr (Or.inr (Or.inr (Or.inr (Or.inr y))))))⟩
              rw [q]; rfl
          · have c_5 : ¬ ((if s.2.2.1 = 14 then (1 : Int32) else 0) = 0) := of_decide_eq_false c_5
            refine wp_steps 1 (t' := (68, [some (.ref 84)], [.ref 84], (HD, mi, ml, mr))) rfl ?_
            refine wp_geti rfl ⟨by decide, rfl⟩ (Or.inl rfl) ?_
            refine wp_ret rfl rfl ⟨⟨Nat.le_refl _, Nat.le_refl _⟩, ?_⟩
            have q := i0_t c_5
            refine ⟨_, mi, rfl, rfl, fun _ => ⟨rfl, ?_⟩, fun z => absurd q (fun y => z (Or.inr (Or.inr (Or.inr (Or.inr (Or.inl y))))))⟩
            rw [q]; rfl
        · have c_4 : ¬ ((if s.2.2.1 = 13 then (1 : Int32) else 0) = 0) := of_decide_eq_false c_4
          refine wp_steps 1 (t' := (54, [some (.ref 84)], [.ref 84], (HD, mi, ml, mr))) rfl ?_
          refine wp_geti rfl ⟨by decide, rfl⟩ (Or.inl rfl) ?_
          refine wp_ret rfl rfl ⟨⟨Nat.le_refl _, Nat.le_refl _⟩, ?_⟩
          have q := i0_t c_4
          refine ⟨_, mi, rfl, rfl, fun _ => ⟨rfl, ?_⟩, fun z => absurd q (fun y => z (Or.inr (Or.inr (Or.inr (Or.inl y)))))⟩
          rw [q]; rfl
      · have c_3 : ¬ ((if s.2.2.1 = 12 then (1 : Int32) else 0) = 0) := of_decide_eq_false c_3
        refine wp_steps 1 (t' := (40, [some (.ref 84)], [.ref 84], (HD, mi, ml, mr))) rfl ?_
        refine wp_geti rfl ⟨by decide, rfl⟩ (Or.inl rfl) ?_
        refine wp_ret rfl rfl ⟨⟨Nat.le_refl _, Nat.le_refl _⟩, ?_⟩
        have q := i0_t c_3
        refine ⟨_, mi, rfl, rfl, fun _ => ⟨rfl, ?_⟩, fun z => absurd q (fun y => z (Or.inr (Or.inr (Or.inl y))))⟩
        rw [q]; rfl
    · have c_2 : ¬ ((if s.2.2.1 = 11 then (1 : Int32) else 0) = 0) := of_decide_eq_false c_2
      refine wp_steps 1 (t' := (26, [some (.ref 84)], [.ref 84], (HD, mi, ml, mr))) rfl ?_
      refine wp_geti rfl ⟨by decide, rfl⟩ (Or.inl rfl) ?_
      refine wp_ret rfl rfl ⟨⟨Nat.le_refl _, Nat.le_refl _⟩, ?_⟩
      have q := i0_t c_2
      refine ⟨_, mi, rfl, rfl, fun _ => ⟨rfl, ?_⟩, fun z => absurd q (fun y => z (Or.inr (Or.inl y)))⟩
      rw [q]; rfl
  · have c_1 : ¬ ((if s.2.2.1 = 10 then (1 : Int32) else 0) = 0) := of_decide_eq_false c_1
    refine wp_steps 1 (t' := (12, [some (.ref 84)], [.ref 84], (HD, mi, ml, mr))) rfl ?_
    refine wp_geti rfl ⟨by decide, rfl⟩ (Or.inl rfl) ?_
    refine wp_ret rfl rfl ⟨⟨Nat.le_refl _, Nat.le_refl _⟩, ?_⟩
    have q := i0_t c_1
    refine ⟨_, mi, rfl, rfl, fun _ => ⟨rfl, ?_⟩, fun z => absurd q (fun y => z (Or.inl y))⟩
    rw [q]; rfl
