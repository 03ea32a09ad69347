/-! the thought: rows of hours (written by wip/whole/mkthi4.py) -/
/-- row, managed, bumps -/
abbrev aRw := Int32 × Int32 × Int32
def trB (t : tW) (b0 : Int32) (u : pU) (dg : Int32) (a : aRw) : aRw := if a.2.1 < nI (mnG t u) then (dg, nI (mnG t u), u.2.2.2.1 - b0) else a
def trL (F : pU → Int32 → aRw → aRw) (t : tW) (hp : Int32) (u : pU) (dg : Int32) : Nat → Nat → aRw → aRw
  | 0, _, a => a
  | g + 1, s, a => trL F t hp u dg g (s + 1) (F (hrG t u s hp) (10 * dg + nI s + 1) a)
def trG (t : tW) (hp b0 : Int32) : Nat → pU → Int32 → aRw → aRw
  | 0, u, dg, a => trB t b0 u dg a
  | r + 1, u, dg, a => trL (trG t hp b0 r) t hp u dg 8 0 a
def RW (ρ : Nat) (c0 c1 c2 : List Int32) (mi m : Nat → Nat → Int32) (t : tW) (b0 : Int32) (a : aRw) : Prop := frm UCL mi m ∧ TXok m ρ c0 c1 c2 ∧ twC m 73 c0 c1 c2 = t ∧ m 70 3 = b0 ∧ m 69 2 = a.1 ∧ m 69 3 = a.2.1 ∧ m 69 4 = a.2.2
theorem RW.fr {ρ : Nat} {c0 c1 c2 : List Int32} {mi m m' : Nat → Nat → Int32} {t : tW} {b0 : Int32} {a : aRw} (h : RW ρ c0 c1 c2 mi m t b0 a) {S : List Nat} (f : frm S m m') (hS : (∀ k ∈ S, k ∈ UCL) ∧ ρ + 1 ∉ S ∧ ρ + 2 ∉ S ∧ 73 ∉ S ∧ 73 + 1 ∉ S ∧ 70 ∉ S ∧ 69 ∉ S) : RW ρ c0 c1 c2 mi m' t b0 a := by
  obtain ⟨a1, a2, a3, a4, a5, a6, a7⟩ := h
  obtain ⟨s1, s2, s3, s4, s5, s6, s7⟩ := hS
  exact ⟨a1.tr (f.wk s1), TXok_fr f a2 s2 s3, (twC_fr f s4 s5).trans a3, (f _ _ s6).trans a4, (f _ _ s7).trans a5, (f _ _ s7).trans a6, (f _ _ s7).trans a7⟩
theorem row_frm {m : Nat → Nat → Int32} {x y z : Int32} : frm [69] m (aup (aup (aup m 69 3 y) 69 2 x) 69 4 z) := fun k j q => by
  have : k ≠ 69 := fun z => q (by rw [z]; exact List.mem_cons_self ..)
  simp [aup, this]
theorem RW.row {ρ : Nat} {c0 c1 c2 : List Int32} {mi m : Nat → Nat → Int32} {t : tW} {b0 : Int32} {a : aRw} (h : RW ρ c0 c1 c2 mi m t b0 a) (hρ : ρ ∈ TXS) {x y z : Int32} : RW ρ c0 c1 c2 mi (aup (aup (aup m 69 3 y) 69 2 x) 69 4 z) t b0 (x, y, z) := by
  have f : frm [69] m (aup (aup (aup m 69 3 y) 69 2 x) 69 4 z) := fun k j q => by
    have : k ≠ 69 := fun z => q (by rw [z]; exact List.mem_cons_self ..)
    simp [aup, this]
  have q2 : ρ + 1 ∉ [69] ∧ ρ + 2 ∉ [69] := by
    clear f h
    revert ρ
    decide
  obtain ⟨a1, a2, a3, a4, a5, a6, a7⟩ := h
  exact ⟨a1.tr (f.wk (by decide)), TXok_fr f a2 q2.1 q2.2, (twC_fr f (by decide) (by decide)).trans a3, (f _ _ (by decide)).trans a4, by simp [aup], by simp [aup], by simp [aup]⟩
/-- the rows from hour ki on -/
def trC (X : aXt × Value) (mi : Nat → Nat → Int32) (ml : Nat → Nat → Int64) (mr : Nat → Nat → Option Nat) (ρ : Nat) (c0 c1 c2 : List Int32) (d P : Nat) (L : List Nat) (ki n hp : Int32) (t : tW) (b0 : Int32) (F : pU → Int32 → aRw → aRw) : Prop := ∀ m u dg a, RW ρ c0 c1 c2 mi m t b0 a → puC m P = u → aCW X d 47 [.ref 69, .int ki, .int n, .int hp, .int dg] (HD, m, ml, mr) (fun r h' => r = none ∧ ∃ m', h' = (HD, m', ml, mr) ∧ RW ρ c0 c1 c2 mi m' t b0 (F u dg a) ∧ ∀ Q ∈ L, puC m' Q = puC m Q)
theorem tr_S3 {ρ : Nat} (h : ρ ∈ TXS) : ((∀ k ∈ [73 + 2, ρ + 3], k ∈ UCL) ∧ ρ + 1 ∉ [73 + 2, ρ + 3] ∧ ρ + 2 ∉ [73 + 2, ρ + 3] ∧ 73 ∉ [73 + 2, ρ + 3] ∧ 73 + 1 ∉ [73 + 2, ρ + 3] ∧ 70 ∉ [73 + 2, ρ + 3] ∧ 69 ∉ [73 + 2, ρ + 3]) ∧ ∀ Q ∈ [76, 78, 80, 82], Q ∉ [73 + 2, ρ + 3] ∧ Q + 1 ∉ [73 + 2, ρ + 3] := by
  revert ρ
  decide
set_option maxRecDepth 20000 in
set_option maxHeartbeats 1000000 in
theorem tr_base3 {X : aXt × Value} {mi : Nat → Nat → Int32} {ml : Nat → Nat → Int64} {mr : Nat → Nat → Option Nat} (hM : MRok mr) {ρ : Nat} {c0 c1 c2 : List Int32} (hρ : ρ ∈ TXS) (hr : mr 73 2 = some ρ) {hp : Int32} {t : tW} {b0 : Int32} : trC X mi ml mr ρ c0 c1 c2 6 82 [76, 78, 80, 82] 3 3 hp t b0 (trB t b0) := by
  intro m u dg a h hu
  refine cw_of (cd := cd_X4_tryRows) (nL := 6) rfl rfl ?_
  show aWP _ _ (0, [some (.ref 69), some (.int 3), some (.int 3), some (.int hp), some (.int dg), none], [], (HD, m, ml, mr)) _
  refine wp_steps 1 (t' := (1, [some (.ref 69), some (.int 3), some (.int 3), some (.int hp), some (.int dg), none], [.int 3], (HD, m, ml, mr))) rfl ?_
  refine wp_bI rfl (fun c_1 => ?_) (fun c_1 => ?_)
  · have c_1 : (3 : Int32) < 0 := of_decide_eq_true c_1
    exact absurd c_1 (by decide)
  have c_1 : ¬ ((3 : Int32) < 0) := of_decide_eq_false c_1
  refine wp_steps 2 (t' := (4, [some (.ref 69), some (.int 3), some (.int 3), some (.int hp), some (.int dg), none], [.int 3, .int 3], (HD, m, ml, mr))) rfl ?_
  refine wp_bC rfl (fun c_2 => ?_) (fun c_2 => ?_)
  rotate_left
  · have c_2 : ¬ ((3 : Int32) ≤ 3) := of_decide_eq_false c_2
    exact absurd c_2 (by decide)
  have c_2 : (3 : Int32) ≤ 3 := of_decide_eq_true c_2
  refine wp_steps 2 (t' := (8, [some (.ref 69), some (.int 3), some (.int 3), some (.int hp), some (.int dg), none], [.int 3, .int 3], (HD, m, ml, mr))) rfl ?_
  refine wp_bC rfl (fun c_3 => ?_) (fun c_3 => ?_)
  rotate_left
  · have c_3 : ¬ (3 ≤ (3 : Int32)) := of_decide_eq_false c_3
    exact absurd (Int32.le_refl _) c_3
  have c_3 : 3 ≤ (3 : Int32) := of_decide_eq_true c_3
  refine wp_steps 1 (t' := (57, [some (.ref 69), some (.int 3), some (.int 3), some (.int hp), some (.int dg), none], [.ref 69], (HD, m, ml, mr))) rfl ?_
  refine wp_getr rfl ⟨by decide, rfl⟩ rfl (hM (69, 0, 73) (by decide)) ?_
  refine wp_steps 1 (t' := (59, [some (.ref 69), some (.int 3), some (.int 3), some (.int hp), some (.int dg), none], [.ref 69, .ref 73], (HD, m, ml, mr))) rfl ?_
  refine wp_getr rfl ⟨by decide, rfl⟩ rfl (hM (69, 5, 72) (by decide)) ?_
  refine wp_steps 1 (t' := (61, [some (.ref 69), some (.int 3), some (.int 3), some (.int hp), some (.int dg), none], [.int 3, .ref 72, .ref 73], (HD, m, ml, mr))) rfl ?_
  refine wp_aald rfl ⟨by decide, rfl⟩ (by decide) (by decide) (hM (72, 3, 82) (by decide)) ?_
  refine wp_calv (as := [.ref 82]) rfl rfl rfl (Nat.le_of_ble_eq_true rfl) ⟨by decide, rfl⟩ ((g_managedBy (mi := m) (ml := ml) hM (T := 73) (P := 82) (by decide) (by decide) hρ hr h.2.1)) (by decide) ?_
  rintro _ _ ⟨m_1, f1, rfl, rfl⟩
  rw [h.2.2.1, hu]
  have h1 := h.fr f1 (tr_S3 hρ).1
  have hQ : ∀ Q ∈ [76, 78, 80, 82], puC m_1 Q = puC m Q := fun Q hQ => puC_fr f1 ((tr_S3 hρ).2 Q hQ).1 ((tr_S3 hρ).2 Q hQ).2
  show aWP _ _ (63, [some (.ref 69), some (.int 3), some (.int 3), some (.int hp), some (.int dg), none], [.int (nI (mnG t u))], (HD, m_1, ml, mr)) _
  refine wp_steps 3 (t' := (66, [some (.ref 69), some (.int 3), some (.int 3), some (.int hp), some (.int dg), some (.int (nI (mnG t u)))], [.ref 69, .int (nI (mnG t u))], (HD, m_1, ml, mr))) rfl ?_
  refine wp_geti rfl ⟨by decide, rfl⟩ (Or.inl rfl) ?_
  refine wp_bC rfl (fun c_4 => ?_) (fun c_4 => ?_)
  · have c_4 : (nI (mnG t u)) ≤ (m_1 69 3) := of_decide_eq_true c_4
    refine wp_ret rfl rfl ⟨⟨Nat.le_refl _, Nat.le_refl _⟩, ?_⟩
    have e : trB t b0 u dg a = a := if_neg (by rw [← h1.2.2.2.2.2.1]; exact Int32.not_lt.mpr c_4)
    rw [e]
    exact ⟨rfl, m_1, rfl, h1, hQ⟩
  · have c_4 : ¬ ((nI (mnG t u)) ≤ (m_1 69 3)) := of_decide_eq_false c_4
    refine wp_steps 2 (t' := (70, [some (.ref 69), some (.int 3), some (.int 3), some (.int hp), some (.int dg), some (.int (nI (mnG t u)))], [.int (nI (mnG t u)), .ref 69], (HD, m_1, ml, mr))) rfl ?_
    refine wp_puti rfl ⟨by decide, rfl⟩ rfl (fun m_5 h_6 => ?_)
    subst h_6
    refine wp_steps 2 (t' := (73, [some (.ref 69), some (.int 3), some (.int 3), some (.int hp), some (.int dg), some (.int (nI (mnG t u)))], [.int dg, .ref 69], (HD, (aup m_1 69 3 (nI (mnG t u))), ml, mr))) rfl ?_
    refine wp_puti rfl ⟨by decide, rfl⟩ rfl (fun m_7 h_8 => ?_)
    subst h_8
    refine wp_steps 2 (t' := (76, [some (.ref 69), some (.int 3), some (.int 3), some (.int hp), some (.int dg), some (.int (nI (mnG t u)))], [.ref 69, .ref 69], (HD, (aup (aup m_1 69 3 (nI (mnG t u))) 69 2 dg), ml, mr))) rfl ?_
    refine wp_getr rfl ⟨by decide, rfl⟩ rfl (hM (69, 5, 72) (by decide)) ?_
    refine wp_steps 1 (t' := (78, [some (.ref 69), some (.int 3), some (.int 3), some (.int hp), some (.int dg), some (.int (nI (mnG t u)))], [.int 3, .ref 72, .ref 69], (HD, (aup (aup m_1 69 3 (nI (mnG t u))) 69 2 dg), ml, mr))) rfl ?_
    refine wp_aald rfl ⟨by decide, rfl⟩ (by decide) (by decide) (hM (72, 3, 82) (by decide)) ?_
    refine wp_geti rfl ⟨by decide, rfl⟩ (Or.inl rfl) ?_
    refine wp_steps 1 (t' := (81, [some (.ref 69), some (.int 3), some (.int 3), some (.int hp), some (.int dg), some (.int (nI (mnG t u)))], [.ref 69, .int ((aup (aup m_1 69 3 (nI (mnG t u))) 69 2 dg) 82 3), .ref 69], (HD, (aup (aup m_1 69 3 (nI (mnG t u))) 69 2 dg), ml, mr))) rfl ?_
    refine wp_getr rfl ⟨by decide, rfl⟩ rfl (hM (69, 1, 70) (by decide)) ?_
    refine wp_geti rfl ⟨by decide, rfl⟩ (Or.inl rfl) ?_
    refine wp_steps 1 (t' := (84, [some (.ref 69), some (.int 3), some (.int 3), some (.int hp), some (.int dg), some (.int (nI (mnG t u)))], [.int (((aup (aup m_1 69 3 (nI (mnG t u))) 69 2 dg) 82 3) - ((aup (aup m_1 69 3 (nI (mnG t u))) 69 2 dg) 70 3)), .ref 69], (HD, (aup (aup m_1 69 3 (nI (mnG t u))) 69 2 dg), ml, mr))) rfl ?_
    refine wp_puti rfl ⟨by decide, rfl⟩ rfl (fun m_9 h_10 => ?_)
    subst h_10
    refine wp_ret rfl rfl ⟨⟨Nat.le_refl _, Nat.le_refl _⟩, ?_⟩
    have e : trB t b0 u dg a = (dg, nI (mnG t u), u.2.2.2.1 - b0) := if_pos (by rw [← h1.2.2.2.2.2.1]; exact Int32.not_le.mp c_4)
    rw [e]
    have e2 : aup (aup m_1 69 3 (nI (mnG t u))) 69 2 dg 82 3 - aup (aup m_1 69 3 (nI (mnG t u))) 69 2 dg 70 3 = u.2.2.2.1 - b0 := by
      show m_1 82 3 - m_1 70 3 = _
      rw [h1.2.2.2.1, ← hu, ← hQ 82 (by decide)]
      rfl
    rw [e2]
    refine ⟨rfl, _, rfl, h1.row hρ, fun Q hq => ?_⟩
    have z : ∀ Q ∈ [76, 78, 80, 82], Q ∉ [69] ∧ Q + 1 ∉ [69] := by decide
    exact (puC_fr row_frm (z Q hq).1 (z Q hq).2).trans (hQ Q hq)
theorem tr_S2 {ρ : Nat} (h : ρ ∈ TXS) : ((∀ k ∈ [73 + 2, ρ + 3], k ∈ UCL) ∧ ρ + 1 ∉ [73 + 2, ρ + 3] ∧ ρ + 2 ∉ [73 + 2, ρ + 3] ∧ 73 ∉ [73 + 2, ρ + 3] ∧ 73 + 1 ∉ [73 + 2, ρ + 3] ∧ 70 ∉ [73 + 2, ρ + 3] ∧ 69 ∉ [73 + 2, ρ + 3]) ∧ ∀ Q ∈ [76, 78, 80], Q ∉ [73 + 2, ρ + 3] ∧ Q + 1 ∉ [73 + 2, ρ + 3] := by
  revert ρ
  decide
set_option maxRecDepth 20000 in
set_option maxHeartbeats 1000000 in
theorem tr_base2 {X : aXt × Value} {mi : Nat → Nat → Int32} {ml : Nat → Nat → Int64} {mr : Nat → Nat → Option Nat} (hM : MRok mr) {ρ : Nat} {c0 c1 c2 : List Int32} (hρ : ρ ∈ TXS) (hr : mr 73 2 = some ρ) {hp : Int32} {t : tW} {b0 : Int32} : trC X mi ml mr ρ c0 c1 c2 6 80 [76, 78, 80] 2 2 hp t b0 (trB t b0) := by
  intro m u dg a h hu
  refine cw_of (cd := cd_X4_tryRows) (nL := 6) rfl rfl ?_
  show aWP _ _ (0, [some (.ref 69), some (.int 2), some (.int 2), some (.int hp), some (.int dg), none], [], (HD, m, ml, mr)) _
  refine wp_steps 1 (t' := (1, [some (.ref 69), some (.int 2), some (.int 2), some (.int hp), some (.int dg), none], [.int 2], (HD, m, ml, mr))) rfl ?_
  refine wp_bI rfl (fun c_1 => ?_) (fun c_1 => ?_)
  · have c_1 : (2 : Int32) < 0 := of_decide_eq_true c_1
    exact absurd c_1 (by decide)
  have c_1 : ¬ ((2 : Int32) < 0) := of_decide_eq_false c_1
  refine wp_steps 2 (t' := (4, [some (.ref 69), some (.int 2), some (.int 2), some (.int hp), some (.int dg), none], [.int 3, .int 2], (HD, m, ml, mr))) rfl ?_
  refine wp_bC rfl (fun c_2 => ?_) (fun c_2 => ?_)
  rotate_left
  · have c_2 : ¬ ((2 : Int32) ≤ 3) := of_decide_eq_false c_2
    exact absurd c_2 (by decide)
  have c_2 : (2 : Int32) ≤ 3 := of_decide_eq_true c_2
  refine wp_steps 2 (t' := (8, [some (.ref 69), some (.int 2), some (.int 2), some (.int hp), some (.int dg), none], [.int 2, .int 2], (HD, m, ml, mr))) rfl ?_
  refine wp_bC rfl (fun c_3 => ?_) (fun c_3 => ?_)
  rotate_left
  · have c_3 : ¬ (2 ≤ (2 : Int32)) := of_decide_eq_false c_3
    exact absurd (Int32.le_refl _) c_3
  have c_3 : 2 ≤ (2 : Int32) := of_decide_eq_true c_3
  refine wp_steps 1 (t' := (57, [some (.ref 69), some (.int 2), some (.int 2), some (.int hp), some (.int dg), none], [.ref 69], (HD, m, ml, mr))) rfl ?_
  refine wp_getr rfl ⟨by decide, rfl⟩ rfl (hM (69, 0, 73) (by decide)) ?_
  refine wp_steps 1 (t' := (59, [some (.ref 69), some (.int 2), some (.int 2), some (.int hp), some (.int dg), none], [.ref 69, .ref 73], (HD, m, ml, mr))) rfl ?_
  refine wp_getr rfl ⟨by decide, rfl⟩ rfl (hM (69, 5, 72) (by decide)) ?_
  refine wp_steps 1 (t' := (61, [some (.ref 69), some (.int 2), some (.int 2), some (.int hp), some (.int dg), none], [.int 2, .ref 72, .ref 73], (HD, m, ml, mr))) rfl ?_
  refine wp_aald rfl ⟨by decide, rfl⟩ (by decide) (by decide) (hM (72, 2, 80) (by decide)) ?_
  refine wp_calv (as := [.ref 80]) rfl rfl rfl (Nat.le_of_ble_eq_true rfl) ⟨by decide, rfl⟩ ((g_managedBy (mi := m) (ml := ml) hM (T := 73) (P := 80) (by decide) (by decide) hρ hr h.2.1)) (by decide) ?_
  rintro _ _ ⟨m_1, f1, rfl, rfl⟩
  rw [h.2.2.1, hu]
  have h1 := h.fr f1 (tr_S2 hρ).1
  have hQ : ∀ Q ∈ [76, 78, 80], puC m_1 Q = puC m Q := fun Q hQ => puC_fr f1 ((tr_S2 hρ).2 Q hQ).1 ((tr_S2 hρ).2 Q hQ).2
  show aWP _ _ (63, [some (.ref 69), some (.int 2), some (.int 2), some (.int hp), some (.int dg), none], [.int (nI (mnG t u))], (HD, m_1, ml, mr)) _
  refine wp_steps 3 (t' := (66, [some (.ref 69), some (.int 2), some (.int 2), some (.int hp), some (.int dg), some (.int (nI (mnG t u)))], [.ref 69, .int (nI (mnG t u))], (HD, m_1, ml, mr))) rfl ?_
  refine wp_geti rfl ⟨by decide, rfl⟩ (Or.inl rfl) ?_
  refine wp_bC rfl (fun c_4 => ?_) (fun c_4 => ?_)
  · have c_4 : (nI (mnG t u)) ≤ (m_1 69 3) := of_decide_eq_true c_4
    refine wp_ret rfl rfl ⟨⟨Nat.le_refl _, Nat.le_refl _⟩, ?_⟩
    have e : trB t b0 u dg a = a := if_neg (by rw [← h1.2.2.2.2.2.1]; exact Int32.not_lt.mpr c_4)
    rw [e]
    exact ⟨rfl, m_1, rfl, h1, hQ⟩
  · have c_4 : ¬ ((nI (mnG t u)) ≤ (m_1 69 3)) := of_decide_eq_false c_4
    refine wp_steps 2 (t' := (70, [some (.ref 69), some (.int 2), some (.int 2), some (.int hp), some (.int dg), some (.int (nI (mnG t u)))], [.int (nI (mnG t u)), .ref 69], (HD, m_1, ml, mr))) rfl ?_
    refine wp_puti rfl ⟨by decide, rfl⟩ rfl (fun m_5 h_6 => ?_)
    subst h_6
    refine wp_steps 2 (t' := (73, [some (.ref 69), some (.int 2), some (.int 2), some (.int hp), some (.int dg), some (.int (nI (mnG t u)))], [.int dg, .ref 69], (HD, (aup m_1 69 3 (nI (mnG t u))), ml, mr))) rfl ?_
    refine wp_puti rfl ⟨by decide, rfl⟩ rfl (fun m_7 h_8 => ?_)
    subst h_8
    refine wp_steps 2 (t' := (76, [some (.ref 69), some (.int 2), some (.int 2), some (.int hp), some (.int dg), some (.int (nI (mnG t u)))], [.ref 69, .ref 69], (HD, (aup (aup m_1 69 3 (nI (mnG t u))) 69 2 dg), ml, mr))) rfl ?_
    refine wp_getr rfl ⟨by decide, rfl⟩ rfl (hM (69, 5, 72) (by decide)) ?_
    refine wp_steps 1 (t' := (78, [some (.ref 69), some (.int 2), some (.int 2), some (.int hp), some (.int dg), some (.int (nI (mnG t u)))], [.int 2, .ref 72, .ref 69], (HD, (aup (aup m_1 69 3 (nI (mnG t u))) 69 2 dg), ml, mr))) rfl ?_
    refine wp_aald rfl ⟨by decide, rfl⟩ (by decide) (by decide) (hM (72, 2, 80) (by decide)) ?_
    refine wp_geti rfl ⟨by decide, rfl⟩ (Or.inl rfl) ?_
    refine wp_steps 1 (t' := (81, [some (.ref 69), some (.int 2), some (.int 2), some (.int hp), some (.int dg), some (.int (nI (mnG t u)))], [.ref 69, .int ((aup (aup m_1 69 3 (nI (mnG t u))) 69 2 dg) 80 3), .ref 69], (HD, (aup (aup m_1 69 3 (nI (mnG t u))) 69 2 dg), ml, mr))) rfl ?_
    refine wp_getr rfl ⟨by decide, rfl⟩ rfl (hM (69, 1, 70) (by decide)) ?_
    refine wp_geti rfl ⟨by decide, rfl⟩ (Or.inl rfl) ?_
    refine wp_steps 1 (t' := (84, [some (.ref 69), some (.int 2), some (.int 2), some (.int hp), some (.int dg), some (.int (nI (mnG t u)))], [.int (((aup (aup m_1 69 3 (nI (mnG t u))) 69 2 dg) 80 3) - ((aup (aup m_1 69 3 (nI (mnG t u))) 69 2 dg) 70 3)), .ref 69], (HD, (aup (aup m_1 69 3 (nI (mnG t u))) 69 2 dg), ml, mr))) rfl ?_
    refine wp_puti rfl ⟨by decide, rfl⟩ rfl (fun m_9 h_10 => ?_)
    subst h_10
    refine wp_ret rfl rfl ⟨⟨Nat.le_refl _, Nat.le_refl _⟩, ?_⟩
    have e : trB t b0 u dg a = (dg, nI (mnG t u), u.2.2.2.1 - b0) := if_pos (by rw [← h1.2.2.2.2.2.1]; exact Int32.not_le.mp c_4)
    rw [e]
    have e2 : aup (aup m_1 69 3 (nI (mnG t u))) 69 2 dg 80 3 - aup (aup m_1 69 3 (nI (mnG t u))) 69 2 dg 70 3 = u.2.2.2.1 - b0 := by
      show m_1 80 3 - m_1 70 3 = _
      rw [h1.2.2.2.1, ← hu, ← hQ 80 (by decide)]
      rfl
    rw [e2]
    refine ⟨rfl, _, rfl, h1.row hρ, fun Q hq => ?_⟩
    have z : ∀ Q ∈ [76, 78, 80], Q ∉ [69] ∧ Q + 1 ∉ [69] := by decide
    exact (puC_fr row_frm (z Q hq).1 (z Q hq).2).trans (hQ Q hq)
theorem tr_T2a {ρ : Nat} (h : ρ ∈ TXS) : (∀ k ∈ [82, 82 + 1, 73 + 2, ρ + 3], k ∈ UCL) ∧ ρ + 1 ∉ [82, 82 + 1, 73 + 2, ρ + 3] ∧ ρ + 2 ∉ [82, 82 + 1, 73 + 2, ρ + 3] ∧ 73 ∉ [82, 82 + 1, 73 + 2, ρ + 3] ∧ 73 + 1 ∉ [82, 82 + 1, 73 + 2, ρ + 3] ∧ 70 ∉ [82, 82 + 1, 73 + 2, ρ + 3] ∧ 69 ∉ [82, 82 + 1, 73 + 2, ρ + 3] := by
  revert ρ
  decide
theorem tr_T2b {ρ : Nat} (h : ρ ∈ TXS) : ∀ Q ∈ [76, 78, 80], Q ∉ [82, 82 + 1, 73 + 2, ρ + 3] ∧ Q + 1 ∉ [82, 82 + 1, 73 + 2, ρ + 3] := by
  revert ρ
  decide
theorem tr_T2c {ρ : Nat} (h : ρ ∈ TXS) : ∀ Q ∈ [76, 78, 80], Q ∉ [82, 82 + 1] ∧ Q + 1 ∉ [82, 82 + 1] := by
  revert ρ
  decide
theorem tr_T2d {ρ : Nat} (h : ρ ∈ TXS) : (∀ k ∈ [82, 82 + 1], k ∈ UCL) ∧ ρ + 1 ∉ [82, 82 + 1] ∧ ρ + 2 ∉ [82, 82 + 1] ∧ 73 ∉ [82, 82 + 1] ∧ 73 + 1 ∉ [82, 82 + 1] ∧ 70 ∉ [82, 82 + 1] ∧ 69 ∉ [82, 82 + 1] := by
  revert ρ
  decide
theorem tr_T2 {ρ : Nat} (h : ρ ∈ TXS) : ((∀ k ∈ [82, 82 + 1, 73 + 2, ρ + 3], k ∈ UCL) ∧ ρ + 1 ∉ [82, 82 + 1, 73 + 2, ρ + 3] ∧ ρ + 2 ∉ [82, 82 + 1, 73 + 2, ρ + 3] ∧ 73 ∉ [82, 82 + 1, 73 + 2, ρ + 3] ∧ 73 + 1 ∉ [82, 82 + 1, 73 + 2, ρ + 3] ∧ 70 ∉ [82, 82 + 1, 73 + 2, ρ + 3] ∧ 69 ∉ [82, 82 + 1, 73 + 2, ρ + 3]) ∧ (∀ Q ∈ [76, 78, 80], Q ∉ [82, 82 + 1, 73 + 2, ρ + 3] ∧ Q + 1 ∉ [82, 82 + 1, 73 + 2, ρ + 3]) ∧ (∀ Q ∈ [76, 78, 80], Q ∉ [82, 82 + 1] ∧ Q + 1 ∉ [82, 82 + 1]) ∧ (∀ k ∈ [82, 82 + 1], k ∈ UCL) ∧ ρ + 1 ∉ [82, 82 + 1] ∧ ρ + 2 ∉ [82, 82 + 1] ∧ 73 ∉ [82, 82 + 1] ∧ 73 + 1 ∉ [82, 82 + 1] ∧ 70 ∉ [82, 82 + 1] ∧ 69 ∉ [82, 82 + 1] := ⟨tr_T2a h, tr_T2b h, tr_T2c h, tr_T2d h⟩
set_option maxRecDepth 20000 in
set_option maxHeartbeats 1000000 in
theorem l_try2 {X : aXt × Value} {mi : Nat → Nat → Int32} {ml : Nat → Nat → Int64} {mr : Nat → Nat → Option Nat} (hM : MRok mr) {ρ : Nat} {c0 c1 c2 : List Int32} (hρ : ρ ∈ TXS) (hr : mr 73 2 = some ρ) {hp : Int32} {t : tW} {b0 : Int32} {d : Nat} (hd : 6 ≤ d) {n dg : Int32} {F : pU → Int32 → aRw → aRw} (hF : trC X mi ml mr ρ c0 c1 c2 d 82 [76, 78, 80, 82] 3 n hp t b0 F) {u : pU} {m0 : Nat → Nat → Int32} : ∀ (g s : Nat) (m : Nat → Nat → Int32) (a : aRw), s + g = 8 → RW ρ c0 c1 c2 mi m t b0 a → puC m 80 = u → (∀ Q ∈ [76, 78, 80], puC m Q = puC m0 Q) → aWP (aEx (aTb X) d) cd_X4_tryRows (14, [some (.ref 69), some (.int 2), some (.int n), some (.int hp), some (.int dg), some (.int (nI s))], [], (HD, m, ml, mr)) (fun r h' => (HD.1 ≤ h'.1.1 ∧ HD.2.1 ≤ h'.1.2.1) ∧ r = none ∧ ∃ m', h' = (HD, m', ml, mr) ∧ RW ρ c0 c1 c2 mi m' t b0 (trL F t hp u dg g s a) ∧ ∀ Q ∈ [76, 78, 80], puC m' Q = puC m0 Q) := by
  intro g
  induction g with
  | zero =>
    intro s m a hg h hu hk
    have e : s = 8 := by omega
    subst e
    refine wp_steps 2 (t' := (16, [some (.ref 69), some (.int 2), some (.int n), some (.int hp), some (.int dg), some (.int (nI 8))], [.int 8, .int (nI 8)], (HD, m, ml, mr))) rfl ?_
    refine wp_bC rfl (fun c_1 => ?_) (fun c_1 => ?_)
    rotate_left
    · have c_1 : ¬ (8 ≤ (nI 8)) := of_decide_eq_false c_1
      exact absurd (by decide) c_1
    have c_1 : 8 ≤ (nI 8) := of_decide_eq_true c_1
    refine wp_ret rfl rfl ⟨⟨Nat.le_refl _, Nat.le_refl _⟩, ?_⟩
    exact ⟨rfl, m, rfl, h, hk⟩
  | succ g ih =>
    intro s m a hg h hu hk
    have hS : s < 8 := by omega
    refine wp_steps 2 (t' := (16, [some (.ref 69), some (.int 2), some (.int n), some (.int hp), some (.int dg), some (.int (nI s))], [.int 8, .int (nI s)], (HD, m, ml, mr))) rfl ?_
    refine wp_bC rfl (fun c_1 => ?_) (fun c_1 => ?_)
    · have c_1 : 8 ≤ (nI s) := of_decide_eq_true c_1
      exact absurd c_1 (nI_ge hS (by decide))
    have c_1 : ¬ (8 ≤ (nI s)) := of_decide_eq_false c_1
    refine wp_steps 1 (t' := (18, [some (.ref 69), some (.int 2), some (.int n), some (.int hp), some (.int dg), some (.int (nI s))], [.ref 69], (HD, m, ml, mr))) rfl ?_
    refine wp_getr rfl ⟨by decide, rfl⟩ rfl (hM (69, 5, 72) (by decide)) ?_
    refine wp_steps 3 (t' := (22, [some (.ref 69), some (.int 2), some (.int n), some (.int hp), some (.int dg), some (.int (nI s))], [.int 3, .ref 72], (HD, m, ml, mr))) rfl ?_
    refine wp_aald rfl ⟨by decide, rfl⟩ (by decide) (by decide) (hM (72, 3, 82) (by decide)) ?_
    refine wp_steps 1 (t' := (24, [some (.ref 69), some (.int 2), some (.int n), some (.int hp), some (.int dg), some (.int (nI s))], [.ref 69, .ref 82], (HD, m, ml, mr))) rfl ?_
    refine wp_getr rfl ⟨by decide, rfl⟩ rfl (hM (69, 5, 72) (by decide)) ?_
    refine wp_steps 1 (t' := (26, [some (.ref 69), some (.int 2), some (.int n), some (.int hp), some (.int dg), some (.int (nI s))], [.int 2, .ref 72, .ref 82], (HD, m, ml, mr))) rfl ?_
    refine wp_aald rfl ⟨by decide, rfl⟩ (by decide) (by decide) (hM (72, 2, 80) (by decide)) ?_
    refine wp_calv (as := [.ref 80]) rfl rfl rfl (Nat.le_of_ble_eq_true rfl) ⟨by decide, rfl⟩ ((g_become (mi := m) (ml := ml) hM (P := 82) (P2 := 80) (by decide) (by decide))) (by omega) ?_
    rintro _ _ ⟨m_1, f1, u1, rfl, rfl⟩
    rw [hu] at u1
    have h1 := h.fr f1 (tr_T2 hρ).2.2.2
    show aWP _ _ (28, [some (.ref 69), some (.int 2), some (.int n), some (.int hp), some (.int dg), some (.int (nI s))], [], (HD, m_1, ml, mr)) _
    refine wp_steps 1 (t' := (29, [some (.ref 69), some (.int 2), some (.int n), some (.int hp), some (.int dg), some (.int (nI s))], [.ref 69], (HD, m_1, ml, mr))) rfl ?_
    refine wp_getr rfl ⟨by decide, rfl⟩ rfl (hM (69, 0, 73) (by decide)) ?_
    refine wp_steps 1 (t' := (31, [some (.ref 69), some (.int 2), some (.int n), some (.int hp), some (.int dg), some (.int (nI s))], [.ref 69, .ref 73], (HD, m_1, ml, mr))) rfl ?_
    refine wp_getr rfl ⟨by decide, rfl⟩ rfl (hM (69, 5, 72) (by decide)) ?_
    refine wp_steps 3 (t' := (35, [some (.ref 69), some (.int 2), some (.int n), some (.int hp), some (.int dg), some (.int (nI s))], [.int 3, .ref 72, .ref 73], (HD, m_1, ml, mr))) rfl ?_
    refine wp_aald rfl ⟨by decide, rfl⟩ (by decide) (by decide) (hM (72, 3, 82) (by decide)) ?_
    refine wp_steps 2 (t' := (38, [some (.ref 69), some (.int 2), some (.int n), some (.int hp), some (.int dg), some (.int (nI s))], [.int hp, .int (nI s), .ref 82, .ref 73], (HD, m_1, ml, mr))) rfl ?_
    refine wp_calv (as := [.ref 82, .int (nI s), .int hp]) rfl rfl rfl (Nat.le_of_ble_eq_true rfl) ⟨by decide, rfl⟩ ((g_hour (mi := m_1) (ml := ml) hM (T := 73) (P := 82) (hp := hp) (by decide) (by decide) hρ hr h1.2.1 (aix_nI hS (by decide)))) (by omega) ?_
    rintro _ _ ⟨m_2, f2, u2, rfl, rfl⟩
    rw [u1, h1.2.2.1, nI_clamp (Nat.lt_trans hS (by decide))] at u2
    have h2 := h1.fr f2 (tr_T2 hρ).1
    show aWP _ _ (39, [some (.ref 69), some (.int 2), some (.int n), some (.int hp), some (.int dg), some (.int (nI s))], [], (HD, m_2, ml, mr)) _
    refine wp_steps 13 (t' := (52, [some (.ref 69), some (.int 2), some (.int n), some (.int hp), some (.int dg), some (.int (nI s))], [.int (((10 * dg) + (nI s)) + 1), .int hp, .int n, .int 3, .ref 69], (HD, m_2, ml, mr))) rfl ?_
    refine wp_calv (as := [.int 3, .int n, .int hp, .int (((10 * dg) + (nI s)) + 1)]) rfl rfl rfl (Nat.le_of_ble_eq_true rfl) ⟨by decide, rfl⟩ ((hF m_2 _ _ _ h2 u2)) (by omega) ?_
    rintro _ _ ⟨rfl, m_3, rfl, h3, k3⟩
    have kk : ∀ Q ∈ [76, 78, 80], puC m_3 Q = puC m Q := fun Q hq => (k3 Q (by revert Q; decide)).trans ((puC_fr f2 ((tr_T2 hρ).2.1 Q hq).1 ((tr_T2 hρ).2.1 Q hq).2).trans (puC_fr f1 ((tr_T2 hρ).2.2.1 Q hq).1 ((tr_T2 hρ).2.2.1 Q hq).2))
    show aWP _ _ (53, [some (.ref 69), some (.int 2), some (.int n), some (.int hp), some (.int dg), some (.int (nI s))], [], (HD, m_3, ml, mr)) _
    refine wp_steps 2 (t' := (14, [some (.ref 69), some (.int 2), some (.int n), some (.int hp), some (.int dg), some (.int ((nI s) + Int32.ofInt 1))], [], (HD, m_3, ml, mr))) rfl ?_
    rw [inc_nI]
    exact ih (s + 1) m_3 _ (by omega) h3 ((kk 80 (by decide)).trans hu) (fun Q hq => (kk Q hq).trans (hk Q hq))
set_option maxRecDepth 20000 in
set_option maxHeartbeats 1000000 in
theorem tr_step2 {X : aXt × Value} {mi : Nat → Nat → Int32} {ml : Nat → Nat → Int64} {mr : Nat → Nat → Option Nat} (hM : MRok mr) {ρ : Nat} {c0 c1 c2 : List Int32} (hρ : ρ ∈ TXS) (hr : mr 73 2 = some ρ) {hp : Int32} {t : tW} {b0 : Int32} {d : Nat} (hd : 6 ≤ d) {n : Int32} (hn : ¬ n ≤ 2) {F : pU → Int32 → aRw → aRw} (hF : trC X mi ml mr ρ c0 c1 c2 d 82 [76, 78, 80, 82] 3 n hp t b0 F) : trC X mi ml mr ρ c0 c1 c2 (d + 1) 80 [76, 78, 80] 2 n hp t b0 (fun u dg a => trL F t hp u dg 8 0 a) := by
  intro m u dg a h hu
  refine cw_of (cd := cd_X4_tryRows) (nL := 6) rfl rfl ?_
  show aWP _ _ (0, [some (.ref 69), some (.int 2), some (.int n), some (.int hp), some (.int dg), none], [], (HD, m, ml, mr)) _
  refine wp_steps 1 (t' := (1, [some (.ref 69), some (.int 2), some (.int n), some (.int hp), some (.int dg), none], [.int 2], (HD, m, ml, mr))) rfl ?_
  refine wp_bI rfl (fun c_1 => ?_) (fun c_1 => ?_)
  · have c_1 : (2 : Int32) < 0 := of_decide_eq_true c_1
    exact absurd c_1 (by decide)
  have c_1 : ¬ ((2 : Int32) < 0) := of_decide_eq_false c_1
  refine wp_steps 2 (t' := (4, [some (.ref 69), some (.int 2), some (.int n), some (.int hp), some (.int dg), none], [.int 3, .int 2], (HD, m, ml, mr))) rfl ?_
  refine wp_bC rfl (fun c_2 => ?_) (fun c_2 => ?_)
  rotate_left
  · have c_2 : ¬ ((2 : Int32) ≤ 3) := of_decide_eq_false c_2
    exact absurd c_2 (by decide)
  have c_2 : (2 : Int32) ≤ 3 := of_decide_eq_true c_2
  refine wp_steps 2 (t' := (8, [some (.ref 69), some (.int 2), some (.int n), some (.int hp), some (.int dg), none], [.int n, .int 2], (HD, m, ml, mr))) rfl ?_
  refine wp_bC rfl (fun c_3 => ?_) (fun c_3 => ?_)
  · have c_3 : n ≤ 2 := of_decide_eq_true c_3
    exact absurd c_3 hn
  have c_3 : ¬ (n ≤ 2) := of_decide_eq_false c_3
  refine wp_steps 2 (t' := (11, [some (.ref 69), some (.int 2), some (.int n), some (.int hp), some (.int dg), none], [.int 3, .int 2], (HD, m, ml, mr))) rfl ?_
  refine wp_bC rfl (fun c_4 => ?_) (fun c_4 => ?_)
  · have c_4 : 3 ≤ (2 : Int32) := of_decide_eq_true c_4
    exact absurd c_4 (by decide)
  have c_4 : ¬ (3 ≤ (2 : Int32)) := of_decide_eq_false c_4
  refine wp_steps 2 (t' := (14, [some (.ref 69), some (.int 2), some (.int n), some (.int hp), some (.int dg), some (.int 0)], [], (HD, m, ml, mr))) rfl ?_
  exact l_try2 hM hρ hr hd hF 8 0 m a rfl h hu (fun _ _ => rfl)
theorem tr_S1 {ρ : Nat} (h : ρ ∈ TXS) : ((∀ k ∈ [73 + 2, ρ + 3], k ∈ UCL) ∧ ρ + 1 ∉ [73 + 2, ρ + 3] ∧ ρ + 2 ∉ [73 + 2, ρ + 3] ∧ 73 ∉ [73 + 2, ρ + 3] ∧ 73 + 1 ∉ [73 + 2, ρ + 3] ∧ 70 ∉ [73 + 2, ρ + 3] ∧ 69 ∉ [73 + 2, ρ + 3]) ∧ ∀ Q ∈ [76, 78], Q ∉ [73 + 2, ρ + 3] ∧ Q + 1 ∉ [73 + 2, ρ + 3] := by
  revert ρ
  decide
set_option maxRecDepth 20000 in
set_option maxHeartbeats 1000000 in
theorem tr_base1 {X : aXt × Value} {mi : Nat → Nat → Int32} {ml : Nat → Nat → Int64} {mr : Nat → Nat → Option Nat} (hM : MRok mr) {ρ : Nat} {c0 c1 c2 : List Int32} (hρ : ρ ∈ TXS) (hr : mr 73 2 = some ρ) {hp : Int32} {t : tW} {b0 : Int32} : trC X mi ml mr ρ c0 c1 c2 6 78 [76, 78] 1 1 hp t b0 (trB t b0) := by
  intro m u dg a h hu
  refine cw_of (cd := cd_X4_tryRows) (nL := 6) rfl rfl ?_
  show aWP _ _ (0, [some (.ref 69), some (.int 1), some (.int 1), some (.int hp), some (.int dg), none], [], (HD, m, ml, mr)) _
  refine wp_steps 1 (t' := (1, [some (.ref 69), some (.int 1), some (.int 1), some (.int hp), some (.int dg), none], [.int 1], (HD, m, ml, mr))) rfl ?_
  refine wp_bI rfl (fun c_1 => ?_) (fun c_1 => ?_)
  · have c_1 : (1 : Int32) < 0 := of_decide_eq_true c_1
    exact absurd c_1 (by decide)
  have c_1 : ¬ ((1 : Int32) < 0) := of_decide_eq_false c_1
  refine wp_steps 2 (t' := (4, [some (.ref 69), some (.int 1), some (.int 1), some (.int hp), some (.int dg), none], [.int 3, .int 1], (HD, m, ml, mr))) rfl ?_
  refine wp_bC rfl (fun c_2 => ?_) (fun c_2 => ?_)
  rotate_left
  · have c_2 : ¬ ((1 : Int32) ≤ 3) := of_decide_eq_false c_2
    exact absurd c_2 (by decide)
  have c_2 : (1 : Int32) ≤ 3 := of_decide_eq_true c_2
  refine wp_steps 2 (t' := (8, [some (.ref 69), some (.int 1), some (.int 1), some (.int hp), some (.int dg), none], [.int 1, .int 1], (HD, m, ml, mr))) rfl ?_
  refine wp_bC rfl (fun c_3 => ?_) (fun c_3 => ?_)
  rotate_left
  · have c_3 : ¬ (1 ≤ (1 : Int32)) := of_decide_eq_false c_3
    exact absurd (Int32.le_refl _) c_3
  have c_3 : 1 ≤ (1 : Int32) := of_decide_eq_true c_3
  refine wp_steps 1 (t' := (57, [some (.ref 69), some (.int 1), some (.int 1), some (.int hp), some (.int dg), none], [.ref 69], (HD, m, ml, mr))) rfl ?_
  refine wp_getr rfl ⟨by decide, rfl⟩ rfl (hM (69, 0, 73) (by decide)) ?_
  refine wp_steps 1 (t' := (59, [some (.ref 69), some (.int 1), some (.int 1), some (.int hp), some (.int dg), none], [.ref 69, .ref 73], (HD, m, ml, mr))) rfl ?_
  refine wp_getr rfl ⟨by decide, rfl⟩ rfl (hM (69, 5, 72) (by decide)) ?_
  refine wp_steps 1 (t' := (61, [some (.ref 69), some (.int 1), some (.int 1), some (.int hp), some (.int dg), none], [.int 1, .ref 72, .ref 73], (HD, m, ml, mr))) rfl ?_
  refine wp_aald rfl ⟨by decide, rfl⟩ (by decide) (by decide) (hM (72, 1, 78) (by decide)) ?_
  refine wp_calv (as := [.ref 78]) rfl rfl rfl (Nat.le_of_ble_eq_true rfl) ⟨by decide, rfl⟩ ((g_managedBy (mi := m) (ml := ml) hM (T := 73) (P := 78) (by decide) (by decide) hρ hr h.2.1)) (by decide) ?_
  rintro _ _ ⟨m_1, f1, rfl, rfl⟩
  rw [h.2.2.1, hu]
  have h1 := h.fr f1 (tr_S1 hρ).1
  have hQ : ∀ Q ∈ [76, 78], puC m_1 Q = puC m Q := fun Q hQ => puC_fr f1 ((tr_S1 hρ).2 Q hQ).1 ((tr_S1 hρ).2 Q hQ).2
  show aWP _ _ (63, [some (.ref 69), some (.int 1), some (.int 1), some (.int hp), some (.int dg), none], [.int (nI (mnG t u))], (HD, m_1, ml, mr)) _
  refine wp_steps 3 (t' := (66, [some (.ref 69), some (.int 1), some (.int 1), some (.int hp), some (.int dg), some (.int (nI (mnG t u)))], [.ref 69, .int (nI (mnG t u))], (HD, m_1, ml, mr))) rfl ?_
  refine wp_geti rfl ⟨by decide, rfl⟩ (Or.inl rfl) ?_
  refine wp_bC rfl (fun c_4 => ?_) (fun c_4 => ?_)
  · have c_4 : (nI (mnG t u)) ≤ (m_1 69 3) := of_decide_eq_true c_4
    refine wp_ret rfl rfl ⟨⟨Nat.le_refl _, Nat.le_refl _⟩, ?_⟩
    have e : trB t b0 u dg a = a := if_neg (by rw [← h1.2.2.2.2.2.1]; exact Int32.not_lt.mpr c_4)
    rw [e]
    exact ⟨rfl, m_1, rfl, h1, hQ⟩
  · have c_4 : ¬ ((nI (mnG t u)) ≤ (m_1 69 3)) := of_decide_eq_false c_4
    refine wp_steps 2 (t' := (70, [some (.ref 69), some (.int 1), some (.int 1), some (.int hp), some (.int dg), some (.int (nI (mnG t u)))], [.int (nI (mnG t u)), .ref 69], (HD, m_1, ml, mr))) rfl ?_
    refine wp_puti rfl ⟨by decide, rfl⟩ rfl (fun m_5 h_6 => ?_)
    subst h_6
    refine wp_steps 2 (t' := (73, [some (.ref 69), some (.int 1), some (.int 1), some (.int hp), some (.int dg), some (.int (nI (mnG t u)))], [.int dg, .ref 69], (HD, (aup m_1 69 3 (nI (mnG t u))), ml, mr))) rfl ?_
    refine wp_puti rfl ⟨by decide, rfl⟩ rfl (fun m_7 h_8 => ?_)
    subst h_8
    refine wp_steps 2 (t' := (76, [some (.ref 69), some (.int 1), some (.int 1), some (.int hp), some (.int dg), some (.int (nI (mnG t u)))], [.ref 69, .ref 69], (HD, (aup (aup m_1 69 3 (nI (mnG t u))) 69 2 dg), ml, mr))) rfl ?_
    refine wp_getr rfl ⟨by decide, rfl⟩ rfl (hM (69, 5, 72) (by decide)) ?_
    refine wp_steps 1 (t' := (78, [some (.ref 69), some (.int 1), some (.int 1), some (.int hp), some (.int dg), some (.int (nI (mnG t u)))], [.int 1, .ref 72, .ref 69], (HD, (aup (aup m_1 69 3 (nI (mnG t u))) 69 2 dg), ml, mr))) rfl ?_
    refine wp_aald rfl ⟨by decide, rfl⟩ (by decide) (by decide) (hM (72, 1, 78) (by decide)) ?_
    refine wp_geti rfl ⟨by decide, rfl⟩ (Or.inl rfl) ?_
    refine wp_steps 1 (t' := (81, [some (.ref 69), some (.int 1), some (.int 1), some (.int hp), some (.int dg), some (.int (nI (mnG t u)))], [.ref 69, .int ((aup (aup m_1 69 3 (nI (mnG t u))) 69 2 dg) 78 3), .ref 69], (HD, (aup (aup m_1 69 3 (nI (mnG t u))) 69 2 dg), ml, mr))) rfl ?_
    refine wp_getr rfl ⟨by decide, rfl⟩ rfl (hM (69, 1, 70) (by decide)) ?_
    refine wp_geti rfl ⟨by decide, rfl⟩ (Or.inl rfl) ?_
    refine wp_steps 1 (t' := (84, [some (.ref 69), some (.int 1), some (.int 1), some (.int hp), some (.int dg), some (.int (nI (mnG t u)))], [.int (((aup (aup m_1 69 3 (nI (mnG t u))) 69 2 dg) 78 3) - ((aup (aup m_1 69 3 (nI (mnG t u))) 69 2 dg) 70 3)), .ref 69], (HD, (aup (aup m_1 69 3 (nI (mnG t u))) 69 2 dg), ml, mr))) rfl ?_
    refine wp_puti rfl ⟨by decide, rfl⟩ rfl (fun m_9 h_10 => ?_)
    subst h_10
    refine wp_ret rfl rfl ⟨⟨Nat.le_refl _, Nat.le_refl _⟩, ?_⟩
    have e : trB t b0 u dg a = (dg, nI (mnG t u), u.2.2.2.1 - b0) := if_pos (by rw [← h1.2.2.2.2.2.1]; exact Int32.not_le.mp c_4)
    rw [e]
    have e2 : aup (aup m_1 69 3 (nI (mnG t u))) 69 2 dg 78 3 - aup (aup m_1 69 3 (nI (mnG t u))) 69 2 dg 70 3 = u.2.2.2.1 - b0 := by
      show m_1 78 3 - m_1 70 3 = _
      rw [h1.2.2.2.1, ← hu, ← hQ 78 (by decide)]
      rfl
    rw [e2]
    refine ⟨rfl, _, rfl, h1.row hρ, fun Q hq => ?_⟩
    have z : ∀ Q ∈ [76, 78], Q ∉ [69] ∧ Q + 1 ∉ [69] := by decide
    exact (puC_fr row_frm (z Q hq).1 (z Q hq).2).trans (hQ Q hq)
theorem tr_T1a {ρ : Nat} (h : ρ ∈ TXS) : (∀ k ∈ [80, 80 + 1, 73 + 2, ρ + 3], k ∈ UCL) ∧ ρ + 1 ∉ [80, 80 + 1, 73 + 2, ρ + 3] ∧ ρ + 2 ∉ [80, 80 + 1, 73 + 2, ρ + 3] ∧ 73 ∉ [80, 80 + 1, 73 + 2, ρ + 3] ∧ 73 + 1 ∉ [80, 80 + 1, 73 + 2, ρ + 3] ∧ 70 ∉ [80, 80 + 1, 73 + 2, ρ + 3] ∧ 69 ∉ [80, 80 + 1, 73 + 2, ρ + 3] := by
  revert ρ
  decide
theorem tr_T1b {ρ : Nat} (h : ρ ∈ TXS) : ∀ Q ∈ [76, 78], Q ∉ [80, 80 + 1, 73 + 2, ρ + 3] ∧ Q + 1 ∉ [80, 80 + 1, 73 + 2, ρ + 3] := by
  revert ρ
  decide
theorem tr_T1c {ρ : Nat} (h : ρ ∈ TXS) : ∀ Q ∈ [76, 78], Q ∉ [80, 80 + 1] ∧ Q + 1 ∉ [80, 80 + 1] := by
  revert ρ
  decide
theorem tr_T1d {ρ : Nat} (h : ρ ∈ TXS) : (∀ k ∈ [80, 80 + 1], k ∈ UCL) ∧ ρ + 1 ∉ [80, 80 + 1] ∧ ρ + 2 ∉ [80, 80 + 1] ∧ 73 ∉ [80, 80 + 1] ∧ 73 + 1 ∉ [80, 80 + 1] ∧ 70 ∉ [80, 80 + 1] ∧ 69 ∉ [80, 80 + 1] := by
  revert ρ
  decide
theorem tr_T1 {ρ : Nat} (h : ρ ∈ TXS) : ((∀ k ∈ [80, 80 + 1, 73 + 2, ρ + 3], k ∈ UCL) ∧ ρ + 1 ∉ [80, 80 + 1, 73 + 2, ρ + 3] ∧ ρ + 2 ∉ [80, 80 + 1, 73 + 2, ρ + 3] ∧ 73 ∉ [80, 80 + 1, 73 + 2, ρ + 3] ∧ 73 + 1 ∉ [80, 80 + 1, 73 + 2, ρ + 3] ∧ 70 ∉ [80, 80 + 1, 73 + 2, ρ + 3] ∧ 69 ∉ [80, 80 + 1, 73 + 2, ρ + 3]) ∧ (∀ Q ∈ [76, 78], Q ∉ [80, 80 + 1, 73 + 2, ρ + 3] ∧ Q + 1 ∉ [80, 80 + 1, 73 + 2, ρ + 3]) ∧ (∀ Q ∈ [76, 78], Q ∉ [80, 80 + 1] ∧ Q + 1 ∉ [80, 80 + 1]) ∧ (∀ k ∈ [80, 80 + 1], k ∈ UCL) ∧ ρ + 1 ∉ [80, 80 + 1] ∧ ρ + 2 ∉ [80, 80 + 1] ∧ 73 ∉ [80, 80 + 1] ∧ 73 + 1 ∉ [80, 80 + 1] ∧ 70 ∉ [80, 80 + 1] ∧ 69 ∉ [80, 80 + 1] := ⟨tr_T1a h, tr_T1b h, tr_T1c h, tr_T1d h⟩
set_option maxRecDepth 20000 in
set_option maxHeartbeats 1000000 in
theorem l_try1 {X : aXt × Value} {mi : Nat → Nat → Int32} {ml : Nat → Nat → Int64} {mr : Nat → Nat → Option Nat} (hM : MRok mr) {ρ : Nat} {c0 c1 c2 : List Int32} (hρ : ρ ∈ TXS) (hr : mr 73 2 = some ρ) {hp : Int32} {t : tW} {b0 : Int32} {d : Nat} (hd : 6 ≤ d) {n dg : Int32} {F : pU → Int32 → aRw → aRw} (hF : trC X mi ml mr ρ c0 c1 c2 d 80 [76, 78, 80] 2 n hp t b0 F) {u : pU} {m0 : Nat → Nat → Int32} : ∀ (g s : Nat) (m : Nat → Nat → Int32) (a : aRw), s + g = 8 → RW ρ c0 c1 c2 mi m t b0 a → puC m 78 = u → (∀ Q ∈ [76, 78], puC m Q = puC m0 Q) → aWP (aEx (aTb X) d) cd_X4_tryRows (14, [some (.ref 69), some (.int 1), some (.int n), some (.int hp), some (.int dg), some (.int (nI s))], [], (HD, m, ml, mr)) (fun r h' => (HD.1 ≤ h'.1.1 ∧ HD.2.1 ≤ h'.1.2.1) ∧ r = none ∧ ∃ m', h' = (HD, m', ml, mr) ∧ RW ρ c0 c1 c2 mi m' t b0 (trL F t hp u dg g s a) ∧ ∀ Q ∈ [76, 78], puC m' Q = puC m0 Q) := by
  intro g
  induction g with
  | zero =>
    intro s m a hg h hu hk
    have e : s = 8 := by omega
    subst e
    refine wp_steps 2 (t' := (16, [some (.ref 69), some (.int 1), some (.int n), some (.int hp), some (.int dg), some (.int (nI 8))], [.int 8, .int (nI 8)], (HD, m, ml, mr))) rfl ?_
    refine wp_bC rfl (fun c_1 => ?_) (fun c_1 => ?_)
    rotate_left
    · have c_1 : ¬ (8 ≤ (nI 8)) := of_decide_eq_false c_1
      exact absurd (by decide) c_1
    have c_1 : 8 ≤ (nI 8) := of_decide_eq_true c_1
    refine wp_ret rfl rfl ⟨⟨Nat.le_refl _, Nat.le_refl _⟩, ?_⟩
    exact ⟨rfl, m, rfl, h, hk⟩
  | succ g ih =>
    intro s m a hg h hu hk
    have hS : s < 8 := by omega
    refine wp_steps 2 (t' := (16, [some (.ref 69), some (.int 1), some (.int n), some (.int hp), some (.int dg), some (.int (nI s))], [.int 8, .int (nI s)], (HD, m, ml, mr))) rfl ?_
    refine wp_bC rfl (fun c_1 => ?_) (fun c_1 => ?_)
    · have c_1 : 8 ≤ (nI s) := of_decide_eq_true c_1
      exact absurd c_1 (nI_ge hS (by decide))
    have c_1 : ¬ (8 ≤ (nI s)) := of_decide_eq_false c_1
    refine wp_steps 1 (t' := (18, [some (.ref 69), some (.int 1), some (.int n), some (.int hp), some (.int dg), some (.int (nI s))], [.ref 69], (HD, m, ml, mr))) rfl ?_
    refine wp_getr rfl ⟨by decide, rfl⟩ rfl (hM (69, 5, 72) (by decide)) ?_
    refine wp_steps 3 (t' := (22, [some (.ref 69), some (.int 1), some (.int n), some (.int hp), some (.int dg), some (.int (nI s))], [.int 2, .ref 72], (HD, m, ml, mr))) rfl ?_
    refine wp_aald rfl ⟨by decide, rfl⟩ (by decide) (by decide) (hM (72, 2, 80) (by decide)) ?_
    refine wp_steps 1 (t' := (24, [some (.ref 69), some (.int 1), some (.int n), some (.int hp), some (.int dg), some (.int (nI s))], [.ref 69, .ref 80], (HD, m, ml, mr))) rfl ?_
    refine wp_getr rfl ⟨by decide, rfl⟩ rfl (hM (69, 5, 72) (by decide)) ?_
    refine wp_steps 1 (t' := (26, [some (.ref 69), some (.int 1), some (.int n), some (.int hp), some (.int dg), some (.int (nI s))], [.int 1, .ref 72, .ref 80], (HD, m, ml, mr))) rfl ?_
    refine wp_aald rfl ⟨by decide, rfl⟩ (by decide) (by decide) (hM (72, 1, 78) (by decide)) ?_
    refine wp_calv (as := [.ref 78]) rfl rfl rfl (Nat.le_of_ble_eq_true rfl) ⟨by decide, rfl⟩ ((g_become (mi := m) (ml := ml) hM (P := 80) (P2 := 78) (by decide) (by decide))) (by omega) ?_
    rintro _ _ ⟨m_1, f1, u1, rfl, rfl⟩
    rw [hu] at u1
    have h1 := h.fr f1 (tr_T1 hρ).2.2.2
    show aWP _ _ (28, [some (.ref 69), some (.int 1), some (.int n), some (.int hp), some (.int dg), some (.int (nI s))], [], (HD, m_1, ml, mr)) _
    refine wp_steps 1 (t' := (29, [some (.ref 69), some (.int 1), some (.int n), some (.int hp), some (.int dg), some (.int (nI s))], [.ref 69], (HD, m_1, ml, mr))) rfl ?_
    refine wp_getr rfl ⟨by decide, rfl⟩ rfl (hM (69, 0, 73) (by decide)) ?_
    refine wp_steps 1 (t' := (31, [some (.ref 69), some (.int 1), some (.int n), some (.int hp), some (.int dg), some (.int (nI s))], [.ref 69, .ref 73], (HD, m_1, ml, mr))) rfl ?_
    refine wp_getr rfl ⟨by decide, rfl⟩ rfl (hM (69, 5, 72) (by decide)) ?_
    refine wp_steps 3 (t' := (35, [some (.ref 69), some (.int 1), some (.int n), some (.int hp), some (.int dg), some (.int (nI s))], [.int 2, .ref 72, .ref 73], (HD, m_1, ml, mr))) rfl ?_
    refine wp_aald rfl ⟨by decide, rfl⟩ (by decide) (by decide) (hM (72, 2, 80) (by decide)) ?_
    refine wp_steps 2 (t' := (38, [some (.ref 69), some (.int 1), some (.int n), some (.int hp), some (.int dg), some (.int (nI s))], [.int hp, .int (nI s), .ref 80, .ref 73], (HD, m_1, ml, mr))) rfl ?_
    refine wp_calv (as := [.ref 80, .int (nI s), .int hp]) rfl rfl rfl (Nat.le_of_ble_eq_true rfl) ⟨by decide, rfl⟩ ((g_hour (mi := m_1) (ml := ml) hM (T := 73) (P := 80) (hp := hp) (by decide) (by decide) hρ hr h1.2.1 (aix_nI hS (by decide)))) (by omega) ?_
    rintro _ _ ⟨m_2, f2, u2, rfl, rfl⟩
    rw [u1, h1.2.2.1, nI_clamp (Nat.lt_trans hS (by decide))] at u2
    have h2 := h1.fr f2 (tr_T1 hρ).1
    show aWP _ _ (39, [some (.ref 69), some (.int 1), some (.int n), some (.int hp), some (.int dg), some (.int (nI s))], [], (HD, m_2, ml, mr)) _
    refine wp_steps 13 (t' := (52, [some (.ref 69), some (.int 1), some (.int n), some (.int hp), some (.int dg), some (.int (nI s))], [.int (((10 * dg) + (nI s)) + 1), .int hp, .int n, .int 2, .ref 69], (HD, m_2, ml, mr))) rfl ?_
    refine wp_calv (as := [.int 2, .int n, .int hp, .int (((10 * dg) + (nI s)) + 1)]) rfl rfl rfl (Nat.le_of_ble_eq_true rfl) ⟨by decide, rfl⟩ ((hF m_2 _ _ _ h2 u2)) (by omega) ?_
    rintro _ _ ⟨rfl, m_3, rfl, h3, k3⟩
    have kk : ∀ Q ∈ [76, 78], puC m_3 Q = puC m Q := fun Q hq => (k3 Q (by revert Q; decide)).trans ((puC_fr f2 ((tr_T1 hρ).2.1 Q hq).1 ((tr_T1 hρ).2.1 Q hq).2).trans (puC_fr f1 ((tr_T1 hρ).2.2.1 Q hq).1 ((tr_T1 hρ).2.2.1 Q hq).2))
    show aWP _ _ (53, [some (.ref 69), some (.int 1), some (.int n), some (.int hp), some (.int dg), some (.int (nI s))], [], (HD, m_3, ml, mr)) _
    refine wp_steps 2 (t' := (14, [some (.ref 69), some (.int 1), some (.int n), some (.int hp), some (.int dg), some (.int ((nI s) + Int32.ofInt 1))], [], (HD, m_3, ml, mr))) rfl ?_
    rw [inc_nI]
    exact ih (s + 1) m_3 _ (by omega) h3 ((kk 78 (by decide)).trans hu) (fun Q hq => (kk Q hq).trans (hk Q hq))
set_option maxRecDepth 20000 in
set_option maxHeartbeats 1000000 in
theorem tr_step1 {X : aXt × Value} {mi : Nat → Nat → Int32} {ml : Nat → Nat → Int64} {mr : Nat → Nat → Option Nat} (hM : MRok mr) {ρ : Nat} {c0 c1 c2 : List Int32} (hρ : ρ ∈ TXS) (hr : mr 73 2 = some ρ) {hp : Int32} {t : tW} {b0 : Int32} {d : Nat} (hd : 6 ≤ d) {n : Int32} (hn : ¬ n ≤ 1) {F : pU → Int32 → aRw → aRw} (hF : trC X mi ml mr ρ c0 c1 c2 d 80 [76, 78, 80] 2 n hp t b0 F) : trC X mi ml mr ρ c0 c1 c2 (d + 1) 78 [76, 78] 1 n hp t b0 (fun u dg a => trL F t hp u dg 8 0 a) := by
  intro m u dg a h hu
  refine cw_of (cd := cd_X4_tryRows) (nL := 6) rfl rfl ?_
  show aWP _ _ (0, [some (.ref 69), some (.int 1), some (.int n), some (.int hp), some (.int dg), none], [], (HD, m, ml, mr)) _
  refine wp_steps 1 (t' := (1, [some (.ref 69), some (.int 1), some (.int n), some (.int hp), some (.int dg), none], [.int 1], (HD, m, ml, mr))) rfl ?_
  refine wp_bI rfl (fun c_1 => ?_) (fun c_1 => ?_)
  · have c_1 : (1 : Int32) < 0 := of_decide_eq_true c_1
    exact absurd c_1 (by decide)
  have c_1 : ¬ ((1 : Int32) < 0) := of_decide_eq_false c_1
  refine wp_steps 2 (t' := (4, [some (.ref 69), some (.int 1), some (.int n), some (.int hp), some (.int dg), none], [.int 3, .int 1], (HD, m, ml, mr))) rfl ?_
  refine wp_bC rfl (fun c_2 => ?_) (fun c_2 => ?_)
  rotate_left
  · have c_2 : ¬ ((1 : Int32) ≤ 3) := of_decide_eq_false c_2
    exact absurd c_2 (by decide)
  have c_2 : (1 : Int32) ≤ 3 := of_decide_eq_true c_2
  refine wp_steps 2 (t' := (8, [some (.ref 69), some (.int 1), some (.int n), some (.int hp), some (.int dg), none], [.int n, .int 1], (HD, m, ml, mr))) rfl ?_
  refine wp_bC rfl (fun c_3 => ?_) (fun c_3 => ?_)
  · have c_3 : n ≤ 1 := of_decide_eq_true c_3
    exact absurd c_3 hn
  have c_3 : ¬ (n ≤ 1) := of_decide_eq_false c_3
  refine wp_steps 2 (t' := (11, [some (.ref 69), some (.int 1), some (.int n), some (.int hp), some (.int dg), none], [.int 3, .int 1], (HD, m, ml, mr))) rfl ?_
  refine wp_bC rfl (fun c_4 => ?_) (fun c_4 => ?_)
  · have c_4 : 3 ≤ (1 : Int32) := of_decide_eq_true c_4
    exact absurd c_4 (by decide)
  have c_4 : ¬ (3 ≤ (1 : Int32)) := of_decide_eq_false c_4
  refine wp_steps 2 (t' := (14, [some (.ref 69), some (.int 1), some (.int n), some (.int hp), some (.int dg), some (.int 0)], [], (HD, m, ml, mr))) rfl ?_
  exact l_try1 hM hρ hr hd hF 8 0 m a rfl h hu (fun _ _ => rfl)
theorem tr_S0 {ρ : Nat} (h : ρ ∈ TXS) : ((∀ k ∈ [73 + 2, ρ + 3], k ∈ UCL) ∧ ρ + 1 ∉ [73 + 2, ρ + 3] ∧ ρ + 2 ∉ [73 + 2, ρ + 3] ∧ 73 ∉ [73 + 2, ρ + 3] ∧ 73 + 1 ∉ [73 + 2, ρ + 3] ∧ 70 ∉ [73 + 2, ρ + 3] ∧ 69 ∉ [73 + 2, ρ + 3]) ∧ ∀ Q ∈ [76], Q ∉ [73 + 2, ρ + 3] ∧ Q + 1 ∉ [73 + 2, ρ + 3] := by
  revert ρ
  decide
set_option maxRecDepth 20000 in
set_option maxHeartbeats 1000000 in
theorem tr_base0 {X : aXt × Value} {mi : Nat → Nat → Int32} {ml : Nat → Nat → Int64} {mr : Nat → Nat → Option Nat} (hM : MRok mr) {ρ : Nat} {c0 c1 c2 : List Int32} (hρ : ρ ∈ TXS) (hr : mr 73 2 = some ρ) {hp : Int32} {t : tW} {b0 : Int32} : trC X mi ml mr ρ c0 c1 c2 6 76 [76] 0 0 hp t b0 (trB t b0) := by
  intro m u dg a h hu
  refine cw_of (cd := cd_X4_tryRows) (nL := 6) rfl rfl ?_
  show aWP _ _ (0, [some (.ref 69), some (.int 0), some (.int 0), some (.int hp), some (.int dg), none], [], (HD, m, ml, mr)) _
  refine wp_steps 1 (t' := (1, [some (.ref 69), some (.int 0), some (.int 0), some (.int hp), some (.int dg), none], [.int 0], (HD, m, ml, mr))) rfl ?_
  refine wp_bI rfl (fun c_1 => ?_) (fun c_1 => ?_)
  · have c_1 : (0 : Int32) < 0 := of_decide_eq_true c_1
    exact absurd c_1 (by decide)
  have c_1 : ¬ ((0 : Int32) < 0) := of_decide_eq_false c_1
  refine wp_steps 2 (t' := (4, [some (.ref 69), some (.int 0), some (.int 0), some (.int hp), some (.int dg), none], [.int 3, .int 0], (HD, m, ml, mr))) rfl ?_
  refine wp_bC rfl (fun c_2 => ?_) (fun c_2 => ?_)
  rotate_left
  · have c_2 : ¬ ((0 : Int32) ≤ 3) := of_decide_eq_false c_2
    exact absurd c_2 (by decide)
  have c_2 : (0 : Int32) ≤ 3 := of_decide_eq_true c_2
  refine wp_steps 2 (t' := (8, [some (.ref 69), some (.int 0), some (.int 0), some (.int hp), some (.int dg), none], [.int 0, .int 0], (HD, m, ml, mr))) rfl ?_
  refine wp_bC rfl (fun c_3 => ?_) (fun c_3 => ?_)
  rotate_left
  · have c_3 : ¬ (0 ≤ (0 : Int32)) := of_decide_eq_false c_3
    exact absurd (Int32.le_refl _) c_3
  have c_3 : 0 ≤ (0 : Int32) := of_decide_eq_true c_3
  refine wp_steps 1 (t' := (57, [some (.ref 69), some (.int 0), some (.int 0), some (.int hp), some (.int dg), none], [.ref 69], (HD, m, ml, mr))) rfl ?_
  refine wp_getr rfl ⟨by decide, rfl⟩ rfl (hM (69, 0, 73) (by decide)) ?_
  refine wp_steps 1 (t' := (59, [some (.ref 69), some (.int 0), some (.int 0), some (.int hp), some (.int dg), none], [.ref 69, .ref 73], (HD, m, ml, mr))) rfl ?_
  refine wp_getr rfl ⟨by decide, rfl⟩ rfl (hM (69, 5, 72) (by decide)) ?_
  refine wp_steps 1 (t' := (61, [some (.ref 69), some (.int 0), some (.int 0), some (.int hp), some (.int dg), none], [.int 0, .ref 72, .ref 73], (HD, m, ml, mr))) rfl ?_
  refine wp_aald rfl ⟨by decide, rfl⟩ (by decide) (by decide) (hM (72, 0, 76) (by decide)) ?_
  refine wp_calv (as := [.ref 76]) rfl rfl rfl (Nat.le_of_ble_eq_true rfl) ⟨by decide, rfl⟩ ((g_managedBy (mi := m) (ml := ml) hM (T := 73) (P := 76) (by decide) (by decide) hρ hr h.2.1)) (by decide) ?_
  rintro _ _ ⟨m_1, f1, rfl, rfl⟩
  rw [h.2.2.1, hu]
  have h1 := h.fr f1 (tr_S0 hρ).1
  have hQ : ∀ Q ∈ [76], puC m_1 Q = puC m Q := fun Q hQ => puC_fr f1 ((tr_S0 hρ).2 Q hQ).1 ((tr_S0 hρ).2 Q hQ).2
  show aWP _ _ (63, [some (.ref 69), some (.int 0), some (.int 0), some (.int hp), some (.int dg), none], [.int (nI (mnG t u))], (HD, m_1, ml, mr)) _
  refine wp_steps 3 (t' := (66, [some (.ref 69), some (.int 0), some (.int 0), some (.int hp), some (.int dg), some (.int (nI (mnG t u)))], [.ref 69, .int (nI (mnG t u))], (HD, m_1, ml, mr))) rfl ?_
  refine wp_geti rfl ⟨by decide, rfl⟩ (Or.inl rfl) ?_
  refine wp_bC rfl (fun c_4 => ?_) (fun c_4 => ?_)
  · have c_4 : (nI (mnG t u)) ≤ (m_1 69 3) := of_decide_eq_true c_4
    refine wp_ret rfl rfl ⟨⟨Nat.le_refl _, Nat.le_refl _⟩, ?_⟩
    have e : trB t b0 u dg a = a := if_neg (by rw [← h1.2.2.2.2.2.1]; exact Int32.not_lt.mpr c_4)
    rw [e]
    exact ⟨rfl, m_1, rfl, h1, hQ⟩
  · have c_4 : ¬ ((nI (mnG t u)) ≤ (m_1 69 3)) := of_decide_eq_false c_4
    refine wp_steps 2 (t' := (70, [some (.ref 69), some (.int 0), some (.int 0), some (.int hp), some (.int dg), some (.int (nI (mnG t u)))], [.int (nI (mnG t u)), .ref 69], (HD, m_1, ml, mr))) rfl ?_
    refine wp_puti rfl ⟨by decide, rfl⟩ rfl (fun m_5 h_6 => ?_)
    subst h_6
    refine wp_steps 2 (t' := (73, [some (.ref 69), some (.int 0), some (.int 0), some (.int hp), some (.int dg), some (.int (nI (mnG t u)))], [.int dg, .ref 69], (HD, (aup m_1 69 3 (nI (mnG t u))), ml, mr))) rfl ?_
    refine wp_puti rfl ⟨by decide, rfl⟩ rfl (fun m_7 h_8 => ?_)
    subst h_8
    refine wp_steps 2 (t' := (76, [some (.ref 69), some (.int 0), some (.int 0), some (.int hp), some (.int dg), some (.int (nI (mnG t u)))], [.ref 69, .ref 69], (HD, (aup (aup m_1 69 3 (nI (mnG t u))) 69 2 dg), ml, mr))) rfl ?_
    refine wp_getr rfl ⟨by decide, rfl⟩ rfl (hM (69, 5, 72) (by decide)) ?_
    refine wp_steps 1 (t' := (78, [some (.ref 69), some (.int 0), some (.int 0), some (.int hp), some (.int dg), some (.int (nI (mnG t u)))], [.int 0, .ref 72, .ref 69], (HD, (aup (aup m_1 69 3 (nI (mnG t u))) 69 2 dg), ml, mr))) rfl ?_
    refine wp_aald rfl ⟨by decide, rfl⟩ (by decide) (by decide) (hM (72, 0, 76) (by decide)) ?_
    refine wp_geti rfl ⟨by decide, rfl⟩ (Or.inl rfl) ?_
    refine wp_steps 1 (t' := (81, [some (.ref 69), some (.int 0), some (.int 0), some (.int hp), some (.int dg), some (.int (nI (mnG t u)))], [.ref 69, .int ((aup (aup m_1 69 3 (nI (mnG t u))) 69 2 dg) 76 3), .ref 69], (HD, (aup (aup m_1 69 3 (nI (mnG t u))) 69 2 dg), ml, mr))) rfl ?_
    refine wp_getr rfl ⟨by decide, rfl⟩ rfl (hM (69, 1, 70) (by decide)) ?_
    refine wp_geti rfl ⟨by decide, rfl⟩ (Or.inl rfl) ?_
    refine wp_steps 1 (t' := (84, [some (.ref 69), some (.int 0), some (.int 0), some (.int hp), some (.int dg), some (.int (nI (mnG t u)))], [.int (((aup (aup m_1 69 3 (nI (mnG t u))) 69 2 dg) 76 3) - ((aup (aup m_1 69 3 (nI (mnG t u))) 69 2 dg) 70 3)), .ref 69], (HD, (aup (aup m_1 69 3 (nI (mnG t u))) 69 2 dg), ml, mr))) rfl ?_
    refine wp_puti rfl ⟨by decide, rfl⟩ rfl (fun m_9 h_10 => ?_)
    subst h_10
    refine wp_ret rfl rfl ⟨⟨Nat.le_refl _, Nat.le_refl _⟩, ?_⟩
    have e : trB t b0 u dg a = (dg, nI (mnG t u), u.2.2.2.1 - b0) := if_pos (by rw [← h1.2.2.2.2.2.1]; exact Int32.not_le.mp c_4)
    rw [e]
    have e2 : aup (aup m_1 69 3 (nI (mnG t u))) 69 2 dg 76 3 - aup (aup m_1 69 3 (nI (mnG t u))) 69 2 dg 70 3 = u.2.2.2.1 - b0 := by
      show m_1 76 3 - m_1 70 3 = _
      rw [h1.2.2.2.1, ← hu, ← hQ 76 (by decide)]
      rfl
    rw [e2]
    refine ⟨rfl, _, rfl, h1.row hρ, fun Q hq => ?_⟩
    have z : ∀ Q ∈ [76], Q ∉ [69] ∧ Q + 1 ∉ [69] := by decide
    exact (puC_fr row_frm (z Q hq).1 (z Q hq).2).trans (hQ Q hq)
theorem tr_T0a {ρ : Nat} (h : ρ ∈ TXS) : (∀ k ∈ [78, 78 + 1, 73 + 2, ρ + 3], k ∈ UCL) ∧ ρ + 1 ∉ [78, 78 + 1, 73 + 2, ρ + 3] ∧ ρ + 2 ∉ [78, 78 + 1, 73 + 2, ρ + 3] ∧ 73 ∉ [78, 78 + 1, 73 + 2, ρ + 3] ∧ 73 + 1 ∉ [78, 78 + 1, 73 + 2, ρ + 3] ∧ 70 ∉ [78, 78 + 1, 73 + 2, ρ + 3] ∧ 69 ∉ [78, 78 + 1, 73 + 2, ρ + 3] := by
  revert ρ
  decide
theorem tr_T0b {ρ : Nat} (h : ρ ∈ TXS) : ∀ Q ∈ [76], Q ∉ [78, 78 + 1, 73 + 2, ρ + 3] ∧ Q + 1 ∉ [78, 78 + 1, 73 + 2, ρ + 3] := by
  revert ρ
  decide
theorem tr_T0c {ρ : Nat} (h : ρ ∈ TXS) : ∀ Q ∈ [76], Q ∉ [78, 78 + 1] ∧ Q + 1 ∉ [78, 78 + 1] := by
  revert ρ
  decide
theorem tr_T0d {ρ : Nat} (h : ρ ∈ TXS) : (∀ k ∈ [78, 78 + 1], k ∈ UCL) ∧ ρ + 1 ∉ [78, 78 + 1] ∧ ρ + 2 ∉ [78, 78 + 1] ∧ 73 ∉ [78, 78 + 1] ∧ 73 + 1 ∉ [78, 78 + 1] ∧ 70 ∉ [78, 78 + 1] ∧ 69 ∉ [78, 78 + 1] := by
  revert ρ
  decide
theorem tr_T0 {ρ : Nat} (h : ρ ∈ TXS) : ((∀ k ∈ [78, 78 + 1, 73 + 2, ρ + 3], k ∈ UCL) ∧ ρ + 1 ∉ [78, 78 + 1, 73 + 2, ρ + 3] ∧ ρ + 2 ∉ [78, 78 + 1, 73 + 2, ρ + 3] ∧ 73 ∉ [78, 78 + 1, 73 + 2, ρ + 3] ∧ 73 + 1 ∉ [78, 78 + 1, 73 + 2, ρ + 3] ∧ 70 ∉ [78, 78 + 1, 73 + 2, ρ + 3] ∧ 69 ∉ [78, 78 + 1, 73 + 2, ρ + 3]) ∧ (∀ Q ∈ [76], Q ∉ [78, 78 + 1, 73 + 2, ρ + 3] ∧ Q + 1 ∉ [78, 78 + 1, 73 + 2, ρ + 3]) ∧ (∀ Q ∈ [76], Q ∉ [78, 78 + 1] ∧ Q + 1 ∉ [78, 78 + 1]) ∧ (∀ k ∈ [78, 78 + 1], k ∈ UCL) ∧ ρ + 1 ∉ [78, 78 + 1] ∧ ρ + 2 ∉ [78, 78 + 1] ∧ 73 ∉ [78, 78 + 1] ∧ 73 + 1 ∉ [78, 78 + 1] ∧ 70 ∉ [78, 78 + 1] ∧ 69 ∉ [78, 78 + 1] := ⟨tr_T0a h, tr_T0b h, tr_T0c h, tr_T0d h⟩
set_option maxRecDepth 20000 in
set_option maxHeartbeats 1000000 in
theorem l_try0 {X : aXt × Value} {mi : Nat → Nat → Int32} {ml : Nat → Nat → Int64} {mr : Nat → Nat → Option Nat} (hM : MRok mr) {ρ : Nat} {c0 c1 c2 : List Int32} (hρ : ρ ∈ TXS) (hr : mr 73 2 = some ρ) {hp : Int32} {t : tW} {b0 : Int32} {d : Nat} (hd : 6 ≤ d) {n dg : Int32} {F : pU → Int32 → aRw → aRw} (hF : trC X mi ml mr ρ c0 c1 c2 d 78 [76, 78] 1 n hp t b0 F) {u : pU} {m0 : Nat → Nat → Int32} : ∀ (g s : Nat) (m : Nat → Nat → Int32) (a : aRw), s + g = 8 → RW ρ c0 c1 c2 mi m t b0 a → puC m 76 = u → (∀ Q ∈ [76], puC m Q = puC m0 Q) → aWP (aEx (aTb X) d) cd_X4_tryRows (14, [some (.ref 69), some (.int 0), some (.int n), some (.int hp), some (.int dg), some (.int (nI s))], [], (HD, m, ml, mr)) (fun r h' => (HD.1 ≤ h'.1.1 ∧ HD.2.1 ≤ h'.1.2.1) ∧ r = none ∧ ∃ m', h' = (HD, m', ml, mr) ∧ RW ρ c0 c1 c2 mi m' t b0 (trL F t hp u dg g s a) ∧ ∀ Q ∈ [76], puC m' Q = puC m0 Q) := by
  intro g
  induction g with
  | zero =>
    intro s m a hg h hu hk
    have e : s = 8 := by omega
    subst e
    refine wp_steps 2 (t' := (16, [some (.ref 69), some (.int 0), some (.int n), some (.int hp), some (.int dg), some (.int (nI 8))], [.int 8, .int (nI 8)], (HD, m, ml, mr))) rfl ?_
    refine wp_bC rfl (fun c_1 => ?_) (fun c_1 => ?_)
    rotate_left
    · have c_1 : ¬ (8 ≤ (nI 8)) := of_decide_eq_false c_1
      exact absurd (by decide) c_1
    have c_1 : 8 ≤ (nI 8) := of_decide_eq_true c_1
    refine wp_ret rfl rfl ⟨⟨Nat.le_refl _, Nat.le_refl _⟩, ?_⟩
    exact ⟨rfl, m, rfl, h, hk⟩
  | succ g ih =>
    intro s m a hg h hu hk
    have hS : s < 8 := by omega
    refine wp_steps 2 (t' := (16, [some (.ref 69), some (.int 0), some (.int n), some (.int hp), some (.int dg), some (.int (nI s))], [.int 8, .int (nI s)], (HD, m, ml, mr))) rfl ?_
    refine wp_bC rfl (fun c_1 => ?_) (fun c_1 => ?_)
    · have c_1 : 8 ≤ (nI s) := of_decide_eq_true c_1
      exact absurd c_1 (nI_ge hS (by decide))
    have c_1 : ¬ (8 ≤ (nI s)) := of_decide_eq_false c_1
    refine wp_steps 1 (t' := (18, [some (.ref 69), some (.int 0), some (.int n), some (.int hp), some (.int dg), some (.int (nI s))], [.ref 69], (HD, m, ml, mr))) rfl ?_
    refine wp_getr rfl ⟨by decide, rfl⟩ rfl (hM (69, 5, 72) (by decide)) ?_
    refine wp_steps 3 (t' := (22, [some (.ref 69), some (.int 0), some (.int n), some (.int hp), some (.int dg), some (.int (nI s))], [.int 1, .ref 72], (HD, m, ml, mr))) rfl ?_
    refine wp_aald rfl ⟨by decide, rfl⟩ (by decide) (by decide) (hM (72, 1, 78) (by decide)) ?_
    refine wp_steps 1 (t' := (24, [some (.ref 69), some (.int 0), some (.int n), some (.int hp), some (.int dg), some (.int (nI s))], [.ref 69, .ref 78], (HD, m, ml, mr))) rfl ?_
    refine wp_getr rfl ⟨by decide, rfl⟩ rfl (hM (69, 5, 72) (by decide)) ?_
    refine wp_steps 1 (t' := (26, [some (.ref 69), some (.int 0), some (.int n), some (.int hp), some (.int dg), some (.int (nI s))], [.int 0, .ref 72, .ref 78], (HD, m, ml, mr))) rfl ?_
    refine wp_aald rfl ⟨by decide, rfl⟩ (by decide) (by decide) (hM (72, 0, 76) (by decide)) ?_
    refine wp_calv (as := [.ref 76]) rfl rfl rfl (Nat.le_of_ble_eq_true rfl) ⟨by decide, rfl⟩ ((g_become (mi := m) (ml := ml) hM (P := 78) (P2 := 76) (by decide) (by decide))) (by omega) ?_
    rintro _ _ ⟨m_1, f1, u1, rfl, rfl⟩
    rw [hu] at u1
    have h1 := h.fr f1 (tr_T0 hρ).2.2.2
    show aWP _ _ (28, [some (.ref 69), some (.int 0), some (.int n), some (.int hp), some (.int dg), some (.int (nI s))], [], (HD, m_1, ml, mr)) _
    refine wp_steps 1 (t' := (29, [some (.ref 69), some (.int 0), some (.int n), some (.int hp), some (.int dg), some (.int (nI s))], [.ref 69], (HD, m_1, ml, mr))) rfl ?_
    refine wp_getr rfl ⟨by decide, rfl⟩ rfl (hM (69, 0, 73) (by decide)) ?_
    refine wp_steps 1 (t' := (31, [some (.ref 69), some (.int 0), some (.int n), some (.int hp), some (.int dg), some (.int (nI s))], [.ref 69, .ref 73], (HD, m_1, ml, mr))) rfl ?_
    refine wp_getr rfl ⟨by decide, rfl⟩ rfl (hM (69, 5, 72) (by decide)) ?_
    refine wp_steps 3 (t' := (35, [some (.ref 69), some (.int 0), some (.int n), some (.int hp), some (.int dg), some (.int (nI s))], [.int 1, .ref 72, .ref 73], (HD, m_1, ml, mr))) rfl ?_
    refine wp_aald rfl ⟨by decide, rfl⟩ (by decide) (by decide) (hM (72, 1, 78) (by decide)) ?_
    refine wp_steps 2 (t' := (38, [some (.ref 69), some (.int 0), some (.int n), some (.int hp), some (.int dg), some (.int (nI s))], [.int hp, .int (nI s), .ref 78, .ref 73], (HD, m_1, ml, mr))) rfl ?_
    refine wp_calv (as := [.ref 78, .int (nI s), .int hp]) rfl rfl rfl (Nat.le_of_ble_eq_true rfl) ⟨by decide, rfl⟩ ((g_hour (mi := m_1) (ml := ml) hM (T := 73) (P := 78) (hp := hp) (by decide) (by decide) hρ hr h1.2.1 (aix_nI hS (by decide)))) (by omega) ?_
    rintro _ _ ⟨m_2, f2, u2, rfl, rfl⟩
    rw [u1, h1.2.2.1, nI_clamp (Nat.lt_trans hS (by decide))] at u2
    have h2 := h1.fr f2 (tr_T0 hρ).1
    show aWP _ _ (39, [some (.ref 69), some (.int 0), some (.int n), some (.int hp), some (.int dg), some (.int (nI s))], [], (HD, m_2, ml, mr)) _
    refine wp_steps 13 (t' := (52, [some (.ref 69), some (.int 0), some (.int n), some (.int hp), some (.int dg), some (.int (nI s))], [.int (((10 * dg) + (nI s)) + 1), .int hp, .int n, .int 1, .ref 69], (HD, m_2, ml, mr))) rfl ?_
    refine wp_calv (as := [.int 1, .int n, .int hp, .int (((10 * dg) + (nI s)) + 1)]) rfl rfl rfl (Nat.le_of_ble_eq_true rfl) ⟨by decide, rfl⟩ ((hF m_2 _ _ _ h2 u2)) (by omega) ?_
    rintro _ _ ⟨rfl, m_3, rfl, h3, k3⟩
    have kk : ∀ Q ∈ [76], puC m_3 Q = puC m Q := fun Q hq => (k3 Q (by revert Q; decide)).trans ((puC_fr f2 ((tr_T0 hρ).2.1 Q hq).1 ((tr_T0 hρ).2.1 Q hq).2).trans (puC_fr f1 ((tr_T0 hρ).2.2.1 Q hq).1 ((tr_T0 hρ).2.2.1 Q hq).2))
    show aWP _ _ (53, [some (.ref 69), some (.int 0), some (.int n), some (.int hp), some (.int dg), some (.int (nI s))], [], (HD, m_3, ml, mr)) _
    refine wp_steps 2 (t' := (14, [some (.ref 69), some (.int 0), some (.int n), some (.int hp), some (.int dg), some (.int ((nI s) + Int32.ofInt 1))], [], (HD, m_3, ml, mr))) rfl ?_
    rw [inc_nI]
    exact ih (s + 1) m_3 _ (by omega) h3 ((kk 76 (by decide)).trans hu) (fun Q hq => (kk Q hq).trans (hk Q hq))
set_option maxRecDepth 20000 in
set_option maxHeartbeats 1000000 in
theorem tr_step0 {X : aXt × Value} {mi : Nat → Nat → Int32} {ml : Nat → Nat → Int64} {mr : Nat → Nat → Option Nat} (hM : MRok mr) {ρ : Nat} {c0 c1 c2 : List Int32} (hρ : ρ ∈ TXS) (hr : mr 73 2 = some ρ) {hp : Int32} {t : tW} {b0 : Int32} {d : Nat} (hd : 6 ≤ d) {n : Int32} (hn : ¬ n ≤ 0) {F : pU → Int32 → aRw → aRw} (hF : trC X mi ml mr ρ c0 c1 c2 d 78 [76, 78] 1 n hp t b0 F) : trC X mi ml mr ρ c0 c1 c2 (d + 1) 76 [76] 0 n hp t b0 (fun u dg a => trL F t hp u dg 8 0 a) := by
  intro m u dg a h hu
  refine cw_of (cd := cd_X4_tryRows) (nL := 6) rfl rfl ?_
  show aWP _ _ (0, [some (.ref 69), some (.int 0), some (.int n), some (.int hp), some (.int dg), none], [], (HD, m, ml, mr)) _
  refine wp_steps 1 (t' := (1, [some (.ref 69), some (.int 0), some (.int n), some (.int hp), some (.int dg), none], [.int 0], (HD, m, ml, mr))) rfl ?_
  refine wp_bI rfl (fun c_1 => ?_) (fun c_1 => ?_)
  · have c_1 : (0 : Int32) < 0 := of_decide_eq_true c_1
    exact absurd c_1 (by decide)
  have c_1 : ¬ ((0 : Int32) < 0) := of_decide_eq_false c_1
  refine wp_steps 2 (t' := (4, [some (.ref 69), some (.int 0), some (.int n), some (.int hp), some (.int dg), none], [.int 3, .int 0], (HD, m, ml, mr))) rfl ?_
  refine wp_bC rfl (fun c_2 => ?_) (fun c_2 => ?_)
  rotate_left
  · have c_2 : ¬ ((0 : Int32) ≤ 3) := of_decide_eq_false c_2
    exact absurd c_2 (by decide)
  have c_2 : (0 : Int32) ≤ 3 := of_decide_eq_true c_2
  refine wp_steps 2 (t' := (8, [some (.ref 69), some (.int 0), some (.int n), some (.int hp), some (.int dg), none], [.int n, .int 0], (HD, m, ml, mr))) rfl ?_
  refine wp_bC rfl (fun c_3 => ?_) (fun c_3 => ?_)
  · have c_3 : n ≤ 0 := of_decide_eq_true c_3
    exact absurd c_3 hn
  have c_3 : ¬ (n ≤ 0) := of_decide_eq_false c_3
  refine wp_steps 2 (t' := (11, [some (.ref 69), some (.int 0), some (.int n), some (.int hp), some (.int dg), none], [.int 3, .int 0], (HD, m, ml, mr))) rfl ?_
  refine wp_bC rfl (fun c_4 => ?_) (fun c_4 => ?_)
  · have c_4 : 3 ≤ (0 : Int32) := of_decide_eq_true c_4
    exact absurd c_4 (by decide)
  have c_4 : ¬ (3 ≤ (0 : Int32)) := of_decide_eq_false c_4
  refine wp_steps 2 (t' := (14, [some (.ref 69), some (.int 0), some (.int n), some (.int hp), some (.int dg), some (.int 0)], [], (HD, m, ml, mr))) rfl ?_
  exact l_try0 hM hρ hr hd hF 8 0 m a rfl h hu (fun _ _ => rfl)
theorem row69 {m : Nat → Nat → Int32} {x y z : Int32} : frm [69] m (aup (aup (aup m 69 2 x) 69 3 y) 69 4 z) := fun k j q => by
  have : k ≠ 69 := fun z => q (by rw [z]; exact List.mem_cons_self ..)
  simp [aup, this]
theorem tr_S9 {ρ : Nat} (h : ρ ∈ TXS) : (∀ k ∈ [76, 76 + 1, 69], k ∈ UCL) ∧ ρ + 1 ∉ [76, 76 + 1, 69] ∧ ρ + 2 ∉ [76, 76 + 1, 69] ∧ 73 ∉ [76, 76 + 1, 69] ∧ 73 + 1 ∉ [76, 76 + 1, 69] ∧ 70 ∉ [76, 76 + 1, 69] := by
  revert ρ
  decide
set_option maxRecDepth 20000 in
set_option maxHeartbeats 1000000 in
theorem t_beginRows {X : aXt × Value} {mi : Nat → Nat → Int32} {ml : Nat → Nat → Int64} {mr : Nat → Nat → Option Nat} (hM : MRok mr) {ρ : Nat} {c0 c1 c2 : List Int32} (hρ : ρ ∈ TXS) (hr : mr 63 2 = some ρ) (hx : TXok mi ρ c0 c1 c2) {P : Nat} (hP : P ∈ PU5) : aCW X 3 46 [.ref 69, .ref 63, .ref P] (HD, mi, ml, mr) (fun r h' => r = none ∧ ∃ m', h' = (HD, m', ml, aup mr 73 2 (some ρ)) ∧ RW ρ c0 c1 c2 mi m' (twC mi 63 c0 c1 c2) (puC mi P).2.2.2.1 (0, -1, 0) ∧ puC m' 76 = puC mi P) := by
  refine cw_of (cd := cd_X4_beginRows) (nL := 3) rfl rfl ?_
  show aWP _ _ (0, [some (.ref 69), some (.ref 63), some (.ref P)], [], (HD, mi, ml, mr)) _
  refine wp_steps 3 (t' := (3, [some (.ref 69), some (.ref 63), some (.ref P)], [.ref P, .ref 63, .ref 69], (HD, mi, ml, mr))) rfl ?_
  refine wp_calv (as := [.ref 63, .ref P]) rfl rfl rfl (Nat.le_of_ble_eq_true rfl) ⟨by decide, rfl⟩ ((t_begin (ml := ml) hM hρ hr (frm.rf _ _) hx hP)) (by decide) ?_
  rintro _ _ ⟨rfl, m_1, rfl, h1⟩
  show aWP _ _ (4, [some (.ref 69), some (.ref 63), some (.ref P)], [], (HD, m_1, ml, (aup mr 73 2 (some ρ)))) _
  refine wp_steps 1 (t' := (5, [some (.ref 69), some (.ref 63), some (.ref P)], [.ref 69], (HD, m_1, ml, (aup mr 73 2 (some ρ))))) rfl ?_
  refine wp_getr rfl ⟨by decide, rfl⟩ rfl ((mr_up hM (by decide) _) (69, 5, 72) (by decide)) ?_
  refine wp_steps 1 (t' := (7, [some (.ref 69), some (.ref 63), some (.ref P)], [.int 0, .ref 72], (HD, m_1, ml, (aup mr 73 2 (some ρ))))) rfl ?_
  refine wp_aald rfl ⟨by decide, rfl⟩ (by decide) (by decide) (mr_up hM (by decide) _ (72, 0, 76) (by decide)) ?_
  refine wp_steps 1 (t' := (9, [some (.ref 69), some (.ref 63), some (.ref P)], [.ref P, .ref 76], (HD, m_1, ml, (aup mr 73 2 (some ρ))))) rfl ?_
  refine wp_calv (as := [.ref P]) rfl rfl rfl (Nat.le_of_ble_eq_true rfl) ⟨by decide, rfl⟩ ((g_become (mi := m_1) (ml := ml) (mr_up hM (by decide) _) (P := 76) (P2 := P) (by decide) (p5_U hP).2.2.1)) (by decide) ?_
  rintro _ _ ⟨m_2, f2, u2, rfl, rfl⟩
  show aWP _ _ (10, [some (.ref 69), some (.ref 63), some (.ref P)], [], (HD, m_2, ml, (aup mr 73 2 (some ρ)))) _
  refine wp_steps 2 (t' := (12, [some (.ref 69), some (.ref 63), some (.ref P)], [.int 0, .ref 69], (HD, m_2, ml, (aup mr 73 2 (some ρ))))) rfl ?_
  refine wp_puti rfl ⟨by decide, rfl⟩ rfl (fun m_1 h_2 => ?_)
  subst h_2
  refine wp_steps 2 (t' := (15, [some (.ref 69), some (.ref 63), some (.ref P)], [.int (-1), .ref 69], (HD, (aup m_2 69 2 0), ml, (aup mr 73 2 (some ρ))))) rfl ?_
  refine wp_puti rfl ⟨by decide, rfl⟩ rfl (fun m_3 h_4 => ?_)
  subst h_4
  refine wp_steps 2 (t' := (18, [some (.ref 69), some (.ref 63), some (.ref P)], [.int 0, .ref 69], (HD, (aup (aup m_2 69 2 0) 69 3 (-1)), ml, (aup mr 73 2 (some ρ))))) rfl ?_
  refine wp_puti rfl ⟨by decide, rfl⟩ rfl (fun m_5 h_6 => ?_)
  subst h_6
  refine wp_ret rfl rfl ⟨⟨Nat.le_refl _, Nat.le_refl _⟩, ?_⟩
  have f3 : frm [76, 76 + 1, 69] m_1 (aup (aup (aup m_2 69 2 0) 69 3 (-1)) 69 4 0) := fun k j q => by
    simp only [List.mem_cons, List.not_mem_nil, or_false, not_or] at q
    rw [← f2 k j (by simp only [List.mem_cons, List.not_mem_nil, or_false, not_or]; exact ⟨q.1, q.2.1⟩)]
    simp [aup, q.2.2]
  obtain ⟨s1, s2, s3, s4, s5, s6⟩ := tr_S9 hρ
  obtain ⟨a1, a2, a3, a4⟩ := h1
  refine ⟨rfl, _, rfl, ⟨a1.tr (f3.wk s1), TXok_fr f3 a2 s2 s3, (twC_fr f3 s4 s5).trans a3, ?_, by simp [aup], by simp [aup], by simp [aup]⟩, ?_⟩
  · rw [f3 70 3 s6, ← a4]; rfl
  · rw [← puC_fr a1 (p5_U hP).1 (p5_U hP).2.1, ← u2]
    exact puC_fr (row69 (m := m_2)) (by decide) (by decide)
theorem t_rows {X : aXt × Value} {mi : Nat → Nat → Int32} {ml : Nat → Nat → Int64} {mr : Nat → Nat → Option Nat} (hM : MRok mr) {ρ : Nat} {c0 c1 c2 : List Int32} (hρ : ρ ∈ TXS) (hr : mr 73 2 = some ρ) {hp : Int32} {t : tW} {b0 : Int32} : ∀ {N : Nat}, N ≤ 3 → trC X mi ml mr ρ c0 c1 c2 9 76 [76] 0 (nI N) hp t b0 (trG t hp b0 N)
  | 0, _ => fun m u dg a h hu => cw_up (by decide) (tr_base0 hM hρ hr m u dg a h hu)
  | 1, _ => fun m u dg a h hu => cw_up (by decide) (tr_step0 hM hρ hr (by decide) (by decide) (tr_base1 hM hρ hr) m u dg a h hu)
  | 2, _ => fun m u dg a h hu => cw_up (by decide) (tr_step0 hM hρ hr (by decide) (by decide) (tr_step1 hM hρ hr (by decide) (by decide) (tr_base2 hM hρ hr)) m u dg a h hu)
  | 3, _ => fun m u dg a h hu => cw_up (by decide) (tr_step0 hM hρ hr (by decide) (by decide) (tr_step1 hM hρ hr (by decide) (by decide) (tr_step2 hM hρ hr (by decide) (by decide) (tr_base3 hM hρ hr))) m u dg a h hu)
  | n + 4, h => absurd h (by omega)
