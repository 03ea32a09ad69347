/-! the thought (written by wip/whole/mkthi1.py) -/
/-- rows of the class that no call shows -/
def UCL : List Nat := [69, 70, 71, 72, 73, 74, 75, 76, 77, 78, 79, 80, 81, 82, 83, 65, 68, 7, 14, 18, 22, 26, 30, 34]
/-- the learners themselves -/
def PU5 : List Nat := [35, 39, 43, 47, 51]
def TH (ρ : Nat) (c0 c1 c2 : List Int32) (mi m : Nat → Nat → Int32) (t : tW) (u : pU) : Prop := frm UCL mi m ∧ TXok m ρ c0 c1 c2 ∧ twC m 73 c0 c1 c2 = t ∧ puC m 70 = u
theorem th_S {ρ : Nat} (h : ρ ∈ TXS) : (∀ k ∈ [70, 70 + 1, 73 + 2, ρ + 3], k ∈ UCL) ∧ ρ + 1 ∉ [70, 70 + 1, 73 + 2, ρ + 3] ∧ ρ + 2 ∉ [70, 70 + 1, 73 + 2, ρ + 3] ∧ 73 ∉ [70, 70 + 1, 73 + 2, ρ + 3] ∧ 73 + 1 ∉ [70, 70 + 1, 73 + 2, ρ + 3] := by
  revert ρ
  decide
theorem th_R {ρ : Nat} (h : ρ ∈ TXS) : (∀ k ∈ [73 + 2, ρ + 3], k ∈ UCL) ∧ ρ + 1 ∉ [73 + 2, ρ + 3] ∧ ρ + 2 ∉ [73 + 2, ρ + 3] ∧ 73 ∉ [73 + 2, ρ + 3] ∧ 73 + 1 ∉ [73 + 2, ρ + 3] ∧ 70 ∉ [73 + 2, ρ + 3] ∧ 70 + 1 ∉ [73 + 2, ρ + 3] := by
  revert ρ
  decide
theorem tx_U {ρ : Nat} (h : ρ ∈ TXS) : ρ + 1 ∉ UCL ∧ ρ + 2 ∉ UCL ∧ ρ ∉ UCL := by
  revert ρ
  decide
theorem p5_U {P : Nat} (h : P ∈ PU5) : P ∉ UCL ∧ P + 1 ∉ UCL ∧ P ∈ PUPS ∧ P ∉ [73, 73 + 1] ∧ P + 1 ∉ [73, 73 + 1] := by
  revert P
  decide
theorem TH.hr {ρ : Nat} {c0 c1 c2 : List Int32} {mi m m' : Nat → Nat → Int32} {t : tW} {u u' : pU} (h : TH ρ c0 c1 c2 mi m t u) (hρ : ρ ∈ TXS) (h1 : frm [70, 70 + 1, 73 + 2, ρ + 3] m m') (h2 : puC m' 70 = u') : TH ρ c0 c1 c2 mi m' t u' := by
  obtain ⟨a1, a2, a3, a4⟩ := h
  obtain ⟨s1, s2, s3, s4, s5⟩ := th_S hρ
  exact ⟨a1.tr (h1.wk s1), TXok_fr h1 a2 s2 s3, (twC_fr h1 s4 s5).trans a3, h2⟩
theorem TH.rd {ρ : Nat} {c0 c1 c2 : List Int32} {mi m m' : Nat → Nat → Int32} {t : tW} {u : pU} (h : TH ρ c0 c1 c2 mi m t u) (hρ : ρ ∈ TXS) (h1 : frm [73 + 2, ρ + 3] m m') : TH ρ c0 c1 c2 mi m' t u := by
  obtain ⟨a1, a2, a3, a4⟩ := h
  obtain ⟨s1, s2, s3, s4, s5, s6, s7⟩ := th_R hρ
  exact ⟨a1.tr (h1.wk s1), TXok_fr h1 a2 s2 s3, (twC_fr h1 s4 s5).trans a3, (puC_fr h1 s6 s7).trans a4⟩
theorem mr_up {mr : Nat → Nat → Option Nat} (hM : MRok mr) {T : Nat} (hT : T ∈ TOWNS) (v : Option Nat) : MRok (aup mr T 2 v) := by
  intro q hq
  have h : ∀ T ∈ TOWNS, ∀ q ∈ MRL, ¬ (q.1 = T ∧ q.2.1 = 2) := by decide
  have h2 := h T hT q hq
  unfold aup
  by_cases e : q.1 = T
  · rw [if_pos e, if_neg (fun z => h2 ⟨e, z⟩)]; exact hM q hq
  · rw [if_neg e]; exact hM q hq
theorem mr_at {mr : Nat → Nat → Option Nat} {T : Nat} (v : Option Nat) : aup mr T 2 v T 2 = v := by simp [aup]
theorem mr_off {mr : Nat → Nat → Option Nat} {T K : Nat} (h : K ≠ T) (v : Option Nat) : aup mr T 2 v K 2 = mr K 2 := by simp [aup, h]
theorem mr_tw {mr : Nat → Nat → Option Nat} {T : Nat} (v w : Option Nat) : aup (aup mr T 2 v) T 2 w = aup mr T 2 w := by
  funext k j
  unfold aup
  split
  · split <;> rfl
  · rfl
theorem t_margin {X : aXt × Value} {mi : Nat → Nat → Int32} {ml : Nat → Nat → Int64} {mr : Nat → Nat → Option Nat} (hM : MRok mr) {ρ : Nat} {c0 c1 c2 : List Int32} (hρ : ρ ∈ TXS) (hr : mr 73 2 = some ρ) {m : Nat → Nat → Int32} {t : tW} {u : pU} (h : TH ρ c0 c1 c2 mi m t u) {s : Int32} (hs : aixn s 8 = true) : aCW X 4 59 [.ref 73, .ref 70, .int s] (HD, m, ml, mr) (fun r h' => r = some (.int (maG t u s.toNatClampNeg)) ∧ ∃ m', h' = (HD, m', ml, mr) ∧ TH ρ c0 c1 c2 mi m' t u) := by
  obtain ⟨r, h', g, m', h1, h2, h3⟩ := g_margin (mi := m) (ml := ml) hM (T := 73) (P := 70) (by decide) (by decide) hρ hr h.2.1 hs
  exact ⟨r, h', g, by rw [h3, h.2.2.1, h.2.2.2], m', h2, h.rd hρ h1⟩
theorem t_managedBy {X : aXt × Value} {mi : Nat → Nat → Int32} {ml : Nat → Nat → Int64} {mr : Nat → Nat → Option Nat} (hM : MRok mr) {ρ : Nat} {c0 c1 c2 : List Int32} (hρ : ρ ∈ TXS) (hr : mr 73 2 = some ρ) {m : Nat → Nat → Int32} {t : tW} {u : pU} (h : TH ρ c0 c1 c2 mi m t u)  : aCW X 5 60 [.ref 73, .ref 70] (HD, m, ml, mr) (fun r h' => r = some (.int (nI (mnG t u))) ∧ ∃ m', h' = (HD, m', ml, mr) ∧ TH ρ c0 c1 c2 mi m' t u) := by
  obtain ⟨r, h', g, m', h1, h2, h3⟩ := g_managedBy (mi := m) (ml := ml) hM (T := 73) (P := 70) (by decide) (by decide) hρ hr h.2.1 
  exact ⟨r, h', g, by rw [h3, h.2.2.1, h.2.2.2], m', h2, h.rd hρ h1⟩
theorem t_isReady {X : aXt × Value} {mi : Nat → Nat → Int32} {ml : Nat → Nat → Int64} {mr : Nat → Nat → Option Nat} (hM : MRok mr) {ρ : Nat} {c0 c1 c2 : List Int32} (hρ : ρ ∈ TXS) (hr : mr 73 2 = some ρ) {m : Nat → Nat → Int32} {t : tW} {u : pU} (h : TH ρ c0 c1 c2 mi m t u)  : aCW X 5 61 [.ref 73, .ref 70] (HD, m, ml, mr) (fun r h' => r = some (.int (if mnG t u = 8 then 1 else 0)) ∧ ∃ m', h' = (HD, m', ml, mr) ∧ TH ρ c0 c1 c2 mi m' t u) := by
  obtain ⟨r, h', g, m', h1, h2, h3⟩ := g_isReady (mi := m) (ml := ml) hM (T := 73) (P := 70) (by decide) (by decide) hρ hr h.2.1 
  exact ⟨r, h', g, by rw [h3, h.2.2.1, h.2.2.2], m', h2, h.rd hρ h1⟩
theorem t_hour {X : aXt × Value} {mi : Nat → Nat → Int32} {ml : Nat → Nat → Int64} {mr : Nat → Nat → Option Nat} (hM : MRok mr) {ρ : Nat} {c0 c1 c2 : List Int32} (hρ : ρ ∈ TXS) (hr : mr 73 2 = some ρ) {m : Nat → Nat → Int32} {t : tW} {u : pU} (h : TH ρ c0 c1 c2 mi m t u) {s hp : Int32} (hs : aixn s 8 = true) : aCW X 5 63 [.ref 73, .ref 70, .int s, .int hp] (HD, m, ml, mr) (fun r h' => r = none ∧ ∃ m', h' = (HD, m', ml, mr) ∧ TH ρ c0 c1 c2 mi m' t (hrG t u s.toNatClampNeg hp)) := by
  obtain ⟨r, h', g, m', h1, h2, h3, h4⟩ := g_hour (mi := m) (ml := ml) hM (T := 73) (P := 70) (hp := hp) (by decide) (by decide) hρ hr h.2.1 hs
  exact ⟨r, h', g, h4, m', h3, h.hr hρ h1 (by rw [h2, h.2.2.1, h.2.2.2])⟩
theorem t_sleep {X : aXt × Value} {mi : Nat → Nat → Int32} {ml : Nat → Nat → Int64} {mr : Nat → Nat → Option Nat} (hM : MRok mr) {ρ : Nat} {c0 c1 c2 : List Int32} (hρ : ρ ∈ TXS) (hr : mr 73 2 = some ρ) {m : Nat → Nat → Int32} {t : tW} {u : pU} (h : TH ρ c0 c1 c2 mi m t u) : aCW X 5 64 [.ref 73, .ref 70] (HD, m, ml, mr) (fun r h' => r = none ∧ ∃ m', h' = (HD, m', ml, mr) ∧ TH ρ c0 c1 c2 mi m' t (spG t u)) := by
  obtain ⟨r, h', g, m', h1, h2, h3, h4⟩ := g_sleep (mi := m) (ml := ml) hM (T := 73) (P := 70) (by decide) (by decide) hρ hr h.2.1
  exact ⟨r, h', g, h4, m', h3, h.hr hρ h1 (by rw [h2, h.2.2.1, h.2.2.2])⟩
theorem t_least {X : aXt × Value} {mi : Nat → Nat → Int32} {ml : Nat → Nat → Int64} {mr : Nat → Nat → Option Nat} (hM : MRok mr) {ρ : Nat} {c0 c1 c2 : List Int32} (hρ : ρ ∈ TXS) (hr : mr 73 2 = some ρ) {m : Nat → Nat → Int32} {t : tW} {u : pU} (h : TH ρ c0 c1 c2 mi m t u) : aCW X 1 10 [.ref 70] (HD, m, ml, mr) (rdI m ml mr (nI (wkF u.2.2.2.2 8))) := by
  have g := g_least (X := X) (mi := m) (ml := ml) hM (P := 70) (by decide)
  rw [h.2.2.2] at g
  exact g
theorem t_together {X : aXt × Value} {mi : Nat → Nat → Int32} {ml : Nat → Nat → Int64} {mr : Nat → Nat → Option Nat} (hM : MRok mr) {ρ : Nat} {c0 c1 c2 : List Int32} (hρ : ρ ∈ TXS) (hr : mr 73 2 = some ρ) {m : Nat → Nat → Int32} {t : tW} {u : pU} (h : TH ρ c0 c1 c2 mi m t u) : aCW X 1 11 [.ref 70] (HD, m, ml, mr) (rdI m ml mr (smF u.2.2.2.2 8)) := by
  have g := g_together (X := X) (mi := m) (ml := ml) hM (P := 70) (by decide)
  rw [h.2.2.2] at g
  exact g
set_option maxRecDepth 20000 in
set_option maxHeartbeats 1000000 in
theorem t_begin {X : aXt × Value} {mi : Nat → Nat → Int32} {ml : Nat → Nat → Int64} {mr : Nat → Nat → Option Nat} (hM : MRok mr) {ρ : Nat} {c0 c1 c2 : List Int32} (hρ : ρ ∈ TXS) (hr : mr 63 2 = some ρ) {m : Nat → Nat → Int32} (hf : frm UCL mi m) (hx : TXok mi ρ c0 c1 c2) {P : Nat} (hP : P ∈ PU5) : aCW X 2 44 [.ref 69, .ref 63, .ref P] (HD, m, ml, mr) (fun r h' => r = none ∧ ∃ m', h' = (HD, m', ml, aup mr 73 2 (some ρ)) ∧ TH ρ c0 c1 c2 mi m' (twC mi 63 c0 c1 c2) (puC mi P)) := by
  have hM2 : MRok (aup mr 73 2 (some ρ)) := mr_up hM (by decide) _
  refine cw_of (cd := cd_X4_begin) (nL := 3) rfl rfl ?_
  show aWP _ _ (0, [some (.ref 69), some (.ref 63), some (.ref P)], [], (HD, m, ml, mr)) _
  refine wp_steps 1 (t' := (1, [some (.ref 69), some (.ref 63), some (.ref P)], [.ref 69], (HD, m, ml, mr))) rfl ?_
  refine wp_getr rfl ⟨by decide, rfl⟩ rfl (hM (69, 0, 73) (by decide)) ?_
  refine wp_steps 1 (t' := (3, [some (.ref 69), some (.ref 63), some (.ref P)], [.ref 63, .ref 73], (HD, m, ml, mr))) rfl ?_
  refine wp_calv (as := [.ref 63]) rfl rfl rfl (Nat.le_of_ble_eq_true rfl) ⟨by decide, rfl⟩ ((g_Tbecome (mi := m) (ml := ml) hM (T := 73) (T2 := 63) (by decide) (by decide) hr)) (by decide) ?_
  rintro _ _ ⟨m_1, f1, t1, rfl, rfl⟩
  show aWP _ _ (4, [some (.ref 69), some (.ref 63), some (.ref P)], [], (HD, m_1, ml, (aup mr 73 2 (some ρ)))) _
  refine wp_steps 1 (t' := (5, [some (.ref 69), some (.ref 63), some (.ref P)], [.ref 69], (HD, m_1, ml, (aup mr 73 2 (some ρ))))) rfl ?_
  refine wp_getr rfl ⟨by decide, rfl⟩ rfl (hM2 (69, 1, 70) (by decide)) ?_
  refine wp_steps 1 (t' := (7, [some (.ref 69), some (.ref 63), some (.ref P)], [.ref P, .ref 70], (HD, m_1, ml, (aup mr 73 2 (some ρ))))) rfl ?_
  refine wp_calv (as := [.ref P]) rfl rfl rfl (Nat.le_of_ble_eq_true rfl) ⟨by decide, rfl⟩ ((g_become (mi := m_1) (ml := ml) hM2 (P := 70) (P2 := P) (by decide) (p5_U hP).2.2.1)) (by decide) ?_
  rintro _ _ ⟨m_2, f2, p2, rfl, rfl⟩
  show aWP _ _ (8, [some (.ref 69), some (.ref 63), some (.ref P)], [], (HD, m_2, ml, (aup mr 73 2 (some ρ)))) _
  refine wp_ret rfl rfl ⟨⟨Nat.le_refl _, Nat.le_refl _⟩, ?_⟩
  refine ⟨rfl, m_2, rfl, ?_, ?_, ?_, ?_⟩
  · exact (hf.tr (f1.wk (by decide))).tr (f2.wk (by decide))
  · have q := tx_U hρ
    exact TXok_fr ((hf.tr (f1.wk (S' := UCL) (by decide))).tr (f2.wk (by decide))) hx q.1 q.2.1
  · rw [twC_fr f2 (by decide) (by decide), t1, twC_fr hf (by decide) (by decide)]
  · rw [p2, puC_fr f1 (p5_U hP).2.2.2.1 (p5_U hP).2.2.2.2, puC_fr hf (p5_U hP).1 (p5_U hP).2.1]
def ndG (t : tW) : tW := (t.1, t.2.1 + 1, t.2.2)
theorem TH.nd {ρ : Nat} {c0 c1 c2 : List Int32} {mi m : Nat → Nat → Int32} {t : tW} {u : pU} (h : TH ρ c0 c1 c2 mi m t u) (hρ : ρ ∈ TXS) : TH ρ c0 c1 c2 mi (aup m 73 1 (m 73 1 + 1)) (ndG t) u := by
  obtain ⟨a1, a2, a3, a4⟩ := h
  have f : frm [73] m (aup m 73 1 (m 73 1 + 1)) := fun k j q => by
    have : k ≠ 73 := fun z => q (by rw [z]; exact List.mem_cons_self ..)
    simp [aup, this]
  have q := tx_U hρ
  have q2 : ρ + 1 ∉ [73] ∧ ρ + 2 ∉ [73] := by
    clear q a2
    revert ρ
    decide
  refine ⟨a1.tr (f.wk (by decide)), TXok_fr f a2 q2.1 q2.2, ?_, (puC_fr f (by decide) (by decide)).trans a4⟩
  rw [← a3]
  refine Prod.ext (funext fun j => ?_) (Prod.ext ?_ rfl)
  · simp [twC, ndG, aup, c8]
  · simp [twC, ndG, aup]
set_option maxRecDepth 20000 in
set_option maxHeartbeats 1000000 in
theorem t_night {X : aXt × Value} {mi : Nat → Nat → Int32} {ml : Nat → Nat → Int64} {mr : Nat → Nat → Option Nat} (hM : MRok mr) {ρ : Nat} {c0 c1 c2 : List Int32} (hρ : ρ ∈ TXS) (hr : mr 73 2 = some ρ) {m : Nat → Nat → Int32} {t : tW} {u : pU} (h : TH ρ c0 c1 c2 mi m t u) : aCW X 6 49 [.ref 69] (HD, m, ml, mr) (fun r h' => r = none ∧ ∃ m', h' = (HD, m', ml, mr) ∧ TH ρ c0 c1 c2 mi m' (ndG t) (spG t u)) := by
  refine cw_of (cd := cd_X4_passNight) (nL := 1) rfl rfl ?_
  show aWP _ _ (0, [some (.ref 69)], [], (HD, m, ml, mr)) _
  refine wp_steps 1 (t' := (1, [some (.ref 69)], [.ref 69], (HD, m, ml, mr))) rfl ?_
  refine wp_getr rfl ⟨by decide, rfl⟩ rfl (hM (69, 0, 73) (by decide)) ?_
  refine wp_steps 1 (t' := (3, [some (.ref 69)], [.ref 69, .ref 73], (HD, m, ml, mr))) rfl ?_
  refine wp_getr rfl ⟨by decide, rfl⟩ rfl (hM (69, 1, 70) (by decide)) ?_
  refine wp_calv (as := [.ref 70]) rfl rfl rfl (Nat.le_of_ble_eq_true rfl) ⟨by decide, rfl⟩ ((t_sleep (ml := ml) hM hρ hr h)) (by decide) ?_
  rintro _ _ ⟨rfl, m_1, rfl, h1⟩
  show aWP _ _ (5, [some (.ref 69)], [], (HD, m_1, ml, mr)) _
  refine wp_steps 1 (t' := (6, [some (.ref 69)], [.ref 69], (HD, m_1, ml, mr))) rfl ?_
  refine wp_getr rfl ⟨by decide, rfl⟩ rfl (hM (69, 0, 73) (by decide)) ?_
  refine wp_steps 1 (t' := (8, [some (.ref 69)], [.ref 73, .ref 73], (HD, m_1, ml, mr))) rfl ?_
  refine wp_geti rfl ⟨by decide, rfl⟩ (Or.inl rfl) ?_
  refine wp_steps 2 (t' := (11, [some (.ref 69)], [.int ((m_1 73 1) + 1), .ref 73], (HD, m_1, ml, mr))) rfl ?_
  refine wp_puti rfl ⟨by decide, rfl⟩ rfl (fun m_1 h_2 => ?_)
  subst h_2
  refine wp_ret rfl rfl ⟨⟨Nat.le_refl _, Nat.le_refl _⟩, ?_⟩
  exact ⟨rfl, _, rfl, h1.nd hρ⟩
