/-! the thought: items that are otherwise; the best hour; rows of hours (written by wip/whole/mkthi3.py) -/
theorem TH.sk {ρ : Nat} {c0 c1 c2 : List Int32} {mi m : Nat → Nat → Int32} {t : tW} {u : pU} (h : TH ρ c0 c1 c2 mi m t u) {s : Nat} (hs : s < 8) : m 71 s = u.2.2.2.2 s := by
  rw [← h.2.2.2]
  exact (c8_lt hs).symm
theorem sh_U {K : Nat} (h : K ∈ SHS) : K ∉ UCL ∧ K + 1 ∉ UCL := by
  revert K
  decide
set_option maxRecDepth 20000 in
set_option maxHeartbeats 1000000 in
theorem l_first {X : aXt × Value} {mi : Nat → Nat → Int32} {ml : Nat → Nat → Int64} {mr : Nat → Nat → Option Nat} (hM : MRok mr) {ρ : Nat} {c0 c1 c2 : List Int32} (hρ : ρ ∈ TXS) (hr : mr 73 2 = some ρ) {t : tW} {K Z : Nat} (hK : K ∈ SHS) (hz : mi K 1 = nI Z) (hZ : Z ≤ 40) {s hp : Int32} (hs : aixn s 8 = true) : ∀ (g k : Nat) (m : Nat → Nat → Int32) (u : pU), k + g = Z → TH ρ c0 c1 c2 mi m t u → aWP (aEx (aTb X) 5) cd_X4_firstOtherwise (2, [some (.ref 69), some (.ref K), some (.int s), some (.int hp), some (.int (nI k))], [], (HD, m, ml, mr)) (fun r h' => (HD.1 ≤ h'.1.1 ∧ HD.2.1 ≤ h'.1.2.1) ∧ anU mi ml mr (foL t s.toNatClampNeg hp (mi (K + 1)) g k u) r h') := by
  intro g
  induction g with
  | zero =>
    intro k m u hg h
    have e : k = Z := by omega
    rw [e]
    refine wp_steps 2 (t' := (4, [some (.ref 69), some (.ref K), some (.int s), some (.int hp), some (.int (nI Z))], [.ref K, .int (nI Z)], (HD, m, ml, mr))) rfl ?_
    refine wp_geti rfl (shS hK) (Or.inl rfl) ?_
    rw [show m K 1 = nI Z from (h.1 K 1 (sh_U hK).1).trans hz]
    refine wp_bC rfl (fun c_1 => ?_) (fun c_1 => ?_)
    rotate_left
    · have c_1 : ¬ ((nI Z) ≤ (nI Z)) := of_decide_eq_false c_1
      exact absurd (Int32.le_refl _) c_1
    have c_1 : (nI Z) ≤ (nI Z) := of_decide_eq_true c_1
    refine wp_steps 1 (t' := (31, [some (.ref 69), some (.ref K), some (.int s), some (.int hp), some (.int (nI Z))], [.int (-1)], (HD, m, ml, mr))) rfl ?_
    refine wp_ret rfl rfl ⟨⟨Nat.le_refl _, Nat.le_refl _⟩, ?_⟩
    exact ⟨rfl, _, rfl, h.1⟩
  | succ g ih =>
    intro k m u hg h
    have ht : k < Z := by omega
    refine wp_steps 2 (t' := (4, [some (.ref 69), some (.ref K), some (.int s), some (.int hp), some (.int (nI k))], [.ref K, .int (nI k)], (HD, m, ml, mr))) rfl ?_
    refine wp_geti rfl (shS hK) (Or.inl rfl) ?_
    rw [show m K 1 = nI Z from (h.1 K 1 (sh_U hK).1).trans hz]
    refine wp_bC rfl (fun c_1 => ?_) (fun c_1 => ?_)
    · have c_1 : (nI Z) ≤ (nI k) := of_decide_eq_true c_1
      exact absurd c_1 (nI_ge ht (by omega))
    have c_1 : ¬ ((nI Z) ≤ (nI k)) := of_decide_eq_false c_1
    refine wp_steps 2 (t' := (8, [some (.ref 69), some (.ref K), some (.int s), some (.int hp), some (.int (nI k))], [.int 40, .int (nI k)], (HD, m, ml, mr))) rfl ?_
    refine wp_bC rfl (fun c_2 => ?_) (fun c_2 => ?_)
    · have c_2 : 40 ≤ (nI k) := of_decide_eq_true c_2
      exact absurd c_2 (nI_ge (a := k) (b := 40) (by omega) (by decide))
    have c_2 : ¬ (40 ≤ (nI k)) := of_decide_eq_false c_2
    refine wp_steps 1 (t' := (10, [some (.ref 69), some (.ref K), some (.int s), some (.int hp), some (.int (nI k))], [.ref 69], (HD, m, ml, mr))) rfl ?_
    refine wp_getr rfl ⟨by decide, rfl⟩ rfl (hM (69, 0, 73) (by decide)) ?_
    refine wp_steps 1 (t' := (12, [some (.ref 69), some (.ref K), some (.int s), some (.int hp), some (.int (nI k))], [.ref 69, .ref 73], (HD, m, ml, mr))) rfl ?_
    refine wp_getr rfl ⟨by decide, rfl⟩ rfl (hM (69, 1, 70) (by decide)) ?_
    refine wp_steps 2 (t' := (15, [some (.ref 69), some (.ref K), some (.int s), some (.int hp), some (.int (nI k))], [.int hp, .int s, .ref 70, .ref 73], (HD, m, ml, mr))) rfl ?_
    refine wp_calv (as := [.ref 70, .int s, .int hp]) rfl rfl rfl (Nat.le_of_ble_eq_true rfl) ⟨by decide, rfl⟩ ((t_hour (ml := ml) (hp := hp) hM hρ hr h hs)) (by decide) ?_
    rintro _ _ ⟨rfl, m_1, rfl, h1⟩
    show aWP _ _ (16, [some (.ref 69), some (.ref K), some (.int s), some (.int hp), some (.int (nI k))], [], (HD, m_1, ml, mr)) _
    refine wp_steps 1 (t' := (17, [some (.ref 69), some (.ref K), some (.int s), some (.int hp), some (.int (nI k))], [.ref K], (HD, m_1, ml, mr))) rfl ?_
    refine wp_getr rfl (shS hK) rfl (hM _ (mlS hK)) ?_
    refine wp_steps 1 (t' := (19, [some (.ref 69), some (.ref K), some (.int s), some (.int hp), some (.int (nI k))], [.int (nI k), .ref (K + 1)], (HD, m_1, ml, mr))) rfl ?_
    refine wp_iald rfl (shSi hK) (aix_nI (by omega) (by decide)) ?_
    refine wp_steps 1 (t' := (21, [some (.ref 69), some (.ref K), some (.int s), some (.int hp), some (.int (nI k))], [.ref 69, .int (m_1 (K + 1) (nI k).toNatClampNeg)], (HD, m_1, ml, mr))) rfl ?_
    refine wp_getr rfl ⟨by decide, rfl⟩ rfl (hM (69, 1, 70) (by decide)) ?_
    refine wp_getr rfl ⟨by decide, rfl⟩ rfl (hM (70, 4, 71) (by decide)) ?_
    refine wp_steps 1 (t' := (24, [some (.ref 69), some (.ref K), some (.int s), some (.int hp), some (.int (nI k))], [.int s, .ref 71, .int (m_1 (K + 1) (nI k).toNatClampNeg)], (HD, m_1, ml, mr))) rfl ?_
    refine wp_iald rfl ⟨by decide, rfl⟩ hs ?_
    refine wp_bC rfl (fun c_3 => ?_) (fun c_3 => ?_)
    · have c_3 : (m_1 (K + 1) (nI k).toNatClampNeg) = (m_1 71 s.toNatClampNeg) := of_decide_eq_true c_3
      refine wp_steps 2 (t' := (2, [some (.ref 69), some (.ref K), some (.int s), some (.int hp), some (.int ((nI k) + Int32.ofInt 1))], [], (HD, m_1, ml, mr))) rfl ?_
      rw [inc_nI]
      have q1 : m_1 (K + 1) (nI k).toNatClampNeg = mi (K + 1) k := by rw [nI_clamp (by omega)]; exact h1.1 _ k (sh_U hK).2
      have q2 : m_1 71 s.toNatClampNeg = (hrG t u s.toNatClampNeg hp).2.2.2.2 s.toNatClampNeg := h1.sk (aix_out hs).2
      have e : foL t s.toNatClampNeg hp (mi (K + 1)) (g + 1) k u = foL t s.toNatClampNeg hp (mi (K + 1)) g (k + 1) (hrG t u s.toNatClampNeg hp) := if_pos (by rw [← q1, ← q2]; exact c_3)
      rw [e]
      exact ih (k + 1) m_1 _ (by omega) h1
    · have c_3 : ¬ ((m_1 (K + 1) (nI k).toNatClampNeg) = (m_1 71 s.toNatClampNeg)) := of_decide_eq_false c_3
      refine wp_steps 1 (t' := (27, [some (.ref 69), some (.ref K), some (.int s), some (.int hp), some (.int (nI k))], [.int (nI k)], (HD, m_1, ml, mr))) rfl ?_
      refine wp_ret rfl rfl ⟨⟨Nat.le_refl _, Nat.le_refl _⟩, ?_⟩
      have q1 : m_1 (K + 1) (nI k).toNatClampNeg = mi (K + 1) k := by rw [nI_clamp (by omega)]; exact h1.1 _ k (sh_U hK).2
      have q2 : m_1 71 s.toNatClampNeg = (hrG t u s.toNatClampNeg hp).2.2.2.2 s.toNatClampNeg := h1.sk (aix_out hs).2
      have e : foL t s.toNatClampNeg hp (mi (K + 1)) (g + 1) k u = nI k := if_neg (fun z => c_3 (by rw [q1, q2]; exact z))
      rw [e]
      exact ⟨rfl, _, rfl, h1.1⟩
set_option maxRecDepth 20000 in
set_option maxHeartbeats 1000000 in
theorem t_first {X : aXt × Value} {mi : Nat → Nat → Int32} {ml : Nat → Nat → Int64} {mr : Nat → Nat → Option Nat} (hM : MRok mr) {ρ : Nat} {c0 c1 c2 : List Int32} (hρ : ρ ∈ TXS) (hr : mr 73 2 = some ρ) {K Z : Nat} (hK : K ∈ SHS) (hz : mi K 1 = nI Z) (hZ : Z ≤ 40) {s hp : Int32} (hs : aixn s 8 = true) {m : Nat → Nat → Int32} {t : tW} {u : pU} (h : TH ρ c0 c1 c2 mi m t u) : aCW X 6 52 [.ref 69, .ref K, .int s, .int hp] (HD, m, ml, mr) (anU mi ml mr (foL t s.toNatClampNeg hp (mi (K + 1)) Z 0 u)) := by
  refine cw_of (cd := cd_X4_firstOtherwise) (nL := 5) rfl rfl ?_
  show aWP _ _ (0, [some (.ref 69), some (.ref K), some (.int s), some (.int hp), none], [], (HD, m, ml, mr)) _
  refine wp_steps 2 (t' := (2, [some (.ref 69), some (.ref K), some (.int s), some (.int hp), some (.int 0)], [], (HD, m, ml, mr))) rfl ?_
  exact l_first hM hρ hr hK hz hZ hs Z 0 m u (by omega) h
def beS (t : tW) (u : pU) (s hp : Nat) (a : Int32 × Int32) : Int32 × Int32 := if a.1 < smF (hrG t u s (nI hp)).2.2.2.2 8 then (smF (hrG t u s (nI hp)).2.2.2.2 8, 10 * nI s + nI hp) else a
def beI (t : tW) (u : pU) (s : Nat) : Nat → Nat → Int32 × Int32 → Int32 × Int32
  | 0, _, a => a
  | g + 1, k, a => beI t u s g (k + 1) (beS t u s k a)
def beO (t : tW) (u : pU) : Nat → Nat → Int32 × Int32 → Int32 × Int32
  | 0, _, a => a
  | g + 1, s, a => beO t u g (s + 1) (beI t u s 3 0 a)
theorem mr_self {mr : Nat → Nat → Option Nat} {T : Nat} : aup mr T 2 (mr T 2) = mr := by
  funext k j
  unfold aup
  split
  · split
    · rename_i h1 h2; rw [h1, h2]
    · rfl
  · rfl
/-- an answer; nothing that shows is changed -/
def qU (mi : Nat → Nat → Int32) (ml : Nat → Nat → Int64) (mr : Nat → Nat → Option Nat) (v : Value) : Option Value → aM → Prop := fun r h' => r = some v ∧ ∃ m' w, h' = (HD, m', ml, aup mr 73 2 w) ∧ frm UCL mi m'
theorem t_begin2 {X : aXt × Value} {mi : Nat → Nat → Int32} {ml : Nat → Nat → Int64} {mr : Nat → Nat → Option Nat} (hM : MRok mr) {ρ : Nat} {c0 c1 c2 : List Int32} (hρ : ρ ∈ TXS) (hr : mr 63 2 = some ρ) {m : Nat → Nat → Int32} (hf : frm UCL mi m) (hx : TXok mi ρ c0 c1 c2) {P : Nat} (hP : P ∈ PU5) {w : Option Nat} : aCW X 2 44 [.ref 69, .ref 63, .ref P] (HD, m, ml, aup mr 73 2 w) (fun r h' => r = none ∧ ∃ m', h' = (HD, m', ml, aup mr 73 2 (some ρ)) ∧ TH ρ c0 c1 c2 mi m' (twC mi 63 c0 c1 c2) (puC mi P)) := by
  have z := t_begin (X := X) (ml := ml) (mr := aup mr 73 2 w) (mr_up hM (by decide) _) hρ ((mr_off (by decide) w).trans hr) hf hx hP
  rw [mr_tw] at z
  exact z
set_option maxRecDepth 20000 in
set_option maxHeartbeats 1000000 in
theorem l_bi {X : aXt × Value} {mi : Nat → Nat → Int32} {ml : Nat → Nat → Int64} {mr : Nat → Nat → Option Nat} (hM : MRok mr) {ρ : Nat} {c0 c1 c2 : List Int32} (hρ : ρ ∈ TXS) (hr : mr 63 2 = some ρ) (hx : TXok mi ρ c0 c1 c2) {P : Nat} (hP : P ∈ PU5) {b : Int32} {s : Nat} (hS : s < 8) {Q : Option Value → aM → Prop} : ∀ (g k : Nat) (m : Nat → Nat → Int32) (a : Int32 × Int32) (w : Option Nat) (o : Option Value), k + g = 3 → frm UCL mi m → (∀ m' w' o', frm UCL mi m' → aWP (aEx (aTb X) 6) cd_X4_bestHour (42, [some (.ref 69), some (.ref 63), some (.ref P), some (.int b), some (.int ((beI (twC mi 63 c0 c1 c2) (puC mi P) s g k a).1)), some (.int ((beI (twC mi 63 c0 c1 c2) (puC mi P) s g k a).2)), some (.int (nI s)), some (.int (nI 3)), o'], [], (HD, m', ml, aup mr 73 2 w')) Q) → aWP (aEx (aTb X) 6) cd_X4_bestHour (11, [some (.ref 69), some (.ref 63), some (.ref P), some (.int b), some (.int a.1), some (.int a.2), some (.int (nI s)), some (.int (nI k)), o], [], (HD, m, ml, (aup mr 73 2 w))) Q := by
  intro g
  induction g with
  | zero =>
    intro k m a w o hg hf hk
    have e : k = 3 := by omega
    subst e
    refine wp_steps 2 (t' := (13, [some (.ref 69), some (.ref 63), some (.ref P), some (.int b), some (.int a.1), some (.int a.2), some (.int (nI s)), some (.int (nI 3)), o], [.int 3, .int (nI 3)], (HD, m, ml, (aup mr 73 2 w)))) rfl ?_
    refine wp_bC rfl (fun c_1 => ?_) (fun c_1 => ?_)
    rotate_left
    · have c_1 : ¬ (3 ≤ (nI 3)) := of_decide_eq_false c_1
      exact absurd (by decide) c_1
    have c_1 : 3 ≤ (nI 3) := of_decide_eq_true c_1
    exact hk m w _ hf
  | succ g ih =>
    intro k m a w o hg hf hk
    have ht : k < 3 := by omega
    refine wp_steps 2 (t' := (13, [some (.ref 69), some (.ref 63), some (.ref P), some (.int b), some (.int a.1), some (.int a.2), some (.int (nI s)), some (.int (nI k)), o], [.int 3, .int (nI k)], (HD, m, ml, (aup mr 73 2 w)))) rfl ?_
    refine wp_bC rfl (fun c_1 => ?_) (fun c_1 => ?_)
    · have c_1 : 3 ≤ (nI k) := of_decide_eq_true c_1
      exact absurd c_1 (nI_ge ht (by decide))
    have c_1 : ¬ (3 ≤ (nI k)) := of_decide_eq_false c_1
    refine wp_steps 3 (t' := (17, [some (.ref 69), some (.ref 63), some (.ref P), some (.int b), some (.int a.1), some (.int a.2), some (.int (nI s)), some (.int (nI k)), o], [.ref P, .ref 63, .ref 69], (HD, m, ml, (aup mr 73 2 w)))) rfl ?_
    refine wp_calv (as := [.ref 63, .ref P]) rfl rfl rfl (Nat.le_of_ble_eq_true rfl) ⟨by decide, rfl⟩ ((t_begin2 (ml := ml) (w := w) hM hρ hr hf hx hP)) (by decide) ?_
    rintro _ _ ⟨rfl, m_1, rfl, h1⟩
    show aWP _ _ (18, [some (.ref 69), some (.ref 63), some (.ref P), some (.int b), some (.int a.1), some (.int a.2), some (.int (nI s)), some (.int (nI k)), o], [], (HD, m_1, ml, (aup mr 73 2 (some ρ)))) _
    refine wp_steps 1 (t' := (19, [some (.ref 69), some (.ref 63), some (.ref P), some (.int b), some (.int a.1), some (.int a.2), some (.int (nI s)), some (.int (nI k)), o], [.ref 69], (HD, m_1, ml, (aup mr 73 2 (some ρ))))) rfl ?_
    refine wp_getr rfl ⟨by decide, rfl⟩ rfl ((mr_up hM (by decide) _) (69, 0, 73) (by decide)) ?_
    refine wp_steps 1 (t' := (21, [some (.ref 69), some (.ref 63), some (.ref P), some (.int b), some (.int a.1), some (.int a.2), some (.int (nI s)), some (.int (nI k)), o], [.ref 69, .ref 73], (HD, m_1, ml, (aup mr 73 2 (some ρ))))) rfl ?_
    refine wp_getr rfl ⟨by decide, rfl⟩ rfl ((mr_up hM (by decide) _) (69, 1, 70) (by decide)) ?_
    refine wp_steps 2 (t' := (24, [some (.ref 69), some (.ref 63), some (.ref P), some (.int b), some (.int a.1), some (.int a.2), some (.int (nI s)), some (.int (nI k)), o], [.int (nI k), .int (nI s), .ref 70, .ref 73], (HD, m_1, ml, (aup mr 73 2 (some ρ))))) rfl ?_
    refine wp_calv (as := [.ref 70, .int (nI s), .int (nI k)]) rfl rfl rfl (Nat.le_of_ble_eq_true rfl) ⟨by decide, rfl⟩ ((t_hour (ml := ml) (hp := nI k) (mr := aup mr 73 2 (some ρ)) (mr_up hM (by decide) _) hρ (mr_at _) h1 (aix_nI hS (by decide)))) (by decide) ?_
    rintro _ _ ⟨rfl, m_2, rfl, h2⟩
    rw [nI_clamp (Nat.lt_trans hS (by decide))] at h2
    show aWP _ _ (25, [some (.ref 69), some (.ref 63), some (.ref P), some (.int b), some (.int a.1), some (.int a.2), some (.int (nI s)), some (.int (nI k)), o], [], (HD, m_2, ml, (aup mr 73 2 (some ρ)))) _
    refine wp_steps 1 (t' := (26, [some (.ref 69), some (.ref 63), some (.ref P), some (.int b), some (.int a.1), some (.int a.2), some (.int (nI s)), some (.int (nI k)), o], [.ref 69], (HD, m_2, ml, (aup mr 73 2 (some ρ))))) rfl ?_
    refine wp_getr rfl ⟨by decide, rfl⟩ rfl ((mr_up hM (by decide) _) (69, 1, 70) (by decide)) ?_
    refine wp_calv (as := []) rfl rfl rfl (Nat.le_of_ble_eq_true rfl) ⟨by decide, rfl⟩ ((t_together (ml := ml) (mr := aup mr 73 2 (some ρ)) (mr_up hM (by decide) _) hρ (mr_at _) h2)) (by decide) ?_
    rintro _ _ ⟨rfl, rfl⟩
    show aWP _ _ (28, [some (.ref 69), some (.ref 63), some (.ref P), some (.int b), some (.int a.1), some (.int a.2), some (.int (nI s)), some (.int (nI k)), o], [.int (smF (hrG (twC mi 63 c0 c1 c2) (puC mi P) s (nI k)).2.2.2.2 8)], (HD, m_2, ml, (aup mr 73 2 (some ρ)))) _
    refine wp_steps 3 (t' := (31, [some (.ref 69), some (.ref 63), some (.ref P), some (.int b), some (.int a.1), some (.int a.2), some (.int (nI s)), some (.int (nI k)), some (.int (smF (hrG (twC mi 63 c0 c1 c2) (puC mi P) s (nI k)).2.2.2.2 8))], [.int a.1, .int (smF (hrG (twC mi 63 c0 c1 c2) (puC mi P) s (nI k)).2.2.2.2 8)], (HD, m_2, ml, (aup mr 73 2 (some ρ))))) rfl ?_
    refine wp_bC rfl (fun c_2 => ?_) (fun c_2 => ?_)
    · have c_2 : (smF (hrG (twC mi 63 c0 c1 c2) (puC mi P) s (nI k)).2.2.2.2 8) ≤ a.1 := of_decide_eq_true c_2
      refine wp_steps 2 (t' := (11, [some (.ref 69), some (.ref 63), some (.ref P), some (.int b), some (.int a.1), some (.int a.2), some (.int (nI s)), some (.int ((nI k) + Int32.ofInt 1)), some (.int (smF (hrG (twC mi 63 c0 c1 c2) (puC mi P) s (nI k)).2.2.2.2 8))], [], (HD, m_2, ml, (aup mr 73 2 (some ρ))))) rfl ?_
      rw [inc_nI]
      have e : beS (twC mi 63 c0 c1 c2) (puC mi P) s k a = a := if_neg (Int32.not_lt.mpr c_2)
      refine ih (k + 1) m_2 a (some ρ) _ (by omega) h2.1 ?_
      intro m3 w3 o3 f3
      have q := hk m3 w3 o3 f3
      rw [show beI (twC mi 63 c0 c1 c2) (puC mi P) s (g + 1) k a = beI (twC mi 63 c0 c1 c2) (puC mi P) s g (k + 1) (beS (twC mi 63 c0 c1 c2) (puC mi P) s k a) from rfl, e] at q
      exact q
    · have c_2 : ¬ ((smF (hrG (twC mi 63 c0 c1 c2) (puC mi P) s (nI k)).2.2.2.2 8) ≤ a.1) := of_decide_eq_false c_2
      refine wp_steps 10 (t' := (11, [some (.ref 69), some (.ref 63), some (.ref P), some (.int b), some (.int (smF (hrG (twC mi 63 c0 c1 c2) (puC mi P) s (nI k)).2.2.2.2 8)), some (.int ((10 * (nI s)) + (nI k))), some (.int (nI s)), some (.int ((nI k) + Int32.ofInt 1)), some (.int (smF (hrG (twC mi 63 c0 c1 c2) (puC mi P) s (nI k)).2.2.2.2 8))], [], (HD, m_2, ml, (aup mr 73 2 (some ρ))))) rfl ?_
      rw [inc_nI]
      have e : beS (twC mi 63 c0 c1 c2) (puC mi P) s k a = (smF (hrG (twC mi 63 c0 c1 c2) (puC mi P) s (nI k)).2.2.2.2 8, 10 * nI s + nI k) := if_pos (Int32.not_le.mp c_2)
      refine ih (k + 1) m_2 (smF (hrG (twC mi 63 c0 c1 c2) (puC mi P) s (nI k)).2.2.2.2 8, 10 * nI s + nI k) (some ρ) _ (by omega) h2.1 ?_
      intro m3 w3 o3 f3
      have q := hk m3 w3 o3 f3
      rw [show beI (twC mi 63 c0 c1 c2) (puC mi P) s (g + 1) k a = beI (twC mi 63 c0 c1 c2) (puC mi P) s g (k + 1) (beS (twC mi 63 c0 c1 c2) (puC mi P) s k a) from rfl, e] at q
      exact q
set_option maxRecDepth 20000 in
set_option maxHeartbeats 1000000 in
theorem l_bo {X : aXt × Value} {mi : Nat → Nat → Int32} {ml : Nat → Nat → Int64} {mr : Nat → Nat → Option Nat} (hM : MRok mr) {ρ : Nat} {c0 c1 c2 : List Int32} (hρ : ρ ∈ TXS) (hr : mr 63 2 = some ρ) (hx : TXok mi ρ c0 c1 c2) {P : Nat} (hP : P ∈ PU5) {b : Int32} : ∀ (g s : Nat) (m : Nat → Nat → Int32) (a : Int32 × Int32) (w : Option Nat) (o1 o2 : Option Value), s + g = 8 → frm UCL mi m → aWP (aEx (aTb X) 6) cd_X4_bestHour (6, [some (.ref 69), some (.ref 63), some (.ref P), some (.int b), some (.int a.1), some (.int a.2), some (.int (nI s)), o1, o2], [], (HD, m, ml, (aup mr 73 2 w))) (fun r h' => (HD.1 ≤ h'.1.1 ∧ HD.2.1 ≤ h'.1.2.1) ∧ qU mi ml mr (.int (if b = 0 then (beO (twC mi 63 c0 c1 c2) (puC mi P) g s a).1 else (beO (twC mi 63 c0 c1 c2) (puC mi P) g s a).2)) r h') := by
  intro g
  induction g with
  | zero =>
    intro s m a w o1 o2 hg hf
    have e : s = 8 := by omega
    subst e
    refine wp_steps 2 (t' := (8, [some (.ref 69), some (.ref 63), some (.ref P), some (.int b), some (.int a.1), some (.int a.2), some (.int (nI 8)), o1, o2], [.int 8, .int (nI 8)], (HD, m, ml, (aup mr 73 2 w)))) rfl ?_
    refine wp_bC rfl (fun c_1 => ?_) (fun c_1 => ?_)
    rotate_left
    · have c_1 : ¬ (8 ≤ (nI 8)) := of_decide_eq_false c_1
      exact absurd (by decide) c_1
    have c_1 : 8 ≤ (nI 8) := of_decide_eq_true c_1
    refine wp_steps 1 (t' := (45, [some (.ref 69), some (.ref 63), some (.ref P), some (.int b), some (.int a.1), some (.int a.2), some (.int (nI 8)), o1, o2], [.int b], (HD, m, ml, (aup mr 73 2 w)))) rfl ?_
    refine wp_bI rfl (fun c_2 => ?_) (fun c_2 => ?_)
    · have c_2 : b = 0 := of_decide_eq_true c_2
      refine wp_steps 1 (t' := (49, [some (.ref 69), some (.ref 63), some (.ref P), some (.int b), some (.int a.1), some (.int a.2), some (.int (nI 8)), o1, o2], [.int a.1], (HD, m, ml, (aup mr 73 2 w)))) rfl ?_
      refine wp_ret rfl rfl ⟨⟨Nat.le_refl _, Nat.le_refl _⟩, ?_⟩
      refine ⟨?_, m, w, rfl, hf⟩
      rw [if_pos c_2]
      rfl
    · have c_2 : ¬ (b = 0) := of_decide_eq_false c_2
      refine wp_steps 2 (t' := (49, [some (.ref 69), some (.ref 63), some (.ref P), some (.int b), some (.int a.1), some (.int a.2), some (.int (nI 8)), o1, o2], [.int a.2], (HD, m, ml, (aup mr 73 2 w)))) rfl ?_
      refine wp_ret rfl rfl ⟨⟨Nat.le_refl _, Nat.le_refl _⟩, ?_⟩
      refine ⟨?_, m, w, rfl, hf⟩
      rw [if_neg c_2]
      rfl
  | succ g ih =>
    intro s m a w o1 o2 hg hf
    have hS : s < 8 := by omega
    refine wp_steps 2 (t' := (8, [some (.ref 69), some (.ref 63), some (.ref P), some (.int b), some (.int a.1), some (.int a.2), some (.int (nI s)), o1, o2], [.int 8, .int (nI s)], (HD, m, ml, (aup mr 73 2 w)))) rfl ?_
    refine wp_bC rfl (fun c_1 => ?_) (fun c_1 => ?_)
    · have c_1 : 8 ≤ (nI s) := of_decide_eq_true c_1
      exact absurd c_1 (nI_ge hS (by decide))
    have c_1 : ¬ (8 ≤ (nI s)) := of_decide_eq_false c_1
    refine wp_steps 2 (t' := (11, [some (.ref 69), some (.ref 63), some (.ref P), some (.int b), some (.int a.1), some (.int a.2), some (.int (nI s)), some (.int 0), o2], [], (HD, m, ml, (aup mr 73 2 w)))) rfl ?_
    refine l_bi hM hρ hr hx hP hS 3 0 m a w o2 rfl hf (fun m3 w3 o3 f3 => ?_)
    refine wp_steps 2 (t' := (6, [some (.ref 69), some (.ref 63), some (.ref P), some (.int b), some (.int ((beI (twC mi 63 c0 c1 c2) (puC mi P) s 3 0 a).1)), some (.int ((beI (twC mi 63 c0 c1 c2) (puC mi P) s 3 0 a).2)), some (.int (nI s + Int32.ofInt 1)), some (.int (nI 3)), o3], [], (HD, m3, ml, (aup mr 73 2 w3)))) rfl ?_
    rw [inc_nI]
    exact ih (s + 1) m3 _ w3 _ _ (by omega) f3
set_option maxRecDepth 20000 in
set_option maxHeartbeats 1000000 in
theorem t_best {X : aXt × Value} {mi : Nat → Nat → Int32} {ml : Nat → Nat → Int64} {mr : Nat → Nat → Option Nat} (hM : MRok mr) {ρ : Nat} {c0 c1 c2 : List Int32} (hρ : ρ ∈ TXS) (hr : mr 63 2 = some ρ) (hx : TXok mi ρ c0 c1 c2) {P : Nat} (hP : P ∈ PU5) {b : Int32} : aCW X 7 45 [.ref 69, .ref 63, .ref P, .int b] (HD, mi, ml, mr) (qU mi ml mr (.int (if b = 0 then (beO (twC mi 63 c0 c1 c2) (puC mi P) 8 0 (-1, 0)).1 else (beO (twC mi 63 c0 c1 c2) (puC mi P) 8 0 (-1, 0)).2))) := by
  refine cw_of (cd := cd_X4_bestHour) (nL := 9) rfl rfl ?_
  show aWP _ _ (0, [some (.ref 69), some (.ref 63), some (.ref P), some (.int b), none, none, none, none, none], [], (HD, mi, ml, mr)) _
  refine wp_steps 6 (t' := (6, [some (.ref 69), some (.ref 63), some (.ref P), some (.int b), some (.int (-1)), some (.int 0), some (.int 0), none, none], [], (HD, mi, ml, mr))) rfl ?_
  have z := l_bo (X := X) (ml := ml) hM hρ hr hx hP (b := b) 8 0 mi (-1, 0) (mr 73 2) none none rfl (frm.rf _ _)
  rw [mr_self] at z
  exact z
