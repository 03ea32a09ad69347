/-! the whole reading (written by wip/whole/mkpar5.py) -/
def r1F (b : Nat → Int32) (n : Nat) (v0 : Int32) : Bool × pS := ptF b n 3 (stP b n (0, 0, 0, v0, []))
def r2F (b : Nat → Int32) (n : Nat) (v0 : Int32) : Bool × pS := ptF b n 4 (r1F b n v0).2
def r3F (b : Nat → Int32) (n : Nat) (v0 : Int32) : Bool × pS := ptF b n 5 (r2F b n v0).2
/-- whether it is a text; else where the fault is -/
def rfF (b : Nat → Int32) (n : Nat) (v0 : Int32) : Bool × Nat := if (r1F b n v0).1 = true then (if (r2F b n v0).1 = true then (if (r3F b n v0).1 = true then (if (r3F b n v0).2.2.2.1 = 0 then (true, 0) else (false, (r3F b n v0).2.1)) else (false, (r3F b n v0).2.1)) else (false, (r2F b n v0).2.1)) else (false, (r1F b n v0).2.1)
/-- the reader's own memory, before it begins -/
def rdM (mi : Nat → Nat → Int32) : Nat → Nat → Int32 := aup (afil (aup mi 4 4 0) (4 + 2) 3 0) 2 5 0
theorem rdM_fr {mi : Nat → Nat → Int32} {k j : Nat} (h2 : ¬ (k = 2 ∧ j = 5)) (h4 : ¬ (k = 4 ∧ j = 4)) (h6 : k ≠ 6) : rdM mi k j = mi k j := by
  unfold rdM
  rw [show aup (afil (aup mi 4 4 0) (4 + 2) 3 0) 2 5 0 k j = if k = 2 then (if j = 5 then 0 else afil (aup mi 4 4 0) (4 + 2) 3 0 k j) else afil (aup mi 4 4 0) (4 + 2) 3 0 k j from rfl]
  have e : afil (aup mi 4 4 0) (4 + 2) 3 0 k j = mi k j := by
    unfold afil
    rw [if_neg h6]
    unfold aup
    by_cases q : k = 4
    · by_cases q2 : j = 4
      · exact absurd ⟨q, q2⟩ h4
      · rw [if_pos q, if_neg q2]
    · rw [if_neg q]
  by_cases q : k = 2
  · by_cases q2 : j = 5
    · exact absurd ⟨q, q2⟩ h2
    · rw [if_pos q, if_neg q2, e]
  · rw [if_neg q, e]
theorem c_pstep0 {X : aXt × Value} {mi : Nat → Nat → Int32} {ml : Nat → Nat → Int64} {mr : Nat → Nat → Option Nat} (hM : MRok mr) {n : Nat} (hn : n ≤ 160) (hs : mi 2 0 = nI n) (hX : outOK X) : aCW X 7 23 [.ref 2] (HD, rdM mi, ml, mr) (fun r h' => r = none ∧ ∃ m', h' = (HD, m', ml, mr) ∧ PS (rdM mi) m' (stP (byN (mi 3) n) n (0, 0, 0, mi 2 6, []))) := by
  have hs0 : rdM mi 2 0 = nI n := (rdM_fr (by omega) (by omega) (by decide)).trans hs
  have e3 : rdM mi 3 = mi 3 := funext fun j => rdM_fr (by omega) (by omega) (by decide)
  obtain ⟨r, h', g, hr, m', hm, g1, g2, g3, g4, g5⟩ := c_step (X := X) (mi := rdM mi) (ml := ml) hM hn hs0 hX (a0 := 0) (by decide) rfl
  rw [e3] at g2 g3 g4 g5
  refine ⟨r, h', g, hr, m', hm, fun k j h1 h2 h3 => g1 k j h1, g2, g3, g4, ?_, ?_, Nat.zero_le _, fun j hj => absurd hj (Nat.not_lt_zero _), ?_⟩
  · rw [g5]
    show lxV (byN (mi 3) n) n (spF (byN (mi 3) n) 160 0) (rdM mi 2 6) = _
    rw [show rdM mi 2 6 = mi 2 6 from rdM_fr (by omega) (by omega) (by decide)]
    rfl
  · rw [g1 4 4 (by omega)]; rfl
  · exact ⟨lxE_le hn (spF_le hn 160 _ (show (0 : Nat) ≤ 161 by decide)), spF_le hn 160 _ (show (0 : Nat) ≤ 161 by decide)⟩
/-- what a reading leaves of a memory -/
def rdK (ok : Bool) (ρ : Nat) (mi m : Nat → Nat → Int32) : Prop := ∀ k j, k ≠ 2 → ¬ (k = 4 ∧ j = 4) → k ≠ 5 → k ≠ 6 → (ok = true → ¬ (k = ρ ∧ j = 4) ∧ k ≠ ρ + 1 ∧ k ≠ ρ + 2) → m k j = mi k j
/-- the text at ρ is what was read -/
def rdT (b : Nat → Int32) (n : Nat) (v0 : Int32) (ρ : Nat) (m : Nat → Nat → Int32) : Prop := (r3F b n v0).2.2.2.2.2.length ≤ 160 ∧ (∀ j, j < (r3F b n v0).2.2.2.2.2.length → m (ρ + 1) j = (r3F b n v0).2.2.2.2.2.getD j 0) ∧ m (ρ + 2) 0 = nI (r1F b n v0).2.2.2.2.2.length ∧ m (ρ + 2) 1 = nI (r2F b n v0).2.2.2.2.2.length ∧ m (ρ + 2) 2 = nI (r3F b n v0).2.2.2.2.2.length
def rdQ (mi : Nat → Nat → Int32) (ml : Nat → Nat → Int64) (mr : Nat → Nat → Option Nat) (n ρ : Nat) (r : Option Value) (h' : aM) : Prop := ∃ m', h' = (HD, m', ml, mr) ∧ rdK (rfF (byN (mi 3) n) n (mi 2 6)).1 ρ mi m' ∧ m' 2 0 = 0 ∧ ((rfF (byN (mi 3) n) n (mi 2 6)).1 = true → r = some (.int (-1)) ∧ rdT (byN (mi 3) n) n (mi 2 6) ρ m') ∧ ((rfF (byN (mi 3) n) n (mi 2 6)).1 = false → r = some (.int (nI (rfF (byN (mi 3) n) n (mi 2 6)).2)) ∧ (rfF (byN (mi 3) n) n (mi 2 6)).2 ≤ 161)
theorem rd_keep {mi M m : Nat → Nat → Int32} {s : pS} (h : PS M m s) (hf : ∀ k j, k ≠ 6 → M k j = rdM mi k j) {k j : Nat} (h2 : k ≠ 2) (h4 : ¬ (k = 4 ∧ j = 4)) (h5 : k ≠ 5) (h6 : k ≠ 6) : m k j = mi k j :=
  (h.1 k j (fun z => h2 z.1) h4 h5).trans ((hf k j h6).trans (rdM_fr (fun z => h2 z.1) h4 h6))
theorem rd_fail {mi M m : Nat → Nat → Int32} {ml : Nat → Nat → Int64} {mr : Nat → Nat → Option Nat} {n ρ : Nat} {s : pS} (h : PS M m s) (hf : ∀ k j, k ≠ 6 → M k j = rdM mi k j) (e : rfF (byN (mi 3) n) n (mi 2 6) = (false, s.1)) : rdQ mi ml mr n ρ (some (.int (aup m 2 0 0 2 4))) (HD, aup m 2 0 0, ml, mr) := by
  refine ⟨_, rfl, fun k j h2 h4 h5 h6 _ => ?_, rfl, fun z => ?_, fun _ => ?_⟩
  · rw [show aup m 2 0 0 k j = m k j from if_neg h2]
    exact rd_keep h hf h2 h4 h5 h6
  · rw [e] at z; cases z
  · rw [e, show aup m 2 0 0 2 4 = m 2 4 from rfl, h.2.2.1]
    exact ⟨rfl, h.2.2.2.2.2.2.2.2.2⟩
theorem row3_of {mi M : Nat → Nat → Int32} (hf : ∀ k j, k ≠ 6 → M k j = rdM mi k j) : M 3 = mi 3 := funext fun j => (hf 3 j (by decide)).trans (rdM_fr (by omega) (by omega) (by decide))
theorem sz_of {mi M : Nat → Nat → Int32} (hf : ∀ k j, k ≠ 6 → M k j = rdM mi k j) : M 2 0 = mi 2 0 := (hf 2 0 (by decide)).trans (rdM_fr (by omega) (by omega) (by decide))
theorem tx_ne {ρ : Nat} (h : ρ ∈ TXS) : 6 < ρ := by
  revert ρ
  decide
theorem rd_okk {mi M1 M2 M3 m : Nat → Nat → Int32} {ml : Nat → Nat → Int64} {mr : Nat → Nat → Option Nat} {n ρ : Nat} (hρ : ρ ∈ TXS) (h : PS M3 m (r3F (byN (mi 3) n) n (mi 2 6)).2) (hf : ∀ k j, k ≠ 6 → M3 k j = rdM mi k j) (e : (rfF (byN (mi 3) n) n (mi 2 6)).1 = true)
    (he1 : ∀ j, M1 6 j = if j = (0 : Int32).toNatClampNeg then nI (r1F (byN (mi 3) n) n (mi 2 6)).2.2.2.2.2.length else rdM mi 6 j)
    (he2 : ∀ j, M2 6 j = if j = (1 : Int32).toNatClampNeg then nI (r2F (byN (mi 3) n) n (mi 2 6)).2.2.2.2.2.length else M1 6 j)
    (he3 : ∀ j, M3 6 j = if j = (2 : Int32).toNatClampNeg then nI (r3F (byN (mi 3) n) n (mi 2 6)).2.2.2.2.2.length else M2 6 j) : rdQ mi ml mr n ρ (some (.int (-1))) (HD, acpy (acpy (aup (aup m 2 0 0) ρ 4 (aup m 2 0 0 4 4)) (4 + 2) (ρ + 2) 0 0 3) (4 + 1) (ρ + 1) 0 0 160, ml, mr) := by
  have r6 := tx_ne hρ
  have row6 : ∀ j, m 6 j = M3 6 j := fun j => h.1 6 j (by omega) (by omega) (by decide)
  have hE : ∀ j, j < 3 → acpy (acpy (aup (aup m 2 0 0) ρ 4 (aup m 2 0 0 4 4)) (4 + 2) (ρ + 2) 0 0 3) (4 + 1) (ρ + 1) 0 0 160 (ρ + 2) j = m 6 j := by
    intro j hj
    simp only [acpy, aup, if_neg (show ¬ ρ + 2 = ρ + 1 by omega), if_pos (show 0 ≤ j ∧ j < 0 + 3 by omega), if_pos rfl, if_neg (show ¬ 4 + 2 = ρ by omega), if_neg (show ¬ 4 + 2 = 2 by omega)]
    rw [show 0 + (j - 0) = j by omega, if_pos trivial]
  refine ⟨_, rfl, fun k j h2 h4 h5 h6 hk => ?_, ?_, fun _ => ⟨rfl, h.2.2.2.2.2.2.1, fun j hj => ?_, ?_, ?_, ?_⟩, fun z => ?_⟩
  · obtain ⟨k1, k2, k3⟩ := hk e
    rw [← rd_keep h hf h2 h4 h5 h6]
    simp only [acpy, aup, if_neg k2, if_neg k3]
    by_cases q : k = ρ
    · rw [if_pos q, if_neg (fun z => k1 ⟨q, z⟩), if_neg h2]
    · rw [if_neg q, if_neg h2]
  · simp only [acpy, aup, if_neg (show ¬ 2 = ρ + 1 by omega), if_neg (show ¬ 2 = ρ + 2 by omega), if_neg (show ¬ 2 = ρ by omega)]
    rfl
  · have h160 := h.2.2.2.2.2.2.1
    simp only [acpy, aup, if_pos rfl, if_pos (show 0 ≤ j ∧ j < 0 + 160 by omega), if_neg (show ¬ 4 + 1 = ρ + 2 by omega), if_neg (show ¬ 4 + 1 = ρ by omega), if_neg (show ¬ 4 + 1 = 2 by omega)]
    rw [show 0 + (j - 0) = j by omega]
    exact h.2.2.2.2.2.2.2.1 j hj
  · rw [hE 0 (by decide), row6, he3, if_neg (by decide), he2, if_neg (by decide), he1, if_pos (by decide)]
  · rw [hE 1 (by decide), row6, he3, if_neg (by decide), he2, if_pos (by decide)]
  · rw [hE 2 (by decide), row6, he3, if_pos (by decide)]
  · rw [e] at z; cases z
set_option maxRecDepth 20000 in
set_option maxHeartbeats 1000000 in
theorem c_readInto {X : aXt × Value} {mi : Nat → Nat → Int32} {ml : Nat → Nat → Int64} {mr : Nat → Nat → Option Nat} (hM : MRok mr) {n : Nat} (hn : n ≤ 160) (hs : mi 2 0 = nI n) (hX : outOK X) {ρ : Nat} (hρ : ρ ∈ TXS) : aCW X 51 14 [.ref 2, .ref (ρ)] (HD, mi, ml, mr) (fun r h' => rdQ mi ml mr n ρ r h') := by
  refine cw_of (cd := cd_X1_readInto) (nL := 3) rfl rfl ?_
  show aWP _ _ (0, [some (.ref 2), some (.ref (ρ)), none], [], (HD, mi, ml, mr)) _
  refine wp_steps 1 (t' := (1, [some (.ref 2), some (.ref (ρ)), none], [.ref 2], (HD, mi, ml, mr))) rfl ?_
  refine wp_getr rfl ⟨by decide, rfl⟩ rfl (hM (2, 2, 4) (by decide)) ?_
  refine wp_calv (as := []) rfl rfl rfl (Nat.le_of_ble_eq_true rfl) ⟨by decide, rfl⟩ ((c_Xempty (mi := mi) (ml := ml) hM (A := 4) (by decide))) (by decide) ?_
  rintro _ _ ⟨rfl, rfl⟩
  show aWP _ _ (3, [some (.ref 2), some (.ref (ρ)), none], [], (HD, (afil (aup mi 4 4 0) (4 + 2) 3 0), ml, mr)) _
  refine wp_steps 2 (t' := (5, [some (.ref 2), some (.ref (ρ)), none], [.int 0, .ref 2], (HD, (afil (aup mi 4 4 0) (4 + 2) 3 0), ml, mr))) rfl ?_
  refine wp_puti rfl ⟨by decide, rfl⟩ rfl (fun m_1 h_2 => ?_)
  subst h_2
  refine wp_steps 1 (t' := (7, [some (.ref 2), some (.ref (ρ)), none], [.ref 2], (HD, (aup (afil (aup mi 4 4 0) (4 + 2) 3 0) 2 5 0), ml, mr))) rfl ?_
  refine wp_calv (as := []) rfl rfl rfl (Nat.le_of_ble_eq_true rfl) ⟨by decide, rfl⟩ ((c_pstep0 (mi := mi) (ml := ml) hM hn hs hX)) (by decide) ?_
  rintro _ _ ⟨rfl, m_0, rfl, hp1⟩
  show aWP _ _ (8, [some (.ref 2), some (.ref (ρ)), none], [], (HD, m_0, ml, mr)) _
  refine wp_steps 3 (t' := (11, [some (.ref 2), some (.ref (ρ)), none], [.int 0, .int 3, .ref 2], (HD, m_0, ml, mr))) rfl ?_
  refine wp_calv (as := [.int 3, .int 0]) rfl rfl rfl (Nat.le_of_ble_eq_true rfl) ⟨by decide, rfl⟩ ((c_readPart (mi := (rdM mi)) (ml := ml) hM hn ((sz_of (mi := mi) (fun _ _ _ => rfl)).trans hs) hX (congrArg (byN · n) (row3_of (mi := mi) (fun _ _ _ => rfl))) (key := 3) (part := 0) (by decide) hp1)) (by decide) ?_
  rintro _ _ ⟨M_1, m_1, rfl, hp2, rfl, g_1, he1⟩
  have f_1 : ∀ k j, k ≠ 6 → M_1 k j = rdM mi k j := fun k j z => (g_1 k j z).trans ((fun _ _ _ => rfl) k j z)
  change PS M_1 m_1 (r1F (byN (mi 3) n) n (mi 2 6)).2 at hp2
  change (r1F (byN (mi 3) n) n (mi 2 6)).1 = true → _ at he1
  show aWP _ _ (12, [some (.ref 2), some (.ref (ρ)), none], [.int (if (r1F (byN (mi 3) n) n (mi 2 6)).1 = true then (1 : Int32) else 0)], (HD, m_1, ml, mr)) _
  refine wp_bI rfl (fun c_3 => ?_) (fun c_3 => ?_)
  · have c_3 : (if (r1F (byN (mi 3) n) n (mi 2 6)).1 = true then (1 : Int32) else 0) = 0 := of_decide_eq_true c_3
    refine wp_steps 4 (t' := (32, [some (.ref 2), some (.ref (ρ)), some (.int 0)], [.int 0, .ref 2], (HD, m_1, ml, mr))) rfl ?_
    refine wp_puti rfl ⟨by decide, rfl⟩ rfl (fun m_4 h_5 => ?_)
    subst h_5
    refine wp_steps 1 (t' := (34, [some (.ref 2), some (.ref (ρ)), some (.int 0)], [.int 0], (HD, (aup m_1 2 0 0), ml, mr))) rfl ?_
    refine wp_bI rfl (fun c_6 => ?_) (fun c_6 => ?_)
    · have c_6 : ¬ (0 : Int32) = 0 := of_decide_eq_true c_6
      exact absurd c_6 (by decide)
    have c_6 : (0 : Int32) = 0 := Decidable.not_not.mp (of_decide_eq_false c_6)
    refine wp_steps 1 (t' := (36, [some (.ref 2), some (.ref (ρ)), some (.int 0)], [.ref 2], (HD, (aup m_1 2 0 0), ml, mr))) rfl ?_
    refine wp_geti rfl ⟨by decide, rfl⟩ (Or.inl rfl) ?_
    refine wp_ret rfl rfl ⟨⟨Nat.le_refl _, Nat.le_refl _⟩, ?_⟩
    have e : rfF (byN (mi 3) n) n (mi 2 6) = (false, (r1F (byN (mi 3) n) n (mi 2 6)).2.1) := by
      unfold rfF
      rw [if_neg (i1_f c_3)]
    exact rd_fail hp2 f_1 e
  · have c_3 : ¬ ((if (r1F (byN (mi 3) n) n (mi 2 6)).1 = true then (1 : Int32) else 0) = 0) := of_decide_eq_false c_3
    refine wp_steps 3 (t' := (16, [some (.ref 2), some (.ref (ρ)), none], [.int 1, .int 4, .ref 2], (HD, m_1, ml, mr))) rfl ?_
    refine wp_calv (as := [.int 4, .int 1]) rfl rfl rfl (Nat.le_of_ble_eq_true rfl) ⟨by decide, rfl⟩ ((c_readPart (mi := M_1) (ml := ml) hM hn ((sz_of (mi := mi) f_1).trans hs) hX (congrArg (byN · n) (row3_of (mi := mi) f_1)) (key := 4) (part := 1) (by decide) hp2)) (by decide) ?_
    rintro _ _ ⟨M_2, m_2, rfl, hp3, rfl, g_2, he2⟩
    have f_2 : ∀ k j, k ≠ 6 → M_2 k j = rdM mi k j := fun k j z => (g_2 k j z).trans (f_1 k j z)
    change PS M_2 m_2 (r2F (byN (mi 3) n) n (mi 2 6)).2 at hp3
    change (r2F (byN (mi 3) n) n (mi 2 6)).1 = true → _ at he2
    show aWP _ _ (17, [some (.ref 2), some (.ref (ρ)), none], [.int (if (r2F (byN (mi 3) n) n (mi 2 6)).1 = true then (1 : Int32) else 0)], (HD, m_2, ml, mr)) _
    refine wp_bI rfl (fun c_7 => ?_) (fun c_7 => ?_)
    · have c_7 : (if (r2F (byN (mi 3) n) n (mi 2 6)).1 = true then (1 : Int32) else 0) = 0 := of_decide_eq_true c_7
      refine wp_steps 4 (t' := (32, [some (.ref 2), some (.ref (ρ)), some (.int 0)], [.int 0, .ref 2], (HD, m_2, ml, mr))) rfl ?_
      refine wp_puti rfl ⟨by decide, rfl⟩ rfl (fun m_8 h_9 => ?_)
      subst h_9
      refine wp_steps 1 (t' := (34, [some (.ref 2), some (.ref (ρ)), some (.int 0)], [.int 0], (HD, (aup m_2 2 0 0), ml, mr))) rfl ?_
      refine wp_bI rfl (fun c_10 => ?_) (fun c_10 => ?_)
      · have c_10 : ¬ (0 : Int32) = 0 := of_decide_eq_true c_10
        exact absurd c_10 (by decide)
      have c_10 : (0 : Int32) = 0 := Decidable.not_not.mp (of_decide_eq_false c_10)
      refine wp_steps 1 (t' := (36, [some (.ref 2), some (.ref (ρ)), some (.int 0)], [.ref 2], (HD, (aup m_2 2 0 0), ml, mr))) rfl ?_
      refine wp_geti rfl ⟨by decide, rfl⟩ (Or.inl rfl) ?_
      refine wp_ret rfl rfl ⟨⟨Nat.le_refl _, Nat.le_refl _⟩, ?_⟩
      have e : rfF (byN (mi 3) n) n (mi 2 6) = (false, (r2F (byN (mi 3) n) n (mi 2 6)).2.1) := by
        unfold rfF
        rw [if_pos (i1_t c_3), if_neg (i1_f c_7)]
      exact rd_fail hp3 f_2 e
    · have c_7 : ¬ ((if (r2F (byN (mi 3) n) n (mi 2 6)).1 = true then (1 : Int32) else 0) = 0) := of_decide_eq_false c_7
      refine wp_steps 3 (t' := (21, [some (.ref 2), some (.ref (ρ)), none], [.int 2, .int 5, .ref 2], (HD, m_2, ml, mr))) rfl ?_
      refine wp_calv (as := [.int 5, .int 2]) rfl rfl rfl (Nat.le_of_ble_eq_true rfl) ⟨by decide, rfl⟩ ((c_readPart (mi := M_2) (ml := ml) hM hn ((sz_of (mi := mi) f_2).trans hs) hX (congrArg (byN · n) (row3_of (mi := mi) f_2)) (key := 5) (part := 2) (by decide) hp3)) (by decide) ?_
      rintro _ _ ⟨M_3, m_3, rfl, hp4, rfl, g_3, he3⟩
      have f_3 : ∀ k j, k ≠ 6 → M_3 k j = rdM mi k j := fun k j z => (g_3 k j z).trans (f_2 k j z)
      change PS M_3 m_3 (r3F (byN (mi 3) n) n (mi 2 6)).2 at hp4
      change (r3F (byN (mi 3) n) n (mi 2 6)).1 = true → _ at he3
      show aWP _ _ (22, [some (.ref 2), some (.ref (ρ)), none], [.int (if (r3F (byN (mi 3) n) n (mi 2 6)).1 = true then (1 : Int32) else 0)], (HD, m_3, ml, mr)) _
      refine wp_bI rfl (fun c_11 => ?_) (fun c_11 => ?_)
      · have c_11 : (if (r3F (byN (mi 3) n) n (mi 2 6)).1 = true then (1 : Int32) else 0) = 0 := of_decide_eq_true c_11
        refine wp_steps 4 (t' := (32, [some (.ref 2), some (.ref (ρ)), some (.int 0)], [.int 0, .ref 2], (HD, m_3, ml, mr))) rfl ?_
        refine wp_puti rfl ⟨by decide, rfl⟩ rfl (fun m_12 h_13 => ?_)
        subst h_13
        refine wp_steps 1 (t' := (34, [some (.ref 2), some (.ref (ρ)), some (.int 0)], [.int 0], (HD, (aup m_3 2 0 0), ml, mr))) rfl ?_
        refine wp_bI rfl (fun c_14 => ?_) (fun c_14 => ?_)
        · have c_14 : ¬ (0 : Int32) = 0 := of_decide_eq_true c_14
          exact absurd c_14 (by decide)
        have c_14 : (0 : Int32) = 0 := Decidable.not_not.mp (of_decide_eq_false c_14)
        refine wp_steps 1 (t' := (36, [some (.ref 2), some (.ref (ρ)), some (.int 0)], [.ref 2], (HD, (aup m_3 2 0 0), ml, mr))) rfl ?_
        refine wp_geti rfl ⟨by decide, rfl⟩ (Or.inl rfl) ?_
        refine wp_ret rfl rfl ⟨⟨Nat.le_refl _, Nat.le_refl _⟩, ?_⟩
        have e : rfF (byN (mi 3) n) n (mi 2 6) = (false, (r3F (byN (mi 3) n) n (mi 2 6)).2.1) := by
          unfold rfF
          rw [if_pos (i1_t c_3), if_pos (i1_t c_7), if_neg (i1_f c_11)]
        exact rd_fail hp4 f_3 e
      · have c_11 : ¬ ((if (r3F (byN (mi 3) n) n (mi 2 6)).1 = true then (1 : Int32) else 0) = 0) := of_decide_eq_false c_11
        refine wp_steps 1 (t' := (24, [some (.ref 2), some (.ref (ρ)), none], [.ref 2], (HD, m_3, ml, mr))) rfl ?_
        refine wp_geti rfl ⟨by decide, rfl⟩ (Or.inl rfl) ?_
        refine wp_bI rfl (fun c_15 => ?_) (fun c_15 => ?_)
        · have c_15 : ¬ (m_3 2 3) = 0 := of_decide_eq_true c_15
          refine wp_steps 4 (t' := (32, [some (.ref 2), some (.ref (ρ)), some (.int 0)], [.int 0, .ref 2], (HD, m_3, ml, mr))) rfl ?_
          refine wp_puti rfl ⟨by decide, rfl⟩ rfl (fun m_16 h_17 => ?_)
          subst h_17
          refine wp_steps 1 (t' := (34, [some (.ref 2), some (.ref (ρ)), some (.int 0)], [.int 0], (HD, (aup m_3 2 0 0), ml, mr))) rfl ?_
          refine wp_bI rfl (fun c_18 => ?_) (fun c_18 => ?_)
          · have c_18 : ¬ (0 : Int32) = 0 := of_decide_eq_true c_18
            exact absurd c_18 (by decide)
          have c_18 : (0 : Int32) = 0 := Decidable.not_not.mp (of_decide_eq_false c_18)
          refine wp_steps 1 (t' := (36, [some (.ref 2), some (.ref (ρ)), some (.int 0)], [.ref 2], (HD, (aup m_3 2 0 0), ml, mr))) rfl ?_
          refine wp_geti rfl ⟨by decide, rfl⟩ (Or.inl rfl) ?_
          refine wp_ret rfl rfl ⟨⟨Nat.le_refl _, Nat.le_refl _⟩, ?_⟩
          have e : rfF (byN (mi 3) n) n (mi 2 6) = (false, (r3F (byN (mi 3) n) n (mi 2 6)).2.1) := by
            unfold rfF
            rw [if_pos (i1_t c_3), if_pos (i1_t c_7), if_pos (i1_t c_11), if_neg (by rw [← hp4.2.1]; exact c_15)]
          exact rd_fail hp4 f_3 e
        · have c_15 : (m_3 2 3) = 0 := Decidable.not_not.mp (of_decide_eq_false c_15)
          refine wp_steps 5 (t' := (32, [some (.ref 2), some (.ref (ρ)), some (.int 1)], [.int 0, .ref 2], (HD, m_3, ml, mr))) rfl ?_
          refine wp_puti rfl ⟨by decide, rfl⟩ rfl (fun m_19 h_20 => ?_)
          subst h_20
          refine wp_steps 1 (t' := (34, [some (.ref 2), some (.ref (ρ)), some (.int 1)], [.int 1], (HD, (aup m_3 2 0 0), ml, mr))) rfl ?_
          refine wp_bI rfl (fun c_21 => ?_) (fun c_21 => ?_)
          rotate_left
          · have c_21 : (1 : Int32) = 0 := Decidable.not_not.mp (of_decide_eq_false c_21)
            exact absurd c_21 (by decide)
          have c_21 : ¬ (1 : Int32) = 0 := of_decide_eq_true c_21
          refine wp_steps 2 (t' := (40, [some (.ref 2), some (.ref (ρ)), some (.int 1)], [.ref 2, .ref (ρ)], (HD, (aup m_3 2 0 0), ml, mr))) rfl ?_
          refine wp_getr rfl ⟨by decide, rfl⟩ rfl (hM (2, 2, 4) (by decide)) ?_
          refine wp_calv (as := [.ref 4]) rfl rfl rfl (Nat.le_of_ble_eq_true rfl) (shX hρ) ((c_Xbecome (mi := aup m_3 2 0 0) (ml := ml) hM (A := ρ) (B := 4) (List.mem_cons_of_mem _ hρ) (by decide))) (by decide) ?_
          rintro _ _ ⟨rfl, rfl⟩
          show aWP _ _ (42, [some (.ref 2), some (.ref (ρ)), some (.int 1)], [], (HD, (acpy (acpy (aup (aup m_3 2 0 0) ρ 4 (aup m_3 2 0 0 4 4)) (4 + 2) (ρ + 2) 0 0 3) (4 + 1) (ρ + 1) 0 0 160), ml, mr)) _
          refine wp_steps 1 (t' := (43, [some (.ref 2), some (.ref (ρ)), some (.int 1)], [.int (-1)], (HD, (acpy (acpy (aup (aup m_3 2 0 0) ρ 4 (aup m_3 2 0 0 4 4)) (4 + 2) (ρ + 2) 0 0 3) (4 + 1) (ρ + 1) 0 0 160), ml, mr))) rfl ?_
          refine wp_ret rfl rfl ⟨⟨Nat.le_refl _, Nat.le_refl _⟩, ?_⟩
          have e : rfF (byN (mi 3) n) n (mi 2 6) = (true, 0) := by
            unfold rfF
            rw [if_pos (i1_t c_3), if_pos (i1_t c_7), if_pos (i1_t c_11), if_pos (by rw [← hp4.2.1]; exact c_15)]
          exact rd_okk hρ hp4 f_3 (by rw [e]) (he1 (i1_t c_3)) (he2 (i1_t c_7)) (he3 (i1_t c_11))
