/-! tells (written by wip/whole/mkpub8.py) -/
abbrev cT := Nat → List Int32 × List Int32 × List Int32
def gsN (C : Nat) (w : Int32) : Nat := if w = 0 then 1 else if w = 1 then 6 else if w = 2 then 10 else if w = 3 then 3 else if w = 8 then C else 100
def spU (w : Int32) (s k : Nat) (u : pU) : pU := if w = 1 then (nI k, u.2) else if w = 2 then (u.1, nI k, u.2.2) else if w = 4 ∨ w = 5 then (u.1, u.2.1, u.2.2.1, u.2.2.2.1, fun j => if j = s then nI k else u.2.2.2.2 j) else u
def spT (CT : cT) (w : Int32) (s k : Nat) (t : tW) : tW := if w = 6 ∨ w = 7 then (fun j => if j = s then nI k else t.1 j, t.2) else if w = 8 then (t.1, t.2.1, CT k) else t
def spR (w : Int32) (k ρ : Nat) : Nat := if w = 8 then 11 + 4 * k else ρ
def TH2 (ρ : Nat) (mi m : Nat → Nat → Int32) (t : tW) (u : pU) : Prop := TH ρ t.2.2.1 t.2.2.2.1 t.2.2.2.2 mi m t u
theorem u_row {m : Nat → Nat → Int32} {a b : Nat} {v : Int32} : frm [a] m (aup m a b v) := fun k j q => by
  have : k ≠ a := fun z => q (by rw [z]; exact List.mem_cons_self ..)
  simp [aup, this]
theorem tx_x {ρ : Nat} (h : ρ ∈ TXS) : (ρ + 1 ∉ [70] ∧ ρ + 2 ∉ [70]) ∧ (ρ + 1 ∉ [71] ∧ ρ + 2 ∉ [71]) ∧ (ρ + 1 ∉ [74] ∧ ρ + 2 ∉ [74]) := by
  revert ρ
  decide
theorem TH.u0 {ρ : Nat} {c0 c1 c2 : List Int32} {mi m : Nat → Nat → Int32} {t : tW} {u : pU} (h : TH ρ c0 c1 c2 mi m t u) (hρ : ρ ∈ TXS) (v : Int32) : TH ρ c0 c1 c2 mi (aup m 70 0 v) t (v, u.2) := by
  obtain ⟨a1, a2, a3, a4⟩ := h
  have f := u_row (m := m) (a := 70) (b := 0) (v := v)
  refine ⟨a1.tr (f.wk (by decide)), TXok_fr f a2 (tx_x hρ).1.1 (tx_x hρ).1.2, (twC_fr f (by decide) (by decide)).trans a3, ?_⟩
  rw [← a4]; rfl
theorem TH.u1 {ρ : Nat} {c0 c1 c2 : List Int32} {mi m : Nat → Nat → Int32} {t : tW} {u : pU} (h : TH ρ c0 c1 c2 mi m t u) (hρ : ρ ∈ TXS) (v : Int32) : TH ρ c0 c1 c2 mi (aup m 70 1 v) t (u.1, v, u.2.2) := by
  obtain ⟨a1, a2, a3, a4⟩ := h
  have f := u_row (m := m) (a := 70) (b := 1) (v := v)
  refine ⟨a1.tr (f.wk (by decide)), TXok_fr f a2 (tx_x hρ).1.1 (tx_x hρ).1.2, (twC_fr f (by decide) (by decide)).trans a3, ?_⟩
  rw [← a4]; rfl
theorem TH.us {ρ : Nat} {c0 c1 c2 : List Int32} {mi m : Nat → Nat → Int32} {t : tW} {u : pU} (h : TH ρ c0 c1 c2 mi m t u) (hρ : ρ ∈ TXS) {s : Nat} (hs : s < 8) (v : Int32) : TH ρ c0 c1 c2 mi (aup m 71 s v) t (u.1, u.2.1, u.2.2.1, u.2.2.2.1, fun j => if j = s then v else u.2.2.2.2 j) := by
  obtain ⟨a1, a2, a3, a4⟩ := h
  have f := u_row (m := m) (a := 71) (b := s) (v := v)
  refine ⟨a1.tr (f.wk (by decide)), TXok_fr f a2 (tx_x hρ).2.1.1 (tx_x hρ).2.1.2, (twC_fr f (by decide) (by decide)).trans a3, ?_⟩
  rw [← a4]
  refine Prod.ext rfl (Prod.ext rfl (Prod.ext rfl (Prod.ext rfl (funext fun j => ?_))))
  by_cases e : j = s
  · subst e; simp [puC, c8, aup, hs]
  · simp [puC, c8, aup, e]
theorem TH.ts {ρ : Nat} {c0 c1 c2 : List Int32} {mi m : Nat → Nat → Int32} {t : tW} {u : pU} (h : TH ρ c0 c1 c2 mi m t u) (hρ : ρ ∈ TXS) {s : Nat} (hs : s < 8) (v : Int32) : TH ρ c0 c1 c2 mi (aup m 74 s v) (fun j => if j = s then v else t.1 j, t.2) u := by
  obtain ⟨a1, a2, a3, a4⟩ := h
  have f := u_row (m := m) (a := 74) (b := s) (v := v)
  refine ⟨a1.tr (f.wk (by decide)), TXok_fr f a2 (tx_x hρ).2.2.1 (tx_x hρ).2.2.2, ?_, (puC_fr f (by decide) (by decide)).trans a4⟩
  rw [← a3]
  refine Prod.ext (funext fun j => ?_) (Prod.ext ?_ rfl)
  · by_cases e : j = s
    · subst e; simp [twC, c8, aup, hs]
    · simp [twC, c8, aup, e]
  · simp [twC, aup]
theorem TH.tc {ρ : Nat} {c0 c1 c2 : List Int32} {mi m : Nat → Nat → Int32} {t : tW} {u : pU} (h : TH ρ c0 c1 c2 mi m t u) {r2 : Nat} (hρ : r2 ∈ TXS) {d : List Int32 × List Int32 × List Int32} (hx : TXok mi r2 d.1 d.2.1 d.2.2) : TH r2 d.1 d.2.1 d.2.2 mi m (t.1, t.2.1, d) u := by
  obtain ⟨a1, a2, a3, a4⟩ := h
  have q := tx_U hρ
  refine ⟨a1, TXok_fr a1 hx q.1 q.2.1, ?_, a4⟩
  rw [← a3]; rfl
set_option maxRecDepth 20000 in
set_option maxHeartbeats 1000000 in
theorem c_guesses {X : aXt × Value} {mi : Nat → Nat → Int32} {ml : Nat → Nat → Int64} {mr : Nat → Nat → Option Nat} (hM : MRok mr) {C : Nat} (hC : mi 0 1 = nI C) {w : Int32} : aCW X 1 87 [.ref 0, .int w] (HD, mi, ml, mr) (rdI mi ml mr (nI (gsN C w))) := by
  refine cw_of (cd := cd_X6_guessesOf) (nL := 2) rfl rfl ?_
  show aWP _ _ (0, [some (.ref 0), some (.int w)], [], (HD, mi, ml, mr)) _
  refine wp_steps 1 (t' := (1, [some (.ref 0), some (.int w)], [.int w], (HD, mi, ml, mr))) rfl ?_
  by_cases s_1 : w = 0
  · refine wp_sw 2 rfl (by rw [s_1]; decide) ?_
    refine wp_steps 1 (t' := (3, [some (.ref 0), some (.int w)], [.int 1], (HD, mi, ml, mr))) rfl ?_
    refine wp_ret rfl rfl ⟨⟨Nat.le_refl _, Nat.le_refl _⟩, ?_⟩
    refine ⟨?_, rfl⟩
    unfold gsN
    rw [if_pos s_1]
    first | rfl | rw [hC]
  by_cases s_2 : w = 1
  · refine wp_sw 4 rfl (by rw [s_2]; decide) ?_
    refine wp_steps 1 (t' := (5, [some (.ref 0), some (.int w)], [.int 6], (HD, mi, ml, mr))) rfl ?_
    refine wp_ret rfl rfl ⟨⟨Nat.le_refl _, Nat.le_refl _⟩, ?_⟩
    refine ⟨?_, rfl⟩
    unfold gsN
    rw [if_neg s_1, if_pos s_2]
    first | rfl | rw [hC]
  by_cases s_3 : w = 2
  · refine wp_sw 6 rfl (by rw [s_3]; decide) ?_
    refine wp_steps 1 (t' := (7, [some (.ref 0), some (.int w)], [.int 10], (HD, mi, ml, mr))) rfl ?_
    refine wp_ret rfl rfl ⟨⟨Nat.le_refl _, Nat.le_refl _⟩, ?_⟩
    refine ⟨?_, rfl⟩
    unfold gsN
    rw [if_neg s_1, if_neg s_2, if_pos s_3]
    first | rfl | rw [hC]
  by_cases s_4 : w = 3
  · refine wp_sw 8 rfl (by rw [s_4]; decide) ?_
    refine wp_steps 1 (t' := (9, [some (.ref 0), some (.int w)], [.int 3], (HD, mi, ml, mr))) rfl ?_
    refine wp_ret rfl rfl ⟨⟨Nat.le_refl _, Nat.le_refl _⟩, ?_⟩
    refine ⟨?_, rfl⟩
    unfold gsN
    rw [if_neg s_1, if_neg s_2, if_neg s_3, if_pos s_4]
    first | rfl | rw [hC]
  by_cases s_5 : w = 4
  · refine wp_sw 13 rfl (by rw [s_5]; decide) ?_
    refine wp_steps 2 (t' := (15, [some (.ref 0), some (.int w)], [.int 5, .int w], (HD, mi, ml, mr))) rfl ?_
    refine wp_bC rfl (fun c_6 => ?_) (fun c_6 => ?_)
    · have c_6 : 5 < w := of_decide_eq_true c_6
      refine wp_steps 1 (t' := (19, [some (.ref 0), some (.int w)], [.int 100], (HD, mi, ml, mr))) rfl ?_
      refine wp_ret rfl rfl ⟨⟨Nat.le_refl _, Nat.le_refl _⟩, ?_⟩
      refine ⟨?_, rfl⟩
      unfold gsN
      rw [if_neg s_1, if_neg s_2, if_neg s_3, if_neg s_4, if_neg (fun z => absurd (z.symm.trans s_5) (by decide))]
      first | rfl | rw [hC]
    · have c_6 : ¬ (5 < w) := of_decide_eq_false c_6
      refine wp_steps 2 (t' := (19, [some (.ref 0), some (.int w)], [.int 100], (HD, mi, ml, mr))) rfl ?_
      refine wp_ret rfl rfl ⟨⟨Nat.le_refl _, Nat.le_refl _⟩, ?_⟩
      refine ⟨?_, rfl⟩
      unfold gsN
      rw [if_neg s_1, if_neg s_2, if_neg s_3, if_neg s_4, if_neg (fun z => absurd (z.symm.trans s_5) (by decide))]
      first | rfl | rw [hC]
  by_cases s_7 : w = 5
  · refine wp_sw 13 rfl (by rw [s_7]; decide) ?_
    refine wp_steps 2 (t' := (15, [some (.ref 0), some (.int w)], [.int 5, .int w], (HD, mi, ml, mr))) rfl ?_
    refine wp_bC rfl (fun c_8 => ?_) (fun c_8 => ?_)
    · have c_8 : 5 < w := of_decide_eq_true c_8
      refine wp_steps 1 (t' := (19, [some (.ref 0), some (.int w)], [.int 100], (HD, mi, ml, mr))) rfl ?_
      refine wp_ret rfl rfl ⟨⟨Nat.le_refl _, Nat.le_refl _⟩, ?_⟩
      refine ⟨?_, rfl⟩
      unfold gsN
      rw [if_neg s_1, if_neg s_2, if_neg s_3, if_neg s_4, if_neg (fun z => absurd (z.symm.trans s_7) (by decide))]
      first | rfl | rw [hC]
    · have c_8 : ¬ (5 < w) := of_decide_eq_false c_8
      refine wp_steps 2 (t' := (19, [some (.ref 0), some (.int w)], [.int 100], (HD, mi, ml, mr))) rfl ?_
      refine wp_ret rfl rfl ⟨⟨Nat.le_refl _, Nat.le_refl _⟩, ?_⟩
      refine ⟨?_, rfl⟩
      unfold gsN
      rw [if_neg s_1, if_neg s_2, if_neg s_3, if_neg s_4, if_neg (fun z => absurd (z.symm.trans s_7) (by decide))]
      first | rfl | rw [hC]
  by_cases s_9 : w = 6
  · refine wp_sw 13 rfl (by rw [s_9]; decide) ?_
    refine wp_steps 2 (t' := (15, [some (.ref 0), some (.int w)], [.int 5, .int w], (HD, mi, ml, mr))) rfl ?_
    refine wp_bC rfl (fun c_10 => ?_) (fun c_10 => ?_)
    · have c_10 : 5 < w := of_decide_eq_true c_10
      refine wp_steps 1 (t' := (19, [some (.ref 0), some (.int w)], [.int 100], (HD, mi, ml, mr))) rfl ?_
      refine wp_ret rfl rfl ⟨⟨Nat.le_refl _, Nat.le_refl _⟩, ?_⟩
      refine ⟨?_, rfl⟩
      unfold gsN
      rw [if_neg s_1, if_neg s_2, if_neg s_3, if_neg s_4, if_neg (fun z => absurd (z.symm.trans s_9) (by decide))]
      first | rfl | rw [hC]
    · have c_10 : ¬ (5 < w) := of_decide_eq_false c_10
      refine wp_steps 2 (t' := (19, [some (.ref 0), some (.int w)], [.int 100], (HD, mi, ml, mr))) rfl ?_
      refine wp_ret rfl rfl ⟨⟨Nat.le_refl _, Nat.le_refl _⟩, ?_⟩
      refine ⟨?_, rfl⟩
      unfold gsN
      rw [if_neg s_1, if_neg s_2, if_neg s_3, if_neg s_4, if_neg (fun z => absurd (z.symm.trans s_9) (by decide))]
      first | rfl | rw [hC]
  by_cases s_11 : w = 7
  · refine wp_sw 13 rfl (by rw [s_11]; decide) ?_
    refine wp_steps 2 (t' := (15, [some (.ref 0), some (.int w)], [.int 5, .int w], (HD, mi, ml, mr))) rfl ?_
    refine wp_bC rfl (fun c_12 => ?_) (fun c_12 => ?_)
    · have c_12 : 5 < w := of_decide_eq_true c_12
      refine wp_steps 1 (t' := (19, [some (.ref 0), some (.int w)], [.int 100], (HD, mi, ml, mr))) rfl ?_
      refine wp_ret rfl rfl ⟨⟨Nat.le_refl _, Nat.le_refl _⟩, ?_⟩
      refine ⟨?_, rfl⟩
      unfold gsN
      rw [if_neg s_1, if_neg s_2, if_neg s_3, if_neg s_4, if_neg (fun z => absurd (z.symm.trans s_11) (by decide))]
      first | rfl | rw [hC]
    · have c_12 : ¬ (5 < w) := of_decide_eq_false c_12
      refine wp_steps 2 (t' := (19, [some (.ref 0), some (.int w)], [.int 100], (HD, mi, ml, mr))) rfl ?_
      refine wp_ret rfl rfl ⟨⟨Nat.le_refl _, Nat.le_refl _⟩, ?_⟩
      refine ⟨?_, rfl⟩
      unfold gsN
      rw [if_neg s_1, if_neg s_2, if_neg s_3, if_neg s_4, if_neg (fun z => absurd (z.symm.trans s_11) (by decide))]
      first | rfl | rw [hC]
  by_cases s_13 : w = 8
  · refine wp_sw 10 rfl (by rw [s_13]; decide) ?_
    refine wp_steps 1 (t' := (11, [some (.ref 0), some (.int w)], [.ref 0], (HD, mi, ml, mr))) rfl ?_
    refine wp_geti rfl ⟨by decide, rfl⟩ (Or.inl rfl) ?_
    refine wp_ret rfl rfl ⟨⟨Nat.le_refl _, Nat.le_refl _⟩, ?_⟩
    refine ⟨?_, rfl⟩
    unfold gsN
    rw [if_neg s_1, if_neg s_2, if_neg s_3, if_neg s_4, if_pos s_13]
    first | rfl | rw [hC]
  refine wp_sw 13 rfl (aSw_out [0, 1, 2, 3, 4, 5, 6, 7, 8] (List.forall_mem_cons.mpr ⟨s_1, List.forall_mem_cons.mpr ⟨s_2, List.forall_mem_cons.mpr ⟨s_3, List.forall_mem_cons.mpr ⟨s_4, List.forall_mem_cons.mpr ⟨s_5, List.forall_mem_cons.mpr ⟨s_7, List.forall_mem_cons.mpr ⟨s_9, List.forall_mem_cons.mpr ⟨s_11, List.forall_mem_cons.mpr ⟨s_13, fun _ h => absurd h List.not_mem_nil⟩⟩⟩⟩⟩⟩⟩⟩⟩) (by decide)) ?_
  refine wp_steps 2 (t' := (15, [some (.ref 0), some (.int w)], [.int 5, .int w], (HD, mi, ml, mr))) rfl ?_
  refine wp_bC rfl (fun c_14 => ?_) (fun c_14 => ?_)
  · have c_14 : 5 < w := of_decide_eq_true c_14
    refine wp_steps 1 (t' := (19, [some (.ref 0), some (.int w)], [.int 100], (HD, mi, ml, mr))) rfl ?_
    refine wp_ret rfl rfl ⟨⟨Nat.le_refl _, Nat.le_refl _⟩, ?_⟩
    refine ⟨?_, rfl⟩
    unfold gsN
    rw [if_neg s_1, if_neg s_2, if_neg s_3, if_neg s_4, if_neg s_13]
    first | rfl | rw [hC]
  · have c_14 : ¬ (5 < w) := of_decide_eq_false c_14
    refine wp_steps 2 (t' := (19, [some (.ref 0), some (.int w)], [.int 100], (HD, mi, ml, mr))) rfl ?_
    refine wp_ret rfl rfl ⟨⟨Nat.le_refl _, Nat.le_refl _⟩, ?_⟩
    refine ⟨?_, rfl⟩
    unfold gsN
    rw [if_neg s_1, if_neg s_2, if_neg s_3, if_neg s_4, if_neg s_13]
    first | rfl | rw [hC]
set_option maxRecDepth 20000 in
set_option maxHeartbeats 1000000 in
theorem c_suppose {X : aXt × Value} {mi : Nat → Nat → Int32} {ml : Nat → Nat → Int64} {mr : Nat → Nat → Option Nat} (hM : MRok mr) {C : Nat} (hC : mi 0 1 = nI C) (hC6 : C ≤ 6) {CT : cT} (hCT : ∀ k, k < C → TXok mi (11 + 4 * k) (CT k).1 (CT k).2.1 (CT k).2.2) {ρ : Nat} (hρ : ρ ∈ TXS) {w s : Int32} (hs : aixn s 8 = true) {k : Nat} (hk : w = 8 → k < C) {m : Nat → Nat → Int32} {t : tW} {u : pU} (h : TH2 ρ mi m t u) : aCW X 2 88 [.ref 0, .int w, .int s, .int (nI k)] (HD, m, ml, (aup mr 73 2 (some ρ))) (fun r h' => r = none ∧ spR w k ρ ∈ TXS ∧ ∃ m', h' = (HD, m', ml, aup mr 73 2 (some (spR w k ρ))) ∧ TH2 (spR w k ρ) mi m' (spT CT w s.toNatClampNeg k t) (spU w s.toNatClampNeg k u)) := by
  refine cw_of (cd := cd_X6_suppose) (nL := 5) rfl rfl ?_
  show aWP _ _ (0, [some (.ref 0), some (.int w), some (.int s), some (.int (nI k)), none], [], (HD, m, ml, (aup mr 73 2 (some ρ)))) _
  refine wp_steps 2 (t' := (2, [some (.ref 0), some (.int w), some (.int s), some (.int (nI k)), none], [.int 1, .int w], (HD, m, ml, (aup mr 73 2 (some ρ))))) rfl ?_
  refine wp_bC rfl (fun c_1 => ?_) (fun c_1 => ?_)
  · have c_1 : ¬ w = 1 := of_decide_eq_true c_1
    refine wp_steps 2 (t' := (11, [some (.ref 0), some (.int w), some (.int s), some (.int (nI k)), none], [.int 2, .int w], (HD, m, ml, (aup mr 73 2 (some ρ))))) rfl ?_
    refine wp_bC rfl (fun c_2 => ?_) (fun c_2 => ?_)
    · have c_2 : ¬ w = 2 := of_decide_eq_true c_2
      refine wp_steps 2 (t' := (20, [some (.ref 0), some (.int w), some (.int s), some (.int (nI k)), none], [.int 4, .int w], (HD, m, ml, (aup mr 73 2 (some ρ))))) rfl ?_
      refine wp_bC rfl (fun c_3 => ?_) (fun c_3 => ?_)
      · have c_3 : w = 4 := of_decide_eq_true c_3
        refine wp_steps 1 (t' := (25, [some (.ref 0), some (.int w), some (.int s), some (.int (nI k)), none], [.ref 0], (HD, m, ml, (aup mr 73 2 (some ρ))))) rfl ?_
        refine wp_getr rfl ⟨by decide, rfl⟩ rfl ((mr_up hM (by decide) _) (0, 9, 69) (by decide)) ?_
        refine wp_getr rfl ⟨by decide, rfl⟩ rfl ((mr_up hM (by decide) _) (69, 1, 70) (by decide)) ?_
        refine wp_getr rfl ⟨by decide, rfl⟩ rfl ((mr_up hM (by decide) _) (70, 4, 71) (by decide)) ?_
        refine wp_steps 2 (t' := (30, [some (.ref 0), some (.int w), some (.int s), some (.int (nI k)), none], [.int (nI k), .int s, .ref 71], (HD, m, ml, (aup mr 73 2 (some ρ))))) rfl ?_
        refine wp_iast rfl ⟨by decide, rfl⟩ hs (fun m_4 h_5 => ?_)
        subst h_5
        refine wp_steps 1 (t' := (60, [some (.ref 0), some (.int w), some (.int s), some (.int (nI k)), none], [], (HD, (aup m 71 s.toNatClampNeg (nI k)), ml, (aup mr 73 2 (some ρ))))) rfl ?_
        refine wp_ret rfl rfl ⟨⟨Nat.le_refl _, Nat.le_refl _⟩, ?_⟩
        have q : w = 4 := c_3
        have eR : spR w k ρ = ρ := by rw [q]; rfl
        have eU : (spU w s.toNatClampNeg k u) = (u.1, u.2.1, u.2.2.1, u.2.2.2.1, fun j => if j = s.toNatClampNeg then nI k else u.2.2.2.2 j) := by rw [q]; rfl
        have eT : (spT CT w s.toNatClampNeg k t) = t := by rw [q]; rfl
        rw [eR, eU, eT]
        exact ⟨rfl, hρ, _, rfl, TH.us h hρ (aix_out hs).2 _⟩
      · have c_3 : ¬ (w = 4) := of_decide_eq_false c_3
        refine wp_steps 2 (t' := (23, [some (.ref 0), some (.int w), some (.int s), some (.int (nI k)), none], [.int 5, .int w], (HD, m, ml, (aup mr 73 2 (some ρ))))) rfl ?_
        refine wp_bC rfl (fun c_6 => ?_) (fun c_6 => ?_)
        · have c_6 : ¬ w = 5 := of_decide_eq_true c_6
          refine wp_steps 2 (t' := (34, [some (.ref 0), some (.int w), some (.int s), some (.int (nI k)), none], [.int 6, .int w], (HD, m, ml, (aup mr 73 2 (some ρ))))) rfl ?_
          refine wp_bC rfl (fun c_7 => ?_) (fun c_7 => ?_)
          · have c_7 : w = 6 := of_decide_eq_true c_7
            refine wp_steps 1 (t' := (39, [some (.ref 0), some (.int w), some (.int s), some (.int (nI k)), none], [.ref 0], (HD, m, ml, (aup mr 73 2 (some ρ))))) rfl ?_
            refine wp_getr rfl ⟨by decide, rfl⟩ rfl ((mr_up hM (by decide) _) (0, 9, 69) (by decide)) ?_
            refine wp_getr rfl ⟨by decide, rfl⟩ rfl ((mr_up hM (by decide) _) (69, 0, 73) (by decide)) ?_
            refine wp_getr rfl ⟨by decide, rfl⟩ rfl ((mr_up hM (by decide) _) (73, 0, 74) (by decide)) ?_
            refine wp_steps 2 (t' := (44, [some (.ref 0), some (.int w), some (.int s), some (.int (nI k)), none], [.int (nI k), .int s, .ref 74], (HD, m, ml, (aup mr 73 2 (some ρ))))) rfl ?_
            refine wp_iast rfl ⟨by decide, rfl⟩ hs (fun m_8 h_9 => ?_)
            subst h_9
            refine wp_steps 1 (t' := (60, [some (.ref 0), some (.int w), some (.int s), some (.int (nI k)), none], [], (HD, (aup m 74 s.toNatClampNeg (nI k)), ml, (aup mr 73 2 (some ρ))))) rfl ?_
            refine wp_ret rfl rfl ⟨⟨Nat.le_refl _, Nat.le_refl _⟩, ?_⟩
            have q : w = 6 := c_7
            have eR : spR w k ρ = ρ := by rw [q]; rfl
            have eU : (spU w s.toNatClampNeg k u) = u := by rw [q]; rfl
            have eT : (spT CT w s.toNatClampNeg k t) = (fun j => if j = s.toNatClampNeg then nI k else t.1 j, t.2) := by rw [q]; rfl
            rw [eR, eU, eT]
            exact ⟨rfl, hρ, _, rfl, TH.ts h hρ (aix_out hs).2 _⟩
          · have c_7 : ¬ (w = 6) := of_decide_eq_false c_7
            refine wp_steps 2 (t' := (37, [some (.ref 0), some (.int w), some (.int s), some (.int (nI k)), none], [.int 7, .int w], (HD, m, ml, (aup mr 73 2 (some ρ))))) rfl ?_
            refine wp_bC rfl (fun c_10 => ?_) (fun c_10 => ?_)
            · have c_10 : ¬ w = 7 := of_decide_eq_true c_10
              refine wp_steps 2 (t' := (48, [some (.ref 0), some (.int w), some (.int s), some (.int (nI k)), none], [.int 8, .int w], (HD, m, ml, (aup mr 73 2 (some ρ))))) rfl ?_
              refine wp_bC rfl (fun c_11 => ?_) (fun c_11 => ?_)
              · have c_11 : ¬ w = 8 := of_decide_eq_true c_11
                refine wp_ret rfl rfl ⟨⟨Nat.le_refl _, Nat.le_refl _⟩, ?_⟩
                have eR : spR w k ρ = ρ := if_neg c_11
                have eU : (spU w s.toNatClampNeg k u) = u := by unfold spU; rw [if_neg c_1, if_neg c_2, if_neg (fun z => z.elim c_3 c_6)]
                have eT : (spT CT w s.toNatClampNeg k t) = t := by unfold spT; rw [if_neg (fun z => z.elim c_7 c_10), if_neg c_11]
                rw [eR, eU, eT]
                exact ⟨rfl, hρ, _, rfl, h⟩
              · have c_11 : w = 8 := Decidable.not_not.mp (of_decide_eq_false c_11)
                refine wp_steps 2 (t' := (51, [some (.ref 0), some (.int w), some (.int s), some (.int (nI k)), none], [.int (nI k), .ref 0], (HD, m, ml, (aup mr 73 2 (some ρ))))) rfl ?_
                refine wp_calv (as := [.int (nI k)]) rfl rfl rfl (Nat.le_of_ble_eq_true rfl) ⟨by decide, rfl⟩ ((c_textAt_ok (mi := m) (ml := ml) (mr := (aup mr 73 2 (some ρ))) (mr_up hM (by decide) _) ((h.1 0 1 (by decide)).trans hC) hC6 (one := nI k) (aix_nI (hk (show w = 8 from c_11)) (by omega)))) (by decide) ?_
                rintro _ _ ⟨rfl, rfl⟩
                show aWP _ _ (52, [some (.ref 0), some (.int w), some (.int s), some (.int (nI k)), none], [.ref (tAt (nI k))], (HD, m, ml, (aup mr 73 2 (some ρ)))) _
                refine wp_steps 2 (t' := (54, [some (.ref 0), some (.int w), some (.int s), some (.int (nI k)), some (.ref (tAt (nI k)))], [.ref (tAt (nI k))], (HD, m, ml, (aup mr 73 2 (some ρ))))) rfl ?_
                refine wp_step (t' := (55, [some (.ref 0), some (.int w), some (.int s), some (.int (nI k)), some (.ref (tAt (nI k)))], [], (HD, m, ml, (aup mr 73 2 (some ρ))))) rfl rfl ?_
                refine wp_steps 1 (t' := (56, [some (.ref 0), some (.int w), some (.int s), some (.int (nI k)), some (.ref (tAt (nI k)))], [.ref 0], (HD, m, ml, (aup mr 73 2 (some ρ))))) rfl ?_
                refine wp_getr rfl ⟨by decide, rfl⟩ rfl ((mr_up hM (by decide) _) (0, 9, 69) (by decide)) ?_
                refine wp_getr rfl ⟨by decide, rfl⟩ rfl ((mr_up hM (by decide) _) (69, 0, 73) (by decide)) ?_
                refine wp_steps 1 (t' := (59, [some (.ref 0), some (.int w), some (.int s), some (.int (nI k)), some (.ref (tAt (nI k)))], [.ref (tAt (nI k)), .ref 73], (HD, m, ml, (aup mr 73 2 (some ρ))))) rfl ?_
                refine wp_putr rfl ⟨by decide, rfl⟩ rfl (fun m_12 h_13 => ?_)
                subst h_13
                refine wp_ret rfl rfl ⟨⟨Nat.le_refl _, Nat.le_refl _⟩, ?_⟩
                have q : w = 8 := c_11
                have eR : spR w k ρ = 11 + 4 * k := by rw [q]; rfl
                have eU : (spU w s.toNatClampNeg k u) = u := by rw [q]; rfl
                have eT : (spT CT w s.toNatClampNeg k t) = (t.1, t.2.1, CT k) := by rw [q]; rfl
                rw [eR, eU, eT]
                refine ⟨rfl, (tAt_ml k (Nat.lt_of_lt_of_le (hk q) hC6)).2, _, ?_, TH.tc h (tAt_ml k (Nat.lt_of_lt_of_le (hk q) hC6)).2 (hCT k (hk q))⟩
                rw [mr_tw]; unfold tAt; rw [nI_clamp (show k < 2 ^ 31 by have := hk q; omega)]
            · have c_10 : w = 7 := Decidable.not_not.mp (of_decide_eq_false c_10)
              refine wp_steps 1 (t' := (39, [some (.ref 0), some (.int w), some (.int s), some (.int (nI k)), none], [.ref 0], (HD, m, ml, (aup mr 73 2 (some ρ))))) rfl ?_
              refine wp_getr rfl ⟨by decide, rfl⟩ rfl ((mr_up hM (by decide) _) (0, 9, 69) (by decide)) ?_
              refine wp_getr rfl ⟨by decide, rfl⟩ rfl ((mr_up hM (by decide) _) (69, 0, 73) (by decide)) ?_
              refine wp_getr rfl ⟨by decide, rfl⟩ rfl ((mr_up hM (by decide) _) (73, 0, 74) (by decide)) ?_
              refine wp_steps 2 (t' := (44, [some (.ref 0), some (.int w), some (.int s), some (.int (nI k)), none], [.int (nI k), .int s, .ref 74], (HD, m, ml, (aup mr 73 2 (some ρ))))) rfl ?_
              refine wp_iast rfl ⟨by decide, rfl⟩ hs (fun m_14 h_15 => ?_)
              subst h_15
              refine wp_steps 1 (t' := (60, [some (.ref 0), some (.int w), some (.int s), some (.int (nI k)), none], [], (HD, (aup m 74 s.toNatClampNeg (nI k)), ml, (aup mr 73 2 (some ρ))))) rfl ?_
              refine wp_ret rfl rfl ⟨⟨Nat.le_refl _, Nat.le_refl _⟩, ?_⟩
              have q : w = 7 := c_10
              have eR : spR w k ρ = ρ := by rw [q]; rfl
              have eU : (spU w s.toNatClampNeg k u) = u := by rw [q]; rfl
              have eT : (spT CT w s.toNatClampNeg k t) = (fun j => if j = s.toNatClampNeg then nI k else t.1 j, t.2) := by rw [q]; rfl
              rw [eR, eU, eT]
              exact ⟨rfl, hρ, _, rfl, TH.ts h hρ (aix_out hs).2 _⟩
        · have c_6 : w = 5 := Decidable.not_not.mp (of_decide_eq_false c_6)
          refine wp_steps 1 (t' := (25, [some (.ref 0), some (.int w), some (.int s), some (.int (nI k)), none], [.ref 0], (HD, m, ml, (aup mr 73 2 (some ρ))))) rfl ?_
          refine wp_getr rfl ⟨by decide, rfl⟩ rfl ((mr_up hM (by decide) _) (0, 9, 69) (by decide)) ?_
          refine wp_getr rfl ⟨by decide, rfl⟩ rfl ((mr_up hM (by decide) _) (69, 1, 70) (by decide)) ?_
          refine wp_getr rfl ⟨by decide, rfl⟩ rfl ((mr_up hM (by decide) _) (70, 4, 71) (by decide)) ?_
          refine wp_steps 2 (t' := (30, [some (.ref 0), some (.int w), some (.int s), some (.int (nI k)), none], [.int (nI k), .int s, .ref 71], (HD, m, ml, (aup mr 73 2 (some ρ))))) rfl ?_
          refine wp_iast rfl ⟨by decide, rfl⟩ hs (fun m_16 h_17 => ?_)
          subst h_17
          refine wp_steps 1 (t' := (60, [some (.ref 0), some (.int w), some (.int s), some (.int (nI k)), none], [], (HD, (aup m 71 s.toNatClampNeg (nI k)), ml, (aup mr 73 2 (some ρ))))) rfl ?_
          refine wp_ret rfl rfl ⟨⟨Nat.le_refl _, Nat.le_refl _⟩, ?_⟩
          have q : w = 5 := c_6
          have eR : spR w k ρ = ρ := by rw [q]; rfl
          have eU : (spU w s.toNatClampNeg k u) = (u.1, u.2.1, u.2.2.1, u.2.2.2.1, fun j => if j = s.toNatClampNeg then nI k else u.2.2.2.2 j) := by rw [q]; rfl
          have eT : (spT CT w s.toNatClampNeg k t) = t := by rw [q]; rfl
          rw [eR, eU, eT]
          exact ⟨rfl, hρ, _, rfl, TH.us h hρ (aix_out hs).2 _⟩
    · have c_2 : w = 2 := Decidable.not_not.mp (of_decide_eq_false c_2)
      refine wp_steps 1 (t' := (13, [some (.ref 0), some (.int w), some (.int s), some (.int (nI k)), none], [.ref 0], (HD, m, ml, (aup mr 73 2 (some ρ))))) rfl ?_
      refine wp_getr rfl ⟨by decide, rfl⟩ rfl ((mr_up hM (by decide) _) (0, 9, 69) (by decide)) ?_
      refine wp_getr rfl ⟨by decide, rfl⟩ rfl ((mr_up hM (by decide) _) (69, 1, 70) (by decide)) ?_
      refine wp_steps 1 (t' := (16, [some (.ref 0), some (.int w), some (.int s), some (.int (nI k)), none], [.int (nI k), .ref 70], (HD, m, ml, (aup mr 73 2 (some ρ))))) rfl ?_
      refine wp_puti rfl ⟨by decide, rfl⟩ rfl (fun m_18 h_19 => ?_)
      subst h_19
      refine wp_steps 1 (t' := (60, [some (.ref 0), some (.int w), some (.int s), some (.int (nI k)), none], [], (HD, (aup m 70 1 (nI k)), ml, (aup mr 73 2 (some ρ))))) rfl ?_
      refine wp_ret rfl rfl ⟨⟨Nat.le_refl _, Nat.le_refl _⟩, ?_⟩
      have q : w = 2 := c_2
      have eR : spR w k ρ = ρ := by rw [q]; rfl
      have eU : (spU w s.toNatClampNeg k u) = (u.1, nI k, u.2.2) := by rw [q]; rfl
      have eT : (spT CT w s.toNatClampNeg k t) = t := by rw [q]; rfl
      rw [eR, eU, eT]
      exact ⟨rfl, hρ, _, rfl, TH.u1 h hρ _⟩
  · have c_1 : w = 1 := Decidable.not_not.mp (of_decide_eq_false c_1)
    refine wp_steps 1 (t' := (4, [some (.ref 0), some (.int w), some (.int s), some (.int (nI k)), none], [.ref 0], (HD, m, ml, (aup mr 73 2 (some ρ))))) rfl ?_
    refine wp_getr rfl ⟨by decide, rfl⟩ rfl ((mr_up hM (by decide) _) (0, 9, 69) (by decide)) ?_
    refine wp_getr rfl ⟨by decide, rfl⟩ rfl ((mr_up hM (by decide) _) (69, 1, 70) (by decide)) ?_
    refine wp_steps 1 (t' := (7, [some (.ref 0), some (.int w), some (.int s), some (.int (nI k)), none], [.int (nI k), .ref 70], (HD, m, ml, (aup mr 73 2 (some ρ))))) rfl ?_
    refine wp_puti rfl ⟨by decide, rfl⟩ rfl (fun m_20 h_21 => ?_)
    subst h_21
    refine wp_steps 1 (t' := (60, [some (.ref 0), some (.int w), some (.int s), some (.int (nI k)), none], [], (HD, (aup m 70 0 (nI k)), ml, (aup mr 73 2 (some ρ))))) rfl ?_
    refine wp_ret rfl rfl ⟨⟨Nat.le_refl _, Nat.le_refl _⟩, ?_⟩
    have q : w = 1 := c_1
    have eR : spR w k ρ = ρ := by rw [q]; rfl
    have eU : (spU w s.toNatClampNeg k u) = (nI k, u.2) := by rw [q]; rfl
    have eT : (spT CT w s.toNatClampNeg k t) = t := by rw [q]; rfl
    rw [eR, eU, eT]
    exact ⟨rfl, hρ, _, rfl, TH.u0 h hρ _⟩
/-- first, bits, how many fit, the least -/
abbrev tA := Int32 × Int32 × Int32 × Int32
def hpT (w sH : Int32) (k : Nat) : Int32 := if w = 3 then nI k else sH - sH / 10 * 10
def fiT (CT : cT) (it : Nat → Int32) (Z : Nat) (w sH : Int32) (t : tW) (u : pU) (k : Nat) : Int32 := foL (spT CT w (sH / 10).toNatClampNeg k t) (sH / 10).toNatClampNeg (hpT w sH k) it Z 0 (spU w (sH / 10).toNatClampNeg k u)
def stT (f : Int32) (k : Nat) (a : tA) : tA := if f = -1 then (f, a.2.1 ||| (1 <<< (nI k &&& 31)), a.2.2.1 + 1, if a.2.2.2 = -1 then nI k else a.2.2.2) else (f, a.2.1, a.2.2.1, a.2.2.2)
def tlL (F : Nat → Int32) : Nat → Nat → tA → tA
  | 0, _, a => a
  | g + 1, k, a => tlL F g (k + 1) (stT (F k) k a)
def tlV (w : Int32) (a : tA) : Int32 := if w = 0 then a.1 else if w = 4 then a.2.2.1 else if w = 5 then a.2.2.2 else if w = 6 then a.2.2.1 else if w = 7 then a.2.2.2 else a.2.1
set_option maxRecDepth 20000 in
set_option maxHeartbeats 1000000 in
theorem l_tells {X : aXt × Value} {mi : Nat → Nat → Int32} {ml : Nat → Nat → Int64} {mr : Nat → Nat → Option Nat} (hM : MRok mr) {C : Nat} (hC : mi 0 1 = nI C) (hC6 : C ≤ 6) {CT : cT} (hCT : ∀ k, k < C → TXok mi (11 + 4 * k) (CT k).1 (CT k).2.1 (CT k).2.2) {ρ : Nat} {c0 c1 c2 : List Int32} (hρ : ρ ∈ TXS) (hr : mr 63 2 = some ρ) (hx : TXok mi ρ c0 c1 c2) {sh one sH w : Int32} (hK : sAt sh ∈ SHS) (hP : pAt one ∈ PU5) (hs : aixn (sH / 10) 8 = true) {Z : Nat} (hz : mi (sAt sh) 1 = nI Z) (hZ : Z ≤ 40) {Gs : Nat} (hG1 : Gs ≤ 100) (hG : w = 8 → Gs ≤ C) : ∀ (g k : Nat) (a : tA) (m : Nat → Nat → Int32) (q : Option Nat), k + g = Gs → frm UCL mi m → aWP (aEx (aTb X) 7) cd_X6_tells (46, [some (.ref 0), some (.int sh), some (.int one), some (.int sH), some (.int w), some (.ref (sAt sh)), some (.ref (pAt one)), some (.int (sH / 10)), some (.int (nI Gs)), some (.int a.1), some (.int a.2.1), some (.int a.2.2.1), some (.int a.2.2.2), some (.int (nI k))], [], (HD, m, ml, (aup mr 73 2 q))) (fun r h' => (HD.1 ≤ h'.1.1 ∧ HD.2.1 ≤ h'.1.2.1) ∧ qU mi ml mr (.int (tlV w (tlL (fiT CT (mi (sAt sh + 1)) Z w sH (twC mi 63 c0 c1 c2) (puC mi (pAt one))) g k a))) r h') := by
  intro g
  induction g with
  | zero =>
    intro k a m q hg hf
    obtain rfl : k = Gs := by omega
    refine wp_steps 2 (t' := (48, [some (.ref 0), some (.int sh), some (.int one), some (.int sH), some (.int w), some (.ref (sAt sh)), some (.ref (pAt one)), some (.int (sH / 10)), some (.int (nI k)), some (.int a.1), some (.int a.2.1), some (.int a.2.2.1), some (.int a.2.2.2), some (.int (nI k))], [.int (nI k), .int (nI k)], (HD, m, ml, (aup mr 73 2 q)))) rfl ?_
    refine wp_bC rfl (fun c_1 => ?_) (fun c_1 => ?_)
    rotate_left
    · have c_1 : ¬ ((nI k) ≤ (nI k)) := of_decide_eq_false c_1
      exact absurd (Int32.le_refl _) c_1
    have c_1 : (nI k) ≤ (nI k) := of_decide_eq_true c_1
    refine wp_steps 1 (t' := (94, [some (.ref 0), some (.int sh), some (.int one), some (.int sH), some (.int w), some (.ref (sAt sh)), some (.ref (pAt one)), some (.int (sH / 10)), some (.int (nI k)), some (.int a.1), some (.int a.2.1), some (.int a.2.2.1), some (.int a.2.2.2), some (.int (nI k))], [.int w], (HD, m, ml, (aup mr 73 2 q)))) rfl ?_
    by_cases s_2 : w = 0
    · refine wp_sw 95 rfl (by rw [s_2]; decide) ?_
      refine wp_steps 1 (t' := (96, [some (.ref 0), some (.int sh), some (.int one), some (.int sH), some (.int w), some (.ref (sAt sh)), some (.ref (pAt one)), some (.int (sH / 10)), some (.int (nI k)), some (.int a.1), some (.int a.2.1), some (.int a.2.2.1), some (.int a.2.2.2), some (.int (nI k))], [.int a.1], (HD, m, ml, (aup mr 73 2 q)))) rfl ?_
      refine wp_ret rfl rfl ⟨⟨Nat.le_refl _, Nat.le_refl _⟩, ?_⟩
      refine ⟨?_, m, q, rfl, hf⟩
      show _ = some (Value.int (tlV w a))
      unfold tlV
      rw [if_pos s_2]
    by_cases s_3 : w = 1
    · refine wp_sw 101 rfl (by rw [s_3]; decide) ?_
      refine wp_steps 1 (t' := (102, [some (.ref 0), some (.int sh), some (.int one), some (.int sH), some (.int w), some (.ref (sAt sh)), some (.ref (pAt one)), some (.int (sH / 10)), some (.int (nI k)), some (.int a.1), some (.int a.2.1), some (.int a.2.2.1), some (.int a.2.2.2), some (.int (nI k))], [.int a.2.1], (HD, m, ml, (aup mr 73 2 q)))) rfl ?_
      refine wp_ret rfl rfl ⟨⟨Nat.le_refl _, Nat.le_refl _⟩, ?_⟩
      refine ⟨?_, m, q, rfl, hf⟩
      show _ = some (Value.int (tlV w a))
      unfold tlV
      rw [if_neg s_2, if_neg (fun z => absurd (z.symm.trans s_3) (by decide)), if_neg (fun z => absurd (z.symm.trans s_3) (by decide)), if_neg (fun z => absurd (z.symm.trans s_3) (by decide)), if_neg (fun z => absurd (z.symm.trans s_3) (by decide))]
    by_cases s_4 : w = 2
    · refine wp_sw 101 rfl (by rw [s_4]; decide) ?_
      refine wp_steps 1 (t' := (102, [some (.ref 0), some (.int sh), some (.int one), some (.int sH), some (.int w), some (.ref (sAt sh)), some (.ref (pAt one)), some (.int (sH / 10)), some (.int (nI k)), some (.int a.1), some (.int a.2.1), some (.int a.2.2.1), some (.int a.2.2.2), some (.int (nI k))], [.int a.2.1], (HD, m, ml, (aup mr 73 2 q)))) rfl ?_
      refine wp_ret rfl rfl ⟨⟨Nat.le_refl _, Nat.le_refl _⟩, ?_⟩
      refine ⟨?_, m, q, rfl, hf⟩
      show _ = some (Value.int (tlV w a))
      unfold tlV
      rw [if_neg s_2, if_neg (fun z => absurd (z.symm.trans s_4) (by decide)), if_neg (fun z => absurd (z.symm.trans s_4) (by decide)), if_neg (fun z => absurd (z.symm.trans s_4) (by decide)), if_neg (fun z => absurd (z.symm.trans s_4) (by decide))]
    by_cases s_5 : w = 3
    · refine wp_sw 101 rfl (by rw [s_5]; decide) ?_
      refine wp_steps 1 (t' := (102, [some (.ref 0), some (.int sh), some (.int one), some (.int sH), some (.int w), some (.ref (sAt sh)), some (.ref (pAt one)), some (.int (sH / 10)), some (.int (nI k)), some (.int a.1), some (.int a.2.1), some (.int a.2.2.1), some (.int a.2.2.2), some (.int (nI k))], [.int a.2.1], (HD, m, ml, (aup mr 73 2 q)))) rfl ?_
      refine wp_ret rfl rfl ⟨⟨Nat.le_refl _, Nat.le_refl _⟩, ?_⟩
      refine ⟨?_, m, q, rfl, hf⟩
      show _ = some (Value.int (tlV w a))
      unfold tlV
      rw [if_neg s_2, if_neg (fun z => absurd (z.symm.trans s_5) (by decide)), if_neg (fun z => absurd (z.symm.trans s_5) (by decide)), if_neg (fun z => absurd (z.symm.trans s_5) (by decide)), if_neg (fun z => absurd (z.symm.trans s_5) (by decide))]
    by_cases s_6 : w = 4
    · refine wp_sw 97 rfl (by rw [s_6]; decide) ?_
      refine wp_steps 1 (t' := (98, [some (.ref 0), some (.int sh), some (.int one), some (.int sH), some (.int w), some (.ref (sAt sh)), some (.ref (pAt one)), some (.int (sH / 10)), some (.int (nI k)), some (.int a.1), some (.int a.2.1), some (.int a.2.2.1), some (.int a.2.2.2), some (.int (nI k))], [.int a.2.2.1], (HD, m, ml, (aup mr 73 2 q)))) rfl ?_
      refine wp_ret rfl rfl ⟨⟨Nat.le_refl _, Nat.le_refl _⟩, ?_⟩
      refine ⟨?_, m, q, rfl, hf⟩
      show _ = some (Value.int (tlV w a))
      unfold tlV
      rw [if_neg s_2, if_pos s_6]
    by_cases s_7 : w = 5
    · refine wp_sw 99 rfl (by rw [s_7]; decide) ?_
      refine wp_steps 1 (t' := (100, [some (.ref 0), some (.int sh), some (.int one), some (.int sH), some (.int w), some (.ref (sAt sh)), some (.ref (pAt one)), some (.int (sH / 10)), some (.int (nI k)), some (.int a.1), some (.int a.2.1), some (.int a.2.2.1), some (.int a.2.2.2), some (.int (nI k))], [.int a.2.2.2], (HD, m, ml, (aup mr 73 2 q)))) rfl ?_
      refine wp_ret rfl rfl ⟨⟨Nat.le_refl _, Nat.le_refl _⟩, ?_⟩
      refine ⟨?_, m, q, rfl, hf⟩
      show _ = some (Value.int (tlV w a))
      unfold tlV
      rw [if_neg s_2, if_neg s_6, if_pos s_7]
    by_cases s_8 : w = 6
    · refine wp_sw 97 rfl (by rw [s_8]; decide) ?_
      refine wp_steps 1 (t' := (98, [some (.ref 0), some (.int sh), some (.int one), some (.int sH), some (.int w), some (.ref (sAt sh)), some (.ref (pAt one)), some (.int (sH / 10)), some (.int (nI k)), some (.int a.1), some (.int a.2.1), some (.int a.2.2.1), some (.int a.2.2.2), some (.int (nI k))], [.int a.2.2.1], (HD, m, ml, (aup mr 73 2 q)))) rfl ?_
      refine wp_ret rfl rfl ⟨⟨Nat.le_refl _, Nat.le_refl _⟩, ?_⟩
      refine ⟨?_, m, q, rfl, hf⟩
      show _ = some (Value.int (tlV w a))
      unfold tlV
      rw [if_neg s_2, if_neg s_6, if_neg s_7, if_pos s_8]
    by_cases s_9 : w = 7
    · refine wp_sw 99 rfl (by rw [s_9]; decide) ?_
      refine wp_steps 1 (t' := (100, [some (.ref 0), some (.int sh), some (.int one), some (.int sH), some (.int w), some (.ref (sAt sh)), some (.ref (pAt one)), some (.int (sH / 10)), some (.int (nI k)), some (.int a.1), some (.int a.2.1), some (.int a.2.2.1), some (.int a.2.2.2), some (.int (nI k))], [.int a.2.2.2], (HD, m, ml, (aup mr 73 2 q)))) rfl ?_
      refine wp_ret rfl rfl ⟨⟨Nat.le_refl _, Nat.le_refl _⟩, ?_⟩
      refine ⟨?_, m, q, rfl, hf⟩
      show _ = some (Value.int (tlV w a))
      unfold tlV
      rw [if_neg s_2, if_neg s_6, if_neg s_7, if_neg s_8, if_pos s_9]
    refine wp_sw 101 rfl (aSw_out [0, 1, 2, 3, 4, 5, 6, 7] (List.forall_mem_cons.mpr ⟨s_2, List.forall_mem_cons.mpr ⟨s_3, List.forall_mem_cons.mpr ⟨s_4, List.forall_mem_cons.mpr ⟨s_5, List.forall_mem_cons.mpr ⟨s_6, List.forall_mem_cons.mpr ⟨s_7, List.forall_mem_cons.mpr ⟨s_8, List.forall_mem_cons.mpr ⟨s_9, fun _ h => absurd h List.not_mem_nil⟩⟩⟩⟩⟩⟩⟩⟩) (by decide)) ?_
    refine wp_steps 1 (t' := (102, [some (.ref 0), some (.int sh), some (.int one), some (.int sH), some (.int w), some (.ref (sAt sh)), some (.ref (pAt one)), some (.int (sH / 10)), some (.int (nI k)), some (.int a.1), some (.int a.2.1), some (.int a.2.2.1), some (.int a.2.2.2), some (.int (nI k))], [.int a.2.1], (HD, m, ml, (aup mr 73 2 q)))) rfl ?_
    refine wp_ret rfl rfl ⟨⟨Nat.le_refl _, Nat.le_refl _⟩, ?_⟩
    refine ⟨?_, m, q, rfl, hf⟩
    show _ = some (Value.int (tlV w a))
    unfold tlV
    rw [if_neg s_2, if_neg s_6, if_neg s_7, if_neg s_8, if_neg s_9]
  | succ g ih =>
    intro k a m q hg hf
    have hkG : k < Gs := by omega
    refine wp_steps 2 (t' := (48, [some (.ref 0), some (.int sh), some (.int one), some (.int sH), some (.int w), some (.ref (sAt sh)), some (.ref (pAt one)), some (.int (sH / 10)), some (.int (nI Gs)), some (.int a.1), some (.int a.2.1), some (.int a.2.2.1), some (.int a.2.2.2), some (.int (nI k))], [.int (nI Gs), .int (nI k)], (HD, m, ml, (aup mr 73 2 q)))) rfl ?_
    refine wp_bC rfl (fun c_1 => ?_) (fun c_1 => ?_)
    · have c_1 : (nI Gs) ≤ (nI k) := of_decide_eq_true c_1
      exact absurd c_1 (nI_ge (a := k) (b := Gs) hkG (by omega))
    have c_1 : ¬ ((nI Gs) ≤ (nI k)) := of_decide_eq_false c_1
    refine wp_steps 1 (t' := (50, [some (.ref 0), some (.int sh), some (.int one), some (.int sH), some (.int w), some (.ref (sAt sh)), some (.ref (pAt one)), some (.int (sH / 10)), some (.int (nI Gs)), some (.int a.1), some (.int a.2.1), some (.int a.2.2.1), some (.int a.2.2.2), some (.int (nI k))], [.ref 0], (HD, m, ml, (aup mr 73 2 q)))) rfl ?_
    refine wp_getr rfl ⟨by decide, rfl⟩ rfl ((mr_up hM (by decide) _) (0, 9, 69) (by decide)) ?_
    refine wp_steps 1 (t' := (52, [some (.ref 0), some (.int sh), some (.int one), some (.int sH), some (.int w), some (.ref (sAt sh)), some (.ref (pAt one)), some (.int (sH / 10)), some (.int (nI Gs)), some (.int a.1), some (.int a.2.1), some (.int a.2.2.1), some (.int a.2.2.2), some (.int (nI k))], [.ref 0, .ref 69], (HD, m, ml, (aup mr 73 2 q)))) rfl ?_
    refine wp_getr rfl ⟨by decide, rfl⟩ rfl ((mr_up hM (by decide) _) (0, 3, 63) (by decide)) ?_
    refine wp_steps 1 (t' := (54, [some (.ref 0), some (.int sh), some (.int one), some (.int sH), some (.int w), some (.ref (sAt sh)), some (.ref (pAt one)), some (.int (sH / 10)), some (.int (nI Gs)), some (.int a.1), some (.int a.2.1), some (.int a.2.2.1), some (.int a.2.2.2), some (.int (nI k))], [.ref (pAt one), .ref 63, .ref 69], (HD, m, ml, (aup mr 73 2 q)))) rfl ?_
    refine wp_calv (as := [.ref 63, .ref (pAt one)]) rfl rfl rfl (Nat.le_of_ble_eq_true rfl) ⟨by decide, rfl⟩ ((t_begin2 (ml := ml) (w := q) hM hρ hr hf hx hP)) (by decide) ?_
    rintro _ _ ⟨rfl, m_1, rfl, h1⟩
    have h2 : TH2 ρ mi m_1 (twC mi 63 c0 c1 c2) (puC mi (pAt one)) := h1
    show aWP _ _ (55, [some (.ref 0), some (.int sh), some (.int one), some (.int sH), some (.int w), some (.ref (sAt sh)), some (.ref (pAt one)), some (.int (sH / 10)), some (.int (nI Gs)), some (.int a.1), some (.int a.2.1), some (.int a.2.2.1), some (.int a.2.2.2), some (.int (nI k))], [], (HD, m_1, ml, (aup mr 73 2 (some ρ)))) _
    refine wp_steps 4 (t' := (59, [some (.ref 0), some (.int sh), some (.int one), some (.int sH), some (.int w), some (.ref (sAt sh)), some (.ref (pAt one)), some (.int (sH / 10)), some (.int (nI Gs)), some (.int a.1), some (.int a.2.1), some (.int a.2.2.1), some (.int a.2.2.2), some (.int (nI k))], [.int (nI k), .int (sH / 10), .int w, .ref 0], (HD, m_1, ml, (aup mr 73 2 (some ρ))))) rfl ?_
    refine wp_calv (as := [.int w, .int (sH / 10), .int (nI k)]) rfl rfl rfl (Nat.le_of_ble_eq_true rfl) ⟨by decide, rfl⟩ ((c_suppose (ml := ml) (CT := CT) (w := w) (s := sH / 10) (k := k) hM hC hC6 hCT hρ hs (fun z => Nat.lt_of_lt_of_le hkG (hG z)) h2)) (by decide) ?_
    rintro _ _ ⟨rfl, hρ2, m_2, rfl, h3⟩
    show aWP _ _ (60, [some (.ref 0), some (.int sh), some (.int one), some (.int sH), some (.int w), some (.ref (sAt sh)), some (.ref (pAt one)), some (.int (sH / 10)), some (.int (nI Gs)), some (.int a.1), some (.int a.2.1), some (.int a.2.2.1), some (.int a.2.2.2), some (.int (nI k))], [], (HD, m_2, ml, (aup mr 73 2 (some (spR w k ρ))))) _
    refine wp_steps 1 (t' := (61, [some (.ref 0), some (.int sh), some (.int one), some (.int sH), some (.int w), some (.ref (sAt sh)), some (.ref (pAt one)), some (.int (sH / 10)), some (.int (nI Gs)), some (.int a.1), some (.int a.2.1), some (.int a.2.2.1), some (.int a.2.2.2), some (.int (nI k))], [.ref 0], (HD, m_2, ml, (aup mr 73 2 (some (spR w k ρ)))))) rfl ?_
    refine wp_getr rfl ⟨by decide, rfl⟩ rfl ((mr_up hM (by decide) _) (0, 9, 69) (by decide)) ?_
    refine wp_steps 4 (t' := (66, [some (.ref 0), some (.int sh), some (.int one), some (.int sH), some (.int w), some (.ref (sAt sh)), some (.ref (pAt one)), some (.int (sH / 10)), some (.int (nI Gs)), some (.int a.1), some (.int a.2.1), some (.int a.2.2.1), some (.int a.2.2.2), some (.int (nI k))], [.int 3, .int w, .int (sH / 10), .ref (sAt sh), .ref 69], (HD, m_2, ml, (aup mr 73 2 (some (spR w k ρ)))))) rfl ?_
    refine wp_bC rfl (fun c_2 => ?_) (fun c_2 => ?_)
    · have c_2 : ¬ w = 3 := of_decide_eq_true c_2
      refine wp_steps 3 (t' := (72, [some (.ref 0), some (.int sh), some (.int one), some (.int sH), some (.int w), some (.ref (sAt sh)), some (.ref (pAt one)), some (.int (sH / 10)), some (.int (nI Gs)), some (.int a.1), some (.int a.2.1), some (.int a.2.2.1), some (.int a.2.2.2), some (.int (nI k))], [.int (sH - sH / 10 * 10), .int (sH / 10), .ref (sAt sh), .ref 69], (HD, m_2, ml, (aup mr 73 2 (some (spR w k ρ)))))) rfl ?_
      refine wp_calv (as := [.ref (sAt sh), .int (sH / 10), .int (sH - sH / 10 * 10)]) rfl rfl rfl (Nat.le_of_ble_eq_true rfl) ⟨by decide, rfl⟩ ((t_first (mi := mi) (ml := ml) (mr := aup mr 73 2 (some (spR w k ρ))) (mr_up hM (by decide) _) hρ2 (mr_at _) hK hz hZ (s := sH / 10) (hp := sH - sH / 10 * 10) hs h3)) (by decide) ?_
      rintro _ _ ⟨rfl, m_3, rfl, f3⟩
      have eF : foL (spT CT w (sH / 10).toNatClampNeg k (twC mi 63 c0 c1 c2)) (sH / 10).toNatClampNeg (sH - sH / 10 * 10) (mi (sAt sh + 1)) Z 0 (spU w (sH / 10).toNatClampNeg k (puC mi (pAt one))) = (fiT CT (mi (sAt sh + 1)) Z w sH (twC mi 63 c0 c1 c2) (puC mi (pAt one))) k := by
        unfold fiT hpT
        rw [if_neg c_2]
      rw [eF]
      show aWP _ _ (73, [some (.ref 0), some (.int sh), some (.int one), some (.int sH), some (.int w), some (.ref (sAt sh)), some (.ref (pAt one)), some (.int (sH / 10)), some (.int (nI Gs)), some (.int a.1), some (.int a.2.1), some (.int a.2.2.1), some (.int a.2.2.2), some (.int (nI k))], [.int ((fiT CT (mi (sAt sh + 1)) Z w sH (twC mi 63 c0 c1 c2) (puC mi (pAt one))) k)], (HD, m_3, ml, (aup mr 73 2 (some (spR w k ρ))))) _
      refine wp_steps 3 (t' := (76, [some (.ref 0), some (.int sh), some (.int one), some (.int sH), some (.int w), some (.ref (sAt sh)), some (.ref (pAt one)), some (.int (sH / 10)), some (.int (nI Gs)), some (.int ((fiT CT (mi (sAt sh + 1)) Z w sH (twC mi 63 c0 c1 c2) (puC mi (pAt one))) k)), some (.int a.2.1), some (.int a.2.2.1), some (.int a.2.2.2), some (.int (nI k))], [.int (-1), .int ((fiT CT (mi (sAt sh + 1)) Z w sH (twC mi 63 c0 c1 c2) (puC mi (pAt one))) k)], (HD, m_3, ml, (aup mr 73 2 (some (spR w k ρ)))))) rfl ?_
      refine wp_bC rfl (fun c_3 => ?_) (fun c_3 => ?_)
      · have c_3 : ¬ ((fiT CT (mi (sAt sh + 1)) Z w sH (twC mi 63 c0 c1 c2) (puC mi (pAt one))) k) = (-1) := of_decide_eq_true c_3
        refine wp_steps 2 (t' := (46, [some (.ref 0), some (.int sh), some (.int one), some (.int sH), some (.int w), some (.ref (sAt sh)), some (.ref (pAt one)), some (.int (sH / 10)), some (.int (nI Gs)), some (.int ((fiT CT (mi (sAt sh + 1)) Z w sH (twC mi 63 c0 c1 c2) (puC mi (pAt one))) k)), some (.int a.2.1), some (.int a.2.2.1), some (.int a.2.2.2), some (.int ((nI k) + Int32.ofInt 1))], [], (HD, m_3, ml, (aup mr 73 2 (some (spR w k ρ)))))) rfl ?_
        have e : stT ((fiT CT (mi (sAt sh + 1)) Z w sH (twC mi 63 c0 c1 c2) (puC mi (pAt one))) k) k a = ((fiT CT (mi (sAt sh + 1)) Z w sH (twC mi 63 c0 c1 c2) (puC mi (pAt one))) k, a.2.1, a.2.2.1, a.2.2.2) := if_neg c_3
        rw [inc_nI]
        have z := ih (k + 1) ((fiT CT (mi (sAt sh + 1)) Z w sH (twC mi 63 c0 c1 c2) (puC mi (pAt one))) k, a.2.1, a.2.2.1, a.2.2.2) m_3 (some (spR w k ρ)) (by omega) f3
        rw [← e] at z
        first | exact z | (rw [e] at z; unfold tlL; rw [e]; exact z)
      · have c_3 : ((fiT CT (mi (sAt sh + 1)) Z w sH (twC mi 63 c0 c1 c2) (puC mi (pAt one))) k) = (-1) := Decidable.not_not.mp (of_decide_eq_false c_3)
        refine wp_steps 9 (t' := (86, [some (.ref 0), some (.int sh), some (.int one), some (.int sH), some (.int w), some (.ref (sAt sh)), some (.ref (pAt one)), some (.int (sH / 10)), some (.int (nI Gs)), some (.int ((fiT CT (mi (sAt sh + 1)) Z w sH (twC mi 63 c0 c1 c2) (puC mi (pAt one))) k)), some (.int (a.2.1 ||| (1 <<< ((nI k) &&& 31)))), some (.int (a.2.2.1 + Int32.ofInt 1)), some (.int a.2.2.2), some (.int (nI k))], [.int (-1), .int a.2.2.2], (HD, m_3, ml, (aup mr 73 2 (some (spR w k ρ)))))) rfl ?_
        refine wp_bC rfl (fun c_4 => ?_) (fun c_4 => ?_)
        · have c_4 : ¬ a.2.2.2 = (-1) := of_decide_eq_true c_4
          refine wp_steps 4 (t' := (46, [some (.ref 0), some (.int sh), some (.int one), some (.int sH), some (.int w), some (.ref (sAt sh)), some (.ref (pAt one)), some (.int (sH / 10)), some (.int (nI Gs)), some (.int ((fiT CT (mi (sAt sh + 1)) Z w sH (twC mi 63 c0 c1 c2) (puC mi (pAt one))) k)), some (.int (a.2.1 ||| (1 <<< ((nI k) &&& 31)))), some (.int (a.2.2.1 + Int32.ofInt 1)), some (.int a.2.2.2), some (.int ((nI k) + Int32.ofInt 1))], [], (HD, m_3, ml, (aup mr 73 2 (some (spR w k ρ)))))) rfl ?_
          have e : stT ((fiT CT (mi (sAt sh + 1)) Z w sH (twC mi 63 c0 c1 c2) (puC mi (pAt one))) k) k a = ((fiT CT (mi (sAt sh + 1)) Z w sH (twC mi 63 c0 c1 c2) (puC mi (pAt one))) k, a.2.1 ||| (1 <<< (nI k &&& 31)), a.2.2.1 + 1, a.2.2.2) := by
            unfold stT
            rw [if_pos c_3, if_neg c_4]
          rw [inc_nI]
          have z := ih (k + 1) ((fiT CT (mi (sAt sh + 1)) Z w sH (twC mi 63 c0 c1 c2) (puC mi (pAt one))) k, a.2.1 ||| (1 <<< (nI k &&& 31)), a.2.2.1 + 1, a.2.2.2) m_3 (some (spR w k ρ)) (by omega) f3
          rw [← e] at z
          first | exact z | (rw [e] at z; unfold tlL; rw [e]; exact z)
        · have c_4 : a.2.2.2 = (-1) := Decidable.not_not.mp (of_decide_eq_false c_4)
          refine wp_steps 5 (t' := (46, [some (.ref 0), some (.int sh), some (.int one), some (.int sH), some (.int w), some (.ref (sAt sh)), some (.ref (pAt one)), some (.int (sH / 10)), some (.int (nI Gs)), some (.int ((fiT CT (mi (sAt sh + 1)) Z w sH (twC mi 63 c0 c1 c2) (puC mi (pAt one))) k)), some (.int (a.2.1 ||| (1 <<< ((nI k) &&& 31)))), some (.int (a.2.2.1 + Int32.ofInt 1)), some (.int (nI k)), some (.int ((nI k) + Int32.ofInt 1))], [], (HD, m_3, ml, (aup mr 73 2 (some (spR w k ρ)))))) rfl ?_
          have e : stT ((fiT CT (mi (sAt sh + 1)) Z w sH (twC mi 63 c0 c1 c2) (puC mi (pAt one))) k) k a = ((fiT CT (mi (sAt sh + 1)) Z w sH (twC mi 63 c0 c1 c2) (puC mi (pAt one))) k, a.2.1 ||| (1 <<< (nI k &&& 31)), a.2.2.1 + 1, nI k) := by
            unfold stT
            rw [if_pos c_3, if_pos c_4]
          rw [inc_nI]
          have z := ih (k + 1) ((fiT CT (mi (sAt sh + 1)) Z w sH (twC mi 63 c0 c1 c2) (puC mi (pAt one))) k, a.2.1 ||| (1 <<< (nI k &&& 31)), a.2.2.1 + 1, nI k) m_3 (some (spR w k ρ)) (by omega) f3
          rw [← e] at z
          first | exact z | (rw [e] at z; unfold tlL; rw [e]; exact z)
    · have c_2 : w = 3 := Decidable.not_not.mp (of_decide_eq_false c_2)
      refine wp_steps 2 (t' := (72, [some (.ref 0), some (.int sh), some (.int one), some (.int sH), some (.int w), some (.ref (sAt sh)), some (.ref (pAt one)), some (.int (sH / 10)), some (.int (nI Gs)), some (.int a.1), some (.int a.2.1), some (.int a.2.2.1), some (.int a.2.2.2), some (.int (nI k))], [.int (nI k), .int (sH / 10), .ref (sAt sh), .ref 69], (HD, m_2, ml, (aup mr 73 2 (some (spR w k ρ)))))) rfl ?_
      refine wp_calv (as := [.ref (sAt sh), .int (sH / 10), .int (nI k)]) rfl rfl rfl (Nat.le_of_ble_eq_true rfl) ⟨by decide, rfl⟩ ((t_first (mi := mi) (ml := ml) (mr := aup mr 73 2 (some (spR w k ρ))) (mr_up hM (by decide) _) hρ2 (mr_at _) hK hz hZ (s := sH / 10) (hp := nI k) hs h3)) (by decide) ?_
      rintro _ _ ⟨rfl, m_3, rfl, f3⟩
      have eF : foL (spT CT w (sH / 10).toNatClampNeg k (twC mi 63 c0 c1 c2)) (sH / 10).toNatClampNeg (nI k) (mi (sAt sh + 1)) Z 0 (spU w (sH / 10).toNatClampNeg k (puC mi (pAt one))) = (fiT CT (mi (sAt sh + 1)) Z w sH (twC mi 63 c0 c1 c2) (puC mi (pAt one))) k := by
        unfold fiT hpT
        rw [if_pos c_2]
      rw [eF]
      show aWP _ _ (73, [some (.ref 0), some (.int sh), some (.int one), some (.int sH), some (.int w), some (.ref (sAt sh)), some (.ref (pAt one)), some (.int (sH / 10)), some (.int (nI Gs)), some (.int a.1), some (.int a.2.1), some (.int a.2.2.1), some (.int a.2.2.2), some (.int (nI k))], [.int ((fiT CT (mi (sAt sh + 1)) Z w sH (twC mi 63 c0 c1 c2) (puC mi (pAt one))) k)], (HD, m_3, ml, (aup mr 73 2 (some (spR w k ρ))))) _
      refine wp_steps 3 (t' := (76, [some (.ref 0), some (.int sh), some (.int one), some (.int sH), some (.int w), some (.ref (sAt sh)), some (.ref (pAt one)), some (.int (sH / 10)), some (.int (nI Gs)), some (.int ((fiT CT (mi (sAt sh + 1)) Z w sH (twC mi 63 c0 c1 c2) (puC mi (pAt one))) k)), some (.int a.2.1), some (.int a.2.2.1), some (.int a.2.2.2), some (.int (nI k))], [.int (-1), .int ((fiT CT (mi (sAt sh + 1)) Z w sH (twC mi 63 c0 c1 c2) (puC mi (pAt one))) k)], (HD, m_3, ml, (aup mr 73 2 (some (spR w k ρ)))))) rfl ?_
      refine wp_bC rfl (fun c_5 => ?_) (fun c_5 => ?_)
      · have c_5 : ¬ ((fiT CT (mi (sAt sh + 1)) Z w sH (twC mi 63 c0 c1 c2) (puC mi (pAt one))) k) = (-1) := of_decide_eq_true c_5
        refine wp_steps 2 (t' := (46, [some (.ref 0), some (.int sh), some (.int one), some (.int sH), some (.int w), some (.ref (sAt sh)), some (.ref (pAt one)), some (.int (sH / 10)), some (.int (nI Gs)), some (.int ((fiT CT (mi (sAt sh + 1)) Z w sH (twC mi 63 c0 c1 c2) (puC mi (pAt one))) k)), some (.int a.2.1), some (.int a.2.2.1), some (.int a.2.2.2), some (.int ((nI k) + Int32.ofInt 1))], [], (HD, m_3, ml, (aup mr 73 2 (some (spR w k ρ)))))) rfl ?_
        have e : stT ((fiT CT (mi (sAt sh + 1)) Z w sH (twC mi 63 c0 c1 c2) (puC mi (pAt one))) k) k a = ((fiT CT (mi (sAt sh + 1)) Z w sH (twC mi 63 c0 c1 c2) (puC mi (pAt one))) k, a.2.1, a.2.2.1, a.2.2.2) := if_neg c_5
        rw [inc_nI]
        have z := ih (k + 1) ((fiT CT (mi (sAt sh + 1)) Z w sH (twC mi 63 c0 c1 c2) (puC mi (pAt one))) k, a.2.1, a.2.2.1, a.2.2.2) m_3 (some (spR w k ρ)) (by omega) f3
        rw [← e] at z
        first | exact z | (rw [e] at z; unfold tlL; rw [e]; exact z)
      · have c_5 : ((fiT CT (mi (sAt sh + 1)) Z w sH (twC mi 63 c0 c1 c2) (puC mi (pAt one))) k) = (-1) := Decidable.not_not.mp (of_decide_eq_false c_5)
        refine wp_steps 9 (t' := (86, [some (.ref 0), some (.int sh), some (.int one), some (.int sH), some (.int w), some (.ref (sAt sh)), some (.ref (pAt one)), some (.int (sH / 10)), some (.int (nI Gs)), some (.int ((fiT CT (mi (sAt sh + 1)) Z w sH (twC mi 63 c0 c1 c2) (puC mi (pAt one))) k)), some (.int (a.2.1 ||| (1 <<< ((nI k) &&& 31)))), some (.int (a.2.2.1 + Int32.ofInt 1)), some (.int a.2.2.2), some (.int (nI k))], [.int (-1), .int a.2.2.2], (HD, m_3, ml, (aup mr 73 2 (some (spR w k ρ)))))) rfl ?_
        refine wp_bC rfl (fun c_6 => ?_) (fun c_6 => ?_)
        · have c_6 : ¬ a.2.2.2 = (-1) := of_decide_eq_true c_6
          refine wp_steps 4 (t' := (46, [some (.ref 0), some (.int sh), some (.int one), some (.int sH), some (.int w), some (.ref (sAt sh)), some (.ref (pAt one)), some (.int (sH / 10)), some (.int (nI Gs)), some (.int ((fiT CT (mi (sAt sh + 1)) Z w sH (twC mi 63 c0 c1 c2) (puC mi (pAt one))) k)), some (.int (a.2.1 ||| (1 <<< ((nI k) &&& 31)))), some (.int (a.2.2.1 + Int32.ofInt 1)), some (.int a.2.2.2), some (.int ((nI k) + Int32.ofInt 1))], [], (HD, m_3, ml, (aup mr 73 2 (some (spR w k ρ)))))) rfl ?_
          have e : stT ((fiT CT (mi (sAt sh + 1)) Z w sH (twC mi 63 c0 c1 c2) (puC mi (pAt one))) k) k a = ((fiT CT (mi (sAt sh + 1)) Z w sH (twC mi 63 c0 c1 c2) (puC mi (pAt one))) k, a.2.1 ||| (1 <<< (nI k &&& 31)), a.2.2.1 + 1, a.2.2.2) := by
            unfold stT
            rw [if_pos c_5, if_neg c_6]
          rw [inc_nI]
          have z := ih (k + 1) ((fiT CT (mi (sAt sh + 1)) Z w sH (twC mi 63 c0 c1 c2) (puC mi (pAt one))) k, a.2.1 ||| (1 <<< (nI k &&& 31)), a.2.2.1 + 1, a.2.2.2) m_3 (some (spR w k ρ)) (by omega) f3
          rw [← e] at z
          first | exact z | (rw [e] at z; unfold tlL; rw [e]; exact z)
        · have c_6 : a.2.2.2 = (-1) := Decidable.not_not.mp (of_decide_eq_false c_6)
          refine wp_steps 5 (t' := (46, [some (.ref 0), some (.int sh), some (.int one), some (.int sH), some (.int w), some (.ref (sAt sh)), some (.ref (pAt one)), some (.int (sH / 10)), some (.int (nI Gs)), some (.int ((fiT CT (mi (sAt sh + 1)) Z w sH (twC mi 63 c0 c1 c2) (puC mi (pAt one))) k)), some (.int (a.2.1 ||| (1 <<< ((nI k) &&& 31)))), some (.int (a.2.2.1 + Int32.ofInt 1)), some (.int (nI k)), some (.int ((nI k) + Int32.ofInt 1))], [], (HD, m_3, ml, (aup mr 73 2 (some (spR w k ρ)))))) rfl ?_
          have e : stT ((fiT CT (mi (sAt sh + 1)) Z w sH (twC mi 63 c0 c1 c2) (puC mi (pAt one))) k) k a = ((fiT CT (mi (sAt sh + 1)) Z w sH (twC mi 63 c0 c1 c2) (puC mi (pAt one))) k, a.2.1 ||| (1 <<< (nI k &&& 31)), a.2.2.1 + 1, nI k) := by
            unfold stT
            rw [if_pos c_5, if_pos c_6]
          rw [inc_nI]
          have z := ih (k + 1) ((fiT CT (mi (sAt sh + 1)) Z w sH (twC mi 63 c0 c1 c2) (puC mi (pAt one))) k, a.2.1 ||| (1 <<< (nI k &&& 31)), a.2.2.1 + 1, nI k) m_3 (some (spR w k ρ)) (by omega) f3
          rw [← e] at z
          first | exact z | (rw [e] at z; unfold tlL; rw [e]; exact z)
set_option maxRecDepth 20000 in
set_option maxHeartbeats 1000000 in
theorem c_tells_no1 {X : aXt × Value} {mi : Nat → Nat → Int32} {ml : Nat → Nat → Int64} {mr : Nat → Nat → Option Nat} (hM : MRok mr) {N : Nat} (hN : mi 0 5 = nI N) (hN5 : N ≤ 5) {sh one sH w : Int32} (hg2 : ¬ aixn sh 4 = true) (hg : aixn one N = true) : aCW X 8 86 [.ref 0, .int sh, .int one, .int sH, .int w] (HD, mi, ml, mr) (qU mi ml mr (.int (-2))) := by
  refine cw_of (cd := cd_X6_tells) (nL := 14) rfl rfl ?_
  show aWP _ _ (0, [some (.ref 0), some (.int sh), some (.int one), some (.int sH), some (.int w), none, none, none, none, none, none, none, none, none], [], (HD, mi, ml, mr)) _
  refine wp_steps 2 (t' := (2, [some (.ref 0), some (.int sh), some (.int one), some (.int sH), some (.int w), none, none, none, none, none, none, none, none, none], [.int sh, .ref 0], (HD, mi, ml, mr))) rfl ?_
  refine wp_calv (as := [.int sh]) rfl rfl rfl (Nat.le_of_ble_eq_true rfl) ⟨by decide, rfl⟩ ((c_sheetAt_no (ml := ml) hM hg2)) (by decide) ?_
  rintro _ _ ⟨rfl, rfl⟩
  show aWP _ _ (3, [some (.ref 0), some (.int sh), some (.int one), some (.int sH), some (.int w), none, none, none, none, none, none, none, none, none], [.null], (HD, mi, ml, mr)) _
  refine wp_steps 3 (t' := (6, [some (.ref 0), some (.int sh), some (.int one), some (.int sH), some (.int w), some (.null), none, none, none, none, none, none, none, none], [.int one, .ref 0], (HD, mi, ml, mr))) rfl ?_
  refine wp_calv (as := [.int one]) rfl rfl rfl (Nat.le_of_ble_eq_true rfl) ⟨by decide, rfl⟩ ((c_pupilAt_ok (ml := ml) hM hN hN5 hg)) (by decide) ?_
  rintro _ _ ⟨rfl, rfl⟩
  show aWP _ _ (7, [some (.ref 0), some (.int sh), some (.int one), some (.int sH), some (.int w), some (.null), none, none, none, none, none, none, none, none], [.ref (pAt one)], (HD, mi, ml, mr)) _
  refine wp_steps 2 (t' := (9, [some (.ref 0), some (.int sh), some (.int one), some (.int sH), some (.int w), some (.null), some (.ref (pAt one)), none, none, none, none, none, none, none], [.null], (HD, mi, ml, mr))) rfl ?_
  refine wp_step (t' := (20, [some (.ref 0), some (.int sh), some (.int one), some (.int sH), some (.int w), some (.null), some (.ref (pAt one)), none, none, none, none, none, none, none], [], (HD, mi, ml, mr))) rfl rfl ?_
  refine wp_steps 1 (t' := (21, [some (.ref 0), some (.int sh), some (.int one), some (.int sH), some (.int w), some (.null), some (.ref (pAt one)), none, none, none, none, none, none, none], [.int (-2)], (HD, mi, ml, mr))) rfl ?_
  refine wp_ret rfl rfl ⟨⟨Nat.le_refl _, Nat.le_refl _⟩, ?_⟩
  exact ⟨rfl, mi, mr 73 2, by rw [mr_self], frm.rf _ _⟩
set_option maxRecDepth 20000 in
set_option maxHeartbeats 1000000 in
theorem c_tells_no2 {X : aXt × Value} {mi : Nat → Nat → Int32} {ml : Nat → Nat → Int64} {mr : Nat → Nat → Option Nat} (hM : MRok mr) {N : Nat} (hN : mi 0 5 = nI N) (hN5 : N ≤ 5) {sh one sH w : Int32} (hg2 : ¬ aixn sh 4 = true) (hg : ¬ aixn one N = true) : aCW X 8 86 [.ref 0, .int sh, .int one, .int sH, .int w] (HD, mi, ml, mr) (qU mi ml mr (.int (-2))) := by
  refine cw_of (cd := cd_X6_tells) (nL := 14) rfl rfl ?_
  show aWP _ _ (0, [some (.ref 0), some (.int sh), some (.int one), some (.int sH), some (.int w), none, none, none, none, none, none, none, none, none], [], (HD, mi, ml, mr)) _
  refine wp_steps 2 (t' := (2, [some (.ref 0), some (.int sh), some (.int one), some (.int sH), some (.int w), none, none, none, none, none, none, none, none, none], [.int sh, .ref 0], (HD, mi, ml, mr))) rfl ?_
  refine wp_calv (as := [.int sh]) rfl rfl rfl (Nat.le_of_ble_eq_true rfl) ⟨by decide, rfl⟩ ((c_sheetAt_no (ml := ml) hM hg2)) (by decide) ?_
  rintro _ _ ⟨rfl, rfl⟩
  show aWP _ _ (3, [some (.ref 0), some (.int sh), some (.int one), some (.int sH), some (.int w), none, none, none, none, none, none, none, none, none], [.null], (HD, mi, ml, mr)) _
  refine wp_steps 3 (t' := (6, [some (.ref 0), some (.int sh), some (.int one), some (.int sH), some (.int w), some (.null), none, none, none, none, none, none, none, none], [.int one, .ref 0], (HD, mi, ml, mr))) rfl ?_
  refine wp_calv (as := [.int one]) rfl rfl rfl (Nat.le_of_ble_eq_true rfl) ⟨by decide, rfl⟩ ((c_pupilAt_no hM hN hN5 hg)) (by decide) ?_
  rintro _ _ ⟨rfl, rfl⟩
  show aWP _ _ (7, [some (.ref 0), some (.int sh), some (.int one), some (.int sH), some (.int w), some (.null), none, none, none, none, none, none, none, none], [.null], (HD, mi, ml, mr)) _
  refine wp_steps 2 (t' := (9, [some (.ref 0), some (.int sh), some (.int one), some (.int sH), some (.int w), some (.null), some (.null), none, none, none, none, none, none, none], [.null], (HD, mi, ml, mr))) rfl ?_
  refine wp_step (t' := (20, [some (.ref 0), some (.int sh), some (.int one), some (.int sH), some (.int w), some (.null), some (.null), none, none, none, none, none, none, none], [], (HD, mi, ml, mr))) rfl rfl ?_
  refine wp_steps 1 (t' := (21, [some (.ref 0), some (.int sh), some (.int one), some (.int sH), some (.int w), some (.null), some (.null), none, none, none, none, none, none, none], [.int (-2)], (HD, mi, ml, mr))) rfl ?_
  refine wp_ret rfl rfl ⟨⟨Nat.le_refl _, Nat.le_refl _⟩, ?_⟩
  exact ⟨rfl, mi, mr 73 2, by rw [mr_self], frm.rf _ _⟩
set_option maxRecDepth 20000 in
set_option maxHeartbeats 1000000 in
theorem c_tells_no3 {X : aXt × Value} {mi : Nat → Nat → Int32} {ml : Nat → Nat → Int64} {mr : Nat → Nat → Option Nat} (hM : MRok mr) {N : Nat} (hN : mi 0 5 = nI N) (hN5 : N ≤ 5) {sh one sH w : Int32} (hg2 : aixn sh 4 = true) (hg : ¬ aixn one N = true) : aCW X 8 86 [.ref 0, .int sh, .int one, .int sH, .int w] (HD, mi, ml, mr) (qU mi ml mr (.int (-2))) := by
  refine cw_of (cd := cd_X6_tells) (nL := 14) rfl rfl ?_
  show aWP _ _ (0, [some (.ref 0), some (.int sh), some (.int one), some (.int sH), some (.int w), none, none, none, none, none, none, none, none, none], [], (HD, mi, ml, mr)) _
  refine wp_steps 2 (t' := (2, [some (.ref 0), some (.int sh), some (.int one), some (.int sH), some (.int w), none, none, none, none, none, none, none, none, none], [.int sh, .ref 0], (HD, mi, ml, mr))) rfl ?_
  refine wp_calv (as := [.int sh]) rfl rfl rfl (Nat.le_of_ble_eq_true rfl) ⟨by decide, rfl⟩ ((c_sheetAt_ok (ml := ml) hM hg2)) (by decide) ?_
  rintro _ _ ⟨rfl, rfl⟩
  show aWP _ _ (3, [some (.ref 0), some (.int sh), some (.int one), some (.int sH), some (.int w), none, none, none, none, none, none, none, none, none], [.ref (sAt sh)], (HD, mi, ml, mr)) _
  refine wp_steps 3 (t' := (6, [some (.ref 0), some (.int sh), some (.int one), some (.int sH), some (.int w), some (.ref (sAt sh)), none, none, none, none, none, none, none, none], [.int one, .ref 0], (HD, mi, ml, mr))) rfl ?_
  refine wp_calv (as := [.int one]) rfl rfl rfl (Nat.le_of_ble_eq_true rfl) ⟨by decide, rfl⟩ ((c_pupilAt_no hM hN hN5 hg)) (by decide) ?_
  rintro _ _ ⟨rfl, rfl⟩
  show aWP _ _ (7, [some (.ref 0), some (.int sh), some (.int one), some (.int sH), some (.int w), some (.ref (sAt sh)), none, none, none, none, none, none, none, none], [.null], (HD, mi, ml, mr)) _
  refine wp_steps 2 (t' := (9, [some (.ref 0), some (.int sh), some (.int one), some (.int sH), some (.int w), some (.ref (sAt sh)), some (.null), none, none, none, none, none, none, none], [.ref (sAt sh)], (HD, mi, ml, mr))) rfl ?_
  refine wp_step (t' := (10, [some (.ref 0), some (.int sh), some (.int one), some (.int sH), some (.int w), some (.ref (sAt sh)), some (.null), none, none, none, none, none, none, none], [], (HD, mi, ml, mr))) rfl rfl ?_
  refine wp_steps 1 (t' := (11, [some (.ref 0), some (.int sh), some (.int one), some (.int sH), some (.int w), some (.ref (sAt sh)), some (.null), none, none, none, none, none, none, none], [.null], (HD, mi, ml, mr))) rfl ?_
  refine wp_step (t' := (20, [some (.ref 0), some (.int sh), some (.int one), some (.int sH), some (.int w), some (.ref (sAt sh)), some (.null), none, none, none, none, none, none, none], [], (HD, mi, ml, mr))) rfl rfl ?_
  refine wp_steps 1 (t' := (21, [some (.ref 0), some (.int sh), some (.int one), some (.int sH), some (.int w), some (.ref (sAt sh)), some (.null), none, none, none, none, none, none, none], [.int (-2)], (HD, mi, ml, mr))) rfl ?_
  refine wp_ret rfl rfl ⟨⟨Nat.le_refl _, Nat.le_refl _⟩, ?_⟩
  exact ⟨rfl, mi, mr 73 2, by rw [mr_self], frm.rf _ _⟩
theorem gsN_le (C : Nat) (w : Int32) (h : C ≤ 6) : gsN C w ≤ 100 := by
  unfold gsN
  repeat' split
  all_goals omega
theorem gsN_8 (C : Nat) (w : Int32) : w = 8 → gsN C w ≤ C := by
  intro e
  subst e
  exact Nat.le_refl C
set_option maxRecDepth 20000 in
set_option maxHeartbeats 1000000 in
theorem c_tells_ok {X : aXt × Value} {mi : Nat → Nat → Int32} {ml : Nat → Nat → Int64} {mr : Nat → Nat → Option Nat} (hM : MRok mr) {N : Nat} (hN : mi 0 5 = nI N) (hN5 : N ≤ 5) {ρ : Nat} {c0 c1 c2 : List Int32} (hρ : ρ ∈ TXS) (hr : mr 63 2 = some ρ) (hx : TXok mi ρ c0 c1 c2) {C : Nat} (hC : mi 0 1 = nI C) (hC6 : C ≤ 6) {CT : cT} (hCT : ∀ k, k < C → TXok mi (11 + 4 * k) (CT k).1 (CT k).2.1 (CT k).2.2) {sh one sH w : Int32} (hg2 : aixn sh 4 = true) (hg : aixn one N = true) {Z : Nat} (hz : mi (sAt sh) 1 = nI Z) (hZ : Z ≤ 40) : aCW X 8 86 [.ref 0, .int sh, .int one, .int sH, .int w] (HD, mi, ml, mr) (qU mi ml mr (.int (if shG sH = true ∧ inR 0 8 w then (if mi (sAt sh) 0 = -1 then -11 else tlV w (tlL (fiT CT (mi (sAt sh + 1)) Z w sH (twC mi 63 c0 c1 c2) (puC mi (pAt one))) (gsN C w) 0 (-1, 0, 0, -1))) else -2))) := by
  have hK := sAt_mem hg2
  have hP := pAt_mem hg hN5
  refine cw_of (cd := cd_X6_tells) (nL := 14) rfl rfl ?_
  show aWP _ _ (0, [some (.ref 0), some (.int sh), some (.int one), some (.int sH), some (.int w), none, none, none, none, none, none, none, none, none], [], (HD, mi, ml, mr)) _
  refine wp_steps 2 (t' := (2, [some (.ref 0), some (.int sh), some (.int one), some (.int sH), some (.int w), none, none, none, none, none, none, none, none, none], [.int sh, .ref 0], (HD, mi, ml, mr))) rfl ?_
  refine wp_calv (as := [.int sh]) rfl rfl rfl (Nat.le_of_ble_eq_true rfl) ⟨by decide, rfl⟩ ((c_sheetAt_ok (ml := ml) hM hg2)) (by decide) ?_
  rintro _ _ ⟨rfl, rfl⟩
  show aWP _ _ (3, [some (.ref 0), some (.int sh), some (.int one), some (.int sH), some (.int w), none, none, none, none, none, none, none, none, none], [.ref (sAt sh)], (HD, mi, ml, mr)) _
  refine wp_steps 3 (t' := (6, [some (.ref 0), some (.int sh), some (.int one), some (.int sH), some (.int w), some (.ref (sAt sh)), none, none, none, none, none, none, none, none], [.int one, .ref 0], (HD, mi, ml, mr))) rfl ?_
  refine wp_calv (as := [.int one]) rfl rfl rfl (Nat.le_of_ble_eq_true rfl) ⟨by decide, rfl⟩ ((c_pupilAt_ok (ml := ml) hM hN hN5 hg)) (by decide) ?_
  rintro _ _ ⟨rfl, rfl⟩
  show aWP _ _ (7, [some (.ref 0), some (.int sh), some (.int one), some (.int sH), some (.int w), some (.ref (sAt sh)), none, none, none, none, none, none, none, none], [.ref (pAt one)], (HD, mi, ml, mr)) _
  refine wp_steps 2 (t' := (9, [some (.ref 0), some (.int sh), some (.int one), some (.int sH), some (.int w), some (.ref (sAt sh)), some (.ref (pAt one)), none, none, none, none, none, none, none], [.ref (sAt sh)], (HD, mi, ml, mr))) rfl ?_
  refine wp_step (t' := (10, [some (.ref 0), some (.int sh), some (.int one), some (.int sH), some (.int w), some (.ref (sAt sh)), some (.ref (pAt one)), none, none, none, none, none, none, none], [], (HD, mi, ml, mr))) rfl rfl ?_
  refine wp_steps 1 (t' := (11, [some (.ref 0), some (.int sh), some (.int one), some (.int sH), some (.int w), some (.ref (sAt sh)), some (.ref (pAt one)), none, none, none, none, none, none, none], [.ref (pAt one)], (HD, mi, ml, mr))) rfl ?_
  refine wp_step (t' := (12, [some (.ref 0), some (.int sh), some (.int one), some (.int sH), some (.int w), some (.ref (sAt sh)), some (.ref (pAt one)), none, none, none, none, none, none, none], [], (HD, mi, ml, mr))) rfl rfl ?_
  refine wp_steps 1 (t' := (13, [some (.ref 0), some (.int sh), some (.int one), some (.int sH), some (.int w), some (.ref (sAt sh)), some (.ref (pAt one)), none, none, none, none, none, none, none], [.int sH], (HD, mi, ml, mr))) rfl ?_
  refine wp_cal (as := [.int sH]) rfl rfl rfl (Nat.le_of_ble_eq_true rfl) (c_isSH) (by decide) ?_
  rintro _ _ ⟨rfl, rfl⟩
  show aWP _ _ (14, [some (.ref 0), some (.int sh), some (.int one), some (.int sH), some (.int w), some (.ref (sAt sh)), some (.ref (pAt one)), none, none, none, none, none, none, none], [.int (if shG sH = true then (1 : Int32) else 0)], (HD, mi, ml, mr)) _
  refine wp_bI rfl (fun c_1 => ?_) (fun c_1 => ?_)
  · have c_1 : (if shG sH = true then (1 : Int32) else 0) = 0 := of_decide_eq_true c_1
    refine wp_steps 1 (t' := (21, [some (.ref 0), some (.int sh), some (.int one), some (.int sH), some (.int w), some (.ref (sAt sh)), some (.ref (pAt one)), none, none, none, none, none, none, none], [.int (-2)], (HD, mi, ml, mr))) rfl ?_
    refine wp_ret rfl rfl ⟨⟨Nat.le_refl _, Nat.le_refl _⟩, ?_⟩
    exact ⟨by rw [if_neg (show ¬ (shG sH = true ∧ inR 0 8 w) from fun z => (fun z => absurd (z.symm.trans (ite_nix c_1)) Bool.noConfusion) z.1)], mi, mr 73 2, by rw [mr_self], frm.rf _ _⟩
  · have c_1 : ¬ ((if shG sH = true then (1 : Int32) else 0) = 0) := of_decide_eq_false c_1
    refine wp_steps 1 (t' := (16, [some (.ref 0), some (.int sh), some (.int one), some (.int sH), some (.int w), some (.ref (sAt sh)), some (.ref (pAt one)), none, none, none, none, none, none, none], [.int w], (HD, mi, ml, mr))) rfl ?_
    refine wp_bI rfl (fun c_2 => ?_) (fun c_2 => ?_)
    · have c_2 : w < 0 := of_decide_eq_true c_2
      refine wp_steps 1 (t' := (21, [some (.ref 0), some (.int sh), some (.int one), some (.int sH), some (.int w), some (.ref (sAt sh)), some (.ref (pAt one)), none, none, none, none, none, none, none], [.int (-2)], (HD, mi, ml, mr))) rfl ?_
      refine wp_ret rfl rfl ⟨⟨Nat.le_refl _, Nat.le_refl _⟩, ?_⟩
      exact ⟨by rw [if_neg (show ¬ (shG sH = true ∧ inR 0 8 w) from fun z => (fun z => z.1 c_2) z.2)], mi, mr 73 2, by rw [mr_self], frm.rf _ _⟩
    · have c_2 : ¬ (w < 0) := of_decide_eq_false c_2
      refine wp_steps 2 (t' := (19, [some (.ref 0), some (.int sh), some (.int one), some (.int sH), some (.int w), some (.ref (sAt sh)), some (.ref (pAt one)), none, none, none, none, none, none, none], [.int 8, .int w], (HD, mi, ml, mr))) rfl ?_
      refine wp_bC rfl (fun c_3 => ?_) (fun c_3 => ?_)
      · have c_3 : w ≤ 8 := of_decide_eq_true c_3
        refine wp_steps 1 (t' := (23, [some (.ref 0), some (.int sh), some (.int one), some (.int sH), some (.int w), some (.ref (sAt sh)), some (.ref (pAt one)), none, none, none, none, none, none, none], [.ref (sAt sh)], (HD, mi, ml, mr))) rfl ?_
        refine wp_geti rfl (shS hK) (Or.inl rfl) ?_
        refine wp_steps 1 (t' := (25, [some (.ref 0), some (.int sh), some (.int one), some (.int sH), some (.int w), some (.ref (sAt sh)), some (.ref (pAt one)), none, none, none, none, none, none, none], [.int (-1), .int (mi (sAt sh) 0)], (HD, mi, ml, mr))) rfl ?_
        refine wp_bC rfl (fun c_4 => ?_) (fun c_4 => ?_)
        · have c_4 : ¬ (mi (sAt sh) 0) = (-1) := of_decide_eq_true c_4
          refine wp_steps 6 (t' := (34, [some (.ref 0), some (.int sh), some (.int one), some (.int sH), some (.int w), some (.ref (sAt sh)), some (.ref (pAt one)), some (.int (sH / 10)), none, none, none, none, none, none], [.int w, .ref 0], (HD, mi, ml, mr))) rfl ?_
          refine wp_calv (as := [.int w]) rfl rfl rfl (Nat.le_of_ble_eq_true rfl) ⟨by decide, rfl⟩ ((c_guesses (ml := ml) hM hC (w := w))) (by decide) ?_
          rintro _ _ ⟨rfl, rfl⟩
          show aWP _ _ (35, [some (.ref 0), some (.int sh), some (.int one), some (.int sH), some (.int w), some (.ref (sAt sh)), some (.ref (pAt one)), some (.int (sH / 10)), none, none, none, none, none, none], [.int (nI (gsN C w))], (HD, mi, ml, mr)) _
          refine wp_steps 11 (t' := (46, [some (.ref 0), some (.int sh), some (.int one), some (.int sH), some (.int w), some (.ref (sAt sh)), some (.ref (pAt one)), some (.int (sH / 10)), some (.int (nI (gsN C w))), some (.int (-1)), some (.int 0), some (.int 0), some (.int (-1)), some (.int 0)], [], (HD, mi, ml, mr))) rfl ?_
          have hG := (show shG sH = true ∧ inR 0 8 w from ⟨(ite_aix c_1), ⟨c_2, (Int32.not_lt.mpr c_3)⟩⟩)
          rw [if_pos hG, if_neg c_4]
          have z := l_tells (X := X) (mi := mi) (ml := ml) hM hC hC6 hCT hρ hr hx (sh := sh) (one := one) (sH := sH) (w := w) hK hP (shG_s hG.1) hz hZ (gsN_le C w hC6) (gsN_8 C w) (gsN C w) 0 (-1, 0, 0, -1) mi (mr 73 2) (by omega) (frm.rf _ _)
          rw [mr_self] at z
          exact z
        · have c_4 : (mi (sAt sh) 0) = (-1) := Decidable.not_not.mp (of_decide_eq_false c_4)
          refine wp_steps 1 (t' := (27, [some (.ref 0), some (.int sh), some (.int one), some (.int sH), some (.int w), some (.ref (sAt sh)), some (.ref (pAt one)), none, none, none, none, none, none, none], [.int (-11)], (HD, mi, ml, mr))) rfl ?_
          refine wp_ret rfl rfl ⟨⟨Nat.le_refl _, Nat.le_refl _⟩, ?_⟩
          exact ⟨by rw [if_pos (show shG sH = true ∧ inR 0 8 w from ⟨(ite_aix c_1), ⟨c_2, (Int32.not_lt.mpr c_3)⟩⟩), if_pos c_4], mi, mr 73 2, by rw [mr_self], frm.rf _ _⟩
      · have c_3 : ¬ (w ≤ 8) := of_decide_eq_false c_3
        refine wp_steps 1 (t' := (21, [some (.ref 0), some (.int sh), some (.int one), some (.int sH), some (.int w), some (.ref (sAt sh)), some (.ref (pAt one)), none, none, none, none, none, none, none], [.int (-2)], (HD, mi, ml, mr))) rfl ?_
        refine wp_ret rfl rfl ⟨⟨Nat.le_refl _, Nat.le_refl _⟩, ?_⟩
        exact ⟨by rw [if_neg (show ¬ (shG sH = true ∧ inR 0 8 w) from fun z => (fun z => z.2 (Int32.not_le.mp c_3)) z.2)], mi, mr 73 2, by rw [mr_self], frm.rf _ _⟩
