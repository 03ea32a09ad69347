/-! the reader by level; a part; the whole reading (written by wip/whole/mkpar4.py) -/
theorem cwP_up {X : aXt × Value} {mi : Nat → Nat → Int32} {ml : Nat → Nat → Int64} {mr : Nat → Nat → Option Nat} {d d' mid : Nat} {op : Int32} {F : pF} (hd : d ≤ d') (h : cwP X mi ml mr d mid op F) : cwP X mi ml mr d' mid op F := fun m s hp => cw_up hd (h m s hp)
theorem dpP_up {X : aXt × Value} {mi : Nat → Nat → Int32} {ml : Nat → Nat → Int64} {mr : Nat → Nat → Option Nat} {d d' : Nat} {op : Int32} (hd : d ≤ d') {deep : Option (pF × pF × pF)} (h : dpP X mi ml mr d op deep) : dpP X mi ml mr d' op deep := by
  cases deep with
  | none => exact h
  | some q => exact ⟨h.1, cwP_up hd h.2.1, cwP_up hd h.2.2.1, cwP_up hd h.2.2.2⟩
theorem lv_ok {X : aXt × Value} {mi : Nat → Nat → Int32} {ml : Nat → Nat → Int64} {mr : Nat → Nat → Option Nat} (hM : MRok mr) {n : Nat} (hn : n ≤ 160) (hs : mi 2 0 = nI n) (hX : outOK X) {op : Int32} {d : Nat} (hd : 7 ≤ d) {deep : Option (pF × pF × pF)} (hq : dpP X mi ml mr d op deep) : cwP X mi ml mr (d + 7) 16 op (lvF (byN (mi 3) n) n deep).1 ∧ cwP X mi ml mr (d + 7) 18 op (lvF (byN (mi 3) n) n deep).2.1 ∧ cwP X mi ml mr (d + 7) 22 op (lvF (byN (mi 3) n) n deep).2.2 := by
  have one : cwP X mi ml mr (d + 1) 22 op (onF (byN (mi 3) n) n deep) := by
    cases deep with
    | none => exact c_readOne_n hM hn hs hX hd hq
    | some q => exact c_readOne_s hM hn hs hX hd hq
  have like := c_readLike hM hn hs hX (by omega) (c_readSum hM hn hs hX (by omega) (c_readTerm hM hn hs hX (by omega) one))
  have not : cwP X mi ml mr (d + 5) 18 op (ntF (byN (mi 3) n) n deep (liF (byN (mi 3) n) n (chF (byN (mi 3) n) n joS (chF (byN (mi 3) n) n joT (onF (byN (mi 3) n) n deep))))) := by
    cases deep with
    | none => exact c_readNot_n hM hn hs hX (by omega) like (dpP_up (d' := d + 4) (by omega) hq)
    | some q => exact c_readNot_s hM hn hs hX (by omega) like (dpP_up (d' := d + 4) (by omega) hq)
  exact ⟨c_readOr hM hn hs hX (by omega) (c_readAnd hM hn hs hX (by omega) not), cwP_up (by omega) not, cwP_up (by omega) one⟩
theorem le_ok {X : aXt × Value} {mi : Nat → Nat → Int32} {ml : Nat → Nat → Int64} {mr : Nat → Nat → Option Nat} (hM : MRok mr) {n : Nat} (hn : n ≤ 160) (hs : mi 2 0 = nI n) (hX : outOK X) : ∀ k, k ≤ 5 → cwP X mi ml mr (7 * k + 14) 16 (nI (5 - k)) (leP (byN (mi 3) n) n k).1 ∧ cwP X mi ml mr (7 * k + 14) 18 (nI (5 - k)) (leP (byN (mi 3) n) n k).2.1 ∧ cwP X mi ml mr (7 * k + 14) 22 (nI (5 - k)) (leP (byN (mi 3) n) n k).2.2
  | 0, _ => lv_ok hM hn hs hX (by decide) (deep := none) (show ¬ nI 5 < 5 by decide)
  | k + 1, hk => by
    have h := le_ok (ml := ml) hM hn hs hX k (by omega)
    have e : nI (5 - (k + 1)) + 1 = nI (5 - k) := by rw [nI_1, show 5 - (k + 1) + 1 = 5 - k by omega]
    have hq : dpP X mi ml mr (7 * k + 14) (nI (5 - (k + 1))) (some (leP (byN (mi 3) n) n k)) := ⟨(nI_lt (by omega : 5 - (k + 1) < 5) (by decide) : nI (5 - (k + 1)) < nI 5), by rw [e]; exact h.1, by rw [e]; exact h.2.1, by rw [e]; exact h.2.2⟩
    exact lv_ok hM hn hs hX (by omega) hq
theorem c_expr {X : aXt × Value} {mi : Nat → Nat → Int32} {ml : Nat → Nat → Int64} {mr : Nat → Nat → Option Nat} (hM : MRok mr) {n : Nat} (hn : n ≤ 160) (hs : mi 2 0 = nI n) (hX : outOK X) : cwP X mi ml mr 49 16 0 (leP (byN (mi 3) n) n 5).1 := (le_ok hM hn hs hX 5 (by decide)).1
def ptF (b : Nat → Int32) (n : Nat) (key : Int32) (s : pS) : Bool × pS := if s.2.2.1 = key then (if ((leP b n 5).1 (stP b n s)).1 = true ∧ ((leP b n 5).1 (stP b n s)).2.2.2.1 = 59 then (true, stP b n ((leP b n 5).1 (stP b n s)).2) else (false, ((leP b n 5).1 (stP b n s)).2)) else (false, s)
theorem PS.up6 {mi m : Nat → Nat → Int32} {s : pS} (h : PS mi m s) (p : Nat) (v : Int32) : PS (aup mi 6 p v) (aup m 6 p v) s := by
  obtain ⟨a1, a2, a3, a4, a5, a6, a7, a8, a9⟩ := h
  refine ⟨fun k j h1 h2 h3 => ?_, ?_, ?_, ?_, ?_, ?_, a7, fun j hj => ?_, a9⟩
  · unfold aup
    split
    · split
      · rfl
      · exact a1 k j h1 h2 h3
    · exact a1 k j h1 h2 h3
  · rw [← a2]; simp [aup]
  · rw [← a3]; simp [aup]
  · rw [← a4]; simp [aup]
  · rw [← a5]; simp [aup]
  · rw [← a6]; simp [aup]
  · rw [← a8 j hj]; simp [aup]
theorem aup6_fr {mi : Nat → Nat → Int32} {p : Nat} {v : Int32} (k j : Nat) (h : k ≠ 6) : aup mi 6 p v k j = mi k j := by simp [aup, h]
theorem aup6_row {mi : Nat → Nat → Int32} {p : Nat} {v : Int32} (j : Nat) : aup mi 6 p v 6 j = if j = p then v else mi 6 j := by simp [aup]
theorem c_pstepb {X : aXt × Value} {mi : Nat → Nat → Int32} {ml : Nat → Nat → Int64} {mr : Nat → Nat → Option Nat} (hM : MRok mr) {n : Nat} (hn : n ≤ 160) (hs : mi 2 0 = nI n) (hX : outOK X) {b : Nat → Int32} (hb : byN (mi 3) n = b) {m : Nat → Nat → Int32} {s : pS} (h : PS mi m s) : aCW X 7 23 [.ref 2] (HD, m, ml, mr) (fun r h' => r = none ∧ ∃ m', h' = (HD, m', ml, mr) ∧ PS mi m' (stP b n s)) := by
  subst hb
  exact c_pstep hM hn hs hX h
theorem c_exprb {X : aXt × Value} {mi : Nat → Nat → Int32} {ml : Nat → Nat → Int64} {mr : Nat → Nat → Option Nat} (hM : MRok mr) {n : Nat} (hn : n ≤ 160) (hs : mi 2 0 = nI n) (hX : outOK X) {b : Nat → Int32} (hb : byN (mi 3) n = b) : cwP X mi ml mr 49 16 0 (leP b n 5).1 := by
  subst hb
  exact c_expr hM hn hs hX
set_option maxRecDepth 20000 in
set_option maxHeartbeats 1000000 in
theorem c_readPart {X : aXt × Value} {mi : Nat → Nat → Int32} {ml : Nat → Nat → Int64} {mr : Nat → Nat → Option Nat} (hM : MRok mr) {n : Nat} (hn : n ≤ 160) (hs : mi 2 0 = nI n) (hX : outOK X) {b : Nat → Int32} (hb : byN (mi 3) n = b) {key part : Int32} (hpart : aixn part 3 = true) {m : Nat → Nat → Int32} {s : pS} (hp0 : PS mi m s) : aCW X 50 15 [.ref 2, .int key, .int part] (HD, m, ml, mr) (fun r h' => ∃ mi2 m2, h' = (HD, m2, ml, mr) ∧ PS mi2 m2 (ptF b n key s).2 ∧ r = some (.int (if (ptF b n key s).1 = true then 1 else 0)) ∧ (∀ k j, k ≠ 6 → mi2 k j = mi k j) ∧ ((ptF b n key s).1 = true → ∀ j, mi2 6 j = if j = part.toNatClampNeg then nI (ptF b n key s).2.2.2.2.2.length else mi 6 j)) := by
  refine cw_of (cd := cd_X1_readPart) (nL := 3) rfl rfl ?_
  show aWP _ _ (0, [some (.ref 2), some (.int key), some (.int part)], [], (HD, m, ml, mr)) _
  refine wp_steps 1 (t' := (1, [some (.ref 2), some (.int key), some (.int part)], [.ref 2], (HD, m, ml, mr))) rfl ?_
  refine wp_geti rfl ⟨by decide, rfl⟩ (Or.inl rfl) ?_
  refine wp_steps 1 (t' := (3, [some (.ref 2), some (.int key), some (.int part)], [.int key, .int (m 2 3)], (HD, m, ml, mr))) rfl ?_
  refine wp_bC rfl (fun c_1 => ?_) (fun c_1 => ?_)
  · have c_1 : (m 2 3) = key := of_decide_eq_true c_1
    refine wp_steps 1 (t' := (7, [some (.ref 2), some (.int key), some (.int part)], [.ref 2], (HD, m, ml, mr))) rfl ?_
    refine wp_calv (as := []) rfl rfl rfl (Nat.le_of_ble_eq_true rfl) ⟨by decide, rfl⟩ ((c_pstepb hM hn hs hX hb hp0)) (by omega) ?_
    rintro _ _ ⟨rfl, m_1, rfl, hp1⟩
    show aWP _ _ (8, [some (.ref 2), some (.int key), some (.int part)], [], (HD, m_1, ml, mr)) _
    refine wp_steps 2 (t' := (10, [some (.ref 2), some (.int key), some (.int part)], [.int 0, .ref 2], (HD, m_1, ml, mr))) rfl ?_
    refine wp_calv (as := [.int 0]) rfl rfl rfl (Nat.le_of_ble_eq_true rfl) ⟨by decide, rfl⟩ (c_exprb hM hn hs hX hb _ _ hp1) (by omega) ?_
    rintro _ _ ⟨m_2, rfl, hp2, rfl⟩
    show aWP _ _ (11, [some (.ref 2), some (.int key), some (.int part)], [.int (if ((leP b n 5).1 (stP b n s)).1 = true then (1 : Int32) else 0)], (HD, m_2, ml, mr)) _
    refine wp_bI rfl (fun c_2 => ?_) (fun c_2 => ?_)
    · have c_2 : (if ((leP b n 5).1 (stP b n s)).1 = true then (1 : Int32) else 0) = 0 := of_decide_eq_true c_2
      refine wp_steps 1 (t' := (17, [some (.ref 2), some (.int key), some (.int part)], [.int 0], (HD, m_2, ml, mr))) rfl ?_
      refine wp_ret rfl rfl ⟨⟨Nat.le_refl _, Nat.le_refl _⟩, ?_⟩
      have ht : s.2.2.1 = m 2 3 := hp0.2.1.symm
      have e : ptF b n key s = (false, ((leP b n 5).1 (stP b n s)).2) := by
        show (if _ then (if _ then _ else _) else _) = _
        rw [ht, if_pos c_1, if_neg (fun z => absurd z.1 (i1_f c_2))]
      rw [e]
      exact ⟨mi, m_2, rfl, hp2, rfl, fun _ _ _ => rfl, fun z => Bool.noConfusion z⟩
    · have c_2 : ¬ ((if ((leP b n 5).1 (stP b n s)).1 = true then (1 : Int32) else 0) = 0) := of_decide_eq_false c_2
      refine wp_steps 1 (t' := (13, [some (.ref 2), some (.int key), some (.int part)], [.ref 2], (HD, m_2, ml, mr))) rfl ?_
      refine wp_geti rfl ⟨by decide, rfl⟩ (Or.inl rfl) ?_
      refine wp_steps 1 (t' := (15, [some (.ref 2), some (.int key), some (.int part)], [.int 59, .int (m_2 2 3)], (HD, m_2, ml, mr))) rfl ?_
      refine wp_bC rfl (fun c_3 => ?_) (fun c_3 => ?_)
      · have c_3 : (m_2 2 3) = 59 := of_decide_eq_true c_3
        refine wp_steps 1 (t' := (19, [some (.ref 2), some (.int key), some (.int part)], [.ref 2], (HD, m_2, ml, mr))) rfl ?_
        refine wp_calv (as := []) rfl rfl rfl (Nat.le_of_ble_eq_true rfl) ⟨by decide, rfl⟩ ((c_pstepb hM hn hs hX hb hp2)) (by omega) ?_
        rintro _ _ ⟨rfl, m_3, rfl, hp3⟩
        show aWP _ _ (20, [some (.ref 2), some (.int key), some (.int part)], [], (HD, m_3, ml, mr)) _
        refine wp_steps 1 (t' := (21, [some (.ref 2), some (.int key), some (.int part)], [.ref 2], (HD, m_3, ml, mr))) rfl ?_
        refine wp_getr rfl ⟨by decide, rfl⟩ rfl (hM (2, 2, 4) (by decide)) ?_
        refine wp_steps 1 (t' := (23, [some (.ref 2), some (.int key), some (.int part)], [.int part, .ref 4], (HD, m_3, ml, mr))) rfl ?_
        refine wp_calv (as := [.int part]) rfl rfl rfl (Nat.le_of_ble_eq_true rfl) ⟨by decide, rfl⟩ ((c_Xend (mi := m_3) (ml := ml) hM (A := 4) (by decide) (p := part))) (by omega) ?_
        rintro _ _ ⟨rfl, rfl⟩
        show aWP _ _ (24, [some (.ref 2), some (.int key), some (.int part)], [], (HD, (if aixn part 3 = true then aup m_3 (4 + 2) part.toNatClampNeg (m_3 4 4) else m_3), ml, mr)) _
        refine wp_steps 1 (t' := (25, [some (.ref 2), some (.int key), some (.int part)], [.int 1], (HD, (if aixn part 3 = true then aup m_3 (4 + 2) part.toNatClampNeg (m_3 4 4) else m_3), ml, mr))) rfl ?_
        refine wp_ret rfl rfl ⟨⟨Nat.le_refl _, Nat.le_refl _⟩, ?_⟩
        have ht : s.2.2.1 = m 2 3 := hp0.2.1.symm
        have e : ptF b n key s = (true, stP b n ((leP b n 5).1 (stP b n s)).2) := by
          show (if _ then (if _ then _ else _) else _) = _
          rw [ht, if_pos c_1, if_pos ⟨i1_t c_2, by rw [← hp2.2.1]; exact c_3⟩]
        rw [e, if_pos hpart, hp3.2.2.2.2.2.1]
        exact ⟨aup mi 6 part.toNatClampNeg _, _, rfl, hp3.up6 _ _, rfl, aup6_fr, fun _ j => aup6_row j⟩
      · have c_3 : ¬ ((m_2 2 3) = 59) := of_decide_eq_false c_3
        refine wp_steps 1 (t' := (17, [some (.ref 2), some (.int key), some (.int part)], [.int 0], (HD, m_2, ml, mr))) rfl ?_
        refine wp_ret rfl rfl ⟨⟨Nat.le_refl _, Nat.le_refl _⟩, ?_⟩
        have ht : s.2.2.1 = m 2 3 := hp0.2.1.symm
        have e : ptF b n key s = (false, ((leP b n 5).1 (stP b n s)).2) := by
          show (if _ then (if _ then _ else _) else _) = _
          rw [ht, if_pos c_1, if_neg (fun z => c_3 (by rw [hp2.2.1]; exact z.2))]
        rw [e]
        exact ⟨mi, m_2, rfl, hp2, rfl, fun _ _ _ => rfl, fun z => Bool.noConfusion z⟩
  · have c_1 : ¬ ((m 2 3) = key) := of_decide_eq_false c_1
    refine wp_steps 1 (t' := (5, [some (.ref 2), some (.int key), some (.int part)], [.int 0], (HD, m, ml, mr))) rfl ?_
    refine wp_ret rfl rfl ⟨⟨Nat.le_refl _, Nat.le_refl _⟩, ?_⟩
    have ht : s.2.2.1 = m 2 3 := hp0.2.1.symm
    have e : ptF b n key s = (false, s) := if_neg (by rw [ht]; exact c_1)
    rw [e]
    exact ⟨mi, m, rfl, hp0, rfl, fun _ _ _ => rfl, fun z => Bool.noConfusion z⟩
