/-! questions: class and reference alike (written by wip/whole/mkinv1.py) -/
theorem in_aix {x : Int32} (h : inR 0 99 x) : aixn x 100 = true := (aix_iff (by decide)).mpr ⟨h.1, fun z => h.2 (Int32.lt_of_lt_of_le (by decide) z)⟩
theorem p_asks {W : aXt × Value} {one s w : Int32} : PR W 72 180 [.int one, .int s, .int w] := by
  intro m ml mr hI
  obtain ⟨hM, A, T, X, B, K, H, hC, hR, o⟩ := hI
  have h6 := o.2.2.1
  have hR6 : X.2.1 < 6 := Nat.lt_of_lt_of_le h6.2 h6.1
  by_cases g : aixn one A.1 = true
  · obtain ⟨p, rfl, hq⟩ := one_p g
    have hp5 : p < 5 := Nat.lt_of_lt_of_le hq o.1.1
    have z := c_asks_ok (X := W) (ml := ml) hM hC.1.1 o.1.1 (tx_mem hR6) hC.2.2.1.2.1 (hC.2.2.1.2.2.2 _ h6.2) g (s := s) (w := w)
    rw [hC.2.1.tv X, pAt_p hp5, hC.1.2 p hq] at z
    refine PR_q hM o hC hR (d2 := 48) (by decide) (by decide) z (fun m1 w1 mr1 hM1 hR1 => ?_)
    have y := q_asks_ok (X := W) (ml := w1) hM1 hR1.1.1 o.1.1 (hR1.2.2.1.ru h6) hq (by rw [hR1.1.2 p hq]; exact o.1.2 p hq) (s := s) (w := w)
    rw [hR1.2.1.tv X, hR1.1.2 p hq] at y
    exact cw_up (by decide) y
  · exact PR_q hM o hC hR (d2 := 48) (by decide) (by decide) (c_asks_no (X := W) (ml := ml) hM hC.1.1 o.1.1 g) (fun m1 w1 mr1 hM1 hR1 => cw_up (by decide) (q_asks_no hM1 hR1.1.1 o.1.1 g))
theorem p_best {W : aXt × Value} {one w : Int32} : PR W 79 189 [.int one, .int w] := by
  intro m ml mr hI
  obtain ⟨hM, A, T, X, B, K, H, hC, hR, o⟩ := hI
  have h6 := o.2.2.1
  have hR6 : X.2.1 < 6 := Nat.lt_of_lt_of_le h6.2 h6.1
  by_cases g : aixn one A.1 = true
  · obtain ⟨p, rfl, hq⟩ := one_p g
    have hp5 : p < 5 := Nat.lt_of_lt_of_le hq o.1.1
    have z := c_best_ok (X := W) (ml := ml) hM hC.1.1 o.1.1 (tx_mem hR6) hC.2.2.1.2.1 (hC.2.2.1.2.2.2 _ h6.2) g (w := w)
    rw [hC.2.1.tv X, pAt_p hp5, hC.1.2 p hq] at z
    refine PR_q hM o hC hR (d2 := 48) (by decide) (by decide) z (fun m1 w1 mr1 hM1 hR1 => ?_)
    have y := q_best_ok (X := W) (ml := w1) hM1 hR1.1.1 o.1.1 (hR1.2.2.1.ru h6) hq (by rw [hR1.1.2 p hq]; exact o.1.2 p hq) (w := w)
    rw [hR1.2.1.tv X, hR1.1.2 p hq] at y
    exact cw_up (by decide) y
  · exact PR_q hM o hC hR (d2 := 48) (by decide) (by decide) (c_best_no (X := W) (ml := ml) hM hC.1.1 o.1.1 g) (fun m1 w1 mr1 hM1 hR1 => cw_up (by decide) (q_best_no hM1 hR1.1.1 o.1.1 g))
theorem p_takes {W : aXt × Value} {one hp h : Int32} : PR W 81 192 [.int one, .int hp, .int h] := by
  intro m ml mr hI
  obtain ⟨hM, A, T, X, B, K, H, hC, hR, o⟩ := hI
  have h6 := o.2.2.1
  have hR6 : X.2.1 < 6 := Nat.lt_of_lt_of_le h6.2 h6.1
  by_cases g : aixn one A.1 = true
  · obtain ⟨p, rfl, hq⟩ := one_p g
    have hp5 : p < 5 := Nat.lt_of_lt_of_le hq o.1.1
    have z := c_takes_ok (X := W) (ml := ml) hM hC.1.1 o.1.1 (tx_mem hR6) hC.2.2.1.2.1 (hC.2.2.1.2.2.2 _ h6.2) g (hp := hp) (h := h)
    rw [hC.2.1.tv X, pAt_p hp5, hC.1.2 p hq] at z
    refine PR_q hM o hC hR (d2 := 48) (by decide) (by decide) z (fun m1 w1 mr1 hM1 hR1 => ?_)
    have y := q_takes_ok (X := W) (ml := w1) hM1 hR1.1.1 o.1.1 (hR1.2.2.1.ru h6) hq (by rw [hR1.1.2 p hq]; exact o.1.2 p hq) (hp := hp) (h := h)
    rw [hR1.2.1.tv X, hR1.1.2 p hq] at y
    exact cw_up (by decide) y
  · exact PR_q hM o hC hR (d2 := 48) (by decide) (by decide) (c_takes_no (X := W) (ml := ml) hM hC.1.1 o.1.1 g) (fun m1 w1 mr1 hM1 hR1 => cw_up (by decide) (q_takes_no hM1 hR1.1.1 o.1.1 g))
theorem p_late {W : aXt × Value} {one s : Int32} : PR W 82 193 [.int one, .int s] := by
  intro m ml mr hI
  obtain ⟨hM, A, T, X, B, K, H, hC, hR, o⟩ := hI
  have h6 := o.2.2.1
  have hR6 : X.2.1 < 6 := Nat.lt_of_lt_of_le h6.2 h6.1
  by_cases g : aixn one A.1 = true
  · obtain ⟨p, rfl, hq⟩ := one_p g
    have hp5 : p < 5 := Nat.lt_of_lt_of_le hq o.1.1
    have z := c_late_ok (X := W) (ml := ml) hM hC.1.1 o.1.1 (tx_mem hR6) hC.2.2.1.2.1 (hC.2.2.1.2.2.2 _ h6.2) g (s := s)
    rw [hC.2.1.tv X, pAt_p hp5, hC.1.2 p hq] at z
    refine PR_q hM o hC hR (d2 := 48) (by decide) (by decide) z (fun m1 w1 mr1 hM1 hR1 => ?_)
    have y := q_late_ok (X := W) (ml := w1) hM1 hR1.1.1 o.1.1 (hR1.2.2.1.ru h6) hq (by rw [hR1.1.2 p hq]; exact o.1.2 p hq) (s := s)
    rw [hR1.2.1.tv X, hR1.1.2 p hq] at y
    exact cw_up (by decide) y
  · exact PR_q hM o hC hR (d2 := 48) (by decide) (by decide) (c_late_no (X := W) (ml := ml) hM hC.1.1 o.1.1 g) (fun m1 w1 mr1 hM1 hR1 => cw_up (by decide) (q_late_no hM1 hR1.1.1 o.1.1 g))
theorem p_gap {W : aXt × Value} {one w : Int32} : PR W 83 194 [.int one, .int w] := by
  intro m ml mr hI
  obtain ⟨hM, A, T, X, B, K, H, hC, hR, o⟩ := hI
  have h6 := o.2.2.1
  have hR6 : X.2.1 < 6 := Nat.lt_of_lt_of_le h6.2 h6.1
  by_cases g : aixn one A.1 = true
  · obtain ⟨p, rfl, hq⟩ := one_p g
    have hp5 : p < 5 := Nat.lt_of_lt_of_le hq o.1.1
    have z := c_gap_ok (X := W) (ml := ml) hM hC.1.1 o.1.1 (tx_mem hR6) hC.2.2.1.2.1 (hC.2.2.1.2.2.2 _ h6.2) g (w := w)
    rw [hC.2.1.tv X, pAt_p hp5, hC.1.2 p hq] at z
    refine PR_q hM o hC hR (d2 := 48) (by decide) (by decide) z (fun m1 w1 mr1 hM1 hR1 => ?_)
    have y := q_gap_ok (X := W) (ml := w1) hM1 hR1.1.1 o.1.1 (hR1.2.2.1.ru h6) hq (by rw [hR1.1.2 p hq]; exact o.1.2 p hq) (w := w)
    rw [hR1.2.1.tv X, hR1.1.2 p hq] at y
    exact cw_up (by decide) y
  · exact PR_q hM o hC hR (d2 := 48) (by decide) (by decide) (c_gap_no (X := W) (ml := ml) hM hC.1.1 o.1.1 g) (fun m1 w1 mr1 hM1 hR1 => cw_up (by decide) (q_gap_no hM1 hR1.1.1 o.1.1 g))
theorem p_faded {W : aXt × Value} {one n : Int32} : PR W 84 195 [.int one, .int n] := by
  intro m ml mr hI
  obtain ⟨hM, A, T, X, B, K, H, hC, hR, o⟩ := hI
  have h6 := o.2.2.1
  have hR6 : X.2.1 < 6 := Nat.lt_of_lt_of_le h6.2 h6.1
  by_cases g : aixn one A.1 = true
  · obtain ⟨p, rfl, hq⟩ := one_p g
    have hp5 : p < 5 := Nat.lt_of_lt_of_le hq o.1.1
    have z := c_faded_ok (X := W) (ml := ml) hM hC.1.1 o.1.1 (tx_mem hR6) hC.2.2.1.2.1 (hC.2.2.1.2.2.2 _ h6.2) g (n := n)
    rw [hC.2.1.tv X, pAt_p hp5, hC.1.2 p hq] at z
    refine PR_q hM o hC hR (d2 := 48) (by decide) (by decide) z (fun m1 w1 mr1 hM1 hR1 => ?_)
    have y := q_faded_ok (X := W) (ml := w1) hM1 hR1.1.1 o.1.1 (hR1.2.2.1.ru h6) hq (by rw [hR1.1.2 p hq]; exact o.1.2 p hq) (n := n)
    rw [hR1.2.1.tv X, hR1.1.2 p hq] at y
    exact cw_up (by decide) y
  · exact PR_q hM o hC hR (d2 := 48) (by decide) (by decide) (c_faded_no (X := W) (ml := ml) hM hC.1.1 o.1.1 g) (fun m1 w1 mr1 hM1 hR1 => cw_up (by decide) (q_faded_no hM1 hR1.1.1 o.1.1 g))
theorem p_test {W : aXt × Value} {one w part : Int32} : PRL W 85 197 [.int one, .int w, .int part] := by
  intro m ml mr hI
  obtain ⟨hM, A, T, X, B, K, H, hC, hR, o⟩ := hI
  have h6 := o.2.2.1
  have hR6 : X.2.1 < 6 := Nat.lt_of_lt_of_le h6.2 h6.1
  by_cases g : aixn one A.1 = true
  · obtain ⟨p, rfl, hq⟩ := one_p g
    have hp5 : p < 5 := Nat.lt_of_lt_of_le hq o.1.1
    have z := c_test_ok (X := W) (ml := ml) hM hC.1.1 o.1.1 g (w := w) (part := part) (hs := by rw [pAt_p hp5, hC.1.2 p hq]; exact fun j hj => in_aix ((o.1.2 p hq).2.2.2.2 j hj))
    rw [pAt_p hp5, hC.1.2 p hq] at z
    refine PR_q hM o hC hR (d2 := 48) (by decide) (by decide) z (fun m1 w1 mr1 hM1 hR1 => ?_)
    have y := q_test_ok (X := W) (ml := w1) hM1 hR1.1.1 o.1.1 (hR1.2.2.1.ru h6) hq (by rw [hR1.1.2 p hq]; exact o.1.2 p hq) (w := w) (part := part)
    rw [hR1.1.2 p hq] at y
    exact cw_up (by decide) y
  · exact PR_q hM o hC hR (d2 := 48) (by decide) (by decide) (c_test_no (X := W) (ml := ml) hM hC.1.1 o.1.1 g) (fun m1 w1 mr1 hM1 hR1 => cw_up (by decide) (q_test_no hM1 hR1.1.1 o.1.1 g))
theorem p_drawn {W : aXt × Value} {z0 one : Int32} : PR W 90 204 [.int z0, .int one] := by
  intro m ml mr hI
  obtain ⟨hM, A, T, X, B, K, H, hC, hR, o⟩ := hI
  have h6 := o.2.2.1
  have hR6 : X.2.1 < 6 := Nat.lt_of_lt_of_le h6.2 h6.1
  by_cases g : aixn one A.1 = true
  · obtain ⟨p, rfl, hq⟩ := one_p g
    have hp5 : p < 5 := Nat.lt_of_lt_of_le hq o.1.1
    have z := c_drawn_ok (X := W) (ml := ml) hM hC.1.1 o.1.1 g (z0 := z0)
    rw [pAt_p hp5, hC.1.2 p hq] at z
    refine PR_q hM o hC hR (d2 := 48) (by decide) (by decide) z (fun m1 w1 mr1 hM1 hR1 => ?_)
    have y := q_drawn_ok (X := W) (ml := w1) hM1 hR1.1.1 o.1.1 hq (z0 := z0)
    rw [hR1.1.2 p hq] at y
    exact cw_up (by decide) y
  · exact PR_q hM o hC hR (d2 := 48) (by decide) (by decide) (c_drawn_no (X := W) (ml := ml) hM hC.1.1 o.1.1 g) (fun m1 w1 mr1 hM1 hR1 => cw_up (by decide) (q_drawn_no hM1 hR1.1.1 o.1.1 g))
theorem p_chance {W : aXt × Value} {z0 m_ one w : Int32} : PRL W 91 205 [.int z0, .int m_, .int one, .int w] := by
  intro m ml mr hI
  obtain ⟨hM, A, T, X, B, K, H, hC, hR, o⟩ := hI
  have h6 := o.2.2.1
  have hR6 : X.2.1 < 6 := Nat.lt_of_lt_of_le h6.2 h6.1
  by_cases g : aixn one A.1 = true
  · obtain ⟨p, rfl, hq⟩ := one_p g
    have hp5 : p < 5 := Nat.lt_of_lt_of_le hq o.1.1
    have z := c_chance_ok (X := W) (ml := ml) hM hC.1.1 o.1.1 g (z0 := z0) (m := m_) (w := w)
    rw [pAt_p hp5, hC.1.2 p hq] at z
    refine PR_q hM o hC hR (d2 := 48) (by decide) (by decide) z (fun m1 w1 mr1 hM1 hR1 => ?_)
    have y := q_chance_ok (X := W) (ml := w1) hM1 hR1.1.1 o.1.1 hq (z0 := z0) (m := m_) (w := w)
    rw [hR1.1.2 p hq] at y
    exact cw_up (by decide) y
  · exact PR_q hM o hC hR (d2 := 48) (by decide) (by decide) (c_chance_no (X := W) (ml := ml) hM hC.1.1 o.1.1 g) (fun m1 w1 mr1 hM1 hR1 => cw_up (by decide) (q_chance_no hM1 hR1.1.1 o.1.1 g))
theorem p_hours {W : aXt × Value} {one n hp w : Int32} : PR W 80 190 [.int one, .int n, .int hp, .int w] := by
  intro m ml mr hI
  obtain ⟨hM, A, T, X, B, K, H, hC, hR, o⟩ := hI
  have h6 := o.2.2.1
  have hR6 : X.2.1 < 6 := Nat.lt_of_lt_of_le h6.2 h6.1
  by_cases g : aixn one A.1 = true
  · obtain ⟨p, rfl, hp_⟩ := one_p g
    have hp5 : p < 5 := Nat.lt_of_lt_of_le hp_ o.1.1
    have z := c_hours_ok (X := W) (ml := ml) hM hC.1.1 o.1.1 (tx_mem hR6) hC.2.2.1.2.1 (hC.2.2.1.2.2.2 _ h6.2) g (n := n) (hp := hp) (w := w)
    rw [hC.2.1.tv X, pAt_p hp5, hC.1.2 p hp_] at z
    refine PR_q hM o hC hR (d2 := 49) (by decide) (by decide) z (fun m1 w1 mr1 hM1 hR1 => ?_)
    have y := r_hours_ok (X := W) (ml := w1) hM1 hR1.1.1 o.1.1 (hR1.2.2.1.ru h6) hp_ (by rw [hR1.1.2 p hp_]; exact o.1.2 p hp_) (n := n) (hp := hp) (w := w)
    rw [hR1.2.1.tv X, hR1.1.2 p hp_] at y
    exact y
  · exact PR_q hM o hC hR (d2 := 49) (by decide) (by decide) (c_hours_no (X := W) (ml := ml) hM hC.1.1 o.1.1 g) (fun m1 w1 mr1 hM1 hR1 => cw_up (by decide) (sm_qR (r_hours_no hM1 hR1.1.1 o.1.1 g)))
theorem p_told {W : aXt × Value} {one w : Int32} : PR W 71 123 [.int one, .int w] := by
  intro m ml mr hI
  obtain ⟨hM, A, T, X, B, K, H, hC, hR, o⟩ := hI
  have h6 := o.2.2.1
  have hR6 : X.2.1 < 6 := Nat.lt_of_lt_of_le h6.2 h6.1
  by_cases w0 : w = 0
  · subst w0
    have z := c_told_0 (X := W) (mi := m) (ml := ml) hM (of := one) (w := 0) rfl
    rw [hC.2.1.2] at z
    refine PR_q hM o hC hR (d2 := 48) (by decide) (by decide) z (fun m1 w1 mr1 hM1 hR1 => ?_)
    have y := q_told_0 (X := W) (mi := m1) (ml := w1) hM1 (one := one)
    rw [hR1.2.1.2] at y
    exact y
  by_cases w1 : w = 1
  · subst w1
    have z := c_told_1 (X := W) (mi := m) (ml := ml) hM (of := one) (w := 1) rfl
    have e : (if aixn one 8 = true then m 64 one.toNatClampNeg else -2) = (if aixn one 8 = true then T.1 one.toNatClampNeg else -2) := by
      by_cases g : aixn one 8 = true
      · rw [if_pos g, if_pos g, ← hC.2.1.1, c8_lt (aix_out g).2]
      · rw [if_neg g, if_neg g]
    rw [e] at z
    refine PR_q hM o hC hR (d2 := 48) (by decide) (by decide) z (fun m1 w1 mr1 hM1 hR1 => ?_)
    have y := q_told_1 (X := W) (mi := m1) (ml := w1) hM1 (one := one)
    have e : (if aixn one 8 = true then m1 88 one.toNatClampNeg else -2) = (if aixn one 8 = true then T.1 one.toNatClampNeg else -2) := by
      by_cases g : aixn one 8 = true
      · rw [if_pos g, if_pos g, ← hR1.2.1.1, c8_lt (aix_out g).2]
      · rw [if_neg g, if_neg g]
    rw [e] at y
    exact y
  by_cases g : aixn one A.1 = true
  · obtain ⟨p, rfl, hp⟩ := one_p g
    have hp5 : p < 5 := Nat.lt_of_lt_of_le hp o.1.1
    have z := c_told_ok (X := W) (ml := ml) hM hC.1.1 o.1.1 (tx_mem hR6) hC.2.2.1.2.1 (hC.2.2.1.2.2.2 _ h6.2) ⟨w0, w1⟩ g
    rw [hC.2.1.tv X, pAt_p hp5, hC.1.2 p hp] at z
    refine PR_q hM o hC hR (d2 := 48) (by decide) (by decide) z (fun m1 w1_ mr1 hM1 hR1 => ?_)
    have y := q_told_ok (X := W) (ml := w1_) hM1 hR1.1.1 o.1.1 (hR1.2.2.1.ru h6) hp (by rw [hR1.1.2 p hp]; exact o.1.2 p hp) (w := w) ⟨w0, w1⟩
    rw [hR1.2.1.tv X, hR1.1.2 p hp] at y
    exact y
  · exact PR_q hM o hC hR (d2 := 48) (by decide) (by decide) (c_told_no (X := W) (ml := ml) hM hC.1.1 o.1.1 ⟨w0, w1⟩ g) (fun m1 w1_ mr1 hM1 hR1 => q_told_no hM1 hR1.1.1 o.1.1 g ⟨w0, w1⟩)
theorem p_taken {W : aXt × Value} (hU : W.1 aUND = some (6, aUnd)) {one k : Int32} : PR W 102 215 [.int one, .int k] := by
  intro m ml mr hI
  obtain ⟨hM, A, T, X, B, K, H, hC, hR, o⟩ := hI
  have h6 := o.2.2.1
  have hR6 : X.2.1 < 6 := Nat.lt_of_lt_of_le h6.2 h6.1
  by_cases g : aixn one A.1 = true
  · obtain ⟨p, rfl, hp⟩ := one_p g
    have hp5 : p < 5 := Nat.lt_of_lt_of_le hp o.1.1
    have z := c_taken_ok (X := W) (ml := ml) hM hC.1.1 o.1.1 hU (k := k) g
    have e0 : m (35 + 4 * p) 0 = (A.2 p).1 := congrArg (·.1) (hC.1.2 p hp)
    have e1 : m (35 + 4 * p) 1 = (A.2 p).2.1 := congrArg (·.2.1) (hC.1.2 p hp)
    rw [pAt_p hp5, e0, e1] at z
    refine PR_q hM o hC hR (d2 := 4) (by decide) (by decide) z (fun m1 w1 mr1 hM1 hR1 => ?_)
    have y := q_taken_ok (X := W) (ml := w1) hM1 hR1.1.1 o.1.1 (hR1.2.2.1.ru h6) hp (by rw [hR1.1.2 p hp]; exact o.1.2 p hp) (k := k)
    have e0 : m1 89 p = (A.2 p).1 := congrArg (·.1) (hR1.1.2 p hp)
    have e1 : m1 90 p = (A.2 p).2.1 := congrArg (·.2.1) (hR1.1.2 p hp)
    rw [e0, e1] at y
    exact y
  · exact PR_q hM o hC hR (d2 := 4) (by decide) (by decide) (c_taken_no (X := W) (ml := ml) hM hC.1.1 o.1.1 g) (fun m1 w1 mr1 hM1 hR1 => q_taken_no hM1 hR1.1.1 o.1.1 g)
theorem p_count {W : aXt × Value} {w : Int32} : PR W 96 208 [.int w] := by
  intro m ml mr hI
  obtain ⟨hM, A, T, X, B, K, H, hC, hR, o⟩ := hI
  have h6 := o.2.2.1
  have hR6 : X.2.1 < 6 := Nat.lt_of_lt_of_le h6.2 h6.1
  have z := c_count (X := W) (ml := ml) hM hC.1.1 o.1.1 (tx_mem hR6) hC.2.2.1.2.1 (hC.2.2.1.2.2.2 _ h6.2) (w := w)
  rw [hC.2.1.tv X, ryN_cg (g := fun p => mnG (tV T X) (A.2 p)) (fun p hp => by rw [hC.1.2 p hp]), smF_cg (g := fun p => (A.2 p).2.2.2.1) (fun p hp => by rw [hC.1.2 p hp]), hC.1.1, hC.2.1.2, hC.2.2.1.1, hC.2.2.2.1.1, hC.2.2.1.2.2.1 _ hR6] at z
  refine PR_q hM o hC hR (d2 := 49) (by decide) (by decide) z (fun m1 w1 mr1 hM1 hR1 => ?_)
  have y := r_count (X := W) (ml := w1) hM1 hR1.1.1 o.1.1 (hR1.2.2.1.ru h6) (w := w)
  rw [hR1.2.1.tv X, ryN_cg (g := fun p => mnG (tV T X) (A.2 p)) (fun p hp => by rw [hR1.1.2 p hp]), smF_cg (g := fun p => (A.2 p).2.2.2.1) (fun p hp => by rw [hR1.1.2 p hp]), hR1.1.1, hR1.2.1.2, hR1.2.2.1.1, hR1.2.2.2.1.1, hR1.2.2.1.2.1] at y
  exact y
