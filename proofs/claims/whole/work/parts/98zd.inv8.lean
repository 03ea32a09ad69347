/-! a text: class and reference alike (written by wip/whole/mkinv8.py) -/
theorem byN_cg {f g : Nat → Int32} {n : Nat} (h : ∀ j, j < n → f j = g j) : byN f n = byN g n := by
  unfold byN
  funext x
  by_cases e : x < n
  · rw [if_pos e, if_pos e]; exact h x e
  · rw [if_neg e, if_neg e]
theorem nnB_by {f : Nat → Int32} {n : Nat} (h : nnB f n) : nnB (byN f n) n := fun p hp => by
  unfold byN
  rw [if_pos hp]
  exact h p hp
theorem rtM_o {m : Nat → Nat → Int32} {C n k j : Nat} (h : ¬ (k = 85 ∧ 160 * C ≤ j ∧ j < 160 * C + n ∨ k = 86 ∧ j = C ∨ k = 84 ∧ j = 6)) : rtM m C n k j = m k j := by
  unfold rtM
  rw [aup_o (by omega), aup_o (by omega)]
  unfold acpy
  by_cases e : k = 85
  · rw [if_pos e, if_neg (by omega)]
  · rw [if_neg e]
/-- the texts before, after a reading into slot C -/
theorem rIX.rt {m m' : Nat → Nat → Int32} {X : xS} (h : rIX m X) {n : Nat} (hn : n ≤ 160) (f : frD (rtM m X.1 n) m') : ∀ t, t < X.1 → ∃ n v0, RTX m' t n v0 (X.2.2 t).1 (X.2.2 t).2.1 (X.2.2 t).2.2 := fun t ht => by
  obtain ⟨n1, v0, q⟩ := h.2.2 t ht
  exact ⟨n1, v0, q.fr (fun j hj => (f _ _ (by omega)).trans (rtM_o (by omega))) ((f _ _ (by omega)).trans (rtM_o (by omega)))⟩
theorem rt_off {m m' : Nat → Nat → Int32} {C n : Nat} (f : frD (rtM m C n) m') : ∀ k j, ¬ (k = 85 ∨ k = 86 ∨ k = 84 ∧ (j = 6 ∨ 19 ≤ j ∧ j ≤ 27)) → m' k j = m k j := fun k j z => (f k j (by omega)).trans (rtM_o (by omega))
theorem p_text {W : aXt × Value} (hW : outOK W) : PR W 74 171 [] := by
  intro m ml mr hI
  have hI0 := hI
  obtain ⟨hM, A, T, X, B, K, H, hC, hR, o⟩ := hI
  have h6 := o.2.2.1
  have hR6 : X.2.1 < 6 := Nat.lt_of_lt_of_le h6.2 h6.1
  by_cases c6 : X.1 = 6
  · exact PR_s hI0 (d := 52) (d2 := 2) (by decide) (by decide) (c_text_full (X := W) (ml := ml) hM hC.2.2.1.1 c6) (sm_qR (r_text_full hM (hR.2.2.1.1.trans (by rw [c6]; rfl))))
  have hc : X.1 < 6 := Nat.lt_of_le_of_ne h6.1 c6
  have hn := o.2.2.2.1.1
  have hnn : nnB (byN B.2 B.1) B.1 := nnB_by o.2.2.2.1.2
  have eb : byN (m 3) B.1 = byN B.2 B.1 := byN_cg hC.2.2.2.1.2
  have ebr : ∀ m1, RI m1 A T X B K H → byN (m1 87) B.1 = byN B.2 B.1 := fun m1 hR1 => byN_cg hR1.2.2.2.1.2
  generalize hv0 : m 2 6 = v0
  cases hb : (rfF (byN B.2 B.1) B.1 v0).1 with
  | true =>
    have z := c_text_ok (X := W) (ml := ml) hM hn hC.2.2.2.1.1 hW hC.2.2.1.1 hc (by rw [eb, hv0]; exact hb)
    rw [eb, hv0] at z
    have y := fun m1 w1 mr1 (hM1 : MRok mr1) (hR1 : RI m1 A T X B K H) => r_text_ok (X := W) (mi := m1) (ml := w1) (mr := mr1) hM1 hn hR1.2.2.2.1.1 hR1.2.2.1.1 hc (v0 := v0) (by rw [ebr m1 hR1]; exact hnn) (by rw [ebr m1 hR1]; exact hb)
    obtain ⟨_, _, _, _, _, _, _, _, vv, ev⟩ := y m ml mr hM hR
    rw [ebr m hR] at ev
    obtain ⟨_, p_, q_, z_, ⟨d0, b1, _, b3⟩, ⟨d1, b4, _, b6⟩, ⟨d2, b7, _, b9⟩, _⟩ := ev.1 hb
    have e0 : (r1F (byN B.2 B.1) B.1 v0).2.2.2.2.2 = d0 := by rw [b1]; rfl
    have e1 : (r2F (byN B.2 B.1) B.1 v0).2.2.2.2.2 = d0 ++ d1 := by rw [b4, e0]
    have e2 : (r3F (byN B.2 B.1) B.1 v0).2.2.2.2.2 = d0 ++ d1 ++ d2 := by rw [b7, e1]
    have okk : oK A (X.1 + 1, X.2.1, fun t => if t = X.1 then (d0, d1, d2) else X.2.2 t) K := by
      have q := o.2.2.2.2.1
      cases K with
      | none => exact trivial
      | some k => exact ⟨q.1, Nat.lt_succ_of_lt q.2.1, q.2.2⟩
    refine PR_u (v := .int (nI X.1)) (A := A) (T := T) (X := X) (B := B) (K := K) (H := H) (A' := A) (T' := T) (X' := (X.1 + 1, X.2.1, fun t => if t = X.1 then (d0, d1, d2) else X.2.2 t)) (B' := (0, fun _ => 0)) (K' := K) (H' := H) ⟨o.1, o.2.1, ⟨hc, Nat.lt_succ_of_lt h6.2⟩, ⟨Nat.zero_le _, fun p hp => absurd hp (Nat.not_lt_zero p)⟩, okk, o.2.2.2.2.2⟩ (d := 52) (d2 := 43) (by decide) (by decide) (cw_mono z ?_) (fun m1 w1 mr1 hM1 hR1 => cw_mono (y m1 w1 mr1 hM1 hR1) ?_)
    · rintro r h ⟨e, m', e3, f, h20, t1, t2, t3, t4, t5⟩
      have off : ∀ k j, ¬ (k = 2 ∨ k = 4 ∨ k = 5 ∨ k = 6 ∨ k = 11 + 4 * X.1 ∧ j = 4 ∨ k = 12 + 4 * X.1 ∨ k = 13 + 4 * X.1 ∨ k = 0 ∧ j = 1) → aup m' 0 1 (nI (X.1 + 1)) k j = m k j := fun k j z => by
        rw [aup_o (by omega)]
        exact f k j (by omega) (by omega) (by omega) (by omega) (fun _ => ⟨by omega, by omega, by omega⟩)
      refine ⟨e, _, _, _, e3, hM, ⟨hC.1.on o.1.1 (fun k j z => off k j (by unfold uA at z; omega)), hC.2.1.on (fun k j z => off k j (by unfold uT at z; omega)), ?_, ?_, hC.2.2.2.2.1.on (o.2.2.2.2.1.le o.1) (fun k j z => off k j (by unfold uK at z; omega)) rfl, hC.2.2.2.2.2.on (fun k j z => off k j (by unfold uH at z; omega))⟩, hR.lo (fun k j z => off k j (by omega))⟩
      · refine ⟨aup_s, hC.2.2.1.2.1, fun t ht => (off _ _ (by omega)).trans (hC.2.2.1.2.2.1 t ht), fun t ht => ?_⟩
        have ht' : t < X.1 + 1 := ht
        by_cases et : t = X.1
        · subst et
          simp only [if_pos]
          rw [e0, e1, e2] at *
          refine ⟨(aup_o (by omega)).trans t3, (aup_o (by omega)).trans (t4.trans (by rw [List.length_append])), (aup_o (by omega)).trans (t5.trans (by rw [List.length_append, List.length_append])), by rw [← List.length_append, ← List.length_append]; exact t1, fun j hj => (aup_o (by omega)).trans (t2 j (by rw [List.length_append, List.length_append]; exact hj)), b3.2 0 (by decide), b6.2 0 (by decide), b9.2 0 (by decide)⟩
        · simp only [if_neg et]
          exact (hC.2.2.1.2.2.2 t (by omega)).kept (fun j => off _ _ (by omega)) (fun j => off _ _ (by omega))
      · exact ⟨(aup_o (by omega)).trans h20, fun j hj => absurd hj (Nat.not_lt_zero j)⟩
    · rintro r h ⟨e, m', w', e3, f, _⟩
      have off0 := rt_off f
      have off : ∀ k j, ¬ (k = 85 ∨ k = 86 ∨ k = 84 ∧ (j = 3 ∨ j = 6 ∨ 19 ≤ j ∧ j ≤ 27)) → aup m' 84 3 (nI (X.1 + 1)) k j = m1 k j := fun k j z => by
        rw [aup_o (by omega)]
        exact off0 k j (by omega)
      have frx : ∀ {t n v0 c0 c1 c2}, RTX m' t n v0 c0 c1 c2 → RTX (aup m' 84 3 (nI (X.1 + 1))) t n v0 c0 c1 c2 := fun q => q.fr (fun j _ => aup_o (by omega)) (aup_o (by omega))
      refine ⟨e, _, _, e3, fun k j z => off k j (by omega), ⟨hR1.1.on (fun k j z => off k j (by unfold wA at z; omega)), hR1.2.1.on (fun k j z => off k j (by unfold wT at z; omega)), ?_, ?_, hR1.2.2.2.2.1.on (fun k j z => off k j (by unfold wK at z; omega)), hR1.2.2.2.2.2.on (fun k j z => off k j (by unfold wH at z; omega))⟩⟩
      · refine ⟨aup_s, (off _ _ (by omega)).trans hR1.2.2.1.2.1, fun t ht => ?_⟩
        have ht' : t < X.1 + 1 := ht
        by_cases et : t = X.1
        · subst et
          simp only [if_pos]
          refine ⟨B.1, v0, frx ?_⟩
          have q : txB m' X.1 B.1 = byN B.2 B.1 := by
            rw [← ebr m1 hR1, ← rtM_B (C := X.1)]
            unfold txB
            exact byN_cg (fun j _ => f _ _ (by omega))
          refine ⟨hn, (f _ _ (by omega)).trans ?_, ?_⟩
          · unfold rtM
            rw [aup_o (by omega)]
            exact aup_s
          · rw [q]
            exact ⟨hnn, hb, e0, e1, e2⟩
        · simp only [if_neg et]
          obtain ⟨n1, v1, q⟩ := hR1.2.2.1.rt hn f t (by omega)
          exact ⟨n1, v1, frx q⟩
      · refine ⟨(aup_o (by omega)).trans ((f _ _ (by omega)).trans ?_), fun j hj => absurd hj (Nat.not_lt_zero j)⟩
        unfold rtM
        exact aup_s
  | false =>
    have z := c_text_no (X := W) (ml := ml) hM hn hC.2.2.2.1.1 hW hC.2.2.1.1 hc (by rw [eb, hv0]; exact hb)
    rw [eb, hv0] at z
    have y := fun m1 w1 mr1 (hM1 : MRok mr1) (hR1 : RI m1 A T X B K H) => r_text_no (X := W) (mi := m1) (ml := w1) (mr := mr1) hM1 hn hR1.2.2.2.1.1 hR1.2.2.1.1 hc (v0 := v0) (by rw [ebr m1 hR1]; exact hnn) (by rw [ebr m1 hR1]; exact hb)
    refine PR_u (v := .int (-100 - nI (rfF (byN B.2 B.1) B.1 v0).2)) (A := A) (T := T) (X := X) (B := B) (K := K) (H := H) (A' := A) (T' := T) (X' := X) (B' := (0, fun _ => 0)) (K' := K) (H' := H) ⟨o.1, o.2.1, h6, ⟨Nat.zero_le _, fun p hp => absurd hp (Nat.not_lt_zero p)⟩, o.2.2.2.2.1, o.2.2.2.2.2⟩ (d := 52) (d2 := 43) (by decide) (by decide) (cw_mono z ?_) (fun m1 w1 mr1 hM1 hR1 => cw_mono (y m1 w1 mr1 hM1 hR1) ?_)
    · rintro r h ⟨e, m', e3, f, h20⟩
      have off : ∀ k j, ¬ (k = 2 ∨ k = 4 ∨ k = 5 ∨ k = 6) → m' k j = m k j := fun k j z => f k j (by omega) (by omega) (by omega) (by omega) (fun q => Bool.noConfusion q)
      refine ⟨e, _, _, _, e3, hM, ⟨hC.1.on o.1.1 (fun k j z => off k j (by unfold uA at z; omega)), hC.2.1.on (fun k j z => off k j (by unfold uT at z; omega)), hC.2.2.1.on o.2.2.1.1 (fun k j z => off k j (by unfold uX at z; omega)) rfl, ?_, hC.2.2.2.2.1.on (o.2.2.2.2.1.le o.1) (fun k j z => off k j (by unfold uK at z; omega)) rfl, hC.2.2.2.2.2.on (fun k j z => off k j (by unfold uH at z; omega))⟩, hR.lo (fun k j z => off k j (by omega))⟩
      exact ⟨h20, fun j hj => absurd hj (Nat.not_lt_zero j)⟩
    · rintro r h ⟨e, m', w', e3, f⟩
      rw [ebr m1 hR1] at e
      have off := rt_off f
      refine ⟨e, _, _, e3, fun k j z => off k j (by omega), ⟨hR1.1.on (fun k j z => off k j (by unfold wA at z; omega)), hR1.2.1.on (fun k j z => off k j (by unfold wT at z; omega)), ?_, ?_, hR1.2.2.2.2.1.on (fun k j z => off k j (by unfold wK at z; omega)), hR1.2.2.2.2.2.on (fun k j z => off k j (by unfold wH at z; omega))⟩⟩
      · exact ⟨(off _ _ (by omega)).trans hR1.2.2.1.1, (off _ _ (by omega)).trans hR1.2.2.1.2.1, hR1.2.2.1.rt hn f⟩
      · refine ⟨(f _ _ (by omega)).trans ?_, fun j hj => absurd hj (Nat.not_lt_zero j)⟩
        unfold rtM
        exact aup_s
