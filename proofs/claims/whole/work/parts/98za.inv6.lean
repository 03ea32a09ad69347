/-! what is set: class and reference alike (written by wip/whole/mkinv6.py) -/
theorem cIA.p {m m' : Nat → Nat → Int32} {A : lS} (hA : A.1 ≤ 5) (h : cIA m A) {p : Nat} {u : pU} (f : ∀ k j, ¬ (k = 35 + 4 * p ∨ k = 36 + 4 * p) → m' k j = m k j) (hu : puC m' (35 + 4 * p) = u) : cIA m' (A.1, fun q => if q = p then u else A.2 q) := by
  refine ⟨(f 0 5 (by omega)).trans h.1, fun q hq => ?_⟩
  show puC m' (35 + 4 * q) = if q = p then u else A.2 q
  by_cases e : q = p
  · rw [if_pos e, e]; exact hu
  · rw [if_neg e, ← h.2 q hq]
    exact puC_e (funext fun j => f _ _ (by omega)) (funext fun j => f _ _ (by omega))
theorem rIA.p {m m' : Nat → Nat → Int32} {A : lS} (h : rIA m A) {p : Nat} {u : pU} (f : ∀ k j, ¬ (k = 90 ∧ j = p ∨ k = 91 ∧ 10 * p ≤ j ∧ j < 10 * p + 10) → m' k j = m k j) (hu : puR m' p = u) : rIA m' (A.1, fun q => if q = p then u else A.2 q) := by
  refine ⟨(f 84 12 (by omega)).trans h.1, fun q hq => ?_⟩
  show puR m' q = if q = p then u else A.2 q
  by_cases e : q = p
  · rw [if_pos e, e]; exact hu
  · rw [if_neg e, ← h.2 q hq]
    unfold puR
    rw [f 89 q (by omega), f 90 q (by omega), f 91 (10 * q + 8) (by omega), f 91 (10 * q + 9) (by omega)]
    refine Prod.ext rfl (Prod.ext rfl (Prod.ext rfl (Prod.ext rfl ?_)))
    exact c8_cg (fun j hj => f 91 _ (by omega))
theorem pc_1 {m : Nat → Nat → Int32} {P : Nat} {v : Int32} : puC (aup m P 1 v) P = ((puC m P).1, v, (puC m P).2.2) := by
  refine Prod.ext (aup_o (by omega)) (Prod.ext aup_s (Prod.ext (aup_o (by omega)) (Prod.ext (aup_o (by omega)) (c8_cg fun j _ => aup_o (by omega)))))
theorem pc_2 {m : Nat → Nat → Int32} {P : Nat} {v : Int32} : puC (aup m P 2 v) P = ((puC m P).1, (puC m P).2.1, v, (puC m P).2.2.2) := by
  refine Prod.ext (aup_o (by omega)) (Prod.ext (aup_o (by omega)) (Prod.ext aup_s (Prod.ext (aup_o (by omega)) (c8_cg fun j _ => aup_o (by omega)))))
theorem pc_3 {m : Nat → Nat → Int32} {P : Nat} {v : Int32} : puC (aup m P 3 v) P = ((puC m P).1, (puC m P).2.1, (puC m P).2.2.1, v, (puC m P).2.2.2.2) := by
  refine Prod.ext (aup_o (by omega)) (Prod.ext (aup_o (by omega)) (Prod.ext (aup_o (by omega)) (Prod.ext aup_s (c8_cg fun j _ => aup_o (by omega)))))
theorem pc_s {m : Nat → Nat → Int32} {P k : Nat} (hk : k < 8) {v : Int32} : puC (aup m (P + 1) k v) P = ((puC m P).1, (puC m P).2.1, (puC m P).2.2.1, (puC m P).2.2.2.1, fun j => if j = k then v else (puC m P).2.2.2.2 j) := by
  refine Prod.ext (aup_o (by omega)) (Prod.ext (aup_o (by omega)) (Prod.ext (aup_o (by omega)) (Prod.ext (aup_o (by omega)) (funext fun j => ?_))))
  show c8 (aup m (P + 1) k v (P + 1)) j = if j = k then v else c8 (m (P + 1)) j
  by_cases e : j = k
  · subst e; rw [if_pos rfl, c8_lt hk]; exact aup_s
  · rw [if_neg e]
    unfold c8
    by_cases hj : j < 8
    · rw [if_pos hj, if_pos hj]; exact aup_o (by omega)
    · rw [if_neg hj, if_neg hj]
theorem pr_1 {m : Nat → Nat → Int32} {p : Nat} {v : Int32} : puR (aup m 90 p v) p = ((puR m p).1, v, (puR m p).2.2) := by
  refine Prod.ext ?_ (Prod.ext ?_ (Prod.ext ?_ (Prod.ext ?_ ?_)))
  · show aup m 90 p v 89 p = m 89 p
    exact aup_o (by omega)
  · show aup m 90 p v 90 p = v
    exact aup_s
  · show aup m 90 p v 91 (10 * p + 8) = m 91 (10 * p + 8)
    exact aup_o (by omega)
  · show aup m 90 p v 91 (10 * p + 9) = m 91 (10 * p + 9)
    exact aup_o (by omega)
  · show c8 (fun j => aup m 90 p v 91 (10 * p + j)) = c8 (fun j => m 91 (10 * p + j))
    exact c8_cg fun j _ => aup_o (by omega)
theorem pr_2 {m : Nat → Nat → Int32} {p : Nat} {v : Int32} : puR (aup m 91 (10 * p + 8) v) p = ((puR m p).1, (puR m p).2.1, v, (puR m p).2.2.2) := by
  refine Prod.ext ?_ (Prod.ext ?_ (Prod.ext ?_ (Prod.ext ?_ ?_)))
  · show aup m 91 (10 * p + 8) v 89 p = m 89 p
    exact aup_o (by omega)
  · show aup m 91 (10 * p + 8) v 90 p = m 90 p
    exact aup_o (by omega)
  · show aup m 91 (10 * p + 8) v 91 (10 * p + 8) = v
    exact aup_s
  · show aup m 91 (10 * p + 8) v 91 (10 * p + 9) = m 91 (10 * p + 9)
    exact aup_o (by omega)
  · show c8 (fun j => aup m 91 (10 * p + 8) v 91 (10 * p + j)) = c8 (fun j => m 91 (10 * p + j))
    exact c8_cg fun j _ => aup_o (by omega)
theorem pr_3 {m : Nat → Nat → Int32} {p : Nat} {v : Int32} : puR (aup m 91 (10 * p + 9) v) p = ((puR m p).1, (puR m p).2.1, (puR m p).2.2.1, v, (puR m p).2.2.2.2) := by
  refine Prod.ext ?_ (Prod.ext ?_ (Prod.ext ?_ (Prod.ext ?_ ?_)))
  · show aup m 91 (10 * p + 9) v 89 p = m 89 p
    exact aup_o (by omega)
  · show aup m 91 (10 * p + 9) v 90 p = m 90 p
    exact aup_o (by omega)
  · show aup m 91 (10 * p + 9) v 91 (10 * p + 8) = m 91 (10 * p + 8)
    exact aup_o (by omega)
  · show aup m 91 (10 * p + 9) v 91 (10 * p + 9) = v
    exact aup_s
  · show c8 (fun j => aup m 91 (10 * p + 9) v 91 (10 * p + j)) = c8 (fun j => m 91 (10 * p + j))
    exact c8_cg fun j _ => aup_o (by omega)
theorem pr_s {m : Nat → Nat → Int32} {p k : Nat} (hk : k < 8) {v : Int32} : puR (aup m 91 (10 * p + k) v) p = ((puR m p).1, (puR m p).2.1, (puR m p).2.2.1, (puR m p).2.2.2.1, fun j => if j = k then v else (puR m p).2.2.2.2 j) := st_pu (frY.rf m) hk v
theorem ok_s {u : pU} {k : Nat} {v : Int32} (h : okU u) (hv : inR 0 99 v) : okU (u.1, u.2.1, u.2.2.1, u.2.2.2.1, fun j => if j = k then v else u.2.2.2.2 j) := ⟨h.1, h.2.1, h.2.2.1, h.2.2.2.1, fun j hj => by
  show inR 0 99 (if j = k then v else u.2.2.2.2 j)
  by_cases e : j = k
  · rw [if_pos e]; exact hv
  · rw [if_neg e]; exact h.2.2.2.2 j hj⟩
theorem p_set_2 {W : aXt × Value} {of v : Int32} : PR W 66 120 [.int 2, .int of, .int v] := by
  intro m ml mr hI
  have hI0 := hI
  obtain ⟨hM, A, T, X, B, K, H, hC, hR, o⟩ := hI
  have h6 := o.2.2.1
  have hR6 : X.2.1 < 6 := Nat.lt_of_lt_of_le h6.2 h6.1
  by_cases g : aixn of A.1 = true
  · have z := c_set_ok (X := W) (ml := ml) hM hC.1.1 o.1.1 (w := 2) (v := v) ⟨by decide, by decide⟩ g
    obtain ⟨p, rfl, hp⟩ := one_p g
    have hp5 : p < 5 := Nat.lt_of_lt_of_le hp o.1.1
    have k := o.1.2 p hp
    have kc : okU (puC m (35 + 4 * p)) := by rw [hC.1.2 p hp]; exact k
    rw [pAt_p hp5, puV_2 (t := tV T X) kc, puM_2 kc, hC.1.2 p hp] at z
    have y := fun m1 w1 mr1 (hM1 : MRok mr1) (hR1 : RI m1 A T X B K H) => r_set_2p (X := W) (mi := m1) (ml := w1) hM1 hR1.1.1 o.1.1 (hR1.2.2.1.ru h6) hp (by rw [hR1.1.2 p hp]; exact k) (v := v)
    by_cases b : inR 0 9 v
    · rw [if_pos b, if_pos b] at z
      refine PR_u (v := .int (toG (tV T X) (A.2 p) 2)) (A := A) (T := T) (X := X) (B := B) (K := K) (H := H) (A' := (A.1, fun q => if q = p then ((A.2 p).1, v, (A.2 p).2.2) else A.2 q)) (T' := T) (X' := X) (B' := B) (K' := K) (H' := H) ⟨o.1.p (⟨k.1, b, k.2.2⟩), o.2.1, o.2.2.1, o.2.2.2.1, o.2.2.2.2.1.A rfl (fun q _ => ?_), o.2.2.2.2.2⟩ (d := 4) (d2 := 49) (by decide) (by decide) (cw_mono z ?_) (fun m1 w1 mr1 hM1 hR1 => cw_mono (y m1 w1 mr1 hM1 hR1) ?_)
      · show (if q = p then _ else A.2 q).1 = (A.2 q).1
        by_cases e : q = p
        · rw [if_pos e, e]
        · rw [if_neg e]
      · rintro r h ⟨e, e2⟩
        have off : ∀ k j, ¬ (k = 35 + 4 * p ∨ k = 36 + 4 * p) → (aup m (35 + 4 * p) 1 v) k j = m k j := fun k j z => aup_o (by omega)
        exact ⟨e, _, _, _, e2, hM, ⟨hC.1.p o.1.1 off (by rw [pc_1, hC.1.2 p hp]), hC.2.1.on (fun k j z => off k j (by unfold uT at z; omega)), hC.2.2.1.on o.2.2.1.1 (fun k j z => off k j (by unfold uX at z; omega)) rfl, hC.2.2.2.1.on (fun k j z => off k j (by unfold uB at z; omega)), hC.2.2.2.2.1.on (o.2.2.2.2.1.le o.1) (fun k j z => off k j (by unfold uK at z; omega)) rfl, hC.2.2.2.2.2.on (fun k j z => off k j (by unfold uH at z; omega))⟩, hR.lo (fun k j z => off k j (by omega))⟩
      · rintro r h ⟨e, m', w', e2, f⟩
        rw [if_pos b, hR1.2.1.tv X, hR1.1.2 p hp] at e
        rw [if_pos b] at e2
        have i2 := hR1.Q f
        have off : ∀ k j, ¬ (k = 90 ∧ j = p ∨ k = 91 ∧ 10 * p ≤ j ∧ j < 10 * p + 10) → (aup m' 90 p v) k j = m' k j := fun k j z => aup_o (by omega)
        exact ⟨e, _, _, e2, fun k j z => (off k j (by omega)).trans (f k j (by omega) (by omega) (by omega)), ⟨i2.1.p off (by rw [pr_1, i2.1.2 p hp]), i2.2.1.on (fun k j z => off k j (by unfold wT at z; omega)), i2.2.2.1.on (fun k j z => off k j (by unfold wX at z; omega)), i2.2.2.2.1.on (fun k j z => off k j (by unfold wB at z; omega)), i2.2.2.2.2.1.on (fun k j z => off k j (by unfold wK at z; omega)), i2.2.2.2.2.2.on (fun k j z => off k j (by unfold wH at z; omega))⟩⟩
    · rw [if_neg b, if_neg b] at z
      refine PR_s hI0 (d := 4) (d2 := 49) (by decide) (by decide) z (cw_mono (y m ml mr hM hR) ?_)
      rintro r h ⟨e, m', w', e2, f⟩
      rw [if_neg b] at e e2
      exact ⟨e, _, _, e2, f⟩
  · exact PR_s hI0 (d := 4) (d2 := 4) (by decide) (by decide) (c_set_no (X := W) (ml := ml) hM hC.1.1 o.1.1 ⟨by decide, by decide⟩ g) (sm_qR (r_set_no hM hR.1.1 o.1.1 g ⟨by decide, by decide⟩))
theorem p_set_3 {W : aXt × Value} {of v : Int32} : PR W 66 120 [.int 3, .int of, .int v] := by
  intro m ml mr hI
  have hI0 := hI
  obtain ⟨hM, A, T, X, B, K, H, hC, hR, o⟩ := hI
  have h6 := o.2.2.1
  have hR6 : X.2.1 < 6 := Nat.lt_of_lt_of_le h6.2 h6.1
  by_cases g : aixn of A.1 = true
  · have z := c_set_ok (X := W) (ml := ml) hM hC.1.1 o.1.1 (w := 3) (v := v) ⟨by decide, by decide⟩ g
    obtain ⟨p, rfl, hp⟩ := one_p g
    have hp5 : p < 5 := Nat.lt_of_lt_of_le hp o.1.1
    have k := o.1.2 p hp
    have kc : okU (puC m (35 + 4 * p)) := by rw [hC.1.2 p hp]; exact k
    rw [pAt_p hp5, puV_3 (t := tV T X) kc, puM_3 kc, hC.1.2 p hp] at z
    have y := fun m1 w1 mr1 (hM1 : MRok mr1) (hR1 : RI m1 A T X B K H) => r_set_3p (X := W) (mi := m1) (ml := w1) hM1 hR1.1.1 o.1.1 (hR1.2.2.1.ru h6) hp (by rw [hR1.1.2 p hp]; exact k) (v := v)
    by_cases b : inR 0 99 v
    · rw [if_pos b, if_pos b] at z
      refine PR_u (v := .int (toG (tV T X) (A.2 p) 3)) (A := A) (T := T) (X := X) (B := B) (K := K) (H := H) (A' := (A.1, fun q => if q = p then ((A.2 p).1, (A.2 p).2.1, v, (A.2 p).2.2.2) else A.2 q)) (T' := T) (X' := X) (B' := B) (K' := K) (H' := H) ⟨o.1.p (⟨k.1, k.2.1, b, k.2.2.2⟩), o.2.1, o.2.2.1, o.2.2.2.1, o.2.2.2.2.1.A rfl (fun q _ => ?_), o.2.2.2.2.2⟩ (d := 4) (d2 := 49) (by decide) (by decide) (cw_mono z ?_) (fun m1 w1 mr1 hM1 hR1 => cw_mono (y m1 w1 mr1 hM1 hR1) ?_)
      · show (if q = p then _ else A.2 q).1 = (A.2 q).1
        by_cases e : q = p
        · rw [if_pos e, e]
        · rw [if_neg e]
      · rintro r h ⟨e, e2⟩
        have off : ∀ k j, ¬ (k = 35 + 4 * p ∨ k = 36 + 4 * p) → (aup m (35 + 4 * p) 2 v) k j = m k j := fun k j z => aup_o (by omega)
        exact ⟨e, _, _, _, e2, hM, ⟨hC.1.p o.1.1 off (by rw [pc_2, hC.1.2 p hp]), hC.2.1.on (fun k j z => off k j (by unfold uT at z; omega)), hC.2.2.1.on o.2.2.1.1 (fun k j z => off k j (by unfold uX at z; omega)) rfl, hC.2.2.2.1.on (fun k j z => off k j (by unfold uB at z; omega)), hC.2.2.2.2.1.on (o.2.2.2.2.1.le o.1) (fun k j z => off k j (by unfold uK at z; omega)) rfl, hC.2.2.2.2.2.on (fun k j z => off k j (by unfold uH at z; omega))⟩, hR.lo (fun k j z => off k j (by omega))⟩
      · rintro r h ⟨e, m', w', e2, f⟩
        rw [if_pos b, hR1.2.1.tv X, hR1.1.2 p hp] at e
        rw [if_pos b] at e2
        have i2 := hR1.Q f
        have off : ∀ k j, ¬ (k = 90 ∧ j = p ∨ k = 91 ∧ 10 * p ≤ j ∧ j < 10 * p + 10) → (aup m' 91 (10 * p + 8) v) k j = m' k j := fun k j z => aup_o (by omega)
        exact ⟨e, _, _, e2, fun k j z => (off k j (by omega)).trans (f k j (by omega) (by omega) (by omega)), ⟨i2.1.p off (by rw [pr_2, i2.1.2 p hp]), i2.2.1.on (fun k j z => off k j (by unfold wT at z; omega)), i2.2.2.1.on (fun k j z => off k j (by unfold wX at z; omega)), i2.2.2.2.1.on (fun k j z => off k j (by unfold wB at z; omega)), i2.2.2.2.2.1.on (fun k j z => off k j (by unfold wK at z; omega)), i2.2.2.2.2.2.on (fun k j z => off k j (by unfold wH at z; omega))⟩⟩
    · rw [if_neg b, if_neg b] at z
      refine PR_s hI0 (d := 4) (d2 := 49) (by decide) (by decide) z (cw_mono (y m ml mr hM hR) ?_)
      rintro r h ⟨e, m', w', e2, f⟩
      rw [if_neg b] at e e2
      exact ⟨e, _, _, e2, f⟩
  · exact PR_s hI0 (d := 4) (d2 := 4) (by decide) (by decide) (c_set_no (X := W) (ml := ml) hM hC.1.1 o.1.1 ⟨by decide, by decide⟩ g) (sm_qR (r_set_no hM hR.1.1 o.1.1 g ⟨by decide, by decide⟩))
theorem p_set_4 {W : aXt × Value} {of v : Int32} : PR W 66 120 [.int 4, .int of, .int v] := by
  intro m ml mr hI
  have hI0 := hI
  obtain ⟨hM, A, T, X, B, K, H, hC, hR, o⟩ := hI
  have h6 := o.2.2.1
  have hR6 : X.2.1 < 6 := Nat.lt_of_lt_of_le h6.2 h6.1
  by_cases g : aixn of A.1 = true
  · have z := c_set_ok (X := W) (ml := ml) hM hC.1.1 o.1.1 (w := 4) (v := v) ⟨by decide, by decide⟩ g
    obtain ⟨p, rfl, hp⟩ := one_p g
    have hp5 : p < 5 := Nat.lt_of_lt_of_le hp o.1.1
    have k := o.1.2 p hp
    have kc : okU (puC m (35 + 4 * p)) := by rw [hC.1.2 p hp]; exact k
    rw [pAt_p hp5, puV_4 (t := tV T X) kc, puM_4 kc, hC.1.2 p hp] at z
    have y := fun m1 w1 mr1 (hM1 : MRok mr1) (hR1 : RI m1 A T X B K H) => r_set_4p (X := W) (mi := m1) (ml := w1) hM1 hR1.1.1 o.1.1 (hR1.2.2.1.ru h6) hp (by rw [hR1.1.2 p hp]; exact k) (v := v)
    by_cases b : inR 0 999 v
    · rw [if_pos b, if_pos b] at z
      refine PR_u (v := .int (toG (tV T X) (A.2 p) 4)) (A := A) (T := T) (X := X) (B := B) (K := K) (H := H) (A' := (A.1, fun q => if q = p then ((A.2 p).1, (A.2 p).2.1, (A.2 p).2.2.1, v, (A.2 p).2.2.2.2) else A.2 q)) (T' := T) (X' := X) (B' := B) (K' := K) (H' := H) ⟨o.1.p (⟨k.1, k.2.1, k.2.2.1, b, k.2.2.2.2⟩), o.2.1, o.2.2.1, o.2.2.2.1, o.2.2.2.2.1.A rfl (fun q _ => ?_), o.2.2.2.2.2⟩ (d := 4) (d2 := 49) (by decide) (by decide) (cw_mono z ?_) (fun m1 w1 mr1 hM1 hR1 => cw_mono (y m1 w1 mr1 hM1 hR1) ?_)
      · show (if q = p then _ else A.2 q).1 = (A.2 q).1
        by_cases e : q = p
        · rw [if_pos e, e]
        · rw [if_neg e]
      · rintro r h ⟨e, e2⟩
        have off : ∀ k j, ¬ (k = 35 + 4 * p ∨ k = 36 + 4 * p) → (aup m (35 + 4 * p) 3 v) k j = m k j := fun k j z => aup_o (by omega)
        exact ⟨e, _, _, _, e2, hM, ⟨hC.1.p o.1.1 off (by rw [pc_3, hC.1.2 p hp]), hC.2.1.on (fun k j z => off k j (by unfold uT at z; omega)), hC.2.2.1.on o.2.2.1.1 (fun k j z => off k j (by unfold uX at z; omega)) rfl, hC.2.2.2.1.on (fun k j z => off k j (by unfold uB at z; omega)), hC.2.2.2.2.1.on (o.2.2.2.2.1.le o.1) (fun k j z => off k j (by unfold uK at z; omega)) rfl, hC.2.2.2.2.2.on (fun k j z => off k j (by unfold uH at z; omega))⟩, hR.lo (fun k j z => off k j (by omega))⟩
      · rintro r h ⟨e, m', w', e2, f⟩
        rw [if_pos b, hR1.2.1.tv X, hR1.1.2 p hp] at e
        rw [if_pos b] at e2
        have i2 := hR1.Q f
        have off : ∀ k j, ¬ (k = 90 ∧ j = p ∨ k = 91 ∧ 10 * p ≤ j ∧ j < 10 * p + 10) → (aup m' 91 (10 * p + 9) v) k j = m' k j := fun k j z => aup_o (by omega)
        exact ⟨e, _, _, e2, fun k j z => (off k j (by omega)).trans (f k j (by omega) (by omega) (by omega)), ⟨i2.1.p off (by rw [pr_3, i2.1.2 p hp]), i2.2.1.on (fun k j z => off k j (by unfold wT at z; omega)), i2.2.2.1.on (fun k j z => off k j (by unfold wX at z; omega)), i2.2.2.2.1.on (fun k j z => off k j (by unfold wB at z; omega)), i2.2.2.2.2.1.on (fun k j z => off k j (by unfold wK at z; omega)), i2.2.2.2.2.2.on (fun k j z => off k j (by unfold wH at z; omega))⟩⟩
    · rw [if_neg b, if_neg b] at z
      refine PR_s hI0 (d := 4) (d2 := 49) (by decide) (by decide) z (cw_mono (y m ml mr hM hR) ?_)
      rintro r h ⟨e, m', w', e2, f⟩
      rw [if_neg b] at e e2
      exact ⟨e, _, _, e2, f⟩
  · exact PR_s hI0 (d := 4) (d2 := 4) (by decide) (by decide) (c_set_no (X := W) (ml := ml) hM hC.1.1 o.1.1 ⟨by decide, by decide⟩ g) (sm_qR (r_set_no hM hR.1.1 o.1.1 g ⟨by decide, by decide⟩))
theorem p_set_10 {W : aXt × Value} {of v : Int32} : PR W 66 120 [.int 10, .int of, .int v] := by
  intro m ml mr hI
  have hI0 := hI
  obtain ⟨hM, A, T, X, B, K, H, hC, hR, o⟩ := hI
  have h6 := o.2.2.1
  have hR6 : X.2.1 < 6 := Nat.lt_of_lt_of_le h6.2 h6.1
  by_cases g : aixn of A.1 = true
  · have z := c_set_ok (X := W) (ml := ml) hM hC.1.1 o.1.1 (w := 10) (v := v) ⟨by decide, by decide⟩ g
    obtain ⟨p, rfl, hp⟩ := one_p g
    have hp5 : p < 5 := Nat.lt_of_lt_of_le hp o.1.1
    have k := o.1.2 p hp
    have kc : okU (puC m (35 + 4 * p)) := by rw [hC.1.2 p hp]; exact k
    rw [pAt_p hp5, puV_10 (t := tV T X) kc, puM_10 kc, hC.1.2 p hp] at z
    have y := fun m1 w1 mr1 (hM1 : MRok mr1) (hR1 : RI m1 A T X B K H) => r_set_10p (X := W) (mi := m1) (ml := w1) hM1 hR1.1.1 o.1.1 (hR1.2.2.1.ru h6) hp (by rw [hR1.1.2 p hp]; exact k) (v := v)
    by_cases b : inR 0 99 v
    · rw [if_pos b, if_pos b] at z
      refine PR_u (v := .int (toG (tV T X) (A.2 p) 10)) (A := A) (T := T) (X := X) (B := B) (K := K) (H := H) (A' := (A.1, fun q => if q = p then ((A.2 p).1, (A.2 p).2.1, (A.2 p).2.2.1, (A.2 p).2.2.2.1, fun j => if j = 0 then v else (A.2 p).2.2.2.2 j) else A.2 q)) (T' := T) (X' := X) (B' := B) (K' := K) (H' := H) ⟨o.1.p (ok_s k b), o.2.1, o.2.2.1, o.2.2.2.1, o.2.2.2.2.1.A rfl (fun q _ => ?_), o.2.2.2.2.2⟩ (d := 4) (d2 := 49) (by decide) (by decide) (cw_mono z ?_) (fun m1 w1 mr1 hM1 hR1 => cw_mono (y m1 w1 mr1 hM1 hR1) ?_)
      · show (if q = p then _ else A.2 q).1 = (A.2 q).1
        by_cases e : q = p
        · rw [if_pos e, e]
        · rw [if_neg e]
      · rintro r h ⟨e, e2⟩
        have off : ∀ k j, ¬ (k = 35 + 4 * p ∨ k = 36 + 4 * p) → (aup m (35 + 4 * p + 1) 0 v) k j = m k j := fun k j z => aup_o (by omega)
        exact ⟨e, _, _, _, e2, hM, ⟨hC.1.p o.1.1 off (by rw [pc_s (by decide), hC.1.2 p hp]), hC.2.1.on (fun k j z => off k j (by unfold uT at z; omega)), hC.2.2.1.on o.2.2.1.1 (fun k j z => off k j (by unfold uX at z; omega)) rfl, hC.2.2.2.1.on (fun k j z => off k j (by unfold uB at z; omega)), hC.2.2.2.2.1.on (o.2.2.2.2.1.le o.1) (fun k j z => off k j (by unfold uK at z; omega)) rfl, hC.2.2.2.2.2.on (fun k j z => off k j (by unfold uH at z; omega))⟩, hR.lo (fun k j z => off k j (by omega))⟩
      · rintro r h ⟨e, m', w', e2, f⟩
        rw [if_pos b, hR1.2.1.tv X, hR1.1.2 p hp] at e
        rw [if_pos b] at e2
        have i2 := hR1.Q f
        have off : ∀ k j, ¬ (k = 90 ∧ j = p ∨ k = 91 ∧ 10 * p ≤ j ∧ j < 10 * p + 10) → (aup m' 91 (10 * p + 0) v) k j = m' k j := fun k j z => aup_o (by omega)
        exact ⟨e, _, _, e2, fun k j z => (off k j (by omega)).trans (f k j (by omega) (by omega) (by omega)), ⟨i2.1.p off (by rw [pr_s (by decide), i2.1.2 p hp]), i2.2.1.on (fun k j z => off k j (by unfold wT at z; omega)), i2.2.2.1.on (fun k j z => off k j (by unfold wX at z; omega)), i2.2.2.2.1.on (fun k j z => off k j (by unfold wB at z; omega)), i2.2.2.2.2.1.on (fun k j z => off k j (by unfold wK at z; omega)), i2.2.2.2.2.2.on (fun k j z => off k j (by unfold wH at z; omega))⟩⟩
    · rw [if_neg b, if_neg b] at z
      refine PR_s hI0 (d := 4) (d2 := 49) (by decide) (by decide) z (cw_mono (y m ml mr hM hR) ?_)
      rintro r h ⟨e, m', w', e2, f⟩
      rw [if_neg b] at e e2
      exact ⟨e, _, _, e2, f⟩
  · exact PR_s hI0 (d := 4) (d2 := 4) (by decide) (by decide) (c_set_no (X := W) (ml := ml) hM hC.1.1 o.1.1 ⟨by decide, by decide⟩ g) (sm_qR (r_set_no hM hR.1.1 o.1.1 g ⟨by decide, by decide⟩))
theorem p_set_11 {W : aXt × Value} {of v : Int32} : PR W 66 120 [.int 11, .int of, .int v] := by
  intro m ml mr hI
  have hI0 := hI
  obtain ⟨hM, A, T, X, B, K, H, hC, hR, o⟩ := hI
  have h6 := o.2.2.1
  have hR6 : X.2.1 < 6 := Nat.lt_of_lt_of_le h6.2 h6.1
  by_cases g : aixn of A.1 = true
  · have z := c_set_ok (X := W) (ml := ml) hM hC.1.1 o.1.1 (w := 11) (v := v) ⟨by decide, by decide⟩ g
    obtain ⟨p, rfl, hp⟩ := one_p g
    have hp5 : p < 5 := Nat.lt_of_lt_of_le hp o.1.1
    have k := o.1.2 p hp
    have kc : okU (puC m (35 + 4 * p)) := by rw [hC.1.2 p hp]; exact k
    rw [pAt_p hp5, puV_11 (t := tV T X) kc, puM_11 kc, hC.1.2 p hp] at z
    have y := fun m1 w1 mr1 (hM1 : MRok mr1) (hR1 : RI m1 A T X B K H) => r_set_11p (X := W) (mi := m1) (ml := w1) hM1 hR1.1.1 o.1.1 (hR1.2.2.1.ru h6) hp (by rw [hR1.1.2 p hp]; exact k) (v := v)
    by_cases b : inR 0 99 v
    · rw [if_pos b, if_pos b] at z
      refine PR_u (v := .int (toG (tV T X) (A.2 p) 11)) (A := A) (T := T) (X := X) (B := B) (K := K) (H := H) (A' := (A.1, fun q => if q = p then ((A.2 p).1, (A.2 p).2.1, (A.2 p).2.2.1, (A.2 p).2.2.2.1, fun j => if j = 1 then v else (A.2 p).2.2.2.2 j) else A.2 q)) (T' := T) (X' := X) (B' := B) (K' := K) (H' := H) ⟨o.1.p (ok_s k b), o.2.1, o.2.2.1, o.2.2.2.1, o.2.2.2.2.1.A rfl (fun q _ => ?_), o.2.2.2.2.2⟩ (d := 4) (d2 := 49) (by decide) (by decide) (cw_mono z ?_) (fun m1 w1 mr1 hM1 hR1 => cw_mono (y m1 w1 mr1 hM1 hR1) ?_)
      · show (if q = p then _ else A.2 q).1 = (A.2 q).1
        by_cases e : q = p
        · rw [if_pos e, e]
        · rw [if_neg e]
      · rintro r h ⟨e, e2⟩
        have off : ∀ k j, ¬ (k = 35 + 4 * p ∨ k = 36 + 4 * p) → (aup m (35 + 4 * p + 1) 1 v) k j = m k j := fun k j z => aup_o (by omega)
        exact ⟨e, _, _, _, e2, hM, ⟨hC.1.p o.1.1 off (by rw [pc_s (by decide), hC.1.2 p hp]), hC.2.1.on (fun k j z => off k j (by unfold uT at z; omega)), hC.2.2.1.on o.2.2.1.1 (fun k j z => off k j (by unfold uX at z; omega)) rfl, hC.2.2.2.1.on (fun k j z => off k j (by unfold uB at z; omega)), hC.2.2.2.2.1.on (o.2.2.2.2.1.le o.1) (fun k j z => off k j (by unfold uK at z; omega)) rfl, hC.2.2.2.2.2.on (fun k j z => off k j (by unfold uH at z; omega))⟩, hR.lo (fun k j z => off k j (by omega))⟩
      · rintro r h ⟨e, m', w', e2, f⟩
        rw [if_pos b, hR1.2.1.tv X, hR1.1.2 p hp] at e
        rw [if_pos b] at e2
        have i2 := hR1.Q f
        have off : ∀ k j, ¬ (k = 90 ∧ j = p ∨ k = 91 ∧ 10 * p ≤ j ∧ j < 10 * p + 10) → (aup m' 91 (10 * p + 1) v) k j = m' k j := fun k j z => aup_o (by omega)
        exact ⟨e, _, _, e2, fun k j z => (off k j (by omega)).trans (f k j (by omega) (by omega) (by omega)), ⟨i2.1.p off (by rw [pr_s (by decide), i2.1.2 p hp]), i2.2.1.on (fun k j z => off k j (by unfold wT at z; omega)), i2.2.2.1.on (fun k j z => off k j (by unfold wX at z; omega)), i2.2.2.2.1.on (fun k j z => off k j (by unfold wB at z; omega)), i2.2.2.2.2.1.on (fun k j z => off k j (by unfold wK at z; omega)), i2.2.2.2.2.2.on (fun k j z => off k j (by unfold wH at z; omega))⟩⟩
    · rw [if_neg b, if_neg b] at z
      refine PR_s hI0 (d := 4) (d2 := 49) (by decide) (by decide) z (cw_mono (y m ml mr hM hR) ?_)
      rintro r h ⟨e, m', w', e2, f⟩
      rw [if_neg b] at e e2
      exact ⟨e, _, _, e2, f⟩
  · exact PR_s hI0 (d := 4) (d2 := 4) (by decide) (by decide) (c_set_no (X := W) (ml := ml) hM hC.1.1 o.1.1 ⟨by decide, by decide⟩ g) (sm_qR (r_set_no hM hR.1.1 o.1.1 g ⟨by decide, by decide⟩))
theorem p_set_12 {W : aXt × Value} {of v : Int32} : PR W 66 120 [.int 12, .int of, .int v] := by
  intro m ml mr hI
  have hI0 := hI
  obtain ⟨hM, A, T, X, B, K, H, hC, hR, o⟩ := hI
  have h6 := o.2.2.1
  have hR6 : X.2.1 < 6 := Nat.lt_of_lt_of_le h6.2 h6.1
  by_cases g : aixn of A.1 = true
  · have z := c_set_ok (X := W) (ml := ml) hM hC.1.1 o.1.1 (w := 12) (v := v) ⟨by decide, by decide⟩ g
    obtain ⟨p, rfl, hp⟩ := one_p g
    have hp5 : p < 5 := Nat.lt_of_lt_of_le hp o.1.1
    have k := o.1.2 p hp
    have kc : okU (puC m (35 + 4 * p)) := by rw [hC.1.2 p hp]; exact k
    rw [pAt_p hp5, puV_12 (t := tV T X) kc, puM_12 kc, hC.1.2 p hp] at z
    have y := fun m1 w1 mr1 (hM1 : MRok mr1) (hR1 : RI m1 A T X B K H) => r_set_12p (X := W) (mi := m1) (ml := w1) hM1 hR1.1.1 o.1.1 (hR1.2.2.1.ru h6) hp (by rw [hR1.1.2 p hp]; exact k) (v := v)
    by_cases b : inR 0 99 v
    · rw [if_pos b, if_pos b] at z
      refine PR_u (v := .int (toG (tV T X) (A.2 p) 12)) (A := A) (T := T) (X := X) (B := B) (K := K) (H := H) (A' := (A.1, fun q => if q = p then ((A.2 p).1, (A.2 p).2.1, (A.2 p).2.2.1, (A.2 p).2.2.2.1, fun j => if j = 2 then v else (A.2 p).2.2.2.2 j) else A.2 q)) (T' := T) (X' := X) (B' := B) (K' := K) (H' := H) ⟨o.1.p (ok_s k b), o.2.1, o.2.2.1, o.2.2.2.1, o.2.2.2.2.1.A rfl (fun q _ => ?_), o.2.2.2.2.2⟩ (d := 4) (d2 := 49) (by decide) (by decide) (cw_mono z ?_) (fun m1 w1 mr1 hM1 hR1 => cw_mono (y m1 w1 mr1 hM1 hR1) ?_)
      · show (if q = p then _ else A.2 q).1 = (A.2 q).1
        by_cases e : q = p
        · rw [if_pos e, e]
        · rw [if_neg e]
      · rintro r h ⟨e, e2⟩
        have off : ∀ k j, ¬ (k = 35 + 4 * p ∨ k = 36 + 4 * p) → (aup m (35 + 4 * p + 1) 2 v) k j = m k j := fun k j z => aup_o (by omega)
        exact ⟨e, _, _, _, e2, hM, ⟨hC.1.p o.1.1 off (by rw [pc_s (by decide), hC.1.2 p hp]), hC.2.1.on (fun k j z => off k j (by unfold uT at z; omega)), hC.2.2.1.on o.2.2.1.1 (fun k j z => off k j (by unfold uX at z; omega)) rfl, hC.2.2.2.1.on (fun k j z => off k j (by unfold uB at z; omega)), hC.2.2.2.2.1.on (o.2.2.2.2.1.le o.1) (fun k j z => off k j (by unfold uK at z; omega)) rfl, hC.2.2.2.2.2.on (fun k j z => off k j (by unfold uH at z; omega))⟩, hR.lo (fun k j z => off k j (by omega))⟩
      · rintro r h ⟨e, m', w', e2, f⟩
        rw [if_pos b, hR1.2.1.tv X, hR1.1.2 p hp] at e
        rw [if_pos b] at e2
        have i2 := hR1.Q f
        have off : ∀ k j, ¬ (k = 90 ∧ j = p ∨ k = 91 ∧ 10 * p ≤ j ∧ j < 10 * p + 10) → (aup m' 91 (10 * p + 2) v) k j = m' k j := fun k j z => aup_o (by omega)
        exact ⟨e, _, _, e2, fun k j z => (off k j (by omega)).trans (f k j (by omega) (by omega) (by omega)), ⟨i2.1.p off (by rw [pr_s (by decide), i2.1.2 p hp]), i2.2.1.on (fun k j z => off k j (by unfold wT at z; omega)), i2.2.2.1.on (fun k j z => off k j (by unfold wX at z; omega)), i2.2.2.2.1.on (fun k j z => off k j (by unfold wB at z; omega)), i2.2.2.2.2.1.on (fun k j z => off k j (by unfold wK at z; omega)), i2.2.2.2.2.2.on (fun k j z => off k j (by unfold wH at z; omega))⟩⟩
    · rw [if_neg b, if_neg b] at z
      refine PR_s hI0 (d := 4) (d2 := 49) (by decide) (by decide) z (cw_mono (y m ml mr hM hR) ?_)
      rintro r h ⟨e, m', w', e2, f⟩
      rw [if_neg b] at e e2
      exact ⟨e, _, _, e2, f⟩
  · exact PR_s hI0 (d := 4) (d2 := 4) (by decide) (by decide) (c_set_no (X := W) (ml := ml) hM hC.1.1 o.1.1 ⟨by decide, by decide⟩ g) (sm_qR (r_set_no hM hR.1.1 o.1.1 g ⟨by decide, by decide⟩))
theorem p_set_13 {W : aXt × Value} {of v : Int32} : PR W 66 120 [.int 13, .int of, .int v] := by
  intro m ml mr hI
  have hI0 := hI
  obtain ⟨hM, A, T, X, B, K, H, hC, hR, o⟩ := hI
  have h6 := o.2.2.1
  have hR6 : X.2.1 < 6 := Nat.lt_of_lt_of_le h6.2 h6.1
  by_cases g : aixn of A.1 = true
  · have z := c_set_ok (X := W) (ml := ml) hM hC.1.1 o.1.1 (w := 13) (v := v) ⟨by decide, by decide⟩ g
    obtain ⟨p, rfl, hp⟩ := one_p g
    have hp5 : p < 5 := Nat.lt_of_lt_of_le hp o.1.1
    have k := o.1.2 p hp
    have kc : okU (puC m (35 + 4 * p)) := by rw [hC.1.2 p hp]; exact k
    rw [pAt_p hp5, puV_13 (t := tV T X) kc, puM_13 kc, hC.1.2 p hp] at z
    have y := fun m1 w1 mr1 (hM1 : MRok mr1) (hR1 : RI m1 A T X B K H) => r_set_13p (X := W) (mi := m1) (ml := w1) hM1 hR1.1.1 o.1.1 (hR1.2.2.1.ru h6) hp (by rw [hR1.1.2 p hp]; exact k) (v := v)
    by_cases b : inR 0 99 v
    · rw [if_pos b, if_pos b] at z
      refine PR_u (v := .int (toG (tV T X) (A.2 p) 13)) (A := A) (T := T) (X := X) (B := B) (K := K) (H := H) (A' := (A.1, fun q => if q = p then ((A.2 p).1, (A.2 p).2.1, (A.2 p).2.2.1, (A.2 p).2.2.2.1, fun j => if j = 3 then v else (A.2 p).2.2.2.2 j) else A.2 q)) (T' := T) (X' := X) (B' := B) (K' := K) (H' := H) ⟨o.1.p (ok_s k b), o.2.1, o.2.2.1, o.2.2.2.1, o.2.2.2.2.1.A rfl (fun q _ => ?_), o.2.2.2.2.2⟩ (d := 4) (d2 := 49) (by decide) (by decide) (cw_mono z ?_) (fun m1 w1 mr1 hM1 hR1 => cw_mono (y m1 w1 mr1 hM1 hR1) ?_)
      · show (if q = p then _ else A.2 q).1 = (A.2 q).1
        by_cases e : q = p
        · rw [if_pos e, e]
        · rw [if_neg e]
      · rintro r h ⟨e, e2⟩
        have off : ∀ k j, ¬ (k = 35 + 4 * p ∨ k = 36 + 4 * p) → (aup m (35 + 4 * p + 1) 3 v) k j = m k j := fun k j z => aup_o (by omega)
        exact ⟨e, _, _, _, e2, hM, ⟨hC.1.p o.1.1 off (by rw [pc_s (by decide), hC.1.2 p hp]), hC.2.1.on (fun k j z => off k j (by unfold uT at z; omega)), hC.2.2.1.on o.2.2.1.1 (fun k j z => off k j (by unfold uX at z; omega)) rfl, hC.2.2.2.1.on (fun k j z => off k j (by unfold uB at z; omega)), hC.2.2.2.2.1.on (o.2.2.2.2.1.le o.1) (fun k j z => off k j (by unfold uK at z; omega)) rfl, hC.2.2.2.2.2.on (fun k j z => off k j (by unfold uH at z; omega))⟩, hR.lo (fun k j z => off k j (by omega))⟩
      · rintro r h ⟨e, m', w', e2, f⟩
        rw [if_pos b, hR1.2.1.tv X, hR1.1.2 p hp] at e
        rw [if_pos b] at e2
        have i2 := hR1.Q f
        have off : ∀ k j, ¬ (k = 90 ∧ j = p ∨ k = 91 ∧ 10 * p ≤ j ∧ j < 10 * p + 10) → (aup m' 91 (10 * p + 3) v) k j = m' k j := fun k j z => aup_o (by omega)
        exact ⟨e, _, _, e2, fun k j z => (off k j (by omega)).trans (f k j (by omega) (by omega) (by omega)), ⟨i2.1.p off (by rw [pr_s (by decide), i2.1.2 p hp]), i2.2.1.on (fun k j z => off k j (by unfold wT at z; omega)), i2.2.2.1.on (fun k j z => off k j (by unfold wX at z; omega)), i2.2.2.2.1.on (fun k j z => off k j (by unfold wB at z; omega)), i2.2.2.2.2.1.on (fun k j z => off k j (by unfold wK at z; omega)), i2.2.2.2.2.2.on (fun k j z => off k j (by unfold wH at z; omega))⟩⟩
    · rw [if_neg b, if_neg b] at z
      refine PR_s hI0 (d := 4) (d2 := 49) (by decide) (by decide) z (cw_mono (y m ml mr hM hR) ?_)
      rintro r h ⟨e, m', w', e2, f⟩
      rw [if_neg b] at e e2
      exact ⟨e, _, _, e2, f⟩
  · exact PR_s hI0 (d := 4) (d2 := 4) (by decide) (by decide) (c_set_no (X := W) (ml := ml) hM hC.1.1 o.1.1 ⟨by decide, by decide⟩ g) (sm_qR (r_set_no hM hR.1.1 o.1.1 g ⟨by decide, by decide⟩))
theorem p_set_14 {W : aXt × Value} {of v : Int32} : PR W 66 120 [.int 14, .int of, .int v] := by
  intro m ml mr hI
  have hI0 := hI
  obtain ⟨hM, A, T, X, B, K, H, hC, hR, o⟩ := hI
  have h6 := o.2.2.1
  have hR6 : X.2.1 < 6 := Nat.lt_of_lt_of_le h6.2 h6.1
  by_cases g : aixn of A.1 = true
  · have z := c_set_ok (X := W) (ml := ml) hM hC.1.1 o.1.1 (w := 14) (v := v) ⟨by decide, by decide⟩ g
    obtain ⟨p, rfl, hp⟩ := one_p g
    have hp5 : p < 5 := Nat.lt_of_lt_of_le hp o.1.1
    have k := o.1.2 p hp
    have kc : okU (puC m (35 + 4 * p)) := by rw [hC.1.2 p hp]; exact k
    rw [pAt_p hp5, puV_14 (t := tV T X) kc, puM_14 kc, hC.1.2 p hp] at z
    have y := fun m1 w1 mr1 (hM1 : MRok mr1) (hR1 : RI m1 A T X B K H) => r_set_14p (X := W) (mi := m1) (ml := w1) hM1 hR1.1.1 o.1.1 (hR1.2.2.1.ru h6) hp (by rw [hR1.1.2 p hp]; exact k) (v := v)
    by_cases b : inR 0 99 v
    · rw [if_pos b, if_pos b] at z
      refine PR_u (v := .int (toG (tV T X) (A.2 p) 14)) (A := A) (T := T) (X := X) (B := B) (K := K) (H := H) (A' := (A.1, fun q => if q = p then ((A.2 p).1, (A.2 p).2.1, (A.2 p).2.2.1, (A.2 p).2.2.2.1, fun j => if j = 4 then v else (A.2 p).2.2.2.2 j) else A.2 q)) (T' := T) (X' := X) (B' := B) (K' := K) (H' := H) ⟨o.1.p (ok_s k b), o.2.1, o.2.2.1, o.2.2.2.1, o.2.2.2.2.1.A rfl (fun q _ => ?_), o.2.2.2.2.2⟩ (d := 4) (d2 := 49) (by decide) (by decide) (cw_mono z ?_) (fun m1 w1 mr1 hM1 hR1 => cw_mono (y m1 w1 mr1 hM1 hR1) ?_)
      · show (if q = p then _ else A.2 q).1 = (A.2 q).1
        by_cases e : q = p
        · rw [if_pos e, e]
        · rw [if_neg e]
      · rintro r h ⟨e, e2⟩
        have off : ∀ k j, ¬ (k = 35 + 4 * p ∨ k = 36 + 4 * p) → (aup m (35 + 4 * p + 1) 4 v) k j = m k j := fun k j z => aup_o (by omega)
        exact ⟨e, _, _, _, e2, hM, ⟨hC.1.p o.1.1 off (by rw [pc_s (by decide), hC.1.2 p hp]), hC.2.1.on (fun k j z => off k j (by unfold uT at z; omega)), hC.2.2.1.on o.2.2.1.1 (fun k j z => off k j (by unfold uX at z; omega)) rfl, hC.2.2.2.1.on (fun k j z => off k j (by unfold uB at z; omega)), hC.2.2.2.2.1.on (o.2.2.2.2.1.le o.1) (fun k j z => off k j (by unfold uK at z; omega)) rfl, hC.2.2.2.2.2.on (fun k j z => off k j (by unfold uH at z; omega))⟩, hR.lo (fun k j z => off k j (by omega))⟩
      · rintro r h ⟨e, m', w', e2, f⟩
        rw [if_pos b, hR1.2.1.tv X, hR1.1.2 p hp] at e
        rw [if_pos b] at e2
        have i2 := hR1.Q f
        have off : ∀ k j, ¬ (k = 90 ∧ j = p ∨ k = 91 ∧ 10 * p ≤ j ∧ j < 10 * p + 10) → (aup m' 91 (10 * p + 4) v) k j = m' k j := fun k j z => aup_o (by omega)
        exact ⟨e, _, _, e2, fun k j z => (off k j (by omega)).trans (f k j (by omega) (by omega) (by omega)), ⟨i2.1.p off (by rw [pr_s (by decide), i2.1.2 p hp]), i2.2.1.on (fun k j z => off k j (by unfold wT at z; omega)), i2.2.2.1.on (fun k j z => off k j (by unfold wX at z; omega)), i2.2.2.2.1.on (fun k j z => off k j (by unfold wB at z; omega)), i2.2.2.2.2.1.on (fun k j z => off k j (by unfold wK at z; omega)), i2.2.2.2.2.2.on (fun k j z => off k j (by unfold wH at z; omega))⟩⟩
    · rw [if_neg b, if_neg b] at z
      refine PR_s hI0 (d := 4) (d2 := 49) (by decide) (by decide) z (cw_mono (y m ml mr hM hR) ?_)
      rintro r h ⟨e, m', w', e2, f⟩
      rw [if_neg b] at e e2
      exact ⟨e, _, _, e2, f⟩
  · exact PR_s hI0 (d := 4) (d2 := 4) (by decide) (by decide) (c_set_no (X := W) (ml := ml) hM hC.1.1 o.1.1 ⟨by decide, by decide⟩ g) (sm_qR (r_set_no hM hR.1.1 o.1.1 g ⟨by decide, by decide⟩))
theorem p_set_15 {W : aXt × Value} {of v : Int32} : PR W 66 120 [.int 15, .int of, .int v] := by
  intro m ml mr hI
  have hI0 := hI
  obtain ⟨hM, A, T, X, B, K, H, hC, hR, o⟩ := hI
  have h6 := o.2.2.1
  have hR6 : X.2.1 < 6 := Nat.lt_of_lt_of_le h6.2 h6.1
  by_cases g : aixn of A.1 = true
  · have z := c_set_ok (X := W) (ml := ml) hM hC.1.1 o.1.1 (w := 15) (v := v) ⟨by decide, by decide⟩ g
    obtain ⟨p, rfl, hp⟩ := one_p g
    have hp5 : p < 5 := Nat.lt_of_lt_of_le hp o.1.1
    have k := o.1.2 p hp
    have kc : okU (puC m (35 + 4 * p)) := by rw [hC.1.2 p hp]; exact k
    rw [pAt_p hp5, puV_15 (t := tV T X) kc, puM_15 kc, hC.1.2 p hp] at z
    have y := fun m1 w1 mr1 (hM1 : MRok mr1) (hR1 : RI m1 A T X B K H) => r_set_15p (X := W) (mi := m1) (ml := w1) hM1 hR1.1.1 o.1.1 (hR1.2.2.1.ru h6) hp (by rw [hR1.1.2 p hp]; exact k) (v := v)
    by_cases b : inR 0 99 v
    · rw [if_pos b, if_pos b] at z
      refine PR_u (v := .int (toG (tV T X) (A.2 p) 15)) (A := A) (T := T) (X := X) (B := B) (K := K) (H := H) (A' := (A.1, fun q => if q = p then ((A.2 p).1, (A.2 p).2.1, (A.2 p).2.2.1, (A.2 p).2.2.2.1, fun j => if j = 5 then v else (A.2 p).2.2.2.2 j) else A.2 q)) (T' := T) (X' := X) (B' := B) (K' := K) (H' := H) ⟨o.1.p (ok_s k b), o.2.1, o.2.2.1, o.2.2.2.1, o.2.2.2.2.1.A rfl (fun q _ => ?_), o.2.2.2.2.2⟩ (d := 4) (d2 := 49) (by decide) (by decide) (cw_mono z ?_) (fun m1 w1 mr1 hM1 hR1 => cw_mono (y m1 w1 mr1 hM1 hR1) ?_)
      · show (if q = p then _ else A.2 q).1 = (A.2 q).1
        by_cases e : q = p
        · rw [if_pos e, e]
        · rw [if_neg e]
      · rintro r h ⟨e, e2⟩
        have off : ∀ k j, ¬ (k = 35 + 4 * p ∨ k = 36 + 4 * p) → (aup m (35 + 4 * p + 1) 5 v) k j = m k j := fun k j z => aup_o (by omega)
        exact ⟨e, _, _, _, e2, hM, ⟨hC.1.p o.1.1 off (by rw [pc_s (by decide), hC.1.2 p hp]), hC.2.1.on (fun k j z => off k j (by unfold uT at z; omega)), hC.2.2.1.on o.2.2.1.1 (fun k j z => off k j (by unfold uX at z; omega)) rfl, hC.2.2.2.1.on (fun k j z => off k j (by unfold uB at z; omega)), hC.2.2.2.2.1.on (o.2.2.2.2.1.le o.1) (fun k j z => off k j (by unfold uK at z; omega)) rfl, hC.2.2.2.2.2.on (fun k j z => off k j (by unfold uH at z; omega))⟩, hR.lo (fun k j z => off k j (by omega))⟩
      · rintro r h ⟨e, m', w', e2, f⟩
        rw [if_pos b, hR1.2.1.tv X, hR1.1.2 p hp] at e
        rw [if_pos b] at e2
        have i2 := hR1.Q f
        have off : ∀ k j, ¬ (k = 90 ∧ j = p ∨ k = 91 ∧ 10 * p ≤ j ∧ j < 10 * p + 10) → (aup m' 91 (10 * p + 5) v) k j = m' k j := fun k j z => aup_o (by omega)
        exact ⟨e, _, _, e2, fun k j z => (off k j (by omega)).trans (f k j (by omega) (by omega) (by omega)), ⟨i2.1.p off (by rw [pr_s (by decide), i2.1.2 p hp]), i2.2.1.on (fun k j z => off k j (by unfold wT at z; omega)), i2.2.2.1.on (fun k j z => off k j (by unfold wX at z; omega)), i2.2.2.2.1.on (fun k j z => off k j (by unfold wB at z; omega)), i2.2.2.2.2.1.on (fun k j z => off k j (by unfold wK at z; omega)), i2.2.2.2.2.2.on (fun k j z => off k j (by unfold wH at z; omega))⟩⟩
    · rw [if_neg b, if_neg b] at z
      refine PR_s hI0 (d := 4) (d2 := 49) (by decide) (by decide) z (cw_mono (y m ml mr hM hR) ?_)
      rintro r h ⟨e, m', w', e2, f⟩
      rw [if_neg b] at e e2
      exact ⟨e, _, _, e2, f⟩
  · exact PR_s hI0 (d := 4) (d2 := 4) (by decide) (by decide) (c_set_no (X := W) (ml := ml) hM hC.1.1 o.1.1 ⟨by decide, by decide⟩ g) (sm_qR (r_set_no hM hR.1.1 o.1.1 g ⟨by decide, by decide⟩))
theorem p_set_16 {W : aXt × Value} {of v : Int32} : PR W 66 120 [.int 16, .int of, .int v] := by
  intro m ml mr hI
  have hI0 := hI
  obtain ⟨hM, A, T, X, B, K, H, hC, hR, o⟩ := hI
  have h6 := o.2.2.1
  have hR6 : X.2.1 < 6 := Nat.lt_of_lt_of_le h6.2 h6.1
  by_cases g : aixn of A.1 = true
  · have z := c_set_ok (X := W) (ml := ml) hM hC.1.1 o.1.1 (w := 16) (v := v) ⟨by decide, by decide⟩ g
    obtain ⟨p, rfl, hp⟩ := one_p g
    have hp5 : p < 5 := Nat.lt_of_lt_of_le hp o.1.1
    have k := o.1.2 p hp
    have kc : okU (puC m (35 + 4 * p)) := by rw [hC.1.2 p hp]; exact k
    rw [pAt_p hp5, puV_16 (t := tV T X) kc, puM_16 kc, hC.1.2 p hp] at z
    have y := fun m1 w1 mr1 (hM1 : MRok mr1) (hR1 : RI m1 A T X B K H) => r_set_16p (X := W) (mi := m1) (ml := w1) hM1 hR1.1.1 o.1.1 (hR1.2.2.1.ru h6) hp (by rw [hR1.1.2 p hp]; exact k) (v := v)
    by_cases b : inR 0 99 v
    · rw [if_pos b, if_pos b] at z
      refine PR_u (v := .int (toG (tV T X) (A.2 p) 16)) (A := A) (T := T) (X := X) (B := B) (K := K) (H := H) (A' := (A.1, fun q => if q = p then ((A.2 p).1, (A.2 p).2.1, (A.2 p).2.2.1, (A.2 p).2.2.2.1, fun j => if j = 6 then v else (A.2 p).2.2.2.2 j) else A.2 q)) (T' := T) (X' := X) (B' := B) (K' := K) (H' := H) ⟨o.1.p (ok_s k b), o.2.1, o.2.2.1, o.2.2.2.1, o.2.2.2.2.1.A rfl (fun q _ => ?_), o.2.2.2.2.2⟩ (d := 4) (d2 := 49) (by decide) (by decide) (cw_mono z ?_) (fun m1 w1 mr1 hM1 hR1 => cw_mono (y m1 w1 mr1 hM1 hR1) ?_)
      · show (if q = p then _ else A.2 q).1 = (A.2 q).1
        by_cases e : q = p
        · rw [if_pos e, e]
        · rw [if_neg e]
      · rintro r h ⟨e, e2⟩
        have off : ∀ k j, ¬ (k = 35 + 4 * p ∨ k = 36 + 4 * p) → (aup m (35 + 4 * p + 1) 6 v) k j = m k j := fun k j z => aup_o (by omega)
        exact ⟨e, _, _, _, e2, hM, ⟨hC.1.p o.1.1 off (by rw [pc_s (by decide), hC.1.2 p hp]), hC.2.1.on (fun k j z => off k j (by unfold uT at z; omega)), hC.2.2.1.on o.2.2.1.1 (fun k j z => off k j (by unfold uX at z; omega)) rfl, hC.2.2.2.1.on (fun k j z => off k j (by unfold uB at z; omega)), hC.2.2.2.2.1.on (o.2.2.2.2.1.le o.1) (fun k j z => off k j (by unfold uK at z; omega)) rfl, hC.2.2.2.2.2.on (fun k j z => off k j (by unfold uH at z; omega))⟩, hR.lo (fun k j z => off k j (by omega))⟩
      · rintro r h ⟨e, m', w', e2, f⟩
        rw [if_pos b, hR1.2.1.tv X, hR1.1.2 p hp] at e
        rw [if_pos b] at e2
        have i2 := hR1.Q f
        have off : ∀ k j, ¬ (k = 90 ∧ j = p ∨ k = 91 ∧ 10 * p ≤ j ∧ j < 10 * p + 10) → (aup m' 91 (10 * p + 6) v) k j = m' k j := fun k j z => aup_o (by omega)
        exact ⟨e, _, _, e2, fun k j z => (off k j (by omega)).trans (f k j (by omega) (by omega) (by omega)), ⟨i2.1.p off (by rw [pr_s (by decide), i2.1.2 p hp]), i2.2.1.on (fun k j z => off k j (by unfold wT at z; omega)), i2.2.2.1.on (fun k j z => off k j (by unfold wX at z; omega)), i2.2.2.2.1.on (fun k j z => off k j (by unfold wB at z; omega)), i2.2.2.2.2.1.on (fun k j z => off k j (by unfold wK at z; omega)), i2.2.2.2.2.2.on (fun k j z => off k j (by unfold wH at z; omega))⟩⟩
    · rw [if_neg b, if_neg b] at z
      refine PR_s hI0 (d := 4) (d2 := 49) (by decide) (by decide) z (cw_mono (y m ml mr hM hR) ?_)
      rintro r h ⟨e, m', w', e2, f⟩
      rw [if_neg b] at e e2
      exact ⟨e, _, _, e2, f⟩
  · exact PR_s hI0 (d := 4) (d2 := 4) (by decide) (by decide) (c_set_no (X := W) (ml := ml) hM hC.1.1 o.1.1 ⟨by decide, by decide⟩ g) (sm_qR (r_set_no hM hR.1.1 o.1.1 g ⟨by decide, by decide⟩))
theorem p_set_17 {W : aXt × Value} {of v : Int32} : PR W 66 120 [.int 17, .int of, .int v] := by
  intro m ml mr hI
  have hI0 := hI
  obtain ⟨hM, A, T, X, B, K, H, hC, hR, o⟩ := hI
  have h6 := o.2.2.1
  have hR6 : X.2.1 < 6 := Nat.lt_of_lt_of_le h6.2 h6.1
  by_cases g : aixn of A.1 = true
  · have z := c_set_ok (X := W) (ml := ml) hM hC.1.1 o.1.1 (w := 17) (v := v) ⟨by decide, by decide⟩ g
    obtain ⟨p, rfl, hp⟩ := one_p g
    have hp5 : p < 5 := Nat.lt_of_lt_of_le hp o.1.1
    have k := o.1.2 p hp
    have kc : okU (puC m (35 + 4 * p)) := by rw [hC.1.2 p hp]; exact k
    rw [pAt_p hp5, puV_17 (t := tV T X) kc, puM_17 kc, hC.1.2 p hp] at z
    have y := fun m1 w1 mr1 (hM1 : MRok mr1) (hR1 : RI m1 A T X B K H) => r_set_17p (X := W) (mi := m1) (ml := w1) hM1 hR1.1.1 o.1.1 (hR1.2.2.1.ru h6) hp (by rw [hR1.1.2 p hp]; exact k) (v := v)
    by_cases b : inR 0 99 v
    · rw [if_pos b, if_pos b] at z
      refine PR_u (v := .int (toG (tV T X) (A.2 p) 17)) (A := A) (T := T) (X := X) (B := B) (K := K) (H := H) (A' := (A.1, fun q => if q = p then ((A.2 p).1, (A.2 p).2.1, (A.2 p).2.2.1, (A.2 p).2.2.2.1, fun j => if j = 7 then v else (A.2 p).2.2.2.2 j) else A.2 q)) (T' := T) (X' := X) (B' := B) (K' := K) (H' := H) ⟨o.1.p (ok_s k b), o.2.1, o.2.2.1, o.2.2.2.1, o.2.2.2.2.1.A rfl (fun q _ => ?_), o.2.2.2.2.2⟩ (d := 4) (d2 := 49) (by decide) (by decide) (cw_mono z ?_) (fun m1 w1 mr1 hM1 hR1 => cw_mono (y m1 w1 mr1 hM1 hR1) ?_)
      · show (if q = p then _ else A.2 q).1 = (A.2 q).1
        by_cases e : q = p
        · rw [if_pos e, e]
        · rw [if_neg e]
      · rintro r h ⟨e, e2⟩
        have off : ∀ k j, ¬ (k = 35 + 4 * p ∨ k = 36 + 4 * p) → (aup m (35 + 4 * p + 1) 7 v) k j = m k j := fun k j z => aup_o (by omega)
        exact ⟨e, _, _, _, e2, hM, ⟨hC.1.p o.1.1 off (by rw [pc_s (by decide), hC.1.2 p hp]), hC.2.1.on (fun k j z => off k j (by unfold uT at z; omega)), hC.2.2.1.on o.2.2.1.1 (fun k j z => off k j (by unfold uX at z; omega)) rfl, hC.2.2.2.1.on (fun k j z => off k j (by unfold uB at z; omega)), hC.2.2.2.2.1.on (o.2.2.2.2.1.le o.1) (fun k j z => off k j (by unfold uK at z; omega)) rfl, hC.2.2.2.2.2.on (fun k j z => off k j (by unfold uH at z; omega))⟩, hR.lo (fun k j z => off k j (by omega))⟩
      · rintro r h ⟨e, m', w', e2, f⟩
        rw [if_pos b, hR1.2.1.tv X, hR1.1.2 p hp] at e
        rw [if_pos b] at e2
        have i2 := hR1.Q f
        have off : ∀ k j, ¬ (k = 90 ∧ j = p ∨ k = 91 ∧ 10 * p ≤ j ∧ j < 10 * p + 10) → (aup m' 91 (10 * p + 7) v) k j = m' k j := fun k j z => aup_o (by omega)
        exact ⟨e, _, _, e2, fun k j z => (off k j (by omega)).trans (f k j (by omega) (by omega) (by omega)), ⟨i2.1.p off (by rw [pr_s (by decide), i2.1.2 p hp]), i2.2.1.on (fun k j z => off k j (by unfold wT at z; omega)), i2.2.2.1.on (fun k j z => off k j (by unfold wX at z; omega)), i2.2.2.2.1.on (fun k j z => off k j (by unfold wB at z; omega)), i2.2.2.2.2.1.on (fun k j z => off k j (by unfold wK at z; omega)), i2.2.2.2.2.2.on (fun k j z => off k j (by unfold wH at z; omega))⟩⟩
    · rw [if_neg b, if_neg b] at z
      refine PR_s hI0 (d := 4) (d2 := 49) (by decide) (by decide) z (cw_mono (y m ml mr hM hR) ?_)
      rintro r h ⟨e, m', w', e2, f⟩
      rw [if_neg b] at e e2
      exact ⟨e, _, _, e2, f⟩
  · exact PR_s hI0 (d := 4) (d2 := 4) (by decide) (by decide) (c_set_no (X := W) (ml := ml) hM hC.1.1 o.1.1 ⟨by decide, by decide⟩ g) (sm_qR (r_set_no hM hR.1.1 o.1.1 g ⟨by decide, by decide⟩))
theorem p_set_0 {W : aXt × Value} {of v : Int32} : PR W 66 120 [.int 0, .int of, .int v] := by
  intro m ml mr hI
  have hI0 := hI
  obtain ⟨hM, A, T, X, B, K, H, hC, hR, o⟩ := hI
  have h6 := o.2.2.1
  have hR6 : X.2.1 < 6 := Nat.lt_of_lt_of_le h6.2 h6.1
  have z := c_set_0 (X := W) (ml := ml) hM hC.1.1 o.1.1 (of := of) (v := v) (w := 0) rfl
  have y := fun m1 w1 mr1 (hM1 : MRok mr1) => r_set_0 (X := W) (mi := m1) (ml := w1) (mr := mr1) hM1 (of := of) (v := v)
  by_cases b : inR 0 999 v
  · rw [if_pos b, if_pos b, hC.2.1.2] at z
    refine PR_u (v := .int (T.2)) (A := A) (T := T) (X := X) (B := B) (K := K) (H := H) (A' := A) (T' := (T.1, v)) (X' := X) (B' := B) (K' := K) (H' := H) ⟨o.1, b, o.2.2⟩ (d := 4) (d2 := 49) (by decide) (by decide) (cw_mono z ?_) (fun m1 w1 mr1 hM1 hR1 => cw_mono (y m1 w1 mr1 hM1) ?_)
    · rintro r h ⟨e, e2⟩
      have off : ∀ k j, ¬ (k = 63 ∧ j = 1) → aup m 63 1 v k j = m k j := fun k j z => aup_o z
      exact ⟨e, _, _, _, e2, hM, ⟨hC.1.on o.1.1 (fun k j z => off k j (by unfold uA at z; omega)), ⟨by rw [show aup m 63 1 v 64 = m 64 from funext fun j => off _ _ (by omega)]; exact hC.2.1.1, aup_s⟩, hC.2.2.1.on o.2.2.1.1 (fun k j z => off k j (by unfold uX at z; omega)) rfl, hC.2.2.2.1.on (fun k j z => off k j (by unfold uB at z; omega)), hC.2.2.2.2.1.on (o.2.2.2.2.1.le o.1) (fun k j z => off k j (by unfold uK at z; omega)) rfl, hC.2.2.2.2.2.on (fun k j z => off k j (by unfold uH at z; omega))⟩, hR.lo (fun k j z => off k j (by omega))⟩
    · rintro r h ⟨e, m', w', e2, f⟩
      rw [if_pos b, hR1.2.1.2] at e
      rw [if_pos b] at e2
      have i2 := hR1.Q f
      have off : ∀ k j, ¬ (k = 84 ∧ j = 7) → aup m' 84 7 v k j = m' k j := fun k j z => aup_o z
      exact ⟨e, _, _, e2, fun k j z => (off k j (by omega)).trans (f k j (by omega) (by omega) (by omega)), ⟨i2.1.on (fun k j z => off k j (by unfold wA at z; omega)), ⟨by rw [show aup m' 84 7 v 88 = m' 88 from funext fun j => off _ _ (by omega)]; exact i2.2.1.1, aup_s⟩, i2.2.2.1.on (fun k j z => off k j (by unfold wX at z; omega)), i2.2.2.2.1.on (fun k j z => off k j (by unfold wB at z; omega)), i2.2.2.2.2.1.on (fun k j z => off k j (by unfold wK at z; omega)), i2.2.2.2.2.2.on (fun k j z => off k j (by unfold wH at z; omega))⟩⟩
  · rw [if_neg b, if_neg b] at z
    refine PR_s hI0 (d := 4) (d2 := 49) (by decide) (by decide) z (cw_mono (y m ml mr hM) ?_)
    rintro r h ⟨e, m', w', e2, f⟩
    rw [if_neg b] at e e2
    exact ⟨e, _, _, e2, f⟩
theorem c8_up {f : Nat → Int32} {s : Nat} (hs : s < 8) {v : Int32} {g : Nat → Int32} (h : ∀ j, j < 8 → g j = if j = s then v else f j) : c8 g = fun j => if j = s then v else c8 f j := funext fun j => by
  unfold c8
  by_cases hj : j < 8
  · rw [if_pos hj, if_pos hj]; exact h j hj
  · rw [if_neg hj, if_neg hj, if_neg (by omega)]
theorem p_set_1 {W : aXt × Value} {of v : Int32} : PR W 66 120 [.int 1, .int of, .int v] := by
  intro m ml mr hI
  have hI0 := hI
  obtain ⟨hM, A, T, X, B, K, H, hC, hR, o⟩ := hI
  have h6 := o.2.2.1
  have hR6 : X.2.1 < 6 := Nat.lt_of_lt_of_le h6.2 h6.1
  have z := c_set_1 (X := W) (ml := ml) hM hC.1.1 o.1.1 (of := of) (v := v) (w := 1) rfl
  by_cases g : aixn of 8 = true
  · obtain ⟨s, rfl, hs⟩ := one_p g
    have y := fun m1 w1 mr1 (hM1 : MRok mr1) => r_set_1s (X := W) (mi := m1) (ml := w1) (mr := mr1) hM1 hs (v := v)
    rw [nI_clamp (n := s) (by omega)] at z
    by_cases b : inR 0 99 v
    · rw [if_pos ⟨g, b⟩, if_pos ⟨g, b⟩] at z
      have e0 : m 64 s = T.1 s := by rw [← hC.2.1.1, c8_lt hs]
      rw [e0] at z
      refine PR_u (v := .int (T.1 s)) (A := A) (T := T) (X := X) (B := B) (K := K) (H := H) (A' := A) (T' := (fun j => if j = s then v else T.1 j, T.2)) (X' := X) (B' := B) (K' := K) (H' := H) ⟨o.1, o.2.1, o.2.2⟩ (d := 4) (d2 := 49) (by decide) (by decide) (cw_mono z ?_) (fun m1 w1 mr1 hM1 hR1 => cw_mono (y m1 w1 mr1 hM1) ?_)
      · rintro r h ⟨e, e2⟩
        have off : ∀ k j, ¬ (k = 64 ∧ j = s) → aup m 64 s v k j = m k j := fun k j z => aup_o z
        have t1 : c8 (aup m 64 s v 64) = fun j => if j = s then v else T.1 j := by
          rw [← hC.2.1.1]
          refine c8_up hs (fun j hj => ?_)
          by_cases e : j = s
          · rw [if_pos e, e]; exact aup_s
          · rw [if_neg e]; exact off _ _ (by omega)
        exact ⟨e, _, _, _, e2, hM, ⟨hC.1.on o.1.1 (fun k j z => off k j (by unfold uA at z; omega)), ⟨t1, (off _ _ (by omega)).trans hC.2.1.2⟩, hC.2.2.1.on o.2.2.1.1 (fun k j z => off k j (by unfold uX at z; omega)) rfl, hC.2.2.2.1.on (fun k j z => off k j (by unfold uB at z; omega)), hC.2.2.2.2.1.on (o.2.2.2.2.1.le o.1) (fun k j z => off k j (by unfold uK at z; omega)) rfl, hC.2.2.2.2.2.on (fun k j z => off k j (by unfold uH at z; omega))⟩, hR.lo (fun k j z => off k j (by omega))⟩
      · rintro r h ⟨e, m', w', e2, f⟩
        have e1 : m1 88 s = T.1 s := by rw [← hR1.2.1.1, c8_lt hs]
        rw [if_pos b, e1] at e
        rw [if_pos b] at e2
        have i2 := hR1.Q f
        have off : ∀ k j, ¬ (k = 88 ∧ j = s) → aup m' 88 s v k j = m' k j := fun k j z => aup_o z
        have t1 : c8 (aup m' 88 s v 88) = fun j => if j = s then v else T.1 j := by
          rw [← i2.2.1.1]
          refine c8_up hs (fun j hj => ?_)
          by_cases e : j = s
          · rw [if_pos e, e]; exact aup_s
          · rw [if_neg e]; exact off _ _ (by omega)
        exact ⟨e, _, _, e2, fun k j z => (off k j (by omega)).trans (f k j (by omega) (by omega) (by omega)), ⟨i2.1.on (fun k j z => off k j (by unfold wA at z; omega)), ⟨t1, (off _ _ (by omega)).trans i2.2.1.2⟩, i2.2.2.1.on (fun k j z => off k j (by unfold wX at z; omega)), i2.2.2.2.1.on (fun k j z => off k j (by unfold wB at z; omega)), i2.2.2.2.2.1.on (fun k j z => off k j (by unfold wK at z; omega)), i2.2.2.2.2.2.on (fun k j z => off k j (by unfold wH at z; omega))⟩⟩
    · rw [if_neg (fun q => b q.2), if_neg (fun q => b q.2)] at z
      refine PR_s hI0 (d := 4) (d2 := 49) (by decide) (by decide) z (cw_mono (y m ml mr hM) ?_)
      rintro r h ⟨e, m', w', e2, f⟩
      rw [if_neg b] at e e2
      exact ⟨e, _, _, e2, f⟩
  · rw [if_neg (fun q => g q.1), if_neg (fun q => g q.1)] at z
    exact PR_s hI0 (d := 4) (d2 := 4) (by decide) (by decide) z (sm_qR (r_set_1x hM g))
theorem p_set {W : aXt × Value} {w of v : Int32} : PR W 66 120 [.int w, .int of, .int v] := by
  by_cases h : inR 0 4 w
  · skip
    have h0 := rI.mp h
    rw [show (0 : Int32).toInt = 0 from rfl, show (4 : Int32).toInt = 4 from rfl] at h0
    rcases (by omega : w.toInt = 0 ∨ w.toInt = 1 ∨ w.toInt = 2 ∨ w.toInt = 3 ∨ w.toInt = 4) with h | h | h | h | h
    · have e : w = 0 := Int32.toInt_inj.mp h
      subst e; exact p_set_0
    · have e : w = 1 := Int32.toInt_inj.mp h
      subst e; exact p_set_1
    · have e : w = 2 := Int32.toInt_inj.mp h
      subst e; exact p_set_2
    · have e : w = 3 := Int32.toInt_inj.mp h
      subst e; exact p_set_3
    · have e : w = 4 := Int32.toInt_inj.mp h
      subst e; exact p_set_4
  have hx := h
  by_cases h : inR 10 17 w
  · skip
    have h0 := rI.mp h
    rw [show (10 : Int32).toInt = 10 from rfl, show (17 : Int32).toInt = 17 from rfl] at h0
    rcases (by omega : w.toInt = 10 ∨ w.toInt = 11 ∨ w.toInt = 12 ∨ w.toInt = 13 ∨ w.toInt = 14 ∨ w.toInt = 15 ∨ w.toInt = 16 ∨ w.toInt = 17) with h | h | h | h | h | h | h | h
    · have e : w = 10 := Int32.toInt_inj.mp h
      subst e; exact p_set_10
    · have e : w = 11 := Int32.toInt_inj.mp h
      subst e; exact p_set_11
    · have e : w = 12 := Int32.toInt_inj.mp h
      subst e; exact p_set_12
    · have e : w = 13 := Int32.toInt_inj.mp h
      subst e; exact p_set_13
    · have e : w = 14 := Int32.toInt_inj.mp h
      subst e; exact p_set_14
    · have e : w = 15 := Int32.toInt_inj.mp h
      subst e; exact p_set_15
    · have e : w = 16 := Int32.toInt_inj.mp h
      subst e; exact p_set_16
    · have e : w = 17 := Int32.toInt_inj.mp h
      subst e; exact p_set_17
  have h0 : ¬ w = 0 ∧ ¬ w = 1 := ⟨fun e => hx (by rw [e]; decide), fun e => hx (by rw [e]; decide)⟩
  intro m ml mr hI
  have hI0 := hI
  obtain ⟨hM, A, T, X, B, K, H, hC, hR, o⟩ := hI
  by_cases g : aixn of A.1 = true
  · have z := c_set_ok (X := W) (ml := ml) hM hC.1.1 o.1.1 (w := w) (v := v) h0 g
    rw [(puV_x h0 ⟨hx, h⟩).1, (puV_x h0 ⟨hx, h⟩).2] at z
    exact PR_s hI0 (d := 4) (d2 := 4) (by decide) (by decide) z (sm_qR (r_set_x hM ⟨hx, h⟩))
  · exact PR_s hI0 (d := 4) (d2 := 4) (by decide) (by decide) (c_set_no (X := W) (ml := ml) hM hC.1.1 o.1.1 h0 g) (sm_qR (r_set_no hM hR.1.1 o.1.1 g h0))
