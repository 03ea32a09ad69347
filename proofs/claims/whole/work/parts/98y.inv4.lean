/-! sheets: class and reference alike (written by wip/whole/mkinv4.py) -/
theorem shM_o {m : Nat → Nat → Int32} {K : Nat} {so n : Int32} {k j : Nat} (h : ¬ (k = K ∨ k = K + 1)) : shM m K so n k j = m k j := by
  unfold shM
  show (if k = K + 1 then _ else _) = _
  rw [if_neg (fun z => h (Or.inr z)), aup_o (fun z => h (Or.inl z.1)), aup_o (fun z => h (Or.inl z.1))]
theorem shM_0 {m : Nat → Nat → Int32} {K : Nat} {so n : Int32} : shM m K so n K 0 = so := by
  unfold shM
  show (if K = K + 1 then _ else _) = _
  rw [if_neg (by omega), aup_o (by omega)]
  exact aup_s
theorem shM_1 {m : Nat → Nat → Int32} {K : Nat} {so n : Int32} : shM m K so n K 1 = cl 0 40 n := by
  unfold shM
  show (if K = K + 1 then _ else _) = _
  rw [if_neg (by omega)]
  exact aup_s
theorem shM_i {m : Nat → Nat → Int32} {K j : Nat} {so n : Int32} (h : j < 40) : shM m K so n (K + 1) j = 0 := by
  unfold shM
  show (if K + 1 = K + 1 then (if j < 40 then (0 : Int32) else _) else _) = _
  rw [if_pos rfl, if_pos h]
theorem stM_no {m : Nat → Nat → Int32} {K : Nat} {so n : Int32} (h : ¬ stV so n = 1) : stM m K so n = m := by
  unfold stM
  unfold stV at h
  by_cases a : inR (-1) 2 so
  · rw [if_pos a] at h ⊢
    by_cases b : so = -1
    · rw [if_pos b] at h; exact absurd rfl h
    · rw [if_neg b] at h ⊢
      by_cases c : 40 < n
      · rw [if_pos c]
      · rw [if_neg c] at h ⊢
        by_cases d : n < 0
        · rw [if_pos d]
        · rw [if_neg d] at h; exact absurd rfl h
  · rw [if_neg a]
theorem stM_e {m : Nat → Nat → Int32} {K : Nat} {so n : Int32} (h : stV so n = 1) (e : so = -1) : stM m K so n = shM m K (-1) 0 := by
  unfold stM
  unfold stV at h
  by_cases a : inR (-1) 2 so
  · rw [if_pos a, if_pos e]
  · rw [if_neg a] at h; exact absurd h (by decide)
theorem stM_s {m : Nat → Nat → Int32} {K : Nat} {so n : Int32} (h : stV so n = 1) (e : ¬ so = -1) : stM m K so n = shM m K so n ∧ ∃ Z, n = nI Z ∧ Z ≤ 40 := by
  unfold stM
  unfold stV at h
  by_cases a : inR (-1) 2 so
  · rw [if_pos a, if_neg e] at h ⊢
    by_cases c : 40 < n
    · rw [if_pos c] at h; exact absurd h (by decide)
    · rw [if_neg c] at h ⊢
      by_cases d : n < 0
      · rw [if_pos d] at h; exact absurd h (by decide)
      · rw [if_neg d] at h ⊢
        have q : aixn n 41 = true := (aix_iff (by decide)).mpr ⟨d, fun z => c (Int32.lt_of_lt_of_le (by decide) z)⟩
        exact ⟨rfl, n.toNatClampNeg, (aix_eq q).1, by have := (aix_eq q).2; omega⟩
  · rw [if_neg a] at h; exact absurd h (by decide)
theorem cl40 {Z : Nat} (h : Z ≤ 40) : cl 0 40 (nI Z) = nI Z := by
  unfold cl
  rw [if_neg (nI_pos (by omega)), if_neg (show ¬ (40 : Int32) < nI Z from nI_nlt (a := 40) (b := Z) (by omega) (by decide))]
/-- one sheet is another -/
def shU (H : hS) (s : Nat) (q : Int32 × Nat × (Nat → Int32)) : hS := fun x => if x = s then q else H x
theorem oH.s {H : hS} (h : oH H) {s : Nat} {q : Int32 × Nat × (Nat → Int32)} (hq : q.2.1 ≤ 40) : oH (shU H s q) := fun x hx => by
  unfold shU
  by_cases e : x = s
  · rw [if_pos e]; exact hq
  · rw [if_neg e]; exact h x hx
theorem cIH.s {m m' : Nat → Nat → Int32} {H : hS} (h : cIH m H) {s : Nat} (hs : s < 4) (f : ∀ k j, ¬ (k = 55 + 2 * s ∨ k = 56 + 2 * s) → m' k j = m k j) {q : Int32 × Nat × (Nat → Int32)} (h1 : m' (55 + 2 * s) 0 = q.1) (h2 : m' (55 + 2 * s) 1 = nI q.2.1) (h3 : ∀ j, j < q.2.1 → m' (56 + 2 * s) j = q.2.2 j) : cIH m' (shU H s q) := fun x hx => by
  unfold shU
  by_cases e : x = s
  · rw [if_pos e, e]; exact ⟨h1, h2, h3⟩
  · rw [if_neg e]
    exact ⟨(f _ _ (by omega)).trans (h x hx).1, (f _ _ (by omega)).trans (h x hx).2.1, fun j hj => (f _ _ (by omega)).trans ((h x hx).2.2 j hj)⟩
theorem rIH.s {m m' : Nat → Nat → Int32} {H : hS} (o : oH H) (h : rIH m H) {s : Nat} (hs : s < 4) (f : ∀ k j, ¬ ((k = 97 ∨ k = 98 ∨ k = 99) ∧ j = s ∨ k = 100 ∧ 40 * s ≤ j ∧ j < 40 * s + 40) → 97 ≤ k → m' k j = m k j) {q : Int32 × Nat × (Nat → Int32)} (h0 : q.1 = -1 → m' 97 s = 0) (h1 : ¬ q.1 = -1 → m' 97 s = 1 ∧ m' 98 s = q.1 ∧ m' 99 s = nI q.2.1 ∧ ∀ j, j < q.2.1 → m' 100 (40 * s + j) = q.2.2 j) : rIH m' (shU H s q) := fun x hx => by
  unfold shU
  by_cases e : x = s
  · rw [if_pos e, e]; exact ⟨h0, h1⟩
  · rw [if_neg e]
    have o1 := o x hx
    refine ⟨fun z => (f _ _ (by omega) (by omega)).trans ((h x hx).1 z), fun z => ?_⟩
    obtain ⟨a1, a2, a3, a4⟩ := (h x hx).2 z
    exact ⟨(f _ _ (by omega) (by omega)).trans a1, (f _ _ (by omega) (by omega)).trans a2, (f _ _ (by omega) (by omega)).trans a3, fun j hj => (f _ _ (by omega) (by omega)).trans (a4 j hj)⟩
theorem p_sheet {W : aXt × Value} {sh so n : Int32} : PR W 98 210 [.int sh, .int so, .int n] := by
  intro m ml mr hI
  have hI0 := hI
  obtain ⟨hM, A, T, X, B, K, H, hC, hR, o⟩ := hI
  have h6 := o.2.2.1
  have hR6 : X.2.1 < 6 := Nat.lt_of_lt_of_le h6.2 h6.1
  by_cases g : aixn sh 4 = true
  · have z := c_sheet_ok (X := W) (mi := m) (ml := ml) hM g (so := so) (n := n)
    obtain ⟨s, rfl, hs⟩ := one_p g
    rw [sAt_s hs] at z
    have y := fun m1 w1 mr1 (hM1 : MRok mr1) => r_sheet_ok (X := W) (mi := m1) (ml := w1) (mr := mr1) hM1 hs (so := so) (n := n)
    by_cases c : stV so n = 1
    · by_cases e1 : so = -1
      · rw [stM_e c e1] at z
        refine PR_u (v := .int (stV so n)) (A := A) (T := T) (X := X) (B := B) (K := K) (H := H) (A' := A) (T' := T) (X' := X) (B' := B) (K' := K) (H' := shU H s (-1, 0, fun _ => 0)) ⟨o.1, o.2.1, o.2.2.1, o.2.2.2.1, o.2.2.2.2.1, o.2.2.2.2.2.s (Nat.zero_le _)⟩ (d := 3) (d2 := 3) (by decide) (by decide) (cw_mono z ?_) (fun m1 w1 mr1 hM1 hR1 => cw_mono (y m1 w1 mr1 hM1) ?_)
        · rintro r h ⟨e, e2⟩
          have off : ∀ k j, ¬ (k = 55 + 2 * s ∨ k = 56 + 2 * s) → shM m (55 + 2 * s) (-1) 0 k j = m k j := fun k j z => shM_o (by omega)
          exact ⟨e, _, _, _, e2, hM, ⟨hC.1.on o.1.1 (fun k j z => off k j (by unfold uA at z; omega)), hC.2.1.on (fun k j z => off k j (by unfold uT at z; omega)), hC.2.2.1.on o.2.2.1.1 (fun k j z => off k j (by unfold uX at z; omega)) rfl, hC.2.2.2.1.on (fun k j z => off k j (by unfold uB at z; omega)), hC.2.2.2.2.1.on (o.2.2.2.2.1.le o.1) (fun k j z => off k j (by unfold uK at z; omega)) rfl, hC.2.2.2.2.2.s hs off shM_0 (shM_1.trans (by decide)) (fun j hj => absurd hj (Nat.not_lt_zero j))⟩, hR.lo (fun k j z => off k j (by omega))⟩
        · rintro r h ⟨e, _, q, _⟩
          have e2 := q c e1
          have off : ∀ k j, ¬ ((k = 97 ∨ k = 98 ∨ k = 99) ∧ j = s) → aup (aup (aup m1 97 s 0) 98 s so) 99 s n k j = m1 k j := fun k j z => by rw [aup_o (by omega), aup_o (by omega), aup_o (by omega)]
          exact ⟨e, _, _, e2, fun k j z => off k j (by omega), ⟨hR1.1.on (fun k j z => off k j (by unfold wA at z; omega)), hR1.2.1.on (fun k j z => off k j (by unfold wT at z; omega)), hR1.2.2.1.on (fun k j z => off k j (by unfold wX at z; omega)), hR1.2.2.2.1.on (fun k j z => off k j (by unfold wB at z; omega)), hR1.2.2.2.2.1.on (fun k j z => off k j (by unfold wK at z; omega)), rIH.s o.2.2.2.2.2 hR1.2.2.2.2.2 hs (fun k j z _ => off k j (by omega)) (fun _ => by rw [aup_o (by omega), aup_o (by omega)]; exact aup_s) (fun z => absurd rfl z)⟩⟩
      · obtain ⟨e4, Z, rfl, hZ⟩ := stM_s (m := m) (K := 55 + 2 * s) c e1
        rw [e4] at z
        have hcl := nI_clamp (n := Z) (by omega)
        refine PR_u (v := .int (stV so (nI Z))) (A := A) (T := T) (X := X) (B := B) (K := K) (H := H) (A' := A) (T' := T) (X' := X) (B' := B) (K' := K) (H' := shU H s (so, Z, fun _ => 0)) ⟨o.1, o.2.1, o.2.2.1, o.2.2.2.1, o.2.2.2.2.1, o.2.2.2.2.2.s hZ⟩ (d := 3) (d2 := 3) (by decide) (by decide) (cw_mono z ?_) (fun m1 w1 mr1 hM1 hR1 => cw_mono (y m1 w1 mr1 hM1) ?_)
        · rintro r h ⟨e, e2⟩
          have off : ∀ k j, ¬ (k = 55 + 2 * s ∨ k = 56 + 2 * s) → shM m (55 + 2 * s) so (nI Z) k j = m k j := fun k j z => shM_o (by omega)
          exact ⟨e, _, _, _, e2, hM, ⟨hC.1.on o.1.1 (fun k j z => off k j (by unfold uA at z; omega)), hC.2.1.on (fun k j z => off k j (by unfold uT at z; omega)), hC.2.2.1.on o.2.2.1.1 (fun k j z => off k j (by unfold uX at z; omega)) rfl, hC.2.2.2.1.on (fun k j z => off k j (by unfold uB at z; omega)), hC.2.2.2.2.1.on (o.2.2.2.2.1.le o.1) (fun k j z => off k j (by unfold uK at z; omega)) rfl, hC.2.2.2.2.2.s hs off shM_0 (shM_1.trans (cl40 hZ)) (fun j hj => by rw [show 56 + 2 * s = 55 + 2 * s + 1 by omega]; exact shM_i (Nat.lt_of_lt_of_le hj hZ))⟩, hR.lo (fun k j z => off k j (by omega))⟩
        · rintro r h ⟨e, _, _, q⟩
          obtain ⟨m', e2, f, k0⟩ := q c e1
          rw [hcl] at f k0
          have off : ∀ k j, ¬ ((k = 97 ∨ k = 98 ∨ k = 99) ∧ j = s ∨ k = 100 ∧ 40 * s ≤ j ∧ j < 40 * s + 40) → m' k j = m1 k j := fun k j z => by rw [f k j (by omega), aup_o (by omega), aup_o (by omega), aup_o (by omega)]
          exact ⟨e, _, _, e2, fun k j z => off k j (by omega), ⟨hR1.1.on (fun k j z => off k j (by unfold wA at z; omega)), hR1.2.1.on (fun k j z => off k j (by unfold wT at z; omega)), hR1.2.2.1.on (fun k j z => off k j (by unfold wX at z; omega)), hR1.2.2.2.1.on (fun k j z => off k j (by unfold wB at z; omega)), hR1.2.2.2.2.1.on (fun k j z => off k j (by unfold wK at z; omega)), rIH.s o.2.2.2.2.2 hR1.2.2.2.2.2 hs (fun k j z _ => off k j z) (fun z => absurd z e1) (fun _ => ⟨by rw [f 97 s (by omega), aup_o (by omega), aup_o (by omega)]; exact aup_s, by rw [f 98 s (by omega), aup_o (by omega)]; exact aup_s, by rw [f 99 s (by omega)]; exact aup_s, fun j hj => k0 j hj⟩)⟩⟩
    · rw [stM_no c] at z
      exact PR_s hI0 (d := 3) (d2 := 3) (by decide) (by decide) z (cw_mono (y m ml mr hM) (fun r h q => ⟨q.1, m, ml, q.2.1 c, frQ.rf m⟩))
  · exact PR_s hI0 (d := 3) (d2 := 3) (by decide) (by decide) (c_sheet_no (X := W) (ml := ml) hM g) (sm_qR (r_sheet_no hM g))
theorem hsF_n {Z : Nat} {i : Int32} (hZ : Z ≤ 40) (h : ¬ hsF (nI Z) i = 0) : i.toNatClampNeg < Z := by
  have q := aix_eq (hsF_ix h)
  unfold hsF at h
  by_cases c1 : i < 0
  · rw [if_pos c1] at h; exact absurd rfl h
  · rw [if_neg c1] at h
    by_cases c2 : nI Z ≤ i
    · rw [if_pos c2] at h; exact absurd rfl h
    · have e : ¬ (Z : Int) ≤ i.toInt := fun z => c2 (Int32.le_iff_toInt_le.mpr (by rw [nI_toInt (by omega)]; exact z))
      have e2 := congrArg Int32.toInt q.1
      have q2 := q.2
      rw [nI_toInt (by omega)] at e2
      omega
theorem p_cell {W : aXt × Value} {sh i v : Int32} : PR W 99 211 [.int sh, .int i, .int v] := by
  intro m ml mr hI
  have hI0 := hI
  obtain ⟨hM, A, T, X, B, K, H, hC, hR, o⟩ := hI
  have h6 := o.2.2.1
  have hR6 : X.2.1 < 6 := Nat.lt_of_lt_of_le h6.2 h6.1
  by_cases g : aixn sh 4 = true
  · have z := c_cell_ok (X := W) (mi := m) (ml := ml) hM g (i := i) (v := v)
    obtain ⟨s, rfl, hs⟩ := one_p g
    obtain ⟨b1, b2, b3⟩ := hC.2.2.2.2.2 s hs
    rw [sAt_s hs, b1, b2, show 55 + 2 * s + 1 = 56 + 2 * s by omega] at z
    have hZ := o.2.2.2.2.2 s hs
    by_cases e1 : (H s).1 = -1
    · rw [if_pos e1, if_pos e1] at z
      exact PR_s hI0 (d := 3) (d2 := 3) (by decide) (by decide) z (sm_qR (r_cell_0 hM hs ((hR.2.2.2.2.2 s hs).1 e1)))
    · rw [if_neg e1, if_neg e1] at z
      have y := fun m1 w1 mr1 (hM1 : MRok mr1) (hR1 : RI m1 A T X B K H) => r_cell_1 (X := W) (mi := m1) (ml := w1) (mr := mr1) hM1 hs ((hR1.2.2.2.2.2 s hs).2 e1).1 ((hR1.2.2.2.2.2 s hs).2 e1).2.2.1 hZ (i := i) (v := v)
      by_cases c : hsF (nI (H s).2.1) i = 0
      · rw [if_pos c, if_pos c] at z
        have y0 := y m ml mr hM hR
        rw [if_pos c, if_pos c] at y0
        exact PR_s hI0 (d := 3) (d2 := 3) (by decide) (by decide) z (sm_qR y0)
      · rw [if_neg c, if_neg c] at z
        have hi := hsF_n hZ c
        refine PR_u (v := .int (1)) (A := A) (T := T) (X := X) (B := B) (K := K) (H := H) (A' := A) (T' := T) (X' := X) (B' := B) (K' := K) (H' := shU H s ((H s).1, (H s).2.1, fun j => if j = i.toNatClampNeg then siF (H s).1 v else (H s).2.2 j)) ⟨o.1, o.2.1, o.2.2.1, o.2.2.2.1, o.2.2.2.2.1, o.2.2.2.2.2.s hZ⟩ (d := 3) (d2 := 3) (by decide) (by decide) (cw_mono z ?_) (fun m1 w1 mr1 hM1 hR1 => cw_mono (y m1 w1 mr1 hM1 hR1) ?_)
        · rintro r h ⟨e, e2⟩
          have off : ∀ k j, ¬ (k = 56 + 2 * s ∧ j = i.toNatClampNeg) → aup m (56 + 2 * s) i.toNatClampNeg (siF (H s).1 v) k j = m k j := fun k j z => aup_o z
          refine ⟨e, _, _, _, e2, hM, ⟨hC.1.on o.1.1 (fun k j z => off k j (by unfold uA at z; omega)), hC.2.1.on (fun k j z => off k j (by unfold uT at z; omega)), hC.2.2.1.on o.2.2.1.1 (fun k j z => off k j (by unfold uX at z; omega)) rfl, hC.2.2.2.1.on (fun k j z => off k j (by unfold uB at z; omega)), hC.2.2.2.2.1.on (o.2.2.2.2.1.le o.1) (fun k j z => off k j (by unfold uK at z; omega)) rfl, hC.2.2.2.2.2.s hs (fun k j z => off k j (by omega)) ((off _ _ (by omega)).trans b1) ((off _ _ (by omega)).trans b2) (fun j hj => ?_)⟩, hR.lo (fun k j z => off k j (by omega))⟩
          show _ = if j = i.toNatClampNeg then _ else _
          by_cases e : j = i.toNatClampNeg
          · rw [if_pos e, e]; exact aup_s
          · rw [if_neg e, off _ _ (by omega)]; exact b3 j hj
        · rintro r h ⟨e, e2⟩
          rw [if_neg c] at e e2
          obtain ⟨d1, d2, d3, d4⟩ := (hR1.2.2.2.2.2 s hs).2 e1
          rw [d2] at e2
          have off : ∀ k j, ¬ (k = 100 ∧ j = 40 * s + i.toNatClampNeg) → aup m1 100 (40 * s + i.toNatClampNeg) (siF (H s).1 v) k j = m1 k j := fun k j z => aup_o z
          refine ⟨e, _, _, e2, fun k j z => off k j (by omega), ⟨hR1.1.on (fun k j z => off k j (by unfold wA at z; omega)), hR1.2.1.on (fun k j z => off k j (by unfold wT at z; omega)), hR1.2.2.1.on (fun k j z => off k j (by unfold wX at z; omega)), hR1.2.2.2.1.on (fun k j z => off k j (by unfold wB at z; omega)), hR1.2.2.2.2.1.on (fun k j z => off k j (by unfold wK at z; omega)), rIH.s o.2.2.2.2.2 hR1.2.2.2.2.2 hs (fun k j z _ => off k j (by omega)) (fun z => absurd z e1) (fun _ => ⟨(off _ _ (by omega)).trans d1, (off _ _ (by omega)).trans d2, (off _ _ (by omega)).trans d3, fun j hj => ?_⟩)⟩⟩
          show _ = if j = i.toNatClampNeg then _ else _
          by_cases e : j = i.toNatClampNeg
          · rw [if_pos e, e]; exact aup_s
          · rw [if_neg e, off _ _ (by omega)]; exact d4 j hj
  · exact PR_s hI0 (d := 3) (d2 := 3) (by decide) (by decide) (c_cell_no (X := W) (ml := ml) hM g) (sm_qR (r_cell_no hM g))
