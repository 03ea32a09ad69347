/-! learners that come, what is set: class and reference alike (written by wip/whole/mkinv5.py) -/
theorem g_learner {X : aXt × Value} {m : Nat → Nat → Int32} {ml : Nat → Nat → Int64} {mr : Nat → Nat → Option Nat} (hM : MRok mr) {s : lS} (h : LSt m s) {kd nu : Int32} : aCW X 4 69 [.ref 0, .int kd, .int nu] (HD, m, ml, mr) (fun r h' => r = some (.int (coV s kd nu)) ∧ ∃ m', h' = (HD, m', ml, mr) ∧ LSt m' (coS s kd nu) ∧ frP m m') := by
  obtain ⟨h1, h2, h3⟩ := h
  obtain ⟨r, h', g, e1, e2⟩ := c_learner (X := X) (ml := ml) hM h1 h2 (kd := kd) (nu := nu)
  refine ⟨r, h', g, e1, _, e2, ?_⟩
  unfold coS
  by_cases hG : inR 0 5 kd ∧ inR 0 9 nu
  · rw [if_pos hG, if_pos hG]
    by_cases h5 : s.1 < 5
    · rw [if_pos h5, if_pos h5]
      refine ⟨⟨rfl, h5, fun p hp => ?_⟩, fun x j hx hj => ?_⟩
      · by_cases e : p = s.1
        · subst e
          show _ = if s.1 = s.1 then _ else _
          rw [if_pos rfl]
          refine Prod.ext ?_ (Prod.ext ?_ (Prod.ext ?_ (Prod.ext ?_ (funext fun j => ?_)))) <;> first | (simp [puC, aup, afil, c8]; done) | (simp [puC, aup, afil, c8]; omega)
        · show _ = if p = s.1 then _ else _
          rw [if_neg e, ← h3 p hp]
          have a1 : ¬ 35 + 4 * p = 0 := by omega
          have a2 : ¬ 35 + 4 * p = 35 + 4 * s.1 + 1 := by omega
          have a3 : ¬ 35 + 4 * p = 35 + 4 * s.1 := by omega
          have a4 : ¬ 35 + 4 * p + 1 = 0 := by omega
          have a5 : ¬ 35 + 4 * p + 1 = 35 + 4 * s.1 + 1 := by omega
          have a6 : ¬ 35 + 4 * p + 1 = 35 + 4 * s.1 := by omega
          refine Prod.ext ?_ (Prod.ext ?_ (Prod.ext ?_ (Prod.ext ?_ (funext fun j => ?_)))) <;> simp only [puC, aup, afil, c8, if_neg a1, if_neg a2, if_neg a3, if_neg a4, if_neg a5, if_neg a6]
      · have q := hx s.1 h5
        simp only [aup, afil]
        rw [if_neg q.2, if_neg q.1]
        by_cases x0 : x = 0
        · rw [if_pos x0, if_neg (fun z => hj ⟨x0, z⟩)]; simp [if_neg q.1]
        · rw [if_neg x0]; simp [if_neg q.1]
    · rw [if_neg h5, if_neg h5]
      exact ⟨⟨h1, h2, h3⟩, frP.rf m⟩
  · rw [if_neg hG, if_neg hG]
    exact ⟨⟨h1, h2, h3⟩, frP.rf m⟩
/-- as many learners, the same ones -/
def agr (s A : lS) : Prop := s.1 = A.1 ∧ ∀ p, p < A.1 → s.2 p = A.2 p
theorem agr_co {s A : lS} (h : agr s A) (kd nu : Int32) : agr (coS s kd nu) (coS A kd nu) ∧ coV s kd nu = coV A kd nu := by
  obtain ⟨h1, h2⟩ := h
  unfold coS coV
  rw [h1]
  by_cases g : inR 0 5 kd ∧ inR 0 9 nu
  · rw [if_pos g, if_pos g, if_pos g]
    by_cases g2 : A.1 < 5
    · rw [if_pos g2, if_pos g2, if_pos g2]
      refine ⟨⟨rfl, fun p hp => ?_⟩, rfl⟩
      show (if p = A.1 then _ else s.2 p) = (if p = A.1 then _ else A.2 p)
      by_cases e : p = A.1
      · rw [if_pos e, if_pos e]
      · rw [if_neg e, if_neg e]; exact h2 p (by have : p < A.1 + 1 := hp; omega)
    · rw [if_neg g2, if_neg g2, if_neg g2]; exact ⟨⟨h1, h2⟩, rfl⟩
  · rw [if_neg g, if_neg g, if_neg g]; exact ⟨⟨h1, h2⟩, rfl⟩
theorem coS_ok {A : lS} (h : oA A) (kd nu : Int32) : oA (coS A kd nu) ∧ A.1 ≤ (coS A kd nu).1 ∧ ∀ p, p < A.1 → (coS A kd nu).2 p = A.2 p := by
  unfold coS
  by_cases g : inR 0 5 kd ∧ inR 0 9 nu
  · rw [if_pos g]
    by_cases g2 : A.1 < 5
    · rw [if_pos g2]
      refine ⟨⟨g2, fun p hp => ?_⟩, Nat.le_succ _, fun p hp => if_neg (by omega)⟩
      show okU (if p = A.1 then (kd, nu, 0, 0, fun _ => 0) else A.2 p)
      by_cases e : p = A.1
      · rw [if_pos e]; exact ⟨g.1, g.2, show inR 0 99 0 by decide, show inR 0 999 0 by decide, fun j _ => show inR 0 99 0 by decide⟩
      · rw [if_neg e]; exact h.2 p (by have : p < A.1 + 1 := hp; omega)
    · rw [if_neg g2]; exact ⟨h, Nat.le_refl _, fun _ _ => rfl⟩
  · rw [if_neg g]; exact ⟨h, Nat.le_refl _, fun _ _ => rfl⟩
theorem oK.more {A A' : lS} {X : xS} {K : Option kS} (h : oK A X K) (hn : A.1 ≤ A'.1) (hk : ∀ p, p < A.1 → A'.2 p = A.2 p) : oK A' X K := by
  cases K with
  | none => exact trivial
  | some k => exact ⟨Nat.le_trans h.1 hn, h.2.1, h.2.2.1, fun p hp => ⟨(h.2.2.2 p hp).1, (h.2.2.2 p hp).2.trans (by rw [hk p (Nat.lt_of_lt_of_le hp h.1)])⟩⟩
theorem cIA.ls {m : Nat → Nat → Int32} {A : lS} (h : cIA m A) (o : A.1 ≤ 5) : LSt m (A.1, fun p => puC m (35 + 4 * p)) ∧ agr (A.1, fun p => puC m (35 + 4 * p)) A := ⟨⟨h.1, o, fun _ _ => rfl⟩, rfl, fun p hp => h.2 p hp⟩
theorem rIA.ls {m : Nat → Nat → Int32} {A : lS} (h : rIA m A) (o : A.1 ≤ 5) : LSr m (A.1, fun p => puR m p) ∧ agr (A.1, fun p => puR m p) A := ⟨⟨h.1, o, fun _ _ => rfl⟩, rfl, fun p hp => h.2 p hp⟩
theorem ls_c {m : Nat → Nat → Int32} {s A : lS} (h : LSt m s) (g : agr s A) : cIA m A := ⟨g.1 ▸ h.1, fun p hp => (h.2.2 p (by have := h.2.1; rw [g.1] at this; omega)).trans (g.2 p hp)⟩
theorem ls_r {m : Nat → Nat → Int32} {s A : lS} (h : LSr m s) (g : agr s A) : rIA m A := ⟨g.1 ▸ h.1, fun p hp => (h.2.2 p (by have := h.2.1; rw [g.1] at this; omega)).trans (g.2 p hp)⟩
theorem frP.of {m m' : Nat → Nat → Int32} (f : frP m m') : ∀ k j, ¬ ((35 ≤ k ∧ k < 55 ∧ (k % 4 = 3 ∨ k % 4 = 0)) ∨ k = 0 ∧ j = 5) → m' k j = m k j := fun k j z => f k j (fun p hp => by omega) (by omega)
theorem frL.of {m m' : Nat → Nat → Int32} (f : frL m m') : ∀ k j, ¬ (k = 84 ∧ j = 12 ∨ k = 89 ∨ k = 90 ∨ k = 91) → m' k j = m k j := fun k j z => f k j (by omega) (by omega) (by omega) (by omega)
theorem p_learner {W : aXt × Value} {kd nu : Int32} : PR W 69 122 [.int kd, .int nu] := by
  intro m ml mr hI
  have hI0 := hI
  obtain ⟨hM, A, T, X, B, K, H, hC, hR, o⟩ := hI
  have h6 := o.2.2.1
  have hR6 : X.2.1 < 6 := Nat.lt_of_lt_of_le h6.2 h6.1
  obtain ⟨l1, l2⟩ := hC.1.ls o.1.1
  have z := g_learner (X := W) (ml := ml) hM l1 (kd := kd) (nu := nu)
  obtain ⟨g1, g2⟩ := agr_co l2 kd nu
  rw [g2] at z
  obtain ⟨ok1, ok2, ok3⟩ := coS_ok o.1 kd nu
  have y := fun m1 w1 mr1 (hM1 : MRok mr1) (hR1 : RI m1 A T X B K H) => r_learner (X := W) (mi := m1) (ml := w1) (mr := mr1) hM1 (hR1.1.ls o.1.1).1 (kd := kd) (nu := nu)
  refine PR_u (v := .int (coV A kd nu)) (A := A) (T := T) (X := X) (B := B) (K := K) (H := H) (A' := coS A kd nu) (T' := T) (X' := X) (B' := B) (K' := K) (H' := H) ⟨ok1, o.2.1, o.2.2.1, o.2.2.2.1, o.2.2.2.2.1.more ok2 ok3, o.2.2.2.2.2⟩ (d := 4) (d2 := 4) (by decide) (by decide) (cw_mono z ?_) (fun m1 w1 mr1 hM1 hR1 => cw_mono (y m1 w1 mr1 hM1 hR1) ?_)
  · rintro r h ⟨e, m', e2, l3, f⟩
    have off := f.of
    exact ⟨e, _, _, _, e2, hM, ⟨ls_c l3 g1, hC.2.1.on (fun k j z => off k j (by unfold uT at z; omega)), hC.2.2.1.on o.2.2.1.1 (fun k j z => off k j (by unfold uX at z; omega)) rfl, hC.2.2.2.1.on (fun k j z => off k j (by unfold uB at z; omega)), hC.2.2.2.2.1.on (o.2.2.2.2.1.le o.1) (fun k j z => off k j (by unfold uK at z; omega)) rfl, hC.2.2.2.2.2.on (fun k j z => off k j (by unfold uH at z; omega))⟩, hR.lo (fun k j z => off k j (by omega))⟩
  · rintro r h ⟨e, m', e2, l3, f⟩
    have off := f.of
    obtain ⟨g3, g4⟩ := agr_co (hR1.1.ls o.1.1).2 kd nu
    rw [g4] at e
    exact ⟨e, _, _, e2, fun k j z => off k j (by omega), ⟨ls_r l3 g3, hR1.2.1.on (fun k j z => off k j (by unfold wT at z; omega)), hR1.2.2.1.on (fun k j z => off k j (by unfold wX at z; omega)), hR1.2.2.2.1.on (fun k j z => off k j (by unfold wB at z; omega)), hR1.2.2.2.2.1.on (fun k j z => off k j (by unfold wK at z; omega)), hR1.2.2.2.2.2.on (fun k j z => off k j (by unfold wH at z; omega))⟩⟩
theorem hsF_0 {sz i : Int32} (h : ¬ hsF sz i = 0) : ¬ i < 0 := fun z => h (if_pos z)
theorem lrS_cg {Z : Nat} (hZ : Z ≤ 40) {it it' : Nat → Int32} (hi : ∀ j, j < Z → it j = it' j) : ∀ (g : Nat) (a ca : Int32) (s A : lS), agr s A → (lrS (nI Z) it g a ca s).1 = (lrS (nI Z) it' g a ca A).1 ∧ agr (lrS (nI Z) it g a ca s).2 (lrS (nI Z) it' g a ca A).2 := by
  intro g
  induction g with
  | zero => intro a ca s A h; exact ⟨rfl, h⟩
  | succ g ih =>
    intro a ca s A h
    unfold lrS
    by_cases c1 : hsF (nI Z) a = 0
    · rw [if_pos c1, if_pos c1]; exact ⟨rfl, h⟩
    · rw [if_neg c1, if_neg c1]
      by_cases c2 : hsF (nI Z) (a + 1) = 0
      · rw [if_pos c2, if_pos c2]; exact ⟨rfl, h⟩
      · rw [if_neg c2, if_neg c2, hi _ (hsF_n hZ c1), hi _ (hsF_n hZ c2)]
        obtain ⟨g1, g2⟩ := agr_co h (it' a.toNatClampNeg) (it' (a + 1).toNatClampNeg)
        rw [g2]
        exact ih _ _ _ _ g1
theorem lrS_ok {sz : Int32} {it : Nat → Int32} : ∀ (g : Nat) (a ca : Int32) (A : lS), oA A → oA (lrS sz it g a ca A).2 ∧ A.1 ≤ (lrS sz it g a ca A).2.1 ∧ ∀ p, p < A.1 → (lrS sz it g a ca A).2.2 p = A.2 p := by
  intro g
  induction g with
  | zero => intro a ca A h; exact ⟨h, Nat.le_refl _, fun _ _ => rfl⟩
  | succ g ih =>
    intro a ca A h
    unfold lrS
    by_cases c1 : hsF sz a = 0
    · rw [if_pos c1]; exact ⟨h, Nat.le_refl _, fun _ _ => rfl⟩
    · rw [if_neg c1]
      by_cases c2 : hsF sz (a + 1) = 0
      · rw [if_pos c2]; exact ⟨h, Nat.le_refl _, fun _ _ => rfl⟩
      · rw [if_neg c2]
        obtain ⟨k1, k2, k3⟩ := coS_ok h (it a.toNatClampNeg) (it (a + 1).toNatClampNeg)
        obtain ⟨q1, q2, q3⟩ := ih (a + 2) (if coV A (it a.toNatClampNeg) (it (a + 1).toNatClampNeg) < 0 then ca else ca + 1) _ k1
        exact ⟨q1, Nat.le_trans k2 q2, fun p hp => (q3 p (Nat.lt_of_lt_of_le hp k2)).trans (k3 p hp)⟩
theorem p_learners {W : aXt × Value} {sh so fr n : Int32} : PR W 101 213 [.int sh, .int so, .int fr, .int n] := by
  intro m ml mr hI
  have hI0 := hI
  obtain ⟨hM, A, T, X, B, K, H, hC, hR, o⟩ := hI
  have h6 := o.2.2.1
  have hR6 : X.2.1 < 6 := Nat.lt_of_lt_of_le h6.2 h6.1
  by_cases g : aixn sh 4 = true
  · obtain ⟨l1, l2⟩ := hC.1.ls o.1.1
    have z := c_learners_ok (X := W) (ml := ml) hM g l1 (so := so) (fr := fr) (n := n)
    obtain ⟨s, rfl, hs⟩ := one_p g
    obtain ⟨b1, b2, b3⟩ := hC.2.2.2.2.2 s hs
    rw [sAt_s hs, b1, b2, show 55 + 2 * s + 1 = 56 + 2 * s by omega] at z
    have hZ := o.2.2.2.2.2 s hs
    obtain ⟨g1, g2⟩ := lrS_cg hZ (it := m (56 + 2 * s)) (it' := (H s).2.2) b3 n.toNatClampNeg fr 0 _ _ l2
    rw [g1] at z
    by_cases e1 : (H s).1 = -1
    · rw [if_pos e1, if_neg (show ¬ (inR 0 2 so ∧ inR 0 5 n ∧ ¬ (H s).1 = -1 ∧ (H s).1 = so) from fun q => q.2.2.1 e1)] at z
      refine PR_u (v := .int (if inR 0 2 so ∧ inR 0 5 n then -11 else -2)) (A := A) (T := T) (X := X) (B := B) (K := K) (H := H) (A' := A) (T' := T) (X' := X) (B' := B) (K' := K) (H' := H) o (d := 4) (d2 := 5) (by decide) (by decide) (cw_mono z ?_) (fun m1 w1 mr1 hM1 hR1 => cw_mono (r_learners_0 (X := W) (mi := m1) (ml := w1) hM1 hs ((hR1.2.2.2.2.2 s hs).1 e1)) ?_)
      · rintro r h ⟨e, m', e2, l3, f⟩
        have off := f.of
        exact ⟨e, _, _, _, e2, hM, ⟨ls_c l3 l2, hC.2.1.on (fun k j z => off k j (by unfold uT at z; omega)), hC.2.2.1.on o.2.2.1.1 (fun k j z => off k j (by unfold uX at z; omega)) rfl, hC.2.2.2.1.on (fun k j z => off k j (by unfold uB at z; omega)), hC.2.2.2.2.1.on (o.2.2.2.2.1.le o.1) (fun k j z => off k j (by unfold uK at z; omega)) rfl, hC.2.2.2.2.2.on (fun k j z => off k j (by unfold uH at z; omega))⟩, hR.lo (fun k j z => off k j (by omega))⟩
      · rintro r h ⟨e, e2⟩
        exact ⟨e, _, _, e2, fun _ _ _ => rfl, hR1⟩
    · rw [if_neg e1] at z
      have y := fun m1 w1 mr1 (hM1 : MRok mr1) (hR1 : RI m1 A T X B K H) => r_learners_1 (X := W) (mi := m1) (ml := w1) (mr := mr1) hM1 hs ((hR1.2.2.2.2.2 s hs).2 e1).1 ((hR1.2.2.2.2.2 s hs).2 e1).2.2.1 hZ (so := so) (fr := fr) (n := n) (hR1.1.ls o.1.1).1
      by_cases c : inR 0 2 so ∧ inR 0 5 n ∧ (H s).1 = so
      · rw [if_pos (show inR 0 2 so ∧ inR 0 5 n ∧ ¬ (H s).1 = -1 ∧ (H s).1 = so from ⟨c.1, c.2.1, e1, c.2.2⟩)] at z
        obtain ⟨ok1, ok2, ok3⟩ := lrS_ok (sz := nI (H s).2.1) (it := (H s).2.2) n.toNatClampNeg fr 0 A o.1
        refine PR_u (v := .int (if inR 0 2 so ∧ inR 0 5 n then (if (H s).1 = so then (lrS (nI (H s).2.1) (H s).2.2 n.toNatClampNeg fr 0 A).1 else -13) else -2)) (A := A) (T := T) (X := X) (B := B) (K := K) (H := H) (A' := (lrS (nI (H s).2.1) (H s).2.2 n.toNatClampNeg fr 0 A).2) (T' := T) (X' := X) (B' := B) (K' := K) (H' := H) ⟨ok1, o.2.1, o.2.2.1, o.2.2.2.1, o.2.2.2.2.1.more ok2 ok3, o.2.2.2.2.2⟩ (d := 4) (d2 := 5) (by decide) (by decide) (cw_mono z ?_) (fun m1 w1 mr1 hM1 hR1 => cw_mono (y m1 w1 mr1 hM1 hR1) ?_)
        · rintro r h ⟨e, m', e2, l3, f⟩
          have off := f.of
          exact ⟨e, _, _, _, e2, hM, ⟨ls_c l3 g2, hC.2.1.on (fun k j z => off k j (by unfold uT at z; omega)), hC.2.2.1.on o.2.2.1.1 (fun k j z => off k j (by unfold uX at z; omega)) rfl, hC.2.2.2.1.on (fun k j z => off k j (by unfold uB at z; omega)), hC.2.2.2.2.1.on (o.2.2.2.2.1.le o.1) (fun k j z => off k j (by unfold uK at z; omega)) rfl, hC.2.2.2.2.2.on (fun k j z => off k j (by unfold uH at z; omega))⟩, hR.lo (fun k j z => off k j (by omega))⟩
        · rintro r h ⟨e, m', e2, l3, f⟩
          have off := f.of
          obtain ⟨d1, d2, d3, d4⟩ := (hR1.2.2.2.2.2 s hs).2 e1
          obtain ⟨g3, g4⟩ := lrS_cg hZ (it := fun j => m1 100 (40 * s + j)) (it' := (H s).2.2) d4 n.toNatClampNeg fr 0 _ _ (hR1.1.ls o.1.1).2
          rw [g3, d2] at e
          rw [d2, if_pos c] at l3
          exact ⟨e, _, _, e2, fun k j z => off k j (by omega), ⟨ls_r l3 g4, hR1.2.1.on (fun k j z => off k j (by unfold wT at z; omega)), hR1.2.2.1.on (fun k j z => off k j (by unfold wX at z; omega)), hR1.2.2.2.1.on (fun k j z => off k j (by unfold wB at z; omega)), hR1.2.2.2.2.1.on (fun k j z => off k j (by unfold wK at z; omega)), hR1.2.2.2.2.2.on (fun k j z => off k j (by unfold wH at z; omega))⟩⟩
      · rw [if_neg (show ¬ (inR 0 2 so ∧ inR 0 5 n ∧ ¬ (H s).1 = -1 ∧ (H s).1 = so) from fun q => c ⟨q.1, q.2.1, q.2.2.2⟩)] at z
        refine PR_u (v := .int (if inR 0 2 so ∧ inR 0 5 n then (if (H s).1 = so then (lrS (nI (H s).2.1) (H s).2.2 n.toNatClampNeg fr 0 A).1 else -13) else -2)) (A := A) (T := T) (X := X) (B := B) (K := K) (H := H) (A' := A) (T' := T) (X' := X) (B' := B) (K' := K) (H' := H) o (d := 4) (d2 := 5) (by decide) (by decide) (cw_mono z ?_) (fun m1 w1 mr1 hM1 hR1 => cw_mono (y m1 w1 mr1 hM1 hR1) ?_)
        · rintro r h ⟨e, m', e2, l3, f⟩
          have off := f.of
          exact ⟨e, _, _, _, e2, hM, ⟨ls_c l3 l2, hC.2.1.on (fun k j z => off k j (by unfold uT at z; omega)), hC.2.2.1.on o.2.2.1.1 (fun k j z => off k j (by unfold uX at z; omega)) rfl, hC.2.2.2.1.on (fun k j z => off k j (by unfold uB at z; omega)), hC.2.2.2.2.1.on (o.2.2.2.2.1.le o.1) (fun k j z => off k j (by unfold uK at z; omega)) rfl, hC.2.2.2.2.2.on (fun k j z => off k j (by unfold uH at z; omega))⟩, hR.lo (fun k j z => off k j (by omega))⟩
        · rintro r h ⟨e, m', e2, l3, f⟩
          have off := f.of
          obtain ⟨d1, d2, d3, d4⟩ := (hR1.2.2.2.2.2 s hs).2 e1
          obtain ⟨g3, g4⟩ := lrS_cg hZ (it := fun j => m1 100 (40 * s + j)) (it' := (H s).2.2) d4 n.toNatClampNeg fr 0 _ _ (hR1.1.ls o.1.1).2
          rw [g3, d2] at e
          rw [d2, if_neg c] at l3
          exact ⟨e, _, _, e2, fun k j z => off k j (by omega), ⟨ls_r l3 (hR1.1.ls o.1.1).2, hR1.2.1.on (fun k j z => off k j (by unfold wT at z; omega)), hR1.2.2.1.on (fun k j z => off k j (by unfold wX at z; omega)), hR1.2.2.2.1.on (fun k j z => off k j (by unfold wB at z; omega)), hR1.2.2.2.2.1.on (fun k j z => off k j (by unfold wK at z; omega)), hR1.2.2.2.2.2.on (fun k j z => off k j (by unfold wH at z; omega))⟩⟩
  · exact PR_s hI0 (d := 4) (d2 := 5) (by decide) (by decide) (c_learners_no (X := W) (ml := ml) hM g) (sm_qR (r_learners_no hM g))
