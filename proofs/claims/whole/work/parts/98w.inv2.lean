/-! feed, force, drive, night: class and reference alike (written by wip/whole/mkinv2.py) -/
theorem aup_o {m : Nat → Nat → Int32} {a b k j : Nat} {v : Int32} (h : ¬ (k = a ∧ j = b)) : aup m a b v k j = m k j := by
  unfold aup
  by_cases e : k = a
  · rw [if_pos e, if_neg (fun z => h ⟨e, z⟩)]
  · rw [if_neg e]
theorem aup_s {m : Nat → Nat → Int32} {a b : Nat} {v : Int32} : aup m a b v a b = v := by simp [aup]
theorem RI.lo {m m' : Nat → Nat → Int32} {A : lS} {T : tS} {X : xS} {B : bS} {K : Option kS} {H : hS} (h : RI m A T X B K H) (f : ∀ k j, 84 ≤ k → m' k j = m k j) : RI m' A T X B K H := h.on (fun k j a _ _ _ => f k j a)
theorem CI.hi {m m' : Nat → Nat → Int32} {mr : Nat → Nat → Option Nat} {A : lS} {T : tS} {X : xS} {B : bS} {K : Option kS} {H : hS} (o : OK A T X B K H) (h : CI m mr A T X B K H) (f : ∀ k j, k < 84 → m' k j = m k j) : CI m' mr A T X B K H := h.on o (fun k j a _ => f k j a) rfl rfl
/-- what holds is changed on both sides -/
theorem PR_u {P : Value → Prop} {W : aXt × Value} {c r : Nat} {as : List Value} {m : Nat → Nat → Int32} {ml : Nat → Nat → Int64} {mr : Nat → Nat → Option Nat} {A A' : lS} {T T' : tS} {X X' : xS} {B B' : bS} {K K' : Option kS} {H H' : hS} (o : OK A' T' X' B' K' H') {v : Value} {d d2 : Nat} (hd : d ≤ 90) (hd2 : d2 ≤ 90) (k1 : aCW W d c (.ref 0 :: as) (HD, m, ml, mr) (fun r h' => r = some v ∧ ∃ m1 w1 mr1, h' = (HD, m1, w1, mr1) ∧ MRok mr1 ∧ CI m1 mr1 A' T' X' B' K' H' ∧ RI m1 A T X B K H)) (k2 : ∀ m1 w1 mr1, MRok mr1 → RI m1 A T X B K H → aCW W d2 r (.ref 84 :: as) (HD, m1, w1, mr1) (fun r h' => r = some v ∧ ∃ m2 w2, h' = (HD, m2, w2, mr1) ∧ (∀ k j, k < 84 → m2 k j = m1 k j) ∧ RI m2 A' T' X' B' K' H')) (hv : P v := by exact ⟨_, rfl⟩) : aCW W 90 c (.ref 0 :: as) (HD, m, ml, mr) (fun v h' => ∃ v0 m1 w1 mr1, P v0 ∧ v = some v0 ∧ h' = (HD, m1, w1, mr1) ∧ aCW W 90 r (.ref 84 :: as) (HD, m1, w1, mr1) (fun v2 h2 => v2 = some v0 ∧ ∃ m2 w2, h2 = (HD, m2, w2, mr1) ∧ INV m2 mr1)) := by
  refine cw_up hd (cw_mono k1 ?_)
  rintro r1 h1 ⟨e, m1, w1, mr1, e2, hM1, c1, i1⟩
  refine ⟨v, m1, w1, mr1, hv, e, e2, cw_up hd2 (cw_mono (k2 m1 w1 mr1 hM1 i1) ?_)⟩
  rintro r2 h2 ⟨e3, m2, w2, e4, f2, i2⟩
  exact ⟨e3, m2, w2, e4, hM1, A', T', X', B', K', H', c1.hi o f2, i2, o⟩
theorem p_feed {W : aXt × Value} {x : Int32} : PR W 73 124 [.int x] := by
  intro m ml mr hI
  have hI0 := hI
  obtain ⟨hM, A, T, X, B, K, H, hC, hR, o⟩ := hI
  have h6 := o.2.2.1
  have hR6 : X.2.1 < 6 := Nat.lt_of_lt_of_le h6.2 h6.1
  have z := c_feed (X := W) (ml := ml) hM o.2.2.2.1.1 hC.2.2.2.1.1 (x := x)
  have y := fun m1 w1 mr1 (hM1 : MRok mr1) (hR1 : RI m1 A T X B K H) => r_feed (X := W) (mi := m1) (ml := w1) hM1 o.2.2.2.1.1 hR1.2.2.2.1.1 (x := x)
  by_cases g : inR 0 255 x
  · rw [if_pos g, if_pos g] at z
    by_cases g2 : B.1 < 160
    · rw [if_pos g2, if_pos g2] at z
      have ob : oB (B.1 + 1, fun j => if j = B.1 then x else B.2 j) := ⟨g2, fun p hp => by
        show ¬ (if p = B.1 then x else B.2 p) < 0
        by_cases e : p = B.1
        · rw [if_pos e]; exact g.1
        · rw [if_neg e]; exact o.2.2.2.1.2 p (by have : p < B.1 + 1 := hp; omega)⟩
      refine PR_u (v := .int (nI (B.1 + 1))) (A := A) (T := T) (X := X) (B := B) (K := K) (H := H) (A' := A) (T' := T) (X' := X) (B' := (B.1 + 1, fun j => if j = B.1 then x else B.2 j)) (K' := K) (H' := H) ⟨o.1, o.2.1, o.2.2.1, ob, o.2.2.2.2⟩ (d := 2) (d2 := 2) (by decide) (by decide) (cw_mono z ?_) (fun m1 w1 mr1 hM1 hR1 => cw_mono (y m1 w1 mr1 hM1 hR1) ?_)
      · rintro r h ⟨e, e2⟩
        have off : ∀ k j, ¬ (k = 3 ∨ k = 2 ∧ j = 0) → aup (aup m 3 B.1 x) 2 0 (nI (B.1 + 1)) k j = m k j := fun k j z => by rw [aup_o (by omega), aup_o (by omega)]
        refine ⟨e, _, _, _, e2, hM, ⟨hC.1.on o.1.1 (fun k j z => off k j (by unfold uA at z; omega)), hC.2.1.on (fun k j z => off k j (by unfold uT at z; omega)), hC.2.2.1.on o.2.2.1.1 (fun k j z => off k j (by unfold uX at z; omega)) rfl, ?_, hC.2.2.2.2.1.on (o.2.2.2.2.1.le o.1) (fun k j z => off k j (by unfold uK at z; omega)) rfl, hC.2.2.2.2.2.on (fun k j z => off k j (by unfold uH at z; omega))⟩, hR.lo (fun k j z => off k j (by omega))⟩
        refine ⟨aup_s, fun j hj => ?_⟩
        rw [aup_o (by omega)]
        show aup m 3 B.1 x 3 j = if j = B.1 then x else B.2 j
        by_cases e : j = B.1
        · rw [if_pos e, e]; exact aup_s
        · rw [if_neg e, aup_o (by omega)]; exact hC.2.2.2.1.2 j (by have : j < B.1 + 1 := hj; omega)
      · rintro r h ⟨e, e2⟩
        rw [if_pos g, if_pos g2] at e e2
        have off : ∀ k j, ¬ (k = 87 ∨ k = 84 ∧ j = 6) → aup (aup m1 87 B.1 x) 84 6 (nI (B.1 + 1)) k j = m1 k j := fun k j z => by rw [aup_o (by omega), aup_o (by omega)]
        refine ⟨e, _, _, e2, fun k j z => off k j (by omega), ⟨hR1.1.on (fun k j z => off k j (by unfold wA at z; omega)), hR1.2.1.on (fun k j z => off k j (by unfold wT at z; omega)), hR1.2.2.1.on (fun k j z => off k j (by unfold wX at z; omega)), ?_, hR1.2.2.2.2.1.on (fun k j z => off k j (by unfold wK at z; omega)), hR1.2.2.2.2.2.on (fun k j z => off k j (by unfold wH at z; omega))⟩⟩
        refine ⟨aup_s, fun j hj => ?_⟩
        rw [aup_o (by omega)]
        show aup m1 87 B.1 x 87 j = if j = B.1 then x else B.2 j
        by_cases e : j = B.1
        · rw [if_pos e, e]; exact aup_s
        · rw [if_neg e, aup_o (by omega)]; exact hR1.2.2.2.1.2 j (by have : j < B.1 + 1 := hj; omega)
    · rw [if_neg g2, if_neg g2] at z
      have y0 := y m ml mr hM hR
      rw [if_pos g, if_pos g, if_neg g2, if_neg g2] at y0
      exact PR_s hI0 (by decide) (d2 := 2) (by decide) z (sm_qR y0)
  · rw [if_neg g, if_neg g] at z
    have y0 := y m ml mr hM hR
    rw [if_neg g, if_neg g] at y0
    exact PR_s hI0 (by decide) (d2 := 2) (by decide) z (sm_qR y0)
theorem p_force {W : aXt × Value} {x : Int32} : PR W 75 172 [.int x] := by
  intro m ml mr hI
  have hI0 := hI
  obtain ⟨hM, A, T, X, B, K, H, hC, hR, o⟩ := hI
  have h6 := o.2.2.1
  have hR6 : X.2.1 < 6 := Nat.lt_of_lt_of_le h6.2 h6.1
  have y := fun m1 w1 mr1 (hM1 : MRok mr1) (hR1 : RI m1 A T X B K H) => r_force (X := W) (mi := m1) (ml := w1) hM1 hR1.2.2.1.1 o.2.2.1.1 (x := x)
  by_cases g : aixn x X.1 = true
  · have z := c_force_ok (X := W) (ml := ml) hM hC.2.2.1.1 o.2.2.1.1 (tx_mem hR6) hC.2.2.1.2.1 g
    obtain ⟨q, rfl, hq⟩ := one_p g
    have q6 : q < 6 := Nat.lt_of_lt_of_le hq h6.1
    rw [hC.2.2.1.2.2.1 _ hR6, tAt_t q6] at z
    have okk : ∀ {K : Option kS}, oK A X K → oK A (X.1, q, X.2.2) K := fun {K} h => by
      cases K with
      | none => exact trivial
      | some k => exact h
    refine PR_u (v := .int (nI X.2.1)) (A := A) (T := T) (X := X) (B := B) (K := K) (H := H) (A' := A) (T' := T) (X' := (X.1, q, X.2.2)) (B' := B) (K' := K) (H' := H) ⟨o.1, o.2.1, ⟨h6.1, hq⟩, o.2.2.2.1, okk o.2.2.2.2.1, o.2.2.2.2.2⟩ (d := 2) (d2 := 2) (by decide) (by decide) (cw_mono z ?_) (fun m1 w1 mr1 hM1 hR1 => cw_mono (y m1 w1 mr1 hM1 hR1) ?_)
    · rintro r h ⟨e, e2⟩
      have g66 : aup mr 63 2 (some (11 + 4 * q)) 66 2 = mr 66 2 := mr_off (by decide) _
      have off : ∀ k j : Nat, True → m k j = m k j := fun _ _ _ => rfl
      exact ⟨e, _, _, _, e2, mr_up hM (by decide) _, ⟨hC.1, hC.2.1, ⟨hC.2.2.1.1, by simp [aup], hC.2.2.1.2.2⟩, hC.2.2.2.1, hC.2.2.2.2.1.on (o.2.2.2.2.1.le o.1) (fun _ _ _ => rfl) g66, hC.2.2.2.2.2⟩, hR⟩
    · rintro r h ⟨e, e2⟩
      rw [if_pos g, hR1.2.2.1.2.1] at e
      rw [if_pos g] at e2
      have off : ∀ k j, ¬ (k = 84 ∧ j = 4) → aup m1 84 4 (nI q) k j = m1 k j := fun k j z => aup_o z
      refine ⟨e, _, _, e2, fun k j z => off k j (by omega), ⟨hR1.1.on (fun k j z => off k j (by unfold wA at z; omega)), hR1.2.1.on (fun k j z => off k j (by unfold wT at z; omega)), ?_, hR1.2.2.2.1.on (fun k j z => off k j (by unfold wB at z; omega)), hR1.2.2.2.2.1.on (fun k j z => off k j (by unfold wK at z; omega)), hR1.2.2.2.2.2.on (fun k j z => off k j (by unfold wH at z; omega))⟩⟩
      exact ⟨(off _ _ (by omega)).trans hR1.2.2.1.1, aup_s, fun t ht => by
        obtain ⟨n, v0, z⟩ := hR1.2.2.1.2.2 t ht
        exact ⟨n, v0, z.fr (fun j _ => off _ _ (by omega)) (off _ _ (by omega))⟩⟩
  · have z := c_force_no (X := W) (ml := ml) hM hC.2.2.1.1 o.2.2.1.1 (tx_mem hR6) hC.2.2.1.2.1 g
    have y0 := y m ml mr hM hR
    rw [if_neg g, if_neg g] at y0
    exact PR_s hI0 (by decide) (d2 := 2) (by decide) z (sm_qR y0)
/-- p's own row of the reference's alone -/
theorem rIA.pu {m m' : Nat → Nat → Int32} {A : lS} (h : rIA m A) {p : Nat} {u : pU} (f : frU p m m') (hu : puR m' p = u) : rIA m' (A.1, fun q => if q = p then u else A.2 q) := by
  refine ⟨(f 84 12 (by omega) (by omega)).trans h.1, fun q hq => ?_⟩
  show puR m' q = if q = p then u else A.2 q
  by_cases e : q = p
  · rw [if_pos e, e]; exact hu
  · rw [if_neg e, ← h.2 q hq]
    unfold puR
    have r91 : ∀ j, j < 10 → m' 91 (10 * q + j) = m 91 (10 * q + j) := fun j hj => f 91 _ (by omega) (by omega)
    rw [f.row (k := 89) (by decide) (by decide), f.row (k := 90) (by decide) (by decide), r91 8 (by decide), r91 9 (by decide)]
    refine Prod.ext rfl (Prod.ext rfl (Prod.ext rfl (Prod.ext rfl (funext fun j => ?_))))
    show c8 (fun j => m' 91 (10 * q + j)) j = c8 (fun j => m 91 (10 * q + j)) j
    unfold c8
    by_cases hj : j < 8
    · rw [if_pos hj, if_pos hj]; exact r91 j (by omega)
    · rw [if_neg hj, if_neg hj]
theorem oK.A {A A' : lS} {X : xS} {K : Option kS} (h : oK A X K) (hn : A'.1 = A.1) (hk : ∀ p, p < A.1 → (A'.2 p).1 = (A.2 p).1) : oK A' X K := by
  cases K with
  | none => exact trivial
  | some k => exact ⟨hn ▸ h.1, h.2.1, h.2.2.1, fun p hp => ⟨(h.2.2.2 p hp).1, (h.2.2.2 p hp).2.trans (hk p (Nat.lt_of_lt_of_le hp h.1)).symm⟩⟩
theorem oA.p {A : lS} (h : oA A) {p : Nat} {u : pU} (ok : okU u) : oA (A.1, fun q => if q = p then u else A.2 q) := ⟨h.1, fun q hq => by
  show okU (if q = p then u else A.2 q)
  by_cases e : q = p
  · rw [if_pos e]; exact ok
  · rw [if_neg e]; exact h.2 q hq⟩
theorem dv_S {ρ p : Nat} (h : ρ ∈ TXS) (hp : p < 5) {k : Nat} (hk : k ∈ [35 + 4 * p, 35 + 4 * p + 1, 63 + 2, ρ + 3]) : k = 35 + 4 * p ∨ k = 36 + 4 * p ∨ k = 65 ∨ (11 ≤ k ∧ k < 35 ∧ k % 4 = 2) := by
  have q : (11 ≤ ρ + 3 ∧ ρ + 3 < 35 ∧ (ρ + 3) % 4 = 2) := by
    clear hk
    revert ρ
    decide
  simp only [List.mem_cons, List.not_mem_nil, or_false] at hk
  rcases hk with e | e | e | e
  · exact Or.inl e
  · exact Or.inr (Or.inl (by omega))
  · exact Or.inr (Or.inr (Or.inl e))
  · exact Or.inr (Or.inr (Or.inr (by rw [e]; exact q)))
theorem p_drive {W : aXt × Value} {one s hp : Int32} : PR W 76 182 [.int one, .int s, .int hp] := by
  intro m ml mr hI
  have hI0 := hI
  obtain ⟨hM, A, T, X, B, K, H, hC, hR, o⟩ := hI
  have h6 := o.2.2.1
  have hR6 : X.2.1 < 6 := Nat.lt_of_lt_of_le h6.2 h6.1
  by_cases g : aixn one A.1 = true
  · have z := c_drive_ok (X := W) (ml := ml) hM hC.1.1 o.1.1 (tx_mem hR6) hC.2.2.1.2.1 (hC.2.2.1.2.2.2 _ h6.2) g (s := s) (hp := hp)
    obtain ⟨p, rfl, hp_⟩ := one_p g
    have hp5 : p < 5 := Nat.lt_of_lt_of_le hp_ o.1.1
    rw [hC.2.1.tv X, pAt_p hp5, hC.1.2 p hp_] at z
    have y := fun m1 w1 mr1 (hM1 : MRok mr1) (hR1 : RI m1 A T X B K H) => q_drive_ok (X := W) (ml := w1) hM1 hR1.1.1 o.1.1 (hR1.2.2.1.ru h6) hp_ (by rw [hR1.1.2 p hp_]; exact o.1.2 p hp_) (s := s) (hp := hp)
    by_cases b : aixn s 8 = true ∧ aixn hp 3 = true
    · have ok := hrG_ok (t := tV T X) (hp := hp) (o.1.2 p hp_) (aix_out b.1).2
      refine PR_u (v := .int ((hrG (tV T X) (A.2 p) s.toNatClampNeg hp).2.2.2.2 s.toNatClampNeg)) (A := A) (T := T) (X := X) (B := B) (K := K) (H := H) (A' := (A.1, fun q => if q = p then hrG (tV T X) (A.2 p) s.toNatClampNeg hp else A.2 q)) (T' := T) (X' := X) (B' := B) (K' := K) (H' := H) ⟨o.1.p ok, o.2.1, o.2.2.1, o.2.2.2.1, o.2.2.2.2.1.A rfl (fun q hq => ?_), o.2.2.2.2.2⟩ (d := 6) (d2 := 48) (by decide) (by decide) (cw_mono z ?_) (fun m1 w1 mr1 hM1 hR1 => cw_mono (y m1 w1 mr1 hM1 hR1) ?_)
      · show (if q = p then hrG (tV T X) (A.2 p) s.toNatClampNeg hp else A.2 q).1 = (A.2 q).1
        by_cases e : q = p
        · rw [if_pos e, e]; rfl
        · rw [if_neg e]
      · rintro r h ⟨m', e, k1, _⟩
        obtain ⟨k2, f, k3⟩ := k1 b
        have off : ∀ k j, ¬ (k = 35 + 4 * p ∨ k = 36 + 4 * p ∨ k = 65 ∨ (11 ≤ k ∧ k < 35 ∧ k % 4 = 2)) → m' k j = m k j := fun k j z => f k j (fun q => z (dv_S (tx_mem hR6) hp5 q))
        refine ⟨k2, _, _, _, e, hM, ⟨?_, hC.2.1.on (fun k j z => off k j (by unfold uT at z; omega)), hC.2.2.1.on o.2.2.1.1 (fun k j z => off k j (by unfold uX at z; omega)) rfl, hC.2.2.2.1.on (fun k j z => off k j (by unfold uB at z; omega)), hC.2.2.2.2.1.on (o.2.2.2.2.1.le o.1) (fun k j z => off k j (by unfold uK at z; omega)) rfl, hC.2.2.2.2.2.on (fun k j z => off k j (by unfold uH at z; omega))⟩, hR.lo (fun k j z => off k j (by omega))⟩
        refine ⟨(off _ _ (by omega)).trans hC.1.1, fun q hq => ?_⟩
        show puC m' (35 + 4 * q) = if q = p then _ else A.2 q
        by_cases e : q = p
        · rw [if_pos e, e]; exact k3
        · rw [if_neg e, ← hC.1.2 q hq]
          have hq' : q < A.1 := hq
          have := o.1.1
          exact puC_e (funext fun j => off _ _ (by omega)) (funext fun j => off _ _ (by omega))
      · rintro r h ⟨m', w', e, k1, _⟩
        obtain ⟨k2, f, k3⟩ := k1 b
        rw [hR1.2.1.tv X, hR1.1.2 p hp_] at k2 k3
        have off : ∀ k j, ¬ (k = 84 ∧ 13 ≤ j ∧ j ≤ 27 ∨ k = 91) → m' k j = m1 k j := fun k j z => f k j (by omega) (by omega)
        exact ⟨k2, _, _, e, fun k j z => off k j (by omega), ⟨hR1.1.pu f k3, hR1.2.1.on (fun k j z => off k j (by unfold wT at z; omega)), hR1.2.2.1.on (fun k j z => off k j (by unfold wX at z; omega)), hR1.2.2.2.1.on (fun k j z => off k j (by unfold wB at z; omega)), hR1.2.2.2.2.1.on (fun k j z => off k j (by unfold wK at z; omega)), hR1.2.2.2.2.2.on (fun k j z => off k j (by unfold wH at z; omega))⟩⟩
    · refine PR_s hI0 (v := .int (-2)) (d := 6) (d2 := 48) (by decide) (by decide) (cw_mono z ?_) (cw_mono (y m ml mr hM hR) ?_)
      · rintro r h ⟨m', e, _, k1⟩
        obtain ⟨k2, rfl⟩ := k1 b
        exact ⟨k2, e⟩
      · rintro r h ⟨m', w', e, _, k1⟩
        obtain ⟨k2, rfl⟩ := k1 b
        exact ⟨k2, _, _, e, frQ.rf _⟩
  · exact PR_s hI0 (d := 6) (d2 := 4) (by decide) (by decide) (c_drive_no (X := W) (ml := ml) hM hC.1.1 o.1.1 g) (q_drive_no hM hR.1.1 o.1.1 g)
theorem nt_S {ρ : Nat} (h : ρ ∈ TXS) {k : Nat} (hk : k ∈ [63 + 2, ρ + 3]) : k = 65 ∨ (11 ≤ k ∧ k < 35 ∧ k % 4 = 2) := by
  have q : (11 ≤ ρ + 3 ∧ ρ + 3 < 35 ∧ (ρ + 3) % 4 = 2) := by
    clear hk
    revert ρ
    decide
  simp only [List.mem_cons, List.not_mem_nil, or_false] at hk
  rcases hk with e | e
  · exact Or.inl e
  · exact Or.inr (by rw [e]; exact q)
theorem p_night {W : aXt × Value} : PR W 77 185 [] := by
  intro m ml mr hI
  have hI0 := hI
  obtain ⟨hM, A, T, X, B, K, H, hC, hR, o⟩ := hI
  have h6 := o.2.2.1
  have hR6 : X.2.1 < 6 := Nat.lt_of_lt_of_le h6.2 h6.1
  have d1 := rI.mp o.2.1
  rw [show (0 : Int32).toInt = 0 from rfl, show (999 : Int32).toInt = 999 from rfl] at d1
  by_cases g : T.2 < 999
  · have g' := Int32.lt_iff_toInt_lt.mp g
    rw [show (999 : Int32).toInt = 999 from rfl] at g'
    have z := c_night_ok (X := W) (ml := ml) hM hC.1.1 o.1.1 (tx_mem hR6) hC.2.2.1.2.1 (hC.2.2.1.2.2.2 _ h6.2) (by rw [hC.2.1.2]; exact g)
    rw [hC.2.1.tv X, ryN_cg (g := fun p => mnG (ndG (tV T X)) (spG (tV T X) (A.2 p))) (fun p hp => by rw [hC.1.2 p hp]), hC.2.1.2] at z
    have y := fun m1 w1 mr1 (hM1 : MRok mr1) (hR1 : RI m1 A T X B K H) => q_night_ok (X := W) (ml := w1) hM1 hR1.1.1 o.1.1 (hR1.2.2.1.ru h6) (fun p hp => by rw [hR1.1.2 p hp]; exact o.1.2 p hp) (by rw [hR1.2.1.2]; intro e; rw [e] at g; exact absurd g (by decide))
    have od : inR 0 999 (T.2 + 1) := rI.mpr (by
      rw [show (0 : Int32).toInt = 0 from rfl, show (999 : Int32).toInt = 999 from rfl, add_t (by omega) (by decide), show (1 : Int32).toInt = 1 from rfl]
      omega)
    refine PR_u (v := .int (nI (ryN (fun p => mnG (ndG (tV T X)) (spG (tV T X) (A.2 p))) A.1))) (A := A) (T := T) (X := X) (B := B) (K := K) (H := H) (A' := (A.1, fun p => spG (tV T X) (A.2 p))) (T' := (T.1, T.2 + 1)) (X' := X) (B' := B) (K' := K) (H' := H) ⟨⟨o.1.1, fun p hp => spG_ok (o.1.2 p hp)⟩, od, o.2.2.1, o.2.2.2.1, o.2.2.2.2.1.A rfl (fun q hq => rfl), o.2.2.2.2.2⟩ (d := 7) (d2 := 49) (by decide) (by decide) (cw_mono z ?_) (fun m1 w1 mr1 hM1 hR1 => cw_mono (y m1 w1 mr1 hM1 hR1) ?_)
    · rintro r h ⟨e, m', e2, f, k3, k4⟩
      have off : ∀ k j, ¬ ((35 ≤ k ∧ k < 55 ∧ (k % 4 = 3 ∨ k % 4 = 0)) ∨ k = 65 ∨ (11 ≤ k ∧ k < 35 ∧ k % 4 = 2) ∨ k = 63 ∧ j = 1) → m' k j = m k j := fun k j z => f k j (fun p hp => by have := o.1.1; omega) (fun q => by have := nt_S (tx_mem hR6) q; omega) (by omega)
      refine ⟨e, _, _, _, e2, hM, ⟨?_, ?_, hC.2.2.1.on o.2.2.1.1 (fun k j z => off k j (by unfold uX at z; omega)) rfl, hC.2.2.2.1.on (fun k j z => off k j (by unfold uB at z; omega)), hC.2.2.2.2.1.on (o.2.2.2.2.1.le o.1) (fun k j z => off k j (by unfold uK at z; omega)) rfl, hC.2.2.2.2.2.on (fun k j z => off k j (by unfold uH at z; omega))⟩, hR.lo (fun k j z => off k j (by omega))⟩
      · refine ⟨(off _ _ (by omega)).trans hC.1.1, fun q hq => ?_⟩
        rw [k3 q hq, hC.1.2 q hq]
      · refine ⟨?_, k4⟩
        rw [show m' 64 = m 64 from funext fun j => off _ _ (by omega)]
        exact hC.2.1.1
    · rintro r h ⟨e, m', w', e2, f, k3, k4⟩
      rw [hR1.2.1.tv X, ryN_cg (g := fun p => mnG (ndG (tV T X)) (spG (tV T X) (A.2 p))) (fun p hp => by rw [hR1.1.2 p hp])] at e
      rw [hR1.2.1.2] at k4
      have off : ∀ k j, ¬ (k = 84 ∧ (13 ≤ j ∧ j ≤ 27 ∨ j = 7) ∨ k = 91) → m' k j = m1 k j := fun k j z => f k j (by omega) (by omega)
      refine ⟨e, _, _, e2, fun k j z => off k j (by omega), ⟨?_, ?_, hR1.2.2.1.on (fun k j z => off k j (by unfold wX at z; omega)), hR1.2.2.2.1.on (fun k j z => off k j (by unfold wB at z; omega)), hR1.2.2.2.2.1.on (fun k j z => off k j (by unfold wK at z; omega)), hR1.2.2.2.2.2.on (fun k j z => off k j (by unfold wH at z; omega))⟩⟩
      · refine ⟨(off _ _ (by omega)).trans hR1.1.1, fun q hq => ?_⟩
        rw [k3 q hq, hR1.2.1.tv X, hR1.1.2 q hq]
      · refine ⟨?_, k4⟩
        rw [show m' 88 = m1 88 from funext fun j => off _ _ (by omega)]
        exact hR1.2.1.1
  · have e9 : T.2 = 999 := Int32.toInt_inj.mp (by
      have g' : ¬ T.2.toInt < (999 : Int32).toInt := fun z => g (Int32.lt_iff_toInt_lt.mpr z)
      rw [show (999 : Int32).toInt = 999 from rfl] at g' ⊢
      omega)
    exact PR_s hI0 (d := 7) (d2 := 49) (by decide) (by decide) (c_night_no (X := W) (ml := ml) hM (by rw [hC.2.1.2]; exact g)) (sm_qR (q_night_no hM (hR.2.1.2.trans e9)))
