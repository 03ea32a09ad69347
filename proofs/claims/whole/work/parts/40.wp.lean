/-! reasoning over the abstract machine -/
/-- from t the run ends, with Q of answer and memory -/
def aWP (E : Nat → List Value → aM → Option Value → aM → Prop) (cd : List aOp) (t : aSt) (Q : Option Value → aM → Prop) : Prop := ∃ (n : Nat) (r : Option Value) (h' : aM), aRn E cd n t r h' ∧ Q r h'
theorem wp_step {E : Nat → List Value → aM → Option Value → aM → Prop} {cd : List aOp} {t t' : aSt} {Q : Option Value → aM → Prop} {f : aOp} (hf : anth cd t.1 = some f) (hx : f t = some (.inl t')) (k : aWP E cd t' Q) : aWP E cd t Q := by
  obtain ⟨n, r, h', h1, h2⟩ := k
  refine ⟨n + 1, r, h', ?_, h2⟩
  unfold aRn
  rw [hf]
  dsimp only
  rw [hx]
  exact h1
theorem wp_ret {E : Nat → List Value → aM → Option Value → aM → Prop} {cd : List aOp} {t : aSt} {Q : Option Value → aM → Prop} {f : aOp} {v : Option Value} {h1 : aM} (hf : anth cd t.1 = some f) (hx : f t = some (.inr (.inl (v, h1)))) (k : Q v h1) : aWP E cd t Q := by
  refine ⟨1, v, h1, ?_, k⟩
  unfold aRn
  rw [hf]
  dsimp only
  rw [hx]
  exact ⟨rfl, rfl⟩
theorem wp_call {E : Nat → List Value → aM → Option Value → aM → Prop} {cd : List aOp} {t t' : aSt} {Q : Option Value → aM → Prop} {f : aOp} {mid : Nat} {as : List Value} {v : Option Value} {h1 : aM} (hf : anth cd t.1 = some f) (hx : f t = some (.inr (.inr (mid, as, t')))) (he : E mid as t'.2.2.2 v h1) (k : aWP E cd (apush t' v h1) Q) : aWP E cd t Q := by
  obtain ⟨n, r, h', g1, g2⟩ := k
  refine ⟨n + 1, r, h', ?_, g2⟩
  unfold aRn
  rw [hf]
  dsimp only
  rw [hx]
  exact ⟨v, h1, he, g1⟩
/-- k steps on -/
def asteps (cd : List aOp) : Nat → aSt → Option aSt
  | 0, t => some t
  | k + 1, t => match anth cd t.1 with
    | none => none
    | some f => match f t with
      | some (.inl t') => asteps cd k t'
      | _ => none
theorem wp_steps {E : Nat → List Value → aM → Option Value → aM → Prop} {cd : List aOp} {Q : Option Value → aM → Prop} : ∀ (k : Nat) {t t' : aSt}, asteps cd k t = some t' → aWP E cd t' Q → aWP E cd t Q
  | 0, t, t', h, w => by cases h; exact w
  | k + 1, t, t', h, w => by
    unfold asteps at h
    cases hf : anth cd t.1 with
    | none => rw [hf] at h; cases h
    | some f =>
      rw [hf] at h
      dsimp only at h
      cases hx : f t with
      | none => rw [hx] at h; cases h
      | some x =>
        rw [hx] at h
        cases x with
        | inl t1 => exact wp_step hf hx (wp_steps k h w)
        | inr y => cases h
theorem wp_br {E : Nat → List Value → aM → Option Value → aM → Prop} {cd : List aOp} {Q : Option Value → aM → Prop} {g : List Value → Option (Bool × List Value)} {tg i : Nat} {loc : List (Option Value)} {st r : List Value} {h : aM} {b : Bool} (hf : anth cd i = some (aB g tg)) (hg : g st = some (b, r)) (k1 : b = true → aWP E cd (tg, loc, r, h) Q) (k2 : b = false → aWP E cd (i + 1, loc, r, h) Q) : aWP E cd (i, loc, st, h) Q := by
  cases b with
  | true => exact wp_step hf (by unfold aB; dsimp only; rw [hg]; rfl) (k1 rfl)
  | false => exact wp_step hf (by unfold aB; dsimp only; rw [hg]; rfl) (k2 rfl)
theorem wp_mono {E : Nat → List Value → aM → Option Value → aM → Prop} {cd : List aOp} {t : aSt} {Q Q' : Option Value → aM → Prop} (k : aWP E cd t Q) (hq : ∀ r h, Q r h → Q' r h) : aWP E cd t Q' := by
  obtain ⟨n, r, h', g1, g2⟩ := k
  exact ⟨n, r, h', g1, hq _ _ g2⟩
theorem aRn_mono {E E' : Nat → List Value → aM → Option Value → aM → Prop} (hE : ∀ mid as h v h1, E mid as h v h1 → E' mid as h v h1) {cd : List aOp} : ∀ {n : Nat} {t : aSt} {r : Option Value} {h' : aM}, aRn E cd n t r h' → aRn E' cd n t r h'
  | 0, _, _, _, h => h
  | n + 1, t, r, h', h => by
    unfold aRn at h ⊢
    cases hf : anth cd t.1 with
    | none => rw [hf] at h; exact h
    | some f =>
      rw [hf] at h
      dsimp only at h ⊢
      cases hx : f t with
      | none => rw [hx] at h; exact h
      | some x =>
        rw [hx] at h
        cases x with
        | inl t1 => exact aRn_mono hE h
        | inr y =>
          cases y with
          | inl q => exact h
          | inr q =>
            obtain ⟨v, h1, g1, g2⟩ := h
            exact ⟨v, h1, hE _ _ _ _ _ g1, aRn_mono hE g2⟩
theorem aEx_mono {tb : Nat → Option (List aOp × Nat)} : ∀ {d : Nat} {mid : Nat} {as : List Value} {h : aM} {v : Option Value} {h1 : aM}, aEx tb d mid as h v h1 → aEx tb (d + 1) mid as h v h1
  | 0, _, _, _, _, _, q => absurd q (by unfold aEx; exact fun z => z)
  | d + 1, _, _, _, _, _, q => by
    unfold aEx at q ⊢
    obtain ⟨q1, cd, nL, n, q2, q3, q4⟩ := q
    exact ⟨q1, cd, nL, n, q2, q3, aRn_mono (fun _ _ _ _ _ z => aEx_mono z) q4⟩
theorem aEx_up {tb : Nat → Option (List aOp × Nat)} {d d' : Nat} (hd : d ≤ d') {mid : Nat} {as : List Value} {h : aM} {v : Option Value} {h1 : aM} (q : aEx tb d mid as h v h1) : aEx tb d' mid as h v h1 := by
  obtain ⟨k, rfl⟩ := Nat.le.dest hd
  induction k with
  | zero => exact q
  | succ k ih => exact aEx_mono (ih (by omega))
/-- a method's call, at a depth -/
def aCW (X : aXt × Value) (d mid : Nat) (as : List Value) (h : aM) (Q : Option Value → aM → Prop) : Prop := ∃ r h', aEx (aTb X) d mid as h r h' ∧ Q r h'
theorem cw_of {X : aXt × Value} {d mid nL : Nat} {as : List Value} {h : aM} {Q : Option Value → aM → Prop} {cd : List aOp} (ht : aTb X mid = some (cd, nL)) (hl : (aent nL as).length = nL) (k : aWP (aEx (aTb X) d) cd (0, aent nL as, [], h) (fun r h' => (h.1.1 ≤ h'.1.1 ∧ h.1.2.1 ≤ h'.1.2.1) ∧ Q r h')) : aCW X (d + 1) mid as h Q := by
  obtain ⟨n, r, h', g1, g2, g3⟩ := k
  refine ⟨r, h', ?_, g3⟩
  unfold aEx
  exact ⟨g2, cd, nL, n, ht, hl, g1⟩
theorem cw_up {X : aXt × Value} {d d' mid : Nat} {as : List Value} {h : aM} {Q : Option Value → aM → Prop} (hd : d ≤ d') (k : aCW X d mid as h Q) : aCW X d' mid as h Q := by
  obtain ⟨r, h', g1, g2⟩ := k
  exact ⟨r, h', aEx_up hd g1, g2⟩
theorem cw_mono {X : aXt × Value} {d mid : Nat} {as : List Value} {h : aM} {Q Q' : Option Value → aM → Prop} (k : aCW X d mid as h Q) (hq : ∀ r h', Q r h' → Q' r h') : aCW X d mid as h Q' := by
  obtain ⟨r, h', g1, g2⟩ := k
  exact ⟨r, h', g1, hq _ _ g2⟩
/-- a call inside a method's body -/
theorem wp_cw {X : aXt × Value} {d d' : Nat} {cd : List aOp} {t t' : aSt} {Q Q1 : Option Value → aM → Prop} {f : aOp} {mid : Nat} {as : List Value} (hf : anth cd t.1 = some f) (hx : f t = some (.inr (.inr (mid, as, t')))) (he : aCW X d' mid as t'.2.2.2 Q1) (hd : d' ≤ d) (k : ∀ v h1, Q1 v h1 → aWP (aEx (aTb X) d) cd (apush t' v h1) Q) : aWP (aEx (aTb X) d) cd t Q := by
  obtain ⟨v, h1, g1, g2⟩ := he
  exact wp_call hf hx (aEx_up hd g1) (k v h1 g2)
/-! an executable machine, for runs without unknowns -/
def axr (F : Nat → List Value → aM → Option (Option Value × aM)) (cd : List aOp) : Nat → aSt → Option (Option Value × aM)
  | 0, _ => none
  | n + 1, s => match anth cd s.1 with
    | none => none
    | some f => match f s with
      | none => none
      | some (.inl s') => axr F cd n s'
      | some (.inr (.inl q)) => some q
      | some (.inr (.inr (mid, as, s'))) => match F mid as s'.2.2.2 with
        | none => none
        | some (v, h1) => axr F cd n (apush s' v h1)
def axe (tb : Nat → Option (List aOp × Nat)) (fuel : Nat) : Nat → Nat → List Value → aM → Option (Option Value × aM)
  | 0, _, _, _ => none
  | d + 1, mid, as, h => match tb mid with
    | none => none
    | some (cd, nL) => if (aent nL as).length = nL then (match axr (axe tb fuel d) cd fuel (0, aent nL as, [], h) with
      | none => none
      | some (r, h') => if h.1.1 ≤ h'.1.1 ∧ h.1.2.1 ≤ h'.1.2.1 then some (r, h') else none) else none
theorem axr_sound {F : Nat → List Value → aM → Option (Option Value × aM)} {E : Nat → List Value → aM → Option Value → aM → Prop} (hF : ∀ mid as h v h1, F mid as h = some (v, h1) → E mid as h v h1) {cd : List aOp} : ∀ {n : Nat} {t : aSt} {r : Option Value} {h' : aM}, axr F cd n t = some (r, h') → aRn E cd n t r h'
  | 0, _, _, _, h => by cases h
  | n + 1, t, r, h', h => by
    unfold axr at h
    unfold aRn
    cases hf : anth cd t.1 with
    | none => rw [hf] at h; cases h
    | some f =>
      rw [hf] at h
      dsimp only at h ⊢
      cases hx : f t with
      | none => rw [hx] at h; cases h
      | some x =>
        rw [hx] at h
        cases x with
        | inl t1 => exact axr_sound hF h
        | inr y =>
          cases y with
          | inl q => cases h; exact ⟨rfl, rfl⟩
          | inr q =>
            obtain ⟨mid, as, s'⟩ := q
            dsimp only at h ⊢
            cases hq : F mid as s'.2.2.2 with
            | none => rw [hq] at h; cases h
            | some z =>
              obtain ⟨v, h1⟩ := z
              rw [hq] at h
              exact ⟨v, h1, hF _ _ _ _ _ hq, axr_sound hF h⟩
theorem axe_sound {tb : Nat → Option (List aOp × Nat)} {fuel : Nat} : ∀ {d mid : Nat} {as : List Value} {h : aM} {r : Option Value} {h' : aM}, axe tb fuel d mid as h = some (r, h') → aEx tb d mid as h r h'
  | 0, _, _, _, _, _, h => by cases h
  | d + 1, mid, as, h, r, h', q => by
    unfold axe at q
    unfold aEx
    cases ht : tb mid with
    | none => rw [ht] at q; cases q
    | some z =>
      obtain ⟨cd, nL⟩ := z
      rw [ht] at q
      dsimp only at q
      by_cases hl : (aent nL as).length = nL
      · rw [if_pos hl] at q
        cases hr : axr (axe tb fuel d) cd fuel (0, aent nL as, [], h) with
        | none => rw [hr] at q; cases q
        | some y =>
          obtain ⟨r1, h1⟩ := y
          rw [hr] at q
          dsimp only at q
          by_cases hle : h.1.1 ≤ h1.1.1 ∧ h.1.2.1 ≤ h1.1.2.1
          · rw [if_pos hle] at q
            cases q
            exact ⟨hle, cd, nL, fuel, rfl, hl, axr_sound (E := aEx tb d) (fun _ _ _ _ _ z => axe_sound z) hr⟩
          · rw [if_neg hle] at q
            cases q
      · rw [if_neg hl] at q
        cases q
