/-! reasoning over memory: a memory is written (hd, mi, ml, mr) -/
def aSh (hd : aHd) (k : Nat) (s : Nat × Nat) : Prop := k < hd.1 ∧ anth hd.2.2 k = some s
def aRefT (ty : FieldType) : Bool := match ty with
  | .object _ => true
  | .array _ => true
  | _ => false
section WPM
variable {E : Nat → List Value → aM → Option Value → aM → Prop} {cd : List aOp} {Q : Option Value → aM → Prop} {i k j n ci : Nat} {loc : List (Option Value)} {r : List Value} {hd : aHd} {mi : Nat → Nat → Int32} {ml : Nat → Nat → Int64} {mr : Nat → Nat → Option Nat}
theorem wp_bI {q : Int32 → Bool} {t : Nat} {x : Int32} (hf : anth cd i = some (aB (bI q) t)) (k1 : q x = true → aWP E cd (t, loc, r, (hd, mi, ml, mr)) Q) (k2 : q x = false → aWP E cd (i + 1, loc, r, (hd, mi, ml, mr)) Q) : aWP E cd (i, loc, .int x :: r, (hd, mi, ml, mr)) Q := wp_br hf rfl k1 k2
theorem wp_bC {q : Int32 → Int32 → Bool} {t : Nat} {x y : Int32} (hf : anth cd i = some (aB (bC q) t)) (k1 : q x y = true → aWP E cd (t, loc, r, (hd, mi, ml, mr)) Q) (k2 : q x y = false → aWP E cd (i + 1, loc, r, (hd, mi, ml, mr)) Q) : aWP E cd (i, loc, .int y :: .int x :: r, (hd, mi, ml, mr)) Q := wp_br hf rfl k1 k2
theorem wp_geti (hf : anth cd i = some (aGet ci j)) (hs : aSh hd k (0, ci)) (hty : acty ci j = .int ∨ acty ci j = .boolean) (w : aWP E cd (i + 1, loc, .int (mi k j) :: r, (hd, mi, ml, mr)) Q) : aWP E cd (i, loc, .ref k :: r, (hd, mi, ml, mr)) Q := by
  refine wp_step hf ?_ w
  unfold aGet
  dsimp only
  rw [if_pos ⟨hs.1, hs.2⟩]
  have : afv (hd, mi, ml, mr) k ci j = .int (mi k j) := by
    unfold afv
    rcases hty with h | h <;> rw [h]
  rw [this]
theorem wp_getl (hf : anth cd i = some (aGet ci j)) (hs : aSh hd k (0, ci)) (hty : acty ci j = .long) (w : aWP E cd (i + 1, loc, .long (ml k j) :: r, (hd, mi, ml, mr)) Q) : aWP E cd (i, loc, .ref k :: r, (hd, mi, ml, mr)) Q := by
  refine wp_step hf ?_ w
  unfold aGet
  dsimp only
  rw [if_pos ⟨hs.1, hs.2⟩]
  have : afv (hd, mi, ml, mr) k ci j = .long (ml k j) := by
    unfold afv
    rw [hty]
  rw [this]
theorem wp_getr {q : Nat} (hf : anth cd i = some (aGet ci j)) (hs : aSh hd k (0, ci)) (hty : aRefT (acty ci j) = true) (hv : mr k j = some q) (w : aWP E cd (i + 1, loc, .ref q :: r, (hd, mi, ml, mr)) Q) : aWP E cd (i, loc, .ref k :: r, (hd, mi, ml, mr)) Q := by
  refine wp_step hf ?_ w
  unfold aGet
  dsimp only
  rw [if_pos ⟨hs.1, hs.2⟩]
  have : afv (hd, mi, ml, mr) k ci j = .ref q := by
    unfold afv
    revert hty
    cases acty ci j <;> intro hty <;> first | (cases hty; done) | (dsimp only; rw [hv]; rfl)
  rw [this]
theorem wp_puti {x : Int32} (hf : anth cd i = some (aPut ci j)) (hs : aSh hd k (0, ci)) (hty : acty ci j = .int) (w : ∀ m1, m1 = aup mi k j x → aWP E cd (i + 1, loc, r, (hd, m1, ml, mr)) Q) : aWP E cd (i, loc, .int x :: .ref k :: r, (hd, mi, ml, mr)) Q := by
  refine wp_step hf ?_ (w _ rfl)
  unfold aPut
  dsimp only
  rw [if_pos ⟨hs.1, hs.2⟩]
  have : afw (hd, mi, ml, mr) k ci j (.int x) = some (hd, aup mi k j x, ml, mr) := by
    unfold afw
    rw [hty]
  rw [this]
theorem wp_putz {x : Int32} (hf : anth cd i = some (aPut ci j)) (hs : aSh hd k (0, ci)) (hty : acty ci j = .boolean) (hx : x = 0 ∨ x = 1) (w : ∀ m1, m1 = aup mi k j x → aWP E cd (i + 1, loc, r, (hd, m1, ml, mr)) Q) : aWP E cd (i, loc, .int x :: .ref k :: r, (hd, mi, ml, mr)) Q := by
  refine wp_step hf ?_ (w _ rfl)
  unfold aPut
  dsimp only
  rw [if_pos ⟨hs.1, hs.2⟩]
  have : afw (hd, mi, ml, mr) k ci j (.int x) = some (hd, aup mi k j x, ml, mr) := by
    unfold afw
    rw [hty]
    dsimp only
    rw [if_pos hx]
  rw [this]
theorem wp_putl {x : Int64} (hf : anth cd i = some (aPut ci j)) (hs : aSh hd k (0, ci)) (hty : acty ci j = .long) (w : ∀ m1, m1 = aup ml k j x → aWP E cd (i + 1, loc, r, (hd, mi, m1, mr)) Q) : aWP E cd (i, loc, .long x :: .ref k :: r, (hd, mi, ml, mr)) Q := by
  refine wp_step hf ?_ (w _ rfl)
  unfold aPut
  dsimp only
  rw [if_pos ⟨hs.1, hs.2⟩]
  have : afw (hd, mi, ml, mr) k ci j (.long x) = some (hd, mi, aup ml k j x, mr) := by
    unfold afw
    rw [hty]
  rw [this]
theorem wp_putr {q : Nat} (hf : anth cd i = some (aPut ci j)) (hs : aSh hd k (0, ci)) (hty : aRefT (acty ci j) = true) (w : ∀ m1, m1 = aup mr k j (some q) → aWP E cd (i + 1, loc, r, (hd, mi, ml, m1)) Q) : aWP E cd (i, loc, .ref q :: .ref k :: r, (hd, mi, ml, mr)) Q := by
  refine wp_step hf ?_ (w _ rfl)
  unfold aPut
  dsimp only
  rw [if_pos ⟨hs.1, hs.2⟩]
  have : afw (hd, mi, ml, mr) k ci j (.ref q) = some (hd, mi, ml, aup mr k j (some q)) := by
    unfold afw
    revert hty
    cases acty ci j <;> intro hty <;> first | (cases hty; done) | rfl
  rw [this]
theorem wp_iald {x : Int32} (hf : anth cd i = some (aIal aX0)) (hs : aSh hd k (1, n)) (hx : aixn x n = true) (w : aWP E cd (i + 1, loc, .int (mi k x.toNatClampNeg) :: r, (hd, mi, ml, mr)) Q) : aWP E cd (i, loc, .int x :: .ref k :: r, (hd, mi, ml, mr)) Q := by
  refine wp_step hf ?_ w
  unfold aIal
  dsimp only [aX0]
  rw [hs.2]
  exact if_pos (c := k < hd.1 ∧ aixn x n = true) ⟨hs.1, hx⟩
theorem wp_zald {x : Int32} (hf : anth cd i = some aZal) (hs : aSh hd k (2, n)) (hx : aixn x n = true) (w : aWP E cd (i + 1, loc, .int (mi k x.toNatClampNeg) :: r, (hd, mi, ml, mr)) Q) : aWP E cd (i, loc, .int x :: .ref k :: r, (hd, mi, ml, mr)) Q := by
  refine wp_step hf ?_ w
  unfold aZal
  dsimp only
  rw [hs.2]
  exact if_pos (c := k < hd.1 ∧ aixn x n = true) ⟨hs.1, hx⟩
theorem wp_aald {x : Int32} {t q : Nat} (hf : anth cd i = some aAal) (hs : aSh hd k (t + 3, n)) (ht : t < 3) (hx : aixn x n = true) (hv : mr k x.toNatClampNeg = some q) (w : aWP E cd (i + 1, loc, .ref q :: r, (hd, mi, ml, mr)) Q) : aWP E cd (i, loc, .int x :: .ref k :: r, (hd, mi, ml, mr)) Q := by
  refine wp_step hf ?_ w
  unfold aAal
  dsimp only
  rw [hs.2]
  dsimp only
  rw [if_pos ⟨hs.1, hx, ht⟩, hv]
  rfl
theorem wp_iast {x v : Int32} (hf : anth cd i = some aIas) (hs : aSh hd k (1, n)) (hx : aixn x n = true) (w : ∀ m1, m1 = aup mi k x.toNatClampNeg v → aWP E cd (i + 1, loc, r, (hd, m1, ml, mr)) Q) : aWP E cd (i, loc, .int v :: .int x :: .ref k :: r, (hd, mi, ml, mr)) Q := by
  refine wp_step hf ?_ (w _ rfl)
  unfold aIas
  dsimp only
  rw [hs.2]
  exact if_pos (c := k < hd.1 ∧ aixn x n = true) ⟨hs.1, hx⟩
theorem wp_zast {x v : Int32} (hf : anth cd i = some aZas) (hs : aSh hd k (2, n)) (hx : aixn x n = true) (hv : v = 0 ∨ v = 1) (w : ∀ m1, m1 = aup mi k x.toNatClampNeg v → aWP E cd (i + 1, loc, r, (hd, m1, ml, mr)) Q) : aWP E cd (i, loc, .int v :: .int x :: .ref k :: r, (hd, mi, ml, mr)) Q := by
  refine wp_step hf ?_ (w _ rfl)
  unfold aZas
  dsimp only
  rw [hs.2]
  exact if_pos (c := k < hd.1 ∧ aixn x n = true ∧ (v = 0 ∨ v = 1)) ⟨hs.1, hx, hv⟩
theorem wp_len {t : Nat} (hf : anth cd i = some (aLen aX0)) (hs : aSh hd k (t + 1, n)) (ht : t < 5) (w : aWP E cd (i + 1, loc, .int (Int32.ofNat n) :: r, (hd, mi, ml, mr)) Q) : aWP E cd (i, loc, .ref k :: r, (hd, mi, ml, mr)) Q := by
  refine wp_step hf ?_ w
  unfold aLen
  dsimp only [aX0]
  rw [hs.2]
  dsimp only
  rw [if_pos ⟨hs.1, ht⟩]
theorem wp_cpy {sp dp m : Int32} {a b n0 n1 : Nat} (hf : anth cd i = some aCpy) (ha : aSh hd a (1, n0)) (hb : aSh hd b (1, n1)) (h1 : ¬ sp < 0) (h2 : ¬ dp < 0) (h3 : ¬ m < 0) (h4 : sp.toNatClampNeg + m.toNatClampNeg ≤ n0) (h5 : dp.toNatClampNeg + m.toNatClampNeg ≤ n1) (hr : asum r ≤ 8) (w : ∀ m1, m1 = acpy mi a b sp.toNatClampNeg dp.toNatClampNeg m.toNatClampNeg → aWP E cd (i + 1, loc, r, (hd, m1, ml, mr)) Q) : aWP E cd (i, loc, .int m :: .int dp :: .ref b :: .int sp :: .ref a :: r, (hd, mi, ml, mr)) Q := by
  refine wp_step hf ?_ (w _ rfl)
  unfold aCpy
  dsimp only
  rw [ha.2, hb.2]
  exact if_pos (c := a < hd.1 ∧ b < hd.1 ∧ ¬ sp < 0 ∧ ¬ dp < 0 ∧ ¬ m < 0 ∧ sp.toNatClampNeg + m.toNatClampNeg ≤ n0 ∧ dp.toNatClampNeg + m.toNatClampNeg ≤ n1 ∧ asum r ≤ 8) ⟨ha.1, hb.1, h1, h2, h3, h4, h5, hr⟩
/-- a call: what its contract leaves, the run goes on with -/
theorem wp_cal {X : aXt × Value} {d d' mid m : Nat} {st : List Value} {as : List Value} {Q1 : Option Value → aM → Prop} {h : aM} (hf : anth cd i = some (aCal mid m none)) (hst : st = as.reverse ++ r) (hm : as.length = m) (hr : asum r ≤ 8) (he : aCW X d' mid as h Q1) (hd : d' ≤ d) (w : ∀ v h1, Q1 v h1 → aWP (aEx (aTb X) d) cd (apush (i + 1, loc, r, h) v h1) Q) : aWP (aEx (aTb X) d) cd (i, loc, st, h) Q := by
  subst hst
  have hl : as.reverse.length = m := by rw [List.length_reverse]; exact hm
  refine wp_cw hf ?_ he hd w
  unfold aCal
  dsimp only
  rw [← hl, List.take_left, List.drop_left, List.reverse_reverse]
  rw [if_pos ⟨rfl, hr, rfl⟩]
theorem wp_calv {X : aXt × Value} {d d' mid m : Nat} {st : List Value} {as : List Value} {Q1 : Option Value → aM → Prop} (hf : anth cd i = some (aCal mid m (some ci))) (hst : st = (Value.ref k :: as).reverse ++ r) (hm : as.length + 1 = m) (hr : asum r ≤ 8) (hs : aSh hd k (0, ci)) (he : aCW X d' mid (.ref k :: as) (hd, mi, ml, mr) Q1) (hdd : d' ≤ d) (w : ∀ v h1, Q1 v h1 → aWP (aEx (aTb X) d) cd (apush (i + 1, loc, r, (hd, mi, ml, mr)) v h1) Q) : aWP (aEx (aTb X) d) cd (i, loc, st, (hd, mi, ml, mr)) Q := by
  subst hst
  have hl : (Value.ref k :: as).reverse.length = m := by rw [List.length_reverse]; exact hm
  refine wp_cw hf ?_ he hdd w
  unfold aCal
  dsimp only
  rw [← hl, List.take_left, List.drop_left, List.reverse_reverse]
  have hv : arcv (hd, mi, ml, mr) (some ci) (.ref k :: as) = true := by
    show (decide (k < hd.1) && decide (anth hd.2.2 k = some (0, ci))) = true
    rw [decide_eq_true hs.1, decide_eq_true hs.2]
    rfl
  rw [if_pos ⟨rfl, hr, hv⟩]
theorem wp_calt {X : aXt × Value} {d d' mid m q : Nat} {st : List Value} {as : List Value} {Q1 : Option Value → aM → Prop} {h : aM} (hf : anth cd i = some (aCalT mid m)) (hst : st = (Value.ref q :: as).reverse ++ r) (hm : as.length + 1 = m) (hr : asum r ≤ 8) (hq : aSTR ≤ q ∧ q - aSTR < 13) (he : aCW X d' mid (.ref q :: as) h Q1) (hdd : d' ≤ d) (w : ∀ v h1, Q1 v h1 → aWP (aEx (aTb X) d) cd (apush (i + 1, loc, r, h) v h1) Q) : aWP (aEx (aTb X) d) cd (i, loc, st, h) Q := by
  subst hst
  have hl : (Value.ref q :: as).reverse.length = m := by rw [List.length_reverse]; exact hm
  refine wp_cw hf ?_ he hdd w
  unfold aCalT aCal
  dsimp only
  rw [← hl, List.take_left, List.drop_left, List.reverse_reverse]
  rw [if_pos ⟨rfl, hr, rfl⟩]
  dsimp only
  rw [if_pos hq]
end WPM
theorem wp_sw {E : Nat → List Value → aM → Option Value → aM → Prop} {cd : List aOp} {Q : Option Value → aM → Prop} {i d : Nat} {lo : Int} {ts : List Nat} {loc : List (Option Value)} {r : List Value} {h : aM} {x : Int32} (t : Nat) (hf : anth cd i = some (aSw lo d ts)) (ht : (if x.toInt < lo then d else (anth ts (x.toInt - lo).toNat).getD d) = t) (w : aWP E cd (t, loc, r, h) Q) : aWP E cd (i, loc, .int x :: r, h) Q := by
  refine wp_step hf ?_ w
  unfold aSw
  dsimp only
  rw [ht]
theorem aSw_out {d : Nat} {lo : Int} {ts : List Nat} {x : Int32} (vs : List Int32) (hv : ∀ v ∈ vs, ¬ x = v) (hm : ∀ j : Nat, j < ts.length → ∃ v ∈ vs, v.toInt = lo + (j : Int)) : (if x.toInt < lo then d else (anth ts (x.toInt - lo).toNat).getD d) = d := by
  by_cases h : x.toInt < lo
  · rw [if_pos h]
  · rw [if_neg h]
    by_cases h2 : (x.toInt - lo).toNat < ts.length
    · obtain ⟨v, h3, h4⟩ := hm _ h2
      refine absurd ?_ (hv v h3)
      apply Int32.toInt_inj.mp
      rw [h4]
      omega
    · rw [anth_none (by omega)]
      rfl
