/-! What an abstract state says of the machine's. -/
def acv (ad : Nat → Nat) : Value → Value
  | .ref k => .ref (ad k)
  | v => v
theorem acv_cat (ad : Nat → Nat) (v : Value) : (acv ad v).category = v.category := by cases v <;> rfl
theorem acv_sum (ad : Nat → Nat) (st : List Value) : ((st.map (acv ad)).map fun v => v.category).sum = asum st := by
  induction st with
  | nil => rfl
  | cons x t ih => simp only [asum, List.map_cons, List.sum_cons, acv_cat] at ih ⊢; omega
theorem acv_arf (ad : Nat → Nat) (r : Option Nat) : acv ad (arf r) = va_rf (r.map ad) := by cases r <;> rfl
/-- the locals that are known -/
def aAL (ad : Nat → Nat) : Nat → List (Option Value) → List (Nat × Value)
  | _, [] => []
  | j, some v :: t => (j, acv ad v) :: aAL ad (j + 1) t
  | j, none :: t => aAL ad (j + 1) t
theorem aAL_mem {ad : Nat → Nat} : ∀ {loc : List (Option Value)} {j : Nat} {q : Nat × Value}, q ∈ aAL ad j loc ↔ ∃ (i : Nat) (v : Value), aget loc i = some v ∧ q = (j + i, acv ad v)
  | [], j, q => by simp [aAL, aget]
  | none :: t, j, q => by
    rw [aAL, aAL_mem]
    constructor
    · rintro ⟨i, v, h1, h2⟩
      exact ⟨i + 1, v, h1, by rw [h2]; congr 1; omega⟩
    · rintro ⟨i, v, h1, h2⟩
      cases i with
      | zero => cases h1
      | succ i => exact ⟨i, v, h1, by rw [h2]; congr 1; omega⟩
  | some w :: t, j, q => by
    rw [aAL, List.mem_cons, aAL_mem]
    constructor
    · rintro (rfl | ⟨i, v, h1, h2⟩)
      · exact ⟨0, w, rfl, rfl⟩
      · exact ⟨i + 1, v, h1, by rw [h2]; congr 1; omega⟩
    · rintro ⟨i, v, h1, h2⟩
      cases i with
      | zero => cases h1; exact Or.inl h2
      | succ i => exact Or.inr ⟨i, v, h1, by rw [h2]; congr 1; omega⟩
theorem aAL_get {ad : Nat → Nat} {loc : List (Option Value)} {ls : Array Slot} {nL i : Nat} {v : Value} (h : lv_has ls nL (aAL ad 0 loc)) (hi : aget loc i = some v) : ls[i]? = some (.val (acv ad v)) :=
  h.2.2 (i, acv ad v) (aAL_mem.mpr ⟨i, v, hi, by rw [Nat.zero_add]⟩)
theorem aAL_place {ad : Nat → Nat} {loc : List (Option Value)} {i : Nat} {v : Value} (hi : aget loc i = some v) : ∃ k : Nat, (aAL ad 0 loc)[k]? = some (i, acv ad v) :=
  List.getElem?_of_mem (aAL_mem.mpr ⟨i, v, hi, by rw [Nat.zero_add]⟩)
theorem aget_set_ne : ∀ {loc : List (Option Value)} {i j : Nat} {v : Option Value}, i ≠ j → aget (aset loc i v) j = aget loc j
  | [], i, j, v, _ => rfl
  | x :: t, 0, 0, v, h => absurd rfl h
  | x :: t, 0, j + 1, v, h => rfl
  | x :: t, i + 1, 0, v, h => rfl
  | x :: t, i + 1, j + 1, v, h => by
    show aget (aset t i v) j = aget t j
    exact aget_set_ne (fun e => h (by rw [e]))
theorem aget_set_eq : ∀ {loc : List (Option Value)} {i : Nat} {v : Option Value} {x : Value}, aget (aset loc i v) i = some x → v = some x
  | [], i, v, x, h => by cases h
  | y :: t, 0, v, x, h => h
  | y :: t, i + 1, v, x, h => aget_set_eq (loc := t) (i := i) h
theorem aset_len : ∀ (loc : List (Option Value)) (i : Nat) (v : Option Value), (aset loc i v).length = loc.length
  | [], i, v => rfl
  | x :: t, 0, v => rfl
  | x :: t, i + 1, v => by simp [aset, aset_len t i v]
theorem akl_len (loc : List (Option Value)) (i : Nat) : (akl loc i).length = loc.length := by
  unfold akl
  split
  · split
    · exact aset_len _ _ _
    · rfl
  · rfl
theorem akill_len (loc : List (Option Value)) (i : Nat) : (akill loc i).length = loc.length := by
  cases i with
  | zero => rfl
  | succ j => exact akl_len loc j
theorem ast1_len (loc : List (Option Value)) (i : Nat) (v : Value) : (ast1 loc i v).length = loc.length := by rw [ast1, aset_len, akill_len]
theorem ast2_len (loc : List (Option Value)) (i : Nat) (v : Value) : (ast2 loc i v).length = loc.length := by rw [ast2, aset_len, aset_len, akill_len]
/-- what stands behind a kill: what stood there, and no long ahead of i -/
theorem aget_kill {loc : List (Option Value)} {i j : Nat} {v : Value} (h : aget (akill loc i) j = some v) : aget loc j = some v ∧ ¬ (j + 1 = i ∧ v.category = 2) := by
  cases i with
  | zero => exact ⟨h, fun q => by omega⟩
  | succ k =>
    have h : aget (akl loc k) j = some v := h
    unfold akl at h
    cases hx : aget loc k with
    | none =>
      rw [hx] at h
      refine ⟨h, fun q => ?_⟩
      have e : k = j := by omega
      subst e
      rw [hx] at h
      cases h
    | some x =>
      rw [hx] at h
      dsimp only at h
      by_cases hc : x.category = 2
      · rw [if_pos hc] at h
        by_cases e : k = j
        · subst e
          have := aget_set_eq h
          cases this
        · rw [aget_set_ne e] at h
          exact ⟨h, fun q => e (by omega)⟩
      · rw [if_neg hc] at h
        refine ⟨h, fun q => ?_⟩
        have e : k = j := by omega
        subst e
        rw [hx] at h
        cases h
        exact hc q.2
theorem aAL_st1 {ad : Nat → Nat} {loc : List (Option Value)} {ls : Array Slot} {nL i : Nat} {v : Value} (h : lv_has ls nL ((i, acv ad v) :: (aAL ad 0 loc).filter (fun q => !(q.1 == i) && !(q.1 + 1 == i && q.2.category == 2)))) : lv_has ls nL (aAL ad 0 (ast1 loc i v)) := by
  refine ⟨h.1, h.2.1, fun q hq => h.2.2 q ?_⟩
  obtain ⟨j, w, hj, rfl⟩ := aAL_mem.mp hq
  rw [Nat.zero_add]
  by_cases e : i = j
  · subst e
    have := aget_set_eq hj
    cases this
    exact List.mem_cons_self
  · rw [ast1, aget_set_ne e] at hj
    obtain ⟨h1, h2⟩ := aget_kill hj
    refine List.mem_cons_of_mem _ (List.mem_filter.mpr ⟨aAL_mem.mpr ⟨j, w, h1, by rw [Nat.zero_add]⟩, ?_⟩)
    have e1 : (j == i) = false := by simpa using fun q => e q.symm
    by_cases e2 : j + 1 = i
    · have : ((acv ad w).category == 2) = false := by rw [acv_cat]; simpa using fun q => h2 ⟨e2, q⟩
      simp [e1, this]
    · have e3 : (j + 1 == i) = false := by simpa using e2
      simp [e1, e3]
theorem aAL_st2 {ad : Nat → Nat} {loc : List (Option Value)} {ls : Array Slot} {nL i : Nat} {v : Value} (h : lv_has ls nL ((i, acv ad v) :: (aAL ad 0 loc).filter (fun q => !(q.1 == i) && (!(q.1 == i + 1) && !(q.1 + 1 == i && q.2.category == 2))))) : lv_has ls nL (aAL ad 0 (ast2 loc i v)) := by
  refine ⟨h.1, h.2.1, fun q hq => h.2.2 q ?_⟩
  obtain ⟨j, w, hj, rfl⟩ := aAL_mem.mp hq
  rw [Nat.zero_add]
  by_cases e4 : i + 1 = j
  · subst e4
    have := aget_set_eq hj
    cases this
  rw [ast2, aget_set_ne e4] at hj
  by_cases e : i = j
  · subst e
    have := aget_set_eq hj
    cases this
    exact List.mem_cons_self
  · rw [aget_set_ne e] at hj
    obtain ⟨h1, h2⟩ := aget_kill hj
    refine List.mem_cons_of_mem _ (List.mem_filter.mpr ⟨aAL_mem.mpr ⟨j, w, h1, by rw [Nat.zero_add]⟩, ?_⟩)
    have e1 : (j == i) = false := by simpa using fun q => e q.symm
    have e5 : (j == i + 1) = false := by simpa using fun q => e4 q.symm
    by_cases e2 : j + 1 = i
    · have : ((acv ad w).category == 2) = false := by rw [acv_cat]; simpa using fun q => h2 ⟨e2, q⟩
      simp [e1, e5, this]
    · have e3 : (j + 1 == i) = false := by simpa using e2
      simp [e1, e5, e3]
/-! the world of a memory -/
def acell (ad : Nat → Nat) (cA : Nat → ClassId) (h : aM) (k : Nat) : va_E := match anth h.1.2.2 k with
  | some (0, ci) => .inr (ci, (List.range (anf ci)).map (fun j => acv ad (afv h k ci j)))
  | some (1, n) => .inl (cA 0, n, .inl (h.2.1 k))
  | some (2, n) => .inl (cA 1, n, .inl (h.2.1 k))
  | some (t + 3, n) => .inl (cA (t + 2), n, .inr (.inr (.inr (.inr (fun j => (h.2.2.2 k j).map ad)))))
  | none => .inl (cA 0, 0, .inl (fun _ => 0))
def awld (ad : Nat → Nat) (cA : Nat → ClassId) (h : aM) : va_W := (List.range h.1.1).map (fun k => (ad k, acell ad cA h k))
theorem awld_get {ad : Nat → Nat} {cA : Nat → ClassId} {h : aM} {k : Nat} (hk : k < h.1.1) : (awld ad cA h)[k]? = some (ad k, acell ad cA h k) := by
  simp [awld, List.getElem?_range hk]
theorem awld_of {ad : Nat → Nat} {cA : Nat → ClassId} {h : aM} {k : Nat} {q : Nat × va_E} (hq : (awld ad cA h)[k]? = some q) : k < h.1.1 ∧ q = (ad k, acell ad cA h k) := by
  have hk : k < h.1.1 := by
    have := (List.getElem?_eq_some_iff.mp hq).1
    simpa [awld] using this
  rw [awld_get hk] at hq
  exact ⟨hk, (Option.some.inj hq).symm⟩
theorem awld_set {ad : Nat → Nat} {cA : Nat → ClassId} {h h' : aM} {k : Nat} {e : va_E} (hn : h'.1.1 = h.1.1) (hs : ∀ j, j < h.1.1 → j ≠ k → acell ad cA h' j = acell ad cA h j) (he : acell ad cA h' k = e) : (awld ad cA h).set k (ad k, e) = awld ad cA h' := by
  apply List.ext_getElem?
  intro j
  rw [List.getElem?_set]
  by_cases hj : j < h.1.1
  · rw [awld_get (h := h') (by rw [hn]; exact hj)]
    by_cases e1 : k = j
    · subst e1
      simp [awld, hj, he]
    · rw [if_neg e1, awld_get hj, hs j hj (fun q => e1 q.symm)]
  · have l1 : (awld ad cA h').length = h.1.1 := by simp [awld, hn]
    have l2 : (awld ad cA h).length = h.1.1 := by simp [awld]
    have g1 : (awld ad cA h')[j]? = none := List.getElem?_eq_none (by rw [l1]; omega)
    have g2 : (awld ad cA h)[j]? = none := List.getElem?_eq_none (by rw [l2]; omega)
    rw [g1]
    split
    · rename_i e1
      rw [if_neg (by rw [l2]; omega)]
    · exact g2
theorem awld_push {ad : Nat → Nat} {cA : Nat → ClassId} {h h' : aM} {e : va_E} (hn : h'.1.1 = h.1.1 + 1) (hs : ∀ j, j < h.1.1 → acell ad cA h' j = acell ad cA h j) (he : acell ad cA h' h.1.1 = e) : awld ad cA h ++ [(ad h.1.1, e)] = awld ad cA h' := by
  unfold awld
  rw [hn, List.range_succ, List.map_append]
  congr 1
  · apply List.map_congr_left
    intro j hj
    rw [hs j (List.mem_range.mp hj)]
  · simp [he]
/-- the addresses: the cells stand in a row from bs on; what stands outside stands below -/
def aAd (ad : Nat → Nat) (bs : Nat) : Prop := (∀ k, k < aCAP → ad k = bs + k) ∧ True
def aA (bs : Nat) : Nat → Prop := fun q => bs ≤ q
theorem awld_D {ad : Nat → Nat} {bs : Nat} (ha : aAd ad bs) (cA : Nat → ClassId) {h : aM} (hn : h.1.1 ≤ aCAP) : va_D (aA bs) (awld ad cA h) := by
  refine ⟨fun i j p q hp hq e => ?_, fun k q hq => ?_⟩
  · obtain ⟨h1, rfl⟩ := awld_of hp
    obtain ⟨h2, rfl⟩ := awld_of hq
    have e : ad i = ad j := e
    rw [ha.1 i (by omega), ha.1 j (by omega)] at e
    omega
  · obtain ⟨h1, rfl⟩ := awld_of hq
    show bs ≤ ad k
    rw [ha.1 k (by omega)]
    omega
theorem aA_D {ad : Nat → Nat} {bs : Nat} (ha : aAd ad bs) (cA : Nat → ClassId) {h : aM} (hn : h.1.1 ≤ aCAP) (q : Nat) : va_A (awld ad cA h) (bs + h.1.1) q ↔ aA bs q := by
  constructor
  · rintro (⟨k, e, hk⟩ | h1)
    · exact (awld_D ha cA hn).2 k _ hk
    · show bs ≤ q
      omega
  · intro h1
    have h1 : bs ≤ q := h1
    by_cases hq : bs + h.1.1 ≤ q
    · exact Or.inr hq
    · refine Or.inl ⟨q - bs, acell ad cA h (q - bs), ?_⟩
      rw [awld_get (by omega), ha.1 _ (by omega)]
      congr 2
      omega
