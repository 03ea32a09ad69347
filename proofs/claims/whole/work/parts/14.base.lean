/-! small things (written by wip/whole/gen.py) -/
theorem okX0 : ∀ k, k < 5 → aOkT (acty 0 k) = true := by decide +kernel
theorem okX1 : ∀ k, k < 7 → aOkT (acty 1 k) = true := by decide +kernel
theorem okX2 : ∀ k, k < 3 → aOkT (acty 2 k) = true := by decide +kernel
theorem okX3 : ∀ k, k < 5 → aOkT (acty 3 k) = true := by decide +kernel
theorem okX4 : ∀ k, k < 6 → aOkT (acty 4 k) = true := by decide +kernel
theorem okX5 : ∀ k, k < 4 → aOkT (acty 5 k) = true := by decide +kernel
theorem okX6 : ∀ k, k < 11 → aOkT (acty 6 k) = true := by decide +kernel
theorem okX7 : ∀ k, k < 41 → aOkT (acty 7 k) = true := by decide +kernel
def qB (v : Value) : Bool := match v with
  | .int x => x = 0
  | _ => false
def qC (v : Value) : Bool := match v with
  | .int x => (narrow .char (.int x) == .int x)
  | _ => false
theorem nar_qI : ∀ v, qI v = true → ∃ x, v = .int x ∧ narrow .int (.int x) = .int x := by
  intro v h
  cases v with
  | int x => exact ⟨x, rfl, rfl⟩
  | _ => cases h
theorem nar_qZ : ∀ v, qZ v = true → ∃ x, v = .int x ∧ narrow .boolean (.int x) = .int x := by
  intro v h
  cases v with
  | int x =>
    simp only [qZ, Bool.or_eq_true, decide_eq_true_eq] at h
    refine ⟨x, rfl, ?_⟩
    rcases h with rfl | rfl <;> rfl
  | _ => cases h
theorem nar_qB : ∀ v, qB v = true → ∃ x, v = .int x ∧ narrow .byte (.int x) = .int x := by
  intro v h
  cases v with
  | int x =>
    simp only [qB, decide_eq_true_eq] at h
    refine ⟨x, rfl, ?_⟩
    subst h
    rfl
  | _ => cases h
theorem nar_qC : ∀ v, qC v = true → ∃ x, v = .int x ∧ narrow .char (.int x) = .int x := by
  intro v h
  cases v with
  | int x => exact ⟨x, rfl, eq_of_beq h⟩
  | _ => cases h
theorem anth_none {α : Type} : ∀ {l : List α} {j : Nat}, l.length ≤ j → anth l j = none
  | [], j, _ => rfl
  | x :: t, 0, h => absurd h (by simp)
  | x :: t, j + 1, h => anth_none (l := t) (Nat.le_of_succ_le_succ h)
theorem aSw_in {offs : Array Int} {ts : List Nat} {pcs : Nat → Nat} {pc : Nat} (h : (List.range ts.length).all (fun j => match offs[j]?, anth ts j with
    | some o, some t => decide ((pc : Int) + o = (pcs t : Int))
    | _, _ => false) = true) : ∀ j : Nat, j < ts.length → ∃ (o : Int) (t : Nat), offs[j]? = some o ∧ anth ts j = some t ∧ (pc : Int) + o = (pcs t : Int) := by
  intro j hj
  have h1 := List.all_eq_true.mp h j (List.mem_range.mpr hj)
  cases ho : offs[j]? with
  | none => rw [ho] at h1; cases h1
  | some o =>
    cases ht : anth ts j with
    | none => rw [ho, ht] at h1; cases h1
    | some t =>
      rw [ho, ht] at h1
      exact ⟨o, t, rfl, rfl, of_decide_eq_true h1⟩
