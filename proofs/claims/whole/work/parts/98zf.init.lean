/-! the constructors' run, looked at (written by wip/whole/mkinit.py) -/
set_option maxRecDepth 1000000 in
theorem ck_n : ∃ q, in0 .null = some q ∧ (q.1.1.1 = 84 ∧ q.1.1.2.2 = SHL.take 84) ∧ ck1 q.2 ∧ ck2 q.2.2.1 q.2.2.2.2 ∧ ck3 q.2.2.1 := by
  have h : (match in0 .null with
    | none => false
    | some q => decide (q.1.1.1 = 84) && decide (q.1.1.2.2 = SHL.take 84) && decide (q.2.1 = HD) && decide (∀ p ∈ MRL, q.2.2.2.2 p.1 p.2.1 = some p.2.2) && decide (q.2.2.1 0 5 = 0) && decide (q.2.2.1 84 12 = 0) && decide (∀ j ∈ List.range 8, q.2.2.1 64 j = q.2.2.1 88 j) && decide (q.2.2.1 63 1 = q.2.2.1 84 7) && decide (¬ q.2.2.1 84 7 < 0) && decide (¬ 999 < q.2.2.1 84 7) && decide (q.2.2.1 0 1 = 1) && decide (q.2.2.2.2 63 2 = some 11) && decide (∀ t ∈ List.range 6, q.2.2.1 (11 + 4 * t) 0 = nI t) && decide (q.2.2.1 84 3 = 1) && decide (q.2.2.1 84 4 = 0) && decide (q.2.2.1 2 0 = 0) && decide (q.2.2.1 84 6 = 0) && decide (q.2.2.1 0 8 = -1) && decide (q.2.2.1 84 34 = -1) && decide (∀ s ∈ List.range 4, q.2.2.1 (55 + 2 * s) 0 = -1 ∧ q.2.2.1 (55 + 2 * s) 1 = 0 ∧ q.2.2.1 97 s = 0) && decide (q.2.2.1 86 0 = 48) && decide (∀ j ∈ List.range 48, q.2.2.1 85 j = LB0.getD j 0) && decide (q.2.2.1 13 0 = nI e0T.length) && decide (q.2.2.1 13 1 = nI (e0T.length + e1T.length)) && decide (q.2.2.1 13 2 = nI (e0T.length + e1T.length + e2T.length)) && decide (∀ j ∈ List.range (e0T.length + e1T.length + e2T.length), q.2.2.1 12 j = (e0T ++ e1T ++ e2T).getD j 0)) = true := by decide +kernel
  cases hq : in0 .null with
  | none => rw [hq] at h; cases h
  | some q =>
    rw [hq] at h
    simp only [Bool.and_eq_true, decide_eq_true_eq] at h
    obtain ⟨⟨⟨⟨⟨⟨⟨⟨⟨⟨⟨⟨⟨⟨⟨⟨⟨⟨⟨⟨⟨⟨⟨⟨⟨a0, a1⟩, a2⟩, a3⟩, a4⟩, a5⟩, a6⟩, a7⟩, a8⟩, a9⟩, a10⟩, a11⟩, a12⟩, a13⟩, a14⟩, a15⟩, a16⟩, a17⟩, a18⟩, a19⟩, a20⟩, a21⟩, a22⟩, a23⟩, a24⟩, a25⟩ := h
    exact ⟨q, rfl, ⟨a0, a1⟩, ⟨a2, a3⟩, ⟨a4, a5, fun j hj => a6 j (List.mem_range.mpr hj), a7, ⟨a8, a9⟩, a10, a11, fun j hj => a12 j (List.mem_range.mpr hj), a13, a14, a15, a16, a17, a18, fun j hj => a19 j (List.mem_range.mpr hj)⟩, ⟨a20, fun j hj => a21 j (List.mem_range.mpr hj), a22, a23, a24, fun j hj => a25 j (List.mem_range.mpr hj)⟩⟩
set_option maxRecDepth 1000000 in
theorem ck_s : ∃ q, in0 (.ref aSIO) = some q ∧ (q.1.1.1 = 84 ∧ q.1.1.2.2 = SHL.take 84) ∧ ck1 q.2 ∧ ck2 q.2.2.1 q.2.2.2.2 ∧ ck3 q.2.2.1 := by
  have h : (match in0 (.ref aSIO) with
    | none => false
    | some q => decide (q.1.1.1 = 84) && decide (q.1.1.2.2 = SHL.take 84) && decide (q.2.1 = HD) && decide (∀ p ∈ MRL, q.2.2.2.2 p.1 p.2.1 = some p.2.2) && decide (q.2.2.1 0 5 = 0) && decide (q.2.2.1 84 12 = 0) && decide (∀ j ∈ List.range 8, q.2.2.1 64 j = q.2.2.1 88 j) && decide (q.2.2.1 63 1 = q.2.2.1 84 7) && decide (¬ q.2.2.1 84 7 < 0) && decide (¬ 999 < q.2.2.1 84 7) && decide (q.2.2.1 0 1 = 1) && decide (q.2.2.2.2 63 2 = some 11) && decide (∀ t ∈ List.range 6, q.2.2.1 (11 + 4 * t) 0 = nI t) && decide (q.2.2.1 84 3 = 1) && decide (q.2.2.1 84 4 = 0) && decide (q.2.2.1 2 0 = 0) && decide (q.2.2.1 84 6 = 0) && decide (q.2.2.1 0 8 = -1) && decide (q.2.2.1 84 34 = -1) && decide (∀ s ∈ List.range 4, q.2.2.1 (55 + 2 * s) 0 = -1 ∧ q.2.2.1 (55 + 2 * s) 1 = 0 ∧ q.2.2.1 97 s = 0) && decide (q.2.2.1 86 0 = 48) && decide (∀ j ∈ List.range 48, q.2.2.1 85 j = LB0.getD j 0) && decide (q.2.2.1 13 0 = nI e0T.length) && decide (q.2.2.1 13 1 = nI (e0T.length + e1T.length)) && decide (q.2.2.1 13 2 = nI (e0T.length + e1T.length + e2T.length)) && decide (∀ j ∈ List.range (e0T.length + e1T.length + e2T.length), q.2.2.1 12 j = (e0T ++ e1T ++ e2T).getD j 0)) = true := by decide +kernel
  cases hq : in0 (.ref aSIO) with
  | none => rw [hq] at h; cases h
  | some q =>
    rw [hq] at h
    simp only [Bool.and_eq_true, decide_eq_true_eq] at h
    obtain ⟨⟨⟨⟨⟨⟨⟨⟨⟨⟨⟨⟨⟨⟨⟨⟨⟨⟨⟨⟨⟨⟨⟨⟨⟨a0, a1⟩, a2⟩, a3⟩, a4⟩, a5⟩, a6⟩, a7⟩, a8⟩, a9⟩, a10⟩, a11⟩, a12⟩, a13⟩, a14⟩, a15⟩, a16⟩, a17⟩, a18⟩, a19⟩, a20⟩, a21⟩, a22⟩, a23⟩, a24⟩, a25⟩ := h
    exact ⟨q, rfl, ⟨a0, a1⟩, ⟨a2, a3⟩, ⟨a4, a5, fun j hj => a6 j (List.mem_range.mpr hj), a7, ⟨a8, a9⟩, a10, a11, fun j hj => a12 j (List.mem_range.mpr hj), a13, a14, a15, a16, a17, a18, fun j hj => a19 j (List.mem_range.mpr hj)⟩, ⟨a20, fun j hj => a21 j (List.mem_range.mpr hj), a22, a23, a24, fun j hj => a25 j (List.mem_range.mpr hj)⟩⟩
