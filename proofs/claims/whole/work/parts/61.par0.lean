/-! the reading's state: at, behind, token, value, the steps made (written by wip/whole/mkpar0.py) -/
abbrev pS := Nat × Nat × Int32 × Int32 × List Int32
def stP (b : Nat → Int32) (n : Nat) (s : pS) : pS := (spF b 160 s.2.1, lxE b n (spF b 160 s.2.1), lxT b n (spF b 160 s.2.1), lxV b n (spF b 160 s.2.1) s.2.2.2.1, s.2.2.2.2)
def adP (c : Int32) (s : pS) : pS := if s.2.2.2.2.length < 160 then (s.1, s.2.1, s.2.2.1, s.2.2.2.1, s.2.2.2.2 ++ [c]) else s
def PS (mi m : Nat → Nat → Int32) (s : pS) : Prop := (∀ k j, ¬ (k = 2 ∧ 3 ≤ j ∧ j ≤ 6) → ¬ (k = 4 ∧ j = 4) → k ≠ 5 → m k j = mi k j) ∧ m 2 3 = s.2.2.1 ∧ m 2 4 = nI s.1 ∧ m 2 5 = nI s.2.1 ∧ m 2 6 = s.2.2.2.1 ∧ m 4 4 = nI s.2.2.2.2.length ∧ s.2.2.2.2.length ≤ 160 ∧ (∀ j, j < s.2.2.2.2.length → m 5 j = s.2.2.2.2.getD j 0) ∧ s.2.1 ≤ 161 ∧ s.1 ≤ 161
theorem PS.row3 {mi m : Nat → Nat → Int32} {s : pS} (h : PS mi m s) : m 3 = mi 3 := funext fun j => h.1 3 j (by omega) (by omega) (by decide)
theorem PS.sz {mi m : Nat → Nat → Int32} {s : pS} (h : PS mi m s) : m 2 0 = mi 2 0 := h.1 2 0 (by omega) (by omega) (by decide)
theorem lxE_le {f : Nat → Int32} {n a : Nat} (hn : n ≤ 160) (h : a ≤ 161) : lxE (byN f n) n a ≤ 161 := by
  unfold lxE
  split
  · exact h
  · split
    · split
      · omega
      · exact (skF_le (f := f) hn (lw := 48) (up := 57) (by decide) 160 a h).2
    · exact (skF_le (f := f) hn (lw := 97) (up := 122) (by decide) 160 a h).2
theorem c_pstep {X : aXt × Value} {mi m : Nat → Nat → Int32} {ml : Nat → Nat → Int64} {mr : Nat → Nat → Option Nat} (hM : MRok mr) {n : Nat} (hn : n ≤ 160) (hs : mi 2 0 = nI n) (hX : outOK X) {s : pS} (h : PS mi m s) : aCW X 7 23 [.ref 2] (HD, m, ml, mr) (fun r h' => r = none ∧ ∃ m', h' = (HD, m', ml, mr) ∧ PS mi m' (stP (byN (mi 3) n) n s)) := by
  obtain ⟨r, h', g, hr, m', hm, g1, g2, g3, g4, g5⟩ := c_step (X := X) (mi := m) (ml := ml) hM hn (h.sz.trans hs) hX (a0 := s.2.1) h.2.2.2.2.2.2.2.2.1 h.2.2.2.1
  rw [h.row3] at g2 g3 g4 g5
  obtain ⟨a1, a2, a3, a4, a5, a6, a7, a8, a9⟩ := h
  refine ⟨r, h', g, hr, m', hm, fun k j h1 h2 h3 => (g1 k j h1).trans (a1 k j h1 h2 h3), g2, g3, g4, ?_, ?_, a7, fun j hj => (g1 5 j (by omega)).trans (a8 j hj), ?_⟩
  · rw [g5, a5]; rfl
  · rw [g1 4 4 (by omega)]; exact a6
  · exact ⟨lxE_le hn (spF_le hn 160 _ a9.1), spF_le hn 160 _ a9.1⟩
theorem c_padd {X : aXt × Value} {mi m : Nat → Nat → Int32} {ml : Nat → Nat → Int64} {mr : Nat → Nat → Option Nat} (hM : MRok mr) {c : Int32} {s : pS} (h : PS mi m s) : aCW X 1 38 [.ref 4, .int c] (HD, m, ml, mr) (fun r h' => r = none ∧ ∃ m', h' = (HD, m', ml, mr) ∧ PS mi m' (adP c s)) := by
  obtain ⟨r, h', g, hr, hm⟩ := c_Xadd (X := X) (mi := m) (ml := ml) hM (A := 4) (by decide) (c := c)
  obtain ⟨a1, a2, a3, a4, a5, a6, a7, a8, a9⟩ := h
  refine ⟨r, h', g, hr, _, hm, ?_⟩
  rw [a6]
  by_cases q : s.2.2.2.2.length < 160
  · rw [if_pos (aix_nI q (by decide)), nI_clamp (by omega)]
    unfold adP
    rw [if_pos q]
    refine ⟨fun k j h1 h2 h3 => ?_, ?_, ?_, ?_, ?_, ?_, ?_, fun j hj => ?_, a9⟩
    · rw [← a1 k j h1 h2 h3]
      by_cases k4 : k = 4
      · subst k4
        have : ¬ j = 4 := fun z => h2 ⟨rfl, z⟩
        simp [aup, this]
      · simp [aup, k4, h3]
    · simpa [aup] using a2
    · simpa [aup] using a3
    · simpa [aup] using a4
    · simpa [aup] using a5
    · simp [aup, nI_1]
    · simp; omega
    · have hj : j < s.2.2.2.2.length + 1 := by simpa using hj
      by_cases e : j = s.2.2.2.2.length
      · subst e; simp [aup]
      · have hj2 : j < s.2.2.2.2.length := by omega
        simp [aup, e, a8 j hj2, List.getElem?_append_left hj2]
  · have q2 : ¬ aixn (nI s.2.2.2.2.length) 160 = true := fun z => q (by have := (aix_out z).2; rw [nI_clamp (by omega)] at this; exact this)
    rw [if_neg q2]
    unfold adP
    rw [if_neg q]
    exact ⟨a1, a2, a3, a4, a5, a6, a7, a8, a9⟩
