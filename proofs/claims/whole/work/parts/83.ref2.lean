/-! what the token is: signs, words (written by wip/whole/mkref2.py) -/
def iL (b : Nat → Int32) (a e i : Nat) (c : Int32) : Bool := if a + i < e then decide (b (a + i) = c) else decide (c = 0)
def iWL (b : Nat → Int32) (a e : Nat) : List Int32 → Nat → Bool
  | [], _ => true
  | c :: t, i => iL b a e i c && iWL b a e t (i + 1)
theorem iWL_z {b : Nat → Int32} {a e : Nat} (hz : ∀ p, a ≤ p → p < e → b p ≠ 0) : ∀ (z i : Nat), a + i ≤ e → e ≤ a + i + z → iWL b a e (List.replicate z 0) i = true → e = a + i
  | 0, i, h1, h2, _ => by omega
  | z + 1, i, h1, h2, h3 => by
    rw [List.replicate_succ] at h3
    unfold iWL iL at h3
    rcases Nat.lt_or_ge (a + i) e with q | q
    · rw [if_pos q] at h3
      have := hz (a + i) (by omega) q
      simp [this] at h3
    · omega
theorem iWL_z2 {b : Nat → Int32} {a e : Nat} : ∀ (z i : Nat), e ≤ a + i → iWL b a e (List.replicate z 0) i = true
  | 0, i, _ => rfl
  | z + 1, i, h => by
    rw [List.replicate_succ]
    unfold iWL iL
    rw [if_neg (by omega), iWL_z2 z (i + 1) (by omega)]
    rfl
theorem iWL_w {b : Nat → Int32} {a e z : Nat} (hz : ∀ p, a ≤ p → p < e → b p ≠ 0) : ∀ (w : List Int32) (i : Nat), (∀ c ∈ w, c ≠ 0) → a + i ≤ e → e ≤ a + i + w.length + z → (iWL b a e (w ++ List.replicate z 0) i = true ↔ (e = a + i + w.length ∧ rdF b w (a + i) = true))
  | [], i, _, h1, h2 => ⟨fun h => ⟨iWL_z hz z i h1 h2 h, rfl⟩, fun h => iWL_z2 z i (Nat.le_of_eq h.1)⟩
  | c :: t, i, hc, h1, h2 => by
    have c0 := hc c (List.mem_cons_self ..)
    have ih := fun h => iWL_w (z := z) hz t (i + 1) (fun x hx => hc x (List.mem_cons_of_mem _ hx)) h (by simp only [List.length_cons] at h2; omega)
    rw [List.cons_append]
    unfold iWL iL rdF
    simp only [List.length_cons, Bool.and_eq_true]
    rcases Nat.lt_or_ge (a + i) e with q | q
    · rw [if_pos q, ih (by omega), show a + (i + 1) + t.length = a + i + (t.length + 1) by omega, show a + (i + 1) = a + i + 1 by omega]
      simp only [decide_eq_true_eq]
      constructor
      · rintro ⟨x1, x2, x3⟩; exact ⟨x2, x1, x3⟩
      · rintro ⟨x1, x2, x3⟩; exact ⟨x2, x1, x3⟩
    · rw [if_neg (by omega)]
      simp only [decide_eq_true_eq]
      constructor
      · rintro ⟨x1, _⟩; exact absurd x1 c0
      · rintro ⟨x1, _⟩; omega
def iW (b : Nat → Int32) (a e : Nat) (w : List Int32) : Bool := decide (e ≤ a + 8) && iWL b a e w 0
theorem iW_wd {b : Nat → Int32} {a e z : Nat} {w : List Int32} (hz : ∀ p, a ≤ p → p < e → b p ≠ 0) (hae : a ≤ e) (hc : ∀ c ∈ w, c ≠ 0) (hl : w.length + z = 8) : iW b a e (w ++ List.replicate z 0) = true ↔ wdF b a e w ≠ 0 := by
  unfold iW wdF
  simp only [Bool.and_eq_true, decide_eq_true_eq]
  constructor
  · rintro ⟨h1, h2⟩
    obtain ⟨x1, x2⟩ := (iWL_w hz w 0 hc (by omega) (by omega)).mp h2
    rw [if_pos (by omega), if_pos (show rdF b w a = true from x2)]
    decide
  · intro h
    by_cases h1 : e - a = w.length
    · rw [if_pos h1] at h
      by_cases h2 : rdF b w a = true
      · exact ⟨by omega, (iWL_w hz w 0 hc (by omega) (by omega)).mpr ⟨by omega, h2⟩⟩
      · rw [if_neg h2] at h; exact absurd rfl h
    · rw [if_neg h1] at h; exact absurd rfl h
theorem rd_ex {b : Nat → Int32} : ∀ {v w : List Int32} {p : Nat}, v.length = w.length → rdF b v p = true → rdF b w p = true → v = w
  | [], [], _, _, _, _ => rfl
  | [], _ :: _, _, h, _, _ => by cases h
  | _ :: _, [], _, h, _, _ => by cases h
  | c :: v, d :: w, p, h, h1, h2 => by
    unfold rdF at h1 h2
    simp only [Bool.and_eq_true, decide_eq_true_eq] at h1 h2
    rw [h1.1.symm.trans h2.1, rd_ex (by simpa using h) h1.2 h2.2]
theorem wd_ex {b : Nat → Int32} {a e : Nat} {v w : List Int32} (h1 : wdF b a e v ≠ 0) (h2 : v ≠ w) : wdF b a e w = 0 := by
  unfold wdF at h1 ⊢
  by_cases q1 : e - a = v.length
  · rw [if_pos q1] at h1
    by_cases q2 : rdF b v a = true
    · by_cases q3 : e - a = w.length
      · rw [if_pos q3]
        by_cases q4 : rdF b w a = true
        · exact absurd (rd_ex (q1.symm.trans q3) q2 q4) h2
        · rw [if_neg q4]
      · rw [if_neg q3]
    · rw [if_neg q2] at h1; exact absurd rfl h1
  · rw [if_neg q1] at h1; exact absurd rfl h1
theorem skF_all {b : Nat → Int32} {lo hi : Int32} : ∀ (g a p : Nat), a ≤ p → p < skF b lo hi g a → inR lo hi (b p)
  | 0, a, p, h1, h2 => by unfold skF at h2; omega
  | g + 1, a, p, h1, h2 => by
    by_cases q : inR lo hi (b a)
    · rw [skF_st q] at h2
      by_cases e : p = a
      · rw [e]; exact q
      · exact skF_all g (a + 1) p (by omega) h2
    · rw [skF_ex q] at h2; omega
theorem wo_lt {b : Nat → Int32} {a e : Nat} : woF b a e < 16 ∧ ¬ woF b a e < 1 ∧ ¬ woF b a e = 2 := by
  unfold woF
  by_cases k_skill : wdF b a e [115, 107, 105, 108, 108] = 0
  rotate_left
  · rw [if_neg k_skill]; decide
  rw [if_pos k_skill]
  by_cases k_hard : wdF b a e [104, 97, 114, 100] = 0
  rotate_left
  · rw [if_neg k_hard]; decide
  rw [if_pos k_hard]
  by_cases k_help : wdF b a e [104, 101, 108, 112] = 0
  rotate_left
  · rw [if_neg k_help]; decide
  rw [if_pos k_help]
  by_cases k_number : wdF b a e [110, 117, 109, 98, 101, 114] = 0
  rotate_left
  · rw [if_neg k_number]; decide
  rw [if_pos k_number]
  by_cases k_day : wdF b a e [100, 97, 121] = 0
  rotate_left
  · rw [if_neg k_day]; decide
  rw [if_pos k_day]
  by_cases k_done : wdF b a e [100, 111, 110, 101] = 0
  rotate_left
  · rw [if_neg k_done]; decide
  rw [if_pos k_done]
  by_cases k_teaches : wdF b a e [116, 101, 97, 99, 104, 101, 115] = 0
  rotate_left
  · rw [if_neg k_teaches]; decide
  rw [if_pos k_teaches]
  by_cases k_fades : wdF b a e [102, 97, 100, 101, 115] = 0
  rotate_left
  · rw [if_neg k_fades]; decide
  rw [if_pos k_fades]
  by_cases k_nerves : wdF b a e [110, 101, 114, 118, 101, 115] = 0
  rotate_left
  · rw [if_neg k_nerves]; decide
  rw [if_pos k_nerves]
  by_cases k_or : wdF b a e [111, 114] = 0
  rotate_left
  · rw [if_neg k_or]; decide
  rw [if_pos k_or]
  by_cases k_and : wdF b a e [97, 110, 100] = 0
  rotate_left
  · rw [if_neg k_and]; decide
  rw [if_pos k_and]
  by_cases k_not : wdF b a e [110, 111, 116] = 0
  rotate_left
  · rw [if_neg k_not]; decide
  rw [if_pos k_not]
  decide
theorem wo_skill {b : Nat → Int32} {a e : Nat} : woF b a e = 10 ↔ wdF b a e [115, 107, 105, 108, 108] ≠ 0 := by
  constructor
  · intro h h0
    unfold woF at h
    rw [if_pos h0] at h
    by_cases k_hard : wdF b a e [104, 97, 114, 100] = 0
    rotate_left
    · rw [if_neg k_hard] at h; exact absurd h (by decide)
    rw [if_pos k_hard] at h
    by_cases k_help : wdF b a e [104, 101, 108, 112] = 0
    rotate_left
    · rw [if_neg k_help] at h; exact absurd h (by decide)
    rw [if_pos k_help] at h
    by_cases k_number : wdF b a e [110, 117, 109, 98, 101, 114] = 0
    rotate_left
    · rw [if_neg k_number] at h; exact absurd h (by decide)
    rw [if_pos k_number] at h
    by_cases k_day : wdF b a e [100, 97, 121] = 0
    rotate_left
    · rw [if_neg k_day] at h; exact absurd h (by decide)
    rw [if_pos k_day] at h
    by_cases k_done : wdF b a e [100, 111, 110, 101] = 0
    rotate_left
    · rw [if_neg k_done] at h; exact absurd h (by decide)
    rw [if_pos k_done] at h
    by_cases k_teaches : wdF b a e [116, 101, 97, 99, 104, 101, 115] = 0
    rotate_left
    · rw [if_neg k_teaches] at h; exact absurd h (by decide)
    rw [if_pos k_teaches] at h
    by_cases k_fades : wdF b a e [102, 97, 100, 101, 115] = 0
    rotate_left
    · rw [if_neg k_fades] at h; exact absurd h (by decide)
    rw [if_pos k_fades] at h
    by_cases k_nerves : wdF b a e [110, 101, 114, 118, 101, 115] = 0
    rotate_left
    · rw [if_neg k_nerves] at h; exact absurd h (by decide)
    rw [if_pos k_nerves] at h
    by_cases k_or : wdF b a e [111, 114] = 0
    rotate_left
    · rw [if_neg k_or] at h; exact absurd h (by decide)
    rw [if_pos k_or] at h
    by_cases k_and : wdF b a e [97, 110, 100] = 0
    rotate_left
    · rw [if_neg k_and] at h; exact absurd h (by decide)
    rw [if_pos k_and] at h
    by_cases k_not : wdF b a e [110, 111, 116] = 0
    rotate_left
    · rw [if_neg k_not] at h; exact absurd h (by decide)
    rw [if_pos k_not] at h
    exact absurd h (by decide)
  · intro h
    have o_hard : wdF b a e [104, 97, 114, 100] = 0 := wd_ex h (by decide)
    have o_help : wdF b a e [104, 101, 108, 112] = 0 := wd_ex h (by decide)
    have o_number : wdF b a e [110, 117, 109, 98, 101, 114] = 0 := wd_ex h (by decide)
    have o_day : wdF b a e [100, 97, 121] = 0 := wd_ex h (by decide)
    have o_done : wdF b a e [100, 111, 110, 101] = 0 := wd_ex h (by decide)
    have o_teaches : wdF b a e [116, 101, 97, 99, 104, 101, 115] = 0 := wd_ex h (by decide)
    have o_fades : wdF b a e [102, 97, 100, 101, 115] = 0 := wd_ex h (by decide)
    have o_nerves : wdF b a e [110, 101, 114, 118, 101, 115] = 0 := wd_ex h (by decide)
    have o_or : wdF b a e [111, 114] = 0 := wd_ex h (by decide)
    have o_and : wdF b a e [97, 110, 100] = 0 := wd_ex h (by decide)
    have o_not : wdF b a e [110, 111, 116] = 0 := wd_ex h (by decide)
    unfold woF
    simp only [o_hard, o_help, o_number, o_day, o_done, o_teaches, o_fades, o_nerves, o_or, o_and, o_not, if_pos]
    first | rw [if_neg h] | simp [h]
theorem wo_hard {b : Nat → Int32} {a e : Nat} : woF b a e = 11 ↔ wdF b a e [104, 97, 114, 100] ≠ 0 := by
  constructor
  · intro h h0
    unfold woF at h
    by_cases k_skill : wdF b a e [115, 107, 105, 108, 108] = 0
    rotate_left
    · rw [if_neg k_skill] at h; exact absurd h (by decide)
    rw [if_pos k_skill] at h
    rw [if_pos h0] at h
    by_cases k_help : wdF b a e [104, 101, 108, 112] = 0
    rotate_left
    · rw [if_neg k_help] at h; exact absurd h (by decide)
    rw [if_pos k_help] at h
    by_cases k_number : wdF b a e [110, 117, 109, 98, 101, 114] = 0
    rotate_left
    · rw [if_neg k_number] at h; exact absurd h (by decide)
    rw [if_pos k_number] at h
    by_cases k_day : wdF b a e [100, 97, 121] = 0
    rotate_left
    · rw [if_neg k_day] at h; exact absurd h (by decide)
    rw [if_pos k_day] at h
    by_cases k_done : wdF b a e [100, 111, 110, 101] = 0
    rotate_left
    · rw [if_neg k_done] at h; exact absurd h (by decide)
    rw [if_pos k_done] at h
    by_cases k_teaches : wdF b a e [116, 101, 97, 99, 104, 101, 115] = 0
    rotate_left
    · rw [if_neg k_teaches] at h; exact absurd h (by decide)
    rw [if_pos k_teaches] at h
    by_cases k_fades : wdF b a e [102, 97, 100, 101, 115] = 0
    rotate_left
    · rw [if_neg k_fades] at h; exact absurd h (by decide)
    rw [if_pos k_fades] at h
    by_cases k_nerves : wdF b a e [110, 101, 114, 118, 101, 115] = 0
    rotate_left
    · rw [if_neg k_nerves] at h; exact absurd h (by decide)
    rw [if_pos k_nerves] at h
    by_cases k_or : wdF b a e [111, 114] = 0
    rotate_left
    · rw [if_neg k_or] at h; exact absurd h (by decide)
    rw [if_pos k_or] at h
    by_cases k_and : wdF b a e [97, 110, 100] = 0
    rotate_left
    · rw [if_neg k_and] at h; exact absurd h (by decide)
    rw [if_pos k_and] at h
    by_cases k_not : wdF b a e [110, 111, 116] = 0
    rotate_left
    · rw [if_neg k_not] at h; exact absurd h (by decide)
    rw [if_pos k_not] at h
    exact absurd h (by decide)
  · intro h
    have o_skill : wdF b a e [115, 107, 105, 108, 108] = 0 := wd_ex h (by decide)
    have o_help : wdF b a e [104, 101, 108, 112] = 0 := wd_ex h (by decide)
    have o_number : wdF b a e [110, 117, 109, 98, 101, 114] = 0 := wd_ex h (by decide)
    have o_day : wdF b a e [100, 97, 121] = 0 := wd_ex h (by decide)
    have o_done : wdF b a e [100, 111, 110, 101] = 0 := wd_ex h (by decide)
    have o_teaches : wdF b a e [116, 101, 97, 99, 104, 101, 115] = 0 := wd_ex h (by decide)
    have o_fades : wdF b a e [102, 97, 100, 101, 115] = 0 := wd_ex h (by decide)
    have o_nerves : wdF b a e [110, 101, 114, 118, 101, 115] = 0 := wd_ex h (by decide)
    have o_or : wdF b a e [111, 114] = 0 := wd_ex h (by decide)
    have o_and : wdF b a e [97, 110, 100] = 0 := wd_ex h (by decide)
    have o_not : wdF b a e [110, 111, 116] = 0 := wd_ex h (by decide)
    unfold woF
    simp only [o_skill, o_help, o_number, o_day, o_done, o_teaches, o_fades, o_nerves, o_or, o_and, o_not, if_pos]
    first | rw [if_neg h] | simp [h]
theorem wo_help {b : Nat → Int32} {a e : Nat} : woF b a e = 12 ↔ wdF b a e [104, 101, 108, 112] ≠ 0 := by
  constructor
  · intro h h0
    unfold woF at h
    by_cases k_skill : wdF b a e [115, 107, 105, 108, 108] = 0
    rotate_left
    · rw [if_neg k_skill] at h; exact absurd h (by decide)
    rw [if_pos k_skill] at h
    by_cases k_hard : wdF b a e [104, 97, 114, 100] = 0
    rotate_left
    · rw [if_neg k_hard] at h; exact absurd h (by decide)
    rw [if_pos k_hard] at h
    rw [if_pos h0] at h
    by_cases k_number : wdF b a e [110, 117, 109, 98, 101, 114] = 0
    rotate_left
    · rw [if_neg k_number] at h; exact absurd h (by decide)
    rw [if_pos k_number] at h
    by_cases k_day : wdF b a e [100, 97, 121] = 0
    rotate_left
    · rw [if_neg k_day] at h; exact absurd h (by decide)
    rw [if_pos k_day] at h
    by_cases k_done : wdF b a e [100, 111, 110, 101] = 0
    rotate_left
    · rw [if_neg k_done] at h; exact absurd h (by decide)
    rw [if_pos k_done] at h
    by_cases k_teaches : wdF b a e [116, 101, 97, 99, 104, 101, 115] = 0
    rotate_left
    · rw [if_neg k_teaches] at h; exact absurd h (by decide)
    rw [if_pos k_teaches] at h
    by_cases k_fades : wdF b a e [102, 97, 100, 101, 115] = 0
    rotate_left
    · rw [if_neg k_fades] at h; exact absurd h (by decide)
    rw [if_pos k_fades] at h
    by_cases k_nerves : wdF b a e [110, 101, 114, 118, 101, 115] = 0
    rotate_left
    · rw [if_neg k_nerves] at h; exact absurd h (by decide)
    rw [if_pos k_nerves] at h
    by_cases k_or : wdF b a e [111, 114] = 0
    rotate_left
    · rw [if_neg k_or] at h; exact absurd h (by decide)
    rw [if_pos k_or] at h
    by_cases k_and : wdF b a e [97, 110, 100] = 0
    rotate_left
    · rw [if_neg k_and] at h; exact absurd h (by decide)
    rw [if_pos k_and] at h
    by_cases k_not : wdF b a e [110, 111, 116] = 0
    rotate_left
    · rw [if_neg k_not] at h; exact absurd h (by decide)
    rw [if_pos k_not] at h
    exact absurd h (by decide)
  · intro h
    have o_skill : wdF b a e [115, 107, 105, 108, 108] = 0 := wd_ex h (by decide)
    have o_hard : wdF b a e [104, 97, 114, 100] = 0 := wd_ex h (by decide)
    have o_number : wdF b a e [110, 117, 109, 98, 101, 114] = 0 := wd_ex h (by decide)
    have o_day : wdF b a e [100, 97, 121] = 0 := wd_ex h (by decide)
    have o_done : wdF b a e [100, 111, 110, 101] = 0 := wd_ex h (by decide)
    have o_teaches : wdF b a e [116, 101, 97, 99, 104, 101, 115] = 0 := wd_ex h (by decide)
    have o_fades : wdF b a e [102, 97, 100, 101, 115] = 0 := wd_ex h (by decide)
    have o_nerves : wdF b a e [110, 101, 114, 118, 101, 115] = 0 := wd_ex h (by decide)
    have o_or : wdF b a e [111, 114] = 0 := wd_ex h (by decide)
    have o_and : wdF b a e [97, 110, 100] = 0 := wd_ex h (by decide)
    have o_not : wdF b a e [110, 111, 116] = 0 := wd_ex h (by decide)
    unfold woF
    simp only [o_skill, o_hard, o_number, o_day, o_done, o_teaches, o_fades, o_nerves, o_or, o_and, o_not, if_pos]
    first | rw [if_neg h] | simp [h]
theorem wo_number {b : Nat → Int32} {a e : Nat} : woF b a e = 13 ↔ wdF b a e [110, 117, 109, 98, 101, 114] ≠ 0 := by
  constructor
  · intro h h0
    unfold woF at h
    by_cases k_skill : wdF b a e [115, 107, 105, 108, 108] = 0
    rotate_left
    · rw [if_neg k_skill] at h; exact absurd h (by decide)
    rw [if_pos k_skill] at h
    by_cases k_hard : wdF b a e [104, 97, 114, 100] = 0
    rotate_left
    · rw [if_neg k_hard] at h; exact absurd h (by decide)
    rw [if_pos k_hard] at h
    by_cases k_help : wdF b a e [104, 101, 108, 112] = 0
    rotate_left
    · rw [if_neg k_help] at h; exact absurd h (by decide)
    rw [if_pos k_help] at h
    rw [if_pos h0] at h
    by_cases k_day : wdF b a e [100, 97, 121] = 0
    rotate_left
    · rw [if_neg k_day] at h; exact absurd h (by decide)
    rw [if_pos k_day] at h
    by_cases k_done : wdF b a e [100, 111, 110, 101] = 0
    rotate_left
    · rw [if_neg k_done] at h; exact absurd h (by decide)
    rw [if_pos k_done] at h
    by_cases k_teaches : wdF b a e [116, 101, 97, 99, 104, 101, 115] = 0
    rotate_left
    · rw [if_neg k_teaches] at h; exact absurd h (by decide)
    rw [if_pos k_teaches] at h
    by_cases k_fades : wdF b a e [102, 97, 100, 101, 115] = 0
    rotate_left
    · rw [if_neg k_fades] at h; exact absurd h (by decide)
    rw [if_pos k_fades] at h
    by_cases k_nerves : wdF b a e [110, 101, 114, 118, 101, 115] = 0
    rotate_left
    · rw [if_neg k_nerves] at h; exact absurd h (by decide)
    rw [if_pos k_nerves] at h
    by_cases k_or : wdF b a e [111, 114] = 0
    rotate_left
    · rw [if_neg k_or] at h; exact absurd h (by decide)
    rw [if_pos k_or] at h
    by_cases k_and : wdF b a e [97, 110, 100] = 0
    rotate_left
    · rw [if_neg k_and] at h; exact absurd h (by decide)
    rw [if_pos k_and] at h
    by_cases k_not : wdF b a e [110, 111, 116] = 0
    rotate_left
    · rw [if_neg k_not] at h; exact absurd h (by decide)
    rw [if_pos k_not] at h
    exact absurd h (by decide)
  · intro h
    have o_skill : wdF b a e [115, 107, 105, 108, 108] = 0 := wd_ex h (by decide)
    have o_hard : wdF b a e [104, 97, 114, 100] = 0 := wd_ex h (by decide)
    have o_help : wdF b a e [104, 101, 108, 112] = 0 := wd_ex h (by decide)
    have o_day : wdF b a e [100, 97, 121] = 0 := wd_ex h (by decide)
    have o_done : wdF b a e [100, 111, 110, 101] = 0 := wd_ex h (by decide)
    have o_teaches : wdF b a e [116, 101, 97, 99, 104, 101, 115] = 0 := wd_ex h (by decide)
    have o_fades : wdF b a e [102, 97, 100, 101, 115] = 0 := wd_ex h (by decide)
    have o_nerves : wdF b a e [110, 101, 114, 118, 101, 115] = 0 := wd_ex h (by decide)
    have o_or : wdF b a e [111, 114] = 0 := wd_ex h (by decide)
    have o_and : wdF b a e [97, 110, 100] = 0 := wd_ex h (by decide)
    have o_not : wdF b a e [110, 111, 116] = 0 := wd_ex h (by decide)
    unfold woF
    simp only [o_skill, o_hard, o_help, o_day, o_done, o_teaches, o_fades, o_nerves, o_or, o_and, o_not, if_pos]
    first | rw [if_neg h] | simp [h]
theorem wo_day {b : Nat → Int32} {a e : Nat} : woF b a e = 14 ↔ wdF b a e [100, 97, 121] ≠ 0 := by
  constructor
  · intro h h0
    unfold woF at h
    by_cases k_skill : wdF b a e [115, 107, 105, 108, 108] = 0
    rotate_left
    · rw [if_neg k_skill] at h; exact absurd h (by decide)
    rw [if_pos k_skill] at h
    by_cases k_hard : wdF b a e [104, 97, 114, 100] = 0
    rotate_left
    · rw [if_neg k_hard] at h; exact absurd h (by decide)
    rw [if_pos k_hard] at h
    by_cases k_help : wdF b a e [104, 101, 108, 112] = 0
    rotate_left
    · rw [if_neg k_help] at h; exact absurd h (by decide)
    rw [if_pos k_help] at h
    by_cases k_number : wdF b a e [110, 117, 109, 98, 101, 114] = 0
    rotate_left
    · rw [if_neg k_number] at h; exact absurd h (by decide)
    rw [if_pos k_number] at h
    rw [if_pos h0] at h
    by_cases k_done : wdF b a e [100, 111, 110, 101] = 0
    rotate_left
    · rw [if_neg k_done] at h; exact absurd h (by decide)
    rw [if_pos k_done] at h
    by_cases k_teaches : wdF b a e [116, 101, 97, 99, 104, 101, 115] = 0
    rotate_left
    · rw [if_neg k_teaches] at h; exact absurd h (by decide)
    rw [if_pos k_teaches] at h
    by_cases k_fades : wdF b a e [102, 97, 100, 101, 115] = 0
    rotate_left
    · rw [if_neg k_fades] at h; exact absurd h (by decide)
    rw [if_pos k_fades] at h
    by_cases k_nerves : wdF b a e [110, 101, 114, 118, 101, 115] = 0
    rotate_left
    · rw [if_neg k_nerves] at h; exact absurd h (by decide)
    rw [if_pos k_nerves] at h
    by_cases k_or : wdF b a e [111, 114] = 0
    rotate_left
    · rw [if_neg k_or] at h; exact absurd h (by decide)
    rw [if_pos k_or] at h
    by_cases k_and : wdF b a e [97, 110, 100] = 0
    rotate_left
    · rw [if_neg k_and] at h; exact absurd h (by decide)
    rw [if_pos k_and] at h
    by_cases k_not : wdF b a e [110, 111, 116] = 0
    rotate_left
    · rw [if_neg k_not] at h; exact absurd h (by decide)
    rw [if_pos k_not] at h
    exact absurd h (by decide)
  · intro h
    have o_skill : wdF b a e [115, 107, 105, 108, 108] = 0 := wd_ex h (by decide)
    have o_hard : wdF b a e [104, 97, 114, 100] = 0 := wd_ex h (by decide)
    have o_help : wdF b a e [104, 101, 108, 112] = 0 := wd_ex h (by decide)
    have o_number : wdF b a e [110, 117, 109, 98, 101, 114] = 0 := wd_ex h (by decide)
    have o_done : wdF b a e [100, 111, 110, 101] = 0 := wd_ex h (by decide)
    have o_teaches : wdF b a e [116, 101, 97, 99, 104, 101, 115] = 0 := wd_ex h (by decide)
    have o_fades : wdF b a e [102, 97, 100, 101, 115] = 0 := wd_ex h (by decide)
    have o_nerves : wdF b a e [110, 101, 114, 118, 101, 115] = 0 := wd_ex h (by decide)
    have o_or : wdF b a e [111, 114] = 0 := wd_ex h (by decide)
    have o_and : wdF b a e [97, 110, 100] = 0 := wd_ex h (by decide)
    have o_not : wdF b a e [110, 111, 116] = 0 := wd_ex h (by decide)
    unfold woF
    simp only [o_skill, o_hard, o_help, o_number, o_done, o_teaches, o_fades, o_nerves, o_or, o_and, o_not, if_pos]
    first | rw [if_neg h] | simp [h]
theorem wo_done {b : Nat → Int32} {a e : Nat} : woF b a e = 15 ↔ wdF b a e [100, 111, 110, 101] ≠ 0 := by
  constructor
  · intro h h0
    unfold woF at h
    by_cases k_skill : wdF b a e [115, 107, 105, 108, 108] = 0
    rotate_left
    · rw [if_neg k_skill] at h; exact absurd h (by decide)
    rw [if_pos k_skill] at h
    by_cases k_hard : wdF b a e [104, 97, 114, 100] = 0
    rotate_left
    · rw [if_neg k_hard] at h; exact absurd h (by decide)
    rw [if_pos k_hard] at h
    by_cases k_help : wdF b a e [104, 101, 108, 112] = 0
    rotate_left
    · rw [if_neg k_help] at h; exact absurd h (by decide)
    rw [if_pos k_help] at h
    by_cases k_number : wdF b a e [110, 117, 109, 98, 101, 114] = 0
    rotate_left
    · rw [if_neg k_number] at h; exact absurd h (by decide)
    rw [if_pos k_number] at h
    by_cases k_day : wdF b a e [100, 97, 121] = 0
    rotate_left
    · rw [if_neg k_day] at h; exact absurd h (by decide)
    rw [if_pos k_day] at h
    rw [if_pos h0] at h
    by_cases k_teaches : wdF b a e [116, 101, 97, 99, 104, 101, 115] = 0
    rotate_left
    · rw [if_neg k_teaches] at h; exact absurd h (by decide)
    rw [if_pos k_teaches] at h
    by_cases k_fades : wdF b a e [102, 97, 100, 101, 115] = 0
    rotate_left
    · rw [if_neg k_fades] at h; exact absurd h (by decide)
    rw [if_pos k_fades] at h
    by_cases k_nerves : wdF b a e [110, 101, 114, 118, 101, 115] = 0
    rotate_left
    · rw [if_neg k_nerves] at h; exact absurd h (by decide)
    rw [if_pos k_nerves] at h
    by_cases k_or : wdF b a e [111, 114] = 0
    rotate_left
    · rw [if_neg k_or] at h; exact absurd h (by decide)
    rw [if_pos k_or] at h
    by_cases k_and : wdF b a e [97, 110, 100] = 0
    rotate_left
    · rw [if_neg k_and] at h; exact absurd h (by decide)
    rw [if_pos k_and] at h
    by_cases k_not : wdF b a e [110, 111, 116] = 0
    rotate_left
    · rw [if_neg k_not] at h; exact absurd h (by decide)
    rw [if_pos k_not] at h
    exact absurd h (by decide)
  · intro h
    have o_skill : wdF b a e [115, 107, 105, 108, 108] = 0 := wd_ex h (by decide)
    have o_hard : wdF b a e [104, 97, 114, 100] = 0 := wd_ex h (by decide)
    have o_help : wdF b a e [104, 101, 108, 112] = 0 := wd_ex h (by decide)
    have o_number : wdF b a e [110, 117, 109, 98, 101, 114] = 0 := wd_ex h (by decide)
    have o_day : wdF b a e [100, 97, 121] = 0 := wd_ex h (by decide)
    have o_teaches : wdF b a e [116, 101, 97, 99, 104, 101, 115] = 0 := wd_ex h (by decide)
    have o_fades : wdF b a e [102, 97, 100, 101, 115] = 0 := wd_ex h (by decide)
    have o_nerves : wdF b a e [110, 101, 114, 118, 101, 115] = 0 := wd_ex h (by decide)
    have o_or : wdF b a e [111, 114] = 0 := wd_ex h (by decide)
    have o_and : wdF b a e [97, 110, 100] = 0 := wd_ex h (by decide)
    have o_not : wdF b a e [110, 111, 116] = 0 := wd_ex h (by decide)
    unfold woF
    simp only [o_skill, o_hard, o_help, o_number, o_day, o_teaches, o_fades, o_nerves, o_or, o_and, o_not, if_pos]
    first | rw [if_neg h] | simp [h]
theorem wo_teaches {b : Nat → Int32} {a e : Nat} : woF b a e = 3 ↔ wdF b a e [116, 101, 97, 99, 104, 101, 115] ≠ 0 := by
  constructor
  · intro h h0
    unfold woF at h
    by_cases k_skill : wdF b a e [115, 107, 105, 108, 108] = 0
    rotate_left
    · rw [if_neg k_skill] at h; exact absurd h (by decide)
    rw [if_pos k_skill] at h
    by_cases k_hard : wdF b a e [104, 97, 114, 100] = 0
    rotate_left
    · rw [if_neg k_hard] at h; exact absurd h (by decide)
    rw [if_pos k_hard] at h
    by_cases k_help : wdF b a e [104, 101, 108, 112] = 0
    rotate_left
    · rw [if_neg k_help] at h; exact absurd h (by decide)
    rw [if_pos k_help] at h
    by_cases k_number : wdF b a e [110, 117, 109, 98, 101, 114] = 0
    rotate_left
    · rw [if_neg k_number] at h; exact absurd h (by decide)
    rw [if_pos k_number] at h
    by_cases k_day : wdF b a e [100, 97, 121] = 0
    rotate_left
    · rw [if_neg k_day] at h; exact absurd h (by decide)
    rw [if_pos k_day] at h
    by_cases k_done : wdF b a e [100, 111, 110, 101] = 0
    rotate_left
    · rw [if_neg k_done] at h; exact absurd h (by decide)
    rw [if_pos k_done] at h
    rw [if_pos h0] at h
    by_cases k_fades : wdF b a e [102, 97, 100, 101, 115] = 0
    rotate_left
    · rw [if_neg k_fades] at h; exact absurd h (by decide)
    rw [if_pos k_fades] at h
    by_cases k_nerves : wdF b a e [110, 101, 114, 118, 101, 115] = 0
    rotate_left
    · rw [if_neg k_nerves] at h; exact absurd h (by decide)
    rw [if_pos k_nerves] at h
    by_cases k_or : wdF b a e [111, 114] = 0
    rotate_left
    · rw [if_neg k_or] at h; exact absurd h (by decide)
    rw [if_pos k_or] at h
    by_cases k_and : wdF b a e [97, 110, 100] = 0
    rotate_left
    · rw [if_neg k_and] at h; exact absurd h (by decide)
    rw [if_pos k_and] at h
    by_cases k_not : wdF b a e [110, 111, 116] = 0
    rotate_left
    · rw [if_neg k_not] at h; exact absurd h (by decide)
    rw [if_pos k_not] at h
    exact absurd h (by decide)
  · intro h
    have o_skill : wdF b a e [115, 107, 105, 108, 108] = 0 := wd_ex h (by decide)
    have o_hard : wdF b a e [104, 97, 114, 100] = 0 := wd_ex h (by decide)
    have o_help : wdF b a e [104, 101, 108, 112] = 0 := wd_ex h (by decide)
    have o_number : wdF b a e [110, 117, 109, 98, 101, 114] = 0 := wd_ex h (by decide)
    have o_day : wdF b a e [100, 97, 121] = 0 := wd_ex h (by decide)
    have o_done : wdF b a e [100, 111, 110, 101] = 0 := wd_ex h (by decide)
    have o_fades : wdF b a e [102, 97, 100, 101, 115] = 0 := wd_ex h (by decide)
    have o_nerves : wdF b a e [110, 101, 114, 118, 101, 115] = 0 := wd_ex h (by decide)
    have o_or : wdF b a e [111, 114] = 0 := wd_ex h (by decide)
    have o_and : wdF b a e [97, 110, 100] = 0 := wd_ex h (by decide)
    have o_not : wdF b a e [110, 111, 116] = 0 := wd_ex h (by decide)
    unfold woF
    simp only [o_skill, o_hard, o_help, o_number, o_day, o_done, o_fades, o_nerves, o_or, o_and, o_not, if_pos]
    first | rw [if_neg h] | simp [h]
theorem wo_fades {b : Nat → Int32} {a e : Nat} : woF b a e = 4 ↔ wdF b a e [102, 97, 100, 101, 115] ≠ 0 := by
  constructor
  · intro h h0
    unfold woF at h
    by_cases k_skill : wdF b a e [115, 107, 105, 108, 108] = 0
    rotate_left
    · rw [if_neg k_skill] at h; exact absurd h (by decide)
    rw [if_pos k_skill] at h
    by_cases k_hard : wdF b a e [104, 97, 114, 100] = 0
    rotate_left
    · rw [if_neg k_hard] at h; exact absurd h (by decide)
    rw [if_pos k_hard] at h
    by_cases k_help : wdF b a e [104, 101, 108, 112] = 0
    rotate_left
    · rw [if_neg k_help] at h; exact absurd h (by decide)
    rw [if_pos k_help] at h
    by_cases k_number : wdF b a e [110, 117, 109, 98, 101, 114] = 0
    rotate_left
    · rw [if_neg k_number] at h; exact absurd h (by decide)
    rw [if_pos k_number] at h
    by_cases k_day : wdF b a e [100, 97, 121] = 0
    rotate_left
    · rw [if_neg k_day] at h; exact absurd h (by decide)
    rw [if_pos k_day] at h
    by_cases k_done : wdF b a e [100, 111, 110, 101] = 0
    rotate_left
    · rw [if_neg k_done] at h; exact absurd h (by decide)
    rw [if_pos k_done] at h
    by_cases k_teaches : wdF b a e [116, 101, 97, 99, 104, 101, 115] = 0
    rotate_left
    · rw [if_neg k_teaches] at h; exact absurd h (by decide)
    rw [if_pos k_teaches] at h
    rw [if_pos h0] at h
    by_cases k_nerves : wdF b a e [110, 101, 114, 118, 101, 115] = 0
    rotate_left
    · rw [if_neg k_nerves] at h; exact absurd h (by decide)
    rw [if_pos k_nerves] at h
    by_cases k_or : wdF b a e [111, 114] = 0
    rotate_left
    · rw [if_neg k_or] at h; exact absurd h (by decide)
    rw [if_pos k_or] at h
    by_cases k_and : wdF b a e [97, 110, 100] = 0
    rotate_left
    · rw [if_neg k_and] at h; exact absurd h (by decide)
    rw [if_pos k_and] at h
    by_cases k_not : wdF b a e [110, 111, 116] = 0
    rotate_left
    · rw [if_neg k_not] at h; exact absurd h (by decide)
    rw [if_pos k_not] at h
    exact absurd h (by decide)
  · intro h
    have o_skill : wdF b a e [115, 107, 105, 108, 108] = 0 := wd_ex h (by decide)
    have o_hard : wdF b a e [104, 97, 114, 100] = 0 := wd_ex h (by decide)
    have o_help : wdF b a e [104, 101, 108, 112] = 0 := wd_ex h (by decide)
    have o_number : wdF b a e [110, 117, 109, 98, 101, 114] = 0 := wd_ex h (by decide)
    have o_day : wdF b a e [100, 97, 121] = 0 := wd_ex h (by decide)
    have o_done : wdF b a e [100, 111, 110, 101] = 0 := wd_ex h (by decide)
    have o_teaches : wdF b a e [116, 101, 97, 99, 104, 101, 115] = 0 := wd_ex h (by decide)
    have o_nerves : wdF b a e [110, 101, 114, 118, 101, 115] = 0 := wd_ex h (by decide)
    have o_or : wdF b a e [111, 114] = 0 := wd_ex h (by decide)
    have o_and : wdF b a e [97, 110, 100] = 0 := wd_ex h (by decide)
    have o_not : wdF b a e [110, 111, 116] = 0 := wd_ex h (by decide)
    unfold woF
    simp only [o_skill, o_hard, o_help, o_number, o_day, o_done, o_teaches, o_nerves, o_or, o_and, o_not, if_pos]
    first | rw [if_neg h] | simp [h]
theorem wo_nerves {b : Nat → Int32} {a e : Nat} : woF b a e = 5 ↔ wdF b a e [110, 101, 114, 118, 101, 115] ≠ 0 := by
  constructor
  · intro h h0
    unfold woF at h
    by_cases k_skill : wdF b a e [115, 107, 105, 108, 108] = 0
    rotate_left
    · rw [if_neg k_skill] at h; exact absurd h (by decide)
    rw [if_pos k_skill] at h
    by_cases k_hard : wdF b a e [104, 97, 114, 100] = 0
    rotate_left
    · rw [if_neg k_hard] at h; exact absurd h (by decide)
    rw [if_pos k_hard] at h
    by_cases k_help : wdF b a e [104, 101, 108, 112] = 0
    rotate_left
    · rw [if_neg k_help] at h; exact absurd h (by decide)
    rw [if_pos k_help] at h
    by_cases k_number : wdF b a e [110, 117, 109, 98, 101, 114] = 0
    rotate_left
    · rw [if_neg k_number] at h; exact absurd h (by decide)
    rw [if_pos k_number] at h
    by_cases k_day : wdF b a e [100, 97, 121] = 0
    rotate_left
    · rw [if_neg k_day] at h; exact absurd h (by decide)
    rw [if_pos k_day] at h
    by_cases k_done : wdF b a e [100, 111, 110, 101] = 0
    rotate_left
    · rw [if_neg k_done] at h; exact absurd h (by decide)
    rw [if_pos k_done] at h
    by_cases k_teaches : wdF b a e [116, 101, 97, 99, 104, 101, 115] = 0
    rotate_left
    · rw [if_neg k_teaches] at h; exact absurd h (by decide)
    rw [if_pos k_teaches] at h
    by_cases k_fades : wdF b a e [102, 97, 100, 101, 115] = 0
    rotate_left
    · rw [if_neg k_fades] at h; exact absurd h (by decide)
    rw [if_pos k_fades] at h
    rw [if_pos h0] at h
    by_cases k_or : wdF b a e [111, 114] = 0
    rotate_left
    · rw [if_neg k_or] at h; exact absurd h (by decide)
    rw [if_pos k_or] at h
    by_cases k_and : wdF b a e [97, 110, 100] = 0
    rotate_left
    · rw [if_neg k_and] at h; exact absurd h (by decide)
    rw [if_pos k_and] at h
    by_cases k_not : wdF b a e [110, 111, 116] = 0
    rotate_left
    · rw [if_neg k_not] at h; exact absurd h (by decide)
    rw [if_pos k_not] at h
    exact absurd h (by decide)
  · intro h
    have o_skill : wdF b a e [115, 107, 105, 108, 108] = 0 := wd_ex h (by decide)
    have o_hard : wdF b a e [104, 97, 114, 100] = 0 := wd_ex h (by decide)
    have o_help : wdF b a e [104, 101, 108, 112] = 0 := wd_ex h (by decide)
    have o_number : wdF b a e [110, 117, 109, 98, 101, 114] = 0 := wd_ex h (by decide)
    have o_day : wdF b a e [100, 97, 121] = 0 := wd_ex h (by decide)
    have o_done : wdF b a e [100, 111, 110, 101] = 0 := wd_ex h (by decide)
    have o_teaches : wdF b a e [116, 101, 97, 99, 104, 101, 115] = 0 := wd_ex h (by decide)
    have o_fades : wdF b a e [102, 97, 100, 101, 115] = 0 := wd_ex h (by decide)
    have o_or : wdF b a e [111, 114] = 0 := wd_ex h (by decide)
    have o_and : wdF b a e [97, 110, 100] = 0 := wd_ex h (by decide)
    have o_not : wdF b a e [110, 111, 116] = 0 := wd_ex h (by decide)
    unfold woF
    simp only [o_skill, o_hard, o_help, o_number, o_day, o_done, o_teaches, o_fades, o_or, o_and, o_not, if_pos]
    first | rw [if_neg h] | simp [h]
theorem wo_or {b : Nat → Int32} {a e : Nat} : woF b a e = 6 ↔ wdF b a e [111, 114] ≠ 0 := by
  constructor
  · intro h h0
    unfold woF at h
    by_cases k_skill : wdF b a e [115, 107, 105, 108, 108] = 0
    rotate_left
    · rw [if_neg k_skill] at h; exact absurd h (by decide)
    rw [if_pos k_skill] at h
    by_cases k_hard : wdF b a e [104, 97, 114, 100] = 0
    rotate_left
    · rw [if_neg k_hard] at h; exact absurd h (by decide)
    rw [if_pos k_hard] at h
    by_cases k_help : wdF b a e [104, 101, 108, 112] = 0
    rotate_left
    · rw [if_neg k_help] at h; exact absurd h (by decide)
    rw [if_pos k_help] at h
    by_cases k_number : wdF b a e [110, 117, 109, 98, 101, 114] = 0
    rotate_left
    · rw [if_neg k_number] at h; exact absurd h (by decide)
    rw [if_pos k_number] at h
    by_cases k_day : wdF b a e [100, 97, 121] = 0
    rotate_left
    · rw [if_neg k_day] at h; exact absurd h (by decide)
    rw [if_pos k_day] at h
    by_cases k_done : wdF b a e [100, 111, 110, 101] = 0
    rotate_left
    · rw [if_neg k_done] at h; exact absurd h (by decide)
    rw [if_pos k_done] at h
    by_cases k_teaches : wdF b a e [116, 101, 97, 99, 104, 101, 115] = 0
    rotate_left
    · rw [if_neg k_teaches] at h; exact absurd h (by decide)
    rw [if_pos k_teaches] at h
    by_cases k_fades : wdF b a e [102, 97, 100, 101, 115] = 0
    rotate_left
    · rw [if_neg k_fades] at h; exact absurd h (by decide)
    rw [if_pos k_fades] at h
    by_cases k_nerves : wdF b a e [110, 101, 114, 118, 101, 115] = 0
    rotate_left
    · rw [if_neg k_nerves] at h; exact absurd h (by decide)
    rw [if_pos k_nerves] at h
    rw [if_pos h0] at h
    by_cases k_and : wdF b a e [97, 110, 100] = 0
    rotate_left
    · rw [if_neg k_and] at h; exact absurd h (by decide)
    rw [if_pos k_and] at h
    by_cases k_not : wdF b a e [110, 111, 116] = 0
    rotate_left
    · rw [if_neg k_not] at h; exact absurd h (by decide)
    rw [if_pos k_not] at h
    exact absurd h (by decide)
  · intro h
    have o_skill : wdF b a e [115, 107, 105, 108, 108] = 0 := wd_ex h (by decide)
    have o_hard : wdF b a e [104, 97, 114, 100] = 0 := wd_ex h (by decide)
    have o_help : wdF b a e [104, 101, 108, 112] = 0 := wd_ex h (by decide)
    have o_number : wdF b a e [110, 117, 109, 98, 101, 114] = 0 := wd_ex h (by decide)
    have o_day : wdF b a e [100, 97, 121] = 0 := wd_ex h (by decide)
    have o_done : wdF b a e [100, 111, 110, 101] = 0 := wd_ex h (by decide)
    have o_teaches : wdF b a e [116, 101, 97, 99, 104, 101, 115] = 0 := wd_ex h (by decide)
    have o_fades : wdF b a e [102, 97, 100, 101, 115] = 0 := wd_ex h (by decide)
    have o_nerves : wdF b a e [110, 101, 114, 118, 101, 115] = 0 := wd_ex h (by decide)
    have o_and : wdF b a e [97, 110, 100] = 0 := wd_ex h (by decide)
    have o_not : wdF b a e [110, 111, 116] = 0 := wd_ex h (by decide)
    unfold woF
    simp only [o_skill, o_hard, o_help, o_number, o_day, o_done, o_teaches, o_fades, o_nerves, o_and, o_not, if_pos]
    first | rw [if_neg h] | simp [h]
theorem wo_and {b : Nat → Int32} {a e : Nat} : woF b a e = 7 ↔ wdF b a e [97, 110, 100] ≠ 0 := by
  constructor
  · intro h h0
    unfold woF at h
    by_cases k_skill : wdF b a e [115, 107, 105, 108, 108] = 0
    rotate_left
    · rw [if_neg k_skill] at h; exact absurd h (by decide)
    rw [if_pos k_skill] at h
    by_cases k_hard : wdF b a e [104, 97, 114, 100] = 0
    rotate_left
    · rw [if_neg k_hard] at h; exact absurd h (by decide)
    rw [if_pos k_hard] at h
    by_cases k_help : wdF b a e [104, 101, 108, 112] = 0
    rotate_left
    · rw [if_neg k_help] at h; exact absurd h (by decide)
    rw [if_pos k_help] at h
    by_cases k_number : wdF b a e [110, 117, 109, 98, 101, 114] = 0
    rotate_left
    · rw [if_neg k_number] at h; exact absurd h (by decide)
    rw [if_pos k_number] at h
    by_cases k_day : wdF b a e [100, 97, 121] = 0
    rotate_left
    · rw [if_neg k_day] at h; exact absurd h (by decide)
    rw [if_pos k_day] at h
    by_cases k_done : wdF b a e [100, 111, 110, 101] = 0
    rotate_left
    · rw [if_neg k_done] at h; exact absurd h (by decide)
    rw [if_pos k_done] at h
    by_cases k_teaches : wdF b a e [116, 101, 97, 99, 104, 101, 115] = 0
    rotate_left
    · rw [if_neg k_teaches] at h; exact absurd h (by decide)
    rw [if_pos k_teaches] at h
    by_cases k_fades : wdF b a e [102, 97, 100, 101, 115] = 0
    rotate_left
    · rw [if_neg k_fades] at h; exact absurd h (by decide)
    rw [if_pos k_fades] at h
    by_cases k_nerves : wdF b a e [110, 101, 114, 118, 101, 115] = 0
    rotate_left
    · rw [if_neg k_nerves] at h; exact absurd h (by decide)
    rw [if_pos k_nerves] at h
    by_cases k_or : wdF b a e [111, 114] = 0
    rotate_left
    · rw [if_neg k_or] at h; exact absurd h (by decide)
    rw [if_pos k_or] at h
    rw [if_pos h0] at h
    by_cases k_not : wdF b a e [110, 111, 116] = 0
    rotate_left
    · rw [if_neg k_not] at h; exact absurd h (by decide)
    rw [if_pos k_not] at h
    exact absurd h (by decide)
  · intro h
    have o_skill : wdF b a e [115, 107, 105, 108, 108] = 0 := wd_ex h (by decide)
    have o_hard : wdF b a e [104, 97, 114, 100] = 0 := wd_ex h (by decide)
    have o_help : wdF b a e [104, 101, 108, 112] = 0 := wd_ex h (by decide)
    have o_number : wdF b a e [110, 117, 109, 98, 101, 114] = 0 := wd_ex h (by decide)
    have o_day : wdF b a e [100, 97, 121] = 0 := wd_ex h (by decide)
    have o_done : wdF b a e [100, 111, 110, 101] = 0 := wd_ex h (by decide)
    have o_teaches : wdF b a e [116, 101, 97, 99, 104, 101, 115] = 0 := wd_ex h (by decide)
    have o_fades : wdF b a e [102, 97, 100, 101, 115] = 0 := wd_ex h (by decide)
    have o_nerves : wdF b a e [110, 101, 114, 118, 101, 115] = 0 := wd_ex h (by decide)
    have o_or : wdF b a e [111, 114] = 0 := wd_ex h (by decide)
    have o_not : wdF b a e [110, 111, 116] = 0 := wd_ex h (by decide)
    unfold woF
    simp only [o_skill, o_hard, o_help, o_number, o_day, o_done, o_teaches, o_fades, o_nerves, o_or, o_not, if_pos]
    first | rw [if_neg h] | simp [h]
theorem wo_not {b : Nat → Int32} {a e : Nat} : woF b a e = 8 ↔ wdF b a e [110, 111, 116] ≠ 0 := by
  constructor
  · intro h h0
    unfold woF at h
    by_cases k_skill : wdF b a e [115, 107, 105, 108, 108] = 0
    rotate_left
    · rw [if_neg k_skill] at h; exact absurd h (by decide)
    rw [if_pos k_skill] at h
    by_cases k_hard : wdF b a e [104, 97, 114, 100] = 0
    rotate_left
    · rw [if_neg k_hard] at h; exact absurd h (by decide)
    rw [if_pos k_hard] at h
    by_cases k_help : wdF b a e [104, 101, 108, 112] = 0
    rotate_left
    · rw [if_neg k_help] at h; exact absurd h (by decide)
    rw [if_pos k_help] at h
    by_cases k_number : wdF b a e [110, 117, 109, 98, 101, 114] = 0
    rotate_left
    · rw [if_neg k_number] at h; exact absurd h (by decide)
    rw [if_pos k_number] at h
    by_cases k_day : wdF b a e [100, 97, 121] = 0
    rotate_left
    · rw [if_neg k_day] at h; exact absurd h (by decide)
    rw [if_pos k_day] at h
    by_cases k_done : wdF b a e [100, 111, 110, 101] = 0
    rotate_left
    · rw [if_neg k_done] at h; exact absurd h (by decide)
    rw [if_pos k_done] at h
    by_cases k_teaches : wdF b a e [116, 101, 97, 99, 104, 101, 115] = 0
    rotate_left
    · rw [if_neg k_teaches] at h; exact absurd h (by decide)
    rw [if_pos k_teaches] at h
    by_cases k_fades : wdF b a e [102, 97, 100, 101, 115] = 0
    rotate_left
    · rw [if_neg k_fades] at h; exact absurd h (by decide)
    rw [if_pos k_fades] at h
    by_cases k_nerves : wdF b a e [110, 101, 114, 118, 101, 115] = 0
    rotate_left
    · rw [if_neg k_nerves] at h; exact absurd h (by decide)
    rw [if_pos k_nerves] at h
    by_cases k_or : wdF b a e [111, 114] = 0
    rotate_left
    · rw [if_neg k_or] at h; exact absurd h (by decide)
    rw [if_pos k_or] at h
    by_cases k_and : wdF b a e [97, 110, 100] = 0
    rotate_left
    · rw [if_neg k_and] at h; exact absurd h (by decide)
    rw [if_pos k_and] at h
    rw [if_pos h0] at h
    exact absurd h (by decide)
  · intro h
    have o_skill : wdF b a e [115, 107, 105, 108, 108] = 0 := wd_ex h (by decide)
    have o_hard : wdF b a e [104, 97, 114, 100] = 0 := wd_ex h (by decide)
    have o_help : wdF b a e [104, 101, 108, 112] = 0 := wd_ex h (by decide)
    have o_number : wdF b a e [110, 117, 109, 98, 101, 114] = 0 := wd_ex h (by decide)
    have o_day : wdF b a e [100, 97, 121] = 0 := wd_ex h (by decide)
    have o_done : wdF b a e [100, 111, 110, 101] = 0 := wd_ex h (by decide)
    have o_teaches : wdF b a e [116, 101, 97, 99, 104, 101, 115] = 0 := wd_ex h (by decide)
    have o_fades : wdF b a e [102, 97, 100, 101, 115] = 0 := wd_ex h (by decide)
    have o_nerves : wdF b a e [110, 101, 114, 118, 101, 115] = 0 := wd_ex h (by decide)
    have o_or : wdF b a e [111, 114] = 0 := wd_ex h (by decide)
    have o_and : wdF b a e [97, 110, 100] = 0 := wd_ex h (by decide)
    unfold woF
    simp only [o_skill, o_hard, o_help, o_number, o_day, o_done, o_teaches, o_fades, o_nerves, o_or, o_and, if_pos]
    first | rw [if_neg h] | simp [h]
theorem lx_l {b : Nat → Int32} {n a : Nat} (h : a < n) (q : inR 97 122 (b a)) : lxT b n a = woF b a (lxE b n a) := by
  rw [lxE_l h q]
  unfold lxT
  rw [if_neg (by omega), if_neg (fun z => z.elim q.1 q.2)]
theorem lx_d {b : Nat → Int32} {n a : Nat} (h : a < n) (q : ¬ inR 97 122 (b a)) (q2 : inR 48 57 (b a)) : lxT b n a = if lxE b n a - a ≤ 4 then 2 else 1 := by
  rw [lxE_d h q q2]
  unfold lxT
  rw [if_neg (by omega), if_pos (not_l q), if_neg (fun z => z.elim q2.1 q2.2)]
theorem lx_s {b : Nat → Int32} {n a : Nat} (h : a < n) (q : ¬ inR 97 122 (b a)) (q2 : ¬ inR 48 57 (b a)) : lxT b n a = siG (b a) := by
  unfold lxT
  rw [if_neg (by omega), if_pos (not_l q), if_pos (not_d q2)]
theorem lx_n {b : Nat → Int32} {n a : Nat} (h : n ≤ a) : lxT b n a = 0 := if_pos h
/-- a sign -/
abbrev sgn (c : Int32) : Prop := c = 40 ∨ c = 41 ∨ c = 42 ∨ c = 43 ∨ c = 45 ∨ c = 59 ∨ c = 60 ∨ c = 61
theorem siG_s {c : Int32} (h : sgn c) : siG c = c := if_pos (by unfold sgn at h; exact h)
theorem siG_1 {c : Int32} (h : ¬ siG c = 1) : sgn c := Decidable.byContradiction fun z => h (if_neg z)
theorem sgn_b {c : Int32} (h : sgn c) : ¬ c < 16 ∧ ¬ c = 2 ∧ ¬ c = 1 ∧ ¬ c = 0 := by
  unfold sgn at h
  rcases h with h | h | h | h | h | h | h | h <;> subst h <;> decide
/-- the token is a sign: so says the class, so says the reference -/
theorem sg_iff {b : Nat → Int32} {n a : Nat} {c : Int32} (hc : sgn c) : (rtF b n a = 3 ∧ b a = c) ↔ lxT b n a = c := by
  obtain ⟨c1, c2, c3, c4⟩ := sgn_b hc
  rcases Nat.lt_or_ge a n with h | h
  · by_cases q : inR 97 122 (b a)
    · rw [lx_l h q, rt_l h q]
      exact ⟨fun z => absurd z.1 (by decide), fun z => absurd wo_lt.1 (by rw [z]; exact c1)⟩
    · by_cases q2 : inR 48 57 (b a)
      · rw [lx_d h q q2, rt_d h q q2]
        constructor
        · rintro ⟨z, _⟩; split at z <;> exact absurd z (by decide)
        · intro z; split at z
          · exact absurd z.symm c2
          · exact absurd z.symm c3
      · rw [lx_s h q q2, rt_s h q q2]
        constructor
        · rintro ⟨z, e⟩; rw [e]; exact siG_s hc
        · intro z
          have z1 : ¬ siG (b a) = 1 := by rw [z]; exact c3
          rw [if_neg z1]
          exact ⟨rfl, (siG_s (siG_1 z1)).symm.trans z⟩
  · rw [lx_n h, rt_end h]
    exact ⟨fun z => absurd z.1 (by decide), fun z => absurd z.symm c4⟩
theorem rt_1 {b : Nat → Int32} {n a : Nat} (h : rtF b n a = 1) : a < n ∧ inR 97 122 (b a) := by
  unfold rtF at h
  by_cases h1 : n ≤ a
  · rw [if_pos h1] at h; exact absurd h (by decide)
  · rw [if_neg h1] at h
    by_cases q : inR 97 122 (b a)
    · exact ⟨by omega, q⟩
    · rw [if_neg q] at h
      exfalso
      repeat' (split at h)
      all_goals exact absurd h (by decide)
theorem inR_0 {x : Int32} (h : inR 97 122 x) : x ≠ 0 := fun e => h.1 (by rw [e]; decide)
theorem skF_ge {b : Nat → Int32} {lo hi : Int32} : ∀ g a, a ≤ skF b lo hi g a
  | 0, _ => Nat.le_refl _
  | g + 1, a => by
    unfold skF
    split
    · exact Nat.le_refl _
    · split
      · exact Nat.le_refl _
      · have := skF_ge (b := b) (lo := lo) (hi := hi) g (a + 1)
        omega
theorem siG_c (x : Int32) : siG x = 1 ∨ sgn (siG x) := by
  by_cases h : sgn x
  · right; rw [siG_s h]; exact h
  · left; exact if_neg h
theorem nw_all {b : Nat → Int32} {n a : Nat} (h : ¬ rtF b n a = 1) (c : Int32) (c1 : 2 < c) (c2 : c < 16) (c0 : ¬ c = 0) : ¬ lxT b n a = c := by
  rcases Nat.lt_or_ge a n with h1 | h1
  · by_cases q : inR 97 122 (b a)
    · exact absurd (rt_l h1 q) h
    · by_cases q2 : inR 48 57 (b a)
      · rw [lx_d h1 q q2]
        split
        · intro z; rw [← z] at c1; exact absurd c1 (by decide)
        · intro z; rw [← z] at c1; exact absurd c1 (by decide)
      · rw [lx_s h1 q q2]
        intro z
        rcases siG_c (b a) with y | y
        · rw [y] at z; rw [← z] at c1; exact absurd c1 (by decide)
        · rw [z] at y; exact (sgn_b y).1 c2
  · rw [lx_n h1]
    exact fun z => c0 z.symm
theorem iw_skill {b : Nat → Int32} {n a : Nat} (h : rtF b n a = 1) : iW b a (lxE b n a) ([115, 107, 105, 108, 108] ++ List.replicate 3 0) = true ↔ lxT b n a = 10 := by
  obtain ⟨h1, q⟩ := rt_1 h
  have e := lxE_l h1 q
  rw [lx_l h1 q, wo_skill]
  refine iW_wd (fun p hp1 hp2 => ?_) ?_ (by decide) (by decide)
  · rw [e] at hp2
    exact inR_0 (skF_all 160 a p hp1 hp2)
  · rw [e]; exact skF_ge 160 a
theorem nw_skill {b : Nat → Int32} {n a : Nat} (h : ¬ rtF b n a = 1) : ¬ lxT b n a = 10 := nw_all h 10 (by decide) (by decide) (by decide)
theorem iw_hard {b : Nat → Int32} {n a : Nat} (h : rtF b n a = 1) : iW b a (lxE b n a) ([104, 97, 114, 100] ++ List.replicate 4 0) = true ↔ lxT b n a = 11 := by
  obtain ⟨h1, q⟩ := rt_1 h
  have e := lxE_l h1 q
  rw [lx_l h1 q, wo_hard]
  refine iW_wd (fun p hp1 hp2 => ?_) ?_ (by decide) (by decide)
  · rw [e] at hp2
    exact inR_0 (skF_all 160 a p hp1 hp2)
  · rw [e]; exact skF_ge 160 a
theorem nw_hard {b : Nat → Int32} {n a : Nat} (h : ¬ rtF b n a = 1) : ¬ lxT b n a = 11 := nw_all h 11 (by decide) (by decide) (by decide)
theorem iw_help {b : Nat → Int32} {n a : Nat} (h : rtF b n a = 1) : iW b a (lxE b n a) ([104, 101, 108, 112] ++ List.replicate 4 0) = true ↔ lxT b n a = 12 := by
  obtain ⟨h1, q⟩ := rt_1 h
  have e := lxE_l h1 q
  rw [lx_l h1 q, wo_help]
  refine iW_wd (fun p hp1 hp2 => ?_) ?_ (by decide) (by decide)
  · rw [e] at hp2
    exact inR_0 (skF_all 160 a p hp1 hp2)
  · rw [e]; exact skF_ge 160 a
theorem nw_help {b : Nat → Int32} {n a : Nat} (h : ¬ rtF b n a = 1) : ¬ lxT b n a = 12 := nw_all h 12 (by decide) (by decide) (by decide)
theorem iw_number {b : Nat → Int32} {n a : Nat} (h : rtF b n a = 1) : iW b a (lxE b n a) ([110, 117, 109, 98, 101, 114] ++ List.replicate 2 0) = true ↔ lxT b n a = 13 := by
  obtain ⟨h1, q⟩ := rt_1 h
  have e := lxE_l h1 q
  rw [lx_l h1 q, wo_number]
  refine iW_wd (fun p hp1 hp2 => ?_) ?_ (by decide) (by decide)
  · rw [e] at hp2
    exact inR_0 (skF_all 160 a p hp1 hp2)
  · rw [e]; exact skF_ge 160 a
theorem nw_number {b : Nat → Int32} {n a : Nat} (h : ¬ rtF b n a = 1) : ¬ lxT b n a = 13 := nw_all h 13 (by decide) (by decide) (by decide)
theorem iw_day {b : Nat → Int32} {n a : Nat} (h : rtF b n a = 1) : iW b a (lxE b n a) ([100, 97, 121] ++ List.replicate 5 0) = true ↔ lxT b n a = 14 := by
  obtain ⟨h1, q⟩ := rt_1 h
  have e := lxE_l h1 q
  rw [lx_l h1 q, wo_day]
  refine iW_wd (fun p hp1 hp2 => ?_) ?_ (by decide) (by decide)
  · rw [e] at hp2
    exact inR_0 (skF_all 160 a p hp1 hp2)
  · rw [e]; exact skF_ge 160 a
theorem nw_day {b : Nat → Int32} {n a : Nat} (h : ¬ rtF b n a = 1) : ¬ lxT b n a = 14 := nw_all h 14 (by decide) (by decide) (by decide)
theorem iw_done {b : Nat → Int32} {n a : Nat} (h : rtF b n a = 1) : iW b a (lxE b n a) ([100, 111, 110, 101] ++ List.replicate 4 0) = true ↔ lxT b n a = 15 := by
  obtain ⟨h1, q⟩ := rt_1 h
  have e := lxE_l h1 q
  rw [lx_l h1 q, wo_done]
  refine iW_wd (fun p hp1 hp2 => ?_) ?_ (by decide) (by decide)
  · rw [e] at hp2
    exact inR_0 (skF_all 160 a p hp1 hp2)
  · rw [e]; exact skF_ge 160 a
theorem nw_done {b : Nat → Int32} {n a : Nat} (h : ¬ rtF b n a = 1) : ¬ lxT b n a = 15 := nw_all h 15 (by decide) (by decide) (by decide)
theorem iw_teaches {b : Nat → Int32} {n a : Nat} (h : rtF b n a = 1) : iW b a (lxE b n a) ([116, 101, 97, 99, 104, 101, 115] ++ List.replicate 1 0) = true ↔ lxT b n a = 3 := by
  obtain ⟨h1, q⟩ := rt_1 h
  have e := lxE_l h1 q
  rw [lx_l h1 q, wo_teaches]
  refine iW_wd (fun p hp1 hp2 => ?_) ?_ (by decide) (by decide)
  · rw [e] at hp2
    exact inR_0 (skF_all 160 a p hp1 hp2)
  · rw [e]; exact skF_ge 160 a
theorem nw_teaches {b : Nat → Int32} {n a : Nat} (h : ¬ rtF b n a = 1) : ¬ lxT b n a = 3 := nw_all h 3 (by decide) (by decide) (by decide)
theorem iw_fades {b : Nat → Int32} {n a : Nat} (h : rtF b n a = 1) : iW b a (lxE b n a) ([102, 97, 100, 101, 115] ++ List.replicate 3 0) = true ↔ lxT b n a = 4 := by
  obtain ⟨h1, q⟩ := rt_1 h
  have e := lxE_l h1 q
  rw [lx_l h1 q, wo_fades]
  refine iW_wd (fun p hp1 hp2 => ?_) ?_ (by decide) (by decide)
  · rw [e] at hp2
    exact inR_0 (skF_all 160 a p hp1 hp2)
  · rw [e]; exact skF_ge 160 a
theorem nw_fades {b : Nat → Int32} {n a : Nat} (h : ¬ rtF b n a = 1) : ¬ lxT b n a = 4 := nw_all h 4 (by decide) (by decide) (by decide)
theorem iw_nerves {b : Nat → Int32} {n a : Nat} (h : rtF b n a = 1) : iW b a (lxE b n a) ([110, 101, 114, 118, 101, 115] ++ List.replicate 2 0) = true ↔ lxT b n a = 5 := by
  obtain ⟨h1, q⟩ := rt_1 h
  have e := lxE_l h1 q
  rw [lx_l h1 q, wo_nerves]
  refine iW_wd (fun p hp1 hp2 => ?_) ?_ (by decide) (by decide)
  · rw [e] at hp2
    exact inR_0 (skF_all 160 a p hp1 hp2)
  · rw [e]; exact skF_ge 160 a
theorem nw_nerves {b : Nat → Int32} {n a : Nat} (h : ¬ rtF b n a = 1) : ¬ lxT b n a = 5 := nw_all h 5 (by decide) (by decide) (by decide)
theorem iw_or {b : Nat → Int32} {n a : Nat} (h : rtF b n a = 1) : iW b a (lxE b n a) ([111, 114] ++ List.replicate 6 0) = true ↔ lxT b n a = 6 := by
  obtain ⟨h1, q⟩ := rt_1 h
  have e := lxE_l h1 q
  rw [lx_l h1 q, wo_or]
  refine iW_wd (fun p hp1 hp2 => ?_) ?_ (by decide) (by decide)
  · rw [e] at hp2
    exact inR_0 (skF_all 160 a p hp1 hp2)
  · rw [e]; exact skF_ge 160 a
theorem nw_or {b : Nat → Int32} {n a : Nat} (h : ¬ rtF b n a = 1) : ¬ lxT b n a = 6 := nw_all h 6 (by decide) (by decide) (by decide)
theorem iw_and {b : Nat → Int32} {n a : Nat} (h : rtF b n a = 1) : iW b a (lxE b n a) ([97, 110, 100] ++ List.replicate 5 0) = true ↔ lxT b n a = 7 := by
  obtain ⟨h1, q⟩ := rt_1 h
  have e := lxE_l h1 q
  rw [lx_l h1 q, wo_and]
  refine iW_wd (fun p hp1 hp2 => ?_) ?_ (by decide) (by decide)
  · rw [e] at hp2
    exact inR_0 (skF_all 160 a p hp1 hp2)
  · rw [e]; exact skF_ge 160 a
theorem nw_and {b : Nat → Int32} {n a : Nat} (h : ¬ rtF b n a = 1) : ¬ lxT b n a = 7 := nw_all h 7 (by decide) (by decide) (by decide)
theorem iw_not {b : Nat → Int32} {n a : Nat} (h : rtF b n a = 1) : iW b a (lxE b n a) ([110, 111, 116] ++ List.replicate 5 0) = true ↔ lxT b n a = 8 := by
  obtain ⟨h1, q⟩ := rt_1 h
  have e := lxE_l h1 q
  rw [lx_l h1 q, wo_not]
  refine iW_wd (fun p hp1 hp2 => ?_) ?_ (by decide) (by decide)
  · rw [e] at hp2
    exact inR_0 (skF_all 160 a p hp1 hp2)
  · rw [e]; exact skF_ge 160 a
theorem nw_not {b : Nat → Int32} {n a : Nat} (h : ¬ rtF b n a = 1) : ¬ lxT b n a = 8 := nw_all h 8 (by decide) (by decide) (by decide)
