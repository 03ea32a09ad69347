/-! skip, signs, numbers (written by wip/whole/mkread1.py) -/
def siG (x : Int32) : Int32 := if x = 40 ∨ x = 41 ∨ x = 42 ∨ x = 43 ∨ x = 45 ∨ x = 59 ∨ x = 60 ∨ x = 61 then x else 1
/-- the number of g digits from p on -/
def nuF (b : Nat → Int32) : Nat → Nat → Int32 → Int32
  | 0, _, v => v
  | g + 1, p, v => nuF b g (p + 1) (10 * v + b p - 48)
theorem nI_sb {a e : Nat} (h : a ≤ e) : nI e - nI a = nI (e - a) := by
  have h1 : nI e = nI (e - a) + nI a := by rw [nI_add, Nat.sub_add_cancel h]
  rw [h1, Int32.add_sub_cancel]
set_option maxRecDepth 20000 in
set_option maxHeartbeats 1000000 in
theorem c_skip {X : aXt × Value} {mi : Nat → Nat → Int32} {ml : Nat → Nat → Int64} {mr : Nat → Nat → Option Nat} (hM : MRok mr) {n : Nat} (hn : n ≤ 160) (hs : mi 2 0 = nI n) {lw up : Int32} (hlo : (-1 : Int32) < lw) {a : Nat} (ha : a ≤ 161) (he : mi 2 5 = nI a) : aCW X 2 24 [.ref 2, .int lw, .int up] (HD, mi, ml, mr) (fun r h' => r = none ∧ h' = (HD, aup mi 2 5 (nI (skF (byN (mi 3) n) lw up 160 a)), ml, mr)) := by
  refine cw_of (cd := cd_X1_skip) (nL := 4) rfl rfl ?_
  show aWP _ _ (0, [some (.ref 2), some (.int lw), some (.int up), none], [], (HD, mi, ml, mr)) _
  refine wp_steps 2 (t' := (2, [some (.ref 2), some (.int lw), some (.int up), some (.int 0)], [], (HD, mi, ml, mr))) rfl ?_
  have k := l_skip (X := X) (mi := mi) (ml := ml) hM hn hs (up := up) hlo 160 0 a rfl ha
  rw [show aup mi 2 5 (nI a) = mi from by rw [← he, aup_id]] at k
  exact k
set_option maxRecDepth 20000 in
set_option maxHeartbeats 1000000 in
theorem c_signAt {X : aXt × Value} {mi : Nat → Nat → Int32} {ml : Nat → Nat → Int64} {mr : Nat → Nat → Option Nat} (hM : MRok mr) {n : Nat} (hn : n ≤ 160) (hs : mi 2 0 = nI n) {a : Nat} (ha : a ≤ 161) (he : mi 2 4 = nI a) : aCW X 2 26 [.ref 2] (HD, mi, ml, mr) (rdI mi ml mr (siG (byN (mi 3) n a))) := by
  refine cw_of (cd := cd_X1_signAt) (nL := 2) rfl rfl ?_
  show aWP _ _ (0, [some (.ref 2), none], [], (HD, mi, ml, mr)) _
  refine wp_steps 2 (t' := (2, [some (.ref 2), none], [.ref 2, .ref 2], (HD, mi, ml, mr))) rfl ?_
  refine wp_geti rfl ⟨by decide, rfl⟩ (Or.inl rfl) ?_
  rw [he]
  refine wp_calv (as := [.int (nI a)]) rfl rfl rfl (Nat.le_of_ble_eq_true rfl) ⟨by decide, rfl⟩ (c_byteAt hM hn hs (p := a) (by omega)) (by decide) ?_
  rintro _ _ ⟨rfl, rfl⟩
  show aWP _ _ (4, [some (.ref 2), none], [.int (byN (mi 3) n a)], (HD, mi, ml, mr)) _
  refine wp_steps 2 (t' := (6, [some (.ref 2), some (.int (byN (mi 3) n a))], [.int (byN (mi 3) n a)], (HD, mi, ml, mr))) rfl ?_
  by_cases s_1 : byN (mi 3) n a = 40
  · refine wp_sw 7 rfl (by rw [s_1]; decide) ?_
    refine wp_steps 1 (t' := (8, [some (.ref 2), some (.int (byN (mi 3) n a))], [.int (byN (mi 3) n a)], (HD, mi, ml, mr))) rfl ?_
    refine wp_ret rfl rfl ⟨⟨Nat.le_refl _, Nat.le_refl _⟩, ?_⟩
    refine ⟨?_, rfl⟩
    first | (simp [siG, s_1]; done) | (exfalso; simp_all; done)
  by_cases s_2 : byN (mi 3) n a = 41
  · refine wp_sw 7 rfl (by rw [s_2]; decide) ?_
    refine wp_steps 1 (t' := (8, [some (.ref 2), some (.int (byN (mi 3) n a))], [.int (byN (mi 3) n a)], (HD, mi, ml, mr))) rfl ?_
    refine wp_ret rfl rfl ⟨⟨Nat.le_refl _, Nat.le_refl _⟩, ?_⟩
    refine ⟨?_, rfl⟩
    first | (simp [siG, s_1, s_2]; done) | (exfalso; simp_all; done)
  by_cases s_3 : byN (mi 3) n a = 42
  · refine wp_sw 7 rfl (by rw [s_3]; decide) ?_
    refine wp_steps 1 (t' := (8, [some (.ref 2), some (.int (byN (mi 3) n a))], [.int (byN (mi 3) n a)], (HD, mi, ml, mr))) rfl ?_
    refine wp_ret rfl rfl ⟨⟨Nat.le_refl _, Nat.le_refl _⟩, ?_⟩
    refine ⟨?_, rfl⟩
    first | (simp [siG, s_1, s_2, s_3]; done) | (exfalso; simp_all; done)
  by_cases s_4 : byN (mi 3) n a = 43
  · refine wp_sw 7 rfl (by rw [s_4]; decide) ?_
    refine wp_steps 1 (t' := (8, [some (.ref 2), some (.int (byN (mi 3) n a))], [.int (byN (mi 3) n a)], (HD, mi, ml, mr))) rfl ?_
    refine wp_ret rfl rfl ⟨⟨Nat.le_refl _, Nat.le_refl _⟩, ?_⟩
    refine ⟨?_, rfl⟩
    first | (simp [siG, s_1, s_2, s_3, s_4]; done) | (exfalso; simp_all; done)
  by_cases s_5 : byN (mi 3) n a = 44
  · refine wp_sw 9 rfl (by rw [s_5]; decide) ?_
    refine wp_steps 1 (t' := (10, [some (.ref 2), some (.int (byN (mi 3) n a))], [.int 1], (HD, mi, ml, mr))) rfl ?_
    refine wp_ret rfl rfl ⟨⟨Nat.le_refl _, Nat.le_refl _⟩, ?_⟩
    refine ⟨?_, rfl⟩
    first | (simp [siG, s_1, s_2, s_3, s_4, s_5]; done) | (exfalso; simp_all; done)
  by_cases s_6 : byN (mi 3) n a = 45
  · refine wp_sw 7 rfl (by rw [s_6]; decide) ?_
    refine wp_steps 1 (t' := (8, [some (.ref 2), some (.int (byN (mi 3) n a))], [.int (byN (mi 3) n a)], (HD, mi, ml, mr))) rfl ?_
    refine wp_ret rfl rfl ⟨⟨Nat.le_refl _, Nat.le_refl _⟩, ?_⟩
    refine ⟨?_, rfl⟩
    first | (simp [siG, s_1, s_2, s_3, s_4, s_5, s_6]; done) | (exfalso; simp_all; done)
  by_cases s_7 : byN (mi 3) n a = 46
  · refine wp_sw 9 rfl (by rw [s_7]; decide) ?_
    refine wp_steps 1 (t' := (10, [some (.ref 2), some (.int (byN (mi 3) n a))], [.int 1], (HD, mi, ml, mr))) rfl ?_
    refine wp_ret rfl rfl ⟨⟨Nat.le_refl _, Nat.le_refl _⟩, ?_⟩
    refine ⟨?_, rfl⟩
    first | (simp [siG, s_1, s_2, s_3, s_4, s_5, s_6, s_7]; done) | (exfalso; simp_all; done)
  by_cases s_8 : byN (mi 3) n a = 47
  · refine wp_sw 9 rfl (by rw [s_8]; decide) ?_
    refine wp_steps 1 (t' := (10, [some (.ref 2), some (.int (byN (mi 3) n a))], [.int 1], (HD, mi, ml, mr))) rfl ?_
    refine wp_ret rfl rfl ⟨⟨Nat.le_refl _, Nat.le_refl _⟩, ?_⟩
    refine ⟨?_, rfl⟩
    first | (simp [siG, s_1, s_2, s_3, s_4, s_5, s_6, s_7, s_8]; done) | (exfalso; simp_all; done)
  by_cases s_9 : byN (mi 3) n a = 48
  · refine wp_sw 9 rfl (by rw [s_9]; decide) ?_
    refine wp_steps 1 (t' := (10, [some (.ref 2), some (.int (byN (mi 3) n a))], [.int 1], (HD, mi, ml, mr))) rfl ?_
    refine wp_ret rfl rfl ⟨⟨Nat.le_refl _, Nat.le_refl _⟩, ?_⟩
    refine ⟨?_, rfl⟩
    first | (simp [siG, s_1, s_2, s_3, s_4, s_5, s_6, s_7, s_8, s_9]; done) | (exfalso; simp_all; done)
  by_cases s_10 : byN (mi 3) n a = 49
  · refine wp_sw 9 rfl (by rw [s_10]; decide) ?_
    refine wp_steps 1 (t' := (10, [some (.ref 2), some (.int (byN (mi 3) n a))], [.int 1], (HD, mi, ml, mr))) rfl ?_
    refine wp_ret rfl rfl ⟨⟨Nat.le_refl _, Nat.le_refl _⟩, ?_⟩
    refine ⟨?_, rfl⟩
    first | (simp [siG, s_1, s_2, s_3, s_4, s_5, s_6, s_7, s_8, s_9, s_10]; done) | (exfalso; simp_all; done)
  by_cases s_11 : byN (mi 3) n a = 50
  · refine wp_sw 9 rfl (by rw [s_11]; decide) ?_
    refine wp_steps 1 (t' := (10, [some (.ref 2), some (.int (byN (mi 3) n a))], [.int 1], (HD, mi, ml, mr))) rfl ?_
    refine wp_ret rfl rfl ⟨⟨Nat.le_refl _, Nat.le_refl _⟩, ?_⟩
    refine ⟨?_, rfl⟩
    first | (simp [siG, s_1, s_2, s_3, s_4, s_5, s_6, s_7, s_8, s_9, s_10, s_11]; done) | (exfalso; simp_all; done)
  by_cases s_12 : byN (mi 3) n a = 51
  · refine wp_sw 9 rfl (by rw [s_12]; decide) ?_
    refine wp_steps 1 (t' := (10, [some (.ref 2), some (.int (byN (mi 3) n a))], [.int 1], (HD, mi, ml, mr))) rfl ?_
    refine wp_ret rfl rfl ⟨⟨Nat.le_refl _, Nat.le_refl _⟩, ?_⟩
    refine ⟨?_, rfl⟩
    first | (simp [siG, s_1, s_2, s_3, s_4, s_5, s_6, s_7, s_8, s_9, s_10, s_11, s_12]; done) | (exfalso; simp_all; done)
  by_cases s_13 : byN (mi 3) n a = 52
  · refine wp_sw 9 rfl (by rw [s_13]; decide) ?_
    refine wp_steps 1 (t' := (10, [some (.ref 2), some (.int (byN (mi 3) n a))], [.int 1], (HD, mi, ml, mr))) rfl ?_
    refine wp_ret rfl rfl ⟨⟨Nat.le_refl _, Nat.le_refl _⟩, ?_⟩
    refine ⟨?_, rfl⟩
    first | (simp [siG, s_1, s_2, s_3, s_4, s_5, s_6, s_7, s_8, s_9, s_10, s_11, s_12, s_13]; done) | (exfalso; simp_all; done)
  by_cases s_14 : byN (mi 3) n a = 53
  · refine wp_sw 9 rfl (by rw [s_14]; decide) ?_
    refine wp_steps 1 (t' := (10, [some (.ref 2), some (.int (byN (mi 3) n a))], [.int 1], (HD, mi, ml, mr))) rfl ?_
    refine wp_ret rfl rfl ⟨⟨Nat.le_refl _, Nat.le_refl _⟩, ?_⟩
    refine ⟨?_, rfl⟩
    first | (simp [siG, s_1, s_2, s_3, s_4, s_5, s_6, s_7, s_8, s_9, s_10, s_11, s_12, s_13, s_14]; done) | (exfalso; simp_all; done)
  by_cases s_15 : byN (mi 3) n a = 54
  · refine wp_sw 9 rfl (by rw [s_15]; decide) ?_
    refine wp_steps 1 (t' := (10, [some (.ref 2), some (.int (byN (mi 3) n a))], [.int 1], (HD, mi, ml, mr))) rfl ?_
    refine wp_ret rfl rfl ⟨⟨Nat.le_refl _, Nat.le_refl _⟩, ?_⟩
    refine ⟨?_, rfl⟩
    first | (simp [siG, s_1, s_2, s_3, s_4, s_5, s_6, s_7, s_8, s_9, s_10, s_11, s_12, s_13, s_14, s_15]; done) | (exfalso; simp_all; done)
  by_cases s_16 : byN (mi 3) n a = 55
  · refine wp_sw 9 rfl (by rw [s_16]; decide) ?_
    refine wp_steps 1 (t' := (10, [some (.ref 2), some (.int (byN (mi 3) n a))], [.int 1], (HD, mi, ml, mr))) rfl ?_
    refine wp_ret rfl rfl ⟨⟨Nat.le_refl _, Nat.le_refl _⟩, ?_⟩
    refine ⟨?_, rfl⟩
    first | (simp [siG, s_1, s_2, s_3, s_4, s_5, s_6, s_7, s_8, s_9, s_10, s_11, s_12, s_13, s_14, s_15, s_16]; done) | (exfalso; simp_all; done)
  by_cases s_17 : byN (mi 3) n a = 56
  · refine wp_sw 9 rfl (by rw [s_17]; decide) ?_
    refine wp_steps 1 (t' := (10, [some (.ref 2), some (.int (byN (mi 3) n a))], [.int 1], (HD, mi, ml, mr))) rfl ?_
    refine wp_ret rfl rfl ⟨⟨Nat.le_refl _, Nat.le_refl _⟩, ?_⟩
    refine ⟨?_, rfl⟩
    first | (simp [siG, s_1, s_2, s_3, s_4, s_5, s_6, s_7, s_8, s_9, s_10, s_11, s_12, s_13, s_14, s_15, s_16, s_17]; done) | (exfalso; simp_all; done)
  by_cases s_18 : byN (mi 3) n a = 57
  · refine wp_sw 9 rfl (by rw [s_18]; decide) ?_
    refine wp_steps 1 (t' := (10, [some (.ref 2), some (.int (byN (mi 3) n a))], [.int 1], (HD, mi, ml, mr))) rfl ?_
    refine wp_ret rfl rfl ⟨⟨Nat.le_refl _, Nat.le_refl _⟩, ?_⟩
    refine ⟨?_, rfl⟩
    first | (simp [siG, s_1, s_2, s_3, s_4, s_5, s_6, s_7, s_8, s_9, s_10, s_11, s_12, s_13, s_14, s_15, s_16, s_17, s_18]; done) | (exfalso; simp_all; done)
  by_cases s_19 : byN (mi 3) n a = 58
  · refine wp_sw 9 rfl (by rw [s_19]; decide) ?_
    refine wp_steps 1 (t' := (10, [some (.ref 2), some (.int (byN (mi 3) n a))], [.int 1], (HD, mi, ml, mr))) rfl ?_
    refine wp_ret rfl rfl ⟨⟨Nat.le_refl _, Nat.le_refl _⟩, ?_⟩
    refine ⟨?_, rfl⟩
    first | (simp [siG, s_1, s_2, s_3, s_4, s_5, s_6, s_7, s_8, s_9, s_10, s_11, s_12, s_13, s_14, s_15, s_16, s_17, s_18, s_19]; done) | (exfalso; simp_all; done)
  by_cases s_20 : byN (mi 3) n a = 59
  · refine wp_sw 7 rfl (by rw [s_20]; decide) ?_
    refine wp_steps 1 (t' := (8, [some (.ref 2), some (.int (byN (mi 3) n a))], [.int (byN (mi 3) n a)], (HD, mi, ml, mr))) rfl ?_
    refine wp_ret rfl rfl ⟨⟨Nat.le_refl _, Nat.le_refl _⟩, ?_⟩
    refine ⟨?_, rfl⟩
    first | (simp [siG, s_1, s_2, s_3, s_4, s_5, s_6, s_7, s_8, s_9, s_10, s_11, s_12, s_13, s_14, s_15, s_16, s_17, s_18, s_19, s_20]; done) | (exfalso; simp_all; done)
  by_cases s_21 : byN (mi 3) n a = 60
  · refine wp_sw 7 rfl (by rw [s_21]; decide) ?_
    refine wp_steps 1 (t' := (8, [some (.ref 2), some (.int (byN (mi 3) n a))], [.int (byN (mi 3) n a)], (HD, mi, ml, mr))) rfl ?_
    refine wp_ret rfl rfl ⟨⟨Nat.le_refl _, Nat.le_refl _⟩, ?_⟩
    refine ⟨?_, rfl⟩
    first | (simp [siG, s_1, s_2, s_3, s_4, s_5, s_6, s_7, s_8, s_9, s_10, s_11, s_12, s_13, s_14, s_15, s_16, s_17, s_18, s_19, s_20, s_21]; done) | (exfalso; simp_all; done)
  by_cases s_22 : byN (mi 3) n a = 61
  · refine wp_sw 7 rfl (by rw [s_22]; decide) ?_
    refine wp_steps 1 (t' := (8, [some (.ref 2), some (.int (byN (mi 3) n a))], [.int (byN (mi 3) n a)], (HD, mi, ml, mr))) rfl ?_
    refine wp_ret rfl rfl ⟨⟨Nat.le_refl _, Nat.le_refl _⟩, ?_⟩
    refine ⟨?_, rfl⟩
    first | (simp [siG, s_1, s_2, s_3, s_4, s_5, s_6, s_7, s_8, s_9, s_10, s_11, s_12, s_13, s_14, s_15, s_16, s_17, s_18, s_19, s_20, s_21, s_22]; done) | (exfalso; simp_all; done)
  refine wp_sw 9 rfl (aSw_out [40, 41, 42, 43, 44, 45, 46, 47, 48, 49, 50, 51, 52, 53, 54, 55, 56, 57, 58, 59, 60, 61] (List.forall_mem_cons.mpr ⟨s_1, List.forall_mem_cons.mpr ⟨s_2, List.forall_mem_cons.mpr ⟨s_3, List.forall_mem_cons.mpr ⟨s_4, List.forall_mem_cons.mpr ⟨s_5, List.forall_mem_cons.mpr ⟨s_6, List.forall_mem_cons.mpr ⟨s_7, List.forall_mem_cons.mpr ⟨s_8, List.forall_mem_cons.mpr ⟨s_9, List.forall_mem_cons.mpr ⟨s_10, List.forall_mem_cons.mpr ⟨s_11, List.forall_mem_cons.mpr ⟨s_12, List.forall_mem_cons.mpr ⟨s_13, List.forall_mem_cons.mpr ⟨s_14, List.forall_mem_cons.mpr ⟨s_15, List.forall_mem_cons.mpr ⟨s_16, List.forall_mem_cons.mpr ⟨s_17, List.forall_mem_cons.mpr ⟨s_18, List.forall_mem_cons.mpr ⟨s_19, List.forall_mem_cons.mpr ⟨s_20, List.forall_mem_cons.mpr ⟨s_21, List.forall_mem_cons.mpr ⟨s_22, fun _ h => absurd h List.not_mem_nil⟩⟩⟩⟩⟩⟩⟩⟩⟩⟩⟩⟩⟩⟩⟩⟩⟩⟩⟩⟩⟩⟩) (by decide)) ?_
  refine wp_steps 1 (t' := (10, [some (.ref 2), some (.int (byN (mi 3) n a))], [.int 1], (HD, mi, ml, mr))) rfl ?_
  refine wp_ret rfl rfl ⟨⟨Nat.le_refl _, Nat.le_refl _⟩, ?_⟩
  refine ⟨?_, rfl⟩
  first | (simp [siG, s_1, s_2, s_3, s_4, s_5, s_6, s_7, s_8, s_9, s_10, s_11, s_12, s_13, s_14, s_15, s_16, s_17, s_18, s_19, s_20, s_21, s_22]; done) | (exfalso; simp_all; done)
set_option maxRecDepth 20000 in
set_option maxHeartbeats 1000000 in
theorem l_number {X : aXt × Value} {mi : Nat → Nat → Int32} {ml : Nat → Nat → Int64} {mr : Nat → Nat → Option Nat} (hM : MRok mr) {n : Nat} (hn : n ≤ 160) (hs : mi 2 0 = nI n) {e : Nat} (hl : e ≤ 170) (he : mi 2 5 = nI e) : ∀ (g t : Nat) (v : Int32), t + g = e → aWP (aEx (aTb X) 1) cd_X1_numberAt (15, [some (.ref 2), some (.int (nI t))], [], (HD, (aup mi 2 6 v), ml, mr)) (fun r h' => (HD.1 ≤ h'.1.1 ∧ HD.2.1 ≤ h'.1.2.1) ∧ r = some (.int 2) ∧ h' = (HD, aup mi 2 6 (nuF (byN (mi 3) n) g t v), ml, mr)) := by
  intro g
  induction g with
  | zero =>
    intro t v hg
    have e1 : t = e := by omega
    subst e1
    refine wp_steps 2 (t' := (17, [some (.ref 2), some (.int (nI t))], [.ref 2, .int (nI t)], (HD, (aup mi 2 6 v), ml, mr))) rfl ?_
    refine wp_geti rfl ⟨by decide, rfl⟩ (Or.inl rfl) ?_
    rw [show aup mi 2 6 v 2 5 = nI t from he]
    refine wp_bC rfl (fun c_1 => ?_) (fun c_1 => ?_)
    rotate_left
    · have c_1 : ¬ ((nI t) ≤ (nI t)) := of_decide_eq_false c_1
      exact absurd (nI_le (Nat.le_refl _) (by omega)) c_1
    have c_1 : (nI t) ≤ (nI t) := of_decide_eq_true c_1
    refine wp_steps 1 (t' := (34, [some (.ref 2), some (.int (nI t))], [.int 2], (HD, (aup mi 2 6 v), ml, mr))) rfl ?_
    refine wp_ret rfl rfl ⟨⟨Nat.le_refl _, Nat.le_refl _⟩, ?_⟩
    exact ⟨rfl, rfl⟩
  | succ g ih =>
    intro t v hg
    have ht : t < e := by omega
    refine wp_steps 2 (t' := (17, [some (.ref 2), some (.int (nI t))], [.ref 2, .int (nI t)], (HD, (aup mi 2 6 v), ml, mr))) rfl ?_
    refine wp_geti rfl ⟨by decide, rfl⟩ (Or.inl rfl) ?_
    rw [show aup mi 2 6 v 2 5 = nI e from he]
    refine wp_bC rfl (fun c_1 => ?_) (fun c_1 => ?_)
    · have c_1 : (nI e) ≤ (nI t) := of_decide_eq_true c_1
      exact absurd c_1 (nI_ge ht (by omega))
    have c_1 : ¬ ((nI e) ≤ (nI t)) := of_decide_eq_false c_1
    refine wp_steps 3 (t' := (22, [some (.ref 2), some (.int (nI t))], [.ref 2, .int 10, .ref 2], (HD, (aup mi 2 6 v), ml, mr))) rfl ?_
    refine wp_geti rfl ⟨by decide, rfl⟩ (Or.inl rfl) ?_
    refine wp_steps 3 (t' := (26, [some (.ref 2), some (.int (nI t))], [.int (nI t), .ref 2, .int (10 * ((aup mi 2 6 v) 2 6)), .ref 2], (HD, (aup mi 2 6 v), ml, mr))) rfl ?_
    refine wp_calv (as := [.int (nI t)]) rfl rfl rfl (Nat.le_of_ble_eq_true rfl) ⟨by decide, rfl⟩ (c_byteAt (mi := (aup mi 2 6 v)) hM hn (by simpa [aup] using hs) (p := t) (by omega)) (by decide) ?_
    rintro _ _ ⟨rfl, rfl⟩
    rw [aup_row mi (l := 3) (by decide)]
    show aWP _ _ (27, [some (.ref 2), some (.int (nI t))], [.int (byN (mi 3) n t), .int (10 * ((aup mi 2 6 v) 2 6)), .ref 2], (HD, (aup mi 2 6 v), ml, mr)) _
    refine wp_steps 3 (t' := (30, [some (.ref 2), some (.int (nI t))], [.int (((10 * ((aup mi 2 6 v) 2 6)) + (byN (mi 3) n t)) - 48), .ref 2], (HD, (aup mi 2 6 v), ml, mr))) rfl ?_
    refine wp_puti rfl ⟨by decide, rfl⟩ rfl (fun m_2 h_3 => ?_)
    subst h_3
    refine wp_steps 2 (t' := (15, [some (.ref 2), some (.int ((nI t) + Int32.ofInt 1))], [], (HD, (aup (aup mi 2 6 v) 2 6 (((10 * ((aup mi 2 6 v) 2 6)) + (byN (mi 3) n t)) - 48)), ml, mr))) rfl ?_
    rw [inc_nI, aup_aup, aup_eq]
    exact ih (t + 1) _ (by omega)
set_option maxRecDepth 20000 in
set_option maxHeartbeats 1000000 in
theorem c_numberAt {X : aXt × Value} {mi : Nat → Nat → Int32} {ml : Nat → Nat → Int64} {mr : Nat → Nat → Option Nat} (hM : MRok mr) {n : Nat} (hn : n ≤ 160) (hs : mi 2 0 = nI n) {a e : Nat} (hae : a ≤ e) (hl : e ≤ 170) (he4 : mi 2 4 = nI a) (he5 : mi 2 5 = nI e) : aCW X 2 27 [.ref 2] (HD, mi, ml, mr) (fun r h' => r = some (.int (if e - a ≤ 4 then 2 else 1)) ∧ h' = (HD, if e - a ≤ 4 then aup mi 2 6 (nuF (byN (mi 3) n) (e - a) a 0) else mi, ml, mr)) := by
  refine cw_of (cd := cd_X1_numberAt) (nL := 2) rfl rfl ?_
  show aWP _ _ (0, [some (.ref 2), none], [], (HD, mi, ml, mr)) _
  refine wp_steps 1 (t' := (1, [some (.ref 2), none], [.ref 2], (HD, mi, ml, mr))) rfl ?_
  refine wp_geti rfl ⟨by decide, rfl⟩ (Or.inl rfl) ?_
  rw [he5]
  refine wp_steps 1 (t' := (3, [some (.ref 2), none], [.ref 2, .int (nI e)], (HD, mi, ml, mr))) rfl ?_
  refine wp_geti rfl ⟨by decide, rfl⟩ (Or.inl rfl) ?_
  rw [he4]
  refine wp_steps 1 (t' := (5, [some (.ref 2), none], [.int ((nI e) - (nI a))], (HD, mi, ml, mr))) rfl ?_
  rw [nI_sb hae]
  refine wp_steps 1 (t' := (6, [some (.ref 2), none], [.int 4, .int (nI (e - a))], (HD, mi, ml, mr))) rfl ?_
  refine wp_bC rfl (fun c_1 => ?_) (fun c_1 => ?_)
  · have c_1 : (nI (e - a)) ≤ 4 := of_decide_eq_true c_1
    refine wp_steps 2 (t' := (11, [some (.ref 2), none], [.int 0, .ref 2], (HD, mi, ml, mr))) rfl ?_
    refine wp_puti rfl ⟨by decide, rfl⟩ rfl (fun m_2 h_3 => ?_)
    subst h_3
    refine wp_steps 1 (t' := (13, [some (.ref 2), none], [.ref 2], (HD, (aup mi 2 6 0), ml, mr))) rfl ?_
    refine wp_geti rfl ⟨by decide, rfl⟩ (Or.inl rfl) ?_
    rw [show aup mi 2 6 0 2 4 = nI a from he4]
    refine wp_steps 1 (t' := (15, [some (.ref 2), some (.int (nI a))], [], (HD, (aup mi 2 6 0), ml, mr))) rfl ?_
    have q : e - a ≤ 4 := by
      rcases Nat.lt_or_ge 4 (e - a) with q | q
      · exact absurd c_1 (nI_ge q (by omega))
      · exact q
    rw [if_pos q, if_pos q]
    exact l_number hM hn hs hl he5 (e - a) a 0 (by omega)
  · have c_1 : ¬ ((nI (e - a)) ≤ 4) := of_decide_eq_false c_1
    refine wp_steps 1 (t' := (8, [some (.ref 2), none], [.int 1], (HD, mi, ml, mr))) rfl ?_
    refine wp_ret rfl rfl ⟨⟨Nat.le_refl _, Nat.le_refl _⟩, ?_⟩
    have q : ¬ e - a ≤ 4 := fun q => c_1 (nI_le q (by decide))
    exact ⟨by rw [if_neg q], by rw [if_neg q]⟩
