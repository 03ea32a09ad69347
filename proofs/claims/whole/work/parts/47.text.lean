/-! a text's value: its steps over a stack (written by wip/whole/mktext.py) -/
def pfJ (o x y : Int32) : Int32 := if o = -11 then (if x ≠ 0 ∨ y ≠ 0 then 1 else 0) else if o = -12 then (if x ≠ 0 ∧ y ≠ 0 then 1 else 0) else if o = -14 then (if x < y then 1 else 0) else if o = -15 then (if x = y then 1 else 0) else if o = -16 then x + y else if o = -17 then x - y else if o = -18 then x * y else 0
def pfN (c : Int32) (nm : Nat → Int32) : Int32 := if c < 0 then (if Int32.ofNat 6 ≤ -1 - c then 0 else nm (-1 - c).toNatClampNeg) else c
def pfU (c x : Int32) : Int32 := if c = -19 then -x else if x = 0 then 1 else 0
/-- one step over a stack, its top first -/
def pfS (nm : Nat → Int32) (c : Int32) (st : List Int32) : List Int32 :=
  if c < -6 then (if c = -13 ∨ c = -19 then (match st with
    | x :: r => pfU c x :: r
    | [] => []) else (match st with
    | y :: x :: r => pfJ c x y :: r
    | r => r)) else pfN c nm :: st
def pfRun (nm : Nat → Int32) : List Int32 → List Int32 → List Int32
  | [], st => st
  | c :: t, st => pfRun nm t (pfS nm c st)
/-- how high the stack is behind steps; 32 at most -/
def pfH : List Int32 → Nat → Option Nat
  | [], h => some h
  | c :: t, h => if c < -6 then (if c = -13 ∨ c = -19 then (if h < 1 then none else pfH t h) else (if h < 2 then none else pfH t (h - 1))) else (if h < 32 then pfH t (h + 1) else none)
/-- the stack's row holds st -/
def stR (row : Nat → Int32) (st : List Int32) : Prop := ∀ j, j < st.length → row j = st.reverse.getD j 0
theorem stR_push {m : Nat → Nat → Int32} {k : Nat} {st : List Int32} {v : Int32} (h : stR (m k) st) : stR (aup m k st.length v k) (v :: st) := by
  intro j hj
  rw [List.reverse_cons]
  by_cases e : j = st.length
  · subst e
    rw [aup_eq]
    simp
  · rw [aup_ne2 e]
    have hj : j < st.length := by simp at hj; omega
    rw [h j hj]
    simp [List.getElem?_append_left (show j < st.reverse.length by simpa using hj)]
theorem stR_top {row : Nat → Int32} {x : Int32} {r : List Int32} (h : stR row (x :: r)) : row r.length = x := by
  rw [h r.length (by simp)]
  simp
theorem stR_tl {row : Nat → Int32} {x : Int32} {r : List Int32} (h : stR row (x :: r)) : stR row r := by
  intro j hj
  rw [h j (by simp; omega), List.reverse_cons]
  simp [List.getElem?_append_left (show j < r.reverse.length by simpa using hj)]
theorem nam_ge {s : Int32} (hs : ¬ s < -6) (h : s < 0) : ¬ (-1 - s) < 0 := by
  have a1 := @Int32.lt_iff_toInt_lt s 0
  have a2 := @Int32.lt_iff_toInt_lt s (-6)
  have a3 := @Int32.lt_iff_toInt_lt (-1 - s) 0
  rw [a3]
  rw [a1] at h
  rw [a2] at hs
  have e0 : (0 : Int32).toInt = 0 := rfl
  have e6 : (-6 : Int32).toInt = -6 := rfl
  have e1 : (-1 : Int32).toInt = -1 := rfl
  rw [Int32.toInt_sub, e1, e0]
  rw [e0] at h
  rw [e6] at hs
  rw [Int.bmod_eq_of_le (by omega) (by omega)]
  omega
set_option maxRecDepth 20000 in
set_option maxHeartbeats 1000000 in
theorem c_named {X : aXt × Value} {mi : Nat → Nat → Int32} {ml : Nat → Nat → Int64} {mr : Nat → Nat → Option Nat} {N : Nat} {s : Int32} (hN : aSh HD N (1, 6)) (hs : ¬ s < -6) : aCW X 1 41 [.int s, .ref N] (HD, mi, ml, mr) (rdI mi ml mr (pfN s (mi N))) := by
  refine cw_of (cd := cd_X3_named) (nL := 2) rfl rfl ?_
  show aWP _ _ (0, [some (.int s), some (.ref N)], [], (HD, mi, ml, mr)) _
  refine wp_steps 1 (t' := (1, [some (.int s), some (.ref N)], [.int s], (HD, mi, ml, mr))) rfl ?_
  refine wp_bI rfl (fun c_1 => ?_) (fun c_1 => ?_)
  · have c_1 : s < 0 := of_decide_eq_true c_1
    refine wp_steps 4 (t' := (8, [some (.int s), some (.ref N)], [.ref N, .int ((-1) - s)], (HD, mi, ml, mr))) rfl ?_
    refine wp_len (t := 0) rfl hN (by decide) ?_
    refine wp_bC rfl (fun c_2 => ?_) (fun c_2 => ?_)
    · have c_2 : (Int32.ofNat 6) ≤ ((-1) - s) := of_decide_eq_true c_2
      refine wp_steps 1 (t' := (17, [some (.int s), some (.ref N)], [.int 0], (HD, mi, ml, mr))) rfl ?_
      refine wp_ret rfl rfl ⟨⟨Nat.le_refl _, Nat.le_refl _⟩, ?_⟩
      refine ⟨?_, rfl⟩
      unfold pfN
      rw [if_pos c_1, if_pos c_2]
    · have c_2 : ¬ ((Int32.ofNat 6) ≤ ((-1) - s)) := of_decide_eq_false c_2
      refine wp_steps 4 (t' := (14, [some (.int s), some (.ref N)], [.int ((-1) - s), .ref N], (HD, mi, ml, mr))) rfl ?_
      refine wp_iald rfl hN ((aix_iff (by decide)).mpr ⟨nam_ge hs c_1, c_2⟩) ?_
      refine wp_steps 1 (t' := (17, [some (.int s), some (.ref N)], [.int (mi N ((-1) - s).toNatClampNeg)], (HD, mi, ml, mr))) rfl ?_
      refine wp_ret rfl rfl ⟨⟨Nat.le_refl _, Nat.le_refl _⟩, ?_⟩
      refine ⟨?_, rfl⟩
      unfold pfN
      rw [if_pos c_1, if_neg c_2]
  · have c_1 : ¬ (s < 0) := of_decide_eq_false c_1
    refine wp_steps 1 (t' := (3, [some (.int s), some (.ref N)], [.int s], (HD, mi, ml, mr))) rfl ?_
    refine wp_ret rfl rfl ⟨⟨Nat.le_refl _, Nat.le_refl _⟩, ?_⟩
    refine ⟨?_, rfl⟩
    unfold pfN
    rw [if_neg c_1]
set_option maxRecDepth 20000 in
set_option maxHeartbeats 1000000 in
theorem c_joined {X : aXt × Value} {mi : Nat → Nat → Int32} {ml : Nat → Nat → Int64} {mr : Nat → Nat → Option Nat} {o x y : Int32} : aCW X 1 42 [.int o, .int x, .int y] (HD, mi, ml, mr) (rdI mi ml mr (pfJ o x y)) := by
  refine cw_of (cd := cd_X3_joined) (nL := 3) rfl rfl ?_
  show aWP _ _ (0, [some (.int o), some (.int x), some (.int y)], [], (HD, mi, ml, mr)) _
  refine wp_steps 1 (t' := (1, [some (.int o), some (.int x), some (.int y)], [.int o], (HD, mi, ml, mr))) rfl ?_
  by_cases s_1 : o = (-18)
  · refine wp_sw 40 rfl (by rw [s_1]; decide) ?_
    refine wp_steps 3 (t' := (43, [some (.int o), some (.int x), some (.int y)], [.int (x * y)], (HD, mi, ml, mr))) rfl ?_
    refine wp_ret rfl rfl ⟨⟨Nat.le_refl _, Nat.le_refl _⟩, ?_⟩
    refine ⟨?_, rfl⟩
    first | (simp [pfJ, s_1]; done) | (exfalso; simp_all; done)
  by_cases s_2 : o = (-17)
  · refine wp_sw 36 rfl (by rw [s_2]; decide) ?_
    refine wp_steps 3 (t' := (39, [some (.int o), some (.int x), some (.int y)], [.int (x - y)], (HD, mi, ml, mr))) rfl ?_
    refine wp_ret rfl rfl ⟨⟨Nat.le_refl _, Nat.le_refl _⟩, ?_⟩
    refine ⟨?_, rfl⟩
    first | (simp [pfJ, s_1, s_2]; done) | (exfalso; simp_all; done)
  by_cases s_3 : o = (-16)
  · refine wp_sw 32 rfl (by rw [s_3]; decide) ?_
    refine wp_steps 3 (t' := (35, [some (.int o), some (.int x), some (.int y)], [.int (x + y)], (HD, mi, ml, mr))) rfl ?_
    refine wp_ret rfl rfl ⟨⟨Nat.le_refl _, Nat.le_refl _⟩, ?_⟩
    refine ⟨?_, rfl⟩
    first | (simp [pfJ, s_1, s_2, s_3]; done) | (exfalso; simp_all; done)
  by_cases s_4 : o = (-15)
  · refine wp_sw 25 rfl (by rw [s_4]; decide) ?_
    refine wp_steps 2 (t' := (27, [some (.int o), some (.int x), some (.int y)], [.int y, .int x], (HD, mi, ml, mr))) rfl ?_
    refine wp_bC rfl (fun c_5 => ?_) (fun c_5 => ?_)
    · have c_5 : ¬ x = y := of_decide_eq_true c_5
      refine wp_steps 1 (t' := (31, [some (.int o), some (.int x), some (.int y)], [.int 0], (HD, mi, ml, mr))) rfl ?_
      refine wp_ret rfl rfl ⟨⟨Nat.le_refl _, Nat.le_refl _⟩, ?_⟩
      refine ⟨?_, rfl⟩
      first | (simp [pfJ, s_1, s_2, s_3, s_4, c_5]; done) | (exfalso; simp_all; done)
    · have c_5 : x = y := Decidable.not_not.mp (of_decide_eq_false c_5)
      refine wp_steps 2 (t' := (31, [some (.int o), some (.int x), some (.int y)], [.int 1], (HD, mi, ml, mr))) rfl ?_
      refine wp_ret rfl rfl ⟨⟨Nat.le_refl _, Nat.le_refl _⟩, ?_⟩
      refine ⟨?_, rfl⟩
      first | (simp [pfJ, s_1, s_2, s_3, s_4, c_5]; done) | (exfalso; simp_all; done)
  by_cases s_6 : o = (-14)
  · refine wp_sw 18 rfl (by rw [s_6]; decide) ?_
    refine wp_steps 2 (t' := (20, [some (.int o), some (.int x), some (.int y)], [.int y, .int x], (HD, mi, ml, mr))) rfl ?_
    refine wp_bC rfl (fun c_7 => ?_) (fun c_7 => ?_)
    · have c_7 : y ≤ x := of_decide_eq_true c_7
      refine wp_steps 1 (t' := (24, [some (.int o), some (.int x), some (.int y)], [.int 0], (HD, mi, ml, mr))) rfl ?_
      refine wp_ret rfl rfl ⟨⟨Nat.le_refl _, Nat.le_refl _⟩, ?_⟩
      refine ⟨?_, rfl⟩
      first | (simp [pfJ, s_1, s_2, s_3, s_4, s_6, c_7]; done) | (exfalso; simp_all; done)
    · have c_7 : ¬ (y ≤ x) := of_decide_eq_false c_7
      refine wp_steps 2 (t' := (24, [some (.int o), some (.int x), some (.int y)], [.int 1], (HD, mi, ml, mr))) rfl ?_
      refine wp_ret rfl rfl ⟨⟨Nat.le_refl _, Nat.le_refl _⟩, ?_⟩
      refine ⟨?_, rfl⟩
      first | (simp [pfJ, s_1, s_2, s_3, s_4, s_6, c_7]; done) | (exfalso; simp_all; done)
  by_cases s_8 : o = (-13)
  · refine wp_sw 44 rfl (by rw [s_8]; decide) ?_
    refine wp_steps 1 (t' := (45, [some (.int o), some (.int x), some (.int y)], [.int 0], (HD, mi, ml, mr))) rfl ?_
    refine wp_ret rfl rfl ⟨⟨Nat.le_refl _, Nat.le_refl _⟩, ?_⟩
    refine ⟨?_, rfl⟩
    first | (simp [pfJ, s_1, s_2, s_3, s_4, s_6, s_8]; done) | (exfalso; simp_all; done)
  by_cases s_9 : o = (-12)
  · refine wp_sw 10 rfl (by rw [s_9]; decide) ?_
    refine wp_steps 1 (t' := (11, [some (.int o), some (.int x), some (.int y)], [.int x], (HD, mi, ml, mr))) rfl ?_
    refine wp_bI rfl (fun c_10 => ?_) (fun c_10 => ?_)
    · have c_10 : x = 0 := of_decide_eq_true c_10
      refine wp_steps 1 (t' := (17, [some (.int o), some (.int x), some (.int y)], [.int 0], (HD, mi, ml, mr))) rfl ?_
      refine wp_ret rfl rfl ⟨⟨Nat.le_refl _, Nat.le_refl _⟩, ?_⟩
      refine ⟨?_, rfl⟩
      first | (simp [pfJ, s_1, s_2, s_3, s_4, s_6, s_8, s_9, c_10]; done) | (exfalso; simp_all; done)
    · have c_10 : ¬ (x = 0) := of_decide_eq_false c_10
      refine wp_steps 1 (t' := (13, [some (.int o), some (.int x), some (.int y)], [.int y], (HD, mi, ml, mr))) rfl ?_
      refine wp_bI rfl (fun c_11 => ?_) (fun c_11 => ?_)
      · have c_11 : y = 0 := of_decide_eq_true c_11
        refine wp_steps 1 (t' := (17, [some (.int o), some (.int x), some (.int y)], [.int 0], (HD, mi, ml, mr))) rfl ?_
        refine wp_ret rfl rfl ⟨⟨Nat.le_refl _, Nat.le_refl _⟩, ?_⟩
        refine ⟨?_, rfl⟩
        first | (simp [pfJ, s_1, s_2, s_3, s_4, s_6, s_8, s_9, c_10, c_11]; done) | (exfalso; simp_all; done)
      · have c_11 : ¬ (y = 0) := of_decide_eq_false c_11
        refine wp_steps 2 (t' := (17, [some (.int o), some (.int x), some (.int y)], [.int 1], (HD, mi, ml, mr))) rfl ?_
        refine wp_ret rfl rfl ⟨⟨Nat.le_refl _, Nat.le_refl _⟩, ?_⟩
        refine ⟨?_, rfl⟩
        first | (simp [pfJ, s_1, s_2, s_3, s_4, s_6, s_8, s_9, c_10, c_11]; done) | (exfalso; simp_all; done)
  by_cases s_12 : o = (-11)
  · refine wp_sw 2 rfl (by rw [s_12]; decide) ?_
    refine wp_steps 1 (t' := (3, [some (.int o), some (.int x), some (.int y)], [.int x], (HD, mi, ml, mr))) rfl ?_
    refine wp_bI rfl (fun c_13 => ?_) (fun c_13 => ?_)
    · have c_13 : ¬ x = 0 := of_decide_eq_true c_13
      refine wp_steps 2 (t' := (9, [some (.int o), some (.int x), some (.int y)], [.int 1], (HD, mi, ml, mr))) rfl ?_
      refine wp_ret rfl rfl ⟨⟨Nat.le_refl _, Nat.le_refl _⟩, ?_⟩
      refine ⟨?_, rfl⟩
      first | (simp [pfJ, s_1, s_2, s_3, s_4, s_6, s_8, s_9, s_12, c_13]; done) | (exfalso; simp_all; done)
    · have c_13 : x = 0 := Decidable.not_not.mp (of_decide_eq_false c_13)
      refine wp_steps 1 (t' := (5, [some (.int o), some (.int x), some (.int y)], [.int y], (HD, mi, ml, mr))) rfl ?_
      refine wp_bI rfl (fun c_14 => ?_) (fun c_14 => ?_)
      · have c_14 : y = 0 := of_decide_eq_true c_14
        refine wp_steps 1 (t' := (9, [some (.int o), some (.int x), some (.int y)], [.int 0], (HD, mi, ml, mr))) rfl ?_
        refine wp_ret rfl rfl ⟨⟨Nat.le_refl _, Nat.le_refl _⟩, ?_⟩
        refine ⟨?_, rfl⟩
        first | (simp [pfJ, s_1, s_2, s_3, s_4, s_6, s_8, s_9, s_12, c_13, c_14]; done) | (exfalso; simp_all; done)
      · have c_14 : ¬ (y = 0) := of_decide_eq_false c_14
        refine wp_steps 2 (t' := (9, [some (.int o), some (.int x), some (.int y)], [.int 1], (HD, mi, ml, mr))) rfl ?_
        refine wp_ret rfl rfl ⟨⟨Nat.le_refl _, Nat.le_refl _⟩, ?_⟩
        refine ⟨?_, rfl⟩
        first | (simp [pfJ, s_1, s_2, s_3, s_4, s_6, s_8, s_9, s_12, c_13, c_14]; done) | (exfalso; simp_all; done)
  refine wp_sw 44 rfl (aSw_out [(-18), (-17), (-16), (-15), (-14), (-13), (-12), (-11)] (List.forall_mem_cons.mpr ⟨s_1, List.forall_mem_cons.mpr ⟨s_2, List.forall_mem_cons.mpr ⟨s_3, List.forall_mem_cons.mpr ⟨s_4, List.forall_mem_cons.mpr ⟨s_6, List.forall_mem_cons.mpr ⟨s_8, List.forall_mem_cons.mpr ⟨s_9, List.forall_mem_cons.mpr ⟨s_12, fun _ h => absurd h List.not_mem_nil⟩⟩⟩⟩⟩⟩⟩⟩) (by decide)) ?_
  refine wp_steps 1 (t' := (45, [some (.int o), some (.int x), some (.int y)], [.int 0], (HD, mi, ml, mr))) rfl ?_
  refine wp_ret rfl rfl ⟨⟨Nat.le_refl _, Nat.le_refl _⟩, ?_⟩
  refine ⟨?_, rfl⟩
  first | (simp [pfJ, s_1, s_2, s_3, s_4, s_6, s_8, s_9, s_12]; done) | (exfalso; simp_all; done)
/-- a stack of two and more, by its row -/
theorem stR_sec {row : Nat → Int32} {x y : Int32} {r : List Int32} (h : stR row (y :: x :: r)) : row r.length = x := stR_top (stR_tl h)
theorem nI_pp (n : Nat) : nI (n + 1 + 1) + Int32.ofInt (-1) = nI (n + 1) := by
  rw [show Int32.ofInt (-1) = -1 from by decide, ← Int32.sub_eq_add_neg]
  exact nI_pred (n + 1)
set_option maxRecDepth 20000 in
set_option maxHeartbeats 1000000 in
theorem l_value {X : aXt × Value} {mi : Nat → Nat → Int32} {ml : Nat → Nat → Int64} {mr : Nat → Nat → Option Nat} (hM : MRok mr) {ρ N en : Nat} {part fr : Int32} {f : Nat} (hf : 0 < f) (hρ : ρ ∈ TXS) (hN : aSh HD N (1, 6)) (hNe : N ≠ ρ + 3) (hp : aixn part 3 = true) (hen0 : mi (ρ + 2) part.toNatClampNeg = nI en) (hle : en ≤ 160) : ∀ (cs : List Int32) (i : Nat) (st : List Int32) (m : Nat → Nat → Int32) (l6 l7 : Option Value), (∀ j, j < cs.length → mi (ρ + 1) (i + j) = cs.getD j 0) → i + cs.length = en → pfH cs st.length = some f → (∀ k j, k ≠ ρ + 3 → m k j = mi k j) → stR (m (ρ + 3)) st → st.length ≤ 32 → aWP (aEx (aTb X) 1) cd_X3_value (22, [some (.ref (ρ)), some (.int part), some (.ref N), some (.int fr), some (.int (nI st.length)), some (.int (nI i)), l6, l7], [], (HD, m, ml, mr)) (fun r h' => (HD.1 ≤ h'.1.1 ∧ HD.2.1 ≤ h'.1.2.1) ∧ ∃ m', (∀ k j, k ≠ ρ + 3 → m' k j = mi k j) ∧ h' = (HD, m', ml, mr) ∧ r = some (.int ((pfRun (m N) cs st).reverse.getD 0 0))) := by
  intro cs
  induction cs with
  | nil =>
    intro i st m l6 l7 hcs hlen hH hrw hst hh
    have hen : m (ρ + 2) part.toNatClampNeg = nI en := by rw [hrw _ _ (by omega)]; exact hen0
    simp at hlen
    unfold pfH at hH
    have hH := Option.some.inj hH
    obtain ⟨x, r, rfl⟩ : ∃ x r, st = x :: r := by
      cases st with
      | nil => simp at hH; omega
      | cons x r => exact ⟨x, r, rfl⟩
    have hres : some (Value.int (m (ρ + 3) 0)) = some (Value.int ((pfRun (m N) [] (x :: r)).reverse.getD 0 0)) := by
      rw [hst 0 (by simp)]
      rfl
    refine wp_steps 1 (t' := (23, [some (.ref (ρ)), some (.int part), some (.ref N), some (.int fr), some (.int (nI (x :: r).length)), some (.int (nI i)), l6, l7], [.int (nI i)], (HD, m, ml, mr))) rfl ?_
    refine wp_bI rfl (fun c_1 => ?_) (fun c_1 => ?_)
    · have c_1 : (nI i) < 0 := of_decide_eq_true c_1
      exact absurd c_1 (nI_pos (by omega))
    have c_1 : ¬ ((nI i) < 0) := of_decide_eq_false c_1
    refine wp_steps 2 (t' := (26, [some (.ref (ρ)), some (.int part), some (.ref N), some (.int fr), some (.int (nI (x :: r).length)), some (.int (nI i)), l6, l7], [.ref (ρ), .int (nI i)], (HD, m, ml, mr))) rfl ?_
    refine wp_getr rfl (shX hρ) rfl (hM _ (mlX2 hρ)) ?_
    refine wp_steps 1 (t' := (28, [some (.ref (ρ)), some (.int part), some (.ref N), some (.int fr), some (.int (nI (x :: r).length)), some (.int (nI i)), l6, l7], [.int part, .ref (ρ + 2), .int (nI i)], (HD, m, ml, mr))) rfl ?_
    refine wp_iald rfl (shXe hρ) hp ?_
    refine wp_bC rfl (fun c_2 => ?_) (fun c_2 => ?_)
    rotate_left
    · have c_2 : ¬ ((m (ρ + 2) part.toNatClampNeg) ≤ (nI i)) := of_decide_eq_false c_2
      rw [hen] at c_2
      exact absurd (nI_le (by omega) (by omega)) c_2
    have c_2 : (m (ρ + 2) part.toNatClampNeg) ≤ (nI i) := of_decide_eq_true c_2
    refine wp_steps 1 (t' := (118, [some (.ref (ρ)), some (.int part), some (.ref N), some (.int fr), some (.int (nI (x :: r).length)), some (.int (nI i)), l6, l7], [.int (nI (x :: r).length)], (HD, m, ml, mr))) rfl ?_
    refine wp_bI rfl (fun c_3 => ?_) (fun c_3 => ?_)
    · have c_3 : (nI (x :: r).length) ≤ 0 := of_decide_eq_true c_3
      exact absurd c_3 (nI_nle (by simp) (by (try simp at hh ⊢); omega))
    have c_3 : ¬ ((nI (x :: r).length) ≤ 0) := of_decide_eq_false c_3
    refine wp_steps 1 (t' := (120, [some (.ref (ρ)), some (.int part), some (.ref N), some (.int fr), some (.int (nI (x :: r).length)), some (.int (nI i)), l6, l7], [.ref (ρ)], (HD, m, ml, mr))) rfl ?_
    refine wp_getr rfl (shX hρ) rfl (hM _ (mlX3 hρ)) ?_
    refine wp_steps 1 (t' := (122, [some (.ref (ρ)), some (.int part), some (.ref N), some (.int fr), some (.int (nI (x :: r).length)), some (.int (nI i)), l6, l7], [.int 0, .ref (ρ + 3)], (HD, m, ml, mr))) rfl ?_
    refine wp_iald rfl (shXt hρ) (by decide) ?_
    refine wp_steps 1 (t' := (125, [some (.ref (ρ)), some (.int part), some (.ref N), some (.int fr), some (.int (nI (x :: r).length)), some (.int (nI i)), l6, l7], [.int (m (ρ + 3) 0)], (HD, m, ml, mr))) rfl ?_
    refine wp_ret rfl rfl ⟨⟨Nat.le_refl _, Nat.le_refl _⟩, ?_⟩
    exact ⟨m, hrw, rfl, hres⟩
  | cons c t ih =>
    intro i st m l6 l7 hcs hlen hH hrw hst hh
    have hen : m (ρ + 2) part.toNatClampNeg = nI en := by rw [hrw _ _ (by omega)]; exact hen0
    have hlen0 : i + (t.length + 1) = en := hlen
    have hcode : m (ρ + 1) i = c := by
      rw [hrw _ _ (by omega)]
      have := hcs 0 (by simp)
      simpa using this
    refine wp_steps 1 (t' := (23, [some (.ref (ρ)), some (.int part), some (.ref N), some (.int fr), some (.int (nI st.length)), some (.int (nI i)), l6, l7], [.int (nI i)], (HD, m, ml, mr))) rfl ?_
    refine wp_bI rfl (fun c_1 => ?_) (fun c_1 => ?_)
    · have c_1 : (nI i) < 0 := of_decide_eq_true c_1
      exact absurd c_1 (nI_pos (by omega))
    have c_1 : ¬ ((nI i) < 0) := of_decide_eq_false c_1
    refine wp_steps 2 (t' := (26, [some (.ref (ρ)), some (.int part), some (.ref N), some (.int fr), some (.int (nI st.length)), some (.int (nI i)), l6, l7], [.ref (ρ), .int (nI i)], (HD, m, ml, mr))) rfl ?_
    refine wp_getr rfl (shX hρ) rfl (hM _ (mlX2 hρ)) ?_
    refine wp_steps 1 (t' := (28, [some (.ref (ρ)), some (.int part), some (.ref N), some (.int fr), some (.int (nI st.length)), some (.int (nI i)), l6, l7], [.int part, .ref (ρ + 2), .int (nI i)], (HD, m, ml, mr))) rfl ?_
    refine wp_iald rfl (shXe hρ) hp ?_
    refine wp_bC rfl (fun c_2 => ?_) (fun c_2 => ?_)
    · have c_2 : (m (ρ + 2) part.toNatClampNeg) ≤ (nI i) := of_decide_eq_true c_2
      rw [hen] at c_2
      exact absurd c_2 (nI_ge (by omega) (by omega))
    have c_2 : ¬ ((m (ρ + 2) part.toNatClampNeg) ≤ (nI i)) := of_decide_eq_false c_2
    refine wp_steps 2 (t' := (32, [some (.ref (ρ)), some (.int part), some (.ref N), some (.int fr), some (.int (nI st.length)), some (.int (nI i)), l6, l7], [.int 160, .int (nI i)], (HD, m, ml, mr))) rfl ?_
    refine wp_bC rfl (fun c_3 => ?_) (fun c_3 => ?_)
    · have c_3 : 160 ≤ (nI i) := of_decide_eq_true c_3
      exact absurd c_3 (nI_ge (b := 160) (by omega) (by decide))
    have c_3 : ¬ (160 ≤ (nI i)) := of_decide_eq_false c_3
    refine wp_steps 1 (t' := (34, [some (.ref (ρ)), some (.int part), some (.ref N), some (.int fr), some (.int (nI st.length)), some (.int (nI i)), l6, l7], [.ref (ρ)], (HD, m, ml, mr))) rfl ?_
    refine wp_getr rfl (shX hρ) rfl (hM _ (mlX1 hρ)) ?_
    refine wp_steps 1 (t' := (36, [some (.ref (ρ)), some (.int part), some (.ref N), some (.int fr), some (.int (nI st.length)), some (.int (nI i)), l6, l7], [.int (nI i), .ref (ρ + 1)], (HD, m, ml, mr))) rfl ?_
    refine wp_iald rfl (shXs hρ) (aix_nI (by omega) (by decide)) ?_
    rw [nI_clamp (n := i) (by omega), hcode]
    refine wp_steps 3 (t' := (40, [some (.ref (ρ)), some (.int part), some (.ref N), some (.int fr), some (.int (nI st.length)), some (.int (nI i)), some (.int c), l7], [.int (-6), .int c], (HD, m, ml, mr))) rfl ?_
    refine wp_bC rfl (fun c_4 => ?_) (fun c_4 => ?_)
    · have c_4 : c < (-6) := of_decide_eq_true c_4
      refine wp_steps 2 (t' := (57, [some (.ref (ρ)), some (.int part), some (.ref N), some (.int fr), some (.int (nI st.length)), some (.int (nI i)), some (.int c), l7], [.int (-13), .int c], (HD, m, ml, mr))) rfl ?_
      refine wp_bC rfl (fun c_5 => ?_) (fun c_5 => ?_)
      · have c_5 : c = (-13) := of_decide_eq_true c_5
        have hu : c = -13 ∨ c = -19 := Or.inl c_5
        unfold pfH at hH
        rw [if_pos c_4, if_pos hu] at hH
        obtain ⟨x, r, rfl⟩ : ∃ x r, st = x :: r := by
          cases st with
          | nil => rw [if_pos (by decide)] at hH; cases hH
          | cons x r => exact ⟨x, r, rfl⟩
        rw [if_neg (by simp)] at hH
        refine wp_steps 2 (t' := (63, [some (.ref (ρ)), some (.int part), some (.ref N), some (.int fr), some (.int (nI (x :: r).length)), some (.int (nI i)), some (.int c), l7], [.int 1, .int (nI (x :: r).length)], (HD, m, ml, mr))) rfl ?_
        refine wp_bC rfl (fun c_6 => ?_) (fun c_6 => ?_)
        rotate_left
        · have c_6 : ¬ (1 ≤ (nI (x :: r).length)) := of_decide_eq_false c_6
          exact absurd (nI_le (a := 1) (by simp) (by (try simp at hh ⊢); omega)) c_6
        have c_6 : 1 ≤ (nI (x :: r).length) := of_decide_eq_true c_6
        refine wp_steps 1 (t' := (67, [some (.ref (ρ)), some (.int part), some (.ref N), some (.int fr), some (.int (nI (x :: r).length)), some (.int (nI i)), some (.int c), l7], [.ref (ρ)], (HD, m, ml, mr))) rfl ?_
        refine wp_getr rfl (shX hρ) rfl (hM _ (mlX3 hρ)) ?_
        refine wp_steps 3 (t' := (71, [some (.ref (ρ)), some (.int part), some (.ref N), some (.int fr), some (.int (nI (x :: r).length)), some (.int (nI i)), some (.int c), l7], [.int ((nI (x :: r).length) - 1), .ref (ρ + 3)], (HD, m, ml, mr))) rfl ?_
        rw [show nI (x :: r).length - 1 = nI r.length from nI_pred r.length]
        refine wp_iald rfl (shXt hρ) (aix_nI (n := 32) (by (try simp at hh ⊢); omega) (by decide)) ?_
        rw [nI_clamp (n := r.length) (by (try simp at hh ⊢); omega), stR_top hst]
        refine wp_steps 2 (t' := (74, [some (.ref (ρ)), some (.int part), some (.ref N), some (.int fr), some (.int (nI (x :: r).length)), some (.int (nI i)), some (.int c), some (.int x)], [.ref (ρ)], (HD, m, ml, mr))) rfl ?_
        refine wp_getr rfl (shX hρ) rfl (hM _ (mlX3 hρ)) ?_
        refine wp_steps 3 (t' := (78, [some (.ref (ρ)), some (.int part), some (.ref N), some (.int fr), some (.int (nI (x :: r).length)), some (.int (nI i)), some (.int c), some (.int x)], [.int ((nI (x :: r).length) - 1), .ref (ρ + 3)], (HD, m, ml, mr))) rfl ?_
        rw [show nI (x :: r).length - 1 = nI r.length from nI_pred r.length]
        refine wp_steps 2 (t' := (80, [some (.ref (ρ)), some (.int part), some (.ref N), some (.int fr), some (.int (nI (x :: r).length)), some (.int (nI i)), some (.int c), some (.int x)], [.int (-19), .int c, .int (nI r.length), .ref (ρ + 3)], (HD, m, ml, mr))) rfl ?_
        refine wp_bC rfl (fun c_7 => ?_) (fun c_7 => ?_)
        rotate_left
        · have c_7 : c = (-19) := Decidable.not_not.mp (of_decide_eq_false c_7)
          rw [c_5] at c_7
          exact absurd c_7 (by decide)
        have c_7 : ¬ c = (-19) := of_decide_eq_true c_7
        refine wp_steps 1 (t' := (85, [some (.ref (ρ)), some (.int part), some (.ref N), some (.int fr), some (.int (nI (x :: r).length)), some (.int (nI i)), some (.int c), some (.int x)], [.int x, .int (nI r.length), .ref (ρ + 3)], (HD, m, ml, mr))) rfl ?_
        refine wp_bI rfl (fun c_8 => ?_) (fun c_8 => ?_)
        · have c_8 : ¬ x = 0 := of_decide_eq_true c_8
          refine wp_steps 1 (t' := (89, [some (.ref (ρ)), some (.int part), some (.ref N), some (.int fr), some (.int (nI (x :: r).length)), some (.int (nI i)), some (.int c), some (.int x)], [.int 0, .int (nI r.length), .ref (ρ + 3)], (HD, m, ml, mr))) rfl ?_
          refine wp_iast rfl (shXt hρ) (aix_nI (n := 32) (by (try simp at hh ⊢); omega) (by decide)) (fun m_9 h_10 => ?_)
          refine wp_steps 3 (t' := (22, [some (.ref (ρ)), some (.int part), some (.ref N), some (.int fr), some (.int (nI (x :: r).length)), some (.int ((nI i) + Int32.ofInt 1)), some (.int c), some (.int x)], [], (HD, m_9, ml, mr))) rfl ?_
          rw [show nI i + Int32.ofInt 1 = nI (i + 1) from nI_1 i]
          have hrow : ∀ k j, k ≠ ρ + 3 → m_9 k j = mi k j := by
            intro k j q
            rw [h_10, aup_ne q]
            exact hrw k j q
          have hst2 : stR (m_9 (ρ + 3)) (0 :: r) := by
            rw [h_10, nI_clamp (n := r.length) (by (try simp at hh ⊢); omega)]
            exact stR_push (stR_tl hst)
          have hs2 : pfS (m N) c (x :: r) = 0 :: r := by
            unfold pfS
            rw [if_pos c_4, if_pos hu]
            unfold pfU
            simp [c_5, c_6, c_7, c_8]
          have hmN : m_9 N = m N := by
            funext j
            rw [hrow N j hNe, hrw N j hNe]
          have k := ih (i + 1) (0 :: r) m_9 (some (.int c)) (some (.int x)) (fun j hj => by
            have := hcs (j + 1) (by simp; omega)
            rw [show i + (j + 1) = i + 1 + j by omega] at this
            simpa using this) (by simp at hlen ⊢; omega) hH hrow hst2 (by (try simp at hh ⊢); omega)
          rw [hmN] at k
          refine wp_mono k (fun r1 h1 q => ?_)
          unfold pfRun
          rw [hs2]
          exact q
        · have c_8 : x = 0 := Decidable.not_not.mp (of_decide_eq_false c_8)
          refine wp_steps 2 (t' := (89, [some (.ref (ρ)), some (.int part), some (.ref N), some (.int fr), some (.int (nI (x :: r).length)), some (.int (nI i)), some (.int c), some (.int x)], [.int 1, .int (nI r.length), .ref (ρ + 3)], (HD, m, ml, mr))) rfl ?_
          refine wp_iast rfl (shXt hρ) (aix_nI (n := 32) (by (try simp at hh ⊢); omega) (by decide)) (fun m_11 h_12 => ?_)
          refine wp_steps 3 (t' := (22, [some (.ref (ρ)), some (.int part), some (.ref N), some (.int fr), some (.int (nI (x :: r).length)), some (.int ((nI i) + Int32.ofInt 1)), some (.int c), some (.int x)], [], (HD, m_11, ml, mr))) rfl ?_
          rw [show nI i + Int32.ofInt 1 = nI (i + 1) from nI_1 i]
          have hrow : ∀ k j, k ≠ ρ + 3 → m_11 k j = mi k j := by
            intro k j q
            rw [h_12, aup_ne q]
            exact hrw k j q
          have hst2 : stR (m_11 (ρ + 3)) (1 :: r) := by
            rw [h_12, nI_clamp (n := r.length) (by (try simp at hh ⊢); omega)]
            exact stR_push (stR_tl hst)
          have hs2 : pfS (m N) c (x :: r) = 1 :: r := by
            unfold pfS
            rw [if_pos c_4, if_pos hu]
            unfold pfU
            simp [c_5, c_6, c_7, c_8]
          have hmN : m_11 N = m N := by
            funext j
            rw [hrow N j hNe, hrw N j hNe]
          have k := ih (i + 1) (1 :: r) m_11 (some (.int c)) (some (.int x)) (fun j hj => by
            have := hcs (j + 1) (by simp; omega)
            rw [show i + (j + 1) = i + 1 + j by omega] at this
            simpa using this) (by simp at hlen ⊢; omega) hH hrow hst2 (by (try simp at hh ⊢); omega)
          rw [hmN] at k
          refine wp_mono k (fun r1 h1 q => ?_)
          unfold pfRun
          rw [hs2]
          exact q
      · have c_5 : ¬ (c = (-13)) := of_decide_eq_false c_5
        refine wp_steps 2 (t' := (60, [some (.ref (ρ)), some (.int part), some (.ref N), some (.int fr), some (.int (nI st.length)), some (.int (nI i)), some (.int c), l7], [.int (-19), .int c], (HD, m, ml, mr))) rfl ?_
        refine wp_bC rfl (fun c_13 => ?_) (fun c_13 => ?_)
        · have c_13 : ¬ c = (-19) := of_decide_eq_true c_13
          have hu : ¬ (c = -13 ∨ c = -19) := fun q => q.elim c_5 c_13
          unfold pfH at hH
          rw [if_pos c_4, if_neg hu] at hH
          obtain ⟨y, x, r, rfl⟩ : ∃ y x r, st = y :: x :: r := by
            match st, hH with
            | [], hH => simp at hH
            | [z], hH => simp at hH
            | y :: x :: r, _ => exact ⟨y, x, r, rfl⟩
          rw [if_neg (by simp)] at hH
          refine wp_steps 2 (t' := (93, [some (.ref (ρ)), some (.int part), some (.ref N), some (.int fr), some (.int (nI (y :: x :: r).length)), some (.int (nI i)), some (.int c), l7], [.int 2, .int (nI (y :: x :: r).length)], (HD, m, ml, mr))) rfl ?_
          refine wp_bC rfl (fun c_14 => ?_) (fun c_14 => ?_)
          rotate_left
          · have c_14 : ¬ (2 ≤ (nI (y :: x :: r).length)) := of_decide_eq_false c_14
            exact absurd (nI_le (a := 2) (by simp) (by (try simp at hh ⊢); omega)) c_14
          have c_14 : 2 ≤ (nI (y :: x :: r).length) := of_decide_eq_true c_14
          refine wp_steps 1 (t' := (97, [some (.ref (ρ)), some (.int part), some (.ref N), some (.int fr), some (.int ((nI (y :: x :: r).length) + Int32.ofInt (-1))), some (.int (nI i)), some (.int c), l7], [], (HD, m, ml, mr))) rfl ?_
          rw [show nI (y :: x :: r).length + Int32.ofInt (-1) = nI (r.length + 1) from nI_pp r.length]
          refine wp_steps 1 (t' := (98, [some (.ref (ρ)), some (.int part), some (.ref N), some (.int fr), some (.int (nI (r.length + 1))), some (.int (nI i)), some (.int c), l7], [.ref (ρ)], (HD, m, ml, mr))) rfl ?_
          refine wp_getr rfl (shX hρ) rfl (hM _ (mlX3 hρ)) ?_
          refine wp_steps 3 (t' := (102, [some (.ref (ρ)), some (.int part), some (.ref N), some (.int fr), some (.int (nI (r.length + 1))), some (.int (nI i)), some (.int c), l7], [.int ((nI (r.length + 1)) - 1), .ref (ρ + 3)], (HD, m, ml, mr))) rfl ?_
          rw [show nI (r.length + 1) - 1 = nI r.length from nI_pred r.length]
          refine wp_steps 2 (t' := (104, [some (.ref (ρ)), some (.int part), some (.ref N), some (.int fr), some (.int (nI (r.length + 1))), some (.int (nI i)), some (.int c), l7], [.ref (ρ), .int c, .int (nI r.length), .ref (ρ + 3)], (HD, m, ml, mr))) rfl ?_
          refine wp_getr rfl (shX hρ) rfl (hM _ (mlX3 hρ)) ?_
          refine wp_steps 3 (t' := (108, [some (.ref (ρ)), some (.int part), some (.ref N), some (.int fr), some (.int (nI (r.length + 1))), some (.int (nI i)), some (.int c), l7], [.int ((nI (r.length + 1)) - 1), .ref (ρ + 3), .int c, .int (nI r.length), .ref (ρ + 3)], (HD, m, ml, mr))) rfl ?_
          rw [show nI (r.length + 1) - 1 = nI r.length from nI_pred r.length]
          refine wp_iald rfl (shXt hρ) (aix_nI (n := 32) (by (try simp at hh ⊢); omega) (by decide)) ?_
          rw [nI_clamp (n := r.length) (by (try simp at hh ⊢); omega), stR_sec hst]
          refine wp_steps 1 (t' := (110, [some (.ref (ρ)), some (.int part), some (.ref N), some (.int fr), some (.int (nI (r.length + 1))), some (.int (nI i)), some (.int c), l7], [.ref (ρ), .int x, .int c, .int (nI r.length), .ref (ρ + 3)], (HD, m, ml, mr))) rfl ?_
          refine wp_getr rfl (shX hρ) rfl (hM _ (mlX3 hρ)) ?_
          refine wp_steps 1 (t' := (112, [some (.ref (ρ)), some (.int part), some (.ref N), some (.int fr), some (.int (nI (r.length + 1))), some (.int (nI i)), some (.int c), l7], [.int (nI (r.length + 1)), .ref (ρ + 3), .int x, .int c, .int (nI r.length), .ref (ρ + 3)], (HD, m, ml, mr))) rfl ?_
          refine wp_iald rfl (shXt hρ) (aix_nI (n := 32) (by (try simp at hh ⊢); omega) (by decide)) ?_
          rw [nI_clamp (n := r.length + 1) (by (try simp at hh ⊢); omega), show m (ρ + 3) (r.length + 1) = y from stR_top hst]
          refine wp_cal (as := [.int c, .int x, .int y]) rfl rfl rfl (Nat.le_of_ble_eq_true rfl) (c_joined) (by decide) ?_
          rintro _ _ ⟨rfl, rfl⟩
          show aWP _ _ (114, [some (.ref (ρ)), some (.int part), some (.ref N), some (.int fr), some (.int (nI (r.length + 1))), some (.int (nI i)), some (.int c), l7], [.int (pfJ c x y), .int (nI r.length), .ref (ρ + 3)], (HD, m, ml, mr)) _
          refine wp_iast rfl (shXt hρ) (aix_nI (n := 32) (by (try simp at hh ⊢); omega) (by decide)) (fun m_15 h_16 => ?_)
          refine wp_steps 2 (t' := (22, [some (.ref (ρ)), some (.int part), some (.ref N), some (.int fr), some (.int (nI (r.length + 1))), some (.int ((nI i) + Int32.ofInt 1)), some (.int c), l7], [], (HD, m_15, ml, mr))) rfl ?_
          rw [show nI i + Int32.ofInt 1 = nI (i + 1) from nI_1 i]
          have hrow : ∀ k j, k ≠ ρ + 3 → m_15 k j = mi k j := by
            intro k j q
            rw [h_16, aup_ne q]
            exact hrw k j q
          have hst2 : stR (m_15 (ρ + 3)) (pfJ c x y :: r) := by
            rw [h_16, nI_clamp (n := r.length) (by (try simp at hh ⊢); omega)]
            exact stR_push (stR_tl (stR_tl hst))
          have hs2 : pfS (m N) c (y :: x :: r) = pfJ c x y :: r := by
            unfold pfS
            rw [if_pos c_4, if_neg hu]
          have hmN : m_15 N = m N := by
            funext j
            rw [hrow N j hNe, hrw N j hNe]
          have k := ih (i + 1) (pfJ c x y :: r) m_15 (some (.int c)) l7 (fun j hj => by
            have := hcs (j + 1) (by simp; omega)
            rw [show i + (j + 1) = i + 1 + j by omega] at this
            simpa using this) (by simp at hlen ⊢; omega) hH hrow hst2 (by (try simp at hh ⊢); omega)
          rw [hmN] at k
          refine wp_mono k (fun r1 h1 q => ?_)
          unfold pfRun
          rw [hs2]
          exact q
        · have c_13 : c = (-19) := Decidable.not_not.mp (of_decide_eq_false c_13)
          have hu : c = -13 ∨ c = -19 := Or.inr c_13
          unfold pfH at hH
          rw [if_pos c_4, if_pos hu] at hH
          obtain ⟨x, r, rfl⟩ : ∃ x r, st = x :: r := by
            cases st with
            | nil => rw [if_pos (by decide)] at hH; cases hH
            | cons x r => exact ⟨x, r, rfl⟩
          rw [if_neg (by simp)] at hH
          refine wp_steps 2 (t' := (63, [some (.ref (ρ)), some (.int part), some (.ref N), some (.int fr), some (.int (nI (x :: r).length)), some (.int (nI i)), some (.int c), l7], [.int 1, .int (nI (x :: r).length)], (HD, m, ml, mr))) rfl ?_
          refine wp_bC rfl (fun c_17 => ?_) (fun c_17 => ?_)
          rotate_left
          · have c_17 : ¬ (1 ≤ (nI (x :: r).length)) := of_decide_eq_false c_17
            exact absurd (nI_le (a := 1) (by simp) (by (try simp at hh ⊢); omega)) c_17
          have c_17 : 1 ≤ (nI (x :: r).length) := of_decide_eq_true c_17
          refine wp_steps 1 (t' := (67, [some (.ref (ρ)), some (.int part), some (.ref N), some (.int fr), some (.int (nI (x :: r).length)), some (.int (nI i)), some (.int c), l7], [.ref (ρ)], (HD, m, ml, mr))) rfl ?_
          refine wp_getr rfl (shX hρ) rfl (hM _ (mlX3 hρ)) ?_
          refine wp_steps 3 (t' := (71, [some (.ref (ρ)), some (.int part), some (.ref N), some (.int fr), some (.int (nI (x :: r).length)), some (.int (nI i)), some (.int c), l7], [.int ((nI (x :: r).length) - 1), .ref (ρ + 3)], (HD, m, ml, mr))) rfl ?_
          rw [show nI (x :: r).length - 1 = nI r.length from nI_pred r.length]
          refine wp_iald rfl (shXt hρ) (aix_nI (n := 32) (by (try simp at hh ⊢); omega) (by decide)) ?_
          rw [nI_clamp (n := r.length) (by (try simp at hh ⊢); omega), stR_top hst]
          refine wp_steps 2 (t' := (74, [some (.ref (ρ)), some (.int part), some (.ref N), some (.int fr), some (.int (nI (x :: r).length)), some (.int (nI i)), some (.int c), some (.int x)], [.ref (ρ)], (HD, m, ml, mr))) rfl ?_
          refine wp_getr rfl (shX hρ) rfl (hM _ (mlX3 hρ)) ?_
          refine wp_steps 3 (t' := (78, [some (.ref (ρ)), some (.int part), some (.ref N), some (.int fr), some (.int (nI (x :: r).length)), some (.int (nI i)), some (.int c), some (.int x)], [.int ((nI (x :: r).length) - 1), .ref (ρ + 3)], (HD, m, ml, mr))) rfl ?_
          rw [show nI (x :: r).length - 1 = nI r.length from nI_pred r.length]
          refine wp_steps 2 (t' := (80, [some (.ref (ρ)), some (.int part), some (.ref N), some (.int fr), some (.int (nI (x :: r).length)), some (.int (nI i)), some (.int c), some (.int x)], [.int (-19), .int c, .int (nI r.length), .ref (ρ + 3)], (HD, m, ml, mr))) rfl ?_
          refine wp_bC rfl (fun c_18 => ?_) (fun c_18 => ?_)
          · have c_18 : ¬ c = (-19) := of_decide_eq_true c_18
            exact absurd c_13 c_18
          have c_18 : c = (-19) := Decidable.not_not.mp (of_decide_eq_false c_18)
          refine wp_steps 3 (t' := (89, [some (.ref (ρ)), some (.int part), some (.ref N), some (.int fr), some (.int (nI (x :: r).length)), some (.int (nI i)), some (.int c), some (.int x)], [.int (-x), .int (nI r.length), .ref (ρ + 3)], (HD, m, ml, mr))) rfl ?_
          refine wp_iast rfl (shXt hρ) (aix_nI (n := 32) (by (try simp at hh ⊢); omega) (by decide)) (fun m_19 h_20 => ?_)
          refine wp_steps 3 (t' := (22, [some (.ref (ρ)), some (.int part), some (.ref N), some (.int fr), some (.int (nI (x :: r).length)), some (.int ((nI i) + Int32.ofInt 1)), some (.int c), some (.int x)], [], (HD, m_19, ml, mr))) rfl ?_
          rw [show nI i + Int32.ofInt 1 = nI (i + 1) from nI_1 i]
          have hrow : ∀ k j, k ≠ ρ + 3 → m_19 k j = mi k j := by
            intro k j q
            rw [h_20, aup_ne q]
            exact hrw k j q
          have hst2 : stR (m_19 (ρ + 3)) ((-x) :: r) := by
            rw [h_20, nI_clamp (n := r.length) (by (try simp at hh ⊢); omega)]
            exact stR_push (stR_tl hst)
          have hs2 : pfS (m N) c (x :: r) = (-x) :: r := by
            unfold pfS
            rw [if_pos c_4, if_pos hu]
            unfold pfU
            simp [c_5, c_13, c_17, c_18]
          have hmN : m_19 N = m N := by
            funext j
            rw [hrow N j hNe, hrw N j hNe]
          have k := ih (i + 1) ((-x) :: r) m_19 (some (.int c)) (some (.int x)) (fun j hj => by
            have := hcs (j + 1) (by simp; omega)
            rw [show i + (j + 1) = i + 1 + j by omega] at this
            simpa using this) (by simp at hlen ⊢; omega) hH hrow hst2 (by (try simp at hh ⊢); omega)
          rw [hmN] at k
          refine wp_mono k (fun r1 h1 q => ?_)
          unfold pfRun
          rw [hs2]
          exact q
    · have c_4 : ¬ (c < (-6)) := of_decide_eq_false c_4
      have h32 : st.length < 32 := by
        unfold pfH at hH
        rw [if_neg c_4] at hH
        by_cases q : st.length < 32
        · exact q
        · rw [if_neg q] at hH; cases hH
      have hH2 : pfH t (st.length + 1) = some f := by
        unfold pfH at hH
        rw [if_neg c_4, if_pos h32] at hH
        exact hH
      refine wp_steps 2 (t' := (43, [some (.ref (ρ)), some (.int part), some (.ref N), some (.int fr), some (.int (nI st.length)), some (.int (nI i)), some (.int c), l7], [.int 32, .int (nI st.length)], (HD, m, ml, mr))) rfl ?_
      refine wp_bC rfl (fun c_21 => ?_) (fun c_21 => ?_)
      rotate_left
      · have c_21 : ¬ ((nI st.length) < 32) := of_decide_eq_false c_21
        exact absurd (nI_lt (b := 32) h32 (by decide)) c_21
      have c_21 : (nI st.length) < 32 := of_decide_eq_true c_21
      refine wp_steps 1 (t' := (47, [some (.ref (ρ)), some (.int part), some (.ref N), some (.int fr), some (.int (nI st.length)), some (.int (nI i)), some (.int c), l7], [.ref (ρ)], (HD, m, ml, mr))) rfl ?_
      refine wp_getr rfl (shX hρ) rfl (hM _ (mlX3 hρ)) ?_
      refine wp_steps 3 (t' := (51, [some (.ref (ρ)), some (.int part), some (.ref N), some (.int fr), some (.int (nI st.length)), some (.int (nI i)), some (.int c), l7], [.ref N, .int c, .int (nI st.length), .ref (ρ + 3)], (HD, m, ml, mr))) rfl ?_
      refine wp_cal (as := [.int c, .ref N]) rfl rfl rfl (Nat.le_of_ble_eq_true rfl) (c_named hN c_4) (by decide) ?_
      rintro _ _ ⟨rfl, rfl⟩
      show aWP _ _ (52, [some (.ref (ρ)), some (.int part), some (.ref N), some (.int fr), some (.int (nI st.length)), some (.int (nI i)), some (.int c), l7], [.int (pfN c (m N)), .int (nI st.length), .ref (ρ + 3)], (HD, m, ml, mr)) _
      refine wp_iast rfl (shXt hρ) (aix_nI (n := 32) (by (try simp at hh ⊢); omega) (by decide)) (fun m_22 h_23 => ?_)
      refine wp_steps 4 (t' := (22, [some (.ref (ρ)), some (.int part), some (.ref N), some (.int fr), some (.int ((nI st.length) + Int32.ofInt 1)), some (.int ((nI i) + Int32.ofInt 1)), some (.int c), l7], [], (HD, m_22, ml, mr))) rfl ?_
      rw [show nI i + Int32.ofInt 1 = nI (i + 1) from nI_1 i]
      have hrow : ∀ k j, k ≠ ρ + 3 → m_22 k j = mi k j := by
        intro k j q
        rw [h_23, aup_ne q]
        exact hrw k j q
      have hst2 : stR (m_22 (ρ + 3)) (pfN c (m N) :: st) := by
        rw [h_23, nI_clamp (n := st.length) (by omega)]
        exact stR_push hst
      rw [show nI st.length + Int32.ofInt 1 = nI (pfN c (m N) :: st).length from nI_1 st.length]
      have hs2 : pfS (m N) c st = pfN c (m N) :: st := by unfold pfS; rw [if_neg c_4]
      have hmN : m_22 N = m N := by
        funext j
        rw [hrow N j hNe, hrw N j hNe]
      have k := ih (i + 1) (pfN c (m N) :: st) m_22 (some (.int c)) l7 (fun j hj => by
        have := hcs (j + 1) (by simp; omega)
        rw [show i + (j + 1) = i + 1 + j by omega] at this
        simpa using this) (by simp at hlen ⊢; omega) hH2 hrow hst2 (by (try simp at hh ⊢); omega)
      rw [hmN] at k
      refine wp_mono k (fun r1 h1 q => ?_)
      unfold pfRun
      rw [hs2]
      exact q
