/-! the learner, small functions (written by wip/whole/mkcls0.py) -/
def cl (lo hi v : Int32) : Int32 := if v < lo then lo else if hi < v then hi else v
theorem cl_mm {lo hi : Int32} (h : lo ≤ hi) (v : Int32) : fmax lo (fmin hi v) = cl lo hi v := by
  unfold fmax fmin cl
  have a7 := Int32.le_iff_toInt_le.mp h
  by_cases c1 : v < hi <;> by_cases c2 : v < lo <;> by_cases c3 : hi < v <;> by_cases c4 : lo < v <;> by_cases c5 : lo < hi <;> simp only [c1, c2, c3, c4, c5, if_true, if_false] <;> (simp only [Int32.lt_iff_toInt_lt] at c1 c2 c3 c4 c5; apply Int32.toInt_inj.mp; omega)
/-- an answer, the memory as it was -/
def rdI (mi : Nat → Nat → Int32) (ml : Nat → Nat → Int64) (mr : Nat → Nat → Option Nat) (x : Int32) : Option Value → aM → Prop := fun r h' => r = some (.int x) ∧ h' = (HD, mi, ml, mr)
set_option maxRecDepth 20000 in
set_option maxHeartbeats 1000000 in
theorem c_bounded {X : aXt × Value} {mi : Nat → Nat → Int32} {ml : Nat → Nat → Int64} {mr : Nat → Nat → Option Nat} {v lo hi : Int32} (h : lo ≤ hi) : aCW X 1 109 [.int v, .int lo, .int hi] (HD, mi, ml, mr) (rdI mi ml mr (cl lo hi v)) := by
  refine cw_of (cd := cd_X6_bounded) (nL := 3) rfl rfl ?_
  show aWP _ _ (0, [some (.int v), some (.int lo), some (.int hi)], [], (HD, mi, ml, mr)) _
  refine wp_steps 5 (t' := (5, [some (.int v), some (.int lo), some (.int hi)], [.int (fmax lo (fmin hi v))], (HD, mi, ml, mr))) rfl ?_
  refine wp_ret rfl rfl ⟨⟨Nat.le_refl _, Nat.le_refl _⟩, ?_⟩
  exact ⟨by rw [cl_mm h], rfl⟩
theorem aix_iff {x : Int32} {n : Nat} (hn : n < 2 ^ 31) : aixn x n = true ↔ ¬ x < 0 ∧ ¬ nI n ≤ x := by
  have a1 := @Int32.lt_iff_toInt_lt x 0
  have a2 := @Int32.le_iff_toInt_le (nI n) x
  rw [nI_toInt hn] at a2
  constructor
  · intro h
    obtain ⟨h1, h2⟩ := aix_out h
    refine ⟨h1, ?_⟩
    rw [a2]
    rw [a1] at h1
    have h2 : x.toInt.toNat < n := h2
    have : (0 : Int32).toInt = 0 := rfl
    omega
  · rintro ⟨h1, h2⟩
    have : (0 : Int32).toInt = 0 := rfl
    unfold aixn
    rw [decide_eq_false h1]
    rw [a1] at h1
    rw [a2] at h2
    have h3 : x.toInt.toNat < n := by omega
    have h3 : x.toNatClampNeg < n := h3
    rw [decide_eq_true h3]
    rfl
set_option maxRecDepth 20000 in
set_option maxHeartbeats 1000000 in
theorem c_isStreet {X : aXt × Value} {mi : Nat → Nat → Int32} {ml : Nat → Nat → Int64} {mr : Nat → Nat → Option Nat} {x : Int32} : aCW X 1 106 [.int x] (HD, mi, ml, mr) (rdI mi ml mr (if aixn x 8 = true then 1 else 0)) := by
  refine cw_of (cd := cd_X6_isStreet) (nL := 1) rfl rfl ?_
  show aWP _ _ (0, [some (.int x)], [], (HD, mi, ml, mr)) _
  refine wp_steps 1 (t' := (1, [some (.int x)], [.int x], (HD, mi, ml, mr))) rfl ?_
  refine wp_bI rfl (fun c_1 => ?_) (fun c_1 => ?_)
  · have c_1 : x < 0 := of_decide_eq_true c_1
    refine wp_steps 1 (t' := (8, [some (.int x)], [.int 0], (HD, mi, ml, mr))) rfl ?_
    refine wp_ret rfl rfl ⟨⟨Nat.le_refl _, Nat.le_refl _⟩, ?_⟩
    exact ⟨by rw [if_neg (fun q => absurd c_1 ((aix_iff (by decide)).mp q).1)], rfl⟩
  · have c_1 : ¬ (x < 0) := of_decide_eq_false c_1
    refine wp_steps 2 (t' := (4, [some (.int x)], [.int 8, .int x], (HD, mi, ml, mr))) rfl ?_
    refine wp_bC rfl (fun c_2 => ?_) (fun c_2 => ?_)
    · have c_2 : 8 ≤ x := of_decide_eq_true c_2
      refine wp_steps 1 (t' := (8, [some (.int x)], [.int 0], (HD, mi, ml, mr))) rfl ?_
      refine wp_ret rfl rfl ⟨⟨Nat.le_refl _, Nat.le_refl _⟩, ?_⟩
      exact ⟨by rw [if_neg (fun q => absurd c_2 ((aix_iff (by decide)).mp q).2)], rfl⟩
    · have c_2 : ¬ (8 ≤ x) := of_decide_eq_false c_2
      refine wp_steps 2 (t' := (8, [some (.int x)], [.int 1], (HD, mi, ml, mr))) rfl ?_
      refine wp_ret rfl rfl ⟨⟨Nat.le_refl _, Nat.le_refl _⟩, ?_⟩
      exact ⟨by rw [if_pos ((aix_iff (by decide)).mpr ⟨c_1, c_2⟩)], rfl⟩

set_option maxRecDepth 20000 in
set_option maxHeartbeats 1000000 in
theorem c_isHelp {X : aXt × Value} {mi : Nat → Nat → Int32} {ml : Nat → Nat → Int64} {mr : Nat → Nat → Option Nat} {x : Int32} : aCW X 1 107 [.int x] (HD, mi, ml, mr) (rdI mi ml mr (if aixn x 3 = true then 1 else 0)) := by
  refine cw_of (cd := cd_X6_isHelp) (nL := 1) rfl rfl ?_
  show aWP _ _ (0, [some (.int x)], [], (HD, mi, ml, mr)) _
  refine wp_steps 1 (t' := (1, [some (.int x)], [.int x], (HD, mi, ml, mr))) rfl ?_
  refine wp_bI rfl (fun c_1 => ?_) (fun c_1 => ?_)
  · have c_1 : x < 0 := of_decide_eq_true c_1
    refine wp_steps 1 (t' := (8, [some (.int x)], [.int 0], (HD, mi, ml, mr))) rfl ?_
    refine wp_ret rfl rfl ⟨⟨Nat.le_refl _, Nat.le_refl _⟩, ?_⟩
    exact ⟨by rw [if_neg (fun q => absurd c_1 ((aix_iff (by decide)).mp q).1)], rfl⟩
  · have c_1 : ¬ (x < 0) := of_decide_eq_false c_1
    refine wp_steps 2 (t' := (4, [some (.int x)], [.int 3, .int x], (HD, mi, ml, mr))) rfl ?_
    refine wp_bC rfl (fun c_2 => ?_) (fun c_2 => ?_)
    · have c_2 : 3 ≤ x := of_decide_eq_true c_2
      refine wp_steps 1 (t' := (8, [some (.int x)], [.int 0], (HD, mi, ml, mr))) rfl ?_
      refine wp_ret rfl rfl ⟨⟨Nat.le_refl _, Nat.le_refl _⟩, ?_⟩
      exact ⟨by rw [if_neg (fun q => absurd c_2 ((aix_iff (by decide)).mp q).2)], rfl⟩
    · have c_2 : ¬ (3 ≤ x) := of_decide_eq_false c_2
      refine wp_steps 2 (t' := (8, [some (.int x)], [.int 1], (HD, mi, ml, mr))) rfl ?_
      refine wp_ret rfl rfl ⟨⟨Nat.le_refl _, Nat.le_refl _⟩, ?_⟩
      exact ⟨by rw [if_pos ((aix_iff (by decide)).mpr ⟨c_1, c_2⟩)], rfl⟩
theorem afil_0 (m : Nat → Nat → Int32) (k : Nat) (v : Int32) : afil m k 0 v = m := by
  funext x y
  unfold afil
  split <;> simp
theorem afil_s (m : Nat → Nat → Int32) (k n : Nat) (v : Int32) : aup (afil m k n v) k n v = afil m k (n + 1) v := by
  funext x y
  unfold aup afil
  by_cases h : x = k
  · simp only [h, if_true]
    by_cases h2 : y = n
    · simp [h2]
    · by_cases h3 : y < n
      · simp [h2, h3, Nat.lt_succ_of_lt h3]
      · have h4 : ¬ y < n + 1 := by omega
        simp [h2, h3, h4]
  · simp [h]
set_option maxRecDepth 20000 in
set_option maxHeartbeats 1000000 in
theorem c_fill_loop {X : aXt × Value} {mi : Nat → Nat → Int32} {ml : Nat → Nat → Int64} {mr : Nat → Nat → Option Nat} {k n : Nat} {v : Int32} (hs : aSh HD k (1, n)) (hn : n < 2 ^ 31) : ∀ (g t : Nat) (m : Nat → Nat → Int32), t ≤ n → n ≤ t + g → m = afil mi k t v → aWP (aEx (aTb X) 0) cd_J7_fill_53178 (5, [some (.ref k), some (.int v), some (.int (nI t)), some (.int (nI n))], [], (HD, m, ml, mr)) (fun r h' => (HD.1 ≤ h'.1.1 ∧ HD.2.1 ≤ h'.1.2.1) ∧ r = none ∧ h' = (HD, afil mi k n v, ml, mr)) := by
  intro g
  induction g with
  | zero =>
    intro t m h1 h2 hm
    have e : n = t := by omega
    subst e
    refine wp_steps 2 (t' := (7, [some (.ref k), some (.int v), some (.int (nI n)), some (.int (nI n))], [.int (nI n), .int (nI n)], (HD, m, ml, mr))) rfl ?_
    refine wp_bC rfl (fun c_1 => ?_) (fun c_1 => ?_)
    rotate_left
    · have c_1 : ¬ ((nI n) ≤ (nI n)) := of_decide_eq_false c_1
      exact absurd (nI_le (Nat.le_refl _) hn) c_1
    have c_1 : (nI n) ≤ (nI n) := of_decide_eq_true c_1
    refine wp_ret rfl rfl ⟨⟨Nat.le_refl _, Nat.le_refl _⟩, ?_⟩
    exact ⟨rfl, by rw [hm]⟩
  | succ g ih =>
    intro t m h1 h2 hm
    by_cases ht : t < n
    · refine wp_steps 2 (t' := (7, [some (.ref k), some (.int v), some (.int (nI t)), some (.int (nI n))], [.int (nI n), .int (nI t)], (HD, m, ml, mr))) rfl ?_
      refine wp_bC rfl (fun c_1 => ?_) (fun c_1 => ?_)
      · have c_1 : (nI n) ≤ (nI t) := of_decide_eq_true c_1
        refine wp_ret rfl rfl ⟨⟨Nat.le_refl _, Nat.le_refl _⟩, ?_⟩
        exact ⟨rfl, by rw [hm]; exact absurd c_1 (nI_ge ht hn)⟩
      · have c_1 : ¬ ((nI n) ≤ (nI t)) := of_decide_eq_false c_1
        refine wp_steps 3 (t' := (11, [some (.ref k), some (.int v), some (.int (nI t)), some (.int (nI n))], [.int v, .int (nI t), .ref k], (HD, m, ml, mr))) rfl ?_
        refine wp_iast rfl hs (aix_nI ht hn) (fun m_2 h_3 => ?_)
        refine wp_steps 2 (t' := (5, [some (.ref k), some (.int v), some (.int ((nI t) + Int32.ofInt 1)), some (.int (nI n))], [], (HD, m_2, ml, mr))) rfl ?_
        rw [inc_nI]
        exact ih (t + 1) _ ht (by omega) (by rw [h_3, hm, nI_clamp (by omega), afil_s])
    · have e : n = t := by omega
      subst e
      refine wp_steps 2 (t' := (7, [some (.ref k), some (.int v), some (.int (nI n)), some (.int (nI n))], [.int (nI n), .int (nI n)], (HD, m, ml, mr))) rfl ?_
      refine wp_bC rfl (fun c_1 => ?_) (fun c_1 => ?_)
      rotate_left
      · have c_1 : ¬ ((nI n) ≤ (nI n)) := of_decide_eq_false c_1
        exact absurd (nI_le (Nat.le_refl _) hn) c_1
      have c_1 : (nI n) ≤ (nI n) := of_decide_eq_true c_1
      refine wp_ret rfl rfl ⟨⟨Nat.le_refl _, Nat.le_refl _⟩, ?_⟩
      exact ⟨rfl, by rw [hm]⟩
set_option maxRecDepth 20000 in
set_option maxHeartbeats 1000000 in
theorem c_fill {X : aXt × Value} {mi : Nat → Nat → Int32} {ml : Nat → Nat → Int64} {mr : Nat → Nat → Option Nat} {k n : Nat} {v : Int32} (hs : aSh HD k (1, n)) (hn : n < 2 ^ 31) : aCW X 1 223 [.ref k, .int v] (HD, mi, ml, mr) (fun r h' => r = none ∧ h' = (HD, afil mi k n v, ml, mr)) := by
  refine cw_of (cd := cd_J7_fill_53178) (nL := 4) rfl rfl ?_
  show aWP _ _ (0, [some (.ref k), some (.int v), none, none], [], (HD, mi, ml, mr)) _
  refine wp_steps 3 (t' := (3, [some (.ref k), some (.int v), some (.int 0), none], [.ref k], (HD, mi, ml, mr))) rfl ?_
  refine wp_len (t := 0) rfl hs (by decide) ?_
  refine wp_steps 1 (t' := (5, [some (.ref k), some (.int v), some (.int 0), some (.int (Int32.ofNat n))], [], (HD, mi, ml, mr))) rfl ?_
  exact c_fill_loop hs hn n 0 _ (Nat.zero_le _) (by omega) (afil_0 mi k v).symm
