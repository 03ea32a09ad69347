/-! the reference: tells, the guesses (written by wip/whole/mkrefW.py) -/
/-- alike but for one cell and what an answer's way leaves -/
def frG (a b : Nat) (m m' : Nat → Nat → Int32) : Prop := ∀ k j, ¬ (k = 84 ∧ (13 ≤ j ∧ j ≤ 27 ∨ j = 29)) → k ≠ 92 → k ≠ 93 → ¬ (k = a ∧ j = b) → m' k j = m k j
theorem frG.Q {a b : Nat} {m m' m2 : Nat → Nat → Int32} (h : frG a b m m') (f : frQ m' m2) : frG a b m m2 := fun k j q q1 q2 q3 => (f k j q q1 q2).trans (h k j q q1 q2 q3)
theorem frQ.G {a b : Nat} {m m' : Nat → Nat → Int32} (f : frQ m m') : frG a b m m' := fun k j q q1 q2 _ => f k j q q1 q2
theorem frG.up {a b : Nat} {m m' : Nat → Nat → Int32} (h : frG a b m m') (v : Int32) : frG a b m (aup m' a b v) := fun k j q q1 q2 q3 => by
  rw [← h k j q q1 q2 q3]
  unfold aup
  by_cases e : k = a
  · rw [if_pos e, if_neg (fun z => q3 ⟨e, z⟩)]
  · rw [if_neg e]
theorem frG.bk {a b : Nat} {m m' : Nat → Nat → Int32} (h : frG a b m m') {v : Int32} (e : v = m a b) : frQ m (aup m' a b v) := fun k j q q1 q2 => by
  unfold aup
  by_cases e1 : k = a
  · by_cases e2 : j = b
    · rw [if_pos e1, if_pos e2, e, e1, e2]
    · rw [if_pos e1, if_neg e2]; exact h k j q q1 q2 (fun z => e2 z.2)
  · rw [if_neg e1]; exact h k j q q1 q2 (fun z => e1 z.1)
theorem frG.row {a b : Nat} {m m' : Nat → Nat → Int32} (h : frG a b m m') {k : Nat} (h0 : k ≠ a) (h1 : k ≠ 84) (h2 : k ≠ 92) (h3 : k ≠ 93) : m' k = m k := funext fun j => h k j (fun z => h1 z.1) h2 h3 (fun z => h0 z.1)
theorem up_same {m : Nat → Nat → Int32} {a b : Nat} {v : Int32} : aup m a b v a b = v := by simp [aup]
/-- bits, many, lowest -/
abbrev dA := Int32 × Int32 × Int32
def dnT (f : Int32) (k : Nat) (a : dA) : dA := if f = -1 then (a.1 ||| (if 10 ≤ nI k then (0 : Int32) else (1 : Int32) <<< (nI k &&& 31)), a.2.1 + 1, nI k) else a
def dnS (F : Nat → Int32) : Nat → dA → dA
  | 0, a => a
  | k + 1, a => dnS F k (dnT (F k) k a)
theorem dn_m {n : Nat} : nI n + Int32.ofInt (-1) = nI n - 1 := by rw [Int32.sub_eq_add_neg]; rfl
theorem dn_s {n : Nat} : nI (n + 1) - 1 = nI n := by rw [show (1 : Int32) = nI 1 from rfl, nI_sb (by omega)]; rfl
theorem dnS_many {F : Nat → Int32} : ∀ g (a : dA), (dnS F g a).2.1 = a.2.1 + nI (cdF F g)
  | 0, a => by show a.2.1 = a.2.1 + nI 0; rw [show nI 0 = 0 from rfl, Int32.add_zero]
  | g + 1, a => by
    show (dnS F g (dnT (F g) g a)).2.1 = a.2.1 + nI ((if F g = -1 then 1 else 0) + cdF F g)
    rw [dnS_many g]
    unfold dnT
    by_cases e : F g = -1
    · rw [if_pos e, if_pos e, ← nI_add, show nI 1 = 1 from rfl, ← Int32.add_assoc]
    · rw [if_neg e, if_neg e, Nat.zero_add]
theorem dnS_first {F : Nat → Int32} : ∀ g (a : dA), (dnS F g a).2.2 = dfF F g a.2.2
  | 0, a => rfl
  | g + 1, a => by
    show (dnS F g (dnT (F g) g a)).2.2 = dfF F g (if F g = -1 then nI g else a.2.2)
    rw [dnS_first g]
    unfold dnT
    by_cases e : F g = -1
    · rw [if_pos e, if_pos e]
    · rw [if_neg e, if_neg e]
def obU (F : Nat → Int32) : Nat → Nat → Int32
  | 0, _ => 0
  | g + 1, k => (if F k = -1 then (1 : Int32) <<< (nI k &&& 31) else 0) ||| obU F g (k + 1)
def obD (F : Nat → Int32) : Nat → Int32
  | 0 => 0
  | k + 1 => (if F k = -1 then (1 : Int32) <<< (nI k &&& 31) else 0) ||| obD F k
theorem obU_last {F : Nat → Int32} : ∀ g k, obU F (g + 1) k = obU F g k ||| (if F (k + g) = -1 then (1 : Int32) <<< (nI (k + g) &&& 31) else 0) := by
  intro g
  induction g with
  | zero => intro k; show _ ||| (0 : Int32) = (0 : Int32) ||| _; rw [Int32.or_zero, Int32.zero_or, Nat.add_zero]
  | succ g ih =>
    intro k
    show _ ||| obU F (g + 1) (k + 1) = (_ ||| obU F g (k + 1)) ||| _
    rw [ih (k + 1), show k + 1 + g = k + (g + 1) from by omega, Int32.or_assoc]
theorem ob_ud {F : Nat → Int32} : ∀ g, obU F g 0 = obD F g := by
  intro g
  induction g with
  | zero => rfl
  | succ g ih =>
    rw [obU_last, ih, Nat.zero_add, Int32.or_comm]
    rfl
theorem dnS_bits {F : Nat → Int32} : ∀ g (a : dA), g ≤ 10 → (dnS F g a).1 = a.1 ||| obD F g
  | 0, a, _ => by show a.1 = a.1 ||| 0; rw [Int32.or_zero]
  | g + 1, a, h => by
    show (dnS F g (dnT (F g) g a)).1 = a.1 ||| ((if F g = -1 then (1 : Int32) <<< (nI g &&& 31) else 0) ||| obD F g)
    rw [dnS_bits g _ (by omega)]
    unfold dnT
    by_cases e : F g = -1
    · rw [if_pos e, if_pos e]
      show a.1 ||| (if 10 ≤ nI g then (0 : Int32) else (1 : Int32) <<< (nI g &&& 31)) ||| obD F g = _
      rw [if_neg (show ¬ (10 : Int32) ≤ nI g from nI_ge (a := g) (b := 10) (by omega) (by decide)), Int32.or_assoc]
    · rw [if_neg e, if_neg e, Int32.zero_or]
theorem tlL_bits {F : Nat → Int32} : ∀ g k (a : tA), (tlL F g k a).2.1 = a.2.1 ||| obU F g k := by
  intro g
  induction g with
  | zero => intro k a; show a.2.1 = a.2.1 ||| 0; rw [Int32.or_zero]
  | succ g ih =>
    intro k a
    show (tlL F g (k + 1) (stT (F k) k a)).2.1 = a.2.1 ||| ((if F k = -1 then (1 : Int32) <<< (nI k &&& 31) else 0) ||| obU F g (k + 1))
    rw [ih (k + 1)]
    unfold stT
    by_cases e : F k = -1
    · simp only [if_pos e]; rw [Int32.or_assoc]
    · simp only [if_neg e]; rw [Int32.zero_or]
/-- the answer of tells, counted down -/
theorem tl_dn {F : Nat → Int32} {g : Nat} {a0 : Int32} (h : g ≤ 1000) : (g ≤ 10 → (tlL F g 0 (a0, 0, 0, -1)).2.1 = (dnS F g (0, 0, -1)).1) ∧ (tlL F g 0 (a0, 0, 0, -1)).2.2.1 = (dnS F g (0, 0, -1)).2.1 ∧ (tlL F g 0 (a0, 0, 0, -1)).2.2.2 = (dnS F g (0, 0, -1)).2.2 := by
  refine ⟨fun h10 => ?_, ?_, ?_⟩
  · rw [tlL_bits, dnS_bits g _ h10, ob_ud]
  · rw [tlL_many g 0 _ 0 rfl, dnS_many, cu_cd, Nat.zero_add]
    show _ = (0 : Int32) + _
    rw [Int32.zero_add]
  · rw [tlL_first g 0 _ (by omega), dnS_first, fu_df]
    exact if_pos rfl
/-- what is first otherwise at guess k -/
def fiR (CT : cT) (it : Nat → Int32) (Z : Nat) (w : Int32) (y : Nat) (hp : Int32) (t : tW) (u : pU) (k : Nat) : Int32 := foL (spT CT w y k t) y hp it Z 0 (spU w y k u)
set_option maxRecDepth 20000 in
set_option maxHeartbeats 1000000 in
theorem r_lays_5 {X : aXt × Value} {mi : Nat → Nat → Int32} {ml : Nat → Nat → Int64} {mr : Nat → Nat → Option Nat} (hM : MRok mr) {p : Nat} (hp5 : p < 5) {v : Int32} : aCW X 2 121 [.ref 84, .int 5, .int (nI p), .int v] (HD, mi, ml, mr) (fun r h' => r = none ∧ h' = (HD, aup mi 89 p v, ml, mr)) := by
  refine cw_of (cd := cd_X7_lays) (nL := 4) rfl rfl ?_
  show aWP _ _ (0, [some (.ref 84), some (.int 5), some (.int (nI p)), some (.int v)], [], (HD, mi, ml, mr)) _
  refine wp_steps 1 (t' := (1, [some (.ref 84), some (.int 5), some (.int (nI p)), some (.int v)], [.int 5], (HD, mi, ml, mr))) rfl ?_
  refine wp_bI rfl (fun c_1 => ?_) (fun c_1 => ?_)
  rotate_left
  · have c_1 : (5 : Int32) = 0 := Decidable.not_not.mp (of_decide_eq_false c_1)
    exact absurd c_1 (by decide)
  have c_1 : ¬ (5 : Int32) = 0 := of_decide_eq_true c_1
  refine wp_steps 2 (t' := (8, [some (.ref 84), some (.int 5), some (.int (nI p)), some (.int v)], [.int 1, .int 5], (HD, mi, ml, mr))) rfl ?_
  refine wp_bC rfl (fun c_2 => ?_) (fun c_2 => ?_)
  rotate_left
  · have c_2 : (5 : Int32) = 1 := Decidable.not_not.mp (of_decide_eq_false c_2)
    exact absurd c_2 (by decide)
  have c_2 : ¬ (5 : Int32) = 1 := of_decide_eq_true c_2
  refine wp_steps 2 (t' := (17, [some (.ref 84), some (.int 5), some (.int (nI p)), some (.int v)], [.int 2, .int 5], (HD, mi, ml, mr))) rfl ?_
  refine wp_bC rfl (fun c_3 => ?_) (fun c_3 => ?_)
  rotate_left
  · have c_3 : (5 : Int32) = 2 := Decidable.not_not.mp (of_decide_eq_false c_3)
    exact absurd c_3 (by decide)
  have c_3 : ¬ (5 : Int32) = 2 := of_decide_eq_true c_3
  refine wp_steps 2 (t' := (26, [some (.ref 84), some (.int 5), some (.int (nI p)), some (.int v)], [.int 5, .int 5], (HD, mi, ml, mr))) rfl ?_
  refine wp_bC rfl (fun c_4 => ?_) (fun c_4 => ?_)
  rotate_left
  · have c_4 : ¬ (5 ≤ (5 : Int32)) := of_decide_eq_false c_4
    exact absurd c_4 (by decide)
  have c_4 : 5 ≤ (5 : Int32) := of_decide_eq_true c_4
  refine wp_steps 2 (t' := (39, [some (.ref 84), some (.int 5), some (.int (nI p)), some (.int v)], [.int 9, .int 5], (HD, mi, ml, mr))) rfl ?_
  refine wp_bC rfl (fun c_5 => ?_) (fun c_5 => ?_)
  rotate_left
  · have c_5 : ¬ ((5 : Int32) ≤ 9) := of_decide_eq_false c_5
    exact absurd c_5 (by decide)
  have c_5 : (5 : Int32) ≤ 9 := of_decide_eq_true c_5
  refine wp_steps 2 (t' := (52, [some (.ref 84), some (.int 5), some (.int (nI p)), some (.int v)], [.int 5, .int 5], (HD, mi, ml, mr))) rfl ?_
  refine wp_bC rfl (fun c_6 => ?_) (fun c_6 => ?_)
  · have c_6 : ¬ (5 : Int32) = 5 := of_decide_eq_true c_6
    exact absurd c_6 (by decide)
  have c_6 : (5 : Int32) = 5 := Decidable.not_not.mp (of_decide_eq_false c_6)
  refine wp_steps 1 (t' := (54, [some (.ref 84), some (.int 5), some (.int (nI p)), some (.int v)], [.ref 84], (HD, mi, ml, mr))) rfl ?_
  refine wp_getr rfl ⟨by decide, rfl⟩ rfl (hM (84, 9, 89) (by decide)) ?_
  refine wp_steps 2 (t' := (57, [some (.ref 84), some (.int 5), some (.int (nI p)), some (.int v)], [.int v, .int (nI p), .ref 89], (HD, mi, ml, mr))) rfl ?_
  refine wp_iast rfl ⟨by decide, rfl⟩ (aix_nI (by omega) (by decide)) (fun m_7 h_8 => ?_)
  subst h_8
  rw [nI_clamp (n := p) (by omega)]
  refine wp_steps 1 (t' := (62, [some (.ref 84), some (.int 5), some (.int (nI p)), some (.int v)], [], (HD, (aup mi 89 p v), ml, mr))) rfl ?_
  refine wp_ret rfl rfl ⟨⟨Nat.le_refl _, Nat.le_refl _⟩, ?_⟩
  exact ⟨rfl, rfl⟩
set_option maxRecDepth 20000 in
set_option maxHeartbeats 1000000 in
theorem r_lays_6 {X : aXt × Value} {mi : Nat → Nat → Int32} {ml : Nat → Nat → Int64} {mr : Nat → Nat → Option Nat} (hM : MRok mr) {o v : Int32} : aCW X 2 121 [.ref 84, .int 6, .int o, .int v] (HD, mi, ml, mr) (fun r h' => r = none ∧ h' = (HD, aup mi 84 4 v, ml, mr)) := by
  refine cw_of (cd := cd_X7_lays) (nL := 4) rfl rfl ?_
  show aWP _ _ (0, [some (.ref 84), some (.int 6), some (.int o), some (.int v)], [], (HD, mi, ml, mr)) _
  refine wp_steps 1 (t' := (1, [some (.ref 84), some (.int 6), some (.int o), some (.int v)], [.int 6], (HD, mi, ml, mr))) rfl ?_
  refine wp_bI rfl (fun c_1 => ?_) (fun c_1 => ?_)
  rotate_left
  · have c_1 : (6 : Int32) = 0 := Decidable.not_not.mp (of_decide_eq_false c_1)
    exact absurd c_1 (by decide)
  have c_1 : ¬ (6 : Int32) = 0 := of_decide_eq_true c_1
  refine wp_steps 2 (t' := (8, [some (.ref 84), some (.int 6), some (.int o), some (.int v)], [.int 1, .int 6], (HD, mi, ml, mr))) rfl ?_
  refine wp_bC rfl (fun c_2 => ?_) (fun c_2 => ?_)
  rotate_left
  · have c_2 : (6 : Int32) = 1 := Decidable.not_not.mp (of_decide_eq_false c_2)
    exact absurd c_2 (by decide)
  have c_2 : ¬ (6 : Int32) = 1 := of_decide_eq_true c_2
  refine wp_steps 2 (t' := (17, [some (.ref 84), some (.int 6), some (.int o), some (.int v)], [.int 2, .int 6], (HD, mi, ml, mr))) rfl ?_
  refine wp_bC rfl (fun c_3 => ?_) (fun c_3 => ?_)
  rotate_left
  · have c_3 : (6 : Int32) = 2 := Decidable.not_not.mp (of_decide_eq_false c_3)
    exact absurd c_3 (by decide)
  have c_3 : ¬ (6 : Int32) = 2 := of_decide_eq_true c_3
  refine wp_steps 2 (t' := (26, [some (.ref 84), some (.int 6), some (.int o), some (.int v)], [.int 5, .int 6], (HD, mi, ml, mr))) rfl ?_
  refine wp_bC rfl (fun c_4 => ?_) (fun c_4 => ?_)
  rotate_left
  · have c_4 : ¬ (5 ≤ (6 : Int32)) := of_decide_eq_false c_4
    exact absurd c_4 (by decide)
  have c_4 : 5 ≤ (6 : Int32) := of_decide_eq_true c_4
  refine wp_steps 2 (t' := (39, [some (.ref 84), some (.int 6), some (.int o), some (.int v)], [.int 9, .int 6], (HD, mi, ml, mr))) rfl ?_
  refine wp_bC rfl (fun c_5 => ?_) (fun c_5 => ?_)
  rotate_left
  · have c_5 : ¬ ((6 : Int32) ≤ 9) := of_decide_eq_false c_5
    exact absurd c_5 (by decide)
  have c_5 : (6 : Int32) ≤ 9 := of_decide_eq_true c_5
  refine wp_steps 2 (t' := (52, [some (.ref 84), some (.int 6), some (.int o), some (.int v)], [.int 5, .int 6], (HD, mi, ml, mr))) rfl ?_
  refine wp_bC rfl (fun c_6 => ?_) (fun c_6 => ?_)
  rotate_left
  · have c_6 : (6 : Int32) = 5 := Decidable.not_not.mp (of_decide_eq_false c_6)
    exact absurd c_6 (by decide)
  have c_6 : ¬ (6 : Int32) = 5 := of_decide_eq_true c_6
  refine wp_steps 2 (t' := (61, [some (.ref 84), some (.int 6), some (.int o), some (.int v)], [.int v, .ref 84], (HD, mi, ml, mr))) rfl ?_
  refine wp_puti rfl ⟨by decide, rfl⟩ rfl (fun m_7 h_8 => ?_)
  subst h_8
  refine wp_ret rfl rfl ⟨⟨Nat.le_refl _, Nat.le_refl _⟩, ?_⟩
  exact ⟨rfl, rfl⟩
theorem r_lays_y {X : aXt × Value} {mi : Nat → Nat → Int32} {ml : Nat → Nat → Int64} {mr : Nat → Nat → Option Nat} (hM : MRok mr) {p : Nat} (hp5 : p < 5) {y : Nat} (hy8 : y < 8) {v : Int32} : aCW X 2 121 [.ref 84, .int (nI (10 + y)), .int (nI p), .int v] (HD, mi, ml, mr) (fun r h' => r = none ∧ h' = (HD, aup mi 91 (10 * p + y) v, ml, mr)) := by
  rcases (by omega : y = 0 ∨ y = 1 ∨ y = 2 ∨ y = 3 ∨ y = 4 ∨ y = 5 ∨ y = 6 ∨ y = 7) with e | e | e | e | e | e | e | e
  · subst e; exact r_lays_10 hM hp5
  · subst e; exact r_lays_11 hM hp5
  · subst e; exact r_lays_12 hM hp5
  · subst e; exact r_lays_13 hM hp5
  · subst e; exact r_lays_14 hM hp5
  · subst e; exact r_lays_15 hM hp5
  · subst e; exact r_lays_16 hM hp5
  · subst e; exact r_lays_17 hM hp5
theorem c_rmost_y {X : aXt × Value} {mi : Nat → Nat → Int32} {ml : Nat → Nat → Int64} {mr : Nat → Nat → Option Nat} {y : Nat} (hy8 : y < 8) : aCW X 1 118 [.int (nI (10 + y))] (HD, mi, ml, mr) (rdI mi ml mr 99) := by
  rcases (by omega : y = 0 ∨ y = 1 ∨ y = 2 ∨ y = 3 ∨ y = 4 ∨ y = 5 ∨ y = 6 ∨ y = 7) with e | e | e | e | e | e | e | e
  · subst e; exact c_rmost_10
  · subst e; exact c_rmost_11
  · subst e; exact c_rmost_12
  · subst e; exact c_rmost_13
  · subst e; exact c_rmost_14
  · subst e; exact c_rmost_15
  · subst e; exact c_rmost_16
  · subst e; exact c_rmost_17
theorem q_told_y {X : aXt × Value} {mi : Nat → Nat → Int32} {ml : Nat → Nat → Int64} {mr : Nat → Nat → Option Nat} (hM : MRok mr) {N : Nat} (hN : mi 84 12 = nI N) (hN5 : N ≤ 5) {c0 c1 c2 : List Int32} (hR : RUX mi c0 c1 c2) {p : Nat} (hpN : p < N) (hok : okU (puR mi p)) {y : Nat} (hy8 : y < 8) : aCW X 48 123 [.ref 84, .int (nI p), .int (nI (10 + y))] (HD, mi, ml, mr) (qR mi mr (.int (mi 91 (10 * p + y)))) := by
  rcases (by omega : y = 0 ∨ y = 1 ∨ y = 2 ∨ y = 3 ∨ y = 4 ∨ y = 5 ∨ y = 6 ∨ y = 7) with e | e | e | e | e | e | e | e
  · subst e; exact q_told_10p hM hN hN5 hR hpN hok
  · subst e; exact q_told_11p hM hN hN5 hR hpN hok
  · subst e; exact q_told_12p hM hN hN5 hR hpN hok
  · subst e; exact q_told_13p hM hN hN5 hR hpN hok
  · subst e; exact q_told_14p hM hN hN5 hR hpN hok
  · subst e; exact q_told_15p hM hN hN5 hR hpN hok
  · subst e; exact q_told_16p hM hN hN5 hR hpN hok
  · subst e; exact q_told_17p hM hN hN5 hR hpN hok
set_option maxRecDepth 20000 in
set_option maxHeartbeats 1000000 in
theorem l_rtells {X : aXt × Value} {mi : Nat → Nat → Int32} {mr : Nat → Nat → Option Nat} (hM : MRok mr) {s p y : Nat} {sH w hp wv ov old most : Int32} {a b : Nat} (hL : ∀ (m : Nat → Nat → Int32) (x : Nat → Nat → Int64) (v : Int32), aCW X 2 121 [.ref 84, .int wv, .int ov, .int v] (HD, m, x, mr) (fun r h' => r = none ∧ h' = (HD, aup m a b v, x, mr))) {F : Nat → Int32} {G : Nat} (hG : G ≤ 1000) (hF : ∀ (m : Nat → Nat → Int32) (x : Nat → Nat → Int64) (k : Nat), k < G → frG a b mi m → m a b = nI k → aCW X 48 198 [.ref 84, .int (nI s), .int (nI p), .int (nI y), .int hp] (HD, m, x, mr) (fun r h' => r = some (.int (F k)) ∧ ∃ m' w', h' = (HD, m', w', mr) ∧ frQ m m')) {Q : Option Value → aM → Prop} : ∀ (g : Nat) (c : dA) (m : Nat → Nat → Int32) (x : Nat → Nat → Int64), g ≤ G → frG a b mi m → (∀ m' x', frG a b mi m' → aWP (aEx (aTb X) 49) cd_X7_tells (148, [some (.ref 84), some (.int (nI s)), some (.int (nI p)), some (.int sH), some (.int w), some (.int (nI y)), some (.int hp), some (.int wv), some (.int ov), some (.int old), some (.int most), some (.int ((dnS F g c).1)), some (.int ((dnS F g c).2.1)), some (.int ((dnS F g c).2.2)), some (.int (-1))], [], (HD, m', x', mr)) Q) → aWP (aEx (aTb X) 49) cd_X7_tells (117, [some (.ref 84), some (.int (nI s)), some (.int (nI p)), some (.int sH), some (.int w), some (.int (nI y)), some (.int hp), some (.int wv), some (.int ov), some (.int old), some (.int most), some (.int c.1), some (.int c.2.1), some (.int c.2.2), some (.int (nI g - 1))], [], (HD, m, x, mr)) Q := by
  intro g
  induction g with
  | zero =>
    intro c m x hg h hk
    rw [show nI 0 - 1 = (-1 : Int32) from rfl]
    refine wp_steps 1 (t' := (118, [some (.ref 84), some (.int (nI s)), some (.int (nI p)), some (.int sH), some (.int w), some (.int (nI y)), some (.int hp), some (.int wv), some (.int ov), some (.int old), some (.int most), some (.int c.1), some (.int c.2.1), some (.int c.2.2), some (.int (-1))], [.int (-1)], (HD, m, x, mr))) rfl ?_
    refine wp_bI rfl (fun c_1 => ?_) (fun c_1 => ?_)
    rotate_left
    · have c_1 : ¬ ((-1 : Int32) < 0) := of_decide_eq_false c_1
      exact absurd c_1 (by decide)
    have c_1 : (-1 : Int32) < 0 := of_decide_eq_true c_1
    exact hk m x h
  | succ g ih =>
    intro c m x hg h hk
    rw [dn_s]
    refine wp_steps 1 (t' := (118, [some (.ref 84), some (.int (nI s)), some (.int (nI p)), some (.int sH), some (.int w), some (.int (nI y)), some (.int hp), some (.int wv), some (.int ov), some (.int old), some (.int most), some (.int c.1), some (.int c.2.1), some (.int c.2.2), some (.int (nI g))], [.int (nI g)], (HD, m, x, mr))) rfl ?_
    refine wp_bI rfl (fun c_1 => ?_) (fun c_1 => ?_)
    · have c_1 : (nI g) < 0 := of_decide_eq_true c_1
      exact absurd c_1 (nI_pos (by omega))
    have c_1 : ¬ ((nI g) < 0) := of_decide_eq_false c_1
    refine wp_steps 4 (t' := (123, [some (.ref 84), some (.int (nI s)), some (.int (nI p)), some (.int sH), some (.int w), some (.int (nI y)), some (.int hp), some (.int wv), some (.int ov), some (.int old), some (.int most), some (.int c.1), some (.int c.2.1), some (.int c.2.2), some (.int (nI g))], [.int (nI g), .int ov, .int wv, .ref 84], (HD, m, x, mr))) rfl ?_
    refine wp_calv (as := [.int wv, .int ov, .int (nI g)]) rfl rfl rfl (Nat.le_of_ble_eq_true rfl) ⟨by decide, rfl⟩ ((hL m x (nI g))) (by decide) ?_
    rintro _ _ ⟨rfl, rfl⟩
    show aWP _ _ (124, [some (.ref 84), some (.int (nI s)), some (.int (nI p)), some (.int sH), some (.int w), some (.int (nI y)), some (.int hp), some (.int wv), some (.int ov), some (.int old), some (.int most), some (.int c.1), some (.int c.2.1), some (.int c.2.2), some (.int (nI g))], [], (HD, (aup m a b (nI g)), x, mr)) _
    refine wp_steps 5 (t' := (129, [some (.ref 84), some (.int (nI s)), some (.int (nI p)), some (.int sH), some (.int w), some (.int (nI y)), some (.int hp), some (.int wv), some (.int ov), some (.int old), some (.int most), some (.int c.1), some (.int c.2.1), some (.int c.2.2), some (.int (nI g))], [.int hp, .int (nI y), .int (nI p), .int (nI s), .ref 84], (HD, (aup m a b (nI g)), x, mr))) rfl ?_
    refine wp_calv (as := [.int (nI s), .int (nI p), .int (nI y), .int hp]) rfl rfl rfl (Nat.le_of_ble_eq_true rfl) ⟨by decide, rfl⟩ ((hF (aup m a b (nI g)) x g (by omega) (h.up _) up_same)) (by decide) ?_
    rintro _ _ ⟨rfl, m_1, x_1, rfl, f1⟩
    show aWP _ _ (130, [some (.ref 84), some (.int (nI s)), some (.int (nI p)), some (.int sH), some (.int w), some (.int (nI y)), some (.int hp), some (.int wv), some (.int ov), some (.int old), some (.int most), some (.int c.1), some (.int c.2.1), some (.int c.2.2), some (.int (nI g))], [.int (F g)], (HD, m_1, x_1, mr)) _
    refine wp_steps 1 (t' := (131, [some (.ref 84), some (.int (nI s)), some (.int (nI p)), some (.int sH), some (.int w), some (.int (nI y)), some (.int hp), some (.int wv), some (.int ov), some (.int old), some (.int most), some (.int c.1), some (.int c.2.1), some (.int c.2.2), some (.int (nI g))], [.int (-1), .int (F g)], (HD, m_1, x_1, mr))) rfl ?_
    refine wp_bC rfl (fun c_2 => ?_) (fun c_2 => ?_)
    · have c_2 : ¬ (F g) = (-1) := of_decide_eq_true c_2
      refine wp_steps 2 (t' := (117, [some (.ref 84), some (.int (nI s)), some (.int (nI p)), some (.int sH), some (.int w), some (.int (nI y)), some (.int hp), some (.int wv), some (.int ov), some (.int old), some (.int most), some (.int c.1), some (.int c.2.1), some (.int c.2.2), some (.int ((nI g) + Int32.ofInt (-1)))], [], (HD, m_1, x_1, mr))) rfl ?_
      have e : dnT (F g) g c = c := if_neg c_2
      have z := ih c m_1 x_1 (by omega) ((h.up _).Q f1) (by rw [← e]; exact hk)
      rw [dn_m]
      exact z
    · have c_2 : (F g) = (-1) := Decidable.not_not.mp (of_decide_eq_false c_2)
      refine wp_steps 3 (t' := (135, [some (.ref 84), some (.int (nI s)), some (.int (nI p)), some (.int sH), some (.int w), some (.int (nI y)), some (.int hp), some (.int wv), some (.int ov), some (.int old), some (.int most), some (.int c.1), some (.int c.2.1), some (.int c.2.2), some (.int (nI g))], [.int 10, .int (nI g), .int c.1], (HD, m_1, x_1, mr))) rfl ?_
      refine wp_bC rfl (fun c_3 => ?_) (fun c_3 => ?_)
      · have c_3 : 10 ≤ (nI g) := of_decide_eq_true c_3
        refine wp_steps 8 (t' := (117, [some (.ref 84), some (.int (nI s)), some (.int (nI p)), some (.int sH), some (.int w), some (.int (nI y)), some (.int hp), some (.int wv), some (.int ov), some (.int old), some (.int most), some (.int (c.1 ||| 0)), some (.int (c.2.1 + Int32.ofInt 1)), some (.int (nI g)), some (.int ((nI g) + Int32.ofInt (-1)))], [], (HD, m_1, x_1, mr))) rfl ?_
        have e : dnT (F g) g c = (c.1 ||| (0), c.2.1 + 1, nI g) := by
          unfold dnT
          rw [if_pos c_2, if_pos c_3]
        have z := ih (c.1 ||| (0), c.2.1 + 1, nI g) m_1 x_1 (by omega) ((h.up _).Q f1) (by rw [← e]; exact hk)
        rw [dn_m]
        exact z
      · have c_3 : ¬ (10 ≤ (nI g)) := of_decide_eq_false c_3
        refine wp_steps 2 (t' := (138, [some (.ref 84), some (.int (nI s)), some (.int (nI p)), some (.int sH), some (.int w), some (.int (nI y)), some (.int hp), some (.int wv), some (.int ov), some (.int old), some (.int most), some (.int c.1), some (.int c.2.1), some (.int c.2.2), some (.int (nI g))], [.int (nI g), .int 1, .int c.1], (HD, m_1, x_1, mr))) rfl ?_
        refine wp_steps 9 (t' := (117, [some (.ref 84), some (.int (nI s)), some (.int (nI p)), some (.int sH), some (.int w), some (.int (nI y)), some (.int hp), some (.int wv), some (.int ov), some (.int old), some (.int most), some (.int (c.1 ||| ((1 : Int32) <<< ((nI g) &&& 31)))), some (.int (c.2.1 + Int32.ofInt 1)), some (.int (nI g)), some (.int ((nI g) + Int32.ofInt (-1)))], [], (HD, m_1, x_1, mr))) rfl ?_
        have e : dnT (F g) g c = (c.1 ||| (1 <<< (nI g &&& 31)), c.2.1 + 1, nI g) := by
          unfold dnT
          rw [if_pos c_2, if_neg c_3]
        have z := ih (c.1 ||| (1 <<< (nI g &&& 31)), c.2.1 + 1, nI g) m_1 x_1 (by omega) ((h.up _).Q f1) (by rw [← e]; exact hk)
        rw [dn_m]
        exact z
