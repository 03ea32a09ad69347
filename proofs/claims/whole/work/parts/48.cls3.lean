/-! a text's parts; the town (written by wip/whole/mkcls3.py) -/
/-- the text at ρ holds the steps c0, c1, c2 -/
def TXok (m : Nat → Nat → Int32) (ρ : Nat) (c0 c1 c2 : List Int32) : Prop :=
  m (ρ + 2) 0 = nI c0.length ∧ m (ρ + 2) 1 = nI (c0.length + c1.length) ∧ m (ρ + 2) 2 = nI (c0.length + c1.length + c2.length) ∧ c0.length + c1.length + c2.length ≤ 160 ∧ (∀ j, j < c0.length + c1.length + c2.length → m (ρ + 1) j = (c0 ++ c1 ++ c2).getD j 0) ∧ pfH c0 0 = some 1 ∧ pfH c1 0 = some 1 ∧ pfH c2 0 = some 1
def tvC (cs : List Int32) (nm : Nat → Int32) : Int32 := (pfRun nm cs []).reverse.getD 0 0
theorem TXok.kept {m m' : Nat → Nat → Int32} {ρ : Nat} {c0 c1 c2 : List Int32} (h : TXok m ρ c0 c1 c2) (h1 : ∀ j, m' (ρ + 1) j = m (ρ + 1) j) (h2 : ∀ j, m' (ρ + 2) j = m (ρ + 2) j) : TXok m' ρ c0 c1 c2 := by
  obtain ⟨a1, a2, a3, a4, a5, a6⟩ := h
  exact ⟨by rw [h2]; exact a1, by rw [h2]; exact a2, by rw [h2]; exact a3, a4, fun j hj => by rw [h1]; exact a5 j hj, a6⟩
set_option maxRecDepth 20000 in
set_option maxHeartbeats 1000000 in
theorem c_value0 {X : aXt × Value} {mi : Nat → Nat → Int32} {ml : Nat → Nat → Int64} {mr : Nat → Nat → Option Nat} (hM : MRok mr) {ρ N : Nat} {c0 c1 c2 : List Int32} (hρ : ρ ∈ TXS) (hN : aSh HD N (1, 6)) (hNe : N ≠ ρ + 3) (hx : TXok mi ρ c0 c1 c2) : aCW X 2 40 [.ref (ρ), .int 0, .ref N] (HD, mi, ml, mr) (fun r h' => ∃ m', (∀ k j, k ≠ ρ + 3 → m' k j = mi k j) ∧ h' = (HD, m', ml, mr) ∧ r = some (.int (tvC c0 (mi N)))) := by
  refine cw_of (cd := cd_X3_value) (nL := 8) rfl rfl ?_
  show aWP _ _ (0, [some (.ref (ρ)), some (.int 0), some (.ref N), none, none, none, none, none], [], (HD, mi, ml, mr)) _
  refine wp_steps 1 (t' := (1, [some (.ref (ρ)), some (.int 0), some (.ref N), none, none, none, none, none], [.int 0], (HD, mi, ml, mr))) rfl ?_
  refine wp_bI rfl (fun c_1 => ?_) (fun c_1 => ?_)
  · have c_1 : 0 < 0 := of_decide_eq_true c_1
    exact absurd c_1 (by decide)
  have c_1 : ¬ (0 < 0) := of_decide_eq_false c_1
  refine wp_steps 2 (t' := (4, [some (.ref (ρ)), some (.int 0), some (.ref N), none, none, none, none, none], [.int 3, .int 0], (HD, mi, ml, mr))) rfl ?_
  refine wp_bC rfl (fun c_2 => ?_) (fun c_2 => ?_)
  rotate_left
  · have c_2 : ¬ (0 < 3) := of_decide_eq_false c_2
    exact absurd c_2 (by decide)
  have c_2 : 0 < 3 := of_decide_eq_true c_2
  refine wp_steps 1 (t' := (8, [some (.ref (ρ)), some (.int 0), some (.ref N), none, none, none, none, none], [.int 0], (HD, mi, ml, mr))) rfl ?_
  refine wp_bI rfl (fun c_3 => ?_) (fun c_3 => ?_)
  · have c_3 : ¬ 0 = 0 := of_decide_eq_true c_3
    exact absurd c_3 (by decide)
  have c_3 : 0 = 0 := Decidable.not_not.mp (of_decide_eq_false c_3)
  refine wp_steps 2 (t' := (17, [some (.ref (ρ)), some (.int 0), some (.ref N), none, none, none, none, none], [.int 0], (HD, mi, ml, mr))) rfl ?_
  refine wp_steps 5 (t' := (22, [some (.ref (ρ)), some (.int 0), some (.ref N), some (.int 0), some (.int 0), some (.int 0), none, none], [], (HD, mi, ml, mr))) rfl ?_
  have k := l_value (X := X) (mi := mi) (ml := ml) (fr := 0) (f := 1) hM (by decide) hρ hN hNe (part := 0) (by decide) (en := c0.length) hx.1 (by have := hx.2.2.2.1; omega) c0 0 [] mi none none (fun j hj => by rw [Nat.zero_add, hx.2.2.2.2.1 j (by have := hx.2.2.2.1; omega), List.append_assoc]; simp [List.getElem?_append_left hj]) (Nat.zero_add _) hx.2.2.2.2.2.1 (fun _ _ _ => rfl) (fun j hj => absurd hj (Nat.not_lt_zero j)) (by decide)
  rw [show nI ([] : List Int32).length = 0 from nI_0] at k
  rw [show (nI 0 : Int32) = 0 from nI_0] at k
  exact k
set_option maxRecDepth 20000 in
set_option maxHeartbeats 1000000 in
theorem c_value1 {X : aXt × Value} {mi : Nat → Nat → Int32} {ml : Nat → Nat → Int64} {mr : Nat → Nat → Option Nat} (hM : MRok mr) {ρ N : Nat} {c0 c1 c2 : List Int32} (hρ : ρ ∈ TXS) (hN : aSh HD N (1, 6)) (hNe : N ≠ ρ + 3) (hx : TXok mi ρ c0 c1 c2) : aCW X 2 40 [.ref (ρ), .int 1, .ref N] (HD, mi, ml, mr) (fun r h' => ∃ m', (∀ k j, k ≠ ρ + 3 → m' k j = mi k j) ∧ h' = (HD, m', ml, mr) ∧ r = some (.int (tvC c1 (mi N)))) := by
  refine cw_of (cd := cd_X3_value) (nL := 8) rfl rfl ?_
  show aWP _ _ (0, [some (.ref (ρ)), some (.int 1), some (.ref N), none, none, none, none, none], [], (HD, mi, ml, mr)) _
  refine wp_steps 1 (t' := (1, [some (.ref (ρ)), some (.int 1), some (.ref N), none, none, none, none, none], [.int 1], (HD, mi, ml, mr))) rfl ?_
  refine wp_bI rfl (fun c_1 => ?_) (fun c_1 => ?_)
  · have c_1 : 1 < 0 := of_decide_eq_true c_1
    exact absurd c_1 (by decide)
  have c_1 : ¬ (1 < 0) := of_decide_eq_false c_1
  refine wp_steps 2 (t' := (4, [some (.ref (ρ)), some (.int 1), some (.ref N), none, none, none, none, none], [.int 3, .int 1], (HD, mi, ml, mr))) rfl ?_
  refine wp_bC rfl (fun c_2 => ?_) (fun c_2 => ?_)
  rotate_left
  · have c_2 : ¬ (1 < 3) := of_decide_eq_false c_2
    exact absurd c_2 (by decide)
  have c_2 : 1 < 3 := of_decide_eq_true c_2
  refine wp_steps 1 (t' := (8, [some (.ref (ρ)), some (.int 1), some (.ref N), none, none, none, none, none], [.int 1], (HD, mi, ml, mr))) rfl ?_
  refine wp_bI rfl (fun c_3 => ?_) (fun c_3 => ?_)
  rotate_left
  · have c_3 : 1 = 0 := Decidable.not_not.mp (of_decide_eq_false c_3)
    exact absurd c_3 (by decide)
  have c_3 : ¬ 1 = 0 := of_decide_eq_true c_3
  refine wp_steps 1 (t' := (12, [some (.ref (ρ)), some (.int 1), some (.ref N), none, none, none, none, none], [.ref (ρ)], (HD, mi, ml, mr))) rfl ?_
  refine wp_getr rfl (shX hρ) rfl (hM _ (mlX2 hρ)) ?_
  refine wp_steps 3 (t' := (16, [some (.ref (ρ)), some (.int 1), some (.ref N), none, none, none, none, none], [.int 0, .ref (ρ + 2)], (HD, mi, ml, mr))) rfl ?_
  refine wp_iald rfl (shXe hρ) (by decide) ?_
  show aWP _ _ (17, [some (.ref (ρ)), some (.int 1), some (.ref N), none, none, none, none, none], [.int (mi (ρ + 2) 0)], (HD, mi, ml, mr)) _
  rw [hx.1]
  refine wp_steps 5 (t' := (22, [some (.ref (ρ)), some (.int 1), some (.ref N), some (.int (nI c0.length)), some (.int 0), some (.int (nI c0.length)), none, none], [], (HD, mi, ml, mr))) rfl ?_
  have k := l_value (X := X) (mi := mi) (ml := ml) (fr := nI c0.length) (f := 1) hM (by decide) hρ hN hNe (part := 1) (by decide) (en := (c0.length + c1.length)) hx.2.1 (by have := hx.2.2.2.1; omega) c1 c0.length [] mi none none (fun j hj => by rw [hx.2.2.2.2.1 _ (by have := hx.2.2.2.1; omega), List.append_assoc]; simp [List.getElem?_append_right, List.getElem?_append_left hj]) rfl hx.2.2.2.2.2.2.1 (fun _ _ _ => rfl) (fun j hj => absurd hj (Nat.not_lt_zero j)) (by decide)
  rw [show nI ([] : List Int32).length = 0 from nI_0] at k
  exact k
set_option maxRecDepth 20000 in
set_option maxHeartbeats 1000000 in
theorem c_value2 {X : aXt × Value} {mi : Nat → Nat → Int32} {ml : Nat → Nat → Int64} {mr : Nat → Nat → Option Nat} (hM : MRok mr) {ρ N : Nat} {c0 c1 c2 : List Int32} (hρ : ρ ∈ TXS) (hN : aSh HD N (1, 6)) (hNe : N ≠ ρ + 3) (hx : TXok mi ρ c0 c1 c2) : aCW X 2 40 [.ref (ρ), .int 2, .ref N] (HD, mi, ml, mr) (fun r h' => ∃ m', (∀ k j, k ≠ ρ + 3 → m' k j = mi k j) ∧ h' = (HD, m', ml, mr) ∧ r = some (.int (tvC c2 (mi N)))) := by
  refine cw_of (cd := cd_X3_value) (nL := 8) rfl rfl ?_
  show aWP _ _ (0, [some (.ref (ρ)), some (.int 2), some (.ref N), none, none, none, none, none], [], (HD, mi, ml, mr)) _
  refine wp_steps 1 (t' := (1, [some (.ref (ρ)), some (.int 2), some (.ref N), none, none, none, none, none], [.int 2], (HD, mi, ml, mr))) rfl ?_
  refine wp_bI rfl (fun c_1 => ?_) (fun c_1 => ?_)
  · have c_1 : 2 < 0 := of_decide_eq_true c_1
    exact absurd c_1 (by decide)
  have c_1 : ¬ (2 < 0) := of_decide_eq_false c_1
  refine wp_steps 2 (t' := (4, [some (.ref (ρ)), some (.int 2), some (.ref N), none, none, none, none, none], [.int 3, .int 2], (HD, mi, ml, mr))) rfl ?_
  refine wp_bC rfl (fun c_2 => ?_) (fun c_2 => ?_)
  rotate_left
  · have c_2 : ¬ (2 < 3) := of_decide_eq_false c_2
    exact absurd c_2 (by decide)
  have c_2 : 2 < 3 := of_decide_eq_true c_2
  refine wp_steps 1 (t' := (8, [some (.ref (ρ)), some (.int 2), some (.ref N), none, none, none, none, none], [.int 2], (HD, mi, ml, mr))) rfl ?_
  refine wp_bI rfl (fun c_3 => ?_) (fun c_3 => ?_)
  rotate_left
  · have c_3 : 2 = 0 := Decidable.not_not.mp (of_decide_eq_false c_3)
    exact absurd c_3 (by decide)
  have c_3 : ¬ 2 = 0 := of_decide_eq_true c_3
  refine wp_steps 1 (t' := (12, [some (.ref (ρ)), some (.int 2), some (.ref N), none, none, none, none, none], [.ref (ρ)], (HD, mi, ml, mr))) rfl ?_
  refine wp_getr rfl (shX hρ) rfl (hM _ (mlX2 hρ)) ?_
  refine wp_steps 3 (t' := (16, [some (.ref (ρ)), some (.int 2), some (.ref N), none, none, none, none, none], [.int 1, .ref (ρ + 2)], (HD, mi, ml, mr))) rfl ?_
  refine wp_iald rfl (shXe hρ) (by decide) ?_
  show aWP _ _ (17, [some (.ref (ρ)), some (.int 2), some (.ref N), none, none, none, none, none], [.int (mi (ρ + 2) 1)], (HD, mi, ml, mr)) _
  rw [hx.2.1]
  refine wp_steps 5 (t' := (22, [some (.ref (ρ)), some (.int 2), some (.ref N), some (.int (nI (c0.length + c1.length))), some (.int 0), some (.int (nI (c0.length + c1.length))), none, none], [], (HD, mi, ml, mr))) rfl ?_
  have k := l_value (X := X) (mi := mi) (ml := ml) (fr := nI (c0.length + c1.length)) (f := 1) hM (by decide) hρ hN hNe (part := 2) (by decide) (en := (c0.length + c1.length + c2.length)) hx.2.2.1 (by have := hx.2.2.2.1; omega) c2 (c0.length + c1.length) [] mi none none (fun j hj => by rw [hx.2.2.2.2.1 _ (by have := hx.2.2.2.1; omega), List.getD_eq_getElem?_getD, List.getD_eq_getElem?_getD, List.getElem?_append_right (by simp)]; simp) rfl hx.2.2.2.2.2.2.2 (fun _ _ _ => rfl) (fun j hj => absurd hj (Nat.not_lt_zero j)) (by decide)
  rw [show nI ([] : List Int32).length = 0 from nI_0] at k
  exact k
/-- the names -/
def nmF (sk hd hp nu dy dn : Int32) : Nat → Int32 := fun j => if j = 0 then sk else if j = 1 then hd else if j = 2 then hp else if j = 3 then nu else if j = 4 then dy else dn
theorem twn_ne {T P : Nat} (hT : T ∈ TOWNS) (hP : P ∈ PUPS) : T + 2 ≠ P ∧ T + 2 ≠ P + 1 ∧ T + 2 ≠ T ∧ T + 2 ≠ T + 1 := by
  have : ∀ T ∈ TOWNS, ∀ P ∈ PUPS, T + 2 ≠ P ∧ T + 2 ≠ P + 1 ∧ T + 2 ≠ T ∧ T + 2 ≠ T + 1 := by decide
  exact this T hT P hP
set_option maxRecDepth 20000 in
set_option maxHeartbeats 1000000 in
theorem c_name {X : aXt × Value} {mi : Nat → Nat → Int32} {ml : Nat → Nat → Int64} {mr : Nat → Nat → Option Nat} (hM : MRok mr) {T P : Nat} {s hp : Int32} (hT : T ∈ TOWNS) (hP : P ∈ PUPS) (hs : aixn s 8 = true) : aCW X 1 55 [.ref T, .ref P, .int s, .int hp] (HD, mi, ml, mr) (fun r h' => ∃ m', r = none ∧ h' = (HD, m', ml, mr) ∧ (∀ k j, k ≠ T + 2 → m' k j = mi k j) ∧ ∀ j, j < 6 → m' (T + 2) j = nmF (mi (P + 1) s.toNatClampNeg) (mi (T + 1) s.toNatClampNeg) hp (mi P 1) (mi T 1) (mi P 2) j) := by
  refine cw_of (cd := cd_X5_name) (nL := 4) rfl rfl ?_
  show aWP _ _ (0, [some (.ref T), some (.ref P), some (.int s), some (.int hp)], [], (HD, mi, ml, mr)) _
  refine wp_steps 1 (t' := (1, [some (.ref T), some (.ref P), some (.int s), some (.int hp)], [.ref T], (HD, mi, ml, mr))) rfl ?_
  refine wp_getr rfl (shT hT) rfl (hM _ (mlT3 hT)) ?_
  refine wp_steps 2 (t' := (4, [some (.ref T), some (.ref P), some (.int s), some (.int hp)], [.ref P, .int 0, .ref (T + 2)], (HD, mi, ml, mr))) rfl ?_
  refine wp_getr rfl (shP hP) rfl (hM _ (mlP hP)) ?_
  refine wp_steps 1 (t' := (6, [some (.ref T), some (.ref P), some (.int s), some (.int hp)], [.int s, .ref (P + 1), .int 0, .ref (T + 2)], (HD, mi, ml, mr))) rfl ?_
  refine wp_iald rfl (shPs hP) hs ?_
  refine wp_iast rfl (shTn hT) (by decide) (fun m_1 h_2 => ?_)
  subst h_2
  refine wp_steps 1 (t' := (9, [some (.ref T), some (.ref P), some (.int s), some (.int hp)], [.ref T], (HD, (aup mi (T + 2) 0 (mi (P + 1) s.toNatClampNeg)), ml, mr))) rfl ?_
  refine wp_getr rfl (shT hT) rfl (hM _ (mlT3 hT)) ?_
  refine wp_steps 2 (t' := (12, [some (.ref T), some (.ref P), some (.int s), some (.int hp)], [.ref T, .int 1, .ref (T + 2)], (HD, (aup mi (T + 2) 0 (mi (P + 1) s.toNatClampNeg)), ml, mr))) rfl ?_
  refine wp_getr rfl (shT hT) rfl (hM _ (mlT0 hT)) ?_
  refine wp_steps 1 (t' := (14, [some (.ref T), some (.ref P), some (.int s), some (.int hp)], [.int s, .ref (T + 1), .int 1, .ref (T + 2)], (HD, (aup mi (T + 2) 0 (mi (P + 1) s.toNatClampNeg)), ml, mr))) rfl ?_
  refine wp_iald rfl (shTh hT) hs ?_
  refine wp_iast rfl (shTn hT) (by decide) (fun m_3 h_4 => ?_)
  subst h_4
  refine wp_steps 1 (t' := (17, [some (.ref T), some (.ref P), some (.int s), some (.int hp)], [.ref T], (HD, (aup (aup mi (T + 2) 0 (mi (P + 1) s.toNatClampNeg)) (T + 2) 1 ((aup mi (T + 2) 0 (mi (P + 1) s.toNatClampNeg)) (T + 1) s.toNatClampNeg)), ml, mr))) rfl ?_
  refine wp_getr rfl (shT hT) rfl (hM _ (mlT3 hT)) ?_
  refine wp_steps 2 (t' := (20, [some (.ref T), some (.ref P), some (.int s), some (.int hp)], [.int hp, .int 2, .ref (T + 2)], (HD, (aup (aup mi (T + 2) 0 (mi (P + 1) s.toNatClampNeg)) (T + 2) 1 ((aup mi (T + 2) 0 (mi (P + 1) s.toNatClampNeg)) (T + 1) s.toNatClampNeg)), ml, mr))) rfl ?_
  refine wp_iast rfl (shTn hT) (by decide) (fun m_5 h_6 => ?_)
  subst h_6
  refine wp_steps 1 (t' := (22, [some (.ref T), some (.ref P), some (.int s), some (.int hp)], [.ref T], (HD, (aup (aup (aup mi (T + 2) 0 (mi (P + 1) s.toNatClampNeg)) (T + 2) 1 ((aup mi (T + 2) 0 (mi (P + 1) s.toNatClampNeg)) (T + 1) s.toNatClampNeg)) (T + 2) 2 hp), ml, mr))) rfl ?_
  refine wp_getr rfl (shT hT) rfl (hM _ (mlT3 hT)) ?_
  refine wp_steps 2 (t' := (25, [some (.ref T), some (.ref P), some (.int s), some (.int hp)], [.ref P, .int 3, .ref (T + 2)], (HD, (aup (aup (aup mi (T + 2) 0 (mi (P + 1) s.toNatClampNeg)) (T + 2) 1 ((aup mi (T + 2) 0 (mi (P + 1) s.toNatClampNeg)) (T + 1) s.toNatClampNeg)) (T + 2) 2 hp), ml, mr))) rfl ?_
  refine wp_geti rfl (shP hP) (Or.inl rfl) ?_
  refine wp_iast rfl (shTn hT) (by decide) (fun m_7 h_8 => ?_)
  subst h_8
  refine wp_steps 1 (t' := (28, [some (.ref T), some (.ref P), some (.int s), some (.int hp)], [.ref T], (HD, (aup (aup (aup (aup mi (T + 2) 0 (mi (P + 1) s.toNatClampNeg)) (T + 2) 1 ((aup mi (T + 2) 0 (mi (P + 1) s.toNatClampNeg)) (T + 1) s.toNatClampNeg)) (T + 2) 2 hp) (T + 2) 3 ((aup (aup (aup mi (T + 2) 0 (mi (P + 1) s.toNatClampNeg)) (T + 2) 1 ((aup mi (T + 2) 0 (mi (P + 1) s.toNatClampNeg)) (T + 1) s.toNatClampNeg)) (T + 2) 2 hp) P 1)), ml, mr))) rfl ?_
  refine wp_getr rfl (shT hT) rfl (hM _ (mlT3 hT)) ?_
  refine wp_steps 2 (t' := (31, [some (.ref T), some (.ref P), some (.int s), some (.int hp)], [.ref T, .int 4, .ref (T + 2)], (HD, (aup (aup (aup (aup mi (T + 2) 0 (mi (P + 1) s.toNatClampNeg)) (T + 2) 1 ((aup mi (T + 2) 0 (mi (P + 1) s.toNatClampNeg)) (T + 1) s.toNatClampNeg)) (T + 2) 2 hp) (T + 2) 3 ((aup (aup (aup mi (T + 2) 0 (mi (P + 1) s.toNatClampNeg)) (T + 2) 1 ((aup mi (T + 2) 0 (mi (P + 1) s.toNatClampNeg)) (T + 1) s.toNatClampNeg)) (T + 2) 2 hp) P 1)), ml, mr))) rfl ?_
  refine wp_geti rfl (shT hT) (Or.inl rfl) ?_
  refine wp_iast rfl (shTn hT) (by decide) (fun m_9 h_10 => ?_)
  subst h_10
  refine wp_steps 1 (t' := (34, [some (.ref T), some (.ref P), some (.int s), some (.int hp)], [.ref T], (HD, (aup (aup (aup (aup (aup mi (T + 2) 0 (mi (P + 1) s.toNatClampNeg)) (T + 2) 1 ((aup mi (T + 2) 0 (mi (P + 1) s.toNatClampNeg)) (T + 1) s.toNatClampNeg)) (T + 2) 2 hp) (T + 2) 3 ((aup (aup (aup mi (T + 2) 0 (mi (P + 1) s.toNatClampNeg)) (T + 2) 1 ((aup mi (T + 2) 0 (mi (P + 1) s.toNatClampNeg)) (T + 1) s.toNatClampNeg)) (T + 2) 2 hp) P 1)) (T + 2) 4 ((aup (aup (aup (aup mi (T + 2) 0 (mi (P + 1) s.toNatClampNeg)) (T + 2) 1 ((aup mi (T + 2) 0 (mi (P + 1) s.toNatClampNeg)) (T + 1) s.toNatClampNeg)) (T + 2) 2 hp) (T + 2) 3 ((aup (aup (aup mi (T + 2) 0 (mi (P + 1) s.toNatClampNeg)) (T + 2) 1 ((aup mi (T + 2) 0 (mi (P + 1) s.toNatClampNeg)) (T + 1) s.toNatClampNeg)) (T + 2) 2 hp) P 1)) T 1)), ml, mr))) rfl ?_
  refine wp_getr rfl (shT hT) rfl (hM _ (mlT3 hT)) ?_
  refine wp_steps 2 (t' := (37, [some (.ref T), some (.ref P), some (.int s), some (.int hp)], [.ref P, .int 5, .ref (T + 2)], (HD, (aup (aup (aup (aup (aup mi (T + 2) 0 (mi (P + 1) s.toNatClampNeg)) (T + 2) 1 ((aup mi (T + 2) 0 (mi (P + 1) s.toNatClampNeg)) (T + 1) s.toNatClampNeg)) (T + 2) 2 hp) (T + 2) 3 ((aup (aup (aup mi (T + 2) 0 (mi (P + 1) s.toNatClampNeg)) (T + 2) 1 ((aup mi (T + 2) 0 (mi (P + 1) s.toNatClampNeg)) (T + 1) s.toNatClampNeg)) (T + 2) 2 hp) P 1)) (T + 2) 4 ((aup (aup (aup (aup mi (T + 2) 0 (mi (P + 1) s.toNatClampNeg)) (T + 2) 1 ((aup mi (T + 2) 0 (mi (P + 1) s.toNatClampNeg)) (T + 1) s.toNatClampNeg)) (T + 2) 2 hp) (T + 2) 3 ((aup (aup (aup mi (T + 2) 0 (mi (P + 1) s.toNatClampNeg)) (T + 2) 1 ((aup mi (T + 2) 0 (mi (P + 1) s.toNatClampNeg)) (T + 1) s.toNatClampNeg)) (T + 2) 2 hp) P 1)) T 1)), ml, mr))) rfl ?_
  refine wp_geti rfl (shP hP) (Or.inl rfl) ?_
  refine wp_iast rfl (shTn hT) (by decide) (fun m_11 h_12 => ?_)
  subst h_12
  refine wp_ret rfl rfl ⟨⟨Nat.le_refl _, Nat.le_refl _⟩, ?_⟩
  refine ⟨_, rfl, rfl, fun k j hk => ?_, fun j hj => ?_⟩
  · simp [aup, hk]
  · obtain ⟨e1, e2, e3, e4⟩ := twn_ne hT hP
    have : j = 0 ∨ j = 1 ∨ j = 2 ∨ j = 3 ∨ j = 4 ∨ j = 5 := by omega
    rcases this with rfl | rfl | rfl | rfl | rfl | rfl <;> simp [aup, nmF, e1.symm, e2.symm, e3.symm, e4.symm]
