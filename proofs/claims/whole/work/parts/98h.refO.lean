/-! the reference: copy (written by wip/whole/mkrefO.py) -/
theorem cp_up {f : Nat → Nat → Int32} {A B k : Nat} (h : B ≤ A ∨ A + k < B) : aup (acpy f 100 100 A B k) 100 (B + k) (acpy f 100 100 A B k 100 (A + k)) = acpy f 100 100 A B (k + 1) := by
  funext x y
  have e1 : acpy f 100 100 A B k 100 (A + k) = f 100 (A + k) := by
    unfold acpy
    rw [if_pos rfl]
    by_cases q : B ≤ A + k ∧ A + k < B + k
    · exact absurd q (by omega)
    · rw [if_neg q]
  rw [e1]
  unfold aup acpy
  by_cases e : x = 100
  · subst e
    simp only [if_pos]
    by_cases e2 : y = B + k
    · subst e2
      rw [if_pos rfl, if_pos ⟨by omega, by omega⟩, show B + k - B = k from by omega]
    · rw [if_neg e2]
      by_cases e3 : B ≤ y ∧ y < B + k
      · rw [if_pos e3, if_pos ⟨e3.1, by omega⟩]
      · rw [if_neg e3, if_neg (by omega)]
  · simp only [if_neg e]
theorem cp_dn {f : Nat → Nat → Int32} {A B k o : Nat} (h : A < B) : aup (acpy f 100 100 (A + (o + 1)) (B + (o + 1)) k) 100 (B + o) (acpy f 100 100 (A + (o + 1)) (B + (o + 1)) k 100 (A + o)) = acpy f 100 100 (A + o) (B + o) (k + 1) := by
  funext x y
  have e1 : acpy f 100 100 (A + (o + 1)) (B + (o + 1)) k 100 (A + o) = f 100 (A + o) := by
    unfold acpy
    rw [if_pos rfl]
    by_cases q : B + (o + 1) ≤ A + o ∧ A + o < B + (o + 1) + k
    · exact absurd q (by omega)
    · rw [if_neg q]
  rw [e1]
  unfold aup acpy
  by_cases e : x = 100
  · subst e
    simp only [if_pos]
    by_cases e2 : y = B + o
    · subst e2
      rw [if_pos rfl, if_pos ⟨by omega, by omega⟩, Nat.sub_self, Nat.add_zero]
    · rw [if_neg e2]
      by_cases e3 : B + (o + 1) ≤ y ∧ y < B + (o + 1) + k
      · rw [if_pos e3, if_pos ⟨by omega, by omega⟩, show A + (o + 1) + (y - (B + (o + 1))) = A + o + (y - (B + o)) from by omega]
      · rw [if_neg e3, if_neg (by omega)]
  · simp only [if_neg e]
theorem cp_0 {f : Nat → Nat → Int32} {A B : Nat} : acpy f 100 100 A B 0 = f := by
  funext x y
  unfold acpy
  by_cases e : x = 100
  · rw [if_pos e, if_neg (by omega)]
  · rw [if_neg e]
set_option maxRecDepth 20000 in
set_option maxHeartbeats 1000000 in
theorem l_rcp_up {X : aXt × Value} {mi : Nat → Nat → Int32} {ml : Nat → Nat → Int64} {mr : Nat → Nat → Option Nat} (hM : MRok mr) {s d : Nat} (hs4 : s < 4) (hd4 : d < 4) {a b n : Nat} (ha : a + n ≤ 40) (hb : b + n ≤ 40) (hw : 40 * d + b ≤ 40 * s + a ∨ 40 * s + a + n ≤ 40 * d + b) {Q : Option Value → aM → Prop} (hk : (∀ o8, aWP (aEx (aTb X) 2) cd_X7_copy (102, [some (.ref 84), some (.int (nI s)), some (.int (nI a)), some (.int (nI d)), some (.int (nI b)), some (.int (nI n)), some (.int 0), some (.int (nI n)), o8], [], (HD, (acpy mi 100 100 (40 * s + a) (40 * d + b) n), ml, mr)) Q)) : ∀ (g k : Nat) (o8 : Option Value), k + g = n → aWP (aEx (aTb X) 2) cd_X7_copy (67, [some (.ref 84), some (.int (nI s)), some (.int (nI a)), some (.int (nI d)), some (.int (nI b)), some (.int (nI n)), some (.int 0), some (.int (nI k)), o8], [], (HD, (acpy mi 100 100 (40 * s + a) (40 * d + b) k), ml, mr)) Q := by
  intro g
  induction g with
  | zero =>
    intro k o8 hg
    obtain rfl : k = n := by omega
    refine wp_steps 2 (t' := (69, [some (.ref 84), some (.int (nI s)), some (.int (nI a)), some (.int (nI d)), some (.int (nI b)), some (.int (nI k)), some (.int 0), some (.int (nI k)), o8], [.int (nI k), .int (nI k)], (HD, (acpy mi 100 100 (40 * s + a) (40 * d + b) k), ml, mr))) rfl ?_
    refine wp_bC rfl (fun c_1 => ?_) (fun c_1 => ?_)
    rotate_left
    · have c_1 : ¬ ((nI k) ≤ (nI k)) := of_decide_eq_false c_1
      exact absurd (Int32.le_refl _) c_1
    have c_1 : (nI k) ≤ (nI k) := of_decide_eq_true c_1
    exact hk o8
  | succ g ih =>
    intro k o8 hg
    have hkn : k < n := by omega
    refine wp_steps 2 (t' := (69, [some (.ref 84), some (.int (nI s)), some (.int (nI a)), some (.int (nI d)), some (.int (nI b)), some (.int (nI n)), some (.int 0), some (.int (nI k)), o8], [.int (nI n), .int (nI k)], (HD, (acpy mi 100 100 (40 * s + a) (40 * d + b) k), ml, mr))) rfl ?_
    refine wp_bC rfl (fun c_1 => ?_) (fun c_1 => ?_)
    · have c_1 : (nI n) ≤ (nI k) := of_decide_eq_true c_1
      exact absurd c_1 (nI_ge (a := k) (b := n) hkn (by omega))
    have c_1 : ¬ ((nI n) ≤ (nI k)) := of_decide_eq_false c_1
    refine wp_steps 1 (t' := (71, [some (.ref 84), some (.int (nI s)), some (.int (nI a)), some (.int (nI d)), some (.int (nI b)), some (.int (nI n)), some (.int 0), some (.int (nI k)), o8], [.int 0], (HD, (acpy mi 100 100 (40 * s + a) (40 * d + b) k), ml, mr))) rfl ?_
    refine wp_bI rfl (fun c_2 => ?_) (fun c_2 => ?_)
    rotate_left
    · have c_2 : ¬ ((0 : Int32) = 0) := of_decide_eq_false c_2
      exact absurd c_2 (by decide)
    have c_2 : (0 : Int32) = 0 := of_decide_eq_true c_2
    refine wp_steps 3 (t' := (81, [some (.ref 84), some (.int (nI s)), some (.int (nI a)), some (.int (nI d)), some (.int (nI b)), some (.int (nI n)), some (.int 0), some (.int (nI k)), some (.int (nI k))], [.ref 84], (HD, (acpy mi 100 100 (40 * s + a) (40 * d + b) k), ml, mr))) rfl ?_
    refine wp_getr rfl ⟨by decide, rfl⟩ rfl (hM (84, 40, 100) (by decide)) ?_
    refine wp_steps 3 (t' := (85, [some (.ref 84), some (.int (nI s)), some (.int (nI a)), some (.int (nI d)), some (.int (nI b)), some (.int (nI n)), some (.int 0), some (.int (nI k)), some (.int (nI k))], [.int (40 * (nI d)), .ref 100], (HD, (acpy mi 100 100 (40 * s + a) (40 * d + b) k), ml, mr))) rfl ?_
    rw [show (40 : Int32) * nI d = nI (40 * d) from (Int32.ofNat_mul 40 d).symm]
    refine wp_steps 2 (t' := (87, [some (.ref 84), some (.int (nI s)), some (.int (nI a)), some (.int (nI d)), some (.int (nI b)), some (.int (nI n)), some (.int 0), some (.int (nI k)), some (.int (nI k))], [.int ((nI (40 * d)) + (nI b)), .ref 100], (HD, (acpy mi 100 100 (40 * s + a) (40 * d + b) k), ml, mr))) rfl ?_
    rw [nI_add]
    refine wp_steps 2 (t' := (89, [some (.ref 84), some (.int (nI s)), some (.int (nI a)), some (.int (nI d)), some (.int (nI b)), some (.int (nI n)), some (.int 0), some (.int (nI k)), some (.int (nI k))], [.int ((nI (40 * d + b)) + (nI k)), .ref 100], (HD, (acpy mi 100 100 (40 * s + a) (40 * d + b) k), ml, mr))) rfl ?_
    rw [nI_add]
    refine wp_steps 1 (t' := (90, [some (.ref 84), some (.int (nI s)), some (.int (nI a)), some (.int (nI d)), some (.int (nI b)), some (.int (nI n)), some (.int 0), some (.int (nI k)), some (.int (nI k))], [.ref 84, .int (nI (40 * d + b + k)), .ref 100], (HD, (acpy mi 100 100 (40 * s + a) (40 * d + b) k), ml, mr))) rfl ?_
    refine wp_getr rfl ⟨by decide, rfl⟩ rfl (hM (84, 40, 100) (by decide)) ?_
    refine wp_steps 3 (t' := (94, [some (.ref 84), some (.int (nI s)), some (.int (nI a)), some (.int (nI d)), some (.int (nI b)), some (.int (nI n)), some (.int 0), some (.int (nI k)), some (.int (nI k))], [.int (40 * (nI s)), .ref 100, .int (nI (40 * d + b + k)), .ref 100], (HD, (acpy mi 100 100 (40 * s + a) (40 * d + b) k), ml, mr))) rfl ?_
    rw [show (40 : Int32) * nI s = nI (40 * s) from (Int32.ofNat_mul 40 s).symm]
    refine wp_steps 2 (t' := (96, [some (.ref 84), some (.int (nI s)), some (.int (nI a)), some (.int (nI d)), some (.int (nI b)), some (.int (nI n)), some (.int 0), some (.int (nI k)), some (.int (nI k))], [.int ((nI (40 * s)) + (nI a)), .ref 100, .int (nI (40 * d + b + k)), .ref 100], (HD, (acpy mi 100 100 (40 * s + a) (40 * d + b) k), ml, mr))) rfl ?_
    rw [nI_add]
    refine wp_steps 2 (t' := (98, [some (.ref 84), some (.int (nI s)), some (.int (nI a)), some (.int (nI d)), some (.int (nI b)), some (.int (nI n)), some (.int 0), some (.int (nI k)), some (.int (nI k))], [.int ((nI (40 * s + a)) + (nI k)), .ref 100, .int (nI (40 * d + b + k)), .ref 100], (HD, (acpy mi 100 100 (40 * s + a) (40 * d + b) k), ml, mr))) rfl ?_
    rw [nI_add]
    refine wp_iald rfl ⟨by decide, rfl⟩ (aix_nI (by omega) (by decide)) ?_
    rw [nI_clamp (n := 40 * s + a + k) (by omega)]
    refine wp_iast rfl ⟨by decide, rfl⟩ (aix_nI (by omega) (by decide)) (fun m_3 h_4 => ?_)
    subst h_4
    rw [nI_clamp (n := 40 * d + b + k) (by omega)]
    refine wp_steps 2 (t' := (67, [some (.ref 84), some (.int (nI s)), some (.int (nI a)), some (.int (nI d)), some (.int (nI b)), some (.int (nI n)), some (.int 0), some (.int ((nI k) + Int32.ofInt 1)), some (.int (nI k))], [], (HD, (aup (acpy mi 100 100 (40 * s + a) (40 * d + b) k) 100 (40 * d + b + k) ((acpy mi 100 100 (40 * s + a) (40 * d + b) k) 100 (40 * s + a + k))), ml, mr))) rfl ?_
    rw [inc_nI, cp_up (by omega)]
    exact ih (k + 1) _ (by omega)
set_option maxRecDepth 20000 in
set_option maxHeartbeats 1000000 in
theorem l_rcp_dn {X : aXt × Value} {mi : Nat → Nat → Int32} {ml : Nat → Nat → Int64} {mr : Nat → Nat → Option Nat} (hM : MRok mr) {s d : Nat} (hs4 : s < 4) (hd4 : d < 4) {a b n : Nat} (ha : a + n ≤ 40) (hb : b + n ≤ 40) (hw : 40 * s + a < 40 * d + b) {Q : Option Value → aM → Prop} (hk : (∀ o8, aWP (aEx (aTb X) 2) cd_X7_copy (102, [some (.ref 84), some (.int (nI s)), some (.int (nI a)), some (.int (nI d)), some (.int (nI b)), some (.int (nI n)), some (.int 1), some (.int (nI n)), o8], [], (HD, (acpy mi 100 100 (40 * s + a) (40 * d + b) n), ml, mr)) Q)) : ∀ (g k : Nat) (o8 : Option Value), k + g = n → aWP (aEx (aTb X) 2) cd_X7_copy (67, [some (.ref 84), some (.int (nI s)), some (.int (nI a)), some (.int (nI d)), some (.int (nI b)), some (.int (nI n)), some (.int 1), some (.int (nI k)), o8], [], (HD, (acpy mi 100 100 (40 * s + a + g) (40 * d + b + g) k), ml, mr)) Q := by
  intro g
  induction g with
  | zero =>
    intro k o8 hg
    obtain rfl : k = n := by omega
    refine wp_steps 2 (t' := (69, [some (.ref 84), some (.int (nI s)), some (.int (nI a)), some (.int (nI d)), some (.int (nI b)), some (.int (nI k)), some (.int 1), some (.int (nI k)), o8], [.int (nI k), .int (nI k)], (HD, (acpy mi 100 100 (40 * s + a + 0) (40 * d + b + 0) k), ml, mr))) rfl ?_
    refine wp_bC rfl (fun c_1 => ?_) (fun c_1 => ?_)
    rotate_left
    · have c_1 : ¬ ((nI k) ≤ (nI k)) := of_decide_eq_false c_1
      exact absurd (Int32.le_refl _) c_1
    have c_1 : (nI k) ≤ (nI k) := of_decide_eq_true c_1
    exact hk o8
  | succ g ih =>
    intro k o8 hg
    have hkn : k < n := by omega
    refine wp_steps 2 (t' := (69, [some (.ref 84), some (.int (nI s)), some (.int (nI a)), some (.int (nI d)), some (.int (nI b)), some (.int (nI n)), some (.int 1), some (.int (nI k)), o8], [.int (nI n), .int (nI k)], (HD, (acpy mi 100 100 (40 * s + a + (g + 1)) (40 * d + b + (g + 1)) k), ml, mr))) rfl ?_
    refine wp_bC rfl (fun c_1 => ?_) (fun c_1 => ?_)
    · have c_1 : (nI n) ≤ (nI k) := of_decide_eq_true c_1
      exact absurd c_1 (nI_ge (a := k) (b := n) hkn (by omega))
    have c_1 : ¬ ((nI n) ≤ (nI k)) := of_decide_eq_false c_1
    refine wp_steps 1 (t' := (71, [some (.ref 84), some (.int (nI s)), some (.int (nI a)), some (.int (nI d)), some (.int (nI b)), some (.int (nI n)), some (.int 1), some (.int (nI k)), o8], [.int 1], (HD, (acpy mi 100 100 (40 * s + a + (g + 1)) (40 * d + b + (g + 1)) k), ml, mr))) rfl ?_
    refine wp_bI rfl (fun c_2 => ?_) (fun c_2 => ?_)
    · have c_2 : (1 : Int32) = 0 := of_decide_eq_true c_2
      exact absurd c_2 (by decide)
    have c_2 : ¬ ((1 : Int32) = 0) := of_decide_eq_false c_2
    refine wp_steps 5 (t' := (77, [some (.ref 84), some (.int (nI s)), some (.int (nI a)), some (.int (nI d)), some (.int (nI b)), some (.int (nI n)), some (.int 1), some (.int (nI k)), o8], [.int (((nI n) - 1) - (nI k))], (HD, (acpy mi 100 100 (40 * s + a + (g + 1)) (40 * d + b + (g + 1)) k), ml, mr))) rfl ?_
    rw [show nI n - 1 - nI k = nI g from by rw [show (1 : Int32) = nI 1 from rfl, nI_sb (by omega), nI_sb (by omega)]; exact congrArg nI (by omega)]
    refine wp_steps 3 (t' := (81, [some (.ref 84), some (.int (nI s)), some (.int (nI a)), some (.int (nI d)), some (.int (nI b)), some (.int (nI n)), some (.int 1), some (.int (nI k)), some (.int (nI g))], [.ref 84], (HD, (acpy mi 100 100 (40 * s + a + (g + 1)) (40 * d + b + (g + 1)) k), ml, mr))) rfl ?_
    refine wp_getr rfl ⟨by decide, rfl⟩ rfl (hM (84, 40, 100) (by decide)) ?_
    refine wp_steps 3 (t' := (85, [some (.ref 84), some (.int (nI s)), some (.int (nI a)), some (.int (nI d)), some (.int (nI b)), some (.int (nI n)), some (.int 1), some (.int (nI k)), some (.int (nI g))], [.int (40 * (nI d)), .ref 100], (HD, (acpy mi 100 100 (40 * s + a + (g + 1)) (40 * d + b + (g + 1)) k), ml, mr))) rfl ?_
    rw [show (40 : Int32) * nI d = nI (40 * d) from (Int32.ofNat_mul 40 d).symm]
    refine wp_steps 2 (t' := (87, [some (.ref 84), some (.int (nI s)), some (.int (nI a)), some (.int (nI d)), some (.int (nI b)), some (.int (nI n)), some (.int 1), some (.int (nI k)), some (.int (nI g))], [.int ((nI (40 * d)) + (nI b)), .ref 100], (HD, (acpy mi 100 100 (40 * s + a + (g + 1)) (40 * d + b + (g + 1)) k), ml, mr))) rfl ?_
    rw [nI_add]
    refine wp_steps 2 (t' := (89, [some (.ref 84), some (.int (nI s)), some (.int (nI a)), some (.int (nI d)), some (.int (nI b)), some (.int (nI n)), some (.int 1), some (.int (nI k)), some (.int (nI g))], [.int ((nI (40 * d + b)) + (nI g)), .ref 100], (HD, (acpy mi 100 100 (40 * s + a + (g + 1)) (40 * d + b + (g + 1)) k), ml, mr))) rfl ?_
    rw [nI_add]
    refine wp_steps 1 (t' := (90, [some (.ref 84), some (.int (nI s)), some (.int (nI a)), some (.int (nI d)), some (.int (nI b)), some (.int (nI n)), some (.int 1), some (.int (nI k)), some (.int (nI g))], [.ref 84, .int (nI (40 * d + b + g)), .ref 100], (HD, (acpy mi 100 100 (40 * s + a + (g + 1)) (40 * d + b + (g + 1)) k), ml, mr))) rfl ?_
    refine wp_getr rfl ⟨by decide, rfl⟩ rfl (hM (84, 40, 100) (by decide)) ?_
    refine wp_steps 3 (t' := (94, [some (.ref 84), some (.int (nI s)), some (.int (nI a)), some (.int (nI d)), some (.int (nI b)), some (.int (nI n)), some (.int 1), some (.int (nI k)), some (.int (nI g))], [.int (40 * (nI s)), .ref 100, .int (nI (40 * d + b + g)), .ref 100], (HD, (acpy mi 100 100 (40 * s + a + (g + 1)) (40 * d + b + (g + 1)) k), ml, mr))) rfl ?_
    rw [show (40 : Int32) * nI s = nI (40 * s) from (Int32.ofNat_mul 40 s).symm]
    refine wp_steps 2 (t' := (96, [some (.ref 84), some (.int (nI s)), some (.int (nI a)), some (.int (nI d)), some (.int (nI b)), some (.int (nI n)), some (.int 1), some (.int (nI k)), some (.int (nI g))], [.int ((nI (40 * s)) + (nI a)), .ref 100, .int (nI (40 * d + b + g)), .ref 100], (HD, (acpy mi 100 100 (40 * s + a + (g + 1)) (40 * d + b + (g + 1)) k), ml, mr))) rfl ?_
    rw [nI_add]
    refine wp_steps 2 (t' := (98, [some (.ref 84), some (.int (nI s)), some (.int (nI a)), some (.int (nI d)), some (.int (nI b)), some (.int (nI n)), some (.int 1), some (.int (nI k)), some (.int (nI g))], [.int ((nI (40 * s + a)) + (nI g)), .ref 100, .int (nI (40 * d + b + g)), .ref 100], (HD, (acpy mi 100 100 (40 * s + a + (g + 1)) (40 * d + b + (g + 1)) k), ml, mr))) rfl ?_
    rw [nI_add]
    refine wp_iald rfl ⟨by decide, rfl⟩ (aix_nI (by omega) (by decide)) ?_
    rw [nI_clamp (n := 40 * s + a + g) (by omega)]
    refine wp_iast rfl ⟨by decide, rfl⟩ (aix_nI (by omega) (by decide)) (fun m_3 h_4 => ?_)
    subst h_4
    rw [nI_clamp (n := 40 * d + b + g) (by omega)]
    refine wp_steps 2 (t' := (67, [some (.ref 84), some (.int (nI s)), some (.int (nI a)), some (.int (nI d)), some (.int (nI b)), some (.int (nI n)), some (.int 1), some (.int ((nI k) + Int32.ofInt 1)), some (.int (nI g))], [], (HD, (aup (acpy mi 100 100 (40 * s + a + (g + 1)) (40 * d + b + (g + 1)) k) 100 (40 * d + b + g) ((acpy mi 100 100 (40 * s + a + (g + 1)) (40 * d + b + (g + 1)) k) 100 (40 * s + a + g))), ml, mr))) rfl ?_
    rw [inc_nI, cp_dn (by omega)]
    exact ih (k + 1) _ (by omega)
theorem nn_eq {x : Int32} (h : ¬ x < 0) (h2 : x.toNatClampNeg ≤ 40) : x = nI x.toNatClampNeg := by
  rw [Int32.lt_iff_toInt_lt, show (0 : Int32).toInt = 0 from rfl] at h
  have e : x.toNatClampNeg = x.toInt.toNat := rfl
  exact Int32.toInt_inj.mp (by rw [nI_toInt (by omega), e]; omega)
theorem sub_w {Z : Nat} (hZ : Z ≤ 40) {n : Int32} (hn : ¬ n.toInt < 0) : (nI Z - n).toInt = (Z : Int) - n.toInt := by
  have b := Int32.toInt_lt n
  rw [Int32.toInt_sub, nI_toInt (by omega)]
  exact Int.bmod_eq_of_le (by omega) (by omega)
theorem rc_I {Z : Nat} (hZ : Z ≤ 40) {i n : Int32} (hi : ¬ i < 0) (hn : ¬ n < 0) : i ≤ nI Z - n ↔ i.toNatClampNeg + n.toNatClampNeg ≤ Z := by
  rw [Int32.lt_iff_toInt_lt, show (0 : Int32).toInt = 0 from rfl] at hi hn
  have e1 : i.toNatClampNeg = i.toInt.toNat := rfl
  have e2 : n.toNatClampNeg = n.toInt.toNat := rfl
  rw [Int32.le_iff_toInt_le, sub_w hZ hn, e1, e2]
  omega
theorem hrF_n {Z : Nat} (hZ : Z ≤ 40) {i n : Int32} : hrF (nI Z) i n = 0 ↔ ¬ (¬ i < 0 ∧ ¬ n < 0 ∧ i.toNatClampNeg + n.toNatClampNeg ≤ Z) := by
  constructor
  · rintro h ⟨z1, z2, z3⟩
    unfold hrF at h
    rw [if_neg z1, if_neg z2] at h
    have q1 : i.toNatClampNeg + (0 : Int32).toNatClampNeg ≤ Z := by
      have : (0 : Int32).toNatClampNeg = 0 := rfl
      omega
    have q := (rc_I hZ z1 z2).mpr z3
    rw [Int32.lt_iff_toInt_lt, show (0 : Int32).toInt = 0 from rfl] at z1 z2
    have e1 : i.toNatClampNeg = i.toInt.toNat := rfl
    have e2 : n.toNatClampNeg = n.toInt.toNat := rfl
    have t := sub_w hZ z1
    rw [if_neg (by rw [Int32.lt_iff_toInt_lt, nI_toInt (by omega)]; omega), if_neg (by rw [Int32.lt_iff_toInt_lt, t]; omega)] at h
    exact absurd h (by decide)
  · intro h
    by_cases e : hrF (nI Z) i n = 0
    · exact e
    · exact absurd (hrF_ok rfl hZ e) h
set_option maxRecDepth 20000 in
set_option maxHeartbeats 1000000 in
theorem r_copy_no1 {X : aXt × Value} {mi : Nat → Nat → Int32} {ml : Nat → Nat → Int64} {mr : Nat → Nat → Option Nat} (hM : MRok mr) {sh i s2 j n : Int32} (hg : ¬ aixn sh 4 = true) : aCW X 3 212 [.ref 84, .int sh, .int i, .int s2, .int j, .int n] (HD, mi, ml, mr) (fun r h' => r = some (.int (-2)) ∧ h' = (HD, mi, ml, mr)) := by
  refine cw_of (cd := cd_X7_copy) (nL := 9) rfl rfl ?_
  show aWP _ _ (0, [some (.ref 84), some (.int sh), some (.int i), some (.int s2), some (.int j), some (.int n), none, none, none], [], (HD, mi, ml, mr)) _
  refine wp_steps 1 (t' := (1, [some (.ref 84), some (.int sh), some (.int i), some (.int s2), some (.int j), some (.int n), none, none, none], [.int sh], (HD, mi, ml, mr))) rfl ?_
  refine wp_cal (as := [.int sh]) rfl rfl rfl (Nat.le_of_ble_eq_true rfl) ((c_isSheet_x (ml := ml) (mr := mr) hg)) (by decide) ?_
  rintro _ _ ⟨rfl, rfl⟩
  show aWP _ _ (2, [some (.ref 84), some (.int sh), some (.int i), some (.int s2), some (.int j), some (.int n), none, none, none], [.int 0], (HD, mi, ml, mr)) _
  refine wp_bI rfl (fun c_1 => ?_) (fun c_1 => ?_)
  rotate_left
  · have c_1 : ¬ ((0 : Int32) = 0) := of_decide_eq_false c_1
    exact absurd c_1 (by decide)
  have c_1 : (0 : Int32) = 0 := of_decide_eq_true c_1
  refine wp_steps 1 (t' := (7, [some (.ref 84), some (.int sh), some (.int i), some (.int s2), some (.int j), some (.int n), none, none, none], [.int (-2)], (HD, mi, ml, mr))) rfl ?_
  refine wp_ret rfl rfl ⟨⟨Nat.le_refl _, Nat.le_refl _⟩, ?_⟩
  exact ⟨rfl, rfl⟩
set_option maxRecDepth 20000 in
set_option maxHeartbeats 1000000 in
theorem r_copy_no2 {X : aXt × Value} {mi : Nat → Nat → Int32} {ml : Nat → Nat → Int64} {mr : Nat → Nat → Option Nat} (hM : MRok mr) {s : Nat} (hs4 : s < 4) {i s2 j n : Int32} (hg : ¬ aixn s2 4 = true) : aCW X 3 212 [.ref 84, .int (nI s), .int i, .int s2, .int j, .int n] (HD, mi, ml, mr) (fun r h' => r = some (.int (-2)) ∧ h' = (HD, mi, ml, mr)) := by
  refine cw_of (cd := cd_X7_copy) (nL := 9) rfl rfl ?_
  show aWP _ _ (0, [some (.ref 84), some (.int (nI s)), some (.int i), some (.int s2), some (.int j), some (.int n), none, none, none], [], (HD, mi, ml, mr)) _
  refine wp_steps 1 (t' := (1, [some (.ref 84), some (.int (nI s)), some (.int i), some (.int s2), some (.int j), some (.int n), none, none, none], [.int (nI s)], (HD, mi, ml, mr))) rfl ?_
  refine wp_cal (as := [.int (nI s)]) rfl rfl rfl (Nat.le_of_ble_eq_true rfl) ((c_isSheet_n (ml := ml) (mr := mr) hs4)) (by decide) ?_
  rintro _ _ ⟨rfl, rfl⟩
  show aWP _ _ (2, [some (.ref 84), some (.int (nI s)), some (.int i), some (.int s2), some (.int j), some (.int n), none, none, none], [.int 1], (HD, mi, ml, mr)) _
  refine wp_bI rfl (fun c_1 => ?_) (fun c_1 => ?_)
  · have c_1 : (1 : Int32) = 0 := of_decide_eq_true c_1
    exact absurd c_1 (by decide)
  have c_1 : ¬ ((1 : Int32) = 0) := of_decide_eq_false c_1
  refine wp_steps 1 (t' := (4, [some (.ref 84), some (.int (nI s)), some (.int i), some (.int s2), some (.int j), some (.int n), none, none, none], [.int s2], (HD, mi, ml, mr))) rfl ?_
  refine wp_cal (as := [.int s2]) rfl rfl rfl (Nat.le_of_ble_eq_true rfl) ((c_isSheet_x (ml := ml) (mr := mr) hg)) (by decide) ?_
  rintro _ _ ⟨rfl, rfl⟩
  show aWP _ _ (5, [some (.ref 84), some (.int (nI s)), some (.int i), some (.int s2), some (.int j), some (.int n), none, none, none], [.int 0], (HD, mi, ml, mr)) _
  refine wp_bI rfl (fun c_2 => ?_) (fun c_2 => ?_)
  · have c_2 : ¬ (0 : Int32) = 0 := of_decide_eq_true c_2
    exact absurd c_2 (by decide)
  have c_2 : (0 : Int32) = 0 := Decidable.not_not.mp (of_decide_eq_false c_2)
  refine wp_steps 1 (t' := (7, [some (.ref 84), some (.int (nI s)), some (.int i), some (.int s2), some (.int j), some (.int n), none, none, none], [.int (-2)], (HD, mi, ml, mr))) rfl ?_
  refine wp_ret rfl rfl ⟨⟨Nat.le_refl _, Nat.le_refl _⟩, ?_⟩
  exact ⟨rfl, rfl⟩
set_option maxRecDepth 20000 in
set_option maxHeartbeats 1000000 in
theorem r_copy_ok {X : aXt × Value} {mi : Nat → Nat → Int32} {ml : Nat → Nat → Int64} {mr : Nat → Nat → Option Nat} (hM : MRok mr) {s d : Nat} (hs4 : s < 4) (hd4 : d < 4) {Z Z2 : Nat} (hz : mi 99 s = nI Z) (hZ : Z ≤ 40) (hz2 : mi 99 d = nI Z2) (hZ2 : Z2 ≤ 40) {i j n : Int32} : aCW X 3 212 [.ref 84, .int (nI s), .int i, .int (nI d), .int j, .int n] (HD, mi, ml, mr) (fun r h' => r = some (.int (if mi 97 s = 0 ∨ mi 97 d = 0 then -11 else if mi 98 s = mi 98 d then (if hrF (nI Z) i n = 0 ∨ hrF (nI Z2) j n = 0 then -12 else n) else -13)) ∧ h' = (HD, if mi 97 s = 0 ∨ mi 97 d = 0 then mi else if mi 98 s = mi 98 d then (if hrF (nI Z) i n = 0 ∨ hrF (nI Z2) j n = 0 then mi else (acpy mi 100 100 (40 * s + i.toNatClampNeg) (40 * d + j.toNatClampNeg) n.toNatClampNeg)) else mi, ml, mr)) := by
  refine cw_of (cd := cd_X7_copy) (nL := 9) rfl rfl ?_
  show aWP _ _ (0, [some (.ref 84), some (.int (nI s)), some (.int i), some (.int (nI d)), some (.int j), some (.int n), none, none, none], [], (HD, mi, ml, mr)) _
  refine wp_steps 1 (t' := (1, [some (.ref 84), some (.int (nI s)), some (.int i), some (.int (nI d)), some (.int j), some (.int n), none, none, none], [.int (nI s)], (HD, mi, ml, mr))) rfl ?_
  refine wp_cal (as := [.int (nI s)]) rfl rfl rfl (Nat.le_of_ble_eq_true rfl) ((c_isSheet_n (ml := ml) (mr := mr) hs4)) (by decide) ?_
  rintro _ _ ⟨rfl, rfl⟩
  show aWP _ _ (2, [some (.ref 84), some (.int (nI s)), some (.int i), some (.int (nI d)), some (.int j), some (.int n), none, none, none], [.int 1], (HD, mi, ml, mr)) _
  refine wp_bI rfl (fun c_1 => ?_) (fun c_1 => ?_)
  · have c_1 : (1 : Int32) = 0 := of_decide_eq_true c_1
    exact absurd c_1 (by decide)
  have c_1 : ¬ ((1 : Int32) = 0) := of_decide_eq_false c_1
  refine wp_steps 1 (t' := (4, [some (.ref 84), some (.int (nI s)), some (.int i), some (.int (nI d)), some (.int j), some (.int n), none, none, none], [.int (nI d)], (HD, mi, ml, mr))) rfl ?_
  refine wp_cal (as := [.int (nI d)]) rfl rfl rfl (Nat.le_of_ble_eq_true rfl) ((c_isSheet_n (ml := ml) (mr := mr) hd4)) (by decide) ?_
  rintro _ _ ⟨rfl, rfl⟩
  show aWP _ _ (5, [some (.ref 84), some (.int (nI s)), some (.int i), some (.int (nI d)), some (.int j), some (.int n), none, none, none], [.int 1], (HD, mi, ml, mr)) _
  refine wp_bI rfl (fun c_2 => ?_) (fun c_2 => ?_)
  rotate_left
  · have c_2 : (1 : Int32) = 0 := Decidable.not_not.mp (of_decide_eq_false c_2)
    exact absurd c_2 (by decide)
  have c_2 : ¬ (1 : Int32) = 0 := of_decide_eq_true c_2
  refine wp_steps 1 (t' := (9, [some (.ref 84), some (.int (nI s)), some (.int i), some (.int (nI d)), some (.int j), some (.int n), none, none, none], [.ref 84], (HD, mi, ml, mr))) rfl ?_
  refine wp_getr rfl ⟨by decide, rfl⟩ rfl (hM (84, 37, 97) (by decide)) ?_
  refine wp_steps 1 (t' := (11, [some (.ref 84), some (.int (nI s)), some (.int i), some (.int (nI d)), some (.int j), some (.int n), none, none, none], [.int (nI s), .ref 97], (HD, mi, ml, mr))) rfl ?_
  refine wp_zald rfl ⟨by decide, rfl⟩ (aix_nI hs4 (by decide)) ?_
  rw [nI_clamp (n := s) (by omega)]
  refine wp_bI rfl (fun c_3 => ?_) (fun c_3 => ?_)
  · have c_3 : (mi 97 s) = 0 := of_decide_eq_true c_3
    refine wp_steps 1 (t' := (19, [some (.ref 84), some (.int (nI s)), some (.int i), some (.int (nI d)), some (.int j), some (.int n), none, none, none], [.int (-11)], (HD, mi, ml, mr))) rfl ?_
    refine wp_ret rfl rfl ⟨⟨Nat.le_refl _, Nat.le_refl _⟩, ?_⟩
    exact ⟨by rw [if_pos (Or.inl c_3)], by rw [if_pos (Or.inl c_3)]⟩
  · have c_3 : ¬ ((mi 97 s) = 0) := of_decide_eq_false c_3
    refine wp_steps 1 (t' := (14, [some (.ref 84), some (.int (nI s)), some (.int i), some (.int (nI d)), some (.int j), some (.int n), none, none, none], [.ref 84], (HD, mi, ml, mr))) rfl ?_
    refine wp_getr rfl ⟨by decide, rfl⟩ rfl (hM (84, 37, 97) (by decide)) ?_
    refine wp_steps 1 (t' := (16, [some (.ref 84), some (.int (nI s)), some (.int i), some (.int (nI d)), some (.int j), some (.int n), none, none, none], [.int (nI d), .ref 97], (HD, mi, ml, mr))) rfl ?_
    refine wp_zald rfl ⟨by decide, rfl⟩ (aix_nI hd4 (by decide)) ?_
    rw [nI_clamp (n := d) (by omega)]
    refine wp_bI rfl (fun c_4 => ?_) (fun c_4 => ?_)
    · have c_4 : ¬ (mi 97 d) = 0 := of_decide_eq_true c_4
      refine wp_steps 1 (t' := (21, [some (.ref 84), some (.int (nI s)), some (.int i), some (.int (nI d)), some (.int j), some (.int n), none, none, none], [.ref 84], (HD, mi, ml, mr))) rfl ?_
      refine wp_getr rfl ⟨by decide, rfl⟩ rfl (hM (84, 38, 98) (by decide)) ?_
      refine wp_steps 1 (t' := (23, [some (.ref 84), some (.int (nI s)), some (.int i), some (.int (nI d)), some (.int j), some (.int n), none, none, none], [.int (nI s), .ref 98], (HD, mi, ml, mr))) rfl ?_
      refine wp_iald rfl ⟨by decide, rfl⟩ (aix_nI hs4 (by decide)) ?_
      rw [nI_clamp (n := s) (by omega)]
      refine wp_steps 1 (t' := (25, [some (.ref 84), some (.int (nI s)), some (.int i), some (.int (nI d)), some (.int j), some (.int n), none, none, none], [.ref 84, .int (mi 98 s)], (HD, mi, ml, mr))) rfl ?_
      refine wp_getr rfl ⟨by decide, rfl⟩ rfl (hM (84, 38, 98) (by decide)) ?_
      refine wp_steps 1 (t' := (27, [some (.ref 84), some (.int (nI s)), some (.int i), some (.int (nI d)), some (.int j), some (.int n), none, none, none], [.int (nI d), .ref 98, .int (mi 98 s)], (HD, mi, ml, mr))) rfl ?_
      refine wp_iald rfl ⟨by decide, rfl⟩ (aix_nI hd4 (by decide)) ?_
      rw [nI_clamp (n := d) (by omega)]
      refine wp_bC rfl (fun c_5 => ?_) (fun c_5 => ?_)
      · have c_5 : (mi 98 s) = (mi 98 d) := of_decide_eq_true c_5
        refine wp_steps 1 (t' := (32, [some (.ref 84), some (.int (nI s)), some (.int i), some (.int (nI d)), some (.int j), some (.int n), none, none, none], [.int n], (HD, mi, ml, mr))) rfl ?_
        refine wp_bI rfl (fun c_6 => ?_) (fun c_6 => ?_)
        · have c_6 : n < 0 := of_decide_eq_true c_6
          refine wp_steps 1 (t' := (54, [some (.ref 84), some (.int (nI s)), some (.int i), some (.int (nI d)), some (.int j), some (.int n), none, none, none], [.int (-12)], (HD, mi, ml, mr))) rfl ?_
          refine wp_ret rfl rfl ⟨⟨Nat.le_refl _, Nat.le_refl _⟩, ?_⟩
          exact ⟨by rw [if_neg (fun z => z.elim c_3 c_4), if_pos c_5, if_pos (Or.inl ((hrF_n hZ).mpr (fun z => z.2.1 c_6)))], by rw [if_neg (fun z => z.elim c_3 c_4), if_pos c_5, if_pos (Or.inl ((hrF_n hZ).mpr (fun z => z.2.1 c_6)))]⟩
        · have c_6 : ¬ (n < 0) := of_decide_eq_false c_6
          refine wp_steps 1 (t' := (34, [some (.ref 84), some (.int (nI s)), some (.int i), some (.int (nI d)), some (.int j), some (.int n), none, none, none], [.int i], (HD, mi, ml, mr))) rfl ?_
          refine wp_bI rfl (fun c_7 => ?_) (fun c_7 => ?_)
          · have c_7 : i < 0 := of_decide_eq_true c_7
            refine wp_steps 1 (t' := (54, [some (.ref 84), some (.int (nI s)), some (.int i), some (.int (nI d)), some (.int j), some (.int n), none, none, none], [.int (-12)], (HD, mi, ml, mr))) rfl ?_
            refine wp_ret rfl rfl ⟨⟨Nat.le_refl _, Nat.le_refl _⟩, ?_⟩
            exact ⟨by rw [if_neg (fun z => z.elim c_3 c_4), if_pos c_5, if_pos (Or.inl ((hrF_n hZ).mpr (fun z => z.1 c_7)))], by rw [if_neg (fun z => z.elim c_3 c_4), if_pos c_5, if_pos (Or.inl ((hrF_n hZ).mpr (fun z => z.1 c_7)))]⟩
          · have c_7 : ¬ (i < 0) := of_decide_eq_false c_7
            refine wp_steps 1 (t' := (36, [some (.ref 84), some (.int (nI s)), some (.int i), some (.int (nI d)), some (.int j), some (.int n), none, none, none], [.int j], (HD, mi, ml, mr))) rfl ?_
            refine wp_bI rfl (fun c_8 => ?_) (fun c_8 => ?_)
            · have c_8 : j < 0 := of_decide_eq_true c_8
              refine wp_steps 1 (t' := (54, [some (.ref 84), some (.int (nI s)), some (.int i), some (.int (nI d)), some (.int j), some (.int n), none, none, none], [.int (-12)], (HD, mi, ml, mr))) rfl ?_
              refine wp_ret rfl rfl ⟨⟨Nat.le_refl _, Nat.le_refl _⟩, ?_⟩
              exact ⟨by rw [if_neg (fun z => z.elim c_3 c_4), if_pos c_5, if_pos (Or.inr ((hrF_n hZ2).mpr (fun z => z.1 c_8)))], by rw [if_neg (fun z => z.elim c_3 c_4), if_pos c_5, if_pos (Or.inr ((hrF_n hZ2).mpr (fun z => z.1 c_8)))]⟩
            · have c_8 : ¬ (j < 0) := of_decide_eq_false c_8
              refine wp_steps 2 (t' := (39, [some (.ref 84), some (.int (nI s)), some (.int i), some (.int (nI d)), some (.int j), some (.int n), none, none, none], [.ref 84, .int i], (HD, mi, ml, mr))) rfl ?_
              refine wp_getr rfl ⟨by decide, rfl⟩ rfl (hM (84, 39, 99) (by decide)) ?_
              refine wp_steps 1 (t' := (41, [some (.ref 84), some (.int (nI s)), some (.int i), some (.int (nI d)), some (.int j), some (.int n), none, none, none], [.int (nI s), .ref 99, .int i], (HD, mi, ml, mr))) rfl ?_
              refine wp_iald rfl ⟨by decide, rfl⟩ (aix_nI hs4 (by decide)) ?_
              rw [nI_clamp (n := s) (by omega)]
              rw [hz]
              refine wp_steps 2 (t' := (44, [some (.ref 84), some (.int (nI s)), some (.int i), some (.int (nI d)), some (.int j), some (.int n), none, none, none], [.int ((nI Z) - n), .int i], (HD, mi, ml, mr))) rfl ?_
              refine wp_bC rfl (fun c_9 => ?_) (fun c_9 => ?_)
              · have c_9 : ((nI Z) - n) < i := of_decide_eq_true c_9
                refine wp_steps 1 (t' := (54, [some (.ref 84), some (.int (nI s)), some (.int i), some (.int (nI d)), some (.int j), some (.int n), none, none, none], [.int (-12)], (HD, mi, ml, mr))) rfl ?_
                refine wp_ret rfl rfl ⟨⟨Nat.le_refl _, Nat.le_refl _⟩, ?_⟩
                exact ⟨by rw [if_neg (fun z => z.elim c_3 c_4), if_pos c_5, if_pos (Or.inl ((hrF_n hZ).mpr (fun z => Int32.not_le.mpr c_9 ((rc_I hZ z.1 z.2.1).mpr z.2.2))))], by rw [if_neg (fun z => z.elim c_3 c_4), if_pos c_5, if_pos (Or.inl ((hrF_n hZ).mpr (fun z => Int32.not_le.mpr c_9 ((rc_I hZ z.1 z.2.1).mpr z.2.2))))]⟩
              · have c_9 : ¬ (((nI Z) - n) < i) := of_decide_eq_false c_9
                refine wp_steps 2 (t' := (47, [some (.ref 84), some (.int (nI s)), some (.int i), some (.int (nI d)), some (.int j), some (.int n), none, none, none], [.ref 84, .int j], (HD, mi, ml, mr))) rfl ?_
                refine wp_getr rfl ⟨by decide, rfl⟩ rfl (hM (84, 39, 99) (by decide)) ?_
                refine wp_steps 1 (t' := (49, [some (.ref 84), some (.int (nI s)), some (.int i), some (.int (nI d)), some (.int j), some (.int n), none, none, none], [.int (nI d), .ref 99, .int j], (HD, mi, ml, mr))) rfl ?_
                refine wp_iald rfl ⟨by decide, rfl⟩ (aix_nI hd4 (by decide)) ?_
                rw [nI_clamp (n := d) (by omega)]
                rw [hz2]
                refine wp_steps 2 (t' := (52, [some (.ref 84), some (.int (nI s)), some (.int i), some (.int (nI d)), some (.int j), some (.int n), none, none, none], [.int ((nI Z2) - n), .int j], (HD, mi, ml, mr))) rfl ?_
                refine wp_bC rfl (fun c_10 => ?_) (fun c_10 => ?_)
                · have c_10 : j ≤ ((nI Z2) - n) := of_decide_eq_true c_10
                  refine wp_steps 2 (t' := (57, [some (.ref 84), some (.int (nI s)), some (.int i), some (.int (nI d)), some (.int j), some (.int n), none, none, none], [.int (nI d), .int (nI s)], (HD, mi, ml, mr))) rfl ?_
                  refine wp_bC rfl (fun c_11 => ?_) (fun c_11 => ?_)
                  · have c_11 : ¬ (nI s) = (nI d) := of_decide_eq_true c_11
                    refine wp_steps 4 (t' := (67, [some (.ref 84), some (.int (nI s)), some (.int i), some (.int (nI d)), some (.int j), some (.int n), some (.int 0), some (.int 0), none], [], (HD, mi, ml, mr))) rfl ?_
                    have a1 := (rc_I hZ c_7 c_6).mp (Int32.not_lt.mp c_9)
                    have a2 := (rc_I hZ2 c_8 c_6).mp c_10
                    have ei := nn_eq c_7 (by omega)
                    have ej := nn_eq c_8 (by omega)
                    have en := nn_eq c_6 (by omega)
                    have hsd : s ≠ d := fun z => c_11 (by rw [z])
                    have hw : 40 * d + j.toNatClampNeg ≤ 40 * s + i.toNatClampNeg ∨ 40 * s + i.toNatClampNeg + n.toNatClampNeg ≤ 40 * d + j.toNatClampNeg := by omega
                    suffices hh : aWP (aEx (aTb X) 2) cd_X7_copy (67, [some (.ref 84), some (.int (nI s)), some (.int (nI i.toNatClampNeg)), some (.int (nI d)), some (.int (nI j.toNatClampNeg)), some (.int (nI n.toNatClampNeg)), some (.int 0), some (.int 0), none], [], (HD, (acpy mi 100 100 (40 * s + i.toNatClampNeg) (40 * d + j.toNatClampNeg) 0), ml, mr)) _ by
                      rw [cp_0, ← ei, ← ej, ← en] at hh
                      exact hh
                    refine l_rcp_up (X := X) (mi := mi) (ml := ml) hM hs4 hd4 (a := i.toNatClampNeg) (b := j.toNatClampNeg) (n := n.toNatClampNeg) (by omega) (by omega) hw (fun o8 => ?_) n.toNatClampNeg 0 none (by omega)
                    refine wp_steps 1 (t' := (103, [some (.ref 84), some (.int (nI s)), some (.int (nI i.toNatClampNeg)), some (.int (nI d)), some (.int (nI j.toNatClampNeg)), some (.int (nI n.toNatClampNeg)), some (.int 0), some (.int (nI n.toNatClampNeg)), o8], [.int (nI n.toNatClampNeg)], (HD, (acpy mi 100 100 (40 * s + i.toNatClampNeg) (40 * d + j.toNatClampNeg) n.toNatClampNeg), ml, mr))) rfl ?_
                    refine wp_ret rfl rfl ⟨⟨Nat.le_refl _, Nat.le_refl _⟩, ?_⟩
                    exact ⟨by rw [if_neg (fun z => z.elim c_3 c_4), if_pos c_5, if_neg (fun z => z.elim (fun y => (hrF_n hZ).mp y ⟨c_7, c_6, (rc_I hZ c_7 c_6).mp (Int32.not_lt.mp c_9)⟩) (fun y => (hrF_n hZ2).mp y ⟨c_8, c_6, (rc_I hZ2 c_8 c_6).mp c_10⟩)), ← en], by rw [if_neg (fun z => z.elim c_3 c_4), if_pos c_5, if_neg (fun z => z.elim (fun y => (hrF_n hZ).mp y ⟨c_7, c_6, (rc_I hZ c_7 c_6).mp (Int32.not_lt.mp c_9)⟩) (fun y => (hrF_n hZ2).mp y ⟨c_8, c_6, (rc_I hZ2 c_8 c_6).mp c_10⟩))]⟩
                  · have c_11 : (nI s) = (nI d) := Decidable.not_not.mp (of_decide_eq_false c_11)
                    refine wp_steps 2 (t' := (60, [some (.ref 84), some (.int (nI s)), some (.int i), some (.int (nI d)), some (.int j), some (.int n), none, none, none], [.int j, .int i], (HD, mi, ml, mr))) rfl ?_
                    refine wp_bC rfl (fun c_12 => ?_) (fun c_12 => ?_)
                    · have c_12 : j ≤ i := of_decide_eq_true c_12
                      refine wp_steps 4 (t' := (67, [some (.ref 84), some (.int (nI s)), some (.int i), some (.int (nI d)), some (.int j), some (.int n), some (.int 0), some (.int 0), none], [], (HD, mi, ml, mr))) rfl ?_
                      have a1 := (rc_I hZ c_7 c_6).mp (Int32.not_lt.mp c_9)
                      have a2 := (rc_I hZ2 c_8 c_6).mp c_10
                      have ei := nn_eq c_7 (by omega)
                      have ej := nn_eq c_8 (by omega)
                      have en := nn_eq c_6 (by omega)
                      have hsd : s = d := by
                        have q := congrArg Int32.toInt c_11
                        rw [nI_toInt (by omega), nI_toInt (by omega)] at q
                        omega
                      have hij := c_12
                      rw [ei, ej, Int32.le_iff_toInt_le, nI_toInt (by omega), nI_toInt (by omega)] at hij
                      have hw : 40 * d + j.toNatClampNeg ≤ 40 * s + i.toNatClampNeg ∨ 40 * s + i.toNatClampNeg + n.toNatClampNeg ≤ 40 * d + j.toNatClampNeg := by omega
                      suffices hh : aWP (aEx (aTb X) 2) cd_X7_copy (67, [some (.ref 84), some (.int (nI s)), some (.int (nI i.toNatClampNeg)), some (.int (nI d)), some (.int (nI j.toNatClampNeg)), some (.int (nI n.toNatClampNeg)), some (.int 0), some (.int 0), none], [], (HD, (acpy mi 100 100 (40 * s + i.toNatClampNeg) (40 * d + j.toNatClampNeg) 0), ml, mr)) _ by
                        rw [cp_0, ← ei, ← ej, ← en] at hh
                        exact hh
                      refine l_rcp_up (X := X) (mi := mi) (ml := ml) hM hs4 hd4 (a := i.toNatClampNeg) (b := j.toNatClampNeg) (n := n.toNatClampNeg) (by omega) (by omega) hw (fun o8 => ?_) n.toNatClampNeg 0 none (by omega)
                      refine wp_steps 1 (t' := (103, [some (.ref 84), some (.int (nI s)), some (.int (nI i.toNatClampNeg)), some (.int (nI d)), some (.int (nI j.toNatClampNeg)), some (.int (nI n.toNatClampNeg)), some (.int 0), some (.int (nI n.toNatClampNeg)), o8], [.int (nI n.toNatClampNeg)], (HD, (acpy mi 100 100 (40 * s + i.toNatClampNeg) (40 * d + j.toNatClampNeg) n.toNatClampNeg), ml, mr))) rfl ?_
                      refine wp_ret rfl rfl ⟨⟨Nat.le_refl _, Nat.le_refl _⟩, ?_⟩
                      exact ⟨by rw [if_neg (fun z => z.elim c_3 c_4), if_pos c_5, if_neg (fun z => z.elim (fun y => (hrF_n hZ).mp y ⟨c_7, c_6, (rc_I hZ c_7 c_6).mp (Int32.not_lt.mp c_9)⟩) (fun y => (hrF_n hZ2).mp y ⟨c_8, c_6, (rc_I hZ2 c_8 c_6).mp c_10⟩)), ← en], by rw [if_neg (fun z => z.elim c_3 c_4), if_pos c_5, if_neg (fun z => z.elim (fun y => (hrF_n hZ).mp y ⟨c_7, c_6, (rc_I hZ c_7 c_6).mp (Int32.not_lt.mp c_9)⟩) (fun y => (hrF_n hZ2).mp y ⟨c_8, c_6, (rc_I hZ2 c_8 c_6).mp c_10⟩))]⟩
                    · have c_12 : ¬ (j ≤ i) := of_decide_eq_false c_12
                      refine wp_steps 5 (t' := (67, [some (.ref 84), some (.int (nI s)), some (.int i), some (.int (nI d)), some (.int j), some (.int n), some (.int 1), some (.int 0), none], [], (HD, mi, ml, mr))) rfl ?_
                      have a1 := (rc_I hZ c_7 c_6).mp (Int32.not_lt.mp c_9)
                      have a2 := (rc_I hZ2 c_8 c_6).mp c_10
                      have ei := nn_eq c_7 (by omega)
                      have ej := nn_eq c_8 (by omega)
                      have en := nn_eq c_6 (by omega)
                      have hsd : s = d := by
                        have q := congrArg Int32.toInt c_11
                        rw [nI_toInt (by omega), nI_toInt (by omega)] at q
                        omega
                      have hij := c_12
                      rw [ei, ej, Int32.le_iff_toInt_le, nI_toInt (by omega), nI_toInt (by omega)] at hij
                      have hw : 40 * s + i.toNatClampNeg < 40 * d + j.toNatClampNeg := by omega
                      suffices hh : aWP (aEx (aTb X) 2) cd_X7_copy (67, [some (.ref 84), some (.int (nI s)), some (.int (nI i.toNatClampNeg)), some (.int (nI d)), some (.int (nI j.toNatClampNeg)), some (.int (nI n.toNatClampNeg)), some (.int 1), some (.int 0), none], [], (HD, (acpy mi 100 100 (40 * s + i.toNatClampNeg + n.toNatClampNeg) (40 * d + j.toNatClampNeg + n.toNatClampNeg) 0), ml, mr)) _ by
                        rw [cp_0, ← ei, ← ej, ← en] at hh
                        exact hh
                      refine l_rcp_dn (X := X) (mi := mi) (ml := ml) hM hs4 hd4 (a := i.toNatClampNeg) (b := j.toNatClampNeg) (n := n.toNatClampNeg) (by omega) (by omega) hw (fun o8 => ?_) n.toNatClampNeg 0 none (by omega)
                      refine wp_steps 1 (t' := (103, [some (.ref 84), some (.int (nI s)), some (.int (nI i.toNatClampNeg)), some (.int (nI d)), some (.int (nI j.toNatClampNeg)), some (.int (nI n.toNatClampNeg)), some (.int 1), some (.int (nI n.toNatClampNeg)), o8], [.int (nI n.toNatClampNeg)], (HD, (acpy mi 100 100 (40 * s + i.toNatClampNeg) (40 * d + j.toNatClampNeg) n.toNatClampNeg), ml, mr))) rfl ?_
                      refine wp_ret rfl rfl ⟨⟨Nat.le_refl _, Nat.le_refl _⟩, ?_⟩
                      exact ⟨by rw [if_neg (fun z => z.elim c_3 c_4), if_pos c_5, if_neg (fun z => z.elim (fun y => (hrF_n hZ).mp y ⟨c_7, c_6, (rc_I hZ c_7 c_6).mp (Int32.not_lt.mp c_9)⟩) (fun y => (hrF_n hZ2).mp y ⟨c_8, c_6, (rc_I hZ2 c_8 c_6).mp c_10⟩)), ← en], by rw [if_neg (fun z => z.elim c_3 c_4), if_pos c_5, if_neg (fun z => z.elim (fun y => (hrF_n hZ).mp y ⟨c_7, c_6, (rc_I hZ c_7 c_6).mp (Int32.not_lt.mp c_9)⟩) (fun y => (hrF_n hZ2).mp y ⟨c_8, c_6, (rc_I hZ2 c_8 c_6).mp c_10⟩))]⟩
                · have c_10 : ¬ (j ≤ ((nI Z2) - n)) := of_decide_eq_false c_10
                  refine wp_steps 1 (t' := (54, [some (.ref 84), some (.int (nI s)), some (.int i), some (.int (nI d)), some (.int j), some (.int n), none, none, none], [.int (-12)], (HD, mi, ml, mr))) rfl ?_
                  refine wp_ret rfl rfl ⟨⟨Nat.le_refl _, Nat.le_refl _⟩, ?_⟩
                  exact ⟨by rw [if_neg (fun z => z.elim c_3 c_4), if_pos c_5, if_pos (Or.inr ((hrF_n hZ2).mpr (fun z => c_10 ((rc_I hZ2 z.1 z.2.1).mpr z.2.2))))], by rw [if_neg (fun z => z.elim c_3 c_4), if_pos c_5, if_pos (Or.inr ((hrF_n hZ2).mpr (fun z => c_10 ((rc_I hZ2 z.1 z.2.1).mpr z.2.2))))]⟩
      · have c_5 : ¬ ((mi 98 s) = (mi 98 d)) := of_decide_eq_false c_5
        refine wp_steps 1 (t' := (30, [some (.ref 84), some (.int (nI s)), some (.int i), some (.int (nI d)), some (.int j), some (.int n), none, none, none], [.int (-13)], (HD, mi, ml, mr))) rfl ?_
        refine wp_ret rfl rfl ⟨⟨Nat.le_refl _, Nat.le_refl _⟩, ?_⟩
        exact ⟨by rw [if_neg (fun z => z.elim c_3 c_4), if_neg c_5], by rw [if_neg (fun z => z.elim c_3 c_4), if_neg c_5]⟩
    · have c_4 : (mi 97 d) = 0 := Decidable.not_not.mp (of_decide_eq_false c_4)
      refine wp_steps 1 (t' := (19, [some (.ref 84), some (.int (nI s)), some (.int i), some (.int (nI d)), some (.int j), some (.int n), none, none, none], [.int (-11)], (HD, mi, ml, mr))) rfl ?_
      refine wp_ret rfl rfl ⟨⟨Nat.le_refl _, Nat.le_refl _⟩, ?_⟩
      exact ⟨by rw [if_pos (Or.inr c_4)], by rw [if_pos (Or.inr c_4)]⟩
