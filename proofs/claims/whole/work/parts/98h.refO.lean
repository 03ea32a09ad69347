/-! the reference: copy (written by wip/whole/mkrefO.py) -/
theorem cp_up {f : Nat → Nat → Int32} {A B k : Nat} (h : B ≤ A ∨ A + k < B) : aup (acpy f 100 100 A B k) 100 (B + k) (acpy f 100 100 A B k 100 (A + k)) = acpy f 100 100 A B (k + 1) := by
  funext x y
  have e1 : acpy f 100 100 A B k 100 (A + k) = f 100 (A + k) := by
    unfold acpy
    rw [if_pos rfl]
    by_cases q : B ≤ A + k ∧ A + k < B + k
    · exact absurd q (by omega)
    · rw [if_neg q]
  rw [e1]
  unfold aup acpy
  by_cases e : x = 100
  · subst e
    simp only [if_pos]
    by_cases e2 : y = B + k
    · subst e2
      rw [if_pos rfl, if_pos ⟨by omega, by omega⟩, show B + k - B = k from by omega]
    · rw [if_neg e2]
      by_cases e3 : B ≤ y ∧ y < B + k
      · rw [if_pos e3, if_pos ⟨e3.1, by omega⟩]
      · rw [if_neg e3, if_neg (by omega)]
  · simp only [if_neg e]
theorem cp_dn {f : Nat → Nat → Int32} {A B k o : Nat} (h : A < B) : aup (acpy f 100 100 (A + (o + 1)) (B + (o + 1)) k) 100 (B + o) (acpy f 100 100 (A + (o + 1)) (B + (o + 1)) k 100 (A + o)) = acpy f 100 100 (A + o) (B + o) (k + 1) := by
  funext x y
  have e1 : acpy f 100 100 (A + (o + 1)) (B + (o + 1)) k 100 (A + o) = f 100 (A + o) := by
    unfold acpy
    rw [if_pos rfl]
    by_cases q : B + (o + 1) ≤ A + o ∧ A + o < B + (o + 1) + k
    · exact absurd q (by omega)
    · rw [if_neg q]
  rw [e1]
  unfold aup acpy
  by_cases e : x = 100
  · subst e
    simp only [if_pos]
    by_cases e2 : y = B + o
    · subst e2
      rw [if_pos rfl, if_pos ⟨by omega, by omega⟩, Nat.sub_self, Nat.add_zero]
    · rw [if_neg e2]
      by_cases e3 : B + (o + 1) ≤ y ∧ y < B + (o + 1) + k
      · rw [if_pos e3, if_pos ⟨by omega, by omega⟩, show A + (o + 1) + (y - (B + (o + 1))) = A + o + (y - (B + o)) from by omega]
      · rw [if_neg e3, if_neg (by omega)]
  · simp only [if_neg e]
theorem cp_0 {f : Nat → Nat → Int32} {A B : Nat} : acpy f 100 100 A B 0 = f := by
  funext x y
  unfold acpy
  by_cases e : x = 100
  · rw [if_pos e, if_neg (by omega)]
  · rw [if_neg e]
set_option maxRecDepth 20000 in
set_option maxHeartbeats 1000000 in
theorem l_rcp_up {X : aXt × Value} {mi : Nat → Nat → Int32} {ml : Nat → Nat → Int64} {mr : Nat → Nat → Option Nat} (hM : MRok mr) {s d : Nat} (hs4 : s < 4) (hd4 : d < 4) {a b n : Nat} (ha : a + n ≤ 40) (hb : b + n ≤ 40) (hw : 40 * d + b ≤ 40 * s + a ∨ 40 * s + a + n ≤ 40 * d + b) {Q : Option Value → aM → Prop} (hk : (∀ o8, aWP (aEx (aTb X) 2) cd_X7_copy (102, [some (.ref 84), some (.int (nI s)), some (.int (nI a)), some (.int (nI d)), some (.int (nI b)), some (.int (nI n)), some (.int 0), some (.int (nI n)), o8], [], (HD, (acpy mi 100 100 (40 * s + a) (40 * d + b) n), ml, mr)) Q)) : ∀ (g k : Nat) (o8 : Option Value), k + g = n → aWP (aEx (aTb X) 2) cd_X7_copy (67, [some (.ref 84), some (.int (nI s)), some (.int (nI a)), some (.int (nI d)), some (.int (nI b)), some (.int (nI n)), some (.int 0), some (.int (nI k)), o8], [], (HD, (acpy mi 100 100 (40 * s + a) (40 * d + b) k), ml, mr)) Q := by
  intro g
  induction g with
  | zero =>
    intro k o8 hg
    obtain rfl : k = n := by omega
    refine wp_steps 2 (t' := (69, [some (.ref 84), some (.int (nI s)), some (.int (nI a)), some (.int (nI d)), some (.int (nI b)), some (.int (nI k)), some (.int 0), some (.int (nI k)), o8], [.int (nI k), .int (nI k)], (HD, (acpy mi 100 100 (40 * s + a) (40 * d + b) k), ml, mr))) rfl ?_
    refine wp_bC rfl (fun c_1 => ?_) (fun c_1 => ?_)
    rotate_left
    · have c_1 : ¬ ((nI k) ≤ (nI k)) := of_decide_eq_false c_1
      exact absurd (Int32.le_refl _) c_1
    have c_1 : (nI k) ≤ (nI k) := of_decide_eq_true c_1
    exact hk o8
  | succ g ih =>
    intro k o8 hg
    have hkn : k < n := by omega
    refine wp_steps 2 (t' := (69, [some (.ref 84), some (.int (nI s)), some (.int (nI a)), some (.int (nI d)), some (.int (nI b)), some (.int (nI n)), some (.int 0), some (.int (nI k)), o8], [.int (nI n), .int (nI k)], (HD, (acpy mi 100 100 (40 * s + a) (40 * d + b) k), ml, mr))) rfl ?_
    refine wp_bC rfl (fun c_1 => ?_) (fun c_1 => ?_)
    · have c_1 : (nI n) ≤ (nI k) := of_decide_eq_true c_1
      exact absurd c_1 (nI_ge (a := k) (b := n) hkn (by omega))
    have c_1 : ¬ ((nI n) ≤ (nI k)) := of_decide_eq_false c_1
    refine wp_steps 1 (t' := (71, [some (.ref 84), some (.int (nI s)), some (.int (nI a)), some (.int (nI d)), some (.int (nI b)), some (.int (nI n)), some (.int 0), some (.int (nI k)), o8], [.int 0], (HD, (acpy mi 100 100 (40 * s + a) (40 * d + b) k), ml, mr))) rfl ?_
    refine wp_bI rfl (fun c_2 => ?_) (fun c_2 => ?_)
    rotate_left
    · have c_2 : ¬ ((0 : Int32) = 0) := of_decide_eq_false c_2
      exact absurd c_2 (by decide)
    have c_2 : (0 : Int32) = 0 := of_decide_eq_true c_2
    refine wp_steps 3 (t' := (81, [some (.ref 84), some (.int (nI s)), some (.int (nI a)), some (.int (nI d)), some (.int (nI b)), some (.int (nI n)), some (.int 0), some (.int (nI k)), some (.int (nI k))], [.ref 84], (HD, (acpy mi 100 100 (40 * s + a) (40 * d + b) k), ml, mr))) rfl ?_
    refine wp_getr rfl ⟨by decide, rfl⟩ rfl (hM (84, 40, 100) (by decide)) ?_
    refine wp_steps 3 (t' := (85, [some (.ref 84), some (.int (nI s)), some (.int (nI a)), some (.int (nI d)), some (.int (nI b)), some (.int (nI n)), some (.int 0), some (.int (nI k)), some (.int (nI k))], [.int (40 * (nI d)), .ref 100], (HD, (acpy mi 100 100 (40 * s + a) (40 * d + b) k), ml, mr))) rfl ?_
    rw [show (40 : Int32) * nI d = nI (40 * d) from (Int32.ofNat_mul 40 d).symm]
    refine wp_steps 2 (t' := (87, [some (.ref 84), some (.int (nI s)), some (.int (nI a)), some (.int (nI d)), some (.int (nI b)), some (.int (nI n)), some (.int 0), some (.int (nI k)), some (.int (nI k))], [.int ((nI (40 * d)) + (nI b)), .ref 100], (HD, (acpy mi 100 100 (40 * s + a) (40 * d + b) k), ml, mr))) rfl ?_
    rw [nI_add]
    refine wp_steps 2 (t' := (89, [some (.ref 84), some (.int (nI s)), some (.int (nI a)), some (.int (nI d)), some (.int (nI b)), some (.int (nI n)), some (.int 0), some (.int (nI k)), some (.int (nI k))], [.int ((nI (40 * d + b)) + (nI k)), .ref 100], (HD, (acpy mi 100 100 (40 * s + a) (40 * d + b) k), ml, mr))) rfl ?_
    rw [nI_add]
    refine wp_steps 1 (t' := (90, [some (.ref 84), some (.int (nI s)), some (.int (nI a)), some (.int (nI d)), some (.int (nI b)), some (.int (nI n)), some (.int 0), some (.int (nI k)), some (.int (nI k))], [.ref 84, .int (nI (40 * d + b + k)), .ref 100], (HD, (acpy mi 100 100 (40 * s + a) (40 * d + b) k), ml, mr))) rfl ?_
    refine wp_getr rfl ⟨by decide, rfl⟩ rfl (hM (84, 40, 100) (by decide)) ?_
    refine wp_steps 3 (t' := (94, [some (.ref 84), some (.int (nI s)), some (.int (nI a)), some (.int (nI d)), some (.int (nI b)), some (.int (nI n)), some (.int 0), some (.int (nI k)), some (.int (nI k))], [.int (40 * (nI s)), .ref 100, .int (nI (40 * d + b + k)), .ref 100], (HD, (acpy mi 100 100 (40 * s + a) (40 * d + b) k), ml, mr))) rfl ?_
    rw [show (40 : Int32) * nI s = nI (40 * s) from (Int32.ofNat_mul 40 s).symm]
    refine wp_steps 2 (t' := (96, [some (.ref 84), some (.int (nI s)), some (.int (nI a)), some (.int (nI d)), some (.int (nI b)), some (.int (nI n)), some (.int 0), some (.int (nI k)), some (.int (nI k))], [.int ((nI (40 * s)) + (nI a)), .ref 100, .int (nI (40 * d + b + k)), .ref 100], (HD, (acpy mi 100 100 (40 * s + a) (40 * d + b) k), ml, mr))) rfl ?_
    rw [nI_add]
    refine wp_steps 2 (t' := (98, [some (.ref 84), some (.int (nI s)), some (.int (nI a)), some (.int (nI d)), some (.int (nI b)), some (.int (nI n)), some (.int 0), some (.int (nI k)), some (.int (nI k))], [.int ((nI (40 * s + a)) + (nI k)), .ref 100, .int (nI (40 * d + b + k)), .ref 100], (HD, (acpy mi 100 100 (40 * s + a) (40 * d + b) k), ml, mr))) rfl ?_
    rw [nI_add]
    refine wp_iald rfl ⟨by decide, rfl⟩ (aix_nI (by omega) (by decide)) ?_
    rw [nI_clamp (n := 40 * s + a + k) (by omega)]
    refine wp_iast rfl ⟨by decide, rfl⟩ (aix_nI (by omega) (by decide)) (fun m_3 h_4 => ?_)
    subst h_4
    rw [nI_clamp (n := 40 * d + b + k) (by omega)]
    refine wp_steps 2 (t' := (67, [some (.ref 84), some (.int (nI s)), some (.int (nI a)), some (.int (nI d)), some (.int (nI b)), some (.int (nI n)), some (.int 0), some (.int ((nI k) + Int32.ofInt 1)), some (.int (nI k))], [], (HD, (aup (acpy mi 100 100 (40 * s + a) (40 * d + b) k) 100 (40 * d + b + k) ((acpy mi 100 100 (40 * s + a) (40 * d + b) k) 100 (40 * s + a + k))), ml, mr))) rfl ?_
    rw [inc_nI, cp_up (by omega)]
    exact ih (k + 1) _ (by omega)
set_option maxRecDepth 20000 in
set_option maxHeartbeats 1000000 in
theorem l_rcp_dn {X : aXt × Value} {mi : Nat → Nat → Int32} {ml : Nat → Nat → Int64} {mr : Nat → Nat → Option Nat} (hM : MRok mr) {s d : Nat} (hs4 : s < 4) (hd4 : d < 4) {a b n : Nat} (ha : a + n ≤ 40) (hb : b + n ≤ 40) (hw : 40 * s + a < 40 * d + b) {Q : Option Value → aM → Prop} (hk : (∀ o8, aWP (aEx (aTb X) 2) cd_X7_copy (102, [some (.ref 84), some (.int (nI s)), some (.int (nI a)), some (.int (nI d)), some (.int (nI b)), some (.int (nI n)), some (.int 1), some (.int (nI n)), o8], [], (HD, (acpy mi 100 100 (40 * s + a) (40 * d + b) n), ml, mr)) Q)) : ∀ (g k : Nat) (o8 : Option Value), k + g = n → aWP (aEx (aTb X) 2) cd_X7_copy (67, [some (.ref 84), some (.int (nI s)), some (.int (nI a)), some (.int (nI d)), some (.int (nI b)), some (.int (nI n)), some (.int 1), some (.int (nI k)), o8], [], (HD, (acpy mi 100 100 (40 * s + a + g) (40 * d + b + g) k), ml, mr)) Q := by
  intro g
  induction g with
  | zero =>
    intro k o8 hg
    obtain rfl : k = n := by omega
    refine wp_steps 2 (t' := (69, [some (.ref 84), some (.int (nI s)), some (.int (nI a)), some (.int (nI d)), some (.int (nI b)), some (.int (nI k)), some (.int 1), some (.int (nI k)), o8], [.int (nI k), .int (nI k)], (HD, (acpy mi 100 100 (40 * s + a + 0) (40 * d + b + 0) k), ml, mr))) rfl ?_
    refine wp_bC rfl (fun c_1 => ?_) (fun c_1 => ?_)
    rotate_left
    · have c_1 : ¬ ((nI k) ≤ (nI k)) := of_decide_eq_false c_1
      exact absurd (Int32.le_refl _) c_1
    have c_1 : (nI k) ≤ (nI k) := of_decide_eq_true c_1
    exact hk o8
  | succ g ih =>
    intro k o8 hg
    have hkn : k < n := by omega
    refine wp_steps 2 (t' := (69, [some (.ref 84), some (.int (nI s)), some (.int (nI a)), some (.int (nI d)), some (.int (nI b)), some (.int (nI n)), some (.int 1), some (.int (nI k)), o8], [.int (nI n), .int (nI k)], (HD, (acpy mi 100 100 (40 * s + a + (g + 1)) (40 * d + b + (g + 1)) k), ml, mr))) rfl ?_
    refine wp_bC rfl (fun c_1 => ?_) (fun c_1 => ?_)
    · have c_1 : (nI n) ≤ (nI k) := of_decide_eq_true c_1
      exact absurd c_1 (nI_ge (a := k) (b := n) hkn (by omega))
    have c_1 : ¬ ((nI n) ≤ (nI k)) := of_decide_eq_false c_1
    refine wp_steps 1 (t' := (71, [some (.ref 84), some (.int (nI s)), some (.int (nI a)), some (.int (nI d)), some (.int (nI b)), some (.int (nI n)), some (.int 1), some (.int (nI k)), o8], [.int 1], (HD, (acpy mi 100 100 (40 * s + a + (g + 1)) (40 * d + b + (g + 1)) k), ml, mr))) rfl ?_
    refine wp_bI rfl (fun c_2 => ?_) (fun c_2 => ?_)
    · have c_2 : (1 : Int32) = 0 := of_decide_eq_true c_2
      exact absurd c_2 (by decide)
    have c_2 : ¬ ((1 : Int32) = 0) := of_decide_eq_false c_2
    refine wp_steps 5 (t' := (77, [some (.ref 84), some (.int (nI s)), some (.int (nI a)), some (.int (nI d)), some (.int (nI b)), some (.int (nI n)), some (.int 1), some (.int (nI k)), o8], [.int (((nI n) - 1) - (nI k))], (HD, (acpy mi 100 100 (40 * s + a + (g + 1)) (40 * d + b + (g + 1)) k), ml, mr))) rfl ?_
    rw [show nI n - 1 - nI k = nI g from by rw [show (1 : Int32) = nI 1 from rfl, nI_sb (by omega), nI_sb (by omega)]; exact congrArg nI (by omega)]
    refine wp_steps 3 (t' := (81, [some (.ref 84), some (.int (nI s)), some (.int (nI a)), some (.int (nI d)), some (.int (nI b)), some (.int (nI n)), some (.int 1), some (.int (nI k)), some (.int (nI g))], [.ref 84], (HD, (acpy mi 100 100 (40 * s + a + (g + 1)) (40 * d + b + (g + 1)) k), ml, mr))) rfl ?_
    refine wp_getr rfl ⟨by decide, rfl⟩ rfl (hM (84, 40, 100) (by decide)) ?_
    refine wp_steps 3 (t' := (85, [some (.ref 84), some (.int (nI s)), some (.int (nI a)), some (.int (nI d)), some (.int (nI b)), some (.int (nI n)), some (.int 1), some (.int (nI k)), some (.int (nI g))], [.int (40 * (nI d)), .ref 100], (HD, (acpy mi 100 100 (40 * s + a + (g + 1)) (40 * d + b + (g + 1)) k), ml, mr))) rfl ?_
    rw [show (40 : Int32) * nI d = nI (40 * d) from (Int32.ofNat_mul 40 d).symm]
    refine wp_steps 2 (t' := (87, [some (.ref 84), some (.int (nI s)), some (.int (nI a)), some (.int (nI d)), some (.int (nI b)), some (.int (nI n)), some (.int 1), some (.int (nI k)), some (.int (nI g))], [.int ((nI (40 * d)) + (nI b)), .ref 100], (HD, (acpy mi 100 100 (40 * s + a + (g + 1)) (40 * d + b + (g + 1)) k), ml, mr))) rfl ?_
    rw [nI_add]
    refine wp_steps 2 (t' := (89, [some (.ref 84), some (.int (nI s)), some (.int (nI a)), some (.int (nI d)), some (.int (nI b)), some (.int (nI n)), some (.int 1), some (.int (nI k)), some (.int (nI g))], [.int ((nI (40 * d + b)) + (nI g)), .ref 100], (HD, (acpy mi 100 100 (40 * s + a + (g + 1)) (40 * d + b + (g + 1)) k), ml, mr))) rfl ?_
    rw [nI_add]
    refine wp_steps 1 (t' := (90, [some (.ref 84), some (.int (nI s)), some (.int (nI a)), some (.int (nI d)), some (.int (nI b)), some (.int (nI n)), some (.int 1), some (.int (nI k)), some (.int (nI g))], [.ref 84, .int (nI (40 * d + b + g)), .ref 100], (HD, (acpy mi 100 100 (40 * s + a + (g + 1)) (40 * d + b + (g + 1)) k), ml, mr))) rfl ?_
    refine wp_getr rfl ⟨by decide, rfl⟩ rfl (hM (84, 40, 100) (by decide)) ?_
    refine wp_steps 3 (t' := (94, [some (.ref 84), some (.int (nI s)), some (.int (nI a)), some (.int (nI d)), some (.int (nI b)), some (.int (nI n)), some (.int 1), some (.int (nI k)), some (.int (nI g))], [.int (40 * (nI s)), .ref 100, .int (nI (40 * d + b + g)), .ref 100], (HD, (acpy mi 100 100 (40 * s + a + (g + 1)) (40 * d + b + (g + 1)) k), ml, mr))) rfl ?_
    rw [show (40 : Int32) * nI s = nI (40 * s) from (Int32.ofNat_mul 40 s).symm]
    refine wp_steps 2 (t' := (96, [some (.ref 84), some (.int (nI s)), some (.int (nI a)), some (.int (nI d)), some (.int (nI b)), some (.int (nI n)), some (.int 1), some (.int (nI k)), some (.int (nI g))], [.int ((nI (40 * s)) + (nI a)), .ref 100, .int (nI (40 * d + b + g)), .ref 100], (HD, (acpy mi 100 100 (40 * s + a + (g + 1)) (40 * d + b + (g + 1)) k), ml, mr))) rfl ?_
    rw [nI_add]
    refine wp_steps 2 (t' := (98, [some (.ref 84), some (.int (nI s)), some (.int (nI a)), some (.int (nI d)), some (.int (nI b)), some (.int (nI n)), some (.int 1), some (.int (nI k)), some (.int (nI g))], [.int ((nI (40 * s + a)) + (nI g)), .ref 100, .int (nI (40 * d + b + g)), .ref 100], (HD, (acpy mi 100 100 (40 * s + a + (g + 1)) (40 * d + b + (g + 1)) k), ml, mr))) rfl ?_
    rw [nI_add]
    refine wp_iald rfl ⟨by decide, rfl⟩ (aix_nI (by omega) (by decide)) ?_
    rw [nI_clamp (n := 40 * s + a + g) (by omega)]
    refine wp_iast rfl ⟨by decide, rfl⟩ (aix_nI (by omega) (by decide)) (fun m_3 h_4 => ?_)
    subst h_4
    rw [nI_clamp (n := 40 * d + b + g) (by omega)]
    refine wp_steps 2 (t' := (67, [some (.ref 84), some (.int (nI s)), some (.int (nI a)), some (.int (nI d)), some (.int (nI b)), some (.int (nI n)), some (.int 1), some (.int ((nI k) + Int32.ofInt 1)), some (.int (nI g))], [], (HD, (aup (acpy mi 100 100 (40 * s + a + (g + 1)) (40 * d + b + (g + 1)) k) 100 (40 * d + b + g) ((acpy mi 100 100 (40 * s + a + (g + 1)) (40 * d + b + (g + 1)) k) 100 (40 * s + a + g))), ml, mr))) rfl ?_
    rw [inc_nI, cp_dn (by omega)]
    exact ih (k + 1) _ (by omega)
