/-! the reference: learners from a sheet; film (written by wip/whole/mkrefM.py) -/
theorem lrS_go {Z B g : Nat} {it : Nat → Int32} {came : Int32} {s : lS} (hZ : Z ≤ 40) (hB : B + 2 ≤ Z) : lrS (nI Z) it (g + 1) (nI B) came s = lrS (nI Z) it g (nI (B + 2)) (if coV s (it B) (it (B + 1)) < 0 then came else came + 1) (coS s (it B) (it (B + 1))) := by
  show (if _ then _ else if _ then _ else _) = _
  rw [nI_1, if_neg (hsF_in (by omega) hZ), if_neg (hsF_in (by omega) hZ), nI_clamp (by omega), nI_clamp (by omega), show nI B + 2 = nI (B + 2) from nI_add B 2]
theorem lrS_no {Z B g : Nat} {it : Nat → Int32} {came : Int32} {s : lS} (hZ : Z ≤ 40) (hB : ¬ B + 2 ≤ Z) (hb : B < 2 ^ 31) : lrS (nI Z) it (g + 1) (nI B) came s = (-12, s) := by
  show (if _ then _ else if _ then _ else _) = _
  by_cases h : B < Z
  · rw [if_neg (hsF_in h hZ), nI_1, if_pos]
    rw [hsF_Z hZ]
    intro z
    have := (aix_out z).2
    rw [nI_clamp (by omega)] at this
    omega
  · rw [if_pos]
    rw [hsF_Z hZ]
    intro z
    have := (aix_out z).2
    rw [nI_clamp hb] at this
    omega
set_option maxRecDepth 20000 in
set_option maxHeartbeats 1000000 in
theorem l_rlearners {X : aXt × Value} {mi : Nat → Nat → Int32} {ml : Nat → Nat → Int64} {mr : Nat → Nat → Option Nat} (hM : MRok mr) {s : Nat} (hs4 : s < 4) {Z : Nat} (hz : mi 99 s = nI Z) (hZ : Z ≤ 40) {so : Int32} {n A : Nat} (hn : n ≤ 5) (hA : A < 2 ^ 31) : ∀ (g k : Nat) (ca : Int32) (u : lS) (m : Nat → Nat → Int32) (o : Option Value), k + g = n → (k = 0 ∨ A + 2 * k ≤ Z) → LSr m u → frL mi m → aWP (aEx (aTb X) 4) cd_X7_learners (41, [some (.ref 84), some (.int (nI s)), some (.int so), some (.int (nI A)), some (.int (nI n)), some (.int ca), some (.int (nI k)), o], [], (HD, m, ml, mr)) (fun r h' => (HD.1 ≤ h'.1.1 ∧ HD.2.1 ≤ h'.1.2.1) ∧ r = some (.int (lrS (nI Z) (fun j => mi 100 (40 * s + j)) g (nI (A + 2 * k)) ca u).1) ∧ ∃ m', h' = (HD, m', ml, mr) ∧ LSr m' (lrS (nI Z) (fun j => mi 100 (40 * s + j)) g (nI (A + 2 * k)) ca u).2 ∧ frL mi m') := by
  intro g
  induction g with
  | zero =>
    intro k ca u m o hg hi h hf
    obtain rfl : k = n := by omega
    refine wp_steps 2 (t' := (43, [some (.ref 84), some (.int (nI s)), some (.int so), some (.int (nI A)), some (.int (nI k)), some (.int ca), some (.int (nI k)), o], [.int (nI k), .int (nI k)], (HD, m, ml, mr))) rfl ?_
    refine wp_bC rfl (fun c_1 => ?_) (fun c_1 => ?_)
    rotate_left
    · have c_1 : ¬ ((nI k) ≤ (nI k)) := of_decide_eq_false c_1
      exact absurd (Int32.le_refl _) c_1
    have c_1 : (nI k) ≤ (nI k) := of_decide_eq_true c_1
    refine wp_steps 1 (t' := (92, [some (.ref 84), some (.int (nI s)), some (.int so), some (.int (nI A)), some (.int (nI k)), some (.int ca), some (.int (nI k)), o], [.int ca], (HD, m, ml, mr))) rfl ?_
    refine wp_ret rfl rfl ⟨⟨Nat.le_refl _, Nat.le_refl _⟩, ?_⟩
    exact ⟨rfl, m, rfl, h, hf⟩
  | succ g ih =>
    intro k ca u m o hg hi h hf
    have z1 : m 99 s = nI Z := (hf 99 s (by omega) (by decide) (by decide) (by decide)).trans hz
    have z2 : m 100 = mi 100 := funext fun j => hf 100 j (by omega) (by decide) (by decide) (by decide)
    have hkk : k ≤ 5 := by omega
    refine wp_steps 2 (t' := (43, [some (.ref 84), some (.int (nI s)), some (.int so), some (.int (nI A)), some (.int (nI n)), some (.int ca), some (.int (nI k)), o], [.int (nI n), .int (nI k)], (HD, m, ml, mr))) rfl ?_
    refine wp_bC rfl (fun c_1 => ?_) (fun c_1 => ?_)
    · have c_1 : (nI n) ≤ (nI k) := of_decide_eq_true c_1
      exact absurd c_1 (nI_ge (a := k) (b := n) (by omega) (by omega))
    have c_1 : ¬ ((nI n) ≤ (nI k)) := of_decide_eq_false c_1
    refine wp_steps 1 (t' := (45, [some (.ref 84), some (.int (nI s)), some (.int so), some (.int (nI A)), some (.int (nI n)), some (.int ca), some (.int (nI k)), o], [.int (nI A)], (HD, m, ml, mr))) rfl ?_
    refine wp_bI rfl (fun c_2 => ?_) (fun c_2 => ?_)
    · have c_2 : (nI A) < 0 := of_decide_eq_true c_2
      exact absurd c_2 (nI_pos hA)
    have c_2 : ¬ ((nI A) < 0) := of_decide_eq_false c_2
    refine wp_steps 2 (t' := (48, [some (.ref 84), some (.int (nI s)), some (.int so), some (.int (nI A)), some (.int (nI n)), some (.int ca), some (.int (nI k)), o], [.ref 84, .int (nI A)], (HD, m, ml, mr))) rfl ?_
    refine wp_getr rfl ⟨by decide, rfl⟩ rfl (hM (84, 39, 99) (by decide)) ?_
    refine wp_steps 1 (t' := (50, [some (.ref 84), some (.int (nI s)), some (.int so), some (.int (nI A)), some (.int (nI n)), some (.int ca), some (.int (nI k)), o], [.int (nI s), .ref 99, .int (nI A)], (HD, m, ml, mr))) rfl ?_
    refine wp_iald rfl ⟨by decide, rfl⟩ (aix_nI (by omega) (by decide)) ?_
    rw [nI_clamp (n := s) (by omega)]
    rw [z1]
    refine wp_steps 3 (t' := (54, [some (.ref 84), some (.int (nI s)), some (.int so), some (.int (nI A)), some (.int (nI n)), some (.int ca), some (.int (nI k)), o], [.int (2 * (nI k)), .int (nI Z), .int (nI A)], (HD, m, ml, mr))) rfl ?_
    rw [show (2 : Int32) * nI k = nI (2 * k) from (Int32.ofNat_mul 2 k).symm]
    refine wp_steps 3 (t' := (57, [some (.ref 84), some (.int (nI s)), some (.int so), some (.int (nI A)), some (.int (nI n)), some (.int ca), some (.int (nI k)), o], [.int (((nI Z) - (nI (2 * k))) - 2), .int (nI A)], (HD, m, ml, mr))) rfl ?_
    refine wp_bC rfl (fun c_3 => ?_) (fun c_3 => ?_)
    · have c_3 : (nI A) ≤ (((nI Z) - (nI (2 * k))) - 2) := of_decide_eq_true c_3
      have q : (nI A ≤ nI Z - nI (2 * k) - 2) ↔ A + 2 * k + 2 ≤ Z := by
        have t1 : (nI Z - nI (2 * k)).toInt = (Z : Int) - 2 * k := by rw [sub_t (by rw [nI_toInt (by omega)]; omega) (by rw [nI_toInt (by omega)]; omega), nI_toInt (by omega), nI_toInt (by omega)]; omega
        rw [Int32.le_iff_toInt_le, nI_toInt hA, sub_t (by rw [t1]; omega) (by decide), t1, show (2 : Int32).toInt = 2 from rfl]
        omega
      have hB : A + 2 * k + 2 ≤ Z := q.mp c_3
      refine wp_steps 3 (t' := (63, [some (.ref 84), some (.int (nI s)), some (.int so), some (.int (nI A)), some (.int (nI n)), some (.int ca), some (.int (nI k)), o], [.int (40 * (nI s))], (HD, m, ml, mr))) rfl ?_
      rw [show (40 : Int32) * nI s = nI (40 * s) from (Int32.ofNat_mul 40 s).symm]
      refine wp_steps 2 (t' := (65, [some (.ref 84), some (.int (nI s)), some (.int so), some (.int (nI A)), some (.int (nI n)), some (.int ca), some (.int (nI k)), o], [.int ((nI (40 * s)) + (nI A))], (HD, m, ml, mr))) rfl ?_
      rw [nI_add]
      refine wp_steps 3 (t' := (68, [some (.ref 84), some (.int (nI s)), some (.int so), some (.int (nI A)), some (.int (nI n)), some (.int ca), some (.int (nI k)), o], [.int (2 * (nI k)), .int (nI (40 * s + A))], (HD, m, ml, mr))) rfl ?_
      rw [show (2 : Int32) * nI k = nI (2 * k) from (Int32.ofNat_mul 2 k).symm]
      refine wp_steps 1 (t' := (69, [some (.ref 84), some (.int (nI s)), some (.int so), some (.int (nI A)), some (.int (nI n)), some (.int ca), some (.int (nI k)), o], [.int ((nI (40 * s + A)) + (nI (2 * k)))], (HD, m, ml, mr))) rfl ?_
      rw [nI_add, show 40 * s + A + 2 * k = 40 * s + (A + 2 * k) by omega]
      refine wp_steps 4 (t' := (73, [some (.ref 84), some (.int (nI s)), some (.int so), some (.int (nI A)), some (.int (nI n)), some (.int ca), some (.int (nI k)), some (.int (nI (40 * s + (A + 2 * k))))], [.ref 84, .ref 84, .int ca], (HD, m, ml, mr))) rfl ?_
      refine wp_getr rfl ⟨by decide, rfl⟩ rfl (hM (84, 40, 100) (by decide)) ?_
      refine wp_steps 1 (t' := (75, [some (.ref 84), some (.int (nI s)), some (.int so), some (.int (nI A)), some (.int (nI n)), some (.int ca), some (.int (nI k)), some (.int (nI (40 * s + (A + 2 * k))))], [.int (nI (40 * s + (A + 2 * k))), .ref 100, .ref 84, .int ca], (HD, m, ml, mr))) rfl ?_
      refine wp_iald rfl ⟨by decide, rfl⟩ (aix_nI (by omega) (by decide)) ?_
      rw [nI_clamp (n := 40 * s + (A + 2 * k)) (by omega)]
      rw [z2]
      refine wp_steps 1 (t' := (77, [some (.ref 84), some (.int (nI s)), some (.int so), some (.int (nI A)), some (.int (nI n)), some (.int ca), some (.int (nI k)), some (.int (nI (40 * s + (A + 2 * k))))], [.ref 84, .int (mi 100 (40 * s + (A + 2 * k))), .ref 84, .int ca], (HD, m, ml, mr))) rfl ?_
      refine wp_getr rfl ⟨by decide, rfl⟩ rfl (hM (84, 40, 100) (by decide)) ?_
      refine wp_steps 3 (t' := (81, [some (.ref 84), some (.int (nI s)), some (.int so), some (.int (nI A)), some (.int (nI n)), some (.int ca), some (.int (nI k)), some (.int (nI (40 * s + (A + 2 * k))))], [.int ((nI (40 * s + (A + 2 * k))) + 1), .ref 100, .int (mi 100 (40 * s + (A + 2 * k))), .ref 84, .int ca], (HD, m, ml, mr))) rfl ?_
      rw [nI_1, show 40 * s + (A + 2 * k) + 1 = 40 * s + (A + 2 * k + 1) by omega]
      refine wp_iald rfl ⟨by decide, rfl⟩ (aix_nI (by omega) (by decide)) ?_
      rw [nI_clamp (n := 40 * s + (A + 2 * k + 1)) (by omega)]
      rw [z2]
      refine wp_calv (as := [.int (mi 100 (40 * s + (A + 2 * k))), .int (mi 100 (40 * s + (A + 2 * k + 1)))]) rfl rfl rfl (Nat.le_of_ble_eq_true rfl) ⟨by decide, rfl⟩ ((r_learner (ml := ml) hM h (kd := (mi 100 (40 * s + (A + 2 * k)))) (nu := (mi 100 (40 * s + (A + 2 * k + 1)))))) (by decide) ?_
      rintro _ _ ⟨rfl, m_1, rfl, h1, f1⟩
      show aWP _ _ (83, [some (.ref 84), some (.int (nI s)), some (.int so), some (.int (nI A)), some (.int (nI n)), some (.int ca), some (.int (nI k)), some (.int (nI (40 * s + (A + 2 * k))))], [.int (coV u (mi 100 (40 * s + (A + 2 * k))) (mi 100 (40 * s + (A + 2 * k + 1)))), .int ca], (HD, m_1, ml, mr)) _
      refine wp_bI rfl (fun c_4 => ?_) (fun c_4 => ?_)
      · have c_4 : (coV u (mi 100 (40 * s + (A + 2 * k))) (mi 100 (40 * s + (A + 2 * k + 1)))) < 0 := of_decide_eq_true c_4
        refine wp_steps 5 (t' := (41, [some (.ref 84), some (.int (nI s)), some (.int so), some (.int (nI A)), some (.int (nI n)), some (.int (ca + 0)), some (.int ((nI k) + Int32.ofInt 1)), some (.int (nI (40 * s + (A + 2 * k))))], [], (HD, m_1, ml, mr))) rfl ?_
        have e : lrS (nI Z) (fun j => mi 100 (40 * s + j)) (g + 1) (nI (A + 2 * k)) ca u = lrS (nI Z) (fun j => mi 100 (40 * s + j)) g (nI (A + 2 * k + 2)) (ca) (coS u (mi 100 (40 * s + (A + 2 * k))) (mi 100 (40 * s + (A + 2 * k + 1)))) := by
          rw [lrS_go hZ hB]
          rw [if_pos c_4]
        rw [e, inc_nI]
        rw [Int32.add_zero]
        have z := ih (k + 1) (ca) _ m_1 (some (.int (nI (40 * s + (A + 2 * k))))) (by omega) (Or.inr (by omega)) h1 (hf.tr f1)
        rw [show A + 2 * (k + 1) = A + 2 * k + 2 by omega] at z
        exact z
      · have c_4 : ¬ ((coV u (mi 100 (40 * s + (A + 2 * k))) (mi 100 (40 * s + (A + 2 * k + 1)))) < 0) := of_decide_eq_false c_4
        refine wp_steps 6 (t' := (41, [some (.ref 84), some (.int (nI s)), some (.int so), some (.int (nI A)), some (.int (nI n)), some (.int (ca + 1)), some (.int ((nI k) + Int32.ofInt 1)), some (.int (nI (40 * s + (A + 2 * k))))], [], (HD, m_1, ml, mr))) rfl ?_
        have e : lrS (nI Z) (fun j => mi 100 (40 * s + j)) (g + 1) (nI (A + 2 * k)) ca u = lrS (nI Z) (fun j => mi 100 (40 * s + j)) g (nI (A + 2 * k + 2)) (ca + 1) (coS u (mi 100 (40 * s + (A + 2 * k))) (mi 100 (40 * s + (A + 2 * k + 1)))) := by
          rw [lrS_go hZ hB]
          rw [if_neg c_4]
        rw [e, inc_nI]
        have z := ih (k + 1) (ca + 1) _ m_1 (some (.int (nI (40 * s + (A + 2 * k))))) (by omega) (Or.inr (by omega)) h1 (hf.tr f1)
        rw [show A + 2 * (k + 1) = A + 2 * k + 2 by omega] at z
        exact z
    · have c_3 : ¬ ((nI A) ≤ (((nI Z) - (nI (2 * k))) - 2)) := of_decide_eq_false c_3
      refine wp_steps 1 (t' := (59, [some (.ref 84), some (.int (nI s)), some (.int so), some (.int (nI A)), some (.int (nI n)), some (.int ca), some (.int (nI k)), o], [.int (-12)], (HD, m, ml, mr))) rfl ?_
      refine wp_ret rfl rfl ⟨⟨Nat.le_refl _, Nat.le_refl _⟩, ?_⟩
      have q : (nI A ≤ nI Z - nI (2 * k) - 2) ↔ A + 2 * k + 2 ≤ Z := by
        have t1 : (nI Z - nI (2 * k)).toInt = (Z : Int) - 2 * k := by rw [sub_t (by rw [nI_toInt (by omega)]; omega) (by rw [nI_toInt (by omega)]; omega), nI_toInt (by omega), nI_toInt (by omega)]; omega
        rw [Int32.le_iff_toInt_le, nI_toInt hA, sub_t (by rw [t1]; omega) (by decide), t1, show (2 : Int32).toInt = 2 from rfl]
        omega
      have e : lrS (nI Z) (fun j => mi 100 (40 * s + j)) (g + 1) (nI (A + 2 * k)) ca u = (-12, u) := lrS_no hZ (fun z => c_3 (q.mpr (by omega))) (by omega)
      rw [e]
      exact ⟨rfl, m, rfl, h, hf⟩
set_option maxRecDepth 20000 in
set_option maxHeartbeats 1000000 in
theorem r_learners_no {X : aXt × Value} {mi : Nat → Nat → Int32} {ml : Nat → Nat → Int64} {mr : Nat → Nat → Option Nat} (hM : MRok mr) {sh so fr n : Int32} (hg : ¬ aixn sh 4 = true) : aCW X 5 213 [.ref 84, .int sh, .int so, .int fr, .int n] (HD, mi, ml, mr) (fun r h' => r = some (.int (-2)) ∧ h' = (HD, mi, ml, mr)) := by
  refine cw_of (cd := cd_X7_learners) (nL := 8) rfl rfl ?_
  show aWP _ _ (0, [some (.ref 84), some (.int sh), some (.int so), some (.int fr), some (.int n), none, none, none], [], (HD, mi, ml, mr)) _
  refine wp_steps 1 (t' := (1, [some (.ref 84), some (.int sh), some (.int so), some (.int fr), some (.int n), none, none, none], [.int sh], (HD, mi, ml, mr))) rfl ?_
  refine wp_cal (as := [.int sh]) rfl rfl rfl (Nat.le_of_ble_eq_true rfl) ((c_isSheet_x (ml := ml) (mr := mr) hg)) (by decide) ?_
  rintro _ _ ⟨rfl, rfl⟩
  show aWP _ _ (2, [some (.ref 84), some (.int sh), some (.int so), some (.int fr), some (.int n), none, none, none], [.int 0], (HD, mi, ml, mr)) _
  refine wp_bI rfl (fun c_1 => ?_) (fun c_1 => ?_)
  rotate_left
  · have c_1 : ¬ ((0 : Int32) = 0) := of_decide_eq_false c_1
    exact absurd c_1 (by decide)
  have c_1 : (0 : Int32) = 0 := of_decide_eq_true c_1
  refine wp_steps 1 (t' := (16, [some (.ref 84), some (.int sh), some (.int so), some (.int fr), some (.int n), none, none, none], [.int (-2)], (HD, mi, ml, mr))) rfl ?_
  refine wp_ret rfl rfl ⟨⟨Nat.le_refl _, Nat.le_refl _⟩, ?_⟩
  exact ⟨rfl, rfl⟩
set_option maxRecDepth 20000 in
set_option maxHeartbeats 1000000 in
theorem r_learners_0 {X : aXt × Value} {mi : Nat → Nat → Int32} {ml : Nat → Nat → Int64} {mr : Nat → Nat → Option Nat} (hM : MRok mr) {s : Nat} (hs4 : s < 4) (hT : mi 97 s = 0) {so fr n : Int32} : aCW X 5 213 [.ref 84, .int (nI s), .int so, .int fr, .int n] (HD, mi, ml, mr) (fun r h' => r = some (.int (if inR 0 2 so ∧ inR 0 5 n then -11 else -2)) ∧ h' = (HD, mi, ml, mr)) := by
  refine cw_of (cd := cd_X7_learners) (nL := 8) rfl rfl ?_
  show aWP _ _ (0, [some (.ref 84), some (.int (nI s)), some (.int so), some (.int fr), some (.int n), none, none, none], [], (HD, mi, ml, mr)) _
  refine wp_steps 1 (t' := (1, [some (.ref 84), some (.int (nI s)), some (.int so), some (.int fr), some (.int n), none, none, none], [.int (nI s)], (HD, mi, ml, mr))) rfl ?_
  refine wp_cal (as := [.int (nI s)]) rfl rfl rfl (Nat.le_of_ble_eq_true rfl) ((c_isSheet_n (ml := ml) (mr := mr) hs4)) (by decide) ?_
  rintro _ _ ⟨rfl, rfl⟩
  show aWP _ _ (2, [some (.ref 84), some (.int (nI s)), some (.int so), some (.int fr), some (.int n), none, none, none], [.int 1], (HD, mi, ml, mr)) _
  refine wp_bI rfl (fun c_1 => ?_) (fun c_1 => ?_)
  · have c_1 : (1 : Int32) = 0 := of_decide_eq_true c_1
    exact absurd c_1 (by decide)
  have c_1 : ¬ ((1 : Int32) = 0) := of_decide_eq_false c_1
  refine wp_steps 4 (t' := (7, [some (.ref 84), some (.int (nI s)), some (.int so), some (.int fr), some (.int n), none, none, none], [.long 2, .long 0, .long so.toInt64], (HD, mi, ml, mr))) rfl ?_
  refine wp_cal (as := [.long so.toInt64, .long 0, .long 2]) rfl rfl rfl (Nat.le_of_ble_eq_true rfl) ((c_in (x := so) (lo := 0) (hi := 2) rfl (by decide) (by decide))) (by decide) ?_
  rintro _ _ ⟨rfl, rfl⟩
  show aWP _ _ (8, [some (.ref 84), some (.int (nI s)), some (.int so), some (.int fr), some (.int n), none, none, none], [.int (if inR 0 2 so then (1 : Int32) else 0)], (HD, mi, ml, mr)) _
  refine wp_bI rfl (fun c_2 => ?_) (fun c_2 => ?_)
  · have c_2 : (if inR 0 2 so then (1 : Int32) else 0) = 0 := of_decide_eq_true c_2
    refine wp_steps 1 (t' := (16, [some (.ref 84), some (.int (nI s)), some (.int so), some (.int fr), some (.int n), none, none, none], [.int (-2)], (HD, mi, ml, mr))) rfl ?_
    refine wp_ret rfl rfl ⟨⟨Nat.le_refl _, Nat.le_refl _⟩, ?_⟩
    exact ⟨by rw [if_neg (show ¬ (inR 0 2 so ∧ inR 0 5 n) from fun z => (i0_f c_2) z.1)], rfl⟩
  · have c_2 : ¬ ((if inR 0 2 so then (1 : Int32) else 0) = 0) := of_decide_eq_false c_2
    refine wp_steps 4 (t' := (13, [some (.ref 84), some (.int (nI s)), some (.int so), some (.int fr), some (.int n), none, none, none], [.long 5, .long 0, .long n.toInt64], (HD, mi, ml, mr))) rfl ?_
    refine wp_cal (as := [.long n.toInt64, .long 0, .long 5]) rfl rfl rfl (Nat.le_of_ble_eq_true rfl) ((c_in (x := n) (lo := 0) (hi := 5) rfl (by decide) (by decide))) (by decide) ?_
    rintro _ _ ⟨rfl, rfl⟩
    show aWP _ _ (14, [some (.ref 84), some (.int (nI s)), some (.int so), some (.int fr), some (.int n), none, none, none], [.int (if inR 0 5 n then (1 : Int32) else 0)], (HD, mi, ml, mr)) _
    refine wp_bI rfl (fun c_3 => ?_) (fun c_3 => ?_)
    · have c_3 : ¬ (if inR 0 5 n then (1 : Int32) else 0) = 0 := of_decide_eq_true c_3
      refine wp_steps 1 (t' := (18, [some (.ref 84), some (.int (nI s)), some (.int so), some (.int fr), some (.int n), none, none, none], [.ref 84], (HD, mi, ml, mr))) rfl ?_
      refine wp_getr rfl ⟨by decide, rfl⟩ rfl (hM (84, 37, 97) (by decide)) ?_
      refine wp_steps 1 (t' := (20, [some (.ref 84), some (.int (nI s)), some (.int so), some (.int fr), some (.int n), none, none, none], [.int (nI s), .ref 97], (HD, mi, ml, mr))) rfl ?_
      refine wp_zald rfl ⟨by decide, rfl⟩ (aix_nI (by omega) (by decide)) ?_
      rw [nI_clamp (n := s) (by omega)]
      rw [hT]
      refine wp_bI rfl (fun c_4 => ?_) (fun c_4 => ?_)
      rotate_left
      · have c_4 : ¬ ((0 : Int32) = 0) := of_decide_eq_false c_4
        exact absurd c_4 (by decide)
      have c_4 : (0 : Int32) = 0 := of_decide_eq_true c_4
      refine wp_steps 1 (t' := (31, [some (.ref 84), some (.int (nI s)), some (.int so), some (.int fr), some (.int n), none, none, none], [.ref 84], (HD, mi, ml, mr))) rfl ?_
      refine wp_getr rfl ⟨by decide, rfl⟩ rfl (hM (84, 37, 97) (by decide)) ?_
      refine wp_steps 1 (t' := (33, [some (.ref 84), some (.int (nI s)), some (.int so), some (.int fr), some (.int n), none, none, none], [.int (nI s), .ref 97], (HD, mi, ml, mr))) rfl ?_
      refine wp_zald rfl ⟨by decide, rfl⟩ (aix_nI (by omega) (by decide)) ?_
      rw [nI_clamp (n := s) (by omega)]
      rw [hT]
      refine wp_bI rfl (fun c_5 => ?_) (fun c_5 => ?_)
      · have c_5 : ¬ (0 : Int32) = 0 := of_decide_eq_true c_5
        exact absurd c_5 (by decide)
      have c_5 : (0 : Int32) = 0 := Decidable.not_not.mp (of_decide_eq_false c_5)
      refine wp_steps 1 (t' := (36, [some (.ref 84), some (.int (nI s)), some (.int so), some (.int fr), some (.int n), none, none, none], [.int (-11)], (HD, mi, ml, mr))) rfl ?_
      refine wp_ret rfl rfl ⟨⟨Nat.le_refl _, Nat.le_refl _⟩, ?_⟩
      exact ⟨by rw [if_pos (show inR 0 2 so ∧ inR 0 5 n from ⟨(i0_t c_2), (i0_t c_3)⟩)], rfl⟩
    · have c_3 : (if inR 0 5 n then (1 : Int32) else 0) = 0 := Decidable.not_not.mp (of_decide_eq_false c_3)
      refine wp_steps 1 (t' := (16, [some (.ref 84), some (.int (nI s)), some (.int so), some (.int fr), some (.int n), none, none, none], [.int (-2)], (HD, mi, ml, mr))) rfl ?_
      refine wp_ret rfl rfl ⟨⟨Nat.le_refl _, Nat.le_refl _⟩, ?_⟩
      exact ⟨by rw [if_neg (show ¬ (inR 0 2 so ∧ inR 0 5 n) from fun z => (i0_f c_3) z.2)], rfl⟩
set_option maxRecDepth 20000 in
set_option maxHeartbeats 1000000 in
theorem r_learners_1 {X : aXt × Value} {mi : Nat → Nat → Int32} {ml : Nat → Nat → Int64} {mr : Nat → Nat → Option Nat} (hM : MRok mr) {s : Nat} (hs4 : s < 4) (hT : mi 97 s = 1) {Z : Nat} (hz : mi 99 s = nI Z) (hZ : Z ≤ 40) {so fr n : Int32} {u : lS} (h : LSr mi u) : aCW X 5 213 [.ref 84, .int (nI s), .int so, .int fr, .int n] (HD, mi, ml, mr) (fun r h' => r = some (.int (if inR 0 2 so ∧ inR 0 5 n then (if mi 98 s = so then (lrS (nI Z) (fun j => mi 100 (40 * s + j)) n.toNatClampNeg fr 0 u).1 else -13) else -2)) ∧ ∃ m', h' = (HD, m', ml, mr) ∧ LSr m' (if inR 0 2 so ∧ inR 0 5 n ∧ mi 98 s = so then (lrS (nI Z) (fun j => mi 100 (40 * s + j)) n.toNatClampNeg fr 0 u).2 else u) ∧ frL mi m') := by
  refine cw_of (cd := cd_X7_learners) (nL := 8) rfl rfl ?_
  show aWP _ _ (0, [some (.ref 84), some (.int (nI s)), some (.int so), some (.int fr), some (.int n), none, none, none], [], (HD, mi, ml, mr)) _
  refine wp_steps 1 (t' := (1, [some (.ref 84), some (.int (nI s)), some (.int so), some (.int fr), some (.int n), none, none, none], [.int (nI s)], (HD, mi, ml, mr))) rfl ?_
  refine wp_cal (as := [.int (nI s)]) rfl rfl rfl (Nat.le_of_ble_eq_true rfl) ((c_isSheet_n (ml := ml) (mr := mr) hs4)) (by decide) ?_
  rintro _ _ ⟨rfl, rfl⟩
  show aWP _ _ (2, [some (.ref 84), some (.int (nI s)), some (.int so), some (.int fr), some (.int n), none, none, none], [.int 1], (HD, mi, ml, mr)) _
  refine wp_bI rfl (fun c_1 => ?_) (fun c_1 => ?_)
  · have c_1 : (1 : Int32) = 0 := of_decide_eq_true c_1
    exact absurd c_1 (by decide)
  have c_1 : ¬ ((1 : Int32) = 0) := of_decide_eq_false c_1
  refine wp_steps 4 (t' := (7, [some (.ref 84), some (.int (nI s)), some (.int so), some (.int fr), some (.int n), none, none, none], [.long 2, .long 0, .long so.toInt64], (HD, mi, ml, mr))) rfl ?_
  refine wp_cal (as := [.long so.toInt64, .long 0, .long 2]) rfl rfl rfl (Nat.le_of_ble_eq_true rfl) ((c_in (x := so) (lo := 0) (hi := 2) rfl (by decide) (by decide))) (by decide) ?_
  rintro _ _ ⟨rfl, rfl⟩
  show aWP _ _ (8, [some (.ref 84), some (.int (nI s)), some (.int so), some (.int fr), some (.int n), none, none, none], [.int (if inR 0 2 so then (1 : Int32) else 0)], (HD, mi, ml, mr)) _
  refine wp_bI rfl (fun c_2 => ?_) (fun c_2 => ?_)
  · have c_2 : (if inR 0 2 so then (1 : Int32) else 0) = 0 := of_decide_eq_true c_2
    refine wp_steps 1 (t' := (16, [some (.ref 84), some (.int (nI s)), some (.int so), some (.int fr), some (.int n), none, none, none], [.int (-2)], (HD, mi, ml, mr))) rfl ?_
    refine wp_ret rfl rfl ⟨⟨Nat.le_refl _, Nat.le_refl _⟩, ?_⟩
    have q : ¬ (inR 0 2 so ∧ inR 0 5 n ∧ mi 98 s = so) := fun z => (show ¬ (inR 0 2 so ∧ inR 0 5 n) from fun z => (i0_f c_2) z.1) ⟨z.1, z.2.1⟩
    exact ⟨by rw [if_neg (show ¬ (inR 0 2 so ∧ inR 0 5 n) from fun z => (i0_f c_2) z.1)], mi, rfl, by rw [if_neg q]; exact h, frL.rf mi⟩
  · have c_2 : ¬ ((if inR 0 2 so then (1 : Int32) else 0) = 0) := of_decide_eq_false c_2
    refine wp_steps 4 (t' := (13, [some (.ref 84), some (.int (nI s)), some (.int so), some (.int fr), some (.int n), none, none, none], [.long 5, .long 0, .long n.toInt64], (HD, mi, ml, mr))) rfl ?_
    refine wp_cal (as := [.long n.toInt64, .long 0, .long 5]) rfl rfl rfl (Nat.le_of_ble_eq_true rfl) ((c_in (x := n) (lo := 0) (hi := 5) rfl (by decide) (by decide))) (by decide) ?_
    rintro _ _ ⟨rfl, rfl⟩
    show aWP _ _ (14, [some (.ref 84), some (.int (nI s)), some (.int so), some (.int fr), some (.int n), none, none, none], [.int (if inR 0 5 n then (1 : Int32) else 0)], (HD, mi, ml, mr)) _
    refine wp_bI rfl (fun c_3 => ?_) (fun c_3 => ?_)
    · have c_3 : ¬ (if inR 0 5 n then (1 : Int32) else 0) = 0 := of_decide_eq_true c_3
      refine wp_steps 1 (t' := (18, [some (.ref 84), some (.int (nI s)), some (.int so), some (.int fr), some (.int n), none, none, none], [.ref 84], (HD, mi, ml, mr))) rfl ?_
      refine wp_getr rfl ⟨by decide, rfl⟩ rfl (hM (84, 37, 97) (by decide)) ?_
      refine wp_steps 1 (t' := (20, [some (.ref 84), some (.int (nI s)), some (.int so), some (.int fr), some (.int n), none, none, none], [.int (nI s), .ref 97], (HD, mi, ml, mr))) rfl ?_
      refine wp_zald rfl ⟨by decide, rfl⟩ (aix_nI (by omega) (by decide)) ?_
      rw [nI_clamp (n := s) (by omega)]
      rw [hT]
      refine wp_bI rfl (fun c_4 => ?_) (fun c_4 => ?_)
      · have c_4 : (1 : Int32) = 0 := of_decide_eq_true c_4
        exact absurd c_4 (by decide)
      have c_4 : ¬ ((1 : Int32) = 0) := of_decide_eq_false c_4
      refine wp_steps 1 (t' := (23, [some (.ref 84), some (.int (nI s)), some (.int so), some (.int fr), some (.int n), none, none, none], [.ref 84], (HD, mi, ml, mr))) rfl ?_
      refine wp_getr rfl ⟨by decide, rfl⟩ rfl (hM (84, 38, 98) (by decide)) ?_
      refine wp_steps 1 (t' := (25, [some (.ref 84), some (.int (nI s)), some (.int so), some (.int fr), some (.int n), none, none, none], [.int (nI s), .ref 98], (HD, mi, ml, mr))) rfl ?_
      refine wp_iald rfl ⟨by decide, rfl⟩ (aix_nI (by omega) (by decide)) ?_
      rw [nI_clamp (n := s) (by omega)]
      refine wp_steps 1 (t' := (27, [some (.ref 84), some (.int (nI s)), some (.int so), some (.int fr), some (.int n), none, none, none], [.int so, .int (mi 98 s)], (HD, mi, ml, mr))) rfl ?_
      refine wp_bC rfl (fun c_5 => ?_) (fun c_5 => ?_)
      · have c_5 : (mi 98 s) = so := of_decide_eq_true c_5
        refine wp_steps 1 (t' := (31, [some (.ref 84), some (.int (nI s)), some (.int so), some (.int fr), some (.int n), none, none, none], [.ref 84], (HD, mi, ml, mr))) rfl ?_
        refine wp_getr rfl ⟨by decide, rfl⟩ rfl (hM (84, 37, 97) (by decide)) ?_
        refine wp_steps 1 (t' := (33, [some (.ref 84), some (.int (nI s)), some (.int so), some (.int fr), some (.int n), none, none, none], [.int (nI s), .ref 97], (HD, mi, ml, mr))) rfl ?_
        refine wp_zald rfl ⟨by decide, rfl⟩ (aix_nI (by omega) (by decide)) ?_
        rw [nI_clamp (n := s) (by omega)]
        rw [hT]
        refine wp_bI rfl (fun c_6 => ?_) (fun c_6 => ?_)
        rotate_left
        · have c_6 : (1 : Int32) = 0 := Decidable.not_not.mp (of_decide_eq_false c_6)
          exact absurd c_6 (by decide)
        have c_6 : ¬ (1 : Int32) = 0 := of_decide_eq_true c_6
        refine wp_steps 4 (t' := (41, [some (.ref 84), some (.int (nI s)), some (.int so), some (.int fr), some (.int n), some (.int 0), some (.int 0), none], [], (HD, mi, ml, mr))) rfl ?_
        have hG := (show inR 0 2 so ∧ inR 0 5 n from ⟨(i0_t c_2), (i0_t c_3)⟩)
        have q : inR 0 2 so ∧ inR 0 5 n ∧ mi 98 s = so := ⟨hG.1, hG.2, c_5⟩
        rw [if_pos hG, if_pos c_5, if_pos q]
        have h6 := (inR_ax (hi := 5) (n := 6) (by decide) (by decide)).mp hG.2
        by_cases hfr : fr < 0
        · skip
          refine wp_steps 2 (t' := (43, [some (.ref 84), some (.int (nI s)), some (.int so), some (.int fr), some (.int n), some (.int 0), some (.int 0), none], [.int n, .int 0], (HD, mi, ml, mr))) rfl ?_
          refine wp_bC rfl (fun c_71 => ?_) (fun c_71 => ?_)
          · have c_71 : n ≤ 0 := of_decide_eq_true c_71
            refine wp_steps 1 (t' := (92, [some (.ref 84), some (.int (nI s)), some (.int so), some (.int fr), some (.int n), some (.int 0), some (.int 0), none], [.int 0], (HD, mi, ml, mr))) rfl ?_
            refine wp_ret rfl rfl ⟨⟨Nat.le_refl _, Nat.le_refl _⟩, ?_⟩
            have hn0 : n.toNatClampNeg = 0 := by
              have a := (aix_eq h6).1
              have b := c_71
              rw [a, Int32.le_iff_toInt_le, nI_toInt (Nat.lt_trans (aix_out h6).2 (by decide)), show (0 : Int32).toInt = 0 from rfl] at b
              omega
            have e : lrS (nI Z) (fun j => mi 100 (40 * s + j)) n.toNatClampNeg fr 0 u = (0, u) := by rw [hn0]; rfl
            exact ⟨by rw [e], mi, rfl, by rw [e]; exact h, frL.rf mi⟩
          · have c_71 : ¬ (n ≤ 0) := of_decide_eq_false c_71
            refine wp_steps 1 (t' := (45, [some (.ref 84), some (.int (nI s)), some (.int so), some (.int fr), some (.int n), some (.int 0), some (.int 0), none], [.int fr], (HD, mi, ml, mr))) rfl ?_
            refine wp_bI rfl (fun c_72 => ?_) (fun c_72 => ?_)
            rotate_left
            · have c_72 : ¬ (fr < 0) := of_decide_eq_false c_72
              exact absurd hfr c_72
            have c_72 : fr < 0 := of_decide_eq_true c_72
            refine wp_steps 1 (t' := (59, [some (.ref 84), some (.int (nI s)), some (.int so), some (.int fr), some (.int n), some (.int 0), some (.int 0), none], [.int (-12)], (HD, mi, ml, mr))) rfl ?_
            refine wp_ret rfl rfl ⟨⟨Nat.le_refl _, Nat.le_refl _⟩, ?_⟩
            have hn1 : n.toNatClampNeg = (n.toNatClampNeg - 1) + 1 := by
              have : n.toNatClampNeg ≠ 0 := fun z => c_71 (by rw [(aix_eq h6).1, z]; decide)
              omega
            have e : lrS (nI Z) (fun j => mi 100 (40 * s + j)) n.toNatClampNeg fr 0 u = (-12, u) := by
              rw [hn1]
              show (if _ then _ else if _ then _ else _) = _
              rw [if_pos ((hsF_Z hZ).mpr (fun z => (aix_out z).1 hfr))]
            exact ⟨by rw [e], mi, rfl, by rw [e]; exact h, frL.rf mi⟩
        obtain ⟨A, hA, e⟩ := nI_of hfr
        have l := l_rlearners (X := X) (mi := mi) (ml := ml) hM hs4 hz hZ (so := so) (n := n.toNatClampNeg) (A := A) (Nat.le_of_lt_succ (aix_out h6).2) hA n.toNatClampNeg 0 0 u mi none (by omega) (Or.inl rfl) h (frL.rf mi)
        rw [← (aix_eq h6).1, show A + 2 * 0 = A by omega, ← e] at l
        exact l
      · have c_5 : ¬ ((mi 98 s) = so) := of_decide_eq_false c_5
        refine wp_steps 1 (t' := (29, [some (.ref 84), some (.int (nI s)), some (.int so), some (.int fr), some (.int n), none, none, none], [.int (-13)], (HD, mi, ml, mr))) rfl ?_
        refine wp_ret rfl rfl ⟨⟨Nat.le_refl _, Nat.le_refl _⟩, ?_⟩
        have q : ¬ (inR 0 2 so ∧ inR 0 5 n ∧ mi 98 s = so) := fun z => c_5 z.2.2
        exact ⟨by rw [if_pos (show inR 0 2 so ∧ inR 0 5 n from ⟨(i0_t c_2), (i0_t c_3)⟩), if_neg c_5], mi, rfl, by rw [if_neg q]; exact h, frL.rf mi⟩
    · have c_3 : (if inR 0 5 n then (1 : Int32) else 0) = 0 := Decidable.not_not.mp (of_decide_eq_false c_3)
      refine wp_steps 1 (t' := (16, [some (.ref 84), some (.int (nI s)), some (.int so), some (.int fr), some (.int n), none, none, none], [.int (-2)], (HD, mi, ml, mr))) rfl ?_
      refine wp_ret rfl rfl ⟨⟨Nat.le_refl _, Nat.le_refl _⟩, ?_⟩
      have q : ¬ (inR 0 2 so ∧ inR 0 5 n ∧ mi 98 s = so) := fun z => (show ¬ (inR 0 2 so ∧ inR 0 5 n) from fun z => (i0_f c_3) z.2) ⟨z.1, z.2.1⟩
      exact ⟨by rw [if_neg (show ¬ (inR 0 2 so ∧ inR 0 5 n) from fun z => (i0_f c_3) z.2)], mi, rfl, by rw [if_neg q]; exact h, frL.rf mi⟩
