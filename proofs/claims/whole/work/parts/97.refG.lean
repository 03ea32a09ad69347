/-! the reference: what is drawn, a chance; the first item that is otherwise (written by wip/whole/mkrefG.py) -/
def pbLg (F : Int32 → Int32) (sk : Nat → Int32) : Nat → Int32 → Int32 → Int32 → Int32
  | 0, _, _, n => n
  | g + 1, d, p, n => pbLg F sk g (F d) (F p) (if fushr (F p) 9 - fushr (F p) 9 / 100 * 100 < sk (fushr (F d) 9 - fushr (F d) 9 / 8 * 8).toNatClampNeg then n + 1 else n)
theorem pbL_g (sk : Nat → Int32) : ∀ (g : Nat) (d p n : Int32), pbL sk g d p n = pbLg nxD sk g d p n
  | 0, _, _, _ => rfl
  | g + 1, d, p, n => by
    unfold pbL pbLg
    exact pbL_g sk g _ _ _
theorem itF_c (f : Int32 → Int32) : ∀ (n : Nat) (z : Int32), itF f (n + 1) z = f (itF f n z)
  | 0, _ => rfl
  | n + 1, z => itF_c f n (f z)
def dg8 (x : Int32) : Int32 := fushr x 9 - fushr x 9 / 8 * 8
set_option maxRecDepth 20000 in
set_option maxHeartbeats 1000000 in
theorem l_rp2 {X : aXt × Value} {mi : Nat → Nat → Int32} {ml : Nat → Nat → Int64} {mr : Nat → Nat → Option Nat} (hM : MRok mr) {p : Nat} (hp5 : p < 5) {F : Int32 → Int32} (hF : ∀ z : Int32, z * 1103515245 + 12345 = F z) {z0 : Int32} {m : Nat → Nat → Int32} (hm : m 91 = mi 91) (ha : ∀ j, j < 5 → m 93 j = dg8 (itF F (j + 1) z0)) : ∀ (g k : Nat) (n : Int32), k + g = 5 → aWP (aEx (aTb X) 1) cd_X7_passes (28, [some (.ref 84), some (.int z0), some (.int (nI p)), some (.int (itF F (5 + k) z0)), some (.int n), some (.int (nI k))], [], (HD, m, ml, mr)) (fun r h' => (HD.1 ≤ h'.1.1 ∧ HD.2.1 ≤ h'.1.2.1) ∧ r = some (.int (pbLg F (puR mi p).2.2.2.2 g (itF F k z0) (itF F (5 + k) z0) n)) ∧ h' = (HD, m, ml, mr)) := by
  intro g
  induction g with
  | zero =>
    intro k n hg
    obtain rfl : k = 5 := by omega
    refine wp_steps 2 (t' := (30, [some (.ref 84), some (.int z0), some (.int (nI p)), some (.int (itF F (5 + 5) z0)), some (.int n), some (.int (nI 5))], [.int 5, .int (nI 5)], (HD, m, ml, mr))) rfl ?_
    refine wp_bC rfl (fun c_1 => ?_) (fun c_1 => ?_)
    rotate_left
    · have c_1 : ¬ (5 ≤ (nI 5)) := of_decide_eq_false c_1
      exact absurd (by decide) c_1
    have c_1 : 5 ≤ (nI 5) := of_decide_eq_true c_1
    refine wp_steps 1 (t' := (61, [some (.ref 84), some (.int z0), some (.int (nI p)), some (.int (itF F (5 + 5) z0)), some (.int n), some (.int (nI 5))], [.int n], (HD, m, ml, mr))) rfl ?_
    refine wp_ret rfl rfl ⟨⟨Nat.le_refl _, Nat.le_refl _⟩, ?_⟩
    exact ⟨rfl, rfl⟩
  | succ g ih =>
    intro k n hg
    have hk : k < 5 := by omega
    refine wp_steps 2 (t' := (30, [some (.ref 84), some (.int z0), some (.int (nI p)), some (.int (itF F (5 + k) z0)), some (.int n), some (.int (nI k))], [.int 5, .int (nI k)], (HD, m, ml, mr))) rfl ?_
    refine wp_bC rfl (fun c_1 => ?_) (fun c_1 => ?_)
    · have c_1 : 5 ≤ (nI k) := of_decide_eq_true c_1
      exact absurd c_1 (nI_ge hk (by decide))
    have c_1 : ¬ (5 ≤ (nI k)) := of_decide_eq_false c_1
    refine wp_steps 5 (t' := (36, [some (.ref 84), some (.int z0), some (.int (nI p)), some (.int (itF F (5 + k) z0)), some (.int n), some (.int (nI k))], [.int (((itF F (5 + k) z0) * 1103515245) + 12345)], (HD, m, ml, mr))) rfl ?_
    rw [hF]
    refine wp_steps 8 (t' := (44, [some (.ref 84), some (.int z0), some (.int (nI p)), some (.int (F (itF F (5 + k) z0))), some (.int n), some (.int (nI k))], [.ref 84, .int ((fushr (F (itF F (5 + k) z0)) 9) - (fushr (F (itF F (5 + k) z0)) 9) / 100 * 100), .int n], (HD, m, ml, mr))) rfl ?_
    refine wp_getr rfl ⟨by decide, rfl⟩ rfl (hM (84, 11, 91) (by decide)) ?_
    refine wp_steps 2 (t' := (47, [some (.ref 84), some (.int z0), some (.int (nI p)), some (.int (F (itF F (5 + k) z0))), some (.int n), some (.int (nI k))], [.ref 84, .int (nI p), .ref 91, .int ((fushr (F (itF F (5 + k) z0)) 9) - (fushr (F (itF F (5 + k) z0)) 9) / 100 * 100), .int n], (HD, m, ml, mr))) rfl ?_
    refine wp_getr rfl ⟨by decide, rfl⟩ rfl (hM (84, 30, 93) (by decide)) ?_
    refine wp_steps 1 (t' := (49, [some (.ref 84), some (.int z0), some (.int (nI p)), some (.int (F (itF F (5 + k) z0))), some (.int n), some (.int (nI k))], [.int (nI k), .ref 93, .int (nI p), .ref 91, .int ((fushr (F (itF F (5 + k) z0)) 9) - (fushr (F (itF F (5 + k) z0)) 9) / 100 * 100), .int n], (HD, m, ml, mr))) rfl ?_
    refine wp_iald rfl ⟨by decide, rfl⟩ (aix_nI hk (by decide)) ?_
    rw [nI_clamp (n := k) (by first | omega | (have := (aix_out (fu8 (itF F (k + 1) z0))).2; unfold dg8; omega))]
    rw [ha k hk]
    refine wp_cal (as := [.int (nI p), .int (dg8 (itF F (k + 1) z0))]) rfl rfl rfl (Nat.le_of_ble_eq_true rfl) ((c_rat_i (mi := m) (ml := ml) (n := 8) (s := dg8 (itF F (k + 1) z0)) (fu8 _))) (by decide) ?_
    rintro _ _ ⟨rfl, rfl⟩
    show aWP _ _ (51, [some (.ref 84), some (.int z0), some (.int (nI p)), some (.int (F (itF F (5 + k) z0))), some (.int n), some (.int (nI k))], [.int (nI (10 * p + (dg8 (itF F (k + 1) z0)).toNatClampNeg)), .ref 91, .int ((fushr (F (itF F (5 + k) z0)) 9) - (fushr (F (itF F (5 + k) z0)) 9) / 100 * 100), .int n], (HD, m, ml, mr)) _
    refine wp_iald rfl ⟨by decide, rfl⟩ (aix_nI (by have := (aix_out (fu8 (itF F (k + 1) z0))).2; unfold dg8; omega) (by decide)) ?_
    rw [nI_clamp (n := 10 * p + (dg8 (itF F (k + 1) z0)).toNatClampNeg) (by first | omega | (have := (aix_out (fu8 (itF F (k + 1) z0))).2; unfold dg8; omega))]
    rw [show m 91 (10 * p + (dg8 (itF F (k + 1) z0)).toNatClampNeg) = (puR mi p).2.2.2.2 (dg8 (itF F (k + 1) z0)).toNatClampNeg from by rw [hm]; exact sk_R (aix_out (fu8 _)).2]
    refine wp_bC rfl (fun c_2 => ?_) (fun c_2 => ?_)
    · have c_2 : ((puR mi p).2.2.2.2 (dg8 (itF F (k + 1) z0)).toNatClampNeg) ≤ ((fushr (F (itF F (5 + k) z0)) 9) - (fushr (F (itF F (5 + k) z0)) 9) / 100 * 100) := of_decide_eq_true c_2
      refine wp_steps 5 (t' := (28, [some (.ref 84), some (.int z0), some (.int (nI p)), some (.int (F (itF F (5 + k) z0))), some (.int (n + 0)), some (.int ((nI k) + Int32.ofInt 1))], [], (HD, m, ml, mr))) rfl ?_
      have ec : itF F (k + 1) z0 = F (itF F k z0) := itF_c F k z0
      have ez : itF F (5 + (k + 1)) z0 = F (itF F (5 + k) z0) := itF_c F (5 + k) z0
      rw [ec] at c_2
      have e : (if fushr (F (itF F (5 + k) z0)) 9 - fushr (F (itF F (5 + k) z0)) 9 / 100 * 100 < (puR mi p).2.2.2.2 (fushr (F (itF F k z0)) 9 - fushr (F (itF F k z0)) 9 / 8 * 8).toNatClampNeg then n + 1 else n) = n := if_neg (Int32.not_lt.mpr c_2)
      have q := ih (k + 1) (n) (by omega)
      rw [ec, ez] at q
      rw [inc_nI]
      rw [Int32.add_zero]
      unfold pbLg
      rw [e]
      exact q
    · have c_2 : ¬ (((puR mi p).2.2.2.2 (dg8 (itF F (k + 1) z0)).toNatClampNeg) ≤ ((fushr (F (itF F (5 + k) z0)) 9) - (fushr (F (itF F (5 + k) z0)) 9) / 100 * 100)) := of_decide_eq_false c_2
      refine wp_steps 6 (t' := (28, [some (.ref 84), some (.int z0), some (.int (nI p)), some (.int (F (itF F (5 + k) z0))), some (.int (n + 1)), some (.int ((nI k) + Int32.ofInt 1))], [], (HD, m, ml, mr))) rfl ?_
      have ec : itF F (k + 1) z0 = F (itF F k z0) := itF_c F k z0
      have ez : itF F (5 + (k + 1)) z0 = F (itF F (5 + k) z0) := itF_c F (5 + k) z0
      rw [ec] at c_2
      have e : (if fushr (F (itF F (5 + k) z0)) 9 - fushr (F (itF F (5 + k) z0)) 9 / 100 * 100 < (puR mi p).2.2.2.2 (fushr (F (itF F k z0)) 9 - fushr (F (itF F k z0)) 9 / 8 * 8).toNatClampNeg then n + 1 else n) = n + 1 := if_pos (Int32.not_le.mp c_2)
      have q := ih (k + 1) (n + 1) (by omega)
      rw [ec, ez] at q
      rw [inc_nI]
      unfold pbLg
      rw [e]
      exact q
set_option maxRecDepth 20000 in
set_option maxHeartbeats 1000000 in
theorem l_rp1 {X : aXt × Value} {mi : Nat → Nat → Int32} {ml : Nat → Nat → Int64} {mr : Nat → Nat → Option Nat} (hM : MRok mr) {p : Nat} (hp5 : p < 5) {F : Int32 → Int32} (hF : ∀ z : Int32, z * 1103515245 + 12345 = F z) {z0 : Int32} : ∀ (g k : Nat) (m : Nat → Nat → Int32), k + g = 5 → (∀ x j, x ≠ 93 → m x j = mi x j) → (∀ j, j < k → m 93 j = dg8 (itF F (j + 1) z0)) → aWP (aEx (aTb X) 1) cd_X7_passes (4, [some (.ref 84), some (.int z0), some (.int (nI p)), some (.int (itF F k z0)), some (.int (nI k)), none], [], (HD, m, ml, mr)) (fun r h' => (HD.1 ≤ h'.1.1 ∧ HD.2.1 ≤ h'.1.2.1) ∧ r = some (.int (pbLg F (puR mi p).2.2.2.2 5 z0 (itF F 5 z0) 0)) ∧ ∃ m', h' = (HD, m', ml, mr) ∧ ∀ x j, x ≠ 93 → m' x j = mi x j) := by
  intro g
  induction g with
  | zero =>
    intro k m hg hf he
    obtain rfl : k = 5 := by omega
    refine wp_steps 2 (t' := (6, [some (.ref 84), some (.int z0), some (.int (nI p)), some (.int (itF F 5 z0)), some (.int (nI 5)), none], [.int 5, .int (nI 5)], (HD, m, ml, mr))) rfl ?_
    refine wp_bC rfl (fun c_1 => ?_) (fun c_1 => ?_)
    rotate_left
    · have c_1 : ¬ (5 ≤ (nI 5)) := of_decide_eq_false c_1
      exact absurd (by decide) c_1
    have c_1 : 5 ≤ (nI 5) := of_decide_eq_true c_1
    refine wp_steps 4 (t' := (28, [some (.ref 84), some (.int z0), some (.int (nI p)), some (.int (itF F 5 z0)), some (.int 0), some (.int 0)], [], (HD, m, ml, mr))) rfl ?_
    refine wp_mono (l_rp2 (mi := mi) (ml := ml) hM hp5 hF (funext fun j => hf 91 j (by decide)) he 5 0 0 rfl) ?_
    rintro _ _ ⟨x1, rfl, rfl⟩
    exact ⟨x1, rfl, m, rfl, hf⟩
  | succ g ih =>
    intro k m hg hf he
    have hk : k < 5 := by omega
    refine wp_steps 2 (t' := (6, [some (.ref 84), some (.int z0), some (.int (nI p)), some (.int (itF F k z0)), some (.int (nI k)), none], [.int 5, .int (nI k)], (HD, m, ml, mr))) rfl ?_
    refine wp_bC rfl (fun c_1 => ?_) (fun c_1 => ?_)
    · have c_1 : 5 ≤ (nI k) := of_decide_eq_true c_1
      exact absurd c_1 (nI_ge hk (by decide))
    have c_1 : ¬ (5 ≤ (nI k)) := of_decide_eq_false c_1
    refine wp_steps 5 (t' := (12, [some (.ref 84), some (.int z0), some (.int (nI p)), some (.int (itF F k z0)), some (.int (nI k)), none], [.int (((itF F k z0) * 1103515245) + 12345)], (HD, m, ml, mr))) rfl ?_
    rw [hF]
    refine wp_steps 2 (t' := (14, [some (.ref 84), some (.int z0), some (.int (nI p)), some (.int (F (itF F k z0))), some (.int (nI k)), none], [.ref 84], (HD, m, ml, mr))) rfl ?_
    refine wp_getr rfl ⟨by decide, rfl⟩ rfl (hM (84, 30, 93) (by decide)) ?_
    refine wp_steps 6 (t' := (21, [some (.ref 84), some (.int z0), some (.int (nI p)), some (.int (F (itF F k z0))), some (.int (nI k)), none], [.int ((fushr (F (itF F k z0)) 9) - (fushr (F (itF F k z0)) 9) / 8 * 8), .int (nI k), .ref 93], (HD, m, ml, mr))) rfl ?_
    refine wp_iast rfl ⟨by decide, rfl⟩ (aix_nI hk (by decide)) (fun m_2 h_3 => ?_)
    subst h_3
    rw [nI_clamp (n := k) (by omega)]
    refine wp_steps 2 (t' := (4, [some (.ref 84), some (.int z0), some (.int (nI p)), some (.int (F (itF F k z0))), some (.int ((nI k) + Int32.ofInt 1)), none], [], (HD, (aup m 93 k ((fushr (F (itF F k z0)) 9) - (fushr (F (itF F k z0)) 9) / 8 * 8)), ml, mr))) rfl ?_
    rw [inc_nI, ← itF_c F k z0]
    refine ih (k + 1) _ (by omega) (fun x j h1 => ?_) (fun j hj => ?_)
    · rw [← hf x j h1]; simp only [aup, if_neg h1]
    · by_cases e : j = k
      · subst e; simp only [aup, if_pos]; rfl
      · simp only [aup, if_pos, if_neg e]; exact he j (by omega)
set_option maxRecDepth 20000 in
set_option maxHeartbeats 1000000 in
theorem r_passes {X : aXt × Value} {mi : Nat → Nat → Int32} {ml : Nat → Nat → Int64} {mr : Nat → Nat → Option Nat} (hM : MRok mr) {p : Nat} (hp5 : p < 5) {z0 : Int32} : aCW X 2 203 [.ref 84, .int z0, .int (nI p)] (HD, mi, ml, mr) (fun r h' => r = some (.int (pbG (puR mi p).2.2.2.2 z0)) ∧ ∃ m', h' = (HD, m', ml, mr) ∧ ∀ x j, x ≠ 93 → m' x j = mi x j) := by
  refine cw_of (cd := cd_X7_passes) (nL := 6) rfl rfl ?_
  show aWP _ _ (0, [some (.ref 84), some (.int z0), some (.int (nI p)), none, none, none], [], (HD, mi, ml, mr)) _
  refine wp_steps 4 (t' := (4, [some (.ref 84), some (.int z0), some (.int (nI p)), some (.int z0), some (.int 0), none], [], (HD, mi, ml, mr))) rfl ?_
  unfold pbG
  rw [pbL_g]
  have hF : ∀ z : Int32, z * 1103515245 + 12345 = nxD z := fun z => by unfold nxD; rfl
  generalize nxD = F at hF ⊢
  exact l_rp1 (F := F) hM hp5 hF 5 0 mi rfl (fun _ _ _ => rfl) (fun j hj => absurd hj (Nat.not_lt_zero j))
set_option maxRecDepth 20000 in
set_option maxHeartbeats 1000000 in
theorem q_drawn_no {X : aXt × Value} {mi : Nat → Nat → Int32} {ml : Nat → Nat → Int64} {mr : Nat → Nat → Option Nat} (hM : MRok mr) {N : Nat} (hN : mi 84 12 = nI N) (hN5 : N ≤ 5) {z0 one : Int32} (hg : ¬ aixn one N = true) : aCW X 4 204 [.ref 84, .int z0, .int one] (HD, mi, ml, mr) (qR mi mr (.int (-2))) := by
  refine cw_of (cd := cd_X7_drawn) (nL := 3) rfl rfl ?_
  show aWP _ _ (0, [some (.ref 84), some (.int z0), some (.int one)], [], (HD, mi, ml, mr)) _
  refine wp_steps 2 (t' := (2, [some (.ref 84), some (.int z0), some (.int one)], [.int one, .ref 84], (HD, mi, ml, mr))) rfl ?_
  refine wp_calv (as := [.int one]) rfl rfl rfl (Nat.le_of_ble_eq_true rfl) ⟨by decide, rfl⟩ ((c_isOne_no (ml := ml) hM hN hN5 hg)) (by decide) ?_
  rintro _ _ ⟨rfl, rfl⟩
  show aWP _ _ (3, [some (.ref 84), some (.int z0), some (.int one)], [.int 0], (HD, mi, ml, mr)) _
  refine wp_bI rfl (fun c_1 => ?_) (fun c_1 => ?_)
  rotate_left
  · have c_1 : ¬ ((0 : Int32) = 0) := of_decide_eq_false c_1
    exact absurd c_1 (by decide)
  have c_1 : (0 : Int32) = 0 := of_decide_eq_true c_1
  refine wp_steps 1 (t' := (10, [some (.ref 84), some (.int z0), some (.int one)], [.int (-2)], (HD, mi, ml, mr))) rfl ?_
  refine wp_ret rfl rfl ⟨⟨Nat.le_refl _, Nat.le_refl _⟩, ?_⟩
  exact ⟨rfl, mi, ml, rfl, frQ.rf mi⟩
set_option maxRecDepth 20000 in
set_option maxHeartbeats 1000000 in
theorem q_drawn_ok {X : aXt × Value} {mi : Nat → Nat → Int32} {ml : Nat → Nat → Int64} {mr : Nat → Nat → Option Nat} (hM : MRok mr) {N : Nat} (hN : mi 84 12 = nI N) (hN5 : N ≤ 5) {p : Nat} (hpN : p < N) {z0 : Int32} : aCW X 4 204 [.ref 84, .int z0, .int (nI p)] (HD, mi, ml, mr) (qR mi mr (.int (pbG (puR mi p).2.2.2.2 z0))) := by
  have hp5 : p < 5 := by omega
  refine cw_of (cd := cd_X7_drawn) (nL := 3) rfl rfl ?_
  show aWP _ _ (0, [some (.ref 84), some (.int z0), some (.int (nI p))], [], (HD, mi, ml, mr)) _
  refine wp_steps 2 (t' := (2, [some (.ref 84), some (.int z0), some (.int (nI p))], [.int (nI p), .ref 84], (HD, mi, ml, mr))) rfl ?_
  refine wp_calv (as := [.int (nI p)]) rfl rfl rfl (Nat.le_of_ble_eq_true rfl) ⟨by decide, rfl⟩ ((c_isOne_ok (mi := mi) (ml := ml) hM hN hN5 hpN)) (by decide) ?_
  rintro _ _ ⟨rfl, rfl⟩
  show aWP _ _ (3, [some (.ref 84), some (.int z0), some (.int (nI p))], [.int 1], (HD, mi, ml, mr)) _
  refine wp_bI rfl (fun c_1 => ?_) (fun c_1 => ?_)
  · have c_1 : (1 : Int32) = 0 := of_decide_eq_true c_1
    exact absurd c_1 (by decide)
  have c_1 : ¬ ((1 : Int32) = 0) := of_decide_eq_false c_1
  refine wp_steps 3 (t' := (7, [some (.ref 84), some (.int z0), some (.int (nI p))], [.int (nI p), .int z0, .ref 84], (HD, mi, ml, mr))) rfl ?_
  refine wp_calv (as := [.int z0, .int (nI p)]) rfl rfl rfl (Nat.le_of_ble_eq_true rfl) ⟨by decide, rfl⟩ ((r_passes (ml := ml) hM hp5)) (by decide) ?_
  rintro _ _ ⟨rfl, m_1, rfl, f1⟩
  show aWP _ _ (8, [some (.ref 84), some (.int z0), some (.int (nI p))], [.int (pbG (puR mi p).2.2.2.2 z0)], (HD, m_1, ml, mr)) _
  refine wp_steps 1 (t' := (10, [some (.ref 84), some (.int z0), some (.int (nI p))], [.int (pbG (puR mi p).2.2.2.2 z0)], (HD, m_1, ml, mr))) rfl ?_
  refine wp_ret rfl rfl ⟨⟨Nat.le_refl _, Nat.le_refl _⟩, ?_⟩
  exact ⟨rfl, m_1, ml, rfl, fun k j _ _ k93 => f1 k j k93⟩
set_option maxRecDepth 20000 in
set_option maxHeartbeats 1000000 in
theorem q_chance_no {X : aXt × Value} {mi : Nat → Nat → Int32} {ml : Nat → Nat → Int64} {mr : Nat → Nat → Option Nat} (hM : MRok mr) {N : Nat} (hN : mi 84 12 = nI N) (hN5 : N ≤ 5) {z0 m one w : Int32} (hg : ¬ aixn one N = true) : aCW X 4 205 [.ref 84, .int z0, .int m, .int one, .int w] (HD, mi, ml, mr) (qR mi mr (.long ((-4611686018427387904)))) := by
  refine cw_of (cd := cd_X7_chance) (nL := 8) rfl rfl ?_
  show aWP _ _ (0, [some (.ref 84), some (.int z0), some (.int m), some (.int one), some (.int w), none, none, none], [], (HD, mi, ml, mr)) _
  refine wp_steps 2 (t' := (2, [some (.ref 84), some (.int z0), some (.int m), some (.int one), some (.int w), none, none, none], [.int one, .ref 84], (HD, mi, ml, mr))) rfl ?_
  refine wp_calv (as := [.int one]) rfl rfl rfl (Nat.le_of_ble_eq_true rfl) ⟨by decide, rfl⟩ ((c_isOne_no (ml := ml) hM hN hN5 hg)) (by decide) ?_
  rintro _ _ ⟨rfl, rfl⟩
  show aWP _ _ (3, [some (.ref 84), some (.int z0), some (.int m), some (.int one), some (.int w), none, none, none], [.int 0], (HD, mi, ml, mr)) _
  refine wp_bI rfl (fun c_1 => ?_) (fun c_1 => ?_)
  rotate_left
  · have c_1 : ¬ ((0 : Int32) = 0) := of_decide_eq_false c_1
    exact absurd c_1 (by decide)
  have c_1 : (0 : Int32) = 0 := of_decide_eq_true c_1
  refine wp_steps 1 (t' := (17, [some (.ref 84), some (.int z0), some (.int m), some (.int one), some (.int w), none, none, none], [.long (-4611686018427387904)], (HD, mi, ml, mr))) rfl ?_
  refine wp_ret rfl rfl ⟨⟨Nat.le_refl _, Nat.le_refl _⟩, ?_⟩
  exact ⟨rfl, mi, ml, rfl, frQ.rf mi⟩
set_option maxRecDepth 20000 in
set_option maxHeartbeats 1000000 in
theorem l_rchance {X : aXt × Value} {mi : Nat → Nat → Int32} {ml : Nat → Nat → Int64} {mr : Nat → Nat → Option Nat} (hM : MRok mr) {p : Nat} (hp5 : p < 5) {z0 w : Int32} {n : Nat} (hn0 : 0 < n) (hn : n ≤ 20) : ∀ (g k : Nat) (m : Nat → Nat → Int32), k + g = n → (∀ x j, x ≠ 93 → m x j = mi x j) → aWP (aEx (aTb X) 3) cd_X7_chance (22, [some (.ref 84), some (.int z0), some (.int (nI n)), some (.int (nI p)), some (.int w), some (.long (lN (chN (puR mi p).2.2.2.2 z0 k))), none, some (.int (nI k))], [], (HD, m, ml, mr)) (fun r h' => (HD.1 ≤ h'.1.1 ∧ HD.2.1 ≤ h'.1.2.1) ∧ r = some (.long (loG (chN (puR mi p).2.2.2.2 z0 n) n w)) ∧ ∃ m', h' = (HD, m', ml, mr) ∧ ∀ x j, x ≠ 93 → m' x j = mi x j) := by
  intro g
  induction g with
  | zero =>
    intro k m hg hf
    obtain rfl : k = n := by omega
    have hcn : chN (puR mi p).2.2.2.2 z0 k ≤ 10 ^ 16 := Nat.le_trans (chN_le _ _ k) (by omega)
    refine wp_steps 2 (t' := (24, [some (.ref 84), some (.int z0), some (.int (nI k)), some (.int (nI p)), some (.int w), some (.long (lN (chN (puR mi p).2.2.2.2 z0 k))), none, some (.int (nI k))], [.int (nI k), .int (nI k)], (HD, m, ml, mr))) rfl ?_
    refine wp_bC rfl (fun c_1 => ?_) (fun c_1 => ?_)
    rotate_left
    · have c_1 : ¬ ((nI k) ≤ (nI k)) := of_decide_eq_false c_1
      exact absurd (Int32.le_refl _) c_1
    have c_1 : (nI k) ≤ (nI k) := of_decide_eq_true c_1
    refine wp_steps 3 (t' := (44, [some (.ref 84), some (.int z0), some (.int (nI k)), some (.int (nI p)), some (.int w), some (.long (lN (chN (puR mi p).2.2.2.2 z0 k))), none, some (.int (nI k))], [.long ((nI k).toInt64), .long (lN (chN (puR mi p).2.2.2.2 z0 k))], (HD, m, ml, mr))) rfl ?_
    rw [nI_l (show k < 2 ^ 31 by omega)]
    refine wp_steps 1 (t' := (45, [some (.ref 84), some (.int z0), some (.int (nI k)), some (.int (nI p)), some (.int w), some (.long (lN (chN (puR mi p).2.2.2.2 z0 k))), none, some (.int (nI k))], [.int w, .long (lN k), .long (lN (chN (puR mi p).2.2.2.2 z0 k))], (HD, m, ml, mr))) rfl ?_
    refine wp_cal (as := [.long (lN (chN (puR mi p).2.2.2.2 z0 k)), .long (lN k), .int w]) rfl rfl rfl (Nat.le_of_ble_eq_true rfl) ((r_lowest (mi := m) (ml := ml) (mr := mr) (a := chN (puR mi p).2.2.2.2 z0 k) (b := k) (w := w) hcn (by omega) hn0)) (by decide) ?_
    rintro _ _ ⟨rfl, rfl⟩
    show aWP _ _ (46, [some (.ref 84), some (.int z0), some (.int (nI k)), some (.int (nI p)), some (.int w), some (.long (lN (chN (puR mi p).2.2.2.2 z0 k))), none, some (.int (nI k))], [.long (loG (chN (puR mi p).2.2.2.2 z0 k) k w)], (HD, m, ml, mr)) _
    refine wp_ret rfl rfl ⟨⟨Nat.le_refl _, Nat.le_refl _⟩, ?_⟩
    exact ⟨rfl, m, rfl, hf⟩
  | succ g ih =>
    intro k m hg hf
    refine wp_steps 2 (t' := (24, [some (.ref 84), some (.int z0), some (.int (nI n)), some (.int (nI p)), some (.int w), some (.long (lN (chN (puR mi p).2.2.2.2 z0 k))), none, some (.int (nI k))], [.int (nI n), .int (nI k)], (HD, m, ml, mr))) rfl ?_
    refine wp_bC rfl (fun c_1 => ?_) (fun c_1 => ?_)
    · have c_1 : (nI n) ≤ (nI k) := of_decide_eq_true c_1
      exact absurd c_1 (nI_ge (a := k) (b := n) (by omega) (by omega))
    have c_1 : ¬ ((nI n) ≤ (nI k)) := of_decide_eq_false c_1
    refine wp_steps 6 (t' := (31, [some (.ref 84), some (.int z0), some (.int (nI n)), some (.int (nI p)), some (.int w), some (.long (lN (chN (puR mi p).2.2.2.2 z0 k))), none, some (.int (nI k))], [.int (nI p), .int (z0 + (nI k)), .ref 84, .long (lN (chN (puR mi p).2.2.2.2 z0 k))], (HD, m, ml, mr))) rfl ?_
    refine wp_calv (as := [.int (z0 + (nI k)), .int (nI p)]) rfl rfl rfl (Nat.le_of_ble_eq_true rfl) ⟨by decide, rfl⟩ ((r_passes (mi := m) (ml := ml) hM hp5 (z0 := z0 + nI k))) (by decide) ?_
    rintro _ _ ⟨rfl, m_1, rfl, f1⟩
    rw [show puR m p = puR mi p from by unfold puR; rw [show m 89 = mi 89 from funext fun j => hf 89 j (by decide), show m 90 = mi 90 from funext fun j => hf 90 j (by decide), show m 91 = mi 91 from funext fun j => hf 91 j (by decide)]]
    show aWP _ _ (32, [some (.ref 84), some (.int z0), some (.int (nI n)), some (.int (nI p)), some (.int w), some (.long (lN (chN (puR mi p).2.2.2.2 z0 k))), none, some (.int (nI k))], [.int (pbG (puR mi p).2.2.2.2 (z0 + nI k)), .long (lN (chN (puR mi p).2.2.2.2 z0 k))], (HD, m_1, ml, mr)) _
    refine wp_steps 1 (t' := (33, [some (.ref 84), some (.int z0), some (.int (nI n)), some (.int (nI p)), some (.int w), some (.long (lN (chN (puR mi p).2.2.2.2 z0 k))), none, some (.int (nI k))], [.int 5, .int (pbG (puR mi p).2.2.2.2 (z0 + nI k)), .long (lN (chN (puR mi p).2.2.2.2 z0 k))], (HD, m_1, ml, mr))) rfl ?_
    refine wp_bC rfl (fun c_2 => ?_) (fun c_2 => ?_)
    · have c_2 : ¬ (pbG (puR mi p).2.2.2.2 (z0 + nI k)) = 5 := of_decide_eq_true c_2
      refine wp_steps 5 (t' := (22, [some (.ref 84), some (.int z0), some (.int (nI n)), some (.int (nI p)), some (.int w), some (.long ((lN (chN (puR mi p).2.2.2.2 z0 k)) + 0)), none, some (.int ((nI k) + Int32.ofInt 1))], [], (HD, m_1, ml, mr))) rfl ?_
      have e : chN (puR mi p).2.2.2.2 z0 (k + 1) = chN (puR mi p).2.2.2.2 z0 k := if_neg c_2
      rw [show lN (chN (puR mi p).2.2.2.2 z0 k) + 0 = lN (chN (puR mi p).2.2.2.2 z0 (k + 1)) by rw [e]; exact lN_add _ 0]
      rw [inc_nI]
      exact ih (k + 1) m_1 (by omega) (fun x j h1 => (f1 x j h1).trans (hf x j h1))
    · have c_2 : (pbG (puR mi p).2.2.2.2 (z0 + nI k)) = 5 := Decidable.not_not.mp (of_decide_eq_false c_2)
      refine wp_steps 6 (t' := (22, [some (.ref 84), some (.int z0), some (.int (nI n)), some (.int (nI p)), some (.int w), some (.long ((lN (chN (puR mi p).2.2.2.2 z0 k)) + 1)), none, some (.int ((nI k) + Int32.ofInt 1))], [], (HD, m_1, ml, mr))) rfl ?_
      have e : chN (puR mi p).2.2.2.2 z0 (k + 1) = chN (puR mi p).2.2.2.2 z0 k + 1 := if_pos c_2
      rw [show lN (chN (puR mi p).2.2.2.2 z0 k) + 1 = lN (chN (puR mi p).2.2.2.2 z0 (k + 1)) by rw [e]; exact lN_1 _]
      rw [inc_nI]
      exact ih (k + 1) m_1 (by omega) (fun x j h1 => (f1 x j h1).trans (hf x j h1))
set_option maxRecDepth 20000 in
set_option maxHeartbeats 1000000 in
theorem q_chance_ok {X : aXt × Value} {mi : Nat → Nat → Int32} {ml : Nat → Nat → Int64} {mr : Nat → Nat → Option Nat} (hM : MRok mr) {N : Nat} (hN : mi 84 12 = nI N) (hN5 : N ≤ 5) {p : Nat} (hpN : p < N) {z0 m w : Int32} : aCW X 4 205 [.ref 84, .int z0, .int m, .int (nI p), .int w] (HD, mi, ml, mr) (qR mi mr (.long (if inR 1 20 m ∧ inR 0 1 w then loG (chN (puR mi p).2.2.2.2 z0 m.toNatClampNeg) m.toNatClampNeg w else (-4611686018427387904)))) := by
  have hp5 : p < 5 := by omega
  refine cw_of (cd := cd_X7_chance) (nL := 8) rfl rfl ?_
  show aWP _ _ (0, [some (.ref 84), some (.int z0), some (.int m), some (.int (nI p)), some (.int w), none, none, none], [], (HD, mi, ml, mr)) _
  refine wp_steps 2 (t' := (2, [some (.ref 84), some (.int z0), some (.int m), some (.int (nI p)), some (.int w), none, none, none], [.int (nI p), .ref 84], (HD, mi, ml, mr))) rfl ?_
  refine wp_calv (as := [.int (nI p)]) rfl rfl rfl (Nat.le_of_ble_eq_true rfl) ⟨by decide, rfl⟩ ((c_isOne_ok (mi := mi) (ml := ml) hM hN hN5 hpN)) (by decide) ?_
  rintro _ _ ⟨rfl, rfl⟩
  show aWP _ _ (3, [some (.ref 84), some (.int z0), some (.int m), some (.int (nI p)), some (.int w), none, none, none], [.int 1], (HD, mi, ml, mr)) _
  refine wp_bI rfl (fun c_1 => ?_) (fun c_1 => ?_)
  · have c_1 : (1 : Int32) = 0 := of_decide_eq_true c_1
    exact absurd c_1 (by decide)
  have c_1 : ¬ ((1 : Int32) = 0) := of_decide_eq_false c_1
  refine wp_steps 4 (t' := (8, [some (.ref 84), some (.int z0), some (.int m), some (.int (nI p)), some (.int w), none, none, none], [.long 20, .long 1, .long m.toInt64], (HD, mi, ml, mr))) rfl ?_
  refine wp_cal (as := [.long m.toInt64, .long 1, .long 20]) rfl rfl rfl (Nat.le_of_ble_eq_true rfl) ((c_in (x := m) (lo := 1) (hi := 20) rfl (by decide) (by decide))) (by decide) ?_
  rintro _ _ ⟨rfl, rfl⟩
  show aWP _ _ (9, [some (.ref 84), some (.int z0), some (.int m), some (.int (nI p)), some (.int w), none, none, none], [.int (if inR 1 20 m then (1 : Int32) else 0)], (HD, mi, ml, mr)) _
  refine wp_bI rfl (fun c_2 => ?_) (fun c_2 => ?_)
  · have c_2 : (if inR 1 20 m then (1 : Int32) else 0) = 0 := of_decide_eq_true c_2
    refine wp_steps 1 (t' := (17, [some (.ref 84), some (.int z0), some (.int m), some (.int (nI p)), some (.int w), none, none, none], [.long (-4611686018427387904)], (HD, mi, ml, mr))) rfl ?_
    refine wp_ret rfl rfl ⟨⟨Nat.le_refl _, Nat.le_refl _⟩, ?_⟩
    exact ⟨by rw [if_neg (show ¬ (inR 1 20 m ∧ inR 0 1 w) from fun z => (i0_f c_2) z.1)], mi, ml, rfl, frQ.rf mi⟩
  · have c_2 : ¬ ((if inR 1 20 m then (1 : Int32) else 0) = 0) := of_decide_eq_false c_2
    refine wp_steps 4 (t' := (14, [some (.ref 84), some (.int z0), some (.int m), some (.int (nI p)), some (.int w), none, none, none], [.long 1, .long 0, .long w.toInt64], (HD, mi, ml, mr))) rfl ?_
    refine wp_cal (as := [.long w.toInt64, .long 0, .long 1]) rfl rfl rfl (Nat.le_of_ble_eq_true rfl) ((c_in (x := w) (lo := 0) (hi := 1) rfl (by decide) (by decide))) (by decide) ?_
    rintro _ _ ⟨rfl, rfl⟩
    show aWP _ _ (15, [some (.ref 84), some (.int z0), some (.int m), some (.int (nI p)), some (.int w), none, none, none], [.int (if inR 0 1 w then (1 : Int32) else 0)], (HD, mi, ml, mr)) _
    refine wp_bI rfl (fun c_3 => ?_) (fun c_3 => ?_)
    · have c_3 : ¬ (if inR 0 1 w then (1 : Int32) else 0) = 0 := of_decide_eq_true c_3
      refine wp_steps 4 (t' := (22, [some (.ref 84), some (.int z0), some (.int m), some (.int (nI p)), some (.int w), some (.long 0), none, some (.int 0)], [], (HD, mi, ml, mr))) rfl ?_
      have hG := (show inR 1 20 m ∧ inR 0 1 w from ⟨(i0_t c_2), (i0_t c_3)⟩)
      obtain ⟨n, hn0, hn, e⟩ := ax120 hG.1
      rw [if_pos hG]
      subst e
      rw [nI_clamp (n := n) (by omega)]
      refine wp_mono (l_rchance (z0 := z0) (w := w) hM hp5 hn0 hn n 0 mi (by omega) (fun _ _ _ => rfl)) ?_
      rintro _ _ ⟨x1, x2, m_1, rfl, f1⟩
      exact ⟨x1, x2, m_1, ml, rfl, fun k j _ _ k93 => f1 k j k93⟩
    · have c_3 : (if inR 0 1 w then (1 : Int32) else 0) = 0 := Decidable.not_not.mp (of_decide_eq_false c_3)
      refine wp_steps 1 (t' := (17, [some (.ref 84), some (.int z0), some (.int m), some (.int (nI p)), some (.int w), none, none, none], [.long (-4611686018427387904)], (HD, mi, ml, mr))) rfl ?_
      refine wp_ret rfl rfl ⟨⟨Nat.le_refl _, Nat.le_refl _⟩, ?_⟩
      exact ⟨by rw [if_neg (show ¬ (inR 1 20 m ∧ inR 0 1 w) from fun z => (i0_f c_3) z.2)], mi, ml, rfl, frQ.rf mi⟩
