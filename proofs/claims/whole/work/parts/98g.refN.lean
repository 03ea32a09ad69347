/-! the reference: film, copy (written by wip/whole/mkrefN.py) -/
theorem WY.self {p : Nat} {c0 c1 c2 : List Int32} {ma m : Nat → Nat → Int32} {t : tW} {u : pU} (h : WY p c0 c1 c2 ma m t u) : WY p c0 c1 c2 m m t u := ⟨frW.rf p m, h.2⟩
/-- an item is laid: what is on the way stays -/
theorem WY.it {p : Nat} {c0 c1 c2 : List Int32} {ma m : Nat → Nat → Int32} {t : tW} {u : pU} {j : Nat} {v : Int32} (h : WY p c0 c1 c2 ma m t u) : WY p c0 c1 c2 (aup m 100 j v) (aup m 100 j v) t u := by
  obtain ⟨h1, h2, h3, h4, h5⟩ := h
  refine ⟨frW.rf p _, by rw [← h2]; rfl, by rw [← h3]; rfl, ?_, h5⟩
  obtain ⟨R, n, v0, a1, a2, a3⟩ := h4
  exact ⟨R, n, v0, a1, a2, a3.fr (fun _ _ => rfl) rfl⟩
/-- alike but for learner p on the way, and sheet s's items -/
def frF (p s : Nat) (m m' : Nat → Nat → Int32) : Prop := ∀ k j, ¬ (k = 84 ∧ (13 ≤ j ∧ j ≤ 27 ∨ j = 7)) → ¬ (k = 91 ∧ 10 * p ≤ j ∧ j < 10 * p + 10) → ¬ (k = 100 ∧ 40 * s ≤ j ∧ j < 40 * s + 40) → m' k j = m k j
set_option maxRecDepth 20000 in
set_option maxHeartbeats 1000000 in
theorem l_rfilm {X : aXt × Value} {mr : Nat → Nat → Option Nat} (hM : MRok mr) {c0 c1 c2 : List Int32} {p : Nat} (hp5 : p < 5) {ma : Nat → Nat → Int32} {s : Nat} (hs4 : s < 4) {sH : Int32} (hx : aixn (sH / 10) 8 = true) {t : tW} {u : pU} {n : Nat} (hn : n ≤ 40) {Q : Option Value → aM → Prop} (hk : (∀ m' w', frF p s ma m' → (∀ j, j < n → m' 100 (40 * s + j) = (fhG t (sH / 10).toNatClampNeg (sH - sH / 10 * 10) (j + 1) u).2.2.2.2 (sH / 10).toNatClampNeg) → aWP (aEx (aTb X) 48) cd_X7_film (59, [some (.ref 84), some (.int (nI s)), some (.int (nI p)), some (.int sH), some (.int (nI n)), some (.int (nI n))], [], (HD, m', w', mr)) Q)) : ∀ (g k : Nat) (m : Nat → Nat → Int32) (w : Nat → Nat → Int64), k + g = n → WY p c0 c1 c2 m m t (fhG t (sH / 10).toNatClampNeg (sH - sH / 10 * 10) k u) → frF p s ma m → (∀ j, j < k → m 100 (40 * s + j) = (fhG t (sH / 10).toNatClampNeg (sH - sH / 10 * 10) (j + 1) u).2.2.2.2 (sH / 10).toNatClampNeg) → aWP (aEx (aTb X) 48) cd_X7_film (29, [some (.ref 84), some (.int (nI s)), some (.int (nI p)), some (.int sH), some (.int (nI n)), some (.int (nI k))], [], (HD, m, w, mr)) Q := by
  intro g
  induction g with
  | zero =>
    intro k m w hg h hf hi
    obtain rfl : k = n := by omega
    refine wp_steps 2 (t' := (31, [some (.ref 84), some (.int (nI s)), some (.int (nI p)), some (.int sH), some (.int (nI k)), some (.int (nI k))], [.int (nI k), .int (nI k)], (HD, m, w, mr))) rfl ?_
    refine wp_bC rfl (fun c_1 => ?_) (fun c_1 => ?_)
    rotate_left
    · have c_1 : ¬ ((nI k) ≤ (nI k)) := of_decide_eq_false c_1
      exact absurd (Int32.le_refl _) c_1
    have c_1 : (nI k) ≤ (nI k) := of_decide_eq_true c_1
    exact hk m w hf hi
  | succ g ih =>
    intro k m w hg h hf hi
    have hkn : k < n := by omega
    have hx8 := (aix_out hx).2
    refine wp_steps 2 (t' := (31, [some (.ref 84), some (.int (nI s)), some (.int (nI p)), some (.int sH), some (.int (nI n)), some (.int (nI k))], [.int (nI n), .int (nI k)], (HD, m, w, mr))) rfl ?_
    refine wp_bC rfl (fun c_1 => ?_) (fun c_1 => ?_)
    · have c_1 : (nI n) ≤ (nI k) := of_decide_eq_true c_1
      exact absurd c_1 (nI_ge (a := k) (b := n) hkn (by omega))
    have c_1 : ¬ ((nI n) ≤ (nI k)) := of_decide_eq_false c_1
    refine wp_steps 8 (t' := (40, [some (.ref 84), some (.int (nI s)), some (.int (nI p)), some (.int sH), some (.int (nI n)), some (.int (nI k))], [.int (sH - sH / 10 * 10), .int (sH / 10), .int (nI p), .ref 84], (HD, m, w, mr))) rfl ?_
    refine wp_calv (as := [.int (nI p), .int (sH / 10), .int (sH - sH / 10 * 10)]) rfl rfl rfl (Nat.le_of_ble_eq_true rfl) ⟨by decide, rfl⟩ ((y_hour (w := w) (hp := (sH - sH / 10 * 10)) hM hp5 h hx)) (by decide) ?_
    rintro _ _ ⟨rfl, m_1, w_1, rfl, h1⟩
    show aWP _ _ (41, [some (.ref 84), some (.int (nI s)), some (.int (nI p)), some (.int sH), some (.int (nI n)), some (.int (nI k))], [], (HD, m_1, w_1, mr)) _
    refine wp_steps 1 (t' := (42, [some (.ref 84), some (.int (nI s)), some (.int (nI p)), some (.int sH), some (.int (nI n)), some (.int (nI k))], [.ref 84], (HD, m_1, w_1, mr))) rfl ?_
    refine wp_getr rfl ⟨by decide, rfl⟩ rfl (hM (84, 40, 100) (by decide)) ?_
    refine wp_steps 3 (t' := (46, [some (.ref 84), some (.int (nI s)), some (.int (nI p)), some (.int sH), some (.int (nI n)), some (.int (nI k))], [.int (40 * (nI s)), .ref 100], (HD, m_1, w_1, mr))) rfl ?_
    rw [show (40 : Int32) * nI s = nI (40 * s) from (Int32.ofNat_mul 40 s).symm]
    refine wp_steps 2 (t' := (48, [some (.ref 84), some (.int (nI s)), some (.int (nI p)), some (.int sH), some (.int (nI n)), some (.int (nI k))], [.int ((nI (40 * s)) + (nI k)), .ref 100], (HD, m_1, w_1, mr))) rfl ?_
    rw [nI_add]
    refine wp_steps 1 (t' := (49, [some (.ref 84), some (.int (nI s)), some (.int (nI p)), some (.int sH), some (.int (nI n)), some (.int (nI k))], [.ref 84, .int (nI (40 * s + k)), .ref 100], (HD, m_1, w_1, mr))) rfl ?_
    refine wp_getr rfl ⟨by decide, rfl⟩ rfl (hM (84, 11, 91) (by decide)) ?_
    refine wp_steps 4 (t' := (54, [some (.ref 84), some (.int (nI s)), some (.int (nI p)), some (.int sH), some (.int (nI n)), some (.int (nI k))], [.int (sH / 10), .int (nI p), .ref 91, .int (nI (40 * s + k)), .ref 100], (HD, m_1, w_1, mr))) rfl ?_
    refine wp_cal (as := [.int (nI p), .int (sH / 10)]) rfl rfl rfl (Nat.le_of_ble_eq_true rfl) ((c_rat_i (mi := m_1) (ml := w_1) hx)) (by decide) ?_
    rintro _ _ ⟨rfl, rfl⟩
    show aWP _ _ (55, [some (.ref 84), some (.int (nI s)), some (.int (nI p)), some (.int sH), some (.int (nI n)), some (.int (nI k))], [.int (nI (10 * p + (sH / 10).toNatClampNeg)), .ref 91, .int (nI (40 * s + k)), .ref 100], (HD, m_1, w_1, mr)) _
    refine wp_iald rfl ⟨by decide, rfl⟩ (aix_nI (by first | omega | (have := hx8; omega)) (by decide)) ?_
    rw [nI_clamp (n := 10 * p + (sH / 10).toNatClampNeg) (by first | omega | (have := hx8; omega))]
    rw [show m_1 91 (10 * p + (sH / 10).toNatClampNeg) = (fhG t (sH / 10).toNatClampNeg (sH - sH / 10 * 10) (k + 1) u).2.2.2.2 (sH / 10).toNatClampNeg from by rw [sk_R (m := m_1) (p := p) hx8, h1.2.1]; rfl]
    refine wp_iast rfl ⟨by decide, rfl⟩ (aix_nI (by first | omega | (have := hx8; omega)) (by decide)) (fun m_2 h_3 => ?_)
    subst h_3
    rw [nI_clamp (n := 40 * s + k) (by omega)]
    refine wp_steps 2 (t' := (29, [some (.ref 84), some (.int (nI s)), some (.int (nI p)), some (.int sH), some (.int (nI n)), some (.int ((nI k) + Int32.ofInt 1))], [], (HD, (aup m_1 100 (40 * s + k) ((fhG t (sH / 10).toNatClampNeg (sH - sH / 10 * 10) (k + 1) u).2.2.2.2 (sH / 10).toNatClampNeg)), w_1, mr))) rfl ?_
    rw [inc_nI]
    refine ih (k + 1) _ w_1 (by omega) (h1.it) (fun x j q1 q2 q3 => ?_) (fun j hj => ?_)
    · rw [← hf x j q1 q2 q3, ← h1.1 x j q1 q2]; unfold aup; by_cases e : x = 100
      · rw [if_pos e, if_neg (fun z => q3 ⟨e, by omega, by omega⟩)]
      · rw [if_neg e]
    · by_cases e : j = k
      · subst e; simp only [aup, if_pos]
      · have e2 : ¬ 40 * s + j = 40 * s + k := by omega
        simp only [aup, if_pos, if_neg e2]
        rw [h1.1 100 _ (by omega) (by omega)]; exact hi j (by omega)
set_option maxRecDepth 20000 in
set_option maxHeartbeats 1000000 in
theorem r_film_no1 {X : aXt × Value} {mi : Nat → Nat → Int32} {ml : Nat → Nat → Int64} {mr : Nat → Nat → Option Nat} (hM : MRok mr) {sh one sH n : Int32} (hg2 : ¬ aixn sh 4 = true) : aCW X 49 202 [.ref 84, .int sh, .int one, .int sH, .int n] (HD, mi, ml, mr) (fun r h' => r = some (.int (-2)) ∧ h' = (HD, mi, ml, mr)) := by
  refine cw_of (cd := cd_X7_film) (nL := 6) rfl rfl ?_
  show aWP _ _ (0, [some (.ref 84), some (.int sh), some (.int one), some (.int sH), some (.int n), none], [], (HD, mi, ml, mr)) _
  refine wp_steps 1 (t' := (1, [some (.ref 84), some (.int sh), some (.int one), some (.int sH), some (.int n), none], [.int sh], (HD, mi, ml, mr))) rfl ?_
  refine wp_cal (as := [.int sh]) rfl rfl rfl (Nat.le_of_ble_eq_true rfl) ((c_isSheet_x (ml := ml) (mr := mr) hg2)) (by decide) ?_
  rintro _ _ ⟨rfl, rfl⟩
  show aWP _ _ (2, [some (.ref 84), some (.int sh), some (.int one), some (.int sH), some (.int n), none], [.int 0], (HD, mi, ml, mr)) _
  refine wp_bI rfl (fun c_1 => ?_) (fun c_1 => ?_)
  rotate_left
  · have c_1 : ¬ ((0 : Int32) = 0) := of_decide_eq_false c_1
    exact absurd c_1 (by decide)
  have c_1 : (0 : Int32) = 0 := of_decide_eq_true c_1
  refine wp_steps 1 (t' := (17, [some (.ref 84), some (.int sh), some (.int one), some (.int sH), some (.int n), none], [.int (-2)], (HD, mi, ml, mr))) rfl ?_
  refine wp_ret rfl rfl ⟨⟨Nat.le_refl _, Nat.le_refl _⟩, ?_⟩
  exact ⟨rfl, rfl⟩
set_option maxRecDepth 20000 in
set_option maxHeartbeats 1000000 in
theorem r_film_no2 {X : aXt × Value} {mi : Nat → Nat → Int32} {ml : Nat → Nat → Int64} {mr : Nat → Nat → Option Nat} (hM : MRok mr) {N : Nat} (hN : mi 84 12 = nI N) (hN5 : N ≤ 5) {s : Nat} (hs4 : s < 4) {one sH n : Int32} (hg : ¬ aixn one N = true) : aCW X 49 202 [.ref 84, .int (nI s), .int one, .int sH, .int n] (HD, mi, ml, mr) (fun r h' => r = some (.int (-2)) ∧ h' = (HD, mi, ml, mr)) := by
  refine cw_of (cd := cd_X7_film) (nL := 6) rfl rfl ?_
  show aWP _ _ (0, [some (.ref 84), some (.int (nI s)), some (.int one), some (.int sH), some (.int n), none], [], (HD, mi, ml, mr)) _
  refine wp_steps 1 (t' := (1, [some (.ref 84), some (.int (nI s)), some (.int one), some (.int sH), some (.int n), none], [.int (nI s)], (HD, mi, ml, mr))) rfl ?_
  refine wp_cal (as := [.int (nI s)]) rfl rfl rfl (Nat.le_of_ble_eq_true rfl) ((c_isSheet_n (ml := ml) (mr := mr) hs4)) (by decide) ?_
  rintro _ _ ⟨rfl, rfl⟩
  show aWP _ _ (2, [some (.ref 84), some (.int (nI s)), some (.int one), some (.int sH), some (.int n), none], [.int 1], (HD, mi, ml, mr)) _
  refine wp_bI rfl (fun c_1 => ?_) (fun c_1 => ?_)
  · have c_1 : (1 : Int32) = 0 := of_decide_eq_true c_1
    exact absurd c_1 (by decide)
  have c_1 : ¬ ((1 : Int32) = 0) := of_decide_eq_false c_1
  refine wp_steps 2 (t' := (5, [some (.ref 84), some (.int (nI s)), some (.int one), some (.int sH), some (.int n), none], [.int one, .ref 84], (HD, mi, ml, mr))) rfl ?_
  refine wp_calv (as := [.int one]) rfl rfl rfl (Nat.le_of_ble_eq_true rfl) ⟨by decide, rfl⟩ ((c_isOne_no (ml := ml) hM hN hN5 hg)) (by decide) ?_
  rintro _ _ ⟨rfl, rfl⟩
  show aWP _ _ (6, [some (.ref 84), some (.int (nI s)), some (.int one), some (.int sH), some (.int n), none], [.int 0], (HD, mi, ml, mr)) _
  refine wp_bI rfl (fun c_2 => ?_) (fun c_2 => ?_)
  rotate_left
  · have c_2 : ¬ ((0 : Int32) = 0) := of_decide_eq_false c_2
    exact absurd c_2 (by decide)
  have c_2 : (0 : Int32) = 0 := of_decide_eq_true c_2
  refine wp_steps 1 (t' := (17, [some (.ref 84), some (.int (nI s)), some (.int one), some (.int sH), some (.int n), none], [.int (-2)], (HD, mi, ml, mr))) rfl ?_
  refine wp_ret rfl rfl ⟨⟨Nat.le_refl _, Nat.le_refl _⟩, ?_⟩
  exact ⟨rfl, rfl⟩
set_option maxRecDepth 20000 in
set_option maxHeartbeats 1000000 in
theorem r_film_ok {X : aXt × Value} {mi : Nat → Nat → Int32} {ml : Nat → Nat → Int64} {mr : Nat → Nat → Option Nat} (hM : MRok mr) {N : Nat} (hN : mi 84 12 = nI N) (hN5 : N ≤ 5) {c0 c1 c2 : List Int32} (hR : RUX mi c0 c1 c2) {p : Nat} (hpN : p < N) (hok : okU (puR mi p)) {s : Nat} (hs4 : s < 4) {sH n : Int32} : aCW X 49 202 [.ref 84, .int (nI s), .int (nI p), .int sH, .int n] (HD, mi, ml, mr) (fun r h' => ∃ m' w', h' = (HD, m', w', mr) ∧ (shG sH = true ∧ inR 0 40 n → r = some (.int n) ∧ (∀ x j, ¬ (x = 84 ∧ (13 ≤ j ∧ j ≤ 27 ∨ j = 29)) → x ≠ 92 → ¬ (x = 97 ∧ j = s) → ¬ (x = 98 ∧ j = s) → ¬ (x = 99 ∧ j = s) → ¬ (x = 100 ∧ 40 * s ≤ j ∧ j < 40 * s + 40) → m' x j = mi x j) ∧ m' 97 s = 1 ∧ m' 98 s = 0 ∧ m' 99 s = n ∧ ∀ j, j < n.toNatClampNeg → m' 100 (40 * s + j) = (fhG (twR mi c0 c1 c2) (sH / 10).toNatClampNeg (sH - sH / 10 * 10) (j + 1) (puR mi p)).2.2.2.2 (sH / 10).toNatClampNeg) ∧ (¬ (shG sH = true ∧ inR 0 40 n) → r = some (.int (-2)) ∧ m' = mi)) := by
  have hp5 : p < 5 := by omega
  refine cw_of (cd := cd_X7_film) (nL := 6) rfl rfl ?_
  show aWP _ _ (0, [some (.ref 84), some (.int (nI s)), some (.int (nI p)), some (.int sH), some (.int n), none], [], (HD, mi, ml, mr)) _
  refine wp_steps 1 (t' := (1, [some (.ref 84), some (.int (nI s)), some (.int (nI p)), some (.int sH), some (.int n), none], [.int (nI s)], (HD, mi, ml, mr))) rfl ?_
  refine wp_cal (as := [.int (nI s)]) rfl rfl rfl (Nat.le_of_ble_eq_true rfl) ((c_isSheet_n (ml := ml) (mr := mr) hs4)) (by decide) ?_
  rintro _ _ ⟨rfl, rfl⟩
  show aWP _ _ (2, [some (.ref 84), some (.int (nI s)), some (.int (nI p)), some (.int sH), some (.int n), none], [.int 1], (HD, mi, ml, mr)) _
  refine wp_bI rfl (fun c_1 => ?_) (fun c_1 => ?_)
  · have c_1 : (1 : Int32) = 0 := of_decide_eq_true c_1
    exact absurd c_1 (by decide)
  have c_1 : ¬ ((1 : Int32) = 0) := of_decide_eq_false c_1
  refine wp_steps 2 (t' := (5, [some (.ref 84), some (.int (nI s)), some (.int (nI p)), some (.int sH), some (.int n), none], [.int (nI p), .ref 84], (HD, mi, ml, mr))) rfl ?_
  refine wp_calv (as := [.int (nI p)]) rfl rfl rfl (Nat.le_of_ble_eq_true rfl) ⟨by decide, rfl⟩ ((c_isOne_ok (mi := mi) (ml := ml) hM hN hN5 hpN)) (by decide) ?_
  rintro _ _ ⟨rfl, rfl⟩
  show aWP _ _ (6, [some (.ref 84), some (.int (nI s)), some (.int (nI p)), some (.int sH), some (.int n), none], [.int 1], (HD, mi, ml, mr)) _
  refine wp_bI rfl (fun c_2 => ?_) (fun c_2 => ?_)
  · have c_2 : (1 : Int32) = 0 := of_decide_eq_true c_2
    exact absurd c_2 (by decide)
  have c_2 : ¬ ((1 : Int32) = 0) := of_decide_eq_false c_2
  refine wp_steps 1 (t' := (8, [some (.ref 84), some (.int (nI s)), some (.int (nI p)), some (.int sH), some (.int n), none], [.int sH], (HD, mi, ml, mr))) rfl ?_
  refine wp_cal (as := [.int sH]) rfl rfl rfl (Nat.le_of_ble_eq_true rfl) (c_rSH) (by decide) ?_
  rintro _ _ ⟨rfl, rfl⟩
  show aWP _ _ (9, [some (.ref 84), some (.int (nI s)), some (.int (nI p)), some (.int sH), some (.int n), none], [.int (if shG sH = true then (1 : Int32) else 0)], (HD, mi, ml, mr)) _
  refine wp_bI rfl (fun c_3 => ?_) (fun c_3 => ?_)
  · have c_3 : (if shG sH = true then (1 : Int32) else 0) = 0 := of_decide_eq_true c_3
    refine wp_steps 1 (t' := (17, [some (.ref 84), some (.int (nI s)), some (.int (nI p)), some (.int sH), some (.int n), none], [.int (-2)], (HD, mi, ml, mr))) rfl ?_
    refine wp_ret rfl rfl ⟨⟨Nat.le_refl _, Nat.le_refl _⟩, ?_⟩
    exact ⟨mi, ml, rfl, fun z => absurd z (show ¬ (shG sH = true ∧ inR 0 40 n) from fun z => (fun z => absurd (z.symm.trans (ite_nix c_3)) Bool.noConfusion) z.1), fun _ => ⟨rfl, rfl⟩⟩
  · have c_3 : ¬ ((if shG sH = true then (1 : Int32) else 0) = 0) := of_decide_eq_false c_3
    refine wp_steps 4 (t' := (14, [some (.ref 84), some (.int (nI s)), some (.int (nI p)), some (.int sH), some (.int n), none], [.long 40, .long 0, .long n.toInt64], (HD, mi, ml, mr))) rfl ?_
    refine wp_cal (as := [.long n.toInt64, .long 0, .long 40]) rfl rfl rfl (Nat.le_of_ble_eq_true rfl) ((c_in (x := n) (lo := 0) (hi := 40) rfl (by decide) (by decide))) (by decide) ?_
    rintro _ _ ⟨rfl, rfl⟩
    show aWP _ _ (15, [some (.ref 84), some (.int (nI s)), some (.int (nI p)), some (.int sH), some (.int n), none], [.int (if inR 0 40 n then (1 : Int32) else 0)], (HD, mi, ml, mr)) _
    refine wp_bI rfl (fun c_4 => ?_) (fun c_4 => ?_)
    · have c_4 : ¬ (if inR 0 40 n then (1 : Int32) else 0) = 0 := of_decide_eq_true c_4
      have hG := (show shG sH = true ∧ inR 0 40 n from ⟨(ite_aix c_3), (i0_t c_4)⟩)
      have h41 := ax40 hG.2
      have eN := (aix_eq h41).1
      have hle : n.toNatClampNeg ≤ 40 := Nat.le_of_lt_succ (aix_out h41).2
      have e1 : stV 0 n = 1 := by
        unfold stV
        rw [if_pos ⟨by decide, by decide⟩, if_neg (by decide), if_neg hG.2.2, if_neg hG.2.1]
      obtain ⟨r1, h1', g1, e2, _, _, x3⟩ := r_sheet_ok (X := X) (mi := mi) (ml := ml) hM hs4 (so := 0) (n := n)
      obtain ⟨m_1, e3, b1, b2⟩ := x3 e1 (by decide)
      subst e3
      rw [e1] at e2
      subst e2
      refine wp_steps 4 (t' := (22, [some (.ref 84), some (.int (nI s)), some (.int (nI p)), some (.int sH), some (.int n), none], [.int n, .int 0, .int (nI s), .ref 84], (HD, mi, ml, mr))) rfl ?_
      refine wp_calv (as := [.int (nI s), .int 0, .int n]) rfl rfl rfl (Nat.le_of_ble_eq_true rfl) ⟨by decide, rfl⟩ (⟨_, _, g1, rfl, rfl⟩ : aCW X 3 210 _ _ (fun r h => r = some (.int 1) ∧ h = (HD, m_1, ml, mr))) (by decide) ?_
      rintro _ _ ⟨rfl, rfl⟩
      have rr : ∀ k, k ≠ 97 → k ≠ 98 → k ≠ 99 → k ≠ 100 → m_1 k = mi k := fun k k1 k2 k3 k4 => funext fun j => (b1 k j (fun z => k4 z.1)).trans (by simp [aup, k1, k2, k3])
      have pu1 : puR m_1 p = puR mi p := by unfold puR; rw [rr 89 (by decide) (by decide) (by decide) (by decide), rr 90 (by decide) (by decide) (by decide) (by decide), rr 91 (by decide) (by decide) (by decide) (by decide)]
      have tw1 : twR m_1 c0 c1 c2 = twR mi c0 c1 c2 := by unfold twR; rw [rr 88 (by decide) (by decide) (by decide) (by decide), rr 84 (by decide) (by decide) (by decide) (by decide)]
      have ru1 : RUX m_1 c0 c1 c2 := by
        obtain ⟨R, n2, v0, y1, y2, y3⟩ := hR
        exact ⟨R, n2, v0, y1, by rw [rr 84 (by decide) (by decide) (by decide) (by decide)]; exact y2, y3.fr (fun j _ => by rw [rr 85 (by decide) (by decide) (by decide) (by decide)]) (by rw [rr 86 (by decide) (by decide) (by decide) (by decide)])⟩
      show aWP _ _ (23, [some (.ref 84), some (.int (nI s)), some (.int (nI p)), some (.int sH), some (.int n), none], [.int 1], (HD, m_1, ml, mr)) _
      refine wp_steps 3 (t' := (26, [some (.ref 84), some (.int (nI s)), some (.int (nI p)), some (.int sH), some (.int n), none], [.int (nI p), .ref 84], (HD, m_1, ml, mr))) rfl ?_
      refine wp_calv (as := [.int (nI p)]) rfl rfl rfl (Nat.le_of_ble_eq_true rfl) ⟨by decide, rfl⟩ ((r_aside (mi := m_1) (ml := ml) hM hp5)) (by decide) ?_
      rintro _ _ ⟨rfl, m_2, rfl, a2⟩
      show aWP _ _ (27, [some (.ref 84), some (.int (nI s)), some (.int (nI p)), some (.int sH), some (.int n), none], [], (HD, m_2, ml, mr)) _
      refine wp_steps 2 (t' := (29, [some (.ref 84), some (.int (nI s)), some (.int (nI p)), some (.int sH), some (.int n), some (.int 0)], [], (HD, m_2, ml, mr))) rfl ?_
      have w0 := WY.of a2 ru1 (by rw [pu1]; exact hok)
      rw [pu1, tw1] at w0
      suffices hh : aWP (aEx (aTb X) 48) cd_X7_film (29, [some (.ref 84), some (.int (nI s)), some (.int (nI p)), some (.int sH), some (.int (nI n.toNatClampNeg)), some (.int 0)], [], (HD, m_2, ml, mr)) _ by
        rw [← eN] at hh
        exact hh
      refine l_rfilm (ma := m_2) hM hp5 hs4 (shG_s hG.1) (t := twR mi c0 c1 c2) (u := puR mi p) hle (fun m' w' hf hi => ?_) n.toNatClampNeg 0 m_2 ml (by omega) w0 (fun _ _ _ _ _ => rfl) (fun j hj => absurd hj (Nat.not_lt_zero j))
      refine wp_steps 2 (t' := (61, [some (.ref 84), some (.int (nI s)), some (.int (nI p)), some (.int sH), some (.int (nI n.toNatClampNeg)), some (.int (nI n.toNatClampNeg))], [.int (nI p), .ref 84], (HD, m', w', mr))) rfl ?_
      refine wp_calv (as := [.int (nI p)]) rfl rfl rfl (Nat.le_of_ble_eq_true rfl) ⟨by decide, rfl⟩ ((r_back (mi := m') (ml := w') hM hp5)) (by decide) ?_
      rintro _ _ ⟨rfl, m_9, rfl, b9⟩
      show aWP _ _ (62, [some (.ref 84), some (.int (nI s)), some (.int (nI p)), some (.int sH), some (.int (nI n.toNatClampNeg)), some (.int (nI n.toNatClampNeg))], [], (HD, m_9, w', mr)) _
      refine wp_steps 1 (t' := (63, [some (.ref 84), some (.int (nI s)), some (.int (nI p)), some (.int sH), some (.int (nI n.toNatClampNeg)), some (.int (nI n.toNatClampNeg))], [.int (nI n.toNatClampNeg)], (HD, m_9, w', mr))) rfl ?_
      refine wp_ret rfl rfl ⟨⟨Nat.le_refl _, Nat.le_refl _⟩, ?_⟩
      refine ⟨m_9, w', rfl, fun _ => ⟨by rw [← eN], fun x j q1 q2 q3 q4 q5 q6 => ?_, ?_, ?_, ?_, fun j hj => ?_⟩, fun z => absurd hG z⟩
      · have base : m_1 x j = mi x j := (b1 x j (fun z => q6 ⟨z.1, z.2.1, by omega⟩)).trans (by
          unfold aup
          by_cases e9 : x = 99
          · rw [if_pos e9, if_neg (fun z => q5 ⟨e9, z⟩), if_neg (by omega), if_neg (by omega)]
          · rw [if_neg e9]
            by_cases e8 : x = 98
            · rw [if_pos e8, if_neg (fun z => q4 ⟨e8, z⟩), if_neg (by omega)]
            · rw [if_neg e8]
              by_cases e7 : x = 97
              · rw [if_pos e7, if_neg (fun z => q3 ⟨e7, z⟩)]
              · rw [if_neg e7])
        by_cases e : x = 91 ∧ 10 * p ≤ j ∧ j < 10 * p + 10
        · obtain ⟨e1, e2, e3⟩ := e
          subst e1
          have ej : j = 10 * p + (j - 10 * p) := by omega
          rw [← base, ej, b9.2.1 _ (by omega), hf 92 _ (by omega) (by omega) (by omega), a2.2.1 _ (by omega)]
        · by_cases e7 : x = 84 ∧ j = 7
          · rw [← base, e7.1, e7.2, b9.2.2, hf 84 29 (by omega) (by omega) (by omega), a2.2.2]
          · rw [← base, b9.1 x j e e7, hf x j (fun z => z.2.elim (fun y => q1 ⟨z.1, Or.inl y⟩) (fun y => e7 ⟨z.1, y⟩)) e q6, a2.1 x j q2 (fun z => q1 ⟨z.1, Or.inr z.2⟩)]
      · rw [b9.1 97 s (by omega) (by omega), hf 97 s (by omega) (by omega) (by omega), a2.1 97 s (by decide) (by omega), b1 97 s (by omega)]; simp [aup]
      · rw [b9.1 98 s (by omega) (by omega), hf 98 s (by omega) (by omega) (by omega), a2.1 98 s (by decide) (by omega), b1 98 s (by omega)]; simp [aup]
      · rw [b9.1 99 s (by omega) (by omega), hf 99 s (by omega) (by omega) (by omega), a2.1 99 s (by decide) (by omega), b1 99 s (by omega)]; simp [aup]
      · rw [b9.1 100 _ (by omega) (by omega)]; exact hi j hj
    · have c_4 : (if inR 0 40 n then (1 : Int32) else 0) = 0 := Decidable.not_not.mp (of_decide_eq_false c_4)
      refine wp_steps 1 (t' := (17, [some (.ref 84), some (.int (nI s)), some (.int (nI p)), some (.int sH), some (.int n), none], [.int (-2)], (HD, mi, ml, mr))) rfl ?_
      refine wp_ret rfl rfl ⟨⟨Nat.le_refl _, Nat.le_refl _⟩, ?_⟩
      exact ⟨mi, ml, rfl, fun z => absurd z (show ¬ (shG sH = true ∧ inR 0 40 n) from fun z => (i0_f c_4) z.2), fun _ => ⟨rfl, rfl⟩⟩
