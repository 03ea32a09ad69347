/-! the reference: best, drive, the ready ones, a night (written by wip/whole/mkrefE.py) -/
theorem WY.bk {p : Nat} {c0 c1 c2 : List Int32} {mi ma m m2 : Nat → Nat → Int32} {t : tW} {u : pU} (a : ASD p mi ma) (hok : okU (puR mi p)) (h : WY p c0 c1 c2 ma m t u) (b : BCK p m m2) : WY p c0 c1 c2 ma m2 (twR mi c0 c1 c2) (puR mi p) := by
  have f : frW p ma m2 := fun k j q q2 => (b.1 k j q2 (fun z => q ⟨z.1, Or.inr z.2⟩)).trans (h.1 k j q q2)
  have r91 : ∀ j, j < 10 → m2 91 (10 * p + j) = mi 91 (10 * p + j) := fun j hj => by rw [b.2.1 j hj, h.1 92 j (by omega) (by omega), a.2.1 j hj]
  have ra : ∀ k, k ≠ 92 → k ≠ 84 → ma k = mi k := fun k hk hk2 => funext fun j => a.1 k j hk (fun z => hk2 z.1)
  refine ⟨f, ?_, ?_, (a.ru ?_).W f, hok⟩
  · refine Prod.ext ?_ (Prod.ext ?_ (Prod.ext ?_ (Prod.ext ?_ (funext fun j => ?_))))
    · show m2 89 p = mi 89 p
      rw [f.row (k := 89) (by decide) (by decide), ra 89 (by decide) (by decide)]
    · show m2 90 p = mi 90 p
      rw [f.row (k := 90) (by decide) (by decide), ra 90 (by decide) (by decide)]
    · exact r91 8 (by decide)
    · exact r91 9 (by decide)
    · show c8 (fun i => m2 91 (10 * p + i)) j = c8 (fun i => mi 91 (10 * p + i)) j
      unfold c8
      by_cases hj : j < 8
      · rw [if_pos hj, if_pos hj]; exact r91 j (by omega)
      · rw [if_neg hj, if_neg hj]
  · unfold twR
    rw [f.row (k := 88) (by decide) (by decide), ra 88 (by decide) (by decide), b.2.2, h.1 84 29 (by omega) (by omega), a.2.2]
  · obtain ⟨R, n, v0, h1, h2, h3⟩ := h.2.2.2.1
    have fm := h.1
    refine ⟨R, n, v0, h1, ?_, ?_⟩
    · rw [← h2, fm 84 4 (by omega) (by omega), a.1 84 4 (by decide) (by omega)]
    · refine h3.fr (fun j _ => ?_) ?_
      · rw [fm 85 _ (by omega) (by omega), a.1 85 _ (by decide) (by omega)]
      · rw [fm 86 _ (by omega) (by omega), a.1 86 _ (by decide) (by omega)]
theorem WY.fq {p : Nat} {c0 c1 c2 : List Int32} {mi ma m : Nat → Nat → Int32} (a : ASD p mi ma) (h : WY p c0 c1 c2 ma m (twR mi c0 c1 c2) (puR mi p)) : frQ mi m := by
  intro k j q k92 k93
  by_cases e : k = 91 ∧ 10 * p ≤ j ∧ j < 10 * p + 10
  · obtain ⟨e1, e2, e3⟩ := e
    subst e1
    by_cases h8 : j < 10 * p + 8
    · have z := congrFun (congrArg (·.2.2.2.2) h.2.1) (j - 10 * p)
      have z2 : c8 (fun i => m 91 (10 * p + i)) (j - 10 * p) = c8 (fun i => mi 91 (10 * p + i)) (j - 10 * p) := z
      rw [c8_lt (by omega), c8_lt (by omega), show 10 * p + (j - 10 * p) = j by omega] at z2
      exact z2
    · by_cases h9 : j = 10 * p + 8
      · subst h9; exact congrArg (·.2.2.1) h.2.1
      · obtain rfl : j = 10 * p + 9 := by omega
        exact congrArg (·.2.2.2.1) h.2.1
  · by_cases e7 : k = 84 ∧ j = 7
    · rw [e7.1, e7.2]; exact congrArg (·.2.1) h.2.2.1
    · rw [h.1 k j (fun z => z.2.elim (fun y => q ⟨z.1, Or.inl y⟩) (fun y => e7 ⟨z.1, y⟩)) e, a.1 k j k92 (fun z => q ⟨z.1, Or.inr z.2⟩)]
/-- the hours of 24 in their order -/
def bkL (t : tW) (u : pU) : Nat → Nat → Int32 × Int32 → Int32 × Int32
  | 0, _, a => a
  | g + 1, k, a => bkL t u g (k + 1) (beS t u (k / 3) (k % 3) a)
theorem bkL_O (t : tW) (u : pU) : ∀ (g s : Nat) (a : Int32 × Int32), bkL t u (3 * g) (3 * s) a = beO t u g s a
  | 0, _, _ => rfl
  | g + 1, s, a => by
    rw [show 3 * (g + 1) = 3 * g + 1 + 1 + 1 by omega]
    show bkL t u (3 * g) (3 * s + 1 + 1 + 1) (beS t u ((3 * s + 1 + 1) / 3) ((3 * s + 1 + 1) % 3) (beS t u ((3 * s + 1) / 3) ((3 * s + 1) % 3) (beS t u (3 * s / 3) (3 * s % 3) a))) = beO t u g (s + 1) (beI t u s 3 0 a)
    rw [show 3 * s + 1 + 1 + 1 = 3 * (s + 1) by omega, bkL_O t u g (s + 1), show (3 * s + 1 + 1) / 3 = s by omega, show (3 * s + 1 + 1) % 3 = 2 by omega, show (3 * s + 1) / 3 = s by omega, show (3 * s + 1) % 3 = 1 by omega, show 3 * s / 3 = s by omega, show 3 * s % 3 = 0 by omega]
    rfl
theorem smF_rng {f : Nat → Int32} : ∀ {n : Nat}, n ≤ 8 → (∀ j, j < n → inR 0 99 (f j)) → 0 ≤ (smF f n).toInt ∧ (smF f n).toInt ≤ 99 * n
  | 0, _, _ => ⟨Int.le_refl 0, Int.le_refl 0⟩
  | n + 1, hn, h => by
    obtain ⟨a, b⟩ := smF_rng (n := n) (by omega) (fun j hj => h j (by omega))
    have c := rI.mp (h n (by omega))
    rw [i0, i99] at c
    unfold smF
    rw [add_t (by omega) (by omega)]
    omega
theorem bkL_eq {t : tW} {u : pU} (h : okU u) : bkL t u 24 0 (-1, -1) = beO t u 8 0 (-1, 0) := by
  rw [← bkL_O t u 8 0]
  show bkL t u 23 1 (beS t u 0 0 (-1, -1)) = bkL t u 23 1 (beS t u 0 0 (-1, 0))
  have q := smF_rng (Nat.le_refl 8) (hrG_ok (t := t) (u := u) (s := 0) (hp := nI 0) h (by decide)).2.2.2.2
  have lt : (-1 : Int32) < smF (hrG t u 0 (nI 0)).2.2.2.2 8 := by
    rw [Int32.lt_iff_toInt_lt, show (-1 : Int32).toInt = -1 from rfl]; omega
  unfold beS
  rw [if_pos lt, if_pos lt]
theorem dv_nI {n d : Nat} (hn : n < 2 ^ 31) (h0 : 0 < d) (hd : d < 2 ^ 31) : nI n / nI d = nI (n / d) := by
  apply Int32.toInt_inj.mp
  rw [lg_idiv_nonneg (by rw [nI_toInt hn]; omega) (by rw [nI_toInt hd]; omega), nI_toInt hn, nI_toInt hd, nI_toInt (Nat.lt_of_le_of_lt (Nat.div_le_self n d) hn)]
  rfl
set_option maxRecDepth 20000 in
set_option maxHeartbeats 1000000 in
theorem q_best_no {X : aXt × Value} {mi : Nat → Nat → Int32} {ml : Nat → Nat → Int64} {mr : Nat → Nat → Option Nat} (hM : MRok mr) {N : Nat} (hN : mi 84 12 = nI N) (hN5 : N ≤ 5) {one w : Int32} (hg : ¬ aixn one N = true) : aCW X 4 189 [.ref 84, .int one, .int w] (HD, mi, ml, mr) (qR mi mr (.int (-2))) := by
  refine cw_of (cd := cd_X7_best) (nL := 7) rfl rfl ?_
  show aWP _ _ (0, [some (.ref 84), some (.int one), some (.int w), none, none, none, none], [], (HD, mi, ml, mr)) _
  refine wp_steps 2 (t' := (2, [some (.ref 84), some (.int one), some (.int w), none, none, none, none], [.int one, .ref 84], (HD, mi, ml, mr))) rfl ?_
  refine wp_calv (as := [.int one]) rfl rfl rfl (Nat.le_of_ble_eq_true rfl) ⟨by decide, rfl⟩ ((c_isOne_no (ml := ml) hM hN hN5 hg)) (by decide) ?_
  rintro _ _ ⟨rfl, rfl⟩
  show aWP _ _ (3, [some (.ref 84), some (.int one), some (.int w), none, none, none, none], [.int 0], (HD, mi, ml, mr)) _
  refine wp_bI rfl (fun c_1 => ?_) (fun c_1 => ?_)
  rotate_left
  · have c_1 : ¬ ((0 : Int32) = 0) := of_decide_eq_false c_1
    exact absurd c_1 (by decide)
  have c_1 : (0 : Int32) = 0 := of_decide_eq_true c_1
  refine wp_steps 1 (t' := (11, [some (.ref 84), some (.int one), some (.int w), none, none, none, none], [.int (-2)], (HD, mi, ml, mr))) rfl ?_
  refine wp_ret rfl rfl ⟨⟨Nat.le_refl _, Nat.le_refl _⟩, ?_⟩
  exact ⟨rfl, mi, ml, rfl, frQ.rf mi⟩
set_option maxRecDepth 20000 in
set_option maxHeartbeats 1000000 in
theorem l_rbest {X : aXt × Value} {mr : Nat → Nat → Option Nat} (hM : MRok mr) {c0 c1 c2 : List Int32} {p : Nat} (hp5 : p < 5) {mi ma : Nat → Nat → Int32} {w : Int32} (a1 : ASD p mi ma) (hok : okU (puR mi p)) {Q : Option Value → aM → Prop} : ∀ (g k : Nat) (m : Nat → Nat → Int32) (x : Nat → Nat → Int64) (a : Int32 × Int32) (o : Option Value), k + g = 24 → WY p c0 c1 c2 ma m (twR mi c0 c1 c2) (puR mi p) → (∀ m' x' o', WY p c0 c1 c2 ma m' (twR mi c0 c1 c2) (puR mi p) → aWP (aEx (aTb X) 47) cd_X7_best (57, [some (.ref 84), some (.int (nI p)), some (.int w), some (.int ((bkL (twR mi c0 c1 c2) (puR mi p) g k a).2)), some (.int ((bkL (twR mi c0 c1 c2) (puR mi p) g k a).1)), some (.int (nI 24)), o'], [], (HD, m', x', mr)) Q) → aWP (aEx (aTb X) 47) cd_X7_best (21, [some (.ref 84), some (.int (nI p)), some (.int w), some (.int a.2), some (.int a.1), some (.int (nI k)), o], [], (HD, m, x, mr)) Q := by
  intro g
  induction g with
  | zero =>
    intro k m x a o hg h hk
    obtain rfl : k = 24 := by omega
    refine wp_steps 2 (t' := (23, [some (.ref 84), some (.int (nI p)), some (.int w), some (.int a.2), some (.int a.1), some (.int (nI 24)), o], [.int 24, .int (nI 24)], (HD, m, x, mr))) rfl ?_
    refine wp_bC rfl (fun c_1 => ?_) (fun c_1 => ?_)
    rotate_left
    · have c_1 : ¬ (24 ≤ (nI 24)) := of_decide_eq_false c_1
      exact absurd (by decide) c_1
    have c_1 : 24 ≤ (nI 24) := of_decide_eq_true c_1
    exact hk m x _ h
  | succ g ih =>
    intro k m x a o hg h hk
    refine wp_steps 2 (t' := (23, [some (.ref 84), some (.int (nI p)), some (.int w), some (.int a.2), some (.int a.1), some (.int (nI k)), o], [.int 24, .int (nI k)], (HD, m, x, mr))) rfl ?_
    refine wp_bC rfl (fun c_1 => ?_) (fun c_1 => ?_)
    · have c_1 : 24 ≤ (nI k) := of_decide_eq_true c_1
      exact absurd c_1 (nI_ge (a := k) (b := 24) (by omega) (by decide))
    have c_1 : ¬ (24 ≤ (nI k)) := of_decide_eq_false c_1
    refine wp_steps 5 (t' := (29, [some (.ref 84), some (.int (nI p)), some (.int w), some (.int a.2), some (.int a.1), some (.int (nI k)), o], [.int ((nI k) / 3), .int (nI p), .ref 84], (HD, m, x, mr))) rfl ?_
    rw [show nI k / 3 = nI (k / 3) from dv_nI (by omega) (by decide) (by decide)]
    refine wp_steps 3 (t' := (32, [some (.ref 84), some (.int (nI p)), some (.int w), some (.int a.2), some (.int a.1), some (.int (nI k)), o], [.int ((nI k) - (nI k) / 3 * 3), .int (nI (k / 3)), .int (nI p), .ref 84], (HD, m, x, mr))) rfl ?_
    rw [show nI k - nI k / 3 * 3 = nI (k % 3) from rm_nI (by omega) (by decide) (by decide)]
    refine wp_calv (as := [.int (nI p), .int (nI (k / 3)), .int (nI (k % 3))]) rfl rfl rfl (Nat.le_of_ble_eq_true rfl) ⟨by decide, rfl⟩ ((y_hour (w := x) (hp := nI (k % 3)) hM hp5 h (s := nI (k / 3)) (aix_nI (by omega) (by decide)))) (by decide) ?_
    rintro _ _ ⟨rfl, m_1, x_1, rfl, h1⟩
    rw [nI_clamp (show k / 3 < 2 ^ 31 by omega)] at h1
    show aWP _ _ (33, [some (.ref 84), some (.int (nI p)), some (.int w), some (.int a.2), some (.int a.1), some (.int (nI k)), o], [], (HD, m_1, x_1, mr)) _
    refine wp_steps 2 (t' := (35, [some (.ref 84), some (.int (nI p)), some (.int w), some (.int a.2), some (.int a.1), some (.int (nI k)), o], [.int (nI p), .ref 84], (HD, m_1, x_1, mr))) rfl ?_
    refine wp_calv (as := [.int (nI p)]) rfl rfl rfl (Nat.le_of_ble_eq_true rfl) ⟨by decide, rfl⟩ ((y_sum (w := x_1) hM hp5 h1)) (by decide) ?_
    rintro _ _ ⟨rfl, rfl⟩
    show aWP _ _ (36, [some (.ref 84), some (.int (nI p)), some (.int w), some (.int a.2), some (.int a.1), some (.int (nI k)), o], [.int (smF (hrG (twR mi c0 c1 c2) (puR mi p) (k / 3) (nI (k % 3))).2.2.2.2 8)], (HD, m_1, x_1, mr)) _
    refine wp_steps 3 (t' := (39, [some (.ref 84), some (.int (nI p)), some (.int w), some (.int a.2), some (.int a.1), some (.int (nI k)), some (.int (smF (hrG (twR mi c0 c1 c2) (puR mi p) (k / 3) (nI (k % 3))).2.2.2.2 8))], [.int (nI p), .ref 84], (HD, m_1, x_1, mr))) rfl ?_
    refine wp_calv (as := [.int (nI p)]) rfl rfl rfl (Nat.le_of_ble_eq_true rfl) ⟨by decide, rfl⟩ ((r_back (mi := m_1) (ml := x_1) hM hp5)) (by decide) ?_
    rintro _ _ ⟨rfl, m_2, rfl, b2⟩
    have h2 := WY.bk a1 hok h1 b2
    show aWP _ _ (40, [some (.ref 84), some (.int (nI p)), some (.int w), some (.int a.2), some (.int a.1), some (.int (nI k)), some (.int (smF (hrG (twR mi c0 c1 c2) (puR mi p) (k / 3) (nI (k % 3))).2.2.2.2 8))], [], (HD, m_2, x_1, mr)) _
    refine wp_steps 2 (t' := (42, [some (.ref 84), some (.int (nI p)), some (.int w), some (.int a.2), some (.int a.1), some (.int (nI k)), some (.int (smF (hrG (twR mi c0 c1 c2) (puR mi p) (k / 3) (nI (k % 3))).2.2.2.2 8))], [.int a.1, .int (smF (hrG (twR mi c0 c1 c2) (puR mi p) (k / 3) (nI (k % 3))).2.2.2.2 8)], (HD, m_2, x_1, mr))) rfl ?_
    refine wp_bC rfl (fun c_2 => ?_) (fun c_2 => ?_)
    · have c_2 : (smF (hrG (twR mi c0 c1 c2) (puR mi p) (k / 3) (nI (k % 3))).2.2.2.2 8) ≤ a.1 := of_decide_eq_true c_2
      refine wp_steps 2 (t' := (21, [some (.ref 84), some (.int (nI p)), some (.int w), some (.int a.2), some (.int a.1), some (.int ((nI k) + Int32.ofInt 1)), some (.int (smF (hrG (twR mi c0 c1 c2) (puR mi p) (k / 3) (nI (k % 3))).2.2.2.2 8))], [], (HD, m_2, x_1, mr))) rfl ?_
      have e : beS (twR mi c0 c1 c2) (puR mi p) (k / 3) (k % 3) a = a := if_neg (Int32.not_lt.mpr c_2)
      rw [inc_nI]
      refine ih (k + 1) m_2 x_1 a _ (by omega) h2 ?_
      rw [← e]
      exact hk
    · have c_2 : ¬ ((smF (hrG (twR mi c0 c1 c2) (puR mi p) (k / 3) (nI (k % 3))).2.2.2.2 8) ≤ a.1) := of_decide_eq_false c_2
      refine wp_steps 4 (t' := (47, [some (.ref 84), some (.int (nI p)), some (.int w), some (.int a.2), some (.int a.1), some (.int (nI k)), some (.int (smF (hrG (twR mi c0 c1 c2) (puR mi p) (k / 3) (nI (k % 3))).2.2.2.2 8))], [.int ((nI k) / 3), .int 10], (HD, m_2, x_1, mr))) rfl ?_
      rw [show nI k / 3 = nI (k / 3) from dv_nI (by omega) (by decide) (by decide)]
      refine wp_steps 4 (t' := (51, [some (.ref 84), some (.int (nI p)), some (.int w), some (.int a.2), some (.int a.1), some (.int (nI k)), some (.int (smF (hrG (twR mi c0 c1 c2) (puR mi p) (k / 3) (nI (k % 3))).2.2.2.2 8))], [.int ((nI k) - (nI k) / 3 * 3), .int (10 * (nI (k / 3)))], (HD, m_2, x_1, mr))) rfl ?_
      rw [show nI k - nI k / 3 * 3 = nI (k % 3) from rm_nI (by omega) (by decide) (by decide)]
      refine wp_steps 6 (t' := (21, [some (.ref 84), some (.int (nI p)), some (.int w), some (.int ((10 * (nI (k / 3))) + (nI (k % 3)))), some (.int (smF (hrG (twR mi c0 c1 c2) (puR mi p) (k / 3) (nI (k % 3))).2.2.2.2 8)), some (.int ((nI k) + Int32.ofInt 1)), some (.int (smF (hrG (twR mi c0 c1 c2) (puR mi p) (k / 3) (nI (k % 3))).2.2.2.2 8))], [], (HD, m_2, x_1, mr))) rfl ?_
      have e : beS (twR mi c0 c1 c2) (puR mi p) (k / 3) (k % 3) a = (smF (hrG (twR mi c0 c1 c2) (puR mi p) (k / 3) (nI (k % 3))).2.2.2.2 8, 10 * nI (k / 3) + nI (k % 3)) := if_pos (Int32.not_le.mp c_2)
      rw [inc_nI]
      refine ih (k + 1) m_2 x_1 (smF (hrG (twR mi c0 c1 c2) (puR mi p) (k / 3) (nI (k % 3))).2.2.2.2 8, 10 * nI (k / 3) + nI (k % 3)) _ (by omega) h2 ?_
      rw [← e]
      exact hk
set_option maxRecDepth 20000 in
set_option maxHeartbeats 1000000 in
theorem q_best_ok {X : aXt × Value} {mi : Nat → Nat → Int32} {ml : Nat → Nat → Int64} {mr : Nat → Nat → Option Nat} (hM : MRok mr) {N : Nat} (hN : mi 84 12 = nI N) (hN5 : N ≤ 5) {c0 c1 c2 : List Int32} (hR : RUX mi c0 c1 c2) {p : Nat} (hpN : p < N) (hok : okU (puR mi p)) {w : Int32}  : aCW X 48 189 [.ref 84, .int (nI p), .int w] (HD, mi, ml, mr) (qR mi mr (.int (if inR 0 1 w then bsG (twR mi c0 c1 c2) (puR mi p) w else -2))) := by
  have hp5 : p < 5 := by omega
  refine cw_of (cd := cd_X7_best) (nL := 7) rfl rfl ?_
  show aWP _ _ (0, [some (.ref 84), some (.int (nI p)), some (.int w), none, none, none, none], [], (HD, mi, ml, mr)) _
  refine wp_steps 2 (t' := (2, [some (.ref 84), some (.int (nI p)), some (.int w), none, none, none, none], [.int (nI p), .ref 84], (HD, mi, ml, mr))) rfl ?_
  refine wp_calv (as := [.int (nI p)]) rfl rfl rfl (Nat.le_of_ble_eq_true rfl) ⟨by decide, rfl⟩ ((c_isOne_ok (mi := mi) (ml := ml) hM hN hN5 hpN)) (by decide) ?_
  rintro _ _ ⟨rfl, rfl⟩
  show aWP _ _ (3, [some (.ref 84), some (.int (nI p)), some (.int w), none, none, none, none], [.int 1], (HD, mi, ml, mr)) _
  refine wp_bI rfl (fun c_1 => ?_) (fun c_1 => ?_)
  · have c_1 : (1 : Int32) = 0 := of_decide_eq_true c_1
    exact absurd c_1 (by decide)
  have c_1 : ¬ ((1 : Int32) = 0) := of_decide_eq_false c_1
  refine wp_steps 4 (t' := (8, [some (.ref 84), some (.int (nI p)), some (.int w), none, none, none, none], [.long 1, .long 0, .long w.toInt64], (HD, mi, ml, mr))) rfl ?_
  refine wp_cal (as := [.long w.toInt64, .long 0, .long 1]) rfl rfl rfl (Nat.le_of_ble_eq_true rfl) ((c_in (x := w) (lo := 0) (hi := 1) rfl (by decide) (by decide))) (by decide) ?_
  rintro _ _ ⟨rfl, rfl⟩
  show aWP _ _ (9, [some (.ref 84), some (.int (nI p)), some (.int w), none, none, none, none], [.int (if inR 0 1 w then (1 : Int32) else 0)], (HD, mi, ml, mr)) _
  refine wp_bI rfl (fun c_2 => ?_) (fun c_2 => ?_)
  · have c_2 : ¬ (if inR 0 1 w then (1 : Int32) else 0) = 0 := of_decide_eq_true c_2
    refine wp_steps 6 (t' := (18, [some (.ref 84), some (.int (nI p)), some (.int w), some (.int (-1)), some (.int (-1)), none, none], [.int (nI p), .ref 84], (HD, mi, ml, mr))) rfl ?_
    refine wp_calv (as := [.int (nI p)]) rfl rfl rfl (Nat.le_of_ble_eq_true rfl) ⟨by decide, rfl⟩ ((r_aside (mi := mi) (ml := ml) hM hp5)) (by decide) ?_
    rintro _ _ ⟨rfl, m_1, rfl, a1⟩
    show aWP _ _ (19, [some (.ref 84), some (.int (nI p)), some (.int w), some (.int (-1)), some (.int (-1)), none, none], [], (HD, m_1, ml, mr)) _
    refine wp_steps 2 (t' := (21, [some (.ref 84), some (.int (nI p)), some (.int w), some (.int (-1)), some (.int (-1)), some (.int 0), none], [], (HD, m_1, ml, mr))) rfl ?_
    refine l_rbest hM hp5 a1 hok 24 0 m_1 ml (-1, -1) _ rfl (WY.of a1 hR hok) (fun m_9 x_9 o9 h9 => ?_)
    refine wp_steps 1 (t' := (58, [some (.ref 84), some (.int (nI p)), some (.int w), some (.int ((bkL (twR mi c0 c1 c2) (puR mi p) 24 0 (-1, -1)).2)), some (.int ((bkL (twR mi c0 c1 c2) (puR mi p) 24 0 (-1, -1)).1)), some (.int (nI 24)), o9], [.int w], (HD, m_9, x_9, mr))) rfl ?_
    refine wp_bI rfl (fun c_81 => ?_) (fun c_81 => ?_)
    · have c_81 : ¬ w = 0 := of_decide_eq_true c_81
      refine wp_steps 1 (t' := (62, [some (.ref 84), some (.int (nI p)), some (.int w), some (.int ((bkL (twR mi c0 c1 c2) (puR mi p) 24 0 (-1, -1)).2)), some (.int ((bkL (twR mi c0 c1 c2) (puR mi p) 24 0 (-1, -1)).1)), some (.int (nI 24)), o9], [.int ((bkL (twR mi c0 c1 c2) (puR mi p) 24 0 (-1, -1)).1)], (HD, m_9, x_9, mr))) rfl ?_
      refine wp_ret rfl rfl ⟨⟨Nat.le_refl _, Nat.le_refl _⟩, ?_⟩
      exact ⟨by rw [if_pos (show inR 0 1 w from (i0_t c_2)), bkL_eq hok]; unfold bsG; rw [if_neg c_81], m_9, x_9, rfl, h9.fq a1⟩
    · have c_81 : w = 0 := Decidable.not_not.mp (of_decide_eq_false c_81)
      refine wp_steps 2 (t' := (62, [some (.ref 84), some (.int (nI p)), some (.int w), some (.int ((bkL (twR mi c0 c1 c2) (puR mi p) 24 0 (-1, -1)).2)), some (.int ((bkL (twR mi c0 c1 c2) (puR mi p) 24 0 (-1, -1)).1)), some (.int (nI 24)), o9], [.int ((bkL (twR mi c0 c1 c2) (puR mi p) 24 0 (-1, -1)).2)], (HD, m_9, x_9, mr))) rfl ?_
      refine wp_ret rfl rfl ⟨⟨Nat.le_refl _, Nat.le_refl _⟩, ?_⟩
      exact ⟨by rw [if_pos (show inR 0 1 w from (i0_t c_2)), bkL_eq hok]; unfold bsG; rw [if_pos c_81], m_9, x_9, rfl, h9.fq a1⟩
  · have c_2 : (if inR 0 1 w then (1 : Int32) else 0) = 0 := Decidable.not_not.mp (of_decide_eq_false c_2)
    refine wp_steps 1 (t' := (11, [some (.ref 84), some (.int (nI p)), some (.int w), none, none, none, none], [.int (-2)], (HD, mi, ml, mr))) rfl ?_
    refine wp_ret rfl rfl ⟨⟨Nat.le_refl _, Nat.le_refl _⟩, ?_⟩
    exact ⟨by rw [if_neg (show ¬ (inR 0 1 w) from fun z => (i0_f c_2) z)], mi, ml, rfl, frQ.rf mi⟩
set_option maxRecDepth 20000 in
set_option maxHeartbeats 1000000 in
theorem q_drive_no {X : aXt × Value} {mi : Nat → Nat → Int32} {ml : Nat → Nat → Int64} {mr : Nat → Nat → Option Nat} (hM : MRok mr) {N : Nat} (hN : mi 84 12 = nI N) (hN5 : N ≤ 5) {one s hp : Int32} (hg : ¬ aixn one N = true) : aCW X 4 182 [.ref 84, .int one, .int s, .int hp] (HD, mi, ml, mr) (qR mi mr (.int (-2))) := by
  refine cw_of (cd := cd_X7_drive) (nL := 4) rfl rfl ?_
  show aWP _ _ (0, [some (.ref 84), some (.int one), some (.int s), some (.int hp)], [], (HD, mi, ml, mr)) _
  refine wp_steps 2 (t' := (2, [some (.ref 84), some (.int one), some (.int s), some (.int hp)], [.int one, .ref 84], (HD, mi, ml, mr))) rfl ?_
  refine wp_calv (as := [.int one]) rfl rfl rfl (Nat.le_of_ble_eq_true rfl) ⟨by decide, rfl⟩ ((c_isOne_no (ml := ml) hM hN hN5 hg)) (by decide) ?_
  rintro _ _ ⟨rfl, rfl⟩
  show aWP _ _ (3, [some (.ref 84), some (.int one), some (.int s), some (.int hp)], [.int 0], (HD, mi, ml, mr)) _
  refine wp_bI rfl (fun c_1 => ?_) (fun c_1 => ?_)
  rotate_left
  · have c_1 : ¬ ((0 : Int32) = 0) := of_decide_eq_false c_1
    exact absurd c_1 (by decide)
  have c_1 : (0 : Int32) = 0 := of_decide_eq_true c_1
  refine wp_steps 1 (t' := (14, [some (.ref 84), some (.int one), some (.int s), some (.int hp)], [.int (-2)], (HD, mi, ml, mr))) rfl ?_
  refine wp_ret rfl rfl ⟨⟨Nat.le_refl _, Nat.le_refl _⟩, ?_⟩
  exact ⟨rfl, mi, ml, rfl, frQ.rf mi⟩
theorem c_rat_i {X : aXt × Value} {mi : Nat → Nat → Int32} {ml : Nat → Nat → Int64} {mr : Nat → Nat → Option Nat} {p n : Nat} {s : Int32} (hs : aixn s n = true) : aCW X 1 117 [.int (nI p), .int s] (HD, mi, ml, mr) (rdI mi ml mr (nI (10 * p + s.toNatClampNeg))) := by
  have z := c_rat_n (X := X) (mi := mi) (ml := ml) (mr := mr) (p := p) (s := s.toNatClampNeg)
  rw [← (aix_eq hs).1] at z
  exact z
set_option maxRecDepth 20000 in
set_option maxHeartbeats 1000000 in
theorem q_drive_ok {X : aXt × Value} {mi : Nat → Nat → Int32} {ml : Nat → Nat → Int64} {mr : Nat → Nat → Option Nat} (hM : MRok mr) {N : Nat} (hN : mi 84 12 = nI N) (hN5 : N ≤ 5) {c0 c1 c2 : List Int32} (hR : RUX mi c0 c1 c2) {p : Nat} (hpN : p < N) (hok : okU (puR mi p)) {s hp : Int32} : aCW X 48 182 [.ref 84, .int (nI p), .int s, .int hp] (HD, mi, ml, mr) (fun r h' => ∃ m' w', h' = (HD, m', w', mr) ∧ (aixn s 8 = true ∧ aixn hp 3 = true → r = some (.int ((hrG (twR mi c0 c1 c2) (puR mi p) s.toNatClampNeg hp).2.2.2.2 s.toNatClampNeg)) ∧ frU p mi m' ∧ puR m' p = (hrG (twR mi c0 c1 c2) (puR mi p) s.toNatClampNeg hp)) ∧ (¬ (aixn s 8 = true ∧ aixn hp 3 = true) → r = some (.int (-2)) ∧ m' = mi)) := by
  have hp5 : p < 5 := by omega
  refine cw_of (cd := cd_X7_drive) (nL := 4) rfl rfl ?_
  show aWP _ _ (0, [some (.ref 84), some (.int (nI p)), some (.int s), some (.int hp)], [], (HD, mi, ml, mr)) _
  refine wp_steps 2 (t' := (2, [some (.ref 84), some (.int (nI p)), some (.int s), some (.int hp)], [.int (nI p), .ref 84], (HD, mi, ml, mr))) rfl ?_
  refine wp_calv (as := [.int (nI p)]) rfl rfl rfl (Nat.le_of_ble_eq_true rfl) ⟨by decide, rfl⟩ ((c_isOne_ok (mi := mi) (ml := ml) hM hN hN5 hpN)) (by decide) ?_
  rintro _ _ ⟨rfl, rfl⟩
  show aWP _ _ (3, [some (.ref 84), some (.int (nI p)), some (.int s), some (.int hp)], [.int 1], (HD, mi, ml, mr)) _
  refine wp_bI rfl (fun c_1 => ?_) (fun c_1 => ?_)
  · have c_1 : (1 : Int32) = 0 := of_decide_eq_true c_1
    exact absurd c_1 (by decide)
  have c_1 : ¬ ((1 : Int32) = 0) := of_decide_eq_false c_1
  refine wp_steps 1 (t' := (5, [some (.ref 84), some (.int (nI p)), some (.int s), some (.int hp)], [.int s], (HD, mi, ml, mr))) rfl ?_
  refine wp_cal (as := [.int s]) rfl rfl rfl (Nat.le_of_ble_eq_true rfl) (c_risStreet) (by decide) ?_
  rintro _ _ ⟨rfl, rfl⟩
  show aWP _ _ (6, [some (.ref 84), some (.int (nI p)), some (.int s), some (.int hp)], [.int (if aixn s 8 = true then (1 : Int32) else 0)], (HD, mi, ml, mr)) _
  refine wp_bI rfl (fun c_2 => ?_) (fun c_2 => ?_)
  · have c_2 : (if aixn s 8 = true then (1 : Int32) else 0) = 0 := of_decide_eq_true c_2
    refine wp_steps 1 (t' := (14, [some (.ref 84), some (.int (nI p)), some (.int s), some (.int hp)], [.int (-2)], (HD, mi, ml, mr))) rfl ?_
    refine wp_ret rfl rfl ⟨⟨Nat.le_refl _, Nat.le_refl _⟩, ?_⟩
    exact ⟨mi, ml, rfl, fun z => absurd z (show ¬ (aixn s 8 = true ∧ aixn hp 3 = true) from fun z => (fun z => absurd (z.symm.trans (ite_nix c_2)) Bool.noConfusion) z.1), fun _ => ⟨rfl, rfl⟩⟩
  · have c_2 : ¬ ((if aixn s 8 = true then (1 : Int32) else 0) = 0) := of_decide_eq_false c_2
    refine wp_steps 4 (t' := (11, [some (.ref 84), some (.int (nI p)), some (.int s), some (.int hp)], [.long 2, .long 0, .long hp.toInt64], (HD, mi, ml, mr))) rfl ?_
    refine wp_cal (as := [.long hp.toInt64, .long 0, .long 2]) rfl rfl rfl (Nat.le_of_ble_eq_true rfl) ((c_in_ax (x := hp) (hi := 2) (n := 3) (by decide) (by decide) (by decide))) (by decide) ?_
    rintro _ _ ⟨rfl, rfl⟩
    show aWP _ _ (12, [some (.ref 84), some (.int (nI p)), some (.int s), some (.int hp)], [.int (if aixn hp 3 = true then (1 : Int32) else 0)], (HD, mi, ml, mr)) _
    refine wp_bI rfl (fun c_3 => ?_) (fun c_3 => ?_)
    · have c_3 : ¬ (if aixn hp 3 = true then (1 : Int32) else 0) = 0 := of_decide_eq_true c_3
      have hs8 := (aix_out (ite_aix c_2)).2
      refine wp_steps 4 (t' := (19, [some (.ref 84), some (.int (nI p)), some (.int s), some (.int hp)], [.int hp, .int s, .int (nI p), .ref 84], (HD, mi, ml, mr))) rfl ?_
      refine wp_calv (as := [.int (nI p), .int s, .int hp]) rfl rfl rfl (Nat.le_of_ble_eq_true rfl) ⟨by decide, rfl⟩ ((r_drives_i (ml := ml) (hp := hp) hM hR hp5 (ite_aix c_2) hok)) (by decide) ?_
      rintro _ _ ⟨rfl, m_1, w_1, rfl, f1, u1⟩
      show aWP _ _ (20, [some (.ref 84), some (.int (nI p)), some (.int s), some (.int hp)], [], (HD, m_1, w_1, mr)) _
      refine wp_steps 1 (t' := (21, [some (.ref 84), some (.int (nI p)), some (.int s), some (.int hp)], [.ref 84], (HD, m_1, w_1, mr))) rfl ?_
      refine wp_getr rfl ⟨by decide, rfl⟩ rfl (hM (84, 11, 91) (by decide)) ?_
      refine wp_steps 2 (t' := (24, [some (.ref 84), some (.int (nI p)), some (.int s), some (.int hp)], [.int s, .int (nI p), .ref 91], (HD, m_1, w_1, mr))) rfl ?_
      refine wp_cal (as := [.int (nI p), .int s]) rfl rfl rfl (Nat.le_of_ble_eq_true rfl) ((c_rat_i (mi := m_1) (ml := w_1) (ite_aix c_2))) (by decide) ?_
      rintro _ _ ⟨rfl, rfl⟩
      show aWP _ _ (25, [some (.ref 84), some (.int (nI p)), some (.int s), some (.int hp)], [.int (nI (10 * p + s.toNatClampNeg)), .ref 91], (HD, m_1, w_1, mr)) _
      refine wp_iald rfl ⟨by decide, rfl⟩ (aix_nI (by have := (aix_out (ite_aix c_2)).2; omega) (by decide)) ?_
      rw [nI_clamp (n := 10 * p + s.toNatClampNeg) (by have := hs8; omega)]
      refine wp_ret rfl rfl ⟨⟨Nat.le_refl _, Nat.le_refl _⟩, ?_⟩
      have q : m_1 91 (10 * p + s.toNatClampNeg) = (hrG (twR mi c0 c1 c2) (puR mi p) s.toNatClampNeg hp).2.2.2.2 s.toNatClampNeg := by rw [← u1]; exact sk_R (aix_out (ite_aix c_2)).2
      rw [q]
      exact ⟨m_1, w_1, rfl, fun _ => ⟨rfl, f1, u1⟩, fun z => absurd (show aixn s 8 = true ∧ aixn hp 3 = true from ⟨(ite_aix c_2), (ite_aix c_3)⟩) z⟩
    · have c_3 : (if aixn hp 3 = true then (1 : Int32) else 0) = 0 := Decidable.not_not.mp (of_decide_eq_false c_3)
      refine wp_steps 1 (t' := (14, [some (.ref 84), some (.int (nI p)), some (.int s), some (.int hp)], [.int (-2)], (HD, mi, ml, mr))) rfl ?_
      refine wp_ret rfl rfl ⟨⟨Nat.le_refl _, Nat.le_refl _⟩, ?_⟩
      exact ⟨mi, ml, rfl, fun z => absurd z (show ¬ (aixn s 8 = true ∧ aixn hp 3 = true) from fun z => (fun z => absurd (z.symm.trans (ite_nix c_3)) Bool.noConfusion) z.2), fun _ => ⟨rfl, rfl⟩⟩
set_option maxRecDepth 20000 in
set_option maxHeartbeats 1000000 in
theorem l_rready {X : aXt × Value} {mi : Nat → Nat → Int32} {ml : Nat → Nat → Int64} {mr : Nat → Nat → Option Nat} (hM : MRok mr) {N : Nat} (hN : mi 84 12 = nI N) (hN5 : N ≤ 5) {c0 c1 c2 : List Int32} (hR : RUX mi c0 c1 c2) : ∀ (g k : Nat) (m : Nat → Nat → Int32) (w : Nat → Nat → Int64), k + g = N → frY mi m → aWP (aEx (aTb X) 47) cd_X7_readyMany (4, [some (.ref 84), some (.int (nI (ryN (fun p => mnG (twR mi c0 c1 c2) (puR mi p)) k))), some (.int (nI k))], [], (HD, m, w, mr)) (fun r h' => (HD.1 ≤ h'.1.1 ∧ HD.2.1 ≤ h'.1.2.1) ∧ r = some (.int (nI (ryN (fun p => mnG (twR mi c0 c1 c2) (puR mi p)) N))) ∧ ∃ m' w', h' = (HD, m', w', mr) ∧ frY mi m') := by
  intro g
  induction g with
  | zero =>
    intro k m w hg h
    obtain rfl : k = N := by omega
    refine wp_steps 2 (t' := (6, [some (.ref 84), some (.int (nI (ryN (fun p => mnG (twR mi c0 c1 c2) (puR mi p)) k))), some (.int (nI k))], [.ref 84, .int (nI k)], (HD, m, w, mr))) rfl ?_
    refine wp_geti rfl ⟨by decide, rfl⟩ (Or.inl rfl) ?_
    rw [show m 84 12 = nI k from (h 84 12 (by omega)).trans hN]
    refine wp_bC rfl (fun c_1 => ?_) (fun c_1 => ?_)
    rotate_left
    · have c_1 : ¬ ((nI k) ≤ (nI k)) := of_decide_eq_false c_1
      exact absurd (Int32.le_refl _) c_1
    have c_1 : (nI k) ≤ (nI k) := of_decide_eq_true c_1
    refine wp_steps 1 (t' := (22, [some (.ref 84), some (.int (nI (ryN (fun p => mnG (twR mi c0 c1 c2) (puR mi p)) k))), some (.int (nI k))], [.int (nI (ryN (fun p => mnG (twR mi c0 c1 c2) (puR mi p)) k))], (HD, m, w, mr))) rfl ?_
    refine wp_ret rfl rfl ⟨⟨Nat.le_refl _, Nat.le_refl _⟩, ?_⟩
    exact ⟨rfl, m, w, rfl, h⟩
  | succ g ih =>
    intro k m w hg h
    have h5 : k < 5 := by omega
    refine wp_steps 2 (t' := (6, [some (.ref 84), some (.int (nI (ryN (fun p => mnG (twR mi c0 c1 c2) (puR mi p)) k))), some (.int (nI k))], [.ref 84, .int (nI k)], (HD, m, w, mr))) rfl ?_
    refine wp_geti rfl ⟨by decide, rfl⟩ (Or.inl rfl) ?_
    rw [show m 84 12 = nI N from (h 84 12 (by omega)).trans hN]
    refine wp_bC rfl (fun c_1 => ?_) (fun c_1 => ?_)
    · have c_1 : (nI N) ≤ (nI k) := of_decide_eq_true c_1
      exact absurd c_1 (nI_ge (a := k) (b := N) (by omega) (by omega))
    have c_1 : ¬ ((nI N) ≤ (nI k)) := of_decide_eq_false c_1
    refine wp_steps 3 (t' := (11, [some (.ref 84), some (.int (nI (ryN (fun p => mnG (twR mi c0 c1 c2) (puR mi p)) k))), some (.int (nI k))], [.int (nI k), .ref 84, .int (nI (ryN (fun p => mnG (twR mi c0 c1 c2) (puR mi p)) k))], (HD, m, w, mr))) rfl ?_
    refine wp_calv (as := [.int (nI k)]) rfl rfl rfl (Nat.le_of_ble_eq_true rfl) ⟨by decide, rfl⟩ ((r_many (mi := m) (ml := w) hM (hR.Y h) h5)) (by decide) ?_
    rintro _ _ ⟨rfl, m_1, w_1, rfl, f1⟩
    rw [twR_Y h, puR_Y h]
    show aWP _ _ (12, [some (.ref 84), some (.int (nI (ryN (fun p => mnG (twR mi c0 c1 c2) (puR mi p)) k))), some (.int (nI k))], [.int (nI (mnG (twR mi c0 c1 c2) (puR mi k))), .int (nI (ryN (fun p => mnG (twR mi c0 c1 c2) (puR mi p)) k))], (HD, m_1, w_1, mr)) _
    refine wp_steps 1 (t' := (13, [some (.ref 84), some (.int (nI (ryN (fun p => mnG (twR mi c0 c1 c2) (puR mi p)) k))), some (.int (nI k))], [.int 8, .int (nI (mnG (twR mi c0 c1 c2) (puR mi k))), .int (nI (ryN (fun p => mnG (twR mi c0 c1 c2) (puR mi p)) k))], (HD, m_1, w_1, mr))) rfl ?_
    refine wp_bC rfl (fun c_2 => ?_) (fun c_2 => ?_)
    · have c_2 : ¬ (nI (mnG (twR mi c0 c1 c2) (puR mi k))) = 8 := of_decide_eq_true c_2
      refine wp_steps 5 (t' := (4, [some (.ref 84), some (.int ((nI (ryN (fun p => mnG (twR mi c0 c1 c2) (puR mi p)) k)) + 0)), some (.int ((nI k) + Int32.ofInt 1))], [], (HD, m_1, w_1, mr))) rfl ?_
      have q : ¬ mnG (twR mi c0 c1 c2) (puR mi k) = 8 := fun z => c_2 (by rw [z]; rfl)
      have e : ryN (fun p => mnG (twR mi c0 c1 c2) (puR mi p)) (k + 1) = ryN (fun p => mnG (twR mi c0 c1 c2) (puR mi p)) k := if_neg q
      rw [inc_nI, show nI (ryN (fun p => mnG (twR mi c0 c1 c2) (puR mi p)) k) + 0 = nI (ryN (fun p => mnG (twR mi c0 c1 c2) (puR mi p)) k) from Int32.add_zero _, ← e]
      exact ih (k + 1) m_1 w_1 (by omega) (h.tr f1)
    · have c_2 : (nI (mnG (twR mi c0 c1 c2) (puR mi k))) = 8 := Decidable.not_not.mp (of_decide_eq_false c_2)
      refine wp_steps 6 (t' := (4, [some (.ref 84), some (.int ((nI (ryN (fun p => mnG (twR mi c0 c1 c2) (puR mi p)) k)) + 1)), some (.int ((nI k) + Int32.ofInt 1))], [], (HD, m_1, w_1, mr))) rfl ?_
      have q : mnG (twR mi c0 c1 c2) (puR mi k) = 8 := (nI_eq (a := mnG (twR mi c0 c1 c2) (puR mi k)) (b := 8) (Nat.lt_of_le_of_lt (mgN_le _ 8) (by decide)) (by decide)).mp c_2
      have e : ryN (fun p => mnG (twR mi c0 c1 c2) (puR mi p)) (k + 1) = ryN (fun p => mnG (twR mi c0 c1 c2) (puR mi p)) k + 1 := if_pos q
      rw [inc_nI, nI_1, ← e]
      exact ih (k + 1) m_1 w_1 (by omega) (h.tr f1)
set_option maxRecDepth 20000 in
set_option maxHeartbeats 1000000 in
theorem r_ready {X : aXt × Value} {mi : Nat → Nat → Int32} {ml : Nat → Nat → Int64} {mr : Nat → Nat → Option Nat} (hM : MRok mr) {N : Nat} (hN : mi 84 12 = nI N) (hN5 : N ≤ 5) {c0 c1 c2 : List Int32} (hR : RUX mi c0 c1 c2) : aCW X 48 184 [.ref 84] (HD, mi, ml, mr) (fun r h' => r = some (.int (nI (ryN (fun p => mnG (twR mi c0 c1 c2) (puR mi p)) N))) ∧ ∃ m' w', h' = (HD, m', w', mr) ∧ frY mi m') := by
  refine cw_of (cd := cd_X7_readyMany) (nL := 3) rfl rfl ?_
  show aWP _ _ (0, [some (.ref 84), none, none], [], (HD, mi, ml, mr)) _
  refine wp_steps 4 (t' := (4, [some (.ref 84), some (.int 0), some (.int 0)], [], (HD, mi, ml, mr))) rfl ?_
  exact l_rready (ml := ml) hM hN hN5 hR N 0 mi ml (by omega) (frY.rf mi)
