/-! the reference: a night; lowest terms, a test, what is drawn (written by wip/whole/mkrefF.py) -/
/-- the first k have slept -/
def slR (t : tW) (k : Nat) (mi m : Nat → Nat → Int32) : Prop := (∀ x j, ¬ (x = 84 ∧ 13 ≤ j ∧ j ≤ 27) → ¬ (x = 91 ∧ j < 10 * k) → m x j = mi x j) ∧ ∀ p, p < k → puR m p = spG t (puR mi p)
theorem slR.pk {t : tW} {k p : Nat} {mi m : Nat → Nat → Int32} (h : slR t k mi m) (hp : k ≤ p) : puR m p = puR mi p := by
  refine Prod.ext ?_ (Prod.ext ?_ (Prod.ext ?_ (Prod.ext ?_ (funext fun j => ?_))))
  · exact h.1 89 p (by omega) (by omega)
  · exact h.1 90 p (by omega) (by omega)
  · exact h.1 91 _ (by omega) (by omega)
  · exact h.1 91 _ (by omega) (by omega)
  · show c8 (fun i => m 91 (10 * p + i)) j = c8 (fun i => mi 91 (10 * p + i)) j
    unfold c8
    by_cases hj : j < 8
    · rw [if_pos hj, if_pos hj]; exact h.1 91 _ (by omega) (by omega)
    · rw [if_neg hj, if_neg hj]
theorem slR.tr {t : tW} {k : Nat} {mi m : Nat → Nat → Int32} {c0 c1 c2 : List Int32} (h : slR t k mi m) (hR : RUX mi c0 c1 c2) : twR m c0 c1 c2 = twR mi c0 c1 c2 ∧ RUX m c0 c1 c2 := by
  constructor
  · unfold twR
    rw [show m 88 = mi 88 from funext fun j => h.1 88 j (by omega) (by omega), h.1 84 7 (by omega) (by omega)]
  · obtain ⟨R, n, v0, h1, h2, h3⟩ := hR
    exact ⟨R, n, v0, h1, (h.1 _ _ (by omega) (by omega)).trans h2, h3.fr (fun j _ => h.1 _ _ (by omega) (by omega)) (h.1 _ _ (by omega) (by omega))⟩
theorem puR_U2 {p q : Nat} {m m' : Nat → Nat → Int32} (h : frU p m m') (hq : p ≠ q) : puR m' q = puR m q := by
  refine Prod.ext ?_ (Prod.ext ?_ (Prod.ext ?_ (Prod.ext ?_ (funext fun j => ?_))))
  · exact h 89 q (by omega) (by omega)
  · exact h 90 q (by omega) (by omega)
  · exact h 91 _ (by omega) (by omega)
  · exact h 91 _ (by omega) (by omega)
  · show c8 (fun i => m' 91 (10 * q + i)) j = c8 (fun i => m 91 (10 * q + i)) j
    unfold c8
    by_cases hj : j < 8
    · rw [if_pos hj, if_pos hj]; exact h 91 _ (by omega) (by omega)
    · rw [if_neg hj, if_neg hj]
theorem slR.step {t : tW} {k : Nat} {mi m m' : Nat → Nat → Int32} (h : slR t k mi m) (f : frU k m m') (u : puR m' k = spG t (puR m k)) : slR t (k + 1) mi m' := by
  refine ⟨fun x j q1 q2 => ?_, fun p hp => ?_⟩
  · rw [f x j q1 (fun z => q2 ⟨z.1, by omega⟩)]
    exact h.1 x j q1 (fun z => q2 ⟨z.1, by omega⟩)
  · by_cases e : p = k
    · subst e; rw [u, h.pk (Nat.le_refl p)]
    · rw [puR_U2 f (fun z => e z.symm), h.2 p (by omega)]
set_option maxRecDepth 20000 in
set_option maxHeartbeats 1000000 in
theorem l_rnight {X : aXt × Value} {mi : Nat → Nat → Int32} {ml : Nat → Nat → Int64} {mr : Nat → Nat → Option Nat} (hM : MRok mr) {N : Nat} (hN : mi 84 12 = nI N) (hN5 : N ≤ 5) {c0 c1 c2 : List Int32} (hR : RUX mi c0 c1 c2) (hok : ∀ p, p < N → okU (puR mi p)) {Q : Option Value → aM → Prop} (hk : (∀ m' w', slR (twR mi c0 c1 c2) N mi m' → aWP (aEx (aTb X) 48) cd_X7_night (17, [some (.ref 84), some (.int (nI N))], [], (HD, m', w', mr)) Q)) : ∀ (g k : Nat) (m : Nat → Nat → Int32) (w : Nat → Nat → Int64), k + g = N → slR (twR mi c0 c1 c2) k mi m → aWP (aEx (aTb X) 48) cd_X7_night (8, [some (.ref 84), some (.int (nI k))], [], (HD, m, w, mr)) Q := by
  intro g
  induction g with
  | zero =>
    intro k m w hg h
    obtain rfl : k = N := by omega
    refine wp_steps 2 (t' := (10, [some (.ref 84), some (.int (nI k))], [.ref 84, .int (nI k)], (HD, m, w, mr))) rfl ?_
    refine wp_geti rfl ⟨by decide, rfl⟩ (Or.inl rfl) ?_
    rw [show m 84 12 = nI k from (h.1 84 12 (by omega) (by omega)).trans hN]
    refine wp_bC rfl (fun c_1 => ?_) (fun c_1 => ?_)
    rotate_left
    · have c_1 : ¬ ((nI k) ≤ (nI k)) := of_decide_eq_false c_1
      exact absurd (Int32.le_refl _) c_1
    have c_1 : (nI k) ≤ (nI k) := of_decide_eq_true c_1
    exact hk m w h
  | succ g ih =>
    intro k m w hg h
    have h5 : k < 5 := by omega
    refine wp_steps 2 (t' := (10, [some (.ref 84), some (.int (nI k))], [.ref 84, .int (nI k)], (HD, m, w, mr))) rfl ?_
    refine wp_geti rfl ⟨by decide, rfl⟩ (Or.inl rfl) ?_
    rw [show m 84 12 = nI N from (h.1 84 12 (by omega) (by omega)).trans hN]
    refine wp_bC rfl (fun c_1 => ?_) (fun c_1 => ?_)
    · have c_1 : (nI N) ≤ (nI k) := of_decide_eq_true c_1
      exact absurd c_1 (nI_ge (a := k) (b := N) (by omega) (by omega))
    have c_1 : ¬ ((nI N) ≤ (nI k)) := of_decide_eq_false c_1
    refine wp_steps 2 (t' := (14, [some (.ref 84), some (.int (nI k))], [.int (nI k), .ref 84], (HD, m, w, mr))) rfl ?_
    refine wp_calv (as := [.int (nI k)]) rfl rfl rfl (Nat.le_of_ble_eq_true rfl) ⟨by decide, rfl⟩ ((r_sleeps (mi := m) (ml := w) hM (h.tr hR).2 h5 (by rw [h.pk (Nat.le_refl k)]; exact hok k (by omega)))) (by decide) ?_
    rintro _ _ ⟨rfl, m_1, w_1, rfl, f1, u1⟩
    rw [(h.tr hR).1] at u1
    show aWP _ _ (15, [some (.ref 84), some (.int (nI k))], [], (HD, m_1, w_1, mr)) _
    refine wp_steps 2 (t' := (8, [some (.ref 84), some (.int ((nI k) + Int32.ofInt 1))], [], (HD, m_1, w_1, mr))) rfl ?_
    rw [inc_nI]
    exact ih (k + 1) m_1 w_1 (by omega) (h.step f1 u1)
set_option maxRecDepth 20000 in
set_option maxHeartbeats 1000000 in
theorem q_night_no {X : aXt × Value} {mi : Nat → Nat → Int32} {ml : Nat → Nat → Int64} {mr : Nat → Nat → Option Nat} (hM : MRok mr) (hd : mi 84 7 = 999) : aCW X 49 185 [.ref 84] (HD, mi, ml, mr) (fun r h' => r = some (.int (-3)) ∧ h' = (HD, mi, ml, mr)) := by
  refine cw_of (cd := cd_X7_night) (nL := 2) rfl rfl ?_
  show aWP _ _ (0, [some (.ref 84), none], [], (HD, mi, ml, mr)) _
  refine wp_steps 1 (t' := (1, [some (.ref 84), none], [.ref 84], (HD, mi, ml, mr))) rfl ?_
  refine wp_geti rfl ⟨by decide, rfl⟩ (Or.inl rfl) ?_
  refine wp_steps 1 (t' := (3, [some (.ref 84), none], [.int 999, .int (mi 84 7)], (HD, mi, ml, mr))) rfl ?_
  refine wp_bC rfl (fun c_1 => ?_) (fun c_1 => ?_)
  · have c_1 : ¬ (mi 84 7) = 999 := of_decide_eq_true c_1
    exact absurd hd c_1
  have c_1 : (mi 84 7) = 999 := Decidable.not_not.mp (of_decide_eq_false c_1)
  refine wp_steps 1 (t' := (5, [some (.ref 84), none], [.int (-3)], (HD, mi, ml, mr))) rfl ?_
  refine wp_ret rfl rfl ⟨⟨Nat.le_refl _, Nat.le_refl _⟩, ?_⟩
  exact ⟨rfl, rfl⟩
set_option maxRecDepth 20000 in
set_option maxHeartbeats 1000000 in
theorem q_night_ok {X : aXt × Value} {mi : Nat → Nat → Int32} {ml : Nat → Nat → Int64} {mr : Nat → Nat → Option Nat} (hM : MRok mr) {N : Nat} (hN : mi 84 12 = nI N) (hN5 : N ≤ 5) {c0 c1 c2 : List Int32} (hR : RUX mi c0 c1 c2) (hok : ∀ p, p < N → okU (puR mi p)) (hd : ¬ mi 84 7 = 999) : aCW X 49 185 [.ref 84] (HD, mi, ml, mr) (fun r h' => r = some (.int (nI (ryN (fun p => mnG (ndG (twR mi c0 c1 c2)) (spG (twR mi c0 c1 c2) (puR mi p))) N))) ∧ ∃ m' w', h' = (HD, m', w', mr) ∧ (∀ x j, ¬ (x = 84 ∧ (13 ≤ j ∧ j ≤ 27 ∨ j = 7)) → ¬ (x = 91 ∧ j < 10 * N) → m' x j = mi x j) ∧ (∀ p, p < N → puR m' p = spG (twR mi c0 c1 c2) (puR mi p)) ∧ m' 84 7 = mi 84 7 + 1) := by
  refine cw_of (cd := cd_X7_night) (nL := 2) rfl rfl ?_
  show aWP _ _ (0, [some (.ref 84), none], [], (HD, mi, ml, mr)) _
  refine wp_steps 1 (t' := (1, [some (.ref 84), none], [.ref 84], (HD, mi, ml, mr))) rfl ?_
  refine wp_geti rfl ⟨by decide, rfl⟩ (Or.inl rfl) ?_
  refine wp_steps 1 (t' := (3, [some (.ref 84), none], [.int 999, .int (mi 84 7)], (HD, mi, ml, mr))) rfl ?_
  refine wp_bC rfl (fun c_1 => ?_) (fun c_1 => ?_)
  rotate_left
  · have c_1 : (mi 84 7) = 999 := Decidable.not_not.mp (of_decide_eq_false c_1)
    exact absurd c_1 hd
  have c_1 : ¬ (mi 84 7) = 999 := of_decide_eq_true c_1
  refine wp_steps 2 (t' := (8, [some (.ref 84), some (.int 0)], [], (HD, mi, ml, mr))) rfl ?_
  refine l_rnight (ml := ml) hM hN hN5 hR hok (fun m w h => ?_) N 0 mi ml (by omega) ⟨fun _ _ _ _ => rfl, fun p hp => absurd hp (Nat.not_lt_zero p)⟩
  refine wp_steps 2 (t' := (19, [some (.ref 84), some (.int (nI N))], [.ref 84, .ref 84], (HD, m, w, mr))) rfl ?_
  refine wp_geti rfl ⟨by decide, rfl⟩ (Or.inl rfl) ?_
  refine wp_steps 1 (t' := (21, [some (.ref 84), some (.int (nI N))], [.int 1, .int (m 84 7), .ref 84], (HD, m, w, mr))) rfl ?_
  rw [show m 84 7 = mi 84 7 from h.1 84 7 (by omega) (by omega)]
  refine wp_steps 1 (t' := (22, [some (.ref 84), some (.int (nI N))], [.int ((mi 84 7) + 1), .ref 84], (HD, m, w, mr))) rfl ?_
  refine wp_puti rfl ⟨by decide, rfl⟩ rfl (fun m_1 h_2 => ?_)
  subst h_2
  have u2 : RUX (aup m 84 7 (mi 84 7 + 1)) c0 c1 c2 := by
    obtain ⟨R, n, v0, h1, h2, h3⟩ := (h.tr hR).2
    exact ⟨R, n, v0, h1, h2, h3.fr (fun _ _ => rfl) rfl⟩
  have u3 : twR (aup m 84 7 (mi 84 7 + 1)) c0 c1 c2 = ndG (twR mi c0 c1 c2) := by
    rw [← (h.tr hR).1]
    show (c8 (m 88), mi 84 7 + 1, c0, c1, c2) = (c8 (m 88), m 84 7 + 1, c0, c1, c2)
    rw [h.1 84 7 (by omega) (by omega)]
  refine wp_steps 1 (t' := (24, [some (.ref 84), some (.int (nI N))], [.ref 84], (HD, (aup m 84 7 ((mi 84 7) + 1)), w, mr))) rfl ?_
  refine wp_calv (as := []) rfl rfl rfl (Nat.le_of_ble_eq_true rfl) ⟨by decide, rfl⟩ ((r_ready (mi := (aup m 84 7 (mi 84 7 + 1))) (ml := w) hM ((h.1 84 12 (by omega) (by omega)).trans hN) hN5 u2)) (by decide) ?_
  rintro _ _ ⟨rfl, m_2, w_2, rfl, f2⟩
  have er : ryN (fun p => mnG (twR (aup m 84 7 (mi 84 7 + 1)) c0 c1 c2) (puR (aup m 84 7 (mi 84 7 + 1)) p)) N = ryN (fun p => mnG (ndG (twR mi c0 c1 c2)) (spG (twR mi c0 c1 c2) (puR mi p))) N := ryN_cg fun p hp => by
    show mnG _ _ = mnG _ _
    rw [show puR (aup m 84 7 (mi 84 7 + 1)) p = puR m p from rfl, h.2 p hp, u3]
  rw [er]
  show aWP _ _ (25, [some (.ref 84), some (.int (nI N))], [.int (nI (ryN (fun p => mnG (ndG (twR mi c0 c1 c2)) (spG (twR mi c0 c1 c2) (puR mi p))) N))], (HD, m_2, w_2, mr)) _
  refine wp_ret rfl rfl ⟨⟨Nat.le_refl _, Nat.le_refl _⟩, ?_⟩
  refine ⟨rfl, m_2, w_2, rfl, fun x j q1 q2 => ?_, fun p hp => ?_, ?_⟩
  · rw [f2 x j (fun z => q1 ⟨z.1, Or.inl z.2⟩), ← h.1 x j (fun z => q1 ⟨z.1, Or.inl z.2⟩) q2]
    unfold aup
    by_cases e : x = 84
    · rw [if_pos e, if_neg (fun z => q1 ⟨e, Or.inr z⟩)]
    · rw [if_neg e]
  · rw [puR_Y f2]
    exact h.2 p hp
  · rw [f2 84 7 (by omega)]
    simp [aup]
set_option maxRecDepth 20000 in
set_option maxHeartbeats 1000000 in
theorem l_rlowest {X : aXt × Value} {mi : Nat → Nat → Int32} {ml : Nat → Nat → Int64} {mr : Nat → Nat → Option Nat} {a b : Nat} {w : Int32} (ha : a ≤ 10 ^ 16) (hb : b ≤ 10 ^ 16) (hb0 : 0 < b) : ∀ (g p q : Nat) (o : Option Value), q ≤ g → p ≤ 10 ^ 16 → q ≤ 10 ^ 16 → Nat.gcd p q = Nat.gcd a b → aWP (aEx (aTb X) 0) cd_X7_lowest (4, [some (.long (lN a)), none, some (.long (lN b)), none, some (.int w), some (.long (lN p)), none, some (.long (lN q)), none, o, none], [], (HD, mi, ml, mr)) (fun r h' => (HD.1 ≤ h'.1.1 ∧ HD.2.1 ≤ h'.1.2.1) ∧ r = some (.long (loG a b w)) ∧ h' = (HD, mi, ml, mr)) := by
  intro g
  induction g with
  | zero =>
    intro p q o hg hp hq hgcd
    have e62 : (10 : Nat) ^ 16 < 2 ^ 62 := by decide
    have hz : q = 0 := by omega
    have hgp : p = Nat.gcd a b := by rw [← hgcd, hz, Nat.gcd_zero_right]
    have hp0 : 0 < p := by rw [hgp]; exact Nat.gcd_pos_of_pos_right _ hb0
    rw [show lN q = 0 by rw [hz]; rfl]
    refine wp_steps 3 (t' := (7, [some (.long (lN a)), none, some (.long (lN b)), none, some (.int w), some (.long (lN p)), none, some (.long 0), none, o, none], [.int (lg_cmp 0 0)], (HD, mi, ml, mr))) rfl ?_
    refine wp_bI rfl (fun c_1 => ?_) (fun c_1 => ?_)
    rotate_left
    · have c_1 : ¬ ((lg_cmp 0 0) = 0) := of_decide_eq_false c_1
      exact absurd ((lg_cmp_eq _ _).mpr rfl) c_1
    have c_1 : (lg_cmp 0 0) = 0 := of_decide_eq_true c_1
    refine wp_steps 1 (t' := (18, [some (.long (lN a)), none, some (.long (lN b)), none, some (.int w), some (.long (lN p)), none, some (.long 0), none, o, none], [.int w], (HD, mi, ml, mr))) rfl ?_
    refine wp_bI rfl (fun c_2 => ?_) (fun c_2 => ?_)
    · have c_2 : ¬ w = 0 := of_decide_eq_true c_2
      refine wp_steps 2 (t' := (25, [some (.long (lN a)), none, some (.long (lN b)), none, some (.int w), some (.long (lN p)), none, some (.long 0), none, o, none], [.long (lN p), .long (lN b)], (HD, mi, ml, mr))) rfl ?_
      refine wp_step (t' := (26, [some (.long (lN a)), none, some (.long (lN b)), none, some (.int w), some (.long (lN p)), none, some (.long 0), none, o, none], [.long ((lN b) / (lN p))], (HD, mi, ml, mr))) rfl (ld_step (lN_ne (Nat.lt_of_le_of_lt hp e62) hp0)) ?_
      rw [lN_div (Nat.lt_of_le_of_lt hb e62) (Nat.lt_of_le_of_lt hp e62) hp0]
      refine wp_ret rfl rfl ⟨⟨Nat.le_refl _, Nat.le_refl _⟩, ?_⟩
      refine ⟨?_, rfl⟩
      unfold loG
      rw [if_neg c_2, ← hgp]
    · have c_2 : w = 0 := Decidable.not_not.mp (of_decide_eq_false c_2)
      refine wp_steps 2 (t' := (21, [some (.long (lN a)), none, some (.long (lN b)), none, some (.int w), some (.long (lN p)), none, some (.long 0), none, o, none], [.long (lN p), .long (lN a)], (HD, mi, ml, mr))) rfl ?_
      refine wp_step (t' := (22, [some (.long (lN a)), none, some (.long (lN b)), none, some (.int w), some (.long (lN p)), none, some (.long 0), none, o, none], [.long ((lN a) / (lN p))], (HD, mi, ml, mr))) rfl (ld_step (lN_ne (Nat.lt_of_le_of_lt hp e62) hp0)) ?_
      rw [lN_div (Nat.lt_of_le_of_lt ha e62) (Nat.lt_of_le_of_lt hp e62) hp0]
      refine wp_steps 1 (t' := (26, [some (.long (lN a)), none, some (.long (lN b)), none, some (.int w), some (.long (lN p)), none, some (.long 0), none, o, none], [.long (lN (a / p))], (HD, mi, ml, mr))) rfl ?_
      refine wp_ret rfl rfl ⟨⟨Nat.le_refl _, Nat.le_refl _⟩, ?_⟩
      refine ⟨?_, rfl⟩
      unfold loG
      rw [if_pos c_2, ← hgp]
  | succ g ih =>
    intro p q o hg hp hq hgcd
    have e62 : (10 : Nat) ^ 16 < 2 ^ 62 := by decide
    by_cases hz : q = 0
    · skip
      have hgp : p = Nat.gcd a b := by rw [← hgcd, hz, Nat.gcd_zero_right]
      have hp0 : 0 < p := by rw [hgp]; exact Nat.gcd_pos_of_pos_right _ hb0
      rw [show lN q = 0 by rw [hz]; rfl]
      refine wp_steps 3 (t' := (7, [some (.long (lN a)), none, some (.long (lN b)), none, some (.int w), some (.long (lN p)), none, some (.long 0), none, o, none], [.int (lg_cmp 0 0)], (HD, mi, ml, mr))) rfl ?_
      refine wp_bI rfl (fun c_1 => ?_) (fun c_1 => ?_)
      rotate_left
      · have c_1 : ¬ ((lg_cmp 0 0) = 0) := of_decide_eq_false c_1
        exact absurd ((lg_cmp_eq _ _).mpr rfl) c_1
      have c_1 : (lg_cmp 0 0) = 0 := of_decide_eq_true c_1
      refine wp_steps 1 (t' := (18, [some (.long (lN a)), none, some (.long (lN b)), none, some (.int w), some (.long (lN p)), none, some (.long 0), none, o, none], [.int w], (HD, mi, ml, mr))) rfl ?_
      refine wp_bI rfl (fun c_2 => ?_) (fun c_2 => ?_)
      · have c_2 : ¬ w = 0 := of_decide_eq_true c_2
        refine wp_steps 2 (t' := (25, [some (.long (lN a)), none, some (.long (lN b)), none, some (.int w), some (.long (lN p)), none, some (.long 0), none, o, none], [.long (lN p), .long (lN b)], (HD, mi, ml, mr))) rfl ?_
        refine wp_step (t' := (26, [some (.long (lN a)), none, some (.long (lN b)), none, some (.int w), some (.long (lN p)), none, some (.long 0), none, o, none], [.long ((lN b) / (lN p))], (HD, mi, ml, mr))) rfl (ld_step (lN_ne (Nat.lt_of_le_of_lt hp e62) hp0)) ?_
        rw [lN_div (Nat.lt_of_le_of_lt hb e62) (Nat.lt_of_le_of_lt hp e62) hp0]
        refine wp_ret rfl rfl ⟨⟨Nat.le_refl _, Nat.le_refl _⟩, ?_⟩
        refine ⟨?_, rfl⟩
        unfold loG
        rw [if_neg c_2, ← hgp]
      · have c_2 : w = 0 := Decidable.not_not.mp (of_decide_eq_false c_2)
        refine wp_steps 2 (t' := (21, [some (.long (lN a)), none, some (.long (lN b)), none, some (.int w), some (.long (lN p)), none, some (.long 0), none, o, none], [.long (lN p), .long (lN a)], (HD, mi, ml, mr))) rfl ?_
        refine wp_step (t' := (22, [some (.long (lN a)), none, some (.long (lN b)), none, some (.int w), some (.long (lN p)), none, some (.long 0), none, o, none], [.long ((lN a) / (lN p))], (HD, mi, ml, mr))) rfl (ld_step (lN_ne (Nat.lt_of_le_of_lt hp e62) hp0)) ?_
        rw [lN_div (Nat.lt_of_le_of_lt ha e62) (Nat.lt_of_le_of_lt hp e62) hp0]
        refine wp_steps 1 (t' := (26, [some (.long (lN a)), none, some (.long (lN b)), none, some (.int w), some (.long (lN p)), none, some (.long 0), none, o, none], [.long (lN (a / p))], (HD, mi, ml, mr))) rfl ?_
        refine wp_ret rfl rfl ⟨⟨Nat.le_refl _, Nat.le_refl _⟩, ?_⟩
        refine ⟨?_, rfl⟩
        unfold loG
        rw [if_pos c_2, ← hgp]
    · have hq0 : 0 < q := Nat.pos_of_ne_zero hz
      refine wp_steps 3 (t' := (7, [some (.long (lN a)), none, some (.long (lN b)), none, some (.int w), some (.long (lN p)), none, some (.long (lN q)), none, o, none], [.int (lg_cmp (lN q) 0)], (HD, mi, ml, mr))) rfl ?_
      refine wp_bI rfl (fun c_71 => ?_) (fun c_71 => ?_)
      · have c_71 : (lg_cmp (lN q) 0) = 0 := of_decide_eq_true c_71
        exact absurd ((lg_cmp_eq _ _).mp c_71) (lN_ne (Nat.lt_of_le_of_lt hq e62) hq0)
      have c_71 : ¬ ((lg_cmp (lN q) 0) = 0) := of_decide_eq_false c_71
      refine wp_steps 2 (t' := (10, [some (.long (lN a)), none, some (.long (lN b)), none, some (.int w), some (.long (lN p)), none, some (.long (lN q)), none, o, none], [.long (lN q), .long (lN p)], (HD, mi, ml, mr))) rfl ?_
      refine wp_step (t' := (11, [some (.long (lN a)), none, some (.long (lN b)), none, some (.int w), some (.long (lN p)), none, some (.long (lN q)), none, o, none], [.long ((lN p) - (lN p) / (lN q) * (lN q))], (HD, mi, ml, mr))) rfl (ld_step (lN_ne (Nat.lt_of_le_of_lt hq e62) hq0)) ?_
      rw [lN_mod (Nat.lt_of_le_of_lt hp e62) (Nat.lt_of_le_of_lt hq e62) hq0]
      refine wp_steps 6 (t' := (4, [some (.long (lN a)), none, some (.long (lN b)), none, some (.int w), some (.long (lN q)), none, some (.long (lN (p % q))), none, some (.long (lN (p % q))), none], [], (HD, mi, ml, mr))) rfl ?_
      have hm := Nat.mod_lt p hq0
      exact ih q (p % q) _ (by omega) hq (Nat.le_of_lt (Nat.lt_of_lt_of_le hm hq)) ((Nat.gcd_comm q (p % q)).trans ((Nat.gcd_rec q p).symm.trans ((Nat.gcd_comm q p).trans hgcd)))
set_option maxRecDepth 20000 in
set_option maxHeartbeats 1000000 in
theorem r_lowest {X : aXt × Value} {mi : Nat → Nat → Int32} {ml : Nat → Nat → Int64} {mr : Nat → Nat → Option Nat} {a b : Nat} {w : Int32} (ha : a ≤ 10 ^ 16) (hb : b ≤ 10 ^ 16) (hb0 : 0 < b) : aCW X 1 196 [.long (lN a), .long (lN b), .int w] (HD, mi, ml, mr) (fun r h' => r = some (.long (loG a b w)) ∧ h' = (HD, mi, ml, mr)) := by
  refine cw_of (cd := cd_X7_lowest) (nL := 11) rfl rfl ?_
  show aWP _ _ (0, [some (.long (lN a)), none, some (.long (lN b)), none, some (.int w), none, none, none, none, none, none], [], (HD, mi, ml, mr)) _
  refine wp_steps 4 (t' := (4, [some (.long (lN a)), none, some (.long (lN b)), none, some (.int w), some (.long (lN a)), none, some (.long (lN b)), none, none, none], [], (HD, mi, ml, mr))) rfl ?_
  exact l_rlowest ha hb hb0 b a b _ (Nat.le_refl b) ha hb rfl
set_option maxRecDepth 20000 in
set_option maxHeartbeats 1000000 in
theorem q_test_no {X : aXt × Value} {mi : Nat → Nat → Int32} {ml : Nat → Nat → Int64} {mr : Nat → Nat → Option Nat} (hM : MRok mr) {N : Nat} (hN : mi 84 12 = nI N) (hN5 : N ≤ 5) {one w part : Int32} (hg : ¬ aixn one N = true) : aCW X 4 197 [.ref 84, .int one, .int w, .int part] (HD, mi, ml, mr) (qR mi mr (.long ((-4611686018427387904)))) := by
  refine cw_of (cd := cd_X7_test) (nL := 9) rfl rfl ?_
  show aWP _ _ (0, [some (.ref 84), some (.int one), some (.int w), some (.int part), none, none, none, none, none], [], (HD, mi, ml, mr)) _
  refine wp_steps 2 (t' := (2, [some (.ref 84), some (.int one), some (.int w), some (.int part), none, none, none, none, none], [.int one, .ref 84], (HD, mi, ml, mr))) rfl ?_
  refine wp_calv (as := [.int one]) rfl rfl rfl (Nat.le_of_ble_eq_true rfl) ⟨by decide, rfl⟩ ((c_isOne_no (ml := ml) hM hN hN5 hg)) (by decide) ?_
  rintro _ _ ⟨rfl, rfl⟩
  show aWP _ _ (3, [some (.ref 84), some (.int one), some (.int w), some (.int part), none, none, none, none, none], [.int 0], (HD, mi, ml, mr)) _
  refine wp_bI rfl (fun c_1 => ?_) (fun c_1 => ?_)
  rotate_left
  · have c_1 : ¬ ((0 : Int32) = 0) := of_decide_eq_false c_1
    exact absurd c_1 (by decide)
  have c_1 : (0 : Int32) = 0 := of_decide_eq_true c_1
  refine wp_steps 1 (t' := (17, [some (.ref 84), some (.int one), some (.int w), some (.int part), none, none, none, none, none], [.long (-4611686018427387904)], (HD, mi, ml, mr))) rfl ?_
  refine wp_ret rfl rfl ⟨⟨Nat.le_refl _, Nat.le_refl _⟩, ?_⟩
  exact ⟨rfl, mi, ml, rfl, frQ.rf mi⟩
set_option maxRecDepth 20000 in
set_option maxHeartbeats 1000000 in
theorem l_rtest {X : aXt × Value} {mi : Nat → Nat → Int32} {ml : Nat → Nat → Int64} {mr : Nat → Nat → Option Nat} (hM : MRok mr) {p : Nat} {w part : Int32} (hp5 : p < 5) (hs : ∀ j, j < 8 → aixn ((puR mi p).2.2.2.2 j) 100 = true) : ∀ (g k : Nat), k + g = 8 → aWP (aEx (aTb X) 3) cd_X7_test (24, [some (.ref 84), some (.int (nI p)), some (.int w), some (.int part), some (.long (lN (tsG (skN (puR mi p)) w k).1)), none, some (.long (lN (tsG (skN (puR mi p)) w k).2)), none, some (.int (nI k))], [], (HD, mi, ml, mr)) (fun r h' => (HD.1 ≤ h'.1.1 ∧ HD.2.1 ≤ h'.1.2.1) ∧ r = some (.long (loG (tsG (skN (puR mi p)) w 8).1 (tsG (skN (puR mi p)) w 8).2 part)) ∧ h' = (HD, mi, ml, mr)) := by
  intro g
  induction g with
  | zero =>
    intro k hg
    obtain rfl : k = 8 := by omega
    obtain ⟨b1, b2, b3⟩ := tsG_le (sk := skN (puR mi p)) w 8 (fun j hj => Nat.le_of_lt (aix_out (hs j hj)).2)
    refine wp_steps 2 (t' := (26, [some (.ref 84), some (.int (nI p)), some (.int w), some (.int part), some (.long (lN (tsG (skN (puR mi p)) w 8).1)), none, some (.long (lN (tsG (skN (puR mi p)) w 8).2)), none, some (.int (nI 8))], [.int 8, .int (nI 8)], (HD, mi, ml, mr))) rfl ?_
    refine wp_bC rfl (fun c_1 => ?_) (fun c_1 => ?_)
    rotate_left
    · have c_1 : ¬ (8 ≤ (nI 8)) := of_decide_eq_false c_1
      exact absurd (by decide) c_1
    have c_1 : 8 ≤ (nI 8) := of_decide_eq_true c_1
    refine wp_steps 3 (t' := (53, [some (.ref 84), some (.int (nI p)), some (.int w), some (.int part), some (.long (lN (tsG (skN (puR mi p)) w 8).1)), none, some (.long (lN (tsG (skN (puR mi p)) w 8).2)), none, some (.int (nI 8))], [.int part, .long (lN (tsG (skN (puR mi p)) w 8).2), .long (lN (tsG (skN (puR mi p)) w 8).1)], (HD, mi, ml, mr))) rfl ?_
    refine wp_cal (as := [.long (lN (tsG (skN (puR mi p)) w 8).1), .long (lN (tsG (skN (puR mi p)) w 8).2), .int part]) rfl rfl rfl (Nat.le_of_ble_eq_true rfl) ((r_lowest (mi := mi) (ml := ml) (mr := mr) (a := (tsG (skN (puR mi p)) w 8).1) (b := (tsG (skN (puR mi p)) w 8).2) (w := part) (Nat.le_trans b1 (by decide)) (Nat.le_trans b2 (by decide)) b3)) (by decide) ?_
    rintro _ _ ⟨rfl, rfl⟩
    show aWP _ _ (54, [some (.ref 84), some (.int (nI p)), some (.int w), some (.int part), some (.long (lN (tsG (skN (puR mi p)) w 8).1)), none, some (.long (lN (tsG (skN (puR mi p)) w 8).2)), none, some (.int (nI 8))], [.long (loG (tsG (skN (puR mi p)) w 8).1 (tsG (skN (puR mi p)) w 8).2 part)], (HD, mi, ml, mr)) _
    refine wp_ret rfl rfl ⟨⟨Nat.le_refl _, Nat.le_refl _⟩, ?_⟩
    exact ⟨rfl, rfl⟩
  | succ g ih =>
    intro k hg
    have ht : k < 8 := by omega
    refine wp_steps 2 (t' := (26, [some (.ref 84), some (.int (nI p)), some (.int w), some (.int part), some (.long (lN (tsG (skN (puR mi p)) w k).1)), none, some (.long (lN (tsG (skN (puR mi p)) w k).2)), none, some (.int (nI k))], [.int 8, .int (nI k)], (HD, mi, ml, mr))) rfl ?_
    refine wp_bC rfl (fun c_1 => ?_) (fun c_1 => ?_)
    · have c_1 : 8 ≤ (nI k) := of_decide_eq_true c_1
      exact absurd c_1 (nI_ge ht (by decide))
    have c_1 : ¬ (8 ≤ (nI k)) := of_decide_eq_false c_1
    refine wp_steps 6 (t' := (33, [some (.ref 84), some (.int (nI p)), some (.int w), some (.int part), some (.long (lN (tsG (skN (puR mi p)) w k).1)), none, some (.long (lN (tsG (skN (puR mi p)) w k).2)), none, some (.int (nI k))], [.int 1, .int ((w >>> ((nI k) &&& 31)) &&& 1)], (HD, mi, ml, mr))) rfl ?_
    refine wp_bC rfl (fun c_2 => ?_) (fun c_2 => ?_)
    · have c_2 : ¬ ((w >>> ((nI k) &&& 31)) &&& 1) = 1 := of_decide_eq_true c_2
      refine wp_steps 2 (t' := (24, [some (.ref 84), some (.int (nI p)), some (.int w), some (.int part), some (.long (lN (tsG (skN (puR mi p)) w k).1)), none, some (.long (lN (tsG (skN (puR mi p)) w k).2)), none, some (.int ((nI k) + Int32.ofInt 1))], [], (HD, mi, ml, mr))) rfl ?_
      have e : tsG (skN (puR mi p)) w (k + 1) = tsG (skN (puR mi p)) w k := if_neg c_2
      rw [inc_nI]
      have z := ih (k + 1) (by omega)
      rw [e] at z
      exact z
    · have c_2 : ((w >>> ((nI k) &&& 31)) &&& 1) = 1 := Decidable.not_not.mp (of_decide_eq_false c_2)
      refine wp_steps 2 (t' := (36, [some (.ref 84), some (.int (nI p)), some (.int w), some (.int part), some (.long (lN (tsG (skN (puR mi p)) w k).1)), none, some (.long (lN (tsG (skN (puR mi p)) w k).2)), none, some (.int (nI k))], [.ref 84, .long (lN (tsG (skN (puR mi p)) w k).1)], (HD, mi, ml, mr))) rfl ?_
      refine wp_getr rfl ⟨by decide, rfl⟩ rfl (hM (84, 11, 91) (by decide)) ?_
      refine wp_steps 2 (t' := (39, [some (.ref 84), some (.int (nI p)), some (.int w), some (.int part), some (.long (lN (tsG (skN (puR mi p)) w k).1)), none, some (.long (lN (tsG (skN (puR mi p)) w k).2)), none, some (.int (nI k))], [.int (nI k), .int (nI p), .ref 91, .long (lN (tsG (skN (puR mi p)) w k).1)], (HD, mi, ml, mr))) rfl ?_
      refine wp_cal (as := [.int (nI p), .int (nI k)]) rfl rfl rfl (Nat.le_of_ble_eq_true rfl) ((c_rat_n (p := p) (s := k))) (by decide) ?_
      rintro _ _ ⟨rfl, rfl⟩
      show aWP _ _ (40, [some (.ref 84), some (.int (nI p)), some (.int w), some (.int part), some (.long (lN (tsG (skN (puR mi p)) w k).1)), none, some (.long (lN (tsG (skN (puR mi p)) w k).2)), none, some (.int (nI k))], [.int (nI (10 * p + k)), .ref 91, .long (lN (tsG (skN (puR mi p)) w k).1)], (HD, mi, ml, mr)) _
      refine wp_iald rfl ⟨by decide, rfl⟩ (aix_nI (by omega) (by decide)) ?_
      rw [nI_clamp (n := 10 * p + k) (by omega)]
      rw [show mi 91 (10 * p + k) = nI (skN (puR mi p) k) from (sk_R ht).trans (aix_eq (hs k ht)).1]
      refine wp_steps 1 (t' := (42, [some (.ref 84), some (.int (nI p)), some (.int w), some (.int part), some (.long (lN (tsG (skN (puR mi p)) w k).1)), none, some (.long (lN (tsG (skN (puR mi p)) w k).2)), none, some (.int (nI k))], [.long ((nI (skN (puR mi p) k)).toInt64), .long (lN (tsG (skN (puR mi p)) w k).1)], (HD, mi, ml, mr))) rfl ?_
      rw [nI_l (n := skN (puR mi p) k) (Nat.lt_trans (aix_out (hs k ht)).2 (by decide))]
      refine wp_steps 1 (t' := (43, [some (.ref 84), some (.int (nI p)), some (.int w), some (.int part), some (.long (lN (tsG (skN (puR mi p)) w k).1)), none, some (.long (lN (tsG (skN (puR mi p)) w k).2)), none, some (.int (nI k))], [.long ((lN (tsG (skN (puR mi p)) w k).1) * (lN (skN (puR mi p) k)))], (HD, mi, ml, mr))) rfl ?_
      rw [lN_mul]
      refine wp_steps 4 (t' := (47, [some (.ref 84), some (.int (nI p)), some (.int w), some (.int part), some (.long (lN ((tsG (skN (puR mi p)) w k).1 * skN (puR mi p) k))), none, some (.long (lN (tsG (skN (puR mi p)) w k).2)), none, some (.int (nI k))], [.long ((lN (tsG (skN (puR mi p)) w k).2) * 100)], (HD, mi, ml, mr))) rfl ?_
      rw [show (100 : Int64) = lN 100 from rfl, lN_mul]
      refine wp_steps 3 (t' := (24, [some (.ref 84), some (.int (nI p)), some (.int w), some (.int part), some (.long (lN ((tsG (skN (puR mi p)) w k).1 * skN (puR mi p) k))), none, some (.long (lN ((tsG (skN (puR mi p)) w k).2 * 100))), none, some (.int ((nI k) + Int32.ofInt 1))], [], (HD, mi, ml, mr))) rfl ?_
      have e : tsG (skN (puR mi p)) w (k + 1) = ((tsG (skN (puR mi p)) w k).1 * skN (puR mi p) k, (tsG (skN (puR mi p)) w k).2 * 100) := if_pos c_2
      rw [inc_nI]
      have z := ih (k + 1) (by omega)
      rw [e] at z
      exact z
set_option maxRecDepth 20000 in
set_option maxHeartbeats 1000000 in
theorem q_test_ok {X : aXt × Value} {mi : Nat → Nat → Int32} {ml : Nat → Nat → Int64} {mr : Nat → Nat → Option Nat} (hM : MRok mr) {N : Nat} (hN : mi 84 12 = nI N) (hN5 : N ≤ 5) {c0 c1 c2 : List Int32} (hR : RUX mi c0 c1 c2) {p : Nat} (hpN : p < N) (hok : okU (puR mi p)) {w part : Int32}  : aCW X 4 197 [.ref 84, .int (nI p), .int w, .int part] (HD, mi, ml, mr) (qR mi mr (.long (if inR 0 255 w ∧ inR 0 1 part then loG (tsG (skN (puR mi p)) w 8).1 (tsG (skN (puR mi p)) w 8).2 part else (-4611686018427387904)))) := by
  have hp5 : p < 5 := by omega
  refine cw_of (cd := cd_X7_test) (nL := 9) rfl rfl ?_
  show aWP _ _ (0, [some (.ref 84), some (.int (nI p)), some (.int w), some (.int part), none, none, none, none, none], [], (HD, mi, ml, mr)) _
  refine wp_steps 2 (t' := (2, [some (.ref 84), some (.int (nI p)), some (.int w), some (.int part), none, none, none, none, none], [.int (nI p), .ref 84], (HD, mi, ml, mr))) rfl ?_
  refine wp_calv (as := [.int (nI p)]) rfl rfl rfl (Nat.le_of_ble_eq_true rfl) ⟨by decide, rfl⟩ ((c_isOne_ok (mi := mi) (ml := ml) hM hN hN5 hpN)) (by decide) ?_
  rintro _ _ ⟨rfl, rfl⟩
  show aWP _ _ (3, [some (.ref 84), some (.int (nI p)), some (.int w), some (.int part), none, none, none, none, none], [.int 1], (HD, mi, ml, mr)) _
  refine wp_bI rfl (fun c_1 => ?_) (fun c_1 => ?_)
  · have c_1 : (1 : Int32) = 0 := of_decide_eq_true c_1
    exact absurd c_1 (by decide)
  have c_1 : ¬ ((1 : Int32) = 0) := of_decide_eq_false c_1
  refine wp_steps 4 (t' := (8, [some (.ref 84), some (.int (nI p)), some (.int w), some (.int part), none, none, none, none, none], [.long 255, .long 0, .long w.toInt64], (HD, mi, ml, mr))) rfl ?_
  refine wp_cal (as := [.long w.toInt64, .long 0, .long 255]) rfl rfl rfl (Nat.le_of_ble_eq_true rfl) ((c_in (x := w) (lo := 0) (hi := 255) rfl (by decide) (by decide))) (by decide) ?_
  rintro _ _ ⟨rfl, rfl⟩
  show aWP _ _ (9, [some (.ref 84), some (.int (nI p)), some (.int w), some (.int part), none, none, none, none, none], [.int (if inR 0 255 w then (1 : Int32) else 0)], (HD, mi, ml, mr)) _
  refine wp_bI rfl (fun c_2 => ?_) (fun c_2 => ?_)
  · have c_2 : (if inR 0 255 w then (1 : Int32) else 0) = 0 := of_decide_eq_true c_2
    refine wp_steps 1 (t' := (17, [some (.ref 84), some (.int (nI p)), some (.int w), some (.int part), none, none, none, none, none], [.long (-4611686018427387904)], (HD, mi, ml, mr))) rfl ?_
    refine wp_ret rfl rfl ⟨⟨Nat.le_refl _, Nat.le_refl _⟩, ?_⟩
    exact ⟨by rw [if_neg (show ¬ (inR 0 255 w ∧ inR 0 1 part) from fun z => (i0_f c_2) z.1)], mi, ml, rfl, frQ.rf mi⟩
  · have c_2 : ¬ ((if inR 0 255 w then (1 : Int32) else 0) = 0) := of_decide_eq_false c_2
    refine wp_steps 4 (t' := (14, [some (.ref 84), some (.int (nI p)), some (.int w), some (.int part), none, none, none, none, none], [.long 1, .long 0, .long part.toInt64], (HD, mi, ml, mr))) rfl ?_
    refine wp_cal (as := [.long part.toInt64, .long 0, .long 1]) rfl rfl rfl (Nat.le_of_ble_eq_true rfl) ((c_in (x := part) (lo := 0) (hi := 1) rfl (by decide) (by decide))) (by decide) ?_
    rintro _ _ ⟨rfl, rfl⟩
    show aWP _ _ (15, [some (.ref 84), some (.int (nI p)), some (.int w), some (.int part), none, none, none, none, none], [.int (if inR 0 1 part then (1 : Int32) else 0)], (HD, mi, ml, mr)) _
    refine wp_bI rfl (fun c_3 => ?_) (fun c_3 => ?_)
    · have c_3 : ¬ (if inR 0 1 part then (1 : Int32) else 0) = 0 := of_decide_eq_true c_3
      refine wp_steps 6 (t' := (24, [some (.ref 84), some (.int (nI p)), some (.int w), some (.int part), some (.long 1), none, some (.long 1), none, some (.int 0)], [], (HD, mi, ml, mr))) rfl ?_
      have hs : ∀ j, j < 8 → aixn ((puR mi p).2.2.2.2 j) 100 = true := fun j hj => (inR_ax (hi := 99) (n := 100) (by decide) (by decide)).mp (hok.2.2.2.2 j hj)
      rw [if_pos (show inR 0 255 w ∧ inR 0 1 part from ⟨(i0_t c_2), (i0_t c_3)⟩)]
      refine wp_mono (l_rtest (w := w) (part := part) hM hp5 hs 8 0 rfl) ?_
      rintro _ _ ⟨x1, rfl, rfl⟩
      exact ⟨x1, rfl, mi, ml, rfl, frQ.rf mi⟩
    · have c_3 : (if inR 0 1 part then (1 : Int32) else 0) = 0 := Decidable.not_not.mp (of_decide_eq_false c_3)
      refine wp_steps 1 (t' := (17, [some (.ref 84), some (.int (nI p)), some (.int w), some (.int part), none, none, none, none, none], [.long (-4611686018427387904)], (HD, mi, ml, mr))) rfl ?_
      refine wp_ret rfl rfl ⟨⟨Nat.le_refl _, Nat.le_refl _⟩, ?_⟩
      exact ⟨by rw [if_neg (show ¬ (inR 0 255 w ∧ inR 0 1 part) from fun z => (i0_f c_3) z.2)], mi, ml, rfl, frQ.rf mi⟩
