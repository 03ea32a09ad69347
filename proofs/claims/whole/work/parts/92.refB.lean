/-! the reference's sleeps; laid aside, laid back (written by wip/whole/mkrefB.py) -/
def slU (t : tW) (u : pU) (k : Nat) : pU := (u.1, u.2.1, u.2.2.1, u.2.2.2.1, fun j => if j < k then fmax 0 (u.2.2.2.2 j - foG t u j) else u.2.2.2.2 j)
theorem slU_fo {t : tW} {u : pU} {k : Nat} : foG t (slU t u k) k = foG t u k := by
  simp [foG, slU]
theorem st_pu {m m1 : Nat → Nat → Int32} {p s : Nat} (f : frY m m1) (hs : s < 8) (A : Int32) : puR (aup m1 91 (10 * p + s) A) p = ((puR m p).1, (puR m p).2.1, (puR m p).2.2.1, (puR m p).2.2.2.1, fun j => if j = s then A else (puR m p).2.2.2.2 j) := by
  have n8 : ¬ 10 * p + 8 = 10 * p + s := by omega
  have n9 : ¬ 10 * p + 9 = 10 * p + s := by omega
  refine Prod.ext ?_ (Prod.ext ?_ (Prod.ext ?_ (Prod.ext ?_ (funext fun j => ?_))))
  · show (aup m1 91 (10 * p + s) A) 89 p = m 89 p
    rw [← f.row (k := 89) (by decide)]; rfl
  · show (aup m1 91 (10 * p + s) A) 90 p = m 90 p
    rw [← f.row (k := 90) (by decide)]; rfl
  · simp only [puR, aup, if_neg n8, f.row (k := 91) (by decide), if_true]
  · simp only [puR, aup, if_neg n9, f.row (k := 91) (by decide), if_true]
  · simp only [puR, c8]
    by_cases hj : j < 8
    · by_cases e : j = s
      · subst e
        simp only [hj, if_pos, aup]
      · have hs' : ¬ 10 * p + j = 10 * p + s := by omega
        simp only [hj, if_pos, aup, if_neg hs', if_neg e, f.row (k := 91) (by decide)]
    · have e : ¬ j = s := by omega
      simp only [hj, if_neg e, if_false]
theorem sk_R {m : Nat → Nat → Int32} {p s : Nat} (hs : s < 8) : m 91 (10 * p + s) = (puR m p).2.2.2.2 s := by
  show _ = c8 (fun j => m 91 (10 * p + j)) s
  exact (c8_lt (f := fun j => m 91 (10 * p + j)) hs).symm
theorem slU_0 {t : tW} {u : pU} : u = slU t u 0 := Prod.ext rfl (Prod.ext rfl (Prod.ext rfl (Prod.ext rfl (funext fun j => by
  show u.2.2.2.2 j = (if j < 0 then fmax 0 (u.2.2.2.2 j - foG t u j) else u.2.2.2.2 j)
  rw [if_neg (Nat.not_lt_zero j)]))))
set_option maxRecDepth 20000 in
set_option maxHeartbeats 1000000 in
theorem l_rsleep {X : aXt × Value} {mi : Nat → Nat → Int32} {ml : Nat → Nat → Int64} {mr : Nat → Nat → Option Nat} (hM : MRok mr) {c0 c1 c2 : List Int32} (hR : RUX mi c0 c1 c2) {p : Nat} (hp5 : p < 5) (hok : okU (puR mi p)) : ∀ (g s : Nat) (m : Nat → Nat → Int32) (w : Nat → Nat → Int64), s + g = 8 → frU p mi m → puR m p = slU (twR mi c0 c1 c2) (puR mi p) s → aWP (aEx (aTb X) 44) cd_X7_sleeps (2, [some (.ref 84), some (.int (nI p)), some (.int (nI s))], [], (HD, m, w, mr)) (fun r h' => (HD.1 ≤ h'.1.1 ∧ HD.2.1 ≤ h'.1.2.1) ∧ r = none ∧ ∃ m' w', h' = (HD, m', w', mr) ∧ frU p mi m' ∧ puR m' p = spG (twR mi c0 c1 c2) (puR mi p)) := by
  intro g
  induction g with
  | zero =>
    intro s m w hg h hu
    obtain rfl : s = 8 := by omega
    refine wp_steps 2 (t' := (4, [some (.ref 84), some (.int (nI p)), some (.int (nI 8))], [.int 8, .int (nI 8)], (HD, m, w, mr))) rfl ?_
    refine wp_bC rfl (fun c_1 => ?_) (fun c_1 => ?_)
    rotate_left
    · have c_1 : ¬ (8 ≤ (nI 8)) := of_decide_eq_false c_1
      exact absurd (by decide) c_1
    have c_1 : 8 ≤ (nI 8) := of_decide_eq_true c_1
    refine wp_steps 1 (t' := (28, [some (.ref 84), some (.int (nI p)), some (.int (nI 8))], [.ref 84], (HD, m, w, mr))) rfl ?_
    refine wp_getr rfl ⟨by decide, rfl⟩ rfl (hM (84, 11, 91) (by decide)) ?_
    refine wp_steps 2 (t' := (31, [some (.ref 84), some (.int (nI p)), some (.int (nI 8))], [.int 8, .int (nI p), .ref 91], (HD, m, w, mr))) rfl ?_
    refine wp_cal (as := [.int (nI p), .int 8]) rfl rfl rfl (Nat.le_of_ble_eq_true rfl) ((c_rat_n (p := p) (s := 8))) (by decide) ?_
    rintro _ _ ⟨rfl, rfl⟩
    show aWP _ _ (32, [some (.ref 84), some (.int (nI p)), some (.int (nI 8))], [.int (nI (10 * p + 8)), .ref 91], (HD, m, w, mr)) _
    refine wp_steps 1 (t' := (33, [some (.ref 84), some (.int (nI p)), some (.int (nI 8))], [.int 0, .int (nI (10 * p + 8)), .ref 91], (HD, m, w, mr))) rfl ?_
    refine wp_iast rfl ⟨by decide, rfl⟩ (aix_nI (by omega) (by decide)) (fun m_2 h_3 => ?_)
    subst h_3
    rw [nI_clamp (n := 10 * p + 8) (by omega)]
    refine wp_ret rfl rfl ⟨⟨Nat.le_refl _, Nat.le_refl _⟩, ?_⟩
    refine ⟨rfl, _, _, rfl, h.tr (frU.up (by omega) (by omega) _), ?_⟩
    refine Prod.ext ?_ (Prod.ext ?_ (Prod.ext ?_ (Prod.ext ?_ (funext fun j => ?_))))
    · exact congrArg (·.1) hu
    · exact congrArg (·.2.1) hu
    · simp [puR, spG, aup]
    · have z := congrArg (·.2.2.2.1) hu
      simpa [puR, spG, aup, slU] using z
    · have z := congrFun (congrArg (·.2.2.2.2) hu) j
      by_cases hj : j < 8
      · have h8 : ¬ 10 * p + j = 10 * p + 8 := by omega
        have h8b : ¬ j = 8 := by omega
        simpa [puR, spG, aup, slU, c8, hj, h8, h8b] using z
      · simp [puR, spG, c8, hj]
  | succ g ih =>
    intro s m w hg h hu
    have hs : s < 8 := by omega
    refine wp_steps 2 (t' := (4, [some (.ref 84), some (.int (nI p)), some (.int (nI s))], [.int 8, .int (nI s)], (HD, m, w, mr))) rfl ?_
    refine wp_bC rfl (fun c_1 => ?_) (fun c_1 => ?_)
    · have c_1 : 8 ≤ (nI s) := of_decide_eq_true c_1
      exact absurd c_1 (nI_ge hs (by decide))
    have c_1 : ¬ (8 ≤ (nI s)) := of_decide_eq_false c_1
    refine wp_steps 1 (t' := (6, [some (.ref 84), some (.int (nI p)), some (.int (nI s))], [.ref 84], (HD, m, w, mr))) rfl ?_
    refine wp_getr rfl ⟨by decide, rfl⟩ rfl (hM (84, 11, 91) (by decide)) ?_
    refine wp_steps 2 (t' := (9, [some (.ref 84), some (.int (nI p)), some (.int (nI s))], [.int (nI s), .int (nI p), .ref 91], (HD, m, w, mr))) rfl ?_
    refine wp_cal (as := [.int (nI p), .int (nI s)]) rfl rfl rfl (Nat.le_of_ble_eq_true rfl) ((c_rat_n (p := p) (s := s))) (by decide) ?_
    rintro _ _ ⟨rfl, rfl⟩
    show aWP _ _ (10, [some (.ref 84), some (.int (nI p)), some (.int (nI s))], [.int (nI (10 * p + s)), .ref 91], (HD, m, w, mr)) _
    refine wp_steps 1 (t' := (11, [some (.ref 84), some (.int (nI p)), some (.int (nI s))], [.ref 84, .int (nI (10 * p + s)), .ref 91], (HD, m, w, mr))) rfl ?_
    refine wp_getr rfl ⟨by decide, rfl⟩ rfl (hM (84, 11, 91) (by decide)) ?_
    refine wp_steps 2 (t' := (14, [some (.ref 84), some (.int (nI p)), some (.int (nI s))], [.int (nI s), .int (nI p), .ref 91, .int (nI (10 * p + s)), .ref 91], (HD, m, w, mr))) rfl ?_
    refine wp_cal (as := [.int (nI p), .int (nI s)]) rfl rfl rfl (Nat.le_of_ble_eq_true rfl) ((c_rat_n (p := p) (s := s))) (by decide) ?_
    rintro _ _ ⟨rfl, rfl⟩
    show aWP _ _ (15, [some (.ref 84), some (.int (nI p)), some (.int (nI s))], [.int (nI (10 * p + s)), .ref 91, .int (nI (10 * p + s)), .ref 91], (HD, m, w, mr)) _
    refine wp_iald rfl ⟨by decide, rfl⟩ (aix_nI (by omega) (by decide)) ?_
    rw [nI_clamp (n := 10 * p + s) (by omega)]
    refine wp_steps 3 (t' := (19, [some (.ref 84), some (.int (nI p)), some (.int (nI s))], [.int (nI s), .int (nI p), .ref 84, .int (m 91 (10 * p + s)), .int (nI (10 * p + s)), .ref 91], (HD, m, w, mr))) rfl ?_
    refine wp_calv (as := [.int (nI p), .int (nI s)]) rfl rfl rfl (Nat.le_of_ble_eq_true rfl) ⟨by decide, rfl⟩ ((r_forgets (mi := m) (ml := w) hM (hR.U h) hp5 hs)) (by decide) ?_
    rintro _ _ ⟨rfl, m_1, w_1, rfl, f1⟩
    rw [twR_U h, hu, slU_fo]
    show aWP _ _ (20, [some (.ref 84), some (.int (nI p)), some (.int (nI s))], [.int (foG (twR mi c0 c1 c2) (puR mi p) s), .int (m 91 (10 * p + s)), .int (nI (10 * p + s)), .ref 91], (HD, m_1, w_1, mr)) _
    rw [sk_R (m := m) (p := p) hs, hu, show (slU (twR mi c0 c1 c2) (puR mi p) s).2.2.2.2 s = (puR mi p).2.2.2.2 s from if_neg (Nat.lt_irrefl s)]
    refine wp_steps 3 (t' := (23, [some (.ref 84), some (.int (nI p)), some (.int (nI s))], [.int 99, .int 0, .int (((puR mi p).2.2.2.2 s) - (foG (twR mi c0 c1 c2) (puR mi p) s)), .int (nI (10 * p + s)), .ref 91], (HD, m_1, w_1, mr))) rfl ?_
    refine wp_cal (as := [.int (((puR mi p).2.2.2.2 s) - (foG (twR mi c0 c1 c2) (puR mi p) s)), .int 0, .int 99]) rfl rfl rfl (Nat.le_of_ble_eq_true rfl) ((c_within (v := ((puR mi p).2.2.2.2 s) - (foG (twR mi c0 c1 c2) (puR mi p) s)) (lo := 0) (hi := 99) (by decide))) (by decide) ?_
    rintro _ _ ⟨rfl, rfl⟩
    show aWP _ _ (24, [some (.ref 84), some (.int (nI p)), some (.int (nI s))], [.int (cl 0 99 (((puR mi p).2.2.2.2 s) - (foG (twR mi c0 c1 c2) (puR mi p) s))), .int (nI (10 * p + s)), .ref 91], (HD, m_1, w_1, mr)) _
    obtain ⟨a1, a2, a3, a4, a5⟩ := hok
    have b5 := rI.mp (a5 s hs)
    have bf := rI.mp (foG_rng (t := (twR mi c0 c1 c2)) (u := (puR mi p)) (s := s))
    rw [i0, i99] at b5 bf
    rw [cl_max (hi := 99) (v := (puR mi p).2.2.2.2 s - foG (twR mi c0 c1 c2) (puR mi p) s) (by rw [sub_t (by omega) (by omega), i99]; omega) (by decide)]
    refine wp_iast rfl ⟨by decide, rfl⟩ (aix_nI (by omega) (by decide)) (fun m_2 h_3 => ?_)
    subst h_3
    rw [nI_clamp (n := 10 * p + s) (by omega)]
    refine wp_steps 2 (t' := (2, [some (.ref 84), some (.int (nI p)), some (.int ((nI s) + Int32.ofInt 1))], [], (HD, (aup m_1 91 (10 * p + s) (fmax 0 ((puR mi p).2.2.2.2 s - foG (twR mi c0 c1 c2) (puR mi p) s))), w_1, mr))) rfl ?_
    rw [inc_nI]
    refine ih (s + 1) _ w_1 (by omega) ((h.tr f1.U).tr (frU.up (by omega) (by omega) _)) ?_
    rw [st_pu f1 hs, hu]
    refine Prod.ext rfl (Prod.ext rfl (Prod.ext rfl (Prod.ext rfl (funext fun j => ?_))))
    show (if j = s then _ else if j < s then _ else _) = (if j < s + 1 then _ else _)
    by_cases e : j = s
    · subst e; rw [if_pos rfl, if_pos (by omega)]
    · rw [if_neg e]
      by_cases e2 : j < s
      · rw [if_pos e2, if_pos (by omega)]
      · rw [if_neg e2, if_neg (by omega)]
set_option maxRecDepth 20000 in
set_option maxHeartbeats 1000000 in
theorem r_sleeps {X : aXt × Value} {mi : Nat → Nat → Int32} {ml : Nat → Nat → Int64} {mr : Nat → Nat → Option Nat} (hM : MRok mr) {c0 c1 c2 : List Int32} (hR : RUX mi c0 c1 c2) {p : Nat} (hp5 : p < 5) (hok : okU (puR mi p)) : aCW X 45 183 [.ref 84, .int (nI p)] (HD, mi, ml, mr) (fun r h' => r = none ∧ ∃ m' w', h' = (HD, m', w', mr) ∧ frU p mi m' ∧ puR m' p = spG (twR mi c0 c1 c2) (puR mi p)) := by
  refine cw_of (cd := cd_X7_sleeps) (nL := 3) rfl rfl ?_
  show aWP _ _ (0, [some (.ref 84), some (.int (nI p)), none], [], (HD, mi, ml, mr)) _
  refine wp_steps 2 (t' := (2, [some (.ref 84), some (.int (nI p)), some (.int 0)], [], (HD, mi, ml, mr))) rfl ?_
  exact l_rsleep (ml := ml) hM hR hp5 hok 8 0 mi ml rfl (frU.rf p mi) slU_0
/-- alike but for names, reading, the day and learner p's row -/
def frW (p : Nat) (m m' : Nat → Nat → Int32) : Prop := ∀ k j, ¬ (k = 84 ∧ (13 ≤ j ∧ j ≤ 27 ∨ j = 7)) → ¬ (k = 91 ∧ 10 * p ≤ j ∧ j < 10 * p + 10) → m' k j = m k j
theorem frW.rf (p : Nat) (m : Nat → Nat → Int32) : frW p m m := fun _ _ _ _ => rfl
theorem frW.tr {p : Nat} {a b c : Nat → Nat → Int32} (h : frW p a b) (k : frW p b c) : frW p a c := fun x y q z => (k x y q z).trans (h x y q z)
theorem frU.W {p : Nat} {m m' : Nat → Nat → Int32} (h : frU p m m') : frW p m m' := fun k j q z => h k j (fun y => q ⟨y.1, Or.inl y.2⟩) z
theorem frW.row {p : Nat} {m m' : Nat → Nat → Int32} (h : frW p m m') {k : Nat} (hk : k ≠ 84) (hk2 : k ≠ 91) : m' k = m k := funext fun j => h k j (fun z => hk z.1) (fun z => hk2 z.1)
theorem RUX.W {p : Nat} {m m' : Nat → Nat → Int32} {c0 c1 c2 : List Int32} (h : RUX m c0 c1 c2) (f : frW p m m') : RUX m' c0 c1 c2 := by
  obtain ⟨R, n, v0, h1, h2, h3⟩ := h
  exact ⟨R, n, v0, h1, (f _ _ (by omega) (by omega)).trans h2, h3.fr (fun j _ => f _ _ (by omega) (by omega)) (f _ _ (by omega) (by omega))⟩
/-- p's row and the day are laid aside -/
def ASD (p : Nat) (m m' : Nat → Nat → Int32) : Prop := (∀ k j, k ≠ 92 → ¬ (k = 84 ∧ j = 29) → m' k j = m k j) ∧ (∀ j, j < 10 → m' 92 j = m 91 (10 * p + j)) ∧ m' 84 29 = m 84 7
/-- and laid back -/
def BCK (p : Nat) (m m' : Nat → Nat → Int32) : Prop := (∀ k j, ¬ (k = 91 ∧ 10 * p ≤ j ∧ j < 10 * p + 10) → ¬ (k = 84 ∧ j = 7) → m' k j = m k j) ∧ (∀ j, j < 10 → m' 91 (10 * p + j) = m 92 j) ∧ m' 84 7 = m 84 29
/-- nothing that shows is changed -/
def frQ (m m' : Nat → Nat → Int32) : Prop := ∀ k j, ¬ (k = 84 ∧ (13 ≤ j ∧ j ≤ 27 ∨ j = 29)) → k ≠ 92 → k ≠ 93 → m' k j = m k j
theorem frQ.rf (m : Nat → Nat → Int32) : frQ m m := fun _ _ _ _ _ => rfl
theorem frQ.tr {a b c : Nat → Nat → Int32} (h : frQ a b) (k : frQ b c) : frQ a c := fun x y q z y2 => (k x y q z y2).trans (h x y q z y2)
theorem frY.Q {m m' : Nat → Nat → Int32} (h : frY m m') : frQ m m' := fun k j q _ _ => h k j (fun z => q ⟨z.1, Or.inl z.2⟩)
theorem abq {p : Nat} {a b c d : Nat → Nat → Int32} (h1 : ASD p a b) (h2 : frW p b c) (h3 : BCK p c d) : frQ a d := by
  intro k j q k92 k93
  by_cases e : k = 91 ∧ 10 * p ≤ j ∧ j < 10 * p + 10
  · obtain ⟨e1, e2, e3⟩ := e
    subst e1
    have ej : j = 10 * p + (j - 10 * p) := by omega
    rw [ej, h3.2.1 _ (by omega), h2 92 _ (by omega) (by omega), h1.2.1 _ (by omega)]
  · by_cases e7 : k = 84 ∧ j = 7
    · rw [e7.1, e7.2, h3.2.2, h2 84 29 (by omega) (by omega), h1.2.2]
    · rw [h3.1 k j e e7, h2 k j (fun z => z.2.elim (fun y => q ⟨z.1, Or.inl y⟩) (fun y => e7 ⟨z.1, y⟩)) e, h1.1 k j k92 (fun z => q ⟨z.1, Or.inr z.2⟩)]
theorem ASD.pu {p : Nat} {m m' : Nat → Nat → Int32} (h : ASD p m m') (c0 c1 c2 : List Int32) : puR m' p = puR m p ∧ twR m' c0 c1 c2 = twR m c0 c1 c2 := by
  have r : ∀ k, k ≠ 92 → k ≠ 84 → m' k = m k := fun k hk hk2 => funext fun j => h.1 k j hk (fun z => hk2 z.1)
  constructor
  · unfold puR; rw [r 89 (by decide) (by decide), r 90 (by decide) (by decide), r 91 (by decide) (by decide)]
  · unfold twR; rw [r 88 (by decide) (by decide), h.1 84 7 (by decide) (by omega)]
theorem ASD.ru {p : Nat} {m m' : Nat → Nat → Int32} {c0 c1 c2 : List Int32} (h : ASD p m m') (hR : RUX m c0 c1 c2) : RUX m' c0 c1 c2 := by
  obtain ⟨R, n, v0, h1, h2, h3⟩ := hR
  exact ⟨R, n, v0, h1, (h.1 _ _ (by decide) (by omega)).trans h2, h3.fr (fun j _ => h.1 _ _ (by decide) (by omega)) (h.1 _ _ (by decide) (by omega))⟩
set_option maxRecDepth 20000 in
set_option maxHeartbeats 1000000 in
theorem l_raside {X : aXt × Value} {mi : Nat → Nat → Int32} {ml : Nat → Nat → Int64} {mr : Nat → Nat → Option Nat} (hM : MRok mr) {p : Nat} (hp5 : p < 5) : ∀ (g k : Nat) (m : Nat → Nat → Int32), k + g = 10 → (∀ x j, x ≠ 92 → m x j = mi x j) → (∀ j, j < k → m 92 j = mi 91 (10 * p + j)) → aWP (aEx (aTb X) 1) cd_X7_laysAside (2, [some (.ref 84), some (.int (nI p)), some (.int (nI k))], [], (HD, m, ml, mr)) (fun r h' => (HD.1 ≤ h'.1.1 ∧ HD.2.1 ≤ h'.1.2.1) ∧ r = none ∧ ∃ m', h' = (HD, m', ml, mr) ∧ ASD p mi m') := by
  intro g
  induction g with
  | zero =>
    intro k m hg hf he
    obtain rfl : k = 10 := by omega
    refine wp_steps 2 (t' := (4, [some (.ref 84), some (.int (nI p)), some (.int (nI 10))], [.int 10, .int (nI 10)], (HD, m, ml, mr))) rfl ?_
    refine wp_bC rfl (fun c_1 => ?_) (fun c_1 => ?_)
    rotate_left
    · have c_1 : ¬ (10 ≤ (nI 10)) := of_decide_eq_false c_1
      exact absurd (by decide) c_1
    have c_1 : 10 ≤ (nI 10) := of_decide_eq_true c_1
    refine wp_steps 2 (t' := (19, [some (.ref 84), some (.int (nI p)), some (.int (nI 10))], [.ref 84, .ref 84], (HD, m, ml, mr))) rfl ?_
    refine wp_geti rfl ⟨by decide, rfl⟩ (Or.inl rfl) ?_
    refine wp_puti rfl ⟨by decide, rfl⟩ rfl (fun m_2 h_3 => ?_)
    subst h_3
    refine wp_ret rfl rfl ⟨⟨Nat.le_refl _, Nat.le_refl _⟩, ?_⟩
    refine ⟨rfl, _, rfl, fun x j h1 h2 => ?_, fun j hj => ?_, ?_⟩
    · rw [← hf x j h1]; unfold aup; by_cases e : x = 84
      · rw [if_pos e, if_neg (fun z => h2 ⟨e, z⟩)]
      · rw [if_neg e]
    · exact he j hj
    · simp only [aup, if_pos]
      exact hf 84 7 (by decide)
  | succ g ih =>
    intro k m hg hf he
    have hk : k < 10 := by omega
    refine wp_steps 2 (t' := (4, [some (.ref 84), some (.int (nI p)), some (.int (nI k))], [.int 10, .int (nI k)], (HD, m, ml, mr))) rfl ?_
    refine wp_bC rfl (fun c_1 => ?_) (fun c_1 => ?_)
    · have c_1 : 10 ≤ (nI k) := of_decide_eq_true c_1
      exact absurd c_1 (nI_ge hk (by decide))
    have c_1 : ¬ (10 ≤ (nI k)) := of_decide_eq_false c_1
    refine wp_steps 1 (t' := (6, [some (.ref 84), some (.int (nI p)), some (.int (nI k))], [.ref 84], (HD, m, ml, mr))) rfl ?_
    refine wp_getr rfl ⟨by decide, rfl⟩ rfl (hM (84, 28, 92) (by decide)) ?_
    refine wp_steps 2 (t' := (9, [some (.ref 84), some (.int (nI p)), some (.int (nI k))], [.ref 84, .int (nI k), .ref 92], (HD, m, ml, mr))) rfl ?_
    refine wp_getr rfl ⟨by decide, rfl⟩ rfl (hM (84, 11, 91) (by decide)) ?_
    refine wp_steps 2 (t' := (12, [some (.ref 84), some (.int (nI p)), some (.int (nI k))], [.int (nI k), .int (nI p), .ref 91, .int (nI k), .ref 92], (HD, m, ml, mr))) rfl ?_
    refine wp_cal (as := [.int (nI p), .int (nI k)]) rfl rfl rfl (Nat.le_of_ble_eq_true rfl) ((c_rat_n (p := p) (s := k))) (by decide) ?_
    rintro _ _ ⟨rfl, rfl⟩
    show aWP _ _ (13, [some (.ref 84), some (.int (nI p)), some (.int (nI k))], [.int (nI (10 * p + k)), .ref 91, .int (nI k), .ref 92], (HD, m, ml, mr)) _
    refine wp_iald rfl ⟨by decide, rfl⟩ (aix_nI (by omega) (by decide)) ?_
    rw [nI_clamp (n := 10 * p + k) (by omega)]
    refine wp_iast rfl ⟨by decide, rfl⟩ (aix_nI (by omega) (by decide)) (fun m_2 h_3 => ?_)
    subst h_3
    rw [nI_clamp (n := k) (by omega)]
    refine wp_steps 2 (t' := (2, [some (.ref 84), some (.int (nI p)), some (.int ((nI k) + Int32.ofInt 1))], [], (HD, (aup m 92 k (m 91 (10 * p + k))), ml, mr))) rfl ?_
    rw [inc_nI]
    refine ih (k + 1) _ (by omega) (fun x j h1 => ?_) (fun j hj => ?_)
    · rw [← hf x j h1]; simp only [aup, if_neg h1]
    · by_cases e : j = k
      · subst e; simp only [aup, if_pos]; exact hf 91 _ (by decide)
      · simp only [aup, if_pos, if_neg e]; exact he j (by omega)
set_option maxRecDepth 20000 in
set_option maxHeartbeats 1000000 in
theorem r_aside {X : aXt × Value} {mi : Nat → Nat → Int32} {ml : Nat → Nat → Int64} {mr : Nat → Nat → Option Nat} (hM : MRok mr) {p : Nat} (hp5 : p < 5) : aCW X 2 186 [.ref 84, .int (nI p)] (HD, mi, ml, mr) (fun r h' => r = none ∧ ∃ m', h' = (HD, m', ml, mr) ∧ ASD p mi m') := by
  refine cw_of (cd := cd_X7_laysAside) (nL := 3) rfl rfl ?_
  show aWP _ _ (0, [some (.ref 84), some (.int (nI p)), none], [], (HD, mi, ml, mr)) _
  refine wp_steps 2 (t' := (2, [some (.ref 84), some (.int (nI p)), some (.int 0)], [], (HD, mi, ml, mr))) rfl ?_
  exact l_raside hM hp5 10 0 mi rfl (fun _ _ _ => rfl) (fun j hj => absurd hj (Nat.not_lt_zero j))
set_option maxRecDepth 20000 in
set_option maxHeartbeats 1000000 in
theorem l_rback {X : aXt × Value} {mi : Nat → Nat → Int32} {ml : Nat → Nat → Int64} {mr : Nat → Nat → Option Nat} (hM : MRok mr) {p : Nat} (hp5 : p < 5) : ∀ (g k : Nat) (m : Nat → Nat → Int32), k + g = 10 → (∀ x j, ¬ (x = 91 ∧ 10 * p ≤ j ∧ j < 10 * p + 10) → m x j = mi x j) → (∀ j, j < k → m 91 (10 * p + j) = mi 92 j) → aWP (aEx (aTb X) 1) cd_X7_laysBack (2, [some (.ref 84), some (.int (nI p)), some (.int (nI k))], [], (HD, m, ml, mr)) (fun r h' => (HD.1 ≤ h'.1.1 ∧ HD.2.1 ≤ h'.1.2.1) ∧ r = none ∧ ∃ m', h' = (HD, m', ml, mr) ∧ BCK p mi m') := by
  intro g
  induction g with
  | zero =>
    intro k m hg hf he
    obtain rfl : k = 10 := by omega
    refine wp_steps 2 (t' := (4, [some (.ref 84), some (.int (nI p)), some (.int (nI 10))], [.int 10, .int (nI 10)], (HD, m, ml, mr))) rfl ?_
    refine wp_bC rfl (fun c_1 => ?_) (fun c_1 => ?_)
    rotate_left
    · have c_1 : ¬ (10 ≤ (nI 10)) := of_decide_eq_false c_1
      exact absurd (by decide) c_1
    have c_1 : 10 ≤ (nI 10) := of_decide_eq_true c_1
    refine wp_steps 2 (t' := (19, [some (.ref 84), some (.int (nI p)), some (.int (nI 10))], [.ref 84, .ref 84], (HD, m, ml, mr))) rfl ?_
    refine wp_geti rfl ⟨by decide, rfl⟩ (Or.inl rfl) ?_
    refine wp_puti rfl ⟨by decide, rfl⟩ rfl (fun m_2 h_3 => ?_)
    subst h_3
    refine wp_ret rfl rfl ⟨⟨Nat.le_refl _, Nat.le_refl _⟩, ?_⟩
    refine ⟨rfl, _, rfl, fun x j h1 h2 => ?_, fun j hj => ?_, ?_⟩
    · rw [← hf x j h1]; unfold aup; by_cases e : x = 84
      · rw [if_pos e, if_neg (fun z => h2 ⟨e, z⟩)]
      · rw [if_neg e]
    · exact he j hj
    · simp only [aup, if_pos]
      exact hf 84 29 (by omega)
  | succ g ih =>
    intro k m hg hf he
    have hk : k < 10 := by omega
    refine wp_steps 2 (t' := (4, [some (.ref 84), some (.int (nI p)), some (.int (nI k))], [.int 10, .int (nI k)], (HD, m, ml, mr))) rfl ?_
    refine wp_bC rfl (fun c_1 => ?_) (fun c_1 => ?_)
    · have c_1 : 10 ≤ (nI k) := of_decide_eq_true c_1
      exact absurd c_1 (nI_ge hk (by decide))
    have c_1 : ¬ (10 ≤ (nI k)) := of_decide_eq_false c_1
    refine wp_steps 1 (t' := (6, [some (.ref 84), some (.int (nI p)), some (.int (nI k))], [.ref 84], (HD, m, ml, mr))) rfl ?_
    refine wp_getr rfl ⟨by decide, rfl⟩ rfl (hM (84, 11, 91) (by decide)) ?_
    refine wp_steps 2 (t' := (9, [some (.ref 84), some (.int (nI p)), some (.int (nI k))], [.int (nI k), .int (nI p), .ref 91], (HD, m, ml, mr))) rfl ?_
    refine wp_cal (as := [.int (nI p), .int (nI k)]) rfl rfl rfl (Nat.le_of_ble_eq_true rfl) ((c_rat_n (p := p) (s := k))) (by decide) ?_
    rintro _ _ ⟨rfl, rfl⟩
    show aWP _ _ (10, [some (.ref 84), some (.int (nI p)), some (.int (nI k))], [.int (nI (10 * p + k)), .ref 91], (HD, m, ml, mr)) _
    refine wp_steps 1 (t' := (11, [some (.ref 84), some (.int (nI p)), some (.int (nI k))], [.ref 84, .int (nI (10 * p + k)), .ref 91], (HD, m, ml, mr))) rfl ?_
    refine wp_getr rfl ⟨by decide, rfl⟩ rfl (hM (84, 28, 92) (by decide)) ?_
    refine wp_steps 1 (t' := (13, [some (.ref 84), some (.int (nI p)), some (.int (nI k))], [.int (nI k), .ref 92, .int (nI (10 * p + k)), .ref 91], (HD, m, ml, mr))) rfl ?_
    refine wp_iald rfl ⟨by decide, rfl⟩ (aix_nI (by omega) (by decide)) ?_
    rw [nI_clamp (n := k) (by omega)]
    refine wp_iast rfl ⟨by decide, rfl⟩ (aix_nI (by omega) (by decide)) (fun m_2 h_3 => ?_)
    subst h_3
    rw [nI_clamp (n := 10 * p + k) (by omega)]
    refine wp_steps 2 (t' := (2, [some (.ref 84), some (.int (nI p)), some (.int ((nI k) + Int32.ofInt 1))], [], (HD, (aup m 91 (10 * p + k) (m 92 k)), ml, mr))) rfl ?_
    rw [inc_nI]
    refine ih (k + 1) _ (by omega) (fun x j h1 => ?_) (fun j hj => ?_)
    · rw [← hf x j h1]; unfold aup; by_cases e : x = 91
      · rw [if_pos e, if_neg (fun z => h1 ⟨e, by omega, by omega⟩)]
      · rw [if_neg e]
    · by_cases e : j = k
      · subst e; simp only [aup, if_pos]; exact hf 92 _ (by omega)
      · have e2 : ¬ 10 * p + j = 10 * p + k := by omega
        simp only [aup, if_pos, if_neg e2]; exact he j (by omega)
set_option maxRecDepth 20000 in
set_option maxHeartbeats 1000000 in
theorem r_back {X : aXt × Value} {mi : Nat → Nat → Int32} {ml : Nat → Nat → Int64} {mr : Nat → Nat → Option Nat} (hM : MRok mr) {p : Nat} (hp5 : p < 5) : aCW X 2 187 [.ref 84, .int (nI p)] (HD, mi, ml, mr) (fun r h' => r = none ∧ ∃ m', h' = (HD, m', ml, mr) ∧ BCK p mi m') := by
  refine cw_of (cd := cd_X7_laysBack) (nL := 3) rfl rfl ?_
  show aWP _ _ (0, [some (.ref 84), some (.int (nI p)), none], [], (HD, mi, ml, mr)) _
  refine wp_steps 2 (t' := (2, [some (.ref 84), some (.int (nI p)), some (.int 0)], [], (HD, mi, ml, mr))) rfl ?_
  exact l_rback hM hp5 10 0 mi rfl (fun _ _ _ => rfl) (fun j hj => absurd hj (Nat.not_lt_zero j))
set_option maxRecDepth 20000 in
set_option maxHeartbeats 1000000 in
theorem l_rsum {X : aXt × Value} {mi : Nat → Nat → Int32} {ml : Nat → Nat → Int64} {mr : Nat → Nat → Option Nat} (hM : MRok mr) {p : Nat} (hp5 : p < 5) : ∀ (g s : Nat), s + g = 8 → aWP (aEx (aTb X) 1) cd_X7_skillsOf (4, [some (.ref 84), some (.int (nI p)), some (.int (smF (puR mi p).2.2.2.2 s)), some (.int (nI s))], [], (HD, mi, ml, mr)) (fun r h' => (HD.1 ≤ h'.1.1 ∧ HD.2.1 ≤ h'.1.2.1) ∧ rdI mi ml mr (smF (puR mi p).2.2.2.2 8) r h') := by
  intro g
  induction g with
  | zero =>
    intro s hg
    obtain rfl : s = 8 := by omega
    refine wp_steps 2 (t' := (6, [some (.ref 84), some (.int (nI p)), some (.int (smF (puR mi p).2.2.2.2 8)), some (.int (nI 8))], [.int 8, .int (nI 8)], (HD, mi, ml, mr))) rfl ?_
    refine wp_bC rfl (fun c_1 => ?_) (fun c_1 => ?_)
    rotate_left
    · have c_1 : ¬ (8 ≤ (nI 8)) := of_decide_eq_false c_1
      exact absurd (by decide) c_1
    have c_1 : 8 ≤ (nI 8) := of_decide_eq_true c_1
    refine wp_steps 1 (t' := (19, [some (.ref 84), some (.int (nI p)), some (.int (smF (puR mi p).2.2.2.2 8)), some (.int (nI 8))], [.int (smF (puR mi p).2.2.2.2 8)], (HD, mi, ml, mr))) rfl ?_
    refine wp_ret rfl rfl ⟨⟨Nat.le_refl _, Nat.le_refl _⟩, ?_⟩
    exact ⟨rfl, rfl⟩
  | succ g ih =>
    intro s hg
    have hs : s < 8 := by omega
    refine wp_steps 2 (t' := (6, [some (.ref 84), some (.int (nI p)), some (.int (smF (puR mi p).2.2.2.2 s)), some (.int (nI s))], [.int 8, .int (nI s)], (HD, mi, ml, mr))) rfl ?_
    refine wp_bC rfl (fun c_1 => ?_) (fun c_1 => ?_)
    · have c_1 : 8 ≤ (nI s) := of_decide_eq_true c_1
      exact absurd c_1 (nI_ge hs (by decide))
    have c_1 : ¬ (8 ≤ (nI s)) := of_decide_eq_false c_1
    refine wp_steps 2 (t' := (9, [some (.ref 84), some (.int (nI p)), some (.int (smF (puR mi p).2.2.2.2 s)), some (.int (nI s))], [.ref 84, .int (smF (puR mi p).2.2.2.2 s)], (HD, mi, ml, mr))) rfl ?_
    refine wp_getr rfl ⟨by decide, rfl⟩ rfl (hM (84, 11, 91) (by decide)) ?_
    refine wp_steps 2 (t' := (12, [some (.ref 84), some (.int (nI p)), some (.int (smF (puR mi p).2.2.2.2 s)), some (.int (nI s))], [.int (nI s), .int (nI p), .ref 91, .int (smF (puR mi p).2.2.2.2 s)], (HD, mi, ml, mr))) rfl ?_
    refine wp_cal (as := [.int (nI p), .int (nI s)]) rfl rfl rfl (Nat.le_of_ble_eq_true rfl) ((c_rat_n (p := p) (s := s))) (by decide) ?_
    rintro _ _ ⟨rfl, rfl⟩
    show aWP _ _ (13, [some (.ref 84), some (.int (nI p)), some (.int (smF (puR mi p).2.2.2.2 s)), some (.int (nI s))], [.int (nI (10 * p + s)), .ref 91, .int (smF (puR mi p).2.2.2.2 s)], (HD, mi, ml, mr)) _
    refine wp_iald rfl ⟨by decide, rfl⟩ (aix_nI (by omega) (by decide)) ?_
    rw [nI_clamp (n := 10 * p + s) (by omega)]
    refine wp_steps 4 (t' := (4, [some (.ref 84), some (.int (nI p)), some (.int ((smF (puR mi p).2.2.2.2 s) + (mi 91 (10 * p + s)))), some (.int ((nI s) + Int32.ofInt 1))], [], (HD, mi, ml, mr))) rfl ?_
    rw [inc_nI, sk_R (m := mi) (p := p) hs]
    exact ih (s + 1) (by omega)
set_option maxRecDepth 20000 in
set_option maxHeartbeats 1000000 in
theorem r_sum {X : aXt × Value} {mi : Nat → Nat → Int32} {ml : Nat → Nat → Int64} {mr : Nat → Nat → Option Nat} (hM : MRok mr) {p : Nat} (hp5 : p < 5) : aCW X 2 188 [.ref 84, .int (nI p)] (HD, mi, ml, mr) (rdI mi ml mr (smF (puR mi p).2.2.2.2 8)) := by
  refine cw_of (cd := cd_X7_skillsOf) (nL := 4) rfl rfl ?_
  show aWP _ _ (0, [some (.ref 84), some (.int (nI p)), none, none], [], (HD, mi, ml, mr)) _
  refine wp_steps 4 (t' := (4, [some (.ref 84), some (.int (nI p)), some (.int 0), some (.int 0)], [], (HD, mi, ml, mr))) rfl ?_
  exact l_rsum hM hp5 8 0 rfl
set_option maxRecDepth 20000 in
set_option maxHeartbeats 1000000 in
theorem l_rweak {X : aXt × Value} {mi : Nat → Nat → Int32} {ml : Nat → Nat → Int64} {mr : Nat → Nat → Option Nat} (hM : MRok mr) {p : Nat} (hp5 : p < 5) : ∀ (g s : Nat), s + g = 8 → 0 < s → aWP (aEx (aTb X) 1) cd_X7_weakest (4, [some (.ref 84), some (.int (nI p)), some (.int (nI (wkF (puR mi p).2.2.2.2 s))), some (.int (nI s))], [], (HD, mi, ml, mr)) (fun r h' => (HD.1 ≤ h'.1.1 ∧ HD.2.1 ≤ h'.1.2.1) ∧ rdI mi ml mr (nI (wkF (puR mi p).2.2.2.2 8)) r h') := by
  intro g
  induction g with
  | zero =>
    intro s hg h0
    obtain rfl : s = 8 := by omega
    refine wp_steps 2 (t' := (6, [some (.ref 84), some (.int (nI p)), some (.int (nI (wkF (puR mi p).2.2.2.2 8))), some (.int (nI 8))], [.int 8, .int (nI 8)], (HD, mi, ml, mr))) rfl ?_
    refine wp_bC rfl (fun c_1 => ?_) (fun c_1 => ?_)
    rotate_left
    · have c_1 : ¬ (8 ≤ (nI 8)) := of_decide_eq_false c_1
      exact absurd (by decide) c_1
    have c_1 : 8 ≤ (nI 8) := of_decide_eq_true c_1
    refine wp_steps 1 (t' := (27, [some (.ref 84), some (.int (nI p)), some (.int (nI (wkF (puR mi p).2.2.2.2 8))), some (.int (nI 8))], [.int (nI (wkF (puR mi p).2.2.2.2 8))], (HD, mi, ml, mr))) rfl ?_
    refine wp_ret rfl rfl ⟨⟨Nat.le_refl _, Nat.le_refl _⟩, ?_⟩
    exact ⟨rfl, rfl⟩
  | succ g ih =>
    intro s hg h0
    have hs : s < 8 := by omega
    have hw := wkF_lt (puR mi p).2.2.2.2 s h0
    refine wp_steps 2 (t' := (6, [some (.ref 84), some (.int (nI p)), some (.int (nI (wkF (puR mi p).2.2.2.2 s))), some (.int (nI s))], [.int 8, .int (nI s)], (HD, mi, ml, mr))) rfl ?_
    refine wp_bC rfl (fun c_1 => ?_) (fun c_1 => ?_)
    · have c_1 : 8 ≤ (nI s) := of_decide_eq_true c_1
      exact absurd c_1 (nI_ge hs (by decide))
    have c_1 : ¬ (8 ≤ (nI s)) := of_decide_eq_false c_1
    refine wp_steps 1 (t' := (8, [some (.ref 84), some (.int (nI p)), some (.int (nI (wkF (puR mi p).2.2.2.2 s))), some (.int (nI s))], [.ref 84], (HD, mi, ml, mr))) rfl ?_
    refine wp_getr rfl ⟨by decide, rfl⟩ rfl (hM (84, 11, 91) (by decide)) ?_
    refine wp_steps 2 (t' := (11, [some (.ref 84), some (.int (nI p)), some (.int (nI (wkF (puR mi p).2.2.2.2 s))), some (.int (nI s))], [.int (nI s), .int (nI p), .ref 91], (HD, mi, ml, mr))) rfl ?_
    refine wp_cal (as := [.int (nI p), .int (nI s)]) rfl rfl rfl (Nat.le_of_ble_eq_true rfl) ((c_rat_n (p := p) (s := s))) (by decide) ?_
    rintro _ _ ⟨rfl, rfl⟩
    show aWP _ _ (12, [some (.ref 84), some (.int (nI p)), some (.int (nI (wkF (puR mi p).2.2.2.2 s))), some (.int (nI s))], [.int (nI (10 * p + s)), .ref 91], (HD, mi, ml, mr)) _
    refine wp_iald rfl ⟨by decide, rfl⟩ (aix_nI (by omega) (by decide)) ?_
    rw [nI_clamp (n := 10 * p + s) (by omega)]
    refine wp_steps 1 (t' := (14, [some (.ref 84), some (.int (nI p)), some (.int (nI (wkF (puR mi p).2.2.2.2 s))), some (.int (nI s))], [.ref 84, .int (mi 91 (10 * p + s))], (HD, mi, ml, mr))) rfl ?_
    refine wp_getr rfl ⟨by decide, rfl⟩ rfl (hM (84, 11, 91) (by decide)) ?_
    refine wp_steps 2 (t' := (17, [some (.ref 84), some (.int (nI p)), some (.int (nI (wkF (puR mi p).2.2.2.2 s))), some (.int (nI s))], [.int (nI (wkF (puR mi p).2.2.2.2 s)), .int (nI p), .ref 91, .int (mi 91 (10 * p + s))], (HD, mi, ml, mr))) rfl ?_
    refine wp_cal (as := [.int (nI p), .int (nI (wkF (puR mi p).2.2.2.2 s))]) rfl rfl rfl (Nat.le_of_ble_eq_true rfl) ((c_rat_n (p := p) (s := wkF (puR mi p).2.2.2.2 s))) (by decide) ?_
    rintro _ _ ⟨rfl, rfl⟩
    show aWP _ _ (18, [some (.ref 84), some (.int (nI p)), some (.int (nI (wkF (puR mi p).2.2.2.2 s))), some (.int (nI s))], [.int (nI (10 * p + (wkF (puR mi p).2.2.2.2 s))), .ref 91, .int (mi 91 (10 * p + s))], (HD, mi, ml, mr)) _
    refine wp_iald rfl ⟨by decide, rfl⟩ (aix_nI (by omega) (by decide)) ?_
    rw [nI_clamp (n := 10 * p + (wkF (puR mi p).2.2.2.2 s)) (by omega)]
    refine wp_bC rfl (fun c_2 => ?_) (fun c_2 => ?_)
    · have c_2 : (mi 91 (10 * p + (wkF (puR mi p).2.2.2.2 s))) ≤ (mi 91 (10 * p + s)) := of_decide_eq_true c_2
      refine wp_steps 4 (t' := (4, [some (.ref 84), some (.int (nI p)), some (.int (nI (wkF (puR mi p).2.2.2.2 s))), some (.int ((nI s) + Int32.ofInt 1))], [], (HD, mi, ml, mr))) rfl ?_
      rw [sk_R (m := mi) (p := p) hs, sk_R (m := mi) (p := p) (s := wkF (puR mi p).2.2.2.2 s) (by omega)] at c_2
      have e : wkF (puR mi p).2.2.2.2 (s + 1) = wkF (puR mi p).2.2.2.2 s := if_neg (Int32.not_lt.mpr c_2)
      have z := ih (s + 1) (by omega) (by omega)
      rw [e] at z
      rw [inc_nI]
      exact z
    · have c_2 : ¬ ((mi 91 (10 * p + (wkF (puR mi p).2.2.2.2 s))) ≤ (mi 91 (10 * p + s))) := of_decide_eq_false c_2
      refine wp_steps 5 (t' := (4, [some (.ref 84), some (.int (nI p)), some (.int (nI s)), some (.int ((nI s) + Int32.ofInt 1))], [], (HD, mi, ml, mr))) rfl ?_
      rw [sk_R (m := mi) (p := p) hs, sk_R (m := mi) (p := p) (s := wkF (puR mi p).2.2.2.2 s) (by omega)] at c_2
      have e : wkF (puR mi p).2.2.2.2 (s + 1) = s := if_pos (Int32.not_le.mp c_2)
      have z := ih (s + 1) (by omega) (by omega)
      rw [e] at z
      rw [inc_nI]
      exact z
set_option maxRecDepth 20000 in
set_option maxHeartbeats 1000000 in
theorem r_weak {X : aXt × Value} {mi : Nat → Nat → Int32} {ml : Nat → Nat → Int64} {mr : Nat → Nat → Option Nat} (hM : MRok mr) {p : Nat} (hp5 : p < 5) : aCW X 2 191 [.ref 84, .int (nI p)] (HD, mi, ml, mr) (rdI mi ml mr (nI (wkF (puR mi p).2.2.2.2 8))) := by
  refine cw_of (cd := cd_X7_weakest) (nL := 4) rfl rfl ?_
  show aWP _ _ (0, [some (.ref 84), some (.int (nI p)), none, none], [], (HD, mi, ml, mr)) _
  refine wp_steps 4 (t' := (4, [some (.ref 84), some (.int (nI p)), some (.int 0), some (.int 1)], [], (HD, mi, ml, mr))) rfl ?_
  have e : wkF (puR mi p).2.2.2.2 1 = 0 := by
    unfold wkF
    split <;> rfl
  have z := l_rweak (X := X) (mi := mi) (ml := ml) hM hp5 7 1 rfl (by decide)
  rw [e] at z
  exact z
