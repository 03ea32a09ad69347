/-! the reference's hours and sleeps; laid aside, laid back (written by wip/whole/mkrefA.py) -/
theorem rI {x : Int32} {lo hi : Int32} : inR lo hi x ↔ lo.toInt ≤ x.toInt ∧ x.toInt ≤ hi.toInt := by
  unfold inR
  rw [Int32.lt_iff_toInt_lt, Int32.lt_iff_toInt_lt]
  omega
theorem i99 : (99 : Int32).toInt = 99 := rfl
theorem i999 : (999 : Int32).toInt = 999 := rfl
theorem i0 : (0 : Int32).toInt = 0 := rfl
theorem add_t {a b : Int32} (ha : -100000 ≤ a.toInt ∧ a.toInt ≤ 100000) (hb : -100000 ≤ b.toInt ∧ b.toInt ≤ 100000) : (a + b).toInt = a.toInt + b.toInt := by
  rw [Int32.toInt_add]
  exact Int.bmod_eq_of_le (by omega) (by omega)
theorem sub_t {a b : Int32} (ha : -100000 ≤ a.toInt ∧ a.toInt ≤ 100000) (hb : -100000 ≤ b.toInt ∧ b.toInt ≤ 100000) : (a - b).toInt = a.toInt - b.toInt := by
  rw [Int32.toInt_sub]
  exact Int.bmod_eq_of_le (by omega) (by omega)
theorem cl_rng {lo hi v : Int32} (h : lo.toInt ≤ hi.toInt) : inR lo hi (cl lo hi v) := by
  rw [rI]
  unfold cl
  split
  · omega
  · split
    · omega
    · rename_i a b
      rw [Int32.lt_iff_toInt_lt] at a b
      omega
/-- clamped from above is clamped, where nothing is below -/
theorem cl_min {hi v : Int32} (h : 0 ≤ v.toInt) : cl 0 hi v = fmin hi v := by
  unfold cl fmin
  rw [if_neg (by rw [Int32.lt_iff_toInt_lt, i0]; omega)]
  by_cases a : hi < v
  · rw [if_pos a]
    by_cases b : v < hi
    · rw [Int32.lt_iff_toInt_lt] at a b; omega
    · rw [if_neg b]
  · rw [if_neg a]
    by_cases b : v < hi
    · rw [if_pos b]
    · rw [if_neg b]
      rw [Int32.lt_iff_toInt_lt] at a b
      exact Int32.toInt_inj.mp (by omega)
theorem cl_max {hi v : Int32} (h : v.toInt ≤ hi.toInt) (h0 : 0 ≤ hi.toInt) : cl 0 hi v = fmax 0 v := by
  unfold cl fmax
  by_cases a : v < 0
  · rw [if_pos a, if_neg (by rw [Int32.lt_iff_toInt_lt, i0] at *; omega)]
  · rw [if_neg a, if_neg (by rw [Int32.lt_iff_toInt_lt]; omega)]
    by_cases b : 0 < v
    · rw [if_pos b]
    · rw [if_neg b]
      rw [Int32.lt_iff_toInt_lt, i0] at a b
      exact Int32.toInt_inj.mp (by rw [i0]; omega)
theorem cl_id {hi v : Int32} (h : inR 0 hi v) : cl 0 hi v = v := by
  unfold cl
  rw [if_neg h.1, if_neg h.2]
theorem half_rng {x : Int32} (h : inR 0 99 x) : inR 0 99 (x / 2) := by
  rw [rI, i0, i99] at *
  rw [lg_idiv_nonneg (by omega) (by decide), show (2 : Int32).toInt = 2 from rfl]
  omega
theorem fmin_rng {a b hi : Int32} (ha : 0 ≤ a.toInt) (hb : 0 ≤ hi.toInt) : inR 0 hi (fmin hi a) := by
  rw [← cl_min ha]
  exact cl_rng (by rw [i0]; exact hb)
/-- a learner as it should be -/
def okU (u : pU) : Prop := inR 0 5 u.1 ∧ inR 0 9 u.2.1 ∧ inR 0 99 u.2.2.1 ∧ inR 0 999 u.2.2.2.1 ∧ ∀ j, j < 8 → inR 0 99 (u.2.2.2.2 j)
theorem leG_rng {t : tW} {u : pU} {s : Nat} {hp : Int32} : inR 0 99 (leG t u s hp) := cl_rng (by decide)
theorem foG_rng {t : tW} {u : pU} {s : Nat} : inR 0 99 (foG t u s) := cl_rng (by decide)
theorem more_t {t : tW} {u : pU} {s : Nat} {hp : Int32} (B : Bool) : inR 0 99 (if B then leG t u s hp / 2 else leG t u s hp) := by
  cases B
  · exact leG_rng
  · exact half_rng leG_rng
theorem hrG_ok {t : tW} {u : pU} {s : Nat} {hp : Int32} (h : okU u) (hs : s < 8) : okU (hrG t u s hp) := by
  obtain ⟨a1, a2, a3, a4, a5⟩ := h
  have b3 := rI.mp a3; have b4 := rI.mp a4
  rw [i0, i99] at b3
  rw [i0, i999] at b4
  refine ⟨a1, a2, ?_, ?_, fun j hj => ?_⟩
  · show inR 0 99 (fmin 99 (u.2.2.1 + 1))
    exact fmin_rng (b := 0) (by rw [add_t (by omega) (by decide), show (1 : Int32).toInt = 1 from rfl]; omega) (by decide)
  · show inR 0 999 (if buF (maG t u s) hp = true then fmin 999 (u.2.2.2.1 + 1) else u.2.2.2.1)
    split
    · exact fmin_rng (b := 0) (by rw [add_t (by omega) (by decide), show (1 : Int32).toInt = 1 from rfl]; omega) (by decide)
    · exact a4
  · show inR 0 99 (if j = s then fmin 99 (u.2.2.2.2 s + (if buF (maG t u s) hp = true then leG t u s hp / 2 else leG t u s hp)) else u.2.2.2.2 j)
    split
    · have b5 := rI.mp (a5 s hs)
      have bm := rI.mp (more_t (t := t) (u := u) (s := s) (hp := hp) (buF (maG t u s) hp))
      rw [i0, i99] at b5 bm
      exact fmin_rng (b := 0) (by rw [add_t (by omega) (by omega)]; omega) (by decide)
    · exact a5 j hj
theorem spG_ok {t : tW} {u : pU} (h : okU u) : okU (spG t u) := by
  obtain ⟨a1, a2, a3, a4, a5⟩ := h
  refine ⟨a1, a2, ?_, a4, fun j hj => ?_⟩
  · show inR 0 99 0
    decide
  · show inR 0 99 (c8 _ j)
    rw [c8_lt hj]
    have b5 := rI.mp (a5 j hj)
    have bf := rI.mp (foG_rng (t := t) (u := u) (s := j))
    rw [i0, i99] at b5 bf
    rw [← cl_max (hi := 99) (by rw [sub_t (by omega) (by omega), i99]; omega) (by decide)]
    exact cl_rng (by decide)
/-- alike but for names, reading, and learner p's row -/
def frU (p : Nat) (m m' : Nat → Nat → Int32) : Prop := ∀ k j, ¬ (k = 84 ∧ 13 ≤ j ∧ j ≤ 27) → ¬ (k = 91 ∧ 10 * p ≤ j ∧ j < 10 * p + 10) → m' k j = m k j
theorem frU.rf (p : Nat) (m : Nat → Nat → Int32) : frU p m m := fun _ _ _ _ => rfl
theorem frU.tr {p : Nat} {a b c : Nat → Nat → Int32} (h : frU p a b) (k : frU p b c) : frU p a c := fun x y q z => (k x y q z).trans (h x y q z)
theorem frY.U {p : Nat} {m m' : Nat → Nat → Int32} (h : frY m m') : frU p m m' := fun k j q _ => h k j q
theorem frU.row {p : Nat} {m m' : Nat → Nat → Int32} (h : frU p m m') {k : Nat} (hk : k ≠ 84) (hk2 : k ≠ 91) : m' k = m k := funext fun j => h k j (fun z => hk z.1) (fun z => hk2 z.1)
theorem frU.up {p : Nat} {m : Nat → Nat → Int32} {j : Nat} (h1 : 10 * p ≤ j) (h2 : j < 10 * p + 10) (v : Int32) : frU p m (aup m 91 j v) := fun x y _ q => by
  unfold aup
  by_cases e : x = 91
  · by_cases e2 : y = j
    · exact absurd ⟨e, by omega, by omega⟩ q
    · rw [if_pos e, if_neg e2]
  · rw [if_neg e]
theorem RUX.U {p : Nat} {m m' : Nat → Nat → Int32} {c0 c1 c2 : List Int32} (h : RUX m c0 c1 c2) (f : frU p m m') : RUX m' c0 c1 c2 := by
  obtain ⟨R, n, v0, h1, h2, h3⟩ := h
  exact ⟨R, n, v0, h1, (f _ _ (by omega) (by omega)).trans h2, h3.fr (fun j _ => f _ _ (by omega) (by omega)) (f _ _ (by omega) (by omega))⟩
theorem twR_U {p : Nat} {m m' : Nat → Nat → Int32} (h : frU p m m') (c0 c1 c2 : List Int32) : twR m' c0 c1 c2 = twR m c0 c1 c2 := by
  unfold twR
  rw [h.row (k := 88) (by decide) (by decide), h 84 7 (by omega) (by omega)]
theorem drv_pu {m m1 : Nat → Nat → Int32} {p s : Nat} (f : frY m m1) (hs : s < 8) (A B C : Int32) : puR (aup (aup (aup m1 91 (10 * p + s) A) 91 (10 * p + 9) B) 91 (10 * p + 8) C) p = ((puR m p).1, (puR m p).2.1, C, B, fun j => if j = s then A else (puR m p).2.2.2.2 j) := by
  refine Prod.ext ?_ (Prod.ext ?_ (Prod.ext ?_ (Prod.ext ?_ (funext fun j => ?_))))
  · show (aup (aup (aup m1 91 (10 * p + s) A) 91 (10 * p + 9) B) 91 (10 * p + 8) C) 89 p = m 89 p
    rw [← f.row (k := 89) (by decide)]; rfl
  · show (aup (aup (aup m1 91 (10 * p + s) A) 91 (10 * p + 9) B) 91 (10 * p + 8) C) 90 p = m 90 p
    rw [← f.row (k := 90) (by decide)]; rfl
  · simp [puR, aup]
  · simp [puR, aup]
  · simp only [puR, c8]
    by_cases hj : j < 8
    · have h8 : ¬ 10 * p + j = 10 * p + 8 := by omega
      have h9 : ¬ 10 * p + j = 10 * p + 9 := by omega
      by_cases e : j = s
      · subst e
        simp only [hj, if_pos, aup, if_neg h8, if_neg h9]
      · have hs' : ¬ 10 * p + j = 10 * p + s := by omega
        simp only [hj, if_pos, aup, if_neg h8, if_neg h9, if_neg hs', if_neg e, f.row (k := 91) (by decide)]
    · have e : ¬ j = s := by omega
      simp only [hj, if_neg e, if_false]
set_option maxRecDepth 20000 in
set_option maxHeartbeats 1000000 in
theorem r_drives {X : aXt × Value} {mi : Nat → Nat → Int32} {ml : Nat → Nat → Int64} {mr : Nat → Nat → Option Nat} (hM : MRok mr) {c0 c1 c2 : List Int32} (hR : RUX mi c0 c1 c2) {p : Nat} (hp5 : p < 5) {s : Nat} (hs : s < 8) {hp : Int32} (hok : okU (puR mi p)) : aCW X 47 181 [.ref 84, .int (nI p), .int (nI s), .int hp] (HD, mi, ml, mr) (fun r h' => r = none ∧ ∃ m' w', h' = (HD, m', w', mr) ∧ frU p mi m' ∧ puR m' p = hrG (twR mi c0 c1 c2) (puR mi p) s hp) := by
  refine cw_of (cd := cd_X7_drives) (nL := 6) rfl rfl ?_
  show aWP _ _ (0, [some (.ref 84), some (.int (nI p)), some (.int (nI s)), some (.int hp), none, none], [], (HD, mi, ml, mr)) _
  refine wp_steps 4 (t' := (4, [some (.ref 84), some (.int (nI p)), some (.int (nI s)), some (.int hp), none, none], [.int hp, .int (nI s), .int (nI p), .ref 84], (HD, mi, ml, mr))) rfl ?_
  refine wp_calv (as := [.int (nI p), .int (nI s), .int hp]) rfl rfl rfl (Nat.le_of_ble_eq_true rfl) ⟨by decide, rfl⟩ ((r_learns (ml := ml) (hp := hp) hM hR hp5 hs)) (by decide) ?_
  rintro _ _ ⟨rfl, m_1, w_1, rfl, f1⟩
  show aWP _ _ (5, [some (.ref 84), some (.int (nI p)), some (.int (nI s)), some (.int hp), none, none], [.int (leG (twR mi c0 c1 c2) (puR mi p) s hp)], (HD, m_1, w_1, mr)) _
  refine wp_steps 3 (t' := (8, [some (.ref 84), some (.int (nI p)), some (.int (nI s)), some (.int hp), some (.int (leG (twR mi c0 c1 c2) (puR mi p) s hp)), none], [.int 2, .int hp], (HD, m_1, w_1, mr))) rfl ?_
  refine wp_bC rfl (fun c_1 => ?_) (fun c_1 => ?_)
  · have c_1 : hp = 2 := of_decide_eq_true c_1
    refine wp_steps 3 (t' := (19, [some (.ref 84), some (.int (nI p)), some (.int (nI s)), some (.int hp), some (.int (leG (twR mi c0 c1 c2) (puR mi p) s hp)), some (.int 0)], [.ref 84], (HD, m_1, w_1, mr))) rfl ?_
    refine wp_getr rfl ⟨by decide, rfl⟩ rfl (hM (84, 11, 91) (by decide)) ?_
    refine wp_steps 2 (t' := (22, [some (.ref 84), some (.int (nI p)), some (.int (nI s)), some (.int hp), some (.int (leG (twR mi c0 c1 c2) (puR mi p) s hp)), some (.int 0)], [.int (nI s), .int (nI p), .ref 91], (HD, m_1, w_1, mr))) rfl ?_
    refine wp_cal (as := [.int (nI p), .int (nI s)]) rfl rfl rfl (Nat.le_of_ble_eq_true rfl) ((c_rat_n (p := p) (s := s))) (by decide) ?_
    rintro _ _ ⟨rfl, rfl⟩
    show aWP _ _ (23, [some (.ref 84), some (.int (nI p)), some (.int (nI s)), some (.int hp), some (.int (leG (twR mi c0 c1 c2) (puR mi p) s hp)), some (.int 0)], [.int (nI (10 * p + s)), .ref 91], (HD, m_1, w_1, mr)) _
    refine wp_steps 1 (t' := (24, [some (.ref 84), some (.int (nI p)), some (.int (nI s)), some (.int hp), some (.int (leG (twR mi c0 c1 c2) (puR mi p) s hp)), some (.int 0)], [.ref 84, .int (nI (10 * p + s)), .ref 91], (HD, m_1, w_1, mr))) rfl ?_
    refine wp_getr rfl ⟨by decide, rfl⟩ rfl (hM (84, 11, 91) (by decide)) ?_
    refine wp_steps 2 (t' := (27, [some (.ref 84), some (.int (nI p)), some (.int (nI s)), some (.int hp), some (.int (leG (twR mi c0 c1 c2) (puR mi p) s hp)), some (.int 0)], [.int (nI s), .int (nI p), .ref 91, .int (nI (10 * p + s)), .ref 91], (HD, m_1, w_1, mr))) rfl ?_
    refine wp_cal (as := [.int (nI p), .int (nI s)]) rfl rfl rfl (Nat.le_of_ble_eq_true rfl) ((c_rat_n (p := p) (s := s))) (by decide) ?_
    rintro _ _ ⟨rfl, rfl⟩
    show aWP _ _ (28, [some (.ref 84), some (.int (nI p)), some (.int (nI s)), some (.int hp), some (.int (leG (twR mi c0 c1 c2) (puR mi p) s hp)), some (.int 0)], [.int (nI (10 * p + s)), .ref 91, .int (nI (10 * p + s)), .ref 91], (HD, m_1, w_1, mr)) _
    refine wp_iald rfl ⟨by decide, rfl⟩ (aix_nI (by omega) (by decide)) ?_
    rw [nI_clamp (n := 10 * p + s) (by omega)]
    refine wp_steps 1 (t' := (30, [some (.ref 84), some (.int (nI p)), some (.int (nI s)), some (.int hp), some (.int (leG (twR mi c0 c1 c2) (puR mi p) s hp)), some (.int 0)], [.int 0, .int (m_1 91 (10 * p + s)), .int (nI (10 * p + s)), .ref 91], (HD, m_1, w_1, mr))) rfl ?_
    refine wp_bI rfl (fun c_2 => ?_) (fun c_2 => ?_)
    rotate_left
    · have c_2 : ¬ ((0 : Int32) = 0) := of_decide_eq_false c_2
      exact absurd c_2 (by decide)
    have c_2 : (0 : Int32) = 0 := of_decide_eq_true c_2
    refine wp_steps 4 (t' := (39, [some (.ref 84), some (.int (nI p)), some (.int (nI s)), some (.int hp), some (.int (leG (twR mi c0 c1 c2) (puR mi p) s hp)), some (.int 0)], [.int 99, .int 0, .int ((m_1 91 (10 * p + s)) + (leG (twR mi c0 c1 c2) (puR mi p) s hp)), .int (nI (10 * p + s)), .ref 91], (HD, m_1, w_1, mr))) rfl ?_
    refine wp_cal (as := [.int ((m_1 91 (10 * p + s)) + (leG (twR mi c0 c1 c2) (puR mi p) s hp)), .int 0, .int 99]) rfl rfl rfl (Nat.le_of_ble_eq_true rfl) ((c_within (v := (m_1 91 (10 * p + s)) + (leG (twR mi c0 c1 c2) (puR mi p) s hp)) (lo := 0) (hi := 99) (by decide))) (by decide) ?_
    rintro _ _ ⟨rfl, rfl⟩
    show aWP _ _ (40, [some (.ref 84), some (.int (nI p)), some (.int (nI s)), some (.int hp), some (.int (leG (twR mi c0 c1 c2) (puR mi p) s hp)), some (.int 0)], [.int (cl 0 99 ((m_1 91 (10 * p + s)) + (leG (twR mi c0 c1 c2) (puR mi p) s hp))), .int (nI (10 * p + s)), .ref 91], (HD, m_1, w_1, mr)) _
    refine wp_iast rfl ⟨by decide, rfl⟩ (aix_nI (by omega) (by decide)) (fun m_3 h_4 => ?_)
    subst h_4
    rw [nI_clamp (n := 10 * p + s) (by omega)]
    refine wp_steps 1 (t' := (42, [some (.ref 84), some (.int (nI p)), some (.int (nI s)), some (.int hp), some (.int (leG (twR mi c0 c1 c2) (puR mi p) s hp)), some (.int 0)], [.ref 84], (HD, (aup m_1 91 (10 * p + s) (cl 0 99 ((m_1 91 (10 * p + s)) + (leG (twR mi c0 c1 c2) (puR mi p) s hp)))), w_1, mr))) rfl ?_
    refine wp_getr rfl ⟨by decide, rfl⟩ rfl (hM (84, 11, 91) (by decide)) ?_
    refine wp_steps 2 (t' := (45, [some (.ref 84), some (.int (nI p)), some (.int (nI s)), some (.int hp), some (.int (leG (twR mi c0 c1 c2) (puR mi p) s hp)), some (.int 0)], [.int 9, .int (nI p), .ref 91], (HD, (aup m_1 91 (10 * p + s) (cl 0 99 ((m_1 91 (10 * p + s)) + (leG (twR mi c0 c1 c2) (puR mi p) s hp)))), w_1, mr))) rfl ?_
    refine wp_cal (as := [.int (nI p), .int 9]) rfl rfl rfl (Nat.le_of_ble_eq_true rfl) ((c_rat_n (p := p) (s := 9))) (by decide) ?_
    rintro _ _ ⟨rfl, rfl⟩
    show aWP _ _ (46, [some (.ref 84), some (.int (nI p)), some (.int (nI s)), some (.int hp), some (.int (leG (twR mi c0 c1 c2) (puR mi p) s hp)), some (.int 0)], [.int (nI (10 * p + 9)), .ref 91], (HD, (aup m_1 91 (10 * p + s) (cl 0 99 ((m_1 91 (10 * p + s)) + (leG (twR mi c0 c1 c2) (puR mi p) s hp)))), w_1, mr)) _
    refine wp_steps 1 (t' := (47, [some (.ref 84), some (.int (nI p)), some (.int (nI s)), some (.int hp), some (.int (leG (twR mi c0 c1 c2) (puR mi p) s hp)), some (.int 0)], [.ref 84, .int (nI (10 * p + 9)), .ref 91], (HD, (aup m_1 91 (10 * p + s) (cl 0 99 ((m_1 91 (10 * p + s)) + (leG (twR mi c0 c1 c2) (puR mi p) s hp)))), w_1, mr))) rfl ?_
    refine wp_getr rfl ⟨by decide, rfl⟩ rfl (hM (84, 11, 91) (by decide)) ?_
    refine wp_steps 2 (t' := (50, [some (.ref 84), some (.int (nI p)), some (.int (nI s)), some (.int hp), some (.int (leG (twR mi c0 c1 c2) (puR mi p) s hp)), some (.int 0)], [.int 9, .int (nI p), .ref 91, .int (nI (10 * p + 9)), .ref 91], (HD, (aup m_1 91 (10 * p + s) (cl 0 99 ((m_1 91 (10 * p + s)) + (leG (twR mi c0 c1 c2) (puR mi p) s hp)))), w_1, mr))) rfl ?_
    refine wp_cal (as := [.int (nI p), .int 9]) rfl rfl rfl (Nat.le_of_ble_eq_true rfl) ((c_rat_n (p := p) (s := 9))) (by decide) ?_
    rintro _ _ ⟨rfl, rfl⟩
    show aWP _ _ (51, [some (.ref 84), some (.int (nI p)), some (.int (nI s)), some (.int hp), some (.int (leG (twR mi c0 c1 c2) (puR mi p) s hp)), some (.int 0)], [.int (nI (10 * p + 9)), .ref 91, .int (nI (10 * p + 9)), .ref 91], (HD, (aup m_1 91 (10 * p + s) (cl 0 99 ((m_1 91 (10 * p + s)) + (leG (twR mi c0 c1 c2) (puR mi p) s hp)))), w_1, mr)) _
    refine wp_iald rfl ⟨by decide, rfl⟩ (aix_nI (by omega) (by decide)) ?_
    rw [nI_clamp (n := 10 * p + 9) (by omega)]
    refine wp_steps 1 (t' := (53, [some (.ref 84), some (.int (nI p)), some (.int (nI s)), some (.int hp), some (.int (leG (twR mi c0 c1 c2) (puR mi p) s hp)), some (.int 0)], [.int 0, .int ((aup m_1 91 (10 * p + s) (cl 0 99 ((m_1 91 (10 * p + s)) + (leG (twR mi c0 c1 c2) (puR mi p) s hp)))) 91 (10 * p + 9)), .int (nI (10 * p + 9)), .ref 91], (HD, (aup m_1 91 (10 * p + s) (cl 0 99 ((m_1 91 (10 * p + s)) + (leG (twR mi c0 c1 c2) (puR mi p) s hp)))), w_1, mr))) rfl ?_
    refine wp_bI rfl (fun c_5 => ?_) (fun c_5 => ?_)
    rotate_left
    · have c_5 : ¬ ((0 : Int32) = 0) := of_decide_eq_false c_5
      exact absurd c_5 (by decide)
    have c_5 : (0 : Int32) = 0 := of_decide_eq_true c_5
    refine wp_steps 4 (t' := (60, [some (.ref 84), some (.int (nI p)), some (.int (nI s)), some (.int hp), some (.int (leG (twR mi c0 c1 c2) (puR mi p) s hp)), some (.int 0)], [.int 999, .int 0, .int (((aup m_1 91 (10 * p + s) (cl 0 99 ((m_1 91 (10 * p + s)) + (leG (twR mi c0 c1 c2) (puR mi p) s hp)))) 91 (10 * p + 9)) + 0), .int (nI (10 * p + 9)), .ref 91], (HD, (aup m_1 91 (10 * p + s) (cl 0 99 ((m_1 91 (10 * p + s)) + (leG (twR mi c0 c1 c2) (puR mi p) s hp)))), w_1, mr))) rfl ?_
    refine wp_cal (as := [.int (((aup m_1 91 (10 * p + s) (cl 0 99 ((m_1 91 (10 * p + s)) + (leG (twR mi c0 c1 c2) (puR mi p) s hp)))) 91 (10 * p + 9)) + 0), .int 0, .int 999]) rfl rfl rfl (Nat.le_of_ble_eq_true rfl) ((c_within (v := ((aup m_1 91 (10 * p + s) (cl 0 99 ((m_1 91 (10 * p + s)) + (leG (twR mi c0 c1 c2) (puR mi p) s hp)))) 91 (10 * p + 9)) + 0) (lo := 0) (hi := 999) (by decide))) (by decide) ?_
    rintro _ _ ⟨rfl, rfl⟩
    show aWP _ _ (61, [some (.ref 84), some (.int (nI p)), some (.int (nI s)), some (.int hp), some (.int (leG (twR mi c0 c1 c2) (puR mi p) s hp)), some (.int 0)], [.int (cl 0 999 (((aup m_1 91 (10 * p + s) (cl 0 99 ((m_1 91 (10 * p + s)) + (leG (twR mi c0 c1 c2) (puR mi p) s hp)))) 91 (10 * p + 9)) + 0)), .int (nI (10 * p + 9)), .ref 91], (HD, (aup m_1 91 (10 * p + s) (cl 0 99 ((m_1 91 (10 * p + s)) + (leG (twR mi c0 c1 c2) (puR mi p) s hp)))), w_1, mr)) _
    refine wp_iast rfl ⟨by decide, rfl⟩ (aix_nI (by omega) (by decide)) (fun m_6 h_7 => ?_)
    subst h_7
    rw [nI_clamp (n := 10 * p + 9) (by omega)]
    refine wp_steps 1 (t' := (63, [some (.ref 84), some (.int (nI p)), some (.int (nI s)), some (.int hp), some (.int (leG (twR mi c0 c1 c2) (puR mi p) s hp)), some (.int 0)], [.ref 84], (HD, (aup (aup m_1 91 (10 * p + s) (cl 0 99 ((m_1 91 (10 * p + s)) + (leG (twR mi c0 c1 c2) (puR mi p) s hp)))) 91 (10 * p + 9) (cl 0 999 (((aup m_1 91 (10 * p + s) (cl 0 99 ((m_1 91 (10 * p + s)) + (leG (twR mi c0 c1 c2) (puR mi p) s hp)))) 91 (10 * p + 9)) + 0))), w_1, mr))) rfl ?_
    refine wp_getr rfl ⟨by decide, rfl⟩ rfl (hM (84, 11, 91) (by decide)) ?_
    refine wp_steps 2 (t' := (66, [some (.ref 84), some (.int (nI p)), some (.int (nI s)), some (.int hp), some (.int (leG (twR mi c0 c1 c2) (puR mi p) s hp)), some (.int 0)], [.int 8, .int (nI p), .ref 91], (HD, (aup (aup m_1 91 (10 * p + s) (cl 0 99 ((m_1 91 (10 * p + s)) + (leG (twR mi c0 c1 c2) (puR mi p) s hp)))) 91 (10 * p + 9) (cl 0 999 (((aup m_1 91 (10 * p + s) (cl 0 99 ((m_1 91 (10 * p + s)) + (leG (twR mi c0 c1 c2) (puR mi p) s hp)))) 91 (10 * p + 9)) + 0))), w_1, mr))) rfl ?_
    refine wp_cal (as := [.int (nI p), .int 8]) rfl rfl rfl (Nat.le_of_ble_eq_true rfl) ((c_rat_n (p := p) (s := 8))) (by decide) ?_
    rintro _ _ ⟨rfl, rfl⟩
    show aWP _ _ (67, [some (.ref 84), some (.int (nI p)), some (.int (nI s)), some (.int hp), some (.int (leG (twR mi c0 c1 c2) (puR mi p) s hp)), some (.int 0)], [.int (nI (10 * p + 8)), .ref 91], (HD, (aup (aup m_1 91 (10 * p + s) (cl 0 99 ((m_1 91 (10 * p + s)) + (leG (twR mi c0 c1 c2) (puR mi p) s hp)))) 91 (10 * p + 9) (cl 0 999 (((aup m_1 91 (10 * p + s) (cl 0 99 ((m_1 91 (10 * p + s)) + (leG (twR mi c0 c1 c2) (puR mi p) s hp)))) 91 (10 * p + 9)) + 0))), w_1, mr)) _
    refine wp_steps 1 (t' := (68, [some (.ref 84), some (.int (nI p)), some (.int (nI s)), some (.int hp), some (.int (leG (twR mi c0 c1 c2) (puR mi p) s hp)), some (.int 0)], [.ref 84, .int (nI (10 * p + 8)), .ref 91], (HD, (aup (aup m_1 91 (10 * p + s) (cl 0 99 ((m_1 91 (10 * p + s)) + (leG (twR mi c0 c1 c2) (puR mi p) s hp)))) 91 (10 * p + 9) (cl 0 999 (((aup m_1 91 (10 * p + s) (cl 0 99 ((m_1 91 (10 * p + s)) + (leG (twR mi c0 c1 c2) (puR mi p) s hp)))) 91 (10 * p + 9)) + 0))), w_1, mr))) rfl ?_
    refine wp_getr rfl ⟨by decide, rfl⟩ rfl (hM (84, 11, 91) (by decide)) ?_
    refine wp_steps 2 (t' := (71, [some (.ref 84), some (.int (nI p)), some (.int (nI s)), some (.int hp), some (.int (leG (twR mi c0 c1 c2) (puR mi p) s hp)), some (.int 0)], [.int 8, .int (nI p), .ref 91, .int (nI (10 * p + 8)), .ref 91], (HD, (aup (aup m_1 91 (10 * p + s) (cl 0 99 ((m_1 91 (10 * p + s)) + (leG (twR mi c0 c1 c2) (puR mi p) s hp)))) 91 (10 * p + 9) (cl 0 999 (((aup m_1 91 (10 * p + s) (cl 0 99 ((m_1 91 (10 * p + s)) + (leG (twR mi c0 c1 c2) (puR mi p) s hp)))) 91 (10 * p + 9)) + 0))), w_1, mr))) rfl ?_
    refine wp_cal (as := [.int (nI p), .int 8]) rfl rfl rfl (Nat.le_of_ble_eq_true rfl) ((c_rat_n (p := p) (s := 8))) (by decide) ?_
    rintro _ _ ⟨rfl, rfl⟩
    show aWP _ _ (72, [some (.ref 84), some (.int (nI p)), some (.int (nI s)), some (.int hp), some (.int (leG (twR mi c0 c1 c2) (puR mi p) s hp)), some (.int 0)], [.int (nI (10 * p + 8)), .ref 91, .int (nI (10 * p + 8)), .ref 91], (HD, (aup (aup m_1 91 (10 * p + s) (cl 0 99 ((m_1 91 (10 * p + s)) + (leG (twR mi c0 c1 c2) (puR mi p) s hp)))) 91 (10 * p + 9) (cl 0 999 (((aup m_1 91 (10 * p + s) (cl 0 99 ((m_1 91 (10 * p + s)) + (leG (twR mi c0 c1 c2) (puR mi p) s hp)))) 91 (10 * p + 9)) + 0))), w_1, mr)) _
    refine wp_iald rfl ⟨by decide, rfl⟩ (aix_nI (by omega) (by decide)) ?_
    rw [nI_clamp (n := 10 * p + 8) (by omega)]
    refine wp_steps 4 (t' := (77, [some (.ref 84), some (.int (nI p)), some (.int (nI s)), some (.int hp), some (.int (leG (twR mi c0 c1 c2) (puR mi p) s hp)), some (.int 0)], [.int 99, .int 0, .int (((aup (aup m_1 91 (10 * p + s) (cl 0 99 ((m_1 91 (10 * p + s)) + (leG (twR mi c0 c1 c2) (puR mi p) s hp)))) 91 (10 * p + 9) (cl 0 999 (((aup m_1 91 (10 * p + s) (cl 0 99 ((m_1 91 (10 * p + s)) + (leG (twR mi c0 c1 c2) (puR mi p) s hp)))) 91 (10 * p + 9)) + 0))) 91 (10 * p + 8)) + 1), .int (nI (10 * p + 8)), .ref 91], (HD, (aup (aup m_1 91 (10 * p + s) (cl 0 99 ((m_1 91 (10 * p + s)) + (leG (twR mi c0 c1 c2) (puR mi p) s hp)))) 91 (10 * p + 9) (cl 0 999 (((aup m_1 91 (10 * p + s) (cl 0 99 ((m_1 91 (10 * p + s)) + (leG (twR mi c0 c1 c2) (puR mi p) s hp)))) 91 (10 * p + 9)) + 0))), w_1, mr))) rfl ?_
    refine wp_cal (as := [.int (((aup (aup m_1 91 (10 * p + s) (cl 0 99 ((m_1 91 (10 * p + s)) + (leG (twR mi c0 c1 c2) (puR mi p) s hp)))) 91 (10 * p + 9) (cl 0 999 (((aup m_1 91 (10 * p + s) (cl 0 99 ((m_1 91 (10 * p + s)) + (leG (twR mi c0 c1 c2) (puR mi p) s hp)))) 91 (10 * p + 9)) + 0))) 91 (10 * p + 8)) + 1), .int 0, .int 99]) rfl rfl rfl (Nat.le_of_ble_eq_true rfl) ((c_within (v := ((aup (aup m_1 91 (10 * p + s) (cl 0 99 ((m_1 91 (10 * p + s)) + (leG (twR mi c0 c1 c2) (puR mi p) s hp)))) 91 (10 * p + 9) (cl 0 999 (((aup m_1 91 (10 * p + s) (cl 0 99 ((m_1 91 (10 * p + s)) + (leG (twR mi c0 c1 c2) (puR mi p) s hp)))) 91 (10 * p + 9)) + 0))) 91 (10 * p + 8)) + 1) (lo := 0) (hi := 99) (by decide))) (by decide) ?_
    rintro _ _ ⟨rfl, rfl⟩
    show aWP _ _ (78, [some (.ref 84), some (.int (nI p)), some (.int (nI s)), some (.int hp), some (.int (leG (twR mi c0 c1 c2) (puR mi p) s hp)), some (.int 0)], [.int (cl 0 99 (((aup (aup m_1 91 (10 * p + s) (cl 0 99 ((m_1 91 (10 * p + s)) + (leG (twR mi c0 c1 c2) (puR mi p) s hp)))) 91 (10 * p + 9) (cl 0 999 (((aup m_1 91 (10 * p + s) (cl 0 99 ((m_1 91 (10 * p + s)) + (leG (twR mi c0 c1 c2) (puR mi p) s hp)))) 91 (10 * p + 9)) + 0))) 91 (10 * p + 8)) + 1)), .int (nI (10 * p + 8)), .ref 91], (HD, (aup (aup m_1 91 (10 * p + s) (cl 0 99 ((m_1 91 (10 * p + s)) + (leG (twR mi c0 c1 c2) (puR mi p) s hp)))) 91 (10 * p + 9) (cl 0 999 (((aup m_1 91 (10 * p + s) (cl 0 99 ((m_1 91 (10 * p + s)) + (leG (twR mi c0 c1 c2) (puR mi p) s hp)))) 91 (10 * p + 9)) + 0))), w_1, mr)) _
    refine wp_iast rfl ⟨by decide, rfl⟩ (aix_nI (by omega) (by decide)) (fun m_8 h_9 => ?_)
    subst h_9
    rw [nI_clamp (n := 10 * p + 8) (by omega)]
    refine wp_ret rfl rfl ⟨⟨Nat.le_refl _, Nat.le_refl _⟩, ?_⟩
    have eb : buF (maG (twR mi c0 c1 c2) (puR mi p) s) hp = false := by unfold buF; simp [c_1]
    have fY := f1
    have r91 := fY.row (k := 91) (by decide)
    have n9 : ¬ 10 * p + 9 = 10 * p + s := by omega
    have n8 : ¬ 10 * p + 8 = 10 * p + s := by omega
    have n89 : ¬ 10 * p + 8 = 10 * p + 9 := by omega
    refine ⟨rfl, _, _, rfl, ((fY.U.tr (frU.up (by omega) (by omega) _)).tr (frU.up (by omega) (by omega) _)).tr (frU.up (by omega) (by omega) _), ?_⟩
    rw [drv_pu fY hs]
    unfold hrG
    rw [eb]
    simp only [aup, if_neg n9, if_neg n8, if_neg n89, r91, if_true]
    have hsk : (puR mi p).2.2.2.2 s = mi 91 (10 * p + s) := by show c8 (fun j => mi 91 (10 * p + j)) s = _; exact c8_lt hs
    obtain ⟨a1, a2, a3, a4, a5⟩ := hok
    have b3 := rI.mp a3
    have b4 := rI.mp a4
    have b5 := rI.mp (a5 s hs)
    rw [i0, i99] at b3
    rw [i0, i999] at b4
    rw [hsk, i0, i99] at b5
    have bm := rI.mp (more_t (t := (twR mi c0 c1 c2)) (u := (puR mi p)) (s := s) (hp := hp) false)
    simp only [if_true, i0, i99, Bool.false_eq_true, if_false] at bm
    have e3 : cl 0 99 (mi 91 (10 * p + 8) + 1) = fmin 99 ((puR mi p).2.2.1 + 1) := cl_min (by rw [show mi 91 (10 * p + 8) = (puR mi p).2.2.1 from rfl, add_t (by omega) (by decide), show (1 : Int32).toInt = 1 from rfl]; omega)
    have e4 : cl 0 999 (mi 91 (10 * p + 9) + 0) = (puR mi p).2.2.2.1 := (by rw [Int32.add_zero]; exact cl_id a4)
    have e5 : cl 0 99 (mi 91 (10 * p + s) + (leG (twR mi c0 c1 c2) (puR mi p) s hp)) = fmin 99 ((puR mi p).2.2.2.2 s + (leG (twR mi c0 c1 c2) (puR mi p) s hp)) := by rw [hsk]; exact cl_min (by rw [add_t (by omega) (by omega)]; omega)
    rw [e3, e4, e5]
    all_goals first | rfl | simp
  · have c_1 : ¬ (hp = 2) := of_decide_eq_false c_1
    refine wp_steps 3 (t' := (12, [some (.ref 84), some (.int (nI p)), some (.int (nI s)), some (.int hp), some (.int (leG (twR mi c0 c1 c2) (puR mi p) s hp)), none], [.int (nI s), .int (nI p), .ref 84], (HD, m_1, w_1, mr))) rfl ?_
    refine wp_calv (as := [.int (nI p), .int (nI s)]) rfl rfl rfl (Nat.le_of_ble_eq_true rfl) ⟨by decide, rfl⟩ ((r_manages (mi := m_1) (ml := w_1) hM (hR.Y f1) hp5 hs)) (by decide) ?_
    rintro _ _ ⟨rfl, m_2, w_2, rfl, f2⟩
    rw [twR_Y f1, puR_Y f1]
    show aWP _ _ (13, [some (.ref 84), some (.int (nI p)), some (.int (nI s)), some (.int hp), some (.int (leG (twR mi c0 c1 c2) (puR mi p) s hp)), none], [.int (if maG (twR mi c0 c1 c2) (puR mi p) s < 0 then (0 : Int32) else 1)], (HD, m_2, w_2, mr)) _
    refine wp_bI rfl (fun c_10 => ?_) (fun c_10 => ?_)
    · have c_10 : ¬ (if maG (twR mi c0 c1 c2) (puR mi p) s < 0 then (0 : Int32) else 1) = 0 := of_decide_eq_true c_10
      refine wp_steps 3 (t' := (19, [some (.ref 84), some (.int (nI p)), some (.int (nI s)), some (.int hp), some (.int (leG (twR mi c0 c1 c2) (puR mi p) s hp)), some (.int 0)], [.ref 84], (HD, m_2, w_2, mr))) rfl ?_
      refine wp_getr rfl ⟨by decide, rfl⟩ rfl (hM (84, 11, 91) (by decide)) ?_
      refine wp_steps 2 (t' := (22, [some (.ref 84), some (.int (nI p)), some (.int (nI s)), some (.int hp), some (.int (leG (twR mi c0 c1 c2) (puR mi p) s hp)), some (.int 0)], [.int (nI s), .int (nI p), .ref 91], (HD, m_2, w_2, mr))) rfl ?_
      refine wp_cal (as := [.int (nI p), .int (nI s)]) rfl rfl rfl (Nat.le_of_ble_eq_true rfl) ((c_rat_n (p := p) (s := s))) (by decide) ?_
      rintro _ _ ⟨rfl, rfl⟩
      show aWP _ _ (23, [some (.ref 84), some (.int (nI p)), some (.int (nI s)), some (.int hp), some (.int (leG (twR mi c0 c1 c2) (puR mi p) s hp)), some (.int 0)], [.int (nI (10 * p + s)), .ref 91], (HD, m_2, w_2, mr)) _
      refine wp_steps 1 (t' := (24, [some (.ref 84), some (.int (nI p)), some (.int (nI s)), some (.int hp), some (.int (leG (twR mi c0 c1 c2) (puR mi p) s hp)), some (.int 0)], [.ref 84, .int (nI (10 * p + s)), .ref 91], (HD, m_2, w_2, mr))) rfl ?_
      refine wp_getr rfl ⟨by decide, rfl⟩ rfl (hM (84, 11, 91) (by decide)) ?_
      refine wp_steps 2 (t' := (27, [some (.ref 84), some (.int (nI p)), some (.int (nI s)), some (.int hp), some (.int (leG (twR mi c0 c1 c2) (puR mi p) s hp)), some (.int 0)], [.int (nI s), .int (nI p), .ref 91, .int (nI (10 * p + s)), .ref 91], (HD, m_2, w_2, mr))) rfl ?_
      refine wp_cal (as := [.int (nI p), .int (nI s)]) rfl rfl rfl (Nat.le_of_ble_eq_true rfl) ((c_rat_n (p := p) (s := s))) (by decide) ?_
      rintro _ _ ⟨rfl, rfl⟩
      show aWP _ _ (28, [some (.ref 84), some (.int (nI p)), some (.int (nI s)), some (.int hp), some (.int (leG (twR mi c0 c1 c2) (puR mi p) s hp)), some (.int 0)], [.int (nI (10 * p + s)), .ref 91, .int (nI (10 * p + s)), .ref 91], (HD, m_2, w_2, mr)) _
      refine wp_iald rfl ⟨by decide, rfl⟩ (aix_nI (by omega) (by decide)) ?_
      rw [nI_clamp (n := 10 * p + s) (by omega)]
      refine wp_steps 1 (t' := (30, [some (.ref 84), some (.int (nI p)), some (.int (nI s)), some (.int hp), some (.int (leG (twR mi c0 c1 c2) (puR mi p) s hp)), some (.int 0)], [.int 0, .int (m_2 91 (10 * p + s)), .int (nI (10 * p + s)), .ref 91], (HD, m_2, w_2, mr))) rfl ?_
      refine wp_bI rfl (fun c_11 => ?_) (fun c_11 => ?_)
      rotate_left
      · have c_11 : ¬ ((0 : Int32) = 0) := of_decide_eq_false c_11
        exact absurd c_11 (by decide)
      have c_11 : (0 : Int32) = 0 := of_decide_eq_true c_11
      refine wp_steps 4 (t' := (39, [some (.ref 84), some (.int (nI p)), some (.int (nI s)), some (.int hp), some (.int (leG (twR mi c0 c1 c2) (puR mi p) s hp)), some (.int 0)], [.int 99, .int 0, .int ((m_2 91 (10 * p + s)) + (leG (twR mi c0 c1 c2) (puR mi p) s hp)), .int (nI (10 * p + s)), .ref 91], (HD, m_2, w_2, mr))) rfl ?_
      refine wp_cal (as := [.int ((m_2 91 (10 * p + s)) + (leG (twR mi c0 c1 c2) (puR mi p) s hp)), .int 0, .int 99]) rfl rfl rfl (Nat.le_of_ble_eq_true rfl) ((c_within (v := (m_2 91 (10 * p + s)) + (leG (twR mi c0 c1 c2) (puR mi p) s hp)) (lo := 0) (hi := 99) (by decide))) (by decide) ?_
      rintro _ _ ⟨rfl, rfl⟩
      show aWP _ _ (40, [some (.ref 84), some (.int (nI p)), some (.int (nI s)), some (.int hp), some (.int (leG (twR mi c0 c1 c2) (puR mi p) s hp)), some (.int 0)], [.int (cl 0 99 ((m_2 91 (10 * p + s)) + (leG (twR mi c0 c1 c2) (puR mi p) s hp))), .int (nI (10 * p + s)), .ref 91], (HD, m_2, w_2, mr)) _
      refine wp_iast rfl ⟨by decide, rfl⟩ (aix_nI (by omega) (by decide)) (fun m_12 h_13 => ?_)
      subst h_13
      rw [nI_clamp (n := 10 * p + s) (by omega)]
      refine wp_steps 1 (t' := (42, [some (.ref 84), some (.int (nI p)), some (.int (nI s)), some (.int hp), some (.int (leG (twR mi c0 c1 c2) (puR mi p) s hp)), some (.int 0)], [.ref 84], (HD, (aup m_2 91 (10 * p + s) (cl 0 99 ((m_2 91 (10 * p + s)) + (leG (twR mi c0 c1 c2) (puR mi p) s hp)))), w_2, mr))) rfl ?_
      refine wp_getr rfl ⟨by decide, rfl⟩ rfl (hM (84, 11, 91) (by decide)) ?_
      refine wp_steps 2 (t' := (45, [some (.ref 84), some (.int (nI p)), some (.int (nI s)), some (.int hp), some (.int (leG (twR mi c0 c1 c2) (puR mi p) s hp)), some (.int 0)], [.int 9, .int (nI p), .ref 91], (HD, (aup m_2 91 (10 * p + s) (cl 0 99 ((m_2 91 (10 * p + s)) + (leG (twR mi c0 c1 c2) (puR mi p) s hp)))), w_2, mr))) rfl ?_
      refine wp_cal (as := [.int (nI p), .int 9]) rfl rfl rfl (Nat.le_of_ble_eq_true rfl) ((c_rat_n (p := p) (s := 9))) (by decide) ?_
      rintro _ _ ⟨rfl, rfl⟩
      show aWP _ _ (46, [some (.ref 84), some (.int (nI p)), some (.int (nI s)), some (.int hp), some (.int (leG (twR mi c0 c1 c2) (puR mi p) s hp)), some (.int 0)], [.int (nI (10 * p + 9)), .ref 91], (HD, (aup m_2 91 (10 * p + s) (cl 0 99 ((m_2 91 (10 * p + s)) + (leG (twR mi c0 c1 c2) (puR mi p) s hp)))), w_2, mr)) _
      refine wp_steps 1 (t' := (47, [some (.ref 84), some (.int (nI p)), some (.int (nI s)), some (.int hp), some (.int (leG (twR mi c0 c1 c2) (puR mi p) s hp)), some (.int 0)], [.ref 84, .int (nI (10 * p + 9)), .ref 91], (HD, (aup m_2 91 (10 * p + s) (cl 0 99 ((m_2 91 (10 * p + s)) + (leG (twR mi c0 c1 c2) (puR mi p) s hp)))), w_2, mr))) rfl ?_
      refine wp_getr rfl ⟨by decide, rfl⟩ rfl (hM (84, 11, 91) (by decide)) ?_
      refine wp_steps 2 (t' := (50, [some (.ref 84), some (.int (nI p)), some (.int (nI s)), some (.int hp), some (.int (leG (twR mi c0 c1 c2) (puR mi p) s hp)), some (.int 0)], [.int 9, .int (nI p), .ref 91, .int (nI (10 * p + 9)), .ref 91], (HD, (aup m_2 91 (10 * p + s) (cl 0 99 ((m_2 91 (10 * p + s)) + (leG (twR mi c0 c1 c2) (puR mi p) s hp)))), w_2, mr))) rfl ?_
      refine wp_cal (as := [.int (nI p), .int 9]) rfl rfl rfl (Nat.le_of_ble_eq_true rfl) ((c_rat_n (p := p) (s := 9))) (by decide) ?_
      rintro _ _ ⟨rfl, rfl⟩
      show aWP _ _ (51, [some (.ref 84), some (.int (nI p)), some (.int (nI s)), some (.int hp), some (.int (leG (twR mi c0 c1 c2) (puR mi p) s hp)), some (.int 0)], [.int (nI (10 * p + 9)), .ref 91, .int (nI (10 * p + 9)), .ref 91], (HD, (aup m_2 91 (10 * p + s) (cl 0 99 ((m_2 91 (10 * p + s)) + (leG (twR mi c0 c1 c2) (puR mi p) s hp)))), w_2, mr)) _
      refine wp_iald rfl ⟨by decide, rfl⟩ (aix_nI (by omega) (by decide)) ?_
      rw [nI_clamp (n := 10 * p + 9) (by omega)]
      refine wp_steps 1 (t' := (53, [some (.ref 84), some (.int (nI p)), some (.int (nI s)), some (.int hp), some (.int (leG (twR mi c0 c1 c2) (puR mi p) s hp)), some (.int 0)], [.int 0, .int ((aup m_2 91 (10 * p + s) (cl 0 99 ((m_2 91 (10 * p + s)) + (leG (twR mi c0 c1 c2) (puR mi p) s hp)))) 91 (10 * p + 9)), .int (nI (10 * p + 9)), .ref 91], (HD, (aup m_2 91 (10 * p + s) (cl 0 99 ((m_2 91 (10 * p + s)) + (leG (twR mi c0 c1 c2) (puR mi p) s hp)))), w_2, mr))) rfl ?_
      refine wp_bI rfl (fun c_14 => ?_) (fun c_14 => ?_)
      rotate_left
      · have c_14 : ¬ ((0 : Int32) = 0) := of_decide_eq_false c_14
        exact absurd c_14 (by decide)
      have c_14 : (0 : Int32) = 0 := of_decide_eq_true c_14
      refine wp_steps 4 (t' := (60, [some (.ref 84), some (.int (nI p)), some (.int (nI s)), some (.int hp), some (.int (leG (twR mi c0 c1 c2) (puR mi p) s hp)), some (.int 0)], [.int 999, .int 0, .int (((aup m_2 91 (10 * p + s) (cl 0 99 ((m_2 91 (10 * p + s)) + (leG (twR mi c0 c1 c2) (puR mi p) s hp)))) 91 (10 * p + 9)) + 0), .int (nI (10 * p + 9)), .ref 91], (HD, (aup m_2 91 (10 * p + s) (cl 0 99 ((m_2 91 (10 * p + s)) + (leG (twR mi c0 c1 c2) (puR mi p) s hp)))), w_2, mr))) rfl ?_
      refine wp_cal (as := [.int (((aup m_2 91 (10 * p + s) (cl 0 99 ((m_2 91 (10 * p + s)) + (leG (twR mi c0 c1 c2) (puR mi p) s hp)))) 91 (10 * p + 9)) + 0), .int 0, .int 999]) rfl rfl rfl (Nat.le_of_ble_eq_true rfl) ((c_within (v := ((aup m_2 91 (10 * p + s) (cl 0 99 ((m_2 91 (10 * p + s)) + (leG (twR mi c0 c1 c2) (puR mi p) s hp)))) 91 (10 * p + 9)) + 0) (lo := 0) (hi := 999) (by decide))) (by decide) ?_
      rintro _ _ ⟨rfl, rfl⟩
      show aWP _ _ (61, [some (.ref 84), some (.int (nI p)), some (.int (nI s)), some (.int hp), some (.int (leG (twR mi c0 c1 c2) (puR mi p) s hp)), some (.int 0)], [.int (cl 0 999 (((aup m_2 91 (10 * p + s) (cl 0 99 ((m_2 91 (10 * p + s)) + (leG (twR mi c0 c1 c2) (puR mi p) s hp)))) 91 (10 * p + 9)) + 0)), .int (nI (10 * p + 9)), .ref 91], (HD, (aup m_2 91 (10 * p + s) (cl 0 99 ((m_2 91 (10 * p + s)) + (leG (twR mi c0 c1 c2) (puR mi p) s hp)))), w_2, mr)) _
      refine wp_iast rfl ⟨by decide, rfl⟩ (aix_nI (by omega) (by decide)) (fun m_15 h_16 => ?_)
      subst h_16
      rw [nI_clamp (n := 10 * p + 9) (by omega)]
      refine wp_steps 1 (t' := (63, [some (.ref 84), some (.int (nI p)), some (.int (nI s)), some (.int hp), some (.int (leG (twR mi c0 c1 c2) (puR mi p) s hp)), some (.int 0)], [.ref 84], (HD, (aup (aup m_2 91 (10 * p + s) (cl 0 99 ((m_2 91 (10 * p + s)) + (leG (twR mi c0 c1 c2) (puR mi p) s hp)))) 91 (10 * p + 9) (cl 0 999 (((aup m_2 91 (10 * p + s) (cl 0 99 ((m_2 91 (10 * p + s)) + (leG (twR mi c0 c1 c2) (puR mi p) s hp)))) 91 (10 * p + 9)) + 0))), w_2, mr))) rfl ?_
      refine wp_getr rfl ⟨by decide, rfl⟩ rfl (hM (84, 11, 91) (by decide)) ?_
      refine wp_steps 2 (t' := (66, [some (.ref 84), some (.int (nI p)), some (.int (nI s)), some (.int hp), some (.int (leG (twR mi c0 c1 c2) (puR mi p) s hp)), some (.int 0)], [.int 8, .int (nI p), .ref 91], (HD, (aup (aup m_2 91 (10 * p + s) (cl 0 99 ((m_2 91 (10 * p + s)) + (leG (twR mi c0 c1 c2) (puR mi p) s hp)))) 91 (10 * p + 9) (cl 0 999 (((aup m_2 91 (10 * p + s) (cl 0 99 ((m_2 91 (10 * p + s)) + (leG (twR mi c0 c1 c2) (puR mi p) s hp)))) 91 (10 * p + 9)) + 0))), w_2, mr))) rfl ?_
      refine wp_cal (as := [.int (nI p), .int 8]) rfl rfl rfl (Nat.le_of_ble_eq_true rfl) ((c_rat_n (p := p) (s := 8))) (by decide) ?_
      rintro _ _ ⟨rfl, rfl⟩
      show aWP _ _ (67, [some (.ref 84), some (.int (nI p)), some (.int (nI s)), some (.int hp), some (.int (leG (twR mi c0 c1 c2) (puR mi p) s hp)), some (.int 0)], [.int (nI (10 * p + 8)), .ref 91], (HD, (aup (aup m_2 91 (10 * p + s) (cl 0 99 ((m_2 91 (10 * p + s)) + (leG (twR mi c0 c1 c2) (puR mi p) s hp)))) 91 (10 * p + 9) (cl 0 999 (((aup m_2 91 (10 * p + s) (cl 0 99 ((m_2 91 (10 * p + s)) + (leG (twR mi c0 c1 c2) (puR mi p) s hp)))) 91 (10 * p + 9)) + 0))), w_2, mr)) _
      refine wp_steps 1 (t' := (68, [some (.ref 84), some (.int (nI p)), some (.int (nI s)), some (.int hp), some (.int (leG (twR mi c0 c1 c2) (puR mi p) s hp)), some (.int 0)], [.ref 84, .int (nI (10 * p + 8)), .ref 91], (HD, (aup (aup m_2 91 (10 * p + s) (cl 0 99 ((m_2 91 (10 * p + s)) + (leG (twR mi c0 c1 c2) (puR mi p) s hp)))) 91 (10 * p + 9) (cl 0 999 (((aup m_2 91 (10 * p + s) (cl 0 99 ((m_2 91 (10 * p + s)) + (leG (twR mi c0 c1 c2) (puR mi p) s hp)))) 91 (10 * p + 9)) + 0))), w_2, mr))) rfl ?_
      refine wp_getr rfl ⟨by decide, rfl⟩ rfl (hM (84, 11, 91) (by decide)) ?_
      refine wp_steps 2 (t' := (71, [some (.ref 84), some (.int (nI p)), some (.int (nI s)), some (.int hp), some (.int (leG (twR mi c0 c1 c2) (puR mi p) s hp)), some (.int 0)], [.int 8, .int (nI p), .ref 91, .int (nI (10 * p + 8)), .ref 91], (HD, (aup (aup m_2 91 (10 * p + s) (cl 0 99 ((m_2 91 (10 * p + s)) + (leG (twR mi c0 c1 c2) (puR mi p) s hp)))) 91 (10 * p + 9) (cl 0 999 (((aup m_2 91 (10 * p + s) (cl 0 99 ((m_2 91 (10 * p + s)) + (leG (twR mi c0 c1 c2) (puR mi p) s hp)))) 91 (10 * p + 9)) + 0))), w_2, mr))) rfl ?_
      refine wp_cal (as := [.int (nI p), .int 8]) rfl rfl rfl (Nat.le_of_ble_eq_true rfl) ((c_rat_n (p := p) (s := 8))) (by decide) ?_
      rintro _ _ ⟨rfl, rfl⟩
      show aWP _ _ (72, [some (.ref 84), some (.int (nI p)), some (.int (nI s)), some (.int hp), some (.int (leG (twR mi c0 c1 c2) (puR mi p) s hp)), some (.int 0)], [.int (nI (10 * p + 8)), .ref 91, .int (nI (10 * p + 8)), .ref 91], (HD, (aup (aup m_2 91 (10 * p + s) (cl 0 99 ((m_2 91 (10 * p + s)) + (leG (twR mi c0 c1 c2) (puR mi p) s hp)))) 91 (10 * p + 9) (cl 0 999 (((aup m_2 91 (10 * p + s) (cl 0 99 ((m_2 91 (10 * p + s)) + (leG (twR mi c0 c1 c2) (puR mi p) s hp)))) 91 (10 * p + 9)) + 0))), w_2, mr)) _
      refine wp_iald rfl ⟨by decide, rfl⟩ (aix_nI (by omega) (by decide)) ?_
      rw [nI_clamp (n := 10 * p + 8) (by omega)]
      refine wp_steps 4 (t' := (77, [some (.ref 84), some (.int (nI p)), some (.int (nI s)), some (.int hp), some (.int (leG (twR mi c0 c1 c2) (puR mi p) s hp)), some (.int 0)], [.int 99, .int 0, .int (((aup (aup m_2 91 (10 * p + s) (cl 0 99 ((m_2 91 (10 * p + s)) + (leG (twR mi c0 c1 c2) (puR mi p) s hp)))) 91 (10 * p + 9) (cl 0 999 (((aup m_2 91 (10 * p + s) (cl 0 99 ((m_2 91 (10 * p + s)) + (leG (twR mi c0 c1 c2) (puR mi p) s hp)))) 91 (10 * p + 9)) + 0))) 91 (10 * p + 8)) + 1), .int (nI (10 * p + 8)), .ref 91], (HD, (aup (aup m_2 91 (10 * p + s) (cl 0 99 ((m_2 91 (10 * p + s)) + (leG (twR mi c0 c1 c2) (puR mi p) s hp)))) 91 (10 * p + 9) (cl 0 999 (((aup m_2 91 (10 * p + s) (cl 0 99 ((m_2 91 (10 * p + s)) + (leG (twR mi c0 c1 c2) (puR mi p) s hp)))) 91 (10 * p + 9)) + 0))), w_2, mr))) rfl ?_
      refine wp_cal (as := [.int (((aup (aup m_2 91 (10 * p + s) (cl 0 99 ((m_2 91 (10 * p + s)) + (leG (twR mi c0 c1 c2) (puR mi p) s hp)))) 91 (10 * p + 9) (cl 0 999 (((aup m_2 91 (10 * p + s) (cl 0 99 ((m_2 91 (10 * p + s)) + (leG (twR mi c0 c1 c2) (puR mi p) s hp)))) 91 (10 * p + 9)) + 0))) 91 (10 * p + 8)) + 1), .int 0, .int 99]) rfl rfl rfl (Nat.le_of_ble_eq_true rfl) ((c_within (v := ((aup (aup m_2 91 (10 * p + s) (cl 0 99 ((m_2 91 (10 * p + s)) + (leG (twR mi c0 c1 c2) (puR mi p) s hp)))) 91 (10 * p + 9) (cl 0 999 (((aup m_2 91 (10 * p + s) (cl 0 99 ((m_2 91 (10 * p + s)) + (leG (twR mi c0 c1 c2) (puR mi p) s hp)))) 91 (10 * p + 9)) + 0))) 91 (10 * p + 8)) + 1) (lo := 0) (hi := 99) (by decide))) (by decide) ?_
      rintro _ _ ⟨rfl, rfl⟩
      show aWP _ _ (78, [some (.ref 84), some (.int (nI p)), some (.int (nI s)), some (.int hp), some (.int (leG (twR mi c0 c1 c2) (puR mi p) s hp)), some (.int 0)], [.int (cl 0 99 (((aup (aup m_2 91 (10 * p + s) (cl 0 99 ((m_2 91 (10 * p + s)) + (leG (twR mi c0 c1 c2) (puR mi p) s hp)))) 91 (10 * p + 9) (cl 0 999 (((aup m_2 91 (10 * p + s) (cl 0 99 ((m_2 91 (10 * p + s)) + (leG (twR mi c0 c1 c2) (puR mi p) s hp)))) 91 (10 * p + 9)) + 0))) 91 (10 * p + 8)) + 1)), .int (nI (10 * p + 8)), .ref 91], (HD, (aup (aup m_2 91 (10 * p + s) (cl 0 99 ((m_2 91 (10 * p + s)) + (leG (twR mi c0 c1 c2) (puR mi p) s hp)))) 91 (10 * p + 9) (cl 0 999 (((aup m_2 91 (10 * p + s) (cl 0 99 ((m_2 91 (10 * p + s)) + (leG (twR mi c0 c1 c2) (puR mi p) s hp)))) 91 (10 * p + 9)) + 0))), w_2, mr)) _
      refine wp_iast rfl ⟨by decide, rfl⟩ (aix_nI (by omega) (by decide)) (fun m_17 h_18 => ?_)
      subst h_18
      rw [nI_clamp (n := 10 * p + 8) (by omega)]
      refine wp_ret rfl rfl ⟨⟨Nat.le_refl _, Nat.le_refl _⟩, ?_⟩
      have q : ¬ maG (twR mi c0 c1 c2) (puR mi p) s < 0 := fun z => c_10 (if_pos z)
      have eb : buF (maG (twR mi c0 c1 c2) (puR mi p) s) hp = false := by unfold buF; simp [q]
      have fY := (f1.tr f2)
      have r91 := fY.row (k := 91) (by decide)
      have n9 : ¬ 10 * p + 9 = 10 * p + s := by omega
      have n8 : ¬ 10 * p + 8 = 10 * p + s := by omega
      have n89 : ¬ 10 * p + 8 = 10 * p + 9 := by omega
      refine ⟨rfl, _, _, rfl, ((fY.U.tr (frU.up (by omega) (by omega) _)).tr (frU.up (by omega) (by omega) _)).tr (frU.up (by omega) (by omega) _), ?_⟩
      rw [drv_pu fY hs]
      unfold hrG
      rw [eb]
      simp only [aup, if_neg n9, if_neg n8, if_neg n89, r91, if_true]
      have hsk : (puR mi p).2.2.2.2 s = mi 91 (10 * p + s) := by show c8 (fun j => mi 91 (10 * p + j)) s = _; exact c8_lt hs
      obtain ⟨a1, a2, a3, a4, a5⟩ := hok
      have b3 := rI.mp a3
      have b4 := rI.mp a4
      have b5 := rI.mp (a5 s hs)
      rw [i0, i99] at b3
      rw [i0, i999] at b4
      rw [hsk, i0, i99] at b5
      have bm := rI.mp (more_t (t := (twR mi c0 c1 c2)) (u := (puR mi p)) (s := s) (hp := hp) false)
      simp only [if_true, i0, i99, Bool.false_eq_true, if_false] at bm
      have e3 : cl 0 99 (mi 91 (10 * p + 8) + 1) = fmin 99 ((puR mi p).2.2.1 + 1) := cl_min (by rw [show mi 91 (10 * p + 8) = (puR mi p).2.2.1 from rfl, add_t (by omega) (by decide), show (1 : Int32).toInt = 1 from rfl]; omega)
      have e4 : cl 0 999 (mi 91 (10 * p + 9) + 0) = (puR mi p).2.2.2.1 := (by rw [Int32.add_zero]; exact cl_id a4)
      have e5 : cl 0 99 (mi 91 (10 * p + s) + (leG (twR mi c0 c1 c2) (puR mi p) s hp)) = fmin 99 ((puR mi p).2.2.2.2 s + (leG (twR mi c0 c1 c2) (puR mi p) s hp)) := by rw [hsk]; exact cl_min (by rw [add_t (by omega) (by omega)]; omega)
      rw [e3, e4, e5]
      all_goals first | rfl | simp
    · have c_10 : (if maG (twR mi c0 c1 c2) (puR mi p) s < 0 then (0 : Int32) else 1) = 0 := Decidable.not_not.mp (of_decide_eq_false c_10)
      refine wp_steps 4 (t' := (19, [some (.ref 84), some (.int (nI p)), some (.int (nI s)), some (.int hp), some (.int (leG (twR mi c0 c1 c2) (puR mi p) s hp)), some (.int 1)], [.ref 84], (HD, m_2, w_2, mr))) rfl ?_
      refine wp_getr rfl ⟨by decide, rfl⟩ rfl (hM (84, 11, 91) (by decide)) ?_
      refine wp_steps 2 (t' := (22, [some (.ref 84), some (.int (nI p)), some (.int (nI s)), some (.int hp), some (.int (leG (twR mi c0 c1 c2) (puR mi p) s hp)), some (.int 1)], [.int (nI s), .int (nI p), .ref 91], (HD, m_2, w_2, mr))) rfl ?_
      refine wp_cal (as := [.int (nI p), .int (nI s)]) rfl rfl rfl (Nat.le_of_ble_eq_true rfl) ((c_rat_n (p := p) (s := s))) (by decide) ?_
      rintro _ _ ⟨rfl, rfl⟩
      show aWP _ _ (23, [some (.ref 84), some (.int (nI p)), some (.int (nI s)), some (.int hp), some (.int (leG (twR mi c0 c1 c2) (puR mi p) s hp)), some (.int 1)], [.int (nI (10 * p + s)), .ref 91], (HD, m_2, w_2, mr)) _
      refine wp_steps 1 (t' := (24, [some (.ref 84), some (.int (nI p)), some (.int (nI s)), some (.int hp), some (.int (leG (twR mi c0 c1 c2) (puR mi p) s hp)), some (.int 1)], [.ref 84, .int (nI (10 * p + s)), .ref 91], (HD, m_2, w_2, mr))) rfl ?_
      refine wp_getr rfl ⟨by decide, rfl⟩ rfl (hM (84, 11, 91) (by decide)) ?_
      refine wp_steps 2 (t' := (27, [some (.ref 84), some (.int (nI p)), some (.int (nI s)), some (.int hp), some (.int (leG (twR mi c0 c1 c2) (puR mi p) s hp)), some (.int 1)], [.int (nI s), .int (nI p), .ref 91, .int (nI (10 * p + s)), .ref 91], (HD, m_2, w_2, mr))) rfl ?_
      refine wp_cal (as := [.int (nI p), .int (nI s)]) rfl rfl rfl (Nat.le_of_ble_eq_true rfl) ((c_rat_n (p := p) (s := s))) (by decide) ?_
      rintro _ _ ⟨rfl, rfl⟩
      show aWP _ _ (28, [some (.ref 84), some (.int (nI p)), some (.int (nI s)), some (.int hp), some (.int (leG (twR mi c0 c1 c2) (puR mi p) s hp)), some (.int 1)], [.int (nI (10 * p + s)), .ref 91, .int (nI (10 * p + s)), .ref 91], (HD, m_2, w_2, mr)) _
      refine wp_iald rfl ⟨by decide, rfl⟩ (aix_nI (by omega) (by decide)) ?_
      rw [nI_clamp (n := 10 * p + s) (by omega)]
      refine wp_steps 1 (t' := (30, [some (.ref 84), some (.int (nI p)), some (.int (nI s)), some (.int hp), some (.int (leG (twR mi c0 c1 c2) (puR mi p) s hp)), some (.int 1)], [.int 1, .int (m_2 91 (10 * p + s)), .int (nI (10 * p + s)), .ref 91], (HD, m_2, w_2, mr))) rfl ?_
      refine wp_bI rfl (fun c_19 => ?_) (fun c_19 => ?_)
      · have c_19 : (1 : Int32) = 0 := of_decide_eq_true c_19
        exact absurd c_19 (by decide)
      have c_19 : ¬ ((1 : Int32) = 0) := of_decide_eq_false c_19
      refine wp_steps 7 (t' := (39, [some (.ref 84), some (.int (nI p)), some (.int (nI s)), some (.int hp), some (.int (leG (twR mi c0 c1 c2) (puR mi p) s hp)), some (.int 1)], [.int 99, .int 0, .int ((m_2 91 (10 * p + s)) + ((leG (twR mi c0 c1 c2) (puR mi p) s hp) / 2)), .int (nI (10 * p + s)), .ref 91], (HD, m_2, w_2, mr))) rfl ?_
      refine wp_cal (as := [.int ((m_2 91 (10 * p + s)) + ((leG (twR mi c0 c1 c2) (puR mi p) s hp) / 2)), .int 0, .int 99]) rfl rfl rfl (Nat.le_of_ble_eq_true rfl) ((c_within (v := (m_2 91 (10 * p + s)) + ((leG (twR mi c0 c1 c2) (puR mi p) s hp) / 2)) (lo := 0) (hi := 99) (by decide))) (by decide) ?_
      rintro _ _ ⟨rfl, rfl⟩
      show aWP _ _ (40, [some (.ref 84), some (.int (nI p)), some (.int (nI s)), some (.int hp), some (.int (leG (twR mi c0 c1 c2) (puR mi p) s hp)), some (.int 1)], [.int (cl 0 99 ((m_2 91 (10 * p + s)) + ((leG (twR mi c0 c1 c2) (puR mi p) s hp) / 2))), .int (nI (10 * p + s)), .ref 91], (HD, m_2, w_2, mr)) _
      refine wp_iast rfl ⟨by decide, rfl⟩ (aix_nI (by omega) (by decide)) (fun m_20 h_21 => ?_)
      subst h_21
      rw [nI_clamp (n := 10 * p + s) (by omega)]
      refine wp_steps 1 (t' := (42, [some (.ref 84), some (.int (nI p)), some (.int (nI s)), some (.int hp), some (.int (leG (twR mi c0 c1 c2) (puR mi p) s hp)), some (.int 1)], [.ref 84], (HD, (aup m_2 91 (10 * p + s) (cl 0 99 ((m_2 91 (10 * p + s)) + ((leG (twR mi c0 c1 c2) (puR mi p) s hp) / 2)))), w_2, mr))) rfl ?_
      refine wp_getr rfl ⟨by decide, rfl⟩ rfl (hM (84, 11, 91) (by decide)) ?_
      refine wp_steps 2 (t' := (45, [some (.ref 84), some (.int (nI p)), some (.int (nI s)), some (.int hp), some (.int (leG (twR mi c0 c1 c2) (puR mi p) s hp)), some (.int 1)], [.int 9, .int (nI p), .ref 91], (HD, (aup m_2 91 (10 * p + s) (cl 0 99 ((m_2 91 (10 * p + s)) + ((leG (twR mi c0 c1 c2) (puR mi p) s hp) / 2)))), w_2, mr))) rfl ?_
      refine wp_cal (as := [.int (nI p), .int 9]) rfl rfl rfl (Nat.le_of_ble_eq_true rfl) ((c_rat_n (p := p) (s := 9))) (by decide) ?_
      rintro _ _ ⟨rfl, rfl⟩
      show aWP _ _ (46, [some (.ref 84), some (.int (nI p)), some (.int (nI s)), some (.int hp), some (.int (leG (twR mi c0 c1 c2) (puR mi p) s hp)), some (.int 1)], [.int (nI (10 * p + 9)), .ref 91], (HD, (aup m_2 91 (10 * p + s) (cl 0 99 ((m_2 91 (10 * p + s)) + ((leG (twR mi c0 c1 c2) (puR mi p) s hp) / 2)))), w_2, mr)) _
      refine wp_steps 1 (t' := (47, [some (.ref 84), some (.int (nI p)), some (.int (nI s)), some (.int hp), some (.int (leG (twR mi c0 c1 c2) (puR mi p) s hp)), some (.int 1)], [.ref 84, .int (nI (10 * p + 9)), .ref 91], (HD, (aup m_2 91 (10 * p + s) (cl 0 99 ((m_2 91 (10 * p + s)) + ((leG (twR mi c0 c1 c2) (puR mi p) s hp) / 2)))), w_2, mr))) rfl ?_
      refine wp_getr rfl ⟨by decide, rfl⟩ rfl (hM (84, 11, 91) (by decide)) ?_
      refine wp_steps 2 (t' := (50, [some (.ref 84), some (.int (nI p)), some (.int (nI s)), some (.int hp), some (.int (leG (twR mi c0 c1 c2) (puR mi p) s hp)), some (.int 1)], [.int 9, .int (nI p), .ref 91, .int (nI (10 * p + 9)), .ref 91], (HD, (aup m_2 91 (10 * p + s) (cl 0 99 ((m_2 91 (10 * p + s)) + ((leG (twR mi c0 c1 c2) (puR mi p) s hp) / 2)))), w_2, mr))) rfl ?_
      refine wp_cal (as := [.int (nI p), .int 9]) rfl rfl rfl (Nat.le_of_ble_eq_true rfl) ((c_rat_n (p := p) (s := 9))) (by decide) ?_
      rintro _ _ ⟨rfl, rfl⟩
      show aWP _ _ (51, [some (.ref 84), some (.int (nI p)), some (.int (nI s)), some (.int hp), some (.int (leG (twR mi c0 c1 c2) (puR mi p) s hp)), some (.int 1)], [.int (nI (10 * p + 9)), .ref 91, .int (nI (10 * p + 9)), .ref 91], (HD, (aup m_2 91 (10 * p + s) (cl 0 99 ((m_2 91 (10 * p + s)) + ((leG (twR mi c0 c1 c2) (puR mi p) s hp) / 2)))), w_2, mr)) _
      refine wp_iald rfl ⟨by decide, rfl⟩ (aix_nI (by omega) (by decide)) ?_
      rw [nI_clamp (n := 10 * p + 9) (by omega)]
      refine wp_steps 1 (t' := (53, [some (.ref 84), some (.int (nI p)), some (.int (nI s)), some (.int hp), some (.int (leG (twR mi c0 c1 c2) (puR mi p) s hp)), some (.int 1)], [.int 1, .int ((aup m_2 91 (10 * p + s) (cl 0 99 ((m_2 91 (10 * p + s)) + ((leG (twR mi c0 c1 c2) (puR mi p) s hp) / 2)))) 91 (10 * p + 9)), .int (nI (10 * p + 9)), .ref 91], (HD, (aup m_2 91 (10 * p + s) (cl 0 99 ((m_2 91 (10 * p + s)) + ((leG (twR mi c0 c1 c2) (puR mi p) s hp) / 2)))), w_2, mr))) rfl ?_
      refine wp_bI rfl (fun c_22 => ?_) (fun c_22 => ?_)
      · have c_22 : (1 : Int32) = 0 := of_decide_eq_true c_22
        exact absurd c_22 (by decide)
      have c_22 : ¬ ((1 : Int32) = 0) := of_decide_eq_false c_22
      refine wp_steps 5 (t' := (60, [some (.ref 84), some (.int (nI p)), some (.int (nI s)), some (.int hp), some (.int (leG (twR mi c0 c1 c2) (puR mi p) s hp)), some (.int 1)], [.int 999, .int 0, .int (((aup m_2 91 (10 * p + s) (cl 0 99 ((m_2 91 (10 * p + s)) + ((leG (twR mi c0 c1 c2) (puR mi p) s hp) / 2)))) 91 (10 * p + 9)) + 1), .int (nI (10 * p + 9)), .ref 91], (HD, (aup m_2 91 (10 * p + s) (cl 0 99 ((m_2 91 (10 * p + s)) + ((leG (twR mi c0 c1 c2) (puR mi p) s hp) / 2)))), w_2, mr))) rfl ?_
      refine wp_cal (as := [.int (((aup m_2 91 (10 * p + s) (cl 0 99 ((m_2 91 (10 * p + s)) + ((leG (twR mi c0 c1 c2) (puR mi p) s hp) / 2)))) 91 (10 * p + 9)) + 1), .int 0, .int 999]) rfl rfl rfl (Nat.le_of_ble_eq_true rfl) ((c_within (v := ((aup m_2 91 (10 * p + s) (cl 0 99 ((m_2 91 (10 * p + s)) + ((leG (twR mi c0 c1 c2) (puR mi p) s hp) / 2)))) 91 (10 * p + 9)) + 1) (lo := 0) (hi := 999) (by decide))) (by decide) ?_
      rintro _ _ ⟨rfl, rfl⟩
      show aWP _ _ (61, [some (.ref 84), some (.int (nI p)), some (.int (nI s)), some (.int hp), some (.int (leG (twR mi c0 c1 c2) (puR mi p) s hp)), some (.int 1)], [.int (cl 0 999 (((aup m_2 91 (10 * p + s) (cl 0 99 ((m_2 91 (10 * p + s)) + ((leG (twR mi c0 c1 c2) (puR mi p) s hp) / 2)))) 91 (10 * p + 9)) + 1)), .int (nI (10 * p + 9)), .ref 91], (HD, (aup m_2 91 (10 * p + s) (cl 0 99 ((m_2 91 (10 * p + s)) + ((leG (twR mi c0 c1 c2) (puR mi p) s hp) / 2)))), w_2, mr)) _
      refine wp_iast rfl ⟨by decide, rfl⟩ (aix_nI (by omega) (by decide)) (fun m_23 h_24 => ?_)
      subst h_24
      rw [nI_clamp (n := 10 * p + 9) (by omega)]
      refine wp_steps 1 (t' := (63, [some (.ref 84), some (.int (nI p)), some (.int (nI s)), some (.int hp), some (.int (leG (twR mi c0 c1 c2) (puR mi p) s hp)), some (.int 1)], [.ref 84], (HD, (aup (aup m_2 91 (10 * p + s) (cl 0 99 ((m_2 91 (10 * p + s)) + ((leG (twR mi c0 c1 c2) (puR mi p) s hp) / 2)))) 91 (10 * p + 9) (cl 0 999 (((aup m_2 91 (10 * p + s) (cl 0 99 ((m_2 91 (10 * p + s)) + ((leG (twR mi c0 c1 c2) (puR mi p) s hp) / 2)))) 91 (10 * p + 9)) + 1))), w_2, mr))) rfl ?_
      refine wp_getr rfl ⟨by decide, rfl⟩ rfl (hM (84, 11, 91) (by decide)) ?_
      refine wp_steps 2 (t' := (66, [some (.ref 84), some (.int (nI p)), some (.int (nI s)), some (.int hp), some (.int (leG (twR mi c0 c1 c2) (puR mi p) s hp)), some (.int 1)], [.int 8, .int (nI p), .ref 91], (HD, (aup (aup m_2 91 (10 * p + s) (cl 0 99 ((m_2 91 (10 * p + s)) + ((leG (twR mi c0 c1 c2) (puR mi p) s hp) / 2)))) 91 (10 * p + 9) (cl 0 999 (((aup m_2 91 (10 * p + s) (cl 0 99 ((m_2 91 (10 * p + s)) + ((leG (twR mi c0 c1 c2) (puR mi p) s hp) / 2)))) 91 (10 * p + 9)) + 1))), w_2, mr))) rfl ?_
      refine wp_cal (as := [.int (nI p), .int 8]) rfl rfl rfl (Nat.le_of_ble_eq_true rfl) ((c_rat_n (p := p) (s := 8))) (by decide) ?_
      rintro _ _ ⟨rfl, rfl⟩
      show aWP _ _ (67, [some (.ref 84), some (.int (nI p)), some (.int (nI s)), some (.int hp), some (.int (leG (twR mi c0 c1 c2) (puR mi p) s hp)), some (.int 1)], [.int (nI (10 * p + 8)), .ref 91], (HD, (aup (aup m_2 91 (10 * p + s) (cl 0 99 ((m_2 91 (10 * p + s)) + ((leG (twR mi c0 c1 c2) (puR mi p) s hp) / 2)))) 91 (10 * p + 9) (cl 0 999 (((aup m_2 91 (10 * p + s) (cl 0 99 ((m_2 91 (10 * p + s)) + ((leG (twR mi c0 c1 c2) (puR mi p) s hp) / 2)))) 91 (10 * p + 9)) + 1))), w_2, mr)) _
      refine wp_steps 1 (t' := (68, [some (.ref 84), some (.int (nI p)), some (.int (nI s)), some (.int hp), some (.int (leG (twR mi c0 c1 c2) (puR mi p) s hp)), some (.int 1)], [.ref 84, .int (nI (10 * p + 8)), .ref 91], (HD, (aup (aup m_2 91 (10 * p + s) (cl 0 99 ((m_2 91 (10 * p + s)) + ((leG (twR mi c0 c1 c2) (puR mi p) s hp) / 2)))) 91 (10 * p + 9) (cl 0 999 (((aup m_2 91 (10 * p + s) (cl 0 99 ((m_2 91 (10 * p + s)) + ((leG (twR mi c0 c1 c2) (puR mi p) s hp) / 2)))) 91 (10 * p + 9)) + 1))), w_2, mr))) rfl ?_
      refine wp_getr rfl ⟨by decide, rfl⟩ rfl (hM (84, 11, 91) (by decide)) ?_
      refine wp_steps 2 (t' := (71, [some (.ref 84), some (.int (nI p)), some (.int (nI s)), some (.int hp), some (.int (leG (twR mi c0 c1 c2) (puR mi p) s hp)), some (.int 1)], [.int 8, .int (nI p), .ref 91, .int (nI (10 * p + 8)), .ref 91], (HD, (aup (aup m_2 91 (10 * p + s) (cl 0 99 ((m_2 91 (10 * p + s)) + ((leG (twR mi c0 c1 c2) (puR mi p) s hp) / 2)))) 91 (10 * p + 9) (cl 0 999 (((aup m_2 91 (10 * p + s) (cl 0 99 ((m_2 91 (10 * p + s)) + ((leG (twR mi c0 c1 c2) (puR mi p) s hp) / 2)))) 91 (10 * p + 9)) + 1))), w_2, mr))) rfl ?_
      refine wp_cal (as := [.int (nI p), .int 8]) rfl rfl rfl (Nat.le_of_ble_eq_true rfl) ((c_rat_n (p := p) (s := 8))) (by decide) ?_
      rintro _ _ ⟨rfl, rfl⟩
      show aWP _ _ (72, [some (.ref 84), some (.int (nI p)), some (.int (nI s)), some (.int hp), some (.int (leG (twR mi c0 c1 c2) (puR mi p) s hp)), some (.int 1)], [.int (nI (10 * p + 8)), .ref 91, .int (nI (10 * p + 8)), .ref 91], (HD, (aup (aup m_2 91 (10 * p + s) (cl 0 99 ((m_2 91 (10 * p + s)) + ((leG (twR mi c0 c1 c2) (puR mi p) s hp) / 2)))) 91 (10 * p + 9) (cl 0 999 (((aup m_2 91 (10 * p + s) (cl 0 99 ((m_2 91 (10 * p + s)) + ((leG (twR mi c0 c1 c2) (puR mi p) s hp) / 2)))) 91 (10 * p + 9)) + 1))), w_2, mr)) _
      refine wp_iald rfl ⟨by decide, rfl⟩ (aix_nI (by omega) (by decide)) ?_
      rw [nI_clamp (n := 10 * p + 8) (by omega)]
      refine wp_steps 4 (t' := (77, [some (.ref 84), some (.int (nI p)), some (.int (nI s)), some (.int hp), some (.int (leG (twR mi c0 c1 c2) (puR mi p) s hp)), some (.int 1)], [.int 99, .int 0, .int (((aup (aup m_2 91 (10 * p + s) (cl 0 99 ((m_2 91 (10 * p + s)) + ((leG (twR mi c0 c1 c2) (puR mi p) s hp) / 2)))) 91 (10 * p + 9) (cl 0 999 (((aup m_2 91 (10 * p + s) (cl 0 99 ((m_2 91 (10 * p + s)) + ((leG (twR mi c0 c1 c2) (puR mi p) s hp) / 2)))) 91 (10 * p + 9)) + 1))) 91 (10 * p + 8)) + 1), .int (nI (10 * p + 8)), .ref 91], (HD, (aup (aup m_2 91 (10 * p + s) (cl 0 99 ((m_2 91 (10 * p + s)) + ((leG (twR mi c0 c1 c2) (puR mi p) s hp) / 2)))) 91 (10 * p + 9) (cl 0 999 (((aup m_2 91 (10 * p + s) (cl 0 99 ((m_2 91 (10 * p + s)) + ((leG (twR mi c0 c1 c2) (puR mi p) s hp) / 2)))) 91 (10 * p + 9)) + 1))), w_2, mr))) rfl ?_
      refine wp_cal (as := [.int (((aup (aup m_2 91 (10 * p + s) (cl 0 99 ((m_2 91 (10 * p + s)) + ((leG (twR mi c0 c1 c2) (puR mi p) s hp) / 2)))) 91 (10 * p + 9) (cl 0 999 (((aup m_2 91 (10 * p + s) (cl 0 99 ((m_2 91 (10 * p + s)) + ((leG (twR mi c0 c1 c2) (puR mi p) s hp) / 2)))) 91 (10 * p + 9)) + 1))) 91 (10 * p + 8)) + 1), .int 0, .int 99]) rfl rfl rfl (Nat.le_of_ble_eq_true rfl) ((c_within (v := ((aup (aup m_2 91 (10 * p + s) (cl 0 99 ((m_2 91 (10 * p + s)) + ((leG (twR mi c0 c1 c2) (puR mi p) s hp) / 2)))) 91 (10 * p + 9) (cl 0 999 (((aup m_2 91 (10 * p + s) (cl 0 99 ((m_2 91 (10 * p + s)) + ((leG (twR mi c0 c1 c2) (puR mi p) s hp) / 2)))) 91 (10 * p + 9)) + 1))) 91 (10 * p + 8)) + 1) (lo := 0) (hi := 99) (by decide))) (by decide) ?_
      rintro _ _ ⟨rfl, rfl⟩
      show aWP _ _ (78, [some (.ref 84), some (.int (nI p)), some (.int (nI s)), some (.int hp), some (.int (leG (twR mi c0 c1 c2) (puR mi p) s hp)), some (.int 1)], [.int (cl 0 99 (((aup (aup m_2 91 (10 * p + s) (cl 0 99 ((m_2 91 (10 * p + s)) + ((leG (twR mi c0 c1 c2) (puR mi p) s hp) / 2)))) 91 (10 * p + 9) (cl 0 999 (((aup m_2 91 (10 * p + s) (cl 0 99 ((m_2 91 (10 * p + s)) + ((leG (twR mi c0 c1 c2) (puR mi p) s hp) / 2)))) 91 (10 * p + 9)) + 1))) 91 (10 * p + 8)) + 1)), .int (nI (10 * p + 8)), .ref 91], (HD, (aup (aup m_2 91 (10 * p + s) (cl 0 99 ((m_2 91 (10 * p + s)) + ((leG (twR mi c0 c1 c2) (puR mi p) s hp) / 2)))) 91 (10 * p + 9) (cl 0 999 (((aup m_2 91 (10 * p + s) (cl 0 99 ((m_2 91 (10 * p + s)) + ((leG (twR mi c0 c1 c2) (puR mi p) s hp) / 2)))) 91 (10 * p + 9)) + 1))), w_2, mr)) _
      refine wp_iast rfl ⟨by decide, rfl⟩ (aix_nI (by omega) (by decide)) (fun m_25 h_26 => ?_)
      subst h_26
      rw [nI_clamp (n := 10 * p + 8) (by omega)]
      refine wp_ret rfl rfl ⟨⟨Nat.le_refl _, Nat.le_refl _⟩, ?_⟩
      have q : maG (twR mi c0 c1 c2) (puR mi p) s < 0 := Decidable.byContradiction fun z => absurd ((if_neg z).symm.trans c_10) (by decide)
      have eb : buF (maG (twR mi c0 c1 c2) (puR mi p) s) hp = true := by unfold buF; simp [c_1, q]
      have fY := (f1.tr f2)
      have r91 := fY.row (k := 91) (by decide)
      have n9 : ¬ 10 * p + 9 = 10 * p + s := by omega
      have n8 : ¬ 10 * p + 8 = 10 * p + s := by omega
      have n89 : ¬ 10 * p + 8 = 10 * p + 9 := by omega
      refine ⟨rfl, _, _, rfl, ((fY.U.tr (frU.up (by omega) (by omega) _)).tr (frU.up (by omega) (by omega) _)).tr (frU.up (by omega) (by omega) _), ?_⟩
      rw [drv_pu fY hs]
      unfold hrG
      rw [eb]
      simp only [aup, if_neg n9, if_neg n8, if_neg n89, r91, if_true]
      have hsk : (puR mi p).2.2.2.2 s = mi 91 (10 * p + s) := by show c8 (fun j => mi 91 (10 * p + j)) s = _; exact c8_lt hs
      obtain ⟨a1, a2, a3, a4, a5⟩ := hok
      have b3 := rI.mp a3
      have b4 := rI.mp a4
      have b5 := rI.mp (a5 s hs)
      rw [i0, i99] at b3
      rw [i0, i999] at b4
      rw [hsk, i0, i99] at b5
      have bm := rI.mp (more_t (t := (twR mi c0 c1 c2)) (u := (puR mi p)) (s := s) (hp := hp) true)
      simp only [if_true, i0, i99, Bool.false_eq_true, if_false] at bm
      have e3 : cl 0 99 (mi 91 (10 * p + 8) + 1) = fmin 99 ((puR mi p).2.2.1 + 1) := cl_min (by rw [show mi 91 (10 * p + 8) = (puR mi p).2.2.1 from rfl, add_t (by omega) (by decide), show (1 : Int32).toInt = 1 from rfl]; omega)
      have e4 : cl 0 999 (mi 91 (10 * p + 9) + 1) = fmin 999 ((puR mi p).2.2.2.1 + 1) := cl_min (by rw [show mi 91 (10 * p + 9) = (puR mi p).2.2.2.1 from rfl, add_t (by omega) (by decide), show (1 : Int32).toInt = 1 from rfl]; omega)
      have e5 : cl 0 99 (mi 91 (10 * p + s) + (leG (twR mi c0 c1 c2) (puR mi p) s hp / 2)) = fmin 99 ((puR mi p).2.2.2.2 s + (leG (twR mi c0 c1 c2) (puR mi p) s hp / 2)) := by rw [hsk]; exact cl_min (by rw [add_t (by omega) (by omega)]; omega)
      rw [e3, e4, e5]
      all_goals first | rfl | simp
