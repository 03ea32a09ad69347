/-! the reference: hours (written by wip/whole/mkrefV.py) -/
theorem id_step {f : Int32 → Int32 → Int32} {i : Nat} {loc : List (Option Value)} {x y : Int32} {r : List Value} {h : aM} (hy : ¬ y = 0) : aP (gD2 f) (i, loc, .int y :: .int x :: r, h) = some (.inl (i + 1, loc, .int (f x y) :: r, h)) := by
  simp only [aP, gD2, if_neg hy]
/-- the hours that a code names, the first digit first -/
def dgU (t : tW) (hp : Int32) (k : Nat) : Nat → pU → pU
  | 0, u => u
  | i + 1, u => dgU t hp k i (hrG t u (k / 8 ^ i % 8) hp)
def dgA (k : Nat) : Nat → Int32 → Int32
  | 0, a => a
  | i + 1, a => dgA k i (10 * a + nI (k / 8 ^ i % 8) + 1)
/-- g codes from k on -/
def hcE (t : tW) (hp b0 : Int32) (n : Nat) (u : pU) (dg : Int32) : Nat → Nat → aRw → aRw
  | 0, _, a => a
  | g + 1, k, a => hcE t hp b0 n u dg g (k + 1) (trB t b0 (dgU t hp k n u) (dgA k n dg) a)
theorem nI_gt0 {n : Nat} (h0 : 0 < n) (hn : n < 2 ^ 31) : ¬ nI n ≤ 0 := fun z => by
  rw [Int32.le_iff_toInt_le, nI_toInt hn, show (0 : Int32).toInt = 0 from rfl] at z
  omega
theorem p8_lt {n : Nat} (h : n ≤ 3) : 8 ^ n ≤ 512 := by
  rcases (by omega : n = 0 ∨ n = 1 ∨ n = 2 ∨ n = 3) with e | e | e | e <;> subst e <;> decide
theorem p8_pos (n : Nat) : 0 < 8 ^ n := Nat.pow_pos (by decide)
theorem p8_s (n : Nat) : 8 ^ (n + 1) / 8 = 8 ^ n := by rw [Nat.pow_succ]; exact Nat.mul_div_cancel _ (by decide)
theorem WY.b9 {p : Nat} {c0 c1 c2 : List Int32} {mi ma m : Nat → Nat → Int32} {t : tW} {u : pU} (a : ASD p mi ma) (h : WY p c0 c1 c2 ma m t u) : m 92 9 = (puR mi p).2.2.2.1 := by
  rw [h.1 92 9 (by omega) (by omega), a.2.1 9 (by decide)]
  rfl
set_option maxRecDepth 20000 in
set_option maxHeartbeats 1000000 in
theorem l_rdig {X : aXt × Value} {mr : Nat → Nat → Option Nat} (hM : MRok mr) {c0 c1 c2 : List Int32} {p : Nat} (hp5 : p < 5) {ma : Nat → Nat → Int32} {n hp wh b y x : Int32} {Z k : Nat} (hk5 : k < 512) {t : tW} {Q : Option Value → aM → Prop} : ∀ (i : Nat) (m : Nat → Nat → Int32) (w : Nat → Nat → Int64) (u : pU) (a : Int32) (o : Option Value), i ≤ 3 → WY p c0 c1 c2 ma m t u → (∀ m' w' o', WY p c0 c1 c2 ma m' t (dgU t hp k i u) → aWP (aEx (aTb X) 48) cd_X7_hours (86, [some (.ref 84), some (.int (nI p)), some (.int n), some (.int hp), some (.int wh), some (.int (nI Z)), some (.int b), some (.int y), some (.int x), some (.int (nI k)), some (.int (dgA k i a)), some (.int 0), o'], [], (HD, m', w', mr)) Q) → aWP (aEx (aTb X) 48) cd_X7_hours (60, [some (.ref 84), some (.int (nI p)), some (.int n), some (.int hp), some (.int wh), some (.int (nI Z)), some (.int b), some (.int y), some (.int x), some (.int (nI k)), some (.int a), some (.int (nI (8 ^ i / 8))), o], [], (HD, m, w, mr)) Q := by
  intro i
  induction i with
  | zero =>
    intro m w u a o hi h hk
    show aWP _ _ (60, [some (.ref 84), some (.int (nI p)), some (.int n), some (.int hp), some (.int wh), some (.int (nI Z)), some (.int b), some (.int y), some (.int x), some (.int (nI k)), some (.int a), some (.int 0), o], [], (HD, m, w, mr)) _
    refine wp_steps 1 (t' := (61, [some (.ref 84), some (.int (nI p)), some (.int n), some (.int hp), some (.int wh), some (.int (nI Z)), some (.int b), some (.int y), some (.int x), some (.int (nI k)), some (.int a), some (.int 0), o], [.int 0], (HD, m, w, mr))) rfl ?_
    refine wp_bI rfl (fun c_1 => ?_) (fun c_1 => ?_)
    rotate_left
    · have c_1 : ¬ ((0 : Int32) ≤ 0) := of_decide_eq_false c_1
      exact absurd c_1 (by decide)
    have c_1 : (0 : Int32) ≤ 0 := of_decide_eq_true c_1
    exact hk m w _ h
  | succ i ih =>
    intro m w u a o hi h hk
    have hb := p8_lt (n := i) (by omega)
    have hp0 := p8_pos i
    rw [p8_s]
    refine wp_steps 1 (t' := (61, [some (.ref 84), some (.int (nI p)), some (.int n), some (.int hp), some (.int wh), some (.int (nI Z)), some (.int b), some (.int y), some (.int x), some (.int (nI k)), some (.int a), some (.int (nI (8 ^ i))), o], [.int (nI (8 ^ i))], (HD, m, w, mr))) rfl ?_
    refine wp_bI rfl (fun c_1 => ?_) (fun c_1 => ?_)
    · have c_1 : (nI (8 ^ i)) ≤ 0 := of_decide_eq_true c_1
      exact absurd c_1 (nI_gt0 hp0 (by omega))
    have c_1 : ¬ ((nI (8 ^ i)) ≤ 0) := of_decide_eq_false c_1
    refine wp_steps 2 (t' := (64, [some (.ref 84), some (.int (nI p)), some (.int n), some (.int hp), some (.int wh), some (.int (nI Z)), some (.int b), some (.int y), some (.int x), some (.int (nI k)), some (.int a), some (.int (nI (8 ^ i))), o], [.int (nI (8 ^ i)), .int (nI k)], (HD, m, w, mr))) rfl ?_
    refine wp_step (t' := (65, [some (.ref 84), some (.int (nI p)), some (.int n), some (.int hp), some (.int wh), some (.int (nI Z)), some (.int b), some (.int y), some (.int x), some (.int (nI k)), some (.int a), some (.int (nI (8 ^ i))), o], [.int ((nI k) / (nI (8 ^ i)))], (HD, m, w, mr))) rfl (id_step (fun z => nI_gt0 hp0 (by omega) (by rw [z]; exact Int32.le_refl 0))) ?_
    rw [show nI k / nI (8 ^ i) = nI (k / 8 ^ i) from dv_nI (by omega) hp0 (by omega)]
    refine wp_steps 2 (t' := (67, [some (.ref 84), some (.int (nI p)), some (.int n), some (.int hp), some (.int wh), some (.int (nI Z)), some (.int b), some (.int y), some (.int x), some (.int (nI k)), some (.int a), some (.int (nI (8 ^ i))), o], [.int ((nI (k / 8 ^ i)) - (nI (k / 8 ^ i)) / 8 * 8)], (HD, m, w, mr))) rfl ?_
    have hq : k / 8 ^ i ≤ k := Nat.div_le_self _ _
    rw [show nI (k / 8 ^ i) - nI (k / 8 ^ i) / 8 * 8 = nI (k / 8 ^ i % 8) from rm_nI (by omega) (by decide) (by decide)]
    refine wp_steps 5 (t' := (72, [some (.ref 84), some (.int (nI p)), some (.int n), some (.int hp), some (.int wh), some (.int (nI Z)), some (.int b), some (.int y), some (.int x), some (.int (nI k)), some (.int a), some (.int (nI (8 ^ i))), some (.int (nI (k / 8 ^ i % 8)))], [.int hp, .int (nI (k / 8 ^ i % 8)), .int (nI p), .ref 84], (HD, m, w, mr))) rfl ?_
    refine wp_calv (as := [.int (nI p), .int (nI (k / 8 ^ i % 8)), .int hp]) rfl rfl rfl (Nat.le_of_ble_eq_true rfl) ⟨by decide, rfl⟩ ((y_hour (w := w) (hp := hp) hM hp5 h (s := nI (k / 8 ^ i % 8)) (aix_nI (Nat.mod_lt _ (by decide)) (by decide)))) (by decide) ?_
    rintro _ _ ⟨rfl, m_1, w_1, rfl, h1⟩
    rw [nI_clamp (show k / 8 ^ i % 8 < 2 ^ 31 from Nat.lt_trans (Nat.mod_lt _ (by decide)) (by decide))] at h1
    show aWP _ _ (73, [some (.ref 84), some (.int (nI p)), some (.int n), some (.int hp), some (.int wh), some (.int (nI Z)), some (.int b), some (.int y), some (.int x), some (.int (nI k)), some (.int a), some (.int (nI (8 ^ i))), some (.int (nI (k / 8 ^ i % 8)))], [], (HD, m_1, w_1, mr)) _
    refine wp_steps 11 (t' := (84, [some (.ref 84), some (.int (nI p)), some (.int n), some (.int hp), some (.int wh), some (.int (nI Z)), some (.int b), some (.int y), some (.int x), some (.int (nI k)), some (.int (((10 * a) + (nI (k / 8 ^ i % 8))) + 1)), some (.int (nI (8 ^ i))), some (.int (nI (k / 8 ^ i % 8)))], [.int ((nI (8 ^ i)) / 8)], (HD, m_1, w_1, mr))) rfl ?_
    rw [show nI (8 ^ i) / 8 = nI (8 ^ i / 8) from dv_nI (by omega) (by decide) (by decide)]
    refine wp_steps 2 (t' := (60, [some (.ref 84), some (.int (nI p)), some (.int n), some (.int hp), some (.int wh), some (.int (nI Z)), some (.int b), some (.int y), some (.int x), some (.int (nI k)), some (.int (((10 * a) + (nI (k / 8 ^ i % 8))) + 1)), some (.int (nI (8 ^ i / 8))), some (.int (nI (k / 8 ^ i % 8)))], [], (HD, m_1, w_1, mr))) rfl ?_
    exact ih m_1 w_1 _ _ _ (by omega) h1 hk
set_option maxRecDepth 20000 in
set_option maxHeartbeats 1000000 in
theorem l_rcodes {X : aXt × Value} {mr : Nat → Nat → Option Nat} (hM : MRok mr) {c0 c1 c2 : List Int32} {p : Nat} (hp5 : p < 5) {ma : Nat → Nat → Int32} {mi : Nat → Nat → Int32} (a1 : ASD p mi ma) (hok : okU (puR mi p)) {hp wh : Int32} {Z n : Nat} (hn : n ≤ 3) (hZ : Z = 8 ^ n) {Q : Option Value → aM → Prop} : ∀ (g k : Nat) (m : Nat → Nat → Int32) (w : Nat → Nat → Int64) (a : aRw) (o1 o2 o3 : Option Value), k + g = Z → WY p c0 c1 c2 ma m (twR mi c0 c1 c2) (puR mi p) → (∀ m' w' o1' o2' o3', WY p c0 c1 c2 ma m' (twR mi c0 c1 c2) (puR mi p) → aWP (aEx (aTb X) 48) cd_X7_hours (116, [some (.ref 84), some (.int (nI p)), some (.int (nI n)), some (.int hp), some (.int wh), some (.int (nI Z)), some (.int ((hcE (twR mi c0 c1 c2) hp (puR mi p).2.2.2.1 n (puR mi p) 0 g k a).1)), some (.int ((hcE (twR mi c0 c1 c2) hp (puR mi p).2.2.2.1 n (puR mi p) 0 g k a).2.1)), some (.int ((hcE (twR mi c0 c1 c2) hp (puR mi p).2.2.2.1 n (puR mi p) 0 g k a).2.2)), some (.int (nI Z)), o1', o2', o3'], [], (HD, m', w', mr)) Q) → aWP (aEx (aTb X) 48) cd_X7_hours (51, [some (.ref 84), some (.int (nI p)), some (.int (nI n)), some (.int hp), some (.int wh), some (.int (nI Z)), some (.int a.1), some (.int a.2.1), some (.int a.2.2), some (.int (nI k)), o1, o2, o3], [], (HD, m, w, mr)) Q := by
  have hb : Z ≤ 512 := hZ ▸ p8_lt hn
  intro g
  induction g with
  | zero =>
    intro k m w a o1 o2 o3 hg h hk
    obtain rfl : k = Z := by omega
    refine wp_steps 2 (t' := (53, [some (.ref 84), some (.int (nI p)), some (.int (nI n)), some (.int hp), some (.int wh), some (.int (nI k)), some (.int a.1), some (.int a.2.1), some (.int a.2.2), some (.int (nI k)), o1, o2, o3], [.int (nI k), .int (nI k)], (HD, m, w, mr))) rfl ?_
    refine wp_bC rfl (fun c_1 => ?_) (fun c_1 => ?_)
    rotate_left
    · have c_1 : ¬ ((nI k) ≤ (nI k)) := of_decide_eq_false c_1
      exact absurd (Int32.le_refl _) c_1
    have c_1 : (nI k) ≤ (nI k) := of_decide_eq_true c_1
    exact hk m w _ _ _ h
  | succ g ih =>
    intro k m w a o1 o2 o3 hg h hk
    have hkz : k < Z := by omega
    refine wp_steps 2 (t' := (53, [some (.ref 84), some (.int (nI p)), some (.int (nI n)), some (.int hp), some (.int wh), some (.int (nI Z)), some (.int a.1), some (.int a.2.1), some (.int a.2.2), some (.int (nI k)), o1, o2, o3], [.int (nI Z), .int (nI k)], (HD, m, w, mr))) rfl ?_
    refine wp_bC rfl (fun c_1 => ?_) (fun c_1 => ?_)
    · have c_1 : (nI Z) ≤ (nI k) := of_decide_eq_true c_1
      exact absurd c_1 (nI_ge (a := k) (b := Z) hkz (by omega))
    have c_1 : ¬ ((nI Z) ≤ (nI k)) := of_decide_eq_false c_1
    refine wp_steps 5 (t' := (59, [some (.ref 84), some (.int (nI p)), some (.int (nI n)), some (.int hp), some (.int wh), some (.int (nI Z)), some (.int a.1), some (.int a.2.1), some (.int a.2.2), some (.int (nI k)), some (.int 0), o2, o3], [.int ((nI Z) / 8)], (HD, m, w, mr))) rfl ?_
    rw [show nI Z / 8 = nI (8 ^ n / 8) from hZ ▸ dv_nI (by omega) (by decide) (by decide)]
    refine wp_steps 1 (t' := (60, [some (.ref 84), some (.int (nI p)), some (.int (nI n)), some (.int hp), some (.int wh), some (.int (nI Z)), some (.int a.1), some (.int a.2.1), some (.int a.2.2), some (.int (nI k)), some (.int 0), some (.int (nI (8 ^ n / 8))), o3], [], (HD, m, w, mr))) rfl ?_
    refine l_rdig (ma := ma) hM hp5 (Z := Z) (k := k) (by omega) n m w (puR mi p) 0 _ hn h (fun m1 w1 o9 h1 => ?_)
    refine wp_steps 2 (t' := (88, [some (.ref 84), some (.int (nI p)), some (.int (nI n)), some (.int hp), some (.int wh), some (.int (nI Z)), some (.int a.1), some (.int a.2.1), some (.int a.2.2), some (.int (nI k)), some (.int (dgA k n 0)), some (.int 0), o9], [.int (nI p), .ref 84], (HD, m1, w1, mr))) rfl ?_
    refine wp_calv (as := [.int (nI p)]) rfl rfl rfl (Nat.le_of_ble_eq_true rfl) ⟨by decide, rfl⟩ ((y_many (w := w1) hM hp5 h1)) (by decide) ?_
    rintro _ _ ⟨rfl, m_2, w_2, rfl, h2⟩
    show aWP _ _ (89, [some (.ref 84), some (.int (nI p)), some (.int (nI n)), some (.int hp), some (.int wh), some (.int (nI Z)), some (.int a.1), some (.int a.2.1), some (.int a.2.2), some (.int (nI k)), some (.int (dgA k n 0)), some (.int 0), o9], [.int (nI (mnG (twR mi c0 c1 c2) (dgU (twR mi c0 c1 c2) hp k n (puR mi p))))], (HD, m_2, w_2, mr)) _
    refine wp_steps 2 (t' := (91, [some (.ref 84), some (.int (nI p)), some (.int (nI n)), some (.int hp), some (.int wh), some (.int (nI Z)), some (.int a.1), some (.int a.2.1), some (.int a.2.2), some (.int (nI k)), some (.int (dgA k n 0)), some (.int (nI (mnG (twR mi c0 c1 c2) (dgU (twR mi c0 c1 c2) hp k n (puR mi p))))), o9], [.ref 84], (HD, m_2, w_2, mr))) rfl ?_
    refine wp_getr rfl ⟨by decide, rfl⟩ rfl (hM (84, 11, 91) (by decide)) ?_
    refine wp_steps 2 (t' := (94, [some (.ref 84), some (.int (nI p)), some (.int (nI n)), some (.int hp), some (.int wh), some (.int (nI Z)), some (.int a.1), some (.int a.2.1), some (.int a.2.2), some (.int (nI k)), some (.int (dgA k n 0)), some (.int (nI (mnG (twR mi c0 c1 c2) (dgU (twR mi c0 c1 c2) hp k n (puR mi p))))), o9], [.int 9, .int (nI p), .ref 91], (HD, m_2, w_2, mr))) rfl ?_
    refine wp_cal (as := [.int (nI p), .int 9]) rfl rfl rfl (Nat.le_of_ble_eq_true rfl) ((c_rat_n (p := p) (s := 9))) (by decide) ?_
    rintro _ _ ⟨rfl, rfl⟩
    show aWP _ _ (95, [some (.ref 84), some (.int (nI p)), some (.int (nI n)), some (.int hp), some (.int wh), some (.int (nI Z)), some (.int a.1), some (.int a.2.1), some (.int a.2.2), some (.int (nI k)), some (.int (dgA k n 0)), some (.int (nI (mnG (twR mi c0 c1 c2) (dgU (twR mi c0 c1 c2) hp k n (puR mi p))))), o9], [.int (nI (10 * p + 9)), .ref 91], (HD, m_2, w_2, mr)) _
    refine wp_iald rfl ⟨by decide, rfl⟩ (aix_nI (by omega) (by decide)) ?_
    rw [nI_clamp (n := 10 * p + 9) (by omega)]
    refine wp_steps 1 (t' := (97, [some (.ref 84), some (.int (nI p)), some (.int (nI n)), some (.int hp), some (.int wh), some (.int (nI Z)), some (.int a.1), some (.int a.2.1), some (.int a.2.2), some (.int (nI k)), some (.int (dgA k n 0)), some (.int (nI (mnG (twR mi c0 c1 c2) (dgU (twR mi c0 c1 c2) hp k n (puR mi p))))), o9], [.ref 84, .int (m_2 91 (10 * p + 9))], (HD, m_2, w_2, mr))) rfl ?_
    refine wp_getr rfl ⟨by decide, rfl⟩ rfl (hM (84, 28, 92) (by decide)) ?_
    refine wp_steps 1 (t' := (99, [some (.ref 84), some (.int (nI p)), some (.int (nI n)), some (.int hp), some (.int wh), some (.int (nI Z)), some (.int a.1), some (.int a.2.1), some (.int a.2.2), some (.int (nI k)), some (.int (dgA k n 0)), some (.int (nI (mnG (twR mi c0 c1 c2) (dgU (twR mi c0 c1 c2) hp k n (puR mi p))))), o9], [.int 9, .ref 92, .int (m_2 91 (10 * p + 9))], (HD, m_2, w_2, mr))) rfl ?_
    refine wp_iald rfl ⟨by decide, rfl⟩ (by decide) ?_
    refine wp_steps 1 (t' := (101, [some (.ref 84), some (.int (nI p)), some (.int (nI n)), some (.int hp), some (.int wh), some (.int (nI Z)), some (.int a.1), some (.int a.2.1), some (.int a.2.2), some (.int (nI k)), some (.int (dgA k n 0)), some (.int (nI (mnG (twR mi c0 c1 c2) (dgU (twR mi c0 c1 c2) hp k n (puR mi p))))), o9], [.int ((m_2 91 (10 * p + 9)) - (m_2 92 9))], (HD, m_2, w_2, mr))) rfl ?_
    rw [show m_2 91 (10 * p + 9) = (dgU (twR mi c0 c1 c2) hp k n (puR mi p)).2.2.2.1 from congrArg (·.2.2.2.1) h2.2.1, h2.b9 a1]
    refine wp_steps 3 (t' := (104, [some (.ref 84), some (.int (nI p)), some (.int (nI n)), some (.int hp), some (.int wh), some (.int (nI Z)), some (.int a.1), some (.int a.2.1), some (.int a.2.2), some (.int (nI k)), some (.int (dgA k n 0)), some (.int (nI (mnG (twR mi c0 c1 c2) (dgU (twR mi c0 c1 c2) hp k n (puR mi p))))), some (.int ((dgU (twR mi c0 c1 c2) hp k n (puR mi p)).2.2.2.1 - (puR mi p).2.2.2.1))], [.int (nI p), .ref 84], (HD, m_2, w_2, mr))) rfl ?_
    refine wp_calv (as := [.int (nI p)]) rfl rfl rfl (Nat.le_of_ble_eq_true rfl) ⟨by decide, rfl⟩ ((r_back (mi := m_2) (ml := w_2) hM hp5)) (by decide) ?_
    rintro _ _ ⟨rfl, m_4, rfl, b4⟩
    have h4 := WY.bk a1 hok h2 b4
    show aWP _ _ (105, [some (.ref 84), some (.int (nI p)), some (.int (nI n)), some (.int hp), some (.int wh), some (.int (nI Z)), some (.int a.1), some (.int a.2.1), some (.int a.2.2), some (.int (nI k)), some (.int (dgA k n 0)), some (.int (nI (mnG (twR mi c0 c1 c2) (dgU (twR mi c0 c1 c2) hp k n (puR mi p))))), some (.int ((dgU (twR mi c0 c1 c2) hp k n (puR mi p)).2.2.2.1 - (puR mi p).2.2.2.1))], [], (HD, m_4, w_2, mr)) _
    refine wp_steps 2 (t' := (107, [some (.ref 84), some (.int (nI p)), some (.int (nI n)), some (.int hp), some (.int wh), some (.int (nI Z)), some (.int a.1), some (.int a.2.1), some (.int a.2.2), some (.int (nI k)), some (.int (dgA k n 0)), some (.int (nI (mnG (twR mi c0 c1 c2) (dgU (twR mi c0 c1 c2) hp k n (puR mi p))))), some (.int ((dgU (twR mi c0 c1 c2) hp k n (puR mi p)).2.2.2.1 - (puR mi p).2.2.2.1))], [.int a.2.1, .int (nI (mnG (twR mi c0 c1 c2) (dgU (twR mi c0 c1 c2) hp k n (puR mi p))))], (HD, m_4, w_2, mr))) rfl ?_
    refine wp_bC rfl (fun c_61 => ?_) (fun c_61 => ?_)
    · have c_61 : (nI (mnG (twR mi c0 c1 c2) (dgU (twR mi c0 c1 c2) hp k n (puR mi p)))) ≤ a.2.1 := of_decide_eq_true c_61
      refine wp_steps 2 (t' := (51, [some (.ref 84), some (.int (nI p)), some (.int (nI n)), some (.int hp), some (.int wh), some (.int (nI Z)), some (.int a.1), some (.int a.2.1), some (.int a.2.2), some (.int ((nI k) + Int32.ofInt 1)), some (.int (dgA k n 0)), some (.int (nI (mnG (twR mi c0 c1 c2) (dgU (twR mi c0 c1 c2) hp k n (puR mi p))))), some (.int ((dgU (twR mi c0 c1 c2) hp k n (puR mi p)).2.2.2.1 - (puR mi p).2.2.2.1))], [], (HD, m_4, w_2, mr))) rfl ?_
      have e : trB (twR mi c0 c1 c2) (puR mi p).2.2.2.1 (dgU (twR mi c0 c1 c2) hp k n (puR mi p)) (dgA k n 0) a = a := if_neg (Int32.not_lt.mpr c_61)
      have z := ih (k + 1) m_4 w_2 (trB (twR mi c0 c1 c2) (puR mi p).2.2.2.1 (dgU (twR mi c0 c1 c2) hp k n (puR mi p)) (dgA k n 0) a) (some (.int (dgA k n 0))) (some (.int (nI (mnG (twR mi c0 c1 c2) (dgU (twR mi c0 c1 c2) hp k n (puR mi p)))))) (some (.int ((dgU (twR mi c0 c1 c2) hp k n (puR mi p)).2.2.2.1 - (puR mi p).2.2.2.1))) (by omega) h4 hk
      rw [e] at z
      rw [inc_nI]
      exact z
    · have c_61 : ¬ ((nI (mnG (twR mi c0 c1 c2) (dgU (twR mi c0 c1 c2) hp k n (puR mi p)))) ≤ a.2.1) := of_decide_eq_false c_61
      refine wp_steps 8 (t' := (51, [some (.ref 84), some (.int (nI p)), some (.int (nI n)), some (.int hp), some (.int wh), some (.int (nI Z)), some (.int (dgA k n 0)), some (.int (nI (mnG (twR mi c0 c1 c2) (dgU (twR mi c0 c1 c2) hp k n (puR mi p))))), some (.int ((dgU (twR mi c0 c1 c2) hp k n (puR mi p)).2.2.2.1 - (puR mi p).2.2.2.1)), some (.int ((nI k) + Int32.ofInt 1)), some (.int (dgA k n 0)), some (.int (nI (mnG (twR mi c0 c1 c2) (dgU (twR mi c0 c1 c2) hp k n (puR mi p))))), some (.int ((dgU (twR mi c0 c1 c2) hp k n (puR mi p)).2.2.2.1 - (puR mi p).2.2.2.1))], [], (HD, m_4, w_2, mr))) rfl ?_
      have e : trB (twR mi c0 c1 c2) (puR mi p).2.2.2.1 (dgU (twR mi c0 c1 c2) hp k n (puR mi p)) (dgA k n 0) a = ((dgA k n 0), nI (mnG (twR mi c0 c1 c2) (dgU (twR mi c0 c1 c2) hp k n (puR mi p))), (dgU (twR mi c0 c1 c2) hp k n (puR mi p)).2.2.2.1 - (puR mi p).2.2.2.1) := if_pos (Int32.not_le.mp c_61)
      have z := ih (k + 1) m_4 w_2 (trB (twR mi c0 c1 c2) (puR mi p).2.2.2.1 (dgU (twR mi c0 c1 c2) hp k n (puR mi p)) (dgA k n 0) a) (some (.int (dgA k n 0))) (some (.int (nI (mnG (twR mi c0 c1 c2) (dgU (twR mi c0 c1 c2) hp k n (puR mi p)))))) (some (.int ((dgU (twR mi c0 c1 c2) hp k n (puR mi p)).2.2.2.1 - (puR mi p).2.2.2.1))) (by omega) h4 hk
      rw [e] at z
      rw [inc_nI]
      exact z
set_option maxRecDepth 20000 in
set_option maxHeartbeats 1000000 in
theorem r_hours_n {X : aXt × Value} {mi : Nat → Nat → Int32} {ml : Nat → Nat → Int64} {mr : Nat → Nat → Option Nat} (hM : MRok mr) {N : Nat} (hN : mi 84 12 = nI N) (hN5 : N ≤ 5) {c0 c1 c2 : List Int32} (hR : RUX mi c0 c1 c2) {p : Nat} (hpN : p < N) (hok : okU (puR mi p)) {n : Nat} (hn : n ≤ 3) {hp wh : Int32} (hhp : aixn hp 3 = true) (hwh : inR 0 2 wh) : aCW X 49 190 [.ref 84, .int (nI p), .int (nI n), .int hp, .int wh] (HD, mi, ml, mr) (qR mi mr (.int (if wh = 0 then (hcE (twR mi c0 c1 c2) hp (puR mi p).2.2.2.1 n (puR mi p) 0 (8 ^ n) 0 (0, -1, 0)).1 else if wh = 1 then (hcE (twR mi c0 c1 c2) hp (puR mi p).2.2.2.1 n (puR mi p) 0 (8 ^ n) 0 (0, -1, 0)).2.1 else (hcE (twR mi c0 c1 c2) hp (puR mi p).2.2.2.1 n (puR mi p) 0 (8 ^ n) 0 (0, -1, 0)).2.2))) := by
  have hp5 : p < 5 := by omega
  have hnn : inR 0 3 (nI n) := rI.mpr (by rw [nI_toInt (by omega), show (0 : Int32).toInt = 0 from rfl, show (3 : Int32).toInt = 3 from rfl]; omega)
  generalize hV : (if wh = 0 then (hcE (twR mi c0 c1 c2) hp (puR mi p).2.2.2.1 n (puR mi p) 0 (8 ^ n) 0 (0, -1, 0)).1 else if wh = 1 then (hcE (twR mi c0 c1 c2) hp (puR mi p).2.2.2.1 n (puR mi p) 0 (8 ^ n) 0 (0, -1, 0)).2.1 else (hcE (twR mi c0 c1 c2) hp (puR mi p).2.2.2.1 n (puR mi p) 0 (8 ^ n) 0 (0, -1, 0)).2.2) = V
  refine cw_of (cd := cd_X7_hours) (nL := 13) rfl rfl ?_
  show aWP _ _ (0, [some (.ref 84), some (.int (nI p)), some (.int (nI n)), some (.int hp), some (.int wh), none, none, none, none, none, none, none, none], [], (HD, mi, ml, mr)) _
  refine wp_steps 2 (t' := (2, [some (.ref 84), some (.int (nI p)), some (.int (nI n)), some (.int hp), some (.int wh), none, none, none, none, none, none, none, none], [.int (nI p), .ref 84], (HD, mi, ml, mr))) rfl ?_
  refine wp_calv (as := [.int (nI p)]) rfl rfl rfl (Nat.le_of_ble_eq_true rfl) ⟨by decide, rfl⟩ ((c_isOne_ok (mi := mi) (ml := ml) hM hN hN5 hpN)) (by decide) ?_
  rintro _ _ ⟨rfl, rfl⟩
  show aWP _ _ (3, [some (.ref 84), some (.int (nI p)), some (.int (nI n)), some (.int hp), some (.int wh), none, none, none, none, none, none, none, none], [.int 1], (HD, mi, ml, mr)) _
  refine wp_bI rfl (fun c_1 => ?_) (fun c_1 => ?_)
  · have c_1 : (1 : Int32) = 0 := of_decide_eq_true c_1
    exact absurd c_1 (by decide)
  have c_1 : ¬ ((1 : Int32) = 0) := of_decide_eq_false c_1
  refine wp_steps 4 (t' := (8, [some (.ref 84), some (.int (nI p)), some (.int (nI n)), some (.int hp), some (.int wh), none, none, none, none, none, none, none, none], [.long 3, .long 0, .long ((nI n).toInt64)], (HD, mi, ml, mr))) rfl ?_
  refine wp_cal (as := [.long ((nI n).toInt64), .long 0, .long 3]) rfl rfl rfl (Nat.le_of_ble_eq_true rfl) ((c_in (x := nI n) (lo := 0) (hi := 3) rfl (by decide) (by decide))) (by decide) ?_
  rintro _ _ ⟨rfl, rfl⟩
  rw [if_pos hnn]
  show aWP _ _ (9, [some (.ref 84), some (.int (nI p)), some (.int (nI n)), some (.int hp), some (.int wh), none, none, none, none, none, none, none, none], [.int 1], (HD, mi, ml, mr)) _
  refine wp_bI rfl (fun c_2 => ?_) (fun c_2 => ?_)
  · have c_2 : (1 : Int32) = 0 := of_decide_eq_true c_2
    exact absurd c_2 (by decide)
  have c_2 : ¬ ((1 : Int32) = 0) := of_decide_eq_false c_2
  refine wp_steps 4 (t' := (14, [some (.ref 84), some (.int (nI p)), some (.int (nI n)), some (.int hp), some (.int wh), none, none, none, none, none, none, none, none], [.long 2, .long 0, .long hp.toInt64], (HD, mi, ml, mr))) rfl ?_
  refine wp_cal (as := [.long hp.toInt64, .long 0, .long 2]) rfl rfl rfl (Nat.le_of_ble_eq_true rfl) ((c_in_ax (x := hp) (hi := 2) (n := 3) (by decide) (by decide) (by decide))) (by decide) ?_
  rintro _ _ ⟨rfl, rfl⟩
  rw [if_pos hhp]
  show aWP _ _ (15, [some (.ref 84), some (.int (nI p)), some (.int (nI n)), some (.int hp), some (.int wh), none, none, none, none, none, none, none, none], [.int 1], (HD, mi, ml, mr)) _
  refine wp_bI rfl (fun c_3 => ?_) (fun c_3 => ?_)
  · have c_3 : (1 : Int32) = 0 := of_decide_eq_true c_3
    exact absurd c_3 (by decide)
  have c_3 : ¬ ((1 : Int32) = 0) := of_decide_eq_false c_3
  refine wp_steps 4 (t' := (20, [some (.ref 84), some (.int (nI p)), some (.int (nI n)), some (.int hp), some (.int wh), none, none, none, none, none, none, none, none], [.long 2, .long 0, .long wh.toInt64], (HD, mi, ml, mr))) rfl ?_
  refine wp_cal (as := [.long wh.toInt64, .long 0, .long 2]) rfl rfl rfl (Nat.le_of_ble_eq_true rfl) ((c_in (x := wh) (lo := 0) (hi := 2) rfl (by decide) (by decide))) (by decide) ?_
  rintro _ _ ⟨rfl, rfl⟩
  rw [if_pos hwh]
  show aWP _ _ (21, [some (.ref 84), some (.int (nI p)), some (.int (nI n)), some (.int hp), some (.int wh), none, none, none, none, none, none, none, none], [.int 1], (HD, mi, ml, mr)) _
  refine wp_bI rfl (fun c_4 => ?_) (fun c_4 => ?_)
  rotate_left
  · have c_4 : (1 : Int32) = 0 := Decidable.not_not.mp (of_decide_eq_false c_4)
    exact absurd c_4 (by decide)
  have c_4 : ¬ (1 : Int32) = 0 := of_decide_eq_true c_4
  refine wp_steps 1 (t' := (25, [some (.ref 84), some (.int (nI p)), some (.int (nI n)), some (.int hp), some (.int wh), none, none, none, none, none, none, none, none], [.int (nI n)], (HD, mi, ml, mr))) rfl ?_
  refine wp_bI rfl (fun c_5 => ?_) (fun c_5 => ?_)
  · have c_5 : ¬ (nI n) = 0 := of_decide_eq_true c_5
    refine wp_steps 2 (t' := (30, [some (.ref 84), some (.int (nI p)), some (.int (nI n)), some (.int hp), some (.int wh), none, none, none, none, none, none, none, none], [.int 1, .int (nI n)], (HD, mi, ml, mr))) rfl ?_
    refine wp_bC rfl (fun c_6 => ?_) (fun c_6 => ?_)
    · have c_6 : ¬ (nI n) = 1 := of_decide_eq_true c_6
      refine wp_steps 2 (t' := (35, [some (.ref 84), some (.int (nI p)), some (.int (nI n)), some (.int hp), some (.int wh), none, none, none, none, none, none, none, none], [.int 2, .int (nI n)], (HD, mi, ml, mr))) rfl ?_
      refine wp_bC rfl (fun c_7 => ?_) (fun c_7 => ?_)
      · have c_7 : ¬ (nI n) = 2 := of_decide_eq_true c_7
        refine wp_steps 1 (t' := (39, [some (.ref 84), some (.int (nI p)), some (.int (nI n)), some (.int hp), some (.int wh), none, none, none, none, none, none, none, none], [.int 512], (HD, mi, ml, mr))) rfl ?_
        have en : n = 3 := by
          have q0 : ¬ n = 0 := fun z => c_5 (by rw [z]; rfl)
          have q1 : ¬ n = 1 := fun z => c_6 (by rw [z]; rfl)
          have q2 : ¬ n = 2 := fun z => c_7 (by rw [z]; rfl)
          omega
        rw [show (512 : Int32) = nI (8 ^ n) from by rw [en]; rfl]
        refine wp_steps 9 (t' := (48, [some (.ref 84), some (.int (nI p)), some (.int (nI n)), some (.int hp), some (.int wh), some (.int (nI (8 ^ n))), some (.int 0), some (.int (-1)), some (.int 0), none, none, none, none], [.int (nI p), .ref 84], (HD, mi, ml, mr))) rfl ?_
        refine wp_calv (as := [.int (nI p)]) rfl rfl rfl (Nat.le_of_ble_eq_true rfl) ⟨by decide, rfl⟩ ((r_aside (mi := mi) (ml := ml) hM hp5)) (by decide) ?_
        rintro _ _ ⟨rfl, m_1, rfl, a1⟩
        show aWP _ _ (49, [some (.ref 84), some (.int (nI p)), some (.int (nI n)), some (.int hp), some (.int wh), some (.int (nI (8 ^ n))), some (.int 0), some (.int (-1)), some (.int 0), none, none, none, none], [], (HD, m_1, ml, mr)) _
        refine wp_steps 2 (t' := (51, [some (.ref 84), some (.int (nI p)), some (.int (nI n)), some (.int hp), some (.int wh), some (.int (nI (8 ^ n))), some (.int 0), some (.int (-1)), some (.int 0), some (.int 0), none, none, none], [], (HD, m_1, ml, mr))) rfl ?_
        refine l_rcodes hM hp5 a1 hok hn rfl (8 ^ n) 0 m_1 ml (0, -1, 0) _ _ _ (by omega) (WY.of a1 hR hok) (fun m' w' o1 o2 o3 h4 => ?_)
        refine wp_steps 1 (t' := (117, [some (.ref 84), some (.int (nI p)), some (.int (nI n)), some (.int hp), some (.int wh), some (.int (nI (8 ^ n))), some (.int ((hcE (twR mi c0 c1 c2) hp (puR mi p).2.2.2.1 n (puR mi p) 0 (8 ^ n) 0 (0, -1, 0)).1)), some (.int ((hcE (twR mi c0 c1 c2) hp (puR mi p).2.2.2.1 n (puR mi p) 0 (8 ^ n) 0 (0, -1, 0)).2.1)), some (.int ((hcE (twR mi c0 c1 c2) hp (puR mi p).2.2.2.1 n (puR mi p) 0 (8 ^ n) 0 (0, -1, 0)).2.2)), some (.int (nI (8 ^ n))), o1, o2, o3], [.int wh], (HD, m', w', mr))) rfl ?_
        refine wp_bI rfl (fun c_81 => ?_) (fun c_81 => ?_)
        · have c_81 : ¬ wh = 0 := of_decide_eq_true c_81
          refine wp_steps 2 (t' := (122, [some (.ref 84), some (.int (nI p)), some (.int (nI n)), some (.int hp), some (.int wh), some (.int (nI (8 ^ n))), some (.int ((hcE (twR mi c0 c1 c2) hp (puR mi p).2.2.2.1 n (puR mi p) 0 (8 ^ n) 0 (0, -1, 0)).1)), some (.int ((hcE (twR mi c0 c1 c2) hp (puR mi p).2.2.2.1 n (puR mi p) 0 (8 ^ n) 0 (0, -1, 0)).2.1)), some (.int ((hcE (twR mi c0 c1 c2) hp (puR mi p).2.2.2.1 n (puR mi p) 0 (8 ^ n) 0 (0, -1, 0)).2.2)), some (.int (nI (8 ^ n))), o1, o2, o3], [.int 1, .int wh], (HD, m', w', mr))) rfl ?_
          refine wp_bC rfl (fun c_82 => ?_) (fun c_82 => ?_)
          · have c_82 : ¬ wh = 1 := of_decide_eq_true c_82
            refine wp_steps 1 (t' := (126, [some (.ref 84), some (.int (nI p)), some (.int (nI n)), some (.int hp), some (.int wh), some (.int (nI (8 ^ n))), some (.int ((hcE (twR mi c0 c1 c2) hp (puR mi p).2.2.2.1 n (puR mi p) 0 (8 ^ n) 0 (0, -1, 0)).1)), some (.int ((hcE (twR mi c0 c1 c2) hp (puR mi p).2.2.2.1 n (puR mi p) 0 (8 ^ n) 0 (0, -1, 0)).2.1)), some (.int ((hcE (twR mi c0 c1 c2) hp (puR mi p).2.2.2.1 n (puR mi p) 0 (8 ^ n) 0 (0, -1, 0)).2.2)), some (.int (nI (8 ^ n))), o1, o2, o3], [.int ((hcE (twR mi c0 c1 c2) hp (puR mi p).2.2.2.1 n (puR mi p) 0 (8 ^ n) 0 (0, -1, 0)).2.2)], (HD, m', w', mr))) rfl ?_
            refine wp_ret rfl rfl ⟨⟨Nat.le_refl _, Nat.le_refl _⟩, ?_⟩
            exact ⟨by rw [← hV, if_neg c_81, if_neg c_82], m', w', rfl, h4.fq a1⟩
          · have c_82 : wh = 1 := Decidable.not_not.mp (of_decide_eq_false c_82)
            refine wp_steps 2 (t' := (126, [some (.ref 84), some (.int (nI p)), some (.int (nI n)), some (.int hp), some (.int wh), some (.int (nI (8 ^ n))), some (.int ((hcE (twR mi c0 c1 c2) hp (puR mi p).2.2.2.1 n (puR mi p) 0 (8 ^ n) 0 (0, -1, 0)).1)), some (.int ((hcE (twR mi c0 c1 c2) hp (puR mi p).2.2.2.1 n (puR mi p) 0 (8 ^ n) 0 (0, -1, 0)).2.1)), some (.int ((hcE (twR mi c0 c1 c2) hp (puR mi p).2.2.2.1 n (puR mi p) 0 (8 ^ n) 0 (0, -1, 0)).2.2)), some (.int (nI (8 ^ n))), o1, o2, o3], [.int ((hcE (twR mi c0 c1 c2) hp (puR mi p).2.2.2.1 n (puR mi p) 0 (8 ^ n) 0 (0, -1, 0)).2.1)], (HD, m', w', mr))) rfl ?_
            refine wp_ret rfl rfl ⟨⟨Nat.le_refl _, Nat.le_refl _⟩, ?_⟩
            exact ⟨by rw [← hV, if_neg c_81, if_pos c_82], m', w', rfl, h4.fq a1⟩
        · have c_81 : wh = 0 := Decidable.not_not.mp (of_decide_eq_false c_81)
          refine wp_steps 2 (t' := (126, [some (.ref 84), some (.int (nI p)), some (.int (nI n)), some (.int hp), some (.int wh), some (.int (nI (8 ^ n))), some (.int ((hcE (twR mi c0 c1 c2) hp (puR mi p).2.2.2.1 n (puR mi p) 0 (8 ^ n) 0 (0, -1, 0)).1)), some (.int ((hcE (twR mi c0 c1 c2) hp (puR mi p).2.2.2.1 n (puR mi p) 0 (8 ^ n) 0 (0, -1, 0)).2.1)), some (.int ((hcE (twR mi c0 c1 c2) hp (puR mi p).2.2.2.1 n (puR mi p) 0 (8 ^ n) 0 (0, -1, 0)).2.2)), some (.int (nI (8 ^ n))), o1, o2, o3], [.int ((hcE (twR mi c0 c1 c2) hp (puR mi p).2.2.2.1 n (puR mi p) 0 (8 ^ n) 0 (0, -1, 0)).1)], (HD, m', w', mr))) rfl ?_
          refine wp_ret rfl rfl ⟨⟨Nat.le_refl _, Nat.le_refl _⟩, ?_⟩
          exact ⟨by rw [← hV, if_pos c_81], m', w', rfl, h4.fq a1⟩
      · have c_7 : (nI n) = 2 := Decidable.not_not.mp (of_decide_eq_false c_7)
        refine wp_steps 2 (t' := (39, [some (.ref 84), some (.int (nI p)), some (.int (nI n)), some (.int hp), some (.int wh), none, none, none, none, none, none, none, none], [.int 64], (HD, mi, ml, mr))) rfl ?_
        have en : n = 2 := (nI_eq (a := n) (b := 2) (by omega) (by decide)).mp c_7
        rw [show (64 : Int32) = nI (8 ^ n) from by rw [en]; rfl]
        refine wp_steps 9 (t' := (48, [some (.ref 84), some (.int (nI p)), some (.int (nI n)), some (.int hp), some (.int wh), some (.int (nI (8 ^ n))), some (.int 0), some (.int (-1)), some (.int 0), none, none, none, none], [.int (nI p), .ref 84], (HD, mi, ml, mr))) rfl ?_
        refine wp_calv (as := [.int (nI p)]) rfl rfl rfl (Nat.le_of_ble_eq_true rfl) ⟨by decide, rfl⟩ ((r_aside (mi := mi) (ml := ml) hM hp5)) (by decide) ?_
        rintro _ _ ⟨rfl, m_1, rfl, a1⟩
        show aWP _ _ (49, [some (.ref 84), some (.int (nI p)), some (.int (nI n)), some (.int hp), some (.int wh), some (.int (nI (8 ^ n))), some (.int 0), some (.int (-1)), some (.int 0), none, none, none, none], [], (HD, m_1, ml, mr)) _
        refine wp_steps 2 (t' := (51, [some (.ref 84), some (.int (nI p)), some (.int (nI n)), some (.int hp), some (.int wh), some (.int (nI (8 ^ n))), some (.int 0), some (.int (-1)), some (.int 0), some (.int 0), none, none, none], [], (HD, m_1, ml, mr))) rfl ?_
        refine l_rcodes hM hp5 a1 hok hn rfl (8 ^ n) 0 m_1 ml (0, -1, 0) _ _ _ (by omega) (WY.of a1 hR hok) (fun m' w' o1 o2 o3 h4 => ?_)
        refine wp_steps 1 (t' := (117, [some (.ref 84), some (.int (nI p)), some (.int (nI n)), some (.int hp), some (.int wh), some (.int (nI (8 ^ n))), some (.int ((hcE (twR mi c0 c1 c2) hp (puR mi p).2.2.2.1 n (puR mi p) 0 (8 ^ n) 0 (0, -1, 0)).1)), some (.int ((hcE (twR mi c0 c1 c2) hp (puR mi p).2.2.2.1 n (puR mi p) 0 (8 ^ n) 0 (0, -1, 0)).2.1)), some (.int ((hcE (twR mi c0 c1 c2) hp (puR mi p).2.2.2.1 n (puR mi p) 0 (8 ^ n) 0 (0, -1, 0)).2.2)), some (.int (nI (8 ^ n))), o1, o2, o3], [.int wh], (HD, m', w', mr))) rfl ?_
        refine wp_bI rfl (fun c_81 => ?_) (fun c_81 => ?_)
        · have c_81 : ¬ wh = 0 := of_decide_eq_true c_81
          refine wp_steps 2 (t' := (122, [some (.ref 84), some (.int (nI p)), some (.int (nI n)), some (.int hp), some (.int wh), some (.int (nI (8 ^ n))), some (.int ((hcE (twR mi c0 c1 c2) hp (puR mi p).2.2.2.1 n (puR mi p) 0 (8 ^ n) 0 (0, -1, 0)).1)), some (.int ((hcE (twR mi c0 c1 c2) hp (puR mi p).2.2.2.1 n (puR mi p) 0 (8 ^ n) 0 (0, -1, 0)).2.1)), some (.int ((hcE (twR mi c0 c1 c2) hp (puR mi p).2.2.2.1 n (puR mi p) 0 (8 ^ n) 0 (0, -1, 0)).2.2)), some (.int (nI (8 ^ n))), o1, o2, o3], [.int 1, .int wh], (HD, m', w', mr))) rfl ?_
          refine wp_bC rfl (fun c_82 => ?_) (fun c_82 => ?_)
          · have c_82 : ¬ wh = 1 := of_decide_eq_true c_82
            refine wp_steps 1 (t' := (126, [some (.ref 84), some (.int (nI p)), some (.int (nI n)), some (.int hp), some (.int wh), some (.int (nI (8 ^ n))), some (.int ((hcE (twR mi c0 c1 c2) hp (puR mi p).2.2.2.1 n (puR mi p) 0 (8 ^ n) 0 (0, -1, 0)).1)), some (.int ((hcE (twR mi c0 c1 c2) hp (puR mi p).2.2.2.1 n (puR mi p) 0 (8 ^ n) 0 (0, -1, 0)).2.1)), some (.int ((hcE (twR mi c0 c1 c2) hp (puR mi p).2.2.2.1 n (puR mi p) 0 (8 ^ n) 0 (0, -1, 0)).2.2)), some (.int (nI (8 ^ n))), o1, o2, o3], [.int ((hcE (twR mi c0 c1 c2) hp (puR mi p).2.2.2.1 n (puR mi p) 0 (8 ^ n) 0 (0, -1, 0)).2.2)], (HD, m', w', mr))) rfl ?_
            refine wp_ret rfl rfl ⟨⟨Nat.le_refl _, Nat.le_refl _⟩, ?_⟩
            exact ⟨by rw [← hV, if_neg c_81, if_neg c_82], m', w', rfl, h4.fq a1⟩
          · have c_82 : wh = 1 := Decidable.not_not.mp (of_decide_eq_false c_82)
            refine wp_steps 2 (t' := (126, [some (.ref 84), some (.int (nI p)), some (.int (nI n)), some (.int hp), some (.int wh), some (.int (nI (8 ^ n))), some (.int ((hcE (twR mi c0 c1 c2) hp (puR mi p).2.2.2.1 n (puR mi p) 0 (8 ^ n) 0 (0, -1, 0)).1)), some (.int ((hcE (twR mi c0 c1 c2) hp (puR mi p).2.2.2.1 n (puR mi p) 0 (8 ^ n) 0 (0, -1, 0)).2.1)), some (.int ((hcE (twR mi c0 c1 c2) hp (puR mi p).2.2.2.1 n (puR mi p) 0 (8 ^ n) 0 (0, -1, 0)).2.2)), some (.int (nI (8 ^ n))), o1, o2, o3], [.int ((hcE (twR mi c0 c1 c2) hp (puR mi p).2.2.2.1 n (puR mi p) 0 (8 ^ n) 0 (0, -1, 0)).2.1)], (HD, m', w', mr))) rfl ?_
            refine wp_ret rfl rfl ⟨⟨Nat.le_refl _, Nat.le_refl _⟩, ?_⟩
            exact ⟨by rw [← hV, if_neg c_81, if_pos c_82], m', w', rfl, h4.fq a1⟩
        · have c_81 : wh = 0 := Decidable.not_not.mp (of_decide_eq_false c_81)
          refine wp_steps 2 (t' := (126, [some (.ref 84), some (.int (nI p)), some (.int (nI n)), some (.int hp), some (.int wh), some (.int (nI (8 ^ n))), some (.int ((hcE (twR mi c0 c1 c2) hp (puR mi p).2.2.2.1 n (puR mi p) 0 (8 ^ n) 0 (0, -1, 0)).1)), some (.int ((hcE (twR mi c0 c1 c2) hp (puR mi p).2.2.2.1 n (puR mi p) 0 (8 ^ n) 0 (0, -1, 0)).2.1)), some (.int ((hcE (twR mi c0 c1 c2) hp (puR mi p).2.2.2.1 n (puR mi p) 0 (8 ^ n) 0 (0, -1, 0)).2.2)), some (.int (nI (8 ^ n))), o1, o2, o3], [.int ((hcE (twR mi c0 c1 c2) hp (puR mi p).2.2.2.1 n (puR mi p) 0 (8 ^ n) 0 (0, -1, 0)).1)], (HD, m', w', mr))) rfl ?_
          refine wp_ret rfl rfl ⟨⟨Nat.le_refl _, Nat.le_refl _⟩, ?_⟩
          exact ⟨by rw [← hV, if_pos c_81], m', w', rfl, h4.fq a1⟩
    · have c_6 : (nI n) = 1 := Decidable.not_not.mp (of_decide_eq_false c_6)
      refine wp_steps 2 (t' := (39, [some (.ref 84), some (.int (nI p)), some (.int (nI n)), some (.int hp), some (.int wh), none, none, none, none, none, none, none, none], [.int 8], (HD, mi, ml, mr))) rfl ?_
      have en : n = 1 := (nI_eq (a := n) (b := 1) (by omega) (by decide)).mp c_6
      rw [show (8 : Int32) = nI (8 ^ n) from by rw [en]; rfl]
      refine wp_steps 9 (t' := (48, [some (.ref 84), some (.int (nI p)), some (.int (nI n)), some (.int hp), some (.int wh), some (.int (nI (8 ^ n))), some (.int 0), some (.int (-1)), some (.int 0), none, none, none, none], [.int (nI p), .ref 84], (HD, mi, ml, mr))) rfl ?_
      refine wp_calv (as := [.int (nI p)]) rfl rfl rfl (Nat.le_of_ble_eq_true rfl) ⟨by decide, rfl⟩ ((r_aside (mi := mi) (ml := ml) hM hp5)) (by decide) ?_
      rintro _ _ ⟨rfl, m_1, rfl, a1⟩
      show aWP _ _ (49, [some (.ref 84), some (.int (nI p)), some (.int (nI n)), some (.int hp), some (.int wh), some (.int (nI (8 ^ n))), some (.int 0), some (.int (-1)), some (.int 0), none, none, none, none], [], (HD, m_1, ml, mr)) _
      refine wp_steps 2 (t' := (51, [some (.ref 84), some (.int (nI p)), some (.int (nI n)), some (.int hp), some (.int wh), some (.int (nI (8 ^ n))), some (.int 0), some (.int (-1)), some (.int 0), some (.int 0), none, none, none], [], (HD, m_1, ml, mr))) rfl ?_
      refine l_rcodes hM hp5 a1 hok hn rfl (8 ^ n) 0 m_1 ml (0, -1, 0) _ _ _ (by omega) (WY.of a1 hR hok) (fun m' w' o1 o2 o3 h4 => ?_)
      refine wp_steps 1 (t' := (117, [some (.ref 84), some (.int (nI p)), some (.int (nI n)), some (.int hp), some (.int wh), some (.int (nI (8 ^ n))), some (.int ((hcE (twR mi c0 c1 c2) hp (puR mi p).2.2.2.1 n (puR mi p) 0 (8 ^ n) 0 (0, -1, 0)).1)), some (.int ((hcE (twR mi c0 c1 c2) hp (puR mi p).2.2.2.1 n (puR mi p) 0 (8 ^ n) 0 (0, -1, 0)).2.1)), some (.int ((hcE (twR mi c0 c1 c2) hp (puR mi p).2.2.2.1 n (puR mi p) 0 (8 ^ n) 0 (0, -1, 0)).2.2)), some (.int (nI (8 ^ n))), o1, o2, o3], [.int wh], (HD, m', w', mr))) rfl ?_
      refine wp_bI rfl (fun c_81 => ?_) (fun c_81 => ?_)
      · have c_81 : ¬ wh = 0 := of_decide_eq_true c_81
        refine wp_steps 2 (t' := (122, [some (.ref 84), some (.int (nI p)), some (.int (nI n)), some (.int hp), some (.int wh), some (.int (nI (8 ^ n))), some (.int ((hcE (twR mi c0 c1 c2) hp (puR mi p).2.2.2.1 n (puR mi p) 0 (8 ^ n) 0 (0, -1, 0)).1)), some (.int ((hcE (twR mi c0 c1 c2) hp (puR mi p).2.2.2.1 n (puR mi p) 0 (8 ^ n) 0 (0, -1, 0)).2.1)), some (.int ((hcE (twR mi c0 c1 c2) hp (puR mi p).2.2.2.1 n (puR mi p) 0 (8 ^ n) 0 (0, -1, 0)).2.2)), some (.int (nI (8 ^ n))), o1, o2, o3], [.int 1, .int wh], (HD, m', w', mr))) rfl ?_
        refine wp_bC rfl (fun c_82 => ?_) (fun c_82 => ?_)
        · have c_82 : ¬ wh = 1 := of_decide_eq_true c_82
          refine wp_steps 1 (t' := (126, [some (.ref 84), some (.int (nI p)), some (.int (nI n)), some (.int hp), some (.int wh), some (.int (nI (8 ^ n))), some (.int ((hcE (twR mi c0 c1 c2) hp (puR mi p).2.2.2.1 n (puR mi p) 0 (8 ^ n) 0 (0, -1, 0)).1)), some (.int ((hcE (twR mi c0 c1 c2) hp (puR mi p).2.2.2.1 n (puR mi p) 0 (8 ^ n) 0 (0, -1, 0)).2.1)), some (.int ((hcE (twR mi c0 c1 c2) hp (puR mi p).2.2.2.1 n (puR mi p) 0 (8 ^ n) 0 (0, -1, 0)).2.2)), some (.int (nI (8 ^ n))), o1, o2, o3], [.int ((hcE (twR mi c0 c1 c2) hp (puR mi p).2.2.2.1 n (puR mi p) 0 (8 ^ n) 0 (0, -1, 0)).2.2)], (HD, m', w', mr))) rfl ?_
          refine wp_ret rfl rfl ⟨⟨Nat.le_refl _, Nat.le_refl _⟩, ?_⟩
          exact ⟨by rw [← hV, if_neg c_81, if_neg c_82], m', w', rfl, h4.fq a1⟩
        · have c_82 : wh = 1 := Decidable.not_not.mp (of_decide_eq_false c_82)
          refine wp_steps 2 (t' := (126, [some (.ref 84), some (.int (nI p)), some (.int (nI n)), some (.int hp), some (.int wh), some (.int (nI (8 ^ n))), some (.int ((hcE (twR mi c0 c1 c2) hp (puR mi p).2.2.2.1 n (puR mi p) 0 (8 ^ n) 0 (0, -1, 0)).1)), some (.int ((hcE (twR mi c0 c1 c2) hp (puR mi p).2.2.2.1 n (puR mi p) 0 (8 ^ n) 0 (0, -1, 0)).2.1)), some (.int ((hcE (twR mi c0 c1 c2) hp (puR mi p).2.2.2.1 n (puR mi p) 0 (8 ^ n) 0 (0, -1, 0)).2.2)), some (.int (nI (8 ^ n))), o1, o2, o3], [.int ((hcE (twR mi c0 c1 c2) hp (puR mi p).2.2.2.1 n (puR mi p) 0 (8 ^ n) 0 (0, -1, 0)).2.1)], (HD, m', w', mr))) rfl ?_
          refine wp_ret rfl rfl ⟨⟨Nat.le_refl _, Nat.le_refl _⟩, ?_⟩
          exact ⟨by rw [← hV, if_neg c_81, if_pos c_82], m', w', rfl, h4.fq a1⟩
      · have c_81 : wh = 0 := Decidable.not_not.mp (of_decide_eq_false c_81)
        refine wp_steps 2 (t' := (126, [some (.ref 84), some (.int (nI p)), some (.int (nI n)), some (.int hp), some (.int wh), some (.int (nI (8 ^ n))), some (.int ((hcE (twR mi c0 c1 c2) hp (puR mi p).2.2.2.1 n (puR mi p) 0 (8 ^ n) 0 (0, -1, 0)).1)), some (.int ((hcE (twR mi c0 c1 c2) hp (puR mi p).2.2.2.1 n (puR mi p) 0 (8 ^ n) 0 (0, -1, 0)).2.1)), some (.int ((hcE (twR mi c0 c1 c2) hp (puR mi p).2.2.2.1 n (puR mi p) 0 (8 ^ n) 0 (0, -1, 0)).2.2)), some (.int (nI (8 ^ n))), o1, o2, o3], [.int ((hcE (twR mi c0 c1 c2) hp (puR mi p).2.2.2.1 n (puR mi p) 0 (8 ^ n) 0 (0, -1, 0)).1)], (HD, m', w', mr))) rfl ?_
        refine wp_ret rfl rfl ⟨⟨Nat.le_refl _, Nat.le_refl _⟩, ?_⟩
        exact ⟨by rw [← hV, if_pos c_81], m', w', rfl, h4.fq a1⟩
  · have c_5 : (nI n) = 0 := Decidable.not_not.mp (of_decide_eq_false c_5)
    refine wp_steps 2 (t' := (39, [some (.ref 84), some (.int (nI p)), some (.int (nI n)), some (.int hp), some (.int wh), none, none, none, none, none, none, none, none], [.int 1], (HD, mi, ml, mr))) rfl ?_
    have en : n = 0 := (nI_eq (a := n) (b := 0) (by omega) (by decide)).mp c_5
    rw [show (1 : Int32) = nI (8 ^ n) from by rw [en]; rfl]
    refine wp_steps 9 (t' := (48, [some (.ref 84), some (.int (nI p)), some (.int (nI n)), some (.int hp), some (.int wh), some (.int (nI (8 ^ n))), some (.int 0), some (.int (-1)), some (.int 0), none, none, none, none], [.int (nI p), .ref 84], (HD, mi, ml, mr))) rfl ?_
    refine wp_calv (as := [.int (nI p)]) rfl rfl rfl (Nat.le_of_ble_eq_true rfl) ⟨by decide, rfl⟩ ((r_aside (mi := mi) (ml := ml) hM hp5)) (by decide) ?_
    rintro _ _ ⟨rfl, m_1, rfl, a1⟩
    show aWP _ _ (49, [some (.ref 84), some (.int (nI p)), some (.int (nI n)), some (.int hp), some (.int wh), some (.int (nI (8 ^ n))), some (.int 0), some (.int (-1)), some (.int 0), none, none, none, none], [], (HD, m_1, ml, mr)) _
    refine wp_steps 2 (t' := (51, [some (.ref 84), some (.int (nI p)), some (.int (nI n)), some (.int hp), some (.int wh), some (.int (nI (8 ^ n))), some (.int 0), some (.int (-1)), some (.int 0), some (.int 0), none, none, none], [], (HD, m_1, ml, mr))) rfl ?_
    refine l_rcodes hM hp5 a1 hok hn rfl (8 ^ n) 0 m_1 ml (0, -1, 0) _ _ _ (by omega) (WY.of a1 hR hok) (fun m' w' o1 o2 o3 h4 => ?_)
    refine wp_steps 1 (t' := (117, [some (.ref 84), some (.int (nI p)), some (.int (nI n)), some (.int hp), some (.int wh), some (.int (nI (8 ^ n))), some (.int ((hcE (twR mi c0 c1 c2) hp (puR mi p).2.2.2.1 n (puR mi p) 0 (8 ^ n) 0 (0, -1, 0)).1)), some (.int ((hcE (twR mi c0 c1 c2) hp (puR mi p).2.2.2.1 n (puR mi p) 0 (8 ^ n) 0 (0, -1, 0)).2.1)), some (.int ((hcE (twR mi c0 c1 c2) hp (puR mi p).2.2.2.1 n (puR mi p) 0 (8 ^ n) 0 (0, -1, 0)).2.2)), some (.int (nI (8 ^ n))), o1, o2, o3], [.int wh], (HD, m', w', mr))) rfl ?_
    refine wp_bI rfl (fun c_81 => ?_) (fun c_81 => ?_)
    · have c_81 : ¬ wh = 0 := of_decide_eq_true c_81
      refine wp_steps 2 (t' := (122, [some (.ref 84), some (.int (nI p)), some (.int (nI n)), some (.int hp), some (.int wh), some (.int (nI (8 ^ n))), some (.int ((hcE (twR mi c0 c1 c2) hp (puR mi p).2.2.2.1 n (puR mi p) 0 (8 ^ n) 0 (0, -1, 0)).1)), some (.int ((hcE (twR mi c0 c1 c2) hp (puR mi p).2.2.2.1 n (puR mi p) 0 (8 ^ n) 0 (0, -1, 0)).2.1)), some (.int ((hcE (twR mi c0 c1 c2) hp (puR mi p).2.2.2.1 n (puR mi p) 0 (8 ^ n) 0 (0, -1, 0)).2.2)), some (.int (nI (8 ^ n))), o1, o2, o3], [.int 1, .int wh], (HD, m', w', mr))) rfl ?_
      refine wp_bC rfl (fun c_82 => ?_) (fun c_82 => ?_)
      · have c_82 : ¬ wh = 1 := of_decide_eq_true c_82
        refine wp_steps 1 (t' := (126, [some (.ref 84), some (.int (nI p)), some (.int (nI n)), some (.int hp), some (.int wh), some (.int (nI (8 ^ n))), some (.int ((hcE (twR mi c0 c1 c2) hp (puR mi p).2.2.2.1 n (puR mi p) 0 (8 ^ n) 0 (0, -1, 0)).1)), some (.int ((hcE (twR mi c0 c1 c2) hp (puR mi p).2.2.2.1 n (puR mi p) 0 (8 ^ n) 0 (0, -1, 0)).2.1)), some (.int ((hcE (twR mi c0 c1 c2) hp (puR mi p).2.2.2.1 n (puR mi p) 0 (8 ^ n) 0 (0, -1, 0)).2.2)), some (.int (nI (8 ^ n))), o1, o2, o3], [.int ((hcE (twR mi c0 c1 c2) hp (puR mi p).2.2.2.1 n (puR mi p) 0 (8 ^ n) 0 (0, -1, 0)).2.2)], (HD, m', w', mr))) rfl ?_
        refine wp_ret rfl rfl ⟨⟨Nat.le_refl _, Nat.le_refl _⟩, ?_⟩
        exact ⟨by rw [← hV, if_neg c_81, if_neg c_82], m', w', rfl, h4.fq a1⟩
      · have c_82 : wh = 1 := Decidable.not_not.mp (of_decide_eq_false c_82)
        refine wp_steps 2 (t' := (126, [some (.ref 84), some (.int (nI p)), some (.int (nI n)), some (.int hp), some (.int wh), some (.int (nI (8 ^ n))), some (.int ((hcE (twR mi c0 c1 c2) hp (puR mi p).2.2.2.1 n (puR mi p) 0 (8 ^ n) 0 (0, -1, 0)).1)), some (.int ((hcE (twR mi c0 c1 c2) hp (puR mi p).2.2.2.1 n (puR mi p) 0 (8 ^ n) 0 (0, -1, 0)).2.1)), some (.int ((hcE (twR mi c0 c1 c2) hp (puR mi p).2.2.2.1 n (puR mi p) 0 (8 ^ n) 0 (0, -1, 0)).2.2)), some (.int (nI (8 ^ n))), o1, o2, o3], [.int ((hcE (twR mi c0 c1 c2) hp (puR mi p).2.2.2.1 n (puR mi p) 0 (8 ^ n) 0 (0, -1, 0)).2.1)], (HD, m', w', mr))) rfl ?_
        refine wp_ret rfl rfl ⟨⟨Nat.le_refl _, Nat.le_refl _⟩, ?_⟩
        exact ⟨by rw [← hV, if_neg c_81, if_pos c_82], m', w', rfl, h4.fq a1⟩
    · have c_81 : wh = 0 := Decidable.not_not.mp (of_decide_eq_false c_81)
      refine wp_steps 2 (t' := (126, [some (.ref 84), some (.int (nI p)), some (.int (nI n)), some (.int hp), some (.int wh), some (.int (nI (8 ^ n))), some (.int ((hcE (twR mi c0 c1 c2) hp (puR mi p).2.2.2.1 n (puR mi p) 0 (8 ^ n) 0 (0, -1, 0)).1)), some (.int ((hcE (twR mi c0 c1 c2) hp (puR mi p).2.2.2.1 n (puR mi p) 0 (8 ^ n) 0 (0, -1, 0)).2.1)), some (.int ((hcE (twR mi c0 c1 c2) hp (puR mi p).2.2.2.1 n (puR mi p) 0 (8 ^ n) 0 (0, -1, 0)).2.2)), some (.int (nI (8 ^ n))), o1, o2, o3], [.int ((hcE (twR mi c0 c1 c2) hp (puR mi p).2.2.2.1 n (puR mi p) 0 (8 ^ n) 0 (0, -1, 0)).1)], (HD, m', w', mr))) rfl ?_
      refine wp_ret rfl rfl ⟨⟨Nat.le_refl _, Nat.le_refl _⟩, ?_⟩
      exact ⟨by rw [← hV, if_pos c_81], m', w', rfl, h4.fq a1⟩
theorem dgU_c {t : tW} {hp : Int32} : ∀ (r c q : Nat) (u : pU), dgU t hp (c + q * 8 ^ r) r u = dgU t hp c r u
  | 0, _, _, _ => rfl
  | r + 1, c, q, u => by
    have e : (c + q * 8 ^ (r + 1)) / 8 ^ r % 8 = c / 8 ^ r % 8 := by
      rw [Nat.pow_succ, show q * (8 ^ r * 8) = 8 ^ r * (q * 8) by rw [Nat.mul_left_comm], Nat.add_mul_div_left _ _ (p8_pos r), Nat.add_mul_mod_self_right]
    show dgU t hp (c + q * 8 ^ (r + 1)) r (hrG t u ((c + q * 8 ^ (r + 1)) / 8 ^ r % 8) hp) = dgU t hp c r (hrG t u (c / 8 ^ r % 8) hp)
    rw [e, Nat.pow_succ, show q * (8 ^ r * 8) = q * 8 * 8 ^ r by rw [Nat.mul_assoc, Nat.mul_comm 8], dgU_c r c (q * 8)]
theorem dgA_c : ∀ (r c q : Nat) (a : Int32), dgA (c + q * 8 ^ r) r a = dgA c r a
  | 0, _, _, _ => rfl
  | r + 1, c, q, a => by
    have e : (c + q * 8 ^ (r + 1)) / 8 ^ r % 8 = c / 8 ^ r % 8 := by
      rw [Nat.pow_succ, show q * (8 ^ r * 8) = 8 ^ r * (q * 8) by rw [Nat.mul_left_comm], Nat.add_mul_div_left _ _ (p8_pos r), Nat.add_mul_mod_self_right]
    show dgA (c + q * 8 ^ (r + 1)) r (10 * a + nI ((c + q * 8 ^ (r + 1)) / 8 ^ r % 8) + 1) = dgA c r (10 * a + nI (c / 8 ^ r % 8) + 1)
    rw [e, Nat.pow_succ, show q * (8 ^ r * 8) = q * 8 * 8 ^ r by rw [Nat.mul_assoc, Nat.mul_comm 8], dgA_c r c (q * 8)]
theorem hcE_add {t : tW} {hp b0 : Int32} {n : Nat} {u : pU} {dg : Int32} : ∀ (g h k : Nat) (a : aRw), hcE t hp b0 n u dg (g + h) k a = hcE t hp b0 n u dg h (k + g) (hcE t hp b0 n u dg g k a)
  | 0, h, k, a => by rw [Nat.zero_add]; rfl
  | g + 1, h, k, a => by
    rw [show g + 1 + h = (g + h) + 1 by omega]
    show hcE t hp b0 n u dg (g + h) (k + 1) _ = hcE t hp b0 n u dg h (k + (g + 1)) (hcE t hp b0 n u dg g (k + 1) _)
    rw [hcE_add g h (k + 1), show k + 1 + g = k + (g + 1) by omega]
/-- a first digit -/
theorem hcE_d {t : tW} {hp b0 : Int32} {r s : Nat} (hs : s < 8) {u : pU} {dg : Int32} : ∀ (g k : Nat) (a : aRw), k + g ≤ 8 ^ r → hcE t hp b0 (r + 1) u dg g (k + s * 8 ^ r) a = hcE t hp b0 r (hrG t u s hp) (10 * dg + nI s + 1) g k a
  | 0, _, _, _ => rfl
  | g + 1, k, a, h => by
    have e : (k + s * 8 ^ r) / 8 ^ r % 8 = s := by
      rw [Nat.mul_comm s, Nat.add_mul_div_left _ _ (p8_pos r), Nat.div_eq_of_lt (by omega), Nat.zero_add]
      exact Nat.mod_eq_of_lt hs
    have e1 : dgU t hp (k + s * 8 ^ r) (r + 1) u = dgU t hp k r (hrG t u s hp) := by
      show dgU t hp (k + s * 8 ^ r) r (hrG t u ((k + s * 8 ^ r) / 8 ^ r % 8) hp) = _
      rw [e, dgU_c]
    have e2 : dgA (k + s * 8 ^ r) (r + 1) dg = dgA k r (10 * dg + nI s + 1) := by
      show dgA (k + s * 8 ^ r) r (10 * dg + nI ((k + s * 8 ^ r) / 8 ^ r % 8) + 1) = _
      rw [e, dgA_c]
    show hcE t hp b0 (r + 1) u dg g (k + s * 8 ^ r + 1) (trB t b0 (dgU t hp (k + s * 8 ^ r) (r + 1) u) (dgA (k + s * 8 ^ r) (r + 1) dg) a) = hcE t hp b0 r (hrG t u s hp) (10 * dg + nI s + 1) g (k + 1) (trB t b0 (dgU t hp k r (hrG t u s hp)) (dgA k r (10 * dg + nI s + 1)) a)
    rw [e1, e2, show k + s * 8 ^ r + 1 = (k + 1) + s * 8 ^ r by omega]
    exact hcE_d hs g (k + 1) _ (by omega)
theorem hcE_G {t : tW} {hp b0 : Int32} : ∀ (r : Nat) (u : pU) (dg : Int32) (a : aRw), hcE t hp b0 r u dg (8 ^ r) 0 a = trG t hp b0 r u dg a
  | 0, _, _, _ => rfl
  | r + 1, u, dg, a => by
    have q : ∀ (g s : Nat) (a : aRw), s + g = 8 → hcE t hp b0 (r + 1) u dg (g * 8 ^ r) (s * 8 ^ r) a = trL (trG t hp b0 r) t hp u dg g s a := by
      intro g
      induction g with
      | zero => intro s a _; rw [Nat.zero_mul]; rfl
      | succ g ih =>
        intro s a hg
        rw [show (g + 1) * 8 ^ r = 8 ^ r + g * 8 ^ r by rw [Nat.add_mul, Nat.one_mul, Nat.add_comm], hcE_add, show s * 8 ^ r + 8 ^ r = (s + 1) * 8 ^ r by rw [Nat.add_mul, Nat.one_mul], ih (s + 1) _ (by omega)]
        have z := hcE_d (t := t) (hp := hp) (b0 := b0) (r := r) (s := s) (by omega) (u := u) (dg := dg) (8 ^ r) 0 a (by omega)
        rw [Nat.zero_add] at z
        rw [z, hcE_G r]
        rfl
    have z := q 8 0 a rfl
    rw [Nat.zero_mul] at z
    rw [Nat.pow_succ, Nat.mul_comm, z]
    rfl
theorem r_hours_ok {X : aXt × Value} {mi : Nat → Nat → Int32} {ml : Nat → Nat → Int64} {mr : Nat → Nat → Option Nat} (hM : MRok mr) {N : Nat} (hN : mi 84 12 = nI N) (hN5 : N ≤ 5) {c0 c1 c2 : List Int32} (hR : RUX mi c0 c1 c2) {p : Nat} (hpN : p < N) (hok : okU (puR mi p)) {n hp w : Int32} : aCW X 49 190 [.ref 84, .int (nI p), .int n, .int hp, .int w] (HD, mi, ml, mr) (qR mi mr (.int (if inR 0 3 n ∧ aixn hp 3 = true ∧ inR 0 2 w then hwG (twR mi c0 c1 c2) (puR mi p) n.toNatClampNeg hp w else -2))) := by
  by_cases g : inR 0 3 n ∧ aixn hp 3 = true ∧ inR 0 2 w
  · rw [if_pos g]
    have q := rI.mp g.1
    rw [show (0 : Int32).toInt = 0 from rfl, show (3 : Int32).toInt = 3 from rfl] at q
    have e : n = nI n.toNatClampNeg := (aix_eq (n := 4) ((aix_iff (by decide)).mpr ⟨fun z => by
      rw [Int32.lt_iff_toInt_lt, show (0 : Int32).toInt = 0 from rfl] at z
      omega, fun z => by
      rw [Int32.le_iff_toInt_le, nI_toInt (by decide)] at z
      omega⟩)).1
    have l : n.toNatClampNeg ≤ 3 := by
      have z := congrArg Int32.toInt e
      have z2 : n.toNatClampNeg = n.toInt.toNat := rfl
      omega
    have f := r_hours_n (X := X) (ml := ml) hM hN hN5 hR hpN hok l g.2.1 g.2.2
    rw [hcE_G] at f
    rw [← e] at f
    exact f
  · rw [if_neg g]
    refine cw_up (by decide) (cw_mono (r_hours_x hM hN hN5 hpN g) ?_)
    rintro r h ⟨e, e2⟩
    exact ⟨e, mi, ml, e2, frQ.rf mi⟩
