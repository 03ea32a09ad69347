/-! what the reference's texts say; learns, forgets, nerve, over, manages (written by wip/whole/mkref9.py) -/
def puR (m : Nat → Nat → Int32) (p : Nat) : pU := (m 89 p, m 90 p, m 91 (10 * p + 8), m 91 (10 * p + 9), c8 (fun j => m 91 (10 * p + j)))
def twR (m : Nat → Nat → Int32) (c0 c1 c2 : List Int32) : tW := (c8 (m 88), m 84 7, c0, c1, c2)
/-- alike but for names and reading -/
def frY (m m' : Nat → Nat → Int32) : Prop := ∀ k j, ¬ (k = 84 ∧ 13 ≤ j ∧ j ≤ 27) → m' k j = m k j
theorem frY.rf (m : Nat → Nat → Int32) : frY m m := fun _ _ _ => rfl
theorem frY.tr {a b c : Nat → Nat → Int32} (h : frY a b) (k : frY b c) : frY a c := fun x y q => (k x y q).trans (h x y q)
theorem frY.row {m m' : Nat → Nat → Int32} (h : frY m m') {k : Nat} (hk : k ≠ 84) : m' k = m k := funext fun j => h k j (fun z => hk z.1)
theorem puR_Y {m m' : Nat → Nat → Int32} (h : frY m m') (p : Nat) : puR m' p = puR m p := by
  unfold puR
  rw [h.row (k := 89) (by decide), h.row (k := 90) (by decide), h.row (k := 91) (by decide)]
theorem twR_Y {m m' : Nat → Nat → Int32} (h : frY m m') (c0 c1 c2 : List Int32) : twR m' c0 c1 c2 = twR m c0 c1 c2 := by
  unfold twR
  rw [h.row (k := 88) (by decide), h 84 7 (by omega)]
/-- text t of the reference, n bytes, is a text of these parts -/
def RTX (m : Nat → Nat → Int32) (t n : Nat) (v0 : Int32) (c0 c1 c2 : List Int32) : Prop := n ≤ 160 ∧ m 86 t = nI n ∧ nnB (txB m t n) n ∧ (rfF (txB m t n) n v0).1 = true ∧ (r1F (txB m t n) n v0).2.2.2.2.2 = c0 ∧ (r2F (txB m t n) n v0).2.2.2.2.2 = c0 ++ c1 ∧ (r3F (txB m t n) n v0).2.2.2.2.2 = c0 ++ c1 ++ c2
theorem RTX.fr {m m' : Nat → Nat → Int32} {t n : Nat} {v0 : Int32} {c0 c1 c2 : List Int32} (h : RTX m t n v0 c0 c1 c2) (h1 : ∀ j, j < 160 → m' 85 (160 * t + j) = m 85 (160 * t + j)) (h2 : m' 86 t = m 86 t) : RTX m' t n v0 c0 c1 c2 := by
  obtain ⟨a1, a2, a3⟩ := h
  have e : txB m' t n = txB m t n := by
    unfold txB byN
    funext x
    split
    · exact h1 x (by omega)
    · rfl
  unfold RTX
  rw [e, h2]
  exact ⟨a1, a2, a3⟩
/-- the rule's parts -/
def RUX (m : Nat → Nat → Int32) (c0 c1 c2 : List Int32) : Prop := ∃ R n v0, R < 6 ∧ m 84 4 = nI R ∧ RTX m R n v0 c0 c1 c2
theorem RUX.Y {m m' : Nat → Nat → Int32} {c0 c1 c2 : List Int32} (h : RUX m c0 c1 c2) (f : frY m m') : RUX m' c0 c1 c2 := by
  obtain ⟨R, n, v0, h1, h2, h3⟩ := h
  exact ⟨R, n, v0, h1, (f _ _ (by omega)).trans h2, h3.fr (fun j _ => f _ _ (by omega)) (f _ _ (by omega))⟩
theorem tvC_ev {nm : Nat → Int32} {nd : Nat} {cs : List Int32} {v : Int32} (h : evP nm nd cs v) : tvC cs nm = v := by
  unfold tvC
  rw [h.1]
  rfl
def cW (c0 c1 c2 : List Int32) (wh : Int32) : List Int32 := if wh = 0 then c0 else if wh = 1 then c1 else c2
theorem r_read_ok {X : aXt × Value} {mi : Nat → Nat → Int32} {ml : Nat → Nat → Int64} {mr : Nat → Nat → Option Nat} (hM : MRok mr) {t n : Nat} (ht : t < 6) {v0 : Int32} {c0 c1 c2 : List Int32} (hx : RTX mi t n v0 c0 c1 c2) {nm : Nat → Int32} (hnm : nmO mi nm) {wh : Int32} : aCW X 42 170 [.ref 84, .int (nI t), .int wh] (HD, mi, ml, mr) (fun r h' => r = some (.int (tvC (cW c0 c1 c2 wh) nm)) ∧ ∃ m' w', h' = (HD, m', w', mr) ∧ frD mi m') := by
  obtain ⟨a1, a2, a3, a4, a5, a6, a7⟩ := hx
  obtain ⟨r, h', g, v, m', w', e1, e2, f, k1, _⟩ := r_read (X := X) (ml := ml) hM ht a1 a2 a3 v0 hnm (wh := wh)
  refine ⟨r, h', g, ?_, m', w', e2, f⟩
  obtain ⟨_, p, q, z, ⟨d0, b1, _, b3⟩, ⟨d1, b4, _, b6⟩, ⟨d2, b7, _, b9⟩, ev⟩ := k1 a4
  have e0 : c0 = d0 := by rw [← a5, b1]; rfl
  have x1 : c0 ++ c1 = c0 ++ d1 := by rw [← a6, b4, a5]
  have x2 : c0 ++ c1 ++ c2 = c0 ++ c1 ++ d2 := by rw [← a7, b7, a6]
  have f1 : c1 = d1 := List.append_cancel_left x1
  have f2 : c2 = d2 := List.append_cancel_left x2
  subst e0; subst f1; subst f2
  rw [e1, ev]
  unfold cW
  by_cases w0 : wh = 0
  · rw [if_pos w0, if_pos w0, tvC_ev b3]
  · rw [if_neg w0, if_neg w0]
    by_cases w1 : wh = 1
    · rw [if_pos w1, if_pos w1, tvC_ev b6]
    · rw [if_neg w1, if_neg w1, tvC_ev b9]
set_option maxRecDepth 20000 in
set_option maxHeartbeats 1000000 in
theorem c_within {X : aXt × Value} {mi : Nat → Nat → Int32} {ml : Nat → Nat → Int64} {mr : Nat → Nat → Option Nat} {v lo hi : Int32} (_h : lo ≤ hi) : aCW X 1 112 [.int v, .int lo, .int hi] (HD, mi, ml, mr) (rdI mi ml mr (cl lo hi v)) := by
  refine cw_of (cd := cd_X7_within) (nL := 3) rfl rfl ?_
  show aWP _ _ (0, [some (.int v), some (.int lo), some (.int hi)], [], (HD, mi, ml, mr)) _
  refine wp_steps 2 (t' := (2, [some (.int v), some (.int lo), some (.int hi)], [.int lo, .int v], (HD, mi, ml, mr))) rfl ?_
  refine wp_bC rfl (fun c_1 => ?_) (fun c_1 => ?_)
  · have c_1 : lo ≤ v := of_decide_eq_true c_1
    refine wp_steps 2 (t' := (7, [some (.int v), some (.int lo), some (.int hi)], [.int hi, .int v], (HD, mi, ml, mr))) rfl ?_
    refine wp_bC rfl (fun c_2 => ?_) (fun c_2 => ?_)
    · have c_2 : v ≤ hi := of_decide_eq_true c_2
      refine wp_steps 1 (t' := (11, [some (.int v), some (.int lo), some (.int hi)], [.int v], (HD, mi, ml, mr))) rfl ?_
      refine wp_ret rfl rfl ⟨⟨Nat.le_refl _, Nat.le_refl _⟩, ?_⟩
      exact ⟨by unfold cl; rw [if_neg (Int32.not_lt.mpr c_1), if_neg (Int32.not_lt.mpr c_2)], rfl⟩
    · have c_2 : ¬ (v ≤ hi) := of_decide_eq_false c_2
      refine wp_steps 2 (t' := (11, [some (.int v), some (.int lo), some (.int hi)], [.int hi], (HD, mi, ml, mr))) rfl ?_
      refine wp_ret rfl rfl ⟨⟨Nat.le_refl _, Nat.le_refl _⟩, ?_⟩
      exact ⟨by unfold cl; rw [if_neg (Int32.not_lt.mpr c_1), if_pos (Int32.not_le.mp c_2)], rfl⟩
  · have c_1 : ¬ (lo ≤ v) := of_decide_eq_false c_1
    refine wp_steps 2 (t' := (11, [some (.int v), some (.int lo), some (.int hi)], [.int lo], (HD, mi, ml, mr))) rfl ?_
    refine wp_ret rfl rfl ⟨⟨Nat.le_refl _, Nat.le_refl _⟩, ?_⟩
    exact ⟨by unfold cl; rw [if_pos (Int32.not_le.mp c_1)], rfl⟩
set_option maxRecDepth 20000 in
set_option maxHeartbeats 1000000 in
theorem c_rat_n {X : aXt × Value} {mi : Nat → Nat → Int32} {ml : Nat → Nat → Int64} {mr : Nat → Nat → Option Nat} {p s : Nat} : aCW X 1 117 [.int (nI p), .int (nI s)] (HD, mi, ml, mr) (rdI mi ml mr (nI (10 * p + s))) := by
  refine cw_of (cd := cd_X7_at) (nL := 2) rfl rfl ?_
  show aWP _ _ (0, [some (.int (nI p)), some (.int (nI s))], [], (HD, mi, ml, mr)) _
  refine wp_steps 5 (t' := (5, [some (.int (nI p)), some (.int (nI s))], [.int ((10 * (nI p)) + (nI s))], (HD, mi, ml, mr))) rfl ?_
  refine wp_ret rfl rfl ⟨⟨Nat.le_refl _, Nat.le_refl _⟩, ?_⟩
  exact ⟨by rw [← nI_add]; congr 2; exact congrArg (· + nI s) (Int32.ofNat_mul 10 p).symm, rfl⟩
set_option maxRecDepth 20000 in
set_option maxHeartbeats 1000000 in
theorem r_says {X : aXt × Value} {mi : Nat → Nat → Int32} {ml : Nat → Nat → Int64} {mr : Nat → Nat → Option Nat} (hM : MRok mr) {c0 c1 c2 : List Int32} (hR : RUX mi c0 c1 c2) {p s : Nat} (hp : p < 5) (hs : s < 8) {wh h1 : Int32} : aCW X 43 173 [.ref 84, .int wh, .int (nI p), .int (nI s), .int h1] (HD, mi, ml, mr) (fun r h' => r = some (.int (cl (if wh = 2 then -99 else 0) 99 (tvC (cW c0 c1 c2 wh) (nmF (mi 91 (10 * p + s)) (mi 88 s) h1 (mi 90 p) (mi 84 7) (mi 91 (10 * p + 8)))))) ∧ ∃ m' w', h' = (HD, m', w', mr) ∧ frY mi m') := by
  obtain ⟨R, n, v0, hR6, hR4, hx⟩ := hR
  refine cw_of (cd := cd_X7_says) (nL := 6) rfl rfl ?_
  show aWP _ _ (0, [some (.ref 84), some (.int wh), some (.int (nI p)), some (.int (nI s)), some (.int h1), none], [], (HD, mi, ml, mr)) _
  refine wp_steps 2 (t' := (2, [some (.ref 84), some (.int wh), some (.int (nI p)), some (.int (nI s)), some (.int h1), none], [.ref 84, .ref 84], (HD, mi, ml, mr))) rfl ?_
  refine wp_getr rfl ⟨by decide, rfl⟩ rfl (hM (84, 11, 91) (by decide)) ?_
  refine wp_steps 2 (t' := (5, [some (.ref 84), some (.int wh), some (.int (nI p)), some (.int (nI s)), some (.int h1), none], [.int (nI s), .int (nI p), .ref 91, .ref 84], (HD, mi, ml, mr))) rfl ?_
  refine wp_cal (as := [.int (nI p), .int (nI s)]) rfl rfl rfl (Nat.le_of_ble_eq_true rfl) ((c_rat_n (p := p) (s := s))) (by decide) ?_
  rintro _ _ ⟨rfl, rfl⟩
  show aWP _ _ (6, [some (.ref 84), some (.int wh), some (.int (nI p)), some (.int (nI s)), some (.int h1), none], [.int (nI (10 * p + s)), .ref 91, .ref 84], (HD, mi, ml, mr)) _
  refine wp_iald rfl ⟨by decide, rfl⟩ (aix_nI (by omega) (by decide)) ?_
  rw [nI_clamp (n := 10 * p + s) (by omega)]
  refine wp_puti rfl ⟨by decide, rfl⟩ rfl (fun m_1 h_2 => ?_)
  subst h_2
  refine wp_steps 2 (t' := (10, [some (.ref 84), some (.int wh), some (.int (nI p)), some (.int (nI s)), some (.int h1), none], [.ref 84, .ref 84], (HD, (aup mi 84 13 (mi 91 (10 * p + s))), ml, mr))) rfl ?_
  refine wp_getr rfl ⟨by decide, rfl⟩ rfl (hM (84, 8, 88) (by decide)) ?_
  refine wp_steps 1 (t' := (12, [some (.ref 84), some (.int wh), some (.int (nI p)), some (.int (nI s)), some (.int h1), none], [.int (nI s), .ref 88, .ref 84], (HD, (aup mi 84 13 (mi 91 (10 * p + s))), ml, mr))) rfl ?_
  refine wp_iald rfl ⟨by decide, rfl⟩ (aix_nI (by omega) (by decide)) ?_
  rw [nI_clamp (n := s) (by omega)]
  refine wp_puti rfl ⟨by decide, rfl⟩ rfl (fun m_3 h_4 => ?_)
  subst h_4
  refine wp_steps 2 (t' := (16, [some (.ref 84), some (.int wh), some (.int (nI p)), some (.int (nI s)), some (.int h1), none], [.int h1, .ref 84], (HD, (aup (aup mi 84 13 (mi 91 (10 * p + s))) 84 14 ((aup mi 84 13 (mi 91 (10 * p + s))) 88 s)), ml, mr))) rfl ?_
  refine wp_puti rfl ⟨by decide, rfl⟩ rfl (fun m_5 h_6 => ?_)
  subst h_6
  refine wp_steps 2 (t' := (19, [some (.ref 84), some (.int wh), some (.int (nI p)), some (.int (nI s)), some (.int h1), none], [.ref 84, .ref 84], (HD, (aup (aup (aup mi 84 13 (mi 91 (10 * p + s))) 84 14 ((aup mi 84 13 (mi 91 (10 * p + s))) 88 s)) 84 15 h1), ml, mr))) rfl ?_
  refine wp_getr rfl ⟨by decide, rfl⟩ rfl (hM (84, 10, 90) (by decide)) ?_
  refine wp_steps 1 (t' := (21, [some (.ref 84), some (.int wh), some (.int (nI p)), some (.int (nI s)), some (.int h1), none], [.int (nI p), .ref 90, .ref 84], (HD, (aup (aup (aup mi 84 13 (mi 91 (10 * p + s))) 84 14 ((aup mi 84 13 (mi 91 (10 * p + s))) 88 s)) 84 15 h1), ml, mr))) rfl ?_
  refine wp_iald rfl ⟨by decide, rfl⟩ (aix_nI (by omega) (by decide)) ?_
  rw [nI_clamp (n := p) (by omega)]
  refine wp_puti rfl ⟨by decide, rfl⟩ rfl (fun m_7 h_8 => ?_)
  subst h_8
  refine wp_steps 2 (t' := (25, [some (.ref 84), some (.int wh), some (.int (nI p)), some (.int (nI s)), some (.int h1), none], [.ref 84, .ref 84], (HD, (aup (aup (aup (aup mi 84 13 (mi 91 (10 * p + s))) 84 14 ((aup mi 84 13 (mi 91 (10 * p + s))) 88 s)) 84 15 h1) 84 16 ((aup (aup (aup mi 84 13 (mi 91 (10 * p + s))) 84 14 ((aup mi 84 13 (mi 91 (10 * p + s))) 88 s)) 84 15 h1) 90 p)), ml, mr))) rfl ?_
  refine wp_geti rfl ⟨by decide, rfl⟩ (Or.inl rfl) ?_
  refine wp_puti rfl ⟨by decide, rfl⟩ rfl (fun m_9 h_10 => ?_)
  subst h_10
  refine wp_steps 2 (t' := (29, [some (.ref 84), some (.int wh), some (.int (nI p)), some (.int (nI s)), some (.int h1), none], [.ref 84, .ref 84], (HD, (aup (aup (aup (aup (aup mi 84 13 (mi 91 (10 * p + s))) 84 14 ((aup mi 84 13 (mi 91 (10 * p + s))) 88 s)) 84 15 h1) 84 16 ((aup (aup (aup mi 84 13 (mi 91 (10 * p + s))) 84 14 ((aup mi 84 13 (mi 91 (10 * p + s))) 88 s)) 84 15 h1) 90 p)) 84 17 ((aup (aup (aup (aup mi 84 13 (mi 91 (10 * p + s))) 84 14 ((aup mi 84 13 (mi 91 (10 * p + s))) 88 s)) 84 15 h1) 84 16 ((aup (aup (aup mi 84 13 (mi 91 (10 * p + s))) 84 14 ((aup mi 84 13 (mi 91 (10 * p + s))) 88 s)) 84 15 h1) 90 p)) 84 7)), ml, mr))) rfl ?_
  refine wp_getr rfl ⟨by decide, rfl⟩ rfl (hM (84, 11, 91) (by decide)) ?_
  refine wp_steps 2 (t' := (32, [some (.ref 84), some (.int wh), some (.int (nI p)), some (.int (nI s)), some (.int h1), none], [.int 8, .int (nI p), .ref 91, .ref 84], (HD, (aup (aup (aup (aup (aup mi 84 13 (mi 91 (10 * p + s))) 84 14 ((aup mi 84 13 (mi 91 (10 * p + s))) 88 s)) 84 15 h1) 84 16 ((aup (aup (aup mi 84 13 (mi 91 (10 * p + s))) 84 14 ((aup mi 84 13 (mi 91 (10 * p + s))) 88 s)) 84 15 h1) 90 p)) 84 17 ((aup (aup (aup (aup mi 84 13 (mi 91 (10 * p + s))) 84 14 ((aup mi 84 13 (mi 91 (10 * p + s))) 88 s)) 84 15 h1) 84 16 ((aup (aup (aup mi 84 13 (mi 91 (10 * p + s))) 84 14 ((aup mi 84 13 (mi 91 (10 * p + s))) 88 s)) 84 15 h1) 90 p)) 84 7)), ml, mr))) rfl ?_
  refine wp_cal (as := [.int (nI p), .int 8]) rfl rfl rfl (Nat.le_of_ble_eq_true rfl) ((c_rat_n (p := p) (s := 8))) (by decide) ?_
  rintro _ _ ⟨rfl, rfl⟩
  show aWP _ _ (33, [some (.ref 84), some (.int wh), some (.int (nI p)), some (.int (nI s)), some (.int h1), none], [.int (nI (10 * p + 8)), .ref 91, .ref 84], (HD, (aup (aup (aup (aup (aup mi 84 13 (mi 91 (10 * p + s))) 84 14 ((aup mi 84 13 (mi 91 (10 * p + s))) 88 s)) 84 15 h1) 84 16 ((aup (aup (aup mi 84 13 (mi 91 (10 * p + s))) 84 14 ((aup mi 84 13 (mi 91 (10 * p + s))) 88 s)) 84 15 h1) 90 p)) 84 17 ((aup (aup (aup (aup mi 84 13 (mi 91 (10 * p + s))) 84 14 ((aup mi 84 13 (mi 91 (10 * p + s))) 88 s)) 84 15 h1) 84 16 ((aup (aup (aup mi 84 13 (mi 91 (10 * p + s))) 84 14 ((aup mi 84 13 (mi 91 (10 * p + s))) 88 s)) 84 15 h1) 90 p)) 84 7)), ml, mr)) _
  refine wp_iald rfl ⟨by decide, rfl⟩ (aix_nI (by omega) (by decide)) ?_
  rw [nI_clamp (n := 10 * p + 8) (by omega)]
  refine wp_puti rfl ⟨by decide, rfl⟩ rfl (fun m_11 h_12 => ?_)
  subst h_12
  refine wp_steps 2 (t' := (37, [some (.ref 84), some (.int wh), some (.int (nI p)), some (.int (nI s)), some (.int h1), none], [.ref 84, .ref 84], (HD, (aup (aup (aup (aup (aup (aup mi 84 13 (mi 91 (10 * p + s))) 84 14 ((aup mi 84 13 (mi 91 (10 * p + s))) 88 s)) 84 15 h1) 84 16 ((aup (aup (aup mi 84 13 (mi 91 (10 * p + s))) 84 14 ((aup mi 84 13 (mi 91 (10 * p + s))) 88 s)) 84 15 h1) 90 p)) 84 17 ((aup (aup (aup (aup mi 84 13 (mi 91 (10 * p + s))) 84 14 ((aup mi 84 13 (mi 91 (10 * p + s))) 88 s)) 84 15 h1) 84 16 ((aup (aup (aup mi 84 13 (mi 91 (10 * p + s))) 84 14 ((aup mi 84 13 (mi 91 (10 * p + s))) 88 s)) 84 15 h1) 90 p)) 84 7)) 84 18 ((aup (aup (aup (aup (aup mi 84 13 (mi 91 (10 * p + s))) 84 14 ((aup mi 84 13 (mi 91 (10 * p + s))) 88 s)) 84 15 h1) 84 16 ((aup (aup (aup mi 84 13 (mi 91 (10 * p + s))) 84 14 ((aup mi 84 13 (mi 91 (10 * p + s))) 88 s)) 84 15 h1) 90 p)) 84 17 ((aup (aup (aup (aup mi 84 13 (mi 91 (10 * p + s))) 84 14 ((aup mi 84 13 (mi 91 (10 * p + s))) 88 s)) 84 15 h1) 84 16 ((aup (aup (aup mi 84 13 (mi 91 (10 * p + s))) 84 14 ((aup mi 84 13 (mi 91 (10 * p + s))) 88 s)) 84 15 h1) 90 p)) 84 7)) 91 (10 * p + 8))), ml, mr))) rfl ?_
  refine wp_geti rfl ⟨by decide, rfl⟩ (Or.inl rfl) ?_
  rw [show (aup (aup (aup (aup (aup (aup mi 84 13 (mi 91 (10 * p + s))) 84 14 ((aup mi 84 13 (mi 91 (10 * p + s))) 88 s)) 84 15 h1) 84 16 ((aup (aup (aup mi 84 13 (mi 91 (10 * p + s))) 84 14 ((aup mi 84 13 (mi 91 (10 * p + s))) 88 s)) 84 15 h1) 90 p)) 84 17 ((aup (aup (aup (aup mi 84 13 (mi 91 (10 * p + s))) 84 14 ((aup mi 84 13 (mi 91 (10 * p + s))) 88 s)) 84 15 h1) 84 16 ((aup (aup (aup mi 84 13 (mi 91 (10 * p + s))) 84 14 ((aup mi 84 13 (mi 91 (10 * p + s))) 88 s)) 84 15 h1) 90 p)) 84 7)) 84 18 ((aup (aup (aup (aup (aup mi 84 13 (mi 91 (10 * p + s))) 84 14 ((aup mi 84 13 (mi 91 (10 * p + s))) 88 s)) 84 15 h1) 84 16 ((aup (aup (aup mi 84 13 (mi 91 (10 * p + s))) 84 14 ((aup mi 84 13 (mi 91 (10 * p + s))) 88 s)) 84 15 h1) 90 p)) 84 17 ((aup (aup (aup (aup mi 84 13 (mi 91 (10 * p + s))) 84 14 ((aup mi 84 13 (mi 91 (10 * p + s))) 88 s)) 84 15 h1) 84 16 ((aup (aup (aup mi 84 13 (mi 91 (10 * p + s))) 84 14 ((aup mi 84 13 (mi 91 (10 * p + s))) 88 s)) 84 15 h1) 90 p)) 84 7)) 91 (10 * p + 8))) 84 4 = nI R from hR4]
  have hnm : nmO (aup (aup (aup (aup (aup (aup mi 84 13 (mi 91 (10 * p + s))) 84 14 ((aup mi 84 13 (mi 91 (10 * p + s))) 88 s)) 84 15 h1) 84 16 ((aup (aup (aup mi 84 13 (mi 91 (10 * p + s))) 84 14 ((aup mi 84 13 (mi 91 (10 * p + s))) 88 s)) 84 15 h1) 90 p)) 84 17 ((aup (aup (aup (aup mi 84 13 (mi 91 (10 * p + s))) 84 14 ((aup mi 84 13 (mi 91 (10 * p + s))) 88 s)) 84 15 h1) 84 16 ((aup (aup (aup mi 84 13 (mi 91 (10 * p + s))) 84 14 ((aup mi 84 13 (mi 91 (10 * p + s))) 88 s)) 84 15 h1) 90 p)) 84 7)) 84 18 ((aup (aup (aup (aup (aup mi 84 13 (mi 91 (10 * p + s))) 84 14 ((aup mi 84 13 (mi 91 (10 * p + s))) 88 s)) 84 15 h1) 84 16 ((aup (aup (aup mi 84 13 (mi 91 (10 * p + s))) 84 14 ((aup mi 84 13 (mi 91 (10 * p + s))) 88 s)) 84 15 h1) 90 p)) 84 17 ((aup (aup (aup (aup mi 84 13 (mi 91 (10 * p + s))) 84 14 ((aup mi 84 13 (mi 91 (10 * p + s))) 88 s)) 84 15 h1) 84 16 ((aup (aup (aup mi 84 13 (mi 91 (10 * p + s))) 84 14 ((aup mi 84 13 (mi 91 (10 * p + s))) 88 s)) 84 15 h1) 90 p)) 84 7)) 91 (10 * p + 8))) (nmF (mi 91 (10 * p + s)) (mi 88 s) h1 (mi 90 p) (mi 84 7) (mi 91 (10 * p + 8))) := by
    intro j hj
    rcases (by omega : j = 0 ∨ j = 1 ∨ j = 2 ∨ j = 3 ∨ j = 4 ∨ j = 5) with e | e | e | e | e | e <;> subst e <;> rfl
  have fY : frY mi (aup (aup (aup (aup (aup (aup mi 84 13 (mi 91 (10 * p + s))) 84 14 ((aup mi 84 13 (mi 91 (10 * p + s))) 88 s)) 84 15 h1) 84 16 ((aup (aup (aup mi 84 13 (mi 91 (10 * p + s))) 84 14 ((aup mi 84 13 (mi 91 (10 * p + s))) 88 s)) 84 15 h1) 90 p)) 84 17 ((aup (aup (aup (aup mi 84 13 (mi 91 (10 * p + s))) 84 14 ((aup mi 84 13 (mi 91 (10 * p + s))) 88 s)) 84 15 h1) 84 16 ((aup (aup (aup mi 84 13 (mi 91 (10 * p + s))) 84 14 ((aup mi 84 13 (mi 91 (10 * p + s))) 88 s)) 84 15 h1) 90 p)) 84 7)) 84 18 ((aup (aup (aup (aup (aup mi 84 13 (mi 91 (10 * p + s))) 84 14 ((aup mi 84 13 (mi 91 (10 * p + s))) 88 s)) 84 15 h1) 84 16 ((aup (aup (aup mi 84 13 (mi 91 (10 * p + s))) 84 14 ((aup mi 84 13 (mi 91 (10 * p + s))) 88 s)) 84 15 h1) 90 p)) 84 17 ((aup (aup (aup (aup mi 84 13 (mi 91 (10 * p + s))) 84 14 ((aup mi 84 13 (mi 91 (10 * p + s))) 88 s)) 84 15 h1) 84 16 ((aup (aup (aup mi 84 13 (mi 91 (10 * p + s))) 84 14 ((aup mi 84 13 (mi 91 (10 * p + s))) 88 s)) 84 15 h1) 90 p)) 84 7)) 91 (10 * p + 8))) := fun k j q => by
    by_cases e : k = 84
    · have h13 : ¬ j = 13 := fun z => q ⟨e, by omega, by omega⟩
      have h14 : ¬ j = 14 := fun z => q ⟨e, by omega, by omega⟩
      have h15 : ¬ j = 15 := fun z => q ⟨e, by omega, by omega⟩
      have h16 : ¬ j = 16 := fun z => q ⟨e, by omega, by omega⟩
      have h17 : ¬ j = 17 := fun z => q ⟨e, by omega, by omega⟩
      have h18 : ¬ j = 18 := fun z => q ⟨e, by omega, by omega⟩
      simp [aup, e, h13, h14, h15, h16, h17, h18]
    · simp [aup, e]
  refine wp_steps 1 (t' := (39, [some (.ref 84), some (.int wh), some (.int (nI p)), some (.int (nI s)), some (.int h1), none], [.int wh, .int (nI R), .ref 84], (HD, (aup (aup (aup (aup (aup (aup mi 84 13 (mi 91 (10 * p + s))) 84 14 ((aup mi 84 13 (mi 91 (10 * p + s))) 88 s)) 84 15 h1) 84 16 ((aup (aup (aup mi 84 13 (mi 91 (10 * p + s))) 84 14 ((aup mi 84 13 (mi 91 (10 * p + s))) 88 s)) 84 15 h1) 90 p)) 84 17 ((aup (aup (aup (aup mi 84 13 (mi 91 (10 * p + s))) 84 14 ((aup mi 84 13 (mi 91 (10 * p + s))) 88 s)) 84 15 h1) 84 16 ((aup (aup (aup mi 84 13 (mi 91 (10 * p + s))) 84 14 ((aup mi 84 13 (mi 91 (10 * p + s))) 88 s)) 84 15 h1) 90 p)) 84 7)) 84 18 ((aup (aup (aup (aup (aup mi 84 13 (mi 91 (10 * p + s))) 84 14 ((aup mi 84 13 (mi 91 (10 * p + s))) 88 s)) 84 15 h1) 84 16 ((aup (aup (aup mi 84 13 (mi 91 (10 * p + s))) 84 14 ((aup mi 84 13 (mi 91 (10 * p + s))) 88 s)) 84 15 h1) 90 p)) 84 17 ((aup (aup (aup (aup mi 84 13 (mi 91 (10 * p + s))) 84 14 ((aup mi 84 13 (mi 91 (10 * p + s))) 88 s)) 84 15 h1) 84 16 ((aup (aup (aup mi 84 13 (mi 91 (10 * p + s))) 84 14 ((aup mi 84 13 (mi 91 (10 * p + s))) 88 s)) 84 15 h1) 90 p)) 84 7)) 91 (10 * p + 8))), ml, mr))) rfl ?_
  refine wp_calv (as := [.int (nI R), .int wh]) rfl rfl rfl (Nat.le_of_ble_eq_true rfl) ⟨by decide, rfl⟩ ((r_read_ok (mi := (aup (aup (aup (aup (aup (aup mi 84 13 (mi 91 (10 * p + s))) 84 14 ((aup mi 84 13 (mi 91 (10 * p + s))) 88 s)) 84 15 h1) 84 16 ((aup (aup (aup mi 84 13 (mi 91 (10 * p + s))) 84 14 ((aup mi 84 13 (mi 91 (10 * p + s))) 88 s)) 84 15 h1) 90 p)) 84 17 ((aup (aup (aup (aup mi 84 13 (mi 91 (10 * p + s))) 84 14 ((aup mi 84 13 (mi 91 (10 * p + s))) 88 s)) 84 15 h1) 84 16 ((aup (aup (aup mi 84 13 (mi 91 (10 * p + s))) 84 14 ((aup mi 84 13 (mi 91 (10 * p + s))) 88 s)) 84 15 h1) 90 p)) 84 7)) 84 18 ((aup (aup (aup (aup (aup mi 84 13 (mi 91 (10 * p + s))) 84 14 ((aup mi 84 13 (mi 91 (10 * p + s))) 88 s)) 84 15 h1) 84 16 ((aup (aup (aup mi 84 13 (mi 91 (10 * p + s))) 84 14 ((aup mi 84 13 (mi 91 (10 * p + s))) 88 s)) 84 15 h1) 90 p)) 84 17 ((aup (aup (aup (aup mi 84 13 (mi 91 (10 * p + s))) 84 14 ((aup mi 84 13 (mi 91 (10 * p + s))) 88 s)) 84 15 h1) 84 16 ((aup (aup (aup mi 84 13 (mi 91 (10 * p + s))) 84 14 ((aup mi 84 13 (mi 91 (10 * p + s))) 88 s)) 84 15 h1) 90 p)) 84 7)) 91 (10 * p + 8)))) (ml := ml) hM hR6 (hx.fr (fun _ _ => rfl) rfl) (nm := (nmF (mi 91 (10 * p + s)) (mi 88 s) h1 (mi 90 p) (mi 84 7) (mi 91 (10 * p + 8)))) hnm (wh := wh))) (by decide) ?_
  rintro _ _ ⟨rfl, m_1, w_1, rfl, f1⟩
  show aWP _ _ (40, [some (.ref 84), some (.int wh), some (.int (nI p)), some (.int (nI s)), some (.int h1), none], [.int (tvC (cW c0 c1 c2 wh) (nmF (mi 91 (10 * p + s)) (mi 88 s) h1 (mi 90 p) (mi 84 7) (mi 91 (10 * p + 8))))], (HD, m_1, w_1, mr)) _
  refine wp_steps 4 (t' := (44, [some (.ref 84), some (.int wh), some (.int (nI p)), some (.int (nI s)), some (.int h1), some (.int (tvC (cW c0 c1 c2 wh) (nmF (mi 91 (10 * p + s)) (mi 88 s) h1 (mi 90 p) (mi 84 7) (mi 91 (10 * p + 8)))))], [.int 2, .int wh, .int (tvC (cW c0 c1 c2 wh) (nmF (mi 91 (10 * p + s)) (mi 88 s) h1 (mi 90 p) (mi 84 7) (mi 91 (10 * p + 8))))], (HD, m_1, w_1, mr))) rfl ?_
  refine wp_bC rfl (fun c_13 => ?_) (fun c_13 => ?_)
  · have c_13 : ¬ wh = 2 := of_decide_eq_true c_13
    refine wp_steps 2 (t' := (49, [some (.ref 84), some (.int wh), some (.int (nI p)), some (.int (nI s)), some (.int h1), some (.int (tvC (cW c0 c1 c2 wh) (nmF (mi 91 (10 * p + s)) (mi 88 s) h1 (mi 90 p) (mi 84 7) (mi 91 (10 * p + 8)))))], [.int 99, .int 0, .int (tvC (cW c0 c1 c2 wh) (nmF (mi 91 (10 * p + s)) (mi 88 s) h1 (mi 90 p) (mi 84 7) (mi 91 (10 * p + 8))))], (HD, m_1, w_1, mr))) rfl ?_
    refine wp_cal (as := [.int (tvC (cW c0 c1 c2 wh) (nmF (mi 91 (10 * p + s)) (mi 88 s) h1 (mi 90 p) (mi 84 7) (mi 91 (10 * p + 8)))), .int 0, .int 99]) rfl rfl rfl (Nat.le_of_ble_eq_true rfl) ((c_within (v := tvC (cW c0 c1 c2 wh) (nmF (mi 91 (10 * p + s)) (mi 88 s) h1 (mi 90 p) (mi 84 7) (mi 91 (10 * p + 8)))) (lo := 0) (hi := 99) (by decide))) (by decide) ?_
    rintro _ _ ⟨rfl, rfl⟩
    show aWP _ _ (50, [some (.ref 84), some (.int wh), some (.int (nI p)), some (.int (nI s)), some (.int h1), some (.int (tvC (cW c0 c1 c2 wh) (nmF (mi 91 (10 * p + s)) (mi 88 s) h1 (mi 90 p) (mi 84 7) (mi 91 (10 * p + 8)))))], [.int (cl 0 99 (tvC (cW c0 c1 c2 wh) (nmF (mi 91 (10 * p + s)) (mi 88 s) h1 (mi 90 p) (mi 84 7) (mi 91 (10 * p + 8)))))], (HD, m_1, w_1, mr)) _
    refine wp_ret rfl rfl ⟨⟨Nat.le_refl _, Nat.le_refl _⟩, ?_⟩
    refine ⟨by rw [if_neg c_13], m_1, w_1, rfl, fY.tr (fun k j q => f1 k j (fun z => q ⟨z.1, by omega, z.2.2⟩))⟩
  · have c_13 : wh = 2 := Decidable.not_not.mp (of_decide_eq_false c_13)
    refine wp_steps 3 (t' := (49, [some (.ref 84), some (.int wh), some (.int (nI p)), some (.int (nI s)), some (.int h1), some (.int (tvC (cW c0 c1 c2 wh) (nmF (mi 91 (10 * p + s)) (mi 88 s) h1 (mi 90 p) (mi 84 7) (mi 91 (10 * p + 8)))))], [.int 99, .int (-99), .int (tvC (cW c0 c1 c2 wh) (nmF (mi 91 (10 * p + s)) (mi 88 s) h1 (mi 90 p) (mi 84 7) (mi 91 (10 * p + 8))))], (HD, m_1, w_1, mr))) rfl ?_
    refine wp_cal (as := [.int (tvC (cW c0 c1 c2 wh) (nmF (mi 91 (10 * p + s)) (mi 88 s) h1 (mi 90 p) (mi 84 7) (mi 91 (10 * p + 8)))), .int (-99), .int 99]) rfl rfl rfl (Nat.le_of_ble_eq_true rfl) ((c_within (v := tvC (cW c0 c1 c2 wh) (nmF (mi 91 (10 * p + s)) (mi 88 s) h1 (mi 90 p) (mi 84 7) (mi 91 (10 * p + 8)))) (lo := -99) (hi := 99) (by decide))) (by decide) ?_
    rintro _ _ ⟨rfl, rfl⟩
    show aWP _ _ (50, [some (.ref 84), some (.int wh), some (.int (nI p)), some (.int (nI s)), some (.int h1), some (.int (tvC (cW c0 c1 c2 wh) (nmF (mi 91 (10 * p + s)) (mi 88 s) h1 (mi 90 p) (mi 84 7) (mi 91 (10 * p + 8)))))], [.int (cl (-99) 99 (tvC (cW c0 c1 c2 wh) (nmF (mi 91 (10 * p + s)) (mi 88 s) h1 (mi 90 p) (mi 84 7) (mi 91 (10 * p + 8)))))], (HD, m_1, w_1, mr)) _
    refine wp_ret rfl rfl ⟨⟨Nat.le_refl _, Nat.le_refl _⟩, ?_⟩
    refine ⟨by rw [if_pos c_13], m_1, w_1, rfl, fY.tr (fun k j q => f1 k j (fun z => q ⟨z.1, by omega, z.2.2⟩))⟩
theorem le_R {m : Nat → Nat → Int32} {c0 c1 c2 : List Int32} {p s : Nat} (hs : s < 8) (hp : Int32) : leG (twR m c0 c1 c2) (puR m p) s hp = cl 0 99 (lOf (m 89 p) (m 90 p) hp (cl 0 99 (tvC c0 (nmF (m 91 (10 * p + s)) (m 88 s) hp (m 90 p) (m 84 7) (m 91 (10 * p + 8)))))) := by
  simp only [leG, leF, puR, twR, c8_lt hs]
theorem fo_R {m : Nat → Nat → Int32} {c0 c1 c2 : List Int32} {p s : Nat} (hs : s < 8) : foG (twR m c0 c1 c2) (puR m p) s = cl 0 99 (gOf (m 89 p) (m 90 p) (cl 0 99 (tvC c1 (nmF (m 91 (10 * p + s)) (m 88 s) 0 (m 90 p) (m 84 7) (m 91 (10 * p + 8)))))) := by
  simp only [foG, foF, puR, twR, c8_lt hs]
theorem ne_R {m : Nat → Nat → Int32} {c0 c1 c2 : List Int32} {p s : Nat} (hs : s < 8) : neG (twR m c0 c1 c2) (puR m p) s = nOf (m 89 p) (m 90 p) (m 91 (10 * p + 8)) (cl (-99) 99 (tvC c2 (nmF (m 91 (10 * p + s)) (m 88 s) 0 (m 90 p) (m 84 7) (m 91 (10 * p + 8))))) := by
  simp only [neG, neF, puR, twR, c8_lt hs]
theorem ma_R {m : Nat → Nat → Int32} {c0 c1 c2 : List Int32} {p s : Nat} (hs : s < 8) : maG (twR m c0 c1 c2) (puR m p) s = m 91 (10 * p + s) + neG (twR m c0 c1 c2) (puR m p) s - m 88 s := by
  simp only [maG, maF, neG, puR, twR, c8_lt hs]
set_option maxRecDepth 20000 in
set_option maxHeartbeats 1000000 in
theorem r_learns {X : aXt × Value} {mi : Nat → Nat → Int32} {ml : Nat → Nat → Int64} {mr : Nat → Nat → Option Nat} (hM : MRok mr) {c0 c1 c2 : List Int32} (hR : RUX mi c0 c1 c2) {p s : Nat} (hp5 : p < 5) (hs : s < 8) {hp : Int32} : aCW X 44 174 [.ref 84, .int (nI p), .int (nI s), .int hp] (HD, mi, ml, mr) (fun r h' => r = some (.int (leG (twR mi c0 c1 c2) (puR mi p) s hp)) ∧ ∃ m' w', h' = (HD, m', w', mr) ∧ frY mi m') := by
  refine cw_of (cd := cd_X7_learnsOf) (nL := 9) rfl rfl ?_
  show aWP _ _ (0, [some (.ref 84), some (.int (nI p)), some (.int (nI s)), some (.int hp), none, none, none, none, none], [], (HD, mi, ml, mr)) _
  refine wp_steps 1 (t' := (1, [some (.ref 84), some (.int (nI p)), some (.int (nI s)), some (.int hp), none, none, none, none, none], [.ref 84], (HD, mi, ml, mr))) rfl ?_
  refine wp_getr rfl ⟨by decide, rfl⟩ rfl (hM (84, 9, 89) (by decide)) ?_
  refine wp_steps 1 (t' := (3, [some (.ref 84), some (.int (nI p)), some (.int (nI s)), some (.int hp), none, none, none, none, none], [.int (nI p), .ref 89], (HD, mi, ml, mr))) rfl ?_
  refine wp_iald rfl ⟨by decide, rfl⟩ (aix_nI (by omega) (by decide)) ?_
  rw [nI_clamp (n := p) (by omega)]
  refine wp_steps 6 (t' := (10, [some (.ref 84), some (.int (nI p)), some (.int (nI s)), some (.int hp), some (.int (mi 89 p)), none, none, none, none], [.int hp, .int (nI s), .int (nI p), .int 0, .ref 84], (HD, mi, ml, mr))) rfl ?_
  refine wp_calv (as := [.int 0, .int (nI p), .int (nI s), .int hp]) rfl rfl rfl (Nat.le_of_ble_eq_true rfl) ⟨by decide, rfl⟩ ((r_says (ml := ml) hM hR hp5 hs (wh := 0) (h1 := hp))) (by decide) ?_
  rintro _ _ ⟨rfl, m_1, w_1, rfl, f1⟩
  rw [show cl (if (0 : Int32) = 2 then -99 else 0) 99 (tvC (cW c0 c1 c2 0) (nmF (mi 91 (10 * p + s)) (mi 88 s) hp (mi 90 p) (mi 84 7) (mi 91 (10 * p + 8)))) = cl 0 99 (tvC c0 (nmF (mi 91 (10 * p + s)) (mi 88 s) hp (mi 90 p) (mi 84 7) (mi 91 (10 * p + 8)))) from rfl]
  generalize hv0 : cl 0 99 (tvC c0 (nmF (mi 91 (10 * p + s)) (mi 88 s) hp (mi 90 p) (mi 84 7) (mi 91 (10 * p + 8)))) = v0
  show aWP _ _ (11, [some (.ref 84), some (.int (nI p)), some (.int (nI s)), some (.int hp), some (.int (mi 89 p)), none, none, none, none], [.int v0], (HD, m_1, w_1, mr)) _
  refine wp_steps 2 (t' := (13, [some (.ref 84), some (.int (nI p)), some (.int (nI s)), some (.int hp), some (.int (mi 89 p)), some (.int v0), none, none, none], [.int hp], (HD, m_1, w_1, mr))) rfl ?_
  refine wp_bI rfl (fun c_1 => ?_) (fun c_1 => ?_)
  · have c_1 : ¬ hp = 0 := of_decide_eq_true c_1
    refine wp_steps 3 (t' := (21, [some (.ref 84), some (.int (nI p)), some (.int (nI s)), some (.int hp), some (.int (mi 89 p)), some (.int v0), some (.int v0), none, none], [.int hp], (HD, m_1, w_1, mr))) rfl ?_
    refine wp_bI rfl (fun c_2 => ?_) (fun c_2 => ?_)
    rotate_left
    · have c_2 : hp = 0 := Decidable.not_not.mp (of_decide_eq_false c_2)
      exact absurd c_2 c_1
    have c_2 : ¬ hp = 0 := of_decide_eq_true c_2
    refine wp_steps 4 (t' := (30, [some (.ref 84), some (.int (nI p)), some (.int (nI s)), some (.int hp), some (.int (mi 89 p)), some (.int v0), some (.int v0), some (.int v0), none], [.int 1, .int (mi 89 p)], (HD, m_1, w_1, mr))) rfl ?_
    refine wp_bC rfl (fun c_3 => ?_) (fun c_3 => ?_)
    · have c_3 : ¬ (mi 89 p) = 1 := of_decide_eq_true c_3
      refine wp_steps 2 (t' := (35, [some (.ref 84), some (.int (nI p)), some (.int (nI s)), some (.int hp), some (.int (mi 89 p)), some (.int v0), some (.int v0), some (.int v0), none], [.int 2, .int (mi 89 p)], (HD, m_1, w_1, mr))) rfl ?_
      refine wp_bC rfl (fun c_4 => ?_) (fun c_4 => ?_)
      · have c_4 : ¬ (mi 89 p) = 2 := of_decide_eq_true c_4
        refine wp_steps 2 (t' := (40, [some (.ref 84), some (.int (nI p)), some (.int (nI s)), some (.int hp), some (.int (mi 89 p)), some (.int v0), some (.int v0), some (.int v0), none], [.int 3, .int (mi 89 p)], (HD, m_1, w_1, mr))) rfl ?_
        refine wp_bC rfl (fun c_5 => ?_) (fun c_5 => ?_)
        · have c_5 : ¬ (mi 89 p) = 3 := of_decide_eq_true c_5
          refine wp_steps 2 (t' := (50, [some (.ref 84), some (.int (nI p)), some (.int (nI s)), some (.int hp), some (.int (mi 89 p)), some (.int v0), some (.int v0), some (.int v0), none], [.int 4, .int (mi 89 p)], (HD, m_1, w_1, mr))) rfl ?_
          refine wp_bC rfl (fun c_6 => ?_) (fun c_6 => ?_)
          · have c_6 : ¬ (mi 89 p) = 4 := of_decide_eq_true c_6
            refine wp_steps 2 (t' := (65, [some (.ref 84), some (.int (nI p)), some (.int (nI s)), some (.int hp), some (.int (mi 89 p)), some (.int v0), some (.int v0), some (.int v0), none], [.int 5, .int (mi 89 p)], (HD, m_1, w_1, mr))) rfl ?_
            refine wp_bC rfl (fun c_7 => ?_) (fun c_7 => ?_)
            · have c_7 : ¬ (mi 89 p) = 5 := of_decide_eq_true c_7
              refine wp_steps 5 (t' := (76, [some (.ref 84), some (.int (nI p)), some (.int (nI s)), some (.int hp), some (.int (mi 89 p)), some (.int v0), some (.int v0), some (.int v0), some (.int v0)], [.int 99, .int 0, .int v0], (HD, m_1, w_1, mr))) rfl ?_
              refine wp_cal (as := [.int v0, .int 0, .int 99]) rfl rfl rfl (Nat.le_of_ble_eq_true rfl) ((c_within (v := v0) (lo := 0) (hi := 99) (by decide))) (by decide) ?_
              rintro _ _ ⟨rfl, rfl⟩
              show aWP _ _ (77, [some (.ref 84), some (.int (nI p)), some (.int (nI s)), some (.int hp), some (.int (mi 89 p)), some (.int v0), some (.int v0), some (.int v0), some (.int v0)], [.int (cl 0 99 v0)], (HD, m_1, w_1, mr)) _
              refine wp_ret rfl rfl ⟨⟨Nat.le_refl _, Nat.le_refl _⟩, ?_⟩
              refine ⟨?_, m_1, w_1, rfl, f1⟩
              rw [le_R hs, hv0]
              simp [lOf, fmin, c_1, c_2, c_3, c_4, c_5, c_6, c_7]
            · have c_7 : (mi 89 p) = 5 := Decidable.not_not.mp (of_decide_eq_false c_7)
              refine wp_steps 2 (t' := (68, [some (.ref 84), some (.int (nI p)), some (.int (nI s)), some (.int hp), some (.int (mi 89 p)), some (.int v0), some (.int v0), some (.int v0), none], [.int 3, .int v0], (HD, m_1, w_1, mr))) rfl ?_
              refine wp_bC rfl (fun c_8 => ?_) (fun c_8 => ?_)
              · have c_8 : v0 ≤ 3 := of_decide_eq_true c_8
                refine wp_steps 5 (t' := (76, [some (.ref 84), some (.int (nI p)), some (.int (nI s)), some (.int hp), some (.int (mi 89 p)), some (.int v0), some (.int v0), some (.int v0), some (.int v0)], [.int 99, .int 0, .int v0], (HD, m_1, w_1, mr))) rfl ?_
                refine wp_cal (as := [.int v0, .int 0, .int 99]) rfl rfl rfl (Nat.le_of_ble_eq_true rfl) ((c_within (v := v0) (lo := 0) (hi := 99) (by decide))) (by decide) ?_
                rintro _ _ ⟨rfl, rfl⟩
                show aWP _ _ (77, [some (.ref 84), some (.int (nI p)), some (.int (nI s)), some (.int hp), some (.int (mi 89 p)), some (.int v0), some (.int v0), some (.int v0), some (.int v0)], [.int (cl 0 99 v0)], (HD, m_1, w_1, mr)) _
                refine wp_ret rfl rfl ⟨⟨Nat.le_refl _, Nat.le_refl _⟩, ?_⟩
                refine ⟨?_, m_1, w_1, rfl, f1⟩
                rw [le_R hs, hv0]
                simp [lOf, fmin, c_1, c_2, c_3, c_4, c_5, c_6, c_7, c_8, Int32.not_lt.mpr c_8]
              · have c_8 : ¬ (v0 ≤ 3) := of_decide_eq_false c_8
                refine wp_steps 6 (t' := (76, [some (.ref 84), some (.int (nI p)), some (.int (nI s)), some (.int hp), some (.int (mi 89 p)), some (.int v0), some (.int v0), some (.int v0), some (.int 3)], [.int 99, .int 0, .int 3], (HD, m_1, w_1, mr))) rfl ?_
                refine wp_cal (as := [.int 3, .int 0, .int 99]) rfl rfl rfl (Nat.le_of_ble_eq_true rfl) ((c_within (v := 3) (lo := 0) (hi := 99) (by decide))) (by decide) ?_
                rintro _ _ ⟨rfl, rfl⟩
                show aWP _ _ (77, [some (.ref 84), some (.int (nI p)), some (.int (nI s)), some (.int hp), some (.int (mi 89 p)), some (.int v0), some (.int v0), some (.int v0), some (.int 3)], [.int (cl 0 99 3)], (HD, m_1, w_1, mr)) _
                refine wp_ret rfl rfl ⟨⟨Nat.le_refl _, Nat.le_refl _⟩, ?_⟩
                refine ⟨?_, m_1, w_1, rfl, f1⟩
                rw [le_R hs, hv0]
                simp [lOf, fmin, c_1, c_2, c_3, c_4, c_5, c_6, c_7, c_8, Int32.not_le.mp c_8]
          · have c_6 : (mi 89 p) = 4 := Decidable.not_not.mp (of_decide_eq_false c_6)
            refine wp_steps 2 (t' := (53, [some (.ref 84), some (.int (nI p)), some (.int (nI s)), some (.int hp), some (.int (mi 89 p)), some (.int v0), some (.int v0), some (.int v0), none], [.int 1, .int hp], (HD, m_1, w_1, mr))) rfl ?_
            refine wp_bC rfl (fun c_9 => ?_) (fun c_9 => ?_)
            · have c_9 : ¬ hp = 1 := of_decide_eq_true c_9
              refine wp_steps 6 (t' := (76, [some (.ref 84), some (.int (nI p)), some (.int (nI s)), some (.int hp), some (.int (mi 89 p)), some (.int v0), some (.int v0), some (.int v0), some (.int v0)], [.int 99, .int 0, .int v0], (HD, m_1, w_1, mr))) rfl ?_
              refine wp_cal (as := [.int v0, .int 0, .int 99]) rfl rfl rfl (Nat.le_of_ble_eq_true rfl) ((c_within (v := v0) (lo := 0) (hi := 99) (by decide))) (by decide) ?_
              rintro _ _ ⟨rfl, rfl⟩
              show aWP _ _ (77, [some (.ref 84), some (.int (nI p)), some (.int (nI s)), some (.int hp), some (.int (mi 89 p)), some (.int v0), some (.int v0), some (.int v0), some (.int v0)], [.int (cl 0 99 v0)], (HD, m_1, w_1, mr)) _
              refine wp_ret rfl rfl ⟨⟨Nat.le_refl _, Nat.le_refl _⟩, ?_⟩
              refine ⟨?_, m_1, w_1, rfl, f1⟩
              rw [le_R hs, hv0]
              simp [lOf, fmin, c_1, c_2, c_3, c_4, c_5, c_6, c_9]
            · have c_9 : hp = 1 := Decidable.not_not.mp (of_decide_eq_false c_9)
              refine wp_steps 2 (t' := (56, [some (.ref 84), some (.int (nI p)), some (.int (nI s)), some (.int hp), some (.int (mi 89 p)), some (.int v0), some (.int v0), some (.int v0), none], [.ref 84, .int v0], (HD, m_1, w_1, mr))) rfl ?_
              refine wp_getr rfl ⟨by decide, rfl⟩ rfl (hM (84, 10, 90) (by decide)) ?_
              refine wp_steps 1 (t' := (58, [some (.ref 84), some (.int (nI p)), some (.int (nI s)), some (.int hp), some (.int (mi 89 p)), some (.int v0), some (.int v0), some (.int v0), none], [.int (nI p), .ref 90, .int v0], (HD, m_1, w_1, mr))) rfl ?_
              refine wp_iald rfl ⟨by decide, rfl⟩ (aix_nI (by omega) (by decide)) ?_
              rw [nI_clamp (n := p) (by omega)]
              rw [f1.row (k := 90) (by decide)]
              refine wp_steps 6 (t' := (76, [some (.ref 84), some (.int (nI p)), some (.int (nI s)), some (.int hp), some (.int (mi 89 p)), some (.int v0), some (.int v0), some (.int v0), some (.int (v0 + (mi 90 p)))], [.int 99, .int 0, .int (v0 + (mi 90 p))], (HD, m_1, w_1, mr))) rfl ?_
              refine wp_cal (as := [.int (v0 + (mi 90 p)), .int 0, .int 99]) rfl rfl rfl (Nat.le_of_ble_eq_true rfl) ((c_within (v := v0 + (mi 90 p)) (lo := 0) (hi := 99) (by decide))) (by decide) ?_
              rintro _ _ ⟨rfl, rfl⟩
              show aWP _ _ (77, [some (.ref 84), some (.int (nI p)), some (.int (nI s)), some (.int hp), some (.int (mi 89 p)), some (.int v0), some (.int v0), some (.int v0), some (.int (v0 + (mi 90 p)))], [.int (cl 0 99 (v0 + (mi 90 p)))], (HD, m_1, w_1, mr)) _
              refine wp_ret rfl rfl ⟨⟨Nat.le_refl _, Nat.le_refl _⟩, ?_⟩
              refine ⟨?_, m_1, w_1, rfl, f1⟩
              rw [le_R hs, hv0]
              simp [lOf, fmin, c_1, c_2, c_3, c_4, c_5, c_6, c_9]
        · have c_5 : (mi 89 p) = 3 := Decidable.not_not.mp (of_decide_eq_false c_5)
          refine wp_steps 2 (t' := (43, [some (.ref 84), some (.int (nI p)), some (.int (nI s)), some (.int hp), some (.int (mi 89 p)), some (.int v0), some (.int v0), some (.int v0), none], [.int 2, .int hp], (HD, m_1, w_1, mr))) rfl ?_
          refine wp_bC rfl (fun c_10 => ?_) (fun c_10 => ?_)
          · have c_10 : ¬ hp = 2 := of_decide_eq_true c_10
            refine wp_steps 6 (t' := (76, [some (.ref 84), some (.int (nI p)), some (.int (nI s)), some (.int hp), some (.int (mi 89 p)), some (.int v0), some (.int v0), some (.int v0), some (.int v0)], [.int 99, .int 0, .int v0], (HD, m_1, w_1, mr))) rfl ?_
            refine wp_cal (as := [.int v0, .int 0, .int 99]) rfl rfl rfl (Nat.le_of_ble_eq_true rfl) ((c_within (v := v0) (lo := 0) (hi := 99) (by decide))) (by decide) ?_
            rintro _ _ ⟨rfl, rfl⟩
            show aWP _ _ (77, [some (.ref 84), some (.int (nI p)), some (.int (nI s)), some (.int hp), some (.int (mi 89 p)), some (.int v0), some (.int v0), some (.int v0), some (.int v0)], [.int (cl 0 99 v0)], (HD, m_1, w_1, mr)) _
            refine wp_ret rfl rfl ⟨⟨Nat.le_refl _, Nat.le_refl _⟩, ?_⟩
            refine ⟨?_, m_1, w_1, rfl, f1⟩
            rw [le_R hs, hv0]
            simp [lOf, fmin, c_1, c_2, c_3, c_4, c_5, c_10]
          · have c_10 : hp = 2 := Decidable.not_not.mp (of_decide_eq_false c_10)
            refine wp_steps 6 (t' := (76, [some (.ref 84), some (.int (nI p)), some (.int (nI s)), some (.int hp), some (.int (mi 89 p)), some (.int v0), some (.int v0), some (.int v0), some (.int 0)], [.int 99, .int 0, .int 0], (HD, m_1, w_1, mr))) rfl ?_
            refine wp_cal (as := [.int 0, .int 0, .int 99]) rfl rfl rfl (Nat.le_of_ble_eq_true rfl) ((c_within (v := 0) (lo := 0) (hi := 99) (by decide))) (by decide) ?_
            rintro _ _ ⟨rfl, rfl⟩
            show aWP _ _ (77, [some (.ref 84), some (.int (nI p)), some (.int (nI s)), some (.int hp), some (.int (mi 89 p)), some (.int v0), some (.int v0), some (.int v0), some (.int 0)], [.int (cl 0 99 0)], (HD, m_1, w_1, mr)) _
            refine wp_ret rfl rfl ⟨⟨Nat.le_refl _, Nat.le_refl _⟩, ?_⟩
            refine ⟨?_, m_1, w_1, rfl, f1⟩
            rw [le_R hs, hv0]
            simp [lOf, fmin, c_1, c_2, c_3, c_4, c_5, c_10]
      · have c_4 : (mi 89 p) = 2 := Decidable.not_not.mp (of_decide_eq_false c_4)
        refine wp_steps 6 (t' := (76, [some (.ref 84), some (.int (nI p)), some (.int (nI s)), some (.int hp), some (.int (mi 89 p)), some (.int v0), some (.int v0), some (.int v0), some (.int v0)], [.int 99, .int 0, .int v0], (HD, m_1, w_1, mr))) rfl ?_
        refine wp_cal (as := [.int v0, .int 0, .int 99]) rfl rfl rfl (Nat.le_of_ble_eq_true rfl) ((c_within (v := v0) (lo := 0) (hi := 99) (by decide))) (by decide) ?_
        rintro _ _ ⟨rfl, rfl⟩
        show aWP _ _ (77, [some (.ref 84), some (.int (nI p)), some (.int (nI s)), some (.int hp), some (.int (mi 89 p)), some (.int v0), some (.int v0), some (.int v0), some (.int v0)], [.int (cl 0 99 v0)], (HD, m_1, w_1, mr)) _
        refine wp_ret rfl rfl ⟨⟨Nat.le_refl _, Nat.le_refl _⟩, ?_⟩
        refine ⟨?_, m_1, w_1, rfl, f1⟩
        rw [le_R hs, hv0]
        simp [lOf, fmin, c_1, c_2, c_3, c_4]
    · have c_3 : (mi 89 p) = 1 := Decidable.not_not.mp (of_decide_eq_false c_3)
      refine wp_steps 6 (t' := (76, [some (.ref 84), some (.int (nI p)), some (.int (nI s)), some (.int hp), some (.int (mi 89 p)), some (.int v0), some (.int v0), some (.int v0), some (.int v0)], [.int 99, .int 0, .int v0], (HD, m_1, w_1, mr))) rfl ?_
      refine wp_cal (as := [.int v0, .int 0, .int 99]) rfl rfl rfl (Nat.le_of_ble_eq_true rfl) ((c_within (v := v0) (lo := 0) (hi := 99) (by decide))) (by decide) ?_
      rintro _ _ ⟨rfl, rfl⟩
      show aWP _ _ (77, [some (.ref 84), some (.int (nI p)), some (.int (nI s)), some (.int hp), some (.int (mi 89 p)), some (.int v0), some (.int v0), some (.int v0), some (.int v0)], [.int (cl 0 99 v0)], (HD, m_1, w_1, mr)) _
      refine wp_ret rfl rfl ⟨⟨Nat.le_refl _, Nat.le_refl _⟩, ?_⟩
      refine ⟨?_, m_1, w_1, rfl, f1⟩
      rw [le_R hs, hv0]
      simp [lOf, fmin, c_1, c_2, c_3]
  · have c_1 : hp = 0 := Decidable.not_not.mp (of_decide_eq_false c_1)
    refine wp_steps 6 (t' := (21, [some (.ref 84), some (.int (nI p)), some (.int (nI s)), some (.int hp), some (.int (mi 89 p)), some (.int v0), some (.int (2 * v0)), none, none], [.int hp], (HD, m_1, w_1, mr))) rfl ?_
    refine wp_bI rfl (fun c_11 => ?_) (fun c_11 => ?_)
    · have c_11 : ¬ hp = 0 := of_decide_eq_true c_11
      exact absurd c_1 c_11
    have c_11 : hp = 0 := Decidable.not_not.mp (of_decide_eq_false c_11)
    refine wp_steps 7 (t' := (30, [some (.ref 84), some (.int (nI p)), some (.int (nI s)), some (.int hp), some (.int (mi 89 p)), some (.int v0), some (.int (2 * v0)), some (.int (v0 / 2)), none], [.int 1, .int (mi 89 p)], (HD, m_1, w_1, mr))) rfl ?_
    refine wp_bC rfl (fun c_12 => ?_) (fun c_12 => ?_)
    · have c_12 : ¬ (mi 89 p) = 1 := of_decide_eq_true c_12
      refine wp_steps 2 (t' := (35, [some (.ref 84), some (.int (nI p)), some (.int (nI s)), some (.int hp), some (.int (mi 89 p)), some (.int v0), some (.int (2 * v0)), some (.int (v0 / 2)), none], [.int 2, .int (mi 89 p)], (HD, m_1, w_1, mr))) rfl ?_
      refine wp_bC rfl (fun c_13 => ?_) (fun c_13 => ?_)
      · have c_13 : ¬ (mi 89 p) = 2 := of_decide_eq_true c_13
        refine wp_steps 2 (t' := (40, [some (.ref 84), some (.int (nI p)), some (.int (nI s)), some (.int hp), some (.int (mi 89 p)), some (.int v0), some (.int (2 * v0)), some (.int (v0 / 2)), none], [.int 3, .int (mi 89 p)], (HD, m_1, w_1, mr))) rfl ?_
        refine wp_bC rfl (fun c_14 => ?_) (fun c_14 => ?_)
        · have c_14 : ¬ (mi 89 p) = 3 := of_decide_eq_true c_14
          refine wp_steps 2 (t' := (50, [some (.ref 84), some (.int (nI p)), some (.int (nI s)), some (.int hp), some (.int (mi 89 p)), some (.int v0), some (.int (2 * v0)), some (.int (v0 / 2)), none], [.int 4, .int (mi 89 p)], (HD, m_1, w_1, mr))) rfl ?_
          refine wp_bC rfl (fun c_15 => ?_) (fun c_15 => ?_)
          · have c_15 : ¬ (mi 89 p) = 4 := of_decide_eq_true c_15
            refine wp_steps 2 (t' := (65, [some (.ref 84), some (.int (nI p)), some (.int (nI s)), some (.int hp), some (.int (mi 89 p)), some (.int v0), some (.int (2 * v0)), some (.int (v0 / 2)), none], [.int 5, .int (mi 89 p)], (HD, m_1, w_1, mr))) rfl ?_
            refine wp_bC rfl (fun c_16 => ?_) (fun c_16 => ?_)
            · have c_16 : ¬ (mi 89 p) = 5 := of_decide_eq_true c_16
              refine wp_steps 5 (t' := (76, [some (.ref 84), some (.int (nI p)), some (.int (nI s)), some (.int hp), some (.int (mi 89 p)), some (.int v0), some (.int (2 * v0)), some (.int (v0 / 2)), some (.int v0)], [.int 99, .int 0, .int v0], (HD, m_1, w_1, mr))) rfl ?_
              refine wp_cal (as := [.int v0, .int 0, .int 99]) rfl rfl rfl (Nat.le_of_ble_eq_true rfl) ((c_within (v := v0) (lo := 0) (hi := 99) (by decide))) (by decide) ?_
              rintro _ _ ⟨rfl, rfl⟩
              show aWP _ _ (77, [some (.ref 84), some (.int (nI p)), some (.int (nI s)), some (.int hp), some (.int (mi 89 p)), some (.int v0), some (.int (2 * v0)), some (.int (v0 / 2)), some (.int v0)], [.int (cl 0 99 v0)], (HD, m_1, w_1, mr)) _
              refine wp_ret rfl rfl ⟨⟨Nat.le_refl _, Nat.le_refl _⟩, ?_⟩
              refine ⟨?_, m_1, w_1, rfl, f1⟩
              rw [le_R hs, hv0]
              simp [lOf, fmin, c_1, c_11, c_12, c_13, c_14, c_15, c_16]
            · have c_16 : (mi 89 p) = 5 := Decidable.not_not.mp (of_decide_eq_false c_16)
              refine wp_steps 2 (t' := (68, [some (.ref 84), some (.int (nI p)), some (.int (nI s)), some (.int hp), some (.int (mi 89 p)), some (.int v0), some (.int (2 * v0)), some (.int (v0 / 2)), none], [.int 3, .int v0], (HD, m_1, w_1, mr))) rfl ?_
              refine wp_bC rfl (fun c_17 => ?_) (fun c_17 => ?_)
              · have c_17 : v0 ≤ 3 := of_decide_eq_true c_17
                refine wp_steps 5 (t' := (76, [some (.ref 84), some (.int (nI p)), some (.int (nI s)), some (.int hp), some (.int (mi 89 p)), some (.int v0), some (.int (2 * v0)), some (.int (v0 / 2)), some (.int v0)], [.int 99, .int 0, .int v0], (HD, m_1, w_1, mr))) rfl ?_
                refine wp_cal (as := [.int v0, .int 0, .int 99]) rfl rfl rfl (Nat.le_of_ble_eq_true rfl) ((c_within (v := v0) (lo := 0) (hi := 99) (by decide))) (by decide) ?_
                rintro _ _ ⟨rfl, rfl⟩
                show aWP _ _ (77, [some (.ref 84), some (.int (nI p)), some (.int (nI s)), some (.int hp), some (.int (mi 89 p)), some (.int v0), some (.int (2 * v0)), some (.int (v0 / 2)), some (.int v0)], [.int (cl 0 99 v0)], (HD, m_1, w_1, mr)) _
                refine wp_ret rfl rfl ⟨⟨Nat.le_refl _, Nat.le_refl _⟩, ?_⟩
                refine ⟨?_, m_1, w_1, rfl, f1⟩
                rw [le_R hs, hv0]
                simp [lOf, fmin, c_1, c_11, c_12, c_13, c_14, c_15, c_16, c_17, Int32.not_lt.mpr c_17]
              · have c_17 : ¬ (v0 ≤ 3) := of_decide_eq_false c_17
                refine wp_steps 6 (t' := (76, [some (.ref 84), some (.int (nI p)), some (.int (nI s)), some (.int hp), some (.int (mi 89 p)), some (.int v0), some (.int (2 * v0)), some (.int (v0 / 2)), some (.int 3)], [.int 99, .int 0, .int 3], (HD, m_1, w_1, mr))) rfl ?_
                refine wp_cal (as := [.int 3, .int 0, .int 99]) rfl rfl rfl (Nat.le_of_ble_eq_true rfl) ((c_within (v := 3) (lo := 0) (hi := 99) (by decide))) (by decide) ?_
                rintro _ _ ⟨rfl, rfl⟩
                show aWP _ _ (77, [some (.ref 84), some (.int (nI p)), some (.int (nI s)), some (.int hp), some (.int (mi 89 p)), some (.int v0), some (.int (2 * v0)), some (.int (v0 / 2)), some (.int 3)], [.int (cl 0 99 3)], (HD, m_1, w_1, mr)) _
                refine wp_ret rfl rfl ⟨⟨Nat.le_refl _, Nat.le_refl _⟩, ?_⟩
                refine ⟨?_, m_1, w_1, rfl, f1⟩
                rw [le_R hs, hv0]
                simp [lOf, fmin, c_1, c_11, c_12, c_13, c_14, c_15, c_16, c_17, Int32.not_le.mp c_17]
          · have c_15 : (mi 89 p) = 4 := Decidable.not_not.mp (of_decide_eq_false c_15)
            refine wp_steps 2 (t' := (53, [some (.ref 84), some (.int (nI p)), some (.int (nI s)), some (.int hp), some (.int (mi 89 p)), some (.int v0), some (.int (2 * v0)), some (.int (v0 / 2)), none], [.int 1, .int hp], (HD, m_1, w_1, mr))) rfl ?_
            refine wp_bC rfl (fun c_18 => ?_) (fun c_18 => ?_)
            · have c_18 : ¬ hp = 1 := of_decide_eq_true c_18
              refine wp_steps 6 (t' := (76, [some (.ref 84), some (.int (nI p)), some (.int (nI s)), some (.int hp), some (.int (mi 89 p)), some (.int v0), some (.int (2 * v0)), some (.int (v0 / 2)), some (.int (v0 / 2))], [.int 99, .int 0, .int (v0 / 2)], (HD, m_1, w_1, mr))) rfl ?_
              refine wp_cal (as := [.int (v0 / 2), .int 0, .int 99]) rfl rfl rfl (Nat.le_of_ble_eq_true rfl) ((c_within (v := v0 / 2) (lo := 0) (hi := 99) (by decide))) (by decide) ?_
              rintro _ _ ⟨rfl, rfl⟩
              show aWP _ _ (77, [some (.ref 84), some (.int (nI p)), some (.int (nI s)), some (.int hp), some (.int (mi 89 p)), some (.int v0), some (.int (2 * v0)), some (.int (v0 / 2)), some (.int (v0 / 2))], [.int (cl 0 99 (v0 / 2))], (HD, m_1, w_1, mr)) _
              refine wp_ret rfl rfl ⟨⟨Nat.le_refl _, Nat.le_refl _⟩, ?_⟩
              refine ⟨?_, m_1, w_1, rfl, f1⟩
              rw [le_R hs, hv0]
              simp [lOf, fmin, c_1, c_11, c_12, c_13, c_14, c_15, c_18]
            · have c_18 : hp = 1 := Decidable.not_not.mp (of_decide_eq_false c_18)
              refine wp_steps 2 (t' := (56, [some (.ref 84), some (.int (nI p)), some (.int (nI s)), some (.int hp), some (.int (mi 89 p)), some (.int v0), some (.int (2 * v0)), some (.int (v0 / 2)), none], [.ref 84, .int (v0 / 2)], (HD, m_1, w_1, mr))) rfl ?_
              refine wp_getr rfl ⟨by decide, rfl⟩ rfl (hM (84, 10, 90) (by decide)) ?_
              refine wp_steps 1 (t' := (58, [some (.ref 84), some (.int (nI p)), some (.int (nI s)), some (.int hp), some (.int (mi 89 p)), some (.int v0), some (.int (2 * v0)), some (.int (v0 / 2)), none], [.int (nI p), .ref 90, .int (v0 / 2)], (HD, m_1, w_1, mr))) rfl ?_
              refine wp_iald rfl ⟨by decide, rfl⟩ (aix_nI (by omega) (by decide)) ?_
              rw [nI_clamp (n := p) (by omega)]
              rw [f1.row (k := 90) (by decide)]
              refine wp_steps 6 (t' := (76, [some (.ref 84), some (.int (nI p)), some (.int (nI s)), some (.int hp), some (.int (mi 89 p)), some (.int v0), some (.int (2 * v0)), some (.int (v0 / 2)), some (.int ((v0 / 2) + (mi 90 p)))], [.int 99, .int 0, .int ((v0 / 2) + (mi 90 p))], (HD, m_1, w_1, mr))) rfl ?_
              refine wp_cal (as := [.int ((v0 / 2) + (mi 90 p)), .int 0, .int 99]) rfl rfl rfl (Nat.le_of_ble_eq_true rfl) ((c_within (v := (v0 / 2) + (mi 90 p)) (lo := 0) (hi := 99) (by decide))) (by decide) ?_
              rintro _ _ ⟨rfl, rfl⟩
              show aWP _ _ (77, [some (.ref 84), some (.int (nI p)), some (.int (nI s)), some (.int hp), some (.int (mi 89 p)), some (.int v0), some (.int (2 * v0)), some (.int (v0 / 2)), some (.int ((v0 / 2) + (mi 90 p)))], [.int (cl 0 99 ((v0 / 2) + (mi 90 p)))], (HD, m_1, w_1, mr)) _
              refine wp_ret rfl rfl ⟨⟨Nat.le_refl _, Nat.le_refl _⟩, ?_⟩
              exact absurd (c_1.symm.trans c_18) (by decide)
        · have c_14 : (mi 89 p) = 3 := Decidable.not_not.mp (of_decide_eq_false c_14)
          refine wp_steps 2 (t' := (43, [some (.ref 84), some (.int (nI p)), some (.int (nI s)), some (.int hp), some (.int (mi 89 p)), some (.int v0), some (.int (2 * v0)), some (.int (v0 / 2)), none], [.int 2, .int hp], (HD, m_1, w_1, mr))) rfl ?_
          refine wp_bC rfl (fun c_19 => ?_) (fun c_19 => ?_)
          · have c_19 : ¬ hp = 2 := of_decide_eq_true c_19
            refine wp_steps 6 (t' := (76, [some (.ref 84), some (.int (nI p)), some (.int (nI s)), some (.int hp), some (.int (mi 89 p)), some (.int v0), some (.int (2 * v0)), some (.int (v0 / 2)), some (.int (2 * v0))], [.int 99, .int 0, .int (2 * v0)], (HD, m_1, w_1, mr))) rfl ?_
            refine wp_cal (as := [.int (2 * v0), .int 0, .int 99]) rfl rfl rfl (Nat.le_of_ble_eq_true rfl) ((c_within (v := 2 * v0) (lo := 0) (hi := 99) (by decide))) (by decide) ?_
            rintro _ _ ⟨rfl, rfl⟩
            show aWP _ _ (77, [some (.ref 84), some (.int (nI p)), some (.int (nI s)), some (.int hp), some (.int (mi 89 p)), some (.int v0), some (.int (2 * v0)), some (.int (v0 / 2)), some (.int (2 * v0))], [.int (cl 0 99 (2 * v0))], (HD, m_1, w_1, mr)) _
            refine wp_ret rfl rfl ⟨⟨Nat.le_refl _, Nat.le_refl _⟩, ?_⟩
            refine ⟨?_, m_1, w_1, rfl, f1⟩
            rw [le_R hs, hv0]
            simp [lOf, fmin, c_1, c_11, c_12, c_13, c_14, c_19]
          · have c_19 : hp = 2 := Decidable.not_not.mp (of_decide_eq_false c_19)
            refine wp_steps 6 (t' := (76, [some (.ref 84), some (.int (nI p)), some (.int (nI s)), some (.int hp), some (.int (mi 89 p)), some (.int v0), some (.int (2 * v0)), some (.int (v0 / 2)), some (.int 0)], [.int 99, .int 0, .int 0], (HD, m_1, w_1, mr))) rfl ?_
            refine wp_cal (as := [.int 0, .int 0, .int 99]) rfl rfl rfl (Nat.le_of_ble_eq_true rfl) ((c_within (v := 0) (lo := 0) (hi := 99) (by decide))) (by decide) ?_
            rintro _ _ ⟨rfl, rfl⟩
            show aWP _ _ (77, [some (.ref 84), some (.int (nI p)), some (.int (nI s)), some (.int hp), some (.int (mi 89 p)), some (.int v0), some (.int (2 * v0)), some (.int (v0 / 2)), some (.int 0)], [.int (cl 0 99 0)], (HD, m_1, w_1, mr)) _
            refine wp_ret rfl rfl ⟨⟨Nat.le_refl _, Nat.le_refl _⟩, ?_⟩
            exact absurd (c_1.symm.trans c_19) (by decide)
      · have c_13 : (mi 89 p) = 2 := Decidable.not_not.mp (of_decide_eq_false c_13)
        refine wp_steps 6 (t' := (76, [some (.ref 84), some (.int (nI p)), some (.int (nI s)), some (.int hp), some (.int (mi 89 p)), some (.int v0), some (.int (2 * v0)), some (.int (v0 / 2)), some (.int (v0 / 2))], [.int 99, .int 0, .int (v0 / 2)], (HD, m_1, w_1, mr))) rfl ?_
        refine wp_cal (as := [.int (v0 / 2), .int 0, .int 99]) rfl rfl rfl (Nat.le_of_ble_eq_true rfl) ((c_within (v := v0 / 2) (lo := 0) (hi := 99) (by decide))) (by decide) ?_
        rintro _ _ ⟨rfl, rfl⟩
        show aWP _ _ (77, [some (.ref 84), some (.int (nI p)), some (.int (nI s)), some (.int hp), some (.int (mi 89 p)), some (.int v0), some (.int (2 * v0)), some (.int (v0 / 2)), some (.int (v0 / 2))], [.int (cl 0 99 (v0 / 2))], (HD, m_1, w_1, mr)) _
        refine wp_ret rfl rfl ⟨⟨Nat.le_refl _, Nat.le_refl _⟩, ?_⟩
        refine ⟨?_, m_1, w_1, rfl, f1⟩
        rw [le_R hs, hv0]
        simp [lOf, fmin, c_1, c_11, c_12, c_13]
    · have c_12 : (mi 89 p) = 1 := Decidable.not_not.mp (of_decide_eq_false c_12)
      refine wp_steps 6 (t' := (76, [some (.ref 84), some (.int (nI p)), some (.int (nI s)), some (.int hp), some (.int (mi 89 p)), some (.int v0), some (.int (2 * v0)), some (.int (v0 / 2)), some (.int (2 * v0))], [.int 99, .int 0, .int (2 * v0)], (HD, m_1, w_1, mr))) rfl ?_
      refine wp_cal (as := [.int (2 * v0), .int 0, .int 99]) rfl rfl rfl (Nat.le_of_ble_eq_true rfl) ((c_within (v := 2 * v0) (lo := 0) (hi := 99) (by decide))) (by decide) ?_
      rintro _ _ ⟨rfl, rfl⟩
      show aWP _ _ (77, [some (.ref 84), some (.int (nI p)), some (.int (nI s)), some (.int hp), some (.int (mi 89 p)), some (.int v0), some (.int (2 * v0)), some (.int (v0 / 2)), some (.int (2 * v0))], [.int (cl 0 99 (2 * v0))], (HD, m_1, w_1, mr)) _
      refine wp_ret rfl rfl ⟨⟨Nat.le_refl _, Nat.le_refl _⟩, ?_⟩
      refine ⟨?_, m_1, w_1, rfl, f1⟩
      rw [le_R hs, hv0]
      simp [lOf, fmin, c_1, c_11, c_12]
set_option maxRecDepth 20000 in
set_option maxHeartbeats 1000000 in
theorem r_forgets {X : aXt × Value} {mi : Nat → Nat → Int32} {ml : Nat → Nat → Int64} {mr : Nat → Nat → Option Nat} (hM : MRok mr) {c0 c1 c2 : List Int32} (hR : RUX mi c0 c1 c2) {p s : Nat} (hp5 : p < 5) (hs : s < 8) : aCW X 44 175 [.ref 84, .int (nI p), .int (nI s)] (HD, mi, ml, mr) (fun r h' => r = some (.int (foG (twR mi c0 c1 c2) (puR mi p) s)) ∧ ∃ m' w', h' = (HD, m', w', mr) ∧ frY mi m') := by
  refine cw_of (cd := cd_X7_forgetsOf) (nL := 5) rfl rfl ?_
  show aWP _ _ (0, [some (.ref 84), some (.int (nI p)), some (.int (nI s)), none, none], [], (HD, mi, ml, mr)) _
  refine wp_steps 1 (t' := (1, [some (.ref 84), some (.int (nI p)), some (.int (nI s)), none, none], [.ref 84], (HD, mi, ml, mr))) rfl ?_
  refine wp_getr rfl ⟨by decide, rfl⟩ rfl (hM (84, 9, 89) (by decide)) ?_
  refine wp_steps 1 (t' := (3, [some (.ref 84), some (.int (nI p)), some (.int (nI s)), none, none], [.int (nI p), .ref 89], (HD, mi, ml, mr))) rfl ?_
  refine wp_iald rfl ⟨by decide, rfl⟩ (aix_nI (by omega) (by decide)) ?_
  rw [nI_clamp (n := p) (by omega)]
  refine wp_steps 6 (t' := (10, [some (.ref 84), some (.int (nI p)), some (.int (nI s)), some (.int (mi 89 p)), none], [.int 0, .int (nI s), .int (nI p), .int 1, .ref 84], (HD, mi, ml, mr))) rfl ?_
  refine wp_calv (as := [.int 1, .int (nI p), .int (nI s), .int 0]) rfl rfl rfl (Nat.le_of_ble_eq_true rfl) ⟨by decide, rfl⟩ ((r_says (ml := ml) hM hR hp5 hs (wh := 1) (h1 := 0))) (by decide) ?_
  rintro _ _ ⟨rfl, m_1, w_1, rfl, f1⟩
  rw [show cl (if (1 : Int32) = 2 then -99 else 0) 99 (tvC (cW c0 c1 c2 1) (nmF (mi 91 (10 * p + s)) (mi 88 s) 0 (mi 90 p) (mi 84 7) (mi 91 (10 * p + 8)))) = cl 0 99 (tvC c1 (nmF (mi 91 (10 * p + s)) (mi 88 s) 0 (mi 90 p) (mi 84 7) (mi 91 (10 * p + 8)))) from rfl]
  generalize hv0 : cl 0 99 (tvC c1 (nmF (mi 91 (10 * p + s)) (mi 88 s) 0 (mi 90 p) (mi 84 7) (mi 91 (10 * p + 8)))) = v0
  show aWP _ _ (11, [some (.ref 84), some (.int (nI p)), some (.int (nI s)), some (.int (mi 89 p)), none], [.int v0], (HD, m_1, w_1, mr)) _
  refine wp_steps 3 (t' := (14, [some (.ref 84), some (.int (nI p)), some (.int (nI s)), some (.int (mi 89 p)), some (.int v0)], [.int 2, .int (mi 89 p)], (HD, m_1, w_1, mr))) rfl ?_
  refine wp_bC rfl (fun c_1 => ?_) (fun c_1 => ?_)
  · have c_1 : (mi 89 p) = 2 := of_decide_eq_true c_1
    refine wp_steps 6 (t' := (42, [some (.ref 84), some (.int (nI p)), some (.int (nI s)), some (.int (mi 89 p)), some (.int v0)], [.int 99, .int 0, .int (v0 + 1)], (HD, m_1, w_1, mr))) rfl ?_
    refine wp_cal (as := [.int (v0 + 1), .int 0, .int 99]) rfl rfl rfl (Nat.le_of_ble_eq_true rfl) ((c_within (v := v0 + 1) (lo := 0) (hi := 99) (by decide))) (by decide) ?_
    rintro _ _ ⟨rfl, rfl⟩
    show aWP _ _ (43, [some (.ref 84), some (.int (nI p)), some (.int (nI s)), some (.int (mi 89 p)), some (.int v0)], [.int (cl 0 99 (v0 + 1))], (HD, m_1, w_1, mr)) _
    refine wp_ret rfl rfl ⟨⟨Nat.le_refl _, Nat.le_refl _⟩, ?_⟩
    refine ⟨?_, m_1, w_1, rfl, f1⟩
    rw [fo_R hs, hv0]
    simp [gOf, fmin, c_1]
  · have c_1 : ¬ ((mi 89 p) = 2) := of_decide_eq_false c_1
    refine wp_steps 2 (t' := (17, [some (.ref 84), some (.int (nI p)), some (.int (nI s)), some (.int (mi 89 p)), some (.int v0)], [.int 4, .int (mi 89 p)], (HD, m_1, w_1, mr))) rfl ?_
    refine wp_bC rfl (fun c_2 => ?_) (fun c_2 => ?_)
    · have c_2 : ¬ (mi 89 p) = 4 := of_decide_eq_true c_2
      refine wp_steps 2 (t' := (24, [some (.ref 84), some (.int (nI p)), some (.int (nI s)), some (.int (mi 89 p)), some (.int v0)], [.int 3, .int (mi 89 p)], (HD, m_1, w_1, mr))) rfl ?_
      refine wp_bC rfl (fun c_3 => ?_) (fun c_3 => ?_)
      · have c_3 : ¬ (mi 89 p) = 3 := of_decide_eq_true c_3
        refine wp_steps 2 (t' := (31, [some (.ref 84), some (.int (nI p)), some (.int (nI s)), some (.int (mi 89 p)), some (.int v0)], [.int 5, .int (mi 89 p)], (HD, m_1, w_1, mr))) rfl ?_
        refine wp_bC rfl (fun c_4 => ?_) (fun c_4 => ?_)
        · have c_4 : ¬ (mi 89 p) = 5 := of_decide_eq_true c_4
          refine wp_steps 3 (t' := (42, [some (.ref 84), some (.int (nI p)), some (.int (nI s)), some (.int (mi 89 p)), some (.int v0)], [.int 99, .int 0, .int v0], (HD, m_1, w_1, mr))) rfl ?_
          refine wp_cal (as := [.int v0, .int 0, .int 99]) rfl rfl rfl (Nat.le_of_ble_eq_true rfl) ((c_within (v := v0) (lo := 0) (hi := 99) (by decide))) (by decide) ?_
          rintro _ _ ⟨rfl, rfl⟩
          show aWP _ _ (43, [some (.ref 84), some (.int (nI p)), some (.int (nI s)), some (.int (mi 89 p)), some (.int v0)], [.int (cl 0 99 v0)], (HD, m_1, w_1, mr)) _
          refine wp_ret rfl rfl ⟨⟨Nat.le_refl _, Nat.le_refl _⟩, ?_⟩
          refine ⟨?_, m_1, w_1, rfl, f1⟩
          rw [fo_R hs, hv0]
          simp [gOf, fmin, c_1, c_2, c_3, c_4]
        · have c_4 : (mi 89 p) = 5 := Decidable.not_not.mp (of_decide_eq_false c_4)
          refine wp_steps 2 (t' := (34, [some (.ref 84), some (.int (nI p)), some (.int (nI s)), some (.int (mi 89 p)), some (.int v0)], [.ref 84, .int v0], (HD, m_1, w_1, mr))) rfl ?_
          refine wp_getr rfl ⟨by decide, rfl⟩ rfl (hM (84, 10, 90) (by decide)) ?_
          refine wp_steps 1 (t' := (36, [some (.ref 84), some (.int (nI p)), some (.int (nI s)), some (.int (mi 89 p)), some (.int v0)], [.int (nI p), .ref 90, .int v0], (HD, m_1, w_1, mr))) rfl ?_
          refine wp_iald rfl ⟨by decide, rfl⟩ (aix_nI (by omega) (by decide)) ?_
          rw [nI_clamp (n := p) (by omega)]
          rw [f1.row (k := 90) (by decide)]
          refine wp_steps 4 (t' := (42, [some (.ref 84), some (.int (nI p)), some (.int (nI s)), some (.int (mi 89 p)), some (.int v0)], [.int 99, .int 0, .int (v0 + (mi 90 p))], (HD, m_1, w_1, mr))) rfl ?_
          refine wp_cal (as := [.int (v0 + (mi 90 p)), .int 0, .int 99]) rfl rfl rfl (Nat.le_of_ble_eq_true rfl) ((c_within (v := v0 + (mi 90 p)) (lo := 0) (hi := 99) (by decide))) (by decide) ?_
          rintro _ _ ⟨rfl, rfl⟩
          show aWP _ _ (43, [some (.ref 84), some (.int (nI p)), some (.int (nI s)), some (.int (mi 89 p)), some (.int v0)], [.int (cl 0 99 (v0 + (mi 90 p)))], (HD, m_1, w_1, mr)) _
          refine wp_ret rfl rfl ⟨⟨Nat.le_refl _, Nat.le_refl _⟩, ?_⟩
          refine ⟨?_, m_1, w_1, rfl, f1⟩
          rw [fo_R hs, hv0]
          simp [gOf, fmin, c_1, c_2, c_3, c_4]
      · have c_3 : (mi 89 p) = 3 := Decidable.not_not.mp (of_decide_eq_false c_3)
        refine wp_steps 6 (t' := (42, [some (.ref 84), some (.int (nI p)), some (.int (nI s)), some (.int (mi 89 p)), some (.int v0)], [.int 99, .int 0, .int (2 * v0)], (HD, m_1, w_1, mr))) rfl ?_
        refine wp_cal (as := [.int (2 * v0), .int 0, .int 99]) rfl rfl rfl (Nat.le_of_ble_eq_true rfl) ((c_within (v := 2 * v0) (lo := 0) (hi := 99) (by decide))) (by decide) ?_
        rintro _ _ ⟨rfl, rfl⟩
        show aWP _ _ (43, [some (.ref 84), some (.int (nI p)), some (.int (nI s)), some (.int (mi 89 p)), some (.int v0)], [.int (cl 0 99 (2 * v0))], (HD, m_1, w_1, mr)) _
        refine wp_ret rfl rfl ⟨⟨Nat.le_refl _, Nat.le_refl _⟩, ?_⟩
        refine ⟨?_, m_1, w_1, rfl, f1⟩
        rw [fo_R hs, hv0]
        simp [gOf, fmin, c_1, c_2, c_3]
    · have c_2 : (mi 89 p) = 4 := Decidable.not_not.mp (of_decide_eq_false c_2)
      refine wp_steps 6 (t' := (42, [some (.ref 84), some (.int (nI p)), some (.int (nI s)), some (.int (mi 89 p)), some (.int v0)], [.int 99, .int 0, .int (v0 + 1)], (HD, m_1, w_1, mr))) rfl ?_
      refine wp_cal (as := [.int (v0 + 1), .int 0, .int 99]) rfl rfl rfl (Nat.le_of_ble_eq_true rfl) ((c_within (v := v0 + 1) (lo := 0) (hi := 99) (by decide))) (by decide) ?_
      rintro _ _ ⟨rfl, rfl⟩
      show aWP _ _ (43, [some (.ref 84), some (.int (nI p)), some (.int (nI s)), some (.int (mi 89 p)), some (.int v0)], [.int (cl 0 99 (v0 + 1))], (HD, m_1, w_1, mr)) _
      refine wp_ret rfl rfl ⟨⟨Nat.le_refl _, Nat.le_refl _⟩, ?_⟩
      refine ⟨?_, m_1, w_1, rfl, f1⟩
      rw [fo_R hs, hv0]
      simp [gOf, fmin, c_1, c_2]
set_option maxRecDepth 20000 in
set_option maxHeartbeats 1000000 in
theorem r_nerve {X : aXt × Value} {mi : Nat → Nat → Int32} {ml : Nat → Nat → Int64} {mr : Nat → Nat → Option Nat} (hM : MRok mr) {c0 c1 c2 : List Int32} (hR : RUX mi c0 c1 c2) {p s : Nat} (hp5 : p < 5) (hs : s < 8) : aCW X 44 176 [.ref 84, .int (nI p), .int (nI s)] (HD, mi, ml, mr) (fun r h' => r = some (.int (neG (twR mi c0 c1 c2) (puR mi p) s)) ∧ ∃ m' w', h' = (HD, m', w', mr) ∧ frY mi m') := by
  refine cw_of (cd := cd_X7_nerveOf) (nL := 5) rfl rfl ?_
  show aWP _ _ (0, [some (.ref 84), some (.int (nI p)), some (.int (nI s)), none, none], [], (HD, mi, ml, mr)) _
  refine wp_steps 1 (t' := (1, [some (.ref 84), some (.int (nI p)), some (.int (nI s)), none, none], [.ref 84], (HD, mi, ml, mr))) rfl ?_
  refine wp_getr rfl ⟨by decide, rfl⟩ rfl (hM (84, 9, 89) (by decide)) ?_
  refine wp_steps 1 (t' := (3, [some (.ref 84), some (.int (nI p)), some (.int (nI s)), none, none], [.int (nI p), .ref 89], (HD, mi, ml, mr))) rfl ?_
  refine wp_iald rfl ⟨by decide, rfl⟩ (aix_nI (by omega) (by decide)) ?_
  rw [nI_clamp (n := p) (by omega)]
  refine wp_steps 3 (t' := (7, [some (.ref 84), some (.int (nI p)), some (.int (nI s)), some (.int (mi 89 p)), none], [.int 4, .int (mi 89 p)], (HD, mi, ml, mr))) rfl ?_
  refine wp_bC rfl (fun c_1 => ?_) (fun c_1 => ?_)
  · have c_1 : ¬ (mi 89 p) = 4 := of_decide_eq_true c_1
    refine wp_steps 5 (t' := (23, [some (.ref 84), some (.int (nI p)), some (.int (nI s)), some (.int (mi 89 p)), none], [.int 0, .int (nI s), .int (nI p), .int 2, .ref 84], (HD, mi, ml, mr))) rfl ?_
    refine wp_calv (as := [.int 2, .int (nI p), .int (nI s), .int 0]) rfl rfl rfl (Nat.le_of_ble_eq_true rfl) ⟨by decide, rfl⟩ ((r_says (ml := ml) hM hR hp5 hs (wh := 2) (h1 := 0))) (by decide) ?_
    rintro _ _ ⟨rfl, m_1, w_1, rfl, f1⟩
    rw [show cl (if (2 : Int32) = 2 then -99 else 0) 99 (tvC (cW c0 c1 c2 2) (nmF (mi 91 (10 * p + s)) (mi 88 s) 0 (mi 90 p) (mi 84 7) (mi 91 (10 * p + 8)))) = cl (-99) 99 (tvC c2 (nmF (mi 91 (10 * p + s)) (mi 88 s) 0 (mi 90 p) (mi 84 7) (mi 91 (10 * p + 8)))) from rfl]
    generalize hv0 : cl (-99) 99 (tvC c2 (nmF (mi 91 (10 * p + s)) (mi 88 s) 0 (mi 90 p) (mi 84 7) (mi 91 (10 * p + 8)))) = v0
    show aWP _ _ (24, [some (.ref 84), some (.int (nI p)), some (.int (nI s)), some (.int (mi 89 p)), none], [.int v0], (HD, m_1, w_1, mr)) _
    refine wp_steps 3 (t' := (27, [some (.ref 84), some (.int (nI p)), some (.int (nI s)), some (.int (mi 89 p)), some (.int v0)], [.int 1, .int (mi 89 p)], (HD, m_1, w_1, mr))) rfl ?_
    refine wp_bC rfl (fun c_2 => ?_) (fun c_2 => ?_)
    · have c_2 : ¬ (mi 89 p) = 1 := of_decide_eq_true c_2
      refine wp_steps 2 (t' := (34, [some (.ref 84), some (.int (nI p)), some (.int (nI s)), some (.int (mi 89 p)), some (.int v0)], [.int 3, .int (mi 89 p)], (HD, m_1, w_1, mr))) rfl ?_
      refine wp_bC rfl (fun c_3 => ?_) (fun c_3 => ?_)
      · have c_3 : ¬ (mi 89 p) = 3 := of_decide_eq_true c_3
        refine wp_steps 2 (t' := (46, [some (.ref 84), some (.int (nI p)), some (.int (nI s)), some (.int (mi 89 p)), some (.int v0)], [.int 2, .int (mi 89 p)], (HD, m_1, w_1, mr))) rfl ?_
        refine wp_bC rfl (fun c_4 => ?_) (fun c_4 => ?_)
        · have c_4 : (mi 89 p) = 2 := of_decide_eq_true c_4
          refine wp_steps 4 (t' := (62, [some (.ref 84), some (.int (nI p)), some (.int (nI s)), some (.int (mi 89 p)), some (.int v0)], [.int (v0 - 5)], (HD, m_1, w_1, mr))) rfl ?_
          refine wp_ret rfl rfl ⟨⟨Nat.le_refl _, Nat.le_refl _⟩, ?_⟩
          refine ⟨?_, m_1, w_1, rfl, f1⟩
          rw [ne_R hs, hv0]
          simp [nOf, c_1, c_2, c_3, c_4]
        · have c_4 : ¬ ((mi 89 p) = 2) := of_decide_eq_false c_4
          refine wp_steps 2 (t' := (49, [some (.ref 84), some (.int (nI p)), some (.int (nI s)), some (.int (mi 89 p)), some (.int v0)], [.int 4, .int (mi 89 p)], (HD, m_1, w_1, mr))) rfl ?_
          refine wp_bC rfl (fun c_5 => ?_) (fun c_5 => ?_)
          rotate_left
          · have c_5 : (mi 89 p) = 4 := Decidable.not_not.mp (of_decide_eq_false c_5)
            exact absurd c_5 c_1
          have c_5 : ¬ (mi 89 p) = 4 := of_decide_eq_true c_5
          refine wp_steps 2 (t' := (56, [some (.ref 84), some (.int (nI p)), some (.int (nI s)), some (.int (mi 89 p)), some (.int v0)], [.int 5, .int (mi 89 p)], (HD, m_1, w_1, mr))) rfl ?_
          refine wp_bC rfl (fun c_6 => ?_) (fun c_6 => ?_)
          · have c_6 : ¬ (mi 89 p) = 5 := of_decide_eq_true c_6
            refine wp_steps 1 (t' := (62, [some (.ref 84), some (.int (nI p)), some (.int (nI s)), some (.int (mi 89 p)), some (.int v0)], [.int v0], (HD, m_1, w_1, mr))) rfl ?_
            refine wp_ret rfl rfl ⟨⟨Nat.le_refl _, Nat.le_refl _⟩, ?_⟩
            refine ⟨?_, m_1, w_1, rfl, f1⟩
            rw [ne_R hs, hv0]
            simp [nOf, c_1, c_2, c_3, c_4, c_5, c_6]
          · have c_6 : (mi 89 p) = 5 := Decidable.not_not.mp (of_decide_eq_false c_6)
            refine wp_steps 4 (t' := (62, [some (.ref 84), some (.int (nI p)), some (.int (nI s)), some (.int (mi 89 p)), some (.int v0)], [.int (v0 / 2)], (HD, m_1, w_1, mr))) rfl ?_
            refine wp_ret rfl rfl ⟨⟨Nat.le_refl _, Nat.le_refl _⟩, ?_⟩
            refine ⟨?_, m_1, w_1, rfl, f1⟩
            rw [ne_R hs, hv0]
            simp [nOf, c_1, c_2, c_3, c_4, c_5, c_6]
      · have c_3 : (mi 89 p) = 3 := Decidable.not_not.mp (of_decide_eq_false c_3)
        refine wp_steps 4 (t' := (39, [some (.ref 84), some (.int (nI p)), some (.int (nI s)), some (.int (mi 89 p)), some (.int v0)], [.ref 84, .int (v0 + 5)], (HD, m_1, w_1, mr))) rfl ?_
        refine wp_getr rfl ⟨by decide, rfl⟩ rfl (hM (84, 10, 90) (by decide)) ?_
        refine wp_steps 1 (t' := (41, [some (.ref 84), some (.int (nI p)), some (.int (nI s)), some (.int (mi 89 p)), some (.int v0)], [.int (nI p), .ref 90, .int (v0 + 5)], (HD, m_1, w_1, mr))) rfl ?_
        refine wp_iald rfl ⟨by decide, rfl⟩ (aix_nI (by omega) (by decide)) ?_
        rw [nI_clamp (n := p) (by omega)]
        rw [f1.row (k := 90) (by decide)]
        refine wp_steps 2 (t' := (62, [some (.ref 84), some (.int (nI p)), some (.int (nI s)), some (.int (mi 89 p)), some (.int v0)], [.int ((v0 + 5) + (mi 90 p))], (HD, m_1, w_1, mr))) rfl ?_
        refine wp_ret rfl rfl ⟨⟨Nat.le_refl _, Nat.le_refl _⟩, ?_⟩
        refine ⟨?_, m_1, w_1, rfl, f1⟩
        rw [ne_R hs, hv0]
        simp [nOf, c_1, c_2, c_3]
    · have c_2 : (mi 89 p) = 1 := Decidable.not_not.mp (of_decide_eq_false c_2)
      refine wp_steps 4 (t' := (62, [some (.ref 84), some (.int (nI p)), some (.int (nI s)), some (.int (mi 89 p)), some (.int v0)], [.int (v0 + 5)], (HD, m_1, w_1, mr))) rfl ?_
      refine wp_ret rfl rfl ⟨⟨Nat.le_refl _, Nat.le_refl _⟩, ?_⟩
      refine ⟨?_, m_1, w_1, rfl, f1⟩
      rw [ne_R hs, hv0]
      simp [nOf, c_1, c_2]
  · have c_1 : (mi 89 p) = 4 := Decidable.not_not.mp (of_decide_eq_false c_1)
    refine wp_steps 1 (t' := (9, [some (.ref 84), some (.int (nI p)), some (.int (nI s)), some (.int (mi 89 p)), none], [.ref 84], (HD, mi, ml, mr))) rfl ?_
    refine wp_getr rfl ⟨by decide, rfl⟩ rfl (hM (84, 11, 91) (by decide)) ?_
    refine wp_steps 2 (t' := (12, [some (.ref 84), some (.int (nI p)), some (.int (nI s)), some (.int (mi 89 p)), none], [.int 8, .int (nI p), .ref 91], (HD, mi, ml, mr))) rfl ?_
    refine wp_cal (as := [.int (nI p), .int 8]) rfl rfl rfl (Nat.le_of_ble_eq_true rfl) ((c_rat_n (p := p) (s := 8))) (by decide) ?_
    rintro _ _ ⟨rfl, rfl⟩
    show aWP _ _ (13, [some (.ref 84), some (.int (nI p)), some (.int (nI s)), some (.int (mi 89 p)), none], [.int (nI (10 * p + 8)), .ref 91], (HD, mi, ml, mr)) _
    refine wp_iald rfl ⟨by decide, rfl⟩ (aix_nI (by omega) (by decide)) ?_
    rw [nI_clamp (n := 10 * p + 8) (by omega)]
    refine wp_steps 1 (t' := (15, [some (.ref 84), some (.int (nI p)), some (.int (nI s)), some (.int (mi 89 p)), none], [.int 1, .int (mi 91 (10 * p + 8))], (HD, mi, ml, mr))) rfl ?_
    refine wp_bC rfl (fun c_7 => ?_) (fun c_7 => ?_)
    · have c_7 : (mi 91 (10 * p + 8)) ≤ 1 := of_decide_eq_true c_7
      refine wp_steps 5 (t' := (23, [some (.ref 84), some (.int (nI p)), some (.int (nI s)), some (.int (mi 89 p)), none], [.int 0, .int (nI s), .int (nI p), .int 2, .ref 84], (HD, mi, ml, mr))) rfl ?_
      refine wp_calv (as := [.int 2, .int (nI p), .int (nI s), .int 0]) rfl rfl rfl (Nat.le_of_ble_eq_true rfl) ⟨by decide, rfl⟩ ((r_says (ml := ml) hM hR hp5 hs (wh := 2) (h1 := 0))) (by decide) ?_
      rintro _ _ ⟨rfl, m_1, w_1, rfl, f1⟩
      rw [show cl (if (2 : Int32) = 2 then -99 else 0) 99 (tvC (cW c0 c1 c2 2) (nmF (mi 91 (10 * p + s)) (mi 88 s) 0 (mi 90 p) (mi 84 7) (mi 91 (10 * p + 8)))) = cl (-99) 99 (tvC c2 (nmF (mi 91 (10 * p + s)) (mi 88 s) 0 (mi 90 p) (mi 84 7) (mi 91 (10 * p + 8)))) from rfl]
      generalize hv0 : cl (-99) 99 (tvC c2 (nmF (mi 91 (10 * p + s)) (mi 88 s) 0 (mi 90 p) (mi 84 7) (mi 91 (10 * p + 8)))) = v0
      show aWP _ _ (24, [some (.ref 84), some (.int (nI p)), some (.int (nI s)), some (.int (mi 89 p)), none], [.int v0], (HD, m_1, w_1, mr)) _
      refine wp_steps 3 (t' := (27, [some (.ref 84), some (.int (nI p)), some (.int (nI s)), some (.int (mi 89 p)), some (.int v0)], [.int 1, .int (mi 89 p)], (HD, m_1, w_1, mr))) rfl ?_
      refine wp_bC rfl (fun c_8 => ?_) (fun c_8 => ?_)
      · have c_8 : ¬ (mi 89 p) = 1 := of_decide_eq_true c_8
        refine wp_steps 2 (t' := (34, [some (.ref 84), some (.int (nI p)), some (.int (nI s)), some (.int (mi 89 p)), some (.int v0)], [.int 3, .int (mi 89 p)], (HD, m_1, w_1, mr))) rfl ?_
        refine wp_bC rfl (fun c_9 => ?_) (fun c_9 => ?_)
        · have c_9 : ¬ (mi 89 p) = 3 := of_decide_eq_true c_9
          refine wp_steps 2 (t' := (46, [some (.ref 84), some (.int (nI p)), some (.int (nI s)), some (.int (mi 89 p)), some (.int v0)], [.int 2, .int (mi 89 p)], (HD, m_1, w_1, mr))) rfl ?_
          refine wp_bC rfl (fun c_10 => ?_) (fun c_10 => ?_)
          · have c_10 : (mi 89 p) = 2 := of_decide_eq_true c_10
            refine wp_steps 4 (t' := (62, [some (.ref 84), some (.int (nI p)), some (.int (nI s)), some (.int (mi 89 p)), some (.int v0)], [.int (v0 - 5)], (HD, m_1, w_1, mr))) rfl ?_
            refine wp_ret rfl rfl ⟨⟨Nat.le_refl _, Nat.le_refl _⟩, ?_⟩
            exact absurd (c_1.symm.trans c_10) (by decide)
          · have c_10 : ¬ ((mi 89 p) = 2) := of_decide_eq_false c_10
            refine wp_steps 2 (t' := (49, [some (.ref 84), some (.int (nI p)), some (.int (nI s)), some (.int (mi 89 p)), some (.int v0)], [.int 4, .int (mi 89 p)], (HD, m_1, w_1, mr))) rfl ?_
            refine wp_bC rfl (fun c_11 => ?_) (fun c_11 => ?_)
            · have c_11 : ¬ (mi 89 p) = 4 := of_decide_eq_true c_11
              exact absurd c_1 c_11
            have c_11 : (mi 89 p) = 4 := Decidable.not_not.mp (of_decide_eq_false c_11)
            refine wp_steps 4 (t' := (62, [some (.ref 84), some (.int (nI p)), some (.int (nI s)), some (.int (mi 89 p)), some (.int v0)], [.int (v0 - 5)], (HD, m_1, w_1, mr))) rfl ?_
            refine wp_ret rfl rfl ⟨⟨Nat.le_refl _, Nat.le_refl _⟩, ?_⟩
            refine ⟨?_, m_1, w_1, rfl, f1⟩
            rw [ne_R hs, hv0]
            simp [nOf, c_1, c_7, c_8, c_9, c_10, c_11]
        · have c_9 : (mi 89 p) = 3 := Decidable.not_not.mp (of_decide_eq_false c_9)
          refine wp_steps 4 (t' := (39, [some (.ref 84), some (.int (nI p)), some (.int (nI s)), some (.int (mi 89 p)), some (.int v0)], [.ref 84, .int (v0 + 5)], (HD, m_1, w_1, mr))) rfl ?_
          refine wp_getr rfl ⟨by decide, rfl⟩ rfl (hM (84, 10, 90) (by decide)) ?_
          refine wp_steps 1 (t' := (41, [some (.ref 84), some (.int (nI p)), some (.int (nI s)), some (.int (mi 89 p)), some (.int v0)], [.int (nI p), .ref 90, .int (v0 + 5)], (HD, m_1, w_1, mr))) rfl ?_
          refine wp_iald rfl ⟨by decide, rfl⟩ (aix_nI (by omega) (by decide)) ?_
          rw [nI_clamp (n := p) (by omega)]
          rw [f1.row (k := 90) (by decide)]
          refine wp_steps 2 (t' := (62, [some (.ref 84), some (.int (nI p)), some (.int (nI s)), some (.int (mi 89 p)), some (.int v0)], [.int ((v0 + 5) + (mi 90 p))], (HD, m_1, w_1, mr))) rfl ?_
          refine wp_ret rfl rfl ⟨⟨Nat.le_refl _, Nat.le_refl _⟩, ?_⟩
          exact absurd (c_1.symm.trans c_9) (by decide)
      · have c_8 : (mi 89 p) = 1 := Decidable.not_not.mp (of_decide_eq_false c_8)
        refine wp_steps 4 (t' := (62, [some (.ref 84), some (.int (nI p)), some (.int (nI s)), some (.int (mi 89 p)), some (.int v0)], [.int (v0 + 5)], (HD, m_1, w_1, mr))) rfl ?_
        refine wp_ret rfl rfl ⟨⟨Nat.le_refl _, Nat.le_refl _⟩, ?_⟩
        exact absurd (c_1.symm.trans c_8) (by decide)
    · have c_7 : ¬ ((mi 91 (10 * p + 8)) ≤ 1) := of_decide_eq_false c_7
      refine wp_steps 1 (t' := (17, [some (.ref 84), some (.int (nI p)), some (.int (nI s)), some (.int (mi 89 p)), none], [.int 0], (HD, mi, ml, mr))) rfl ?_
      refine wp_ret rfl rfl ⟨⟨Nat.le_refl _, Nat.le_refl _⟩, ?_⟩
      refine ⟨?_, mi, ml, rfl, frY.rf mi⟩
      rw [ne_R hs]
      simp [nOf, c_1, c_7]
set_option maxRecDepth 20000 in
set_option maxHeartbeats 1000000 in
theorem r_over {X : aXt × Value} {mi : Nat → Nat → Int32} {ml : Nat → Nat → Int64} {mr : Nat → Nat → Option Nat} (hM : MRok mr) {c0 c1 c2 : List Int32} (hR : RUX mi c0 c1 c2) {p s : Nat} (hp5 : p < 5) (hs : s < 8) : aCW X 45 177 [.ref 84, .int (nI p), .int (nI s)] (HD, mi, ml, mr) (fun r h' => r = some (.int (maG (twR mi c0 c1 c2) (puR mi p) s)) ∧ ∃ m' w', h' = (HD, m', w', mr) ∧ frY mi m') := by
  refine cw_of (cd := cd_X7_overOf) (nL := 3) rfl rfl ?_
  show aWP _ _ (0, [some (.ref 84), some (.int (nI p)), some (.int (nI s))], [], (HD, mi, ml, mr)) _
  refine wp_steps 1 (t' := (1, [some (.ref 84), some (.int (nI p)), some (.int (nI s))], [.ref 84], (HD, mi, ml, mr))) rfl ?_
  refine wp_getr rfl ⟨by decide, rfl⟩ rfl (hM (84, 11, 91) (by decide)) ?_
  refine wp_steps 2 (t' := (4, [some (.ref 84), some (.int (nI p)), some (.int (nI s))], [.int (nI s), .int (nI p), .ref 91], (HD, mi, ml, mr))) rfl ?_
  refine wp_cal (as := [.int (nI p), .int (nI s)]) rfl rfl rfl (Nat.le_of_ble_eq_true rfl) ((c_rat_n (p := p) (s := s))) (by decide) ?_
  rintro _ _ ⟨rfl, rfl⟩
  show aWP _ _ (5, [some (.ref 84), some (.int (nI p)), some (.int (nI s))], [.int (nI (10 * p + s)), .ref 91], (HD, mi, ml, mr)) _
  refine wp_iald rfl ⟨by decide, rfl⟩ (aix_nI (by omega) (by decide)) ?_
  rw [nI_clamp (n := 10 * p + s) (by omega)]
  refine wp_steps 3 (t' := (9, [some (.ref 84), some (.int (nI p)), some (.int (nI s))], [.int (nI s), .int (nI p), .ref 84, .int (mi 91 (10 * p + s))], (HD, mi, ml, mr))) rfl ?_
  refine wp_calv (as := [.int (nI p), .int (nI s)]) rfl rfl rfl (Nat.le_of_ble_eq_true rfl) ⟨by decide, rfl⟩ ((r_nerve (ml := ml) hM hR hp5 hs)) (by decide) ?_
  rintro _ _ ⟨rfl, m_1, w_1, rfl, f1⟩
  show aWP _ _ (10, [some (.ref 84), some (.int (nI p)), some (.int (nI s))], [.int (neG (twR mi c0 c1 c2) (puR mi p) s), .int (mi 91 (10 * p + s))], (HD, m_1, w_1, mr)) _
  refine wp_steps 2 (t' := (12, [some (.ref 84), some (.int (nI p)), some (.int (nI s))], [.ref 84, .int ((mi 91 (10 * p + s)) + (neG (twR mi c0 c1 c2) (puR mi p) s))], (HD, m_1, w_1, mr))) rfl ?_
  refine wp_getr rfl ⟨by decide, rfl⟩ rfl (hM (84, 8, 88) (by decide)) ?_
  refine wp_steps 1 (t' := (14, [some (.ref 84), some (.int (nI p)), some (.int (nI s))], [.int (nI s), .ref 88, .int ((mi 91 (10 * p + s)) + (neG (twR mi c0 c1 c2) (puR mi p) s))], (HD, m_1, w_1, mr))) rfl ?_
  refine wp_iald rfl ⟨by decide, rfl⟩ (aix_nI (by omega) (by decide)) ?_
  rw [nI_clamp (n := s) (by omega)]
  rw [f1.row (k := 88) (by decide)]
  refine wp_steps 1 (t' := (16, [some (.ref 84), some (.int (nI p)), some (.int (nI s))], [.int (((mi 91 (10 * p + s)) + (neG (twR mi c0 c1 c2) (puR mi p) s)) - (mi 88 s))], (HD, m_1, w_1, mr))) rfl ?_
  refine wp_ret rfl rfl ⟨⟨Nat.le_refl _, Nat.le_refl _⟩, ?_⟩
  exact ⟨by rw [ma_R hs], m_1, w_1, rfl, f1⟩
set_option maxRecDepth 20000 in
set_option maxHeartbeats 1000000 in
theorem r_manages {X : aXt × Value} {mi : Nat → Nat → Int32} {ml : Nat → Nat → Int64} {mr : Nat → Nat → Option Nat} (hM : MRok mr) {c0 c1 c2 : List Int32} (hR : RUX mi c0 c1 c2) {p s : Nat} (hp5 : p < 5) (hs : s < 8) : aCW X 46 178 [.ref 84, .int (nI p), .int (nI s)] (HD, mi, ml, mr) (fun r h' => r = some (.int (if maG (twR mi c0 c1 c2) (puR mi p) s < 0 then 0 else 1)) ∧ ∃ m' w', h' = (HD, m', w', mr) ∧ frY mi m') := by
  refine cw_of (cd := cd_X7_manages) (nL := 3) rfl rfl ?_
  show aWP _ _ (0, [some (.ref 84), some (.int (nI p)), some (.int (nI s))], [], (HD, mi, ml, mr)) _
  refine wp_steps 3 (t' := (3, [some (.ref 84), some (.int (nI p)), some (.int (nI s))], [.int (nI s), .int (nI p), .ref 84], (HD, mi, ml, mr))) rfl ?_
  refine wp_calv (as := [.int (nI p), .int (nI s)]) rfl rfl rfl (Nat.le_of_ble_eq_true rfl) ⟨by decide, rfl⟩ ((r_over (ml := ml) hM hR hp5 hs)) (by decide) ?_
  rintro _ _ ⟨rfl, m_1, w_1, rfl, f1⟩
  show aWP _ _ (4, [some (.ref 84), some (.int (nI p)), some (.int (nI s))], [.int (maG (twR mi c0 c1 c2) (puR mi p) s)], (HD, m_1, w_1, mr)) _
  refine wp_bI rfl (fun c_1 => ?_) (fun c_1 => ?_)
  · have c_1 : (maG (twR mi c0 c1 c2) (puR mi p) s) < 0 := of_decide_eq_true c_1
    refine wp_steps 1 (t' := (8, [some (.ref 84), some (.int (nI p)), some (.int (nI s))], [.int 0], (HD, m_1, w_1, mr))) rfl ?_
    refine wp_ret rfl rfl ⟨⟨Nat.le_refl _, Nat.le_refl _⟩, ?_⟩
    exact ⟨by rw [if_pos c_1], m_1, w_1, rfl, f1⟩
  · have c_1 : ¬ ((maG (twR mi c0 c1 c2) (puR mi p) s) < 0) := of_decide_eq_false c_1
    refine wp_steps 2 (t' := (8, [some (.ref 84), some (.int (nI p)), some (.int (nI s))], [.int 1], (HD, m_1, w_1, mr))) rfl ?_
    refine wp_ret rfl rfl ⟨⟨Nat.le_refl _, Nat.le_refl _⟩, ?_⟩
    exact ⟨by rw [if_neg c_1], m_1, w_1, rfl, f1⟩
set_option maxRecDepth 20000 in
set_option maxHeartbeats 1000000 in
theorem l_rmany {X : aXt × Value} {mi : Nat → Nat → Int32} {ml : Nat → Nat → Int64} {mr : Nat → Nat → Option Nat} (hM : MRok mr) {c0 c1 c2 : List Int32} (hR : RUX mi c0 c1 c2) {p : Nat} (hp5 : p < 5) : ∀ (g s : Nat) (m : Nat → Nat → Int32) (w : Nat → Nat → Int64), s + g = 8 → frY mi m → aWP (aEx (aTb X) 46) cd_X7_managedMany (4, [some (.ref 84), some (.int (nI p)), some (.int (nI (mgN (maG (twR mi c0 c1 c2) (puR mi p)) s))), some (.int (nI s))], [], (HD, m, w, mr)) (fun r h' => (HD.1 ≤ h'.1.1 ∧ HD.2.1 ≤ h'.1.2.1) ∧ r = some (.int (nI (mnG (twR mi c0 c1 c2) (puR mi p)))) ∧ ∃ m' w', h' = (HD, m', w', mr) ∧ frY mi m') := by
  intro g
  induction g with
  | zero =>
    intro s m w hg h
    obtain rfl : s = 8 := by omega
    refine wp_steps 2 (t' := (6, [some (.ref 84), some (.int (nI p)), some (.int (nI (mgN (maG (twR mi c0 c1 c2) (puR mi p)) 8))), some (.int (nI 8))], [.int 8, .int (nI 8)], (HD, m, w, mr))) rfl ?_
    refine wp_bC rfl (fun c_1 => ?_) (fun c_1 => ?_)
    rotate_left
    · have c_1 : ¬ (8 ≤ (nI 8)) := of_decide_eq_false c_1
      exact absurd (by decide) c_1
    have c_1 : 8 ≤ (nI 8) := of_decide_eq_true c_1
    refine wp_steps 1 (t' := (21, [some (.ref 84), some (.int (nI p)), some (.int (nI (mgN (maG (twR mi c0 c1 c2) (puR mi p)) 8))), some (.int (nI 8))], [.int (nI (mgN (maG (twR mi c0 c1 c2) (puR mi p)) 8))], (HD, m, w, mr))) rfl ?_
    refine wp_ret rfl rfl ⟨⟨Nat.le_refl _, Nat.le_refl _⟩, ?_⟩
    exact ⟨rfl, m, w, rfl, h⟩
  | succ g ih =>
    intro s m w hg h
    have hs : s < 8 := by omega
    refine wp_steps 2 (t' := (6, [some (.ref 84), some (.int (nI p)), some (.int (nI (mgN (maG (twR mi c0 c1 c2) (puR mi p)) s))), some (.int (nI s))], [.int 8, .int (nI s)], (HD, m, w, mr))) rfl ?_
    refine wp_bC rfl (fun c_1 => ?_) (fun c_1 => ?_)
    · have c_1 : 8 ≤ (nI s) := of_decide_eq_true c_1
      exact absurd c_1 (nI_ge hs (by decide))
    have c_1 : ¬ (8 ≤ (nI s)) := of_decide_eq_false c_1
    refine wp_steps 4 (t' := (11, [some (.ref 84), some (.int (nI p)), some (.int (nI (mgN (maG (twR mi c0 c1 c2) (puR mi p)) s))), some (.int (nI s))], [.int (nI s), .int (nI p), .ref 84, .int (nI (mgN (maG (twR mi c0 c1 c2) (puR mi p)) s))], (HD, m, w, mr))) rfl ?_
    refine wp_calv (as := [.int (nI p), .int (nI s)]) rfl rfl rfl (Nat.le_of_ble_eq_true rfl) ⟨by decide, rfl⟩ ((r_manages (mi := m) (ml := w) hM (hR.Y h) hp5 hs)) (by decide) ?_
    rintro _ _ ⟨rfl, m_1, w_1, rfl, f1⟩
    rw [twR_Y h, puR_Y h]
    show aWP _ _ (12, [some (.ref 84), some (.int (nI p)), some (.int (nI (mgN (maG (twR mi c0 c1 c2) (puR mi p)) s))), some (.int (nI s))], [.int (if maG (twR mi c0 c1 c2) (puR mi p) s < 0 then (0 : Int32) else 1), .int (nI (mgN (maG (twR mi c0 c1 c2) (puR mi p)) s))], (HD, m_1, w_1, mr)) _
    refine wp_bI rfl (fun c_2 => ?_) (fun c_2 => ?_)
    · have c_2 : (if maG (twR mi c0 c1 c2) (puR mi p) s < 0 then (0 : Int32) else 1) = 0 := of_decide_eq_true c_2
      refine wp_steps 5 (t' := (4, [some (.ref 84), some (.int (nI p)), some (.int ((nI (mgN (maG (twR mi c0 c1 c2) (puR mi p)) s)) + 0)), some (.int ((nI s) + Int32.ofInt 1))], [], (HD, m_1, w_1, mr))) rfl ?_
      have q : maG (twR mi c0 c1 c2) (puR mi p) s < 0 := Decidable.byContradiction fun z => absurd ((if_neg z).symm.trans c_2) (by decide)
      have e : mgN (maG (twR mi c0 c1 c2) (puR mi p)) (s + 1) = mgN (maG (twR mi c0 c1 c2) (puR mi p)) s := if_pos q
      rw [inc_nI, show nI (mgN (maG (twR mi c0 c1 c2) (puR mi p)) s) + 0 = nI (mgN (maG (twR mi c0 c1 c2) (puR mi p)) s) from Int32.add_zero _, ← e]
      exact ih (s + 1) m_1 w_1 (by omega) (h.tr f1)
    · have c_2 : ¬ ((if maG (twR mi c0 c1 c2) (puR mi p) s < 0 then (0 : Int32) else 1) = 0) := of_decide_eq_false c_2
      refine wp_steps 6 (t' := (4, [some (.ref 84), some (.int (nI p)), some (.int ((nI (mgN (maG (twR mi c0 c1 c2) (puR mi p)) s)) + 1)), some (.int ((nI s) + Int32.ofInt 1))], [], (HD, m_1, w_1, mr))) rfl ?_
      have q : ¬ maG (twR mi c0 c1 c2) (puR mi p) s < 0 := fun z => c_2 (if_pos z)
      have e : mgN (maG (twR mi c0 c1 c2) (puR mi p)) (s + 1) = mgN (maG (twR mi c0 c1 c2) (puR mi p)) s + 1 := if_neg q
      rw [inc_nI, nI_1, ← e]
      exact ih (s + 1) m_1 w_1 (by omega) (h.tr f1)
set_option maxRecDepth 20000 in
set_option maxHeartbeats 1000000 in
theorem r_many {X : aXt × Value} {mi : Nat → Nat → Int32} {ml : Nat → Nat → Int64} {mr : Nat → Nat → Option Nat} (hM : MRok mr) {c0 c1 c2 : List Int32} (hR : RUX mi c0 c1 c2) {p : Nat} (hp5 : p < 5) : aCW X 47 179 [.ref 84, .int (nI p)] (HD, mi, ml, mr) (fun r h' => r = some (.int (nI (mnG (twR mi c0 c1 c2) (puR mi p)))) ∧ ∃ m' w', h' = (HD, m', w', mr) ∧ frY mi m') := by
  refine cw_of (cd := cd_X7_managedMany) (nL := 4) rfl rfl ?_
  show aWP _ _ (0, [some (.ref 84), some (.int (nI p)), none, none], [], (HD, mi, ml, mr)) _
  refine wp_steps 4 (t' := (4, [some (.ref 84), some (.int (nI p)), some (.int 0), some (.int 0)], [], (HD, mi, ml, mr))) rfl ?_
  exact l_rmany (ml := ml) hM hR hp5 8 0 mi ml rfl (frY.rf mi)
