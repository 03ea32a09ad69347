/-! what a way of the reference's reading does (written by wip/whole/mkref4.py) -/
theorem pfRun_ap (nm : Nat → Int32) : ∀ (a b st : List Int32), pfRun nm (a ++ b) st = pfRun nm b (pfRun nm a st)
  | [], _, _ => rfl
  | c :: t, b, st => pfRun_ap nm t b (pfS nm c st)
theorem pfH_cons (c : Int32) (t : List Int32) (h : Nat) : pfH (c :: t) h = if c < -6 then (if c = -13 ∨ c = -19 then (if h < 1 then none else pfH t h) else (if h < 2 then none else pfH t (h - 1))) else (if h < 32 then pfH t (h + 1) else none) := rfl
theorem pfH_ap : ∀ (a b : List Int32) (h k : Nat), pfH a h = some k → pfH (a ++ b) h = pfH b k
  | [], b, h, k, q => by cases q; rfl
  | c :: t, b, h, k, q => by
    rw [List.cons_append]
    rw [pfH_cons] at q ⊢
    by_cases c1 : c < -6
    · rw [if_pos c1] at q ⊢
      by_cases c2 : c = -13 ∨ c = -19
      · rw [if_pos c2] at q ⊢
        by_cases c3 : h < 1
        · rw [if_pos c3] at q; cases q
        · rw [if_neg c3] at q ⊢; exact pfH_ap t b h k q
      · rw [if_neg c2] at q ⊢
        by_cases c3 : h < 2
        · rw [if_pos c3] at q; cases q
        · rw [if_neg c3] at q ⊢; exact pfH_ap t b (h - 1) k q
    · rw [if_neg c1] at q ⊢
      by_cases c3 : h < 32
      · rw [if_pos c3] at q ⊢; exact pfH_ap t b (h + 1) k q
      · rw [if_neg c3] at q; cases q
/-- steps that push v, over at most 32 - nd -/
def evP (nm : Nat → Int32) (nd : Nat) (cs : List Int32) (v : Int32) : Prop := (∀ st, pfRun nm cs st = v :: st) ∧ ∀ h, h + nd ≤ 32 → pfH cs h = some (h + 1)
theorem evP.wk {nm : Nat → Int32} {nd nd' : Nat} {cs : List Int32} {v : Int32} (h : evP nm nd cs v) (hn : nd ≤ nd') : evP nm nd' cs v := ⟨h.1, fun k hk => h.2 k (by omega)⟩
theorem evP_one {nm : Nat → Int32} {c v : Int32} (hc : ¬ c < -6) (hv : pfN c nm = v) : evP nm 1 [c] v := by
  refine ⟨fun st => ?_, fun h hh => ?_⟩
  · show pfS nm c st = _
    unfold pfS
    rw [if_neg hc, hv]
  · unfold pfH
    rw [if_neg hc, if_pos (by omega)]
    rfl
theorem evP_un {nm : Nat → Int32} {nd : Nat} {cs : List Int32} {v c : Int32} (h : evP nm nd cs v) (hc : c = -13 ∨ c = -19) : evP nm nd (cs ++ [c]) (pfU c v) := by
  have h6 : c < -6 := by rcases hc with rfl | rfl <;> decide
  refine ⟨fun st => ?_, fun k hk => ?_⟩
  · rw [pfRun_ap, h.1]
    show pfS nm c (v :: st) = _
    unfold pfS
    rw [if_pos h6, if_pos hc]
  · rw [pfH_ap _ _ _ _ (h.2 k hk)]
    unfold pfH
    rw [if_pos h6, if_pos hc, if_neg (by omega)]
    rfl
theorem evP_bi {nm : Nat → Int32} {nd : Nat} {cs cs2 : List Int32} {v w c : Int32} (h : evP nm (nd + 1) cs v) (h2 : evP nm nd cs2 w) (h6 : c < -6) (hc : ¬ (c = -13 ∨ c = -19)) : evP nm (nd + 1) (cs ++ (cs2 ++ [c])) (pfJ c v w) := by
  refine ⟨fun st => ?_, fun k hk => ?_⟩
  · rw [pfRun_ap, h.1, pfRun_ap, h2.1]
    show pfS nm c (w :: v :: st) = _
    unfold pfS
    rw [if_pos h6, if_neg hc]
  · rw [pfH_ap _ _ _ _ (h.2 k hk), pfH_ap _ _ _ _ (h2.2 (k + 1) (by omega))]
    unfold pfH
    rw [if_pos h6, if_neg hc, if_neg (by omega)]
    rfl
/-- from s0 on, steps that push v were made -/
def GO (nm : Nat → Int32) (nd : Nat) (s0 s : pS) (v : Int32) : Prop := ∃ cs, s.2.2.2.2 = s0.2.2.2.2 ++ cs ∧ cs.length + s0.1 ≤ s.1 ∧ evP nm nd cs v
def RES (b : Nat → Int32) (n t op : Nat) (nm : Nat → Int32) (nd : Nat) (m : Nat → Nat → Int32) (w : Nat → Nat → Int64) (s : pS) (q : Bool × pS) (v : Int32) : Prop := (q.1 = true → RS b n t op m w q.2 ∧ GO nm nd s q.2 v) ∧ (q.1 = false → RF b n t m q.2.1)
def nmO (m : Nat → Nat → Int32) (nm : Nat → Int32) : Prop := ∀ j, j < 6 → m 84 (13 + j) = nm j
theorem nmO.fr {m m' : Nat → Nat → Int32} {nm : Nat → Int32} (h : nmO m nm) (f : frR m m') : nmO m' nm := fun j hj => (f _ _ (by omega)).trans (h j hj)
/-- a way of the reference's does as F -/
def cwR (X : aXt × Value) (mr : Nat → Nat → Option Nat) (b : Nat → Int32) (n t op : Nat) (nm : Nat → Int32) (d mid nd : Nat) (F : pF) : Prop := ∀ m w s, RS b n t op m w s → nmO m nm → aCW X d mid [.ref 84] (HD, m, w, mr) (fun r h' => ∃ v m' w', r = some (.int v) ∧ h' = (HD, m', w', mr) ∧ frR m m' ∧ RES b n t op nm nd m' w' s (F s) v)
theorem cwR_up {X : aXt × Value} {mr : Nat → Nat → Option Nat} {b : Nat → Int32} {n t op : Nat} {nm : Nat → Int32} {d d' mid nd nd' : Nat} {F : pF} (h : cwR X mr b n t op nm d mid nd F) (hd : d ≤ d') (hn : nd ≤ nd') : cwR X mr b n t op nm d' mid nd' F := fun m w s h1 h2 => cw_mono (cw_up hd (h m w s h1 h2)) (by
  rintro r h' ⟨v, m', w', e1, e2, f, g1, g2⟩
  refine ⟨v, m', w', e1, e2, f, fun z => ?_, g2⟩
  obtain ⟨k1, cs, k2, k3, k4⟩ := g1 z
  exact ⟨k1, cs, k2, k3, k4.wk hn⟩)
theorem RS.ad {b : Nat → Int32} {n t op : Nat} {m : Nat → Nat → Int32} {w : Nat → Nat → Int64} {s : pS} (h : RS b n t op m w s) {c : Int32} (hl : s.2.2.2.2.length < s.1) : RS b n t op m w (adP c s) ∧ (adP c s).2.2.2.2 = s.2.2.2.2 ++ [c] ∧ (adP c s).1 = s.1 := by
  obtain ⟨hB, hk, hc, ho, hb⟩ := h
  obtain ⟨q1, q2, q3⟩ := coh_ad (c := c) hc hl hB.1.2.2.2
  exact ⟨⟨hB, by rw [q3]; exact hk, q1, ho, hb⟩, q2, q3⟩
/-- the token that is there isn't the end -/
theorem RS.lt {b : Nat → Int32} {n t op : Nat} {m : Nat → Nat → Int32} {w : Nat → Nat → Int64} {s : pS} (h : RS b n t op m w s) (hT : ¬ s.2.2.1 = 0) : s.1 < n := Nat.lt_of_not_le fun z => hT (by rw [h.2.2.1.2.2.1]; exact lx_n z)
theorem RS.st {b : Nat → Int32} {n t op : Nat} {m : Nat → Nat → Int32} {w : Nat → Nat → Int64} {s : pS} (h : RS b n t op m w s) : (s.1 < n → s.1 < (stP b n s).1) ∧ s.1 ≤ (stP b n s).1 := by
  have q := coh_st (fun p => h.1.out) h.2.2.1
  exact ⟨fun z => (q.2.1 z).2, q.2.2⟩
theorem stP_ad {b : Nat → Int32} {n : Nat} {s : pS} (c : Int32) : (stP b n (adP c s)).1 = (stP b n s).1 := by
  unfold stP
  rw [adP_t.2.2.1]
/-- a number or a name was read -/
theorem GO_one {b : Nat → Int32} {n t op : Nat} {m : Nat → Nat → Int32} {w : Nat → Nat → Int64} {s : pS} {nm : Nat → Int32} {c v : Int32} {nd : Nat} (h : RS b n t op m w s) (hT : ¬ s.2.2.1 = 0) (hl : s.2.2.2.2.length < s.1 ∨ s.2.2.2.2.length < 160) (hc : ¬ c < -6) (hv : pfN c nm = v) (hnd : 1 ≤ nd) : GO nm nd s (stP b n (adP c s)) v := by
  have e : (adP c s).2.2.2.2 = s.2.2.2.2 ++ [c] := by
    unfold adP
    rw [if_pos (by rcases hl with z | z; have := h.2.2.1.1; have := h.1.1.2.2.2; omega; exact z)]
  refine ⟨[c], e, ?_, (evP_one hc hv).wk hnd⟩
  rw [stP_ad]
  have := h.st.1 (h.lt hT)
  simp only [List.length_cons, List.length_nil]
  omega
/-- one thing was read behind a sign or a word, and turned -/
theorem GO_un {b : Nat → Int32} {n t op o2 : Nat} {m m2 : Nat → Nat → Int32} {w w2 : Nat → Nat → Int64} {s s2 : pS} {nm : Nat → Int32} {c v : Int32} {nd : Nat} (h : RS b n t op m w s) (hT : ¬ s.2.2.1 = 0) (h2 : RS b n t o2 m2 w2 s2) (g : GO nm nd (stP b n s) s2 v) (hc : c = -13 ∨ c = -19) : RS b n t o2 m2 w2 (adP c s2) ∧ GO nm nd s (adP c s2) (pfU c v) := by
  obtain ⟨cs, e1, e2, e3⟩ := g
  have q := h.st.1 (h.lt hT)
  have e1' : s2.2.2.2.2 = s.2.2.2.2 ++ cs := e1
  have hlen := h.2.2.1.2.2.2.2
  have hl : s2.2.2.2.2.length < s2.1 := by
    rw [e1', List.length_append]; omega
  obtain ⟨k1, k2, k3⟩ := h2.ad (c := c) hl
  refine ⟨k1, cs ++ [c], ?_, ?_, evP_un e3 hc⟩
  · rw [k2, e1', List.append_assoc]
  · rw [k3, List.length_append]
    simp only [List.length_cons, List.length_nil]
    omega
/-- what stood between brackets -/
theorem GO_par {b : Nat → Int32} {n t op o2 : Nat} {m m2 : Nat → Nat → Int32} {w w2 : Nat → Nat → Int64} {s s2 : pS} {nm : Nat → Int32} {v : Int32} {nd : Nat} (h : RS b n t op m w s) (hT : ¬ s.2.2.1 = 0) (h2 : RS b n t o2 m2 w2 s2) (g : GO nm nd (stP b n s) s2 v) : GO nm nd s (stP b n s2) v := by
  obtain ⟨cs, e1, e2, e3⟩ := g
  have q := h.st.1 (h.lt hT)
  have q2 := h2.st.2
  exact ⟨cs, e1, by omega, e3⟩
/-- two things joined -/
theorem GO_bi {b : Nat → Int32} {n t op o2 : Nat} {m m2 : Nat → Nat → Int32} {w w2 : Nat → Nat → Int64} {s0 s s2 : pS} {nm : Nat → Int32} {c v x : Int32} {nd : Nat} (hs0 : s0.2.2.2.2.length ≤ s0.1) (h : RS b n t op m w s) (hT : ¬ s.2.2.1 = 0) (g0 : GO nm (nd + 1) s0 s v) (h2 : RS b n t o2 m2 w2 s2) (g : GO nm nd (stP b n s) s2 x) (h6 : c < -6) (hc : ¬ (c = -13 ∨ c = -19)) : RS b n t o2 m2 w2 (adP c s2) ∧ GO nm (nd + 1) s0 (adP c s2) (pfJ c v x) ∧ s.1 < (adP c s2).1 := by
  obtain ⟨cs, e1, e2, e3⟩ := g
  obtain ⟨c0, d1, d2, d3⟩ := g0
  have q := h.st.1 (h.lt hT)
  have e1' : s2.2.2.2.2 = s.2.2.2.2 ++ cs := e1
  have hl : s2.2.2.2.2.length < s2.1 := by
    rw [e1', d1, List.length_append, List.length_append]; omega
  obtain ⟨k1, k2, k3⟩ := h2.ad (c := c) hl
  refine ⟨k1, ⟨c0 ++ (cs ++ [c]), ?_, ?_, evP_bi d3 e3 h6 hc⟩, ?_⟩
  · rw [k2, e1', d1, List.append_assoc, List.append_assoc]
  · rw [k3, List.length_append, List.length_append]
    simp only [List.length_cons, List.length_nil]
    omega
  · rw [k3]; omega
theorem GO.wk {nm : Nat → Int32} {nd nd' : Nat} {s0 s : pS} {v : Int32} (h : GO nm nd s0 s v) (hn : nd ≤ nd') : GO nm nd' s0 s v := by
  obtain ⟨cs, a1, a2, a3⟩ := h
  exact ⟨cs, a1, a2, a3.wk hn⟩
theorem RF.up {b : Nat → Int32} {n t f : Nat} {m : Nat → Nat → Int32} (h : RF b n t m f) (v : Int32) : RF b n t (aup m 84 25 v) f := by
  obtain ⟨h1, h2, h3⟩ := h
  refine ⟨h1.up (by decide) _, ?_, ?_⟩
  · rw [← h2]; simp [aup]
  · rw [← h3]; simp [aup]
theorem RF.b {b : Nat → Int32} {n t f : Nat} {m : Nat → Nat → Int32} (h : RF b n t m f) : ¬ m 84 26 = 0 := by rw [h.2.1]; decide
abbrev D6 (x : Int32) : Prop := x = 10 ∨ x = 11 ∨ x = 12 ∨ x = 13 ∨ x = 14 ∨ x = 15
theorem D6_iff (x : Int32) : (¬ x < 10 ∧ ¬ 16 ≤ x) ↔ D6 x := by
  constructor
  · rintro ⟨h1, h2⟩
    rw [Int32.lt_iff_toInt_lt] at h1
    rw [Int32.le_iff_toInt_le] at h2
    have e10 : (10 : Int32).toInt = 10 := rfl
    have e16 : (16 : Int32).toInt = 16 := rfl
    have : x.toInt = 10 ∨ x.toInt = 11 ∨ x.toInt = 12 ∨ x.toInt = 13 ∨ x.toInt = 14 ∨ x.toInt = 15 := by omega
    unfold D6
    rcases this with h | h | h | h | h | h
    · left; exact Int32.toInt_inj.mp h
    · right; left; exact Int32.toInt_inj.mp h
    · right; right; left; exact Int32.toInt_inj.mp h
    · right; right; right; left; exact Int32.toInt_inj.mp h
    · right; right; right; right; left; exact Int32.toInt_inj.mp h
    · right; right; right; right; right; exact Int32.toInt_inj.mp h
  · intro h
    unfold D6 at h
    rcases h with h | h | h | h | h | h <;> subst h <;> decide
theorem on_num {b : Nat → Int32} {n : Nat} {deep : Option (pF × pF × pF)} {s : pS} (h : s.2.2.1 = 2) : onF b n deep s = (true, stP b n (adP s.2.2.2.1 s)) := if_pos h
theorem on_nam {b : Nat → Int32} {n : Nat} {deep : Option (pF × pF × pF)} {s : pS} (h : D6 s.2.2.1) : onF b n deep s = (true, stP b n (adP (9 - s.2.2.1) s)) := by
  unfold onF
  rw [if_neg (by unfold D6 at h; rcases h with h | h | h | h | h | h <;> rw [h] <;> decide), if_pos ((D6_iff _).mpr h)]
theorem on_neg {b : Nat → Int32} {n : Nat} {q : pF × pF × pF} {s : pS} (h : s.2.2.1 = 45) : onF b n (some q) s = if (q.2.2 (stP b n s)).1 = true then (true, adP (-19) (q.2.2 (stP b n s)).2) else (false, (q.2.2 (stP b n s)).2) := by
  unfold onF
  rw [if_neg (by rw [h]; decide), if_neg (by rw [h]; decide)]
  show (if _ then _ else _) = _
  rw [if_pos h]
theorem on_par {b : Nat → Int32} {n : Nat} {q : pF × pF × pF} {s : pS} (h : s.2.2.1 = 40) : onF b n (some q) s = if (q.1 (stP b n s)).1 = true ∧ (q.1 (stP b n s)).2.2.2.1 = 41 then (true, stP b n (q.1 (stP b n s)).2) else (false, (q.1 (stP b n s)).2) := by
  unfold onF
  rw [if_neg (by rw [h]; decide), if_neg (by rw [h]; decide)]
  show (if _ then _ else if _ then _ else _) = _
  rw [if_neg (by rw [h]; decide), if_pos h]
theorem on_out {b : Nat → Int32} {n : Nat} {deep : Option (pF × pF × pF)} {s : pS} (h2 : ¬ s.2.2.1 = 2) (h6 : ¬ D6 s.2.2.1) (hd : deep = none ∨ (¬ s.2.2.1 = 45 ∧ ¬ s.2.2.1 = 40)) : onF b n deep s = (false, s) := by
  unfold onF
  rw [if_neg h2, if_neg (fun z => h6 ((D6_iff _).mp z))]
  rcases hd with rfl | ⟨h3, h4⟩
  · rfl
  · cases deep with
    | none => rfl
    | some q =>
      show (if _ then _ else if _ then _ else _) = _
      rw [if_neg h3, if_neg h4]
/-- a number's value: at most four digits -/
theorem nu_rng {b : Nat → Int32} : ∀ (g p : Nat) (v : Int32) (k : Nat), (∀ j, j < g → inR 48 57 (b (p + j))) → 0 ≤ v.toInt → v.toInt < 10 ^ k → g + k ≤ 8 → 0 ≤ (nuF b g p v).toInt ∧ (nuF b g p v).toInt < 10 ^ (g + k)
  | 0, p, v, k, _, h1, h2, _ => by rw [Nat.zero_add]; exact ⟨h1, h2⟩
  | g + 1, p, v, k, hd, h1, h2, h3 => by
    have q := hd 0 (by omega)
    rw [Nat.add_zero] at q
    have q1 := q.1; have q2 := q.2
    rw [Int32.lt_iff_toInt_lt] at q1 q2
    have e48 : (48 : Int32).toInt = 48 := rfl
    have e57 : (57 : Int32).toInt = 57 := rfl
    have hk : (10 : Int) ^ k ≤ 10 ^ 7 := by
      have : k ≤ 7 := by omega
      exact_mod_cast Nat.pow_le_pow_right (by decide) this
    have hv : v.toInt < 10 ^ 7 := Int.lt_of_lt_of_le h2 hk
    have e : (10 * v + b p - 48).toInt = 10 * v.toInt + (b p).toInt - 48 := by
      rw [Int32.toInt_sub, Int32.toInt_add, Int32.toInt_mul, e48, show (10 : Int32).toInt = 10 from rfl]
      have hv7 : v.toInt < 10000000 := hv
      have e1 : (10 * v.toInt).bmod (2 ^ 32) = 10 * v.toInt := Int.bmod_eq_of_le (by omega) (by omega)
      have e2 : (10 * v.toInt + (b p).toInt).bmod (2 ^ 32) = 10 * v.toInt + (b p).toInt := Int.bmod_eq_of_le (by omega) (by omega)
      rw [e1, e2]
      exact Int.bmod_eq_of_le (by omega) (by omega)
    have hp : (10 : Int) ^ (k + 1) = 10 ^ k * 10 := rfl
    have r := nu_rng g (p + 1) (10 * v + b p - 48) (k + 1) (fun j hj => by have := hd (j + 1) (by omega); rw [show p + 1 + j = p + (j + 1) by omega]; exact this) (by rw [e]; omega) (by rw [e, hp]; omega) (by omega)
    rw [show g + 1 + k = g + (k + 1) by omega]
    exact r
theorem nu_ok {b : Nat → Int32} {n a : Nat} (h : lxT b n a = 2) (nm : Nat → Int32) : ¬ nuF b (lxE b n a - a) a 0 < -6 ∧ pfN (nuF b (lxE b n a - a) a 0) nm = nuF b (lxE b n a - a) a 0 := by
  have h2 := rt_2.mpr h
  have key : 0 ≤ (nuF b (lxE b n a - a) a 0).toInt := by
    rcases Nat.lt_or_ge a n with h1 | h1
    · by_cases q : inR 97 122 (b a)
      · rw [lx_l h1 q] at h; exact absurd h wo_lt.2.2
      · by_cases q2 : inR 48 57 (b a)
        · rw [lx_d h1 q q2] at h
          have h4 : lxE b n a - a ≤ 4 := Decidable.byContradiction fun z => by rw [if_neg z] at h; exact absurd h (by decide)
          refine (nu_rng (b := b) (lxE b n a - a) a 0 0 (fun j hj => ?_) (by decide) (by decide) (by omega)).1
          rw [lxE_d h1 q q2] at hj
          exact skF_all 160 a (a + j) (by omega) (by omega)
        · rw [lx_s h1 q q2] at h
          rcases siG_c (b a) with y | y
          · rw [y] at h; exact absurd h (by decide)
          · rw [h] at y; exact absurd rfl (sgn_b y).2.1
    · rw [lx_n h1] at h; exact absurd h (by decide)
  constructor
  · rw [Int32.lt_iff_toInt_lt, show (-6 : Int32).toInt = -6 from rfl]; omega
  · unfold pfN
    rw [if_neg (by rw [Int32.lt_iff_toInt_lt, show (0 : Int32).toInt = 0 from rfl]; omega)]
theorem nam_ok {T : Int32} (h : D6 T) (nm : Nat → Int32) : ¬ (9 - T) < -6 ∧ pfN (9 - T) nm = nm (T - 10).toNatClampNeg ∧ (T + 3).toNatClampNeg = 13 + (T - 10).toNatClampNeg ∧ (T - 10).toNatClampNeg < 6 := by
  unfold D6 at h
  rcases h with h | h | h | h | h | h <;> subst h <;> exact ⟨by decide, rfl, by decide, by decide⟩
