/-! the reference: tells, what is guessed (written by wip/whole/mkrefX.py) -/
theorem ne_y {y k : Nat} (h : k < 10) (hy : y < 8) : ¬ nI (10 + y) = nI k := fun z => by
  have q := congrArg Int32.toInt z
  rw [nI_toInt (by omega), nI_toInt (by omega)] at q
  omega
theorem in_nI {k M : Nat} (h : k ≤ M) (hM : M < 2 ^ 31) {hi : Int32} (e : hi = nI M) : inR 0 hi (nI k) := rI.mpr (by
  rw [e, nI_toInt (by omega), nI_toInt hM, show (0 : Int32).toInt = 0 from rfl]
  omega)
theorem RUX.G {m m' : Nat → Nat → Int32} {a b : Nat} {c0 c1 c2 : List Int32} (h : RUX m c0 c1 c2) (f : frG a b m m') (h1 : a ≠ 84) (h2 : a ≠ 85) (h3 : a ≠ 86) : RUX m' c0 c1 c2 := by
  obtain ⟨R, n, v0, a1, a2, a3⟩ := h
  exact ⟨R, n, v0, a1, (f 84 4 (by omega) (by decide) (by decide) (fun z => h1 z.1.symm)).trans a2, a3.fr (fun j _ => f 85 _ (by omega) (by decide) (by decide) (fun z => h2 z.1.symm)) (f 86 _ (by omega) (by decide) (by decide) (fun z => h3 z.1.symm))⟩
theorem hF_1 {X : aXt × Value} {mi m : Nat → Nat → Int32} {x : Nat → Nat → Int64} {mr : Nat → Nat → Option Nat} (hM : MRok mr) {c0 c1 c2 : List Int32} (hR : RUX mi c0 c1 c2) {p : Nat} (hp5 : p < 5) (hok : okU (puR mi p)) {s Z : Nat} (hs4 : s < 4) (hz : mi 99 s = nI Z) (hZ : Z ≤ 40) {y : Nat} (hy8 : y < 8) {hp : Int32} {CT : cT} {k : Nat} (hk : k < 6) (f : frG 89 p mi m) (e : m 89 p = nI k) : aCW X 48 198 [.ref 84, .int (nI s), .int (nI p), .int (nI y), .int hp] (HD, m, x, mr) (fun r h' => r = some (.int (fiR CT (fun j => mi 100 (40 * s + j)) Z 1 y hp (twR mi c0 c1 c2) (puR mi p) k)) ∧ ∃ m' w', h' = (HD, m', w', mr) ∧ frQ m m') := by
  have u : puR m p = spU 1 y k (puR mi p) := by
    unfold puR
    rw [e, f.row (k := 90) (by decide) (by decide) (by decide) (by decide), f.row (k := 91) (by decide) (by decide) (by decide) (by decide)]
    rfl
  have t : twR m c0 c1 c2 = spT CT 1 y k (twR mi c0 c1 c2) := by
    unfold twR
    rw [f.row (k := 88) (by decide) (by decide) (by decide) (by decide), f 84 7 (by omega) (by decide) (by decide) (by omega)]
    rfl
  have R : RUX m c0 c1 c2 := hR.G f (by decide) (by decide) (by decide)
  have ok : okU (spU 1 y k (puR mi p)) := ⟨in_nI (M := 5) (by omega) (by decide) rfl, hok.2⟩
  have q := r_first (X := X) (mi := m) (ml := x) hM R hp5 (by rw [u]; exact ok) hs4 ((f 99 s (by omega) (by decide) (by decide) (by omega)).trans hz) hZ (x := nI y) (hp := hp) (aix_nI hy8 (by decide))
  rw [u, t, f.row (k := 100) (by decide) (by decide) (by decide) (by decide), nI_clamp (n := y) (by omega)] at q
  exact q
theorem hF_2 {X : aXt × Value} {mi m : Nat → Nat → Int32} {x : Nat → Nat → Int64} {mr : Nat → Nat → Option Nat} (hM : MRok mr) {c0 c1 c2 : List Int32} (hR : RUX mi c0 c1 c2) {p : Nat} (hp5 : p < 5) (hok : okU (puR mi p)) {s Z : Nat} (hs4 : s < 4) (hz : mi 99 s = nI Z) (hZ : Z ≤ 40) {y : Nat} (hy8 : y < 8) {hp : Int32} {CT : cT} {k : Nat} (hk : k < 10) (f : frG 90 p mi m) (e : m 90 p = nI k) : aCW X 48 198 [.ref 84, .int (nI s), .int (nI p), .int (nI y), .int hp] (HD, m, x, mr) (fun r h' => r = some (.int (fiR CT (fun j => mi 100 (40 * s + j)) Z 2 y hp (twR mi c0 c1 c2) (puR mi p) k)) ∧ ∃ m' w', h' = (HD, m', w', mr) ∧ frQ m m') := by
  have u : puR m p = spU 2 y k (puR mi p) := by
    unfold puR
    rw [e, f.row (k := 89) (by decide) (by decide) (by decide) (by decide), f.row (k := 91) (by decide) (by decide) (by decide) (by decide)]
    rfl
  have t : twR m c0 c1 c2 = spT CT 2 y k (twR mi c0 c1 c2) := by
    unfold twR
    rw [f.row (k := 88) (by decide) (by decide) (by decide) (by decide), f 84 7 (by omega) (by decide) (by decide) (by omega)]
    rfl
  have R : RUX m c0 c1 c2 := hR.G f (by decide) (by decide) (by decide)
  have ok : okU (spU 2 y k (puR mi p)) := ⟨hok.1, in_nI (M := 9) (by omega) (by decide) rfl, hok.2.2⟩
  have q := r_first (X := X) (mi := m) (ml := x) hM R hp5 (by rw [u]; exact ok) hs4 ((f 99 s (by omega) (by decide) (by decide) (by omega)).trans hz) hZ (x := nI y) (hp := hp) (aix_nI hy8 (by decide))
  rw [u, t, f.row (k := 100) (by decide) (by decide) (by decide) (by decide), nI_clamp (n := y) (by omega)] at q
  exact q
theorem hF_4 {X : aXt × Value} {mi m : Nat → Nat → Int32} {x : Nat → Nat → Int64} {mr : Nat → Nat → Option Nat} (hM : MRok mr) {c0 c1 c2 : List Int32} (hR : RUX mi c0 c1 c2) {p : Nat} (hp5 : p < 5) (hok : okU (puR mi p)) {s Z : Nat} (hs4 : s < 4) (hz : mi 99 s = nI Z) (hZ : Z ≤ 40) {y : Nat} (hy8 : y < 8) {hp : Int32} {CT : cT} {k : Nat} (hk : k < 100) (f : frG 91 (10 * p + y) mi m) (e : m 91 (10 * p + y) = nI k) : aCW X 48 198 [.ref 84, .int (nI s), .int (nI p), .int (nI y), .int hp] (HD, m, x, mr) (fun r h' => r = some (.int (fiR CT (fun j => mi 100 (40 * s + j)) Z 4 y hp (twR mi c0 c1 c2) (puR mi p) k)) ∧ ∃ m' w', h' = (HD, m', w', mr) ∧ frQ m m') := by
  have u : puR m p = spU 4 y k (puR mi p) := by
    have q : ∀ j, ¬ j = 10 * p + y → m 91 j = mi 91 j := fun j hj => f 91 j (by omega) (by decide) (by decide) (fun z => hj z.2)
    refine Prod.ext ?_ (Prod.ext ?_ (Prod.ext ?_ (Prod.ext ?_ (funext fun j => ?_))))
    · show m 89 p = mi 89 p
      rw [f.row (k := 89) (by decide) (by decide) (by decide) (by decide)]
    · show m 90 p = mi 90 p
      rw [f.row (k := 90) (by decide) (by decide) (by decide) (by decide)]
    · exact q _ (by omega)
    · exact q _ (by omega)
    · show c8 (fun i => m 91 (10 * p + i)) j = (if j = y then nI k else c8 (fun i => mi 91 (10 * p + i)) j)
      by_cases e1 : j = y
      · subst e1; rw [if_pos rfl, c8_lt hy8]; exact e
      · rw [if_neg e1]
        unfold c8
        by_cases hj : j < 8
        · rw [if_pos hj, if_pos hj]; exact q _ (by omega)
        · rw [if_neg hj, if_neg hj]
  have t : twR m c0 c1 c2 = spT CT 4 y k (twR mi c0 c1 c2) := by
    unfold twR
    rw [f.row (k := 88) (by decide) (by decide) (by decide) (by decide), f 84 7 (by omega) (by decide) (by decide) (by omega)]
    rfl
  have R : RUX m c0 c1 c2 := hR.G f (by decide) (by decide) (by decide)
  have ok : okU (spU 4 y k (puR mi p)) := ⟨hok.1, hok.2.1, hok.2.2.1, hok.2.2.2.1, fun j hj => by
    show inR 0 99 (if j = y then nI k else (puR mi p).2.2.2.2 j)
    by_cases e1 : j = y
    · rw [if_pos e1]; exact in_nI (M := 99) (by omega) (by decide) rfl
    · rw [if_neg e1]; exact hok.2.2.2.2 j hj⟩
  have q := r_first (X := X) (mi := m) (ml := x) hM R hp5 (by rw [u]; exact ok) hs4 ((f 99 s (by omega) (by decide) (by decide) (by omega)).trans hz) hZ (x := nI y) (hp := hp) (aix_nI hy8 (by decide))
  rw [u, t, f.row (k := 100) (by decide) (by decide) (by decide) (by decide), nI_clamp (n := y) (by omega)] at q
  exact q
theorem hF_5 {X : aXt × Value} {mi m : Nat → Nat → Int32} {x : Nat → Nat → Int64} {mr : Nat → Nat → Option Nat} (hM : MRok mr) {c0 c1 c2 : List Int32} (hR : RUX mi c0 c1 c2) {p : Nat} (hp5 : p < 5) (hok : okU (puR mi p)) {s Z : Nat} (hs4 : s < 4) (hz : mi 99 s = nI Z) (hZ : Z ≤ 40) {y : Nat} (hy8 : y < 8) {hp : Int32} {CT : cT} {k : Nat} (hk : k < 100) (f : frG 91 (10 * p + y) mi m) (e : m 91 (10 * p + y) = nI k) : aCW X 48 198 [.ref 84, .int (nI s), .int (nI p), .int (nI y), .int hp] (HD, m, x, mr) (fun r h' => r = some (.int (fiR CT (fun j => mi 100 (40 * s + j)) Z 5 y hp (twR mi c0 c1 c2) (puR mi p) k)) ∧ ∃ m' w', h' = (HD, m', w', mr) ∧ frQ m m') := by
  have u : puR m p = spU 5 y k (puR mi p) := by
    have q : ∀ j, ¬ j = 10 * p + y → m 91 j = mi 91 j := fun j hj => f 91 j (by omega) (by decide) (by decide) (fun z => hj z.2)
    refine Prod.ext ?_ (Prod.ext ?_ (Prod.ext ?_ (Prod.ext ?_ (funext fun j => ?_))))
    · show m 89 p = mi 89 p
      rw [f.row (k := 89) (by decide) (by decide) (by decide) (by decide)]
    · show m 90 p = mi 90 p
      rw [f.row (k := 90) (by decide) (by decide) (by decide) (by decide)]
    · exact q _ (by omega)
    · exact q _ (by omega)
    · show c8 (fun i => m 91 (10 * p + i)) j = (if j = y then nI k else c8 (fun i => mi 91 (10 * p + i)) j)
      by_cases e1 : j = y
      · subst e1; rw [if_pos rfl, c8_lt hy8]; exact e
      · rw [if_neg e1]
        unfold c8
        by_cases hj : j < 8
        · rw [if_pos hj, if_pos hj]; exact q _ (by omega)
        · rw [if_neg hj, if_neg hj]
  have t : twR m c0 c1 c2 = spT CT 5 y k (twR mi c0 c1 c2) := by
    unfold twR
    rw [f.row (k := 88) (by decide) (by decide) (by decide) (by decide), f 84 7 (by omega) (by decide) (by decide) (by omega)]
    rfl
  have R : RUX m c0 c1 c2 := hR.G f (by decide) (by decide) (by decide)
  have ok : okU (spU 5 y k (puR mi p)) := ⟨hok.1, hok.2.1, hok.2.2.1, hok.2.2.2.1, fun j hj => by
    show inR 0 99 (if j = y then nI k else (puR mi p).2.2.2.2 j)
    by_cases e1 : j = y
    · rw [if_pos e1]; exact in_nI (M := 99) (by omega) (by decide) rfl
    · rw [if_neg e1]; exact hok.2.2.2.2 j hj⟩
  have q := r_first (X := X) (mi := m) (ml := x) hM R hp5 (by rw [u]; exact ok) hs4 ((f 99 s (by omega) (by decide) (by decide) (by omega)).trans hz) hZ (x := nI y) (hp := hp) (aix_nI hy8 (by decide))
  rw [u, t, f.row (k := 100) (by decide) (by decide) (by decide) (by decide), nI_clamp (n := y) (by omega)] at q
  exact q
theorem hF_6 {X : aXt × Value} {mi m : Nat → Nat → Int32} {x : Nat → Nat → Int64} {mr : Nat → Nat → Option Nat} (hM : MRok mr) {c0 c1 c2 : List Int32} (hR : RUX mi c0 c1 c2) {p : Nat} (hp5 : p < 5) (hok : okU (puR mi p)) {s Z : Nat} (hs4 : s < 4) (hz : mi 99 s = nI Z) (hZ : Z ≤ 40) {y : Nat} (hy8 : y < 8) {hp : Int32} {CT : cT} {k : Nat} (hk : k < 100) (f : frG 88 y mi m) (e : m 88 y = nI k) : aCW X 48 198 [.ref 84, .int (nI s), .int (nI p), .int (nI y), .int hp] (HD, m, x, mr) (fun r h' => r = some (.int (fiR CT (fun j => mi 100 (40 * s + j)) Z 6 y hp (twR mi c0 c1 c2) (puR mi p) k)) ∧ ∃ m' w', h' = (HD, m', w', mr) ∧ frQ m m') := by
  have u : puR m p = spU 6 y k (puR mi p) := by
    unfold puR
    rw [f.row (k := 89) (by decide) (by decide) (by decide) (by decide), f.row (k := 90) (by decide) (by decide) (by decide) (by decide), f.row (k := 91) (by decide) (by decide) (by decide) (by decide)]
    rfl
  have t : twR m c0 c1 c2 = spT CT 6 y k (twR mi c0 c1 c2) := by
    unfold twR
    rw [f 84 7 (by omega) (by decide) (by decide) (by omega)]
    refine Prod.ext (funext fun j => ?_) rfl
    show c8 (m 88) j = (if j = y then nI k else c8 (mi 88) j)
    by_cases e1 : j = y
    · subst e1; rw [if_pos rfl, c8_lt hy8]; exact e
    · rw [if_neg e1]
      unfold c8
      by_cases hj : j < 8
      · rw [if_pos hj, if_pos hj]; exact f 88 j (by omega) (by decide) (by decide) (fun z => e1 z.2)
      · rw [if_neg hj, if_neg hj]
  have R : RUX m c0 c1 c2 := hR.G f (by decide) (by decide) (by decide)
  have ok : okU (spU 6 y k (puR mi p)) := hok
  have q := r_first (X := X) (mi := m) (ml := x) hM R hp5 (by rw [u]; exact ok) hs4 ((f 99 s (by omega) (by decide) (by decide) (by omega)).trans hz) hZ (x := nI y) (hp := hp) (aix_nI hy8 (by decide))
  rw [u, t, f.row (k := 100) (by decide) (by decide) (by decide) (by decide), nI_clamp (n := y) (by omega)] at q
  exact q
theorem hF_7 {X : aXt × Value} {mi m : Nat → Nat → Int32} {x : Nat → Nat → Int64} {mr : Nat → Nat → Option Nat} (hM : MRok mr) {c0 c1 c2 : List Int32} (hR : RUX mi c0 c1 c2) {p : Nat} (hp5 : p < 5) (hok : okU (puR mi p)) {s Z : Nat} (hs4 : s < 4) (hz : mi 99 s = nI Z) (hZ : Z ≤ 40) {y : Nat} (hy8 : y < 8) {hp : Int32} {CT : cT} {k : Nat} (hk : k < 100) (f : frG 88 y mi m) (e : m 88 y = nI k) : aCW X 48 198 [.ref 84, .int (nI s), .int (nI p), .int (nI y), .int hp] (HD, m, x, mr) (fun r h' => r = some (.int (fiR CT (fun j => mi 100 (40 * s + j)) Z 7 y hp (twR mi c0 c1 c2) (puR mi p) k)) ∧ ∃ m' w', h' = (HD, m', w', mr) ∧ frQ m m') := by
  have u : puR m p = spU 7 y k (puR mi p) := by
    unfold puR
    rw [f.row (k := 89) (by decide) (by decide) (by decide) (by decide), f.row (k := 90) (by decide) (by decide) (by decide) (by decide), f.row (k := 91) (by decide) (by decide) (by decide) (by decide)]
    rfl
  have t : twR m c0 c1 c2 = spT CT 7 y k (twR mi c0 c1 c2) := by
    unfold twR
    rw [f 84 7 (by omega) (by decide) (by decide) (by omega)]
    refine Prod.ext (funext fun j => ?_) rfl
    show c8 (m 88) j = (if j = y then nI k else c8 (mi 88) j)
    by_cases e1 : j = y
    · subst e1; rw [if_pos rfl, c8_lt hy8]; exact e
    · rw [if_neg e1]
      unfold c8
      by_cases hj : j < 8
      · rw [if_pos hj, if_pos hj]; exact f 88 j (by omega) (by decide) (by decide) (fun z => e1 z.2)
      · rw [if_neg hj, if_neg hj]
  have R : RUX m c0 c1 c2 := hR.G f (by decide) (by decide) (by decide)
  have ok : okU (spU 7 y k (puR mi p)) := hok
  have q := r_first (X := X) (mi := m) (ml := x) hM R hp5 (by rw [u]; exact ok) hs4 ((f 99 s (by omega) (by decide) (by decide) (by omega)).trans hz) hZ (x := nI y) (hp := hp) (aix_nI hy8 (by decide))
  rw [u, t, f.row (k := 100) (by decide) (by decide) (by decide) (by decide), nI_clamp (n := y) (by omega)] at q
  exact q
theorem hF_8 {X : aXt × Value} {mi m : Nat → Nat → Int32} {x : Nat → Nat → Int64} {mr : Nat → Nat → Option Nat} (hM : MRok mr) {c0 c1 c2 : List Int32} (hR : RUX mi c0 c1 c2) {p : Nat} (hp5 : p < 5) (hok : okU (puR mi p)) {s Z : Nat} (hs4 : s < 4) (hz : mi 99 s = nI Z) (hZ : Z ≤ 40) {y : Nat} (hy8 : y < 8) {hp : Int32} {CT : cT} {C : Nat} (hC6 : C ≤ 6) (hCR : ∀ k, k < C → ∃ n v0, RTX mi k n v0 (CT k).1 (CT k).2.1 (CT k).2.2) {k : Nat} (hk : k < C) (f : frG 84 4 mi m) (e : m 84 4 = nI k) : aCW X 48 198 [.ref 84, .int (nI s), .int (nI p), .int (nI y), .int hp] (HD, m, x, mr) (fun r h' => r = some (.int (fiR CT (fun j => mi 100 (40 * s + j)) Z 8 y hp (twR mi c0 c1 c2) (puR mi p) k)) ∧ ∃ m' w', h' = (HD, m', w', mr) ∧ frQ m m') := by
  have u : puR m p = spU 8 y k (puR mi p) := by
    unfold puR
    rw [f.row (k := 89) (by decide) (by decide) (by decide) (by decide), f.row (k := 90) (by decide) (by decide) (by decide) (by decide), f.row (k := 91) (by decide) (by decide) (by decide) (by decide)]
    rfl
  have t : twR m (CT k).1 (CT k).2.1 (CT k).2.2 = spT CT 8 y k (twR mi c0 c1 c2) := by
    unfold twR
    rw [f.row (k := 88) (by decide) (by decide) (by decide) (by decide), f 84 7 (by omega) (by decide) (by decide) (by omega)]
    rfl
  have R : RUX m (CT k).1 (CT k).2.1 (CT k).2.2 := by
    obtain ⟨n, v0, h⟩ := hCR k hk
    exact ⟨k, n, v0, by omega, e, h.fr (fun j _ => f 85 _ (by omega) (by decide) (by decide) (by omega)) (f 86 _ (by omega) (by decide) (by decide) (by omega))⟩
  have ok : okU (spU 8 y k (puR mi p)) := hok
  have q := r_first (X := X) (mi := m) (ml := x) hM R hp5 (by rw [u]; exact ok) hs4 ((f 99 s (by omega) (by decide) (by decide) (by omega)).trans hz) hZ (x := nI y) (hp := hp) (aix_nI hy8 (by decide))
  rw [u, t, f.row (k := 100) (by decide) (by decide) (by decide) (by decide), nI_clamp (n := y) (by omega)] at q
  exact q
set_option maxRecDepth 20000 in
set_option maxHeartbeats 1000000 in
theorem r_tells_g1 {X : aXt × Value} {mi : Nat → Nat → Int32} {ml : Nat → Nat → Int64} {mr : Nat → Nat → Option Nat} (hM : MRok mr) {N : Nat} (hN : mi 84 12 = nI N) (hN5 : N ≤ 5) {c0 c1 c2 : List Int32} (hR : RUX mi c0 c1 c2) {p : Nat} (hpN : p < N) (hok : okU (puR mi p)) {s Z : Nat} (hs4 : s < 4) (hz : mi 99 s = nI Z) (hZ : Z ≤ 40) {sH : Int32} (hS : shG sH = true) (hT : mi 97 s = 1) {y : Nat} (hy8 : y < 8) (hy : sH / 10 = nI y) {hp : Int32} (hh : sH - sH / 10 * 10 = hp) {CT : cT} : aCW X 50 201 [.ref 84, .int (nI s), .int (nI p), .int sH, .int 1] (HD, mi, ml, mr) (qR mi mr (.int (tlV 1 (tlL (fiR CT (fun j => mi 100 (40 * s + j)) Z 1 y hp (twR mi c0 c1 c2) (puR mi p)) 6 0 (-1, 0, 0, -1))))) := by
  have hp5 : p < 5 := by omega
  refine cw_of (cd := cd_X7_tells) (nL := 15) rfl rfl ?_
  show aWP _ _ (0, [some (.ref 84), some (.int (nI s)), some (.int (nI p)), some (.int sH), some (.int 1), none, none, none, none, none, none, none, none, none, none], [], (HD, mi, ml, mr)) _
  refine wp_steps 1 (t' := (1, [some (.ref 84), some (.int (nI s)), some (.int (nI p)), some (.int sH), some (.int 1), none, none, none, none, none, none, none, none, none, none], [.int (nI s)], (HD, mi, ml, mr))) rfl ?_
  refine wp_cal (as := [.int (nI s)]) rfl rfl rfl (Nat.le_of_ble_eq_true rfl) ((c_isSheet_n (ml := ml) (mr := mr) hs4)) (by decide) ?_
  rintro _ _ ⟨rfl, rfl⟩
  show aWP _ _ (2, [some (.ref 84), some (.int (nI s)), some (.int (nI p)), some (.int sH), some (.int 1), none, none, none, none, none, none, none, none, none, none], [.int 1], (HD, mi, ml, mr)) _
  refine wp_bI rfl (fun c_1 => ?_) (fun c_1 => ?_)
  · have c_1 : (1 : Int32) = 0 := of_decide_eq_true c_1
    exact absurd c_1 (by decide)
  have c_1 : ¬ ((1 : Int32) = 0) := of_decide_eq_false c_1
  refine wp_steps 2 (t' := (5, [some (.ref 84), some (.int (nI s)), some (.int (nI p)), some (.int sH), some (.int 1), none, none, none, none, none, none, none, none, none, none], [.int (nI p), .ref 84], (HD, mi, ml, mr))) rfl ?_
  refine wp_calv (as := [.int (nI p)]) rfl rfl rfl (Nat.le_of_ble_eq_true rfl) ⟨by decide, rfl⟩ ((c_isOne_ok (mi := mi) (ml := ml) hM hN hN5 hpN)) (by decide) ?_
  rintro _ _ ⟨rfl, rfl⟩
  show aWP _ _ (6, [some (.ref 84), some (.int (nI s)), some (.int (nI p)), some (.int sH), some (.int 1), none, none, none, none, none, none, none, none, none, none], [.int 1], (HD, mi, ml, mr)) _
  refine wp_bI rfl (fun c_2 => ?_) (fun c_2 => ?_)
  · have c_2 : (1 : Int32) = 0 := of_decide_eq_true c_2
    exact absurd c_2 (by decide)
  have c_2 : ¬ ((1 : Int32) = 0) := of_decide_eq_false c_2
  refine wp_steps 1 (t' := (8, [some (.ref 84), some (.int (nI s)), some (.int (nI p)), some (.int sH), some (.int 1), none, none, none, none, none, none, none, none, none, none], [.int sH], (HD, mi, ml, mr))) rfl ?_
  refine wp_cal (as := [.int sH]) rfl rfl rfl (Nat.le_of_ble_eq_true rfl) (c_rSH) (by decide) ?_
  rintro _ _ ⟨rfl, rfl⟩
  rw [if_pos hS]
  show aWP _ _ (9, [some (.ref 84), some (.int (nI s)), some (.int (nI p)), some (.int sH), some (.int 1), none, none, none, none, none, none, none, none, none, none], [.int 1], (HD, mi, ml, mr)) _
  refine wp_bI rfl (fun c_3 => ?_) (fun c_3 => ?_)
  · have c_3 : (1 : Int32) = 0 := of_decide_eq_true c_3
    exact absurd c_3 (by decide)
  have c_3 : ¬ ((1 : Int32) = 0) := of_decide_eq_false c_3
  refine wp_steps 4 (t' := (14, [some (.ref 84), some (.int (nI s)), some (.int (nI p)), some (.int sH), some (.int 1), none, none, none, none, none, none, none, none, none, none], [.long 8, .long 0, .long ((1 : Int32).toInt64)], (HD, mi, ml, mr))) rfl ?_
  refine wp_cal (as := [.long ((1 : Int32).toInt64), .long 0, .long 8]) rfl rfl rfl (Nat.le_of_ble_eq_true rfl) ((c_in (x := 1) (lo := 0) (hi := 8) (by decide) (by decide) (by decide))) (by decide) ?_
  rintro _ _ ⟨rfl, rfl⟩
  rw [if_pos (by decide)]
  show aWP _ _ (15, [some (.ref 84), some (.int (nI s)), some (.int (nI p)), some (.int sH), some (.int 1), none, none, none, none, none, none, none, none, none, none], [.int 1], (HD, mi, ml, mr)) _
  refine wp_bI rfl (fun c_4 => ?_) (fun c_4 => ?_)
  rotate_left
  · have c_4 : (1 : Int32) = 0 := Decidable.not_not.mp (of_decide_eq_false c_4)
    exact absurd c_4 (by decide)
  have c_4 : ¬ (1 : Int32) = 0 := of_decide_eq_true c_4
  refine wp_steps 1 (t' := (19, [some (.ref 84), some (.int (nI s)), some (.int (nI p)), some (.int sH), some (.int 1), none, none, none, none, none, none, none, none, none, none], [.ref 84], (HD, mi, ml, mr))) rfl ?_
  refine wp_getr rfl ⟨by decide, rfl⟩ rfl (hM (84, 37, 97) (by decide)) ?_
  refine wp_steps 1 (t' := (21, [some (.ref 84), some (.int (nI s)), some (.int (nI p)), some (.int sH), some (.int 1), none, none, none, none, none, none, none, none, none, none], [.int (nI s), .ref 97], (HD, mi, ml, mr))) rfl ?_
  refine wp_zald rfl ⟨by decide, rfl⟩ (aix_nI hs4 (by decide)) ?_
  rw [nI_clamp (n := s) (by omega)]
  rw [show mi 97 s = 1 from hT]
  refine wp_bI rfl (fun c_5 => ?_) (fun c_5 => ?_)
  rotate_left
  · have c_5 : (1 : Int32) = 0 := Decidable.not_not.mp (of_decide_eq_false c_5)
    exact absurd c_5 (by decide)
  have c_5 : ¬ (1 : Int32) = 0 := of_decide_eq_true c_5
  refine wp_steps 3 (t' := (28, [some (.ref 84), some (.int (nI s)), some (.int (nI p)), some (.int sH), some (.int 1), none, none, none, none, none, none, none, none, none, none], [.int (sH / 10)], (HD, mi, ml, mr))) rfl ?_
  rw [hy]
  refine wp_steps 4 (t' := (32, [some (.ref 84), some (.int (nI s)), some (.int (nI p)), some (.int sH), some (.int 1), some (.int (nI y)), none, none, none, none, none, none, none, none, none], [.int (sH - sH / 10 * 10)], (HD, mi, ml, mr))) rfl ?_
  rw [hh]
  refine wp_steps 2 (t' := (34, [some (.ref 84), some (.int (nI s)), some (.int (nI p)), some (.int sH), some (.int 1), some (.int (nI y)), some (.int hp), none, none, none, none, none, none, none, none], [.int 1], (HD, mi, ml, mr))) rfl ?_
  refine wp_bI rfl (fun c_6 => ?_) (fun c_6 => ?_)
  rotate_left
  · have c_6 : (1 : Int32) = 0 := Decidable.not_not.mp (of_decide_eq_false c_6)
    exact absurd c_6 (by decide)
  have c_6 : ¬ (1 : Int32) = 0 := of_decide_eq_true c_6
  refine wp_steps 2 (t' := (44, [some (.ref 84), some (.int (nI s)), some (.int (nI p)), some (.int sH), some (.int 1), some (.int (nI y)), some (.int hp), none, none, none, none, none, none, none, none], [.int 3, .int 1], (HD, mi, ml, mr))) rfl ?_
  refine wp_bC rfl (fun c_7 => ?_) (fun c_7 => ?_)
  rotate_left
  · have c_7 : (1 : Int32) = 3 := Decidable.not_not.mp (of_decide_eq_false c_7)
    exact absurd c_7 (by decide)
  have c_7 : ¬ (1 : Int32) = 3 := of_decide_eq_true c_7
  refine wp_steps 2 (t' := (53, [some (.ref 84), some (.int (nI s)), some (.int (nI p)), some (.int sH), some (.int 1), some (.int (nI y)), some (.int hp), none, none, none, none, none, none, none, none], [.int 1, .int 1], (HD, mi, ml, mr))) rfl ?_
  refine wp_bC rfl (fun c_8 => ?_) (fun c_8 => ?_)
  · have c_8 : ¬ (1 : Int32) = 1 := of_decide_eq_true c_8
    exact absurd c_8 (by decide)
  have c_8 : (1 : Int32) = 1 := Decidable.not_not.mp (of_decide_eq_false c_8)
  refine wp_steps 5 (t' := (77, [some (.ref 84), some (.int (nI s)), some (.int (nI p)), some (.int sH), some (.int 1), some (.int (nI y)), some (.int hp), some (.int 5), none, none, none, none, none, none, none], [.int 1, .int 5], (HD, mi, ml, mr))) rfl ?_
  refine wp_bC rfl (fun c_9 => ?_) (fun c_9 => ?_)
  rotate_left
  · have c_9 : (5 : Int32) = 1 := Decidable.not_not.mp (of_decide_eq_false c_9)
    exact absurd c_9 (by decide)
  have c_9 : ¬ (5 : Int32) = 1 := of_decide_eq_true c_9
  refine wp_steps 4 (t' := (84, [some (.ref 84), some (.int (nI s)), some (.int (nI p)), some (.int sH), some (.int 1), some (.int (nI y)), some (.int hp), some (.int 5), some (.int (nI p)), none, none, none, none, none, none], [.int 6, .int 5], (HD, mi, ml, mr))) rfl ?_
  refine wp_bC rfl (fun c_10 => ?_) (fun c_10 => ?_)
  rotate_left
  · have c_10 : (5 : Int32) = 6 := Decidable.not_not.mp (of_decide_eq_false c_10)
    exact absurd c_10 (by decide)
  have c_10 : ¬ (5 : Int32) = 6 := of_decide_eq_true c_10
  refine wp_steps 3 (t' := (91, [some (.ref 84), some (.int (nI s)), some (.int (nI p)), some (.int sH), some (.int 1), some (.int (nI y)), some (.int hp), some (.int 5), some (.int (nI p)), none, none, none, none, none, none], [.int 5, .int (nI p), .ref 84], (HD, mi, ml, mr))) rfl ?_
  refine wp_calv (as := [.int (nI p), .int 5]) rfl rfl rfl (Nat.le_of_ble_eq_true rfl) ⟨by decide, rfl⟩ ((q_told_5p (ml := ml) hM hN hN5 hR hpN hok)) (by decide) ?_
  rintro _ _ ⟨rfl, m_1, w_1, rfl, f1⟩
  rw [show toG (twR mi c0 c1 c2) (puR mi p) 5 = mi 89 p from rfl]
  show aWP _ _ (92, [some (.ref 84), some (.int (nI s)), some (.int (nI p)), some (.int sH), some (.int 1), some (.int (nI y)), some (.int hp), some (.int 5), some (.int (nI p)), none, none, none, none, none, none], [.int (mi 89 p)], (HD, m_1, w_1, mr)) _
  refine wp_steps 3 (t' := (95, [some (.ref 84), some (.int (nI s)), some (.int (nI p)), some (.int sH), some (.int 1), some (.int (nI y)), some (.int hp), some (.int 5), some (.int (nI p)), some (.int (mi 89 p)), none, none, none, none, none], [.int 6, .int 5], (HD, m_1, w_1, mr))) rfl ?_
  refine wp_bC rfl (fun c_11 => ?_) (fun c_11 => ?_)
  rotate_left
  · have c_11 : (5 : Int32) = 6 := Decidable.not_not.mp (of_decide_eq_false c_11)
    exact absurd c_11 (by decide)
  have c_11 : ¬ (5 : Int32) = 6 := of_decide_eq_true c_11
  refine wp_steps 2 (t' := (103, [some (.ref 84), some (.int (nI s)), some (.int (nI p)), some (.int sH), some (.int 1), some (.int (nI y)), some (.int hp), some (.int 5), some (.int (nI p)), some (.int (mi 89 p)), none, none, none, none, none], [.int 5, .int 5], (HD, m_1, w_1, mr))) rfl ?_
  refine wp_bC rfl (fun c_12 => ?_) (fun c_12 => ?_)
  · have c_12 : ¬ (5 : Int32) = 5 := of_decide_eq_true c_12
    exact absurd c_12 (by decide)
  have c_12 : (5 : Int32) = 5 := Decidable.not_not.mp (of_decide_eq_false c_12)
  refine wp_steps 11 (t' := (117, [some (.ref 84), some (.int (nI s)), some (.int (nI p)), some (.int sH), some (.int 1), some (.int (nI y)), some (.int hp), some (.int 5), some (.int (nI p)), some (.int (mi 89 p)), some (.int 5), some (.int 0), some (.int 0), some (.int (-1)), some (.int 5)], [], (HD, m_1, w_1, mr))) rfl ?_
  show aWP _ _ (117, [some (.ref 84), some (.int (nI s)), some (.int (nI p)), some (.int sH), some (.int 1), some (.int (nI y)), some (.int hp), some (.int 5), some (.int (nI p)), some (.int (mi 89 p)), some (.int 5), some (.int 0), some (.int 0), some (.int (-1)), some (.int (nI 6 - 1))], [], (HD, m_1, w_1, mr)) _
  refine l_rtells (a := 89) (b := p) hM (fun m x v => r_lays_5 (mi := m) (ml := x) hM hp5) (F := (fiR CT (fun j => mi 100 (40 * s + j)) Z 1 y hp (twR mi c0 c1 c2) (puR mi p))) (G := 6) (by first | omega | decide) (fun m x k hk f e => hF_1 hM hR hp5 hok hs4 hz hZ hy8 hk f e) 6 (0, 0, -1) m_1 w_1 (Nat.le_refl _) f1.G (fun m' x' h4 => ?_)
  refine wp_steps 4 (t' := (152, [some (.ref 84), some (.int (nI s)), some (.int (nI p)), some (.int sH), some (.int 1), some (.int (nI y)), some (.int hp), some (.int 5), some (.int (nI p)), some (.int (mi 89 p)), some (.int 5), some (.int ((dnS (fiR CT (fun j => mi 100 (40 * s + j)) Z 1 y hp (twR mi c0 c1 c2) (puR mi p)) 6 (0, 0, -1)).1)), some (.int ((dnS (fiR CT (fun j => mi 100 (40 * s + j)) Z 1 y hp (twR mi c0 c1 c2) (puR mi p)) 6 (0, 0, -1)).2.1)), some (.int ((dnS (fiR CT (fun j => mi 100 (40 * s + j)) Z 1 y hp (twR mi c0 c1 c2) (puR mi p)) 6 (0, 0, -1)).2.2)), some (.int (-1))], [.int (mi 89 p), .int (nI p), .int 5, .ref 84], (HD, m', x', mr))) rfl ?_
  refine wp_calv (as := [.int 5, .int (nI p), .int (mi 89 p)]) rfl rfl rfl (Nat.le_of_ble_eq_true rfl) ⟨by decide, rfl⟩ ((r_lays_5 (mi := m') (ml := x') hM hp5)) (by decide) ?_
  rintro _ _ ⟨rfl, rfl⟩
  show aWP _ _ (153, [some (.ref 84), some (.int (nI s)), some (.int (nI p)), some (.int sH), some (.int 1), some (.int (nI y)), some (.int hp), some (.int 5), some (.int (nI p)), some (.int (mi 89 p)), some (.int 5), some (.int ((dnS (fiR CT (fun j => mi 100 (40 * s + j)) Z 1 y hp (twR mi c0 c1 c2) (puR mi p)) 6 (0, 0, -1)).1)), some (.int ((dnS (fiR CT (fun j => mi 100 (40 * s + j)) Z 1 y hp (twR mi c0 c1 c2) (puR mi p)) 6 (0, 0, -1)).2.1)), some (.int ((dnS (fiR CT (fun j => mi 100 (40 * s + j)) Z 1 y hp (twR mi c0 c1 c2) (puR mi p)) 6 (0, 0, -1)).2.2)), some (.int (-1))], [], (HD, (aup m' 89 p (mi 89 p)), x', mr)) _
  refine wp_steps 2 (t' := (155, [some (.ref 84), some (.int (nI s)), some (.int (nI p)), some (.int sH), some (.int 1), some (.int (nI y)), some (.int hp), some (.int 5), some (.int (nI p)), some (.int (mi 89 p)), some (.int 5), some (.int ((dnS (fiR CT (fun j => mi 100 (40 * s + j)) Z 1 y hp (twR mi c0 c1 c2) (puR mi p)) 6 (0, 0, -1)).1)), some (.int ((dnS (fiR CT (fun j => mi 100 (40 * s + j)) Z 1 y hp (twR mi c0 c1 c2) (puR mi p)) 6 (0, 0, -1)).2.1)), some (.int ((dnS (fiR CT (fun j => mi 100 (40 * s + j)) Z 1 y hp (twR mi c0 c1 c2) (puR mi p)) 6 (0, 0, -1)).2.2)), some (.int (-1))], [.int 4, .int 1], (HD, (aup m' 89 p (mi 89 p)), x', mr))) rfl ?_
  refine wp_bC rfl (fun c_91 => ?_) (fun c_91 => ?_)
  · have c_91 : (1 : Int32) = 4 := of_decide_eq_true c_91
    exact absurd c_91 (by decide)
  have c_91 : ¬ ((1 : Int32) = 4) := of_decide_eq_false c_91
  refine wp_steps 2 (t' := (158, [some (.ref 84), some (.int (nI s)), some (.int (nI p)), some (.int sH), some (.int 1), some (.int (nI y)), some (.int hp), some (.int 5), some (.int (nI p)), some (.int (mi 89 p)), some (.int 5), some (.int ((dnS (fiR CT (fun j => mi 100 (40 * s + j)) Z 1 y hp (twR mi c0 c1 c2) (puR mi p)) 6 (0, 0, -1)).1)), some (.int ((dnS (fiR CT (fun j => mi 100 (40 * s + j)) Z 1 y hp (twR mi c0 c1 c2) (puR mi p)) 6 (0, 0, -1)).2.1)), some (.int ((dnS (fiR CT (fun j => mi 100 (40 * s + j)) Z 1 y hp (twR mi c0 c1 c2) (puR mi p)) 6 (0, 0, -1)).2.2)), some (.int (-1))], [.int 6, .int 1], (HD, (aup m' 89 p (mi 89 p)), x', mr))) rfl ?_
  refine wp_bC rfl (fun c_92 => ?_) (fun c_92 => ?_)
  rotate_left
  · have c_92 : (1 : Int32) = 6 := Decidable.not_not.mp (of_decide_eq_false c_92)
    exact absurd c_92 (by decide)
  have c_92 : ¬ (1 : Int32) = 6 := of_decide_eq_true c_92
  refine wp_steps 2 (t' := (163, [some (.ref 84), some (.int (nI s)), some (.int (nI p)), some (.int sH), some (.int 1), some (.int (nI y)), some (.int hp), some (.int 5), some (.int (nI p)), some (.int (mi 89 p)), some (.int 5), some (.int ((dnS (fiR CT (fun j => mi 100 (40 * s + j)) Z 1 y hp (twR mi c0 c1 c2) (puR mi p)) 6 (0, 0, -1)).1)), some (.int ((dnS (fiR CT (fun j => mi 100 (40 * s + j)) Z 1 y hp (twR mi c0 c1 c2) (puR mi p)) 6 (0, 0, -1)).2.1)), some (.int ((dnS (fiR CT (fun j => mi 100 (40 * s + j)) Z 1 y hp (twR mi c0 c1 c2) (puR mi p)) 6 (0, 0, -1)).2.2)), some (.int (-1))], [.int 5, .int 1], (HD, (aup m' 89 p (mi 89 p)), x', mr))) rfl ?_
  refine wp_bC rfl (fun c_93 => ?_) (fun c_93 => ?_)
  · have c_93 : (1 : Int32) = 5 := of_decide_eq_true c_93
    exact absurd c_93 (by decide)
  have c_93 : ¬ ((1 : Int32) = 5) := of_decide_eq_false c_93
  refine wp_steps 2 (t' := (166, [some (.ref 84), some (.int (nI s)), some (.int (nI p)), some (.int sH), some (.int 1), some (.int (nI y)), some (.int hp), some (.int 5), some (.int (nI p)), some (.int (mi 89 p)), some (.int 5), some (.int ((dnS (fiR CT (fun j => mi 100 (40 * s + j)) Z 1 y hp (twR mi c0 c1 c2) (puR mi p)) 6 (0, 0, -1)).1)), some (.int ((dnS (fiR CT (fun j => mi 100 (40 * s + j)) Z 1 y hp (twR mi c0 c1 c2) (puR mi p)) 6 (0, 0, -1)).2.1)), some (.int ((dnS (fiR CT (fun j => mi 100 (40 * s + j)) Z 1 y hp (twR mi c0 c1 c2) (puR mi p)) 6 (0, 0, -1)).2.2)), some (.int (-1))], [.int 7, .int 1], (HD, (aup m' 89 p (mi 89 p)), x', mr))) rfl ?_
  refine wp_bC rfl (fun c_94 => ?_) (fun c_94 => ?_)
  rotate_left
  · have c_94 : (1 : Int32) = 7 := Decidable.not_not.mp (of_decide_eq_false c_94)
    exact absurd c_94 (by decide)
  have c_94 : ¬ (1 : Int32) = 7 := of_decide_eq_true c_94
  refine wp_steps 1 (t' := (170, [some (.ref 84), some (.int (nI s)), some (.int (nI p)), some (.int sH), some (.int 1), some (.int (nI y)), some (.int hp), some (.int 5), some (.int (nI p)), some (.int (mi 89 p)), some (.int 5), some (.int ((dnS (fiR CT (fun j => mi 100 (40 * s + j)) Z 1 y hp (twR mi c0 c1 c2) (puR mi p)) 6 (0, 0, -1)).1)), some (.int ((dnS (fiR CT (fun j => mi 100 (40 * s + j)) Z 1 y hp (twR mi c0 c1 c2) (puR mi p)) 6 (0, 0, -1)).2.1)), some (.int ((dnS (fiR CT (fun j => mi 100 (40 * s + j)) Z 1 y hp (twR mi c0 c1 c2) (puR mi p)) 6 (0, 0, -1)).2.2)), some (.int (-1))], [.int ((dnS (fiR CT (fun j => mi 100 (40 * s + j)) Z 1 y hp (twR mi c0 c1 c2) (puR mi p)) 6 (0, 0, -1)).1)], (HD, (aup m' 89 p (mi 89 p)), x', mr))) rfl ?_
  refine wp_ret rfl rfl ⟨⟨Nat.le_refl _, Nat.le_refl _⟩, ?_⟩
  refine ⟨?_, _, _, rfl, frG.bk h4 rfl⟩
  rw [show tlV 1 (tlL (fiR CT (fun j => mi 100 (40 * s + j)) Z 1 y hp (twR mi c0 c1 c2) (puR mi p)) 6 0 (-1, 0, 0, -1)) = (tlL (fiR CT (fun j => mi 100 (40 * s + j)) Z 1 y hp (twR mi c0 c1 c2) (puR mi p)) 6 0 (-1, 0, 0, -1)).2.1 from rfl, (tl_dn (F := (fiR CT (fun j => mi 100 (40 * s + j)) Z 1 y hp (twR mi c0 c1 c2) (puR mi p))) (g := 6) (a0 := -1) (by first | omega | decide)).1 (by first | omega | decide)]
set_option maxRecDepth 20000 in
set_option maxHeartbeats 1000000 in
theorem r_tells_g2 {X : aXt × Value} {mi : Nat → Nat → Int32} {ml : Nat → Nat → Int64} {mr : Nat → Nat → Option Nat} (hM : MRok mr) {N : Nat} (hN : mi 84 12 = nI N) (hN5 : N ≤ 5) {c0 c1 c2 : List Int32} (hR : RUX mi c0 c1 c2) {p : Nat} (hpN : p < N) (hok : okU (puR mi p)) {s Z : Nat} (hs4 : s < 4) (hz : mi 99 s = nI Z) (hZ : Z ≤ 40) {sH : Int32} (hS : shG sH = true) (hT : mi 97 s = 1) {y : Nat} (hy8 : y < 8) (hy : sH / 10 = nI y) {hp : Int32} (hh : sH - sH / 10 * 10 = hp) {CT : cT} : aCW X 50 201 [.ref 84, .int (nI s), .int (nI p), .int sH, .int 2] (HD, mi, ml, mr) (qR mi mr (.int (tlV 2 (tlL (fiR CT (fun j => mi 100 (40 * s + j)) Z 2 y hp (twR mi c0 c1 c2) (puR mi p)) 10 0 (-1, 0, 0, -1))))) := by
  have hp5 : p < 5 := by omega
  refine cw_of (cd := cd_X7_tells) (nL := 15) rfl rfl ?_
  show aWP _ _ (0, [some (.ref 84), some (.int (nI s)), some (.int (nI p)), some (.int sH), some (.int 2), none, none, none, none, none, none, none, none, none, none], [], (HD, mi, ml, mr)) _
  refine wp_steps 1 (t' := (1, [some (.ref 84), some (.int (nI s)), some (.int (nI p)), some (.int sH), some (.int 2), none, none, none, none, none, none, none, none, none, none], [.int (nI s)], (HD, mi, ml, mr))) rfl ?_
  refine wp_cal (as := [.int (nI s)]) rfl rfl rfl (Nat.le_of_ble_eq_true rfl) ((c_isSheet_n (ml := ml) (mr := mr) hs4)) (by decide) ?_
  rintro _ _ ⟨rfl, rfl⟩
  show aWP _ _ (2, [some (.ref 84), some (.int (nI s)), some (.int (nI p)), some (.int sH), some (.int 2), none, none, none, none, none, none, none, none, none, none], [.int 1], (HD, mi, ml, mr)) _
  refine wp_bI rfl (fun c_1 => ?_) (fun c_1 => ?_)
  · have c_1 : (1 : Int32) = 0 := of_decide_eq_true c_1
    exact absurd c_1 (by decide)
  have c_1 : ¬ ((1 : Int32) = 0) := of_decide_eq_false c_1
  refine wp_steps 2 (t' := (5, [some (.ref 84), some (.int (nI s)), some (.int (nI p)), some (.int sH), some (.int 2), none, none, none, none, none, none, none, none, none, none], [.int (nI p), .ref 84], (HD, mi, ml, mr))) rfl ?_
  refine wp_calv (as := [.int (nI p)]) rfl rfl rfl (Nat.le_of_ble_eq_true rfl) ⟨by decide, rfl⟩ ((c_isOne_ok (mi := mi) (ml := ml) hM hN hN5 hpN)) (by decide) ?_
  rintro _ _ ⟨rfl, rfl⟩
  show aWP _ _ (6, [some (.ref 84), some (.int (nI s)), some (.int (nI p)), some (.int sH), some (.int 2), none, none, none, none, none, none, none, none, none, none], [.int 1], (HD, mi, ml, mr)) _
  refine wp_bI rfl (fun c_2 => ?_) (fun c_2 => ?_)
  · have c_2 : (1 : Int32) = 0 := of_decide_eq_true c_2
    exact absurd c_2 (by decide)
  have c_2 : ¬ ((1 : Int32) = 0) := of_decide_eq_false c_2
  refine wp_steps 1 (t' := (8, [some (.ref 84), some (.int (nI s)), some (.int (nI p)), some (.int sH), some (.int 2), none, none, none, none, none, none, none, none, none, none], [.int sH], (HD, mi, ml, mr))) rfl ?_
  refine wp_cal (as := [.int sH]) rfl rfl rfl (Nat.le_of_ble_eq_true rfl) (c_rSH) (by decide) ?_
  rintro _ _ ⟨rfl, rfl⟩
  rw [if_pos hS]
  show aWP _ _ (9, [some (.ref 84), some (.int (nI s)), some (.int (nI p)), some (.int sH), some (.int 2), none, none, none, none, none, none, none, none, none, none], [.int 1], (HD, mi, ml, mr)) _
  refine wp_bI rfl (fun c_3 => ?_) (fun c_3 => ?_)
  · have c_3 : (1 : Int32) = 0 := of_decide_eq_true c_3
    exact absurd c_3 (by decide)
  have c_3 : ¬ ((1 : Int32) = 0) := of_decide_eq_false c_3
  refine wp_steps 4 (t' := (14, [some (.ref 84), some (.int (nI s)), some (.int (nI p)), some (.int sH), some (.int 2), none, none, none, none, none, none, none, none, none, none], [.long 8, .long 0, .long ((2 : Int32).toInt64)], (HD, mi, ml, mr))) rfl ?_
  refine wp_cal (as := [.long ((2 : Int32).toInt64), .long 0, .long 8]) rfl rfl rfl (Nat.le_of_ble_eq_true rfl) ((c_in (x := 2) (lo := 0) (hi := 8) (by decide) (by decide) (by decide))) (by decide) ?_
  rintro _ _ ⟨rfl, rfl⟩
  rw [if_pos (by decide)]
  show aWP _ _ (15, [some (.ref 84), some (.int (nI s)), some (.int (nI p)), some (.int sH), some (.int 2), none, none, none, none, none, none, none, none, none, none], [.int 1], (HD, mi, ml, mr)) _
  refine wp_bI rfl (fun c_4 => ?_) (fun c_4 => ?_)
  rotate_left
  · have c_4 : (1 : Int32) = 0 := Decidable.not_not.mp (of_decide_eq_false c_4)
    exact absurd c_4 (by decide)
  have c_4 : ¬ (1 : Int32) = 0 := of_decide_eq_true c_4
  refine wp_steps 1 (t' := (19, [some (.ref 84), some (.int (nI s)), some (.int (nI p)), some (.int sH), some (.int 2), none, none, none, none, none, none, none, none, none, none], [.ref 84], (HD, mi, ml, mr))) rfl ?_
  refine wp_getr rfl ⟨by decide, rfl⟩ rfl (hM (84, 37, 97) (by decide)) ?_
  refine wp_steps 1 (t' := (21, [some (.ref 84), some (.int (nI s)), some (.int (nI p)), some (.int sH), some (.int 2), none, none, none, none, none, none, none, none, none, none], [.int (nI s), .ref 97], (HD, mi, ml, mr))) rfl ?_
  refine wp_zald rfl ⟨by decide, rfl⟩ (aix_nI hs4 (by decide)) ?_
  rw [nI_clamp (n := s) (by omega)]
  rw [show mi 97 s = 1 from hT]
  refine wp_bI rfl (fun c_5 => ?_) (fun c_5 => ?_)
  rotate_left
  · have c_5 : (1 : Int32) = 0 := Decidable.not_not.mp (of_decide_eq_false c_5)
    exact absurd c_5 (by decide)
  have c_5 : ¬ (1 : Int32) = 0 := of_decide_eq_true c_5
  refine wp_steps 3 (t' := (28, [some (.ref 84), some (.int (nI s)), some (.int (nI p)), some (.int sH), some (.int 2), none, none, none, none, none, none, none, none, none, none], [.int (sH / 10)], (HD, mi, ml, mr))) rfl ?_
  rw [hy]
  refine wp_steps 4 (t' := (32, [some (.ref 84), some (.int (nI s)), some (.int (nI p)), some (.int sH), some (.int 2), some (.int (nI y)), none, none, none, none, none, none, none, none, none], [.int (sH - sH / 10 * 10)], (HD, mi, ml, mr))) rfl ?_
  rw [hh]
  refine wp_steps 2 (t' := (34, [some (.ref 84), some (.int (nI s)), some (.int (nI p)), some (.int sH), some (.int 2), some (.int (nI y)), some (.int hp), none, none, none, none, none, none, none, none], [.int 2], (HD, mi, ml, mr))) rfl ?_
  refine wp_bI rfl (fun c_6 => ?_) (fun c_6 => ?_)
  rotate_left
  · have c_6 : (2 : Int32) = 0 := Decidable.not_not.mp (of_decide_eq_false c_6)
    exact absurd c_6 (by decide)
  have c_6 : ¬ (2 : Int32) = 0 := of_decide_eq_true c_6
  refine wp_steps 2 (t' := (44, [some (.ref 84), some (.int (nI s)), some (.int (nI p)), some (.int sH), some (.int 2), some (.int (nI y)), some (.int hp), none, none, none, none, none, none, none, none], [.int 3, .int 2], (HD, mi, ml, mr))) rfl ?_
  refine wp_bC rfl (fun c_7 => ?_) (fun c_7 => ?_)
  rotate_left
  · have c_7 : (2 : Int32) = 3 := Decidable.not_not.mp (of_decide_eq_false c_7)
    exact absurd c_7 (by decide)
  have c_7 : ¬ (2 : Int32) = 3 := of_decide_eq_true c_7
  refine wp_steps 2 (t' := (53, [some (.ref 84), some (.int (nI s)), some (.int (nI p)), some (.int sH), some (.int 2), some (.int (nI y)), some (.int hp), none, none, none, none, none, none, none, none], [.int 1, .int 2], (HD, mi, ml, mr))) rfl ?_
  refine wp_bC rfl (fun c_8 => ?_) (fun c_8 => ?_)
  rotate_left
  · have c_8 : (2 : Int32) = 1 := Decidable.not_not.mp (of_decide_eq_false c_8)
    exact absurd c_8 (by decide)
  have c_8 : ¬ (2 : Int32) = 1 := of_decide_eq_true c_8
  refine wp_steps 2 (t' := (58, [some (.ref 84), some (.int (nI s)), some (.int (nI p)), some (.int sH), some (.int 2), some (.int (nI y)), some (.int hp), none, none, none, none, none, none, none, none], [.int 2, .int 2], (HD, mi, ml, mr))) rfl ?_
  refine wp_bC rfl (fun c_9 => ?_) (fun c_9 => ?_)
  · have c_9 : ¬ (2 : Int32) = 2 := of_decide_eq_true c_9
    exact absurd c_9 (by decide)
  have c_9 : (2 : Int32) = 2 := Decidable.not_not.mp (of_decide_eq_false c_9)
  refine wp_steps 5 (t' := (77, [some (.ref 84), some (.int (nI s)), some (.int (nI p)), some (.int sH), some (.int 2), some (.int (nI y)), some (.int hp), some (.int 2), none, none, none, none, none, none, none], [.int 1, .int 2], (HD, mi, ml, mr))) rfl ?_
  refine wp_bC rfl (fun c_10 => ?_) (fun c_10 => ?_)
  rotate_left
  · have c_10 : (2 : Int32) = 1 := Decidable.not_not.mp (of_decide_eq_false c_10)
    exact absurd c_10 (by decide)
  have c_10 : ¬ (2 : Int32) = 1 := of_decide_eq_true c_10
  refine wp_steps 4 (t' := (84, [some (.ref 84), some (.int (nI s)), some (.int (nI p)), some (.int sH), some (.int 2), some (.int (nI y)), some (.int hp), some (.int 2), some (.int (nI p)), none, none, none, none, none, none], [.int 6, .int 2], (HD, mi, ml, mr))) rfl ?_
  refine wp_bC rfl (fun c_11 => ?_) (fun c_11 => ?_)
  rotate_left
  · have c_11 : (2 : Int32) = 6 := Decidable.not_not.mp (of_decide_eq_false c_11)
    exact absurd c_11 (by decide)
  have c_11 : ¬ (2 : Int32) = 6 := of_decide_eq_true c_11
  refine wp_steps 3 (t' := (91, [some (.ref 84), some (.int (nI s)), some (.int (nI p)), some (.int sH), some (.int 2), some (.int (nI y)), some (.int hp), some (.int 2), some (.int (nI p)), none, none, none, none, none, none], [.int 2, .int (nI p), .ref 84], (HD, mi, ml, mr))) rfl ?_
  refine wp_calv (as := [.int (nI p), .int 2]) rfl rfl rfl (Nat.le_of_ble_eq_true rfl) ⟨by decide, rfl⟩ ((q_told_2p (ml := ml) hM hN hN5 hR hpN hok)) (by decide) ?_
  rintro _ _ ⟨rfl, m_1, w_1, rfl, f1⟩
  rw [show toG (twR mi c0 c1 c2) (puR mi p) 2 = mi 90 p from rfl]
  show aWP _ _ (92, [some (.ref 84), some (.int (nI s)), some (.int (nI p)), some (.int sH), some (.int 2), some (.int (nI y)), some (.int hp), some (.int 2), some (.int (nI p)), none, none, none, none, none, none], [.int (mi 90 p)], (HD, m_1, w_1, mr)) _
  refine wp_steps 3 (t' := (95, [some (.ref 84), some (.int (nI s)), some (.int (nI p)), some (.int sH), some (.int 2), some (.int (nI y)), some (.int hp), some (.int 2), some (.int (nI p)), some (.int (mi 90 p)), none, none, none, none, none], [.int 6, .int 2], (HD, m_1, w_1, mr))) rfl ?_
  refine wp_bC rfl (fun c_12 => ?_) (fun c_12 => ?_)
  rotate_left
  · have c_12 : (2 : Int32) = 6 := Decidable.not_not.mp (of_decide_eq_false c_12)
    exact absurd c_12 (by decide)
  have c_12 : ¬ (2 : Int32) = 6 := of_decide_eq_true c_12
  refine wp_steps 2 (t' := (103, [some (.ref 84), some (.int (nI s)), some (.int (nI p)), some (.int sH), some (.int 2), some (.int (nI y)), some (.int hp), some (.int 2), some (.int (nI p)), some (.int (mi 90 p)), none, none, none, none, none], [.int 5, .int 2], (HD, m_1, w_1, mr))) rfl ?_
  refine wp_bC rfl (fun c_13 => ?_) (fun c_13 => ?_)
  rotate_left
  · have c_13 : (2 : Int32) = 5 := Decidable.not_not.mp (of_decide_eq_false c_13)
    exact absurd c_13 (by decide)
  have c_13 : ¬ (2 : Int32) = 5 := of_decide_eq_true c_13
  refine wp_steps 1 (t' := (107, [some (.ref 84), some (.int (nI s)), some (.int (nI p)), some (.int sH), some (.int 2), some (.int (nI y)), some (.int hp), some (.int 2), some (.int (nI p)), some (.int (mi 90 p)), none, none, none, none, none], [.int 2], (HD, m_1, w_1, mr))) rfl ?_
  refine wp_cal (as := [.int 2]) rfl rfl rfl (Nat.le_of_ble_eq_true rfl) ((c_rmost_2 (mi := m_1) (ml := w_1) (mr := mr))) (by decide) ?_
  rintro _ _ ⟨rfl, rfl⟩
  show aWP _ _ (108, [some (.ref 84), some (.int (nI s)), some (.int (nI p)), some (.int sH), some (.int 2), some (.int (nI y)), some (.int hp), some (.int 2), some (.int (nI p)), some (.int (mi 90 p)), none, none, none, none, none], [.int 9], (HD, m_1, w_1, mr)) _
  refine wp_steps 9 (t' := (117, [some (.ref 84), some (.int (nI s)), some (.int (nI p)), some (.int sH), some (.int 2), some (.int (nI y)), some (.int hp), some (.int 2), some (.int (nI p)), some (.int (mi 90 p)), some (.int 9), some (.int 0), some (.int 0), some (.int (-1)), some (.int 9)], [], (HD, m_1, w_1, mr))) rfl ?_
  show aWP _ _ (117, [some (.ref 84), some (.int (nI s)), some (.int (nI p)), some (.int sH), some (.int 2), some (.int (nI y)), some (.int hp), some (.int 2), some (.int (nI p)), some (.int (mi 90 p)), some (.int 9), some (.int 0), some (.int 0), some (.int (-1)), some (.int (nI 10 - 1))], [], (HD, m_1, w_1, mr)) _
  refine l_rtells (a := 90) (b := p) hM (fun m x v => r_lays_2 (mi := m) (ml := x) hM hp5) (F := (fiR CT (fun j => mi 100 (40 * s + j)) Z 2 y hp (twR mi c0 c1 c2) (puR mi p))) (G := 10) (by first | omega | decide) (fun m x k hk f e => hF_2 hM hR hp5 hok hs4 hz hZ hy8 hk f e) 10 (0, 0, -1) m_1 w_1 (Nat.le_refl _) f1.G (fun m' x' h4 => ?_)
  refine wp_steps 4 (t' := (152, [some (.ref 84), some (.int (nI s)), some (.int (nI p)), some (.int sH), some (.int 2), some (.int (nI y)), some (.int hp), some (.int 2), some (.int (nI p)), some (.int (mi 90 p)), some (.int 9), some (.int ((dnS (fiR CT (fun j => mi 100 (40 * s + j)) Z 2 y hp (twR mi c0 c1 c2) (puR mi p)) 10 (0, 0, -1)).1)), some (.int ((dnS (fiR CT (fun j => mi 100 (40 * s + j)) Z 2 y hp (twR mi c0 c1 c2) (puR mi p)) 10 (0, 0, -1)).2.1)), some (.int ((dnS (fiR CT (fun j => mi 100 (40 * s + j)) Z 2 y hp (twR mi c0 c1 c2) (puR mi p)) 10 (0, 0, -1)).2.2)), some (.int (-1))], [.int (mi 90 p), .int (nI p), .int 2, .ref 84], (HD, m', x', mr))) rfl ?_
  refine wp_calv (as := [.int 2, .int (nI p), .int (mi 90 p)]) rfl rfl rfl (Nat.le_of_ble_eq_true rfl) ⟨by decide, rfl⟩ ((r_lays_2 (mi := m') (ml := x') hM hp5)) (by decide) ?_
  rintro _ _ ⟨rfl, rfl⟩
  show aWP _ _ (153, [some (.ref 84), some (.int (nI s)), some (.int (nI p)), some (.int sH), some (.int 2), some (.int (nI y)), some (.int hp), some (.int 2), some (.int (nI p)), some (.int (mi 90 p)), some (.int 9), some (.int ((dnS (fiR CT (fun j => mi 100 (40 * s + j)) Z 2 y hp (twR mi c0 c1 c2) (puR mi p)) 10 (0, 0, -1)).1)), some (.int ((dnS (fiR CT (fun j => mi 100 (40 * s + j)) Z 2 y hp (twR mi c0 c1 c2) (puR mi p)) 10 (0, 0, -1)).2.1)), some (.int ((dnS (fiR CT (fun j => mi 100 (40 * s + j)) Z 2 y hp (twR mi c0 c1 c2) (puR mi p)) 10 (0, 0, -1)).2.2)), some (.int (-1))], [], (HD, (aup m' 90 p (mi 90 p)), x', mr)) _
  refine wp_steps 2 (t' := (155, [some (.ref 84), some (.int (nI s)), some (.int (nI p)), some (.int sH), some (.int 2), some (.int (nI y)), some (.int hp), some (.int 2), some (.int (nI p)), some (.int (mi 90 p)), some (.int 9), some (.int ((dnS (fiR CT (fun j => mi 100 (40 * s + j)) Z 2 y hp (twR mi c0 c1 c2) (puR mi p)) 10 (0, 0, -1)).1)), some (.int ((dnS (fiR CT (fun j => mi 100 (40 * s + j)) Z 2 y hp (twR mi c0 c1 c2) (puR mi p)) 10 (0, 0, -1)).2.1)), some (.int ((dnS (fiR CT (fun j => mi 100 (40 * s + j)) Z 2 y hp (twR mi c0 c1 c2) (puR mi p)) 10 (0, 0, -1)).2.2)), some (.int (-1))], [.int 4, .int 2], (HD, (aup m' 90 p (mi 90 p)), x', mr))) rfl ?_
  refine wp_bC rfl (fun c_91 => ?_) (fun c_91 => ?_)
  · have c_91 : (2 : Int32) = 4 := of_decide_eq_true c_91
    exact absurd c_91 (by decide)
  have c_91 : ¬ ((2 : Int32) = 4) := of_decide_eq_false c_91
  refine wp_steps 2 (t' := (158, [some (.ref 84), some (.int (nI s)), some (.int (nI p)), some (.int sH), some (.int 2), some (.int (nI y)), some (.int hp), some (.int 2), some (.int (nI p)), some (.int (mi 90 p)), some (.int 9), some (.int ((dnS (fiR CT (fun j => mi 100 (40 * s + j)) Z 2 y hp (twR mi c0 c1 c2) (puR mi p)) 10 (0, 0, -1)).1)), some (.int ((dnS (fiR CT (fun j => mi 100 (40 * s + j)) Z 2 y hp (twR mi c0 c1 c2) (puR mi p)) 10 (0, 0, -1)).2.1)), some (.int ((dnS (fiR CT (fun j => mi 100 (40 * s + j)) Z 2 y hp (twR mi c0 c1 c2) (puR mi p)) 10 (0, 0, -1)).2.2)), some (.int (-1))], [.int 6, .int 2], (HD, (aup m' 90 p (mi 90 p)), x', mr))) rfl ?_
  refine wp_bC rfl (fun c_92 => ?_) (fun c_92 => ?_)
  rotate_left
  · have c_92 : (2 : Int32) = 6 := Decidable.not_not.mp (of_decide_eq_false c_92)
    exact absurd c_92 (by decide)
  have c_92 : ¬ (2 : Int32) = 6 := of_decide_eq_true c_92
  refine wp_steps 2 (t' := (163, [some (.ref 84), some (.int (nI s)), some (.int (nI p)), some (.int sH), some (.int 2), some (.int (nI y)), some (.int hp), some (.int 2), some (.int (nI p)), some (.int (mi 90 p)), some (.int 9), some (.int ((dnS (fiR CT (fun j => mi 100 (40 * s + j)) Z 2 y hp (twR mi c0 c1 c2) (puR mi p)) 10 (0, 0, -1)).1)), some (.int ((dnS (fiR CT (fun j => mi 100 (40 * s + j)) Z 2 y hp (twR mi c0 c1 c2) (puR mi p)) 10 (0, 0, -1)).2.1)), some (.int ((dnS (fiR CT (fun j => mi 100 (40 * s + j)) Z 2 y hp (twR mi c0 c1 c2) (puR mi p)) 10 (0, 0, -1)).2.2)), some (.int (-1))], [.int 5, .int 2], (HD, (aup m' 90 p (mi 90 p)), x', mr))) rfl ?_
  refine wp_bC rfl (fun c_93 => ?_) (fun c_93 => ?_)
  · have c_93 : (2 : Int32) = 5 := of_decide_eq_true c_93
    exact absurd c_93 (by decide)
  have c_93 : ¬ ((2 : Int32) = 5) := of_decide_eq_false c_93
  refine wp_steps 2 (t' := (166, [some (.ref 84), some (.int (nI s)), some (.int (nI p)), some (.int sH), some (.int 2), some (.int (nI y)), some (.int hp), some (.int 2), some (.int (nI p)), some (.int (mi 90 p)), some (.int 9), some (.int ((dnS (fiR CT (fun j => mi 100 (40 * s + j)) Z 2 y hp (twR mi c0 c1 c2) (puR mi p)) 10 (0, 0, -1)).1)), some (.int ((dnS (fiR CT (fun j => mi 100 (40 * s + j)) Z 2 y hp (twR mi c0 c1 c2) (puR mi p)) 10 (0, 0, -1)).2.1)), some (.int ((dnS (fiR CT (fun j => mi 100 (40 * s + j)) Z 2 y hp (twR mi c0 c1 c2) (puR mi p)) 10 (0, 0, -1)).2.2)), some (.int (-1))], [.int 7, .int 2], (HD, (aup m' 90 p (mi 90 p)), x', mr))) rfl ?_
  refine wp_bC rfl (fun c_94 => ?_) (fun c_94 => ?_)
  rotate_left
  · have c_94 : (2 : Int32) = 7 := Decidable.not_not.mp (of_decide_eq_false c_94)
    exact absurd c_94 (by decide)
  have c_94 : ¬ (2 : Int32) = 7 := of_decide_eq_true c_94
  refine wp_steps 1 (t' := (170, [some (.ref 84), some (.int (nI s)), some (.int (nI p)), some (.int sH), some (.int 2), some (.int (nI y)), some (.int hp), some (.int 2), some (.int (nI p)), some (.int (mi 90 p)), some (.int 9), some (.int ((dnS (fiR CT (fun j => mi 100 (40 * s + j)) Z 2 y hp (twR mi c0 c1 c2) (puR mi p)) 10 (0, 0, -1)).1)), some (.int ((dnS (fiR CT (fun j => mi 100 (40 * s + j)) Z 2 y hp (twR mi c0 c1 c2) (puR mi p)) 10 (0, 0, -1)).2.1)), some (.int ((dnS (fiR CT (fun j => mi 100 (40 * s + j)) Z 2 y hp (twR mi c0 c1 c2) (puR mi p)) 10 (0, 0, -1)).2.2)), some (.int (-1))], [.int ((dnS (fiR CT (fun j => mi 100 (40 * s + j)) Z 2 y hp (twR mi c0 c1 c2) (puR mi p)) 10 (0, 0, -1)).1)], (HD, (aup m' 90 p (mi 90 p)), x', mr))) rfl ?_
  refine wp_ret rfl rfl ⟨⟨Nat.le_refl _, Nat.le_refl _⟩, ?_⟩
  refine ⟨?_, _, _, rfl, frG.bk h4 rfl⟩
  rw [show tlV 2 (tlL (fiR CT (fun j => mi 100 (40 * s + j)) Z 2 y hp (twR mi c0 c1 c2) (puR mi p)) 10 0 (-1, 0, 0, -1)) = (tlL (fiR CT (fun j => mi 100 (40 * s + j)) Z 2 y hp (twR mi c0 c1 c2) (puR mi p)) 10 0 (-1, 0, 0, -1)).2.1 from rfl, (tl_dn (F := (fiR CT (fun j => mi 100 (40 * s + j)) Z 2 y hp (twR mi c0 c1 c2) (puR mi p))) (g := 10) (a0 := -1) (by first | omega | decide)).1 (by first | omega | decide)]
set_option maxRecDepth 20000 in
set_option maxHeartbeats 1000000 in
theorem r_tells_g4 {X : aXt × Value} {mi : Nat → Nat → Int32} {ml : Nat → Nat → Int64} {mr : Nat → Nat → Option Nat} (hM : MRok mr) {N : Nat} (hN : mi 84 12 = nI N) (hN5 : N ≤ 5) {c0 c1 c2 : List Int32} (hR : RUX mi c0 c1 c2) {p : Nat} (hpN : p < N) (hok : okU (puR mi p)) {s Z : Nat} (hs4 : s < 4) (hz : mi 99 s = nI Z) (hZ : Z ≤ 40) {sH : Int32} (hS : shG sH = true) (hT : mi 97 s = 1) {y : Nat} (hy8 : y < 8) (hy : sH / 10 = nI y) {hp : Int32} (hh : sH - sH / 10 * 10 = hp) {CT : cT} : aCW X 50 201 [.ref 84, .int (nI s), .int (nI p), .int sH, .int 4] (HD, mi, ml, mr) (qR mi mr (.int (tlV 4 (tlL (fiR CT (fun j => mi 100 (40 * s + j)) Z 4 y hp (twR mi c0 c1 c2) (puR mi p)) 100 0 (-1, 0, 0, -1))))) := by
  have hp5 : p < 5 := by omega
  refine cw_of (cd := cd_X7_tells) (nL := 15) rfl rfl ?_
  show aWP _ _ (0, [some (.ref 84), some (.int (nI s)), some (.int (nI p)), some (.int sH), some (.int 4), none, none, none, none, none, none, none, none, none, none], [], (HD, mi, ml, mr)) _
  refine wp_steps 1 (t' := (1, [some (.ref 84), some (.int (nI s)), some (.int (nI p)), some (.int sH), some (.int 4), none, none, none, none, none, none, none, none, none, none], [.int (nI s)], (HD, mi, ml, mr))) rfl ?_
  refine wp_cal (as := [.int (nI s)]) rfl rfl rfl (Nat.le_of_ble_eq_true rfl) ((c_isSheet_n (ml := ml) (mr := mr) hs4)) (by decide) ?_
  rintro _ _ ⟨rfl, rfl⟩
  show aWP _ _ (2, [some (.ref 84), some (.int (nI s)), some (.int (nI p)), some (.int sH), some (.int 4), none, none, none, none, none, none, none, none, none, none], [.int 1], (HD, mi, ml, mr)) _
  refine wp_bI rfl (fun c_1 => ?_) (fun c_1 => ?_)
  · have c_1 : (1 : Int32) = 0 := of_decide_eq_true c_1
    exact absurd c_1 (by decide)
  have c_1 : ¬ ((1 : Int32) = 0) := of_decide_eq_false c_1
  refine wp_steps 2 (t' := (5, [some (.ref 84), some (.int (nI s)), some (.int (nI p)), some (.int sH), some (.int 4), none, none, none, none, none, none, none, none, none, none], [.int (nI p), .ref 84], (HD, mi, ml, mr))) rfl ?_
  refine wp_calv (as := [.int (nI p)]) rfl rfl rfl (Nat.le_of_ble_eq_true rfl) ⟨by decide, rfl⟩ ((c_isOne_ok (mi := mi) (ml := ml) hM hN hN5 hpN)) (by decide) ?_
  rintro _ _ ⟨rfl, rfl⟩
  show aWP _ _ (6, [some (.ref 84), some (.int (nI s)), some (.int (nI p)), some (.int sH), some (.int 4), none, none, none, none, none, none, none, none, none, none], [.int 1], (HD, mi, ml, mr)) _
  refine wp_bI rfl (fun c_2 => ?_) (fun c_2 => ?_)
  · have c_2 : (1 : Int32) = 0 := of_decide_eq_true c_2
    exact absurd c_2 (by decide)
  have c_2 : ¬ ((1 : Int32) = 0) := of_decide_eq_false c_2
  refine wp_steps 1 (t' := (8, [some (.ref 84), some (.int (nI s)), some (.int (nI p)), some (.int sH), some (.int 4), none, none, none, none, none, none, none, none, none, none], [.int sH], (HD, mi, ml, mr))) rfl ?_
  refine wp_cal (as := [.int sH]) rfl rfl rfl (Nat.le_of_ble_eq_true rfl) (c_rSH) (by decide) ?_
  rintro _ _ ⟨rfl, rfl⟩
  rw [if_pos hS]
  show aWP _ _ (9, [some (.ref 84), some (.int (nI s)), some (.int (nI p)), some (.int sH), some (.int 4), none, none, none, none, none, none, none, none, none, none], [.int 1], (HD, mi, ml, mr)) _
  refine wp_bI rfl (fun c_3 => ?_) (fun c_3 => ?_)
  · have c_3 : (1 : Int32) = 0 := of_decide_eq_true c_3
    exact absurd c_3 (by decide)
  have c_3 : ¬ ((1 : Int32) = 0) := of_decide_eq_false c_3
  refine wp_steps 4 (t' := (14, [some (.ref 84), some (.int (nI s)), some (.int (nI p)), some (.int sH), some (.int 4), none, none, none, none, none, none, none, none, none, none], [.long 8, .long 0, .long ((4 : Int32).toInt64)], (HD, mi, ml, mr))) rfl ?_
  refine wp_cal (as := [.long ((4 : Int32).toInt64), .long 0, .long 8]) rfl rfl rfl (Nat.le_of_ble_eq_true rfl) ((c_in (x := 4) (lo := 0) (hi := 8) (by decide) (by decide) (by decide))) (by decide) ?_
  rintro _ _ ⟨rfl, rfl⟩
  rw [if_pos (by decide)]
  show aWP _ _ (15, [some (.ref 84), some (.int (nI s)), some (.int (nI p)), some (.int sH), some (.int 4), none, none, none, none, none, none, none, none, none, none], [.int 1], (HD, mi, ml, mr)) _
  refine wp_bI rfl (fun c_4 => ?_) (fun c_4 => ?_)
  rotate_left
  · have c_4 : (1 : Int32) = 0 := Decidable.not_not.mp (of_decide_eq_false c_4)
    exact absurd c_4 (by decide)
  have c_4 : ¬ (1 : Int32) = 0 := of_decide_eq_true c_4
  refine wp_steps 1 (t' := (19, [some (.ref 84), some (.int (nI s)), some (.int (nI p)), some (.int sH), some (.int 4), none, none, none, none, none, none, none, none, none, none], [.ref 84], (HD, mi, ml, mr))) rfl ?_
  refine wp_getr rfl ⟨by decide, rfl⟩ rfl (hM (84, 37, 97) (by decide)) ?_
  refine wp_steps 1 (t' := (21, [some (.ref 84), some (.int (nI s)), some (.int (nI p)), some (.int sH), some (.int 4), none, none, none, none, none, none, none, none, none, none], [.int (nI s), .ref 97], (HD, mi, ml, mr))) rfl ?_
  refine wp_zald rfl ⟨by decide, rfl⟩ (aix_nI hs4 (by decide)) ?_
  rw [nI_clamp (n := s) (by omega)]
  rw [show mi 97 s = 1 from hT]
  refine wp_bI rfl (fun c_5 => ?_) (fun c_5 => ?_)
  rotate_left
  · have c_5 : (1 : Int32) = 0 := Decidable.not_not.mp (of_decide_eq_false c_5)
    exact absurd c_5 (by decide)
  have c_5 : ¬ (1 : Int32) = 0 := of_decide_eq_true c_5
  refine wp_steps 3 (t' := (28, [some (.ref 84), some (.int (nI s)), some (.int (nI p)), some (.int sH), some (.int 4), none, none, none, none, none, none, none, none, none, none], [.int (sH / 10)], (HD, mi, ml, mr))) rfl ?_
  rw [hy]
  refine wp_steps 4 (t' := (32, [some (.ref 84), some (.int (nI s)), some (.int (nI p)), some (.int sH), some (.int 4), some (.int (nI y)), none, none, none, none, none, none, none, none, none], [.int (sH - sH / 10 * 10)], (HD, mi, ml, mr))) rfl ?_
  rw [hh]
  refine wp_steps 2 (t' := (34, [some (.ref 84), some (.int (nI s)), some (.int (nI p)), some (.int sH), some (.int 4), some (.int (nI y)), some (.int hp), none, none, none, none, none, none, none, none], [.int 4], (HD, mi, ml, mr))) rfl ?_
  refine wp_bI rfl (fun c_6 => ?_) (fun c_6 => ?_)
  rotate_left
  · have c_6 : (4 : Int32) = 0 := Decidable.not_not.mp (of_decide_eq_false c_6)
    exact absurd c_6 (by decide)
  have c_6 : ¬ (4 : Int32) = 0 := of_decide_eq_true c_6
  refine wp_steps 2 (t' := (44, [some (.ref 84), some (.int (nI s)), some (.int (nI p)), some (.int sH), some (.int 4), some (.int (nI y)), some (.int hp), none, none, none, none, none, none, none, none], [.int 3, .int 4], (HD, mi, ml, mr))) rfl ?_
  refine wp_bC rfl (fun c_7 => ?_) (fun c_7 => ?_)
  rotate_left
  · have c_7 : (4 : Int32) = 3 := Decidable.not_not.mp (of_decide_eq_false c_7)
    exact absurd c_7 (by decide)
  have c_7 : ¬ (4 : Int32) = 3 := of_decide_eq_true c_7
  refine wp_steps 2 (t' := (53, [some (.ref 84), some (.int (nI s)), some (.int (nI p)), some (.int sH), some (.int 4), some (.int (nI y)), some (.int hp), none, none, none, none, none, none, none, none], [.int 1, .int 4], (HD, mi, ml, mr))) rfl ?_
  refine wp_bC rfl (fun c_8 => ?_) (fun c_8 => ?_)
  rotate_left
  · have c_8 : (4 : Int32) = 1 := Decidable.not_not.mp (of_decide_eq_false c_8)
    exact absurd c_8 (by decide)
  have c_8 : ¬ (4 : Int32) = 1 := of_decide_eq_true c_8
  refine wp_steps 2 (t' := (58, [some (.ref 84), some (.int (nI s)), some (.int (nI p)), some (.int sH), some (.int 4), some (.int (nI y)), some (.int hp), none, none, none, none, none, none, none, none], [.int 2, .int 4], (HD, mi, ml, mr))) rfl ?_
  refine wp_bC rfl (fun c_9 => ?_) (fun c_9 => ?_)
  rotate_left
  · have c_9 : (4 : Int32) = 2 := Decidable.not_not.mp (of_decide_eq_false c_9)
    exact absurd c_9 (by decide)
  have c_9 : ¬ (4 : Int32) = 2 := of_decide_eq_true c_9
  refine wp_steps 2 (t' := (63, [some (.ref 84), some (.int (nI s)), some (.int (nI p)), some (.int sH), some (.int 4), some (.int (nI y)), some (.int hp), none, none, none, none, none, none, none, none], [.int 6, .int 4], (HD, mi, ml, mr))) rfl ?_
  refine wp_bC rfl (fun c_10 => ?_) (fun c_10 => ?_)
  · have c_10 : 6 ≤ (4 : Int32) := of_decide_eq_true c_10
    exact absurd c_10 (by decide)
  have c_10 : ¬ (6 ≤ (4 : Int32)) := of_decide_eq_false c_10
  refine wp_steps 3 (t' := (67, [some (.ref 84), some (.int (nI s)), some (.int (nI p)), some (.int sH), some (.int 4), some (.int (nI y)), some (.int hp), none, none, none, none, none, none, none, none], [.int (10 + (nI y))], (HD, mi, ml, mr))) rfl ?_
  rw [show (10 : Int32) + nI y = nI (10 + y) from nI_add (a := 10) (b := y)]
  refine wp_steps 4 (t' := (77, [some (.ref 84), some (.int (nI s)), some (.int (nI p)), some (.int sH), some (.int 4), some (.int (nI y)), some (.int hp), some (.int (nI (10 + y))), none, none, none, none, none, none, none], [.int 1, .int (nI (10 + y))], (HD, mi, ml, mr))) rfl ?_
  refine wp_bC rfl (fun c_11 => ?_) (fun c_11 => ?_)
  rotate_left
  · have c_11 : (nI (10 + y)) = 1 := Decidable.not_not.mp (of_decide_eq_false c_11)
    exact absurd c_11 (ne_y (k := 1) (by decide) hy8)
  have c_11 : ¬ (nI (10 + y)) = 1 := of_decide_eq_true c_11
  refine wp_steps 4 (t' := (84, [some (.ref 84), some (.int (nI s)), some (.int (nI p)), some (.int sH), some (.int 4), some (.int (nI y)), some (.int hp), some (.int (nI (10 + y))), some (.int (nI p)), none, none, none, none, none, none], [.int 6, .int (nI (10 + y))], (HD, mi, ml, mr))) rfl ?_
  refine wp_bC rfl (fun c_12 => ?_) (fun c_12 => ?_)
  rotate_left
  · have c_12 : (nI (10 + y)) = 6 := Decidable.not_not.mp (of_decide_eq_false c_12)
    exact absurd c_12 (ne_y (k := 6) (by decide) hy8)
  have c_12 : ¬ (nI (10 + y)) = 6 := of_decide_eq_true c_12
  refine wp_steps 3 (t' := (91, [some (.ref 84), some (.int (nI s)), some (.int (nI p)), some (.int sH), some (.int 4), some (.int (nI y)), some (.int hp), some (.int (nI (10 + y))), some (.int (nI p)), none, none, none, none, none, none], [.int (nI (10 + y)), .int (nI p), .ref 84], (HD, mi, ml, mr))) rfl ?_
  refine wp_calv (as := [.int (nI p), .int (nI (10 + y))]) rfl rfl rfl (Nat.le_of_ble_eq_true rfl) ⟨by decide, rfl⟩ ((q_told_y (ml := ml) hM hN hN5 hR hpN hok hy8)) (by decide) ?_
  rintro _ _ ⟨rfl, m_1, w_1, rfl, f1⟩
  show aWP _ _ (92, [some (.ref 84), some (.int (nI s)), some (.int (nI p)), some (.int sH), some (.int 4), some (.int (nI y)), some (.int hp), some (.int (nI (10 + y))), some (.int (nI p)), none, none, none, none, none, none], [.int (mi 91 (10 * p + y))], (HD, m_1, w_1, mr)) _
  refine wp_steps 3 (t' := (95, [some (.ref 84), some (.int (nI s)), some (.int (nI p)), some (.int sH), some (.int 4), some (.int (nI y)), some (.int hp), some (.int (nI (10 + y))), some (.int (nI p)), some (.int (mi 91 (10 * p + y))), none, none, none, none, none], [.int 6, .int (nI (10 + y))], (HD, m_1, w_1, mr))) rfl ?_
  refine wp_bC rfl (fun c_13 => ?_) (fun c_13 => ?_)
  rotate_left
  · have c_13 : (nI (10 + y)) = 6 := Decidable.not_not.mp (of_decide_eq_false c_13)
    exact absurd c_13 (ne_y (k := 6) (by decide) hy8)
  have c_13 : ¬ (nI (10 + y)) = 6 := of_decide_eq_true c_13
  refine wp_steps 2 (t' := (103, [some (.ref 84), some (.int (nI s)), some (.int (nI p)), some (.int sH), some (.int 4), some (.int (nI y)), some (.int hp), some (.int (nI (10 + y))), some (.int (nI p)), some (.int (mi 91 (10 * p + y))), none, none, none, none, none], [.int 5, .int (nI (10 + y))], (HD, m_1, w_1, mr))) rfl ?_
  refine wp_bC rfl (fun c_14 => ?_) (fun c_14 => ?_)
  rotate_left
  · have c_14 : (nI (10 + y)) = 5 := Decidable.not_not.mp (of_decide_eq_false c_14)
    exact absurd c_14 (ne_y (k := 5) (by decide) hy8)
  have c_14 : ¬ (nI (10 + y)) = 5 := of_decide_eq_true c_14
  refine wp_steps 1 (t' := (107, [some (.ref 84), some (.int (nI s)), some (.int (nI p)), some (.int sH), some (.int 4), some (.int (nI y)), some (.int hp), some (.int (nI (10 + y))), some (.int (nI p)), some (.int (mi 91 (10 * p + y))), none, none, none, none, none], [.int (nI (10 + y))], (HD, m_1, w_1, mr))) rfl ?_
  refine wp_cal (as := [.int (nI (10 + y))]) rfl rfl rfl (Nat.le_of_ble_eq_true rfl) ((c_rmost_y (mi := m_1) (ml := w_1) (mr := mr) hy8)) (by decide) ?_
  rintro _ _ ⟨rfl, rfl⟩
  show aWP _ _ (108, [some (.ref 84), some (.int (nI s)), some (.int (nI p)), some (.int sH), some (.int 4), some (.int (nI y)), some (.int hp), some (.int (nI (10 + y))), some (.int (nI p)), some (.int (mi 91 (10 * p + y))), none, none, none, none, none], [.int 99], (HD, m_1, w_1, mr)) _
  refine wp_steps 9 (t' := (117, [some (.ref 84), some (.int (nI s)), some (.int (nI p)), some (.int sH), some (.int 4), some (.int (nI y)), some (.int hp), some (.int (nI (10 + y))), some (.int (nI p)), some (.int (mi 91 (10 * p + y))), some (.int 99), some (.int 0), some (.int 0), some (.int (-1)), some (.int 99)], [], (HD, m_1, w_1, mr))) rfl ?_
  show aWP _ _ (117, [some (.ref 84), some (.int (nI s)), some (.int (nI p)), some (.int sH), some (.int 4), some (.int (nI y)), some (.int hp), some (.int (nI (10 + y))), some (.int (nI p)), some (.int (mi 91 (10 * p + y))), some (.int 99), some (.int 0), some (.int 0), some (.int (-1)), some (.int (nI 100 - 1))], [], (HD, m_1, w_1, mr)) _
  refine l_rtells (a := 91) (b := (10 * p + y)) hM (fun m x v => r_lays_y (mi := m) (ml := x) hM hp5 hy8) (F := (fiR CT (fun j => mi 100 (40 * s + j)) Z 4 y hp (twR mi c0 c1 c2) (puR mi p))) (G := 100) (by first | omega | decide) (fun m x k hk f e => hF_4 hM hR hp5 hok hs4 hz hZ hy8 hk f e) 100 (0, 0, -1) m_1 w_1 (Nat.le_refl _) f1.G (fun m' x' h4 => ?_)
  refine wp_steps 4 (t' := (152, [some (.ref 84), some (.int (nI s)), some (.int (nI p)), some (.int sH), some (.int 4), some (.int (nI y)), some (.int hp), some (.int (nI (10 + y))), some (.int (nI p)), some (.int (mi 91 (10 * p + y))), some (.int 99), some (.int ((dnS (fiR CT (fun j => mi 100 (40 * s + j)) Z 4 y hp (twR mi c0 c1 c2) (puR mi p)) 100 (0, 0, -1)).1)), some (.int ((dnS (fiR CT (fun j => mi 100 (40 * s + j)) Z 4 y hp (twR mi c0 c1 c2) (puR mi p)) 100 (0, 0, -1)).2.1)), some (.int ((dnS (fiR CT (fun j => mi 100 (40 * s + j)) Z 4 y hp (twR mi c0 c1 c2) (puR mi p)) 100 (0, 0, -1)).2.2)), some (.int (-1))], [.int (mi 91 (10 * p + y)), .int (nI p), .int (nI (10 + y)), .ref 84], (HD, m', x', mr))) rfl ?_
  refine wp_calv (as := [.int (nI (10 + y)), .int (nI p), .int (mi 91 (10 * p + y))]) rfl rfl rfl (Nat.le_of_ble_eq_true rfl) ⟨by decide, rfl⟩ ((r_lays_y (mi := m') (ml := x') hM hp5 hy8)) (by decide) ?_
  rintro _ _ ⟨rfl, rfl⟩
  show aWP _ _ (153, [some (.ref 84), some (.int (nI s)), some (.int (nI p)), some (.int sH), some (.int 4), some (.int (nI y)), some (.int hp), some (.int (nI (10 + y))), some (.int (nI p)), some (.int (mi 91 (10 * p + y))), some (.int 99), some (.int ((dnS (fiR CT (fun j => mi 100 (40 * s + j)) Z 4 y hp (twR mi c0 c1 c2) (puR mi p)) 100 (0, 0, -1)).1)), some (.int ((dnS (fiR CT (fun j => mi 100 (40 * s + j)) Z 4 y hp (twR mi c0 c1 c2) (puR mi p)) 100 (0, 0, -1)).2.1)), some (.int ((dnS (fiR CT (fun j => mi 100 (40 * s + j)) Z 4 y hp (twR mi c0 c1 c2) (puR mi p)) 100 (0, 0, -1)).2.2)), some (.int (-1))], [], (HD, (aup m' 91 (10 * p + y) (mi 91 (10 * p + y))), x', mr)) _
  refine wp_steps 2 (t' := (155, [some (.ref 84), some (.int (nI s)), some (.int (nI p)), some (.int sH), some (.int 4), some (.int (nI y)), some (.int hp), some (.int (nI (10 + y))), some (.int (nI p)), some (.int (mi 91 (10 * p + y))), some (.int 99), some (.int ((dnS (fiR CT (fun j => mi 100 (40 * s + j)) Z 4 y hp (twR mi c0 c1 c2) (puR mi p)) 100 (0, 0, -1)).1)), some (.int ((dnS (fiR CT (fun j => mi 100 (40 * s + j)) Z 4 y hp (twR mi c0 c1 c2) (puR mi p)) 100 (0, 0, -1)).2.1)), some (.int ((dnS (fiR CT (fun j => mi 100 (40 * s + j)) Z 4 y hp (twR mi c0 c1 c2) (puR mi p)) 100 (0, 0, -1)).2.2)), some (.int (-1))], [.int 4, .int 4], (HD, (aup m' 91 (10 * p + y) (mi 91 (10 * p + y))), x', mr))) rfl ?_
  refine wp_bC rfl (fun c_91 => ?_) (fun c_91 => ?_)
  rotate_left
  · have c_91 : ¬ ((4 : Int32) = 4) := of_decide_eq_false c_91
    exact absurd c_91 (by decide)
  have c_91 : (4 : Int32) = 4 := of_decide_eq_true c_91
  refine wp_steps 2 (t' := (170, [some (.ref 84), some (.int (nI s)), some (.int (nI p)), some (.int sH), some (.int 4), some (.int (nI y)), some (.int hp), some (.int (nI (10 + y))), some (.int (nI p)), some (.int (mi 91 (10 * p + y))), some (.int 99), some (.int ((dnS (fiR CT (fun j => mi 100 (40 * s + j)) Z 4 y hp (twR mi c0 c1 c2) (puR mi p)) 100 (0, 0, -1)).1)), some (.int ((dnS (fiR CT (fun j => mi 100 (40 * s + j)) Z 4 y hp (twR mi c0 c1 c2) (puR mi p)) 100 (0, 0, -1)).2.1)), some (.int ((dnS (fiR CT (fun j => mi 100 (40 * s + j)) Z 4 y hp (twR mi c0 c1 c2) (puR mi p)) 100 (0, 0, -1)).2.2)), some (.int (-1))], [.int ((dnS (fiR CT (fun j => mi 100 (40 * s + j)) Z 4 y hp (twR mi c0 c1 c2) (puR mi p)) 100 (0, 0, -1)).2.1)], (HD, (aup m' 91 (10 * p + y) (mi 91 (10 * p + y))), x', mr))) rfl ?_
  refine wp_ret rfl rfl ⟨⟨Nat.le_refl _, Nat.le_refl _⟩, ?_⟩
  refine ⟨?_, _, _, rfl, frG.bk h4 rfl⟩
  rw [show tlV 4 (tlL (fiR CT (fun j => mi 100 (40 * s + j)) Z 4 y hp (twR mi c0 c1 c2) (puR mi p)) 100 0 (-1, 0, 0, -1)) = (tlL (fiR CT (fun j => mi 100 (40 * s + j)) Z 4 y hp (twR mi c0 c1 c2) (puR mi p)) 100 0 (-1, 0, 0, -1)).2.2.1 from rfl, (tl_dn (F := (fiR CT (fun j => mi 100 (40 * s + j)) Z 4 y hp (twR mi c0 c1 c2) (puR mi p))) (g := 100) (a0 := -1) (by first | omega | decide)).2.1]
set_option maxRecDepth 20000 in
set_option maxHeartbeats 1000000 in
theorem r_tells_g5 {X : aXt × Value} {mi : Nat → Nat → Int32} {ml : Nat → Nat → Int64} {mr : Nat → Nat → Option Nat} (hM : MRok mr) {N : Nat} (hN : mi 84 12 = nI N) (hN5 : N ≤ 5) {c0 c1 c2 : List Int32} (hR : RUX mi c0 c1 c2) {p : Nat} (hpN : p < N) (hok : okU (puR mi p)) {s Z : Nat} (hs4 : s < 4) (hz : mi 99 s = nI Z) (hZ : Z ≤ 40) {sH : Int32} (hS : shG sH = true) (hT : mi 97 s = 1) {y : Nat} (hy8 : y < 8) (hy : sH / 10 = nI y) {hp : Int32} (hh : sH - sH / 10 * 10 = hp) {CT : cT} : aCW X 50 201 [.ref 84, .int (nI s), .int (nI p), .int sH, .int 5] (HD, mi, ml, mr) (qR mi mr (.int (tlV 5 (tlL (fiR CT (fun j => mi 100 (40 * s + j)) Z 5 y hp (twR mi c0 c1 c2) (puR mi p)) 100 0 (-1, 0, 0, -1))))) := by
  have hp5 : p < 5 := by omega
  refine cw_of (cd := cd_X7_tells) (nL := 15) rfl rfl ?_
  show aWP _ _ (0, [some (.ref 84), some (.int (nI s)), some (.int (nI p)), some (.int sH), some (.int 5), none, none, none, none, none, none, none, none, none, none], [], (HD, mi, ml, mr)) _
  refine wp_steps 1 (t' := (1, [some (.ref 84), some (.int (nI s)), some (.int (nI p)), some (.int sH), some (.int 5), none, none, none, none, none, none, none, none, none, none], [.int (nI s)], (HD, mi, ml, mr))) rfl ?_
  refine wp_cal (as := [.int (nI s)]) rfl rfl rfl (Nat.le_of_ble_eq_true rfl) ((c_isSheet_n (ml := ml) (mr := mr) hs4)) (by decide) ?_
  rintro _ _ ⟨rfl, rfl⟩
  show aWP _ _ (2, [some (.ref 84), some (.int (nI s)), some (.int (nI p)), some (.int sH), some (.int 5), none, none, none, none, none, none, none, none, none, none], [.int 1], (HD, mi, ml, mr)) _
  refine wp_bI rfl (fun c_1 => ?_) (fun c_1 => ?_)
  · have c_1 : (1 : Int32) = 0 := of_decide_eq_true c_1
    exact absurd c_1 (by decide)
  have c_1 : ¬ ((1 : Int32) = 0) := of_decide_eq_false c_1
  refine wp_steps 2 (t' := (5, [some (.ref 84), some (.int (nI s)), some (.int (nI p)), some (.int sH), some (.int 5), none, none, none, none, none, none, none, none, none, none], [.int (nI p), .ref 84], (HD, mi, ml, mr))) rfl ?_
  refine wp_calv (as := [.int (nI p)]) rfl rfl rfl (Nat.le_of_ble_eq_true rfl) ⟨by decide, rfl⟩ ((c_isOne_ok (mi := mi) (ml := ml) hM hN hN5 hpN)) (by decide) ?_
  rintro _ _ ⟨rfl, rfl⟩
  show aWP _ _ (6, [some (.ref 84), some (.int (nI s)), some (.int (nI p)), some (.int sH), some (.int 5), none, none, none, none, none, none, none, none, none, none], [.int 1], (HD, mi, ml, mr)) _
  refine wp_bI rfl (fun c_2 => ?_) (fun c_2 => ?_)
  · have c_2 : (1 : Int32) = 0 := of_decide_eq_true c_2
    exact absurd c_2 (by decide)
  have c_2 : ¬ ((1 : Int32) = 0) := of_decide_eq_false c_2
  refine wp_steps 1 (t' := (8, [some (.ref 84), some (.int (nI s)), some (.int (nI p)), some (.int sH), some (.int 5), none, none, none, none, none, none, none, none, none, none], [.int sH], (HD, mi, ml, mr))) rfl ?_
  refine wp_cal (as := [.int sH]) rfl rfl rfl (Nat.le_of_ble_eq_true rfl) (c_rSH) (by decide) ?_
  rintro _ _ ⟨rfl, rfl⟩
  rw [if_pos hS]
  show aWP _ _ (9, [some (.ref 84), some (.int (nI s)), some (.int (nI p)), some (.int sH), some (.int 5), none, none, none, none, none, none, none, none, none, none], [.int 1], (HD, mi, ml, mr)) _
  refine wp_bI rfl (fun c_3 => ?_) (fun c_3 => ?_)
  · have c_3 : (1 : Int32) = 0 := of_decide_eq_true c_3
    exact absurd c_3 (by decide)
  have c_3 : ¬ ((1 : Int32) = 0) := of_decide_eq_false c_3
  refine wp_steps 4 (t' := (14, [some (.ref 84), some (.int (nI s)), some (.int (nI p)), some (.int sH), some (.int 5), none, none, none, none, none, none, none, none, none, none], [.long 8, .long 0, .long ((5 : Int32).toInt64)], (HD, mi, ml, mr))) rfl ?_
  refine wp_cal (as := [.long ((5 : Int32).toInt64), .long 0, .long 8]) rfl rfl rfl (Nat.le_of_ble_eq_true rfl) ((c_in (x := 5) (lo := 0) (hi := 8) (by decide) (by decide) (by decide))) (by decide) ?_
  rintro _ _ ⟨rfl, rfl⟩
  rw [if_pos (by decide)]
  show aWP _ _ (15, [some (.ref 84), some (.int (nI s)), some (.int (nI p)), some (.int sH), some (.int 5), none, none, none, none, none, none, none, none, none, none], [.int 1], (HD, mi, ml, mr)) _
  refine wp_bI rfl (fun c_4 => ?_) (fun c_4 => ?_)
  rotate_left
  · have c_4 : (1 : Int32) = 0 := Decidable.not_not.mp (of_decide_eq_false c_4)
    exact absurd c_4 (by decide)
  have c_4 : ¬ (1 : Int32) = 0 := of_decide_eq_true c_4
  refine wp_steps 1 (t' := (19, [some (.ref 84), some (.int (nI s)), some (.int (nI p)), some (.int sH), some (.int 5), none, none, none, none, none, none, none, none, none, none], [.ref 84], (HD, mi, ml, mr))) rfl ?_
  refine wp_getr rfl ⟨by decide, rfl⟩ rfl (hM (84, 37, 97) (by decide)) ?_
  refine wp_steps 1 (t' := (21, [some (.ref 84), some (.int (nI s)), some (.int (nI p)), some (.int sH), some (.int 5), none, none, none, none, none, none, none, none, none, none], [.int (nI s), .ref 97], (HD, mi, ml, mr))) rfl ?_
  refine wp_zald rfl ⟨by decide, rfl⟩ (aix_nI hs4 (by decide)) ?_
  rw [nI_clamp (n := s) (by omega)]
  rw [show mi 97 s = 1 from hT]
  refine wp_bI rfl (fun c_5 => ?_) (fun c_5 => ?_)
  rotate_left
  · have c_5 : (1 : Int32) = 0 := Decidable.not_not.mp (of_decide_eq_false c_5)
    exact absurd c_5 (by decide)
  have c_5 : ¬ (1 : Int32) = 0 := of_decide_eq_true c_5
  refine wp_steps 3 (t' := (28, [some (.ref 84), some (.int (nI s)), some (.int (nI p)), some (.int sH), some (.int 5), none, none, none, none, none, none, none, none, none, none], [.int (sH / 10)], (HD, mi, ml, mr))) rfl ?_
  rw [hy]
  refine wp_steps 4 (t' := (32, [some (.ref 84), some (.int (nI s)), some (.int (nI p)), some (.int sH), some (.int 5), some (.int (nI y)), none, none, none, none, none, none, none, none, none], [.int (sH - sH / 10 * 10)], (HD, mi, ml, mr))) rfl ?_
  rw [hh]
  refine wp_steps 2 (t' := (34, [some (.ref 84), some (.int (nI s)), some (.int (nI p)), some (.int sH), some (.int 5), some (.int (nI y)), some (.int hp), none, none, none, none, none, none, none, none], [.int 5], (HD, mi, ml, mr))) rfl ?_
  refine wp_bI rfl (fun c_6 => ?_) (fun c_6 => ?_)
  rotate_left
  · have c_6 : (5 : Int32) = 0 := Decidable.not_not.mp (of_decide_eq_false c_6)
    exact absurd c_6 (by decide)
  have c_6 : ¬ (5 : Int32) = 0 := of_decide_eq_true c_6
  refine wp_steps 2 (t' := (44, [some (.ref 84), some (.int (nI s)), some (.int (nI p)), some (.int sH), some (.int 5), some (.int (nI y)), some (.int hp), none, none, none, none, none, none, none, none], [.int 3, .int 5], (HD, mi, ml, mr))) rfl ?_
  refine wp_bC rfl (fun c_7 => ?_) (fun c_7 => ?_)
  rotate_left
  · have c_7 : (5 : Int32) = 3 := Decidable.not_not.mp (of_decide_eq_false c_7)
    exact absurd c_7 (by decide)
  have c_7 : ¬ (5 : Int32) = 3 := of_decide_eq_true c_7
  refine wp_steps 2 (t' := (53, [some (.ref 84), some (.int (nI s)), some (.int (nI p)), some (.int sH), some (.int 5), some (.int (nI y)), some (.int hp), none, none, none, none, none, none, none, none], [.int 1, .int 5], (HD, mi, ml, mr))) rfl ?_
  refine wp_bC rfl (fun c_8 => ?_) (fun c_8 => ?_)
  rotate_left
  · have c_8 : (5 : Int32) = 1 := Decidable.not_not.mp (of_decide_eq_false c_8)
    exact absurd c_8 (by decide)
  have c_8 : ¬ (5 : Int32) = 1 := of_decide_eq_true c_8
  refine wp_steps 2 (t' := (58, [some (.ref 84), some (.int (nI s)), some (.int (nI p)), some (.int sH), some (.int 5), some (.int (nI y)), some (.int hp), none, none, none, none, none, none, none, none], [.int 2, .int 5], (HD, mi, ml, mr))) rfl ?_
  refine wp_bC rfl (fun c_9 => ?_) (fun c_9 => ?_)
  rotate_left
  · have c_9 : (5 : Int32) = 2 := Decidable.not_not.mp (of_decide_eq_false c_9)
    exact absurd c_9 (by decide)
  have c_9 : ¬ (5 : Int32) = 2 := of_decide_eq_true c_9
  refine wp_steps 2 (t' := (63, [some (.ref 84), some (.int (nI s)), some (.int (nI p)), some (.int sH), some (.int 5), some (.int (nI y)), some (.int hp), none, none, none, none, none, none, none, none], [.int 6, .int 5], (HD, mi, ml, mr))) rfl ?_
  refine wp_bC rfl (fun c_10 => ?_) (fun c_10 => ?_)
  · have c_10 : 6 ≤ (5 : Int32) := of_decide_eq_true c_10
    exact absurd c_10 (by decide)
  have c_10 : ¬ (6 ≤ (5 : Int32)) := of_decide_eq_false c_10
  refine wp_steps 3 (t' := (67, [some (.ref 84), some (.int (nI s)), some (.int (nI p)), some (.int sH), some (.int 5), some (.int (nI y)), some (.int hp), none, none, none, none, none, none, none, none], [.int (10 + (nI y))], (HD, mi, ml, mr))) rfl ?_
  rw [show (10 : Int32) + nI y = nI (10 + y) from nI_add (a := 10) (b := y)]
  refine wp_steps 4 (t' := (77, [some (.ref 84), some (.int (nI s)), some (.int (nI p)), some (.int sH), some (.int 5), some (.int (nI y)), some (.int hp), some (.int (nI (10 + y))), none, none, none, none, none, none, none], [.int 1, .int (nI (10 + y))], (HD, mi, ml, mr))) rfl ?_
  refine wp_bC rfl (fun c_11 => ?_) (fun c_11 => ?_)
  rotate_left
  · have c_11 : (nI (10 + y)) = 1 := Decidable.not_not.mp (of_decide_eq_false c_11)
    exact absurd c_11 (ne_y (k := 1) (by decide) hy8)
  have c_11 : ¬ (nI (10 + y)) = 1 := of_decide_eq_true c_11
  refine wp_steps 4 (t' := (84, [some (.ref 84), some (.int (nI s)), some (.int (nI p)), some (.int sH), some (.int 5), some (.int (nI y)), some (.int hp), some (.int (nI (10 + y))), some (.int (nI p)), none, none, none, none, none, none], [.int 6, .int (nI (10 + y))], (HD, mi, ml, mr))) rfl ?_
  refine wp_bC rfl (fun c_12 => ?_) (fun c_12 => ?_)
  rotate_left
  · have c_12 : (nI (10 + y)) = 6 := Decidable.not_not.mp (of_decide_eq_false c_12)
    exact absurd c_12 (ne_y (k := 6) (by decide) hy8)
  have c_12 : ¬ (nI (10 + y)) = 6 := of_decide_eq_true c_12
  refine wp_steps 3 (t' := (91, [some (.ref 84), some (.int (nI s)), some (.int (nI p)), some (.int sH), some (.int 5), some (.int (nI y)), some (.int hp), some (.int (nI (10 + y))), some (.int (nI p)), none, none, none, none, none, none], [.int (nI (10 + y)), .int (nI p), .ref 84], (HD, mi, ml, mr))) rfl ?_
  refine wp_calv (as := [.int (nI p), .int (nI (10 + y))]) rfl rfl rfl (Nat.le_of_ble_eq_true rfl) ⟨by decide, rfl⟩ ((q_told_y (ml := ml) hM hN hN5 hR hpN hok hy8)) (by decide) ?_
  rintro _ _ ⟨rfl, m_1, w_1, rfl, f1⟩
  show aWP _ _ (92, [some (.ref 84), some (.int (nI s)), some (.int (nI p)), some (.int sH), some (.int 5), some (.int (nI y)), some (.int hp), some (.int (nI (10 + y))), some (.int (nI p)), none, none, none, none, none, none], [.int (mi 91 (10 * p + y))], (HD, m_1, w_1, mr)) _
  refine wp_steps 3 (t' := (95, [some (.ref 84), some (.int (nI s)), some (.int (nI p)), some (.int sH), some (.int 5), some (.int (nI y)), some (.int hp), some (.int (nI (10 + y))), some (.int (nI p)), some (.int (mi 91 (10 * p + y))), none, none, none, none, none], [.int 6, .int (nI (10 + y))], (HD, m_1, w_1, mr))) rfl ?_
  refine wp_bC rfl (fun c_13 => ?_) (fun c_13 => ?_)
  rotate_left
  · have c_13 : (nI (10 + y)) = 6 := Decidable.not_not.mp (of_decide_eq_false c_13)
    exact absurd c_13 (ne_y (k := 6) (by decide) hy8)
  have c_13 : ¬ (nI (10 + y)) = 6 := of_decide_eq_true c_13
  refine wp_steps 2 (t' := (103, [some (.ref 84), some (.int (nI s)), some (.int (nI p)), some (.int sH), some (.int 5), some (.int (nI y)), some (.int hp), some (.int (nI (10 + y))), some (.int (nI p)), some (.int (mi 91 (10 * p + y))), none, none, none, none, none], [.int 5, .int (nI (10 + y))], (HD, m_1, w_1, mr))) rfl ?_
  refine wp_bC rfl (fun c_14 => ?_) (fun c_14 => ?_)
  rotate_left
  · have c_14 : (nI (10 + y)) = 5 := Decidable.not_not.mp (of_decide_eq_false c_14)
    exact absurd c_14 (ne_y (k := 5) (by decide) hy8)
  have c_14 : ¬ (nI (10 + y)) = 5 := of_decide_eq_true c_14
  refine wp_steps 1 (t' := (107, [some (.ref 84), some (.int (nI s)), some (.int (nI p)), some (.int sH), some (.int 5), some (.int (nI y)), some (.int hp), some (.int (nI (10 + y))), some (.int (nI p)), some (.int (mi 91 (10 * p + y))), none, none, none, none, none], [.int (nI (10 + y))], (HD, m_1, w_1, mr))) rfl ?_
  refine wp_cal (as := [.int (nI (10 + y))]) rfl rfl rfl (Nat.le_of_ble_eq_true rfl) ((c_rmost_y (mi := m_1) (ml := w_1) (mr := mr) hy8)) (by decide) ?_
  rintro _ _ ⟨rfl, rfl⟩
  show aWP _ _ (108, [some (.ref 84), some (.int (nI s)), some (.int (nI p)), some (.int sH), some (.int 5), some (.int (nI y)), some (.int hp), some (.int (nI (10 + y))), some (.int (nI p)), some (.int (mi 91 (10 * p + y))), none, none, none, none, none], [.int 99], (HD, m_1, w_1, mr)) _
  refine wp_steps 9 (t' := (117, [some (.ref 84), some (.int (nI s)), some (.int (nI p)), some (.int sH), some (.int 5), some (.int (nI y)), some (.int hp), some (.int (nI (10 + y))), some (.int (nI p)), some (.int (mi 91 (10 * p + y))), some (.int 99), some (.int 0), some (.int 0), some (.int (-1)), some (.int 99)], [], (HD, m_1, w_1, mr))) rfl ?_
  show aWP _ _ (117, [some (.ref 84), some (.int (nI s)), some (.int (nI p)), some (.int sH), some (.int 5), some (.int (nI y)), some (.int hp), some (.int (nI (10 + y))), some (.int (nI p)), some (.int (mi 91 (10 * p + y))), some (.int 99), some (.int 0), some (.int 0), some (.int (-1)), some (.int (nI 100 - 1))], [], (HD, m_1, w_1, mr)) _
  refine l_rtells (a := 91) (b := (10 * p + y)) hM (fun m x v => r_lays_y (mi := m) (ml := x) hM hp5 hy8) (F := (fiR CT (fun j => mi 100 (40 * s + j)) Z 5 y hp (twR mi c0 c1 c2) (puR mi p))) (G := 100) (by first | omega | decide) (fun m x k hk f e => hF_5 hM hR hp5 hok hs4 hz hZ hy8 hk f e) 100 (0, 0, -1) m_1 w_1 (Nat.le_refl _) f1.G (fun m' x' h4 => ?_)
  refine wp_steps 4 (t' := (152, [some (.ref 84), some (.int (nI s)), some (.int (nI p)), some (.int sH), some (.int 5), some (.int (nI y)), some (.int hp), some (.int (nI (10 + y))), some (.int (nI p)), some (.int (mi 91 (10 * p + y))), some (.int 99), some (.int ((dnS (fiR CT (fun j => mi 100 (40 * s + j)) Z 5 y hp (twR mi c0 c1 c2) (puR mi p)) 100 (0, 0, -1)).1)), some (.int ((dnS (fiR CT (fun j => mi 100 (40 * s + j)) Z 5 y hp (twR mi c0 c1 c2) (puR mi p)) 100 (0, 0, -1)).2.1)), some (.int ((dnS (fiR CT (fun j => mi 100 (40 * s + j)) Z 5 y hp (twR mi c0 c1 c2) (puR mi p)) 100 (0, 0, -1)).2.2)), some (.int (-1))], [.int (mi 91 (10 * p + y)), .int (nI p), .int (nI (10 + y)), .ref 84], (HD, m', x', mr))) rfl ?_
  refine wp_calv (as := [.int (nI (10 + y)), .int (nI p), .int (mi 91 (10 * p + y))]) rfl rfl rfl (Nat.le_of_ble_eq_true rfl) ⟨by decide, rfl⟩ ((r_lays_y (mi := m') (ml := x') hM hp5 hy8)) (by decide) ?_
  rintro _ _ ⟨rfl, rfl⟩
  show aWP _ _ (153, [some (.ref 84), some (.int (nI s)), some (.int (nI p)), some (.int sH), some (.int 5), some (.int (nI y)), some (.int hp), some (.int (nI (10 + y))), some (.int (nI p)), some (.int (mi 91 (10 * p + y))), some (.int 99), some (.int ((dnS (fiR CT (fun j => mi 100 (40 * s + j)) Z 5 y hp (twR mi c0 c1 c2) (puR mi p)) 100 (0, 0, -1)).1)), some (.int ((dnS (fiR CT (fun j => mi 100 (40 * s + j)) Z 5 y hp (twR mi c0 c1 c2) (puR mi p)) 100 (0, 0, -1)).2.1)), some (.int ((dnS (fiR CT (fun j => mi 100 (40 * s + j)) Z 5 y hp (twR mi c0 c1 c2) (puR mi p)) 100 (0, 0, -1)).2.2)), some (.int (-1))], [], (HD, (aup m' 91 (10 * p + y) (mi 91 (10 * p + y))), x', mr)) _
  refine wp_steps 2 (t' := (155, [some (.ref 84), some (.int (nI s)), some (.int (nI p)), some (.int sH), some (.int 5), some (.int (nI y)), some (.int hp), some (.int (nI (10 + y))), some (.int (nI p)), some (.int (mi 91 (10 * p + y))), some (.int 99), some (.int ((dnS (fiR CT (fun j => mi 100 (40 * s + j)) Z 5 y hp (twR mi c0 c1 c2) (puR mi p)) 100 (0, 0, -1)).1)), some (.int ((dnS (fiR CT (fun j => mi 100 (40 * s + j)) Z 5 y hp (twR mi c0 c1 c2) (puR mi p)) 100 (0, 0, -1)).2.1)), some (.int ((dnS (fiR CT (fun j => mi 100 (40 * s + j)) Z 5 y hp (twR mi c0 c1 c2) (puR mi p)) 100 (0, 0, -1)).2.2)), some (.int (-1))], [.int 4, .int 5], (HD, (aup m' 91 (10 * p + y) (mi 91 (10 * p + y))), x', mr))) rfl ?_
  refine wp_bC rfl (fun c_91 => ?_) (fun c_91 => ?_)
  · have c_91 : (5 : Int32) = 4 := of_decide_eq_true c_91
    exact absurd c_91 (by decide)
  have c_91 : ¬ ((5 : Int32) = 4) := of_decide_eq_false c_91
  refine wp_steps 2 (t' := (158, [some (.ref 84), some (.int (nI s)), some (.int (nI p)), some (.int sH), some (.int 5), some (.int (nI y)), some (.int hp), some (.int (nI (10 + y))), some (.int (nI p)), some (.int (mi 91 (10 * p + y))), some (.int 99), some (.int ((dnS (fiR CT (fun j => mi 100 (40 * s + j)) Z 5 y hp (twR mi c0 c1 c2) (puR mi p)) 100 (0, 0, -1)).1)), some (.int ((dnS (fiR CT (fun j => mi 100 (40 * s + j)) Z 5 y hp (twR mi c0 c1 c2) (puR mi p)) 100 (0, 0, -1)).2.1)), some (.int ((dnS (fiR CT (fun j => mi 100 (40 * s + j)) Z 5 y hp (twR mi c0 c1 c2) (puR mi p)) 100 (0, 0, -1)).2.2)), some (.int (-1))], [.int 6, .int 5], (HD, (aup m' 91 (10 * p + y) (mi 91 (10 * p + y))), x', mr))) rfl ?_
  refine wp_bC rfl (fun c_92 => ?_) (fun c_92 => ?_)
  rotate_left
  · have c_92 : (5 : Int32) = 6 := Decidable.not_not.mp (of_decide_eq_false c_92)
    exact absurd c_92 (by decide)
  have c_92 : ¬ (5 : Int32) = 6 := of_decide_eq_true c_92
  refine wp_steps 2 (t' := (163, [some (.ref 84), some (.int (nI s)), some (.int (nI p)), some (.int sH), some (.int 5), some (.int (nI y)), some (.int hp), some (.int (nI (10 + y))), some (.int (nI p)), some (.int (mi 91 (10 * p + y))), some (.int 99), some (.int ((dnS (fiR CT (fun j => mi 100 (40 * s + j)) Z 5 y hp (twR mi c0 c1 c2) (puR mi p)) 100 (0, 0, -1)).1)), some (.int ((dnS (fiR CT (fun j => mi 100 (40 * s + j)) Z 5 y hp (twR mi c0 c1 c2) (puR mi p)) 100 (0, 0, -1)).2.1)), some (.int ((dnS (fiR CT (fun j => mi 100 (40 * s + j)) Z 5 y hp (twR mi c0 c1 c2) (puR mi p)) 100 (0, 0, -1)).2.2)), some (.int (-1))], [.int 5, .int 5], (HD, (aup m' 91 (10 * p + y) (mi 91 (10 * p + y))), x', mr))) rfl ?_
  refine wp_bC rfl (fun c_93 => ?_) (fun c_93 => ?_)
  rotate_left
  · have c_93 : ¬ ((5 : Int32) = 5) := of_decide_eq_false c_93
    exact absurd c_93 (by decide)
  have c_93 : (5 : Int32) = 5 := of_decide_eq_true c_93
  refine wp_steps 2 (t' := (170, [some (.ref 84), some (.int (nI s)), some (.int (nI p)), some (.int sH), some (.int 5), some (.int (nI y)), some (.int hp), some (.int (nI (10 + y))), some (.int (nI p)), some (.int (mi 91 (10 * p + y))), some (.int 99), some (.int ((dnS (fiR CT (fun j => mi 100 (40 * s + j)) Z 5 y hp (twR mi c0 c1 c2) (puR mi p)) 100 (0, 0, -1)).1)), some (.int ((dnS (fiR CT (fun j => mi 100 (40 * s + j)) Z 5 y hp (twR mi c0 c1 c2) (puR mi p)) 100 (0, 0, -1)).2.1)), some (.int ((dnS (fiR CT (fun j => mi 100 (40 * s + j)) Z 5 y hp (twR mi c0 c1 c2) (puR mi p)) 100 (0, 0, -1)).2.2)), some (.int (-1))], [.int ((dnS (fiR CT (fun j => mi 100 (40 * s + j)) Z 5 y hp (twR mi c0 c1 c2) (puR mi p)) 100 (0, 0, -1)).2.2)], (HD, (aup m' 91 (10 * p + y) (mi 91 (10 * p + y))), x', mr))) rfl ?_
  refine wp_ret rfl rfl ⟨⟨Nat.le_refl _, Nat.le_refl _⟩, ?_⟩
  refine ⟨?_, _, _, rfl, frG.bk h4 rfl⟩
  rw [show tlV 5 (tlL (fiR CT (fun j => mi 100 (40 * s + j)) Z 5 y hp (twR mi c0 c1 c2) (puR mi p)) 100 0 (-1, 0, 0, -1)) = (tlL (fiR CT (fun j => mi 100 (40 * s + j)) Z 5 y hp (twR mi c0 c1 c2) (puR mi p)) 100 0 (-1, 0, 0, -1)).2.2.2 from rfl, (tl_dn (F := (fiR CT (fun j => mi 100 (40 * s + j)) Z 5 y hp (twR mi c0 c1 c2) (puR mi p))) (g := 100) (a0 := -1) (by first | omega | decide)).2.2]
set_option maxRecDepth 20000 in
set_option maxHeartbeats 1000000 in
theorem r_tells_g6 {X : aXt × Value} {mi : Nat → Nat → Int32} {ml : Nat → Nat → Int64} {mr : Nat → Nat → Option Nat} (hM : MRok mr) {N : Nat} (hN : mi 84 12 = nI N) (hN5 : N ≤ 5) {c0 c1 c2 : List Int32} (hR : RUX mi c0 c1 c2) {p : Nat} (hpN : p < N) (hok : okU (puR mi p)) {s Z : Nat} (hs4 : s < 4) (hz : mi 99 s = nI Z) (hZ : Z ≤ 40) {sH : Int32} (hS : shG sH = true) (hT : mi 97 s = 1) {y : Nat} (hy8 : y < 8) (hy : sH / 10 = nI y) {hp : Int32} (hh : sH - sH / 10 * 10 = hp) {CT : cT} : aCW X 50 201 [.ref 84, .int (nI s), .int (nI p), .int sH, .int 6] (HD, mi, ml, mr) (qR mi mr (.int (tlV 6 (tlL (fiR CT (fun j => mi 100 (40 * s + j)) Z 6 y hp (twR mi c0 c1 c2) (puR mi p)) 100 0 (-1, 0, 0, -1))))) := by
  have hp5 : p < 5 := by omega
  refine cw_of (cd := cd_X7_tells) (nL := 15) rfl rfl ?_
  show aWP _ _ (0, [some (.ref 84), some (.int (nI s)), some (.int (nI p)), some (.int sH), some (.int 6), none, none, none, none, none, none, none, none, none, none], [], (HD, mi, ml, mr)) _
  refine wp_steps 1 (t' := (1, [some (.ref 84), some (.int (nI s)), some (.int (nI p)), some (.int sH), some (.int 6), none, none, none, none, none, none, none, none, none, none], [.int (nI s)], (HD, mi, ml, mr))) rfl ?_
  refine wp_cal (as := [.int (nI s)]) rfl rfl rfl (Nat.le_of_ble_eq_true rfl) ((c_isSheet_n (ml := ml) (mr := mr) hs4)) (by decide) ?_
  rintro _ _ ⟨rfl, rfl⟩
  show aWP _ _ (2, [some (.ref 84), some (.int (nI s)), some (.int (nI p)), some (.int sH), some (.int 6), none, none, none, none, none, none, none, none, none, none], [.int 1], (HD, mi, ml, mr)) _
  refine wp_bI rfl (fun c_1 => ?_) (fun c_1 => ?_)
  · have c_1 : (1 : Int32) = 0 := of_decide_eq_true c_1
    exact absurd c_1 (by decide)
  have c_1 : ¬ ((1 : Int32) = 0) := of_decide_eq_false c_1
  refine wp_steps 2 (t' := (5, [some (.ref 84), some (.int (nI s)), some (.int (nI p)), some (.int sH), some (.int 6), none, none, none, none, none, none, none, none, none, none], [.int (nI p), .ref 84], (HD, mi, ml, mr))) rfl ?_
  refine wp_calv (as := [.int (nI p)]) rfl rfl rfl (Nat.le_of_ble_eq_true rfl) ⟨by decide, rfl⟩ ((c_isOne_ok (mi := mi) (ml := ml) hM hN hN5 hpN)) (by decide) ?_
  rintro _ _ ⟨rfl, rfl⟩
  show aWP _ _ (6, [some (.ref 84), some (.int (nI s)), some (.int (nI p)), some (.int sH), some (.int 6), none, none, none, none, none, none, none, none, none, none], [.int 1], (HD, mi, ml, mr)) _
  refine wp_bI rfl (fun c_2 => ?_) (fun c_2 => ?_)
  · have c_2 : (1 : Int32) = 0 := of_decide_eq_true c_2
    exact absurd c_2 (by decide)
  have c_2 : ¬ ((1 : Int32) = 0) := of_decide_eq_false c_2
  refine wp_steps 1 (t' := (8, [some (.ref 84), some (.int (nI s)), some (.int (nI p)), some (.int sH), some (.int 6), none, none, none, none, none, none, none, none, none, none], [.int sH], (HD, mi, ml, mr))) rfl ?_
  refine wp_cal (as := [.int sH]) rfl rfl rfl (Nat.le_of_ble_eq_true rfl) (c_rSH) (by decide) ?_
  rintro _ _ ⟨rfl, rfl⟩
  rw [if_pos hS]
  show aWP _ _ (9, [some (.ref 84), some (.int (nI s)), some (.int (nI p)), some (.int sH), some (.int 6), none, none, none, none, none, none, none, none, none, none], [.int 1], (HD, mi, ml, mr)) _
  refine wp_bI rfl (fun c_3 => ?_) (fun c_3 => ?_)
  · have c_3 : (1 : Int32) = 0 := of_decide_eq_true c_3
    exact absurd c_3 (by decide)
  have c_3 : ¬ ((1 : Int32) = 0) := of_decide_eq_false c_3
  refine wp_steps 4 (t' := (14, [some (.ref 84), some (.int (nI s)), some (.int (nI p)), some (.int sH), some (.int 6), none, none, none, none, none, none, none, none, none, none], [.long 8, .long 0, .long ((6 : Int32).toInt64)], (HD, mi, ml, mr))) rfl ?_
  refine wp_cal (as := [.long ((6 : Int32).toInt64), .long 0, .long 8]) rfl rfl rfl (Nat.le_of_ble_eq_true rfl) ((c_in (x := 6) (lo := 0) (hi := 8) (by decide) (by decide) (by decide))) (by decide) ?_
  rintro _ _ ⟨rfl, rfl⟩
  rw [if_pos (by decide)]
  show aWP _ _ (15, [some (.ref 84), some (.int (nI s)), some (.int (nI p)), some (.int sH), some (.int 6), none, none, none, none, none, none, none, none, none, none], [.int 1], (HD, mi, ml, mr)) _
  refine wp_bI rfl (fun c_4 => ?_) (fun c_4 => ?_)
  rotate_left
  · have c_4 : (1 : Int32) = 0 := Decidable.not_not.mp (of_decide_eq_false c_4)
    exact absurd c_4 (by decide)
  have c_4 : ¬ (1 : Int32) = 0 := of_decide_eq_true c_4
  refine wp_steps 1 (t' := (19, [some (.ref 84), some (.int (nI s)), some (.int (nI p)), some (.int sH), some (.int 6), none, none, none, none, none, none, none, none, none, none], [.ref 84], (HD, mi, ml, mr))) rfl ?_
  refine wp_getr rfl ⟨by decide, rfl⟩ rfl (hM (84, 37, 97) (by decide)) ?_
  refine wp_steps 1 (t' := (21, [some (.ref 84), some (.int (nI s)), some (.int (nI p)), some (.int sH), some (.int 6), none, none, none, none, none, none, none, none, none, none], [.int (nI s), .ref 97], (HD, mi, ml, mr))) rfl ?_
  refine wp_zald rfl ⟨by decide, rfl⟩ (aix_nI hs4 (by decide)) ?_
  rw [nI_clamp (n := s) (by omega)]
  rw [show mi 97 s = 1 from hT]
  refine wp_bI rfl (fun c_5 => ?_) (fun c_5 => ?_)
  rotate_left
  · have c_5 : (1 : Int32) = 0 := Decidable.not_not.mp (of_decide_eq_false c_5)
    exact absurd c_5 (by decide)
  have c_5 : ¬ (1 : Int32) = 0 := of_decide_eq_true c_5
  refine wp_steps 3 (t' := (28, [some (.ref 84), some (.int (nI s)), some (.int (nI p)), some (.int sH), some (.int 6), none, none, none, none, none, none, none, none, none, none], [.int (sH / 10)], (HD, mi, ml, mr))) rfl ?_
  rw [hy]
  refine wp_steps 4 (t' := (32, [some (.ref 84), some (.int (nI s)), some (.int (nI p)), some (.int sH), some (.int 6), some (.int (nI y)), none, none, none, none, none, none, none, none, none], [.int (sH - sH / 10 * 10)], (HD, mi, ml, mr))) rfl ?_
  rw [hh]
  refine wp_steps 2 (t' := (34, [some (.ref 84), some (.int (nI s)), some (.int (nI p)), some (.int sH), some (.int 6), some (.int (nI y)), some (.int hp), none, none, none, none, none, none, none, none], [.int 6], (HD, mi, ml, mr))) rfl ?_
  refine wp_bI rfl (fun c_6 => ?_) (fun c_6 => ?_)
  rotate_left
  · have c_6 : (6 : Int32) = 0 := Decidable.not_not.mp (of_decide_eq_false c_6)
    exact absurd c_6 (by decide)
  have c_6 : ¬ (6 : Int32) = 0 := of_decide_eq_true c_6
  refine wp_steps 2 (t' := (44, [some (.ref 84), some (.int (nI s)), some (.int (nI p)), some (.int sH), some (.int 6), some (.int (nI y)), some (.int hp), none, none, none, none, none, none, none, none], [.int 3, .int 6], (HD, mi, ml, mr))) rfl ?_
  refine wp_bC rfl (fun c_7 => ?_) (fun c_7 => ?_)
  rotate_left
  · have c_7 : (6 : Int32) = 3 := Decidable.not_not.mp (of_decide_eq_false c_7)
    exact absurd c_7 (by decide)
  have c_7 : ¬ (6 : Int32) = 3 := of_decide_eq_true c_7
  refine wp_steps 2 (t' := (53, [some (.ref 84), some (.int (nI s)), some (.int (nI p)), some (.int sH), some (.int 6), some (.int (nI y)), some (.int hp), none, none, none, none, none, none, none, none], [.int 1, .int 6], (HD, mi, ml, mr))) rfl ?_
  refine wp_bC rfl (fun c_8 => ?_) (fun c_8 => ?_)
  rotate_left
  · have c_8 : (6 : Int32) = 1 := Decidable.not_not.mp (of_decide_eq_false c_8)
    exact absurd c_8 (by decide)
  have c_8 : ¬ (6 : Int32) = 1 := of_decide_eq_true c_8
  refine wp_steps 2 (t' := (58, [some (.ref 84), some (.int (nI s)), some (.int (nI p)), some (.int sH), some (.int 6), some (.int (nI y)), some (.int hp), none, none, none, none, none, none, none, none], [.int 2, .int 6], (HD, mi, ml, mr))) rfl ?_
  refine wp_bC rfl (fun c_9 => ?_) (fun c_9 => ?_)
  rotate_left
  · have c_9 : (6 : Int32) = 2 := Decidable.not_not.mp (of_decide_eq_false c_9)
    exact absurd c_9 (by decide)
  have c_9 : ¬ (6 : Int32) = 2 := of_decide_eq_true c_9
  refine wp_steps 2 (t' := (63, [some (.ref 84), some (.int (nI s)), some (.int (nI p)), some (.int sH), some (.int 6), some (.int (nI y)), some (.int hp), none, none, none, none, none, none, none, none], [.int 6, .int 6], (HD, mi, ml, mr))) rfl ?_
  refine wp_bC rfl (fun c_10 => ?_) (fun c_10 => ?_)
  rotate_left
  · have c_10 : ¬ (6 ≤ (6 : Int32)) := of_decide_eq_false c_10
    exact absurd c_10 (by decide)
  have c_10 : 6 ≤ (6 : Int32) := of_decide_eq_true c_10
  refine wp_steps 2 (t' := (70, [some (.ref 84), some (.int (nI s)), some (.int (nI p)), some (.int sH), some (.int 6), some (.int (nI y)), some (.int hp), none, none, none, none, none, none, none, none], [.int 8, .int 6], (HD, mi, ml, mr))) rfl ?_
  refine wp_bC rfl (fun c_11 => ?_) (fun c_11 => ?_)
  · have c_11 : 8 ≤ (6 : Int32) := of_decide_eq_true c_11
    exact absurd c_11 (by decide)
  have c_11 : ¬ (8 ≤ (6 : Int32)) := of_decide_eq_false c_11
  refine wp_steps 5 (t' := (77, [some (.ref 84), some (.int (nI s)), some (.int (nI p)), some (.int sH), some (.int 6), some (.int (nI y)), some (.int hp), some (.int 1), none, none, none, none, none, none, none], [.int 1, .int 1], (HD, mi, ml, mr))) rfl ?_
  refine wp_bC rfl (fun c_12 => ?_) (fun c_12 => ?_)
  · have c_12 : ¬ (1 : Int32) = 1 := of_decide_eq_true c_12
    exact absurd c_12 (by decide)
  have c_12 : (1 : Int32) = 1 := Decidable.not_not.mp (of_decide_eq_false c_12)
  refine wp_steps 5 (t' := (84, [some (.ref 84), some (.int (nI s)), some (.int (nI p)), some (.int sH), some (.int 6), some (.int (nI y)), some (.int hp), some (.int 1), some (.int (nI y)), none, none, none, none, none, none], [.int 6, .int 1], (HD, mi, ml, mr))) rfl ?_
  refine wp_bC rfl (fun c_13 => ?_) (fun c_13 => ?_)
  rotate_left
  · have c_13 : (1 : Int32) = 6 := Decidable.not_not.mp (of_decide_eq_false c_13)
    exact absurd c_13 (by decide)
  have c_13 : ¬ (1 : Int32) = 6 := of_decide_eq_true c_13
  refine wp_steps 3 (t' := (91, [some (.ref 84), some (.int (nI s)), some (.int (nI p)), some (.int sH), some (.int 6), some (.int (nI y)), some (.int hp), some (.int 1), some (.int (nI y)), none, none, none, none, none, none], [.int 1, .int (nI y), .ref 84], (HD, mi, ml, mr))) rfl ?_
  refine wp_calv (as := [.int (nI y), .int 1]) rfl rfl rfl (Nat.le_of_ble_eq_true rfl) ⟨by decide, rfl⟩ ((q_told_1 (ml := ml) hM (one := nI y))) (by decide) ?_
  rintro _ _ ⟨rfl, m_1, w_1, rfl, f1⟩
  rw [if_pos (aix_nI hy8 (by decide)), nI_clamp (n := y) (by omega)]
  show aWP _ _ (92, [some (.ref 84), some (.int (nI s)), some (.int (nI p)), some (.int sH), some (.int 6), some (.int (nI y)), some (.int hp), some (.int 1), some (.int (nI y)), none, none, none, none, none, none], [.int (mi 88 y)], (HD, m_1, w_1, mr)) _
  refine wp_steps 3 (t' := (95, [some (.ref 84), some (.int (nI s)), some (.int (nI p)), some (.int sH), some (.int 6), some (.int (nI y)), some (.int hp), some (.int 1), some (.int (nI y)), some (.int (mi 88 y)), none, none, none, none, none], [.int 6, .int 1], (HD, m_1, w_1, mr))) rfl ?_
  refine wp_bC rfl (fun c_14 => ?_) (fun c_14 => ?_)
  rotate_left
  · have c_14 : (1 : Int32) = 6 := Decidable.not_not.mp (of_decide_eq_false c_14)
    exact absurd c_14 (by decide)
  have c_14 : ¬ (1 : Int32) = 6 := of_decide_eq_true c_14
  refine wp_steps 2 (t' := (103, [some (.ref 84), some (.int (nI s)), some (.int (nI p)), some (.int sH), some (.int 6), some (.int (nI y)), some (.int hp), some (.int 1), some (.int (nI y)), some (.int (mi 88 y)), none, none, none, none, none], [.int 5, .int 1], (HD, m_1, w_1, mr))) rfl ?_
  refine wp_bC rfl (fun c_15 => ?_) (fun c_15 => ?_)
  rotate_left
  · have c_15 : (1 : Int32) = 5 := Decidable.not_not.mp (of_decide_eq_false c_15)
    exact absurd c_15 (by decide)
  have c_15 : ¬ (1 : Int32) = 5 := of_decide_eq_true c_15
  refine wp_steps 1 (t' := (107, [some (.ref 84), some (.int (nI s)), some (.int (nI p)), some (.int sH), some (.int 6), some (.int (nI y)), some (.int hp), some (.int 1), some (.int (nI y)), some (.int (mi 88 y)), none, none, none, none, none], [.int 1], (HD, m_1, w_1, mr))) rfl ?_
  refine wp_cal (as := [.int 1]) rfl rfl rfl (Nat.le_of_ble_eq_true rfl) ((c_rmost_1 (mi := m_1) (ml := w_1) (mr := mr))) (by decide) ?_
  rintro _ _ ⟨rfl, rfl⟩
  show aWP _ _ (108, [some (.ref 84), some (.int (nI s)), some (.int (nI p)), some (.int sH), some (.int 6), some (.int (nI y)), some (.int hp), some (.int 1), some (.int (nI y)), some (.int (mi 88 y)), none, none, none, none, none], [.int 99], (HD, m_1, w_1, mr)) _
  refine wp_steps 9 (t' := (117, [some (.ref 84), some (.int (nI s)), some (.int (nI p)), some (.int sH), some (.int 6), some (.int (nI y)), some (.int hp), some (.int 1), some (.int (nI y)), some (.int (mi 88 y)), some (.int 99), some (.int 0), some (.int 0), some (.int (-1)), some (.int 99)], [], (HD, m_1, w_1, mr))) rfl ?_
  show aWP _ _ (117, [some (.ref 84), some (.int (nI s)), some (.int (nI p)), some (.int sH), some (.int 6), some (.int (nI y)), some (.int hp), some (.int 1), some (.int (nI y)), some (.int (mi 88 y)), some (.int 99), some (.int 0), some (.int 0), some (.int (-1)), some (.int (nI 100 - 1))], [], (HD, m_1, w_1, mr)) _
  refine l_rtells (a := 88) (b := y) hM (fun m x v => r_lays_1 (mi := m) (ml := x) hM hy8) (F := (fiR CT (fun j => mi 100 (40 * s + j)) Z 6 y hp (twR mi c0 c1 c2) (puR mi p))) (G := 100) (by first | omega | decide) (fun m x k hk f e => hF_6 hM hR hp5 hok hs4 hz hZ hy8 hk f e) 100 (0, 0, -1) m_1 w_1 (Nat.le_refl _) f1.G (fun m' x' h4 => ?_)
  refine wp_steps 4 (t' := (152, [some (.ref 84), some (.int (nI s)), some (.int (nI p)), some (.int sH), some (.int 6), some (.int (nI y)), some (.int hp), some (.int 1), some (.int (nI y)), some (.int (mi 88 y)), some (.int 99), some (.int ((dnS (fiR CT (fun j => mi 100 (40 * s + j)) Z 6 y hp (twR mi c0 c1 c2) (puR mi p)) 100 (0, 0, -1)).1)), some (.int ((dnS (fiR CT (fun j => mi 100 (40 * s + j)) Z 6 y hp (twR mi c0 c1 c2) (puR mi p)) 100 (0, 0, -1)).2.1)), some (.int ((dnS (fiR CT (fun j => mi 100 (40 * s + j)) Z 6 y hp (twR mi c0 c1 c2) (puR mi p)) 100 (0, 0, -1)).2.2)), some (.int (-1))], [.int (mi 88 y), .int (nI y), .int 1, .ref 84], (HD, m', x', mr))) rfl ?_
  refine wp_calv (as := [.int 1, .int (nI y), .int (mi 88 y)]) rfl rfl rfl (Nat.le_of_ble_eq_true rfl) ⟨by decide, rfl⟩ ((r_lays_1 (mi := m') (ml := x') hM hy8)) (by decide) ?_
  rintro _ _ ⟨rfl, rfl⟩
  show aWP _ _ (153, [some (.ref 84), some (.int (nI s)), some (.int (nI p)), some (.int sH), some (.int 6), some (.int (nI y)), some (.int hp), some (.int 1), some (.int (nI y)), some (.int (mi 88 y)), some (.int 99), some (.int ((dnS (fiR CT (fun j => mi 100 (40 * s + j)) Z 6 y hp (twR mi c0 c1 c2) (puR mi p)) 100 (0, 0, -1)).1)), some (.int ((dnS (fiR CT (fun j => mi 100 (40 * s + j)) Z 6 y hp (twR mi c0 c1 c2) (puR mi p)) 100 (0, 0, -1)).2.1)), some (.int ((dnS (fiR CT (fun j => mi 100 (40 * s + j)) Z 6 y hp (twR mi c0 c1 c2) (puR mi p)) 100 (0, 0, -1)).2.2)), some (.int (-1))], [], (HD, (aup m' 88 y (mi 88 y)), x', mr)) _
  refine wp_steps 2 (t' := (155, [some (.ref 84), some (.int (nI s)), some (.int (nI p)), some (.int sH), some (.int 6), some (.int (nI y)), some (.int hp), some (.int 1), some (.int (nI y)), some (.int (mi 88 y)), some (.int 99), some (.int ((dnS (fiR CT (fun j => mi 100 (40 * s + j)) Z 6 y hp (twR mi c0 c1 c2) (puR mi p)) 100 (0, 0, -1)).1)), some (.int ((dnS (fiR CT (fun j => mi 100 (40 * s + j)) Z 6 y hp (twR mi c0 c1 c2) (puR mi p)) 100 (0, 0, -1)).2.1)), some (.int ((dnS (fiR CT (fun j => mi 100 (40 * s + j)) Z 6 y hp (twR mi c0 c1 c2) (puR mi p)) 100 (0, 0, -1)).2.2)), some (.int (-1))], [.int 4, .int 6], (HD, (aup m' 88 y (mi 88 y)), x', mr))) rfl ?_
  refine wp_bC rfl (fun c_91 => ?_) (fun c_91 => ?_)
  · have c_91 : (6 : Int32) = 4 := of_decide_eq_true c_91
    exact absurd c_91 (by decide)
  have c_91 : ¬ ((6 : Int32) = 4) := of_decide_eq_false c_91
  refine wp_steps 2 (t' := (158, [some (.ref 84), some (.int (nI s)), some (.int (nI p)), some (.int sH), some (.int 6), some (.int (nI y)), some (.int hp), some (.int 1), some (.int (nI y)), some (.int (mi 88 y)), some (.int 99), some (.int ((dnS (fiR CT (fun j => mi 100 (40 * s + j)) Z 6 y hp (twR mi c0 c1 c2) (puR mi p)) 100 (0, 0, -1)).1)), some (.int ((dnS (fiR CT (fun j => mi 100 (40 * s + j)) Z 6 y hp (twR mi c0 c1 c2) (puR mi p)) 100 (0, 0, -1)).2.1)), some (.int ((dnS (fiR CT (fun j => mi 100 (40 * s + j)) Z 6 y hp (twR mi c0 c1 c2) (puR mi p)) 100 (0, 0, -1)).2.2)), some (.int (-1))], [.int 6, .int 6], (HD, (aup m' 88 y (mi 88 y)), x', mr))) rfl ?_
  refine wp_bC rfl (fun c_92 => ?_) (fun c_92 => ?_)
  · have c_92 : ¬ (6 : Int32) = 6 := of_decide_eq_true c_92
    exact absurd c_92 (by decide)
  have c_92 : (6 : Int32) = 6 := Decidable.not_not.mp (of_decide_eq_false c_92)
  refine wp_steps 2 (t' := (170, [some (.ref 84), some (.int (nI s)), some (.int (nI p)), some (.int sH), some (.int 6), some (.int (nI y)), some (.int hp), some (.int 1), some (.int (nI y)), some (.int (mi 88 y)), some (.int 99), some (.int ((dnS (fiR CT (fun j => mi 100 (40 * s + j)) Z 6 y hp (twR mi c0 c1 c2) (puR mi p)) 100 (0, 0, -1)).1)), some (.int ((dnS (fiR CT (fun j => mi 100 (40 * s + j)) Z 6 y hp (twR mi c0 c1 c2) (puR mi p)) 100 (0, 0, -1)).2.1)), some (.int ((dnS (fiR CT (fun j => mi 100 (40 * s + j)) Z 6 y hp (twR mi c0 c1 c2) (puR mi p)) 100 (0, 0, -1)).2.2)), some (.int (-1))], [.int ((dnS (fiR CT (fun j => mi 100 (40 * s + j)) Z 6 y hp (twR mi c0 c1 c2) (puR mi p)) 100 (0, 0, -1)).2.1)], (HD, (aup m' 88 y (mi 88 y)), x', mr))) rfl ?_
  refine wp_ret rfl rfl ⟨⟨Nat.le_refl _, Nat.le_refl _⟩, ?_⟩
  refine ⟨?_, _, _, rfl, frG.bk h4 rfl⟩
  rw [show tlV 6 (tlL (fiR CT (fun j => mi 100 (40 * s + j)) Z 6 y hp (twR mi c0 c1 c2) (puR mi p)) 100 0 (-1, 0, 0, -1)) = (tlL (fiR CT (fun j => mi 100 (40 * s + j)) Z 6 y hp (twR mi c0 c1 c2) (puR mi p)) 100 0 (-1, 0, 0, -1)).2.2.1 from rfl, (tl_dn (F := (fiR CT (fun j => mi 100 (40 * s + j)) Z 6 y hp (twR mi c0 c1 c2) (puR mi p))) (g := 100) (a0 := -1) (by first | omega | decide)).2.1]
set_option maxRecDepth 20000 in
set_option maxHeartbeats 1000000 in
theorem r_tells_g7 {X : aXt × Value} {mi : Nat → Nat → Int32} {ml : Nat → Nat → Int64} {mr : Nat → Nat → Option Nat} (hM : MRok mr) {N : Nat} (hN : mi 84 12 = nI N) (hN5 : N ≤ 5) {c0 c1 c2 : List Int32} (hR : RUX mi c0 c1 c2) {p : Nat} (hpN : p < N) (hok : okU (puR mi p)) {s Z : Nat} (hs4 : s < 4) (hz : mi 99 s = nI Z) (hZ : Z ≤ 40) {sH : Int32} (hS : shG sH = true) (hT : mi 97 s = 1) {y : Nat} (hy8 : y < 8) (hy : sH / 10 = nI y) {hp : Int32} (hh : sH - sH / 10 * 10 = hp) {CT : cT} : aCW X 50 201 [.ref 84, .int (nI s), .int (nI p), .int sH, .int 7] (HD, mi, ml, mr) (qR mi mr (.int (tlV 7 (tlL (fiR CT (fun j => mi 100 (40 * s + j)) Z 7 y hp (twR mi c0 c1 c2) (puR mi p)) 100 0 (-1, 0, 0, -1))))) := by
  have hp5 : p < 5 := by omega
  refine cw_of (cd := cd_X7_tells) (nL := 15) rfl rfl ?_
  show aWP _ _ (0, [some (.ref 84), some (.int (nI s)), some (.int (nI p)), some (.int sH), some (.int 7), none, none, none, none, none, none, none, none, none, none], [], (HD, mi, ml, mr)) _
  refine wp_steps 1 (t' := (1, [some (.ref 84), some (.int (nI s)), some (.int (nI p)), some (.int sH), some (.int 7), none, none, none, none, none, none, none, none, none, none], [.int (nI s)], (HD, mi, ml, mr))) rfl ?_
  refine wp_cal (as := [.int (nI s)]) rfl rfl rfl (Nat.le_of_ble_eq_true rfl) ((c_isSheet_n (ml := ml) (mr := mr) hs4)) (by decide) ?_
  rintro _ _ ⟨rfl, rfl⟩
  show aWP _ _ (2, [some (.ref 84), some (.int (nI s)), some (.int (nI p)), some (.int sH), some (.int 7), none, none, none, none, none, none, none, none, none, none], [.int 1], (HD, mi, ml, mr)) _
  refine wp_bI rfl (fun c_1 => ?_) (fun c_1 => ?_)
  · have c_1 : (1 : Int32) = 0 := of_decide_eq_true c_1
    exact absurd c_1 (by decide)
  have c_1 : ¬ ((1 : Int32) = 0) := of_decide_eq_false c_1
  refine wp_steps 2 (t' := (5, [some (.ref 84), some (.int (nI s)), some (.int (nI p)), some (.int sH), some (.int 7), none, none, none, none, none, none, none, none, none, none], [.int (nI p), .ref 84], (HD, mi, ml, mr))) rfl ?_
  refine wp_calv (as := [.int (nI p)]) rfl rfl rfl (Nat.le_of_ble_eq_true rfl) ⟨by decide, rfl⟩ ((c_isOne_ok (mi := mi) (ml := ml) hM hN hN5 hpN)) (by decide) ?_
  rintro _ _ ⟨rfl, rfl⟩
  show aWP _ _ (6, [some (.ref 84), some (.int (nI s)), some (.int (nI p)), some (.int sH), some (.int 7), none, none, none, none, none, none, none, none, none, none], [.int 1], (HD, mi, ml, mr)) _
  refine wp_bI rfl (fun c_2 => ?_) (fun c_2 => ?_)
  · have c_2 : (1 : Int32) = 0 := of_decide_eq_true c_2
    exact absurd c_2 (by decide)
  have c_2 : ¬ ((1 : Int32) = 0) := of_decide_eq_false c_2
  refine wp_steps 1 (t' := (8, [some (.ref 84), some (.int (nI s)), some (.int (nI p)), some (.int sH), some (.int 7), none, none, none, none, none, none, none, none, none, none], [.int sH], (HD, mi, ml, mr))) rfl ?_
  refine wp_cal (as := [.int sH]) rfl rfl rfl (Nat.le_of_ble_eq_true rfl) (c_rSH) (by decide) ?_
  rintro _ _ ⟨rfl, rfl⟩
  rw [if_pos hS]
  show aWP _ _ (9, [some (.ref 84), some (.int (nI s)), some (.int (nI p)), some (.int sH), some (.int 7), none, none, none, none, none, none, none, none, none, none], [.int 1], (HD, mi, ml, mr)) _
  refine wp_bI rfl (fun c_3 => ?_) (fun c_3 => ?_)
  · have c_3 : (1 : Int32) = 0 := of_decide_eq_true c_3
    exact absurd c_3 (by decide)
  have c_3 : ¬ ((1 : Int32) = 0) := of_decide_eq_false c_3
  refine wp_steps 4 (t' := (14, [some (.ref 84), some (.int (nI s)), some (.int (nI p)), some (.int sH), some (.int 7), none, none, none, none, none, none, none, none, none, none], [.long 8, .long 0, .long ((7 : Int32).toInt64)], (HD, mi, ml, mr))) rfl ?_
  refine wp_cal (as := [.long ((7 : Int32).toInt64), .long 0, .long 8]) rfl rfl rfl (Nat.le_of_ble_eq_true rfl) ((c_in (x := 7) (lo := 0) (hi := 8) (by decide) (by decide) (by decide))) (by decide) ?_
  rintro _ _ ⟨rfl, rfl⟩
  rw [if_pos (by decide)]
  show aWP _ _ (15, [some (.ref 84), some (.int (nI s)), some (.int (nI p)), some (.int sH), some (.int 7), none, none, none, none, none, none, none, none, none, none], [.int 1], (HD, mi, ml, mr)) _
  refine wp_bI rfl (fun c_4 => ?_) (fun c_4 => ?_)
  rotate_left
  · have c_4 : (1 : Int32) = 0 := Decidable.not_not.mp (of_decide_eq_false c_4)
    exact absurd c_4 (by decide)
  have c_4 : ¬ (1 : Int32) = 0 := of_decide_eq_true c_4
  refine wp_steps 1 (t' := (19, [some (.ref 84), some (.int (nI s)), some (.int (nI p)), some (.int sH), some (.int 7), none, none, none, none, none, none, none, none, none, none], [.ref 84], (HD, mi, ml, mr))) rfl ?_
  refine wp_getr rfl ⟨by decide, rfl⟩ rfl (hM (84, 37, 97) (by decide)) ?_
  refine wp_steps 1 (t' := (21, [some (.ref 84), some (.int (nI s)), some (.int (nI p)), some (.int sH), some (.int 7), none, none, none, none, none, none, none, none, none, none], [.int (nI s), .ref 97], (HD, mi, ml, mr))) rfl ?_
  refine wp_zald rfl ⟨by decide, rfl⟩ (aix_nI hs4 (by decide)) ?_
  rw [nI_clamp (n := s) (by omega)]
  rw [show mi 97 s = 1 from hT]
  refine wp_bI rfl (fun c_5 => ?_) (fun c_5 => ?_)
  rotate_left
  · have c_5 : (1 : Int32) = 0 := Decidable.not_not.mp (of_decide_eq_false c_5)
    exact absurd c_5 (by decide)
  have c_5 : ¬ (1 : Int32) = 0 := of_decide_eq_true c_5
  refine wp_steps 3 (t' := (28, [some (.ref 84), some (.int (nI s)), some (.int (nI p)), some (.int sH), some (.int 7), none, none, none, none, none, none, none, none, none, none], [.int (sH / 10)], (HD, mi, ml, mr))) rfl ?_
  rw [hy]
  refine wp_steps 4 (t' := (32, [some (.ref 84), some (.int (nI s)), some (.int (nI p)), some (.int sH), some (.int 7), some (.int (nI y)), none, none, none, none, none, none, none, none, none], [.int (sH - sH / 10 * 10)], (HD, mi, ml, mr))) rfl ?_
  rw [hh]
  refine wp_steps 2 (t' := (34, [some (.ref 84), some (.int (nI s)), some (.int (nI p)), some (.int sH), some (.int 7), some (.int (nI y)), some (.int hp), none, none, none, none, none, none, none, none], [.int 7], (HD, mi, ml, mr))) rfl ?_
  refine wp_bI rfl (fun c_6 => ?_) (fun c_6 => ?_)
  rotate_left
  · have c_6 : (7 : Int32) = 0 := Decidable.not_not.mp (of_decide_eq_false c_6)
    exact absurd c_6 (by decide)
  have c_6 : ¬ (7 : Int32) = 0 := of_decide_eq_true c_6
  refine wp_steps 2 (t' := (44, [some (.ref 84), some (.int (nI s)), some (.int (nI p)), some (.int sH), some (.int 7), some (.int (nI y)), some (.int hp), none, none, none, none, none, none, none, none], [.int 3, .int 7], (HD, mi, ml, mr))) rfl ?_
  refine wp_bC rfl (fun c_7 => ?_) (fun c_7 => ?_)
  rotate_left
  · have c_7 : (7 : Int32) = 3 := Decidable.not_not.mp (of_decide_eq_false c_7)
    exact absurd c_7 (by decide)
  have c_7 : ¬ (7 : Int32) = 3 := of_decide_eq_true c_7
  refine wp_steps 2 (t' := (53, [some (.ref 84), some (.int (nI s)), some (.int (nI p)), some (.int sH), some (.int 7), some (.int (nI y)), some (.int hp), none, none, none, none, none, none, none, none], [.int 1, .int 7], (HD, mi, ml, mr))) rfl ?_
  refine wp_bC rfl (fun c_8 => ?_) (fun c_8 => ?_)
  rotate_left
  · have c_8 : (7 : Int32) = 1 := Decidable.not_not.mp (of_decide_eq_false c_8)
    exact absurd c_8 (by decide)
  have c_8 : ¬ (7 : Int32) = 1 := of_decide_eq_true c_8
  refine wp_steps 2 (t' := (58, [some (.ref 84), some (.int (nI s)), some (.int (nI p)), some (.int sH), some (.int 7), some (.int (nI y)), some (.int hp), none, none, none, none, none, none, none, none], [.int 2, .int 7], (HD, mi, ml, mr))) rfl ?_
  refine wp_bC rfl (fun c_9 => ?_) (fun c_9 => ?_)
  rotate_left
  · have c_9 : (7 : Int32) = 2 := Decidable.not_not.mp (of_decide_eq_false c_9)
    exact absurd c_9 (by decide)
  have c_9 : ¬ (7 : Int32) = 2 := of_decide_eq_true c_9
  refine wp_steps 2 (t' := (63, [some (.ref 84), some (.int (nI s)), some (.int (nI p)), some (.int sH), some (.int 7), some (.int (nI y)), some (.int hp), none, none, none, none, none, none, none, none], [.int 6, .int 7], (HD, mi, ml, mr))) rfl ?_
  refine wp_bC rfl (fun c_10 => ?_) (fun c_10 => ?_)
  rotate_left
  · have c_10 : ¬ (6 ≤ (7 : Int32)) := of_decide_eq_false c_10
    exact absurd c_10 (by decide)
  have c_10 : 6 ≤ (7 : Int32) := of_decide_eq_true c_10
  refine wp_steps 2 (t' := (70, [some (.ref 84), some (.int (nI s)), some (.int (nI p)), some (.int sH), some (.int 7), some (.int (nI y)), some (.int hp), none, none, none, none, none, none, none, none], [.int 8, .int 7], (HD, mi, ml, mr))) rfl ?_
  refine wp_bC rfl (fun c_11 => ?_) (fun c_11 => ?_)
  · have c_11 : 8 ≤ (7 : Int32) := of_decide_eq_true c_11
    exact absurd c_11 (by decide)
  have c_11 : ¬ (8 ≤ (7 : Int32)) := of_decide_eq_false c_11
  refine wp_steps 5 (t' := (77, [some (.ref 84), some (.int (nI s)), some (.int (nI p)), some (.int sH), some (.int 7), some (.int (nI y)), some (.int hp), some (.int 1), none, none, none, none, none, none, none], [.int 1, .int 1], (HD, mi, ml, mr))) rfl ?_
  refine wp_bC rfl (fun c_12 => ?_) (fun c_12 => ?_)
  · have c_12 : ¬ (1 : Int32) = 1 := of_decide_eq_true c_12
    exact absurd c_12 (by decide)
  have c_12 : (1 : Int32) = 1 := Decidable.not_not.mp (of_decide_eq_false c_12)
  refine wp_steps 5 (t' := (84, [some (.ref 84), some (.int (nI s)), some (.int (nI p)), some (.int sH), some (.int 7), some (.int (nI y)), some (.int hp), some (.int 1), some (.int (nI y)), none, none, none, none, none, none], [.int 6, .int 1], (HD, mi, ml, mr))) rfl ?_
  refine wp_bC rfl (fun c_13 => ?_) (fun c_13 => ?_)
  rotate_left
  · have c_13 : (1 : Int32) = 6 := Decidable.not_not.mp (of_decide_eq_false c_13)
    exact absurd c_13 (by decide)
  have c_13 : ¬ (1 : Int32) = 6 := of_decide_eq_true c_13
  refine wp_steps 3 (t' := (91, [some (.ref 84), some (.int (nI s)), some (.int (nI p)), some (.int sH), some (.int 7), some (.int (nI y)), some (.int hp), some (.int 1), some (.int (nI y)), none, none, none, none, none, none], [.int 1, .int (nI y), .ref 84], (HD, mi, ml, mr))) rfl ?_
  refine wp_calv (as := [.int (nI y), .int 1]) rfl rfl rfl (Nat.le_of_ble_eq_true rfl) ⟨by decide, rfl⟩ ((q_told_1 (ml := ml) hM (one := nI y))) (by decide) ?_
  rintro _ _ ⟨rfl, m_1, w_1, rfl, f1⟩
  rw [if_pos (aix_nI hy8 (by decide)), nI_clamp (n := y) (by omega)]
  show aWP _ _ (92, [some (.ref 84), some (.int (nI s)), some (.int (nI p)), some (.int sH), some (.int 7), some (.int (nI y)), some (.int hp), some (.int 1), some (.int (nI y)), none, none, none, none, none, none], [.int (mi 88 y)], (HD, m_1, w_1, mr)) _
  refine wp_steps 3 (t' := (95, [some (.ref 84), some (.int (nI s)), some (.int (nI p)), some (.int sH), some (.int 7), some (.int (nI y)), some (.int hp), some (.int 1), some (.int (nI y)), some (.int (mi 88 y)), none, none, none, none, none], [.int 6, .int 1], (HD, m_1, w_1, mr))) rfl ?_
  refine wp_bC rfl (fun c_14 => ?_) (fun c_14 => ?_)
  rotate_left
  · have c_14 : (1 : Int32) = 6 := Decidable.not_not.mp (of_decide_eq_false c_14)
    exact absurd c_14 (by decide)
  have c_14 : ¬ (1 : Int32) = 6 := of_decide_eq_true c_14
  refine wp_steps 2 (t' := (103, [some (.ref 84), some (.int (nI s)), some (.int (nI p)), some (.int sH), some (.int 7), some (.int (nI y)), some (.int hp), some (.int 1), some (.int (nI y)), some (.int (mi 88 y)), none, none, none, none, none], [.int 5, .int 1], (HD, m_1, w_1, mr))) rfl ?_
  refine wp_bC rfl (fun c_15 => ?_) (fun c_15 => ?_)
  rotate_left
  · have c_15 : (1 : Int32) = 5 := Decidable.not_not.mp (of_decide_eq_false c_15)
    exact absurd c_15 (by decide)
  have c_15 : ¬ (1 : Int32) = 5 := of_decide_eq_true c_15
  refine wp_steps 1 (t' := (107, [some (.ref 84), some (.int (nI s)), some (.int (nI p)), some (.int sH), some (.int 7), some (.int (nI y)), some (.int hp), some (.int 1), some (.int (nI y)), some (.int (mi 88 y)), none, none, none, none, none], [.int 1], (HD, m_1, w_1, mr))) rfl ?_
  refine wp_cal (as := [.int 1]) rfl rfl rfl (Nat.le_of_ble_eq_true rfl) ((c_rmost_1 (mi := m_1) (ml := w_1) (mr := mr))) (by decide) ?_
  rintro _ _ ⟨rfl, rfl⟩
  show aWP _ _ (108, [some (.ref 84), some (.int (nI s)), some (.int (nI p)), some (.int sH), some (.int 7), some (.int (nI y)), some (.int hp), some (.int 1), some (.int (nI y)), some (.int (mi 88 y)), none, none, none, none, none], [.int 99], (HD, m_1, w_1, mr)) _
  refine wp_steps 9 (t' := (117, [some (.ref 84), some (.int (nI s)), some (.int (nI p)), some (.int sH), some (.int 7), some (.int (nI y)), some (.int hp), some (.int 1), some (.int (nI y)), some (.int (mi 88 y)), some (.int 99), some (.int 0), some (.int 0), some (.int (-1)), some (.int 99)], [], (HD, m_1, w_1, mr))) rfl ?_
  show aWP _ _ (117, [some (.ref 84), some (.int (nI s)), some (.int (nI p)), some (.int sH), some (.int 7), some (.int (nI y)), some (.int hp), some (.int 1), some (.int (nI y)), some (.int (mi 88 y)), some (.int 99), some (.int 0), some (.int 0), some (.int (-1)), some (.int (nI 100 - 1))], [], (HD, m_1, w_1, mr)) _
  refine l_rtells (a := 88) (b := y) hM (fun m x v => r_lays_1 (mi := m) (ml := x) hM hy8) (F := (fiR CT (fun j => mi 100 (40 * s + j)) Z 7 y hp (twR mi c0 c1 c2) (puR mi p))) (G := 100) (by first | omega | decide) (fun m x k hk f e => hF_7 hM hR hp5 hok hs4 hz hZ hy8 hk f e) 100 (0, 0, -1) m_1 w_1 (Nat.le_refl _) f1.G (fun m' x' h4 => ?_)
  refine wp_steps 4 (t' := (152, [some (.ref 84), some (.int (nI s)), some (.int (nI p)), some (.int sH), some (.int 7), some (.int (nI y)), some (.int hp), some (.int 1), some (.int (nI y)), some (.int (mi 88 y)), some (.int 99), some (.int ((dnS (fiR CT (fun j => mi 100 (40 * s + j)) Z 7 y hp (twR mi c0 c1 c2) (puR mi p)) 100 (0, 0, -1)).1)), some (.int ((dnS (fiR CT (fun j => mi 100 (40 * s + j)) Z 7 y hp (twR mi c0 c1 c2) (puR mi p)) 100 (0, 0, -1)).2.1)), some (.int ((dnS (fiR CT (fun j => mi 100 (40 * s + j)) Z 7 y hp (twR mi c0 c1 c2) (puR mi p)) 100 (0, 0, -1)).2.2)), some (.int (-1))], [.int (mi 88 y), .int (nI y), .int 1, .ref 84], (HD, m', x', mr))) rfl ?_
  refine wp_calv (as := [.int 1, .int (nI y), .int (mi 88 y)]) rfl rfl rfl (Nat.le_of_ble_eq_true rfl) ⟨by decide, rfl⟩ ((r_lays_1 (mi := m') (ml := x') hM hy8)) (by decide) ?_
  rintro _ _ ⟨rfl, rfl⟩
  show aWP _ _ (153, [some (.ref 84), some (.int (nI s)), some (.int (nI p)), some (.int sH), some (.int 7), some (.int (nI y)), some (.int hp), some (.int 1), some (.int (nI y)), some (.int (mi 88 y)), some (.int 99), some (.int ((dnS (fiR CT (fun j => mi 100 (40 * s + j)) Z 7 y hp (twR mi c0 c1 c2) (puR mi p)) 100 (0, 0, -1)).1)), some (.int ((dnS (fiR CT (fun j => mi 100 (40 * s + j)) Z 7 y hp (twR mi c0 c1 c2) (puR mi p)) 100 (0, 0, -1)).2.1)), some (.int ((dnS (fiR CT (fun j => mi 100 (40 * s + j)) Z 7 y hp (twR mi c0 c1 c2) (puR mi p)) 100 (0, 0, -1)).2.2)), some (.int (-1))], [], (HD, (aup m' 88 y (mi 88 y)), x', mr)) _
  refine wp_steps 2 (t' := (155, [some (.ref 84), some (.int (nI s)), some (.int (nI p)), some (.int sH), some (.int 7), some (.int (nI y)), some (.int hp), some (.int 1), some (.int (nI y)), some (.int (mi 88 y)), some (.int 99), some (.int ((dnS (fiR CT (fun j => mi 100 (40 * s + j)) Z 7 y hp (twR mi c0 c1 c2) (puR mi p)) 100 (0, 0, -1)).1)), some (.int ((dnS (fiR CT (fun j => mi 100 (40 * s + j)) Z 7 y hp (twR mi c0 c1 c2) (puR mi p)) 100 (0, 0, -1)).2.1)), some (.int ((dnS (fiR CT (fun j => mi 100 (40 * s + j)) Z 7 y hp (twR mi c0 c1 c2) (puR mi p)) 100 (0, 0, -1)).2.2)), some (.int (-1))], [.int 4, .int 7], (HD, (aup m' 88 y (mi 88 y)), x', mr))) rfl ?_
  refine wp_bC rfl (fun c_91 => ?_) (fun c_91 => ?_)
  · have c_91 : (7 : Int32) = 4 := of_decide_eq_true c_91
    exact absurd c_91 (by decide)
  have c_91 : ¬ ((7 : Int32) = 4) := of_decide_eq_false c_91
  refine wp_steps 2 (t' := (158, [some (.ref 84), some (.int (nI s)), some (.int (nI p)), some (.int sH), some (.int 7), some (.int (nI y)), some (.int hp), some (.int 1), some (.int (nI y)), some (.int (mi 88 y)), some (.int 99), some (.int ((dnS (fiR CT (fun j => mi 100 (40 * s + j)) Z 7 y hp (twR mi c0 c1 c2) (puR mi p)) 100 (0, 0, -1)).1)), some (.int ((dnS (fiR CT (fun j => mi 100 (40 * s + j)) Z 7 y hp (twR mi c0 c1 c2) (puR mi p)) 100 (0, 0, -1)).2.1)), some (.int ((dnS (fiR CT (fun j => mi 100 (40 * s + j)) Z 7 y hp (twR mi c0 c1 c2) (puR mi p)) 100 (0, 0, -1)).2.2)), some (.int (-1))], [.int 6, .int 7], (HD, (aup m' 88 y (mi 88 y)), x', mr))) rfl ?_
  refine wp_bC rfl (fun c_92 => ?_) (fun c_92 => ?_)
  rotate_left
  · have c_92 : (7 : Int32) = 6 := Decidable.not_not.mp (of_decide_eq_false c_92)
    exact absurd c_92 (by decide)
  have c_92 : ¬ (7 : Int32) = 6 := of_decide_eq_true c_92
  refine wp_steps 2 (t' := (163, [some (.ref 84), some (.int (nI s)), some (.int (nI p)), some (.int sH), some (.int 7), some (.int (nI y)), some (.int hp), some (.int 1), some (.int (nI y)), some (.int (mi 88 y)), some (.int 99), some (.int ((dnS (fiR CT (fun j => mi 100 (40 * s + j)) Z 7 y hp (twR mi c0 c1 c2) (puR mi p)) 100 (0, 0, -1)).1)), some (.int ((dnS (fiR CT (fun j => mi 100 (40 * s + j)) Z 7 y hp (twR mi c0 c1 c2) (puR mi p)) 100 (0, 0, -1)).2.1)), some (.int ((dnS (fiR CT (fun j => mi 100 (40 * s + j)) Z 7 y hp (twR mi c0 c1 c2) (puR mi p)) 100 (0, 0, -1)).2.2)), some (.int (-1))], [.int 5, .int 7], (HD, (aup m' 88 y (mi 88 y)), x', mr))) rfl ?_
  refine wp_bC rfl (fun c_93 => ?_) (fun c_93 => ?_)
  · have c_93 : (7 : Int32) = 5 := of_decide_eq_true c_93
    exact absurd c_93 (by decide)
  have c_93 : ¬ ((7 : Int32) = 5) := of_decide_eq_false c_93
  refine wp_steps 2 (t' := (166, [some (.ref 84), some (.int (nI s)), some (.int (nI p)), some (.int sH), some (.int 7), some (.int (nI y)), some (.int hp), some (.int 1), some (.int (nI y)), some (.int (mi 88 y)), some (.int 99), some (.int ((dnS (fiR CT (fun j => mi 100 (40 * s + j)) Z 7 y hp (twR mi c0 c1 c2) (puR mi p)) 100 (0, 0, -1)).1)), some (.int ((dnS (fiR CT (fun j => mi 100 (40 * s + j)) Z 7 y hp (twR mi c0 c1 c2) (puR mi p)) 100 (0, 0, -1)).2.1)), some (.int ((dnS (fiR CT (fun j => mi 100 (40 * s + j)) Z 7 y hp (twR mi c0 c1 c2) (puR mi p)) 100 (0, 0, -1)).2.2)), some (.int (-1))], [.int 7, .int 7], (HD, (aup m' 88 y (mi 88 y)), x', mr))) rfl ?_
  refine wp_bC rfl (fun c_94 => ?_) (fun c_94 => ?_)
  · have c_94 : ¬ (7 : Int32) = 7 := of_decide_eq_true c_94
    exact absurd c_94 (by decide)
  have c_94 : (7 : Int32) = 7 := Decidable.not_not.mp (of_decide_eq_false c_94)
  refine wp_steps 2 (t' := (170, [some (.ref 84), some (.int (nI s)), some (.int (nI p)), some (.int sH), some (.int 7), some (.int (nI y)), some (.int hp), some (.int 1), some (.int (nI y)), some (.int (mi 88 y)), some (.int 99), some (.int ((dnS (fiR CT (fun j => mi 100 (40 * s + j)) Z 7 y hp (twR mi c0 c1 c2) (puR mi p)) 100 (0, 0, -1)).1)), some (.int ((dnS (fiR CT (fun j => mi 100 (40 * s + j)) Z 7 y hp (twR mi c0 c1 c2) (puR mi p)) 100 (0, 0, -1)).2.1)), some (.int ((dnS (fiR CT (fun j => mi 100 (40 * s + j)) Z 7 y hp (twR mi c0 c1 c2) (puR mi p)) 100 (0, 0, -1)).2.2)), some (.int (-1))], [.int ((dnS (fiR CT (fun j => mi 100 (40 * s + j)) Z 7 y hp (twR mi c0 c1 c2) (puR mi p)) 100 (0, 0, -1)).2.2)], (HD, (aup m' 88 y (mi 88 y)), x', mr))) rfl ?_
  refine wp_ret rfl rfl ⟨⟨Nat.le_refl _, Nat.le_refl _⟩, ?_⟩
  refine ⟨?_, _, _, rfl, frG.bk h4 rfl⟩
  rw [show tlV 7 (tlL (fiR CT (fun j => mi 100 (40 * s + j)) Z 7 y hp (twR mi c0 c1 c2) (puR mi p)) 100 0 (-1, 0, 0, -1)) = (tlL (fiR CT (fun j => mi 100 (40 * s + j)) Z 7 y hp (twR mi c0 c1 c2) (puR mi p)) 100 0 (-1, 0, 0, -1)).2.2.2 from rfl, (tl_dn (F := (fiR CT (fun j => mi 100 (40 * s + j)) Z 7 y hp (twR mi c0 c1 c2) (puR mi p))) (g := 100) (a0 := -1) (by first | omega | decide)).2.2]
set_option maxRecDepth 20000 in
set_option maxHeartbeats 1000000 in
theorem r_tells_g8 {X : aXt × Value} {mi : Nat → Nat → Int32} {ml : Nat → Nat → Int64} {mr : Nat → Nat → Option Nat} (hM : MRok mr) {N : Nat} (hN : mi 84 12 = nI N) (hN5 : N ≤ 5) {c0 c1 c2 : List Int32} (hR : RUX mi c0 c1 c2) {p : Nat} (hpN : p < N) (hok : okU (puR mi p)) {s Z : Nat} (hs4 : s < 4) (hz : mi 99 s = nI Z) (hZ : Z ≤ 40) {sH : Int32} (hS : shG sH = true) (hT : mi 97 s = 1) {y : Nat} (hy8 : y < 8) (hy : sH / 10 = nI y) {hp : Int32} (hh : sH - sH / 10 * 10 = hp) {CT : cT} {C : Nat} (hC : mi 84 3 = nI C) (hC6 : C ≤ 6) (hCR : ∀ k, k < C → ∃ n v0, RTX mi k n v0 (CT k).1 (CT k).2.1 (CT k).2.2) : aCW X 50 201 [.ref 84, .int (nI s), .int (nI p), .int sH, .int 8] (HD, mi, ml, mr) (qR mi mr (.int (tlV 8 (tlL (fiR CT (fun j => mi 100 (40 * s + j)) Z 8 y hp (twR mi c0 c1 c2) (puR mi p)) C 0 (-1, 0, 0, -1))))) := by
  have hp5 : p < 5 := by omega
  refine cw_of (cd := cd_X7_tells) (nL := 15) rfl rfl ?_
  show aWP _ _ (0, [some (.ref 84), some (.int (nI s)), some (.int (nI p)), some (.int sH), some (.int 8), none, none, none, none, none, none, none, none, none, none], [], (HD, mi, ml, mr)) _
  refine wp_steps 1 (t' := (1, [some (.ref 84), some (.int (nI s)), some (.int (nI p)), some (.int sH), some (.int 8), none, none, none, none, none, none, none, none, none, none], [.int (nI s)], (HD, mi, ml, mr))) rfl ?_
  refine wp_cal (as := [.int (nI s)]) rfl rfl rfl (Nat.le_of_ble_eq_true rfl) ((c_isSheet_n (ml := ml) (mr := mr) hs4)) (by decide) ?_
  rintro _ _ ⟨rfl, rfl⟩
  show aWP _ _ (2, [some (.ref 84), some (.int (nI s)), some (.int (nI p)), some (.int sH), some (.int 8), none, none, none, none, none, none, none, none, none, none], [.int 1], (HD, mi, ml, mr)) _
  refine wp_bI rfl (fun c_1 => ?_) (fun c_1 => ?_)
  · have c_1 : (1 : Int32) = 0 := of_decide_eq_true c_1
    exact absurd c_1 (by decide)
  have c_1 : ¬ ((1 : Int32) = 0) := of_decide_eq_false c_1
  refine wp_steps 2 (t' := (5, [some (.ref 84), some (.int (nI s)), some (.int (nI p)), some (.int sH), some (.int 8), none, none, none, none, none, none, none, none, none, none], [.int (nI p), .ref 84], (HD, mi, ml, mr))) rfl ?_
  refine wp_calv (as := [.int (nI p)]) rfl rfl rfl (Nat.le_of_ble_eq_true rfl) ⟨by decide, rfl⟩ ((c_isOne_ok (mi := mi) (ml := ml) hM hN hN5 hpN)) (by decide) ?_
  rintro _ _ ⟨rfl, rfl⟩
  show aWP _ _ (6, [some (.ref 84), some (.int (nI s)), some (.int (nI p)), some (.int sH), some (.int 8), none, none, none, none, none, none, none, none, none, none], [.int 1], (HD, mi, ml, mr)) _
  refine wp_bI rfl (fun c_2 => ?_) (fun c_2 => ?_)
  · have c_2 : (1 : Int32) = 0 := of_decide_eq_true c_2
    exact absurd c_2 (by decide)
  have c_2 : ¬ ((1 : Int32) = 0) := of_decide_eq_false c_2
  refine wp_steps 1 (t' := (8, [some (.ref 84), some (.int (nI s)), some (.int (nI p)), some (.int sH), some (.int 8), none, none, none, none, none, none, none, none, none, none], [.int sH], (HD, mi, ml, mr))) rfl ?_
  refine wp_cal (as := [.int sH]) rfl rfl rfl (Nat.le_of_ble_eq_true rfl) (c_rSH) (by decide) ?_
  rintro _ _ ⟨rfl, rfl⟩
  rw [if_pos hS]
  show aWP _ _ (9, [some (.ref 84), some (.int (nI s)), some (.int (nI p)), some (.int sH), some (.int 8), none, none, none, none, none, none, none, none, none, none], [.int 1], (HD, mi, ml, mr)) _
  refine wp_bI rfl (fun c_3 => ?_) (fun c_3 => ?_)
  · have c_3 : (1 : Int32) = 0 := of_decide_eq_true c_3
    exact absurd c_3 (by decide)
  have c_3 : ¬ ((1 : Int32) = 0) := of_decide_eq_false c_3
  refine wp_steps 4 (t' := (14, [some (.ref 84), some (.int (nI s)), some (.int (nI p)), some (.int sH), some (.int 8), none, none, none, none, none, none, none, none, none, none], [.long 8, .long 0, .long ((8 : Int32).toInt64)], (HD, mi, ml, mr))) rfl ?_
  refine wp_cal (as := [.long ((8 : Int32).toInt64), .long 0, .long 8]) rfl rfl rfl (Nat.le_of_ble_eq_true rfl) ((c_in (x := 8) (lo := 0) (hi := 8) (by decide) (by decide) (by decide))) (by decide) ?_
  rintro _ _ ⟨rfl, rfl⟩
  rw [if_pos (by decide)]
  show aWP _ _ (15, [some (.ref 84), some (.int (nI s)), some (.int (nI p)), some (.int sH), some (.int 8), none, none, none, none, none, none, none, none, none, none], [.int 1], (HD, mi, ml, mr)) _
  refine wp_bI rfl (fun c_4 => ?_) (fun c_4 => ?_)
  rotate_left
  · have c_4 : (1 : Int32) = 0 := Decidable.not_not.mp (of_decide_eq_false c_4)
    exact absurd c_4 (by decide)
  have c_4 : ¬ (1 : Int32) = 0 := of_decide_eq_true c_4
  refine wp_steps 1 (t' := (19, [some (.ref 84), some (.int (nI s)), some (.int (nI p)), some (.int sH), some (.int 8), none, none, none, none, none, none, none, none, none, none], [.ref 84], (HD, mi, ml, mr))) rfl ?_
  refine wp_getr rfl ⟨by decide, rfl⟩ rfl (hM (84, 37, 97) (by decide)) ?_
  refine wp_steps 1 (t' := (21, [some (.ref 84), some (.int (nI s)), some (.int (nI p)), some (.int sH), some (.int 8), none, none, none, none, none, none, none, none, none, none], [.int (nI s), .ref 97], (HD, mi, ml, mr))) rfl ?_
  refine wp_zald rfl ⟨by decide, rfl⟩ (aix_nI hs4 (by decide)) ?_
  rw [nI_clamp (n := s) (by omega)]
  rw [show mi 97 s = 1 from hT]
  refine wp_bI rfl (fun c_5 => ?_) (fun c_5 => ?_)
  rotate_left
  · have c_5 : (1 : Int32) = 0 := Decidable.not_not.mp (of_decide_eq_false c_5)
    exact absurd c_5 (by decide)
  have c_5 : ¬ (1 : Int32) = 0 := of_decide_eq_true c_5
  refine wp_steps 3 (t' := (28, [some (.ref 84), some (.int (nI s)), some (.int (nI p)), some (.int sH), some (.int 8), none, none, none, none, none, none, none, none, none, none], [.int (sH / 10)], (HD, mi, ml, mr))) rfl ?_
  rw [hy]
  refine wp_steps 4 (t' := (32, [some (.ref 84), some (.int (nI s)), some (.int (nI p)), some (.int sH), some (.int 8), some (.int (nI y)), none, none, none, none, none, none, none, none, none], [.int (sH - sH / 10 * 10)], (HD, mi, ml, mr))) rfl ?_
  rw [hh]
  refine wp_steps 2 (t' := (34, [some (.ref 84), some (.int (nI s)), some (.int (nI p)), some (.int sH), some (.int 8), some (.int (nI y)), some (.int hp), none, none, none, none, none, none, none, none], [.int 8], (HD, mi, ml, mr))) rfl ?_
  refine wp_bI rfl (fun c_6 => ?_) (fun c_6 => ?_)
  rotate_left
  · have c_6 : (8 : Int32) = 0 := Decidable.not_not.mp (of_decide_eq_false c_6)
    exact absurd c_6 (by decide)
  have c_6 : ¬ (8 : Int32) = 0 := of_decide_eq_true c_6
  refine wp_steps 2 (t' := (44, [some (.ref 84), some (.int (nI s)), some (.int (nI p)), some (.int sH), some (.int 8), some (.int (nI y)), some (.int hp), none, none, none, none, none, none, none, none], [.int 3, .int 8], (HD, mi, ml, mr))) rfl ?_
  refine wp_bC rfl (fun c_7 => ?_) (fun c_7 => ?_)
  rotate_left
  · have c_7 : (8 : Int32) = 3 := Decidable.not_not.mp (of_decide_eq_false c_7)
    exact absurd c_7 (by decide)
  have c_7 : ¬ (8 : Int32) = 3 := of_decide_eq_true c_7
  refine wp_steps 2 (t' := (53, [some (.ref 84), some (.int (nI s)), some (.int (nI p)), some (.int sH), some (.int 8), some (.int (nI y)), some (.int hp), none, none, none, none, none, none, none, none], [.int 1, .int 8], (HD, mi, ml, mr))) rfl ?_
  refine wp_bC rfl (fun c_8 => ?_) (fun c_8 => ?_)
  rotate_left
  · have c_8 : (8 : Int32) = 1 := Decidable.not_not.mp (of_decide_eq_false c_8)
    exact absurd c_8 (by decide)
  have c_8 : ¬ (8 : Int32) = 1 := of_decide_eq_true c_8
  refine wp_steps 2 (t' := (58, [some (.ref 84), some (.int (nI s)), some (.int (nI p)), some (.int sH), some (.int 8), some (.int (nI y)), some (.int hp), none, none, none, none, none, none, none, none], [.int 2, .int 8], (HD, mi, ml, mr))) rfl ?_
  refine wp_bC rfl (fun c_9 => ?_) (fun c_9 => ?_)
  rotate_left
  · have c_9 : (8 : Int32) = 2 := Decidable.not_not.mp (of_decide_eq_false c_9)
    exact absurd c_9 (by decide)
  have c_9 : ¬ (8 : Int32) = 2 := of_decide_eq_true c_9
  refine wp_steps 2 (t' := (63, [some (.ref 84), some (.int (nI s)), some (.int (nI p)), some (.int sH), some (.int 8), some (.int (nI y)), some (.int hp), none, none, none, none, none, none, none, none], [.int 6, .int 8], (HD, mi, ml, mr))) rfl ?_
  refine wp_bC rfl (fun c_10 => ?_) (fun c_10 => ?_)
  rotate_left
  · have c_10 : ¬ (6 ≤ (8 : Int32)) := of_decide_eq_false c_10
    exact absurd c_10 (by decide)
  have c_10 : 6 ≤ (8 : Int32) := of_decide_eq_true c_10
  refine wp_steps 2 (t' := (70, [some (.ref 84), some (.int (nI s)), some (.int (nI p)), some (.int sH), some (.int 8), some (.int (nI y)), some (.int hp), none, none, none, none, none, none, none, none], [.int 8, .int 8], (HD, mi, ml, mr))) rfl ?_
  refine wp_bC rfl (fun c_11 => ?_) (fun c_11 => ?_)
  rotate_left
  · have c_11 : ¬ (8 ≤ (8 : Int32)) := of_decide_eq_false c_11
    exact absurd c_11 (by decide)
  have c_11 : 8 ≤ (8 : Int32) := of_decide_eq_true c_11
  refine wp_steps 4 (t' := (77, [some (.ref 84), some (.int (nI s)), some (.int (nI p)), some (.int sH), some (.int 8), some (.int (nI y)), some (.int hp), some (.int 6), none, none, none, none, none, none, none], [.int 1, .int 6], (HD, mi, ml, mr))) rfl ?_
  refine wp_bC rfl (fun c_12 => ?_) (fun c_12 => ?_)
  rotate_left
  · have c_12 : (6 : Int32) = 1 := Decidable.not_not.mp (of_decide_eq_false c_12)
    exact absurd c_12 (by decide)
  have c_12 : ¬ (6 : Int32) = 1 := of_decide_eq_true c_12
  refine wp_steps 4 (t' := (84, [some (.ref 84), some (.int (nI s)), some (.int (nI p)), some (.int sH), some (.int 8), some (.int (nI y)), some (.int hp), some (.int 6), some (.int (nI p)), none, none, none, none, none, none], [.int 6, .int 6], (HD, mi, ml, mr))) rfl ?_
  refine wp_bC rfl (fun c_13 => ?_) (fun c_13 => ?_)
  · have c_13 : ¬ (6 : Int32) = 6 := of_decide_eq_true c_13
    exact absurd c_13 (by decide)
  have c_13 : (6 : Int32) = 6 := Decidable.not_not.mp (of_decide_eq_false c_13)
  refine wp_steps 1 (t' := (86, [some (.ref 84), some (.int (nI s)), some (.int (nI p)), some (.int sH), some (.int 8), some (.int (nI y)), some (.int hp), some (.int 6), some (.int (nI p)), none, none, none, none, none, none], [.ref 84], (HD, mi, ml, mr))) rfl ?_
  refine wp_geti rfl ⟨by decide, rfl⟩ (Or.inl rfl) ?_
  refine wp_steps 4 (t' := (95, [some (.ref 84), some (.int (nI s)), some (.int (nI p)), some (.int sH), some (.int 8), some (.int (nI y)), some (.int hp), some (.int 6), some (.int (nI p)), some (.int (mi 84 4)), none, none, none, none, none], [.int 6, .int 6], (HD, mi, ml, mr))) rfl ?_
  refine wp_bC rfl (fun c_14 => ?_) (fun c_14 => ?_)
  · have c_14 : ¬ (6 : Int32) = 6 := of_decide_eq_true c_14
    exact absurd c_14 (by decide)
  have c_14 : (6 : Int32) = 6 := Decidable.not_not.mp (of_decide_eq_false c_14)
  refine wp_steps 1 (t' := (97, [some (.ref 84), some (.int (nI s)), some (.int (nI p)), some (.int sH), some (.int 8), some (.int (nI y)), some (.int hp), some (.int 6), some (.int (nI p)), some (.int (mi 84 4)), none, none, none, none, none], [.ref 84], (HD, mi, ml, mr))) rfl ?_
  refine wp_geti rfl ⟨by decide, rfl⟩ (Or.inl rfl) ?_
  rw [show mi 84 3 = nI C from hC]
  refine wp_steps 12 (t' := (117, [some (.ref 84), some (.int (nI s)), some (.int (nI p)), some (.int sH), some (.int 8), some (.int (nI y)), some (.int hp), some (.int 6), some (.int (nI p)), some (.int (mi 84 4)), some (.int ((nI C) - 1)), some (.int 0), some (.int 0), some (.int (-1)), some (.int ((nI C) - 1))], [], (HD, mi, ml, mr))) rfl ?_
  show aWP _ _ (117, [some (.ref 84), some (.int (nI s)), some (.int (nI p)), some (.int sH), some (.int 8), some (.int (nI y)), some (.int hp), some (.int 6), some (.int (nI p)), some (.int (mi 84 4)), some (.int ((nI C) - 1)), some (.int 0), some (.int 0), some (.int (-1)), some (.int (nI C - 1))], [], (HD, mi, ml, mr)) _
  refine l_rtells (a := 84) (b := 4) hM (fun m x v => r_lays_6 (mi := m) (ml := x) hM) (F := (fiR CT (fun j => mi 100 (40 * s + j)) Z 8 y hp (twR mi c0 c1 c2) (puR mi p))) (G := C) (by first | omega | decide) (fun m x k hk f e => hF_8 hM hR hp5 hok hs4 hz hZ hy8 hC6 hCR hk f e) C (0, 0, -1) mi ml (Nat.le_refl _) (frQ.rf mi).G (fun m' x' h4 => ?_)
  refine wp_steps 4 (t' := (152, [some (.ref 84), some (.int (nI s)), some (.int (nI p)), some (.int sH), some (.int 8), some (.int (nI y)), some (.int hp), some (.int 6), some (.int (nI p)), some (.int (mi 84 4)), some (.int ((nI C) - 1)), some (.int ((dnS (fiR CT (fun j => mi 100 (40 * s + j)) Z 8 y hp (twR mi c0 c1 c2) (puR mi p)) C (0, 0, -1)).1)), some (.int ((dnS (fiR CT (fun j => mi 100 (40 * s + j)) Z 8 y hp (twR mi c0 c1 c2) (puR mi p)) C (0, 0, -1)).2.1)), some (.int ((dnS (fiR CT (fun j => mi 100 (40 * s + j)) Z 8 y hp (twR mi c0 c1 c2) (puR mi p)) C (0, 0, -1)).2.2)), some (.int (-1))], [.int (mi 84 4), .int (nI p), .int 6, .ref 84], (HD, m', x', mr))) rfl ?_
  refine wp_calv (as := [.int 6, .int (nI p), .int (mi 84 4)]) rfl rfl rfl (Nat.le_of_ble_eq_true rfl) ⟨by decide, rfl⟩ ((r_lays_6 (mi := m') (ml := x') hM)) (by decide) ?_
  rintro _ _ ⟨rfl, rfl⟩
  show aWP _ _ (153, [some (.ref 84), some (.int (nI s)), some (.int (nI p)), some (.int sH), some (.int 8), some (.int (nI y)), some (.int hp), some (.int 6), some (.int (nI p)), some (.int (mi 84 4)), some (.int ((nI C) - 1)), some (.int ((dnS (fiR CT (fun j => mi 100 (40 * s + j)) Z 8 y hp (twR mi c0 c1 c2) (puR mi p)) C (0, 0, -1)).1)), some (.int ((dnS (fiR CT (fun j => mi 100 (40 * s + j)) Z 8 y hp (twR mi c0 c1 c2) (puR mi p)) C (0, 0, -1)).2.1)), some (.int ((dnS (fiR CT (fun j => mi 100 (40 * s + j)) Z 8 y hp (twR mi c0 c1 c2) (puR mi p)) C (0, 0, -1)).2.2)), some (.int (-1))], [], (HD, (aup m' 84 4 (mi 84 4)), x', mr)) _
  refine wp_steps 2 (t' := (155, [some (.ref 84), some (.int (nI s)), some (.int (nI p)), some (.int sH), some (.int 8), some (.int (nI y)), some (.int hp), some (.int 6), some (.int (nI p)), some (.int (mi 84 4)), some (.int ((nI C) - 1)), some (.int ((dnS (fiR CT (fun j => mi 100 (40 * s + j)) Z 8 y hp (twR mi c0 c1 c2) (puR mi p)) C (0, 0, -1)).1)), some (.int ((dnS (fiR CT (fun j => mi 100 (40 * s + j)) Z 8 y hp (twR mi c0 c1 c2) (puR mi p)) C (0, 0, -1)).2.1)), some (.int ((dnS (fiR CT (fun j => mi 100 (40 * s + j)) Z 8 y hp (twR mi c0 c1 c2) (puR mi p)) C (0, 0, -1)).2.2)), some (.int (-1))], [.int 4, .int 8], (HD, (aup m' 84 4 (mi 84 4)), x', mr))) rfl ?_
  refine wp_bC rfl (fun c_91 => ?_) (fun c_91 => ?_)
  · have c_91 : (8 : Int32) = 4 := of_decide_eq_true c_91
    exact absurd c_91 (by decide)
  have c_91 : ¬ ((8 : Int32) = 4) := of_decide_eq_false c_91
  refine wp_steps 2 (t' := (158, [some (.ref 84), some (.int (nI s)), some (.int (nI p)), some (.int sH), some (.int 8), some (.int (nI y)), some (.int hp), some (.int 6), some (.int (nI p)), some (.int (mi 84 4)), some (.int ((nI C) - 1)), some (.int ((dnS (fiR CT (fun j => mi 100 (40 * s + j)) Z 8 y hp (twR mi c0 c1 c2) (puR mi p)) C (0, 0, -1)).1)), some (.int ((dnS (fiR CT (fun j => mi 100 (40 * s + j)) Z 8 y hp (twR mi c0 c1 c2) (puR mi p)) C (0, 0, -1)).2.1)), some (.int ((dnS (fiR CT (fun j => mi 100 (40 * s + j)) Z 8 y hp (twR mi c0 c1 c2) (puR mi p)) C (0, 0, -1)).2.2)), some (.int (-1))], [.int 6, .int 8], (HD, (aup m' 84 4 (mi 84 4)), x', mr))) rfl ?_
  refine wp_bC rfl (fun c_92 => ?_) (fun c_92 => ?_)
  rotate_left
  · have c_92 : (8 : Int32) = 6 := Decidable.not_not.mp (of_decide_eq_false c_92)
    exact absurd c_92 (by decide)
  have c_92 : ¬ (8 : Int32) = 6 := of_decide_eq_true c_92
  refine wp_steps 2 (t' := (163, [some (.ref 84), some (.int (nI s)), some (.int (nI p)), some (.int sH), some (.int 8), some (.int (nI y)), some (.int hp), some (.int 6), some (.int (nI p)), some (.int (mi 84 4)), some (.int ((nI C) - 1)), some (.int ((dnS (fiR CT (fun j => mi 100 (40 * s + j)) Z 8 y hp (twR mi c0 c1 c2) (puR mi p)) C (0, 0, -1)).1)), some (.int ((dnS (fiR CT (fun j => mi 100 (40 * s + j)) Z 8 y hp (twR mi c0 c1 c2) (puR mi p)) C (0, 0, -1)).2.1)), some (.int ((dnS (fiR CT (fun j => mi 100 (40 * s + j)) Z 8 y hp (twR mi c0 c1 c2) (puR mi p)) C (0, 0, -1)).2.2)), some (.int (-1))], [.int 5, .int 8], (HD, (aup m' 84 4 (mi 84 4)), x', mr))) rfl ?_
  refine wp_bC rfl (fun c_93 => ?_) (fun c_93 => ?_)
  · have c_93 : (8 : Int32) = 5 := of_decide_eq_true c_93
    exact absurd c_93 (by decide)
  have c_93 : ¬ ((8 : Int32) = 5) := of_decide_eq_false c_93
  refine wp_steps 2 (t' := (166, [some (.ref 84), some (.int (nI s)), some (.int (nI p)), some (.int sH), some (.int 8), some (.int (nI y)), some (.int hp), some (.int 6), some (.int (nI p)), some (.int (mi 84 4)), some (.int ((nI C) - 1)), some (.int ((dnS (fiR CT (fun j => mi 100 (40 * s + j)) Z 8 y hp (twR mi c0 c1 c2) (puR mi p)) C (0, 0, -1)).1)), some (.int ((dnS (fiR CT (fun j => mi 100 (40 * s + j)) Z 8 y hp (twR mi c0 c1 c2) (puR mi p)) C (0, 0, -1)).2.1)), some (.int ((dnS (fiR CT (fun j => mi 100 (40 * s + j)) Z 8 y hp (twR mi c0 c1 c2) (puR mi p)) C (0, 0, -1)).2.2)), some (.int (-1))], [.int 7, .int 8], (HD, (aup m' 84 4 (mi 84 4)), x', mr))) rfl ?_
  refine wp_bC rfl (fun c_94 => ?_) (fun c_94 => ?_)
  rotate_left
  · have c_94 : (8 : Int32) = 7 := Decidable.not_not.mp (of_decide_eq_false c_94)
    exact absurd c_94 (by decide)
  have c_94 : ¬ (8 : Int32) = 7 := of_decide_eq_true c_94
  refine wp_steps 1 (t' := (170, [some (.ref 84), some (.int (nI s)), some (.int (nI p)), some (.int sH), some (.int 8), some (.int (nI y)), some (.int hp), some (.int 6), some (.int (nI p)), some (.int (mi 84 4)), some (.int ((nI C) - 1)), some (.int ((dnS (fiR CT (fun j => mi 100 (40 * s + j)) Z 8 y hp (twR mi c0 c1 c2) (puR mi p)) C (0, 0, -1)).1)), some (.int ((dnS (fiR CT (fun j => mi 100 (40 * s + j)) Z 8 y hp (twR mi c0 c1 c2) (puR mi p)) C (0, 0, -1)).2.1)), some (.int ((dnS (fiR CT (fun j => mi 100 (40 * s + j)) Z 8 y hp (twR mi c0 c1 c2) (puR mi p)) C (0, 0, -1)).2.2)), some (.int (-1))], [.int ((dnS (fiR CT (fun j => mi 100 (40 * s + j)) Z 8 y hp (twR mi c0 c1 c2) (puR mi p)) C (0, 0, -1)).1)], (HD, (aup m' 84 4 (mi 84 4)), x', mr))) rfl ?_
  refine wp_ret rfl rfl ⟨⟨Nat.le_refl _, Nat.le_refl _⟩, ?_⟩
  refine ⟨?_, _, _, rfl, frG.bk h4 rfl⟩
  rw [show tlV 8 (tlL (fiR CT (fun j => mi 100 (40 * s + j)) Z 8 y hp (twR mi c0 c1 c2) (puR mi p)) C 0 (-1, 0, 0, -1)) = (tlL (fiR CT (fun j => mi 100 (40 * s + j)) Z 8 y hp (twR mi c0 c1 c2) (puR mi p)) C 0 (-1, 0, 0, -1)).2.1 from rfl, (tl_dn (F := (fiR CT (fun j => mi 100 (40 * s + j)) Z 8 y hp (twR mi c0 c1 c2) (puR mi p))) (g := C) (a0 := -1) (by first | omega | decide)).1 (by first | omega | decide)]
