/-! a learner (kind, number, done, bumps, skills) and a town (hards, day, the rule's parts) as pure things (written by wip/whole/mkthi0.py) -/
abbrev pU := Int32 × Int32 × Int32 × Int32 × (Nat → Int32)
abbrev tW := (Nat → Int32) × Int32 × List Int32 × List Int32 × List Int32
def c8 (f : Nat → Int32) : Nat → Int32 := fun j => if j < 8 then f j else 0
theorem c8_lt {f : Nat → Int32} {j : Nat} (h : j < 8) : c8 f j = f j := if_pos h
def puC (m : Nat → Nat → Int32) (P : Nat) : pU := (m P 0, m P 1, m P 2, m P 3, c8 (m (P + 1)))
def twC (m : Nat → Nat → Int32) (T : Nat) (c0 c1 c2 : List Int32) : tW := (c8 (m (T + 1)), m T 1, c0, c1, c2)
def leG (t : tW) (u : pU) (s : Nat) (hp : Int32) : Int32 := leF t.2.2.1 u.1 u.2.1 u.2.2.1 (u.2.2.2.2 s) (t.1 s) t.2.1 hp
def foG (t : tW) (u : pU) (s : Nat) : Int32 := foF t.2.2.2.1 u.1 u.2.1 u.2.2.1 (u.2.2.2.2 s) (t.1 s) t.2.1
def neG (t : tW) (u : pU) (s : Nat) : Int32 := neF t.2.2.2.2 u.1 u.2.1 u.2.2.1 (u.2.2.2.2 s) (t.1 s) t.2.1
def maG (t : tW) (u : pU) (s : Nat) : Int32 := maF t.2.2.2.2 u.1 u.2.1 u.2.2.1 (u.2.2.2.2 s) (t.1 s) t.2.1
/-- an hour -/
def hrG (t : tW) (u : pU) (s : Nat) (hp : Int32) : pU := (u.1, u.2.1, fmin 99 (u.2.2.1 + 1), (if buF (maG t u s) hp then fmin 999 (u.2.2.2.1 + 1) else u.2.2.2.1), fun j => if j = s then fmin 99 (u.2.2.2.2 s + (if buF (maG t u s) hp then leG t u s hp / 2 else leG t u s hp)) else u.2.2.2.2 j)
/-- a sleep -/
def spG (t : tW) (u : pU) : pU := (u.1, u.2.1, 0, u.2.2.2.1, c8 (fun j => fmax 0 (u.2.2.2.2 j - foG t u j)))
def mnG (t : tW) (u : pU) : Nat := mgN (maG t u) 8
/-- alike but for the rows of S -/
def frm (S : List Nat) (m m' : Nat → Nat → Int32) : Prop := ∀ k j, k ∉ S → m' k j = m k j
theorem frm.rf (S : List Nat) (m : Nat → Nat → Int32) : frm S m m := fun _ _ _ => rfl
theorem frm.tr {S : List Nat} {a b c : Nat → Nat → Int32} (h : frm S a b) (k : frm S b c) : frm S a c := fun x y q => (k x y q).trans (h x y q)
theorem frm.wk {S S' : List Nat} {a b : Nat → Nat → Int32} (h : frm S a b) (hs : ∀ k ∈ S, k ∈ S') : frm S' a b := fun k j q => h k j (fun z => q (hs k z))
theorem frm.row {S : List Nat} {a b : Nat → Nat → Int32} (h : frm S a b) {k : Nat} (q : k ∉ S) : b k = a k := funext fun j => h k j q
theorem puC_fr {S : List Nat} {a b : Nat → Nat → Int32} (h : frm S a b) {P : Nat} (q : P ∉ S) (q1 : P + 1 ∉ S) : puC b P = puC a P := by
  unfold puC
  rw [h.row q, h.row q1]
theorem twC_fr {S : List Nat} {a b : Nat → Nat → Int32} (h : frm S a b) {T : Nat} {c0 c1 c2 : List Int32} (q : T ∉ S) (q1 : T + 1 ∉ S) : twC b T c0 c1 c2 = twC a T c0 c1 c2 := by
  unfold twC
  rw [h.row q, h.row q1]
theorem TXok_fr {S : List Nat} {a b : Nat → Nat → Int32} (h : frm S a b) {ρ : Nat} {c0 c1 c2 : List Int32} (hx : TXok a ρ c0 c1 c2) (q1 : ρ + 1 ∉ S) (q2 : ρ + 2 ∉ S) : TXok b ρ c0 c1 c2 := hx.kept (fun j => h _ j q1) (fun j => h _ j q2)
theorem scr_frm {T ρ : Nat} {m m' : Nat → Nat → Int32} (h : scr T ρ m m') : frm [T + 2, ρ + 3] m m' := fun k j q => h k j (fun z => q (by rw [z]; exact List.mem_cons_self ..)) (fun z => q (by rw [z]; exact List.mem_cons_of_mem _ (List.mem_cons_self ..)))
theorem atF_le {m : Nat → Nat → Int32} {T P s : Nat} {c0 c1 c2 : List Int32} {hp : Int32} (hs : s < 8) : atF (fun k n d s h y => leF c0 k n d s h y hp) m T P s = leG (twC m T c0 c1 c2) (puC m P) s hp := by
  unfold atF leG twC puC
  simp only [c8_lt hs]
theorem atF_fo {m : Nat → Nat → Int32} {T P s : Nat} {c0 c1 c2 : List Int32} (hs : s < 8) : atF (foF c1) m T P s = foG (twC m T c0 c1 c2) (puC m P) s := by
  unfold atF foG twC puC
  simp only [c8_lt hs]
theorem atF_ne {m : Nat → Nat → Int32} {T P s : Nat} {c0 c1 c2 : List Int32} (hs : s < 8) : atF (neF c2) m T P s = neG (twC m T c0 c1 c2) (puC m P) s := by
  unfold atF neG twC puC
  simp only [c8_lt hs]
theorem atF_ma {m : Nat → Nat → Int32} {T P s : Nat} {c0 c1 c2 : List Int32} (hs : s < 8) : atF (maF c2) m T P s = maG (twC m T c0 c1 c2) (puC m P) s := by
  unfold atF maG twC puC
  simp only [c8_lt hs]
theorem mgN_cg {f g : Nat → Int32} : ∀ {n : Nat}, (∀ j, j < n → f j = g j) → mgN f n = mgN g n
  | 0, _ => rfl
  | n + 1, h => by
    unfold mgN
    rw [mgN_cg (fun j hj => h j (by omega)), h n (by omega)]
theorem wkF_cg {f g : Nat → Int32} : ∀ {n : Nat}, (∀ j, j < n → f j = g j) → wkF f n = wkF g n
  | 0, _ => rfl
  | n + 1, h => by
    have hw : wkF g n < n + 1 := by
      cases n with
      | zero => exact Nat.zero_lt_one
      | succ n => exact Nat.lt_succ_of_lt (wkF_lt g (n + 1) (by omega))
    unfold wkF
    rw [wkF_cg (fun j hj => h j (by omega)), h n (by omega), h _ hw]
theorem smF_cg {f g : Nat → Int32} : ∀ {n : Nat}, (∀ j, j < n → f j = g j) → smF f n = smF g n
  | 0, _ => rfl
  | n + 1, h => by
    unfold smF
    rw [smF_cg (fun j hj => h j (by omega)), h n (by omega)]
theorem g_learns {X : aXt × Value} {mi : Nat → Nat → Int32} {ml : Nat → Nat → Int64} {mr : Nat → Nat → Option Nat} (hM : MRok mr) {T P ρ : Nat} {c0 c1 c2 : List Int32} (hT : T ∈ TOWNS) (hP : P ∈ PUPS) (hρ : ρ ∈ TXS) (hr : mr T 2 = some ρ) (hx : TXok mi ρ c0 c1 c2) {s hp : Int32} (hs : aixn s 8 = true) : aCW X 3 56 [.ref T, .ref P, .int s, .int hp] (HD, mi, ml, mr) (fun r h' => ∃ m', frm [T + 2, ρ + 3] mi m' ∧ h' = (HD, m', ml, mr) ∧ r = some (.int (leG (twC mi T c0 c1 c2) (puC mi P) s.toNatClampNeg hp))) := by
  obtain ⟨r, h', g, m', h1, h2, h3⟩ := c_learns (ml := ml) hM hT hP hρ hr hx hs
  exact ⟨r, h', g, m', scr_frm h1, h2, h3.trans (by rw [← atF_le (aix_out hs).2])⟩
theorem g_forgets {X : aXt × Value} {mi : Nat → Nat → Int32} {ml : Nat → Nat → Int64} {mr : Nat → Nat → Option Nat} (hM : MRok mr) {T P ρ : Nat} {c0 c1 c2 : List Int32} (hT : T ∈ TOWNS) (hP : P ∈ PUPS) (hρ : ρ ∈ TXS) (hr : mr T 2 = some ρ) (hx : TXok mi ρ c0 c1 c2) {s : Int32} (hs : aixn s 8 = true) : aCW X 3 57 [.ref T, .ref P, .int s] (HD, mi, ml, mr) (fun r h' => ∃ m', frm [T + 2, ρ + 3] mi m' ∧ h' = (HD, m', ml, mr) ∧ r = some (.int (foG (twC mi T c0 c1 c2) (puC mi P) s.toNatClampNeg))) := by
  obtain ⟨r, h', g, m', h1, h2, h3⟩ := c_forgets (ml := ml) hM hT hP hρ hr hx hs
  exact ⟨r, h', g, m', scr_frm h1, h2, h3.trans (by rw [← atF_fo (aix_out hs).2])⟩
theorem g_nerve {X : aXt × Value} {mi : Nat → Nat → Int32} {ml : Nat → Nat → Int64} {mr : Nat → Nat → Option Nat} (hM : MRok mr) {T P ρ : Nat} {c0 c1 c2 : List Int32} (hT : T ∈ TOWNS) (hP : P ∈ PUPS) (hρ : ρ ∈ TXS) (hr : mr T 2 = some ρ) (hx : TXok mi ρ c0 c1 c2) {s : Int32} (hs : aixn s 8 = true) : aCW X 3 58 [.ref T, .ref P, .int s] (HD, mi, ml, mr) (fun r h' => ∃ m', frm [T + 2, ρ + 3] mi m' ∧ h' = (HD, m', ml, mr) ∧ r = some (.int (neG (twC mi T c0 c1 c2) (puC mi P) s.toNatClampNeg))) := by
  obtain ⟨r, h', g, m', h1, h2, h3⟩ := c_nerve (ml := ml) hM hT hP hρ hr hx hs
  exact ⟨r, h', g, m', scr_frm h1, h2, h3.trans (by rw [← atF_ne (aix_out hs).2])⟩
theorem g_margin {X : aXt × Value} {mi : Nat → Nat → Int32} {ml : Nat → Nat → Int64} {mr : Nat → Nat → Option Nat} (hM : MRok mr) {T P ρ : Nat} {c0 c1 c2 : List Int32} (hT : T ∈ TOWNS) (hP : P ∈ PUPS) (hρ : ρ ∈ TXS) (hr : mr T 2 = some ρ) (hx : TXok mi ρ c0 c1 c2) {s : Int32} (hs : aixn s 8 = true) : aCW X 4 59 [.ref T, .ref P, .int s] (HD, mi, ml, mr) (fun r h' => ∃ m', frm [T + 2, ρ + 3] mi m' ∧ h' = (HD, m', ml, mr) ∧ r = some (.int (maG (twC mi T c0 c1 c2) (puC mi P) s.toNatClampNeg))) := by
  obtain ⟨r, h', g, m', h1, h2, h3⟩ := c_margin (ml := ml) hM hT hP hρ hr hx hs
  exact ⟨r, h', g, m', scr_frm h1, h2, h3.trans (by rw [← atF_ma (aix_out hs).2])⟩
theorem g_managedBy {X : aXt × Value} {mi : Nat → Nat → Int32} {ml : Nat → Nat → Int64} {mr : Nat → Nat → Option Nat} (hM : MRok mr) {T P ρ : Nat} {c0 c1 c2 : List Int32} (hT : T ∈ TOWNS) (hP : P ∈ PUPS) (hρ : ρ ∈ TXS) (hr : mr T 2 = some ρ) (hx : TXok mi ρ c0 c1 c2)  : aCW X 5 60 [.ref T, .ref P] (HD, mi, ml, mr) (fun r h' => ∃ m', frm [T + 2, ρ + 3] mi m' ∧ h' = (HD, m', ml, mr) ∧ r = some (.int (nI (mnG (twC mi T c0 c1 c2) (puC mi P))))) := by
  obtain ⟨r, h', g, m', h1, h2, h3⟩ := c_managedBy (ml := ml) hM hT hP hρ hr hx
  exact ⟨r, h', g, m', scr_frm h1, h2, h3.trans (by unfold mnG; rw [mgN_cg (f := atF (maF c2) mi T P) (g := maG (twC mi T c0 c1 c2) (puC mi P)) (n := 8) (fun j hj => atF_ma hj)])⟩
theorem g_isReady {X : aXt × Value} {mi : Nat → Nat → Int32} {ml : Nat → Nat → Int64} {mr : Nat → Nat → Option Nat} (hM : MRok mr) {T P ρ : Nat} {c0 c1 c2 : List Int32} (hT : T ∈ TOWNS) (hP : P ∈ PUPS) (hρ : ρ ∈ TXS) (hr : mr T 2 = some ρ) (hx : TXok mi ρ c0 c1 c2)  : aCW X 5 61 [.ref T, .ref P] (HD, mi, ml, mr) (fun r h' => ∃ m', frm [T + 2, ρ + 3] mi m' ∧ h' = (HD, m', ml, mr) ∧ r = some (.int (if mnG (twC mi T c0 c1 c2) (puC mi P) = 8 then 1 else 0))) := by
  obtain ⟨r, h', g, m', h1, h2, h3⟩ := c_isReady (ml := ml) hM hT hP hρ hr hx
  exact ⟨r, h', g, m', scr_frm h1, h2, h3.trans (by unfold mnG; rw [mgN_cg (f := atF (maF c2) mi T P) (g := maG (twC mi T c0 c1 c2) (puC mi P)) (n := 8) (fun j hj => atF_ma hj)])⟩
theorem g_leastManaged {X : aXt × Value} {mi : Nat → Nat → Int32} {ml : Nat → Nat → Int64} {mr : Nat → Nat → Option Nat} (hM : MRok mr) {T P ρ : Nat} {c0 c1 c2 : List Int32} (hT : T ∈ TOWNS) (hP : P ∈ PUPS) (hρ : ρ ∈ TXS) (hr : mr T 2 = some ρ) (hx : TXok mi ρ c0 c1 c2)  : aCW X 5 62 [.ref T, .ref P] (HD, mi, ml, mr) (fun r h' => ∃ m', frm [T + 2, ρ + 3] mi m' ∧ h' = (HD, m', ml, mr) ∧ r = some (.int (nI (wkF (maG (twC mi T c0 c1 c2) (puC mi P)) 8)))) := by
  obtain ⟨r, h', g, m', h1, h2, h3⟩ := c_leastManaged (ml := ml) hM hT hP hρ hr hx
  exact ⟨r, h', g, m', scr_frm h1, h2, h3.trans (by rw [(wkF_cg (f := atF (maF c2) mi T P) (g := maG (twC mi T c0 c1 c2) (puC mi P)) (n := 8) (fun j hj => atF_ma hj))])⟩
theorem pu_T {T P ρ : Nat} (hT : T ∈ TOWNS) (hP : P ∈ PUPS) (hρ : ρ ∈ TXS) : P ∉ [T + 2, ρ + 3] ∧ P + 1 ∉ [T + 2, ρ + 3] := by
  have h1 := twn_ne hT hP
  have h2 : P ≠ ρ + 3 ∧ P + 1 ≠ ρ + 3 := by
    clear h1
    revert ρ
    revert P
    decide
  simp only [List.mem_cons, List.not_mem_nil, or_false, not_or]
  exact ⟨⟨h1.1.symm, h2.1⟩, h1.2.1.symm, h2.2⟩
theorem puC_ho {m : Nat → Nat → Int32} {T P s : Nat} {c0 c1 c2 : List Int32} {hp : Int32} (hs : s < 8) : puC (hoF m P s (atF (fun k n d s h y => leF c0 k n d s h y hp) m T P s) (buF (atF (maF c2) m T P s) hp)) P = hrG (twC m T c0 c1 c2) (puC m P) s hp := by
  rw [atF_le (c1 := c1) (c2 := c2) hs, atF_ma (c0 := c0) (c1 := c1) hs]
  generalize hL : leG (twC m T c0 c1 c2) (puC m P) s hp = L
  generalize hB : buF (maG (twC m T c0 c1 c2) (puC m P) s) hp = B
  unfold hrG
  rw [hL, hB]
  unfold puC hoF
  refine Prod.ext ?_ (Prod.ext ?_ (Prod.ext ?_ (Prod.ext ?_ (funext fun j => ?_))))
  · simp
  · simp
  · simp
  · simp
  · simp only [c8]
    by_cases h : j < 8
    · by_cases h2 : j = s
      · subst h2; simp [h]
      · simp [h, h2]
    · have h2 : ¬ j = s := by omega
      simp [h, h2]
theorem puC_sl {m : Nat → Nat → Int32} {T P : Nat} {c0 c1 c2 : List Int32} : puC (slE c1 m T P) P = spG (twC m T c0 c1 c2) (puC m P) := by
  unfold spG
  refine Prod.ext ?_ (Prod.ext ?_ (Prod.ext ?_ (Prod.ext ?_ (funext fun j => ?_))))
  · simp [puC, slE]
  · simp [puC, slE]
  · simp [puC, slE]
  · simp [puC, slE]
  · by_cases h : j < 8
    · have e := atF_fo (m := m) (T := T) (P := P) (c0 := c0) (c1 := c1) (c2 := c2) h
      simp [puC, slE, slF, c8, h] at e ⊢
      rw [e]
    · simp [puC, slE, slF, c8, h]
theorem ho_frm {m : Nat → Nat → Int32} {P s : Nat} {more : Int32} {b : Bool} : frm [P, P + 1] m (hoF m P s more b) := by
  intro k j q
  simp only [List.mem_cons, List.not_mem_nil, or_false, not_or] at q
  unfold hoF
  rw [if_neg q.1, if_neg q.2]
theorem sl_frm {m : Nat → Nat → Int32} {T P : Nat} {c1 : List Int32} : frm [P, P + 1] m (slE c1 m T P) := by
  intro k j q
  simp only [List.mem_cons, List.not_mem_nil, or_false, not_or] at q
  unfold slE slF
  rw [if_neg q.1, if_neg q.2]
theorem mem4a {P x y k : Nat} (h : k ∈ [P, P + 1]) : k ∈ [P, P + 1, x, y] := by
  simp only [List.mem_cons, List.not_mem_nil, or_false] at h ⊢
  omega
theorem mem4b {P x y k : Nat} (h : k ∈ [x, y]) : k ∈ [P, P + 1, x, y] := by
  simp only [List.mem_cons, List.not_mem_nil, or_false] at h ⊢
  omega
theorem g_hour {X : aXt × Value} {mi : Nat → Nat → Int32} {ml : Nat → Nat → Int64} {mr : Nat → Nat → Option Nat} (hM : MRok mr) {T P ρ : Nat} {c0 c1 c2 : List Int32} (hT : T ∈ TOWNS) (hP : P ∈ PUPS) (hρ : ρ ∈ TXS) (hr : mr T 2 = some ρ) (hx : TXok mi ρ c0 c1 c2) {s hp : Int32} (hs : aixn s 8 = true) : aCW X 5 63 [.ref T, .ref P, .int s, .int hp] (HD, mi, ml, mr) (fun r h' => ∃ m', frm [P, P + 1, T + 2, ρ + 3] mi m' ∧ puC m' P = hrG (twC mi T c0 c1 c2) (puC mi P) s.toNatClampNeg hp ∧ h' = (HD, m', ml, mr) ∧ r = none) := by
  obtain ⟨r, h', g, m', h1, h2, h3⟩ := c_spendHour (hp := hp) (ml := ml) hM hT hP hρ hr hx hs
  have hn := pu_T hT hP hρ
  exact ⟨r, h', g, m', (ho_frm.wk fun _ z => mem4a z).tr ((scr_frm h1).wk fun _ z => mem4b z), (puC_fr (scr_frm h1) hn.1 hn.2).trans (puC_ho (aix_out hs).2), h2, h3⟩
theorem g_sleep {X : aXt × Value} {mi : Nat → Nat → Int32} {ml : Nat → Nat → Int64} {mr : Nat → Nat → Option Nat} (hM : MRok mr) {T P ρ : Nat} {c0 c1 c2 : List Int32} (hT : T ∈ TOWNS) (hP : P ∈ PUPS) (hρ : ρ ∈ TXS) (hr : mr T 2 = some ρ) (hx : TXok mi ρ c0 c1 c2) : aCW X 5 64 [.ref T, .ref P] (HD, mi, ml, mr) (fun r h' => ∃ m', frm [P, P + 1, T + 2, ρ + 3] mi m' ∧ puC m' P = spG (twC mi T c0 c1 c2) (puC mi P) ∧ h' = (HD, m', ml, mr) ∧ r = none) := by
  obtain ⟨r, h', g, m', h1, h2, h3⟩ := c_sleep (ml := ml) hM hT hP hρ hr hx
  have hn := pu_T hT hP hρ
  exact ⟨r, h', g, m', (sl_frm.wk fun _ z => mem4a z).tr ((scr_frm h1).wk fun _ z => mem4b z), (puC_fr (scr_frm h1) hn.1 hn.2).trans puC_sl, h2, h3⟩
theorem g_least {X : aXt × Value} {mi : Nat → Nat → Int32} {ml : Nat → Nat → Int64} {mr : Nat → Nat → Option Nat} (hM : MRok mr) {P : Nat} (hP : P ∈ PUPS) : aCW X 1 10 [.ref P] (HD, mi, ml, mr) (rdI mi ml mr (nI (wkF (puC mi P).2.2.2.2 8))) := by
  rw [← (wkF_cg (f := mi (P + 1)) (g := (puC mi P).2.2.2.2) (n := 8) (fun j hj => (c8_lt hj).symm))]
  exact c_leastSkilled hM hP
theorem g_together {X : aXt × Value} {mi : Nat → Nat → Int32} {ml : Nat → Nat → Int64} {mr : Nat → Nat → Option Nat} (hM : MRok mr) {P : Nat} (hP : P ∈ PUPS) : aCW X 1 11 [.ref P] (HD, mi, ml, mr) (rdI mi ml mr (smF (puC mi P).2.2.2.2 8)) := by
  rw [← smF_cg (f := mi (P + 1)) (g := (puC mi P).2.2.2.2) (n := 8) (fun j hj => (c8_lt hj).symm)]
  exact c_skillsTogether hM hP
theorem puC_cp {m : Nat → Nat → Int32} {P P2 : Nat} : puC (cpP m P P2) P = puC m P2 := by
  refine Prod.ext ?_ (Prod.ext ?_ (Prod.ext ?_ (Prod.ext ?_ (funext fun j => ?_))))
  · simp [puC, cpP]
  · simp [puC, cpP]
  · simp [puC, cpP]
  · simp [puC, cpP]
  · by_cases h : j < 8
    · simp [puC, cpP, c8, h]
    · simp [puC, cpP, c8, h]
theorem g_become {X : aXt × Value} {mi : Nat → Nat → Int32} {ml : Nat → Nat → Int64} {mr : Nat → Nat → Option Nat} (hM : MRok mr) {P P2 : Nat} (hP : P ∈ PUPS) (hP2 : P2 ∈ PUPS) : aCW X 1 2 [.ref P, .ref P2] (HD, mi, ml, mr) (fun r h' => ∃ m', frm [P, P + 1] mi m' ∧ puC m' P = puC mi P2 ∧ h' = (HD, m', ml, mr) ∧ r = none) := by
  obtain ⟨r, h', g, h1, h2⟩ := c_Pbecome (X := X) (mi := mi) (ml := ml) hM hP hP2
  refine ⟨r, h', g, _, fun k j q => ?_, puC_cp, h2, h1⟩
  simp only [List.mem_cons, List.not_mem_nil, or_false, not_or] at q
  unfold cpP
  rw [if_neg q.1, if_neg q.2]
theorem g_Tbecome {X : aXt × Value} {mi : Nat → Nat → Int32} {ml : Nat → Nat → Int64} {mr : Nat → Nat → Option Nat} (hM : MRok mr) {T T2 ρ2 : Nat} (hT : T ∈ TOWNS) (hT2 : T2 ∈ TOWNS) (hr2 : mr T2 2 = some ρ2) : aCW X 1 54 [.ref T, .ref T2] (HD, mi, ml, mr) (fun r h' => ∃ m', frm [T, T + 1] mi m' ∧ (∀ c0 c1 c2, twC m' T c0 c1 c2 = twC mi T2 c0 c1 c2) ∧ h' = (HD, m', ml, aup mr T 2 (some ρ2)) ∧ r = none) := by
  obtain ⟨r, h', g, h1, h2⟩ := c_Tbecome (X := X) (mi := mi) (ml := ml) hM hT hT2 hr2
  have hne : T2 + 1 ≠ T := by
    clear h1 h2 g hr2
    revert T2
    revert T
    decide
  refine ⟨r, h', g, _, fun k j q => ?_, fun c0 c1 c2 => ?_, h2, h1⟩
  · simp only [List.mem_cons, List.not_mem_nil, or_false, not_or] at q
    unfold acpy aup
    rw [if_neg q.2, if_neg q.1]
  · refine Prod.ext (funext fun j => ?_) (Prod.ext ?_ rfl)
    · by_cases h : j < 8
      · simp [twC, c8, acpy, aup, h, hne]
      · simp [twC, c8, h]
    · simp [twC, acpy, aup]
