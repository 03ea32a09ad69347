/-! learns, forgets, nerve, margin (written by wip/whole/mkcls4.py) -/
theorem pfN_six {c : Int32} {a b : Nat → Int32} (h : ∀ j, j < 6 → a j = b j) : pfN c a = pfN c b := by
  unfold pfN
  by_cases c1 : c < 0
  · rw [if_pos c1, if_pos c1]
    by_cases c2 : Int32.ofNat 6 ≤ -1 - c
    · rw [if_pos c2, if_pos c2]
    · rw [if_neg c2, if_neg c2]
      refine h _ ?_
      have a1 := @Int32.le_iff_toInt_le (Int32.ofNat 6) (-1 - c)
      have a2 : (Int32.ofNat 6).toInt = 6 := rfl
      rw [a2] at a1
      have a3 : (-1 - c).toNatClampNeg = (-1 - c).toInt.toNat := rfl
      have a4 : ¬ (6 : Int) ≤ (-1 - c).toInt := fun q => c2 (a1.mpr q)
      omega
  · rw [if_neg c1, if_neg c1]
theorem pfRun_six {a b : Nat → Int32} (h : ∀ j, j < 6 → a j = b j) : ∀ (cs : List Int32) (st : List Int32), pfRun a cs st = pfRun b cs st := by
  intro cs
  induction cs with
  | nil => intro st; rfl
  | cons c t ih =>
    intro st
    show pfRun a t (pfS a c st) = pfRun b t (pfS b c st)
    have : pfS a c st = pfS b c st := by unfold pfS; rw [pfN_six h]
    rw [this, ih]
theorem tvC_six {a b : Nat → Int32} {cs : List Int32} (h : ∀ j, j < 6 → a j = b j) : tvC cs a = tvC cs b := by unfold tvC; rw [pfRun_six h]
/-- all but the town's names and the text's stack is as it was -/
def scr (T ρ : Nat) (m m' : Nat → Nat → Int32) : Prop := ∀ k j, k ≠ T + 2 → k ≠ ρ + 3 → m' k j = m k j
theorem scr_rf {T ρ : Nat} {m : Nat → Nat → Int32} : scr T ρ m m := fun _ _ _ _ => rfl
theorem scr_tr {T ρ : Nat} {m m' m'' : Nat → Nat → Int32} (h : scr T ρ m m') (h2 : scr T ρ m' m'') : scr T ρ m m'' := fun k j a b => (h2 k j a b).trans (h k j a b)
theorem scr_ne {T ρ P : Nat} (hT : T ∈ TOWNS) (hρ : ρ ∈ TXS) (hP : P ∈ PUPS) : (P ≠ T + 2 ∧ P ≠ ρ + 3 ∧ P + 1 ≠ T + 2 ∧ P + 1 ≠ ρ + 3) ∧ (T ≠ ρ + 3 ∧ T + 1 ≠ ρ + 3 ∧ T + 2 ≠ ρ + 3) ∧ ρ + 1 ≠ T + 2 ∧ ρ + 2 ≠ T + 2 := by
  have : ∀ T ∈ TOWNS, ∀ ρ ∈ TXS, ∀ P ∈ PUPS, (P ≠ T + 2 ∧ P ≠ ρ + 3 ∧ P + 1 ≠ T + 2 ∧ P + 1 ≠ ρ + 3) ∧ (T ≠ ρ + 3 ∧ T + 1 ≠ ρ + 3 ∧ T + 2 ≠ ρ + 3) ∧ ρ + 1 ≠ T + 2 ∧ ρ + 2 ≠ T + 2 := by decide
  exact this T hT ρ hρ P hP
theorem scr_P {T ρ P : Nat} {m m' : Nat → Nat → Int32} (h : scr T ρ m m') (hT : T ∈ TOWNS) (hρ : ρ ∈ TXS) (hP : P ∈ PUPS) (j : Nat) : m' P j = m P j := h P j (scr_ne hT hρ hP).1.1 (scr_ne hT hρ hP).1.2.1
theorem scr_P1 {T ρ P : Nat} {m m' : Nat → Nat → Int32} (h : scr T ρ m m') (hT : T ∈ TOWNS) (hρ : ρ ∈ TXS) (hP : P ∈ PUPS) (j : Nat) : m' (P + 1) j = m (P + 1) j := h (P + 1) j (scr_ne hT hρ hP).1.2.2.1 (scr_ne hT hρ hP).1.2.2.2
theorem scr_T {T ρ P : Nat} {m m' : Nat → Nat → Int32} (h : scr T ρ m m') (hT : T ∈ TOWNS) (hρ : ρ ∈ TXS) (hP : P ∈ PUPS) (j : Nat) : m' T j = m T j := h T j (by omega) (scr_ne hT hρ hP).2.1.1
theorem scr_T1 {T ρ P : Nat} {m m' : Nat → Nat → Int32} (h : scr T ρ m m') (hT : T ∈ TOWNS) (hρ : ρ ∈ TXS) (hP : P ∈ PUPS) (j : Nat) : m' (T + 1) j = m (T + 1) j := h (T + 1) j (by omega) (scr_ne hT hρ hP).2.1.2.1
theorem scr_X {T ρ P : Nat} {m m' : Nat → Nat → Int32} {c0 c1 c2 : List Int32} (h : scr T ρ m m') (hT : T ∈ TOWNS) (hρ : ρ ∈ TXS) (hP : P ∈ PUPS) (hx : TXok m ρ c0 c1 c2) : TXok m' ρ c0 c1 c2 := hx.kept (fun j => h _ j (scr_ne hT hρ hP).2.2.1 (by omega)) (fun j => h _ j (scr_ne hT hρ hP).2.2.2 (by omega))
def leF (c0 : List Int32) (kd nu dn sk hd dy hp : Int32) : Int32 := cl 0 99 (lOf kd nu hp (cl 0 99 (tvC c0 (nmF sk hd hp nu dy dn))))
def foF (c1 : List Int32) (kd nu dn sk hd dy : Int32) : Int32 := cl 0 99 (gOf kd nu (cl 0 99 (tvC c1 (nmF sk hd 0 nu dy dn))))
def neF (c2 : List Int32) (kd nu dn sk hd dy : Int32) : Int32 := nOf kd nu dn (cl (-99) 99 (tvC c2 (nmF sk hd 0 nu dy dn)))
/-- a learner's in a town -/
def atF {α : Type} (f : Int32 → Int32 → Int32 → Int32 → Int32 → Int32 → α) (m : Nat → Nat → Int32) (T P s : Nat) : α := f (m P 0) (m P 1) (m P 2) (m (P + 1) s) (m (T + 1) s) (m T 1)
def maF (c2 : List Int32) (kd nu dn sk hd dy : Int32) : Int32 := sk + neF c2 kd nu dn sk hd dy - hd
theorem atF_scr {α : Type} {f : Int32 → Int32 → Int32 → Int32 → Int32 → Int32 → α} {T ρ P s : Nat} {m m' : Nat → Nat → Int32} (h : scr T ρ m m') (hT : T ∈ TOWNS) (hρ : ρ ∈ TXS) (hP : P ∈ PUPS) : atF f m' T P s = atF f m T P s := by
  unfold atF
  rw [scr_P h hT hρ hP, scr_P h hT hρ hP, scr_P h hT hρ hP, scr_P1 h hT hρ hP, scr_T1 h hT hρ hP, scr_T h hT hρ hP]
set_option maxRecDepth 20000 in
set_option maxHeartbeats 1000000 in
theorem c_learns {X : aXt × Value} {mi : Nat → Nat → Int32} {ml : Nat → Nat → Int64} {mr : Nat → Nat → Option Nat} (hM : MRok mr) {T P ρ : Nat} {c0 c1 c2 : List Int32} (hT : T ∈ TOWNS) (hP : P ∈ PUPS) (hρ : ρ ∈ TXS) (hr : mr T 2 = some ρ) (hx : TXok mi ρ c0 c1 c2) {s hp : Int32} (hs : aixn s 8 = true) : aCW X 3 56 [.ref T, .ref P, .int s, .int hp] (HD, mi, ml, mr) (fun r h' => ∃ m', scr T ρ mi m' ∧ h' = (HD, m', ml, mr) ∧ r = some (.int (atF (fun k n d s h y => leF c0 k n d s h y hp) mi T P s.toNatClampNeg))) := by
  refine cw_of (cd := cd_X5_learns) (nL := 5) rfl rfl ?_
  show aWP _ _ (0, [some (.ref T), some (.ref P), some (.int s), some (.int hp), none], [], (HD, mi, ml, mr)) _
  refine wp_steps 4 (t' := (4, [some (.ref T), some (.ref P), some (.int s), some (.int hp), none], [.int hp, .int s, .ref P, .ref T], (HD, mi, ml, mr))) rfl ?_
  refine wp_calv (as := [.ref P, .int s, .int hp]) rfl rfl rfl (Nat.le_of_ble_eq_true rfl) (shT hT) (c_name (mi := mi) hM hT hP hs) (by decide) ?_
  rintro _ _ ⟨m_1, rfl, rfl, e_1, e_2⟩
  have z1 : scr T ρ mi m_1 := fun k j h1 _ => e_1 k j h1
  show aWP _ _ (5, [some (.ref T), some (.ref P), some (.int s), some (.int hp), none], [], (HD, m_1, ml, mr)) _
  refine wp_steps 1 (t' := (6, [some (.ref T), some (.ref P), some (.int s), some (.int hp), none], [.ref T], (HD, m_1, ml, mr))) rfl ?_
  refine wp_getr rfl (shT hT) rfl hr ?_
  refine wp_steps 2 (t' := (9, [some (.ref T), some (.ref P), some (.int s), some (.int hp), none], [.ref T, .int 0, .ref (ρ)], (HD, m_1, ml, mr))) rfl ?_
  refine wp_getr rfl (shT hT) rfl (hM _ (mlT3 hT)) ?_
  refine wp_calv (as := [.int 0, .ref (T + 2)]) rfl rfl rfl (Nat.le_of_ble_eq_true rfl) (shX hρ) (c_value0 (mi := m_1) hM hρ (shTn hT) (scr_ne hT hρ hP).2.1.2.2 (scr_X z1 hT hρ hP hx)) (by decide) ?_
  rintro _ _ ⟨m_2, e_3, rfl, rfl⟩
  have z2 : scr T ρ mi m_2 := scr_tr z1 fun k j _ h2 => e_3 k j h2
  rw [tvC_six (cs := c0) e_2]
  have z3 : True := trivial
  show aWP _ _ (11, [some (.ref T), some (.ref P), some (.int s), some (.int hp), none], [.int (tvC c0 (nmF (mi (P + 1) s.toNatClampNeg) (mi (T + 1) s.toNatClampNeg) hp (mi P 1) (mi T 1) (mi P 2)))], (HD, m_2, ml, mr)) _
  refine wp_steps 2 (t' := (13, [some (.ref T), some (.ref P), some (.int s), some (.int hp), none], [.int 99, .int 0, .int (tvC c0 (nmF (mi (P + 1) s.toNatClampNeg) (mi (T + 1) s.toNatClampNeg) hp (mi P 1) (mi T 1) (mi P 2)))], (HD, m_2, ml, mr))) rfl ?_
  refine wp_cal (as := [.int (tvC c0 (nmF (mi (P + 1) s.toNatClampNeg) (mi (T + 1) s.toNatClampNeg) hp (mi P 1) (mi T 1) (mi P 2))), .int 0, .int 99]) rfl rfl rfl (Nat.le_of_ble_eq_true rfl) (c_bounded (by decide)) (by decide) ?_
  rintro _ _ ⟨rfl, rfl⟩
  show aWP _ _ (14, [some (.ref T), some (.ref P), some (.int s), some (.int hp), none], [.int (cl 0 99 (tvC c0 (nmF (mi (P + 1) s.toNatClampNeg) (mi (T + 1) s.toNatClampNeg) hp (mi P 1) (mi T 1) (mi P 2))))], (HD, m_2, ml, mr)) _
  refine wp_steps 4 (t' := (18, [some (.ref T), some (.ref P), some (.int s), some (.int hp), some (.int (cl 0 99 (tvC c0 (nmF (mi (P + 1) s.toNatClampNeg) (mi (T + 1) s.toNatClampNeg) hp (mi P 1) (mi T 1) (mi P 2)))))], [.int hp, .int (cl 0 99 (tvC c0 (nmF (mi (P + 1) s.toNatClampNeg) (mi (T + 1) s.toNatClampNeg) hp (mi P 1) (mi T 1) (mi P 2)))), .ref P], (HD, m_2, ml, mr))) rfl ?_
  refine wp_calv (as := [.int (cl 0 99 (tvC c0 (nmF (mi (P + 1) s.toNatClampNeg) (mi (T + 1) s.toNatClampNeg) hp (mi P 1) (mi T 1) (mi P 2)))), .int hp]) rfl rfl rfl (Nat.le_of_ble_eq_true rfl) (shP hP) (c_learnsOf (mi := m_2) hP) (by decide) ?_
  rintro _ _ ⟨rfl, rfl⟩
  show aWP _ _ (19, [some (.ref T), some (.ref P), some (.int s), some (.int hp), some (.int (cl 0 99 (tvC c0 (nmF (mi (P + 1) s.toNatClampNeg) (mi (T + 1) s.toNatClampNeg) hp (mi P 1) (mi T 1) (mi P 2)))))], [.int (lOf (m_2 P 0) (m_2 P 1) hp (cl 0 99 (tvC c0 (nmF (mi (P + 1) s.toNatClampNeg) (mi (T + 1) s.toNatClampNeg) hp (mi P 1) (mi T 1) (mi P 2)))))], (HD, m_2, ml, mr)) _
  refine wp_steps 2 (t' := (21, [some (.ref T), some (.ref P), some (.int s), some (.int hp), some (.int (cl 0 99 (tvC c0 (nmF (mi (P + 1) s.toNatClampNeg) (mi (T + 1) s.toNatClampNeg) hp (mi P 1) (mi T 1) (mi P 2)))))], [.int 99, .int 0, .int (lOf (m_2 P 0) (m_2 P 1) hp (cl 0 99 (tvC c0 (nmF (mi (P + 1) s.toNatClampNeg) (mi (T + 1) s.toNatClampNeg) hp (mi P 1) (mi T 1) (mi P 2)))))], (HD, m_2, ml, mr))) rfl ?_
  refine wp_cal (as := [.int (lOf (m_2 P 0) (m_2 P 1) hp (cl 0 99 (tvC c0 (nmF (mi (P + 1) s.toNatClampNeg) (mi (T + 1) s.toNatClampNeg) hp (mi P 1) (mi T 1) (mi P 2))))), .int 0, .int 99]) rfl rfl rfl (Nat.le_of_ble_eq_true rfl) (c_bounded (by decide)) (by decide) ?_
  rintro _ _ ⟨rfl, rfl⟩
  show aWP _ _ (22, [some (.ref T), some (.ref P), some (.int s), some (.int hp), some (.int (cl 0 99 (tvC c0 (nmF (mi (P + 1) s.toNatClampNeg) (mi (T + 1) s.toNatClampNeg) hp (mi P 1) (mi T 1) (mi P 2)))))], [.int (cl 0 99 (lOf (m_2 P 0) (m_2 P 1) hp (cl 0 99 (tvC c0 (nmF (mi (P + 1) s.toNatClampNeg) (mi (T + 1) s.toNatClampNeg) hp (mi P 1) (mi T 1) (mi P 2))))))], (HD, m_2, ml, mr)) _
  refine wp_ret rfl rfl ⟨⟨Nat.le_refl _, Nat.le_refl _⟩, ?_⟩
  exact ⟨m_2, z2, rfl, by simp only [scr_P z2 hT hρ hP]; rfl⟩
set_option maxRecDepth 20000 in
set_option maxHeartbeats 1000000 in
theorem c_forgets {X : aXt × Value} {mi : Nat → Nat → Int32} {ml : Nat → Nat → Int64} {mr : Nat → Nat → Option Nat} (hM : MRok mr) {T P ρ : Nat} {c0 c1 c2 : List Int32} (hT : T ∈ TOWNS) (hP : P ∈ PUPS) (hρ : ρ ∈ TXS) (hr : mr T 2 = some ρ) (hx : TXok mi ρ c0 c1 c2) {s : Int32} (hs : aixn s 8 = true) : aCW X 3 57 [.ref T, .ref P, .int s] (HD, mi, ml, mr) (fun r h' => ∃ m', scr T ρ mi m' ∧ h' = (HD, m', ml, mr) ∧ r = some (.int (atF (foF c1) mi T P s.toNatClampNeg))) := by
  refine cw_of (cd := cd_X5_forgets) (nL := 4) rfl rfl ?_
  show aWP _ _ (0, [some (.ref T), some (.ref P), some (.int s), none], [], (HD, mi, ml, mr)) _
  refine wp_steps 4 (t' := (4, [some (.ref T), some (.ref P), some (.int s), none], [.int 0, .int s, .ref P, .ref T], (HD, mi, ml, mr))) rfl ?_
  refine wp_calv (as := [.ref P, .int s, .int 0]) rfl rfl rfl (Nat.le_of_ble_eq_true rfl) (shT hT) (c_name (mi := mi) hM hT hP hs) (by decide) ?_
  rintro _ _ ⟨m_1, rfl, rfl, e_1, e_2⟩
  have z1 : scr T ρ mi m_1 := fun k j h1 _ => e_1 k j h1
  show aWP _ _ (5, [some (.ref T), some (.ref P), some (.int s), none], [], (HD, m_1, ml, mr)) _
  refine wp_steps 1 (t' := (6, [some (.ref T), some (.ref P), some (.int s), none], [.ref T], (HD, m_1, ml, mr))) rfl ?_
  refine wp_getr rfl (shT hT) rfl hr ?_
  refine wp_steps 2 (t' := (9, [some (.ref T), some (.ref P), some (.int s), none], [.ref T, .int 1, .ref (ρ)], (HD, m_1, ml, mr))) rfl ?_
  refine wp_getr rfl (shT hT) rfl (hM _ (mlT3 hT)) ?_
  refine wp_calv (as := [.int 1, .ref (T + 2)]) rfl rfl rfl (Nat.le_of_ble_eq_true rfl) (shX hρ) (c_value1 (mi := m_1) hM hρ (shTn hT) (scr_ne hT hρ hP).2.1.2.2 (scr_X z1 hT hρ hP hx)) (by decide) ?_
  rintro _ _ ⟨m_2, e_3, rfl, rfl⟩
  have z2 : scr T ρ mi m_2 := scr_tr z1 fun k j _ h2 => e_3 k j h2
  rw [tvC_six (cs := c1) e_2]
  have z3 : True := trivial
  show aWP _ _ (11, [some (.ref T), some (.ref P), some (.int s), none], [.int (tvC c1 (nmF (mi (P + 1) s.toNatClampNeg) (mi (T + 1) s.toNatClampNeg) 0 (mi P 1) (mi T 1) (mi P 2)))], (HD, m_2, ml, mr)) _
  refine wp_steps 2 (t' := (13, [some (.ref T), some (.ref P), some (.int s), none], [.int 99, .int 0, .int (tvC c1 (nmF (mi (P + 1) s.toNatClampNeg) (mi (T + 1) s.toNatClampNeg) 0 (mi P 1) (mi T 1) (mi P 2)))], (HD, m_2, ml, mr))) rfl ?_
  refine wp_cal (as := [.int (tvC c1 (nmF (mi (P + 1) s.toNatClampNeg) (mi (T + 1) s.toNatClampNeg) 0 (mi P 1) (mi T 1) (mi P 2))), .int 0, .int 99]) rfl rfl rfl (Nat.le_of_ble_eq_true rfl) (c_bounded (by decide)) (by decide) ?_
  rintro _ _ ⟨rfl, rfl⟩
  show aWP _ _ (14, [some (.ref T), some (.ref P), some (.int s), none], [.int (cl 0 99 (tvC c1 (nmF (mi (P + 1) s.toNatClampNeg) (mi (T + 1) s.toNatClampNeg) 0 (mi P 1) (mi T 1) (mi P 2))))], (HD, m_2, ml, mr)) _
  refine wp_steps 3 (t' := (17, [some (.ref T), some (.ref P), some (.int s), some (.int (cl 0 99 (tvC c1 (nmF (mi (P + 1) s.toNatClampNeg) (mi (T + 1) s.toNatClampNeg) 0 (mi P 1) (mi T 1) (mi P 2)))))], [.int (cl 0 99 (tvC c1 (nmF (mi (P + 1) s.toNatClampNeg) (mi (T + 1) s.toNatClampNeg) 0 (mi P 1) (mi T 1) (mi P 2)))), .ref P], (HD, m_2, ml, mr))) rfl ?_
  refine wp_calv (as := [.int (cl 0 99 (tvC c1 (nmF (mi (P + 1) s.toNatClampNeg) (mi (T + 1) s.toNatClampNeg) 0 (mi P 1) (mi T 1) (mi P 2))))]) rfl rfl rfl (Nat.le_of_ble_eq_true rfl) (shP hP) (c_forgetsOf (mi := m_2) hP) (by decide) ?_
  rintro _ _ ⟨rfl, rfl⟩
  show aWP _ _ (18, [some (.ref T), some (.ref P), some (.int s), some (.int (cl 0 99 (tvC c1 (nmF (mi (P + 1) s.toNatClampNeg) (mi (T + 1) s.toNatClampNeg) 0 (mi P 1) (mi T 1) (mi P 2)))))], [.int (gOf (m_2 P 0) (m_2 P 1) (cl 0 99 (tvC c1 (nmF (mi (P + 1) s.toNatClampNeg) (mi (T + 1) s.toNatClampNeg) 0 (mi P 1) (mi T 1) (mi P 2)))))], (HD, m_2, ml, mr)) _
  refine wp_steps 2 (t' := (20, [some (.ref T), some (.ref P), some (.int s), some (.int (cl 0 99 (tvC c1 (nmF (mi (P + 1) s.toNatClampNeg) (mi (T + 1) s.toNatClampNeg) 0 (mi P 1) (mi T 1) (mi P 2)))))], [.int 99, .int 0, .int (gOf (m_2 P 0) (m_2 P 1) (cl 0 99 (tvC c1 (nmF (mi (P + 1) s.toNatClampNeg) (mi (T + 1) s.toNatClampNeg) 0 (mi P 1) (mi T 1) (mi P 2)))))], (HD, m_2, ml, mr))) rfl ?_
  refine wp_cal (as := [.int (gOf (m_2 P 0) (m_2 P 1) (cl 0 99 (tvC c1 (nmF (mi (P + 1) s.toNatClampNeg) (mi (T + 1) s.toNatClampNeg) 0 (mi P 1) (mi T 1) (mi P 2))))), .int 0, .int 99]) rfl rfl rfl (Nat.le_of_ble_eq_true rfl) (c_bounded (by decide)) (by decide) ?_
  rintro _ _ ⟨rfl, rfl⟩
  show aWP _ _ (21, [some (.ref T), some (.ref P), some (.int s), some (.int (cl 0 99 (tvC c1 (nmF (mi (P + 1) s.toNatClampNeg) (mi (T + 1) s.toNatClampNeg) 0 (mi P 1) (mi T 1) (mi P 2)))))], [.int (cl 0 99 (gOf (m_2 P 0) (m_2 P 1) (cl 0 99 (tvC c1 (nmF (mi (P + 1) s.toNatClampNeg) (mi (T + 1) s.toNatClampNeg) 0 (mi P 1) (mi T 1) (mi P 2))))))], (HD, m_2, ml, mr)) _
  refine wp_ret rfl rfl ⟨⟨Nat.le_refl _, Nat.le_refl _⟩, ?_⟩
  exact ⟨m_2, z2, rfl, by simp only [scr_P z2 hT hρ hP]; rfl⟩
set_option maxRecDepth 20000 in
set_option maxHeartbeats 1000000 in
theorem c_nerve {X : aXt × Value} {mi : Nat → Nat → Int32} {ml : Nat → Nat → Int64} {mr : Nat → Nat → Option Nat} (hM : MRok mr) {T P ρ : Nat} {c0 c1 c2 : List Int32} (hT : T ∈ TOWNS) (hP : P ∈ PUPS) (hρ : ρ ∈ TXS) (hr : mr T 2 = some ρ) (hx : TXok mi ρ c0 c1 c2) {s : Int32} (hs : aixn s 8 = true) : aCW X 3 58 [.ref T, .ref P, .int s] (HD, mi, ml, mr) (fun r h' => ∃ m', scr T ρ mi m' ∧ h' = (HD, m', ml, mr) ∧ r = some (.int (atF (neF c2) mi T P s.toNatClampNeg))) := by
  refine cw_of (cd := cd_X5_nerve) (nL := 3) rfl rfl ?_
  show aWP _ _ (0, [some (.ref T), some (.ref P), some (.int s)], [], (HD, mi, ml, mr)) _
  refine wp_steps 4 (t' := (4, [some (.ref T), some (.ref P), some (.int s)], [.int 0, .int s, .ref P, .ref T], (HD, mi, ml, mr))) rfl ?_
  refine wp_calv (as := [.ref P, .int s, .int 0]) rfl rfl rfl (Nat.le_of_ble_eq_true rfl) (shT hT) (c_name (mi := mi) hM hT hP hs) (by decide) ?_
  rintro _ _ ⟨m_1, rfl, rfl, e_1, e_2⟩
  have z1 : scr T ρ mi m_1 := fun k j h1 _ => e_1 k j h1
  show aWP _ _ (5, [some (.ref T), some (.ref P), some (.int s)], [], (HD, m_1, ml, mr)) _
  refine wp_steps 2 (t' := (7, [some (.ref T), some (.ref P), some (.int s)], [.ref T, .ref P], (HD, m_1, ml, mr))) rfl ?_
  refine wp_getr rfl (shT hT) rfl hr ?_
  refine wp_steps 2 (t' := (10, [some (.ref T), some (.ref P), some (.int s)], [.ref T, .int 2, .ref (ρ), .ref P], (HD, m_1, ml, mr))) rfl ?_
  refine wp_getr rfl (shT hT) rfl (hM _ (mlT3 hT)) ?_
  refine wp_calv (as := [.int 2, .ref (T + 2)]) rfl rfl rfl (Nat.le_of_ble_eq_true rfl) (shX hρ) (c_value2 (mi := m_1) hM hρ (shTn hT) (scr_ne hT hρ hP).2.1.2.2 (scr_X z1 hT hρ hP hx)) (by decide) ?_
  rintro _ _ ⟨m_2, e_3, rfl, rfl⟩
  have z2 : scr T ρ mi m_2 := scr_tr z1 fun k j _ h2 => e_3 k j h2
  rw [tvC_six (cs := c2) e_2]
  have z3 : True := trivial
  show aWP _ _ (12, [some (.ref T), some (.ref P), some (.int s)], [.int (tvC c2 (nmF (mi (P + 1) s.toNatClampNeg) (mi (T + 1) s.toNatClampNeg) 0 (mi P 1) (mi T 1) (mi P 2))), .ref P], (HD, m_2, ml, mr)) _
  refine wp_steps 2 (t' := (14, [some (.ref T), some (.ref P), some (.int s)], [.int 99, .int (-99), .int (tvC c2 (nmF (mi (P + 1) s.toNatClampNeg) (mi (T + 1) s.toNatClampNeg) 0 (mi P 1) (mi T 1) (mi P 2))), .ref P], (HD, m_2, ml, mr))) rfl ?_
  refine wp_cal (as := [.int (tvC c2 (nmF (mi (P + 1) s.toNatClampNeg) (mi (T + 1) s.toNatClampNeg) 0 (mi P 1) (mi T 1) (mi P 2))), .int (-99), .int 99]) rfl rfl rfl (Nat.le_of_ble_eq_true rfl) (c_bounded (by decide)) (by decide) ?_
  rintro _ _ ⟨rfl, rfl⟩
  show aWP _ _ (15, [some (.ref T), some (.ref P), some (.int s)], [.int (cl (-99) 99 (tvC c2 (nmF (mi (P + 1) s.toNatClampNeg) (mi (T + 1) s.toNatClampNeg) 0 (mi P 1) (mi T 1) (mi P 2)))), .ref P], (HD, m_2, ml, mr)) _
  refine wp_calv (as := [.int (cl (-99) 99 (tvC c2 (nmF (mi (P + 1) s.toNatClampNeg) (mi (T + 1) s.toNatClampNeg) 0 (mi P 1) (mi T 1) (mi P 2))))]) rfl rfl rfl (Nat.le_of_ble_eq_true rfl) (shP hP) (c_nerveOf (mi := m_2) hP) (by decide) ?_
  rintro _ _ ⟨rfl, rfl⟩
  show aWP _ _ (16, [some (.ref T), some (.ref P), some (.int s)], [.int (nOf (m_2 P 0) (m_2 P 1) (m_2 P 2) (cl (-99) 99 (tvC c2 (nmF (mi (P + 1) s.toNatClampNeg) (mi (T + 1) s.toNatClampNeg) 0 (mi P 1) (mi T 1) (mi P 2)))))], (HD, m_2, ml, mr)) _
  refine wp_ret rfl rfl ⟨⟨Nat.le_refl _, Nat.le_refl _⟩, ?_⟩
  exact ⟨m_2, z2, rfl, by simp only [scr_P z2 hT hρ hP]; rfl⟩
set_option maxRecDepth 20000 in
set_option maxHeartbeats 1000000 in
theorem c_margin {X : aXt × Value} {mi : Nat → Nat → Int32} {ml : Nat → Nat → Int64} {mr : Nat → Nat → Option Nat} (hM : MRok mr) {T P ρ : Nat} {c0 c1 c2 : List Int32} (hT : T ∈ TOWNS) (hP : P ∈ PUPS) (hρ : ρ ∈ TXS) (hr : mr T 2 = some ρ) (hx : TXok mi ρ c0 c1 c2) {s : Int32} (hs : aixn s 8 = true) : aCW X 4 59 [.ref T, .ref P, .int s] (HD, mi, ml, mr) (fun r h' => ∃ m', scr T ρ mi m' ∧ h' = (HD, m', ml, mr) ∧ r = some (.int (atF (maF c2) mi T P s.toNatClampNeg))) := by
  refine cw_of (cd := cd_X5_margin) (nL := 3) rfl rfl ?_
  show aWP _ _ (0, [some (.ref T), some (.ref P), some (.int s)], [], (HD, mi, ml, mr)) _
  refine wp_steps 1 (t' := (1, [some (.ref T), some (.ref P), some (.int s)], [.ref P], (HD, mi, ml, mr))) rfl ?_
  refine wp_getr rfl (shP hP) rfl (hM _ (mlP hP)) ?_
  refine wp_steps 1 (t' := (3, [some (.ref T), some (.ref P), some (.int s)], [.int s, .ref (P + 1)], (HD, mi, ml, mr))) rfl ?_
  refine wp_iald rfl (shPs hP) hs ?_
  refine wp_steps 3 (t' := (7, [some (.ref T), some (.ref P), some (.int s)], [.int s, .ref P, .ref T, .int (mi (P + 1) s.toNatClampNeg)], (HD, mi, ml, mr))) rfl ?_
  refine wp_calv (as := [.ref P, .int s]) rfl rfl rfl (Nat.le_of_ble_eq_true rfl) (shT hT) (c_nerve (mi := mi) hM hT hP hρ hr hx hs) (by decide) ?_
  rintro _ _ ⟨m_2, z2, rfl, rfl⟩
  show aWP _ _ (8, [some (.ref T), some (.ref P), some (.int s)], [.int (atF (neF c2) mi T P s.toNatClampNeg), .int (mi (P + 1) s.toNatClampNeg)], (HD, m_2, ml, mr)) _
  refine wp_steps 2 (t' := (10, [some (.ref T), some (.ref P), some (.int s)], [.ref T, .int ((mi (P + 1) s.toNatClampNeg) + (atF (neF c2) mi T P s.toNatClampNeg))], (HD, m_2, ml, mr))) rfl ?_
  refine wp_getr rfl (shT hT) rfl (hM _ (mlT0 hT)) ?_
  refine wp_steps 1 (t' := (12, [some (.ref T), some (.ref P), some (.int s)], [.int s, .ref (T + 1), .int ((mi (P + 1) s.toNatClampNeg) + (atF (neF c2) mi T P s.toNatClampNeg))], (HD, m_2, ml, mr))) rfl ?_
  refine wp_iald rfl (shTh hT) hs ?_
  refine wp_steps 1 (t' := (14, [some (.ref T), some (.ref P), some (.int s)], [.int (((mi (P + 1) s.toNatClampNeg) + (atF (neF c2) mi T P s.toNatClampNeg)) - (m_2 (T + 1) s.toNatClampNeg))], (HD, m_2, ml, mr))) rfl ?_
  refine wp_ret rfl rfl ⟨⟨Nat.le_refl _, Nat.le_refl _⟩, ?_⟩
  exact ⟨m_2, z2, rfl, by rw [scr_T1 z2 hT hρ hP]; rfl⟩
