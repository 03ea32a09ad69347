/-! what holds between class and reference (written by wip/whole/mkinv0.py) -/
/-- the town: hards, day -/
abbrev tS := (Nat → Int32) × Int32
/-- texts: how many, the rule, their parts -/
abbrev xS := Nat × Nat × cT
abbrev bS := Nat × (Nat → Int32)
/-- kept: how many, the rule, the town, the learners -/
abbrev kS := Nat × Nat × tS × (Nat → pU)
/-- sheets: sort, size, items -/
abbrev hS := Nat → Int32 × Nat × (Nat → Int32)
def cIA (m : Nat → Nat → Int32) (A : lS) : Prop := m 0 5 = nI A.1 ∧ ∀ p, p < A.1 → puC m (35 + 4 * p) = A.2 p
def rIA (m : Nat → Nat → Int32) (A : lS) : Prop := m 84 12 = nI A.1 ∧ ∀ p, p < A.1 → puR m p = A.2 p
def cIT (m : Nat → Nat → Int32) (T : tS) : Prop := c8 (m 64) = T.1 ∧ m 63 1 = T.2
def rIT (m : Nat → Nat → Int32) (T : tS) : Prop := c8 (m 88) = T.1 ∧ m 84 7 = T.2
def cIX (m : Nat → Nat → Int32) (mr : Nat → Nat → Option Nat) (X : xS) : Prop := m 0 1 = nI X.1 ∧ mr 63 2 = some (11 + 4 * X.2.1) ∧ (∀ t, t < 6 → m (11 + 4 * t) 0 = nI t) ∧ ∀ t, t < X.1 → TXok m (11 + 4 * t) (X.2.2 t).1 (X.2.2 t).2.1 (X.2.2 t).2.2
def rIX (m : Nat → Nat → Int32) (X : xS) : Prop := m 84 3 = nI X.1 ∧ m 84 4 = nI X.2.1 ∧ ∀ t, t < X.1 → ∃ n v0, RTX m t n v0 (X.2.2 t).1 (X.2.2 t).2.1 (X.2.2 t).2.2
def cIB (m : Nat → Nat → Int32) (B : bS) : Prop := m 2 0 = nI B.1 ∧ ∀ j, j < B.1 → m 3 j = B.2 j
def rIB (m : Nat → Nat → Int32) (B : bS) : Prop := m 84 6 = nI B.1 ∧ ∀ j, j < B.1 → m 87 j = B.2 j
/-- kept p without its kind -/
def puK (m : Nat → Nat → Int32) (p : Nat) : Int32 × Int32 × Int32 × (Nat → Int32) := (m 95 p, m 96 (10 * p + 8), m 96 (10 * p + 9), c8 (fun j => m 96 (10 * p + j)))
def cIK (m : Nat → Nat → Int32) (mr : Nat → Nat → Option Nat) : Option kS → Prop
  | none => m 0 8 = -1
  | some K => m 0 8 = nI K.1 ∧ mr 66 2 = some (11 + 4 * K.2.1) ∧ c8 (m 67) = K.2.2.1.1 ∧ m 66 1 = K.2.2.1.2 ∧ ∀ p, p < K.1 → puC m (37 + 4 * p) = K.2.2.2 p
def rIK (m : Nat → Nat → Int32) : Option kS → Prop
  | none => m 84 34 = -1
  | some K => m 84 34 = nI K.1 ∧ m 84 36 = nI K.2.1 ∧ c8 (m 94) = K.2.2.1.1 ∧ m 84 35 = K.2.2.1.2 ∧ ∀ p, p < K.1 → puK m p = (K.2.2.2 p).2
def cIH (m : Nat → Nat → Int32) (H : hS) : Prop := ∀ s, s < 4 → m (55 + 2 * s) 0 = (H s).1 ∧ m (55 + 2 * s) 1 = nI (H s).2.1 ∧ ∀ j, j < (H s).2.1 → m (56 + 2 * s) j = (H s).2.2 j
def rIH (m : Nat → Nat → Int32) (H : hS) : Prop := ∀ s, s < 4 → ((H s).1 = -1 → m 97 s = 0) ∧ (¬ (H s).1 = -1 → m 97 s = 1 ∧ m 98 s = (H s).1 ∧ m 99 s = nI (H s).2.1 ∧ ∀ j, j < (H s).2.1 → m 100 (40 * s + j) = (H s).2.2 j)
/-- the cells that each speaks of -/
def uA (k j : Nat) : Prop := k = 0 ∧ j = 5 ∨ (35 ≤ k ∧ k < 55 ∧ (k % 4 = 3 ∨ k % 4 = 0))
def uT (k j : Nat) : Prop := k = 64 ∨ k = 63 ∧ j = 1
def uX (k j : Nat) : Prop := k = 0 ∧ j = 1 ∨ (11 ≤ k ∧ k < 35 ∧ (k % 4 = 3 ∧ j = 0 ∨ k % 4 = 0 ∨ k % 4 = 1))
def uB (k j : Nat) : Prop := k = 2 ∧ j = 0 ∨ k = 3
def uK (k j : Nat) : Prop := k = 0 ∧ j = 8 ∨ k = 66 ∧ j = 1 ∨ k = 67 ∨ (35 ≤ k ∧ k < 55 ∧ (k % 4 = 1 ∨ k % 4 = 2))
def uH (k _j : Nat) : Prop := 55 ≤ k ∧ k < 63
def wA (k j : Nat) : Prop := k = 84 ∧ j = 12 ∨ k = 89 ∨ k = 90 ∨ k = 91
def wT (k j : Nat) : Prop := k = 88 ∨ k = 84 ∧ j = 7
def wX (k j : Nat) : Prop := k = 84 ∧ (j = 3 ∨ j = 4) ∨ k = 85 ∨ k = 86
def wB (k j : Nat) : Prop := k = 84 ∧ j = 6 ∨ k = 87
def wK (k j : Nat) : Prop := k = 84 ∧ 34 ≤ j ∧ j ≤ 36 ∨ k = 94 ∨ k = 95 ∨ k = 96
def wH (k _j : Nat) : Prop := 97 ≤ k ∧ k ≤ 100
/-- alike where u -/
def onU (u : Nat → Nat → Prop) (m m' : Nat → Nat → Int32) : Prop := ∀ k j, u k j → m' k j = m k j
theorem onU.row {u : Nat → Nat → Prop} {m m' : Nat → Nat → Int32} (h : onU u m m') {k : Nat} (hk : ∀ j, u k j) : m' k = m k := funext fun j => h k j (hk j)
theorem puC_e {m m' : Nat → Nat → Int32} {P : Nat} (h0 : m' P = m P) (h1 : m' (P + 1) = m (P + 1)) : puC m' P = puC m P := by
  unfold puC
  rw [h0, h1]
theorem cIA.on {m m' : Nat → Nat → Int32} {A : lS} (hA : A.1 ≤ 5) (h : cIA m A) (f : onU uA m m') : cIA m' A := ⟨(f 0 5 (Or.inl ⟨rfl, rfl⟩)).trans h.1, fun p hp => (puC_e (f.row fun j => by unfold uA; omega) (f.row fun j => by unfold uA; omega)).trans (h.2 p hp)⟩
theorem rIA.on {m m' : Nat → Nat → Int32} {A : lS} (h : rIA m A) (f : onU wA m m') : rIA m' A := ⟨(f 84 12 (by unfold wA; omega)).trans h.1, fun p hp => by
  rw [← h.2 p hp]
  unfold puR
  rw [f.row (k := 89) (fun j => by unfold wA; omega), f.row (k := 90) (fun j => by unfold wA; omega), f.row (k := 91) (fun j => by unfold wA; omega)]⟩
theorem cIT.on {m m' : Nat → Nat → Int32} {T : tS} (h : cIT m T) (f : onU uT m m') : cIT m' T := ⟨by rw [f.row (k := 64) (fun j => Or.inl rfl)]; exact h.1, (f 63 1 (Or.inr ⟨rfl, rfl⟩)).trans h.2⟩
theorem rIT.on {m m' : Nat → Nat → Int32} {T : tS} (h : rIT m T) (f : onU wT m m') : rIT m' T := ⟨by rw [f.row (k := 88) (fun j => Or.inl rfl)]; exact h.1, (f 84 7 (Or.inr ⟨rfl, rfl⟩)).trans h.2⟩
theorem cIX.on {m m' : Nat → Nat → Int32} {mr mr' : Nat → Nat → Option Nat} {X : xS} (hX : X.1 ≤ 6) (h : cIX m mr X) (f : onU uX m m') (g : mr' 63 2 = mr 63 2) : cIX m' mr' X := ⟨(f 0 1 (Or.inl ⟨rfl, rfl⟩)).trans h.1, g.trans h.2.1, fun t ht => (f _ _ (by unfold uX; omega)).trans (h.2.2.1 t ht), fun t ht => (h.2.2.2 t ht).kept (fun j => f _ _ (by unfold uX; omega)) (fun j => f _ _ (by unfold uX; omega))⟩
theorem rIX.on {m m' : Nat → Nat → Int32} {X : xS} (h : rIX m X) (f : onU wX m m') : rIX m' X := ⟨(f 84 3 (by unfold wX; omega)).trans h.1, (f 84 4 (by unfold wX; omega)).trans h.2.1, fun t ht => by
  obtain ⟨n, v0, q⟩ := h.2.2 t ht
  exact ⟨n, v0, q.fr (fun j _ => f _ _ (by unfold wX; omega)) (f _ _ (by unfold wX; omega))⟩⟩
theorem cIB.on {m m' : Nat → Nat → Int32} {B : bS} (h : cIB m B) (f : onU uB m m') : cIB m' B := ⟨(f 2 0 (Or.inl ⟨rfl, rfl⟩)).trans h.1, fun j hj => (f 3 j (Or.inr rfl)).trans (h.2 j hj)⟩
theorem rIB.on {m m' : Nat → Nat → Int32} {B : bS} (h : rIB m B) (f : onU wB m m') : rIB m' B := ⟨(f 84 6 (Or.inl ⟨rfl, rfl⟩)).trans h.1, fun j hj => (f 87 j (Or.inr rfl)).trans (h.2 j hj)⟩
theorem cIK.on {m m' : Nat → Nat → Int32} {mr mr' : Nat → Nat → Option Nat} {K : Option kS} (hK : ∀ q, K = some q → q.1 ≤ 5) (h : cIK m mr K) (f : onU uK m m') (g : mr' 66 2 = mr 66 2) : cIK m' mr' K := by
  cases K with
  | none => exact (f 0 8 (Or.inl ⟨rfl, rfl⟩)).trans h
  | some q =>
    have h5 := hK q rfl
    obtain ⟨a1, a2, a3, a4, a5⟩ := h
    exact ⟨(f 0 8 (Or.inl ⟨rfl, rfl⟩)).trans a1, g.trans a2, by rw [f.row (k := 67) (fun j => by unfold uK; omega)]; exact a3, (f 66 1 (by unfold uK; omega)).trans a4, fun p hp => (puC_e (f.row fun j => by unfold uK; omega) (f.row fun j => by unfold uK; omega)).trans (a5 p hp)⟩
theorem rIK.on {m m' : Nat → Nat → Int32} {K : Option kS} (h : rIK m K) (f : onU wK m m') : rIK m' K := by
  cases K with
  | none => exact (f 84 34 (by unfold wK; omega)).trans h
  | some q =>
    obtain ⟨a1, a2, a3, a4, a5⟩ := h
    refine ⟨(f 84 34 (by unfold wK; omega)).trans a1, (f 84 36 (by unfold wK; omega)).trans a2, by rw [f.row (k := 94) (fun j => by unfold wK; omega)]; exact a3, (f 84 35 (by unfold wK; omega)).trans a4, fun p hp => ?_⟩
    rw [← a5 p hp]
    unfold puK
    rw [f.row (k := 95) (fun j => by unfold wK; omega), f.row (k := 96) (fun j => by unfold wK; omega)]
theorem cIH.on {m m' : Nat → Nat → Int32} {H : hS} (h : cIH m H) (f : onU uH m m') : cIH m' H := fun s hs => ⟨(f _ _ (by unfold uH; omega)).trans (h s hs).1, (f _ _ (by unfold uH; omega)).trans (h s hs).2.1, fun j hj => (f _ _ (by unfold uH; omega)).trans ((h s hs).2.2 j hj)⟩
theorem rIH.on {m m' : Nat → Nat → Int32} {H : hS} (h : rIH m H) (f : onU wH m m') : rIH m' H := fun s hs => ⟨fun e => (f _ _ (by unfold wH; omega)).trans ((h s hs).1 e), fun e => by
  obtain ⟨a1, a2, a3, a4⟩ := (h s hs).2 e
  exact ⟨(f _ _ (by unfold wH; omega)).trans a1, (f _ _ (by unfold wH; omega)).trans a2, (f _ _ (by unfold wH; omega)).trans a3, fun j hj => (f _ _ (by unfold wH; omega)).trans (a4 j hj)⟩⟩
/-- the class's side -/
def CI (m : Nat → Nat → Int32) (mr : Nat → Nat → Option Nat) (A : lS) (T : tS) (X : xS) (B : bS) (K : Option kS) (H : hS) : Prop := cIA m A ∧ cIT m T ∧ cIX m mr X ∧ cIB m B ∧ cIK m mr K ∧ cIH m H
/-- the reference's -/
def RI (m : Nat → Nat → Int32) (A : lS) (T : tS) (X : xS) (B : bS) (K : Option kS) (H : hS) : Prop := rIA m A ∧ rIT m T ∧ rIX m X ∧ rIB m B ∧ rIK m K ∧ rIH m H
/-- within bounds -/
def oA (A : lS) : Prop := A.1 ≤ 5 ∧ ∀ p, p < A.1 → okU (A.2 p)
def oX (X : xS) : Prop := X.1 ≤ 6 ∧ X.2.1 < X.1
def oB (B : bS) : Prop := B.1 ≤ 160 ∧ nnB B.2 B.1
def oK (A : lS) (X : xS) : Option kS → Prop
  | none => True
  | some K => K.1 ≤ A.1 ∧ K.2.1 < X.1 ∧ inR 0 999 K.2.2.1.2 ∧ ∀ p, p < K.1 → okU (K.2.2.2 p) ∧ (K.2.2.2 p).1 = (A.2 p).1
def oH (H : hS) : Prop := ∀ s, s < 4 → (H s).2.1 ≤ 40
def OK (A : lS) (T : tS) (X : xS) (B : bS) (K : Option kS) (H : hS) : Prop := oA A ∧ inR 0 999 T.2 ∧ oX X ∧ oB B ∧ oK A X K ∧ oH H
def INV (m : Nat → Nat → Int32) (mr : Nat → Nat → Option Nat) : Prop := MRok mr ∧ ∃ A T X B K H, CI m mr A T X B K H ∧ RI m A T X B K H ∧ OK A T X B K H
theorem oK.le {A : lS} {X : xS} {K : Option kS} (h : oK A X K) (hA : oA A) : ∀ q, K = some q → q.1 ≤ 5 := fun q e => by
  subst e
  exact Nat.le_trans h.1 hA.1
def uC (k j : Nat) : Prop := k < 84 ∧ k ∉ UCL ∧ ¬ (k = 63 ∧ j = 2)
theorem uC_all : ∀ k, k < 84 → ((35 ≤ k ∧ k < 55) ∨ k = 0 ∨ k = 64 ∨ k = 63 ∨ (11 ≤ k ∧ k < 35 ∧ (k % 4 = 3 ∨ k % 4 = 0 ∨ k % 4 = 1)) ∨ k = 2 ∨ k = 3 ∨ k = 66 ∨ k = 67 ∨ (55 ≤ k ∧ k < 63)) → k ∉ UCL := by
  intro k hk
  unfold UCL
  simp only [List.mem_cons, List.not_mem_nil, or_false]
  omega
/-- the class's side does not see what an answer uses -/
theorem CI.on {m m' : Nat → Nat → Int32} {mr mr' : Nat → Nat → Option Nat} {A : lS} {T : tS} {X : xS} {B : bS} {K : Option kS} {H : hS} (o : OK A T X B K H) (h : CI m mr A T X B K H) (f : ∀ k j, k < 84 → k ∉ UCL → m' k j = m k j) (g : mr' 63 2 = mr 63 2) (g2 : mr' 66 2 = mr 66 2) : CI m' mr' A T X B K H :=
  ⟨h.1.on o.1.1 (fun k j z => f k j (by unfold uA at z; omega) (uC_all k (by unfold uA at z; omega) (by unfold uA at z; omega))),
   h.2.1.on (fun k j z => f k j (by unfold uT at z; omega) (uC_all k (by unfold uT at z; omega) (by unfold uT at z; omega))),
   h.2.2.1.on o.2.2.1.1 (fun k j z => f k j (by unfold uX at z; omega) (uC_all k (by unfold uX at z; omega) (by unfold uX at z; omega))) g,
   h.2.2.2.1.on (fun k j z => f k j (by unfold uB at z; omega) (uC_all k (by unfold uB at z; omega) (by unfold uB at z; omega))),
   h.2.2.2.2.1.on (o.2.2.2.2.1.le o.1) (fun k j z => f k j (by unfold uK at z; omega) (uC_all k (by unfold uK at z; omega) (by unfold uK at z; omega))) g2,
   h.2.2.2.2.2.on (fun k j z => f k j (by unfold uH at z; omega) (uC_all k (by unfold uH at z; omega) (by unfold uH at z; omega)))⟩
theorem RI.on {m m' : Nat → Nat → Int32} {A : lS} {T : tS} {X : xS} {B : bS} {K : Option kS} {H : hS} (h : RI m A T X B K H) (f : ∀ k j, 84 ≤ k → ¬ (k = 84 ∧ (13 ≤ j ∧ j ≤ 27 ∨ j = 29)) → k ≠ 92 → k ≠ 93 → m' k j = m k j) : RI m' A T X B K H :=
  ⟨h.1.on (fun k j z => f k j (by unfold wA at z; omega) (by unfold wA at z; omega) (by unfold wA at z; omega) (by unfold wA at z; omega)),
   h.2.1.on (fun k j z => f k j (by unfold wT at z; omega) (by unfold wT at z; omega) (by unfold wT at z; omega) (by unfold wT at z; omega)),
   h.2.2.1.on (fun k j z => f k j (by unfold wX at z; omega) (by unfold wX at z; omega) (by unfold wX at z; omega) (by unfold wX at z; omega)),
   h.2.2.2.1.on (fun k j z => f k j (by unfold wB at z; omega) (by unfold wB at z; omega) (by unfold wB at z; omega) (by unfold wB at z; omega)),
   h.2.2.2.2.1.on (fun k j z => f k j (by unfold wK at z; omega) (by unfold wK at z; omega) (by unfold wK at z; omega) (by unfold wK at z; omega)),
   h.2.2.2.2.2.on (fun k j z => f k j (by unfold wH at z; omega) (by unfold wH at z; omega) (by unfold wH at z; omega) (by unfold wH at z; omega))⟩
theorem CI.Q {m m' : Nat → Nat → Int32} {mr : Nat → Nat → Option Nat} {A : lS} {T : tS} {X : xS} {B : bS} {K : Option kS} {H : hS} (o : OK A T X B K H) (h : CI m mr A T X B K H) (f : frQ m m') : CI m' mr A T X B K H := h.on o (fun k j a _ => f k j (by omega) (by omega) (by omega)) rfl rfl
theorem RI.Q {m m' : Nat → Nat → Int32} {A : lS} {T : tS} {X : xS} {B : bS} {K : Option kS} {H : hS} (h : RI m A T X B K H) (f : frQ m m') : RI m' A T X B K H := h.on (fun k j _ a b c => f k j a b c)
theorem U_84 {k : Nat} (h : 84 ≤ k) : k ∉ UCL := by
  unfold UCL
  simp only [List.mem_cons, List.not_mem_nil, or_false]
  omega
theorem RI.U {m m' : Nat → Nat → Int32} {A : lS} {T : tS} {X : xS} {B : bS} {K : Option kS} {H : hS} (h : RI m A T X B K H) (f : frm UCL m m') : RI m' A T X B K H := h.on (fun k j a _ _ _ => f k j (U_84 a))
theorem CI.U {m m' : Nat → Nat → Int32} {mr : Nat → Nat → Option Nat} {A : lS} {T : tS} {X : xS} {B : bS} {K : Option kS} {H : hS} (o : OK A T X B K H) (h : CI m mr A T X B K H) (f : frm UCL m m') (w : Option Nat) : CI m' (aup mr 73 2 w) A T X B K H := h.on o (fun k j _ a => f k j a) (mr_off (by decide) w) (mr_off (by decide) w)
/-- an answer of ints; of longs -/
def isI (v : Value) : Prop := ∃ x, v = .int x
def isL (v : Value) : Prop := ∃ x, v = .long x
/-- class and reference answer alike, and go on alike -/
def PRP (P : Value → Prop) (W : aXt × Value) (c r : Nat) (as : List Value) : Prop := ∀ m ml mr, INV m mr → aCW W 90 c (.ref 0 :: as) (HD, m, ml, mr) (fun v h' => ∃ v0 m1 w1 mr1, P v0 ∧ v = some v0 ∧ h' = (HD, m1, w1, mr1) ∧ aCW W 90 r (.ref 84 :: as) (HD, m1, w1, mr1) (fun v2 h2 => v2 = some v0 ∧ ∃ m2 w2, h2 = (HD, m2, w2, mr1) ∧ INV m2 mr1))
def PR (W : aXt × Value) (c r : Nat) (as : List Value) : Prop := PRP isI W c r as
def PRL (W : aXt × Value) (c r : Nat) (as : List Value) : Prop := PRP isL W c r as
/-- a question: nothing that holds is changed -/
theorem PR_q {P : Value → Prop} {W : aXt × Value} {c r : Nat} {as : List Value} {m : Nat → Nat → Int32} {ml : Nat → Nat → Int64} {mr : Nat → Nat → Option Nat} {A : lS} {T : tS} {X : xS} {B : bS} {K : Option kS} {H : hS} (hM : MRok mr) (o : OK A T X B K H) (hC : CI m mr A T X B K H) (hR : RI m A T X B K H) {v : Value} {d d2 : Nat} (hd : d ≤ 90) (hd2 : d2 ≤ 90) (k1 : aCW W d c (.ref 0 :: as) (HD, m, ml, mr) (qU m ml mr v)) (k2 : ∀ m1 w1 mr1, MRok mr1 → RI m1 A T X B K H → aCW W d2 r (.ref 84 :: as) (HD, m1, w1, mr1) (qR m1 mr1 v)) (hv : P v := by exact ⟨_, rfl⟩) : aCW W 90 c (.ref 0 :: as) (HD, m, ml, mr) (fun v h' => ∃ v0 m1 w1 mr1, P v0 ∧ v = some v0 ∧ h' = (HD, m1, w1, mr1) ∧ aCW W 90 r (.ref 84 :: as) (HD, m1, w1, mr1) (fun v2 h2 => v2 = some v0 ∧ ∃ m2 w2, h2 = (HD, m2, w2, mr1) ∧ INV m2 mr1)) := by
  refine cw_up hd (cw_mono k1 ?_)
  rintro r1 h1 ⟨e, m1, w, e2, f⟩
  have hM1 := mr_up hM (T := 73) (by decide) w
  have hR1 := hR.U f
  refine ⟨v, m1, ml, _, hv, e, e2, cw_up hd2 (cw_mono (k2 m1 ml _ hM1 hR1) ?_)⟩
  rintro r2 h2 ⟨e3, m2, w2, e4, f2⟩
  exact ⟨e3, m2, w2, e4, hM1, A, T, X, B, K, H, (hC.U o f w).Q o f2, hR1.Q f2, o⟩
/-- nothing is changed at all -/
theorem PR_s {P : Value → Prop} {W : aXt × Value} {c r : Nat} {as : List Value} {m : Nat → Nat → Int32} {ml : Nat → Nat → Int64} {mr : Nat → Nat → Option Nat} (hI : INV m mr) {v : Value} {d d2 : Nat} (hd : d ≤ 90) (hd2 : d2 ≤ 90) (k1 : aCW W d c (.ref 0 :: as) (HD, m, ml, mr) (fun r h' => r = some v ∧ h' = (HD, m, ml, mr))) (k2 : aCW W d2 r (.ref 84 :: as) (HD, m, ml, mr) (qR m mr v)) (hv : P v := by exact ⟨_, rfl⟩) : aCW W 90 c (.ref 0 :: as) (HD, m, ml, mr) (fun v h' => ∃ v0 m1 w1 mr1, P v0 ∧ v = some v0 ∧ h' = (HD, m1, w1, mr1) ∧ aCW W 90 r (.ref 84 :: as) (HD, m1, w1, mr1) (fun v2 h2 => v2 = some v0 ∧ ∃ m2 w2, h2 = (HD, m2, w2, mr1) ∧ INV m2 mr1)) := by
  obtain ⟨hM, A, T, X, B, K, H, hC, hR, o⟩ := hI
  refine cw_up hd (cw_mono k1 ?_)
  rintro r1 h1 ⟨e, e2⟩
  refine ⟨v, m, ml, mr, hv, e, e2, cw_up hd2 (cw_mono k2 ?_)⟩
  rintro r2 h2 ⟨e3, m2, w2, e4, f2⟩
  exact ⟨e3, m2, w2, e4, hM, A, T, X, B, K, H, hC.Q o f2, hR.Q f2, o⟩
theorem sm_qR {X : aXt × Value} {d c : Nat} {as : List Value} {m : Nat → Nat → Int32} {ml : Nat → Nat → Int64} {mr : Nat → Nat → Option Nat} {v : Value} (k : aCW X d c as (HD, m, ml, mr) (fun r h' => r = some v ∧ h' = (HD, m, ml, mr))) : aCW X d c as (HD, m, ml, mr) (qR m mr v) := cw_mono k (fun _ _ h => ⟨h.1, m, ml, h.2, frQ.rf m⟩)
theorem sm_qU {X : aXt × Value} {d c : Nat} {as : List Value} {m : Nat → Nat → Int32} {ml : Nat → Nat → Int64} {mr : Nat → Nat → Option Nat} {v : Value} (k : aCW X d c as (HD, m, ml, mr) (fun r h' => r = some v ∧ h' = (HD, m, ml, mr))) : aCW X d c as (HD, m, ml, mr) (qU m ml mr v) := cw_mono k (fun r h' h => ⟨h.1, m, mr 73 2, h.2.trans (by
  have e : aup mr 73 2 (mr 73 2) = mr := by
    funext k j
    unfold aup
    by_cases e1 : k = 73
    · by_cases e2 : j = 2
      · rw [if_pos e1, if_pos e2, e1, e2]
      · rw [if_pos e1, if_neg e2]
    · rw [if_neg e1]
  rw [e]), frm.rf UCL m⟩)
/-- a learner of these -/
theorem one_p {x : Int32} {N : Nat} (h : aixn x N = true) : ∃ p, x = nI p ∧ p < N := ⟨_, aix_eq h⟩
theorem pAt_p {p : Nat} (h : p < 5) : pAt (nI p) = 35 + 4 * p := by
  unfold pAt
  rw [nI_clamp (by omega)]
theorem sAt_s {s : Nat} (h : s < 4) : sAt (nI s) = 55 + 2 * s := by
  unfold sAt
  rw [nI_clamp (by omega)]
theorem tAt_t {t : Nat} (h : t < 6) : tAt (nI t) = 11 + 4 * t := by
  unfold tAt
  rw [nI_clamp (by omega)]
theorem tx_mem {t : Nat} (h : t < 6) : 11 + 4 * t ∈ TXS := (tAt_ml t h).2
theorem rIX.ru {m : Nat → Nat → Int32} {X : xS} (h : rIX m X) (o : oX X) : RUX m (X.2.2 X.2.1).1 (X.2.2 X.2.1).2.1 (X.2.2 X.2.1).2.2 := by
  obtain ⟨n, v0, q⟩ := h.2.2 X.2.1 o.2
  exact ⟨X.2.1, n, v0, Nat.lt_of_lt_of_le o.2 o.1, h.2.1, q⟩
/-- the town as it is thought of -/
def tV (T : tS) (X : xS) : tW := (T.1, T.2, (X.2.2 X.2.1).1, (X.2.2 X.2.1).2.1, (X.2.2 X.2.1).2.2)
theorem cIT.tv {m : Nat → Nat → Int32} {T : tS} (h : cIT m T) (X : xS) : twC m 63 (X.2.2 X.2.1).1 (X.2.2 X.2.1).2.1 (X.2.2 X.2.1).2.2 = tV T X := by
  unfold twC tV
  rw [show 63 + 1 = 64 from rfl, h.1, h.2]
theorem rIT.tv {m : Nat → Nat → Int32} {T : tS} (h : rIT m T) (X : xS) : twR m (X.2.2 X.2.1).1 (X.2.2 X.2.1).2.1 (X.2.2 X.2.1).2.2 = tV T X := by
  unfold twR tV
  rw [h.1, h.2]
