/-! the two constructors; what holds at first (written by wip/whole/mkinit.py) -/
def tb0 (sv : Value) (mid : Nat) : Option (List aOp × Nat) := if mid = 9 then none else aTb (fun _ => none, sv) mid
set_option maxRecDepth 100000 in
theorem tb_10 (x x' : aXt) (sv : Value) : ∀ mid, ¬ mid = 9 → aTb (x, sv) mid = aTb (x', sv) mid
  | 0, _ => rfl
  | 1, _ => rfl
  | 2, _ => rfl
  | 3, _ => rfl
  | 4, _ => rfl
  | 5, _ => rfl
  | 6, _ => rfl
  | 7, _ => rfl
  | 8, _ => rfl
  | 9, h => absurd rfl h
  | _ + 10, _ => rfl
theorem tb0_le (x : aXt) {sv : Value} : ∀ mid c, tb0 sv mid = some c → aTb (x, sv) mid = some c := fun mid c h => by
  unfold tb0 at h
  by_cases e : mid = 9
  · rw [if_pos e] at h; cases h
  · rw [if_neg e] at h
    rw [← h]
    exact tb_10 x _ sv mid e
theorem aEx_tb {tb tb' : Nat → Option (List aOp × Nat)} (ht : ∀ mid c, tb mid = some c → tb' mid = some c) : ∀ {d mid : Nat} {as : List Value} {h : aM} {v : Option Value} {h1 : aM}, aEx tb d mid as h v h1 → aEx tb' d mid as h v h1
  | 0, _, _, _, _, _, q => absurd q (by unfold aEx; exact fun z => z)
  | d + 1, _, _, _, _, _, q => by
    unfold aEx at q ⊢
    obtain ⟨q1, cd, nL, n, q2, q3, q4⟩ := q
    exact ⟨q1, cd, nL, n, ht _ _ q2, q3, aRn_mono (fun _ _ _ _ _ z => aEx_tb ht z) q4⟩
/-- both constructors' run -/
def in0 (sv : Value) : Option (aM × aM) := match axe (tb0 sv) 5000 40 65 [.ref 0] (anew aH0 (0, 6) (anf 6)) with
  | some (none, h) => match axe (tb0 sv) 5000 40 113 [.ref 84] (anew h (0, 7) (anf 7)) with
    | some (none, h2) => some (h, h2)
    | _ => none
  | _ => none
theorem in0_run {sv : Value} {q : aM × aM} (h : in0 sv = some q) (x : aXt) : aEx (aTb (x, sv)) 40 65 [.ref 0] (anew aH0 (0, 6) (anf 6)) none q.1 ∧ aEx (aTb (x, sv)) 40 113 [.ref 84] (anew q.1 (0, 7) (anf 7)) none q.2 := by
  unfold in0 at h
  split at h
  · rename_i h1 e1
    split at h
    · rename_i h2 e2
      cases h
      exact ⟨aEx_tb (tb0_le x) (axe_sound e1), aEx_tb (tb0_le x) (axe_sound e2)⟩
    · cases h
  · cases h
def LB0 : List Int32 := [116, 101, 97, 99, 104, 101, 115, 32, 56, 32, 45, 32, 100, 111, 110, 101, 32, 43, 32, 104, 101, 108, 112, 32, 59, 32, 102, 97, 100, 101, 115, 32, 49, 32, 59, 32, 110, 101, 114, 118, 101, 115, 32, 53, 32, 59, 32, 32]
def bB0 : Nat → Int32 := byN (fun j => LB0.getD j 0) 48
def e0T : List Int32 := (r1F bB0 48 0).2.2.2.2.2
def e1T : List Int32 := ((r2F bB0 48 0).2.2.2.2.2).drop e0T.length
def e2T : List Int32 := ((r3F bB0 48 0).2.2.2.2.2).drop (e0T.length + e1T.length)
set_option maxRecDepth 1000000 in
theorem t0_ok : (∀ p, p < 48 → ¬ bB0 p < 0) ∧ (rfF bB0 48 0).1 = true ∧ (r2F bB0 48 0).2.2.2.2.2 = e0T ++ e1T ∧ (r3F bB0 48 0).2.2.2.2.2 = e0T ++ e1T ++ e2T ∧ e0T.length + e1T.length + e2T.length ≤ 160 ∧ pfH e0T 0 = some 1 ∧ pfH e1T 0 = some 1 ∧ pfH e2T 0 = some 1 := by decide +kernel
/-- what is looked at -/
def ck1 (h : aM) : Prop := h.1 = HD ∧ (∀ q ∈ MRL, h.2.2.2 q.1 q.2.1 = some q.2.2)
def ck2 (m : Nat → Nat → Int32) (mr : Nat → Nat → Option Nat) : Prop := m 0 5 = 0 ∧ m 84 12 = 0 ∧ (∀ j, j < 8 → m 64 j = m 88 j) ∧ m 63 1 = m 84 7 ∧ inR 0 999 (m 84 7) ∧ m 0 1 = 1 ∧ mr 63 2 = some 11 ∧ (∀ t, t < 6 → m (11 + 4 * t) 0 = nI t) ∧ m 84 3 = 1 ∧ m 84 4 = 0 ∧ m 2 0 = 0 ∧ m 84 6 = 0 ∧ m 0 8 = -1 ∧ m 84 34 = -1 ∧ (∀ s, s < 4 → m (55 + 2 * s) 0 = -1 ∧ m (55 + 2 * s) 1 = 0 ∧ m 97 s = 0)
def ck3 (m : Nat → Nat → Int32) : Prop := m 86 0 = 48 ∧ (∀ j, j < 48 → m 85 j = LB0.getD j 0) ∧ m 13 0 = nI e0T.length ∧ m 13 1 = nI (e0T.length + e1T.length) ∧ m 13 2 = nI (e0T.length + e1T.length + e2T.length) ∧ ∀ j, j < e0T.length + e1T.length + e2T.length → m 12 j = (e0T ++ e1T ++ e2T).getD j 0
theorem ck_INV {m : Nat → Nat → Int32} {mr : Nat → Nat → Option Nat} (hM : MRok mr) (h2 : ck2 m mr) (h3 : ck3 m) : INV m mr := by
  obtain ⟨a1, a2, a3, a4, a5, a6, a7, a8, a9, b1, b2, b3, b4, b5, b6⟩ := h2
  obtain ⟨c1, c2, c3, c4, c5, c6⟩ := h3
  obtain ⟨f1, f2, f3, f4, f5, f6, f7, f8⟩ := t0_ok
  have eb : txB m 0 48 = bB0 := byN_cg (fun j hj => by rw [show 160 * 0 + j = j by omega]; exact c2 j hj)
  refine ⟨hM, (0, fun _ => (0, 0, 0, 0, fun _ => 0)), (c8 (m 88), m 84 7), (1, 0, fun _ => (e0T, e1T, e2T)), (0, fun _ => 0), none, (fun _ => (-1, 0, fun _ => 0)), ⟨⟨a1, fun p hp => absurd hp (Nat.not_lt_zero p)⟩, ⟨c8_cg a3, a4⟩, ⟨a6, a7, a8, fun t ht => ?_⟩, ⟨b2, fun p hp => absurd hp (Nat.not_lt_zero p)⟩, b4, fun s hs => ⟨(b6 s hs).1, (b6 s hs).2.1, fun p hp => absurd hp (Nat.not_lt_zero p)⟩⟩, ⟨⟨a2, fun p hp => absurd hp (Nat.not_lt_zero p)⟩, ⟨rfl, rfl⟩, ⟨a9, b1, fun t ht => ?_⟩, ⟨b3, fun p hp => absurd hp (Nat.not_lt_zero p)⟩, b5, fun s hs => ⟨fun _ => (b6 s hs).2.2, fun z => absurd rfl z⟩⟩, ⟨⟨Nat.zero_le _, fun p hp => absurd hp (Nat.not_lt_zero p)⟩, a5, ⟨by show 1 ≤ 6; decide, by show 0 < 1; decide⟩, ⟨Nat.zero_le _, fun p hp => absurd hp (Nat.not_lt_zero p)⟩, trivial, fun s hs => Nat.zero_le _⟩⟩
  · have e : t = 0 := by have q : t < 1 := ht; omega
    subst e
    exact ⟨c3, c4, c5, f5, c6, f6, f7, f8⟩
  · have e : t = 0 := by have q : t < 1 := ht; omega
    subst e
    refine ⟨48, 0, by decide, c1, ?_⟩
    rw [eb]
    exact ⟨f1, f2, rfl, f3, f4⟩
