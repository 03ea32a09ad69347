/-! the tape's bytes (written by wip/whole/mkread0.py) -/
def byN (f : Nat → Int32) (n p : Nat) : Int32 := if p < n then f p else -1
/-- behind blanks -/
def spF (b : Nat → Int32) : Nat → Nat → Nat
  | 0, a => a
  | g + 1, a => if b a = 32 ∨ b a = 10 then spF b g (a + 1) else a
/-- behind bytes from lo to hi -/
def skF (b : Nat → Int32) (lo hi : Int32) : Nat → Nat → Nat
  | 0, a => a
  | g + 1, a => if b a < lo then a else if hi < b a then a else skF b lo hi g (a + 1)
theorem aup_id {α : Type} (m : Nat → Nat → α) (k j : Nat) : aup m k j (m k j) = m := by
  funext x y
  unfold aup
  split
  · split <;> simp_all
  · rfl
theorem aup_aup {α : Type} (m : Nat → Nat → α) (k j : Nat) (u v : α) : aup (aup m k j u) k j v = aup m k j v := by
  funext x y
  unfold aup
  split
  · split <;> rfl
  · rfl
theorem aup_row {α : Type} (m : Nat → Nat → α) {k l : Nat} (h : l ≠ k) (j : Nat) (v : α) : aup m k j v l = m l := by
  funext y
  unfold aup
  rw [if_neg h]
set_option maxRecDepth 20000 in
set_option maxHeartbeats 1000000 in
theorem c_byteAt {X : aXt × Value} {mi : Nat → Nat → Int32} {ml : Nat → Nat → Int64} {mr : Nat → Nat → Option Nat} (hM : MRok mr) {n : Nat} (hn : n ≤ 160) (hs : mi 2 0 = nI n) {p : Nat} (hp : p ≤ 400) : aCW X 1 25 [.ref 2, .int (nI p)] (HD, mi, ml, mr) (rdI mi ml mr (byN (mi 3) n p)) := by
  refine cw_of (cd := cd_X1_byteAt) (nL := 2) rfl rfl ?_
  show aWP _ _ (0, [some (.ref 2), some (.int (nI p))], [], (HD, mi, ml, mr)) _
  refine wp_steps 1 (t' := (1, [some (.ref 2), some (.int (nI p))], [.int (nI p)], (HD, mi, ml, mr))) rfl ?_
  refine wp_bI rfl (fun c_1 => ?_) (fun c_1 => ?_)
  · have c_1 : (nI p) < 0 := of_decide_eq_true c_1
    refine wp_steps 1 (t' := (15, [some (.ref 2), some (.int (nI p))], [.int (-1)], (HD, mi, ml, mr))) rfl ?_
    refine wp_ret rfl rfl ⟨⟨Nat.le_refl _, Nat.le_refl _⟩, ?_⟩
    exact absurd c_1 (nI_pos (by omega))
  · have c_1 : ¬ ((nI p) < 0) := of_decide_eq_false c_1
    refine wp_steps 2 (t' := (4, [some (.ref 2), some (.int (nI p))], [.ref 2, .int (nI p)], (HD, mi, ml, mr))) rfl ?_
    refine wp_geti rfl ⟨by decide, rfl⟩ (Or.inl rfl) ?_
    refine wp_bC rfl (fun c_2 => ?_) (fun c_2 => ?_)
    · have c_2 : (mi 2 0) ≤ (nI p) := of_decide_eq_true c_2
      refine wp_steps 1 (t' := (15, [some (.ref 2), some (.int (nI p))], [.int (-1)], (HD, mi, ml, mr))) rfl ?_
      refine wp_ret rfl rfl ⟨⟨Nat.le_refl _, Nat.le_refl _⟩, ?_⟩
      exact ⟨by rw [byN, if_neg (fun q => nI_ge q (by omega) (hs ▸ c_2))], rfl⟩
    · have c_2 : ¬ ((mi 2 0) ≤ (nI p)) := of_decide_eq_false c_2
      refine wp_steps 2 (t' := (8, [some (.ref 2), some (.int (nI p))], [.int 160, .int (nI p)], (HD, mi, ml, mr))) rfl ?_
      refine wp_bC rfl (fun c_3 => ?_) (fun c_3 => ?_)
      · have c_3 : 160 ≤ (nI p) := of_decide_eq_true c_3
        refine wp_steps 1 (t' := (15, [some (.ref 2), some (.int (nI p))], [.int (-1)], (HD, mi, ml, mr))) rfl ?_
        refine wp_ret rfl rfl ⟨⟨Nat.le_refl _, Nat.le_refl _⟩, ?_⟩
        refine ⟨?_, rfl⟩
        have q : ¬ p < n := fun q => nI_ge (a := p) (b := 160) (by omega) (by decide) c_3
        rw [byN, if_neg q]
      · have c_3 : ¬ (160 ≤ (nI p)) := of_decide_eq_false c_3
        refine wp_steps 1 (t' := (10, [some (.ref 2), some (.int (nI p))], [.ref 2], (HD, mi, ml, mr))) rfl ?_
        refine wp_getr rfl ⟨by decide, rfl⟩ rfl (hM (2, 1, 3) (by decide)) ?_
        refine wp_steps 1 (t' := (12, [some (.ref 2), some (.int (nI p))], [.int (nI p), .ref 3], (HD, mi, ml, mr))) rfl ?_
        refine wp_iald rfl ⟨by decide, rfl⟩ ((aix_iff (by decide)).mpr ⟨c_1, c_3⟩) ?_
        refine wp_steps 1 (t' := (15, [some (.ref 2), some (.int (nI p))], [.int (mi 3 (nI p).toNatClampNeg)], (HD, mi, ml, mr))) rfl ?_
        refine wp_ret rfl rfl ⟨⟨Nat.le_refl _, Nat.le_refl _⟩, ?_⟩
        have q : p < n := by
          rcases Nat.lt_or_ge p n with q | q
          · exact q
          · exact absurd (hs ▸ nI_le q (by omega)) c_2
        exact ⟨by rw [byN, if_pos q, nI_clamp (by omega)], rfl⟩
set_option maxRecDepth 20000 in
set_option maxHeartbeats 1000000 in
theorem l_skip {X : aXt × Value} {mi : Nat → Nat → Int32} {ml : Nat → Nat → Int64} {mr : Nat → Nat → Option Nat} (hM : MRok mr) {n : Nat} (hn : n ≤ 160) (hs : mi 2 0 = nI n) {lw up : Int32} (hlo : (-1 : Int32) < lw) : ∀ (g t : Nat) (a : Nat), t + g = 160 → a ≤ 161 → aWP (aEx (aTb X) 1) cd_X1_skip (2, [some (.ref 2), some (.int lw), some (.int up), some (.int (nI t))], [], (HD, (aup mi 2 5 (nI a)), ml, mr)) (fun r h' => (HD.1 ≤ h'.1.1 ∧ HD.2.1 ≤ h'.1.2.1) ∧ r = none ∧ h' = (HD, aup mi 2 5 (nI (skF (byN (mi 3) n) lw up g a)), ml, mr)) := by
  intro g
  induction g with
  | zero =>
    intro t a hg hi
    have e : t = 160 := by omega
    subst e
    refine wp_steps 2 (t' := (4, [some (.ref 2), some (.int lw), some (.int up), some (.int (nI 160))], [.int 160, .int (nI 160)], (HD, (aup mi 2 5 (nI a)), ml, mr))) rfl ?_
    refine wp_bC rfl (fun c_1 => ?_) (fun c_1 => ?_)
    rotate_left
    · have c_1 : ¬ (160 ≤ (nI 160)) := of_decide_eq_false c_1
      exact absurd (by decide) c_1
    have c_1 : 160 ≤ (nI 160) := of_decide_eq_true c_1
    refine wp_ret rfl rfl ⟨⟨Nat.le_refl _, Nat.le_refl _⟩, ?_⟩
    exact ⟨rfl, rfl⟩
  | succ g ih =>
    intro t a hg hi
    have ht : t < 160 := by omega
    refine wp_steps 2 (t' := (4, [some (.ref 2), some (.int lw), some (.int up), some (.int (nI t))], [.int 160, .int (nI t)], (HD, (aup mi 2 5 (nI a)), ml, mr))) rfl ?_
    refine wp_bC rfl (fun c_1 => ?_) (fun c_1 => ?_)
    · have c_1 : 160 ≤ (nI t) := of_decide_eq_true c_1
      exact absurd c_1 (nI_ge ht (by decide))
    have c_1 : ¬ (160 ≤ (nI t)) := of_decide_eq_false c_1
    refine wp_steps 2 (t' := (7, [some (.ref 2), some (.int lw), some (.int up), some (.int (nI t))], [.ref 2, .ref 2], (HD, (aup mi 2 5 (nI a)), ml, mr))) rfl ?_
    refine wp_geti rfl ⟨by decide, rfl⟩ (Or.inl rfl) ?_
    refine wp_calv (as := [.int ((aup mi 2 5 (nI a)) 2 5)]) rfl rfl rfl (Nat.le_of_ble_eq_true rfl) ⟨by decide, rfl⟩ (c_byteAt (mi := (aup mi 2 5 (nI a))) hM hn (by simpa [aup] using hs) (p := a) (by omega)) (by decide) ?_
    rintro _ _ ⟨rfl, rfl⟩
    rw [aup_row mi (by decide)]
    show aWP _ _ (9, [some (.ref 2), some (.int lw), some (.int up), some (.int (nI t))], [.int (byN (mi 3) n a)], (HD, (aup mi 2 5 (nI a)), ml, mr)) _
    refine wp_steps 1 (t' := (10, [some (.ref 2), some (.int lw), some (.int up), some (.int (nI t))], [.int lw, .int (byN (mi 3) n a)], (HD, (aup mi 2 5 (nI a)), ml, mr))) rfl ?_
    refine wp_bC rfl (fun c_2 => ?_) (fun c_2 => ?_)
    · have c_2 : (byN (mi 3) n a) < lw := of_decide_eq_true c_2
      refine wp_ret rfl rfl ⟨⟨Nat.le_refl _, Nat.le_refl _⟩, ?_⟩
      have e2 : skF (byN (mi 3) n) lw up (g + 1) a = a := by show (if _ then _ else _) = _; rw [if_pos c_2]
      exact ⟨rfl, by rw [e2]⟩
    · have c_2 : ¬ ((byN (mi 3) n a) < lw) := of_decide_eq_false c_2
      refine wp_steps 2 (t' := (13, [some (.ref 2), some (.int lw), some (.int up), some (.int (nI t))], [.ref 2, .ref 2], (HD, (aup mi 2 5 (nI a)), ml, mr))) rfl ?_
      refine wp_geti rfl ⟨by decide, rfl⟩ (Or.inl rfl) ?_
      refine wp_calv (as := [.int ((aup mi 2 5 (nI a)) 2 5)]) rfl rfl rfl (Nat.le_of_ble_eq_true rfl) ⟨by decide, rfl⟩ (c_byteAt (mi := (aup mi 2 5 (nI a))) hM hn (by simpa [aup] using hs) (p := a) (by omega)) (by decide) ?_
      rintro _ _ ⟨rfl, rfl⟩
      rw [aup_row mi (by decide)]
      show aWP _ _ (15, [some (.ref 2), some (.int lw), some (.int up), some (.int (nI t))], [.int (byN (mi 3) n a)], (HD, (aup mi 2 5 (nI a)), ml, mr)) _
      refine wp_steps 1 (t' := (16, [some (.ref 2), some (.int lw), some (.int up), some (.int (nI t))], [.int up, .int (byN (mi 3) n a)], (HD, (aup mi 2 5 (nI a)), ml, mr))) rfl ?_
      refine wp_bC rfl (fun c_3 => ?_) (fun c_3 => ?_)
      · have c_3 : up < (byN (mi 3) n a) := of_decide_eq_true c_3
        refine wp_ret rfl rfl ⟨⟨Nat.le_refl _, Nat.le_refl _⟩, ?_⟩
        have e2 : skF (byN (mi 3) n) lw up (g + 1) a = a := by show (if _ then _ else _) = _; rw [if_neg c_2, if_pos c_3]
        exact ⟨rfl, by rw [e2]⟩
      · have c_3 : ¬ (up < (byN (mi 3) n a)) := of_decide_eq_false c_3
        refine wp_steps 2 (t' := (19, [some (.ref 2), some (.int lw), some (.int up), some (.int (nI t))], [.ref 2, .ref 2], (HD, (aup mi 2 5 (nI a)), ml, mr))) rfl ?_
        refine wp_geti rfl ⟨by decide, rfl⟩ (Or.inl rfl) ?_
        refine wp_steps 2 (t' := (22, [some (.ref 2), some (.int lw), some (.int up), some (.int (nI t))], [.int (((aup mi 2 5 (nI a)) 2 5) + 1), .ref 2], (HD, (aup mi 2 5 (nI a)), ml, mr))) rfl ?_
        refine wp_puti rfl ⟨by decide, rfl⟩ rfl (fun m_4 h_5 => ?_)
        subst h_5
        refine wp_steps 2 (t' := (2, [some (.ref 2), some (.int lw), some (.int up), some (.int ((nI t) + Int32.ofInt 1))], [], (HD, (aup (aup mi 2 5 (nI a)) 2 5 (((aup mi 2 5 (nI a)) 2 5) + 1)), ml, mr))) rfl ?_
        have q : a < n := by
          rcases Nat.lt_or_ge a n with q | q
          · exact q
          · exact absurd (by rw [byN, if_neg (by omega)]; exact hlo) c_2
        rw [inc_nI, aup_aup, aup_eq, nI_1]
        have e2 : skF (byN (mi 3) n) lw up (g + 1) a = skF (byN (mi 3) n) lw up g (a + 1) := by
          show (if _ then _ else _) = _
          rw [if_neg c_2, if_neg c_3]
        rw [e2]
        exact ih (t + 1) (a + 1) (by omega) (by omega)
