/-! the reference: bytes, the next token (written by wip/whole/mkref0.py) -/
theorem i64_lt (x y : Int32) : x.toInt64 < y.toInt64 ↔ x < y := by
  rw [Int64.lt_iff_toInt_lt, Int32.lt_iff_toInt_lt, Int32.toInt_toInt64, Int32.toInt_toInt64]
theorem i64_eq (x y : Int32) : x.toInt64 = y.toInt64 ↔ x = y := by
  rw [← Int64.toInt_inj, ← Int32.toInt_inj, Int32.toInt_toInt64, Int32.toInt_toInt64]
set_option maxRecDepth 20000 in
set_option maxHeartbeats 1000000 in
theorem c_in {X : aXt × Value} {mi : Nat → Nat → Int32} {ml : Nat → Nat → Int64} {mr : Nat → Nat → Option Nat} {x lo hi : Int32} {v l h : Int64} (hv : x.toInt64 = v) (hl : lo.toInt64 = l) (hh : hi.toInt64 = h) : aCW X 1 111 [.long v, .long l, .long h] (HD, mi, ml, mr) (rdI mi ml mr (if inR lo hi x then 1 else 0)) := by
  refine cw_of (cd := cd_X7_in) (nL := 6) rfl rfl ?_
  show aWP _ _ (0, [some (.long v), none, some (.long l), none, some (.long h), none], [], (HD, mi, ml, mr)) _
  refine wp_steps 3 (t' := (3, [some (.long v), none, some (.long l), none, some (.long h), none], [.int (lg_cmp v l)], (HD, mi, ml, mr))) rfl ?_
  refine wp_bI rfl (fun c_1 => ?_) (fun c_1 => ?_)
  · have c_1 : (lg_cmp v l) < 0 := of_decide_eq_true c_1
    refine wp_steps 1 (t' := (11, [some (.long v), none, some (.long l), none, some (.long h), none], [.int 0], (HD, mi, ml, mr))) rfl ?_
    refine wp_ret rfl rfl ⟨⟨Nat.le_refl _, Nat.le_refl _⟩, ?_⟩
    have q : x < lo := by subst hv; subst hl; exact (i64_lt _ _).mp ((lg_cmp_lt _ _).mp c_1)
    exact ⟨by rw [if_neg (fun z => z.1 q)], rfl⟩
  · have c_1 : ¬ ((lg_cmp v l) < 0) := of_decide_eq_false c_1
    refine wp_steps 3 (t' := (7, [some (.long v), none, some (.long l), none, some (.long h), none], [.int (lg_cmp v h)], (HD, mi, ml, mr))) rfl ?_
    refine wp_bI rfl (fun c_2 => ?_) (fun c_2 => ?_)
    · have c_2 : 0 < (lg_cmp v h) := of_decide_eq_true c_2
      refine wp_steps 1 (t' := (11, [some (.long v), none, some (.long l), none, some (.long h), none], [.int 0], (HD, mi, ml, mr))) rfl ?_
      refine wp_ret rfl rfl ⟨⟨Nat.le_refl _, Nat.le_refl _⟩, ?_⟩
      have q : hi < x := by subst hv; subst hh; exact (i64_lt _ _).mp ((lg_cmp_gt _ _).mp c_2)
      exact ⟨by rw [if_neg (fun z => z.2 q)], rfl⟩
    · have c_2 : ¬ (0 < (lg_cmp v h)) := of_decide_eq_false c_2
      refine wp_steps 2 (t' := (11, [some (.long v), none, some (.long l), none, some (.long h), none], [.int 1], (HD, mi, ml, mr))) rfl ?_
      refine wp_ret rfl rfl ⟨⟨Nat.le_refl _, Nat.le_refl _⟩, ?_⟩
      refine ⟨?_, rfl⟩
      subst hv; subst hl; subst hh
      rw [if_pos ⟨fun z => c_1 ((lg_cmp_lt _ _).mpr ((i64_lt _ _).mpr z)), fun z => c_2 ((lg_cmp_gt _ _).mpr ((i64_lt _ _).mpr z))⟩]
/-- text t, n bytes long, is read -/
def tXR (m : Nat → Nat → Int32) (t n : Nat) : Prop := m 84 19 = nI (160 * t) ∧ t < 6 ∧ m 84 20 = nI n ∧ n ≤ 160
def bX (m : Nat → Nat → Int32) (t n : Nat) : Nat → Int32 := byN (fun j => m 85 (160 * t + j)) n
def RB (b : Nat → Int32) (n t : Nat) (m : Nat → Nat → Int32) : Prop := tXR m t n ∧ bX m t n = b
theorem RB.up {b : Nat → Int32} {n t : Nat} {m : Nat → Nat → Int32} (h : RB b n t m) {j : Nat} (hj : 21 ≤ j) (v : Int32) : RB b n t (aup m 84 j v) := by
  obtain ⟨⟨a1, a2, a3, a4⟩, a5⟩ := h
  refine ⟨⟨?_, a2, ?_, a4⟩, ?_⟩
  · rw [← a1]; have : ¬ 19 = j := by omega
    simp [aup, this]
  · rw [← a3]; have : ¬ 20 = j := by omega
    simp [aup, this]
  · rw [← a5]; rfl
theorem RB.out {b : Nat → Int32} {n t : Nat} {m : Nat → Nat → Int32} (h : RB b n t m) {p : Nat} (hp : n ≤ p) : b p = -1 := by
  rw [← h.2]; exact if_neg (by omega)
/-- alike but for what reading writes -/
def frR (m m' : Nat → Nat → Int32) : Prop := ∀ k j, ¬ (k = 84 ∧ 21 ≤ j ∧ j ≤ 27) → m' k j = m k j
theorem frR.rf (m : Nat → Nat → Int32) : frR m m := fun _ _ _ => rfl
theorem frR.tr {a b c : Nat → Nat → Int32} (h : frR a b) (k : frR b c) : frR a c := fun x y q => (k x y q).trans (h x y q)
theorem frR.up {m : Nat → Nat → Int32} {j : Nat} (h1 : 21 ≤ j) (h2 : j ≤ 27) (v : Int32) : frR m (aup m 84 j v) := fun x y q => by
  unfold aup
  by_cases e : x = 84
  · by_cases e2 : y = j
    · exact absurd ⟨e, by omega, by omega⟩ q
    · rw [if_pos e, if_neg e2]
  · rw [if_neg e]
theorem RB.fr {b : Nat → Int32} {n t : Nat} {m m' : Nat → Nat → Int32} (h : RB b n t m) (f : frR m m') : RB b n t m' := by
  obtain ⟨⟨a1, a2, a3, a4⟩, a5⟩ := h
  refine ⟨⟨(f _ _ (by omega)).trans a1, a2, (f _ _ (by omega)).trans a3, a4⟩, ?_⟩
  rw [← a5]
  unfold bX
  congr 1
  funext j
  exact f _ _ (by omega)
set_option maxRecDepth 20000 in
set_option maxHeartbeats 1000000 in
theorem c_rbyte {X : aXt × Value} {mi : Nat → Nat → Int32} {ml : Nat → Nat → Int64} {mr : Nat → Nat → Option Nat} (hM : MRok mr) {b : Nat → Int32} {n t : Nat} (hB : RB b n t mi) {p : Nat} (hp : p < 2 ^ 30) : aCW X 1 125 [.ref 84, .int (nI p)] (HD, mi, ml, mr) (rdI mi ml mr (b p)) := by
  refine cw_of (cd := cd_X7_byteAt) (nL := 2) rfl rfl ?_
  show aWP _ _ (0, [some (.ref 84), some (.int (nI p))], [], (HD, mi, ml, mr)) _
  refine wp_steps 2 (t' := (2, [some (.ref 84), some (.int (nI p))], [.ref 84, .int (nI p)], (HD, mi, ml, mr))) rfl ?_
  refine wp_geti rfl ⟨by decide, rfl⟩ (Or.inl rfl) ?_
  rw [hB.1.2.2.1]
  refine wp_bC rfl (fun c_1 => ?_) (fun c_1 => ?_)
  · have c_1 : (nI n) ≤ (nI p) := of_decide_eq_true c_1
    refine wp_steps 1 (t' := (13, [some (.ref 84), some (.int (nI p))], [.int (-1)], (HD, mi, ml, mr))) rfl ?_
    refine wp_ret rfl rfl ⟨⟨Nat.le_refl _, Nat.le_refl _⟩, ?_⟩
    refine ⟨?_, rfl⟩
    have q : ¬ p < n := fun z => nI_ge z (by have := hB.1.2.2.2; omega) c_1
    rw [← hB.2]
    unfold bX byN
    rw [if_neg q]
  · have c_1 : ¬ ((nI n) ≤ (nI p)) := of_decide_eq_false c_1
    refine wp_steps 1 (t' := (5, [some (.ref 84), some (.int (nI p))], [.ref 84], (HD, mi, ml, mr))) rfl ?_
    refine wp_getr rfl ⟨by decide, rfl⟩ rfl (hM (84, 1, 85) (by decide)) ?_
    refine wp_steps 1 (t' := (7, [some (.ref 84), some (.int (nI p))], [.ref 84, .ref 85], (HD, mi, ml, mr))) rfl ?_
    refine wp_geti rfl ⟨by decide, rfl⟩ (Or.inl rfl) ?_
    rw [hB.1.1]
    refine wp_steps 2 (t' := (10, [some (.ref 84), some (.int (nI p))], [.int ((nI (160 * t)) + (nI p)), .ref 85], (HD, mi, ml, mr))) rfl ?_
    refine wp_iald rfl ⟨by decide, rfl⟩ (by have q : p < n := Nat.lt_of_not_le (fun z => c_1 (nI_le z (by omega))); rw [nI_add]; exact aix_nI (by have := hB.1.2.1; have := hB.1.2.2.2; omega) (by decide)) ?_
    refine wp_steps 1 (t' := (13, [some (.ref 84), some (.int (nI p))], [.int (mi 85 ((nI (160 * t)) + (nI p)).toNatClampNeg)], (HD, mi, ml, mr))) rfl ?_
    refine wp_ret rfl rfl ⟨⟨Nat.le_refl _, Nat.le_refl _⟩, ?_⟩
    refine ⟨?_, rfl⟩
    have q : p < n := Nat.lt_of_not_le (fun z => c_1 (nI_le z (by omega)))
    rw [← hB.2]
    unfold bX byN
    rw [if_pos q, nI_add, nI_clamp (by have := hB.1.2.1; have := hB.1.2.2.2; omega)]
set_option maxRecDepth 20000 in
set_option maxHeartbeats 1000000 in
theorem l_blanks {X : aXt × Value} {ml : Nat → Nat → Int64} {mr : Nat → Nat → Option Nat} (hM : MRok mr) {b : Nat → Int32} {n t : Nat} {Q : Option Value → aM → Prop} {o1 o2 : Option Value} : ∀ (g h : Nat) (M : Nat → Nat → Int32), RB b n t M → M 84 21 = nI h → h ≤ n → n ≤ h + g → aWP (aEx (aTb X) 2) cd_X7_next (19, [some (.ref 84), o1, o2], [], (HD, (aup M 84 21 (nI (spF b g h))), ml, mr)) Q → aWP (aEx (aTb X) 2) cd_X7_next (0, [some (.ref 84), o1, o2], [], (HD, M, ml, mr)) Q := by
  intro g
  induction g with
  | zero =>
    intro h M hB h21 hn hg hk
    refine wp_steps 2 (t' := (2, [some (.ref 84), o1, o2], [.ref 84, .ref 84], (HD, M, ml, mr))) rfl ?_
    refine wp_geti rfl ⟨by decide, rfl⟩ (Or.inl rfl) ?_
    rw [h21]
    refine wp_calv (as := [.int (nI h)]) rfl rfl rfl (Nat.le_of_ble_eq_true rfl) ⟨by decide, rfl⟩ ((c_rbyte (mi := M) (ml := ml) hM (p := h) hB (by have := hB.1.2.2.2; omega))) (by decide) ?_
    rintro _ _ ⟨rfl, rfl⟩
    show aWP _ _ (4, [some (.ref 84), o1, o2], [.int (b h)], (HD, M, ml, mr)) _
    refine wp_steps 1 (t' := (5, [some (.ref 84), o1, o2], [.int 32, .int (b h)], (HD, M, ml, mr))) rfl ?_
    refine wp_bC rfl (fun c_1 => ?_) (fun c_1 => ?_)
    · have c_1 : (b h) = 32 := of_decide_eq_true c_1
      rw [hB.out (p := h) hg] at c_1
      exact absurd c_1 (by decide)
    have c_1 : ¬ ((b h) = 32) := of_decide_eq_false c_1
    refine wp_steps 2 (t' := (8, [some (.ref 84), o1, o2], [.ref 84, .ref 84], (HD, M, ml, mr))) rfl ?_
    refine wp_geti rfl ⟨by decide, rfl⟩ (Or.inl rfl) ?_
    rw [h21]
    refine wp_calv (as := [.int (nI h)]) rfl rfl rfl (Nat.le_of_ble_eq_true rfl) ⟨by decide, rfl⟩ ((c_rbyte (mi := M) (ml := ml) hM (p := h) hB (by have := hB.1.2.2.2; omega))) (by decide) ?_
    rintro _ _ ⟨rfl, rfl⟩
    show aWP _ _ (10, [some (.ref 84), o1, o2], [.int (b h)], (HD, M, ml, mr)) _
    refine wp_steps 1 (t' := (11, [some (.ref 84), o1, o2], [.int 10, .int (b h)], (HD, M, ml, mr))) rfl ?_
    refine wp_bC rfl (fun c_2 => ?_) (fun c_2 => ?_)
    rotate_left
    · have c_2 : (b h) = 10 := Decidable.not_not.mp (of_decide_eq_false c_2)
      rw [hB.out (p := h) hg] at c_2
      exact absurd c_2 (by decide)
    have c_2 : ¬ (b h) = 10 := of_decide_eq_true c_2
    have e : aup M 84 21 (nI (spF b 0 h)) = M := by
      show aup M 84 21 (nI h) = M
      rw [← h21]; exact aup_id M 84 21
    rw [e] at hk
    exact hk
  | succ g ih =>
    intro h M hB h21 hn hg hk
    refine wp_steps 2 (t' := (2, [some (.ref 84), o1, o2], [.ref 84, .ref 84], (HD, M, ml, mr))) rfl ?_
    refine wp_geti rfl ⟨by decide, rfl⟩ (Or.inl rfl) ?_
    rw [h21]
    refine wp_calv (as := [.int (nI h)]) rfl rfl rfl (Nat.le_of_ble_eq_true rfl) ⟨by decide, rfl⟩ ((c_rbyte (mi := M) (ml := ml) hM (p := h) hB (by have := hB.1.2.2.2; omega))) (by decide) ?_
    rintro _ _ ⟨rfl, rfl⟩
    show aWP _ _ (4, [some (.ref 84), o1, o2], [.int (b h)], (HD, M, ml, mr)) _
    refine wp_steps 1 (t' := (5, [some (.ref 84), o1, o2], [.int 32, .int (b h)], (HD, M, ml, mr))) rfl ?_
    refine wp_bC rfl (fun c_1 => ?_) (fun c_1 => ?_)
    · have c_1 : (b h) = 32 := of_decide_eq_true c_1
      refine wp_steps 2 (t' := (14, [some (.ref 84), o1, o2], [.ref 84, .ref 84], (HD, M, ml, mr))) rfl ?_
      refine wp_geti rfl ⟨by decide, rfl⟩ (Or.inl rfl) ?_
      rw [h21]
      refine wp_steps 2 (t' := (17, [some (.ref 84), o1, o2], [.int ((nI h) + 1), .ref 84], (HD, M, ml, mr))) rfl ?_
      refine wp_puti rfl ⟨by decide, rfl⟩ rfl (fun m_2 h_3 => ?_)
      subst h_3
      refine wp_steps 1 (t' := (0, [some (.ref 84), o1, o2], [], (HD, (aup M 84 21 ((nI h) + 1)), ml, mr))) rfl ?_
      have qa : h < n := Nat.lt_of_not_le (fun z => by have e := hB.out z; rw [e] at c_1; exact absurd c_1 (by decide))
      have e : spF b (g + 1) h = spF b g (h + 1) := if_pos (Or.inl c_1)
      rw [e] at hk
      rw [nI_1]
      refine ih (h + 1) _ (hB.up (by decide) _) (by simp [aup]) (by omega) (by omega) ?_
      rw [aup_aup]
      exact hk
    · have c_1 : ¬ ((b h) = 32) := of_decide_eq_false c_1
      refine wp_steps 2 (t' := (8, [some (.ref 84), o1, o2], [.ref 84, .ref 84], (HD, M, ml, mr))) rfl ?_
      refine wp_geti rfl ⟨by decide, rfl⟩ (Or.inl rfl) ?_
      rw [h21]
      refine wp_calv (as := [.int (nI h)]) rfl rfl rfl (Nat.le_of_ble_eq_true rfl) ⟨by decide, rfl⟩ ((c_rbyte (mi := M) (ml := ml) hM (p := h) hB (by have := hB.1.2.2.2; omega))) (by decide) ?_
      rintro _ _ ⟨rfl, rfl⟩
      show aWP _ _ (10, [some (.ref 84), o1, o2], [.int (b h)], (HD, M, ml, mr)) _
      refine wp_steps 1 (t' := (11, [some (.ref 84), o1, o2], [.int 10, .int (b h)], (HD, M, ml, mr))) rfl ?_
      refine wp_bC rfl (fun c_4 => ?_) (fun c_4 => ?_)
      · have c_4 : ¬ (b h) = 10 := of_decide_eq_true c_4
        have e : spF b (g + 1) h = h := if_neg (fun z => z.elim c_1 c_4)
        rw [e] at hk
        have e2 : aup M 84 21 (nI h) = M := by rw [← h21]; exact aup_id M 84 21
        rw [e2] at hk
        exact hk
      · have c_4 : (b h) = 10 := Decidable.not_not.mp (of_decide_eq_false c_4)
        refine wp_steps 2 (t' := (14, [some (.ref 84), o1, o2], [.ref 84, .ref 84], (HD, M, ml, mr))) rfl ?_
        refine wp_geti rfl ⟨by decide, rfl⟩ (Or.inl rfl) ?_
        rw [h21]
        refine wp_steps 2 (t' := (17, [some (.ref 84), o1, o2], [.int ((nI h) + 1), .ref 84], (HD, M, ml, mr))) rfl ?_
        refine wp_puti rfl ⟨by decide, rfl⟩ rfl (fun m_5 h_6 => ?_)
        subst h_6
        refine wp_steps 1 (t' := (0, [some (.ref 84), o1, o2], [], (HD, (aup M 84 21 ((nI h) + 1)), ml, mr))) rfl ?_
        have qa : h < n := Nat.lt_of_not_le (fun z => by have e := hB.out z; rw [e] at c_4; exact absurd c_4 (by decide))
        have e : spF b (g + 1) h = spF b g (h + 1) := if_pos (Or.inr c_4)
        rw [e] at hk
        rw [nI_1]
        refine ih (h + 1) _ (hB.up (by decide) _) (by simp [aup]) (by omega) (by omega) ?_
        rw [aup_aup]
        exact hk
theorem i0_t {p : Prop} [Decidable p] (h : ¬ (if p then (1 : Int32) else 0) = 0) : p := Decidable.byContradiction fun z => h (if_neg z)
theorem i0_f {p : Prop} [Decidable p] (h : (if p then (1 : Int32) else 0) = 0) : ¬ p := fun z => absurd ((if_pos z).symm.trans h) (by decide)
theorem skF_st {b : Nat → Int32} {lo hi : Int32} {g h : Nat} (q : inR lo hi (b h)) : skF b lo hi (g + 1) h = skF b lo hi g (h + 1) := by
  show (if _ then _ else if _ then _ else _) = _
  rw [if_neg q.1, if_neg q.2]
theorem skF_ex {b : Nat → Int32} {lo hi : Int32} {g h : Nat} (q : ¬ inR lo hi (b h)) : skF b lo hi (g + 1) h = h := by
  show (if _ then _ else if _ then _ else _) = _
  by_cases a : b h < lo
  · rw [if_pos a]
  · rw [if_neg a, if_pos (Decidable.byContradiction fun z => q ⟨a, z⟩)]
theorem RB.in_n {b : Nat → Int32} {n t : Nat} {m : Nat → Nat → Int32} (hB : RB b n t m) {lo hi : Int32} (hl : (-1 : Int32) < lo) {h : Nat} (q : inR lo hi (b h)) : h < n := Nat.lt_of_not_le fun z => q.1 (by rw [hB.out z]; exact hl)
set_option maxRecDepth 20000 in
set_option maxHeartbeats 1000000 in
theorem l_letters {X : aXt × Value} {ml : Nat → Nat → Int64} {mr : Nat → Nat → Option Nat} (hM : MRok mr) {b : Nat → Int32} {n t : Nat} {Q : Option Value → aM → Prop} {o1 o2 : Option Value} : ∀ (g h : Nat) (M : Nat → Nat → Int32), RB b n t M → M 84 21 = nI h → h ≤ n → n ≤ h + g → aWP (aEx (aTb X) 2) cd_X7_next (163, [some (.ref 84), o1, o2], [], (HD, (aup M 84 21 (nI (skF b 97 122 g h))), ml, mr)) Q → aWP (aEx (aTb X) 2) cd_X7_next (50, [some (.ref 84), o1, o2], [], (HD, M, ml, mr)) Q := by
  intro g
  induction g with
  | zero =>
    intro h M hB h21 hn hg hk
    refine wp_steps 2 (t' := (52, [some (.ref 84), o1, o2], [.ref 84, .ref 84], (HD, M, ml, mr))) rfl ?_
    refine wp_geti rfl ⟨by decide, rfl⟩ (Or.inl rfl) ?_
    rw [h21]
    refine wp_calv (as := [.int (nI h)]) rfl rfl rfl (Nat.le_of_ble_eq_true rfl) ⟨by decide, rfl⟩ ((c_rbyte (mi := M) (ml := ml) hM (p := h) hB (by have := hB.1.2.2.2; omega))) (by decide) ?_
    rintro _ _ ⟨rfl, rfl⟩
    show aWP _ _ (54, [some (.ref 84), o1, o2], [.int (b h)], (HD, M, ml, mr)) _
    refine wp_steps 3 (t' := (57, [some (.ref 84), o1, o2], [.long 122, .long 97, .long ((b h).toInt64)], (HD, M, ml, mr))) rfl ?_
    refine wp_cal (as := [.long ((b h).toInt64), .long 97, .long 122]) rfl rfl rfl (Nat.le_of_ble_eq_true rfl) ((c_in (x := b h) (lo := 97) (hi := 122) rfl (by decide) (by decide))) (by decide) ?_
    rintro _ _ ⟨rfl, rfl⟩
    show aWP _ _ (58, [some (.ref 84), o1, o2], [.int (if inR 97 122 (b h) then (1 : Int32) else 0)], (HD, M, ml, mr)) _
    refine wp_bI rfl (fun c_1 => ?_) (fun c_1 => ?_)
    · have c_1 : (if inR 97 122 (b h) then (1 : Int32) else 0) = 0 := of_decide_eq_true c_1
      have e : skF b 97 122 0 h = h := rfl
      rw [e] at hk
      have e2 : aup M 84 21 (nI h) = M := by rw [← h21]; exact aup_id M 84 21
      rw [e2] at hk
      exact hk
    · have c_1 : ¬ ((if inR 97 122 (b h) then (1 : Int32) else 0) = 0) := of_decide_eq_false c_1
      refine wp_steps 2 (t' := (61, [some (.ref 84), o1, o2], [.ref 84, .ref 84], (HD, M, ml, mr))) rfl ?_
      refine wp_geti rfl ⟨by decide, rfl⟩ (Or.inl rfl) ?_
      rw [h21]
      refine wp_steps 2 (t' := (64, [some (.ref 84), o1, o2], [.int ((nI h) + 1), .ref 84], (HD, M, ml, mr))) rfl ?_
      refine wp_puti rfl ⟨by decide, rfl⟩ rfl (fun m_2 h_3 => ?_)
      subst h_3
      refine wp_steps 1 (t' := (50, [some (.ref 84), o1, o2], [], (HD, (aup M 84 21 ((nI h) + 1)), ml, mr))) rfl ?_
      exact absurd (hB.in_n (by decide) (i0_t c_1)) (by omega)
  | succ g ih =>
    intro h M hB h21 hn hg hk
    refine wp_steps 2 (t' := (52, [some (.ref 84), o1, o2], [.ref 84, .ref 84], (HD, M, ml, mr))) rfl ?_
    refine wp_geti rfl ⟨by decide, rfl⟩ (Or.inl rfl) ?_
    rw [h21]
    refine wp_calv (as := [.int (nI h)]) rfl rfl rfl (Nat.le_of_ble_eq_true rfl) ⟨by decide, rfl⟩ ((c_rbyte (mi := M) (ml := ml) hM (p := h) hB (by have := hB.1.2.2.2; omega))) (by decide) ?_
    rintro _ _ ⟨rfl, rfl⟩
    show aWP _ _ (54, [some (.ref 84), o1, o2], [.int (b h)], (HD, M, ml, mr)) _
    refine wp_steps 3 (t' := (57, [some (.ref 84), o1, o2], [.long 122, .long 97, .long ((b h).toInt64)], (HD, M, ml, mr))) rfl ?_
    refine wp_cal (as := [.long ((b h).toInt64), .long 97, .long 122]) rfl rfl rfl (Nat.le_of_ble_eq_true rfl) ((c_in (x := b h) (lo := 97) (hi := 122) rfl (by decide) (by decide))) (by decide) ?_
    rintro _ _ ⟨rfl, rfl⟩
    show aWP _ _ (58, [some (.ref 84), o1, o2], [.int (if inR 97 122 (b h) then (1 : Int32) else 0)], (HD, M, ml, mr)) _
    refine wp_bI rfl (fun c_1 => ?_) (fun c_1 => ?_)
    · have c_1 : (if inR 97 122 (b h) then (1 : Int32) else 0) = 0 := of_decide_eq_true c_1
      have e : skF b 97 122 (g + 1) h = h := skF_ex (i0_f c_1)
      rw [e] at hk
      have e2 : aup M 84 21 (nI h) = M := by rw [← h21]; exact aup_id M 84 21
      rw [e2] at hk
      exact hk
    · have c_1 : ¬ ((if inR 97 122 (b h) then (1 : Int32) else 0) = 0) := of_decide_eq_false c_1
      refine wp_steps 2 (t' := (61, [some (.ref 84), o1, o2], [.ref 84, .ref 84], (HD, M, ml, mr))) rfl ?_
      refine wp_geti rfl ⟨by decide, rfl⟩ (Or.inl rfl) ?_
      rw [h21]
      refine wp_steps 2 (t' := (64, [some (.ref 84), o1, o2], [.int ((nI h) + 1), .ref 84], (HD, M, ml, mr))) rfl ?_
      refine wp_puti rfl ⟨by decide, rfl⟩ rfl (fun m_2 h_3 => ?_)
      subst h_3
      refine wp_steps 1 (t' := (50, [some (.ref 84), o1, o2], [], (HD, (aup M 84 21 ((nI h) + 1)), ml, mr))) rfl ?_
      have q := i0_t c_1
      have qa := hB.in_n (by decide) q
      rw [skF_st q] at hk
      rw [nI_1]
      refine ih (h + 1) _ (hB.up (by decide) _) (by simp [aup]) (by omega) (by omega) ?_
      rw [aup_aup]
      exact hk
theorem nuF_sn (b : Nat → Int32) : ∀ (c a : Nat) (v : Int32), nuF b (c + 1) a v = 10 * nuF b c a v + b (a + c) - 48
  | 0, a, v => rfl
  | c + 1, a, v => by
    have ih := nuF_sn b c (a + 1) (10 * v + b a - 48)
    show nuF b (c + 1) (a + 1) (10 * v + b a - 48) = 10 * nuF b c (a + 1) (10 * v + b a - 48) + b (a + (c + 1)) - 48
    rw [ih, show a + 1 + c = a + (c + 1) by omega]
set_option maxRecDepth 20000 in
set_option maxHeartbeats 1000000 in
theorem l_digits {X : aXt × Value} {mr : Nat → Nat → Option Nat} (hM : MRok mr) {b : Nat → Int32} {n t : Nat} {Q : Option Value → aM → Prop} {x1 : Int32} {a : Nat} : ∀ (g c : Nat) (M : Nat → Nat → Int32) (W : Nat → Nat → Int64), RB b n t M → M 84 21 = nI (a + c) → a + c ≤ n → n ≤ a + c + g → (c ≤ 4 → (W 84 24).toInt32 = nuF b c a 0) → (∀ W' : Nat → Nat → Int64, (skF b 48 57 g (a + c) - a ≤ 4 → (W' 84 24).toInt32 = nuF b (skF b 48 57 g (a + c) - a) a 0) → aWP (aEx (aTb X) 2) cd_X7_next (117, [some (.ref 84), some (.int x1), some (.int (nI (skF b 48 57 g (a + c) - a)))], [], (HD, (aup M 84 21 (nI (skF b 48 57 g (a + c)))), W', mr)) Q) → aWP (aEx (aTb X) 2) cd_X7_next (80, [some (.ref 84), some (.int x1), some (.int (nI (c)))], [], (HD, M, W, mr)) Q := by
  intro g
  induction g with
  | zero =>
    intro c M W hB h21 hn hg hw hk
    refine wp_steps 2 (t' := (82, [some (.ref 84), some (.int x1), some (.int (nI (c)))], [.ref 84, .ref 84], (HD, M, W, mr))) rfl ?_
    refine wp_geti rfl ⟨by decide, rfl⟩ (Or.inl rfl) ?_
    rw [h21]
    refine wp_calv (as := [.int (nI (a + c))]) rfl rfl rfl (Nat.le_of_ble_eq_true rfl) ⟨by decide, rfl⟩ ((c_rbyte (mi := M) (ml := W) hM (p := a + c) hB (by have := hB.1.2.2.2; omega))) (by decide) ?_
    rintro _ _ ⟨rfl, rfl⟩
    show aWP _ _ (84, [some (.ref 84), some (.int x1), some (.int (nI (c)))], [.int (b (a + c))], (HD, M, W, mr)) _
    refine wp_steps 3 (t' := (87, [some (.ref 84), some (.int x1), some (.int (nI (c)))], [.long 57, .long 48, .long ((b (a + c)).toInt64)], (HD, M, W, mr))) rfl ?_
    refine wp_cal (as := [.long ((b (a + c)).toInt64), .long 48, .long 57]) rfl rfl rfl (Nat.le_of_ble_eq_true rfl) ((c_in (x := b (a + c)) (lo := 48) (hi := 57) rfl (by decide) (by decide))) (by decide) ?_
    rintro _ _ ⟨rfl, rfl⟩
    show aWP _ _ (88, [some (.ref 84), some (.int x1), some (.int (nI (c)))], [.int (if inR 48 57 (b (a + c)) then (1 : Int32) else 0)], (HD, M, W, mr)) _
    refine wp_bI rfl (fun c_1 => ?_) (fun c_1 => ?_)
    · have c_1 : (if inR 48 57 (b (a + c)) then (1 : Int32) else 0) = 0 := of_decide_eq_true c_1
      have e : skF b 48 57 0 (a + c) = a + c := rfl
      rw [e, show a + c - a = c by omega] at hk
      have e2 : aup M 84 21 (nI (a + c)) = M := by rw [← h21]; exact aup_id M 84 21
      rw [e2] at hk
      exact hk W hw
    · have c_1 : ¬ ((if inR 48 57 (b (a + c)) then (1 : Int32) else 0) = 0) := of_decide_eq_false c_1
      refine wp_steps 3 (t' := (92, [some (.ref 84), some (.int x1), some (.int (nI (c)))], [.int 4, .int (nI (c)), .ref 84], (HD, M, W, mr))) rfl ?_
      refine wp_bC rfl (fun c_2 => ?_) (fun c_2 => ?_)
      · have c_2 : 4 ≤ (nI (c)) := of_decide_eq_true c_2
        refine wp_steps 1 (t' := (107, [some (.ref 84), some (.int x1), some (.int (nI (c)))], [.ref 84, .ref 84], (HD, M, W, mr))) rfl ?_
        refine wp_getl rfl ⟨by decide, rfl⟩ rfl ?_
        refine wp_putl rfl ⟨by decide, rfl⟩ rfl (fun m_3 h_4 => ?_)
        subst h_4
        refine wp_steps 3 (t' := (112, [some (.ref 84), some (.int x1), some (.int ((nI (c)) + Int32.ofInt 1))], [.ref 84, .ref 84], (HD, M, (aup W 84 24 (W 84 24)), mr))) rfl ?_
        refine wp_geti rfl ⟨by decide, rfl⟩ (Or.inl rfl) ?_
        rw [h21]
        refine wp_steps 2 (t' := (115, [some (.ref 84), some (.int x1), some (.int ((nI (c)) + Int32.ofInt 1))], [.int ((nI (a + c)) + 1), .ref 84], (HD, M, (aup W 84 24 (W 84 24)), mr))) rfl ?_
        refine wp_puti rfl ⟨by decide, rfl⟩ rfl (fun m_5 h_6 => ?_)
        subst h_6
        refine wp_steps 1 (t' := (80, [some (.ref 84), some (.int x1), some (.int ((nI (c)) + Int32.ofInt 1))], [], (HD, (aup M 84 21 ((nI (a + c)) + 1)), (aup W 84 24 (W 84 24)), mr))) rfl ?_
        exact absurd (hB.in_n (by decide) (i0_t c_1)) (by omega)
      · have c_2 : ¬ (4 ≤ (nI (c))) := of_decide_eq_false c_2
        refine wp_steps 2 (t' := (95, [some (.ref 84), some (.int x1), some (.int (nI (c)))], [.ref 84, .long 10, .ref 84], (HD, M, W, mr))) rfl ?_
        refine wp_getl rfl ⟨by decide, rfl⟩ rfl ?_
        refine wp_steps 3 (t' := (99, [some (.ref 84), some (.int x1), some (.int (nI (c)))], [.ref 84, .ref 84, .long (10 * (W 84 24)), .ref 84], (HD, M, W, mr))) rfl ?_
        refine wp_geti rfl ⟨by decide, rfl⟩ (Or.inl rfl) ?_
        rw [h21]
        refine wp_calv (as := [.int (nI (a + c))]) rfl rfl rfl (Nat.le_of_ble_eq_true rfl) ⟨by decide, rfl⟩ ((c_rbyte (mi := M) (ml := W) hM (p := a + c) hB (by have := hB.1.2.2.2; omega))) (by decide) ?_
        rintro _ _ ⟨rfl, rfl⟩
        show aWP _ _ (101, [some (.ref 84), some (.int x1), some (.int (nI (c)))], [.int (b (a + c)), .long (10 * (W 84 24)), .ref 84], (HD, M, W, mr)) _
        refine wp_steps 5 (t' := (108, [some (.ref 84), some (.int x1), some (.int (nI (c)))], [.long (((10 * (W 84 24)) + ((b (a + c)).toInt64)) - 48), .ref 84], (HD, M, W, mr))) rfl ?_
        refine wp_putl rfl ⟨by decide, rfl⟩ rfl (fun m_7 h_8 => ?_)
        subst h_8
        refine wp_steps 3 (t' := (112, [some (.ref 84), some (.int x1), some (.int ((nI (c)) + Int32.ofInt 1))], [.ref 84, .ref 84], (HD, M, (aup W 84 24 (((10 * (W 84 24)) + ((b (a + c)).toInt64)) - 48)), mr))) rfl ?_
        refine wp_geti rfl ⟨by decide, rfl⟩ (Or.inl rfl) ?_
        rw [h21]
        refine wp_steps 2 (t' := (115, [some (.ref 84), some (.int x1), some (.int ((nI (c)) + Int32.ofInt 1))], [.int ((nI (a + c)) + 1), .ref 84], (HD, M, (aup W 84 24 (((10 * (W 84 24)) + ((b (a + c)).toInt64)) - 48)), mr))) rfl ?_
        refine wp_puti rfl ⟨by decide, rfl⟩ rfl (fun m_9 h_10 => ?_)
        subst h_10
        refine wp_steps 1 (t' := (80, [some (.ref 84), some (.int x1), some (.int ((nI (c)) + Int32.ofInt 1))], [], (HD, (aup M 84 21 ((nI (a + c)) + 1)), (aup W 84 24 (((10 * (W 84 24)) + ((b (a + c)).toInt64)) - 48)), mr))) rfl ?_
        exact absurd (hB.in_n (by decide) (i0_t c_1)) (by omega)
  | succ g ih =>
    intro c M W hB h21 hn hg hw hk
    refine wp_steps 2 (t' := (82, [some (.ref 84), some (.int x1), some (.int (nI (c)))], [.ref 84, .ref 84], (HD, M, W, mr))) rfl ?_
    refine wp_geti rfl ⟨by decide, rfl⟩ (Or.inl rfl) ?_
    rw [h21]
    refine wp_calv (as := [.int (nI (a + c))]) rfl rfl rfl (Nat.le_of_ble_eq_true rfl) ⟨by decide, rfl⟩ ((c_rbyte (mi := M) (ml := W) hM (p := a + c) hB (by have := hB.1.2.2.2; omega))) (by decide) ?_
    rintro _ _ ⟨rfl, rfl⟩
    show aWP _ _ (84, [some (.ref 84), some (.int x1), some (.int (nI (c)))], [.int (b (a + c))], (HD, M, W, mr)) _
    refine wp_steps 3 (t' := (87, [some (.ref 84), some (.int x1), some (.int (nI (c)))], [.long 57, .long 48, .long ((b (a + c)).toInt64)], (HD, M, W, mr))) rfl ?_
    refine wp_cal (as := [.long ((b (a + c)).toInt64), .long 48, .long 57]) rfl rfl rfl (Nat.le_of_ble_eq_true rfl) ((c_in (x := b (a + c)) (lo := 48) (hi := 57) rfl (by decide) (by decide))) (by decide) ?_
    rintro _ _ ⟨rfl, rfl⟩
    show aWP _ _ (88, [some (.ref 84), some (.int x1), some (.int (nI (c)))], [.int (if inR 48 57 (b (a + c)) then (1 : Int32) else 0)], (HD, M, W, mr)) _
    refine wp_bI rfl (fun c_1 => ?_) (fun c_1 => ?_)
    · have c_1 : (if inR 48 57 (b (a + c)) then (1 : Int32) else 0) = 0 := of_decide_eq_true c_1
      have e : skF b 48 57 (g + 1) (a + c) = a + c := skF_ex (i0_f c_1)
      rw [e, show a + c - a = c by omega] at hk
      have e2 : aup M 84 21 (nI (a + c)) = M := by rw [← h21]; exact aup_id M 84 21
      rw [e2] at hk
      exact hk W hw
    · have c_1 : ¬ ((if inR 48 57 (b (a + c)) then (1 : Int32) else 0) = 0) := of_decide_eq_false c_1
      refine wp_steps 3 (t' := (92, [some (.ref 84), some (.int x1), some (.int (nI (c)))], [.int 4, .int (nI (c)), .ref 84], (HD, M, W, mr))) rfl ?_
      refine wp_bC rfl (fun c_2 => ?_) (fun c_2 => ?_)
      · have c_2 : 4 ≤ (nI (c)) := of_decide_eq_true c_2
        refine wp_steps 1 (t' := (107, [some (.ref 84), some (.int x1), some (.int (nI (c)))], [.ref 84, .ref 84], (HD, M, W, mr))) rfl ?_
        refine wp_getl rfl ⟨by decide, rfl⟩ rfl ?_
        refine wp_putl rfl ⟨by decide, rfl⟩ rfl (fun m_3 h_4 => ?_)
        subst h_4
        refine wp_steps 3 (t' := (112, [some (.ref 84), some (.int x1), some (.int ((nI (c)) + Int32.ofInt 1))], [.ref 84, .ref 84], (HD, M, (aup W 84 24 (W 84 24)), mr))) rfl ?_
        refine wp_geti rfl ⟨by decide, rfl⟩ (Or.inl rfl) ?_
        rw [h21]
        refine wp_steps 2 (t' := (115, [some (.ref 84), some (.int x1), some (.int ((nI (c)) + Int32.ofInt 1))], [.int ((nI (a + c)) + 1), .ref 84], (HD, M, (aup W 84 24 (W 84 24)), mr))) rfl ?_
        refine wp_puti rfl ⟨by decide, rfl⟩ rfl (fun m_5 h_6 => ?_)
        subst h_6
        refine wp_steps 1 (t' := (80, [some (.ref 84), some (.int x1), some (.int ((nI (c)) + Int32.ofInt 1))], [], (HD, (aup M 84 21 ((nI (a + c)) + 1)), (aup W 84 24 (W 84 24)), mr))) rfl ?_
        have q := i0_t c_1
        have qa := hB.in_n (by decide) q
        rw [skF_st q] at hk
        rw [nI_1, inc_nI]
        refine ih (c + 1) _ _ (hB.up (by decide) _) (by simp [aup, Nat.add_assoc]) (by omega) (by omega) (fun hc => ?_) ?_
        · have q4 : ¬ c < 4 := fun z => nI_ge (a := c) (b := 4) z (by decide) c_2
          exact absurd hc (by omega)
        · rw [aup_aup, show a + (c + 1) = a + c + 1 by omega]
          exact hk
      · have c_2 : ¬ (4 ≤ (nI (c))) := of_decide_eq_false c_2
        refine wp_steps 2 (t' := (95, [some (.ref 84), some (.int x1), some (.int (nI (c)))], [.ref 84, .long 10, .ref 84], (HD, M, W, mr))) rfl ?_
        refine wp_getl rfl ⟨by decide, rfl⟩ rfl ?_
        refine wp_steps 3 (t' := (99, [some (.ref 84), some (.int x1), some (.int (nI (c)))], [.ref 84, .ref 84, .long (10 * (W 84 24)), .ref 84], (HD, M, W, mr))) rfl ?_
        refine wp_geti rfl ⟨by decide, rfl⟩ (Or.inl rfl) ?_
        rw [h21]
        refine wp_calv (as := [.int (nI (a + c))]) rfl rfl rfl (Nat.le_of_ble_eq_true rfl) ⟨by decide, rfl⟩ ((c_rbyte (mi := M) (ml := W) hM (p := a + c) hB (by have := hB.1.2.2.2; omega))) (by decide) ?_
        rintro _ _ ⟨rfl, rfl⟩
        show aWP _ _ (101, [some (.ref 84), some (.int x1), some (.int (nI (c)))], [.int (b (a + c)), .long (10 * (W 84 24)), .ref 84], (HD, M, W, mr)) _
        refine wp_steps 5 (t' := (108, [some (.ref 84), some (.int x1), some (.int (nI (c)))], [.long (((10 * (W 84 24)) + ((b (a + c)).toInt64)) - 48), .ref 84], (HD, M, W, mr))) rfl ?_
        refine wp_putl rfl ⟨by decide, rfl⟩ rfl (fun m_7 h_8 => ?_)
        subst h_8
        refine wp_steps 3 (t' := (112, [some (.ref 84), some (.int x1), some (.int ((nI (c)) + Int32.ofInt 1))], [.ref 84, .ref 84], (HD, M, (aup W 84 24 (((10 * (W 84 24)) + ((b (a + c)).toInt64)) - 48)), mr))) rfl ?_
        refine wp_geti rfl ⟨by decide, rfl⟩ (Or.inl rfl) ?_
        rw [h21]
        refine wp_steps 2 (t' := (115, [some (.ref 84), some (.int x1), some (.int ((nI (c)) + Int32.ofInt 1))], [.int ((nI (a + c)) + 1), .ref 84], (HD, M, (aup W 84 24 (((10 * (W 84 24)) + ((b (a + c)).toInt64)) - 48)), mr))) rfl ?_
        refine wp_puti rfl ⟨by decide, rfl⟩ rfl (fun m_9 h_10 => ?_)
        subst h_10
        refine wp_steps 1 (t' := (80, [some (.ref 84), some (.int x1), some (.int ((nI (c)) + Int32.ofInt 1))], [], (HD, (aup M 84 21 ((nI (a + c)) + 1)), (aup W 84 24 (((10 * (W 84 24)) + ((b (a + c)).toInt64)) - 48)), mr))) rfl ?_
        have q := i0_t c_1
        have qa := hB.in_n (by decide) q
        rw [skF_st q] at hk
        rw [nI_1, inc_nI]
        refine ih (c + 1) _ _ (hB.up (by decide) _) (by simp [aup, Nat.add_assoc]) (by omega) (by omega) (fun hc => ?_) ?_
        · have q4 : c ≤ 4 := by omega
          show (10 * W 84 24 + (b (a + c)).toInt64 - 48).toInt32 = _
          rw [nuF_sn, ← hw q4, lg_l2i_sub, lg_l2i_add, lg_l2i_mul, Int32.toInt32_toInt64]
          rfl
        · rw [aup_aup, show a + (c + 1) = a + c + 1 by omega]
          exact hk
