/-! the reference: the next token, what it is (written by wip/whole/mkref1.py) -/
def rtF (b : Nat → Int32) (n a : Nat) : Int32 := if n ≤ a then 0 else if inR 97 122 (b a) then 1 else if inR 48 57 (b a) then (if lxE b n a - a ≤ 4 then 2 else 4) else if siG (b a) = 1 then 4 else 3
def RTK (b : Nat → Int32) (n a : Nat) (m : Nat → Nat → Int32) (w : Nat → Nat → Int64) : Prop := a ≤ n ∧ m 84 23 = nI a ∧ m 84 22 = rtF b n a ∧ (rtF b n a ≠ 4 → m 84 21 = nI (lxE b n a)) ∧ (rtF b n a = 2 → (w 84 24).toInt32 = nuF b (lxE b n a - a) a 0) ∧ (rtF b n a = 3 → w 84 24 = (b a).toInt64)
/-- alike but for the token -/
def frN (m m' : Nat → Nat → Int32) : Prop := ∀ k j, ¬ (k = 84 ∧ 21 ≤ j ∧ j ≤ 23) → m' k j = m k j
theorem frN.rf (m : Nat → Nat → Int32) : frN m m := fun _ _ _ => rfl
theorem frN.tr {a b c : Nat → Nat → Int32} (h : frN a b) (k : frN b c) : frN a c := fun x y q => (k x y q).trans (h x y q)
theorem frN.up {m : Nat → Nat → Int32} {j : Nat} (h1 : 21 ≤ j) (h2 : j ≤ 23) (v : Int32) : frN m (aup m 84 j v) := fun x y q => by
  unfold aup
  by_cases e : x = 84
  · by_cases e2 : y = j
    · exact absurd ⟨e, by omega, by omega⟩ q
    · rw [if_pos e, if_neg e2]
  · rw [if_neg e]
theorem frN.R {m m' : Nat → Nat → Int32} (h : frN m m') : frR m m' := fun k j q => h k j (fun z => q ⟨z.1, z.2.1, by omega⟩)
theorem spF_n {b : Nat → Int32} {n : Nat} (hb : ∀ p, n ≤ p → b p = -1) : ∀ g h, h ≤ n → spF b g h ≤ n
  | 0, _, h => h
  | g + 1, h, hn => by
    unfold spF
    split
    · rename_i q
      have : h < n := Nat.lt_of_not_le (fun z => by rw [hb h z] at q; exact absurd q (by decide))
      exact spF_n hb g (h + 1) (by omega)
    · exact hn
theorem skF_n {b : Nat → Int32} {n : Nat} {lo hi : Int32} (hb : ∀ p, n ≤ p → b p = -1) (hl : (-1 : Int32) < lo) : ∀ g h, h ≤ n → h ≤ skF b lo hi g h ∧ skF b lo hi g h ≤ n
  | 0, _, h => ⟨Nat.le_refl _, h⟩
  | g + 1, h, hn => by
    unfold skF
    split
    · exact ⟨Nat.le_refl _, hn⟩
    · rename_i q
      split
      · exact ⟨Nat.le_refl _, hn⟩
      · have : h < n := Nat.lt_of_not_le (fun z => q (by rw [hb h z]; exact hl))
        have := skF_n (hi := hi) hb hl g (h + 1) (by omega)
        omega
theorem lxE_l {b : Nat → Int32} {n a : Nat} (h : a < n) (q : inR 97 122 (b a)) : lxE b n a = skF b 97 122 160 a := by
  unfold lxE
  rw [if_neg (by omega), if_neg (fun z => z.elim q.1 q.2)]
theorem not_l {x : Int32} (q : ¬ inR 97 122 x) : x < 97 ∨ 122 < x := Decidable.byContradiction fun z => q ⟨fun y => z (Or.inl y), fun y => z (Or.inr y)⟩
theorem not_d {x : Int32} (q : ¬ inR 48 57 x) : x < 48 ∨ 57 < x := Decidable.byContradiction fun z => q ⟨fun y => z (Or.inl y), fun y => z (Or.inr y)⟩
theorem lxE_d {b : Nat → Int32} {n a : Nat} (h : a < n) (q : ¬ inR 97 122 (b a)) (q2 : inR 48 57 (b a)) : lxE b n a = skF b 48 57 160 a := by
  unfold lxE
  rw [if_neg (by omega), if_pos (not_l q), if_neg (fun z => z.elim q2.1 q2.2)]
theorem lxE_s {b : Nat → Int32} {n a : Nat} (h : a < n) (q : ¬ inR 97 122 (b a)) (q2 : ¬ inR 48 57 (b a)) : lxE b n a = a + 1 := by
  unfold lxE
  rw [if_neg (by omega), if_pos (not_l q), if_pos (not_d q2)]
theorem lxE_n {b : Nat → Int32} {n a : Nat} (hb : ∀ p, n ≤ p → b p = -1) (ha : a ≤ n) : lxE b n a ≤ n ∧ (a < n → a < lxE b n a) := by
  by_cases h : a < n
  · by_cases q : inR 97 122 (b a)
    · rw [lxE_l h q, show (160 : Nat) = 159 + 1 from rfl, skF_st q]
      have := skF_n (hi := 122) hb (show (-1 : Int32) < 97 by decide) 159 (a + 1) (by omega)
      omega
    · by_cases q2 : inR 48 57 (b a)
      · rw [lxE_d h q q2, show (160 : Nat) = 159 + 1 from rfl, skF_st q2]
        have := skF_n (hi := 57) hb (show (-1 : Int32) < 48 by decide) 159 (a + 1) (by omega)
        omega
      · rw [lxE_s h q q2]; omega
  · unfold lxE
    rw [if_pos (by omega)]
    omega
/-- the bytes of a tape aren't below 0 -/
def nnB (b : Nat → Int32) (n : Nat) : Prop := ∀ p, p < n → ¬ b p < 0
theorem rt_end {b : Nat → Int32} {n a : Nat} (h : n ≤ a) : rtF b n a = 0 := if_pos h
theorem rt_l {b : Nat → Int32} {n a : Nat} (h : a < n) (q : inR 97 122 (b a)) : rtF b n a = 1 := by
  unfold rtF; rw [if_neg (by omega), if_pos q]
theorem rt_d {b : Nat → Int32} {n a : Nat} (h : a < n) (q : ¬ inR 97 122 (b a)) (q2 : inR 48 57 (b a)) : rtF b n a = if lxE b n a - a ≤ 4 then 2 else 4 := by
  unfold rtF; rw [if_neg (by omega), if_neg q, if_pos q2]
theorem rt_s {b : Nat → Int32} {n a : Nat} (h : a < n) (q : ¬ inR 97 122 (b a)) (q2 : ¬ inR 48 57 (b a)) : rtF b n a = if siG (b a) = 1 then 4 else 3 := by
  unfold rtF; rw [if_neg (by omega), if_neg q, if_neg q2]
set_option maxRecDepth 20000 in
set_option maxHeartbeats 1000000 in
theorem c_next {X : aXt × Value} {mi : Nat → Nat → Int32} {ml : Nat → Nat → Int64} {mr : Nat → Nat → Option Nat} (hM : MRok mr) {b : Nat → Int32} {n t : Nat} (hB : RB b n t mi) (hnn : nnB b n) {h : Nat} (h21 : mi 84 21 = nI h) (hn : h ≤ n) : aCW X 3 126 [.ref 84] (HD, mi, ml, mr) (fun r h' => r = none ∧ ∃ m' w', h' = (HD, m', w', mr) ∧ frN mi m' ∧ RTK b n (spF b 160 h) m' w') := by
  refine cw_of (cd := cd_X7_next) (nL := 3) rfl rfl ?_
  show aWP _ _ (0, [some (.ref 84), none, none], [], (HD, mi, ml, mr)) _
  refine l_blanks hM 160 h mi hB h21 hn (by have := hB.1.2.2.2; omega) ?_
  have ha := spF_n (fun p => hB.out (p := p)) 160 h hn
  generalize spF b 160 h = a at ha ⊢
  refine wp_steps 2 (t' := (21, [some (.ref 84), none, none], [.ref 84, .ref 84], (HD, (aup mi 84 21 (nI a)), ml, mr))) rfl ?_
  refine wp_geti rfl ⟨by decide, rfl⟩ (Or.inl rfl) ?_
  rw [show (aup mi 84 21 (nI a)) 84 21 = nI a by simp [aup]]
  refine wp_puti rfl ⟨by decide, rfl⟩ rfl (fun m_1 h_2 => ?_)
  subst h_2
  refine wp_steps 2 (t' := (25, [some (.ref 84), none, none], [.ref 84, .ref 84], (HD, (aup (aup mi 84 21 (nI a)) 84 23 (nI a)), ml, mr))) rfl ?_
  refine wp_geti rfl ⟨by decide, rfl⟩ (Or.inl rfl) ?_
  rw [show (aup (aup mi 84 21 (nI a)) 84 23 (nI a)) 84 21 = nI a by simp [aup]]
  refine wp_calv (as := [.int (nI a)]) rfl rfl rfl (Nat.le_of_ble_eq_true rfl) ⟨by decide, rfl⟩ ((c_rbyte (ml := ml) hM (p := a) (RB.up (RB.up hB (by decide) _) (by decide) _) (by have := hB.1.2.2.2; omega))) (by decide) ?_
  rintro _ _ ⟨rfl, rfl⟩
  show aWP _ _ (27, [some (.ref 84), none, none], [.int (b a)], (HD, (aup (aup mi 84 21 (nI a)) 84 23 (nI a)), ml, mr)) _
  refine wp_steps 3 (t' := (30, [some (.ref 84), some (.int (b a)), none], [.int 4, .ref 84], (HD, (aup (aup mi 84 21 (nI a)) 84 23 (nI a)), ml, mr))) rfl ?_
  refine wp_puti rfl ⟨by decide, rfl⟩ rfl (fun m_3 h_4 => ?_)
  subst h_4
  refine wp_steps 1 (t' := (32, [some (.ref 84), some (.int (b a)), none], [.int (b a)], (HD, (aup (aup (aup mi 84 21 (nI a)) 84 23 (nI a)) 84 22 4), ml, mr))) rfl ?_
  refine wp_bI rfl (fun c_5 => ?_) (fun c_5 => ?_)
  · have c_5 : 0 ≤ (b a) := of_decide_eq_true c_5
    refine wp_steps 4 (t' := (45, [some (.ref 84), some (.int (b a)), none], [.long 122, .long 97, .long ((b a).toInt64)], (HD, (aup (aup (aup mi 84 21 (nI a)) 84 23 (nI a)) 84 22 4), ml, mr))) rfl ?_
    refine wp_cal (as := [.long ((b a).toInt64), .long 97, .long 122]) rfl rfl rfl (Nat.le_of_ble_eq_true rfl) ((c_in (x := b a) (lo := 97) (hi := 122) rfl (by decide) (by decide))) (by decide) ?_
    rintro _ _ ⟨rfl, rfl⟩
    show aWP _ _ (46, [some (.ref 84), some (.int (b a)), none], [.int (if inR 97 122 (b a) then (1 : Int32) else 0)], (HD, (aup (aup (aup mi 84 21 (nI a)) 84 23 (nI a)) 84 22 4), ml, mr)) _
    refine wp_bI rfl (fun c_6 => ?_) (fun c_6 => ?_)
    · have c_6 : (if inR 97 122 (b a) then (1 : Int32) else 0) = 0 := of_decide_eq_true c_6
      refine wp_steps 4 (t' := (70, [some (.ref 84), some (.int (b a)), none], [.long 57, .long 48, .long ((b a).toInt64)], (HD, (aup (aup (aup mi 84 21 (nI a)) 84 23 (nI a)) 84 22 4), ml, mr))) rfl ?_
      refine wp_cal (as := [.long ((b a).toInt64), .long 48, .long 57]) rfl rfl rfl (Nat.le_of_ble_eq_true rfl) ((c_in (x := b a) (lo := 48) (hi := 57) rfl (by decide) (by decide))) (by decide) ?_
      rintro _ _ ⟨rfl, rfl⟩
      show aWP _ _ (71, [some (.ref 84), some (.int (b a)), none], [.int (if inR 48 57 (b a) then (1 : Int32) else 0)], (HD, (aup (aup (aup mi 84 21 (nI a)) 84 23 (nI a)) 84 22 4), ml, mr)) _
      refine wp_bI rfl (fun c_7 => ?_) (fun c_7 => ?_)
      · have c_7 : (if inR 48 57 (b a) then (1 : Int32) else 0) = 0 := of_decide_eq_true c_7
        refine wp_steps 2 (t' := (128, [some (.ref 84), some (.int (b a)), none], [.int 40, .int (b a)], (HD, (aup (aup (aup mi 84 21 (nI a)) 84 23 (nI a)) 84 22 4), ml, mr))) rfl ?_
        refine wp_bC rfl (fun c_8 => ?_) (fun c_8 => ?_)
        · have c_8 : (b a) = 40 := of_decide_eq_true c_8
          refine wp_steps 2 (t' := (152, [some (.ref 84), some (.int (b a)), none], [.int 3, .ref 84], (HD, (aup (aup (aup mi 84 21 (nI a)) 84 23 (nI a)) 84 22 4), ml, mr))) rfl ?_
          refine wp_puti rfl ⟨by decide, rfl⟩ rfl (fun m_9 h_10 => ?_)
          subst h_10
          refine wp_steps 3 (t' := (156, [some (.ref 84), some (.int (b a)), none], [.long ((b a).toInt64), .ref 84], (HD, (aup (aup (aup (aup mi 84 21 (nI a)) 84 23 (nI a)) 84 22 4) 84 22 3), ml, mr))) rfl ?_
          refine wp_putl rfl ⟨by decide, rfl⟩ rfl (fun m_11 h_12 => ?_)
          subst h_12
          refine wp_steps 2 (t' := (159, [some (.ref 84), some (.int (b a)), none], [.ref 84, .ref 84], (HD, (aup (aup (aup (aup mi 84 21 (nI a)) 84 23 (nI a)) 84 22 4) 84 22 3), (aup ml 84 24 ((b a).toInt64)), mr))) rfl ?_
          refine wp_geti rfl ⟨by decide, rfl⟩ (Or.inl rfl) ?_
          rw [show (aup (aup (aup (aup mi 84 21 (nI a)) 84 23 (nI a)) 84 22 4) 84 22 3) 84 21 = nI a by simp [aup]]
          refine wp_steps 2 (t' := (162, [some (.ref 84), some (.int (b a)), none], [.int ((nI a) + 1), .ref 84], (HD, (aup (aup (aup (aup mi 84 21 (nI a)) 84 23 (nI a)) 84 22 4) 84 22 3), (aup ml 84 24 ((b a).toInt64)), mr))) rfl ?_
          refine wp_puti rfl ⟨by decide, rfl⟩ rfl (fun m_13 h_14 => ?_)
          subst h_14
          refine wp_ret rfl rfl ⟨⟨Nat.le_refl _, Nat.le_refl _⟩, ?_⟩
          have q0 : a < n := Nat.lt_of_not_le (fun z => by rw [hB.out z] at c_5; exact absurd c_5 (by decide))
          have ql := i0_f c_6
          have qd := i0_f c_7
          have qs : siG (b a) = b a := by unfold siG; simp [c_8]
          have qs2 : ¬ siG (b a) = 1 := by rw [qs, c_8]; decide
          have e : rtF b n a = 3 := by rw [rt_s q0 ql qd, if_neg qs2]
          exact ⟨rfl, _, _, rfl, (frN.tr (frN.tr (frN.tr (frN.tr (frN.tr (frN.rf mi) (frN.up (by decide) (by decide) _)) (frN.up (by decide) (by decide) _)) (frN.up (by decide) (by decide) _)) (frN.up (by decide) (by decide) _)) (frN.up (by decide) (by decide) _)), ha, by simp [aup], by rw [e]; simp [aup], fun _ => by rw [lxE_s q0 ql qd]; simp [aup, nI_1], fun z => by rw [e] at z; exact absurd z (by decide), fun _ => by simp [aup]⟩
        · have c_8 : ¬ ((b a) = 40) := of_decide_eq_false c_8
          refine wp_steps 2 (t' := (131, [some (.ref 84), some (.int (b a)), none], [.int 41, .int (b a)], (HD, (aup (aup (aup mi 84 21 (nI a)) 84 23 (nI a)) 84 22 4), ml, mr))) rfl ?_
          refine wp_bC rfl (fun c_15 => ?_) (fun c_15 => ?_)
          · have c_15 : (b a) = 41 := of_decide_eq_true c_15
            refine wp_steps 2 (t' := (152, [some (.ref 84), some (.int (b a)), none], [.int 3, .ref 84], (HD, (aup (aup (aup mi 84 21 (nI a)) 84 23 (nI a)) 84 22 4), ml, mr))) rfl ?_
            refine wp_puti rfl ⟨by decide, rfl⟩ rfl (fun m_16 h_17 => ?_)
            subst h_17
            refine wp_steps 3 (t' := (156, [some (.ref 84), some (.int (b a)), none], [.long ((b a).toInt64), .ref 84], (HD, (aup (aup (aup (aup mi 84 21 (nI a)) 84 23 (nI a)) 84 22 4) 84 22 3), ml, mr))) rfl ?_
            refine wp_putl rfl ⟨by decide, rfl⟩ rfl (fun m_18 h_19 => ?_)
            subst h_19
            refine wp_steps 2 (t' := (159, [some (.ref 84), some (.int (b a)), none], [.ref 84, .ref 84], (HD, (aup (aup (aup (aup mi 84 21 (nI a)) 84 23 (nI a)) 84 22 4) 84 22 3), (aup ml 84 24 ((b a).toInt64)), mr))) rfl ?_
            refine wp_geti rfl ⟨by decide, rfl⟩ (Or.inl rfl) ?_
            rw [show (aup (aup (aup (aup mi 84 21 (nI a)) 84 23 (nI a)) 84 22 4) 84 22 3) 84 21 = nI a by simp [aup]]
            refine wp_steps 2 (t' := (162, [some (.ref 84), some (.int (b a)), none], [.int ((nI a) + 1), .ref 84], (HD, (aup (aup (aup (aup mi 84 21 (nI a)) 84 23 (nI a)) 84 22 4) 84 22 3), (aup ml 84 24 ((b a).toInt64)), mr))) rfl ?_
            refine wp_puti rfl ⟨by decide, rfl⟩ rfl (fun m_20 h_21 => ?_)
            subst h_21
            refine wp_ret rfl rfl ⟨⟨Nat.le_refl _, Nat.le_refl _⟩, ?_⟩
            have q0 : a < n := Nat.lt_of_not_le (fun z => by rw [hB.out z] at c_5; exact absurd c_5 (by decide))
            have ql := i0_f c_6
            have qd := i0_f c_7
            have qs : siG (b a) = b a := by unfold siG; simp [c_15]
            have qs2 : ¬ siG (b a) = 1 := by rw [qs, c_15]; decide
            have e : rtF b n a = 3 := by rw [rt_s q0 ql qd, if_neg qs2]
            exact ⟨rfl, _, _, rfl, (frN.tr (frN.tr (frN.tr (frN.tr (frN.tr (frN.rf mi) (frN.up (by decide) (by decide) _)) (frN.up (by decide) (by decide) _)) (frN.up (by decide) (by decide) _)) (frN.up (by decide) (by decide) _)) (frN.up (by decide) (by decide) _)), ha, by simp [aup], by rw [e]; simp [aup], fun _ => by rw [lxE_s q0 ql qd]; simp [aup, nI_1], fun z => by rw [e] at z; exact absurd z (by decide), fun _ => by simp [aup]⟩
          · have c_15 : ¬ ((b a) = 41) := of_decide_eq_false c_15
            refine wp_steps 2 (t' := (134, [some (.ref 84), some (.int (b a)), none], [.int 59, .int (b a)], (HD, (aup (aup (aup mi 84 21 (nI a)) 84 23 (nI a)) 84 22 4), ml, mr))) rfl ?_
            refine wp_bC rfl (fun c_22 => ?_) (fun c_22 => ?_)
            · have c_22 : (b a) = 59 := of_decide_eq_true c_22
              refine wp_steps 2 (t' := (152, [some (.ref 84), some (.int (b a)), none], [.int 3, .ref 84], (HD, (aup (aup (aup mi 84 21 (nI a)) 84 23 (nI a)) 84 22 4), ml, mr))) rfl ?_
              refine wp_puti rfl ⟨by decide, rfl⟩ rfl (fun m_23 h_24 => ?_)
              subst h_24
              refine wp_steps 3 (t' := (156, [some (.ref 84), some (.int (b a)), none], [.long ((b a).toInt64), .ref 84], (HD, (aup (aup (aup (aup mi 84 21 (nI a)) 84 23 (nI a)) 84 22 4) 84 22 3), ml, mr))) rfl ?_
              refine wp_putl rfl ⟨by decide, rfl⟩ rfl (fun m_25 h_26 => ?_)
              subst h_26
              refine wp_steps 2 (t' := (159, [some (.ref 84), some (.int (b a)), none], [.ref 84, .ref 84], (HD, (aup (aup (aup (aup mi 84 21 (nI a)) 84 23 (nI a)) 84 22 4) 84 22 3), (aup ml 84 24 ((b a).toInt64)), mr))) rfl ?_
              refine wp_geti rfl ⟨by decide, rfl⟩ (Or.inl rfl) ?_
              rw [show (aup (aup (aup (aup mi 84 21 (nI a)) 84 23 (nI a)) 84 22 4) 84 22 3) 84 21 = nI a by simp [aup]]
              refine wp_steps 2 (t' := (162, [some (.ref 84), some (.int (b a)), none], [.int ((nI a) + 1), .ref 84], (HD, (aup (aup (aup (aup mi 84 21 (nI a)) 84 23 (nI a)) 84 22 4) 84 22 3), (aup ml 84 24 ((b a).toInt64)), mr))) rfl ?_
              refine wp_puti rfl ⟨by decide, rfl⟩ rfl (fun m_27 h_28 => ?_)
              subst h_28
              refine wp_ret rfl rfl ⟨⟨Nat.le_refl _, Nat.le_refl _⟩, ?_⟩
              have q0 : a < n := Nat.lt_of_not_le (fun z => by rw [hB.out z] at c_5; exact absurd c_5 (by decide))
              have ql := i0_f c_6
              have qd := i0_f c_7
              have qs : siG (b a) = b a := by unfold siG; simp [c_22]
              have qs2 : ¬ siG (b a) = 1 := by rw [qs, c_22]; decide
              have e : rtF b n a = 3 := by rw [rt_s q0 ql qd, if_neg qs2]
              exact ⟨rfl, _, _, rfl, (frN.tr (frN.tr (frN.tr (frN.tr (frN.tr (frN.rf mi) (frN.up (by decide) (by decide) _)) (frN.up (by decide) (by decide) _)) (frN.up (by decide) (by decide) _)) (frN.up (by decide) (by decide) _)) (frN.up (by decide) (by decide) _)), ha, by simp [aup], by rw [e]; simp [aup], fun _ => by rw [lxE_s q0 ql qd]; simp [aup, nI_1], fun z => by rw [e] at z; exact absurd z (by decide), fun _ => by simp [aup]⟩
            · have c_22 : ¬ ((b a) = 59) := of_decide_eq_false c_22
              refine wp_steps 2 (t' := (137, [some (.ref 84), some (.int (b a)), none], [.int 43, .int (b a)], (HD, (aup (aup (aup mi 84 21 (nI a)) 84 23 (nI a)) 84 22 4), ml, mr))) rfl ?_
              refine wp_bC rfl (fun c_29 => ?_) (fun c_29 => ?_)
              · have c_29 : (b a) = 43 := of_decide_eq_true c_29
                refine wp_steps 2 (t' := (152, [some (.ref 84), some (.int (b a)), none], [.int 3, .ref 84], (HD, (aup (aup (aup mi 84 21 (nI a)) 84 23 (nI a)) 84 22 4), ml, mr))) rfl ?_
                refine wp_puti rfl ⟨by decide, rfl⟩ rfl (fun m_30 h_31 => ?_)
                subst h_31
                refine wp_steps 3 (t' := (156, [some (.ref 84), some (.int (b a)), none], [.long ((b a).toInt64), .ref 84], (HD, (aup (aup (aup (aup mi 84 21 (nI a)) 84 23 (nI a)) 84 22 4) 84 22 3), ml, mr))) rfl ?_
                refine wp_putl rfl ⟨by decide, rfl⟩ rfl (fun m_32 h_33 => ?_)
                subst h_33
                refine wp_steps 2 (t' := (159, [some (.ref 84), some (.int (b a)), none], [.ref 84, .ref 84], (HD, (aup (aup (aup (aup mi 84 21 (nI a)) 84 23 (nI a)) 84 22 4) 84 22 3), (aup ml 84 24 ((b a).toInt64)), mr))) rfl ?_
                refine wp_geti rfl ⟨by decide, rfl⟩ (Or.inl rfl) ?_
                rw [show (aup (aup (aup (aup mi 84 21 (nI a)) 84 23 (nI a)) 84 22 4) 84 22 3) 84 21 = nI a by simp [aup]]
                refine wp_steps 2 (t' := (162, [some (.ref 84), some (.int (b a)), none], [.int ((nI a) + 1), .ref 84], (HD, (aup (aup (aup (aup mi 84 21 (nI a)) 84 23 (nI a)) 84 22 4) 84 22 3), (aup ml 84 24 ((b a).toInt64)), mr))) rfl ?_
                refine wp_puti rfl ⟨by decide, rfl⟩ rfl (fun m_34 h_35 => ?_)
                subst h_35
                refine wp_ret rfl rfl ⟨⟨Nat.le_refl _, Nat.le_refl _⟩, ?_⟩
                have q0 : a < n := Nat.lt_of_not_le (fun z => by rw [hB.out z] at c_5; exact absurd c_5 (by decide))
                have ql := i0_f c_6
                have qd := i0_f c_7
                have qs : siG (b a) = b a := by unfold siG; simp [c_29]
                have qs2 : ¬ siG (b a) = 1 := by rw [qs, c_29]; decide
                have e : rtF b n a = 3 := by rw [rt_s q0 ql qd, if_neg qs2]
                exact ⟨rfl, _, _, rfl, (frN.tr (frN.tr (frN.tr (frN.tr (frN.tr (frN.rf mi) (frN.up (by decide) (by decide) _)) (frN.up (by decide) (by decide) _)) (frN.up (by decide) (by decide) _)) (frN.up (by decide) (by decide) _)) (frN.up (by decide) (by decide) _)), ha, by simp [aup], by rw [e]; simp [aup], fun _ => by rw [lxE_s q0 ql qd]; simp [aup, nI_1], fun z => by rw [e] at z; exact absurd z (by decide), fun _ => by simp [aup]⟩
              · have c_29 : ¬ ((b a) = 43) := of_decide_eq_false c_29
                refine wp_steps 2 (t' := (140, [some (.ref 84), some (.int (b a)), none], [.int 45, .int (b a)], (HD, (aup (aup (aup mi 84 21 (nI a)) 84 23 (nI a)) 84 22 4), ml, mr))) rfl ?_
                refine wp_bC rfl (fun c_36 => ?_) (fun c_36 => ?_)
                · have c_36 : (b a) = 45 := of_decide_eq_true c_36
                  refine wp_steps 2 (t' := (152, [some (.ref 84), some (.int (b a)), none], [.int 3, .ref 84], (HD, (aup (aup (aup mi 84 21 (nI a)) 84 23 (nI a)) 84 22 4), ml, mr))) rfl ?_
                  refine wp_puti rfl ⟨by decide, rfl⟩ rfl (fun m_37 h_38 => ?_)
                  subst h_38
                  refine wp_steps 3 (t' := (156, [some (.ref 84), some (.int (b a)), none], [.long ((b a).toInt64), .ref 84], (HD, (aup (aup (aup (aup mi 84 21 (nI a)) 84 23 (nI a)) 84 22 4) 84 22 3), ml, mr))) rfl ?_
                  refine wp_putl rfl ⟨by decide, rfl⟩ rfl (fun m_39 h_40 => ?_)
                  subst h_40
                  refine wp_steps 2 (t' := (159, [some (.ref 84), some (.int (b a)), none], [.ref 84, .ref 84], (HD, (aup (aup (aup (aup mi 84 21 (nI a)) 84 23 (nI a)) 84 22 4) 84 22 3), (aup ml 84 24 ((b a).toInt64)), mr))) rfl ?_
                  refine wp_geti rfl ⟨by decide, rfl⟩ (Or.inl rfl) ?_
                  rw [show (aup (aup (aup (aup mi 84 21 (nI a)) 84 23 (nI a)) 84 22 4) 84 22 3) 84 21 = nI a by simp [aup]]
                  refine wp_steps 2 (t' := (162, [some (.ref 84), some (.int (b a)), none], [.int ((nI a) + 1), .ref 84], (HD, (aup (aup (aup (aup mi 84 21 (nI a)) 84 23 (nI a)) 84 22 4) 84 22 3), (aup ml 84 24 ((b a).toInt64)), mr))) rfl ?_
                  refine wp_puti rfl ⟨by decide, rfl⟩ rfl (fun m_41 h_42 => ?_)
                  subst h_42
                  refine wp_ret rfl rfl ⟨⟨Nat.le_refl _, Nat.le_refl _⟩, ?_⟩
                  have q0 : a < n := Nat.lt_of_not_le (fun z => by rw [hB.out z] at c_5; exact absurd c_5 (by decide))
                  have ql := i0_f c_6
                  have qd := i0_f c_7
                  have qs : siG (b a) = b a := by unfold siG; simp [c_36]
                  have qs2 : ¬ siG (b a) = 1 := by rw [qs, c_36]; decide
                  have e : rtF b n a = 3 := by rw [rt_s q0 ql qd, if_neg qs2]
                  exact ⟨rfl, _, _, rfl, (frN.tr (frN.tr (frN.tr (frN.tr (frN.tr (frN.rf mi) (frN.up (by decide) (by decide) _)) (frN.up (by decide) (by decide) _)) (frN.up (by decide) (by decide) _)) (frN.up (by decide) (by decide) _)) (frN.up (by decide) (by decide) _)), ha, by simp [aup], by rw [e]; simp [aup], fun _ => by rw [lxE_s q0 ql qd]; simp [aup, nI_1], fun z => by rw [e] at z; exact absurd z (by decide), fun _ => by simp [aup]⟩
                · have c_36 : ¬ ((b a) = 45) := of_decide_eq_false c_36
                  refine wp_steps 2 (t' := (143, [some (.ref 84), some (.int (b a)), none], [.int 42, .int (b a)], (HD, (aup (aup (aup mi 84 21 (nI a)) 84 23 (nI a)) 84 22 4), ml, mr))) rfl ?_
                  refine wp_bC rfl (fun c_43 => ?_) (fun c_43 => ?_)
                  · have c_43 : (b a) = 42 := of_decide_eq_true c_43
                    refine wp_steps 2 (t' := (152, [some (.ref 84), some (.int (b a)), none], [.int 3, .ref 84], (HD, (aup (aup (aup mi 84 21 (nI a)) 84 23 (nI a)) 84 22 4), ml, mr))) rfl ?_
                    refine wp_puti rfl ⟨by decide, rfl⟩ rfl (fun m_44 h_45 => ?_)
                    subst h_45
                    refine wp_steps 3 (t' := (156, [some (.ref 84), some (.int (b a)), none], [.long ((b a).toInt64), .ref 84], (HD, (aup (aup (aup (aup mi 84 21 (nI a)) 84 23 (nI a)) 84 22 4) 84 22 3), ml, mr))) rfl ?_
                    refine wp_putl rfl ⟨by decide, rfl⟩ rfl (fun m_46 h_47 => ?_)
                    subst h_47
                    refine wp_steps 2 (t' := (159, [some (.ref 84), some (.int (b a)), none], [.ref 84, .ref 84], (HD, (aup (aup (aup (aup mi 84 21 (nI a)) 84 23 (nI a)) 84 22 4) 84 22 3), (aup ml 84 24 ((b a).toInt64)), mr))) rfl ?_
                    refine wp_geti rfl ⟨by decide, rfl⟩ (Or.inl rfl) ?_
                    rw [show (aup (aup (aup (aup mi 84 21 (nI a)) 84 23 (nI a)) 84 22 4) 84 22 3) 84 21 = nI a by simp [aup]]
                    refine wp_steps 2 (t' := (162, [some (.ref 84), some (.int (b a)), none], [.int ((nI a) + 1), .ref 84], (HD, (aup (aup (aup (aup mi 84 21 (nI a)) 84 23 (nI a)) 84 22 4) 84 22 3), (aup ml 84 24 ((b a).toInt64)), mr))) rfl ?_
                    refine wp_puti rfl ⟨by decide, rfl⟩ rfl (fun m_48 h_49 => ?_)
                    subst h_49
                    refine wp_ret rfl rfl ⟨⟨Nat.le_refl _, Nat.le_refl _⟩, ?_⟩
                    have q0 : a < n := Nat.lt_of_not_le (fun z => by rw [hB.out z] at c_5; exact absurd c_5 (by decide))
                    have ql := i0_f c_6
                    have qd := i0_f c_7
                    have qs : siG (b a) = b a := by unfold siG; simp [c_43]
                    have qs2 : ¬ siG (b a) = 1 := by rw [qs, c_43]; decide
                    have e : rtF b n a = 3 := by rw [rt_s q0 ql qd, if_neg qs2]
                    exact ⟨rfl, _, _, rfl, (frN.tr (frN.tr (frN.tr (frN.tr (frN.tr (frN.rf mi) (frN.up (by decide) (by decide) _)) (frN.up (by decide) (by decide) _)) (frN.up (by decide) (by decide) _)) (frN.up (by decide) (by decide) _)) (frN.up (by decide) (by decide) _)), ha, by simp [aup], by rw [e]; simp [aup], fun _ => by rw [lxE_s q0 ql qd]; simp [aup, nI_1], fun z => by rw [e] at z; exact absurd z (by decide), fun _ => by simp [aup]⟩
                  · have c_43 : ¬ ((b a) = 42) := of_decide_eq_false c_43
                    refine wp_steps 2 (t' := (146, [some (.ref 84), some (.int (b a)), none], [.int 60, .int (b a)], (HD, (aup (aup (aup mi 84 21 (nI a)) 84 23 (nI a)) 84 22 4), ml, mr))) rfl ?_
                    refine wp_bC rfl (fun c_50 => ?_) (fun c_50 => ?_)
                    · have c_50 : (b a) = 60 := of_decide_eq_true c_50
                      refine wp_steps 2 (t' := (152, [some (.ref 84), some (.int (b a)), none], [.int 3, .ref 84], (HD, (aup (aup (aup mi 84 21 (nI a)) 84 23 (nI a)) 84 22 4), ml, mr))) rfl ?_
                      refine wp_puti rfl ⟨by decide, rfl⟩ rfl (fun m_51 h_52 => ?_)
                      subst h_52
                      refine wp_steps 3 (t' := (156, [some (.ref 84), some (.int (b a)), none], [.long ((b a).toInt64), .ref 84], (HD, (aup (aup (aup (aup mi 84 21 (nI a)) 84 23 (nI a)) 84 22 4) 84 22 3), ml, mr))) rfl ?_
                      refine wp_putl rfl ⟨by decide, rfl⟩ rfl (fun m_53 h_54 => ?_)
                      subst h_54
                      refine wp_steps 2 (t' := (159, [some (.ref 84), some (.int (b a)), none], [.ref 84, .ref 84], (HD, (aup (aup (aup (aup mi 84 21 (nI a)) 84 23 (nI a)) 84 22 4) 84 22 3), (aup ml 84 24 ((b a).toInt64)), mr))) rfl ?_
                      refine wp_geti rfl ⟨by decide, rfl⟩ (Or.inl rfl) ?_
                      rw [show (aup (aup (aup (aup mi 84 21 (nI a)) 84 23 (nI a)) 84 22 4) 84 22 3) 84 21 = nI a by simp [aup]]
                      refine wp_steps 2 (t' := (162, [some (.ref 84), some (.int (b a)), none], [.int ((nI a) + 1), .ref 84], (HD, (aup (aup (aup (aup mi 84 21 (nI a)) 84 23 (nI a)) 84 22 4) 84 22 3), (aup ml 84 24 ((b a).toInt64)), mr))) rfl ?_
                      refine wp_puti rfl ⟨by decide, rfl⟩ rfl (fun m_55 h_56 => ?_)
                      subst h_56
                      refine wp_ret rfl rfl ⟨⟨Nat.le_refl _, Nat.le_refl _⟩, ?_⟩
                      have q0 : a < n := Nat.lt_of_not_le (fun z => by rw [hB.out z] at c_5; exact absurd c_5 (by decide))
                      have ql := i0_f c_6
                      have qd := i0_f c_7
                      have qs : siG (b a) = b a := by unfold siG; simp [c_50]
                      have qs2 : ¬ siG (b a) = 1 := by rw [qs, c_50]; decide
                      have e : rtF b n a = 3 := by rw [rt_s q0 ql qd, if_neg qs2]
                      exact ⟨rfl, _, _, rfl, (frN.tr (frN.tr (frN.tr (frN.tr (frN.tr (frN.rf mi) (frN.up (by decide) (by decide) _)) (frN.up (by decide) (by decide) _)) (frN.up (by decide) (by decide) _)) (frN.up (by decide) (by decide) _)) (frN.up (by decide) (by decide) _)), ha, by simp [aup], by rw [e]; simp [aup], fun _ => by rw [lxE_s q0 ql qd]; simp [aup, nI_1], fun z => by rw [e] at z; exact absurd z (by decide), fun _ => by simp [aup]⟩
                    · have c_50 : ¬ ((b a) = 60) := of_decide_eq_false c_50
                      refine wp_steps 2 (t' := (149, [some (.ref 84), some (.int (b a)), none], [.int 61, .int (b a)], (HD, (aup (aup (aup mi 84 21 (nI a)) 84 23 (nI a)) 84 22 4), ml, mr))) rfl ?_
                      refine wp_bC rfl (fun c_57 => ?_) (fun c_57 => ?_)
                      · have c_57 : ¬ (b a) = 61 := of_decide_eq_true c_57
                        refine wp_ret rfl rfl ⟨⟨Nat.le_refl _, Nat.le_refl _⟩, ?_⟩
                        have q0 : a < n := Nat.lt_of_not_le (fun z => by rw [hB.out z] at c_5; exact absurd c_5 (by decide))
                        have ql := i0_f c_6
                        have qd := i0_f c_7
                        have qs : siG (b a) = 1 := by unfold siG; simp [c_8, c_15, c_22, c_29, c_36, c_43, c_50, c_57]
                        have e : rtF b n a = 4 := by rw [rt_s q0 ql qd, if_pos qs]
                        exact ⟨rfl, _, _, rfl, (frN.tr (frN.tr (frN.tr (frN.rf mi) (frN.up (by decide) (by decide) _)) (frN.up (by decide) (by decide) _)) (frN.up (by decide) (by decide) _)), ha, by simp [aup], by rw [e]; simp [aup], fun z => absurd e z, fun z => by rw [e] at z; exact absurd z (by decide), fun z => by rw [e] at z; exact absurd z (by decide)⟩
                      · have c_57 : (b a) = 61 := Decidable.not_not.mp (of_decide_eq_false c_57)
                        refine wp_steps 2 (t' := (152, [some (.ref 84), some (.int (b a)), none], [.int 3, .ref 84], (HD, (aup (aup (aup mi 84 21 (nI a)) 84 23 (nI a)) 84 22 4), ml, mr))) rfl ?_
                        refine wp_puti rfl ⟨by decide, rfl⟩ rfl (fun m_58 h_59 => ?_)
                        subst h_59
                        refine wp_steps 3 (t' := (156, [some (.ref 84), some (.int (b a)), none], [.long ((b a).toInt64), .ref 84], (HD, (aup (aup (aup (aup mi 84 21 (nI a)) 84 23 (nI a)) 84 22 4) 84 22 3), ml, mr))) rfl ?_
                        refine wp_putl rfl ⟨by decide, rfl⟩ rfl (fun m_60 h_61 => ?_)
                        subst h_61
                        refine wp_steps 2 (t' := (159, [some (.ref 84), some (.int (b a)), none], [.ref 84, .ref 84], (HD, (aup (aup (aup (aup mi 84 21 (nI a)) 84 23 (nI a)) 84 22 4) 84 22 3), (aup ml 84 24 ((b a).toInt64)), mr))) rfl ?_
                        refine wp_geti rfl ⟨by decide, rfl⟩ (Or.inl rfl) ?_
                        rw [show (aup (aup (aup (aup mi 84 21 (nI a)) 84 23 (nI a)) 84 22 4) 84 22 3) 84 21 = nI a by simp [aup]]
                        refine wp_steps 2 (t' := (162, [some (.ref 84), some (.int (b a)), none], [.int ((nI a) + 1), .ref 84], (HD, (aup (aup (aup (aup mi 84 21 (nI a)) 84 23 (nI a)) 84 22 4) 84 22 3), (aup ml 84 24 ((b a).toInt64)), mr))) rfl ?_
                        refine wp_puti rfl ⟨by decide, rfl⟩ rfl (fun m_62 h_63 => ?_)
                        subst h_63
                        refine wp_ret rfl rfl ⟨⟨Nat.le_refl _, Nat.le_refl _⟩, ?_⟩
                        have q0 : a < n := Nat.lt_of_not_le (fun z => by rw [hB.out z] at c_5; exact absurd c_5 (by decide))
                        have ql := i0_f c_6
                        have qd := i0_f c_7
                        have qs : siG (b a) = b a := by unfold siG; simp [c_57]
                        have qs2 : ¬ siG (b a) = 1 := by rw [qs, c_57]; decide
                        have e : rtF b n a = 3 := by rw [rt_s q0 ql qd, if_neg qs2]
                        exact ⟨rfl, _, _, rfl, (frN.tr (frN.tr (frN.tr (frN.tr (frN.tr (frN.rf mi) (frN.up (by decide) (by decide) _)) (frN.up (by decide) (by decide) _)) (frN.up (by decide) (by decide) _)) (frN.up (by decide) (by decide) _)) (frN.up (by decide) (by decide) _)), ha, by simp [aup], by rw [e]; simp [aup], fun _ => by rw [lxE_s q0 ql qd]; simp [aup, nI_1], fun z => by rw [e] at z; exact absurd z (by decide), fun _ => by simp [aup]⟩
      · have c_7 : ¬ ((if inR 48 57 (b a) then (1 : Int32) else 0) = 0) := of_decide_eq_false c_7
        refine wp_steps 2 (t' := (74, [some (.ref 84), some (.int (b a)), none], [.int 2, .ref 84], (HD, (aup (aup (aup mi 84 21 (nI a)) 84 23 (nI a)) 84 22 4), ml, mr))) rfl ?_
        refine wp_puti rfl ⟨by decide, rfl⟩ rfl (fun m_64 h_65 => ?_)
        subst h_65
        refine wp_steps 2 (t' := (77, [some (.ref 84), some (.int (b a)), none], [.long 0, .ref 84], (HD, (aup (aup (aup (aup mi 84 21 (nI a)) 84 23 (nI a)) 84 22 4) 84 22 2), ml, mr))) rfl ?_
        refine wp_putl rfl ⟨by decide, rfl⟩ rfl (fun m_66 h_67 => ?_)
        subst h_67
        refine wp_steps 2 (t' := (80, [some (.ref 84), some (.int (b a)), some (.int 0)], [], (HD, (aup (aup (aup (aup mi 84 21 (nI a)) 84 23 (nI a)) 84 22 4) 84 22 2), (aup ml 84 24 0), mr))) rfl ?_
        have q0 : a < n := Nat.lt_of_not_le (fun z => by rw [hB.out z] at c_5; exact absurd c_5 (by decide))
        have ql := i0_f c_6
        have qd := i0_t c_7
        have f3 : frN mi (aup (aup (aup (aup mi 84 21 (nI a)) 84 23 (nI a)) 84 22 4) 84 22 2) := (frN.tr (frN.tr (frN.tr (frN.tr (frN.rf mi) (frN.up (by decide) (by decide) _)) (frN.up (by decide) (by decide) _)) (frN.up (by decide) (by decide) _)) (frN.up (by decide) (by decide) _))
        have b3 : RB b n t (aup (aup (aup (aup mi 84 21 (nI a)) 84 23 (nI a)) 84 22 4) 84 22 2) := hB.fr (frN.R f3)
        generalize hM3 : (aup (aup (aup (aup mi 84 21 (nI a)) 84 23 (nI a)) 84 22 4) 84 22 2) = M3 at f3 b3
        refine l_digits (a := a) hM 160 0 M3 (aup ml 84 24 0) b3 (by rw [← hM3]; simp [aup]) ha (by have := hB.1.2.2.2; omega) (fun _ => by simp [aup, nuF]) (fun W hW => ?_)
        rw [show a + 0 = a from rfl] at hW ⊢
        refine wp_steps 3 (t' := (120, [some (.ref 84), some (.int (b a)), some (.int (nI (skF b 48 57 160 a - a)))], [.int 4, .int (nI (skF b 48 57 160 a - a)), .ref 84], (HD, (aup M3 84 21 (nI (skF b 48 57 160 a))), W, mr))) rfl ?_
        refine wp_bC rfl (fun c_91 => ?_) (fun c_91 => ?_)
        · have c_91 : (nI (skF b 48 57 160 a - a)) ≤ 4 := of_decide_eq_true c_91
          refine wp_steps 1 (t' := (124, [some (.ref 84), some (.int (b a)), some (.int (nI (skF b 48 57 160 a - a)))], [.int 2, .ref 84], (HD, (aup M3 84 21 (nI (skF b 48 57 160 a))), W, mr))) rfl ?_
          refine wp_puti rfl ⟨by decide, rfl⟩ rfl (fun m_92 h_93 => ?_)
          subst h_93
          refine wp_steps 1 (t' := (163, [some (.ref 84), some (.int (b a)), some (.int (nI (skF b 48 57 160 a - a)))], [], (HD, (aup (aup M3 84 21 (nI (skF b 48 57 160 a))) 84 22 2), W, mr))) rfl ?_
          refine wp_ret rfl rfl ⟨⟨Nat.le_refl _, Nat.le_refl _⟩, ?_⟩
          have q4 : (skF b 48 57 160 a - a) ≤ 4 := Nat.le_of_not_lt (fun z => nI_ge (a := 4) (b := (skF b 48 57 160 a - a)) z (by have := (skF_n (hi := 57) (fun p => hB.out) (show (-1 : Int32) < 48 by decide) 160 a ha).2; have := hB.1.2.2.2; omega) c_91)
          have e : rtF b n a = 2 := by rw [rt_d q0 ql qd, lxE_d q0 ql qd, if_pos q4]
          exact ⟨rfl, _, _, rfl, ((f3.tr (frN.up (by decide) (by decide) _)).tr (frN.up (by decide) (by decide) _)), ha, by rw [← hM3]; simp [aup], by rw [e]; simp [aup], fun _ => by rw [lxE_d q0 ql qd]; simp [aup], fun _ => by rw [lxE_d q0 ql qd]; exact hW q4, fun z => by rw [e] at z; exact absurd z (by decide)⟩
        · have c_91 : ¬ ((nI (skF b 48 57 160 a - a)) ≤ 4) := of_decide_eq_false c_91
          refine wp_steps 2 (t' := (124, [some (.ref 84), some (.int (b a)), some (.int (nI (skF b 48 57 160 a - a)))], [.int 4, .ref 84], (HD, (aup M3 84 21 (nI (skF b 48 57 160 a))), W, mr))) rfl ?_
          refine wp_puti rfl ⟨by decide, rfl⟩ rfl (fun m_94 h_95 => ?_)
          subst h_95
          refine wp_steps 1 (t' := (163, [some (.ref 84), some (.int (b a)), some (.int (nI (skF b 48 57 160 a - a)))], [], (HD, (aup (aup M3 84 21 (nI (skF b 48 57 160 a))) 84 22 4), W, mr))) rfl ?_
          refine wp_ret rfl rfl ⟨⟨Nat.le_refl _, Nat.le_refl _⟩, ?_⟩
          have q4 : ¬ (skF b 48 57 160 a - a) ≤ 4 := fun z => c_91 (nI_le (b := 4) z (by decide))
          have e : rtF b n a = 4 := by rw [rt_d q0 ql qd, lxE_d q0 ql qd, if_neg q4]
          exact ⟨rfl, _, _, rfl, ((f3.tr (frN.up (by decide) (by decide) _)).tr (frN.up (by decide) (by decide) _)), ha, by rw [← hM3]; simp [aup], by rw [e]; simp [aup], fun z => absurd e z, fun z => by rw [e] at z; exact absurd z (by decide), fun z => by rw [e] at z; exact absurd z (by decide)⟩
    · have c_6 : ¬ ((if inR 97 122 (b a) then (1 : Int32) else 0) = 0) := of_decide_eq_false c_6
      refine wp_steps 2 (t' := (49, [some (.ref 84), some (.int (b a)), none], [.int 1, .ref 84], (HD, (aup (aup (aup mi 84 21 (nI a)) 84 23 (nI a)) 84 22 4), ml, mr))) rfl ?_
      refine wp_puti rfl ⟨by decide, rfl⟩ rfl (fun m_68 h_69 => ?_)
      subst h_69
      have q0 : a < n := Nat.lt_of_not_le (fun z => by rw [hB.out z] at c_5; exact absurd c_5 (by decide))
      have ql := i0_t c_6
      have f3 : frN mi (aup (aup (aup (aup mi 84 21 (nI a)) 84 23 (nI a)) 84 22 4) 84 22 1) := (frN.tr (frN.tr (frN.tr (frN.tr (frN.rf mi) (frN.up (by decide) (by decide) _)) (frN.up (by decide) (by decide) _)) (frN.up (by decide) (by decide) _)) (frN.up (by decide) (by decide) _))
      have b3 : RB b n t (aup (aup (aup (aup mi 84 21 (nI a)) 84 23 (nI a)) 84 22 4) 84 22 1) := hB.fr (frN.R f3)
      generalize hM3 : (aup (aup (aup (aup mi 84 21 (nI a)) 84 23 (nI a)) 84 22 4) 84 22 1) = M3 at f3 b3
      refine l_letters hM 160 a M3 b3 (by rw [← hM3]; simp [aup]) ha (by have := hB.1.2.2.2; omega) ?_
      refine wp_ret rfl rfl ⟨⟨Nat.le_refl _, Nat.le_refl _⟩, ?_⟩
      exact ⟨rfl, _, _, rfl, (f3.tr (frN.up (by decide) (by decide) _)), ha, by rw [← hM3]; simp [aup], by rw [rt_l q0 ql, ← hM3]; simp [aup], fun _ => by rw [lxE_l q0 ql]; simp [aup], fun z => by rw [rt_l q0 ql] at z; exact absurd z (by decide), fun z => by rw [rt_l q0 ql] at z; exact absurd z (by decide)⟩
  · have c_5 : ¬ (0 ≤ (b a)) := of_decide_eq_false c_5
    refine wp_steps 2 (t' := (35, [some (.ref 84), some (.int (b a)), none], [.int 0, .ref 84], (HD, (aup (aup (aup mi 84 21 (nI a)) 84 23 (nI a)) 84 22 4), ml, mr))) rfl ?_
    refine wp_puti rfl ⟨by decide, rfl⟩ rfl (fun m_70 h_71 => ?_)
    subst h_71
    refine wp_steps 2 (t' := (38, [some (.ref 84), some (.int (b a)), none], [.ref 84, .ref 84], (HD, (aup (aup (aup (aup mi 84 21 (nI a)) 84 23 (nI a)) 84 22 4) 84 22 0), ml, mr))) rfl ?_
    refine wp_geti rfl ⟨by decide, rfl⟩ (Or.inl rfl) ?_
    rw [show (aup (aup (aup (aup mi 84 21 (nI a)) 84 23 (nI a)) 84 22 4) 84 22 0) 84 20 = nI n by rw [← hB.1.2.2.1]; simp [aup]]
    refine wp_puti rfl ⟨by decide, rfl⟩ rfl (fun m_72 h_73 => ?_)
    subst h_73
    refine wp_steps 1 (t' := (163, [some (.ref 84), some (.int (b a)), none], [], (HD, (aup (aup (aup (aup (aup mi 84 21 (nI a)) 84 23 (nI a)) 84 22 4) 84 22 0) 84 23 (nI n)), ml, mr))) rfl ?_
    refine wp_ret rfl rfl ⟨⟨Nat.le_refl _, Nat.le_refl _⟩, ?_⟩
    have q0 : n ≤ a := Nat.le_of_not_lt (fun z => hnn a z (Int32.not_le.mp c_5))
    have qa : a = n := by omega
    exact ⟨rfl, _, _, rfl, (frN.tr (frN.tr (frN.tr (frN.tr (frN.tr (frN.rf mi) (frN.up (by decide) (by decide) _)) (frN.up (by decide) (by decide) _)) (frN.up (by decide) (by decide) _)) (frN.up (by decide) (by decide) _)) (frN.up (by decide) (by decide) _)), ha, by rw [qa]; simp [aup], by rw [rt_end q0]; simp [aup], fun _ => by unfold lxE; rw [if_pos q0]; simp [aup], fun z => by rw [rt_end q0] at z; exact absurd z (by decide), fun z => by rw [rt_end q0] at z; exact absurd z (by decide)⟩
