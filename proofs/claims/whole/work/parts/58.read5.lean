/-! the next token (written by wip/whole/mkread5.py) -/
set_option maxRecDepth 20000 in
set_option maxHeartbeats 1000000 in
theorem l_blank {X : aXt × Value} {mi : Nat → Nat → Int32} {ml : Nat → Nat → Int64} {mr : Nat → Nat → Option Nat} (hM : MRok mr) {n : Nat} (hn : n ≤ 160) (hs : mi 2 0 = nI n) {Q : Option Value → aM → Prop} : ∀ (g t : Nat) (a : Nat), t + g = 160 → (a ≤ 161 ∧ ∀ w : Int32, aWP (aEx (aTb X) 6) cd_X1_step (29, [some (.ref 2), some (.int w)], [], (HD, aup mi 2 4 (nI (spF (byN (mi 3) n) g a)), ml, mr)) Q) → aWP (aEx (aTb X) 6) cd_X1_step (6, [some (.ref 2), some (.int (nI t))], [], (HD, (aup mi 2 4 (nI a)), ml, mr)) Q := by
  intro g
  induction g with
  | zero =>
    intro t a hg hi
    have e : t = 160 := by omega
    subst e
    refine wp_steps 2 (t' := (8, [some (.ref 2), some (.int (nI 160))], [.int 160, .int (nI 160)], (HD, (aup mi 2 4 (nI a)), ml, mr))) rfl ?_
    refine wp_bC rfl (fun c_1 => ?_) (fun c_1 => ?_)
    rotate_left
    · have c_1 : ¬ (160 ≤ (nI 160)) := of_decide_eq_false c_1
      exact absurd (by decide) c_1
    have c_1 : 160 ≤ (nI 160) := of_decide_eq_true c_1
    exact hi.2 _
  | succ g ih =>
    intro t a hg hi
    have ht : t < 160 := by omega
    refine wp_steps 2 (t' := (8, [some (.ref 2), some (.int (nI t))], [.int 160, .int (nI t)], (HD, (aup mi 2 4 (nI a)), ml, mr))) rfl ?_
    refine wp_bC rfl (fun c_1 => ?_) (fun c_1 => ?_)
    · have c_1 : 160 ≤ (nI t) := of_decide_eq_true c_1
      exact absurd c_1 (nI_ge ht (by decide))
    have c_1 : ¬ (160 ≤ (nI t)) := of_decide_eq_false c_1
    refine wp_steps 2 (t' := (11, [some (.ref 2), some (.int (nI t))], [.ref 2, .ref 2], (HD, (aup mi 2 4 (nI a)), ml, mr))) rfl ?_
    refine wp_geti rfl ⟨by decide, rfl⟩ (Or.inl rfl) ?_
    refine wp_calv (as := [.int ((aup mi 2 4 (nI a)) 2 4)]) rfl rfl rfl (Nat.le_of_ble_eq_true rfl) ⟨by decide, rfl⟩ (c_byteAt (mi := (aup mi 2 4 (nI a))) hM hn (by simpa [aup] using hs) (p := a) (by omega)) (by decide) ?_
    rintro _ _ ⟨rfl, rfl⟩
    rw [aup_row mi (l := 3) (by decide)]
    show aWP _ _ (13, [some (.ref 2), some (.int (nI t))], [.int (byN (mi 3) n a)], (HD, (aup mi 2 4 (nI a)), ml, mr)) _
    refine wp_steps 1 (t' := (14, [some (.ref 2), some (.int (nI t))], [.int 32, .int (byN (mi 3) n a)], (HD, (aup mi 2 4 (nI a)), ml, mr))) rfl ?_
    refine wp_bC rfl (fun c_2 => ?_) (fun c_2 => ?_)
    · have c_2 : (byN (mi 3) n a) = 32 := of_decide_eq_true c_2
      refine wp_steps 2 (t' := (23, [some (.ref 2), some (.int (nI t))], [.ref 2, .ref 2], (HD, (aup mi 2 4 (nI a)), ml, mr))) rfl ?_
      refine wp_geti rfl ⟨by decide, rfl⟩ (Or.inl rfl) ?_
      refine wp_steps 2 (t' := (26, [some (.ref 2), some (.int (nI t))], [.int (((aup mi 2 4 (nI a)) 2 4) + 1), .ref 2], (HD, (aup mi 2 4 (nI a)), ml, mr))) rfl ?_
      refine wp_puti rfl ⟨by decide, rfl⟩ rfl (fun m_3 h_4 => ?_)
      subst h_4
      refine wp_steps 2 (t' := (6, [some (.ref 2), some (.int ((nI t) + Int32.ofInt 1))], [], (HD, (aup (aup mi 2 4 (nI a)) 2 4 (((aup mi 2 4 (nI a)) 2 4) + 1)), ml, mr))) rfl ?_
      have q : byN (mi 3) n a = 32 ∨ byN (mi 3) n a = 10 := Or.inl c_2
      have qa : a < n := by
        rcases Nat.lt_or_ge a n with z | z
        · exact z
        · exact absurd q (by rw [byN, if_neg (by omega)]; decide)
      rw [inc_nI, aup_aup, aup_eq, nI_1]
      refine ih (t + 1) (a + 1) (by omega) ⟨by omega, fun w => ?_⟩
      have k := hi.2 w
      rw [show spF (byN (mi 3) n) (g + 1) a = spF (byN (mi 3) n) g (a + 1) from if_pos q] at k
      exact k
    · have c_2 : ¬ ((byN (mi 3) n a) = 32) := of_decide_eq_false c_2
      refine wp_steps 2 (t' := (17, [some (.ref 2), some (.int (nI t))], [.ref 2, .ref 2], (HD, (aup mi 2 4 (nI a)), ml, mr))) rfl ?_
      refine wp_geti rfl ⟨by decide, rfl⟩ (Or.inl rfl) ?_
      refine wp_calv (as := [.int ((aup mi 2 4 (nI a)) 2 4)]) rfl rfl rfl (Nat.le_of_ble_eq_true rfl) ⟨by decide, rfl⟩ (c_byteAt (mi := (aup mi 2 4 (nI a))) hM hn (by simpa [aup] using hs) (p := a) (by omega)) (by decide) ?_
      rintro _ _ ⟨rfl, rfl⟩
      rw [aup_row mi (l := 3) (by decide)]
      show aWP _ _ (19, [some (.ref 2), some (.int (nI t))], [.int (byN (mi 3) n a)], (HD, (aup mi 2 4 (nI a)), ml, mr)) _
      refine wp_steps 1 (t' := (20, [some (.ref 2), some (.int (nI t))], [.int 10, .int (byN (mi 3) n a)], (HD, (aup mi 2 4 (nI a)), ml, mr))) rfl ?_
      refine wp_bC rfl (fun c_5 => ?_) (fun c_5 => ?_)
      · have c_5 : ¬ (byN (mi 3) n a) = 10 := of_decide_eq_true c_5
        have k := hi.2 (nI t)
        rw [show spF (byN (mi 3) n) (g + 1) a = a from if_neg (by simp [c_2, c_5])] at k
        exact k
      · have c_5 : (byN (mi 3) n a) = 10 := Decidable.not_not.mp (of_decide_eq_false c_5)
        refine wp_steps 2 (t' := (23, [some (.ref 2), some (.int (nI t))], [.ref 2, .ref 2], (HD, (aup mi 2 4 (nI a)), ml, mr))) rfl ?_
        refine wp_geti rfl ⟨by decide, rfl⟩ (Or.inl rfl) ?_
        refine wp_steps 2 (t' := (26, [some (.ref 2), some (.int (nI t))], [.int (((aup mi 2 4 (nI a)) 2 4) + 1), .ref 2], (HD, (aup mi 2 4 (nI a)), ml, mr))) rfl ?_
        refine wp_puti rfl ⟨by decide, rfl⟩ rfl (fun m_6 h_7 => ?_)
        subst h_7
        refine wp_steps 2 (t' := (6, [some (.ref 2), some (.int ((nI t) + Int32.ofInt 1))], [], (HD, (aup (aup mi 2 4 (nI a)) 2 4 (((aup mi 2 4 (nI a)) 2 4) + 1)), ml, mr))) rfl ?_
        have q : byN (mi 3) n a = 32 ∨ byN (mi 3) n a = 10 := Or.inr c_5
        have qa : a < n := by
          rcases Nat.lt_or_ge a n with z | z
          · exact z
          · exact absurd q (by rw [byN, if_neg (by omega)]; decide)
        rw [inc_nI, aup_aup, aup_eq, nI_1]
        refine ih (t + 1) (a + 1) (by omega) ⟨by omega, fun w => ?_⟩
        have k := hi.2 w
        rw [show spF (byN (mi 3) n) (g + 1) a = spF (byN (mi 3) n) g (a + 1) from if_pos q] at k
        exact k
theorem spF_le {f : Nat → Int32} {n : Nat} (hn : n ≤ 160) : ∀ g a, a ≤ 161 → spF (byN f n) g a ≤ 161
  | 0, _, h => h
  | g + 1, a, h => by
    unfold spF
    split
    · rename_i q
      have qa : a < n := by
        rcases Nat.lt_or_ge a n with z | z
        · exact z
        · exact absurd q (by rw [byN, if_neg (by omega)]; decide)
      exact spF_le hn g (a + 1) (by omega)
    · exact h
theorem skF_le {f : Nat → Int32} {n : Nat} (hn : n ≤ 160) {lw up : Int32} (hlo : (-1 : Int32) < lw) : ∀ g a, a ≤ 161 → a ≤ skF (byN f n) lw up g a ∧ skF (byN f n) lw up g a ≤ 161
  | 0, _, h => ⟨Nat.le_refl _, h⟩
  | g + 1, a, h => by
    unfold skF
    split
    · exact ⟨Nat.le_refl _, h⟩
    · rename_i q
      split
      · exact ⟨Nat.le_refl _, h⟩
      · have qa : a < n := by
          rcases Nat.lt_or_ge a n with z | z
          · exact z
          · exact absurd (by rw [byN, if_neg (by omega)]; exact hlo) q
        have := skF_le (f := f) hn (lw := lw) (up := up) hlo g (a + 1) (by omega)
        omega
