/-! step (written by wip/whole/mkread6.py) -/
def lxE (b : Nat → Int32) (n a : Nat) : Nat := if n ≤ a then a else if b a < 97 ∨ 122 < b a then (if b a < 48 ∨ 57 < b a then a + 1 else skF b 48 57 160 a) else skF b 97 122 160 a
def lxT (b : Nat → Int32) (n a : Nat) : Int32 := if n ≤ a then 0 else if b a < 97 ∨ 122 < b a then (if b a < 48 ∨ 57 < b a then siG (b a) else if skF b 48 57 160 a - a ≤ 4 then 2 else 1) else woF b a (skF b 97 122 160 a)
def lxV (b : Nat → Int32) (n a : Nat) (v : Int32) : Int32 := if n ≤ a then v else if b a < 97 ∨ 122 < b a then (if b a < 48 ∨ 57 < b a then v else if skF b 48 57 160 a - a ≤ 4 then nuF b (skF b 48 57 160 a - a) a 0 else v) else v
/-- the reader's token behind a step from a0 -/
def lxM (m m' : Nat → Nat → Int32) (n a0 : Nat) : Prop := (∀ k j, ¬ (k = 2 ∧ 3 ≤ j ∧ j ≤ 6) → m' k j = m k j) ∧ m' 2 3 = lxT (byN (m 3) n) n (spF (byN (m 3) n) 160 a0) ∧ m' 2 4 = nI (spF (byN (m 3) n) 160 a0) ∧ m' 2 5 = nI (lxE (byN (m 3) n) n (spF (byN (m 3) n) 160 a0)) ∧ m' 2 6 = lxV (byN (m 3) n) n (spF (byN (m 3) n) 160 a0) (m 2 6)
set_option maxRecDepth 20000 in
set_option maxHeartbeats 1000000 in
theorem c_step {X : aXt × Value} {mi : Nat → Nat → Int32} {ml : Nat → Nat → Int64} {mr : Nat → Nat → Option Nat} (hM : MRok mr) {n : Nat} (hn : n ≤ 160) (hs : mi 2 0 = nI n) (hX : outOK X) {a0 : Nat} (ha : a0 ≤ 161) (he5 : mi 2 5 = nI a0) : aCW X 7 23 [.ref 2] (HD, mi, ml, mr) (fun r h' => r = none ∧ ∃ m', h' = (HD, m', ml, mr) ∧ lxM mi m' n a0) := by
  refine cw_of (cd := cd_X1_step) (nL := 2) rfl rfl ?_
  show aWP _ _ (0, [some (.ref 2), none], [], (HD, mi, ml, mr)) _
  refine wp_steps 2 (t' := (2, [some (.ref 2), none], [.ref 2, .ref 2], (HD, mi, ml, mr))) rfl ?_
  refine wp_geti rfl ⟨by decide, rfl⟩ (Or.inl rfl) ?_
  refine wp_puti rfl ⟨by decide, rfl⟩ rfl (fun m_1 h_2 => ?_)
  subst h_2
  refine wp_steps 2 (t' := (6, [some (.ref 2), some (.int 0)], [], (HD, (aup mi 2 4 (mi 2 5)), ml, mr))) rfl ?_
  rw [he5]
  refine l_blank hM hn hs 160 0 a0 rfl ⟨ha, fun w => ?_⟩
  have hA := spF_le (f := mi 3) hn 160 a0 ha
  generalize haA : spF (byN (mi 3) n) 160 a0 = a at hA ⊢
  refine wp_steps 2 (t' := (31, [some (.ref 2), some (.int w)], [.ref 2, .ref 2], (HD, (aup mi 2 4 (nI a)), ml, mr))) rfl ?_
  refine wp_geti rfl ⟨by decide, rfl⟩ (Or.inl rfl) ?_
  show aWP _ _ (32, [some (.ref 2), some (.int w)], [.int (nI a), .ref 2], (HD, (aup mi 2 4 (nI a)), ml, mr)) _
  refine wp_puti rfl ⟨by decide, rfl⟩ rfl (fun m_51 h_52 => ?_)
  subst h_52
  refine wp_steps 1 (t' := (34, [some (.ref 2), some (.int w)], [.ref 2], (HD, (aup (aup mi 2 4 (nI a)) 2 5 (nI a)), ml, mr))) rfl ?_
  refine wp_geti rfl ⟨by decide, rfl⟩ (Or.inl rfl) ?_
  show aWP _ _ (35, [some (.ref 2), some (.int w)], [.int (nI a)], (HD, (aup (aup mi 2 4 (nI a)) 2 5 (nI a)), ml, mr)) _
  refine wp_steps 1 (t' := (36, [some (.ref 2), some (.int w)], [.ref 2, .int (nI a)], (HD, (aup (aup mi 2 4 (nI a)) 2 5 (nI a)), ml, mr))) rfl ?_
  refine wp_geti rfl ⟨by decide, rfl⟩ (Or.inl rfl) ?_
  show aWP _ _ (37, [some (.ref 2), some (.int w)], [.int (mi 2 0), .int (nI a)], (HD, (aup (aup mi 2 4 (nI a)) 2 5 (nI a)), ml, mr)) _
  rw [hs]
  refine wp_bC rfl (fun c_53 => ?_) (fun c_53 => ?_)
  · have c_53 : (nI a) < (nI n) := of_decide_eq_true c_53
    refine wp_steps 2 (t' := (44, [some (.ref 2), some (.int w)], [.ref 2, .ref 2], (HD, (aup (aup mi 2 4 (nI a)) 2 5 (nI a)), ml, mr))) rfl ?_
    refine wp_geti rfl ⟨by decide, rfl⟩ (Or.inl rfl) ?_
    show aWP _ _ (45, [some (.ref 2), some (.int w)], [.int (nI a), .ref 2], (HD, (aup (aup mi 2 4 (nI a)) 2 5 (nI a)), ml, mr)) _
    refine wp_calv (as := [.int (nI a)]) rfl rfl rfl (Nat.le_of_ble_eq_true rfl) ⟨by decide, rfl⟩ (c_byteAt (mi := (aup (aup mi 2 4 (nI a)) 2 5 (nI a))) hM hn (by simpa [aup] using hs) (p := a) (by omega)) (by decide) ?_
    rintro _ _ ⟨rfl, rfl⟩
    show aWP _ _ (46, [some (.ref 2), some (.int w)], [.int (byN (mi 3) n a)], (HD, (aup (aup mi 2 4 (nI a)) 2 5 (nI a)), ml, mr)) _
    refine wp_steps 1 (t' := (47, [some (.ref 2), some (.int w)], [.int 97, .int (byN (mi 3) n a)], (HD, (aup (aup mi 2 4 (nI a)) 2 5 (nI a)), ml, mr))) rfl ?_
    refine wp_bC rfl (fun c_54 => ?_) (fun c_54 => ?_)
    · have c_54 : (byN (mi 3) n a) < 97 := of_decide_eq_true c_54
      refine wp_steps 2 (t' := (65, [some (.ref 2), some (.int w)], [.ref 2, .ref 2], (HD, (aup (aup mi 2 4 (nI a)) 2 5 (nI a)), ml, mr))) rfl ?_
      refine wp_geti rfl ⟨by decide, rfl⟩ (Or.inl rfl) ?_
      show aWP _ _ (66, [some (.ref 2), some (.int w)], [.int (nI a), .ref 2], (HD, (aup (aup mi 2 4 (nI a)) 2 5 (nI a)), ml, mr)) _
      refine wp_calv (as := [.int (nI a)]) rfl rfl rfl (Nat.le_of_ble_eq_true rfl) ⟨by decide, rfl⟩ (c_byteAt (mi := (aup (aup mi 2 4 (nI a)) 2 5 (nI a))) hM hn (by simpa [aup] using hs) (p := a) (by omega)) (by decide) ?_
      rintro _ _ ⟨rfl, rfl⟩
      show aWP _ _ (67, [some (.ref 2), some (.int w)], [.int (byN (mi 3) n a)], (HD, (aup (aup mi 2 4 (nI a)) 2 5 (nI a)), ml, mr)) _
      refine wp_steps 1 (t' := (68, [some (.ref 2), some (.int w)], [.int 48, .int (byN (mi 3) n a)], (HD, (aup (aup mi 2 4 (nI a)) 2 5 (nI a)), ml, mr))) rfl ?_
      refine wp_bC rfl (fun c_55 => ?_) (fun c_55 => ?_)
      · have c_55 : (byN (mi 3) n a) < 48 := of_decide_eq_true c_55
        refine wp_steps 2 (t' := (86, [some (.ref 2), some (.int w)], [.ref 2, .ref 2], (HD, (aup (aup mi 2 4 (nI a)) 2 5 (nI a)), ml, mr))) rfl ?_
        refine wp_geti rfl ⟨by decide, rfl⟩ (Or.inl rfl) ?_
        show aWP _ _ (87, [some (.ref 2), some (.int w)], [.int (nI a), .ref 2], (HD, (aup (aup mi 2 4 (nI a)) 2 5 (nI a)), ml, mr)) _
        refine wp_steps 2 (t' := (89, [some (.ref 2), some (.int w)], [.int ((nI a) + 1), .ref 2], (HD, (aup (aup mi 2 4 (nI a)) 2 5 (nI a)), ml, mr))) rfl ?_
        refine wp_puti rfl ⟨by decide, rfl⟩ rfl (fun m_56 h_57 => ?_)
        subst h_57
        refine wp_steps 2 (t' := (92, [some (.ref 2), some (.int w)], [.ref 2, .ref 2], (HD, (aup (aup (aup mi 2 4 (nI a)) 2 5 (nI a)) 2 5 ((nI a) + 1)), ml, mr))) rfl ?_
        refine wp_calv (as := []) rfl rfl rfl (Nat.le_of_ble_eq_true rfl) ⟨by decide, rfl⟩ (c_signAt (mi := (aup (aup (aup mi 2 4 (nI a)) 2 5 (nI a)) 2 5 ((nI a) + 1))) hM hn (by simpa [aup] using hs) (a := a) hA rfl) (by decide) ?_
        rintro _ _ ⟨rfl, rfl⟩
        show aWP _ _ (93, [some (.ref 2), some (.int w)], [.int (siG (byN (mi 3) n a)), .ref 2], (HD, (aup (aup (aup mi 2 4 (nI a)) 2 5 (nI a)) 2 5 ((nI a) + 1)), ml, mr)) _
        refine wp_puti rfl ⟨by decide, rfl⟩ rfl (fun m_58 h_59 => ?_)
        subst h_59
        refine wp_ret rfl rfl ⟨⟨Nat.le_refl _, Nat.le_refl _⟩, ?_⟩
        refine ⟨rfl, _, rfl, ?_⟩
        unfold lxM
        rw [haA]
        have q0 : ¬ n ≤ a := by
          intro z
          exact nI_nlt z (by omega) c_53
        refine ⟨fun k j hk => ?_, ?_, ?_, ?_, ?_⟩
        · have k5 : k = 2 → ¬ j = 3 ∧ ¬ j = 4 ∧ ¬ j = 5 ∧ ¬ j = 6 := by intro z; subst z; refine ⟨?_, ?_, ?_, ?_⟩ <;> (rintro rfl; exact hk (by decide))
          by_cases k2 : k = 2
          · obtain ⟨k51, k52, k53, k54⟩ := k5 k2
            simp only [aup, k2, k51, k52, k53, k54, if_true, if_false]
            try (split <;> simp [aup, k51, k52, k53, k54])
          · simp only [aup, k2, if_false]
            try (split <;> simp [aup, k2])
        · first | (simp [aup, lxE, lxT, lxV, nI_1, q0, c_54, c_55]; done) | (split <;> simp [aup, lxE, lxT, lxV, nI_1, q0, c_54, c_55, *])
        · first | (simp [aup, lxE, lxT, lxV, nI_1, q0, c_54, c_55]; done) | (split <;> simp [aup, lxE, lxT, lxV, nI_1, q0, c_54, c_55, *])
        · first | (simp [aup, lxE, lxT, lxV, nI_1, q0, c_54, c_55]; done) | (split <;> simp [aup, lxE, lxT, lxV, nI_1, q0, c_54, c_55, *])
        · first | (simp [aup, lxE, lxT, lxV, nI_1, q0, c_54, c_55]; done) | (split <;> simp [aup, lxE, lxT, lxV, nI_1, q0, c_54, c_55, *])
      · have c_55 : ¬ ((byN (mi 3) n a) < 48) := of_decide_eq_false c_55
        refine wp_steps 2 (t' := (71, [some (.ref 2), some (.int w)], [.ref 2, .ref 2], (HD, (aup (aup mi 2 4 (nI a)) 2 5 (nI a)), ml, mr))) rfl ?_
        refine wp_geti rfl ⟨by decide, rfl⟩ (Or.inl rfl) ?_
        show aWP _ _ (72, [some (.ref 2), some (.int w)], [.int (nI a), .ref 2], (HD, (aup (aup mi 2 4 (nI a)) 2 5 (nI a)), ml, mr)) _
        refine wp_calv (as := [.int (nI a)]) rfl rfl rfl (Nat.le_of_ble_eq_true rfl) ⟨by decide, rfl⟩ (c_byteAt (mi := (aup (aup mi 2 4 (nI a)) 2 5 (nI a))) hM hn (by simpa [aup] using hs) (p := a) (by omega)) (by decide) ?_
        rintro _ _ ⟨rfl, rfl⟩
        show aWP _ _ (73, [some (.ref 2), some (.int w)], [.int (byN (mi 3) n a)], (HD, (aup (aup mi 2 4 (nI a)) 2 5 (nI a)), ml, mr)) _
        refine wp_steps 1 (t' := (74, [some (.ref 2), some (.int w)], [.int 57, .int (byN (mi 3) n a)], (HD, (aup (aup mi 2 4 (nI a)) 2 5 (nI a)), ml, mr))) rfl ?_
        refine wp_bC rfl (fun c_60 => ?_) (fun c_60 => ?_)
        · have c_60 : 57 < (byN (mi 3) n a) := of_decide_eq_true c_60
          refine wp_steps 2 (t' := (86, [some (.ref 2), some (.int w)], [.ref 2, .ref 2], (HD, (aup (aup mi 2 4 (nI a)) 2 5 (nI a)), ml, mr))) rfl ?_
          refine wp_geti rfl ⟨by decide, rfl⟩ (Or.inl rfl) ?_
          show aWP _ _ (87, [some (.ref 2), some (.int w)], [.int (nI a), .ref 2], (HD, (aup (aup mi 2 4 (nI a)) 2 5 (nI a)), ml, mr)) _
          refine wp_steps 2 (t' := (89, [some (.ref 2), some (.int w)], [.int ((nI a) + 1), .ref 2], (HD, (aup (aup mi 2 4 (nI a)) 2 5 (nI a)), ml, mr))) rfl ?_
          refine wp_puti rfl ⟨by decide, rfl⟩ rfl (fun m_61 h_62 => ?_)
          subst h_62
          refine wp_steps 2 (t' := (92, [some (.ref 2), some (.int w)], [.ref 2, .ref 2], (HD, (aup (aup (aup mi 2 4 (nI a)) 2 5 (nI a)) 2 5 ((nI a) + 1)), ml, mr))) rfl ?_
          refine wp_calv (as := []) rfl rfl rfl (Nat.le_of_ble_eq_true rfl) ⟨by decide, rfl⟩ (c_signAt (mi := (aup (aup (aup mi 2 4 (nI a)) 2 5 (nI a)) 2 5 ((nI a) + 1))) hM hn (by simpa [aup] using hs) (a := a) hA rfl) (by decide) ?_
          rintro _ _ ⟨rfl, rfl⟩
          show aWP _ _ (93, [some (.ref 2), some (.int w)], [.int (siG (byN (mi 3) n a)), .ref 2], (HD, (aup (aup (aup mi 2 4 (nI a)) 2 5 (nI a)) 2 5 ((nI a) + 1)), ml, mr)) _
          refine wp_puti rfl ⟨by decide, rfl⟩ rfl (fun m_63 h_64 => ?_)
          subst h_64
          refine wp_ret rfl rfl ⟨⟨Nat.le_refl _, Nat.le_refl _⟩, ?_⟩
          refine ⟨rfl, _, rfl, ?_⟩
          unfold lxM
          rw [haA]
          have q0 : ¬ n ≤ a := by
            intro z
            exact nI_nlt z (by omega) c_53
          refine ⟨fun k j hk => ?_, ?_, ?_, ?_, ?_⟩
          · have k5 : k = 2 → ¬ j = 3 ∧ ¬ j = 4 ∧ ¬ j = 5 ∧ ¬ j = 6 := by intro z; subst z; refine ⟨?_, ?_, ?_, ?_⟩ <;> (rintro rfl; exact hk (by decide))
            by_cases k2 : k = 2
            · obtain ⟨k51, k52, k53, k54⟩ := k5 k2
              simp only [aup, k2, k51, k52, k53, k54, if_true, if_false]
              try (split <;> simp [aup, k51, k52, k53, k54])
            · simp only [aup, k2, if_false]
              try (split <;> simp [aup, k2])
          · first | (simp [aup, lxE, lxT, lxV, nI_1, q0, c_54, c_55, c_60]; done) | (split <;> simp [aup, lxE, lxT, lxV, nI_1, q0, c_54, c_55, c_60, *])
          · first | (simp [aup, lxE, lxT, lxV, nI_1, q0, c_54, c_55, c_60]; done) | (split <;> simp [aup, lxE, lxT, lxV, nI_1, q0, c_54, c_55, c_60, *])
          · first | (simp [aup, lxE, lxT, lxV, nI_1, q0, c_54, c_55, c_60]; done) | (split <;> simp [aup, lxE, lxT, lxV, nI_1, q0, c_54, c_55, c_60, *])
          · first | (simp [aup, lxE, lxT, lxV, nI_1, q0, c_54, c_55, c_60]; done) | (split <;> simp [aup, lxE, lxT, lxV, nI_1, q0, c_54, c_55, c_60, *])
        · have c_60 : ¬ (57 < (byN (mi 3) n a)) := of_decide_eq_false c_60
          refine wp_steps 3 (t' := (78, [some (.ref 2), some (.int w)], [.int 57, .int 48, .ref 2], (HD, (aup (aup mi 2 4 (nI a)) 2 5 (nI a)), ml, mr))) rfl ?_
          refine wp_calv (as := [.int 48, .int 57]) rfl rfl rfl (Nat.le_of_ble_eq_true rfl) ⟨by decide, rfl⟩ (c_skip (mi := (aup (aup mi 2 4 (nI a)) 2 5 (nI a))) hM hn (by simpa [aup] using hs) (by decide) (a := a) hA rfl) (by decide) ?_
          rintro _ _ ⟨rfl, rfl⟩
          show aWP _ _ (79, [some (.ref 2), some (.int w)], [], (HD, (aup (aup (aup mi 2 4 (nI a)) 2 5 (nI a)) 2 5 (nI (skF (byN (mi 3) n) 48 57 160 a))), ml, mr)) _
          refine wp_steps 2 (t' := (81, [some (.ref 2), some (.int w)], [.ref 2, .ref 2], (HD, (aup (aup (aup mi 2 4 (nI a)) 2 5 (nI a)) 2 5 (nI (skF (byN (mi 3) n) 48 57 160 a))), ml, mr))) rfl ?_
          refine wp_calv (as := []) rfl rfl rfl (Nat.le_of_ble_eq_true rfl) ⟨by decide, rfl⟩ (c_numberAt (mi := (aup (aup (aup mi 2 4 (nI a)) 2 5 (nI a)) 2 5 (nI (skF (byN (mi 3) n) 48 57 160 a)))) hM hn (by simpa [aup] using hs) (a := a) (e := (skF (byN (mi 3) n) 48 57 160 a)) (skF_le (f := mi 3) hn (lw := 48) (up := 57) (by decide) 160 a hA).1 (by have := (skF_le (f := mi 3) hn (lw := 48) (up := 57) (by decide) 160 a hA).2; omega) rfl rfl) (by decide) ?_
          rintro _ _ ⟨rfl, rfl⟩
          show aWP _ _ (82, [some (.ref 2), some (.int w)], [.int (if (skF (byN (mi 3) n) 48 57 160 a) - a ≤ 4 then 2 else 1), .ref 2], (HD, (if (skF (byN (mi 3) n) 48 57 160 a) - a ≤ 4 then aup (aup (aup (aup mi 2 4 (nI a)) 2 5 (nI a)) 2 5 (nI (skF (byN (mi 3) n) 48 57 160 a))) 2 6 (nuF (byN (mi 3) n) ((skF (byN (mi 3) n) 48 57 160 a) - a) a 0) else (aup (aup (aup mi 2 4 (nI a)) 2 5 (nI a)) 2 5 (nI (skF (byN (mi 3) n) 48 57 160 a)))), ml, mr)) _
          refine wp_puti rfl ⟨by decide, rfl⟩ rfl (fun m_65 h_66 => ?_)
          subst h_66
          refine wp_steps 1 (t' := (94, [some (.ref 2), some (.int w)], [], (HD, (aup (if (skF (byN (mi 3) n) 48 57 160 a) - a ≤ 4 then aup (aup (aup (aup mi 2 4 (nI a)) 2 5 (nI a)) 2 5 (nI (skF (byN (mi 3) n) 48 57 160 a))) 2 6 (nuF (byN (mi 3) n) ((skF (byN (mi 3) n) 48 57 160 a) - a) a 0) else (aup (aup (aup mi 2 4 (nI a)) 2 5 (nI a)) 2 5 (nI (skF (byN (mi 3) n) 48 57 160 a)))) 2 3 (if (skF (byN (mi 3) n) 48 57 160 a) - a ≤ 4 then 2 else 1)), ml, mr))) rfl ?_
          refine wp_ret rfl rfl ⟨⟨Nat.le_refl _, Nat.le_refl _⟩, ?_⟩
          refine ⟨rfl, _, rfl, ?_⟩
          unfold lxM
          rw [haA]
          have q0 : ¬ n ≤ a := by
            intro z
            exact nI_nlt z (by omega) c_53
          refine ⟨fun k j hk => ?_, ?_, ?_, ?_, ?_⟩
          · have k5 : k = 2 → ¬ j = 3 ∧ ¬ j = 4 ∧ ¬ j = 5 ∧ ¬ j = 6 := by intro z; subst z; refine ⟨?_, ?_, ?_, ?_⟩ <;> (rintro rfl; exact hk (by decide))
            by_cases k2 : k = 2
            · obtain ⟨k51, k52, k53, k54⟩ := k5 k2
              simp only [aup, k2, k51, k52, k53, k54, if_true, if_false]
              try (split <;> simp [aup, k51, k52, k53, k54])
            · simp only [aup, k2, if_false]
              try (split <;> simp [aup, k2])
          · first | (simp [aup, lxE, lxT, lxV, nI_1, q0, c_54, c_55, c_60]; done) | (split <;> simp [aup, lxE, lxT, lxV, nI_1, q0, c_54, c_55, c_60, *])
          · first | (simp [aup, lxE, lxT, lxV, nI_1, q0, c_54, c_55, c_60]; done) | (split <;> simp [aup, lxE, lxT, lxV, nI_1, q0, c_54, c_55, c_60, *])
          · first | (simp [aup, lxE, lxT, lxV, nI_1, q0, c_54, c_55, c_60]; done) | (split <;> simp [aup, lxE, lxT, lxV, nI_1, q0, c_54, c_55, c_60, *])
          · first | (simp [aup, lxE, lxT, lxV, nI_1, q0, c_54, c_55, c_60]; done) | (split <;> simp [aup, lxE, lxT, lxV, nI_1, q0, c_54, c_55, c_60, *])
    · have c_54 : ¬ ((byN (mi 3) n a) < 97) := of_decide_eq_false c_54
      refine wp_steps 2 (t' := (50, [some (.ref 2), some (.int w)], [.ref 2, .ref 2], (HD, (aup (aup mi 2 4 (nI a)) 2 5 (nI a)), ml, mr))) rfl ?_
      refine wp_geti rfl ⟨by decide, rfl⟩ (Or.inl rfl) ?_
      show aWP _ _ (51, [some (.ref 2), some (.int w)], [.int (nI a), .ref 2], (HD, (aup (aup mi 2 4 (nI a)) 2 5 (nI a)), ml, mr)) _
      refine wp_calv (as := [.int (nI a)]) rfl rfl rfl (Nat.le_of_ble_eq_true rfl) ⟨by decide, rfl⟩ (c_byteAt (mi := (aup (aup mi 2 4 (nI a)) 2 5 (nI a))) hM hn (by simpa [aup] using hs) (p := a) (by omega)) (by decide) ?_
      rintro _ _ ⟨rfl, rfl⟩
      show aWP _ _ (52, [some (.ref 2), some (.int w)], [.int (byN (mi 3) n a)], (HD, (aup (aup mi 2 4 (nI a)) 2 5 (nI a)), ml, mr)) _
      refine wp_steps 1 (t' := (53, [some (.ref 2), some (.int w)], [.int 122, .int (byN (mi 3) n a)], (HD, (aup (aup mi 2 4 (nI a)) 2 5 (nI a)), ml, mr))) rfl ?_
      refine wp_bC rfl (fun c_67 => ?_) (fun c_67 => ?_)
      · have c_67 : 122 < (byN (mi 3) n a) := of_decide_eq_true c_67
        refine wp_steps 2 (t' := (65, [some (.ref 2), some (.int w)], [.ref 2, .ref 2], (HD, (aup (aup mi 2 4 (nI a)) 2 5 (nI a)), ml, mr))) rfl ?_
        refine wp_geti rfl ⟨by decide, rfl⟩ (Or.inl rfl) ?_
        show aWP _ _ (66, [some (.ref 2), some (.int w)], [.int (nI a), .ref 2], (HD, (aup (aup mi 2 4 (nI a)) 2 5 (nI a)), ml, mr)) _
        refine wp_calv (as := [.int (nI a)]) rfl rfl rfl (Nat.le_of_ble_eq_true rfl) ⟨by decide, rfl⟩ (c_byteAt (mi := (aup (aup mi 2 4 (nI a)) 2 5 (nI a))) hM hn (by simpa [aup] using hs) (p := a) (by omega)) (by decide) ?_
        rintro _ _ ⟨rfl, rfl⟩
        show aWP _ _ (67, [some (.ref 2), some (.int w)], [.int (byN (mi 3) n a)], (HD, (aup (aup mi 2 4 (nI a)) 2 5 (nI a)), ml, mr)) _
        refine wp_steps 1 (t' := (68, [some (.ref 2), some (.int w)], [.int 48, .int (byN (mi 3) n a)], (HD, (aup (aup mi 2 4 (nI a)) 2 5 (nI a)), ml, mr))) rfl ?_
        refine wp_bC rfl (fun c_68 => ?_) (fun c_68 => ?_)
        · have c_68 : (byN (mi 3) n a) < 48 := of_decide_eq_true c_68
          refine wp_steps 2 (t' := (86, [some (.ref 2), some (.int w)], [.ref 2, .ref 2], (HD, (aup (aup mi 2 4 (nI a)) 2 5 (nI a)), ml, mr))) rfl ?_
          refine wp_geti rfl ⟨by decide, rfl⟩ (Or.inl rfl) ?_
          show aWP _ _ (87, [some (.ref 2), some (.int w)], [.int (nI a), .ref 2], (HD, (aup (aup mi 2 4 (nI a)) 2 5 (nI a)), ml, mr)) _
          refine wp_steps 2 (t' := (89, [some (.ref 2), some (.int w)], [.int ((nI a) + 1), .ref 2], (HD, (aup (aup mi 2 4 (nI a)) 2 5 (nI a)), ml, mr))) rfl ?_
          refine wp_puti rfl ⟨by decide, rfl⟩ rfl (fun m_69 h_70 => ?_)
          subst h_70
          refine wp_steps 2 (t' := (92, [some (.ref 2), some (.int w)], [.ref 2, .ref 2], (HD, (aup (aup (aup mi 2 4 (nI a)) 2 5 (nI a)) 2 5 ((nI a) + 1)), ml, mr))) rfl ?_
          refine wp_calv (as := []) rfl rfl rfl (Nat.le_of_ble_eq_true rfl) ⟨by decide, rfl⟩ (c_signAt (mi := (aup (aup (aup mi 2 4 (nI a)) 2 5 (nI a)) 2 5 ((nI a) + 1))) hM hn (by simpa [aup] using hs) (a := a) hA rfl) (by decide) ?_
          rintro _ _ ⟨rfl, rfl⟩
          show aWP _ _ (93, [some (.ref 2), some (.int w)], [.int (siG (byN (mi 3) n a)), .ref 2], (HD, (aup (aup (aup mi 2 4 (nI a)) 2 5 (nI a)) 2 5 ((nI a) + 1)), ml, mr)) _
          refine wp_puti rfl ⟨by decide, rfl⟩ rfl (fun m_71 h_72 => ?_)
          subst h_72
          refine wp_ret rfl rfl ⟨⟨Nat.le_refl _, Nat.le_refl _⟩, ?_⟩
          refine ⟨rfl, _, rfl, ?_⟩
          unfold lxM
          rw [haA]
          have q0 : ¬ n ≤ a := by
            intro z
            exact nI_nlt z (by omega) c_53
          refine ⟨fun k j hk => ?_, ?_, ?_, ?_, ?_⟩
          · have k5 : k = 2 → ¬ j = 3 ∧ ¬ j = 4 ∧ ¬ j = 5 ∧ ¬ j = 6 := by intro z; subst z; refine ⟨?_, ?_, ?_, ?_⟩ <;> (rintro rfl; exact hk (by decide))
            by_cases k2 : k = 2
            · obtain ⟨k51, k52, k53, k54⟩ := k5 k2
              simp only [aup, k2, k51, k52, k53, k54, if_true, if_false]
              try (split <;> simp [aup, k51, k52, k53, k54])
            · simp only [aup, k2, if_false]
              try (split <;> simp [aup, k2])
          · first | (simp [aup, lxE, lxT, lxV, nI_1, q0, c_54, c_67, c_68]; done) | (split <;> simp [aup, lxE, lxT, lxV, nI_1, q0, c_54, c_67, c_68, *])
          · first | (simp [aup, lxE, lxT, lxV, nI_1, q0, c_54, c_67, c_68]; done) | (split <;> simp [aup, lxE, lxT, lxV, nI_1, q0, c_54, c_67, c_68, *])
          · first | (simp [aup, lxE, lxT, lxV, nI_1, q0, c_54, c_67, c_68]; done) | (split <;> simp [aup, lxE, lxT, lxV, nI_1, q0, c_54, c_67, c_68, *])
          · first | (simp [aup, lxE, lxT, lxV, nI_1, q0, c_54, c_67, c_68]; done) | (split <;> simp [aup, lxE, lxT, lxV, nI_1, q0, c_54, c_67, c_68, *])
        · have c_68 : ¬ ((byN (mi 3) n a) < 48) := of_decide_eq_false c_68
          refine wp_steps 2 (t' := (71, [some (.ref 2), some (.int w)], [.ref 2, .ref 2], (HD, (aup (aup mi 2 4 (nI a)) 2 5 (nI a)), ml, mr))) rfl ?_
          refine wp_geti rfl ⟨by decide, rfl⟩ (Or.inl rfl) ?_
          show aWP _ _ (72, [some (.ref 2), some (.int w)], [.int (nI a), .ref 2], (HD, (aup (aup mi 2 4 (nI a)) 2 5 (nI a)), ml, mr)) _
          refine wp_calv (as := [.int (nI a)]) rfl rfl rfl (Nat.le_of_ble_eq_true rfl) ⟨by decide, rfl⟩ (c_byteAt (mi := (aup (aup mi 2 4 (nI a)) 2 5 (nI a))) hM hn (by simpa [aup] using hs) (p := a) (by omega)) (by decide) ?_
          rintro _ _ ⟨rfl, rfl⟩
          show aWP _ _ (73, [some (.ref 2), some (.int w)], [.int (byN (mi 3) n a)], (HD, (aup (aup mi 2 4 (nI a)) 2 5 (nI a)), ml, mr)) _
          refine wp_steps 1 (t' := (74, [some (.ref 2), some (.int w)], [.int 57, .int (byN (mi 3) n a)], (HD, (aup (aup mi 2 4 (nI a)) 2 5 (nI a)), ml, mr))) rfl ?_
          refine wp_bC rfl (fun c_73 => ?_) (fun c_73 => ?_)
          · have c_73 : 57 < (byN (mi 3) n a) := of_decide_eq_true c_73
            refine wp_steps 2 (t' := (86, [some (.ref 2), some (.int w)], [.ref 2, .ref 2], (HD, (aup (aup mi 2 4 (nI a)) 2 5 (nI a)), ml, mr))) rfl ?_
            refine wp_geti rfl ⟨by decide, rfl⟩ (Or.inl rfl) ?_
            show aWP _ _ (87, [some (.ref 2), some (.int w)], [.int (nI a), .ref 2], (HD, (aup (aup mi 2 4 (nI a)) 2 5 (nI a)), ml, mr)) _
            refine wp_steps 2 (t' := (89, [some (.ref 2), some (.int w)], [.int ((nI a) + 1), .ref 2], (HD, (aup (aup mi 2 4 (nI a)) 2 5 (nI a)), ml, mr))) rfl ?_
            refine wp_puti rfl ⟨by decide, rfl⟩ rfl (fun m_74 h_75 => ?_)
            subst h_75
            refine wp_steps 2 (t' := (92, [some (.ref 2), some (.int w)], [.ref 2, .ref 2], (HD, (aup (aup (aup mi 2 4 (nI a)) 2 5 (nI a)) 2 5 ((nI a) + 1)), ml, mr))) rfl ?_
            refine wp_calv (as := []) rfl rfl rfl (Nat.le_of_ble_eq_true rfl) ⟨by decide, rfl⟩ (c_signAt (mi := (aup (aup (aup mi 2 4 (nI a)) 2 5 (nI a)) 2 5 ((nI a) + 1))) hM hn (by simpa [aup] using hs) (a := a) hA rfl) (by decide) ?_
            rintro _ _ ⟨rfl, rfl⟩
            show aWP _ _ (93, [some (.ref 2), some (.int w)], [.int (siG (byN (mi 3) n a)), .ref 2], (HD, (aup (aup (aup mi 2 4 (nI a)) 2 5 (nI a)) 2 5 ((nI a) + 1)), ml, mr)) _
            refine wp_puti rfl ⟨by decide, rfl⟩ rfl (fun m_76 h_77 => ?_)
            subst h_77
            refine wp_ret rfl rfl ⟨⟨Nat.le_refl _, Nat.le_refl _⟩, ?_⟩
            refine ⟨rfl, _, rfl, ?_⟩
            unfold lxM
            rw [haA]
            have q0 : ¬ n ≤ a := by
              intro z
              exact nI_nlt z (by omega) c_53
            refine ⟨fun k j hk => ?_, ?_, ?_, ?_, ?_⟩
            · have k5 : k = 2 → ¬ j = 3 ∧ ¬ j = 4 ∧ ¬ j = 5 ∧ ¬ j = 6 := by intro z; subst z; refine ⟨?_, ?_, ?_, ?_⟩ <;> (rintro rfl; exact hk (by decide))
              by_cases k2 : k = 2
              · obtain ⟨k51, k52, k53, k54⟩ := k5 k2
                simp only [aup, k2, k51, k52, k53, k54, if_true, if_false]
                try (split <;> simp [aup, k51, k52, k53, k54])
              · simp only [aup, k2, if_false]
                try (split <;> simp [aup, k2])
            · first | (simp [aup, lxE, lxT, lxV, nI_1, q0, c_54, c_67, c_68, c_73]; done) | (split <;> simp [aup, lxE, lxT, lxV, nI_1, q0, c_54, c_67, c_68, c_73, *])
            · first | (simp [aup, lxE, lxT, lxV, nI_1, q0, c_54, c_67, c_68, c_73]; done) | (split <;> simp [aup, lxE, lxT, lxV, nI_1, q0, c_54, c_67, c_68, c_73, *])
            · first | (simp [aup, lxE, lxT, lxV, nI_1, q0, c_54, c_67, c_68, c_73]; done) | (split <;> simp [aup, lxE, lxT, lxV, nI_1, q0, c_54, c_67, c_68, c_73, *])
            · first | (simp [aup, lxE, lxT, lxV, nI_1, q0, c_54, c_67, c_68, c_73]; done) | (split <;> simp [aup, lxE, lxT, lxV, nI_1, q0, c_54, c_67, c_68, c_73, *])
          · have c_73 : ¬ (57 < (byN (mi 3) n a)) := of_decide_eq_false c_73
            refine wp_steps 3 (t' := (78, [some (.ref 2), some (.int w)], [.int 57, .int 48, .ref 2], (HD, (aup (aup mi 2 4 (nI a)) 2 5 (nI a)), ml, mr))) rfl ?_
            refine wp_calv (as := [.int 48, .int 57]) rfl rfl rfl (Nat.le_of_ble_eq_true rfl) ⟨by decide, rfl⟩ (c_skip (mi := (aup (aup mi 2 4 (nI a)) 2 5 (nI a))) hM hn (by simpa [aup] using hs) (by decide) (a := a) hA rfl) (by decide) ?_
            rintro _ _ ⟨rfl, rfl⟩
            show aWP _ _ (79, [some (.ref 2), some (.int w)], [], (HD, (aup (aup (aup mi 2 4 (nI a)) 2 5 (nI a)) 2 5 (nI (skF (byN (mi 3) n) 48 57 160 a))), ml, mr)) _
            refine wp_steps 2 (t' := (81, [some (.ref 2), some (.int w)], [.ref 2, .ref 2], (HD, (aup (aup (aup mi 2 4 (nI a)) 2 5 (nI a)) 2 5 (nI (skF (byN (mi 3) n) 48 57 160 a))), ml, mr))) rfl ?_
            refine wp_calv (as := []) rfl rfl rfl (Nat.le_of_ble_eq_true rfl) ⟨by decide, rfl⟩ (c_numberAt (mi := (aup (aup (aup mi 2 4 (nI a)) 2 5 (nI a)) 2 5 (nI (skF (byN (mi 3) n) 48 57 160 a)))) hM hn (by simpa [aup] using hs) (a := a) (e := (skF (byN (mi 3) n) 48 57 160 a)) (skF_le (f := mi 3) hn (lw := 48) (up := 57) (by decide) 160 a hA).1 (by have := (skF_le (f := mi 3) hn (lw := 48) (up := 57) (by decide) 160 a hA).2; omega) rfl rfl) (by decide) ?_
            rintro _ _ ⟨rfl, rfl⟩
            show aWP _ _ (82, [some (.ref 2), some (.int w)], [.int (if (skF (byN (mi 3) n) 48 57 160 a) - a ≤ 4 then 2 else 1), .ref 2], (HD, (if (skF (byN (mi 3) n) 48 57 160 a) - a ≤ 4 then aup (aup (aup (aup mi 2 4 (nI a)) 2 5 (nI a)) 2 5 (nI (skF (byN (mi 3) n) 48 57 160 a))) 2 6 (nuF (byN (mi 3) n) ((skF (byN (mi 3) n) 48 57 160 a) - a) a 0) else (aup (aup (aup mi 2 4 (nI a)) 2 5 (nI a)) 2 5 (nI (skF (byN (mi 3) n) 48 57 160 a)))), ml, mr)) _
            refine wp_puti rfl ⟨by decide, rfl⟩ rfl (fun m_78 h_79 => ?_)
            subst h_79
            refine wp_steps 1 (t' := (94, [some (.ref 2), some (.int w)], [], (HD, (aup (if (skF (byN (mi 3) n) 48 57 160 a) - a ≤ 4 then aup (aup (aup (aup mi 2 4 (nI a)) 2 5 (nI a)) 2 5 (nI (skF (byN (mi 3) n) 48 57 160 a))) 2 6 (nuF (byN (mi 3) n) ((skF (byN (mi 3) n) 48 57 160 a) - a) a 0) else (aup (aup (aup mi 2 4 (nI a)) 2 5 (nI a)) 2 5 (nI (skF (byN (mi 3) n) 48 57 160 a)))) 2 3 (if (skF (byN (mi 3) n) 48 57 160 a) - a ≤ 4 then 2 else 1)), ml, mr))) rfl ?_
            refine wp_ret rfl rfl ⟨⟨Nat.le_refl _, Nat.le_refl _⟩, ?_⟩
            refine ⟨rfl, _, rfl, ?_⟩
            unfold lxM
            rw [haA]
            have q0 : ¬ n ≤ a := by
              intro z
              exact nI_nlt z (by omega) c_53
            refine ⟨fun k j hk => ?_, ?_, ?_, ?_, ?_⟩
            · have k5 : k = 2 → ¬ j = 3 ∧ ¬ j = 4 ∧ ¬ j = 5 ∧ ¬ j = 6 := by intro z; subst z; refine ⟨?_, ?_, ?_, ?_⟩ <;> (rintro rfl; exact hk (by decide))
              by_cases k2 : k = 2
              · obtain ⟨k51, k52, k53, k54⟩ := k5 k2
                simp only [aup, k2, k51, k52, k53, k54, if_true, if_false]
                try (split <;> simp [aup, k51, k52, k53, k54])
              · simp only [aup, k2, if_false]
                try (split <;> simp [aup, k2])
            · first | (simp [aup, lxE, lxT, lxV, nI_1, q0, c_54, c_67, c_68, c_73]; done) | (split <;> simp [aup, lxE, lxT, lxV, nI_1, q0, c_54, c_67, c_68, c_73, *])
            · first | (simp [aup, lxE, lxT, lxV, nI_1, q0, c_54, c_67, c_68, c_73]; done) | (split <;> simp [aup, lxE, lxT, lxV, nI_1, q0, c_54, c_67, c_68, c_73, *])
            · first | (simp [aup, lxE, lxT, lxV, nI_1, q0, c_54, c_67, c_68, c_73]; done) | (split <;> simp [aup, lxE, lxT, lxV, nI_1, q0, c_54, c_67, c_68, c_73, *])
            · first | (simp [aup, lxE, lxT, lxV, nI_1, q0, c_54, c_67, c_68, c_73]; done) | (split <;> simp [aup, lxE, lxT, lxV, nI_1, q0, c_54, c_67, c_68, c_73, *])
      · have c_67 : ¬ (122 < (byN (mi 3) n a)) := of_decide_eq_false c_67
        refine wp_steps 3 (t' := (57, [some (.ref 2), some (.int w)], [.int 122, .int 97, .ref 2], (HD, (aup (aup mi 2 4 (nI a)) 2 5 (nI a)), ml, mr))) rfl ?_
        refine wp_calv (as := [.int 97, .int 122]) rfl rfl rfl (Nat.le_of_ble_eq_true rfl) ⟨by decide, rfl⟩ (c_skip (mi := (aup (aup mi 2 4 (nI a)) 2 5 (nI a))) hM hn (by simpa [aup] using hs) (by decide) (a := a) hA rfl) (by decide) ?_
        rintro _ _ ⟨rfl, rfl⟩
        show aWP _ _ (58, [some (.ref 2), some (.int w)], [], (HD, (aup (aup (aup mi 2 4 (nI a)) 2 5 (nI a)) 2 5 (nI (skF (byN (mi 3) n) 97 122 160 a))), ml, mr)) _
        refine wp_steps 2 (t' := (60, [some (.ref 2), some (.int w)], [.ref 2, .ref 2], (HD, (aup (aup (aup mi 2 4 (nI a)) 2 5 (nI a)) 2 5 (nI (skF (byN (mi 3) n) 97 122 160 a))), ml, mr))) rfl ?_
        refine wp_calv (as := []) rfl rfl rfl (Nat.le_of_ble_eq_true rfl) ⟨by decide, rfl⟩ (c_wordAt (mi := (aup (aup (aup mi 2 4 (nI a)) 2 5 (nI a)) 2 5 (nI (skF (byN (mi 3) n) 97 122 160 a)))) hM hn (by simpa [aup] using hs) hX (a := a) (e := skF (byN (mi 3) n) 97 122 160 a) (skF_le (f := mi 3) hn (lw := 97) (up := 122) (by decide) 160 a hA).1 (by have := (skF_le (f := mi 3) hn (lw := 97) (up := 122) (by decide) 160 a hA).2; omega) rfl rfl) (by decide) ?_
        rintro _ _ ⟨rfl, rfl⟩
        show aWP _ _ (61, [some (.ref 2), some (.int w)], [.int (woF (byN (mi 3) n) a (skF (byN (mi 3) n) 97 122 160 a)), .ref 2], (HD, (aup (aup (aup mi 2 4 (nI a)) 2 5 (nI a)) 2 5 (nI (skF (byN (mi 3) n) 97 122 160 a))), ml, mr)) _
        refine wp_puti rfl ⟨by decide, rfl⟩ rfl (fun m_80 h_81 => ?_)
        subst h_81
        refine wp_steps 1 (t' := (94, [some (.ref 2), some (.int w)], [], (HD, (aup (aup (aup (aup mi 2 4 (nI a)) 2 5 (nI a)) 2 5 (nI (skF (byN (mi 3) n) 97 122 160 a))) 2 3 (woF (byN (mi 3) n) a (skF (byN (mi 3) n) 97 122 160 a))), ml, mr))) rfl ?_
        refine wp_ret rfl rfl ⟨⟨Nat.le_refl _, Nat.le_refl _⟩, ?_⟩
        refine ⟨rfl, _, rfl, ?_⟩
        unfold lxM
        rw [haA]
        have q0 : ¬ n ≤ a := by
          intro z
          exact nI_nlt z (by omega) c_53
        refine ⟨fun k j hk => ?_, ?_, ?_, ?_, ?_⟩
        · have k5 : k = 2 → ¬ j = 3 ∧ ¬ j = 4 ∧ ¬ j = 5 ∧ ¬ j = 6 := by intro z; subst z; refine ⟨?_, ?_, ?_, ?_⟩ <;> (rintro rfl; exact hk (by decide))
          by_cases k2 : k = 2
          · obtain ⟨k51, k52, k53, k54⟩ := k5 k2
            simp only [aup, k2, k51, k52, k53, k54, if_true, if_false]
            try (split <;> simp [aup, k51, k52, k53, k54])
          · simp only [aup, k2, if_false]
            try (split <;> simp [aup, k2])
        · first | (simp [aup, lxE, lxT, lxV, nI_1, q0, c_54, c_67]; done) | (split <;> simp [aup, lxE, lxT, lxV, nI_1, q0, c_54, c_67, *])
        · first | (simp [aup, lxE, lxT, lxV, nI_1, q0, c_54, c_67]; done) | (split <;> simp [aup, lxE, lxT, lxV, nI_1, q0, c_54, c_67, *])
        · first | (simp [aup, lxE, lxT, lxV, nI_1, q0, c_54, c_67]; done) | (split <;> simp [aup, lxE, lxT, lxV, nI_1, q0, c_54, c_67, *])
        · first | (simp [aup, lxE, lxT, lxV, nI_1, q0, c_54, c_67]; done) | (split <;> simp [aup, lxE, lxT, lxV, nI_1, q0, c_54, c_67, *])
  · have c_53 : ¬ ((nI a) < (nI n)) := of_decide_eq_false c_53
    refine wp_steps 2 (t' := (40, [some (.ref 2), some (.int w)], [.int 0, .ref 2], (HD, (aup (aup mi 2 4 (nI a)) 2 5 (nI a)), ml, mr))) rfl ?_
    refine wp_puti rfl ⟨by decide, rfl⟩ rfl (fun m_82 h_83 => ?_)
    subst h_83
    refine wp_steps 1 (t' := (94, [some (.ref 2), some (.int w)], [], (HD, (aup (aup (aup mi 2 4 (nI a)) 2 5 (nI a)) 2 3 0), ml, mr))) rfl ?_
    refine wp_ret rfl rfl ⟨⟨Nat.le_refl _, Nat.le_refl _⟩, ?_⟩
    refine ⟨rfl, _, rfl, ?_⟩
    unfold lxM
    rw [haA]
    have q0 : n ≤ a := by
      rcases Nat.lt_or_ge a n with z | z
      · exact absurd (nI_lt z (by omega)) c_53
      · exact z
    refine ⟨fun k j hk => ?_, ?_, ?_, ?_, ?_⟩
    · have k5 : k = 2 → ¬ j = 3 ∧ ¬ j = 4 ∧ ¬ j = 5 ∧ ¬ j = 6 := by intro z; subst z; refine ⟨?_, ?_, ?_, ?_⟩ <;> (rintro rfl; exact hk (by decide))
      by_cases k2 : k = 2
      · obtain ⟨k51, k52, k53, k54⟩ := k5 k2
        simp only [aup, k2, k51, k52, k53, k54, if_true, if_false]
        try (split <;> simp [aup, k51, k52, k53, k54])
      · simp only [aup, k2, if_false]
        try (split <;> simp [aup, k2])
    · first | (simp [aup, lxE, lxT, lxV, nI_1, q0]; done) | (split <;> simp [aup, lxE, lxT, lxV, nI_1, q0, *])
    · first | (simp [aup, lxE, lxT, lxV, nI_1, q0]; done) | (split <;> simp [aup, lxE, lxT, lxV, nI_1, q0, *])
    · first | (simp [aup, lxE, lxT, lxV, nI_1, q0]; done) | (split <;> simp [aup, lxE, lxT, lxV, nI_1, q0, *])
    · first | (simp [aup, lxE, lxT, lxV, nI_1, q0]; done) | (split <;> simp [aup, lxE, lxT, lxV, nI_1, q0, *])
