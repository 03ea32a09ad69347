/-! image, back: class and reference alike (written by wip/whole/mkinv3.py) -/
theorem c8_cg {f g : Nat → Int32} (h : ∀ j, j < 8 → f j = g j) : c8 f = c8 g := funext fun j => by
  unfold c8
  by_cases hj : j < 8
  · rw [if_pos hj, if_pos hj]; exact h j hj
  · rw [if_neg hj, if_neg hj]
theorem p_image {W : aXt × Value} : PR W 94 206 [] := by
  intro m ml mr hI
  have hI0 := hI
  obtain ⟨hM, A, T, X, B, K, H, hC, hR, o⟩ := hI
  have h6 := o.2.2.1
  have hR6 : X.2.1 < 6 := Nat.lt_of_lt_of_le h6.2 h6.1
  have z := c_image (X := W) (ml := ml) hM hC.1.1 o.1.1 hC.2.2.1.2.1
  have y := fun m1 w1 mr1 (hM1 : MRok mr1) => r_image (X := W) (mi := m1) (ml := w1) (mr := mr1) hM1
  refine PR_u (v := .int (nI A.1)) (A := A) (T := T) (X := X) (B := B) (K := K) (H := H) (A' := A) (T' := T) (X' := X) (B' := B) (K' := some (A.1, X.2.1, T, A.2)) (H' := H) ⟨o.1, o.2.1, o.2.2.1, o.2.2.2.1, ⟨Nat.le_refl _, h6.2, o.2.1, fun p hp => ⟨o.1.2 p hp, rfl⟩⟩, o.2.2.2.2.2⟩ (d := 6) (d2 := 1) (by decide) (by decide) (cw_mono z ?_) (fun m1 w1 mr1 hM1 hR1 => cw_mono (y m1 w1 mr1 hM1) ?_)
  · rintro r h ⟨e, m', e2, f, k3, k4⟩
    have off : ∀ k j, ¬ (k = 66 ∨ k = 67 ∨ (35 ≤ k ∧ k < 55 ∧ (k % 4 = 1 ∨ k % 4 = 2)) ∨ k = 0 ∧ j = 8) → aup m' 0 8 (nI A.1) k j = m k j := fun k j z => by
      rw [aup_o (by omega)]
      exact f k j (by omega) (by omega) (fun p hp => by have := o.1.1; omega)
    have g63 : aup mr 66 2 (some (11 + 4 * X.2.1)) 63 2 = mr 63 2 := mr_off (by decide) _
    have t4 := k4 (X.2.2 X.2.1).1 (X.2.2 X.2.1).2.1 (X.2.2 X.2.1).2.2
    rw [hC.2.1.tv X] at t4
    refine ⟨e, _, _, _, e2, mr_up hM (by decide) _, ⟨hC.1.on o.1.1 (fun k j z => off k j (by unfold uA at z; omega)), hC.2.1.on (fun k j z => off k j (by unfold uT at z; omega)), hC.2.2.1.on o.2.2.1.1 (fun k j z => off k j (by unfold uX at z; omega)) g63, hC.2.2.2.1.on (fun k j z => off k j (by unfold uB at z; omega)), ?_, hC.2.2.2.2.2.on (fun k j z => off k j (by unfold uH at z; omega))⟩, hR.lo (fun k j z => off k j (by omega))⟩
    refine ⟨aup_s, by simp [aup], ?_, ?_, fun p hp => ?_⟩
    · rw [show aup m' 0 8 (nI A.1) 67 = m' 67 from funext fun j => aup_o (by omega)]
      exact congrArg (·.1) t4
    · rw [aup_o (by omega)]
      exact congrArg (·.2.1) t4
    · rw [← hC.1.2 p hp, ← k3 p hp]
      exact puC_e (funext fun j => aup_o (by omega)) (funext fun j => aup_o (by omega))
  · rintro r h ⟨e, m', e2, a1, a2, a3, f, b1, b2, b3⟩
    rw [hR1.1.1] at e
    have off : ∀ k j, ¬ (k = 84 ∧ 34 ≤ j ∧ j ≤ 36 ∨ k = 94 ∨ k = 95 ∨ k = 96) → m' k j = m1 k j := fun k j z => f k j (by omega) (by omega) (by omega) (by omega)
    refine ⟨e, _, _, e2, fun k j z => off k j (by omega), ⟨hR1.1.on (fun k j z => off k j (by unfold wA at z; omega)), hR1.2.1.on (fun k j z => off k j (by unfold wT at z; omega)), hR1.2.2.1.on (fun k j z => off k j (by unfold wX at z; omega)), hR1.2.2.2.1.on (fun k j z => off k j (by unfold wB at z; omega)), ?_, hR1.2.2.2.2.2.on (fun k j z => off k j (by unfold wH at z; omega))⟩⟩
    refine ⟨a1.trans hR1.1.1, a3.trans hR1.2.2.1.2.1, ?_, a2.trans hR1.2.1.2, fun p hp => ?_⟩
    · rw [← hR1.2.1.1]
      exact c8_cg b1
    · have hp5 : p < 5 := Nat.lt_of_lt_of_le hp o.1.1
      show puK m' p = (A.2 p).2
      rw [← hR1.1.2 p hp]
      unfold puK puR
      rw [b2 p hp5, b3 (10 * p + 8) (by omega), b3 (10 * p + 9) (by omega)]
      refine Prod.ext rfl (Prod.ext rfl (Prod.ext rfl ?_))
      exact c8_cg (fun j hj => b3 _ (by omega))
theorem p_back {W : aXt × Value} : PR W 95 207 [] := by
  intro m ml mr hI
  have hI0 := hI
  obtain ⟨hM, A, T, X, B, K, H, hC, hR, o⟩ := hI
  have h6 := o.2.2.1
  have hR6 : X.2.1 < 6 := Nat.lt_of_lt_of_le h6.2 h6.1
  cases K with
  | none => exact PR_s hI0 (d := 6) (d2 := 1) (by decide) (by decide) (c_back_no (X := W) (ml := ml) hM hC.2.2.2.2.1) (sm_qR (r_back_no hM hR.2.2.2.2.1))
  | some K =>
    obtain ⟨o1, o2, o3, o4⟩ := o.2.2.2.2.1
    have h61 : X.1 ≤ 6 := h6.1
    have q5 : K.1 ≤ 5 := Nat.le_trans o1 o.1.1
    obtain ⟨c1, c2, c3, c4, c5⟩ := hC.2.2.2.2.1
    have z := c_back_ok (X := W) (ml := ml) hM c1 q5 c2
    have n1 : ¬ nI K.1 = -1 := fun e => by
      have e2 := congrArg Int32.toInt e
      rw [nI_toInt (by omega), show (-1 : Int32).toInt = -1 from rfl] at e2
      omega
    have y := fun m1 w1 mr1 (hM1 : MRok mr1) (hR1 : RI m1 A T X B (some K) H) => r_back_ok (X := W) (mi := m1) (ml := w1) (mr := mr1) hM1 (by rw [hR1.2.2.2.2.1.1]; exact n1)
    refine PR_u (v := .int (nI K.1)) (A := A) (T := T) (X := X) (B := B) (K := some K) (H := H) (A' := (K.1, K.2.2.2)) (T' := K.2.2.1) (X' := (X.1, K.2.1, X.2.2)) (B' := B) (K' := some K) (H' := H) ⟨⟨q5, fun p hp => (o4 p hp).1⟩, o3, ⟨h6.1, o2⟩, o.2.2.2.1, ⟨Nat.le_refl _, o2, o3, fun p hp => ⟨(o4 p hp).1, rfl⟩⟩, o.2.2.2.2.2⟩ (d := 6) (d2 := 1) (by decide) (by decide) (cw_mono z ?_) (fun m1 w1 mr1 hM1 hR1 => cw_mono (y m1 w1 mr1 hM1 hR1) ?_)
    · rintro r h ⟨e, m', e2, f, k3, k4⟩
      have off : ∀ k j, ¬ (k = 63 ∨ k = 64 ∨ (35 ≤ k ∧ k < 55 ∧ (k % 4 = 3 ∨ k % 4 = 0)) ∨ k = 0 ∧ j = 5) → aup m' 0 5 (nI K.1) k j = m k j := fun k j z => by
        rw [aup_o (by omega)]
        exact f k j (by omega) (by omega) (fun p hp => by omega)
      have g66 : aup mr 63 2 (some (11 + 4 * K.2.1)) 66 2 = mr 66 2 := mr_off (by decide) _
      have t4 := k4 [] [] []
      refine ⟨e, _, _, _, e2, mr_up hM (by decide) _, ⟨?_, ?_, ?_, hC.2.2.2.1.on (fun k j z => off k j (by unfold uB at z; omega)), hC.2.2.2.2.1.on (o.2.2.2.2.1.le o.1) (fun k j z => off k j (by unfold uK at z; omega)) g66, hC.2.2.2.2.2.on (fun k j z => off k j (by unfold uH at z; omega))⟩, hR.lo (fun k j z => off k j (by omega))⟩
      · refine ⟨aup_s, fun p hp => ?_⟩
        show puC (aup m' 0 5 (nI K.1)) (35 + 4 * p) = K.2.2.2 p
        rw [← c5 p hp, ← k3 p hp]
        exact puC_e (funext fun j => aup_o (by omega)) (funext fun j => aup_o (by omega))
      · refine ⟨?_, ?_⟩
        · rw [show aup m' 0 5 (nI K.1) 64 = m' 64 from funext fun j => aup_o (by omega), ← c3]
          exact congrArg (·.1) t4
        · rw [aup_o (by omega), ← c4]
          exact congrArg (·.2.1) t4
      · exact ⟨(off _ _ (by omega)).trans hC.2.2.1.1, by simp [aup], fun t ht => (off _ _ (by omega)).trans (hC.2.2.1.2.2.1 t ht), fun t ht => (hC.2.2.1.2.2.2 t ht).kept (fun j => off _ _ (by have : t < X.1 := ht; omega)) (fun j => off _ _ (by have : t < X.1 := ht; omega))⟩
    · rintro r h ⟨e, m', e2, a1, a2, a3, f, b1, b2, b3⟩
      obtain ⟨c1, c2, c3, c4, c5⟩ := hR1.2.2.2.2.1
      rw [c1] at e
      have off : ∀ k j, ¬ (k = 84 ∧ (j = 12 ∨ j = 7 ∨ j = 4) ∨ k = 88 ∨ k = 90 ∨ k = 91) → m' k j = m1 k j := fun k j z => f k j (by omega) (by omega) (by omega) (by omega)
      refine ⟨e, _, _, e2, fun k j z => off k j (by omega), ⟨?_, ?_, ?_, hR1.2.2.2.1.on (fun k j z => off k j (by unfold wB at z; omega)), hR1.2.2.2.2.1.on (fun k j z => off k j (by unfold wK at z; omega)), hR1.2.2.2.2.2.on (fun k j z => off k j (by unfold wH at z; omega))⟩⟩
      · refine ⟨a1.trans c1, fun p hp => ?_⟩
        have hp' : p < K.1 := hp
        show puR m' p = K.2.2.2 p
        have e0 : m' 89 p = (K.2.2.2 p).1 := by
          rw [off 89 p (by omega), (o4 p hp').2, ← hR1.1.2 p (Nat.lt_of_lt_of_le hp' o1)]
          rfl
        refine Prod.ext e0 ?_
        rw [← c5 p hp']
        unfold puR puK
        rw [b2 p (by omega), b3 (10 * p + 8) (by omega), b3 (10 * p + 9) (by omega)]
        refine Prod.ext rfl (Prod.ext rfl (Prod.ext rfl ?_))
        exact c8_cg (fun j hj => b3 _ (by omega))
      · exact ⟨by rw [← c3]; exact c8_cg b1, a2.trans c4⟩
      · exact ⟨(off _ _ (by omega)).trans hR1.2.2.1.1, a3.trans c2, fun t ht => by
          obtain ⟨n, v0, z⟩ := hR1.2.2.1.2.2 t ht
          exact ⟨n, v0, z.fr (fun j _ => off _ _ (by omega)) (off _ _ (by omega))⟩⟩
