/-! a test; image, back; count (written by wip/whole/mkpub5.py) -/
/-- above, below: the product of skills over 100s, of the first n streets that are asked -/
def tsG (sk : Nat → Nat) (w : Int32) : Nat → Nat × Nat
  | 0 => (1, 1)
  | n + 1 => if (w >>> (nI n &&& 31)) &&& 1 = 1 then ((tsG sk w n).1 * sk n, (tsG sk w n).2 * 100) else tsG sk w n
theorem tsG_le {sk : Nat → Nat} (w : Int32) : ∀ n, (∀ j, j < n → sk j ≤ 100) → (tsG sk w n).1 ≤ 100 ^ n ∧ (tsG sk w n).2 ≤ 100 ^ n ∧ 0 < (tsG sk w n).2
  | 0, _ => ⟨Nat.le_refl _, Nat.le_refl _, Nat.zero_lt_one⟩
  | n + 1, h => by
    obtain ⟨a1, a2, a3⟩ := tsG_le w n (fun j hj => h j (by omega))
    unfold tsG
    rw [Nat.pow_succ]
    split
    · exact ⟨Nat.mul_le_mul a1 (h n (by omega)), Nat.mul_le_mul_right _ a2, by simp; omega⟩
    · refine ⟨by omega, by omega, a3⟩
def skN (u : pU) : Nat → Nat := fun j => (u.2.2.2.2 j).toNatClampNeg
set_option maxRecDepth 20000 in
set_option maxHeartbeats 1000000 in
theorem l_test {X : aXt × Value} {mi : Nat → Nat → Int32} {ml : Nat → Nat → Int64} {mr : Nat → Nat → Option Nat} (hM : MRok mr) {one w part : Int32} (hP : pAt one ∈ PU5) (hs : ∀ j, j < 8 → aixn ((puC mi (pAt one)).2.2.2.2 j) 100 = true) : ∀ (g k : Nat), k + g = 8 → aWP (aEx (aTb X) 1) cd_X6_test (24, [some (.ref 0), some (.int one), some (.int w), some (.int part), some (.ref (pAt one)), some (.long (lN (tsG (skN (puC mi (pAt one))) w k).1)), none, some (.long (lN (tsG (skN (puC mi (pAt one))) w k).2)), none, some (.int (nI k))], [], (HD, mi, ml, mr)) (fun r h' => (HD.1 ≤ h'.1.1 ∧ HD.2.1 ≤ h'.1.2.1) ∧ r = some (.long (loG (tsG (skN (puC mi (pAt one))) w 8).1 (tsG (skN (puC mi (pAt one))) w 8).2 part)) ∧ h' = (HD, mi, ml, mr)) := by
  intro g
  induction g with
  | zero =>
    intro k hg
    obtain rfl : k = 8 := by omega
    obtain ⟨b1, b2, b3⟩ := tsG_le (sk := skN (puC mi (pAt one))) w 8 (fun j hj => Nat.le_of_lt (aix_out (hs j hj)).2)
    refine wp_steps 2 (t' := (26, [some (.ref 0), some (.int one), some (.int w), some (.int part), some (.ref (pAt one)), some (.long (lN (tsG (skN (puC mi (pAt one))) w 8).1)), none, some (.long (lN (tsG (skN (puC mi (pAt one))) w 8).2)), none, some (.int (nI 8))], [.int 8, .int (nI 8)], (HD, mi, ml, mr))) rfl ?_
    refine wp_bC rfl (fun c_1 => ?_) (fun c_1 => ?_)
    rotate_left
    · have c_1 : ¬ (8 ≤ (nI 8)) := of_decide_eq_false c_1
      exact absurd (by decide) c_1
    have c_1 : 8 ≤ (nI 8) := of_decide_eq_true c_1
    refine wp_steps 3 (t' := (51, [some (.ref 0), some (.int one), some (.int w), some (.int part), some (.ref (pAt one)), some (.long (lN (tsG (skN (puC mi (pAt one))) w 8).1)), none, some (.long (lN (tsG (skN (puC mi (pAt one))) w 8).2)), none, some (.int (nI 8))], [.int part, .long (lN (tsG (skN (puC mi (pAt one))) w 8).2), .long (lN (tsG (skN (puC mi (pAt one))) w 8).1)], (HD, mi, ml, mr))) rfl ?_
    refine wp_cal (as := [.long (lN (tsG (skN (puC mi (pAt one))) w 8).1), .long (lN (tsG (skN (puC mi (pAt one))) w 8).2), .int part]) rfl rfl rfl (Nat.le_of_ble_eq_true rfl) ((c_lowest (mi := mi) (ml := ml) (mr := mr) (a := (tsG (skN (puC mi (pAt one))) w 8).1) (b := (tsG (skN (puC mi (pAt one))) w 8).2) (w := part) (Nat.le_trans b1 (by decide)) (Nat.le_trans b2 (by decide)) b3)) (by decide) ?_
    rintro _ _ ⟨rfl, rfl⟩
    show aWP _ _ (52, [some (.ref 0), some (.int one), some (.int w), some (.int part), some (.ref (pAt one)), some (.long (lN (tsG (skN (puC mi (pAt one))) w 8).1)), none, some (.long (lN (tsG (skN (puC mi (pAt one))) w 8).2)), none, some (.int (nI 8))], [.long (loG (tsG (skN (puC mi (pAt one))) w 8).1 (tsG (skN (puC mi (pAt one))) w 8).2 part)], (HD, mi, ml, mr)) _
    refine wp_ret rfl rfl ⟨⟨Nat.le_refl _, Nat.le_refl _⟩, ?_⟩
    exact ⟨rfl, rfl⟩
  | succ g ih =>
    intro k hg
    have ht : k < 8 := by omega
    refine wp_steps 2 (t' := (26, [some (.ref 0), some (.int one), some (.int w), some (.int part), some (.ref (pAt one)), some (.long (lN (tsG (skN (puC mi (pAt one))) w k).1)), none, some (.long (lN (tsG (skN (puC mi (pAt one))) w k).2)), none, some (.int (nI k))], [.int 8, .int (nI k)], (HD, mi, ml, mr))) rfl ?_
    refine wp_bC rfl (fun c_1 => ?_) (fun c_1 => ?_)
    · have c_1 : 8 ≤ (nI k) := of_decide_eq_true c_1
      exact absurd c_1 (nI_ge ht (by decide))
    have c_1 : ¬ (8 ≤ (nI k)) := of_decide_eq_false c_1
    refine wp_steps 6 (t' := (33, [some (.ref 0), some (.int one), some (.int w), some (.int part), some (.ref (pAt one)), some (.long (lN (tsG (skN (puC mi (pAt one))) w k).1)), none, some (.long (lN (tsG (skN (puC mi (pAt one))) w k).2)), none, some (.int (nI k))], [.int 1, .int ((w >>> ((nI k) &&& 31)) &&& 1)], (HD, mi, ml, mr))) rfl ?_
    refine wp_bC rfl (fun c_2 => ?_) (fun c_2 => ?_)
    · have c_2 : ¬ ((w >>> ((nI k) &&& 31)) &&& 1) = 1 := of_decide_eq_true c_2
      refine wp_steps 2 (t' := (24, [some (.ref 0), some (.int one), some (.int w), some (.int part), some (.ref (pAt one)), some (.long (lN (tsG (skN (puC mi (pAt one))) w k).1)), none, some (.long (lN (tsG (skN (puC mi (pAt one))) w k).2)), none, some (.int ((nI k) + Int32.ofInt 1))], [], (HD, mi, ml, mr))) rfl ?_
      have e : tsG (skN (puC mi (pAt one))) w (k + 1) = tsG (skN (puC mi (pAt one))) w k := if_neg c_2
      rw [inc_nI]
      have z := ih (k + 1) (by omega)
      rw [e] at z
      exact z
    · have c_2 : ((w >>> ((nI k) &&& 31)) &&& 1) = 1 := Decidable.not_not.mp (of_decide_eq_false c_2)
      refine wp_steps 2 (t' := (36, [some (.ref 0), some (.int one), some (.int w), some (.int part), some (.ref (pAt one)), some (.long (lN (tsG (skN (puC mi (pAt one))) w k).1)), none, some (.long (lN (tsG (skN (puC mi (pAt one))) w k).2)), none, some (.int (nI k))], [.ref (pAt one), .long (lN (tsG (skN (puC mi (pAt one))) w k).1)], (HD, mi, ml, mr))) rfl ?_
      refine wp_getr rfl (shP (p5_U hP).2.2.1) rfl (hM _ (mlP (p5_U hP).2.2.1)) ?_
      refine wp_steps 1 (t' := (38, [some (.ref 0), some (.int one), some (.int w), some (.int part), some (.ref (pAt one)), some (.long (lN (tsG (skN (puC mi (pAt one))) w k).1)), none, some (.long (lN (tsG (skN (puC mi (pAt one))) w k).2)), none, some (.int (nI k))], [.int (nI k), .ref (pAt one + 1), .long (lN (tsG (skN (puC mi (pAt one))) w k).1)], (HD, mi, ml, mr))) rfl ?_
      refine wp_iald rfl (shPs (p5_U hP).2.2.1) (aix_nI ht (by decide)) ?_
      rw [show mi (pAt one + 1) (nI k).toNatClampNeg = nI (skN (puC mi (pAt one)) k) from by
        rw [nI_clamp (n := k) (by omega)]
        exact (c8_lt ht).symm.trans (aix_eq (hs k ht)).1]
      refine wp_steps 1 (t' := (40, [some (.ref 0), some (.int one), some (.int w), some (.int part), some (.ref (pAt one)), some (.long (lN (tsG (skN (puC mi (pAt one))) w k).1)), none, some (.long (lN (tsG (skN (puC mi (pAt one))) w k).2)), none, some (.int (nI k))], [.long ((nI (skN (puC mi (pAt one)) k)).toInt64), .long (lN (tsG (skN (puC mi (pAt one))) w k).1)], (HD, mi, ml, mr))) rfl ?_
      rw [nI_l (n := skN (puC mi (pAt one)) k) (Nat.lt_trans (aix_out (hs k ht)).2 (by decide))]
      refine wp_steps 1 (t' := (41, [some (.ref 0), some (.int one), some (.int w), some (.int part), some (.ref (pAt one)), some (.long (lN (tsG (skN (puC mi (pAt one))) w k).1)), none, some (.long (lN (tsG (skN (puC mi (pAt one))) w k).2)), none, some (.int (nI k))], [.long ((lN (tsG (skN (puC mi (pAt one))) w k).1) * (lN (skN (puC mi (pAt one)) k)))], (HD, mi, ml, mr))) rfl ?_
      rw [lN_mul]
      refine wp_steps 4 (t' := (45, [some (.ref 0), some (.int one), some (.int w), some (.int part), some (.ref (pAt one)), some (.long (lN ((tsG (skN (puC mi (pAt one))) w k).1 * skN (puC mi (pAt one)) k))), none, some (.long (lN (tsG (skN (puC mi (pAt one))) w k).2)), none, some (.int (nI k))], [.long ((lN (tsG (skN (puC mi (pAt one))) w k).2) * 100)], (HD, mi, ml, mr))) rfl ?_
      rw [show (100 : Int64) = lN 100 from rfl, lN_mul]
      refine wp_steps 3 (t' := (24, [some (.ref 0), some (.int one), some (.int w), some (.int part), some (.ref (pAt one)), some (.long (lN ((tsG (skN (puC mi (pAt one))) w k).1 * skN (puC mi (pAt one)) k))), none, some (.long (lN ((tsG (skN (puC mi (pAt one))) w k).2 * 100))), none, some (.int ((nI k) + Int32.ofInt 1))], [], (HD, mi, ml, mr))) rfl ?_
      have e : tsG (skN (puC mi (pAt one))) w (k + 1) = ((tsG (skN (puC mi (pAt one))) w k).1 * skN (puC mi (pAt one)) k, (tsG (skN (puC mi (pAt one))) w k).2 * 100) := if_pos c_2
      rw [inc_nI]
      have z := ih (k + 1) (by omega)
      rw [e] at z
      exact z
set_option maxRecDepth 20000 in
set_option maxHeartbeats 1000000 in
theorem c_test_no {X : aXt × Value} {mi : Nat → Nat → Int32} {ml : Nat → Nat → Int64} {mr : Nat → Nat → Option Nat} (hM : MRok mr) {N : Nat} (hN : mi 0 5 = nI N) (hN5 : N ≤ 5) {one w part : Int32} (hg : ¬ aixn one N = true) : aCW X 2 85 [.ref 0, .int one, .int w, .int part] (HD, mi, ml, mr) (qU mi ml mr (.long (-4611686018427387904))) := by
  refine cw_of (cd := cd_X6_test) (nL := 10) rfl rfl ?_
  show aWP _ _ (0, [some (.ref 0), some (.int one), some (.int w), some (.int part), none, none, none, none, none, none], [], (HD, mi, ml, mr)) _
  refine wp_steps 2 (t' := (2, [some (.ref 0), some (.int one), some (.int w), some (.int part), none, none, none, none, none, none], [.int one, .ref 0], (HD, mi, ml, mr))) rfl ?_
  refine wp_calv (as := [.int one]) rfl rfl rfl (Nat.le_of_ble_eq_true rfl) ⟨by decide, rfl⟩ ((c_pupilAt_no hM hN hN5 hg)) (by decide) ?_
  rintro _ _ ⟨rfl, rfl⟩
  show aWP _ _ (3, [some (.ref 0), some (.int one), some (.int w), some (.int part), none, none, none, none, none, none], [.null], (HD, mi, ml, mr)) _
  refine wp_steps 2 (t' := (5, [some (.ref 0), some (.int one), some (.int w), some (.int part), some (.null), none, none, none, none, none], [.null], (HD, mi, ml, mr))) rfl ?_
  refine wp_step (t' := (16, [some (.ref 0), some (.int one), some (.int w), some (.int part), some (.null), none, none, none, none, none], [], (HD, mi, ml, mr))) rfl rfl ?_
  refine wp_steps 1 (t' := (17, [some (.ref 0), some (.int one), some (.int w), some (.int part), some (.null), none, none, none, none, none], [.long (-4611686018427387904)], (HD, mi, ml, mr))) rfl ?_
  refine wp_ret rfl rfl ⟨⟨Nat.le_refl _, Nat.le_refl _⟩, ?_⟩
  exact ⟨rfl, mi, mr 73 2, by rw [mr_self], frm.rf _ _⟩
set_option maxRecDepth 20000 in
set_option maxHeartbeats 1000000 in
theorem c_test_ok {X : aXt × Value} {mi : Nat → Nat → Int32} {ml : Nat → Nat → Int64} {mr : Nat → Nat → Option Nat} (hM : MRok mr) {N : Nat} (hN : mi 0 5 = nI N) (hN5 : N ≤ 5) {one w part : Int32} (hg : aixn one N = true) (hs : ∀ j, j < 8 → aixn ((puC mi (pAt one)).2.2.2.2 j) 100 = true) : aCW X 2 85 [.ref 0, .int one, .int w, .int part] (HD, mi, ml, mr) (qU mi ml mr (.long (if inR 0 255 w ∧ inR 0 1 part then loG (tsG (skN (puC mi (pAt one))) w 8).1 (tsG (skN (puC mi (pAt one))) w 8).2 part else (-4611686018427387904)))) := by
  have hP := pAt_mem hg hN5
  refine cw_of (cd := cd_X6_test) (nL := 10) rfl rfl ?_
  show aWP _ _ (0, [some (.ref 0), some (.int one), some (.int w), some (.int part), none, none, none, none, none, none], [], (HD, mi, ml, mr)) _
  refine wp_steps 2 (t' := (2, [some (.ref 0), some (.int one), some (.int w), some (.int part), none, none, none, none, none, none], [.int one, .ref 0], (HD, mi, ml, mr))) rfl ?_
  refine wp_calv (as := [.int one]) rfl rfl rfl (Nat.le_of_ble_eq_true rfl) ⟨by decide, rfl⟩ ((c_pupilAt_ok (ml := ml) hM hN hN5 hg)) (by decide) ?_
  rintro _ _ ⟨rfl, rfl⟩
  show aWP _ _ (3, [some (.ref 0), some (.int one), some (.int w), some (.int part), none, none, none, none, none, none], [.ref (pAt one)], (HD, mi, ml, mr)) _
  refine wp_steps 2 (t' := (5, [some (.ref 0), some (.int one), some (.int w), some (.int part), some (.ref (pAt one)), none, none, none, none, none], [.ref (pAt one)], (HD, mi, ml, mr))) rfl ?_
  refine wp_step (t' := (6, [some (.ref 0), some (.int one), some (.int w), some (.int part), some (.ref (pAt one)), none, none, none, none, none], [], (HD, mi, ml, mr))) rfl rfl ?_
  refine wp_steps 1 (t' := (7, [some (.ref 0), some (.int one), some (.int w), some (.int part), some (.ref (pAt one)), none, none, none, none, none], [.int w], (HD, mi, ml, mr))) rfl ?_
  refine wp_bI rfl (fun c_1 => ?_) (fun c_1 => ?_)
  · have c_1 : w < 0 := of_decide_eq_true c_1
    refine wp_steps 1 (t' := (17, [some (.ref 0), some (.int one), some (.int w), some (.int part), some (.ref (pAt one)), none, none, none, none, none], [.long (-4611686018427387904)], (HD, mi, ml, mr))) rfl ?_
    refine wp_ret rfl rfl ⟨⟨Nat.le_refl _, Nat.le_refl _⟩, ?_⟩
    exact ⟨by rw [if_neg (show ¬ (inR 0 255 w ∧ inR 0 1 part) from fun z => (fun z => z.1 c_1) z.1)], mi, mr 73 2, by rw [mr_self], frm.rf _ _⟩
  · have c_1 : ¬ (w < 0) := of_decide_eq_false c_1
    refine wp_steps 2 (t' := (10, [some (.ref 0), some (.int one), some (.int w), some (.int part), some (.ref (pAt one)), none, none, none, none, none], [.int 256, .int w], (HD, mi, ml, mr))) rfl ?_
    refine wp_bC rfl (fun c_2 => ?_) (fun c_2 => ?_)
    · have c_2 : 256 ≤ w := of_decide_eq_true c_2
      refine wp_steps 1 (t' := (17, [some (.ref 0), some (.int one), some (.int w), some (.int part), some (.ref (pAt one)), none, none, none, none, none], [.long (-4611686018427387904)], (HD, mi, ml, mr))) rfl ?_
      refine wp_ret rfl rfl ⟨⟨Nat.le_refl _, Nat.le_refl _⟩, ?_⟩
      exact ⟨by rw [if_neg (show ¬ (inR 0 255 w ∧ inR 0 1 part) from fun z => (fun z => z.2 (Int32.lt_of_lt_of_le (by decide) c_2)) z.1)], mi, mr 73 2, by rw [mr_self], frm.rf _ _⟩
    · have c_2 : ¬ (256 ≤ w) := of_decide_eq_false c_2
      refine wp_steps 1 (t' := (12, [some (.ref 0), some (.int one), some (.int w), some (.int part), some (.ref (pAt one)), none, none, none, none, none], [.int part], (HD, mi, ml, mr))) rfl ?_
      refine wp_bI rfl (fun c_3 => ?_) (fun c_3 => ?_)
      · have c_3 : part < 0 := of_decide_eq_true c_3
        refine wp_steps 1 (t' := (17, [some (.ref 0), some (.int one), some (.int w), some (.int part), some (.ref (pAt one)), none, none, none, none, none], [.long (-4611686018427387904)], (HD, mi, ml, mr))) rfl ?_
        refine wp_ret rfl rfl ⟨⟨Nat.le_refl _, Nat.le_refl _⟩, ?_⟩
        exact ⟨by rw [if_neg (show ¬ (inR 0 255 w ∧ inR 0 1 part) from fun z => (fun z => z.1 c_3) z.2)], mi, mr 73 2, by rw [mr_self], frm.rf _ _⟩
      · have c_3 : ¬ (part < 0) := of_decide_eq_false c_3
        refine wp_steps 2 (t' := (15, [some (.ref 0), some (.int one), some (.int w), some (.int part), some (.ref (pAt one)), none, none, none, none, none], [.int 1, .int part], (HD, mi, ml, mr))) rfl ?_
        refine wp_bC rfl (fun c_4 => ?_) (fun c_4 => ?_)
        · have c_4 : part ≤ 1 := of_decide_eq_true c_4
          refine wp_steps 6 (t' := (24, [some (.ref 0), some (.int one), some (.int w), some (.int part), some (.ref (pAt one)), some (.long 1), none, some (.long 1), none, some (.int 0)], [], (HD, mi, ml, mr))) rfl ?_
          rw [if_pos (show inR 0 255 w ∧ inR 0 1 part from ⟨⟨c_1, (r_lt (Int32.not_le.mp c_2) (by decide))⟩, ⟨c_3, (Int32.not_lt.mpr c_4)⟩⟩)]
          refine wp_mono (l_test (one := one) (w := w) (part := part) hM hP hs 8 0 rfl) ?_
          rintro _ _ ⟨a1, rfl, rfl⟩
          exact ⟨a1, rfl, mi, mr 73 2, by rw [mr_self], frm.rf _ _⟩
        · have c_4 : ¬ (part ≤ 1) := of_decide_eq_false c_4
          refine wp_steps 1 (t' := (17, [some (.ref 0), some (.int one), some (.int w), some (.int part), some (.ref (pAt one)), none, none, none, none, none], [.long (-4611686018427387904)], (HD, mi, ml, mr))) rfl ?_
          refine wp_ret rfl rfl ⟨⟨Nat.le_refl _, Nat.le_refl _⟩, ?_⟩
          exact ⟨by rw [if_neg (show ¬ (inR 0 255 w ∧ inR 0 1 part) from fun z => (fun z => z.2 (Int32.not_le.mp c_4)) z.2)], mi, mr 73 2, by rw [mr_self], frm.rf _ _⟩
/-- the first k are copied -/
def cpimage (k : Nat) (mi m : Nat → Nat → Int32) : Prop := (∀ x j, (∀ p, p < k → x ≠ 37 + 4 * p ∧ x ≠ 37 + 4 * p + 1) → m x j = mi x j) ∧ ∀ p, p < k → puC m (37 + 4 * p) = puC mi (35 + 4 * p)
theorem cpimage.step {k : Nat} {mi m m' : Nat → Nat → Int32} (h : cpimage k mi m) (hk : k < 5) (f : frm [37 + 4 * k, 37 + 4 * k + 1] m m') (u : puC m' (37 + 4 * k) = puC m (35 + 4 * k)) : cpimage (k + 1) mi m' := by
  have qk : puC m (35 + 4 * k) = puC mi (35 + 4 * k) := by
    unfold puC
    have e1 : m (35 + 4 * k) = mi (35 + 4 * k) := funext fun j => h.1 _ j (fun p hp => ⟨by omega, by omega⟩)
    have e2 : m (35 + 4 * k + 1) = mi (35 + 4 * k + 1) := funext fun j => h.1 _ j (fun p hp => ⟨by omega, by omega⟩)
    rw [e1, e2]
  refine ⟨fun x j hx => ?_, fun p hp => ?_⟩
  · rw [f x j (fun z => ?_)]
    · exact h.1 x j (fun p hp => hx p (by omega))
    · have := hx k (by omega)
      simp only [List.mem_cons, List.not_mem_nil, or_false] at z
      omega
  · by_cases e : p = k
    · subst e; rw [u, qk]
    · rw [puC_fr f (P := 37 + 4 * p) (by simp only [List.mem_cons, List.not_mem_nil, or_false]; omega) (by simp only [List.mem_cons, List.not_mem_nil, or_false]; omega)]
      exact h.2 p (by omega)
theorem image_ml : ∀ k, k < 5 → (9, k, 37 + 4 * k) ∈ MRL ∧ (8, k, 35 + 4 * k) ∈ MRL ∧ 37 + 4 * k ∈ PUPS ∧ 35 + 4 * k ∈ PUPS := by decide
set_option maxRecDepth 20000 in
set_option maxHeartbeats 1000000 in
theorem l_image {X : aXt × Value} {mi : Nat → Nat → Int32} {ml : Nat → Nat → Int64} {mr : Nat → Nat → Option Nat} (hM : MRok mr) {N : Nat} (hN5 : N ≤ 5) (hN : mi 0 5 = nI N) {Q : Option Value → aM → Prop} (hk : (∀ m', cpimage N mi m' → aWP (aEx (aTb X) 5) cd_X6_image (25, [some (.ref 0), some (.int (nI N))], [], (HD, m', ml, mr)) Q)) : ∀ (g k : Nat) (m : Nat → Nat → Int32), k + g = N → cpimage k mi m → aWP (aEx (aTb X) 5) cd_X6_image (7, [some (.ref 0), some (.int (nI k))], [], (HD, m, ml, mr)) Q := by
  intro g
  induction g with
  | zero =>
    intro k m hg h
    obtain rfl : k = N := by omega
    refine wp_steps 2 (t' := (9, [some (.ref 0), some (.int (nI k))], [.ref 0, .int (nI k)], (HD, m, ml, mr))) rfl ?_
    refine wp_geti rfl ⟨by decide, rfl⟩ (Or.inl rfl) ?_
    rw [show m 0 5 = nI k from (h.1 0 5 (fun p hp => ⟨by omega, by omega⟩)).trans hN]
    refine wp_bC rfl (fun c_1 => ?_) (fun c_1 => ?_)
    rotate_left
    · have c_1 : ¬ ((nI k) ≤ (nI k)) := of_decide_eq_false c_1
      exact absurd (Int32.le_refl _) c_1
    have c_1 : (nI k) ≤ (nI k) := of_decide_eq_true c_1
    exact hk m h
  | succ g ih =>
    intro k m hg h
    have h5 : k < 5 := by omega
    refine wp_steps 2 (t' := (9, [some (.ref 0), some (.int (nI k))], [.ref 0, .int (nI k)], (HD, m, ml, mr))) rfl ?_
    refine wp_geti rfl ⟨by decide, rfl⟩ (Or.inl rfl) ?_
    rw [show m 0 5 = nI N from (h.1 0 5 (fun p hp => ⟨by omega, by omega⟩)).trans hN]
    refine wp_bC rfl (fun c_1 => ?_) (fun c_1 => ?_)
    · have c_1 : (nI N) ≤ (nI k) := of_decide_eq_true c_1
      exact absurd c_1 (nI_ge (a := k) (b := N) (by omega) (by omega))
    have c_1 : ¬ ((nI N) ≤ (nI k)) := of_decide_eq_false c_1
    refine wp_steps 2 (t' := (13, [some (.ref 0), some (.int (nI k))], [.int 5, .int (nI k)], (HD, m, ml, mr))) rfl ?_
    refine wp_bC rfl (fun c_2 => ?_) (fun c_2 => ?_)
    · have c_2 : 5 ≤ (nI k) := of_decide_eq_true c_2
      exact absurd c_2 (nI_ge (a := k) (b := 5) h5 (by decide))
    have c_2 : ¬ (5 ≤ (nI k)) := of_decide_eq_false c_2
    refine wp_steps 1 (t' := (15, [some (.ref 0), some (.int (nI k))], [.ref 0], (HD, m, ml, mr))) rfl ?_
    refine wp_getr rfl ⟨by decide, rfl⟩ rfl (hM (0, 7, 9) (by decide)) ?_
    refine wp_steps 1 (t' := (17, [some (.ref 0), some (.int (nI k))], [.int (nI k), .ref 9], (HD, m, ml, mr))) rfl ?_
    refine wp_aald rfl ⟨by decide, rfl⟩ (by decide) (aix_nI h5 (by decide)) (by rw [nI_clamp (show k < 2 ^ 31 by omega)]; exact hM _ (image_ml k h5).1) ?_
    refine wp_steps 1 (t' := (19, [some (.ref 0), some (.int (nI k))], [.ref 0, .ref (37 + 4 * k)], (HD, m, ml, mr))) rfl ?_
    refine wp_getr rfl ⟨by decide, rfl⟩ rfl (hM (0, 4, 8) (by decide)) ?_
    refine wp_steps 1 (t' := (21, [some (.ref 0), some (.int (nI k))], [.int (nI k), .ref 8, .ref (37 + 4 * k)], (HD, m, ml, mr))) rfl ?_
    refine wp_aald rfl ⟨by decide, rfl⟩ (by decide) (aix_nI h5 (by decide)) (by rw [nI_clamp (show k < 2 ^ 31 by omega)]; exact hM _ (image_ml k h5).2.1) ?_
    refine wp_calv (as := [.ref (35 + 4 * k)]) rfl rfl rfl (Nat.le_of_ble_eq_true rfl) (shP (image_ml k h5).2.2.1) ((g_become (mi := m) (ml := ml) hM (P := 37 + 4 * k) (P2 := 35 + 4 * k) (image_ml k h5).2.2.1 (image_ml k h5).2.2.2)) (by decide) ?_
    rintro _ _ ⟨m_1, f1, u1, rfl, rfl⟩
    show aWP _ _ (23, [some (.ref 0), some (.int (nI k))], [], (HD, m_1, ml, mr)) _
    refine wp_steps 2 (t' := (7, [some (.ref 0), some (.int ((nI k) + Int32.ofInt 1))], [], (HD, m_1, ml, mr))) rfl ?_
    rw [inc_nI]
    exact ih (k + 1) m_1 (by omega) (h.step h5 f1 u1)
/-- the first k are copied -/
def cpback (k : Nat) (mi m : Nat → Nat → Int32) : Prop := (∀ x j, (∀ p, p < k → x ≠ 35 + 4 * p ∧ x ≠ 35 + 4 * p + 1) → m x j = mi x j) ∧ ∀ p, p < k → puC m (35 + 4 * p) = puC mi (37 + 4 * p)
theorem cpback.step {k : Nat} {mi m m' : Nat → Nat → Int32} (h : cpback k mi m) (hk : k < 5) (f : frm [35 + 4 * k, 35 + 4 * k + 1] m m') (u : puC m' (35 + 4 * k) = puC m (37 + 4 * k)) : cpback (k + 1) mi m' := by
  have qk : puC m (37 + 4 * k) = puC mi (37 + 4 * k) := by
    unfold puC
    have e1 : m (37 + 4 * k) = mi (37 + 4 * k) := funext fun j => h.1 _ j (fun p hp => ⟨by omega, by omega⟩)
    have e2 : m (37 + 4 * k + 1) = mi (37 + 4 * k + 1) := funext fun j => h.1 _ j (fun p hp => ⟨by omega, by omega⟩)
    rw [e1, e2]
  refine ⟨fun x j hx => ?_, fun p hp => ?_⟩
  · rw [f x j (fun z => ?_)]
    · exact h.1 x j (fun p hp => hx p (by omega))
    · have := hx k (by omega)
      simp only [List.mem_cons, List.not_mem_nil, or_false] at z
      omega
  · by_cases e : p = k
    · subst e; rw [u, qk]
    · rw [puC_fr f (P := 35 + 4 * p) (by simp only [List.mem_cons, List.not_mem_nil, or_false]; omega) (by simp only [List.mem_cons, List.not_mem_nil, or_false]; omega)]
      exact h.2 p (by omega)
theorem back_ml : ∀ k, k < 5 → (8, k, 35 + 4 * k) ∈ MRL ∧ (9, k, 37 + 4 * k) ∈ MRL ∧ 35 + 4 * k ∈ PUPS ∧ 37 + 4 * k ∈ PUPS := by decide
set_option maxRecDepth 20000 in
set_option maxHeartbeats 1000000 in
theorem l_back {X : aXt × Value} {mi : Nat → Nat → Int32} {ml : Nat → Nat → Int64} {mr : Nat → Nat → Option Nat} (hM : MRok mr) {N : Nat} (hN5 : N ≤ 5) (hN : mi 0 8 = nI N) {Q : Option Value → aM → Prop} (hk : (∀ m', cpback N mi m' → aWP (aEx (aTb X) 5) cd_X6_back (31, [some (.ref 0), some (.int (nI N))], [], (HD, m', ml, mr)) Q)) : ∀ (g k : Nat) (m : Nat → Nat → Int32), k + g = N → cpback k mi m → aWP (aEx (aTb X) 5) cd_X6_back (13, [some (.ref 0), some (.int (nI k))], [], (HD, m, ml, mr)) Q := by
  intro g
  induction g with
  | zero =>
    intro k m hg h
    obtain rfl : k = N := by omega
    refine wp_steps 2 (t' := (15, [some (.ref 0), some (.int (nI k))], [.ref 0, .int (nI k)], (HD, m, ml, mr))) rfl ?_
    refine wp_geti rfl ⟨by decide, rfl⟩ (Or.inl rfl) ?_
    rw [show m 0 8 = nI k from (h.1 0 8 (fun p hp => ⟨by omega, by omega⟩)).trans hN]
    refine wp_bC rfl (fun c_1 => ?_) (fun c_1 => ?_)
    rotate_left
    · have c_1 : ¬ ((nI k) ≤ (nI k)) := of_decide_eq_false c_1
      exact absurd (Int32.le_refl _) c_1
    have c_1 : (nI k) ≤ (nI k) := of_decide_eq_true c_1
    exact hk m h
  | succ g ih =>
    intro k m hg h
    have h5 : k < 5 := by omega
    refine wp_steps 2 (t' := (15, [some (.ref 0), some (.int (nI k))], [.ref 0, .int (nI k)], (HD, m, ml, mr))) rfl ?_
    refine wp_geti rfl ⟨by decide, rfl⟩ (Or.inl rfl) ?_
    rw [show m 0 8 = nI N from (h.1 0 8 (fun p hp => ⟨by omega, by omega⟩)).trans hN]
    refine wp_bC rfl (fun c_1 => ?_) (fun c_1 => ?_)
    · have c_1 : (nI N) ≤ (nI k) := of_decide_eq_true c_1
      exact absurd c_1 (nI_ge (a := k) (b := N) (by omega) (by omega))
    have c_1 : ¬ ((nI N) ≤ (nI k)) := of_decide_eq_false c_1
    refine wp_steps 2 (t' := (19, [some (.ref 0), some (.int (nI k))], [.int 5, .int (nI k)], (HD, m, ml, mr))) rfl ?_
    refine wp_bC rfl (fun c_2 => ?_) (fun c_2 => ?_)
    · have c_2 : 5 ≤ (nI k) := of_decide_eq_true c_2
      exact absurd c_2 (nI_ge (a := k) (b := 5) h5 (by decide))
    have c_2 : ¬ (5 ≤ (nI k)) := of_decide_eq_false c_2
    refine wp_steps 1 (t' := (21, [some (.ref 0), some (.int (nI k))], [.ref 0], (HD, m, ml, mr))) rfl ?_
    refine wp_getr rfl ⟨by decide, rfl⟩ rfl (hM (0, 4, 8) (by decide)) ?_
    refine wp_steps 1 (t' := (23, [some (.ref 0), some (.int (nI k))], [.int (nI k), .ref 8], (HD, m, ml, mr))) rfl ?_
    refine wp_aald rfl ⟨by decide, rfl⟩ (by decide) (aix_nI h5 (by decide)) (by rw [nI_clamp (show k < 2 ^ 31 by omega)]; exact hM _ (back_ml k h5).1) ?_
    refine wp_steps 1 (t' := (25, [some (.ref 0), some (.int (nI k))], [.ref 0, .ref (35 + 4 * k)], (HD, m, ml, mr))) rfl ?_
    refine wp_getr rfl ⟨by decide, rfl⟩ rfl (hM (0, 7, 9) (by decide)) ?_
    refine wp_steps 1 (t' := (27, [some (.ref 0), some (.int (nI k))], [.int (nI k), .ref 9, .ref (35 + 4 * k)], (HD, m, ml, mr))) rfl ?_
    refine wp_aald rfl ⟨by decide, rfl⟩ (by decide) (aix_nI h5 (by decide)) (by rw [nI_clamp (show k < 2 ^ 31 by omega)]; exact hM _ (back_ml k h5).2.1) ?_
    refine wp_calv (as := [.ref (37 + 4 * k)]) rfl rfl rfl (Nat.le_of_ble_eq_true rfl) (shP (back_ml k h5).2.2.1) ((g_become (mi := m) (ml := ml) hM (P := 35 + 4 * k) (P2 := 37 + 4 * k) (back_ml k h5).2.2.1 (back_ml k h5).2.2.2)) (by decide) ?_
    rintro _ _ ⟨m_1, f1, u1, rfl, rfl⟩
    show aWP _ _ (29, [some (.ref 0), some (.int (nI k))], [], (HD, m_1, ml, mr)) _
    refine wp_steps 2 (t' := (13, [some (.ref 0), some (.int ((nI k) + Int32.ofInt 1))], [], (HD, m_1, ml, mr))) rfl ?_
    rw [inc_nI]
    exact ih (k + 1) m_1 (by omega) (h.step h5 f1 u1)
theorem image_fin {k : Nat} {mi m0 m : Nat → Nat → Int32} (f : frm [66, 66 + 1] mi m0) (h : cpimage k m0 m) : (∀ x j, x ≠ 66 → x ≠ 67 → (∀ p, p < k → x ≠ 37 + 4 * p ∧ x ≠ 37 + 4 * p + 1) → m x j = mi x j) ∧ (∀ p, p < k → p < 5 → puC m (37 + 4 * p) = puC mi (35 + 4 * p)) ∧ (k ≤ 5 → ∀ c0 c1 c2, twC m 66 c0 c1 c2 = twC m0 66 c0 c1 c2) := by
  refine ⟨fun x j h1 h2 h3 => (h.1 x j h3).trans (f x j (by simp only [List.mem_cons, List.not_mem_nil, or_false]; omega)), fun p hp h5 => (h.2 p hp).trans (puC_fr f (by simp only [List.mem_cons, List.not_mem_nil, or_false]; omega) (by simp only [List.mem_cons, List.not_mem_nil, or_false]; omega)), fun hk c0 c1 c2 => ?_⟩
  unfold twC
  rw [show m 66 = m0 66 from funext fun j => h.1 _ j (fun p hp => ⟨by omega, by omega⟩), show m (66 + 1) = m0 (66 + 1) from funext fun j => h.1 _ j (fun p hp => ⟨by omega, by omega⟩)]
theorem back_fin {k : Nat} {mi m0 m : Nat → Nat → Int32} (f : frm [63, 63 + 1] mi m0) (h : cpback k m0 m) : (∀ x j, x ≠ 63 → x ≠ 64 → (∀ p, p < k → x ≠ 35 + 4 * p ∧ x ≠ 35 + 4 * p + 1) → m x j = mi x j) ∧ (∀ p, p < k → p < 5 → puC m (35 + 4 * p) = puC mi (37 + 4 * p)) ∧ (k ≤ 5 → ∀ c0 c1 c2, twC m 63 c0 c1 c2 = twC m0 63 c0 c1 c2) := by
  refine ⟨fun x j h1 h2 h3 => (h.1 x j h3).trans (f x j (by simp only [List.mem_cons, List.not_mem_nil, or_false]; omega)), fun p hp h5 => (h.2 p hp).trans (puC_fr f (by simp only [List.mem_cons, List.not_mem_nil, or_false]; omega) (by simp only [List.mem_cons, List.not_mem_nil, or_false]; omega)), fun hk c0 c1 c2 => ?_⟩
  unfold twC
  rw [show m 63 = m0 63 from funext fun j => h.1 _ j (fun p hp => ⟨by omega, by omega⟩), show m (63 + 1) = m0 (63 + 1) from funext fun j => h.1 _ j (fun p hp => ⟨by omega, by omega⟩)]
set_option maxRecDepth 20000 in
set_option maxHeartbeats 1000000 in
theorem c_image {X : aXt × Value} {mi : Nat → Nat → Int32} {ml : Nat → Nat → Int64} {mr : Nat → Nat → Option Nat} (hM : MRok mr) {N : Nat} (hN : mi 0 5 = nI N) (hN5 : N ≤ 5) {ρ : Nat} (hr : mr 63 2 = some ρ) : aCW X 6 94 [.ref 0] (HD, mi, ml, mr) (fun r h' => r = some (.int (nI N)) ∧ ∃ m, h' = (HD, aup m 0 8 (nI N), ml, (aup mr 66 2 (some ρ))) ∧ (∀ x j, x ≠ 66 → x ≠ 67 → (∀ p, p < N → x ≠ 37 + 4 * p ∧ x ≠ 37 + 4 * p + 1) → m x j = mi x j) ∧ (∀ p, p < N → puC m (37 + 4 * p) = puC mi (35 + 4 * p)) ∧ ∀ c0 c1 c2, twC m 66 c0 c1 c2 = twC mi 63 c0 c1 c2) := by
  refine cw_of (cd := cd_X6_image) (nL := 2) rfl rfl ?_
  show aWP _ _ (0, [some (.ref 0), none], [], (HD, mi, ml, mr)) _
  refine wp_steps 1 (t' := (1, [some (.ref 0), none], [.ref 0], (HD, mi, ml, mr))) rfl ?_
  refine wp_getr rfl ⟨by decide, rfl⟩ rfl (hM (0, 6, 66) (by decide)) ?_
  refine wp_steps 1 (t' := (3, [some (.ref 0), none], [.ref 0, .ref 66], (HD, mi, ml, mr))) rfl ?_
  refine wp_getr rfl ⟨by decide, rfl⟩ rfl (hM (0, 3, 63) (by decide)) ?_
  refine wp_calv (as := [.ref 63]) rfl rfl rfl (Nat.le_of_ble_eq_true rfl) ⟨by decide, rfl⟩ ((g_Tbecome (mi := mi) (ml := ml) hM (T := 66) (T2 := 63) (by decide) (by decide) hr)) (by decide) ?_
  rintro _ _ ⟨m_0, f0, t0, rfl, rfl⟩
  show aWP _ _ (5, [some (.ref 0), none], [], (HD, m_0, ml, (aup mr 66 2 (some ρ)))) _
  refine wp_steps 2 (t' := (7, [some (.ref 0), some (.int 0)], [], (HD, m_0, ml, (aup mr 66 2 (some ρ))))) rfl ?_
  refine l_image (mi := m_0) (mr_up hM (by decide) _) hN5 ((f0 0 5 (by decide)).trans hN) (fun m h => ?_) N 0 m_0 (by omega) ⟨fun _ _ _ => rfl, fun p hp => absurd hp (Nat.not_lt_zero p)⟩
  obtain ⟨q1, q2, q3⟩ := image_fin f0 h
  have q3 : N ≤ 5 → ∀ c0 c1 c2, twC m 66 c0 c1 c2 = twC mi 63 c0 c1 c2 := fun z c0 c1 c2 => (q3 z c0 c1 c2).trans (t0 c0 c1 c2)
  refine wp_steps 2 (t' := (27, [some (.ref 0), some (.int (nI N))], [.ref 0, .ref 0], (HD, m, ml, (aup mr 66 2 (some ρ))))) rfl ?_
  refine wp_geti rfl ⟨by decide, rfl⟩ (Or.inl rfl) ?_
  rw [show m 0 5 = nI N from (h.1 0 5 (fun p hp => ⟨by omega, by omega⟩)).trans ((f0 0 5 (by decide)).trans hN)]
  refine wp_puti rfl ⟨by decide, rfl⟩ rfl (fun m_1 h_2 => ?_)
  subst h_2
  refine wp_steps 1 (t' := (30, [some (.ref 0), some (.int (nI N))], [.ref 0], (HD, (aup m 0 8 (nI N)), ml, (aup mr 66 2 (some ρ))))) rfl ?_
  refine wp_geti rfl ⟨by decide, rfl⟩ (Or.inl rfl) ?_
  refine wp_ret rfl rfl ⟨⟨Nat.le_refl _, Nat.le_refl _⟩, ?_⟩
  refine ⟨rfl, m, rfl, q1, fun p hp => q2 p hp (by omega), (q3 hN5)⟩
set_option maxRecDepth 20000 in
set_option maxHeartbeats 1000000 in
theorem c_back_no {X : aXt × Value} {mi : Nat → Nat → Int32} {ml : Nat → Nat → Int64} {mr : Nat → Nat → Option Nat} (hM : MRok mr) (hK : mi 0 8 = -1) : aCW X 6 95 [.ref 0] (HD, mi, ml, mr) (fun r h' => r = some (.int (-3)) ∧ h' = (HD, mi, ml, mr)) := by
  refine cw_of (cd := cd_X6_back) (nL := 2) rfl rfl ?_
  show aWP _ _ (0, [some (.ref 0), none], [], (HD, mi, ml, mr)) _
  refine wp_steps 1 (t' := (1, [some (.ref 0), none], [.ref 0], (HD, mi, ml, mr))) rfl ?_
  refine wp_geti rfl ⟨by decide, rfl⟩ (Or.inl rfl) ?_
  refine wp_steps 1 (t' := (3, [some (.ref 0), none], [.int (-1), .int (mi 0 8)], (HD, mi, ml, mr))) rfl ?_
  refine wp_bC rfl (fun c_1 => ?_) (fun c_1 => ?_)
  · have c_1 : ¬ (mi 0 8) = (-1) := of_decide_eq_true c_1
    exact absurd hK c_1
  have c_1 : (mi 0 8) = (-1) := Decidable.not_not.mp (of_decide_eq_false c_1)
  refine wp_steps 1 (t' := (5, [some (.ref 0), none], [.int (-3)], (HD, mi, ml, mr))) rfl ?_
  refine wp_ret rfl rfl ⟨⟨Nat.le_refl _, Nat.le_refl _⟩, ?_⟩
  exact ⟨rfl, rfl⟩
set_option maxRecDepth 20000 in
set_option maxHeartbeats 1000000 in
theorem c_back_ok {X : aXt × Value} {mi : Nat → Nat → Int32} {ml : Nat → Nat → Int64} {mr : Nat → Nat → Option Nat} (hM : MRok mr) {N : Nat} (hN : mi 0 8 = nI N) (hN5 : N ≤ 5) {ρ : Nat} (hr : mr 66 2 = some ρ) : aCW X 6 95 [.ref 0] (HD, mi, ml, mr) (fun r h' => r = some (.int (nI N)) ∧ ∃ m, h' = (HD, aup m 0 5 (nI N), ml, (aup mr 63 2 (some ρ))) ∧ (∀ x j, x ≠ 63 → x ≠ 64 → (∀ p, p < N → x ≠ 35 + 4 * p ∧ x ≠ 35 + 4 * p + 1) → m x j = mi x j) ∧ (∀ p, p < N → puC m (35 + 4 * p) = puC mi (37 + 4 * p)) ∧ ∀ c0 c1 c2, twC m 63 c0 c1 c2 = twC mi 66 c0 c1 c2) := by
  refine cw_of (cd := cd_X6_back) (nL := 2) rfl rfl ?_
  show aWP _ _ (0, [some (.ref 0), none], [], (HD, mi, ml, mr)) _
  refine wp_steps 1 (t' := (1, [some (.ref 0), none], [.ref 0], (HD, mi, ml, mr))) rfl ?_
  refine wp_geti rfl ⟨by decide, rfl⟩ (Or.inl rfl) ?_
  refine wp_steps 1 (t' := (3, [some (.ref 0), none], [.int (-1), .int (mi 0 8)], (HD, mi, ml, mr))) rfl ?_
  refine wp_bC rfl (fun c_1 => ?_) (fun c_1 => ?_)
  rotate_left
  · have c_1 : (mi 0 8) = (-1) := Decidable.not_not.mp (of_decide_eq_false c_1)
    exact absurd (show (0 : Int32) ≤ -1 from (hN.symm.trans c_1) ▸ nI_pos' (show N < 2 ^ 31 by omega)) (by decide)
  have c_1 : ¬ (mi 0 8) = (-1) := of_decide_eq_true c_1
  refine wp_steps 1 (t' := (7, [some (.ref 0), none], [.ref 0], (HD, mi, ml, mr))) rfl ?_
  refine wp_getr rfl ⟨by decide, rfl⟩ rfl (hM (0, 3, 63) (by decide)) ?_
  refine wp_steps 1 (t' := (9, [some (.ref 0), none], [.ref 0, .ref 63], (HD, mi, ml, mr))) rfl ?_
  refine wp_getr rfl ⟨by decide, rfl⟩ rfl (hM (0, 6, 66) (by decide)) ?_
  refine wp_calv (as := [.ref 66]) rfl rfl rfl (Nat.le_of_ble_eq_true rfl) ⟨by decide, rfl⟩ ((g_Tbecome (mi := mi) (ml := ml) hM (T := 63) (T2 := 66) (by decide) (by decide) hr)) (by decide) ?_
  rintro _ _ ⟨m_0, f0, t0, rfl, rfl⟩
  show aWP _ _ (11, [some (.ref 0), none], [], (HD, m_0, ml, (aup mr 63 2 (some ρ)))) _
  refine wp_steps 2 (t' := (13, [some (.ref 0), some (.int 0)], [], (HD, m_0, ml, (aup mr 63 2 (some ρ))))) rfl ?_
  refine l_back (mi := m_0) (mr_up hM (by decide) _) hN5 ((f0 0 8 (by decide)).trans hN) (fun m h => ?_) N 0 m_0 (by omega) ⟨fun _ _ _ => rfl, fun p hp => absurd hp (Nat.not_lt_zero p)⟩
  obtain ⟨q1, q2, q3⟩ := back_fin f0 h
  have q3 : N ≤ 5 → ∀ c0 c1 c2, twC m 63 c0 c1 c2 = twC mi 66 c0 c1 c2 := fun z c0 c1 c2 => (q3 z c0 c1 c2).trans (t0 c0 c1 c2)
  refine wp_steps 2 (t' := (33, [some (.ref 0), some (.int (nI N))], [.ref 0, .ref 0], (HD, m, ml, (aup mr 63 2 (some ρ))))) rfl ?_
  refine wp_geti rfl ⟨by decide, rfl⟩ (Or.inl rfl) ?_
  rw [show m 0 8 = nI N from (h.1 0 8 (fun p hp => ⟨by omega, by omega⟩)).trans ((f0 0 8 (by decide)).trans hN)]
  refine wp_puti rfl ⟨by decide, rfl⟩ rfl (fun m_1 h_2 => ?_)
  subst h_2
  refine wp_steps 1 (t' := (36, [some (.ref 0), some (.int (nI N))], [.ref 0], (HD, (aup m 0 5 (nI N)), ml, (aup mr 63 2 (some ρ))))) rfl ?_
  refine wp_geti rfl ⟨by decide, rfl⟩ (Or.inl rfl) ?_
  refine wp_ret rfl rfl ⟨⟨Nat.le_refl _, Nat.le_refl _⟩, ?_⟩
  refine ⟨rfl, m, rfl, q1, fun p hp => q2 p hp (by omega), (q3 hN5)⟩
set_option maxRecDepth 20000 in
set_option maxHeartbeats 1000000 in
theorem l_bumps {X : aXt × Value} {mi : Nat → Nat → Int32} {ml : Nat → Nat → Int64} {mr : Nat → Nat → Option Nat} (hM : MRok mr) {N : Nat} (hN : mi 0 5 = nI N) (hN5 : N ≤ 5) : ∀ (g k : Nat), k + g = N → aWP (aEx (aTb X) 0) cd_X6_bumpsOfAll (4, [some (.ref 0), some (.int (smF (fun p => (puC mi (35 + 4 * p)).2.2.2.1) k)), some (.int (nI k))], [], (HD, mi, ml, mr)) (fun r h' => (HD.1 ≤ h'.1.1 ∧ HD.2.1 ≤ h'.1.2.1) ∧ rdI mi ml mr (smF (fun p => (puC mi (35 + 4 * p)).2.2.2.1) N) r h') := by
  intro g
  induction g with
  | zero =>
    intro k hg
    obtain rfl : k = N := by omega
    refine wp_steps 2 (t' := (6, [some (.ref 0), some (.int (smF (fun p => (puC mi (35 + 4 * p)).2.2.2.1) k)), some (.int (nI k))], [.ref 0, .int (nI k)], (HD, mi, ml, mr))) rfl ?_
    refine wp_geti rfl ⟨by decide, rfl⟩ (Or.inl rfl) ?_
    rw [hN]
    refine wp_bC rfl (fun c_1 => ?_) (fun c_1 => ?_)
    rotate_left
    · have c_1 : ¬ ((nI k) ≤ (nI k)) := of_decide_eq_false c_1
      exact absurd (Int32.le_refl _) c_1
    have c_1 : (nI k) ≤ (nI k) := of_decide_eq_true c_1
    refine wp_steps 1 (t' := (22, [some (.ref 0), some (.int (smF (fun p => (puC mi (35 + 4 * p)).2.2.2.1) k)), some (.int (nI k))], [.int (smF (fun p => (puC mi (35 + 4 * p)).2.2.2.1) k)], (HD, mi, ml, mr))) rfl ?_
    refine wp_ret rfl rfl ⟨⟨Nat.le_refl _, Nat.le_refl _⟩, ?_⟩
    exact ⟨rfl, rfl⟩
  | succ g ih =>
    intro k hg
    have h5 : k < 5 := by omega
    refine wp_steps 2 (t' := (6, [some (.ref 0), some (.int (smF (fun p => (puC mi (35 + 4 * p)).2.2.2.1) k)), some (.int (nI k))], [.ref 0, .int (nI k)], (HD, mi, ml, mr))) rfl ?_
    refine wp_geti rfl ⟨by decide, rfl⟩ (Or.inl rfl) ?_
    rw [hN]
    refine wp_bC rfl (fun c_1 => ?_) (fun c_1 => ?_)
    · have c_1 : (nI N) ≤ (nI k) := of_decide_eq_true c_1
      exact absurd c_1 (nI_ge (a := k) (b := N) (by omega) (by omega))
    have c_1 : ¬ ((nI N) ≤ (nI k)) := of_decide_eq_false c_1
    refine wp_steps 2 (t' := (10, [some (.ref 0), some (.int (smF (fun p => (puC mi (35 + 4 * p)).2.2.2.1) k)), some (.int (nI k))], [.int 5, .int (nI k)], (HD, mi, ml, mr))) rfl ?_
    refine wp_bC rfl (fun c_2 => ?_) (fun c_2 => ?_)
    · have c_2 : 5 ≤ (nI k) := of_decide_eq_true c_2
      exact absurd c_2 (nI_ge (a := k) (b := 5) h5 (by decide))
    have c_2 : ¬ (5 ≤ (nI k)) := of_decide_eq_false c_2
    refine wp_steps 2 (t' := (13, [some (.ref 0), some (.int (smF (fun p => (puC mi (35 + 4 * p)).2.2.2.1) k)), some (.int (nI k))], [.ref 0, .int (smF (fun p => (puC mi (35 + 4 * p)).2.2.2.1) k)], (HD, mi, ml, mr))) rfl ?_
    refine wp_getr rfl ⟨by decide, rfl⟩ rfl (hM (0, 4, 8) (by decide)) ?_
    refine wp_steps 1 (t' := (15, [some (.ref 0), some (.int (smF (fun p => (puC mi (35 + 4 * p)).2.2.2.1) k)), some (.int (nI k))], [.int (nI k), .ref 8, .int (smF (fun p => (puC mi (35 + 4 * p)).2.2.2.1) k)], (HD, mi, ml, mr))) rfl ?_
    refine wp_aald rfl ⟨by decide, rfl⟩ (by decide) (aix_nI h5 (by decide)) (by rw [nI_clamp (show k < 2 ^ 31 by omega)]; exact hM _ (pAt_ml k h5).1) ?_
    refine wp_geti rfl (shP (p5_U (pAt_ml k h5).2).2.2.1) (Or.inl rfl) ?_
    refine wp_steps 4 (t' := (4, [some (.ref 0), some (.int ((smF (fun p => (puC mi (35 + 4 * p)).2.2.2.1) k) + (mi (35 + 4 * k) 3))), some (.int ((nI k) + Int32.ofInt 1))], [], (HD, mi, ml, mr))) rfl ?_
    rw [inc_nI]
    exact ih (k + 1) (by omega)
set_option maxRecDepth 20000 in
set_option maxHeartbeats 1000000 in
theorem c_bumps {X : aXt × Value} {mi : Nat → Nat → Int32} {ml : Nat → Nat → Int64} {mr : Nat → Nat → Option Nat} (hM : MRok mr) {N : Nat} (hN : mi 0 5 = nI N) (hN5 : N ≤ 5) : aCW X 1 97 [.ref 0] (HD, mi, ml, mr) (rdI mi ml mr (smF (fun p => (puC mi (35 + 4 * p)).2.2.2.1) N)) := by
  refine cw_of (cd := cd_X6_bumpsOfAll) (nL := 3) rfl rfl ?_
  show aWP _ _ (0, [some (.ref 0), none, none], [], (HD, mi, ml, mr)) _
  refine wp_steps 4 (t' := (4, [some (.ref 0), some (.int 0), some (.int 0)], [], (HD, mi, ml, mr))) rfl ?_
  exact l_bumps hM hN hN5 N 0 (by omega)
def coG (n day ready bumps texts tape rule w : Int32) : Int32 := if w = 0 then n else if w = 1 then day else if w = 2 then ready else if w = 3 then bumps else if w = 4 then texts else if w = 5 then tape else if w = 6 then rule else -2
set_option maxRecDepth 20000 in
set_option maxHeartbeats 1000000 in
theorem c_count {X : aXt × Value} {mi : Nat → Nat → Int32} {ml : Nat → Nat → Int64} {mr : Nat → Nat → Option Nat} (hM : MRok mr) {N : Nat} (hN : mi 0 5 = nI N) (hN5 : N ≤ 5) {ρ : Nat} {c0 c1 c2 : List Int32} (hρ : ρ ∈ TXS) (hr : mr 63 2 = some ρ) (hx : TXok mi ρ c0 c1 c2) {w : Int32} : aCW X 7 96 [.ref 0, .int w] (HD, mi, ml, mr) (qU mi ml mr (.int (coG (mi 0 5) (mi 63 1) (nI (ryN (fun p => mnG (twC mi 63 c0 c1 c2) (puC mi (35 + 4 * p))) N)) (smF (fun p => (puC mi (35 + 4 * p)).2.2.2.1) N) (mi 0 1) (mi 2 0) (mi ρ 0) w))) := by
  refine cw_of (cd := cd_X6_count) (nL := 2) rfl rfl ?_
  show aWP _ _ (0, [some (.ref 0), some (.int w)], [], (HD, mi, ml, mr)) _
  refine wp_steps 1 (t' := (1, [some (.ref 0), some (.int w)], [.int w], (HD, mi, ml, mr))) rfl ?_
  by_cases s_1 : w = 0
  · refine wp_sw 2 rfl (by rw [s_1]; decide) ?_
    refine wp_steps 1 (t' := (3, [some (.ref 0), some (.int w)], [.ref 0], (HD, mi, ml, mr))) rfl ?_
    refine wp_geti rfl ⟨by decide, rfl⟩ (Or.inl rfl) ?_
    refine wp_ret rfl rfl ⟨⟨Nat.le_refl _, Nat.le_refl _⟩, ?_⟩
    exact ⟨by simp [coG, s_1], mi, mr 73 2, by rw [mr_self], frm.rf _ _⟩
  by_cases s_2 : w = 1
  · refine wp_sw 5 rfl (by rw [s_2]; decide) ?_
    refine wp_steps 1 (t' := (6, [some (.ref 0), some (.int w)], [.ref 0], (HD, mi, ml, mr))) rfl ?_
    refine wp_getr rfl ⟨by decide, rfl⟩ rfl (hM (0, 3, 63) (by decide)) ?_
    refine wp_geti rfl ⟨by decide, rfl⟩ (Or.inl rfl) ?_
    refine wp_ret rfl rfl ⟨⟨Nat.le_refl _, Nat.le_refl _⟩, ?_⟩
    exact ⟨by simp [coG, s_1, s_2], mi, mr 73 2, by rw [mr_self], frm.rf _ _⟩
  by_cases s_3 : w = 2
  · refine wp_sw 9 rfl (by rw [s_3]; decide) ?_
    refine wp_steps 1 (t' := (10, [some (.ref 0), some (.int w)], [.ref 0], (HD, mi, ml, mr))) rfl ?_
    refine wp_calv (as := []) rfl rfl rfl (Nat.le_of_ble_eq_true rfl) ⟨by decide, rfl⟩ ((c_ready (ml := ml) hM hN hN5 hρ hr hx)) (by decide) ?_
    rintro _ _ ⟨rfl, m_1, rfl, f1⟩
    show aWP _ _ (11, [some (.ref 0), some (.int w)], [.int (nI (ryN (fun p => mnG (twC mi 63 c0 c1 c2) (puC mi (35 + 4 * p))) N))], (HD, m_1, ml, mr)) _
    refine wp_ret rfl rfl ⟨⟨Nat.le_refl _, Nat.le_refl _⟩, ?_⟩
    exact ⟨by simp [coG, s_1, s_2, s_3], m_1, mr 73 2, by rw [mr_self], f1.wk (tw_U hρ).1⟩
  by_cases s_4 : w = 3
  · refine wp_sw 12 rfl (by rw [s_4]; decide) ?_
    refine wp_steps 1 (t' := (13, [some (.ref 0), some (.int w)], [.ref 0], (HD, mi, ml, mr))) rfl ?_
    refine wp_calv (as := []) rfl rfl rfl (Nat.le_of_ble_eq_true rfl) ⟨by decide, rfl⟩ ((c_bumps (ml := ml) hM hN hN5)) (by decide) ?_
    rintro _ _ ⟨rfl, rfl⟩
    show aWP _ _ (14, [some (.ref 0), some (.int w)], [.int (smF (fun p => (puC mi (35 + 4 * p)).2.2.2.1) N)], (HD, mi, ml, mr)) _
    refine wp_ret rfl rfl ⟨⟨Nat.le_refl _, Nat.le_refl _⟩, ?_⟩
    exact ⟨by simp [coG, s_1, s_2, s_3, s_4], mi, mr 73 2, by rw [mr_self], frm.rf _ _⟩
  by_cases s_5 : w = 4
  · refine wp_sw 15 rfl (by rw [s_5]; decide) ?_
    refine wp_steps 1 (t' := (16, [some (.ref 0), some (.int w)], [.ref 0], (HD, mi, ml, mr))) rfl ?_
    refine wp_geti rfl ⟨by decide, rfl⟩ (Or.inl rfl) ?_
    refine wp_ret rfl rfl ⟨⟨Nat.le_refl _, Nat.le_refl _⟩, ?_⟩
    exact ⟨by simp [coG, s_1, s_2, s_3, s_4, s_5], mi, mr 73 2, by rw [mr_self], frm.rf _ _⟩
  by_cases s_6 : w = 5
  · refine wp_sw 18 rfl (by rw [s_6]; decide) ?_
    refine wp_steps 1 (t' := (19, [some (.ref 0), some (.int w)], [.ref 0], (HD, mi, ml, mr))) rfl ?_
    refine wp_getr rfl ⟨by decide, rfl⟩ rfl (hM (0, 2, 2) (by decide)) ?_
    refine wp_geti rfl ⟨by decide, rfl⟩ (Or.inl rfl) ?_
    refine wp_ret rfl rfl ⟨⟨Nat.le_refl _, Nat.le_refl _⟩, ?_⟩
    exact ⟨by simp [coG, s_1, s_2, s_3, s_4, s_5, s_6], mi, mr 73 2, by rw [mr_self], frm.rf _ _⟩
  by_cases s_7 : w = 6
  · refine wp_sw 22 rfl (by rw [s_7]; decide) ?_
    refine wp_steps 1 (t' := (23, [some (.ref 0), some (.int w)], [.ref 0], (HD, mi, ml, mr))) rfl ?_
    refine wp_getr rfl ⟨by decide, rfl⟩ rfl (hM (0, 3, 63) (by decide)) ?_
    refine wp_getr rfl ⟨by decide, rfl⟩ rfl hr ?_
    refine wp_geti rfl (shX hρ) (Or.inl rfl) ?_
    refine wp_ret rfl rfl ⟨⟨Nat.le_refl _, Nat.le_refl _⟩, ?_⟩
    exact ⟨by simp [coG, s_1, s_2, s_3, s_4, s_5, s_6, s_7], mi, mr 73 2, by rw [mr_self], frm.rf _ _⟩
  refine wp_sw 27 rfl (aSw_out [0, 1, 2, 3, 4, 5, 6] (List.forall_mem_cons.mpr ⟨s_1, List.forall_mem_cons.mpr ⟨s_2, List.forall_mem_cons.mpr ⟨s_3, List.forall_mem_cons.mpr ⟨s_4, List.forall_mem_cons.mpr ⟨s_5, List.forall_mem_cons.mpr ⟨s_6, List.forall_mem_cons.mpr ⟨s_7, fun _ h => absurd h List.not_mem_nil⟩⟩⟩⟩⟩⟩⟩) (by decide)) ?_
  refine wp_steps 1 (t' := (28, [some (.ref 0), some (.int w)], [.int (-2)], (HD, mi, ml, mr))) rfl ?_
  refine wp_ret rfl rfl ⟨⟨Nat.le_refl _, Nat.le_refl _⟩, ?_⟩
  exact ⟨by simp [coG, s_1, s_2, s_3, s_4, s_5, s_6, s_7], mi, mr 73 2, by rw [mr_self], frm.rf _ _⟩
