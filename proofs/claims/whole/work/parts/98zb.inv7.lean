/-! film, copy: class and reference alike (written by wip/whole/mkinv7.py) -/
set_option maxRecDepth 20000 in
set_option maxHeartbeats 1000000 in
theorem r_copy_0 {X : aXt × Value} {mi : Nat → Nat → Int32} {ml : Nat → Nat → Int64} {mr : Nat → Nat → Option Nat} (hM : MRok mr) {s d : Nat} (hs4 : s < 4) (hd4 : d < 4) (hT : mi 97 s = 0 ∨ mi 97 d = 0) {i j n : Int32} : aCW X 3 212 [.ref 84, .int (nI s), .int i, .int (nI d), .int j, .int n] (HD, mi, ml, mr) (fun r h' => r = some (.int (-11)) ∧ h' = (HD, mi, ml, mr)) := by
  refine cw_of (cd := cd_X7_copy) (nL := 9) rfl rfl ?_
  show aWP _ _ (0, [some (.ref 84), some (.int (nI s)), some (.int i), some (.int (nI d)), some (.int j), some (.int n), none, none, none], [], (HD, mi, ml, mr)) _
  refine wp_steps 1 (t' := (1, [some (.ref 84), some (.int (nI s)), some (.int i), some (.int (nI d)), some (.int j), some (.int n), none, none, none], [.int (nI s)], (HD, mi, ml, mr))) rfl ?_
  refine wp_cal (as := [.int (nI s)]) rfl rfl rfl (Nat.le_of_ble_eq_true rfl) ((c_isSheet_n (ml := ml) (mr := mr) hs4)) (by decide) ?_
  rintro _ _ ⟨rfl, rfl⟩
  show aWP _ _ (2, [some (.ref 84), some (.int (nI s)), some (.int i), some (.int (nI d)), some (.int j), some (.int n), none, none, none], [.int 1], (HD, mi, ml, mr)) _
  refine wp_bI rfl (fun c_1 => ?_) (fun c_1 => ?_)
  · have c_1 : (1 : Int32) = 0 := of_decide_eq_true c_1
    exact absurd c_1 (by decide)
  have c_1 : ¬ ((1 : Int32) = 0) := of_decide_eq_false c_1
  refine wp_steps 1 (t' := (4, [some (.ref 84), some (.int (nI s)), some (.int i), some (.int (nI d)), some (.int j), some (.int n), none, none, none], [.int (nI d)], (HD, mi, ml, mr))) rfl ?_
  refine wp_cal (as := [.int (nI d)]) rfl rfl rfl (Nat.le_of_ble_eq_true rfl) ((c_isSheet_n (ml := ml) (mr := mr) hd4)) (by decide) ?_
  rintro _ _ ⟨rfl, rfl⟩
  show aWP _ _ (5, [some (.ref 84), some (.int (nI s)), some (.int i), some (.int (nI d)), some (.int j), some (.int n), none, none, none], [.int 1], (HD, mi, ml, mr)) _
  refine wp_bI rfl (fun c_2 => ?_) (fun c_2 => ?_)
  rotate_left
  · have c_2 : (1 : Int32) = 0 := Decidable.not_not.mp (of_decide_eq_false c_2)
    exact absurd c_2 (by decide)
  have c_2 : ¬ (1 : Int32) = 0 := of_decide_eq_true c_2
  refine wp_steps 1 (t' := (9, [some (.ref 84), some (.int (nI s)), some (.int i), some (.int (nI d)), some (.int j), some (.int n), none, none, none], [.ref 84], (HD, mi, ml, mr))) rfl ?_
  refine wp_getr rfl ⟨by decide, rfl⟩ rfl (hM (84, 37, 97) (by decide)) ?_
  refine wp_steps 1 (t' := (11, [some (.ref 84), some (.int (nI s)), some (.int i), some (.int (nI d)), some (.int j), some (.int n), none, none, none], [.int (nI s), .ref 97], (HD, mi, ml, mr))) rfl ?_
  refine wp_zald rfl ⟨by decide, rfl⟩ (aix_nI hs4 (by decide)) ?_
  rw [nI_clamp (n := s) (by omega)]
  refine wp_bI rfl (fun c_3 => ?_) (fun c_3 => ?_)
  · have c_3 : (mi 97 s) = 0 := of_decide_eq_true c_3
    refine wp_steps 1 (t' := (19, [some (.ref 84), some (.int (nI s)), some (.int i), some (.int (nI d)), some (.int j), some (.int n), none, none, none], [.int (-11)], (HD, mi, ml, mr))) rfl ?_
    refine wp_ret rfl rfl ⟨⟨Nat.le_refl _, Nat.le_refl _⟩, ?_⟩
    exact ⟨rfl, rfl⟩
  · have c_3 : ¬ ((mi 97 s) = 0) := of_decide_eq_false c_3
    refine wp_steps 1 (t' := (14, [some (.ref 84), some (.int (nI s)), some (.int i), some (.int (nI d)), some (.int j), some (.int n), none, none, none], [.ref 84], (HD, mi, ml, mr))) rfl ?_
    refine wp_getr rfl ⟨by decide, rfl⟩ rfl (hM (84, 37, 97) (by decide)) ?_
    refine wp_steps 1 (t' := (16, [some (.ref 84), some (.int (nI s)), some (.int i), some (.int (nI d)), some (.int j), some (.int n), none, none, none], [.int (nI d), .ref 97], (HD, mi, ml, mr))) rfl ?_
    refine wp_zald rfl ⟨by decide, rfl⟩ (aix_nI hd4 (by decide)) ?_
    rw [nI_clamp (n := d) (by omega)]
    refine wp_bI rfl (fun c_4 => ?_) (fun c_4 => ?_)
    · have c_4 : ¬ (mi 97 d) = 0 := of_decide_eq_true c_4
      exact absurd hT (fun z => z.elim c_3 c_4)
    · have c_4 : (mi 97 d) = 0 := Decidable.not_not.mp (of_decide_eq_false c_4)
      refine wp_steps 1 (t' := (19, [some (.ref 84), some (.int (nI s)), some (.int i), some (.int (nI d)), some (.int j), some (.int n), none, none, none], [.int (-11)], (HD, mi, ml, mr))) rfl ?_
      refine wp_ret rfl rfl ⟨⟨Nat.le_refl _, Nat.le_refl _⟩, ?_⟩
      exact ⟨rfl, rfl⟩
/-- alike in the reference's sheets -/
theorem p_copy {W : aXt × Value} {sh i s2 j n : Int32} : PR W 100 212 [.int sh, .int i, .int s2, .int j, .int n] := by
  intro m ml mr hI
  have hI0 := hI
  obtain ⟨hM, A, T, X, B, K, H, hC, hR, o⟩ := hI
  have h6 := o.2.2.1
  have hR6 : X.2.1 < 6 := Nat.lt_of_lt_of_le h6.2 h6.1
  by_cases g : aixn sh 4 = true
  · obtain ⟨s, rfl, hs⟩ := one_p g
    obtain ⟨b1, b2, b3⟩ := hC.2.2.2.2.2 s hs
    have hZ := o.2.2.2.2.2 s hs
    by_cases g2 : aixn s2 4 = true
    · obtain ⟨d, rfl, hd⟩ := one_p g2
      obtain ⟨b4, b5, b6⟩ := hC.2.2.2.2.2 d hd
      have hZ2 := o.2.2.2.2.2 d hd
      have z := c_copy_ok (X := W) (mi := m) (ml := ml) hM g g2 (by rw [sAt_s hs]; exact b2) hZ (by rw [sAt_s hd]; exact b5) hZ2 (i := i) (j := j) (n := n)
      rw [sAt_s hs, sAt_s hd, b1, b2, b4, b5, show 55 + 2 * s + 1 = 56 + 2 * s by omega, show 55 + 2 * d + 1 = 56 + 2 * d by omega] at z
      by_cases e1 : (H s).1 = -1 ∨ (H d).1 = -1
      · rw [if_pos e1, if_pos e1] at z
        exact PR_s hI0 (d := 3) (d2 := 3) (by decide) (by decide) z (sm_qR (r_copy_0 hM hs hd (e1.elim (fun q => Or.inl ((hR.2.2.2.2.2 s hs).1 q)) (fun q => Or.inr ((hR.2.2.2.2.2 d hd).1 q)))))
      · rw [if_neg e1, if_neg e1] at z
        have ns : ¬ (H s).1 = -1 := fun q => e1 (Or.inl q)
        have nd : ¬ (H d).1 = -1 := fun q => e1 (Or.inr q)
        have y := fun m1 w1 mr1 (hM1 : MRok mr1) (hR1 : RI m1 A T X B K H) => r_copy_ok (X := W) (mi := m1) (ml := w1) (mr := mr1) hM1 hs hd ((hR1.2.2.2.2.2 s hs).2 ns).2.2.1 hZ ((hR1.2.2.2.2.2 d hd).2 nd).2.2.1 hZ2 (i := i) (j := j) (n := n)
        have th : ∀ m1, RI m1 A T X B K H → ¬ (m1 97 s = 0 ∨ m1 97 d = 0) := fun m1 hR1 q => q.elim (fun q => absurd (((hR1.2.2.2.2.2 s hs).2 ns).1.symm.trans q) (by decide)) (fun q => absurd (((hR1.2.2.2.2.2 d hd).2 nd).1.symm.trans q) (by decide))
        by_cases e2 : (H s).1 = (H d).1
        · rw [if_pos e2, if_pos e2] at z
          by_cases e3 : hrF (nI (H s).2.1) i n = 0 ∨ hrF (nI (H d).2.1) j n = 0
          · rw [if_pos e3, if_pos e3] at z
            refine PR_s hI0 (d := 3) (d2 := 3) (by decide) (by decide) z (cw_mono (y m ml mr hM hR) ?_)
            rintro r h ⟨e, e4⟩
            rw [if_neg (th m hR), ((hR.2.2.2.2.2 s hs).2 ns).2.1, ((hR.2.2.2.2.2 d hd).2 nd).2.1, if_pos e2, if_pos e3] at e e4
            exact ⟨e, m, ml, e4, frQ.rf m⟩
          · rw [if_neg e3, if_neg e3] at z
            have l1 : i.toNatClampNeg + n.toNatClampNeg ≤ (H s).2.1 := (Decidable.not_not.mp (fun q => e3 (Or.inl ((hrF_n hZ).mpr q)))).2.2
            have l2 : j.toNatClampNeg + n.toNatClampNeg ≤ (H d).2.1 := (Decidable.not_not.mp (fun q => e3 (Or.inr ((hrF_n hZ2).mpr q)))).2.2
            refine PR_u (v := .int (n)) (A := A) (T := T) (X := X) (B := B) (K := K) (H := H) (A' := A) (T' := T) (X' := X) (B' := B) (K' := K) (H' := shU H d ((H d).1, (H d).2.1, fun x => if j.toNatClampNeg ≤ x ∧ x < j.toNatClampNeg + n.toNatClampNeg then (H s).2.2 (i.toNatClampNeg + (x - j.toNatClampNeg)) else (H d).2.2 x)) ⟨o.1, o.2.1, o.2.2.1, o.2.2.2.1, o.2.2.2.2.1, o.2.2.2.2.2.s hZ2⟩ (d := 3) (d2 := 3) (by decide) (by decide) (cw_mono z ?_) (fun m1 w1 mr1 hM1 hR1 => cw_mono (y m1 w1 mr1 hM1 hR1) ?_)
            · rintro r h ⟨e, e4⟩
              have off : ∀ k x, ¬ (k = 56 + 2 * d) → acpy m (56 + 2 * s) (56 + 2 * d) i.toNatClampNeg j.toNatClampNeg n.toNatClampNeg k x = m k x := fun k x z => if_neg z
              refine ⟨e, _, _, _, e4, hM, ⟨hC.1.on o.1.1 (fun k j z => off k j (by unfold uA at z; omega)), hC.2.1.on (fun k j z => off k j (by unfold uT at z; omega)), hC.2.2.1.on o.2.2.1.1 (fun k j z => off k j (by unfold uX at z; omega)) rfl, hC.2.2.2.1.on (fun k j z => off k j (by unfold uB at z; omega)), hC.2.2.2.2.1.on (o.2.2.2.2.1.le o.1) (fun k j z => off k j (by unfold uK at z; omega)) rfl, hC.2.2.2.2.2.s hd (fun k j z => off k j (by omega)) ((off _ _ (by omega)).trans b4) ((off _ _ (by omega)).trans b5) (fun x hx => ?_)⟩, hR.lo (fun k j z => off k j (by omega))⟩
              unfold acpy
              rw [if_pos rfl]
              show _ = if _ then _ else _
              by_cases q : j.toNatClampNeg ≤ x ∧ x < j.toNatClampNeg + n.toNatClampNeg
              · rw [if_pos q, if_pos q]; exact b3 _ (by omega)
              · rw [if_neg q, if_neg q]; exact b6 x hx
            · rintro r h ⟨e, e4⟩
              obtain ⟨d1, d2, d3, d4⟩ := (hR1.2.2.2.2.2 s hs).2 ns
              obtain ⟨f1, f2, f3, f4⟩ := (hR1.2.2.2.2.2 d hd).2 nd
              rw [if_neg (th m1 hR1), d2, f2, if_pos e2, if_neg e3] at e e4
              have off : ∀ k x, ¬ (k = 100 ∧ 40 * d ≤ x ∧ x < 40 * d + 40) → acpy m1 100 100 (40 * s + i.toNatClampNeg) (40 * d + j.toNatClampNeg) n.toNatClampNeg k x = m1 k x := fun k x z => by
                unfold acpy
                by_cases q : k = 100
                · rw [if_pos q, if_neg (by omega)]
                · rw [if_neg q]
              refine ⟨e, _, _, e4, fun k j z => off k j (by omega), ⟨hR1.1.on (fun k j z => off k j (by unfold wA at z; omega)), hR1.2.1.on (fun k j z => off k j (by unfold wT at z; omega)), hR1.2.2.1.on (fun k j z => off k j (by unfold wX at z; omega)), hR1.2.2.2.1.on (fun k j z => off k j (by unfold wB at z; omega)), hR1.2.2.2.2.1.on (fun k j z => off k j (by unfold wK at z; omega)), rIH.s o.2.2.2.2.2 hR1.2.2.2.2.2 hd (fun k j z _ => off k j (by omega)) (fun z => absurd z nd) (fun _ => ⟨(off _ _ (by omega)).trans f1, (off _ _ (by omega)).trans f2, (off _ _ (by omega)).trans f3, fun x hx => ?_⟩)⟩⟩
              unfold acpy
              rw [if_pos rfl]
              show _ = if _ then _ else _
              by_cases q : j.toNatClampNeg ≤ x ∧ x < j.toNatClampNeg + n.toNatClampNeg
              · rw [if_pos q, if_pos (by omega), ← d4 _ (by omega)]
                congr 1
                omega
              · rw [if_neg q, if_neg (by omega)]; exact f4 x hx
        · rw [if_neg e2, if_neg e2] at z
          refine PR_s hI0 (d := 3) (d2 := 3) (by decide) (by decide) z (cw_mono (y m ml mr hM hR) ?_)
          rintro r h ⟨e, e4⟩
          rw [if_neg (th m hR), ((hR.2.2.2.2.2 s hs).2 ns).2.1, ((hR.2.2.2.2.2 d hd).2 nd).2.1, if_neg e2] at e e4
          exact ⟨e, m, ml, e4, frQ.rf m⟩
    · exact PR_s hI0 (d := 3) (d2 := 3) (by decide) (by decide) (c_copy_no2 (X := W) (ml := ml) hM g g2) (sm_qR (r_copy_no2 hM hs g2))
  · refine PR_s hI0 (d := 3) (d2 := 3) (by decide) (by decide) ?_ (sm_qR (r_copy_no1 hM g))
    by_cases g2 : aixn s2 4 = true
    · exact c_copy_no1t (X := W) (ml := ml) hM g g2
    · exact c_copy_no1f (X := W) (ml := ml) hM g g2
theorem fhG_ok {t : tW} {s : Nat} (hs : s < 8) {hp : Int32} {u : pU} (h : okU u) : ∀ k, okU (fhG t s hp k u)
  | 0 => h
  | k + 1 => hrG_ok (fhG_ok hs h k) hs
theorem sh_Uf {s : Nat} (hs : s < 4) {k : Nat} (hk : k ∈ (55 + 2 * s) :: (55 + 2 * s + 1) :: UCL) : k = 55 + 2 * s ∨ k = 56 + 2 * s ∨ k ∈ UCL := by
  simp only [List.mem_cons] at hk
  rcases hk with e | e | e
  · exact Or.inl e
  · exact Or.inr (Or.inl (by omega))
  · exact Or.inr (Or.inr e)
theorem cIH.s2 {m m' : Nat → Nat → Int32} {H : hS} (h : cIH m H) {s : Nat} (hs : s < 4) (f : ∀ k j, ¬ (k = 55 + 2 * s ∨ k = 56 + 2 * s) → 55 ≤ k ∧ k < 63 → m' k j = m k j) {q : Int32 × Nat × (Nat → Int32)} (h1 : m' (55 + 2 * s) 0 = q.1) (h2 : m' (55 + 2 * s) 1 = nI q.2.1) (h3 : ∀ j, j < q.2.1 → m' (55 + 2 * s + 1) j = q.2.2 j) : cIH m' (shU H s q) := fun x hx => by
  unfold shU
  by_cases e : x = s
  · rw [if_pos e, e]; exact ⟨h1, h2, fun j hj => by rw [show 56 + 2 * s = 55 + 2 * s + 1 by omega]; exact h3 j hj⟩
  · rw [if_neg e]
    exact ⟨(f _ _ (by omega) (by omega)).trans (h x hx).1, (f _ _ (by omega) (by omega)).trans (h x hx).2.1, fun j hj => (f _ _ (by omega) (by omega)).trans ((h x hx).2.2 j hj)⟩
theorem p_film {W : aXt × Value} {sh one sH n : Int32} : PR W 89 202 [.int sh, .int one, .int sH, .int n] := by
  intro m ml mr hI
  have hI0 := hI
  obtain ⟨hM, A, T, X, B, K, H, hC, hR, o⟩ := hI
  have h6 := o.2.2.1
  have hR6 : X.2.1 < 6 := Nat.lt_of_lt_of_le h6.2 h6.1
  by_cases g : aixn sh 4 = true
  · obtain ⟨s, rfl, hs⟩ := one_p g
    obtain ⟨b1, b2, b3⟩ := hC.2.2.2.2.2 s hs
    have hZ := o.2.2.2.2.2 s hs
    by_cases g2 : aixn one A.1 = true
    · have z := c_film_ok (X := W) (ml := ml) hM hC.1.1 o.1.1 (tx_mem hR6) hC.2.2.1.2.1 (hC.2.2.1.2.2.2 _ h6.2) g g2 (sH := sH) (n := n)
      obtain ⟨p, rfl, hp_⟩ := one_p g2
      have hp5 : p < 5 := Nat.lt_of_lt_of_le hp_ o.1.1
      rw [hC.2.1.tv X, pAt_p hp5, hC.1.2 p hp_, sAt_s hs] at z
      have y := fun m1 w1 mr1 (hM1 : MRok mr1) (hR1 : RI m1 A T X B K H) => r_film_ok (X := W) (ml := w1) hM1 hR1.1.1 o.1.1 (hR1.2.2.1.ru h6) hp_ (by rw [hR1.1.2 p hp_]; exact o.1.2 p hp_) hs (sH := sH) (n := n)
      by_cases b : shG sH = true ∧ inR 0 40 n
      · have q := rI.mp b.2
        rw [show (0 : Int32).toInt = 0 from rfl, show (40 : Int32).toInt = 40 from rfl] at q
        have hn40 : n.toNatClampNeg ≤ 40 := by
          show n.toInt.toNat ≤ 40
          omega
        have en : n = nI n.toNatClampNeg := (aix_eq (n := 41) ((aix_iff (by decide)).mpr ⟨b.2.1, fun z => b.2.2 (Int32.lt_of_lt_of_le (by decide) z)⟩)).1
        have h8 := (aix_out (shG_s b.1)).2
        refine PR_u (v := .int (n)) (A := A) (T := T) (X := X) (B := B) (K := K) (H := H) (A' := A) (T' := T) (X' := X) (B' := B) (K' := K) (H' := shU H s (0, n.toNatClampNeg, fun j => (fhG (tV T X) (sH / 10).toNatClampNeg (sH - sH / 10 * 10) (j + 1) (A.2 p)).2.2.2.2 (sH / 10).toNatClampNeg)) ⟨o.1, o.2.1, o.2.2.1, o.2.2.2.1, o.2.2.2.2.1, o.2.2.2.2.2.s hn40⟩ (d := 8) (d2 := 49) (by decide) (by decide) (cw_mono z ?_) (fun m1 w1 mr1 hM1 hR1 => cw_mono (y m1 w1 mr1 hM1 hR1) ?_)
        · rintro r h ⟨m', w, e2, k1, _⟩
          obtain ⟨e, a1, a2, a3, f⟩ := k1 b
          have off : ∀ k j, ¬ (k = 55 + 2 * s ∨ k = 56 + 2 * s) → k ∉ UCL → m' k j = m k j := fun k j z z2 => f k j (fun q => (sh_Uf hs q).elim (fun q => z (Or.inl q)) (fun q => q.elim (fun q => z (Or.inr q)) z2))
          refine ⟨e, _, _, _, e2, mr_up hM (by decide) _, ?_, hR.lo (fun k j z => off k j (by omega) (U_84 z))⟩
          have c2 : CI m' (aup mr 73 2 w) A T X B K (shU H s (0, n.toNatClampNeg, fun j => (fhG (tV T X) (sH / 10).toNatClampNeg (sH - sH / 10 * 10) (j + 1) (A.2 p)).2.2.2.2 (sH / 10).toNatClampNeg)) := ⟨hC.1.on o.1.1 (fun k j z => off k j (by unfold uA at z; omega) (uC_all k (by unfold uA at z; omega) (by unfold uA at z; omega))), hC.2.1.on (fun k j z => off k j (by unfold uT at z; omega) (uC_all k (by unfold uT at z; omega) (by unfold uT at z; omega))), hC.2.2.1.on o.2.2.1.1 (fun k j z => off k j (by unfold uX at z; omega) (uC_all k (by unfold uX at z; omega) (by unfold uX at z; omega))) (mr_off (by decide) w), hC.2.2.2.1.on (fun k j z => off k j (by unfold uB at z; omega) (uC_all k (by unfold uB at z; omega) (by unfold uB at z; omega))), hC.2.2.2.2.1.on (o.2.2.2.2.1.le o.1) (fun k j z => off k j (by unfold uK at z; omega) (uC_all k (by unfold uK at z; omega) (by unfold uK at z; omega))) (mr_off (by decide) w), cIH.s2 hC.2.2.2.2.2 hs (fun k j z z2 => off k j z (uC_all k (by omega) (by omega))) a1 (a2.trans en) (fun j hj => by
            have q := a3 j hj
            rw [fi2b_s ((fhG_ok h8 (o.1.2 p hp_) (j + 1)).2.2.2.2 _ h8)] at q
            exact q)⟩
          exact c2
        · rintro r h ⟨m', w', e2, k1, _⟩
          obtain ⟨e, f, a1, a2, a3, a4⟩ := k1 b
          rw [hR1.2.1.tv X, hR1.1.2 p hp_] at a4
          have off : ∀ k j, ¬ (k = 84 ∧ (13 ≤ j ∧ j ≤ 27 ∨ j = 29) ∨ k = 92 ∨ (k = 97 ∨ k = 98 ∨ k = 99) ∧ j = s ∨ k = 100 ∧ 40 * s ≤ j ∧ j < 40 * s + 40) → m' k j = m1 k j := fun k j z => f k j (by omega) (by omega) (by omega) (by omega) (by omega) (by omega)
          exact ⟨e, _, _, e2, fun k j z => off k j (by omega), ⟨hR1.1.on (fun k j z => off k j (by unfold wA at z; omega)), hR1.2.1.on (fun k j z => off k j (by unfold wT at z; omega)), hR1.2.2.1.on (fun k j z => off k j (by unfold wX at z; omega)), hR1.2.2.2.1.on (fun k j z => off k j (by unfold wB at z; omega)), hR1.2.2.2.2.1.on (fun k j z => off k j (by unfold wK at z; omega)), rIH.s o.2.2.2.2.2 hR1.2.2.2.2.2 hs (fun k j z _ => off k j (by omega)) (fun z => absurd (show (0 : Int32) = -1 from z) (by decide)) (fun _ => ⟨a1, a2, a3.trans en, a4⟩)⟩⟩
      · refine PR_q hM o hC hR (v := .int (-2)) (d := 8) (d2 := 49) (by decide) (by decide) (cw_mono z ?_) (fun m1 w1 mr1 hM1 hR1 => cw_mono (y m1 w1 mr1 hM1 hR1) ?_)
        · rintro r h ⟨m', w, e, _, k1⟩
          obtain ⟨k2, rfl⟩ := k1 b
          exact ⟨k2, _, w, e, frm.rf _ _⟩
        · rintro r h ⟨m', w', e, _, k1⟩
          obtain ⟨k2, rfl⟩ := k1 b
          exact ⟨k2, _, _, e, frQ.rf _⟩
    · exact PR_q hM o hC hR (d := 8) (d2 := 49) (by decide) (by decide) (c_film_no3 (X := W) (ml := ml) hM hC.1.1 o.1.1 g g2) (fun m1 w1 mr1 hM1 hR1 => sm_qR (r_film_no2 hM1 hR1.1.1 o.1.1 hs g2))
  · refine PR_q hM o hC hR (v := .int (-2)) (d := 8) (d2 := 49) (by decide) (by decide) ?_ (fun m1 w1 mr1 hM1 hR1 => sm_qR (r_film_no1 hM1 g))
    by_cases g2 : aixn one A.1 = true
    · exact c_film_no1 (X := W) (ml := ml) hM hC.1.1 o.1.1 g g2
    · exact c_film_no2 (X := W) (ml := ml) hM hC.1.1 o.1.1 g g2
