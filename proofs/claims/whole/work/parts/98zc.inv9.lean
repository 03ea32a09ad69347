/-! tells: class and reference alike (written by wip/whole/mkinv9.py) -/
theorem foL_cg {t : tW} {s : Nat} {hp : Int32} {it it' : Nat → Int32} : ∀ {g k : Nat} {u : pU}, (∀ j, k ≤ j → j < k + g → it j = it' j) → foL t s hp it g k u = foL t s hp it' g k u
  | 0, _, _, _ => rfl
  | g + 1, k, u, h => by
    unfold foL
    rw [h k (Nat.le_refl _) (by omega), foL_cg (g := g) (k := k + 1) (fun j h1 h2 => h j (by omega) (by omega))]
theorem fiR_cg {CT : cT} {it it' : Nat → Int32} {Z : Nat} {w : Int32} {y : Nat} {hp : Int32} {t : tW} {u : pU} (h : ∀ j, j < Z → it j = it' j) : fiR CT it Z w y hp t u = fiR CT it' Z w y hp t u := funext fun k => foL_cg (fun j _ hj => h j (by omega))
theorem tlL_cg {F G : Nat → Int32} (h : ∀ k, F k = G k) (g k : Nat) (a : tA) : tlL F g k a = tlL G g k a := by rw [show F = G from funext h]
theorem fiT_cg {CT : cT} {it it' : Nat → Int32} {Z : Nat} {w sH : Int32} {t : tW} {u : pU} (h : ∀ j, j < Z → it j = it' j) : fiT CT it Z w sH t u = fiT CT it' Z w sH t u := funext fun k => foL_cg (fun j _ hj => h j (by omega))
theorem tl_c0 {F : Nat → Int32} {C : Nat} {a : tA} : tlV 0 (tlL F (gsN C 0) 0 a) = F 0 := by
  rw [show gsN C 0 = 1 from if_pos rfl]
  show (if (0 : Int32) = 0 then (stT (F 0) 0 a).1 else _) = F 0
  rw [if_pos rfl]
  unfold stT
  by_cases e : F 0 = -1
  · rw [if_pos e]
  · rw [if_neg e]
theorem tl_c3 {F : Nat → Int32} {C : Nat} : tlV 3 (tlL F (gsN C 3) 0 (-1, 0, 0, -1)) = (tlL F 3 0 (0, 0, 0, -1)).2.1 := by
  rw [show gsN C 3 = 3 from by simp [gsN]]
  unfold tlV
  rw [if_neg (by decide), if_neg (by decide), if_neg (by decide), if_neg (by decide), if_neg (by decide)]
  exact ((tl_dn (F := F) (g := 3) (a0 := -1) (by decide)).1 (by decide)).trans ((tl_dn (F := F) (g := 3) (a0 := 0) (by decide)).1 (by decide)).symm
theorem fiT_R {CT : cT} {it : Nat → Int32} {Z : Nat} {w sH : Int32} {t : tW} {u : pU} (h3 : ¬ w = 3) : fiT CT it Z w sH t u = fiR CT it Z w (sH / 10).toNatClampNeg (sH - sH / 10 * 10) t u := funext fun k => by
  unfold fiT fiR hpT
  rw [if_neg h3]
theorem fiT_0 {CT : cT} {it : Nat → Int32} {Z : Nat} {sH : Int32} {t : tW} {u : pU} {k : Nat} : fiT CT it Z 0 sH t u k = foL t (sH / 10).toNatClampNeg (sH - sH / 10 * 10) it Z 0 u := by
  unfold fiT spT spU hpT
  rw [if_neg (by decide), if_neg (by decide), if_neg (by decide), if_neg (by decide), if_neg (by decide), if_neg (by decide)]
theorem fiT_3 {CT : cT} {it : Nat → Int32} {Z : Nat} {sH : Int32} {t : tW} {u : pU} : fiT CT it Z 3 sH t u = fun k => foL t (sH / 10).toNatClampNeg (nI k) it Z 0 u := funext fun k => by
  unfold fiT spT spU hpT
  rw [if_neg (by decide), if_neg (by decide), if_pos rfl, if_neg (by decide), if_neg (by decide), if_neg (by decide)]
theorem p_tells {W : aXt × Value} {sh one sH w : Int32} : PR W 86 201 [.int sh, .int one, .int sH, .int w] := by
  intro m ml mr hI
  have hI0 := hI
  obtain ⟨hM, A, T, X, B, K, H, hC, hR, o⟩ := hI
  have h6 := o.2.2.1
  have hR6 : X.2.1 < 6 := Nat.lt_of_lt_of_le h6.2 h6.1
  by_cases g : aixn sh 4 = true
  · obtain ⟨s, rfl, hs⟩ := one_p g
    obtain ⟨b1, b2, b3⟩ := hC.2.2.2.2.2 s hs
    have hZ := o.2.2.2.2.2 s hs
    by_cases g2 : aixn one A.1 = true
    · have z := c_tells_ok (X := W) (ml := ml) hM hC.1.1 o.1.1 (tx_mem hR6) hC.2.2.1.2.1 (hC.2.2.1.2.2.2 _ h6.2) hC.2.2.1.1 h6.1 (CT := X.2.2) hC.2.2.1.2.2.2 g g2 (by rw [sAt_s hs]; exact b2) hZ (sH := sH) (w := w)
      obtain ⟨p, rfl, hp_⟩ := one_p g2
      have hp5 : p < 5 := Nat.lt_of_lt_of_le hp_ o.1.1
      rw [hC.2.1.tv X, pAt_p hp5, hC.1.2 p hp_, sAt_s hs, b1, fiT_cg (it' := (H s).2.2) (fun j hj => by rw [show 55 + 2 * s + 1 = 56 + 2 * s by omega]; exact b3 j hj)] at z
      refine PR_q hM o hC hR (d2 := 50) (by decide) (by decide) z (fun m1 v1 mr1 hM1 hR1 => ?_)
      by_cases hb : shG sH = true ∧ inR 0 8 w
      · obtain ⟨hS, hw⟩ := hb
        rw [if_pos ⟨hS, hw⟩]
        by_cases e1 : (H s).1 = -1
        · rw [if_pos e1]
          exact sm_qR (r_tells_e hM1 hR1.1.1 o.1.1 hp_ hs hS hw ((hR1.2.2.2.2.2 s hs).1 e1))
        rw [if_neg e1]
        obtain ⟨d1, d2, d3, d4⟩ := (hR1.2.2.2.2.2 s hs).2 e1
        have ok : okU (puR m1 p) := by rw [hR1.1.2 p hp_]; exact o.1.2 p hp_
        by_cases w0 : w = 0
        · subst w0
          have y := r_tells_w0 (X := W) (ml := v1) hM1 hR1.1.1 o.1.1 (hR1.2.2.1.ru h6) hp_ ok hs d3 hZ hS d1
          rw [hR1.2.1.tv X, hR1.1.2 p hp_, foL_cg (it' := (H s).2.2) (fun j _ hj => d4 j (by omega))] at y
          rw [tl_c0, fiT_0]
          exact cw_up (by decide) y
        by_cases w1 : w = 1
        · subst w1
          have y := r_tells_g1 (X := W) (ml := v1) hM1 hR1.1.1 o.1.1 (hR1.2.2.1.ru h6) hp_ ok hs d3 hZ hS d1 (aix_eq (shG_s hS)).2 (aix_eq (shG_s hS)).1 rfl (CT := X.2.2)
          rw [hR1.2.1.tv X, hR1.1.2 p hp_, fiR_cg (it' := (H s).2.2) (fun j hj => d4 j hj)] at y
          rw [fiT_R (by decide), show gsN X.1 1 = 6 from by simp [gsN]]
          exact cw_up (by decide) y
        by_cases w2 : w = 2
        · subst w2
          have y := r_tells_g2 (X := W) (ml := v1) hM1 hR1.1.1 o.1.1 (hR1.2.2.1.ru h6) hp_ ok hs d3 hZ hS d1 (aix_eq (shG_s hS)).2 (aix_eq (shG_s hS)).1 rfl (CT := X.2.2)
          rw [hR1.2.1.tv X, hR1.1.2 p hp_, fiR_cg (it' := (H s).2.2) (fun j hj => d4 j hj)] at y
          rw [fiT_R (by decide), show gsN X.1 2 = 10 from by simp [gsN]]
          exact cw_up (by decide) y
        by_cases w3 : w = 3
        · subst w3
          have y := r_tells_w3 (X := W) (ml := v1) hM1 hR1.1.1 o.1.1 (hR1.2.2.1.ru h6) hp_ ok hs d3 hZ hS d1
          rw [hR1.2.1.tv X, hR1.1.2 p hp_, show (fun h => foL (tV T X) (sH / 10).toNatClampNeg h (fun j => m1 100 (40 * s + j)) (H s).2.1 0 (A.2 p)) = (fun h => foL (tV T X) (sH / 10).toNatClampNeg h (H s).2.2 (H s).2.1 0 (A.2 p)) from funext fun h => foL_cg (fun j _ hj => d4 j (by omega)), hbG_tl] at y
          rw [tl_c3, fiT_3]
          exact cw_up (by decide) y
        by_cases w4 : w = 4
        · subst w4
          have y := r_tells_g4 (X := W) (ml := v1) hM1 hR1.1.1 o.1.1 (hR1.2.2.1.ru h6) hp_ ok hs d3 hZ hS d1 (aix_eq (shG_s hS)).2 (aix_eq (shG_s hS)).1 rfl (CT := X.2.2)
          rw [hR1.2.1.tv X, hR1.1.2 p hp_, fiR_cg (it' := (H s).2.2) (fun j hj => d4 j hj)] at y
          rw [fiT_R (by decide), show gsN X.1 4 = 100 from by simp [gsN]]
          exact cw_up (by decide) y
        by_cases w5 : w = 5
        · subst w5
          have y := r_tells_g5 (X := W) (ml := v1) hM1 hR1.1.1 o.1.1 (hR1.2.2.1.ru h6) hp_ ok hs d3 hZ hS d1 (aix_eq (shG_s hS)).2 (aix_eq (shG_s hS)).1 rfl (CT := X.2.2)
          rw [hR1.2.1.tv X, hR1.1.2 p hp_, fiR_cg (it' := (H s).2.2) (fun j hj => d4 j hj)] at y
          rw [fiT_R (by decide), show gsN X.1 5 = 100 from by simp [gsN]]
          exact cw_up (by decide) y
        by_cases w6 : w = 6
        · subst w6
          have y := r_tells_g6 (X := W) (ml := v1) hM1 hR1.1.1 o.1.1 (hR1.2.2.1.ru h6) hp_ ok hs d3 hZ hS d1 (aix_eq (shG_s hS)).2 (aix_eq (shG_s hS)).1 rfl (CT := X.2.2)
          rw [hR1.2.1.tv X, hR1.1.2 p hp_, fiR_cg (it' := (H s).2.2) (fun j hj => d4 j hj)] at y
          rw [fiT_R (by decide), show gsN X.1 6 = 100 from by simp [gsN]]
          exact cw_up (by decide) y
        by_cases w7 : w = 7
        · subst w7
          have y := r_tells_g7 (X := W) (ml := v1) hM1 hR1.1.1 o.1.1 (hR1.2.2.1.ru h6) hp_ ok hs d3 hZ hS d1 (aix_eq (shG_s hS)).2 (aix_eq (shG_s hS)).1 rfl (CT := X.2.2)
          rw [hR1.2.1.tv X, hR1.1.2 p hp_, fiR_cg (it' := (H s).2.2) (fun j hj => d4 j hj)] at y
          rw [fiT_R (by decide), show gsN X.1 7 = 100 from by simp [gsN]]
          exact cw_up (by decide) y
        by_cases w8 : w = 8
        · subst w8
          have y := r_tells_g8 (X := W) (ml := v1) hM1 hR1.1.1 o.1.1 (hR1.2.2.1.ru h6) hp_ ok hs d3 hZ hS d1 (aix_eq (shG_s hS)).2 (aix_eq (shG_s hS)).1 rfl (CT := X.2.2) (C := X.1) hR1.2.2.1.1 h6.1 hR1.2.2.1.2.2
          rw [hR1.2.1.tv X, hR1.1.2 p hp_, fiR_cg (it' := (H s).2.2) (fun j hj => d4 j hj)] at y
          rw [fiT_R (by decide), show gsN X.1 8 = X.1 from by simp [gsN]]
          exact cw_up (by decide) y
        exfalso
        have q := rI.mp hw
        rw [show (0 : Int32).toInt = 0 from rfl, show (8 : Int32).toInt = 8 from rfl] at q
        have n0 : ¬ w.toInt = 0 := fun z => w0 (Int32.toInt_inj.mp z)
        have n1 : ¬ w.toInt = 1 := fun z => w1 (Int32.toInt_inj.mp z)
        have n2 : ¬ w.toInt = 2 := fun z => w2 (Int32.toInt_inj.mp z)
        have n3 : ¬ w.toInt = 3 := fun z => w3 (Int32.toInt_inj.mp z)
        have n4 : ¬ w.toInt = 4 := fun z => w4 (Int32.toInt_inj.mp z)
        have n5 : ¬ w.toInt = 5 := fun z => w5 (Int32.toInt_inj.mp z)
        have n6 : ¬ w.toInt = 6 := fun z => w6 (Int32.toInt_inj.mp z)
        have n7 : ¬ w.toInt = 7 := fun z => w7 (Int32.toInt_inj.mp z)
        have n8 : ¬ w.toInt = 8 := fun z => w8 (Int32.toInt_inj.mp z)
        omega
      · rw [if_neg hb]
        exact sm_qR (r_tells_x hM1 hR1.1.1 o.1.1 hp_ hs hb)
    · exact PR_q hM o hC hR (d := 8) (d2 := 50) (by decide) (by decide) (c_tells_no3 (X := W) (ml := ml) hM hC.1.1 o.1.1 g g2) (fun m1 w1 mr1 hM1 hR1 => sm_qR (r_tells_no2 hM1 hR1.1.1 o.1.1 hs g2))
  · refine PR_q hM o hC hR (v := .int (-2)) (d := 8) (d2 := 50) (by decide) (by decide) ?_ (fun m1 w1 mr1 hM1 hR1 => sm_qR (r_tells_no1 hM1 g))
    by_cases g2 : aixn one A.1 = true
    · exact c_tells_no1 (X := W) (ml := ml) hM hC.1.1 o.1.1 g g2
    · exact c_tells_no2 (X := W) (ml := ml) hM hC.1.1 o.1.1 g g2
