/-! links: a byte, set (written by wip/whole/mklnk0.py) -/
theorem fi2b_s {v : Int32} (h : inR 0 99 v) : fi2b v = v := by
  have q := rI.mp h
  rw [show (0 : Int32).toInt = 0 from rfl, show (99 : Int32).toInt = 99 from rfl] at q
  refine Int32.toInt_inj.mp ?_
  unfold fi2b
  rw [Int8.toInt_toInt32, Int32.toInt_toInt8]
  exact Int.bmod_eq_of_le (by omega) (by omega)
theorem set_l {α : Type} {a M v hi : Int32} (h : inR 0 hi a) {x y : α} : (if a = -2 then x else if v < 0 then x else if v ≤ M then y else x) = if inR 0 M v then y else x := by
  have e : ¬ a = -2 := by
    intro z
    have q := (rI.mp h).1
    rw [z, show (0 : Int32).toInt = 0 from rfl, show (-2 : Int32).toInt = -2 from rfl] at q
    omega
  rw [if_neg e]
  by_cases h1 : v < 0
  · rw [if_pos h1, if_neg (fun z => z.1 h1)]
  · rw [if_neg h1]
    by_cases h2 : v ≤ M
    · rw [if_pos h2, if_pos ⟨h1, Int32.not_lt.mpr h2⟩]
    · rw [if_neg h2, if_neg (fun z => h2 (Int32.not_lt.mp z.2))]
theorem puV_2 {m : Nat → Nat → Int32} {P : Nat} {t : tW} {v : Int32} (ok : okU (puC m P)) : puV m P 2 v = if inR 0 9 v then toG t (puC m P) 2 else -2 := by
  unfold puV
  rw [vOf_G]
  exact set_l ok.2.1
theorem puM_2 {m : Nat → Nat → Int32} {P : Nat} {v : Int32} (ok : okU (puC m P)) : puM m P 2 v = if inR 0 9 v then aup m P 1 v else m := by
  unfold puM
  rw [vOf_G]
  exact set_l ok.2.1
theorem puV_3 {m : Nat → Nat → Int32} {P : Nat} {t : tW} {v : Int32} (ok : okU (puC m P)) : puV m P 3 v = if inR 0 99 v then toG t (puC m P) 3 else -2 := by
  unfold puV
  rw [vOf_G]
  exact set_l ok.2.2.1
theorem puM_3 {m : Nat → Nat → Int32} {P : Nat} {v : Int32} (ok : okU (puC m P)) : puM m P 3 v = if inR 0 99 v then aup m P 2 v else m := by
  unfold puM
  rw [vOf_G]
  exact set_l ok.2.2.1
theorem puV_4 {m : Nat → Nat → Int32} {P : Nat} {t : tW} {v : Int32} (ok : okU (puC m P)) : puV m P 4 v = if inR 0 999 v then toG t (puC m P) 4 else -2 := by
  unfold puV
  rw [vOf_G]
  exact set_l ok.2.2.2.1
theorem puM_4 {m : Nat → Nat → Int32} {P : Nat} {v : Int32} (ok : okU (puC m P)) : puM m P 4 v = if inR 0 999 v then aup m P 3 v else m := by
  unfold puM
  rw [vOf_G]
  exact set_l ok.2.2.2.1
theorem puV_10 {m : Nat → Nat → Int32} {P : Nat} {t : tW} {v : Int32} (ok : okU (puC m P)) : puV m P 10 v = if inR 0 99 v then toG t (puC m P) 10 else -2 := by
  unfold puV
  rw [vOf_G]
  exact set_l (ok.2.2.2.2 0 (by decide))
theorem puM_10 {m : Nat → Nat → Int32} {P : Nat} {v : Int32} (ok : okU (puC m P)) : puM m P 10 v = if inR 0 99 v then aup m (P + 1) 0 v else m := by
  unfold puM
  rw [vOf_G]
  exact set_l (ok.2.2.2.2 0 (by decide))
theorem puV_11 {m : Nat → Nat → Int32} {P : Nat} {t : tW} {v : Int32} (ok : okU (puC m P)) : puV m P 11 v = if inR 0 99 v then toG t (puC m P) 11 else -2 := by
  unfold puV
  rw [vOf_G]
  exact set_l (ok.2.2.2.2 1 (by decide))
theorem puM_11 {m : Nat → Nat → Int32} {P : Nat} {v : Int32} (ok : okU (puC m P)) : puM m P 11 v = if inR 0 99 v then aup m (P + 1) 1 v else m := by
  unfold puM
  rw [vOf_G]
  exact set_l (ok.2.2.2.2 1 (by decide))
theorem puV_12 {m : Nat → Nat → Int32} {P : Nat} {t : tW} {v : Int32} (ok : okU (puC m P)) : puV m P 12 v = if inR 0 99 v then toG t (puC m P) 12 else -2 := by
  unfold puV
  rw [vOf_G]
  exact set_l (ok.2.2.2.2 2 (by decide))
theorem puM_12 {m : Nat → Nat → Int32} {P : Nat} {v : Int32} (ok : okU (puC m P)) : puM m P 12 v = if inR 0 99 v then aup m (P + 1) 2 v else m := by
  unfold puM
  rw [vOf_G]
  exact set_l (ok.2.2.2.2 2 (by decide))
theorem puV_13 {m : Nat → Nat → Int32} {P : Nat} {t : tW} {v : Int32} (ok : okU (puC m P)) : puV m P 13 v = if inR 0 99 v then toG t (puC m P) 13 else -2 := by
  unfold puV
  rw [vOf_G]
  exact set_l (ok.2.2.2.2 3 (by decide))
theorem puM_13 {m : Nat → Nat → Int32} {P : Nat} {v : Int32} (ok : okU (puC m P)) : puM m P 13 v = if inR 0 99 v then aup m (P + 1) 3 v else m := by
  unfold puM
  rw [vOf_G]
  exact set_l (ok.2.2.2.2 3 (by decide))
theorem puV_14 {m : Nat → Nat → Int32} {P : Nat} {t : tW} {v : Int32} (ok : okU (puC m P)) : puV m P 14 v = if inR 0 99 v then toG t (puC m P) 14 else -2 := by
  unfold puV
  rw [vOf_G]
  exact set_l (ok.2.2.2.2 4 (by decide))
theorem puM_14 {m : Nat → Nat → Int32} {P : Nat} {v : Int32} (ok : okU (puC m P)) : puM m P 14 v = if inR 0 99 v then aup m (P + 1) 4 v else m := by
  unfold puM
  rw [vOf_G]
  exact set_l (ok.2.2.2.2 4 (by decide))
theorem puV_15 {m : Nat → Nat → Int32} {P : Nat} {t : tW} {v : Int32} (ok : okU (puC m P)) : puV m P 15 v = if inR 0 99 v then toG t (puC m P) 15 else -2 := by
  unfold puV
  rw [vOf_G]
  exact set_l (ok.2.2.2.2 5 (by decide))
theorem puM_15 {m : Nat → Nat → Int32} {P : Nat} {v : Int32} (ok : okU (puC m P)) : puM m P 15 v = if inR 0 99 v then aup m (P + 1) 5 v else m := by
  unfold puM
  rw [vOf_G]
  exact set_l (ok.2.2.2.2 5 (by decide))
theorem puV_16 {m : Nat → Nat → Int32} {P : Nat} {t : tW} {v : Int32} (ok : okU (puC m P)) : puV m P 16 v = if inR 0 99 v then toG t (puC m P) 16 else -2 := by
  unfold puV
  rw [vOf_G]
  exact set_l (ok.2.2.2.2 6 (by decide))
theorem puM_16 {m : Nat → Nat → Int32} {P : Nat} {v : Int32} (ok : okU (puC m P)) : puM m P 16 v = if inR 0 99 v then aup m (P + 1) 6 v else m := by
  unfold puM
  rw [vOf_G]
  exact set_l (ok.2.2.2.2 6 (by decide))
theorem puV_17 {m : Nat → Nat → Int32} {P : Nat} {t : tW} {v : Int32} (ok : okU (puC m P)) : puV m P 17 v = if inR 0 99 v then toG t (puC m P) 17 else -2 := by
  unfold puV
  rw [vOf_G]
  exact set_l (ok.2.2.2.2 7 (by decide))
theorem puM_17 {m : Nat → Nat → Int32} {P : Nat} {v : Int32} (ok : okU (puC m P)) : puM m P 17 v = if inR 0 99 v then aup m (P + 1) 7 v else m := by
  unfold puM
  rw [vOf_G]
  exact set_l (ok.2.2.2.2 7 (by decide))
theorem vG_x {u : pU} {w : Int32} (h0 : ¬ w = 0 ∧ ¬ w = 1) (hx : ¬ inR 0 4 w ∧ ¬ inR 10 17 w) (h5 : ¬ w = 5) : vG u w = -2 := by
  obtain ⟨x1, x2⟩ := hx
  rw [rI, show (0 : Int32).toInt = 0 from rfl, show (4 : Int32).toInt = 4 from rfl] at x1
  rw [rI, show (10 : Int32).toInt = 10 from rfl, show (17 : Int32).toInt = 17 from rfl] at x2
  unfold vG
  rw [if_neg (fun z => x1 (by rw [z]; decide)), if_neg (fun z => x1 (by rw [z]; decide)), if_neg (fun z => x1 (by rw [z]; decide)), if_neg h5]
  by_cases h : w < 10
  · rw [if_pos h]
  · rw [if_neg h, if_neg]
    intro z
    have q := aix_eq z
    rw [Int32.lt_iff_toInt_lt, show (10 : Int32).toInt = 10 from rfl] at h
    have e : w = nI ((w - 10).toNatClampNeg + 10) := by
      rw [← nI_add, ← q.1]
      exact (Int32.sub_add_cancel w 10).symm
    have e2 := congrArg Int32.toInt e
    rw [nI_toInt (by omega)] at e2
    omega
theorem puV_x {m : Nat → Nat → Int32} {P : Nat} {w v : Int32} (h0 : ¬ w = 0 ∧ ¬ w = 1) (hx : ¬ inR 0 4 w ∧ ¬ inR 10 17 w) : puV m P w v = -2 ∧ puM m P w v = m := by
  unfold puV puM
  by_cases h5 : w = 5
  · subst h5
    have e : ∀ v : Int32, ¬ v < 0 → ¬ v ≤ mOf 5 := by
      intro v h z
      rw [Int32.lt_iff_toInt_lt, show (0 : Int32).toInt = 0 from rfl] at h
      rw [Int32.le_iff_toInt_le, show (mOf 5).toInt = -1 from rfl] at z
      omega
    by_cases h1 : v < 0
    · rw [if_pos h1, if_pos h1]; exact ⟨ite_self _, ite_self _⟩
    · rw [if_neg h1, if_neg h1, if_neg (e v h1), if_neg (e v h1)]; exact ⟨ite_self _, ite_self _⟩
  · rw [vOf_G, vG_x h0 hx h5]; exact ⟨if_pos rfl, if_pos rfl⟩
