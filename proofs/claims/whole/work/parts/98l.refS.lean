/-! the reference: which help (written by wip/whole/mkrefS.py) -/
theorem frQ.row {m m' : Nat → Nat → Int32} (h : frQ m m') {k : Nat} (h1 : k ≠ 84) (h2 : k ≠ 92) (h3 : k ≠ 93) : m' k = m k := funext fun j => h k j (fun z => h1 z.1) h2 h3
theorem puR_Q {m m' : Nat → Nat → Int32} (h : frQ m m') (p : Nat) : puR m' p = puR m p := by
  unfold puR
  rw [h.row (k := 89) (by decide) (by decide) (by decide), h.row (k := 90) (by decide) (by decide) (by decide), h.row (k := 91) (by decide) (by decide) (by decide)]
theorem twR_Q {m m' : Nat → Nat → Int32} (h : frQ m m') (c0 c1 c2 : List Int32) : twR m' c0 c1 c2 = twR m c0 c1 c2 := by
  unfold twR
  rw [h.row (k := 88) (by decide) (by decide) (by decide), h 84 7 (by omega) (by decide) (by decide)]
theorem RUX.Qf {m m' : Nat → Nat → Int32} {c0 c1 c2 : List Int32} (h : RUX m c0 c1 c2) (f : frQ m m') : RUX m' c0 c1 c2 := by
  obtain ⟨R, n, v0, a1, a2, a3⟩ := h
  exact ⟨R, n, v0, a1, (f 84 4 (by omega) (by decide) (by decide)).trans a2, a3.fr (fun j _ => f 85 _ (by omega) (by decide) (by decide)) (f 86 _ (by omega) (by decide) (by decide))⟩
/-- the first item that is another, from a memory on the way -/
theorem r_first_q {X : aXt × Value} {mi m : Nat → Nat → Int32} {w : Nat → Nat → Int64} {mr : Nat → Nat → Option Nat} (hM : MRok mr) {c0 c1 c2 : List Int32} (hR : RUX mi c0 c1 c2) {p : Nat} (hp5 : p < 5) (hok : okU (puR mi p)) {s Z : Nat} (hs4 : s < 4) (hz : mi 99 s = nI Z) (hZ : Z ≤ 40) {x hp : Int32} (hx : aixn x 8 = true) (f : frQ mi m) : aCW X 48 198 [.ref 84, .int (nI s), .int (nI p), .int x, .int hp] (HD, m, w, mr) (fun r h' => r = some (.int (foL (twR mi c0 c1 c2) x.toNatClampNeg hp (fun j => mi 100 (40 * s + j)) Z 0 (puR mi p))) ∧ ∃ m' w', h' = (HD, m', w', mr) ∧ frQ mi m') := by
  have q := r_first (X := X) (mi := m) (ml := w) hM (hR.Qf f) hp5 (by rw [puR_Q f]; exact hok) hs4 ((f 99 s (by omega) (by decide) (by decide)).trans hz) hZ (hp := hp) hx
  rw [puR_Q f, twR_Q f, f.row (k := 100) (by decide) (by decide) (by decide)] at q
  exact cw_mono q (by rintro r h' ⟨e, m', w', e2, g⟩; exact ⟨e, m', w', e2, f.tr g⟩)
def hbG (F : Int32 → Int32) : Int32 := ((0 ||| ((if F 0 = -1 then (1 : Int32) else 0) <<< ((0 : Int32) &&& 31))) ||| ((if F 1 = -1 then (1 : Int32) else 0) <<< ((1 : Int32) &&& 31))) ||| ((if F 2 = -1 then (1 : Int32) else 0) <<< ((2 : Int32) &&& 31))
theorem hbG_tl {F : Int32 → Int32} : hbG F = (tlL (fun k => F (nI k)) 3 0 (0, 0, 0, -1)).2.1 := by
  show hbG F = (stT (F 2) 2 (stT (F 1) 1 (stT (F 0) 0 (0, 0, 0, -1)))).2.1
  unfold hbG stT
  by_cases h0 : F 0 = -1 <;> by_cases h1 : F 1 = -1 <;> by_cases h2 : F 2 = -1 <;> simp only [h0, h1, h2, if_true, if_false] <;> rfl
set_option maxRecDepth 20000 in
set_option maxHeartbeats 1000000 in
theorem r_helps {X : aXt × Value} {mi : Nat → Nat → Int32} {ml : Nat → Nat → Int64} {mr : Nat → Nat → Option Nat} (hM : MRok mr) {c0 c1 c2 : List Int32} (hR : RUX mi c0 c1 c2) {p : Nat} (hp5 : p < 5) (hok : okU (puR mi p)) {s Z : Nat} (hs4 : s < 4) (hz : mi 99 s = nI Z) (hZ : Z ≤ 40) {x : Int32} (hx : aixn x 8 = true) : aCW X 49 200 [.ref 84, .int (nI s), .int (nI p), .int x] (HD, mi, ml, mr) (qR mi mr (.int (hbG (fun h => foL (twR mi c0 c1 c2) x.toNatClampNeg h (fun j => mi 100 (40 * s + j)) Z 0 (puR mi p))))) := by
  refine cw_of (cd := cd_X7_helpsBy) (nL := 6) rfl rfl ?_
  show aWP _ _ (0, [some (.ref 84), some (.int (nI s)), some (.int (nI p)), some (.int x), none, none], [], (HD, mi, ml, mr)) _
  refine wp_steps 6 (t' := (6, [some (.ref 84), some (.int (nI s)), some (.int (nI p)), some (.int x), some (.int 0), some (.int 0)], [.int 3, .int 0], (HD, mi, ml, mr))) rfl ?_
  refine wp_bC rfl (fun c_1 => ?_) (fun c_1 => ?_)
  · have c_1 : 3 ≤ (0 : Int32) := of_decide_eq_true c_1
    exact absurd c_1 (by decide)
  have c_1 : ¬ (3 ≤ (0 : Int32)) := of_decide_eq_false c_1
  refine wp_steps 6 (t' := (13, [some (.ref 84), some (.int (nI s)), some (.int (nI p)), some (.int x), some (.int 0), some (.int 0)], [.int 0, .int x, .int (nI p), .int (nI s), .ref 84, .int 0], (HD, mi, ml, mr))) rfl ?_
  refine wp_calv (as := [.int (nI s), .int (nI p), .int x, .int 0]) rfl rfl rfl (Nat.le_of_ble_eq_true rfl) ⟨by decide, rfl⟩ ((r_first_q (X := X) (m := mi) (w := ml) hM hR hp5 hok hs4 hz hZ (hp := 0) hx (frQ.rf mi))) (by decide) ?_
  rintro _ _ ⟨rfl, m_1, w_1, rfl, f_1⟩
  show aWP _ _ (14, [some (.ref 84), some (.int (nI s)), some (.int (nI p)), some (.int x), some (.int 0), some (.int 0)], [.int (foL (twR mi c0 c1 c2) x.toNatClampNeg 0 (fun j => mi 100 (40 * s + j)) Z 0 (puR mi p)), .int 0], (HD, m_1, w_1, mr)) _
  refine wp_steps 1 (t' := (15, [some (.ref 84), some (.int (nI s)), some (.int (nI p)), some (.int x), some (.int 0), some (.int 0)], [.int (-1), .int (foL (twR mi c0 c1 c2) x.toNatClampNeg 0 (fun j => mi 100 (40 * s + j)) Z 0 (puR mi p)), .int 0], (HD, m_1, w_1, mr))) rfl ?_
  refine wp_bC rfl (fun c_2 => ?_) (fun c_2 => ?_)
  · have c_2 : ¬ (foL (twR mi c0 c1 c2) x.toNatClampNeg 0 (fun j => mi 100 (40 * s + j)) Z 0 (puR mi p)) = (-1) := of_decide_eq_true c_2
    refine wp_steps 2 (t' := (20, [some (.ref 84), some (.int (nI s)), some (.int (nI p)), some (.int x), some (.int 0), some (.int 0)], [.int 0, .int 0, .int 0], (HD, m_1, w_1, mr))) rfl ?_
    refine wp_steps 7 (t' := (6, [some (.ref 84), some (.int (nI s)), some (.int (nI p)), some (.int x), some (.int ((0 : Int32) ||| ((0 : Int32) <<< ((0 : Int32) &&& 31)))), some (.int 1)], [.int 3, .int 1], (HD, m_1, w_1, mr))) rfl ?_
    refine wp_bC rfl (fun c_3 => ?_) (fun c_3 => ?_)
    · have c_3 : 3 ≤ (1 : Int32) := of_decide_eq_true c_3
      exact absurd c_3 (by decide)
    have c_3 : ¬ (3 ≤ (1 : Int32)) := of_decide_eq_false c_3
    refine wp_steps 6 (t' := (13, [some (.ref 84), some (.int (nI s)), some (.int (nI p)), some (.int x), some (.int ((0 : Int32) ||| ((0 : Int32) <<< ((0 : Int32) &&& 31)))), some (.int 1)], [.int 1, .int x, .int (nI p), .int (nI s), .ref 84, .int ((0 : Int32) ||| ((0 : Int32) <<< ((0 : Int32) &&& 31)))], (HD, m_1, w_1, mr))) rfl ?_
    refine wp_calv (as := [.int (nI s), .int (nI p), .int x, .int 1]) rfl rfl rfl (Nat.le_of_ble_eq_true rfl) ⟨by decide, rfl⟩ ((r_first_q (X := X) (m := m_1) (w := w_1) hM hR hp5 hok hs4 hz hZ (hp := 1) hx f_1)) (by decide) ?_
    rintro _ _ ⟨rfl, m_2, w_2, rfl, f_2⟩
    show aWP _ _ (14, [some (.ref 84), some (.int (nI s)), some (.int (nI p)), some (.int x), some (.int ((0 : Int32) ||| ((0 : Int32) <<< ((0 : Int32) &&& 31)))), some (.int 1)], [.int (foL (twR mi c0 c1 c2) x.toNatClampNeg 1 (fun j => mi 100 (40 * s + j)) Z 0 (puR mi p)), .int ((0 : Int32) ||| ((0 : Int32) <<< ((0 : Int32) &&& 31)))], (HD, m_2, w_2, mr)) _
    refine wp_steps 1 (t' := (15, [some (.ref 84), some (.int (nI s)), some (.int (nI p)), some (.int x), some (.int ((0 : Int32) ||| ((0 : Int32) <<< ((0 : Int32) &&& 31)))), some (.int 1)], [.int (-1), .int (foL (twR mi c0 c1 c2) x.toNatClampNeg 1 (fun j => mi 100 (40 * s + j)) Z 0 (puR mi p)), .int ((0 : Int32) ||| ((0 : Int32) <<< ((0 : Int32) &&& 31)))], (HD, m_2, w_2, mr))) rfl ?_
    refine wp_bC rfl (fun c_4 => ?_) (fun c_4 => ?_)
    · have c_4 : ¬ (foL (twR mi c0 c1 c2) x.toNatClampNeg 1 (fun j => mi 100 (40 * s + j)) Z 0 (puR mi p)) = (-1) := of_decide_eq_true c_4
      refine wp_steps 2 (t' := (20, [some (.ref 84), some (.int (nI s)), some (.int (nI p)), some (.int x), some (.int ((0 : Int32) ||| ((0 : Int32) <<< ((0 : Int32) &&& 31)))), some (.int 1)], [.int 1, .int 0, .int ((0 : Int32) ||| ((0 : Int32) <<< ((0 : Int32) &&& 31)))], (HD, m_2, w_2, mr))) rfl ?_
      refine wp_steps 7 (t' := (6, [some (.ref 84), some (.int (nI s)), some (.int (nI p)), some (.int x), some (.int (((0 : Int32) ||| ((0 : Int32) <<< ((0 : Int32) &&& 31))) ||| ((0 : Int32) <<< ((1 : Int32) &&& 31)))), some (.int 2)], [.int 3, .int 2], (HD, m_2, w_2, mr))) rfl ?_
      refine wp_bC rfl (fun c_5 => ?_) (fun c_5 => ?_)
      · have c_5 : 3 ≤ (2 : Int32) := of_decide_eq_true c_5
        exact absurd c_5 (by decide)
      have c_5 : ¬ (3 ≤ (2 : Int32)) := of_decide_eq_false c_5
      refine wp_steps 6 (t' := (13, [some (.ref 84), some (.int (nI s)), some (.int (nI p)), some (.int x), some (.int (((0 : Int32) ||| ((0 : Int32) <<< ((0 : Int32) &&& 31))) ||| ((0 : Int32) <<< ((1 : Int32) &&& 31)))), some (.int 2)], [.int 2, .int x, .int (nI p), .int (nI s), .ref 84, .int (((0 : Int32) ||| ((0 : Int32) <<< ((0 : Int32) &&& 31))) ||| ((0 : Int32) <<< ((1 : Int32) &&& 31)))], (HD, m_2, w_2, mr))) rfl ?_
      refine wp_calv (as := [.int (nI s), .int (nI p), .int x, .int 2]) rfl rfl rfl (Nat.le_of_ble_eq_true rfl) ⟨by decide, rfl⟩ ((r_first_q (X := X) (m := m_2) (w := w_2) hM hR hp5 hok hs4 hz hZ (hp := 2) hx f_2)) (by decide) ?_
      rintro _ _ ⟨rfl, m_3, w_3, rfl, f_3⟩
      show aWP _ _ (14, [some (.ref 84), some (.int (nI s)), some (.int (nI p)), some (.int x), some (.int (((0 : Int32) ||| ((0 : Int32) <<< ((0 : Int32) &&& 31))) ||| ((0 : Int32) <<< ((1 : Int32) &&& 31)))), some (.int 2)], [.int (foL (twR mi c0 c1 c2) x.toNatClampNeg 2 (fun j => mi 100 (40 * s + j)) Z 0 (puR mi p)), .int (((0 : Int32) ||| ((0 : Int32) <<< ((0 : Int32) &&& 31))) ||| ((0 : Int32) <<< ((1 : Int32) &&& 31)))], (HD, m_3, w_3, mr)) _
      refine wp_steps 1 (t' := (15, [some (.ref 84), some (.int (nI s)), some (.int (nI p)), some (.int x), some (.int (((0 : Int32) ||| ((0 : Int32) <<< ((0 : Int32) &&& 31))) ||| ((0 : Int32) <<< ((1 : Int32) &&& 31)))), some (.int 2)], [.int (-1), .int (foL (twR mi c0 c1 c2) x.toNatClampNeg 2 (fun j => mi 100 (40 * s + j)) Z 0 (puR mi p)), .int (((0 : Int32) ||| ((0 : Int32) <<< ((0 : Int32) &&& 31))) ||| ((0 : Int32) <<< ((1 : Int32) &&& 31)))], (HD, m_3, w_3, mr))) rfl ?_
      refine wp_bC rfl (fun c_6 => ?_) (fun c_6 => ?_)
      · have c_6 : ¬ (foL (twR mi c0 c1 c2) x.toNatClampNeg 2 (fun j => mi 100 (40 * s + j)) Z 0 (puR mi p)) = (-1) := of_decide_eq_true c_6
        refine wp_steps 2 (t' := (20, [some (.ref 84), some (.int (nI s)), some (.int (nI p)), some (.int x), some (.int (((0 : Int32) ||| ((0 : Int32) <<< ((0 : Int32) &&& 31))) ||| ((0 : Int32) <<< ((1 : Int32) &&& 31)))), some (.int 2)], [.int 2, .int 0, .int (((0 : Int32) ||| ((0 : Int32) <<< ((0 : Int32) &&& 31))) ||| ((0 : Int32) <<< ((1 : Int32) &&& 31)))], (HD, m_3, w_3, mr))) rfl ?_
        refine wp_steps 7 (t' := (6, [some (.ref 84), some (.int (nI s)), some (.int (nI p)), some (.int x), some (.int ((((0 : Int32) ||| ((0 : Int32) <<< ((0 : Int32) &&& 31))) ||| ((0 : Int32) <<< ((1 : Int32) &&& 31))) ||| ((0 : Int32) <<< ((2 : Int32) &&& 31)))), some (.int 3)], [.int 3, .int 3], (HD, m_3, w_3, mr))) rfl ?_
        refine wp_bC rfl (fun c_7 => ?_) (fun c_7 => ?_)
        rotate_left
        · have c_7 : ¬ (3 ≤ (3 : Int32)) := of_decide_eq_false c_7
          exact absurd c_7 (by decide)
        have c_7 : 3 ≤ (3 : Int32) := of_decide_eq_true c_7
        refine wp_steps 1 (t' := (26, [some (.ref 84), some (.int (nI s)), some (.int (nI p)), some (.int x), some (.int ((((0 : Int32) ||| ((0 : Int32) <<< ((0 : Int32) &&& 31))) ||| ((0 : Int32) <<< ((1 : Int32) &&& 31))) ||| ((0 : Int32) <<< ((2 : Int32) &&& 31)))), some (.int 3)], [.int ((((0 : Int32) ||| ((0 : Int32) <<< ((0 : Int32) &&& 31))) ||| ((0 : Int32) <<< ((1 : Int32) &&& 31))) ||| ((0 : Int32) <<< ((2 : Int32) &&& 31)))], (HD, m_3, w_3, mr))) rfl ?_
        refine wp_ret rfl rfl ⟨⟨Nat.le_refl _, Nat.le_refl _⟩, ?_⟩
        exact ⟨by unfold hbG; rw [if_neg c_2, if_neg c_4, if_neg c_6], m_3, w_3, rfl, f_3⟩
      · have c_6 : (foL (twR mi c0 c1 c2) x.toNatClampNeg 2 (fun j => mi 100 (40 * s + j)) Z 0 (puR mi p)) = (-1) := Decidable.not_not.mp (of_decide_eq_false c_6)
        refine wp_steps 3 (t' := (20, [some (.ref 84), some (.int (nI s)), some (.int (nI p)), some (.int x), some (.int (((0 : Int32) ||| ((0 : Int32) <<< ((0 : Int32) &&& 31))) ||| ((0 : Int32) <<< ((1 : Int32) &&& 31)))), some (.int 2)], [.int 2, .int 1, .int (((0 : Int32) ||| ((0 : Int32) <<< ((0 : Int32) &&& 31))) ||| ((0 : Int32) <<< ((1 : Int32) &&& 31)))], (HD, m_3, w_3, mr))) rfl ?_
        refine wp_steps 7 (t' := (6, [some (.ref 84), some (.int (nI s)), some (.int (nI p)), some (.int x), some (.int ((((0 : Int32) ||| ((0 : Int32) <<< ((0 : Int32) &&& 31))) ||| ((0 : Int32) <<< ((1 : Int32) &&& 31))) ||| ((1 : Int32) <<< ((2 : Int32) &&& 31)))), some (.int 3)], [.int 3, .int 3], (HD, m_3, w_3, mr))) rfl ?_
        refine wp_bC rfl (fun c_8 => ?_) (fun c_8 => ?_)
        rotate_left
        · have c_8 : ¬ (3 ≤ (3 : Int32)) := of_decide_eq_false c_8
          exact absurd c_8 (by decide)
        have c_8 : 3 ≤ (3 : Int32) := of_decide_eq_true c_8
        refine wp_steps 1 (t' := (26, [some (.ref 84), some (.int (nI s)), some (.int (nI p)), some (.int x), some (.int ((((0 : Int32) ||| ((0 : Int32) <<< ((0 : Int32) &&& 31))) ||| ((0 : Int32) <<< ((1 : Int32) &&& 31))) ||| ((1 : Int32) <<< ((2 : Int32) &&& 31)))), some (.int 3)], [.int ((((0 : Int32) ||| ((0 : Int32) <<< ((0 : Int32) &&& 31))) ||| ((0 : Int32) <<< ((1 : Int32) &&& 31))) ||| ((1 : Int32) <<< ((2 : Int32) &&& 31)))], (HD, m_3, w_3, mr))) rfl ?_
        refine wp_ret rfl rfl ⟨⟨Nat.le_refl _, Nat.le_refl _⟩, ?_⟩
        exact ⟨by unfold hbG; rw [if_neg c_2, if_neg c_4, if_pos c_6], m_3, w_3, rfl, f_3⟩
    · have c_4 : (foL (twR mi c0 c1 c2) x.toNatClampNeg 1 (fun j => mi 100 (40 * s + j)) Z 0 (puR mi p)) = (-1) := Decidable.not_not.mp (of_decide_eq_false c_4)
      refine wp_steps 3 (t' := (20, [some (.ref 84), some (.int (nI s)), some (.int (nI p)), some (.int x), some (.int ((0 : Int32) ||| ((0 : Int32) <<< ((0 : Int32) &&& 31)))), some (.int 1)], [.int 1, .int 1, .int ((0 : Int32) ||| ((0 : Int32) <<< ((0 : Int32) &&& 31)))], (HD, m_2, w_2, mr))) rfl ?_
      refine wp_steps 7 (t' := (6, [some (.ref 84), some (.int (nI s)), some (.int (nI p)), some (.int x), some (.int (((0 : Int32) ||| ((0 : Int32) <<< ((0 : Int32) &&& 31))) ||| ((1 : Int32) <<< ((1 : Int32) &&& 31)))), some (.int 2)], [.int 3, .int 2], (HD, m_2, w_2, mr))) rfl ?_
      refine wp_bC rfl (fun c_9 => ?_) (fun c_9 => ?_)
      · have c_9 : 3 ≤ (2 : Int32) := of_decide_eq_true c_9
        exact absurd c_9 (by decide)
      have c_9 : ¬ (3 ≤ (2 : Int32)) := of_decide_eq_false c_9
      refine wp_steps 6 (t' := (13, [some (.ref 84), some (.int (nI s)), some (.int (nI p)), some (.int x), some (.int (((0 : Int32) ||| ((0 : Int32) <<< ((0 : Int32) &&& 31))) ||| ((1 : Int32) <<< ((1 : Int32) &&& 31)))), some (.int 2)], [.int 2, .int x, .int (nI p), .int (nI s), .ref 84, .int (((0 : Int32) ||| ((0 : Int32) <<< ((0 : Int32) &&& 31))) ||| ((1 : Int32) <<< ((1 : Int32) &&& 31)))], (HD, m_2, w_2, mr))) rfl ?_
      refine wp_calv (as := [.int (nI s), .int (nI p), .int x, .int 2]) rfl rfl rfl (Nat.le_of_ble_eq_true rfl) ⟨by decide, rfl⟩ ((r_first_q (X := X) (m := m_2) (w := w_2) hM hR hp5 hok hs4 hz hZ (hp := 2) hx f_2)) (by decide) ?_
      rintro _ _ ⟨rfl, m_3, w_3, rfl, f_3⟩
      show aWP _ _ (14, [some (.ref 84), some (.int (nI s)), some (.int (nI p)), some (.int x), some (.int (((0 : Int32) ||| ((0 : Int32) <<< ((0 : Int32) &&& 31))) ||| ((1 : Int32) <<< ((1 : Int32) &&& 31)))), some (.int 2)], [.int (foL (twR mi c0 c1 c2) x.toNatClampNeg 2 (fun j => mi 100 (40 * s + j)) Z 0 (puR mi p)), .int (((0 : Int32) ||| ((0 : Int32) <<< ((0 : Int32) &&& 31))) ||| ((1 : Int32) <<< ((1 : Int32) &&& 31)))], (HD, m_3, w_3, mr)) _
      refine wp_steps 1 (t' := (15, [some (.ref 84), some (.int (nI s)), some (.int (nI p)), some (.int x), some (.int (((0 : Int32) ||| ((0 : Int32) <<< ((0 : Int32) &&& 31))) ||| ((1 : Int32) <<< ((1 : Int32) &&& 31)))), some (.int 2)], [.int (-1), .int (foL (twR mi c0 c1 c2) x.toNatClampNeg 2 (fun j => mi 100 (40 * s + j)) Z 0 (puR mi p)), .int (((0 : Int32) ||| ((0 : Int32) <<< ((0 : Int32) &&& 31))) ||| ((1 : Int32) <<< ((1 : Int32) &&& 31)))], (HD, m_3, w_3, mr))) rfl ?_
      refine wp_bC rfl (fun c_10 => ?_) (fun c_10 => ?_)
      · have c_10 : ¬ (foL (twR mi c0 c1 c2) x.toNatClampNeg 2 (fun j => mi 100 (40 * s + j)) Z 0 (puR mi p)) = (-1) := of_decide_eq_true c_10
        refine wp_steps 2 (t' := (20, [some (.ref 84), some (.int (nI s)), some (.int (nI p)), some (.int x), some (.int (((0 : Int32) ||| ((0 : Int32) <<< ((0 : Int32) &&& 31))) ||| ((1 : Int32) <<< ((1 : Int32) &&& 31)))), some (.int 2)], [.int 2, .int 0, .int (((0 : Int32) ||| ((0 : Int32) <<< ((0 : Int32) &&& 31))) ||| ((1 : Int32) <<< ((1 : Int32) &&& 31)))], (HD, m_3, w_3, mr))) rfl ?_
        refine wp_steps 7 (t' := (6, [some (.ref 84), some (.int (nI s)), some (.int (nI p)), some (.int x), some (.int ((((0 : Int32) ||| ((0 : Int32) <<< ((0 : Int32) &&& 31))) ||| ((1 : Int32) <<< ((1 : Int32) &&& 31))) ||| ((0 : Int32) <<< ((2 : Int32) &&& 31)))), some (.int 3)], [.int 3, .int 3], (HD, m_3, w_3, mr))) rfl ?_
        refine wp_bC rfl (fun c_11 => ?_) (fun c_11 => ?_)
        rotate_left
        · have c_11 : ¬ (3 ≤ (3 : Int32)) := of_decide_eq_false c_11
          exact absurd c_11 (by decide)
        have c_11 : 3 ≤ (3 : Int32) := of_decide_eq_true c_11
        refine wp_steps 1 (t' := (26, [some (.ref 84), some (.int (nI s)), some (.int (nI p)), some (.int x), some (.int ((((0 : Int32) ||| ((0 : Int32) <<< ((0 : Int32) &&& 31))) ||| ((1 : Int32) <<< ((1 : Int32) &&& 31))) ||| ((0 : Int32) <<< ((2 : Int32) &&& 31)))), some (.int 3)], [.int ((((0 : Int32) ||| ((0 : Int32) <<< ((0 : Int32) &&& 31))) ||| ((1 : Int32) <<< ((1 : Int32) &&& 31))) ||| ((0 : Int32) <<< ((2 : Int32) &&& 31)))], (HD, m_3, w_3, mr))) rfl ?_
        refine wp_ret rfl rfl ⟨⟨Nat.le_refl _, Nat.le_refl _⟩, ?_⟩
        exact ⟨by unfold hbG; rw [if_neg c_2, if_pos c_4, if_neg c_10], m_3, w_3, rfl, f_3⟩
      · have c_10 : (foL (twR mi c0 c1 c2) x.toNatClampNeg 2 (fun j => mi 100 (40 * s + j)) Z 0 (puR mi p)) = (-1) := Decidable.not_not.mp (of_decide_eq_false c_10)
        refine wp_steps 3 (t' := (20, [some (.ref 84), some (.int (nI s)), some (.int (nI p)), some (.int x), some (.int (((0 : Int32) ||| ((0 : Int32) <<< ((0 : Int32) &&& 31))) ||| ((1 : Int32) <<< ((1 : Int32) &&& 31)))), some (.int 2)], [.int 2, .int 1, .int (((0 : Int32) ||| ((0 : Int32) <<< ((0 : Int32) &&& 31))) ||| ((1 : Int32) <<< ((1 : Int32) &&& 31)))], (HD, m_3, w_3, mr))) rfl ?_
        refine wp_steps 7 (t' := (6, [some (.ref 84), some (.int (nI s)), some (.int (nI p)), some (.int x), some (.int ((((0 : Int32) ||| ((0 : Int32) <<< ((0 : Int32) &&& 31))) ||| ((1 : Int32) <<< ((1 : Int32) &&& 31))) ||| ((1 : Int32) <<< ((2 : Int32) &&& 31)))), some (.int 3)], [.int 3, .int 3], (HD, m_3, w_3, mr))) rfl ?_
        refine wp_bC rfl (fun c_12 => ?_) (fun c_12 => ?_)
        rotate_left
        · have c_12 : ¬ (3 ≤ (3 : Int32)) := of_decide_eq_false c_12
          exact absurd c_12 (by decide)
        have c_12 : 3 ≤ (3 : Int32) := of_decide_eq_true c_12
        refine wp_steps 1 (t' := (26, [some (.ref 84), some (.int (nI s)), some (.int (nI p)), some (.int x), some (.int ((((0 : Int32) ||| ((0 : Int32) <<< ((0 : Int32) &&& 31))) ||| ((1 : Int32) <<< ((1 : Int32) &&& 31))) ||| ((1 : Int32) <<< ((2 : Int32) &&& 31)))), some (.int 3)], [.int ((((0 : Int32) ||| ((0 : Int32) <<< ((0 : Int32) &&& 31))) ||| ((1 : Int32) <<< ((1 : Int32) &&& 31))) ||| ((1 : Int32) <<< ((2 : Int32) &&& 31)))], (HD, m_3, w_3, mr))) rfl ?_
        refine wp_ret rfl rfl ⟨⟨Nat.le_refl _, Nat.le_refl _⟩, ?_⟩
        exact ⟨by unfold hbG; rw [if_neg c_2, if_pos c_4, if_pos c_10], m_3, w_3, rfl, f_3⟩
  · have c_2 : (foL (twR mi c0 c1 c2) x.toNatClampNeg 0 (fun j => mi 100 (40 * s + j)) Z 0 (puR mi p)) = (-1) := Decidable.not_not.mp (of_decide_eq_false c_2)
    refine wp_steps 3 (t' := (20, [some (.ref 84), some (.int (nI s)), some (.int (nI p)), some (.int x), some (.int 0), some (.int 0)], [.int 0, .int 1, .int 0], (HD, m_1, w_1, mr))) rfl ?_
    refine wp_steps 7 (t' := (6, [some (.ref 84), some (.int (nI s)), some (.int (nI p)), some (.int x), some (.int ((0 : Int32) ||| ((1 : Int32) <<< ((0 : Int32) &&& 31)))), some (.int 1)], [.int 3, .int 1], (HD, m_1, w_1, mr))) rfl ?_
    refine wp_bC rfl (fun c_13 => ?_) (fun c_13 => ?_)
    · have c_13 : 3 ≤ (1 : Int32) := of_decide_eq_true c_13
      exact absurd c_13 (by decide)
    have c_13 : ¬ (3 ≤ (1 : Int32)) := of_decide_eq_false c_13
    refine wp_steps 6 (t' := (13, [some (.ref 84), some (.int (nI s)), some (.int (nI p)), some (.int x), some (.int ((0 : Int32) ||| ((1 : Int32) <<< ((0 : Int32) &&& 31)))), some (.int 1)], [.int 1, .int x, .int (nI p), .int (nI s), .ref 84, .int ((0 : Int32) ||| ((1 : Int32) <<< ((0 : Int32) &&& 31)))], (HD, m_1, w_1, mr))) rfl ?_
    refine wp_calv (as := [.int (nI s), .int (nI p), .int x, .int 1]) rfl rfl rfl (Nat.le_of_ble_eq_true rfl) ⟨by decide, rfl⟩ ((r_first_q (X := X) (m := m_1) (w := w_1) hM hR hp5 hok hs4 hz hZ (hp := 1) hx f_1)) (by decide) ?_
    rintro _ _ ⟨rfl, m_2, w_2, rfl, f_2⟩
    show aWP _ _ (14, [some (.ref 84), some (.int (nI s)), some (.int (nI p)), some (.int x), some (.int ((0 : Int32) ||| ((1 : Int32) <<< ((0 : Int32) &&& 31)))), some (.int 1)], [.int (foL (twR mi c0 c1 c2) x.toNatClampNeg 1 (fun j => mi 100 (40 * s + j)) Z 0 (puR mi p)), .int ((0 : Int32) ||| ((1 : Int32) <<< ((0 : Int32) &&& 31)))], (HD, m_2, w_2, mr)) _
    refine wp_steps 1 (t' := (15, [some (.ref 84), some (.int (nI s)), some (.int (nI p)), some (.int x), some (.int ((0 : Int32) ||| ((1 : Int32) <<< ((0 : Int32) &&& 31)))), some (.int 1)], [.int (-1), .int (foL (twR mi c0 c1 c2) x.toNatClampNeg 1 (fun j => mi 100 (40 * s + j)) Z 0 (puR mi p)), .int ((0 : Int32) ||| ((1 : Int32) <<< ((0 : Int32) &&& 31)))], (HD, m_2, w_2, mr))) rfl ?_
    refine wp_bC rfl (fun c_14 => ?_) (fun c_14 => ?_)
    · have c_14 : ¬ (foL (twR mi c0 c1 c2) x.toNatClampNeg 1 (fun j => mi 100 (40 * s + j)) Z 0 (puR mi p)) = (-1) := of_decide_eq_true c_14
      refine wp_steps 2 (t' := (20, [some (.ref 84), some (.int (nI s)), some (.int (nI p)), some (.int x), some (.int ((0 : Int32) ||| ((1 : Int32) <<< ((0 : Int32) &&& 31)))), some (.int 1)], [.int 1, .int 0, .int ((0 : Int32) ||| ((1 : Int32) <<< ((0 : Int32) &&& 31)))], (HD, m_2, w_2, mr))) rfl ?_
      refine wp_steps 7 (t' := (6, [some (.ref 84), some (.int (nI s)), some (.int (nI p)), some (.int x), some (.int (((0 : Int32) ||| ((1 : Int32) <<< ((0 : Int32) &&& 31))) ||| ((0 : Int32) <<< ((1 : Int32) &&& 31)))), some (.int 2)], [.int 3, .int 2], (HD, m_2, w_2, mr))) rfl ?_
      refine wp_bC rfl (fun c_15 => ?_) (fun c_15 => ?_)
      · have c_15 : 3 ≤ (2 : Int32) := of_decide_eq_true c_15
        exact absurd c_15 (by decide)
      have c_15 : ¬ (3 ≤ (2 : Int32)) := of_decide_eq_false c_15
      refine wp_steps 6 (t' := (13, [some (.ref 84), some (.int (nI s)), some (.int (nI p)), some (.int x), some (.int (((0 : Int32) ||| ((1 : Int32) <<< ((0 : Int32) &&& 31))) ||| ((0 : Int32) <<< ((1 : Int32) &&& 31)))), some (.int 2)], [.int 2, .int x, .int (nI p), .int (nI s), .ref 84, .int (((0 : Int32) ||| ((1 : Int32) <<< ((0 : Int32) &&& 31))) ||| ((0 : Int32) <<< ((1 : Int32) &&& 31)))], (HD, m_2, w_2, mr))) rfl ?_
      refine wp_calv (as := [.int (nI s), .int (nI p), .int x, .int 2]) rfl rfl rfl (Nat.le_of_ble_eq_true rfl) ⟨by decide, rfl⟩ ((r_first_q (X := X) (m := m_2) (w := w_2) hM hR hp5 hok hs4 hz hZ (hp := 2) hx f_2)) (by decide) ?_
      rintro _ _ ⟨rfl, m_3, w_3, rfl, f_3⟩
      show aWP _ _ (14, [some (.ref 84), some (.int (nI s)), some (.int (nI p)), some (.int x), some (.int (((0 : Int32) ||| ((1 : Int32) <<< ((0 : Int32) &&& 31))) ||| ((0 : Int32) <<< ((1 : Int32) &&& 31)))), some (.int 2)], [.int (foL (twR mi c0 c1 c2) x.toNatClampNeg 2 (fun j => mi 100 (40 * s + j)) Z 0 (puR mi p)), .int (((0 : Int32) ||| ((1 : Int32) <<< ((0 : Int32) &&& 31))) ||| ((0 : Int32) <<< ((1 : Int32) &&& 31)))], (HD, m_3, w_3, mr)) _
      refine wp_steps 1 (t' := (15, [some (.ref 84), some (.int (nI s)), some (.int (nI p)), some (.int x), some (.int (((0 : Int32) ||| ((1 : Int32) <<< ((0 : Int32) &&& 31))) ||| ((0 : Int32) <<< ((1 : Int32) &&& 31)))), some (.int 2)], [.int (-1), .int (foL (twR mi c0 c1 c2) x.toNatClampNeg 2 (fun j => mi 100 (40 * s + j)) Z 0 (puR mi p)), .int (((0 : Int32) ||| ((1 : Int32) <<< ((0 : Int32) &&& 31))) ||| ((0 : Int32) <<< ((1 : Int32) &&& 31)))], (HD, m_3, w_3, mr))) rfl ?_
      refine wp_bC rfl (fun c_16 => ?_) (fun c_16 => ?_)
      · have c_16 : ¬ (foL (twR mi c0 c1 c2) x.toNatClampNeg 2 (fun j => mi 100 (40 * s + j)) Z 0 (puR mi p)) = (-1) := of_decide_eq_true c_16
        refine wp_steps 2 (t' := (20, [some (.ref 84), some (.int (nI s)), some (.int (nI p)), some (.int x), some (.int (((0 : Int32) ||| ((1 : Int32) <<< ((0 : Int32) &&& 31))) ||| ((0 : Int32) <<< ((1 : Int32) &&& 31)))), some (.int 2)], [.int 2, .int 0, .int (((0 : Int32) ||| ((1 : Int32) <<< ((0 : Int32) &&& 31))) ||| ((0 : Int32) <<< ((1 : Int32) &&& 31)))], (HD, m_3, w_3, mr))) rfl ?_
        refine wp_steps 7 (t' := (6, [some (.ref 84), some (.int (nI s)), some (.int (nI p)), some (.int x), some (.int ((((0 : Int32) ||| ((1 : Int32) <<< ((0 : Int32) &&& 31))) ||| ((0 : Int32) <<< ((1 : Int32) &&& 31))) ||| ((0 : Int32) <<< ((2 : Int32) &&& 31)))), some (.int 3)], [.int 3, .int 3], (HD, m_3, w_3, mr))) rfl ?_
        refine wp_bC rfl (fun c_17 => ?_) (fun c_17 => ?_)
        rotate_left
        · have c_17 : ¬ (3 ≤ (3 : Int32)) := of_decide_eq_false c_17
          exact absurd c_17 (by decide)
        have c_17 : 3 ≤ (3 : Int32) := of_decide_eq_true c_17
        refine wp_steps 1 (t' := (26, [some (.ref 84), some (.int (nI s)), some (.int (nI p)), some (.int x), some (.int ((((0 : Int32) ||| ((1 : Int32) <<< ((0 : Int32) &&& 31))) ||| ((0 : Int32) <<< ((1 : Int32) &&& 31))) ||| ((0 : Int32) <<< ((2 : Int32) &&& 31)))), some (.int 3)], [.int ((((0 : Int32) ||| ((1 : Int32) <<< ((0 : Int32) &&& 31))) ||| ((0 : Int32) <<< ((1 : Int32) &&& 31))) ||| ((0 : Int32) <<< ((2 : Int32) &&& 31)))], (HD, m_3, w_3, mr))) rfl ?_
        refine wp_ret rfl rfl ⟨⟨Nat.le_refl _, Nat.le_refl _⟩, ?_⟩
        exact ⟨by unfold hbG; rw [if_pos c_2, if_neg c_14, if_neg c_16], m_3, w_3, rfl, f_3⟩
      · have c_16 : (foL (twR mi c0 c1 c2) x.toNatClampNeg 2 (fun j => mi 100 (40 * s + j)) Z 0 (puR mi p)) = (-1) := Decidable.not_not.mp (of_decide_eq_false c_16)
        refine wp_steps 3 (t' := (20, [some (.ref 84), some (.int (nI s)), some (.int (nI p)), some (.int x), some (.int (((0 : Int32) ||| ((1 : Int32) <<< ((0 : Int32) &&& 31))) ||| ((0 : Int32) <<< ((1 : Int32) &&& 31)))), some (.int 2)], [.int 2, .int 1, .int (((0 : Int32) ||| ((1 : Int32) <<< ((0 : Int32) &&& 31))) ||| ((0 : Int32) <<< ((1 : Int32) &&& 31)))], (HD, m_3, w_3, mr))) rfl ?_
        refine wp_steps 7 (t' := (6, [some (.ref 84), some (.int (nI s)), some (.int (nI p)), some (.int x), some (.int ((((0 : Int32) ||| ((1 : Int32) <<< ((0 : Int32) &&& 31))) ||| ((0 : Int32) <<< ((1 : Int32) &&& 31))) ||| ((1 : Int32) <<< ((2 : Int32) &&& 31)))), some (.int 3)], [.int 3, .int 3], (HD, m_3, w_3, mr))) rfl ?_
        refine wp_bC rfl (fun c_18 => ?_) (fun c_18 => ?_)
        rotate_left
        · have c_18 : ¬ (3 ≤ (3 : Int32)) := of_decide_eq_false c_18
          exact absurd c_18 (by decide)
        have c_18 : 3 ≤ (3 : Int32) := of_decide_eq_true c_18
        refine wp_steps 1 (t' := (26, [some (.ref 84), some (.int (nI s)), some (.int (nI p)), some (.int x), some (.int ((((0 : Int32) ||| ((1 : Int32) <<< ((0 : Int32) &&& 31))) ||| ((0 : Int32) <<< ((1 : Int32) &&& 31))) ||| ((1 : Int32) <<< ((2 : Int32) &&& 31)))), some (.int 3)], [.int ((((0 : Int32) ||| ((1 : Int32) <<< ((0 : Int32) &&& 31))) ||| ((0 : Int32) <<< ((1 : Int32) &&& 31))) ||| ((1 : Int32) <<< ((2 : Int32) &&& 31)))], (HD, m_3, w_3, mr))) rfl ?_
        refine wp_ret rfl rfl ⟨⟨Nat.le_refl _, Nat.le_refl _⟩, ?_⟩
        exact ⟨by unfold hbG; rw [if_pos c_2, if_neg c_14, if_pos c_16], m_3, w_3, rfl, f_3⟩
    · have c_14 : (foL (twR mi c0 c1 c2) x.toNatClampNeg 1 (fun j => mi 100 (40 * s + j)) Z 0 (puR mi p)) = (-1) := Decidable.not_not.mp (of_decide_eq_false c_14)
      refine wp_steps 3 (t' := (20, [some (.ref 84), some (.int (nI s)), some (.int (nI p)), some (.int x), some (.int ((0 : Int32) ||| ((1 : Int32) <<< ((0 : Int32) &&& 31)))), some (.int 1)], [.int 1, .int 1, .int ((0 : Int32) ||| ((1 : Int32) <<< ((0 : Int32) &&& 31)))], (HD, m_2, w_2, mr))) rfl ?_
      refine wp_steps 7 (t' := (6, [some (.ref 84), some (.int (nI s)), some (.int (nI p)), some (.int x), some (.int (((0 : Int32) ||| ((1 : Int32) <<< ((0 : Int32) &&& 31))) ||| ((1 : Int32) <<< ((1 : Int32) &&& 31)))), some (.int 2)], [.int 3, .int 2], (HD, m_2, w_2, mr))) rfl ?_
      refine wp_bC rfl (fun c_19 => ?_) (fun c_19 => ?_)
      · have c_19 : 3 ≤ (2 : Int32) := of_decide_eq_true c_19
        exact absurd c_19 (by decide)
      have c_19 : ¬ (3 ≤ (2 : Int32)) := of_decide_eq_false c_19
      refine wp_steps 6 (t' := (13, [some (.ref 84), some (.int (nI s)), some (.int (nI p)), some (.int x), some (.int (((0 : Int32) ||| ((1 : Int32) <<< ((0 : Int32) &&& 31))) ||| ((1 : Int32) <<< ((1 : Int32) &&& 31)))), some (.int 2)], [.int 2, .int x, .int (nI p), .int (nI s), .ref 84, .int (((0 : Int32) ||| ((1 : Int32) <<< ((0 : Int32) &&& 31))) ||| ((1 : Int32) <<< ((1 : Int32) &&& 31)))], (HD, m_2, w_2, mr))) rfl ?_
      refine wp_calv (as := [.int (nI s), .int (nI p), .int x, .int 2]) rfl rfl rfl (Nat.le_of_ble_eq_true rfl) ⟨by decide, rfl⟩ ((r_first_q (X := X) (m := m_2) (w := w_2) hM hR hp5 hok hs4 hz hZ (hp := 2) hx f_2)) (by decide) ?_
      rintro _ _ ⟨rfl, m_3, w_3, rfl, f_3⟩
      show aWP _ _ (14, [some (.ref 84), some (.int (nI s)), some (.int (nI p)), some (.int x), some (.int (((0 : Int32) ||| ((1 : Int32) <<< ((0 : Int32) &&& 31))) ||| ((1 : Int32) <<< ((1 : Int32) &&& 31)))), some (.int 2)], [.int (foL (twR mi c0 c1 c2) x.toNatClampNeg 2 (fun j => mi 100 (40 * s + j)) Z 0 (puR mi p)), .int (((0 : Int32) ||| ((1 : Int32) <<< ((0 : Int32) &&& 31))) ||| ((1 : Int32) <<< ((1 : Int32) &&& 31)))], (HD, m_3, w_3, mr)) _
      refine wp_steps 1 (t' := (15, [some (.ref 84), some (.int (nI s)), some (.int (nI p)), some (.int x), some (.int (((0 : Int32) ||| ((1 : Int32) <<< ((0 : Int32) &&& 31))) ||| ((1 : Int32) <<< ((1 : Int32) &&& 31)))), some (.int 2)], [.int (-1), .int (foL (twR mi c0 c1 c2) x.toNatClampNeg 2 (fun j => mi 100 (40 * s + j)) Z 0 (puR mi p)), .int (((0 : Int32) ||| ((1 : Int32) <<< ((0 : Int32) &&& 31))) ||| ((1 : Int32) <<< ((1 : Int32) &&& 31)))], (HD, m_3, w_3, mr))) rfl ?_
      refine wp_bC rfl (fun c_20 => ?_) (fun c_20 => ?_)
      · have c_20 : ¬ (foL (twR mi c0 c1 c2) x.toNatClampNeg 2 (fun j => mi 100 (40 * s + j)) Z 0 (puR mi p)) = (-1) := of_decide_eq_true c_20
        refine wp_steps 2 (t' := (20, [some (.ref 84), some (.int (nI s)), some (.int (nI p)), some (.int x), some (.int (((0 : Int32) ||| ((1 : Int32) <<< ((0 : Int32) &&& 31))) ||| ((1 : Int32) <<< ((1 : Int32) &&& 31)))), some (.int 2)], [.int 2, .int 0, .int (((0 : Int32) ||| ((1 : Int32) <<< ((0 : Int32) &&& 31))) ||| ((1 : Int32) <<< ((1 : Int32) &&& 31)))], (HD, m_3, w_3, mr))) rfl ?_
        refine wp_steps 7 (t' := (6, [some (.ref 84), some (.int (nI s)), some (.int (nI p)), some (.int x), some (.int ((((0 : Int32) ||| ((1 : Int32) <<< ((0 : Int32) &&& 31))) ||| ((1 : Int32) <<< ((1 : Int32) &&& 31))) ||| ((0 : Int32) <<< ((2 : Int32) &&& 31)))), some (.int 3)], [.int 3, .int 3], (HD, m_3, w_3, mr))) rfl ?_
        refine wp_bC rfl (fun c_21 => ?_) (fun c_21 => ?_)
        rotate_left
        · have c_21 : ¬ (3 ≤ (3 : Int32)) := of_decide_eq_false c_21
          exact absurd c_21 (by decide)
        have c_21 : 3 ≤ (3 : Int32) := of_decide_eq_true c_21
        refine wp_steps 1 (t' := (26, [some (.ref 84), some (.int (nI s)), some (.int (nI p)), some (.int x), some (.int ((((0 : Int32) ||| ((1 : Int32) <<< ((0 : Int32) &&& 31))) ||| ((1 : Int32) <<< ((1 : Int32) &&& 31))) ||| ((0 : Int32) <<< ((2 : Int32) &&& 31)))), some (.int 3)], [.int ((((0 : Int32) ||| ((1 : Int32) <<< ((0 : Int32) &&& 31))) ||| ((1 : Int32) <<< ((1 : Int32) &&& 31))) ||| ((0 : Int32) <<< ((2 : Int32) &&& 31)))], (HD, m_3, w_3, mr))) rfl ?_
        refine wp_ret rfl rfl ⟨⟨Nat.le_refl _, Nat.le_refl _⟩, ?_⟩
        exact ⟨by unfold hbG; rw [if_pos c_2, if_pos c_14, if_neg c_20], m_3, w_3, rfl, f_3⟩
      · have c_20 : (foL (twR mi c0 c1 c2) x.toNatClampNeg 2 (fun j => mi 100 (40 * s + j)) Z 0 (puR mi p)) = (-1) := Decidable.not_not.mp (of_decide_eq_false c_20)
        refine wp_steps 3 (t' := (20, [some (.ref 84), some (.int (nI s)), some (.int (nI p)), some (.int x), some (.int (((0 : Int32) ||| ((1 : Int32) <<< ((0 : Int32) &&& 31))) ||| ((1 : Int32) <<< ((1 : Int32) &&& 31)))), some (.int 2)], [.int 2, .int 1, .int (((0 : Int32) ||| ((1 : Int32) <<< ((0 : Int32) &&& 31))) ||| ((1 : Int32) <<< ((1 : Int32) &&& 31)))], (HD, m_3, w_3, mr))) rfl ?_
        refine wp_steps 7 (t' := (6, [some (.ref 84), some (.int (nI s)), some (.int (nI p)), some (.int x), some (.int ((((0 : Int32) ||| ((1 : Int32) <<< ((0 : Int32) &&& 31))) ||| ((1 : Int32) <<< ((1 : Int32) &&& 31))) ||| ((1 : Int32) <<< ((2 : Int32) &&& 31)))), some (.int 3)], [.int 3, .int 3], (HD, m_3, w_3, mr))) rfl ?_
        refine wp_bC rfl (fun c_22 => ?_) (fun c_22 => ?_)
        rotate_left
        · have c_22 : ¬ (3 ≤ (3 : Int32)) := of_decide_eq_false c_22
          exact absurd c_22 (by decide)
        have c_22 : 3 ≤ (3 : Int32) := of_decide_eq_true c_22
        refine wp_steps 1 (t' := (26, [some (.ref 84), some (.int (nI s)), some (.int (nI p)), some (.int x), some (.int ((((0 : Int32) ||| ((1 : Int32) <<< ((0 : Int32) &&& 31))) ||| ((1 : Int32) <<< ((1 : Int32) &&& 31))) ||| ((1 : Int32) <<< ((2 : Int32) &&& 31)))), some (.int 3)], [.int ((((0 : Int32) ||| ((1 : Int32) <<< ((0 : Int32) &&& 31))) ||| ((1 : Int32) <<< ((1 : Int32) &&& 31))) ||| ((1 : Int32) <<< ((2 : Int32) &&& 31)))], (HD, m_3, w_3, mr))) rfl ?_
        refine wp_ret rfl rfl ⟨⟨Nat.le_refl _, Nat.le_refl _⟩, ?_⟩
        exact ⟨by unfold hbG; rw [if_pos c_2, if_pos c_14, if_pos c_20], m_3, w_3, rfl, f_3⟩
