/-! the reference: who is there; asks, late, faded, gap, takes (written by wip/whole/mkrefC.py) -/
/-- an answer; nothing that shows is changed -/
def qR (mi : Nat → Nat → Int32) (mr : Nat → Nat → Option Nat) (v : Value) : Option Value → aM → Prop := fun r h' => r = some v ∧ ∃ m' w', h' = (HD, m', w', mr) ∧ frQ mi m'
theorem c_in_ax {X : aXt × Value} {mi : Nat → Nat → Int32} {ml : Nat → Nat → Int64} {mr : Nat → Nat → Option Nat} {x hi : Int32} {n : Nat} {h : Int64} (hb : n < 2 ^ 31) (hn : hi.toInt + 1 = (n : Int)) (hh : hi.toInt64 = h) : aCW X 1 111 [.long x.toInt64, .long 0, .long h] (HD, mi, ml, mr) (rdI mi ml mr (if aixn x n = true then 1 else 0)) := by
  have q := c_in (X := X) (mi := mi) (ml := ml) (mr := mr) (x := x) (lo := 0) (hi := hi) (l := 0) rfl (by decide) hh
  by_cases e : aixn x n = true
  · rw [if_pos e]; rw [if_pos ((inR_ax hb hn).mpr e)] at q; exact q
  · rw [if_neg e]; rw [if_neg (fun z => e ((inR_ax hb hn).mp z))] at q; exact q
theorem N1_t {N : Nat} (hN : N ≤ 5) : (nI N - 1).toInt = (N : Int) - 1 := by
  rw [sub_t (by rw [nI_toInt (by omega)]; omega) (by decide), nI_toInt (by omega)]
  rfl
theorem inN {x : Int32} {N : Nat} (hN : N ≤ 5) : inR 0 (nI N - 1) x ↔ aixn x N = true := by
  rw [aix_iff (by omega), rI, N1_t hN, i0, Int32.lt_iff_toInt_lt, Int32.le_iff_toInt_le, nI_toInt (by omega), i0]
  omega
set_option maxRecDepth 20000 in
set_option maxHeartbeats 1000000 in
theorem c_isOne_ok1 {X : aXt × Value} {mi : Nat → Nat → Int32} {ml : Nat → Nat → Int64} {mr : Nat → Nat → Option Nat} (hM : MRok mr) {N : Nat} (hN : mi 84 12 = nI N) (hN5 : N ≤ 5) {one : Int32} (hg : aixn one N = true) : aCW X 2 115 [.ref 84, .int one] (HD, mi, ml, mr) (rdI mi ml mr 1) := by
  refine cw_of (cd := cd_X7_isOne) (nL := 2) rfl rfl ?_
  show aWP _ _ (0, [some (.ref 84), some (.int one)], [], (HD, mi, ml, mr)) _
  refine wp_steps 4 (t' := (4, [some (.ref 84), some (.int one)], [.ref 84, .long 0, .long one.toInt64], (HD, mi, ml, mr))) rfl ?_
  refine wp_geti rfl ⟨by decide, rfl⟩ (Or.inl rfl) ?_
  refine wp_steps 1 (t' := (6, [some (.ref 84), some (.int one)], [.int 1, .int (mi 84 12), .long 0, .long one.toInt64], (HD, mi, ml, mr))) rfl ?_
  rw [hN]
  refine wp_steps 2 (t' := (8, [some (.ref 84), some (.int one)], [.long (((nI N) - 1).toInt64), .long 0, .long one.toInt64], (HD, mi, ml, mr))) rfl ?_
  refine wp_cal (as := [.long one.toInt64, .long 0, .long (((nI N) - 1).toInt64)]) rfl rfl rfl (Nat.le_of_ble_eq_true rfl) ((c_in (x := one) (lo := 0) (hi := nI N - 1) rfl (by decide) rfl)) (by decide) ?_
  rintro _ _ ⟨rfl, rfl⟩
  rw [if_pos ((inN hN5).mpr hg)]
  show aWP _ _ (9, [some (.ref 84), some (.int one)], [.int 1], (HD, mi, ml, mr)) _
  refine wp_ret rfl rfl ⟨⟨Nat.le_refl _, Nat.le_refl _⟩, ?_⟩
  exact ⟨rfl, rfl⟩
set_option maxRecDepth 20000 in
set_option maxHeartbeats 1000000 in
theorem c_isOne_no {X : aXt × Value} {mi : Nat → Nat → Int32} {ml : Nat → Nat → Int64} {mr : Nat → Nat → Option Nat} (hM : MRok mr) {N : Nat} (hN : mi 84 12 = nI N) (hN5 : N ≤ 5) {one : Int32} (hg : ¬ aixn one N = true) : aCW X 2 115 [.ref 84, .int one] (HD, mi, ml, mr) (rdI mi ml mr 0) := by
  refine cw_of (cd := cd_X7_isOne) (nL := 2) rfl rfl ?_
  show aWP _ _ (0, [some (.ref 84), some (.int one)], [], (HD, mi, ml, mr)) _
  refine wp_steps 4 (t' := (4, [some (.ref 84), some (.int one)], [.ref 84, .long 0, .long one.toInt64], (HD, mi, ml, mr))) rfl ?_
  refine wp_geti rfl ⟨by decide, rfl⟩ (Or.inl rfl) ?_
  refine wp_steps 1 (t' := (6, [some (.ref 84), some (.int one)], [.int 1, .int (mi 84 12), .long 0, .long one.toInt64], (HD, mi, ml, mr))) rfl ?_
  rw [hN]
  refine wp_steps 2 (t' := (8, [some (.ref 84), some (.int one)], [.long (((nI N) - 1).toInt64), .long 0, .long one.toInt64], (HD, mi, ml, mr))) rfl ?_
  refine wp_cal (as := [.long one.toInt64, .long 0, .long (((nI N) - 1).toInt64)]) rfl rfl rfl (Nat.le_of_ble_eq_true rfl) ((c_in (x := one) (lo := 0) (hi := nI N - 1) rfl (by decide) rfl)) (by decide) ?_
  rintro _ _ ⟨rfl, rfl⟩
  rw [if_neg (fun z => hg ((inN hN5).mp z))]
  show aWP _ _ (9, [some (.ref 84), some (.int one)], [.int 0], (HD, mi, ml, mr)) _
  refine wp_ret rfl rfl ⟨⟨Nat.le_refl _, Nat.le_refl _⟩, ?_⟩
  exact ⟨rfl, rfl⟩
theorem c_isOne_ok {X : aXt × Value} {mi : Nat → Nat → Int32} {ml : Nat → Nat → Int64} {mr : Nat → Nat → Option Nat} (hM : MRok mr) {N : Nat} (hN : mi 84 12 = nI N) (hN5 : N ≤ 5) {p : Nat} (hpN : p < N) : aCW X 2 115 [.ref 84, .int (nI p)] (HD, mi, ml, mr) (rdI mi ml mr 1) := c_isOne_ok1 hM hN hN5 (aix_nI hpN (by omega))
set_option maxRecDepth 20000 in
set_option maxHeartbeats 1000000 in
theorem c_risStreet {X : aXt × Value} {mi : Nat → Nat → Int32} {ml : Nat → Nat → Int64} {mr : Nat → Nat → Option Nat} {x : Int32} : aCW X 2 116 [.int x] (HD, mi, ml, mr) (rdI mi ml mr (if aixn x 8 = true then 1 else 0)) := by
  refine cw_of (cd := cd_X7_isStreet) (nL := 1) rfl rfl ?_
  show aWP _ _ (0, [some (.int x)], [], (HD, mi, ml, mr)) _
  refine wp_steps 4 (t' := (4, [some (.int x)], [.long 7, .long 0, .long x.toInt64], (HD, mi, ml, mr))) rfl ?_
  refine wp_cal (as := [.long x.toInt64, .long 0, .long 7]) rfl rfl rfl (Nat.le_of_ble_eq_true rfl) ((c_in_ax (x := x) (hi := 7) (n := 8) (by decide) (by decide) (by decide))) (by decide) ?_
  rintro _ _ ⟨rfl, rfl⟩
  show aWP _ _ (5, [some (.int x)], [.int (if aixn x 8 = true then (1 : Int32) else 0)], (HD, mi, ml, mr)) _
  refine wp_ret rfl (if_pos (qZ_i1 _)) ⟨⟨Nat.le_refl _, Nat.le_refl _⟩, ?_⟩
  exact ⟨rfl, rfl⟩
theorem r_learns_i {X : aXt × Value} {mi : Nat → Nat → Int32} {ml : Nat → Nat → Int64} {mr : Nat → Nat → Option Nat} (hM : MRok mr) {c0 c1 c2 : List Int32} (hR : RUX mi c0 c1 c2) {p : Nat} (hp5 : p < 5) {s : Int32} (hs : aixn s 8 = true) {hp : Int32} : aCW X 44 174 [.ref 84, .int (nI p), .int s, .int hp] (HD, mi, ml, mr) (fun r h' => r = some (.int (leG (twR mi c0 c1 c2) (puR mi p) s.toNatClampNeg hp)) ∧ ∃ m' w', h' = (HD, m', w', mr) ∧ frY mi m') := by
  have q := r_learns (X := X) (mi := mi) (ml := ml) hM hR hp5 (s := s.toNatClampNeg) (aix_out hs).2 (hp := hp)
  rw [← (aix_eq hs).1] at q
  exact q
theorem r_forgets_i {X : aXt × Value} {mi : Nat → Nat → Int32} {ml : Nat → Nat → Int64} {mr : Nat → Nat → Option Nat} (hM : MRok mr) {c0 c1 c2 : List Int32} (hR : RUX mi c0 c1 c2) {p : Nat} (hp5 : p < 5) {s : Int32} (hs : aixn s 8 = true) : aCW X 44 175 [.ref 84, .int (nI p), .int s] (HD, mi, ml, mr) (fun r h' => r = some (.int (foG (twR mi c0 c1 c2) (puR mi p) s.toNatClampNeg)) ∧ ∃ m' w', h' = (HD, m', w', mr) ∧ frY mi m') := by
  have q := r_forgets (X := X) (mi := mi) (ml := ml) hM hR hp5 (s := s.toNatClampNeg) (aix_out hs).2
  rw [← (aix_eq hs).1] at q
  exact q
theorem r_nerve_i {X : aXt × Value} {mi : Nat → Nat → Int32} {ml : Nat → Nat → Int64} {mr : Nat → Nat → Option Nat} (hM : MRok mr) {c0 c1 c2 : List Int32} (hR : RUX mi c0 c1 c2) {p : Nat} (hp5 : p < 5) {s : Int32} (hs : aixn s 8 = true) : aCW X 44 176 [.ref 84, .int (nI p), .int s] (HD, mi, ml, mr) (fun r h' => r = some (.int (neG (twR mi c0 c1 c2) (puR mi p) s.toNatClampNeg)) ∧ ∃ m' w', h' = (HD, m', w', mr) ∧ frY mi m') := by
  have q := r_nerve (X := X) (mi := mi) (ml := ml) hM hR hp5 (s := s.toNatClampNeg) (aix_out hs).2
  rw [← (aix_eq hs).1] at q
  exact q
theorem r_over_i {X : aXt × Value} {mi : Nat → Nat → Int32} {ml : Nat → Nat → Int64} {mr : Nat → Nat → Option Nat} (hM : MRok mr) {c0 c1 c2 : List Int32} (hR : RUX mi c0 c1 c2) {p : Nat} (hp5 : p < 5) {s : Int32} (hs : aixn s 8 = true) : aCW X 45 177 [.ref 84, .int (nI p), .int s] (HD, mi, ml, mr) (fun r h' => r = some (.int (maG (twR mi c0 c1 c2) (puR mi p) s.toNatClampNeg)) ∧ ∃ m' w', h' = (HD, m', w', mr) ∧ frY mi m') := by
  have q := r_over (X := X) (mi := mi) (ml := ml) hM hR hp5 (s := s.toNatClampNeg) (aix_out hs).2
  rw [← (aix_eq hs).1] at q
  exact q
theorem r_manages_i {X : aXt × Value} {mi : Nat → Nat → Int32} {ml : Nat → Nat → Int64} {mr : Nat → Nat → Option Nat} (hM : MRok mr) {c0 c1 c2 : List Int32} (hR : RUX mi c0 c1 c2) {p : Nat} (hp5 : p < 5) {s : Int32} (hs : aixn s 8 = true) : aCW X 46 178 [.ref 84, .int (nI p), .int s] (HD, mi, ml, mr) (fun r h' => r = some (.int (if maG (twR mi c0 c1 c2) (puR mi p) s.toNatClampNeg < 0 then 0 else 1)) ∧ ∃ m' w', h' = (HD, m', w', mr) ∧ frY mi m') := by
  have q := r_manages (X := X) (mi := mi) (ml := ml) hM hR hp5 (s := s.toNatClampNeg) (aix_out hs).2
  rw [← (aix_eq hs).1] at q
  exact q
theorem r_drives_i {X : aXt × Value} {mi : Nat → Nat → Int32} {ml : Nat → Nat → Int64} {mr : Nat → Nat → Option Nat} (hM : MRok mr) {c0 c1 c2 : List Int32} (hR : RUX mi c0 c1 c2) {p : Nat} (hp5 : p < 5) {s : Int32} (hs : aixn s 8 = true) {hp : Int32} (hok : okU (puR mi p)) : aCW X 47 181 [.ref 84, .int (nI p), .int s, .int hp] (HD, mi, ml, mr) (fun r h' => r = none ∧ ∃ m' w', h' = (HD, m', w', mr) ∧ frU p mi m' ∧ puR m' p = hrG (twR mi c0 c1 c2) (puR mi p) s.toNatClampNeg hp) := by
  have q := r_drives (X := X) (mi := mi) (ml := ml) hM hR hp5 (s := s.toNatClampNeg) (aix_out hs).2 (hp := hp) hok
  rw [← (aix_eq hs).1] at q
  exact q
set_option maxRecDepth 20000 in
set_option maxHeartbeats 1000000 in
theorem q_asks_no {X : aXt × Value} {mi : Nat → Nat → Int32} {ml : Nat → Nat → Int64} {mr : Nat → Nat → Option Nat} (hM : MRok mr) {N : Nat} (hN : mi 84 12 = nI N) (hN5 : N ≤ 5) {one s w : Int32} (hg : ¬ aixn one N = true) : aCW X 4 180 [.ref 84, .int one, .int s, .int w] (HD, mi, ml, mr) (qR mi mr (.int (-1000))) := by
  refine cw_of (cd := cd_X7_asks) (nL := 4) rfl rfl ?_
  show aWP _ _ (0, [some (.ref 84), some (.int one), some (.int s), some (.int w)], [], (HD, mi, ml, mr)) _
  refine wp_steps 2 (t' := (2, [some (.ref 84), some (.int one), some (.int s), some (.int w)], [.int one, .ref 84], (HD, mi, ml, mr))) rfl ?_
  refine wp_calv (as := [.int one]) rfl rfl rfl (Nat.le_of_ble_eq_true rfl) ⟨by decide, rfl⟩ ((c_isOne_no (ml := ml) hM hN hN5 hg)) (by decide) ?_
  rintro _ _ ⟨rfl, rfl⟩
  show aWP _ _ (3, [some (.ref 84), some (.int one), some (.int s), some (.int w)], [.int 0], (HD, mi, ml, mr)) _
  refine wp_bI rfl (fun c_1 => ?_) (fun c_1 => ?_)
  rotate_left
  · have c_1 : ¬ ((0 : Int32) = 0) := of_decide_eq_false c_1
    exact absurd c_1 (by decide)
  have c_1 : (0 : Int32) = 0 := of_decide_eq_true c_1
  refine wp_steps 1 (t' := (14, [some (.ref 84), some (.int one), some (.int s), some (.int w)], [.int (-1000)], (HD, mi, ml, mr))) rfl ?_
  refine wp_ret rfl rfl ⟨⟨Nat.le_refl _, Nat.le_refl _⟩, ?_⟩
  exact ⟨rfl, mi, ml, rfl, frQ.rf mi⟩
set_option maxRecDepth 20000 in
set_option maxHeartbeats 1000000 in
theorem q_asks_ok {X : aXt × Value} {mi : Nat → Nat → Int32} {ml : Nat → Nat → Int64} {mr : Nat → Nat → Option Nat} (hM : MRok mr) {N : Nat} (hN : mi 84 12 = nI N) (hN5 : N ≤ 5) {c0 c1 c2 : List Int32} (hR : RUX mi c0 c1 c2) {p : Nat} (hpN : p < N) (hok : okU (puR mi p)) {s w : Int32}  : aCW X 45 180 [.ref 84, .int (nI p), .int s, .int w] (HD, mi, ml, mr) (qR mi mr (.int (if aixn s 8 = true ∧ inR 0 4 w then askG (twR mi c0 c1 c2) (puR mi p) s.toNatClampNeg w else -1000))) := by
  have hp5 : p < 5 := by omega
  refine cw_of (cd := cd_X7_asks) (nL := 4) rfl rfl ?_
  show aWP _ _ (0, [some (.ref 84), some (.int (nI p)), some (.int s), some (.int w)], [], (HD, mi, ml, mr)) _
  refine wp_steps 2 (t' := (2, [some (.ref 84), some (.int (nI p)), some (.int s), some (.int w)], [.int (nI p), .ref 84], (HD, mi, ml, mr))) rfl ?_
  refine wp_calv (as := [.int (nI p)]) rfl rfl rfl (Nat.le_of_ble_eq_true rfl) ⟨by decide, rfl⟩ ((c_isOne_ok (mi := mi) (ml := ml) hM hN hN5 hpN)) (by decide) ?_
  rintro _ _ ⟨rfl, rfl⟩
  show aWP _ _ (3, [some (.ref 84), some (.int (nI p)), some (.int s), some (.int w)], [.int 1], (HD, mi, ml, mr)) _
  refine wp_bI rfl (fun c_1 => ?_) (fun c_1 => ?_)
  · have c_1 : (1 : Int32) = 0 := of_decide_eq_true c_1
    exact absurd c_1 (by decide)
  have c_1 : ¬ ((1 : Int32) = 0) := of_decide_eq_false c_1
  refine wp_steps 1 (t' := (5, [some (.ref 84), some (.int (nI p)), some (.int s), some (.int w)], [.int s], (HD, mi, ml, mr))) rfl ?_
  refine wp_cal (as := [.int s]) rfl rfl rfl (Nat.le_of_ble_eq_true rfl) (c_risStreet) (by decide) ?_
  rintro _ _ ⟨rfl, rfl⟩
  show aWP _ _ (6, [some (.ref 84), some (.int (nI p)), some (.int s), some (.int w)], [.int (if aixn s 8 = true then (1 : Int32) else 0)], (HD, mi, ml, mr)) _
  refine wp_bI rfl (fun c_2 => ?_) (fun c_2 => ?_)
  · have c_2 : (if aixn s 8 = true then (1 : Int32) else 0) = 0 := of_decide_eq_true c_2
    refine wp_steps 1 (t' := (14, [some (.ref 84), some (.int (nI p)), some (.int s), some (.int w)], [.int (-1000)], (HD, mi, ml, mr))) rfl ?_
    refine wp_ret rfl rfl ⟨⟨Nat.le_refl _, Nat.le_refl _⟩, ?_⟩
    exact ⟨by rw [if_neg (show ¬ (aixn s 8 = true ∧ inR 0 4 w) from fun z => (fun z => absurd (z.symm.trans (ite_nix c_2)) Bool.noConfusion) z.1)], mi, ml, rfl, frQ.rf mi⟩
  · have c_2 : ¬ ((if aixn s 8 = true then (1 : Int32) else 0) = 0) := of_decide_eq_false c_2
    refine wp_steps 4 (t' := (11, [some (.ref 84), some (.int (nI p)), some (.int s), some (.int w)], [.long 4, .long 0, .long w.toInt64], (HD, mi, ml, mr))) rfl ?_
    refine wp_cal (as := [.long w.toInt64, .long 0, .long 4]) rfl rfl rfl (Nat.le_of_ble_eq_true rfl) ((c_in (x := w) (lo := 0) (hi := 4) rfl (by decide) (by decide))) (by decide) ?_
    rintro _ _ ⟨rfl, rfl⟩
    show aWP _ _ (12, [some (.ref 84), some (.int (nI p)), some (.int s), some (.int w)], [.int (if inR 0 4 w then (1 : Int32) else 0)], (HD, mi, ml, mr)) _
    refine wp_bI rfl (fun c_3 => ?_) (fun c_3 => ?_)
    · have c_3 : ¬ (if inR 0 4 w then (1 : Int32) else 0) = 0 := of_decide_eq_true c_3
      refine wp_steps 2 (t' := (17, [some (.ref 84), some (.int (nI p)), some (.int s), some (.int w)], [.int 3, .int w], (HD, mi, ml, mr))) rfl ?_
      refine wp_bC rfl (fun c_4 => ?_) (fun c_4 => ?_)
      · have c_4 : 3 ≤ w := of_decide_eq_true c_4
        refine wp_steps 2 (t' := (26, [some (.ref 84), some (.int (nI p)), some (.int s), some (.int w)], [.int 3, .int w], (HD, mi, ml, mr))) rfl ?_
        refine wp_bC rfl (fun c_5 => ?_) (fun c_5 => ?_)
        · have c_5 : ¬ w = 3 := of_decide_eq_true c_5
          refine wp_steps 3 (t' := (35, [some (.ref 84), some (.int (nI p)), some (.int s), some (.int w)], [.int s, .int (nI p), .ref 84], (HD, mi, ml, mr))) rfl ?_
          refine wp_calv (as := [.int (nI p), .int s]) rfl rfl rfl (Nat.le_of_ble_eq_true rfl) ⟨by decide, rfl⟩ ((r_nerve_i (ml := ml) hM hR hp5 (ite_aix c_2))) (by decide) ?_
          rintro _ _ ⟨rfl, m_1, w_1, rfl, f1⟩
          show aWP _ _ (36, [some (.ref 84), some (.int (nI p)), some (.int s), some (.int w)], [.int (neG (twR mi c0 c1 c2) (puR mi p) s.toNatClampNeg)], (HD, m_1, w_1, mr)) _
          refine wp_ret rfl rfl ⟨⟨Nat.le_refl _, Nat.le_refl _⟩, ?_⟩
          exact ⟨by rw [if_pos (show aixn s 8 = true ∧ inR 0 4 w from ⟨(ite_aix c_2), (i0_t c_3)⟩)]; unfold askG; rw [if_neg (Int32.not_lt.mpr c_4), if_neg c_5], m_1, w_1, rfl, f1.Q⟩
        · have c_5 : w = 3 := Decidable.not_not.mp (of_decide_eq_false c_5)
          refine wp_steps 3 (t' := (30, [some (.ref 84), some (.int (nI p)), some (.int s), some (.int w)], [.int s, .int (nI p), .ref 84], (HD, mi, ml, mr))) rfl ?_
          refine wp_calv (as := [.int (nI p), .int s]) rfl rfl rfl (Nat.le_of_ble_eq_true rfl) ⟨by decide, rfl⟩ ((r_forgets_i (ml := ml) hM hR hp5 (ite_aix c_2))) (by decide) ?_
          rintro _ _ ⟨rfl, m_1, w_1, rfl, f1⟩
          show aWP _ _ (31, [some (.ref 84), some (.int (nI p)), some (.int s), some (.int w)], [.int (foG (twR mi c0 c1 c2) (puR mi p) s.toNatClampNeg)], (HD, m_1, w_1, mr)) _
          refine wp_steps 1 (t' := (36, [some (.ref 84), some (.int (nI p)), some (.int s), some (.int w)], [.int (foG (twR mi c0 c1 c2) (puR mi p) s.toNatClampNeg)], (HD, m_1, w_1, mr))) rfl ?_
          refine wp_ret rfl rfl ⟨⟨Nat.le_refl _, Nat.le_refl _⟩, ?_⟩
          exact ⟨by rw [if_pos (show aixn s 8 = true ∧ inR 0 4 w from ⟨(ite_aix c_2), (i0_t c_3)⟩)]; unfold askG; rw [if_neg (Int32.not_lt.mpr c_4), if_pos c_5], m_1, w_1, rfl, f1.Q⟩
      · have c_4 : ¬ (3 ≤ w) := of_decide_eq_false c_4
        refine wp_steps 4 (t' := (22, [some (.ref 84), some (.int (nI p)), some (.int s), some (.int w)], [.int w, .int s, .int (nI p), .ref 84], (HD, mi, ml, mr))) rfl ?_
        refine wp_calv (as := [.int (nI p), .int s, .int w]) rfl rfl rfl (Nat.le_of_ble_eq_true rfl) ⟨by decide, rfl⟩ ((r_learns_i (ml := ml) (hp := w) hM hR hp5 (ite_aix c_2))) (by decide) ?_
        rintro _ _ ⟨rfl, m_1, w_1, rfl, f1⟩
        show aWP _ _ (23, [some (.ref 84), some (.int (nI p)), some (.int s), some (.int w)], [.int (leG (twR mi c0 c1 c2) (puR mi p) s.toNatClampNeg w)], (HD, m_1, w_1, mr)) _
        refine wp_steps 1 (t' := (36, [some (.ref 84), some (.int (nI p)), some (.int s), some (.int w)], [.int (leG (twR mi c0 c1 c2) (puR mi p) s.toNatClampNeg w)], (HD, m_1, w_1, mr))) rfl ?_
        refine wp_ret rfl rfl ⟨⟨Nat.le_refl _, Nat.le_refl _⟩, ?_⟩
        exact ⟨by rw [if_pos (show aixn s 8 = true ∧ inR 0 4 w from ⟨(ite_aix c_2), (i0_t c_3)⟩)]; unfold askG; rw [if_pos (Int32.not_le.mp c_4)], m_1, w_1, rfl, f1.Q⟩
    · have c_3 : (if inR 0 4 w then (1 : Int32) else 0) = 0 := Decidable.not_not.mp (of_decide_eq_false c_3)
      refine wp_steps 1 (t' := (14, [some (.ref 84), some (.int (nI p)), some (.int s), some (.int w)], [.int (-1000)], (HD, mi, ml, mr))) rfl ?_
      refine wp_ret rfl rfl ⟨⟨Nat.le_refl _, Nat.le_refl _⟩, ?_⟩
      exact ⟨by rw [if_neg (show ¬ (aixn s 8 = true ∧ inR 0 4 w) from fun z => (i0_f c_3) z.2)], mi, ml, rfl, frQ.rf mi⟩
set_option maxRecDepth 20000 in
set_option maxHeartbeats 1000000 in
theorem q_late_no {X : aXt × Value} {mi : Nat → Nat → Int32} {ml : Nat → Nat → Int64} {mr : Nat → Nat → Option Nat} (hM : MRok mr) {N : Nat} (hN : mi 84 12 = nI N) (hN5 : N ≤ 5) {one s : Int32} (hg : ¬ aixn one N = true) : aCW X 4 193 [.ref 84, .int one, .int s] (HD, mi, ml, mr) (qR mi mr (.int (-2))) := by
  refine cw_of (cd := cd_X7_late) (nL := 4) rfl rfl ?_
  show aWP _ _ (0, [some (.ref 84), some (.int one), some (.int s), none], [], (HD, mi, ml, mr)) _
  refine wp_steps 2 (t' := (2, [some (.ref 84), some (.int one), some (.int s), none], [.int one, .ref 84], (HD, mi, ml, mr))) rfl ?_
  refine wp_calv (as := [.int one]) rfl rfl rfl (Nat.le_of_ble_eq_true rfl) ⟨by decide, rfl⟩ ((c_isOne_no (ml := ml) hM hN hN5 hg)) (by decide) ?_
  rintro _ _ ⟨rfl, rfl⟩
  show aWP _ _ (3, [some (.ref 84), some (.int one), some (.int s), none], [.int 0], (HD, mi, ml, mr)) _
  refine wp_bI rfl (fun c_1 => ?_) (fun c_1 => ?_)
  rotate_left
  · have c_1 : ¬ ((0 : Int32) = 0) := of_decide_eq_false c_1
    exact absurd c_1 (by decide)
  have c_1 : (0 : Int32) = 0 := of_decide_eq_true c_1
  refine wp_steps 1 (t' := (8, [some (.ref 84), some (.int one), some (.int s), none], [.int (-2)], (HD, mi, ml, mr))) rfl ?_
  refine wp_ret rfl rfl ⟨⟨Nat.le_refl _, Nat.le_refl _⟩, ?_⟩
  exact ⟨rfl, mi, ml, rfl, frQ.rf mi⟩
/-- on the way: aside lay ma, learner p is u, town t -/
def WY (p : Nat) (c0 c1 c2 : List Int32) (ma m : Nat → Nat → Int32) (t : tW) (u : pU) : Prop := frW p ma m ∧ puR m p = u ∧ twR m c0 c1 c2 = t ∧ RUX m c0 c1 c2 ∧ okU u
theorem WY.of {p : Nat} {c0 c1 c2 : List Int32} {mi ma : Nat → Nat → Int32} (h : ASD p mi ma) (hR : RUX mi c0 c1 c2) (hok : okU (puR mi p)) : WY p c0 c1 c2 ma ma (twR mi c0 c1 c2) (puR mi p) := ⟨frW.rf p ma, (h.pu c0 c1 c2).1, (h.pu c0 c1 c2).2, h.ru hR, hok⟩
theorem WY.Y {p : Nat} {c0 c1 c2 : List Int32} {ma m m' : Nat → Nat → Int32} {t : tW} {u : pU} (h : WY p c0 c1 c2 ma m t u) (f : frY m m') : WY p c0 c1 c2 ma m' t u := ⟨h.1.tr f.U.W, (puR_Y f p).trans h.2.1, (twR_Y f _ _ _).trans h.2.2.1, h.2.2.2.1.Y f, h.2.2.2.2⟩
theorem WY.U {p : Nat} {c0 c1 c2 : List Int32} {ma m m' : Nat → Nat → Int32} {t : tW} {u u' : pU} (h : WY p c0 c1 c2 ma m t u) (f : frU p m m') (hu : puR m' p = u') (ho : okU u') : WY p c0 c1 c2 ma m' t u' := ⟨h.1.tr f.W, hu, (twR_U f _ _ _).trans h.2.2.1, h.2.2.2.1.U f, ho⟩
theorem WY.nd {p : Nat} {c0 c1 c2 : List Int32} {ma m : Nat → Nat → Int32} {t : tW} {u : pU} (h : WY p c0 c1 c2 ma m t u) : WY p c0 c1 c2 ma (aup m 84 7 (m 84 7 + 1)) (ndG t) u := by
  obtain ⟨h1, h2, h3, h4, h5⟩ := h
  have f : frW p m (aup m 84 7 (m 84 7 + 1)) := fun x y q _ => by
    unfold aup
    by_cases e : x = 84
    · by_cases e2 : y = 7
      · exact absurd ⟨e, Or.inr e2⟩ q
      · rw [if_pos e, if_neg e2]
    · rw [if_neg e]
  refine ⟨h1.tr f, h2, ?_, h4.W f, h5⟩
  rw [← h3]; rfl
theorem y_hour {X : aXt × Value} {mr : Nat → Nat → Option Nat} (hM : MRok mr) {c0 c1 c2 : List Int32} {p : Nat} (hp5 : p < 5) {ma m : Nat → Nat → Int32} {w : Nat → Nat → Int64} {t : tW} {u : pU} (h : WY p c0 c1 c2 ma m t u) {s hp : Int32} (hs : aixn s 8 = true) : aCW X 47 181 [.ref 84, .int (nI p), .int s, .int hp] (HD, m, w, mr) (fun r h' => r = none ∧ ∃ m' w', h' = (HD, m', w', mr) ∧ WY p c0 c1 c2 ma m' t (hrG t u s.toNatClampNeg hp)) := by
  obtain ⟨r, h', g, e, m', w', e2, f, k⟩ := r_drives_i (X := X) (mi := m) (ml := w) (hp := hp) hM h.2.2.2.1 hp5 hs (by rw [h.2.1]; exact h.2.2.2.2)
  rw [h.2.2.1, h.2.1] at k
  exact ⟨r, h', g, e, m', w', e2, h.U f k (hrG_ok h.2.2.2.2 (aix_out hs).2)⟩
theorem y_sleep {X : aXt × Value} {mr : Nat → Nat → Option Nat} (hM : MRok mr) {c0 c1 c2 : List Int32} {p : Nat} (hp5 : p < 5) {ma m : Nat → Nat → Int32} {w : Nat → Nat → Int64} {t : tW} {u : pU} (h : WY p c0 c1 c2 ma m t u) : aCW X 45 183 [.ref 84, .int (nI p)] (HD, m, w, mr) (fun r h' => r = none ∧ ∃ m' w', h' = (HD, m', w', mr) ∧ WY p c0 c1 c2 ma m' t (spG t u)) := by
  obtain ⟨r, h', g, e, m', w', e2, f, k⟩ := r_sleeps (X := X) (mi := m) (ml := w) hM h.2.2.2.1 hp5 (by rw [h.2.1]; exact h.2.2.2.2)
  rw [h.2.2.1, h.2.1] at k
  exact ⟨r, h', g, e, m', w', e2, h.U f k (spG_ok h.2.2.2.2)⟩
theorem y_many {X : aXt × Value} {mr : Nat → Nat → Option Nat} (hM : MRok mr) {c0 c1 c2 : List Int32} {p : Nat} (hp5 : p < 5) {ma m : Nat → Nat → Int32} {w : Nat → Nat → Int64} {t : tW} {u : pU} (h : WY p c0 c1 c2 ma m t u) : aCW X 47 179 [.ref 84, .int (nI p)] (HD, m, w, mr) (fun r h' => r = some (.int (nI (mnG t u))) ∧ ∃ m' w', h' = (HD, m', w', mr) ∧ WY p c0 c1 c2 ma m' t u) := by
  obtain ⟨r, h', g, e, m', w', e2, f⟩ := r_many (X := X) (mi := m) (ml := w) hM h.2.2.2.1 hp5
  exact ⟨r, h', g, by rw [e, h.2.2.1, h.2.1], m', w', e2, h.Y f⟩
theorem y_manages {X : aXt × Value} {mr : Nat → Nat → Option Nat} (hM : MRok mr) {c0 c1 c2 : List Int32} {p : Nat} (hp5 : p < 5) {ma m : Nat → Nat → Int32} {w : Nat → Nat → Int64} {t : tW} {u : pU} (h : WY p c0 c1 c2 ma m t u) {s : Int32} (hs : aixn s 8 = true) : aCW X 46 178 [.ref 84, .int (nI p), .int s] (HD, m, w, mr) (fun r h' => r = some (.int (if maG t u s.toNatClampNeg < 0 then 0 else 1)) ∧ ∃ m' w', h' = (HD, m', w', mr) ∧ WY p c0 c1 c2 ma m' t u) := by
  obtain ⟨r, h', g, e, m', w', e2, f⟩ := r_manages_i (X := X) (mi := m) (ml := w) hM h.2.2.2.1 hp5 hs
  exact ⟨r, h', g, by rw [e, h.2.2.1, h.2.1], m', w', e2, h.Y f⟩
theorem y_sum {X : aXt × Value} {mr : Nat → Nat → Option Nat} (hM : MRok mr) {c0 c1 c2 : List Int32} {p : Nat} (hp5 : p < 5) {ma m : Nat → Nat → Int32} {w : Nat → Nat → Int64} {t : tW} {u : pU} (h : WY p c0 c1 c2 ma m t u) : aCW X 2 188 [.ref 84, .int (nI p)] (HD, m, w, mr) (rdI m w mr (smF u.2.2.2.2 8)) := by
  have q := r_sum (X := X) (mi := m) (ml := w) hM hp5
  rw [h.2.1] at q
  exact q
theorem y_weak {X : aXt × Value} {mr : Nat → Nat → Option Nat} (hM : MRok mr) {c0 c1 c2 : List Int32} {p : Nat} (hp5 : p < 5) {ma m : Nat → Nat → Int32} {w : Nat → Nat → Int64} {t : tW} {u : pU} (h : WY p c0 c1 c2 ma m t u) : aCW X 2 191 [.ref 84, .int (nI p)] (HD, m, w, mr) (rdI m w mr (nI (wkF u.2.2.2.2 8))) := by
  have q := r_weak (X := X) (mi := m) (ml := w) hM hp5
  rw [h.2.1] at q
  exact q
set_option maxRecDepth 20000 in
set_option maxHeartbeats 1000000 in
theorem l_rlate {X : aXt × Value} {mr : Nat → Nat → Option Nat} (hM : MRok mr) {c0 c1 c2 : List Int32} {p : Nat} (hp5 : p < 5) {ma : Nat → Nat → Int32} {s : Int32} (hs : aixn s 8 = true) {t : tW} {Q : Option Value → aM → Prop} : ∀ (g k : Nat) (m : Nat → Nat → Int32) (w : Nat → Nat → Int64) (u : pU), k + g = 31 → WY p c0 c1 c2 ma m t u → (∀ c m' w' u', c ≤ 31 → blG t s.toNatClampNeg g k u = (if c ≤ 30 then nI c else -1) → WY p c0 c1 c2 ma m' t u' → aWP (aEx (aTb X) 47) cd_X7_late (29, [some (.ref 84), some (.int (nI p)), some (.int s), some (.int (nI c))], [], (HD, m', w', mr)) Q) → aWP (aEx (aTb X) 47) cd_X7_late (14, [some (.ref 84), some (.int (nI p)), some (.int s), some (.int (nI k))], [], (HD, m, w, mr)) Q := by
  intro g
  induction g with
  | zero =>
    intro k m w u hg h hk
    obtain rfl : k = 31 := by omega
    refine wp_steps 2 (t' := (16, [some (.ref 84), some (.int (nI p)), some (.int s), some (.int (nI 31))], [.int 30, .int (nI 31)], (HD, m, w, mr))) rfl ?_
    refine wp_bC rfl (fun c_1 => ?_) (fun c_1 => ?_)
    rotate_left
    · have c_1 : ¬ (30 < (nI 31)) := of_decide_eq_false c_1
      exact absurd (by decide) c_1
    have c_1 : 30 < (nI 31) := of_decide_eq_true c_1
    exact hk 31 m w u (by decide) rfl h
  | succ g ih =>
    intro k m w u hg h hk
    refine wp_steps 2 (t' := (16, [some (.ref 84), some (.int (nI p)), some (.int s), some (.int (nI k))], [.int 30, .int (nI k)], (HD, m, w, mr))) rfl ?_
    refine wp_bC rfl (fun c_1 => ?_) (fun c_1 => ?_)
    · have c_1 : 30 < (nI k) := of_decide_eq_true c_1
      exact absurd c_1 (nI_nlt (a := 30) (b := k) (by omega) (by decide))
    have c_1 : ¬ (30 < (nI k)) := of_decide_eq_false c_1
    refine wp_steps 3 (t' := (20, [some (.ref 84), some (.int (nI p)), some (.int s), some (.int (nI k))], [.int s, .int (nI p), .ref 84], (HD, m, w, mr))) rfl ?_
    refine wp_calv (as := [.int (nI p), .int s]) rfl rfl rfl (Nat.le_of_ble_eq_true rfl) ⟨by decide, rfl⟩ ((y_manages (w := w) hM hp5 h hs)) (by decide) ?_
    rintro _ _ ⟨rfl, m_1, w_1, rfl, h1⟩
    show aWP _ _ (21, [some (.ref 84), some (.int (nI p)), some (.int s), some (.int (nI k))], [.int (if maG t u s.toNatClampNeg < 0 then (0 : Int32) else 1)], (HD, m_1, w_1, mr)) _
    refine wp_bI rfl (fun c_2 => ?_) (fun c_2 => ?_)
    · have c_2 : ¬ (if maG t u s.toNatClampNeg < 0 then (0 : Int32) else 1) = 0 := of_decide_eq_true c_2
      have q : ¬ maG t u s.toNatClampNeg < 0 := fun z => c_2 (if_pos z)
      refine hk k m_1 w_1 u (by omega) ?_ h1
      rw [if_pos (by omega)]
      exact if_neg q
    · have c_2 : (if maG t u s.toNatClampNeg < 0 then (0 : Int32) else 1) = 0 := Decidable.not_not.mp (of_decide_eq_false c_2)
      refine wp_steps 4 (t' := (26, [some (.ref 84), some (.int (nI p)), some (.int s), some (.int (nI k))], [.int 0, .int s, .int (nI p), .ref 84], (HD, m_1, w_1, mr))) rfl ?_
      refine wp_calv (as := [.int (nI p), .int s, .int 0]) rfl rfl rfl (Nat.le_of_ble_eq_true rfl) ⟨by decide, rfl⟩ ((y_hour (w := w_1) (hp := 0) hM hp5 h1 hs)) (by decide) ?_
      rintro _ _ ⟨rfl, m_2, w_2, rfl, h2⟩
      show aWP _ _ (27, [some (.ref 84), some (.int (nI p)), some (.int s), some (.int (nI k))], [], (HD, m_2, w_2, mr)) _
      refine wp_steps 2 (t' := (14, [some (.ref 84), some (.int (nI p)), some (.int s), some (.int ((nI k) + Int32.ofInt 1))], [], (HD, m_2, w_2, mr))) rfl ?_
      have q : maG t u s.toNatClampNeg < 0 := Decidable.byContradiction fun z => absurd ((if_neg z).symm.trans c_2) (by decide)
      have e : blG t s.toNatClampNeg (g + 1) k u = blG t s.toNatClampNeg g (k + 1) (hrG t u s.toNatClampNeg 0) := if_pos q
      rw [e] at hk
      rw [inc_nI]
      exact ih (k + 1) m_2 w_2 _ (by omega) h2 hk
set_option maxRecDepth 20000 in
set_option maxHeartbeats 1000000 in
theorem q_late_ok {X : aXt × Value} {mi : Nat → Nat → Int32} {ml : Nat → Nat → Int64} {mr : Nat → Nat → Option Nat} (hM : MRok mr) {N : Nat} (hN : mi 84 12 = nI N) (hN5 : N ≤ 5) {c0 c1 c2 : List Int32} (hR : RUX mi c0 c1 c2) {p : Nat} (hpN : p < N) (hok : okU (puR mi p)) {s : Int32}  : aCW X 48 193 [.ref 84, .int (nI p), .int s] (HD, mi, ml, mr) (qR mi mr (.int (if aixn s 8 = true then blG (twR mi c0 c1 c2) s.toNatClampNeg 31 0 (puR mi p) else -2))) := by
  have hp5 : p < 5 := by omega
  refine cw_of (cd := cd_X7_late) (nL := 4) rfl rfl ?_
  show aWP _ _ (0, [some (.ref 84), some (.int (nI p)), some (.int s), none], [], (HD, mi, ml, mr)) _
  refine wp_steps 2 (t' := (2, [some (.ref 84), some (.int (nI p)), some (.int s), none], [.int (nI p), .ref 84], (HD, mi, ml, mr))) rfl ?_
  refine wp_calv (as := [.int (nI p)]) rfl rfl rfl (Nat.le_of_ble_eq_true rfl) ⟨by decide, rfl⟩ ((c_isOne_ok (mi := mi) (ml := ml) hM hN hN5 hpN)) (by decide) ?_
  rintro _ _ ⟨rfl, rfl⟩
  show aWP _ _ (3, [some (.ref 84), some (.int (nI p)), some (.int s), none], [.int 1], (HD, mi, ml, mr)) _
  refine wp_bI rfl (fun c_1 => ?_) (fun c_1 => ?_)
  · have c_1 : (1 : Int32) = 0 := of_decide_eq_true c_1
    exact absurd c_1 (by decide)
  have c_1 : ¬ ((1 : Int32) = 0) := of_decide_eq_false c_1
  refine wp_steps 1 (t' := (5, [some (.ref 84), some (.int (nI p)), some (.int s), none], [.int s], (HD, mi, ml, mr))) rfl ?_
  refine wp_cal (as := [.int s]) rfl rfl rfl (Nat.le_of_ble_eq_true rfl) (c_risStreet) (by decide) ?_
  rintro _ _ ⟨rfl, rfl⟩
  show aWP _ _ (6, [some (.ref 84), some (.int (nI p)), some (.int s), none], [.int (if aixn s 8 = true then (1 : Int32) else 0)], (HD, mi, ml, mr)) _
  refine wp_bI rfl (fun c_2 => ?_) (fun c_2 => ?_)
  · have c_2 : ¬ (if aixn s 8 = true then (1 : Int32) else 0) = 0 := of_decide_eq_true c_2
    refine wp_steps 2 (t' := (11, [some (.ref 84), some (.int (nI p)), some (.int s), none], [.int (nI p), .ref 84], (HD, mi, ml, mr))) rfl ?_
    refine wp_calv (as := [.int (nI p)]) rfl rfl rfl (Nat.le_of_ble_eq_true rfl) ⟨by decide, rfl⟩ ((r_aside (mi := mi) (ml := ml) hM hp5)) (by decide) ?_
    rintro _ _ ⟨rfl, m_1, rfl, a1⟩
    show aWP _ _ (12, [some (.ref 84), some (.int (nI p)), some (.int s), none], [], (HD, m_1, ml, mr)) _
    refine wp_steps 2 (t' := (14, [some (.ref 84), some (.int (nI p)), some (.int s), some (.int 0)], [], (HD, m_1, ml, mr))) rfl ?_
    refine l_rlate hM hp5 (ite_aix c_2) 31 0 m_1 ml _ rfl (WY.of a1 hR hok) (fun c m' w' u' hc hb h4 => ?_)
    refine wp_steps 2 (t' := (31, [some (.ref 84), some (.int (nI p)), some (.int s), some (.int (nI c))], [.int (nI p), .ref 84], (HD, m', w', mr))) rfl ?_
    refine wp_calv (as := [.int (nI p)]) rfl rfl rfl (Nat.le_of_ble_eq_true rfl) ⟨by decide, rfl⟩ ((r_back (mi := m') (ml := w') hM hp5)) (by decide) ?_
    rintro _ _ ⟨rfl, m_4, rfl, b4⟩
    show aWP _ _ (32, [some (.ref 84), some (.int (nI p)), some (.int s), some (.int (nI c))], [], (HD, m_4, w', mr)) _
    refine wp_steps 2 (t' := (34, [some (.ref 84), some (.int (nI p)), some (.int s), some (.int (nI c))], [.int 30, .int (nI c)], (HD, m_4, w', mr))) rfl ?_
    refine wp_bC rfl (fun c_81 => ?_) (fun c_81 => ?_)
    · have c_81 : (nI c) ≤ 30 := of_decide_eq_true c_81
      refine wp_steps 1 (t' := (38, [some (.ref 84), some (.int (nI p)), some (.int s), some (.int (nI c))], [.int (nI c)], (HD, m_4, w', mr))) rfl ?_
      refine wp_ret rfl rfl ⟨⟨Nat.le_refl _, Nat.le_refl _⟩, ?_⟩
      have q : c ≤ 30 := Nat.le_of_not_lt (fun z => nI_ge (a := 30) (b := c) z (by omega) c_81)
      exact ⟨by rw [if_pos (show aixn s 8 = true from (ite_aix c_2)), hb, if_pos q], m_4, w', rfl, abq a1 h4.1 b4⟩
    · have c_81 : ¬ ((nI c) ≤ 30) := of_decide_eq_false c_81
      refine wp_steps 2 (t' := (38, [some (.ref 84), some (.int (nI p)), some (.int s), some (.int (nI c))], [.int (-1)], (HD, m_4, w', mr))) rfl ?_
      refine wp_ret rfl rfl ⟨⟨Nat.le_refl _, Nat.le_refl _⟩, ?_⟩
      have q : ¬ c ≤ 30 := fun z => c_81 (nI_le (b := 30) z (by decide))
      exact ⟨by rw [if_pos (show aixn s 8 = true from (ite_aix c_2)), hb, if_neg q], m_4, w', rfl, abq a1 h4.1 b4⟩
  · have c_2 : (if aixn s 8 = true then (1 : Int32) else 0) = 0 := Decidable.not_not.mp (of_decide_eq_false c_2)
    refine wp_steps 1 (t' := (8, [some (.ref 84), some (.int (nI p)), some (.int s), none], [.int (-2)], (HD, mi, ml, mr))) rfl ?_
    refine wp_ret rfl rfl ⟨⟨Nat.le_refl _, Nat.le_refl _⟩, ?_⟩
    exact ⟨by rw [if_neg (show ¬ (aixn s 8 = true) from fun z => (fun z => absurd (z.symm.trans (ite_nix c_2)) Bool.noConfusion) z)], mi, ml, rfl, frQ.rf mi⟩
set_option maxRecDepth 20000 in
set_option maxHeartbeats 1000000 in
theorem q_faded_no {X : aXt × Value} {mi : Nat → Nat → Int32} {ml : Nat → Nat → Int64} {mr : Nat → Nat → Option Nat} (hM : MRok mr) {N : Nat} (hN : mi 84 12 = nI N) (hN5 : N ≤ 5) {one n : Int32} (hg : ¬ aixn one N = true) : aCW X 4 195 [.ref 84, .int one, .int n] (HD, mi, ml, mr) (qR mi mr (.int (-2))) := by
  refine cw_of (cd := cd_X7_faded) (nL := 4) rfl rfl ?_
  show aWP _ _ (0, [some (.ref 84), some (.int one), some (.int n), none], [], (HD, mi, ml, mr)) _
  refine wp_steps 2 (t' := (2, [some (.ref 84), some (.int one), some (.int n), none], [.int one, .ref 84], (HD, mi, ml, mr))) rfl ?_
  refine wp_calv (as := [.int one]) rfl rfl rfl (Nat.le_of_ble_eq_true rfl) ⟨by decide, rfl⟩ ((c_isOne_no (ml := ml) hM hN hN5 hg)) (by decide) ?_
  rintro _ _ ⟨rfl, rfl⟩
  show aWP _ _ (3, [some (.ref 84), some (.int one), some (.int n), none], [.int 0], (HD, mi, ml, mr)) _
  refine wp_bI rfl (fun c_1 => ?_) (fun c_1 => ?_)
  rotate_left
  · have c_1 : ¬ ((0 : Int32) = 0) := of_decide_eq_false c_1
    exact absurd c_1 (by decide)
  have c_1 : (0 : Int32) = 0 := of_decide_eq_true c_1
  refine wp_steps 1 (t' := (11, [some (.ref 84), some (.int one), some (.int n), none], [.int (-2)], (HD, mi, ml, mr))) rfl ?_
  refine wp_ret rfl rfl ⟨⟨Nat.le_refl _, Nat.le_refl _⟩, ?_⟩
  exact ⟨rfl, mi, ml, rfl, frQ.rf mi⟩
set_option maxRecDepth 20000 in
set_option maxHeartbeats 1000000 in
theorem l_rfaded {X : aXt × Value} {mr : Nat → Nat → Option Nat} (hM : MRok mr) {c0 c1 c2 : List Int32} {p : Nat} (hp5 : p < 5) {ma : Nat → Nat → Int32} {n : Nat} (hn : n ≤ 40) {Q : Option Value → aM → Prop} : ∀ (g k : Nat) (m : Nat → Nat → Int32) (w : Nat → Nat → Int64) (t : tW) (u : pU), k + g = n → WY p c0 c1 c2 ma m t u → (∀ m' w', WY p c0 c1 c2 ma m' (ngG g t u).1 (ngG g t u).2 → aWP (aEx (aTb X) 47) cd_X7_faded (31, [some (.ref 84), some (.int (nI p)), some (.int (nI n)), some (.int (nI n))], [], (HD, m', w', mr)) Q) → aWP (aEx (aTb X) 47) cd_X7_faded (17, [some (.ref 84), some (.int (nI p)), some (.int (nI n)), some (.int (nI k))], [], (HD, m, w, mr)) Q := by
  intro g
  induction g with
  | zero =>
    intro k m w t u hg h hk
    obtain rfl : k = n := by omega
    refine wp_steps 2 (t' := (19, [some (.ref 84), some (.int (nI p)), some (.int (nI k)), some (.int (nI k))], [.int (nI k), .int (nI k)], (HD, m, w, mr))) rfl ?_
    refine wp_bC rfl (fun c_1 => ?_) (fun c_1 => ?_)
    rotate_left
    · have c_1 : ¬ ((nI k) ≤ (nI k)) := of_decide_eq_false c_1
      exact absurd (Int32.le_refl _) c_1
    have c_1 : (nI k) ≤ (nI k) := of_decide_eq_true c_1
    exact hk m w h
  | succ g ih =>
    intro k m w t u hg h hk
    refine wp_steps 2 (t' := (19, [some (.ref 84), some (.int (nI p)), some (.int (nI n)), some (.int (nI k))], [.int (nI n), .int (nI k)], (HD, m, w, mr))) rfl ?_
    refine wp_bC rfl (fun c_1 => ?_) (fun c_1 => ?_)
    · have c_1 : (nI n) ≤ (nI k) := of_decide_eq_true c_1
      exact absurd c_1 (nI_ge (a := k) (b := n) (by omega) (by omega))
    have c_1 : ¬ ((nI n) ≤ (nI k)) := of_decide_eq_false c_1
    refine wp_steps 2 (t' := (22, [some (.ref 84), some (.int (nI p)), some (.int (nI n)), some (.int (nI k))], [.int (nI p), .ref 84], (HD, m, w, mr))) rfl ?_
    refine wp_calv (as := [.int (nI p)]) rfl rfl rfl (Nat.le_of_ble_eq_true rfl) ⟨by decide, rfl⟩ ((y_sleep (w := w) hM hp5 h)) (by decide) ?_
    rintro _ _ ⟨rfl, m_1, w_1, rfl, h1⟩
    show aWP _ _ (23, [some (.ref 84), some (.int (nI p)), some (.int (nI n)), some (.int (nI k))], [], (HD, m_1, w_1, mr)) _
    refine wp_steps 2 (t' := (25, [some (.ref 84), some (.int (nI p)), some (.int (nI n)), some (.int (nI k))], [.ref 84, .ref 84], (HD, m_1, w_1, mr))) rfl ?_
    refine wp_geti rfl ⟨by decide, rfl⟩ (Or.inl rfl) ?_
    refine wp_steps 2 (t' := (28, [some (.ref 84), some (.int (nI p)), some (.int (nI n)), some (.int (nI k))], [.int ((m_1 84 7) + 1), .ref 84], (HD, m_1, w_1, mr))) rfl ?_
    refine wp_puti rfl ⟨by decide, rfl⟩ rfl (fun m_2 h_3 => ?_)
    subst h_3
    refine wp_steps 2 (t' := (17, [some (.ref 84), some (.int (nI p)), some (.int (nI n)), some (.int ((nI k) + Int32.ofInt 1))], [], (HD, (aup m_1 84 7 ((m_1 84 7) + 1)), w_1, mr))) rfl ?_
    rw [inc_nI]
    exact ih (k + 1) _ w_1 _ _ (by omega) h1.nd hk
set_option maxRecDepth 20000 in
set_option maxHeartbeats 1000000 in
theorem q_faded_ok {X : aXt × Value} {mi : Nat → Nat → Int32} {ml : Nat → Nat → Int64} {mr : Nat → Nat → Option Nat} (hM : MRok mr) {N : Nat} (hN : mi 84 12 = nI N) (hN5 : N ≤ 5) {c0 c1 c2 : List Int32} (hR : RUX mi c0 c1 c2) {p : Nat} (hpN : p < N) (hok : okU (puR mi p)) {n : Int32}  : aCW X 48 195 [.ref 84, .int (nI p), .int n] (HD, mi, ml, mr) (qR mi mr (.int (if inR 0 40 n then nI (fdG (twR mi c0 c1 c2) (puR mi p) n.toNatClampNeg) else -2))) := by
  have hp5 : p < 5 := by omega
  refine cw_of (cd := cd_X7_faded) (nL := 4) rfl rfl ?_
  show aWP _ _ (0, [some (.ref 84), some (.int (nI p)), some (.int n), none], [], (HD, mi, ml, mr)) _
  refine wp_steps 2 (t' := (2, [some (.ref 84), some (.int (nI p)), some (.int n), none], [.int (nI p), .ref 84], (HD, mi, ml, mr))) rfl ?_
  refine wp_calv (as := [.int (nI p)]) rfl rfl rfl (Nat.le_of_ble_eq_true rfl) ⟨by decide, rfl⟩ ((c_isOne_ok (mi := mi) (ml := ml) hM hN hN5 hpN)) (by decide) ?_
  rintro _ _ ⟨rfl, rfl⟩
  show aWP _ _ (3, [some (.ref 84), some (.int (nI p)), some (.int n), none], [.int 1], (HD, mi, ml, mr)) _
  refine wp_bI rfl (fun c_1 => ?_) (fun c_1 => ?_)
  · have c_1 : (1 : Int32) = 0 := of_decide_eq_true c_1
    exact absurd c_1 (by decide)
  have c_1 : ¬ ((1 : Int32) = 0) := of_decide_eq_false c_1
  refine wp_steps 4 (t' := (8, [some (.ref 84), some (.int (nI p)), some (.int n), none], [.long 40, .long 0, .long n.toInt64], (HD, mi, ml, mr))) rfl ?_
  refine wp_cal (as := [.long n.toInt64, .long 0, .long 40]) rfl rfl rfl (Nat.le_of_ble_eq_true rfl) ((c_in (x := n) (lo := 0) (hi := 40) rfl (by decide) (by decide))) (by decide) ?_
  rintro _ _ ⟨rfl, rfl⟩
  show aWP _ _ (9, [some (.ref 84), some (.int (nI p)), some (.int n), none], [.int (if inR 0 40 n then (1 : Int32) else 0)], (HD, mi, ml, mr)) _
  refine wp_bI rfl (fun c_2 => ?_) (fun c_2 => ?_)
  · have c_2 : ¬ (if inR 0 40 n then (1 : Int32) else 0) = 0 := of_decide_eq_true c_2
    refine wp_steps 2 (t' := (14, [some (.ref 84), some (.int (nI p)), some (.int n), none], [.int (nI p), .ref 84], (HD, mi, ml, mr))) rfl ?_
    refine wp_calv (as := [.int (nI p)]) rfl rfl rfl (Nat.le_of_ble_eq_true rfl) ⟨by decide, rfl⟩ ((r_aside (mi := mi) (ml := ml) hM hp5)) (by decide) ?_
    rintro _ _ ⟨rfl, m_1, rfl, a1⟩
    show aWP _ _ (15, [some (.ref 84), some (.int (nI p)), some (.int n), none], [], (HD, m_1, ml, mr)) _
    refine wp_steps 2 (t' := (17, [some (.ref 84), some (.int (nI p)), some (.int n), some (.int 0)], [], (HD, m_1, ml, mr))) rfl ?_
    have hG := (show inR 0 40 n from (i0_t c_2))
    have h41 := ax40 hG
    have en := (aix_eq h41).1
    have hle : n.toNatClampNeg ≤ 40 := Nat.le_of_lt_succ (aix_out h41).2
    suffices hh : aWP (aEx (aTb X) 47) cd_X7_faded (17, [some (.ref 84), some (.int (nI p)), some (.int (nI n.toNatClampNeg)), some (.int 0)], [], (HD, m_1, ml, mr)) _ by
      rw [← en] at hh
      exact hh
    refine l_rfaded hM hp5 hle n.toNatClampNeg 0 m_1 ml _ _ (by omega) (WY.of a1 hR hok) (fun m' w' h4 => ?_)
    refine wp_steps 2 (t' := (33, [some (.ref 84), some (.int (nI p)), some (.int (nI n.toNatClampNeg)), some (.int (nI n.toNatClampNeg))], [.int (nI p), .ref 84], (HD, m', w', mr))) rfl ?_
    refine wp_calv (as := [.int (nI p)]) rfl rfl rfl (Nat.le_of_ble_eq_true rfl) ⟨by decide, rfl⟩ ((y_many (w := w') hM hp5 h4)) (by decide) ?_
    rintro _ _ ⟨rfl, m_5, w_5, rfl, h5⟩
    show aWP _ _ (34, [some (.ref 84), some (.int (nI p)), some (.int (nI n.toNatClampNeg)), some (.int (nI n.toNatClampNeg))], [.int (nI (fdG (twR mi c0 c1 c2) (puR mi p) n.toNatClampNeg))], (HD, m_5, w_5, mr)) _
    refine wp_steps 3 (t' := (37, [some (.ref 84), some (.int (nI p)), some (.int (nI n.toNatClampNeg)), some (.int (nI (fdG (twR mi c0 c1 c2) (puR mi p) n.toNatClampNeg)))], [.int (nI p), .ref 84], (HD, m_5, w_5, mr))) rfl ?_
    refine wp_calv (as := [.int (nI p)]) rfl rfl rfl (Nat.le_of_ble_eq_true rfl) ⟨by decide, rfl⟩ ((r_back (mi := m_5) (ml := w_5) hM hp5)) (by decide) ?_
    rintro _ _ ⟨rfl, m_6, rfl, b6⟩
    show aWP _ _ (38, [some (.ref 84), some (.int (nI p)), some (.int (nI n.toNatClampNeg)), some (.int (nI (fdG (twR mi c0 c1 c2) (puR mi p) n.toNatClampNeg)))], [], (HD, m_6, w_5, mr)) _
    refine wp_steps 1 (t' := (39, [some (.ref 84), some (.int (nI p)), some (.int (nI n.toNatClampNeg)), some (.int (nI (fdG (twR mi c0 c1 c2) (puR mi p) n.toNatClampNeg)))], [.int (nI (fdG (twR mi c0 c1 c2) (puR mi p) n.toNatClampNeg))], (HD, m_6, w_5, mr))) rfl ?_
    refine wp_ret rfl rfl ⟨⟨Nat.le_refl _, Nat.le_refl _⟩, ?_⟩
    exact ⟨by rw [if_pos hG], m_6, w_5, rfl, abq a1 h5.1 b6⟩
  · have c_2 : (if inR 0 40 n then (1 : Int32) else 0) = 0 := Decidable.not_not.mp (of_decide_eq_false c_2)
    refine wp_steps 1 (t' := (11, [some (.ref 84), some (.int (nI p)), some (.int n), none], [.int (-2)], (HD, mi, ml, mr))) rfl ?_
    refine wp_ret rfl rfl ⟨⟨Nat.le_refl _, Nat.le_refl _⟩, ?_⟩
    exact ⟨by rw [if_neg (show ¬ (inR 0 40 n) from fun z => (i0_f c_2) z)], mi, ml, rfl, frQ.rf mi⟩
