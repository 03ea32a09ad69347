/-! the reference: sheets (written by wip/whole/mkrefK.py) -/
set_option maxRecDepth 20000 in
set_option maxHeartbeats 1000000 in
theorem c_isSheet {X : aXt × Value} {mi : Nat → Nat → Int32} {ml : Nat → Nat → Int64} {mr : Nat → Nat → Option Nat} {x : Int32} : aCW X 2 209 [.int x] (HD, mi, ml, mr) (rdI mi ml mr (if aixn x 4 = true then 1 else 0)) := by
  refine cw_of (cd := cd_X7_isSheet) (nL := 1) rfl rfl ?_
  show aWP _ _ (0, [some (.int x)], [], (HD, mi, ml, mr)) _
  refine wp_steps 4 (t' := (4, [some (.int x)], [.long 3, .long 0, .long x.toInt64], (HD, mi, ml, mr))) rfl ?_
  refine wp_cal (as := [.long x.toInt64, .long 0, .long 3]) rfl rfl rfl (Nat.le_of_ble_eq_true rfl) ((c_in_ax (x := x) (hi := 3) (n := 4) (by decide) (by decide) (by decide))) (by decide) ?_
  rintro _ _ ⟨rfl, rfl⟩
  show aWP _ _ (5, [some (.int x)], [.int (if aixn x 4 = true then (1 : Int32) else 0)], (HD, mi, ml, mr)) _
  refine wp_ret rfl (if_pos (qZ_i1 _)) ⟨⟨Nat.le_refl _, Nat.le_refl _⟩, ?_⟩
  exact ⟨rfl, rfl⟩
theorem c_isSheet_n {X : aXt × Value} {mi : Nat → Nat → Int32} {ml : Nat → Nat → Int64} {mr : Nat → Nat → Option Nat} {s : Nat} (hs : s < 4) : aCW X 2 209 [.int (nI s)] (HD, mi, ml, mr) (rdI mi ml mr 1) := by
  have q := c_isSheet (X := X) (mi := mi) (ml := ml) (mr := mr) (x := nI s)
  rw [if_pos (aix_nI hs (by decide))] at q
  exact q
theorem c_isSheet_x {X : aXt × Value} {mi : Nat → Nat → Int32} {ml : Nat → Nat → Int64} {mr : Nat → Nat → Option Nat} {x : Int32} (hg : ¬ aixn x 4 = true) : aCW X 2 209 [.int x] (HD, mi, ml, mr) (rdI mi ml mr 0) := by
  have q := c_isSheet (X := X) (mi := mi) (ml := ml) (mr := mr) (x := x)
  rw [if_neg hg] at q
  exact q
set_option maxRecDepth 20000 in
set_option maxHeartbeats 1000000 in
theorem r_cell_no {X : aXt × Value} {mi : Nat → Nat → Int32} {ml : Nat → Nat → Int64} {mr : Nat → Nat → Option Nat} (hM : MRok mr) {sh i v : Int32} (hg : ¬ aixn sh 4 = true) : aCW X 3 211 [.ref 84, .int sh, .int i, .int v] (HD, mi, ml, mr) (fun r h' => r = some (.int (-2)) ∧ h' = (HD, mi, ml, mr)) := by
  refine cw_of (cd := cd_X7_cell) (nL := 4) rfl rfl ?_
  show aWP _ _ (0, [some (.ref 84), some (.int sh), some (.int i), some (.int v)], [], (HD, mi, ml, mr)) _
  refine wp_steps 1 (t' := (1, [some (.ref 84), some (.int sh), some (.int i), some (.int v)], [.int sh], (HD, mi, ml, mr))) rfl ?_
  refine wp_cal (as := [.int sh]) rfl rfl rfl (Nat.le_of_ble_eq_true rfl) ((c_isSheet_x (ml := ml) (mr := mr) hg)) (by decide) ?_
  rintro _ _ ⟨rfl, rfl⟩
  show aWP _ _ (2, [some (.ref 84), some (.int sh), some (.int i), some (.int v)], [.int 0], (HD, mi, ml, mr)) _
  refine wp_bI rfl (fun c_1 => ?_) (fun c_1 => ?_)
  · have c_1 : ¬ (0 : Int32) = 0 := of_decide_eq_true c_1
    exact absurd c_1 (by decide)
  have c_1 : (0 : Int32) = 0 := Decidable.not_not.mp (of_decide_eq_false c_1)
  refine wp_steps 1 (t' := (4, [some (.ref 84), some (.int sh), some (.int i), some (.int v)], [.int (-2)], (HD, mi, ml, mr))) rfl ?_
  refine wp_ret rfl rfl ⟨⟨Nat.le_refl _, Nat.le_refl _⟩, ?_⟩
  exact ⟨rfl, rfl⟩
set_option maxRecDepth 20000 in
set_option maxHeartbeats 1000000 in
theorem r_cell_0 {X : aXt × Value} {mi : Nat → Nat → Int32} {ml : Nat → Nat → Int64} {mr : Nat → Nat → Option Nat} (hM : MRok mr) {s : Nat} (hs4 : s < 4) (hT : mi 97 s = 0) {i v : Int32} : aCW X 3 211 [.ref 84, .int (nI s), .int i, .int v] (HD, mi, ml, mr) (fun r h' => r = some (.int (-11)) ∧ h' = (HD, mi, ml, mr)) := by
  refine cw_of (cd := cd_X7_cell) (nL := 4) rfl rfl ?_
  show aWP _ _ (0, [some (.ref 84), some (.int (nI s)), some (.int i), some (.int v)], [], (HD, mi, ml, mr)) _
  refine wp_steps 1 (t' := (1, [some (.ref 84), some (.int (nI s)), some (.int i), some (.int v)], [.int (nI s)], (HD, mi, ml, mr))) rfl ?_
  refine wp_cal (as := [.int (nI s)]) rfl rfl rfl (Nat.le_of_ble_eq_true rfl) ((c_isSheet_n (ml := ml) (mr := mr) hs4)) (by decide) ?_
  rintro _ _ ⟨rfl, rfl⟩
  show aWP _ _ (2, [some (.ref 84), some (.int (nI s)), some (.int i), some (.int v)], [.int 1], (HD, mi, ml, mr)) _
  refine wp_bI rfl (fun c_1 => ?_) (fun c_1 => ?_)
  rotate_left
  · have c_1 : (1 : Int32) = 0 := Decidable.not_not.mp (of_decide_eq_false c_1)
    exact absurd c_1 (by decide)
  have c_1 : ¬ (1 : Int32) = 0 := of_decide_eq_true c_1
  refine wp_steps 1 (t' := (6, [some (.ref 84), some (.int (nI s)), some (.int i), some (.int v)], [.ref 84], (HD, mi, ml, mr))) rfl ?_
  refine wp_getr rfl ⟨by decide, rfl⟩ rfl (hM (84, 37, 97) (by decide)) ?_
  refine wp_steps 1 (t' := (8, [some (.ref 84), some (.int (nI s)), some (.int i), some (.int v)], [.int (nI s), .ref 97], (HD, mi, ml, mr))) rfl ?_
  refine wp_zald rfl ⟨by decide, rfl⟩ (aix_nI hs4 (by decide)) ?_
  rw [nI_clamp (n := s) (by omega)]
  rw [hT]
  refine wp_bI rfl (fun c_2 => ?_) (fun c_2 => ?_)
  · have c_2 : ¬ (0 : Int32) = 0 := of_decide_eq_true c_2
    exact absurd c_2 (by decide)
  have c_2 : (0 : Int32) = 0 := Decidable.not_not.mp (of_decide_eq_false c_2)
  refine wp_steps 1 (t' := (11, [some (.ref 84), some (.int (nI s)), some (.int i), some (.int v)], [.int (-11)], (HD, mi, ml, mr))) rfl ?_
  refine wp_ret rfl rfl ⟨⟨Nat.le_refl _, Nat.le_refl _⟩, ?_⟩
  exact ⟨rfl, rfl⟩
theorem inZ {x : Int32} {Z : Nat} (hZ : Z ≤ 40) : inR 0 (nI Z - 1) x ↔ aixn x Z = true := by
  have e : (nI Z - 1).toInt = (Z : Int) - 1 := by
    rw [sub_t (by rw [nI_toInt (by omega)]; omega) (by decide), nI_toInt (by omega)]
    rfl
  rw [aix_iff (by omega), rI, e, i0, Int32.lt_iff_toInt_lt, Int32.le_iff_toInt_le, nI_toInt (by omega), i0]
  omega
theorem hsF_Z {x : Int32} {Z : Nat} (hZ : Z ≤ 40) : hsF (nI Z) x = 0 ↔ ¬ aixn x Z = true := by
  rw [aix_iff (by omega)]
  unfold hsF
  by_cases a : x < 0
  · rw [if_pos a]; exact ⟨fun _ z => z.1 a, fun _ => rfl⟩
  · rw [if_neg a]
    by_cases b : nI Z ≤ x
    · rw [if_pos b]; exact ⟨fun _ z => z.2 b, fun _ => rfl⟩
    · rw [if_neg b, if_neg]
      · exact ⟨fun z => absurd z (by decide), fun z => absurd ⟨a, b⟩ z⟩
      · intro c
        rw [Int32.le_iff_toInt_le, nI_toInt (by omega)] at b
        rw [Int32.le_iff_toInt_le, show (40 : Int32).toInt = 40 from rfl] at c
        omega
set_option maxRecDepth 20000 in
set_option maxHeartbeats 1000000 in
theorem r_cell_1 {X : aXt × Value} {mi : Nat → Nat → Int32} {ml : Nat → Nat → Int64} {mr : Nat → Nat → Option Nat} (hM : MRok mr) {s : Nat} (hs4 : s < 4) (hT : mi 97 s = 1) {Z : Nat} (hz : mi 99 s = nI Z) (hZ : Z ≤ 40) {i v : Int32} : aCW X 3 211 [.ref 84, .int (nI s), .int i, .int v] (HD, mi, ml, mr) (fun r h' => r = some (.int (if hsF (nI Z) i = 0 then -12 else 1)) ∧ h' = (HD, if hsF (nI Z) i = 0 then mi else aup mi 100 (40 * s + i.toNatClampNeg) (siF (mi 98 s) v), ml, mr)) := by
  refine cw_of (cd := cd_X7_cell) (nL := 4) rfl rfl ?_
  show aWP _ _ (0, [some (.ref 84), some (.int (nI s)), some (.int i), some (.int v)], [], (HD, mi, ml, mr)) _
  refine wp_steps 1 (t' := (1, [some (.ref 84), some (.int (nI s)), some (.int i), some (.int v)], [.int (nI s)], (HD, mi, ml, mr))) rfl ?_
  refine wp_cal (as := [.int (nI s)]) rfl rfl rfl (Nat.le_of_ble_eq_true rfl) ((c_isSheet_n (ml := ml) (mr := mr) hs4)) (by decide) ?_
  rintro _ _ ⟨rfl, rfl⟩
  show aWP _ _ (2, [some (.ref 84), some (.int (nI s)), some (.int i), some (.int v)], [.int 1], (HD, mi, ml, mr)) _
  refine wp_bI rfl (fun c_1 => ?_) (fun c_1 => ?_)
  rotate_left
  · have c_1 : (1 : Int32) = 0 := Decidable.not_not.mp (of_decide_eq_false c_1)
    exact absurd c_1 (by decide)
  have c_1 : ¬ (1 : Int32) = 0 := of_decide_eq_true c_1
  refine wp_steps 1 (t' := (6, [some (.ref 84), some (.int (nI s)), some (.int i), some (.int v)], [.ref 84], (HD, mi, ml, mr))) rfl ?_
  refine wp_getr rfl ⟨by decide, rfl⟩ rfl (hM (84, 37, 97) (by decide)) ?_
  refine wp_steps 1 (t' := (8, [some (.ref 84), some (.int (nI s)), some (.int i), some (.int v)], [.int (nI s), .ref 97], (HD, mi, ml, mr))) rfl ?_
  refine wp_zald rfl ⟨by decide, rfl⟩ (aix_nI hs4 (by decide)) ?_
  rw [nI_clamp (n := s) (by omega)]
  rw [hT]
  refine wp_bI rfl (fun c_2 => ?_) (fun c_2 => ?_)
  rotate_left
  · have c_2 : (1 : Int32) = 0 := Decidable.not_not.mp (of_decide_eq_false c_2)
    exact absurd c_2 (by decide)
  have c_2 : ¬ (1 : Int32) = 0 := of_decide_eq_true c_2
  refine wp_steps 4 (t' := (16, [some (.ref 84), some (.int (nI s)), some (.int i), some (.int v)], [.ref 84, .long 0, .long i.toInt64], (HD, mi, ml, mr))) rfl ?_
  refine wp_getr rfl ⟨by decide, rfl⟩ rfl (hM (84, 39, 99) (by decide)) ?_
  refine wp_steps 1 (t' := (18, [some (.ref 84), some (.int (nI s)), some (.int i), some (.int v)], [.int (nI s), .ref 99, .long 0, .long i.toInt64], (HD, mi, ml, mr))) rfl ?_
  refine wp_iald rfl ⟨by decide, rfl⟩ (aix_nI hs4 (by decide)) ?_
  rw [nI_clamp (n := s) (by omega)]
  rw [hz]
  refine wp_steps 3 (t' := (22, [some (.ref 84), some (.int (nI s)), some (.int i), some (.int v)], [.long (((nI Z) - 1).toInt64), .long 0, .long i.toInt64], (HD, mi, ml, mr))) rfl ?_
  refine wp_cal (as := [.long i.toInt64, .long 0, .long (((nI Z) - 1).toInt64)]) rfl rfl rfl (Nat.le_of_ble_eq_true rfl) ((c_in (x := i) (lo := 0) (hi := nI Z - 1) rfl (by decide) rfl)) (by decide) ?_
  rintro _ _ ⟨rfl, rfl⟩
  show aWP _ _ (23, [some (.ref 84), some (.int (nI s)), some (.int i), some (.int v)], [.int (if inR 0 (nI Z - 1) i then (1 : Int32) else 0)], (HD, mi, ml, mr)) _
  refine wp_bI rfl (fun c_3 => ?_) (fun c_3 => ?_)
  · have c_3 : ¬ (if inR 0 (nI Z - 1) i then (1 : Int32) else 0) = 0 := of_decide_eq_true c_3
    refine wp_steps 1 (t' := (27, [some (.ref 84), some (.int (nI s)), some (.int i), some (.int v)], [.ref 84], (HD, mi, ml, mr))) rfl ?_
    refine wp_getr rfl ⟨by decide, rfl⟩ rfl (hM (84, 40, 100) (by decide)) ?_
    refine wp_steps 3 (t' := (31, [some (.ref 84), some (.int (nI s)), some (.int i), some (.int v)], [.int (40 * (nI s)), .ref 100], (HD, mi, ml, mr))) rfl ?_
    have qi := (inZ hZ).mp (i0_t c_3)
    have hi := (aix_out qi).2
    rw [show (40 : Int32) * nI s = nI (40 * s) from (Int32.ofNat_mul 40 s).symm]
    refine wp_steps 2 (t' := (33, [some (.ref 84), some (.int (nI s)), some (.int i), some (.int v)], [.int ((nI (40 * s)) + i), .ref 100], (HD, mi, ml, mr))) rfl ?_
    rw [show nI (40 * s) + i = nI (40 * s + i.toNatClampNeg) from by rw [← nI_add, ← (aix_eq qi).1]]
    refine wp_steps 1 (t' := (34, [some (.ref 84), some (.int (nI s)), some (.int i), some (.int v)], [.ref 84, .int (nI (40 * s + i.toNatClampNeg)), .ref 100], (HD, mi, ml, mr))) rfl ?_
    refine wp_getr rfl ⟨by decide, rfl⟩ rfl (hM (84, 38, 98) (by decide)) ?_
    refine wp_steps 1 (t' := (36, [some (.ref 84), some (.int (nI s)), some (.int i), some (.int v)], [.int (nI s), .ref 98, .int (nI (40 * s + i.toNatClampNeg)), .ref 100], (HD, mi, ml, mr))) rfl ?_
    refine wp_iald rfl ⟨by decide, rfl⟩ (aix_nI hs4 (by decide)) ?_
    rw [nI_clamp (n := s) (by omega)]
    refine wp_bI rfl (fun c_4 => ?_) (fun c_4 => ?_)
    · have c_4 : ¬ (mi 98 s) = 0 := of_decide_eq_true c_4
      refine wp_steps 1 (t' := (42, [some (.ref 84), some (.int (nI s)), some (.int i), some (.int v)], [.ref 84, .int (nI (40 * s + i.toNatClampNeg)), .ref 100], (HD, mi, ml, mr))) rfl ?_
      refine wp_getr rfl ⟨by decide, rfl⟩ rfl (hM (84, 38, 98) (by decide)) ?_
      refine wp_steps 1 (t' := (44, [some (.ref 84), some (.int (nI s)), some (.int i), some (.int v)], [.int (nI s), .ref 98, .int (nI (40 * s + i.toNatClampNeg)), .ref 100], (HD, mi, ml, mr))) rfl ?_
      refine wp_iald rfl ⟨by decide, rfl⟩ (aix_nI hs4 (by decide)) ?_
      rw [nI_clamp (n := s) (by omega)]
      refine wp_steps 1 (t' := (46, [some (.ref 84), some (.int (nI s)), some (.int i), some (.int v)], [.int 1, .int (mi 98 s), .int (nI (40 * s + i.toNatClampNeg)), .ref 100], (HD, mi, ml, mr))) rfl ?_
      refine wp_bC rfl (fun c_5 => ?_) (fun c_5 => ?_)
      · have c_5 : ¬ (mi 98 s) = 1 := of_decide_eq_true c_5
        refine wp_steps 1 (t' := (51, [some (.ref 84), some (.int (nI s)), some (.int i), some (.int v)], [.int v, .int (nI (40 * s + i.toNatClampNeg)), .ref 100], (HD, mi, ml, mr))) rfl ?_
        refine wp_iast rfl ⟨by decide, rfl⟩ (aix_nI (by omega) (by decide)) (fun m_6 h_7 => ?_)
        subst h_7
        rw [nI_clamp (n := 40 * s + i.toNatClampNeg) (by omega)]
        refine wp_steps 1 (t' := (53, [some (.ref 84), some (.int (nI s)), some (.int i), some (.int v)], [.int 1], (HD, (aup mi 100 (40 * s + i.toNatClampNeg) v), ml, mr))) rfl ?_
        refine wp_ret rfl rfl ⟨⟨Nat.le_refl _, Nat.le_refl _⟩, ?_⟩
        have q2 : ¬ hsF (nI Z) i = 0 := fun z => (hsF_Z hZ).mp z qi
        have es : siF (mi 98 s) v = v := by simp [siF, c_4, c_5]
        exact ⟨by rw [if_neg q2], by rw [if_neg q2, es]⟩
      · have c_5 : (mi 98 s) = 1 := Decidable.not_not.mp (of_decide_eq_false c_5)
        refine wp_steps 3 (t' := (51, [some (.ref 84), some (.int (nI s)), some (.int i), some (.int v)], [.int (fi2s v), .int (nI (40 * s + i.toNatClampNeg)), .ref 100], (HD, mi, ml, mr))) rfl ?_
        refine wp_iast rfl ⟨by decide, rfl⟩ (aix_nI (by omega) (by decide)) (fun m_8 h_9 => ?_)
        subst h_9
        rw [nI_clamp (n := 40 * s + i.toNatClampNeg) (by omega)]
        refine wp_steps 1 (t' := (53, [some (.ref 84), some (.int (nI s)), some (.int i), some (.int v)], [.int 1], (HD, (aup mi 100 (40 * s + i.toNatClampNeg) (fi2s v)), ml, mr))) rfl ?_
        refine wp_ret rfl rfl ⟨⟨Nat.le_refl _, Nat.le_refl _⟩, ?_⟩
        have q2 : ¬ hsF (nI Z) i = 0 := fun z => (hsF_Z hZ).mp z qi
        have es : siF (mi 98 s) v = fi2s v := by simp [siF, c_4, c_5]
        exact ⟨by rw [if_neg q2], by rw [if_neg q2, es]⟩
    · have c_4 : (mi 98 s) = 0 := Decidable.not_not.mp (of_decide_eq_false c_4)
      refine wp_steps 3 (t' := (51, [some (.ref 84), some (.int (nI s)), some (.int i), some (.int v)], [.int (fi2b v), .int (nI (40 * s + i.toNatClampNeg)), .ref 100], (HD, mi, ml, mr))) rfl ?_
      refine wp_iast rfl ⟨by decide, rfl⟩ (aix_nI (by omega) (by decide)) (fun m_10 h_11 => ?_)
      subst h_11
      rw [nI_clamp (n := 40 * s + i.toNatClampNeg) (by omega)]
      refine wp_steps 1 (t' := (53, [some (.ref 84), some (.int (nI s)), some (.int i), some (.int v)], [.int 1], (HD, (aup mi 100 (40 * s + i.toNatClampNeg) (fi2b v)), ml, mr))) rfl ?_
      refine wp_ret rfl rfl ⟨⟨Nat.le_refl _, Nat.le_refl _⟩, ?_⟩
      have q2 : ¬ hsF (nI Z) i = 0 := fun z => (hsF_Z hZ).mp z qi
      have es : siF (mi 98 s) v = fi2b v := by simp [siF, c_4]
      exact ⟨by rw [if_neg q2], by rw [if_neg q2, es]⟩
  · have c_3 : (if inR 0 (nI Z - 1) i then (1 : Int32) else 0) = 0 := Decidable.not_not.mp (of_decide_eq_false c_3)
    refine wp_steps 1 (t' := (25, [some (.ref 84), some (.int (nI s)), some (.int i), some (.int v)], [.int (-12)], (HD, mi, ml, mr))) rfl ?_
    refine wp_ret rfl rfl ⟨⟨Nat.le_refl _, Nat.le_refl _⟩, ?_⟩
    have q : hsF (nI Z) i = 0 := (hsF_Z hZ).mpr (fun z => i0_f c_3 ((inZ hZ).mpr z))
    exact ⟨by rw [if_pos q], by rw [if_pos q]⟩
set_option maxRecDepth 20000 in
set_option maxHeartbeats 1000000 in
theorem r_sheet_no {X : aXt × Value} {mi : Nat → Nat → Int32} {ml : Nat → Nat → Int64} {mr : Nat → Nat → Option Nat} (hM : MRok mr) {sh so n : Int32} (hg : ¬ aixn sh 4 = true) : aCW X 3 210 [.ref 84, .int sh, .int so, .int n] (HD, mi, ml, mr) (fun r h' => r = some (.int (-2)) ∧ h' = (HD, mi, ml, mr)) := by
  refine cw_of (cd := cd_X7_sheet) (nL := 5) rfl rfl ?_
  show aWP _ _ (0, [some (.ref 84), some (.int sh), some (.int so), some (.int n), none], [], (HD, mi, ml, mr)) _
  refine wp_steps 1 (t' := (1, [some (.ref 84), some (.int sh), some (.int so), some (.int n), none], [.int sh], (HD, mi, ml, mr))) rfl ?_
  refine wp_cal (as := [.int sh]) rfl rfl rfl (Nat.le_of_ble_eq_true rfl) ((c_isSheet_x (ml := ml) (mr := mr) hg)) (by decide) ?_
  rintro _ _ ⟨rfl, rfl⟩
  show aWP _ _ (2, [some (.ref 84), some (.int sh), some (.int so), some (.int n), none], [.int 0], (HD, mi, ml, mr)) _
  refine wp_bI rfl (fun c_1 => ?_) (fun c_1 => ?_)
  rotate_left
  · have c_1 : ¬ ((0 : Int32) = 0) := of_decide_eq_false c_1
    exact absurd c_1 (by decide)
  have c_1 : (0 : Int32) = 0 := of_decide_eq_true c_1
  refine wp_steps 1 (t' := (15, [some (.ref 84), some (.int sh), some (.int so), some (.int n), none], [.int (-2)], (HD, mi, ml, mr))) rfl ?_
  refine wp_ret rfl rfl ⟨⟨Nat.le_refl _, Nat.le_refl _⟩, ?_⟩
  exact ⟨rfl, rfl⟩
set_option maxRecDepth 20000 in
set_option maxHeartbeats 1000000 in
theorem l_rsheet {X : aXt × Value} {ml : Nat → Nat → Int64} {mr : Nat → Nat → Option Nat} (hM : MRok mr) {s : Nat} (hs4 : s < 4) {so : Int32} (hso : ¬ so < 0) {Z : Nat} (hZ : Z ≤ 40) {mb : Nat → Nat → Int32} {Q : Option Value → aM → Prop} (hk : (∀ m', (∀ x j, ¬ (x = 100 ∧ 40 * s ≤ j ∧ j < 40 * s + Z) → m' x j = mb x j) → (∀ j, j < Z → m' 100 (40 * s + j) = 0) → aWP (aEx (aTb X) 2) cd_X7_sheet (59, [some (.ref 84), some (.int (nI s)), some (.int so), some (.int (nI Z)), some (.int (nI Z))], [], (HD, m', ml, mr)) Q)) : ∀ (g k : Nat) (m : Nat → Nat → Int32), k + g = Z → (∀ x j, ¬ (x = 100 ∧ 40 * s ≤ j ∧ j < 40 * s + Z) → m x j = mb x j) → (∀ j, j < k → m 100 (40 * s + j) = 0) → aWP (aEx (aTb X) 2) cd_X7_sheet (43, [some (.ref 84), some (.int (nI s)), some (.int so), some (.int (nI Z)), some (.int (nI k))], [], (HD, m, ml, mr)) Q := by
  intro g
  induction g with
  | zero =>
    intro k m hg h1 h2
    obtain rfl : k = Z := by omega
    refine wp_steps 2 (t' := (45, [some (.ref 84), some (.int (nI s)), some (.int so), some (.int (nI k)), some (.int (nI k))], [.int (nI k), .int (nI k)], (HD, m, ml, mr))) rfl ?_
    refine wp_bC rfl (fun c_1 => ?_) (fun c_1 => ?_)
    rotate_left
    · have c_1 : ¬ ((nI k) ≤ (nI k)) := of_decide_eq_false c_1
      exact absurd (Int32.le_refl _) c_1
    have c_1 : (nI k) ≤ (nI k) := of_decide_eq_true c_1
    exact hk m h1 h2
  | succ g ih =>
    intro k m hg h1 h2
    have hkz : k < Z := by omega
    refine wp_steps 2 (t' := (45, [some (.ref 84), some (.int (nI s)), some (.int so), some (.int (nI Z)), some (.int (nI k))], [.int (nI Z), .int (nI k)], (HD, m, ml, mr))) rfl ?_
    refine wp_bC rfl (fun c_1 => ?_) (fun c_1 => ?_)
    · have c_1 : (nI Z) ≤ (nI k) := of_decide_eq_true c_1
      exact absurd c_1 (nI_ge (a := k) (b := Z) hkz (by omega))
    have c_1 : ¬ ((nI Z) ≤ (nI k)) := of_decide_eq_false c_1
    refine wp_steps 1 (t' := (47, [some (.ref 84), some (.int (nI s)), some (.int so), some (.int (nI Z)), some (.int (nI k))], [.int so], (HD, m, ml, mr))) rfl ?_
    refine wp_bI rfl (fun c_2 => ?_) (fun c_2 => ?_)
    · have c_2 : so < 0 := of_decide_eq_true c_2
      exact absurd c_2 hso
    have c_2 : ¬ (so < 0) := of_decide_eq_false c_2
    refine wp_steps 1 (t' := (49, [some (.ref 84), some (.int (nI s)), some (.int so), some (.int (nI Z)), some (.int (nI k))], [.ref 84], (HD, m, ml, mr))) rfl ?_
    refine wp_getr rfl ⟨by decide, rfl⟩ rfl (hM (84, 40, 100) (by decide)) ?_
    refine wp_steps 3 (t' := (53, [some (.ref 84), some (.int (nI s)), some (.int so), some (.int (nI Z)), some (.int (nI k))], [.int (40 * (nI s)), .ref 100], (HD, m, ml, mr))) rfl ?_
    rw [show (40 : Int32) * nI s = nI (40 * s) from (Int32.ofNat_mul 40 s).symm]
    refine wp_steps 2 (t' := (55, [some (.ref 84), some (.int (nI s)), some (.int so), some (.int (nI Z)), some (.int (nI k))], [.int ((nI (40 * s)) + (nI k)), .ref 100], (HD, m, ml, mr))) rfl ?_
    rw [nI_add]
    refine wp_steps 1 (t' := (56, [some (.ref 84), some (.int (nI s)), some (.int so), some (.int (nI Z)), some (.int (nI k))], [.int 0, .int (nI (40 * s + k)), .ref 100], (HD, m, ml, mr))) rfl ?_
    refine wp_iast rfl ⟨by decide, rfl⟩ (aix_nI (by omega) (by decide)) (fun m_3 h_4 => ?_)
    subst h_4
    rw [nI_clamp (n := 40 * s + k) (by omega)]
    refine wp_steps 2 (t' := (43, [some (.ref 84), some (.int (nI s)), some (.int so), some (.int (nI Z)), some (.int ((nI k) + Int32.ofInt 1))], [], (HD, (aup m 100 (40 * s + k) 0), ml, mr))) rfl ?_
    rw [inc_nI]
    refine ih (k + 1) _ (by omega) (fun x j q => ?_) (fun j hj => ?_)
    · rw [← h1 x j q]; unfold aup; by_cases e : x = 100
      · rw [if_pos e, if_neg (fun z => q ⟨e, by omega, by omega⟩)]
      · rw [if_neg e]
    · by_cases e : j = k
      · subst e; simp only [aup, if_pos]
      · have e2 : ¬ 40 * s + j = 40 * s + k := by omega
        simp only [aup, if_pos, if_neg e2]; exact h2 j (by omega)
set_option maxRecDepth 20000 in
set_option maxHeartbeats 1000000 in
theorem r_sheet_ok {X : aXt × Value} {mi : Nat → Nat → Int32} {ml : Nat → Nat → Int64} {mr : Nat → Nat → Option Nat} (hM : MRok mr) {s : Nat} (hs4 : s < 4) {so n : Int32} : aCW X 3 210 [.ref 84, .int (nI s), .int so, .int n] (HD, mi, ml, mr) (fun r h' => r = some (.int (stV so n)) ∧ (stV so n ≠ 1 → h' = (HD, mi, ml, mr)) ∧ (stV so n = 1 → so = -1 → h' = (HD, aup (aup (aup mi 97 s 0) 98 s so) 99 s n, ml, mr)) ∧ (stV so n = 1 → ¬ so = -1 → ∃ m', h' = (HD, m', ml, mr) ∧ (∀ x j, ¬ (x = 100 ∧ 40 * s ≤ j ∧ j < 40 * s + n.toNatClampNeg) → m' x j = (aup (aup (aup mi 97 s 1) 98 s so) 99 s n) x j) ∧ ∀ j, j < n.toNatClampNeg → m' 100 (40 * s + j) = 0)) := by
  refine cw_of (cd := cd_X7_sheet) (nL := 5) rfl rfl ?_
  show aWP _ _ (0, [some (.ref 84), some (.int (nI s)), some (.int so), some (.int n), none], [], (HD, mi, ml, mr)) _
  refine wp_steps 1 (t' := (1, [some (.ref 84), some (.int (nI s)), some (.int so), some (.int n), none], [.int (nI s)], (HD, mi, ml, mr))) rfl ?_
  refine wp_cal (as := [.int (nI s)]) rfl rfl rfl (Nat.le_of_ble_eq_true rfl) ((c_isSheet_n (ml := ml) (mr := mr) hs4)) (by decide) ?_
  rintro _ _ ⟨rfl, rfl⟩
  show aWP _ _ (2, [some (.ref 84), some (.int (nI s)), some (.int so), some (.int n), none], [.int 1], (HD, mi, ml, mr)) _
  refine wp_bI rfl (fun c_1 => ?_) (fun c_1 => ?_)
  · have c_1 : (1 : Int32) = 0 := of_decide_eq_true c_1
    exact absurd c_1 (by decide)
  have c_1 : ¬ ((1 : Int32) = 0) := of_decide_eq_false c_1
  refine wp_steps 4 (t' := (7, [some (.ref 84), some (.int (nI s)), some (.int so), some (.int n), none], [.long 2, .long (-1), .long so.toInt64], (HD, mi, ml, mr))) rfl ?_
  refine wp_cal (as := [.long so.toInt64, .long (-1), .long 2]) rfl rfl rfl (Nat.le_of_ble_eq_true rfl) ((c_in (x := so) (lo := -1) (hi := 2) rfl (by decide) (by decide))) (by decide) ?_
  rintro _ _ ⟨rfl, rfl⟩
  show aWP _ _ (8, [some (.ref 84), some (.int (nI s)), some (.int so), some (.int n), none], [.int (if inR (-1) 2 so then (1 : Int32) else 0)], (HD, mi, ml, mr)) _
  refine wp_bI rfl (fun c_2 => ?_) (fun c_2 => ?_)
  · have c_2 : (if inR (-1) 2 so then (1 : Int32) else 0) = 0 := of_decide_eq_true c_2
    refine wp_steps 1 (t' := (15, [some (.ref 84), some (.int (nI s)), some (.int so), some (.int n), none], [.int (-2)], (HD, mi, ml, mr))) rfl ?_
    refine wp_ret rfl rfl ⟨⟨Nat.le_refl _, Nat.le_refl _⟩, ?_⟩
    have e : stV so n = -2 := if_neg (show ¬ (inR (-1) 2 so) from fun z => (i0_f c_2) z)
    exact ⟨by rw [e], fun _ => rfl, fun z => absurd (e.symm.trans z) (by decide), fun z => absurd (e.symm.trans z) (by decide)⟩
  · have c_2 : ¬ ((if inR (-1) 2 so then (1 : Int32) else 0) = 0) := of_decide_eq_false c_2
    refine wp_steps 1 (t' := (10, [some (.ref 84), some (.int (nI s)), some (.int so), some (.int n), none], [.int so], (HD, mi, ml, mr))) rfl ?_
    refine wp_bI rfl (fun c_3 => ?_) (fun c_3 => ?_)
    · have c_3 : so < 0 := of_decide_eq_true c_3
      refine wp_steps 1 (t' := (17, [some (.ref 84), some (.int (nI s)), some (.int so), some (.int n), none], [.int so], (HD, mi, ml, mr))) rfl ?_
      refine wp_bI rfl (fun c_4 => ?_) (fun c_4 => ?_)
      rotate_left
      · have c_4 : ¬ (so < 0) := of_decide_eq_false c_4
        exact absurd c_3 c_4
      have c_4 : so < 0 := of_decide_eq_true c_4
      refine wp_steps 1 (t' := (23, [some (.ref 84), some (.int (nI s)), some (.int so), some (.int n), none], [.ref 84], (HD, mi, ml, mr))) rfl ?_
      refine wp_getr rfl ⟨by decide, rfl⟩ rfl (hM (84, 37, 97) (by decide)) ?_
      refine wp_steps 2 (t' := (26, [some (.ref 84), some (.int (nI s)), some (.int so), some (.int n), none], [.int so, .int (nI s), .ref 97], (HD, mi, ml, mr))) rfl ?_
      refine wp_bI rfl (fun c_5 => ?_) (fun c_5 => ?_)
      rotate_left
      · have c_5 : ¬ (so < 0) := of_decide_eq_false c_5
        exact absurd c_4 c_5
      have c_5 : so < 0 := of_decide_eq_true c_5
      refine wp_steps 1 (t' := (30, [some (.ref 84), some (.int (nI s)), some (.int so), some (.int n), none], [.int 0, .int (nI s), .ref 97], (HD, mi, ml, mr))) rfl ?_
      refine wp_zast rfl ⟨by decide, rfl⟩ (aix_nI hs4 (by decide)) (by decide) (fun m_6 h_7 => ?_)
      subst h_7
      rw [nI_clamp (n := s) (by omega)]
      refine wp_steps 1 (t' := (32, [some (.ref 84), some (.int (nI s)), some (.int so), some (.int n), none], [.ref 84], (HD, (aup mi 97 s 0), ml, mr))) rfl ?_
      refine wp_getr rfl ⟨by decide, rfl⟩ rfl (hM (84, 38, 98) (by decide)) ?_
      refine wp_steps 2 (t' := (35, [some (.ref 84), some (.int (nI s)), some (.int so), some (.int n), none], [.int so, .int (nI s), .ref 98], (HD, (aup mi 97 s 0), ml, mr))) rfl ?_
      refine wp_iast rfl ⟨by decide, rfl⟩ (aix_nI hs4 (by decide)) (fun m_8 h_9 => ?_)
      subst h_9
      rw [nI_clamp (n := s) (by omega)]
      refine wp_steps 1 (t' := (37, [some (.ref 84), some (.int (nI s)), some (.int so), some (.int n), none], [.ref 84], (HD, (aup (aup mi 97 s 0) 98 s so), ml, mr))) rfl ?_
      refine wp_getr rfl ⟨by decide, rfl⟩ rfl (hM (84, 39, 99) (by decide)) ?_
      refine wp_steps 2 (t' := (40, [some (.ref 84), some (.int (nI s)), some (.int so), some (.int n), none], [.int n, .int (nI s), .ref 99], (HD, (aup (aup mi 97 s 0) 98 s so), ml, mr))) rfl ?_
      refine wp_iast rfl ⟨by decide, rfl⟩ (aix_nI hs4 (by decide)) (fun m_10 h_11 => ?_)
      subst h_11
      rw [nI_clamp (n := s) (by omega)]
      refine wp_steps 2 (t' := (43, [some (.ref 84), some (.int (nI s)), some (.int so), some (.int n), some (.int 0)], [], (HD, (aup (aup (aup mi 97 s 0) 98 s so) 99 s n), ml, mr))) rfl ?_
      have hG := (show inR (-1) 2 so from (i0_t c_2))
      have em : so = -1 := by
        have a := c_3
        have b := (rI.mp hG).1
        rw [Int32.lt_iff_toInt_lt, show (0 : Int32).toInt = 0 from rfl] at a
        rw [show (-1 : Int32).toInt = -1 from rfl] at b
        exact Int32.toInt_inj.mp (by rw [show (-1 : Int32).toInt = -1 from rfl]; omega)
      have e : stV so n = 1 := by unfold stV; rw [if_pos hG, if_pos em]
      refine wp_steps 2 (t' := (45, [some (.ref 84), some (.int (nI s)), some (.int so), some (.int n), some (.int 0)], [.int n, .int 0], (HD, (aup (aup (aup mi 97 s 0) 98 s so) 99 s n), ml, mr))) rfl ?_
      refine wp_bC rfl (fun c_61 => ?_) (fun c_61 => ?_)
      · have c_61 : n ≤ 0 := of_decide_eq_true c_61
        refine wp_steps 1 (t' := (60, [some (.ref 84), some (.int (nI s)), some (.int so), some (.int n), some (.int 0)], [.int 1], (HD, (aup (aup (aup mi 97 s 0) 98 s so) 99 s n), ml, mr))) rfl ?_
        refine wp_ret rfl rfl ⟨⟨Nat.le_refl _, Nat.le_refl _⟩, ?_⟩
        exact ⟨by rw [e], fun z => absurd e z, fun _ _ => rfl, fun _ z => absurd em z⟩
      · have c_61 : ¬ (n ≤ 0) := of_decide_eq_false c_61
        refine wp_steps 1 (t' := (47, [some (.ref 84), some (.int (nI s)), some (.int so), some (.int n), some (.int 0)], [.int so], (HD, (aup (aup (aup mi 97 s 0) 98 s so) 99 s n), ml, mr))) rfl ?_
        refine wp_bI rfl (fun c_62 => ?_) (fun c_62 => ?_)
        rotate_left
        · have c_62 : ¬ (so < 0) := of_decide_eq_false c_62
          exact absurd (by rw [em]; decide) c_62
        have c_62 : so < 0 := of_decide_eq_true c_62
        refine wp_steps 1 (t' := (60, [some (.ref 84), some (.int (nI s)), some (.int so), some (.int n), some (.int 0)], [.int 1], (HD, (aup (aup (aup mi 97 s 0) 98 s so) 99 s n), ml, mr))) rfl ?_
        refine wp_ret rfl rfl ⟨⟨Nat.le_refl _, Nat.le_refl _⟩, ?_⟩
        exact ⟨by rw [e], fun z => absurd e z, fun _ _ => rfl, fun _ z => absurd em z⟩
    · have c_3 : ¬ (so < 0) := of_decide_eq_false c_3
      refine wp_steps 2 (t' := (13, [some (.ref 84), some (.int (nI s)), some (.int so), some (.int n), none], [.int 40, .int n], (HD, mi, ml, mr))) rfl ?_
      refine wp_bC rfl (fun c_12 => ?_) (fun c_12 => ?_)
      · have c_12 : n ≤ 40 := of_decide_eq_true c_12
        refine wp_steps 1 (t' := (17, [some (.ref 84), some (.int (nI s)), some (.int so), some (.int n), none], [.int so], (HD, mi, ml, mr))) rfl ?_
        refine wp_bI rfl (fun c_13 => ?_) (fun c_13 => ?_)
        · have c_13 : so < 0 := of_decide_eq_true c_13
          exact absurd c_13 c_3
        have c_13 : ¬ (so < 0) := of_decide_eq_false c_13
        refine wp_steps 1 (t' := (19, [some (.ref 84), some (.int (nI s)), some (.int so), some (.int n), none], [.int n], (HD, mi, ml, mr))) rfl ?_
        refine wp_bI rfl (fun c_14 => ?_) (fun c_14 => ?_)
        · have c_14 : 0 ≤ n := of_decide_eq_true c_14
          refine wp_steps 1 (t' := (23, [some (.ref 84), some (.int (nI s)), some (.int so), some (.int n), none], [.ref 84], (HD, mi, ml, mr))) rfl ?_
          refine wp_getr rfl ⟨by decide, rfl⟩ rfl (hM (84, 37, 97) (by decide)) ?_
          refine wp_steps 2 (t' := (26, [some (.ref 84), some (.int (nI s)), some (.int so), some (.int n), none], [.int so, .int (nI s), .ref 97], (HD, mi, ml, mr))) rfl ?_
          refine wp_bI rfl (fun c_15 => ?_) (fun c_15 => ?_)
          · have c_15 : so < 0 := of_decide_eq_true c_15
            exact absurd c_15 c_13
          have c_15 : ¬ (so < 0) := of_decide_eq_false c_15
          refine wp_steps 2 (t' := (30, [some (.ref 84), some (.int (nI s)), some (.int so), some (.int n), none], [.int 1, .int (nI s), .ref 97], (HD, mi, ml, mr))) rfl ?_
          refine wp_zast rfl ⟨by decide, rfl⟩ (aix_nI hs4 (by decide)) (by decide) (fun m_16 h_17 => ?_)
          subst h_17
          rw [nI_clamp (n := s) (by omega)]
          refine wp_steps 1 (t' := (32, [some (.ref 84), some (.int (nI s)), some (.int so), some (.int n), none], [.ref 84], (HD, (aup mi 97 s 1), ml, mr))) rfl ?_
          refine wp_getr rfl ⟨by decide, rfl⟩ rfl (hM (84, 38, 98) (by decide)) ?_
          refine wp_steps 2 (t' := (35, [some (.ref 84), some (.int (nI s)), some (.int so), some (.int n), none], [.int so, .int (nI s), .ref 98], (HD, (aup mi 97 s 1), ml, mr))) rfl ?_
          refine wp_iast rfl ⟨by decide, rfl⟩ (aix_nI hs4 (by decide)) (fun m_18 h_19 => ?_)
          subst h_19
          rw [nI_clamp (n := s) (by omega)]
          refine wp_steps 1 (t' := (37, [some (.ref 84), some (.int (nI s)), some (.int so), some (.int n), none], [.ref 84], (HD, (aup (aup mi 97 s 1) 98 s so), ml, mr))) rfl ?_
          refine wp_getr rfl ⟨by decide, rfl⟩ rfl (hM (84, 39, 99) (by decide)) ?_
          refine wp_steps 2 (t' := (40, [some (.ref 84), some (.int (nI s)), some (.int so), some (.int n), none], [.int n, .int (nI s), .ref 99], (HD, (aup (aup mi 97 s 1) 98 s so), ml, mr))) rfl ?_
          refine wp_iast rfl ⟨by decide, rfl⟩ (aix_nI hs4 (by decide)) (fun m_20 h_21 => ?_)
          subst h_21
          rw [nI_clamp (n := s) (by omega)]
          refine wp_steps 2 (t' := (43, [some (.ref 84), some (.int (nI s)), some (.int so), some (.int n), some (.int 0)], [], (HD, (aup (aup (aup mi 97 s 1) 98 s so) 99 s n), ml, mr))) rfl ?_
          have hG := (show inR (-1) 2 so from (i0_t c_2))
          have en : ¬ so = -1 := fun z => c_3 (by rw [z]; decide)
          have e40 : ¬ 40 < n := Int32.not_lt.mpr c_12
          have e0 : ¬ n < 0 := Int32.not_lt.mpr c_14
          have e : stV so n = 1 := by unfold stV; rw [if_pos hG, if_neg en, if_neg e40, if_neg e0]
          have h41 := (inR_ax (x := n) (hi := 40) (n := 41) (by decide) (by decide)).mp ⟨e0, e40⟩
          have eN := (aix_eq h41).1
          have hZ : n.toNatClampNeg ≤ 40 := Nat.le_of_lt_succ (aix_out h41).2
          have hs0 : ¬ so < 0 := fun z => by
            have b := (rI.mp hG).1
            rw [show (-1 : Int32).toInt = -1 from rfl] at b
            rw [Int32.lt_iff_toInt_lt, show (0 : Int32).toInt = 0 from rfl] at z
            exact en (Int32.toInt_inj.mp (by rw [show (-1 : Int32).toInt = -1 from rfl]; omega))
          suffices hh : aWP (aEx (aTb X) 2) cd_X7_sheet (43, [some (.ref 84), some (.int (nI s)), some (.int so), some (.int (nI n.toNatClampNeg)), some (.int 0)], [], (HD, (aup (aup (aup mi 97 s 1) 98 s so) 99 s n), ml, mr)) _ by
            rw [← eN] at hh
            exact hh
          refine l_rsheet (ml := ml) hM hs4 hs0 hZ (mb := (aup (aup (aup mi 97 s 1) 98 s so) 99 s n)) (fun m' k1 k2 => ?_) n.toNatClampNeg 0 (aup (aup (aup mi 97 s 1) 98 s so) 99 s n) (by omega) (fun _ _ _ => rfl) (fun j hj => absurd hj (Nat.not_lt_zero j))
          refine wp_steps 1 (t' := (60, [some (.ref 84), some (.int (nI s)), some (.int so), some (.int (nI n.toNatClampNeg)), some (.int (nI n.toNatClampNeg))], [.int 1], (HD, m', ml, mr))) rfl ?_
          refine wp_ret rfl rfl ⟨⟨Nat.le_refl _, Nat.le_refl _⟩, ?_⟩
          exact ⟨by rw [e], fun z => absurd e z, fun _ z => absurd z en, fun _ _ => ⟨m', rfl, k1, k2⟩⟩
        · have c_14 : ¬ (0 ≤ n) := of_decide_eq_false c_14
          refine wp_steps 1 (t' := (21, [some (.ref 84), some (.int (nI s)), some (.int so), some (.int n), none], [.int (-14)], (HD, mi, ml, mr))) rfl ?_
          refine wp_ret rfl rfl ⟨⟨Nat.le_refl _, Nat.le_refl _⟩, ?_⟩
          have hG := (show inR (-1) 2 so from (i0_t c_2))
          have en : ¬ so = -1 := fun z => c_3 (by rw [z]; decide)
          have e40 : ¬ 40 < n := Int32.not_lt.mpr c_12
          have e : stV so n = -14 := by unfold stV; rw [if_pos hG, if_neg en, if_neg e40, if_pos (Int32.not_le.mp c_14)]
          exact ⟨by rw [e], fun _ => rfl, fun z => absurd (e.symm.trans z) (by decide), fun z => absurd (e.symm.trans z) (by decide)⟩
      · have c_12 : ¬ (n ≤ 40) := of_decide_eq_false c_12
        refine wp_steps 1 (t' := (15, [some (.ref 84), some (.int (nI s)), some (.int so), some (.int n), none], [.int (-2)], (HD, mi, ml, mr))) rfl ?_
        refine wp_ret rfl rfl ⟨⟨Nat.le_refl _, Nat.le_refl _⟩, ?_⟩
        have hG := (show inR (-1) 2 so from (i0_t c_2))
        have en : ¬ so = -1 := fun z => c_3 (by rw [z]; decide)
        have e : stV so n = -2 := by unfold stV; rw [if_pos hG, if_neg en, if_pos (Int32.not_le.mp c_12)]
        exact ⟨by rw [e], fun _ => rfl, fun z => absurd (e.symm.trans z) (by decide), fun z => absurd (e.symm.trans z) (by decide)⟩
