/-! sheets; whose kind (written by wip/whole/mkpub6.py) -/
def shM (m : Nat → Nat → Int32) (K : Nat) (so n : Int32) : Nat → Nat → Int32 := afil (aup (aup m K 0 so) K 1 (cl 0 40 n)) (K + 1) 40 0
def stV (so n : Int32) : Int32 := if inR (-1) 2 so then (if so = -1 then 1 else if 40 < n then -2 else if n < 0 then -14 else 1) else -2
def stM (m : Nat → Nat → Int32) (K : Nat) (so n : Int32) : Nat → Nat → Int32 := if inR (-1) 2 so then (if so = -1 then shM m K (-1) 0 else if 40 < n then m else if n < 0 then m else shM m K so n) else m
set_option maxRecDepth 20000 in
set_option maxHeartbeats 1000000 in
theorem c_sheet_no {X : aXt × Value} {mi : Nat → Nat → Int32} {ml : Nat → Nat → Int64} {mr : Nat → Nat → Option Nat} (hM : MRok mr) {sh so n : Int32} (hg : ¬ aixn sh 4 = true) : aCW X 3 98 [.ref 0, .int sh, .int so, .int n] (HD, mi, ml, mr) (fun r h' => r = some (.int (-2)) ∧ h' = (HD, mi, ml, mr)) := by
  refine cw_of (cd := cd_X6_sheet) (nL := 5) rfl rfl ?_
  show aWP _ _ (0, [some (.ref 0), some (.int sh), some (.int so), some (.int n), none], [], (HD, mi, ml, mr)) _
  refine wp_steps 2 (t' := (2, [some (.ref 0), some (.int sh), some (.int so), some (.int n), none], [.int sh, .ref 0], (HD, mi, ml, mr))) rfl ?_
  refine wp_calv (as := [.int sh]) rfl rfl rfl (Nat.le_of_ble_eq_true rfl) ⟨by decide, rfl⟩ ((c_sheetAt_no (ml := ml) hM hg)) (by decide) ?_
  rintro _ _ ⟨rfl, rfl⟩
  show aWP _ _ (3, [some (.ref 0), some (.int sh), some (.int so), some (.int n), none], [.null], (HD, mi, ml, mr)) _
  refine wp_steps 2 (t' := (5, [some (.ref 0), some (.int sh), some (.int so), some (.int n), some (.null)], [.null], (HD, mi, ml, mr))) rfl ?_
  refine wp_step (t' := (12, [some (.ref 0), some (.int sh), some (.int so), some (.int n), some (.null)], [], (HD, mi, ml, mr))) rfl rfl ?_
  refine wp_steps 1 (t' := (13, [some (.ref 0), some (.int sh), some (.int so), some (.int n), some (.null)], [.int (-2)], (HD, mi, ml, mr))) rfl ?_
  refine wp_ret rfl rfl ⟨⟨Nat.le_refl _, Nat.le_refl _⟩, ?_⟩
  exact ⟨rfl, rfl⟩
set_option maxRecDepth 20000 in
set_option maxHeartbeats 1000000 in
theorem c_sheet_ok {X : aXt × Value} {mi : Nat → Nat → Int32} {ml : Nat → Nat → Int64} {mr : Nat → Nat → Option Nat} (hM : MRok mr) {sh so n : Int32} (hg : aixn sh 4 = true) : aCW X 3 98 [.ref 0, .int sh, .int so, .int n] (HD, mi, ml, mr) (fun r h' => r = some (.int (stV so n)) ∧ h' = (HD, stM mi (sAt sh) so n, ml, mr)) := by
  have hK := sAt_mem hg
  refine cw_of (cd := cd_X6_sheet) (nL := 5) rfl rfl ?_
  show aWP _ _ (0, [some (.ref 0), some (.int sh), some (.int so), some (.int n), none], [], (HD, mi, ml, mr)) _
  refine wp_steps 2 (t' := (2, [some (.ref 0), some (.int sh), some (.int so), some (.int n), none], [.int sh, .ref 0], (HD, mi, ml, mr))) rfl ?_
  refine wp_calv (as := [.int sh]) rfl rfl rfl (Nat.le_of_ble_eq_true rfl) ⟨by decide, rfl⟩ ((c_sheetAt_ok (ml := ml) hM hg)) (by decide) ?_
  rintro _ _ ⟨rfl, rfl⟩
  show aWP _ _ (3, [some (.ref 0), some (.int sh), some (.int so), some (.int n), none], [.ref (sAt sh)], (HD, mi, ml, mr)) _
  refine wp_steps 2 (t' := (5, [some (.ref 0), some (.int sh), some (.int so), some (.int n), some (.ref (sAt sh))], [.ref (sAt sh)], (HD, mi, ml, mr))) rfl ?_
  refine wp_step (t' := (6, [some (.ref 0), some (.int sh), some (.int so), some (.int n), some (.ref (sAt sh))], [], (HD, mi, ml, mr))) rfl rfl ?_
  refine wp_steps 2 (t' := (8, [some (.ref 0), some (.int sh), some (.int so), some (.int n), some (.ref (sAt sh))], [.int (-1), .int so], (HD, mi, ml, mr))) rfl ?_
  refine wp_bC rfl (fun c_1 => ?_) (fun c_1 => ?_)
  · have c_1 : so < (-1) := of_decide_eq_true c_1
    refine wp_steps 1 (t' := (13, [some (.ref 0), some (.int sh), some (.int so), some (.int n), some (.ref (sAt sh))], [.int (-2)], (HD, mi, ml, mr))) rfl ?_
    refine wp_ret rfl rfl ⟨⟨Nat.le_refl _, Nat.le_refl _⟩, ?_⟩
    exact ⟨by unfold stV; rw [if_neg (show ¬ (inR (-1) 2 so) from fun z => (fun z => z.1 c_1) z)], by unfold stM; rw [if_neg (show ¬ (inR (-1) 2 so) from fun z => (fun z => z.1 c_1) z)]⟩
  · have c_1 : ¬ (so < (-1)) := of_decide_eq_false c_1
    refine wp_steps 2 (t' := (11, [some (.ref 0), some (.int sh), some (.int so), some (.int n), some (.ref (sAt sh))], [.int 2, .int so], (HD, mi, ml, mr))) rfl ?_
    refine wp_bC rfl (fun c_2 => ?_) (fun c_2 => ?_)
    · have c_2 : so ≤ 2 := of_decide_eq_true c_2
      refine wp_steps 2 (t' := (16, [some (.ref 0), some (.int sh), some (.int so), some (.int n), some (.ref (sAt sh))], [.int (-1), .int so], (HD, mi, ml, mr))) rfl ?_
      refine wp_bC rfl (fun c_3 => ?_) (fun c_3 => ?_)
      · have c_3 : ¬ so = (-1) := of_decide_eq_true c_3
        refine wp_steps 2 (t' := (25, [some (.ref 0), some (.int sh), some (.int so), some (.int n), some (.ref (sAt sh))], [.int 40, .int n], (HD, mi, ml, mr))) rfl ?_
        refine wp_bC rfl (fun c_4 => ?_) (fun c_4 => ?_)
        · have c_4 : n ≤ 40 := of_decide_eq_true c_4
          refine wp_steps 1 (t' := (29, [some (.ref 0), some (.int sh), some (.int so), some (.int n), some (.ref (sAt sh))], [.int n], (HD, mi, ml, mr))) rfl ?_
          refine wp_bI rfl (fun c_5 => ?_) (fun c_5 => ?_)
          · have c_5 : 0 ≤ n := of_decide_eq_true c_5
            refine wp_steps 3 (t' := (35, [some (.ref 0), some (.int sh), some (.int so), some (.int n), some (.ref (sAt sh))], [.int n, .int so, .ref (sAt sh)], (HD, mi, ml, mr))) rfl ?_
            refine wp_calv (as := [.int so, .int n]) rfl rfl rfl (Nat.le_of_ble_eq_true rfl) (shS hK) ((c_Sbecome (mi := mi) (ml := ml) (so := so) (n := n) hM hK)) (by decide) ?_
            rintro _ _ ⟨rfl, rfl⟩
            show aWP _ _ (36, [some (.ref 0), some (.int sh), some (.int so), some (.int n), some (.ref (sAt sh))], [], (HD, (shM mi (sAt sh) so n), ml, mr)) _
            refine wp_steps 1 (t' := (37, [some (.ref 0), some (.int sh), some (.int so), some (.int n), some (.ref (sAt sh))], [.int 1], (HD, (shM mi (sAt sh) so n), ml, mr))) rfl ?_
            refine wp_ret rfl rfl ⟨⟨Nat.le_refl _, Nat.le_refl _⟩, ?_⟩
            exact ⟨by unfold stV; rw [if_pos (show inR (-1) 2 so from ⟨c_1, (Int32.not_lt.mpr c_2)⟩), if_neg c_3, if_neg (Int32.not_lt.mpr c_4), if_neg (Int32.not_lt.mpr c_5)], by unfold stM; rw [if_pos (show inR (-1) 2 so from ⟨c_1, (Int32.not_lt.mpr c_2)⟩), if_neg c_3, if_neg (Int32.not_lt.mpr c_4), if_neg (Int32.not_lt.mpr c_5)]⟩
          · have c_5 : ¬ (0 ≤ n) := of_decide_eq_false c_5
            refine wp_steps 1 (t' := (31, [some (.ref 0), some (.int sh), some (.int so), some (.int n), some (.ref (sAt sh))], [.int (-14)], (HD, mi, ml, mr))) rfl ?_
            refine wp_ret rfl rfl ⟨⟨Nat.le_refl _, Nat.le_refl _⟩, ?_⟩
            exact ⟨by unfold stV; rw [if_pos (show inR (-1) 2 so from ⟨c_1, (Int32.not_lt.mpr c_2)⟩), if_neg c_3, if_neg (Int32.not_lt.mpr c_4), if_pos (Int32.not_le.mp c_5)], by unfold stM; rw [if_pos (show inR (-1) 2 so from ⟨c_1, (Int32.not_lt.mpr c_2)⟩), if_neg c_3, if_neg (Int32.not_lt.mpr c_4), if_pos (Int32.not_le.mp c_5)]⟩
        · have c_4 : ¬ (n ≤ 40) := of_decide_eq_false c_4
          refine wp_steps 1 (t' := (27, [some (.ref 0), some (.int sh), some (.int so), some (.int n), some (.ref (sAt sh))], [.int (-2)], (HD, mi, ml, mr))) rfl ?_
          refine wp_ret rfl rfl ⟨⟨Nat.le_refl _, Nat.le_refl _⟩, ?_⟩
          exact ⟨by unfold stV; rw [if_pos (show inR (-1) 2 so from ⟨c_1, (Int32.not_lt.mpr c_2)⟩), if_neg c_3, if_pos (Int32.not_le.mp c_4)], by unfold stM; rw [if_pos (show inR (-1) 2 so from ⟨c_1, (Int32.not_lt.mpr c_2)⟩), if_neg c_3, if_pos (Int32.not_le.mp c_4)]⟩
      · have c_3 : so = (-1) := Decidable.not_not.mp (of_decide_eq_false c_3)
        refine wp_steps 3 (t' := (20, [some (.ref 0), some (.int sh), some (.int so), some (.int n), some (.ref (sAt sh))], [.int 0, .int (-1), .ref (sAt sh)], (HD, mi, ml, mr))) rfl ?_
        refine wp_calv (as := [.int (-1), .int 0]) rfl rfl rfl (Nat.le_of_ble_eq_true rfl) (shS hK) ((c_Sbecome (mi := mi) (ml := ml) (so := -1) (n := 0) hM hK)) (by decide) ?_
        rintro _ _ ⟨rfl, rfl⟩
        show aWP _ _ (21, [some (.ref 0), some (.int sh), some (.int so), some (.int n), some (.ref (sAt sh))], [], (HD, (shM mi (sAt sh) (-1) 0), ml, mr)) _
        refine wp_steps 1 (t' := (22, [some (.ref 0), some (.int sh), some (.int so), some (.int n), some (.ref (sAt sh))], [.int 1], (HD, (shM mi (sAt sh) (-1) 0), ml, mr))) rfl ?_
        refine wp_ret rfl rfl ⟨⟨Nat.le_refl _, Nat.le_refl _⟩, ?_⟩
        exact ⟨by unfold stV; rw [if_pos (show inR (-1) 2 so from ⟨c_1, (Int32.not_lt.mpr c_2)⟩), if_pos c_3], by unfold stM; rw [if_pos (show inR (-1) 2 so from ⟨c_1, (Int32.not_lt.mpr c_2)⟩), if_pos c_3]⟩
    · have c_2 : ¬ (so ≤ 2) := of_decide_eq_false c_2
      refine wp_steps 1 (t' := (13, [some (.ref 0), some (.int sh), some (.int so), some (.int n), some (.ref (sAt sh))], [.int (-2)], (HD, mi, ml, mr))) rfl ?_
      refine wp_ret rfl rfl ⟨⟨Nat.le_refl _, Nat.le_refl _⟩, ?_⟩
      exact ⟨by unfold stV; rw [if_neg (show ¬ (inR (-1) 2 so) from fun z => (fun z => z.2 (Int32.not_le.mp c_2)) z)], by unfold stM; rw [if_neg (show ¬ (inR (-1) 2 so) from fun z => (fun z => z.2 (Int32.not_le.mp c_2)) z)]⟩
set_option maxRecDepth 20000 in
set_option maxHeartbeats 1000000 in
theorem c_cell_no {X : aXt × Value} {mi : Nat → Nat → Int32} {ml : Nat → Nat → Int64} {mr : Nat → Nat → Option Nat} (hM : MRok mr) {sh i v : Int32} (hg : ¬ aixn sh 4 = true) : aCW X 3 99 [.ref 0, .int sh, .int i, .int v] (HD, mi, ml, mr) (fun r h' => r = some (.int (-2)) ∧ h' = (HD, mi, ml, mr)) := by
  refine cw_of (cd := cd_X6_cell) (nL := 5) rfl rfl ?_
  show aWP _ _ (0, [some (.ref 0), some (.int sh), some (.int i), some (.int v), none], [], (HD, mi, ml, mr)) _
  refine wp_steps 2 (t' := (2, [some (.ref 0), some (.int sh), some (.int i), some (.int v), none], [.int sh, .ref 0], (HD, mi, ml, mr))) rfl ?_
  refine wp_calv (as := [.int sh]) rfl rfl rfl (Nat.le_of_ble_eq_true rfl) ⟨by decide, rfl⟩ ((c_sheetAt_no (ml := ml) hM hg)) (by decide) ?_
  rintro _ _ ⟨rfl, rfl⟩
  show aWP _ _ (3, [some (.ref 0), some (.int sh), some (.int i), some (.int v), none], [.null], (HD, mi, ml, mr)) _
  refine wp_steps 2 (t' := (5, [some (.ref 0), some (.int sh), some (.int i), some (.int v), some (.null)], [.null], (HD, mi, ml, mr))) rfl ?_
  refine wp_step (t' := (6, [some (.ref 0), some (.int sh), some (.int i), some (.int v), some (.null)], [], (HD, mi, ml, mr))) rfl rfl ?_
  refine wp_steps 1 (t' := (7, [some (.ref 0), some (.int sh), some (.int i), some (.int v), some (.null)], [.int (-2)], (HD, mi, ml, mr))) rfl ?_
  refine wp_ret rfl rfl ⟨⟨Nat.le_refl _, Nat.le_refl _⟩, ?_⟩
  exact ⟨rfl, rfl⟩
set_option maxRecDepth 20000 in
set_option maxHeartbeats 1000000 in
theorem c_cell_ok {X : aXt × Value} {mi : Nat → Nat → Int32} {ml : Nat → Nat → Int64} {mr : Nat → Nat → Option Nat} (hM : MRok mr) {sh i v : Int32} (hg : aixn sh 4 = true) : aCW X 3 99 [.ref 0, .int sh, .int i, .int v] (HD, mi, ml, mr) (fun r h' => r = some (.int (if mi (sAt sh) 0 = -1 then -11 else if hsF (mi (sAt sh) 1) i = 0 then -12 else 1)) ∧ h' = (HD, if mi (sAt sh) 0 = -1 then mi else if hsF (mi (sAt sh) 1) i = 0 then mi else aup mi (sAt sh + 1) i.toNatClampNeg (siF (mi (sAt sh) 0) v), ml, mr)) := by
  have hK := sAt_mem hg
  refine cw_of (cd := cd_X6_cell) (nL := 5) rfl rfl ?_
  show aWP _ _ (0, [some (.ref 0), some (.int sh), some (.int i), some (.int v), none], [], (HD, mi, ml, mr)) _
  refine wp_steps 2 (t' := (2, [some (.ref 0), some (.int sh), some (.int i), some (.int v), none], [.int sh, .ref 0], (HD, mi, ml, mr))) rfl ?_
  refine wp_calv (as := [.int sh]) rfl rfl rfl (Nat.le_of_ble_eq_true rfl) ⟨by decide, rfl⟩ ((c_sheetAt_ok (ml := ml) hM hg)) (by decide) ?_
  rintro _ _ ⟨rfl, rfl⟩
  show aWP _ _ (3, [some (.ref 0), some (.int sh), some (.int i), some (.int v), none], [.ref (sAt sh)], (HD, mi, ml, mr)) _
  refine wp_steps 2 (t' := (5, [some (.ref 0), some (.int sh), some (.int i), some (.int v), some (.ref (sAt sh))], [.ref (sAt sh)], (HD, mi, ml, mr))) rfl ?_
  refine wp_step (t' := (8, [some (.ref 0), some (.int sh), some (.int i), some (.int v), some (.ref (sAt sh))], [], (HD, mi, ml, mr))) rfl rfl ?_
  refine wp_steps 1 (t' := (9, [some (.ref 0), some (.int sh), some (.int i), some (.int v), some (.ref (sAt sh))], [.ref (sAt sh)], (HD, mi, ml, mr))) rfl ?_
  refine wp_geti rfl (shS hK) (Or.inl rfl) ?_
  refine wp_steps 1 (t' := (11, [some (.ref 0), some (.int sh), some (.int i), some (.int v), some (.ref (sAt sh))], [.int (-1), .int (mi (sAt sh) 0)], (HD, mi, ml, mr))) rfl ?_
  refine wp_bC rfl (fun c_1 => ?_) (fun c_1 => ?_)
  · have c_1 : ¬ (mi (sAt sh) 0) = (-1) := of_decide_eq_true c_1
    refine wp_steps 2 (t' := (16, [some (.ref 0), some (.int sh), some (.int i), some (.int v), some (.ref (sAt sh))], [.int i, .ref (sAt sh)], (HD, mi, ml, mr))) rfl ?_
    refine wp_calv (as := [.int i]) rfl rfl rfl (Nat.le_of_ble_eq_true rfl) (shS hK) ((c_Shas (ml := ml) hK (i := i))) (by decide) ?_
    rintro _ _ ⟨rfl, rfl⟩
    show aWP _ _ (17, [some (.ref 0), some (.int sh), some (.int i), some (.int v), some (.ref (sAt sh))], [.int (hsF (mi (sAt sh) 1) i)], (HD, mi, ml, mr)) _
    refine wp_bI rfl (fun c_2 => ?_) (fun c_2 => ?_)
    · have c_2 : ¬ (hsF (mi (sAt sh) 1) i) = 0 := of_decide_eq_true c_2
      refine wp_steps 3 (t' := (23, [some (.ref 0), some (.int sh), some (.int i), some (.int v), some (.ref (sAt sh))], [.int v, .int i, .ref (sAt sh)], (HD, mi, ml, mr))) rfl ?_
      refine wp_calv (as := [.int i, .int v]) rfl rfl rfl (Nat.le_of_ble_eq_true rfl) (shS hK) ((c_Sput (mi := mi) (ml := ml) hM hK (i := i) (v := v))) (by decide) ?_
      rintro _ _ ⟨rfl, rfl⟩
      show aWP _ _ (24, [some (.ref 0), some (.int sh), some (.int i), some (.int v), some (.ref (sAt sh))], [], (HD, (if hsF (mi (sAt sh) 1) i = 0 then mi else aup mi (sAt sh + 1) i.toNatClampNeg (siF (mi (sAt sh) 0) v)), ml, mr)) _
      refine wp_steps 1 (t' := (25, [some (.ref 0), some (.int sh), some (.int i), some (.int v), some (.ref (sAt sh))], [.int 1], (HD, (if hsF (mi (sAt sh) 1) i = 0 then mi else aup mi (sAt sh + 1) i.toNatClampNeg (siF (mi (sAt sh) 0) v)), ml, mr))) rfl ?_
      refine wp_ret rfl rfl ⟨⟨Nat.le_refl _, Nat.le_refl _⟩, ?_⟩
      exact ⟨by rw [if_neg c_1, if_neg c_2], by rw [if_neg c_1]⟩
    · have c_2 : (hsF (mi (sAt sh) 1) i) = 0 := Decidable.not_not.mp (of_decide_eq_false c_2)
      refine wp_steps 1 (t' := (19, [some (.ref 0), some (.int sh), some (.int i), some (.int v), some (.ref (sAt sh))], [.int (-12)], (HD, mi, ml, mr))) rfl ?_
      refine wp_ret rfl rfl ⟨⟨Nat.le_refl _, Nat.le_refl _⟩, ?_⟩
      exact ⟨by rw [if_neg c_1, if_pos c_2], by rw [if_neg c_1, if_pos c_2]⟩
  · have c_1 : (mi (sAt sh) 0) = (-1) := Decidable.not_not.mp (of_decide_eq_false c_1)
    refine wp_steps 1 (t' := (13, [some (.ref 0), some (.int sh), some (.int i), some (.int v), some (.ref (sAt sh))], [.int (-11)], (HD, mi, ml, mr))) rfl ?_
    refine wp_ret rfl rfl ⟨⟨Nat.le_refl _, Nat.le_refl _⟩, ?_⟩
    exact ⟨by rw [if_pos c_1], by rw [if_pos c_1]⟩
theorem hrF_ok {sz i n : Int32} {Z : Nat} (hz : sz = nI Z) (hZ : Z ≤ 40) (h : ¬ hrF sz i n = 0) : ¬ i < 0 ∧ ¬ n < 0 ∧ i.toNatClampNeg + n.toNatClampNeg ≤ Z := by
  unfold hrF at h
  by_cases c1 : i < 0
  · simp [c1] at h
  by_cases c2 : n < 0
  · simp [c1, c2] at h
  by_cases c3 : sz < i
  · simp [c1, c2, c3] at h
  by_cases c4 : sz - i < n
  · simp [c1, c2, c3, c4] at h
  refine ⟨c1, c2, ?_⟩
  obtain ⟨a, ha, rfl⟩ := nI_of c1
  obtain ⟨b, hb, rfl⟩ := nI_of c2
  rw [nI_clamp ha, nI_clamp hb]
  subst hz
  have d3 : a ≤ Z := Nat.le_of_not_lt (fun z => c3 (nI_lt z ha))
  rw [nI_sb d3] at c4
  have d4 : b ≤ Z - a := Nat.le_of_not_lt (fun z => c4 (nI_lt z hb))
  omega
set_option maxRecDepth 20000 in
set_option maxHeartbeats 1000000 in
theorem c_copy_no1t {X : aXt × Value} {mi : Nat → Nat → Int32} {ml : Nat → Nat → Int64} {mr : Nat → Nat → Option Nat} (hM : MRok mr) {sh i s2 j n : Int32} (hg : ¬ aixn sh 4 = true) (hg2 : aixn s2 4 = true) : aCW X 3 100 [.ref 0, .int sh, .int i, .int s2, .int j, .int n] (HD, mi, ml, mr) (fun r h' => r = some (.int (-2)) ∧ h' = (HD, mi, ml, mr)) := by
  refine cw_of (cd := cd_X6_copy) (nL := 8) rfl rfl ?_
  show aWP _ _ (0, [some (.ref 0), some (.int sh), some (.int i), some (.int s2), some (.int j), some (.int n), none, none], [], (HD, mi, ml, mr)) _
  refine wp_steps 2 (t' := (2, [some (.ref 0), some (.int sh), some (.int i), some (.int s2), some (.int j), some (.int n), none, none], [.int sh, .ref 0], (HD, mi, ml, mr))) rfl ?_
  refine wp_calv (as := [.int sh]) rfl rfl rfl (Nat.le_of_ble_eq_true rfl) ⟨by decide, rfl⟩ ((c_sheetAt_no (ml := ml) hM hg)) (by decide) ?_
  rintro _ _ ⟨rfl, rfl⟩
  show aWP _ _ (3, [some (.ref 0), some (.int sh), some (.int i), some (.int s2), some (.int j), some (.int n), none, none], [.null], (HD, mi, ml, mr)) _
  refine wp_steps 3 (t' := (6, [some (.ref 0), some (.int sh), some (.int i), some (.int s2), some (.int j), some (.int n), some (.null), none], [.int s2, .ref 0], (HD, mi, ml, mr))) rfl ?_
  refine wp_calv (as := [.int s2]) rfl rfl rfl (Nat.le_of_ble_eq_true rfl) ⟨by decide, rfl⟩ ((c_sheetAt_ok (ml := ml) hM hg2)) (by decide) ?_
  rintro _ _ ⟨rfl, rfl⟩
  show aWP _ _ (7, [some (.ref 0), some (.int sh), some (.int i), some (.int s2), some (.int j), some (.int n), some (.null), none], [.ref (sAt s2)], (HD, mi, ml, mr)) _
  refine wp_steps 2 (t' := (9, [some (.ref 0), some (.int sh), some (.int i), some (.int s2), some (.int j), some (.int n), some (.null), some (.ref (sAt s2))], [.null], (HD, mi, ml, mr))) rfl ?_
  refine wp_step (t' := (12, [some (.ref 0), some (.int sh), some (.int i), some (.int s2), some (.int j), some (.int n), some (.null), some (.ref (sAt s2))], [], (HD, mi, ml, mr))) rfl rfl ?_
  refine wp_steps 1 (t' := (13, [some (.ref 0), some (.int sh), some (.int i), some (.int s2), some (.int j), some (.int n), some (.null), some (.ref (sAt s2))], [.int (-2)], (HD, mi, ml, mr))) rfl ?_
  refine wp_ret rfl rfl ⟨⟨Nat.le_refl _, Nat.le_refl _⟩, ?_⟩
  exact ⟨rfl, rfl⟩
set_option maxRecDepth 20000 in
set_option maxHeartbeats 1000000 in
theorem c_copy_no1f {X : aXt × Value} {mi : Nat → Nat → Int32} {ml : Nat → Nat → Int64} {mr : Nat → Nat → Option Nat} (hM : MRok mr) {sh i s2 j n : Int32} (hg : ¬ aixn sh 4 = true) (hg2 : ¬ aixn s2 4 = true) : aCW X 3 100 [.ref 0, .int sh, .int i, .int s2, .int j, .int n] (HD, mi, ml, mr) (fun r h' => r = some (.int (-2)) ∧ h' = (HD, mi, ml, mr)) := by
  refine cw_of (cd := cd_X6_copy) (nL := 8) rfl rfl ?_
  show aWP _ _ (0, [some (.ref 0), some (.int sh), some (.int i), some (.int s2), some (.int j), some (.int n), none, none], [], (HD, mi, ml, mr)) _
  refine wp_steps 2 (t' := (2, [some (.ref 0), some (.int sh), some (.int i), some (.int s2), some (.int j), some (.int n), none, none], [.int sh, .ref 0], (HD, mi, ml, mr))) rfl ?_
  refine wp_calv (as := [.int sh]) rfl rfl rfl (Nat.le_of_ble_eq_true rfl) ⟨by decide, rfl⟩ ((c_sheetAt_no (ml := ml) hM hg)) (by decide) ?_
  rintro _ _ ⟨rfl, rfl⟩
  show aWP _ _ (3, [some (.ref 0), some (.int sh), some (.int i), some (.int s2), some (.int j), some (.int n), none, none], [.null], (HD, mi, ml, mr)) _
  refine wp_steps 3 (t' := (6, [some (.ref 0), some (.int sh), some (.int i), some (.int s2), some (.int j), some (.int n), some (.null), none], [.int s2, .ref 0], (HD, mi, ml, mr))) rfl ?_
  refine wp_calv (as := [.int s2]) rfl rfl rfl (Nat.le_of_ble_eq_true rfl) ⟨by decide, rfl⟩ ((c_sheetAt_no (ml := ml) hM hg2)) (by decide) ?_
  rintro _ _ ⟨rfl, rfl⟩
  show aWP _ _ (7, [some (.ref 0), some (.int sh), some (.int i), some (.int s2), some (.int j), some (.int n), some (.null), none], [.null], (HD, mi, ml, mr)) _
  refine wp_steps 2 (t' := (9, [some (.ref 0), some (.int sh), some (.int i), some (.int s2), some (.int j), some (.int n), some (.null), some (.null)], [.null], (HD, mi, ml, mr))) rfl ?_
  refine wp_step (t' := (12, [some (.ref 0), some (.int sh), some (.int i), some (.int s2), some (.int j), some (.int n), some (.null), some (.null)], [], (HD, mi, ml, mr))) rfl rfl ?_
  refine wp_steps 1 (t' := (13, [some (.ref 0), some (.int sh), some (.int i), some (.int s2), some (.int j), some (.int n), some (.null), some (.null)], [.int (-2)], (HD, mi, ml, mr))) rfl ?_
  refine wp_ret rfl rfl ⟨⟨Nat.le_refl _, Nat.le_refl _⟩, ?_⟩
  exact ⟨rfl, rfl⟩
set_option maxRecDepth 20000 in
set_option maxHeartbeats 1000000 in
theorem c_copy_no2 {X : aXt × Value} {mi : Nat → Nat → Int32} {ml : Nat → Nat → Int64} {mr : Nat → Nat → Option Nat} (hM : MRok mr) {sh i s2 j n : Int32} (hg : aixn sh 4 = true) (hg2 : ¬ aixn s2 4 = true) : aCW X 3 100 [.ref 0, .int sh, .int i, .int s2, .int j, .int n] (HD, mi, ml, mr) (fun r h' => r = some (.int (-2)) ∧ h' = (HD, mi, ml, mr)) := by
  have hK := sAt_mem hg
  refine cw_of (cd := cd_X6_copy) (nL := 8) rfl rfl ?_
  show aWP _ _ (0, [some (.ref 0), some (.int sh), some (.int i), some (.int s2), some (.int j), some (.int n), none, none], [], (HD, mi, ml, mr)) _
  refine wp_steps 2 (t' := (2, [some (.ref 0), some (.int sh), some (.int i), some (.int s2), some (.int j), some (.int n), none, none], [.int sh, .ref 0], (HD, mi, ml, mr))) rfl ?_
  refine wp_calv (as := [.int sh]) rfl rfl rfl (Nat.le_of_ble_eq_true rfl) ⟨by decide, rfl⟩ ((c_sheetAt_ok (ml := ml) hM hg)) (by decide) ?_
  rintro _ _ ⟨rfl, rfl⟩
  show aWP _ _ (3, [some (.ref 0), some (.int sh), some (.int i), some (.int s2), some (.int j), some (.int n), none, none], [.ref (sAt sh)], (HD, mi, ml, mr)) _
  refine wp_steps 3 (t' := (6, [some (.ref 0), some (.int sh), some (.int i), some (.int s2), some (.int j), some (.int n), some (.ref (sAt sh)), none], [.int s2, .ref 0], (HD, mi, ml, mr))) rfl ?_
  refine wp_calv (as := [.int s2]) rfl rfl rfl (Nat.le_of_ble_eq_true rfl) ⟨by decide, rfl⟩ ((c_sheetAt_no (ml := ml) hM hg2)) (by decide) ?_
  rintro _ _ ⟨rfl, rfl⟩
  show aWP _ _ (7, [some (.ref 0), some (.int sh), some (.int i), some (.int s2), some (.int j), some (.int n), some (.ref (sAt sh)), none], [.null], (HD, mi, ml, mr)) _
  refine wp_steps 2 (t' := (9, [some (.ref 0), some (.int sh), some (.int i), some (.int s2), some (.int j), some (.int n), some (.ref (sAt sh)), some (.null)], [.ref (sAt sh)], (HD, mi, ml, mr))) rfl ?_
  refine wp_step (t' := (10, [some (.ref 0), some (.int sh), some (.int i), some (.int s2), some (.int j), some (.int n), some (.ref (sAt sh)), some (.null)], [], (HD, mi, ml, mr))) rfl rfl ?_
  refine wp_steps 1 (t' := (11, [some (.ref 0), some (.int sh), some (.int i), some (.int s2), some (.int j), some (.int n), some (.ref (sAt sh)), some (.null)], [.null], (HD, mi, ml, mr))) rfl ?_
  refine wp_step (t' := (12, [some (.ref 0), some (.int sh), some (.int i), some (.int s2), some (.int j), some (.int n), some (.ref (sAt sh)), some (.null)], [], (HD, mi, ml, mr))) rfl rfl ?_
  refine wp_steps 1 (t' := (13, [some (.ref 0), some (.int sh), some (.int i), some (.int s2), some (.int j), some (.int n), some (.ref (sAt sh)), some (.null)], [.int (-2)], (HD, mi, ml, mr))) rfl ?_
  refine wp_ret rfl rfl ⟨⟨Nat.le_refl _, Nat.le_refl _⟩, ?_⟩
  exact ⟨rfl, rfl⟩
set_option maxRecDepth 20000 in
set_option maxHeartbeats 1000000 in
theorem c_copy_ok {X : aXt × Value} {mi : Nat → Nat → Int32} {ml : Nat → Nat → Int64} {mr : Nat → Nat → Option Nat} (hM : MRok mr) {sh i s2 j n : Int32} (hg : aixn sh 4 = true) (hg2 : aixn s2 4 = true) {Z Z2 : Nat} (hz : mi (sAt sh) 1 = nI Z) (hZ : Z ≤ 40) (hz2 : mi (sAt s2) 1 = nI Z2) (hZ2 : Z2 ≤ 40) : aCW X 3 100 [.ref 0, .int sh, .int i, .int s2, .int j, .int n] (HD, mi, ml, mr) (fun r h' => r = some (.int (if mi (sAt sh) 0 = -1 ∨ mi (sAt s2) 0 = -1 then -11 else if mi (sAt sh) 0 = mi (sAt s2) 0 then (if hrF (mi (sAt sh) 1) i n = 0 ∨ hrF (mi (sAt s2) 1) j n = 0 then -12 else n) else -13)) ∧ h' = (HD, if mi (sAt sh) 0 = -1 ∨ mi (sAt s2) 0 = -1 then mi else if mi (sAt sh) 0 = mi (sAt s2) 0 then (if hrF (mi (sAt sh) 1) i n = 0 ∨ hrF (mi (sAt s2) 1) j n = 0 then mi else (acpy mi (sAt sh + 1) (sAt s2 + 1) i.toNatClampNeg j.toNatClampNeg n.toNatClampNeg)) else mi, ml, mr)) := by
  have hK := sAt_mem hg
  have hK2 := sAt_mem hg2
  refine cw_of (cd := cd_X6_copy) (nL := 8) rfl rfl ?_
  show aWP _ _ (0, [some (.ref 0), some (.int sh), some (.int i), some (.int s2), some (.int j), some (.int n), none, none], [], (HD, mi, ml, mr)) _
  refine wp_steps 2 (t' := (2, [some (.ref 0), some (.int sh), some (.int i), some (.int s2), some (.int j), some (.int n), none, none], [.int sh, .ref 0], (HD, mi, ml, mr))) rfl ?_
  refine wp_calv (as := [.int sh]) rfl rfl rfl (Nat.le_of_ble_eq_true rfl) ⟨by decide, rfl⟩ ((c_sheetAt_ok (ml := ml) hM hg)) (by decide) ?_
  rintro _ _ ⟨rfl, rfl⟩
  show aWP _ _ (3, [some (.ref 0), some (.int sh), some (.int i), some (.int s2), some (.int j), some (.int n), none, none], [.ref (sAt sh)], (HD, mi, ml, mr)) _
  refine wp_steps 3 (t' := (6, [some (.ref 0), some (.int sh), some (.int i), some (.int s2), some (.int j), some (.int n), some (.ref (sAt sh)), none], [.int s2, .ref 0], (HD, mi, ml, mr))) rfl ?_
  refine wp_calv (as := [.int s2]) rfl rfl rfl (Nat.le_of_ble_eq_true rfl) ⟨by decide, rfl⟩ ((c_sheetAt_ok (ml := ml) hM hg2)) (by decide) ?_
  rintro _ _ ⟨rfl, rfl⟩
  show aWP _ _ (7, [some (.ref 0), some (.int sh), some (.int i), some (.int s2), some (.int j), some (.int n), some (.ref (sAt sh)), none], [.ref (sAt s2)], (HD, mi, ml, mr)) _
  refine wp_steps 2 (t' := (9, [some (.ref 0), some (.int sh), some (.int i), some (.int s2), some (.int j), some (.int n), some (.ref (sAt sh)), some (.ref (sAt s2))], [.ref (sAt sh)], (HD, mi, ml, mr))) rfl ?_
  refine wp_step (t' := (10, [some (.ref 0), some (.int sh), some (.int i), some (.int s2), some (.int j), some (.int n), some (.ref (sAt sh)), some (.ref (sAt s2))], [], (HD, mi, ml, mr))) rfl rfl ?_
  refine wp_steps 1 (t' := (11, [some (.ref 0), some (.int sh), some (.int i), some (.int s2), some (.int j), some (.int n), some (.ref (sAt sh)), some (.ref (sAt s2))], [.ref (sAt s2)], (HD, mi, ml, mr))) rfl ?_
  refine wp_step (t' := (14, [some (.ref 0), some (.int sh), some (.int i), some (.int s2), some (.int j), some (.int n), some (.ref (sAt sh)), some (.ref (sAt s2))], [], (HD, mi, ml, mr))) rfl rfl ?_
  refine wp_steps 1 (t' := (15, [some (.ref 0), some (.int sh), some (.int i), some (.int s2), some (.int j), some (.int n), some (.ref (sAt sh)), some (.ref (sAt s2))], [.ref (sAt sh)], (HD, mi, ml, mr))) rfl ?_
  refine wp_geti rfl (shS hK) (Or.inl rfl) ?_
  refine wp_steps 1 (t' := (17, [some (.ref 0), some (.int sh), some (.int i), some (.int s2), some (.int j), some (.int n), some (.ref (sAt sh)), some (.ref (sAt s2))], [.int (-1), .int (mi (sAt sh) 0)], (HD, mi, ml, mr))) rfl ?_
  refine wp_bC rfl (fun c_1 => ?_) (fun c_1 => ?_)
  · have c_1 : (mi (sAt sh) 0) = (-1) := of_decide_eq_true c_1
    refine wp_steps 1 (t' := (23, [some (.ref 0), some (.int sh), some (.int i), some (.int s2), some (.int j), some (.int n), some (.ref (sAt sh)), some (.ref (sAt s2))], [.int (-11)], (HD, mi, ml, mr))) rfl ?_
    refine wp_ret rfl rfl ⟨⟨Nat.le_refl _, Nat.le_refl _⟩, ?_⟩
    exact ⟨by rw [if_pos (Or.inl c_1)], by rw [if_pos (Or.inl c_1)]⟩
  · have c_1 : ¬ ((mi (sAt sh) 0) = (-1)) := of_decide_eq_false c_1
    refine wp_steps 1 (t' := (19, [some (.ref 0), some (.int sh), some (.int i), some (.int s2), some (.int j), some (.int n), some (.ref (sAt sh)), some (.ref (sAt s2))], [.ref (sAt s2)], (HD, mi, ml, mr))) rfl ?_
    refine wp_geti rfl (shS hK2) (Or.inl rfl) ?_
    refine wp_steps 1 (t' := (21, [some (.ref 0), some (.int sh), some (.int i), some (.int s2), some (.int j), some (.int n), some (.ref (sAt sh)), some (.ref (sAt s2))], [.int (-1), .int (mi (sAt s2) 0)], (HD, mi, ml, mr))) rfl ?_
    refine wp_bC rfl (fun c_2 => ?_) (fun c_2 => ?_)
    · have c_2 : ¬ (mi (sAt s2) 0) = (-1) := of_decide_eq_true c_2
      refine wp_steps 1 (t' := (25, [some (.ref 0), some (.int sh), some (.int i), some (.int s2), some (.int j), some (.int n), some (.ref (sAt sh)), some (.ref (sAt s2))], [.ref (sAt sh)], (HD, mi, ml, mr))) rfl ?_
      refine wp_geti rfl (shS hK) (Or.inl rfl) ?_
      refine wp_steps 1 (t' := (27, [some (.ref 0), some (.int sh), some (.int i), some (.int s2), some (.int j), some (.int n), some (.ref (sAt sh)), some (.ref (sAt s2))], [.ref (sAt s2), .int (mi (sAt sh) 0)], (HD, mi, ml, mr))) rfl ?_
      refine wp_geti rfl (shS hK2) (Or.inl rfl) ?_
      refine wp_bC rfl (fun c_3 => ?_) (fun c_3 => ?_)
      · have c_3 : (mi (sAt sh) 0) = (mi (sAt s2) 0) := of_decide_eq_true c_3
        refine wp_steps 3 (t' := (34, [some (.ref 0), some (.int sh), some (.int i), some (.int s2), some (.int j), some (.int n), some (.ref (sAt sh)), some (.ref (sAt s2))], [.int n, .int i, .ref (sAt sh)], (HD, mi, ml, mr))) rfl ?_
        refine wp_calv (as := [.int i, .int n]) rfl rfl rfl (Nat.le_of_ble_eq_true rfl) (shS hK) ((c_ShasRun (ml := ml) hK (i := i) (n := n))) (by decide) ?_
        rintro _ _ ⟨rfl, rfl⟩
        show aWP _ _ (35, [some (.ref 0), some (.int sh), some (.int i), some (.int s2), some (.int j), some (.int n), some (.ref (sAt sh)), some (.ref (sAt s2))], [.int (hrF (mi (sAt sh) 1) i n)], (HD, mi, ml, mr)) _
        refine wp_bI rfl (fun c_4 => ?_) (fun c_4 => ?_)
        · have c_4 : (hrF (mi (sAt sh) 1) i n) = 0 := of_decide_eq_true c_4
          refine wp_steps 1 (t' := (42, [some (.ref 0), some (.int sh), some (.int i), some (.int s2), some (.int j), some (.int n), some (.ref (sAt sh)), some (.ref (sAt s2))], [.int (-12)], (HD, mi, ml, mr))) rfl ?_
          refine wp_ret rfl rfl ⟨⟨Nat.le_refl _, Nat.le_refl _⟩, ?_⟩
          exact ⟨by rw [if_neg (fun z => z.elim c_1 c_2), if_pos c_3, if_pos (Or.inl c_4)], by rw [if_neg (fun z => z.elim c_1 c_2), if_pos c_3, if_pos (Or.inl c_4)]⟩
        · have c_4 : ¬ ((hrF (mi (sAt sh) 1) i n) = 0) := of_decide_eq_false c_4
          refine wp_steps 3 (t' := (39, [some (.ref 0), some (.int sh), some (.int i), some (.int s2), some (.int j), some (.int n), some (.ref (sAt sh)), some (.ref (sAt s2))], [.int n, .int j, .ref (sAt s2)], (HD, mi, ml, mr))) rfl ?_
          refine wp_calv (as := [.int j, .int n]) rfl rfl rfl (Nat.le_of_ble_eq_true rfl) (shS hK2) ((c_ShasRun (ml := ml) hK2 (i := j) (n := n))) (by decide) ?_
          rintro _ _ ⟨rfl, rfl⟩
          show aWP _ _ (40, [some (.ref 0), some (.int sh), some (.int i), some (.int s2), some (.int j), some (.int n), some (.ref (sAt sh)), some (.ref (sAt s2))], [.int (hrF (mi (sAt s2) 1) j n)], (HD, mi, ml, mr)) _
          refine wp_bI rfl (fun c_5 => ?_) (fun c_5 => ?_)
          · have c_5 : ¬ (hrF (mi (sAt s2) 1) j n) = 0 := of_decide_eq_true c_5
            refine wp_steps 1 (t' := (44, [some (.ref 0), some (.int sh), some (.int i), some (.int s2), some (.int j), some (.int n), some (.ref (sAt sh)), some (.ref (sAt s2))], [.ref (sAt sh)], (HD, mi, ml, mr))) rfl ?_
            refine wp_getr rfl (shS hK) rfl (hM _ (mlS hK)) ?_
            refine wp_steps 2 (t' := (47, [some (.ref 0), some (.int sh), some (.int i), some (.int s2), some (.int j), some (.int n), some (.ref (sAt sh)), some (.ref (sAt s2))], [.ref (sAt s2), .int i, .ref (sAt sh + 1)], (HD, mi, ml, mr))) rfl ?_
            refine wp_getr rfl (shS hK2) rfl (hM _ (mlS hK2)) ?_
            refine wp_steps 2 (t' := (50, [some (.ref 0), some (.int sh), some (.int i), some (.int s2), some (.int j), some (.int n), some (.ref (sAt sh)), some (.ref (sAt s2))], [.int n, .int j, .ref (sAt s2 + 1), .int i, .ref (sAt sh + 1)], (HD, mi, ml, mr))) rfl ?_
            refine wp_cpy rfl (shSi hK) (shSi hK2) (hrF_ok hz hZ c_4).1 (hrF_ok hz2 hZ2 c_5).1 (hrF_ok hz hZ c_4).2.1 (Nat.le_trans (hrF_ok hz hZ c_4).2.2 hZ) (Nat.le_trans (hrF_ok hz2 hZ2 c_5).2.2 hZ2) (Nat.le_of_ble_eq_true rfl) (fun m_6 h_7 => ?_)
            subst h_7
            refine wp_steps 1 (t' := (52, [some (.ref 0), some (.int sh), some (.int i), some (.int s2), some (.int j), some (.int n), some (.ref (sAt sh)), some (.ref (sAt s2))], [.int n], (HD, (acpy mi (sAt sh + 1) (sAt s2 + 1) i.toNatClampNeg j.toNatClampNeg n.toNatClampNeg), ml, mr))) rfl ?_
            refine wp_ret rfl rfl ⟨⟨Nat.le_refl _, Nat.le_refl _⟩, ?_⟩
            exact ⟨by rw [if_neg (fun z => z.elim c_1 c_2), if_pos c_3, if_neg (fun z => z.elim c_4 c_5)], by rw [if_neg (fun z => z.elim c_1 c_2), if_pos c_3, if_neg (fun z => z.elim c_4 c_5)]⟩
          · have c_5 : (hrF (mi (sAt s2) 1) j n) = 0 := Decidable.not_not.mp (of_decide_eq_false c_5)
            refine wp_steps 1 (t' := (42, [some (.ref 0), some (.int sh), some (.int i), some (.int s2), some (.int j), some (.int n), some (.ref (sAt sh)), some (.ref (sAt s2))], [.int (-12)], (HD, mi, ml, mr))) rfl ?_
            refine wp_ret rfl rfl ⟨⟨Nat.le_refl _, Nat.le_refl _⟩, ?_⟩
            exact ⟨by rw [if_neg (fun z => z.elim c_1 c_2), if_pos c_3, if_pos (Or.inr c_5)], by rw [if_neg (fun z => z.elim c_1 c_2), if_pos c_3, if_pos (Or.inr c_5)]⟩
      · have c_3 : ¬ ((mi (sAt sh) 0) = (mi (sAt s2) 0)) := of_decide_eq_false c_3
        refine wp_steps 1 (t' := (30, [some (.ref 0), some (.int sh), some (.int i), some (.int s2), some (.int j), some (.int n), some (.ref (sAt sh)), some (.ref (sAt s2))], [.int (-13)], (HD, mi, ml, mr))) rfl ?_
        refine wp_ret rfl rfl ⟨⟨Nat.le_refl _, Nat.le_refl _⟩, ?_⟩
        exact ⟨by rw [if_neg (fun z => z.elim c_1 c_2), if_neg c_3], by rw [if_neg (fun z => z.elim c_1 c_2), if_neg c_3]⟩
    · have c_2 : (mi (sAt s2) 0) = (-1) := Decidable.not_not.mp (of_decide_eq_false c_2)
      refine wp_steps 1 (t' := (23, [some (.ref 0), some (.int sh), some (.int i), some (.int s2), some (.int j), some (.int n), some (.ref (sAt sh)), some (.ref (sAt s2))], [.int (-11)], (HD, mi, ml, mr))) rfl ?_
      refine wp_ret rfl rfl ⟨⟨Nat.le_refl _, Nat.le_refl _⟩, ?_⟩
      exact ⟨by rw [if_pos (Or.inr c_2)], by rw [if_pos (Or.inr c_2)]⟩
theorem wp_ial_x {E : Nat → List Value → aM → Option Value → aM → Prop} {cd : List aOp} {Q : Option Value → aM → Prop} {i k n : Nat} {X : aXt} {f : Nat → Int32} {loc : List (Option Value)} {r : List Value} {h : aM} {x : Int32} (hf : anth cd i = some (aIal X)) (hx : X k = some (n, f)) (hi : aixn x n = true) (w : aWP E cd (i + 1, loc, .int (f x.toNatClampNeg) :: r, h) Q) : aWP E cd (i, loc, .int x :: .ref k :: r, h) Q := by
  refine wp_step hf ?_ w
  unfold aIal
  dsimp only
  rw [hx]
  dsimp only
  rw [if_pos hi]
theorem wp_len_x {E : Nat → List Value → aM → Option Value → aM → Prop} {cd : List aOp} {Q : Option Value → aM → Prop} {i k n : Nat} {X : aXt} {f : Nat → Int32} {loc : List (Option Value)} {r : List Value} {h : aM} (hf : anth cd i = some (aLen X)) (hx : X k = some (n, f)) (w : aWP E cd (i + 1, loc, .int (Int32.ofNat n) :: r, h) Q) : aWP E cd (i, loc, .ref k :: r, h) Q := by
  refine wp_step hf ?_ w
  unfold aLen
  dsimp only
  rw [hx]
def okL (k : Int32) : Nat → Int32 → Int32
  | 0, _ => 0
  | g + 1, x => if x < 0 then 0 else if Int32.ofNat 6 ≤ x then 0 else if x = k then 1 else okL k g (aUnd x.toNatClampNeg)
set_option maxRecDepth 20000 in
set_option maxHeartbeats 1000000 in
theorem l_isOf {X : aXt × Value} {mi : Nat → Nat → Int32} {ml : Nat → Nat → Int64} {mr : Nat → Nat → Option Nat} (hU : X.1 aUND = some (6, aUnd)) {P : Nat} {k : Int32} : ∀ (g t : Nat) (x : Int32), t + g = 6 → aWP (aEx (aTb X) 0) (cd_X0_isOfKind X) (5, [some (.ref P), some (.int k), some (.int x), some (.int (nI t))], [], (HD, mi, ml, mr)) (fun r h' => (HD.1 ≤ h'.1.1 ∧ HD.2.1 ≤ h'.1.2.1) ∧ rdI mi ml mr (okL k g x) r h') := by
  intro g
  induction g with
  | zero =>
    intro t x hg
    obtain rfl : t = 6 := by omega
    refine wp_steps 2 (t' := (7, [some (.ref P), some (.int k), some (.int x), some (.int (nI 6))], [.int 6, .int (nI 6)], (HD, mi, ml, mr))) rfl ?_
    refine wp_bC rfl (fun c_1 => ?_) (fun c_1 => ?_)
    rotate_left
    · have c_1 : ¬ (6 ≤ (nI 6)) := of_decide_eq_false c_1
      exact absurd (by decide) c_1
    have c_1 : 6 ≤ (nI 6) := of_decide_eq_true c_1
    refine wp_steps 1 (t' := (26, [some (.ref P), some (.int k), some (.int x), some (.int (nI 6))], [.int 0], (HD, mi, ml, mr))) rfl ?_
    refine wp_ret rfl rfl ⟨⟨Nat.le_refl _, Nat.le_refl _⟩, ?_⟩
    exact ⟨rfl, rfl⟩
  | succ g ih =>
    intro t x hg
    have ht : t < 6 := by omega
    refine wp_steps 2 (t' := (7, [some (.ref P), some (.int k), some (.int x), some (.int (nI t))], [.int 6, .int (nI t)], (HD, mi, ml, mr))) rfl ?_
    refine wp_bC rfl (fun c_1 => ?_) (fun c_1 => ?_)
    · have c_1 : 6 ≤ (nI t) := of_decide_eq_true c_1
      exact absurd c_1 (nI_ge ht (by decide))
    have c_1 : ¬ (6 ≤ (nI t)) := of_decide_eq_false c_1
    refine wp_steps 1 (t' := (9, [some (.ref P), some (.int k), some (.int x), some (.int (nI t))], [.int x], (HD, mi, ml, mr))) rfl ?_
    refine wp_bI rfl (fun c_2 => ?_) (fun c_2 => ?_)
    · have c_2 : x < 0 := of_decide_eq_true c_2
      refine wp_steps 1 (t' := (26, [some (.ref P), some (.int k), some (.int x), some (.int (nI t))], [.int 0], (HD, mi, ml, mr))) rfl ?_
      refine wp_ret rfl rfl ⟨⟨Nat.le_refl _, Nat.le_refl _⟩, ?_⟩
      refine ⟨?_, rfl⟩
      unfold okL
      rw [if_pos c_2]
    · have c_2 : ¬ (x < 0) := of_decide_eq_false c_2
      refine wp_steps 2 (t' := (12, [some (.ref P), some (.int k), some (.int x), some (.int (nI t))], [.ref aUND, .int x], (HD, mi, ml, mr))) rfl ?_
      refine wp_len_x rfl hU ?_
      refine wp_bC rfl (fun c_3 => ?_) (fun c_3 => ?_)
      · have c_3 : (Int32.ofNat 6) ≤ x := of_decide_eq_true c_3
        refine wp_steps 1 (t' := (26, [some (.ref P), some (.int k), some (.int x), some (.int (nI t))], [.int 0], (HD, mi, ml, mr))) rfl ?_
        refine wp_ret rfl rfl ⟨⟨Nat.le_refl _, Nat.le_refl _⟩, ?_⟩
        refine ⟨?_, rfl⟩
        unfold okL
        rw [if_neg c_2, if_pos c_3]
      · have c_3 : ¬ ((Int32.ofNat 6) ≤ x) := of_decide_eq_false c_3
        refine wp_steps 2 (t' := (16, [some (.ref P), some (.int k), some (.int x), some (.int (nI t))], [.int k, .int x], (HD, mi, ml, mr))) rfl ?_
        refine wp_bC rfl (fun c_4 => ?_) (fun c_4 => ?_)
        · have c_4 : ¬ x = k := of_decide_eq_true c_4
          refine wp_steps 2 (t' := (21, [some (.ref P), some (.int k), some (.int x), some (.int (nI t))], [.int x, .ref aUND], (HD, mi, ml, mr))) rfl ?_
          refine wp_ial_x rfl hU (aix_rf c_2 c_3 (by decide)) ?_
          refine wp_steps 3 (t' := (5, [some (.ref P), some (.int k), some (.int (aUnd x.toNatClampNeg)), some (.int ((nI t) + Int32.ofInt 1))], [], (HD, mi, ml, mr))) rfl ?_
          have e : okL k (g + 1) x = okL k g (aUnd x.toNatClampNeg) := by
            show (if _ then _ else if _ then _ else if _ then _ else _) = _
            rw [if_neg c_2, if_neg c_3, if_neg c_4]
          rw [inc_nI, e]
          exact ih (t + 1) _ (by omega)
        · have c_4 : x = k := Decidable.not_not.mp (of_decide_eq_false c_4)
          refine wp_steps 1 (t' := (18, [some (.ref P), some (.int k), some (.int x), some (.int (nI t))], [.int 1], (HD, mi, ml, mr))) rfl ?_
          refine wp_ret rfl rfl ⟨⟨Nat.le_refl _, Nat.le_refl _⟩, ?_⟩
          refine ⟨?_, rfl⟩
          unfold okL
          rw [if_neg c_2, if_neg c_3, if_pos c_4]
set_option maxRecDepth 20000 in
set_option maxHeartbeats 1000000 in
theorem c_isOfKind {X : aXt × Value} {mi : Nat → Nat → Int32} {ml : Nat → Nat → Int64} {mr : Nat → Nat → Option Nat} (hU : X.1 aUND = some (6, aUnd)) {P : Nat} (hP : P ∈ PUPS) {k : Int32} : aCW X 1 9 [.ref P, .int k] (HD, mi, ml, mr) (rdI mi ml mr (okL k 6 (mi P 0))) := by
  refine cw_of (cd := (cd_X0_isOfKind X)) (nL := 4) rfl rfl ?_
  show aWP _ _ (0, [some (.ref P), some (.int k), none, none], [], (HD, mi, ml, mr)) _
  refine wp_steps 1 (t' := (1, [some (.ref P), some (.int k), none, none], [.ref P], (HD, mi, ml, mr))) rfl ?_
  refine wp_geti rfl (shP hP) (Or.inl rfl) ?_
  refine wp_steps 3 (t' := (5, [some (.ref P), some (.int k), some (.int (mi P 0)), some (.int 0)], [], (HD, mi, ml, mr))) rfl ?_
  exact l_isOf hU 6 0 (mi P 0) rfl
set_option maxRecDepth 20000 in
set_option maxHeartbeats 1000000 in
theorem c_taken_no {X : aXt × Value} {mi : Nat → Nat → Int32} {ml : Nat → Nat → Int64} {mr : Nat → Nat → Option Nat} (hM : MRok mr) {N : Nat} (hN : mi 0 5 = nI N) (hN5 : N ≤ 5) {one k : Int32} (hg : ¬ aixn one N = true) : aCW X 2 102 [.ref 0, .int one, .int k] (HD, mi, ml, mr) (qU mi ml mr (.int (if inR 0 5 k then -11 else -2))) := by
  refine cw_of (cd := cd_X6_taken) (nL := 4) rfl rfl ?_
  show aWP _ _ (0, [some (.ref 0), some (.int one), some (.int k), none], [], (HD, mi, ml, mr)) _
  refine wp_steps 1 (t' := (1, [some (.ref 0), some (.int one), some (.int k), none], [.int k], (HD, mi, ml, mr))) rfl ?_
  refine wp_bI rfl (fun c_1 => ?_) (fun c_1 => ?_)
  · have c_1 : k < 0 := of_decide_eq_true c_1
    refine wp_steps 1 (t' := (6, [some (.ref 0), some (.int one), some (.int k), none], [.int (-2)], (HD, mi, ml, mr))) rfl ?_
    refine wp_ret rfl rfl ⟨⟨Nat.le_refl _, Nat.le_refl _⟩, ?_⟩
    exact ⟨by rw [if_neg (show ¬ (inR 0 5 k) from fun z => (fun z => z.1 c_1) z)], mi, mr 73 2, by rw [mr_self], frm.rf _ _⟩
  · have c_1 : ¬ (k < 0) := of_decide_eq_false c_1
    refine wp_steps 2 (t' := (4, [some (.ref 0), some (.int one), some (.int k), none], [.int 6, .int k], (HD, mi, ml, mr))) rfl ?_
    refine wp_bC rfl (fun c_2 => ?_) (fun c_2 => ?_)
    · have c_2 : k < 6 := of_decide_eq_true c_2
      refine wp_steps 2 (t' := (9, [some (.ref 0), some (.int one), some (.int k), none], [.int one, .ref 0], (HD, mi, ml, mr))) rfl ?_
      refine wp_calv (as := [.int one]) rfl rfl rfl (Nat.le_of_ble_eq_true rfl) ⟨by decide, rfl⟩ ((c_pupilAt_no hM hN hN5 hg)) (by decide) ?_
      rintro _ _ ⟨rfl, rfl⟩
      show aWP _ _ (10, [some (.ref 0), some (.int one), some (.int k), none], [.null], (HD, mi, ml, mr)) _
      refine wp_steps 2 (t' := (12, [some (.ref 0), some (.int one), some (.int k), some (.null)], [.null], (HD, mi, ml, mr))) rfl ?_
      refine wp_step (t' := (13, [some (.ref 0), some (.int one), some (.int k), some (.null)], [], (HD, mi, ml, mr))) rfl rfl ?_
      refine wp_steps 1 (t' := (14, [some (.ref 0), some (.int one), some (.int k), some (.null)], [.int (-11)], (HD, mi, ml, mr))) rfl ?_
      refine wp_ret rfl rfl ⟨⟨Nat.le_refl _, Nat.le_refl _⟩, ?_⟩
      exact ⟨by rw [if_pos (show inR 0 5 k from ⟨c_1, (r_lt c_2 (by decide))⟩)], mi, mr 73 2, by rw [mr_self], frm.rf _ _⟩
    · have c_2 : ¬ (k < 6) := of_decide_eq_false c_2
      refine wp_steps 1 (t' := (6, [some (.ref 0), some (.int one), some (.int k), none], [.int (-2)], (HD, mi, ml, mr))) rfl ?_
      refine wp_ret rfl rfl ⟨⟨Nat.le_refl _, Nat.le_refl _⟩, ?_⟩
      exact ⟨by rw [if_neg (show ¬ (inR 0 5 k) from fun z => (fun z => z.2 (Int32.lt_of_lt_of_le (by decide) (Int32.not_lt.mp c_2))) z)], mi, mr 73 2, by rw [mr_self], frm.rf _ _⟩
set_option maxRecDepth 20000 in
set_option maxHeartbeats 1000000 in
theorem c_taken_ok {X : aXt × Value} {mi : Nat → Nat → Int32} {ml : Nat → Nat → Int64} {mr : Nat → Nat → Option Nat} (hM : MRok mr) {N : Nat} (hN : mi 0 5 = nI N) (hN5 : N ≤ 5) (hU : X.1 aUND = some (6, aUnd)) {one k : Int32} (hg : aixn one N = true) : aCW X 2 102 [.ref 0, .int one, .int k] (HD, mi, ml, mr) (qU mi ml mr (.int (if inR 0 5 k then (if okL k 6 (mi (pAt one) 0) = 0 then -13 else mi (pAt one) 1) else -2))) := by
  have hP := pAt_mem hg hN5
  refine cw_of (cd := cd_X6_taken) (nL := 4) rfl rfl ?_
  show aWP _ _ (0, [some (.ref 0), some (.int one), some (.int k), none], [], (HD, mi, ml, mr)) _
  refine wp_steps 1 (t' := (1, [some (.ref 0), some (.int one), some (.int k), none], [.int k], (HD, mi, ml, mr))) rfl ?_
  refine wp_bI rfl (fun c_1 => ?_) (fun c_1 => ?_)
  · have c_1 : k < 0 := of_decide_eq_true c_1
    refine wp_steps 1 (t' := (6, [some (.ref 0), some (.int one), some (.int k), none], [.int (-2)], (HD, mi, ml, mr))) rfl ?_
    refine wp_ret rfl rfl ⟨⟨Nat.le_refl _, Nat.le_refl _⟩, ?_⟩
    exact ⟨by rw [if_neg (show ¬ (inR 0 5 k) from fun z => (fun z => z.1 c_1) z)], mi, mr 73 2, by rw [mr_self], frm.rf _ _⟩
  · have c_1 : ¬ (k < 0) := of_decide_eq_false c_1
    refine wp_steps 2 (t' := (4, [some (.ref 0), some (.int one), some (.int k), none], [.int 6, .int k], (HD, mi, ml, mr))) rfl ?_
    refine wp_bC rfl (fun c_2 => ?_) (fun c_2 => ?_)
    · have c_2 : k < 6 := of_decide_eq_true c_2
      refine wp_steps 2 (t' := (9, [some (.ref 0), some (.int one), some (.int k), none], [.int one, .ref 0], (HD, mi, ml, mr))) rfl ?_
      refine wp_calv (as := [.int one]) rfl rfl rfl (Nat.le_of_ble_eq_true rfl) ⟨by decide, rfl⟩ ((c_pupilAt_ok (ml := ml) hM hN hN5 hg)) (by decide) ?_
      rintro _ _ ⟨rfl, rfl⟩
      show aWP _ _ (10, [some (.ref 0), some (.int one), some (.int k), none], [.ref (pAt one)], (HD, mi, ml, mr)) _
      refine wp_steps 2 (t' := (12, [some (.ref 0), some (.int one), some (.int k), some (.ref (pAt one))], [.ref (pAt one)], (HD, mi, ml, mr))) rfl ?_
      refine wp_step (t' := (15, [some (.ref 0), some (.int one), some (.int k), some (.ref (pAt one))], [], (HD, mi, ml, mr))) rfl rfl ?_
      refine wp_steps 2 (t' := (17, [some (.ref 0), some (.int one), some (.int k), some (.ref (pAt one))], [.int k, .ref (pAt one)], (HD, mi, ml, mr))) rfl ?_
      refine wp_calv (as := [.int k]) rfl rfl rfl (Nat.le_of_ble_eq_true rfl) (shP (p5_U hP).2.2.1) ((c_isOfKind (ml := ml) hU (p5_U hP).2.2.1 (k := k))) (by decide) ?_
      rintro _ _ ⟨rfl, rfl⟩
      show aWP _ _ (18, [some (.ref 0), some (.int one), some (.int k), some (.ref (pAt one))], [.int (okL k 6 (mi (pAt one) 0))], (HD, mi, ml, mr)) _
      refine wp_bI rfl (fun c_3 => ?_) (fun c_3 => ?_)
      · have c_3 : (okL k 6 (mi (pAt one) 0)) = 0 := of_decide_eq_true c_3
        refine wp_steps 1 (t' := (23, [some (.ref 0), some (.int one), some (.int k), some (.ref (pAt one))], [.int (-13)], (HD, mi, ml, mr))) rfl ?_
        refine wp_ret rfl rfl ⟨⟨Nat.le_refl _, Nat.le_refl _⟩, ?_⟩
        exact ⟨by rw [if_pos (show inR 0 5 k from ⟨c_1, (r_lt c_2 (by decide))⟩), if_pos c_3], mi, mr 73 2, by rw [mr_self], frm.rf _ _⟩
      · have c_3 : ¬ ((okL k 6 (mi (pAt one) 0)) = 0) := of_decide_eq_false c_3
        refine wp_steps 1 (t' := (20, [some (.ref 0), some (.int one), some (.int k), some (.ref (pAt one))], [.ref (pAt one)], (HD, mi, ml, mr))) rfl ?_
        refine wp_geti rfl (shP (p5_U hP).2.2.1) (Or.inl rfl) ?_
        refine wp_steps 1 (t' := (23, [some (.ref 0), some (.int one), some (.int k), some (.ref (pAt one))], [.int (mi (pAt one) 1)], (HD, mi, ml, mr))) rfl ?_
        refine wp_ret rfl rfl ⟨⟨Nat.le_refl _, Nat.le_refl _⟩, ?_⟩
        exact ⟨by rw [if_pos (show inR 0 5 k from ⟨c_1, (r_lt c_2 (by decide))⟩), if_neg c_3], mi, mr 73 2, by rw [mr_self], frm.rf _ _⟩
    · have c_2 : ¬ (k < 6) := of_decide_eq_false c_2
      refine wp_steps 1 (t' := (6, [some (.ref 0), some (.int one), some (.int k), none], [.int (-2)], (HD, mi, ml, mr))) rfl ?_
      refine wp_ret rfl rfl ⟨⟨Nat.le_refl _, Nat.le_refl _⟩, ?_⟩
      exact ⟨by rw [if_neg (show ¬ (inR 0 5 k) from fun z => (fun z => z.2 (Int32.lt_of_lt_of_le (by decide) (Int32.not_lt.mp c_2))) z)], mi, mr 73 2, by rw [mr_self], frm.rf _ _⟩
