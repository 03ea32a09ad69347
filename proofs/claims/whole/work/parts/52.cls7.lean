/-! put, a town becomes another, sheets, texts (written by wip/whole/mkcls7.py) -/
def SHS : List Nat := [55, 57, 59, 61]
/-- every text, the made one too -/
def TXA : List Nat := 4 :: TXS
theorem shS {K : Nat} (h : K ∈ SHS) : aSh HD K (0, 2) := by
  revert K
  unfold aSh
  decide
theorem shSi {K : Nat} (h : K ∈ SHS) : aSh HD (K + 1) (1, 40) := by
  revert K
  unfold aSh
  decide
theorem shY {K : Nat} (h : K ∈ TXA) : aSh HD K (0, 3) := by
  revert K
  unfold aSh
  decide
theorem shYs {K : Nat} (h : K ∈ TXA) : aSh HD (K + 1) (1, 160) := by
  revert K
  unfold aSh
  decide
theorem shYe {K : Nat} (h : K ∈ TXA) : aSh HD (K + 2) (1, 3) := by
  revert K
  unfold aSh
  decide
theorem mlS {K : Nat} (h : K ∈ SHS) : (K, 2, K + 1) ∈ MRL := by
  revert K
  decide
theorem mlY1 {K : Nat} (h : K ∈ TXA) : (K, 1, K + 1) ∈ MRL := by
  revert K
  decide
theorem mlY2 {K : Nat} (h : K ∈ TXA) : (K, 2, K + 2) ∈ MRL := by
  revert K
  decide
theorem aup_T0 {mr : Nat → Nat → Option Nat} {T K : Nat} {v : Option Nat} (hM : MRok mr) (hK : K ∈ TOWNS) (_ : T ∈ TOWNS) : aup mr T 2 v K 0 = some (K + 1) := by
  have : aup mr T 2 v K 0 = mr K 0 := by unfold aup; split <;> simp_all
  rw [this]
  exact hM _ (mlT0 hK)
set_option maxRecDepth 20000 in
set_option maxHeartbeats 1000000 in
theorem c_Tbecome {X : aXt × Value} {mi : Nat → Nat → Int32} {ml : Nat → Nat → Int64} {mr : Nat → Nat → Option Nat} (hM : MRok mr) {T T2 ρ2 : Nat} (hT : T ∈ TOWNS) (hT2 : T2 ∈ TOWNS) (hr2 : mr T2 2 = some ρ2) : aCW X 1 54 [.ref T, .ref T2] (HD, mi, ml, mr) (fun r h' => r = none ∧ h' = (HD, acpy (aup mi T 1 (mi T2 1)) (T2 + 1) (T + 1) 0 0 8, ml, aup mr T 2 (some ρ2))) := by
  refine cw_of (cd := cd_X5_become) (nL := 2) rfl rfl ?_
  show aWP _ _ (0, [some (.ref T), some (.ref T2)], [], (HD, mi, ml, mr)) _
  refine wp_steps 2 (t' := (2, [some (.ref T), some (.ref T2)], [.ref T2, .ref T], (HD, mi, ml, mr))) rfl ?_
  refine wp_geti rfl (shT hT2) (Or.inl rfl) ?_
  refine wp_puti rfl (shT hT) rfl (fun m_1 h_2 => ?_)
  subst h_2
  refine wp_steps 2 (t' := (6, [some (.ref T), some (.ref T2)], [.ref T2, .ref T], (HD, (aup mi T 1 (mi T2 1)), ml, mr))) rfl ?_
  refine wp_getr rfl (shT hT2) rfl hr2 ?_
  refine wp_putr rfl (shT hT) rfl (fun m_3 h_4 => ?_)
  subst h_4
  refine wp_steps 1 (t' := (9, [some (.ref T), some (.ref T2)], [.ref T2], (HD, (aup mi T 1 (mi T2 1)), ml, (aup mr T 2 (some (ρ2)))))) rfl ?_
  refine wp_getr rfl (shT hT2) rfl (aup_T0 hM hT2 hT) ?_
  refine wp_steps 2 (t' := (12, [some (.ref T), some (.ref T2)], [.ref T, .int 0, .ref (T2 + 1)], (HD, (aup mi T 1 (mi T2 1)), ml, (aup mr T 2 (some (ρ2)))))) rfl ?_
  refine wp_getr rfl (shT hT) rfl (aup_T0 hM hT hT) ?_
  refine wp_steps 2 (t' := (15, [some (.ref T), some (.ref T2)], [.int 8, .int 0, .ref (T + 1), .int 0, .ref (T2 + 1)], (HD, (aup mi T 1 (mi T2 1)), ml, (aup mr T 2 (some (ρ2)))))) rfl ?_
  refine wp_cpy rfl (shTh hT2) (shTh hT) (by decide) (by decide) (by decide) (by decide) (by decide) (Nat.le_of_ble_eq_true rfl) (fun m_5 h_6 => ?_)
  subst h_6
  refine wp_ret rfl rfl ⟨⟨Nat.le_refl _, Nat.le_refl _⟩, ?_⟩
  exact ⟨rfl, rfl⟩
def puV (m : Nat → Nat → Int32) (P : Nat) (w v : Int32) : Int32 := if vOf m P w = -2 then -2 else if v < 0 then -2 else if v ≤ mOf w then vOf m P w else -2
def puW (m : Nat → Nat → Int32) (P : Nat) (w v : Int32) : Nat → Nat → Int32 := if w = 2 then aup m P 1 v else if w = 3 then aup m P 2 v else if w = 4 then aup m P 3 v else if w < 10 then m else if aixn (w - 10) 8 = true then aup m (P + 1) (w - 10).toNatClampNeg v else m
def puM (m : Nat → Nat → Int32) (P : Nat) (w v : Int32) : Nat → Nat → Int32 := if vOf m P w = -2 then m else if v < 0 then m else if v ≤ mOf w then puW m P w v else m
set_option maxRecDepth 20000 in
set_option maxHeartbeats 1000000 in
theorem c_Pput {X : aXt × Value} {mi : Nat → Nat → Int32} {ml : Nat → Nat → Int64} {mr : Nat → Nat → Option Nat} (hM : MRok mr) {P : Nat} (hP : P ∈ PUPS) {w v : Int32} : aCW X 3 4 [.ref P, .int w, .int v] (HD, mi, ml, mr) (fun r h' => r = some (.int (puV mi P w v)) ∧ h' = (HD, puM mi P w v, ml, mr)) := by
  refine cw_of (cd := cd_X0_put) (nL := 4) rfl rfl ?_
  show aWP _ _ (0, [some (.ref P), some (.int w), some (.int v), none], [], (HD, mi, ml, mr)) _
  refine wp_steps 2 (t' := (2, [some (.ref P), some (.int w), some (.int v), none], [.int w, .ref P], (HD, mi, ml, mr))) rfl ?_
  refine wp_calv (as := [.int w]) rfl rfl rfl (Nat.le_of_ble_eq_true rfl) (shP hP) (c_valueOf hM hP) (by decide) ?_
  rintro _ _ ⟨rfl, rfl⟩
  show aWP _ _ (3, [some (.ref P), some (.int w), some (.int v), none], [.int (vOf mi P w)], (HD, mi, ml, mr)) _
  refine wp_steps 3 (t' := (6, [some (.ref P), some (.int w), some (.int v), some (.int (vOf mi P w))], [.int (-2), .int (vOf mi P w)], (HD, mi, ml, mr))) rfl ?_
  refine wp_bC rfl (fun c_1 => ?_) (fun c_1 => ?_)
  · have c_1 : (vOf mi P w) = (-2) := of_decide_eq_true c_1
    refine wp_steps 1 (t' := (14, [some (.ref P), some (.int w), some (.int v), some (.int (vOf mi P w))], [.int (-2)], (HD, mi, ml, mr))) rfl ?_
    refine wp_ret rfl rfl ⟨⟨Nat.le_refl _, Nat.le_refl _⟩, ?_⟩
    exact ⟨by simp [puV, c_1], by congr 2; simp [puM, c_1]⟩
  · have c_1 : ¬ ((vOf mi P w) = (-2)) := of_decide_eq_false c_1
    refine wp_steps 1 (t' := (8, [some (.ref P), some (.int w), some (.int v), some (.int (vOf mi P w))], [.int v], (HD, mi, ml, mr))) rfl ?_
    refine wp_bI rfl (fun c_2 => ?_) (fun c_2 => ?_)
    · have c_2 : v < 0 := of_decide_eq_true c_2
      refine wp_steps 1 (t' := (14, [some (.ref P), some (.int w), some (.int v), some (.int (vOf mi P w))], [.int (-2)], (HD, mi, ml, mr))) rfl ?_
      refine wp_ret rfl rfl ⟨⟨Nat.le_refl _, Nat.le_refl _⟩, ?_⟩
      exact ⟨by simp [puV, c_1, c_2], by congr 2; simp [puM, c_1, c_2]⟩
    · have c_2 : ¬ (v < 0) := of_decide_eq_false c_2
      refine wp_steps 2 (t' := (11, [some (.ref P), some (.int w), some (.int v), some (.int (vOf mi P w))], [.int w, .int v], (HD, mi, ml, mr))) rfl ?_
      refine wp_cal (as := [.int w]) rfl rfl rfl (Nat.le_of_ble_eq_true rfl) (c_mostOf) (by decide) ?_
      rintro _ _ ⟨rfl, rfl⟩
      show aWP _ _ (12, [some (.ref P), some (.int w), some (.int v), some (.int (vOf mi P w))], [.int (mOf w), .int v], (HD, mi, ml, mr)) _
      refine wp_bC rfl (fun c_3 => ?_) (fun c_3 => ?_)
      · have c_3 : v ≤ (mOf w) := of_decide_eq_true c_3
        refine wp_steps 2 (t' := (17, [some (.ref P), some (.int w), some (.int v), some (.int (vOf mi P w))], [.int 2, .int w], (HD, mi, ml, mr))) rfl ?_
        refine wp_bC rfl (fun c_4 => ?_) (fun c_4 => ?_)
        · have c_4 : ¬ w = 2 := of_decide_eq_true c_4
          refine wp_steps 2 (t' := (24, [some (.ref P), some (.int w), some (.int v), some (.int (vOf mi P w))], [.int 3, .int w], (HD, mi, ml, mr))) rfl ?_
          refine wp_bC rfl (fun c_5 => ?_) (fun c_5 => ?_)
          · have c_5 : ¬ w = 3 := of_decide_eq_true c_5
            refine wp_steps 2 (t' := (31, [some (.ref P), some (.int w), some (.int v), some (.int (vOf mi P w))], [.int 4, .int w], (HD, mi, ml, mr))) rfl ?_
            refine wp_bC rfl (fun c_6 => ?_) (fun c_6 => ?_)
            · have c_6 : ¬ w = 4 := of_decide_eq_true c_6
              refine wp_steps 2 (t' := (38, [some (.ref P), some (.int w), some (.int v), some (.int (vOf mi P w))], [.int 10, .int w], (HD, mi, ml, mr))) rfl ?_
              refine wp_bC rfl (fun c_7 => ?_) (fun c_7 => ?_)
              · have c_7 : w < 10 := of_decide_eq_true c_7
                refine wp_steps 1 (t' := (52, [some (.ref P), some (.int w), some (.int v), some (.int (vOf mi P w))], [.int (vOf mi P w)], (HD, mi, ml, mr))) rfl ?_
                refine wp_ret rfl rfl ⟨⟨Nat.le_refl _, Nat.le_refl _⟩, ?_⟩
                refine ⟨?_, ?_⟩
                · unfold puV; rw [if_neg c_1, if_neg c_2, if_pos c_3]
                · unfold puM puW; rw [if_neg c_1, if_neg c_2, if_pos c_3, if_neg c_4, if_neg c_5, if_neg c_6, if_pos c_7]
              · have c_7 : ¬ (w < 10) := of_decide_eq_false c_7
                refine wp_steps 3 (t' := (42, [some (.ref P), some (.int w), some (.int v), some (.int (vOf mi P w))], [.int (w - 10)], (HD, mi, ml, mr))) rfl ?_
                refine wp_cal (as := [.int (w - 10)]) rfl rfl rfl (Nat.le_of_ble_eq_true rfl) (c_isStreet) (by decide) ?_
                rintro _ _ ⟨rfl, rfl⟩
                show aWP _ _ (43, [some (.ref P), some (.int w), some (.int v), some (.int (vOf mi P w))], [.int (if aixn (w - 10) 8 = true then (1 : Int32) else 0)], (HD, mi, ml, mr)) _
                refine wp_bI rfl (fun c_8 => ?_) (fun c_8 => ?_)
                · have c_8 : (if aixn (w - 10) 8 = true then (1 : Int32) else 0) = 0 := of_decide_eq_true c_8
                  refine wp_steps 1 (t' := (52, [some (.ref P), some (.int w), some (.int v), some (.int (vOf mi P w))], [.int (vOf mi P w)], (HD, mi, ml, mr))) rfl ?_
                  refine wp_ret rfl rfl ⟨⟨Nat.le_refl _, Nat.le_refl _⟩, ?_⟩
                  refine ⟨?_, ?_⟩
                  · unfold puV; rw [if_neg c_1, if_neg c_2, if_pos c_3]
                  · unfold puM puW; rw [if_neg c_1, if_neg c_2, if_pos c_3, if_neg c_4, if_neg c_5, if_neg c_6, if_neg c_7, if_neg (by rw [ite_nix c_8]; decide)]
                · have c_8 : ¬ ((if aixn (w - 10) 8 = true then (1 : Int32) else 0) = 0) := of_decide_eq_false c_8
                  refine wp_steps 1 (t' := (45, [some (.ref P), some (.int w), some (.int v), some (.int (vOf mi P w))], [.ref P], (HD, mi, ml, mr))) rfl ?_
                  refine wp_getr rfl (shP hP) rfl (hM _ (mlP hP)) ?_
                  refine wp_steps 4 (t' := (50, [some (.ref P), some (.int w), some (.int v), some (.int (vOf mi P w))], [.int v, .int (w - 10), .ref (P + 1)], (HD, mi, ml, mr))) rfl ?_
                  refine wp_iast rfl (shPs hP) (ite_aix c_8) (fun m_9 h_10 => ?_)
                  subst h_10
                  refine wp_steps 1 (t' := (52, [some (.ref P), some (.int w), some (.int v), some (.int (vOf mi P w))], [.int (vOf mi P w)], (HD, (aup mi (P + 1) (w - 10).toNatClampNeg v), ml, mr))) rfl ?_
                  refine wp_ret rfl rfl ⟨⟨Nat.le_refl _, Nat.le_refl _⟩, ?_⟩
                  refine ⟨?_, ?_⟩
                  · unfold puV; rw [if_neg c_1, if_neg c_2, if_pos c_3]
                  · unfold puM puW; rw [if_neg c_1, if_neg c_2, if_pos c_3, if_neg c_4, if_neg c_5, if_neg c_6, if_neg c_7, if_pos (ite_aix c_8)]
            · have c_6 : w = 4 := Decidable.not_not.mp (of_decide_eq_false c_6)
              refine wp_steps 2 (t' := (34, [some (.ref P), some (.int w), some (.int v), some (.int (vOf mi P w))], [.int v, .ref P], (HD, mi, ml, mr))) rfl ?_
              refine wp_puti rfl (shP hP) rfl (fun m_11 h_12 => ?_)
              subst h_12
              refine wp_steps 2 (t' := (52, [some (.ref P), some (.int w), some (.int v), some (.int (vOf mi P w))], [.int (vOf mi P w)], (HD, (aup mi P 3 v), ml, mr))) rfl ?_
              refine wp_ret rfl rfl ⟨⟨Nat.le_refl _, Nat.le_refl _⟩, ?_⟩
              refine ⟨?_, ?_⟩
              · unfold puV; rw [if_neg c_1, if_neg c_2, if_pos c_3]
              · unfold puM puW; rw [if_neg c_1, if_neg c_2, if_pos c_3, if_neg c_4, if_neg c_5, if_pos c_6]
          · have c_5 : w = 3 := Decidable.not_not.mp (of_decide_eq_false c_5)
            refine wp_steps 2 (t' := (27, [some (.ref P), some (.int w), some (.int v), some (.int (vOf mi P w))], [.int v, .ref P], (HD, mi, ml, mr))) rfl ?_
            refine wp_puti rfl (shP hP) rfl (fun m_13 h_14 => ?_)
            subst h_14
            refine wp_steps 2 (t' := (52, [some (.ref P), some (.int w), some (.int v), some (.int (vOf mi P w))], [.int (vOf mi P w)], (HD, (aup mi P 2 v), ml, mr))) rfl ?_
            refine wp_ret rfl rfl ⟨⟨Nat.le_refl _, Nat.le_refl _⟩, ?_⟩
            refine ⟨?_, ?_⟩
            · unfold puV; rw [if_neg c_1, if_neg c_2, if_pos c_3]
            · unfold puM puW; rw [if_neg c_1, if_neg c_2, if_pos c_3, if_neg c_4, if_pos c_5]
        · have c_4 : w = 2 := Decidable.not_not.mp (of_decide_eq_false c_4)
          refine wp_steps 2 (t' := (20, [some (.ref P), some (.int w), some (.int v), some (.int (vOf mi P w))], [.int v, .ref P], (HD, mi, ml, mr))) rfl ?_
          refine wp_puti rfl (shP hP) rfl (fun m_15 h_16 => ?_)
          subst h_16
          refine wp_steps 2 (t' := (52, [some (.ref P), some (.int w), some (.int v), some (.int (vOf mi P w))], [.int (vOf mi P w)], (HD, (aup mi P 1 v), ml, mr))) rfl ?_
          refine wp_ret rfl rfl ⟨⟨Nat.le_refl _, Nat.le_refl _⟩, ?_⟩
          refine ⟨?_, ?_⟩
          · unfold puV; rw [if_neg c_1, if_neg c_2, if_pos c_3]
          · unfold puM puW; rw [if_neg c_1, if_neg c_2, if_pos c_3, if_pos c_4]
      · have c_3 : ¬ (v ≤ (mOf w)) := of_decide_eq_false c_3
        refine wp_steps 1 (t' := (14, [some (.ref P), some (.int w), some (.int v), some (.int (vOf mi P w))], [.int (-2)], (HD, mi, ml, mr))) rfl ?_
        refine wp_ret rfl rfl ⟨⟨Nat.le_refl _, Nat.le_refl _⟩, ?_⟩
        exact ⟨by simp [puV, c_1, c_2, c_3], by congr 2; simp [puM, c_1, c_2, c_3]⟩
def hsF (sz i : Int32) : Int32 := if i < 0 then 0 else if sz ≤ i then 0 else if 40 ≤ i then 0 else 1
def hrF (sz i n : Int32) : Int32 := if i < 0 then 0 else if n < 0 then 0 else if sz < i then 0 else if sz - i < n then 0 else 1
def siF (so v : Int32) : Int32 := if so = 0 then fi2b v else if so = 1 then fi2s v else v
theorem hsF_ix {sz i : Int32} (h : ¬ hsF sz i = 0) : aixn i 40 = true := by
  unfold hsF at h
  by_cases c1 : i < 0
  · simp [c1] at h
  · by_cases c2 : sz ≤ i
    · simp [c1, c2] at h
    · by_cases c3 : 40 ≤ i
      · simp [c1, c2, c3] at h
      · exact (aix_iff (by decide)).mpr ⟨c1, c3⟩
set_option maxRecDepth 20000 in
set_option maxHeartbeats 1000000 in
theorem c_Sbecome {X : aXt × Value} {mi : Nat → Nat → Int32} {ml : Nat → Nat → Int64} {mr : Nat → Nat → Option Nat} (hM : MRok mr) {K : Nat} (hK : K ∈ SHS) {so n : Int32} : aCW X 2 31 [.ref K, .int so, .int n] (HD, mi, ml, mr) (fun r h' => r = none ∧ h' = (HD, afil (aup (aup mi K 0 so) K 1 (cl 0 40 n)) (K + 1) 40 0, ml, mr)) := by
  refine cw_of (cd := cd_X2_become) (nL := 3) rfl rfl ?_
  show aWP _ _ (0, [some (.ref K), some (.int so), some (.int n)], [], (HD, mi, ml, mr)) _
  refine wp_steps 2 (t' := (2, [some (.ref K), some (.int so), some (.int n)], [.int so, .ref K], (HD, mi, ml, mr))) rfl ?_
  refine wp_puti rfl (shS hK) rfl (fun m_1 h_2 => ?_)
  subst h_2
  refine wp_steps 4 (t' := (7, [some (.ref K), some (.int so), some (.int n)], [.int 40, .int 0, .int n, .ref K], (HD, (aup mi K 0 so), ml, mr))) rfl ?_
  refine wp_cal (as := [.int n, .int 0, .int 40]) rfl rfl rfl (Nat.le_of_ble_eq_true rfl) (c_bounded (by decide)) (by decide) ?_
  rintro _ _ ⟨rfl, rfl⟩
  show aWP _ _ (8, [some (.ref K), some (.int so), some (.int n)], [.int (cl 0 40 n), .ref K], (HD, (aup mi K 0 so), ml, mr)) _
  refine wp_puti rfl (shS hK) rfl (fun m_3 h_4 => ?_)
  subst h_4
  refine wp_steps 1 (t' := (10, [some (.ref K), some (.int so), some (.int n)], [.ref K], (HD, (aup (aup mi K 0 so) K 1 (cl 0 40 n)), ml, mr))) rfl ?_
  refine wp_getr rfl (shS hK) rfl (hM _ (mlS hK)) ?_
  refine wp_steps 1 (t' := (12, [some (.ref K), some (.int so), some (.int n)], [.int 0, .ref (K + 1)], (HD, (aup (aup mi K 0 so) K 1 (cl 0 40 n)), ml, mr))) rfl ?_
  refine wp_cal (as := [.ref (K + 1), .int 0]) rfl rfl rfl (Nat.le_of_ble_eq_true rfl) (c_fill (mi := (aup (aup mi K 0 so) K 1 (cl 0 40 n))) (shSi hK) (by decide)) (by decide) ?_
  rintro _ _ ⟨rfl, rfl⟩
  show aWP _ _ (13, [some (.ref K), some (.int so), some (.int n)], [], (HD, (afil (aup (aup mi K 0 so) K 1 (cl 0 40 n)) (K + 1) 40 0), ml, mr)) _
  refine wp_ret rfl rfl ⟨⟨Nat.le_refl _, Nat.le_refl _⟩, ?_⟩
  exact ⟨rfl, rfl⟩
set_option maxRecDepth 20000 in
set_option maxHeartbeats 1000000 in
theorem c_Shas {X : aXt × Value} {mi : Nat → Nat → Int32} {ml : Nat → Nat → Int64} {mr : Nat → Nat → Option Nat} {K : Nat} (hK : K ∈ SHS) {i : Int32} : aCW X 1 32 [.ref K, .int i] (HD, mi, ml, mr) (rdI mi ml mr (hsF (mi K 1) i)) := by
  refine cw_of (cd := cd_X2_has) (nL := 2) rfl rfl ?_
  show aWP _ _ (0, [some (.ref K), some (.int i)], [], (HD, mi, ml, mr)) _
  refine wp_steps 1 (t' := (1, [some (.ref K), some (.int i)], [.int i], (HD, mi, ml, mr))) rfl ?_
  refine wp_bI rfl (fun c_1 => ?_) (fun c_1 => ?_)
  · have c_1 : i < 0 := of_decide_eq_true c_1
    refine wp_steps 1 (t' := (12, [some (.ref K), some (.int i)], [.int 0], (HD, mi, ml, mr))) rfl ?_
    refine wp_ret rfl rfl ⟨⟨Nat.le_refl _, Nat.le_refl _⟩, ?_⟩
    exact ⟨by simp [hsF, c_1], rfl⟩
  · have c_1 : ¬ (i < 0) := of_decide_eq_false c_1
    refine wp_steps 2 (t' := (4, [some (.ref K), some (.int i)], [.ref K, .int i], (HD, mi, ml, mr))) rfl ?_
    refine wp_geti rfl (shS hK) (Or.inl rfl) ?_
    refine wp_bC rfl (fun c_2 => ?_) (fun c_2 => ?_)
    · have c_2 : (mi K 1) ≤ i := of_decide_eq_true c_2
      refine wp_steps 1 (t' := (12, [some (.ref K), some (.int i)], [.int 0], (HD, mi, ml, mr))) rfl ?_
      refine wp_ret rfl rfl ⟨⟨Nat.le_refl _, Nat.le_refl _⟩, ?_⟩
      exact ⟨by simp [hsF, c_1, c_2], rfl⟩
    · have c_2 : ¬ ((mi K 1) ≤ i) := of_decide_eq_false c_2
      refine wp_steps 2 (t' := (8, [some (.ref K), some (.int i)], [.int 40, .int i], (HD, mi, ml, mr))) rfl ?_
      refine wp_bC rfl (fun c_3 => ?_) (fun c_3 => ?_)
      · have c_3 : 40 ≤ i := of_decide_eq_true c_3
        refine wp_steps 1 (t' := (12, [some (.ref K), some (.int i)], [.int 0], (HD, mi, ml, mr))) rfl ?_
        refine wp_ret rfl rfl ⟨⟨Nat.le_refl _, Nat.le_refl _⟩, ?_⟩
        exact ⟨by simp [hsF, c_1, c_2, c_3], rfl⟩
      · have c_3 : ¬ (40 ≤ i) := of_decide_eq_false c_3
        refine wp_steps 2 (t' := (12, [some (.ref K), some (.int i)], [.int 1], (HD, mi, ml, mr))) rfl ?_
        refine wp_ret rfl rfl ⟨⟨Nat.le_refl _, Nat.le_refl _⟩, ?_⟩
        exact ⟨by simp [hsF, c_1, c_2, c_3], rfl⟩
set_option maxRecDepth 20000 in
set_option maxHeartbeats 1000000 in
theorem c_ShasRun {X : aXt × Value} {mi : Nat → Nat → Int32} {ml : Nat → Nat → Int64} {mr : Nat → Nat → Option Nat} {K : Nat} (hK : K ∈ SHS) {i n : Int32} : aCW X 1 33 [.ref K, .int i, .int n] (HD, mi, ml, mr) (rdI mi ml mr (hrF (mi K 1) i n)) := by
  refine cw_of (cd := cd_X2_hasRun) (nL := 3) rfl rfl ?_
  show aWP _ _ (0, [some (.ref K), some (.int i), some (.int n)], [], (HD, mi, ml, mr)) _
  refine wp_steps 1 (t' := (1, [some (.ref K), some (.int i), some (.int n)], [.int i], (HD, mi, ml, mr))) rfl ?_
  refine wp_bI rfl (fun c_1 => ?_) (fun c_1 => ?_)
  · have c_1 : i < 0 := of_decide_eq_true c_1
    refine wp_steps 1 (t' := (17, [some (.ref K), some (.int i), some (.int n)], [.int 0], (HD, mi, ml, mr))) rfl ?_
    refine wp_ret rfl rfl ⟨⟨Nat.le_refl _, Nat.le_refl _⟩, ?_⟩
    exact ⟨by simp [hrF, c_1], rfl⟩
  · have c_1 : ¬ (i < 0) := of_decide_eq_false c_1
    refine wp_steps 1 (t' := (3, [some (.ref K), some (.int i), some (.int n)], [.int n], (HD, mi, ml, mr))) rfl ?_
    refine wp_bI rfl (fun c_2 => ?_) (fun c_2 => ?_)
    · have c_2 : n < 0 := of_decide_eq_true c_2
      refine wp_steps 1 (t' := (17, [some (.ref K), some (.int i), some (.int n)], [.int 0], (HD, mi, ml, mr))) rfl ?_
      refine wp_ret rfl rfl ⟨⟨Nat.le_refl _, Nat.le_refl _⟩, ?_⟩
      exact ⟨by simp [hrF, c_1, c_2], rfl⟩
    · have c_2 : ¬ (n < 0) := of_decide_eq_false c_2
      refine wp_steps 2 (t' := (6, [some (.ref K), some (.int i), some (.int n)], [.ref K, .int i], (HD, mi, ml, mr))) rfl ?_
      refine wp_geti rfl (shS hK) (Or.inl rfl) ?_
      refine wp_bC rfl (fun c_3 => ?_) (fun c_3 => ?_)
      · have c_3 : (mi K 1) < i := of_decide_eq_true c_3
        refine wp_steps 1 (t' := (17, [some (.ref K), some (.int i), some (.int n)], [.int 0], (HD, mi, ml, mr))) rfl ?_
        refine wp_ret rfl rfl ⟨⟨Nat.le_refl _, Nat.le_refl _⟩, ?_⟩
        exact ⟨by simp [hrF, c_1, c_2, c_3], rfl⟩
      · have c_3 : ¬ ((mi K 1) < i) := of_decide_eq_false c_3
        refine wp_steps 2 (t' := (10, [some (.ref K), some (.int i), some (.int n)], [.ref K, .int n], (HD, mi, ml, mr))) rfl ?_
        refine wp_geti rfl (shS hK) (Or.inl rfl) ?_
        refine wp_steps 2 (t' := (13, [some (.ref K), some (.int i), some (.int n)], [.int ((mi K 1) - i), .int n], (HD, mi, ml, mr))) rfl ?_
        refine wp_bC rfl (fun c_4 => ?_) (fun c_4 => ?_)
        · have c_4 : ((mi K 1) - i) < n := of_decide_eq_true c_4
          refine wp_steps 1 (t' := (17, [some (.ref K), some (.int i), some (.int n)], [.int 0], (HD, mi, ml, mr))) rfl ?_
          refine wp_ret rfl rfl ⟨⟨Nat.le_refl _, Nat.le_refl _⟩, ?_⟩
          exact ⟨by simp [hrF, c_1, c_2, c_3, c_4], rfl⟩
        · have c_4 : ¬ (((mi K 1) - i) < n) := of_decide_eq_false c_4
          refine wp_steps 2 (t' := (17, [some (.ref K), some (.int i), some (.int n)], [.int 1], (HD, mi, ml, mr))) rfl ?_
          refine wp_ret rfl rfl ⟨⟨Nat.le_refl _, Nat.le_refl _⟩, ?_⟩
          exact ⟨by simp [hrF, c_1, c_2, c_3, c_4], rfl⟩
set_option maxRecDepth 20000 in
set_option maxHeartbeats 1000000 in
theorem c_Sput {X : aXt × Value} {mi : Nat → Nat → Int32} {ml : Nat → Nat → Int64} {mr : Nat → Nat → Option Nat} (hM : MRok mr) {K : Nat} (hK : K ∈ SHS) {i v : Int32} : aCW X 2 34 [.ref K, .int i, .int v] (HD, mi, ml, mr) (fun r h' => r = none ∧ h' = (HD, if hsF (mi K 1) i = 0 then mi else aup mi (K + 1) i.toNatClampNeg (siF (mi K 0) v), ml, mr)) := by
  refine cw_of (cd := cd_X2_put) (nL := 3) rfl rfl ?_
  show aWP _ _ (0, [some (.ref K), some (.int i), some (.int v)], [], (HD, mi, ml, mr)) _
  refine wp_steps 2 (t' := (2, [some (.ref K), some (.int i), some (.int v)], [.int i, .ref K], (HD, mi, ml, mr))) rfl ?_
  refine wp_calv (as := [.int i]) rfl rfl rfl (Nat.le_of_ble_eq_true rfl) (shS hK) (c_Shas hK) (by decide) ?_
  rintro _ _ ⟨rfl, rfl⟩
  show aWP _ _ (3, [some (.ref K), some (.int i), some (.int v)], [.int (hsF (mi K 1) i)], (HD, mi, ml, mr)) _
  refine wp_bI rfl (fun c_1 => ?_) (fun c_1 => ?_)
  · have c_1 : (hsF (mi K 1) i) = 0 := of_decide_eq_true c_1
    refine wp_ret rfl rfl ⟨⟨Nat.le_refl _, Nat.le_refl _⟩, ?_⟩
    exact ⟨rfl, by congr 2; simp [siF, c_1]⟩
  · have c_1 : ¬ ((hsF (mi K 1) i) = 0) := of_decide_eq_false c_1
    refine wp_steps 1 (t' := (5, [some (.ref K), some (.int i), some (.int v)], [.ref K], (HD, mi, ml, mr))) rfl ?_
    refine wp_getr rfl (shS hK) rfl (hM _ (mlS hK)) ?_
    refine wp_steps 2 (t' := (8, [some (.ref K), some (.int i), some (.int v)], [.ref K, .int i, .ref (K + 1)], (HD, mi, ml, mr))) rfl ?_
    refine wp_geti rfl (shS hK) (Or.inl rfl) ?_
    refine wp_bI rfl (fun c_2 => ?_) (fun c_2 => ?_)
    · have c_2 : ¬ (mi K 0) = 0 := of_decide_eq_true c_2
      refine wp_steps 1 (t' := (14, [some (.ref K), some (.int i), some (.int v)], [.ref K, .int i, .ref (K + 1)], (HD, mi, ml, mr))) rfl ?_
      refine wp_geti rfl (shS hK) (Or.inl rfl) ?_
      refine wp_steps 1 (t' := (16, [some (.ref K), some (.int i), some (.int v)], [.int 1, .int (mi K 0), .int i, .ref (K + 1)], (HD, mi, ml, mr))) rfl ?_
      refine wp_bC rfl (fun c_3 => ?_) (fun c_3 => ?_)
      · have c_3 : ¬ (mi K 0) = 1 := of_decide_eq_true c_3
        refine wp_steps 1 (t' := (21, [some (.ref K), some (.int i), some (.int v)], [.int v, .int i, .ref (K + 1)], (HD, mi, ml, mr))) rfl ?_
        refine wp_iast rfl (shSi hK) (hsF_ix c_1) (fun m_4 h_5 => ?_)
        subst h_5
        refine wp_ret rfl rfl ⟨⟨Nat.le_refl _, Nat.le_refl _⟩, ?_⟩
        exact ⟨rfl, by congr 2; simp [siF, c_1, c_2, c_3]⟩
      · have c_3 : (mi K 0) = 1 := Decidable.not_not.mp (of_decide_eq_false c_3)
        refine wp_steps 3 (t' := (21, [some (.ref K), some (.int i), some (.int v)], [.int (fi2s v), .int i, .ref (K + 1)], (HD, mi, ml, mr))) rfl ?_
        refine wp_iast rfl (shSi hK) (hsF_ix c_1) (fun m_6 h_7 => ?_)
        subst h_7
        refine wp_ret rfl rfl ⟨⟨Nat.le_refl _, Nat.le_refl _⟩, ?_⟩
        exact ⟨rfl, by congr 2; simp [siF, c_1, c_2, c_3]⟩
    · have c_2 : (mi K 0) = 0 := Decidable.not_not.mp (of_decide_eq_false c_2)
      refine wp_steps 3 (t' := (21, [some (.ref K), some (.int i), some (.int v)], [.int (fi2b v), .int i, .ref (K + 1)], (HD, mi, ml, mr))) rfl ?_
      refine wp_iast rfl (shSi hK) (hsF_ix c_1) (fun m_8 h_9 => ?_)
      subst h_9
      refine wp_ret rfl rfl ⟨⟨Nat.le_refl _, Nat.le_refl _⟩, ?_⟩
      exact ⟨rfl, by congr 2; simp [siF, c_1, c_2]⟩
set_option maxRecDepth 20000 in
set_option maxHeartbeats 1000000 in
theorem c_Xempty {X : aXt × Value} {mi : Nat → Nat → Int32} {ml : Nat → Nat → Int64} {mr : Nat → Nat → Option Nat} (hM : MRok mr) {A : Nat} (hA : A ∈ TXA) : aCW X 2 36 [.ref A] (HD, mi, ml, mr) (fun r h' => r = none ∧ h' = (HD, afil (aup mi A 4 0) (A + 2) 3 0, ml, mr)) := by
  refine cw_of (cd := cd_X3_empty) (nL := 1) rfl rfl ?_
  show aWP _ _ (0, [some (.ref A)], [], (HD, mi, ml, mr)) _
  refine wp_steps 2 (t' := (2, [some (.ref A)], [.int 0, .ref A], (HD, mi, ml, mr))) rfl ?_
  refine wp_puti rfl (shY hA) rfl (fun m_1 h_2 => ?_)
  subst h_2
  refine wp_steps 1 (t' := (4, [some (.ref A)], [.ref A], (HD, (aup mi A 4 0), ml, mr))) rfl ?_
  refine wp_getr rfl (shY hA) rfl (hM _ (mlY2 hA)) ?_
  refine wp_steps 1 (t' := (6, [some (.ref A)], [.int 0, .ref (A + 2)], (HD, (aup mi A 4 0), ml, mr))) rfl ?_
  refine wp_cal (as := [.ref (A + 2), .int 0]) rfl rfl rfl (Nat.le_of_ble_eq_true rfl) (c_fill (mi := (aup mi A 4 0)) (shYe hA) (by decide)) (by decide) ?_
  rintro _ _ ⟨rfl, rfl⟩
  show aWP _ _ (7, [some (.ref A)], [], (HD, (afil (aup mi A 4 0) (A + 2) 3 0), ml, mr)) _
  refine wp_ret rfl rfl ⟨⟨Nat.le_refl _, Nat.le_refl _⟩, ?_⟩
  exact ⟨rfl, rfl⟩
set_option maxRecDepth 20000 in
set_option maxHeartbeats 1000000 in
theorem c_Xbecome {X : aXt × Value} {mi : Nat → Nat → Int32} {ml : Nat → Nat → Int64} {mr : Nat → Nat → Option Nat} (hM : MRok mr) {A B : Nat} (hA : A ∈ TXA) (hB : B ∈ TXA) : aCW X 1 37 [.ref A, .ref B] (HD, mi, ml, mr) (fun r h' => r = none ∧ h' = (HD, acpy (acpy (aup mi A 4 (mi B 4)) (B + 2) (A + 2) 0 0 3) (B + 1) (A + 1) 0 0 160, ml, mr)) := by
  refine cw_of (cd := cd_X3_become) (nL := 2) rfl rfl ?_
  show aWP _ _ (0, [some (.ref A), some (.ref B)], [], (HD, mi, ml, mr)) _
  refine wp_steps 2 (t' := (2, [some (.ref A), some (.ref B)], [.ref B, .ref A], (HD, mi, ml, mr))) rfl ?_
  refine wp_geti rfl (shY hB) (Or.inl rfl) ?_
  refine wp_puti rfl (shY hA) rfl (fun m_1 h_2 => ?_)
  subst h_2
  refine wp_steps 1 (t' := (5, [some (.ref A), some (.ref B)], [.ref B], (HD, (aup mi A 4 (mi B 4)), ml, mr))) rfl ?_
  refine wp_getr rfl (shY hB) rfl (hM _ (mlY2 hB)) ?_
  refine wp_steps 2 (t' := (8, [some (.ref A), some (.ref B)], [.ref A, .int 0, .ref (B + 2)], (HD, (aup mi A 4 (mi B 4)), ml, mr))) rfl ?_
  refine wp_getr rfl (shY hA) rfl (hM _ (mlY2 hA)) ?_
  refine wp_steps 2 (t' := (11, [some (.ref A), some (.ref B)], [.int 3, .int 0, .ref (A + 2), .int 0, .ref (B + 2)], (HD, (aup mi A 4 (mi B 4)), ml, mr))) rfl ?_
  refine wp_cpy rfl (shYe hB) (shYe hA) (by decide) (by decide) (by decide) (by decide) (by decide) (Nat.le_of_ble_eq_true rfl) (fun m_3 h_4 => ?_)
  subst h_4
  refine wp_steps 1 (t' := (13, [some (.ref A), some (.ref B)], [.ref B], (HD, (acpy (aup mi A 4 (mi B 4)) (B + 2) (A + 2) 0 0 3), ml, mr))) rfl ?_
  refine wp_getr rfl (shY hB) rfl (hM _ (mlY1 hB)) ?_
  refine wp_steps 2 (t' := (16, [some (.ref A), some (.ref B)], [.ref A, .int 0, .ref (B + 1)], (HD, (acpy (aup mi A 4 (mi B 4)) (B + 2) (A + 2) 0 0 3), ml, mr))) rfl ?_
  refine wp_getr rfl (shY hA) rfl (hM _ (mlY1 hA)) ?_
  refine wp_steps 2 (t' := (19, [some (.ref A), some (.ref B)], [.int 160, .int 0, .ref (A + 1), .int 0, .ref (B + 1)], (HD, (acpy (aup mi A 4 (mi B 4)) (B + 2) (A + 2) 0 0 3), ml, mr))) rfl ?_
  refine wp_cpy rfl (shYs hB) (shYs hA) (by decide) (by decide) (by decide) (by decide) (by decide) (Nat.le_of_ble_eq_true rfl) (fun m_5 h_6 => ?_)
  subst h_6
  refine wp_ret rfl rfl ⟨⟨Nat.le_refl _, Nat.le_refl _⟩, ?_⟩
  exact ⟨rfl, rfl⟩
set_option maxRecDepth 20000 in
set_option maxHeartbeats 1000000 in
theorem c_Xadd {X : aXt × Value} {mi : Nat → Nat → Int32} {ml : Nat → Nat → Int64} {mr : Nat → Nat → Option Nat} (hM : MRok mr) {A : Nat} (hA : A ∈ TXA) {c : Int32} : aCW X 1 38 [.ref A, .int c] (HD, mi, ml, mr) (fun r h' => r = none ∧ h' = (HD, if aixn (mi A 4) 160 = true then aup (aup mi (A + 1) (mi A 4).toNatClampNeg c) A 4 (mi A 4 + 1) else mi, ml, mr)) := by
  refine cw_of (cd := cd_X3_add) (nL := 2) rfl rfl ?_
  show aWP _ _ (0, [some (.ref A), some (.int c)], [], (HD, mi, ml, mr)) _
  refine wp_steps 1 (t' := (1, [some (.ref A), some (.int c)], [.ref A], (HD, mi, ml, mr))) rfl ?_
  refine wp_geti rfl (shY hA) (Or.inl rfl) ?_
  refine wp_bI rfl (fun c_1 => ?_) (fun c_1 => ?_)
  · have c_1 : (mi A 4) < 0 := of_decide_eq_true c_1
    refine wp_ret rfl rfl ⟨⟨Nat.le_refl _, Nat.le_refl _⟩, ?_⟩
    exact ⟨rfl, by rw [if_neg (fun q => absurd c_1 ((aix_iff (by decide)).mp q).1)]⟩
  · have c_1 : ¬ ((mi A 4) < 0) := of_decide_eq_false c_1
    refine wp_steps 1 (t' := (4, [some (.ref A), some (.int c)], [.ref A], (HD, mi, ml, mr))) rfl ?_
    refine wp_geti rfl (shY hA) (Or.inl rfl) ?_
    refine wp_steps 1 (t' := (6, [some (.ref A), some (.int c)], [.int 160, .int (mi A 4)], (HD, mi, ml, mr))) rfl ?_
    refine wp_bC rfl (fun c_2 => ?_) (fun c_2 => ?_)
    · have c_2 : 160 ≤ (mi A 4) := of_decide_eq_true c_2
      refine wp_ret rfl rfl ⟨⟨Nat.le_refl _, Nat.le_refl _⟩, ?_⟩
      exact ⟨rfl, by rw [if_neg (fun q => absurd c_2 ((aix_iff (by decide)).mp q).2)]⟩
    · have c_2 : ¬ (160 ≤ (mi A 4)) := of_decide_eq_false c_2
      refine wp_steps 1 (t' := (8, [some (.ref A), some (.int c)], [.ref A], (HD, mi, ml, mr))) rfl ?_
      refine wp_getr rfl (shY hA) rfl (hM _ (mlY1 hA)) ?_
      refine wp_steps 1 (t' := (10, [some (.ref A), some (.int c)], [.ref A, .ref (A + 1)], (HD, mi, ml, mr))) rfl ?_
      refine wp_geti rfl (shY hA) (Or.inl rfl) ?_
      refine wp_steps 1 (t' := (12, [some (.ref A), some (.int c)], [.int c, .int (mi A 4), .ref (A + 1)], (HD, mi, ml, mr))) rfl ?_
      refine wp_iast rfl (shYs hA) ((aix_iff (by decide)).mpr ⟨c_1, c_2⟩) (fun m_3 h_4 => ?_)
      subst h_4
      refine wp_steps 2 (t' := (15, [some (.ref A), some (.int c)], [.ref A, .ref A], (HD, (aup mi (A + 1) (mi A 4).toNatClampNeg c), ml, mr))) rfl ?_
      refine wp_geti rfl (shY hA) (Or.inl rfl) ?_
      refine wp_steps 2 (t' := (18, [some (.ref A), some (.int c)], [.int (((aup mi (A + 1) (mi A 4).toNatClampNeg c) A 4) + 1), .ref A], (HD, (aup mi (A + 1) (mi A 4).toNatClampNeg c), ml, mr))) rfl ?_
      refine wp_puti rfl (shY hA) rfl (fun m_5 h_6 => ?_)
      subst h_6
      refine wp_ret rfl rfl ⟨⟨Nat.le_refl _, Nat.le_refl _⟩, ?_⟩
      exact ⟨rfl, by congr 2; rw [if_pos ((aix_iff (by decide)).mpr ⟨c_1, c_2⟩)]; simp [aup]⟩
set_option maxRecDepth 20000 in
set_option maxHeartbeats 1000000 in
theorem c_Xend {X : aXt × Value} {mi : Nat → Nat → Int32} {ml : Nat → Nat → Int64} {mr : Nat → Nat → Option Nat} (hM : MRok mr) {A : Nat} (hA : A ∈ TXA) {p : Int32} : aCW X 1 39 [.ref A, .int p] (HD, mi, ml, mr) (fun r h' => r = none ∧ h' = (HD, if aixn p 3 = true then aup mi (A + 2) p.toNatClampNeg (mi A 4) else mi, ml, mr)) := by
  refine cw_of (cd := cd_X3_endPart) (nL := 2) rfl rfl ?_
  show aWP _ _ (0, [some (.ref A), some (.int p)], [], (HD, mi, ml, mr)) _
  refine wp_steps 1 (t' := (1, [some (.ref A), some (.int p)], [.int p], (HD, mi, ml, mr))) rfl ?_
  refine wp_bI rfl (fun c_1 => ?_) (fun c_1 => ?_)
  · have c_1 : p < 0 := of_decide_eq_true c_1
    refine wp_ret rfl rfl ⟨⟨Nat.le_refl _, Nat.le_refl _⟩, ?_⟩
    exact ⟨rfl, by rw [if_neg (fun q => absurd c_1 ((aix_iff (by decide)).mp q).1)]⟩
  · have c_1 : ¬ (p < 0) := of_decide_eq_false c_1
    refine wp_steps 2 (t' := (4, [some (.ref A), some (.int p)], [.int 3, .int p], (HD, mi, ml, mr))) rfl ?_
    refine wp_bC rfl (fun c_2 => ?_) (fun c_2 => ?_)
    · have c_2 : 3 ≤ p := of_decide_eq_true c_2
      refine wp_ret rfl rfl ⟨⟨Nat.le_refl _, Nat.le_refl _⟩, ?_⟩
      exact ⟨rfl, by rw [if_neg (fun q => absurd c_2 ((aix_iff (by decide)).mp q).2)]⟩
    · have c_2 : ¬ (3 ≤ p) := of_decide_eq_false c_2
      refine wp_steps 1 (t' := (6, [some (.ref A), some (.int p)], [.ref A], (HD, mi, ml, mr))) rfl ?_
      refine wp_getr rfl (shY hA) rfl (hM _ (mlY2 hA)) ?_
      refine wp_steps 2 (t' := (9, [some (.ref A), some (.int p)], [.ref A, .int p, .ref (A + 2)], (HD, mi, ml, mr))) rfl ?_
      refine wp_geti rfl (shY hA) (Or.inl rfl) ?_
      refine wp_iast rfl (shYe hA) ((aix_iff (by decide)).mpr ⟨c_1, c_2⟩) (fun m_3 h_4 => ?_)
      subst h_4
      refine wp_ret rfl rfl ⟨⟨Nat.le_refl _, Nat.le_refl _⟩, ?_⟩
      exact ⟨rfl, by rw [if_pos ((aix_iff (by decide)).mpr ⟨c_1, c_2⟩)]⟩
