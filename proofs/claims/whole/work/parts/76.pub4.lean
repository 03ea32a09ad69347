/-! lowest terms, a test, what is drawn (written by wip/whole/mkpub4.py) -/
theorem fu9 (x : Int32) : ∃ n, n < 2 ^ 23 ∧ fushr x 9 = nI n := by
  refine ⟨(x.toUInt32 >>> ((9 : Int32).toUInt32 &&& Int32.toUInt32 31)).toNat, ?_, ?_⟩
  · rw [UInt32.toNat_shiftRight]
    have e : ((9 : Int32).toUInt32 &&& Int32.toUInt32 31).toNat % 32 = 9 := by decide
    rw [e, Nat.shiftRight_eq_div_pow]
    have := x.toUInt32.toNat_lt
    omega
  · unfold fushr nI
    generalize x.toUInt32 >>> ((9 : Int32).toUInt32 &&& Int32.toUInt32 31) = u
    apply Int32.toBitVec_inj.mp
    simp [Int32.ofNat, UInt32.toInt32]
theorem rm_nI {n d : Nat} (hn : n < 2 ^ 31) (h0 : 0 < d) (hd : d < 2 ^ 31) : nI n - nI n / nI d * nI d = nI (n % d) := by
  have e1 : nI n / nI d = nI (n / d) := by
    apply Int32.toInt_inj.mp
    rw [lg_idiv_nonneg (by rw [nI_toInt hn]; omega) (by rw [nI_toInt hd]; omega), nI_toInt hn, nI_toInt hd, nI_toInt (Nat.lt_of_le_of_lt (Nat.div_le_self n d) hn)]
    rfl
  rw [e1]
  have e2 : nI (n / d) * nI d = nI (n / d * d) := (Int32.ofNat_mul _ _).symm
  rw [e2, nI_sb (Nat.div_mul_le_self n d)]
  congr 1
  have := Nat.div_add_mod n d
  rw [Nat.mul_comm] at this
  omega
theorem fu8 (x : Int32) : aixn (fushr x 9 - fushr x 9 / 8 * 8) 8 = true := by
  obtain ⟨n, h, e⟩ := fu9 x
  rw [e, show (8 : Int32) = nI 8 from rfl, rm_nI (by omega) (by decide) (by decide)]
  exact aix_nI (Nat.mod_lt _ (by decide)) (by decide)
def nxD (z : Int32) : Int32 := z * 1103515245 + 12345
def itF (f : Int32 → Int32) : Nat → Int32 → Int32
  | 0, z => z
  | n + 1, z => itF f n (f z)
theorem itF_s (f : Int32 → Int32) (n : Nat) (z : Int32) : itF f (n + 1) z = itF f n (f z) := rfl
theorem itF_0 (f : Int32 → Int32) (z : Int32) : itF f 0 z = z := rfl
def pbL (sk : Nat → Int32) : Nat → Int32 → Int32 → Int32 → Int32
  | 0, _, _, n => n
  | g + 1, d, p, n => pbL sk g (nxD d) (nxD p) (if fushr (nxD p) 9 - fushr (nxD p) 9 / 100 * 100 < sk (fushr (nxD d) 9 - fushr (nxD d) 9 / 8 * 8).toNatClampNeg then n + 1 else n)
def pbG (sk : Nat → Int32) (z : Int32) : Int32 := pbL sk 5 z (itF nxD 5 z) 0
theorem ld_step {f : Int64 → Int64 → Int64} {i : Nat} {loc : List (Option Value)} {x y : Int64} {r : List Value} {h : aM} (hy : ¬ y = 0) : aP (gLD f) (i, loc, .long y :: .long x :: r, h) = some (.inl (i + 1, loc, .long (f x y) :: r, h)) := by
  simp only [aP, gLD, if_neg hy]
theorem lN_tI {n : Nat} (h : n < 2 ^ 62) : (lN n).toInt = n := lg_ofNat_toInt (by omega)
theorem lN_ne {n : Nat} (h : n < 2 ^ 62) (h0 : 0 < n) : ¬ lN n = 0 := fun z => by
  have e := lN_tI h
  rw [z] at e
  have : (0 : Int64).toInt = 0 := rfl
  omega
theorem lN_div {a b : Nat} (ha : a < 2 ^ 62) (hb : b < 2 ^ 62) (h0 : 0 < b) : lN a / lN b = lN (a / b) := by
  apply Int64.toInt_inj.mp
  rw [lg_ldiv_nonneg (by rw [lN_tI ha]; omega) (by rw [lN_tI hb]; omega), lN_tI ha, lN_tI hb, lN_tI (Nat.lt_of_le_of_lt (Nat.div_le_self a b) ha)]
  rfl
theorem lN_mod {a b : Nat} (ha : a < 2 ^ 62) (hb : b < 2 ^ 62) (h0 : 0 < b) : lN a - lN a / lN b * lN b = lN (a % b) := by
  rw [lN_div ha hb h0, lN_mul, lN_sub (Nat.div_mul_le_self a b)]
  congr 1
  have := Nat.div_add_mod a b
  rw [Nat.mul_comm] at this
  omega
def fb : Nat → Nat
  | 0 => 0
  | 1 => 1
  | n + 2 => fb (n + 1) + fb n
/-- behind k steps of Euclid's -/
def euI (b k p q : Nat) : Prop := k = 0 ∨ (q < p ∧ ∃ j, k = j + 1 ∧ fb (j + 1) * p + fb j * q ≤ b)
theorem euI_st {a b k p q : Nat} (h : euI b k p q) (h0 : k = 0 → p = a ∧ q = b) (hq : 0 < q) : euI b (k + 1) q (p % q) := by
  refine Or.inr ⟨Nat.mod_lt _ hq, k, rfl, ?_⟩
  rcases h with e | ⟨h1, j, e, h2⟩
  · subst e
    obtain ⟨rfl, rfl⟩ := h0 rfl
    simp [fb]
  · subst e
    have hp : q + p % q ≤ p := by
      have h3 := Nat.div_add_mod p q
      have h4 : 1 ≤ p / q := (Nat.one_le_div_iff hq).mpr (by omega)
      have h5 : q * 1 ≤ q * (p / q) := Nat.mul_le_mul_left q h4
      omega
    have h6 := Nat.mul_le_mul_left (fb (j + 1)) hp
    rw [Nat.mul_add] at h6
    show (fb (j + 1) + fb j) * q + fb (j + 1) * (p % q) ≤ b
    rw [Nat.add_mul]
    omega
theorem euI_end {b p q : Nat} (h : euI b 100 p q) (hb : b ≤ 10 ^ 16) : False := by
  rcases h with e | ⟨h1, j, e, h2⟩
  · cases e
  · obtain rfl : j = 99 := by omega
    have h3 : fb 100 = 354224848179261915075 := by decide +kernel
    have h4 : fb (99 + 1) * 1 ≤ fb (99 + 1) * p := Nat.mul_le_mul_left _ (by omega)
    rw [show 99 + 1 = 100 from rfl, h3] at h4 h2
    omega
set_option maxRecDepth 20000 in
set_option maxHeartbeats 1000000 in
theorem l_lowest {X : aXt × Value} {mi : Nat → Nat → Int32} {ml : Nat → Nat → Int64} {mr : Nat → Nat → Option Nat} {a b : Nat} {w : Int32} (ha : a ≤ 10 ^ 16) (hb : b ≤ 10 ^ 16) (hb0 : 0 < b) : ∀ (g k p q : Nat) (o : Option Value), k + g = 100 → p ≤ 10 ^ 16 → q ≤ 10 ^ 16 → Nat.gcd p q = Nat.gcd a b → euI b k p q → (k = 0 → p = a ∧ q = b) → aWP (aEx (aTb X) 0) cd_X6_inLowestTerms (6, [some (.long (lN a)), none, some (.long (lN b)), none, some (.int w), some (.long (lN p)), none, some (.long (lN q)), none, some (.int (nI k)), o, none], [], (HD, mi, ml, mr)) (fun r h' => (HD.1 ≤ h'.1.1 ∧ HD.2.1 ≤ h'.1.2.1) ∧ r = some (.long (if w = 0 then lN (a / Nat.gcd a b) else lN (b / Nat.gcd a b))) ∧ h' = (HD, mi, ml, mr)) := by
  intro g
  induction g with
  | zero =>
    intro k p q o hg hp hq hgcd hi h0
    obtain rfl : k = 100 := by omega
    exact (euI_end hi hb).elim
  | succ g ih =>
    intro k p q o hg hp hq hgcd hi h0
    have ht : k < 100 := by omega
    have e62 : (10 : Nat) ^ 16 < 2 ^ 62 := by decide
    by_cases hz : q = 0
    · have hgp : p = (Nat.gcd a b) := by rw [← hgcd, hz, Nat.gcd_zero_right]
      have hp0 : 0 < p := by rw [hgp]; exact Nat.gcd_pos_of_pos_right _ hb0
      rw [show lN q = 0 by rw [hz]; rfl]
      refine wp_steps 2 (t' := (8, [some (.long (lN a)), none, some (.long (lN b)), none, some (.int w), some (.long (lN p)), none, some (.long 0), none, some (.int (nI k)), o, none], [.int 100, .int (nI k)], (HD, mi, ml, mr))) rfl ?_
      refine wp_bC rfl (fun c_1 => ?_) (fun c_1 => ?_)
      · have c_1 : 100 ≤ (nI k) := of_decide_eq_true c_1
        exact absurd c_1 (nI_ge ht (by decide))
      have c_1 : ¬ (100 ≤ (nI k)) := of_decide_eq_false c_1
      refine wp_steps 3 (t' := (12, [some (.long (lN a)), none, some (.long (lN b)), none, some (.int w), some (.long (lN p)), none, some (.long 0), none, some (.int (nI k)), o, none], [.int (lg_cmp 0 0)], (HD, mi, ml, mr))) rfl ?_
      refine wp_bI rfl (fun c_2 => ?_) (fun c_2 => ?_)
      rotate_left
      · have c_2 : ¬ ((lg_cmp 0 0) = 0) := of_decide_eq_false c_2
        exact absurd ((lg_cmp_eq _ _).mpr rfl) c_2
      have c_2 : (lg_cmp 0 0) = 0 := of_decide_eq_true c_2
      refine wp_steps 3 (t' := (26, [some (.long (lN a)), none, some (.long (lN b)), none, some (.int w), some (.long (lN p)), none, some (.long 0), none, some (.int (nI k)), o, none], [.int (lg_cmp (lN p) 0)], (HD, mi, ml, mr))) rfl ?_
      refine wp_bI rfl (fun c_3 => ?_) (fun c_3 => ?_)
      rotate_left
      · have c_3 : (lg_cmp (lN p) 0) = 0 := Decidable.not_not.mp (of_decide_eq_false c_3)
        exact absurd ((lg_cmp_eq _ _).mp c_3) (lN_ne (Nat.lt_of_le_of_lt hp e62) hp0)
      have c_3 : ¬ (lg_cmp (lN p) 0) = 0 := of_decide_eq_true c_3
      refine wp_steps 1 (t' := (30, [some (.long (lN a)), none, some (.long (lN b)), none, some (.int w), some (.long (lN p)), none, some (.long 0), none, some (.int (nI k)), o, none], [.int w], (HD, mi, ml, mr))) rfl ?_
      refine wp_bI rfl (fun c_4 => ?_) (fun c_4 => ?_)
      · have c_4 : ¬ w = 0 := of_decide_eq_true c_4
        refine wp_steps 2 (t' := (35, [some (.long (lN a)), none, some (.long (lN b)), none, some (.int w), some (.long (lN p)), none, some (.long 0), none, some (.int (nI k)), o, none], [.long (lN p), .long (lN b)], (HD, mi, ml, mr))) rfl ?_
        refine wp_step (t' := (36, [some (.long (lN a)), none, some (.long (lN b)), none, some (.int w), some (.long (lN p)), none, some (.long 0), none, some (.int (nI k)), o, none], [.long ((lN b) / (lN p))], (HD, mi, ml, mr))) rfl (ld_step (lN_ne (Nat.lt_of_le_of_lt hp e62) hp0)) ?_
        rw [lN_div (Nat.lt_of_le_of_lt hb e62) (Nat.lt_of_le_of_lt hp e62) hp0]
        refine wp_ret rfl rfl ⟨⟨Nat.le_refl _, Nat.le_refl _⟩, ?_⟩
        refine ⟨?_, rfl⟩
        rw [if_neg c_4, ← hgp]
      · have c_4 : w = 0 := Decidable.not_not.mp (of_decide_eq_false c_4)
        refine wp_steps 3 (t' := (35, [some (.long (lN a)), none, some (.long (lN b)), none, some (.int w), some (.long (lN p)), none, some (.long 0), none, some (.int (nI k)), o, none], [.long (lN p), .long (lN a)], (HD, mi, ml, mr))) rfl ?_
        refine wp_step (t' := (36, [some (.long (lN a)), none, some (.long (lN b)), none, some (.int w), some (.long (lN p)), none, some (.long 0), none, some (.int (nI k)), o, none], [.long ((lN a) / (lN p))], (HD, mi, ml, mr))) rfl (ld_step (lN_ne (Nat.lt_of_le_of_lt hp e62) hp0)) ?_
        rw [lN_div (Nat.lt_of_le_of_lt ha e62) (Nat.lt_of_le_of_lt hp e62) hp0]
        refine wp_ret rfl rfl ⟨⟨Nat.le_refl _, Nat.le_refl _⟩, ?_⟩
        refine ⟨?_, rfl⟩
        rw [if_pos c_4, ← hgp]
    · have hq0 : 0 < q := Nat.pos_of_ne_zero hz
      refine wp_steps 2 (t' := (8, [some (.long (lN a)), none, some (.long (lN b)), none, some (.int w), some (.long (lN p)), none, some (.long (lN q)), none, some (.int (nI k)), o, none], [.int 100, .int (nI k)], (HD, mi, ml, mr))) rfl ?_
      refine wp_bC rfl (fun c_71 => ?_) (fun c_71 => ?_)
      · have c_71 : 100 ≤ (nI k) := of_decide_eq_true c_71
        exact absurd c_71 (nI_ge ht (by decide))
      have c_71 : ¬ (100 ≤ (nI k)) := of_decide_eq_false c_71
      refine wp_steps 3 (t' := (12, [some (.long (lN a)), none, some (.long (lN b)), none, some (.int w), some (.long (lN p)), none, some (.long (lN q)), none, some (.int (nI k)), o, none], [.int (lg_cmp (lN q) 0)], (HD, mi, ml, mr))) rfl ?_
      refine wp_bI rfl (fun c_72 => ?_) (fun c_72 => ?_)
      · have c_72 : (lg_cmp (lN q) 0) = 0 := of_decide_eq_true c_72
        exact absurd ((lg_cmp_eq _ _).mp c_72) (lN_ne (Nat.lt_of_le_of_lt hq e62) hq0)
      have c_72 : ¬ ((lg_cmp (lN q) 0) = 0) := of_decide_eq_false c_72
      refine wp_steps 2 (t' := (15, [some (.long (lN a)), none, some (.long (lN b)), none, some (.int w), some (.long (lN p)), none, some (.long (lN q)), none, some (.int (nI k)), o, none], [.long (lN q), .long (lN p)], (HD, mi, ml, mr))) rfl ?_
      refine wp_step (t' := (16, [some (.long (lN a)), none, some (.long (lN b)), none, some (.int w), some (.long (lN p)), none, some (.long (lN q)), none, some (.int (nI k)), o, none], [.long ((lN p) - (lN p) / (lN q) * (lN q))], (HD, mi, ml, mr))) rfl (ld_step (lN_ne (Nat.lt_of_le_of_lt hq e62) hq0)) ?_
      rw [lN_mod (Nat.lt_of_le_of_lt hp e62) (Nat.lt_of_le_of_lt hq e62) hq0]
      refine wp_steps 7 (t' := (6, [some (.long (lN a)), none, some (.long (lN b)), none, some (.int w), some (.long (lN q)), none, some (.long (lN (p % q))), none, some (.int ((nI k) + Int32.ofInt 1)), some (.long (lN (p % q))), none], [], (HD, mi, ml, mr))) rfl ?_
      rw [inc_nI]
      exact ih (k + 1) q (p % q) _ (by omega) hq (Nat.le_of_lt (Nat.lt_of_lt_of_le (Nat.mod_lt p hq0) hq)) ((Nat.gcd_comm q (p % q)).trans ((Nat.gcd_rec q p).symm.trans ((Nat.gcd_comm q p).trans hgcd))) (euI_st hi h0 hq0) (fun z => absurd z (Nat.succ_ne_zero k))
set_option maxRecDepth 20000 in
set_option maxHeartbeats 1000000 in
theorem c_lowest {X : aXt × Value} {mi : Nat → Nat → Int32} {ml : Nat → Nat → Int64} {mr : Nat → Nat → Option Nat} {a b : Nat} {w : Int32} (ha : a ≤ 10 ^ 16) (hb : b ≤ 10 ^ 16) (hb0 : 0 < b) : aCW X 1 110 [.long (lN a), .long (lN b), .int w] (HD, mi, ml, mr) (fun r h' => r = some (.long (if w = 0 then lN (a / Nat.gcd a b) else lN (b / Nat.gcd a b))) ∧ h' = (HD, mi, ml, mr)) := by
  refine cw_of (cd := cd_X6_inLowestTerms) (nL := 12) rfl rfl ?_
  show aWP _ _ (0, [some (.long (lN a)), none, some (.long (lN b)), none, some (.int w), none, none, none, none, none, none, none], [], (HD, mi, ml, mr)) _
  refine wp_steps 6 (t' := (6, [some (.long (lN a)), none, some (.long (lN b)), none, some (.int w), some (.long (lN a)), none, some (.long (lN b)), none, some (.int 0), none, none], [], (HD, mi, ml, mr))) rfl ?_
  exact l_lowest ha hb hb0 100 0 a b _ rfl ha hb rfl (Or.inl rfl) (fun _ => ⟨rfl, rfl⟩)
set_option maxRecDepth 20000 in
set_option maxHeartbeats 1000000 in
theorem l_pass2 {X : aXt × Value} {mi : Nat → Nat → Int32} {ml : Nat → Nat → Int64} {mr : Nat → Nat → Option Nat} (hM : MRok mr) {P : Nat} (hP0 : P ∈ PUPS) {z0 : Int32} : ∀ (g k : Nat) (zd zp n : Int32), k + g = 5 → aWP (aEx (aTb X) 1) cd_X6_passedBy (18, [some (.int z0), some (.ref P), some (.int zd), some (.int zp), some (.int n), some (.int (nI k))], [], (HD, mi, ml, mr)) (fun r h' => (HD.1 ≤ h'.1.1 ∧ HD.2.1 ≤ h'.1.2.1) ∧ r = some (.int (pbL (puC mi P).2.2.2.2 g zd zp n)) ∧ h' = (HD, mi, ml, mr)) := by
  intro g
  induction g with
  | zero =>
    intro k zd zp n hg
    obtain rfl : k = 5 := by omega
    refine wp_steps 2 (t' := (20, [some (.int z0), some (.ref P), some (.int zd), some (.int zp), some (.int n), some (.int (nI 5))], [.int 5, .int (nI 5)], (HD, mi, ml, mr))) rfl ?_
    refine wp_bC rfl (fun c_1 => ?_) (fun c_1 => ?_)
    rotate_left
    · have c_1 : ¬ (5 ≤ (nI 5)) := of_decide_eq_false c_1
      exact absurd (by decide) c_1
    have c_1 : 5 ≤ (nI 5) := of_decide_eq_true c_1
    refine wp_steps 1 (t' := (45, [some (.int z0), some (.ref P), some (.int zd), some (.int zp), some (.int n), some (.int (nI 5))], [.int n], (HD, mi, ml, mr))) rfl ?_
    refine wp_ret rfl rfl ⟨⟨Nat.le_refl _, Nat.le_refl _⟩, ?_⟩
    exact ⟨rfl, rfl⟩
  | succ g ih =>
    intro k zd zp n hg
    have ht : k < 5 := by omega
    refine wp_steps 2 (t' := (20, [some (.int z0), some (.ref P), some (.int zd), some (.int zp), some (.int n), some (.int (nI k))], [.int 5, .int (nI k)], (HD, mi, ml, mr))) rfl ?_
    refine wp_bC rfl (fun c_1 => ?_) (fun c_1 => ?_)
    · have c_1 : 5 ≤ (nI k) := of_decide_eq_true c_1
      exact absurd c_1 (nI_ge ht (by decide))
    have c_1 : ¬ (5 ≤ (nI k)) := of_decide_eq_false c_1
    refine wp_steps 1 (t' := (22, [some (.int z0), some (.ref P), some (.int zd), some (.int zp), some (.int n), some (.int (nI k))], [.int zd], (HD, mi, ml, mr))) rfl ?_
    refine wp_cal (as := [.int zd]) rfl rfl rfl (Nat.le_of_ble_eq_true rfl) (c_drawnOn) (by decide) ?_
    rintro _ _ ⟨rfl, rfl⟩
    show aWP _ _ (23, [some (.int z0), some (.ref P), some (.int zd), some (.int zp), some (.int n), some (.int (nI k))], [.int (nxD zd)], (HD, mi, ml, mr)) _
    refine wp_steps 2 (t' := (25, [some (.int z0), some (.ref P), some (.int (nxD zd)), some (.int zp), some (.int n), some (.int (nI k))], [.int zp], (HD, mi, ml, mr))) rfl ?_
    refine wp_cal (as := [.int zp]) rfl rfl rfl (Nat.le_of_ble_eq_true rfl) (c_drawnOn) (by decide) ?_
    rintro _ _ ⟨rfl, rfl⟩
    show aWP _ _ (26, [some (.int z0), some (.ref P), some (.int (nxD zd)), some (.int zp), some (.int n), some (.int (nI k))], [.int (nxD zp)], (HD, mi, ml, mr)) _
    refine wp_steps 7 (t' := (33, [some (.int z0), some (.ref P), some (.int (nxD zd)), some (.int (nxD zp)), some (.int n), some (.int (nI k))], [.ref P, .int ((fushr (nxD zp) 9) - (fushr (nxD zp) 9) / 100 * 100)], (HD, mi, ml, mr))) rfl ?_
    refine wp_getr rfl (shP hP0) rfl (hM _ (mlP hP0)) ?_
    refine wp_steps 5 (t' := (39, [some (.int z0), some (.ref P), some (.int (nxD zd)), some (.int (nxD zp)), some (.int n), some (.int (nI k))], [.int ((fushr (nxD zd) 9) - (fushr (nxD zd) 9) / 8 * 8), .ref (P + 1), .int ((fushr (nxD zp) 9) - (fushr (nxD zp) 9) / 100 * 100)], (HD, mi, ml, mr))) rfl ?_
    refine wp_iald rfl (shPs hP0) (fu8 _) ?_
    refine wp_bC rfl (fun c_2 => ?_) (fun c_2 => ?_)
    · have c_2 : (mi (P + 1) ((fushr (nxD zd) 9) - (fushr (nxD zd) 9) / 8 * 8).toNatClampNeg) ≤ ((fushr (nxD zp) 9) - (fushr (nxD zp) 9) / 100 * 100) := of_decide_eq_true c_2
      refine wp_steps 2 (t' := (18, [some (.int z0), some (.ref P), some (.int (nxD zd)), some (.int (nxD zp)), some (.int n), some (.int ((nI k) + Int32.ofInt 1))], [], (HD, mi, ml, mr))) rfl ?_
      have hs : mi (P + 1) (fushr (nxD zd) 9 - fushr (nxD zd) 9 / 8 * 8).toNatClampNeg = (puC mi P).2.2.2.2 (fushr (nxD zd) 9 - fushr (nxD zd) 9 / 8 * 8).toNatClampNeg := (c8_lt (aix_out (fu8 _)).2).symm
      have e : (if fushr (nxD zp) 9 - fushr (nxD zp) 9 / 100 * 100 < (puC mi P).2.2.2.2 (fushr (nxD zd) 9 - fushr (nxD zd) 9 / 8 * 8).toNatClampNeg then n + 1 else n) = n := if_neg (by rw [← hs]; exact Int32.not_lt.mpr c_2)
      rw [inc_nI]
      have z := ih (k + 1) (nxD zd) (nxD zp) (n) (by omega)
      unfold pbL
      rw [e]
      exact z
    · have c_2 : ¬ ((mi (P + 1) ((fushr (nxD zd) 9) - (fushr (nxD zd) 9) / 8 * 8).toNatClampNeg) ≤ ((fushr (nxD zp) 9) - (fushr (nxD zp) 9) / 100 * 100)) := of_decide_eq_false c_2
      refine wp_steps 3 (t' := (18, [some (.int z0), some (.ref P), some (.int (nxD zd)), some (.int (nxD zp)), some (.int (n + Int32.ofInt 1)), some (.int ((nI k) + Int32.ofInt 1))], [], (HD, mi, ml, mr))) rfl ?_
      have hs : mi (P + 1) (fushr (nxD zd) 9 - fushr (nxD zd) 9 / 8 * 8).toNatClampNeg = (puC mi P).2.2.2.2 (fushr (nxD zd) 9 - fushr (nxD zd) 9 / 8 * 8).toNatClampNeg := (c8_lt (aix_out (fu8 _)).2).symm
      have e : (if fushr (nxD zp) 9 - fushr (nxD zp) 9 / 100 * 100 < (puC mi P).2.2.2.2 (fushr (nxD zd) 9 - fushr (nxD zd) 9 / 8 * 8).toNatClampNeg then n + 1 else n) = n + 1 := if_pos (by rw [← hs]; exact Int32.not_le.mp c_2)
      rw [inc_nI]
      have z := ih (k + 1) (nxD zd) (nxD zp) (n + 1) (by omega)
      unfold pbL
      rw [e]
      exact z
set_option maxRecDepth 20000 in
set_option maxHeartbeats 1000000 in
theorem l_pass1 {X : aXt × Value} {mi : Nat → Nat → Int32} {ml : Nat → Nat → Int64} {mr : Nat → Nat → Option Nat} (hM : MRok mr) {P : Nat} (hP0 : P ∈ PUPS) {z0 z5 : Int32} : ∀ (g k : Nat) (zp : Int32) (o : Option Value), k + g = 5 → itF nxD g zp = z5 → aWP (aEx (aTb X) 1) cd_X6_passedBy (6, [some (.int z0), some (.ref P), some (.int z0), some (.int zp), some (.int (nI k)), o], [], (HD, mi, ml, mr)) (fun r h' => (HD.1 ≤ h'.1.1 ∧ HD.2.1 ≤ h'.1.2.1) ∧ r = some (.int (pbL (puC mi P).2.2.2.2 5 z0 z5 0)) ∧ h' = (HD, mi, ml, mr)) := by
  intro g
  induction g with
  | zero =>
    intro k zp o hg hz
    obtain rfl : k = 5 := by omega
    refine wp_steps 2 (t' := (8, [some (.int z0), some (.ref P), some (.int z0), some (.int zp), some (.int (nI 5)), o], [.int 5, .int (nI 5)], (HD, mi, ml, mr))) rfl ?_
    refine wp_bC rfl (fun c_1 => ?_) (fun c_1 => ?_)
    rotate_left
    · have c_1 : ¬ (5 ≤ (nI 5)) := of_decide_eq_false c_1
      exact absurd (by decide) c_1
    have c_1 : 5 ≤ (nI 5) := of_decide_eq_true c_1
    refine wp_steps 4 (t' := (18, [some (.int z0), some (.ref P), some (.int z0), some (.int zp), some (.int 0), some (.int 0)], [], (HD, mi, ml, mr))) rfl ?_
    rw [← hz, itF_0]
    exact l_pass2 hM hP0 5 0 z0 zp 0 rfl
  | succ g ih =>
    intro k zp o hg hz
    have ht : k < 5 := by omega
    refine wp_steps 2 (t' := (8, [some (.int z0), some (.ref P), some (.int z0), some (.int zp), some (.int (nI k)), o], [.int 5, .int (nI k)], (HD, mi, ml, mr))) rfl ?_
    refine wp_bC rfl (fun c_1 => ?_) (fun c_1 => ?_)
    · have c_1 : 5 ≤ (nI k) := of_decide_eq_true c_1
      exact absurd c_1 (nI_ge ht (by decide))
    have c_1 : ¬ (5 ≤ (nI k)) := of_decide_eq_false c_1
    refine wp_steps 1 (t' := (10, [some (.int z0), some (.ref P), some (.int z0), some (.int zp), some (.int (nI k)), o], [.int zp], (HD, mi, ml, mr))) rfl ?_
    refine wp_cal (as := [.int zp]) rfl rfl rfl (Nat.le_of_ble_eq_true rfl) (c_drawnOn) (by decide) ?_
    rintro _ _ ⟨rfl, rfl⟩
    show aWP _ _ (11, [some (.int z0), some (.ref P), some (.int z0), some (.int zp), some (.int (nI k)), o], [.int (nxD zp)], (HD, mi, ml, mr)) _
    refine wp_steps 3 (t' := (6, [some (.int z0), some (.ref P), some (.int z0), some (.int (nxD zp)), some (.int ((nI k) + Int32.ofInt 1)), o], [], (HD, mi, ml, mr))) rfl ?_
    rw [inc_nI]
    exact ih (k + 1) (nxD zp) _ (by omega) ((itF_s nxD g zp).symm.trans hz)
set_option maxRecDepth 20000 in
set_option maxHeartbeats 1000000 in
theorem c_passedBy {X : aXt × Value} {mi : Nat → Nat → Int32} {ml : Nat → Nat → Int64} {mr : Nat → Nat → Option Nat} (hM : MRok mr) {P : Nat} (hP0 : P ∈ PUPS) {z0 : Int32} : aCW X 2 92 [.int z0, .ref P] (HD, mi, ml, mr) (rdI mi ml mr (pbG (puC mi P).2.2.2.2 z0)) := by
  refine cw_of (cd := cd_X6_passedBy) (nL := 6) rfl rfl ?_
  show aWP _ _ (0, [some (.int z0), some (.ref P), none, none, none, none], [], (HD, mi, ml, mr)) _
  refine wp_steps 6 (t' := (6, [some (.int z0), some (.ref P), some (.int z0), some (.int z0), some (.int 0), none], [], (HD, mi, ml, mr))) rfl ?_
  unfold pbG
  generalize hz : itF nxD 5 z0 = z5
  exact l_pass1 hM hP0 5 0 z0 _ rfl hz
set_option maxRecDepth 20000 in
set_option maxHeartbeats 1000000 in
theorem c_drawn_no {X : aXt × Value} {mi : Nat → Nat → Int32} {ml : Nat → Nat → Int64} {mr : Nat → Nat → Option Nat} (hM : MRok mr) {N : Nat} (hN : mi 0 5 = nI N) (hN5 : N ≤ 5) {z0 one : Int32} (hg : ¬ aixn one N = true) : aCW X 3 90 [.ref 0, .int z0, .int one] (HD, mi, ml, mr) (qU mi ml mr (.int (-2))) := by
  refine cw_of (cd := cd_X6_drawn) (nL := 4) rfl rfl ?_
  show aWP _ _ (0, [some (.ref 0), some (.int z0), some (.int one), none], [], (HD, mi, ml, mr)) _
  refine wp_steps 2 (t' := (2, [some (.ref 0), some (.int z0), some (.int one), none], [.int one, .ref 0], (HD, mi, ml, mr))) rfl ?_
  refine wp_calv (as := [.int one]) rfl rfl rfl (Nat.le_of_ble_eq_true rfl) ⟨by decide, rfl⟩ ((c_pupilAt_no hM hN hN5 hg)) (by decide) ?_
  rintro _ _ ⟨rfl, rfl⟩
  show aWP _ _ (3, [some (.ref 0), some (.int z0), some (.int one), none], [.null], (HD, mi, ml, mr)) _
  refine wp_steps 2 (t' := (5, [some (.ref 0), some (.int z0), some (.int one), some (.null)], [.null], (HD, mi, ml, mr))) rfl ?_
  refine wp_step (t' := (6, [some (.ref 0), some (.int z0), some (.int one), some (.null)], [], (HD, mi, ml, mr))) rfl rfl ?_
  refine wp_steps 2 (t' := (11, [some (.ref 0), some (.int z0), some (.int one), some (.null)], [.int (-2)], (HD, mi, ml, mr))) rfl ?_
  refine wp_ret rfl rfl ⟨⟨Nat.le_refl _, Nat.le_refl _⟩, ?_⟩
  exact ⟨rfl, mi, mr 73 2, by rw [mr_self], frm.rf _ _⟩
set_option maxRecDepth 20000 in
set_option maxHeartbeats 1000000 in
theorem c_drawn_ok {X : aXt × Value} {mi : Nat → Nat → Int32} {ml : Nat → Nat → Int64} {mr : Nat → Nat → Option Nat} (hM : MRok mr) {N : Nat} (hN : mi 0 5 = nI N) (hN5 : N ≤ 5) {z0 one : Int32} (hg : aixn one N = true) : aCW X 3 90 [.ref 0, .int z0, .int one] (HD, mi, ml, mr) (qU mi ml mr (.int (pbG (puC mi (pAt one)).2.2.2.2 z0))) := by
  have hP := pAt_mem hg hN5
  refine cw_of (cd := cd_X6_drawn) (nL := 4) rfl rfl ?_
  show aWP _ _ (0, [some (.ref 0), some (.int z0), some (.int one), none], [], (HD, mi, ml, mr)) _
  refine wp_steps 2 (t' := (2, [some (.ref 0), some (.int z0), some (.int one), none], [.int one, .ref 0], (HD, mi, ml, mr))) rfl ?_
  refine wp_calv (as := [.int one]) rfl rfl rfl (Nat.le_of_ble_eq_true rfl) ⟨by decide, rfl⟩ ((c_pupilAt_ok (ml := ml) hM hN hN5 hg)) (by decide) ?_
  rintro _ _ ⟨rfl, rfl⟩
  show aWP _ _ (3, [some (.ref 0), some (.int z0), some (.int one), none], [.ref (pAt one)], (HD, mi, ml, mr)) _
  refine wp_steps 2 (t' := (5, [some (.ref 0), some (.int z0), some (.int one), some (.ref (pAt one))], [.ref (pAt one)], (HD, mi, ml, mr))) rfl ?_
  refine wp_step (t' := (8, [some (.ref 0), some (.int z0), some (.int one), some (.ref (pAt one))], [], (HD, mi, ml, mr))) rfl rfl ?_
  refine wp_steps 2 (t' := (10, [some (.ref 0), some (.int z0), some (.int one), some (.ref (pAt one))], [.ref (pAt one), .int z0], (HD, mi, ml, mr))) rfl ?_
  refine wp_cal (as := [.int z0, .ref (pAt one)]) rfl rfl rfl (Nat.le_of_ble_eq_true rfl) ((c_passedBy (ml := ml) (z0 := z0) hM (p5_U hP).2.2.1)) (by decide) ?_
  rintro _ _ ⟨rfl, rfl⟩
  show aWP _ _ (11, [some (.ref 0), some (.int z0), some (.int one), some (.ref (pAt one))], [.int (pbG (puC mi (pAt one)).2.2.2.2 z0)], (HD, mi, ml, mr)) _
  refine wp_ret rfl rfl ⟨⟨Nat.le_refl _, Nat.le_refl _⟩, ?_⟩
  exact ⟨rfl, mi, mr 73 2, by rw [mr_self], frm.rf _ _⟩
def chN (sk : Nat → Int32) (z0 : Int32) : Nat → Nat
  | 0 => 0
  | n + 1 => if pbG sk (z0 + nI n) = 5 then chN sk z0 n + 1 else chN sk z0 n
theorem chN_le (sk : Nat → Int32) (z0 : Int32) : ∀ n, chN sk z0 n ≤ n
  | 0 => Nat.le_refl 0
  | n + 1 => by
    have := chN_le sk z0 n
    unfold chN
    split <;> omega
/-- a in lowest terms over b, its part w -/
def loG (a b : Nat) (w : Int32) : Int64 := if w = 0 then lN (a / Nat.gcd a b) else lN (b / Nat.gcd a b)
theorem ax120 {x : Int32} (h : inR 1 20 x) : ∃ n, 0 < n ∧ n ≤ 20 ∧ x = nI n := by
  have h0 : ¬ x < 0 := fun z => h.1 (by
    rw [Int32.lt_iff_toInt_lt] at z ⊢
    have e0 : (0 : Int32).toInt = 0 := rfl
    have e1 : (1 : Int32).toInt = 1 := rfl
    omega)
  obtain ⟨n, hn, e⟩ := nI_of2 (M := 20) (n := 20) rfl h0 (Int32.not_lt.mp h.2)
  refine ⟨n, ?_, hn, e⟩
  rcases Nat.eq_zero_or_pos n with z | z
  · exact absurd (by rw [e, z]; decide) h.1
  · exact z
set_option maxRecDepth 20000 in
set_option maxHeartbeats 1000000 in
theorem l_chance {X : aXt × Value} {mi : Nat → Nat → Int32} {ml : Nat → Nat → Int64} {mr : Nat → Nat → Option Nat} (hM : MRok mr) {one z0 w : Int32} {n : Nat} (hP : pAt one ∈ PU5) (hn0 : 0 < n) (hn : n ≤ 20) : ∀ (g k : Nat), k + g = n → aWP (aEx (aTb X) 2) cd_X6_chance (23, [some (.ref 0), some (.int z0), some (.int (nI n)), some (.int one), some (.int w), some (.ref (pAt one)), some (.int (nI (chN (puC mi (pAt one)).2.2.2.2 z0 k))), some (.int (nI k))], [], (HD, mi, ml, mr)) (fun r h' => (HD.1 ≤ h'.1.1 ∧ HD.2.1 ≤ h'.1.2.1) ∧ r = some (.long (loG (chN (puC mi (pAt one)).2.2.2.2 z0 n) n w)) ∧ h' = (HD, mi, ml, mr)) := by
  intro g
  induction g with
  | zero =>
    intro k hg
    obtain rfl : k = n := by omega
    have hcn : chN (puC mi (pAt one)).2.2.2.2 z0 k ≤ 10 ^ 16 := Nat.le_trans (chN_le _ _ k) (by omega)
    refine wp_steps 2 (t' := (25, [some (.ref 0), some (.int z0), some (.int (nI k)), some (.int one), some (.int w), some (.ref (pAt one)), some (.int (nI (chN (puC mi (pAt one)).2.2.2.2 z0 k))), some (.int (nI k))], [.int (nI k), .int (nI k)], (HD, mi, ml, mr))) rfl ?_
    refine wp_bC rfl (fun c_1 => ?_) (fun c_1 => ?_)
    rotate_left
    · have c_1 : ¬ ((nI k) ≤ (nI k)) := of_decide_eq_false c_1
      exact absurd (Int32.le_refl _) c_1
    have c_1 : (nI k) ≤ (nI k) := of_decide_eq_true c_1
    refine wp_steps 2 (t' := (38, [some (.ref 0), some (.int z0), some (.int (nI k)), some (.int one), some (.int w), some (.ref (pAt one)), some (.int (nI (chN (puC mi (pAt one)).2.2.2.2 z0 k))), some (.int (nI k))], [.long ((nI (chN (puC mi (pAt one)).2.2.2.2 z0 k)).toInt64)], (HD, mi, ml, mr))) rfl ?_
    rw [nI_l (Nat.lt_of_le_of_lt (chN_le _ _ k) (by omega))]
    refine wp_steps 2 (t' := (40, [some (.ref 0), some (.int z0), some (.int (nI k)), some (.int one), some (.int w), some (.ref (pAt one)), some (.int (nI (chN (puC mi (pAt one)).2.2.2.2 z0 k))), some (.int (nI k))], [.long ((nI k).toInt64), .long (lN (chN (puC mi (pAt one)).2.2.2.2 z0 k))], (HD, mi, ml, mr))) rfl ?_
    rw [nI_l (show k < 2 ^ 31 by omega)]
    refine wp_steps 1 (t' := (41, [some (.ref 0), some (.int z0), some (.int (nI k)), some (.int one), some (.int w), some (.ref (pAt one)), some (.int (nI (chN (puC mi (pAt one)).2.2.2.2 z0 k))), some (.int (nI k))], [.int w, .long (lN k), .long (lN (chN (puC mi (pAt one)).2.2.2.2 z0 k))], (HD, mi, ml, mr))) rfl ?_
    refine wp_cal (as := [.long (lN (chN (puC mi (pAt one)).2.2.2.2 z0 k)), .long (lN k), .int w]) rfl rfl rfl (Nat.le_of_ble_eq_true rfl) ((c_lowest (mi := mi) (ml := ml) (mr := mr) (a := chN (puC mi (pAt one)).2.2.2.2 z0 k) (b := k) (w := w) hcn (by omega) hn0)) (by decide) ?_
    rintro _ _ ⟨rfl, rfl⟩
    show aWP _ _ (42, [some (.ref 0), some (.int z0), some (.int (nI k)), some (.int one), some (.int w), some (.ref (pAt one)), some (.int (nI (chN (puC mi (pAt one)).2.2.2.2 z0 k))), some (.int (nI k))], [.long (loG (chN (puC mi (pAt one)).2.2.2.2 z0 k) k w)], (HD, mi, ml, mr)) _
    refine wp_ret rfl rfl ⟨⟨Nat.le_refl _, Nat.le_refl _⟩, ?_⟩
    exact ⟨rfl, rfl⟩
  | succ g ih =>
    intro k hg
    refine wp_steps 2 (t' := (25, [some (.ref 0), some (.int z0), some (.int (nI n)), some (.int one), some (.int w), some (.ref (pAt one)), some (.int (nI (chN (puC mi (pAt one)).2.2.2.2 z0 k))), some (.int (nI k))], [.int (nI n), .int (nI k)], (HD, mi, ml, mr))) rfl ?_
    refine wp_bC rfl (fun c_1 => ?_) (fun c_1 => ?_)
    · have c_1 : (nI n) ≤ (nI k) := of_decide_eq_true c_1
      exact absurd c_1 (nI_ge (a := k) (b := n) (by omega) (by omega))
    have c_1 : ¬ ((nI n) ≤ (nI k)) := of_decide_eq_false c_1
    refine wp_steps 4 (t' := (30, [some (.ref 0), some (.int z0), some (.int (nI n)), some (.int one), some (.int w), some (.ref (pAt one)), some (.int (nI (chN (puC mi (pAt one)).2.2.2.2 z0 k))), some (.int (nI k))], [.ref (pAt one), .int (z0 + (nI k))], (HD, mi, ml, mr))) rfl ?_
    refine wp_cal (as := [.int (z0 + (nI k)), .ref (pAt one)]) rfl rfl rfl (Nat.le_of_ble_eq_true rfl) ((c_passedBy (ml := ml) (z0 := z0 + (nI k)) hM (p5_U hP).2.2.1)) (by decide) ?_
    rintro _ _ ⟨rfl, rfl⟩
    show aWP _ _ (31, [some (.ref 0), some (.int z0), some (.int (nI n)), some (.int one), some (.int w), some (.ref (pAt one)), some (.int (nI (chN (puC mi (pAt one)).2.2.2.2 z0 k))), some (.int (nI k))], [.int (pbG (puC mi (pAt one)).2.2.2.2 (z0 + (nI k)))], (HD, mi, ml, mr)) _
    refine wp_steps 1 (t' := (32, [some (.ref 0), some (.int z0), some (.int (nI n)), some (.int one), some (.int w), some (.ref (pAt one)), some (.int (nI (chN (puC mi (pAt one)).2.2.2.2 z0 k))), some (.int (nI k))], [.int 5, .int (pbG (puC mi (pAt one)).2.2.2.2 (z0 + (nI k)))], (HD, mi, ml, mr))) rfl ?_
    refine wp_bC rfl (fun c_2 => ?_) (fun c_2 => ?_)
    · have c_2 : ¬ (pbG (puC mi (pAt one)).2.2.2.2 (z0 + (nI k))) = 5 := of_decide_eq_true c_2
      refine wp_steps 2 (t' := (23, [some (.ref 0), some (.int z0), some (.int (nI n)), some (.int one), some (.int w), some (.ref (pAt one)), some (.int (nI (chN (puC mi (pAt one)).2.2.2.2 z0 k))), some (.int ((nI k) + Int32.ofInt 1))], [], (HD, mi, ml, mr))) rfl ?_
      have e : chN (puC mi (pAt one)).2.2.2.2 z0 (k + 1) = chN (puC mi (pAt one)).2.2.2.2 z0 k := if_neg c_2
      rw [inc_nI, ← e]
      exact ih (k + 1) (by omega)
    · have c_2 : (pbG (puC mi (pAt one)).2.2.2.2 (z0 + (nI k))) = 5 := Decidable.not_not.mp (of_decide_eq_false c_2)
      refine wp_steps 3 (t' := (23, [some (.ref 0), some (.int z0), some (.int (nI n)), some (.int one), some (.int w), some (.ref (pAt one)), some (.int ((nI (chN (puC mi (pAt one)).2.2.2.2 z0 k)) + Int32.ofInt 1)), some (.int ((nI k) + Int32.ofInt 1))], [], (HD, mi, ml, mr))) rfl ?_
      have e : chN (puC mi (pAt one)).2.2.2.2 z0 (k + 1) = chN (puC mi (pAt one)).2.2.2.2 z0 k + 1 := if_pos c_2
      rw [inc_nI, inc_nI, ← e]
      exact ih (k + 1) (by omega)
set_option maxRecDepth 20000 in
set_option maxHeartbeats 1000000 in
theorem c_chance_no {X : aXt × Value} {mi : Nat → Nat → Int32} {ml : Nat → Nat → Int64} {mr : Nat → Nat → Option Nat} (hM : MRok mr) {N : Nat} (hN : mi 0 5 = nI N) (hN5 : N ≤ 5) {z0 m one w : Int32} (hg : ¬ aixn one N = true) : aCW X 3 91 [.ref 0, .int z0, .int m, .int one, .int w] (HD, mi, ml, mr) (qU mi ml mr (.long (-4611686018427387904))) := by
  refine cw_of (cd := cd_X6_chance) (nL := 8) rfl rfl ?_
  show aWP _ _ (0, [some (.ref 0), some (.int z0), some (.int m), some (.int one), some (.int w), none, none, none], [], (HD, mi, ml, mr)) _
  refine wp_steps 2 (t' := (2, [some (.ref 0), some (.int z0), some (.int m), some (.int one), some (.int w), none, none, none], [.int one, .ref 0], (HD, mi, ml, mr))) rfl ?_
  refine wp_calv (as := [.int one]) rfl rfl rfl (Nat.le_of_ble_eq_true rfl) ⟨by decide, rfl⟩ ((c_pupilAt_no hM hN hN5 hg)) (by decide) ?_
  rintro _ _ ⟨rfl, rfl⟩
  show aWP _ _ (3, [some (.ref 0), some (.int z0), some (.int m), some (.int one), some (.int w), none, none, none], [.null], (HD, mi, ml, mr)) _
  refine wp_steps 2 (t' := (5, [some (.ref 0), some (.int z0), some (.int m), some (.int one), some (.int w), some (.null), none, none], [.null], (HD, mi, ml, mr))) rfl ?_
  refine wp_step (t' := (17, [some (.ref 0), some (.int z0), some (.int m), some (.int one), some (.int w), some (.null), none, none], [], (HD, mi, ml, mr))) rfl rfl ?_
  refine wp_steps 1 (t' := (18, [some (.ref 0), some (.int z0), some (.int m), some (.int one), some (.int w), some (.null), none, none], [.long (-4611686018427387904)], (HD, mi, ml, mr))) rfl ?_
  refine wp_ret rfl rfl ⟨⟨Nat.le_refl _, Nat.le_refl _⟩, ?_⟩
  exact ⟨rfl, mi, mr 73 2, by rw [mr_self], frm.rf _ _⟩
set_option maxRecDepth 20000 in
set_option maxHeartbeats 1000000 in
theorem c_chance_ok {X : aXt × Value} {mi : Nat → Nat → Int32} {ml : Nat → Nat → Int64} {mr : Nat → Nat → Option Nat} (hM : MRok mr) {N : Nat} (hN : mi 0 5 = nI N) (hN5 : N ≤ 5) {z0 m one w : Int32} (hg : aixn one N = true) : aCW X 3 91 [.ref 0, .int z0, .int m, .int one, .int w] (HD, mi, ml, mr) (qU mi ml mr (.long (if inR 1 20 m ∧ inR 0 1 w then loG (chN (puC mi (pAt one)).2.2.2.2 z0 m.toNatClampNeg) m.toNatClampNeg w else (-4611686018427387904)))) := by
  have hP := pAt_mem hg hN5
  refine cw_of (cd := cd_X6_chance) (nL := 8) rfl rfl ?_
  show aWP _ _ (0, [some (.ref 0), some (.int z0), some (.int m), some (.int one), some (.int w), none, none, none], [], (HD, mi, ml, mr)) _
  refine wp_steps 2 (t' := (2, [some (.ref 0), some (.int z0), some (.int m), some (.int one), some (.int w), none, none, none], [.int one, .ref 0], (HD, mi, ml, mr))) rfl ?_
  refine wp_calv (as := [.int one]) rfl rfl rfl (Nat.le_of_ble_eq_true rfl) ⟨by decide, rfl⟩ ((c_pupilAt_ok (ml := ml) hM hN hN5 hg)) (by decide) ?_
  rintro _ _ ⟨rfl, rfl⟩
  show aWP _ _ (3, [some (.ref 0), some (.int z0), some (.int m), some (.int one), some (.int w), none, none, none], [.ref (pAt one)], (HD, mi, ml, mr)) _
  refine wp_steps 2 (t' := (5, [some (.ref 0), some (.int z0), some (.int m), some (.int one), some (.int w), some (.ref (pAt one)), none, none], [.ref (pAt one)], (HD, mi, ml, mr))) rfl ?_
  refine wp_step (t' := (6, [some (.ref 0), some (.int z0), some (.int m), some (.int one), some (.int w), some (.ref (pAt one)), none, none], [], (HD, mi, ml, mr))) rfl rfl ?_
  refine wp_steps 2 (t' := (8, [some (.ref 0), some (.int z0), some (.int m), some (.int one), some (.int w), some (.ref (pAt one)), none, none], [.int 1, .int m], (HD, mi, ml, mr))) rfl ?_
  refine wp_bC rfl (fun c_1 => ?_) (fun c_1 => ?_)
  · have c_1 : m < 1 := of_decide_eq_true c_1
    refine wp_steps 1 (t' := (18, [some (.ref 0), some (.int z0), some (.int m), some (.int one), some (.int w), some (.ref (pAt one)), none, none], [.long (-4611686018427387904)], (HD, mi, ml, mr))) rfl ?_
    refine wp_ret rfl rfl ⟨⟨Nat.le_refl _, Nat.le_refl _⟩, ?_⟩
    exact ⟨by rw [if_neg (show ¬ (inR 1 20 m ∧ inR 0 1 w) from fun z => (fun z => z.1 c_1) z.1)], mi, mr 73 2, by rw [mr_self], frm.rf _ _⟩
  · have c_1 : ¬ (m < 1) := of_decide_eq_false c_1
    refine wp_steps 2 (t' := (11, [some (.ref 0), some (.int z0), some (.int m), some (.int one), some (.int w), some (.ref (pAt one)), none, none], [.int 20, .int m], (HD, mi, ml, mr))) rfl ?_
    refine wp_bC rfl (fun c_2 => ?_) (fun c_2 => ?_)
    · have c_2 : 20 < m := of_decide_eq_true c_2
      refine wp_steps 1 (t' := (18, [some (.ref 0), some (.int z0), some (.int m), some (.int one), some (.int w), some (.ref (pAt one)), none, none], [.long (-4611686018427387904)], (HD, mi, ml, mr))) rfl ?_
      refine wp_ret rfl rfl ⟨⟨Nat.le_refl _, Nat.le_refl _⟩, ?_⟩
      exact ⟨by rw [if_neg (show ¬ (inR 1 20 m ∧ inR 0 1 w) from fun z => (fun z => z.2 c_2) z.1)], mi, mr 73 2, by rw [mr_self], frm.rf _ _⟩
    · have c_2 : ¬ (20 < m) := of_decide_eq_false c_2
      refine wp_steps 1 (t' := (13, [some (.ref 0), some (.int z0), some (.int m), some (.int one), some (.int w), some (.ref (pAt one)), none, none], [.int w], (HD, mi, ml, mr))) rfl ?_
      refine wp_bI rfl (fun c_3 => ?_) (fun c_3 => ?_)
      · have c_3 : w < 0 := of_decide_eq_true c_3
        refine wp_steps 1 (t' := (18, [some (.ref 0), some (.int z0), some (.int m), some (.int one), some (.int w), some (.ref (pAt one)), none, none], [.long (-4611686018427387904)], (HD, mi, ml, mr))) rfl ?_
        refine wp_ret rfl rfl ⟨⟨Nat.le_refl _, Nat.le_refl _⟩, ?_⟩
        exact ⟨by rw [if_neg (show ¬ (inR 1 20 m ∧ inR 0 1 w) from fun z => (fun z => z.1 c_3) z.2)], mi, mr 73 2, by rw [mr_self], frm.rf _ _⟩
      · have c_3 : ¬ (w < 0) := of_decide_eq_false c_3
        refine wp_steps 2 (t' := (16, [some (.ref 0), some (.int z0), some (.int m), some (.int one), some (.int w), some (.ref (pAt one)), none, none], [.int 1, .int w], (HD, mi, ml, mr))) rfl ?_
        refine wp_bC rfl (fun c_4 => ?_) (fun c_4 => ?_)
        · have c_4 : w ≤ 1 := of_decide_eq_true c_4
          refine wp_steps 4 (t' := (23, [some (.ref 0), some (.int z0), some (.int m), some (.int one), some (.int w), some (.ref (pAt one)), some (.int 0), some (.int 0)], [], (HD, mi, ml, mr))) rfl ?_
          have hG := (show inR 1 20 m ∧ inR 0 1 w from ⟨⟨c_1, c_2⟩, ⟨c_3, (Int32.not_lt.mpr c_4)⟩⟩)
          obtain ⟨n, hn0, hn, e⟩ := ax120 hG.1
          rw [if_pos hG]
          subst e
          rw [nI_clamp (n := n) (by omega)]
          refine wp_mono (l_chance (one := one) (z0 := z0) (w := w) hM hP hn0 hn n 0 (by omega)) ?_
          rintro _ _ ⟨a1, rfl, rfl⟩
          exact ⟨a1, rfl, mi, mr 73 2, by rw [mr_self], frm.rf _ _⟩
        · have c_4 : ¬ (w ≤ 1) := of_decide_eq_false c_4
          refine wp_steps 1 (t' := (18, [some (.ref 0), some (.int z0), some (.int m), some (.int one), some (.int w), some (.ref (pAt one)), none, none], [.long (-4611686018427387904)], (HD, mi, ml, mr))) rfl ?_
          refine wp_ret rfl rfl ⟨⟨Nat.le_refl _, Nat.le_refl _⟩, ?_⟩
          exact ⟨by rw [if_neg (show ¬ (inR 1 20 m ∧ inR 0 1 w) from fun z => (fun z => z.2 (Int32.not_le.mp c_4)) z.2)], mi, mr 73 2, by rw [mr_self], frm.rf _ _⟩
