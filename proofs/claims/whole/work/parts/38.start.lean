/-! the law's start (written by wip/whole/mkstart.py) -/
theorem aArr {s : State} {cA : ClassId} {k : Class} {comp : ClassId} {ty : FieldType} (h2 : s.vm.classes[cA]? = some k) (h3 : k.kind = .array comp ty) : ArrOfT s cA ty := fun n z => ⟨(fun k h => by cases h), k, h2, comp, h3⟩
set_option maxHeartbeats 4000000 in
set_option maxRecDepth 100000 in
theorem law_start (hpure : aGoalLaw) {p : Program} {e : Env} {s : State} {m : MethodId} {below : List Frame} {meth : Method} {c : Code} (l : Launch) {b L : Nat} {xs : Nat → Int32} (hL : L ≤ 3072) (C0 : lw_At p s m meth c b L xs) : W p l e room_1 s m #[Value.ref b] below meth c s.heap [] 0 0 (lw_Z below #[Value.ref b] s) (entryFrame m ([Value.ref b] : List Value).toArray 4) := by
  obtain ⟨hx, hb, hr, hml, hown, hts, hX, hbl, hlocks, hgv⟩ := C0
  have hA : ∀ a : Nat, a < s.heap.size → ¬ aA s.heap.size a := fun a h q => by
    have q : s.heap.size ≤ a := q
    omega
  have hfl : ∀ w ∈ aFl, w.before #[Value.ref b] s = true := flat_of_before _ hgv
  obtain ⟨c0, i0, k0⟩ := u_known (C := RX0) (T := TX0) (N := 5) (n := 5) hts (fun w h => aBIG_in (inB0 w h)) (hts _ (aBIG_in w_179))
  obtain ⟨c1, i1, k1⟩ := u_known (C := RX1) (T := TX1) (N := 7) (n := 7) hts (fun w h => aBIG_in (inB1 w h)) (hts _ (aBIG_in w_122))
  obtain ⟨c2, i2, k2⟩ := u_known (C := RX2) (T := TX2) (N := 3) (n := 3) hts (fun w h => aBIG_in (inB2 w h)) (hts _ (aBIG_in w_210))
  obtain ⟨c3, i3, k3⟩ := u_known (C := RX3) (T := TX3) (N := 5) (n := 5) hts (fun w h => aBIG_in (inB3 w h)) (hts _ (aBIG_in w_128))
  obtain ⟨c4, i4, k4⟩ := u_known (C := RX4) (T := TX4) (N := 6) (n := 6) hts (fun w h => aBIG_in (inB4 w h)) (hts _ (aBIG_in w_408))
  obtain ⟨c5, i5, k5⟩ := u_known (C := RX5) (T := TX5) (N := 4) (n := 4) hts (fun w h => aBIG_in (inB5 w h)) (hts _ (aBIG_in w_383))
  obtain ⟨c6, i6, k6⟩ := u_known (C := RX6) (T := TX6) (N := 11) (n := 11) hts (fun w h => aBIG_in (inB6 w h)) (hts _ (aBIG_in w_112))
  obtain ⟨c7, i7, k7⟩ := u_known (C := RX7) (T := TX7) (N := 41) (n := 41) hts (fun w h => aBIG_in (inB7 w h)) (hts _ (aBIG_in w_834))
  obtain ⟨a0, ka0, cm0, ga0, ga1, ga2⟩ := Cond.arrayClass_spec (hts _ nn_15)
  obtain ⟨a1, ka1, cm1, gb0, gb1, gb2⟩ := Cond.arrayClass_spec (hts _ nn_16)
  obtain ⟨m2, a2, ka2, gc0, gc1, gc2, gc3, gc4⟩ := Cond.arrayOver_spec (hts _ nn_5)
  obtain ⟨m3, a3, ka3, gd0, gd1, gd2, gd3, gd4⟩ := Cond.arrayOver_spec (hts _ nn_6)
  obtain ⟨m4, a4, ka4, ge0, ge1, ge2, ge3, ge4⟩ := Cond.arrayOver_spec (hts _ nn_7)
  obtain ⟨D, hD⟩ : ∃ D : va_G, ∀ (k : Nat) (q : vw_C), vwCl[k]? = some q → u_Kn s q.1 q.2.1 q.2.2 (D.1 k) (D.2 k) := by
    refine ⟨(fun k => match k with | 0 => c0 | 1 => c1 | 2 => c2 | 3 => c3 | 4 => c4 | 5 => c5 | 6 => c6 | _ => c7, fun k => match k with | 0 => i0 | 1 => i1 | 2 => i2 | 3 => i3 | 4 => i4 | 5 => i5 | 6 => i6 | _ => i7), ?_⟩
    intro k q hq
    match k, hq with
    | 0, hq => cases hq; exact k0
    | 1, hq => cases hq; exact k1
    | 2, hq => cases hq; exact k2
    | 3, hq => cases hq; exact k3
    | 4, hq => cases hq; exact k4
    | 5, hq => cases hq; exact k5
    | 6, hq => cases hq; exact k6
    | 7, hq => cases hq; exact k7
    | k + 8, hq => simp [vwCl] at hq
  obtain ⟨cA, hcA⟩ : ∃ cA : Nat → ClassId, cA 0 = a0 ∧ cA 1 = a1 ∧ cA 2 = a2 ∧ cA 3 = a3 ∧ cA 4 = a4 := ⟨fun k => match k with | 0 => a0 | 1 => a1 | 2 => a2 | 3 => a3 | _ => a4, rfl, rfl, rfl, rfl, rfl⟩
  obtain ⟨rfl, rfl, rfl, rfl, rfl⟩ := hcA
  have hK : va_K D vwCl (atys cA) s := by
    refine ⟨hD, fun k q hq => ?_⟩
    match k, hq with
    | 0, hq => cases hq; exact ⟨aArr ga1 ga2, ga0⟩
    | 1, hq => cases hq; exact ⟨aArr gb1 gb2, gb0⟩
    | 2, hq => cases hq; exact ⟨aArr gc2 gc3, ka2, m2, gc2, gc3, gc0, gc4⟩
    | 3, hq => cases hq; exact ⟨aArr gd2 gd3, ka3, m3, gd2, gd3, gd0, gd4⟩
    | 4, hq => cases hq; exact ⟨aArr ge2 ge3, ka4, m4, ge2, ge3, ge0, ge4⟩
    | k + 5, hq => simp [atys] at hq
  obtain ⟨adK, adV, hT, hTe⟩ := vk_Sof (N := 13) (tm := aTm) (len := alen) (byt := abyt) (A := aA s.heap.size) (by decide +kernel) (fun i hi => hfl _ (fl_ex i hi)) (fun i hi => hfl _ (fl_co i hi)) (fun i hi => hfl _ (fl_ar i hi)) (fun i hi => hfl _ (fl_le i hi)) (fun i hi j hj => hfl _ (fl_el i hi j hj)) (fun i j hi hj hij => (fl_ne i hi j hj hij).elim (fun q => Or.inl (hfl _ q)) (fun q => Or.inr (hfl _ q))) hA
  have hCS := va_Zof (A := aA s.heap.size) (hts _ nn_9) (hts _ nn_12) (va_eqi (hfl _ fl_cs)) hA
  obtain ⟨ut, hue, hUT⟩ := va_Tof (N := 6) (f := fun j => .int (aUnd j)) (A := aA s.heap.size) (by decide) (hfl _ fl_ua) (va_eqt (hfl _ fl_ul)) (fun j hj => va_eqt (hfl _ (fl_ue j hj))) hA
  have hUZ := va_Zof (A := aA s.heap.size) (hts _ nn_11) (hts _ nn_14) hue hA
  obtain ⟨sv, sr, hsv, hSZ⟩ : ∃ (sv : Value) (sr : Nat), (sv = .null ∨ sv = .ref aSIO) ∧ ∀ ad : Nat → Nat, ad aSIO = sr → va_Z "jdk/internal/util/Preconditions" "SIOOBE_FORMATTER" "Ljava/util/function/BiFunction;" (acv ad sv) (aA s.heap.size) s s.heap := by
    rcases va_Zqof (A := aA s.heap.size) (hts _ nn_10) (hts _ nn_13) (hfl _ fl_si) hA with h | ⟨t, h⟩
    · exact ⟨.null, 0, Or.inl rfl, fun ad _ => h⟩
    · exact ⟨.ref aSIO, t, Or.inr rfl, fun ad had => by show va_Z _ _ _ (.ref (ad aSIO)) _ _ _; rw [had]; exact h⟩
  obtain ⟨ad, ha0, ha1, ha2, ha3, ha4, ha5⟩ : ∃ ad : Nat → Nat, (∀ k, k < aCAP → ad k = s.heap.size + k) ∧ ad aSCR = b ∧ ad aUND = ut ∧ ad aSIO = sr ∧ (∀ k, k < 13 → ad (aSTR + k) = adK k) ∧ ∀ k, k < 13 → ad (aVAL + k) = adV k := by
    refine ⟨fun k => if k < aCAP then s.heap.size + k else if k = aSCR then b else if k = aUND then ut else if k = aSIO then sr else if k < aVAL then adK (k - aSTR) else adV (k - aVAL), fun k hk => if_pos hk, rfl, rfl, rfl, fun k hk => ?_, fun k hk => ?_⟩
    · show (if aSTR + k < aCAP then s.heap.size + (aSTR + k) else if aSTR + k = aSCR then b else if aSTR + k = aUND then ut else if aSTR + k = aSIO then sr else if aSTR + k < aVAL then adK (aSTR + k - aSTR) else adV (aSTR + k - aVAL)) = adK k
      have h1 : ¬ aSTR + k < aCAP := by unfold aSTR aCAP; omega
      have h2 : ¬ aSTR + k = aSCR := by unfold aSTR aSCR; omega
      have h3 : ¬ aSTR + k = aUND := by unfold aSTR aUND; omega
      have h4 : ¬ aSTR + k = aSIO := by unfold aSTR aSIO; omega
      have h5 : aSTR + k < aVAL := by unfold aSTR aVAL; omega
      rw [if_neg h1, if_neg h2, if_neg h3, if_neg h4, if_pos h5, Nat.add_sub_cancel_left]
    · show (if aVAL + k < aCAP then s.heap.size + (aVAL + k) else if aVAL + k = aSCR then b else if aVAL + k = aUND then ut else if aVAL + k = aSIO then sr else if aVAL + k < aVAL then adK (aVAL + k - aSTR) else adV (aVAL + k - aVAL)) = adV k
      have h1 : ¬ aVAL + k < aCAP := by unfold aVAL aCAP; omega
      have h2 : ¬ aVAL + k = aSCR := by unfold aVAL aSCR; omega
      have h3 : ¬ aVAL + k = aUND := by unfold aVAL aUND; omega
      have h4 : ¬ aVAL + k = aSIO := by unfold aVAL aSIO; omega
      have h5 : ¬ aVAL + k < aVAL := by omega
      rw [if_neg h1, if_neg h2, if_neg h3, if_neg h4, if_neg h5, Nat.add_sub_cancel_left]
  have hN : aNst s := ⟨va_Nw.of rfl (hts _ nn_1), va_Nw.of rfl (hts _ nn_2), va_Nw.of rfl (hts _ nn_3), va_Nw.of rfl (hts _ nn_4), va_AO.of (hts _ nn_5), va_AO.of (hts _ nn_6), va_AO.of (hts _ nn_7), va_Nw.of rfl (hts _ nn_8)⟩
  have hTx : aTxt ad s.heap.size sv s s.heap := by
    refine ⟨⟨fun i hi => ?_, fun i j hi hj hij => ?_⟩, fun k hk q hq => ?_, hCS, hSZ ad ha3, ?_, ?_⟩
    · have := hT.1 i hi
      dsimp only
      rw [ha4 i hi, ha5 i hi]
      exact this
    · dsimp only at hij
      rw [ha4 i hi, ha4 j hj] at hij
      exact hT.2 i j hi hj hij
    · rw [ha4 k hk]
      have he := hTe k hk
      unfold aTm at he
      rw [hq] at he
      refine vk_R.of (hts _ ?_) he
      match k, hk, hq with
      | 0, _, hq => exact st_0 hq
      | 1, _, hq => exact st_1 hq
      | 2, _, hq => exact st_2 hq
      | 3, _, hq => exact st_3 hq
      | 4, _, hq => exact st_4 hq
      | 5, _, hq => exact st_5 hq
      | 6, _, hq => exact st_6 hq
      | 7, _, hq => exact st_7 hq
      | 8, _, hq => exact st_8 hq
      | 9, _, hq => exact st_9 hq
      | 10, _, hq => exact st_10 hq
      | 11, _, hq => exact st_11 hq
      | 12, _, hq => exact st_12 hq
    · rw [ha2]
      exact hUZ
    · rcases hsv with h | h
      · exact Or.inl h
      · exact Or.inr ⟨_, h⟩
  have hXo : aXok (aXs L xs) ad s.heap.size s s.heap := by
    intro k n f hk
    unfold aXs at hk
    by_cases h1 : k = aSCR
    · rw [if_pos h1] at hk
      cases hk
      subst h1
      refine ⟨by unfold aCAP aSCR; omega, ?_⟩
      rw [ha1]
      obtain ⟨scr, g1, g2, g3, g4, g5⟩ := hX
      exact ⟨scr, g1, g2, g3, by omega, by rw [g4] <;> rfl, g5, hA b hbl⟩
    · rw [if_neg h1] at hk
      by_cases h2 : k = aUND
      · rw [if_pos h2] at hk
        cases hk
        subst h2
        refine ⟨by unfold aCAP aUND; omega, ?_⟩
        rw [ha2]
        exact hUT
      · rw [if_neg h2] at hk
        cases hk
  have had : aAd ad s.heap.size := ⟨ha0, trivial⟩
  have hC : aC p s m #[Value.ref b] c cL_law 4 RL D cA ad s.heap.size 0 s.heap (aXs L xs, sv) := ⟨hx, hb, hml, hown, fun w hw => hts w (aBIG_in hw), hK, had, hXo, ⟨hN, hTx⟩, rfl, rfl⟩
  obtain ⟨d, n, hf, q1, q2, q3, q4⟩ := hpure L xs sv hL hsv
  have hsim := sm_L_law (l := l) (e := e) (below := below) (d := d) (E := aEx (aTb (aXs L xs, sv)) d) (hf := hf) hC ⟨q2, by omega⟩ (fun ml hml2 => ⟨by show d + 17 ≤ 2048; omega, by show 8 + (ml + 11) + (64 * d + 1024) ≤ 84000; omega⟩) (a_sound had d) hr hlocks
  have hgo := (a_run (fun i f hi => by have := aSims_at hsim hi; rwa [Nat.zero_add] at this) (fun _ _ _ _ _ z => aEx_le z) n _ q4).2 ⟨by show hf.1.1 ≤ 0 + 600000; omega, by show hf.1.2.1 ≤ 0 + 7302250; omega⟩
  have hl2 := lv_entry ([.ref b]) (n := 4) (Nat.le_of_ble_eq_true rfl)
  rw [lg_entry_eq]
  have e1 : lv_args 0 [Value.ref b] = aAL ad 0 [some (.ref aSCR), none, none, none] := by
    show [(0, Value.ref b)] = [(0, Value.ref (ad aSCR))]
    rw [ha1]
  rw [e1] at hl2
  have g := hgo s.heap [] _ 0 0 ⟨hl2, rfl, fun k q hq => by simp [awld, aH0] at hq, va_S.rf, rfl, Nat.zero_le _, rfl, rfl⟩
  exact g
