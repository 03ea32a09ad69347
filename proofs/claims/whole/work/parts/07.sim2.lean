/-! branches, fields, arrays (written by wip/whole/mksim2.py) -/
section SIM
variable {p : Program} {l : Launch} {e : Env} {R : Room} {s : State} {m : MethodId} {args : Array Value} {below : List Frame} {meth : Method} {c : Code} {Q : State → Prop} {cc : ByteArray} {nL : Nat} {own : String} {D : va_G} {cA : Nat → ClassId} {ad : Nat → Nat} {bs n0 z0 : Nat} {H0 : Heap} {pcs : Nat → Nat} {rv : Option Value} {hf : aM} {E : Nat → List Value → aM → Option Value → aM → Prop} {X : aXt × Value} {i pc : Nat}

theorem aSim_B {g : List Value → Option (Bool × List Value)} {t : Nat} (hk : ∀ st b r, g st = some (b, r) → ∀ (H : Heap) (locs : List Loc) (ls : Array Slot) (cells slots : Nat), (b = true → W p l e R s m args below meth c H locs cells slots Q (F0 m (pcs t) ls (r.map (acv ad)))) → (b = false → W p l e R s m args below meth c H locs cells slots Q (F0 m (pcs (i + 1)) ls (r.map (acv ad)))) → W p l e R s m args below meth c H locs cells slots Q (F0 m (pcs i) ls (st.map (acv ad)))) : aSim p l e R s m args below meth c Q nL D cA ad bs n0 z0 H0 pcs rv hf E (aB g t) i := by
  refine aSim_n (fun loc st h t' hq => ?_) (fun loc st h x hq => ?_)
  · unfold aB at hq
    dsimp only at hq
    cases hg : g st with
    | none => rw [hg] at hq; cases hq
    | some q =>
      obtain ⟨b, r⟩ := q
      rw [hg] at hq
      cases hq
      refine ⟨aLe.rf h, fun _ kk H locs ls cells slots hR => ?_⟩
      refine hk st b r hg H locs ls cells slots (fun hb => ?_) (fun hb => ?_)
      · subst hb
        exact kk H locs ls cells slots hR
      · subst hb
        exact kk H locs ls cells slots hR
  · unfold aB at hq
    dsimp only at hq
    cases hg : g st with
    | none => rw [hg] at hq; cases hq
    | some q => rw [hg] at hq; cases hq

theorem s_if_eq (hC : aC p s m args c cc nL own D cA ad bs n0 H0 X) {off : Int} {t : Nat} (hd : decode cc pc = .ok (.ifCond .eq off, 3)) (h0 : pcs i = pc) (h1 : pcs (i + 1) = pc + 3) (ht : (pc : Int) + off = (pcs t : Int)) : aSim p l e R s m args below meth c Q nL D cA ad bs n0 z0 H0 pcs rv hf E (aB (bI fun x => decide (x = 0)) t) i :=
  aSim_B fun st b r hg H locs ls cells slots kt kf => by
    unfold bI at hg
    split at hg
    · cases hg
      rw [h0]
      refine lv_if_eq hC.1 hC.2.1 hd ht (fun q2 => kt (decide_eq_true q2)) (fun q2 => ?_)
      have k := kf (decide_eq_false q2)
      rw [h1] at k
      exact k
    · cases hg

theorem s_icmp_eq (hC : aC p s m args c cc nL own D cA ad bs n0 H0 X) {off : Int} {t : Nat} (hd : decode cc pc = .ok (.if_icmp .eq off, 3)) (h0 : pcs i = pc) (h1 : pcs (i + 1) = pc + 3) (ht : (pc : Int) + off = (pcs t : Int)) : aSim p l e R s m args below meth c Q nL D cA ad bs n0 z0 H0 pcs rv hf E (aB (bC fun x y => decide (x = y)) t) i :=
  aSim_B fun st b r hg H locs ls cells slots kt kf => by
    unfold bC at hg
    split at hg
    · cases hg
      rw [h0]
      refine lv_icmp_eq hC.1 hC.2.1 hd ht (fun q2 => kt (decide_eq_true q2)) (fun q2 => ?_)
      have k := kf (decide_eq_false q2)
      rw [h1] at k
      exact k
    · cases hg

theorem s_if_ne (hC : aC p s m args c cc nL own D cA ad bs n0 H0 X) {off : Int} {t : Nat} (hd : decode cc pc = .ok (.ifCond .ne off, 3)) (h0 : pcs i = pc) (h1 : pcs (i + 1) = pc + 3) (ht : (pc : Int) + off = (pcs t : Int)) : aSim p l e R s m args below meth c Q nL D cA ad bs n0 z0 H0 pcs rv hf E (aB (bI fun x => decide (¬ x = 0)) t) i :=
  aSim_B fun st b r hg H locs ls cells slots kt kf => by
    unfold bI at hg
    split at hg
    · cases hg
      rw [h0]
      refine lv_if_ne hC.1 hC.2.1 hd ht (fun q2 => kt (decide_eq_true q2)) (fun q2 => ?_)
      have k := kf (decide_eq_false (fun q => q q2))
      rw [h1] at k
      exact k
    · cases hg

theorem s_icmp_ne (hC : aC p s m args c cc nL own D cA ad bs n0 H0 X) {off : Int} {t : Nat} (hd : decode cc pc = .ok (.if_icmp .ne off, 3)) (h0 : pcs i = pc) (h1 : pcs (i + 1) = pc + 3) (ht : (pc : Int) + off = (pcs t : Int)) : aSim p l e R s m args below meth c Q nL D cA ad bs n0 z0 H0 pcs rv hf E (aB (bC fun x y => decide (¬ x = y)) t) i :=
  aSim_B fun st b r hg H locs ls cells slots kt kf => by
    unfold bC at hg
    split at hg
    · cases hg
      rw [h0]
      refine lv_icmp_ne hC.1 hC.2.1 hd ht (fun q2 => kt (decide_eq_true q2)) (fun q2 => ?_)
      have k := kf (decide_eq_false (fun q => q q2))
      rw [h1] at k
      exact k
    · cases hg

theorem s_if_lt (hC : aC p s m args c cc nL own D cA ad bs n0 H0 X) {off : Int} {t : Nat} (hd : decode cc pc = .ok (.ifCond .lt off, 3)) (h0 : pcs i = pc) (h1 : pcs (i + 1) = pc + 3) (ht : (pc : Int) + off = (pcs t : Int)) : aSim p l e R s m args below meth c Q nL D cA ad bs n0 z0 H0 pcs rv hf E (aB (bI fun x => decide (x < 0)) t) i :=
  aSim_B fun st b r hg H locs ls cells slots kt kf => by
    unfold bI at hg
    split at hg
    · cases hg
      rw [h0]
      refine lv_if_lt hC.1 hC.2.1 hd ht (fun q2 => kt (decide_eq_true q2)) (fun q2 => ?_)
      have k := kf (decide_eq_false q2)
      rw [h1] at k
      exact k
    · cases hg

theorem s_icmp_lt (hC : aC p s m args c cc nL own D cA ad bs n0 H0 X) {off : Int} {t : Nat} (hd : decode cc pc = .ok (.if_icmp .lt off, 3)) (h0 : pcs i = pc) (h1 : pcs (i + 1) = pc + 3) (ht : (pc : Int) + off = (pcs t : Int)) : aSim p l e R s m args below meth c Q nL D cA ad bs n0 z0 H0 pcs rv hf E (aB (bC fun x y => decide (x < y)) t) i :=
  aSim_B fun st b r hg H locs ls cells slots kt kf => by
    unfold bC at hg
    split at hg
    · cases hg
      rw [h0]
      refine lv_icmp_lt hC.1 hC.2.1 hd ht (fun q2 => kt (decide_eq_true q2)) (fun q2 => ?_)
      have k := kf (decide_eq_false q2)
      rw [h1] at k
      exact k
    · cases hg

theorem s_if_ge (hC : aC p s m args c cc nL own D cA ad bs n0 H0 X) {off : Int} {t : Nat} (hd : decode cc pc = .ok (.ifCond .ge off, 3)) (h0 : pcs i = pc) (h1 : pcs (i + 1) = pc + 3) (ht : (pc : Int) + off = (pcs t : Int)) : aSim p l e R s m args below meth c Q nL D cA ad bs n0 z0 H0 pcs rv hf E (aB (bI fun x => decide (0 ≤ x)) t) i :=
  aSim_B fun st b r hg H locs ls cells slots kt kf => by
    unfold bI at hg
    split at hg
    · cases hg
      rw [h0]
      refine lv_if_ge hC.1 hC.2.1 hd ht (fun q2 => kt (decide_eq_true q2)) (fun q2 => ?_)
      have k := kf (decide_eq_false q2)
      rw [h1] at k
      exact k
    · cases hg

theorem s_icmp_ge (hC : aC p s m args c cc nL own D cA ad bs n0 H0 X) {off : Int} {t : Nat} (hd : decode cc pc = .ok (.if_icmp .ge off, 3)) (h0 : pcs i = pc) (h1 : pcs (i + 1) = pc + 3) (ht : (pc : Int) + off = (pcs t : Int)) : aSim p l e R s m args below meth c Q nL D cA ad bs n0 z0 H0 pcs rv hf E (aB (bC fun x y => decide (y ≤ x)) t) i :=
  aSim_B fun st b r hg H locs ls cells slots kt kf => by
    unfold bC at hg
    split at hg
    · cases hg
      rw [h0]
      refine lv_icmp_ge hC.1 hC.2.1 hd ht (fun q2 => kt (decide_eq_true q2)) (fun q2 => ?_)
      have k := kf (decide_eq_false q2)
      rw [h1] at k
      exact k
    · cases hg

theorem s_if_gt (hC : aC p s m args c cc nL own D cA ad bs n0 H0 X) {off : Int} {t : Nat} (hd : decode cc pc = .ok (.ifCond .gt off, 3)) (h0 : pcs i = pc) (h1 : pcs (i + 1) = pc + 3) (ht : (pc : Int) + off = (pcs t : Int)) : aSim p l e R s m args below meth c Q nL D cA ad bs n0 z0 H0 pcs rv hf E (aB (bI fun x => decide (0 < x)) t) i :=
  aSim_B fun st b r hg H locs ls cells slots kt kf => by
    unfold bI at hg
    split at hg
    · cases hg
      rw [h0]
      refine lv_if_gt hC.1 hC.2.1 hd ht (fun q2 => kt (decide_eq_true q2)) (fun q2 => ?_)
      have k := kf (decide_eq_false q2)
      rw [h1] at k
      exact k
    · cases hg

theorem s_icmp_gt (hC : aC p s m args c cc nL own D cA ad bs n0 H0 X) {off : Int} {t : Nat} (hd : decode cc pc = .ok (.if_icmp .gt off, 3)) (h0 : pcs i = pc) (h1 : pcs (i + 1) = pc + 3) (ht : (pc : Int) + off = (pcs t : Int)) : aSim p l e R s m args below meth c Q nL D cA ad bs n0 z0 H0 pcs rv hf E (aB (bC fun x y => decide (y < x)) t) i :=
  aSim_B fun st b r hg H locs ls cells slots kt kf => by
    unfold bC at hg
    split at hg
    · cases hg
      rw [h0]
      refine lv_icmp_gt hC.1 hC.2.1 hd ht (fun q2 => kt (decide_eq_true q2)) (fun q2 => ?_)
      have k := kf (decide_eq_false q2)
      rw [h1] at k
      exact k
    · cases hg

theorem s_if_le (hC : aC p s m args c cc nL own D cA ad bs n0 H0 X) {off : Int} {t : Nat} (hd : decode cc pc = .ok (.ifCond .le off, 3)) (h0 : pcs i = pc) (h1 : pcs (i + 1) = pc + 3) (ht : (pc : Int) + off = (pcs t : Int)) : aSim p l e R s m args below meth c Q nL D cA ad bs n0 z0 H0 pcs rv hf E (aB (bI fun x => decide (x ≤ 0)) t) i :=
  aSim_B fun st b r hg H locs ls cells slots kt kf => by
    unfold bI at hg
    split at hg
    · cases hg
      rw [h0]
      refine lv_if_le hC.1 hC.2.1 hd ht (fun q2 => kt (decide_eq_true q2)) (fun q2 => ?_)
      have k := kf (decide_eq_false q2)
      rw [h1] at k
      exact k
    · cases hg

theorem s_icmp_le (hC : aC p s m args c cc nL own D cA ad bs n0 H0 X) {off : Int} {t : Nat} (hd : decode cc pc = .ok (.if_icmp .le off, 3)) (h0 : pcs i = pc) (h1 : pcs (i + 1) = pc + 3) (ht : (pc : Int) + off = (pcs t : Int)) : aSim p l e R s m args below meth c Q nL D cA ad bs n0 z0 H0 pcs rv hf E (aB (bC fun x y => decide (x ≤ y)) t) i :=
  aSim_B fun st b r hg H locs ls cells slots kt kf => by
    unfold bC at hg
    split at hg
    · cases hg
      rw [h0]
      refine lv_icmp_le hC.1 hC.2.1 hd ht (fun q2 => kt (decide_eq_true q2)) (fun q2 => ?_)
      have k := kf (decide_eq_false q2)
      rw [h1] at k
      exact k
    · cases hg

theorem s_ifnull (hC : aC p s m args c cc nL own D cA ad bs n0 H0 X) {off : Int} {t : Nat} (hd : decode cc pc = .ok (.ifnull off, 3)) (h0 : pcs i = pc) (h1 : pcs (i + 1) = pc + 3) (ht : (pc : Int) + off = (pcs t : Int)) : aSim p l e R s m args below meth c Q nL D cA ad bs n0 z0 H0 pcs rv hf E (aB bNul t) i :=
  aSim_B fun st b r hg H locs ls cells slots kt kf => by
    unfold bNul at hg
    split at hg
    · cases hg
      rw [h0]
      exact lv_ifnullN hC.1 hC.2.1 hd ht (kt rfl)
    · cases hg
      rw [h0]
      have k := kf rfl
      rw [h1] at k
      exact lv_ifnull hC.1 hC.2.1 hd k
    · cases hg
theorem s_ifnonnull (hC : aC p s m args c cc nL own D cA ad bs n0 H0 X) {off : Int} {t : Nat} (hd : decode cc pc = .ok (.ifnonnull off, 3)) (h0 : pcs i = pc) (h1 : pcs (i + 1) = pc + 3) (ht : (pc : Int) + off = (pcs t : Int)) : aSim p l e R s m args below meth c Q nL D cA ad bs n0 z0 H0 pcs rv hf E (aB bNon t) i :=
  aSim_B fun st b r hg H locs ls cells slots kt kf => by
    unfold bNon at hg
    split at hg
    · cases hg
      rw [h0]
      have k := kf rfl
      rw [h1] at k
      exact lv_ifnonnullN hC.1 hC.2.1 hd k
    · cases hg
      rw [h0]
      exact lv_ifnonnull hC.1 hC.2.1 hd ht (kt rfl)
    · cases hg
theorem s_goto (hC : aC p s m args c cc nL own D cA ad bs n0 H0 X) {off : Int} {t : Nat} (hd : decode cc pc = .ok (.goto off, 3)) (h0 : pcs i = pc) (ht : (pc : Int) + off = (pcs t : Int)) : aSim p l e R s m args below meth c Q nL D cA ad bs n0 z0 H0 pcs rv hf E (aGo t) i := by
  refine aSim_n (fun loc st h t' hq => ?_) (fun loc st h x hq => by cases hq)
  cases hq
  refine ⟨aLe.rf h, fun _ kk H locs ls cells slots hR => ?_⟩
  have k := kk H locs ls cells slots hR
  dsimp only at k ⊢
  rw [h0]
  exact lv_goto hC.1 hC.2.1 hd ht k
theorem s_switch (hC : aC p s m args c cc nL own D cA ad bs n0 H0 X) {dflt lo hi : Int} {offs : Array Int} {len d : Nat} {ts : List Nat} (hd : decode cc pc = .ok (.tableswitch dflt lo hi offs, len)) (h0 : pcs i = pc) (hdf : (pc : Int) + dflt = (pcs d : Int)) (hlen : (ts.length : Int) = hi - lo + 1) (hsz : offs.size = ts.length) (hts : ∀ j : Nat, j < ts.length → ∃ (o : Int) (t : Nat), offs[j]? = some o ∧ anth ts j = some t ∧ (pc : Int) + o = (pcs t : Int)) (hout : ∀ j : Nat, ts.length ≤ j → anth ts j = none) : aSim p l e R s m args below meth c Q nL D cA ad bs n0 z0 H0 pcs rv hf E (aSw lo d ts) i := by
  refine aSim_n (fun loc st h t' hq => ?_) (fun loc st h x hq => by
    unfold aSw at hq
    dsimp only at hq
    split at hq <;> cases hq)
  unfold aSw at hq
  dsimp only at hq
  split at hq
  · rename_i x r
    cases hq
    refine ⟨aLe.rf h, fun _ kk H locs ls cells slots hR => ?_⟩
    have k := kk H locs ls cells slots hR
    dsimp only at k ⊢
    rw [h0]
    by_cases hlo : x.toInt < lo
    · rw [if_pos hlo] at k
      exact lv_tableOut hC.1 hC.2.1 hd (Or.inl hlo) hdf k
    · rw [if_neg hlo] at k
      by_cases hhi : hi < x.toInt
      · rw [hout _ (by omega)] at k
        exact lv_tableOut hC.1 hC.2.1 hd (Or.inr hhi) hdf k
      · obtain ⟨o, t, g1, g2, g3⟩ := hts (x.toInt - lo).toNat (by omega)
        rw [g2] at k
        exact lv_tableIn hC.1 hC.2.1 hd hlo hhi g1 g3 k
  · cases hq

end SIM
