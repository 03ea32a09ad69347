/-! arrays -/
theorem aix_out {i : Int32} {n : Nat} (h : aixn i n = true) : ¬ i < 0 ∧ i.toNatClampNeg < n := by
  simp only [aixn, Bool.and_eq_true, Bool.not_eq_true', decide_eq_false_iff_not, decide_eq_true_eq] at h
  exact h
theorem aup_vaup {ad : Nat → Nat} {f : Nat → Nat → Option Nat} {a b q : Nat} : (fun j => (aup f a b (some q) a j).map ad) = va_up (fun j => (f a j).map ad) b (some (ad q)) := by
  funext y
  simp only [aup, va_up, if_true]
  split <;> rfl
theorem awld_iup {ad : Nat → Nat} {cA : Nat → ClassId} {h : aM} {k n b : Nat} {x : Int32} (hs : anth h.1.2.2 k = some (1, n)) : (awld ad cA h).set k (ad k, .inl (cA 0, n, .inl (upd (h.2.1 k) b x))) = awld ad cA (h.1, aup h.2.1 k b x, h.2.2) :=
  awld_upd rfl (fun y hy => ⟨rfl, aup_ne hy, rfl, rfl⟩) ((acell_int (h := (h.1, aup h.2.1 k b x, h.2.2)) hs).trans (by rw [← aup_upd]))
theorem awld_zup {ad : Nat → Nat} {cA : Nat → ClassId} {h : aM} {k n b : Nat} {x : Int32} (hs : anth h.1.2.2 k = some (2, n)) : (awld ad cA h).set k (ad k, .inl (cA 1, n, .inl (upd (h.2.1 k) b x))) = awld ad cA (h.1, aup h.2.1 k b x, h.2.2) :=
  awld_upd rfl (fun y hy => ⟨rfl, aup_ne hy, rfl, rfl⟩) ((acell_boo (h := (h.1, aup h.2.1 k b x, h.2.2)) hs).trans (by rw [← aup_upd]))
theorem awld_rup {ad : Nat → Nat} {cA : Nat → ClassId} {h : aM} {k n b t q : Nat} (hs : anth h.1.2.2 k = some (t + 3, n)) : (awld ad cA h).set k (ad k, .inl (cA (t + 2), n, .inr (.inr (.inr (.inr (va_up (fun j => (h.2.2.2 k j).map ad) b (some (ad q)))))))) = awld ad cA (h.1, h.2.1, h.2.2.1, aup h.2.2.2 k b (some q)) :=
  awld_upd rfl (fun y hy => ⟨rfl, rfl, rfl, aup_ne hy⟩) ((acell_ref (h := (h.1, h.2.1, h.2.2.1, aup h.2.2.2 k b (some q))) hs).trans (by rw [← aup_vaup]))
section SIM
variable {p : Program} {l : Launch} {e : Env} {R : Room} {s : State} {m : MethodId} {args : Array Value} {below : List Frame} {meth : Method} {c : Code} {Q : State → Prop} {cc : ByteArray} {nL : Nat} {own : String} {D : va_G} {cA : Nat → ClassId} {ad : Nat → Nat} {bs n0 z0 : Nat} {H0 : Heap} {pcs : Nat → Nat} {rv : Option Value} {hf : aM} {E : Nat → List Value → aM → Option Value → aM → Prop} {X : aXt × Value} {i pc : Nat}
theorem s_iaload (hC : aC p s m args c cc nL own D cA ad bs n0 H0 X) {Y : aXt} (hY : ∀ k q, Y k = some q → X.1 k = some q) (hd : decode cc pc = .ok (.iaload, 1)) (h0 : pcs i = pc) (h1 : pcs (i + 1) = pc + 1) : aSim p l e R s m args below meth c Q nL D cA ad bs n0 z0 H0 pcs rv hf E (aIal Y) i := by
  refine aSim_n (fun loc st h t hq => ?_) (fun loc st h x hq => by
    unfold aIal at hq
    dsimp only at hq
    split at hq
    · split at hq
      · split at hq <;> cases hq
      · split at hq
        · split at hq <;> cases hq
        · cases hq
    · cases hq)
  unfold aIal at hq
  dsimp only at hq
  split at hq
  · rename_i j k r
    split at hq
    · rename_i n f hX
      split at hq
      · rename_i hj
        cases hq
        refine ⟨aLe.rf h, fun _ kk H locs ls cells slots hR => ?_⟩
        have g := kk H locs ls cells slots hR
        dsimp only at g ⊢
        rw [h0]
        rw [h1] at g
        obtain ⟨-, cell, c1, c2, c3, c4, -, c6, c7⟩ := hC.2.2.2.2.2.2.2.1 k n f (hY _ _ hX)
        have hlt := (Array.getElem?_eq_some_iff.mp c1).1
        have hj2 := aix_out hj
        exact W.iald (v := .int (f j.toNatClampNeg)) hC.1 hC.2.1 (by rw [hR.2.2.2.1.2.1 _ hlt c7]; exact c1) c2 c3 (by rintro (q | q); exact hj2.1 q; omega) (c6 _ hj2.2) rfl rfl hd g
      · cases hq
    · rename_i hX
      split at hq
      · rename_i n hs
        split at hq
        · rename_i hk
          cases hq
          refine ⟨aLe.rf h, fun _ kk H locs ls cells slots hR => ?_⟩
          have g := kk H locs ls cells slots hR
          dsimp only at g ⊢
          rw [h0]
          rw [h1] at g
          exact va_iald hC.1 hC.2.1 hC.2.2.2.2.2.1 hR.2.2.1 k 0 ((awld_get hk.1).trans (by rw [acell_int hs])) rfl (aix_in hk.2) hd g
        · cases hq
      · cases hq
  · cases hq
theorem s_baload (hC : aC p s m args c cc nL own D cA ad bs n0 H0 X) (hd : decode cc pc = .ok (.baload, 1)) (h0 : pcs i = pc) (h1 : pcs (i + 1) = pc + 1) : aSim p l e R s m args below meth c Q nL D cA ad bs n0 z0 H0 pcs rv hf E aZal i := by
  refine aSim_n (fun loc st h t hq => ?_) (fun loc st h x hq => by
    unfold aZal at hq
    dsimp only at hq
    split at hq
    · split at hq
      · split at hq <;> cases hq
      · cases hq
    · cases hq)
  unfold aZal at hq
  dsimp only at hq
  split at hq
  · rename_i j k r
    split at hq
    · rename_i n hs
      split at hq
      · rename_i hk
        cases hq
        refine ⟨aLe.rf h, fun _ kk H locs ls cells slots hR => ?_⟩
        have g := kk H locs ls cells slots hR
        dsimp only at g ⊢
        rw [h0]
        rw [h1] at g
        exact va_zald hC.1 hC.2.1 hC.2.2.2.2.2.1 hR.2.2.1 k 1 ((awld_get hk.1).trans (by rw [acell_boo hs])) rfl (aix_in hk.2) hd g
      · cases hq
    · cases hq
  · cases hq
theorem s_aaload (hC : aC p s m args c cc nL own D cA ad bs n0 H0 X) (hd : decode cc pc = .ok (.aaload, 1)) (h0 : pcs i = pc) (h1 : pcs (i + 1) = pc + 1) : aSim p l e R s m args below meth c Q nL D cA ad bs n0 z0 H0 pcs rv hf E aAal i := by
  refine aSim_n (fun loc st h t hq => ?_) (fun loc st h x hq => by
    unfold aAal at hq
    dsimp only at hq
    split at hq
    · split at hq
      · split at hq <;> cases hq
      · cases hq
    · cases hq)
  unfold aAal at hq
  dsimp only at hq
  split at hq
  · rename_i j k r
    split at hq
    · rename_i t1 n hs
      split at hq
      · rename_i hk
        cases hq
        refine ⟨aLe.rf h, fun _ kk H locs ls cells slots hR => ?_⟩
        have g := kk H locs ls cells slots hR
        dsimp only at g ⊢
        rw [h0]
        rw [h1] at g
        rw [List.map_cons, acv_arf] at g
        have hw := (awld_get (ad := ad) (cA := cA) hk.1).trans (by rw [acell_ref hs])
        obtain rfl | rfl | rfl : t1 = 0 ∨ t1 = 1 ∨ t1 = 2 := by omega
        · exact va_aldq hC.1 hC.2.1 hC.2.2.2.2.2.1 hR.2.2.1 k 2 hw rfl (aix_in hk.2.1) hd g
        · exact va_aldq hC.1 hC.2.1 hC.2.2.2.2.2.1 hR.2.2.1 k 3 hw rfl (aix_in hk.2.1) hd g
        · exact va_aldq hC.1 hC.2.1 hC.2.2.2.2.2.1 hR.2.2.1 k 4 hw rfl (aix_in hk.2.1) hd g
      · cases hq
    · cases hq
  · cases hq
theorem s_iastore (hC : aC p s m args c cc nL own D cA ad bs n0 H0 X) (hd : decode cc pc = .ok (.iastore, 1)) (h0 : pcs i = pc) (h1 : pcs (i + 1) = pc + 1) : aSim p l e R s m args below meth c Q nL D cA ad bs n0 z0 H0 pcs rv hf E aIas i := by
  refine aSim_n (fun loc st h t hq => ?_) (fun loc st h x hq => by
    unfold aIas at hq
    dsimp only at hq
    split at hq
    · split at hq
      · split at hq <;> cases hq
      · cases hq
    · cases hq)
  unfold aIas at hq
  dsimp only at hq
  split at hq
  · rename_i x j k r
    split at hq
    · rename_i n hs
      split at hq
      · rename_i hk
        cases hq
        refine ⟨aLe.rf h, fun _ kk H locs ls cells slots hR => ?_⟩
        dsimp only
        rw [h0]
        refine va_iast hC.1 hC.2.1 hC.2.2.2.2.2.1 hR.2.2.1 (awld_D hC.2.2.2.2.2.2.1 cA hR.2.2.2.2.2.1) hR.2.2.2.1 k 0 ((awld_get hk.1).trans (by rw [acell_int hs])) rfl (aix_in hk.2) hd (fun H1 locs1 g1 g2 g3 => ?_)
        have g1 : va_P D vwCl (awld ad cA (h.1, aup h.2.1 k j.toNatClampNeg x, h.2.2)) H1 := by rw [← awld_iup hs]; exact g1
        have g := kk H1 locs1 ls cells slots ⟨hR.1, hR.2.1, g1, g3, hR.2.2.2.2⟩
        dsimp only at g
        rw [h1] at g
        exact g
      · cases hq
    · cases hq
  · cases hq
theorem s_bastore (hC : aC p s m args c cc nL own D cA ad bs n0 H0 X) (hd : decode cc pc = .ok (.bastore, 1)) (h0 : pcs i = pc) (h1 : pcs (i + 1) = pc + 1) : aSim p l e R s m args below meth c Q nL D cA ad bs n0 z0 H0 pcs rv hf E aZas i := by
  refine aSim_n (fun loc st h t hq => ?_) (fun loc st h x hq => by
    unfold aZas at hq
    dsimp only at hq
    split at hq
    · split at hq
      · split at hq <;> cases hq
      · cases hq
    · cases hq)
  unfold aZas at hq
  dsimp only at hq
  split at hq
  · rename_i x j k r
    split at hq
    · rename_i n hs
      split at hq
      · rename_i hk
        cases hq
        refine ⟨aLe.rf h, fun _ kk H locs ls cells slots hR => ?_⟩
        dsimp only
        rw [h0]
        refine va_zast hC.1 hC.2.1 hC.2.2.2.2.2.1 hR.2.2.1 (awld_D hC.2.2.2.2.2.2.1 cA hR.2.2.2.2.2.1) hR.2.2.2.1 k 1 ((awld_get hk.1).trans (by rw [acell_boo hs])) rfl (aix_in hk.2.1) hd (fun H1 locs1 g1 g2 g3 => ?_)
        have ex : vp_nar .boolean x = x := by rcases hk.2.2 with rfl | rfl <;> rfl
        rw [ex] at g1
        have g1 : va_P D vwCl (awld ad cA (h.1, aup h.2.1 k j.toNatClampNeg x, h.2.2)) H1 := by rw [← awld_zup hs]; exact g1
        have g := kk H1 locs1 ls cells slots ⟨hR.1, hR.2.1, g1, g3, hR.2.2.2.2⟩
        dsimp only at g
        rw [h1] at g
        exact g
      · cases hq
    · cases hq
  · cases hq
theorem s_aastore (hC : aC p s m args c cc nL own D cA ad bs n0 H0 X) (hd : decode cc pc = .ok (.aastore, 1)) (h0 : pcs i = pc) (h1 : pcs (i + 1) = pc + 1) : aSim p l e R s m args below meth c Q nL D cA ad bs n0 z0 H0 pcs rv hf E aAas i := by
  refine aSim_n (fun loc st h t hq => ?_) (fun loc st h x hq => by
    unfold aAas at hq
    dsimp only at hq
    split at hq
    · split at hq
      · split at hq <;> cases hq
      · cases hq
    · cases hq)
  unfold aAas at hq
  dsimp only at hq
  split at hq
  · rename_i x j k r
    split at hq
    · rename_i t1 n hs
      split at hq
      · rename_i hk
        cases hq
        refine ⟨aLe.rf h, fun _ kk H locs ls cells slots hR => ?_⟩
        dsimp only
        rw [h0]
        obtain ⟨k1, k2, k3, k4, k5⟩ := hk
        have hw := (awld_get (ad := ad) (cA := cA) k1).trans (by rw [acell_ref hs])
        have hv := (awld_get (ad := ad) (cA := cA) k4).trans (by rw [acell_obj k5])
        have hD := awld_D hC.2.2.2.2.2.2.1 cA hR.2.2.2.2.2.1
        have fin : ∀ (H1 : Heap) (locs1 : List Loc), va_P D vwCl ((awld ad cA h).set k (ad k, .inl (cA (t1 + 2), n, .inr (.inr (.inr (.inr (va_up (fun j => (h.2.2.2 k j).map ad) j.toNatClampNeg (some (ad x))))))))) H1 → va_S (aA bs) H0 H1 locs1 → W p l e R s m args below meth c H1 locs1 cells slots Q (F0 m (pc + 1) ls (r.map (acv ad))) := by
          intro H1 locs1 g1 g3
          have g1 : va_P D vwCl (awld ad cA (h.1, h.2.1, h.2.2.1, aup h.2.2.2 k j.toNatClampNeg (some x))) H1 := by rw [← awld_rup hs]; exact g1
          have g := kk H1 locs1 ls cells slots ⟨hR.1, hR.2.1, g1, g3, hR.2.2.2.2⟩
          dsimp only at g
          rw [h1] at g
          exact g
        obtain rfl | rfl | rfl : t1 = 0 ∨ t1 = 1 ∨ t1 = 2 := by omega
        · exact va_astq hC.1 hC.2.1 hC.2.2.2.2.2.1 hR.2.2.1 hD hR.2.2.2.1 k 2 x 3 hw rfl hv rfl (aix_in k2) hd (fun H1 locs1 g1 _ g3 => fin H1 locs1 g1 g3)
        · exact va_astq hC.1 hC.2.1 hC.2.2.2.2.2.1 hR.2.2.1 hD hR.2.2.2.1 k 3 x 0 hw rfl hv rfl (aix_in k2) hd (fun H1 locs1 g1 _ g3 => fin H1 locs1 g1 g3)
        · exact va_astq hC.1 hC.2.1 hC.2.2.2.2.2.1 hR.2.2.1 hD hR.2.2.2.1 k 4 x 2 hw rfl hv rfl (aix_in k2) hd (fun H1 locs1 g1 _ g3 => fin H1 locs1 g1 g3)
      · cases hq
    · cases hq
  · cases hq
theorem s_arraylength (hC : aC p s m args c cc nL own D cA ad bs n0 H0 X) {Y : aXt} (hY : ∀ k q, Y k = some q → X.1 k = some q) (hd : decode cc pc = .ok (.arraylength, 1)) (h0 : pcs i = pc) (h1 : pcs (i + 1) = pc + 1) : aSim p l e R s m args below meth c Q nL D cA ad bs n0 z0 H0 pcs rv hf E (aLen Y) i := by
  refine aSim_n (fun loc st h t hq => ?_) (fun loc st h x hq => by
    unfold aLen at hq
    dsimp only at hq
    split at hq
    · split at hq
      · cases hq
      · split at hq
        · split at hq <;> cases hq
        · cases hq
    · cases hq)
  unfold aLen at hq
  dsimp only at hq
  split at hq
  · rename_i k r
    split at hq
    · rename_i n f hX
      cases hq
      refine ⟨aLe.rf h, fun _ kk H locs ls cells slots hR => ?_⟩
      have g := kk H locs ls cells slots hR
      dsimp only at g ⊢
      rw [h0]
      rw [h1] at g
      obtain ⟨-, cell, c1, c2, c3, c4, c5, c6, c7⟩ := hC.2.2.2.2.2.2.2.1 k n f (hY _ _ hX)
      have hlt := (Array.getElem?_eq_some_iff.mp c1).1
      exact W.alen (n := Int32.ofNat n) hC.1 hC.2.1 (by rw [hR.2.2.2.1.2.1 _ hlt c7]; exact c1) c2 c5 rfl rfl hd g
    · rename_i hX
      split at hq
      · rename_i t1 n hs
        split at hq
        · rename_i hk
          cases hq
          refine ⟨aLe.rf h, fun _ kk H locs ls cells slots hR => ?_⟩
          have g := kk H locs ls cells slots hR
          dsimp only at g ⊢
          rw [h0]
          rw [h1] at g
          have hw := awld_get (ad := ad) (cA := cA) hk.1
          obtain rfl | rfl | rfl | rfl | rfl : t1 = 0 ∨ t1 = 1 ∨ t1 = 2 ∨ t1 = 3 ∨ t1 = 4 := by omega
          · exact va_alen hC.1 hC.2.1 hC.2.2.2.2.2.1 hR.2.2.1 k 0 (hw.trans (congrArg some (congrArg (Prod.mk (ad k)) (acell_int hs)))) rfl rfl hd g
          · exact va_alen hC.1 hC.2.1 hC.2.2.2.2.2.1 hR.2.2.1 k 1 (hw.trans (congrArg some (congrArg (Prod.mk (ad k)) (acell_boo hs)))) rfl rfl hd g
          · exact va_alen hC.1 hC.2.1 hC.2.2.2.2.2.1 hR.2.2.1 k 2 (hw.trans (congrArg some (congrArg (Prod.mk (ad k)) (acell_ref (t := 0) hs)))) rfl rfl hd g
          · exact va_alen hC.1 hC.2.1 hC.2.2.2.2.2.1 hR.2.2.1 k 3 (hw.trans (congrArg some (congrArg (Prod.mk (ad k)) (acell_ref (t := 1) hs)))) rfl rfl hd g
          · exact va_alen hC.1 hC.2.1 hC.2.2.2.2.2.1 hR.2.2.1 k 4 (hw.trans (congrArg some (congrArg (Prod.mk (ad k)) (acell_ref (t := 2) hs)))) rfl rfl hd g
        · cases hq
      · cases hq
  · cases hq
end SIM
