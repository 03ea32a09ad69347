/-! instructions of locals and stack (written by wip/whole/mksim1.py) -/
abbrev oIadd : aOp := aP (gI2 fun x y => x + y)
abbrev oIsub : aOp := aP (gI2 fun x y => x - y)
abbrev oImul : aOp := aP (gI2 fun x y => x * y)
abbrev oIand : aOp := aP (gI2 fun x y => x &&& y)
abbrev oIor : aOp := aP (gI2 fun x y => x ||| y)
abbrev oIshl : aOp := aP (gI2 fun x y => x <<< (y &&& 31))
abbrev oIshr : aOp := aP (gI2 fun x y => x >>> (y &&& 31))
abbrev oIushr : aOp := aP (gI2 fushr)
abbrev oIdiv : aOp := aP (gD2 fun x y => x / y)
abbrev oIrem : aOp := aP (gD2 fun x y => x - x / y * y)
abbrev oIneg : aOp := aP (gI1 fun x => -x)
abbrev oI2b : aOp := aP (gI1 fi2b)
abbrev oI2s : aOp := aP (gI1 fi2s)
abbrev oI2l : aOp := aP gI2l
abbrev oL2i : aOp := aP gL2i
abbrev oLadd : aOp := aP (gL2 fun x y => x + y)
abbrev oLsub : aOp := aP (gL2 fun x y => x - y)
abbrev oLmul : aOp := aP (gL2 fun x y => x * y)
abbrev oLdiv : aOp := aP (gLD fun x y => x / y)
abbrev oLrem : aOp := aP (gLD fun x y => x - x / y * y)
abbrev oLcmp : aOp := aP gLcmp
abbrev oDup : aOp := aP gDup
abbrev oPop : aOp := aP gPop
abbrev oNull : aOp := aP (gC .null)

section SIM
variable {p : Program} {l : Launch} {e : Env} {R : Room} {s : State} {m : MethodId} {args : Array Value} {below : List Frame} {meth : Method} {c : Code} {Q : State → Prop} {cc : ByteArray} {nL : Nat} {own : String} {D : va_G} {cA : Nat → ClassId} {ad : Nat → Nat} {bs n0 z0 : Nat} {H0 : Heap} {pcs : Nat → Nat} {rv : Option Value} {hf : aM} {E : Nat → List Value → aM → Option Value → aM → Prop} {X : aXt × Value} {i pc : Nat}

theorem s_bipush (hC : aC p s m args c cc nL own D cA ad bs n0 H0 X) {n : Int} {v : Int32} (hd : decode cc pc = .ok (.bipush n, 2)) (hv : (Int8.ofInt n).toInt32 = v) (h0 : pcs i = pc) (h1 : pcs (i + 1) = pc + 2) : aSim p l e R s m args below meth c Q nL D cA ad bs n0 z0 H0 pcs rv hf E (aP (gC (.int v))) i :=
  aSim_P fun loc st loc' st' hg hn => by
    cases hg
    refine ⟨hn, fun H locs ls cells slots hl kk => ?_⟩
    have k := kk ls hl
    rw [h1] at k
    rw [h0]
    exact lv_bipush hC.1 hC.2.1 hd hv k

theorem s_sipush (hC : aC p s m args c cc nL own D cA ad bs n0 H0 X) {n : Int} {v : Int32} (hd : decode cc pc = .ok (.sipush n, 3)) (hv : (Int16.ofInt n).toInt32 = v) (h0 : pcs i = pc) (h1 : pcs (i + 1) = pc + 3) : aSim p l e R s m args below meth c Q nL D cA ad bs n0 z0 H0 pcs rv hf E (aP (gC (.int v))) i :=
  aSim_P fun loc st loc' st' hg hn => by
    cases hg
    refine ⟨hn, fun H locs ls cells slots hl kk => ?_⟩
    have k := kk ls hl
    rw [h1] at k
    rw [h0]
    exact lv_sipush hC.1 hC.2.1 hd hv k

theorem s_lconst (hC : aC p s m args c cc nL own D cA ad bs n0 H0 X) {n : Fin 2} {v : Int64} (hd : decode cc pc = .ok (.lconst n, 1)) (hv : Int64.ofNat (n : Nat) = v) (h0 : pcs i = pc) (h1 : pcs (i + 1) = pc + 1) : aSim p l e R s m args below meth c Q nL D cA ad bs n0 z0 H0 pcs rv hf E (aP (gC (.long v))) i :=
  aSim_P fun loc st loc' st' hg hn => by
    cases hg
    refine ⟨hn, fun H locs ls cells slots hl kk => ?_⟩
    have k := kk ls hl
    rw [h1] at k
    rw [h0]
    exact lv_lconst hC.1 hC.2.1 hd hv k

theorem s_ldc (hC : aC p s m args c cc nL own D cA ad bs n0 H0 X) {index : Nat} {v : Int32} (hd : decode cc pc = .ok (.ldc index, 2)) (hv : Cond.constant own index v ∈ aBIG) (h0 : pcs i = pc) (h1 : pcs (i + 1) = pc + 2) : aSim p l e R s m args below meth c Q nL D cA ad bs n0 z0 H0 pcs rv hf E (aP (gC (.int v))) i :=
  aSim_P fun loc st loc' st' hg hn => by
    cases hg
    refine ⟨hn, fun H locs ls cells slots hl kk => ?_⟩
    have k := kk ls hl
    rw [h1] at k
    rw [h0]
    exact lv_ldc hC.1 hC.2.1 hC.2.2.2.1 (hC.2.2.2.2.1 _ hv) hd k

theorem s_ldcw (hC : aC p s m args c cc nL own D cA ad bs n0 H0 X) {index : Nat} {v : Int32} (hd : decode cc pc = .ok (.ldc_w index, 3)) (hv : Cond.constant own index v ∈ aBIG) (h0 : pcs i = pc) (h1 : pcs (i + 1) = pc + 3) : aSim p l e R s m args below meth c Q nL D cA ad bs n0 z0 H0 pcs rv hf E (aP (gC (.int v))) i :=
  aSim_P fun loc st loc' st' hg hn => by
    cases hg
    refine ⟨hn, fun H locs ls cells slots hl kk => ?_⟩
    have k := kk ls hl
    rw [h1] at k
    rw [h0]
    exact lv_ldcw hC.1 hC.2.1 hC.2.2.2.1 (hC.2.2.2.2.1 _ hv) hd k

theorem s_ldc2 (hC : aC p s m args c cc nL own D cA ad bs n0 H0 X) {index : Nat} {v : Int64} (hd : decode cc pc = .ok (.ldc2_w index, 3)) (hv : Cond.constantLong own index v ∈ aBIG) (h0 : pcs i = pc) (h1 : pcs (i + 1) = pc + 3) : aSim p l e R s m args below meth c Q nL D cA ad bs n0 z0 H0 pcs rv hf E (aP (gC (.long v))) i :=
  aSim_P fun loc st loc' st' hg hn => by
    cases hg
    refine ⟨hn, fun H locs ls cells slots hl kk => ?_⟩
    have k := kk ls hl
    rw [h1] at k
    rw [h0]
    exact lv_ldc2 hC.1 hC.2.1 hC.2.2.2.1 (hC.2.2.2.2.1 _ hv) hd k

theorem s_null (hC : aC p s m args c cc nL own D cA ad bs n0 H0 X) (hd : decode cc pc = .ok (.aconst_null, 1)) (h0 : pcs i = pc) (h1 : pcs (i + 1) = pc + 1) : aSim p l e R s m args below meth c Q nL D cA ad bs n0 z0 H0 pcs rv hf E (oNull) i :=
  aSim_P fun loc st loc' st' hg hn => by
    cases hg
    refine ⟨hn, fun H locs ls cells slots hl kk => ?_⟩
    have k := kk ls hl
    rw [h1] at k
    rw [h0]
    exact lv_null hC.1 hC.2.1 hd k

theorem s_iload (hC : aC p s m args c cc nL own D cA ad bs n0 H0 X) {k : Nat} (hd : decode cc pc = .ok (.iload k, 2)) (h0 : pcs i = pc) (h1 : pcs (i + 1) = pc + 2) : aSim p l e R s m args below meth c Q nL D cA ad bs n0 z0 H0 pcs rv hf E (aP (gIld k)) i :=
  aSim_P fun loc st loc' st' hg hn => by
    unfold gIld at hg
    split at hg
    · rename_i x hx
      cases hg
      refine ⟨hn, fun H locs ls cells slots hl kk => ?_⟩
      have k := kk ls hl
      rw [h1] at k
      rw [h0]
      exact lv_iload hC.1 hC.2.1 hd (aAL_get hl hx) k
    · cases hg

theorem s_lload_n (hC : aC p s m args c cc nL own D cA ad bs n0 H0 X) {k : Fin 4} (hd : decode cc pc = .ok (.lload_n k, 1)) (h0 : pcs i = pc) (h1 : pcs (i + 1) = pc + 1) : aSim p l e R s m args below meth c Q nL D cA ad bs n0 z0 H0 pcs rv hf E (aP (gLld k)) i :=
  aSim_P fun loc st loc' st' hg hn => by
    unfold gLld at hg
    split at hg
    · rename_i x hx
      cases hg
      refine ⟨hn, fun H locs ls cells slots hl kk => ?_⟩
      have k := kk ls hl
      rw [h1] at k
      rw [h0]
      exact lv_lload_n hC.1 hC.2.1 hd rfl (aAL_get hl hx) k
    · cases hg

theorem s_lload (hC : aC p s m args c cc nL own D cA ad bs n0 H0 X) {k : Nat} (hd : decode cc pc = .ok (.lload k, 2)) (h0 : pcs i = pc) (h1 : pcs (i + 1) = pc + 2) : aSim p l e R s m args below meth c Q nL D cA ad bs n0 z0 H0 pcs rv hf E (aP (gLld k)) i :=
  aSim_P fun loc st loc' st' hg hn => by
    unfold gLld at hg
    split at hg
    · rename_i x hx
      cases hg
      refine ⟨hn, fun H locs ls cells slots hl kk => ?_⟩
      have k := kk ls hl
      rw [h1] at k
      rw [h0]
      exact lv_lload hC.1 hC.2.1 hd (aAL_get hl hx) k
    · cases hg

theorem s_aload_n (hC : aC p s m args c cc nL own D cA ad bs n0 H0 X) {k : Fin 4} (hd : decode cc pc = .ok (.aload_n k, 1)) (h0 : pcs i = pc) (h1 : pcs (i + 1) = pc + 1) : aSim p l e R s m args below meth c Q nL D cA ad bs n0 z0 H0 pcs rv hf E (aP (gAld k)) i :=
  aSim_P fun loc st loc' st' hg hn => by
    unfold gAld at hg
    split at hg
    · rename_i x hx
      cases hg
      refine ⟨hn, fun H locs ls cells slots hl kk => ?_⟩
      have k := kk ls hl
      rw [h1] at k
      rw [h0]
      exact lv_aload_n hC.1 hC.2.1 hd rfl (aAL_get hl hx) k
    · rename_i hx
      cases hg
      refine ⟨hn, fun H locs ls cells slots hl kk => ?_⟩
      have k := kk ls hl
      rw [h1] at k
      rw [h0]
      exact lv_aload_nN hC.1 hC.2.1 hd rfl (aAL_get hl hx) k
    · cases hg

theorem s_aload (hC : aC p s m args c cc nL own D cA ad bs n0 H0 X) {k : Nat} (hd : decode cc pc = .ok (.aload k, 2)) (h0 : pcs i = pc) (h1 : pcs (i + 1) = pc + 2) : aSim p l e R s m args below meth c Q nL D cA ad bs n0 z0 H0 pcs rv hf E (aP (gAld k)) i :=
  aSim_P fun loc st loc' st' hg hn => by
    unfold gAld at hg
    split at hg
    · rename_i x hx
      cases hg
      refine ⟨hn, fun H locs ls cells slots hl kk => ?_⟩
      have k := kk ls hl
      rw [h1] at k
      rw [h0]
      exact lv_aload hC.1 hC.2.1 hd (aAL_get hl hx) k
    · rename_i hx
      cases hg
      refine ⟨hn, fun H locs ls cells slots hl kk => ?_⟩
      have k := kk ls hl
      rw [h1] at k
      rw [h0]
      exact lv_aloadN hC.1 hC.2.1 hd (aAL_get hl hx) k
    · cases hg

theorem s_iadd (hC : aC p s m args c cc nL own D cA ad bs n0 H0 X) (hd : decode cc pc = .ok (.iadd, 1)) (h0 : pcs i = pc) (h1 : pcs (i + 1) = pc + 1) : aSim p l e R s m args below meth c Q nL D cA ad bs n0 z0 H0 pcs rv hf E (oIadd) i :=
  aSim_P fun loc st loc' st' hg hn => by
    unfold gI2 at hg
    split at hg
    · cases hg
      refine ⟨hn, fun H locs ls cells slots hl kk => ?_⟩
      have k := kk ls hl
      rw [h1] at k
      rw [h0]
      exact lv_iadd hC.1 hC.2.1 hd k
    · cases hg

theorem s_isub (hC : aC p s m args c cc nL own D cA ad bs n0 H0 X) (hd : decode cc pc = .ok (.isub, 1)) (h0 : pcs i = pc) (h1 : pcs (i + 1) = pc + 1) : aSim p l e R s m args below meth c Q nL D cA ad bs n0 z0 H0 pcs rv hf E (oIsub) i :=
  aSim_P fun loc st loc' st' hg hn => by
    unfold gI2 at hg
    split at hg
    · cases hg
      refine ⟨hn, fun H locs ls cells slots hl kk => ?_⟩
      have k := kk ls hl
      rw [h1] at k
      rw [h0]
      exact lv_isub hC.1 hC.2.1 hd k
    · cases hg

theorem s_imul (hC : aC p s m args c cc nL own D cA ad bs n0 H0 X) (hd : decode cc pc = .ok (.imul, 1)) (h0 : pcs i = pc) (h1 : pcs (i + 1) = pc + 1) : aSim p l e R s m args below meth c Q nL D cA ad bs n0 z0 H0 pcs rv hf E (oImul) i :=
  aSim_P fun loc st loc' st' hg hn => by
    unfold gI2 at hg
    split at hg
    · cases hg
      refine ⟨hn, fun H locs ls cells slots hl kk => ?_⟩
      have k := kk ls hl
      rw [h1] at k
      rw [h0]
      exact lv_imul hC.1 hC.2.1 hd k
    · cases hg

theorem s_iand (hC : aC p s m args c cc nL own D cA ad bs n0 H0 X) (hd : decode cc pc = .ok (.iand, 1)) (h0 : pcs i = pc) (h1 : pcs (i + 1) = pc + 1) : aSim p l e R s m args below meth c Q nL D cA ad bs n0 z0 H0 pcs rv hf E (oIand) i :=
  aSim_P fun loc st loc' st' hg hn => by
    unfold gI2 at hg
    split at hg
    · cases hg
      refine ⟨hn, fun H locs ls cells slots hl kk => ?_⟩
      have k := kk ls hl
      rw [h1] at k
      rw [h0]
      exact lv_iand hC.1 hC.2.1 hd k
    · cases hg

theorem s_ior (hC : aC p s m args c cc nL own D cA ad bs n0 H0 X) (hd : decode cc pc = .ok (.ior, 1)) (h0 : pcs i = pc) (h1 : pcs (i + 1) = pc + 1) : aSim p l e R s m args below meth c Q nL D cA ad bs n0 z0 H0 pcs rv hf E (oIor) i :=
  aSim_P fun loc st loc' st' hg hn => by
    unfold gI2 at hg
    split at hg
    · cases hg
      refine ⟨hn, fun H locs ls cells slots hl kk => ?_⟩
      have k := kk ls hl
      rw [h1] at k
      rw [h0]
      exact lv_ior hC.1 hC.2.1 hd k
    · cases hg

theorem s_ishl (hC : aC p s m args c cc nL own D cA ad bs n0 H0 X) (hd : decode cc pc = .ok (.ishl, 1)) (h0 : pcs i = pc) (h1 : pcs (i + 1) = pc + 1) : aSim p l e R s m args below meth c Q nL D cA ad bs n0 z0 H0 pcs rv hf E (oIshl) i :=
  aSim_P fun loc st loc' st' hg hn => by
    unfold gI2 at hg
    split at hg
    · cases hg
      refine ⟨hn, fun H locs ls cells slots hl kk => ?_⟩
      have k := kk ls hl
      rw [h1] at k
      rw [h0]
      exact lv_ishl hC.1 hC.2.1 hd k
    · cases hg

theorem s_ishr (hC : aC p s m args c cc nL own D cA ad bs n0 H0 X) (hd : decode cc pc = .ok (.ishr, 1)) (h0 : pcs i = pc) (h1 : pcs (i + 1) = pc + 1) : aSim p l e R s m args below meth c Q nL D cA ad bs n0 z0 H0 pcs rv hf E (oIshr) i :=
  aSim_P fun loc st loc' st' hg hn => by
    unfold gI2 at hg
    split at hg
    · cases hg
      refine ⟨hn, fun H locs ls cells slots hl kk => ?_⟩
      have k := kk ls hl
      rw [h1] at k
      rw [h0]
      exact lv_ishr hC.1 hC.2.1 hd k
    · cases hg

theorem s_iushr (hC : aC p s m args c cc nL own D cA ad bs n0 H0 X) (hd : decode cc pc = .ok (.iushr, 1)) (h0 : pcs i = pc) (h1 : pcs (i + 1) = pc + 1) : aSim p l e R s m args below meth c Q nL D cA ad bs n0 z0 H0 pcs rv hf E (oIushr) i :=
  aSim_P fun loc st loc' st' hg hn => by
    unfold gI2 at hg
    split at hg
    · cases hg
      refine ⟨hn, fun H locs ls cells slots hl kk => ?_⟩
      have k := kk ls hl
      rw [h1] at k
      rw [h0]
      exact lv_iushr hC.1 hC.2.1 hd rfl k
    · cases hg

theorem s_ineg (hC : aC p s m args c cc nL own D cA ad bs n0 H0 X) (hd : decode cc pc = .ok (.ineg, 1)) (h0 : pcs i = pc) (h1 : pcs (i + 1) = pc + 1) : aSim p l e R s m args below meth c Q nL D cA ad bs n0 z0 H0 pcs rv hf E (oIneg) i :=
  aSim_P fun loc st loc' st' hg hn => by
    unfold gI1 at hg
    split at hg
    · cases hg
      refine ⟨hn, fun H locs ls cells slots hl kk => ?_⟩
      have k := kk ls hl
      rw [h1] at k
      rw [h0]
      exact lv_ineg hC.1 hC.2.1 hd k
    · cases hg

theorem s_i2b (hC : aC p s m args c cc nL own D cA ad bs n0 H0 X) (hd : decode cc pc = .ok (.i2b, 1)) (h0 : pcs i = pc) (h1 : pcs (i + 1) = pc + 1) : aSim p l e R s m args below meth c Q nL D cA ad bs n0 z0 H0 pcs rv hf E (oI2b) i :=
  aSim_P fun loc st loc' st' hg hn => by
    unfold gI1 at hg
    split at hg
    · cases hg
      refine ⟨hn, fun H locs ls cells slots hl kk => ?_⟩
      have k := kk ls hl
      rw [h1] at k
      rw [h0]
      exact lv_i2b hC.1 hC.2.1 hd rfl k
    · cases hg

theorem s_i2s (hC : aC p s m args c cc nL own D cA ad bs n0 H0 X) (hd : decode cc pc = .ok (.i2s, 1)) (h0 : pcs i = pc) (h1 : pcs (i + 1) = pc + 1) : aSim p l e R s m args below meth c Q nL D cA ad bs n0 z0 H0 pcs rv hf E (oI2s) i :=
  aSim_P fun loc st loc' st' hg hn => by
    unfold gI1 at hg
    split at hg
    · cases hg
      refine ⟨hn, fun H locs ls cells slots hl kk => ?_⟩
      have k := kk ls hl
      rw [h1] at k
      rw [h0]
      exact lv_i2s hC.1 hC.2.1 hd rfl k
    · cases hg

theorem s_i2l (hC : aC p s m args c cc nL own D cA ad bs n0 H0 X) (hd : decode cc pc = .ok (.i2l, 1)) (h0 : pcs i = pc) (h1 : pcs (i + 1) = pc + 1) : aSim p l e R s m args below meth c Q nL D cA ad bs n0 z0 H0 pcs rv hf E (oI2l) i :=
  aSim_P fun loc st loc' st' hg hn => by
    unfold gI2l at hg
    split at hg
    · cases hg
      refine ⟨hn, fun H locs ls cells slots hl kk => ?_⟩
      have k := kk ls hl
      rw [h1] at k
      rw [h0]
      exact lv_i2l hC.1 hC.2.1 hd rfl k
    · cases hg

theorem s_l2i (hC : aC p s m args c cc nL own D cA ad bs n0 H0 X) (hd : decode cc pc = .ok (.l2i, 1)) (h0 : pcs i = pc) (h1 : pcs (i + 1) = pc + 1) : aSim p l e R s m args below meth c Q nL D cA ad bs n0 z0 H0 pcs rv hf E (oL2i) i :=
  aSim_P fun loc st loc' st' hg hn => by
    unfold gL2i at hg
    split at hg
    · cases hg
      refine ⟨hn, fun H locs ls cells slots hl kk => ?_⟩
      have k := kk ls hl
      rw [h1] at k
      rw [h0]
      exact lv_l2i hC.1 hC.2.1 hd rfl k
    · cases hg

theorem s_ladd (hC : aC p s m args c cc nL own D cA ad bs n0 H0 X) (hd : decode cc pc = .ok (.ladd, 1)) (h0 : pcs i = pc) (h1 : pcs (i + 1) = pc + 1) : aSim p l e R s m args below meth c Q nL D cA ad bs n0 z0 H0 pcs rv hf E (oLadd) i :=
  aSim_P fun loc st loc' st' hg hn => by
    unfold gL2 at hg
    split at hg
    · cases hg
      refine ⟨hn, fun H locs ls cells slots hl kk => ?_⟩
      have k := kk ls hl
      rw [h1] at k
      rw [h0]
      exact lv_ladd hC.1 hC.2.1 hd k
    · cases hg

theorem s_lsub (hC : aC p s m args c cc nL own D cA ad bs n0 H0 X) (hd : decode cc pc = .ok (.lsub, 1)) (h0 : pcs i = pc) (h1 : pcs (i + 1) = pc + 1) : aSim p l e R s m args below meth c Q nL D cA ad bs n0 z0 H0 pcs rv hf E (oLsub) i :=
  aSim_P fun loc st loc' st' hg hn => by
    unfold gL2 at hg
    split at hg
    · cases hg
      refine ⟨hn, fun H locs ls cells slots hl kk => ?_⟩
      have k := kk ls hl
      rw [h1] at k
      rw [h0]
      exact lv_lsub hC.1 hC.2.1 hd k
    · cases hg

theorem s_lmul (hC : aC p s m args c cc nL own D cA ad bs n0 H0 X) (hd : decode cc pc = .ok (.lmul, 1)) (h0 : pcs i = pc) (h1 : pcs (i + 1) = pc + 1) : aSim p l e R s m args below meth c Q nL D cA ad bs n0 z0 H0 pcs rv hf E (oLmul) i :=
  aSim_P fun loc st loc' st' hg hn => by
    unfold gL2 at hg
    split at hg
    · cases hg
      refine ⟨hn, fun H locs ls cells slots hl kk => ?_⟩
      have k := kk ls hl
      rw [h1] at k
      rw [h0]
      exact lv_lmul hC.1 hC.2.1 hd k
    · cases hg

theorem s_lcmp (hC : aC p s m args c cc nL own D cA ad bs n0 H0 X) (hd : decode cc pc = .ok (.lcmp, 1)) (h0 : pcs i = pc) (h1 : pcs (i + 1) = pc + 1) : aSim p l e R s m args below meth c Q nL D cA ad bs n0 z0 H0 pcs rv hf E (oLcmp) i :=
  aSim_P fun loc st loc' st' hg hn => by
    unfold gLcmp at hg
    split at hg
    · cases hg
      refine ⟨hn, fun H locs ls cells slots hl kk => ?_⟩
      have k := kk ls hl
      rw [h1] at k
      rw [h0]
      exact W.lcmp hC.1 hC.2.1 hd k
    · cases hg

theorem s_dup (hC : aC p s m args c cc nL own D cA ad bs n0 H0 X) (hd : decode cc pc = .ok (.dup, 1)) (h0 : pcs i = pc) (h1 : pcs (i + 1) = pc + 1) : aSim p l e R s m args below meth c Q nL D cA ad bs n0 z0 H0 pcs rv hf E (oDup) i :=
  aSim_P fun loc st loc' st' hg hn => by
    unfold gDup at hg
    split at hg
    · cases hg
      refine ⟨hn, fun H locs ls cells slots hl kk => ?_⟩
      have k := kk ls hl
      rw [h1] at k
      rw [h0]
      exact lv_dup hC.1 hC.2.1 hd rfl k
    · cases hg
      refine ⟨hn, fun H locs ls cells slots hl kk => ?_⟩
      have k := kk ls hl
      rw [h1] at k
      rw [h0]
      exact lv_dup hC.1 hC.2.1 hd rfl k
    · cases hg

theorem s_pop (hC : aC p s m args c cc nL own D cA ad bs n0 H0 X) (hd : decode cc pc = .ok (.pop, 1)) (h0 : pcs i = pc) (h1 : pcs (i + 1) = pc + 1) : aSim p l e R s m args below meth c Q nL D cA ad bs n0 z0 H0 pcs rv hf E (oPop) i :=
  aSim_P fun loc st loc' st' hg hn => by
    unfold gPop at hg
    split at hg
    · cases hg
      refine ⟨hn, fun H locs ls cells slots hl kk => ?_⟩
      have k := kk ls hl
      rw [h1] at k
      rw [h0]
      exact lv_pop hC.1 hC.2.1 hd rfl k
    · cases hg
      refine ⟨hn, fun H locs ls cells slots hl kk => ?_⟩
      have k := kk ls hl
      rw [h1] at k
      rw [h0]
      exact lv_pop hC.1 hC.2.1 hd rfl k
    · cases hg
      refine ⟨hn, fun H locs ls cells slots hl kk => ?_⟩
      have k := kk ls hl
      rw [h1] at k
      rw [h0]
      exact lv_pop hC.1 hC.2.1 hd rfl k
    · cases hg

theorem s_idiv (hC : aC p s m args c cc nL own D cA ad bs n0 H0 X) (hd : decode cc pc = .ok (.idiv, 1)) (h0 : pcs i = pc) (h1 : pcs (i + 1) = pc + 1) : aSim p l e R s m args below meth c Q nL D cA ad bs n0 z0 H0 pcs rv hf E (oIdiv) i :=
  aSim_P fun loc st loc' st' hg hn => by
    unfold gD2 at hg
    split at hg
    · split at hg
      · cases hg
      · rename_i hz
        cases hg
        refine ⟨hn, fun H locs ls cells slots hl kk => ?_⟩
        have k := kk ls hl
        rw [h1] at k
        rw [h0]
        exact lv_idiv hC.1 hC.2.1 hd hz k
    · cases hg

theorem s_irem (hC : aC p s m args c cc nL own D cA ad bs n0 H0 X) (hd : decode cc pc = .ok (.irem, 1)) (h0 : pcs i = pc) (h1 : pcs (i + 1) = pc + 1) : aSim p l e R s m args below meth c Q nL D cA ad bs n0 z0 H0 pcs rv hf E (oIrem) i :=
  aSim_P fun loc st loc' st' hg hn => by
    unfold gD2 at hg
    split at hg
    · split at hg
      · cases hg
      · rename_i hz
        cases hg
        refine ⟨hn, fun H locs ls cells slots hl kk => ?_⟩
        have k := kk ls hl
        rw [h1] at k
        rw [h0]
        exact lv_irem hC.1 hC.2.1 hd hz k
    · cases hg

theorem s_ldiv (hC : aC p s m args c cc nL own D cA ad bs n0 H0 X) (hd : decode cc pc = .ok (.ldiv, 1)) (h0 : pcs i = pc) (h1 : pcs (i + 1) = pc + 1) : aSim p l e R s m args below meth c Q nL D cA ad bs n0 z0 H0 pcs rv hf E (oLdiv) i :=
  aSim_P fun loc st loc' st' hg hn => by
    unfold gLD at hg
    split at hg
    · split at hg
      · cases hg
      · rename_i hz
        cases hg
        refine ⟨hn, fun H locs ls cells slots hl kk => ?_⟩
        have k := kk ls hl
        rw [h1] at k
        rw [h0]
        exact lv_ldiv hC.1 hC.2.1 hd hz k
    · cases hg

theorem s_lrem (hC : aC p s m args c cc nL own D cA ad bs n0 H0 X) (hd : decode cc pc = .ok (.lrem, 1)) (h0 : pcs i = pc) (h1 : pcs (i + 1) = pc + 1) : aSim p l e R s m args below meth c Q nL D cA ad bs n0 z0 H0 pcs rv hf E (oLrem) i :=
  aSim_P fun loc st loc' st' hg hn => by
    unfold gLD at hg
    split at hg
    · split at hg
      · cases hg
      · rename_i hz
        cases hg
        refine ⟨hn, fun H locs ls cells slots hl kk => ?_⟩
        have k := kk ls hl
        rw [h1] at k
        rw [h0]
        exact lv_lrem hC.1 hC.2.1 hd hz k
    · cases hg

theorem s_istore_n (hC : aC p s m args c cc nL own D cA ad bs n0 H0 X) {k : Fin 4} (hd : decode cc pc = .ok (.istore_n k, 1)) (h0 : pcs i = pc) (h1 : pcs (i + 1) = pc + 1) : aSim p l e R s m args below meth c Q nL D cA ad bs n0 z0 H0 pcs rv hf E (aP (gIst k)) i :=
  aSim_P fun loc st loc' st' hg hn => by
    unfold gIst at hg
    split at hg
    · split at hg
      · rename_i hk
        cases hg
        refine ⟨(ast1_len _ _ _).trans hn, fun H locs ls cells slots hl kk => ?_⟩
        rw [h0]
        refine lv_istore_n hC.1 hC.2.1 hd rfl hl (by rw [← hn]; exact hk) rfl (fun ls' hl' => ?_)
        have k := kk ls' (aAL_st1 hl')
        rw [h1] at k
        exact k
      · cases hg
    · cases hg

theorem s_istore (hC : aC p s m args c cc nL own D cA ad bs n0 H0 X) {k : Nat} (hd : decode cc pc = .ok (.istore k, 2)) (h0 : pcs i = pc) (h1 : pcs (i + 1) = pc + 2) : aSim p l e R s m args below meth c Q nL D cA ad bs n0 z0 H0 pcs rv hf E (aP (gIst k)) i :=
  aSim_P fun loc st loc' st' hg hn => by
    unfold gIst at hg
    split at hg
    · split at hg
      · rename_i hk
        cases hg
        refine ⟨(ast1_len _ _ _).trans hn, fun H locs ls cells slots hl kk => ?_⟩
        rw [h0]
        refine lv_istore hC.1 hC.2.1 hd hl (by rw [← hn]; exact hk) rfl (fun ls' hl' => ?_)
        have k := kk ls' (aAL_st1 hl')
        rw [h1] at k
        exact k
      · cases hg
    · cases hg

theorem s_astore_n (hC : aC p s m args c cc nL own D cA ad bs n0 H0 X) {k : Fin 4} (hd : decode cc pc = .ok (.astore_n k, 1)) (h0 : pcs i = pc) (h1 : pcs (i + 1) = pc + 1) : aSim p l e R s m args below meth c Q nL D cA ad bs n0 z0 H0 pcs rv hf E (aP (gAst k)) i :=
  aSim_P fun loc st loc' st' hg hn => by
    unfold gAst at hg
    split at hg
    · split at hg
      · rename_i hk
        cases hg
        refine ⟨(ast1_len _ _ _).trans hn, fun H locs ls cells slots hl kk => ?_⟩
        rw [h0]
        refine lv_astore_n hC.1 hC.2.1 hd rfl hl (by rw [← hn]; exact hk) rfl (fun ls' hl' => ?_)
        have k := kk ls' (aAL_st1 hl')
        rw [h1] at k
        exact k
      · cases hg
    · split at hg
      · rename_i hk
        cases hg
        refine ⟨(ast1_len _ _ _).trans hn, fun H locs ls cells slots hl kk => ?_⟩
        rw [h0]
        refine lv_astore_nN hC.1 hC.2.1 hd rfl hl (by rw [← hn]; exact hk) rfl (fun ls' hl' => ?_)
        have k := kk ls' (aAL_st1 hl')
        rw [h1] at k
        exact k
      · cases hg
    · cases hg

theorem s_astore (hC : aC p s m args c cc nL own D cA ad bs n0 H0 X) {k : Nat} (hd : decode cc pc = .ok (.astore k, 2)) (h0 : pcs i = pc) (h1 : pcs (i + 1) = pc + 2) : aSim p l e R s m args below meth c Q nL D cA ad bs n0 z0 H0 pcs rv hf E (aP (gAst k)) i :=
  aSim_P fun loc st loc' st' hg hn => by
    unfold gAst at hg
    split at hg
    · split at hg
      · rename_i hk
        cases hg
        refine ⟨(ast1_len _ _ _).trans hn, fun H locs ls cells slots hl kk => ?_⟩
        rw [h0]
        refine lv_astore hC.1 hC.2.1 hd hl (by rw [← hn]; exact hk) rfl (fun ls' hl' => ?_)
        have k := kk ls' (aAL_st1 hl')
        rw [h1] at k
        exact k
      · cases hg
    · split at hg
      · rename_i hk
        cases hg
        refine ⟨(ast1_len _ _ _).trans hn, fun H locs ls cells slots hl kk => ?_⟩
        rw [h0]
        refine lv_astoreN hC.1 hC.2.1 hd hl (by rw [← hn]; exact hk) rfl (fun ls' hl' => ?_)
        have k := kk ls' (aAL_st1 hl')
        rw [h1] at k
        exact k
      · cases hg
    · cases hg

theorem s_lstore_n (hC : aC p s m args c cc nL own D cA ad bs n0 H0 X) {k : Fin 4} (hd : decode cc pc = .ok (.lstore_n k, 1)) (h0 : pcs i = pc) (h1 : pcs (i + 1) = pc + 1) : aSim p l e R s m args below meth c Q nL D cA ad bs n0 z0 H0 pcs rv hf E (aP (gLst k)) i :=
  aSim_P fun loc st loc' st' hg hn => by
    unfold gLst at hg
    split at hg
    · split at hg
      · rename_i hk
        cases hg
        refine ⟨(ast2_len _ _ _).trans hn, fun H locs ls cells slots hl kk => ?_⟩
        rw [h0]
        refine lv_lstore_n hC.1 hC.2.1 hd rfl hl (by rw [← hn]; exact hk) rfl (fun ls' hl' => ?_)
        have k := kk ls' (aAL_st2 hl')
        rw [h1] at k
        exact k
      · cases hg
    · cases hg

theorem s_lstore (hC : aC p s m args c cc nL own D cA ad bs n0 H0 X) {k : Nat} (hd : decode cc pc = .ok (.lstore k, 2)) (h0 : pcs i = pc) (h1 : pcs (i + 1) = pc + 2) : aSim p l e R s m args below meth c Q nL D cA ad bs n0 z0 H0 pcs rv hf E (aP (gLst k)) i :=
  aSim_P fun loc st loc' st' hg hn => by
    unfold gLst at hg
    split at hg
    · split at hg
      · rename_i hk
        cases hg
        refine ⟨(ast2_len _ _ _).trans hn, fun H locs ls cells slots hl kk => ?_⟩
        rw [h0]
        refine lv_lstore hC.1 hC.2.1 hd hl (by rw [← hn]; exact hk) rfl (fun ls' hl' => ?_)
        have k := kk ls' (aAL_st2 hl')
        rw [h1] at k
        exact k
      · cases hg
    · cases hg

theorem s_iinc (hC : aC p s m args c cc nL own D cA ad bs n0 H0 X) {k : Nat} {n : Int} (hd : decode cc pc = .ok (.iinc k n, 3)) (h0 : pcs i = pc) (h1 : pcs (i + 1) = pc + 3) : aSim p l e R s m args below meth c Q nL D cA ad bs n0 z0 H0 pcs rv hf E (aP (gInc k n)) i :=
  aSim_P fun loc st loc' st' hg hn => by
    unfold gInc at hg
    split at hg
    · rename_i x hx
      split at hg
      · rename_i hk
        cases hg
        refine ⟨(ast1_len _ _ _).trans hn, fun H locs ls cells slots hl kk => ?_⟩
        rw [h0]
        obtain ⟨q, hq⟩ := aAL_place (ad := ad) hx
        refine lv_iinc hC.1 hC.2.1 hd hl hq rfl (by rw [← hn]; exact hk) rfl (fun ls' hl' => ?_)
        have k := kk ls' (aAL_st1 hl')
        rw [h1] at k
        exact k
      · cases hg
    · cases hg

end SIM
