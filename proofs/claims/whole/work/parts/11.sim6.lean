/-! new arrays, copies, the small calls -/
theorem aRA_eq {s : State} {a b : ClassId} {ty : FieldType} (h1 : va_RA s a ty) (h2 : va_RA s b ty) : a = b := by
  cases ty with
  | object C =>
    obtain ⟨_, _, _, _, _, q1⟩ := h1
    obtain ⟨_, _, _, _, _, q2⟩ := h2
    exact Option.some.inj (q1.symm.trans q2)
  | _ => exact Option.some.inj (Eq.trans (Eq.symm h1) h2)
theorem acpy_cpy {f : Nat → Nat → Int32} {a b sp dp n : Nat} : acpy f a b sp dp n b = va_cpy (f a) (f b) sp dp n := by
  funext y
  simp [acpy, va_cpy]
theorem acpy_ne {f : Nat → Nat → Int32} {a b sp dp n x : Nat} (h : x ≠ b) : acpy f a b sp dp n x = f x := by
  funext y
  simp [acpy, h]
theorem awld_cpy {ad : Nat → Nat} {cA : Nat → ClassId} {h : aM} {a b n1 sp dp n : Nat} (hs : anth h.1.2.2 b = some (1, n1)) : (awld ad cA h).set b (ad b, .inl (cA 0, n1, .inl (va_cpy (h.2.1 a) (h.2.1 b) sp dp n))) = awld ad cA (h.1, acpy h.2.1 a b sp dp n, h.2.2) :=
  awld_upd rfl (fun y hy => ⟨rfl, acpy_ne hy, rfl, rfl⟩) ((acell_int (h := (h.1, acpy h.2.1 a b sp dp n, h.2.2)) hs).trans (by rw [← acpy_cpy]))
section SIM
variable {p : Program} {l : Launch} {e : Env} {R : Room} {s : State} {m : MethodId} {args : Array Value} {below : List Frame} {meth : Method} {c : Code} {Q : State → Prop} {cc : ByteArray} {nL : Nat} {own : String} {D : va_G} {cA : Nat → ClassId} {ad : Nat → Nat} {bs n0 z0 : Nat} {H0 : Heap} {pcs : Nat → Nat} {rv : Option Value} {hf : aM} {E : Nat → List Value → aM → Option Value → aM → Prop} {X : aXt × Value} {i pc : Nat}
theorem s_newarray (hC : aC p s m args c cc nL own D cA ad bs n0 H0 X) {atype : ArrayType} {tag t0 : Nat} {ty : FieldType} (hd : decode cc pc = .ok (.newarray atype, 2)) (h0 : pcs i = pc) (h1 : pcs (i + 1) = pc + 2) (hty : newarray.typeOf atype = ty) (htag : (tag = 1 ∧ ty = .int ∧ t0 = 0) ∨ (tag = 2 ∧ ty = .boolean ∧ t0 = 1)) (harr : Cond.arrayClass ty ∈ aBIG) : aSim p l e R s m args below meth c Q nL D cA ad bs n0 z0 H0 pcs rv hf E (aNar tag) i := by
  refine aSim_n (fun loc st h t hq => ?_) (fun loc st h x hq => by
    unfold aNar at hq
    dsimp only at hq
    split at hq
    · split at hq <;> cases hq
    · cases hq)
  unfold aNar at hq
  dsimp only at hq
  split at hq
  · rename_i n r
    split at hq
    · rename_i hcap
      cases hq
      refine ⟨⟨by show h.1.1 ≤ h.1.1 + 1; omega, by show h.1.2.1 ≤ h.1.2.1 + _; omega⟩, fun hrm kk H locs ls cells slots hR => ?_⟩
      dsimp only
      rw [h0]
      obtain ⟨r1, r2, r3, r4, r5, r6, r7, r8⟩ := hR
      dsimp only at r1 r2 r3 r4 r5 r6 r7 r8
      have hrm1 : h.1.1 + 1 ≤ n0 + R.cells := hrm.1
      have hrm2 : h.1.2.1 + n.toNatClampNeg ≤ z0 + R.slots := hrm.2
      have hdef : defaultValue ty = .int 0 := by rcases htag with ⟨-, rfl, -⟩ | ⟨-, rfl, -⟩ <;> rfl
      have hcb : componentBytes ty ≤ 4 := by rcases htag with ⟨-, rfl, -⟩ | ⟨-, rfl, -⟩ <;> decide
      have ht0 : (atys cA)[t0]? = some (cA t0, ty) := by rcases htag with ⟨-, rfl, rfl⟩ | ⟨-, rfl, rfl⟩ <;> rfl
      have hbytes : n.toNatClampNeg * componentBytes ty ≤ 536870912 := Nat.le_trans (Nat.mul_le_mul hcap.2.2 hcb) (by decide)
      refine va_newa hC.1 hC.2.1 (by rw [hty]; exact hC.2.2.2.2.1 _ harr) hty hC.2.2.2.2.2.1 r3 (awld_D hC.2.2.2.2.2.2.1 cA r6) r4 (fun q hq => by rw [hC.2.2.2.2.2.2.2.2.2.2] at hq; show bs ≤ q; omega) (a0 := (n.toNatClampNeg, .inl (fun _ => 0))) (fun cA' => by rw [hdef]; rfl) hcap.2.1 rfl hbytes (by omega) (by omega) hd (fun q cA' H1 gK g1 g2 g3 => ?_)
      have e1 : (atys cA ++ [(cA', ty)])[5]? = some (cA', ty) := rfl
      have e2 := aRA_eq (gK.2 5 _ e1).2 (hC.2.2.2.2.2.1.2 t0 _ ht0).2
      subst e2
      refine W_size (fun hsz => ?_)
      rw [hC.2.2.2.2.2.2.2.2.2.1, hC.2.2.2.2.2.2.2.2.2.2] at hsz
      have hq := anew_ad hC.2.2.2.2.2.2.1 hcap.1 g1 g2 (by omega)
      subst hq
      have hcell : acell ad cA (anew h (tag, n.toNatClampNeg) n.toNatClampNeg) h.1.1 = .inl (cA t0, n.toNatClampNeg, .inl (fun _ => 0)) := by
        rcases htag with ⟨rfl, -, rfl⟩ | ⟨rfl, -, rfl⟩
        · rw [acell_int (anew_sh r5)]
          show Sum.inl (cA 0, n.toNatClampNeg, Sum.inl (azero h.2.1 h.1.1 0 h.1.1)) = _
          rw [azero_eq]
        · rw [acell_boo (anew_sh r5)]
          show Sum.inl (cA 1, n.toNatClampNeg, Sum.inl (azero h.2.1 h.1.1 0 h.1.1)) = _
          rw [azero_eq]
      rw [awld_new r5 hcell] at g1
      have g := kk H1 locs ls (cells + 1) (slots + n.toNatClampNeg) ⟨r1, r2, g1, g3, by show h.1.1 + 1 = (h.1.2.2 ++ [(tag, n.toNatClampNeg)]).length; simp; exact r5, by show h.1.1 + 1 ≤ aCAP; omega, by show n0 + (cells + 1) = h.1.1 + 1; omega, by show z0 + (slots + n.toNatClampNeg) = h.1.2.1 + n.toNatClampNeg; omega⟩
      dsimp only at g
      rw [h1] at g
      exact g
    · cases hq
  · cases hq
theorem s_anewarray (hC : aC p s m args c cc nL own D cA ad bs n0 H0 X) {index t1 : Nat} {C : String} (hd : decode cc pc = .ok (.anewarray index, 3)) (h0 : pcs i = pc) (h1 : pcs (i + 1) = pc + 3) (hl : Cond.classLink own index C ∈ aBIG) (hover : va_AO C s) (ht0 : (atys cA)[t1 + 2]? = some (cA (t1 + 2), .object C)) : aSim p l e R s m args below meth c Q nL D cA ad bs n0 z0 H0 pcs rv hf E (aNar (t1 + 3)) i := by
  refine aSim_n (fun loc st h t hq => ?_) (fun loc st h x hq => by
    unfold aNar at hq
    dsimp only at hq
    split at hq
    · split at hq <;> cases hq
    · cases hq)
  unfold aNar at hq
  dsimp only at hq
  split at hq
  · rename_i n r
    split at hq
    · rename_i hcap
      cases hq
      refine ⟨⟨by show h.1.1 ≤ h.1.1 + 1; omega, by show h.1.2.1 ≤ h.1.2.1 + _; omega⟩, fun hrm kk H locs ls cells slots hR => ?_⟩
      dsimp only
      rw [h0]
      obtain ⟨r1, r2, r3, r4, r5, r6, r7, r8⟩ := hR
      dsimp only at r1 r2 r3 r4 r5 r6 r7 r8
      have hrm1 : h.1.1 + 1 ≤ n0 + R.cells := hrm.1
      have hrm2 : h.1.2.1 + n.toNatClampNeg ≤ z0 + R.slots := hrm.2
      refine va_newq hC.1 hC.2.1 hC.2.2.2.1 (hC.2.2.2.2.1 _ hl) hover hC.2.2.2.2.2.1 r3 (awld_D hC.2.2.2.2.2.2.1 cA r6) r4 (fun q hq => by rw [hC.2.2.2.2.2.2.2.2.2.2] at hq; show bs ≤ q; omega) hcap.2.1 rfl (Nat.le_trans (Nat.mul_le_mul hcap.2.2 (Nat.le_refl 4)) (by decide)) (by omega) (by omega) hd (fun q cA' H1 gK g1 g2 g3 => ?_)
      have e1 : (atys cA ++ [(cA', .object C)])[5]? = some (cA', .object C) := rfl
      have e2 := aRA_eq (gK.2 5 _ e1).2 (hC.2.2.2.2.2.1.2 _ _ ht0).2
      subst e2
      refine W_size (fun hsz => ?_)
      rw [hC.2.2.2.2.2.2.2.2.2.1, hC.2.2.2.2.2.2.2.2.2.2] at hsz
      have hq := anew_ad hC.2.2.2.2.2.2.1 hcap.1 g1 g2 (by omega)
      subst hq
      have hcell : acell ad cA (anew h (t1 + 3, n.toNatClampNeg) n.toNatClampNeg) h.1.1 = .inl (cA (t1 + 2), n.toNatClampNeg, .inr (.inr (.inr (.inr (fun _ => none))))) := by
        rw [acell_ref (anew_sh r5)]
        show Sum.inl (cA (t1 + 2), n.toNatClampNeg, Sum.inr (Sum.inr (Sum.inr (Sum.inr (fun j => (azero h.2.2.2 h.1.1 none h.1.1 j).map ad))))) = _
        rw [azero_eq]
        rfl
      rw [awld_new r5 hcell] at g1
      have g := kk H1 locs ls (cells + 1) (slots + n.toNatClampNeg) ⟨r1, r2, g1, g3, by show h.1.1 + 1 = (h.1.2.2 ++ [(t1 + 3, n.toNatClampNeg)]).length; simp; exact r5, by show h.1.1 + 1 ≤ aCAP; omega, by show n0 + (cells + 1) = h.1.1 + 1; omega, by show z0 + (slots + n.toNatClampNeg) = h.1.2.1 + n.toNatClampNeg; omega⟩
      dsimp only at g
      rw [h1] at g
      exact g
    · cases hq
  · cases hq
theorem s_arraycopy (hC : aC p s m args c cc nL own D cA ad bs n0 H0 X) (hRm : 16 ≤ R.frames ∧ 1000 ≤ R.locals) {index : Nat} (hd : decode cc pc = .ok (.invokestatic index, 3)) (h0 : pcs i = pc) (h1 : pcs (i + 1) = pc + 3) (hl : Cond.methodLink own index arraycopyName ∈ aBIG) (hw : Cond.native arraycopyName ∈ aBIG ∧ Cond.static arraycopyName ∈ aBIG ∧ Cond.initialized "java/lang/System" ∈ aBIG) : aSim p l e R s m args below meth c Q nL D cA ad bs n0 z0 H0 pcs rv hf E aCpy i := by
  refine aSim_n (fun loc st h t hq => ?_) (fun loc st h x hq => by
    unfold aCpy at hq
    dsimp only at hq
    split at hq
    · split at hq
      · split at hq <;> cases hq
      · cases hq
    · cases hq)
  unfold aCpy at hq
  dsimp only at hq
  split at hq
  · rename_i n dp b sp a r
    split at hq
    · rename_i nn0 nn1 hs0 hs1
      split at hq
      · rename_i hk
        cases hq
        obtain ⟨k1, k2, k3, k4, k5, k6, k7, k8⟩ := hk
        refine ⟨aLe.rf h, fun _ kk H locs ls cells slots hR => ?_⟩
        dsimp only
        rw [h0]
        have hnw : nativeFrameWords "java/lang/System" "arraycopy" 5 + 11 ≤ 900 := by decide +kernel
        refine va_copyi hC.1 hC.2.1 (by rw [hC.2.2.1, hR.1.1]) hC.2.2.2.1 (hC.2.2.2.2.1 _ hl) (hC.2.2.2.2.1 _ hw.1) (hC.2.2.2.2.1 _ hw.2.1) (hC.2.2.2.2.1 _ hw.2.2) hC.2.2.2.2.2.1 hR.2.2.1 (awld_D hC.2.2.2.2.2.2.1 cA hR.2.2.2.2.2.1) hR.2.2.2.1 a b 0 0 ((awld_get k1).trans (by rw [acell_int hs0])) ((awld_get k2).trans (by rw [acell_int hs1])) rfl rfl rfl k3 k4 k5 k6 k7 (fun _ _ => rfl) (by omega) (by rw [acv_sum]; omega) hd (fun H1 locs1 g1 g2 g3 => ?_)
        have g1 : va_P D vwCl (awld ad cA (h.1, acpy h.2.1 a b sp.toNatClampNeg dp.toNatClampNeg n.toNatClampNeg, h.2.2)) H1 := by rw [← awld_cpy hs1]; exact g1
        have g := kk H1 locs1 ls cells slots ⟨hR.1, hR.2.1, g1, g3, hR.2.2.2.2⟩
        dsimp only at g
        rw [h1] at g
        exact g
      · cases hq
    · cases hq
  · cases hq
theorem aSim_P2 {g : List (Option Value) → List Value → Option aLS} (hk : ∀ loc st loc' st', g loc st = some (loc', st') → loc.length = nL → loc'.length = nL ∧ ∀ (H : Heap) (locs : List Loc) (ls : Array Slot) (cells slots : Nat), cells ≤ R.cells → slots ≤ R.slots → lv_has ls nL (aAL ad 0 loc) → (∀ ls', lv_has ls' nL (aAL ad 0 loc') → W p l e R s m args below meth c H locs cells slots Q (F0 m (pcs (i + 1)) ls' (st'.map (acv ad)))) → W p l e R s m args below meth c H locs cells slots Q (F0 m (pcs i) ls (st.map (acv ad)))) : aSim p l e R s m args below meth c Q nL D cA ad bs n0 z0 H0 pcs rv hf E (aP g) i := by
  refine aSim_n (fun loc st h t hq => ?_) (fun loc st h x hq => ?_)
  · unfold aP at hq
    dsimp only at hq
    cases hg : g loc st with
    | none => rw [hg] at hq; cases hq
    | some q =>
      rw [hg] at hq
      cases hq
      refine ⟨aLe.rf h, fun hrm kk H locs ls cells slots hR => ?_⟩
      obtain ⟨r1, r2, r3, r4, r5, r6, r7, r8⟩ := hR
      have q1 : h.1.1 ≤ n0 + R.cells := hrm.1
      have q2 : h.1.2.1 ≤ z0 + R.slots := hrm.2
      have q3 : n0 + cells = h.1.1 := r7
      have q4 : z0 + slots = h.1.2.1 := r8
      obtain ⟨h1, h2⟩ := hk loc st q.1 q.2 hg r2
      exact h2 H locs ls cells slots (by omega) (by omega) r1 (fun ls' hl' => kk H locs ls' cells slots ⟨hl', h1, r3, r4, r5, r6, r7, r8⟩)
  · unfold aP at hq
    dsimp only at hq
    cases hg : g loc st with
    | none => rw [hg] at hq; cases hq
    | some q => rw [hg] at hq; cases hq
theorem s_objinit (hC : aC p s m args c cc nL own D cA ad bs n0 H0 X) (hRm : 16 ≤ R.frames ∧ 1000 ≤ R.locals) {index : Nat} (hd : decode cc pc = .ok (.invokespecial index, 3)) (h0 : pcs i = pc) (h1 : pcs (i + 1) = pc + 3) (hl : Cond.methodLink own index Lib.objectInit ∈ aBIG) (hw : Cond.instanceMethod Lib.objectInit ∈ aBIG ∧ Cond.code Lib.objectInit ⟨#[0xb1]⟩ 1 none ∈ aBIG) : aSim p l e R s m args below meth c Q nL D cA ad bs n0 z0 H0 pcs rv hf E (aP gObj) i :=
  aSim_P fun loc st loc' st' hg hn => by
    unfold gObj at hg
    split at hg
    · split at hg
      · rename_i hk
        cases hg
        refine ⟨hn, fun H locs ls cells slots hl2 kk => ?_⟩
        have k := kk ls hl2
        rw [h1] at k
        rw [h0]
        refine W.objInit hC.1 hC.2.1 hC.2.2.2.1 (hC.2.2.2.2.1 _ hl) (hC.2.2.2.2.1 _ hw.1) (hC.2.2.2.2.1 _ hw.2) rfl (by rw [hC.2.2.1]; exact hl2.1) rfl hd (by omega) (by rw [acv_sum]; show 2 * 0 + asum _ + 12 ≤ _; omega) k
      · cases hg
    · cases hg
theorem s_max (hC : aC p s m args c cc nL own D cA ad bs n0 H0 X) (hRm : 16 ≤ R.frames ∧ 1000 ≤ R.locals) {index : Nat} (hd : decode cc pc = .ok (.invokestatic index, 3)) (h0 : pcs i = pc) (h1 : pcs (i + 1) = pc + 3) (hl : Cond.methodLink own index Lib.Math.max.name ∈ aBIG) (hw : Cond.static Lib.Math.max.name ∈ aBIG ∧ Cond.initialized "java/lang/Math" ∈ aBIG ∧ Cond.code Lib.Math.max.name Lib.Math.max.code 2 (some .int) ∈ aBIG) : aSim p l e R s m args below meth c Q nL D cA ad bs n0 z0 H0 pcs rv hf E (aP (gM2 fmax)) i :=
  aSim_P2 fun loc st loc' st' hg hn => by
    unfold gM2 at hg
    split at hg
    · split at hg
      · rename_i hk
        cases hg
        refine ⟨hn, fun H locs ls cells slots hc1 hc2 hl2 kk => ?_⟩
        have k := kk ls hl2
        rw [h1] at k
        rw [h0]
        exact va_mmax hC.1 hC.2.1 (by rw [hC.2.2.1, hl2.1]) hC.2.2.2.1 (hC.2.2.2.2.1 _ hl) (hC.2.2.2.2.1 _ hw.1) (hC.2.2.2.2.1 _ hw.2.1) (hC.2.2.2.2.1 _ hw.2.2) (by omega) (by rw [acv_sum]; omega) hc1 hc2 hd k
      · cases hg
    · cases hg
theorem s_min (hC : aC p s m args c cc nL own D cA ad bs n0 H0 X) (hRm : 16 ≤ R.frames ∧ 1000 ≤ R.locals) {index : Nat} (hd : decode cc pc = .ok (.invokestatic index, 3)) (h0 : pcs i = pc) (h1 : pcs (i + 1) = pc + 3) (hl : Cond.methodLink own index Lib.Math.min.name ∈ aBIG) (hw : Cond.static Lib.Math.min.name ∈ aBIG ∧ Cond.initialized "java/lang/Math" ∈ aBIG ∧ Cond.code Lib.Math.min.name Lib.Math.min.code 2 (some .int) ∈ aBIG) : aSim p l e R s m args below meth c Q nL D cA ad bs n0 z0 H0 pcs rv hf E (aP (gM2 fmin)) i :=
  aSim_P2 fun loc st loc' st' hg hn => by
    unfold gM2 at hg
    split at hg
    · split at hg
      · rename_i hk
        cases hg
        refine ⟨hn, fun H locs ls cells slots hc1 hc2 hl2 kk => ?_⟩
        have k := kk ls hl2
        rw [h1] at k
        rw [h0]
        exact va_mmin hC.1 hC.2.1 (by rw [hC.2.2.1, hl2.1]) hC.2.2.2.1 (hC.2.2.2.2.1 _ hl) (hC.2.2.2.2.1 _ hw.1) (hC.2.2.2.2.1 _ hw.2.1) (hC.2.2.2.2.1 _ hw.2.2) (by omega) (by rw [acv_sum]; omega) hc1 hc2 hd k
      · cases hg
    · cases hg
end SIM
