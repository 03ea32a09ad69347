/-! calls of nest mates, ends, texts, static fields -/
def gSV : List (Option Value) → List Value → Option aLS := fun loc st => match st with
  | .ref q :: r => if aSTR ≤ q ∧ q - aSTR < 13 then some (loc, .ref (aVAL + (q - aSTR)) :: r) else none
  | _ => none
def gSC : List (Option Value) → List Value → Option aLS := fun loc st => match st with
  | .ref q :: r => if aSTR ≤ q ∧ q - aSTR < 13 then some (loc, .int 0 :: r) else none
  | _ => none
def gBL : List (Option Value) → List Value → Option aLS := fun loc st => match st with
  | .ref q :: r => if aVAL ≤ q ∧ q - aVAL < 13 then some (loc, .int (Int32.ofNat (alen.getD (q - aVAL) 0)) :: r) else none
  | _ => none
def gBA : List (Option Value) → List Value → Option aLS := fun loc st => match st with
  | .int j :: .ref q :: r => if aVAL ≤ q ∧ q - aVAL < 13 ∧ aixn j (alen.getD (q - aVAL) 0) = true then some (loc, .int ((abyt.getD (q - aVAL) []).getD j.toNatClampNeg 0) :: r) else none
  | _ => none
def fi2c (x : Int32) : Int32 := (x.toUInt32 % 65536).toInt32
/-- a call with a constant text as receiver -/
def aCalT (mid n : Nat) : aOp := fun s => match aCal mid n none s with
  | some (.inr (.inr (mid', .ref q :: as, t))) => if aSTR ≤ q ∧ q - aSTR < 13 then some (.inr (.inr (mid', .ref q :: as, t))) else none
  | _ => none
/-- what isn't reached -/
def aBad : aOp := fun _ => none
section SIM
variable {p : Program} {l : Launch} {e : Env} {R : Room} {s : State} {m : MethodId} {args : Array Value} {below : List Frame} {meth : Method} {c : Code} {Q : State → Prop} {cc : ByteArray} {nL : Nat} {own : String} {D : va_G} {cA : Nat → ClassId} {ad : Nat → Nat} {bs n0 z0 : Nat} {H0 : Heap} {pcs : Nat → Nat} {rv : Option Value} {hf : aM} {E : Nat → List Value → aM → Option Value → aM → Prop} {X : aXt × Value} {i pc : Nat}
theorem s_callSN (hC : aC p s m args c cc nL own D cA ad bs n0 H0 X) {d mid n index maxL : Nat} {y : MethodName} {host : String} {cc' : ByteArray} {ret : Option FieldType} (hd : decode cc pc = .ok (.invokestatic index, 3)) (h0 : pcs i = pc) (h1 : pcs (i + 1) = pc + 3) (hE : ∀ as h v h1, E mid as h v h1 → aMet l D cA ad bs X d y cc' maxL ret as h v h1) (hF : aFit R d maxL) (hc : Cond.code y cc' maxL ret ∈ aBIG) (hl : va_Nw (.methodLinkNest own index y host) s) (hs : Cond.static y ∈ aBIG) (hini : Cond.initialized y.cls ∈ aBIG) (hy : y.cls ≠ "java/lang/invoke/MethodHandle" ∧ y.cls ≠ "java/lang/invoke/VarHandle" ∧ (parseMethodDescriptor y.desc).map (fun d => d.parameters.length) = some n) : aSim p l e R s m args below meth c Q nL D cA ad bs n0 z0 H0 pcs rv hf E (aCal mid n none) i :=
  aSim_cal fun loc as r h hn hr hv v h1' hE' hle hrm H locs ls cells slots hR hc1 hc2 kk => by
    refine a_size hC hR (fun hz => ?_)
    rw [h0]
    rw [h1] at kk
    refine a_call (va_runSN (As := as.map (acv ad)) (rest := r.map (acv ad)) ⟨hC.1, hC.2.1, hC.2.2.1, hC.2.2.2.1, hC.2.2.2.2.1⟩ (hE _ _ _ _ hE') ⟨va_cnB n hC.2.2.2.2.1 (aWs_good hc) rfl rfl rfl hl (hC.2.2.2.2.1 _ hini) hy ⟨by show d + 16 + 1 ≤ _; have := hF.1; omega, hF.2⟩, hC.2.2.2.2.1 _ hs, trivial⟩ ⟨aPc_blind, a_pre hC hR hz as⟩ rfl (by rw [List.length_map]; exact hn) hR.1.1 (by simp) (lv_room (by rw [acv_sum]; exact hr)) hd ⟨hc1, hc2⟩) hR.2.2.2.1 kk
theorem s_callVN (hC : aC p s m args c cc nL own D cA ad bs n0 H0 X) {d mid n ci index maxL N : Nat} {C host : String} {T : u_T} {y : MethodName} {cc' : ByteArray} {ret : Option FieldType} (hd : decode cc pc = .ok (.invokevirtual index, 3)) (h0 : pcs i = pc) (h1 : pcs (i + 1) = pc + 3) (hE : ∀ as h v h1, E mid as h v h1 → aMet l D cA ad bs X d y cc' maxL ret as h v h1) (hF : aFit R d maxL) (hc : Cond.code y cc' maxL ret ∈ aBIG) (hl : va_Nw (.methodLinkNest own index y host) s) (hi : Cond.instanceMethod y ∈ aBIG) (hs : Cond.selects C y y ∈ aBIG) (hini : Cond.initialized y.cls ∈ aBIG) (hcl : vwCl[ci]? = some (C, T, N)) (hy : y.cls ≠ "java/lang/invoke/MethodHandle" ∧ y.cls ≠ "java/lang/invoke/VarHandle" ∧ (parseMethodDescriptor y.desc).map (fun d => d.parameters.length) = some n) : aSim p l e R s m args below meth c Q nL D cA ad bs n0 z0 H0 pcs rv hf E (aCal mid (n + 1) (some ci)) i :=
  aSim_cal fun loc as r h hn hr hv v h1' hE' hle hrm H locs ls cells slots hR hc1 hc2 kk => by
    cases as with
    | nil => cases hv
    | cons w As =>
      cases w with
      | ref b =>
        simp only [arcv, Bool.and_eq_true, decide_eq_true_eq] at hv
        refine a_size hC hR (fun hz => ?_)
        rw [h0]
        rw [h1] at kk
        refine a_call (va_runVN (As := As.map (acv ad)) (rest := r.map (acv ad)) ⟨hC.1, hC.2.1, hC.2.2.1, hC.2.2.2.1, hC.2.2.2.2.1⟩ (hE _ _ _ _ hE') ⟨va_cnB n hC.2.2.2.2.1 (aWs_good hc) rfl rfl rfl hl (hC.2.2.2.2.1 _ hini) hy ⟨by show d + 16 + 1 ≤ _; have := hF.1; omega, hF.2⟩, hC.2.2.2.2.1 _ hi, hC.2.2.2.2.1 _ hs⟩ ⟨aPc_blind, va_recv hC.2.2.2.2.2.1 hR.2.2.1 hcl ((awld_get hv.1).trans (by rw [acell_obj hv.2])), a_pre hC hR hz (.ref b :: As)⟩ rfl (by rw [List.length_map]; simpa using hn) hR.1.1 (by simp [acv]) (lv_room (by rw [acv_sum]; exact hr)) hd ⟨hc1, hc2⟩) hR.2.2.2.1 kk
      | _ => cases hv
theorem s_callT (hC : aC p s m args c cc nL own D cA ad bs n0 H0 X) {d mid n index maxL : Nat} {y : MethodName} {cc' : ByteArray} {ret : Option FieldType} (hH0 : s.heap = H0) (hd : decode cc pc = .ok (.invokevirtual index, 3)) (h0 : pcs i = pc) (h1 : pcs (i + 1) = pc + 3) (hE : ∀ as h v h1, E mid as h v h1 → aMet l D cA ad bs X d y cc' maxL ret as h v h1) (hF : aFit R d maxL) (hc : Cond.code y cc' maxL ret ∈ aBIG) (hl : Cond.methodLink own index y ∈ aBIG) (hi : Cond.instanceMethod y ∈ aBIG) (hs : Cond.selects RJ0 y y ∈ aBIG) (hini : Cond.initialized RJ0 ∈ aBIG) (hy : y.cls = RJ0 ∧ y.cls ≠ "java/lang/invoke/MethodHandle" ∧ y.cls ≠ "java/lang/invoke/VarHandle" ∧ (parseMethodDescriptor y.desc).map (fun d => d.parameters.length) = some n) : aSim p l e R s m args below meth c Q nL D cA ad bs n0 z0 H0 pcs rv hf E (aCalT mid (n + 1)) i := by
  subst hH0
  have key : ∀ loc st h x, aCalT mid (n + 1) (i, loc, st, h) = some x → ∃ q As r, st = (Value.ref q :: As).reverse ++ r ∧ (Value.ref q :: As).length = n + 1 ∧ asum r ≤ 8 ∧ aSTR ≤ q ∧ q - aSTR < 13 ∧ x = .inr (.inr (mid, .ref q :: As, (i + 1, loc, r, h))) := by
    intro loc st h x hq
    unfold aCalT at hq
    cases hx : aCal mid (n + 1) none (i, loc, st, h) with
    | none => rw [hx] at hq; cases hq
    | some x' =>
      obtain ⟨as, r, rfl, hn, hr, -, rfl⟩ := aCal_of hx
      rw [hx] at hq
      cases as with
      | nil => cases hq
      | cons w As =>
        cases w with
        | ref q =>
          dsimp only at hq
          split at hq
          · rename_i hk
            cases hq
            exact ⟨q, As, r, rfl, hn, hr, hk.1, hk.2, rfl⟩
          · cases hq
        | _ => cases hq
  refine fun loc st h => ⟨fun t q => ?_, fun v h1 q => ?_, fun mid' as' t q => ?_⟩
  · obtain ⟨_, _, _, -, -, -, -, -, hx⟩ := key _ _ _ _ q
    cases hx
  · obtain ⟨_, _, _, -, -, -, -, -, hx⟩ := key _ _ _ _ q
    cases hx
  · obtain ⟨b, As, r, rfl, hn, hr, hb1, hb2, hx⟩ := key _ _ _ _ q
    cases hx
    refine ⟨rfl, fun v h2 hE' hrm hle kk H locs ls cells slots hR => ?_⟩
    have q1 : h2.1.1 ≤ n0 + R.cells := hrm.1
    have q2 : h2.1.2.1 ≤ z0 + R.slots := hrm.2
    have q3 : h.1.1 ≤ h2.1.1 := hle.1
    have q4 : h.1.2.1 ≤ h2.1.2.1 := hle.2
    have q5 : n0 + cells = h.1.1 := hR.2.2.2.2.2.2.1
    have q6 : z0 + slots = h.1.2.1 := hR.2.2.2.2.2.2.2
    have hrc : ∃ cell : Cell, H[ad b]? = some cell ∧ cell.vm.isStatics = false ∧ s.vm.findClass RJ0 = some cell.cls := by
      have g := vk_recv (i := b - aSTR) hC.2.2.2.2.2.2.2.2.1.2.1 hb2 hR.2.2.2.1
      rw [show aSTR + (b - aSTR) = b by omega] at g
      exact g
    refine a_size hC hR (fun hz => ?_)
    dsimp only
    rw [h0]
    refine a_call (va_runV (As := As.map (acv ad)) (rest := r.map (acv ad)) ⟨hC.1, hC.2.1, hC.2.2.1, hC.2.2.2.1, hC.2.2.2.2.1⟩ (hE _ _ _ _ hE') (cwV n hC.2.2.2.2.1 (aV_good hc hl hi hs hini) rfl rfl rfl hy ⟨by show d + 16 + 1 ≤ _; have := hF.1; omega, hF.2⟩) ⟨aPc_blind, hrc, a_pre hC hR hz (.ref b :: As)⟩ rfl (by rw [List.length_map]; simpa using hn) hR.1.1 (by simp [acv]) (lv_room (by rw [acv_sum]; exact hr)) hd ⟨by omega, by omega⟩) hR.2.2.2.1 (fun H1 locs1 g1 g2 g3 => ?_)
    have g := kk H1 locs1 ls (cells + (h2.1.1 - h.1.1)) (slots + (h2.1.2.1 - h.1.2.1)) ⟨hR.1, hR.2.1, g1, g3, g2.1, g2.2, by show n0 + (cells + (h2.1.1 - h.1.1)) = h2.1.1; omega, by show z0 + (slots + (h2.1.2.1 - h.1.2.1)) = h2.1.2.1; omega⟩
    have h1' : pcs (apush (i + 1, loc, r, h) v h2).1 = pc + 3 := h1
    rw [h1'] at g
    cases v with
    | none => exact g
    | some x => exact g
/-- the ends -/
theorem aSim_ret {f : aOp} (hk : ∀ loc st h x, f (i, loc, st, h) = some x → ∃ v, x = .inr (.inl (v, h)) ∧ (v = rv → h = hf → ∀ (H : Heap) (locs : List Loc) (ls : Array Slot) (cells slots : Nat), aRel ad cA D bs nL n0 z0 H0 (i, loc, st, h) H locs ls cells slots → W p l e R s m args below meth c H locs cells slots Q (F0 m (pcs i) ls (st.map (acv ad))))) : aSim p l e R s m args below meth c Q nL D cA ad bs n0 z0 H0 pcs rv hf E f i := by
  refine fun loc st h => ⟨fun t q => ?_, fun v h1 q => ?_, fun mid as t q => ?_⟩
  · obtain ⟨v, hx, -⟩ := hk _ _ _ _ q
    cases hx
  · obtain ⟨v', hx, k⟩ := hk _ _ _ _ q
    cases hx
    exact ⟨rfl, fun e1 e2 H locs ls cells slots hR => k e1 e2 H locs ls cells slots hR⟩
  · obtain ⟨v, hx, -⟩ := hk _ _ _ _ q
    cases hx
/-- what stands at the end of a method's body -/
def aEnd (below : List Frame) (s : State) (args : Array Value) (D : va_G) (cA : Nat → ClassId) (ad : Nat → Nat) (bs n0 z0 : Nat) (rv : Option Value) (hf : aM) : State → Prop := MQ below (aQc D cA ad bs rv hf) args s (hf.1.1 - n0) (hf.1.2.1 - z0) (aA bs)
theorem a_qc {H : Heap} {locs : List Loc} {ls : Array Slot} {cells slots : Nat} {loc : List (Option Value)} {st : List Value} {v : Option Value} (hC : aC p s m args c cc nL own D cA ad bs n0 H0 X) (hv : v = rv) (hR : aRel ad cA D bs nL n0 z0 H0 (i, loc, st, hf) H locs ls cells slots) : ∀ t : State, t.heap = H → s.WarmedH t.vm → aQc D cA ad bs rv hf args s (.returned (v.map (acv ad))) t := by
  intro t ht hW
  subst hv
  obtain ⟨r1, r2, r3, r4, r5, r6, r7, r8⟩ := hR
  rw [← hC.2.2.2.2.2.2.2.2.2.1] at r4
  exact ⟨rfl, by rw [ht]; exact r3, ⟨r5, r6⟩, r4.F ht⟩
theorem s_iret (hC : aC p s m args c cc nL own D cA ad bs n0 H0 X) {q : Value → Bool} {ty : FieldType} (hd : decode cc pc = .ok (.ireturn, 1)) (h0 : pcs i = pc) (hr : meth.sig.returnType = some ty) (hlk : meth.locks = false) (hqi : ∀ v, q v = true → ∃ x, v = .int x ∧ narrow ty (.int x) = .int x) : aSim p l e R s m args below meth c (aEnd below s args D cA ad bs n0 z0 rv hf) nL D cA ad bs n0 z0 H0 pcs rv hf E (aRet q) i :=
  aSim_ret fun loc st h x hx => by
    unfold aRet at hx
    dsimp only at hx
    split at hx
    · rename_i v
      split at hx
      · rename_i hv
        cases hx
        obtain ⟨z, rfl, hz⟩ := hqi v hv
        refine ⟨_, rfl, fun e1 e2 H locs ls cells slots hR => ?_⟩
        subst e2
        have q7 : n0 + cells = h.1.1 := hR.2.2.2.2.2.2.1
        have q8 : z0 + slots = h.1.2.1 := hR.2.2.2.2.2.2.2
        unfold aEnd
        rw [show h.1.1 - n0 = cells by omega, show h.1.2.1 - z0 = slots by omega, h0]
        exact W.zret hC.1 hC.2.1 hr hz (a_qc hC e1 hR) hR.2.2.2.1.2.2 hd hlk
      · cases hx
    · cases hx
theorem s_lret (hC : aC p s m args c cc nL own D cA ad bs n0 H0 X) (hd : decode cc pc = .ok (.lreturn, 1)) (h0 : pcs i = pc) (hr : meth.sig.returnType = some .long) (hlk : meth.locks = false) : aSim p l e R s m args below meth c (aEnd below s args D cA ad bs n0 z0 rv hf) nL D cA ad bs n0 z0 H0 pcs rv hf E (aRet qL) i :=
  aSim_ret fun loc st h x hx => by
    unfold aRet at hx
    dsimp only at hx
    split at hx
    · rename_i v
      split at hx
      · rename_i hv
        cases hx
        cases v with
        | long z =>
          refine ⟨_, rfl, fun e1 e2 H locs ls cells slots hR => ?_⟩
          subst e2
          have q7 : n0 + cells = h.1.1 := hR.2.2.2.2.2.2.1
          have q8 : z0 + slots = h.1.2.1 := hR.2.2.2.2.2.2.2
          unfold aEnd
          rw [show h.1.1 - n0 = cells by omega, show h.1.2.1 - z0 = slots by omega, h0]
          exact W.lret hC.1 hC.2.1 hr (a_qc hC e1 hR) hR.2.2.2.1.2.2 hd hlk
        | _ => cases hv
      · cases hx
    · cases hx
theorem s_aret (hC : aC p s m args c cc nL own D cA ad bs n0 H0 X) {rt : FieldType} (hd : decode cc pc = .ok (.areturn, 1)) (h0 : pcs i = pc) (hr : meth.sig.returnType = some rt) (hrt : (∃ n, rt = .object n) ∨ ∃ t, rt = .array t) (hlk : meth.locks = false) : aSim p l e R s m args below meth c (aEnd below s args D cA ad bs n0 z0 rv hf) nL D cA ad bs n0 z0 H0 pcs rv hf E (aRet qA) i :=
  aSim_ret fun loc st h x hx => by
    unfold aRet at hx
    dsimp only at hx
    split at hx
    · rename_i v
      split at hx
      · rename_i hv
        cases hx
        refine ⟨_, rfl, fun e1 e2 H locs ls cells slots hR => ?_⟩
        subst e2
        have q7 : n0 + cells = h.1.1 := hR.2.2.2.2.2.2.1
        have q8 : z0 + slots = h.1.2.1 := hR.2.2.2.2.2.2.2
        unfold aEnd
        rw [show h.1.1 - n0 = cells by omega, show h.1.2.1 - z0 = slots by omega, h0]
        refine W.aret hC.1 hC.2.1 hr hrt ?_ (a_qc hC e1 hR) hR.2.2.2.1.2.2 hd hlk
        cases v with
        | ref k => exact Or.inr ⟨_, rfl⟩
        | null => exact Or.inl rfl
        | _ => cases hv
      · cases hx
    · cases hx
theorem s_vret (hC : aC p s m args c cc nL own D cA ad bs n0 H0 X) (hd : decode cc pc = .ok (.return_, 1)) (h0 : pcs i = pc) (hr : meth.sig.returnType = none) (hlk : meth.locks = false) : aSim p l e R s m args below meth c (aEnd below s args D cA ad bs n0 z0 rv hf) nL D cA ad bs n0 z0 H0 pcs rv hf E aRv i :=
  aSim_ret fun loc st h x hx => by
    unfold aRv at hx
    dsimp only at hx
    split at hx
    · cases hx
      refine ⟨_, rfl, fun e1 e2 H locs ls cells slots hR => ?_⟩
      subst e2
      have q7 : n0 + cells = h.1.1 := hR.2.2.2.2.2.2.1
      have q8 : z0 + slots = h.1.2.1 := hR.2.2.2.2.2.2.2
      unfold aEnd
      rw [show h.1.1 - n0 = cells by omega, show h.1.2.1 - z0 = slots by omega, h0]
      exact W.vret hC.1 hC.2.1 hr (a_qc (v := none) hC e1 hR) hR.2.2.2.1.2.2 hd hlk
    · cases hx
/-- static fields, constant texts -/
theorem aSim_P3 {g : List (Option Value) → List Value → Option aLS} (hk : ∀ loc st loc' st', g loc st = some (loc', st') → loc.length = nL → loc'.length = nL ∧ ∀ (H : Heap) (locs : List Loc) (ls : Array Slot) (cells slots : Nat), va_S (aA bs) H0 H locs → lv_has ls nL (aAL ad 0 loc) → (∀ ls', lv_has ls' nL (aAL ad 0 loc') → W p l e R s m args below meth c H locs cells slots Q (F0 m (pcs (i + 1)) ls' (st'.map (acv ad)))) → W p l e R s m args below meth c H locs cells slots Q (F0 m (pcs i) ls (st.map (acv ad)))) : aSim p l e R s m args below meth c Q nL D cA ad bs n0 z0 H0 pcs rv hf E (aP g) i := by
  refine aSim_n (fun loc st h t hq => ?_) (fun loc st h x hq => ?_)
  · unfold aP at hq
    dsimp only at hq
    cases hg : g loc st with
    | none => rw [hg] at hq; cases hq
    | some q =>
      rw [hg] at hq
      cases hq
      refine ⟨aLe.rf h, fun hrm kk H locs ls cells slots hR => ?_⟩
      obtain ⟨r1, r2, r3, r4, r5⟩ := hR
      obtain ⟨h1, h2⟩ := hk loc st q.1 q.2 hg r2
      exact h2 H locs ls cells slots r4 r1 (fun ls' hl' => kk H locs ls' cells slots ⟨hl', h1, r3, r4, r5⟩)
  · unfold aP at hq
    dsimp only at hq
    cases hg : g loc st with
    | none => rw [hg] at hq; cases hq
    | some q => rw [hg] at hq; cases hq
theorem s_gets (hC : aC p s m args c cc nL own D cA ad bs n0 H0 X) {C n d : String} {v : Value} {index : Nat} (hd : decode cc pc = .ok (.getstatic index, 3)) (h0 : pcs i = pc) (h1 : pcs (i + 1) = pc + 3) (hZ : va_Z C n d (acv ad v) (aA bs) s H0) (hl : Cond.fieldLink own index C n d ∈ aBIG) : aSim p l e R s m args below meth c Q nL D cA ad bs n0 z0 H0 pcs rv hf E (aP (gC v)) i :=
  aSim_P3 fun loc st loc' st' hg hn => by
    cases hg
    refine ⟨hn, fun H locs ls cells slots hS hl2 kk => ?_⟩
    have k := kk ls hl2
    rw [h1] at k
    rw [h0]
    rw [← hC.2.2.2.2.2.2.2.2.2.1] at hZ hS
    exact va_gets hC.1 hC.2.1 hZ hS hC.2.2.2.1 (hC.2.2.2.2.1 _ hl) (fun _ q => q) hd k
theorem s_getsN (hC : aC p s m args c cc nL own D cA ad bs n0 H0 X) {C n d host : String} {v : Value} {index : Nat} (hd : decode cc pc = .ok (.getstatic index, 3)) (h0 : pcs i = pc) (h1 : pcs (i + 1) = pc + 3) (hZ : va_Z C n d (acv ad v) (aA bs) s H0) (hl : va_Nw (.fieldLinkNest own index C n d host) s) : aSim p l e R s m args below meth c Q nL D cA ad bs n0 z0 H0 pcs rv hf E (aP (gC v)) i :=
  aSim_P3 fun loc st loc' st' hg hn => by
    cases hg
    refine ⟨hn, fun H locs ls cells slots hS hl2 kk => ?_⟩
    have k := kk ls hl2
    rw [h1] at k
    rw [h0]
    rw [← hC.2.2.2.2.2.2.2.2.2.1] at hZ hS
    exact va_getsN hC.1 hC.2.1 hZ hS hC.2.2.2.1 (va_Nw.use rfl hl) (fun _ q => q) hd k
theorem s_bad {f : aOp} (hf' : f = fun _ => none) : aSim p l e R s m args below meth c Q nL D cA ad bs n0 z0 H0 pcs rv hf E f i := by
  subst hf'
  exact fun loc st h => ⟨fun t q => (by cases q), fun v h1 q => (by cases q), fun mid as t q => (by cases q)⟩
theorem s_ldcS (hC : aC p s m args c cc nL own D cA ad bs n0 H0 X) {k index : Nat} {tx : String} (hd : decode cc pc = .ok (.ldc index, 2)) (h0 : pcs i = pc) (h1 : pcs (i + 1) = pc + 2) (hk : k < 13) (hq : atxs[k]? = some (own, index, tx)) : aSim p l e R s m args below meth c Q nL D cA ad bs n0 z0 H0 pcs rv hf E (aP (gC (.ref (aSTR + k)))) i :=
  aSim_P3 fun loc st loc' st' hg hn => by
    cases hg
    refine ⟨hn, fun H locs ls cells slots hS hl2 kk => ?_⟩
    have k' := kk ls hl2
    rw [h1] at k'
    rw [h0]
    exact va_ldcS hC.1 hC.2.1 hC.2.2.2.1 (hC.2.2.2.2.2.2.2.2.1.2.2.1 k hk _ hq) hd k'
theorem s_sval (hC : aC p s m args c cc nL own D cA ad bs n0 H0 X) {index : Nat} (hd : decode cc pc = .ok (.getfield index, 3)) (h0 : pcs i = pc) (h1 : pcs (i + 1) = pc + 3) (hl : Cond.fieldLink own index "java/lang/String" "value" "[B" ∈ aBIG) : aSim p l e R s m args below meth c Q nL D cA ad bs n0 z0 H0 pcs rv hf E (aP gSV) i :=
  aSim_P3 fun loc st loc' st' hg hn => by
    unfold gSV at hg
    split at hg
    · split at hg
      · rename_i q r hk
        cases hg
        refine ⟨hn, fun H locs ls cells slots hS hl2 kk => ?_⟩
        have k := kk ls hl2
        rw [h1] at k
        rw [h0]
        have hE := (hC.2.2.2.2.2.2.2.2.1.2.1.1 _ hk.2).2.2.1
        dsimp only at hE
        rw [show aSTR + (q - aSTR) = q by omega] at hE
        rw [← hC.2.2.2.2.2.2.2.2.2.1] at hE hS
        exact vk_getf hC.1 hC.2.1 hE hS hC.2.2.2.1 (hC.2.2.2.2.1 _ hl) (fun _ q => q) hd k
      · cases hg
    · cases hg
theorem s_scod (hC : aC p s m args c cc nL own D cA ad bs n0 H0 X) {index : Nat} (hd : decode cc pc = .ok (.getfield index, 3)) (h0 : pcs i = pc) (h1 : pcs (i + 1) = pc + 3) (hl : Cond.fieldLink own index "java/lang/String" "coder" "B" ∈ aBIG) : aSim p l e R s m args below meth c Q nL D cA ad bs n0 z0 H0 pcs rv hf E (aP gSC) i :=
  aSim_P3 fun loc st loc' st' hg hn => by
    unfold gSC at hg
    split at hg
    · split at hg
      · rename_i q r hk
        cases hg
        refine ⟨hn, fun H locs ls cells slots hS hl2 kk => ?_⟩
        have k := kk ls hl2
        rw [h1] at k
        rw [h0]
        have hE := (hC.2.2.2.2.2.2.2.2.1.2.1.1 _ hk.2).2.1
        dsimp only at hE
        rw [show aSTR + (q - aSTR) = q by omega] at hE
        rw [← hC.2.2.2.2.2.2.2.2.2.1] at hE hS
        exact vk_getf hC.1 hC.2.1 hE hS hC.2.2.2.1 (hC.2.2.2.2.1 _ hl) (fun _ q => q) hd k
      · cases hg
    · cases hg
theorem s_blen (hC : aC p s m args c cc nL own D cA ad bs n0 H0 X) (hd : decode cc pc = .ok (.arraylength, 1)) (h0 : pcs i = pc) (h1 : pcs (i + 1) = pc + 1) : aSim p l e R s m args below meth c Q nL D cA ad bs n0 z0 H0 pcs rv hf E (aP gBL) i :=
  aSim_P3 fun loc st loc' st' hg hn => by
    unfold gBL at hg
    split at hg
    · split at hg
      · rename_i q r hk
        cases hg
        refine ⟨hn, fun H locs ls cells slots hS hl2 kk => ?_⟩
        have k := kk ls hl2
        rw [h1] at k
        rw [h0]
        obtain ⟨cell, c1, c2, c3, c4, c5, c6, c7⟩ := (hC.2.2.2.2.2.2.2.2.1.2.1.1 _ hk.2).2.2.2
        dsimp only at c1 c7
        rw [show aVAL + (q - aVAL) = q by omega] at c1 c7
        have hlt := (Array.getElem?_eq_some_iff.mp c1).1
        exact W.alen (n := Int32.ofNat (alen.getD (q - aVAL) 0)) hC.1 hC.2.1 (by rw [hS.2.1 _ hlt c7]; exact c1) c2 c5 rfl rfl hd k
      · cases hg
    · cases hg
theorem s_bald (hC : aC p s m args c cc nL own D cA ad bs n0 H0 X) (hd : decode cc pc = .ok (.baload, 1)) (h0 : pcs i = pc) (h1 : pcs (i + 1) = pc + 1) : aSim p l e R s m args below meth c Q nL D cA ad bs n0 z0 H0 pcs rv hf E (aP gBA) i :=
  aSim_P3 fun loc st loc' st' hg hn => by
    unfold gBA at hg
    split at hg
    · split at hg
      · rename_i j q r hk
        cases hg
        refine ⟨hn, fun H locs ls cells slots hS hl2 kk => ?_⟩
        have k := kk ls hl2
        rw [h1] at k
        rw [h0]
        obtain ⟨cell, c1, c2, c3, c4, c5, c6, c7⟩ := (hC.2.2.2.2.2.2.2.2.1.2.1.1 _ hk.2.1).2.2.2
        dsimp only at c1 c7
        rw [show aVAL + (q - aVAL) = q by omega] at c1 c7
        have hlt := (Array.getElem?_eq_some_iff.mp c1).1
        have hj2 := aix_out hk.2.2
        exact W.bald (v := .int ((abyt.getD (q - aVAL) []).getD j.toNatClampNeg 0)) hC.1 hC.2.1 (by rw [hS.2.1 _ hlt c7]; exact c1) c2 c3 (by rintro (z | z); exact hj2.1 z; omega) (c6 _ hj2.2) rfl rfl hd k
      · cases hg
    · cases hg
theorem s_i2c (hC : aC p s m args c cc nL own D cA ad bs n0 H0 X) (hd : decode cc pc = .ok (.i2c, 1)) (h0 : pcs i = pc) (h1 : pcs (i + 1) = pc + 1) : aSim p l e R s m args below meth c Q nL D cA ad bs n0 z0 H0 pcs rv hf E (aP (gI1 fi2c)) i :=
  aSim_P fun loc st loc' st' hg hn => by
    unfold gI1 at hg
    split at hg
    · cases hg
      refine ⟨hn, fun H locs ls cells slots hl kk => ?_⟩
      have k := kk ls hl
      rw [h1] at k
      rw [h0]
      exact lv_i2c hC.1 hC.2.1 hd rfl k
    · cases hg
end SIM
/-- a list of instructions, each simulated -/
def aSims (P : aOp → Nat → Prop) : List aOp → Nat → Prop
  | [], _ => True
  | f :: t, i => P f i ∧ aSims P t (i + 1)
theorem aSims_c {P : aOp → Nat → Prop} {f : aOp} {t : List aOp} {i : Nat} (h : P f i) (k : aSims P t (i + 1)) : aSims P (f :: t) i := ⟨h, k⟩
theorem aSims_n {P : aOp → Nat → Prop} {i : Nat} : aSims P [] i := trivial
theorem aSims_a {P : aOp → Nat → Prop} : ∀ {a b : List aOp} {i : Nat}, aSims P a i → aSims P b (i + a.length) → aSims P (a ++ b) i
  | [], b, i, _, k => by simpa using k
  | f :: t, b, i, h, k => ⟨h.1, aSims_a h.2 (by rw [List.length_cons] at k; rw [show i + 1 + t.length = i + (t.length + 1) by omega]; exact k)⟩
theorem aSims_at {P : aOp → Nat → Prop} : ∀ {cd : List aOp} {j i : Nat} {f : aOp}, aSims P cd j → anth cd i = some f → P f (j + i)
  | [], j, i, f, _, h => by cases h
  | g :: t, j, 0, f, hs, h => by cases h; exact hs.1
  | g :: t, j, i + 1, f, hs, h => by
    have := aSims_at (cd := t) (j := j + 1) (i := i) hs.2 h
    rw [show j + (i + 1) = j + 1 + i by omega]
    exact this
def aX0 : aXt := fun _ => none
theorem hX0 {X : aXt × Value} : ∀ k q, aX0 k = some q → X.1 k = some q := fun _ _ h => by cases h
theorem hXX {X : aXt × Value} : ∀ k q, X.1 k = some q → X.1 k = some q := fun _ _ h => h
def apc (l : List Nat) (i : Nat) : Nat := (anth l i).getD 0
