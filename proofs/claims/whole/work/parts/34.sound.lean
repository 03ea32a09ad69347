/-! SOUNDNESS: a run of the abstract machine is a contract of the machine (written by wip/whole/mksound.py) -/
theorem lg_len : ∀ {as : List Value} {nL : Nat}, (aent nL as).length = nL → (lg_sl as).length ≤ nL
  | [], nL, _ => Nat.zero_le _
  | v :: t, nL, h => by
    unfold aent at h
    by_cases hc : v.category = 2
    · rw [if_pos hc] at h
      simp only [List.length_cons] at h
      have h2 : (aent (nL - 2) t).length = nL - 2 := by omega
      have := lg_len h2
      have e : lg_sl (v :: t) = [.val v, .second] ++ lg_sl t := by simp [lg_sl, hc]
      rw [e, List.length_append]
      show 2 + _ ≤ _
      omega
    · rw [if_neg hc] at h
      simp only [List.length_cons] at h
      have h2 : (aent (nL - 1) t).length = nL - 1 := by omega
      have := lg_len h2
      have e : lg_sl (v :: t) = [.val v] ++ lg_sl t := by simp [lg_sl, hc]
      rw [e, List.length_append]
      show 1 + _ ≤ _
      omega
theorem lg_map {ad : Nat → Nat} (as : List Value) : (lg_sl (as.map (acv ad))).length = (lg_sl as).length := by
  induction as with
  | nil => rfl
  | cons v t ih =>
    simp only [lg_sl, List.map_cons, List.flatMap_cons, List.length_append, acv_cat] at ih ⊢
    rw [ih]
    split <;> rfl
theorem aAL_rep {ad : Nat → Nat} : ∀ (n j : Nat), aAL ad j (List.replicate n none) = []
  | 0, j => rfl
  | n + 1, j => aAL_rep n (j + 1)
theorem aent_AL {ad : Nat → Nat} : ∀ (as : List Value) (nL j : Nat), aAL ad j (aent nL as) = lv_args j (as.map (acv ad))
  | [], nL, j => aAL_rep nL j
  | v :: t, nL, j => by
    unfold aent
    rw [List.map_cons, lv_args, acv_cat]
    by_cases hc : v.category = 2
    · rw [if_pos hc, if_pos hc]
      show (j, acv ad v) :: aAL ad (j + 1 + 1) (aent (nL - 2) t) = _
      rw [aent_AL t]
    · rw [if_neg hc, if_neg hc]
      show (j, acv ad v) :: aAL ad (j + 1) (aent (nL - 1) t) = _
      rw [aent_AL t]
theorem aRm_le {R : Room} {n0 z0 : Nat} {h h1 : aM} (hl : aLe h h1) (hr : aRm R n0 z0 h1) : aRm R n0 z0 h := ⟨Nat.le_trans hl.1 hr.1, Nat.le_trans hl.2 hr.2⟩
theorem aLe.tr {h h1 h2 : aM} (a : aLe h h1) (b : aLe h1 h2) : aLe h h2 := ⟨Nat.le_trans a.1 b.1, Nat.le_trans a.2 b.2⟩
section SIM
variable {p : Program} {l : Launch} {e : Env} {R : Room} {s : State} {m : MethodId} {args : Array Value} {below : List Frame} {meth : Method} {c : Code} {Q : State → Prop} {nL : Nat} {D : va_G} {cA : Nat → ClassId} {ad : Nat → Nat} {bs n0 z0 : Nat} {H0 : Heap} {pcs : Nat → Nat} {rv : Option Value} {hf : aM} {E : Nat → List Value → aM → Option Value → aM → Prop}
theorem a_run {cd : List aOp} (hs : ∀ i f, anth cd i = some f → aSim p l e R s m args below meth c Q nL D cA ad bs n0 z0 H0 pcs rv hf E f i) (hE : ∀ mid as h v h1, E mid as h v h1 → aLe h h1) : ∀ (n : Nat) (t : aSt), aRn E cd n t rv hf → aLe t.2.2.2 hf ∧ (aRm R n0 z0 hf → aGoal p l e R s m args below meth c Q nL D cA ad bs n0 z0 H0 pcs t) := by
  intro n
  induction n with
  | zero => exact fun t h => absurd h (by unfold aRn; exact fun q => q)
  | succ n ih =>
    intro t h
    obtain ⟨i, loc, st, hm⟩ := t
    unfold aRn at h
    dsimp only at h
    cases hi : anth cd i with
    | none => rw [hi] at h; exact absurd h (fun q => q)
    | some f =>
      rw [hi] at h
      dsimp only at h
      obtain ⟨S1, S2, S3⟩ := hs i f hi loc st hm
      cases hx : f (i, loc, st, hm) with
      | none => rw [hx] at h; exact absurd h (fun q => q)
      | some x =>
        rw [hx] at h
        cases x with
        | inl t' =>
          dsimp only at h
          obtain ⟨k1, k2⟩ := ih t' h
          obtain ⟨g1, g2⟩ := S1 t' hx
          exact ⟨g1.tr k1, fun hr => g2 (aRm_le k1 hr) (k2 hr)⟩
        | inr y =>
          cases y with
          | inl q =>
            obtain ⟨v, h1⟩ := q
            dsimp only at h
            obtain ⟨g1, g2⟩ := S2 v h1 hx
            obtain ⟨e1, e2⟩ := h
            refine ⟨by dsimp only; rw [← e2, g1]; exact aLe.rf _, fun _ => g2 e1 e2⟩
          | inr q =>
            obtain ⟨mid, as, t'⟩ := q
            dsimp only at h
            obtain ⟨v, h1, hv, hrest⟩ := h
            obtain ⟨g1, g2⟩ := S3 mid as t' hx
            rw [g1] at hv
            obtain ⟨k1, k2⟩ := ih _ hrest
            have k1 : aLe h1 hf := k1
            have q1 := hE _ _ _ _ _ hv
            exact ⟨q1.tr k1, fun hr => g2 v h1 hv (aRm_le k1 hr) q1 (k2 hr)⟩
end SIM
theorem aEx_le {tb : Nat → Option (List aOp × Nat)} : ∀ {d mid : Nat} {as : List Value} {h : aM} {v : Option Value} {h1 : aM}, aEx tb d mid as h v h1 → aLe h h1
  | 0, _, _, _, _, _, q => absurd q (by unfold aEx; exact fun z => z)
  | d + 1, _, _, _, _, _, q => by
    unfold aEx at q
    exact q.1
/-- a method's row: its code is simulated -/
def aRow (l : Launch) (D : va_G) (cA : Nat → ClassId) (ad : Nat → Nat) (bs : Nat) (X : aXt × Value) (q : MethodName × ByteArray × Nat × Option FieldType) (w : List aOp × Nat) : Prop :=
  q.2.2.1 = w.2 ∧ plainName q.1.cls = true ∧ ∃ pcl : List Nat, apc pcl 0 = 0 ∧ ∀ (p : Program) (e : Env) (R : Room) (s : State) (m : MethodId) (args : Array Value) (below : List Frame) (meth : Method) (c : Code) (n0 z0 d : Nat) (H0 : Heap) (rv : Option Value) (hf : aM) (E : Nat → List Value → aM → Option Value → aM → Prop),
    aC p s m args c q.2.1 w.2 q.1.cls D cA ad bs n0 H0 X → (∀ ml, ml ≤ 41 → aFit R d ml) → 16 ≤ R.frames ∧ 1000 ≤ R.locals → aCalls l D cA ad bs X d E → meth.sig.returnType = q.2.2.2 → meth.locks = false → meth.name = q.1.name →
    aSims (fun f i => aSim p l e R s m args below meth c (aEnd below s args D cA ad bs n0 z0 rv hf) w.2 D cA ad bs n0 z0 H0 (apc pcl) rv hf E f i) w.1 0
theorem a_body {l : Launch} {D : va_G} {cA : Nat → ClassId} {ad : Nat → Nat} {bs : Nat} {X : aXt × Value} {q : MethodName × ByteArray × Nat × Option FieldType} {w : List aOp × Nat} (had : aAd ad bs) (hrow : aRow l D cA ad bs X q w) {d n : Nat} {E : Nat → List Value → aM → Option Value → aM → Prop} (hE : aCalls l D cA ad bs X d E) (hle : ∀ mid as h v h1, E mid as h v h1 → aLe h h1) {as : List Value} {h h' : aM} {rv : Option Value} (hlen : (aent w.2 as).length = w.2) (hl : aLe h h') (hr : aRn E w.1 n (0, aent w.2 as, [], h) rv h') : aMet l D cA ad bs X (d + 1) q.1 q.2.1 q.2.2.1 q.2.2.2 as h rv h' := by
  obtain ⟨h1, h2, pcl, h3, h4⟩ := hrow
  refine Met.ofW (cc := q.2.1) (maxL := q.2.2.1) (ret := q.2.2.2) h2 rfl ?_
  intro p e s m args below meth c s₁ B hml hv
  obtain ⟨rfl, hsz, hP, hK, hX, hO, hwf⟩ := hv
  have hts : ∀ w ∈ aBIG, w.before _ s = true := fun w hw => atoms_spec (ws := aWs q.1 q.2.1 q.2.2.1 q.2.2.2) B.pre w (List.mem_cons_of_mem _ hw)
  have hown : s.vm.findClass q.1.cls = some m.cls := findClass_of_methodNamed B.named
  have hC : aC p s m (as.map (acv ad)).toArray c q.2.1 w.2 q.1.cls D cA ad bs h.1.1 s.heap X := ⟨B.exec, B.bytes, by rw [← h1]; exact hml, hown, hts, hK, had, hX, hO, rfl, hsz⟩
  have hsim := h4 p e (aRoom (d + 1) (h'.1.1 - h.1.1) (h'.1.2.1 - h.1.2.1)) s m _ below meth c h.1.1 h.1.2.1 d s.heap rv h' E hC (fun ml hml2 => ⟨by show d + 17 ≤ d + 1 + 16; omega, by show 8 + (ml + 11) + (64 * d + 1024) ≤ 64 * (d + 1) + 1024; omega⟩) ⟨by show 16 ≤ d + 1 + 16; omega, by show 1000 ≤ 64 * (d + 1) + 1024; omega⟩ hE B.returns B.notSynchronized (name_of_methodNamed B.named B.method).1
  have hgo := (a_run (fun i f hi => by have := aSims_at hsim hi; rwa [Nat.zero_add] at this) hle n _ hr).2 ⟨by show h'.1.1 ≤ h.1.1 + (h'.1.1 - h.1.1); omega, by show h'.1.2.1 ≤ h.1.2.1 + (h'.1.2.1 - h.1.2.1); omega⟩
  have hl2 := lv_entry (as.map (acv ad)) (n := w.2) (by rw [lg_map]; exact lg_len hlen)
  rw [← aent_AL as w.2 0] at hl2
  rw [h1, lg_entry_eq]
  have g := hgo s.heap [] _ 0 0 ⟨hl2, hlen, hP, va_S.rf, hwf.1, hwf.2, rfl, rfl⟩
  dsimp only at g
  rw [h3] at g
  exact g
/-- rows, one behind the other -/
def aRows (P : MethodName × ByteArray × Nat × Option FieldType → List aOp × Nat → Prop) : List (MethodName × ByteArray × Nat × Option FieldType) → List (List aOp × Nat) → Prop
  | q :: t, w :: u => P q w ∧ aRows P t u
  | [], [] => True
  | _, _ => False
theorem aRows_c {P : MethodName × ByteArray × Nat × Option FieldType → List aOp × Nat → Prop} {q : MethodName × ByteArray × Nat × Option FieldType} {w : List aOp × Nat} {t : List (MethodName × ByteArray × Nat × Option FieldType)} {u : List (List aOp × Nat)} (h : P q w) (k : aRows P t u) : aRows P (q :: t) (w :: u) := ⟨h, k⟩
theorem aRows_n {P : MethodName × ByteArray × Nat × Option FieldType → List aOp × Nat → Prop} : aRows P [] [] := trivial
theorem aRows_at {P : MethodName × ByteArray × Nat × Option FieldType → List aOp × Nat → Prop} : ∀ {t : List (MethodName × ByteArray × Nat × Option FieldType)} {u : List (List aOp × Nat)} {i : Nat} {q : MethodName × ByteArray × Nat × Option FieldType} {w : List aOp × Nat}, aRows P t u → anth t i = some q → anth u i = some w → P q w
  | [], _, i, q, w, _, h1, _ => by cases h1
  | _ :: _, [], i, q, w, hr, _, _ => absurd hr (by unfold aRows; exact fun z => z)
  | _ :: _, _ :: _, 0, q, w, hr, h1, h2 => by
    cases h1
    cases h2
    exact hr.1
  | _ :: t, _ :: u, i + 1, q, w, hr, h1, h2 => aRows_at (t := t) (u := u) (i := i) hr.2 h1 h2
section ALL
variable {l : Launch} {D : va_G} {cA : Nat → ClassId} {ad : Nat → Nat} {bs : Nat} {X : aXt × Value}

theorem ro_X0_init : aRow l D cA ad bs X (yX0_init, cX0_init, 1, none) (cd_X0_init, 1) := ⟨rfl, by decide +kernel, pc_X0_init, rfl, fun p e R s m args below meth c n0 z0 d H0 rv hf E hC hF hRm hE hr hlk hnm => sm_X0_init hC hF hRm hE hr hlk hnm⟩
theorem ro_X0_begin : aRow l D cA ad bs X (yX0_begin, cX0_begin, 3, none) (cd_X0_begin, 3) := ⟨rfl, by decide +kernel, pc_X0_begin, rfl, fun p e R s m args below meth c n0 z0 d H0 rv hf E hC hF hRm hE hr hlk hnm => sm_X0_begin hC hF hRm hE hr hlk⟩
theorem ro_X0_become : aRow l D cA ad bs X (yX0_become, cX0_become, 2, none) (cd_X0_become, 2) := ⟨rfl, by decide +kernel, pc_X0_become, rfl, fun p e R s m args below meth c n0 z0 d H0 rv hf E hC hF hRm hE hr hlk hnm => sm_X0_become hC hF hRm hE hr hlk⟩
theorem ro_X0_valueOf : aRow l D cA ad bs X (yX0_valueOf, cX0_valueOf, 2, (some .int)) (cd_X0_valueOf, 2) := ⟨rfl, by decide +kernel, pc_X0_valueOf, rfl, fun p e R s m args below meth c n0 z0 d H0 rv hf E hC hF hRm hE hr hlk hnm => sm_X0_valueOf hC hF hRm hE hr hlk⟩
theorem ro_X0_put : aRow l D cA ad bs X (yX0_put, cX0_put, 4, (some .int)) (cd_X0_put, 4) := ⟨rfl, by decide +kernel, pc_X0_put, rfl, fun p e R s m args below meth c n0 z0 d H0 rv hf E hC hF hRm hE hr hlk hnm => sm_X0_put hC hF hRm hE hr hlk⟩
theorem ro_X0_mostOf : aRow l D cA ad bs X (yX0_mostOf, cX0_mostOf, 1, (some .int)) (cd_X0_mostOf, 1) := ⟨rfl, by decide +kernel, pc_X0_mostOf, rfl, fun p e R s m args below meth c n0 z0 d H0 rv hf E hC hF hRm hE hr hlk hnm => sm_X0_mostOf hC hF hRm hE hr hlk⟩
theorem ro_X0_learnsOf : aRow l D cA ad bs X (yX0_learnsOf, cX0_learnsOf, 5, (some .int)) (cd_X0_learnsOf, 5) := ⟨rfl, by decide +kernel, pc_X0_learnsOf, rfl, fun p e R s m args below meth c n0 z0 d H0 rv hf E hC hF hRm hE hr hlk hnm => sm_X0_learnsOf hC hF hRm hE hr hlk⟩
theorem ro_X0_forgetsOf : aRow l D cA ad bs X (yX0_forgetsOf, cX0_forgetsOf, 2, (some .int)) (cd_X0_forgetsOf, 2) := ⟨rfl, by decide +kernel, pc_X0_forgetsOf, rfl, fun p e R s m args below meth c n0 z0 d H0 rv hf E hC hF hRm hE hr hlk hnm => sm_X0_forgetsOf hC hF hRm hE hr hlk⟩
theorem ro_X0_nerveOf : aRow l D cA ad bs X (yX0_nerveOf, cX0_nerveOf, 2, (some .int)) (cd_X0_nerveOf, 2) := ⟨rfl, by decide +kernel, pc_X0_nerveOf, rfl, fun p e R s m args below meth c n0 z0 d H0 rv hf E hC hF hRm hE hr hlk hnm => sm_X0_nerveOf hC hF hRm hE hr hlk⟩
theorem ro_X0_isOfKind : aRow l D cA ad bs X (yX0_isOfKind, cX0_isOfKind, 4, (some .boolean)) (cd_X0_isOfKind X, 4) := ⟨rfl, by decide +kernel, pc_X0_isOfKind, rfl, fun p e R s m args below meth c n0 z0 d H0 rv hf E hC hF hRm hE hr hlk hnm => sm_X0_isOfKind hC hF hRm hE hr hlk⟩
theorem ro_X0_leastSkilled : aRow l D cA ad bs X (yX0_leastSkilled, cX0_leastSkilled, 3, (some .int)) (cd_X0_leastSkilled, 3) := ⟨rfl, by decide +kernel, pc_X0_leastSkilled, rfl, fun p e R s m args below meth c n0 z0 d H0 rv hf E hC hF hRm hE hr hlk hnm => sm_X0_leastSkilled hC hF hRm hE hr hlk⟩
theorem ro_X0_skillsTogether : aRow l D cA ad bs X (yX0_skillsTogether, cX0_skillsTogether, 3, (some .int)) (cd_X0_skillsTogether, 3) := ⟨rfl, by decide +kernel, pc_X0_skillsTogether, rfl, fun p e R s m args below meth c n0 z0 d H0 rv hf E hC hF hRm hE hr hlk hnm => sm_X0_skillsTogether hC hF hRm hE hr hlk⟩
theorem ro_X1_init : aRow l D cA ad bs X (yX1_init, cX1_init, 1, none) (cd_X1_init, 1) := ⟨rfl, by decide +kernel, pc_X1_init, rfl, fun p e R s m args below meth c n0 z0 d H0 rv hf E hC hF hRm hE hr hlk hnm => sm_X1_init hC hF hRm hE hr hlk hnm⟩
theorem ro_X1_take : aRow l D cA ad bs X (yX1_take, cX1_take, 2, (some .boolean)) (cd_X1_take, 2) := ⟨rfl, by decide +kernel, pc_X1_take, rfl, fun p e R s m args below meth c n0 z0 d H0 rv hf E hC hF hRm hE hr hlk hnm => sm_X1_take hC hF hRm hE hr hlk⟩
theorem ro_X1_readInto : aRow l D cA ad bs X (yX1_readInto, cX1_readInto, 3, (some .int)) (cd_X1_readInto, 3) := ⟨rfl, by decide +kernel, pc_X1_readInto, rfl, fun p e R s m args below meth c n0 z0 d H0 rv hf E hC hF hRm hE hr hlk hnm => sm_X1_readInto hC hF hRm hE hr hlk⟩
theorem ro_X1_readPart : aRow l D cA ad bs X (yX1_readPart, cX1_readPart, 3, (some .boolean)) (cd_X1_readPart, 3) := ⟨rfl, by decide +kernel, pc_X1_readPart, rfl, fun p e R s m args below meth c n0 z0 d H0 rv hf E hC hF hRm hE hr hlk hnm => sm_X1_readPart hC hF hRm hE hr hlk⟩
theorem ro_X1_readOr : aRow l D cA ad bs X (yX1_readOr, cX1_readOr, 3, (some .boolean)) (cd_X1_readOr, 3) := ⟨rfl, by decide +kernel, pc_X1_readOr, rfl, fun p e R s m args below meth c n0 z0 d H0 rv hf E hC hF hRm hE hr hlk hnm => sm_X1_readOr hC hF hRm hE hr hlk⟩
theorem ro_X1_readAnd : aRow l D cA ad bs X (yX1_readAnd, cX1_readAnd, 3, (some .boolean)) (cd_X1_readAnd, 3) := ⟨rfl, by decide +kernel, pc_X1_readAnd, rfl, fun p e R s m args below meth c n0 z0 d H0 rv hf E hC hF hRm hE hr hlk hnm => sm_X1_readAnd hC hF hRm hE hr hlk⟩
theorem ro_X1_readNot : aRow l D cA ad bs X (yX1_readNot, cX1_readNot, 2, (some .boolean)) (cd_X1_readNot, 2) := ⟨rfl, by decide +kernel, pc_X1_readNot, rfl, fun p e R s m args below meth c n0 z0 d H0 rv hf E hC hF hRm hE hr hlk hnm => sm_X1_readNot hC hF hRm hE hr hlk⟩
theorem ro_X1_readLike : aRow l D cA ad bs X (yX1_readLike, cX1_readLike, 3, (some .boolean)) (cd_X1_readLike, 3) := ⟨rfl, by decide +kernel, pc_X1_readLike, rfl, fun p e R s m args below meth c n0 z0 d H0 rv hf E hC hF hRm hE hr hlk hnm => sm_X1_readLike hC hF hRm hE hr hlk⟩
theorem ro_X1_readSum : aRow l D cA ad bs X (yX1_readSum, cX1_readSum, 4, (some .boolean)) (cd_X1_readSum, 4) := ⟨rfl, by decide +kernel, pc_X1_readSum, rfl, fun p e R s m args below meth c n0 z0 d H0 rv hf E hC hF hRm hE hr hlk hnm => sm_X1_readSum hC hF hRm hE hr hlk⟩
theorem ro_X1_readTerm : aRow l D cA ad bs X (yX1_readTerm, cX1_readTerm, 3, (some .boolean)) (cd_X1_readTerm, 3) := ⟨rfl, by decide +kernel, pc_X1_readTerm, rfl, fun p e R s m args below meth c n0 z0 d H0 rv hf E hC hF hRm hE hr hlk hnm => sm_X1_readTerm hC hF hRm hE hr hlk⟩
theorem ro_X1_readOne : aRow l D cA ad bs X (yX1_readOne, cX1_readOne, 3, (some .boolean)) (cd_X1_readOne, 3) := ⟨rfl, by decide +kernel, pc_X1_readOne, rfl, fun p e R s m args below meth c n0 z0 d H0 rv hf E hC hF hRm hE hr hlk hnm => sm_X1_readOne hC hF hRm hE hr hlk⟩
theorem ro_X1_step : aRow l D cA ad bs X (yX1_step, cX1_step, 2, none) (cd_X1_step, 2) := ⟨rfl, by decide +kernel, pc_X1_step, rfl, fun p e R s m args below meth c n0 z0 d H0 rv hf E hC hF hRm hE hr hlk hnm => sm_X1_step hC hF hRm hE hr hlk⟩
theorem ro_X1_skip : aRow l D cA ad bs X (yX1_skip, cX1_skip, 4, none) (cd_X1_skip, 4) := ⟨rfl, by decide +kernel, pc_X1_skip, rfl, fun p e R s m args below meth c n0 z0 d H0 rv hf E hC hF hRm hE hr hlk hnm => sm_X1_skip hC hF hRm hE hr hlk⟩
theorem ro_X1_byteAt : aRow l D cA ad bs X (yX1_byteAt, cX1_byteAt, 2, (some .int)) (cd_X1_byteAt, 2) := ⟨rfl, by decide +kernel, pc_X1_byteAt, rfl, fun p e R s m args below meth c n0 z0 d H0 rv hf E hC hF hRm hE hr hlk hnm => sm_X1_byteAt hC hF hRm hE hr hlk⟩
theorem ro_X1_signAt : aRow l D cA ad bs X (yX1_signAt, cX1_signAt, 2, (some .int)) (cd_X1_signAt, 2) := ⟨rfl, by decide +kernel, pc_X1_signAt, rfl, fun p e R s m args below meth c n0 z0 d H0 rv hf E hC hF hRm hE hr hlk hnm => sm_X1_signAt hC hF hRm hE hr hlk⟩
theorem ro_X1_numberAt : aRow l D cA ad bs X (yX1_numberAt, cX1_numberAt, 2, (some .int)) (cd_X1_numberAt, 2) := ⟨rfl, by decide +kernel, pc_X1_numberAt, rfl, fun p e R s m args below meth c n0 z0 d H0 rv hf E hC hF hRm hE hr hlk hnm => sm_X1_numberAt hC hF hRm hE hr hlk⟩
theorem ro_X1_wordAt : aRow l D cA ad bs X (yX1_wordAt, cX1_wordAt, 1, (some .int)) (cd_X1_wordAt, 1) := ⟨rfl, by decide +kernel, pc_X1_wordAt, rfl, fun p e R s m args below meth c n0 z0 d H0 rv hf E hC hF hRm hE hr hlk hnm => sm_X1_wordAt hC hF hRm hE hr hlk⟩
theorem ro_X1_reads : aRow l D cA ad bs X (yX1_reads, cX1_reads, 3, (some .boolean)) (cd_X1_reads, 3) := ⟨rfl, by decide +kernel, pc_X1_reads, rfl, fun p e R s m args below meth c n0 z0 d H0 rv hf E hC hF hRm hE hr hlk hnm => sm_X1_reads hC hF hRm hE hr hlk⟩
theorem ro_X2_init : aRow l D cA ad bs X (yX2_init, cX2_init, 1, none) (cd_X2_init, 1) := ⟨rfl, by decide +kernel, pc_X2_init, rfl, fun p e R s m args below meth c n0 z0 d H0 rv hf E hC hF hRm hE hr hlk hnm => sm_X2_init hC hF hRm hE hr hlk hnm⟩
theorem ro_X2_become : aRow l D cA ad bs X (yX2_become, cX2_become, 3, none) (cd_X2_become, 3) := ⟨rfl, by decide +kernel, pc_X2_become, rfl, fun p e R s m args below meth c n0 z0 d H0 rv hf E hC hF hRm hE hr hlk hnm => sm_X2_become hC hF hRm hE hr hlk⟩
theorem ro_X2_has : aRow l D cA ad bs X (yX2_has, cX2_has, 2, (some .boolean)) (cd_X2_has, 2) := ⟨rfl, by decide +kernel, pc_X2_has, rfl, fun p e R s m args below meth c n0 z0 d H0 rv hf E hC hF hRm hE hr hlk hnm => sm_X2_has hC hF hRm hE hr hlk⟩
theorem ro_X2_hasRun : aRow l D cA ad bs X (yX2_hasRun, cX2_hasRun, 3, (some .boolean)) (cd_X2_hasRun, 3) := ⟨rfl, by decide +kernel, pc_X2_hasRun, rfl, fun p e R s m args below meth c n0 z0 d H0 rv hf E hC hF hRm hE hr hlk hnm => sm_X2_hasRun hC hF hRm hE hr hlk⟩
theorem ro_X2_put : aRow l D cA ad bs X (yX2_put, cX2_put, 3, none) (cd_X2_put, 3) := ⟨rfl, by decide +kernel, pc_X2_put, rfl, fun p e R s m args below meth c n0 z0 d H0 rv hf E hC hF hRm hE hr hlk hnm => sm_X2_put hC hF hRm hE hr hlk⟩
theorem ro_X3_init : aRow l D cA ad bs X (yX3_init, cX3_init, 2, none) (cd_X3_init, 2) := ⟨rfl, by decide +kernel, pc_X3_init, rfl, fun p e R s m args below meth c n0 z0 d H0 rv hf E hC hF hRm hE hr hlk hnm => sm_X3_init hC hF hRm hE hr hlk hnm⟩
theorem ro_X3_empty : aRow l D cA ad bs X (yX3_empty, cX3_empty, 1, none) (cd_X3_empty, 1) := ⟨rfl, by decide +kernel, pc_X3_empty, rfl, fun p e R s m args below meth c n0 z0 d H0 rv hf E hC hF hRm hE hr hlk hnm => sm_X3_empty hC hF hRm hE hr hlk⟩
theorem ro_X3_become : aRow l D cA ad bs X (yX3_become, cX3_become, 2, none) (cd_X3_become, 2) := ⟨rfl, by decide +kernel, pc_X3_become, rfl, fun p e R s m args below meth c n0 z0 d H0 rv hf E hC hF hRm hE hr hlk hnm => sm_X3_become hC hF hRm hE hr hlk⟩
theorem ro_X3_add : aRow l D cA ad bs X (yX3_add, cX3_add, 2, none) (cd_X3_add, 2) := ⟨rfl, by decide +kernel, pc_X3_add, rfl, fun p e R s m args below meth c n0 z0 d H0 rv hf E hC hF hRm hE hr hlk hnm => sm_X3_add hC hF hRm hE hr hlk⟩
theorem ro_X3_endPart : aRow l D cA ad bs X (yX3_endPart, cX3_endPart, 2, none) (cd_X3_endPart, 2) := ⟨rfl, by decide +kernel, pc_X3_endPart, rfl, fun p e R s m args below meth c n0 z0 d H0 rv hf E hC hF hRm hE hr hlk hnm => sm_X3_endPart hC hF hRm hE hr hlk⟩
theorem ro_X3_value : aRow l D cA ad bs X (yX3_value, cX3_value, 8, (some .int)) (cd_X3_value, 8) := ⟨rfl, by decide +kernel, pc_X3_value, rfl, fun p e R s m args below meth c n0 z0 d H0 rv hf E hC hF hRm hE hr hlk hnm => sm_X3_value hC hF hRm hE hr hlk⟩
theorem ro_X3_named : aRow l D cA ad bs X (yX3_named, cX3_named, 2, (some .int)) (cd_X3_named, 2) := ⟨rfl, by decide +kernel, pc_X3_named, rfl, fun p e R s m args below meth c n0 z0 d H0 rv hf E hC hF hRm hE hr hlk hnm => sm_X3_named hC hF hRm hE hr hlk⟩
theorem ro_X3_joined : aRow l D cA ad bs X (yX3_joined, cX3_joined, 3, (some .int)) (cd_X3_joined, 3) := ⟨rfl, by decide +kernel, pc_X3_joined, rfl, fun p e R s m args below meth c n0 z0 d H0 rv hf E hC hF hRm hE hr hlk hnm => sm_X3_joined hC hF hRm hE hr hlk⟩
theorem ro_X4_init : aRow l D cA ad bs X (yX4_init, cX4_init, 3, none) (cd_X4_init, 3) := ⟨rfl, by decide +kernel, pc_X4_init, rfl, fun p e R s m args below meth c n0 z0 d H0 rv hf E hC hF hRm hE hr hlk hnm => sm_X4_init hC hF hRm hE hr hlk hnm⟩
theorem ro_X4_begin : aRow l D cA ad bs X (yX4_begin, cX4_begin, 3, none) (cd_X4_begin, 3) := ⟨rfl, by decide +kernel, pc_X4_begin, rfl, fun p e R s m args below meth c n0 z0 d H0 rv hf E hC hF hRm hE hr hlk hnm => sm_X4_begin hC hF hRm hE hr hlk⟩
theorem ro_X4_bestHour : aRow l D cA ad bs X (yX4_bestHour, cX4_bestHour, 9, (some .int)) (cd_X4_bestHour, 9) := ⟨rfl, by decide +kernel, pc_X4_bestHour, rfl, fun p e R s m args below meth c n0 z0 d H0 rv hf E hC hF hRm hE hr hlk hnm => sm_X4_bestHour hC hF hRm hE hr hlk⟩
theorem ro_X4_beginRows : aRow l D cA ad bs X (yX4_beginRows, cX4_beginRows, 3, none) (cd_X4_beginRows, 3) := ⟨rfl, by decide +kernel, pc_X4_beginRows, rfl, fun p e R s m args below meth c n0 z0 d H0 rv hf E hC hF hRm hE hr hlk hnm => sm_X4_beginRows hC hF hRm hE hr hlk⟩
theorem ro_X4_tryRows : aRow l D cA ad bs X (yX4_tryRows, cX4_tryRows, 6, none) (cd_X4_tryRows, 6) := ⟨rfl, by decide +kernel, pc_X4_tryRows, rfl, fun p e R s m args below meth c n0 z0 d H0 rv hf E hC hF hRm hE hr hlk hnm => sm_X4_tryRows hC hF hRm hE hr hlk⟩
theorem ro_X4_daysTill : aRow l D cA ad bs X (yX4_daysTill, cX4_daysTill, 7, (some .int)) (cd_X4_daysTill, 7) := ⟨rfl, by decide +kernel, pc_X4_daysTill, rfl, fun p e R s m args below meth c n0 z0 d H0 rv hf E hC hF hRm hE hr hlk hnm => sm_X4_daysTill hC hF hRm hE hr hlk⟩
theorem ro_X4_passNight : aRow l D cA ad bs X (yX4_passNight, cX4_passNight, 1, none) (cd_X4_passNight, 1) := ⟨rfl, by decide +kernel, pc_X4_passNight, rfl, fun p e R s m args below meth c n0 z0 d H0 rv hf E hC hF hRm hE hr hlk hnm => sm_X4_passNight hC hF hRm hE hr hlk⟩
theorem ro_X4_bumpsTill : aRow l D cA ad bs X (yX4_bumpsTill, cX4_bumpsTill, 5, (some .int)) (cd_X4_bumpsTill, 5) := ⟨rfl, by decide +kernel, pc_X4_bumpsTill, rfl, fun p e R s m args below meth c n0 z0 d H0 rv hf E hC hF hRm hE hr hlk hnm => sm_X4_bumpsTill hC hF hRm hE hr hlk⟩
theorem ro_X4_managedBehind : aRow l D cA ad bs X (yX4_managedBehind, cX4_managedBehind, 5, (some .int)) (cd_X4_managedBehind, 5) := ⟨rfl, by decide +kernel, pc_X4_managedBehind, rfl, fun p e R s m args below meth c n0 z0 d H0 rv hf E hC hF hRm hE hr hlk hnm => sm_X4_managedBehind hC hF hRm hE hr hlk⟩
theorem ro_X4_firstOtherwise : aRow l D cA ad bs X (yX4_firstOtherwise, cX4_firstOtherwise, 5, (some .int)) (cd_X4_firstOtherwise, 5) := ⟨rfl, by decide +kernel, pc_X4_firstOtherwise, rfl, fun p e R s m args below meth c n0 z0 d H0 rv hf E hC hF hRm hE hr hlk hnm => sm_X4_firstOtherwise hC hF hRm hE hr hlk⟩
theorem ro_X5_init : aRow l D cA ad bs X (yX5_init, cX5_init, 2, none) (cd_X5_init, 2) := ⟨rfl, by decide +kernel, pc_X5_init, rfl, fun p e R s m args below meth c n0 z0 d H0 rv hf E hC hF hRm hE hr hlk hnm => sm_X5_init hC hF hRm hE hr hlk hnm⟩
theorem ro_X5_become : aRow l D cA ad bs X (yX5_become, cX5_become, 2, none) (cd_X5_become, 2) := ⟨rfl, by decide +kernel, pc_X5_become, rfl, fun p e R s m args below meth c n0 z0 d H0 rv hf E hC hF hRm hE hr hlk hnm => sm_X5_become hC hF hRm hE hr hlk⟩
theorem ro_X5_name : aRow l D cA ad bs X (yX5_name, cX5_name, 4, none) (cd_X5_name, 4) := ⟨rfl, by decide +kernel, pc_X5_name, rfl, fun p e R s m args below meth c n0 z0 d H0 rv hf E hC hF hRm hE hr hlk hnm => sm_X5_name hC hF hRm hE hr hlk⟩
theorem ro_X5_learns : aRow l D cA ad bs X (yX5_learns, cX5_learns, 5, (some .int)) (cd_X5_learns, 5) := ⟨rfl, by decide +kernel, pc_X5_learns, rfl, fun p e R s m args below meth c n0 z0 d H0 rv hf E hC hF hRm hE hr hlk hnm => sm_X5_learns hC hF hRm hE hr hlk⟩
theorem ro_X5_forgets : aRow l D cA ad bs X (yX5_forgets, cX5_forgets, 4, (some .int)) (cd_X5_forgets, 4) := ⟨rfl, by decide +kernel, pc_X5_forgets, rfl, fun p e R s m args below meth c n0 z0 d H0 rv hf E hC hF hRm hE hr hlk hnm => sm_X5_forgets hC hF hRm hE hr hlk⟩
theorem ro_X5_nerve : aRow l D cA ad bs X (yX5_nerve, cX5_nerve, 3, (some .int)) (cd_X5_nerve, 3) := ⟨rfl, by decide +kernel, pc_X5_nerve, rfl, fun p e R s m args below meth c n0 z0 d H0 rv hf E hC hF hRm hE hr hlk hnm => sm_X5_nerve hC hF hRm hE hr hlk⟩
theorem ro_X5_margin : aRow l D cA ad bs X (yX5_margin, cX5_margin, 3, (some .int)) (cd_X5_margin, 3) := ⟨rfl, by decide +kernel, pc_X5_margin, rfl, fun p e R s m args below meth c n0 z0 d H0 rv hf E hC hF hRm hE hr hlk hnm => sm_X5_margin hC hF hRm hE hr hlk⟩
theorem ro_X5_managedBy : aRow l D cA ad bs X (yX5_managedBy, cX5_managedBy, 4, (some .int)) (cd_X5_managedBy, 4) := ⟨rfl, by decide +kernel, pc_X5_managedBy, rfl, fun p e R s m args below meth c n0 z0 d H0 rv hf E hC hF hRm hE hr hlk hnm => sm_X5_managedBy hC hF hRm hE hr hlk⟩
theorem ro_X5_isReady : aRow l D cA ad bs X (yX5_isReady, cX5_isReady, 3, (some .boolean)) (cd_X5_isReady, 3) := ⟨rfl, by decide +kernel, pc_X5_isReady, rfl, fun p e R s m args below meth c n0 z0 d H0 rv hf E hC hF hRm hE hr hlk hnm => sm_X5_isReady hC hF hRm hE hr hlk⟩
theorem ro_X5_leastManaged : aRow l D cA ad bs X (yX5_leastManaged, cX5_leastManaged, 6, (some .int)) (cd_X5_leastManaged, 6) := ⟨rfl, by decide +kernel, pc_X5_leastManaged, rfl, fun p e R s m args below meth c n0 z0 d H0 rv hf E hC hF hRm hE hr hlk hnm => sm_X5_leastManaged hC hF hRm hE hr hlk⟩
theorem ro_X5_spendHour : aRow l D cA ad bs X (yX5_spendHour, cX5_spendHour, 5, none) (cd_X5_spendHour, 5) := ⟨rfl, by decide +kernel, pc_X5_spendHour, rfl, fun p e R s m args below meth c n0 z0 d H0 rv hf E hC hF hRm hE hr hlk hnm => sm_X5_spendHour hC hF hRm hE hr hlk⟩
theorem ro_X5_sleep : aRow l D cA ad bs X (yX5_sleep, cX5_sleep, 3, none) (cd_X5_sleep, 3) := ⟨rfl, by decide +kernel, pc_X5_sleep, rfl, fun p e R s m args below meth c n0 z0 d H0 rv hf E hC hF hRm hE hr hlk hnm => sm_X5_sleep hC hF hRm hE hr hlk⟩
theorem ro_X6_init : aRow l D cA ad bs X (yX6_init, cX6_init, 2, none) (cd_X6_init, 2) := ⟨rfl, by decide +kernel, pc_X6_init, rfl, fun p e R s m args below meth c n0 z0 d H0 rv hf E hC hF hRm hE hr hlk hnm => sm_X6_init hC hF hRm hE hr hlk hnm⟩
theorem ro_X6_set : aRow l D cA ad bs X (yX6_set, cX6_set, 5, (some .int)) (cd_X6_set, 5) := ⟨rfl, by decide +kernel, pc_X6_set, rfl, fun p e R s m args below meth c n0 z0 d H0 rv hf E hC hF hRm hE hr hlk hnm => sm_X6_set hC hF hRm hE hr hlk⟩
theorem ro_X6_setDay : aRow l D cA ad bs X (yX6_setDay, cX6_setDay, 3, (some .int)) (cd_X6_setDay, 3) := ⟨rfl, by decide +kernel, pc_X6_setDay, rfl, fun p e R s m args below meth c n0 z0 d H0 rv hf E hC hF hRm hE hr hlk hnm => sm_X6_setDay hC hF hRm hE hr hlk⟩
theorem ro_X6_setHard : aRow l D cA ad bs X (yX6_setHard, cX6_setHard, 4, (some .int)) (cd_X6_setHard, 4) := ⟨rfl, by decide +kernel, pc_X6_setHard, rfl, fun p e R s m args below meth c n0 z0 d H0 rv hf E hC hF hRm hE hr hlk hnm => sm_X6_setHard hC hF hRm hE hr hlk⟩
theorem ro_X6_learner : aRow l D cA ad bs X (yX6_learner, cX6_learner, 3, (some .int)) (cd_X6_learner, 3) := ⟨rfl, by decide +kernel, pc_X6_learner, rfl, fun p e R s m args below meth c n0 z0 d H0 rv hf E hC hF hRm hE hr hlk hnm => sm_X6_learner hC hF hRm hE hr hlk⟩
theorem ro_X6_comes : aRow l D cA ad bs X (yX6_comes, cX6_comes, 3, (some .int)) (cd_X6_comes, 3) := ⟨rfl, by decide +kernel, pc_X6_comes, rfl, fun p e R s m args below meth c n0 z0 d H0 rv hf E hC hF hRm hE hr hlk hnm => sm_X6_comes hC hF hRm hE hr hlk⟩
theorem ro_X6_told : aRow l D cA ad bs X (yX6_told, cX6_told, 4, (some .int)) (cd_X6_told, 4) := ⟨rfl, by decide +kernel, pc_X6_told, rfl, fun p e R s m args below meth c n0 z0 d H0 rv hf E hC hF hRm hE hr hlk hnm => sm_X6_told hC hF hRm hE hr hlk⟩
theorem ro_X6_asks : aRow l D cA ad bs X (yX6_asks, cX6_asks, 5, (some .int)) (cd_X6_asks, 5) := ⟨rfl, by decide +kernel, pc_X6_asks, rfl, fun p e R s m args below meth c n0 z0 d H0 rv hf E hC hF hRm hE hr hlk hnm => sm_X6_asks hC hF hRm hE hr hlk⟩
theorem ro_X6_feed : aRow l D cA ad bs X (yX6_feed, cX6_feed, 2, (some .int)) (cd_X6_feed, 2) := ⟨rfl, by decide +kernel, pc_X6_feed, rfl, fun p e R s m args below meth c n0 z0 d H0 rv hf E hC hF hRm hE hr hlk hnm => sm_X6_feed hC hF hRm hE hr hlk⟩
theorem ro_X6_text : aRow l D cA ad bs X (yX6_text, cX6_text, 2, (some .int)) (cd_X6_text, 2) := ⟨rfl, by decide +kernel, pc_X6_text, rfl, fun p e R s m args below meth c n0 z0 d H0 rv hf E hC hF hRm hE hr hlk hnm => sm_X6_text hC hF hRm hE hr hlk⟩
theorem ro_X6_force : aRow l D cA ad bs X (yX6_force, cX6_force, 4, (some .int)) (cd_X6_force, 4) := ⟨rfl, by decide +kernel, pc_X6_force, rfl, fun p e R s m args below meth c n0 z0 d H0 rv hf E hC hF hRm hE hr hlk hnm => sm_X6_force hC hF hRm hE hr hlk⟩
theorem ro_X6_drive : aRow l D cA ad bs X (yX6_drive, cX6_drive, 5, (some .int)) (cd_X6_drive, 5) := ⟨rfl, by decide +kernel, pc_X6_drive, rfl, fun p e R s m args below meth c n0 z0 d H0 rv hf E hC hF hRm hE hr hlk hnm => sm_X6_drive hC hF hRm hE hr hlk⟩
theorem ro_X6_night : aRow l D cA ad bs X (yX6_night, cX6_night, 2, (some .int)) (cd_X6_night, 2) := ⟨rfl, by decide +kernel, pc_X6_night, rfl, fun p e R s m args below meth c n0 z0 d H0 rv hf E hC hF hRm hE hr hlk hnm => sm_X6_night hC hF hRm hE hr hlk⟩
theorem ro_X6_readyPupils : aRow l D cA ad bs X (yX6_readyPupils, cX6_readyPupils, 3, (some .int)) (cd_X6_readyPupils, 3) := ⟨rfl, by decide +kernel, pc_X6_readyPupils, rfl, fun p e R s m args below meth c n0 z0 d H0 rv hf E hC hF hRm hE hr hlk hnm => sm_X6_readyPupils hC hF hRm hE hr hlk⟩
theorem ro_X6_best : aRow l D cA ad bs X (yX6_best, cX6_best, 4, (some .int)) (cd_X6_best, 4) := ⟨rfl, by decide +kernel, pc_X6_best, rfl, fun p e R s m args below meth c n0 z0 d H0 rv hf E hC hF hRm hE hr hlk hnm => sm_X6_best hC hF hRm hE hr hlk⟩
theorem ro_X6_hours : aRow l D cA ad bs X (yX6_hours, cX6_hours, 6, (some .int)) (cd_X6_hours, 6) := ⟨rfl, by decide +kernel, pc_X6_hours, rfl, fun p e R s m args below meth c n0 z0 d H0 rv hf E hC hF hRm hE hr hlk hnm => sm_X6_hours hC hF hRm hE hr hlk⟩
theorem ro_X6_takes : aRow l D cA ad bs X (yX6_takes, cX6_takes, 5, (some .int)) (cd_X6_takes, 5) := ⟨rfl, by decide +kernel, pc_X6_takes, rfl, fun p e R s m args below meth c n0 z0 d H0 rv hf E hC hF hRm hE hr hlk hnm => sm_X6_takes hC hF hRm hE hr hlk⟩
theorem ro_X6_late : aRow l D cA ad bs X (yX6_late, cX6_late, 4, (some .int)) (cd_X6_late, 4) := ⟨rfl, by decide +kernel, pc_X6_late, rfl, fun p e R s m args below meth c n0 z0 d H0 rv hf E hC hF hRm hE hr hlk hnm => sm_X6_late hC hF hRm hE hr hlk⟩
theorem ro_X6_gap : aRow l D cA ad bs X (yX6_gap, cX6_gap, 5, (some .int)) (cd_X6_gap, 5) := ⟨rfl, by decide +kernel, pc_X6_gap, rfl, fun p e R s m args below meth c n0 z0 d H0 rv hf E hC hF hRm hE hr hlk hnm => sm_X6_gap hC hF hRm hE hr hlk⟩
theorem ro_X6_faded : aRow l D cA ad bs X (yX6_faded, cX6_faded, 4, (some .int)) (cd_X6_faded, 4) := ⟨rfl, by decide +kernel, pc_X6_faded, rfl, fun p e R s m args below meth c n0 z0 d H0 rv hf E hC hF hRm hE hr hlk hnm => sm_X6_faded hC hF hRm hE hr hlk⟩
theorem ro_X6_test : aRow l D cA ad bs X (yX6_test, cX6_test, 10, (some .long)) (cd_X6_test, 10) := ⟨rfl, by decide +kernel, pc_X6_test, rfl, fun p e R s m args below meth c n0 z0 d H0 rv hf E hC hF hRm hE hr hlk hnm => sm_X6_test hC hF hRm hE hr hlk⟩
theorem ro_X6_tells : aRow l D cA ad bs X (yX6_tells, cX6_tells, 14, (some .int)) (cd_X6_tells, 14) := ⟨rfl, by decide +kernel, pc_X6_tells, rfl, fun p e R s m args below meth c n0 z0 d H0 rv hf E hC hF hRm hE hr hlk hnm => sm_X6_tells hC hF hRm hE hr hlk⟩
theorem ro_X6_guessesOf : aRow l D cA ad bs X (yX6_guessesOf, cX6_guessesOf, 2, (some .int)) (cd_X6_guessesOf, 2) := ⟨rfl, by decide +kernel, pc_X6_guessesOf, rfl, fun p e R s m args below meth c n0 z0 d H0 rv hf E hC hF hRm hE hr hlk hnm => sm_X6_guessesOf hC hF hRm hE hr hlk⟩
theorem ro_X6_suppose : aRow l D cA ad bs X (yX6_suppose, cX6_suppose, 5, none) (cd_X6_suppose, 5) := ⟨rfl, by decide +kernel, pc_X6_suppose, rfl, fun p e R s m args below meth c n0 z0 d H0 rv hf E hC hF hRm hE hr hlk hnm => sm_X6_suppose hC hF hRm hE hr hlk⟩
theorem ro_X6_film : aRow l D cA ad bs X (yX6_film, cX6_film, 9, (some .int)) (cd_X6_film, 9) := ⟨rfl, by decide +kernel, pc_X6_film, rfl, fun p e R s m args below meth c n0 z0 d H0 rv hf E hC hF hRm hE hr hlk hnm => sm_X6_film hC hF hRm hE hr hlk⟩
theorem ro_X6_drawn : aRow l D cA ad bs X (yX6_drawn, cX6_drawn, 4, (some .int)) (cd_X6_drawn, 4) := ⟨rfl, by decide +kernel, pc_X6_drawn, rfl, fun p e R s m args below meth c n0 z0 d H0 rv hf E hC hF hRm hE hr hlk hnm => sm_X6_drawn hC hF hRm hE hr hlk⟩
theorem ro_X6_chance : aRow l D cA ad bs X (yX6_chance, cX6_chance, 8, (some .long)) (cd_X6_chance, 8) := ⟨rfl, by decide +kernel, pc_X6_chance, rfl, fun p e R s m args below meth c n0 z0 d H0 rv hf E hC hF hRm hE hr hlk hnm => sm_X6_chance hC hF hRm hE hr hlk⟩
theorem ro_X6_passedBy : aRow l D cA ad bs X (yX6_passedBy, cX6_passedBy, 6, (some .int)) (cd_X6_passedBy, 6) := ⟨rfl, by decide +kernel, pc_X6_passedBy, rfl, fun p e R s m args below meth c n0 z0 d H0 rv hf E hC hF hRm hE hr hlk hnm => sm_X6_passedBy hC hF hRm hE hr hlk⟩
theorem ro_X6_drawnOn : aRow l D cA ad bs X (yX6_drawnOn, cX6_drawnOn, 1, (some .int)) (cd_X6_drawnOn, 1) := ⟨rfl, by decide +kernel, pc_X6_drawnOn, rfl, fun p e R s m args below meth c n0 z0 d H0 rv hf E hC hF hRm hE hr hlk hnm => sm_X6_drawnOn hC hF hRm hE hr hlk⟩
theorem ro_X6_image : aRow l D cA ad bs X (yX6_image, cX6_image, 2, (some .int)) (cd_X6_image, 2) := ⟨rfl, by decide +kernel, pc_X6_image, rfl, fun p e R s m args below meth c n0 z0 d H0 rv hf E hC hF hRm hE hr hlk hnm => sm_X6_image hC hF hRm hE hr hlk⟩
theorem ro_X6_back : aRow l D cA ad bs X (yX6_back, cX6_back, 2, (some .int)) (cd_X6_back, 2) := ⟨rfl, by decide +kernel, pc_X6_back, rfl, fun p e R s m args below meth c n0 z0 d H0 rv hf E hC hF hRm hE hr hlk hnm => sm_X6_back hC hF hRm hE hr hlk⟩
theorem ro_X6_count : aRow l D cA ad bs X (yX6_count, cX6_count, 2, (some .int)) (cd_X6_count, 2) := ⟨rfl, by decide +kernel, pc_X6_count, rfl, fun p e R s m args below meth c n0 z0 d H0 rv hf E hC hF hRm hE hr hlk hnm => sm_X6_count hC hF hRm hE hr hlk⟩
theorem ro_X6_bumpsOfAll : aRow l D cA ad bs X (yX6_bumpsOfAll, cX6_bumpsOfAll, 3, (some .int)) (cd_X6_bumpsOfAll, 3) := ⟨rfl, by decide +kernel, pc_X6_bumpsOfAll, rfl, fun p e R s m args below meth c n0 z0 d H0 rv hf E hC hF hRm hE hr hlk hnm => sm_X6_bumpsOfAll hC hF hRm hE hr hlk⟩
theorem ro_X6_sheet : aRow l D cA ad bs X (yX6_sheet, cX6_sheet, 5, (some .int)) (cd_X6_sheet, 5) := ⟨rfl, by decide +kernel, pc_X6_sheet, rfl, fun p e R s m args below meth c n0 z0 d H0 rv hf E hC hF hRm hE hr hlk hnm => sm_X6_sheet hC hF hRm hE hr hlk⟩
theorem ro_X6_cell : aRow l D cA ad bs X (yX6_cell, cX6_cell, 5, (some .int)) (cd_X6_cell, 5) := ⟨rfl, by decide +kernel, pc_X6_cell, rfl, fun p e R s m args below meth c n0 z0 d H0 rv hf E hC hF hRm hE hr hlk hnm => sm_X6_cell hC hF hRm hE hr hlk⟩
theorem ro_X6_copy : aRow l D cA ad bs X (yX6_copy, cX6_copy, 8, (some .int)) (cd_X6_copy, 8) := ⟨rfl, by decide +kernel, pc_X6_copy, rfl, fun p e R s m args below meth c n0 z0 d H0 rv hf E hC hF hRm hE hr hlk hnm => sm_X6_copy hC hF hRm hE hr hlk⟩
theorem ro_X6_learners : aRow l D cA ad bs X (yX6_learners, cX6_learners, 9, (some .int)) (cd_X6_learners, 9) := ⟨rfl, by decide +kernel, pc_X6_learners, rfl, fun p e R s m args below meth c n0 z0 d H0 rv hf E hC hF hRm hE hr hlk hnm => sm_X6_learners hC hF hRm hE hr hlk⟩
theorem ro_X6_taken : aRow l D cA ad bs X (yX6_taken, cX6_taken, 4, (some .int)) (cd_X6_taken, 4) := ⟨rfl, by decide +kernel, pc_X6_taken, rfl, fun p e R s m args below meth c n0 z0 d H0 rv hf E hC hF hRm hE hr hlk hnm => sm_X6_taken hC hF hRm hE hr hlk⟩
theorem ro_X6_pupilAt : aRow l D cA ad bs X (yX6_pupilAt, cX6_pupilAt, 2, (some (.object "FootOnTheOtherPedal$Pupil"))) (cd_X6_pupilAt, 2) := ⟨rfl, by decide +kernel, pc_X6_pupilAt, rfl, fun p e R s m args below meth c n0 z0 d H0 rv hf E hC hF hRm hE hr hlk hnm => sm_X6_pupilAt hC hF hRm hE hr hlk⟩
theorem ro_X6_textAt : aRow l D cA ad bs X (yX6_textAt, cX6_textAt, 2, (some (.object "FootOnTheOtherPedal$Text"))) (cd_X6_textAt, 2) := ⟨rfl, by decide +kernel, pc_X6_textAt, rfl, fun p e R s m args below meth c n0 z0 d H0 rv hf E hC hF hRm hE hr hlk hnm => sm_X6_textAt hC hF hRm hE hr hlk⟩
theorem ro_X6_sheetAt : aRow l D cA ad bs X (yX6_sheetAt, cX6_sheetAt, 2, (some (.object "FootOnTheOtherPedal$Sheet"))) (cd_X6_sheetAt, 2) := ⟨rfl, by decide +kernel, pc_X6_sheetAt, rfl, fun p e R s m args below meth c n0 z0 d H0 rv hf E hC hF hRm hE hr hlk hnm => sm_X6_sheetAt hC hF hRm hE hr hlk⟩
theorem ro_X6_isStreet : aRow l D cA ad bs X (yX6_isStreet, cX6_isStreet, 1, (some .boolean)) (cd_X6_isStreet, 1) := ⟨rfl, by decide +kernel, pc_X6_isStreet, rfl, fun p e R s m args below meth c n0 z0 d H0 rv hf E hC hF hRm hE hr hlk hnm => sm_X6_isStreet hC hF hRm hE hr hlk⟩
theorem ro_X6_isHelp : aRow l D cA ad bs X (yX6_isHelp, cX6_isHelp, 1, (some .boolean)) (cd_X6_isHelp, 1) := ⟨rfl, by decide +kernel, pc_X6_isHelp, rfl, fun p e R s m args below meth c n0 z0 d H0 rv hf E hC hF hRm hE hr hlk hnm => sm_X6_isHelp hC hF hRm hE hr hlk⟩
theorem ro_X6_isStreetHelp : aRow l D cA ad bs X (yX6_isStreetHelp, cX6_isStreetHelp, 1, (some .boolean)) (cd_X6_isStreetHelp, 1) := ⟨rfl, by decide +kernel, pc_X6_isStreetHelp, rfl, fun p e R s m args below meth c n0 z0 d H0 rv hf E hC hF hRm hE hr hlk hnm => sm_X6_isStreetHelp hC hF hRm hE hr hlk⟩
theorem ro_X6_bounded : aRow l D cA ad bs X (yX6_bounded, cX6_bounded, 3, (some .int)) (cd_X6_bounded, 3) := ⟨rfl, by decide +kernel, pc_X6_bounded, rfl, fun p e R s m args below meth c n0 z0 d H0 rv hf E hC hF hRm hE hr hlk hnm => sm_X6_bounded hC hF hRm hE hr hlk⟩
theorem ro_X6_inLowestTerms : aRow l D cA ad bs X (yX6_inLowestTerms, cX6_inLowestTerms, 12, (some .long)) (cd_X6_inLowestTerms, 12) := ⟨rfl, by decide +kernel, pc_X6_inLowestTerms, rfl, fun p e R s m args below meth c n0 z0 d H0 rv hf E hC hF hRm hE hr hlk hnm => sm_X6_inLowestTerms hC hF hRm hE hr hlk⟩
theorem ro_X7_in : aRow l D cA ad bs X (yX7_in, cX7_in, 6, (some .boolean)) (cd_X7_in, 6) := ⟨rfl, by decide +kernel, pc_X7_in, rfl, fun p e R s m args below meth c n0 z0 d H0 rv hf E hC hF hRm hE hr hlk hnm => sm_X7_in hC hF hRm hE hr hlk⟩
theorem ro_X7_within : aRow l D cA ad bs X (yX7_within, cX7_within, 3, (some .int)) (cd_X7_within, 3) := ⟨rfl, by decide +kernel, pc_X7_within, rfl, fun p e R s m args below meth c n0 z0 d H0 rv hf E hC hF hRm hE hr hlk hnm => sm_X7_within hC hF hRm hE hr hlk⟩
theorem ro_X7_init : aRow l D cA ad bs X (yX7_init, cX7_init, 2, none) (cd_X7_init, 2) := ⟨rfl, by decide +kernel, pc_X7_init, rfl, fun p e R s m args below meth c n0 z0 d H0 rv hf E hC hF hRm hE hr hlk hnm => sm_X7_init hC hF hRm hE hr hlk hnm⟩
theorem ro_X7_spell : aRow l D cA ad bs X (yX7_spell, cX7_spell, 10, none) (cd_X7_spell, 10) := ⟨rfl, by decide +kernel, pc_X7_spell, rfl, fun p e R s m args below meth c n0 z0 d H0 rv hf E hC hF hRm hE hr hlk hnm => sm_X7_spell hC hF hRm hE hr hlk⟩
theorem ro_X7_isOne : aRow l D cA ad bs X (yX7_isOne, cX7_isOne, 2, (some .boolean)) (cd_X7_isOne, 2) := ⟨rfl, by decide +kernel, pc_X7_isOne, rfl, fun p e R s m args below meth c n0 z0 d H0 rv hf E hC hF hRm hE hr hlk hnm => sm_X7_isOne hC hF hRm hE hr hlk⟩
theorem ro_X7_isStreet : aRow l D cA ad bs X (yX7_isStreet, cX7_isStreet, 1, (some .boolean)) (cd_X7_isStreet, 1) := ⟨rfl, by decide +kernel, pc_X7_isStreet, rfl, fun p e R s m args below meth c n0 z0 d H0 rv hf E hC hF hRm hE hr hlk hnm => sm_X7_isStreet hC hF hRm hE hr hlk⟩
theorem ro_X7_at : aRow l D cA ad bs X (yX7_at, cX7_at, 2, (some .int)) (cd_X7_at, 2) := ⟨rfl, by decide +kernel, pc_X7_at, rfl, fun p e R s m args below meth c n0 z0 d H0 rv hf E hC hF hRm hE hr hlk hnm => sm_X7_at hC hF hRm hE hr hlk⟩
theorem ro_X7_mostOf : aRow l D cA ad bs X (yX7_mostOf, cX7_mostOf, 1, (some .int)) (cd_X7_mostOf, 1) := ⟨rfl, by decide +kernel, pc_X7_mostOf, rfl, fun p e R s m args below meth c n0 z0 d H0 rv hf E hC hF hRm hE hr hlk hnm => sm_X7_mostOf hC hF hRm hE hr hlk⟩
theorem ro_X7_isOf : aRow l D cA ad bs X (yX7_isOf, cX7_isOf, 3, (some .boolean)) (cd_X7_isOf, 3) := ⟨rfl, by decide +kernel, pc_X7_isOf, rfl, fun p e R s m args below meth c n0 z0 d H0 rv hf E hC hF hRm hE hr hlk hnm => sm_X7_isOf hC hF hRm hE hr hlk⟩
theorem ro_X7_set : aRow l D cA ad bs X (yX7_set, cX7_set, 5, (some .int)) (cd_X7_set, 5) := ⟨rfl, by decide +kernel, pc_X7_set, rfl, fun p e R s m args below meth c n0 z0 d H0 rv hf E hC hF hRm hE hr hlk hnm => sm_X7_set hC hF hRm hE hr hlk⟩
theorem ro_X7_lays : aRow l D cA ad bs X (yX7_lays, cX7_lays, 4, none) (cd_X7_lays, 4) := ⟨rfl, by decide +kernel, pc_X7_lays, rfl, fun p e R s m args below meth c n0 z0 d H0 rv hf E hC hF hRm hE hr hlk hnm => sm_X7_lays hC hF hRm hE hr hlk⟩
theorem ro_X7_learner : aRow l D cA ad bs X (yX7_learner, cX7_learner, 4, (some .int)) (cd_X7_learner, 4) := ⟨rfl, by decide +kernel, pc_X7_learner, rfl, fun p e R s m args below meth c n0 z0 d H0 rv hf E hC hF hRm hE hr hlk hnm => sm_X7_learner hC hF hRm hE hr hlk⟩
theorem ro_X7_told : aRow l D cA ad bs X (yX7_told, cX7_told, 3, (some .int)) (cd_X7_told, 3) := ⟨rfl, by decide +kernel, pc_X7_told, rfl, fun p e R s m args below meth c n0 z0 d H0 rv hf E hC hF hRm hE hr hlk hnm => sm_X7_told hC hF hRm hE hr hlk⟩
theorem ro_X7_feed : aRow l D cA ad bs X (yX7_feed, cX7_feed, 2, (some .int)) (cd_X7_feed, 2) := ⟨rfl, by decide +kernel, pc_X7_feed, rfl, fun p e R s m args below meth c n0 z0 d H0 rv hf E hC hF hRm hE hr hlk hnm => sm_X7_feed hC hF hRm hE hr hlk⟩
theorem ro_X7_byteAt : aRow l D cA ad bs X (yX7_byteAt, cX7_byteAt, 2, (some .int)) (cd_X7_byteAt, 2) := ⟨rfl, by decide +kernel, pc_X7_byteAt, rfl, fun p e R s m args below meth c n0 z0 d H0 rv hf E hC hF hRm hE hr hlk hnm => sm_X7_byteAt hC hF hRm hE hr hlk⟩
theorem ro_X7_next : aRow l D cA ad bs X (yX7_next, cX7_next, 3, none) (cd_X7_next, 3) := ⟨rfl, by decide +kernel, pc_X7_next, rfl, fun p e R s m args below meth c n0 z0 d H0 rv hf E hC hF hRm hE hr hlk hnm => sm_X7_next hC hF hRm hE hr hlk⟩
theorem ro_X7_fail : aRow l D cA ad bs X (yX7_fail, cX7_fail, 1, none) (cd_X7_fail, 1) := ⟨rfl, by decide +kernel, pc_X7_fail, rfl, fun p e R s m args below meth c n0 z0 d H0 rv hf E hC hF hRm hE hr hlk hnm => sm_X7_fail hC hF hRm hE hr hlk⟩
theorem ro_X7_isLetter : aRow l D cA ad bs X (yX7_isLetter, cX7_isLetter, 3, (some .boolean)) (cd_X7_isLetter, 3) := ⟨rfl, by decide +kernel, pc_X7_isLetter, rfl, fun p e R s m args below meth c n0 z0 d H0 rv hf E hC hF hRm hE hr hlk hnm => sm_X7_isLetter hC hF hRm hE hr hlk⟩
theorem ro_X7_isWord : aRow l D cA ad bs X (yX7_isWord, cX7_isWord, 9, (some .boolean)) (cd_X7_isWord, 9) := ⟨rfl, by decide +kernel, pc_X7_isWord, rfl, fun p e R s m args below meth c n0 z0 d H0 rv hf E hC hF hRm hE hr hlk hnm => sm_X7_isWord hC hF hRm hE hr hlk⟩
theorem ro_X7_isSign : aRow l D cA ad bs X (yX7_isSign, cX7_isSign, 2, (some .boolean)) (cd_X7_isSign, 2) := ⟨rfl, by decide +kernel, pc_X7_isSign, rfl, fun p e R s m args below meth c n0 z0 d H0 rv hf E hC hF hRm hE hr hlk hnm => sm_X7_isSign hC hF hRm hE hr hlk⟩
theorem ro_X7_opens : aRow l D cA ad bs X (yX7_opens, cX7_opens, 1, (some .boolean)) (cd_X7_opens, 1) := ⟨rfl, by decide +kernel, pc_X7_opens, rfl, fun p e R s m args below meth c n0 z0 d H0 rv hf E hC hF hRm hE hr hlk hnm => sm_X7_opens hC hF hRm hE hr hlk⟩
theorem ro_X7_name : aRow l D cA ad bs X (yX7_name, cX7_name, 1, (some .int)) (cd_X7_name, 1) := ⟨rfl, by decide +kernel, pc_X7_name, rfl, fun p e R s m args below meth c n0 z0 d H0 rv hf E hC hF hRm hE hr hlk hnm => sm_X7_name hC hF hRm hE hr hlk⟩
theorem ro_X7_atom5 : aRow l D cA ad bs X (yX7_atom5, cX7_atom5, 2, (some .int)) (cd_X7_atom5, 2) := ⟨rfl, by decide +kernel, pc_X7_atom5, rfl, fun p e R s m args below meth c n0 z0 d H0 rv hf E hC hF hRm hE hr hlk hnm => sm_X7_atom5 hC hF hRm hE hr hlk⟩
theorem ro_X7_term5 : aRow l D cA ad bs X (yX7_term5, cX7_term5, 2, (some .int)) (cd_X7_term5, 2) := ⟨rfl, by decide +kernel, pc_X7_term5, rfl, fun p e R s m args below meth c n0 z0 d H0 rv hf E hC hF hRm hE hr hlk hnm => sm_X7_term5 hC hF hRm hE hr hlk⟩
theorem ro_X7_added5 : aRow l D cA ad bs X (yX7_added5, cX7_added5, 4, (some .int)) (cd_X7_added5, 4) := ⟨rfl, by decide +kernel, pc_X7_added5, rfl, fun p e R s m args below meth c n0 z0 d H0 rv hf E hC hF hRm hE hr hlk hnm => sm_X7_added5 hC hF hRm hE hr hlk⟩
theorem ro_X7_not5 : aRow l D cA ad bs X (yX7_not5, cX7_not5, 4, (some .int)) (cd_X7_not5, 4) := ⟨rfl, by decide +kernel, pc_X7_not5, rfl, fun p e R s m args below meth c n0 z0 d H0 rv hf E hC hF hRm hE hr hlk hnm => sm_X7_not5 hC hF hRm hE hr hlk⟩
theorem ro_X7_both5 : aRow l D cA ad bs X (yX7_both5, cX7_both5, 3, (some .int)) (cd_X7_both5, 3) := ⟨rfl, by decide +kernel, pc_X7_both5, rfl, fun p e R s m args below meth c n0 z0 d H0 rv hf E hC hF hRm hE hr hlk hnm => sm_X7_both5 hC hF hRm hE hr hlk⟩
theorem ro_X7_either5 : aRow l D cA ad bs X (yX7_either5, cX7_either5, 3, (some .int)) (cd_X7_either5, 3) := ⟨rfl, by decide +kernel, pc_X7_either5, rfl, fun p e R s m args below meth c n0 z0 d H0 rv hf E hC hF hRm hE hr hlk hnm => sm_X7_either5 hC hF hRm hE hr hlk⟩
theorem ro_X7_atom4 : aRow l D cA ad bs X (yX7_atom4, cX7_atom4, 2, (some .int)) (cd_X7_atom4, 2) := ⟨rfl, by decide +kernel, pc_X7_atom4, rfl, fun p e R s m args below meth c n0 z0 d H0 rv hf E hC hF hRm hE hr hlk hnm => sm_X7_atom4 hC hF hRm hE hr hlk⟩
theorem ro_X7_term4 : aRow l D cA ad bs X (yX7_term4, cX7_term4, 2, (some .int)) (cd_X7_term4, 2) := ⟨rfl, by decide +kernel, pc_X7_term4, rfl, fun p e R s m args below meth c n0 z0 d H0 rv hf E hC hF hRm hE hr hlk hnm => sm_X7_term4 hC hF hRm hE hr hlk⟩
theorem ro_X7_added4 : aRow l D cA ad bs X (yX7_added4, cX7_added4, 4, (some .int)) (cd_X7_added4, 4) := ⟨rfl, by decide +kernel, pc_X7_added4, rfl, fun p e R s m args below meth c n0 z0 d H0 rv hf E hC hF hRm hE hr hlk hnm => sm_X7_added4 hC hF hRm hE hr hlk⟩
theorem ro_X7_not4 : aRow l D cA ad bs X (yX7_not4, cX7_not4, 4, (some .int)) (cd_X7_not4, 4) := ⟨rfl, by decide +kernel, pc_X7_not4, rfl, fun p e R s m args below meth c n0 z0 d H0 rv hf E hC hF hRm hE hr hlk hnm => sm_X7_not4 hC hF hRm hE hr hlk⟩
theorem ro_X7_both4 : aRow l D cA ad bs X (yX7_both4, cX7_both4, 3, (some .int)) (cd_X7_both4, 3) := ⟨rfl, by decide +kernel, pc_X7_both4, rfl, fun p e R s m args below meth c n0 z0 d H0 rv hf E hC hF hRm hE hr hlk hnm => sm_X7_both4 hC hF hRm hE hr hlk⟩
theorem ro_X7_either4 : aRow l D cA ad bs X (yX7_either4, cX7_either4, 3, (some .int)) (cd_X7_either4, 3) := ⟨rfl, by decide +kernel, pc_X7_either4, rfl, fun p e R s m args below meth c n0 z0 d H0 rv hf E hC hF hRm hE hr hlk hnm => sm_X7_either4 hC hF hRm hE hr hlk⟩
theorem ro_X7_atom3 : aRow l D cA ad bs X (yX7_atom3, cX7_atom3, 2, (some .int)) (cd_X7_atom3, 2) := ⟨rfl, by decide +kernel, pc_X7_atom3, rfl, fun p e R s m args below meth c n0 z0 d H0 rv hf E hC hF hRm hE hr hlk hnm => sm_X7_atom3 hC hF hRm hE hr hlk⟩
theorem ro_X7_term3 : aRow l D cA ad bs X (yX7_term3, cX7_term3, 2, (some .int)) (cd_X7_term3, 2) := ⟨rfl, by decide +kernel, pc_X7_term3, rfl, fun p e R s m args below meth c n0 z0 d H0 rv hf E hC hF hRm hE hr hlk hnm => sm_X7_term3 hC hF hRm hE hr hlk⟩
theorem ro_X7_added3 : aRow l D cA ad bs X (yX7_added3, cX7_added3, 4, (some .int)) (cd_X7_added3, 4) := ⟨rfl, by decide +kernel, pc_X7_added3, rfl, fun p e R s m args below meth c n0 z0 d H0 rv hf E hC hF hRm hE hr hlk hnm => sm_X7_added3 hC hF hRm hE hr hlk⟩
theorem ro_X7_not3 : aRow l D cA ad bs X (yX7_not3, cX7_not3, 4, (some .int)) (cd_X7_not3, 4) := ⟨rfl, by decide +kernel, pc_X7_not3, rfl, fun p e R s m args below meth c n0 z0 d H0 rv hf E hC hF hRm hE hr hlk hnm => sm_X7_not3 hC hF hRm hE hr hlk⟩
theorem ro_X7_both3 : aRow l D cA ad bs X (yX7_both3, cX7_both3, 3, (some .int)) (cd_X7_both3, 3) := ⟨rfl, by decide +kernel, pc_X7_both3, rfl, fun p e R s m args below meth c n0 z0 d H0 rv hf E hC hF hRm hE hr hlk hnm => sm_X7_both3 hC hF hRm hE hr hlk⟩
theorem ro_X7_either3 : aRow l D cA ad bs X (yX7_either3, cX7_either3, 3, (some .int)) (cd_X7_either3, 3) := ⟨rfl, by decide +kernel, pc_X7_either3, rfl, fun p e R s m args below meth c n0 z0 d H0 rv hf E hC hF hRm hE hr hlk hnm => sm_X7_either3 hC hF hRm hE hr hlk⟩
theorem ro_X7_atom2 : aRow l D cA ad bs X (yX7_atom2, cX7_atom2, 2, (some .int)) (cd_X7_atom2, 2) := ⟨rfl, by decide +kernel, pc_X7_atom2, rfl, fun p e R s m args below meth c n0 z0 d H0 rv hf E hC hF hRm hE hr hlk hnm => sm_X7_atom2 hC hF hRm hE hr hlk⟩
theorem ro_X7_term2 : aRow l D cA ad bs X (yX7_term2, cX7_term2, 2, (some .int)) (cd_X7_term2, 2) := ⟨rfl, by decide +kernel, pc_X7_term2, rfl, fun p e R s m args below meth c n0 z0 d H0 rv hf E hC hF hRm hE hr hlk hnm => sm_X7_term2 hC hF hRm hE hr hlk⟩
theorem ro_X7_added2 : aRow l D cA ad bs X (yX7_added2, cX7_added2, 4, (some .int)) (cd_X7_added2, 4) := ⟨rfl, by decide +kernel, pc_X7_added2, rfl, fun p e R s m args below meth c n0 z0 d H0 rv hf E hC hF hRm hE hr hlk hnm => sm_X7_added2 hC hF hRm hE hr hlk⟩
theorem ro_X7_not2 : aRow l D cA ad bs X (yX7_not2, cX7_not2, 4, (some .int)) (cd_X7_not2, 4) := ⟨rfl, by decide +kernel, pc_X7_not2, rfl, fun p e R s m args below meth c n0 z0 d H0 rv hf E hC hF hRm hE hr hlk hnm => sm_X7_not2 hC hF hRm hE hr hlk⟩
theorem ro_X7_both2 : aRow l D cA ad bs X (yX7_both2, cX7_both2, 3, (some .int)) (cd_X7_both2, 3) := ⟨rfl, by decide +kernel, pc_X7_both2, rfl, fun p e R s m args below meth c n0 z0 d H0 rv hf E hC hF hRm hE hr hlk hnm => sm_X7_both2 hC hF hRm hE hr hlk⟩
theorem ro_X7_either2 : aRow l D cA ad bs X (yX7_either2, cX7_either2, 3, (some .int)) (cd_X7_either2, 3) := ⟨rfl, by decide +kernel, pc_X7_either2, rfl, fun p e R s m args below meth c n0 z0 d H0 rv hf E hC hF hRm hE hr hlk hnm => sm_X7_either2 hC hF hRm hE hr hlk⟩
theorem ro_X7_atom1 : aRow l D cA ad bs X (yX7_atom1, cX7_atom1, 2, (some .int)) (cd_X7_atom1, 2) := ⟨rfl, by decide +kernel, pc_X7_atom1, rfl, fun p e R s m args below meth c n0 z0 d H0 rv hf E hC hF hRm hE hr hlk hnm => sm_X7_atom1 hC hF hRm hE hr hlk⟩
theorem ro_X7_term1 : aRow l D cA ad bs X (yX7_term1, cX7_term1, 2, (some .int)) (cd_X7_term1, 2) := ⟨rfl, by decide +kernel, pc_X7_term1, rfl, fun p e R s m args below meth c n0 z0 d H0 rv hf E hC hF hRm hE hr hlk hnm => sm_X7_term1 hC hF hRm hE hr hlk⟩
theorem ro_X7_added1 : aRow l D cA ad bs X (yX7_added1, cX7_added1, 4, (some .int)) (cd_X7_added1, 4) := ⟨rfl, by decide +kernel, pc_X7_added1, rfl, fun p e R s m args below meth c n0 z0 d H0 rv hf E hC hF hRm hE hr hlk hnm => sm_X7_added1 hC hF hRm hE hr hlk⟩
theorem ro_X7_not1 : aRow l D cA ad bs X (yX7_not1, cX7_not1, 4, (some .int)) (cd_X7_not1, 4) := ⟨rfl, by decide +kernel, pc_X7_not1, rfl, fun p e R s m args below meth c n0 z0 d H0 rv hf E hC hF hRm hE hr hlk hnm => sm_X7_not1 hC hF hRm hE hr hlk⟩
theorem ro_X7_both1 : aRow l D cA ad bs X (yX7_both1, cX7_both1, 3, (some .int)) (cd_X7_both1, 3) := ⟨rfl, by decide +kernel, pc_X7_both1, rfl, fun p e R s m args below meth c n0 z0 d H0 rv hf E hC hF hRm hE hr hlk hnm => sm_X7_both1 hC hF hRm hE hr hlk⟩
theorem ro_X7_either1 : aRow l D cA ad bs X (yX7_either1, cX7_either1, 3, (some .int)) (cd_X7_either1, 3) := ⟨rfl, by decide +kernel, pc_X7_either1, rfl, fun p e R s m args below meth c n0 z0 d H0 rv hf E hC hF hRm hE hr hlk hnm => sm_X7_either1 hC hF hRm hE hr hlk⟩
theorem ro_X7_atom0 : aRow l D cA ad bs X (yX7_atom0, cX7_atom0, 2, (some .int)) (cd_X7_atom0, 2) := ⟨rfl, by decide +kernel, pc_X7_atom0, rfl, fun p e R s m args below meth c n0 z0 d H0 rv hf E hC hF hRm hE hr hlk hnm => sm_X7_atom0 hC hF hRm hE hr hlk⟩
theorem ro_X7_term0 : aRow l D cA ad bs X (yX7_term0, cX7_term0, 2, (some .int)) (cd_X7_term0, 2) := ⟨rfl, by decide +kernel, pc_X7_term0, rfl, fun p e R s m args below meth c n0 z0 d H0 rv hf E hC hF hRm hE hr hlk hnm => sm_X7_term0 hC hF hRm hE hr hlk⟩
theorem ro_X7_added0 : aRow l D cA ad bs X (yX7_added0, cX7_added0, 4, (some .int)) (cd_X7_added0, 4) := ⟨rfl, by decide +kernel, pc_X7_added0, rfl, fun p e R s m args below meth c n0 z0 d H0 rv hf E hC hF hRm hE hr hlk hnm => sm_X7_added0 hC hF hRm hE hr hlk⟩
theorem ro_X7_not0 : aRow l D cA ad bs X (yX7_not0, cX7_not0, 4, (some .int)) (cd_X7_not0, 4) := ⟨rfl, by decide +kernel, pc_X7_not0, rfl, fun p e R s m args below meth c n0 z0 d H0 rv hf E hC hF hRm hE hr hlk hnm => sm_X7_not0 hC hF hRm hE hr hlk⟩
theorem ro_X7_both0 : aRow l D cA ad bs X (yX7_both0, cX7_both0, 3, (some .int)) (cd_X7_both0, 3) := ⟨rfl, by decide +kernel, pc_X7_both0, rfl, fun p e R s m args below meth c n0 z0 d H0 rv hf E hC hF hRm hE hr hlk hnm => sm_X7_both0 hC hF hRm hE hr hlk⟩
theorem ro_X7_either0 : aRow l D cA ad bs X (yX7_either0, cX7_either0, 3, (some .int)) (cd_X7_either0, 3) := ⟨rfl, by decide +kernel, pc_X7_either0, rfl, fun p e R s m args below meth c n0 z0 d H0 rv hf E hC hF hRm hE hr hlk hnm => sm_X7_either0 hC hF hRm hE hr hlk⟩
theorem ro_X7_part : aRow l D cA ad bs X (yX7_part, cX7_part, 3, (some .int)) (cd_X7_part, 3) := ⟨rfl, by decide +kernel, pc_X7_part, rfl, fun p e R s m args below meth c n0 z0 d H0 rv hf E hC hF hRm hE hr hlk hnm => sm_X7_part hC hF hRm hE hr hlk⟩
theorem ro_X7_read : aRow l D cA ad bs X (yX7_read, cX7_read, 6, (some .int)) (cd_X7_read, 6) := ⟨rfl, by decide +kernel, pc_X7_read, rfl, fun p e R s m args below meth c n0 z0 d H0 rv hf E hC hF hRm hE hr hlk hnm => sm_X7_read hC hF hRm hE hr hlk⟩
theorem ro_X7_text : aRow l D cA ad bs X (yX7_text, cX7_text, 2, (some .int)) (cd_X7_text, 2) := ⟨rfl, by decide +kernel, pc_X7_text, rfl, fun p e R s m args below meth c n0 z0 d H0 rv hf E hC hF hRm hE hr hlk hnm => sm_X7_text hC hF hRm hE hr hlk⟩
theorem ro_X7_force : aRow l D cA ad bs X (yX7_force, cX7_force, 3, (some .int)) (cd_X7_force, 3) := ⟨rfl, by decide +kernel, pc_X7_force, rfl, fun p e R s m args below meth c n0 z0 d H0 rv hf E hC hF hRm hE hr hlk hnm => sm_X7_force hC hF hRm hE hr hlk⟩
theorem ro_X7_says : aRow l D cA ad bs X (yX7_says, cX7_says, 6, (some .int)) (cd_X7_says, 6) := ⟨rfl, by decide +kernel, pc_X7_says, rfl, fun p e R s m args below meth c n0 z0 d H0 rv hf E hC hF hRm hE hr hlk hnm => sm_X7_says hC hF hRm hE hr hlk⟩
theorem ro_X7_learnsOf : aRow l D cA ad bs X (yX7_learnsOf, cX7_learnsOf, 9, (some .int)) (cd_X7_learnsOf, 9) := ⟨rfl, by decide +kernel, pc_X7_learnsOf, rfl, fun p e R s m args below meth c n0 z0 d H0 rv hf E hC hF hRm hE hr hlk hnm => sm_X7_learnsOf hC hF hRm hE hr hlk⟩
theorem ro_X7_forgetsOf : aRow l D cA ad bs X (yX7_forgetsOf, cX7_forgetsOf, 5, (some .int)) (cd_X7_forgetsOf, 5) := ⟨rfl, by decide +kernel, pc_X7_forgetsOf, rfl, fun p e R s m args below meth c n0 z0 d H0 rv hf E hC hF hRm hE hr hlk hnm => sm_X7_forgetsOf hC hF hRm hE hr hlk⟩
theorem ro_X7_nerveOf : aRow l D cA ad bs X (yX7_nerveOf, cX7_nerveOf, 5, (some .int)) (cd_X7_nerveOf, 5) := ⟨rfl, by decide +kernel, pc_X7_nerveOf, rfl, fun p e R s m args below meth c n0 z0 d H0 rv hf E hC hF hRm hE hr hlk hnm => sm_X7_nerveOf hC hF hRm hE hr hlk⟩
theorem ro_X7_overOf : aRow l D cA ad bs X (yX7_overOf, cX7_overOf, 3, (some .int)) (cd_X7_overOf, 3) := ⟨rfl, by decide +kernel, pc_X7_overOf, rfl, fun p e R s m args below meth c n0 z0 d H0 rv hf E hC hF hRm hE hr hlk hnm => sm_X7_overOf hC hF hRm hE hr hlk⟩
theorem ro_X7_manages : aRow l D cA ad bs X (yX7_manages, cX7_manages, 3, (some .boolean)) (cd_X7_manages, 3) := ⟨rfl, by decide +kernel, pc_X7_manages, rfl, fun p e R s m args below meth c n0 z0 d H0 rv hf E hC hF hRm hE hr hlk hnm => sm_X7_manages hC hF hRm hE hr hlk⟩
theorem ro_X7_managedMany : aRow l D cA ad bs X (yX7_managedMany, cX7_managedMany, 4, (some .int)) (cd_X7_managedMany, 4) := ⟨rfl, by decide +kernel, pc_X7_managedMany, rfl, fun p e R s m args below meth c n0 z0 d H0 rv hf E hC hF hRm hE hr hlk hnm => sm_X7_managedMany hC hF hRm hE hr hlk⟩
theorem ro_X7_asks : aRow l D cA ad bs X (yX7_asks, cX7_asks, 4, (some .int)) (cd_X7_asks, 4) := ⟨rfl, by decide +kernel, pc_X7_asks, rfl, fun p e R s m args below meth c n0 z0 d H0 rv hf E hC hF hRm hE hr hlk hnm => sm_X7_asks hC hF hRm hE hr hlk⟩
theorem ro_X7_drives : aRow l D cA ad bs X (yX7_drives, cX7_drives, 6, none) (cd_X7_drives, 6) := ⟨rfl, by decide +kernel, pc_X7_drives, rfl, fun p e R s m args below meth c n0 z0 d H0 rv hf E hC hF hRm hE hr hlk hnm => sm_X7_drives hC hF hRm hE hr hlk⟩
theorem ro_X7_drive : aRow l D cA ad bs X (yX7_drive, cX7_drive, 4, (some .int)) (cd_X7_drive, 4) := ⟨rfl, by decide +kernel, pc_X7_drive, rfl, fun p e R s m args below meth c n0 z0 d H0 rv hf E hC hF hRm hE hr hlk hnm => sm_X7_drive hC hF hRm hE hr hlk⟩
theorem ro_X7_sleeps : aRow l D cA ad bs X (yX7_sleeps, cX7_sleeps, 3, none) (cd_X7_sleeps, 3) := ⟨rfl, by decide +kernel, pc_X7_sleeps, rfl, fun p e R s m args below meth c n0 z0 d H0 rv hf E hC hF hRm hE hr hlk hnm => sm_X7_sleeps hC hF hRm hE hr hlk⟩
theorem ro_X7_readyMany : aRow l D cA ad bs X (yX7_readyMany, cX7_readyMany, 3, (some .int)) (cd_X7_readyMany, 3) := ⟨rfl, by decide +kernel, pc_X7_readyMany, rfl, fun p e R s m args below meth c n0 z0 d H0 rv hf E hC hF hRm hE hr hlk hnm => sm_X7_readyMany hC hF hRm hE hr hlk⟩
theorem ro_X7_night : aRow l D cA ad bs X (yX7_night, cX7_night, 2, (some .int)) (cd_X7_night, 2) := ⟨rfl, by decide +kernel, pc_X7_night, rfl, fun p e R s m args below meth c n0 z0 d H0 rv hf E hC hF hRm hE hr hlk hnm => sm_X7_night hC hF hRm hE hr hlk⟩
theorem ro_X7_laysAside : aRow l D cA ad bs X (yX7_laysAside, cX7_laysAside, 3, none) (cd_X7_laysAside, 3) := ⟨rfl, by decide +kernel, pc_X7_laysAside, rfl, fun p e R s m args below meth c n0 z0 d H0 rv hf E hC hF hRm hE hr hlk hnm => sm_X7_laysAside hC hF hRm hE hr hlk⟩
theorem ro_X7_laysBack : aRow l D cA ad bs X (yX7_laysBack, cX7_laysBack, 3, none) (cd_X7_laysBack, 3) := ⟨rfl, by decide +kernel, pc_X7_laysBack, rfl, fun p e R s m args below meth c n0 z0 d H0 rv hf E hC hF hRm hE hr hlk hnm => sm_X7_laysBack hC hF hRm hE hr hlk⟩
theorem ro_X7_skillsOf : aRow l D cA ad bs X (yX7_skillsOf, cX7_skillsOf, 4, (some .int)) (cd_X7_skillsOf, 4) := ⟨rfl, by decide +kernel, pc_X7_skillsOf, rfl, fun p e R s m args below meth c n0 z0 d H0 rv hf E hC hF hRm hE hr hlk hnm => sm_X7_skillsOf hC hF hRm hE hr hlk⟩
theorem ro_X7_best : aRow l D cA ad bs X (yX7_best, cX7_best, 7, (some .int)) (cd_X7_best, 7) := ⟨rfl, by decide +kernel, pc_X7_best, rfl, fun p e R s m args below meth c n0 z0 d H0 rv hf E hC hF hRm hE hr hlk hnm => sm_X7_best hC hF hRm hE hr hlk⟩
theorem ro_X7_hours : aRow l D cA ad bs X (yX7_hours, cX7_hours, 13, (some .int)) (cd_X7_hours, 13) := ⟨rfl, by decide +kernel, pc_X7_hours, rfl, fun p e R s m args below meth c n0 z0 d H0 rv hf E hC hF hRm hE hr hlk hnm => sm_X7_hours hC hF hRm hE hr hlk⟩
theorem ro_X7_weakest : aRow l D cA ad bs X (yX7_weakest, cX7_weakest, 4, (some .int)) (cd_X7_weakest, 4) := ⟨rfl, by decide +kernel, pc_X7_weakest, rfl, fun p e R s m args below meth c n0 z0 d H0 rv hf E hC hF hRm hE hr hlk hnm => sm_X7_weakest hC hF hRm hE hr hlk⟩
theorem ro_X7_takes : aRow l D cA ad bs X (yX7_takes, cX7_takes, 7, (some .int)) (cd_X7_takes, 7) := ⟨rfl, by decide +kernel, pc_X7_takes, rfl, fun p e R s m args below meth c n0 z0 d H0 rv hf E hC hF hRm hE hr hlk hnm => sm_X7_takes hC hF hRm hE hr hlk⟩
theorem ro_X7_late : aRow l D cA ad bs X (yX7_late, cX7_late, 4, (some .int)) (cd_X7_late, 4) := ⟨rfl, by decide +kernel, pc_X7_late, rfl, fun p e R s m args below meth c n0 z0 d H0 rv hf E hC hF hRm hE hr hlk hnm => sm_X7_late hC hF hRm hE hr hlk⟩
theorem ro_X7_gap : aRow l D cA ad bs X (yX7_gap, cX7_gap, 5, (some .int)) (cd_X7_gap, 5) := ⟨rfl, by decide +kernel, pc_X7_gap, rfl, fun p e R s m args below meth c n0 z0 d H0 rv hf E hC hF hRm hE hr hlk hnm => sm_X7_gap hC hF hRm hE hr hlk⟩
theorem ro_X7_faded : aRow l D cA ad bs X (yX7_faded, cX7_faded, 4, (some .int)) (cd_X7_faded, 4) := ⟨rfl, by decide +kernel, pc_X7_faded, rfl, fun p e R s m args below meth c n0 z0 d H0 rv hf E hC hF hRm hE hr hlk hnm => sm_X7_faded hC hF hRm hE hr hlk⟩
theorem ro_X7_lowest : aRow l D cA ad bs X (yX7_lowest, cX7_lowest, 11, (some .long)) (cd_X7_lowest, 11) := ⟨rfl, by decide +kernel, pc_X7_lowest, rfl, fun p e R s m args below meth c n0 z0 d H0 rv hf E hC hF hRm hE hr hlk hnm => sm_X7_lowest hC hF hRm hE hr hlk⟩
theorem ro_X7_test : aRow l D cA ad bs X (yX7_test, cX7_test, 9, (some .long)) (cd_X7_test, 9) := ⟨rfl, by decide +kernel, pc_X7_test, rfl, fun p e R s m args below meth c n0 z0 d H0 rv hf E hC hF hRm hE hr hlk hnm => sm_X7_test hC hF hRm hE hr hlk⟩
theorem ro_X7_firstOther : aRow l D cA ad bs X (yX7_firstOther, cX7_firstOther, 7, (some .int)) (cd_X7_firstOther, 7) := ⟨rfl, by decide +kernel, pc_X7_firstOther, rfl, fun p e R s m args below meth c n0 z0 d H0 rv hf E hC hF hRm hE hr hlk hnm => sm_X7_firstOther hC hF hRm hE hr hlk⟩
theorem ro_X7_isStreetHelp : aRow l D cA ad bs X (yX7_isStreetHelp, cX7_isStreetHelp, 1, (some .boolean)) (cd_X7_isStreetHelp, 1) := ⟨rfl, by decide +kernel, pc_X7_isStreetHelp, rfl, fun p e R s m args below meth c n0 z0 d H0 rv hf E hC hF hRm hE hr hlk hnm => sm_X7_isStreetHelp hC hF hRm hE hr hlk⟩
theorem ro_X7_helpsBy : aRow l D cA ad bs X (yX7_helpsBy, cX7_helpsBy, 6, (some .int)) (cd_X7_helpsBy, 6) := ⟨rfl, by decide +kernel, pc_X7_helpsBy, rfl, fun p e R s m args below meth c n0 z0 d H0 rv hf E hC hF hRm hE hr hlk hnm => sm_X7_helpsBy hC hF hRm hE hr hlk⟩
theorem ro_X7_tells : aRow l D cA ad bs X (yX7_tells, cX7_tells, 15, (some .int)) (cd_X7_tells, 15) := ⟨rfl, by decide +kernel, pc_X7_tells, rfl, fun p e R s m args below meth c n0 z0 d H0 rv hf E hC hF hRm hE hr hlk hnm => sm_X7_tells hC hF hRm hE hr hlk⟩
theorem ro_X7_film : aRow l D cA ad bs X (yX7_film, cX7_film, 6, (some .int)) (cd_X7_film, 6) := ⟨rfl, by decide +kernel, pc_X7_film, rfl, fun p e R s m args below meth c n0 z0 d H0 rv hf E hC hF hRm hE hr hlk hnm => sm_X7_film hC hF hRm hE hr hlk⟩
theorem ro_X7_passes : aRow l D cA ad bs X (yX7_passes, cX7_passes, 6, (some .int)) (cd_X7_passes, 6) := ⟨rfl, by decide +kernel, pc_X7_passes, rfl, fun p e R s m args below meth c n0 z0 d H0 rv hf E hC hF hRm hE hr hlk hnm => sm_X7_passes hC hF hRm hE hr hlk⟩
theorem ro_X7_drawn : aRow l D cA ad bs X (yX7_drawn, cX7_drawn, 3, (some .int)) (cd_X7_drawn, 3) := ⟨rfl, by decide +kernel, pc_X7_drawn, rfl, fun p e R s m args below meth c n0 z0 d H0 rv hf E hC hF hRm hE hr hlk hnm => sm_X7_drawn hC hF hRm hE hr hlk⟩
theorem ro_X7_chance : aRow l D cA ad bs X (yX7_chance, cX7_chance, 8, (some .long)) (cd_X7_chance, 8) := ⟨rfl, by decide +kernel, pc_X7_chance, rfl, fun p e R s m args below meth c n0 z0 d H0 rv hf E hC hF hRm hE hr hlk hnm => sm_X7_chance hC hF hRm hE hr hlk⟩
theorem ro_X7_image : aRow l D cA ad bs X (yX7_image, cX7_image, 2, (some .int)) (cd_X7_image, 2) := ⟨rfl, by decide +kernel, pc_X7_image, rfl, fun p e R s m args below meth c n0 z0 d H0 rv hf E hC hF hRm hE hr hlk hnm => sm_X7_image hC hF hRm hE hr hlk⟩
theorem ro_X7_back : aRow l D cA ad bs X (yX7_back, cX7_back, 2, (some .int)) (cd_X7_back, 2) := ⟨rfl, by decide +kernel, pc_X7_back, rfl, fun p e R s m args below meth c n0 z0 d H0 rv hf E hC hF hRm hE hr hlk hnm => sm_X7_back hC hF hRm hE hr hlk⟩
theorem ro_X7_count : aRow l D cA ad bs X (yX7_count, cX7_count, 4, (some .int)) (cd_X7_count, 4) := ⟨rfl, by decide +kernel, pc_X7_count, rfl, fun p e R s m args below meth c n0 z0 d H0 rv hf E hC hF hRm hE hr hlk hnm => sm_X7_count hC hF hRm hE hr hlk⟩
theorem ro_X7_isSheet : aRow l D cA ad bs X (yX7_isSheet, cX7_isSheet, 1, (some .boolean)) (cd_X7_isSheet, 1) := ⟨rfl, by decide +kernel, pc_X7_isSheet, rfl, fun p e R s m args below meth c n0 z0 d H0 rv hf E hC hF hRm hE hr hlk hnm => sm_X7_isSheet hC hF hRm hE hr hlk⟩
theorem ro_X7_sheet : aRow l D cA ad bs X (yX7_sheet, cX7_sheet, 5, (some .int)) (cd_X7_sheet, 5) := ⟨rfl, by decide +kernel, pc_X7_sheet, rfl, fun p e R s m args below meth c n0 z0 d H0 rv hf E hC hF hRm hE hr hlk hnm => sm_X7_sheet hC hF hRm hE hr hlk⟩
theorem ro_X7_cell : aRow l D cA ad bs X (yX7_cell, cX7_cell, 4, (some .int)) (cd_X7_cell, 4) := ⟨rfl, by decide +kernel, pc_X7_cell, rfl, fun p e R s m args below meth c n0 z0 d H0 rv hf E hC hF hRm hE hr hlk hnm => sm_X7_cell hC hF hRm hE hr hlk⟩
theorem ro_X7_copy : aRow l D cA ad bs X (yX7_copy, cX7_copy, 9, (some .int)) (cd_X7_copy, 9) := ⟨rfl, by decide +kernel, pc_X7_copy, rfl, fun p e R s m args below meth c n0 z0 d H0 rv hf E hC hF hRm hE hr hlk hnm => sm_X7_copy hC hF hRm hE hr hlk⟩
theorem ro_X7_learners : aRow l D cA ad bs X (yX7_learners, cX7_learners, 8, (some .int)) (cd_X7_learners, 8) := ⟨rfl, by decide +kernel, pc_X7_learners, rfl, fun p e R s m args below meth c n0 z0 d H0 rv hf E hC hF hRm hE hr hlk hnm => sm_X7_learners hC hF hRm hE hr hlk⟩
theorem ro_X7_over : aRow l D cA ad bs X (yX7_over, cX7_over, 1, (some .int)) (cd_X7_over, 1) := ⟨rfl, by decide +kernel, pc_X7_over, rfl, fun p e R s m args below meth c n0 z0 d H0 rv hf E hC hF hRm hE hr hlk hnm => sm_X7_over hC hF hRm hE hr hlk⟩
theorem ro_X7_taken : aRow l D cA ad bs X (yX7_taken, cX7_taken, 4, (some .int)) (cd_X7_taken, 4) := ⟨rfl, by decide +kernel, pc_X7_taken, rfl, fun p e R s m args below meth c n0 z0 d H0 rv hf E hC hF hRm hE hr hlk hnm => sm_X7_taken hC hF hRm hE hr hlk⟩
theorem ro_J0_length_8abf5 : aRow l D cA ad bs X (yJ0_length_8abf5, cJ0_length_8abf5, 1, (some .int)) (cd_J0_length_8abf5, 1) := ⟨rfl, by decide +kernel, pc_J0_length_8abf5, rfl, fun p e R s m args below meth c n0 z0 d H0 rv hf E hC hF hRm hE hr hlk hnm => sm_J0_length_8abf5 hC hF hRm hE hr hlk⟩
theorem ro_J0_coder_7d493 : aRow l D cA ad bs X (yJ0_coder_7d493, cJ0_coder_7d493, 1, (some .byte)) (cd_J0_coder_7d493, 1) := ⟨rfl, by decide +kernel, pc_J0_coder_7d493, rfl, fun p e R s m args below meth c n0 z0 d H0 rv hf E hC hF hRm hE hr hlk hnm => sm_J0_coder_7d493 hC hF hRm hE hr hlk⟩
theorem ro_J0_charAt_5068e : aRow l D cA ad bs X (yJ0_charAt_5068e, cJ0_charAt_5068e, 2, (some .char)) (cd_J0_charAt_5068e, 2) := ⟨rfl, by decide +kernel, pc_J0_charAt_5068e, rfl, fun p e R s m args below meth c n0 z0 d H0 rv hf E hC hF hRm hE hr hlk hnm => sm_J0_charAt_5068e hC hF hRm hE hr hlk⟩
theorem ro_J0_isLatin1_aae02 : aRow l D cA ad bs X (yJ0_isLatin1_aae02, cJ0_isLatin1_aae02, 1, (some .boolean)) (cd_J0_isLatin1_aae02, 1) := ⟨rfl, by decide +kernel, pc_J0_isLatin1_aae02, rfl, fun p e R s m args below meth c n0 z0 d H0 rv hf E hC hF hRm hE hr hlk hnm => sm_J0_isLatin1_aae02 hC hF hRm hE hr hlk⟩
theorem ro_J0_checkIndex_df160 : aRow l D cA ad bs X (yJ0_checkIndex_df160, cJ0_checkIndex_df160, 2, none) (cd_J0_checkIndex_df160 X, 2) := ⟨rfl, by decide +kernel, pc_J0_checkIndex_df160, rfl, fun p e R s m args below meth c n0 z0 d H0 rv hf E hC hF hRm hE hr hlk hnm => sm_J0_checkIndex_df160 hC hF hRm hE hr hlk⟩
theorem ro_J1_charAt_3b067 : aRow l D cA ad bs X (yJ1_charAt_3b067, cJ1_charAt_3b067, 2, (some .char)) (cd_J1_charAt_3b067, 2) := ⟨rfl, by decide +kernel, pc_J1_charAt_3b067, rfl, fun p e R s m args below meth c n0 z0 d H0 rv hf E hC hF hRm hE hr hlk hnm => sm_J1_charAt_3b067 hC hF hRm hE hr hlk⟩
theorem ro_J3_checkIndex_8e157 : aRow l D cA ad bs X (yJ3_checkIndex_8e157, cJ3_checkIndex_8e157, 3, (some .int)) (cd_J3_checkIndex_8e157, 3) := ⟨rfl, by decide +kernel, pc_J3_checkIndex_8e157, rfl, fun p e R s m args below meth c n0 z0 d H0 rv hf E hC hF hRm hE hr hlk hnm => sm_J3_checkIndex_8e157 hC hF hRm hE hr hlk⟩
theorem ro_J7_fill_53178 : aRow l D cA ad bs X (yJ7_fill_53178, cJ7_fill_53178, 4, none) (cd_J7_fill_53178, 4) := ⟨rfl, by decide +kernel, pc_J7_fill_53178, rfl, fun p e R s m args below meth c n0 z0 d H0 rv hf E hC hF hRm hE hr hlk hnm => sm_J7_fill_53178 hC hF hRm hE hr hlk⟩
set_option maxRecDepth 20000 in
theorem a_rows : aRows (aRow l D cA ad bs X) aInfL (aTbL X) := by
  unfold aInfL aTbL
  refine aRows_c ro_X0_init ?_
  refine aRows_c ro_X0_begin ?_
  refine aRows_c ro_X0_become ?_
  refine aRows_c ro_X0_valueOf ?_
  refine aRows_c ro_X0_put ?_
  refine aRows_c ro_X0_mostOf ?_
  refine aRows_c ro_X0_learnsOf ?_
  refine aRows_c ro_X0_forgetsOf ?_
  refine aRows_c ro_X0_nerveOf ?_
  refine aRows_c ro_X0_isOfKind ?_
  refine aRows_c ro_X0_leastSkilled ?_
  refine aRows_c ro_X0_skillsTogether ?_
  refine aRows_c ro_X1_init ?_
  refine aRows_c ro_X1_take ?_
  refine aRows_c ro_X1_readInto ?_
  refine aRows_c ro_X1_readPart ?_
  refine aRows_c ro_X1_readOr ?_
  refine aRows_c ro_X1_readAnd ?_
  refine aRows_c ro_X1_readNot ?_
  refine aRows_c ro_X1_readLike ?_
  refine aRows_c ro_X1_readSum ?_
  refine aRows_c ro_X1_readTerm ?_
  refine aRows_c ro_X1_readOne ?_
  refine aRows_c ro_X1_step ?_
  refine aRows_c ro_X1_skip ?_
  refine aRows_c ro_X1_byteAt ?_
  refine aRows_c ro_X1_signAt ?_
  refine aRows_c ro_X1_numberAt ?_
  refine aRows_c ro_X1_wordAt ?_
  refine aRows_c ro_X1_reads ?_
  refine aRows_c ro_X2_init ?_
  refine aRows_c ro_X2_become ?_
  refine aRows_c ro_X2_has ?_
  refine aRows_c ro_X2_hasRun ?_
  refine aRows_c ro_X2_put ?_
  refine aRows_c ro_X3_init ?_
  refine aRows_c ro_X3_empty ?_
  refine aRows_c ro_X3_become ?_
  refine aRows_c ro_X3_add ?_
  refine aRows_c ro_X3_endPart ?_
  refine aRows_c ro_X3_value ?_
  refine aRows_c ro_X3_named ?_
  refine aRows_c ro_X3_joined ?_
  refine aRows_c ro_X4_init ?_
  refine aRows_c ro_X4_begin ?_
  refine aRows_c ro_X4_bestHour ?_
  refine aRows_c ro_X4_beginRows ?_
  refine aRows_c ro_X4_tryRows ?_
  refine aRows_c ro_X4_daysTill ?_
  refine aRows_c ro_X4_passNight ?_
  refine aRows_c ro_X4_bumpsTill ?_
  refine aRows_c ro_X4_managedBehind ?_
  refine aRows_c ro_X4_firstOtherwise ?_
  refine aRows_c ro_X5_init ?_
  refine aRows_c ro_X5_become ?_
  refine aRows_c ro_X5_name ?_
  refine aRows_c ro_X5_learns ?_
  refine aRows_c ro_X5_forgets ?_
  refine aRows_c ro_X5_nerve ?_
  refine aRows_c ro_X5_margin ?_
  refine aRows_c ro_X5_managedBy ?_
  refine aRows_c ro_X5_isReady ?_
  refine aRows_c ro_X5_leastManaged ?_
  refine aRows_c ro_X5_spendHour ?_
  refine aRows_c ro_X5_sleep ?_
  refine aRows_c ro_X6_init ?_
  refine aRows_c ro_X6_set ?_
  refine aRows_c ro_X6_setDay ?_
  refine aRows_c ro_X6_setHard ?_
  refine aRows_c ro_X6_learner ?_
  refine aRows_c ro_X6_comes ?_
  refine aRows_c ro_X6_told ?_
  refine aRows_c ro_X6_asks ?_
  refine aRows_c ro_X6_feed ?_
  refine aRows_c ro_X6_text ?_
  refine aRows_c ro_X6_force ?_
  refine aRows_c ro_X6_drive ?_
  refine aRows_c ro_X6_night ?_
  refine aRows_c ro_X6_readyPupils ?_
  refine aRows_c ro_X6_best ?_
  refine aRows_c ro_X6_hours ?_
  refine aRows_c ro_X6_takes ?_
  refine aRows_c ro_X6_late ?_
  refine aRows_c ro_X6_gap ?_
  refine aRows_c ro_X6_faded ?_
  refine aRows_c ro_X6_test ?_
  refine aRows_c ro_X6_tells ?_
  refine aRows_c ro_X6_guessesOf ?_
  refine aRows_c ro_X6_suppose ?_
  refine aRows_c ro_X6_film ?_
  refine aRows_c ro_X6_drawn ?_
  refine aRows_c ro_X6_chance ?_
  refine aRows_c ro_X6_passedBy ?_
  refine aRows_c ro_X6_drawnOn ?_
  refine aRows_c ro_X6_image ?_
  refine aRows_c ro_X6_back ?_
  refine aRows_c ro_X6_count ?_
  refine aRows_c ro_X6_bumpsOfAll ?_
  refine aRows_c ro_X6_sheet ?_
  refine aRows_c ro_X6_cell ?_
  refine aRows_c ro_X6_copy ?_
  refine aRows_c ro_X6_learners ?_
  refine aRows_c ro_X6_taken ?_
  refine aRows_c ro_X6_pupilAt ?_
  refine aRows_c ro_X6_textAt ?_
  refine aRows_c ro_X6_sheetAt ?_
  refine aRows_c ro_X6_isStreet ?_
  refine aRows_c ro_X6_isHelp ?_
  refine aRows_c ro_X6_isStreetHelp ?_
  refine aRows_c ro_X6_bounded ?_
  refine aRows_c ro_X6_inLowestTerms ?_
  refine aRows_c ro_X7_in ?_
  refine aRows_c ro_X7_within ?_
  refine aRows_c ro_X7_init ?_
  refine aRows_c ro_X7_spell ?_
  refine aRows_c ro_X7_isOne ?_
  refine aRows_c ro_X7_isStreet ?_
  refine aRows_c ro_X7_at ?_
  refine aRows_c ro_X7_mostOf ?_
  refine aRows_c ro_X7_isOf ?_
  refine aRows_c ro_X7_set ?_
  refine aRows_c ro_X7_lays ?_
  refine aRows_c ro_X7_learner ?_
  refine aRows_c ro_X7_told ?_
  refine aRows_c ro_X7_feed ?_
  refine aRows_c ro_X7_byteAt ?_
  refine aRows_c ro_X7_next ?_
  refine aRows_c ro_X7_fail ?_
  refine aRows_c ro_X7_isLetter ?_
  refine aRows_c ro_X7_isWord ?_
  refine aRows_c ro_X7_isSign ?_
  refine aRows_c ro_X7_opens ?_
  refine aRows_c ro_X7_name ?_
  refine aRows_c ro_X7_atom5 ?_
  refine aRows_c ro_X7_term5 ?_
  refine aRows_c ro_X7_added5 ?_
  refine aRows_c ro_X7_not5 ?_
  refine aRows_c ro_X7_both5 ?_
  refine aRows_c ro_X7_either5 ?_
  refine aRows_c ro_X7_atom4 ?_
  refine aRows_c ro_X7_term4 ?_
  refine aRows_c ro_X7_added4 ?_
  refine aRows_c ro_X7_not4 ?_
  refine aRows_c ro_X7_both4 ?_
  refine aRows_c ro_X7_either4 ?_
  refine aRows_c ro_X7_atom3 ?_
  refine aRows_c ro_X7_term3 ?_
  refine aRows_c ro_X7_added3 ?_
  refine aRows_c ro_X7_not3 ?_
  refine aRows_c ro_X7_both3 ?_
  refine aRows_c ro_X7_either3 ?_
  refine aRows_c ro_X7_atom2 ?_
  refine aRows_c ro_X7_term2 ?_
  refine aRows_c ro_X7_added2 ?_
  refine aRows_c ro_X7_not2 ?_
  refine aRows_c ro_X7_both2 ?_
  refine aRows_c ro_X7_either2 ?_
  refine aRows_c ro_X7_atom1 ?_
  refine aRows_c ro_X7_term1 ?_
  refine aRows_c ro_X7_added1 ?_
  refine aRows_c ro_X7_not1 ?_
  refine aRows_c ro_X7_both1 ?_
  refine aRows_c ro_X7_either1 ?_
  refine aRows_c ro_X7_atom0 ?_
  refine aRows_c ro_X7_term0 ?_
  refine aRows_c ro_X7_added0 ?_
  refine aRows_c ro_X7_not0 ?_
  refine aRows_c ro_X7_both0 ?_
  refine aRows_c ro_X7_either0 ?_
  refine aRows_c ro_X7_part ?_
  refine aRows_c ro_X7_read ?_
  refine aRows_c ro_X7_text ?_
  refine aRows_c ro_X7_force ?_
  refine aRows_c ro_X7_says ?_
  refine aRows_c ro_X7_learnsOf ?_
  refine aRows_c ro_X7_forgetsOf ?_
  refine aRows_c ro_X7_nerveOf ?_
  refine aRows_c ro_X7_overOf ?_
  refine aRows_c ro_X7_manages ?_
  refine aRows_c ro_X7_managedMany ?_
  refine aRows_c ro_X7_asks ?_
  refine aRows_c ro_X7_drives ?_
  refine aRows_c ro_X7_drive ?_
  refine aRows_c ro_X7_sleeps ?_
  refine aRows_c ro_X7_readyMany ?_
  refine aRows_c ro_X7_night ?_
  refine aRows_c ro_X7_laysAside ?_
  refine aRows_c ro_X7_laysBack ?_
  refine aRows_c ro_X7_skillsOf ?_
  refine aRows_c ro_X7_best ?_
  refine aRows_c ro_X7_hours ?_
  refine aRows_c ro_X7_weakest ?_
  refine aRows_c ro_X7_takes ?_
  refine aRows_c ro_X7_late ?_
  refine aRows_c ro_X7_gap ?_
  refine aRows_c ro_X7_faded ?_
  refine aRows_c ro_X7_lowest ?_
  refine aRows_c ro_X7_test ?_
  refine aRows_c ro_X7_firstOther ?_
  refine aRows_c ro_X7_isStreetHelp ?_
  refine aRows_c ro_X7_helpsBy ?_
  refine aRows_c ro_X7_tells ?_
  refine aRows_c ro_X7_film ?_
  refine aRows_c ro_X7_passes ?_
  refine aRows_c ro_X7_drawn ?_
  refine aRows_c ro_X7_chance ?_
  refine aRows_c ro_X7_image ?_
  refine aRows_c ro_X7_back ?_
  refine aRows_c ro_X7_count ?_
  refine aRows_c ro_X7_isSheet ?_
  refine aRows_c ro_X7_sheet ?_
  refine aRows_c ro_X7_cell ?_
  refine aRows_c ro_X7_copy ?_
  refine aRows_c ro_X7_learners ?_
  refine aRows_c ro_X7_over ?_
  refine aRows_c ro_X7_taken ?_
  refine aRows_c ro_J0_length_8abf5 ?_
  refine aRows_c ro_J0_coder_7d493 ?_
  refine aRows_c ro_J0_charAt_5068e ?_
  refine aRows_c ro_J0_isLatin1_aae02 ?_
  refine aRows_c ro_J0_checkIndex_df160 ?_
  refine aRows_c ro_J1_charAt_3b067 ?_
  refine aRows_c ro_J3_checkIndex_8e157 ?_
  refine aRows_c ro_J7_fill_53178 ?_
  exact aRows_n
/-- SOUNDNESS -/
theorem a_sound (had : aAd ad bs) : ∀ d : Nat, aCalls l D cA ad bs X d (aEx (aTb X) d) := by
  intro d
  induction d with
  | zero => exact fun mid y cc maxL ret _ as h v h1 q => absurd q (by unfold aEx; exact fun z => z)
  | succ d ih =>
    intro mid y cc maxL ret hi as h v h1 q
    unfold aEx at q
    obtain ⟨q1, cd, nL, n, q2, q3, q4⟩ := q
    exact a_body (q := (y, cc, maxL, ret)) (w := (cd, nL)) had (aRows_at a_rows hi q2) ih (fun _ _ _ _ _ z => aEx_le z) q3 q1 q4
end ALL
