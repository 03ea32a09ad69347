/-! One instruction of the abstract machine is one of the machine. -/
def atys (cA : Nat → ClassId) : List (ClassId × FieldType) := [(cA 0, .int), (cA 1, .boolean), (cA 2, .object RX3), (cA 3, .object RX0), (cA 4, .object RX2)]
/-- what a state of the abstract machine says of the machine's: locals, heap, room -/
def aRel (ad : Nat → Nat) (cA : Nat → ClassId) (D : va_G) (bs nL n0 z0 : Nat) (H0 : Heap) (s : aSt) (H : Heap) (locs : List Loc) (ls : Array Slot) (cells slots : Nat) : Prop :=
  lv_has ls nL (aAL ad 0 s.2.1) ∧ s.2.1.length = nL ∧ va_P D vwCl (awld ad cA s.2.2.2) H ∧ va_S (aA bs) H0 H locs ∧ s.2.2.2.1.1 = s.2.2.2.1.2.2.length ∧ s.2.2.2.1.1 ≤ aCAP ∧ n0 + cells = s.2.2.2.1.1 ∧ z0 + slots = s.2.2.2.1.2.1
/-- the arrays and texts that stand outside -/
def aXok (X : aXt) (ad : Nat → Nat) (bs : Nat) (U : State) (H : Heap) : Prop := ∀ (k n : Nat) (f : Nat → Int32), X k = some (n, f) → aCAP ≤ k ∧ va_T .int (ad k) n (fun j => .int (f j)) (aA bs) U H
/-- the words that are carried by hand -/
def aNst (U : State) : Prop := va_Nw (.methodLinkNest RX0 40 yX6_isStreet RX6) U ∧ va_Nw (.methodLinkNest RX5 59 yX6_bounded RX6) U ∧ va_Nw (.methodLinkNest RX6 187 yX4_tryRows RX6) U ∧ va_Nw (.methodLinkNest RX2 19 yX6_bounded RX6) U ∧ va_AO RX3 U ∧ va_AO RX0 U ∧ va_AO RX2 U ∧ va_Nw (.fieldLinkNest RX0 57 RX6 "UNDER" "[I" RX6) U
/-- constant texts and static fields -/
def aVAL : Nat := 300000
def aUND : Nat := 150000
def aSIO : Nat := 160000
def alen : List Nat := atx.map List.length
def abyt : List (List Int32) := atx.map (fun t => t.map Int32.ofNat)
def atxs : List (String × Nat × String) := [(RX6, 46, "teaches 8 - done + help ; fades 1 ; nerves 5 ;"), (RX1, 100, "skill"), (RX1, 106, "hard"), (RX1, 108, "help"), (RX1, 110, "number"), (RX1, 112, "day"), (RX1, 114, "done"), (RX1, 116, "teaches"), (RX1, 118, "fades"), (RX1, 120, "nerves"), (RX1, 122, "or"), (RX1, 124, "and"), (RX1, 126, "not")]
def aTxt (ad : Nat → Nat) (bs : Nat) (sv : Value) (U : State) (H : Heap) : Prop := vk_S 13 alen abyt (fun k => ad (aSTR + k)) (fun k => ad (aVAL + k)) (aA bs) U H ∧ (∀ k, k < 13 → ∀ q, atxs[k]? = some q → vk_R q.1 q.2.1 q.2.2 (ad (aSTR + k)) U) ∧ va_Z "java/lang/String" "COMPACT_STRINGS" "Z" (.int 1) (aA bs) U H ∧ va_Z "jdk/internal/util/Preconditions" "SIOOBE_FORMATTER" "Ljava/util/function/BiFunction;" (acv ad sv) (aA bs) U H ∧ va_Z RX6 "UNDER" "[I" (.ref (ad aUND)) (aA bs) U H ∧ (sv = .null ∨ ∃ k, sv = .ref k)
/-- all that stands outside -/
def aOut (ad : Nat → Nat) (bs : Nat) (sv : Value) (U : State) (H : Heap) : Prop := aNst U ∧ aTxt ad bs sv U H
theorem aNst_warm {s U : State} (hW : s.WarmedH U.vm) (h : aNst s) : aNst U := ⟨va_Nw.warmM hW h.1, va_Nw.warmM hW h.2.1, va_Nw.warmM hW h.2.2.1, va_Nw.warmM hW h.2.2.2.1, va_AO.moved hW.alike h.2.2.2.2.1, va_AO.moved hW.alike h.2.2.2.2.2.1, va_AO.moved hW.alike h.2.2.2.2.2.2.1, va_Nw.warmF hW h.2.2.2.2.2.2.2⟩
theorem aNst_same {s U : State} (hv : s.vm = U.vm) (h : aNst s) : aNst U := by
  have ha : s.vm.Alike U.vm := by rw [hv]; exact Vm.Alike.refl _
  exact ⟨va_Nw.same rfl hv h.1, va_Nw.same rfl hv h.2.1, va_Nw.same rfl hv h.2.2.1, va_Nw.same rfl hv h.2.2.2.1, va_AO.moved ha h.2.2.2.2.1, va_AO.moved ha h.2.2.2.2.2.1, va_AO.moved ha h.2.2.2.2.2.2.1, va_Nw.same rfl hv h.2.2.2.2.2.2.2⟩
theorem aTxt_warm {ad : Nat → Nat} {bs : Nat} {sv : Value} {s U : State} {H H1 : Heap} (hW : s.WarmedH U.vm) (hq : ∀ a : Nat, a < H.size → ¬ aA bs a → H1[a]? = H[a]?) (h : aTxt ad bs sv s H) : aTxt ad bs sv U H1 :=
  ⟨(h.1.kept hq).moved hW.alike, fun k hk q hq2 => (h.2.1 k hk q hq2).warm hW, (h.2.2.1.kept hq).moved hW.alike, (h.2.2.2.1.kept hq).moved hW.alike, (h.2.2.2.2.1.kept hq).moved hW.alike, h.2.2.2.2.2⟩
theorem aTxt_same {ad : Nat → Nat} {bs : Nat} {sv : Value} {s U : State} {H : Heap} (hv : s.vm = U.vm) (h : aTxt ad bs sv s H) : aTxt ad bs sv U H := by
  have ha : s.vm.Alike U.vm := by rw [hv]; exact Vm.Alike.refl _
  exact ⟨h.1.moved ha, fun k hk q hq2 => vk_R.same hv.symm (h.2.1 k hk q hq2), h.2.2.1.moved ha, h.2.2.2.1.moved ha, h.2.2.2.2.1.moved ha, h.2.2.2.2.2⟩
theorem aXok_warm {X : aXt} {ad : Nat → Nat} {bs : Nat} {s U : State} {H H1 : Heap} (ha : s.vm.Alike U.vm) (hq : ∀ a : Nat, a < H.size → ¬ aA bs a → H1[a]? = H[a]?) (h : aXok X ad bs s H) : aXok X ad bs U H1 :=
  fun k n f hk => ⟨(h k n f hk).1, ((h k n f hk).2.kept hq).moved ha⟩
section SIM
variable {p : Program} {l : Launch} {e : Env} {R : Room} {s : State} {m : MethodId} {args : Array Value} {below : List Frame} {meth : Method} {c : Code} {Q : State → Prop} {cc : ByteArray} {nL : Nat} {own : String} {D : va_G} {cA : Nat → ClassId} {ad : Nat → Nat} {bs n0 z0 : Nat} {H0 : Heap} {pcs : Nat → Nat} {rv : Option Value} {hf : aM} {E : Nat → List Value → aM → Option Value → aM → Prop} {X : aXt × Value}
/-- the machine goes on from an abstract state to Q -/
def aGoal (p : Program) (l : Launch) (e : Env) (R : Room) (s : State) (m : MethodId) (args : Array Value) (below : List Frame) (meth : Method) (c : Code) (Q : State → Prop) (nL : Nat) (D : va_G) (cA : Nat → ClassId) (ad : Nat → Nat) (bs n0 z0 : Nat) (H0 : Heap) (pcs : Nat → Nat) (t : aSt) : Prop :=
  ∀ (H : Heap) (locs : List Loc) (ls : Array Slot) (cells slots : Nat), aRel ad cA D bs nL n0 z0 H0 t H locs ls cells slots → W p l e R s m args below meth c H locs cells slots Q (F0 m (pcs t.1) ls (t.2.2.1.map (acv ad)))
/-- what is fixed while a method runs -/
def aC (p : Program) (s : State) (m : MethodId) (args : Array Value) (c : Code) (cc : ByteArray) (nL : Nat) (own : String) (D : va_G) (cA : Nat → ClassId) (ad : Nat → Nat) (bs n0 : Nat) (H0 : Heap) (X : aXt × Value) : Prop :=
  p.tables.exec = Jvm.exec ∧ c.code = cc ∧ c.maxLocals = nL ∧ s.vm.findClass own = some m.cls ∧ (∀ w ∈ aBIG, w.before args s = true) ∧ va_K D vwCl (atys cA) s ∧ aAd ad bs ∧ aXok X.1 ad bs s H0 ∧ aOut ad bs X.2 s H0 ∧ s.heap = H0 ∧ H0.size = bs + n0
/-- room is left, as the end of the run says -/
def aRm (R : Room) (n0 z0 : Nat) (h : aM) : Prop := h.1.1 ≤ n0 + R.cells ∧ h.1.2.1 ≤ z0 + R.slots
def aLe (h h1 : aM) : Prop := h.1.1 ≤ h1.1.1 ∧ h.1.2.1 ≤ h1.1.2.1
/-- an instruction is simulated -/
def aSim (p : Program) (l : Launch) (e : Env) (R : Room) (s : State) (m : MethodId) (args : Array Value) (below : List Frame) (meth : Method) (c : Code) (Q : State → Prop) (nL : Nat) (D : va_G) (cA : Nat → ClassId) (ad : Nat → Nat) (bs n0 z0 : Nat) (H0 : Heap) (pcs : Nat → Nat) (rv : Option Value) (hf : aM) (E : Nat → List Value → aM → Option Value → aM → Prop) (f : aOp) (i : Nat) : Prop :=
  ∀ (loc : List (Option Value)) (st : List Value) (h : aM),
    (∀ t, f (i, loc, st, h) = some (.inl t) → aLe h t.2.2.2 ∧ (aRm R n0 z0 t.2.2.2 → aGoal p l e R s m args below meth c Q nL D cA ad bs n0 z0 H0 pcs t → aGoal p l e R s m args below meth c Q nL D cA ad bs n0 z0 H0 pcs (i, loc, st, h))) ∧
    (∀ v h1, f (i, loc, st, h) = some (.inr (.inl (v, h1))) → h1 = h ∧ (v = rv → h1 = hf → aGoal p l e R s m args below meth c Q nL D cA ad bs n0 z0 H0 pcs (i, loc, st, h))) ∧
    (∀ mid as t, f (i, loc, st, h) = some (.inr (.inr (mid, as, t))) → t.2.2.2 = h ∧ ∀ v h1, E mid as h v h1 → aRm R n0 z0 h1 → aLe h h1 → aGoal p l e R s m args below meth c Q nL D cA ad bs n0 z0 H0 pcs (apush t v h1) → aGoal p l e R s m args below meth c Q nL D cA ad bs n0 z0 H0 pcs (i, loc, st, h))
/-- an instruction that only goes on -/
theorem aSim_n {f : aOp} {i : Nat} (hk : ∀ loc st h t, f (i, loc, st, h) = some (.inl t) → aLe h t.2.2.2 ∧ (aRm R n0 z0 t.2.2.2 → aGoal p l e R s m args below meth c Q nL D cA ad bs n0 z0 H0 pcs t → aGoal p l e R s m args below meth c Q nL D cA ad bs n0 z0 H0 pcs (i, loc, st, h))) (ho : ∀ loc st h x, ¬ f (i, loc, st, h) = some (.inr x)) : aSim p l e R s m args below meth c Q nL D cA ad bs n0 z0 H0 pcs rv hf E f i :=
  fun loc st h => ⟨fun t q => hk loc st h t q, fun v h1 q => absurd q (ho _ _ _ _), fun mid as t q => absurd q (ho _ _ _ _)⟩
theorem aLe.rf (h : aM) : aLe h h := ⟨Nat.le_refl _, Nat.le_refl _⟩
/-- an instruction of locals and stack alone -/
theorem aSim_P {g : List (Option Value) → List Value → Option aLS} {i : Nat} (hk : ∀ loc st loc' st', g loc st = some (loc', st') → loc.length = nL → loc'.length = nL ∧ ∀ (H : Heap) (locs : List Loc) (ls : Array Slot) (cells slots : Nat), lv_has ls nL (aAL ad 0 loc) → (∀ ls', lv_has ls' nL (aAL ad 0 loc') → W p l e R s m args below meth c H locs cells slots Q (F0 m (pcs (i + 1)) ls' (st'.map (acv ad)))) → W p l e R s m args below meth c H locs cells slots Q (F0 m (pcs i) ls (st.map (acv ad)))) : aSim p l e R s m args below meth c Q nL D cA ad bs n0 z0 H0 pcs rv hf E (aP g) i := by
  refine aSim_n (fun loc st h t hq => ?_) (fun loc st h x hq => ?_)
  · unfold aP at hq
    dsimp only at hq
    cases hg : g loc st with
    | none => rw [hg] at hq; cases hq
    | some q =>
      rw [hg] at hq
      cases hq
      refine ⟨aLe.rf h, fun _ kk H locs ls cells slots hR => ?_⟩
      obtain ⟨r1, r2, r3⟩ := hR
      obtain ⟨h1, h2⟩ := hk loc st q.1 q.2 hg r2
      exact h2 H locs ls cells slots r1 (fun ls' hl' => kk H locs ls' cells slots ⟨hl', h1, r3⟩)
  · unfold aP at hq
    dsimp only at hq
    cases hg : g loc st with
    | none => rw [hg] at hq; cases hq
    | some q => rw [hg] at hq; cases hq
variable {i pc : Nat}
theorem s_iconst (hC : aC p s m args c cc nL own D cA ad bs n0 H0 X) {n : Int} {v : Int32} (hd : decode cc pc = .ok (.iconst n, 1)) (hv : Int32.ofInt n = v) (h0 : pcs i = pc) (h1 : pcs (i + 1) = pc + 1) : aSim p l e R s m args below meth c Q nL D cA ad bs n0 z0 H0 pcs rv hf E (aP (gC (.int v))) i :=
  aSim_P fun loc st loc' st' hg hn => by
    cases hg
    refine ⟨hn, fun H locs ls cells slots hl kk => ?_⟩
    have k := kk ls hl
    rw [h1] at k
    rw [h0]
    exact lv_iconst hC.1 hC.2.1 hd hv k
theorem s_iload_n (hC : aC p s m args c cc nL own D cA ad bs n0 H0 X) {k : Fin 4} (hd : decode cc pc = .ok (.iload_n k, 1)) (h0 : pcs i = pc) (h1 : pcs (i + 1) = pc + 1) : aSim p l e R s m args below meth c Q nL D cA ad bs n0 z0 H0 pcs rv hf E (aP (gIld k)) i :=
  aSim_P fun loc st loc' st' hg hn => by
    unfold gIld at hg
    split at hg
    · rename_i x hx
      cases hg
      refine ⟨hn, fun H locs ls cells slots hl kk => ?_⟩
      have k := kk ls hl
      rw [h1] at k
      rw [h0]
      exact lv_iload_n hC.1 hC.2.1 hd rfl (aAL_get hl hx) k
    · cases hg
end SIM
