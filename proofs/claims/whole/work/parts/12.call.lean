/-! contracts, calls, ends -/
def aWs (y : MethodName) (cc : ByteArray) (maxL : Nat) (ret : Option FieldType) : List Cond := Cond.code y cc maxL ret :: aBIG
def aRoom (d mc ms : Nat) : Room := { frames := d + 16, cells := mc, slots := ms, locals := 64 * d + 1024 }
def aWf (h : aM) : Prop := h.1.1 = h.1.2.2.length ∧ h.1.1 ≤ aCAP
def aPc (D : va_G) (cA : Nat → ClassId) (ad : Nat → Nat) (bs : Nat) (X : aXt × Value) (as : List Value) (h : aM) : Array Value → State → Prop :=
  va_Pc (as.map (acv ad)) (fun U => U.heap.size = bs + h.1.1 ∧ va_P D vwCl (awld ad cA h) U.heap ∧ va_K D vwCl (atys cA) U ∧ aXok X.1 ad bs U U.heap ∧ aOut ad bs X.2 U U.heap ∧ aWf h)
def aQc (D : va_G) (cA : Nat → ClassId) (ad : Nat → Nat) (bs : Nat) (rv : Option Value) (h' : aM) : Array Value → State → Outcome → State → Prop :=
  fun _ st oc t => oc = .returned (rv.map (acv ad)) ∧ va_P D vwCl (awld ad cA h') t.heap ∧ aWf h' ∧ va_F (aA bs) st t
def aMet (l : Launch) (D : va_G) (cA : Nat → ClassId) (ad : Nat → Nat) (bs : Nat) (X : aXt × Value) (d : Nat) (y : MethodName) (cc : ByteArray) (maxL : Nat) (ret : Option FieldType) (as : List Value) (h : aM) (rv : Option Value) (h' : aM) : Prop :=
  Met l y (aWs y cc maxL ret) (aRoom d (h'.1.1 - h.1.1) (h'.1.2.1 - h.1.2.1)) (aPc D cA ad bs X as h) (aQc D cA ad bs rv h') (h'.1.1 - h.1.1) (h'.1.2.1 - h.1.2.1) (aA bs)
theorem aPc_blind {D : va_G} {cA : Nat → ClassId} {ad : Nat → Nat} {bs : Nat} {X : aXt × Value} {as : List Value} {h : aM} : FrameBlind (aPc D cA ad bs X as h) := by
  intro a U g mk q
  obtain ⟨q1, q2, q3, q4, q5, q6, q7⟩ := q
  have ha : U.vm.Alike (U.calling g mk a).vm := Vm.Alike.refl U.vm
  exact ⟨q1, q2, q3, va_K.moved ha q4, aXok_warm ha (fun _ _ _ => rfl) q5, ⟨aNst_same rfl q6.1, aTxt_same rfl q6.2⟩, q7⟩
section SIM
variable {p : Program} {l : Launch} {e : Env} {R : Room} {s : State} {m : MethodId} {args : Array Value} {below : List Frame} {meth : Method} {c : Code} {Q : State → Prop} {cc : ByteArray} {nL : Nat} {own : String} {D : va_G} {cA : Nat → ClassId} {ad : Nat → Nat} {bs n0 z0 : Nat} {H0 : Heap} {pcs : Nat → Nat} {rv : Option Value} {hf : aM} {E : Nat → List Value → aM → Option Value → aM → Prop} {X : aXt × Value} {i pc : Nat}
/-- behind a call -/
theorem a_call {H : Heap} {locs : List Loc} {cells slots mc ms : Nat} {ls : Array Slot} {st0 rest : List Value} {a : Array Value} {v : Option Value} {h' : aM} (hr : va_Run p l e R s m args below meth c H locs cells slots mc ms (F0 m pc ls st0) rest (aQc D cA ad bs v h' a) (aA bs)) (hS : va_S (aA bs) H0 H locs)
    (kk : ∀ (H1 : Heap) (locs1 : List Loc), va_P D vwCl (awld ad cA h') H1 → aWf h' → va_S (aA bs) H0 H1 locs1 → W p l e R s m args below meth c H1 locs1 (cells + mc) (slots + ms) Q (F0 m (pc + 3) ls ((v.map (acv ad)).toList ++ rest))) : W p l e R s m args below meth c H locs cells slots Q (F0 m pc ls st0) := by
  intro T hT X
  obtain ⟨v', st₀, t, T', L, e0, X', hL, e1, e2, ⟨hv, hp, hw, hz, hk⟩, st⟩ := hr T hT X
  cases hv
  rw [e0] at hz hk
  have hS1 : va_S (aA bs) H0 T'.heap (locs ++ L) := by
    refine ⟨by rw [e1]; exact Nat.le_trans hS.1 hz, fun q g1 g2 => ?_, fun q hq => ?_⟩
    · rw [e1, hk q (Nat.lt_of_lt_of_le g1 hS.1) g2]
      exact hS.2.1 q g1 g2
    · rcases List.mem_append.mp hq with g | g
      · exact hS.2.2 q g
      · exact hL q g
  obtain ⟨t2, a1, b1⟩ := kk T'.heap (locs ++ L) (by rw [e1]; exact hp) hw hS1 T' rfl X'
  exact ⟨t2, st t2 a1, b1⟩
theorem a_size {H : Heap} {locs : List Loc} {cells slots : Nat} {ls : Array Slot} {t : aSt} {g : JFrame} (hC : aC p s m args c cc nL own D cA ad bs n0 H0 X) (hR : aRel ad cA D bs nL n0 z0 H0 t H locs ls cells slots) (k : H.size = bs + t.2.2.2.1.1 → W p l e R s m args below meth c H locs cells slots Q g) : W p l e R s m args below meth c H locs cells slots Q g := by
  refine W_size (fun hsz => k ?_)
  rw [hC.2.2.2.2.2.2.2.2.2.1, hC.2.2.2.2.2.2.2.2.2.2] at hsz
  obtain ⟨r1, r2, r3, r4, r5, r6, r7, r8⟩ := hR
  have h1 : H0.size ≤ H.size := r4.1
  rw [hC.2.2.2.2.2.2.2.2.2.2] at h1
  by_cases h0 : cells = 0
  · subst h0
    omega
  · have hn : t.2.2.2.1.1 - 1 < t.2.2.2.1.1 := by omega
    have hlt := (r3 _ _ (awld_get hn)).lt
    have had := hC.2.2.2.2.2.2.1.1 (t.2.2.2.1.1 - 1) (by omega)
    have hlt : ad (t.2.2.2.1.1 - 1) < H.size := hlt
    rw [had] at hlt
    omega
/-- what a caller hands to a contract -/
theorem a_pre (hC : aC p s m args c cc nL own D cA ad bs n0 H0 X) {t : aSt} {H : Heap} {locs : List Loc} {cells slots : Nat} {ls : Array Slot} (hR : aRel ad cA D bs nL n0 z0 H0 t H locs ls cells slots) (hz : H.size = bs + t.2.2.2.1.1) (as : List Value) : ∀ U : State, U.heap = H → s.WarmedH U.vm → aPc D cA ad bs X as t.2.2.2 (as.map (acv ad)).toArray U := by
  intro U hU hW
  obtain ⟨r1, r2, r3, r4, r5, r6, r7, r8⟩ := hR
  have hq := r4.2.1
  refine ⟨rfl, by rw [hU]; exact hz, by rw [hU]; exact r3, va_K.moved hW.alike hC.2.2.2.2.2.1, ?_, ⟨aNst_warm hW hC.2.2.2.2.2.2.2.2.1.1, ?_⟩, ⟨r5, r6⟩⟩
  · rw [hU]
    exact aXok_warm hW.alike hq hC.2.2.2.2.2.2.2.1
  · rw [hU]
    exact aTxt_warm hW hq hC.2.2.2.2.2.2.2.2.1.2
theorem aWs_good {y : MethodName} {cc' : ByteArray} {maxL : Nat} {ret : Option FieldType} (hc : Cond.code y cc' maxL ret ∈ aBIG) : GoodIn aBIG (aWs y cc' maxL ret) := by
  intro w hw
  rcases List.mem_cons.mp hw with rfl | h
  · exact ⟨hc, good_of_word (aBIG_good hc)⟩
  · exact ⟨h, good_of_word (aBIG_good h)⟩
theorem aV_good {y : MethodName} {cc' : ByteArray} {maxL index : Nat} {ret : Option FieldType} {C : String} (hc : Cond.code y cc' maxL ret ∈ aBIG) (hl : Cond.methodLink own index y ∈ aBIG) (hi : Cond.instanceMethod y ∈ aBIG) (hs : Cond.selects C y y ∈ aBIG) (hini : Cond.initialized C ∈ aBIG) : GoodIn aBIG (wsV own index C y (aWs y cc' maxL ret)) := by
  intro w hw
  unfold wsV at hw
  rcases List.mem_append.mp hw with h | h
  · have : w ∈ aBIG := by
      simp only [List.mem_cons, List.not_mem_nil, or_false] at h
      rcases h with rfl | rfl | rfl | rfl <;> assumption
    exact ⟨this, good_of_word (aBIG_good this)⟩
  · exact aWs_good hc w h
theorem aS_good {y : MethodName} {cc' : ByteArray} {maxL index : Nat} {ret : Option FieldType} (hc : Cond.code y cc' maxL ret ∈ aBIG) (hl : Cond.methodLink own index y ∈ aBIG) (hs : Cond.static y ∈ aBIG) (hini : Cond.initialized own ∈ aBIG) : GoodIn aBIG (wsS own index y (aWs y cc' maxL ret)) := by
  intro w hw
  unfold wsS at hw
  rcases List.mem_append.mp hw with h | h
  · have : w ∈ aBIG := by
      simp only [List.mem_cons, List.not_mem_nil, or_false] at h
      rcases h with rfl | rfl | rfl <;> assumption
    exact ⟨this, good_of_word (aBIG_good this)⟩
  · exact aWs_good hc w h
theorem aCal_of {mid n : Nat} {ci : Option Nat} {loc : List (Option Value)} {st : List Value} {h : aM} {x : aSt ⊕ (Option Value × aM) ⊕ (Nat × List Value × aSt)} (hq : aCal mid n ci (i, loc, st, h) = some x) : ∃ as r, st = as.reverse ++ r ∧ as.length = n ∧ asum r ≤ 8 ∧ arcv h ci as = true ∧ x = .inr (.inr (mid, as, (i + 1, loc, r, h))) := by
  unfold aCal at hq
  dsimp only at hq
  split at hq
  · rename_i hk
    cases hq
    refine ⟨(st.take n).reverse, st.drop n, ?_, ?_, hk.2.1, hk.2.2, rfl⟩
    · rw [List.reverse_reverse, List.take_append_drop]
    · rw [List.length_reverse]
      exact hk.1
  · cases hq
/-- a call of a method with a receiver of a class of ours -/
theorem aSim_cal {mid n : Nat} {ci : Option Nat} (hk : ∀ loc as r h, as.length = n → asum r ≤ 8 → arcv h ci as = true → ∀ v h1, E mid as h v h1 → aLe h h1 → aRm R n0 z0 h1 → ∀ (H : Heap) (locs : List Loc) (ls : Array Slot) (cells slots : Nat), aRel ad cA D bs nL n0 z0 H0 (i, loc, as.reverse ++ r, h) H locs ls cells slots → cells + (h1.1.1 - h.1.1) ≤ R.cells → slots + (h1.1.2.1 - h.1.2.1) ≤ R.slots →
      (∀ (H1 : Heap) (locs1 : List Loc), va_P D vwCl (awld ad cA h1) H1 → aWf h1 → va_S (aA bs) H0 H1 locs1 → W p l e R s m args below meth c H1 locs1 (cells + (h1.1.1 - h.1.1)) (slots + (h1.1.2.1 - h.1.2.1)) Q (F0 m (pcs (i + 1)) ls ((v.map (acv ad)).toList ++ r.map (acv ad)))) → W p l e R s m args below meth c H locs cells slots Q (F0 m (pcs i) ls ((as.reverse ++ r).map (acv ad)))) : aSim p l e R s m args below meth c Q nL D cA ad bs n0 z0 H0 pcs rv hf E (aCal mid n ci) i := by
  refine fun loc st h => ⟨fun t q => ?_, fun v h1 q => ?_, fun mid' as' t q => ?_⟩
  · obtain ⟨as, r, -, -, -, -, hx⟩ := aCal_of q
    cases hx
  · obtain ⟨as, r, -, -, -, -, hx⟩ := aCal_of q
    cases hx
  · obtain ⟨as, r, rfl, hn, hr, hv, hx⟩ := aCal_of q
    cases hx
    refine ⟨rfl, fun v h1 hE hrm hle kk H locs ls cells slots hR => ?_⟩
    have q1 : h1.1.1 ≤ n0 + R.cells := hrm.1
    have q2 : h1.1.2.1 ≤ z0 + R.slots := hrm.2
    have q3 : h.1.1 ≤ h1.1.1 := hle.1
    have q4 : h.1.2.1 ≤ h1.1.2.1 := hle.2
    have q5 : n0 + cells = h.1.1 := hR.2.2.2.2.2.2.1
    have q6 : z0 + slots = h.1.2.1 := hR.2.2.2.2.2.2.2
    refine hk loc _ r h hn hr hv v h1 hE hle hrm H locs ls cells slots hR (by omega) (by omega) (fun H1 locs1 g1 g2 g3 => ?_)
    have g := kk H1 locs1 ls (cells + (h1.1.1 - h.1.1)) (slots + (h1.1.2.1 - h.1.2.1)) ⟨hR.1, hR.2.1, g1, g3, g2.1, g2.2, by show n0 + (cells + (h1.1.1 - h.1.1)) = h1.1.1; omega, by show z0 + (slots + (h1.1.2.1 - h.1.2.1)) = h1.1.2.1; omega⟩
    cases v with
    | none => exact g
    | some x => exact g
/-- the room that a contract wants -/
def aFit (R : Room) (d maxL : Nat) : Prop := d + 17 ≤ R.frames ∧ 8 + (maxL + 11) + (64 * d + 1024) ≤ R.locals
theorem s_callV (hC : aC p s m args c cc nL own D cA ad bs n0 H0 X) {d mid n ci index maxL N : Nat} {C : String} {T : u_T} {y : MethodName} {cc' : ByteArray} {ret : Option FieldType} (hd : decode cc pc = .ok (.invokevirtual index, 3)) (h0 : pcs i = pc) (h1 : pcs (i + 1) = pc + 3) (hE : ∀ as h v h1, E mid as h v h1 → aMet l D cA ad bs X d y cc' maxL ret as h v h1) (hF : aFit R d maxL) (hc : Cond.code y cc' maxL ret ∈ aBIG) (hl : Cond.methodLink own index y ∈ aBIG) (hi : Cond.instanceMethod y ∈ aBIG) (hs : Cond.selects C y y ∈ aBIG) (hini : Cond.initialized C ∈ aBIG) (hcl : vwCl[ci]? = some (C, T, N)) (hy : y.cls = C ∧ y.cls ≠ "java/lang/invoke/MethodHandle" ∧ y.cls ≠ "java/lang/invoke/VarHandle" ∧ (parseMethodDescriptor y.desc).map (fun d => d.parameters.length) = some n) : aSim p l e R s m args below meth c Q nL D cA ad bs n0 z0 H0 pcs rv hf E (aCal mid (n + 1) (some ci)) i :=
  aSim_cal fun loc as r h hn hr hv v h1' hE' hle hrm H locs ls cells slots hR hc1 hc2 kk => by
    cases as with
    | nil => cases hv
    | cons w As =>
      cases w with
      | ref b =>
        simp only [arcv, Bool.and_eq_true, decide_eq_true_eq] at hv
        refine a_size hC hR (fun hz => ?_)
        rw [h0]
        rw [h1] at kk
        refine a_call (va_runV (As := As.map (acv ad)) (rest := r.map (acv ad)) ⟨hC.1, hC.2.1, hC.2.2.1, hC.2.2.2.1, hC.2.2.2.2.1⟩ (hE _ _ _ _ hE') (cwV n hC.2.2.2.2.1 (aV_good hc hl hi hs hini) rfl rfl rfl hy ⟨by show d + 16 + 1 ≤ _; have := hF.1; omega, hF.2⟩) ⟨aPc_blind, va_recv hC.2.2.2.2.2.1 hR.2.2.1 hcl ((awld_get hv.1).trans (by rw [acell_obj hv.2])), a_pre hC hR hz (.ref b :: As)⟩ rfl (by rw [List.length_map]; simpa using hn) hR.1.1 (by simp [acv]) (lv_room (by rw [acv_sum]; exact hr)) hd ⟨hc1, hc2⟩) hR.2.2.2.1 kk
      | _ => cases hv
theorem s_callS (hC : aC p s m args c cc nL own D cA ad bs n0 H0 X) {d mid n index maxL : Nat} {y : MethodName} {cc' : ByteArray} {ret : Option FieldType} (hd : decode cc pc = .ok (.invokestatic index, 3)) (h0 : pcs i = pc) (h1 : pcs (i + 1) = pc + 3) (hE : ∀ as h v h1, E mid as h v h1 → aMet l D cA ad bs X d y cc' maxL ret as h v h1) (hF : aFit R d maxL) (hc : Cond.code y cc' maxL ret ∈ aBIG) (hl : Cond.methodLink own index y ∈ aBIG) (hs : Cond.static y ∈ aBIG) (hini : Cond.initialized y.cls ∈ aBIG) (hy : y.cls ≠ "java/lang/invoke/MethodHandle" ∧ y.cls ≠ "java/lang/invoke/VarHandle" ∧ (parseMethodDescriptor y.desc).map (fun d => d.parameters.length) = some n) : aSim p l e R s m args below meth c Q nL D cA ad bs n0 z0 H0 pcs rv hf E (aCal mid n none) i :=
  aSim_cal fun loc as r h hn hr hv v h1' hE' hle hrm H locs ls cells slots hR hc1 hc2 kk => by
    refine a_size hC hR (fun hz => ?_)
    rw [h0]
    rw [h1] at kk
    refine a_call (va_runS (As := as.map (acv ad)) (rest := r.map (acv ad)) ⟨hC.1, hC.2.1, hC.2.2.1, hC.2.2.2.1, hC.2.2.2.2.1⟩ (hE _ _ _ _ hE') ⟨callB_of n hC.2.2.2.2.1 (aWs_good hc) rfl rfl rfl (hC.2.2.2.2.1 _ hini) (hC.2.2.2.2.1 _ hl) hy ⟨by show d + 16 + 1 ≤ _; have := hF.1; omega, hF.2⟩, hC.2.2.2.2.1 _ hs⟩ ⟨aPc_blind, a_pre hC hR hz as⟩ rfl (by rw [List.length_map]; exact hn) hR.1.1 (by simp) (lv_room (by rw [acv_sum]; exact hr)) hd ⟨hc1, hc2⟩) hR.2.2.2.1 kk
theorem s_callI (hC : aC p s m args c cc nL own D cA ad bs n0 H0 X) {d mid n ci index maxL : Nat} {y : MethodName} {cc' : ByteArray} (hd : decode cc pc = .ok (.invokespecial index, 3)) (h0 : pcs i = pc) (h1 : pcs (i + 1) = pc + 3) (hE : ∀ as h v h1, E mid as h v h1 → aMet l D cA ad bs X d y cc' maxL none as h v h1) (hF : aFit R d maxL) (hc : Cond.code y cc' maxL none ∈ aBIG) (hl : Cond.methodLink own index y ∈ aBIG) (hi : Cond.instanceMethod y ∈ aBIG) (hini : Cond.initialized y.cls ∈ aBIG) (hy1 : y.name = "<init>") (hy : y.cls ≠ "java/lang/invoke/MethodHandle" ∧ y.cls ≠ "java/lang/invoke/VarHandle" ∧ (parseMethodDescriptor y.desc).map (fun d => d.parameters.length) = some n) : aSim p l e R s m args below meth c Q nL D cA ad bs n0 z0 H0 pcs rv hf E (aCal mid (n + 1) (some ci)) i :=
  aSim_cal fun loc as r h hn hr hv v h1' hE' hle hrm H locs ls cells slots hR hc1 hc2 kk => by
    cases as with
    | nil => cases hv
    | cons w As =>
      cases w with
      | ref b =>
        refine a_size hC hR (fun hz => ?_)
        rw [h0]
        rw [h1] at kk
        refine a_call (va_runI (As := As.map (acv ad)) (rest := r.map (acv ad)) ⟨hC.1, hC.2.1, hC.2.2.1, hC.2.2.2.1, hC.2.2.2.2.1⟩ (hE _ _ _ _ hE') (cwI n hC.2.2.2.2.1 (aWs_good hc) rfl rfl rfl (hC.2.2.2.2.1 _ hini) (hC.2.2.2.2.1 _ hl) (hC.2.2.2.2.1 _ hi) hy1 hy ⟨by show d + 16 + 1 ≤ _; have := hF.1; omega, hF.2⟩) ⟨aPc_blind, a_pre hC hR hz (.ref b :: As)⟩ rfl (by rw [List.length_map]; simpa using hn) hR.1.1 (by simp [acv]) (lv_room (by rw [acv_sum]; exact hr)) hd ⟨hc1, hc2⟩) hR.2.2.2.1 kk
      | _ => cases hv
end SIM
