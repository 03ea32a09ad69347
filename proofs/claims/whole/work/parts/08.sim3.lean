/-! fields and arrays -/
theorem aup_ne {α : Type} {f : Nat → Nat → α} {a b : Nat} {v : α} {x : Nat} (h : x ≠ a) : aup f a b v x = f x := by
  funext y
  simp [aup, h]
theorem aup_eq {α : Type} {f : Nat → Nat → α} {a b : Nat} {v : α} : aup f a b v a b = v := by simp [aup]
theorem aup_ne2 {α : Type} {f : Nat → Nat → α} {a b : Nat} {v : α} {y : Nat} (h : y ≠ b) : aup f a b v a y = f a y := by simp [aup, h]
theorem aup_upd {f : Nat → Nat → Int32} {a b : Nat} {v : Int32} : aup f a b v a = upd (f a) b v := by
  funext y
  simp [aup, upd]
/-- two memories have the same cell of number k -/
def aSame (h h' : aM) (k : Nat) : Prop := anth h'.1.2.2 k = anth h.1.2.2 k ∧ h'.2.1 k = h.2.1 k ∧ h'.2.2.1 k = h.2.2.1 k ∧ h'.2.2.2 k = h.2.2.2 k
theorem afv_same {h h' : aM} {k : Nat} (hs : aSame h h' k) (ci j : Nat) : afv h' k ci j = afv h k ci j := by
  unfold afv
  rw [hs.2.1, hs.2.2.1, hs.2.2.2]
theorem acell_same {ad : Nat → Nat} {cA : Nat → ClassId} {h h' : aM} {k : Nat} (hs : aSame h h' k) : acell ad cA h' k = acell ad cA h k := by
  have e : ∀ ci j, afv h' k ci j = afv h k ci j := afv_same hs
  unfold acell
  simp only [e]
  rw [hs.1, hs.2.1, hs.2.2.2]
theorem afw_spec {h h' : aM} {k ci j : Nat} {v : Value} (hw : afw h k ci j v = some h') : h'.1 = h.1 ∧ (∀ x, x ≠ k → aSame h h' x) ∧ afv h' k ci j = v ∧ (∀ y, y ≠ j → afv h' k ci y = afv h k ci y) ∧ narrow (acty ci j) v = v ∧ (∀ ad : Nat → Nat, narrow (acty ci j) (acv ad v) = acv ad v ∧ fits (acty ci j) (acv ad v) = true) := by
  unfold afw at hw
  split at hw
  · rename_i x hty
    cases hw
    refine ⟨rfl, fun x hx => ⟨rfl, aup_ne hx, rfl, rfl⟩, ?_, fun y hy => ?_, ?_, fun ad => ?_⟩
    · simp only [afv, hty, aup_eq]
    · simp only [afv, aup_ne2 hy]
    · rw [hty]; rfl
    · rw [hty]; exact ⟨rfl, rfl⟩
  · rename_i x hty
    split at hw
    · rename_i hx01
      cases hw
      refine ⟨rfl, fun x hx => ⟨rfl, aup_ne hx, rfl, rfl⟩, ?_, fun y hy => ?_, ?_, fun ad => ?_⟩
      · simp only [afv, hty, aup_eq]
      · simp only [afv, aup_ne2 hy]
      · rw [hty]; rcases hx01 with rfl | rfl <;> rfl
      · rw [hty]; rcases hx01 with rfl | rfl <;> exact ⟨rfl, rfl⟩
    · cases hw
  · rename_i x hty
    cases hw
    refine ⟨rfl, fun x hx => ⟨rfl, rfl, aup_ne hx, rfl⟩, ?_, fun y hy => ?_, ?_, fun ad => ?_⟩
    · simp only [afv, hty, aup_eq]
    · simp only [afv, aup_ne2 hy]
    · rw [hty]; rfl
    · rw [hty]; exact ⟨rfl, rfl⟩
  · rename_i cn q hty
    cases hw
    refine ⟨rfl, fun x hx => ⟨rfl, rfl, rfl, aup_ne hx⟩, ?_, fun y hy => ?_, ?_, fun ad => ?_⟩
    · simp only [afv, hty, aup_eq, arf]
    · simp only [afv, aup_ne2 hy]
    · rw [hty]; rfl
    · rw [hty]; exact ⟨rfl, rfl⟩
  · rename_i cn q hty
    cases hw
    refine ⟨rfl, fun x hx => ⟨rfl, rfl, rfl, aup_ne hx⟩, ?_, fun y hy => ?_, ?_, fun ad => ?_⟩
    · simp only [afv, hty, aup_eq, arf]
    · simp only [afv, aup_ne2 hy]
    · rw [hty]; rfl
    · rw [hty]; exact ⟨rfl, rfl⟩
  · cases hw
theorem acell_obj {ad : Nat → Nat} {cA : Nat → ClassId} {h : aM} {k ci : Nat} (hk : anth h.1.2.2 k = some (0, ci)) : acell ad cA h k = .inr (ci, (List.range (anf ci)).map (fun j => acv ad (afv h k ci j))) := by
  unfold acell
  rw [hk]
theorem acell_int {ad : Nat → Nat} {cA : Nat → ClassId} {h : aM} {k n : Nat} (hk : anth h.1.2.2 k = some (1, n)) : acell ad cA h k = .inl (cA 0, n, .inl (h.2.1 k)) := by
  unfold acell
  rw [hk]
theorem acell_boo {ad : Nat → Nat} {cA : Nat → ClassId} {h : aM} {k n : Nat} (hk : anth h.1.2.2 k = some (2, n)) : acell ad cA h k = .inl (cA 1, n, .inl (h.2.1 k)) := by
  unfold acell
  rw [hk]
theorem acell_ref {ad : Nat → Nat} {cA : Nat → ClassId} {h : aM} {k n t : Nat} (hk : anth h.1.2.2 k = some (t + 3, n)) : acell ad cA h k = .inl (cA (t + 2), n, .inr (.inr (.inr (.inr (fun j => (h.2.2.2 k j).map ad))))) := by
  unfold acell
  rw [hk]
theorem awld_upd {ad : Nat → Nat} {cA : Nat → ClassId} {h h' : aM} {k : Nat} {e : va_E} (hh : h'.1 = h.1) (hs : ∀ x, x ≠ k → aSame h h' x) (he : acell ad cA h' k = e) : (awld ad cA h).set k (ad k, e) = awld ad cA h' :=
  awld_set (by rw [hh]) (fun j _ hj => acell_same (hs j hj)) he
theorem awld_put {ad : Nat → Nat} {cA : Nat → ClassId} {h h' : aM} {k ci j : Nat} {v : Value} (hk : anth h.1.2.2 k = some (0, ci)) (hw : afw h k ci j v = some h') : (awld ad cA h).set k (ad k, .inr (ci, ((List.range (anf ci)).map (fun j => acv ad (afv h k ci j))).set j (acv ad v))) = awld ad cA h' := by
  obtain ⟨h1, h2, h3, h4, -⟩ := afw_spec hw
  refine awld_upd h1 h2 ?_
  rw [acell_obj (by rw [h1]; exact hk)]
  congr 2
  apply List.ext_getElem?
  intro y
  rw [List.getElem?_set]
  by_cases e : j = y
  · subst e
    rw [if_pos rfl]
    by_cases hl : j < anf ci
    · simp [hl, h3]
    · simp [hl]
  · rw [if_neg e]
    by_cases hl : y < anf ci
    · simp [hl, h4 y (fun q => e q.symm)]
    · simp [hl]
theorem aix_in {i : Int32} {n : Nat} (h : aixn i n = true) : vp_in i n := by
  simp only [aixn, Bool.and_eq_true, Bool.not_eq_true', decide_eq_false_iff_not, decide_eq_true_eq] at h
  rintro (q | q)
  · exact h.1 q
  · omega
section SIM
variable {p : Program} {l : Launch} {e : Env} {R : Room} {s : State} {m : MethodId} {args : Array Value} {below : List Frame} {meth : Method} {c : Code} {Q : State → Prop} {cc : ByteArray} {nL : Nat} {own : String} {D : va_G} {cA : Nat → ClassId} {ad : Nat → Nat} {bs n0 z0 : Nat} {H0 : Heap} {pcs : Nat → Nat} {rv : Option Value} {hf : aM} {E : Nat → List Value → aM → Option Value → aM → Prop} {X : aXt × Value} {i pc : Nat}
theorem s_get (hC : aC p s m args c cc nL own D cA ad bs n0 H0 X) {ci j index N : Nat} {C : String} {T : u_T} (hd : decode cc pc = .ok (.getfield index, 3)) (h0 : pcs i = pc) (h1 : pcs (i + 1) = pc + 3) (hl : Cond.fieldLink own index (T j).1 (T j).2.1 (T j).2.2.1 ∈ aBIG) (hc : vwCl[ci]? = some (C, T, N)) (hN : anf ci = N) (hin : ∀ w ∈ u_ws C T N, w ∈ aBIG) (hj : j < N) : aSim p l e R s m args below meth c Q nL D cA ad bs n0 z0 H0 pcs rv hf E (aGet ci j) i := by
  refine aSim_n (fun loc st h t hq => ?_) (fun loc st h x hq => by
    unfold aGet at hq
    dsimp only at hq
    split at hq
    · split at hq <;> cases hq
    · cases hq)
  unfold aGet at hq
  dsimp only at hq
  split at hq
  · rename_i k r
    split at hq
    · rename_i hk
      cases hq
      refine ⟨aLe.rf h, fun _ kk H locs ls cells slots hR => ?_⟩
      have g := kk H locs ls cells slots hR
      dsimp only at g ⊢
      rw [h0]
      rw [h1] at g
      refine va_get hC.1 hC.2.1 hC.2.2.2.2.1 hin hC.2.2.2.1 hC.2.2.2.2.2.1 hR.2.2.1 k ((awld_get hk.1).trans (by rw [acell_obj hk.2])) hc j hj (hC.2.2.2.2.1 _ hl) (fun _ q => q) (v := acv ad (afv h k ci j)) (by simp [hN, hj]) hd g
    · cases hq
  · cases hq
theorem s_put (hC : aC p s m args c cc nL own D cA ad bs n0 H0 X) {ci j index N : Nat} {C : String} {T : u_T} (hd : decode cc pc = .ok (.putfield index, 3)) (h0 : pcs i = pc) (h1 : pcs (i + 1) = pc + 3) (hl : Cond.fieldLink own index (T j).1 (T j).2.1 (T j).2.2.1 ∈ aBIG) (hc : vwCl[ci]? = some (C, T, N)) (hN : anf ci = N) (hin : ∀ w ∈ u_ws C T N, w ∈ aBIG) (hty : ∀ k, k < N → parseFieldDescriptor (T k).2.2.1 = some (acty ci k)) (hnm : ∀ a, a < N → ∀ b, b < N → a ≠ b → (T a).2.1 ≠ (T b).2.1) (hj : j < N) (hfin : (T j).2.2.2 = false) : aSim p l e R s m args below meth c Q nL D cA ad bs n0 z0 H0 pcs rv hf E (aPut ci j) i := by
  refine aSim_n (fun loc st h t hq => ?_) (fun loc st h x hq => by
    unfold aPut at hq
    dsimp only at hq
    split at hq
    · split at hq
      · split at hq <;> cases hq
      · cases hq
    · cases hq)
  unfold aPut at hq
  dsimp only at hq
  split at hq
  · rename_i v k r
    split at hq
    · rename_i hk
      split at hq
      · rename_i h' hw
        cases hq
        have sp := afw_spec hw
        refine ⟨by unfold aLe; dsimp only; rw [sp.1]; exact ⟨Nat.le_refl _, Nat.le_refl _⟩, fun _ kk H locs ls cells slots hR => ?_⟩
        dsimp only
        rw [h0]
        refine va_put hC.1 hC.2.1 hC.2.2.2.2.1 hin (acty ci) hty hnm hC.2.2.2.1 hC.2.2.2.2.2.1 hR.2.2.1 (awld_D hC.2.2.2.2.2.2.1 cA hR.2.2.2.2.2.1) hR.2.2.2.1 k ((awld_get hk.1).trans (by rw [acell_obj hk.2])) hc j hj (hC.2.2.2.2.1 _ hl) (fun _ q => q) hfin (hty j hj) (sp.2.2.2.2.2 ad).1 (sp.2.2.2.2.2 ad).2 (by simp [hN, hj]) hd (fun H1 locs1 g1 g2 g3 => ?_)
        rw [awld_put hk.2 hw] at g1
        have g := kk H1 locs1 ls cells slots ⟨hR.1, hR.2.1, g1, g3, by dsimp only; rw [sp.1]; exact hR.2.2.2.2⟩
        dsimp only at g
        rw [h1] at g
        exact g
      · cases hq
    · cases hq
  · cases hq
theorem s_putF (hC : aC p s m args c cc nL own D cA ad bs n0 H0 X) {ci j index N : Nat} {C : String} {T : u_T} (hd : decode cc pc = .ok (.putfield index, 3)) (h0 : pcs i = pc) (h1 : pcs (i + 1) = pc + 3) (hl : Cond.fieldLink own index (T j).1 (T j).2.1 (T j).2.2.1 ∈ aBIG) (hc : vwCl[ci]? = some (C, T, N)) (hN : anf ci = N) (hin : ∀ w ∈ u_ws C T N, w ∈ aBIG) (hty : ∀ k, k < N → parseFieldDescriptor (T k).2.2.1 = some (acty ci k)) (hnm : ∀ a, a < N → ∀ b, b < N → a ≠ b → (T a).2.1 ≠ (T b).2.1) (hj : j < N) (hfin : (T j).2.2.2 = true) (hdecl : (T j).1 = own) (hinit : meth.name = "<init>") : aSim p l e R s m args below meth c Q nL D cA ad bs n0 z0 H0 pcs rv hf E (aPut ci j) i := by
  refine aSim_n (fun loc st h t hq => ?_) (fun loc st h x hq => by
    unfold aPut at hq
    dsimp only at hq
    split at hq
    · split at hq
      · split at hq <;> cases hq
      · cases hq
    · cases hq)
  unfold aPut at hq
  dsimp only at hq
  split at hq
  · rename_i v k r
    split at hq
    · rename_i hk
      split at hq
      · rename_i h' hw
        cases hq
        have sp := afw_spec hw
        refine ⟨by unfold aLe; dsimp only; rw [sp.1]; exact ⟨Nat.le_refl _, Nat.le_refl _⟩, fun _ kk H locs ls cells slots hR => ?_⟩
        dsimp only
        rw [h0]
        refine va_putF hC.1 hC.2.1 hC.2.2.2.2.1 hin (acty ci) hty hnm hC.2.2.2.1 hC.2.2.2.2.2.1 hR.2.2.1 (awld_D hC.2.2.2.2.2.2.1 cA hR.2.2.2.2.2.1) hR.2.2.2.1 k ((awld_get hk.1).trans (by rw [acell_obj hk.2])) hc j hj (hC.2.2.2.2.1 _ hl) (fun _ q => q) hfin hinit hdecl (hty j hj) (sp.2.2.2.2.2 ad).1 (sp.2.2.2.2.2 ad).2 (by simp [hN, hj]) hd (fun H1 locs1 g1 g2 g3 => ?_)
        rw [awld_put hk.2 hw] at g1
        have g := kk H1 locs1 ls cells slots ⟨hR.1, hR.2.1, g1, g3, by dsimp only; rw [sp.1]; exact hR.2.2.2.2⟩
        dsimp only at g
        rw [h1] at g
        exact g
      · cases hq
    · cases hq
  · cases hq
end SIM
