/-! new cells, copies, the small calls -/
theorem anth_app1 {α : Type} : ∀ {l : List α} {k : Nat} (x : α), k < l.length → anth (l ++ [x]) k = anth l k
  | [], k, x, h => absurd h (Nat.not_lt_zero _)
  | y :: t, 0, x, h => rfl
  | y :: t, k + 1, x, h => anth_app1 (l := t) (k := k) x (Nat.lt_of_succ_lt_succ h)
theorem anth_app2 {α : Type} : ∀ {l : List α} (x : α), anth (l ++ [x]) l.length = some x
  | [], x => rfl
  | y :: t, x => anth_app2 (l := t) x
theorem azero_ne {α : Type} {f : Nat → Nat → α} {k : Nat} {v : α} {x : Nat} (h : x ≠ k) : azero f k v x = f x := by
  funext y
  simp [azero, h]
theorem azero_eq {α : Type} {f : Nat → Nat → α} {k : Nat} {v : α} : azero f k v k = fun _ => v := by
  funext y
  simp [azero]
theorem anew_same {h : aM} {sh : Nat × Nat} {w k : Nat} (hl : h.1.1 = h.1.2.2.length) (hk : k < h.1.1) : aSame h (anew h sh w) k :=
  ⟨anth_app1 sh (by rw [← hl]; exact hk), azero_ne (by omega), azero_ne (by omega), azero_ne (by omega)⟩
theorem anew_sh {h : aM} {sh : Nat × Nat} {w : Nat} (hl : h.1.1 = h.1.2.2.length) : anth (anew h sh w).1.2.2 h.1.1 = some sh := by
  show anth (h.1.2.2 ++ [sh]) h.1.1 = some sh
  rw [hl]
  exact anth_app2 sh
theorem awld_new {ad : Nat → Nat} {cA : Nat → ClassId} {h : aM} {sh : Nat × Nat} {w : Nat} {e : va_E} (hl : h.1.1 = h.1.2.2.length) (he : acell ad cA (anew h sh w) h.1.1 = e) : awld ad cA h ++ [(ad h.1.1, e)] = awld ad cA (anew h sh w) :=
  awld_push rfl (fun j hj => acell_same (anew_same hl hj)) he
/-- the address of a new cell -/
theorem anew_ad {ad : Nat → Nat} {bs : Nat} {cA : Nat → ClassId} {D : va_G} {h : aM} {q : Nat} {e : va_E} {H1 : Heap} (ha : aAd ad bs) (hn : h.1.1 < aCAP) (hP : va_P D vwCl (awld ad cA h ++ [(q, e)]) H1) (hD : va_D (aA bs) (awld ad cA h ++ [(q, e)])) (hz : H1.size ≤ bs + h.1.1 + 1) : q = ad h.1.1 := by
  have hlen : (awld ad cA h).length = h.1.1 := by simp [awld]
  have hq : (awld ad cA h ++ [(q, e)])[h.1.1]? = some (q, e) := by
    rw [List.getElem?_append_right (by omega), hlen, Nat.sub_self]
    rfl
  have h1 : q < H1.size := (hP _ _ hq).lt
  have h2 : bs ≤ q := hD.2 _ _ hq
  rw [ha.1 _ hn]
  by_cases hlt : q < bs + h.1.1
  · have hk : (awld ad cA h ++ [(q, e)])[q - bs]? = some (ad (q - bs), acell ad cA h (q - bs)) := by
      rw [List.getElem?_append_left (by omega)]
      exact awld_get (by omega)
    have := hD.1 _ _ _ _ hk hq (by show ad (q - bs) = q; rw [ha.1 _ (by omega)]; omega)
    omega
  · omega
def aOkT (ty : FieldType) : Bool := match ty with
  | .int => true
  | .boolean => true
  | .long => true
  | .object _ => true
  | .array _ => true
  | _ => false
theorem afv_new {ad : Nat → Nat} {h : aM} {sh : Nat × Nat} {w ci j : Nat} (hT : aOkT (acty ci j) = true) : defaultValue (acty ci j) = acv ad (afv (anew h sh w) h.1.1 ci j) := by
  have e1 : (anew h sh w).2.1 h.1.1 = fun _ => 0 := azero_eq
  have e2 : (anew h sh w).2.2.1 h.1.1 = fun _ => 0 := azero_eq
  have e3 : (anew h sh w).2.2.2 h.1.1 = fun _ => none := azero_eq
  unfold afv
  rw [e1, e2, e3]
  revert hT
  cases acty ci j <;> intro hT <;> first | rfl | (cases hT; done)
theorem W_size {p : Program} {l : Launch} {e : Env} {R : Room} {s : State} {m : MethodId} {args : Array Value} {below : List Frame} {meth : Method} {c : Code} {Q : State → Prop} {H : Heap} {locs : List Loc} {cells slots : Nat} {g : JFrame} (k : H.size ≤ s.heap.size + cells → W p l e R s m args below meth c H locs cells slots Q g) : W p l e R s m args below meth c H locs cells slots Q g :=
  fun T hT X => k (by rw [← hT]; exact X.heapSize) T hT X
section SIM
variable {p : Program} {l : Launch} {e : Env} {R : Room} {s : State} {m : MethodId} {args : Array Value} {below : List Frame} {meth : Method} {c : Code} {Q : State → Prop} {cc : ByteArray} {nL : Nat} {own : String} {D : va_G} {cA : Nat → ClassId} {ad : Nat → Nat} {bs n0 z0 : Nat} {H0 : Heap} {pcs : Nat → Nat} {rv : Option Value} {hf : aM} {E : Nat → List Value → aM → Option Value → aM → Prop} {X : aXt × Value} {i pc : Nat}
theorem s_new (hC : aC p s m args c cc nL own D cA ad bs n0 H0 X) {ci index N : Nat} {C : String} {T : u_T} (hd : decode cc pc = .ok (.new index, 3)) (h0 : pcs i = pc) (h1 : pcs (i + 1) = pc + 3) (hl : Cond.classLink own index C ∈ aBIG) (hI : Cond.instantiable C N ∈ aBIG) (hini : Cond.initialized C ∈ aBIG) (hc : vwCl[ci]? = some (C, T, N)) (hN : anf ci = N) (hin : ∀ w ∈ u_ws C T N, w ∈ aBIG) (hty : ∀ k, k < N → parseFieldDescriptor (T k).2.2.1 = some (acty ci k)) (hok : ∀ k, k < N → aOkT (acty ci k) = true) : aSim p l e R s m args below meth c Q nL D cA ad bs n0 z0 H0 pcs rv hf E (aNew ci) i := by
  refine aSim_n (fun loc st h t hq => ?_) (fun loc st h x hq => by
    unfold aNew at hq
    dsimp only at hq
    split at hq <;> cases hq)
  unfold aNew at hq
  dsimp only at hq
  split at hq
  · rename_i hcap
    cases hq
    refine ⟨⟨by show h.1.1 ≤ h.1.1 + 1; omega, by show h.1.2.1 ≤ h.1.2.1 + _; omega⟩, fun hrm kk H locs ls cells slots hR => ?_⟩
    dsimp only
    rw [h0]
    obtain ⟨r1, r2, r3, r4, r5, r6, r7, r8⟩ := hR
    dsimp only at r1 r2 r3 r4 r5 r6 r7 r8
    have hrm1 : h.1.1 + 1 ≤ n0 + R.cells := hrm.1
    have hrm2 : h.1.2.1 + anf ci ≤ z0 + R.slots := hrm.2
    refine va_new (fs := (List.range N).map (fun j => acv ad (afv (anew h (0, ci) (anf ci)) h.1.1 ci j))) hC.1 hC.2.1 hC.2.2.2.2.1 hin (acty ci) hty hC.2.2.2.1 (hC.2.2.2.2.1 _ hl) (hC.2.2.2.2.1 _ hI) (hC.2.2.2.2.1 _ hini) hC.2.2.2.2.2.1 r3 (awld_D hC.2.2.2.2.2.2.1 cA r6) r4 (fun q hq => by rw [hC.2.2.2.2.2.2.2.2.2.2] at hq; show bs ≤ q; omega) hc (fun j hj => by rw [afv_new (hok j hj) (ad := ad) (h := h) (sh := (0, ci)) (w := anf ci)]; simp [vp_V, hj]) (by omega) (by rw [← hN]; omega) hd (fun q H1 g1 g2 g3 => ?_)
    refine W_size (fun hsz => ?_)
    rw [hC.2.2.2.2.2.2.2.2.2.1, hC.2.2.2.2.2.2.2.2.2.2] at hsz
    have hq := anew_ad hC.2.2.2.2.2.2.1 hcap.1 g1 g2 (by omega)
    subst hq
    have g1 : va_P D vwCl (awld ad cA (anew h (0, ci) (anf ci))) H1 := by
      rw [← awld_new r5 rfl, acell_obj (anew_sh r5), hN]
      exact hN ▸ g1
    have g := kk H1 locs ls (cells + 1) (slots + N) ⟨r1, r2, g1, g3, by show h.1.1 + 1 = (h.1.2.2 ++ [(0, ci)]).length; simp; exact r5, by show h.1.1 + 1 ≤ aCAP; omega, by show n0 + (cells + 1) = h.1.1 + 1; omega, by show z0 + (slots + N) = h.1.2.1 + anf ci; omega⟩
    dsimp only at g
    rw [h1] at g
    exact g
  · cases hq
end SIM
