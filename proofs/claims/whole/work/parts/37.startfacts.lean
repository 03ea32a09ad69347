/-! the law's start, out of the statement about the abstract machine (written by wip/whole/mkstart.py) -/
def aSCR : Nat := 170000
def aUnd (j : Nat) : Int32 := ([-1, 0, 0, 1, 2, 0] : List Int32).getD j 0
def aXs (L : Nat) (xs : Nat → Int32) : aXt := fun k => if k = aSCR then some (L, xs) else if k = aUND then some (6, aUnd) else none
def aH0 : aM := ((0, 0, []), fun _ _ => 0, fun _ _ => 0, fun _ _ => none)
/-- THE PURE STATEMENT: on every script of at most 3072 ints the law's run of the abstract machine answers 1, within the room -/
def aGoalLaw : Prop := ∀ (L : Nat) (xs : Nat → Int32) (sv : Value), L ≤ 3072 → (sv = .null ∨ sv = .ref aSIO) → ∃ (d n : Nat) (hf : aM), d ≤ 100 ∧ hf.1.1 ≤ 600000 ∧ hf.1.2.1 ≤ 7302250 ∧ aRn (aEx (aTb (aXs L xs, sv)) d) (cd_L_law (aXs L xs, sv)) n (0, [some (.ref aSCR), none, none, none], [], aH0) (some (.int 1)) hf
def aTm (i : Nat) : Term := match atxs[i]? with
  | some q => .string q.1 q.2.1
  | none => .int 0
def aFl : List Cond := flatC (Cond.and given_1 narrow_1)
def aPe : List Nat := [42, 92, 102, 112, 123, 137, 149, 163, 181, 198, 217, 233, 251]
/-- a leaf of the Statement's premises, by its place -/
theorem fl_at {n : Nat} {w : Cond} (h : aFl[n]? = some w) : w ∈ aFl := List.mem_of_getElem? h
set_option maxRecDepth 100000 in
theorem fp_ex : ∀ i, i < 13 → aFl[aPe.getD i 0]? = some (Cond.exactly (aTm i) "java/lang/String") := by decide +kernel
set_option maxRecDepth 100000 in
theorem fp_co : ∀ i, i < 13 → aFl[aPe.getD i 0 + 1]? = some (Cond.eq (.field (aTm i) "java/lang/String" "coder" "B") (.int 0)) := by decide +kernel
set_option maxRecDepth 100000 in
theorem fp_ar : ∀ i, i < 13 → aFl[aPe.getD i 0 + 2]? = some (Cond.arrayOf (.field (aTm i) "java/lang/String" "value" "[B") .byte) := by decide +kernel
set_option maxRecDepth 100000 in
theorem fp_le : ∀ i, i < 13 → aFl[aPe.getD i 0 + 3]? = some (Cond.eq (.length (.field (aTm i) "java/lang/String" "value" "[B")) (.int (Int32.ofNat (alen.getD i 0)))) := by decide +kernel
set_option maxRecDepth 100000 in
theorem fp_el : ∀ i, i < 13 → ∀ j, j < alen.getD i 0 → aFl[aPe.getD i 0 + 4 + j]? = some (Cond.eq (.elem (.field (aTm i) "java/lang/String" "value" "[B") (.int (Int32.ofNat j))) (.int ((abyt.getD i []).getD j 0))) := by decide +kernel
set_option maxRecDepth 100000 in
theorem fp_ne : ∀ j, j < 13 → ∀ i, i < j → aFl[aPe.getD j 0 + 4 + alen.getD j 0 + i]? = some (Cond.not (Cond.eq (aTm i) (aTm j))) := by decide +kernel
theorem fl_ex (i : Nat) (h : i < 13) : Cond.exactly (aTm i) "java/lang/String" ∈ aFl := fl_at (fp_ex i h)
theorem fl_co (i : Nat) (h : i < 13) : Cond.eq (.field (aTm i) "java/lang/String" "coder" "B") (.int 0) ∈ aFl := fl_at (fp_co i h)
theorem fl_ar (i : Nat) (h : i < 13) : Cond.arrayOf (.field (aTm i) "java/lang/String" "value" "[B") .byte ∈ aFl := fl_at (fp_ar i h)
theorem fl_le (i : Nat) (h : i < 13) : Cond.eq (.length (.field (aTm i) "java/lang/String" "value" "[B")) (.int (Int32.ofNat (alen.getD i 0))) ∈ aFl := fl_at (fp_le i h)
theorem fl_el (i : Nat) (h : i < 13) (j : Nat) (hj : j < alen.getD i 0) : Cond.eq (.elem (.field (aTm i) "java/lang/String" "value" "[B") (.int (Int32.ofNat j))) (.int ((abyt.getD i []).getD j 0)) ∈ aFl := fl_at (fp_el i h j hj)
theorem fl_ne (i : Nat) (hi : i < 13) (j : Nat) (hj : j < 13) (hij : i ≠ j) : Cond.not (Cond.eq (aTm i) (aTm j)) ∈ aFl ∨ Cond.not (Cond.eq (aTm j) (aTm i)) ∈ aFl := by
  by_cases h : i < j
  · exact Or.inl (fl_at (fp_ne j hj i h))
  · exact Or.inr (fl_at (fp_ne i hi j (by omega)))
theorem fl_cs : Cond.eq (.static "java/lang/String" "COMPACT_STRINGS" "Z") (.int 1) ∈ aFl := fl_at (n := 4) (by decide +kernel)
theorem fl_si : Cond.isRef (.static "jdk/internal/util/Preconditions" "SIOOBE_FORMATTER" "Ljava/util/function/BiFunction;") ∈ aFl := fl_at (n := 5) (by decide +kernel)
theorem fl_ua : Cond.arrayOf (.static RX6 "UNDER" "[I") .int ∈ aFl := fl_at (n := 10) (by decide +kernel)
theorem fl_ul : Cond.eq (.length (.static RX6 "UNDER" "[I")) (.int (Int32.ofNat 6)) ∈ aFl := fl_at (n := 11) (by decide +kernel)
theorem fp_ue : ∀ j, j < 6 → aFl[12 + j]? = some (Cond.eq (.elem (.static RX6 "UNDER" "[I") (.int (Int32.ofNat j))) (.int (aUnd j))) := by decide +kernel
theorem fl_ue (j : Nat) (h : j < 6) : Cond.eq (.elem (.static RX6 "UNDER" "[I") (.int (Int32.ofNat j))) (.int (aUnd j)) ∈ aFl := fl_at (fp_ue j h)

theorem st_0 {q : String × Nat × String} (h : atxs[0]? = some q) : Cond.stringRef q.1 q.2.1 q.2.2 ∈ lw_tbl := by
  cases h
  exact aT1 (List.mem_of_getElem? (i := 134) (by decide +kernel))
theorem st_1 {q : String × Nat × String} (h : atxs[1]? = some q) : Cond.stringRef q.1 q.2.1 q.2.2 ∈ lw_tbl := by
  cases h
  exact aT1 (List.mem_of_getElem? (i := 214) (by decide +kernel))
theorem st_2 {q : String × Nat × String} (h : atxs[2]? = some q) : Cond.stringRef q.1 q.2.1 q.2.2 ∈ lw_tbl := by
  cases h
  exact aT1 (List.mem_of_getElem? (i := 221) (by decide +kernel))
theorem st_3 {q : String × Nat × String} (h : atxs[3]? = some q) : Cond.stringRef q.1 q.2.1 q.2.2 ∈ lw_tbl := by
  cases h
  exact aT1 (List.mem_of_getElem? (i := 222) (by decide +kernel))
theorem st_4 {q : String × Nat × String} (h : atxs[4]? = some q) : Cond.stringRef q.1 q.2.1 q.2.2 ∈ lw_tbl := by
  cases h
  exact aT1 (List.mem_of_getElem? (i := 223) (by decide +kernel))
theorem st_5 {q : String × Nat × String} (h : atxs[5]? = some q) : Cond.stringRef q.1 q.2.1 q.2.2 ∈ lw_tbl := by
  cases h
  exact aT1 (List.mem_of_getElem? (i := 224) (by decide +kernel))
theorem st_6 {q : String × Nat × String} (h : atxs[6]? = some q) : Cond.stringRef q.1 q.2.1 q.2.2 ∈ lw_tbl := by
  cases h
  exact aT1 (List.mem_of_getElem? (i := 225) (by decide +kernel))
theorem st_7 {q : String × Nat × String} (h : atxs[7]? = some q) : Cond.stringRef q.1 q.2.1 q.2.2 ∈ lw_tbl := by
  cases h
  exact aT1 (List.mem_of_getElem? (i := 226) (by decide +kernel))
theorem st_8 {q : String × Nat × String} (h : atxs[8]? = some q) : Cond.stringRef q.1 q.2.1 q.2.2 ∈ lw_tbl := by
  cases h
  exact aT1 (List.mem_of_getElem? (i := 227) (by decide +kernel))
theorem st_9 {q : String × Nat × String} (h : atxs[9]? = some q) : Cond.stringRef q.1 q.2.1 q.2.2 ∈ lw_tbl := by
  cases h
  exact aT1 (List.mem_of_getElem? (i := 228) (by decide +kernel))
theorem st_10 {q : String × Nat × String} (h : atxs[10]? = some q) : Cond.stringRef q.1 q.2.1 q.2.2 ∈ lw_tbl := by
  cases h
  exact aT1 (List.mem_of_getElem? (i := 229) (by decide +kernel))
theorem st_11 {q : String × Nat × String} (h : atxs[11]? = some q) : Cond.stringRef q.1 q.2.1 q.2.2 ∈ lw_tbl := by
  cases h
  exact aT1 (List.mem_of_getElem? (i := 230) (by decide +kernel))
theorem st_12 {q : String × Nat × String} (h : atxs[12]? = some q) : Cond.stringRef q.1 q.2.1 q.2.2 ∈ lw_tbl := by
  cases h
  exact aT1 (List.mem_of_getElem? (i := 231) (by decide +kernel))
theorem nn_1 : Cond.methodLinkNest RX0 40 yX6_isStreet RX6 ∈ lw_tbl := aT2 (List.mem_of_getElem? (i := 167) (by decide +kernel))
theorem nn_2 : Cond.methodLinkNest RX5 59 yX6_bounded RX6 ∈ lw_tbl := aT2 (List.mem_of_getElem? (i := 214) (by decide +kernel))
theorem nn_3 : Cond.methodLinkNest RX6 187 yX4_tryRows RX6 ∈ lw_tbl := aT3 (List.mem_of_getElem? (i := 93) (by decide +kernel))
theorem nn_4 : Cond.methodLinkNest RX2 19 yX6_bounded RX6 ∈ lw_tbl := aT3 (List.mem_of_getElem? (i := 183) (by decide +kernel))
theorem nn_5 : Cond.arrayOver (.object RX3) ∈ lw_tbl := aT1 (List.mem_of_getElem? (i := 25) (by decide +kernel))
theorem nn_6 : Cond.arrayOver (.object RX0) ∈ lw_tbl := aT1 (List.mem_of_getElem? (i := 80) (by decide +kernel))
theorem nn_7 : Cond.arrayOver (.object RX2) ∈ lw_tbl := aT1 (List.mem_of_getElem? (i := 82) (by decide +kernel))
theorem nn_8 : Cond.fieldLinkNest RX0 57 RX6 "UNDER" "[I" RX6 ∈ lw_tbl := aT4 (List.mem_of_getElem? (i := 16) (by decide +kernel))
theorem nn_9 : Cond.laysStatic "java/lang/String" "COMPACT_STRINGS" "Z" ∈ lw_tbl := aT1 (List.mem_of_getElem? (i := 144) (by decide +kernel))
theorem nn_10 : Cond.laysStatic "jdk/internal/util/Preconditions" "SIOOBE_FORMATTER" "Ljava/util/function/BiFunction;" ∈ lw_tbl := aT1 (List.mem_of_getElem? (i := 160) (by decide +kernel))
theorem nn_11 : Cond.laysStatic RX6 "UNDER" "[I" ∈ lw_tbl := aT4 (List.mem_of_getElem? (i := 17) (by decide +kernel))
theorem nn_12 : Cond.initialized "java/lang/String" ∈ lw_tbl := aT1 (List.mem_of_getElem? (i := 6) (by decide +kernel))
theorem nn_13 : Cond.initialized "jdk/internal/util/Preconditions" ∈ lw_tbl := aT1 (List.mem_of_getElem? (i := 8) (by decide +kernel))
theorem nn_14 : Cond.initialized RX6 ∈ lw_tbl := aT1 (List.mem_of_getElem? (i := 1) (by decide +kernel))
theorem nn_15 : Cond.arrayClass .int ∈ lw_tbl := aT1 (List.mem_of_getElem? (i := 55) (by decide +kernel))
theorem nn_16 : Cond.arrayClass .boolean ∈ lw_tbl := aT4 (List.mem_of_getElem? (i := 151) (by decide +kernel))
