/-! the words' letters (written by wip/whole/mkread2.py) -/
/-- the way out is one of the two that are drawn -/
def outOK (X : aXt × Value) : Prop := X.2 = .null ∨ X.2 = .ref aSIO
def rdF (b : Nat → Int32) : List Int32 → Nat → Bool
  | [], _ => true
  | c :: t, p => decide (b p = c) && rdF b t (p + 1)
def wdF (b : Nat → Int32) (a e : Nat) (w : List Int32) : Int32 := if e - a = w.length then (if rdF b w a = true then 1 else 0) else 0
set_option maxRecDepth 100000
theorem c_len1 {X : aXt × Value} {mi : Nat → Nat → Int32} {ml : Nat → Nat → Int64} {mr : Nat → Nat → Option Nat} : aCW X 2 216 [.ref (aSTR + 1)] (HD, mi, ml, mr) (rdI mi ml mr 5) := ⟨_, _, axe_sound (fuel := 40) (r := some (.int 5)) (h' := (HD, mi, ml, mr)) (by rfl), rfl, rfl⟩
theorem c_chr1_0 {X : aXt × Value} {mi : Nat → Nat → Int32} {ml : Nat → Nat → Int64} {mr : Nat → Nat → Option Nat} (hX : outOK X) : aCW X 4 218 [.ref (aSTR + 1), .int 0] (HD, mi, ml, mr) (rdI mi ml mr 115) := by
  obtain ⟨x, v⟩ := X
  have hX : v = .null ∨ v = .ref aSIO := hX
  rcases hX with rfl | rfl <;> exact ⟨_, _, axe_sound (fuel := 40) (r := some (.int 115)) (h' := (HD, mi, ml, mr)) (by rfl), rfl, rfl⟩
theorem c_chr1_1 {X : aXt × Value} {mi : Nat → Nat → Int32} {ml : Nat → Nat → Int64} {mr : Nat → Nat → Option Nat} (hX : outOK X) : aCW X 4 218 [.ref (aSTR + 1), .int 1] (HD, mi, ml, mr) (rdI mi ml mr 107) := by
  obtain ⟨x, v⟩ := X
  have hX : v = .null ∨ v = .ref aSIO := hX
  rcases hX with rfl | rfl <;> exact ⟨_, _, axe_sound (fuel := 40) (r := some (.int 107)) (h' := (HD, mi, ml, mr)) (by rfl), rfl, rfl⟩
theorem c_chr1_2 {X : aXt × Value} {mi : Nat → Nat → Int32} {ml : Nat → Nat → Int64} {mr : Nat → Nat → Option Nat} (hX : outOK X) : aCW X 4 218 [.ref (aSTR + 1), .int 2] (HD, mi, ml, mr) (rdI mi ml mr 105) := by
  obtain ⟨x, v⟩ := X
  have hX : v = .null ∨ v = .ref aSIO := hX
  rcases hX with rfl | rfl <;> exact ⟨_, _, axe_sound (fuel := 40) (r := some (.int 105)) (h' := (HD, mi, ml, mr)) (by rfl), rfl, rfl⟩
theorem c_chr1_3 {X : aXt × Value} {mi : Nat → Nat → Int32} {ml : Nat → Nat → Int64} {mr : Nat → Nat → Option Nat} (hX : outOK X) : aCW X 4 218 [.ref (aSTR + 1), .int 3] (HD, mi, ml, mr) (rdI mi ml mr 108) := by
  obtain ⟨x, v⟩ := X
  have hX : v = .null ∨ v = .ref aSIO := hX
  rcases hX with rfl | rfl <;> exact ⟨_, _, axe_sound (fuel := 40) (r := some (.int 108)) (h' := (HD, mi, ml, mr)) (by rfl), rfl, rfl⟩
theorem c_chr1_4 {X : aXt × Value} {mi : Nat → Nat → Int32} {ml : Nat → Nat → Int64} {mr : Nat → Nat → Option Nat} (hX : outOK X) : aCW X 4 218 [.ref (aSTR + 1), .int 4] (HD, mi, ml, mr) (rdI mi ml mr 108) := by
  obtain ⟨x, v⟩ := X
  have hX : v = .null ∨ v = .ref aSIO := hX
  rcases hX with rfl | rfl <;> exact ⟨_, _, axe_sound (fuel := 40) (r := some (.int 108)) (h' := (HD, mi, ml, mr)) (by rfl), rfl, rfl⟩
theorem c_len2 {X : aXt × Value} {mi : Nat → Nat → Int32} {ml : Nat → Nat → Int64} {mr : Nat → Nat → Option Nat} : aCW X 2 216 [.ref (aSTR + 2)] (HD, mi, ml, mr) (rdI mi ml mr 4) := ⟨_, _, axe_sound (fuel := 40) (r := some (.int 4)) (h' := (HD, mi, ml, mr)) (by rfl), rfl, rfl⟩
theorem c_chr2_0 {X : aXt × Value} {mi : Nat → Nat → Int32} {ml : Nat → Nat → Int64} {mr : Nat → Nat → Option Nat} (hX : outOK X) : aCW X 4 218 [.ref (aSTR + 2), .int 0] (HD, mi, ml, mr) (rdI mi ml mr 104) := by
  obtain ⟨x, v⟩ := X
  have hX : v = .null ∨ v = .ref aSIO := hX
  rcases hX with rfl | rfl <;> exact ⟨_, _, axe_sound (fuel := 40) (r := some (.int 104)) (h' := (HD, mi, ml, mr)) (by rfl), rfl, rfl⟩
theorem c_chr2_1 {X : aXt × Value} {mi : Nat → Nat → Int32} {ml : Nat → Nat → Int64} {mr : Nat → Nat → Option Nat} (hX : outOK X) : aCW X 4 218 [.ref (aSTR + 2), .int 1] (HD, mi, ml, mr) (rdI mi ml mr 97) := by
  obtain ⟨x, v⟩ := X
  have hX : v = .null ∨ v = .ref aSIO := hX
  rcases hX with rfl | rfl <;> exact ⟨_, _, axe_sound (fuel := 40) (r := some (.int 97)) (h' := (HD, mi, ml, mr)) (by rfl), rfl, rfl⟩
theorem c_chr2_2 {X : aXt × Value} {mi : Nat → Nat → Int32} {ml : Nat → Nat → Int64} {mr : Nat → Nat → Option Nat} (hX : outOK X) : aCW X 4 218 [.ref (aSTR + 2), .int 2] (HD, mi, ml, mr) (rdI mi ml mr 114) := by
  obtain ⟨x, v⟩ := X
  have hX : v = .null ∨ v = .ref aSIO := hX
  rcases hX with rfl | rfl <;> exact ⟨_, _, axe_sound (fuel := 40) (r := some (.int 114)) (h' := (HD, mi, ml, mr)) (by rfl), rfl, rfl⟩
theorem c_chr2_3 {X : aXt × Value} {mi : Nat → Nat → Int32} {ml : Nat → Nat → Int64} {mr : Nat → Nat → Option Nat} (hX : outOK X) : aCW X 4 218 [.ref (aSTR + 2), .int 3] (HD, mi, ml, mr) (rdI mi ml mr 100) := by
  obtain ⟨x, v⟩ := X
  have hX : v = .null ∨ v = .ref aSIO := hX
  rcases hX with rfl | rfl <;> exact ⟨_, _, axe_sound (fuel := 40) (r := some (.int 100)) (h' := (HD, mi, ml, mr)) (by rfl), rfl, rfl⟩
theorem c_len3 {X : aXt × Value} {mi : Nat → Nat → Int32} {ml : Nat → Nat → Int64} {mr : Nat → Nat → Option Nat} : aCW X 2 216 [.ref (aSTR + 3)] (HD, mi, ml, mr) (rdI mi ml mr 4) := ⟨_, _, axe_sound (fuel := 40) (r := some (.int 4)) (h' := (HD, mi, ml, mr)) (by rfl), rfl, rfl⟩
theorem c_chr3_0 {X : aXt × Value} {mi : Nat → Nat → Int32} {ml : Nat → Nat → Int64} {mr : Nat → Nat → Option Nat} (hX : outOK X) : aCW X 4 218 [.ref (aSTR + 3), .int 0] (HD, mi, ml, mr) (rdI mi ml mr 104) := by
  obtain ⟨x, v⟩ := X
  have hX : v = .null ∨ v = .ref aSIO := hX
  rcases hX with rfl | rfl <;> exact ⟨_, _, axe_sound (fuel := 40) (r := some (.int 104)) (h' := (HD, mi, ml, mr)) (by rfl), rfl, rfl⟩
theorem c_chr3_1 {X : aXt × Value} {mi : Nat → Nat → Int32} {ml : Nat → Nat → Int64} {mr : Nat → Nat → Option Nat} (hX : outOK X) : aCW X 4 218 [.ref (aSTR + 3), .int 1] (HD, mi, ml, mr) (rdI mi ml mr 101) := by
  obtain ⟨x, v⟩ := X
  have hX : v = .null ∨ v = .ref aSIO := hX
  rcases hX with rfl | rfl <;> exact ⟨_, _, axe_sound (fuel := 40) (r := some (.int 101)) (h' := (HD, mi, ml, mr)) (by rfl), rfl, rfl⟩
theorem c_chr3_2 {X : aXt × Value} {mi : Nat → Nat → Int32} {ml : Nat → Nat → Int64} {mr : Nat → Nat → Option Nat} (hX : outOK X) : aCW X 4 218 [.ref (aSTR + 3), .int 2] (HD, mi, ml, mr) (rdI mi ml mr 108) := by
  obtain ⟨x, v⟩ := X
  have hX : v = .null ∨ v = .ref aSIO := hX
  rcases hX with rfl | rfl <;> exact ⟨_, _, axe_sound (fuel := 40) (r := some (.int 108)) (h' := (HD, mi, ml, mr)) (by rfl), rfl, rfl⟩
theorem c_chr3_3 {X : aXt × Value} {mi : Nat → Nat → Int32} {ml : Nat → Nat → Int64} {mr : Nat → Nat → Option Nat} (hX : outOK X) : aCW X 4 218 [.ref (aSTR + 3), .int 3] (HD, mi, ml, mr) (rdI mi ml mr 112) := by
  obtain ⟨x, v⟩ := X
  have hX : v = .null ∨ v = .ref aSIO := hX
  rcases hX with rfl | rfl <;> exact ⟨_, _, axe_sound (fuel := 40) (r := some (.int 112)) (h' := (HD, mi, ml, mr)) (by rfl), rfl, rfl⟩
theorem c_len4 {X : aXt × Value} {mi : Nat → Nat → Int32} {ml : Nat → Nat → Int64} {mr : Nat → Nat → Option Nat} : aCW X 2 216 [.ref (aSTR + 4)] (HD, mi, ml, mr) (rdI mi ml mr 6) := ⟨_, _, axe_sound (fuel := 40) (r := some (.int 6)) (h' := (HD, mi, ml, mr)) (by rfl), rfl, rfl⟩
theorem c_chr4_0 {X : aXt × Value} {mi : Nat → Nat → Int32} {ml : Nat → Nat → Int64} {mr : Nat → Nat → Option Nat} (hX : outOK X) : aCW X 4 218 [.ref (aSTR + 4), .int 0] (HD, mi, ml, mr) (rdI mi ml mr 110) := by
  obtain ⟨x, v⟩ := X
  have hX : v = .null ∨ v = .ref aSIO := hX
  rcases hX with rfl | rfl <;> exact ⟨_, _, axe_sound (fuel := 40) (r := some (.int 110)) (h' := (HD, mi, ml, mr)) (by rfl), rfl, rfl⟩
theorem c_chr4_1 {X : aXt × Value} {mi : Nat → Nat → Int32} {ml : Nat → Nat → Int64} {mr : Nat → Nat → Option Nat} (hX : outOK X) : aCW X 4 218 [.ref (aSTR + 4), .int 1] (HD, mi, ml, mr) (rdI mi ml mr 117) := by
  obtain ⟨x, v⟩ := X
  have hX : v = .null ∨ v = .ref aSIO := hX
  rcases hX with rfl | rfl <;> exact ⟨_, _, axe_sound (fuel := 40) (r := some (.int 117)) (h' := (HD, mi, ml, mr)) (by rfl), rfl, rfl⟩
theorem c_chr4_2 {X : aXt × Value} {mi : Nat → Nat → Int32} {ml : Nat → Nat → Int64} {mr : Nat → Nat → Option Nat} (hX : outOK X) : aCW X 4 218 [.ref (aSTR + 4), .int 2] (HD, mi, ml, mr) (rdI mi ml mr 109) := by
  obtain ⟨x, v⟩ := X
  have hX : v = .null ∨ v = .ref aSIO := hX
  rcases hX with rfl | rfl <;> exact ⟨_, _, axe_sound (fuel := 40) (r := some (.int 109)) (h' := (HD, mi, ml, mr)) (by rfl), rfl, rfl⟩
theorem c_chr4_3 {X : aXt × Value} {mi : Nat → Nat → Int32} {ml : Nat → Nat → Int64} {mr : Nat → Nat → Option Nat} (hX : outOK X) : aCW X 4 218 [.ref (aSTR + 4), .int 3] (HD, mi, ml, mr) (rdI mi ml mr 98) := by
  obtain ⟨x, v⟩ := X
  have hX : v = .null ∨ v = .ref aSIO := hX
  rcases hX with rfl | rfl <;> exact ⟨_, _, axe_sound (fuel := 40) (r := some (.int 98)) (h' := (HD, mi, ml, mr)) (by rfl), rfl, rfl⟩
theorem c_chr4_4 {X : aXt × Value} {mi : Nat → Nat → Int32} {ml : Nat → Nat → Int64} {mr : Nat → Nat → Option Nat} (hX : outOK X) : aCW X 4 218 [.ref (aSTR + 4), .int 4] (HD, mi, ml, mr) (rdI mi ml mr 101) := by
  obtain ⟨x, v⟩ := X
  have hX : v = .null ∨ v = .ref aSIO := hX
  rcases hX with rfl | rfl <;> exact ⟨_, _, axe_sound (fuel := 40) (r := some (.int 101)) (h' := (HD, mi, ml, mr)) (by rfl), rfl, rfl⟩
theorem c_chr4_5 {X : aXt × Value} {mi : Nat → Nat → Int32} {ml : Nat → Nat → Int64} {mr : Nat → Nat → Option Nat} (hX : outOK X) : aCW X 4 218 [.ref (aSTR + 4), .int 5] (HD, mi, ml, mr) (rdI mi ml mr 114) := by
  obtain ⟨x, v⟩ := X
  have hX : v = .null ∨ v = .ref aSIO := hX
  rcases hX with rfl | rfl <;> exact ⟨_, _, axe_sound (fuel := 40) (r := some (.int 114)) (h' := (HD, mi, ml, mr)) (by rfl), rfl, rfl⟩
theorem c_len5 {X : aXt × Value} {mi : Nat → Nat → Int32} {ml : Nat → Nat → Int64} {mr : Nat → Nat → Option Nat} : aCW X 2 216 [.ref (aSTR + 5)] (HD, mi, ml, mr) (rdI mi ml mr 3) := ⟨_, _, axe_sound (fuel := 40) (r := some (.int 3)) (h' := (HD, mi, ml, mr)) (by rfl), rfl, rfl⟩
theorem c_chr5_0 {X : aXt × Value} {mi : Nat → Nat → Int32} {ml : Nat → Nat → Int64} {mr : Nat → Nat → Option Nat} (hX : outOK X) : aCW X 4 218 [.ref (aSTR + 5), .int 0] (HD, mi, ml, mr) (rdI mi ml mr 100) := by
  obtain ⟨x, v⟩ := X
  have hX : v = .null ∨ v = .ref aSIO := hX
  rcases hX with rfl | rfl <;> exact ⟨_, _, axe_sound (fuel := 40) (r := some (.int 100)) (h' := (HD, mi, ml, mr)) (by rfl), rfl, rfl⟩
theorem c_chr5_1 {X : aXt × Value} {mi : Nat → Nat → Int32} {ml : Nat → Nat → Int64} {mr : Nat → Nat → Option Nat} (hX : outOK X) : aCW X 4 218 [.ref (aSTR + 5), .int 1] (HD, mi, ml, mr) (rdI mi ml mr 97) := by
  obtain ⟨x, v⟩ := X
  have hX : v = .null ∨ v = .ref aSIO := hX
  rcases hX with rfl | rfl <;> exact ⟨_, _, axe_sound (fuel := 40) (r := some (.int 97)) (h' := (HD, mi, ml, mr)) (by rfl), rfl, rfl⟩
theorem c_chr5_2 {X : aXt × Value} {mi : Nat → Nat → Int32} {ml : Nat → Nat → Int64} {mr : Nat → Nat → Option Nat} (hX : outOK X) : aCW X 4 218 [.ref (aSTR + 5), .int 2] (HD, mi, ml, mr) (rdI mi ml mr 121) := by
  obtain ⟨x, v⟩ := X
  have hX : v = .null ∨ v = .ref aSIO := hX
  rcases hX with rfl | rfl <;> exact ⟨_, _, axe_sound (fuel := 40) (r := some (.int 121)) (h' := (HD, mi, ml, mr)) (by rfl), rfl, rfl⟩
theorem c_len6 {X : aXt × Value} {mi : Nat → Nat → Int32} {ml : Nat → Nat → Int64} {mr : Nat → Nat → Option Nat} : aCW X 2 216 [.ref (aSTR + 6)] (HD, mi, ml, mr) (rdI mi ml mr 4) := ⟨_, _, axe_sound (fuel := 40) (r := some (.int 4)) (h' := (HD, mi, ml, mr)) (by rfl), rfl, rfl⟩
theorem c_chr6_0 {X : aXt × Value} {mi : Nat → Nat → Int32} {ml : Nat → Nat → Int64} {mr : Nat → Nat → Option Nat} (hX : outOK X) : aCW X 4 218 [.ref (aSTR + 6), .int 0] (HD, mi, ml, mr) (rdI mi ml mr 100) := by
  obtain ⟨x, v⟩ := X
  have hX : v = .null ∨ v = .ref aSIO := hX
  rcases hX with rfl | rfl <;> exact ⟨_, _, axe_sound (fuel := 40) (r := some (.int 100)) (h' := (HD, mi, ml, mr)) (by rfl), rfl, rfl⟩
theorem c_chr6_1 {X : aXt × Value} {mi : Nat → Nat → Int32} {ml : Nat → Nat → Int64} {mr : Nat → Nat → Option Nat} (hX : outOK X) : aCW X 4 218 [.ref (aSTR + 6), .int 1] (HD, mi, ml, mr) (rdI mi ml mr 111) := by
  obtain ⟨x, v⟩ := X
  have hX : v = .null ∨ v = .ref aSIO := hX
  rcases hX with rfl | rfl <;> exact ⟨_, _, axe_sound (fuel := 40) (r := some (.int 111)) (h' := (HD, mi, ml, mr)) (by rfl), rfl, rfl⟩
theorem c_chr6_2 {X : aXt × Value} {mi : Nat → Nat → Int32} {ml : Nat → Nat → Int64} {mr : Nat → Nat → Option Nat} (hX : outOK X) : aCW X 4 218 [.ref (aSTR + 6), .int 2] (HD, mi, ml, mr) (rdI mi ml mr 110) := by
  obtain ⟨x, v⟩ := X
  have hX : v = .null ∨ v = .ref aSIO := hX
  rcases hX with rfl | rfl <;> exact ⟨_, _, axe_sound (fuel := 40) (r := some (.int 110)) (h' := (HD, mi, ml, mr)) (by rfl), rfl, rfl⟩
theorem c_chr6_3 {X : aXt × Value} {mi : Nat → Nat → Int32} {ml : Nat → Nat → Int64} {mr : Nat → Nat → Option Nat} (hX : outOK X) : aCW X 4 218 [.ref (aSTR + 6), .int 3] (HD, mi, ml, mr) (rdI mi ml mr 101) := by
  obtain ⟨x, v⟩ := X
  have hX : v = .null ∨ v = .ref aSIO := hX
  rcases hX with rfl | rfl <;> exact ⟨_, _, axe_sound (fuel := 40) (r := some (.int 101)) (h' := (HD, mi, ml, mr)) (by rfl), rfl, rfl⟩
theorem c_len7 {X : aXt × Value} {mi : Nat → Nat → Int32} {ml : Nat → Nat → Int64} {mr : Nat → Nat → Option Nat} : aCW X 2 216 [.ref (aSTR + 7)] (HD, mi, ml, mr) (rdI mi ml mr 7) := ⟨_, _, axe_sound (fuel := 40) (r := some (.int 7)) (h' := (HD, mi, ml, mr)) (by rfl), rfl, rfl⟩
theorem c_chr7_0 {X : aXt × Value} {mi : Nat → Nat → Int32} {ml : Nat → Nat → Int64} {mr : Nat → Nat → Option Nat} (hX : outOK X) : aCW X 4 218 [.ref (aSTR + 7), .int 0] (HD, mi, ml, mr) (rdI mi ml mr 116) := by
  obtain ⟨x, v⟩ := X
  have hX : v = .null ∨ v = .ref aSIO := hX
  rcases hX with rfl | rfl <;> exact ⟨_, _, axe_sound (fuel := 40) (r := some (.int 116)) (h' := (HD, mi, ml, mr)) (by rfl), rfl, rfl⟩
theorem c_chr7_1 {X : aXt × Value} {mi : Nat → Nat → Int32} {ml : Nat → Nat → Int64} {mr : Nat → Nat → Option Nat} (hX : outOK X) : aCW X 4 218 [.ref (aSTR + 7), .int 1] (HD, mi, ml, mr) (rdI mi ml mr 101) := by
  obtain ⟨x, v⟩ := X
  have hX : v = .null ∨ v = .ref aSIO := hX
  rcases hX with rfl | rfl <;> exact ⟨_, _, axe_sound (fuel := 40) (r := some (.int 101)) (h' := (HD, mi, ml, mr)) (by rfl), rfl, rfl⟩
theorem c_chr7_2 {X : aXt × Value} {mi : Nat → Nat → Int32} {ml : Nat → Nat → Int64} {mr : Nat → Nat → Option Nat} (hX : outOK X) : aCW X 4 218 [.ref (aSTR + 7), .int 2] (HD, mi, ml, mr) (rdI mi ml mr 97) := by
  obtain ⟨x, v⟩ := X
  have hX : v = .null ∨ v = .ref aSIO := hX
  rcases hX with rfl | rfl <;> exact ⟨_, _, axe_sound (fuel := 40) (r := some (.int 97)) (h' := (HD, mi, ml, mr)) (by rfl), rfl, rfl⟩
theorem c_chr7_3 {X : aXt × Value} {mi : Nat → Nat → Int32} {ml : Nat → Nat → Int64} {mr : Nat → Nat → Option Nat} (hX : outOK X) : aCW X 4 218 [.ref (aSTR + 7), .int 3] (HD, mi, ml, mr) (rdI mi ml mr 99) := by
  obtain ⟨x, v⟩ := X
  have hX : v = .null ∨ v = .ref aSIO := hX
  rcases hX with rfl | rfl <;> exact ⟨_, _, axe_sound (fuel := 40) (r := some (.int 99)) (h' := (HD, mi, ml, mr)) (by rfl), rfl, rfl⟩
theorem c_chr7_4 {X : aXt × Value} {mi : Nat → Nat → Int32} {ml : Nat → Nat → Int64} {mr : Nat → Nat → Option Nat} (hX : outOK X) : aCW X 4 218 [.ref (aSTR + 7), .int 4] (HD, mi, ml, mr) (rdI mi ml mr 104) := by
  obtain ⟨x, v⟩ := X
  have hX : v = .null ∨ v = .ref aSIO := hX
  rcases hX with rfl | rfl <;> exact ⟨_, _, axe_sound (fuel := 40) (r := some (.int 104)) (h' := (HD, mi, ml, mr)) (by rfl), rfl, rfl⟩
theorem c_chr7_5 {X : aXt × Value} {mi : Nat → Nat → Int32} {ml : Nat → Nat → Int64} {mr : Nat → Nat → Option Nat} (hX : outOK X) : aCW X 4 218 [.ref (aSTR + 7), .int 5] (HD, mi, ml, mr) (rdI mi ml mr 101) := by
  obtain ⟨x, v⟩ := X
  have hX : v = .null ∨ v = .ref aSIO := hX
  rcases hX with rfl | rfl <;> exact ⟨_, _, axe_sound (fuel := 40) (r := some (.int 101)) (h' := (HD, mi, ml, mr)) (by rfl), rfl, rfl⟩
theorem c_chr7_6 {X : aXt × Value} {mi : Nat → Nat → Int32} {ml : Nat → Nat → Int64} {mr : Nat → Nat → Option Nat} (hX : outOK X) : aCW X 4 218 [.ref (aSTR + 7), .int 6] (HD, mi, ml, mr) (rdI mi ml mr 115) := by
  obtain ⟨x, v⟩ := X
  have hX : v = .null ∨ v = .ref aSIO := hX
  rcases hX with rfl | rfl <;> exact ⟨_, _, axe_sound (fuel := 40) (r := some (.int 115)) (h' := (HD, mi, ml, mr)) (by rfl), rfl, rfl⟩
theorem c_len8 {X : aXt × Value} {mi : Nat → Nat → Int32} {ml : Nat → Nat → Int64} {mr : Nat → Nat → Option Nat} : aCW X 2 216 [.ref (aSTR + 8)] (HD, mi, ml, mr) (rdI mi ml mr 5) := ⟨_, _, axe_sound (fuel := 40) (r := some (.int 5)) (h' := (HD, mi, ml, mr)) (by rfl), rfl, rfl⟩
theorem c_chr8_0 {X : aXt × Value} {mi : Nat → Nat → Int32} {ml : Nat → Nat → Int64} {mr : Nat → Nat → Option Nat} (hX : outOK X) : aCW X 4 218 [.ref (aSTR + 8), .int 0] (HD, mi, ml, mr) (rdI mi ml mr 102) := by
  obtain ⟨x, v⟩ := X
  have hX : v = .null ∨ v = .ref aSIO := hX
  rcases hX with rfl | rfl <;> exact ⟨_, _, axe_sound (fuel := 40) (r := some (.int 102)) (h' := (HD, mi, ml, mr)) (by rfl), rfl, rfl⟩
theorem c_chr8_1 {X : aXt × Value} {mi : Nat → Nat → Int32} {ml : Nat → Nat → Int64} {mr : Nat → Nat → Option Nat} (hX : outOK X) : aCW X 4 218 [.ref (aSTR + 8), .int 1] (HD, mi, ml, mr) (rdI mi ml mr 97) := by
  obtain ⟨x, v⟩ := X
  have hX : v = .null ∨ v = .ref aSIO := hX
  rcases hX with rfl | rfl <;> exact ⟨_, _, axe_sound (fuel := 40) (r := some (.int 97)) (h' := (HD, mi, ml, mr)) (by rfl), rfl, rfl⟩
theorem c_chr8_2 {X : aXt × Value} {mi : Nat → Nat → Int32} {ml : Nat → Nat → Int64} {mr : Nat → Nat → Option Nat} (hX : outOK X) : aCW X 4 218 [.ref (aSTR + 8), .int 2] (HD, mi, ml, mr) (rdI mi ml mr 100) := by
  obtain ⟨x, v⟩ := X
  have hX : v = .null ∨ v = .ref aSIO := hX
  rcases hX with rfl | rfl <;> exact ⟨_, _, axe_sound (fuel := 40) (r := some (.int 100)) (h' := (HD, mi, ml, mr)) (by rfl), rfl, rfl⟩
theorem c_chr8_3 {X : aXt × Value} {mi : Nat → Nat → Int32} {ml : Nat → Nat → Int64} {mr : Nat → Nat → Option Nat} (hX : outOK X) : aCW X 4 218 [.ref (aSTR + 8), .int 3] (HD, mi, ml, mr) (rdI mi ml mr 101) := by
  obtain ⟨x, v⟩ := X
  have hX : v = .null ∨ v = .ref aSIO := hX
  rcases hX with rfl | rfl <;> exact ⟨_, _, axe_sound (fuel := 40) (r := some (.int 101)) (h' := (HD, mi, ml, mr)) (by rfl), rfl, rfl⟩
theorem c_chr8_4 {X : aXt × Value} {mi : Nat → Nat → Int32} {ml : Nat → Nat → Int64} {mr : Nat → Nat → Option Nat} (hX : outOK X) : aCW X 4 218 [.ref (aSTR + 8), .int 4] (HD, mi, ml, mr) (rdI mi ml mr 115) := by
  obtain ⟨x, v⟩ := X
  have hX : v = .null ∨ v = .ref aSIO := hX
  rcases hX with rfl | rfl <;> exact ⟨_, _, axe_sound (fuel := 40) (r := some (.int 115)) (h' := (HD, mi, ml, mr)) (by rfl), rfl, rfl⟩
theorem c_len9 {X : aXt × Value} {mi : Nat → Nat → Int32} {ml : Nat → Nat → Int64} {mr : Nat → Nat → Option Nat} : aCW X 2 216 [.ref (aSTR + 9)] (HD, mi, ml, mr) (rdI mi ml mr 6) := ⟨_, _, axe_sound (fuel := 40) (r := some (.int 6)) (h' := (HD, mi, ml, mr)) (by rfl), rfl, rfl⟩
theorem c_chr9_0 {X : aXt × Value} {mi : Nat → Nat → Int32} {ml : Nat → Nat → Int64} {mr : Nat → Nat → Option Nat} (hX : outOK X) : aCW X 4 218 [.ref (aSTR + 9), .int 0] (HD, mi, ml, mr) (rdI mi ml mr 110) := by
  obtain ⟨x, v⟩ := X
  have hX : v = .null ∨ v = .ref aSIO := hX
  rcases hX with rfl | rfl <;> exact ⟨_, _, axe_sound (fuel := 40) (r := some (.int 110)) (h' := (HD, mi, ml, mr)) (by rfl), rfl, rfl⟩
theorem c_chr9_1 {X : aXt × Value} {mi : Nat → Nat → Int32} {ml : Nat → Nat → Int64} {mr : Nat → Nat → Option Nat} (hX : outOK X) : aCW X 4 218 [.ref (aSTR + 9), .int 1] (HD, mi, ml, mr) (rdI mi ml mr 101) := by
  obtain ⟨x, v⟩ := X
  have hX : v = .null ∨ v = .ref aSIO := hX
  rcases hX with rfl | rfl <;> exact ⟨_, _, axe_sound (fuel := 40) (r := some (.int 101)) (h' := (HD, mi, ml, mr)) (by rfl), rfl, rfl⟩
theorem c_chr9_2 {X : aXt × Value} {mi : Nat → Nat → Int32} {ml : Nat → Nat → Int64} {mr : Nat → Nat → Option Nat} (hX : outOK X) : aCW X 4 218 [.ref (aSTR + 9), .int 2] (HD, mi, ml, mr) (rdI mi ml mr 114) := by
  obtain ⟨x, v⟩ := X
  have hX : v = .null ∨ v = .ref aSIO := hX
  rcases hX with rfl | rfl <;> exact ⟨_, _, axe_sound (fuel := 40) (r := some (.int 114)) (h' := (HD, mi, ml, mr)) (by rfl), rfl, rfl⟩
theorem c_chr9_3 {X : aXt × Value} {mi : Nat → Nat → Int32} {ml : Nat → Nat → Int64} {mr : Nat → Nat → Option Nat} (hX : outOK X) : aCW X 4 218 [.ref (aSTR + 9), .int 3] (HD, mi, ml, mr) (rdI mi ml mr 118) := by
  obtain ⟨x, v⟩ := X
  have hX : v = .null ∨ v = .ref aSIO := hX
  rcases hX with rfl | rfl <;> exact ⟨_, _, axe_sound (fuel := 40) (r := some (.int 118)) (h' := (HD, mi, ml, mr)) (by rfl), rfl, rfl⟩
theorem c_chr9_4 {X : aXt × Value} {mi : Nat → Nat → Int32} {ml : Nat → Nat → Int64} {mr : Nat → Nat → Option Nat} (hX : outOK X) : aCW X 4 218 [.ref (aSTR + 9), .int 4] (HD, mi, ml, mr) (rdI mi ml mr 101) := by
  obtain ⟨x, v⟩ := X
  have hX : v = .null ∨ v = .ref aSIO := hX
  rcases hX with rfl | rfl <;> exact ⟨_, _, axe_sound (fuel := 40) (r := some (.int 101)) (h' := (HD, mi, ml, mr)) (by rfl), rfl, rfl⟩
theorem c_chr9_5 {X : aXt × Value} {mi : Nat → Nat → Int32} {ml : Nat → Nat → Int64} {mr : Nat → Nat → Option Nat} (hX : outOK X) : aCW X 4 218 [.ref (aSTR + 9), .int 5] (HD, mi, ml, mr) (rdI mi ml mr 115) := by
  obtain ⟨x, v⟩ := X
  have hX : v = .null ∨ v = .ref aSIO := hX
  rcases hX with rfl | rfl <;> exact ⟨_, _, axe_sound (fuel := 40) (r := some (.int 115)) (h' := (HD, mi, ml, mr)) (by rfl), rfl, rfl⟩
theorem c_len10 {X : aXt × Value} {mi : Nat → Nat → Int32} {ml : Nat → Nat → Int64} {mr : Nat → Nat → Option Nat} : aCW X 2 216 [.ref (aSTR + 10)] (HD, mi, ml, mr) (rdI mi ml mr 2) := ⟨_, _, axe_sound (fuel := 40) (r := some (.int 2)) (h' := (HD, mi, ml, mr)) (by rfl), rfl, rfl⟩
theorem c_chr10_0 {X : aXt × Value} {mi : Nat → Nat → Int32} {ml : Nat → Nat → Int64} {mr : Nat → Nat → Option Nat} (hX : outOK X) : aCW X 4 218 [.ref (aSTR + 10), .int 0] (HD, mi, ml, mr) (rdI mi ml mr 111) := by
  obtain ⟨x, v⟩ := X
  have hX : v = .null ∨ v = .ref aSIO := hX
  rcases hX with rfl | rfl <;> exact ⟨_, _, axe_sound (fuel := 40) (r := some (.int 111)) (h' := (HD, mi, ml, mr)) (by rfl), rfl, rfl⟩
theorem c_chr10_1 {X : aXt × Value} {mi : Nat → Nat → Int32} {ml : Nat → Nat → Int64} {mr : Nat → Nat → Option Nat} (hX : outOK X) : aCW X 4 218 [.ref (aSTR + 10), .int 1] (HD, mi, ml, mr) (rdI mi ml mr 114) := by
  obtain ⟨x, v⟩ := X
  have hX : v = .null ∨ v = .ref aSIO := hX
  rcases hX with rfl | rfl <;> exact ⟨_, _, axe_sound (fuel := 40) (r := some (.int 114)) (h' := (HD, mi, ml, mr)) (by rfl), rfl, rfl⟩
theorem c_len11 {X : aXt × Value} {mi : Nat → Nat → Int32} {ml : Nat → Nat → Int64} {mr : Nat → Nat → Option Nat} : aCW X 2 216 [.ref (aSTR + 11)] (HD, mi, ml, mr) (rdI mi ml mr 3) := ⟨_, _, axe_sound (fuel := 40) (r := some (.int 3)) (h' := (HD, mi, ml, mr)) (by rfl), rfl, rfl⟩
theorem c_chr11_0 {X : aXt × Value} {mi : Nat → Nat → Int32} {ml : Nat → Nat → Int64} {mr : Nat → Nat → Option Nat} (hX : outOK X) : aCW X 4 218 [.ref (aSTR + 11), .int 0] (HD, mi, ml, mr) (rdI mi ml mr 97) := by
  obtain ⟨x, v⟩ := X
  have hX : v = .null ∨ v = .ref aSIO := hX
  rcases hX with rfl | rfl <;> exact ⟨_, _, axe_sound (fuel := 40) (r := some (.int 97)) (h' := (HD, mi, ml, mr)) (by rfl), rfl, rfl⟩
theorem c_chr11_1 {X : aXt × Value} {mi : Nat → Nat → Int32} {ml : Nat → Nat → Int64} {mr : Nat → Nat → Option Nat} (hX : outOK X) : aCW X 4 218 [.ref (aSTR + 11), .int 1] (HD, mi, ml, mr) (rdI mi ml mr 110) := by
  obtain ⟨x, v⟩ := X
  have hX : v = .null ∨ v = .ref aSIO := hX
  rcases hX with rfl | rfl <;> exact ⟨_, _, axe_sound (fuel := 40) (r := some (.int 110)) (h' := (HD, mi, ml, mr)) (by rfl), rfl, rfl⟩
theorem c_chr11_2 {X : aXt × Value} {mi : Nat → Nat → Int32} {ml : Nat → Nat → Int64} {mr : Nat → Nat → Option Nat} (hX : outOK X) : aCW X 4 218 [.ref (aSTR + 11), .int 2] (HD, mi, ml, mr) (rdI mi ml mr 100) := by
  obtain ⟨x, v⟩ := X
  have hX : v = .null ∨ v = .ref aSIO := hX
  rcases hX with rfl | rfl <;> exact ⟨_, _, axe_sound (fuel := 40) (r := some (.int 100)) (h' := (HD, mi, ml, mr)) (by rfl), rfl, rfl⟩
theorem c_len12 {X : aXt × Value} {mi : Nat → Nat → Int32} {ml : Nat → Nat → Int64} {mr : Nat → Nat → Option Nat} : aCW X 2 216 [.ref (aSTR + 12)] (HD, mi, ml, mr) (rdI mi ml mr 3) := ⟨_, _, axe_sound (fuel := 40) (r := some (.int 3)) (h' := (HD, mi, ml, mr)) (by rfl), rfl, rfl⟩
theorem c_chr12_0 {X : aXt × Value} {mi : Nat → Nat → Int32} {ml : Nat → Nat → Int64} {mr : Nat → Nat → Option Nat} (hX : outOK X) : aCW X 4 218 [.ref (aSTR + 12), .int 0] (HD, mi, ml, mr) (rdI mi ml mr 110) := by
  obtain ⟨x, v⟩ := X
  have hX : v = .null ∨ v = .ref aSIO := hX
  rcases hX with rfl | rfl <;> exact ⟨_, _, axe_sound (fuel := 40) (r := some (.int 110)) (h' := (HD, mi, ml, mr)) (by rfl), rfl, rfl⟩
theorem c_chr12_1 {X : aXt × Value} {mi : Nat → Nat → Int32} {ml : Nat → Nat → Int64} {mr : Nat → Nat → Option Nat} (hX : outOK X) : aCW X 4 218 [.ref (aSTR + 12), .int 1] (HD, mi, ml, mr) (rdI mi ml mr 111) := by
  obtain ⟨x, v⟩ := X
  have hX : v = .null ∨ v = .ref aSIO := hX
  rcases hX with rfl | rfl <;> exact ⟨_, _, axe_sound (fuel := 40) (r := some (.int 111)) (h' := (HD, mi, ml, mr)) (by rfl), rfl, rfl⟩
theorem c_chr12_2 {X : aXt × Value} {mi : Nat → Nat → Int32} {ml : Nat → Nat → Int64} {mr : Nat → Nat → Option Nat} (hX : outOK X) : aCW X 4 218 [.ref (aSTR + 12), .int 2] (HD, mi, ml, mr) (rdI mi ml mr 116) := by
  obtain ⟨x, v⟩ := X
  have hX : v = .null ∨ v = .ref aSIO := hX
  rcases hX with rfl | rfl <;> exact ⟨_, _, axe_sound (fuel := 40) (r := some (.int 116)) (h' := (HD, mi, ml, mr)) (by rfl), rfl, rfl⟩
