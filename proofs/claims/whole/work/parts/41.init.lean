/-! the constructors, run without unknowns -/
def tX0 : aXt × Value := (fun _ => none, .null)
set_option maxRecDepth 1000000 in
theorem t_foot : ((axe (aTb tX0) 5000 40 65 [.ref 0] (anew aH0 (0, 6) 11)).map (fun q => q.2.1.1)) = some 84 := by decide +kernel
