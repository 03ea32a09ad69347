/-! what a body may use of the methods that it calls -/
def aCalls (l : Launch) (D : va_G) (cA : Nat → ClassId) (ad : Nat → Nat) (bs : Nat) (X : aXt × Value) (d : Nat) (E : Nat → List Value → aM → Option Value → aM → Prop) : Prop :=
  ∀ mid y cc maxL ret, anth aInfL mid = some (y, cc, maxL, ret) → ∀ as h v h1, E mid as h v h1 → aMet l D cA ad bs X d y cc maxL ret as h v h1
