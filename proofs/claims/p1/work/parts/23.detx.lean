/-! contracts that end in one value, or in one throw: f = 0 the method returns; else it throws exN f -/
def exN : Nat → String
  | 1 => "java/lang/IllegalArgumentException"
  | 2 => "java/lang/IllegalStateException"
  | _ => "java/lang/IndexOutOfBoundsException"
def zdx (f : Nat) (r0 : Option Value) (M0 : ZM) : Option Value → ZM → Nat → Prop := fun r M' _ => f = 0 ∧ r = r0 ∧ M' = M0
def zxx (f : Nat) (M0 : ZM) : String → ZM → Prop := fun E M' => ¬ f = 0 ∧ E = exN f ∧ M' = M0
theorem rf_if2 {f : Nat → Nat} {n m : Nat} (hj : m < n) : va_rf ((fun q => if q < n then some (f q) else none) m) = .ref (f m) := by
  simp [va_rf, hj]
