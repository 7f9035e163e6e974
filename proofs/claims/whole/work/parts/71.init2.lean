/-! LEVEL 2: the start, by the kernel's own counting -/
theorem i2_C : (f_X9_init [.inl 9] 0 xZD).isSome = true := by decide +kernel
def dC0 : xD := (f_X9_init [.inl 9] 0 xZD).getD xZD
theorem x_some {α : Type} {x : Option α} {z : α} (h : x.isSome = true) : x = some (x.getD z) := by
  cases x with
  | none => cases h
  | some d => rfl
theorem dC0_eq : f_X9_init [.inl 9] 0 xZD = some dC0 := x_some i2_C
theorem i2_M : (f_X10_init (sx_X9_init_98 [.inl 9] ++ [.inl 10]) 99 (xnw dC0 99)).isSome = true := by decide +kernel
def dM0 : xD := (f_X10_init (sx_X9_init_98 [.inl 9] ++ [.inl 10]) 99 (xnw dC0 99)).getD xZD
theorem dM0_eq : f_X10_init (sx_X9_init_98 [.inl 9] ++ [.inl 10]) 99 (xnw dC0 99) = some dM0 := x_some i2_M
/-- the one heap at the loop's first turn -/
def dA0 : xD := xnw dM0 139
