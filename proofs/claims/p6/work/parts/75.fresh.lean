/-! FRESH OBJECTS -/
def dfA : FieldType → AV
  | .object _ => nv
  | .array _ => nv
  | _ => iv 0
def dfG : FieldType → Bool
  | .long => false
  | .float => false
  | .double => false
  | _ => true
theorem dfA_ok : ∀ t : FieldType, dfG t = true → defaultValue t = tV (dfA t) := by
  intro t
  cases t <;> first | (intro h; cases h; done) | (intro _; rfl)
def fzX0 : Nat → AV := fun k => dfA (tyX0 k)
theorem fzX0_ok : ∀ j, j < 7 → defaultValue (tyX0 j) = tV (fzX0 j) := fun j h => dfA_ok _ ((by decide +kernel : ∀ j, j < 7 → dfG (tyX0 j) = true) j h)
def fzX1 : Nat → AV := fun k => dfA (tyX1 k)
theorem fzX1_ok : ∀ j, j < 5 → defaultValue (tyX1 j) = tV (fzX1 j) := fun j h => dfA_ok _ ((by decide +kernel : ∀ j, j < 5 → dfG (tyX1 j) = true) j h)
def fzX2 : Nat → AV := fun k => dfA (tyX2 k)
theorem fzX2_ok : ∀ j, j < 5 → defaultValue (tyX2 j) = tV (fzX2 j) := fun j h => dfA_ok _ ((by decide +kernel : ∀ j, j < 5 → dfG (tyX2 j) = true) j h)
def fzX3 : Nat → AV := fun k => dfA (tyX3 k)
theorem fzX3_ok : ∀ j, j < 5 → defaultValue (tyX3 j) = tV (fzX3 j) := fun j h => dfA_ok _ ((by decide +kernel : ∀ j, j < 5 → dfG (tyX3 j) = true) j h)
def fzX4 : Nat → AV := fun k => dfA (tyX4 k)
theorem fzX4_ok : ∀ j, j < 9 → defaultValue (tyX4 j) = tV (fzX4 j) := fun j h => dfA_ok _ ((by decide +kernel : ∀ j, j < 9 → dfG (tyX4 j) = true) j h)
def fzX6 : Nat → AV := fun k => dfA (tyX6 k)
theorem fzX6_ok : ∀ j, j < 8 → defaultValue (tyX6 j) = tV (fzX6 j) := fun j h => dfA_ok _ ((by decide +kernel : ∀ j, j < 8 → dfG (tyX6 j) = true) j h)
def fzX7 : Nat → AV := fun k => dfA (tyX7 k)
theorem fzX7_ok : ∀ j, j < 2 → defaultValue (tyX7 j) = tV (fzX7 j) := fun j h => dfA_ok _ ((by decide +kernel : ∀ j, j < 2 → dfG (tyX7 j) = true) j h)
def fzX8 : Nat → AV := fun k => dfA (tyX8 k)
theorem fzX8_ok : ∀ j, j < 7 → defaultValue (tyX8 j) = tV (fzX8 j) := fun j h => dfA_ok _ ((by decide +kernel : ∀ j, j < 7 → dfG (tyX8 j) = true) j h)
def fzX9 : Nat → AV := fun k => dfA (tyX9 k)
theorem fzX9_ok : ∀ j, j < 5 → defaultValue (tyX9 j) = tV (fzX9 j) := fun j h => dfA_ok _ ((by decide +kernel : ∀ j, j < 5 → dfG (tyX9 j) = true) j h)
def fzX10 : Nat → AV := fun k => dfA (tyX10 k)
theorem fzX10_ok : ∀ j, j < 7 → defaultValue (tyX10 j) = tV (fzX10 j) := fun j h => dfA_ok _ ((by decide +kernel : ∀ j, j < 7 → dfG (tyX10 j) = true) j h)
def fzX11 : Nat → AV := fun k => dfA (tyX11 k)
theorem fzX11_ok : ∀ j, j < 16 → defaultValue (tyX11 j) = tV (fzX11 j) := fun j h => dfA_ok _ ((by decide +kernel : ∀ j, j < 16 → dfG (tyX11 j) = true) j h)
def fzX12 : Nat → AV := fun k => dfA (tyX12 k)
theorem fzX12_ok : ∀ j, j < 50 → defaultValue (tyX12 j) = tV (fzX12 j) := fun j h => dfA_ok _ ((by decide +kernel : ∀ j, j < 50 → dfG (tyX12 j) = true) j h)
