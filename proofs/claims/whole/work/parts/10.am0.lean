/-! an instruction with what it is linked to: numbers, constants, a table of jumps -/
abbrev aM : Type := Instr × (Nat × Nat × Nat × Nat) × Int32 × Int64 × List (Int32 × Nat)
