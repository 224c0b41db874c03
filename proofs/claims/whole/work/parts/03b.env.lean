def q_fts : List (List Nat) := []
def q_env2 (E : Nat × Heap × (Int → Nat) × va_G × (Nat → ClassId)) (U : State) : Prop := True
