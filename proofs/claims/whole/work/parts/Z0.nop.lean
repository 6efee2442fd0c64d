theorem nop_0 : (0 : Nat) = 0 := rfl
