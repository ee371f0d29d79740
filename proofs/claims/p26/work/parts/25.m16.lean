def oW (w : WD) (O : Nat → Nat → Nat) : WD := wO w 7 O
