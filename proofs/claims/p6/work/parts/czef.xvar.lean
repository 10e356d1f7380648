def fcn (f : Nat → Int32) (N : Nat) : Nat := (List.range N).countP (fun j => decide (f j = -9))
