/-! Flows from cells by red sides to places by outside ones: no more than any cut. -/
def N0 (R : Nat → Bool) (p : Nat) : Bool := (List.range 64).any (fun r => R r && ftB r p 24)
