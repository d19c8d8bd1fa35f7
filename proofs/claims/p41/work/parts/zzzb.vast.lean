/-! Pairs: vast. -/
section
variable {n : Nat} {κ : Nat → Nat}
end
section
variable {I : Nat → Bool} {en : Nat → Nat}
/-- the first of its line, and the line is inside -/
def gdL (I : Nat → Bool) (en : Nat → Nat) (i : Nat) : Bool := I (en i) && ! sOr i (fun o => decide (en o = en i))
/-- what a line keeps to on axis b -/
def poN (l b : Nat) : Nat := if b = (if l / 36 = 0 then 1 else 0) then l / 6 % 6 else l % 6
def crN (l m : Nat) : Bool := decide (l / 36 ≠ m / 36) && decide (poN l (3 - l / 36 - m / 36) = poN m (3 - l / 36 - m / 36))
def w2 (I : Nat → Bool) (en : Nat → Nat) (i j : Nat) : Nat := (gdL I en i).toNat * ((gdL I en j).toNat * (crN (en i) (en j)).toNat)
def w3 (I : Nat → Bool) (en : Nat → Nat) (i j k : Nat) : Nat := (gdL I en i).toNat * ((gdL I en j).toNat * ((gdL I en k).toNat * ((crN (en i) (en j)).toNat * ((crN (en i) (en k)).toNat * (crN (en j) (en k)).toNat))))
end
section
variable {I : Nat → Bool} {en : Nat → Nat} {n : Nat}
end
