/-! Pairs: fits; the ways. -/
section
variable {A : Nat → Nat → Bool}
end
/-- six digits -/
def e7 (d : Nat → Nat) : Nat := d 0 + 7 * d 1 + 49 * d 2 + 343 * d 3 + 2401 * d 4 + 16807 * d 5
def e4 (d : Nat → Nat) : Nat := d 0 + 4 * d 1 + 16 * d 2 + 64 * d 3 + 256 * d 4 + 1024 * d 5
def vo (s i : Nat) : Nat := (s.testBit i).toNat
/-- three sets together -/
def v3 (a b c i : Nat) : Nat := vo a i + vo b i + vo c i
section
variable {A : Nat → Nat → Bool} {g : Nat → Int} {Z : Nat}
end
