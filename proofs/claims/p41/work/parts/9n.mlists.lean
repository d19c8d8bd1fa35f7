/-! Contracts of the reference, twenty-third part: all lines listed. -/
def lsV (a u : Nat) : Nat → List (Nat × Nat × Nat)
  | 0 => []
  | v + 1 => lsV a u v ++ [(a, u, v)]
def lsU (a V : Nat) : Nat → List (Nat × Nat × Nat)
  | 0 => []
  | u + 1 => lsU a V u ++ lsV a u V
def szU (f : Nat → Int) (a : Nat) : Nat := (f (if a = 0 then 97 else 96)).toNat
def szV (f : Nat → Int) (a : Nat) : Nat := (f (if a = 2 then 97 else 98)).toNat
def lsA (f : Nat → Int) : Nat → List (Nat × Nat × Nat)
  | 0 => []
  | a + 1 => lsA f a ++ lsU a (szV f a) (szU f a)
section
variable {D : Nat} {K : Option vi_V → vi_W → Prop} {Y : vi_Y} {M : vi_M} {nn : Nat × Nat} {Q : Option vi_V → vi_W → Prop}
end
