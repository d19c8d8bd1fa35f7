/-! Contracts of Views, third part: the LEAST. -/
def vOr (f : Nat → Int) : Prop := ((f 4).toNat = 95 ∧ (f 5).toNat = 96) ∨ ((f 4).toNat = 96 ∧ (f 5).toNat = 95)
section
variable {d : Nat} {K : Option vi_V → vi_W → Prop} {Y : vi_Y} {M : vi_M} {n : Nat × Nat} {P B R T S : Nat → Bool}
end
