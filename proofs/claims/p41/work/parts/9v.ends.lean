/-! ends (reference): what is left with so many holes more, held against a goal. -/
def lnT (M : vi_M) (x : Int) (S : Nat → Bool) : Nat → Bool := if x = -1 then S else sDif S (sLn (M 130 x.toNat) (M 131 x.toNat) (M 132 x.toNat))
section
variable {D : Nat} {K : Option vi_V → vi_W → Prop} {Y : vi_Y} {M : vi_M} {nn : Nat × Nat} {Q : Option vi_V → vi_W → Prop}
end
