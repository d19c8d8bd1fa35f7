/-! Contracts of the reference (at 112), first part: tokens (tape at 118, codes 120, values 121, places 122). -/
def wBy : List Int := wL 1 ++ [32] ++ wL 2 ++ [32] ++ wL 3 ++ [32] ++ wL 4 ++ [32] ++ wL 5 ++ [32] ++ wL 6 ++ [32] ++ wL 7 ++ [32] ++ wL 8 ++ [32] ++ wL 9 ++ [32] ++ wL 10 ++ [32] ++ wL 11 ++ [32] ++ wL 12 ++ [32] ++ wL 13 ++ [32]
def kW (M : vi_M) : Prop := ∀ j, j < 54 → M 117 j = wBy.getD j 0
section
variable {d : Nat} {K : Option vi_V → vi_W → Prop} {Y : vi_Y} {M : vi_M} {nn : Nat × Nat} {n : Nat} {b f : Nat → Int}
end
