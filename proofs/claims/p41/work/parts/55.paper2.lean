/-! Contracts of Paper, second part: lines, the search for the FEWEST. -/
def nt (s : Int × Int × Int × Int) (h l o : Int) : Int × Int × Int × Int := if s.2.1 = 0 then (h, 1, l, o) else (s.1, s.2.1 + 1, s.2.2.1, s.2.2.2)
section
variable {d : Nat} {K : Option vi_V → vi_W → Prop} {Y : vi_Y} {M : vi_M} {n : Nat × Nat} {P B R T S : Nat → Bool}
end
