/-! Contracts of the reference, eighth part: what a kept law tells of a CELL. -/
def gcS (W : Nat → Int) (c : gCla) : Int := match c.2.1 with
  | some b => (match b W with
    | some v => v
    | none => rB)
  | none => 1
/-- a clause's outcome: its SUM (1 where it has none), BROKEN where it doesn't hold -/
def gcO (W : Nat → Int) (c : gCla) : Int := match c.2.2 with
  | some t => if t W = some 1 then gcS W c else rB
  | none => gcS W c
/-- clauses asked one after the other: taken, shut, what it weighs -/
def gF1 (W : Nat → Int) (st : Bool × Bool × Int) (c : gCla) : Bool × Bool × Int := if gcO W c = rB then st else (st.1 || decide (c.1 = 1), st.2.1 || decide (c.1 = 2), if c.1 = 0 then gcO W c else st.2.2)
def mCl (x : Int) : Int := max 1 (min 99 x)
section
variable {D : Nat} {Y : vi_Y} {M : vi_M} {nn : Nat × Nat} {B e fu : Nat} {cd vl W f : Nat → Int} {Q : Option vi_V → vi_W → Prop}
end
