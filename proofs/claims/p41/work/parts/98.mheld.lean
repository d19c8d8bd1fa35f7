/-! Contracts of the reference, tenth part: HOLES, terms. -/
/-- a HOLE added as the n-th -/
def mAd (f : Nat → Int) (n : Nat) (a u v s k t : Int) : Nat → Int := vi_u (vi_u (vi_u (vi_u (vi_u (vi_u (vi_u f (6 * n) a) (6 * n + 1) u) (6 * n + 2) v) (6 * n + 3) s) (6 * n + 4) k) (6 * n + 5) (t + 1)) 292 ((n + 1 : Nat) : Int)
/-- the row without one of its entries: what lies from b + p0 on moves down by w -/
def mOut (f : Nat → Int) (b w cnt p0 pe : Nat) (N1 : Int) : Nat → Int := fun k => if k = cnt then N1 else if b + p0 ≤ k ∧ k < b + pe then f (k + w) else f k
section
variable {D : Nat} {K : Option vi_V → vi_W → Prop} {Y : vi_Y} {M : vi_M} {nn : Nat × Nat}
end
