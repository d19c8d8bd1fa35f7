/-! Pairs: row, feast. -/
theorem tB_s {T : Nat → Int} (hT : tOk T) {x : Nat} (h : tB T x < 128) : tB T x = T x := by
  have := hT x
  unfold tB at *
  omega
section
variable {sc : Nat → Int} {ln t a n d : Nat} {CS : Nat → List gCla} {lw : Option (List gCla)} {Y : vi_Y} {M : vi_M} {nn : Nat × Nat} {K : Option vi_V → vi_W → Prop}
end
