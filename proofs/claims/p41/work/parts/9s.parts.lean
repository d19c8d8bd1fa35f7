/-! Pieces: a flood over the box (reference). -/
def mB (f : Nat → Int) : Nat → Bool := fun c => decide (f c ≠ 0)
theorem mBe_c {M M' : vi_M} (h : M' 114 = M 114) {c : Int} {d : Nat} : mBe M' c d = mBe M c d := by unfold mBe; rw [h]
section
variable {D : Nat} {K : Option vi_V → vi_W → Prop} {Y : vi_Y} {M : vi_M} {nn : Nat × Nat} {Q : Option vi_V → vi_W → Prop}
theorem sHas_n {F : Nat → Bool} {b : Nat} (hb : b < 216) : sHas F (b : Int) = F b := by
  unfold sHas
  rw [decide_eq_true (by omega), Bool.true_and, Int.toNat_natCast]
end
