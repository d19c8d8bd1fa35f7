/-! Contracts of the reference, fifteenth part: rows, VIEWS' rows, what is LEFT. -/
theorem mIp_r {M : vi_M} (hB : mBx M) {a u v : Int} (h : mIp M a u v) : (0 ≤ a ∧ a ≤ 2) ∧ (0 ≤ u ∧ u < 6) ∧ (0 ≤ v ∧ v < 6) := by
  obtain ⟨q0, q1, q2⟩ := hB
  obtain ⟨h0, h1, h2, h3, h4, h5⟩ := h
  refine ⟨⟨h0, h1⟩, ⟨h2, ?_⟩, ⟨h4, ?_⟩⟩
  · revert h3; split <;> intro h3 <;> omega
  · revert h5; split <;> intro h5 <;> omega
/-- the first kept row that isn't so any more -/
def mJg (f g : Nat → Int) : Nat → Nat → Int
  | 0, _ => -1
  | k + 1, i => if mRw g (f (100 + 4 * i)).toNat (f (100 + 4 * i + 1)) (f (100 + 4 * i + 2)) (f (96 + (f (100 + 4 * i)).toNat)).toNat = f (100 + 4 * i + 3) then mJg f g k (i + 1) else (i : Int)
section
variable {D : Nat} {K : Option vi_V → vi_W → Prop} {Y : vi_Y} {M : vi_M} {nn : Nat × Nat} {Q : Option vi_V → vi_W → Prop}
end
