/-! Contracts of the reference, twenty-first part: HOLES out of a TEXT's bytes. -/
def mIhb (f : Nat → Int) (a u v s k t : Int) : Bool := mIb f a u v && decide ((0 ≤ s ∧ s ≤ 1) ∧ (1 ≤ k ∧ k ≤ 6) ∧ (-1 ≤ t ∧ t ≤ 1))
theorem mAd_o {f : Nat → Int} {n : Nat} {a u v s k t : Int} {j : Nat} (h : 6 * n + 5 < j) (h2 : j ≠ 292) : mAd f n a u v s k t j = f j := by
  unfold mAd vi_u
  rw [if_neg h2, if_neg (by omega), if_neg (by omega), if_neg (by omega), if_neg (by omega), if_neg (by omega), if_neg (by omega)]
section
variable {D : Nat} {K : Option vi_V → vi_W → Prop} {Y : vi_Y} {M : vi_M} {nn : Nat × Nat} {n : Nat} {Q : Option vi_V → vi_W → Prop}
end
