/-! Contracts of the reference, nineteenth part: images. -/
def mIm (f g : Nat → Int) (o j : Nat) : Nat → Int := fun k => if o ≤ k ∧ k < o + j then g (k - o) else f k
theorem mIm_s {f g : Nat → Int} {o j : Nat} : vi_u (mIm f g o j) (o + j) (g j) = mIm f g o (j + 1) := by
  funext k
  unfold vi_u mIm
  by_cases h : k = o + j
  · rw [if_pos h, if_pos (by omega), h]
    congr 1
    omega
  · rw [if_neg h]
    by_cases h2 : o ≤ k ∧ k < o + j
    · rw [if_pos h2, if_pos (by omega)]
    · rw [if_neg h2, if_neg (by omega)]
theorem mIm_0 {f g : Nat → Int} {o : Nat} : mIm f g o 0 = f := by
  funext k
  unfold mIm
  rw [if_neg (by omega)]
section
variable {D : Nat} {K : Option vi_V → vi_W → Prop} {Y : vi_Y} {M : vi_M} {nn : Nat × Nat}
end
