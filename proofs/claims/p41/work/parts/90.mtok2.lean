/-! Contracts of the reference, second part: a tape is split. -/
theorem tV_b {b : Nat → Int} : ∀ (k p : Nat) (v : Int), (∀ j, j < k → 48 ≤ b (p + j) ∧ b (p + j) ≤ 57) → 0 ≤ v → v ≤ 10000009 → 0 ≤ tV b k p v ∧ tV b k p v ≤ 10000009
  | 0, _, v, _, h0, h1 => ⟨h0, h1⟩
  | k + 1, p, v, h, h0, h1 => by
    rw [tV]
    have h2 := h 0 (by omega)
    rw [Nat.add_zero] at h2
    refine tV_b k (p + 1) _ (fun j hj => by have := h (j + 1) (by omega); rw [show p + 1 + j = p + (j + 1) by omega]; exact this) ?_ ?_ <;> split <;> omega
section
variable {d : Nat} {K : Option vi_V → vi_W → Prop} {Y : vi_Y} {M : vi_M} {nn : Nat × Nat} {n : Nat} {b f : Nat → Int}
end
