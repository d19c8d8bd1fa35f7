/-! Contracts of the reference, twelfth part: what lies where. -/
def mHa (a : Nat) (u v w : Int) : Int := if a = 0 then 36 * v + 6 * u + w else if a = 1 then 36 * v + 6 * w + u else 36 * w + 6 * v + u
/-- a HOLE's i-th CELL, or -1 -/
def mHl (f : Nat → Int) (a : Nat) (u v s k t : Int) (i : Nat) : Int := if k ≤ (i : Int) ∨ f (96 + a) ≤ (i : Int) ∨ mIb f (a : Int) (u + (i : Int) * t) v = false then -1 else mHa a (u + (i : Int) * t) v (if s = 0 then (i : Int) else f (96 + a) - 1 - (i : Int))
def mHc (f : Nat → Int) (h i : Nat) : Int := mHl f (f (6 * h)).toNat (f (6 * h + 1)) (f (6 * h + 2)) (f (6 * h + 3)) (f (6 * h + 4)) (f (6 * h + 5) - 1) i
/-- a HOLE as it is kept -/
def mHo (f : Nat → Int) (h : Nat) : Prop := (0 ≤ f (6 * h) ∧ f (6 * h) ≤ 2) ∧ (0 ≤ f (6 * h + 1) ∧ f (6 * h + 1) ≤ 5) ∧ (0 ≤ f (6 * h + 2) ∧ f (6 * h + 2) ≤ 5) ∧ (0 ≤ f (6 * h + 3) ∧ f (6 * h + 3) ≤ 1) ∧ (1 ≤ f (6 * h + 4) ∧ f (6 * h + 4) ≤ 6) ∧ (0 ≤ f (6 * h + 5) ∧ f (6 * h + 5) ≤ 2)
section
variable {D : Nat} {K : Option vi_V → vi_W → Prop} {Y : vi_Y} {M : vi_M} {nn : Nat × Nat}
theorem hit {t : Int} (ht : -1 ≤ t ∧ t ≤ 1) {i : Nat} (hi : i ≤ 6) : -6 ≤ (i : Int) * t ∧ (i : Int) * t ≤ 6 := by
  obtain rfl | rfl | rfl : t = -1 ∨ t = 0 ∨ t = 1 := by omega
  · omega
  · omega
  · omega
theorem mHc_6 {f : Nat → Int} {h i : Nat} (hH : mHo f h) (hi : 6 ≤ i) : mHc f h i = -1 := by
  unfold mHc mHl
  obtain ⟨-, -, -, -, p4, -⟩ := hH
  rw [if_pos (.inl (by omega))]
/-- how often a HOLE goes through a CELL, from its i-th on -/
def mSt (f : Nat → Int) (h : Nat) (c : Int) : Nat → Nat → Int
  | 0, _ => 0
  | k + 1, i => if mHc f h i = -1 then 0 else (if mHc f h i = c then 1 else 0) + mSt f h c k (i + 1)
def mAt (f : Nat → Int) (c : Int) : Nat → Int
  | 0 => 0
  | h + 1 => mAt f c h + mSt f h c 7 0
end
