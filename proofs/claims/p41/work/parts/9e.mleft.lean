/-! Contracts of the reference, sixteenth part: what is LEFT, what is waxed. -/
theorem mBe_r {M : vi_M} (hB : mBx M) {c : Int} (hc : mIc M c) {d : Nat} (hd : d < 6) : mBe M c d = -1 ∨ 0 ≤ mBe M c d ∧ mBe M c d < 216 := by
  obtain ⟨b0, b1, b2⟩ := hB
  obtain ⟨c0, c1, c2, c3, c4⟩ := hc
  have m0 : mAl c 0 = c % 6 := rfl
  have m1 : mAl c 1 = c / 6 % 6 := rfl
  have m2 : mAl c 2 = c / 36 := rfl
  obtain rfl | rfl | rfl | rfl | rfl | rfl : d = 0 ∨ d = 1 ∨ d = 2 ∨ d = 3 ∨ d = 4 ∨ d = 5 := by omega
  · rw [show mBe M c 0 = if c % 6 = 0 then -1 else c - 1 from rfl]
    split <;> omega
  · rw [show mBe M c 1 = if M 114 96 ≤ c % 6 + 1 then -1 else c + 1 from rfl]
    split <;> omega
  · rw [show mBe M c 2 = if c / 6 % 6 = 0 then -1 else c - 6 from rfl]
    split <;> omega
  · rw [show mBe M c 3 = if M 114 97 ≤ c / 6 % 6 + 1 then -1 else c + 6 from rfl]
    split <;> omega
  · rw [show mBe M c 4 = if c / 36 = 0 then -1 else c - 36 from rfl]
    split <;> omega
  · rw [show mBe M c 5 = if M 114 98 ≤ c / 36 + 1 then -1 else c + 36 from rfl]
    split <;> omega
/-- how many of a CELL's first neighbours are LEFT -/
def mInn (M : vi_M) (c : Int) : Nat → Int
  | 0 => 0
  | d + 1 => mInn M c d + (if mBe M c d = -1 then 0 else if M 126 (mBe M c d).toNat = 0 then 0 else 1)
/-- how many of a CELL's first neighbours lie in the box and aren't LEFT -/
def mOu (M : vi_M) (c : Int) : Nat → Int
  | 0 => 0
  | d + 1 => mOu M c d + (if mBe M c d = -1 then 0 else if M 126 (mBe M c d).toNat = 0 then 1 else 0)
/-- of the first CELLS: what they weigh, faces, how many lie within -/
def mLa (M : vi_M) : Nat → Int × Int × Int
  | 0 => (0, 0, 0)
  | c + 1 => if M 126 c = 0 then mLa M c else ((mLa M c).1 + M 125 c, (mLa M c).2.1 + mOu M (c : Int) 6, (mLa M c).2.2 + (if mInn M (c : Int) 6 = 6 then 1 else 0))
section
variable {D : Nat} {K : Option vi_V → vi_W → Prop} {Y : vi_Y} {M : vi_M} {nn : Nat × Nat} {Q : Option vi_V → vi_W → Prop}
end
