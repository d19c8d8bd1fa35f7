/-! Contracts of the reference, fourteenth part: what is asked of the CELLS. -/
def mSee (M : vi_M) (lw : Option (List gCla)) (n : Nat) : Prop := mLk M M lw n 216
theorem mLf_c {M M' : vi_M} (h : M' 114 = M 114) {lw : Option (List gCla)} {n c : Nat} : mLf M' lw n c = mLf M lw n c := by
  unfold mLf
  rw [h, mT_c h]
/-- what is kept: terms, HOLES, a law; and whether it has been looked at -/
def mKs (M : vi_M) (lw : Option (List gCla)) (n : Nat) : Prop := mBx M ∧ n ≤ 16 ∧ M 114 292 = (n : Int) ∧ (∀ h, h < n → mHo (M 114) h) ∧ (0 ≤ M 114 99 ∧ M 114 99 ≤ 99) ∧ mLw M lw ∧ (M 112 30 = M 112 1 → mSee M lw n)
def mNum (f : Nat → Int) : Nat → Int
  | 0 => 0
  | j + 1 => mNum f j + (if f j = 0 then 0 else 1)
/-- how many CELLS a HOLE has -/
def mLn (f : Nat → Int) (h : Nat) : Nat → Nat → Nat
  | 0, i => i
  | k + 1, i => if mHc f h i = -1 then i else mLn f h k (i + 1)
/-- how many of a row's first CELLS are LEFT -/
def mRw (f : Nat → Int) (a : Nat) (u v : Int) : Nat → Int
  | 0 => 0
  | i + 1 => mRw f a u v i + (if f (mHa a u v (i : Int)).toNat = 0 then 0 else 1)
section
variable {D : Nat} {K : Option vi_V → vi_W → Prop} {Y : vi_Y} {M : vi_M} {nn : Nat × Nat} {Q : Option vi_V → vi_W → Prop}
/-- a CELL, once looked at: LEFT, what it weighs, SHUT, its HOLES -/
def mCe (M : vi_M) (lw : Option (List gCla)) (n c x : Nat) : Int := if x = 0 then vi_b (mLf M lw n c) else if x = 1 then (mT M (c : Int) (mAt (M 114) (c : Int) n) lw).2.2 else if x = 2 then vi_b (mT M (c : Int) (mAt (M 114) (c : Int) n) lw).2.1 else mAt (M 114) (c : Int) n
end
