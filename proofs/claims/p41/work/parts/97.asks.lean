/-! Contracts of the reference, ninth part: what a CELL's law tells; a TEXT kept. -/
def mRn (M : vi_M) (c : Int) : Nat → Int
  | 0 => 0
  | d + 1 => mRn M c d + (if mBe M c d = -1 then 1 else 0)
theorem mRn_c {M M' : vi_M} {c : Int} (h : M' 114 = M 114) : ∀ d : Nat, mRn M' c d = mRn M c d
  | 0 => rfl
  | d + 1 => by
    rw [mRn, mRn, mRn_c h d]
    unfold mBe
    rw [h]
/-- what a kept law is asked with, by kinds: x, y, z, holes, rind, day -/
def mWd (M : vi_M) (c h : Int) : Nat → Int := fun k => if k = 1 then c % 6 else if k = 2 then c / 6 % 6 else if k = 3 then c / 36 else if k = 4 then h else if k = 5 then mRn M c 6 else if k = 6 then M 114 99 else 0
/-- a law is kept: its number, how many tokens, its clauses -/
def mKp (M : vi_M) (L S : Nat) (cs : List gCla) : Prop := L < 6 ∧ S ≤ 400 ∧ M 114 296 = (L : Int) ∧ M 114 (297 + L) = (S : Int) ∧ ∃ (cd vl : Nat → Int) (en : Nat → Bool) (fu i' : Nat), (∀ i, i < S → M 114 (303 + (400 * L + i)) = cd i ∧ M 114 (2703 + (400 * L + i)) = vl i) ∧ (∀ i, S ≤ i → cd i = 0) ∧ (∀ i, 0 ≤ vl i) ∧ (∀ i, en i = true → i = S) ∧ rdL cd vl en fu 12 0 0 [] = some (some cs, i')
def mA (M : vi_M) (c h : Int) (cs : List gCla) : Bool × Bool × Int := cs.foldl (gF1 (mWd M c h)) (false, false, 1)
section
variable {D : Nat} {Y : vi_Y} {M : vi_M} {nn : Nat × Nat} {Q : Option vi_V → vi_W → Prop}
theorem mBx_c {M M' : vi_M} (h : M' 114 = M 114) (hc : mBx M) : mBx M' := by
  unfold mBx at *
  rw [h]
  exact hc
theorem mKp_c {M M' : vi_M} (h : M' 114 = M 114) {L S : Nat} {cs : List gCla} (hc : mKp M L S cs) : mKp M' L S cs := by
  unfold mKp at *
  rw [h]
  exact hc
theorem mWd_c {M M' : vi_M} (h : M' 114 = M 114) {c x : Int} : mWd M' c x = mWd M c x := by
  unfold mWd
  rw [h, mRn_c h]
/-- so many tokens copied into the kept row -/
def mCp (f : Nat → Int) (L N : Nat) (cd vl : Nat → Int) (j : Nat) : Nat → Int := fun k => if 303 + 400 * L ≤ k ∧ k < 303 + 400 * L + j then cd (k - (303 + 400 * L)) else if 2703 + 400 * L ≤ k ∧ k < 2703 + 400 * L + j then vl (k - (2703 + 400 * L)) else if k = 297 + L then (N : Int) else f k
end
