/-! Contracts of the reference, thirteenth part: looks. -/
def mIcb (f : Nat → Int) (c : Int) : Bool := decide (0 ≤ c ∧ c ≤ 215 ∧ c % 6 < f 96 ∧ c / 6 % 6 < f 97 ∧ c / 36 < f 98)
theorem mIcb_t {M : vi_M} {c : Int} (h : mIcb (M 114) c = true) : mIc M c := by
  unfold mIcb at h
  unfold mIc
  exact of_decide_eq_true h
def mLw (M : vi_M) : Option (List gCla) → Prop
  | none => M 114 296 = -1
  | some cs => ∃ L S : Nat, mKp M L S cs
/-- what a CELL is told: taken, shut, what it weighs -/
def mT (M : vi_M) (c h : Int) : Option (List gCla) → Bool × Bool × Int
  | none => (false, false, 1)
  | some cs => ((mA M c h cs).1, (mA M c h cs).2.1, mCl (mA M c h cs).2.2)
theorem mT_c {M M' : vi_M} (h : M' 114 = M 114) {c x : Int} {lw : Option (List gCla)} : mT M' c x lw = mT M c x lw := by
  cases lw with
  | none => rfl
  | some cs =>
    unfold mT mA
    rw [mWd_c h]
theorem mLw_c {M M' : vi_M} (h : M' 114 = M 114) {lw : Option (List gCla)} (hl : mLw M lw) : mLw M' lw := by
  cases lw with
  | none =>
    unfold mLw at *
    rw [h]
    exact hl
  | some cs =>
    obtain ⟨L, S, hk⟩ := hl
    exact ⟨L, S, mKp_c h hk⟩
/-- a CELL is LEFT -/
def mLf (M : vi_M) (lw : Option (List gCla)) (n c : Nat) : Bool := mIcb (M 114) (c : Int) && decide (mAt (M 114) (c : Int) n = 0) && !(mT M (c : Int) (mAt (M 114) (c : Int) n) lw).1
/-- looked, up to the j-th CELL -/
def mLk (M0 M : vi_M) (lw : Option (List gCla)) (n j : Nat) : Prop := (∀ p, p ≠ 112 → p ≠ 123 → p ≠ 124 → p ≠ 125 → p ≠ 126 → p ≠ 127 → M p = M0 p) ∧ (∀ k, k ≠ 19 → k ≠ 20 → k ≠ 21 → k ≠ 23 → k ≠ 24 → k ≠ 25 → k ≠ 30 → M 112 k = M0 112 k) ∧ M 112 30 = M0 112 1 ∧ (∀ c : Nat, c < 216 → M 124 c = mAt (M0 114) (c : Int) n) ∧ ∀ c : Nat, c < j → M 126 c = vi_b (mLf M0 lw n c) ∧ (mIcb (M0 114) (c : Int) = true → M 125 c = (mT M0 (c : Int) (mAt (M0 114) (c : Int) n) lw).2.2 ∧ M 127 c = vi_b (mT M0 (c : Int) (mAt (M0 114) (c : Int) n) lw).2.1)
section
variable {D : Nat} {K : Option vi_V → vi_W → Prop} {Y : vi_Y} {M : vi_M} {nn : Nat × Nat} {Q : Option vi_V → vi_W → Prop}
end
