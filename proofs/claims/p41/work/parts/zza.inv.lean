/-! The invariant of class and reference together. -/
def jCe (q : Nat) : Prop := q = 70 ∨ q = 72 ∨ q = 81 ∨ q = 83 ∨ q = 85 ∨ q = 87 ∨ q = 90 ∨ q = 92 ∨ q = 94 ∨ q = 102
def jJ (M : vi_M) : Prop := (∀ q, jCe q → ∃ S, M q = cR S) ∧ vOr (M 88)
theorem jV_c {M M' : vi_M} {f : Nat → Int} {lw : Option (List gCla)} {n : Nat} (h : jV M f lw n) (hp : ∀ p, 61 ≤ p → p < 70 → M' p = M p) : jV M' f lw n := by
  unfold jV at *
  rw [hp 61 (by omega) (by omega), hp 62 (by omega) (by omega), hp 64 (by omega) (by omega), hp 66 (by omega) (by omega), hp 68 (by omega) (by omega)]
  exact h
/-- what the class's queries may change -/
def cQ (M M' : vi_M) : Prop := (∀ p, (p < 70 ∨ p = 73 ∨ p = 74 ∨ p = 79 ∨ 111 ≤ p) → M' p = M p) ∧ M' 77 9 = M 77 9
theorem cQ_r {M : vi_M} : cQ M M := ⟨fun _ _ => rfl, rfl⟩
