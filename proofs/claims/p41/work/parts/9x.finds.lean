/-! finds, fewest (reference): what was found stays for this version. -/
/-- the lines stand in their rows -/
def lnA (M : vi_M) : Prop := M 112 39 = ((lsA (M 114) 3).length : Int) ∧ ∀ l, (h : l < (lsA (M 114) 3).length) → M 130 l = (((lsA (M 114) 3)[l]'h).1 : Int) ∧ M 131 l = (((lsA (M 114) 3)[l]'h).2.1 : Int) ∧ M 132 l = (((lsA (M 114) 3)[l]'h).2.2 : Int)
theorem lnA_c {M M' : vi_M} (h : wfO M M') (h39 : M' 112 39 = M 112 39) (hl : lnA M) : lnA M' := by
  obtain ⟨h1, h2, h3, h4⟩ := h
  unfold lnA
  rw [h1, h2, h3, h4, h39]
  exact hl
/-- the fewest holes more (0, 1, 2) and the ways found -/
def fwR (E : Int → Int → Bool) (m : Nat) : Int × List (Int × Int) := if E (-1) (-1) = true then (0, [(-1, -1)]) else if wfG E 1 m m ≠ [] then (1, wfG E 1 m m) else (2, wfG E 2 m m)
/-- what was found, where field 42 is the version -/
def mFd (M : vi_M) (lw : Option (List gCla)) (n : Nat) : Prop := M 112 42 = M 112 1 → M 112 30 = M 112 1 ∧ lnA M ∧ ∃ g m : Nat, g ≤ 2 ∧ m ≤ 216 ∧ M 112 43 = (g : Int) ∧ M 112 44 = (m : Int) ∧ M 112 45 = (fwR (enB M lw n g m) (lsA (M 114) 3).length).1 ∧ M 112 46 = ((fwR (enB M lw n g m) (lsA (M 114) 3).length).2.length : Int) ∧ M 112 40 = wfA (fwR (enB M lw n g m) (lsA (M 114) 3).length).2 ∧ M 112 41 = wfB (fwR (enB M lw n g m) (lsA (M 114) 3).length).2
section
variable {D : Nat} {K : Option vi_V → vi_W → Prop} {Y : vi_Y} {M : vi_M} {nn : Nat × Nat} {Q : Option vi_V → vi_W → Prop}
end
