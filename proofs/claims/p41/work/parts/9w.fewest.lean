/-! waysBy, finds, fewest (reference). -/
/-- accepted of the last k pairs (a, b) -/
def wR (E : Int → Int → Bool) (a m : Nat) : Nat → List (Int × Int)
  | 0 => []
  | k + 1 => (if E (a : Int) ((m - 1 - k : Nat) : Int) = true then [((a : Int), ((m - 1 - k : Nat) : Int))] else []) ++ wR E a m k
def wW (E : Int → Int → Bool) (h m a : Nat) : List (Int × Int) := if h = 1 then (if E (a : Int) (-1) = true then [((a : Int), -1)] else []) else wR E a m (m - 1 - a)
def wfG (E : Int → Int → Bool) (h m : Nat) : Nat → List (Int × Int)
  | 0 => []
  | k + 1 => wW E h m (m - 1 - k) ++ wfG E h m k
def wfA : List (Int × Int) → Int
  | [] => -1
  | x :: _ => x.1
def wfB : List (Int × Int) → Int
  | [] => -1
  | x :: _ => x.2
noncomputable def enB (M : vi_M) (lw : Option (List gCla)) (n g m : Nat) (x y : Int) : Bool := sCm (lnT M y (lnT M x (fun c => mLf M lw n c))) g m
/-- these rows stand: all that ends reads -/
def wfO (M M' : vi_M) : Prop := M' 114 = M 114 ∧ M' 130 = M 130 ∧ M' 131 = M 131 ∧ M' 132 = M 132
theorem enB_c {M M' : vi_M} (h : wfO M M') {lw : Option (List gCla)} {n g m : Nat} {x y : Int} : enB M' lw n g m x y = enB M lw n g m x y := by
  obtain ⟨h1, h2, h3, h4⟩ := h
  unfold enB lnT
  rw [h2, h3, h4, show (fun c => mLf M' lw n c) = (fun c => mLf M lw n c) from funext fun c => mLf_c h1]
theorem mKs_c {M M' : vi_M} {lw : Option (List gCla)} {n : Nat} (h : mKs M lw n) (h114 : M' 114 = M 114) (hs : M' 112 30 = M' 112 1 → mSee M' lw n) : mKs M' lw n := by
  obtain ⟨h1, h2, h3, h4, h5, h6, -⟩ := h
  exact ⟨mBx_c h114 h1, h2, by rw [h114]; exact h3, by rw [h114]; exact h4, by rw [h114]; exact h5, mLw_c h114 h6, hs⟩
section
variable {D : Nat} {K : Option vi_V → vi_W → Prop} {Y : vi_Y} {M : vi_M} {nn : Nat × Nat} {Q : Option vi_V → vi_W → Prop}
end
