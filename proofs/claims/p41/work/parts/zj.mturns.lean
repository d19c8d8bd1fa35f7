/-! The turns (reference): sideBeside, thirdSide, turnedSet, turns0. -/
def sbG : Nat → Nat → Nat → Nat → Nat
  | 0, _, _, _ => 9
  | f + 1, side, s, l => if s / 2 = side / 2 then sbG f side (s + 1) l else if l = 0 then s else sbG f side (s + 1) (l - 1)
def thF (up fr : Nat) : Nat := 2 * (3 - up / 2 - fr / 2) + ((if (fr / 2 + 1) % 3 = 3 - up / 2 - fr / 2 then 0 else 1) + up % 2 + fr % 2) % 2
def tuF (t s : Nat) : Nat :=
  if s = 0 then sbG 6 (t / 4) 0 (t % 4) else if s = 1 then sbG 6 (t / 4) 0 (t % 4) ^^^ 1 else if s = 2 then thF (t / 4) (sbG 6 (t / 4) 0 (t % 4)) else
  if s = 3 then thF (t / 4) (sbG 6 (t / 4) 0 (t % 4)) ^^^ 1 else if s = 4 then t / 4 else (t / 4) ^^^ 1
def tsF (set t : Nat) : Nat → Nat
  | 0 => 0
  | s + 1 => tsF set t s ||| ((set.testBit s).toNat <<< tuF t s)
def ftB (r o : Nat) : Nat → Bool
  | 0 => false
  | t + 1 => ftB r o t || decide (tsF r t 6 &&& o = 0)
theorem half {s : Nat} (h : s < 1000) : vi_w32 ((s : Int).tdiv 2) = ((s / 2 : Nat) : Int) := by
  rw [vi_td (by omega), vi_32 (by omega) (by omega)]; omega
section
variable {D : Nat} {K : Option vi_V → vi_W → Prop} {Y : vi_Y} {M : vi_M} {nn : Nat × Nat} {Q : Option vi_V → vi_W → Prop}
/-- the turns stand in their row -/
def tuT (M : vi_M) (n : Nat) : Prop := ∀ t, t < n → ∀ s, s < 6 → M 138 (6 * t + s) = (tuF t s : Int)
end
