/-! Contracts of the reference, seventh part: small ones. -/
def mAl (c a : Int) : Int := if a = 0 then c % 6 else if a = 1 then c / 6 % 6 else c / 36
/-- the box's sizes -/
def mBx (M : vi_M) : Prop := (1 ≤ M 114 96 ∧ M 114 96 ≤ 6) ∧ (1 ≤ M 114 97 ∧ M 114 97 ≤ 6) ∧ (1 ≤ M 114 98 ∧ M 114 98 ≤ 6)
def mIc (M : vi_M) (c : Int) : Prop := 0 ≤ c ∧ c ≤ 215 ∧ c % 6 < M 114 96 ∧ c / 6 % 6 < M 114 97 ∧ c / 36 < M 114 98
def mIp (M : vi_M) (a u v : Int) : Prop := 0 ≤ a ∧ a ≤ 2 ∧ 0 ≤ u ∧ u < M 114 (if a = 0 then 97 else 96) ∧ 0 ≤ v ∧ v < M 114 (if a = 2 then 97 else 98)
/-- the neighbour by direction (0, 1 along x; 2, 3 along y; 4, 5 along z), or -1 -/
def mBe (M : vi_M) (c : Int) (d : Nat) : Int := if d % 2 = 0 then (if mAl c ((d / 2 : Nat) : Int) = 0 then -1 else c - (if d = 0 then 1 else if d = 2 then 6 else 36)) else (if M 114 (96 + d / 2) ≤ mAl c ((d / 2 : Nat) : Int) + 1 then -1 else c + (if d = 1 then 1 else if d = 3 then 6 else 36))
section
variable {D : Nat} {K : Option vi_V → vi_W → Prop} {Y : vi_Y} {M : vi_M} {nn : Nat × Nat}
def mIh (M : vi_M) (a u v s k t : Int) : Prop := mIp M a u v ∧ (0 ≤ s ∧ s ≤ 1) ∧ (1 ≤ k ∧ k ≤ 6) ∧ (-1 ≤ t ∧ t ≤ 1)
end
