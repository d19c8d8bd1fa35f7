/-! The reference's constructor: its end (from its loop on), and the whole of it. -/
def yoP : List (Nat × Nat × Nat × Int × (Nat → Int)) → Nat
  | [] => 0
  | o :: r => cond (Nat.beq o.1 0) 1 0 + yoP r
def yoS : List (Nat × Nat × Nat × Int × (Nat → Int)) → Nat
  | [] => 0
  | o :: r => cond (Nat.beq o.1 0) o.2.2.2.1.toNat 0 + yoS r
theorem ywO_n (L : List (Nat × Nat × Nat × Int × (Nat → Int))) : ∀ w : vi_W, (ywO w L).2.2 = (w.2.2.1 + yoP L, w.2.2.2 + yoS L) := by
  induction L with
  | nil => intro w; rfl
  | cons o r ih =>
    intro w
    show (ywO (ywO1 w o) r).2.2 = _
    rw [ih]
    obtain ⟨c, q, j, v, g⟩ := o
    match c with
    | 0 =>
      show (w.2.2.1 + 1 + yoP r, w.2.2.2 + v.toNat + yoS r) = (w.2.2.1 + (1 + yoP r), w.2.2.2 + (v.toNat + yoS r))
      rw [Nat.add_assoc, Nat.add_assoc]
    | 1 =>
      show (w.2.2.1 + yoP r, w.2.2.2 + yoS r) = (w.2.2.1 + (0 + yoP r), w.2.2.2 + (0 + yoS r))
      rw [Nat.zero_add, Nat.zero_add]
    | c + 2 =>
      show (w.2.2.1 + yoP r, w.2.2.2 + yoS r) = (w.2.2.1 + (0 + yoP r), w.2.2.2 + (0 + yoS r))
      rw [Nat.zero_add, Nat.zero_add]
section
variable {D : Nat} {Q : Option vi_V → vi_W → Prop} {Y : vi_Y} {M : vi_M} {nn : Nat × Nat} {n m : Nat}
end
