/-! PRINTED BY wip/whole/gen/pj.py: what the reference's constructor lays, as one list. -/
theorem ywO_c {w : vi_W} {o : Nat × Nat × Nat × Int × (Nat → Int)} {r : List (Nat × Nat × Nat × Int × (Nat → Int))} : ywO w (o :: r) = ywO (ywO1 w o) r := rfl
theorem ylow {b p : Nat} (h : p < b) : ∀ L : List (Nat × Nat × Nat × Int × (Nat → Int)), L.all (fun o => Nat.ble b o.2.1) = true → ∀ w : vi_W, (ywO w L).1.1 p = w.1.1 p ∧ (ywO w L).1.2.1 p = w.1.2.1 p ∧ ∀ k, (ywO w L).1.2.2 p k = w.1.2.2 p k := by
  intro L
  induction L with
  | nil => intro _ w; exact ⟨rfl, rfl, fun k => rfl⟩
  | cons o r ih =>
    intro hL w
    rw [List.all_cons, Bool.and_eq_true] at hL
    have hb : b ≤ o.2.1 := Nat.le_of_ble_eq_true hL.1
    obtain ⟨a1, a2, a3⟩ := ih hL.2 (ywO1 w o)
    have : (ywO1 w o).1.1 p = w.1.1 p ∧ (ywO1 w o).1.2.1 p = w.1.2.1 p ∧ ∀ k, (ywO1 w o).1.2.2 p k = w.1.2.2 p k := by
      obtain ⟨c, q, j, v, g⟩ := o
      have hq : p ≠ q := by have : b ≤ q := hb; omega
      match c with
      | 0 => exact ⟨yn1o hq, yn2o hq, fun k => congrFun (yn3o hq) k⟩
      | 1 => exact ⟨rfl, rfl, fun k => yf3a hq⟩
      | c + 2 => exact ⟨rfl, rfl, fun k => rfl⟩
    exact ⟨a1.trans this.1, a2.trans this.2.1, fun k => (a3 k).trans (this.2.2 k)⟩
