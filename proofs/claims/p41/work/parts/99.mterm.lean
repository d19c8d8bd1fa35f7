/-! Contracts of the reference, eleventh part: terms, what lies beyond the box. -/
def mIb (f : Nat → Int) (a u v : Int) : Bool := decide (0 ≤ a ∧ a ≤ 2 ∧ 0 ≤ u ∧ u < f (if a = 0 then 97 else 96) ∧ 0 ≤ v ∧ v < f (if a = 2 then 97 else 98))
/-- from the j-th down, what doesn't lie in the box any more goes out -/
def mGo (b w cnt : Nat) : Nat → (Nat → Int) → (Nat → Int)
  | 0, f => f
  | j + 1, f => mGo b w cnt j (if mIb f (f (b + w * j)) (f (b + w * j + 1)) (f (b + w * j + 2)) = true then f else mOut f b w cnt (w * j) (w * ((f cnt).toNat - 1)) (((f cnt).toNat - 1 : Nat) : Int))
/-- b, w, cnt, how many: rods, rows, screws -/
def mLm (b w cnt N : Nat) : Prop := (w = 4 ∨ w = 5 ∨ w = 6) ∧ 292 ≤ cnt ∧ cnt < 295 ∧ (b + w * N ≤ 96 ∨ 100 ≤ b) ∧ b + w * N ≤ 292
theorem mLm_le {b w cnt N N' : Nat} (h : mLm b w cnt N) (hN : N' ≤ N) : mLm b w cnt N' := by
  have : w * N' ≤ w * N := Nat.mul_le_mul_left _ hN
  exact ⟨h.1, h.2.1, h.2.2.1, by have := h.2.2.2.1; omega, by have := h.2.2.2.2; omega⟩
/-- one step -/
theorem mOut_o {f : Nat → Int} {b w cnt N j : Nat} {x : Int} (hL : mLm b w cnt N) (hj : j < N) {k : Nat} (hk : k < b ∨ b + w * N ≤ k) (hc : k ≠ cnt) : mOut f b w cnt (w * j) (w * (N - 1)) x k = f k := by
  have : w * (N - 1) ≤ w * N := Nat.mul_le_mul_left _ (by omega)
  unfold mOut
  rw [if_neg hc, if_neg (by omega)]
/-- what going beyond leaves alone, how many stay -/
theorem mGo_o {b w cnt : Nat} : ∀ (j : Nat) (f : Nat → Int) (N : Nat), f cnt = (N : Int) → j ≤ N → mLm b w cnt N → (∀ k, (k < b ∨ b + w * N ≤ k) → k ≠ cnt → mGo b w cnt j f k = f k) ∧ ∃ N' : Nat, N' ≤ N ∧ mGo b w cnt j f cnt = (N' : Int)
  | 0, f, N, h, _, _ => ⟨fun _ _ _ => rfl, N, Nat.le_refl _, h⟩
  | j + 1, f, N, h, hj, hL => by
    rw [mGo]
    by_cases q : mIb f (f (b + w * j)) (f (b + w * j + 1)) (f (b + w * j + 2)) = true
    · rw [if_pos q]
      exact mGo_o j f N h (by omega) hL
    · rw [if_neg q]
      have e : (f cnt).toNat = N := by omega
      rw [e]
      obtain ⟨h1, N', h2, h3⟩ := mGo_o j (mOut f b w cnt (w * j) (w * (N - 1)) ((N - 1 : Nat) : Int)) (N - 1) (if_pos rfl) (by omega) (mLm_le hL (by omega))
      refine ⟨fun k hk hc => ?_, N', by omega, h3⟩
      have : w * (N - 1) ≤ w * N := Nat.mul_le_mul_left _ (by omega)
      rw [h1 k (by omega) hc]
      exact mOut_o hL (by omega) hk hc
section
variable {D : Nat} {K : Option vi_V → vi_W → Prop} {Y : vi_Y} {nn : Nat × Nat}
end
