/-! HOLES by COUNTS: numbers of rows, for the contract of ways. -/
/-- the first of g below k, or k -/
def fI (g : Nat → Bool) : Nat → Nat
  | 0 => 0
  | k + 1 => if fI g k < k then fI g k else if g k then k else k + 1
theorem fI_sp {g : Nat → Bool} (k : Nat) : fI g k ≤ k ∧ (∀ j, j < fI g k → g j = false) ∧ (fI g k < k → g (fI g k) = true) := by
  induction k with
  | zero => exact ⟨Nat.le_refl _, fun j h => absurd h (Nat.not_lt_zero _), fun h => absurd h (Nat.not_lt_zero _)⟩
  | succ k ih =>
    obtain ⟨i1, i2, i3⟩ := ih
    rw [fI]
    by_cases c : fI g k < k
    · rw [if_pos c]
      exact ⟨by omega, i2, fun _ => i3 c⟩
    · have e : fI g k = k := by omega
      rw [e] at i2
      rw [if_neg c]
      cases h : g k
      · rw [if_neg (by decide)]
        refine ⟨Nat.le_refl _, fun j hj => ?_, fun hh => absurd hh (Nat.lt_irrefl _)⟩
        by_cases ej : j = k
        · rw [ej, h]
        · exact i2 j (by omega)
      · rw [if_pos rfl]
        exact ⟨by omega, i2, fun _ => h⟩
section
variable {p q r : Nat → Bool} {s : Nat}
theorem sN_ex {g : Nat → Bool} (k : Nat) (h : 0 < sN k g) : ∃ j, j < k ∧ g j = true := by
  induction k with
  | zero => exact absurd h (Nat.lt_irrefl _)
  | succ k ih =>
    rw [sN_s] at h
    by_cases c : 0 < sN k g
    · obtain ⟨j, h1, h2⟩ := ih c
      exact ⟨j, by omega, h2⟩
    · cases e : g k
      · rw [e, Bool.toNat_false] at h
        omega
      · exact ⟨k, by omega, e⟩
theorem fB_ex {a : Nat} (k : Nat) (h : 0 < fB p q r a s k) : ∃ b, b < k ∧ 0 < fC p q r a b s 64 := by
  induction k with
  | zero => exact absurd h (Nat.lt_irrefl _)
  | succ k ih =>
    rw [fB] at h
    by_cases c : 0 < fB p q r a s k
    · obtain ⟨j, h1, h2⟩ := ih c
      exact ⟨j, by omega, h2⟩
    · exact ⟨k, by omega, by omega⟩
theorem fA_ex (k : Nat) (h : 0 < fA p q r s k) : ∃ a, a < k ∧ 0 < fB p q r a s 64 := by
  induction k with
  | zero => exact absurd h (Nat.lt_irrefl _)
  | succ k ih =>
    rw [fA] at h
    by_cases c : 0 < fA p q r s k
    · obtain ⟨j, h1, h2⟩ := ih c
      exact ⟨j, by omega, h2⟩
    · exact ⟨k, by omega, by omega⟩
theorem fI_A (h : 0 < fA p q r s 64) : fI (fG p q r s) 262144 < 262144 := by
  obtain ⟨a, ha, h1⟩ := fA_ex 64 h
  obtain ⟨b, hb, h2⟩ := fB_ex 64 h1
  obtain ⟨c, hc, h3⟩ := sN_ex 64 h2
  obtain ⟨i1, i2, i3⟩ := fI_sp (g := fG p q r s) 262144
  by_cases e : fI (fG p q r s) 262144 < 262144
  · exact e
  · have := i2 (4096 * a + 64 * b + c) (by omega)
    rw [fG_abc hb hc] at this
    rw [this] at h3
    cases h3
end
/-- how many rows the row of number j brings, D what is due, B how often it comes -/
def fW (p q r : Nat → Bool) (D : Nat → Int) (B : Nat → Nat) (j : Nat) : Nat := if p (j / 4096) && q (j / 64 % 64) && r (j % 64) then (if 0 ≤ D (fSp (j / 4096) + fSp (j / 64 % 64) + fSp (j % 64)) then B (D (fSp (j / 4096) + fSp (j / 64 % 64) + fSp (j % 64))).toNat else 0) else 0
/-- the ways by the rows before k -/
def fWs (W : Nat → Nat) : Nat → Nat
  | 0 => 0
  | k + 1 => min 1000000000 (fWs W k + W k)
/-- what the first row is, after the rows before k; N puts it down -/
def fM (W : Nat → Nat) (N : Nat → (Nat → Int) → Nat → Int) (g : Nat → Int) : Nat → Nat → Int
  | 0 => g
  | k + 1 => if fWs W k = 0 ∧ 0 < W k then N k (fM W N g k) else fM W N g k
theorem fWs_le {W : Nat → Nat} (k : Nat) : fWs W k ≤ 1000000000 := by
  cases k with
  | zero => exact Nat.zero_le _
  | succ k => rw [fWs]; omega
theorem fWs_skip {W : Nat → Nat} {N : Nat → (Nat → Int) → Nat → Int} {g : Nat → Int} {u : Nat} (l : Nat) (h : ∀ j, u ≤ j → j < u + l → W j = 0) : fWs W (u + l) = fWs W u ∧ fM W N g (u + l) = fM W N g u := by
  induction l with
  | zero => exact ⟨rfl, rfl⟩
  | succ l ih =>
    obtain ⟨h1, h2⟩ := ih fun j a b => h j a (by omega)
    have hz := h (u + l) (by omega) (by omega)
    have := fWs_le (W := W) u
    rw [show u + (l + 1) = (u + l) + 1 by omega, fWs, fM, hz, h1, h2, if_neg (fun k => Nat.lt_irrefl _ k.2)]
    exact ⟨by omega, rfl⟩
