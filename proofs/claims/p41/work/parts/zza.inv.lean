/-! The invariant of class and reference together. -/
def jA (sc : Nat → Int) (ln : Nat) (Y : vi_Y) (M : vi_M) : Prop := kY Y 112 ∧ kY9 Y ∧ kS Y M ∧ kW M ∧ (Y.1 1 = 11 ∧ Y.2.1 1 = ln ∧ M 1 = sc) ∧ tuT M 24 ∧ ∀ r o, r < 64 → o < 64 → M 139 (64 * r + o) = vi_b (ftB r o 24)
def jC (M : vi_M) (a : Nat) (CS : Nat → List gCla) (lw : Option (List gCla)) (n : Nat) : Prop := ∃ LH LR LS, cHd M 30 (M 114) a CS LH LR LS ∧ LH.length = n ∧ fLw a CS (M 114) (M 39) lw ∧ jV M (M 114) lw n
def jM (M : vi_M) (lw : Option (List gCla)) (n : Nat) : Prop := mKs M lw n ∧ mFd M lw n ∧ M 112 30 ≤ M 112 1 ∧ M 112 42 ≤ M 112 1
def jT (M : vi_M) : Prop := ∃ n : Nat, n ≤ 400 ∧ M 73 3 = (n : Int) ∧ M 112 10 = (n : Int) ∧ M 118 = M 74 ∧ tOk (M 74) ∧ M 73 7 = M 112 11
def jS (t : Nat) (M : vi_M) : Prop := M 29 11 = M 112 0 ∧ M 29 12 = M 112 6 ∧ (M 111 0 = M 113 1 ∧ M 111 1 = M 113 2 ∧ M 111 2 = M 113 3 ∧ M 111 3 = M 113 5 ∧ M 111 4 = M 113 6) ∧ (∀ k, 1 ≤ k → k < 7 → 0 ≤ M 113 k ∧ M 113 k ≤ (t : Int)) ∧ 0 ≤ M 112 1 ∧ M 112 1 ≤ (t : Int)
def jD (M : vi_M) : Prop := ∃ m : Nat, m ≤ 60 ∧ M 77 9 = (m : Int) ∧ M 112 62 = (m : Int) ∧ ∀ i, i < m → M 79 i = M 150 i
def jI (M : vi_M) (a : Nat) (CS : Nat → List gCla) : Prop := ∀ k, k < 2 → M (40 + 10 * k) 12 = M 116 k ∧ (M 116 k = 0 ∨ M 116 k = 1) ∧ (M 116 k = 1 → ∃ LH LR LS, cHd M (40 + 10 * k) (fun i => M 115 (5103 * k + i)) a CS LH LR LS) ∧ ∃ m1 m2 m3 : Nat, M (40 + 10 * k + 1) 2 = (m1 : Int) ∧ M (40 + 10 * k + 3) 2 = (m2 : Int) ∧ M (40 + 10 * k + 5) 2 = (m3 : Int)
def jCe (q : Nat) : Prop := q = 70 ∨ q = 72 ∨ q = 81 ∨ q = 83 ∨ q = 85 ∨ q = 87 ∨ q = 90 ∨ q = 92 ∨ q = 94 ∨ q = 102
def jJ (M : vi_M) : Prop := (∀ q, jCe q → ∃ S, M q = cR S) ∧ vOr (M 88)
/-- all that stands before each call -/
def jW (sc : Nat → Int) (ln t a : Nat) (CS : Nat → List gCla) (lw : Option (List gCla)) (n : Nat) (Y : vi_Y) (M : vi_M) (nn : Nat × Nat) : Prop :=
  jA sc ln Y M ∧ jL Y M a CS ∧ (nn.1 = 112 + 5 * a ∧ a ≤ t ∧ nn.2 ≤ 1100000 + 600 * t) ∧ jC M a CS lw n ∧ jM M lw n ∧ jT M ∧ jS t M ∧ jD M ∧ jI M a CS ∧ jJ M
def jInv (sc : Nat → Int) (ln t : Nat) (w : vi_W) : Prop := ∃ a CS lw n, jW sc ln t a CS lw n w.1 w.2.1 w.2.2
theorem cHd_c {M M' : vi_M} {h : Nat} {f : Nat → Int} {a : Nat} {CS : Nat → List gCla} {LH LR LS : List (Nat → Int)} (hH : cHd M h f a CS LH LR LS) (hp : ∀ p, h ≤ p → p < h + 10 → M' p = M p) : cHd M' h f a CS LH LR LS := by
  unfold cHd at *
  rw [hp h (by omega) (by omega), hp (h + 1) (by omega) (by omega), hp (h + 2) (by omega) (by omega), hp (h + 3) (by omega) (by omega), hp (h + 4) (by omega) (by omega), hp (h + 5) (by omega) (by omega), hp (h + 6) (by omega) (by omega), hp (h + 7) (by omega) (by omega), hp (h + 8) (by omega) (by omega), hp (h + 9) (by omega) (by omega)]
  exact hH
theorem jV_c {M M' : vi_M} {f : Nat → Int} {lw : Option (List gCla)} {n : Nat} (h : jV M f lw n) (hp : ∀ p, 61 ≤ p → p < 70 → M' p = M p) : jV M' f lw n := by
  unfold jV at *
  rw [hp 61 (by omega) (by omega), hp 62 (by omega) (by omega), hp 64 (by omega) (by omega), hp 66 (by omega) (by omega), hp 68 (by omega) (by omega)]
  exact h
theorem jA_c {sc : Nat → Int} {ln : Nat} {Y : vi_Y} {M M' : vi_M} (h : jA sc ln Y M) (hp : ∀ p, p < 29 → M' p = M p) (h117 : M' 117 = M 117) (h138 : M' 138 = M 138) (h139 : M' 139 = M 139) : jA sc ln Y M' := by
  obtain ⟨a1, a2, a3, a4, a5, a6, a7⟩ := h
  refine ⟨a1, a2, fun i hi => ?_, fun j hj => by rw [h117]; exact a4 j hj, by rw [hp 1 (by omega)]; exact a5, fun t ht s hs => by rw [h138]; exact a6 t ht s hs, fun r o hr ho => by rw [h139]; exact a7 r o hr ho⟩
  obtain ⟨b1, b2, b3, b4, b5, b6⟩ := a3 i hi
  exact ⟨b1, b2, b3, b4, b5, fun j hj => by rw [hp (15 + i) (by omega)]; exact b6 j hj⟩
theorem jL_p {Y : vi_Y} {M M' : vi_M} {a : Nat} {CS : Nat → List gCla} (h : jL Y M a CS) (hp : ∀ p, 112 ≤ p → M' p = M p) : jL Y M' a CS := by
  intro i hi
  obtain ⟨S, h1, h2, h3, h4, h5, h6⟩ := h i hi
  exact ⟨S, h1, h2, h3, h4, by rw [hp _ (by omega)]; exact h5, fun j hj => by rw [hp _ (by omega), hp _ (by omega)]; exact h6 j hj⟩
/-- what the class's queries may change -/
def cQ (M M' : vi_M) : Prop := (∀ p, (p < 70 ∨ p = 73 ∨ p = 74 ∨ p = 79 ∨ 111 ≤ p) → M' p = M p) ∧ M' 77 9 = M 77 9
theorem cQ_r {M : vi_M} : cQ M M := ⟨fun _ _ => rfl, rfl⟩
