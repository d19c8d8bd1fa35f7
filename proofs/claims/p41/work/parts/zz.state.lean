/-! Class and reference: what is held. -/
def rSz (f g : Nat → Int) : Prop := g 8 = f 96 ∧ g 9 = f 97 ∧ g 10 = f 98 ∧ g 11 = f 99 ∧ bxF f ∧ 0 ≤ f 99 ∧ f 99 ≤ 99
/-- all that depends on the kept row alone -/
def rowM (f : Nat → Int) : vi_M := fun _ => f
def lfS (f : Nat → Int) (lw : Option (List gCla)) (n : Nat) : Nat → Bool := fun c => mLf (rowM f) lw n c
def tlS (f : Nat → Int) (lw : Option (List gCla)) (n : Nat) (c : Nat) : Bool × Bool × Int := mT (rowM f) (c : Int) (mAt f (c : Int) n) lw
def shS (f : Nat → Int) (lw : Option (List gCla)) (n : Nat) : Nat → Bool := fun c => mIcb f (c : Int) && (tlS f lw n c).2.1
def bxS (f : Nat → Int) : Nat → Bool := fun c => mIcb f (c : Int)
/-- the class's cells are those of the row f -/
def jV (M : vi_M) (f : Nat → Int) (lw : Option (List gCla)) (n : Nat) : Prop := (∀ c : Nat, c < 216 → M 61 c = mAt f (c : Int) n) ∧ (∀ c : Nat, c < 216 → bxS f c = true → M 62 c = (tlS f lw n c).2.2) ∧ M 64 = cR (bxS f) ∧ M 66 = cR (lfS f lw n) ∧ M 68 = cR (shS f lw n)
theorem bC_64 : ∀ a : Nat, a < 4 → ∀ b : Nat, b < 4 → ∀ c : Nat, c < 4 → bC (a + 4 * b + 16 * c) = (a % 2 + a / 2) + (b % 2 + b / 2) + (c % 2 + c / 2) := by decide
theorem gE_n {p s : Int} : ∃ a : Nat, a < 4 ∧ gE p s = (a : Int) ∧ ((a % 2 + a / 2 : Nat) : Int) = (if p = 0 then 1 else 0) + (if p = s - 1 then 1 else 0) := by
  unfold gE
  by_cases h1 : p = 0
  · by_cases h2 : p = s - 1
    · exact ⟨3, by omega, by rw [if_pos h1, if_pos h2]; rfl, by rw [if_pos h1, if_pos h2]; rfl⟩
    · exact ⟨1, by omega, by rw [if_pos h1, if_neg h2]; rfl, by rw [if_pos h1, if_neg h2]; rfl⟩
  · by_cases h2 : p = s - 1
    · exact ⟨2, by omega, by rw [if_neg h1, if_pos h2]; rfl, by rw [if_neg h1, if_pos h2]; rfl⟩
    · exact ⟨0, by omega, by rw [if_neg h1, if_neg h2]; rfl, by rw [if_neg h1, if_neg h2]; rfl⟩
theorem it_c {p q : Prop} [Decidable p] [Decidable q] (h : p ↔ q) : (if p then (1 : Int) else 0) = if q then 1 else 0 := by
  by_cases hq : q
  · rw [if_pos hq, if_pos (h.mpr hq)]
  · rw [if_neg hq, if_neg (fun x => hq (h.mp x))]
theorem rind_eq {f : Nat → Int} {c : Nat} (hc : mIcb f (c : Int) = true) : ((bC (gSd (f 96) (f 97) (f 98) (c : Int)).toNat : Nat) : Int) = mRn (rowM f) (c : Int) 6 := by
  have hc := of_decide_eq_true hc
  obtain ⟨a, a1, a2, a3⟩ := @gE_n ((c : Int) % 6) (f 96)
  obtain ⟨b, b1, b2, b3⟩ := @gE_n ((c : Int) / 6 % 6) (f 97)
  obtain ⟨d, d1, d2, d3⟩ := @gE_n ((c : Int) / 36) (f 98)
  have e : gSd (f 96) (f 97) (f 98) (c : Int) = ((a + 4 * b + 16 * d : Nat) : Int) := by unfold gSd; rw [a2, b2, d2]; omega
  rw [e, Int.toNat_natCast, bC_64 a a1 b b1 d d1, Int.natCast_add, Int.natCast_add, a3, b3, d3]
  have t0 : (if mBe (rowM f) (c : Int) 0 = -1 then (1 : Int) else 0) = if (c : Int) % 6 = 0 then 1 else 0 := it_c (by
    show (if (c : Int) % 6 = 0 then (-1 : Int) else (c : Int) - 1) = -1 ↔ _
    split <;> omega)
  have t1 : (if mBe (rowM f) (c : Int) 1 = -1 then (1 : Int) else 0) = if (c : Int) % 6 = f 96 - 1 then 1 else 0 := it_c (by
    show (if f 96 ≤ (c : Int) % 6 + 1 then (-1 : Int) else (c : Int) + 1) = -1 ↔ _
    split <;> omega)
  have t2 : (if mBe (rowM f) (c : Int) 2 = -1 then (1 : Int) else 0) = if (c : Int) / 6 % 6 = 0 then 1 else 0 := it_c (by
    show (if (c : Int) / 6 % 6 = 0 then (-1 : Int) else (c : Int) - 6) = -1 ↔ _
    split <;> omega)
  have t3 : (if mBe (rowM f) (c : Int) 3 = -1 then (1 : Int) else 0) = if (c : Int) / 6 % 6 = f 97 - 1 then 1 else 0 := it_c (by
    show (if f 97 ≤ (c : Int) / 6 % 6 + 1 then (-1 : Int) else (c : Int) + 6) = -1 ↔ _
    split <;> omega)
  have t4 : (if mBe (rowM f) (c : Int) 4 = -1 then (1 : Int) else 0) = if (c : Int) / 36 = 0 then 1 else 0 := it_c (by
    show (if (c : Int) / 36 = 0 then (-1 : Int) else (c : Int) - 36) = -1 ↔ _
    split <;> omega)
  have t5 : (if mBe (rowM f) (c : Int) 5 = -1 then (1 : Int) else 0) = if (c : Int) / 36 = f 98 - 1 then 1 else 0 := it_c (by
    show (if f 98 ≤ (c : Int) / 36 + 1 then (-1 : Int) else (c : Int) + 36) = -1 ↔ _
    split <;> omega)
  rw [mRn, mRn, mRn, mRn, mRn, mRn, mRn, t0, t1, t2, t3, t4, t5]
  omega
/-- the words a LAW is asked with -/
theorem word_eq {f g : Nat → Int} (hs : rSz f g) {c : Nat} (hc : mIcb f (c : Int) = true) {h : Int} : lWd g (c : Int) h = mWd (rowM f) (c : Int) h := by
  obtain ⟨s1, s2, s3, s4, -⟩ := hs
  funext k
  unfold lWd mWd
  rw [s1, s2, s3, s4, rind_eq hc]
  rfl
def lwG (g : Nat → Int) : Option (List gCla) → gLaw
  | none => fun _ _ => (false, false, 1)
  | some cs => fun c h => gTl (lWd g c h) cs
theorem lwG_eq {f g : Nat → Int} (hs : rSz f g) {lw : Option (List gCla)} {n c : Nat} (hc : mIcb f (c : Int) = true) : lwG g lw (c : Int) (mAt f (c : Int) n) = tlS f lw n c := by
  cases lw with
  | none => rfl
  | some cs =>
    show gTl (lWd g (c : Int) (mAt f (c : Int) n)) cs = _
    rw [word_eq hs hc]
    rfl
theorem bx_eq {f : Nat → Int} {c : Nat} (hc : c < 216) : sBox (f 96) (f 97) (f 98) c = bxS f c := by
  unfold sBox bxS mIcb
  rw [decide_eq_decide]
  omega
section
variable {d : Nat} {Y : vi_Y} {M : vi_M} {n : Nat × Nat}
end
