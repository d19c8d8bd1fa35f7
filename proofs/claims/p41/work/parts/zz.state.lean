/-! Class and reference: what is held. -/
def rRw (f : Nat → Int) (L : List (Nat → Int)) : Prop := f 293 = (L.length : Int) ∧ L.length ≤ 8 ∧ ∀ r, r < L.length → gPl (f 96) (f 97) (f 98) (rL L r 0) (rL L r 1) (rL L r 2) = true ∧ ∀ j, j < 4 → f (100 + 4 * r + j) = rL L r j
def rSc (f : Nat → Int) (L : List (Nat → Int)) : Prop := f 294 = (L.length : Int) ∧ L.length ≤ 8 ∧ ∀ r, r < L.length → gH (rL L r) ∧ rL L r 5 = 0 ∧ gPl (f 96) (f 97) (f 98) (rL L r 0) (rL L r 1) (rL L r 2) = true ∧ ∀ j, j < 5 → f (132 + 5 * r + j) = rL L r j
def rDk (f g : Nat → Int) : Prop := ∀ a u v : Nat, a < 3 → u < 6 → v < 6 → g (36 * a + 6 * u + v) = f (172 + 36 * a + 6 * v + u) ∧ (f (172 + 36 * a + 6 * v + u) = 0 ∨ f (172 + 36 * a + 6 * v + u) = 1)
def rCt (f g : Nat → Int) : Prop := ∀ i, i < 12 → g i = f (280 + i) ∧ 0 ≤ f (280 + i) ∧ f (280 + i) ≤ 6
def rSz (f g : Nat → Int) : Prop := g 8 = f 96 ∧ g 9 = f 97 ∧ g 10 = f 98 ∧ g 11 = f 99 ∧ bxF f ∧ 0 ≤ f 99 ∧ f 99 ≤ 99
/-- the L-th law of a row, as its tokens are kept -/
def mKj (f : Nat → Int) (L : Nat) (cs : List gCla) : Prop := ∃ S : Nat, S ≤ 400 ∧ f (297 + L) = (S : Int) ∧ ∃ (cd vl : Nat → Int) (en : Nat → Bool) (fu i' : Nat), (∀ i, i < S → f (303 + (400 * L + i)) = cd i ∧ f (2703 + (400 * L + i)) = vl i) ∧ (∀ i, S ≤ i → cd i = 0) ∧ (∀ i, 0 ≤ vl i) ∧ (∀ i, en i = true → i = S) ∧ rdL cd vl en fu 12 0 0 [] = some (some cs, i')
def rLw (a : Nat) (CS : Nat → List gCla) (f g gl : Nat → Int) : Prop := g 6 = f 295 ∧ g 7 = f 296 ∧ (∃ m : Nat, f 295 = (m : Int) ∧ m ≤ 6 ∧ -1 ≤ f 296 ∧ f 296 < (m : Int) ∧ ∀ j, j < m → ∃ i, i < a ∧ gl j = ((122 + 5 * i : Nat) : Int) ∧ mKj f j (CS i)) ∧ ∀ j, j < 6 → gl j = 0 ∨ ∃ i, i < a ∧ gl j = ((122 + 5 * i : Nat) : Int)
/-- the class's Held at h holds what the row f keeps -/
def cHd (M : vi_M) (h : Nat) (f : Nat → Int) (a : Nat) (CS : Nat → List gCla) (LH LR LS : List (Nat → Int)) : Prop := (rOK (M (h + 1)) (M (h + 2)) LH ∧ rOK (M (h + 3)) (M (h + 4)) LR ∧ rOK (M (h + 5)) (M (h + 6)) LS) ∧ rHs f LH ∧ rRw f LR ∧ rSc f LS ∧ rDk f (M (h + 7)) ∧ rCt f (M (h + 8)) ∧ rSz f (M h) ∧ rLw a CS f (M h) (M (h + 9))
/-- the law in force -/
def fLw (a : Nat) (CS : Nat → List gCla) (f gl : Nat → Int) : Option (List gCla) → Prop
  | none => f 296 = -1
  | some cs => ∃ L i : Nat, f 296 = (L : Int) ∧ L < 6 ∧ (L : Int) < f 295 ∧ gl L = ((122 + 5 * i : Nat) : Int) ∧ i < a ∧ cs = CS i ∧ mKj f L cs
theorem fLw_ex {a : Nat} {CS : Nat → List gCla} {f g gl : Nat → Int} (h : rLw a CS f g gl) : ∃ lw, fLw a CS f gl lw := by
  obtain ⟨h1, h2, ⟨m, h3, h4, h5, h6, h7⟩, h8⟩ := h
  by_cases e : f 296 = -1
  · exact ⟨none, e⟩
  · obtain ⟨L, hL⟩ : ∃ L : Nat, f 296 = (L : Int) := ⟨(f 296).toNat, by omega⟩
    obtain ⟨i, hi, e1, e2⟩ := h7 L (by omega)
    exact ⟨some (CS i), L, i, hL, by omega, by omega, e1, hi, rfl, e2⟩
theorem fLw_m {M : vi_M} {a : Nat} {CS : Nat → List gCla} {gl : Nat → Int} {lw : Option (List gCla)} (h : fLw a CS (M 114) gl lw) : mLw M lw := by
  cases lw with
  | none => exact h
  | some cs =>
    obtain ⟨L, i, h1, h2, h3, h4, h5, h6, S, s1, s2, s3⟩ := h
    exact ⟨L, S, h2, s1, h1, s2, s3⟩
/-- all that depends on the kept row alone -/
def rowM (f : Nat → Int) : vi_M := fun _ => f
def lfS (f : Nat → Int) (lw : Option (List gCla)) (n : Nat) : Nat → Bool := fun c => mLf (rowM f) lw n c
def tlS (f : Nat → Int) (lw : Option (List gCla)) (n : Nat) (c : Nat) : Bool × Bool × Int := mT (rowM f) (c : Int) (mAt f (c : Int) n) lw
def shS (f : Nat → Int) (lw : Option (List gCla)) (n : Nat) : Nat → Bool := fun c => mIcb f (c : Int) && (tlS f lw n c).2.1
def bxS (f : Nat → Int) : Nat → Bool := fun c => mIcb f (c : Int)
/-- the class's cells are those of the row f -/
def jV (M : vi_M) (f : Nat → Int) (lw : Option (List gCla)) (n : Nat) : Prop := (∀ c : Nat, c < 216 → M 61 c = mAt f (c : Int) n) ∧ (∀ c : Nat, c < 216 → bxS f c = true → M 62 c = (tlS f lw n c).2.2) ∧ M 64 = cR (bxS f) ∧ M 66 = cR (lfS f lw n) ∧ M 68 = cR (shS f lw n)
theorem lfS_M {M : vi_M} {lw : Option (List gCla)} {n c : Nat} : lfS (M 114) lw n c = mLf M lw n c := mLf_c rfl
theorem bC_64 : ∀ a : Nat, a < 4 → ∀ b : Nat, b < 4 → ∀ c : Nat, c < 4 → bC (a + 4 * b + 16 * c) = (a % 2 + a / 2) + (b % 2 + b / 2) + (c % 2 + c / 2) := by decide
theorem gE_n {p s : Int} : ∃ a : Nat, a < 4 ∧ gE p s = (a : Int) ∧ ((a % 2 + a / 2 : Nat) : Int) = (if p = 0 then 1 else 0) + (if p = s - 1 then 1 else 0) := by
  unfold gE
  by_cases h1 : p = 0
  · by_cases h2 : p = s - 1
    · exact ⟨3, by omega, by rw [if_pos h1, if_pos h2]; rfl, by rw [if_pos h1, if_pos h2]; rfl⟩
    · exact ⟨1, by omega, by rw [if_pos h1, if_neg h2]; rfl, by rw [if_pos h1, if_neg h2]; rfl⟩
  · by_cases h2 : p = s - 1
    · exact ⟨2, by omega, by rw [if_neg h1, if_pos h2]; rfl, by rw [if_neg h1, if_pos h2]; rfl⟩
    · exact ⟨0, by omega, by rw [if_neg h1, if_neg h2]; rfl, by rw [if_neg h1, if_neg h2]; rfl⟩
theorem it_c {p q : Prop} [Decidable p] [Decidable q] (h : p ↔ q) : (if p then (1 : Int) else 0) = if q then 1 else 0 := by
  by_cases hq : q
  · rw [if_pos hq, if_pos (h.mpr hq)]
  · rw [if_neg hq, if_neg (fun x => hq (h.mp x))]
theorem rind_eq {f : Nat → Int} {c : Nat} (hc : mIcb f (c : Int) = true) : ((bC (gSd (f 96) (f 97) (f 98) (c : Int)).toNat : Nat) : Int) = mRn (rowM f) (c : Int) 6 := by
  have hc := of_decide_eq_true hc
  obtain ⟨a, a1, a2, a3⟩ := @gE_n ((c : Int) % 6) (f 96)
  obtain ⟨b, b1, b2, b3⟩ := @gE_n ((c : Int) / 6 % 6) (f 97)
  obtain ⟨d, d1, d2, d3⟩ := @gE_n ((c : Int) / 36) (f 98)
  have e : gSd (f 96) (f 97) (f 98) (c : Int) = ((a + 4 * b + 16 * d : Nat) : Int) := by unfold gSd; rw [a2, b2, d2]; omega
  rw [e, Int.toNat_natCast, bC_64 a a1 b b1 d d1, Int.natCast_add, Int.natCast_add, a3, b3, d3]
  have t0 : (if mBe (rowM f) (c : Int) 0 = -1 then (1 : Int) else 0) = if (c : Int) % 6 = 0 then 1 else 0 := it_c (by
    show (if (c : Int) % 6 = 0 then (-1 : Int) else (c : Int) - 1) = -1 ↔ _
    split <;> omega)
  have t1 : (if mBe (rowM f) (c : Int) 1 = -1 then (1 : Int) else 0) = if (c : Int) % 6 = f 96 - 1 then 1 else 0 := it_c (by
    show (if f 96 ≤ (c : Int) % 6 + 1 then (-1 : Int) else (c : Int) + 1) = -1 ↔ _
    split <;> omega)
  have t2 : (if mBe (rowM f) (c : Int) 2 = -1 then (1 : Int) else 0) = if (c : Int) / 6 % 6 = 0 then 1 else 0 := it_c (by
    show (if (c : Int) / 6 % 6 = 0 then (-1 : Int) else (c : Int) - 6) = -1 ↔ _
    split <;> omega)
  have t3 : (if mBe (rowM f) (c : Int) 3 = -1 then (1 : Int) else 0) = if (c : Int) / 6 % 6 = f 97 - 1 then 1 else 0 := it_c (by
    show (if f 97 ≤ (c : Int) / 6 % 6 + 1 then (-1 : Int) else (c : Int) + 6) = -1 ↔ _
    split <;> omega)
  have t4 : (if mBe (rowM f) (c : Int) 4 = -1 then (1 : Int) else 0) = if (c : Int) / 36 = 0 then 1 else 0 := it_c (by
    show (if (c : Int) / 36 = 0 then (-1 : Int) else (c : Int) - 36) = -1 ↔ _
    split <;> omega)
  have t5 : (if mBe (rowM f) (c : Int) 5 = -1 then (1 : Int) else 0) = if (c : Int) / 36 = f 98 - 1 then 1 else 0 := it_c (by
    show (if f 98 ≤ (c : Int) / 36 + 1 then (-1 : Int) else (c : Int) + 36) = -1 ↔ _
    split <;> omega)
  rw [mRn, mRn, mRn, mRn, mRn, mRn, mRn, t0, t1, t2, t3, t4, t5]
  omega
/-- the words a LAW is asked with -/
theorem word_eq {f g : Nat → Int} (hs : rSz f g) {c : Nat} (hc : mIcb f (c : Int) = true) {h : Int} : lWd g (c : Int) h = mWd (rowM f) (c : Int) h := by
  obtain ⟨s1, s2, s3, s4, -⟩ := hs
  funext k
  unfold lWd mWd
  rw [s1, s2, s3, s4, rind_eq hc]
  rfl
def lwG (g : Nat → Int) : Option (List gCla) → gLaw
  | none => fun _ _ => (false, false, 1)
  | some cs => fun c h => gTl (lWd g c h) cs
theorem lwG_eq {f g : Nat → Int} (hs : rSz f g) {lw : Option (List gCla)} {n c : Nat} (hc : mIcb f (c : Int) = true) : lwG g lw (c : Int) (mAt f (c : Int) n) = tlS f lw n c := by
  cases lw with
  | none => rfl
  | some cs =>
    show gTl (lWd g (c : Int) (mAt f (c : Int) n)) cs = _
    rw [word_eq hs hc]
    rfl
theorem bx_eq {f : Nat → Int} {c : Nat} (hc : c < 216) : sBox (f 96) (f 97) (f 98) c = bxS f c := by
  unfold sBox bxS mIcb
  rw [decide_eq_decide]
  omega
/-- laws made, one after the other from the place 120 on -/
def jL (Y : vi_Y) (M : vi_M) (a : Nat) (CS : Nat → List gCla) : Prop := ∀ i, i < a → ∃ S, pGood Y M (120 + 5 * i) S (CS i)
theorem jL_in {Y : vi_Y} {M : vi_M} {a : Nat} {CS : Nat → List gCla} {f : Nat → Int} {lw : Option (List gCla)} (hL : jL Y M a CS) (h30 : Y.1 30 = 22) (hs : rSz f (M 30)) (hr : rLw a CS f (M 30) (M 39)) (hf : fLw a CS f (M 39) lw) : lIn Y M (lwG (M 30) lw) := by
  obtain ⟨s1, s2, s3, s4, s5, s6, s7⟩ := hs
  obtain ⟨r1, r2, ⟨m, r3, r4, r5, r6, r7⟩, r8⟩ := hr
  refine ⟨m, by rw [r1, r3], r4, ?_⟩
  cases lw with
  | none => exact .inl ⟨by rw [r2]; exact hf, rfl⟩
  | some cs =>
    obtain ⟨L, i, f1, f2, f3, f4, f5, f6, f7⟩ := hf
    obtain ⟨S, hS⟩ := hL i f5
    refine .inr ⟨L, 122 + 5 * i, by rw [r2, f1], by omega, f4, ?_⟩
    have := law_of hS h30 (f := M 30) (by rw [s1, s2, s3]; exact s5) (by rw [s4]; exact ⟨s6, s7⟩)
    rw [show 122 + 5 * i = 120 + 5 * i + 2 by omega, show 120 + 5 * i + 2 - 2 = 120 + 5 * i by omega, show 120 + 5 * i + 2 - 1 = 120 + 5 * i + 1 by omega, f6]
    exact this
theorem jL_c {Y : vi_Y} {M M' : vi_M} {a : Nat} {CS : Nat → List gCla} (h : jL Y M a CS) (h150 : Y.1 150 ≠ 23) (h151 : M' 120 = M 120) (hp : ∀ p, 120 < p → Y.1 p ≠ 23 → Y.1 (p - 1) ≠ 23 → Y.1 (p - 2) ≠ 23 → M' p = M p) : jL Y M' a CS := by
  intro i hi
  obtain ⟨S, g1, g2, g3, g4, g5, g6⟩ := h i hi
  have k := g1
  obtain ⟨k1, k2, k3, k4, k5, k6, k7, k8, k9, k10, k11, k12, k13, k14⟩ := k
  have e1 : M' (120 + 5 * i) = M (120 + 5 * i) := by
    cases i with
    | zero => exact h151
    | succ i =>
      obtain ⟨S', q1, -⟩ := h i (by omega)
      obtain ⟨-, -, -, -, -, -, -, -, -, q10, q11, q12, q13, q14⟩ := q1
      refine hp _ (by omega) (by rw [k4]; omega) ?_ ?_
      · rw [show 120 + 5 * (i + 1) - 1 = 120 + 5 * i + 4 by omega, q13]; omega
      · rw [show 120 + 5 * (i + 1) - 2 = 120 + 5 * i + 3 by omega, q10]; omega
  have e2 : M' (120 + 5 * i + 1) = M (120 + 5 * i + 1) := by
    refine hp _ (by omega) (by rw [k7]; omega) ?_ ?_
    · rw [show 120 + 5 * i + 1 - 1 = 120 + 5 * i by omega, k4]; omega
    · cases i with
      | zero => exact h150
      | succ i =>
        obtain ⟨S', q1, -⟩ := h i (by omega)
        obtain ⟨-, -, -, -, -, -, -, -, -, q10, q11, q12, q13, q14⟩ := q1
        rw [show 120 + 5 * (i + 1) + 1 - 2 = 120 + 5 * i + 4 by omega, q13]; omega
  exact ⟨S, g1, g2, g3, g4, by rw [e1]; exact g5, fun j hj => by rw [e1, e2]; exact g6 j hj⟩
section
variable {d : Nat} {Y : vi_Y} {M : vi_M} {n : Nat × Nat}
end
