/-! Contracts of the reference, fifth part: what a kept law's tokens tell of a HOLE. -/
def eRow (f : Nat → Int) (g : Nat) (bk : Int) : Nat → Int := fun k => if k = 19 then (g : Int) else if k = 21 then bk else f k
/-- a kept law's tokens, from B to e, and what is asked of -/
def eOk (M : vi_M) (f : Nat → Int) (B e : Nat) (cd vl W : Nat → Int) : Prop := (e ≤ 2400 ∧ e ≤ B + 400) ∧ f 20 = (e : Int) ∧ (∀ i, B + i < e → M 114 (303 + (B + i)) = cd i ∧ M 114 (2703 + (B + i)) = vl i) ∧ (∀ i, e ≤ B + i → cd i = 0) ∧ (∀ k, k < 6 → M 123 k = W (k + 1)) ∧ (∀ i, 0 ≤ vl i) ∧ (∀ k, -1000000000 ≤ W k ∧ W k ≤ 1000000000)
/-- what comes out: (alive, broken before, what the text tells, the answer, broken after) -/
def eOut (lv bk : Int) (o : Option Int) (v bk' : Int) : Prop := (bk' = 0 ∨ bk' = 1) ∧ (¬ (lv = 1 ∧ bk = 0) → bk' = bk) ∧ (lv = 1 → bk = 0 → (∀ x, o = some x → v = x ∧ bk' = 0 ∧ -1000000000 ≤ x ∧ x ≤ 1000000000) ∧ (o = none → bk' = 1))
section
variable {D : Nat} {K : Option vi_V → vi_W → Prop} {Y : vi_Y} {M : vi_M} {nn : Nat × Nat} {B e g fu : Nat} {cd vl W f : Nat → Int}
end
/-- a method of sums evaluates the mode's place -/
def eS (Y : vi_Y) (nn : Nat × Nat) (f : Nat → Int) (B e : Nat) (cd vl W : Nat → Int) (fu m mode rk : Nat) : Prop := ∀ (D dp i l : Nat) (lv bk : Int) (M : vi_M) (a : gDen) (i' l' : Nat) (c : gDen) (Q : Option vi_V → vi_W → Prop), rdP cd vl fu mode dp i l a = some (true, i', l', c) → dp ≤ 8 → 4 * (8 - dp) + rk ≤ D → eOk M f B e cd vl W → M 112 = eRow f (B + i) bk → (lv = 0 ∨ lv = 1) → (bk = 0 ∨ bk = 1) → (∀ v bk', eOut lv bk (c W) v bk' → Q (some (.inr (.inl v))) (Y, vi_rs M 112 (eRow f (B + i') bk'), nn)) → vi_call GG D m [.inr (.inr 112), .inl lv] (Y, M, nn) Q
/-- what goes on in sums, from the loop's head (pc 6) -/
def eL (Y : vi_Y) (nn : Nat × Nat) (f : Nat → Int) (B e : Nat) (cd vl W : Nat → Int) (fu m mode rk : Nat) : Prop := ∀ (D dp i l : Nat) (lv b0 bk x : Int) (M : vi_M) (a : gDen) (i' l' : Nat) (c : gDen) (l4 l5 l6 : Option vi_V) (Q : Option vi_V → vi_W → Prop), rdP cd vl fu mode dp i l a = some (true, i', l', c) → dp ≤ 8 → 4 * (8 - dp) + rk ≤ D → eOk M f B e cd vl W → M 112 = eRow f (B + i) bk → (lv = 0 ∨ lv = 1) → (b0 = 0 ∨ b0 = 1) → eOut lv b0 (a W) x bk → (∀ v bk', eOut lv b0 (c W) v bk' → Q (some (.inr (.inl v))) (Y, vi_rs M 112 (eRow f (B + i') bk'), nn)) → vi_ok GG D m 6 [some (.inr (.inr 112)), some (.inl lv), some (.inr (.inl x)), none, l4, l5, l6] [] (Y, M, nn) Q
section
variable {Y : vi_Y} {nn : Nat × Nat} {B e fu : Nat} {cd vl W f : Nat → Int}
end
