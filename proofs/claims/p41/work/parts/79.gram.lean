/-! A LAW's text: tokens, and what they tell, read by a function of its own (fuel; a mode a place of the grammar). -/
abbrev gDen : Type := (Nat → Int) → Option Int
abbrev gRes : Type := Bool × Nat × Nat × gDen
def dJ (k : Int) (a b : gDen) : gDen := fun W => match a W with
  | none => none
  | some x => match b W with
    | none => none
    | some y => if lJn k x y < -1000000000 ∨ 1000000000 < lJn k x y then none else some (lJn k x y)
def dN (a : gDen) : gDen := fun W => match a W with
  | none => none
  | some x => some (1 - x)
/-- "and" (key 0), "or" (key 1): what stands behind is asked only where it can still matter -/
def dA (key : Int) (a b : gDen) : gDen := fun W => match a W with
  | none => none
  | some x => if x = key then some x else b W
def gN (cd : Nat → Int) : Nat → Nat → Nat
  | 0, _ => 0
  | k + 1, i => if cd i = 7 then gN cd k (i + 1) + 1 else 0
def gLf (cd vl : Nat → Int) (i : Nat) : gDen := if cd i = 50 then fun _ => some (vl i) else fun W => some (W (cd i - 7).toNat)
/-- modes: 0 a PART, 1 a TERM, 2 a SUM, 3 a PLAIN, 4 a BOTH, 5 a TEST, 6 .. 9 what goes on in a TERM, SUM, BOTH, TEST, 10 a PLAIN without its nots -/
def rdP (cd vl : Nat → Int) : Nat → Nat → Nat → Nat → Nat → gDen → Option gRes
  | 0, _, _, _, _, _ => none
  | f + 1, 0, dp, i, l, a => if cd i = 191 then (if dp = 8 then some (false, i, l, a) else match rdP cd vl f 2 (dp + 1) (i + 1) l a with
      | some (true, i', l', b) => some (if cd i' = 193 then (true, i' + 1, l', b) else (false, i', l', b))
      | r => r)
    else if (cd i = 50 ∧ vl i ≤ 1000) ∨ (8 ≤ cd i ∧ cd i ≤ 13) then (if l = 50 then some (false, i, l, a) else some (true, i + 1, l + 1, gLf cd vl i)) else some (false, i, l, a)
  | f + 1, 1, dp, i, l, a => match rdP cd vl f 0 dp i l a with
      | some (true, i', l', b) => rdP cd vl f 6 dp i' l' b
      | r => r
  | f + 1, 2, dp, i, l, a => match rdP cd vl f 1 dp i l a with
      | some (true, i', l', b) => rdP cd vl f 7 dp i' l' b
      | r => r
  | f + 1, 3, dp, i, l, a => match rdP cd vl f 10 dp (i + gN cd 400 i) l a with
      | some (true, i', l', b) => some (true, i', l', if gN cd 400 i % 2 = 1 then dN b else b)
      | r => r
  | f + 1, 4, dp, i, l, a => match rdP cd vl f 3 dp i l a with
      | some (true, i', l', b) => rdP cd vl f 8 dp i' l' b
      | r => r
  | f + 1, 5, dp, i, l, a => match rdP cd vl f 4 dp i l a with
      | some (true, i', l', b) => rdP cd vl f 9 dp i' l' b
      | r => r
  | f + 1, 6, dp, i, l, a => if cd i = 142 ∨ cd i = 147 then (match rdP cd vl f 0 dp (i + 1) l a with
      | some (true, i', l', b) => rdP cd vl f 6 dp i' l' (dJ (if cd i = 142 then 9 else 10) a b)
      | r => r) else some (true, i, l, a)
  | f + 1, 7, dp, i, l, a => if cd i = 143 ∨ cd i = 145 then (match rdP cd vl f 1 dp (i + 1) l a with
      | some (true, i', l', b) => rdP cd vl f 7 dp i' l' (dJ (if cd i = 143 then 7 else 8) a b)
      | r => r) else some (true, i, l, a)
  | f + 1, 8, dp, i, l, a => if cd i = 6 then (match rdP cd vl f 3 dp (i + 1) l a with
      | some (true, i', l', b) => rdP cd vl f 8 dp i' l' (dA 0 a b)
      | r => r) else some (true, i, l, a)
  | f + 1, 9, dp, i, l, a => if cd i = 5 then (match rdP cd vl f 4 dp (i + 1) l a with
      | some (true, i', l', b) => rdP cd vl f 9 dp i' l' (dA 1 a b)
      | r => r) else some (true, i, l, a)
  | f + 1, 10, dp, i, l, a => if cd i = 140 then (if dp = 8 then some (false, i, l, a) else match rdP cd vl f 5 (dp + 1) (i + 1) l a with
      | some (true, i', l', b) => some (if cd i' = 141 then (true, i' + 1, l', b) else (false, i', l', b))
      | r => r)
    else match rdP cd vl f 2 dp i l a with
      | some (true, i', l', b) => if cd i' = 160 ∨ cd i' = 162 ∨ cd i' = 161 then (match rdP cd vl f 2 dp (i' + 1) l' b with
        | some (true, i2, l2, c) => some (true, i2, l2, dJ (if cd i' = 160 then 11 else if cd i' = 162 then 12 else 13) b c)
        | r => r) else some (false, i', l', b)
      | r => r
  | _ + 1, _ + 11, _, _, _, _ => none
/-- a CLAUSE: whether it is one, where it ends (or fails), parts, its kind, its SUM, its TEST -/
abbrev gCla : Type := Int × Option gDen × Option gDen
def rdC (cd vl : Nat → Int) (f i l : Nat) : Option (Bool × Nat × Nat × gCla) :=
  if cd i = 1 ∨ cd i = 2 ∨ cd i = 3 then
    match (if cd i = 1 then rdP cd vl f 2 0 (i + 1) l (fun _ => none) else some (true, i + 1, l, fun _ => none)) with
    | none => none
    | some (false, i', l', _) => some (false, i', l', 0, none, none)
    | some (true, i', l', b) => if cd i' = 4 then (match rdP cd vl f 5 0 (i' + 1) l' b with
      | none => none
      | some (false, i2, l2, _) => some (false, i2, l2, 0, none, none)
      | some (true, i2, l2, c) => some (true, i2, l2, cd i - 1, if cd i = 1 then some b else none, some c)) else some (true, i', l', cd i - 1, if cd i = 1 then some b else none, none)
  else some (false, i, l, 0, none, none)
/-- a LAW: its clauses, or the token that can't go on -/
def rdL (cd vl : Nat → Int) (en : Nat → Bool) (f : Nat) : Nat → Nat → Nat → List gCla → Option (Option (List gCla) × Nat)
  | 0, i, _, _ => some (none, i)
  | k + 1, i, l, cs => match rdC cd vl f i l with
    | none => none
    | some (false, i', _, _) => some (none, i')
    | some (true, i', l', c) => if cd i' = 159 then rdL cd vl en f k (i' + 1) l' (cs ++ [c]) else if en i' = true then some (some (cs ++ [c]), i') else some (none, i')
def gRk : Nat → Nat
  | 0 => 1
  | 1 => 2
  | 2 => 3
  | 10 => 4
  | 3 => 5
  | 4 => 6
  | 5 => 7
  | _ => 0
theorem gRk_0 : gRk 0 = 1 := rfl
theorem gRk_1 : gRk 1 = 2 := rfl
theorem gRk_2 : gRk 2 = 3 := rfl
theorem gRk_3 : gRk 3 = 5 := rfl
theorem gRk_4 : gRk 4 = 6 := rfl
theorem gRk_5 : gRk 5 = 7 := rfl
theorem gRk_6 : gRk 6 = 0 := rfl
theorem gRk_7 : gRk 7 = 0 := rfl
theorem gRk_8 : gRk 8 = 0 := rfl
theorem gRk_9 : gRk 9 = 0 := rfl
theorem gRk_10 : gRk 10 = 4 := rfl
theorem gN_le {cd : Nat → Int} {nt : Nat} (h : ∀ i, nt ≤ i → cd i = 0) : ∀ k i, i ≤ nt → i + gN cd k i ≤ nt
  | 0, i, hi => by simp [gN]; exact hi
  | k + 1, i, hi => by
    rw [gN]
    split
    · rename_i h7
      have : i < nt := Nat.lt_of_not_le fun k => by rw [h i k] at h7; omega
      have := gN_le h k (i + 1) (by omega)
      omega
    · exact hi
/-- with enough fuel it ends; where it is well, something has been read, and no more parts than tokens -/
theorem rdP_t {cd vl : Nat → Int} {nt : Nat} (h : ∀ i, nt ≤ i → cd i = 0) : ∀ (f m dp i l : Nat) (a : gDen), m ≤ 10 → i ≤ nt → 8 * (nt - i) + gRk m + 1 ≤ f → ∃ b i' l' c, rdP cd vl f m dp i l a = some (b, i', l', c) ∧ i' ≤ nt ∧ (b = true → i ≤ i' ∧ (m ≤ 5 ∨ m = 10 → i < i')) := by
  intro f
  induction f with
  | zero => intro m dp i l a _ _ hf; omega
  | succ f ih =>
    intro m dp i l a hm hi hf
    have lt : ∀ k, cd i = k → k ≠ 0 → i < nt := fun k hk h0 => Nat.lt_of_not_le fun q => h0 (by rw [← hk]; exact h i q)
    obtain rfl | rfl | rfl | rfl | rfl | rfl | rfl | rfl | rfl | rfl | rfl : m = 0 ∨ m = 1 ∨ m = 2 ∨ m = 3 ∨ m = 4 ∨ m = 5 ∨ m = 6 ∨ m = 7 ∨ m = 8 ∨ m = 9 ∨ m = 10 := by omega
    · rw [rdP]
      simp only [gRk_0, gRk_1, gRk_2, gRk_3, gRk_4, gRk_5, gRk_6, gRk_7, gRk_8, gRk_9, gRk_10] at hf
      split
      · rename_i h1
        have := lt _ h1 (by decide)
        split
        · exact ⟨false, i, l, a, rfl, hi, fun k => by cases k⟩
        · obtain ⟨b, i', l', c, e, e1, e2⟩ := ih 2 (dp + 1) (i + 1) l a (by omega) (by omega) (by simp only [gRk_0, gRk_1, gRk_2, gRk_3, gRk_4, gRk_5, gRk_6, gRk_7, gRk_8, gRk_9, gRk_10]; omega)
          rw [e]
          cases b
          · exact ⟨false, i', l', c, rfl, e1, fun k => by cases k⟩
          · dsimp only
            have e3 := e2 rfl
            split
            · rename_i h3
              have : i' < nt := Nat.lt_of_not_le fun q => by rw [h i' q] at h3; omega
              exact ⟨true, i' + 1, l', c, rfl, by omega, fun _ => ⟨by omega, fun _ => by omega⟩⟩
            · exact ⟨false, i', l', c, rfl, e1, fun k => by cases k⟩
      · split
        · rename_i h1
          have : i < nt := by
            rcases h1 with h1 | h1
            · exact lt _ h1.1 (by decide)
            · exact lt _ rfl (by omega)
          split
          · exact ⟨false, i, l, a, rfl, hi, fun k => by cases k⟩
          · exact ⟨true, i + 1, l + 1, _, rfl, by omega, fun _ => ⟨by omega, fun _ => by omega⟩⟩
        · exact ⟨false, i, l, a, rfl, hi, fun k => by cases k⟩
    · rw [rdP]
      simp only [gRk_0, gRk_1, gRk_2, gRk_3, gRk_4, gRk_5, gRk_6, gRk_7, gRk_8, gRk_9, gRk_10] at hf
      obtain ⟨b, i', l', c, e, e1, e2⟩ := ih 0 dp i l a (by omega) (by omega) (by simp only [gRk_0, gRk_1, gRk_2, gRk_3, gRk_4, gRk_5, gRk_6, gRk_7, gRk_8, gRk_9, gRk_10]; omega)
      rw [e]
      cases b
      · exact ⟨false, i', l', c, rfl, e1, fun k => by cases k⟩
      · have e3 := e2 rfl
        have e4 := e3.2 (by omega)
        obtain ⟨b2, i2, l2, c2, g, u1, u2⟩ := ih 6 dp i' l' c (by omega) (by omega) (by simp only [gRk_0, gRk_1, gRk_2, gRk_3, gRk_4, gRk_5, gRk_6, gRk_7, gRk_8, gRk_9, gRk_10]; omega)
        exact ⟨b2, i2, l2, c2, g, u1, fun k => by have := u2 k; exact ⟨by omega, fun _ => by omega⟩⟩
    · rw [rdP]
      simp only [gRk_0, gRk_1, gRk_2, gRk_3, gRk_4, gRk_5, gRk_6, gRk_7, gRk_8, gRk_9, gRk_10] at hf
      obtain ⟨b, i', l', c, e, e1, e2⟩ := ih 1 dp i l a (by omega) (by omega) (by simp only [gRk_0, gRk_1, gRk_2, gRk_3, gRk_4, gRk_5, gRk_6, gRk_7, gRk_8, gRk_9, gRk_10]; omega)
      rw [e]
      cases b
      · exact ⟨false, i', l', c, rfl, e1, fun k => by cases k⟩
      · have e3 := e2 rfl
        have e4 := e3.2 (by omega)
        obtain ⟨b2, i2, l2, c2, g, u1, u2⟩ := ih 7 dp i' l' c (by omega) (by omega) (by simp only [gRk_0, gRk_1, gRk_2, gRk_3, gRk_4, gRk_5, gRk_6, gRk_7, gRk_8, gRk_9, gRk_10]; omega)
        exact ⟨b2, i2, l2, c2, g, u1, fun k => by have := u2 k; exact ⟨by omega, fun _ => by omega⟩⟩
    · rw [rdP]
      simp only [gRk_0, gRk_1, gRk_2, gRk_3, gRk_4, gRk_5, gRk_6, gRk_7, gRk_8, gRk_9, gRk_10] at hf
      have hn := gN_le h 400 i hi
      obtain ⟨b, i', l', c, e, e1, e2⟩ := ih 10 dp (i + gN cd 400 i) l a (by omega) (by omega) (by simp only [gRk_0, gRk_1, gRk_2, gRk_3, gRk_4, gRk_5, gRk_6, gRk_7, gRk_8, gRk_9, gRk_10]; omega)
      rw [e]
      cases b
      · exact ⟨false, i', l', c, rfl, e1, fun k => by cases k⟩
      · have e3 := e2 rfl
        have e4 := e3.2 (by omega)
        exact ⟨true, i', l', _, rfl, e1, fun _ => ⟨by omega, fun _ => by omega⟩⟩
    · rw [rdP]
      simp only [gRk_0, gRk_1, gRk_2, gRk_3, gRk_4, gRk_5, gRk_6, gRk_7, gRk_8, gRk_9, gRk_10] at hf
      obtain ⟨b, i', l', c, e, e1, e2⟩ := ih 3 dp i l a (by omega) (by omega) (by simp only [gRk_0, gRk_1, gRk_2, gRk_3, gRk_4, gRk_5, gRk_6, gRk_7, gRk_8, gRk_9, gRk_10]; omega)
      rw [e]
      cases b
      · exact ⟨false, i', l', c, rfl, e1, fun k => by cases k⟩
      · have e3 := e2 rfl
        have e4 := e3.2 (by omega)
        obtain ⟨b2, i2, l2, c2, g, u1, u2⟩ := ih 8 dp i' l' c (by omega) (by omega) (by simp only [gRk_0, gRk_1, gRk_2, gRk_3, gRk_4, gRk_5, gRk_6, gRk_7, gRk_8, gRk_9, gRk_10]; omega)
        exact ⟨b2, i2, l2, c2, g, u1, fun k => by have := u2 k; exact ⟨by omega, fun _ => by omega⟩⟩
    · rw [rdP]
      simp only [gRk_0, gRk_1, gRk_2, gRk_3, gRk_4, gRk_5, gRk_6, gRk_7, gRk_8, gRk_9, gRk_10] at hf
      obtain ⟨b, i', l', c, e, e1, e2⟩ := ih 4 dp i l a (by omega) (by omega) (by simp only [gRk_0, gRk_1, gRk_2, gRk_3, gRk_4, gRk_5, gRk_6, gRk_7, gRk_8, gRk_9, gRk_10]; omega)
      rw [e]
      cases b
      · exact ⟨false, i', l', c, rfl, e1, fun k => by cases k⟩
      · have e3 := e2 rfl
        have e4 := e3.2 (by omega)
        obtain ⟨b2, i2, l2, c2, g, u1, u2⟩ := ih 9 dp i' l' c (by omega) (by omega) (by simp only [gRk_0, gRk_1, gRk_2, gRk_3, gRk_4, gRk_5, gRk_6, gRk_7, gRk_8, gRk_9, gRk_10]; omega)
        exact ⟨b2, i2, l2, c2, g, u1, fun k => by have := u2 k; exact ⟨by omega, fun _ => by omega⟩⟩
    · rw [rdP]
      simp only [gRk_0, gRk_1, gRk_2, gRk_3, gRk_4, gRk_5, gRk_6, gRk_7, gRk_8, gRk_9, gRk_10] at hf
      split
      · rename_i h1
        have : i < nt := by
          rcases h1 with h1 | h1
          · exact lt _ h1 (by decide)
          · exact lt _ h1 (by decide)
        obtain ⟨b, i', l', c, e, e1, e2⟩ := ih 0 dp (i + 1) l a (by omega) (by omega) (by simp only [gRk_0, gRk_1, gRk_2, gRk_3, gRk_4, gRk_5, gRk_6, gRk_7, gRk_8, gRk_9, gRk_10]; omega)
        rw [e]
        cases b
        · exact ⟨false, i', l', c, rfl, e1, fun k => by cases k⟩
        · have e3 := e2 rfl
          obtain ⟨b2, i2, l2, c2, g, u1, u2⟩ := ih 6 dp i' l' (dJ (if cd i = 142 then 9 else 10) a c) (by omega) (by omega) (by simp only [gRk_0, gRk_1, gRk_2, gRk_3, gRk_4, gRk_5, gRk_6, gRk_7, gRk_8, gRk_9, gRk_10]; omega)
          exact ⟨b2, i2, l2, c2, g, u1, fun k => by have := u2 k; exact ⟨by omega, fun _ => by omega⟩⟩
      · exact ⟨true, i, l, a, rfl, hi, fun _ => ⟨by omega, fun k => by omega⟩⟩
    · rw [rdP]
      simp only [gRk_0, gRk_1, gRk_2, gRk_3, gRk_4, gRk_5, gRk_6, gRk_7, gRk_8, gRk_9, gRk_10] at hf
      split
      · rename_i h1
        have : i < nt := by
          rcases h1 with h1 | h1
          · exact lt _ h1 (by decide)
          · exact lt _ h1 (by decide)
        obtain ⟨b, i', l', c, e, e1, e2⟩ := ih 1 dp (i + 1) l a (by omega) (by omega) (by simp only [gRk_0, gRk_1, gRk_2, gRk_3, gRk_4, gRk_5, gRk_6, gRk_7, gRk_8, gRk_9, gRk_10]; omega)
        rw [e]
        cases b
        · exact ⟨false, i', l', c, rfl, e1, fun k => by cases k⟩
        · have e3 := e2 rfl
          obtain ⟨b2, i2, l2, c2, g, u1, u2⟩ := ih 7 dp i' l' (dJ (if cd i = 143 then 7 else 8) a c) (by omega) (by omega) (by simp only [gRk_0, gRk_1, gRk_2, gRk_3, gRk_4, gRk_5, gRk_6, gRk_7, gRk_8, gRk_9, gRk_10]; omega)
          exact ⟨b2, i2, l2, c2, g, u1, fun k => by have := u2 k; exact ⟨by omega, fun _ => by omega⟩⟩
      · exact ⟨true, i, l, a, rfl, hi, fun _ => ⟨by omega, fun k => by omega⟩⟩
    · rw [rdP]
      simp only [gRk_0, gRk_1, gRk_2, gRk_3, gRk_4, gRk_5, gRk_6, gRk_7, gRk_8, gRk_9, gRk_10] at hf
      split
      · rename_i h1
        have : i < nt := lt _ h1 (by decide)
        obtain ⟨b, i', l', c, e, e1, e2⟩ := ih 3 dp (i + 1) l a (by omega) (by omega) (by simp only [gRk_0, gRk_1, gRk_2, gRk_3, gRk_4, gRk_5, gRk_6, gRk_7, gRk_8, gRk_9, gRk_10]; omega)
        rw [e]
        cases b
        · exact ⟨false, i', l', c, rfl, e1, fun k => by cases k⟩
        · have e3 := e2 rfl
          obtain ⟨b2, i2, l2, c2, g, u1, u2⟩ := ih 8 dp i' l' (dA 0 a c) (by omega) (by omega) (by simp only [gRk_0, gRk_1, gRk_2, gRk_3, gRk_4, gRk_5, gRk_6, gRk_7, gRk_8, gRk_9, gRk_10]; omega)
          exact ⟨b2, i2, l2, c2, g, u1, fun k => by have := u2 k; exact ⟨by omega, fun _ => by omega⟩⟩
      · exact ⟨true, i, l, a, rfl, hi, fun _ => ⟨by omega, fun k => by omega⟩⟩
    · rw [rdP]
      simp only [gRk_0, gRk_1, gRk_2, gRk_3, gRk_4, gRk_5, gRk_6, gRk_7, gRk_8, gRk_9, gRk_10] at hf
      split
      · rename_i h1
        have : i < nt := lt _ h1 (by decide)
        obtain ⟨b, i', l', c, e, e1, e2⟩ := ih 4 dp (i + 1) l a (by omega) (by omega) (by simp only [gRk_0, gRk_1, gRk_2, gRk_3, gRk_4, gRk_5, gRk_6, gRk_7, gRk_8, gRk_9, gRk_10]; omega)
        rw [e]
        cases b
        · exact ⟨false, i', l', c, rfl, e1, fun k => by cases k⟩
        · have e3 := e2 rfl
          obtain ⟨b2, i2, l2, c2, g, u1, u2⟩ := ih 9 dp i' l' (dA 1 a c) (by omega) (by omega) (by simp only [gRk_0, gRk_1, gRk_2, gRk_3, gRk_4, gRk_5, gRk_6, gRk_7, gRk_8, gRk_9, gRk_10]; omega)
          exact ⟨b2, i2, l2, c2, g, u1, fun k => by have := u2 k; exact ⟨by omega, fun _ => by omega⟩⟩
      · exact ⟨true, i, l, a, rfl, hi, fun _ => ⟨by omega, fun k => by omega⟩⟩
    · rw [rdP]
      simp only [gRk_0, gRk_1, gRk_2, gRk_3, gRk_4, gRk_5, gRk_6, gRk_7, gRk_8, gRk_9, gRk_10] at hf
      split
      · rename_i h1
        have := lt _ h1 (by decide)
        split
        · exact ⟨false, i, l, a, rfl, hi, fun k => by cases k⟩
        · obtain ⟨b, i', l', c, e, e1, e2⟩ := ih 5 (dp + 1) (i + 1) l a (by omega) (by omega) (by simp only [gRk_0, gRk_1, gRk_2, gRk_3, gRk_4, gRk_5, gRk_6, gRk_7, gRk_8, gRk_9, gRk_10]; omega)
          rw [e]
          cases b
          · exact ⟨false, i', l', c, rfl, e1, fun k => by cases k⟩
          · dsimp only
            have e3 := e2 rfl
            split
            · rename_i h3
              have : i' < nt := Nat.lt_of_not_le fun q => by rw [h i' q] at h3; omega
              exact ⟨true, i' + 1, l', c, rfl, by omega, fun _ => ⟨by omega, fun _ => by omega⟩⟩
            · exact ⟨false, i', l', c, rfl, e1, fun k => by cases k⟩
      · obtain ⟨b, i', l', c, e, e1, e2⟩ := ih 2 dp i l a (by omega) (by omega) (by simp only [gRk_0, gRk_1, gRk_2, gRk_3, gRk_4, gRk_5, gRk_6, gRk_7, gRk_8, gRk_9, gRk_10]; omega)
        rw [e]
        cases b
        · exact ⟨false, i', l', c, rfl, e1, fun k => by cases k⟩
        · dsimp only
          have e3 := e2 rfl
          split
          · rename_i h3
            have : i' < nt := Nat.lt_of_not_le fun q => by rw [h i' q] at h3; omega
            obtain ⟨b2, i2, l2, c2, g, u1, u2⟩ := ih 2 dp (i' + 1) l' c (by omega) (by omega) (by simp only [gRk_0, gRk_1, gRk_2, gRk_3, gRk_4, gRk_5, gRk_6, gRk_7, gRk_8, gRk_9, gRk_10]; omega)
            rw [g]
            cases b2
            · exact ⟨false, i2, l2, c2, rfl, u1, fun k => by cases k⟩
            · have u3 := u2 rfl
              exact ⟨true, i2, l2, _, rfl, u1, fun _ => ⟨by omega, fun _ => by omega⟩⟩
          · exact ⟨false, i', l', c, rfl, e1, fun k => by cases k⟩
