/-! Flows from cells by red sides to places by outside ones: no more than any cut. -/
def sU : Nat → (Nat → Int) → Int
  | 0, _ => 0
  | k + 1, f => sU k f + f k
theorem sU_c {f g : Nat → Int} : ∀ k : Nat, (∀ i, i < k → f i = g i) → sU k f = sU k g
  | 0, _ => rfl
  | k + 1, h => by rw [sU, sU, sU_c k fun i hi => h i (by omega), h k (by omega)]
theorem sU_le {f g : Nat → Int} : ∀ k : Nat, (∀ i, i < k → f i ≤ g i) → sU k f ≤ sU k g
  | 0, _ => Int.le_refl _
  | k + 1, h => by
    have h1 := sU_le k fun i hi => h i (by omega)
    have h2 := h k (by omega)
    rw [sU, sU]; omega
theorem sU_z {f : Nat → Int} (k : Nat) (h : ∀ i, i < k → f i = 0) : sU k f = 0 := by
  induction k with
  | zero => rfl
  | succ k ih => rw [sU, ih fun i hi => h i (by omega), h k (by omega)]; rfl
theorem sU_0 {f : Nat → Int} (k : Nat) (h : ∀ i, i < k → 0 ≤ f i) : 0 ≤ sU k f := by
  have := sU_le (f := fun _ => 0) (g := f) k h
  rw [sU_z k fun _ _ => rfl] at this
  exact this
theorem sU_a {f g : Nat → Int} : ∀ k : Nat, sU k (fun i => f i + g i) = sU k f + sU k g
  | 0 => rfl
  | k + 1 => by rw [sU, sU, sU, sU_a k]; omega
theorem sU_w {f : Nat → Nat → Int} (m : Nat) : ∀ k : Nat, sU k (fun i => sU m (fun j => f i j)) = sU m (fun j => sU k (fun i => f i j))
  | 0 => (sU_z m fun _ _ => rfl).symm
  | k + 1 => by
    rw [sU, sU_w m k, ← sU_a]
    exact sU_c m fun i _ => by rw [sU]
theorem sU_u {f : Nat → Int} {j : Nat} {x : Int} : ∀ k : Nat, sU k (vi_u f j x) = sU k f + (if j < k then x - f j else 0)
  | 0 => by rw [sU, sU, if_neg (by omega)]; rfl
  | k + 1 => by
    rw [sU, sU, sU_u k]
    by_cases e : j = k
    · subst e
      rw [vi_u_s, if_neg (by omega), if_pos (by omega)]; omega
    · rw [vi_u_o (fun h => e h.symm)]
      by_cases h : j < k
      · rw [if_pos h, if_pos (by omega)]; omega
      · rw [if_neg h, if_neg (by omega)]; omega
theorem row_u {fl : Nat → Int} {a b r : Nat} {x : Int} (ha : a < 64) (hb : b < 64) (hr : r < 64) : sU 64 (fun p => vi_u fl (64 * a + b) x (64 * r + p)) = sU 64 (fun p => fl (64 * r + p)) + (if r = a then x - fl (64 * a + b) else 0) := by
  by_cases e : r = a
  · subst e
    rw [if_pos rfl, sU_c (g := vi_u (fun p => fl (64 * r + p)) b x) 64 fun i hi => by
      by_cases h : i = b
      · rw [h, vi_u_s, vi_u_s]
      · rw [vi_u_o h, vi_u_o (by omega)], sU_u, if_pos hb]
  · rw [if_neg e, Int.add_zero]
    exact sU_c 64 fun i hi => vi_u_o (by omega)
theorem col_u {fl : Nat → Int} {a b p : Nat} {x : Int} (ha : a < 64) (hb : b < 64) (hp : p < 64) : sU 64 (fun r => vi_u fl (64 * a + b) x (64 * r + p)) = sU 64 (fun r => fl (64 * r + p)) + (if p = b then x - fl (64 * a + b) else 0) := by
  by_cases e : p = b
  · subst e
    rw [if_pos rfl, sU_c (g := vi_u (fun r => fl (64 * r + p)) a x) 64 fun i hi => by
      by_cases h : i = a
      · rw [h, vi_u_s, vi_u_s]
      · rw [vi_u_o h, vi_u_o (by omega)], sU_u, if_pos ha]
  · rw [if_neg e, Int.add_zero]
    exact sU_c 64 fun i hi => vi_u_o (by omega)
/-- a flow, with one too much at node a (128: none) -/
def FX (S0 D0 : Nat → Int) (a : Nat) (s d fl : Nat → Int) : Prop :=
  (∀ r, r < 64 → 0 ≤ s r) ∧ (∀ p, p < 64 → 0 ≤ d p) ∧ (∀ r p, r < 64 → p < 64 → 0 ≤ fl (64 * r + p) ∧ (0 < fl (64 * r + p) → ftB r p 24 = true)) ∧
  (∀ r, r < 64 → s r + sU 64 (fun p => fl (64 * r + p)) = S0 r + (if r = a then 1 else 0)) ∧ (∀ p, p < 64 → d p + sU 64 (fun r => fl (64 * r + p)) = D0 p - (if 64 + p = a then 1 else 0))
theorem FX_0 {S0 D0 s d fl : Nat → Int} (h : FX S0 D0 128 s d fl) {p : Nat} (hp : p < 64) (hd : 0 < d p) : FX S0 D0 (64 + p) s (vi_u d p (d p - 1)) fl := by
  obtain ⟨h1, h2, h3, h4, h5⟩ := h
  refine ⟨h1, fun q hq => ?_, h3, fun r hr => ?_, fun q hq => ?_⟩
  · by_cases e : q = p
    · rw [e, vi_u_s]; omega
    · rw [vi_u_o e]; exact h2 q hq
  · have := h4 r hr
    rw [if_neg (by omega)] at this
    rw [if_neg (by omega)]; exact this
  · have := h5 q hq
    rw [if_neg (by omega)] at this
    by_cases e : q = p
    · subst e
      rw [vi_u_s, if_pos rfl]; omega
    · rw [vi_u_o e, if_neg (by omega)]; exact this
theorem FX_p {S0 D0 s d fl : Nat → Int} {p u : Nat} (h : FX S0 D0 (64 + p) s d fl) (hp : p < 64) (hu : u < 64) (hf : ftB u p 24 = true) : FX S0 D0 u s d (vi_u fl (64 * u + p) (fl (64 * u + p) + 1)) := by
  obtain ⟨h1, h2, h3, h4, h5⟩ := h
  refine ⟨h1, h2, fun r q hr hq => ?_, fun r hr => ?_, fun q hq => ?_⟩
  · have h6 := h3 r q hr hq
    by_cases e : 64 * r + q = 64 * u + p
    · rw [e, vi_u_s]
      obtain rfl : r = u := by omega
      obtain rfl : q = p := by omega
      exact ⟨by omega, fun _ => hf⟩
    · rw [vi_u_o e]; exact h6
  · have := h4 r hr
    rw [if_neg (by omega)] at this
    rw [row_u hu hp hr]
    by_cases e : r = u
    · rw [if_pos e, if_pos e]; omega
    · rw [if_neg e, if_neg e]; omega
  · have := h5 q hq
    rw [col_u hu hp hq, if_neg (show ¬ 64 + q = u by omega)]
    by_cases e : q = p
    · rw [if_pos (by omega)] at this
      rw [if_pos e]; omega
    · rw [if_neg (by omega)] at this
      rw [if_neg e]; omega
theorem FX_r {S0 D0 s d fl : Nat → Int} {p a : Nat} (h : FX S0 D0 a s d fl) (hp : p < 64) (ha : a < 64) (hf : 0 < fl (64 * a + p)) : FX S0 D0 (64 + p) s d (vi_u fl (64 * a + p) (fl (64 * a + p) - 1)) := by
  obtain ⟨h1, h2, h3, h4, h5⟩ := h
  refine ⟨h1, h2, fun r q hr hq => ?_, fun r hr => ?_, fun q hq => ?_⟩
  · have h6 := h3 r q hr hq
    by_cases e : 64 * r + q = 64 * a + p
    · rw [e, vi_u_s]
      obtain rfl : r = a := by omega
      obtain rfl : q = p := by omega
      exact ⟨by omega, fun _ => h6.2 hf⟩
    · rw [vi_u_o e]; exact h6
  · have := h4 r hr
    rw [row_u ha hp hr, if_neg (show ¬ r = 64 + p by omega)]
    by_cases e : r = a
    · rw [if_pos e] at this
      rw [if_pos e]; omega
    · rw [if_neg e] at this
      rw [if_neg e]; omega
  · have := h5 q hq
    rw [if_neg (by omega)] at this
    rw [col_u ha hp hq]
    by_cases e : q = p
    · rw [if_pos e, if_pos (by omega)]; omega
    · rw [if_neg e, if_neg (by omega)]; omega
theorem FX_e {S0 D0 s d fl : Nat → Int} {a : Nat} (h : FX S0 D0 a s d fl) (ha : a < 64) (hs : 0 < s a) : FX S0 D0 128 (vi_u s a (s a - 1)) d fl := by
  obtain ⟨h1, h2, h3, h4, h5⟩ := h
  refine ⟨fun r hr => ?_, h2, h3, fun r hr => ?_, fun q hq => ?_⟩
  · by_cases e : r = a
    · rw [e, vi_u_s]; omega
    · rw [vi_u_o e]; exact h1 r hr
  · have := h4 r hr
    rw [if_neg (by omega)]
    by_cases e : r = a
    · subst e
      rw [if_pos rfl] at this
      rw [vi_u_s]; omega
    · rw [if_neg e] at this
      rw [vi_u_o e]; exact this
  · have := h5 q hq
    rw [if_neg (by omega)] at this
    rw [if_neg (by omega)]; exact this
def tot (fl : Nat → Int) : Int := sU 64 (fun r => sU 64 (fun p => fl (64 * r + p)))
def N0 (R : Nat → Bool) (p : Nat) : Bool := (List.range 64).any (fun r => R r && ftB r p 24)
def cutF (S0 D0 : Nat → Int) (R : Nat → Bool) : Int := sU 64 (fun r => if R r = true then 0 else S0 r) + sU 64 (fun p => if N0 R p = true then D0 p else 0)
theorem N0_t {R : Nat → Bool} {p : Nat} : N0 R p = true ↔ ∃ r, r < 64 ∧ R r = true ∧ ftB r p 24 = true := by
  unfold N0
  rw [List.any_eq_true]
  constructor
  · rintro ⟨r, h1, h2⟩
    rw [List.mem_range] at h1
    rw [Bool.and_eq_true] at h2
    exact ⟨r, h1, h2⟩
  · rintro ⟨r, h1, h2, h3⟩
    exact ⟨r, List.mem_range.mpr h1, by rw [h2, h3]; rfl⟩
theorem tot_s {fl : Nat → Int} (R : Nat → Bool) : tot fl = sU 64 (fun r => if R r = true then 0 else sU 64 (fun p => fl (64 * r + p))) + sU 64 (fun p => sU 64 (fun r => if R r = true then fl (64 * r + p) else 0)) := by
  rw [← sU_w (f := fun r p => if R r = true then fl (64 * r + p) else 0) 64 64, ← sU_a]
  unfold tot
  refine sU_c 64 fun r _ => ?_
  cases hR : R r
  · simp only [if_neg (show ¬ false = true by simp)]
    rw [sU_z 64 fun _ _ => rfl]; omega
  · simp only [if_pos]
    omega
theorem FX_le {S0 D0 s d fl : Nat → Int} (h : FX S0 D0 128 s d fl) (R : Nat → Bool) : tot fl ≤ cutF S0 D0 R := by
  obtain ⟨h1, h2, h3, h4, h5⟩ := h
  rw [tot_s R]
  unfold cutF
  have a1 := sU_le (f := fun r => if R r = true then 0 else sU 64 (fun p => fl (64 * r + p))) (g := fun r => if R r = true then 0 else S0 r) 64 fun r hr => by
    try dsimp only
    split
    · omega
    · have := h4 r hr
      have := h1 r hr
      rw [if_neg (by omega)] at *
      omega
  have a2 := sU_le (f := fun p => sU 64 (fun r => if R r = true then fl (64 * r + p) else 0)) (g := fun p => if N0 R p = true then D0 p else 0) 64 fun p hp => by
    try dsimp only
    split
    · have h6 := h5 p hp
      have h7 := h2 p hp
      rw [if_neg (by omega)] at h6
      have h8 := sU_le (f := fun r => if R r = true then fl (64 * r + p) else 0) (g := fun r => fl (64 * r + p)) 64 fun r hr => by
        try dsimp only
        have := (h3 r p hr hp).1
        split <;> omega
      omega
    · rename_i hn
      rw [sU_z 64 fun r hr => by
        try dsimp only
        split
        · rename_i hR
          have h6 := h3 r p hr hp
          have : ¬ 0 < fl (64 * r + p) := fun k => hn (N0_t.mpr ⟨r, hr, hR, h6.2 k⟩)
          omega
        · rfl]
      exact Int.le_refl _
  omega
theorem FX_eq {S0 D0 s d fl : Nat → Int} (h : FX S0 D0 128 s d fl) {R P : Nat → Bool} (c1 : ∀ r, r < 64 → R r = false → s r = 0) (c2 : ∀ r p, r < 64 → p < 64 → R r = true → ftB r p 24 = true → P p = true) (c3 : ∀ p, p < 64 → P p = true → d p = 0) (c4 : ∀ r p, r < 64 → p < 64 → P p = true → 0 < fl (64 * r + p) → R r = true) : tot fl = cutF S0 D0 R := by
  have hle := FX_le h R
  obtain ⟨h1, h2, h3, h4, h5⟩ := h
  have hge : cutF S0 D0 R ≤ tot fl := by
    rw [tot_s R]
    unfold cutF
    have a1 := sU_le (f := fun r => if R r = true then 0 else S0 r) (g := fun r => if R r = true then 0 else sU 64 (fun p => fl (64 * r + p))) 64 fun r hr => by
      try dsimp only
      split
      · omega
      · rename_i hR
        have h6 := h4 r hr
        have h7 := c1 r hr (by simpa using hR)
        rw [if_neg (by omega)] at h6
        omega
    have a2 := sU_le (f := fun p => if N0 R p = true then D0 p else 0) (g := fun p => sU 64 (fun r => if R r = true then fl (64 * r + p) else 0)) 64 fun p hp => by
      try dsimp only
      split
      · rename_i hN
        obtain ⟨r0, r1, r2, r3⟩ := N0_t.mp hN
        have hP := c2 r0 p r1 hp r2 r3
        have h6 := h5 p hp
        have h7 := c3 p hp hP
        rw [if_neg (by omega)] at h6
        rw [sU_c (g := fun r => fl (64 * r + p)) 64 fun r hr => by
          split
          · rfl
          · rename_i hR
            have h8 := (h3 r p hr hp).1
            have : ¬ 0 < fl (64 * r + p) := fun k => hR (c4 r p hr hp hP k)
            omega]
        omega
      · refine sU_0 64 fun r hr => ?_
        have := (h3 r p hr hp).1
        split <;> omega
    omega
  omega
/-- what flows is what is gone from the supply -/
theorem FX_t {S0 D0 s d fl : Nat → Int} (h : FX S0 D0 128 s d fl) : sU 64 s + tot fl = sU 64 S0 := by
  obtain ⟨-, -, -, h4, -⟩ := h
  unfold tot
  rw [← sU_a]
  refine sU_c 64 fun r hr => ?_
  have := h4 r hr
  rw [if_neg (by omega)] at this
  omega
/-- the answer of anew: a cut, and no more than any -/
def anR2 (S0 D0 : Nat → Int) (n : Int) : Prop := (∃ R, n = cutF S0 D0 R) ∧ ∀ R, n ≤ cutF S0 D0 R
