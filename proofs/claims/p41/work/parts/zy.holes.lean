/-! Class and reference: what lies where. -/
/-- the reference's HOLE h is the class's v -/
def rHo (f : Nat → Int) (h : Nat) (v : Nat → Int) : Prop := (∀ j, j < 5 → f (6 * h + j) = v j) ∧ f (6 * h + 5) = v 5 + 1
def bxF (f : Nat → Int) : Prop := gB (f 96) (f 97) (f 98)
theorem rHo_o {f v : Nat → Int} {h : Nat} (hr : rHo f h v) (hv : gH v) : mHo f h := by
  obtain ⟨r1, r2⟩ := hr
  obtain ⟨v1, v2, v3, v4, v5, v6⟩ := hv
  have e0 := r1 0 (by omega)
  have e1 := r1 1 (by omega)
  have e2 := r1 2 (by omega)
  have e3 := r1 3 (by omega)
  have e4 := r1 4 (by omega)
  rw [Nat.add_zero] at e0
  unfold mHo
  rw [e0, e1, e2, e3, e4, r2]
  omega
theorem hc_on {x y z a l u v : Int} : gOn x y z a l u v = if 0 ≤ a ∧ a ≤ 2 ∧ 0 ≤ l ∧ l < gSz x y z a ∧ 0 ≤ u ∧ u < gU x y z a ∧ 0 ≤ v ∧ v < gV x y z a then mHa a.toNat u v l else -1 := by
  unfold gOn gX gY gZ gSz gU gV mHa
  by_cases h0 : a = 0
  · subst h0
    simp only [if_true, Int.toNat_zero, show ¬ ((0 : Int) = 1) from by decide, show ¬ ((0 : Int) = 2) from by decide, if_false]
  · by_cases h1 : a = 1
    · subst h1
      simp only [show ¬ ((1 : Int) = 0) from by decide, show ¬ ((1 : Int) = 2) from by decide, if_true, if_false, show (1 : Int).toNat = 1 from rfl, show ¬ ((1 : Nat) = 0) from by decide]
      split <;> split <;> omega
    · by_cases h2 : a = 2
      · subst h2
        simp only [show ¬ ((2 : Int) = 0) from by decide, show ¬ ((2 : Int) = 1) from by decide, if_true, if_false, show (2 : Int).toNat = 2 from rfl, show ¬ ((2 : Nat) = 0) from by decide, show ¬ ((2 : Nat) = 1) from by decide]
        split <;> split <;> omega
      · rw [if_neg (by omega), if_neg (by omega)]
theorem hc_sz {f : Nat → Int} {a : Nat} (ha : a ≤ 2) : f (96 + a) = gSz (f 96) (f 97) (f 98) (a : Int) := by
  unfold gSz
  match a, ha with
  | 0, _ => rfl
  | 1, _ => rfl
  | 2, _ => rfl
  | a + 3, h => exact absurd h (by omega)
theorem hc_ib {f : Nat → Int} {a u v : Int} : mIb f a u v = gPl (f 96) (f 97) (f 98) a u v := by
  unfold mIb gPl gU gV
  by_cases h0 : a = 0
  · subst h0; rfl
  · by_cases h2 : a = 2
    · subst h2; rfl
    · rw [if_neg h0, if_neg h2, if_neg h0, if_neg h2]
theorem hc_eq {f v : Nat → Int} {h i : Nat} (hr : rHo f h v) (hv : gH v) (hB : bxF f) (hi : i ≤ 6) : mHc f h i = gOf (f 96) (f 97) (f 98) v (i : Int) := by
  obtain ⟨r1, r2⟩ := hr
  obtain ⟨v1, v2, v3, v4, v5, v6⟩ := hv
  have e0 := r1 0 (by omega)
  rw [Nat.add_zero] at e0
  unfold mHc mHl
  rw [e0, r1 1 (by omega), r1 2 (by omega), r1 3 (by omega), r1 4 (by omega), r2, show v 5 + 1 - 1 = v 5 by omega]
  obtain ⟨a, ha⟩ : ∃ a : Nat, v 0 = (a : Int) := ⟨(v 0).toNat, by omega⟩
  rw [ha, Int.toNat_natCast, hc_sz (f := f) (by omega), hc_ib]
  unfold gOf
  rw [hc_on, ha, Int.toNat_natCast]
  generalize (i : Int) * v 5 = p
  unfold gPl
  generalize gSz (f 96) (f 97) (f 98) (a : Int) = sz
  generalize gU (f 96) (f 97) (f 98) (a : Int) = su
  generalize gV (f 96) (f 97) (f 98) (a : Int) = sv
  by_cases hk : (i : Int) < v 4
  · rw [if_pos hk]
    by_cases hb : decide (0 ≤ (a : Int) ∧ (a : Int) ≤ 2 ∧ 0 ≤ v 1 + p ∧ v 1 + p < su ∧ 0 ≤ v 2 ∧ v 2 < sv) = true
    · have hb' := of_decide_eq_true hb
      rw [hb]
      by_cases hs : sz ≤ (i : Int)
      · rw [if_pos (.inr (.inl hs)), if_neg]
        split <;> omega
      · have hn : ¬ (v 4 ≤ (i : Int) ∨ sz ≤ (i : Int) ∨ true = false) := by
          rintro (h | h | h)
          · omega
          · exact hs h
          · exact absurd h (by decide)
        rw [if_neg hn]
        by_cases h3 : v 3 = 0
        · simp only [if_pos h3]
          rw [if_pos (by omega)]
        · simp only [if_neg h3]
          rw [if_pos (by omega)]
    · rw [if_pos (.inr (.inr (Bool.eq_false_iff.mpr hb))), if_neg]
      intro h
      exact hb (decide_eq_true ⟨h.1, h.2.1, h.2.2.2.2.1, h.2.2.2.2.2.1, h.2.2.2.2.2.2.1, h.2.2.2.2.2.2.2⟩)
  · rw [if_neg hk, if_pos (.inl (by omega))]
theorem gOf_mono {x y z : Int} {v : Nat → Int} {i : Nat} (hv : gH v) (hb : gB x y z) (hp : gPl x y z (v 0) (v 1) (v 2) = true) (h : gOf x y z v (i : Int) = -1) : gOf x y z v ((i + 1 : Nat) : Int) = -1 := by
  obtain ⟨v1, v2, v3, v4, v5, v6⟩ := hv
  unfold gPl at hp
  have hp := of_decide_eq_true hp
  unfold gOf at *
  rw [hc_on] at *
  have hi : v 5 = -1 ∨ v 5 = 0 ∨ v 5 = 1 := by omega
  have e1 : ((i + 1 : Nat) : Int) * v 5 = (i : Int) * v 5 + v 5 := by rw [Int.natCast_add, Int.add_mul]; omega
  have e2 : v 5 = -1 → (i : Int) * v 5 = -(i : Int) := fun h => by rw [h]; omega
  have e3 : v 5 = 1 → (i : Int) * v 5 = (i : Int) := fun h => by rw [h]; omega
  have e4 : v 5 = 0 → (i : Int) * v 5 = 0 := fun h => by rw [h]; omega
  rw [e1]
  generalize (i : Int) * v 5 = p at *
  have hsz : 1 ≤ gSz x y z (v 0) := by unfold gSz; obtain ⟨_, _, _⟩ := hb; split; omega; split <;> omega
  generalize gSz x y z (v 0) = sz at *
  generalize gU x y z (v 0) = su at *
  generalize gV x y z (v 0) = sv at *
  have hm : ∀ u w l : Int, 0 ≤ u → 0 ≤ w → 0 ≤ l → mHa (v 0).toNat u w l ≠ -1 := by
    intro u w l h1 h2 h3
    unfold mHa
    split
    · omega
    · split <;> omega
  by_cases hk : ((i + 1 : Nat) : Int) < v 4
  · rw [if_pos hk, if_neg]
    intro hc
    rw [if_pos (by omega)] at h
    by_cases hs : v 3 = 0
    · rw [if_pos hs] at hc h
      rw [if_pos (by omega)] at h
      exact hm _ _ _ (by omega) (by omega) (by omega) h
    · rw [if_neg hs] at hc h
      rw [if_pos (by omega)] at h
      exact hm _ _ _ (by omega) (by omega) (by omega) h
  · rw [if_neg hk]
theorem sN_ge {g : Nat → Bool} {i : Nat} (h : ∀ j, i ≤ j → j < 6 → g j = false) : ∀ k, i ≤ k → k ≤ 6 → sN k g = sN i g := by
  intro k hk
  induction k with
  | zero => intro _; rw [show i = 0 by omega]
  | succ k ih =>
    intro h6
    by_cases e : i = k + 1
    · rw [e]
    · rw [sN_s, h k (by omega) (by omega), ih (by omega) (by omega)]; rfl
theorem gOf_out {x y z : Int} {v : Nat → Int} {i : Nat} (hv : gH v) (hb : gB x y z) (hp : gPl x y z (v 0) (v 1) (v 2) = true) (h : gOf x y z v (i : Int) = -1) : ∀ j, i ≤ j → gOf x y z v (j : Int) = -1 := by
  intro j hj
  induction j with
  | zero => rw [show i = 0 by omega] at h; exact h
  | succ j ih =>
    by_cases e : i = j + 1
    · rw [← e]; exact h
    · exact gOf_mono hv hb hp (ih (by omega))
theorem mSt_h {f v : Nat → Int} {h : Nat} {c : Int} (hr : rHo f h v) (hv : gH v) (hB : bxF f) (hp : gPl (f 96) (f 97) (f 98) (v 0) (v 1) (v 2) = true) (hc : 0 ≤ c) : ∀ k i, k + i = 7 → i ≤ 6 → mSt f h c k i + (sN i (fun k => decide (gOf (f 96) (f 97) (f 98) v (k : Int) = c)) : Int) = (sN 6 (fun k => decide (gOf (f 96) (f 97) (f 98) v (k : Int) = c)) : Int) := by
  intro k
  induction k with
  | zero => intro i h1 h2; omega
  | succ k ih =>
    intro i h1 h2
    rw [mSt]
    by_cases hm : mHc f h i = -1
    · rw [if_pos hm, Int.zero_add]
      rw [hc_eq hr hv hB h2] at hm
      rw [sN_ge (i := i) (fun j hj _ => decide_eq_false (by rw [gOf_out hv hB hp hm j hj]; omega)) 6 h2 (Nat.le_refl _)]
    · rw [if_neg hm]
      have h6 : i < 6 := Nat.lt_of_not_le fun e => hm (mHc_6 (rHo_o hr hv) e)
      have := ih (i + 1) (by omega) (by omega)
      rw [sN_s, Int.natCast_add] at this
      rw [← this]
      rw [← hc_eq hr hv hB h2]
      by_cases e : mHc f h i = c
      · rw [if_pos e, decide_eq_true e, Bool.toNat_true]; omega
      · rw [if_neg e, decide_eq_false e, Bool.toNat_false]; omega
theorem mLn_h {f v : Nat → Int} {h : Nat} (hr : rHo f h v) (hv : gH v) (hB : bxF f) (hp : gPl (f 96) (f 97) (f 98) (v 0) (v 1) (v 2) = true) : ∀ k i : Nat, k + i = 7 → i ≤ 6 → (∀ j : Nat, j < i → gOf (f 96) (f 97) (f 98) v (j : Int) ≠ -1) → mLn f h k i = sN 6 (fun k => decide (gOf (f 96) (f 97) (f 98) v (k : Int) ≠ -1)) := by
  intro k
  induction k with
  | zero => intro i h1 h2; omega
  | succ k ih =>
    intro i h1 h2 hj
    rw [mLn]
    by_cases hm : mHc f h i = -1
    · rw [if_pos hm]
      rw [hc_eq hr hv hB h2] at hm
      rw [sN_ge (i := i) (fun j hj _ => decide_eq_false (fun q => q (gOf_out hv hB hp hm j hj))) 6 h2 (Nat.le_refl _)]
      have : ∀ k, k ≤ i → sN k (fun k => decide (gOf (f 96) (f 97) (f 98) v (k : Int) ≠ -1)) = k := by
        intro k
        induction k with
        | zero => intro _; rfl
        | succ k ihk => intro hk; rw [sN_s, ihk (by omega), decide_eq_true (hj k (by omega))]; rfl
      exact (this i (Nat.le_refl _)).symm
    · rw [if_neg hm]
      have h6 : i < 6 := Nat.lt_of_not_le fun e => hm (mHc_6 (rHo_o hr hv) e)
      refine ih (i + 1) (by omega) (by omega) fun j hj2 => ?_
      by_cases e : j = i
      · subst e; rw [← hc_eq hr hv hB h2]; exact hm
      · exact hj j (by omega)
/-- the HOLES: the reference's of the class's list -/
def rHs (f : Nat → Int) (L : List (Nat → Int)) : Prop := f 292 = (L.length : Int) ∧ L.length ≤ 16 ∧ ∀ r, r < L.length → gH (rL L r) ∧ gPl (f 96) (f 97) (f 98) (rL L r 0) (rL L r 1) (rL L r 2) = true ∧ rHo f r (rL L r)
theorem hP_at {f : Nat → Int} {L : List (Nat → Int)} (hB : bxF f) (h : rHs f L) {c : Int} (hc : 0 ≤ c) : ∀ r, r ≤ L.length → (hP (f 96) (f 97) (f 98) L r c : Int) = mAt f c r := by
  intro r
  induction r with
  | zero => intro _; rfl
  | succ r ih =>
    intro hr
    obtain ⟨h1, h2, h3⟩ := h.2.2 r (by omega)
    have := mSt_h h3 h1 hB h2 hc 7 0 rfl (by omega)
    rw [hP, mAt, ← ih (by omega), Int.natCast_add, ← this]
    simp [sN]
theorem hC_at {f : Nat → Int} {L : List (Nat → Int)} (hB : bxF f) (h : rHs f L) {c : Int} (hc : 0 ≤ c) : (hC (f 96) (f 97) (f 98) L c : Int) = mAt f c L.length := hP_at hB h hc _ (Nat.le_refl _)
