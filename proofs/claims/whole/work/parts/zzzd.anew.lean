/-! Pairs: anew. -/
/-- the kind of a set of sides; the kinds that suit a kind; a set turned -/
def kdT : List Nat := [0, 1, 1, 4, 1, 2, 2, 5, 1, 2, 2, 5, 4, 5, 5, 7, 1, 2, 2, 5, 2, 3, 3, 6, 2, 3, 3, 6, 5, 6, 6, 8, 1, 2, 2, 5, 2, 3, 3, 6, 2, 3, 3, 6, 5, 6, 6, 8, 4, 5, 5, 7, 5, 6, 6, 8, 5, 6, 6, 8, 7, 8, 8, 9]
def psT : List Nat := [1023, 511, 127, 15, 183, 55, 7, 19, 3, 1]
def imT : List (List Nat) := [[0, 0, 0, 0, 0, 0, 0, 0, 0, 0, 0, 0, 0, 0, 0, 0, 0, 0, 0, 0, 0, 0, 0, 0], [4, 8, 16, 32, 4, 8, 16, 32, 1, 2, 16, 32, 1, 2, 16, 32, 1, 2, 4, 8, 1, 2, 4, 8], [8, 4, 32, 16, 8, 4, 32, 16, 2, 1, 32, 16, 2, 1, 32, 16, 2, 1, 8, 4, 2, 1, 8, 4], [12, 12, 48, 48, 12, 12, 48, 48, 3, 3, 48, 48, 3, 3, 48, 48, 3, 3, 12, 12, 3, 3, 12, 12], [16, 32, 8, 4, 32, 16, 4, 8, 32, 16, 1, 2, 16, 32, 2, 1, 4, 8, 2, 1, 8, 4, 1, 2], [20, 40, 24, 36, 36, 24, 20, 40, 33, 18, 17, 34, 17, 34, 18, 33, 5, 10, 6, 9, 9, 6, 5, 10], [24, 36, 40, 20, 40, 20, 36, 24, 34, 17, 33, 18, 18, 33, 34, 17, 6, 9, 10, 5, 10, 5, 9, 6], [28, 44, 56, 52, 44, 28, 52, 56, 35, 19, 49, 50, 19, 35, 50, 49, 7, 11, 14, 13, 11, 7, 13, 14], [32, 16, 4, 8, 16, 32, 8, 4, 16, 32, 2, 1, 32, 16, 1, 2, 8, 4, 1, 2, 4, 8, 2, 1], [36, 24, 20, 40, 20, 40, 24, 36, 17, 34, 18, 33, 33, 18, 17, 34, 9, 6, 5, 10, 5, 10, 6, 9], [40, 20, 36, 24, 24, 36, 40, 20, 18, 33, 34, 17, 34, 17, 33, 18, 10, 5, 9, 6, 6, 9, 10, 5], [44, 28, 52, 56, 28, 44, 56, 52, 19, 35, 50, 49, 35, 19, 49, 50, 11, 7, 13, 14, 7, 11, 14, 13], [48, 48, 12, 12, 48, 48, 12, 12, 48, 48, 3, 3, 48, 48, 3, 3, 12, 12, 3, 3, 12, 12, 3, 3], [52, 56, 28, 44, 52, 56, 28, 44, 49, 50, 19, 35, 49, 50, 19, 35, 13, 14, 7, 11, 13, 14, 7, 11], [56, 52, 44, 28, 56, 52, 44, 28, 50, 49, 35, 19, 50, 49, 35, 19, 14, 13, 11, 7, 14, 13, 11, 7], [60, 60, 60, 60, 60, 60, 60, 60, 51, 51, 51, 51, 51, 51, 51, 51, 15, 15, 15, 15, 15, 15, 15, 15], [1, 1, 1, 1, 2, 2, 2, 2, 4, 4, 4, 4, 8, 8, 8, 8, 16, 16, 16, 16, 32, 32, 32, 32], [5, 9, 17, 33, 6, 10, 18, 34, 5, 6, 20, 36, 9, 10, 24, 40, 17, 18, 20, 24, 33, 34, 36, 40], [9, 5, 33, 17, 10, 6, 34, 18, 6, 5, 36, 20, 10, 9, 40, 24, 18, 17, 24, 20, 34, 33, 40, 36], [13, 13, 49, 49, 14, 14, 50, 50, 7, 7, 52, 52, 11, 11, 56, 56, 19, 19, 28, 28, 35, 35, 44, 44], [17, 33, 9, 5, 34, 18, 6, 10, 36, 20, 5, 6, 24, 40, 10, 9, 20, 24, 18, 17, 40, 36, 33, 34], [21, 41, 25, 37, 38, 26, 22, 42, 37, 22, 21, 38, 25, 42, 26, 41, 21, 26, 22, 25, 41, 38, 37, 42], [25, 37, 41, 21, 42, 22, 38, 26, 38, 21, 37, 22, 26, 41, 42, 25, 22, 25, 26, 21, 42, 37, 41, 38], [29, 45, 57, 53, 46, 30, 54, 58, 39, 23, 53, 54, 27, 43, 58, 57, 23, 27, 30, 29, 43, 39, 45, 46], [33, 17, 5, 9, 18, 34, 10, 6, 20, 36, 6, 5, 40, 24, 9, 10, 24, 20, 17, 18, 36, 40, 34, 33], [37, 25, 21, 41, 22, 42, 26, 38, 21, 38, 22, 37, 41, 26, 25, 42, 25, 22, 21, 26, 37, 42, 38, 41], [41, 21, 37, 25, 26, 38, 42, 22, 22, 37, 38, 21, 42, 25, 41, 26, 26, 21, 25, 22, 38, 41, 42, 37], [45, 29, 53, 57, 30, 46, 58, 54, 23, 39, 54, 53, 43, 27, 57, 58, 27, 23, 29, 30, 39, 43, 46, 45], [49, 49, 13, 13, 50, 50, 14, 14, 52, 52, 7, 7, 56, 56, 11, 11, 28, 28, 19, 19, 44, 44, 35, 35], [53, 57, 29, 45, 54, 58, 30, 46, 53, 54, 23, 39, 57, 58, 27, 43, 29, 30, 23, 27, 45, 46, 39, 43], [57, 53, 45, 29, 58, 54, 46, 30, 54, 53, 39, 23, 58, 57, 43, 27, 30, 29, 27, 23, 46, 45, 43, 39], [61, 61, 61, 61, 62, 62, 62, 62, 55, 55, 55, 55, 59, 59, 59, 59, 31, 31, 31, 31, 47, 47, 47, 47], [2, 2, 2, 2, 1, 1, 1, 1, 8, 8, 8, 8, 4, 4, 4, 4, 32, 32, 32, 32, 16, 16, 16, 16], [6, 10, 18, 34, 5, 9, 17, 33, 9, 10, 24, 40, 5, 6, 20, 36, 33, 34, 36, 40, 17, 18, 20, 24], [10, 6, 34, 18, 9, 5, 33, 17, 10, 9, 40, 24, 6, 5, 36, 20, 34, 33, 40, 36, 18, 17, 24, 20], [14, 14, 50, 50, 13, 13, 49, 49, 11, 11, 56, 56, 7, 7, 52, 52, 35, 35, 44, 44, 19, 19, 28, 28], [18, 34, 10, 6, 33, 17, 5, 9, 40, 24, 9, 10, 20, 36, 6, 5, 36, 40, 34, 33, 24, 20, 17, 18], [22, 42, 26, 38, 37, 25, 21, 41, 41, 26, 25, 42, 21, 38, 22, 37, 37, 42, 38, 41, 25, 22, 21, 26], [26, 38, 42, 22, 41, 21, 37, 25, 42, 25, 41, 26, 22, 37, 38, 21, 38, 41, 42, 37, 26, 21, 25, 22], [30, 46, 58, 54, 45, 29, 53, 57, 43, 27, 57, 58, 23, 39, 54, 53, 39, 43, 46, 45, 27, 23, 29, 30], [34, 18, 6, 10, 17, 33, 9, 5, 24, 40, 10, 9, 36, 20, 5, 6, 40, 36, 33, 34, 20, 24, 18, 17], [38, 26, 22, 42, 21, 41, 25, 37, 25, 42, 26, 41, 37, 22, 21, 38, 41, 38, 37, 42, 21, 26, 22, 25], [42, 22, 38, 26, 25, 37, 41, 21, 26, 41, 42, 25, 38, 21, 37, 22, 42, 37, 41, 38, 22, 25, 26, 21], [46, 30, 54, 58, 29, 45, 57, 53, 27, 43, 58, 57, 39, 23, 53, 54, 43, 39, 45, 46, 23, 27, 30, 29], [50, 50, 14, 14, 49, 49, 13, 13, 56, 56, 11, 11, 52, 52, 7, 7, 44, 44, 35, 35, 28, 28, 19, 19], [54, 58, 30, 46, 53, 57, 29, 45, 57, 58, 27, 43, 53, 54, 23, 39, 45, 46, 39, 43, 29, 30, 23, 27], [58, 54, 46, 30, 57, 53, 45, 29, 58, 57, 43, 27, 54, 53, 39, 23, 46, 45, 43, 39, 30, 29, 27, 23], [62, 62, 62, 62, 61, 61, 61, 61, 59, 59, 59, 59, 55, 55, 55, 55, 47, 47, 47, 47, 31, 31, 31, 31], [3, 3, 3, 3, 3, 3, 3, 3, 12, 12, 12, 12, 12, 12, 12, 12, 48, 48, 48, 48, 48, 48, 48, 48], [7, 11, 19, 35, 7, 11, 19, 35, 13, 14, 28, 44, 13, 14, 28, 44, 49, 50, 52, 56, 49, 50, 52, 56], [11, 7, 35, 19, 11, 7, 35, 19, 14, 13, 44, 28, 14, 13, 44, 28, 50, 49, 56, 52, 50, 49, 56, 52], [15, 15, 51, 51, 15, 15, 51, 51, 15, 15, 60, 60, 15, 15, 60, 60, 51, 51, 60, 60, 51, 51, 60, 60], [19, 35, 11, 7, 35, 19, 7, 11, 44, 28, 13, 14, 28, 44, 14, 13, 52, 56, 50, 49, 56, 52, 49, 50], [23, 43, 27, 39, 39, 27, 23, 43, 45, 30, 29, 46, 29, 46, 30, 45, 53, 58, 54, 57, 57, 54, 53, 58], [27, 39, 43, 23, 43, 23, 39, 27, 46, 29, 45, 30, 30, 45, 46, 29, 54, 57, 58, 53, 58, 53, 57, 54], [31, 47, 59, 55, 47, 31, 55, 59, 47, 31, 61, 62, 31, 47, 62, 61, 55, 59, 62, 61, 59, 55, 61, 62], [35, 19, 7, 11, 19, 35, 11, 7, 28, 44, 14, 13, 44, 28, 13, 14, 56, 52, 49, 50, 52, 56, 50, 49], [39, 27, 23, 43, 23, 43, 27, 39, 29, 46, 30, 45, 45, 30, 29, 46, 57, 54, 53, 58, 53, 58, 54, 57], [43, 23, 39, 27, 27, 39, 43, 23, 30, 45, 46, 29, 46, 29, 45, 30, 58, 53, 57, 54, 54, 57, 58, 53], [47, 31, 55, 59, 31, 47, 59, 55, 31, 47, 62, 61, 47, 31, 61, 62, 59, 55, 61, 62, 55, 59, 62, 61], [51, 51, 15, 15, 51, 51, 15, 15, 60, 60, 15, 15, 60, 60, 15, 15, 60, 60, 51, 51, 60, 60, 51, 51], [55, 59, 31, 47, 55, 59, 31, 47, 61, 62, 31, 47, 61, 62, 31, 47, 61, 62, 55, 59, 61, 62, 55, 59], [59, 55, 47, 31, 59, 55, 47, 31, 62, 61, 47, 31, 62, 61, 47, 31, 62, 61, 59, 55, 62, 61, 59, 55], [63, 63, 63, 63, 63, 63, 63, 63, 63, 63, 63, 63, 63, 63, 63, 63, 63, 63, 63, 63, 63, 63, 63, 63]]
theorem kd_e : ∀ r, r < 64 → fKd r = ((kdT.getD r 0 : Nat) : Int) := by decide +kernel
theorem ps_e : ∀ k, k < 10 → fPs (kT k) (kO k) = psT.getD k 0 := by decide +kernel
theorem im_e : ∀ r, r < 64 → (List.range 24).map (fun t => tsF r t 6) = imT.getD r [] := by decide +kernel
theorem su_e : ∀ r, r < 64 → ∀ o, o < 64 → (imT.getD r []).any (fun i => decide (i &&& o = 0)) = (psT.getD (kdT.getD r 0) 0).testBit (kdT.getD o 0) := by decide +kernel
theorem kd_lt : ∀ r, r < 64 → kdT.getD r 0 < 10 := by decide +kernel
theorem kd_ex : ∀ k, k < 10 → ∃ r, r < 64 ∧ kdT.getD r 0 = k := by decide +kernel
theorem ftB_a {r o : Nat} : ∀ n, ftB r o n = ((List.range n).map (fun t => tsF r t 6)).any (fun i => decide (i &&& o = 0))
  | 0 => rfl
  | n + 1 => by rw [ftB, ftB_a n, List.range_succ, List.map_append, List.any_append]; simp
/-- what fits: by kinds -/
theorem ft_k {r o : Nat} (hr : r < 64) (ho : o < 64) : ftB r o 24 = (psT.getD (kdT.getD r 0) 0).testBit (kdT.getD o 0) := by
  rw [ftB_a, im_e r hr, su_e r hr o ho]
/-- counts of cells by number -/
theorem sU_p {g : Nat → Bool} {n e : Nat} (he : e < n) : sU n (fun r => if g r = true then (if e = r then (1 : Int) else 0) else 0) = if g e = true then 1 else 0 := by
  have h1 : ∀ k, e < k → sU k (fun r => if g r = true then (if e = r then (1 : Int) else 0) else 0) = if g e = true then 1 else 0 := fun k => by
    induction k with
    | zero => intro h; exact absurd h (by omega)
    | succ k ih =>
      intro h
      rw [sU]
      by_cases ek : e = k
      · subst ek
        rw [sU_z e fun i hi => by rw [if_neg (show ¬ e = i by omega), ite_self], if_pos rfl, Int.zero_add]
      · rw [ih (by omega), if_neg ek, ite_self, Int.add_zero]
  exact h1 n he
theorem cnt_e {g : Nat → Bool} {n : Nat} {q : Nat → Bool} {e : Nat → Nat} : ∀ m, (∀ c, c < m → q c = true → e c < n) → sU n (fun r => if g r = true then ((sN m (fun c => q c && decide (e c = r)) : Nat) : Int) else 0) = ((sN m (fun c => q c && g (e c)) : Nat) : Int)
  | 0, _ => sU_z n fun i _ => by
    show (if g i = true then ((0 : Nat) : Int) else 0) = 0
    exact ite_self _
  | m + 1, h => by
    have ih := cnt_e (g := g) m fun c hc => h c (by omega)
    rw [sN_s]
    cases hq : q m
    · rw [Bool.false_and, Bool.toNat_false]
      refine Eq.trans ?_ ih
      refine sU_c n fun r _ => ?_
      rw [sN_s, hq, Bool.false_and, Bool.toNat_false, Nat.add_zero]
    · rw [Bool.true_and]
      have hd := sU_p (g := g) (h m (by omega) hq)
      have : sU n (fun r => if g r = true then ((sN (m + 1) (fun c => q c && decide (e c = r)) : Nat) : Int) else 0) = sU n (fun r => (if g r = true then ((sN m (fun c => q c && decide (e c = r)) : Nat) : Int) else 0) + (if g r = true then (if e m = r then (1 : Int) else 0) else 0)) := sU_c n fun r _ => by
        rw [sN_s, hq, Bool.true_and]
        by_cases h1 : g r = true
        · rw [if_pos h1, if_pos h1, if_pos h1]
          by_cases h2 : e m = r
          · rw [decide_eq_true h2, if_pos h2]; rfl
          · rw [decide_eq_false h2, if_neg h2]; rfl
        · rw [if_neg h1, if_neg h1, if_neg h1]; rfl
      rw [this, sU_a, ih, hd]
      cases g (e m)
      · rw [if_neg (by decide)]; rfl
      · rw [if_pos rfl]; rfl
section
variable {q : Nat → Bool} {rc pc : Nat → Nat}
/-- a cut's value: cells by their sides -/
theorem cut_e {S0 D0 : Nat → Int} (hS : ∀ r, S0 r = ((sN 216 (fun c => q c && decide (rc c = r)) : Nat) : Int)) (hD : ∀ p, D0 p = ((sN 216 (fun c => q c && decide (pc c = p)) : Nat) : Int)) (hr : ∀ c, c < 216 → q c = true → rc c < 64) (hp : ∀ c, c < 216 → q c = true → pc c < 64) (R : Nat → Bool) : cutF S0 D0 R = ((sN 216 (fun c => q c && ! R (rc c)) + sN 216 (fun c => q c && N0 R (pc c)) : Nat) : Int) := by
  have h1 := cnt_e (g := fun r => ! R r) (n := 64) 216 hr
  have h2 := cnt_e (g := N0 R) (n := 64) 216 hp
  unfold cutF
  rw [Int.natCast_add, ← h1, ← h2]
  congr 1
  · refine sU_c 64 fun r _ => ?_
    rw [hS]
    cases R r <;> rfl
  · exact sU_c 64 fun p _ => by rw [hD]
theorem fBn_e {ck : Nat → Nat} {set : Nat} : ∀ n, ((fBn ck set n : Nat) : Int) = sU n (fun k => if (! set.testBit k) = true then ((ck k : Nat) : Int) else 0)
  | 0 => rfl
  | n + 1 => by
    rw [fBn, sU, ← fBn_e n]
    cases set.testBit n
    · rw [if_neg (by decide), if_pos (show (!false) = true from rfl), Int.natCast_add]
    · rw [if_pos rfl, if_neg (show ¬ (!true) = true by decide), Int.add_zero]
theorem fPn_e {pk : Nat → Nat} {re : Nat} : ∀ n, ((fPn pk re n : Nat) : Int) = sU n (fun k => if re.testBit k = true then ((pk k : Nat) : Int) else 0)
  | 0 => rfl
  | n + 1 => by
    rw [fPn, sU, ← fPn_e n, Int.natCast_add]
    cases re.testBit n
    · rw [if_neg (by decide), if_neg (by decide)]; rfl
    · rw [if_pos rfl, if_pos rfl]
theorem fRk_t {ps : Nat → Nat} {set j : Nat} : ∀ n, (fRk ps set n).testBit j = true ↔ ∃ k, k < n ∧ set.testBit k = true ∧ (ps k).testBit j = true
  | 0 => by
    rw [fRk, Nat.zero_testBit]
    exact ⟨fun h => (by cases h), fun ⟨k, hk, _⟩ => absurd hk (by omega)⟩
  | n + 1 => by
    have ih := fRk_t (ps := ps) (set := set) (j := j) n
    rw [fRk]
    by_cases e : set.testBit n = true
    · rw [if_pos e, Nat.testBit_or, Bool.or_eq_true, ih]
      constructor
      · rintro (⟨k, h1, h2⟩ | h)
        · exact ⟨k, by omega, h2⟩
        · exact ⟨n, by omega, e, h⟩
      · rintro ⟨k, h1, h2, h3⟩
        by_cases ek : k = n
        · subst ek; exact .inr h3
        · exact .inl ⟨k, by omega, h2, h3⟩
    · rw [if_neg e, ih]
      constructor
      · rintro ⟨k, h1, h2⟩; exact ⟨k, by omega, h2⟩
      · rintro ⟨k, h1, h2, h3⟩
        by_cases ek : k = n
        · subst ek; exact absurd h2 e
        · exact ⟨k, by omega, h2, h3⟩
/-- a bound by kinds is a cut -/
theorem bnd_e {ck pk : Nat → Nat} (hc : ∀ k, ck k = sN 216 (fun c => q c && decide (kdT.getD (rc c) 0 = k))) (hk : ∀ k, pk k = sN 216 (fun c => q c && decide (kdT.getD (pc c) 0 = k))) (hr : ∀ c, c < 216 → q c = true → rc c < 64) (hp : ∀ c, c < 216 → q c = true → pc c < 64) (K : Nat) : fBn ck K 10 + fPn pk (fRk (fun k => fPs (kT k) (kO k)) K 10) 10 = sN 216 (fun c => q c && ! K.testBit (kdT.getD (rc c) 0)) + sN 216 (fun c => q c && N0 (fun r => K.testBit (kdT.getD r 0)) (pc c)) := by
  have h1 := cnt_e (g := fun k => ! K.testBit k) (n := 10) (q := q) (e := fun c => kdT.getD (rc c) 0) 216 fun c hc h => kd_lt _ (hr c hc h)
  have h2 := cnt_e (g := fun k => (fRk (fun k => fPs (kT k) (kO k)) K 10).testBit k) (n := 10) (q := q) (e := fun c => kdT.getD (pc c) 0) 216 fun c hc h => kd_lt _ (hp c hc h)
  have e1 : ((fBn ck K 10 : Nat) : Int) = ((sN 216 (fun c => q c && ! K.testBit (kdT.getD (rc c) 0)) : Nat) : Int) := by
    rw [fBn_e, ← h1]
    exact sU_c 10 fun k _ => by rw [hc]
  have e2 : ((fPn pk (fRk (fun k => fPs (kT k) (kO k)) K 10) 10 : Nat) : Int) = ((sN 216 (fun c => q c && (fRk (fun k => fPs (kT k) (kO k)) K 10).testBit (kdT.getD (pc c) 0)) : Nat) : Int) := by
    rw [fPn_e, ← h2]
    exact sU_c 10 fun k _ => by rw [hk]
  have e3 : sN 216 (fun c => q c && (fRk (fun k => fPs (kT k) (kO k)) K 10).testBit (kdT.getD (pc c) 0)) = sN 216 (fun c => q c && N0 (fun r => K.testBit (kdT.getD r 0)) (pc c)) := sN_c fun c hcc => by
    cases hq : q c
    · rfl
    · rw [Bool.true_and, Bool.true_and]
      have hpc := hp c hcc hq
      have : (fRk (fun k => fPs (kT k) (kO k)) K 10).testBit (kdT.getD (pc c) 0) = true ↔ N0 (fun r => K.testBit (kdT.getD r 0)) (pc c) = true := by
        rw [fRk_t, N0_t]
        constructor
        · rintro ⟨k, k1, k2, k3⟩
          obtain ⟨r, r1, r2⟩ := kd_ex k k1
          rw [ps_e k k1] at k3
          exact ⟨r, r1, by rw [r2]; exact k2, by rw [ft_k r1 hpc, r2]; exact k3⟩
        · rintro ⟨r, r1, r2, r3⟩
          rw [ft_k r1 hpc] at r3
          exact ⟨_, kd_lt r r1, r2, by rw [ps_e _ (kd_lt r r1)]; exact r3⟩
      cases e : N0 (fun r => K.testBit (kdT.getD r 0)) (pc c)
      · cases e' : (fRk (fun k => fPs (kT k) (kO k)) K 10).testBit (kdT.getD (pc c) 0)
        · rfl
        · rw [this.mp e'] at e; cases e
      · exact this.mpr e
  omega
theorem fLs_le {ps ck pk : Nat → Nat} : ∀ n, fLs ps ck pk n ≤ 216 ∧ (∀ K, K < n → fLs ps ck pk n ≤ fBn ck K 10 + fPn pk (fRk ps K 10) 10) ∧ (fLs ps ck pk n = 216 ∨ ∃ K, K < n ∧ fLs ps ck pk n = fBn ck K 10 + fPn pk (fRk ps K 10) 10)
  | 0 => ⟨Nat.le_refl _, fun K h => absurd h (by omega), .inl rfl⟩
  | n + 1 => by
    obtain ⟨h1, h2, h3⟩ := fLs_le (ps := ps) (ck := ck) (pk := pk) n
    rw [fLs]
    refine ⟨by omega, fun K hK => ?_, ?_⟩
    · by_cases e : K = n
      · subst e; omega
      · have := h2 K (by omega); omega
    · by_cases e : fLs ps ck pk n ≤ fBn ck n 10 + fPn pk (fRk ps n 10) 10
      · rw [Nat.min_eq_left e]
        rcases h3 with h | ⟨K, k1, k2⟩
        · exact .inl h
        · exact .inr ⟨K, by omega, k2⟩
      · rw [Nat.min_eq_right (by omega)]
        exact .inr ⟨n, by omega, rfl⟩
/-- the least bound is the least cut -/
theorem anw_e {S0 D0 : Nat → Int} {ck pk : Nat → Nat} {n : Int} (hS : ∀ r, S0 r = ((sN 216 (fun c => q c && decide (rc c = r)) : Nat) : Int)) (hD : ∀ p, D0 p = ((sN 216 (fun c => q c && decide (pc c = p)) : Nat) : Int)) (hc : ∀ k, ck k = sN 216 (fun c => q c && decide (kdT.getD (rc c) 0 = k))) (hk : ∀ k, pk k = sN 216 (fun c => q c && decide (kdT.getD (pc c) 0 = k))) (hr : ∀ c, c < 216 → q c = true → rc c < 64) (hp : ∀ c, c < 216 → q c = true → pc c < 64) (hn : anR2 S0 D0 n) : ((fLs (fun k => fPs (kT k) (kO k)) ck pk 1024 : Nat) : Int) = n := by
  obtain ⟨⟨R, hR⟩, hmin⟩ := hn
  obtain ⟨l1, l2, l3⟩ := fLs_le (ps := fun k => fPs (kT k) (kO k)) (ck := ck) (pk := pk) 1024
  have hK : ∀ K, ((fBn ck K 10 + fPn pk (fRk (fun k => fPs (kT k) (kO k)) K 10) 10 : Nat) : Int) = cutF S0 D0 (fun r => K.testBit (kdT.getD r 0)) := fun K => by
    rw [bnd_e hc hk hr hp, cut_e hS hD hr hp]
  have lo : n ≤ ((fLs (fun k => fPs (kT k) (kO k)) ck pk 1024 : Nat) : Int) := by
    rcases l3 with h | ⟨K, -, h⟩
    · rw [h]
      have h1 := hmin (fun _ => false)
      rw [cut_e hS hD hr hp] at h1
      have h1 : n ≤ ((sN 216 (fun c => q c && ! false) + sN 216 (fun c => q c && N0 (fun _ => false) (pc c)) : Nat) : Int) := h1
      have h2 := sN_le 216 (fun c => q c && ! false)
      have h3 : sN 216 (fun c => q c && N0 (fun _ => false) (pc c)) = 0 := sN_0.mpr fun c _ => by
        have : N0 (fun _ => false) (pc c) = false := by
          cases e : N0 (fun _ => false) (pc c)
          · rfl
          · obtain ⟨r, -, r2, -⟩ := N0_t.mp e
            cases r2
        rw [this, Bool.and_false]
      omega
    · rw [h, hK]; exact hmin _
  have hi : ((fLs (fun k => fPs (kT k) (kO k)) ck pk 1024 : Nat) : Int) ≤ n := by
    have hb := bN_lt 10 (fun k => (List.range 64).any (fun r => R r && decide (kdT.getD r 0 = k)))
    have ht : ∀ k, k < 10 → ((bN 10 (fun k => (List.range 64).any (fun r => R r && decide (kdT.getD r 0 = k)))).testBit k = true ↔ ∃ r, r < 64 ∧ R r = true ∧ kdT.getD r 0 = k) := fun k hk => by
      rw [bN_tb, decide_eq_true hk, Bool.true_and, List.any_eq_true]
      constructor
      · rintro ⟨r, r1, r2⟩
        rw [Bool.and_eq_true, decide_eq_true_eq] at r2
        exact ⟨r, List.mem_range.mp r1, r2.1, r2.2⟩
      · rintro ⟨r, r1, r2, r3⟩
        exact ⟨r, List.mem_range.mpr r1, by rw [r2, decide_eq_true r3]; rfl⟩
    generalize bN 10 (fun k => (List.range 64).any (fun r => R r && decide (kdT.getD r 0 = k))) = K at *
    have h1 := l2 K (by omega)
    have h2 : ((fBn ck K 10 + fPn pk (fRk (fun k => fPs (kT k) (kO k)) K 10) 10 : Nat) : Int) ≤ n := by
      rw [bnd_e hc hk hr hp, hR, cut_e hS hD hr hp]
      have m1 := @sN_mono 216 (fun c => q c && ! K.testBit (kdT.getD (rc c) 0)) (fun c => q c && ! R (rc c)) fun c hcc h => by
        rw [Bool.and_eq_true, Bool.not_eq_true'] at h ⊢
        refine ⟨h.1, ?_⟩
        cases e : R (rc c)
        · rfl
        · have hrc := hr c hcc h.1
          rw [(ht _ (kd_lt _ hrc)).mpr ⟨_, hrc, e, rfl⟩] at h
          cases h.2
      have m2 := @sN_mono 216 (fun c => q c && N0 (fun r => K.testBit (kdT.getD r 0)) (pc c)) (fun c => q c && N0 R (pc c)) fun c hcc h => by
        rw [Bool.and_eq_true] at h ⊢
        refine ⟨h.1, ?_⟩
        have hpc := hp c hcc h.1
        obtain ⟨r, r1, r2, r3⟩ := N0_t.mp h.2
        obtain ⟨r', q1, q2, q3⟩ := (ht _ (kd_lt r r1)).mp r2
        exact N0_t.mpr ⟨r', q1, q2, by rw [ft_k q1 hpc, q3, ← ft_k r1 hpc]; exact r3⟩
      omega
    omega
  omega
end
