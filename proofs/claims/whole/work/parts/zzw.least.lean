/-! Pairs: the LEAST. -/
theorem jn_le {b o : Nat → Int} {l : Nat} {m : Int} : ∀ N j : Nat, jn b l o N j ≤ m ↔ (o j ≤ m ∨ ∃ k : Nat, k < N ∧ k ||| l = j ∧ b k + (bC l : Int) ≤ m)
  | 0, j => by
    rw [jn]
    exact ⟨.inl, fun h => h.elim id fun ⟨k, hk, _⟩ => absurd hk (by omega)⟩
  | N + 1, j => by
    have ih := jn_le (b := b) (o := o) (l := l) (m := m) N
    rw [jn]
    unfold vi_u
    by_cases e : j = N ||| l
    · rw [if_pos e, ← e, ← Int.not_lt, Int.lt_min, Classical.not_and_iff_not_or_not, Int.not_lt, Int.not_lt, ih j]
      constructor
      · rintro ((h | ⟨k, h1, h2, h3⟩) | h)
        · exact .inl h
        · exact .inr ⟨k, by omega, h2, h3⟩
        · exact .inr ⟨N, by omega, e.symm, h⟩
      · rintro (h | ⟨k, h1, h2, h3⟩)
        · exact .inl (.inl h)
        · by_cases ek : k = N
          · subst ek; exact .inr h3
          · exact .inl (.inr ⟨k, by omega, h2, h3⟩)
    · rw [if_neg e, ih j]
      constructor
      · rintro (h | ⟨k, h1, h2, h3⟩)
        · exact .inl h
        · exact .inr ⟨k, by omega, h2, h3⟩
      · rintro (h | ⟨k, h1, h2, h3⟩)
        · exact .inl h
        · by_cases ek : k = N
          · subst ek; exact absurd h2.symm e
          · exact .inr ⟨k, by omega, h2, h3⟩
theorem gAl_le {ok : Nat → Bool} {b o : Nat → Int} {m : Int} (hm : m < 1000) : ∀ N j : Nat, j < 512 → (gAl ok b o N j ≤ m ↔ ∃ l : Nat, l < N ∧ ok l = true ∧ ∃ k : Nat, k < 512 ∧ k ||| l = j ∧ b k + (bC l : Int) ≤ m)
  | 0, j, hj => by
    rw [gAl, vi_m_lt hj]
    exact ⟨fun h => absurd h (by omega), fun ⟨l, hl, _⟩ => absurd hl (by omega)⟩
  | N + 1, j, hj => by
    have ih := gAl_le (ok := ok) (b := b) (o := o) hm N j hj
    rw [gAl]
    by_cases e : ok N = true
    · rw [if_pos e, jn_le, ih]
      constructor
      · rintro (⟨l, h1, h2, h3⟩ | ⟨k, h1, h2, h3⟩)
        · exact ⟨l, by omega, h2, h3⟩
        · exact ⟨N, by omega, e, k, h1, h2, h3⟩
      · rintro ⟨l, h1, h2, h3⟩
        by_cases el : l = N
        · subst el; exact .inr h3
        · exact .inl ⟨l, by omega, h2, h3⟩
    · rw [if_neg e, ih]
      constructor
      · rintro ⟨l, h1, h2, h3⟩
        exact ⟨l, by omega, h2, h3⟩
      · rintro ⟨l, h1, h2, h3⟩
        by_cases el : l = N
        · subst el; exact absurd h2 e
        · exact ⟨l, by omega, h2, h3⟩
def clL (l z : Nat) : List Nat := ((List.range 9).filter (fun p => l.testBit p)).map (fun p => 36 * z + 6 * (p / 3) + p % 3)
theorem clL_n : ∀ l, l < 512 → ((List.range 9).filter (fun p => l.testBit p)).length = bC l := by decide +kernel
theorem clL_m {l z c : Nat} : c ∈ clL l z ↔ ∃ p, p < 9 ∧ l.testBit p = true ∧ c = 36 * z + 6 * (p / 3) + p % 3 := by
  unfold clL
  rw [List.mem_map]
  constructor
  · rintro ⟨p, h1, h2⟩
    rw [List.mem_filter, List.mem_range] at h1
    exact ⟨p, h1.1, h1.2, h2.symm⟩
  · rintro ⟨p, h1, h2, h3⟩
    exact ⟨p, by rw [List.mem_filter, List.mem_range]; exact ⟨h1, h2⟩, h3.symm⟩
theorem o7_t : ∀ p, p < 3 → ∀ l, l < 512 → (l &&& (7 <<< (3 * p)) = 0 ↔ (l.testBit (3 * p) = false ∧ l.testBit (3 * p + 1) = false ∧ l.testBit (3 * p + 2) = false)) := by decide +kernel
theorem o73_t : ∀ p, p < 3 → ∀ l, l < 512 → (l &&& (73 <<< p) = 0 ↔ (l.testBit p = false ∧ l.testBit (p + 3) = false ∧ l.testBit (p + 6) = false)) := by decide +kernel
theorem gLm_t {S : Nat → Bool} {l z : Nat} (hz : z < 6) : gLm S l (z : Int) = true ↔ ∀ p, p < 9 → l.testBit p = true → S (36 * z + 6 * (p / 3) + p % 3) = true := by
  have hs : ∀ p : Nat, p < 9 → sHas S (36 * (z : Int) + 6 * ((p / 3 : Nat) : Int) + ((p % 3 : Nat) : Int)) = S (36 * z + 6 * (p / 3) + p % 3) := fun p hp => by
    unfold sHas
    rw [decide_eq_true (by omega), Bool.true_and]
    exact congrArg S (by omega)
  unfold gLm
  rw [Bool.not_eq_true', ← Bool.not_eq_true, sOr_iff]
  constructor
  · intro h p hp ht
    cases e : S (36 * z + 6 * (p / 3) + p % 3)
    · exact absurd ⟨p, hp, by rw [hs p hp, ht, e]; rfl⟩ h
    · rfl
  · rintro h ⟨p, hp, ht⟩
    rw [hs p hp, Bool.and_eq_true, Bool.not_eq_true'] at ht
    rw [h p hp ht.1] at ht
    exact absurd ht.2 (by decide)
theorem gLd_t {x y : Int} {f : Nat → Int} {l z : Nat} (hl : l < 512) : gLd x y f l (z : Int) = true ↔ ∀ p : Nat, p < 3 → ((((p : Int) < y) → gDi f 0 (p : Int) (z : Int) = true → ∃ w, w < 3 ∧ l.testBit (3 * p + w) = true) ∧ (((p : Int) < x) → gDi f 1 (p : Int) (z : Int) = true → ∃ w, w < 3 ∧ l.testBit (p + 3 * w) = true)) := by
  unfold gLd
  rw [Bool.not_eq_true', ← Bool.not_eq_true, sOr_iff]
  have h7 : ∀ p, p < 3 → (¬ (l &&& (7 <<< (3 * p)) = 0) ↔ ∃ w, w < 3 ∧ l.testBit (3 * p + w) = true) := fun p hp => by
    rw [o7_t p hp l hl]
    constructor
    · intro h
      cases e0 : l.testBit (3 * p)
      · cases e1 : l.testBit (3 * p + 1)
        · cases e2 : l.testBit (3 * p + 2)
          · exact absurd ⟨e0, e1, e2⟩ h
          · exact ⟨2, by omega, e2⟩
        · exact ⟨1, by omega, e1⟩
      · exact ⟨0, by omega, e0⟩
    · rintro ⟨w, hw, hb⟩ ⟨e0, e1, e2⟩
      obtain rfl | rfl | rfl : w = 0 ∨ w = 1 ∨ w = 2 := by omega
      · rw [Nat.add_zero, e0] at hb; cases hb
      · rw [e1] at hb; cases hb
      · rw [e2] at hb; cases hb
  have h73 : ∀ p, p < 3 → (¬ (l &&& (73 <<< p) = 0) ↔ ∃ w, w < 3 ∧ l.testBit (p + 3 * w) = true) := fun p hp => by
    rw [o73_t p hp l hl]
    constructor
    · intro h
      cases e0 : l.testBit p
      · cases e1 : l.testBit (p + 3)
        · cases e2 : l.testBit (p + 6)
          · exact absurd ⟨e0, e1, e2⟩ h
          · exact ⟨2, by omega, e2⟩
        · exact ⟨1, by omega, e1⟩
      · exact ⟨0, by omega, e0⟩
    · rintro ⟨w, hw, hb⟩ ⟨e0, e1, e2⟩
      obtain rfl | rfl | rfl : w = 0 ∨ w = 1 ∨ w = 2 := by omega
      · rw [show p + 3 * 0 = p by omega, e0] at hb; cases hb
      · rw [show p + 3 * 1 = p + 3 by omega, e1] at hb; cases hb
      · rw [show p + 3 * 2 = p + 6 by omega, e2] at hb; cases hb
  constructor
  · intro h p hp
    refine ⟨fun hy hd => (h7 p hp).mp fun e => h ⟨p, hp, ?_⟩, fun hx hd => (h73 p hp).mp fun e => h ⟨p, hp, ?_⟩⟩
    · rw [decide_eq_true hy, hd, decide_eq_true e]; rfl
    · rw [decide_eq_true hx, hd, decide_eq_true e]; simp
  · rintro h ⟨p, hp, ht⟩
    rw [Bool.or_eq_true, Bool.and_eq_true, Bool.and_eq_true, Bool.and_eq_true, Bool.and_eq_true, decide_eq_true_eq, decide_eq_true_eq, decide_eq_true_eq, decide_eq_true_eq] at ht
    rcases ht with ⟨⟨h1, h2⟩, h3⟩ | ⟨⟨h1, h2⟩, h3⟩
    · exact (h7 p hp).mpr ((h p hp).1 h1 h2) h3
    · exact (h73 p hp).mpr ((h p hp).2 h1 h2) h3
/-- so these cells stand for the layers below z -/
abbrev lsI (x y : Int) (f : Nat → Int) (S : Nat → Bool) (z j : Nat) (X : List Nat) : Prop := (∀ c, c ∈ X → S c = true ∧ c / 36 < z ∧ c % 6 < 3 ∧ c / 6 % 6 < 3) ∧ (∀ p, p < 9 → (j.testBit p = true ↔ ∃ c, c ∈ X ∧ c % 6 = p % 3 ∧ c / 6 % 6 = p / 3)) ∧ ∀ i : Nat, i < z → ∀ p : Nat, p < 3 → (((p : Int) < y → gDi f 0 (p : Int) (i : Int) = true → ∃ c, c ∈ X ∧ c / 36 = i ∧ c / 6 % 6 = p) ∧ ((p : Int) < x → gDi f 1 (p : Int) (i : Int) = true → ∃ c, c ∈ X ∧ c / 36 = i ∧ c % 6 = p))
theorem tb_9 {a b : Nat} (ha : a < 512) (hb : b < 512) (h : ∀ p, p < 9 → a.testBit p = b.testBit p) : a = b := by
  apply Nat.eq_of_testBit_eq
  intro i
  by_cases hi : i < 9
  · exact h i hi
  · rw [Nat.testBit_lt_two_pow (Nat.lt_of_lt_of_le ha (show 512 ≤ 2 ^ i from Nat.pow_le_pow_right (n := 2) (by omega) (show 9 ≤ i by omega))), Nat.testBit_lt_two_pow (Nat.lt_of_lt_of_le hb (show 512 ≤ 2 ^ i from Nat.pow_le_pow_right (n := 2) (by omega) (show 9 ≤ i by omega)))]
/-- the bits of a list of cells are no more than the cells -/
theorem bC_X {i : Nat} : ∀ X : List Nat, (∀ c, c ∈ X → c / 36 = i ∧ c % 6 < 3 ∧ c / 6 % 6 < 3) → sN 9 (fun p => X.any (fun c => decide (c % 6 = p % 3 ∧ c / 6 % 6 = p / 3))) ≤ X.length
  | [], _ => Nat.le_of_eq (sN_0.mpr fun _ _ => rfl)
  | c :: X, h => by
    have ih := bC_X (i := i) X fun c hc => h c (List.mem_cons.mpr (.inr hc))
    have h1 : sN 9 (fun p => decide (c % 6 = p % 3 ∧ c / 6 % 6 = p / 3)) ≤ 1 := sN_one fun a b ha hb h1 h2 => by
      have h1 := of_decide_eq_true h1
      have h2 := of_decide_eq_true h2
      omega
    have h2 := @sN_or 9 (fun p => (c :: X).any (fun c => decide (c % 6 = p % 3 ∧ c / 6 % 6 = p / 3))) (fun p => decide (c % 6 = p % 3 ∧ c / 6 % 6 = p / 3)) (fun p => X.any (fun c => decide (c % 6 = p % 3 ∧ c / 6 % 6 = p / 3))) (fun p hp hh => by rw [List.any_cons, Bool.or_eq_true] at hh; exact hh)
    rw [List.length_cons]
    omega
theorem any_c {X : List Nat} {p : Nat} : X.any (fun c => decide (c % 6 = p % 3 ∧ c / 6 % 6 = p / 3)) = true ↔ ∃ c, c ∈ X ∧ c % 6 = p % 3 ∧ c / 6 % 6 = p / 3 := by
  rw [List.any_eq_true]
  constructor
  · rintro ⟨c, h1, h2⟩; exact ⟨c, h1, of_decide_eq_true h2⟩
  · rintro ⟨c, h1, h2⟩; exact ⟨c, h1, decide_eq_true h2⟩
theorem len_f {g : Nat → Bool} : ∀ X : List Nat, X.length = (X.filter g).length + (X.filter (fun c => !g c)).length
  | [] => rfl
  | c :: X => by
    have ih := len_f (g := g) X
    cases h : g c
    · rw [List.filter_cons_of_neg (by rw [h]; decide), List.filter_cons_of_pos (by rw [h]; rfl), List.length_cons, List.length_cons]; omega
    · rw [List.filter_cons_of_pos h, List.filter_cons_of_neg (by rw [h]; decide), List.length_cons, List.length_cons]; omega
theorem bC_9 : ∀ l, l < 512 → bC l = sN 9 (fun p => l.testBit p) := by decide +kernel
theorem gBz_le {x y : Int} {f : Nat → Int} {S : Nat → Bool} : ∀ (z j m : Nat), z ≤ 6 → j < 512 → m < 1000 → (gBz x y f S z j ≤ (m : Int) ↔ ∃ X : List Nat, X.length ≤ m ∧ lsI x y f S z j X)
  | 0, j, m, _, hj, hm => by
    rw [gBz]
    dsimp only
    constructor
    · intro h
      have e : j = 0 := by
        by_cases e : j = 0
        · exact e
        · rw [if_neg e] at h; omega
      subst e
      refine ⟨[], Nat.zero_le _, ⟨fun c hc => (by cases hc), fun p hp => ⟨fun h => ?_, fun h => ?_⟩, fun i hi => absurd hi (by omega)⟩⟩
      · rw [Nat.zero_testBit] at h; cases h
      · obtain ⟨c, hc, -⟩ := h; cases hc
    · rintro ⟨X, h1, h2, h3, h4⟩
      have e : j = 0 := tb_9 hj (by omega) fun p hp => by
        rw [Nat.zero_testBit]
        cases ht : j.testBit p
        · rfl
        · obtain ⟨c, hc, -⟩ := (h3 p hp).mp ht
          exact absurd (h2 c hc).2.1 (by omega)
      rw [if_pos e]
      omega
  | z + 1, j, m, hz, hj, hm => by
    rw [gBz, gAl_le (by omega) 512 j hj]
    constructor
    · rintro ⟨l, hl, hok, k, hk, hor, hb⟩
      rw [Bool.and_eq_true, gLm_t (by omega), gLd_t hl] at hok
      obtain ⟨o1, o2⟩ := hok
      have h0 := (gBz_b (x := x) (y := y) (f := f) (S := S) z k hk).1
      obtain ⟨X, x1, x2, x3, x4⟩ := (gBz_le (x := x) (y := y) (f := f) (S := S) z k (m - bC l) (by omega) hk (by omega)).mp (by omega)
      have hlen : (clL l z).length = bC l := by unfold clL; rw [List.length_map]; exact clL_n l hl
      have hmem : ∀ c, c ∈ X ++ clL l z ↔ (c ∈ X ∨ ∃ p, p < 9 ∧ l.testBit p = true ∧ c = 36 * z + 6 * (p / 3) + p % 3) := fun c => by rw [List.mem_append, clL_m]
      refine ⟨X ++ clL l z, by rw [List.length_append, hlen]; omega, fun c hc => ?_, fun p hp => ?_, fun i hi p hp => ?_⟩
      · rcases (hmem c).mp hc with h | ⟨p, p1, p2, p3⟩
        · obtain ⟨a1, a2, a3, a4⟩ := x2 c h
          exact ⟨a1, by omega, a3, a4⟩
        · rw [p3]
          exact ⟨o1 p p1 p2, by omega, by omega, by omega⟩
      · rw [← hor, Nat.testBit_or, Bool.or_eq_true, x3 p hp]
        constructor
        · rintro (⟨c, c1, c2⟩ | h)
          · exact ⟨c, (hmem c).mpr (.inl c1), c2⟩
          · exact ⟨_, (hmem _).mpr (.inr ⟨p, hp, h, rfl⟩), by omega, by omega⟩
        · rintro ⟨c, c1, c2, c3⟩
          rcases (hmem c).mp c1 with h | ⟨q, p1, p2, p3⟩
          · exact .inl ⟨c, h, c2, c3⟩
          · obtain rfl : q = p := by omega
            exact .inr p2
      · by_cases e : i = z
        · subst e
          refine ⟨fun hy hd => ?_, fun hx hd => ?_⟩
          · obtain ⟨w, w1, w2⟩ := (o2 p hp).1 hy hd
            exact ⟨_, (hmem _).mpr (.inr ⟨3 * p + w, by omega, w2, rfl⟩), by omega, by omega⟩
          · obtain ⟨w, w1, w2⟩ := (o2 p hp).2 hx hd
            exact ⟨_, (hmem _).mpr (.inr ⟨p + 3 * w, by omega, w2, rfl⟩), by omega, by omega⟩
        · refine ⟨fun hy hd => ?_, fun hx hd => ?_⟩
          · obtain ⟨c, c1, c2⟩ := (x4 i (by omega) p hp).1 hy hd
            exact ⟨c, (hmem c).mpr (.inl c1), c2⟩
          · obtain ⟨c, c1, c2⟩ := (x4 i (by omega) p hp).2 hx hd
            exact ⟨c, (hmem c).mpr (.inl c1), c2⟩
    · rintro ⟨X, x1, x2, x3, x4⟩
      have hlen : X.length = (X.filter (fun c => decide (c / 36 < z))).length + (X.filter (fun c => !decide (c / 36 < z))).length := len_f X
      have m1 : ∀ c, c ∈ X.filter (fun c => decide (c / 36 < z)) ↔ (c ∈ X ∧ c / 36 < z) := fun c => by rw [List.mem_filter, decide_eq_true_eq]
      have m2 : ∀ c, c ∈ X.filter (fun c => !decide (c / 36 < z)) ↔ (c ∈ X ∧ c / 36 = z) := fun c => by
        rw [List.mem_filter, Bool.not_eq_true', decide_eq_false_iff_not]
        constructor
        · rintro ⟨h1, h2⟩; exact ⟨h1, by have := (x2 c h1).2.1; omega⟩
        · rintro ⟨h1, h2⟩; exact ⟨h1, by omega⟩
      generalize X.filter (fun c => decide (c / 36 < z)) = A at *
      generalize X.filter (fun c => !decide (c / 36 < z)) = B at *
      have hkl := bN_lt 9 (fun p => A.any (fun c => decide (c % 6 = p % 3 ∧ c / 6 % 6 = p / 3)))
      have hll := bN_lt 9 (fun p => B.any (fun c => decide (c % 6 = p % 3 ∧ c / 6 % 6 = p / 3)))
      have hkt : ∀ p, p < 9 → ((bN 9 (fun p => A.any (fun c => decide (c % 6 = p % 3 ∧ c / 6 % 6 = p / 3)))).testBit p = true ↔ ∃ c, c ∈ A ∧ c % 6 = p % 3 ∧ c / 6 % 6 = p / 3) := fun p hp => by rw [bN_tb, decide_eq_true hp, Bool.true_and]; exact any_c
      have hlt : ∀ p, p < 9 → ((bN 9 (fun p => B.any (fun c => decide (c % 6 = p % 3 ∧ c / 6 % 6 = p / 3)))).testBit p = true ↔ ∃ c, c ∈ B ∧ c % 6 = p % 3 ∧ c / 6 % 6 = p / 3) := fun p hp => by rw [bN_tb, decide_eq_true hp, Bool.true_and]; exact any_c
      have hbl : bC (bN 9 (fun p => B.any (fun c => decide (c % 6 = p % 3 ∧ c / 6 % 6 = p / 3)))) ≤ B.length := by
        rw [bC_9 _ (by omega)]
        refine Nat.le_trans (Nat.le_of_eq (sN_c fun p hp => ?_)) (bC_X (i := z) B fun c hc => ⟨((m2 c).mp hc).2, (x2 c ((m2 c).mp hc).1).2.2⟩)
        rw [bN_tb, decide_eq_true hp, Bool.true_and]
      generalize bN 9 (fun p => A.any (fun c => decide (c % 6 = p % 3 ∧ c / 6 % 6 = p / 3))) = k at *
      generalize bN 9 (fun p => B.any (fun c => decide (c % 6 = p % 3 ∧ c / 6 % 6 = p / 3))) = l at *
      have hk : k < 512 := hkl
      have hl : l < 512 := hll
      have ih := (gBz_le (x := x) (y := y) (f := f) (S := S) z k A.length (by omega) hk (by omega)).mpr ⟨A, Nat.le_refl _, fun c hc => by
          obtain ⟨c1, c2⟩ := (m1 c).mp hc
          obtain ⟨a1, a2, a3, a4⟩ := x2 c c1
          exact ⟨a1, c2, a3, a4⟩, hkt, fun i hi p hp => by
          obtain ⟨b1, b2⟩ := x4 i (by omega) p hp
          refine ⟨fun hy hd => ?_, fun hx hd => ?_⟩
          · obtain ⟨c, c1, c2, c3⟩ := b1 hy hd
            exact ⟨c, (m1 c).mpr ⟨c1, by omega⟩, c2, c3⟩
          · obtain ⟨c, c1, c2, c3⟩ := b2 hx hd
            exact ⟨c, (m1 c).mpr ⟨c1, by omega⟩, c2, c3⟩⟩
      refine ⟨l, hl, ?_, k, hk, ?_, by omega⟩
      · rw [Bool.and_eq_true, gLm_t (by omega), gLd_t hl]
        refine ⟨fun p hp ht => ?_, fun p hp => ⟨fun hy hd => ?_, fun hx hd => ?_⟩⟩
        · obtain ⟨c, c1, c2, c3⟩ := (hlt p hp).mp ht
          obtain ⟨c4, c5⟩ := (m2 c).mp c1
          have := (x2 c c4).1
          rw [show 36 * z + 6 * (p / 3) + p % 3 = c by omega]
          exact this
        · obtain ⟨c, c1, c2, c3⟩ := (x4 z (by omega) p hp).1 hy hd
          have c4 := x2 c c1
          exact ⟨c % 6, c4.2.2.1, (hlt _ (by omega)).mpr ⟨c, (m2 c).mpr ⟨c1, c2⟩, by omega, by omega⟩⟩
        · obtain ⟨c, c1, c2, c3⟩ := (x4 z (by omega) p hp).2 hx hd
          have c4 := x2 c c1
          exact ⟨c / 6 % 6, c4.2.2.2, (hlt _ (by omega)).mpr ⟨c, (m2 c).mpr ⟨c1, c2⟩, by omega, by omega⟩⟩
      · refine tb_9 (Nat.or_lt_two_pow (n := 9) hk hl) hj fun p hp => ?_
        rw [Nat.testBit_or]
        cases e : j.testBit p
        · cases e1 : k.testBit p
          · cases e2 : l.testBit p
            · rfl
            · obtain ⟨c, c1, c2⟩ := (hlt p hp).mp e2
              rw [(x3 p hp).mpr ⟨c, ((m2 c).mp c1).1, c2⟩] at e; cases e
          · obtain ⟨c, c1, c2⟩ := (hkt p hp).mp e1
            rw [(x3 p hp).mpr ⟨c, ((m1 c).mp c1).1, c2⟩] at e; cases e
        · obtain ⟨c, c1, c2, c3⟩ := (x3 p hp).mp e
          rw [Bool.or_eq_true]
          by_cases hc : c / 36 < z
          · exact .inl ((hkt p hp).mpr ⟨c, (m1 c).mpr ⟨c1, hc⟩, c2, c3⟩)
          · exact .inr ((hlt p hp).mpr ⟨c, (m2 c).mpr ⟨c1, by have := (x2 c c1).2.1; omega⟩, c2, c3⟩)
