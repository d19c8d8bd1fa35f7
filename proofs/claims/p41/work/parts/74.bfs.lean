/-! Ways by width: a queue, and how far each cell is; what it comes to. -/
theorem sN_1 {k : Nat} {f g : Nat → Bool} {j : Nat} (hj : j < k) (h1 : f j = false) (h2 : g j = true) (h : ∀ i, i < k → i ≠ j → g i = f i) : sN k g = sN k f + 1 := by
  induction k with
  | zero => omega
  | succ k ih =>
    rw [sN, sN]
    by_cases e : j = k
    · subst e
      rw [sN_c (f := g) (g := f) (fun i hi => h i (by omega) (by omega)), h1, h2]
      simp
    · rw [ih (by omega) (fun i hi => h i (by omega)), h k (by omega) (fun e' => e e'.symm)]
      omega
/-- one cell comes behind the queue, if it is free and new: how many, the queue, how far -/
abbrev bfT : Type := Nat × (Nat → Int) × (Nat → Int)
def bfR (F : Nat → Bool) (s : bfT) (b e : Int) : bfT := if sHas F b = true ∧ s.2.2 b.toNat = -1 then (s.1 + 1, vi_u s.2.1 s.1 b, vi_u s.2.2 b.toNat e) else s
def bfI (F : Nat → Bool) (t x : Nat) (s : bfT) : Prop :=
  (∀ i, i < s.1 → ∃ c : Nat, s.2.1 i = (c : Int) ∧ c < 216 ∧ F c = true ∧ 0 ≤ s.2.2 c ∧ s.2.2 c ≤ (i : Int)) ∧
  (∀ c, c < 216 → s.2.2 c ≠ -1 → ∃ i, i < s.1 ∧ s.2.1 i = (c : Int)) ∧
  sN 216 (fun c => decide (s.2.2 c ≠ -1)) = s.1 ∧
  (∀ i j, i ≤ j → j < s.1 → s.2.2 (s.2.1 i).toNat ≤ s.2.2 (s.2.1 j).toNat) ∧
  (∀ j, j < s.1 → x < s.1 → s.2.2 (s.2.1 j).toNat ≤ s.2.2 (s.2.1 x).toNat + 1) ∧
  (∀ i, i < x → i < s.1 → ∀ b, sA (s.2.1 i).toNat b → F b = true → s.2.2 b ≠ -1 ∧ s.2.2 b ≤ s.2.2 (s.2.1 i).toNat + 1) ∧
  (∀ c, c < 216 → 0 < s.2.2 c → ∃ b, b < 216 ∧ sA c b ∧ s.2.2 b = s.2.2 c - 1) ∧
  (t < 216 ∧ s.2.2 t = 0 ∧ ∀ c, c < 216 → s.2.2 c = 0 → c = t) ∧ x ≤ s.1
/-- how far from t, by steps within F; -1: not to be reached -/
def gDs (F : Nat → Bool) (t : Nat) (D : Nat → Int) : Prop :=
  D t = 0 ∧ (∀ c, c < 216 → D c = 0 → c = t) ∧ (∀ c, c < 216 → D c ≠ -1 → F c = true ∧ 0 ≤ D c ∧ D c < 216) ∧
  (∀ c, c < 216 → 0 < D c → ∃ b, b < 216 ∧ sA c b ∧ D b = D c - 1) ∧
  (∀ c b, c < 216 → D c ≠ -1 → sA c b → F b = true → D b ≠ -1 ∧ D b ≤ D c + 1)
theorem bfI_le {F : Nat → Bool} {t x : Nat} {s : bfT} (h : bfI F t x s) : s.1 ≤ 216 := by
  rw [← h.2.2.1]; exact sN_le _ _
theorem bfI_new {F : Nat → Bool} {t x : Nat} {s : bfT} (h : bfI F t x s) {c : Nat} (hc : c < 216) (hn : s.2.2 c = -1) : s.1 < 216 := by
  have h1 := sN_lt (k := 216) (f := fun c => decide (s.2.2 c ≠ -1)) (g := fun _ => true) (fun _ _ _ => rfl) hc (decide_eq_false (fun k => k hn)) rfl
  have h2 := sN_le 216 (fun _ => true)
  rw [h.2.2.1] at h1
  omega
theorem bfR_i {F : Nat → Bool} {t x : Nat} {s : bfT} (h : bfI F t x s) {c : Nat} (hx : x < s.1) (hcx : s.2.1 x = (c : Int)) {b : Int} (hb : sHas F b = true → sA c b.toNat) :
    bfI F t x (bfR F s b (s.2.2 c + 1)) ∧ s.1 ≤ (bfR F s b (s.2.2 c + 1)).1 ∧ (bfR F s b (s.2.2 c + 1)).2.1 x = (c : Int) ∧ (∀ c', s.2.2 c' ≠ -1 → (bfR F s b (s.2.2 c + 1)).2.2 c' = s.2.2 c') ∧ (sHas F b = true → (bfR F s b (s.2.2 c + 1)).2.2 b.toNat ≠ -1 ∧ (bfR F s b (s.2.2 c + 1)).2.2 b.toNat ≤ s.2.2 c + 1) := by
  have h0 := h
  obtain ⟨i1, i2, i3, i4, i5, i6, i7, ⟨i8, i9, i10⟩, i11⟩ := h
  obtain ⟨m, q, D⟩ := s
  dsimp only at *
  obtain ⟨c', e', hc, hF, hD0, hDx⟩ := i1 x hx
  obtain rfl : c = c' := by rw [hcx] at e'; omega
  unfold bfR
  dsimp only
  split
  · rename_i hn
    obtain ⟨hn1, hn2⟩ := hn
    have hb0 := hn1
    unfold sHas at hb0
    rw [Bool.and_eq_true, decide_eq_true_eq] at hb0
    obtain ⟨⟨hb1, hb2⟩, hbF⟩ := hb0
    obtain ⟨b, rfl⟩ : ∃ k : Nat, b = (k : Int) := ⟨b.toNat, by omega⟩
    have hsA := hb hn1
    rw [Int.toNat_natCast] at *
    have hne : ∀ i, i < m → q i ≠ (b : Int) := fun i hi e => by
      obtain ⟨k, e1, -, -, e2, -⟩ := i1 i hi
      obtain rfl : k = b := by omega
      omega
    have hqm : ∀ i, i < m → vi_u q m (b : Int) i = q i := fun i hi => vi_u_o (by omega)
    have hqb : vi_u q m (b : Int) m = (b : Int) := vi_u_s
    have hD : ∀ i, i < m → vi_u D b (D c + 1) (q i).toNat = D (q i).toNat := fun i hi => by
      obtain ⟨k, e1, -, -, e2, -⟩ := i1 i hi
      exact vi_u_o (fun e => hne i hi (by omega))
    have hDb : vi_u D b (D c + 1) b = D c + 1 := vi_u_s
    have hcb : c ≠ b := fun e => by rw [e] at hD0; omega
    have hx' : D (q x).toNat = D c := by rw [hcx, Int.toNat_natCast]
    unfold bfI
    dsimp only
    refine ⟨⟨?_, ?_, ?_, ?_, ?_, ?_, ?_, ⟨i8, ?_, ?_⟩, by omega⟩, by omega, by rw [hqm x hx, hcx], ?_, ?_⟩
    · intro i hi
      by_cases him : i = m
      · rw [him, hqb]
        refine ⟨b, rfl, by omega, hbF, ?_, ?_⟩
        · rw [hDb]; omega
        · rw [hDb]; omega
      · have him : i < m := by omega
        rw [hqm i him]
        obtain ⟨k, e1, e2, e3, e4, e5⟩ := i1 i him
        have := hD i him
        rw [e1, Int.toNat_natCast] at this
        exact ⟨k, e1, e2, e3, by rw [this]; exact e4, by rw [this]; exact e5⟩
    · intro k hk hkn
      by_cases e : k = b
      · exact ⟨m, by omega, by rw [hqb, e]⟩
      · rw [vi_u_o e] at hkn
        obtain ⟨i, hi, e2⟩ := i2 k hk hkn
        exact ⟨i, by omega, by rw [hqm i hi, e2]⟩
    · rw [← i3]
      refine sN_1 (j := b) (by omega) (decide_eq_false (fun k => k hn2)) (decide_eq_true (by rw [hDb]; omega)) fun i hi hib => ?_
      have e : vi_u D b (D c + 1) i = D i := vi_u_o hib
      rw [decide_eq_decide, e]
    · intro i j hij hj
      by_cases hjm : j = m
      · rw [hjm, hqb, Int.toNat_natCast, hDb]
        by_cases him : i = m
        · rw [him, hqb, Int.toNat_natCast, hDb]; omega
        · have him : i < m := by omega
          rw [hqm i him, hD i him]
          have := i5 i him hx
          rw [hx'] at this
          exact this
      · rw [hqm i (by omega), hqm j (by omega), hD i (by omega), hD j (by omega)]
        exact i4 i j hij (by omega)
    · intro j hj _
      rw [hqm x hx, hD x hx, hx']
      by_cases hjm : j = m
      · rw [hjm, hqb, Int.toNat_natCast, hDb]; omega
      · rw [hqm j (by omega), hD j (by omega)]
        have := i5 j (by omega) hx
        rw [hx'] at this
        exact this
    · intro i hi hi2 k hk hkF
      rw [hqm i (by omega)] at hk ⊢
      rw [hD i (by omega)]
      have := i6 i hi (by omega) k hk hkF
      rw [vi_u_o (fun e => this.1 (by rw [e]; exact hn2))]
      exact this
    · intro k hk hk0
      by_cases e : k = b
      · subst e
        refine ⟨c, hc, sA_sym hc hsA, ?_⟩
        rw [hDb, vi_u_o hcb]; omega
      · rw [vi_u_o e] at hk0 ⊢
        obtain ⟨j, e1, e2, e3⟩ := i7 k hk hk0
        refine ⟨j, e1, e2, ?_⟩
        rw [vi_u_o (fun e => by rw [e] at e3; omega)]
        exact e3
    · rw [vi_u_o (fun e => by rw [← e] at hn2; omega)]
      exact i9
    · intro k hk hk0
      by_cases e : k = b
      · subst e
        rw [hDb] at hk0
        omega
      · rw [vi_u_o e] at hk0
        exact i10 k hk hk0
    · intro k hk
      exact vi_u_o (fun e => hk (by rw [e]; exact hn2))
    · intro _
      rw [hDb]
      omega
  · rename_i hn
    refine ⟨h0, Nat.le_refl _, hcx, fun _ _ => rfl, fun hb1 => ?_⟩
    have hn2 : D b.toNat ≠ -1 := fun e => hn ⟨hb1, e⟩
    refine ⟨hn2, ?_⟩
    have hb0 := hb1
    unfold sHas at hb0
    rw [Bool.and_eq_true, decide_eq_true_eq] at hb0
    obtain ⟨i, hi, e⟩ := i2 b.toNat (by omega) hn2
    have := i5 i hi hx
    rw [e, Int.toNat_natCast, hcx, Int.toNat_natCast] at this
    exact this
/-- a cell is through with: all its free neighbours are known -/
theorem bfI_s {F : Nat → Bool} {t x : Nat} {s : bfT} (h : bfI F t x s) {c : Nat} (hx : x < s.1) (hcx : s.2.1 x = (c : Int)) (hn : ∀ b, sA c b → F b = true → s.2.2 b ≠ -1 ∧ s.2.2 b ≤ s.2.2 c + 1) : bfI F t (x + 1) s := by
  obtain ⟨i1, i2, i3, i4, i5, i6, i7, i8, i11⟩ := h
  refine ⟨i1, i2, i3, i4, ?_, ?_, i7, i8, by omega⟩
  · intro j hj hx1
    have a1 := i5 j hj hx
    have a2 := i4 x (x + 1) (by omega) hx1
    omega
  · intro i hi hi2 b hb hF
    by_cases e : i = x
    · rw [e, hcx, Int.toNat_natCast] at hb ⊢
      exact hn b hb hF
    · exact i6 i (by omega) hi2 b hb hF
theorem bfI_e {F : Nat → Bool} {t : Nat} {s : bfT} (h : bfI F t s.1 s) : gDs F t s.2.2 := by
  have hle := bfI_le h
  obtain ⟨i1, i2, i3, i4, i5, i6, i7, ⟨i8, i9, i10⟩, i11⟩ := h
  refine ⟨i9, i10, ?_, i7, ?_⟩
  · intro c hc hn
    obtain ⟨i, hi, e⟩ := i2 c hc hn
    obtain ⟨k, e1, e2, e3, e4, e5⟩ := i1 i hi
    obtain rfl : k = c := by omega
    exact ⟨e3, e4, by omega⟩
  · intro c b hc hn hsb hF
    obtain ⟨i, hi, e⟩ := i2 c hc hn
    have := i6 i hi hi b (by rw [e, Int.toNat_natCast]; exact hsb) hF
    rw [e, Int.toNat_natCast] at this
    exact this
theorem bfI_0 {F : Nat → Bool} {t : Nat} (ht : t < 216) (hF : F t = true) {q D : Nat → Int} (hq : q 0 = (t : Int)) (hD : ∀ c, c < 216 → D c = if c = t then 0 else -1) : bfI F t 0 (1, q, D) := by
  have hDt : D t = 0 := by rw [hD t ht, if_pos rfl]
  have h0 : ∀ i, i < 1 → i = 0 := fun i hi => by omega
  refine ⟨?_, ?_, ?_, ?_, ?_, ?_, ?_, ⟨ht, hDt, ?_⟩, by simp⟩
  · intro i hi
    dsimp only at *
    obtain rfl := h0 i hi
    exact ⟨t, hq, ht, hF, by rw [hDt]; omega, by rw [hDt]; omega⟩
  · intro c hc hn
    dsimp only at *
    rw [hD c hc] at hn
    by_cases e : c = t
    · exact ⟨0, by omega, by rw [hq, e]⟩
    · rw [if_neg e] at hn; omega
  · dsimp only
    have h1 := sN_1 (k := 216) (f := fun _ => false) (g := fun c => decide (D c ≠ -1)) ht rfl (decide_eq_true (by rw [hDt]; omega)) (fun i hi hit => decide_eq_false (by rw [hD i hi, if_neg hit]; simp))
    rw [h1, sN_0.mpr (fun _ _ => rfl)]
  · intro i j hij hj
    dsimp only at *
    obtain rfl := h0 j hj
    obtain rfl : i = 0 := by omega
    exact Int.le_refl _
  · intro j hj _
    dsimp only at *
    obtain rfl := h0 j hj
    omega
  · intro i hi; omega
  · intro c hc h
    dsimp only at *
    rw [hD c hc] at h
    split at h <;> omega
  · intro c hc h
    dsimp only at *
    rw [hD c hc] at h
    by_cases e : c = t
    · exact e
    · rw [if_neg e] at h; omega
theorem gDs_le {F : Nat → Bool} {t : Nat} {D D' : Nat → Int} (ht : t < 216) (h : gDs F t D) (h' : gDs F t D') : ∀ (k : Nat) (c : Nat), c < 216 → D c = (k : Int) → D' c ≠ -1 ∧ D' c ≤ (k : Int) := by
  intro k
  induction k with
  | zero =>
    intro c hc e
    obtain rfl := h.2.1 c hc e
    rw [h'.1]
    omega
  | succ k ih =>
    intro c hc e
    obtain ⟨b, hb, hs, e2⟩ := h.2.2.2.1 c hc (by omega)
    have h1 := ih b hb (by omega)
    have h2 := h'.2.2.2.2 b c hb h1.1 (sA_sym hc hs) (h.2.2.1 c hc (by omega)).1
    exact ⟨h2.1, by omega⟩
theorem gDs_eq {F : Nat → Bool} {t : Nat} {D D' : Nat → Int} (ht : t < 216) (h : gDs F t D) (h' : gDs F t D') : ∀ c, c < 216 → D c = D' c := by
  intro c hc
  by_cases h1 : D c = -1
  · by_cases h2 : D' c = -1
    · rw [h1, h2]
    · have h3 := h'.2.2.1 c hc h2
      have := gDs_le ht h' h (D' c).toNat c hc (by omega)
      exact absurd h1 this.1
  · have h3 := h.2.2.1 c hc h1
    have h4 := gDs_le ht h h' (D c).toNat c hc (by omega)
    have h5 := h'.2.2.1 c hc h4.1
    have h6 := gDs_le ht h' h (D' c).toNat c hc (by omega)
    omega
theorem gDs_c {F G : Nat → Bool} {t : Nat} {D : Nat → Int} (h : gDs F t D) (hFG : ∀ c, c < 216 → F c = G c) : gDs G t D := by
  obtain ⟨h1, h2, h3, h4, h5⟩ := h
  refine ⟨h1, h2, fun c hc hn => ?_, h4, fun c b hc hn hs hF => ?_⟩
  · rw [← hFG c hc]; exact h3 c hc hn
  · exact h5 c b hc hn hs (by rw [hFG b (sA_lt hc hs)]; exact hF)
/-- the first (lowest) neighbour that is closer by one -/
def lcF (D : Nat → Int) (c : Nat) : Nat → Nat → Int
  | 0, _ => (c : Int)
  | k + 1, w => if sNb c w ≠ -1 ∧ 0 < D c ∧ D (sNb c w).toNat = D c - 1 then sNb c w else lcF D c k (w + 1)
def lcN (D : Nat → Int) (c : Nat) : Nat := (lcF D c 6 0).toNat
def lcW (D : Nat → Int) (a : Nat) : Nat → Nat
  | 0 => a
  | k + 1 => lcN D (lcW D a k)
theorem sNb0 {c : Nat} : sNb c 0 = if c / 36 ≠ 0 then (c : Int) - 36 else -1 := rfl
theorem sNb1 {c : Nat} : sNb c 1 = if c / 6 % 6 ≠ 0 then (c : Int) - 6 else -1 := rfl
theorem sNb2 {c : Nat} : sNb c 2 = if c % 6 ≠ 0 then (c : Int) - 1 else -1 := rfl
theorem sNb3 {c : Nat} : sNb c 3 = if c % 6 ≠ 5 then (c : Int) + 1 else -1 := rfl
theorem sNb4 {c : Nat} : sNb c 4 = if c / 6 % 6 ≠ 5 then (c : Int) + 6 else -1 := rfl
theorem sNb5 {c : Nat} : sNb c 5 = if c / 36 ≠ 5 then (c : Int) + 36 else -1 := rfl
theorem sNb_r {c w : Nat} (hc : c < 216) (hw : w < 6) : sNb c w = -1 ∨ (0 ≤ sNb c w ∧ sNb c w < 216) := by
  obtain rfl | rfl | rfl | rfl | rfl | rfl : w = 0 ∨ w = 1 ∨ w = 2 ∨ w = 3 ∨ w = 4 ∨ w = 5 := by omega
  all_goals (simp only [sNb0, sNb1, sNb2, sNb3, sNb4, sNb5]; split <;> omega)
theorem sNb_A {c w : Nat} (hw : w < 6) (h : sNb c w ≠ -1) (hc : c < 216) : sA c (sNb c w).toNat := by
  unfold sA
  revert h
  obtain rfl | rfl | rfl | rfl | rfl | rfl : w = 0 ∨ w = 1 ∨ w = 2 ∨ w = 3 ∨ w = 4 ∨ w = 5 := by omega
  all_goals (simp only [sNb0, sNb1, sNb2, sNb3, sNb4, sNb5]; split <;> omega)
theorem sNb_x {c b : Nat} (hc : c < 216) (h : sA c b) : ∃ w, w < 6 ∧ sNb c w = (b : Int) := by
  unfold sA at h
  rcases h with ⟨h, rfl⟩ | ⟨h, rfl⟩ | ⟨h, rfl⟩ | ⟨h, rfl⟩ | ⟨h, rfl⟩ | ⟨h, rfl⟩
  · exact ⟨2, by omega, by show (if c % 6 ≠ 0 then (c : Int) - 1 else -1) = _; rw [if_pos h]; omega⟩
  · exact ⟨3, by omega, by show (if c % 6 ≠ 5 then (c : Int) + 1 else -1) = _; rw [if_pos h]; omega⟩
  · exact ⟨1, by omega, by show (if c / 6 % 6 ≠ 0 then (c : Int) - 6 else -1) = _; rw [if_pos h]; omega⟩
  · exact ⟨4, by omega, by show (if c / 6 % 6 ≠ 5 then (c : Int) + 6 else -1) = _; rw [if_pos h]; omega⟩
  · exact ⟨0, by omega, by show (if c / 36 ≠ 0 then (c : Int) - 36 else -1) = _; rw [if_pos h]; omega⟩
  · exact ⟨5, by omega, by show (if c / 36 ≠ 5 then (c : Int) + 36 else -1) = _; rw [if_pos h]; omega⟩
theorem sNb_mono {c w v : Nat} (hc : c < 216) (hv : v < 6) (hwv : w < v) (h1 : sNb c w ≠ -1) (h2 : sNb c v ≠ -1) : sNb c w < sNb c v := by
  obtain rfl | rfl | rfl | rfl | rfl : w = 0 ∨ w = 1 ∨ w = 2 ∨ w = 3 ∨ w = 4 := by omega
  all_goals
    obtain rfl | rfl | rfl | rfl | rfl : v = 1 ∨ v = 2 ∨ v = 3 ∨ v = 4 ∨ v = 5 := by omega
    all_goals
      first
      | omega
      | (revert h1 h2; simp only [sNb0, sNb1, sNb2, sNb3, sNb4, sNb5]; split <;> split <;> omega)
/-- lcF finds the least closer neighbour -/
theorem lcF_p {D : Nat → Int} {c : Nat} (hc : c < 216) : ∀ (k w : Nat), w + k = 6 → (lcF D c k w = (c : Int) ∧ ∀ v, w ≤ v → v < 6 → ¬ (sNb c v ≠ -1 ∧ 0 < D c ∧ D (sNb c v).toNat = D c - 1)) ∨ ∃ v, w ≤ v ∧ v < 6 ∧ lcF D c k w = sNb c v ∧ (sNb c v ≠ -1 ∧ 0 < D c ∧ D (sNb c v).toNat = D c - 1) ∧ ∀ u, w ≤ u → u < v → ¬ (sNb c u ≠ -1 ∧ 0 < D c ∧ D (sNb c u).toNat = D c - 1) := by
  intro k
  induction k with
  | zero => intro w hw; exact .inl ⟨rfl, fun v h1 h2 => by omega⟩
  | succ k ih =>
    intro w hw
    rw [lcF]
    by_cases h : sNb c w ≠ -1 ∧ 0 < D c ∧ D (sNb c w).toNat = D c - 1
    · rw [if_pos h]
      exact .inr ⟨w, Nat.le_refl _, by omega, rfl, h, fun u h1 h2 => by omega⟩
    · rw [if_neg h]
      rcases ih (w + 1) (by omega) with ⟨h1, h2⟩ | ⟨v, h1, h2, h3, h4, h5⟩
      · refine .inl ⟨h1, fun v hv hv2 => ?_⟩
        by_cases e : v = w
        · rw [e]; exact h
        · exact h2 v (by omega) hv2
      · refine .inr ⟨v, by omega, h2, h3, h4, fun u hu hu2 => ?_⟩
        by_cases e : u = w
        · rw [e]; exact h
        · exact h5 u (by omega) hu2
theorem lcN_lt {D : Nat → Int} {c : Nat} (hc : c < 216) : lcN D c < 216 := by
  unfold lcN
  rcases lcF_p (D := D) hc 6 0 rfl with ⟨h, -⟩ | ⟨v, -, hv, h, h2, -⟩
  · rw [h]; omega
  · rw [h]
    rcases sNb_r hc hv with e | e
    · exact absurd e h2.1
    · omega
theorem lcW_lt {D : Nat → Int} {a : Nat} (ha : a < 216) : ∀ k, lcW D a k < 216
  | 0 => ha
  | k + 1 => lcN_lt (lcW_lt ha k)
theorem lcN_low {F : Nat → Bool} {t : Nat} {D : Nat → Int} (h : gDs F t D) {c : Nat} (hc : c < 216) (h0 : 0 < D c) : sA c (lcN D c) ∧ D (lcN D c) = D c - 1 ∧ ∀ b, sA c b → D b = D c - 1 → lcN D c ≤ b := by
  obtain ⟨b0, hb0, hs0, hD0⟩ := h.2.2.2.1 c hc h0
  unfold lcN
  rcases lcF_p (D := D) hc 6 0 rfl with ⟨-, hno⟩ | ⟨v, -, hv, e, h2, h3⟩
  · obtain ⟨w, hw, e⟩ := sNb_x hc hs0
    exact absurd ⟨by omega, h0, by rw [e, Int.toNat_natCast]; exact hD0⟩ (hno w (by omega) hw)
  · rw [e]
    refine ⟨sNb_A hv h2.1 hc, h2.2.2, fun b hb hbD => ?_⟩
    obtain ⟨w, hw, ew⟩ := sNb_x hc hb
    by_cases hwv : w < v
    · exact absurd ⟨by omega, h0, by rw [ew, Int.toNat_natCast]; exact hbD⟩ (h3 w (by omega) hwv)
    · by_cases e2 : w = v
      · rw [← e2, ew]; omega
      · have := sNb_mono hc hw (show v < w by omega) h2.1 (by omega)
        omega
