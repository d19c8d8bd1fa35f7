/-! Pairs: wire. -/
theorem sHas_c {S T : Nat → Bool} (h : ∀ c, c < 216 → S c = T c) {x : Int} : sHas S x = sHas T x := by
  unfold sHas
  by_cases hx : 0 ≤ x ∧ x < 216
  · rw [decide_eq_true hx, h x.toNat (by omega)]
  · rw [decide_eq_false hx]; rfl
theorem wF_c {g g' : Nat → Option (List Nat)} {S T : Nat → Bool} {c : Nat} (h : ∀ c, c < 216 → S c = T c) (hg : ∀ b, g b = g' b) : ∀ k w, wF g S c k w = wF g' T c k w
  | 0, _ => rfl
  | k + 1, w => by rw [wF, wF, sHas_c h, hg, wF_c h hg k (w + 1)]
theorem wG_c : ∀ (r : Nat) (S T : Nat → Bool) (c : Nat), (∀ c, c < 216 → S c = T c) → wG r S c = wG r T c
  | 0, _, _, _, _ => rfl
  | r + 1, S, T, c, h => by
    rw [wG, wG]
    have hd : ∀ x, x < 216 → sDrp S (c : Int) x = sDrp T (c : Int) x := fun x hx => by unfold sDrp; rw [h x hx]
    rw [wF_c hd fun b => wG_c r _ _ b hd]
theorem wF_p {g : Nat → Option (List Nat)} {S : Nat → Bool} {c : Nat} : ∀ k w, w + k = 6 → (wF g S c k w = none ∧ ∀ v, w ≤ v → v < 6 → sHas S (sNb c v) = true → g (sNb c v).toNat = none) ∨ ∃ v, w ≤ v ∧ v < 6 ∧ sHas S (sNb c v) = true ∧ g (sNb c v).toNat ≠ none ∧ wF g S c k w = g (sNb c v).toNat ∧ ∀ u, w ≤ u → u < v → sHas S (sNb c u) = true → g (sNb c u).toNat = none
  | 0, w, h => .inl ⟨rfl, fun v h1 h2 => absurd h2 (by omega)⟩
  | k + 1, w, h => by
    rw [wF]
    have ih := wF_p (g := g) (S := S) (c := c) k (w + 1) (by omega)
    by_cases hs : sHas S (sNb c w) = true
    · rw [if_pos hs]
      cases hg : g (sNb c w).toNat with
      | some l => exact .inr ⟨w, Nat.le_refl _, by omega, hs, (by rw [hg]; intro e; cases e), hg.symm, fun u h1 h2 => by omega⟩
      | none =>
        rcases ih with ⟨h1, h2⟩ | ⟨v, h1, h2, h3, h4, h5, h6⟩
        · refine .inl ⟨h1, fun v v1 v2 v3 => ?_⟩
          by_cases e : v = w
          · rw [e]; exact hg
          · exact h2 v (by omega) v2 v3
        · refine .inr ⟨v, by omega, h2, h3, h4, h5, fun u u1 u2 u3 => ?_⟩
          by_cases e : u = w
          · rw [e]; exact hg
          · exact h6 u (by omega) u2 u3
    · rw [if_neg hs]
      rcases ih with ⟨h1, h2⟩ | ⟨v, h1, h2, h3, h4, h5, h6⟩
      · refine .inl ⟨h1, fun v v1 v2 v3 => ?_⟩
        by_cases e : v = w
        · subst e; exact absurd v3 hs
        · exact h2 v (by omega) v2 v3
      · refine .inr ⟨v, by omega, h2, h3, h4, h5, fun u u1 u2 u3 => ?_⟩
        by_cases e : u = w
        · subst e; exact absurd u3 hs
        · exact h6 u (by omega) u2 u3
theorem wA_p {m : Nat} {P : Nat → Bool} : ∀ k c, (wA m P k c = none ∧ ∀ v, c ≤ v → v < c + k → P v = true → wG m P v = none) ∨ ∃ v, c ≤ v ∧ v < c + k ∧ P v = true ∧ wG m P v ≠ none ∧ wA m P k c = wG m P v ∧ ∀ u, c ≤ u → u < v → P u = true → wG m P u = none
  | 0, c => .inl ⟨rfl, fun v h1 h2 => absurd h2 (by omega)⟩
  | k + 1, c => by
    rw [wA]
    have ih := wA_p (m := m) (P := P) k (c + 1)
    by_cases hs : P c = true
    · rw [if_pos hs]
      cases hg : wG m P c with
      | some l => exact .inr ⟨c, Nat.le_refl _, by omega, hs, (by rw [hg]; intro e; cases e), hg.symm, fun u h1 h2 => by omega⟩
      | none =>
        rcases ih with ⟨h1, h2⟩ | ⟨v, h1, h2, h3, h4, h5, h6⟩
        · refine .inl ⟨h1, fun v v1 v2 v3 => ?_⟩
          by_cases e : v = c
          · rw [e]; exact hg
          · exact h2 v (by omega) (by omega) v3
        · refine .inr ⟨v, by omega, by omega, h3, h4, h5, fun u u1 u2 u3 => ?_⟩
          by_cases e : u = c
          · rw [e]; exact hg
          · exact h6 u (by omega) u2 u3
    · rw [if_neg hs]
      rcases ih with ⟨h1, h2⟩ | ⟨v, h1, h2, h3, h4, h5, h6⟩
      · refine .inl ⟨h1, fun v v1 v2 v3 => ?_⟩
        by_cases e : v = c
        · subst e; exact absurd v3 hs
        · exact h2 v (by omega) (by omega) v3
      · refine .inr ⟨v, by omega, by omega, h3, h4, h5, fun u u1 u2 u3 => ?_⟩
        by_cases e : u = c
        · subst e; exact absurd u3 hs
        · exact h6 u (by omega) u2 u3
/-- the cells not done yet -/
def wSs (W : Nat → Nat) (m set : Nat) : Nat → Bool := fun c => (List.range m).any fun j => !set.testBit j && decide (W j = c)
theorem wSs_t {W : Nat → Nat} {m set c : Nat} : wSs W m set c = true ↔ ∃ j, j < m ∧ set.testBit j = false ∧ W j = c := by
  unfold wSs
  rw [List.any_eq_true]
  constructor
  · rintro ⟨j, h1, h2⟩
    rw [Bool.and_eq_true, Bool.not_eq_true', decide_eq_true_iff] at h2
    exact ⟨j, List.mem_range.mp h1, h2.1, h2.2⟩
  · rintro ⟨j, h1, h2, h3⟩
    exact ⟨j, List.mem_range.mpr h1, by rw [h2, decide_eq_true h3]; rfl⟩
def wIt (B : Nat → Nat → Bool) (m s a : Nat) : Nat → Nat × Nat
  | 0 => (s, a)
  | i + 1 => ((wIt B m s a i).1 ||| 2 ^ (wNx (wOk B m 1 (wIt B m s a i).1 (wIt B m s a i).2) m 0), wNx (wOk B m 1 (wIt B m s a i).1 (wIt B m s a i).2) m 0)
theorem wIt_s {B : Nat → Nat → Bool} {m s a : Nat} : ∀ i, wIt B m s a (i + 1) = wIt B m (s ||| 2 ^ (wNx (wOk B m 1 s a) m 0)) (wNx (wOk B m 1 s a) m 0) i
  | 0 => rfl
  | i + 1 => by
    have ih := wIt_s (B := B) (m := m) (s := s) (a := a) i
    rw [wIt, ih]
    rfl
theorem wOk_1 {B : Nat → Nat → Bool} {m k s a : Nat} (hk : 0 < k) : wOk B m k s a = wOk B m 1 s a := by
  funext j
  unfold wOk
  rw [decide_eq_false (show ¬ k = 0 by omega), decide_eq_false (show ¬ (1 : Nat) = 0 by decide)]
theorem wSt_it {B : Nat → Nat → Bool} {m : Nat} : ∀ i, wSt B m (i + 1) = wIt B m (wSt B m 1).1 (wSt B m 1).2 i
  | 0 => rfl
  | i + 1 => by
    have ih := wSt_it (B := B) (m := m) i
    rw [wSt, wIt, ih, wOk_1 (Nat.succ_pos i)]
section
variable {B : Nat → Nat → Bool} {W : Nat → Nat} {m : Nat}
theorem wG_w (h216 : ∀ j, j < m → W j < 216) (hmo : ∀ i j, i < j → j < m → W i < W j) (hB : ∀ i j, i < m → j < m → (B i j = true ↔ sA (W i) (W j))) : ∀ (r set k : Nat) (T : Nat → Bool), wMs m set = r → set < 2 ^ m → k < m → set.testBit k = true → (∀ c, c < 216 → T c = (wSs W m set c || decide (c = W k))) →
    (wE B m m set k = true → ∃ l, wG (r + 1) T (W k) = some (W k :: l) ∧ ∀ i, i < r → l.getD i 0 = W (wIt B m set k (i + 1)).2) ∧ (wE B m m set k = false → wG (r + 1) T (W k) = none) := by
  have inj : ∀ i j, i < m → j < m → W i = W j → i = j := fun i j hi hj e => by
    rcases Nat.lt_trichotomy i j with h | h | h
    · have := hmo i j h hj; omega
    · exact h
    · have := hmo j i h hi; omega
  intro r
  induction r with
  | zero =>
    intro set k T hr hs hk hb hT
    have hf := wMs_0 hs hr
    rw [wG, if_pos rfl, hf]
    refine ⟨fun _ => ⟨[], rfl, fun i hi => absurd hi (Nat.not_lt_zero _)⟩, fun h => ?_⟩
    rw [wE_u] at h
    cases h
  | succ r ih =>
    intro set k T hr hs hk hb hT
    have hne : set ≠ 2 ^ m - 1 := fun e => by
      have : wMs m set = 0 := by
        unfold wMs
        rw [e]
        exact sN_0.mpr fun i hi => by rw [full_b hi]; rfl
      omega
    have hdr : ∀ c, c < 216 → sDrp T ((W k : Nat) : Int) c = wSs W m set c := fun c hc => by
      unfold sDrp
      rw [hT c hc]
      by_cases e : c = W k
      · rw [decide_eq_true e, decide_eq_true (show (c : Int) = ((W k : Nat) : Int) by omega), Bool.or_true]
        show false = _
        cases hw : wSs W m set c with
        | false => rfl
        | true =>
          obtain ⟨j, j1, j2, j3⟩ := wSs_t.mp hw
          rw [inj j k j1 hk (j3.trans e), hb] at j2
          cases j2
      · rw [decide_eq_false e, decide_eq_false (show ¬ (c : Int) = ((W k : Nat) : Int) by omega), Bool.or_false]
        show (_ && true) = _
        rw [Bool.and_true]
    rw [wG, if_neg (Nat.succ_ne_zero r), wF_c (T := wSs W m set) hdr (fun b => wG_c (r + 1) _ (wSs W m set) b hdr)]
    -- a free neighbour's continuation
    have go : ∀ j, j < m → set.testBit j = false → (wE B m m (set ||| 2 ^ j) j = true → ∃ l, wG (r + 1) (wSs W m set) (W j) = some (W j :: l) ∧ ∀ i, i < r → l.getD i 0 = W (wIt B m (set ||| 2 ^ j) j (i + 1)).2) ∧ (wE B m m (set ||| 2 ^ j) j = false → wG (r + 1) (wSs W m set) (W j) = none) := fun j hj hbj => by
      refine ih (set ||| 2 ^ j) j (wSs W m set) (by have := wMs_o hj hbj; omega) (or_lt hs hj) hj (by rw [Nat.testBit_or, Nat.testBit_two_pow_self, Bool.or_true]) fun c hc => ?_
      rw [Bool.eq_iff_iff, Bool.or_eq_true, wSs_t, wSs_t, decide_eq_true_iff]
      constructor
      · rintro ⟨i, i1, i2, i3⟩
        by_cases e : i = j
        · subst e; exact .inr i3.symm
        · exact .inl ⟨i, i1, by rw [Nat.testBit_or, i2, Nat.testBit_two_pow_of_ne (Ne.symm e)]; rfl, i3⟩
      · rintro (⟨i, i1, i2, i3⟩ | e)
        · rw [Nat.testBit_or, Bool.or_eq_false_iff] at i2
          exact ⟨i, i1, i2.1, i3⟩
        · exact ⟨j, hj, hbj, e.symm⟩
    -- a way that is open
    have way : ∀ v, v < 6 → sHas (wSs W m set) (sNb (W k) v) = true → ∃ j, j < m ∧ set.testBit j = false ∧ B k j = true ∧ sNb (W k) v = ((W j : Nat) : Int) := fun v hv h => by
      unfold sHas at h
      rw [Bool.and_eq_true, decide_eq_true_iff] at h
      obtain ⟨j, j1, j2, j3⟩ := wSs_t.mp h.2
      have e : sNb (W k) v = ((W j : Nat) : Int) := by omega
      refine ⟨j, j1, j2, (hB k j hk j1).mpr ?_, e⟩
      have := sNb_A hv (by omega) (h216 k hk)
      rw [e, Int.toNat_natCast] at this
      exact this
    refine ⟨fun hE => ?_, fun hE => ?_⟩
    · obtain ⟨j2, g1, g2, g3, g4⟩ := (wE_s hs hne).mp hE
      obtain ⟨p1, p2, p3⟩ := wNx_p (p := wOk B m 1 set k) (j0 := j2) m 0 (Nat.zero_le _) (by omega) (by unfold wOk; rw [g2, g3, g4]; rfl)
      generalize hj0 : wNx (wOk B m 1 set k) m 0 = j0 at p1 p2 p3
      have p1' := p1
      unfold wOk at p1'
      rw [Bool.and_eq_true, Bool.and_eq_true, Bool.not_eq_true', decide_eq_false (show ¬ (1 : Nat) = 0 by decide), Bool.false_or] at p1'
      obtain ⟨⟨q1, q2⟩, q3⟩ := p1'
      have hj0m : j0 < m := by omega
      obtain ⟨w0, w1, w2⟩ := sNb_x (h216 k hk) ((hB k j0 hk hj0m).mp q2)
      obtain ⟨l', e1, e2⟩ := (go j0 hj0m q1).1 q3
      have hs0 : sHas (wSs W m set) (sNb (W k) w0) = true := by
        unfold sHas
        rw [w2, Int.toNat_natCast, decide_eq_true (by have := h216 j0 hj0m; omega)]
        exact wSs_t.mpr ⟨j0, hj0m, q1, rfl⟩
      rcases wF_p (g := wG (r + 1) (wSs W m set)) (S := wSs W m set) (c := W k) 6 0 rfl with ⟨f1, f2⟩ | ⟨v, f1, f2, f3, f4, f5, f6⟩
      · have := f2 w0 (Nat.zero_le _) w1 hs0
        rw [w2, Int.toNat_natCast, e1] at this
        cases this
      · obtain ⟨j1, i1, i2, i3, i4⟩ := way v f2 f3
        have hok : wOk B m 1 set k j1 = true := by
          unfold wOk
          rw [i2, i3]
          cases hw : wE B m m (set ||| 2 ^ j1) j1 with
          | true => rfl
          | false =>
            have := (go j1 i1 i2).2 hw
            rw [i4, Int.toNat_natCast] at f4
            exact absurd this f4
        have hle : j0 ≤ j1 := Nat.le_of_not_lt fun q => by rw [p3 j1 (Nat.zero_le _) q] at hok; cases hok
        have hv : v = w0 := by
          rcases Nat.lt_trichotomy v w0 with h | h | h
          · have := sNb_mono (h216 k hk) w1 h (by omega) (by omega)
            rw [i4, w2] at this
            rcases Nat.lt_or_ge j0 j1 with q | q
            · have := hmo j0 j1 q i1; omega
            · have : j0 = j1 := by omega
              subst this; omega
          · exact h
          · have := f6 w0 (Nat.zero_le _) h hs0
            rw [w2, Int.toNat_natCast, e1] at this
            cases this
        rw [hv, w2, Int.toNat_natCast, e1] at f5
        rw [f5]
        refine ⟨W j0 :: l', rfl, fun i hi => ?_⟩
        rw [wIt_s, hj0]
        cases i with
        | zero => rfl
        | succ i => exact e2 i (by omega)
    · rcases wF_p (g := wG (r + 1) (wSs W m set)) (S := wSs W m set) (c := W k) 6 0 rfl with ⟨f1, f2⟩ | ⟨v, f1, f2, f3, f4, f5, f6⟩
      · rw [f1]; rfl
      · obtain ⟨j1, i1, i2, i3, i4⟩ := way v f2 f3
        rw [i4, Int.toNat_natCast] at f4
        have hw : wE B m m (set ||| 2 ^ j1) j1 = true := by
          cases hw : wE B m m (set ||| 2 ^ j1) j1 with
          | true => rfl
          | false => exact absurd ((go j1 i1 i2).2 hw) f4
        rw [(wE_s hs hne).mpr ⟨j1, i1, i2, i3, hw⟩] at hE
        cases hE
/-- all wires -/
theorem gWr_w {P : Nat → Bool} (hm : sN 216 P = m) (h216 : ∀ j, j < m → W j < 216) (hmo : ∀ i j, i < j → j < m → W i < W j) (hB : ∀ i j, i < m → j < m → (B i j = true ↔ sA (W i) (W j))) (hP : ∀ c, c < 216 → (P c = true ↔ ∃ j, j < m ∧ W j = c)) :
    (gWr P).isSome = wIs B m ∧ ∀ l, gWr P = some l → ∀ i, i < m → l.getD i 0 = W (wSt B m (i + 1)).2 := by
  unfold gWr wIs
  rw [hm]
  by_cases h0 : m = 0
  · rw [if_pos h0, decide_eq_true h0]
    exact ⟨rfl, fun l _ i hi => absurd hi (by omega)⟩
  · rw [if_neg h0, decide_eq_false h0, Bool.false_or]
    obtain ⟨r, rfl⟩ : ∃ r, m = r + 1 := ⟨m - 1, by omega⟩
    have hlt : ∀ j, j < r + 1 → 2 ^ j < 2 ^ (r + 1) := fun j hj => Nat.pow_lt_pow_right (by decide) hj
    have one : ∀ j, j < r + 1 → wMs (r + 1) (2 ^ j) = r := fun j hj => by
      have := wMs_o (m := r + 1) (set := 0) hj (Nat.zero_testBit j)
      rw [Nat.zero_or] at this
      have e : wMs (r + 1) 0 = r + 1 := by
        unfold wMs
        have : ∀ k, sN k (fun i => !(0 : Nat).testBit i) = k := fun k => by
          induction k with
          | zero => rfl
          | succ k ih => rw [sN_s, ih, Nat.zero_testBit]; rfl
        exact this _
      omega
    have go : ∀ j, j < r + 1 → (wE B (r + 1) (r + 1) (2 ^ j) j = true → ∃ l, wG (r + 1) P (W j) = some (W j :: l) ∧ ∀ i, i < r → l.getD i 0 = W (wIt B (r + 1) (2 ^ j) j (i + 1)).2) ∧ (wE B (r + 1) (r + 1) (2 ^ j) j = false → wG (r + 1) P (W j) = none) := fun j hj => by
      refine wG_w h216 hmo hB r (2 ^ j) j P (one j hj) (hlt j hj) hj Nat.testBit_two_pow_self fun c hc => ?_
      rw [Bool.eq_iff_iff, Bool.or_eq_true, wSs_t, decide_eq_true_iff, hP c hc]
      constructor
      · rintro ⟨i, i1, i2⟩
        by_cases e : i = j
        · subst e; exact .inr i2.symm
        · exact .inl ⟨i, i1, Nat.testBit_two_pow_of_ne (Ne.symm e), i2⟩
      · rintro (⟨i, i1, i2, i3⟩ | e)
        · exact ⟨i, i1, i3⟩
        · exact ⟨j, hj, e.symm⟩
    have inP : ∀ j, j < r + 1 → P (W j) = true := fun j hj => (hP _ (h216 j hj)).mpr ⟨j, hj, rfl⟩
    rcases wA_p (m := r + 1) (P := P) 216 0 with ⟨f1, f2⟩ | ⟨v, f1, f2, f3, f4, f5, f6⟩
    · rw [f1]
      refine ⟨?_, fun l h => by cases h⟩
      cases hw : (List.range (r + 1)).any (fun k => wE B (r + 1) (r + 1) (2 ^ k) k) with
      | false => rfl
      | true =>
        obtain ⟨j, j1, j2⟩ := List.any_eq_true.mp hw
        have hj := List.mem_range.mp j1
        obtain ⟨l, e1, -⟩ := (go j hj).1 j2
        rw [f2 (W j) (Nat.zero_le _) (by have := h216 j hj; omega) (inP j hj)] at e1
        cases e1
    · obtain ⟨j1, i1, i2⟩ := (hP v (by omega)).mp f3
      have hok : wE B (r + 1) (r + 1) (2 ^ j1) j1 = true := by
        cases hw : wE B (r + 1) (r + 1) (2 ^ j1) j1 with
        | true => rfl
        | false => rw [← i2] at f4; exact absurd ((go j1 i1).2 hw) f4
      obtain ⟨l, e1, e2⟩ := (go j1 i1).1 hok
      have hfirst : wSt B (r + 1) 1 = (2 ^ j1, j1) := by
        have hk : ∀ j, wOk B (r + 1) 0 0 0 j = wE B (r + 1) (r + 1) (2 ^ j) j := fun j => by
          unfold wOk
          rw [Nat.zero_testBit, Nat.zero_or]
          rfl
        obtain ⟨p1, p2, p3⟩ := wNx_p (p := wOk B (r + 1) 0 0 0) (j0 := j1) (r + 1) 0 (Nat.zero_le _) (by omega) ((hk j1).trans hok)
        have hj : wNx (wOk B (r + 1) 0 0 0) (r + 1) 0 = j1 := by
          rcases Nat.lt_or_ge (wNx (wOk B (r + 1) 0 0 0) (r + 1) 0) j1 with q | q
          · obtain ⟨l', e1', -⟩ := (go _ (by omega)).1 ((hk _).symm.trans p1)
            rw [f6 _ (Nat.zero_le _) (by rw [← i2]; exact hmo _ _ q i1) (inP _ (by omega))] at e1'
            cases e1'
          · omega
        show (0 ||| 2 ^ wNx (wOk B (r + 1) 0 0 0) (r + 1) 0, wNx (wOk B (r + 1) 0 0 0) (r + 1) 0) = _
        rw [hj, Nat.zero_or]
      rw [f5, ← i2, e1]
      refine ⟨?_, fun l0 hl i hi => ?_⟩
      · have : ((List.range (r + 1)).any fun k => wE B (r + 1) (r + 1) (2 ^ k) k) = true := List.any_eq_true.mpr ⟨j1, List.mem_range.mpr i1, hok⟩
        rw [this]; rfl
      · cases hl
        rw [wSt_it, hfirst]
        cases i with
        | zero => rfl
        | succ i => exact e2 i (by omega)
end

theorem lcL_o {L : Nat → Bool} : ∀ c, (lcL L c).Pairwise (· < ·)
  | 0 => List.Pairwise.nil
  | c + 1 => by
    rw [lcL_s, List.pairwise_append]
    refine ⟨lcL_o c, ?_, fun x hx y hy => ?_⟩
    · split
      · exact List.pairwise_singleton _ _
      · exact List.Pairwise.nil
    · have h1 : x < c := List.mem_range.mp (List.mem_filter.mp hx).1
      split at hy
      · rw [List.mem_singleton] at hy; omega
      · cases hy
theorem lcL_at {L : Nat → Bool} {c j : Nat} (hj : j < (lcL L c).length) : (lcL L c).getD j 0 = (lcL L c)[j] := by
  rw [List.getD_eq_getElem?_getD, List.getElem?_eq_getElem hj]; rfl
theorem uL_e {P : Nat → Bool} : ∀ k, uL P k = (sN k P : Int) - 2 * (sN k (fun c => P c && oddB c) : Int)
  | 0 => rfl
  | k + 1 => by
    rw [uL, uL_e k, sN_s, sN_s]
    unfold oddB
    cases P k with
    | false => simp
    | true =>
      rw [if_pos rfl, Bool.true_and]
      by_cases h : (k % 6 + k / 6 % 6 + k / 36) % 2 = 0
      · rw [if_pos h, decide_eq_false (by omega)]
        simp only [Bool.toNat_true, Bool.toNat_false]
        omega
      · rw [if_neg h, decide_eq_true (by omega)]
        simp only [Bool.toNat_true]
        omega
theorem ba_eq {P : Nat → Bool} : baB P = gBar P := by
  unfold baB gBar
  rw [uL_e, Bool.eq_iff_iff, decide_eq_true_iff, Bool.or_eq_true, Bool.or_eq_true, decide_eq_true_iff, decide_eq_true_iff, decide_eq_true_iff]
  omega
theorem baB_c {S T : Nat → Bool} (h : ∀ c, c < 216 → S c = T c) : baB S = baB T := by
  unfold baB
  rw [sN_c (f := fun c => S c && oddB c) (g := fun c => T c && oddB c) fun i hi => by rw [h i hi], sN_c h, sPc_c h]
theorem lcL_c {S T : Nat → Bool} {n : Nat} (h : ∀ c, c < n → S c = T c) : lcL S n = lcL T n := by
  unfold lcL
  exact List.filter_congr fun x hx => h x (List.mem_range.mp hx)
/-- what wire tells, here and there -/
theorem wi_eq {M' : vi_M} (hB : mBx M') {P : Nat → Bool} (hP : ∀ c, P c = true → c < 216 ∧ mIc M' (c : Int)) {L : Nat → Bool} (hL : ∀ c, c < 216 → L c = P c) {i : Int} (hi : -1 ≤ i) : wiF M' L i = gWi P i := by
  unfold wiF gWi
  rw [if_neg (show ¬ i = -2 by omega), baB_c hL, ba_eq, sN_c hL, lcL_c hL]
  by_cases hb : gBar P = true
  · rw [if_pos hb, if_pos hb]
  · rw [if_neg hb, if_neg hb]
    by_cases h14 : 14 < sN 216 P
    · rw [if_pos h14, if_pos h14]
    · rw [if_neg h14, if_neg h14]
      have hlen : (lcL P 216).length = sN 216 P := lcL_l 216
      generalize hm : sN 216 P = m at *
      have at' : ∀ j, j < m → (fun k => (lcL P 216).getD k 0) j < 216 ∧ P ((fun k => (lcL P 216).getD k 0) j) = true := fun j hj => lcL_m (by omega)
      obtain ⟨e1, e2⟩ := @gWr_w (wB2 M' fun k => (lcL P 216).getD k 0) (fun k => (lcL P 216).getD k 0) m P hm (fun j hj => (at' j hj).1) (fun x y hxy hy => by
        show (lcL P 216).getD x 0 < (lcL P 216).getD y 0
        rw [lcL_at (by omega), lcL_at (by omega)]
        exact List.pairwise_iff_getElem.mp (lcL_o 216) x y (by omega) (by omega) hxy) (fun x y hx hy => abB_e hB (hP _ (at' x hx).2).2 (hP _ (at' y hy).2).2) (fun c hc => ⟨fun h => by
        have : c ∈ lcL P 216 := List.mem_filter.mpr ⟨List.mem_range.mpr hc, h⟩
        obtain ⟨j, j1, j2⟩ := List.getElem_of_mem this
        exact ⟨j, by omega, by show (lcL P 216).getD j 0 = c; rw [lcL_at j1]; exact j2⟩, fun ⟨j, j1, j2⟩ => by rw [← j2]; exact (at' j j1).2⟩)
      by_cases h1 : i = -1
      · rw [if_pos h1, if_pos h1, e1]
      · rw [if_neg h1, if_neg h1, ← e1]
        cases hg : gWr P with
        | none => rw [if_neg (fun h => by cases h.1)]
        | some l =>
          dsimp only
          by_cases h2 : i < (m : Int)
          · rw [if_pos ⟨rfl, h2⟩, if_pos ⟨by omega, h2⟩, e2 l hg i.toNat (by omega)]
          · rw [if_neg (fun h => h2 h.2), if_neg (fun h => h2 h.2)]
section
variable {sc : Nat → Int} {ln t a n d : Nat} {CS : Nat → List gCla} {lw : Option (List gCla)} {Y : vi_Y} {M : vi_M} {nn : Nat × Nat} {K : Option vi_V → vi_W → Prop}
theorem k_214 (hY : kY Y 151) (h9 : kY9 Y) {P : Nat → Bool} (hP : M 66 = cR P) (hJ : jJ M) {i : Int} : ∃ M', cQ M M' ∧ jJ M' ∧ ∀ K : Option vi_V → vi_W → Prop, vi_call GG (d + 70) 214 [.inr (.inr 29), .inl i] (Y, M, nn) K ↔ K (some (.inl (if i = -2 then vi_b (gBar P) else if i < -2 then -1 else gWi P i))) (Y, M', nn) := by
  obtain ⟨a1, a2, a3, a4, a5, a6, a7, a8, a9, a10, a11, a12⟩ := y_29 h9
  obtain ⟨z1, -⟩ := y_97 hY (by omega)
  obtain ⟨R, hR⟩ := hJ.1 70 (.inl rfl)
  obtain ⟨T, hT⟩ := hJ.1 72 (.inr (.inl rfl))
  obtain ⟨S, hS⟩ := hJ.1 102 (by unfold jCe; omega)
  by_cases h2 : i = -2
  · subst h2
    obtain ⟨R', T', k97⟩ := @k_97 (d + 63) Y M nn P R T hY hP hR hT
    simp only [Nat.add_assoc, Nat.reduceAdd] at k97
    refine ⟨vi_rs (vi_rs M 70 (cR R')) 72 (cR T'), cQ_t (cQ_u (q := 70) (by omega) (by omega)) (cQ_u (q := 72) (by omega) (by omega)), jJ_u (jJ_u hJ (by omega)) (by omega), fun K => vi_k (r := some (.inl _)) fun Q hQ => ?_⟩
    rw [if_pos rfl] at hQ
    clear hJ hP hR hT hS
    cases hb : gBar P with
    | false =>
      rw [hb] at hQ k97
      simp (disch := omega) only [Option.toList_some, Option.toList_none, List.nil_append, List.cons_append, List.append_nil, true_and, and_true, not_true_eq_false, not_false_eq_true, true_implies, false_implies, implies_true, and_self, Int.reduceLT, Int.reduceLE, Int.reduceEq, Int.reduceNe, Int.reduceAdd, Int.reduceSub, Int.reduceMul, Int.reduceNeg, Int.reduceToNat, Int.toNat_natCast, ↓kk_ck, ↓kk_im, ↓kk_in, e_214, s_214_0, s_214_6, s_214_16, s_214_20, s_214_21, s_214_22, s_214_27, s_214_31, s_214_39, s_214_10, s_214_35, s_214_13, a1, a9, z1, k97, ne_eq, vi_bt, vi_bf]
      exact hQ
    | true =>
      rw [hb] at hQ k97
      simp (disch := omega) only [Option.toList_some, Option.toList_none, List.nil_append, List.cons_append, List.append_nil, true_and, and_true, not_true_eq_false, not_false_eq_true, true_implies, false_implies, implies_true, and_self, Int.reduceLT, Int.reduceLE, Int.reduceEq, Int.reduceNe, Int.reduceAdd, Int.reduceSub, Int.reduceMul, Int.reduceNeg, Int.reduceToNat, Int.toNat_natCast, ↓kk_ck, ↓kk_im, ↓kk_in, e_214, s_214_0, s_214_6, s_214_16, s_214_20, s_214_21, s_214_22, s_214_27, s_214_31, s_214_39, s_214_10, s_214_35, s_214_13, a1, a9, z1, k97, ne_eq, vi_bt, vi_bf]
      exact hQ
  · by_cases h1 : i < -2
    · refine ⟨M, cQ_r, hJ, fun K => vi_k (r := some (.inl _)) fun Q hQ => ?_⟩
      rw [if_neg h2, if_pos h1] at hQ
      clear hJ
      simp (disch := omega) only [Option.toList_some, Option.toList_none, List.nil_append, List.cons_append, List.append_nil, true_and, and_true, not_true_eq_false, not_false_eq_true, true_implies, false_implies, implies_true, and_self, Int.reduceLT, Int.reduceLE, Int.reduceEq, Int.reduceNe, Int.reduceAdd, Int.reduceSub, Int.reduceMul, Int.reduceNeg, Int.reduceToNat, Int.toNat_natCast, ↓kk_ck, ↓kk_im, ↓kk_in, e_214, s_214_0, s_214_6, s_214_16, s_214_20, s_214_21, s_214_22, s_214_27, s_214_31, s_214_39, s_214_10, s_214_35, s_214_13, a1, ne_eq, h2]
      exact hQ
    · obtain ⟨M', g1, g2, g3, g4, k98⟩ := @k_98 (d + 52) Y M nn P R T S hY hP hR hT hS i
      simp only [Nat.add_assoc, Nat.reduceAdd] at k98
      refine ⟨M', ⟨fun p hp => g1 p (by omega) (by omega) (by omega) (by omega), by rw [g1 77 (by omega) (by omega) (by omega) (by omega)]⟩, ⟨fun q hq => ?_, ?_⟩, fun K => vi_k (r := some (.inl _)) fun Q hQ => ?_⟩
      · by_cases e1 : q = 70
        · subst e1; exact g2
        · by_cases e2 : q = 72
          · subst e2; exact g3
          · by_cases e3 : q = 102
            · subst e3; exact g4
            · rw [g1 q e1 e2 (by unfold jCe at hq; omega) e3]; exact hJ.1 q hq
      · rw [g1 88 (by omega) (by omega) (by omega) (by omega)]; exact hJ.2
      · rw [if_neg h2, if_neg h1] at hQ
        clear hJ hP hR hT hS g1 g2 g3 g4
        simp (disch := omega) only [Option.toList_some, Option.toList_none, List.nil_append, List.cons_append, List.append_nil, true_and, and_true, not_true_eq_false, not_false_eq_true, true_implies, false_implies, implies_true, and_self, Int.reduceLT, Int.reduceLE, Int.reduceEq, Int.reduceNe, Int.reduceAdd, Int.reduceSub, Int.reduceMul, Int.reduceNeg, Int.reduceToNat, Int.toNat_natCast, ↓kk_ck, ↓kk_im, ↓kk_in, e_214, s_214_0, s_214_6, s_214_16, s_214_20, s_214_21, s_214_22, s_214_27, s_214_31, s_214_39, s_214_10, s_214_35, s_214_13, a1, a9, z1, k98, ne_eq, h2]
        exact hQ
theorem p_214 (hW : jW sc ln t a CS lw n Y M nn) {i : Int} : jPair sc ln t (d + 70) 214 339 [.inl i] (Y, M, nn) := by
  refine jPair_q hW fun K hK => ?_
  obtain ⟨LH, LR, LS, c1, c2, c3, c4⟩ := hW.2.2.2.1
  have hB := c1.2.2.2.2.2.2.1.2.2.2.2.1
  obtain ⟨M1, q1, q2, q3⟩ := @k_214 d Y M nn hW.1.1 hW.1.2.1 _ c4.2.2.2.1 hW.2.2.2.2.2.2.2.2.2 i
  have hW1 := jW_q hW q1 q2
  rw [q3]
  refine hK _ M1 hW1 fun K2 h2 => ?_
  by_cases h : i < -2
  · rw [k_339n hW.1.1 h (by omega)]
    rw [if_neg (show ¬ i = -2 by omega), if_pos h] at h2
    exact h2 M1 hW1
  · rw [if_neg h] at h2
    refine k_339 hW.1.1 hW1.2.2.2.2.1.1 (by omega) (by omega) fun M' hs hf => ?_
    have e' : M' 114 = M 114 := (mFx_114 hf).trans (q1.1 114 (by omega))
    have hb := see_b hs e'
    have ev : wiF M' (mB (M' 126)) i = (if i = -2 then vi_b (gBar (lfS (M 114) lw n)) else gWi (lfS (M 114) lw n) i) := by
      by_cases e2 : i = -2
      · rw [if_pos e2]
        unfold wiF
        rw [if_pos e2, baB_c hb, ba_eq]
      · rw [if_neg e2]
        refine wi_eq (mBx_c e' hB) (fun c hc => ?_) hb (by omega)
        have hx := lfS_b hc
        have h3 := of_decide_eq_true hx
        refine ⟨by omega, ?_⟩
        unfold mIc
        rw [e']
        exact h3
    rw [ev]
    exact h2 M' (jW_x hW1 hf hs)
end
