/-! airs (reference): how far from air the farthest cell is; against taking the outermost away again and again. -/
theorem sInn_iff {S : Nat → Bool} {c : Nat} (hc : c < 216) : sInn S c = true ↔ S c = true ∧ (c % 6 ≠ 0 ∧ c % 6 ≠ 5 ∧ c / 6 % 6 ≠ 0 ∧ c / 6 % 6 ≠ 5 ∧ c / 36 ≠ 0 ∧ c / 36 ≠ 5) ∧ ∀ b, sA c b → S b = true := by
  unfold sInn sXl sXh sYl sYh sZl sZh sA
  simp only [Bool.and_eq_true, decide_eq_true_eq]
  constructor
  · rintro ⟨⟨⟨⟨⟨⟨h0, h1, h2⟩, h3, h4⟩, h5, h6⟩, h7, h8⟩, h9, h10⟩, h11, h12⟩
    refine ⟨h0, ⟨h1, h3, h5, h7, h9, h11⟩, ?_⟩
    rintro b (⟨-, rfl⟩ | ⟨-, rfl⟩ | ⟨-, rfl⟩ | ⟨-, rfl⟩ | ⟨-, rfl⟩ | ⟨-, rfl⟩) <;> assumption
  · rintro ⟨h0, ⟨h1, h3, h5, h7, h9, h11⟩, h⟩
    exact ⟨⟨⟨⟨⟨⟨h0, h1, h _ (.inl ⟨h1, rfl⟩)⟩, h3, h _ (.inr (.inl ⟨h3, rfl⟩))⟩, h5, h _ (.inr (.inr (.inl ⟨h5, rfl⟩)))⟩, h7, h _ (.inr (.inr (.inr (.inl ⟨h7, rfl⟩))))⟩, h9, h _ (.inr (.inr (.inr (.inr (.inl ⟨h9, rfl⟩)))))⟩, h11, h _ (.inr (.inr (.inr (.inr (.inr ⟨h11, rfl⟩)))))⟩
/-- an air beside, among the first d sides -/
def aiR (M : vi_M) (g : Nat → Int) (c : Nat) : Nat → Bool
  | 0 => false
  | d + 1 => aiR M g c d || decide (mBe M (c : Int) d = -1 ∨ g (mBe M (c : Int) d).toNat = 0)
theorem aiR_t {M : vi_M} {g : Nat → Int} {c : Nat} : ∀ d : Nat, aiR M g c d = true ↔ ∃ v, v < d ∧ (mBe M (c : Int) v = -1 ∨ g (mBe M (c : Int) v).toNat = 0)
  | 0 => by rw [aiR]; simp
  | d + 1 => by
    rw [aiR, Bool.or_eq_true, aiR_t d, decide_eq_true_eq]
    constructor
    · rintro (⟨v, h1, h2⟩ | h)
      · exact ⟨v, by omega, h2⟩
      · exact ⟨d, by omega, h⟩
    · rintro ⟨v, h1, h2⟩
      by_cases e : v = d
      · subst e; exact .inr h2
      · exact .inl ⟨v, by omega, h2⟩
theorem aiR_e {M : vi_M} (hB : mBx M) {g : Nat → Int} (hin : ∀ c, c < 216 → g c ≠ 0 → mIc M (c : Int)) {c : Nat} (hc : c < 216) (hg : g c ≠ 0) : aiR M g c 6 = !sInn (mB g) c := by
  have hic := hin c hc hg
  have hgc : mB g c = true := mB_t hg
  have key : sInn (mB g) c = true ↔ ¬ aiR M g c 6 = true := by
    rw [sInn_iff hc, aiR_t]
    constructor
    · rintro ⟨h0, ⟨n1, n2, n3, n4, n5, n6⟩, h⟩ ⟨v, hv, h2⟩
      have hb : ∀ b : Nat, sA c b → mIc M (b : Int) := fun b hb => hin b (sA_lt hc hb) (by have := h b hb; unfold mB at this; simpa using this)
      have hne : mBe M (c : Int) v ≠ -1 := by
        obtain ⟨c1, c2, c3, c4, c5⟩ := hic
        have b1 := hb _ (.inr (.inl ⟨n2, rfl⟩))
        have b2 := hb _ (.inr (.inr (.inr (.inl ⟨n4, rfl⟩))))
        have b3 := hb _ (.inr (.inr (.inr (.inr (.inr ⟨n6, rfl⟩)))))
        have d1 := b1.2.2.1
        have d2 := b2.2.2.2.1
        have d3 := b3.2.2.2.2
        clear b1 b2 b3 hb h h2 hin
        unfold mBe mAl
        obtain rfl | rfl | rfl | rfl | rfl | rfl : v = 0 ∨ v = 1 ∨ v = 2 ∨ v = 3 ∨ v = 4 ∨ v = 5 := by omega
        all_goals
          simp
          omega
      have hr := mBe_r hB hic hv
      obtain ⟨b, hb2⟩ : ∃ b : Nat, mBe M (c : Int) v = (b : Int) := ⟨(mBe M (c : Int) v).toNat, by omega⟩
      have hs := mBe_A hB hic hv hb2
      have := h b hs
      rcases h2 with h2 | h2
      · exact hne h2
      · rw [hb2, Int.toNat_natCast] at h2
        rw [mB_f h2] at this
        cases this
    · intro h
      have h' : ∀ v, v < 6 → ∃ b : Nat, mBe M (c : Int) v = (b : Int) ∧ mB g b = true := by
        intro v hv
        have hr := mBe_r hB hic hv
        by_cases e : mBe M (c : Int) v = -1
        · exact absurd ⟨v, hv, .inl e⟩ h
        · obtain ⟨b, hb2⟩ : ∃ b : Nat, mBe M (c : Int) v = (b : Int) := ⟨(mBe M (c : Int) v).toNat, by omega⟩
          refine ⟨b, hb2, mB_t fun q => h ⟨v, hv, .inr ?_⟩⟩
          rw [hb2, Int.toNat_natCast]; exact q
      obtain ⟨b0, e0, g0⟩ := h' 0 (by omega)
      obtain ⟨b1, e1, g1⟩ := h' 1 (by omega)
      obtain ⟨b2, e2, g2⟩ := h' 2 (by omega)
      obtain ⟨b3, e3, g3⟩ := h' 3 (by omega)
      obtain ⟨b4, e4, g4⟩ := h' 4 (by omega)
      obtain ⟨b5, e5, g5⟩ := h' 5 (by omega)
      have s0 := mBe_A hB hic (by omega) e0
      have s1 := mBe_A hB hic (by omega) e1
      have s2 := mBe_A hB hic (by omega) e2
      have s3 := mBe_A hB hic (by omega) e3
      have s4 := mBe_A hB hic (by omega) e4
      have s5 := mBe_A hB hic (by omega) e5
      clear h h'
      obtain ⟨⟨x1, x2⟩, ⟨x3, x4⟩, x5, x6⟩ := hB
      obtain ⟨c1, c2, c3, c4, c5⟩ := hic
      unfold mBe mAl at e0 e1 e2 e3 e4 e5
      simp at e0 e1 e2 e3 e4 e5
      have f0 : c % 6 ≠ 0 ∧ b0 = c - 1 := by split at e0 <;> omega
      have f1 : c % 6 ≠ 5 ∧ b1 = c + 1 := by split at e1 <;> omega
      have f2 : c / 6 % 6 ≠ 0 ∧ b2 = c - 6 := by split at e2 <;> omega
      have f3 : c / 6 % 6 ≠ 5 ∧ b3 = c + 6 := by split at e3 <;> omega
      have f4 : c / 36 ≠ 0 ∧ b4 = c - 36 := by split at e4 <;> omega
      have f5 : c / 36 ≠ 5 ∧ b5 = c + 36 := by split at e5 <;> omega
      refine ⟨hgc, ⟨f0.1, f1.1, f2.1, f3.1, f4.1, f5.1⟩, ?_⟩
      intro b hb
      unfold sA at hb
      rcases hb with ⟨-, rfl⟩ | ⟨-, rfl⟩ | ⟨-, rfl⟩ | ⟨-, rfl⟩ | ⟨-, rfl⟩ | ⟨-, rfl⟩
      · rw [← f0.2]; exact g0
      · rw [← f1.2]; exact g1
      · rw [← f2.2]; exact g2
      · rw [← f3.2]; exact g3
      · rw [← f4.2]; exact g4
      · rw [← f5.2]; exact g5
  cases h1 : aiR M g c 6 <;> cases h2 : sInn (mB g) c
  · have := key.mpr (by rw [h1]; simp)
    rw [h2] at this; cases this
  · rfl
  · rfl
  · exact absurd h1 (key.mp h2)
/-- how far from air, done -/
def aF (S : Nat → Bool) (D : Nat → Int) : Prop :=
  (∀ c, c < 216 → S c = false → D c = 0) ∧ (∀ c, c < 216 → S c = true → D c ≠ -1 → 1 ≤ D c) ∧ (∀ c, c < 216 → S c = true → (D c = 1 ↔ sInn S c = false)) ∧
  (∀ c, c < 216 → 2 ≤ D c → ∃ b, b < 216 ∧ sA c b ∧ D b = D c - 1) ∧
  (∀ c b, c < 216 → S c = true → D c ≠ -1 → sA c b → S b = true → D b ≠ -1 ∧ D b ≤ D c + 1)
theorem aF_a {S : Nat → Bool} {D : Nat → Int} (h : aF S D) : ∀ c, c < 216 → S c = true → 1 ≤ D c := by
  obtain ⟨h1, h2, h3, h4, h5⟩ := h
  have key : ∀ (k : Nat) (c : Nat), c < 216 → S c = true → 5 - c % 6 ≤ k → D c ≠ -1 := by
    intro k
    induction k with
    | zero =>
      intro c hc hs hk hD
      cases hi : sInn S c
      · have := (h3 c hc hs).mpr hi; omega
      · have := ((sInn_iff hc).mp hi).2.1; omega
    | succ k ih =>
      intro c hc hs hk hD
      cases hi : sInn S c
      · have := (h3 c hc hs).mpr hi; omega
      · obtain ⟨-, ⟨-, n2, -⟩, n⟩ := (sInn_iff hc).mp hi
        have hA : sA c (c + 1) := .inr (.inl ⟨n2, rfl⟩)
        have hb := sA_lt hc hA
        have := ih (c + 1) hb (n _ hA) (by omega)
        exact (h5 (c + 1) c hb (n _ hA) this (sA_sym hc hA) hs).1 hD
  intro c hc hs
  exact h2 c hc hs (key 5 c hc hs (by omega))
theorem sIt_sub {S : Nat → Bool} : ∀ (k : Nat) (c : Nat), c < 216 → sIt k S c = true → S c = true
  | 0, _, _, h => h
  | k + 1, c, hc, h => sIt_sub k c hc ((sInn_iff hc).mp h).1
theorem aF_it {S : Nat → Bool} {D : Nat → Int} (h : aF S D) : ∀ (k : Nat) (c : Nat), c < 216 → S c = true → (sIt k S c = true ↔ (k : Int) < D c) := by
  have ha := aF_a h
  obtain ⟨h1, h2, h3, h4, h5⟩ := h
  intro k
  induction k with
  | zero =>
    intro c hc hs
    have := ha c hc hs
    rw [sIt, hs]
    simp
    omega
  | succ k ih =>
    intro c hc hs
    have e1 := ha c hc hs
    rw [sIt, sInn_iff hc]
    constructor
    · rintro ⟨a1, a2, a3⟩
      have b1 := (ih c hc hs).mp a1
      by_cases e : D c = ((k + 1 : Nat) : Int)
      · exfalso
        by_cases hk : k = 0
        · subst hk
          have e3 := (h3 c hc hs).mp (by omega)
          have e4 : sInn S c = true := (sInn_iff hc).mpr ⟨a1, a2, a3⟩
          rw [e3] at e4; cases e4
        · obtain ⟨b, hb, hA, e3⟩ := h4 c hc (by omega)
          have e4 := a3 b hA
          have e5 := (ih b hb (sIt_sub k b hb e4)).mp e4
          omega
      · omega
    · intro hk
      have e2 : sInn S c = true := by
        cases hi : sInn S c
        · have := (h3 c hc hs).mpr hi; omega
        · rfl
      obtain ⟨-, a2, a3⟩ := (sInn_iff hc).mp e2
      refine ⟨(ih c hc hs).mpr (by omega), a2, fun b hb => ?_⟩
      have hb2 := sA_lt hc hb
      have hbs := a3 b hb
      have hbd := ha b hb2 hbs
      have := (h5 b c hb2 hbs (by omega) (sA_sym hc hb) hs).2
      exact (ih b hb2 hbs).mpr (by omega)
theorem aF_e {S : Nat → Bool} {D : Nat → Int} (h : aF S D) {N : Nat} : sE (sIt N S) = true ↔ ∀ c, c < 216 → S c = true → D c ≤ (N : Int) := by
  rw [sE_iff]
  constructor
  · intro hh c hc hs
    have := hh c hc
    have k := aF_it h N c hc hs
    rw [this] at k
    have : ¬ (N : Int) < D c := fun q => by have := k.mpr q; cases this
    omega
  · intro hh c hc
    cases hi : sIt N S c
    · rfl
    · have hs := sIt_sub N c hc hi
      have := (aF_it h N c hc hs).mp hi
      have := hh c hc hs
      omega
def aI (S : Nat → Bool) (x : Nat) (s : bfT) : Prop :=
  (∀ i, i < s.1 → ∃ c : Nat, s.2.1 i = (c : Int) ∧ c < 216 ∧ S c = true ∧ 1 ≤ s.2.2 c ∧ s.2.2 c ≤ (i : Int) + 1) ∧
  (∀ c, c < 216 → S c = true → s.2.2 c ≠ -1 → ∃ i, i < s.1 ∧ s.2.1 i = (c : Int)) ∧
  sN 216 (fun c => S c && decide (s.2.2 c ≠ -1)) = s.1 ∧
  (∀ i j, i ≤ j → j < s.1 → s.2.2 (s.2.1 i).toNat ≤ s.2.2 (s.2.1 j).toNat) ∧
  (∀ j, j < s.1 → x < s.1 → s.2.2 (s.2.1 j).toNat ≤ s.2.2 (s.2.1 x).toNat + 1) ∧
  (∀ i, i < x → i < s.1 → ∀ b, sA (s.2.1 i).toNat b → S b = true → s.2.2 b ≠ -1 ∧ s.2.2 b ≤ s.2.2 (s.2.1 i).toNat + 1) ∧
  (∀ c, c < 216 → 2 ≤ s.2.2 c → ∃ b, b < 216 ∧ sA c b ∧ s.2.2 b = s.2.2 c - 1) ∧
  ((∀ c, c < 216 → S c = false → s.2.2 c = 0) ∧ ∀ c, c < 216 → S c = true → (s.2.2 c = 1 ↔ sInn S c = false)) ∧ x ≤ s.1
theorem aI_le {S : Nat → Bool} {x : Nat} {s : bfT} (h : aI S x s) : s.1 ≤ 216 := by
  rw [← h.2.2.1]; exact sN_le _ _
theorem aI_new {S : Nat → Bool} {x : Nat} {s : bfT} (h : aI S x s) {c : Nat} (hc : c < 216) (hn : s.2.2 c = -1) : s.1 < 216 := by
  have h1 := sN_lt (k := 216) (f := fun c => S c && decide (s.2.2 c ≠ -1)) (g := fun _ => true) (fun _ _ _ => rfl) hc (by rw [decide_eq_false (fun k => k hn), Bool.and_false]) rfl
  have h2 := sN_le 216 (fun _ => true)
  rw [h.2.2.1] at h1
  omega
theorem aR_i {S : Nat → Bool} {x : Nat} {s : bfT} (h : aI S x s) {c : Nat} (hx : x < s.1) (hcx : s.2.1 x = (c : Int)) {b : Nat} (hb2 : b < 216) (hsA : sA c b) (hn2 : s.2.2 b = -1) :
    aI S x (s.1 + 1, vi_u s.2.1 s.1 (b : Int), vi_u s.2.2 b (s.2.2 c + 1)) ∧ vi_u s.2.1 s.1 (b : Int) x = (c : Int) ∧ (∀ c', s.2.2 c' ≠ -1 → vi_u s.2.2 b (s.2.2 c + 1) c' = s.2.2 c') := by
  obtain ⟨i1, i2, i3, i4, i5, i6, i7, ⟨i8, i9⟩, i11⟩ := h
  obtain ⟨m, q, D⟩ := s
  dsimp only at *
  obtain ⟨c', e', hc, hF, hD0, hDx⟩ := i1 x hx
  obtain rfl : c = c' := by rw [hcx] at e'; omega
  have hbF : S b = true := by
    cases hh : S b
    · have := i8 b hb2 hh; omega
    · rfl
  have hne : ∀ i, i < m → q i ≠ (b : Int) := fun i hi e => by
    obtain ⟨k, e1, -, -, e2, -⟩ := i1 i hi
    obtain rfl : k = b := by omega
    omega
  have hqm : ∀ i, i < m → vi_u q m (b : Int) i = q i := fun i hi => vi_u_o (by omega)
  have hqb : vi_u q m (b : Int) m = (b : Int) := vi_u_s
  have hD : ∀ i, i < m → vi_u D b (D c + 1) (q i).toNat = D (q i).toNat := fun i hi => by
    obtain ⟨k, e1, -, -, e2, -⟩ := i1 i hi
    exact vi_u_o (fun e => hne i hi (by omega))
  have hDb : vi_u D b (D c + 1) b = D c + 1 := vi_u_s
  have hcb : c ≠ b := fun e => by rw [e] at hD0; omega
  have hx' : D (q x).toNat = D c := by rw [hcx, Int.toNat_natCast]
  unfold aI
  dsimp only
  refine ⟨⟨?_, ?_, ?_, ?_, ?_, ?_, ?_, ⟨?_, ?_⟩, by omega⟩, by rw [hqm x hx, hcx], ?_⟩
  · intro i hi
    by_cases him : i = m
    · rw [him, hqb]
      refine ⟨b, rfl, by omega, hbF, ?_, ?_⟩
      · rw [hDb]; omega
      · rw [hDb]; omega
    · have him : i < m := by omega
      rw [hqm i him]
      obtain ⟨k, e1, e2, e3, e4, e5⟩ := i1 i him
      have := hD i him
      rw [e1, Int.toNat_natCast] at this
      exact ⟨k, e1, e2, e3, by rw [this]; exact e4, by rw [this]; exact e5⟩
  · intro k hk hks hkn
    by_cases e : k = b
    · exact ⟨m, by omega, by rw [hqb, e]⟩
    · rw [vi_u_o e] at hkn
      obtain ⟨i, hi, e2⟩ := i2 k hk hks hkn
      exact ⟨i, by omega, by rw [hqm i hi, e2]⟩
  · rw [← i3]
    refine sN_1 (j := b) (by omega) (by rw [decide_eq_false (fun k => k hn2), Bool.and_false]) (by rw [hbF, Bool.true_and]; exact decide_eq_true (by rw [hDb]; omega)) fun i hi hib => ?_
    have e : vi_u D b (D c + 1) i = D i := vi_u_o hib
    simp only [e]
  · intro i j hij hj
    by_cases hjm : j = m
    · rw [hjm, hqb, Int.toNat_natCast, hDb]
      by_cases him : i = m
      · rw [him, hqb, Int.toNat_natCast, hDb]; omega
      · have him : i < m := by omega
        rw [hqm i him, hD i him]
        have := i5 i him hx
        rw [hx'] at this
        exact this
    · rw [hqm i (by omega), hqm j (by omega), hD i (by omega), hD j (by omega)]
      exact i4 i j hij (by omega)
  · intro j hj _
    rw [hqm x hx, hD x hx, hx']
    by_cases hjm : j = m
    · rw [hjm, hqb, Int.toNat_natCast, hDb]; omega
    · rw [hqm j (by omega), hD j (by omega)]
      have := i5 j (by omega) hx
      rw [hx'] at this
      exact this
  · intro i hi hi2 k hk hkF
    rw [hqm i (by omega)] at hk ⊢
    rw [hD i (by omega)]
    have := i6 i hi (by omega) k hk hkF
    rw [vi_u_o (fun e => this.1 (by rw [e]; exact hn2))]
    exact this
  · intro k hk hk0
    by_cases e : k = b
    · subst e
      refine ⟨c, hc, sA_sym hc hsA, ?_⟩
      rw [hDb, vi_u_o hcb]; omega
    · rw [vi_u_o e] at hk0 ⊢
      obtain ⟨j, e1, e2, e3⟩ := i7 k hk hk0
      refine ⟨j, e1, e2, ?_⟩
      rw [vi_u_o (fun e => by rw [e] at e3; omega)]
      exact e3
  · intro k hk hks
    rw [vi_u_o (fun e => by rw [e, hbF] at hks; cases hks)]
    exact i8 k hk hks
  · intro k hk hks
    by_cases e : k = b
    · subst e
      rw [hDb]
      have := i9 k hk hks
      constructor
      · intro h; omega
      · intro h
        have := this.mpr h
        omega
    · rw [vi_u_o e]
      exact i9 k hk hks
  · intro k hk
    exact vi_u_o (fun e => hk (by rw [e]; exact hn2))
theorem aI_s {S : Nat → Bool} {x : Nat} {s : bfT} (h : aI S x s) {c : Nat} (hx : x < s.1) (hcx : s.2.1 x = (c : Int)) (hn : ∀ b, sA c b → S b = true → s.2.2 b ≠ -1 ∧ s.2.2 b ≤ s.2.2 c + 1) : aI S (x + 1) s := by
  obtain ⟨i1, i2, i3, i4, i5, i6, i7, i8, i11⟩ := h
  refine ⟨i1, i2, i3, i4, ?_, ?_, i7, i8, by omega⟩
  · intro j hj hx1
    have a1 := i5 j hj hx
    have a2 := i4 x (x + 1) (by omega) hx1
    omega
  · intro i hi hi2 b hb hF
    by_cases e : i = x
    · rw [e, hcx, Int.toNat_natCast] at hb ⊢
      exact hn b hb hF
    · exact i6 i (by omega) hi2 b hb hF
theorem aI_e {S : Nat → Bool} {s : bfT} (h : aI S s.1 s) : aF S s.2.2 := by
  obtain ⟨i1, i2, i3, i4, i5, i6, i7, ⟨i8, i9⟩, i11⟩ := h
  refine ⟨i8, ?_, i9, i7, ?_⟩
  · intro c hc hs hn
    obtain ⟨i, hi, e⟩ := i2 c hc hs hn
    obtain ⟨k, e1, e2, e3, e4, e5⟩ := i1 i hi
    obtain rfl : k = c := by omega
    exact e4
  · intro c b hc hs hn hsb hF
    obtain ⟨i, hi, e⟩ := i2 c hc hs hn
    have := i6 i hi hi b (by rw [e, Int.toNat_natCast]; exact hsb) hF
    rw [e, Int.toNat_natCast] at this
    exact this
/-- the farthest -/
def aV (s : bfT) : Int := if s.1 = 0 then 0 else s.2.2 (s.2.1 (s.1 - 1)).toNat
theorem aV_e {S : Nat → Bool} {s : bfT} (h : aI S s.1 s) (N : Nat) : aV s ≤ (N : Int) ↔ sE (sIt N S) = true := by
  have hF := aI_e h
  have ha := aF_a hF
  rw [aF_e hF]
  obtain ⟨i1, i2, i3, i4, -⟩ := h
  unfold aV
  constructor
  · intro hv c hc hs
    have h1 := ha c hc hs
    obtain ⟨i, hi, e⟩ := i2 c hc hs (by omega)
    rw [if_neg (by omega)] at hv
    have := i4 i (s.1 - 1) (by omega) (by omega)
    rw [e, Int.toNat_natCast] at this
    omega
  · intro hv
    split
    · omega
    · obtain ⟨k, e1, e2, e3, e4, e5⟩ := i1 (s.1 - 1) (by omega)
      rw [e1, Int.toNat_natCast]
      exact hv k e2 e3
theorem aV_r {S : Nat → Bool} {s : bfT} (h : aI S s.1 s) : 0 ≤ aV s ∧ aV s ≤ 216 := by
  have hle := aI_le h
  unfold aV
  split
  · omega
  · obtain ⟨k, e1, e2, e3, e4, e5⟩ := h.1 (s.1 - 1) (by omega)
    rw [e1, Int.toNat_natCast]
    omega
/-- the first pass: which cells are beside air -/
def a0D (S : Nat → Bool) (c : Nat) : Int := if S c = true then (if sInn S c = true then -1 else 1) else 0
def aI0 (S : Nat → Bool) (c : Nat) (s : bfT) : Prop :=
  (∀ j, j < c → s.2.2 j = a0D S j) ∧ (∀ i, i < s.1 → ∃ j : Nat, s.2.1 i = (j : Int) ∧ j < c ∧ S j = true ∧ sInn S j = false) ∧
  (∀ j, j < c → S j = true → sInn S j = false → ∃ i, i < s.1 ∧ s.2.1 i = (j : Int)) ∧ sN c (fun j => S j && !sInn S j) = s.1
theorem aI0_e {S : Nat → Bool} {s : bfT} (h : aI0 S 216 s) : aI S 0 s := by
  obtain ⟨h1, h2, h3, h4⟩ := h
  have e1 : ∀ j, j < 216 → S j = true → sInn S j = false → s.2.2 j = 1 := fun j hj a b => by
    rw [h1 j hj]; unfold a0D; rw [if_pos a, if_neg (by rw [b]; simp)]
  have e2 : ∀ j, j < 216 → S j = true → sInn S j = true → s.2.2 j = -1 := fun j hj a b => by
    rw [h1 j hj]; unfold a0D; rw [if_pos a, if_pos b]
  have e3 : ∀ j, j < 216 → S j = false → s.2.2 j = 0 := fun j hj a => by
    rw [h1 j hj]; unfold a0D; rw [if_neg (by rw [a]; simp)]
  have hq : ∀ i, i < s.1 → s.2.2 (s.2.1 i).toNat = 1 := fun i hi => by
    obtain ⟨j, a, b, c, d⟩ := h2 i hi
    rw [a, Int.toNat_natCast]
    exact e1 j b c d
  refine ⟨?_, ?_, ?_, ?_, ?_, ?_, ?_, ⟨e3, ?_⟩, Nat.zero_le _⟩
  · intro i hi
    obtain ⟨j, a, b, c, d⟩ := h2 i hi
    exact ⟨j, a, b, c, by rw [e1 j b c d]; omega, by rw [e1 j b c d]; omega⟩
  · intro c hc hs hn
    cases hi : sInn S c
    · exact h3 c hc hs hi
    · exact absurd (e2 c hc hs hi) hn
  · rw [← h4]
    refine sN_c fun i hi => ?_
    cases hs : S i
    · rfl
    · cases hi2 : sInn S i
      · rw [e1 i hi hs hi2]; rfl
      · rw [e2 i hi hs hi2]; rfl
  · intro i j hij hj
    rw [hq i (by omega), hq j hj]; omega
  · intro j hj hx
    rw [hq j hj, hq 0 hx]; omega
  · intro i hi; omega
  · intro c hc hk
    exfalso
    cases hs : S c
    · have := e3 c hc hs; omega
    · cases hi : sInn S c
      · have := e1 c hc hs hi; omega
      · have := e2 c hc hs hi; omega
  · intro c hc hs
    cases hi : sInn S c
    · rw [e1 c hc hs hi]; simp
    · rw [e2 c hc hs hi]; simp
section
variable {D : Nat} {K : Option vi_V → vi_W → Prop} {Y : vi_Y} {M : vi_M} {nn : Nat × Nat} {Q : Option vi_V → vi_W → Prop}
/-- one cell of the first pass: its sides -/
theorem h_315s (hY : kY Y 151) (hB : mBx M) {g : Nat → Int} (hin : ∀ c, c < 216 → g c ≠ 0 → mIc M (c : Int)) {c : Nat} (hc : c < 216) (hg : g c ≠ 0) {m : Nat} (hD : 2 ≤ D) {r : Nat → Int} (h134 : M 134 = g)
    (ih : vi_ok GG D 315 82 [some (.inr (.inr 112)), some (.inl (m : Int)), some (.inl (c : Int)), some (.inl 6), none] [] (Y, vi_rs M 135 (vi_u r c (if aiR M g c 6 = true then 1 else -1)), nn) Q) :
    ∀ d : Nat, d ≤ 6 → vi_ok GG D 315 39 [some (.inr (.inr 112)), some (.inl (m : Int)), some (.inl (c : Int)), some (.inl (d : Int)), none] [] (Y, vi_rs M 135 (vi_u r c (if aiR M g c d = true then 1 else -1)), nn) Q := by
  obtain ⟨R1, -, R3, -, -, -, -, -, -, -, -, -, -, R27, R28, R29, R31, R32, R33, R34, R35, R36, R37, R38, -⟩ := y_112 hY (by omega)
  obtain ⟨u1, u2⟩ := y_134 hY (by omega)
  obtain ⟨v1, v2⟩ := y_135 hY (by omega)
  have hic := hin c hc hg
  refine vi_dn (P := fun d => vi_ok GG D 315 39 [some (.inr (.inr 112)), some (.inl (m : Int)), some (.inl (c : Int)), some (.inl (d : Int)), none] [] (Y, vi_rs M 135 (vi_u r c (if aiR M g c d = true then 1 else -1)), nn) Q) 6 ?_ fun d hd ihd => ?_
  · have := ih
    rw [s_315_39]
    clear ih
    simp (disch := omega) only [Option.toList_some, Option.toList_none, List.nil_append, List.cons_append, List.append_nil, true_and, and_true, not_true_eq_false, not_false_eq_true, true_implies, false_implies, implies_true, and_self, Int.reduceLT, Int.reduceLE, Int.reduceEq, Int.reduceNe, Int.reduceAdd, Int.reduceSub, Int.reduceMul, Int.reduceNeg, Int.reduceToNat, Int.toNat_natCast, ↓kk_ck, ↓kk_im, ↓kk_in]
    exact this
  · clear ih
    have hr := mBe_r hB hic hd
    have e114 : vi_rs M 135 (vi_u r c (if aiR M g c d = true then 1 else -1)) 114 = M 114 := vi_rs_o (by omega)
    have e134 : vi_rs M 135 (vi_u r c (if aiR M g c d = true then 1 else -1)) 134 = g := (vi_rs_o (by omega)).trans h134
    have k248 := fun {K : Option vi_V → vi_W → Prop} => @k_248 D K Y (vi_rs M 135 (vi_u r c (if aiR M g c d = true then 1 else -1))) nn hY (mBx_c e114 hB) (c : Int) d (mIc_c e114 hic) hd hD
    rw [mBe_c e114] at k248
    rw [aiR] at ihd
    rw [s_315_39]
    generalize hM1 : vi_rs M 135 (vi_u r c (if aiR M g c d = true then 1 else -1)) = M1 at *
    by_cases q1 : mBe M (c : Int) d = -1
    · rw [decide_eq_true (.inl q1), Bool.or_true, if_pos rfl] at ihd
      have em : vi_rs M1 135 (vi_u (M1 135) c 1) = vi_rs M 135 (vi_u r c 1) := by rw [← hM1, vi_rs_rs, vi_rs_s, vi_u_u]
      simp (disch := omega) only [Option.toList_some, Option.toList_none, List.nil_append, List.cons_append, List.append_nil, true_and, and_true, not_true_eq_false, not_false_eq_true, true_implies, false_implies, implies_true, and_self, Int.reduceLT, Int.reduceLE, Int.reduceEq, Int.reduceNe, Int.reduceAdd, Int.reduceSub, Int.reduceMul, Int.reduceNeg, Int.reduceToNat, Int.toNat_natCast, ↓kk_ck, ↓kk_im, ↓kk_in, s_315_45, s_315_51, s_315_69, s_315_73, s_315_76, R1, R38, v1, v2, k248, q1, Int.toNat_natCast, vi_ms_rs, em, vi_inc, ne_eq]
      exact ihd
    · obtain ⟨b, hb⟩ : ∃ b : Nat, mBe M (c : Int) d = (b : Int) := ⟨(mBe M (c : Int) d).toNat, by omega⟩
      have hb2 : b < 216 := by omega
      by_cases q2 : g b = 0
      · rw [decide_eq_true (.inr (by rw [hb, Int.toNat_natCast]; exact q2)), Bool.or_true, if_pos rfl] at ihd
        have em : vi_rs M1 135 (vi_u (M1 135) c 1) = vi_rs M 135 (vi_u r c 1) := by rw [← hM1, vi_rs_rs, vi_rs_s, vi_u_u]
        simp (disch := omega) only [Option.toList_some, Option.toList_none, List.nil_append, List.cons_append, List.append_nil, true_and, and_true, not_true_eq_false, not_false_eq_true, true_implies, false_implies, implies_true, and_self, Int.reduceLT, Int.reduceLE, Int.reduceEq, Int.reduceNe, Int.reduceAdd, Int.reduceSub, Int.reduceMul, Int.reduceNeg, Int.reduceToNat, Int.toNat_natCast, ↓kk_ck, ↓kk_im, ↓kk_in, s_315_45, s_315_51, s_315_55, s_315_59, s_315_65, s_315_66, s_315_69, s_315_73, s_315_76, R1, R37, R38, u1, u2, v1, v2, k248, hb, e134, q2, Int.toNat_natCast, vi_ms_rs, em, vi_inc, ne_eq]
        exact ihd
      · rw [decide_eq_false (by rw [hb, Int.toNat_natCast]; omega), Bool.or_false] at ihd
        rw [hM1] at ihd
        simp (disch := omega) only [Option.toList_some, Option.toList_none, List.nil_append, List.cons_append, List.append_nil, true_and, and_true, not_true_eq_false, not_false_eq_true, true_implies, false_implies, implies_true, and_self, Int.reduceLT, Int.reduceLE, Int.reduceEq, Int.reduceNe, Int.reduceAdd, Int.reduceSub, Int.reduceMul, Int.reduceNeg, Int.reduceToNat, Int.toNat_natCast, ↓kk_ck, ↓kk_im, ↓kk_in, s_315_45, s_315_51, s_315_55, s_315_59, s_315_65, s_315_66, s_315_76, R1, R37, R38, u1, u2, v1, v2, k248, hb, e134, q2, Int.toNat_natCast, vi_inc, ne_eq]
        exact ihd
/-- the queue's inner loop -/
theorem h_315i (hY : kY Y 151) (hB : mBx M) {g : Nat → Int} (hin : ∀ c, c < 216 → g c ≠ 0 → mIc M (c : Int)) (hD : 2 ≤ D) {x y : Nat} (hy : y < 216) (hgy : g y ≠ 0) (hx : x < 216)
    (ih : ∀ (s : bfT) (M' : vi_M) (l3 l4 : Option vi_V), aI (mB g) (x + 1) s → M' 129 = s.2.1 → M' 135 = s.2.2 → (∀ q, q ≠ 129 → q ≠ 135 → M' q = M q) → vi_ok GG D 315 113 [some (.inr (.inr 112)), some (.inl (s.1 : Int)), some (.inl ((x + 1 : Nat) : Int)), l3, l4] [] (Y, M', nn) Q) :
    ∀ w : Nat, w ≤ 6 → ∀ (s : bfT) (M' : vi_M) (l4 : Option vi_V), aI (mB g) x s → x < s.1 → s.2.1 x = (y : Int) → (1 ≤ s.2.2 y ∧ s.2.2 y ≤ 216) → (∀ v, v < w → ∀ b : Nat, mBe M (y : Int) v = (b : Int) → mB g b = true → s.2.2 b ≠ -1 ∧ s.2.2 b ≤ s.2.2 y + 1) → M' 129 = s.2.1 → M' 135 = s.2.2 → (∀ q, q ≠ 129 → q ≠ 135 → M' q = M q) → vi_ok GG D 315 120 [some (.inr (.inr 112)), some (.inl (s.1 : Int)), some (.inl (x : Int)), some (.inl (w : Int)), l4] [] (Y, M', nn) Q := by
  obtain ⟨R1, -, R3, -, -, -, -, -, -, -, -, -, -, R27, R28, R29, R31, R32, R33, R34, R35, R36, R37, R38, -⟩ := y_112 hY (by omega)
  obtain ⟨u1, u2⟩ := y_129 hY (by omega)
  obtain ⟨v1, v2⟩ := y_135 hY (by omega)
  have hyc := hin y hy hgy
  refine vi_dn (P := fun w => ∀ (s : bfT) (M' : vi_M) (l4 : Option vi_V), aI (mB g) x s → x < s.1 → s.2.1 x = (y : Int) → (1 ≤ s.2.2 y ∧ s.2.2 y ≤ 216) → (∀ v, v < w → ∀ b : Nat, mBe M (y : Int) v = (b : Int) → mB g b = true → s.2.2 b ≠ -1 ∧ s.2.2 b ≤ s.2.2 y + 1) → M' 129 = s.2.1 → M' 135 = s.2.2 → (∀ q, q ≠ 129 → q ≠ 135 → M' q = M q) → vi_ok GG D 315 120 [some (.inr (.inr 112)), some (.inl (s.1 : Int)), some (.inl (x : Int)), some (.inl (w : Int)), l4] [] (Y, M', nn) Q) 6 ?_ fun w hw ihw => ?_
  · intro s M' l4 hi hxs hcx hD0 hw e1 e2 e3
    have hi2 := aI_s hi hxs hcx fun b hb hF => by
      have hb2 := sA_lt hy hb
      obtain ⟨v, hv, e⟩ := mBe_x hyc (hin b hb2 (by unfold mB at hF; simpa using hF)) hb
      exact hw v hv b e hF
    have := ih s M' (some (.inl 6)) l4 hi2 e1 e2 e3
    rw [s_315_120]
    clear ih
    simp (disch := omega) only [Option.toList_some, Option.toList_none, List.nil_append, List.cons_append, List.append_nil, true_and, and_true, not_true_eq_false, not_false_eq_true, true_implies, false_implies, implies_true, and_self, Int.reduceLT, Int.reduceLE, Int.reduceEq, Int.reduceNe, Int.reduceAdd, Int.reduceSub, Int.reduceMul, Int.reduceNeg, Int.reduceToNat, Int.toNat_natCast, ↓kk_ck, ↓kk_im, ↓kk_in, s_315_196, vi_inc]
    exact this
  · intro s M' l4 hi hxs hcx hD0 hw2 e1 e2 e3
    clear ih
    have e114 : M' 114 = M 114 := e3 114 (by omega) (by omega)
    have k248 := fun {K : Option vi_V → vi_W → Prop} => @k_248 D K Y M' nn hY (mBx_c e114 hB) (y : Int) w (mIc_c e114 hyc) hw hD
    rw [mBe_c e114] at k248
    rcases mBe_r hB hyc hw with hm | hm
    · have := ihw s M' (some (.inl (-1))) hi hxs hcx hD0 (fun v hv b hb hF => by
        by_cases e : v = w
        · rw [e, hm] at hb; omega
        · exact hw2 v (by omega) b hb hF) e1 e2 e3
      rw [s_315_120]
      clear ihw
      simp (disch := omega) only [Option.toList_some, Option.toList_none, List.nil_append, List.cons_append, List.append_nil, true_and, and_true, not_true_eq_false, not_false_eq_true, true_implies, false_implies, implies_true, and_self, Int.reduceLT, Int.reduceLE, Int.reduceEq, Int.reduceNe, Int.reduceAdd, Int.reduceSub, Int.reduceMul, Int.reduceNeg, Int.reduceToNat, Int.toNat_natCast, ↓kk_ck, ↓kk_im, ↓kk_in, s_315_126, s_315_131, s_315_133, s_315_137, s_315_190, R1, R32, u1, u2, e1, hcx, k248, hm, vi_inc, ne_eq]
      exact this
    · obtain ⟨b, hb⟩ : ∃ b : Nat, mBe M (y : Int) w = (b : Int) := ⟨(mBe M (y : Int) w).toNat, by omega⟩
      have hb2 : b < 216 := by omega
      have hA := mBe_A hB hyc hw hb
      by_cases q : s.2.2 b = -1
      · have hnew := aI_new hi hb2 q
        obtain ⟨t1, t3, t4⟩ := aR_i hi hxs hcx hb2 hA q
        have tc : vi_u s.2.2 b (s.2.2 y + 1) y = s.2.2 y := t4 y (by omega)
        have := ihw _ (vi_rs (vi_rs M' 135 (vi_u (M' 135) b (s.2.2 y + 1))) 129 (vi_u (M' 129) s.1 (b : Int))) (some (.inl (b : Int))) t1 (by dsimp only; omega) t3 (by dsimp only; rw [tc]; exact hD0) (fun v hv z hz hF => by
          dsimp only
          rw [tc]
          by_cases e : v = w
          · rw [e, hb] at hz
            obtain rfl : b = z := by omega
            rw [vi_u_s]; omega
          · have := hw2 v (by omega) z hz hF
            rw [t4 z this.1]
            exact this) (by rw [vi_rs_s, e1]) (by rw [vi_rs_o (by omega), vi_rs_s, e2]) (fun q h1 h2 => by rw [vi_rs_o h1, vi_rs_o h2]; exact e3 q h1 h2)
        dsimp only at this
        have eN : ((s.1 : Int) + 1) = ((s.1 + 1 : Nat) : Int) := by omega
        have i129 : vi_rs M' 135 (vi_u (M' 135) b (s.2.2 y + 1)) 129 = M' 129 := vi_rs_o (by omega)
        rw [e1, e2] at this
        rw [e2] at i129
        rw [s_315_120]
        clear ihw t1 t3 t4 hi hw2
        simp (disch := omega) only [Option.toList_some, Option.toList_none, List.nil_append, List.cons_append, List.append_nil, true_and, and_true, not_true_eq_false, not_false_eq_true, true_implies, false_implies, implies_true, and_self, Int.reduceLT, Int.reduceLE, Int.reduceEq, Int.reduceNe, Int.reduceAdd, Int.reduceSub, Int.reduceMul, Int.reduceNeg, Int.reduceToNat, Int.toNat_natCast, ↓kk_ck, ↓kk_im, ↓kk_in, s_315_126, s_315_131, s_315_133, s_315_137, s_315_145, s_315_149, s_315_152, s_315_159, s_315_163, s_315_169, s_315_173, s_315_175, s_315_176, s_315_179, s_315_183, s_315_187, s_315_190, R1, R32, R38, u1, u2, v1, v2, hcx, k248, hb, q, Int.toNat_natCast, vi_ms_rs, e1, e2, i129, @vi_32 (s.2.2 y + 1) (by omega) (by omega), vi_inc, ne_eq]
        exact this
      · have := ihw s M' (some (.inl (b : Int))) hi hxs hcx hD0 (fun v hv z hz hF => by
          by_cases e : v = w
          · rw [e, hb] at hz
            obtain rfl : b = z := by omega
            refine ⟨q, ?_⟩
            have hy1 := hi.2.2.2.2.1
            obtain ⟨i, hi1, hi2⟩ := hi.2.1 b hb2 hF q
            have := hy1 i hi1 hxs
            rw [hi2, hcx, Int.toNat_natCast, Int.toNat_natCast] at this
            exact this
          · exact hw2 v (by omega) z hz hF) e1 e2 e3
        rw [s_315_120]
        clear ihw hi
        simp (disch := omega) only [Option.toList_some, Option.toList_none, List.nil_append, List.cons_append, List.append_nil, true_and, and_true, not_true_eq_false, not_false_eq_true, true_implies, false_implies, implies_true, and_self, Int.reduceLT, Int.reduceLE, Int.reduceEq, Int.reduceNe, Int.reduceAdd, Int.reduceSub, Int.reduceMul, Int.reduceNeg, Int.reduceToNat, Int.toNat_natCast, ↓kk_ck, ↓kk_im, ↓kk_in, s_315_126, s_315_131, s_315_133, s_315_137, s_315_145, s_315_149, s_315_152, s_315_156, s_315_190, R1, R32, R38, u1, u2, v1, v2, hcx, k248, hb, q, Int.toNat_natCast, e1, e2, vi_inc, ne_eq]
        exact this
theorem k_315 (hY : kY Y 151) (hB : mBx M) (hin : ∀ c, c < 216 → M 134 c ≠ 0 → mIc M (c : Int)) (hD : 3 ≤ D)
    (hQ : ∀ (M' : vi_M) (v : Int), (∀ q, q ≠ 129 → q ≠ 135 → M' q = M q) → (0 ≤ v ∧ v ≤ 216) → (∀ N : Nat, v ≤ (N : Int) ↔ sE (sIt N (mB (M 134))) = true) → Q (some (.inl v)) (Y, M', nn)) :
    vi_call GG D 315 [.inr (.inr 112)] (Y, M, nn) Q := by
  obtain ⟨D, rfl⟩ : ∃ k, D = k + 1 := ⟨D - 1, by omega⟩
  obtain ⟨R1, -, R3, -, -, -, -, -, -, -, -, -, -, R27, R28, R29, R31, R32, R33, R34, R35, R36, R37, R38, -⟩ := y_112 hY (by omega)
  obtain ⟨u1, u2⟩ := y_129 hY (by omega)
  obtain ⟨v1, v2⟩ := y_135 hY (by omega)
  obtain ⟨w1, w2⟩ := y_134 hY (by omega)
  generalize hg : M 134 = g at *
  have second : ∀ x : Nat, x ≤ 216 → ∀ (s : bfT) (M' : vi_M) (l3 l4 : Option vi_V), aI (mB g) x s → M' 129 = s.2.1 → M' 135 = s.2.2 → (∀ q, q ≠ 129 → q ≠ 135 → M' q = M q) → vi_ok GG D 315 113 [some (.inr (.inr 112)), some (.inl (s.1 : Int)), some (.inl (x : Int)), l3, l4] [] (Y, M', nn) Q := by
    have fin : ∀ (x : Nat) (s : bfT) (M' : vi_M) (l3 l4 : Option vi_V), s.1 ≤ x → aI (mB g) x s → M' 129 = s.2.1 → M' 135 = s.2.2 → (∀ q, q ≠ 129 → q ≠ 135 → M' q = M q) → vi_ok GG D 315 113 [some (.inr (.inr 112)), some (.inl (s.1 : Int)), some (.inl (x : Int)), l3, l4] [] (Y, M', nn) Q := by
      intro x s M' l3 l4 hle hi e1 e2 e3
      obtain rfl : x = s.1 := by have := hi.2.2.2.2.2.2.2.2; omega
      have hq := hQ M' (aV s) e3 (aV_r hi) (aV_e hi)
      have hm := aI_le hi
      unfold aV at hq
      rw [s_315_113]
      by_cases h0 : s.1 = 0
      · rw [if_pos h0] at hq
        have h0' : (s.1 : Int) = 0 := by omega
        clear hQ hi
        simp (disch := omega) only [Option.toList_some, Option.toList_none, List.nil_append, List.cons_append, List.append_nil, true_and, and_true, not_true_eq_false, not_false_eq_true, true_implies, false_implies, implies_true, and_self, Int.reduceLT, Int.reduceLE, Int.reduceEq, Int.reduceNe, Int.reduceAdd, Int.reduceSub, Int.reduceMul, Int.reduceNeg, Int.reduceToNat, Int.toNat_natCast, ↓kk_ck, ↓kk_im, ↓kk_in, s_315_202, s_315_206, s_315_223, h0', ne_eq]
        exact hq
      · rw [if_neg h0] at hq
        obtain ⟨k, k1, k2, -⟩ := hi.1 (s.1 - 1) (by omega)
        rw [k1, Int.toNat_natCast] at hq
        have h0' : ¬ (s.1 : Int) = 0 := by omega
        have et : ((s.1 : Int) - 1).toNat = s.1 - 1 := by omega
        clear hQ hi
        simp (disch := omega) only [Option.toList_some, Option.toList_none, List.nil_append, List.cons_append, List.append_nil, true_and, and_true, not_true_eq_false, not_false_eq_true, true_implies, false_implies, implies_true, and_self, Int.reduceLT, Int.reduceLE, Int.reduceEq, Int.reduceNe, Int.reduceAdd, Int.reduceSub, Int.reduceMul, Int.reduceNeg, Int.reduceToNat, Int.toNat_natCast, ↓kk_ck, ↓kk_im, ↓kk_in, s_315_202, s_315_210, s_315_214, s_315_218, s_315_221, s_315_222, s_315_223, h0', R1, R32, R38, u1, u2, v1, v2, @vi_32 ((s.1 : Int) - 1) (by omega) (by omega), et, e1, e2, k1, Int.toNat_natCast, ne_eq]
        exact hq
    refine vi_dn (P := fun x => ∀ (s : bfT) (M' : vi_M) (l3 l4 : Option vi_V), aI (mB g) x s → M' 129 = s.2.1 → M' 135 = s.2.2 → (∀ q, q ≠ 129 → q ≠ 135 → M' q = M q) → vi_ok GG D 315 113 [some (.inr (.inr 112)), some (.inl (s.1 : Int)), some (.inl (x : Int)), l3, l4] [] (Y, M', nn) Q) 216 ?_ fun x hx ihx => ?_
    · intro s M' l3 l4 hi e1 e2 e3
      exact fin 216 s M' l3 l4 (aI_le hi) hi e1 e2 e3
    · intro s M' l3 l4 hi e1 e2 e3
      by_cases hxs : s.1 ≤ x
      · exact fin x s M' l3 l4 hxs hi e1 e2 e3
      · obtain ⟨y, hcx, hy, hFy, hD0, hDx⟩ := hi.1 x (by omega)
        have inner := h_315i (D := D) (nn := nn) (Q := Q) (M := M) (g := g) hY hB hin (by omega) hy (by unfold mB at hFy; simpa using hFy) hx ihx 0 (by omega) s M' l4 hi (by omega) hcx (by omega) (fun v hv => by omega) e1 e2 e3
        rw [s_315_113]
        clear ihx fin hi e2
        simp (disch := omega) only [Option.toList_some, Option.toList_none, List.nil_append, List.cons_append, List.append_nil, true_and, and_true, not_true_eq_false, not_false_eq_true, true_implies, false_implies, implies_true, and_self, Int.reduceLT, Int.reduceLE, Int.reduceEq, Int.reduceNe, Int.reduceAdd, Int.reduceSub, Int.reduceMul, Int.reduceNeg, Int.reduceToNat, Int.toNat_natCast, ↓kk_ck, ↓kk_im, ↓kk_in, s_315_118]
        exact inner
  have first : ∀ c : Nat, c ≤ 216 → ∀ (s : bfT) (M' : vi_M) (l3 : Option vi_V), aI0 (mB g) c s → M' 129 = s.2.1 → M' 135 = s.2.2 → (∀ q, q ≠ 129 → q ≠ 135 → M' q = M q) → vi_ok GG D 315 4 [some (.inr (.inr 112)), some (.inl (s.1 : Int)), some (.inl (c : Int)), l3, none] [] (Y, M', nn) Q := by
    refine vi_dn (P := fun c => ∀ (s : bfT) (M' : vi_M) (l3 : Option vi_V), aI0 (mB g) c s → M' 129 = s.2.1 → M' 135 = s.2.2 → (∀ q, q ≠ 129 → q ≠ 135 → M' q = M q) → vi_ok GG D 315 4 [some (.inr (.inr 112)), some (.inl (s.1 : Int)), some (.inl (c : Int)), l3, none] [] (Y, M', nn) Q) 216 ?_ fun c hc ih => ?_
    · intro s M' l3 hi e1 e2 e3
      have := second 0 (by omega) s M' l3 none (aI0_e hi) e1 e2 e3
      rw [show ((0 : Nat) : Int) = 0 from rfl] at this
      rw [s_315_4]
      clear second hQ
      simp (disch := omega) only [Option.toList_some, Option.toList_none, List.nil_append, List.cons_append, List.append_nil, true_and, and_true, not_true_eq_false, not_false_eq_true, true_implies, false_implies, implies_true, and_self, Int.reduceLT, Int.reduceLE, Int.reduceEq, Int.reduceNe, Int.reduceAdd, Int.reduceSub, Int.reduceMul, Int.reduceNeg, Int.reduceToNat, Int.toNat_natCast, ↓kk_ck, ↓kk_im, ↓kk_in, s_315_111]
      exact this
    · intro s M' l3 hi e1 e2 e3
      clear second hQ
      obtain ⟨a1, a2, a3, a4⟩ := hi
      have hm : s.1 ≤ c := by rw [← a4]; exact sN_le _ _
      have e114 : M' 114 = M 114 := e3 114 (by omega) (by omega)
      have e134 : M' 134 = g := (e3 134 (by omega) (by omega)).trans hg
      by_cases q : g c = 0
      · have hsc : mB g c = false := mB_f q
        have := ih (s.1, s.2.1, vi_u s.2.2 c 0) (vi_rs M' 135 (vi_u (M' 135) c 0)) l3 ⟨fun j hj => by
            dsimp only
            by_cases e : j = c
            · rw [e, vi_u_s]; unfold a0D; rw [if_neg (by rw [hsc]; simp)]
            · rw [vi_u_o e]; exact a1 j (by omega), fun i hi => by
            obtain ⟨j, b1, b2, b3⟩ := a2 i hi
            exact ⟨j, b1, by omega, b3⟩, fun j hj b1 b2 => by
            by_cases e : j = c
            · rw [e, hsc] at b1; cases b1
            · exact a3 j (by omega) b1 b2, by rw [sN, a4, hsc]; rfl⟩ (by rw [vi_rs_o (by omega)]; exact e1) (by rw [vi_rs_s, e2]) (fun q h1 h2 => by rw [vi_rs_o h2]; exact e3 q h1 h2)
        dsimp only at this
        have f134 : vi_rs M' 135 (vi_u (M' 135) c 0) 134 = g := (vi_rs_o (by omega)).trans e134
        rw [e2] at f134 this
        rw [s_315_4]
        clear ih
        simp (disch := omega) only [Option.toList_some, Option.toList_none, List.nil_append, List.cons_append, List.append_nil, true_and, and_true, not_true_eq_false, not_false_eq_true, true_implies, false_implies, implies_true, and_self, Int.reduceLT, Int.reduceLE, Int.reduceEq, Int.reduceNe, Int.reduceAdd, Int.reduceSub, Int.reduceMul, Int.reduceNeg, Int.reduceToNat, Int.toNat_natCast, ↓kk_ck, ↓kk_im, ↓kk_in, s_315_11, s_315_15, s_315_18, s_315_22, s_315_24, s_315_27, s_315_105, R1, R37, R38, v1, v2, w1, w2, Int.toNat_natCast, vi_ms_rs, e2, f134, q, vi_inc, ne_eq]
        exact this
      · have hsc : mB g c = true := mB_t q
        have hai := aiR_e hB hin hc q
        have em : ∀ x : Int, vi_rs (vi_rs M' 135 (vi_u s.2.2 c 0)) 135 (vi_u (vi_u s.2.2 c 0) c x) = vi_rs M' 135 (vi_u s.2.2 c x) := fun x => by rw [vi_rs_rs, vi_u_u]
        have f134 : vi_rs M' 135 (vi_u s.2.2 c 0) 134 = g := (vi_rs_o (by omega)).trans e134
        have sides := h_315s (D := D) (nn := nn) (Q := Q) (M := M') (g := g) (m := s.1) (r := s.2.2) hY (mBx_c e114 hB) (fun j hj h => mIc_c e114 (hin j hj h)) hc q (by omega) e134 (by
          rw [show aiR M' g c 6 = aiR M g c 6 from by
            have : ∀ d : Nat, aiR M' g c d = aiR M g c d := fun d => by
              induction d with
              | zero => rfl
              | succ d ih => rw [aiR, aiR, ih, mBe_c e114]
            exact this 6, hai]
          cases hi : sInn (mB g) c
          · have := ih (s.1 + 1, vi_u s.2.1 s.1 (c : Int), vi_u s.2.2 c 1) (vi_rs (vi_rs M' 135 (vi_u s.2.2 c 1)) 129 (vi_u (M' 129) s.1 (c : Int))) (some (.inl 6)) ⟨fun j hj => by
                dsimp only
                by_cases e : j = c
                · rw [e, vi_u_s]; unfold a0D; rw [if_pos hsc, if_neg (by rw [hi]; simp)]
                · rw [vi_u_o e]; exact a1 j (by omega), fun i hi2 => by
                dsimp only at hi2 ⊢
                by_cases e : i = s.1
                · rw [e, vi_u_s]; exact ⟨c, rfl, by omega, hsc, hi⟩
                · rw [vi_u_o e]
                  obtain ⟨j, b1, b2, b3⟩ := a2 i (by omega)
                  exact ⟨j, b1, by omega, b3⟩, fun j hj b1 b2 => by
                dsimp only
                by_cases e : j = c
                · exact ⟨s.1, by omega, by rw [vi_u_s, e]⟩
                · obtain ⟨i, b3, b4⟩ := a3 j (by omega) b1 b2
                  exact ⟨i, by omega, by rw [vi_u_o (by omega)]; exact b4⟩, by rw [sN, a4, hsc, hi]; rfl⟩ (by rw [vi_rs_s, e1]) (by rw [vi_rs_o (by omega), vi_rs_s]) (fun q h1 h2 => by rw [vi_rs_o h1, vi_rs_o h2]; exact e3 q h1 h2)
            dsimp only at this
            have i129 : vi_rs M' 135 (vi_u s.2.2 c 1) 129 = M' 129 := vi_rs_o (by omega)
            have i135 : vi_rs M' 135 (vi_u s.2.2 c 1) 135 = vi_u s.2.2 c 1 := vi_rs_s
            have eN : ((s.1 : Int) + 1) = ((s.1 + 1 : Nat) : Int) := by omega
            rw [Bool.not_false, if_pos rfl]
            clear ih
            simp (disch := omega) only [Option.toList_some, Option.toList_none, List.nil_append, List.cons_append, List.append_nil, true_and, and_true, not_true_eq_false, not_false_eq_true, true_implies, false_implies, implies_true, and_self, Int.reduceLT, Int.reduceLE, Int.reduceEq, Int.reduceNe, Int.reduceAdd, Int.reduceSub, Int.reduceMul, Int.reduceNeg, Int.reduceToNat, Int.toNat_natCast, ↓kk_ck, ↓kk_im, ↓kk_in, s_315_82, s_315_86, s_315_88, s_315_95, s_315_99, s_315_102, s_315_105, R1, R32, R38, u1, u2, v1, v2, Int.toNat_natCast, vi_ms_rs, i129, i135, vi_u_s, vi_inc, ne_eq]
            exact this
          · have := ih (s.1, s.2.1, vi_u s.2.2 c (-1)) (vi_rs M' 135 (vi_u s.2.2 c (-1))) (some (.inl 6)) ⟨fun j hj => by
                dsimp only
                by_cases e : j = c
                · rw [e, vi_u_s]; unfold a0D; rw [if_pos hsc, if_pos hi]
                · rw [vi_u_o e]; exact a1 j (by omega), fun i hi2 => by
                obtain ⟨j, b1, b2, b3⟩ := a2 i hi2
                exact ⟨j, b1, by omega, b3⟩, fun j hj b1 b2 => by
                by_cases e : j = c
                · rw [e, hi] at b2; cases b2
                · exact a3 j (by omega) b1 b2, by rw [sN, a4, hsc, hi]; rfl⟩ (by rw [vi_rs_o (by omega)]; exact e1) vi_rs_s (fun q h1 h2 => by rw [vi_rs_o h2]; exact e3 q h1 h2)
            dsimp only at this
            have i135 : vi_rs M' 135 (vi_u s.2.2 c (-1)) 135 = vi_u s.2.2 c (-1) := vi_rs_s
            rw [Bool.not_true, if_neg (by simp)]
            clear ih
            simp (disch := omega) only [Option.toList_some, Option.toList_none, List.nil_append, List.cons_append, List.append_nil, true_and, and_true, not_true_eq_false, not_false_eq_true, true_implies, false_implies, implies_true, and_self, Int.reduceLT, Int.reduceLE, Int.reduceEq, Int.reduceNe, Int.reduceAdd, Int.reduceSub, Int.reduceMul, Int.reduceNeg, Int.reduceToNat, Int.toNat_natCast, ↓kk_ck, ↓kk_im, ↓kk_in, s_315_82, s_315_86, s_315_88, s_315_92, s_315_105, R1, R32, R38, u1, u2, v1, v2, Int.toNat_natCast, i135, vi_u_s, vi_inc, ne_eq]
            exact this) 0 (by omega)
        rw [aiR, if_neg (by simp), show ((0 : Nat) : Int) = 0 from rfl] at sides
        rw [s_315_4]
        clear ih hai em
        simp (disch := omega) only [Option.toList_some, Option.toList_none, List.nil_append, List.cons_append, List.append_nil, true_and, and_true, not_true_eq_false, not_false_eq_true, true_implies, false_implies, implies_true, and_self, Int.reduceLT, Int.reduceLE, Int.reduceEq, Int.reduceNe, Int.reduceAdd, Int.reduceSub, Int.reduceMul, Int.reduceNeg, Int.reduceToNat, Int.toNat_natCast, ↓kk_ck, ↓kk_im, ↓kk_in, s_315_11, s_315_15, s_315_18, s_315_22, s_315_24, s_315_30, s_315_34, s_315_37, R1, R37, R38, v1, v2, w1, w2, Int.toNat_natCast, vi_ms_rs, e2, f134, q, vi_rs_s, vi_rs_rs, vi_u_u, ne_eq]
        exact sides
  have := first 0 (by omega) (0, M 129, M 135) M none ⟨fun j hj => by omega, fun i hi => by dsimp only at hi; omega, fun j hj => by omega, rfl⟩ rfl rfl (fun _ _ _ => rfl)
  dsimp only at this
  rw [show ((0 : Nat) : Int) = 0 from rfl] at this
  rw [e_315, s_315_0]
  exact this
end
