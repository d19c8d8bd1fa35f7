/-! Pairs: meet. -/
theorem mOs_s {x : Nat} : ∀ k, mOs x k = sN k (fun j => x.testBit j)
  | 0 => rfl
  | k + 1 => by rw [mOs, sN_s, mOs_s k, mBt_b]
theorem tb_hi {x m j : Nat} (hx : x < 2 ^ m) (hj : m ≤ j) : x.testBit j = false := Nat.testBit_lt_two_pow (Nat.lt_of_lt_of_le hx (Nat.pow_le_pow_right (by decide) hj))
theorem bC_o {x : Nat} (hx : x < 256) : bC x = mOs x 8 := by
  rw [mOs_s]
  unfold bC
  exact sN_ge' (i := 8) (m := 16) (fun j h1 h2 => tb_hi (m := 8) hx h1) 16 (by omega) (Nat.le_refl _)
theorem sN_d {g : Nat → Bool} {n m : Nat} (h : n ≤ m) : sN m (fun b => decide (b < n) && g b) = sN n g := by
  rw [sN_ge' (i := n) (m := m) (fun j h1 h2 => by rw [decide_eq_false (by omega)]; rfl) m h (Nat.le_refl _)]
  exact sN_c fun i hi => by rw [decide_eq_true hi]; rfl
theorem nz_tb {x y : Nat} : x &&& y ≠ 0 ↔ ∃ i, x.testBit i = true ∧ y.testBit i = true := by
  constructor
  · intro h
    refine Classical.byContradiction fun hn => h (Nat.eq_of_testBit_eq fun i => ?_)
    rw [Nat.testBit_and, Nat.zero_testBit]
    cases hx : x.testBit i with
    | false => rfl
    | true =>
      cases hy : y.testBit i with
      | false => rfl
      | true => exact absurd ⟨i, hx, hy⟩ hn
  · rintro ⟨i, h1, h2⟩ h
    have : (x &&& y).testBit i = true := by rw [Nat.testBit_and, h1, h2]; rfl
    rw [h, Nat.zero_testBit] at this
    cases this
theorem mtG_b {f : Nat → Int} {a : Nat} : ∀ k, mtG f a k = bN k (fun b => decide (a ≠ b) && dmB f a b)
  | 0 => rfl
  | k + 1 => by
    rw [mtG, bN, mtG_b k]
    by_cases h : a ≠ k ∧ dmB f a k = true
    · rw [if_pos h, decide_eq_true h.1, h.2]
      show _ ||| _ = _ ||| (1 <<< k)
      rw [Nat.shiftLeft_eq, Nat.one_mul]
    · rw [if_neg h]
      have : (decide (a ≠ k) && dmB f a k) = false := by
        cases hd : dmB f a k with
        | false => rw [Bool.and_false]
        | true => rw [decide_eq_false (fun q => h ⟨q, hd⟩)]; rfl
      rw [this]
      show _ = _ ||| (0 <<< k)
      rw [Nat.zero_shiftLeft, Nat.or_zero]
theorem dmB_t {f : Nat → Int} {a b : Nat} : dmB f a b = true ↔ ∃ i k, i < 6 ∧ k < 6 ∧ scC f a i ≠ -1 ∧ scC f a i = scC f b k := by
  unfold dmB
  rw [List.any_eq_true]
  constructor
  · rintro ⟨i, h1, h2⟩
    rw [List.any_eq_true] at h2
    obtain ⟨k, h3, h4⟩ := h2
    exact ⟨i, k, List.mem_range.mp h1, List.mem_range.mp h3, of_decide_eq_true h4⟩
  · rintro ⟨i, k, h1, h2, h3⟩
    exact ⟨i, List.mem_range.mpr h1, List.any_eq_true.mpr ⟨k, List.mem_range.mpr h2, decide_eq_true h3⟩⟩
theorem dmB_s {f : Nat → Int} {a b : Nat} : dmB f a b = dmB f b a := by
  have h : ∀ x y, dmB f x y = true → dmB f y x = true := fun x y h => by
    obtain ⟨i, k, h1, h2, h3, h4⟩ := dmB_t.mp h
    exact dmB_t.mpr ⟨k, i, h2, h1, by rw [← h4]; exact h3, h4.symm⟩
  rw [Bool.eq_iff_iff]
  exact ⟨h a b, h b a⟩
/-- a screw's cells, here and there -/
theorem scC_e {f : Nat → Int} (hB : bxF f) {L : List (Nat → Int)} (hS : rSc f L) {r i : Nat} (hr : r < L.length) (hi : i ≤ 6) : scC f r i = gOf (f 96) (f 97) (f 98) (rL L r) (i : Int) := by
  obtain ⟨g1, g5, g2, g3⟩ := hS.2.2 r hr
  have e0 := g3 0 (by omega)
  rw [Nat.add_zero] at e0
  obtain ⟨f', hf'⟩ : ∃ f' : Nat → Int, f' = fun k => if k < 5 then rL L r k else if k = 5 then 1 else f k := ⟨_, rfl⟩
  have s6 : ∀ k, 6 ≤ k → f' k = f k := fun k hk => by rw [hf']; dsimp only; rw [if_neg (by omega), if_neg (by omega)]
  have hr' : rHo f' 0 (rL L r) := ⟨fun j hj => by rw [hf']; dsimp only; rw [if_pos (by omega)]; exact congrArg (rL L r) (by omega), by rw [hf', g5]; rfl⟩
  have hB' : bxF f' := by unfold bxF at *; rw [s6 96 (by omega), s6 97 (by omega), s6 98 (by omega)]; exact hB
  have := hc_eq hr' g1 hB' hi
  rw [s6 96 (by omega), s6 97 (by omega), s6 98 (by omega)] at this
  rw [← this]
  have q := hr'.1
  have q0 := q 0 (by omega)
  have q1 := q 1 (by omega)
  have q2 := q 2 (by omega)
  have q3 := q 3 (by omega)
  have q4 := q 4 (by omega)
  have q5 : f' 5 = 1 := by rw [hf']; rfl
  unfold scC mHc
  show _ = mHl f' (f' 0).toNat (f' (0 + 1)) (f' (0 + 2)) (f' (0 + 3)) (f' (0 + 4)) (f' 5 - 1) i
  rw [e0, g3 1 (by omega), g3 2 (by omega), g3 3 (by omega), g3 4 (by omega), q5]
  have q0' : f' 0 = rL L r 0 := q0
  have q1' : f' (0 + 1) = rL L r 1 := q1
  have q2' : f' (0 + 2) = rL L r 2 := q2
  have q3' : f' (0 + 3) = rL L r 3 := q3
  have q4' : f' (0 + 4) = rL L r 4 := q4
  rw [q0', q1', q2', q3', q4', show (1 : Int) - 1 = 0 by decide]
  unfold mHl
  rw [s6 (96 + (rL L r 0).toNat) (by omega)]
  have e : ∀ x y z : Int, mIb f' x y z = mIb f x y z := fun x y z => by
    unfold mIb
    rw [s6 (if x = 0 then 97 else 96) (by split <;> omega), s6 (if x = 2 then 97 else 98) (by split <;> omega)]
  rw [e]
theorem hCm_e {f : Nat → Int} (hB : bxF f) {L : List (Nat → Int)} (hS : rSc f L) {r s : Nat} (hr : r < L.length) (hs : s < L.length) : hCm (f 96) (f 97) (f 98) L r s = dmB f r s := by
  rw [Bool.eq_iff_iff, dmB_t]
  unfold hCm
  rw [sOr_iff]
  constructor
  · rintro ⟨k, hk, h⟩
    rw [Bool.and_eq_true, decide_eq_true_iff, sOr_iff] at h
    obtain ⟨h1, l, hl, h2⟩ := h
    have h2 := of_decide_eq_true h2
    rw [← scC_e hB hS hr (by omega)] at h1 h2
    rw [← scC_e hB hS hs (by omega)] at h2
    exact ⟨k, l, hk, hl, h1, h2.symm⟩
  · rintro ⟨k, l, hk, hl, h1, h2⟩
    refine ⟨k, hk, ?_⟩
    rw [Bool.and_eq_true, decide_eq_true_iff, sOr_iff]
    rw [scC_e hB hS hr (by omega)] at h1 h2
    rw [scC_e hB hS hs (by omega)] at h2
    exact ⟨h1, l, hl, decide_eq_true h2.symm⟩
theorem mt_b {f : Nat → Int} (hB : bxF f) {L : List (Nat → Int)} (hS : rSc f L) {s : Nat} (hs : s < L.length) : mt (f 96) (f 97) (f 98) L s = bN L.length (fun o => decide (s < o) && dmB f s o) := by
  unfold mt mtF
  exact bN_c fun i hi => by rw [hCm_e hB hS hs hi]
theorem mt_o {x y z : Int} {L : List (Nat → Int)} {s : Nat} (hs : L.length ≤ s) : mt x y z L s = 0 := by
  unfold mt mtF
  rw [bN_c (g := fun _ => false) fun i hi => by rw [decide_eq_false (by omega)]; rfl]
  exact bN_n _
/-- double counting -/
def dS (n : Nat) (g : Nat → Nat → Bool) : Nat → Nat
  | 0 => 0
  | k + 1 => dS n g k + sN n (g k)
theorem dS_add {n : Nat} {g h : Nat → Nat → Bool} {w : Nat → Nat → Bool} (he : ∀ a b, ((w a b).toNat) = (g a b).toNat + (h a b).toNat) : ∀ k, dS n w k = dS n g k + dS n h k := by
  have e : ∀ a m, sN m (w a) = sN m (g a) + sN m (h a) := fun a m => by
    induction m with
    | zero => rfl
    | succ m ih => rw [sN_s, sN_s, sN_s, ih, he]; omega
  intro k
  induction k with
  | zero => rfl
  | succ k ih => rw [dS, dS, dS, ih, e]; omega
theorem dS_c {n : Nat} {g h : Nat → Nat → Bool} : ∀ k, (∀ a, a < k → ∀ b, b < n → g a b = h a b) → dS n g k = dS n h k
  | 0, _ => rfl
  | k + 1, he => by rw [dS, dS, dS_c k (fun a ha => he a (by omega)), sN_c (he k (by omega))]
theorem dS_s {n : Nat} {g : Nat → Nat → Bool} : ∀ k, dS (n + 1) g k = dS n g k + sN k (fun a => g a n)
  | 0 => rfl
  | k + 1 => by rw [dS, dS, dS_s k, sN_s, sN_s]; omega
theorem dS_sw {g : Nat → Nat → Bool} : ∀ n k, dS n g k = dS k (fun a b => g b a) n
  | 0, k => by
    have h : ∀ k, dS 0 g k = 0 := fun k => by
      induction k with
      | zero => rfl
      | succ k ih => rw [dS, ih]; rfl
    rw [h]; rfl
  | n + 1, k => by rw [dS_s, dS_sw n k, dS]
theorem prS_d {f : Nat → Int} {n : Nat} (hn : n ≤ 8) : ∀ k, k ≤ n → prS f n k = dS n (fun a b => decide (a ≠ b) && dmB f a b) k
  | 0, _ => rfl
  | k + 1, hk => by
    rw [prS, dS, prS_d hn k (by omega), mOs_s, mtG_b]
    rw [sN_c (g := fun j => decide (j < n) && (decide (k ≠ j) && dmB f k j)) fun i hi => bN_tb _ _ _, sN_d hn]
theorem mtS_d {f : Nat → Int} (hB : bxF f) {L : List (Nat → Int)} (hS : rSc f L) : ∀ k, k ≤ L.length → mtS (f 96) (f 97) (f 98) L k = dS L.length (fun a b => decide (a < b) && dmB f a b) k
  | 0, _ => rfl
  | k + 1, hk => by
    have hl := hS.2.1
    rw [mtS, dS, mtS_d hB hS k (by omega), bC_o (mt_lt hl k), mt_b hB hS (by omega), mOs_s]
    rw [sN_c (g := fun j => decide (j < L.length) && (decide (k < j) && dmB f k j)) fun i hi => bN_tb _ _ _, sN_d hl]
theorem mtS_8 {x y z : Int} {L : List (Nat → Int)} : ∀ k, mtS x y z L (L.length + k) = mtS x y z L L.length
  | 0 => rfl
  | k + 1 => by rw [← Nat.add_assoc, mtS, mtS_8 k, mt_o (by omega)]; rfl
theorem pair_eq {f : Nat → Int} (hB : bxF f) {L : List (Nat → Int)} (hS : rSc f L) : prS f L.length L.length / 2 = mtS (f 96) (f 97) (f 98) L 8 := by
  have hl := hS.2.1
  have e8 := @mtS_8 (f 96) (f 97) (f 98) L (8 - L.length)
  rw [show L.length + (8 - L.length) = 8 by omega] at e8
  rw [e8, mtS_d hB hS _ (Nat.le_refl _), prS_d hl _ (Nat.le_refl _)]
  have h1 := @dS_add L.length (fun a b => decide (a < b) && dmB f a b) (fun a b => decide (b < a) && dmB f a b) (fun a b => decide (a ≠ b) && dmB f a b) (fun a b => by
    cases dmB f a b with
    | false => rw [Bool.and_false, Bool.and_false, Bool.and_false]; rfl
    | true =>
      rw [Bool.and_true, Bool.and_true, Bool.and_true]
      by_cases h1 : a < b
      · rw [decide_eq_true h1, decide_eq_true (show a ≠ b by omega), decide_eq_false (show ¬ b < a by omega)]; rfl
      · by_cases h2 : b < a
        · rw [decide_eq_false h1, decide_eq_true (show a ≠ b by omega), decide_eq_true h2]; rfl
        · rw [decide_eq_false h1, decide_eq_false (show ¬ a ≠ b by omega), decide_eq_false h2]; rfl) L.length
  have h2 : dS L.length (fun a b => decide (b < a) && dmB f a b) L.length = dS L.length (fun a b => decide (a < b) && dmB f a b) L.length := by
    rw [dS_sw]
    exact dS_c _ fun a _ b _ => by rw [dmB_s]
  rw [h1, h2]
  omega
theorem gAp_t {f : Nat → Int} (hB : bxF f) {L : List (Nat → Int)} (hS : rSc f L) {set : Nat} (hs : set < 2 ^ L.length) : gAp (f 96) (f 97) (f 98) L set = true ↔ ∀ s o, s < o → o < L.length → set.testBit s = true → set.testBit o = true → dmB f s o = false := by
  have hl := hS.2.1
  unfold gAp
  rw [Bool.not_eq_true']
  constructor
  · intro h s o h1 h2 h3 h4
    have := sOr_f h s (by omega)
    rw [h3, Bool.true_and, decide_eq_false_iff_not, mt_b hB hS (by omega), nz_tb] at this
    cases hd : dmB f s o with
    | false => rfl
    | true => exact absurd ⟨o, by rw [bN_tb, decide_eq_true h2, decide_eq_true h1, hd]; rfl, h4⟩ this
  · intro h
    cases hc : sOr 8 (fun s => set.testBit s && decide (mt (f 96) (f 97) (f 98) L s &&& set ≠ 0)) with
    | false => rfl
    | true =>
      obtain ⟨s, h1, h2⟩ := sOr_iff.mp hc
      rw [Bool.and_eq_true, decide_eq_true_iff] at h2
      have hsl : s < L.length := Nat.lt_of_not_le fun q => by rw [tb_hi hs q] at h2; exact absurd h2.1 (by decide)
      rw [mt_b hB hS hsl, nz_tb] at h2
      obtain ⟨h3, o, h4, h5⟩ := h2
      rw [bN_tb, Bool.and_eq_true, Bool.and_eq_true, decide_eq_true_iff, decide_eq_true_iff] at h4
      rw [h s o h4.2.1 h4.1 h3 h5] at h4
      exact absurd h4.2.2 (by decide)
theorem bsB_t {f : Nat → Int} {n set : Nat} : ∀ k, k ≤ n → (bsB f n set k = true ↔ ∀ a b, a < k → b < n → a ≠ b → set.testBit a = true → set.testBit b = true → dmB f a b = false)
  | 0, _ => ⟨fun _ a b ha => absurd ha (Nat.not_lt_zero _), fun _ => rfl⟩
  | k + 1, hk => by
    rw [bsB, Bool.and_eq_true, bsB_t k (by omega), Bool.or_eq_true, Bool.not_eq_true', decide_eq_true_iff]
    constructor
    · rintro ⟨h1, h2⟩ a b ha hb hne h3 h4
      by_cases e : a = k
      · subst e
        rcases h2 with h2 | h2
        · rw [h3] at h2; cases h2
        · cases hd : dmB f a b with
          | false => rfl
          | true =>
            exact absurd h2 (nz_tb.mpr ⟨b, by rw [mtG_b, bN_tb, decide_eq_true hb, decide_eq_true hne, hd]; rfl, h4⟩)
      · exact h1 a b (by omega) hb hne h3 h4
    · intro h
      refine ⟨fun a b ha => h a b (by omega), ?_⟩
      cases h3 : set.testBit k with
      | false => exact .inl rfl
      | true =>
        refine .inr (Classical.byContradiction fun hn => ?_)
        obtain ⟨i, h4, h5⟩ := nz_tb.mp hn
        rw [mtG_b, bN_tb, Bool.and_eq_true, Bool.and_eq_true, decide_eq_true_iff, decide_eq_true_iff] at h4
        rw [h k i (by omega) h4.1 h4.2.1 h3 h5] at h4
        exact absurd h4.2.2 (by decide)
theorem ap_eq {f : Nat → Int} (hB : bxF f) {L : List (Nat → Int)} (hS : rSc f L) : ∀ k, k ≤ 2 ^ L.length → apF (f 96) (f 97) (f 98) L k = bsF f L.length k := by
  have hl := hS.2.1
  have h256 : 2 ^ L.length ≤ 2 ^ 8 := Nat.pow_le_pow_right (by decide) hl
  intro k
  induction k with
  | zero => intro _; rfl
  | succ k ih =>
    intro hk
    have hle := @bsF_lt f L.length k
    rw [apF, bsF, ih (by omega), bC_o (by omega), bC_o (x := k) (by omega)]
    have e : gAp (f 96) (f 97) (f 98) L k = true ↔ bsB f L.length k L.length = true := by
      rw [gAp_t hB hS (by omega), bsB_t _ (Nat.le_refl _)]
      constructor
      · intro h a b ha hb hne h3 h4
        rcases Nat.lt_or_gt_of_ne hne with q | q
        · exact h a b q hb h3 h4
        · rw [dmB_s]; exact h b a q ha h4 h3
      · intro h s o h1 h2 h3 h4
        exact h s o (by omega) h2 (by omega) h3 h4
    by_cases hc : mOs (bsF f L.length k) 8 < mOs k 8 ∧ bsB f L.length k L.length = true
    · rw [if_pos hc, if_pos ⟨hc.1, e.mpr hc.2⟩]
    · rw [if_neg hc, if_neg fun q => hc ⟨q.1, e.mp q.2⟩]
section
variable {sc : Nat → Int} {ln t a n d : Nat} {CS : Nat → List gCla} {lw : Option (List gCla)} {Y : vi_Y} {M : vi_M} {nn : Nat × Nat} {K : Option vi_V → vi_W → Prop}
theorem p_217 (hW : jW sc ln t a CS lw n Y M nn) {x : Int} : jPair sc ln t (d + 70) 217 344 [.inl x] (Y, M, nn) := by
  have hY := hW.1.1
  have h9 := hW.1.2.1
  obtain ⟨a1, a2, a3, a4, a5, a6, a7, a8, a9, a10, a11, a12⟩ := y_29 h9
  obtain ⟨z1, -⟩ := y_107 hY (by omega)
  obtain ⟨LH, LR, LS, c1, c2, c3, c4⟩ := hW.2.2.2.1
  obtain ⟨⟨o1, o2, o3⟩, cH, cR', cS, cD, cC, cZ, cL⟩ := c1
  have hB := cZ.2.2.2.2.1
  have hBM : mBx M := hB
  have hb : gB (M 30 8) (M 30 9) (M 30 10) := by rw [cZ.1, cZ.2.1, cZ.2.2.1]; exact hB
  have hl := cS.2.1
  have hgs : ∀ r, r < LS.length → gH (rL LS r) := fun r hr => (cS.2.2 r hr).1
  refine jPair_q hW fun K hK => ?_
  by_cases h : 0 ≤ x ∧ x ≤ 2
  · have k105 := fun {K : Option vi_V → vi_W → Prop} => @k_105 (d + 64) K Y M nn LS hY hb o3 hl hgs
    have k106 := fun {K : Option vi_V → vi_W → Prop} => @k_106 (d + 64) K Y M nn LS hY hb o3 hl hgs
    simp only [Nat.add_assoc, Nat.reduceAdd] at k105 k106
    rw [cZ.1, cZ.2.1, cZ.2.2.1] at k105 k106
    obtain ⟨G, hG⟩ : ∃ G, G = vi_m 8 (fun s => (mt (M 114 96) (M 114 97) (M 114 98) LS s : Int)) (M 110) := ⟨_, rfl⟩
    rw [← hG] at k105 k106
    clear hG
    have cq : cQ M (vi_rs M 110 G) := cQ_u (by omega) (by omega)
    have hW1 := jW_q hW cq (jJ_o hW.2.2.2.2.2.2.2.2.2 (by omega) (by unfold jCe; omega))
    have e114 : vi_rs M 110 G 114 = M 114 := vi_rs_o (by decide)
    have e2 := ap_eq hB cS (2 ^ LS.length) (Nat.le_refl _)
    have hle := @bsF_lt (M 114) LS.length (2 ^ LS.length)
    have h256 : 2 ^ LS.length ≤ 2 ^ 8 := Nat.pow_le_pow_right (by decide) hl
    have hlt : bsF (M 114) LS.length (2 ^ LS.length) < 256 := by
      rw [← e2]
      have : ∀ k, apF (M 114 96) (M 114 97) (M 114 98) LS k < 256 ∨ k = 0 ∨ 256 < k := fun k => by
        cases k with
        | zero => exact .inr (.inl rfl)
        | succ k =>
          have := @apF_le (M 114 96) (M 114 97) (M 114 98) LS k
          rw [apF]
          split <;> omega
      rcases this (2 ^ LS.length) with h | h | h
      · exact h
      · exact absurd h (by have := Nat.two_pow_pos LS.length; omega)
      · omega
    have hK2 : ∀ r, r = mtR (M 114) LS.length x → K (some (.inl r)) (Y, vi_rs M 110 G, nn) := fun r hr => by
      refine hK (.inl r) _ hW1 fun K2 h2 => ?_
      have k344 := @k_344 (d + 70) K2 Y (vi_rs M 110 G) nn hY (mBx_c e114 hBM) LS.length hl (by rw [e114]; exact cS.1) (fun s hs => by
        rw [e114]
        obtain ⟨g1, g5, g2, g3⟩ := cS.2.2 s hs
        have e0 := g3 0 (by omega)
        rw [Nat.add_zero] at e0
        unfold mSw
        rw [e0, g3 1 (by omega), g3 2 (by omega)]
        exact ⟨g1.1, by have := g1.2.1; omega, by have := g1.2.2.1; omega⟩) x h (by omega)
      rw [e114] at k344
      rw [k344, ← hr]
      exact h2 _ (jW_r hW1 (mFx_g (mFx_p fun p p1 p2 p3 => vi_rs_o (by omega))) (jM_k hW1.2.2.2.2.1 (fun p hp => vi_rs_o (by omega)) fun k hk => by rw [vi_rs_o (by decide)]))
    have r0 := hK2 (mtS (M 114 96) (M 114 97) (M 114 98) LS 8 : Int)
    have r2 := hK2 (apF (M 114 96) (M 114 97) (M 114 98) LS (2 ^ LS.length) : Int)
    have r1 := hK2 (bC (apF (M 114 96) (M 114 97) (M 114 98) LS (2 ^ LS.length)) : Int)
    have p0 := pair_eq hB cS
    have p1 : bC (bsF (M 114) LS.length (2 ^ LS.length)) = mOs (bsF (M 114) LS.length (2 ^ LS.length)) 8 := bC_o hlt
    rw [e2] at r1 r2 k106
    generalize hBe : bsF (M 114) LS.length (2 ^ LS.length) = B at *
    have k356 := fun {K : Option vi_V → vi_W → Prop} {w : vi_W} => @k_356 (d + 68) K w B (by omega)
    simp only [Nat.add_assoc, Nat.reduceAdd] at k356
    clear hK hK2 hW1 hW cZ cH cR' cS cD cC cL o1 o2 o3 hB hBM hb hgs c3 c4 cq e2 hle
    obtain rfl | rfl | rfl : x = 0 ∨ x = 1 ∨ x = 2 := by omega
    · have := r0 (by unfold mtR; rw [if_pos rfl, p0])
      clear r0 r1 r2
      simp (disch := omega) only [Option.toList_some, Option.toList_none, List.nil_append, List.cons_append, List.append_nil, true_and, and_true, not_true_eq_false, not_false_eq_true, true_implies, false_implies, implies_true, and_self, Int.reduceLT, Int.reduceLE, Int.reduceEq, Int.reduceNe, Int.reduceAdd, Int.reduceSub, Int.reduceMul, Int.reduceNeg, Int.reduceToNat, Int.toNat_natCast, ↓kk_ck, ↓kk_im, ↓kk_in, e_217, s_217_0, s_217_28, s_217_36, s_217_47, s_217_55, s_217_32, s_217_40, s_217_51, s_217_35, s_217_43, s_217_54, s_217_46, a1, a11, z1, vi_swp, k105, ne_eq]
      exact this
    · have := r1 (by unfold mtR; rw [if_neg (by decide), if_pos rfl, hBe, p1])
      clear r0 r1 r2
      unfold bC at this
      simp (disch := omega) only [Option.toList_some, Option.toList_none, List.nil_append, List.cons_append, List.append_nil, true_and, and_true, not_true_eq_false, not_false_eq_true, true_implies, false_implies, implies_true, and_self, Int.reduceLT, Int.reduceLE, Int.reduceEq, Int.reduceNe, Int.reduceAdd, Int.reduceSub, Int.reduceMul, Int.reduceNeg, Int.reduceToNat, Int.toNat_natCast, ↓kk_ck, ↓kk_im, ↓kk_in, e_217, s_217_0, s_217_28, s_217_36, s_217_47, s_217_55, s_217_32, s_217_40, s_217_51, s_217_35, s_217_43, s_217_54, s_217_46, a1, a11, z1, vi_swp, k106, k356, ne_eq]
      exact this
    · have := r2 (by unfold mtR; rw [if_neg (by decide), if_neg (by decide), hBe])
      clear r0 r1 r2
      simp (disch := omega) only [Option.toList_some, Option.toList_none, List.nil_append, List.cons_append, List.append_nil, true_and, and_true, not_true_eq_false, not_false_eq_true, true_implies, false_implies, implies_true, and_self, Int.reduceLT, Int.reduceLE, Int.reduceEq, Int.reduceNe, Int.reduceAdd, Int.reduceSub, Int.reduceMul, Int.reduceNeg, Int.reduceToNat, Int.toNat_natCast, ↓kk_ck, ↓kk_im, ↓kk_in, e_217, s_217_0, s_217_28, s_217_36, s_217_47, s_217_55, s_217_32, s_217_40, s_217_51, s_217_35, s_217_43, s_217_54, s_217_46, a1, a11, z1, vi_swp, k106, ne_eq]
      exact this
  · have hK := hK (.inl (-1)) M hW fun K2 h2 => by rw [k_344n hY h (by omega)]; exact h2 M hW
    have n0 : ¬ x = 0 := by omega
    have n1 : ¬ x = 1 := by omega
    have n2 : ¬ x = 2 := by omega
    clear hW cZ cH cR' cS cD cC cL o1 o2 o3 hB hBM hb hgs c3 c4
    simp (disch := omega) only [Option.toList_some, Option.toList_none, List.nil_append, List.cons_append, List.append_nil, true_and, and_true, not_true_eq_false, not_false_eq_true, true_implies, false_implies, implies_true, and_self, Int.reduceLT, Int.reduceLE, Int.reduceEq, Int.reduceNe, Int.reduceAdd, Int.reduceSub, Int.reduceMul, Int.reduceNeg, Int.reduceToNat, Int.toNat_natCast, ↓kk_ck, ↓kk_im, ↓kk_in, e_217, s_217_0, s_217_28, s_217_36, s_217_47, s_217_55, s_217_32, s_217_40, s_217_51, s_217_35, s_217_43, s_217_54, s_217_46, a1, vi_swp, n0, n1, n2, ne_eq, if_false]
    exact hK
end
