/-! Counts of class and reference: what is LEFT, faces, what lies within. -/
theorem sN_sh {g h : Nat → Bool} {s : Nat} (h1 : ∀ i, i < s → g i = false) (h2 : ∀ i, g (i + s) = h i) : ∀ k, sN (k + s) g = sN k h := by
  intro k
  induction k with
  | zero =>
    rw [Nat.zero_add]
    have : ∀ j, j ≤ s → sN j g = 0 := by
      intro j
      induction j with
      | zero => intro _; rfl
      | succ j ih => intro hj; rw [sN_s, ih (by omega), h1 j (by omega)]; rfl
    exact this s (Nat.le_refl _)
  | succ k ih => rw [show k + 1 + s = k + s + 1 by omega, sN_s, ih, sN_s, h2]
theorem sN_ge' {g : Nat → Bool} {i m : Nat} (h : ∀ j, i ≤ j → j < m → g j = false) : ∀ k, i ≤ k → k ≤ m → sN k g = sN i g := by
  intro k hk
  induction k with
  | zero => intro _; rw [show i = 0 by omega]
  | succ k ih =>
    intro h6
    by_cases e : i = k + 1
    · rw [e]
    · rw [sN_s, h k (by omega) (by omega), ih (by omega) (by omega)]; rfl
/-- counted from the other side -/
theorem sN_sw {g h : Nat → Bool} {s : Nat} (hs : s ≤ 216) (h1 : ∀ i, i < s → g i = false) (h2 : ∀ i, g (i + s) = h i) (h3 : ∀ i, 216 - s ≤ i → i < 216 → h i = false) : sN 216 g = sN 216 h := by
  have e := sN_sh h1 h2 (216 - s)
  rw [show 216 - s + s = 216 by omega] at e
  rw [e, sN_ge' (i := 216 - s) (m := 216) h3 216 (by omega) (Nat.le_refl _)]
theorem sN_xl {S T : Nat → Bool} (hT : ∀ c, 216 ≤ c → T c = false) : sN 216 (fun c => sXl S c && T c) = sN 216 (fun c => S c && sXh T c) := by
  refine sN_sw (s := 1) (by omega) (fun i hi => ?_) (fun i => ?_) fun i h1 h2 => ?_
  · unfold sXl; rw [decide_eq_false (by omega)]; rfl
  · unfold sXl sXh
    rw [show i + 1 - 1 = i by omega]
    by_cases h : i % 6 = 5
    · rw [decide_eq_false (show ¬ ((i + 1) % 6 ≠ 0) by omega), decide_eq_false (show ¬ (i % 6 ≠ 5) by omega)]; simp
    · rw [decide_eq_true (show (i + 1) % 6 ≠ 0 by omega), decide_eq_true (show i % 6 ≠ 5 by omega)]; simp
  · unfold sXh; rw [decide_eq_false (by omega)]; simp
theorem sN_xh {S T : Nat → Bool} : sN 216 (fun c => sXh S c && T c) = sN 216 (fun c => S c && sXl T c) := by
  refine (sN_sw (s := 1) (by omega) (fun i hi => ?_) (fun i => ?_) fun i h1 h2 => ?_).symm
  · unfold sXl; rw [decide_eq_false (by omega)]; simp
  · unfold sXl sXh
    rw [show i + 1 - 1 = i by omega]
    by_cases h : i % 6 = 5
    · rw [decide_eq_false (show ¬ ((i + 1) % 6 ≠ 0) by omega), decide_eq_false (show ¬ (i % 6 ≠ 5) by omega)]; simp
    · rw [decide_eq_true (show (i + 1) % 6 ≠ 0 by omega), decide_eq_true (show i % 6 ≠ 5 by omega)]; simp
  · unfold sXh; rw [decide_eq_false (by omega)]; rfl
theorem sN_yl {S T : Nat → Bool} : sN 216 (fun c => sYl S c && T c) = sN 216 (fun c => S c && sYh T c) := by
  refine sN_sw (s := 6) (by omega) (fun i hi => ?_) (fun i => ?_) fun i h1 h2 => ?_
  · unfold sYl; rw [decide_eq_false (by omega)]; rfl
  · unfold sYl sYh
    rw [show i + 6 - 6 = i by omega]
    by_cases h : i / 6 % 6 = 5
    · rw [decide_eq_false (show ¬ ((i + 6) / 6 % 6 ≠ 0) by omega), decide_eq_false (show ¬ (i / 6 % 6 ≠ 5) by omega)]; simp
    · rw [decide_eq_true (show (i + 6) / 6 % 6 ≠ 0 by omega), decide_eq_true (show i / 6 % 6 ≠ 5 by omega)]; simp
  · unfold sYh; rw [decide_eq_false (by omega)]; simp
theorem sN_yh {S T : Nat → Bool} : sN 216 (fun c => sYh S c && T c) = sN 216 (fun c => S c && sYl T c) := by
  refine (sN_sw (s := 6) (by omega) (fun i hi => ?_) (fun i => ?_) fun i h1 h2 => ?_).symm
  · unfold sYl; rw [decide_eq_false (by omega)]; simp
  · unfold sYl sYh
    rw [show i + 6 - 6 = i by omega]
    by_cases h : i / 6 % 6 = 5
    · rw [decide_eq_false (show ¬ ((i + 6) / 6 % 6 ≠ 0) by omega), decide_eq_false (show ¬ (i / 6 % 6 ≠ 5) by omega)]; simp
    · rw [decide_eq_true (show (i + 6) / 6 % 6 ≠ 0 by omega), decide_eq_true (show i / 6 % 6 ≠ 5 by omega)]; simp
  · unfold sYh; rw [decide_eq_false (by omega)]; rfl
theorem sSd_d {S T : Nat → Bool} (hT : ∀ c, 216 ≤ c → T c = false) : sSd S T = sN 216 (fun c => S c && sXh T c) + sN 216 (fun c => S c && sXl T c) + sN 216 (fun c => S c && sYh T c) + sN 216 (fun c => S c && sYl T c) + sN 216 (fun c => S c && sZl T c) + sN 216 (fun c => S c && sZh T c) := by
  unfold sSd
  rw [sN_xl hT, sN_xh, sN_yl, sN_yh]
/-- the neighbours of a CELL of the box -/
theorem nb_6 {f : Nat → Int} (hB : bxF f) {c : Nat} (hc : bxS f c = true) {T : Nat → Bool} (hT : ∀ b, T b = true → bxS f b = true) :
    sXl T c = (if mBe (rowM f) (c : Int) 0 = -1 then false else T (mBe (rowM f) (c : Int) 0).toNat) ∧ sXh T c = (if mBe (rowM f) (c : Int) 1 = -1 then false else T (mBe (rowM f) (c : Int) 1).toNat) ∧
    sYl T c = (if mBe (rowM f) (c : Int) 2 = -1 then false else T (mBe (rowM f) (c : Int) 2).toNat) ∧ sYh T c = (if mBe (rowM f) (c : Int) 3 = -1 then false else T (mBe (rowM f) (c : Int) 3).toNat) ∧
    sZl T c = (if mBe (rowM f) (c : Int) 4 = -1 then false else T (mBe (rowM f) (c : Int) 4).toNat) ∧ sZh T c = (if mBe (rowM f) (c : Int) 5 = -1 then false else T (mBe (rowM f) (c : Int) 5).toNat) := by
  have hc' := of_decide_eq_true hc
  obtain ⟨b1, b2, b3⟩ := hB
  have out : ∀ b : Nat, ¬ ((b : Int) ≤ 215 ∧ (b : Int) % 6 < f 96 ∧ (b : Int) / 6 % 6 < f 97 ∧ (b : Int) / 36 < f 98) → T b = false := by
    intro b hb
    cases h : T b with
    | false => rfl
    | true => exact absurd (of_decide_eq_true (hT b h)) (by omega)
  have e0 : mBe (rowM f) (c : Int) 0 = if (c : Int) % 6 = 0 then -1 else (c : Int) - 1 := rfl
  have e1 : mBe (rowM f) (c : Int) 1 = if f 96 ≤ (c : Int) % 6 + 1 then -1 else (c : Int) + 1 := rfl
  have e2 : mBe (rowM f) (c : Int) 2 = if (c : Int) / 6 % 6 = 0 then -1 else (c : Int) - 6 := rfl
  have e3 : mBe (rowM f) (c : Int) 3 = if f 97 ≤ (c : Int) / 6 % 6 + 1 then -1 else (c : Int) + 6 := rfl
  have e4 : mBe (rowM f) (c : Int) 4 = if (c : Int) / 36 = 0 then -1 else (c : Int) - 36 := rfl
  have e5 : mBe (rowM f) (c : Int) 5 = if f 98 ≤ (c : Int) / 36 + 1 then -1 else (c : Int) + 36 := rfl
  rw [e0, e1, e2, e3, e4, e5]
  refine ⟨?_, ?_, ?_, ?_, ?_, ?_⟩
  · unfold sXl
    by_cases h : (c : Int) % 6 = 0
    · rw [if_pos h, if_pos rfl, decide_eq_false (by omega)]; rfl
    · rw [if_neg h, if_neg (by omega), decide_eq_true (by omega), Bool.true_and, show ((c : Int) - 1).toNat = c - 1 by omega]
  · unfold sXh
    by_cases h : f 96 ≤ (c : Int) % 6 + 1
    · rw [if_pos h, if_pos rfl]
      by_cases h5 : c % 6 = 5
      · rw [decide_eq_false (by omega)]; rfl
      · rw [out (c + 1) (by omega), Bool.and_false]
    · rw [if_neg h, if_neg (by omega), decide_eq_true (by omega), Bool.true_and, show ((c : Int) + 1).toNat = c + 1 by omega]
  · unfold sYl
    by_cases h : (c : Int) / 6 % 6 = 0
    · rw [if_pos h, if_pos rfl, decide_eq_false (by omega)]; rfl
    · rw [if_neg h, if_neg (by omega), decide_eq_true (by omega), Bool.true_and, show ((c : Int) - 6).toNat = c - 6 by omega]
  · unfold sYh
    by_cases h : f 97 ≤ (c : Int) / 6 % 6 + 1
    · rw [if_pos h, if_pos rfl]
      by_cases h5 : c / 6 % 6 = 5
      · rw [decide_eq_false (by omega)]; rfl
      · rw [out (c + 6) (by omega), Bool.and_false]
    · rw [if_neg h, if_neg (by omega), decide_eq_true (by omega), Bool.true_and, show ((c : Int) + 6).toNat = c + 6 by omega]
  · unfold sZl
    by_cases h : (c : Int) / 36 = 0
    · rw [if_pos h, if_pos rfl, decide_eq_false (by omega)]; rfl
    · rw [if_neg h, if_neg (by omega), decide_eq_true (by omega), Bool.true_and, show ((c : Int) - 36).toNat = c - 36 by omega]
  · unfold sZh
    by_cases h : f 98 ≤ (c : Int) / 36 + 1
    · rw [if_pos h, if_pos rfl]
      by_cases h5 : c / 36 = 5
      · rw [decide_eq_false (by omega)]; rfl
      · rw [out (c + 36) (by omega), Bool.and_false]
    · rw [if_neg h, if_neg (by omega), decide_eq_true (by omega), Bool.true_and, show ((c : Int) + 36).toNat = c + 36 by omega]
theorem mBe_bx {M : vi_M} (hB : mBx M) {c : Int} (hc : mIc M c) {d : Nat} (hd : d < 6) (h : mBe M c d ≠ -1) : mIc M (mBe M c d) := by
  obtain ⟨b0, b1, b2⟩ := hB
  obtain ⟨c0, c1, c2, c3, c4⟩ := hc
  unfold mIc
  obtain rfl | rfl | rfl | rfl | rfl | rfl : d = 0 ∨ d = 1 ∨ d = 2 ∨ d = 3 ∨ d = 4 ∨ d = 5 := by omega
  · rw [show mBe M c 0 = if c % 6 = 0 then -1 else c - 1 from rfl] at *
    split at h
    · omega
    · rw [if_neg (by omega)]; omega
  · rw [show mBe M c 1 = if M 114 96 ≤ c % 6 + 1 then -1 else c + 1 from rfl] at *
    split at h
    · omega
    · rw [if_neg (by omega)]; omega
  · rw [show mBe M c 2 = if c / 6 % 6 = 0 then -1 else c - 6 from rfl] at *
    split at h
    · omega
    · rw [if_neg (by omega)]; omega
  · rw [show mBe M c 3 = if M 114 97 ≤ c / 6 % 6 + 1 then -1 else c + 6 from rfl] at *
    split at h
    · omega
    · rw [if_neg (by omega)]; omega
  · rw [show mBe M c 4 = if c / 36 = 0 then -1 else c - 36 from rfl] at *
    split at h
    · omega
    · rw [if_neg (by omega)]; omega
  · rw [show mBe M c 5 = if M 114 98 ≤ c / 36 + 1 then -1 else c + 36 from rfl] at *
    split at h
    · omega
    · rw [if_neg (by omega)]; omega
theorem lfS_b {f : Nat → Int} {lw : Option (List gCla)} {n c : Nat} (h : lfS f lw n c = true) : bxS f c = true := by
  unfold lfS mLf at h
  rw [Bool.and_eq_true, Bool.and_eq_true] at h
  exact h.1.1
theorem bxS_o {f : Nat → Int} {c : Nat} (h : 216 ≤ c) : bxS f c = false := decide_eq_false (by omega)
section
variable {M : vi_M} {S : Nat → Bool}
/-- the faces of one CELL -/
theorem mOu_d (hB : bxF (M 114)) (hg : ∀ c, c < 216 → M 126 c = vi_b (S c)) {c : Nat} (hc : bxS (M 114) c = true) : mOu M (c : Int) 6 = ((sXl (sDif (bxS (M 114)) S) c).toNat + (sXh (sDif (bxS (M 114)) S) c).toNat + (sYl (sDif (bxS (M 114)) S) c).toNat + (sYh (sDif (bxS (M 114)) S) c).toNat + (sZl (sDif (bxS (M 114)) S) c).toNat + (sZh (sDif (bxS (M 114)) S) c).toNat : Nat) := by
  have hm : mIc M (c : Int) := mIcb_t hc
  obtain ⟨n0, n1, n2, n3, n4, n5⟩ := nb_6 hB hc (T := sDif (bxS (M 114)) S) (fun b hb => by unfold sDif at hb; rw [Bool.and_eq_true] at hb; exact hb.1)
  have e : ∀ d, d < 6 → (if mBe M (c : Int) d = -1 then (0 : Int) else if M 126 (mBe M (c : Int) d).toNat = 0 then 1 else 0) = ((if mBe (rowM (M 114)) (c : Int) d = -1 then false else sDif (bxS (M 114)) S (mBe (rowM (M 114)) (c : Int) d).toNat).toNat : Int) := by
    intro d hd
    rw [mBe_c (M := M) (M' := rowM (M 114)) rfl]
    have hr := mBe_r hB hm hd
    by_cases h : mBe M (c : Int) d = -1
    · rw [if_pos h, if_pos h]; rfl
    · rw [if_neg h, if_neg h]
      have hr' : 0 ≤ mBe M (c : Int) d ∧ mBe M (c : Int) d < 216 := by omega
      obtain ⟨b, hb⟩ : ∃ b : Nat, mBe M (c : Int) d = (b : Int) := ⟨(mBe M (c : Int) d).toNat, by omega⟩
      rw [hb, Int.toNat_natCast, hg b (by omega)]
      have hbx : bxS (M 114) b = true := by
        have := mBe_bx hB hm hd h
        rw [hb] at this
        exact decide_eq_true this
      unfold sDif
      rw [hbx, Bool.true_and]
      cases S b
      · rw [if_pos (show vi_b false = 0 from rfl)]; rfl
      · rw [if_neg (show ¬ vi_b true = 0 by decide)]; rfl
  rw [mOu, mOu, mOu, mOu, mOu, mOu, mOu, e 0 (by omega), e 1 (by omega), e 2 (by omega), e 3 (by omega), e 4 (by omega), e 5 (by omega), n0, n1, n2, n3, n4, n5]
  omega
theorem mLa_2 (hB : bxF (M 114)) (hg : ∀ c, c < 216 → M 126 c = vi_b (S c)) (hS : ∀ c, S c = true → bxS (M 114) c = true) (T : Nat → Bool) (hT : T = sDif (bxS (M 114)) S) : ∀ k, k ≤ 216 → (mLa M k).2.1 = ((sN k (fun c => S c && sXh T c) + sN k (fun c => S c && sXl T c) + sN k (fun c => S c && sYh T c) + sN k (fun c => S c && sYl T c) + sN k (fun c => S c && sZl T c) + sN k (fun c => S c && sZh T c) : Nat) : Int) := by
  intro k
  induction k with
  | zero => intro _; rfl
  | succ k ih =>
    intro hk
    rw [mLa, hg k (by omega)]
    simp only [sN_s]
    cases h : S k
    · rw [if_pos (show vi_b false = 0 from rfl), ih (by omega)]
      simp
    · rw [if_neg (show ¬ vi_b true = 0 by decide)]
      dsimp only
      rw [ih (by omega), mOu_d hB hg (hS k h), ← hT]
      simp only [Bool.true_and]
      omega
theorem mInn_6 (hB : bxF (M 114)) (hg : ∀ c, c < 216 → M 126 c = vi_b (S c)) (hS : ∀ c, S c = true → bxS (M 114) c = true) {c : Nat} (hc : bxS (M 114) c = true) : mInn M (c : Int) 6 = ((sXl S c).toNat + (sXh S c).toNat + (sYl S c).toNat + (sYh S c).toNat + (sZl S c).toNat + (sZh S c).toNat : Nat) := by
  have hm : mIc M (c : Int) := mIcb_t hc
  obtain ⟨n0, n1, n2, n3, n4, n5⟩ := nb_6 hB hc (T := S) hS
  have e : ∀ d, d < 6 → (if mBe M (c : Int) d = -1 then (0 : Int) else if M 126 (mBe M (c : Int) d).toNat = 0 then 0 else 1) = ((if mBe (rowM (M 114)) (c : Int) d = -1 then false else S (mBe (rowM (M 114)) (c : Int) d).toNat).toNat : Int) := by
    intro d hd
    rw [mBe_c (M := M) (M' := rowM (M 114)) rfl]
    have hr := mBe_r hB hm hd
    by_cases h : mBe M (c : Int) d = -1
    · rw [if_pos h, if_pos h]; rfl
    · rw [if_neg h, if_neg h]
      have hr' : 0 ≤ mBe M (c : Int) d ∧ mBe M (c : Int) d < 216 := by omega
      obtain ⟨b, hb⟩ : ∃ b : Nat, mBe M (c : Int) d = (b : Int) := ⟨(mBe M (c : Int) d).toNat, by omega⟩
      rw [hb, Int.toNat_natCast, hg b (by omega)]
      cases S b
      · rw [if_pos (show vi_b false = 0 from rfl)]; rfl
      · rw [if_neg (show ¬ vi_b true = 0 by decide)]; rfl
  rw [mInn, mInn, mInn, mInn, mInn, mInn, mInn, e 0 (by omega), e 1 (by omega), e 2 (by omega), e 3 (by omega), e 4 (by omega), e 5 (by omega), n0, n1, n2, n3, n4, n5]
  omega
theorem mLa_3 (hB : bxF (M 114)) (hg : ∀ c, c < 216 → M 126 c = vi_b (S c)) (hS : ∀ c, S c = true → bxS (M 114) c = true) : ∀ k, k ≤ 216 → (mLa M k).2.2 = (sN k (sInn S) : Int) := by
  intro k
  induction k with
  | zero => intro _; rfl
  | succ k ih =>
    intro hk
    rw [mLa, hg k (by omega), sN_s]
    cases h : S k
    · rw [if_pos (show vi_b false = 0 from rfl), ih (by omega)]
      unfold sInn
      rw [h]
      simp
    · rw [if_neg (show ¬ vi_b true = 0 by decide)]
      dsimp only
      rw [ih (by omega), mInn_6 hB hg hS (hS k h)]
      unfold sInn
      rw [h]
      cases sXl S k <;> cases sXh S k <;> cases sYl S k <;> cases sYh S k <;> cases sZl S k <;> cases sZh S k <;> rfl
end
def lfV (f : Nat → Int) (lw : Option (List gCla)) (n : Nat) (x : Int) : Int := if x = 0 then (sN 216 (lfS f lw n) : Int) else if x = 1 then sW 216 (lfS f lw n) (fun c => (tlS f lw n c).2.2) else if x = 2 then (sSd (lfS f lw n) (sDif (bxS f) (lfS f lw n)) : Int) else if x = 3 then (sN 216 (sInn (lfS f lw n)) : Int) else -1
theorem sW_c {P : Nat → Bool} {u v : Nat → Int} : ∀ k, (∀ c, c < k → P c = true → u c = v c) → sW k P u = sW k P v := by
  intro k
  induction k with
  | zero => intro _; rfl
  | succ k ih =>
    intro h
    rw [sW, sW, ih (fun c hc => h c (by omega))]
    cases hp : P k
    · rfl
    · rw [if_pos rfl, if_pos rfl, h k (by omega) hp]
theorem mT_b {M : vi_M} {c h : Int} {lw : Option (List gCla)} : 1 ≤ (mT M c h lw).2.2 ∧ (mT M c h lw).2.2 ≤ 99 := by
  cases lw with
  | none => exact ⟨show (1 : Int) ≤ 1 by decide, show (1 : Int) ≤ 99 by decide⟩
  | some cs =>
    show 1 ≤ mCl _ ∧ mCl _ ≤ 99
    unfold mCl
    omega
section
variable {sc : Nat → Int} {ln t a n d : Nat} {CS : Nat → List gCla} {lw : Option (List gCla)} {Y : vi_Y} {M : vi_M} {nn : Nat × Nat} {K : Option vi_V → vi_W → Prop}
theorem k_201 (hY : kY Y 112) (h9 : kY9 Y) {f : Nat → Int} (hV : jV M f lw n) (hJ : jJ M) {x : Int} : ∃ M', cQ M M' ∧ jJ M' ∧ ∀ K : Option vi_V → vi_W → Prop, vi_call GG (d + 70) 201 [.inr (.inr 29), .inl x] (Y, M, nn) K ↔ K (some (.inl (lfV f lw n x))) (Y, M', nn) := by
  obtain ⟨a1, a2, a3, a4, a5, a6, a7, a8, a9, a10, a11, a12⟩ := y_29 h9
  obtain ⟨c1, c2, c3, c4, c5, c6, c7, c8, c9⟩ := y_60 hY (by omega)
  have p1 := kC_65 hY (by omega)
  obtain ⟨v1, v2, v3, v4, v5⟩ := hV
  have hY73 := kY_le hY (show 73 ≤ 112 by omega)
  obtain ⟨R, hR⟩ := hJ.1 70 (.inl rfl)
  have hw : ∀ c, c < 216 → lfS f lw n c = true → M 62 c = (tlS f lw n c).2.2 := fun c hc h => v2 c hc (lfS_b h)
  have jq : ∀ S, jJ (vi_rs M 70 (cR S)) := fun S => ⟨fun q hq => by
    by_cases e : q = 70
    · subst e; exact ⟨S, vi_rs_s⟩
    · rw [vi_rs_o e]; exact hJ.1 q hq, by rw [vi_rs_o (by decide)]; exact hJ.2⟩
  have cq : ∀ g, cQ M (vi_rs M 70 g) := fun g => ⟨fun p hp => vi_rs_o (by omega), by rw [vi_rs_o (by decide)]⟩
  by_cases h0 : x = 0
  · subst h0
    have h11 := fun {K : Option vi_V → vi_W → Prop} => @k_11 (d + 67) 65 K Y M nn _ p1 v4
    simp only [Nat.add_assoc, Nat.reduceAdd] at h11
    refine ⟨M, cQ_r, hJ, fun K => vi_k (r := some (.inl _)) fun Q hQ => ?_⟩
    rw [show lfV f lw n 0 = (sN 216 (lfS f lw n) : Int) from if_pos rfl] at hQ
    clear v1 v2 v3 v4 v5 hw jq cq
    simp (disch := omega) only [Option.toList_some, Option.toList_none, List.nil_append, List.cons_append, List.append_nil, true_and, and_true, not_true_eq_false, not_false_eq_true, true_implies, false_implies, implies_true, and_self, Int.reduceLT, Int.reduceLE, Int.reduceEq, Int.reduceNe, Int.reduceAdd, Int.reduceSub, Int.reduceMul, Int.reduceNeg, Int.reduceToNat, Int.toNat_natCast, ↓kk_ck, ↓kk_im, ↓kk_in, e_201, s_201_0, s_201_32, s_201_43, s_201_51, s_201_59, s_201_67, s_201_36, s_201_47, s_201_55, s_201_63, s_201_39, s_201_50, s_201_58, s_201_66, s_201_42, a1, a5, vi_swp, c1, c6, p1.1, e_26, s_26_0, s_26_4, h11, ne_eq]
    exact hQ
  · by_cases h1 : x = 1
    · subst h1
      have e : sW 216 (lfS f lw n) (fun c => (tlS f lw n c).2.2) = sW 216 (lfS f lw n) (M 62) := sW_c 216 fun c hc h => (hw c hc h).symm
      have h30 := fun {K : Option vi_V → vi_W → Prop} => @k_30 (d + 66) K Y M nn _ hY73 v4 (fun c hc h => by rw [hw c hc h]; exact mT_b)
      simp only [Nat.add_assoc, Nat.reduceAdd] at h30
      refine ⟨M, cQ_r, hJ, fun K => vi_k (r := some (.inl _)) fun Q hQ => ?_⟩
      rw [show lfV f lw n 1 = sW 216 (lfS f lw n) (fun c => (tlS f lw n c).2.2) from by unfold lfV; rw [if_neg (by decide), if_pos rfl], e] at hQ
      clear v1 v2 v3 v4 v5 hw jq cq e
      simp (disch := omega) only [Option.toList_some, Option.toList_none, List.nil_append, List.cons_append, List.append_nil, true_and, and_true, not_true_eq_false, not_false_eq_true, true_implies, false_implies, implies_true, and_self, Int.reduceLT, Int.reduceLE, Int.reduceEq, Int.reduceNe, Int.reduceAdd, Int.reduceSub, Int.reduceMul, Int.reduceNeg, Int.reduceToNat, Int.toNat_natCast, ↓kk_ck, ↓kk_im, ↓kk_in, e_201, s_201_0, s_201_32, s_201_43, s_201_51, s_201_59, s_201_67, s_201_36, s_201_47, s_201_55, s_201_63, s_201_39, s_201_50, s_201_58, s_201_66, s_201_42, a1, a5, vi_swp, c1, h30, ne_eq]
      exact hQ
    · by_cases h2 : x = 2
      · subst h2
        have h31 := fun {K : Option vi_V → vi_W → Prop} => @k_31 (d + 66) K Y M nn _ _ _ hY73 v3 v4 hR
        simp only [Nat.add_assoc, Nat.reduceAdd] at h31
        refine ⟨_, cq _, jq (sDif (bxS f) (lfS f lw n)), fun K => vi_k (r := some (.inl _)) fun Q hQ => ?_⟩
        rw [show lfV f lw n 2 = (sSd (lfS f lw n) (sDif (bxS f) (lfS f lw n)) : Int) from by unfold lfV; rw [if_neg (by decide), if_neg (by decide), if_pos rfl]] at hQ
        clear v1 v2 v3 v4 v5 hw jq cq
        simp (disch := omega) only [Option.toList_some, Option.toList_none, List.nil_append, List.cons_append, List.append_nil, true_and, and_true, not_true_eq_false, not_false_eq_true, true_implies, false_implies, implies_true, and_self, Int.reduceLT, Int.reduceLE, Int.reduceEq, Int.reduceNe, Int.reduceAdd, Int.reduceSub, Int.reduceMul, Int.reduceNeg, Int.reduceToNat, Int.toNat_natCast, ↓kk_ck, ↓kk_im, ↓kk_in, e_201, s_201_0, s_201_32, s_201_43, s_201_51, s_201_59, s_201_67, s_201_36, s_201_47, s_201_55, s_201_63, s_201_39, s_201_50, s_201_58, s_201_66, s_201_42, a1, a5, vi_swp, c1, h31, ne_eq]
        exact hQ
      · by_cases h3 : x = 3
        · subst h3
          have h32 := fun {K : Option vi_V → vi_W → Prop} => @k_32 (d + 66) K Y M nn _ _ hY73 v4 hR
          simp only [Nat.add_assoc, Nat.reduceAdd] at h32
          refine ⟨_, cq _, jq (sInn (lfS f lw n)), fun K => vi_k (r := some (.inl _)) fun Q hQ => ?_⟩
          rw [show lfV f lw n 3 = (sN 216 (sInn (lfS f lw n)) : Int) from by unfold lfV; rw [if_neg (by decide), if_neg (by decide), if_neg (by decide), if_pos rfl]] at hQ
          clear v1 v2 v3 v4 v5 hw jq cq
          simp (disch := omega) only [Option.toList_some, Option.toList_none, List.nil_append, List.cons_append, List.append_nil, true_and, and_true, not_true_eq_false, not_false_eq_true, true_implies, false_implies, implies_true, and_self, Int.reduceLT, Int.reduceLE, Int.reduceEq, Int.reduceNe, Int.reduceAdd, Int.reduceSub, Int.reduceMul, Int.reduceNeg, Int.reduceToNat, Int.toNat_natCast, ↓kk_ck, ↓kk_im, ↓kk_in, e_201, s_201_0, s_201_32, s_201_43, s_201_51, s_201_59, s_201_67, s_201_36, s_201_47, s_201_55, s_201_63, s_201_39, s_201_50, s_201_58, s_201_66, s_201_42, a1, a5, vi_swp, c1, h32, ne_eq]
          exact hQ
        · refine ⟨M, cQ_r, hJ, fun K => vi_k (r := some (.inl _)) fun Q hQ => ?_⟩
          rw [show lfV f lw n x = -1 from by unfold lfV; rw [if_neg h0, if_neg h1, if_neg h2, if_neg h3]] at hQ
          clear v1 v2 v3 v4 v5 hw jq cq
          simp (disch := omega) only [Option.toList_some, Option.toList_none, List.nil_append, List.cons_append, List.append_nil, true_and, and_true, not_true_eq_false, not_false_eq_true, true_implies, false_implies, implies_true, and_self, Int.reduceLT, Int.reduceLE, Int.reduceEq, Int.reduceNe, Int.reduceAdd, Int.reduceSub, Int.reduceMul, Int.reduceNeg, Int.reduceToNat, Int.toNat_natCast, ↓kk_ck, ↓kk_im, ↓kk_in, e_201, s_201_0, s_201_32, s_201_43, s_201_51, s_201_59, s_201_67, s_201_36, s_201_47, s_201_55, s_201_63, s_201_39, s_201_50, s_201_58, s_201_66, s_201_42, vi_swp, h0, h1, h2, h3, ne_eq]
          exact hQ
end
