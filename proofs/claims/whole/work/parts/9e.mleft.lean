/-! Contracts of the reference, sixteenth part: what is LEFT, what is waxed. -/
theorem mBe_r {M : vi_M} (hB : mBx M) {c : Int} (hc : mIc M c) {d : Nat} (hd : d < 6) : mBe M c d = -1 ∨ 0 ≤ mBe M c d ∧ mBe M c d < 216 := by
  obtain ⟨b0, b1, b2⟩ := hB
  obtain ⟨c0, c1, c2, c3, c4⟩ := hc
  have m0 : mAl c 0 = c % 6 := rfl
  have m1 : mAl c 1 = c / 6 % 6 := rfl
  have m2 : mAl c 2 = c / 36 := rfl
  obtain rfl | rfl | rfl | rfl | rfl | rfl : d = 0 ∨ d = 1 ∨ d = 2 ∨ d = 3 ∨ d = 4 ∨ d = 5 := by omega
  · rw [show mBe M c 0 = if c % 6 = 0 then -1 else c - 1 from rfl]
    split <;> omega
  · rw [show mBe M c 1 = if M 114 96 ≤ c % 6 + 1 then -1 else c + 1 from rfl]
    split <;> omega
  · rw [show mBe M c 2 = if c / 6 % 6 = 0 then -1 else c - 6 from rfl]
    split <;> omega
  · rw [show mBe M c 3 = if M 114 97 ≤ c / 6 % 6 + 1 then -1 else c + 6 from rfl]
    split <;> omega
  · rw [show mBe M c 4 = if c / 36 = 0 then -1 else c - 36 from rfl]
    split <;> omega
  · rw [show mBe M c 5 = if M 114 98 ≤ c / 36 + 1 then -1 else c + 36 from rfl]
    split <;> omega
/-- how many of a CELL's first neighbours are LEFT -/
def mInn (M : vi_M) (c : Int) : Nat → Int
  | 0 => 0
  | d + 1 => mInn M c d + (if mBe M c d = -1 then 0 else if M 126 (mBe M c d).toNat = 0 then 0 else 1)
theorem mInn_r {M : vi_M} {c : Int} : ∀ d : Nat, 0 ≤ mInn M c d ∧ mInn M c d ≤ (d : Int)
  | 0 => by rw [mInn]; omega
  | d + 1 => by
    have := mInn_r (M := M) (c := c) d
    rw [mInn]
    split
    · omega
    · split <;> omega
/-- how many of a CELL's first neighbours lie in the box and aren't LEFT -/
def mOu (M : vi_M) (c : Int) : Nat → Int
  | 0 => 0
  | d + 1 => mOu M c d + (if mBe M c d = -1 then 0 else if M 126 (mBe M c d).toNat = 0 then 1 else 0)
theorem mOu_r {M : vi_M} {c : Int} : ∀ d : Nat, 0 ≤ mOu M c d ∧ mOu M c d ≤ (d : Int)
  | 0 => by rw [mOu]; omega
  | d + 1 => by
    have := mOu_r (M := M) (c := c) d
    rw [mOu]
    split
    · omega
    · split <;> omega
/-- of the first CELLS: what they weigh, faces, how many lie within -/
def mLa (M : vi_M) : Nat → Int × Int × Int
  | 0 => (0, 0, 0)
  | c + 1 => if M 126 c = 0 then mLa M c else ((mLa M c).1 + M 125 c, (mLa M c).2.1 + mOu M (c : Int) 6, (mLa M c).2.2 + (if mInn M (c : Int) 6 = 6 then 1 else 0))
def mLfd (M : vi_M) : Prop := ∀ c : Nat, c < 216 → M 126 c ≠ 0 → mIc M (c : Int) ∧ 1 ≤ M 125 c ∧ M 125 c ≤ 99
theorem mLa_r {M : vi_M} (h : mLfd M) : ∀ c : Nat, c ≤ 216 → (0 ≤ (mLa M c).1 ∧ (mLa M c).1 ≤ 99 * (c : Int)) ∧ (0 ≤ (mLa M c).2.1 ∧ (mLa M c).2.1 ≤ 6 * (c : Int)) ∧ (0 ≤ (mLa M c).2.2 ∧ (mLa M c).2.2 ≤ (c : Int))
  | 0, _ => by
    rw [mLa]
    exact ⟨⟨by decide, by decide⟩, ⟨by decide, by decide⟩, by decide, by decide⟩
  | c + 1, hc => by
    obtain ⟨⟨a1, a2⟩, ⟨b1, b2⟩, d1, d2⟩ := mLa_r h c (by omega)
    rw [mLa]
    by_cases q : M 126 c = 0
    · rw [if_pos q]
      exact ⟨⟨by omega, by omega⟩, ⟨by omega, by omega⟩, by omega, by omega⟩
    · rw [if_neg q]
      have w := (h c (by omega) q).2
      have i := mOu_r (M := M) (c := (c : Int)) 6
      refine ⟨⟨?_, ?_⟩, ⟨?_, ?_⟩, ?_, ?_⟩ <;> dsimp only
      · omega
      · omega
      · omega
      · omega
      · split <;> omega
      · split <;> omega
theorem mT_w {M : vi_M} {c h : Int} {lw : Option (List gCla)} : 1 ≤ (mT M c h lw).2.2 ∧ (mT M c h lw).2.2 ≤ 99 := by
  cases lw with
  | none => exact ⟨by show (1 : Int) ≤ 1; omega, by show (1 : Int) ≤ 99; omega⟩
  | some cs =>
    show 1 ≤ mCl _ ∧ mCl _ ≤ 99
    unfold mCl
    omega
theorem mLfd_of {M : vi_M} {lw : Option (List gCla)} {n : Nat} (h : mSee M lw n) : mLfd M := by
  intro c hc hq
  obtain ⟨-, -, -, -, k5⟩ := h
  obtain ⟨g1, g2⟩ := k5 c hc
  have hl : mIcb (M 114) (c : Int) = true := by
    rw [g1] at hq
    unfold mLf at hq
    cases e : mIcb (M 114) (c : Int) with
    | true => rfl
    | false => rw [e] at hq; exact absurd rfl hq
  obtain ⟨g3, -⟩ := g2 hl
  rw [g3]
  exact ⟨mIcb_t hl, mT_w⟩
def mBt (x d : Nat) : Nat := (x >>> d) &&& 1
theorem mBt_e {x d : Nat} (hx : x < 64) (hd : d < 32) : vi_and32 (vi_shr32 (x : Int) (d : Int)) 1 = ((mBt x d : Nat) : Int) := by
  have h : x >>> d < 2147483648 := Nat.lt_of_le_of_lt (Nat.shiftRight_le _ _) (by omega)
  rw [vi_shr32n hd, show (1 : Int) = ((1 : Nat) : Int) from rfl, vi_and32n h]
  rfl
/-- how many of a CELL's first faces at the box's sides are waxed -/
def mRe (M : vi_M) (c : Int) (x : Nat) : Nat → Int
  | 0 => 0
  | d + 1 => mRe M c x d + (if mBt x d = 1 ∧ mBe M c d = -1 then 1 else 0)
theorem mRe_r {M : vi_M} {c : Int} {x : Nat} : ∀ d : Nat, 0 ≤ mRe M c x d ∧ mRe M c x d ≤ (d : Int)
  | 0 => by rw [mRe]; omega
  | d + 1 => by
    have := mRe_r (M := M) (c := c) (x := x) d
    rw [mRe]
    split <;> omega
def mWx (M : vi_M) (x : Nat) (v : Int) : Nat → Int
  | 0 => 0
  | c + 1 => mWx M x v c + (if M 126 c ≠ 0 ∧ mRe M (c : Int) x 6 = v then 1 else 0)
theorem mWx_r {M : vi_M} {x : Nat} {v : Int} : ∀ c : Nat, 0 ≤ mWx M x v c ∧ mWx M x v c ≤ (c : Int)
  | 0 => by rw [mWx]; omega
  | c + 1 => by
    have := mWx_r (M := M) (x := x) (v := v) c
    rw [mWx]
    split <;> omega
section
variable {D : Nat} {K : Option vi_V → vi_W → Prop} {Y : vi_Y} {M : vi_M} {nn : Nat × Nat} {Q : Option vi_V → vi_W → Prop}
theorem k_306 (hY : kY Y 151) (hB : mBx M) {c : Int} (hc : mIc M c) {x : Nat} (hx : x < 64) (hD : 3 ≤ D) : vi_call GG D 306 [.inr (.inr 112), .inl c, .inl (x : Int)] (Y, M, nn) K ↔ K (some (.inl (mRe M c x 6))) (Y, M, nn) := by
  obtain ⟨D, rfl⟩ : ∃ k, D = k + 1 := ⟨D - 1, by omega⟩
  obtain ⟨R1, -⟩ := y_112 hY (by omega)
  refine vi_k (r := some (.inl _)) fun Q hQ => ?_
  have loop : ∀ d : Nat, d ≤ 6 → vi_ok GG D 306 5 [some (.inr (.inr 112)), some (.inl c), some (.inl (x : Int)), some (.inl (mRe M c x d)), some (.inl (d : Int))] [] (Y, M, nn) Q := by
    refine vi_dn 6 ?_ fun d hd ih => ?_
    · rw [s_306_5]
      simp (disch := omega) only [Option.toList_some, Option.toList_none, List.nil_append, List.cons_append, List.append_nil, true_and, and_true, not_true_eq_false, not_false_eq_true, true_implies, false_implies, implies_true, and_self, Int.reduceLT, Int.reduceLE, Int.reduceEq, Int.reduceNe, Int.reduceAdd, Int.reduceSub, Int.reduceMul, Int.reduceNeg, Int.reduceToNat, Int.toNat_natCast, ↓kk_ck, ↓kk_im, ↓kk_in, s_306_47]
      exact hQ
    · have hr := mRe_r (M := M) (c := c) (x := x) d
      rw [mRe] at ih
      rw [s_306_5]
      clear hQ
      by_cases q : mBt x d = 1
      · by_cases q2 : mBe M c d = -1
        · rw [if_pos ⟨q, q2⟩] at ih
          simp (disch := omega) only [Option.toList_some, Option.toList_none, List.nil_append, List.cons_append, List.append_nil, true_and, and_true, not_true_eq_false, not_false_eq_true, true_implies, false_implies, implies_true, and_self, Int.reduceLT, Int.reduceLE, Int.reduceEq, Int.reduceNe, Int.reduceAdd, Int.reduceSub, Int.reduceMul, Int.reduceNeg, Int.reduceToNat, Int.toNat_natCast, ↓kk_ck, ↓kk_im, ↓kk_in, s_306_12, s_306_20, s_306_23, s_306_30, s_306_34, s_306_38, s_306_39, R1, mBt_e, k_248 hY hB hc, q, q2, ne_eq, vi_inc, @vi_32 (mRe M c x d + 1) (by omega) (by omega)]
          exact ih
        · rw [if_neg (fun e => q2 e.2)] at ih
          simp (disch := omega) only [Option.toList_some, Option.toList_none, List.nil_append, List.cons_append, List.append_nil, true_and, and_true, not_true_eq_false, not_false_eq_true, true_implies, false_implies, implies_true, and_self, Int.reduceLT, Int.reduceLE, Int.reduceEq, Int.reduceNe, Int.reduceAdd, Int.reduceSub, Int.reduceMul, Int.reduceNeg, Int.reduceToNat, Int.toNat_natCast, ↓kk_ck, ↓kk_im, ↓kk_in, s_306_12, s_306_20, s_306_23, s_306_30, s_306_34, s_306_38, s_306_39, R1, mBt_e, k_248 hY hB hc, q, q2, ne_eq, vi_inc, @vi_32 (mRe M c x d + 0) (by omega) (by omega)]
          exact ih
      · rw [if_neg (fun e => q e.1)] at ih
        simp (disch := omega) only [Option.toList_some, Option.toList_none, List.nil_append, List.cons_append, List.append_nil, true_and, and_true, not_true_eq_false, not_false_eq_true, true_implies, false_implies, implies_true, and_self, Int.reduceLT, Int.reduceLE, Int.reduceEq, Int.reduceNe, Int.reduceAdd, Int.reduceSub, Int.reduceMul, Int.reduceNeg, Int.reduceToNat, Int.toNat_natCast, ↓kk_ck, ↓kk_im, ↓kk_in, s_306_12, s_306_20, s_306_23, s_306_30, s_306_34, s_306_38, s_306_39, R1, mBt_e, q, ne_eq, vi_inc, @vi_32 (mRe M c x d + 0) (by omega) (by omega)]
        exact ih
  have := loop 0 (by omega)
  clear loop hQ
  simp (disch := omega) only [Option.toList_some, Option.toList_none, List.nil_append, List.cons_append, List.append_nil, true_and, and_true, not_true_eq_false, not_false_eq_true, true_implies, false_implies, implies_true, and_self, Int.reduceLT, Int.reduceLE, Int.reduceEq, Int.reduceNe, Int.reduceAdd, Int.reduceSub, Int.reduceMul, Int.reduceNeg, Int.reduceToNat, Int.toNat_natCast, ↓kk_ck, ↓kk_im, ↓kk_in, e_306, s_306_0]
  exact this
theorem k_307n (hY : kY Y 151) {x v : Int} (h : ¬ (0 ≤ x ∧ x ≤ 63 ∧ 0 ≤ v ∧ v ≤ 6)) (hD : 2 ≤ D) : vi_call GG D 307 [.inr (.inr 112), .inl x, .inl v] (Y, M, nn) K ↔ K (some (.inl (-1))) (Y, M, nn) := by
  obtain ⟨D, rfl⟩ : ∃ k, D = k + 1 := ⟨D - 1, by omega⟩
  refine vi_k (r := some (.inl _)) fun Q hQ => ?_
  by_cases q : 0 ≤ x ∧ x ≤ 63
  · have q2 : ¬ (0 ≤ v ∧ v ≤ 6) := by omega
    simp (disch := omega) only [Option.toList_some, Option.toList_none, List.nil_append, List.cons_append, List.append_nil, true_and, and_true, not_true_eq_false, not_false_eq_true, true_implies, false_implies, implies_true, and_self, Int.reduceLT, Int.reduceLE, Int.reduceEq, Int.reduceNe, Int.reduceAdd, Int.reduceSub, Int.reduceMul, Int.reduceNeg, Int.reduceToNat, Int.toNat_natCast, ↓kk_ck, ↓kk_im, ↓kk_in, e_307, s_307_0, s_307_7, s_307_10, s_307_17, s_307_20, k_234t q, k_234f q2, ne_eq]
    exact hQ
  · simp (disch := omega) only [Option.toList_some, Option.toList_none, List.nil_append, List.cons_append, List.append_nil, true_and, and_true, not_true_eq_false, not_false_eq_true, true_implies, false_implies, implies_true, and_self, Int.reduceLT, Int.reduceLE, Int.reduceEq, Int.reduceNe, Int.reduceAdd, Int.reduceSub, Int.reduceMul, Int.reduceNeg, Int.reduceToNat, Int.toNat_natCast, ↓kk_ck, ↓kk_im, ↓kk_in, e_307, s_307_0, s_307_7, s_307_20, k_234f q]
    exact hQ
theorem k_307 (hY : kY Y 151) {lw : Option (List gCla)} {n : Nat} (hS : mKs M lw n) {x : Nat} {v : Int} (hx : x < 64) (hv : 0 ≤ v ∧ v ≤ 6) (hD : 46 ≤ D) (hQ : ∀ M', mSee M' lw n → mFr M M' → Q (some (.inl (mWx M' x v 216))) (Y, M', nn)) : vi_call GG D 307 [.inr (.inr 112), .inl (x : Int), .inl v] (Y, M, nn) Q := by
  obtain ⟨D, rfl⟩ : ∃ k, D = k + 1 := ⟨D - 1, by omega⟩
  obtain ⟨R1, -, R3, -, -, -, -, -, -, -, -, -, -, -, R28, -⟩ := y_112 hY (by omega)
  obtain ⟨v1, v2⟩ := y_126 hY (by omega)
  have hB := hS.1
  have cont : vi_call GG D 294 [.inr (.inr 112)] (Y, M, nn) (fun r w' => vi_ok GG D 307 26 [some (.inr (.inr 112)), some (.inl (x : Int)), some (.inl v), none, none] r.toList w' Q) := by
    refine k_294u hY hS (by omega) fun M' hs hf => ?_
    have hB' := mBx_c (mFr_114 hf) hB
    have hl := mLfd_of hs
    have hq := hQ M' hs hf
    clear hQ hs hf
    have loop : ∀ c : Nat, c ≤ 216 → vi_ok GG D 307 31 [some (.inr (.inr 112)), some (.inl (x : Int)), some (.inl v), some (.inl (mWx M' x v c)), some (.inl (c : Int))] [] (Y, M', nn) Q := by
      refine vi_dn 216 ?_ fun c hc ih => ?_
      · rw [s_307_31]
        simp (disch := omega) only [Option.toList_some, Option.toList_none, List.nil_append, List.cons_append, List.append_nil, true_and, and_true, not_true_eq_false, not_false_eq_true, true_implies, false_implies, implies_true, and_self, Int.reduceLT, Int.reduceLE, Int.reduceEq, Int.reduceNe, Int.reduceAdd, Int.reduceSub, Int.reduceMul, Int.reduceNeg, Int.reduceToNat, Int.toNat_natCast, ↓kk_ck, ↓kk_im, ↓kk_in, s_307_74]
        exact hq
      · have hr := mWx_r (M := M') (x := x) (v := v) c
        rw [mWx] at ih
        rw [s_307_31]
        clear hq
        by_cases q : M' 126 c = 0
        · rw [if_neg (fun e => e.1 q)] at ih
          simp (disch := omega) only [Option.toList_some, Option.toList_none, List.nil_append, List.cons_append, List.append_nil, true_and, and_true, not_true_eq_false, not_false_eq_true, true_implies, false_implies, implies_true, and_self, Int.reduceLT, Int.reduceLE, Int.reduceEq, Int.reduceNe, Int.reduceAdd, Int.reduceSub, Int.reduceMul, Int.reduceNeg, Int.reduceToNat, Int.toNat_natCast, ↓kk_ck, ↓kk_im, ↓kk_in, s_307_39, s_307_44, s_307_47, s_307_65, s_307_66, R1, R28, v1, v2, Int.toNat_natCast, q, vi_inc, @vi_32 (mWx M' x v c + 0) (by omega) (by omega)]
          exact ih
        · have hic := (hl c hc q).1
          by_cases q2 : mRe M' (c : Int) x 6 = v
          · rw [if_pos ⟨q, q2⟩] at ih
            simp (disch := omega) only [Option.toList_some, Option.toList_none, List.nil_append, List.cons_append, List.append_nil, true_and, and_true, not_true_eq_false, not_false_eq_true, true_implies, false_implies, implies_true, and_self, Int.reduceLT, Int.reduceLE, Int.reduceEq, Int.reduceNe, Int.reduceAdd, Int.reduceSub, Int.reduceMul, Int.reduceNeg, Int.reduceToNat, Int.toNat_natCast, ↓kk_ck, ↓kk_im, ↓kk_in, s_307_39, s_307_44, s_307_47, s_307_50, s_307_57, s_307_61, s_307_65, s_307_66, R1, R28, v1, v2, Int.toNat_natCast, q, k_306 hY hB' hic hx, q2, ne_eq, vi_inc, @vi_32 (mWx M' x v c + 1) (by omega) (by omega)]
            exact ih
          · rw [if_neg (fun e => q2 e.2)] at ih
            simp (disch := omega) only [Option.toList_some, Option.toList_none, List.nil_append, List.cons_append, List.append_nil, true_and, and_true, not_true_eq_false, not_false_eq_true, true_implies, false_implies, implies_true, and_self, Int.reduceLT, Int.reduceLE, Int.reduceEq, Int.reduceNe, Int.reduceAdd, Int.reduceSub, Int.reduceMul, Int.reduceNeg, Int.reduceToNat, Int.toNat_natCast, ↓kk_ck, ↓kk_im, ↓kk_in, s_307_39, s_307_44, s_307_47, s_307_50, s_307_57, s_307_61, s_307_65, s_307_66, R1, R28, v1, v2, Int.toNat_natCast, q, k_306 hY hB' hic hx, q2, ne_eq, vi_inc, @vi_32 (mWx M' x v c + 0) (by omega) (by omega)]
            exact ih
    have := loop 0 (by omega)
    clear loop hq hl
    simp (disch := omega) only [Option.toList_some, Option.toList_none, List.nil_append, List.cons_append, List.append_nil, true_and, and_true, not_true_eq_false, not_false_eq_true, true_implies, false_implies, implies_true, and_self, Int.reduceLT, Int.reduceLE, Int.reduceEq, Int.reduceNe, Int.reduceAdd, Int.reduceSub, Int.reduceMul, Int.reduceNeg, Int.reduceToNat, Int.toNat_natCast, ↓kk_ck, ↓kk_im, ↓kk_in, s_307_26]
    exact this
  clear hQ
  simp (disch := omega) only [Option.toList_some, Option.toList_none, List.nil_append, List.cons_append, List.append_nil, true_and, and_true, not_true_eq_false, not_false_eq_true, true_implies, false_implies, implies_true, and_self, Int.reduceLT, Int.reduceLE, Int.reduceEq, Int.reduceNe, Int.reduceAdd, Int.reduceSub, Int.reduceMul, Int.reduceNeg, Int.reduceToNat, Int.toNat_natCast, ↓kk_ck, ↓kk_im, ↓kk_in, e_307, s_307_0, s_307_7, s_307_10, s_307_17, s_307_22, R1, k_234t, ne_eq]
  exact cont
end
