/-! Contracts of the reference, fifteenth part: rows, VIEWS' rows, what is LEFT. -/
theorem mHa_e {a : Nat} {u v w : Int} : (if (a : Int) = 0 then 36 * v + 6 * u + w else if (a : Int) = 1 then 36 * v + 6 * w + u else 36 * w + 6 * v + u) = mHa a u v w := by
  unfold mHa
  by_cases h : a = 0
  · rw [if_pos h, if_pos (by omega)]
  · rw [if_neg h, if_neg (by omega)]
    by_cases h1 : a = 1
    · rw [if_pos h1, if_pos (by omega)]
    · rw [if_neg h1, if_neg (by omega)]
theorem mHa_r {a : Nat} {u v w : Int} (hu : 0 ≤ u ∧ u < 6) (hv : 0 ≤ v ∧ v < 6) (hw : 0 ≤ w ∧ w < 6) : 0 ≤ mHa a u v w ∧ mHa a u v w < 216 := by
  unfold mHa
  split
  · omega
  · split <;> omega
theorem mIp_r {M : vi_M} (hB : mBx M) {a u v : Int} (h : mIp M a u v) : (0 ≤ a ∧ a ≤ 2) ∧ (0 ≤ u ∧ u < 6) ∧ (0 ≤ v ∧ v < 6) := by
  obtain ⟨q0, q1, q2⟩ := hB
  obtain ⟨h0, h1, h2, h3, h4, h5⟩ := h
  refine ⟨⟨h0, h1⟩, ⟨h2, ?_⟩, ⟨h4, ?_⟩⟩
  · revert h3; split <;> intro h3 <;> omega
  · revert h5; split <;> intro h5 <;> omega
theorem mSz {M : vi_M} (hB : mBx M) {a : Nat} (ha : a < 3) : 1 ≤ M 114 (96 + a) ∧ M 114 (96 + a) ≤ 6 := by
  obtain ⟨q0, q1, q2⟩ := hB
  obtain rfl | rfl | rfl : a = 0 ∨ a = 1 ∨ a = 2 := by omega
  · exact q0
  · exact q1
  · exact q2
/-- a HOLE's mouth lies there -/
def mOn (f : Nat → Int) (a u v : Int) : Nat → Nat → Bool
  | 0, _ => false
  | k + 1, h => if f (6 * h) = a ∧ f (6 * h + 1) = u ∧ f (6 * h + 2) = v then true else mOn f a u v k (h + 1)
/-- the first kept row that isn't so any more -/
def mJg (f g : Nat → Int) : Nat → Nat → Int
  | 0, _ => -1
  | k + 1, i => if mRw g (f (100 + 4 * i)).toNat (f (100 + 4 * i + 1)) (f (100 + 4 * i + 2)) (f (96 + (f (100 + 4 * i)).toNat)).toNat = f (100 + 4 * i + 3) then mJg f g k (i + 1) else (i : Int)
section
variable {D : Nat} {K : Option vi_V → vi_W → Prop} {Y : vi_Y} {M : vi_M} {nn : Nat × Nat} {Q : Option vi_V → vi_W → Prop}
theorem k_299 (hY : kY Y 151) (hB : mBx M) {a : Nat} {u v : Int} (hp : mIp M (a : Int) u v) (hD : 2 ≤ D) : vi_call GG D 299 [.inr (.inr 112), .inl (a : Int), .inl u, .inl v] (Y, M, nn) K ↔ K (some (.inl (mRw (M 126) a u v (M 114 (96 + a)).toNat))) (Y, M, nn) := by
  obtain ⟨D, rfl⟩ : ∃ k, D = k + 1 := ⟨D - 1, by omega⟩
  obtain ⟨R1, -, R3, -, -, -, -, -, -, -, -, -, -, -, R28, -⟩ := y_112 hY (by omega)
  obtain ⟨v1, v2⟩ := y_126 hY (by omega)
  obtain ⟨ha, hu, hv⟩ := mIp_r hB hp
  have hs := mSz hB (a := a) (by omega)
  obtain ⟨S, hS⟩ : ∃ S : Nat, M 114 (96 + a) = (S : Int) := ⟨(M 114 (96 + a)).toNat, by omega⟩
  refine vi_k (r := some (.inl _)) fun Q hQ => ?_
  rw [hS, Int.toNat_natCast] at hQ
  have loop : ∀ j : Nat, j ≤ S → vi_ok GG D 299 6 [some (.inr (.inr 112)), some (.inl (a : Int)), some (.inl u), some (.inl v), some (.inl (mRw (M 126) a u v j)), some (.inl (j : Int))] [] (Y, M, nn) Q := by
    refine vi_dn S ?_ fun j hj ih => ?_
    · rw [s_299_6]
      simp (disch := omega) only [Option.toList_some, Option.toList_none, List.nil_append, List.cons_append, List.append_nil, true_and, and_true, not_true_eq_false, not_false_eq_true, true_implies, false_implies, implies_true, and_self, Int.reduceLT, Int.reduceLE, Int.reduceEq, Int.reduceNe, Int.reduceAdd, Int.reduceSub, Int.reduceMul, Int.reduceNeg, Int.reduceToNat, Int.toNat_natCast, ↓kk_ck, ↓kk_im, ↓kk_in, s_299_13, s_299_48, R1, k_241 hY (show a < 3 by omega), hS]
      exact hQ
    · have hr := mRw_r (f := M 126) (a := a) (u := u) (v := v) j
      rw [mRw] at ih
      have hw : 0 ≤ (j : Int) ∧ (j : Int) < 6 := by omega
      have hc := mHa_r (a := a) hu hv hw
      rw [s_299_6]
      clear hQ
      by_cases q : M 126 (mHa a u v (j : Int)).toNat = 0
      · rw [if_pos q] at ih
        simp (disch := omega) only [Option.toList_some, Option.toList_none, List.nil_append, List.cons_append, List.append_nil, true_and, and_true, not_true_eq_false, not_false_eq_true, true_implies, false_implies, implies_true, and_self, Int.reduceLT, Int.reduceLE, Int.reduceEq, Int.reduceNe, Int.reduceAdd, Int.reduceSub, Int.reduceMul, Int.reduceNeg, Int.reduceToNat, Int.toNat_natCast, ↓kk_ck, ↓kk_im, ↓kk_in, s_299_13, s_299_16, s_299_22, s_299_30, s_299_31, s_299_38, s_299_39, R1, R28, v1, v2, k_241 hY (show a < 3 by omega), hS, k_244 hu hv hw, mHa_e, q, vi_inc, vi_32]
        exact ih
      · rw [if_neg q] at ih
        simp (disch := omega) only [Option.toList_some, Option.toList_none, List.nil_append, List.cons_append, List.append_nil, true_and, and_true, not_true_eq_false, not_false_eq_true, true_implies, false_implies, implies_true, and_self, Int.reduceLT, Int.reduceLE, Int.reduceEq, Int.reduceNe, Int.reduceAdd, Int.reduceSub, Int.reduceMul, Int.reduceNeg, Int.reduceToNat, Int.toNat_natCast, ↓kk_ck, ↓kk_im, ↓kk_in, s_299_13, s_299_16, s_299_22, s_299_30, s_299_31, s_299_34, s_299_39, R1, R28, v1, v2, k_241 hY (show a < 3 by omega), hS, k_244 hu hv hw, mHa_e, q, vi_inc, @vi_32 (mRw (M 126) a u v j + 1) (by omega) (by omega)]
        exact ih
  have := loop 0 (by omega)
  clear loop hQ
  simp (disch := omega) only [Option.toList_some, Option.toList_none, List.nil_append, List.cons_append, List.append_nil, true_and, and_true, not_true_eq_false, not_false_eq_true, true_implies, false_implies, implies_true, and_self, Int.reduceLT, Int.reduceLE, Int.reduceEq, Int.reduceNe, Int.reduceAdd, Int.reduceSub, Int.reduceMul, Int.reduceNeg, Int.reduceToNat, Int.toNat_natCast, ↓kk_ck, ↓kk_im, ↓kk_in, e_299, s_299_0]
  exact this
theorem k_300n (hY : kY Y 151) (hB : mBx M) {a u v : Int} (hp : ¬ mIp M a u v) (hD : 4 ≤ D) : vi_call GG D 300 [.inr (.inr 112), .inl a, .inl u, .inl v] (Y, M, nn) K ↔ K (some (.inl (-1))) (Y, M, nn) := by
  obtain ⟨D, rfl⟩ : ∃ k, D = k + 1 := ⟨D - 1, by omega⟩
  obtain ⟨R1, -⟩ := y_112 hY (by omega)
  refine vi_k (r := some (.inl _)) fun Q hQ => ?_
  simp (disch := omega) only [Option.toList_some, Option.toList_none, List.nil_append, List.cons_append, List.append_nil, true_and, and_true, not_true_eq_false, not_false_eq_true, true_implies, false_implies, implies_true, and_self, Int.reduceLT, Int.reduceLE, Int.reduceEq, Int.reduceNe, Int.reduceAdd, Int.reduceSub, Int.reduceMul, Int.reduceNeg, Int.reduceToNat, Int.toNat_natCast, ↓kk_ck, ↓kk_im, ↓kk_in, e_300, s_300_0, s_300_10, s_300_12, s_300_7, s_300_16, s_300_23, R1, k_247f hY hB hp, ne_eq]
  exact hQ
theorem k_300 (hY : kY Y 151) {lw : Option (List gCla)} {n : Nat} (hS : mKs M lw n) {a : Nat} {u v : Int} (hp : mIp M (a : Int) u v) (hD : 46 ≤ D) (hQ : ∀ M', mSee M' lw n → mFr M M' → Q (some (.inl (mRw (M' 126) a u v (M 114 (96 + a)).toNat))) (Y, M', nn)) : vi_call GG D 300 [.inr (.inr 112), .inl (a : Int), .inl u, .inl v] (Y, M, nn) Q := by
  obtain ⟨D, rfl⟩ : ∃ k, D = k + 1 := ⟨D - 1, by omega⟩
  obtain ⟨R1, -⟩ := y_112 hY (by omega)
  have hB := hS.1
  have cont : vi_call GG D 294 [.inr (.inr 112)] (Y, M, nn) (fun r w' => vi_ok GG D 300 16 [some (.inr (.inr 112)), some (.inl (a : Int)), some (.inl u), some (.inl v)] r.toList w' Q) := by
    refine k_294u hY hS (by omega) fun M' hs hf => ?_
    have e114 := mFr_114 hf
    have hq := hQ M' hs hf
    have hp' : mIp M' (a : Int) u v := by
      unfold mIp at *
      rw [e114]
      exact hp
    rw [← e114] at hq
    clear hQ hs hf
    simp (disch := omega) only [Option.toList_some, Option.toList_none, List.nil_append, List.cons_append, List.append_nil, true_and, and_true, not_true_eq_false, not_false_eq_true, true_implies, false_implies, implies_true, and_self, Int.reduceLT, Int.reduceLE, Int.reduceEq, Int.reduceNe, Int.reduceAdd, Int.reduceSub, Int.reduceMul, Int.reduceNeg, Int.reduceToNat, Int.toNat_natCast, ↓kk_ck, ↓kk_im, ↓kk_in, s_300_16, s_300_23, R1, k_299 hY (mBx_c e114 hB) hp']
    exact hq
  clear hQ
  simp (disch := omega) only [Option.toList_some, Option.toList_none, List.nil_append, List.cons_append, List.append_nil, true_and, and_true, not_true_eq_false, not_false_eq_true, true_implies, false_implies, implies_true, and_self, Int.reduceLT, Int.reduceLE, Int.reduceEq, Int.reduceNe, Int.reduceAdd, Int.reduceSub, Int.reduceMul, Int.reduceNeg, Int.reduceToNat, Int.toNat_natCast, ↓kk_ck, ↓kk_im, ↓kk_in, e_300, s_300_0, s_300_7, s_300_12, R1, k_247t hY hB hp, ne_eq]
  exact cont
theorem k_301 (hY : kY Y 151) {n : Nat} (hn : n ≤ 16) (h292 : M 114 292 = (n : Int)) {a u v : Int} (hD : 1 ≤ D) : vi_call GG D 301 [.inr (.inr 112), .inl a, .inl u, .inl v] (Y, M, nn) K ↔ K (some (.inl (vi_b (mOn (M 114) a u v n 0)))) (Y, M, nn) := by
  obtain ⟨D, rfl⟩ : ∃ k, D = k + 1 := ⟨D - 1, by omega⟩
  obtain ⟨R1, -, R3, -⟩ := y_112 hY (by omega)
  obtain ⟨w1, w2⟩ := y_114 hY (by omega)
  refine vi_k (r := some (.inl _)) fun Q hQ => ?_
  have loop : ∀ k h : Nat, k + h = n → mOn (M 114) a u v k h = mOn (M 114) a u v n 0 → vi_ok GG D 301 3 [some (.inr (.inr 112)), some (.inl a), some (.inl u), some (.inl v), some (.inl (h : Int))] [] (Y, M, nn) Q := by
    intro k
    induction k with
    | zero =>
      intro h hk he
      rw [mOn] at he
      rw [← he] at hQ
      rw [s_301_3]
      simp (disch := omega) only [Option.toList_some, Option.toList_none, List.nil_append, List.cons_append, List.append_nil, true_and, and_true, not_true_eq_false, not_false_eq_true, true_implies, false_implies, implies_true, and_self, Int.reduceLT, Int.reduceLE, Int.reduceEq, Int.reduceNe, Int.reduceAdd, Int.reduceSub, Int.reduceMul, Int.reduceNeg, Int.reduceToNat, Int.toNat_natCast, ↓kk_ck, ↓kk_im, ↓kk_in, s_301_9, s_301_13, s_301_70, R1, R3, w1, w2, h292]
      exact hQ
    | succ k ih =>
      intro h hk he
      rw [mOn] at he
      have a0 : (6 * (h : Int)).toNat = 6 * h := by omega
      have a1 : (6 * (h : Int) + 1).toNat = 6 * h + 1 := by omega
      have a2 : (6 * (h : Int) + 2).toNat = 6 * h + 2 := by omega
      rw [s_301_3]
      by_cases q : M 114 (6 * h) = a ∧ M 114 (6 * h + 1) = u ∧ M 114 (6 * h + 2) = v
      · rw [if_pos q] at he
        rw [← he] at hQ
        obtain ⟨q0, q1, q2⟩ := q
        clear ih
        simp (disch := omega) only [Option.toList_some, Option.toList_none, List.nil_append, List.cons_append, List.append_nil, true_and, and_true, not_true_eq_false, not_false_eq_true, true_implies, false_implies, implies_true, and_self, Int.reduceLT, Int.reduceLE, Int.reduceEq, Int.reduceNe, Int.reduceAdd, Int.reduceSub, Int.reduceMul, Int.reduceNeg, Int.reduceToNat, Int.toNat_natCast, ↓kk_ck, ↓kk_im, ↓kk_in, s_301_9, s_301_13, s_301_16, s_301_20, s_301_25, s_301_26, s_301_30, s_301_34, s_301_41, s_301_42, s_301_46, s_301_50, s_301_57, s_301_58, s_301_62, R1, R3, w1, w2, h292, vi_32, a0, a1, a2, q0, q1, q2, ne_eq]
        exact hQ
      · rw [if_neg q] at he
        have := ih (h + 1) (by omega) he
        clear ih hQ
        by_cases q0 : M 114 (6 * h) = a
        · by_cases q1 : M 114 (6 * h + 1) = u
          · have q2 : ¬ M 114 (6 * h + 2) = v := fun e => q ⟨q0, q1, e⟩
            simp (disch := omega) only [Option.toList_some, Option.toList_none, List.nil_append, List.cons_append, List.append_nil, true_and, and_true, not_true_eq_false, not_false_eq_true, true_implies, false_implies, implies_true, and_self, Int.reduceLT, Int.reduceLE, Int.reduceEq, Int.reduceNe, Int.reduceAdd, Int.reduceSub, Int.reduceMul, Int.reduceNeg, Int.reduceToNat, Int.toNat_natCast, ↓kk_ck, ↓kk_im, ↓kk_in, s_301_9, s_301_13, s_301_16, s_301_20, s_301_25, s_301_26, s_301_30, s_301_34, s_301_41, s_301_42, s_301_46, s_301_50, s_301_57, s_301_58, s_301_64, R1, R3, w1, w2, h292, vi_inc, @vi_32 (6 * (h : Int)) (by omega) (by omega), @vi_32 (6 * (h : Int) + 1) (by omega) (by omega), @vi_32 (6 * (h : Int) + 2) (by omega) (by omega), a0, a1, a2, q0, q1, q2, ne_eq]
            exact this
          · simp (disch := omega) only [Option.toList_some, Option.toList_none, List.nil_append, List.cons_append, List.append_nil, true_and, and_true, not_true_eq_false, not_false_eq_true, true_implies, false_implies, implies_true, and_self, Int.reduceLT, Int.reduceLE, Int.reduceEq, Int.reduceNe, Int.reduceAdd, Int.reduceSub, Int.reduceMul, Int.reduceNeg, Int.reduceToNat, Int.toNat_natCast, ↓kk_ck, ↓kk_im, ↓kk_in, s_301_9, s_301_13, s_301_16, s_301_20, s_301_25, s_301_26, s_301_30, s_301_34, s_301_41, s_301_42, s_301_64, R1, R3, w1, w2, h292, vi_inc, @vi_32 (6 * (h : Int)) (by omega) (by omega), @vi_32 (6 * (h : Int) + 1) (by omega) (by omega), a0, a1, q0, q1, ne_eq]
            exact this
        · simp (disch := omega) only [Option.toList_some, Option.toList_none, List.nil_append, List.cons_append, List.append_nil, true_and, and_true, not_true_eq_false, not_false_eq_true, true_implies, false_implies, implies_true, and_self, Int.reduceLT, Int.reduceLE, Int.reduceEq, Int.reduceNe, Int.reduceAdd, Int.reduceSub, Int.reduceMul, Int.reduceNeg, Int.reduceToNat, Int.toNat_natCast, ↓kk_ck, ↓kk_im, ↓kk_in, s_301_9, s_301_13, s_301_16, s_301_20, s_301_25, s_301_26, s_301_64, R1, R3, w1, w2, h292, vi_inc, @vi_32 (6 * (h : Int)) (by omega) (by omega), a0, q0, ne_eq]
          exact this
  have := loop n 0 rfl rfl
  clear loop hQ
  simp (disch := omega) only [Option.toList_some, Option.toList_none, List.nil_append, List.cons_append, List.append_nil, true_and, and_true, not_true_eq_false, not_false_eq_true, true_implies, false_implies, implies_true, and_self, Int.reduceLT, Int.reduceLE, Int.reduceEq, Int.reduceNe, Int.reduceAdd, Int.reduceSub, Int.reduceMul, Int.reduceNeg, Int.reduceToNat, Int.toNat_natCast, ↓kk_ck, ↓kk_im, ↓kk_in, e_301, s_301_0]
  exact this
theorem k_304 (hY : kY Y 151) (hc : 0 ≤ M 112 1 ∧ M 112 1 < 2147483647) (hD : 1 ≤ D) : vi_call GG D 304 [.inr (.inr 112)] (Y, M, nn) K ↔ K (some (.inl (M 114 293))) (Y, vi_rs (vi_rs M 114 (vi_u (M 114) 293 0)) 112 (vi_u (M 112) 1 (M 112 1 + 1)), nn) := by
  obtain ⟨D, rfl⟩ : ∃ k, D = k + 1 := ⟨D - 1, by omega⟩
  obtain ⟨R1, -, R3, -⟩ := y_112 hY (by omega)
  obtain ⟨w1, w2⟩ := y_114 hY (by omega)
  refine vi_k (r := some (.inl _)) fun Q hQ => ?_
  simp (disch := omega) only [Option.toList_some, Option.toList_none, List.nil_append, List.cons_append, List.append_nil, true_and, and_true, not_true_eq_false, not_false_eq_true, true_implies, false_implies, implies_true, and_self, Int.reduceLT, Int.reduceLE, Int.reduceEq, Int.reduceNe, Int.reduceAdd, Int.reduceSub, Int.reduceMul, Int.reduceNeg, Int.reduceToNat, Int.toNat_natCast, ↓kk_ck, ↓kk_im, ↓kk_in, e_304, s_304_0, s_304_4, s_304_8, s_304_13, s_304_18, s_304_23, s_304_28, R1, R3, w1, w2, vi_ms_rs, vi_rs_s, vi_rs_o, vi_32]
  exact hQ
theorem k_305 (hY : kY Y 151) {lw : Option (List gCla)} {n m : Nat} (hS : mKs M lw n) (hm : m ≤ 8) (h293 : M 114 293 = (m : Int)) (hv : ∀ i, i < m → mIp M (M 114 (100 + 4 * i)) (M 114 (100 + 4 * i + 1)) (M 114 (100 + 4 * i + 2))) (hD : 46 ≤ D) (hQ : ∀ M', mSee M' lw n → mFr M M' → Q (some (.inl (mJg (M 114) (M' 126) m 0))) (Y, M', nn)) : vi_call GG D 305 [.inr (.inr 112)] (Y, M, nn) Q := by
  obtain ⟨D, rfl⟩ : ∃ k, D = k + 1 := ⟨D - 1, by omega⟩
  obtain ⟨R1, -, R3, -⟩ := y_112 hY (by omega)
  obtain ⟨w1, w2⟩ := y_114 hY (by omega)
  have hB := hS.1
  have cont : vi_call GG D 294 [.inr (.inr 112)] (Y, M, nn) (fun r w' => vi_ok GG D 305 4 [some (.inr (.inr 112)), none] r.toList w' Q) := by
    refine k_294u hY hS (by omega) fun M' hs hf => ?_
    have e114 := mFr_114 hf
    have hq := hQ M' hs hf
    clear hQ hs hf
    rw [← e114] at hq h293 hv
    have hB' := mBx_c e114 hB
    have hv' : ∀ i, i < m → mIp M' (M' 114 (100 + 4 * i)) (M' 114 (100 + 4 * i + 1)) (M' 114 (100 + 4 * i + 2)) := fun i hi => by
      have := hv i hi
      unfold mIp at *
      rw [e114] at *
      exact this
    have loop : ∀ k i : Nat, k + i = m → mJg (M' 114) (M' 126) k i = mJg (M' 114) (M' 126) m 0 → vi_ok GG D 305 6 [some (.inr (.inr 112)), some (.inl (i : Int))] [] (Y, M', nn) Q := by
      intro k
      induction k with
      | zero =>
        intro i hk he
        rw [mJg] at he
        rw [← he] at hq
        rw [s_305_6]
        simp (disch := omega) only [Option.toList_some, Option.toList_none, List.nil_append, List.cons_append, List.append_nil, true_and, and_true, not_true_eq_false, not_false_eq_true, true_implies, false_implies, implies_true, and_self, Int.reduceLT, Int.reduceLE, Int.reduceEq, Int.reduceNe, Int.reduceAdd, Int.reduceSub, Int.reduceMul, Int.reduceNeg, Int.reduceToNat, Int.toNat_natCast, ↓kk_ck, ↓kk_im, ↓kk_in, s_305_11, s_305_15, s_305_83, R1, R3, w1, w2, h293]
        exact hq
      | succ k ih =>
        intro i hk he
        rw [mJg] at he
        have hp := hv' i (by omega)
        obtain ⟨pa, -, -⟩ := mIp_r hB' hp
        obtain ⟨a, ha⟩ : ∃ a : Nat, M' 114 (100 + 4 * i) = (a : Int) := ⟨(M' 114 (100 + 4 * i)).toNat, by omega⟩
        rw [ha, Int.toNat_natCast] at he
        rw [ha] at hp
        have a0 : (100 + 4 * (i : Int)).toNat = 100 + 4 * i := by omega
        have a1 : (100 + 4 * (i : Int) + 1).toNat = 100 + 4 * i + 1 := by omega
        have a2 : (100 + 4 * (i : Int) + 2).toNat = 100 + 4 * i + 2 := by omega
        have a3 : (100 + 4 * (i : Int) + 3).toNat = 100 + 4 * i + 3 := by omega
        have x0 := @vi_32 (4 * (i : Int)) (by omega) (by omega)
        have T := fun {D : Nat} {K : Option vi_V → vi_W → Prop} (hD : 2 ≤ D) => @k_299 D K Y M' nn hY hB' a _ _ hp hD
        rw [s_305_6]
        clear x0
        by_cases q : mRw (M' 126) a (M' 114 (100 + 4 * i + 1)) (M' 114 (100 + 4 * i + 2)) (M' 114 (96 + a)).toNat = M' 114 (100 + 4 * i + 3)
        · rw [if_pos q] at he
          have := ih (i + 1) (by omega) he
          clear ih hq
          simp (disch := omega) only [Option.toList_some, Option.toList_none, List.nil_append, List.cons_append, List.append_nil, true_and, and_true, not_true_eq_false, not_false_eq_true, true_implies, false_implies, implies_true, and_self, Int.reduceLT, Int.reduceLE, Int.reduceEq, Int.reduceNe, Int.reduceAdd, Int.reduceSub, Int.reduceMul, Int.reduceNeg, Int.reduceToNat, Int.toNat_natCast, ↓kk_ck, ↓kk_im, ↓kk_in, s_305_11, s_305_15, s_305_18, s_305_23, s_305_29, s_305_30, s_305_34, s_305_42, s_305_43, s_305_47, s_305_55, s_305_56, s_305_59, s_305_63, s_305_71, s_305_72, s_305_77, R1, R3, w1, w2, h293, vi_inc, @vi_32 (4 * (i : Int)) (by omega) (by omega), @vi_32 (100 + 4 * (i : Int)) (by omega) (by omega), @vi_32 (100 + 4 * (i : Int) + 1) (by omega) (by omega), @vi_32 (100 + 4 * (i : Int) + 2) (by omega) (by omega), @vi_32 (100 + 4 * (i : Int) + 3) (by omega) (by omega), a0, a1, a2, a3, ha, T, q]
          exact this
        · rw [if_neg q] at he
          rw [← he] at hq
          clear ih
          simp (disch := omega) only [Option.toList_some, Option.toList_none, List.nil_append, List.cons_append, List.append_nil, true_and, and_true, not_true_eq_false, not_false_eq_true, true_implies, false_implies, implies_true, and_self, Int.reduceLT, Int.reduceLE, Int.reduceEq, Int.reduceNe, Int.reduceAdd, Int.reduceSub, Int.reduceMul, Int.reduceNeg, Int.reduceToNat, Int.toNat_natCast, ↓kk_ck, ↓kk_im, ↓kk_in, s_305_11, s_305_15, s_305_18, s_305_23, s_305_29, s_305_30, s_305_34, s_305_42, s_305_43, s_305_47, s_305_55, s_305_56, s_305_59, s_305_63, s_305_71, s_305_72, s_305_75, R1, R3, w1, w2, h293, vi_inc, @vi_32 (4 * (i : Int)) (by omega) (by omega), @vi_32 (100 + 4 * (i : Int)) (by omega) (by omega), @vi_32 (100 + 4 * (i : Int) + 1) (by omega) (by omega), @vi_32 (100 + 4 * (i : Int) + 2) (by omega) (by omega), @vi_32 (100 + 4 * (i : Int) + 3) (by omega) (by omega), a0, a1, a2, a3, ha, T, q]
          exact hq
    have := loop m 0 rfl rfl
    clear loop hq
    simp (disch := omega) only [Option.toList_some, Option.toList_none, List.nil_append, List.cons_append, List.append_nil, true_and, and_true, not_true_eq_false, not_false_eq_true, true_implies, false_implies, implies_true, and_self, Int.reduceLT, Int.reduceLE, Int.reduceEq, Int.reduceNe, Int.reduceAdd, Int.reduceSub, Int.reduceMul, Int.reduceNeg, Int.reduceToNat, Int.toNat_natCast, ↓kk_ck, ↓kk_im, ↓kk_in, s_305_4]
    exact this
  clear hQ
  simp (disch := omega) only [Option.toList_some, Option.toList_none, List.nil_append, List.cons_append, List.append_nil, true_and, and_true, not_true_eq_false, not_false_eq_true, true_implies, false_implies, implies_true, and_self, Int.reduceLT, Int.reduceLE, Int.reduceEq, Int.reduceNe, Int.reduceAdd, Int.reduceSub, Int.reduceMul, Int.reduceNeg, Int.reduceToNat, Int.toNat_natCast, ↓kk_ck, ↓kk_im, ↓kk_in, e_305, s_305_0, R1]
  exact cont
end
