/-! Contracts of the reference, fourteenth part: what is asked of the CELLS. -/
def mSee (M : vi_M) (lw : Option (List gCla)) (n : Nat) : Prop := mLk M M lw n 216
theorem mLf_c {M M' : vi_M} (h : M' 114 = M 114) {lw : Option (List gCla)} {n c : Nat} : mLf M' lw n c = mLf M lw n c := by
  unfold mLf
  rw [h, mT_c h]
theorem mSee_of {M M' : vi_M} {lw : Option (List gCla)} {n : Nat} (h : mLk M M' lw n 216) : mSee M' lw n := by
  obtain ⟨k1, k2, k3, k4, k5⟩ := h
  have e114 : M' 114 = M 114 := k1 114 (by omega) (by omega) (by omega) (by omega) (by omega) (by omega)
  refine ⟨fun _ _ _ _ _ _ _ => rfl, fun _ _ _ _ _ _ _ _ => rfl, ?_, fun c hc => ?_, fun c hc => ?_⟩
  · rw [k3, k2 1 (by omega) (by omega) (by omega) (by omega) (by omega) (by omega) (by omega)]
  · rw [e114]
    exact k4 c hc
  · rw [e114, mLf_c e114, mT_c e114]
    exact k5 c hc
/-- what is kept: terms, HOLES, a law; and whether it has been looked at -/
def mKs (M : vi_M) (lw : Option (List gCla)) (n : Nat) : Prop := mBx M ∧ n ≤ 16 ∧ M 114 292 = (n : Int) ∧ (∀ h, h < n → mHo (M 114) h) ∧ (0 ≤ M 114 99 ∧ M 114 99 ≤ 99) ∧ mLw M lw ∧ (M 112 30 = M 112 1 → mSee M lw n)
/-- looking changes these places alone -/
def mFr (M M' : vi_M) : Prop := (∀ p, p ≠ 112 → p ≠ 123 → p ≠ 124 → p ≠ 125 → p ≠ 126 → p ≠ 127 → M' p = M p) ∧ ∀ k, k ≠ 19 → k ≠ 20 → k ≠ 21 → k ≠ 23 → k ≠ 24 → k ≠ 25 → k ≠ 30 → M' 112 k = M 112 k
theorem mFr_114 {M M' : vi_M} (h : mFr M M') : M' 114 = M 114 := h.1 114 (by omega) (by omega) (by omega) (by omega) (by omega) (by omega)
def mNum (f : Nat → Int) : Nat → Int
  | 0 => 0
  | j + 1 => mNum f j + (if f j = 0 then 0 else 1)
theorem mNum_r {f : Nat → Int} : ∀ j : Nat, 0 ≤ mNum f j ∧ mNum f j ≤ (j : Int)
  | 0 => by rw [mNum]; omega
  | j + 1 => by
    have := mNum_r (f := f) j
    rw [mNum]
    split <;> omega
/-- how many CELLS a HOLE has -/
def mLn (f : Nat → Int) (h : Nat) : Nat → Nat → Nat
  | 0, i => i
  | k + 1, i => if mHc f h i = -1 then i else mLn f h k (i + 1)
/-- how many of a row's first CELLS are LEFT -/
def mRw (f : Nat → Int) (a : Nat) (u v : Int) : Nat → Int
  | 0 => 0
  | i + 1 => mRw f a u v i + (if f (mHa a u v (i : Int)).toNat = 0 then 0 else 1)
theorem mRw_r {f : Nat → Int} {a : Nat} {u v : Int} : ∀ j : Nat, 0 ≤ mRw f a u v j ∧ mRw f a u v j ≤ (j : Int)
  | 0 => by rw [mRw]; omega
  | j + 1 => by
    have := mRw_r (f := f) (a := a) (u := u) (v := v) j
    rw [mRw]
    split <;> omega
section
variable {D : Nat} {K : Option vi_V → vi_W → Prop} {Y : vi_Y} {M : vi_M} {nn : Nat × Nat} {Q : Option vi_V → vi_W → Prop}
theorem k_294u (hY : kY Y 151) {lw : Option (List gCla)} {n : Nat} (hS : mKs M lw n) (hD : 45 ≤ D) (hQ : ∀ M', mSee M' lw n → mFr M M' → Q none (Y, M', nn)) : vi_call GG D 294 [.inr (.inr 112)] (Y, M, nn) Q := by
  obtain ⟨hB, hn, h292, hH, hday, hL, hs⟩ := hS
  by_cases hv : M 112 30 = M 112 1
  · rw [k_294s hY hv (by omega)]
    exact hQ M (hs hv) ⟨fun _ _ _ _ _ _ _ => rfl, fun _ _ _ _ _ _ _ _ => rfl⟩
  · exact k_294 hY hB hn h292 hH hday hL hv hD fun M' h => hQ M' (mSee_of h) ⟨h.1, h.2.1⟩
theorem k_297 {p : Nat} (hp : Y.1 p = 4 ∧ (Y.2.1 p : Int) = 216) (hD : 1 ≤ D) : vi_call GG D 297 [.inr (.inr 112), .inr (.inr p)] (Y, M, nn) K ↔ K (some (.inl (mNum (M p) 216))) (Y, M, nn) := by
  obtain ⟨D, rfl⟩ : ∃ k, D = k + 1 := ⟨D - 1, by omega⟩
  obtain ⟨p1, p2⟩ := hp
  refine vi_k (r := some (.inl _)) fun Q hQ => ?_
  have loop : ∀ j : Nat, j ≤ 216 → vi_ok GG D 297 4 [some (.inr (.inr 112)), some (.inr (.inr p)), some (.inl (mNum (M p) j)), some (.inl (j : Int))] [] (Y, M, nn) Q := by
    refine vi_dn 216 ?_ fun j hj ih => ?_
    · rw [s_297_4]
      simp (disch := omega) only [Option.toList_some, Option.toList_none, List.nil_append, List.cons_append, List.append_nil, true_and, and_true, not_true_eq_false, not_false_eq_true, true_implies, false_implies, implies_true, and_self, Int.reduceLT, Int.reduceLE, Int.reduceEq, Int.reduceNe, Int.reduceAdd, Int.reduceSub, Int.reduceMul, Int.reduceNeg, Int.reduceToNat, Int.toNat_natCast, ↓kk_ck, ↓kk_im, ↓kk_in, s_297_31]
      exact hQ
    · have hr := mNum_r (f := M p) j
      rw [mNum] at ih
      rw [s_297_4]
      clear hQ
      by_cases q : M p j = 0
      · rw [if_pos q] at ih
        simp (disch := omega) only [Option.toList_some, Option.toList_none, List.nil_append, List.cons_append, List.append_nil, true_and, and_true, not_true_eq_false, not_false_eq_true, true_implies, false_implies, implies_true, and_self, Int.reduceLT, Int.reduceLE, Int.reduceEq, Int.reduceNe, Int.reduceAdd, Int.reduceSub, Int.reduceMul, Int.reduceNeg, Int.reduceToNat, Int.toNat_natCast, ↓kk_ck, ↓kk_im, ↓kk_in, s_297_11, s_297_15, s_297_22, s_297_23, p1, p2, Int.toNat_natCast, q, vi_inc, vi_32]
        exact ih
      · rw [if_neg q] at ih
        simp (disch := omega) only [Option.toList_some, Option.toList_none, List.nil_append, List.cons_append, List.append_nil, true_and, and_true, not_true_eq_false, not_false_eq_true, true_implies, false_implies, implies_true, and_self, Int.reduceLT, Int.reduceLE, Int.reduceEq, Int.reduceNe, Int.reduceAdd, Int.reduceSub, Int.reduceMul, Int.reduceNeg, Int.reduceToNat, Int.toNat_natCast, ↓kk_ck, ↓kk_im, ↓kk_in, s_297_11, s_297_15, s_297_18, s_297_23, p1, p2, Int.toNat_natCast, q, vi_inc, @vi_32 (mNum (M p) j + 1) (by omega) (by omega)]
        exact ih
  have := loop 0 (by omega)
  clear loop hQ
  simp (disch := omega) only [Option.toList_some, Option.toList_none, List.nil_append, List.cons_append, List.append_nil, true_and, and_true, not_true_eq_false, not_false_eq_true, true_implies, false_implies, implies_true, and_self, Int.reduceLT, Int.reduceLE, Int.reduceEq, Int.reduceNe, Int.reduceAdd, Int.reduceSub, Int.reduceMul, Int.reduceNeg, Int.reduceToNat, Int.toNat_natCast, ↓kk_ck, ↓kk_im, ↓kk_in, e_297, s_297_0]
  exact this
theorem k_295n (hY : kY Y 151) {n : Nat} (hn : n ≤ 16) (h292 : M 114 292 = (n : Int)) {h x : Int} (hh : ¬ (0 ≤ h ∧ h ≤ (n : Int) - 1 ∧ 0 ≤ x ∧ x ≤ 6)) (hD : 2 ≤ D) : vi_call GG D 295 [.inr (.inr 112), .inl h, .inl x] (Y, M, nn) K ↔ K (some (.inl (-1))) (Y, M, nn) := by
  obtain ⟨D, rfl⟩ : ∃ k, D = k + 1 := ⟨D - 1, by omega⟩
  obtain ⟨R1, -, R3, -⟩ := y_112 hY (by omega)
  obtain ⟨w1, w2⟩ := y_114 hY (by omega)
  refine vi_k (r := some (.inl _)) fun Q hQ => ?_
  by_cases q : 0 ≤ h ∧ h ≤ (n : Int) - 1
  · have q2 : ¬ (0 ≤ x ∧ x ≤ 6) := by omega
    simp (disch := omega) only [Option.toList_some, Option.toList_none, List.nil_append, List.cons_append, List.append_nil, true_and, and_true, not_true_eq_false, not_false_eq_true, true_implies, false_implies, implies_true, and_self, Int.reduceLT, Int.reduceLE, Int.reduceEq, Int.reduceNe, Int.reduceAdd, Int.reduceSub, Int.reduceMul, Int.reduceNeg, Int.reduceToNat, Int.toNat_natCast, ↓kk_ck, ↓kk_im, ↓kk_in, e_295, s_295_0, s_295_6, s_295_10, s_295_15, s_295_18, s_295_25, s_295_28, R1, R3, w1, w2, h292, vi_32, k_234t q, k_234f q2, ne_eq]
    exact hQ
  · simp (disch := omega) only [Option.toList_some, Option.toList_none, List.nil_append, List.cons_append, List.append_nil, true_and, and_true, not_true_eq_false, not_false_eq_true, true_implies, false_implies, implies_true, and_self, Int.reduceLT, Int.reduceLE, Int.reduceEq, Int.reduceNe, Int.reduceAdd, Int.reduceSub, Int.reduceMul, Int.reduceNeg, Int.reduceToNat, Int.toNat_natCast, ↓kk_ck, ↓kk_im, ↓kk_in, e_295, s_295_0, s_295_6, s_295_10, s_295_15, s_295_28, R1, R3, w1, w2, h292, vi_32, k_234f q, ne_eq]
    exact hQ
theorem k_295 (hY : kY Y 151) (hB : mBx M) {n : Nat} (hn : n ≤ 16) (h292 : M 114 292 = (n : Int)) {h x : Nat} (hh : h < n) (hH : mHo (M 114) h) (hx : x ≤ 6) (hD : 6 ≤ D) : vi_call GG D 295 [.inr (.inr 112), .inl (h : Int), .inl (x : Int)] (Y, M, nn) K ↔ K (some (.inl (if x = 6 then ((mLn (M 114) h 7 0 : Nat) : Int) else M 114 (6 * h + x)))) (Y, M, nn) := by
  obtain ⟨D, rfl⟩ : ∃ k, D = k + 1 := ⟨D - 1, by omega⟩
  obtain ⟨R1, -, R3, -⟩ := y_112 hY (by omega)
  obtain ⟨w1, w2⟩ := y_114 hY (by omega)
  refine vi_k (r := some (.inl _)) fun Q hQ => ?_
  have q : 0 ≤ (h : Int) ∧ (h : Int) ≤ (n : Int) - 1 := by omega
  by_cases h6 : x = 6
  · subst h6
    rw [if_pos rfl] at hQ
    have loop : ∀ k i : Nat, k + i = 7 → i ≤ 6 → mLn (M 114) h k i = mLn (M 114) h 7 0 → vi_ok GG D 295 50 [some (.inr (.inr 112)), some (.inl (h : Int)), some (.inl 6), some (.inl (i : Int))] [] (Y, M, nn) Q := by
      intro k
      induction k with
      | zero => intro i hk hi; omega
      | succ k ih =>
        intro i hk hi he
        rw [mLn] at he
        rw [s_295_50]
        by_cases e : mHc (M 114) h i = -1
        · rw [if_pos e] at he
          rw [← he] at hQ
          clear ih
          simp (disch := omega) only [Option.toList_some, Option.toList_none, List.nil_append, List.cons_append, List.append_nil, true_and, and_true, not_true_eq_false, not_false_eq_true, true_implies, false_implies, implies_true, and_self, Int.reduceLT, Int.reduceLE, Int.reduceEq, Int.reduceNe, Int.reduceAdd, Int.reduceSub, Int.reduceMul, Int.reduceNeg, Int.reduceToNat, Int.toNat_natCast, ↓kk_ck, ↓kk_im, ↓kk_in, s_295_56, s_295_66, R1, k_293 hY hB (show h < 16 by omega) hH, e]
          exact hQ
        · rw [if_neg e] at he
          have i6 : i < 6 := Nat.lt_of_not_le fun e2 => e (mHc_6 hH e2)
          have := ih (i + 1) (by omega) (by omega) he
          clear ih hQ
          simp (disch := omega) only [Option.toList_some, Option.toList_none, List.nil_append, List.cons_append, List.append_nil, true_and, and_true, not_true_eq_false, not_false_eq_true, true_implies, false_implies, implies_true, and_self, Int.reduceLT, Int.reduceLE, Int.reduceEq, Int.reduceNe, Int.reduceAdd, Int.reduceSub, Int.reduceMul, Int.reduceNeg, Int.reduceToNat, Int.toNat_natCast, ↓kk_ck, ↓kk_im, ↓kk_in, s_295_56, s_295_60, R1, k_293 hY hB (show h < 16 by omega) hH, e, vi_inc]
          exact this
    have := loop 7 0 rfl (by omega) rfl
    clear loop hQ
    simp (disch := omega) only [Option.toList_some, Option.toList_none, List.nil_append, List.cons_append, List.append_nil, true_and, and_true, not_true_eq_false, not_false_eq_true, true_implies, false_implies, implies_true, and_self, Int.reduceLT, Int.reduceLE, Int.reduceEq, Int.reduceNe, Int.reduceAdd, Int.reduceSub, Int.reduceMul, Int.reduceNeg, Int.reduceToNat, Int.toNat_natCast, ↓kk_ck, ↓kk_im, ↓kk_in, e_295, s_295_0, s_295_6, s_295_10, s_295_15, s_295_18, s_295_25, s_295_30, s_295_48, R1, R3, w1, w2, h292, vi_32, k_234t, ne_eq]
    exact this
  · rw [if_neg h6] at hQ
    have a0 : (6 * (h : Int) + (x : Int)).toNat = 6 * h + x := by omega
    simp (disch := omega) only [Option.toList_some, Option.toList_none, List.nil_append, List.cons_append, List.append_nil, true_and, and_true, not_true_eq_false, not_false_eq_true, true_implies, false_implies, implies_true, and_self, Int.reduceLT, Int.reduceLE, Int.reduceEq, Int.reduceNe, Int.reduceAdd, Int.reduceSub, Int.reduceMul, Int.reduceNeg, Int.reduceToNat, Int.toNat_natCast, ↓kk_ck, ↓kk_im, ↓kk_in, e_295, s_295_0, s_295_6, s_295_10, s_295_15, s_295_18, s_295_25, s_295_30, s_295_36, s_295_40, s_295_46, s_295_47, R1, R3, w1, w2, h292, vi_32, k_234t, ne_eq, a0]
    exact hQ
theorem k_296n (hY : kY Y 151) {c x : Int} (hh : ¬ (mIc M c ∧ 0 ≤ x ∧ x ≤ 3)) (hD : 3 ≤ D) : vi_call GG D 296 [.inr (.inr 112), .inl c, .inl x] (Y, M, nn) K ↔ K (some (.inl (-1))) (Y, M, nn) := by
  obtain ⟨D, rfl⟩ : ∃ k, D = k + 1 := ⟨D - 1, by omega⟩
  obtain ⟨R1, -⟩ := y_112 hY (by omega)
  refine vi_k (r := some (.inl _)) fun Q hQ => ?_
  by_cases q : mIc M c
  · have q2 : ¬ (0 ≤ x ∧ x ≤ 3) := fun e => hh ⟨q, e⟩
    simp (disch := omega) only [Option.toList_some, Option.toList_none, List.nil_append, List.cons_append, List.append_nil, true_and, and_true, not_true_eq_false, not_false_eq_true, true_implies, false_implies, implies_true, and_self, Int.reduceLT, Int.reduceLE, Int.reduceEq, Int.reduceNe, Int.reduceAdd, Int.reduceSub, Int.reduceMul, Int.reduceNeg, Int.reduceToNat, Int.toNat_natCast, ↓kk_ck, ↓kk_im, ↓kk_in, e_296, s_296_0, s_296_5, s_296_8, s_296_14, s_296_17, R1, k_246t hY q, k_234f q2, ne_eq]
    exact hQ
  · simp (disch := omega) only [Option.toList_some, Option.toList_none, List.nil_append, List.cons_append, List.append_nil, true_and, and_true, not_true_eq_false, not_false_eq_true, true_implies, false_implies, implies_true, and_self, Int.reduceLT, Int.reduceLE, Int.reduceEq, Int.reduceNe, Int.reduceAdd, Int.reduceSub, Int.reduceMul, Int.reduceNeg, Int.reduceToNat, Int.toNat_natCast, ↓kk_ck, ↓kk_im, ↓kk_in, e_296, s_296_0, s_296_5, s_296_17, R1, k_246f hY q]
    exact hQ
/-- a CELL, once looked at: LEFT, what it weighs, SHUT, its HOLES -/
def mCe (M : vi_M) (lw : Option (List gCla)) (n c x : Nat) : Int := if x = 0 then vi_b (mLf M lw n c) else if x = 1 then (mT M (c : Int) (mAt (M 114) (c : Int) n) lw).2.2 else if x = 2 then vi_b (mT M (c : Int) (mAt (M 114) (c : Int) n) lw).2.1 else mAt (M 114) (c : Int) n
theorem k_296 (hY : kY Y 151) {lw : Option (List gCla)} {n : Nat} (hS : mKs M lw n) {c x : Nat} (hc : mIc M (c : Int)) (hx : x ≤ 3) (hD : 46 ≤ D) (hQ : ∀ M', mSee M' lw n → mFr M M' → Q (some (.inl (mCe M lw n c x))) (Y, M', nn)) : vi_call GG D 296 [.inr (.inr 112), .inl (c : Int), .inl (x : Int)] (Y, M, nn) Q := by
  obtain ⟨D, rfl⟩ : ∃ k, D = k + 1 := ⟨D - 1, by omega⟩
  obtain ⟨R1, -, R3, -, -, -, -, -, -, -, -, -, R26, R27, R28, R29, -⟩ := y_112 hY (by omega)
  obtain ⟨t1, t2⟩ := y_124 hY (by omega)
  obtain ⟨u1, u2⟩ := y_125 hY (by omega)
  obtain ⟨v1, v2⟩ := y_126 hY (by omega)
  obtain ⟨w1, w2⟩ := y_127 hY (by omega)
  have hcb : mIcb (M 114) (c : Int) = true := by
    unfold mIcb
    exact decide_eq_true hc
  have hc2 : c < 216 := by have := hc.2.1; omega
  have cont : vi_call GG D 294 [.inr (.inr 112)] (Y, M, nn) (fun r w' => vi_ok GG D 296 23 [some (.inr (.inr 112)), some (.inl (c : Int)), some (.inl (x : Int))] r.toList w' Q) := by
    refine k_294u hY hS (by omega) fun M' hs hf => ?_
    have e114 := mFr_114 hf
    have hq := hQ M' hs hf
    obtain ⟨-, -, -, k4, k5⟩ := hs
    have g4 := k4 c hc2
    obtain ⟨g5, g6⟩ := k5 c hc2
    obtain ⟨g7, g8⟩ := g6 (by rw [e114]; exact hcb)
    rw [e114] at g4
    rw [mLf_c e114] at g5
    rw [e114, mT_c e114] at g7 g8
    clear hQ k4 k5 g6 hf
    unfold mCe at hq
    obtain rfl | rfl | rfl | rfl : x = 0 ∨ x = 1 ∨ x = 2 ∨ x = 3 := by omega
    · rw [if_pos rfl] at hq
      cases hb : mLf M lw n c with
      | true =>
        rw [hb] at hq g5
        simp (disch := omega) only [Option.toList_some, Option.toList_none, List.nil_append, List.cons_append, List.append_nil, true_and, and_true, not_true_eq_false, not_false_eq_true, true_implies, false_implies, implies_true, and_self, Int.reduceLT, Int.reduceLE, Int.reduceEq, Int.reduceNe, Int.reduceAdd, Int.reduceSub, Int.reduceMul, Int.reduceNeg, Int.reduceToNat, Int.toNat_natCast, ↓kk_ck, ↓kk_im, ↓kk_in, s_296_23, s_296_27, s_296_31, s_296_33, s_296_36, s_296_40, s_296_86, R1, R28, v1, v2, Int.toNat_natCast, g5, vi_bt, vi_bf, ne_eq]
        exact hq
      | false =>
        rw [hb] at hq g5
        simp (disch := omega) only [Option.toList_some, Option.toList_none, List.nil_append, List.cons_append, List.append_nil, true_and, and_true, not_true_eq_false, not_false_eq_true, true_implies, false_implies, implies_true, and_self, Int.reduceLT, Int.reduceLE, Int.reduceEq, Int.reduceNe, Int.reduceAdd, Int.reduceSub, Int.reduceMul, Int.reduceNeg, Int.reduceToNat, Int.toNat_natCast, ↓kk_ck, ↓kk_im, ↓kk_in, s_296_23, s_296_27, s_296_31, s_296_33, s_296_36, s_296_40, s_296_86, R1, R28, v1, v2, Int.toNat_natCast, g5, vi_bt, vi_bf, ne_eq]
        exact hq
    · rw [if_neg (by omega), if_pos rfl] at hq
      simp (disch := omega) only [Option.toList_some, Option.toList_none, List.nil_append, List.cons_append, List.append_nil, true_and, and_true, not_true_eq_false, not_false_eq_true, true_implies, false_implies, implies_true, and_self, Int.reduceLT, Int.reduceLE, Int.reduceEq, Int.reduceNe, Int.reduceAdd, Int.reduceSub, Int.reduceMul, Int.reduceNeg, Int.reduceToNat, Int.toNat_natCast, ↓kk_ck, ↓kk_im, ↓kk_in, s_296_23, s_296_44, s_296_49, s_296_53, s_296_55, s_296_86, R1, R27, u1, u2, Int.toNat_natCast, g7, ne_eq]
      exact hq
    · rw [if_neg (by omega), if_neg (by omega), if_pos rfl] at hq
      cases hb : (mT M (c : Int) (mAt (M 114) (c : Int) n) lw).2.1 with
      | true =>
        rw [hb] at hq g8
        simp (disch := omega) only [Option.toList_some, Option.toList_none, List.nil_append, List.cons_append, List.append_nil, true_and, and_true, not_true_eq_false, not_false_eq_true, true_implies, false_implies, implies_true, and_self, Int.reduceLT, Int.reduceLE, Int.reduceEq, Int.reduceNe, Int.reduceAdd, Int.reduceSub, Int.reduceMul, Int.reduceNeg, Int.reduceToNat, Int.toNat_natCast, ↓kk_ck, ↓kk_im, ↓kk_in, s_296_23, s_296_44, s_296_58, s_296_63, s_296_67, s_296_69, s_296_72, s_296_76, s_296_86, R1, R29, w1, w2, Int.toNat_natCast, g8, vi_bt, vi_bf, ne_eq]
        exact hq
      | false =>
        rw [hb] at hq g8
        simp (disch := omega) only [Option.toList_some, Option.toList_none, List.nil_append, List.cons_append, List.append_nil, true_and, and_true, not_true_eq_false, not_false_eq_true, true_implies, false_implies, implies_true, and_self, Int.reduceLT, Int.reduceLE, Int.reduceEq, Int.reduceNe, Int.reduceAdd, Int.reduceSub, Int.reduceMul, Int.reduceNeg, Int.reduceToNat, Int.toNat_natCast, ↓kk_ck, ↓kk_im, ↓kk_in, s_296_23, s_296_44, s_296_58, s_296_63, s_296_67, s_296_69, s_296_72, s_296_76, s_296_86, R1, R29, w1, w2, Int.toNat_natCast, g8, vi_bt, vi_bf, ne_eq]
        exact hq
    · rw [if_neg (by omega), if_neg (by omega), if_neg (by omega)] at hq
      simp (disch := omega) only [Option.toList_some, Option.toList_none, List.nil_append, List.cons_append, List.append_nil, true_and, and_true, not_true_eq_false, not_false_eq_true, true_implies, false_implies, implies_true, and_self, Int.reduceLT, Int.reduceLE, Int.reduceEq, Int.reduceNe, Int.reduceAdd, Int.reduceSub, Int.reduceMul, Int.reduceNeg, Int.reduceToNat, Int.toNat_natCast, ↓kk_ck, ↓kk_im, ↓kk_in, s_296_23, s_296_44, s_296_58, s_296_80, s_296_84, s_296_86, R1, R26, t1, t2, Int.toNat_natCast, g4, ne_eq]
      exact hq
  clear hQ
  simp (disch := omega) only [Option.toList_some, Option.toList_none, List.nil_append, List.cons_append, List.append_nil, true_and, and_true, not_true_eq_false, not_false_eq_true, true_implies, false_implies, implies_true, and_self, Int.reduceLT, Int.reduceLE, Int.reduceEq, Int.reduceNe, Int.reduceAdd, Int.reduceSub, Int.reduceMul, Int.reduceNeg, Int.reduceToNat, Int.toNat_natCast, ↓kk_ck, ↓kk_im, ↓kk_in, e_296, s_296_0, s_296_5, s_296_8, s_296_14, s_296_19, R1, k_246t hY hc, k_234t, ne_eq]
  exact cont
end
