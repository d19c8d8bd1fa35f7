/-! Reference: screw, unscrew, screwCell, told, isOpen, draws, drawn, count, status. -/
/-- a screw added -/
def mAs (f : Nat → Int) (m : Nat) (a u v x y : Int) : Nat → Int := vi_u (vi_u (vi_u (vi_u (vi_u (vi_u f (132 + 5 * m) a) (132 + 5 * m + 1) u) (132 + 5 * m + 2) v) (132 + 5 * m + 3) x) (132 + 5 * m + 4) y) 294 ((m + 1 : Nat) : Int)
/-- a screw's i-th CELL -/
def scC (f : Nat → Int) (s i : Nat) : Int := mHl f (f (132 + 5 * s)).toNat (f (132 + 5 * s + 1)) (f (132 + 5 * s + 2)) (f (132 + 5 * s + 3)) (f (132 + 5 * s + 4)) 0 i
def mSw (f : Nat → Int) (s : Nat) : Prop := (0 ≤ f (132 + 5 * s) ∧ f (132 + 5 * s) ≤ 2) ∧ (0 ≤ f (132 + 5 * s + 1) ∧ f (132 + 5 * s + 1) ≤ 5) ∧ (0 ≤ f (132 + 5 * s + 2) ∧ f (132 + 5 * s + 2) ≤ 5)
/-- a count -/
def cnT (M : vi_M) (w : Int) : Int := if w = 0 then M 114 96 else if w = 1 then M 114 97 else if w = 2 then M 114 98 else if w = 3 then M 114 292 else if w = 4 then M 114 295 else if w = 5 then M 114 293 else if w = 6 then M 114 294 else if w = 7 then M 112 10 else if w = 8 then M 113 1 else if w = 9 then M 113 2 else if w = 10 then M 113 3 else if w = 11 then M 113 5 else if w = 12 then M 113 6 else if w = 13 then M 114 296 else if w = 14 then M 114 99 else -1
section
variable {D : Nat} {K : Option vi_V → vi_W → Prop} {Y : vi_Y} {M : vi_M} {nn : Nat × Nat} {Q : Option vi_V → vi_W → Prop}
theorem k_340n (hY : kY Y 151) (hB : mBx M) {a u v x y : Int} (h : ¬ mIh M a u v x y 0) (hc : 0 ≤ M 113 1 ∧ M 113 1 < 2147483647) (hD : 5 ≤ D) : vi_call GG D 340 [.inr (.inr 112), .inl a, .inl u, .inl v, .inl x, .inl y] (Y, M, nn) K ↔ K (some (.inl (-1))) (Y, vi_rs (vi_rs M 112 (vi_u (M 112) 0 (-1))) 113 (vi_u (M 113) 1 (M 113 1 + 1)), nn) := by
  obtain ⟨D, rfl⟩ : ∃ k, D = k + 1 := ⟨D - 1, by omega⟩
  obtain ⟨R1, -⟩ := y_112 hY (by omega)
  refine vi_k (r := some (.inl _)) fun Q hQ => ?_
  have A := fun {D : Nat} {K : Option vi_V → vi_W → Prop} (hD : 1 ≤ D) => @k_235 D K Y M nn hY (-1) (by omega) (by exact hc) hD
  simp (disch := omega) only [Option.toList_some, Option.toList_none, List.nil_append, List.cons_append, List.append_nil, true_and, and_true, not_true_eq_false, not_false_eq_true, true_implies, false_implies, implies_true, and_self, Int.reduceLT, Int.reduceLE, Int.reduceEq, Int.reduceNe, Int.reduceAdd, Int.reduceSub, Int.reduceMul, Int.reduceNeg, Int.reduceToNat, Int.toNat_natCast, ↓kk_ck, ↓kk_im, ↓kk_in, e_340, s_340_0, s_340_12, s_340_15, s_340_20, R1, k_249f hY hB h, A, ne_eq]
  exact hQ
theorem k_340x (hY : kY Y 151) (hB : mBx M) {a u v x y : Int} (h : mIh M a u v x y 0) (h294 : M 114 294 = 8) (hc : 0 ≤ M 113 5 ∧ M 113 5 < 2147483647) (hD : 5 ≤ D) : vi_call GG D 340 [.inr (.inr 112), .inl a, .inl u, .inl v, .inl x, .inl y] (Y, M, nn) K ↔ K (some (.inl (-5))) (Y, vi_rs (vi_rs M 112 (vi_u (M 112) 0 (-5))) 113 (vi_u (M 113) 5 (M 113 5 + 1)), nn) := by
  obtain ⟨D, rfl⟩ : ∃ k, D = k + 1 := ⟨D - 1, by omega⟩
  obtain ⟨R1, -, R3, -⟩ := y_112 hY (by omega)
  obtain ⟨w1, w2⟩ := y_114 hY (by omega)
  refine vi_k (r := some (.inl _)) fun Q hQ => ?_
  have A := fun {D : Nat} {K : Option vi_V → vi_W → Prop} (hD : 1 ≤ D) => @k_235 D K Y M nn hY (-5) (by omega) (by exact hc) hD
  simp (disch := omega) only [Option.toList_some, Option.toList_none, List.nil_append, List.cons_append, List.append_nil, true_and, and_true, not_true_eq_false, not_false_eq_true, true_implies, false_implies, implies_true, and_self, Int.reduceLT, Int.reduceLE, Int.reduceEq, Int.reduceNe, Int.reduceAdd, Int.reduceSub, Int.reduceMul, Int.reduceNeg, Int.reduceToNat, Int.toNat_natCast, ↓kk_ck, ↓kk_im, ↓kk_in, e_340, s_340_0, s_340_12, s_340_21, s_340_25, s_340_29, s_340_38, s_340_44, R1, R3, w1, w2, k_249t hY hB h, h294, A, ne_eq]
  exact hQ
theorem k_340 (hY : kY Y 151) (hB : mBx M) {a u v x y : Int} (h : mIh M a u v x y 0) {m : Nat} (hm : m ≤ 7) (h294 : M 114 294 = (m : Int)) (hc : 0 ≤ M 112 1 ∧ M 112 1 < 2147483647) (hD : 5 ≤ D) : vi_call GG D 340 [.inr (.inr 112), .inl a, .inl u, .inl v, .inl x, .inl y] (Y, M, nn) K ↔ K (some (.inl ((m + 1 : Nat) : Int))) (Y, vi_rs (vi_rs M 114 (mAs (M 114) m a u v x y)) 112 (vi_u (vi_u (M 112) 0 0) 1 (M 112 1 + 1)), nn) := by
  obtain ⟨D, rfl⟩ : ∃ k, D = k + 1 := ⟨D - 1, by omega⟩
  obtain ⟨R1, -, R3, -⟩ := y_112 hY (by omega)
  obtain ⟨w1, w2⟩ := y_114 hY (by omega)
  refine vi_k (r := some (.inl _)) fun Q hQ => ?_
  have A := fun {D : Nat} {K : Option vi_V → vi_W → Prop} (hD : 1 ≤ D) => @k_236 D K Y (vi_rs M 114 (mAs (M 114) m a u v x y)) nn hY ((m + 1 : Nat) : Int) (by rw [vi_rs_o (by omega)]; exact hc) hD
  rw [vi_rs_o (by omega)] at A
  have er : vi_u (vi_u (vi_u (vi_u (vi_u (vi_u (M 114) (132 + 5 * m) a) (132 + 5 * m + 1) u) (132 + 5 * m + 2) v) (132 + 5 * m + 3) x) (132 + 5 * m + 4) y) 294 ((m + 1 : Nat) : Int) = mAs (M 114) m a u v x y := rfl
  have o : ∀ (f : Nat → Int) (x : Int) (j : Nat), j < 294 → vi_u f j x 294 = f 294 := fun f x j hj => if_neg (by omega)
  have a0 : (132 + 5 * (m : Int)).toNat = 132 + 5 * m := by omega
  have a1 : (132 + 5 * (m : Int) + 1).toNat = 132 + 5 * m + 1 := by omega
  have a2 : (132 + 5 * (m : Int) + 2).toNat = 132 + 5 * m + 2 := by omega
  have a3 : (132 + 5 * (m : Int) + 3).toNat = 132 + 5 * m + 3 := by omega
  have a4 : (132 + 5 * (m : Int) + 4).toNat = 132 + 5 * m + 4 := by omega
  have a6 : (m : Int) + 1 = ((m + 1 : Nat) : Int) := by omega
  have m8 : ¬ (m : Int) = 8 := by omega
  simp (disch := omega) only [Option.toList_some, Option.toList_none, List.nil_append, List.cons_append, List.append_nil, true_and, and_true, not_true_eq_false, not_false_eq_true, true_implies, false_implies, implies_true, and_self, Int.reduceLT, Int.reduceLE, Int.reduceEq, Int.reduceNe, Int.reduceAdd, Int.reduceSub, Int.reduceMul, Int.reduceNeg, Int.reduceToNat, Int.toNat_natCast, ↓kk_ck, ↓kk_im, ↓kk_in, e_340, s_340_0, s_340_15, s_340_21, s_340_38, s_340_45, s_340_12, s_340_20, s_340_25, s_340_44, s_340_49, s_340_29, s_340_58, s_340_59, s_340_63, s_340_74, s_340_75, s_340_79, s_340_90, s_340_91, s_340_95, s_340_107, s_340_108, s_340_112, s_340_124, s_340_125, s_340_129, s_340_134, s_340_137, s_340_145, R1, R3, w1, w2, k_249t hY hB h, h294, ne_eq, m8, vi_32, a0, a1, a2, a3, a4, vi_ms_rs, vi_rs_s, vi_rs_rs, o, a6, er, A]
  exact hQ
theorem k_341 (hY : kY Y 151) (hc : 0 ≤ M 112 1 ∧ M 112 1 < 2147483647) (hD : 1 ≤ D) : vi_call GG D 341 [.inr (.inr 112)] (Y, M, nn) K ↔ K (some (.inl (M 114 294))) (Y, vi_rs (vi_rs M 114 (vi_u (M 114) 294 0)) 112 (vi_u (M 112) 1 (M 112 1 + 1)), nn) := by
  obtain ⟨D, rfl⟩ : ∃ k, D = k + 1 := ⟨D - 1, by omega⟩
  obtain ⟨R1, -, R3, -⟩ := y_112 hY (by omega)
  obtain ⟨w1, w2⟩ := y_114 hY (by omega)
  refine vi_k (r := some (.inl _)) fun Q hQ => ?_
  have e1 : vi_rs M 114 (vi_u (M 114) 294 0) 112 = M 112 := vi_rs_o (by omega)
  simp (disch := omega) only [Option.toList_some, Option.toList_none, List.nil_append, List.cons_append, List.append_nil, true_and, and_true, not_true_eq_false, not_false_eq_true, true_implies, false_implies, implies_true, and_self, Int.reduceLT, Int.reduceLE, Int.reduceEq, Int.reduceNe, Int.reduceAdd, Int.reduceSub, Int.reduceMul, Int.reduceNeg, Int.reduceToNat, Int.toNat_natCast, ↓kk_ck, ↓kk_im, ↓kk_in, e_341, s_341_0, s_341_4, s_341_8, s_341_13, s_341_18, s_341_23, s_341_28, R1, R3, w1, w2, vi_ms_rs, e1, @vi_32 (M 112 1 + 1) (by omega) (by omega)]
  exact hQ
theorem k_342 (hY : kY Y 151) (hB : mBx M) {s i : Nat} (hs : s < 8) (hH : mSw (M 114) s) (hi : i ≤ 6) (hD : 5 ≤ D) : vi_call GG D 342 [.inr (.inr 112), .inl (s : Int), .inl (i : Int)] (Y, M, nn) K ↔ K (some (.inl (scC (M 114) s i))) (Y, M, nn) := by
  obtain ⟨D, rfl⟩ : ∃ k, D = k + 1 := ⟨D - 1, by omega⟩
  obtain ⟨R1, -, R3, -⟩ := y_112 hY (by omega)
  obtain ⟨w1, w2⟩ := y_114 hY (by omega)
  obtain ⟨h1, h2, h3⟩ := hH
  obtain ⟨a, ha⟩ : ∃ a : Nat, M 114 (132 + 5 * s) = (a : Int) := ⟨(M 114 (132 + 5 * s)).toNat, by omega⟩
  refine vi_k (r := some (.inl _)) fun Q hQ => ?_
  unfold scC at hQ
  rw [ha, Int.toNat_natCast] at hQ
  have a0 : (132 + 5 * (s : Int)).toNat = 132 + 5 * s := by omega
  have a1 : (132 + 5 * (s : Int) + 1).toNat = 132 + 5 * s + 1 := by omega
  have a2 : (132 + 5 * (s : Int) + 2).toNat = 132 + 5 * s + 2 := by omega
  have a3 : (132 + 5 * (s : Int) + 3).toNat = 132 + 5 * s + 3 := by omega
  have a4 : (132 + 5 * (s : Int) + 4).toNat = 132 + 5 * s + 4 := by omega
  have A := fun {D : Nat} {K : Option vi_V → vi_W → Prop} (hD : 4 ≤ D) => @k_292 D K Y M nn hY hB a i (M 114 (132 + 5 * s + 1)) (M 114 (132 + 5 * s + 2)) (M 114 (132 + 5 * s + 3)) (M 114 (132 + 5 * s + 4)) 0 (by omega) h2 h3 (by omega) hi hD
  simp (disch := omega) only [Option.toList_some, Option.toList_none, List.nil_append, List.cons_append, List.append_nil, true_and, and_true, not_true_eq_false, not_false_eq_true, true_implies, false_implies, implies_true, and_self, Int.reduceLT, Int.reduceLE, Int.reduceEq, Int.reduceNe, Int.reduceAdd, Int.reduceSub, Int.reduceMul, Int.reduceNeg, Int.reduceToNat, Int.toNat_natCast, ↓kk_ck, ↓kk_im, ↓kk_in, e_342, s_342_0, s_342_5, s_342_12, s_342_13, s_342_17, s_342_26, s_342_27, s_342_31, s_342_40, s_342_41, s_342_45, s_342_54, s_342_55, s_342_59, s_342_68, s_342_69, s_342_74, R1, R3, w1, w2, vi_32, a0, a1, a2, a3, a4, ha, A]
  exact hQ
theorem k_345n (hY : kY Y 151) {a u x : Int} (h : ¬ ((0 ≤ a ∧ a ≤ 1) ∧ (0 ≤ u ∧ u ≤ 5) ∧ 0 ≤ x ∧ x ≤ 6)) (hc : 0 ≤ M 113 1 ∧ M 113 1 < 2147483647) (hD : 2 ≤ D) : vi_call GG D 345 [.inr (.inr 112), .inl a, .inl u, .inl x] (Y, M, nn) K ↔ K (some (.inl (-1))) (Y, vi_rs (vi_rs M 112 (vi_u (M 112) 0 (-1))) 113 (vi_u (M 113) 1 (M 113 1 + 1)), nn) := by
  obtain ⟨D, rfl⟩ : ∃ k, D = k + 1 := ⟨D - 1, by omega⟩
  obtain ⟨R1, -⟩ := y_112 hY (by omega)
  refine vi_k (r := some (.inl _)) fun Q hQ => ?_
  have A := fun {D : Nat} {K : Option vi_V → vi_W → Prop} (hD : 1 ≤ D) => @k_235 D K Y M nn hY (-1) (by omega) (by exact hc) hD
  by_cases h1 : 0 ≤ a ∧ a ≤ 1
  · by_cases h2 : 0 ≤ u ∧ u ≤ 5
    · have h4 : ¬ (0 ≤ x ∧ x ≤ 6) := fun k => h ⟨h1, h2, k⟩
      simp (disch := omega) only [Option.toList_some, Option.toList_none, List.nil_append, List.cons_append, List.append_nil, true_and, and_true, not_true_eq_false, not_false_eq_true, true_implies, false_implies, implies_true, and_self, Int.reduceLT, Int.reduceLE, Int.reduceEq, Int.reduceNe, Int.reduceAdd, Int.reduceSub, Int.reduceMul, Int.reduceNeg, Int.reduceToNat, Int.toNat_natCast, ↓kk_ck, ↓kk_im, ↓kk_in, e_345, s_345_0, s_345_6, s_345_9, s_345_15, s_345_18, s_345_25, s_345_28, s_345_33, R1, k_234t h1, k_234t h2, k_234f h4, A, ne_eq]
      exact hQ
    · simp (disch := omega) only [Option.toList_some, Option.toList_none, List.nil_append, List.cons_append, List.append_nil, true_and, and_true, not_true_eq_false, not_false_eq_true, true_implies, false_implies, implies_true, and_self, Int.reduceLT, Int.reduceLE, Int.reduceEq, Int.reduceNe, Int.reduceAdd, Int.reduceSub, Int.reduceMul, Int.reduceNeg, Int.reduceToNat, Int.toNat_natCast, ↓kk_ck, ↓kk_im, ↓kk_in, e_345, s_345_0, s_345_6, s_345_9, s_345_15, s_345_28, s_345_33, R1, k_234t h1, k_234f h2, A, ne_eq]
      exact hQ
  · simp (disch := omega) only [Option.toList_some, Option.toList_none, List.nil_append, List.cons_append, List.append_nil, true_and, and_true, not_true_eq_false, not_false_eq_true, true_implies, false_implies, implies_true, and_self, Int.reduceLT, Int.reduceLE, Int.reduceEq, Int.reduceNe, Int.reduceAdd, Int.reduceSub, Int.reduceMul, Int.reduceNeg, Int.reduceToNat, Int.toNat_natCast, ↓kk_ck, ↓kk_im, ↓kk_in, e_345, s_345_0, s_345_6, s_345_28, s_345_33, R1, k_234f h1, A, ne_eq]
    exact hQ
theorem k_345 (hY : kY Y 151) {a u x : Int} (h1 : 0 ≤ a ∧ a ≤ 1) (h2 : 0 ≤ u ∧ u ≤ 5) (h3 : 0 ≤ x ∧ x ≤ 6) (hc : 0 ≤ M 112 1 ∧ M 112 1 < 2147483647) (hD : 2 ≤ D) : vi_call GG D 345 [.inr (.inr 112), .inl a, .inl u, .inl x] (Y, M, nn) K ↔ K (some (.inl (M 114 (280 + 6 * a + u).toNat))) (Y, vi_rs (vi_rs M 114 (vi_u (M 114) (280 + 6 * a + u).toNat x)) 112 (vi_u (vi_u (M 112) 0 0) 1 (M 112 1 + 1)), nn) := by
  obtain ⟨D, rfl⟩ : ∃ k, D = k + 1 := ⟨D - 1, by omega⟩
  obtain ⟨R1, -, R3, -⟩ := y_112 hY (by omega)
  obtain ⟨w1, w2⟩ := y_114 hY (by omega)
  refine vi_k (r := some (.inl _)) fun Q hQ => ?_
  have ew : vi_w32 ((vi_w32 ((280 : Int) + (vi_w32 ((6 : Int) * a)))) + u) = 280 + 6 * a + u := by
    rw [@vi_32 (6 * a) (by omega) (by omega), @vi_32 (280 + 6 * a) (by omega) (by omega), vi_32 (by omega) (by omega)]
  obtain ⟨i, hi⟩ : ∃ i : Int, i = 280 + 6 * a + u := ⟨_, rfl⟩
  rw [← hi] at ew hQ
  have A := fun {D : Nat} {K : Option vi_V → vi_W → Prop} (hD : 1 ≤ D) => @k_236 D K Y (vi_rs M 114 (vi_u (M 114) i.toNat x)) nn hY (M 114 i.toNat) (by rw [vi_rs_o (by omega)]; exact hc) hD
  rw [vi_rs_o (by omega)] at A
  simp (disch := omega) only [Option.toList_some, Option.toList_none, List.nil_append, List.cons_append, List.append_nil, true_and, and_true, not_true_eq_false, not_false_eq_true, true_implies, false_implies, implies_true, and_self, Int.reduceLT, Int.reduceLE, Int.reduceEq, Int.reduceNe, Int.reduceAdd, Int.reduceSub, Int.reduceMul, Int.reduceNeg, Int.reduceToNat, Int.toNat_natCast, ↓kk_ck, ↓kk_im, ↓kk_in, e_345, s_345_0, s_345_6, s_345_9, s_345_15, s_345_18, s_345_25, s_345_34, s_345_50, s_345_53, s_345_59, s_345_63, s_345_69, R1, R3, w1, w2, k_234t h1, k_234t h2, k_234t h3, ew, vi_ms_rs, A, ne_eq]
  exact hQ
theorem k_349 (hY : kY Y 151) {c : Nat} (hc : c < 216) (hD : 1 ≤ D) : vi_call GG D 349 [.inr (.inr 112), .inl (c : Int)] (Y, M, nn) K ↔ K (some (.inl (vi_b (mB (M 126) c && !mB (M 127) c)))) (Y, M, nn) := by
  obtain ⟨D, rfl⟩ : ∃ k, D = k + 1 := ⟨D - 1, by omega⟩
  obtain ⟨R1, -, R3, -, -, -, -, -, -, -, -, -, -, R27, R28, R29, -⟩ := y_112 hY (by omega)
  obtain ⟨u1, u2⟩ := y_126 hY (by omega)
  obtain ⟨v1, v2⟩ := y_127 hY (by omega)
  refine vi_k (r := some (.inl _)) fun Q hQ => ?_
  by_cases q1 : M 126 c = 0
  · rw [mB_f q1] at hQ
    simp (disch := omega) only [Option.toList_some, Option.toList_none, List.nil_append, List.cons_append, List.append_nil, true_and, and_true, not_true_eq_false, not_false_eq_true, true_implies, false_implies, implies_true, and_self, Int.reduceLT, Int.reduceLE, Int.reduceEq, Int.reduceNe, Int.reduceAdd, Int.reduceSub, Int.reduceMul, Int.reduceNeg, Int.reduceToNat, Int.toNat_natCast, ↓kk_ck, ↓kk_im, ↓kk_in, e_349, s_349_0, s_349_4, s_349_6, s_349_22, s_349_23, R1, R28, u1, u2, Int.toNat_natCast, q1, ne_eq]
    exact hQ
  · rw [mB_t q1] at hQ
    by_cases q2 : M 127 c = 0
    · rw [mB_f q2] at hQ
      simp (disch := omega) only [Option.toList_some, Option.toList_none, List.nil_append, List.cons_append, List.append_nil, true_and, and_true, not_true_eq_false, not_false_eq_true, true_implies, false_implies, implies_true, and_self, Int.reduceLT, Int.reduceLE, Int.reduceEq, Int.reduceNe, Int.reduceAdd, Int.reduceSub, Int.reduceMul, Int.reduceNeg, Int.reduceToNat, Int.toNat_natCast, ↓kk_ck, ↓kk_im, ↓kk_in, e_349, s_349_0, s_349_4, s_349_6, s_349_9, s_349_13, s_349_15, s_349_18, s_349_23, R1, R28, R29, u1, u2, v1, v2, Int.toNat_natCast, q1, q2, ne_eq]
      exact hQ
    · rw [mB_t q2] at hQ
      simp (disch := omega) only [Option.toList_some, Option.toList_none, List.nil_append, List.cons_append, List.append_nil, true_and, and_true, not_true_eq_false, not_false_eq_true, true_implies, false_implies, implies_true, and_self, Int.reduceLT, Int.reduceLE, Int.reduceEq, Int.reduceNe, Int.reduceAdd, Int.reduceSub, Int.reduceMul, Int.reduceNeg, Int.reduceToNat, Int.toNat_natCast, ↓kk_ck, ↓kk_im, ↓kk_in, e_349, s_349_0, s_349_4, s_349_6, s_349_9, s_349_13, s_349_15, s_349_22, s_349_23, R1, R28, R29, u1, u2, v1, v2, Int.toNat_natCast, q1, q2, ne_eq]
      exact hQ
theorem k_351 (hY : kY Y 151) {m : Int} (hm : 1 ≤ m ∧ m ≤ 6) (hs : 0 ≤ M 112 63 ∧ M 112 63 ≤ 1000003) (hD : 1 ≤ D) : vi_call GG D 351 [.inr (.inr 112), .inl m] (Y, M, nn) K ↔ K (some (.inl (dwS (M 112 63) % m))) (Y, vi_rs M 112 (vi_u (M 112) 63 (dwS (M 112 63))), nn) := by
  obtain ⟨D, rfl⟩ : ∃ k, D = k + 1 := ⟨D - 1, by omega⟩
  obtain ⟨R1, -⟩ := y_112 hY (by omega)
  refine vi_k (r := some (.inl _)) fun Q hQ => ?_
  have e1 : vi_w32 ((vi_w64 ((vi_w64 ((1103 : Int) * M 112 63)) + (12345 : Int))).tmod (1000003 : Int)) = dwS (M 112 63) := by
    unfold dwS
    rw [@vi_64 (1103 * M 112 63) (by omega) (by omega), @vi_64 (1103 * M 112 63 + 12345) (by omega) (by omega), Int.tmod_eq_emod_of_nonneg (by omega), vi_32 (by omega) (by omega), Int.mul_comm]
  have e2 : (dwS (M 112 63)).tmod m = dwS (M 112 63) % m := by
    refine Int.tmod_eq_emod_of_nonneg ?_
    unfold dwS
    omega
  have hm0 : ¬ m = 0 := by omega
  simp (disch := omega) only [Option.toList_some, Option.toList_none, List.nil_append, List.cons_append, List.append_nil, true_and, and_true, not_true_eq_false, not_false_eq_true, true_implies, false_implies, implies_true, and_self, Int.reduceLT, Int.reduceLE, Int.reduceEq, Int.reduceNe, Int.reduceAdd, Int.reduceSub, Int.reduceMul, Int.reduceNeg, Int.reduceToNat, Int.toNat_natCast, ↓kk_ck, ↓kk_im, ↓kk_in, e_351, s_351_0, s_351_8, s_351_22, s_351_26, s_351_28, R1, e1, vi_ms_rs, vi_rs_s, vi_u_s, hm0, e2]
  exact hQ
theorem k_353 (hY : kY Y 151) {i : Int} {m : Nat} (hm : m ≤ 60) (h62 : M 112 62 = (m : Int)) (hD : 2 ≤ D) : vi_call GG D 353 [.inr (.inr 112), .inl i] (Y, M, nn) K ↔ K (some (.inl (if 0 ≤ i ∧ i < (m : Int) then M 150 i.toNat else -1))) (Y, M, nn) := by
  obtain ⟨D, rfl⟩ : ∃ k, D = k + 1 := ⟨D - 1, by omega⟩
  obtain ⟨R1, -, -, -, -, -, -, -, -, -, -, -, -, -, -, -, -, -, -, -, -, -, -, -, -, -, -, -, -, -, -, -, -, -, -, -, -, -, R61⟩ := y_112 hY (by omega)
  obtain ⟨p1, p2⟩ := y_150 hY (by omega)
  refine vi_k (r := some (.inl _)) fun Q hQ => ?_
  by_cases h : 0 ≤ i ∧ i ≤ (m : Int) - 1
  · rw [if_pos (by omega)] at hQ
    simp (disch := omega) only [Option.toList_some, Option.toList_none, List.nil_append, List.cons_append, List.append_nil, true_and, and_true, not_true_eq_false, not_false_eq_true, true_implies, false_implies, implies_true, and_self, Int.reduceLT, Int.reduceLE, Int.reduceEq, Int.reduceNe, Int.reduceAdd, Int.reduceSub, Int.reduceMul, Int.reduceNeg, Int.reduceToNat, Int.toNat_natCast, ↓kk_ck, ↓kk_im, ↓kk_in, e_353, s_353_0, s_353_6, s_353_11, s_353_14, s_353_18, s_353_20, s_353_24, R1, R61, p1, p2, h62, @vi_32 ((m : Int) - 1) (by omega) (by omega), k_234t h, ne_eq]
    exact hQ
  · rw [if_neg (by omega)] at hQ
    simp (disch := omega) only [Option.toList_some, Option.toList_none, List.nil_append, List.cons_append, List.append_nil, true_and, and_true, not_true_eq_false, not_false_eq_true, true_implies, false_implies, implies_true, and_self, Int.reduceLT, Int.reduceLE, Int.reduceEq, Int.reduceNe, Int.reduceAdd, Int.reduceSub, Int.reduceMul, Int.reduceNeg, Int.reduceToNat, Int.toNat_natCast, ↓kk_ck, ↓kk_im, ↓kk_in, e_353, s_353_0, s_353_6, s_353_11, s_353_23, s_353_24, R1, h62, @vi_32 ((m : Int) - 1) (by omega) (by omega), k_234f h, ne_eq]
    exact hQ
theorem k_354 (hY : kY Y 151) {w : Int} (hD : 1 ≤ D) : vi_call GG D 354 [.inr (.inr 112), .inl w] (Y, M, nn) K ↔ K (some (.inl (cnT M w))) (Y, M, nn) := by
  obtain ⟨D, rfl⟩ : ∃ k, D = k + 1 := ⟨D - 1, by omega⟩
  obtain ⟨R1, R2, R3, -⟩ := y_112 hY (by omega)
  obtain ⟨w1, w2⟩ := y_114 hY (by omega)
  obtain ⟨v1, v2⟩ := y_113 hY (by omega)
  refine vi_k (r := some (.inl _)) fun Q hQ => ?_
  unfold cnT at hQ
  by_cases h : 0 ≤ w ∧ w ≤ 14
  · obtain h | h | h | h | h | h | h | h | h | h | h | h | h | h | h : w = 0 ∨ w = 1 ∨ w = 2 ∨ w = 3 ∨ w = 4 ∨ w = 5 ∨ w = 6 ∨ w = 7 ∨ w = 8 ∨ w = 9 ∨ w = 10 ∨ w = 11 ∨ w = 12 ∨ w = 13 ∨ w = 14 := by omega
    all_goals
      subst h
      simp only [if_true, if_false, Int.reduceEq] at hQ
      simp (disch := omega) only [Option.toList_some, Option.toList_none, List.nil_append, List.cons_append, List.append_nil, true_and, and_true, not_true_eq_false, not_false_eq_true, true_implies, false_implies, implies_true, and_self, Int.reduceLT, Int.reduceLE, Int.reduceEq, Int.reduceNe, Int.reduceAdd, Int.reduceSub, Int.reduceMul, Int.reduceNeg, Int.reduceToNat, Int.toNat_natCast, ↓kk_ck, ↓kk_im, ↓kk_in, e_354, s_354_0, s_354_76, s_354_86, s_354_95, s_354_104, s_354_113, s_354_122, s_354_127, s_354_137, s_354_144, s_354_152, s_354_161, s_354_169, s_354_80, s_354_90, s_354_99, s_354_108, s_354_117, s_354_126, s_354_131, s_354_141, s_354_148, s_354_156, s_354_165, s_354_84, s_354_94, s_354_103, s_354_112, s_354_121, s_354_135, s_354_143, s_354_151, s_354_160, s_354_168, s_354_85, s_354_136, vi_swp, R1, R2, R3, v1, v2, w1, w2, vi_32]
      exact hQ
  · have g0 : ¬ w = 0 := by omega
    have g1 : ¬ w = 1 := by omega
    have g2 : ¬ w = 2 := by omega
    have g3 : ¬ w = 3 := by omega
    have g4 : ¬ w = 4 := by omega
    have g5 : ¬ w = 5 := by omega
    have g6 : ¬ w = 6 := by omega
    have g7 : ¬ w = 7 := by omega
    have g8 : ¬ w = 8 := by omega
    have g9 : ¬ w = 9 := by omega
    have g10 : ¬ w = 10 := by omega
    have g11 : ¬ w = 11 := by omega
    have g12 : ¬ w = 12 := by omega
    have g13 : ¬ w = 13 := by omega
    have g14 : ¬ w = 14 := by omega
    rw [if_neg g0, if_neg g1, if_neg g2, if_neg g3, if_neg g4, if_neg g5, if_neg g6, if_neg g7, if_neg g8, if_neg g9, if_neg g10, if_neg g11, if_neg g12, if_neg g13, if_neg g14] at hQ
    simp (disch := omega) only [Option.toList_some, Option.toList_none, List.nil_append, List.cons_append, List.append_nil, true_and, and_true, not_true_eq_false, not_false_eq_true, true_implies, false_implies, implies_true, and_self, Int.reduceLT, Int.reduceLE, Int.reduceEq, Int.reduceNe, Int.reduceAdd, Int.reduceSub, Int.reduceMul, Int.reduceNeg, Int.reduceToNat, Int.toNat_natCast, ↓kk_ck, ↓kk_im, ↓kk_in, e_354, s_354_0, s_354_76, s_354_86, s_354_95, s_354_104, s_354_113, s_354_122, s_354_127, s_354_137, s_354_144, s_354_152, s_354_161, s_354_169, s_354_80, s_354_90, s_354_99, s_354_108, s_354_117, s_354_126, s_354_131, s_354_141, s_354_148, s_354_156, s_354_165, s_354_84, s_354_94, s_354_103, s_354_112, s_354_121, s_354_135, s_354_143, s_354_151, s_354_160, s_354_168, s_354_85, s_354_136, vi_swp, g0, g1, g2, g3, g4, g5, g6, g7, g8, g9, g10, g11, g12, g13, g14]
    exact hQ
theorem k_355 (hY : kY Y 151) (hD : 1 ≤ D) : vi_call GG D 355 [.inr (.inr 112)] (Y, M, nn) K ↔ K (some (.inl (M 112 0))) (Y, M, nn) := by
  obtain ⟨D, rfl⟩ : ∃ k, D = k + 1 := ⟨D - 1, by omega⟩
  obtain ⟨R1, -⟩ := y_112 hY (by omega)
  refine vi_k (r := some (.inl _)) fun Q hQ => ?_
  simp (disch := omega) only [Option.toList_some, Option.toList_none, List.nil_append, List.cons_append, List.append_nil, true_and, and_true, not_true_eq_false, not_false_eq_true, true_implies, false_implies, implies_true, and_self, Int.reduceLT, Int.reduceLE, Int.reduceEq, Int.reduceNe, Int.reduceAdd, Int.reduceSub, Int.reduceMul, Int.reduceNeg, Int.reduceToNat, Int.toNat_natCast, ↓kk_ck, ↓kk_im, ↓kk_in, e_355, s_355_0, s_355_4, R1]
  exact hQ
end
