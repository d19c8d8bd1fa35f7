/-! Contracts of the reference, seventh part: small ones. -/
def mAl (c a : Int) : Int := if a = 0 then c % 6 else if a = 1 then c / 6 % 6 else c / 36
/-- the box's sizes -/
def mBx (M : vi_M) : Prop := (1 ≤ M 114 96 ∧ M 114 96 ≤ 6) ∧ (1 ≤ M 114 97 ∧ M 114 97 ≤ 6) ∧ (1 ≤ M 114 98 ∧ M 114 98 ≤ 6)
def mIc (M : vi_M) (c : Int) : Prop := 0 ≤ c ∧ c ≤ 215 ∧ c % 6 < M 114 96 ∧ c / 6 % 6 < M 114 97 ∧ c / 36 < M 114 98
def mIp (M : vi_M) (a u v : Int) : Prop := 0 ≤ a ∧ a ≤ 2 ∧ 0 ≤ u ∧ u < M 114 (if a = 0 then 97 else 96) ∧ 0 ≤ v ∧ v < M 114 (if a = 2 then 97 else 98)
/-- the neighbour by direction (0, 1 along x; 2, 3 along y; 4, 5 along z), or -1 -/
def mBe (M : vi_M) (c : Int) (d : Nat) : Int := if d % 2 = 0 then (if mAl c ((d / 2 : Nat) : Int) = 0 then -1 else c - (if d = 0 then 1 else if d = 2 then 6 else 36)) else (if M 114 (96 + d / 2) ≤ mAl c ((d / 2 : Nat) : Int) + 1 then -1 else c + (if d = 1 then 1 else if d = 3 then 6 else 36))
section
variable {D : Nat} {K : Option vi_V → vi_W → Prop} {Y : vi_Y} {M : vi_M} {nn : Nat × Nat}
theorem k_234t {x a b : Int} {w : vi_W} (h : a ≤ x ∧ x ≤ b) (hD : 1 ≤ D) : vi_call GG D 234 [.inl x, .inl a, .inl b] w K ↔ K (some (.inl 1)) w := by
  obtain ⟨D, rfl⟩ : ∃ k, D = k + 1 := ⟨D - 1, by omega⟩
  obtain ⟨Y, M, n⟩ := w
  refine vi_k (r := some (.inl _)) fun Q hQ => ?_
  simp (disch := omega) only [Option.toList_some, Option.toList_none, List.nil_append, List.cons_append, List.append_nil, true_and, and_true, not_true_eq_false, not_false_eq_true, true_implies, false_implies, implies_true, and_self, Int.reduceLT, Int.reduceLE, Int.reduceEq, Int.reduceNe, Int.reduceAdd, Int.reduceSub, Int.reduceMul, Int.reduceNeg, Int.reduceToNat, Int.toNat_natCast, ↓kk_ck, ↓kk_im, ↓kk_in, e_234, s_234_0, s_234_5, s_234_10, s_234_14, s_234_15]
  exact hQ
theorem k_234f {x a b : Int} {w : vi_W} (h : ¬ (a ≤ x ∧ x ≤ b)) (hD : 1 ≤ D) : vi_call GG D 234 [.inl x, .inl a, .inl b] w K ↔ K (some (.inl 0)) w := by
  obtain ⟨D, rfl⟩ : ∃ k, D = k + 1 := ⟨D - 1, by omega⟩
  obtain ⟨Y, M, n⟩ := w
  refine vi_k (r := some (.inl _)) fun Q hQ => ?_
  by_cases h1 : x < a
  · simp (disch := omega) only [Option.toList_some, Option.toList_none, List.nil_append, List.cons_append, List.append_nil, true_and, and_true, not_true_eq_false, not_false_eq_true, true_implies, false_implies, implies_true, and_self, Int.reduceLT, Int.reduceLE, Int.reduceEq, Int.reduceNe, Int.reduceAdd, Int.reduceSub, Int.reduceMul, Int.reduceNeg, Int.reduceToNat, Int.toNat_natCast, ↓kk_ck, ↓kk_im, ↓kk_in, e_234, s_234_0, s_234_5, s_234_10, s_234_14, s_234_15]
    exact hQ
  · have h2 : b < x := by omega
    simp (disch := omega) only [Option.toList_some, Option.toList_none, List.nil_append, List.cons_append, List.append_nil, true_and, and_true, not_true_eq_false, not_false_eq_true, true_implies, false_implies, implies_true, and_self, Int.reduceLT, Int.reduceLE, Int.reduceEq, Int.reduceNe, Int.reduceAdd, Int.reduceSub, Int.reduceMul, Int.reduceNeg, Int.reduceToNat, Int.toNat_natCast, ↓kk_ck, ↓kk_im, ↓kk_in, e_234, s_234_0, s_234_5, s_234_10, s_234_14, s_234_15]
    exact hQ
theorem k_235 (hY : kY Y 151) {r : Int} (hr : -6 ≤ r ∧ r ≤ -1) (hc : 0 ≤ M 113 (-r).toNat ∧ M 113 (-r).toNat < 2147483647) (hD : 1 ≤ D) : vi_call GG D 235 [.inr (.inr 112), .inl r] (Y, M, nn) K ↔ K (some (.inl r)) (Y, vi_rs (vi_rs M 112 (vi_u (M 112) 0 r)) 113 (vi_u (M 113) (-r).toNat (M 113 (-r).toNat + 1)), nn) := by
  obtain ⟨D, rfl⟩ : ∃ k, D = k + 1 := ⟨D - 1, by omega⟩
  obtain ⟨R1, R2, -⟩ := y_112 hY (by omega)
  obtain ⟨w1, w2⟩ := y_113 hY (by omega)
  refine vi_k (r := some (.inl _)) fun Q hQ => ?_
  simp (disch := omega) only [Option.toList_some, Option.toList_none, List.nil_append, List.cons_append, List.append_nil, true_and, and_true, not_true_eq_false, not_false_eq_true, true_implies, false_implies, implies_true, and_self, Int.reduceLT, Int.reduceLE, Int.reduceEq, Int.reduceNe, Int.reduceAdd, Int.reduceSub, Int.reduceMul, Int.reduceNeg, Int.reduceToNat, Int.toNat_natCast, ↓kk_ck, ↓kk_im, ↓kk_in, e_235, s_235_0, s_235_5, s_235_9, s_235_12, s_235_13, s_235_16, R1, R2, w1, w2, vi_32, vi_ms_rs, vi_rs_o]
  exact hQ
theorem k_236 (hY : kY Y 151) {r : Int} (hc : 0 ≤ M 112 1 ∧ M 112 1 < 2147483647) (hD : 1 ≤ D) : vi_call GG D 236 [.inr (.inr 112), .inl r] (Y, M, nn) K ↔ K (some (.inl r)) (Y, vi_rs M 112 (vi_u (vi_u (M 112) 0 0) 1 (M 112 1 + 1)), nn) := by
  obtain ⟨D, rfl⟩ : ∃ k, D = k + 1 := ⟨D - 1, by omega⟩
  obtain ⟨R1, -⟩ := y_112 hY (by omega)
  refine vi_k (r := some (.inl _)) fun Q hQ => ?_
  have e : vi_u (M 112) 0 0 1 = M 112 1 := rfl
  simp (disch := omega) only [Option.toList_some, Option.toList_none, List.nil_append, List.cons_append, List.append_nil, true_and, and_true, not_true_eq_false, not_false_eq_true, true_implies, false_implies, implies_true, and_self, Int.reduceLT, Int.reduceLE, Int.reduceEq, Int.reduceNe, Int.reduceAdd, Int.reduceSub, Int.reduceMul, Int.reduceNeg, Int.reduceToNat, Int.toNat_natCast, ↓kk_ck, ↓kk_im, ↓kk_in, e_236, s_236_0, s_236_5, s_236_10, s_236_15, R1, vi_ms_rs, vi_rs_s, vi_rs_rs, e, vi_32]
  exact hQ
theorem k_241 (hY : kY Y 151) {a : Nat} (ha : a < 3) (hD : 1 ≤ D) : vi_call GG D 241 [.inr (.inr 112), .inl (a : Int)] (Y, M, nn) K ↔ K (some (.inl (M 114 (96 + a)))) (Y, M, nn) := by
  obtain ⟨D, rfl⟩ : ∃ k, D = k + 1 := ⟨D - 1, by omega⟩
  obtain ⟨R1, -, R3, -⟩ := y_112 hY (by omega)
  obtain ⟨w1, w2⟩ := y_114 hY (by omega)
  refine vi_k (r := some (.inl _)) fun Q hQ => ?_
  have e : (96 + (a : Int)).toNat = 96 + a := by omega
  simp (disch := omega) only [Option.toList_some, Option.toList_none, List.nil_append, List.cons_append, List.append_nil, true_and, and_true, not_true_eq_false, not_false_eq_true, true_implies, false_implies, implies_true, and_self, Int.reduceLT, Int.reduceLE, Int.reduceEq, Int.reduceNe, Int.reduceAdd, Int.reduceSub, Int.reduceMul, Int.reduceNeg, Int.reduceToNat, Int.toNat_natCast, ↓kk_ck, ↓kk_im, ↓kk_in, e_241, s_241_0, s_241_4, s_241_8, s_241_9, R1, R3, w1, w2, vi_32, e]
  exact hQ
theorem k_2410_0 (hY : kY Y 151) (hD : 1 ≤ D) : vi_call GG D 241 [.inr (.inr 112), .inl 0] (Y, M, nn) K ↔ K (some (.inl (M 114 96))) (Y, M, nn) := k_241 hY (a := 0) (by omega) hD
theorem k_2410_1 (hY : kY Y 151) (hD : 1 ≤ D) : vi_call GG D 241 [.inr (.inr 112), .inl 1] (Y, M, nn) K ↔ K (some (.inl (M 114 97))) (Y, M, nn) := k_241 hY (a := 1) (by omega) hD
theorem k_2410_2 (hY : kY Y 151) (hD : 1 ≤ D) : vi_call GG D 241 [.inr (.inr 112), .inl 2] (Y, M, nn) K ↔ K (some (.inl (M 114 98))) (Y, M, nn) := k_241 hY (a := 2) (by omega) hD
theorem k_242 (hY : kY Y 151) {a : Int} (hD : 2 ≤ D) : vi_call GG D 242 [.inr (.inr 112), .inl a] (Y, M, nn) K ↔ K (some (.inl (M 114 (if a = 0 then 97 else 96)))) (Y, M, nn) := by
  obtain ⟨D, rfl⟩ : ∃ k, D = k + 1 := ⟨D - 1, by omega⟩
  obtain ⟨R1, -⟩ := y_112 hY (by omega)
  refine vi_k (r := some (.inl _)) fun Q hQ => ?_
  have A := fun {D : Nat} {K : Option vi_V → vi_W → Prop} (hD : 1 ≤ D) => @k_241 D K Y M nn hY 0 (by omega) hD
  have B := fun {D : Nat} {K : Option vi_V → vi_W → Prop} (hD : 1 ≤ D) => @k_241 D K Y M nn hY 1 (by omega) hD
  by_cases h : a = 0
  · rw [if_pos h] at hQ
    simp (disch := omega) only [Option.toList_some, Option.toList_none, List.nil_append, List.cons_append, List.append_nil, true_and, and_true, not_true_eq_false, not_false_eq_true, true_implies, false_implies, implies_true, and_self, Int.reduceLT, Int.reduceLE, Int.reduceEq, Int.reduceNe, Int.reduceAdd, Int.reduceSub, Int.reduceMul, Int.reduceNeg, Int.reduceToNat, Int.toNat_natCast, ↓kk_ck, ↓kk_im, ↓kk_in, e_242, s_242_0, s_242_4, s_242_12, s_242_17, s_242_9, R1, ne_eq, h, show (1 : Int) = ((1 : Nat) : Int) from rfl, B]
    exact hQ
  · rw [if_neg h] at hQ
    simp (disch := omega) only [Option.toList_some, Option.toList_none, List.nil_append, List.cons_append, List.append_nil, true_and, and_true, not_true_eq_false, not_false_eq_true, true_implies, false_implies, implies_true, and_self, Int.reduceLT, Int.reduceLE, Int.reduceEq, Int.reduceNe, Int.reduceAdd, Int.reduceSub, Int.reduceMul, Int.reduceNeg, Int.reduceToNat, Int.toNat_natCast, ↓kk_ck, ↓kk_im, ↓kk_in, e_242, s_242_0, s_242_4, s_242_12, s_242_17, s_242_9, R1, ne_eq, h, show (0 : Int) = ((0 : Nat) : Int) from rfl, A]
    exact hQ
theorem k_243 (hY : kY Y 151) {a : Int} (hD : 2 ≤ D) : vi_call GG D 243 [.inr (.inr 112), .inl a] (Y, M, nn) K ↔ K (some (.inl (M 114 (if a = 2 then 97 else 98)))) (Y, M, nn) := by
  obtain ⟨D, rfl⟩ : ∃ k, D = k + 1 := ⟨D - 1, by omega⟩
  obtain ⟨R1, -⟩ := y_112 hY (by omega)
  refine vi_k (r := some (.inl _)) fun Q hQ => ?_
  have A := fun {D : Nat} {K : Option vi_V → vi_W → Prop} (hD : 1 ≤ D) => @k_241 D K Y M nn hY 2 (by omega) hD
  have B := fun {D : Nat} {K : Option vi_V → vi_W → Prop} (hD : 1 ≤ D) => @k_241 D K Y M nn hY 1 (by omega) hD
  by_cases h : a = 2
  · rw [if_pos h] at hQ
    simp (disch := omega) only [Option.toList_some, Option.toList_none, List.nil_append, List.cons_append, List.append_nil, true_and, and_true, not_true_eq_false, not_false_eq_true, true_implies, false_implies, implies_true, and_self, Int.reduceLT, Int.reduceLE, Int.reduceEq, Int.reduceNe, Int.reduceAdd, Int.reduceSub, Int.reduceMul, Int.reduceNeg, Int.reduceToNat, Int.toNat_natCast, ↓kk_ck, ↓kk_im, ↓kk_in, e_243, s_243_0, s_243_5, s_243_13, s_243_18, s_243_10, R1, ne_eq, h, show (1 : Int) = ((1 : Nat) : Int) from rfl, B]
    exact hQ
  · rw [if_neg h] at hQ
    simp (disch := omega) only [Option.toList_some, Option.toList_none, List.nil_append, List.cons_append, List.append_nil, true_and, and_true, not_true_eq_false, not_false_eq_true, true_implies, false_implies, implies_true, and_self, Int.reduceLT, Int.reduceLE, Int.reduceEq, Int.reduceNe, Int.reduceAdd, Int.reduceSub, Int.reduceMul, Int.reduceNeg, Int.reduceToNat, Int.toNat_natCast, ↓kk_ck, ↓kk_im, ↓kk_in, e_243, s_243_0, s_243_5, s_243_13, s_243_18, s_243_10, R1, ne_eq, h, show (2 : Int) = ((2 : Nat) : Int) from rfl, A]
    exact hQ
theorem k_244 {a u v w : Int} {x : vi_W} (hu : 0 ≤ u ∧ u < 6) (hv : 0 ≤ v ∧ v < 6) (hw : 0 ≤ w ∧ w < 6) (hD : 1 ≤ D) : vi_call GG D 244 [.inl a, .inl u, .inl v, .inl w] x K ↔ K (some (.inl (if a = 0 then 36 * v + 6 * u + w else if a = 1 then 36 * v + 6 * w + u else 36 * w + 6 * v + u))) x := by
  obtain ⟨D, rfl⟩ : ∃ k, D = k + 1 := ⟨D - 1, by omega⟩
  obtain ⟨Y, M, n⟩ := x
  refine vi_k (r := some (.inl _)) fun Q hQ => ?_
  by_cases h : a = 0
  · rw [if_pos h] at hQ
    simp (disch := omega) only [Option.toList_some, Option.toList_none, List.nil_append, List.cons_append, List.append_nil, true_and, and_true, not_true_eq_false, not_false_eq_true, true_implies, false_implies, implies_true, and_self, Int.reduceLT, Int.reduceLE, Int.reduceEq, Int.reduceNe, Int.reduceAdd, Int.reduceSub, Int.reduceMul, Int.reduceNeg, Int.reduceToNat, Int.toNat_natCast, ↓kk_ck, ↓kk_im, ↓kk_in, e_244, s_244_0, s_244_4, s_244_18, s_244_23, s_244_37, s_244_48, ne_eq, h, vi_32]
    exact hQ
  · rw [if_neg h] at hQ
    by_cases h1 : a = 1
    · rw [if_pos h1] at hQ
      simp (disch := omega) only [Option.toList_some, Option.toList_none, List.nil_append, List.cons_append, List.append_nil, true_and, and_true, not_true_eq_false, not_false_eq_true, true_implies, false_implies, implies_true, and_self, Int.reduceLT, Int.reduceLE, Int.reduceEq, Int.reduceNe, Int.reduceAdd, Int.reduceSub, Int.reduceMul, Int.reduceNeg, Int.reduceToNat, Int.toNat_natCast, ↓kk_ck, ↓kk_im, ↓kk_in, e_244, s_244_0, s_244_4, s_244_18, s_244_23, s_244_37, s_244_48, ne_eq, h1, vi_32]
      exact hQ
    · rw [if_neg h1] at hQ
      simp (disch := omega) only [Option.toList_some, Option.toList_none, List.nil_append, List.cons_append, List.append_nil, true_and, and_true, not_true_eq_false, not_false_eq_true, true_implies, false_implies, implies_true, and_self, Int.reduceLT, Int.reduceLE, Int.reduceEq, Int.reduceNe, Int.reduceAdd, Int.reduceSub, Int.reduceMul, Int.reduceNeg, Int.reduceToNat, Int.toNat_natCast, ↓kk_ck, ↓kk_im, ↓kk_in, e_244, s_244_0, s_244_4, s_244_18, s_244_23, s_244_37, s_244_48, ne_eq, h, h1, vi_32]
      exact hQ
theorem k_245 {c a : Int} {x : vi_W} (hc : 0 ≤ c ∧ c < 216) (hD : 1 ≤ D) : vi_call GG D 245 [.inl c, .inl a] x K ↔ K (some (.inl (mAl c a))) x := by
  obtain ⟨D, rfl⟩ : ∃ k, D = k + 1 := ⟨D - 1, by omega⟩
  obtain ⟨Y, M, n⟩ := x
  refine vi_k (r := some (.inl _)) fun Q hQ => ?_
  unfold mAl at hQ
  by_cases h : a = 0
  · rw [if_pos h] at hQ
    simp (disch := omega) only [Option.toList_some, Option.toList_none, List.nil_append, List.cons_append, List.append_nil, true_and, and_true, not_true_eq_false, not_false_eq_true, true_implies, false_implies, implies_true, and_self, Int.reduceLT, Int.reduceLE, Int.reduceEq, Int.reduceNe, Int.reduceAdd, Int.reduceSub, Int.reduceMul, Int.reduceNeg, Int.reduceToNat, Int.toNat_natCast, ↓kk_ck, ↓kk_im, ↓kk_in, e_245, s_245_0, s_245_4, s_245_11, s_245_16, s_245_26, s_245_30, ne_eq, h, vi_tm]
    exact hQ
  · rw [if_neg h] at hQ
    by_cases h1 : a = 1
    · rw [if_pos h1] at hQ
      simp (disch := omega) only [Option.toList_some, Option.toList_none, List.nil_append, List.cons_append, List.append_nil, true_and, and_true, not_true_eq_false, not_false_eq_true, true_implies, false_implies, implies_true, and_self, Int.reduceLT, Int.reduceLE, Int.reduceEq, Int.reduceNe, Int.reduceAdd, Int.reduceSub, Int.reduceMul, Int.reduceNeg, Int.reduceToNat, Int.toNat_natCast, ↓kk_ck, ↓kk_im, ↓kk_in, e_245, s_245_0, s_245_4, s_245_11, s_245_16, s_245_26, s_245_30, ne_eq, h1, vi_tm, vi_td, vi_32]
      exact hQ
    · rw [if_neg h1] at hQ
      simp (disch := omega) only [Option.toList_some, Option.toList_none, List.nil_append, List.cons_append, List.append_nil, true_and, and_true, not_true_eq_false, not_false_eq_true, true_implies, false_implies, implies_true, and_self, Int.reduceLT, Int.reduceLE, Int.reduceEq, Int.reduceNe, Int.reduceAdd, Int.reduceSub, Int.reduceMul, Int.reduceNeg, Int.reduceToNat, Int.toNat_natCast, ↓kk_ck, ↓kk_im, ↓kk_in, e_245, s_245_0, s_245_4, s_245_11, s_245_16, s_245_26, s_245_30, ne_eq, h, h1, vi_tm, vi_td, vi_32]
      exact hQ
theorem k_246t (hY : kY Y 151) {c : Int} (h : mIc M c) (hD : 2 ≤ D) : vi_call GG D 246 [.inr (.inr 112), .inl c] (Y, M, nn) K ↔ K (some (.inl 1)) (Y, M, nn) := by
  obtain ⟨D, rfl⟩ : ∃ k, D = k + 1 := ⟨D - 1, by omega⟩
  obtain ⟨R1, -⟩ := y_112 hY (by omega)
  obtain ⟨h0, h1, h2, h3, h4⟩ := h
  have A0 := fun {D : Nat} {K : Option vi_V → vi_W → Prop} (hD : 1 ≤ D) => @k_2410_0 D K Y M nn hY hD
  have A1 := fun {D : Nat} {K : Option vi_V → vi_W → Prop} (hD : 1 ≤ D) => @k_2410_1 D K Y M nn hY hD
  have A2 := fun {D : Nat} {K : Option vi_V → vi_W → Prop} (hD : 1 ≤ D) => @k_2410_2 D K Y M nn hY hD
  have m0 : mAl c 0 = c % 6 := rfl
  have m1 : mAl c 1 = c / 6 % 6 := rfl
  have m2 : mAl c 2 = c / 36 := rfl
  refine vi_k (r := some (.inl _)) fun Q hQ => ?_
  simp (disch := omega) only [Option.toList_some, Option.toList_none, List.nil_append, List.cons_append, List.append_nil, true_and, and_true, not_true_eq_false, not_false_eq_true, true_implies, false_implies, implies_true, and_self, Int.reduceLT, Int.reduceLE, Int.reduceEq, Int.reduceNe, Int.reduceAdd, Int.reduceSub, Int.reduceMul, Int.reduceNeg, Int.reduceToNat, Int.toNat_natCast, ↓kk_ck, ↓kk_im, ↓kk_in, e_246, s_246_0, s_246_11, s_246_24, s_246_37, s_246_50, s_246_54, s_246_55, s_246_8, s_246_16, s_246_29, s_246_42, s_246_21, s_246_34, s_246_47, R1, k_234t, k_245, A0, A1, A2, m0, m1, m2]
  exact hQ
theorem k_246f (hY : kY Y 151) {c : Int} (h : ¬ mIc M c) (hD : 2 ≤ D) : vi_call GG D 246 [.inr (.inr 112), .inl c] (Y, M, nn) K ↔ K (some (.inl 0)) (Y, M, nn) := by
  obtain ⟨D, rfl⟩ : ∃ k, D = k + 1 := ⟨D - 1, by omega⟩
  obtain ⟨R1, -⟩ := y_112 hY (by omega)
  have A0 := fun {D : Nat} {K : Option vi_V → vi_W → Prop} (hD : 1 ≤ D) => @k_2410_0 D K Y M nn hY hD
  have A1 := fun {D : Nat} {K : Option vi_V → vi_W → Prop} (hD : 1 ≤ D) => @k_2410_1 D K Y M nn hY hD
  have A2 := fun {D : Nat} {K : Option vi_V → vi_W → Prop} (hD : 1 ≤ D) => @k_2410_2 D K Y M nn hY hD
  have m0 : mAl c 0 = c % 6 := rfl
  have m1 : mAl c 1 = c / 6 % 6 := rfl
  have m2 : mAl c 2 = c / 36 := rfl
  refine vi_k (r := some (.inl _)) fun Q hQ => ?_
  by_cases q0 : 0 ≤ c ∧ c ≤ 215
  · by_cases q1 : c % 6 < M 114 96
    · by_cases q2 : c / 6 % 6 < M 114 97
      · have q3 : ¬ c / 36 < M 114 98 := fun q => h ⟨q0.1, q0.2, q1, q2, q⟩
        simp (disch := omega) only [Option.toList_some, Option.toList_none, List.nil_append, List.cons_append, List.append_nil, true_and, and_true, not_true_eq_false, not_false_eq_true, true_implies, false_implies, implies_true, and_self, Int.reduceLT, Int.reduceLE, Int.reduceEq, Int.reduceNe, Int.reduceAdd, Int.reduceSub, Int.reduceMul, Int.reduceNeg, Int.reduceToNat, Int.toNat_natCast, ↓kk_ck, ↓kk_im, ↓kk_in, e_246, s_246_0, s_246_11, s_246_24, s_246_37, s_246_50, s_246_54, s_246_55, s_246_8, s_246_16, s_246_29, s_246_42, s_246_21, s_246_34, s_246_47, R1, k_234t, k_245, A0, A1, A2, m0, m1, m2]
        exact hQ
      · simp (disch := omega) only [Option.toList_some, Option.toList_none, List.nil_append, List.cons_append, List.append_nil, true_and, and_true, not_true_eq_false, not_false_eq_true, true_implies, false_implies, implies_true, and_self, Int.reduceLT, Int.reduceLE, Int.reduceEq, Int.reduceNe, Int.reduceAdd, Int.reduceSub, Int.reduceMul, Int.reduceNeg, Int.reduceToNat, Int.toNat_natCast, ↓kk_ck, ↓kk_im, ↓kk_in, e_246, s_246_0, s_246_11, s_246_24, s_246_37, s_246_50, s_246_54, s_246_55, s_246_8, s_246_16, s_246_29, s_246_42, s_246_21, s_246_34, s_246_47, R1, k_234t, k_245, A0, A1, m0, m1]
        exact hQ
    · simp (disch := omega) only [Option.toList_some, Option.toList_none, List.nil_append, List.cons_append, List.append_nil, true_and, and_true, not_true_eq_false, not_false_eq_true, true_implies, false_implies, implies_true, and_self, Int.reduceLT, Int.reduceLE, Int.reduceEq, Int.reduceNe, Int.reduceAdd, Int.reduceSub, Int.reduceMul, Int.reduceNeg, Int.reduceToNat, Int.toNat_natCast, ↓kk_ck, ↓kk_im, ↓kk_in, e_246, s_246_0, s_246_11, s_246_24, s_246_37, s_246_50, s_246_54, s_246_55, s_246_8, s_246_16, s_246_29, s_246_42, s_246_21, s_246_34, s_246_47, R1, k_234t, k_245, A0, m0]
      exact hQ
  · simp (disch := omega) only [Option.toList_some, Option.toList_none, List.nil_append, List.cons_append, List.append_nil, true_and, and_true, not_true_eq_false, not_false_eq_true, true_implies, false_implies, implies_true, and_self, Int.reduceLT, Int.reduceLE, Int.reduceEq, Int.reduceNe, Int.reduceAdd, Int.reduceSub, Int.reduceMul, Int.reduceNeg, Int.reduceToNat, Int.toNat_natCast, ↓kk_ck, ↓kk_im, ↓kk_in, e_246, s_246_0, s_246_11, s_246_24, s_246_37, s_246_50, s_246_54, s_246_55, s_246_8, s_246_16, s_246_29, s_246_42, s_246_21, s_246_34, s_246_47, R1, k_234f q0]
    exact hQ
theorem k_247t (hY : kY Y 151) (hB : mBx M) {a u v : Int} (h : mIp M a u v) (hD : 3 ≤ D) : vi_call GG D 247 [.inr (.inr 112), .inl a, .inl u, .inl v] (Y, M, nn) K ↔ K (some (.inl 1)) (Y, M, nn) := by
  obtain ⟨D, rfl⟩ : ∃ k, D = k + 1 := ⟨D - 1, by omega⟩
  obtain ⟨R1, -⟩ := y_112 hY (by omega)
  obtain ⟨h0, h1, h2, h3, h4, h5⟩ := h
  have A := fun {D : Nat} {K : Option vi_V → vi_W → Prop} (hD : 2 ≤ D) => @k_242 D K Y M nn hY a hD
  have B := fun {D : Nat} {K : Option vi_V → vi_W → Prop} (hD : 2 ≤ D) => @k_243 D K Y M nn hY a hD
  have e1 : 1 ≤ M 114 (if a = 0 then 97 else 96) ∧ M 114 (if a = 0 then 97 else 96) ≤ 6 := by split; exact hB.2.1; exact hB.1
  have e2 : 1 ≤ M 114 (if a = 2 then 97 else 98) ∧ M 114 (if a = 2 then 97 else 98) ≤ 6 := by split; exact hB.2.1; exact hB.2.2
  generalize M 114 (if a = 0 then 97 else 96) = s1 at *
  generalize M 114 (if a = 2 then 97 else 98) = s2 at *
  refine vi_k (r := some (.inl _)) fun Q hQ => ?_
  simp (disch := omega) only [Option.toList_some, Option.toList_none, List.nil_append, List.cons_append, List.append_nil, true_and, and_true, not_true_eq_false, not_false_eq_true, true_implies, false_implies, implies_true, and_self, Int.reduceLT, Int.reduceLE, Int.reduceEq, Int.reduceNe, Int.reduceAdd, Int.reduceSub, Int.reduceMul, Int.reduceNeg, Int.reduceToNat, Int.toNat_natCast, ↓kk_ck, ↓kk_im, ↓kk_in, e_247, s_247_0, s_247_9, s_247_24, s_247_39, s_247_43, s_247_44, s_247_6, s_247_16, s_247_31, s_247_21, s_247_36, R1, k_234t, A, B, vi_32]
  exact hQ
theorem k_247f (hY : kY Y 151) (hB : mBx M) {a u v : Int} (h : ¬ mIp M a u v) (hD : 3 ≤ D) : vi_call GG D 247 [.inr (.inr 112), .inl a, .inl u, .inl v] (Y, M, nn) K ↔ K (some (.inl 0)) (Y, M, nn) := by
  obtain ⟨D, rfl⟩ : ∃ k, D = k + 1 := ⟨D - 1, by omega⟩
  obtain ⟨R1, -⟩ := y_112 hY (by omega)
  unfold mIp at h
  have A := fun {D : Nat} {K : Option vi_V → vi_W → Prop} (hD : 2 ≤ D) => @k_242 D K Y M nn hY a hD
  have B := fun {D : Nat} {K : Option vi_V → vi_W → Prop} (hD : 2 ≤ D) => @k_243 D K Y M nn hY a hD
  have e1 : 1 ≤ M 114 (if a = 0 then 97 else 96) ∧ M 114 (if a = 0 then 97 else 96) ≤ 6 := by split; exact hB.2.1; exact hB.1
  have e2 : 1 ≤ M 114 (if a = 2 then 97 else 98) ∧ M 114 (if a = 2 then 97 else 98) ≤ 6 := by split; exact hB.2.1; exact hB.2.2
  generalize M 114 (if a = 0 then 97 else 96) = s1 at *
  generalize M 114 (if a = 2 then 97 else 98) = s2 at *
  refine vi_k (r := some (.inl _)) fun Q hQ => ?_
  by_cases q0 : 0 ≤ a ∧ a ≤ 2
  · by_cases q1 : 0 ≤ u ∧ u ≤ s1 - 1
    · have q2 : ¬ (0 ≤ v ∧ v ≤ s2 - 1) := by omega
      simp (disch := omega) only [Option.toList_some, Option.toList_none, List.nil_append, List.cons_append, List.append_nil, true_and, and_true, not_true_eq_false, not_false_eq_true, true_implies, false_implies, implies_true, and_self, Int.reduceLT, Int.reduceLE, Int.reduceEq, Int.reduceNe, Int.reduceAdd, Int.reduceSub, Int.reduceMul, Int.reduceNeg, Int.reduceToNat, Int.toNat_natCast, ↓kk_ck, ↓kk_im, ↓kk_in, e_247, s_247_0, s_247_9, s_247_24, s_247_39, s_247_43, s_247_44, s_247_6, s_247_16, s_247_31, s_247_21, s_247_36, R1, k_234t, A, B, vi_32, k_234f q2]
      exact hQ
    · simp (disch := omega) only [Option.toList_some, Option.toList_none, List.nil_append, List.cons_append, List.append_nil, true_and, and_true, not_true_eq_false, not_false_eq_true, true_implies, false_implies, implies_true, and_self, Int.reduceLT, Int.reduceLE, Int.reduceEq, Int.reduceNe, Int.reduceAdd, Int.reduceSub, Int.reduceMul, Int.reduceNeg, Int.reduceToNat, Int.toNat_natCast, ↓kk_ck, ↓kk_im, ↓kk_in, e_247, s_247_0, s_247_9, s_247_24, s_247_39, s_247_43, s_247_44, s_247_6, s_247_16, s_247_31, s_247_21, s_247_36, R1, k_234t, A, B, vi_32, k_234f q1]
      exact hQ
  · simp (disch := omega) only [Option.toList_some, Option.toList_none, List.nil_append, List.cons_append, List.append_nil, true_and, and_true, not_true_eq_false, not_false_eq_true, true_implies, false_implies, implies_true, and_self, Int.reduceLT, Int.reduceLE, Int.reduceEq, Int.reduceNe, Int.reduceAdd, Int.reduceSub, Int.reduceMul, Int.reduceNeg, Int.reduceToNat, Int.toNat_natCast, ↓kk_ck, ↓kk_im, ↓kk_in, e_247, s_247_0, s_247_9, s_247_24, s_247_39, s_247_43, s_247_44, s_247_6, s_247_16, s_247_31, s_247_21, s_247_36, R1, k_234f q0]
    exact hQ
def mIh (M : vi_M) (a u v s k t : Int) : Prop := mIp M a u v ∧ (0 ≤ s ∧ s ≤ 1) ∧ (1 ≤ k ∧ k ≤ 6) ∧ (-1 ≤ t ∧ t ≤ 1)
theorem k_249t (hY : kY Y 151) (hB : mBx M) {a u v s k t : Int} (h : mIh M a u v s k t) (hD : 4 ≤ D) : vi_call GG D 249 [.inr (.inr 112), .inl a, .inl u, .inl v, .inl s, .inl k, .inl t] (Y, M, nn) K ↔ K (some (.inl 1)) (Y, M, nn) := by
  obtain ⟨D, rfl⟩ : ∃ k, D = k + 1 := ⟨D - 1, by omega⟩
  obtain ⟨R1, -⟩ := y_112 hY (by omega)
  obtain ⟨h0, h1, h2, h3⟩ := h
  refine vi_k (r := some (.inl _)) fun Q hQ => ?_
  simp (disch := omega) only [Option.toList_some, Option.toList_none, List.nil_append, List.cons_append, List.append_nil, true_and, and_true, not_true_eq_false, not_false_eq_true, true_implies, false_implies, implies_true, and_self, Int.reduceLT, Int.reduceLE, Int.reduceEq, Int.reduceNe, Int.reduceAdd, Int.reduceSub, Int.reduceMul, Int.reduceNeg, Int.reduceToNat, Int.toNat_natCast, ↓kk_ck, ↓kk_im, ↓kk_in, e_249, s_249_0, s_249_10, s_249_20, s_249_31, s_249_41, s_249_45, s_249_46, s_249_7, s_249_17, s_249_28, s_249_38, R1, k_247t hY hB h0, k_234t h1, k_234t h2, k_234t h3]
  exact hQ
theorem k_249f (hY : kY Y 151) (hB : mBx M) {a u v s k t : Int} (h : ¬ mIh M a u v s k t) (hD : 4 ≤ D) : vi_call GG D 249 [.inr (.inr 112), .inl a, .inl u, .inl v, .inl s, .inl k, .inl t] (Y, M, nn) K ↔ K (some (.inl 0)) (Y, M, nn) := by
  obtain ⟨D, rfl⟩ : ∃ k, D = k + 1 := ⟨D - 1, by omega⟩
  obtain ⟨R1, -⟩ := y_112 hY (by omega)
  refine vi_k (r := some (.inl _)) fun Q hQ => ?_
  by_cases h0 : mIp M a u v
  · by_cases h1 : 0 ≤ s ∧ s ≤ 1
    · by_cases h2 : 1 ≤ k ∧ k ≤ 6
      · have h3 : ¬ (-1 ≤ t ∧ t ≤ 1) := fun q => h ⟨h0, h1, h2, q⟩
        simp (disch := omega) only [Option.toList_some, Option.toList_none, List.nil_append, List.cons_append, List.append_nil, true_and, and_true, not_true_eq_false, not_false_eq_true, true_implies, false_implies, implies_true, and_self, Int.reduceLT, Int.reduceLE, Int.reduceEq, Int.reduceNe, Int.reduceAdd, Int.reduceSub, Int.reduceMul, Int.reduceNeg, Int.reduceToNat, Int.toNat_natCast, ↓kk_ck, ↓kk_im, ↓kk_in, e_249, s_249_0, s_249_10, s_249_20, s_249_31, s_249_41, s_249_45, s_249_46, s_249_7, s_249_17, s_249_28, s_249_38, R1, k_247t hY hB h0, k_234t h1, k_234t h2, k_234f h3]
        exact hQ
      · simp (disch := omega) only [Option.toList_some, Option.toList_none, List.nil_append, List.cons_append, List.append_nil, true_and, and_true, not_true_eq_false, not_false_eq_true, true_implies, false_implies, implies_true, and_self, Int.reduceLT, Int.reduceLE, Int.reduceEq, Int.reduceNe, Int.reduceAdd, Int.reduceSub, Int.reduceMul, Int.reduceNeg, Int.reduceToNat, Int.toNat_natCast, ↓kk_ck, ↓kk_im, ↓kk_in, e_249, s_249_0, s_249_10, s_249_20, s_249_31, s_249_41, s_249_45, s_249_46, s_249_7, s_249_17, s_249_28, s_249_38, R1, k_247t hY hB h0, k_234t h1, k_234f h2]
        exact hQ
    · simp (disch := omega) only [Option.toList_some, Option.toList_none, List.nil_append, List.cons_append, List.append_nil, true_and, and_true, not_true_eq_false, not_false_eq_true, true_implies, false_implies, implies_true, and_self, Int.reduceLT, Int.reduceLE, Int.reduceEq, Int.reduceNe, Int.reduceAdd, Int.reduceSub, Int.reduceMul, Int.reduceNeg, Int.reduceToNat, Int.toNat_natCast, ↓kk_ck, ↓kk_im, ↓kk_in, e_249, s_249_0, s_249_10, s_249_20, s_249_31, s_249_41, s_249_45, s_249_46, s_249_7, s_249_17, s_249_28, s_249_38, R1, k_247t hY hB h0, k_234f h1]
      exact hQ
  · simp (disch := omega) only [Option.toList_some, Option.toList_none, List.nil_append, List.cons_append, List.append_nil, true_and, and_true, not_true_eq_false, not_false_eq_true, true_implies, false_implies, implies_true, and_self, Int.reduceLT, Int.reduceLE, Int.reduceEq, Int.reduceNe, Int.reduceAdd, Int.reduceSub, Int.reduceMul, Int.reduceNeg, Int.reduceToNat, Int.toNat_natCast, ↓kk_ck, ↓kk_im, ↓kk_in, e_249, s_249_0, s_249_10, s_249_20, s_249_31, s_249_41, s_249_45, s_249_46, s_249_7, s_249_17, s_249_28, s_249_38, R1, k_247f hY hB h0]
    exact hQ
theorem k_248 (hY : kY Y 151) (hB : mBx M) {c : Int} {d : Nat} (hc : mIc M c) (hd : d < 6) (hD : 2 ≤ D) : vi_call GG D 248 [.inr (.inr 112), .inl c, .inl (d : Int)] (Y, M, nn) K ↔ K (some (.inl (mBe M c d))) (Y, M, nn) := by
  obtain ⟨D, rfl⟩ : ∃ k, D = k + 1 := ⟨D - 1, by omega⟩
  obtain ⟨R1, -⟩ := y_112 hY (by omega)
  obtain ⟨b0, b1, b2⟩ := hB
  obtain ⟨c0, c1, c2, c3, c4⟩ := hc
  have A0 := fun {D : Nat} {K : Option vi_V → vi_W → Prop} (hD : 1 ≤ D) => @k_2410_0 D K Y M nn hY hD
  have A1 := fun {D : Nat} {K : Option vi_V → vi_W → Prop} (hD : 1 ≤ D) => @k_2410_1 D K Y M nn hY hD
  have A2 := fun {D : Nat} {K : Option vi_V → vi_W → Prop} (hD : 1 ≤ D) => @k_2410_2 D K Y M nn hY hD
  have m0 : mAl c 0 = c % 6 := rfl
  have m1 : mAl c 1 = c / 6 % 6 := rfl
  have m2 : mAl c 2 = c / 36 := rfl
  refine vi_k (r := some (.inl _)) fun Q hQ => ?_
  obtain rfl | rfl | rfl | rfl | rfl | rfl : d = 0 ∨ d = 1 ∨ d = 2 ∨ d = 3 ∨ d = 4 ∨ d = 5 := by omega
  · rw [show mBe M c 0 = if c % 6 = 0 then -1 else c - 1 from rfl] at hQ
    have t1 : (0 : Int).tdiv 2 = 0 := by decide
    have t2 : (0 : Int).tmod 2 = 0 := by decide
    rw [show ((0 : Nat) : Int) = 0 from rfl]
    by_cases q : c % 6 = 0
    · rw [if_pos q] at hQ
      simp (disch := omega) only [Option.toList_some, Option.toList_none, List.nil_append, List.cons_append, List.append_nil, true_and, and_true, not_true_eq_false, not_false_eq_true, true_implies, false_implies, implies_true, and_self, Int.reduceLT, Int.reduceLE, Int.reduceEq, Int.reduceNe, Int.reduceAdd, Int.reduceSub, Int.reduceMul, Int.reduceNeg, Int.reduceToNat, Int.toNat_natCast, ↓kk_ck, ↓kk_im, ↓kk_in, e_248, s_248_0, s_248_15, s_248_19, s_248_20, s_248_28, s_248_38, s_248_40, s_248_44, s_248_48, s_248_53, s_248_58, s_248_60, s_248_68, s_248_75, s_248_79, s_248_9, s_248_25, s_248_35, s_248_65, s_248_12, R1, k_245, A0, A1, A2, m0, m1, m2, vi_32, ne_eq, t1, t2]
      exact hQ
    · rw [if_neg q] at hQ
      simp (disch := omega) only [Option.toList_some, Option.toList_none, List.nil_append, List.cons_append, List.append_nil, true_and, and_true, not_true_eq_false, not_false_eq_true, true_implies, false_implies, implies_true, and_self, Int.reduceLT, Int.reduceLE, Int.reduceEq, Int.reduceNe, Int.reduceAdd, Int.reduceSub, Int.reduceMul, Int.reduceNeg, Int.reduceToNat, Int.toNat_natCast, ↓kk_ck, ↓kk_im, ↓kk_in, e_248, s_248_0, s_248_15, s_248_19, s_248_20, s_248_28, s_248_38, s_248_40, s_248_44, s_248_48, s_248_53, s_248_58, s_248_60, s_248_68, s_248_75, s_248_79, s_248_9, s_248_25, s_248_35, s_248_65, s_248_12, R1, k_245, A0, A1, A2, m0, m1, m2, vi_32, ne_eq, t1, t2]
      exact hQ
  · rw [show mBe M c 1 = if M 114 96 ≤ c % 6 + 1 then -1 else c + 1 from rfl] at hQ
    have t1 : (1 : Int).tdiv 2 = 0 := by decide
    have t2 : (1 : Int).tmod 2 = 1 := by decide
    rw [show ((1 : Nat) : Int) = 1 from rfl]
    by_cases q : M 114 96 ≤ c % 6 + 1
    · rw [if_pos q] at hQ
      simp (disch := omega) only [Option.toList_some, Option.toList_none, List.nil_append, List.cons_append, List.append_nil, true_and, and_true, not_true_eq_false, not_false_eq_true, true_implies, false_implies, implies_true, and_self, Int.reduceLT, Int.reduceLE, Int.reduceEq, Int.reduceNe, Int.reduceAdd, Int.reduceSub, Int.reduceMul, Int.reduceNeg, Int.reduceToNat, Int.toNat_natCast, ↓kk_ck, ↓kk_im, ↓kk_in, e_248, s_248_0, s_248_15, s_248_19, s_248_20, s_248_28, s_248_38, s_248_40, s_248_44, s_248_48, s_248_53, s_248_58, s_248_60, s_248_68, s_248_75, s_248_79, s_248_9, s_248_25, s_248_35, s_248_65, s_248_12, R1, k_245, A0, A1, A2, m0, m1, m2, vi_32, ne_eq, t1, t2]
      exact hQ
    · rw [if_neg q] at hQ
      simp (disch := omega) only [Option.toList_some, Option.toList_none, List.nil_append, List.cons_append, List.append_nil, true_and, and_true, not_true_eq_false, not_false_eq_true, true_implies, false_implies, implies_true, and_self, Int.reduceLT, Int.reduceLE, Int.reduceEq, Int.reduceNe, Int.reduceAdd, Int.reduceSub, Int.reduceMul, Int.reduceNeg, Int.reduceToNat, Int.toNat_natCast, ↓kk_ck, ↓kk_im, ↓kk_in, e_248, s_248_0, s_248_15, s_248_19, s_248_20, s_248_28, s_248_38, s_248_40, s_248_44, s_248_48, s_248_53, s_248_58, s_248_60, s_248_68, s_248_75, s_248_79, s_248_9, s_248_25, s_248_35, s_248_65, s_248_12, R1, k_245, A0, A1, A2, m0, m1, m2, vi_32, ne_eq, t1, t2]
      exact hQ
  · rw [show mBe M c 2 = if c / 6 % 6 = 0 then -1 else c - 6 from rfl] at hQ
    have t1 : (2 : Int).tdiv 2 = 1 := by decide
    have t2 : (2 : Int).tmod 2 = 0 := by decide
    rw [show ((2 : Nat) : Int) = 2 from rfl]
    by_cases q : c / 6 % 6 = 0
    · rw [if_pos q] at hQ
      simp (disch := omega) only [Option.toList_some, Option.toList_none, List.nil_append, List.cons_append, List.append_nil, true_and, and_true, not_true_eq_false, not_false_eq_true, true_implies, false_implies, implies_true, and_self, Int.reduceLT, Int.reduceLE, Int.reduceEq, Int.reduceNe, Int.reduceAdd, Int.reduceSub, Int.reduceMul, Int.reduceNeg, Int.reduceToNat, Int.toNat_natCast, ↓kk_ck, ↓kk_im, ↓kk_in, e_248, s_248_0, s_248_15, s_248_19, s_248_20, s_248_28, s_248_38, s_248_40, s_248_44, s_248_48, s_248_53, s_248_58, s_248_60, s_248_68, s_248_75, s_248_79, s_248_9, s_248_25, s_248_35, s_248_65, s_248_12, R1, k_245, A0, A1, A2, m0, m1, m2, vi_32, ne_eq, t1, t2]
      exact hQ
    · rw [if_neg q] at hQ
      simp (disch := omega) only [Option.toList_some, Option.toList_none, List.nil_append, List.cons_append, List.append_nil, true_and, and_true, not_true_eq_false, not_false_eq_true, true_implies, false_implies, implies_true, and_self, Int.reduceLT, Int.reduceLE, Int.reduceEq, Int.reduceNe, Int.reduceAdd, Int.reduceSub, Int.reduceMul, Int.reduceNeg, Int.reduceToNat, Int.toNat_natCast, ↓kk_ck, ↓kk_im, ↓kk_in, e_248, s_248_0, s_248_15, s_248_19, s_248_20, s_248_28, s_248_38, s_248_40, s_248_44, s_248_48, s_248_53, s_248_58, s_248_60, s_248_68, s_248_75, s_248_79, s_248_9, s_248_25, s_248_35, s_248_65, s_248_12, R1, k_245, A0, A1, A2, m0, m1, m2, vi_32, ne_eq, t1, t2]
      exact hQ
  · rw [show mBe M c 3 = if M 114 97 ≤ c / 6 % 6 + 1 then -1 else c + 6 from rfl] at hQ
    have t1 : (3 : Int).tdiv 2 = 1 := by decide
    have t2 : (3 : Int).tmod 2 = 1 := by decide
    rw [show ((3 : Nat) : Int) = 3 from rfl]
    by_cases q : M 114 97 ≤ c / 6 % 6 + 1
    · rw [if_pos q] at hQ
      simp (disch := omega) only [Option.toList_some, Option.toList_none, List.nil_append, List.cons_append, List.append_nil, true_and, and_true, not_true_eq_false, not_false_eq_true, true_implies, false_implies, implies_true, and_self, Int.reduceLT, Int.reduceLE, Int.reduceEq, Int.reduceNe, Int.reduceAdd, Int.reduceSub, Int.reduceMul, Int.reduceNeg, Int.reduceToNat, Int.toNat_natCast, ↓kk_ck, ↓kk_im, ↓kk_in, e_248, s_248_0, s_248_15, s_248_19, s_248_20, s_248_28, s_248_38, s_248_40, s_248_44, s_248_48, s_248_53, s_248_58, s_248_60, s_248_68, s_248_75, s_248_79, s_248_9, s_248_25, s_248_35, s_248_65, s_248_12, R1, k_245, A0, A1, A2, m0, m1, m2, vi_32, ne_eq, t1, t2]
      exact hQ
    · rw [if_neg q] at hQ
      simp (disch := omega) only [Option.toList_some, Option.toList_none, List.nil_append, List.cons_append, List.append_nil, true_and, and_true, not_true_eq_false, not_false_eq_true, true_implies, false_implies, implies_true, and_self, Int.reduceLT, Int.reduceLE, Int.reduceEq, Int.reduceNe, Int.reduceAdd, Int.reduceSub, Int.reduceMul, Int.reduceNeg, Int.reduceToNat, Int.toNat_natCast, ↓kk_ck, ↓kk_im, ↓kk_in, e_248, s_248_0, s_248_15, s_248_19, s_248_20, s_248_28, s_248_38, s_248_40, s_248_44, s_248_48, s_248_53, s_248_58, s_248_60, s_248_68, s_248_75, s_248_79, s_248_9, s_248_25, s_248_35, s_248_65, s_248_12, R1, k_245, A0, A1, A2, m0, m1, m2, vi_32, ne_eq, t1, t2]
      exact hQ
  · rw [show mBe M c 4 = if c / 36 = 0 then -1 else c - 36 from rfl] at hQ
    have t1 : (4 : Int).tdiv 2 = 2 := by decide
    have t2 : (4 : Int).tmod 2 = 0 := by decide
    rw [show ((4 : Nat) : Int) = 4 from rfl]
    by_cases q : c / 36 = 0
    · rw [if_pos q] at hQ
      simp (disch := omega) only [Option.toList_some, Option.toList_none, List.nil_append, List.cons_append, List.append_nil, true_and, and_true, not_true_eq_false, not_false_eq_true, true_implies, false_implies, implies_true, and_self, Int.reduceLT, Int.reduceLE, Int.reduceEq, Int.reduceNe, Int.reduceAdd, Int.reduceSub, Int.reduceMul, Int.reduceNeg, Int.reduceToNat, Int.toNat_natCast, ↓kk_ck, ↓kk_im, ↓kk_in, e_248, s_248_0, s_248_15, s_248_19, s_248_20, s_248_28, s_248_38, s_248_40, s_248_44, s_248_48, s_248_53, s_248_58, s_248_60, s_248_68, s_248_75, s_248_79, s_248_9, s_248_25, s_248_35, s_248_65, s_248_12, R1, k_245, A0, A1, A2, m0, m1, m2, vi_32, ne_eq, t1, t2]
      exact hQ
    · rw [if_neg q] at hQ
      simp (disch := omega) only [Option.toList_some, Option.toList_none, List.nil_append, List.cons_append, List.append_nil, true_and, and_true, not_true_eq_false, not_false_eq_true, true_implies, false_implies, implies_true, and_self, Int.reduceLT, Int.reduceLE, Int.reduceEq, Int.reduceNe, Int.reduceAdd, Int.reduceSub, Int.reduceMul, Int.reduceNeg, Int.reduceToNat, Int.toNat_natCast, ↓kk_ck, ↓kk_im, ↓kk_in, e_248, s_248_0, s_248_15, s_248_19, s_248_20, s_248_28, s_248_38, s_248_40, s_248_44, s_248_48, s_248_53, s_248_58, s_248_60, s_248_68, s_248_75, s_248_79, s_248_9, s_248_25, s_248_35, s_248_65, s_248_12, R1, k_245, A0, A1, A2, m0, m1, m2, vi_32, ne_eq, t1, t2]
      exact hQ
  · rw [show mBe M c 5 = if M 114 98 ≤ c / 36 + 1 then -1 else c + 36 from rfl] at hQ
    have t1 : (5 : Int).tdiv 2 = 2 := by decide
    have t2 : (5 : Int).tmod 2 = 1 := by decide
    rw [show ((5 : Nat) : Int) = 5 from rfl]
    by_cases q : M 114 98 ≤ c / 36 + 1
    · rw [if_pos q] at hQ
      simp (disch := omega) only [Option.toList_some, Option.toList_none, List.nil_append, List.cons_append, List.append_nil, true_and, and_true, not_true_eq_false, not_false_eq_true, true_implies, false_implies, implies_true, and_self, Int.reduceLT, Int.reduceLE, Int.reduceEq, Int.reduceNe, Int.reduceAdd, Int.reduceSub, Int.reduceMul, Int.reduceNeg, Int.reduceToNat, Int.toNat_natCast, ↓kk_ck, ↓kk_im, ↓kk_in, e_248, s_248_0, s_248_15, s_248_19, s_248_20, s_248_28, s_248_38, s_248_40, s_248_44, s_248_48, s_248_53, s_248_58, s_248_60, s_248_68, s_248_75, s_248_79, s_248_9, s_248_25, s_248_35, s_248_65, s_248_12, R1, k_245, A0, A1, A2, m0, m1, m2, vi_32, ne_eq, t1, t2]
      exact hQ
    · rw [if_neg q] at hQ
      simp (disch := omega) only [Option.toList_some, Option.toList_none, List.nil_append, List.cons_append, List.append_nil, true_and, and_true, not_true_eq_false, not_false_eq_true, true_implies, false_implies, implies_true, and_self, Int.reduceLT, Int.reduceLE, Int.reduceEq, Int.reduceNe, Int.reduceAdd, Int.reduceSub, Int.reduceMul, Int.reduceNeg, Int.reduceToNat, Int.toNat_natCast, ↓kk_ck, ↓kk_im, ↓kk_in, e_248, s_248_0, s_248_15, s_248_19, s_248_20, s_248_28, s_248_38, s_248_40, s_248_44, s_248_48, s_248_53, s_248_58, s_248_60, s_248_68, s_248_75, s_248_79, s_248_9, s_248_25, s_248_35, s_248_65, s_248_12, R1, k_245, A0, A1, A2, m0, m1, m2, vi_32, ne_eq, t1, t2]
      exact hQ
end
