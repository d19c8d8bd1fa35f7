/-! Contracts of the reference, nineteenth part: images. -/
def mIm (f g : Nat → Int) (o j : Nat) : Nat → Int := fun k => if o ≤ k ∧ k < o + j then g (k - o) else f k
theorem mIm_s {f g : Nat → Int} {o j : Nat} : vi_u (mIm f g o j) (o + j) (g j) = mIm f g o (j + 1) := by
  funext k
  unfold vi_u mIm
  by_cases h : k = o + j
  · rw [if_pos h, if_pos (by omega), h]
    congr 1
    omega
  · rw [if_neg h]
    by_cases h2 : o ≤ k ∧ k < o + j
    · rw [if_pos h2, if_pos (by omega)]
    · rw [if_neg h2, if_neg (by omega)]
theorem mIm_0 {f g : Nat → Int} {o : Nat} : mIm f g o 0 = f := by
  funext k
  unfold mIm
  rw [if_neg (by omega)]
/-- a row whose first j are another's, from o on -/
def mBk (f g : Nat → Int) (o j : Nat) : Nat → Int := fun k => if k < j then g (o + k) else f k
theorem mBk_s {f g : Nat → Int} {o j : Nat} : vi_u (mBk f g o j) j (g (o + j)) = mBk f g o (j + 1) := by
  funext k
  unfold vi_u mBk
  by_cases h : k = j
  · rw [if_pos h, if_pos (by omega), h]
  · rw [if_neg h]
    by_cases h2 : k < j
    · rw [if_pos h2, if_pos (by omega)]
    · rw [if_neg h2, if_neg (by omega)]
theorem mBk_0 {f g : Nat → Int} {o : Nat} : mBk f g o 0 = f := by
  funext k
  unfold mBk
  rw [if_neg (by omega)]
section
variable {D : Nat} {K : Option vi_V → vi_W → Prop} {Y : vi_Y} {M : vi_M} {nn : Nat × Nat}
theorem k_239n (hY : kY Y 151) {i : Int} (h : ¬ (0 ≤ i ∧ i ≤ 1)) (hc : 0 ≤ M 113 1 ∧ M 113 1 < 2147483647) (hD : 2 ≤ D) : vi_call GG D 239 [.inr (.inr 112), .inl i] (Y, M, nn) K ↔ K (some (.inl (-1))) (Y, vi_rs (vi_rs M 112 (vi_u (M 112) 0 (-1))) 113 (vi_u (M 113) 1 (M 113 1 + 1)), nn) := by
  obtain ⟨D, rfl⟩ : ∃ k, D = k + 1 := ⟨D - 1, by omega⟩
  obtain ⟨R1, -⟩ := y_112 hY (by omega)
  refine vi_k (r := some (.inl _)) fun Q hQ => ?_
  have A := fun {D : Nat} {K : Option vi_V → vi_W → Prop} (hD : 1 ≤ D) => @k_235 D K Y M nn hY (-1) (by omega) (by exact hc) hD
  simp (disch := omega) only [Option.toList_some, Option.toList_none, List.nil_append, List.cons_append, List.append_nil, true_and, and_true, not_true_eq_false, not_false_eq_true, true_implies, false_implies, implies_true, and_self, Int.reduceLT, Int.reduceLE, Int.reduceEq, Int.reduceNe, Int.reduceAdd, Int.reduceSub, Int.reduceMul, Int.reduceNeg, Int.reduceToNat, Int.toNat_natCast, ↓kk_ck, ↓kk_im, ↓kk_in, e_239, s_239_0, s_239_6, s_239_9, s_239_14, R1, k_234f h, A, ne_eq]
  exact hQ
theorem k_239 (hY : kY Y 151) {i : Nat} (hi : i < 2) (hc : 0 ≤ M 112 1 ∧ M 112 1 < 2147483647) (hD : 2 ≤ D) : vi_call GG D 239 [.inr (.inr 112), .inl (i : Int)] (Y, M, nn) K ↔ K (some (.inl 0)) (Y, vi_rs (vi_rs (vi_rs M 115 (mIm (M 115) (M 114) (5103 * i) 5103)) 116 (vi_u (M 116) i 1)) 112 (vi_u (vi_u (M 112) 0 0) 1 (M 112 1 + 1)), nn) := by
  obtain ⟨D, rfl⟩ : ∃ k, D = k + 1 := ⟨D - 1, by omega⟩
  obtain ⟨R1, -, R3, R4, R5, -⟩ := y_112 hY (by omega)
  obtain ⟨w1, w2⟩ := y_114 hY (by omega)
  obtain ⟨u1, u2⟩ := y_115 hY (by omega)
  obtain ⟨v1, v2⟩ := y_116 hY (by omega)
  refine vi_k (r := some (.inl _)) fun Q hQ => ?_
  have n1 : vi_nar 4 1 = 1 := by decide
  have loop : ∀ j : Nat, j ≤ 5103 → vi_ok GG D 239 17 [some (.inr (.inr 112)), some (.inl (i : Int)), some (.inl (j : Int))] [] (Y, vi_rs M 115 (mIm (M 115) (M 114) (5103 * i) j), nn) Q := by
    refine vi_dn 5103 ?_ fun j hj ih => ?_
    · have A := fun {D : Nat} {K : Option vi_V → vi_W → Prop} (hD : 1 ≤ D) => @k_236 D K Y (vi_rs (vi_rs M 115 (mIm (M 115) (M 114) (5103 * i) 5103)) 116 (vi_u (M 116) i 1)) nn hY 0 (by rw [vi_rs_o (by omega), vi_rs_o (by omega)]; exact hc) hD
      rw [vi_rs_o (q := 116) (by omega), vi_rs_o (q := 115) (by omega)] at A
      rw [s_239_17]
      simp (disch := omega) only [Option.toList_some, Option.toList_none, List.nil_append, List.cons_append, List.append_nil, true_and, and_true, not_true_eq_false, not_false_eq_true, true_implies, false_implies, implies_true, and_self, Int.reduceLT, Int.reduceLE, Int.reduceEq, Int.reduceNe, Int.reduceAdd, Int.reduceSub, Int.reduceMul, Int.reduceNeg, Int.reduceToNat, Int.toNat_natCast, ↓kk_ck, ↓kk_im, ↓kk_in, s_239_48, s_239_52, s_239_55, s_239_60, R1, R5, v1, v2, vi_ms_rs, vi_rs_o, n1, Int.toNat_natCast, A]
      exact hQ
    · rw [← mIm_s] at ih
      have a0 : (5103 * (i : Int) + (j : Int)).toNat = 5103 * i + j := by omega
      rw [s_239_17]
      clear hQ
      simp (disch := omega) only [Option.toList_some, Option.toList_none, List.nil_append, List.cons_append, List.append_nil, true_and, and_true, not_true_eq_false, not_false_eq_true, true_implies, false_implies, implies_true, and_self, Int.reduceLT, Int.reduceLE, Int.reduceEq, Int.reduceNe, Int.reduceAdd, Int.reduceSub, Int.reduceMul, Int.reduceNeg, Int.reduceToNat, Int.toNat_natCast, ↓kk_ck, ↓kk_im, ↓kk_in, s_239_24, s_239_28, s_239_39, s_239_41, s_239_42, R1, R3, R4, w1, w2, u1, u2, vi_ms_rs, vi_rs_s, vi_rs_rs, vi_rs_o, Int.toNat_natCast, vi_inc, @vi_32 (5103 * (i : Int)) (by omega) (by omega), @vi_32 (5103 * (i : Int) + (j : Int)) (by omega) (by omega), a0]
      exact ih
  have := loop 0 (by omega)
  rw [mIm_0, vi_rs_id rfl] at this
  clear loop hQ
  have h01 : 0 ≤ (i : Int) ∧ (i : Int) ≤ 1 := by omega
  simp (disch := omega) only [Option.toList_some, Option.toList_none, List.nil_append, List.cons_append, List.append_nil, true_and, and_true, not_true_eq_false, not_false_eq_true, true_implies, false_implies, implies_true, and_self, Int.reduceLT, Int.reduceLE, Int.reduceEq, Int.reduceNe, Int.reduceAdd, Int.reduceSub, Int.reduceMul, Int.reduceNeg, Int.reduceToNat, Int.toNat_natCast, ↓kk_ck, ↓kk_im, ↓kk_in, e_239, s_239_0, s_239_6, s_239_15, k_234t h01, ne_eq]
  exact this
theorem k_240n (hY : kY Y 151) {i : Int} (h : ¬ (0 ≤ i ∧ i ≤ 1)) (hc : 0 ≤ M 113 1 ∧ M 113 1 < 2147483647) (hD : 2 ≤ D) : vi_call GG D 240 [.inr (.inr 112), .inl i] (Y, M, nn) K ↔ K (some (.inl (-1))) (Y, vi_rs (vi_rs M 112 (vi_u (M 112) 0 (-1))) 113 (vi_u (M 113) 1 (M 113 1 + 1)), nn) := by
  obtain ⟨D, rfl⟩ : ∃ k, D = k + 1 := ⟨D - 1, by omega⟩
  obtain ⟨R1, -⟩ := y_112 hY (by omega)
  refine vi_k (r := some (.inl _)) fun Q hQ => ?_
  have A := fun {D : Nat} {K : Option vi_V → vi_W → Prop} (hD : 1 ≤ D) => @k_235 D K Y M nn hY (-1) (by omega) (by exact hc) hD
  simp (disch := omega) only [Option.toList_some, Option.toList_none, List.nil_append, List.cons_append, List.append_nil, true_and, and_true, not_true_eq_false, not_false_eq_true, true_implies, false_implies, implies_true, and_self, Int.reduceLT, Int.reduceLE, Int.reduceEq, Int.reduceNe, Int.reduceAdd, Int.reduceSub, Int.reduceMul, Int.reduceNeg, Int.reduceToNat, Int.toNat_natCast, ↓kk_ck, ↓kk_im, ↓kk_in, e_240, s_240_0, s_240_6, s_240_9, s_240_14, R1, k_234f h, A, ne_eq]
  exact hQ
theorem k_240x (hY : kY Y 151) {i : Nat} (hi : i < 2) (h0 : M 116 i = 0) (hc : 0 ≤ M 113 2 ∧ M 113 2 < 2147483647) (hD : 2 ≤ D) : vi_call GG D 240 [.inr (.inr 112), .inl (i : Int)] (Y, M, nn) K ↔ K (some (.inl (-2))) (Y, vi_rs (vi_rs M 112 (vi_u (M 112) 0 (-2))) 113 (vi_u (M 113) 2 (M 113 2 + 1)), nn) := by
  obtain ⟨D, rfl⟩ : ∃ k, D = k + 1 := ⟨D - 1, by omega⟩
  obtain ⟨R1, -, R3, R4, R5, -⟩ := y_112 hY (by omega)
  obtain ⟨v1, v2⟩ := y_116 hY (by omega)
  refine vi_k (r := some (.inl _)) fun Q hQ => ?_
  have A := fun {D : Nat} {K : Option vi_V → vi_W → Prop} (hD : 1 ≤ D) => @k_235 D K Y M nn hY (-2) (by omega) (by exact hc) hD
  have h01 : 0 ≤ (i : Int) ∧ (i : Int) ≤ 1 := by omega
  simp (disch := omega) only [Option.toList_some, Option.toList_none, List.nil_append, List.cons_append, List.append_nil, true_and, and_true, not_true_eq_false, not_false_eq_true, true_implies, false_implies, implies_true, and_self, Int.reduceLT, Int.reduceLE, Int.reduceEq, Int.reduceNe, Int.reduceAdd, Int.reduceSub, Int.reduceMul, Int.reduceNeg, Int.reduceToNat, Int.toNat_natCast, ↓kk_ck, ↓kk_im, ↓kk_in, e_240, s_240_0, s_240_6, s_240_15, s_240_19, s_240_21, s_240_24, s_240_30, R1, R5, v1, v2, k_234t h01, Int.toNat_natCast, h0, A, ne_eq]
  exact hQ
theorem k_240 (hY : kY Y 151) {i : Nat} (hi : i < 2) (h0 : M 116 i ≠ 0) (hc : 0 ≤ M 112 1 ∧ M 112 1 < 2147483647) (hD : 2 ≤ D) : vi_call GG D 240 [.inr (.inr 112), .inl (i : Int)] (Y, M, nn) K ↔ K (some (.inl 0)) (Y, vi_rs (vi_rs M 114 (mBk (M 114) (M 115) (5103 * i) 5103)) 112 (vi_u (vi_u (M 112) 0 0) 1 (M 112 1 + 1)), nn) := by
  obtain ⟨D, rfl⟩ : ∃ k, D = k + 1 := ⟨D - 1, by omega⟩
  obtain ⟨R1, -, R3, R4, R5, -⟩ := y_112 hY (by omega)
  obtain ⟨w1, w2⟩ := y_114 hY (by omega)
  obtain ⟨u1, u2⟩ := y_115 hY (by omega)
  obtain ⟨v1, v2⟩ := y_116 hY (by omega)
  refine vi_k (r := some (.inl _)) fun Q hQ => ?_
  have loop : ∀ j : Nat, j ≤ 5103 → vi_ok GG D 240 33 [some (.inr (.inr 112)), some (.inl (i : Int)), some (.inl (j : Int))] [] (Y, vi_rs M 114 (mBk (M 114) (M 115) (5103 * i) j), nn) Q := by
    refine vi_dn 5103 ?_ fun j hj ih => ?_
    · have A := fun {D : Nat} {K : Option vi_V → vi_W → Prop} (hD : 1 ≤ D) => @k_236 D K Y (vi_rs M 114 (mBk (M 114) (M 115) (5103 * i) 5103)) nn hY 0 (by rw [vi_rs_o (by omega)]; exact hc) hD
      rw [vi_rs_o (q := 114) (by omega)] at A
      rw [s_240_33]
      simp (disch := omega) only [Option.toList_some, Option.toList_none, List.nil_append, List.cons_append, List.append_nil, true_and, and_true, not_true_eq_false, not_false_eq_true, true_implies, false_implies, implies_true, and_self, Int.reduceLT, Int.reduceLE, Int.reduceEq, Int.reduceNe, Int.reduceAdd, Int.reduceSub, Int.reduceMul, Int.reduceNeg, Int.reduceToNat, Int.toNat_natCast, ↓kk_ck, ↓kk_im, ↓kk_in, s_240_64, s_240_69, R1, A]
      exact hQ
    · rw [← mBk_s] at ih
      have a0 : (5103 * (i : Int) + (j : Int)).toNat = 5103 * i + j := by omega
      rw [s_240_33]
      clear hQ
      simp (disch := omega) only [Option.toList_some, Option.toList_none, List.nil_append, List.cons_append, List.append_nil, true_and, and_true, not_true_eq_false, not_false_eq_true, true_implies, false_implies, implies_true, and_self, Int.reduceLT, Int.reduceLE, Int.reduceEq, Int.reduceNe, Int.reduceAdd, Int.reduceSub, Int.reduceMul, Int.reduceNeg, Int.reduceToNat, Int.toNat_natCast, ↓kk_ck, ↓kk_im, ↓kk_in, s_240_40, s_240_44, s_240_49, s_240_56, s_240_57, s_240_58, R1, R3, R4, w1, w2, u1, u2, vi_ms_rs, vi_rs_s, vi_rs_rs, vi_rs_o, Int.toNat_natCast, vi_inc, @vi_32 (5103 * (i : Int)) (by omega) (by omega), @vi_32 (5103 * (i : Int) + (j : Int)) (by omega) (by omega), a0]
      exact ih
  have := loop 0 (by omega)
  rw [mBk_0, vi_rs_id rfl] at this
  clear loop hQ
  have h01 : 0 ≤ (i : Int) ∧ (i : Int) ≤ 1 := by omega
  simp (disch := omega) only [Option.toList_some, Option.toList_none, List.nil_append, List.cons_append, List.append_nil, true_and, and_true, not_true_eq_false, not_false_eq_true, true_implies, false_implies, implies_true, and_self, Int.reduceLT, Int.reduceLE, Int.reduceEq, Int.reduceNe, Int.reduceAdd, Int.reduceSub, Int.reduceMul, Int.reduceNeg, Int.reduceToNat, Int.toNat_natCast, ↓kk_ck, ↓kk_im, ↓kk_in, e_240, s_240_0, s_240_6, s_240_15, s_240_19, s_240_21, s_240_31, R1, R5, v1, v2, Int.toNat_natCast, k_234t h01, h0, ne_eq]
  exact this
end
