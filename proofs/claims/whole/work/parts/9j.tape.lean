/-! Contracts, both sides: a TEXT's bytes written, cut. -/
def bY (x s : Int) : Int := vi_nar 3 (vi_nar 3 (vi_shr32 x s))
def a5 (x1 x2 x3 x4 x5 : Int) (q : Nat) : Int := if q = 0 then x1 else if q = 1 then x2 else if q = 2 then x3 else if q = 3 then x4 else x5
/-- the i-th byte of five ints -/
def tBy (x1 x2 x3 x4 x5 : Int) (i : Nat) : Int := bY (a5 x1 x2 x3 x4 x5 (i / 4)) (24 - 8 * ((i % 4 : Nat) : Int))
section
variable {D : Nat} {K : Option vi_V → vi_W → Prop} {Y : vi_Y} {M : vi_M} {nn : Nat × Nat} {n : Nat} {x1 x2 x3 x4 x5 : Int}
theorem k_258n (hY : kY Y 151) (h10 : M 112 10 = (n : Int)) (hn : n ≤ 400) (h : 400 < n + 20) (hD : 1 ≤ D) : vi_call GG D 258 [.inr (.inr 112), .inl x1, .inl x2, .inl x3, .inl x4, .inl x5] (Y, M, nn) K ↔ K (some (.inl (-1))) (Y, M, nn) := by
  obtain ⟨D, rfl⟩ : ∃ k, D = k + 1 := ⟨D - 1, by omega⟩
  obtain ⟨R1, -⟩ := y_112 hY (by omega)
  refine vi_k (r := some (.inl _)) fun Q hQ => ?_
  simp (disch := omega) only [Option.toList_some, Option.toList_none, List.nil_append, List.cons_append, List.append_nil, true_and, and_true, not_true_eq_false, not_false_eq_true, true_implies, false_implies, implies_true, and_self, Int.reduceLT, Int.reduceLE, Int.reduceEq, Int.reduceNe, Int.reduceAdd, Int.reduceSub, Int.reduceMul, Int.reduceNeg, Int.reduceToNat, Int.toNat_natCast, ↓kk_ck, ↓kk_im, ↓kk_in, e_258, s_258_0, s_258_4, s_258_10, s_258_13, R1, h10, vi_32]
  exact hQ
theorem k_258 (hY : kY Y 151) (h10 : M 112 10 = (n : Int)) (h : n + 20 ≤ 400) (hD : 1 ≤ D) : vi_call GG D 258 [.inr (.inr 112), .inl x1, .inl x2, .inl x3, .inl x4, .inl x5] (Y, M, nn) K ↔ K (some (.inl ((n + 20 : Nat) : Int))) (Y, vi_rs (vi_rs (vi_rs M 119 (vi_u (vi_u (vi_u (vi_u (vi_u (M 119) 0 x1) 1 x2) 2 x3) 3 x4) 4 x5)) 118 (mIm (M 118) (tBy x1 x2 x3 x4 x5) n 20)) 112 (vi_u (M 112) 10 ((n + 20 : Nat) : Int)), nn) := by
  obtain ⟨D, rfl⟩ : ∃ k, D = k + 1 := ⟨D - 1, by omega⟩
  obtain ⟨R1, -, -, -, -, -, R8, R9, -⟩ := y_112 hY (by omega)
  obtain ⟨u1, u2⟩ := y_118 hY (by omega)
  obtain ⟨v1, v2⟩ := y_119 hY (by omega)
  refine vi_k (r := some (.inl _)) fun Q hQ => ?_
  generalize hG : vi_u (vi_u (vi_u (vi_u (vi_u (M 119) 0 x1) 1 x2) 2 x3) 3 x4) 4 x5 = G at hQ
  have gq : ∀ q : Nat, q < 5 → G q = a5 x1 x2 x3 x4 x5 q := by
    intro q hq
    rw [← hG]
    obtain rfl | rfl | rfl | rfl | rfl : q = 0 ∨ q = 1 ∨ q = 2 ∨ q = 3 ∨ q = 4 := by omega
    · rfl
    · rfl
    · rfl
    · rfl
    · rfl
  have loop : ∀ j : Nat, j ≤ 20 → vi_ok GG D 258 55 [some (.inr (.inr 112)), some (.inl x1), some (.inl x2), some (.inl x3), some (.inl x4), some (.inl x5), some (.inl (j : Int))] [] (Y, vi_rs (vi_rs M 119 G) 118 (mIm (M 118) (tBy x1 x2 x3 x4 x5) n j), nn) Q := by
    refine vi_dn 20 ?_ fun j hj ih => ?_
    · have a0 : (n : Int) + 20 = ((n + 20 : Nat) : Int) := by omega
      have v10 : vi_u (M 112) 10 ((n + 20 : Nat) : Int) 10 = ((n + 20 : Nat) : Int) := rfl
      rw [s_258_55]
      simp (disch := omega) only [Option.toList_some, Option.toList_none, List.nil_append, List.cons_append, List.append_nil, true_and, and_true, not_true_eq_false, not_false_eq_true, true_implies, false_implies, implies_true, and_self, Int.reduceLT, Int.reduceLE, Int.reduceEq, Int.reduceNe, Int.reduceAdd, Int.reduceSub, Int.reduceMul, Int.reduceNeg, Int.reduceToNat, Int.toNat_natCast, ↓kk_ck, ↓kk_im, ↓kk_in, s_258_101, s_258_106, s_258_112, s_258_116, R1, vi_rs_o, vi_rs_s, h10, vi_32, a0, vi_ms_rs, v10]
      exact hQ
    · rw [← mIm_s] at ih
      have a0 : ((n : Int) + (j : Int)).toNat = n + j := by omega
      have a1 : ((j : Int) / 4).toNat = j / 4 := by omega
      have a2 : 24 - 8 * ((j : Int) % 4) = 24 - 8 * ((j % 4 : Nat) : Int) := by omega
      have g := gq (j / 4) (by omega)
      rw [show tBy x1 x2 x3 x4 x5 j = vi_nar 3 (vi_nar 3 (vi_shr32 (a5 x1 x2 x3 x4 x5 (j / 4)) (24 - 8 * ((j % 4 : Nat) : Int)))) from rfl] at ih
      clear hQ gq
      rw [s_258_55]
      simp (disch := omega) only [Option.toList_some, Option.toList_none, List.nil_append, List.cons_append, List.append_nil, true_and, and_true, not_true_eq_false, not_false_eq_true, true_implies, false_implies, implies_true, and_self, Int.reduceLT, Int.reduceLE, Int.reduceEq, Int.reduceNe, Int.reduceAdd, Int.reduceSub, Int.reduceMul, Int.reduceNeg, Int.reduceToNat, Int.toNat_natCast, ↓kk_ck, ↓kk_im, ↓kk_in, s_258_62, s_258_66, s_258_70, s_258_77, s_258_81, s_258_82, s_258_95, R1, R8, R9, u1, u2, v1, v2, vi_rs_o, vi_rs_s, vi_rs_rs, h10, vi_td, vi_tm, @vi_32 ((n : Int) + (j : Int)) (by omega) (by omega), @vi_32 ((j : Int) / 4) (by omega) (by omega), @vi_32 (8 * ((j : Int) % 4)) (by omega) (by omega), @vi_32 (24 - 8 * ((j % 4 : Nat) : Int)) (by omega) (by omega), a0, a1, a2, g, vi_inc, vi_ms_rs]
      exact ih
  have := loop 0 (by omega)
  rw [mIm_0, vi_rs_id (by rw [vi_rs_o (by omega)])] at this
  clear loop hQ gq
  simp (disch := omega) only [Option.toList_some, Option.toList_none, List.nil_append, List.cons_append, List.append_nil, true_and, and_true, not_true_eq_false, not_false_eq_true, true_implies, false_implies, implies_true, and_self, Int.reduceLT, Int.reduceLE, Int.reduceEq, Int.reduceNe, Int.reduceAdd, Int.reduceSub, Int.reduceMul, Int.reduceNeg, Int.reduceToNat, Int.toNat_natCast, ↓kk_ck, ↓kk_im, ↓kk_in, e_258, s_258_0, s_258_4, s_258_10, s_258_15, s_258_19, s_258_22, s_258_26, s_258_29, s_258_33, s_258_36, s_258_40, s_258_44, s_258_48, s_258_52, R1, R9, v1, v2, h10, @vi_32 ((n : Int) + 20) (by omega) (by omega), vi_ms_rs, vi_rs_s, vi_rs_rs, hG]
  exact this
-- the class
theorem k_126 (hY : kY Y 151) (h3 : M 73 3 = (n : Int)) (h : n + 4 ≤ 400) (hD : 1 ≤ D) : vi_call GG D 126 [.inr (.inr 73), .inl x1] (Y, M, nn) K ↔ K none (Y, vi_rs (vi_rs M 74 (mIm (M 74) (fun i => bY x1 (24 - 8 * (i : Int))) n 4)) 73 (vi_u (M 73) 3 ((n + 4 : Nat) : Int)), nn) := by
  obtain ⟨D, rfl⟩ : ∃ k, D = k + 1 := ⟨D - 1, by omega⟩
  obtain ⟨R1, R2, -⟩ := y_73 hY (by omega)
  obtain ⟨u1, u2⟩ := y_74 hY (by omega)
  refine vi_k (r := none) fun Q hQ => ?_
  have loop : ∀ j : Nat, j ≤ 4 → vi_ok GG D 126 3 [some (.inr (.inr 73)), some (.inl x1), some (.inl (24 - 8 * (j : Int)))] [] (Y, vi_rs (vi_rs M 74 (mIm (M 74) (fun i => bY x1 (24 - 8 * (i : Int))) n j)) 73 (vi_u (M 73) 3 ((n + j : Nat) : Int)), nn) Q := by
    refine vi_dn 4 ?_ fun j hj ih => ?_
    · rw [s_126_3]
      simp (disch := omega) only [Option.toList_some, Option.toList_none, List.nil_append, List.cons_append, List.append_nil, true_and, and_true, not_true_eq_false, not_false_eq_true, true_implies, false_implies, implies_true, and_self, Int.reduceLT, Int.reduceLE, Int.reduceEq, Int.reduceNe, Int.reduceAdd, Int.reduceSub, Int.reduceMul, Int.reduceNeg, Int.reduceToNat, Int.toNat_natCast, ↓kk_ck, ↓kk_im, ↓kk_in, s_126_55]
      exact hQ
    · rw [← mIm_s] at ih
      have e1 : 24 - 8 * ((j + 1 : Nat) : Int) = 24 - 8 * (j : Int) + -8 := by omega
      rw [e1] at ih
      dsimp only [bY] at ih
      have v3 : vi_u (M 73) 3 ((n + j : Nat) : Int) 3 = ((n + j : Nat) : Int) := rfl
      have uu : ∀ x y : Int, vi_u (vi_u (M 73) 3 x) 3 y = vi_u (M 73) 3 y := fun x y => by
        funext k
        unfold vi_u
        by_cases e : k = 3
        · rw [if_pos e, if_pos e]
        · rw [if_neg e, if_neg e, if_neg e]
      have a0 : ((n + j + 1 : Nat) : Int) = ((n + (j + 1) : Nat) : Int) := by omega
      have cm : ∀ (f g : Nat → Int) , vi_rs (vi_rs (vi_rs M 74 f) 73 (vi_u (M 73) 3 ((n + j : Nat) : Int))) 74 g = vi_rs (vi_rs M 74 g) 73 (vi_u (M 73) 3 ((n + j : Nat) : Int)) := fun f g => by rw [vi_rs_cm (by omega), vi_rs_rs]
      clear hQ
      rw [s_126_3]
      simp (disch := omega) only [Option.toList_some, Option.toList_none, List.nil_append, List.cons_append, List.append_nil, true_and, and_true, not_true_eq_false, not_false_eq_true, true_implies, false_implies, implies_true, and_self, Int.reduceLT, Int.reduceLE, Int.reduceEq, Int.reduceNe, Int.reduceAdd, Int.reduceSub, Int.reduceMul, Int.reduceNeg, Int.reduceToNat, Int.toNat_natCast, ↓kk_ck, ↓kk_im, ↓kk_in, s_126_7, s_126_11, s_126_14, s_126_18, s_126_22, s_126_23, s_126_26, s_126_30, s_126_34, s_126_39, s_126_44, s_126_49, R1, R2, u1, u2, vi_rs_o, vi_rs_s, v3, vi_inc, a0, vi_ms_rs, cm, vi_rs_rs, uu, Int.toNat_natCast, @vi_32 (24 - 8 * (j : Int) + -8) (by omega) (by omega)]
      exact ih
  have := loop 0 (by omega)
  rw [mIm_0, vi_rs_id (M := M) (f := M 74) rfl, vi_rs_id (by
    funext k
    unfold vi_u
    by_cases e : k = 3
    · rw [if_pos e, e, h3]
      rfl
    · rw [if_neg e])] at this
  clear loop hQ
  simp (disch := omega) only [Option.toList_some, Option.toList_none, List.nil_append, List.cons_append, List.append_nil, true_and, and_true, not_true_eq_false, not_false_eq_true, true_implies, false_implies, implies_true, and_self, Int.reduceLT, Int.reduceLE, Int.reduceEq, Int.reduceNe, Int.reduceAdd, Int.reduceSub, Int.reduceMul, Int.reduceNeg, Int.reduceToNat, Int.toNat_natCast, ↓kk_ck, ↓kk_im, ↓kk_in, e_126, s_126_0]
  exact this
theorem k_124n (hY : kY Y 151) {x : Int} (h : ¬ (0 ≤ x ∧ x ≤ M 73 3)) (hD : 1 ≤ D) : vi_call GG D 124 [.inr (.inr 73), .inl x] (Y, M, nn) K ↔ K (some (.inl (-1))) (Y, M, nn) := by
  obtain ⟨D, rfl⟩ : ∃ k, D = k + 1 := ⟨D - 1, by omega⟩
  obtain ⟨R1, -⟩ := y_73 hY (by omega)
  refine vi_k (r := some (.inl _)) fun Q hQ => ?_
  by_cases q : x < 0
  · simp (disch := omega) only [Option.toList_some, Option.toList_none, List.nil_append, List.cons_append, List.append_nil, true_and, and_true, not_true_eq_false, not_false_eq_true, true_implies, false_implies, implies_true, and_self, Int.reduceLT, Int.reduceLE, Int.reduceEq, Int.reduceNe, Int.reduceAdd, Int.reduceSub, Int.reduceMul, Int.reduceNeg, Int.reduceToNat, Int.toNat_natCast, ↓kk_ck, ↓kk_im, ↓kk_in, e_124, s_124_0, s_124_4, s_124_12, s_124_14, s_124_9, s_124_19, R1]
    exact hQ
  · have q2 : ¬ x ≤ M 73 3 := fun e => h ⟨by omega, e⟩
    simp (disch := omega) only [Option.toList_some, Option.toList_none, List.nil_append, List.cons_append, List.append_nil, true_and, and_true, not_true_eq_false, not_false_eq_true, true_implies, false_implies, implies_true, and_self, Int.reduceLT, Int.reduceLE, Int.reduceEq, Int.reduceNe, Int.reduceAdd, Int.reduceSub, Int.reduceMul, Int.reduceNeg, Int.reduceToNat, Int.toNat_natCast, ↓kk_ck, ↓kk_im, ↓kk_in, e_124, s_124_0, s_124_4, s_124_12, s_124_14, s_124_9, s_124_19, R1, q2]
    exact hQ
theorem k_124 (hY : kY Y 151) {x : Int} (h : 0 ≤ x ∧ x ≤ M 73 3) (hD : 1 ≤ D) : vi_call GG D 124 [.inr (.inr 73), .inl x] (Y, M, nn) K ↔ K (some (.inl x)) (Y, vi_rs M 73 (vi_u (M 73) 3 x), nn) := by
  obtain ⟨D, rfl⟩ : ∃ k, D = k + 1 := ⟨D - 1, by omega⟩
  obtain ⟨R1, -⟩ := y_73 hY (by omega)
  refine vi_k (r := some (.inl _)) fun Q hQ => ?_
  obtain ⟨q1, q2⟩ := h
  simp (disch := omega) only [Option.toList_some, Option.toList_none, List.nil_append, List.cons_append, List.append_nil, true_and, and_true, not_true_eq_false, not_false_eq_true, true_implies, false_implies, implies_true, and_self, Int.reduceLT, Int.reduceLE, Int.reduceEq, Int.reduceNe, Int.reduceAdd, Int.reduceSub, Int.reduceMul, Int.reduceNeg, Int.reduceToNat, Int.toNat_natCast, ↓kk_ck, ↓kk_im, ↓kk_in, e_124, s_124_0, s_124_4, s_124_12, s_124_14, s_124_9, s_124_19, R1, vi_ms_rs]
  exact hQ
end
