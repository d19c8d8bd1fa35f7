/-! Contracts, both sides: a TEXT's bytes written, cut. -/
def bY (x s : Int) : Int := vi_nar 3 (vi_nar 3 (vi_shr32 x s))
def a5 (x1 x2 x3 x4 x5 : Int) (q : Nat) : Int := if q = 0 then x1 else if q = 1 then x2 else if q = 2 then x3 else if q = 3 then x4 else x5
/-- the i-th byte of five ints -/
def tBy (x1 x2 x3 x4 x5 : Int) (i : Nat) : Int := bY (a5 x1 x2 x3 x4 x5 (i / 4)) (24 - 8 * ((i % 4 : Nat) : Int))
section
variable {D : Nat} {K : Option vi_V → vi_W → Prop} {Y : vi_Y} {M : vi_M} {nn : Nat × Nat} {n : Nat} {x1 x2 x3 x4 x5 : Int}
theorem k_126 (hY : kY Y 112) (h3 : M 73 3 = (n : Int)) (h : n + 4 ≤ 400) (hD : 1 ≤ D) : vi_call GG D 126 [.inr (.inr 73), .inl x1] (Y, M, nn) K ↔ K none (Y, vi_rs (vi_rs M 74 (mIm (M 74) (fun i => bY x1 (24 - 8 * (i : Int))) n 4)) 73 (vi_u (M 73) 3 ((n + 4 : Nat) : Int)), nn) := by
  obtain ⟨D, rfl⟩ : ∃ k, D = k + 1 := ⟨D - 1, by omega⟩
  obtain ⟨R1, R2, -⟩ := y_73 hY (by omega)
  obtain ⟨u1, u2⟩ := y_74 hY (by omega)
  refine vi_k (r := none) fun Q hQ => ?_
  have loop : ∀ j : Nat, j ≤ 4 → vi_ok GG D 126 3 [some (.inr (.inr 73)), some (.inl x1), some (.inl (24 - 8 * (j : Int)))] [] (Y, vi_rs (vi_rs M 74 (mIm (M 74) (fun i => bY x1 (24 - 8 * (i : Int))) n j)) 73 (vi_u (M 73) 3 ((n + j : Nat) : Int)), nn) Q := by
    refine vi_dn 4 ?_ fun j hj ih => ?_
    · rw [s_126_3]
      simp (disch := omega) only [Option.toList_some, Option.toList_none, List.nil_append, List.cons_append, List.append_nil, true_and, and_true, not_true_eq_false, not_false_eq_true, true_implies, false_implies, implies_true, and_self, Int.reduceLT, Int.reduceLE, Int.reduceEq, Int.reduceNe, Int.reduceAdd, Int.reduceSub, Int.reduceMul, Int.reduceNeg, Int.reduceToNat, Int.toNat_natCast, ↓kk_ck, ↓kk_im, ↓kk_in, s_126_55]
      exact hQ
    · rw [← mIm_s] at ih
      have e1 : 24 - 8 * ((j + 1 : Nat) : Int) = 24 - 8 * (j : Int) + -8 := by omega
      rw [e1] at ih
      dsimp only [bY] at ih
      have v3 : vi_u (M 73) 3 ((n + j : Nat) : Int) 3 = ((n + j : Nat) : Int) := rfl
      have uu : ∀ x y : Int, vi_u (vi_u (M 73) 3 x) 3 y = vi_u (M 73) 3 y := fun x y => by
        funext k
        unfold vi_u
        by_cases e : k = 3
        · rw [if_pos e, if_pos e]
        · rw [if_neg e, if_neg e, if_neg e]
      have a0 : ((n + j + 1 : Nat) : Int) = ((n + (j + 1) : Nat) : Int) := by omega
      have cm : ∀ (f g : Nat → Int) , vi_rs (vi_rs (vi_rs M 74 f) 73 (vi_u (M 73) 3 ((n + j : Nat) : Int))) 74 g = vi_rs (vi_rs M 74 g) 73 (vi_u (M 73) 3 ((n + j : Nat) : Int)) := fun f g => by rw [vi_rs_cm (by omega), vi_rs_rs]
      clear hQ
      rw [s_126_3]
      simp (disch := omega) only [Option.toList_some, Option.toList_none, List.nil_append, List.cons_append, List.append_nil, true_and, and_true, not_true_eq_false, not_false_eq_true, true_implies, false_implies, implies_true, and_self, Int.reduceLT, Int.reduceLE, Int.reduceEq, Int.reduceNe, Int.reduceAdd, Int.reduceSub, Int.reduceMul, Int.reduceNeg, Int.reduceToNat, Int.toNat_natCast, ↓kk_ck, ↓kk_im, ↓kk_in, s_126_7, s_126_11, s_126_14, s_126_18, s_126_22, s_126_23, s_126_26, s_126_30, s_126_34, s_126_39, s_126_44, s_126_49, R1, R2, u1, u2, vi_rs_o, vi_rs_s, v3, vi_inc, a0, vi_ms_rs, cm, vi_rs_rs, uu, Int.toNat_natCast, @vi_32 (24 - 8 * (j : Int) + -8) (by omega) (by omega)]
      exact ih
  have := loop 0 (by omega)
  rw [mIm_0, vi_rs_id (M := M) (f := M 74) rfl, vi_rs_id (by
    funext k
    unfold vi_u
    by_cases e : k = 3
    · rw [if_pos e, e, h3]
      rfl
    · rw [if_neg e])] at this
  clear loop hQ
  simp (disch := omega) only [Option.toList_some, Option.toList_none, List.nil_append, List.cons_append, List.append_nil, true_and, and_true, not_true_eq_false, not_false_eq_true, true_implies, false_implies, implies_true, and_self, Int.reduceLT, Int.reduceLE, Int.reduceEq, Int.reduceNe, Int.reduceAdd, Int.reduceSub, Int.reduceMul, Int.reduceNeg, Int.reduceToNat, Int.toNat_natCast, ↓kk_ck, ↓kk_im, ↓kk_in, e_126, s_126_0]
  exact this
theorem k_124n (hY : kY Y 112) {x : Int} (h : ¬ (0 ≤ x ∧ x ≤ M 73 3)) (hD : 1 ≤ D) : vi_call GG D 124 [.inr (.inr 73), .inl x] (Y, M, nn) K ↔ K (some (.inl (-1))) (Y, M, nn) := by
  obtain ⟨D, rfl⟩ : ∃ k, D = k + 1 := ⟨D - 1, by omega⟩
  obtain ⟨R1, -⟩ := y_73 hY (by omega)
  refine vi_k (r := some (.inl _)) fun Q hQ => ?_
  by_cases q : x < 0
  · simp (disch := omega) only [Option.toList_some, Option.toList_none, List.nil_append, List.cons_append, List.append_nil, true_and, and_true, not_true_eq_false, not_false_eq_true, true_implies, false_implies, implies_true, and_self, Int.reduceLT, Int.reduceLE, Int.reduceEq, Int.reduceNe, Int.reduceAdd, Int.reduceSub, Int.reduceMul, Int.reduceNeg, Int.reduceToNat, Int.toNat_natCast, ↓kk_ck, ↓kk_im, ↓kk_in, e_124, s_124_0, s_124_4, s_124_12, s_124_14, s_124_9, s_124_19, R1]
    exact hQ
  · have q2 : ¬ x ≤ M 73 3 := fun e => h ⟨by omega, e⟩
    simp (disch := omega) only [Option.toList_some, Option.toList_none, List.nil_append, List.cons_append, List.append_nil, true_and, and_true, not_true_eq_false, not_false_eq_true, true_implies, false_implies, implies_true, and_self, Int.reduceLT, Int.reduceLE, Int.reduceEq, Int.reduceNe, Int.reduceAdd, Int.reduceSub, Int.reduceMul, Int.reduceNeg, Int.reduceToNat, Int.toNat_natCast, ↓kk_ck, ↓kk_im, ↓kk_in, e_124, s_124_0, s_124_4, s_124_12, s_124_14, s_124_9, s_124_19, R1, q2]
    exact hQ
theorem k_124 (hY : kY Y 112) {x : Int} (h : 0 ≤ x ∧ x ≤ M 73 3) (hD : 1 ≤ D) : vi_call GG D 124 [.inr (.inr 73), .inl x] (Y, M, nn) K ↔ K (some (.inl x)) (Y, vi_rs M 73 (vi_u (M 73) 3 x), nn) := by
  obtain ⟨D, rfl⟩ : ∃ k, D = k + 1 := ⟨D - 1, by omega⟩
  obtain ⟨R1, -⟩ := y_73 hY (by omega)
  refine vi_k (r := some (.inl _)) fun Q hQ => ?_
  obtain ⟨q1, q2⟩ := h
  simp (disch := omega) only [Option.toList_some, Option.toList_none, List.nil_append, List.cons_append, List.append_nil, true_and, and_true, not_true_eq_false, not_false_eq_true, true_implies, false_implies, implies_true, and_self, Int.reduceLT, Int.reduceLE, Int.reduceEq, Int.reduceNe, Int.reduceAdd, Int.reduceSub, Int.reduceMul, Int.reduceNeg, Int.reduceToNat, Int.toNat_natCast, ↓kk_ck, ↓kk_im, ↓kk_in, e_124, s_124_0, s_124_4, s_124_12, s_124_14, s_124_9, s_124_19, R1, vi_ms_rs]
  exact hQ
end
