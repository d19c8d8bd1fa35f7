/-! Calls that are accepted or refused: the form. -/
section
variable {sc : Nat → Int} {ln t a n d : Nat} {CS : Nat → List gCla} {lw : Option (List gCla)} {Y : vi_Y} {M : vi_M} {nn : Nat × Nat} {K : Option vi_V → vi_W → Prop}
theorem k_227 (h9 : Y.1 29 = 31) {x : Int} : vi_call GG (d + 1) 227 [.inr (.inr 29), .inl x] (Y, M, nn) K ↔ K (some (.inl x)) (Y, vi_rs M 29 (vi_u (M 29) 11 0), nn) := by
  refine vi_k (r := some (.inl _)) fun Q hQ => ?_
  simp (disch := omega) only [Option.toList_some, Option.toList_none, List.nil_append, List.cons_append, List.append_nil, true_and, and_true, not_true_eq_false, not_false_eq_true, true_implies, false_implies, implies_true, and_self, Int.reduceLT, Int.reduceLE, Int.reduceEq, Int.reduceNe, Int.reduceAdd, Int.reduceSub, Int.reduceMul, Int.reduceNeg, Int.reduceToNat, Int.toNat_natCast, ↓kk_ck, ↓kk_im, ↓kk_in, e_227, s_227_0, s_227_5, h9, vi_ms_rs]
  exact hQ
theorem k_228_1 (hY : kY Y 112) (h9 : kY9 Y) (hb : 0 ≤ M 111 0 ∧ M 111 0 < 2147483647) : vi_call GG (d + 1) 228 [.inr (.inr 29), .inl (-1)] (Y, M, nn) K ↔ K (some (.inl (-1))) (Y, vi_rs (vi_rs M 111 (vi_u (M 111) 0 (M 111 0 + 1))) 29 (vi_u (M 29) 11 (-1)), nn) := by
  obtain ⟨a1, a2, a3, a4, a5, a6, a7, a8, a9, a10, a11, a12⟩ := y_29 h9
  obtain ⟨c1, c2⟩ := y_111 hY (by omega)
  refine vi_k (r := some (.inl _)) fun Q hQ => ?_
  simp (disch := omega) only [Option.toList_some, Option.toList_none, List.nil_append, List.cons_append, List.append_nil, true_and, and_true, not_true_eq_false, not_false_eq_true, true_implies, false_implies, implies_true, and_self, Int.reduceLT, Int.reduceLE, Int.reduceEq, Int.reduceNe, Int.reduceAdd, Int.reduceSub, Int.reduceMul, Int.reduceNeg, Int.reduceToNat, Int.toNat_natCast, ↓kk_ck, ↓kk_im, ↓kk_in, e_228, s_228_0, s_228_6, s_228_12, s_228_16, s_228_21, s_228_30, s_228_40, s_228_26, s_228_34, s_228_45, s_228_27, s_228_37, a1, a12, c1, c2, vi_ms_rs, vi_32, ne_eq, vi_rs_o]
  exact hQ
end
