/-! Contracts of constructors, first part. -/
section
variable {d : Nat} {K : Option vi_V → vi_W → Prop} {Y : vi_Y} {M : vi_M} {n m q : Nat}
theorem k_1 (hq : q ≠ 0) (h1 : Y.1 q = 20) (hn : q < n) : vi_call GG (d + 1) 1 [.inr (.inr q)] (Y, M, n, m) K ↔ K none (vi_yfin (vi_ynew Y n 2 6) q 0 (n : Int), vi_rs M n (fun _ => 0), n + 1, m + 6) := by
  refine vi_k (r := none) fun Q hQ => ?_
  have e1 : (vi_ynew Y n 2 6).1 q = 20 := by rw [yn1o (by omega)]; exact h1
  have e6 : (6 : Int).toNat = 6 := rfl
  simp (disch := omega) only [Option.toList_some, Option.toList_none, List.nil_append, List.cons_append, List.append_nil, true_and, and_true, not_true_eq_false, not_false_eq_true, true_implies, false_implies, implies_true, and_self, Int.reduceLT, Int.reduceLE, Int.reduceEq, Int.reduceNe, Int.reduceAdd, Int.reduceSub, Int.reduceMul, Int.reduceNeg, Int.reduceToNat, Int.toNat_natCast, ↓kk_ck, ↓kk_im, ↓kk_in, e_1, s_1_0, s_1_4, s_1_9, s_1_12, h1, e1, e6, hq, ne_eq]
  exact hQ
theorem k_148 (hq : q ≠ 0) (h1 : Y.1 q = 28) (hn : q < n) {c : Nat} (hc : c ≤ 216) : vi_call GG (d + 2) 148 [.inr (.inr q), .inl (c : Int)] (Y, M, n, m) K ↔ K none (vi_yfin (vi_ynew (vi_yfin Y q 0 (c : Int)) n 1 (6 * c)) q 1 (n : Int), vi_rs M n (fun _ => 0), n + 1, m + 6 * c) := by
  refine vi_k (r := none) fun Q hQ => ?_
  have e1 : (vi_ynew (vi_yfin Y q 0 (c : Int)) n 1 (6 * c)).1 q = 28 := by rw [yn1o (by omega)]; exact h1
  have e6 : ((c : Int) * 6).toNat = 6 * c := by omega
  have em : min (c : Int) 216 = (c : Int) := by omega
  simp (disch := omega) only [Option.toList_some, Option.toList_none, List.nil_append, List.cons_append, List.append_nil, true_and, and_true, not_true_eq_false, not_false_eq_true, true_implies, false_implies, implies_true, and_self, Int.reduceLT, Int.reduceLE, Int.reduceEq, Int.reduceNe, Int.reduceAdd, Int.reduceSub, Int.reduceMul, Int.reduceNeg, Int.reduceToNat, Int.toNat_natCast, ↓kk_ck, ↓kk_im, ↓kk_in, e_148, s_148_0, s_148_4, s_148_13, s_148_20, s_148_23, s_148_28, s_148_31, s_148_33, s_148_36, h1, hq, ne_eq, k_360, em, yf1, yf3, vi_32, e6, e1]
  exact hQ
end
