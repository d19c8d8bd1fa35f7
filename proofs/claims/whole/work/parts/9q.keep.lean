/-! Contracts of Held: keep. -/
section
variable {d h : Nat} {K : Option vi_V → vi_W → Prop} {Y : vi_Y} {M : vi_M} {n : Nat × Nat}
theorem k_40 {h1 h2 : Nat} (hh1 : kH Y h1) (hh2 : kH Y h2) (hne : h1 + 10 ≤ h2 ∨ h2 + 10 ≤ h1) {m1 m2 m3 n1 n2 n3 : Nat} (e1 : M (h2 + 1) 2 = (m1 : Int)) (e2 : M (h2 + 3) 2 = (m2 : Int)) (e3 : M (h2 + 5) 2 = (m3 : Int)) (l1 : m1 ≤ 16) (l2 : m2 ≤ 8) (l3 : m3 ≤ 8) (i1 : M (h1 + 1) 2 = (n1 : Int)) (i2 : M (h1 + 3) 2 = (n2 : Int)) (i3 : M (h1 + 5) 2 = (n3 : Int))
    (hlw : ∀ j, j < 6 → (M (h2 + 9) j).toNat = 0 ∨ Y.1 (M (h2 + 9) j).toNat = 23) (hlw2 : ∀ j, j < 6 → 0 ≤ M (h2 + 9) j) : vi_call GG (d + 4) 40 [.inr (.inr h1), .inr (.inr h2)] (Y, M, n) K ↔ K none (Y, vi_ms (vi_rs (vi_rs (vi_rs (vi_rs (vi_rs (vi_rs (vi_rs (vi_rs (vi_rs (vi_rs M (h1 + 1) (vi_u (M (h1 + 1)) 2 (m1 : Int))) (h1 + 2) (vi_m (6 * m1) (M (h2 + 2)) (M (h1 + 2)))) (h1 + 3) (vi_u (M (h1 + 3)) 2 (m2 : Int))) (h1 + 4) (vi_m (6 * m2) (M (h2 + 4)) (M (h1 + 4)))) (h1 + 5) (vi_u (M (h1 + 5)) 2 (m3 : Int))) (h1 + 6) (vi_m (6 * m3) (M (h2 + 6)) (M (h1 + 6)))) (h1 + 7) (vi_m 108 (M (h2 + 7)) (M (h1 + 7)))) (h1 + 8) (vi_m 12 (M (h2 + 8)) (M (h1 + 8)))) (h1 + 9) (vi_m 6 (M (h2 + 9)) (M (h1 + 9)))) h1 (fun k => if 6 ≤ k ∧ k < 12 then M h2 k else M h1 k)) h1 12 1, n) := by
  have p1 := hh1.1
  have B := fun {K : Option vi_V → vi_W → Prop} => k_42 (d := d) (n := n) (K := K) hh1 hh2 hne e1 e2 e3 l1 l2 l3 i1 i2 i3 hlw hlw2
  refine vi_k (r := none) fun Q hQ => ?_
  simp (disch := omega) only [Option.toList_some, Option.toList_none, List.nil_append, List.cons_append, List.append_nil, true_and, and_true, not_true_eq_false, not_false_eq_true, true_implies, false_implies, implies_true, and_self, Int.reduceLT, Int.reduceLE, Int.reduceEq, Int.reduceNe, Int.reduceAdd, Int.reduceSub, Int.reduceMul, Int.reduceNeg, Int.reduceToNat, Int.toNat_natCast, ↓kk_ck, ↓kk_im, ↓kk_in, e_40, s_40_0, s_40_5, s_40_10, p1, B]
  exact hQ
end
