/-! The property of its own: its small methods. -/
theorem mod_e {x n : Int} (h1 : 1 ≤ n) (h2 : n ≤ 1000) : (vi_w32 (x.tmod n + n)).tmod n = x % n := by
  by_cases h : 0 ≤ x
  · have a := Int.emod_nonneg x (show n ≠ 0 by omega)
    have b := Int.emod_lt_of_pos x (show 0 < n by omega)
    rw [vi_tm h, vi_32 (by omega) (by omega), vi_tm (by omega), show x % n + n = x % n + n * 1 by omega, Int.add_mul_emod_self_left]
    exact Int.emod_eq_of_lt a b
  · obtain ⟨y, rfl⟩ : ∃ y, x = -y := ⟨-x, by omega⟩
    have a := Int.emod_nonneg y (show n ≠ 0 by omega)
    have b := Int.emod_lt_of_pos y (show 0 < n by omega)
    rw [Int.neg_tmod, vi_tm (show 0 ≤ y by omega), vi_32 (by omega) (by omega), vi_tm (by omega)]
    have e : -(y % n) + n = -y + n * (y / n + 1) := by
      rw [Int.emod_def, Int.mul_add]
      omega
    rw [e, Int.add_mul_emod_self_left]
section
variable {d : Nat} {K : Option vi_V → vi_W → Prop} {Y : vi_Y} {M : vi_M} {nn : Nat × Nat}
theorem lk_234 {x n : Int} (h1 : 1 ≤ n) (h2 : n ≤ 1000) : vi_call GG (d + 1) 234 [.inl x, .inl n] (Y, M, nn) K ↔ K (some (.inl (x % n))) (Y, M, nn) := by
  have hn : ¬ n = 0 := by omega
  refine vi_k (r := some (.inl _)) fun Q hQ => ?_
  simp (disch := omega) only [Option.toList_some, Option.toList_none, List.nil_append, List.cons_append, List.append_nil, true_and, and_true, not_true_eq_false, not_false_eq_true, true_implies, false_implies, implies_true, and_self, Int.reduceLT, Int.reduceLE, Int.reduceEq, Int.reduceNe, Int.reduceAdd, Int.reduceSub, Int.reduceMul, Int.reduceNeg, Int.reduceToNat, Int.toNat_natCast, ↓kk_ck, ↓kk_im, ↓kk_in, e_234, s_234_0, s_234_3, s_234_7, hn, @mod_e x n h1 h2]
  exact hQ
theorem lk_237 {a u v w : Int} (ha : 0 ≤ a ∧ a ≤ 2) (hu : 0 ≤ u ∧ u ≤ 5) (hv : 0 ≤ v ∧ v ≤ 5) (hw : 0 ≤ w ∧ w ≤ 5) : vi_call GG (d + 1) 237 [.inl a, .inl u, .inl v, .inl w] (Y, M, nn) K ↔ K (some (.inl (mHa a.toNat u v w))) (Y, M, nn) := by
  refine vi_k (r := some (.inl _)) fun Q hQ => ?_
  obtain rfl | rfl | rfl : a = 0 ∨ a = 1 ∨ a = 2 := by omega
  · have e : mHa (0 : Int).toNat u v w = 36 * v + 6 * u + w := rfl
    simp (disch := omega) only [Option.toList_some, Option.toList_none, List.nil_append, List.cons_append, List.append_nil, true_and, and_true, not_true_eq_false, not_false_eq_true, true_implies, false_implies, implies_true, and_self, Int.reduceLT, Int.reduceLE, Int.reduceEq, Int.reduceNe, Int.reduceAdd, Int.reduceSub, Int.reduceMul, Int.reduceNeg, Int.reduceToNat, Int.toNat_natCast, ↓kk_ck, ↓kk_im, ↓kk_in, e_237, s_237_0, s_237_4, s_237_18, s_237_23, s_237_37, s_237_48, ne_eq, vi_32]
    exact vi_qI hQ (by rw [e]; omega) rfl
  · have e : mHa (1 : Int).toNat u v w = 36 * v + 6 * w + u := rfl
    simp (disch := omega) only [Option.toList_some, Option.toList_none, List.nil_append, List.cons_append, List.append_nil, true_and, and_true, not_true_eq_false, not_false_eq_true, true_implies, false_implies, implies_true, and_self, Int.reduceLT, Int.reduceLE, Int.reduceEq, Int.reduceNe, Int.reduceAdd, Int.reduceSub, Int.reduceMul, Int.reduceNeg, Int.reduceToNat, Int.toNat_natCast, ↓kk_ck, ↓kk_im, ↓kk_in, e_237, s_237_0, s_237_4, s_237_18, s_237_23, s_237_37, s_237_48, ne_eq, vi_32]
    exact vi_qI hQ (by rw [e]; omega) rfl
  · have e : mHa (2 : Int).toNat u v w = 36 * w + 6 * v + u := rfl
    simp (disch := omega) only [Option.toList_some, Option.toList_none, List.nil_append, List.cons_append, List.append_nil, true_and, and_true, not_true_eq_false, not_false_eq_true, true_implies, false_implies, implies_true, and_self, Int.reduceLT, Int.reduceLE, Int.reduceEq, Int.reduceNe, Int.reduceAdd, Int.reduceSub, Int.reduceMul, Int.reduceNeg, Int.reduceToNat, Int.toNat_natCast, ↓kk_ck, ↓kk_im, ↓kk_in, e_237, s_237_0, s_237_4, s_237_18, s_237_23, s_237_37, s_237_48, ne_eq, vi_32]
    exact vi_qI hQ (by rw [e]; omega) rfl
def rdE (x y z c : Int) : Int := (if c % 6 = 0 then 1 else 0) + (if c % 6 = x - 1 then 1 else 0) + (if c / 6 % 6 = 0 then 1 else 0) + (if c / 6 % 6 = y - 1 then 1 else 0) + (if c / 36 = 0 then 1 else 0) + (if c / 36 = z - 1 then 1 else 0)
theorem it_b {p : Prop} [Decidable p] : 0 ≤ (if p then (1 : Int) else 0) ∧ (if p then (1 : Int) else 0) ≤ 1 := by split <;> omega
theorem lk_238 {q : Nat} {x y z : Int} (h1 : Y.1 q = 1) (h2 : (Y.2.1 q : Int) = 222) (e0 : M q 0 = x) (e1 : M q 1 = y) (e2 : M q 2 = z) (hx : 1 ≤ x ∧ x ≤ 6) (hy : 1 ≤ y ∧ y ≤ 6) (hz : 1 ≤ z ∧ z ≤ 6) {c : Int} (hc : 0 ≤ c ∧ c < 216) : vi_call GG (d + 1) 238 [.inr (.inr q), .inl c] (Y, M, nn) K ↔ K (some (.inl (rdE x y z c))) (Y, M, nn) := by
  refine vi_k (r := some (.inl _)) fun Q hQ => ?_
  rw [e_238]
  have t0 : ∀ (b2 : Int), b2 = (if c % 6 = 0 then 1 else 0) → vi_ok GG d 238 12 [some (.inr (.inr q)), some (.inl c)] [.inl b2] (Y, M, nn) Q → vi_ok GG d 238 0 [some (.inr (.inr q)), some (.inl c)] [] (Y, M, nn) Q := by
    intro b2 hb hq
    by_cases h : c % 6 = 0
    · rw [if_pos h] at hb
      subst hb
      simp (disch := omega) only [Option.toList_some, Option.toList_none, List.nil_append, List.cons_append, List.append_nil, true_and, and_true, not_true_eq_false, not_false_eq_true, true_implies, false_implies, implies_true, and_self, Int.reduceLT, Int.reduceLE, Int.reduceEq, Int.reduceNe, Int.reduceAdd, Int.reduceSub, Int.reduceMul, Int.reduceNeg, Int.reduceToNat, Int.toNat_natCast, ↓kk_ck, ↓kk_im, ↓kk_in, s_238_0, s_238_4, s_238_7, vi_tm, vi_td, vi_32, h, h1, h2, e0, e1, e2, ne_eq]
      exact hq
    · rw [if_neg h] at hb
      subst hb
      simp (disch := omega) only [Option.toList_some, Option.toList_none, List.nil_append, List.cons_append, List.append_nil, true_and, and_true, not_true_eq_false, not_false_eq_true, true_implies, false_implies, implies_true, and_self, Int.reduceLT, Int.reduceLE, Int.reduceEq, Int.reduceNe, Int.reduceAdd, Int.reduceSub, Int.reduceMul, Int.reduceNeg, Int.reduceToNat, Int.toNat_natCast, ↓kk_ck, ↓kk_im, ↓kk_in, s_238_0, s_238_4, s_238_11, vi_tm, vi_td, vi_32, h, h1, h2, e0, e1, e2, ne_eq]
      exact hq
  have t1 : ∀ (S : Int) (hS : 0 ≤ S ∧ S ≤ 10) (b2 : Int), b2 = (if c % 6 = x - 1 then 1 else 0) → vi_ok GG d 238 29 [some (.inr (.inr q)), some (.inl c)] [.inl b2, .inl S] (Y, M, nn) Q → vi_ok GG d 238 12 [some (.inr (.inr q)), some (.inl c)] [.inl S] (Y, M, nn) Q := by
    intro S hS b2 hb hq
    by_cases h : c % 6 = x - 1
    · rw [if_pos h] at hb
      subst hb
      simp (disch := omega) only [Option.toList_some, Option.toList_none, List.nil_append, List.cons_append, List.append_nil, true_and, and_true, not_true_eq_false, not_false_eq_true, true_implies, false_implies, implies_true, and_self, Int.reduceLT, Int.reduceLE, Int.reduceEq, Int.reduceNe, Int.reduceAdd, Int.reduceSub, Int.reduceMul, Int.reduceNeg, Int.reduceToNat, Int.toNat_natCast, ↓kk_ck, ↓kk_im, ↓kk_in, s_238_12, s_238_19, s_238_21, s_238_24, vi_tm, vi_td, vi_32, h, h1, h2, e0, e1, e2, ne_eq]
      exact hq
    · rw [if_neg h] at hb
      subst hb
      simp (disch := omega) only [Option.toList_some, Option.toList_none, List.nil_append, List.cons_append, List.append_nil, true_and, and_true, not_true_eq_false, not_false_eq_true, true_implies, false_implies, implies_true, and_self, Int.reduceLT, Int.reduceLE, Int.reduceEq, Int.reduceNe, Int.reduceAdd, Int.reduceSub, Int.reduceMul, Int.reduceNeg, Int.reduceToNat, Int.toNat_natCast, ↓kk_ck, ↓kk_im, ↓kk_in, s_238_12, s_238_19, s_238_21, s_238_28, vi_tm, vi_td, vi_32, h, h1, h2, e0, e1, e2, ne_eq]
      exact hq
  have t2 : ∀ (S b : Int) (hS : 0 ≤ S ∧ S ≤ 10) (hb0 : 0 ≤ b ∧ b ≤ 1) (b2 : Int), b2 = (if c / 6 % 6 = 0 then 1 else 0) → vi_ok GG d 238 45 [some (.inr (.inr q)), some (.inl c)] [.inl b2, .inl (S + b)] (Y, M, nn) Q → vi_ok GG d 238 29 [some (.inr (.inr q)), some (.inl c)] [.inl b, .inl S] (Y, M, nn) Q := by
    intro S b hS hb0 b2 hb hq
    by_cases h : c / 6 % 6 = 0
    · rw [if_pos h] at hb
      subst hb
      simp (disch := omega) only [Option.toList_some, Option.toList_none, List.nil_append, List.cons_append, List.append_nil, true_and, and_true, not_true_eq_false, not_false_eq_true, true_implies, false_implies, implies_true, and_self, Int.reduceLT, Int.reduceLE, Int.reduceEq, Int.reduceNe, Int.reduceAdd, Int.reduceSub, Int.reduceMul, Int.reduceNeg, Int.reduceToNat, Int.toNat_natCast, ↓kk_ck, ↓kk_im, ↓kk_in, s_238_29, s_238_37, s_238_40, vi_tm, vi_td, vi_32, h, h1, h2, e0, e1, e2, ne_eq]
      exact hq
    · rw [if_neg h] at hb
      subst hb
      simp (disch := omega) only [Option.toList_some, Option.toList_none, List.nil_append, List.cons_append, List.append_nil, true_and, and_true, not_true_eq_false, not_false_eq_true, true_implies, false_implies, implies_true, and_self, Int.reduceLT, Int.reduceLE, Int.reduceEq, Int.reduceNe, Int.reduceAdd, Int.reduceSub, Int.reduceMul, Int.reduceNeg, Int.reduceToNat, Int.toNat_natCast, ↓kk_ck, ↓kk_im, ↓kk_in, s_238_29, s_238_37, s_238_44, vi_tm, vi_td, vi_32, h, h1, h2, e0, e1, e2, ne_eq]
      exact hq
  have t3 : ∀ (S b : Int) (hS : 0 ≤ S ∧ S ≤ 10) (hb0 : 0 ≤ b ∧ b ≤ 1) (b2 : Int), b2 = (if c / 6 % 6 = y - 1 then 1 else 0) → vi_ok GG d 238 66 [some (.inr (.inr q)), some (.inl c)] [.inl b2, .inl (S + b)] (Y, M, nn) Q → vi_ok GG d 238 45 [some (.inr (.inr q)), some (.inl c)] [.inl b, .inl S] (Y, M, nn) Q := by
    intro S b hS hb0 b2 hb hq
    by_cases h : c / 6 % 6 = y - 1
    · rw [if_pos h] at hb
      subst hb
      simp (disch := omega) only [Option.toList_some, Option.toList_none, List.nil_append, List.cons_append, List.append_nil, true_and, and_true, not_true_eq_false, not_false_eq_true, true_implies, false_implies, implies_true, and_self, Int.reduceLT, Int.reduceLE, Int.reduceEq, Int.reduceNe, Int.reduceAdd, Int.reduceSub, Int.reduceMul, Int.reduceNeg, Int.reduceToNat, Int.toNat_natCast, ↓kk_ck, ↓kk_im, ↓kk_in, s_238_45, s_238_56, s_238_58, s_238_61, vi_tm, vi_td, vi_32, h, h1, h2, e0, e1, e2, ne_eq]
      exact hq
    · rw [if_neg h] at hb
      subst hb
      simp (disch := omega) only [Option.toList_some, Option.toList_none, List.nil_append, List.cons_append, List.append_nil, true_and, and_true, not_true_eq_false, not_false_eq_true, true_implies, false_implies, implies_true, and_self, Int.reduceLT, Int.reduceLE, Int.reduceEq, Int.reduceNe, Int.reduceAdd, Int.reduceSub, Int.reduceMul, Int.reduceNeg, Int.reduceToNat, Int.toNat_natCast, ↓kk_ck, ↓kk_im, ↓kk_in, s_238_45, s_238_56, s_238_58, s_238_65, vi_tm, vi_td, vi_32, h, h1, h2, e0, e1, e2, ne_eq]
      exact hq
  have t4 : ∀ (S b : Int) (hS : 0 ≤ S ∧ S ≤ 10) (hb0 : 0 ≤ b ∧ b ≤ 1) (b2 : Int), b2 = (if c / 36 = 0 then 1 else 0) → vi_ok GG d 238 79 [some (.inr (.inr q)), some (.inl c)] [.inl b2, .inl (S + b)] (Y, M, nn) Q → vi_ok GG d 238 66 [some (.inr (.inr q)), some (.inl c)] [.inl b, .inl S] (Y, M, nn) Q := by
    intro S b hS hb0 b2 hb hq
    by_cases h : c / 36 = 0
    · rw [if_pos h] at hb
      subst hb
      simp (disch := omega) only [Option.toList_some, Option.toList_none, List.nil_append, List.cons_append, List.append_nil, true_and, and_true, not_true_eq_false, not_false_eq_true, true_implies, false_implies, implies_true, and_self, Int.reduceLT, Int.reduceLE, Int.reduceEq, Int.reduceNe, Int.reduceAdd, Int.reduceSub, Int.reduceMul, Int.reduceNeg, Int.reduceToNat, Int.toNat_natCast, ↓kk_ck, ↓kk_im, ↓kk_in, s_238_66, s_238_71, s_238_74, vi_tm, vi_td, vi_32, h, h1, h2, e0, e1, e2, ne_eq]
      exact hq
    · rw [if_neg h] at hb
      subst hb
      simp (disch := omega) only [Option.toList_some, Option.toList_none, List.nil_append, List.cons_append, List.append_nil, true_and, and_true, not_true_eq_false, not_false_eq_true, true_implies, false_implies, implies_true, and_self, Int.reduceLT, Int.reduceLE, Int.reduceEq, Int.reduceNe, Int.reduceAdd, Int.reduceSub, Int.reduceMul, Int.reduceNeg, Int.reduceToNat, Int.toNat_natCast, ↓kk_ck, ↓kk_im, ↓kk_in, s_238_66, s_238_71, s_238_78, vi_tm, vi_td, vi_32, h, h1, h2, e0, e1, e2, ne_eq]
      exact hq
  have t5 : ∀ (S b : Int) (hS : 0 ≤ S ∧ S ≤ 10) (hb0 : 0 ≤ b ∧ b ≤ 1) (b2 : Int), b2 = (if c / 36 = z - 1 then 1 else 0) → vi_ok GG d 238 97 [some (.inr (.inr q)), some (.inl c)] [.inl b2, .inl (S + b)] (Y, M, nn) Q → vi_ok GG d 238 79 [some (.inr (.inr q)), some (.inl c)] [.inl b, .inl S] (Y, M, nn) Q := by
    intro S b hS hb0 b2 hb hq
    by_cases h : c / 36 = z - 1
    · rw [if_pos h] at hb
      subst hb
      simp (disch := omega) only [Option.toList_some, Option.toList_none, List.nil_append, List.cons_append, List.append_nil, true_and, and_true, not_true_eq_false, not_false_eq_true, true_implies, false_implies, implies_true, and_self, Int.reduceLT, Int.reduceLE, Int.reduceEq, Int.reduceNe, Int.reduceAdd, Int.reduceSub, Int.reduceMul, Int.reduceNeg, Int.reduceToNat, Int.toNat_natCast, ↓kk_ck, ↓kk_im, ↓kk_in, s_238_79, s_238_87, s_238_89, s_238_92, vi_tm, vi_td, vi_32, h, h1, h2, e0, e1, e2, ne_eq]
      exact hq
    · rw [if_neg h] at hb
      subst hb
      simp (disch := omega) only [Option.toList_some, Option.toList_none, List.nil_append, List.cons_append, List.append_nil, true_and, and_true, not_true_eq_false, not_false_eq_true, true_implies, false_implies, implies_true, and_self, Int.reduceLT, Int.reduceLE, Int.reduceEq, Int.reduceNe, Int.reduceAdd, Int.reduceSub, Int.reduceMul, Int.reduceNeg, Int.reduceToNat, Int.toNat_natCast, ↓kk_ck, ↓kk_im, ↓kk_in, s_238_79, s_238_87, s_238_89, s_238_96, vi_tm, vi_td, vi_32, h, h1, h2, e0, e1, e2, ne_eq]
      exact hq
  have i0 := @it_b (c % 6 = 0) _
  have i1 := @it_b (c % 6 = x - 1) _
  have i2 := @it_b (c / 6 % 6 = 0) _
  have i3 := @it_b (c / 6 % 6 = y - 1) _
  have i4 := @it_b (c / 36 = 0) _
  have i5 := @it_b (c / 36 = z - 1) _
  unfold rdE at hQ
  refine t0 _ rfl (t1 _ (by omega) _ rfl (t2 _ _ (by omega) i1 _ rfl (t3 _ _ (by omega) i2 _ rfl (t4 _ _ (by omega) i3 _ rfl (t5 _ _ (by omega) i4 _ rfl ?_)))))
  clear t0 t1 t2 t3 t4 t5
  rw [s_238_97, vi_32 (by omega) (by omega)]
  exact hQ
theorem lk_239 {q : Nat} (h1 : Y.1 q = 1) (h2 : (Y.2.1 q : Int) = 222) {c : Nat} (hc : c < 216) : vi_call GG (d + 1) 239 [.inr (.inr q), .inl (c : Int)] (Y, M, nn) K ↔ K (some (.inl (vi_b (decide (M q (6 + c) = 0 ∧ ¬ (M q 5 = 1 ∧ c % 6 + c / 6 % 6 + c / 36 = 5)))))) (Y, M, nn) := by
  refine vi_k (r := some (.inl _)) fun Q hQ => ?_
  have e6 : (6 + (c : Int)).toNat = 6 + c := by omega
  have e5 : (5 : Int).toNat = 5 := rfl
  by_cases a : M q (6 + c) = 0
  · by_cases b : M q 5 = 1
    · by_cases g : c % 6 + c / 6 % 6 + c / 36 = 5
      · rw [vi_bn (fun k => k.2 ⟨b, g⟩)] at hQ
        have g' : (c : Int) % 6 + (c : Int) / 6 % 6 + (c : Int) / 36 = 5 := by omega
        simp (disch := omega) only [Option.toList_some, Option.toList_none, List.nil_append, List.cons_append, List.append_nil, true_and, and_true, not_true_eq_false, not_false_eq_true, true_implies, false_implies, implies_true, and_self, Int.reduceLT, Int.reduceLE, Int.reduceEq, Int.reduceNe, Int.reduceAdd, Int.reduceSub, Int.reduceMul, Int.reduceNeg, Int.reduceToNat, Int.toNat_natCast, ↓kk_ck, ↓kk_im, ↓kk_in, e_239, s_239_0, s_239_4, s_239_11, s_239_20, s_239_27, s_239_48, s_239_52, s_239_53, s_239_16, s_239_23, s_239_45, s_239_17, vi_tm, vi_td, vi_32, h1, h2, e6, a, b, g', e5, ne_eq]
        exact hQ
      · rw [vi_bp ⟨a, fun k => g k.2⟩] at hQ
        have g' : ¬ (c : Int) % 6 + (c : Int) / 6 % 6 + (c : Int) / 36 = 5 := by omega
        simp (disch := omega) only [Option.toList_some, Option.toList_none, List.nil_append, List.cons_append, List.append_nil, true_and, and_true, not_true_eq_false, not_false_eq_true, true_implies, false_implies, implies_true, and_self, Int.reduceLT, Int.reduceLE, Int.reduceEq, Int.reduceNe, Int.reduceAdd, Int.reduceSub, Int.reduceMul, Int.reduceNeg, Int.reduceToNat, Int.toNat_natCast, ↓kk_ck, ↓kk_im, ↓kk_in, e_239, s_239_0, s_239_4, s_239_11, s_239_20, s_239_27, s_239_48, s_239_52, s_239_53, s_239_16, s_239_23, s_239_45, s_239_17, vi_tm, vi_td, vi_32, h1, h2, e6, a, b, g', e5, ne_eq]
        exact hQ
    · rw [vi_bp ⟨a, fun k => b k.1⟩] at hQ
      simp (disch := omega) only [Option.toList_some, Option.toList_none, List.nil_append, List.cons_append, List.append_nil, true_and, and_true, not_true_eq_false, not_false_eq_true, true_implies, false_implies, implies_true, and_self, Int.reduceLT, Int.reduceLE, Int.reduceEq, Int.reduceNe, Int.reduceAdd, Int.reduceSub, Int.reduceMul, Int.reduceNeg, Int.reduceToNat, Int.toNat_natCast, ↓kk_ck, ↓kk_im, ↓kk_in, e_239, s_239_0, s_239_4, s_239_11, s_239_20, s_239_27, s_239_48, s_239_52, s_239_53, s_239_16, s_239_23, s_239_45, s_239_17, vi_tm, vi_td, vi_32, h1, h2, e6, a, b, e5, ne_eq]
      exact hQ
  · rw [vi_bn (fun k => a k.1)] at hQ
    simp (disch := omega) only [Option.toList_some, Option.toList_none, List.nil_append, List.cons_append, List.append_nil, true_and, and_true, not_true_eq_false, not_false_eq_true, true_implies, false_implies, implies_true, and_self, Int.reduceLT, Int.reduceLE, Int.reduceEq, Int.reduceNe, Int.reduceAdd, Int.reduceSub, Int.reduceMul, Int.reduceNeg, Int.reduceToNat, Int.toNat_natCast, ↓kk_ck, ↓kk_im, ↓kk_in, e_239, s_239_0, s_239_4, s_239_11, s_239_20, s_239_27, s_239_48, s_239_52, s_239_53, s_239_16, s_239_23, s_239_45, s_239_17, vi_tm, vi_td, vi_32, h1, h2, e6, a, e5, ne_eq]
    exact hQ
/-- the law's row of the box -/
def rBx (M : vi_M) (q : Nat) (f : Nat → Int) : Prop := M q 0 = f 96 ∧ M q 1 = f 97 ∧ M q 2 = f 98
theorem lk_240 {q : Nat} {f : Nat → Int} (h1 : Y.1 q = 1) (h2 : (Y.2.1 q : Int) = 222) (hr : rBx M q f) (hB : bxF f) {c s : Nat} (hc : c < 216) (hs : s < 6) (hcb : bxS f c = true) : vi_call GG (d + 1) 240 [.inr (.inr q), .inl (c : Int), .inl (s : Int)] (Y, M, nn) K ↔ K (some (.inl (mBe (rowM f) (c : Int) s))) (Y, M, nn) := by
  obtain ⟨r0, r1, r2⟩ := hr
  obtain ⟨b0, b1, b2⟩ := hB
  have hcb := of_decide_eq_true hcb
  have x0 : (0 : Int).toNat = 0 := rfl
  have x1 : (1 : Int).toNat = 1 := rfl
  have x2 : (2 : Int).toNat = 2 := rfl
  refine vi_k (r := some (.inl _)) fun Q hQ => ?_
  obtain rfl | rfl | rfl | rfl | rfl | rfl : s = 0 ∨ s = 1 ∨ s = 2 ∨ s = 3 ∨ s = 4 ∨ s = 5 := by omega
  · have e : mBe (rowM f) (c : Int) 0 = if (c : Int) % 6 = 0 then -1 else (c : Int) - 1 := rfl
    rw [e] at hQ
    clear e
    show vi_call GG (d + 1) 240 [.inr (.inr q), .inl (c : Int), .inl 0] (Y, M, nn) Q
    by_cases h : (c : Int) % 6 = 0
    · rw [if_pos h] at hQ
      have g : (c : Int) % 6 + -1 < 0 := by omega
      simp (disch := omega) only [Option.toList_some, Option.toList_none, List.nil_append, List.cons_append, List.append_nil, true_and, and_true, not_true_eq_false, not_false_eq_true, true_implies, false_implies, implies_true, and_self, Int.reduceLT, Int.reduceLE, Int.reduceEq, Int.reduceNe, Int.reduceAdd, Int.reduceSub, Int.reduceMul, Int.reduceNeg, Int.reduceToNat, Int.toNat_natCast, ↓kk_ck, ↓kk_im, ↓kk_in, e_240, s_240_0, s_240_5, s_240_12, s_240_17, s_240_27, s_240_31, s_240_39, s_240_43, s_240_44, s_240_52, s_240_62, s_240_64, s_240_74, s_240_78, s_240_83, s_240_88, s_240_90, s_240_36, s_240_49, s_240_58, s_240_59, show (0 : Int).tmod 2 = 0 from rfl, show (0 : Int).tdiv 2 = 0 from rfl, vi_tm, vi_td, vi_32, h1, h2, x0, x1, x2, r0, r1, r2, ne_eq]
      exact hQ
    · rw [if_neg h] at hQ
      simp (disch := omega) only [Option.toList_some, Option.toList_none, List.nil_append, List.cons_append, List.append_nil, true_and, and_true, not_true_eq_false, not_false_eq_true, true_implies, false_implies, implies_true, and_self, Int.reduceLT, Int.reduceLE, Int.reduceEq, Int.reduceNe, Int.reduceAdd, Int.reduceSub, Int.reduceMul, Int.reduceNeg, Int.reduceToNat, Int.toNat_natCast, ↓kk_ck, ↓kk_im, ↓kk_in, e_240, s_240_0, s_240_5, s_240_12, s_240_17, s_240_27, s_240_31, s_240_39, s_240_43, s_240_44, s_240_52, s_240_62, s_240_64, s_240_74, s_240_78, s_240_83, s_240_88, s_240_90, s_240_36, s_240_49, s_240_58, s_240_59, show (0 : Int).tmod 2 = 0 from rfl, show (0 : Int).tdiv 2 = 0 from rfl, vi_tm, vi_td, vi_32, h1, h2, x0, x1, x2, r0, r1, r2, ne_eq]
      refine vi_qI hQ ?_ rfl
      omega
  · have e : mBe (rowM f) (c : Int) 1 = if f 96 ≤ (c : Int) % 6 + 1 then -1 else (c : Int) + 1 := rfl
    rw [e] at hQ
    clear e
    show vi_call GG (d + 1) 240 [.inr (.inr q), .inl (c : Int), .inl 1] (Y, M, nn) Q
    by_cases h : f 96 ≤ (c : Int) % 6 + 1
    · rw [if_pos h] at hQ
      have g : f 96 ≤ (c : Int) % 6 + 1 := by omega
      simp (disch := omega) only [Option.toList_some, Option.toList_none, List.nil_append, List.cons_append, List.append_nil, true_and, and_true, not_true_eq_false, not_false_eq_true, true_implies, false_implies, implies_true, and_self, Int.reduceLT, Int.reduceLE, Int.reduceEq, Int.reduceNe, Int.reduceAdd, Int.reduceSub, Int.reduceMul, Int.reduceNeg, Int.reduceToNat, Int.toNat_natCast, ↓kk_ck, ↓kk_im, ↓kk_in, e_240, s_240_0, s_240_5, s_240_12, s_240_17, s_240_27, s_240_31, s_240_39, s_240_43, s_240_44, s_240_52, s_240_62, s_240_64, s_240_74, s_240_78, s_240_83, s_240_88, s_240_90, s_240_36, s_240_49, s_240_58, s_240_59, show (1 : Int).tmod 2 = 1 from rfl, show (1 : Int).tdiv 2 = 0 from rfl, vi_tm, vi_td, vi_32, h1, h2, x0, x1, x2, r0, r1, r2, ne_eq]
      exact hQ
    · rw [if_neg h] at hQ
      simp (disch := omega) only [Option.toList_some, Option.toList_none, List.nil_append, List.cons_append, List.append_nil, true_and, and_true, not_true_eq_false, not_false_eq_true, true_implies, false_implies, implies_true, and_self, Int.reduceLT, Int.reduceLE, Int.reduceEq, Int.reduceNe, Int.reduceAdd, Int.reduceSub, Int.reduceMul, Int.reduceNeg, Int.reduceToNat, Int.toNat_natCast, ↓kk_ck, ↓kk_im, ↓kk_in, e_240, s_240_0, s_240_5, s_240_12, s_240_17, s_240_27, s_240_31, s_240_39, s_240_43, s_240_44, s_240_52, s_240_62, s_240_64, s_240_74, s_240_78, s_240_83, s_240_88, s_240_90, s_240_36, s_240_49, s_240_58, s_240_59, show (1 : Int).tmod 2 = 1 from rfl, show (1 : Int).tdiv 2 = 0 from rfl, vi_tm, vi_td, vi_32, h1, h2, x0, x1, x2, r0, r1, r2, ne_eq]
      refine vi_qI hQ ?_ rfl
      omega
  · have e : mBe (rowM f) (c : Int) 2 = if (c : Int) / 6 % 6 = 0 then -1 else (c : Int) - 6 := rfl
    rw [e] at hQ
    clear e
    show vi_call GG (d + 1) 240 [.inr (.inr q), .inl (c : Int), .inl 2] (Y, M, nn) Q
    by_cases h : (c : Int) / 6 % 6 = 0
    · rw [if_pos h] at hQ
      have g : (c : Int) / 6 % 6 + -1 < 0 := by omega
      simp (disch := omega) only [Option.toList_some, Option.toList_none, List.nil_append, List.cons_append, List.append_nil, true_and, and_true, not_true_eq_false, not_false_eq_true, true_implies, false_implies, implies_true, and_self, Int.reduceLT, Int.reduceLE, Int.reduceEq, Int.reduceNe, Int.reduceAdd, Int.reduceSub, Int.reduceMul, Int.reduceNeg, Int.reduceToNat, Int.toNat_natCast, ↓kk_ck, ↓kk_im, ↓kk_in, e_240, s_240_0, s_240_5, s_240_12, s_240_17, s_240_27, s_240_31, s_240_39, s_240_43, s_240_44, s_240_52, s_240_62, s_240_64, s_240_74, s_240_78, s_240_83, s_240_88, s_240_90, s_240_36, s_240_49, s_240_58, s_240_59, show (2 : Int).tmod 2 = 0 from rfl, show (2 : Int).tdiv 2 = 1 from rfl, vi_tm, vi_td, vi_32, h1, h2, x0, x1, x2, r0, r1, r2, ne_eq]
      exact hQ
    · rw [if_neg h] at hQ
      simp (disch := omega) only [Option.toList_some, Option.toList_none, List.nil_append, List.cons_append, List.append_nil, true_and, and_true, not_true_eq_false, not_false_eq_true, true_implies, false_implies, implies_true, and_self, Int.reduceLT, Int.reduceLE, Int.reduceEq, Int.reduceNe, Int.reduceAdd, Int.reduceSub, Int.reduceMul, Int.reduceNeg, Int.reduceToNat, Int.toNat_natCast, ↓kk_ck, ↓kk_im, ↓kk_in, e_240, s_240_0, s_240_5, s_240_12, s_240_17, s_240_27, s_240_31, s_240_39, s_240_43, s_240_44, s_240_52, s_240_62, s_240_64, s_240_74, s_240_78, s_240_83, s_240_88, s_240_90, s_240_36, s_240_49, s_240_58, s_240_59, show (2 : Int).tmod 2 = 0 from rfl, show (2 : Int).tdiv 2 = 1 from rfl, vi_tm, vi_td, vi_32, h1, h2, x0, x1, x2, r0, r1, r2, ne_eq]
      refine vi_qI hQ ?_ rfl
      omega
  · have e : mBe (rowM f) (c : Int) 3 = if f 97 ≤ (c : Int) / 6 % 6 + 1 then -1 else (c : Int) + 6 := rfl
    rw [e] at hQ
    clear e
    show vi_call GG (d + 1) 240 [.inr (.inr q), .inl (c : Int), .inl 3] (Y, M, nn) Q
    by_cases h : f 97 ≤ (c : Int) / 6 % 6 + 1
    · rw [if_pos h] at hQ
      have g : f 97 ≤ (c : Int) / 6 % 6 + 1 := by omega
      simp (disch := omega) only [Option.toList_some, Option.toList_none, List.nil_append, List.cons_append, List.append_nil, true_and, and_true, not_true_eq_false, not_false_eq_true, true_implies, false_implies, implies_true, and_self, Int.reduceLT, Int.reduceLE, Int.reduceEq, Int.reduceNe, Int.reduceAdd, Int.reduceSub, Int.reduceMul, Int.reduceNeg, Int.reduceToNat, Int.toNat_natCast, ↓kk_ck, ↓kk_im, ↓kk_in, e_240, s_240_0, s_240_5, s_240_12, s_240_17, s_240_27, s_240_31, s_240_39, s_240_43, s_240_44, s_240_52, s_240_62, s_240_64, s_240_74, s_240_78, s_240_83, s_240_88, s_240_90, s_240_36, s_240_49, s_240_58, s_240_59, show (3 : Int).tmod 2 = 1 from rfl, show (3 : Int).tdiv 2 = 1 from rfl, vi_tm, vi_td, vi_32, h1, h2, x0, x1, x2, r0, r1, r2, ne_eq]
      exact hQ
    · rw [if_neg h] at hQ
      simp (disch := omega) only [Option.toList_some, Option.toList_none, List.nil_append, List.cons_append, List.append_nil, true_and, and_true, not_true_eq_false, not_false_eq_true, true_implies, false_implies, implies_true, and_self, Int.reduceLT, Int.reduceLE, Int.reduceEq, Int.reduceNe, Int.reduceAdd, Int.reduceSub, Int.reduceMul, Int.reduceNeg, Int.reduceToNat, Int.toNat_natCast, ↓kk_ck, ↓kk_im, ↓kk_in, e_240, s_240_0, s_240_5, s_240_12, s_240_17, s_240_27, s_240_31, s_240_39, s_240_43, s_240_44, s_240_52, s_240_62, s_240_64, s_240_74, s_240_78, s_240_83, s_240_88, s_240_90, s_240_36, s_240_49, s_240_58, s_240_59, show (3 : Int).tmod 2 = 1 from rfl, show (3 : Int).tdiv 2 = 1 from rfl, vi_tm, vi_td, vi_32, h1, h2, x0, x1, x2, r0, r1, r2, ne_eq]
      refine vi_qI hQ ?_ rfl
      omega
  · have e : mBe (rowM f) (c : Int) 4 = if (c : Int) / 36 = 0 then -1 else (c : Int) - 36 := rfl
    rw [e] at hQ
    clear e
    show vi_call GG (d + 1) 240 [.inr (.inr q), .inl (c : Int), .inl 4] (Y, M, nn) Q
    by_cases h : (c : Int) / 36 = 0
    · rw [if_pos h] at hQ
      have g : (c : Int) / 36 + -1 < 0 := by omega
      simp (disch := omega) only [Option.toList_some, Option.toList_none, List.nil_append, List.cons_append, List.append_nil, true_and, and_true, not_true_eq_false, not_false_eq_true, true_implies, false_implies, implies_true, and_self, Int.reduceLT, Int.reduceLE, Int.reduceEq, Int.reduceNe, Int.reduceAdd, Int.reduceSub, Int.reduceMul, Int.reduceNeg, Int.reduceToNat, Int.toNat_natCast, ↓kk_ck, ↓kk_im, ↓kk_in, e_240, s_240_0, s_240_5, s_240_12, s_240_17, s_240_27, s_240_31, s_240_39, s_240_43, s_240_44, s_240_52, s_240_62, s_240_64, s_240_74, s_240_78, s_240_83, s_240_88, s_240_90, s_240_36, s_240_49, s_240_58, s_240_59, show (4 : Int).tmod 2 = 0 from rfl, show (4 : Int).tdiv 2 = 2 from rfl, vi_tm, vi_td, vi_32, h1, h2, x0, x1, x2, r0, r1, r2, ne_eq]
      exact hQ
    · rw [if_neg h] at hQ
      simp (disch := omega) only [Option.toList_some, Option.toList_none, List.nil_append, List.cons_append, List.append_nil, true_and, and_true, not_true_eq_false, not_false_eq_true, true_implies, false_implies, implies_true, and_self, Int.reduceLT, Int.reduceLE, Int.reduceEq, Int.reduceNe, Int.reduceAdd, Int.reduceSub, Int.reduceMul, Int.reduceNeg, Int.reduceToNat, Int.toNat_natCast, ↓kk_ck, ↓kk_im, ↓kk_in, e_240, s_240_0, s_240_5, s_240_12, s_240_17, s_240_27, s_240_31, s_240_39, s_240_43, s_240_44, s_240_52, s_240_62, s_240_64, s_240_74, s_240_78, s_240_83, s_240_88, s_240_90, s_240_36, s_240_49, s_240_58, s_240_59, show (4 : Int).tmod 2 = 0 from rfl, show (4 : Int).tdiv 2 = 2 from rfl, vi_tm, vi_td, vi_32, h1, h2, x0, x1, x2, r0, r1, r2, ne_eq]
      refine vi_qI hQ ?_ rfl
      omega
  · have e : mBe (rowM f) (c : Int) 5 = if f 98 ≤ (c : Int) / 36 + 1 then -1 else (c : Int) + 36 := rfl
    rw [e] at hQ
    clear e
    show vi_call GG (d + 1) 240 [.inr (.inr q), .inl (c : Int), .inl 5] (Y, M, nn) Q
    by_cases h : f 98 ≤ (c : Int) / 36 + 1
    · rw [if_pos h] at hQ
      have g : f 98 ≤ (c : Int) / 36 + 1 := by omega
      simp (disch := omega) only [Option.toList_some, Option.toList_none, List.nil_append, List.cons_append, List.append_nil, true_and, and_true, not_true_eq_false, not_false_eq_true, true_implies, false_implies, implies_true, and_self, Int.reduceLT, Int.reduceLE, Int.reduceEq, Int.reduceNe, Int.reduceAdd, Int.reduceSub, Int.reduceMul, Int.reduceNeg, Int.reduceToNat, Int.toNat_natCast, ↓kk_ck, ↓kk_im, ↓kk_in, e_240, s_240_0, s_240_5, s_240_12, s_240_17, s_240_27, s_240_31, s_240_39, s_240_43, s_240_44, s_240_52, s_240_62, s_240_64, s_240_74, s_240_78, s_240_83, s_240_88, s_240_90, s_240_36, s_240_49, s_240_58, s_240_59, show (5 : Int).tmod 2 = 1 from rfl, show (5 : Int).tdiv 2 = 2 from rfl, vi_tm, vi_td, vi_32, h1, h2, x0, x1, x2, r0, r1, r2, ne_eq]
      exact hQ
    · rw [if_neg h] at hQ
      simp (disch := omega) only [Option.toList_some, Option.toList_none, List.nil_append, List.cons_append, List.append_nil, true_and, and_true, not_true_eq_false, not_false_eq_true, true_implies, false_implies, implies_true, and_self, Int.reduceLT, Int.reduceLE, Int.reduceEq, Int.reduceNe, Int.reduceAdd, Int.reduceSub, Int.reduceMul, Int.reduceNeg, Int.reduceToNat, Int.toNat_natCast, ↓kk_ck, ↓kk_im, ↓kk_in, e_240, s_240_0, s_240_5, s_240_12, s_240_17, s_240_27, s_240_31, s_240_39, s_240_43, s_240_44, s_240_52, s_240_62, s_240_64, s_240_74, s_240_78, s_240_83, s_240_88, s_240_90, s_240_36, s_240_49, s_240_58, s_240_59, show (5 : Int).tmod 2 = 1 from rfl, show (5 : Int).tdiv 2 = 2 from rfl, vi_tm, vi_td, vi_32, h1, h2, x0, x1, x2, r0, r1, r2, ne_eq]
      refine vi_qI hQ ?_ rfl
      omega
end
