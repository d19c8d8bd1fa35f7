/-! Contracts of Law (steps at p, clauses at p + 1, the law at p + 2, its words at p + 3, its stack at p + 4). -/
abbrev rB : Int := 4611686018427387904
def lJn (k a b : Int) : Int := if k = 7 then a + b else if k = 8 then a - b else if k = 9 then a * b else if k = 10 then (if b = 0 then rB else a.tdiv b) else if k = 11 then (if a < b then 1 else 0) else if k = 12 then (if b < a then 1 else 0) else if a = b then 1 else 0
/-- steps run, as the class runs them: k of them from a on; o: those below are left out; h: so many stand on the stack -/
def rS (st W : Nat → Int) : Nat → Nat → Int → Nat → (Nat → Int) → Int
  | 0, _, _, h, g => if h = 1 then g 0 else rB
  | k + 1, a, o, h, g => if (a : Int) < o then rS st W k (a + 1) o h g
    else if st a % 256 ≤ 6 then (if h < 64 then rS st W k (a + 1) o (h + 1) (vi_u g h (if st a % 256 = 0 then st a / 256 else W (st a % 256).toNat)) else rB)
    else if 14 ≤ st a % 256 then (if h = 0 then rB else if st a % 256 = 14 then rS st W k (a + 1) o h (vi_u g (h - 1) (1 - g (h - 1)))
      else if g (h - 1) = (if st a % 256 = 16 then 1 else 0) then rS st W k (a + 1) (st a / 256) h g else rS st W k (a + 1) o (h - 1) g)
    else if h < 2 then rB else if lJn (st a % 256) (g (h - 2)) (g (h - 1)) < -1000000000 ∨ 1000000000 < lJn (st a % 256) (g (h - 2)) (g (h - 1)) then rB
      else rS st W k (a + 1) o (h - 1) (vi_u g (h - 2) (lJn (st a % 256) (g (h - 2)) (g (h - 1))))
theorem rS_W {st W V : Nat → Int} (h : ∀ k, 1 ≤ k → k < 7 → W k = V k) (hs : ∀ a, 0 ≤ st a) : ∀ (k a : Nat) (o : Int) (hh : Nat) (g : Nat → Int), rS st W k a o hh g = rS st V k a o hh g
  | 0, _, _, _, _ => rfl
  | k + 1, a, o, hh, g => by
    have ih := rS_W h hs k
    rw [rS, rS]
    simp only [ih]
    by_cases h6 : st a % 256 ≤ 6
    · by_cases h0 : st a % 256 = 0
      · simp only [if_pos h0]
      · have := hs a
        simp only [if_neg h0, h (st a % 256).toNat (by omega) (by omega)]
    · simp only [if_neg h6]
/-- the places of a law -/
def kLw (Y : vi_Y) (p ls lc : Nat) : Prop := 118 < p ∧ Y.1 (p + 2) = 23 ∧ (Y.2.2 (p + 2) 0).toNat = p ∧ Y.1 p = 1 ∧ (Y.2.1 p : Int) = (ls : Int) ∧ (Y.2.2 (p + 2) 1).toNat = p + 1 ∧ Y.1 (p + 1) = 1 ∧ (Y.2.1 (p + 1) : Int) = (lc : Int) ∧ (Y.2.2 (p + 2) 2).toNat = p + 3 ∧ Y.1 (p + 3) = 1 ∧ (Y.2.1 (p + 3) : Int) = 7 ∧ (Y.2.2 (p + 2) 3).toNat = p + 4 ∧ Y.1 (p + 4) = 2 ∧ (Y.2.1 (p + 4) : Int) = 64
theorem sh8 {y : Int} : vi_shr32 y 8 = y / 256 := by unfold vi_shr32; rfl
theorem an8 {y : Int} (h0 : 0 ≤ y) (h1 : y < 2147483648) : vi_and32 y 255 = y % 256 := by
  obtain ⟨x, rfl⟩ : ∃ x : Nat, y = (x : Int) := ⟨y.toNat, by omega⟩
  have := vi_and32w (x := x) (k := 8) (by omega)
  have e : ((2 ^ 8 - 1 : Nat) : Int) = 255 := by decide
  rw [e, vi_32 (by omega) (by omega)] at this
  rw [this]
  omega
theorem kk_m1 {a : Nat} : ((a + 1 : Nat) : Int) - 1 = (a : Int) := by omega
theorem kk_m1' {a : Nat} : ((a + 1 : Nat) : Int) + -1 = (a : Int) := by omega
theorem kk_m2 {a : Nat} : ((a + 2 : Nat) : Int) - 2 = (a : Int) := by omega
theorem kk_m2' {a : Nat} : ((a + 2 : Nat) : Int) - 1 = ((a + 1 : Nat) : Int) := by omega
theorem kk_m2'' {a : Nat} : ((a + 2 : Nat) : Int) + -1 = ((a + 1 : Nat) : Int) := by omega
theorem mul_b {a b : Int} (ha : -1000000000 ≤ a ∧ a ≤ 1000000001) (hb : -1000000000 ≤ b ∧ b ≤ 1000000001) : -1000000002000000001 ≤ a * b ∧ a * b ≤ 1000000002000000001 := by
  have h1 : (a * b).natAbs = a.natAbs * b.natAbs := Int.natAbs_mul a b
  have h2 : a.natAbs * b.natAbs ≤ 1000000001 * 1000000001 := Nat.mul_le_mul (by omega) (by omega)
  generalize a * b = c at *
  omega
theorem tdiv_b {a b : Int} (ha : -1000000000 ≤ a ∧ a ≤ 1000000001) : -1000000001 ≤ a.tdiv b ∧ a.tdiv b ≤ 1000000001 := by
  have h1 : (a.tdiv b).natAbs = a.natAbs / b.natAbs := Int.natAbs_tdiv a b
  have h2 : a.natAbs / b.natAbs ≤ a.natAbs := Nat.div_le_self _ _
  generalize a.tdiv b = c at *
  omega
section
variable {d p ls lc : Nat} {K : Option vi_V → vi_W → Prop} {Y : vi_Y} {M : vi_M} {n : Nat × Nat}
theorem k_79 {k a b : Int} {w : vi_W} (hk : 7 ≤ k ∧ k ≤ 13) (ha : -1000000000 ≤ a ∧ a ≤ 1000000001) (hb : -1000000000 ≤ b ∧ b ≤ 1000000001) : vi_call GG (d + 1) 79 [.inl k, .inr (.inl a), .inr (.inl b)] w K ↔ K (some (.inr (.inl (lJn k a b)))) w := by
  obtain ⟨Y, M, n⟩ := w
  refine vi_k (r := some (.inr (.inl _))) fun Q hQ => ?_
  have m1 := mul_b ha hb
  have m2 := tdiv_b (b := b) ha
  obtain rfl | rfl | rfl | rfl | rfl | rfl | rfl : k = 7 ∨ k = 8 ∨ k = 9 ∨ k = 10 ∨ k = 11 ∨ k = 12 ∨ k = 13 := by omega
  · rw [show lJn 7 a b = a + b from rfl] at hQ
    simp (disch := omega) only [Option.toList_some, Option.toList_none, List.nil_append, List.cons_append, List.append_nil, true_and, and_true, not_true_eq_false, not_false_eq_true, true_implies, false_implies, implies_true, and_self, Int.reduceLT, Int.reduceLE, Int.reduceEq, Int.reduceNe, Int.reduceAdd, Int.reduceSub, Int.reduceMul, Int.reduceNeg, Int.reduceToNat, Int.toNat_natCast, ↓kk_ck, ↓kk_im, ↓kk_in, e_79, s_79_0, s_79_40, s_79_44, s_79_48, s_79_52, s_79_58, s_79_64, s_79_67, s_79_68, s_79_74, s_79_78, s_79_79, s_79_80, s_79_86, s_79_90, s_79_91, s_79_92, s_79_98, s_79_102, s_79_103, s_79_55, s_79_71, s_79_83, s_79_95, vi_swp, ne_eq, vi_64]
    exact hQ
  · rw [show lJn 8 a b = a - b from rfl] at hQ
    simp (disch := omega) only [Option.toList_some, Option.toList_none, List.nil_append, List.cons_append, List.append_nil, true_and, and_true, not_true_eq_false, not_false_eq_true, true_implies, false_implies, implies_true, and_self, Int.reduceLT, Int.reduceLE, Int.reduceEq, Int.reduceNe, Int.reduceAdd, Int.reduceSub, Int.reduceMul, Int.reduceNeg, Int.reduceToNat, Int.toNat_natCast, ↓kk_ck, ↓kk_im, ↓kk_in, e_79, s_79_0, s_79_40, s_79_44, s_79_48, s_79_52, s_79_58, s_79_64, s_79_67, s_79_68, s_79_74, s_79_78, s_79_79, s_79_80, s_79_86, s_79_90, s_79_91, s_79_92, s_79_98, s_79_102, s_79_103, s_79_55, s_79_71, s_79_83, s_79_95, vi_swp, ne_eq, vi_64]
    exact hQ
  · rw [show lJn 9 a b = a * b from rfl] at hQ
    simp (disch := omega) only [Option.toList_some, Option.toList_none, List.nil_append, List.cons_append, List.append_nil, true_and, and_true, not_true_eq_false, not_false_eq_true, true_implies, false_implies, implies_true, and_self, Int.reduceLT, Int.reduceLE, Int.reduceEq, Int.reduceNe, Int.reduceAdd, Int.reduceSub, Int.reduceMul, Int.reduceNeg, Int.reduceToNat, Int.toNat_natCast, ↓kk_ck, ↓kk_im, ↓kk_in, e_79, s_79_0, s_79_40, s_79_44, s_79_48, s_79_52, s_79_58, s_79_64, s_79_67, s_79_68, s_79_74, s_79_78, s_79_79, s_79_80, s_79_86, s_79_90, s_79_91, s_79_92, s_79_98, s_79_102, s_79_103, s_79_55, s_79_71, s_79_83, s_79_95, vi_swp, ne_eq, vi_64]
    exact hQ
  · rw [show lJn 10 a b = if b = 0 then rB else a.tdiv b from rfl] at hQ
    by_cases h : b = 0
    · rw [if_pos h] at hQ
      simp (disch := omega) only [Option.toList_some, Option.toList_none, List.nil_append, List.cons_append, List.append_nil, true_and, and_true, not_true_eq_false, not_false_eq_true, true_implies, false_implies, implies_true, and_self, Int.reduceLT, Int.reduceLE, Int.reduceEq, Int.reduceNe, Int.reduceAdd, Int.reduceSub, Int.reduceMul, Int.reduceNeg, Int.reduceToNat, Int.toNat_natCast, ↓kk_ck, ↓kk_im, ↓kk_in, e_79, s_79_0, s_79_40, s_79_44, s_79_48, s_79_52, s_79_58, s_79_64, s_79_67, s_79_68, s_79_74, s_79_78, s_79_79, s_79_80, s_79_86, s_79_90, s_79_91, s_79_92, s_79_98, s_79_102, s_79_103, s_79_55, s_79_71, s_79_83, s_79_95, vi_swp, ne_eq, vi_cm0, h]
      exact hQ
    · rw [if_neg h] at hQ
      simp (disch := omega) only [Option.toList_some, Option.toList_none, List.nil_append, List.cons_append, List.append_nil, true_and, and_true, not_true_eq_false, not_false_eq_true, true_implies, false_implies, implies_true, and_self, Int.reduceLT, Int.reduceLE, Int.reduceEq, Int.reduceNe, Int.reduceAdd, Int.reduceSub, Int.reduceMul, Int.reduceNeg, Int.reduceToNat, Int.toNat_natCast, ↓kk_ck, ↓kk_im, ↓kk_in, e_79, s_79_0, s_79_40, s_79_44, s_79_48, s_79_52, s_79_58, s_79_64, s_79_67, s_79_68, s_79_74, s_79_78, s_79_79, s_79_80, s_79_86, s_79_90, s_79_91, s_79_92, s_79_98, s_79_102, s_79_103, s_79_55, s_79_71, s_79_83, s_79_95, vi_swp, ne_eq, vi_cm0, h, vi_64]
      exact hQ
  · rw [show lJn 11 a b = if a < b then 1 else 0 from rfl] at hQ
    by_cases h : a < b
    · rw [if_pos h] at hQ
      simp (disch := omega) only [Option.toList_some, Option.toList_none, List.nil_append, List.cons_append, List.append_nil, true_and, and_true, not_true_eq_false, not_false_eq_true, true_implies, false_implies, implies_true, and_self, Int.reduceLT, Int.reduceLE, Int.reduceEq, Int.reduceNe, Int.reduceAdd, Int.reduceSub, Int.reduceMul, Int.reduceNeg, Int.reduceToNat, Int.toNat_natCast, ↓kk_ck, ↓kk_im, ↓kk_in, e_79, s_79_0, s_79_40, s_79_44, s_79_48, s_79_52, s_79_58, s_79_64, s_79_67, s_79_68, s_79_74, s_79_78, s_79_79, s_79_80, s_79_86, s_79_90, s_79_91, s_79_92, s_79_98, s_79_102, s_79_103, s_79_55, s_79_71, s_79_83, s_79_95, vi_swp, ne_eq, vi_cmge]
      exact hQ
    · rw [if_neg h] at hQ
      simp (disch := omega) only [Option.toList_some, Option.toList_none, List.nil_append, List.cons_append, List.append_nil, true_and, and_true, not_true_eq_false, not_false_eq_true, true_implies, false_implies, implies_true, and_self, Int.reduceLT, Int.reduceLE, Int.reduceEq, Int.reduceNe, Int.reduceAdd, Int.reduceSub, Int.reduceMul, Int.reduceNeg, Int.reduceToNat, Int.toNat_natCast, ↓kk_ck, ↓kk_im, ↓kk_in, e_79, s_79_0, s_79_40, s_79_44, s_79_48, s_79_52, s_79_58, s_79_64, s_79_67, s_79_68, s_79_74, s_79_78, s_79_79, s_79_80, s_79_86, s_79_90, s_79_91, s_79_92, s_79_98, s_79_102, s_79_103, s_79_55, s_79_71, s_79_83, s_79_95, vi_swp, ne_eq, vi_cmge]
      exact hQ
  · rw [show lJn 12 a b = if b < a then 1 else 0 from rfl] at hQ
    by_cases h : b < a
    · rw [if_pos h] at hQ
      simp (disch := omega) only [Option.toList_some, Option.toList_none, List.nil_append, List.cons_append, List.append_nil, true_and, and_true, not_true_eq_false, not_false_eq_true, true_implies, false_implies, implies_true, and_self, Int.reduceLT, Int.reduceLE, Int.reduceEq, Int.reduceNe, Int.reduceAdd, Int.reduceSub, Int.reduceMul, Int.reduceNeg, Int.reduceToNat, Int.toNat_natCast, ↓kk_ck, ↓kk_im, ↓kk_in, e_79, s_79_0, s_79_40, s_79_44, s_79_48, s_79_52, s_79_58, s_79_64, s_79_67, s_79_68, s_79_74, s_79_78, s_79_79, s_79_80, s_79_86, s_79_90, s_79_91, s_79_92, s_79_98, s_79_102, s_79_103, s_79_55, s_79_71, s_79_83, s_79_95, vi_swp, ne_eq, vi_cmle]
      exact hQ
    · rw [if_neg h] at hQ
      simp (disch := omega) only [Option.toList_some, Option.toList_none, List.nil_append, List.cons_append, List.append_nil, true_and, and_true, not_true_eq_false, not_false_eq_true, true_implies, false_implies, implies_true, and_self, Int.reduceLT, Int.reduceLE, Int.reduceEq, Int.reduceNe, Int.reduceAdd, Int.reduceSub, Int.reduceMul, Int.reduceNeg, Int.reduceToNat, Int.toNat_natCast, ↓kk_ck, ↓kk_im, ↓kk_in, e_79, s_79_0, s_79_40, s_79_44, s_79_48, s_79_52, s_79_58, s_79_64, s_79_67, s_79_68, s_79_74, s_79_78, s_79_79, s_79_80, s_79_86, s_79_90, s_79_91, s_79_92, s_79_98, s_79_102, s_79_103, s_79_55, s_79_71, s_79_83, s_79_95, vi_swp, ne_eq, vi_cmle]
      exact hQ
  · rw [show lJn 13 a b = if a = b then 1 else 0 from rfl] at hQ
    by_cases h : a = b
    · rw [if_pos h] at hQ
      simp (disch := omega) only [Option.toList_some, Option.toList_none, List.nil_append, List.cons_append, List.append_nil, true_and, and_true, not_true_eq_false, not_false_eq_true, true_implies, false_implies, implies_true, and_self, Int.reduceLT, Int.reduceLE, Int.reduceEq, Int.reduceNe, Int.reduceAdd, Int.reduceSub, Int.reduceMul, Int.reduceNeg, Int.reduceToNat, Int.toNat_natCast, ↓kk_ck, ↓kk_im, ↓kk_in, e_79, s_79_0, s_79_40, s_79_44, s_79_48, s_79_52, s_79_58, s_79_64, s_79_67, s_79_68, s_79_74, s_79_78, s_79_79, s_79_80, s_79_86, s_79_90, s_79_91, s_79_92, s_79_98, s_79_102, s_79_103, s_79_55, s_79_71, s_79_83, s_79_95, vi_swp, ne_eq, vi_cm0, h]
      exact hQ
    · rw [if_neg h] at hQ
      simp (disch := omega) only [Option.toList_some, Option.toList_none, List.nil_append, List.cons_append, List.append_nil, true_and, and_true, not_true_eq_false, not_false_eq_true, true_implies, false_implies, implies_true, and_self, Int.reduceLT, Int.reduceLE, Int.reduceEq, Int.reduceNe, Int.reduceAdd, Int.reduceSub, Int.reduceMul, Int.reduceNeg, Int.reduceToNat, Int.toNat_natCast, ↓kk_ck, ↓kk_im, ↓kk_in, e_79, s_79_0, s_79_40, s_79_44, s_79_48, s_79_52, s_79_58, s_79_64, s_79_67, s_79_68, s_79_74, s_79_78, s_79_79, s_79_80, s_79_86, s_79_90, s_79_91, s_79_92, s_79_98, s_79_102, s_79_103, s_79_55, s_79_71, s_79_83, s_79_95, vi_swp, ne_eq, vi_cm0, h]
      exact hQ
theorem k_78 (hL : kLw Y p ls lc) {k : Nat} (hk : k < 7) : vi_call GG (d + 1) 78 [.inr (.inr (p + 2)), .inl (k : Int)] (Y, M, n) K ↔ K (some (.inl (M (p + 3) k))) (Y, M, n) := by
  obtain ⟨hp, a1, a2, a3, a4, a5, a6, a7, a8, a9, b1, b2, b3, b4⟩ := hL
  refine vi_k (r := some (.inl _)) fun Q hQ => ?_
  simp (disch := omega) only [Option.toList_some, Option.toList_none, List.nil_append, List.cons_append, List.append_nil, true_and, and_true, not_true_eq_false, not_false_eq_true, true_implies, false_implies, implies_true, and_self, Int.reduceLT, Int.reduceLE, Int.reduceEq, Int.reduceNe, Int.reduceAdd, Int.reduceSub, Int.reduceMul, Int.reduceNeg, Int.reduceToNat, Int.toNat_natCast, ↓kk_ck, ↓kk_im, ↓kk_in, e_78, s_78_0, s_78_4, s_78_13, s_78_22, s_78_23, s_78_9, s_78_17, s_78_10, s_78_19, a1, a8, a9, b1]
  exact hQ
theorem k_76 (hL : kLw Y p ls lc) {c w : Nat} (hw : 4 * c + w < lc) (hl : lc ≤ 48) : vi_call GG (d + 1) 76 [.inr (.inr (p + 2)), .inl (c : Int), .inl (w : Int)] (Y, M, n) K ↔ K (some (.inl (M (p + 1) (4 * c + w)))) (Y, M, n) := by
  obtain ⟨hp, a1, a2, a3, a4, a5, a6, a7, a8, a9, b1, b2, b3, b4⟩ := hL
  refine vi_k (r := some (.inl _)) fun Q hQ => ?_
  have et : ((c : Int) * 4 + (w : Int)).toNat = 4 * c + w := by omega
  simp (disch := omega) only [Option.toList_some, Option.toList_none, List.nil_append, List.cons_append, List.append_nil, true_and, and_true, not_true_eq_false, not_false_eq_true, true_implies, false_implies, implies_true, and_self, Int.reduceLT, Int.reduceLE, Int.reduceEq, Int.reduceNe, Int.reduceAdd, Int.reduceSub, Int.reduceMul, Int.reduceNeg, Int.reduceToNat, Int.toNat_natCast, ↓kk_ck, ↓kk_im, ↓kk_in, e_76, s_76_0, s_76_10, s_76_19, s_76_28, s_76_29, s_76_7, s_76_15, s_76_23, s_76_16, s_76_25, vi_32, et, a1, a5, a6, a7]
  exact hQ
theorem k_75 (hL : kLw Y p ls lc) {k : Nat} {x : Int} (hk : k < 7) : vi_call GG (d + 1) 75 [.inr (.inr (p + 2)), .inl (k : Int), .inl x] (Y, M, n) K ↔ K none (Y, vi_rs M (p + 3) (vi_u (M (p + 3)) k x), n) := by
  obtain ⟨hp, a1, a2, a3, a4, a5, a6, a7, a8, a9, b1, b2, b3, b4⟩ := hL
  refine vi_k (r := none) fun Q hQ => ?_
  simp (disch := omega) only [Option.toList_some, Option.toList_none, List.nil_append, List.cons_append, List.append_nil, true_and, and_true, not_true_eq_false, not_false_eq_true, true_implies, false_implies, implies_true, and_self, Int.reduceLT, Int.reduceLE, Int.reduceEq, Int.reduceNe, Int.reduceAdd, Int.reduceSub, Int.reduceMul, Int.reduceNeg, Int.reduceToNat, Int.toNat_natCast, ↓kk_ck, ↓kk_im, ↓kk_in, e_75, s_75_0, s_75_4, s_75_13, s_75_20, s_75_9, s_75_17, s_75_10, a1, a8, a9, b1, vi_ms_rs]
  exact hQ
theorem k_77 (hL : kLw Y p ls lc) (hls : ls ≤ 400) {fr to : Nat} (hft : fr ≤ to) (hto : to ≤ ls) (hst : ∀ i, 0 ≤ M p i ∧ M p i < 2147483648) (hW : ∀ k, 1 ≤ k → k < 7 → 0 ≤ M (p + 3) k ∧ M (p + 3) k ≤ 1000) :
    ∃ g : Nat → Int, ∀ K : Option vi_V → vi_W → Prop, vi_call GG (d + 2) 77 [.inr (.inr (p + 2)), .inl (fr : Int), .inl (to : Int)] (Y, M, n) K ↔ K (some (.inr (.inl (rS (M p) (M (p + 3)) (to - fr) fr (fr : Int) 0 (M (p + 4)))))) (Y, vi_rs M (p + 4) g, n) := by
  have hL' := hL
  obtain ⟨hp, a1, a2, a3, a4, a5, a6, a7, a8, a9, b1, b2, b3, b4⟩ := hL
  have m3 : ∀ g, vi_rs M (p + 4) g (p + 3) = M (p + 3) := fun g => vi_rs_o (by omega)
  have m0 : ∀ g, vi_rs M (p + 4) g p = M p := fun g => vi_rs_o (by omega)
  have key : ∀ Q : Option vi_V → vi_W → Prop, (∀ g : Nat → Int, Q (some (.inr (.inl (rS (M p) (M (p + 3)) (to - fr) fr (fr : Int) 0 (M (p + 4)))))) (Y, vi_rs M (p + 4) g, n)) → vi_call GG (d + 2) 77 [.inr (.inr (p + 2)), .inl (fr : Int), .inl (to : Int)] (Y, M, n) Q := by
    intro Q hQ
    generalize hV : rS (M p) (M (p + 3)) (to - fr) fr (fr : Int) 0 (M (p + 4)) = V at hQ
    have loop : ∀ (k a : Nat) (o : Int) (h : Nat) (g : Nat → Int) (l6 l7 l8 : Option vi_V), a + k = to → 0 ≤ o → o < 2147483648 → h ≤ 64 → (∀ i, i < h → -1000000000 ≤ g i ∧ g i ≤ 1000000001) → rS (M p) (M (p + 3)) k a o h g = V → vi_ok GG (d + 1) 77 12 [some (.inr (.inr (p + 2))), some (.inl (fr : Int)), some (.inl (to : Int)), some (.inl (h : Int)), some (.inl o), some (.inl (a : Int)), l6, l7, l8] [] (Y, vi_rs M (p + 4) g, n) Q := by
      intro k
      induction k with
      | zero =>
        intro a o h g l6 l7 l8 hk ho0 ho1 hh hg hr
        have := hQ g
        rw [rS] at hr
        rw [s_77_12]
        by_cases h1 : h = 1
        · rw [if_pos h1] at hr
          rw [← hr] at this
          clear hQ hV
          simp (disch := omega) only [Option.toList_some, Option.toList_none, List.nil_append, List.cons_append, List.append_nil, true_and, and_true, not_true_eq_false, not_false_eq_true, true_implies, false_implies, implies_true, and_self, Int.reduceLT, Int.reduceLE, Int.reduceEq, Int.reduceNe, Int.reduceAdd, Int.reduceSub, Int.reduceMul, Int.reduceNeg, Int.reduceToNat, Int.toNat_natCast, ↓kk_ck, ↓kk_im, ↓kk_in, s_77_0, s_77_18, s_77_28, s_77_35, s_77_38, s_77_58, s_77_62, s_77_71, s_77_75, s_77_85, s_77_99, s_77_106, s_77_113, s_77_120, s_77_125, s_77_134, s_77_138, s_77_155, s_77_170, s_77_179, s_77_183, s_77_184, s_77_189, s_77_204, s_77_207, s_77_210, s_77_215, s_77_224, s_77_228, s_77_260, s_77_269, s_77_273, s_77_286, s_77_292, s_77_297, s_77_305, s_77_314, s_77_317, s_77_10, s_77_24, s_77_42, s_77_67, s_77_79, s_77_89, s_77_105, s_77_107, s_77_130, s_77_142, s_77_159, s_77_186, s_77_193, s_77_220, s_77_234, s_77_266, s_77_277, s_77_301, s_77_309, s_77_25, s_77_45, s_77_68, s_77_92, s_77_131, s_77_145, s_77_166, s_77_196, s_77_221, s_77_237, s_77_282, s_77_302, s_77_311, s_77_55, s_77_146, s_77_167, s_77_238, s_77_283, s_77_242, s_77_245, s_77_246, s_77_249, s_77_257, a1, b2, b3, b4, ne_eq, vi_rs_s]
          exact this
        · rw [if_neg h1] at hr
          rw [← hr] at this
          clear hQ hV
          simp (disch := omega) only [Option.toList_some, Option.toList_none, List.nil_append, List.cons_append, List.append_nil, true_and, and_true, not_true_eq_false, not_false_eq_true, true_implies, false_implies, implies_true, and_self, Int.reduceLT, Int.reduceLE, Int.reduceEq, Int.reduceNe, Int.reduceAdd, Int.reduceSub, Int.reduceMul, Int.reduceNeg, Int.reduceToNat, Int.toNat_natCast, ↓kk_ck, ↓kk_im, ↓kk_in, s_77_0, s_77_18, s_77_28, s_77_35, s_77_38, s_77_58, s_77_62, s_77_71, s_77_75, s_77_85, s_77_99, s_77_106, s_77_113, s_77_120, s_77_125, s_77_134, s_77_138, s_77_155, s_77_170, s_77_179, s_77_183, s_77_184, s_77_189, s_77_204, s_77_207, s_77_210, s_77_215, s_77_224, s_77_228, s_77_260, s_77_269, s_77_273, s_77_286, s_77_292, s_77_297, s_77_305, s_77_314, s_77_317, s_77_10, s_77_24, s_77_42, s_77_67, s_77_79, s_77_89, s_77_105, s_77_107, s_77_130, s_77_142, s_77_159, s_77_186, s_77_193, s_77_220, s_77_234, s_77_266, s_77_277, s_77_301, s_77_309, s_77_25, s_77_45, s_77_68, s_77_92, s_77_131, s_77_145, s_77_166, s_77_196, s_77_221, s_77_237, s_77_282, s_77_302, s_77_311, s_77_55, s_77_146, s_77_167, s_77_238, s_77_283, s_77_242, s_77_245, s_77_246, s_77_249, s_77_257, a1, b2, b3, b4, ne_eq]
          exact this
      | succ k ih =>
        intro a o h g l6 l7 l8 hk ho0 ho1 hh hg hr
        rw [rS] at hr
        obtain ⟨y0, y1⟩ := hst a
        have yk : 0 ≤ M p a % 256 ∧ M p a % 256 < 256 := by omega
        have yo : 0 ≤ M p a / 256 ∧ M p a / 256 < 2147483648 := by omega
        have yd : M p a / 256 ≤ 1000000000 := by omega
        have hWk : 1 ≤ M p a % 256 → M p a % 256 ≤ 6 → 0 ≤ M (p + 3) (M p a % 256).toNat ∧ M (p + 3) (M p a % 256).toNat ≤ 1000 := fun h1 h2 => hW _ (by omega) (by omega)
        have k78 := fun {K : Option vi_V → vi_W → Prop} {g : Nat → Int} (h : M p a % 256 ≤ 6) => @k_78 d p ls lc K Y (vi_rs M (p + 4) g) n hL' (M p a % 256).toNat (by omega)
        have hnat : (((M p a % 256).toNat : Nat) : Int) = M p a % 256 := Int.toNat_of_nonneg yk.1
        simp only [hnat, m3] at k78
        have fin := fun g => hQ g
        clear hQ hst hV hW
        rw [s_77_12]
        by_cases hao : (a : Int) < o
        · rw [if_pos hao] at hr
          have := fun l6 l7 l8 => ih (a + 1) o h g l6 l7 l8 (by omega) ho0 ho1 hh hg hr
          clear ih hr hg
          simp (disch := omega) only [Option.toList_some, Option.toList_none, List.nil_append, List.cons_append, List.append_nil, true_and, and_true, not_true_eq_false, not_false_eq_true, true_implies, false_implies, implies_true, and_self, Int.reduceLT, Int.reduceLE, Int.reduceEq, Int.reduceNe, Int.reduceAdd, Int.reduceSub, Int.reduceMul, Int.reduceNeg, Int.reduceToNat, Int.toNat_natCast, ↓kk_ck, ↓kk_im, ↓kk_in, s_77_0, s_77_18, s_77_28, s_77_35, s_77_38, s_77_58, s_77_62, s_77_71, s_77_75, s_77_85, s_77_99, s_77_106, s_77_113, s_77_120, s_77_125, s_77_134, s_77_138, s_77_155, s_77_170, s_77_179, s_77_183, s_77_184, s_77_189, s_77_204, s_77_207, s_77_210, s_77_215, s_77_224, s_77_228, s_77_260, s_77_269, s_77_273, s_77_286, s_77_292, s_77_297, s_77_305, s_77_314, s_77_317, s_77_10, s_77_24, s_77_42, s_77_67, s_77_79, s_77_89, s_77_105, s_77_107, s_77_130, s_77_142, s_77_159, s_77_186, s_77_193, s_77_220, s_77_234, s_77_266, s_77_277, s_77_301, s_77_309, s_77_25, s_77_45, s_77_68, s_77_92, s_77_131, s_77_145, s_77_166, s_77_196, s_77_221, s_77_237, s_77_282, s_77_302, s_77_311, s_77_55, s_77_146, s_77_167, s_77_238, s_77_283, s_77_242, s_77_245, s_77_246, s_77_249, s_77_257, a1, a2, a3, a4, vi_inc]
          exact this _ _ _
        · rw [if_neg hao] at hr
          generalize hkd : M p a % 256 = kd at *
          generalize hop : M p a / 256 = op at *
          by_cases h6 : kd ≤ 6
          · rw [if_pos h6] at hr
            by_cases hh6 : h < 64
            · rw [if_pos hh6] at hr
              by_cases h0 : kd = 0
              · rw [if_pos h0] at hr
                have := fun l6 l7 l8 => ih (a + 1) o (h + 1) (vi_u g h op) l6 l7 l8 (by omega) ho0 ho1 (by omega) (fun i hi => by
                  by_cases e : i = h
                  · rw [e, vi_u_s]; omega
                  · rw [vi_u_o e]; exact hg i (by omega)) hr
                clear ih hr hg fin
                simp (disch := omega) only [Option.toList_some, Option.toList_none, List.nil_append, List.cons_append, List.append_nil, true_and, and_true, not_true_eq_false, not_false_eq_true, true_implies, false_implies, implies_true, and_self, Int.reduceLT, Int.reduceLE, Int.reduceEq, Int.reduceNe, Int.reduceAdd, Int.reduceSub, Int.reduceMul, Int.reduceNeg, Int.reduceToNat, Int.toNat_natCast, ↓kk_ck, ↓kk_im, ↓kk_in, s_77_0, s_77_18, s_77_28, s_77_35, s_77_38, s_77_58, s_77_62, s_77_71, s_77_75, s_77_85, s_77_99, s_77_106, s_77_113, s_77_120, s_77_125, s_77_134, s_77_138, s_77_155, s_77_170, s_77_179, s_77_183, s_77_184, s_77_189, s_77_204, s_77_207, s_77_210, s_77_215, s_77_224, s_77_228, s_77_260, s_77_269, s_77_273, s_77_286, s_77_292, s_77_297, s_77_305, s_77_314, s_77_317, s_77_10, s_77_24, s_77_42, s_77_67, s_77_79, s_77_89, s_77_105, s_77_107, s_77_130, s_77_142, s_77_159, s_77_186, s_77_193, s_77_220, s_77_234, s_77_266, s_77_277, s_77_301, s_77_309, s_77_25, s_77_45, s_77_68, s_77_92, s_77_131, s_77_145, s_77_166, s_77_196, s_77_221, s_77_237, s_77_282, s_77_302, s_77_311, s_77_55, s_77_146, s_77_167, s_77_238, s_77_283, s_77_242, s_77_245, s_77_246, s_77_249, s_77_257, a1, a2, a3, a4, m0, an8, sh8, hkd, hop, h0, b2, b3, b4, ne_eq, vi_ms_rs, vi_rs_s, vi_rs_rs, vi_inc]
                exact this _ _ _
              · rw [if_neg h0] at hr
                have hb := hWk (by omega) h6
                have := fun l6 l7 l8 => ih (a + 1) o (h + 1) (vi_u g h (M (p + 3) kd.toNat)) l6 l7 l8 (by omega) ho0 ho1 (by omega) (fun i hi => by
                  by_cases e : i = h
                  · rw [e, vi_u_s]; omega
                  · rw [vi_u_o e]; exact hg i (by omega)) hr
                clear ih hr hg fin
                simp (disch := omega) only [Option.toList_some, Option.toList_none, List.nil_append, List.cons_append, List.append_nil, true_and, and_true, not_true_eq_false, not_false_eq_true, true_implies, false_implies, implies_true, and_self, Int.reduceLT, Int.reduceLE, Int.reduceEq, Int.reduceNe, Int.reduceAdd, Int.reduceSub, Int.reduceMul, Int.reduceNeg, Int.reduceToNat, Int.toNat_natCast, ↓kk_ck, ↓kk_im, ↓kk_in, s_77_0, s_77_18, s_77_28, s_77_35, s_77_38, s_77_58, s_77_62, s_77_71, s_77_75, s_77_85, s_77_99, s_77_106, s_77_113, s_77_120, s_77_125, s_77_134, s_77_138, s_77_155, s_77_170, s_77_179, s_77_183, s_77_184, s_77_189, s_77_204, s_77_207, s_77_210, s_77_215, s_77_224, s_77_228, s_77_260, s_77_269, s_77_273, s_77_286, s_77_292, s_77_297, s_77_305, s_77_314, s_77_317, s_77_10, s_77_24, s_77_42, s_77_67, s_77_79, s_77_89, s_77_105, s_77_107, s_77_130, s_77_142, s_77_159, s_77_186, s_77_193, s_77_220, s_77_234, s_77_266, s_77_277, s_77_301, s_77_309, s_77_25, s_77_45, s_77_68, s_77_92, s_77_131, s_77_145, s_77_166, s_77_196, s_77_221, s_77_237, s_77_282, s_77_302, s_77_311, s_77_55, s_77_146, s_77_167, s_77_238, s_77_283, s_77_242, s_77_245, s_77_246, s_77_249, s_77_257, a1, a2, a3, a4, m0, an8, sh8, hkd, hop, h0, b2, b3, b4, ne_eq, k78 h6, vi_ms_rs, vi_rs_s, vi_rs_rs, vi_inc]
                exact this _ _ _
            · rw [if_neg hh6] at hr
              have := fin g
              rw [← hr] at this
              clear ih hr hg fin
              simp (disch := omega) only [Option.toList_some, Option.toList_none, List.nil_append, List.cons_append, List.append_nil, true_and, and_true, not_true_eq_false, not_false_eq_true, true_implies, false_implies, implies_true, and_self, Int.reduceLT, Int.reduceLE, Int.reduceEq, Int.reduceNe, Int.reduceAdd, Int.reduceSub, Int.reduceMul, Int.reduceNeg, Int.reduceToNat, Int.toNat_natCast, ↓kk_ck, ↓kk_im, ↓kk_in, s_77_0, s_77_18, s_77_28, s_77_35, s_77_38, s_77_58, s_77_62, s_77_71, s_77_75, s_77_85, s_77_99, s_77_106, s_77_113, s_77_120, s_77_125, s_77_134, s_77_138, s_77_155, s_77_170, s_77_179, s_77_183, s_77_184, s_77_189, s_77_204, s_77_207, s_77_210, s_77_215, s_77_224, s_77_228, s_77_260, s_77_269, s_77_273, s_77_286, s_77_292, s_77_297, s_77_305, s_77_314, s_77_317, s_77_10, s_77_24, s_77_42, s_77_67, s_77_79, s_77_89, s_77_105, s_77_107, s_77_130, s_77_142, s_77_159, s_77_186, s_77_193, s_77_220, s_77_234, s_77_266, s_77_277, s_77_301, s_77_309, s_77_25, s_77_45, s_77_68, s_77_92, s_77_131, s_77_145, s_77_166, s_77_196, s_77_221, s_77_237, s_77_282, s_77_302, s_77_311, s_77_55, s_77_146, s_77_167, s_77_238, s_77_283, s_77_242, s_77_245, s_77_246, s_77_249, s_77_257, a1, a2, a3, a4, m0, an8, sh8, hkd, hop, b2, b3, b4, ne_eq]
              exact this
          · rw [if_neg h6] at hr
            clear k78 hWk
            by_cases h14 : 14 ≤ kd
            · rw [if_pos h14] at hr
              by_cases h0 : h = 0
              · rw [if_pos h0] at hr
                have := fin g
                rw [← hr] at this
                clear ih hr hg fin
                simp (disch := omega) only [Option.toList_some, Option.toList_none, List.nil_append, List.cons_append, List.append_nil, true_and, and_true, not_true_eq_false, not_false_eq_true, true_implies, false_implies, implies_true, and_self, Int.reduceLT, Int.reduceLE, Int.reduceEq, Int.reduceNe, Int.reduceAdd, Int.reduceSub, Int.reduceMul, Int.reduceNeg, Int.reduceToNat, Int.toNat_natCast, ↓kk_ck, ↓kk_im, ↓kk_in, s_77_0, s_77_18, s_77_28, s_77_35, s_77_38, s_77_58, s_77_62, s_77_71, s_77_75, s_77_85, s_77_99, s_77_106, s_77_113, s_77_120, s_77_125, s_77_134, s_77_138, s_77_155, s_77_170, s_77_179, s_77_183, s_77_184, s_77_189, s_77_204, s_77_207, s_77_210, s_77_215, s_77_224, s_77_228, s_77_260, s_77_269, s_77_273, s_77_286, s_77_292, s_77_297, s_77_305, s_77_314, s_77_317, s_77_10, s_77_24, s_77_42, s_77_67, s_77_79, s_77_89, s_77_105, s_77_107, s_77_130, s_77_142, s_77_159, s_77_186, s_77_193, s_77_220, s_77_234, s_77_266, s_77_277, s_77_301, s_77_309, s_77_25, s_77_45, s_77_68, s_77_92, s_77_131, s_77_145, s_77_166, s_77_196, s_77_221, s_77_237, s_77_282, s_77_302, s_77_311, s_77_55, s_77_146, s_77_167, s_77_238, s_77_283, s_77_242, s_77_245, s_77_246, s_77_249, s_77_257, a1, a2, a3, a4, m0, an8, sh8, hkd, hop, b2, b3, b4, ne_eq]
                exact this
              · rw [if_neg h0] at hr
                obtain ⟨h1, rfl⟩ : ∃ h1, h = h1 + 1 := ⟨h - 1, by omega⟩
                rw [Nat.add_sub_cancel] at hr
                have hb := hg h1 (by omega)
                by_cases k14 : kd = 14
                · rw [if_pos k14] at hr
                  have := fun l6 l7 l8 => ih (a + 1) o (h1 + 1) (vi_u g h1 (1 - g h1)) l6 l7 l8 (by omega) ho0 ho1 hh (fun i hi => by
                    by_cases e : i = h1
                    · rw [e, vi_u_s]; omega
                    · rw [vi_u_o e]; exact hg i hi) hr
                  clear ih hr hg fin
                  simp (disch := omega) only [Option.toList_some, Option.toList_none, List.nil_append, List.cons_append, List.append_nil, true_and, and_true, not_true_eq_false, not_false_eq_true, true_implies, false_implies, implies_true, and_self, Int.reduceLT, Int.reduceLE, Int.reduceEq, Int.reduceNe, Int.reduceAdd, Int.reduceSub, Int.reduceMul, Int.reduceNeg, Int.reduceToNat, Int.toNat_natCast, ↓kk_ck, ↓kk_im, ↓kk_in, s_77_0, s_77_18, s_77_28, s_77_35, s_77_38, s_77_58, s_77_62, s_77_71, s_77_75, s_77_85, s_77_99, s_77_106, s_77_113, s_77_120, s_77_125, s_77_134, s_77_138, s_77_155, s_77_170, s_77_179, s_77_183, s_77_184, s_77_189, s_77_204, s_77_207, s_77_210, s_77_215, s_77_224, s_77_228, s_77_260, s_77_269, s_77_273, s_77_286, s_77_292, s_77_297, s_77_305, s_77_314, s_77_317, s_77_10, s_77_24, s_77_42, s_77_67, s_77_79, s_77_89, s_77_105, s_77_107, s_77_130, s_77_142, s_77_159, s_77_186, s_77_193, s_77_220, s_77_234, s_77_266, s_77_277, s_77_301, s_77_309, s_77_25, s_77_45, s_77_68, s_77_92, s_77_131, s_77_145, s_77_166, s_77_196, s_77_221, s_77_237, s_77_282, s_77_302, s_77_311, s_77_55, s_77_146, s_77_167, s_77_238, s_77_283, s_77_242, s_77_245, s_77_246, s_77_249, s_77_257, a1, a2, a3, a4, m0, an8, sh8, hkd, hop, k14, b2, b3, b4, ne_eq, vi_32, kk_m1, vi_ms_rs, vi_rs_s, vi_rs_rs, vi_64, vi_inc]
                  exact this _ _ _
                · rw [if_neg k14] at hr
                  by_cases k16 : kd = 16
                  · rw [if_pos k16] at hr
                    by_cases ht : g h1 = 1
                    · rw [if_pos ht] at hr
                      have := fun l6 l7 l8 => ih (a + 1) op (h1 + 1) g l6 l7 l8 (by omega) yo.1 yo.2 hh hg hr
                      clear ih hr hg fin
                      simp (disch := omega) only [Option.toList_some, Option.toList_none, List.nil_append, List.cons_append, List.append_nil, true_and, and_true, not_true_eq_false, not_false_eq_true, true_implies, false_implies, implies_true, and_self, Int.reduceLT, Int.reduceLE, Int.reduceEq, Int.reduceNe, Int.reduceAdd, Int.reduceSub, Int.reduceMul, Int.reduceNeg, Int.reduceToNat, Int.toNat_natCast, ↓kk_ck, ↓kk_im, ↓kk_in, s_77_0, s_77_18, s_77_28, s_77_35, s_77_38, s_77_58, s_77_62, s_77_71, s_77_75, s_77_85, s_77_99, s_77_106, s_77_113, s_77_120, s_77_125, s_77_134, s_77_138, s_77_155, s_77_170, s_77_179, s_77_183, s_77_184, s_77_189, s_77_204, s_77_207, s_77_210, s_77_215, s_77_224, s_77_228, s_77_260, s_77_269, s_77_273, s_77_286, s_77_292, s_77_297, s_77_305, s_77_314, s_77_317, s_77_10, s_77_24, s_77_42, s_77_67, s_77_79, s_77_89, s_77_105, s_77_107, s_77_130, s_77_142, s_77_159, s_77_186, s_77_193, s_77_220, s_77_234, s_77_266, s_77_277, s_77_301, s_77_309, s_77_25, s_77_45, s_77_68, s_77_92, s_77_131, s_77_145, s_77_166, s_77_196, s_77_221, s_77_237, s_77_282, s_77_302, s_77_311, s_77_55, s_77_146, s_77_167, s_77_238, s_77_283, s_77_242, s_77_245, s_77_246, s_77_249, s_77_257, a1, a2, a3, a4, m0, an8, sh8, hkd, hop, k16, b2, b3, b4, ne_eq, vi_32, kk_m1, vi_rs_s, vi_cm0, ht, vi_inc]
                      exact this _ _ _
                    · rw [if_neg ht] at hr
                      have := fun l6 l7 l8 => ih (a + 1) o h1 g l6 l7 l8 (by omega) ho0 ho1 (by omega) (fun i hi => hg i (by omega)) hr
                      clear ih hr hg fin
                      simp (disch := omega) only [Option.toList_some, Option.toList_none, List.nil_append, List.cons_append, List.append_nil, true_and, and_true, not_true_eq_false, not_false_eq_true, true_implies, false_implies, implies_true, and_self, Int.reduceLT, Int.reduceLE, Int.reduceEq, Int.reduceNe, Int.reduceAdd, Int.reduceSub, Int.reduceMul, Int.reduceNeg, Int.reduceToNat, Int.toNat_natCast, ↓kk_ck, ↓kk_im, ↓kk_in, s_77_0, s_77_18, s_77_28, s_77_35, s_77_38, s_77_58, s_77_62, s_77_71, s_77_75, s_77_85, s_77_99, s_77_106, s_77_113, s_77_120, s_77_125, s_77_134, s_77_138, s_77_155, s_77_170, s_77_179, s_77_183, s_77_184, s_77_189, s_77_204, s_77_207, s_77_210, s_77_215, s_77_224, s_77_228, s_77_260, s_77_269, s_77_273, s_77_286, s_77_292, s_77_297, s_77_305, s_77_314, s_77_317, s_77_10, s_77_24, s_77_42, s_77_67, s_77_79, s_77_89, s_77_105, s_77_107, s_77_130, s_77_142, s_77_159, s_77_186, s_77_193, s_77_220, s_77_234, s_77_266, s_77_277, s_77_301, s_77_309, s_77_25, s_77_45, s_77_68, s_77_92, s_77_131, s_77_145, s_77_166, s_77_196, s_77_221, s_77_237, s_77_282, s_77_302, s_77_311, s_77_55, s_77_146, s_77_167, s_77_238, s_77_283, s_77_242, s_77_245, s_77_246, s_77_249, s_77_257, a1, a2, a3, a4, m0, an8, sh8, hkd, hop, k16, b2, b3, b4, ne_eq, vi_32, kk_m1, kk_m1', vi_rs_s, vi_cm0, ht, vi_inc]
                      exact this _ _ _
                  · rw [if_neg k16] at hr
                    by_cases ht : g h1 = 0
                    · rw [if_pos ht] at hr
                      have := fun l6 l7 l8 => ih (a + 1) op (h1 + 1) g l6 l7 l8 (by omega) yo.1 yo.2 hh hg hr
                      clear ih hr hg fin
                      simp (disch := omega) only [Option.toList_some, Option.toList_none, List.nil_append, List.cons_append, List.append_nil, true_and, and_true, not_true_eq_false, not_false_eq_true, true_implies, false_implies, implies_true, and_self, Int.reduceLT, Int.reduceLE, Int.reduceEq, Int.reduceNe, Int.reduceAdd, Int.reduceSub, Int.reduceMul, Int.reduceNeg, Int.reduceToNat, Int.toNat_natCast, ↓kk_ck, ↓kk_im, ↓kk_in, s_77_0, s_77_18, s_77_28, s_77_35, s_77_38, s_77_58, s_77_62, s_77_71, s_77_75, s_77_85, s_77_99, s_77_106, s_77_113, s_77_120, s_77_125, s_77_134, s_77_138, s_77_155, s_77_170, s_77_179, s_77_183, s_77_184, s_77_189, s_77_204, s_77_207, s_77_210, s_77_215, s_77_224, s_77_228, s_77_260, s_77_269, s_77_273, s_77_286, s_77_292, s_77_297, s_77_305, s_77_314, s_77_317, s_77_10, s_77_24, s_77_42, s_77_67, s_77_79, s_77_89, s_77_105, s_77_107, s_77_130, s_77_142, s_77_159, s_77_186, s_77_193, s_77_220, s_77_234, s_77_266, s_77_277, s_77_301, s_77_309, s_77_25, s_77_45, s_77_68, s_77_92, s_77_131, s_77_145, s_77_166, s_77_196, s_77_221, s_77_237, s_77_282, s_77_302, s_77_311, s_77_55, s_77_146, s_77_167, s_77_238, s_77_283, s_77_242, s_77_245, s_77_246, s_77_249, s_77_257, a1, a2, a3, a4, m0, an8, sh8, hkd, hop, k14, k16, b2, b3, b4, ne_eq, vi_32, kk_m1, vi_rs_s, vi_cm0, ht, vi_inc]
                      exact this _ _ _
                    · rw [if_neg ht] at hr
                      have := fun l6 l7 l8 => ih (a + 1) o h1 g l6 l7 l8 (by omega) ho0 ho1 (by omega) (fun i hi => hg i (by omega)) hr
                      clear ih hr hg fin
                      simp (disch := omega) only [Option.toList_some, Option.toList_none, List.nil_append, List.cons_append, List.append_nil, true_and, and_true, not_true_eq_false, not_false_eq_true, true_implies, false_implies, implies_true, and_self, Int.reduceLT, Int.reduceLE, Int.reduceEq, Int.reduceNe, Int.reduceAdd, Int.reduceSub, Int.reduceMul, Int.reduceNeg, Int.reduceToNat, Int.toNat_natCast, ↓kk_ck, ↓kk_im, ↓kk_in, s_77_0, s_77_18, s_77_28, s_77_35, s_77_38, s_77_58, s_77_62, s_77_71, s_77_75, s_77_85, s_77_99, s_77_106, s_77_113, s_77_120, s_77_125, s_77_134, s_77_138, s_77_155, s_77_170, s_77_179, s_77_183, s_77_184, s_77_189, s_77_204, s_77_207, s_77_210, s_77_215, s_77_224, s_77_228, s_77_260, s_77_269, s_77_273, s_77_286, s_77_292, s_77_297, s_77_305, s_77_314, s_77_317, s_77_10, s_77_24, s_77_42, s_77_67, s_77_79, s_77_89, s_77_105, s_77_107, s_77_130, s_77_142, s_77_159, s_77_186, s_77_193, s_77_220, s_77_234, s_77_266, s_77_277, s_77_301, s_77_309, s_77_25, s_77_45, s_77_68, s_77_92, s_77_131, s_77_145, s_77_166, s_77_196, s_77_221, s_77_237, s_77_282, s_77_302, s_77_311, s_77_55, s_77_146, s_77_167, s_77_238, s_77_283, s_77_242, s_77_245, s_77_246, s_77_249, s_77_257, a1, a2, a3, a4, m0, an8, sh8, hkd, hop, k14, k16, b2, b3, b4, ne_eq, vi_32, kk_m1, kk_m1', vi_rs_s, vi_cm0, ht, vi_inc]
                      exact this _ _ _
            · rw [if_neg h14] at hr
              by_cases hh2 : h < 2
              · rw [if_pos hh2] at hr
                have := fin g
                rw [← hr] at this
                clear ih hr hg fin
                simp (disch := omega) only [Option.toList_some, Option.toList_none, List.nil_append, List.cons_append, List.append_nil, true_and, and_true, not_true_eq_false, not_false_eq_true, true_implies, false_implies, implies_true, and_self, Int.reduceLT, Int.reduceLE, Int.reduceEq, Int.reduceNe, Int.reduceAdd, Int.reduceSub, Int.reduceMul, Int.reduceNeg, Int.reduceToNat, Int.toNat_natCast, ↓kk_ck, ↓kk_im, ↓kk_in, s_77_0, s_77_18, s_77_28, s_77_35, s_77_38, s_77_58, s_77_62, s_77_71, s_77_75, s_77_85, s_77_99, s_77_106, s_77_113, s_77_120, s_77_125, s_77_134, s_77_138, s_77_155, s_77_170, s_77_179, s_77_183, s_77_184, s_77_189, s_77_204, s_77_207, s_77_210, s_77_215, s_77_224, s_77_228, s_77_260, s_77_269, s_77_273, s_77_286, s_77_292, s_77_297, s_77_305, s_77_314, s_77_317, s_77_10, s_77_24, s_77_42, s_77_67, s_77_79, s_77_89, s_77_105, s_77_107, s_77_130, s_77_142, s_77_159, s_77_186, s_77_193, s_77_220, s_77_234, s_77_266, s_77_277, s_77_301, s_77_309, s_77_25, s_77_45, s_77_68, s_77_92, s_77_131, s_77_145, s_77_166, s_77_196, s_77_221, s_77_237, s_77_282, s_77_302, s_77_311, s_77_55, s_77_146, s_77_167, s_77_238, s_77_283, s_77_242, s_77_245, s_77_246, s_77_249, s_77_257, a1, a2, a3, a4, m0, an8, sh8, hkd, hop, b2, b3, b4, ne_eq]
                exact this
              · rw [if_neg hh2] at hr
                obtain ⟨h2, rfl⟩ : ∃ h2, h = h2 + 2 := ⟨h - 2, by omega⟩
                rw [show h2 + 2 - 1 = h2 + 1 from rfl, show h2 + 2 - 2 = h2 from rfl] at hr
                have hb1 := hg (h2 + 1) (by omega)
                have hb2 := hg h2 (by omega)
                have k79 := fun {K : Option vi_V → vi_W → Prop} {w : vi_W} => @k_79 d K kd (g h2) (g (h2 + 1)) w (by omega) hb2 hb1
                generalize hj : lJn kd (g h2) (g (h2 + 1)) = v at *
                by_cases hv : v < -1000000000 ∨ 1000000000 < v
                · rw [if_pos hv] at hr
                  have := fin g
                  rw [← hr] at this
                  clear ih hr hg fin
                  by_cases hv2 : v < -1000000000
                  · simp (disch := omega) only [Option.toList_some, Option.toList_none, List.nil_append, List.cons_append, List.append_nil, true_and, and_true, not_true_eq_false, not_false_eq_true, true_implies, false_implies, implies_true, and_self, Int.reduceLT, Int.reduceLE, Int.reduceEq, Int.reduceNe, Int.reduceAdd, Int.reduceSub, Int.reduceMul, Int.reduceNeg, Int.reduceToNat, Int.toNat_natCast, ↓kk_ck, ↓kk_im, ↓kk_in, s_77_0, s_77_18, s_77_28, s_77_35, s_77_38, s_77_58, s_77_62, s_77_71, s_77_75, s_77_85, s_77_99, s_77_106, s_77_113, s_77_120, s_77_125, s_77_134, s_77_138, s_77_155, s_77_170, s_77_179, s_77_183, s_77_184, s_77_189, s_77_204, s_77_207, s_77_210, s_77_215, s_77_224, s_77_228, s_77_260, s_77_269, s_77_273, s_77_286, s_77_292, s_77_297, s_77_305, s_77_314, s_77_317, s_77_10, s_77_24, s_77_42, s_77_67, s_77_79, s_77_89, s_77_105, s_77_107, s_77_130, s_77_142, s_77_159, s_77_186, s_77_193, s_77_220, s_77_234, s_77_266, s_77_277, s_77_301, s_77_309, s_77_25, s_77_45, s_77_68, s_77_92, s_77_131, s_77_145, s_77_166, s_77_196, s_77_221, s_77_237, s_77_282, s_77_302, s_77_311, s_77_55, s_77_146, s_77_167, s_77_238, s_77_283, s_77_242, s_77_245, s_77_246, s_77_249, s_77_257, a1, a2, a3, a4, m0, an8, sh8, hkd, hop, b2, b3, b4, ne_eq, vi_32, kk_m2, kk_m2', vi_rs_s, k79, vi_cmn, vi_cmle]
                    exact this
                  · simp (disch := omega) only [Option.toList_some, Option.toList_none, List.nil_append, List.cons_append, List.append_nil, true_and, and_true, not_true_eq_false, not_false_eq_true, true_implies, false_implies, implies_true, and_self, Int.reduceLT, Int.reduceLE, Int.reduceEq, Int.reduceNe, Int.reduceAdd, Int.reduceSub, Int.reduceMul, Int.reduceNeg, Int.reduceToNat, Int.toNat_natCast, ↓kk_ck, ↓kk_im, ↓kk_in, s_77_0, s_77_18, s_77_28, s_77_35, s_77_38, s_77_58, s_77_62, s_77_71, s_77_75, s_77_85, s_77_99, s_77_106, s_77_113, s_77_120, s_77_125, s_77_134, s_77_138, s_77_155, s_77_170, s_77_179, s_77_183, s_77_184, s_77_189, s_77_204, s_77_207, s_77_210, s_77_215, s_77_224, s_77_228, s_77_260, s_77_269, s_77_273, s_77_286, s_77_292, s_77_297, s_77_305, s_77_314, s_77_317, s_77_10, s_77_24, s_77_42, s_77_67, s_77_79, s_77_89, s_77_105, s_77_107, s_77_130, s_77_142, s_77_159, s_77_186, s_77_193, s_77_220, s_77_234, s_77_266, s_77_277, s_77_301, s_77_309, s_77_25, s_77_45, s_77_68, s_77_92, s_77_131, s_77_145, s_77_166, s_77_196, s_77_221, s_77_237, s_77_282, s_77_302, s_77_311, s_77_55, s_77_146, s_77_167, s_77_238, s_77_283, s_77_242, s_77_245, s_77_246, s_77_249, s_77_257, a1, a2, a3, a4, m0, an8, sh8, hkd, hop, b2, b3, b4, ne_eq, vi_32, kk_m2, kk_m2', vi_rs_s, k79, vi_cmn, vi_cmle]
                    exact this
                · rw [if_neg hv] at hr
                  have := fun l6 l7 l8 => ih (a + 1) o (h2 + 1) (vi_u g h2 v) l6 l7 l8 (by omega) ho0 ho1 (by omega) (fun i hi => by
                    by_cases e : i = h2
                    · rw [e, vi_u_s]; omega
                    · rw [vi_u_o e]; exact hg i (by omega)) hr
                  clear ih hr hg fin
                  simp (disch := omega) only [Option.toList_some, Option.toList_none, List.nil_append, List.cons_append, List.append_nil, true_and, and_true, not_true_eq_false, not_false_eq_true, true_implies, false_implies, implies_true, and_self, Int.reduceLT, Int.reduceLE, Int.reduceEq, Int.reduceNe, Int.reduceAdd, Int.reduceSub, Int.reduceMul, Int.reduceNeg, Int.reduceToNat, Int.toNat_natCast, ↓kk_ck, ↓kk_im, ↓kk_in, s_77_0, s_77_18, s_77_28, s_77_35, s_77_38, s_77_58, s_77_62, s_77_71, s_77_75, s_77_85, s_77_99, s_77_106, s_77_113, s_77_120, s_77_125, s_77_134, s_77_138, s_77_155, s_77_170, s_77_179, s_77_183, s_77_184, s_77_189, s_77_204, s_77_207, s_77_210, s_77_215, s_77_224, s_77_228, s_77_260, s_77_269, s_77_273, s_77_286, s_77_292, s_77_297, s_77_305, s_77_314, s_77_317, s_77_10, s_77_24, s_77_42, s_77_67, s_77_79, s_77_89, s_77_105, s_77_107, s_77_130, s_77_142, s_77_159, s_77_186, s_77_193, s_77_220, s_77_234, s_77_266, s_77_277, s_77_301, s_77_309, s_77_25, s_77_45, s_77_68, s_77_92, s_77_131, s_77_145, s_77_166, s_77_196, s_77_221, s_77_237, s_77_282, s_77_302, s_77_311, s_77_55, s_77_146, s_77_167, s_77_238, s_77_283, s_77_242, s_77_245, s_77_246, s_77_249, s_77_257, a1, a2, a3, a4, m0, an8, sh8, hkd, hop, b2, b3, b4, ne_eq, vi_32, kk_m2, kk_m2', kk_m2'', vi_rs_s, k79, vi_cmn, vi_cmle, vi_ms_rs, vi_rs_rs, vi_inc]
                  exact this _ _ _
    have := loop (to - fr) fr (fr : Int) 0 (M (p + 4)) none none none (by omega) (by omega) (by omega) (by omega) (fun i hi => by omega) hV
    rw [vi_rs_id rfl] at this
    rw [show ((0 : Nat) : Int) = 0 from rfl] at this
    have em : max (fr : Int) 0 = (fr : Int) := by omega
    clear loop hQ
    simp (disch := omega) only [Option.toList_some, Option.toList_none, List.nil_append, List.cons_append, List.append_nil, true_and, and_true, not_true_eq_false, not_false_eq_true, true_implies, false_implies, implies_true, and_self, Int.reduceLT, Int.reduceLE, Int.reduceEq, Int.reduceNe, Int.reduceAdd, Int.reduceSub, Int.reduceMul, Int.reduceNeg, Int.reduceToNat, Int.toNat_natCast, ↓kk_ck, ↓kk_im, ↓kk_in, e_77, s_77_0, k_358, em, s_77_10]
    exact this
  obtain ⟨r, w, ⟨g, rfl, rfl⟩, hK⟩ := vi_kx (key (fun r w => ∃ g : Nat → Int, r = some (.inr (.inl (rS (M p) (M (p + 3)) (to - fr) fr (fr : Int) 0 (M (p + 4))))) ∧ w = (Y, vi_rs M (p + 4) g, n)) (fun g => ⟨g, rfl, rfl⟩))
  exact ⟨g, hK⟩
end
