/-! Contracts of the reference, eighteenth part: dipped. -/
/-- of n along an axis, how many have k waxed ends -/
def eEn (n : Int) (x a : Nat) (k : Int) : Int := if n = 1 then (if ((mBt x (2 * a) : Nat) : Int) + ((mBt x (2 * a + 1) : Nat) : Int) = k then 1 else 0) else ((if ((mBt x (2 * a) : Nat) : Int) = k then 1 else 0) + (if ((mBt x (2 * a + 1) : Nat) : Int) = k then 1 else 0)) + (if k = 0 then n - 2 else 0)
theorem mBt_r {x d : Nat} : mBt x d ≤ 1 := by
  unfold mBt
  exact Nat.and_le_right
theorem eEn_r {n : Int} (hn : 1 ≤ n ∧ n ≤ 1000) {x a : Nat} {k : Int} : 0 ≤ eEn n x a k ∧ eEn n x a k ≤ 1000 := by
  have h1 := mBt_r (x := x) (d := 2 * a)
  have h2 := mBt_r (x := x) (d := 2 * a + 1)
  unfold eEn
  split
  · split <;> omega
  · split <;> split <;> split <;> omega
theorem mul3 {a b c : Int} (ha : 0 ≤ a ∧ a ≤ 1000) (hb : 0 ≤ b ∧ b ≤ 1000) (hc : 0 ≤ c ∧ c ≤ 1000) : (0 ≤ a * b ∧ a * b ≤ 1000000) ∧ 0 ≤ a * b * c ∧ a * b * c ≤ 1000000000 := by
  have h1 : a * b ≤ 1000 * 1000 := Int.mul_le_mul ha.2 hb.2 hb.1 (by omega)
  have h0 : 0 ≤ a * b := Int.mul_nonneg ha.1 hb.1
  have h2 : a * b * c ≤ 1000000 * 1000 := Int.mul_le_mul (by omega) hc.2 hc.1 (by omega)
  exact ⟨⟨h0, by omega⟩, Int.mul_nonneg h0 hc.1, by omega⟩
def eD2 (n1 n2 n3 : Int) (x : Nat) (v : Int) (i : Nat) : Nat → Nat → Int
  | 0, _ => 0
  | k + 1, j => if 2 < j ∨ v < (i : Int) + (j : Int) then 0 else (if 2 < v - (i : Int) - (j : Int) then 0 else eEn n1 x 0 (i : Int) * eEn n2 x 1 (j : Int) * eEn n3 x 2 (v - (i : Int) - (j : Int))) + eD2 n1 n2 n3 x v i k (j + 1)
def eD1 (n1 n2 n3 : Int) (x : Nat) (v : Int) : Nat → Nat → Int
  | 0, _ => 0
  | k + 1, i => if 2 < i ∨ v < (i : Int) then 0 else eD2 n1 n2 n3 x v i 4 0 + eD1 n1 n2 n3 x v k (i + 1)
theorem eD2_r {n1 n2 n3 v : Int} {x i : Nat} (h1 : 1 ≤ n1 ∧ n1 ≤ 1000) (h2 : 1 ≤ n2 ∧ n2 ≤ 1000) (h3 : 1 ≤ n3 ∧ n3 ≤ 1000) : ∀ k j : Nat, 0 ≤ eD2 n1 n2 n3 x v i k j ∧ eD2 n1 n2 n3 x v i k j ≤ 1000000000 * (k : Int)
  | 0, j => by rw [eD2]; omega
  | k + 1, j => by
    have a := eD2_r (x := x) (v := v) (i := i) h1 h2 h3 k (j + 1)
    have m := mul3 (eEn_r h1 (x := x) (a := 0) (k := (i : Int))) (eEn_r h2 (x := x) (a := 1) (k := (j : Int))) (eEn_r h3 (x := x) (a := 2) (k := v - (i : Int) - (j : Int)))
    rw [eD2]
    split
    · omega
    · split <;> omega
section
variable {D : Nat} {K : Option vi_V → vi_W → Prop} {Y : vi_Y} {M : vi_M} {nn : Nat × Nat} {Q : Option vi_V → vi_W → Prop}
theorem k_308 {n : Int} (hn : 1 ≤ n ∧ n ≤ 1000) {x a : Nat} (hx : x < 64) (ha : a < 3) {k : Int} {w : vi_W} (hD : 1 ≤ D) : vi_call GG D 308 [.inl n, .inl (x : Int), .inl (a : Int), .inl k] w K ↔ K (some (.inr (.inl (eEn n x a k)))) w := by
  obtain ⟨D, rfl⟩ : ∃ k, D = k + 1 := ⟨D - 1, by omega⟩
  obtain ⟨Y, M, nn⟩ := w
  have h1 := mBt_r (x := x) (d := 2 * a)
  have h2 := mBt_r (x := x) (d := 2 * a + 1)
  have e1 : 2 * (a : Int) = ((2 * a : Nat) : Int) := by omega
  have e2 : ((2 * a : Nat) : Int) + 1 = ((2 * a + 1 : Nat) : Int) := by omega
  refine vi_k (r := some (.inr (.inl _))) fun Q hQ => ?_
  unfold eEn at hQ
  by_cases q : n = 1
  · rw [if_pos q] at hQ
    by_cases q2 : ((mBt x (2 * a) : Nat) : Int) + ((mBt x (2 * a + 1) : Nat) : Int) = k
    · rw [if_pos q2] at hQ
      simp (disch := omega) only [Option.toList_some, Option.toList_none, List.nil_append, List.cons_append, List.append_nil, true_and, and_true, not_true_eq_false, not_false_eq_true, true_implies, false_implies, implies_true, and_self, Int.reduceLT, Int.reduceLE, Int.reduceEq, Int.reduceNe, Int.reduceAdd, Int.reduceSub, Int.reduceMul, Int.reduceNeg, Int.reduceToNat, Int.toNat_natCast, ↓kk_ck, ↓kk_im, ↓kk_in, e_308, s_308_0, s_308_25, s_308_34, s_308_38, s_308_39, s_308_40, s_308_46, s_308_50, s_308_51, s_308_57, s_308_61, s_308_62, s_308_67, s_308_74, s_308_75, s_308_31, q, ne_eq, e1, vi_32, e2, mBt_e, q2]
      exact hQ
    · rw [if_neg q2] at hQ
      simp (disch := omega) only [Option.toList_some, Option.toList_none, List.nil_append, List.cons_append, List.append_nil, true_and, and_true, not_true_eq_false, not_false_eq_true, true_implies, false_implies, implies_true, and_self, Int.reduceLT, Int.reduceLE, Int.reduceEq, Int.reduceNe, Int.reduceAdd, Int.reduceSub, Int.reduceMul, Int.reduceNeg, Int.reduceToNat, Int.toNat_natCast, ↓kk_ck, ↓kk_im, ↓kk_in, e_308, s_308_0, s_308_25, s_308_34, s_308_38, s_308_39, s_308_40, s_308_46, s_308_50, s_308_51, s_308_57, s_308_61, s_308_62, s_308_67, s_308_74, s_308_75, s_308_31, q, ne_eq, e1, vi_32, e2, mBt_e, q2]
      exact hQ
  · rw [if_neg q] at hQ
    by_cases q4 : k = 0
    · subst q4
      rw [if_pos rfl] at hQ
      by_cases q2 : ((mBt x (2 * a) : Nat) : Int) = 0 <;> by_cases q3 : ((mBt x (2 * a + 1) : Nat) : Int) = 0 <;> (first | rw [if_pos q2] at hQ | rw [if_neg q2] at hQ) <;> (first | rw [if_pos q3] at hQ | rw [if_neg q3] at hQ) <;> simp only [Int.reduceAdd] at hQ <;> simp (disch := omega) only [Option.toList_some, Option.toList_none, List.nil_append, List.cons_append, List.append_nil, true_and, and_true, not_true_eq_false, not_false_eq_true, true_implies, false_implies, implies_true, and_self, Int.reduceLT, Int.reduceLE, Int.reduceEq, Int.reduceNe, Int.reduceAdd, Int.reduceSub, Int.reduceMul, Int.reduceNeg, Int.reduceToNat, Int.toNat_natCast, ↓kk_ck, ↓kk_im, ↓kk_in, e_308, s_308_0, s_308_25, s_308_34, s_308_38, s_308_39, s_308_40, s_308_46, s_308_50, s_308_51, s_308_57, s_308_61, s_308_62, s_308_67, s_308_74, s_308_75, s_308_31, q, ne_eq, e1, vi_32, e2, mBt_e, q2, q3, vi_64] <;> exact hQ
    · rw [if_neg q4] at hQ
      by_cases q2 : ((mBt x (2 * a) : Nat) : Int) = k <;> by_cases q3 : ((mBt x (2 * a + 1) : Nat) : Int) = k <;> (first | rw [if_pos q2] at hQ | rw [if_neg q2] at hQ) <;> (first | rw [if_pos q3] at hQ | rw [if_neg q3] at hQ) <;> simp only [Int.reduceAdd] at hQ <;> simp (disch := omega) only [Option.toList_some, Option.toList_none, List.nil_append, List.cons_append, List.append_nil, true_and, and_true, not_true_eq_false, not_false_eq_true, true_implies, false_implies, implies_true, and_self, Int.reduceLT, Int.reduceLE, Int.reduceEq, Int.reduceNe, Int.reduceAdd, Int.reduceSub, Int.reduceMul, Int.reduceNeg, Int.reduceToNat, Int.toNat_natCast, ↓kk_ck, ↓kk_im, ↓kk_in, e_308, s_308_0, s_308_25, s_308_34, s_308_38, s_308_39, s_308_40, s_308_46, s_308_50, s_308_51, s_308_57, s_308_61, s_308_62, s_308_67, s_308_74, s_308_75, s_308_31, q, ne_eq, e1, vi_32, e2, mBt_e, q2, q3, q4, vi_64] <;> exact hQ
theorem k_309n (hY : kY Y 151) {n1 n2 n3 x v : Int} (h : ¬ ((1 ≤ n1 ∧ n1 ≤ 1000) ∧ (1 ≤ n2 ∧ n2 ≤ 1000) ∧ (1 ≤ n3 ∧ n3 ≤ 1000) ∧ (0 ≤ x ∧ x ≤ 63) ∧ (0 ≤ v ∧ v ≤ 6))) (hD : 2 ≤ D) : vi_call GG D 309 [.inr (.inr 112), .inl n1, .inl n2, .inl n3, .inl x, .inl v] (Y, M, nn) K ↔ K (some (.inr (.inl (-1)))) (Y, M, nn) := by
  obtain ⟨D, rfl⟩ : ∃ k, D = k + 1 := ⟨D - 1, by omega⟩
  refine vi_k (r := some (.inr (.inl _))) fun Q hQ => ?_
  by_cases q1 : 1 ≤ n1 ∧ n1 ≤ 1000
  · by_cases q2 : 1 ≤ n2 ∧ n2 ≤ 1000
    · by_cases q3 : 1 ≤ n3 ∧ n3 ≤ 1000
      · by_cases q4 : 0 ≤ x ∧ x ≤ 63
        · have q5 : ¬ (0 ≤ v ∧ v ≤ 6) := fun e => h ⟨q1, q2, q3, q4, e⟩
          simp (disch := omega) only [Option.toList_some, Option.toList_none, List.nil_append, List.cons_append, List.append_nil, true_and, and_true, not_true_eq_false, not_false_eq_true, true_implies, false_implies, implies_true, and_self, Int.reduceLT, Int.reduceLE, Int.reduceEq, Int.reduceNe, Int.reduceAdd, Int.reduceSub, Int.reduceMul, Int.reduceNeg, Int.reduceToNat, Int.toNat_natCast, ↓kk_ck, ↓kk_im, ↓kk_in, e_309, s_309_0, s_309_8, s_309_11, s_309_19, s_309_22, s_309_30, s_309_33, s_309_41, s_309_44, s_309_52, s_309_55, k_234t q1, k_234t q2, k_234t q3, k_234t q4, k_234f q5, ne_eq]
          exact hQ
        · simp (disch := omega) only [Option.toList_some, Option.toList_none, List.nil_append, List.cons_append, List.append_nil, true_and, and_true, not_true_eq_false, not_false_eq_true, true_implies, false_implies, implies_true, and_self, Int.reduceLT, Int.reduceLE, Int.reduceEq, Int.reduceNe, Int.reduceAdd, Int.reduceSub, Int.reduceMul, Int.reduceNeg, Int.reduceToNat, Int.toNat_natCast, ↓kk_ck, ↓kk_im, ↓kk_in, e_309, s_309_0, s_309_8, s_309_11, s_309_19, s_309_22, s_309_30, s_309_33, s_309_41, s_309_55, k_234t q1, k_234t q2, k_234t q3, k_234f q4, ne_eq]
          exact hQ
      · simp (disch := omega) only [Option.toList_some, Option.toList_none, List.nil_append, List.cons_append, List.append_nil, true_and, and_true, not_true_eq_false, not_false_eq_true, true_implies, false_implies, implies_true, and_self, Int.reduceLT, Int.reduceLE, Int.reduceEq, Int.reduceNe, Int.reduceAdd, Int.reduceSub, Int.reduceMul, Int.reduceNeg, Int.reduceToNat, Int.toNat_natCast, ↓kk_ck, ↓kk_im, ↓kk_in, e_309, s_309_0, s_309_8, s_309_11, s_309_19, s_309_22, s_309_30, s_309_55, k_234t q1, k_234t q2, k_234f q3, ne_eq]
        exact hQ
    · simp (disch := omega) only [Option.toList_some, Option.toList_none, List.nil_append, List.cons_append, List.append_nil, true_and, and_true, not_true_eq_false, not_false_eq_true, true_implies, false_implies, implies_true, and_self, Int.reduceLT, Int.reduceLE, Int.reduceEq, Int.reduceNe, Int.reduceAdd, Int.reduceSub, Int.reduceMul, Int.reduceNeg, Int.reduceToNat, Int.toNat_natCast, ↓kk_ck, ↓kk_im, ↓kk_in, e_309, s_309_0, s_309_8, s_309_11, s_309_19, s_309_55, k_234t q1, k_234f q2, ne_eq]
      exact hQ
  · simp (disch := omega) only [Option.toList_some, Option.toList_none, List.nil_append, List.cons_append, List.append_nil, true_and, and_true, not_true_eq_false, not_false_eq_true, true_implies, false_implies, implies_true, and_self, Int.reduceLT, Int.reduceLE, Int.reduceEq, Int.reduceNe, Int.reduceAdd, Int.reduceSub, Int.reduceMul, Int.reduceNeg, Int.reduceToNat, Int.toNat_natCast, ↓kk_ck, ↓kk_im, ↓kk_in, e_309, s_309_0, s_309_8, s_309_55, k_234f q1, ne_eq]
    exact hQ
theorem k_309 (hY : kY Y 151) {n1 n2 n3 v : Int} {x : Nat} (h1 : 1 ≤ n1 ∧ n1 ≤ 1000) (h2 : 1 ≤ n2 ∧ n2 ≤ 1000) (h3 : 1 ≤ n3 ∧ n3 ≤ 1000) (hx : x < 64) (hv : 0 ≤ v ∧ v ≤ 6) (hD : 2 ≤ D) : vi_call GG D 309 [.inr (.inr 112), .inl n1, .inl n2, .inl n3, .inl (x : Int), .inl v] (Y, M, nn) K ↔ K (some (.inr (.inl (eD1 n1 n2 n3 x v 4 0)))) (Y, M, nn) := by
  obtain ⟨D, rfl⟩ : ∃ k, D = k + 1 := ⟨D - 1, by omega⟩
  refine vi_k (r := some (.inr (.inl _))) fun Q hQ => ?_
  have inner : ∀ (i : Nat) (T : Int), i ≤ 2 → (i : Int) ≤ v → (∀ l9 : Int, vi_ok GG D 309 155 [some (.inr (.inr 112)), some (.inl n1), some (.inl n2), some (.inl n3), some (.inl (x : Int)), some (.inl v), some (.inr (.inl T)), none, some (.inl (i : Int)), some (.inl l9)] [] (Y, M, nn) Q) → ∀ (k j : Nat) (s : Int), k + j = 4 → j ≤ 3 → 0 ≤ s → s ≤ 1000000000 * (100 + (j : Int)) → s + eD2 n1 n2 n3 x v i k j = T → vi_ok GG D 309 81 [some (.inr (.inr 112)), some (.inl n1), some (.inl n2), some (.inl n3), some (.inl (x : Int)), some (.inl v), some (.inr (.inl s)), none, some (.inl (i : Int)), some (.inl (j : Int))] [] (Y, M, nn) Q := by
    intro i T hi hiv hT k
    induction k with
    | zero => intro j s hk hj; omega
    | succ k ih =>
      intro j s hk hj hs0 hs1 he
      rw [eD2] at he
      rw [s_309_81]
      by_cases q : 2 < j
      · rw [if_pos (.inl q), Int.add_zero] at he
        subst he
        have := hT (j : Int)
        clear ih hT
        simp (disch := omega) only [Option.toList_some, Option.toList_none, List.nil_append, List.cons_append, List.append_nil, true_and, and_true, not_true_eq_false, not_false_eq_true, true_implies, false_implies, implies_true, and_self, Int.reduceLT, Int.reduceLE, Int.reduceEq, Int.reduceNe, Int.reduceAdd, Int.reduceSub, Int.reduceMul, Int.reduceNeg, Int.reduceToNat, Int.toNat_natCast, ↓kk_ck, ↓kk_im, ↓kk_in]
        exact this
      · by_cases q2 : v < (i : Int) + (j : Int)
        · rw [if_pos (.inr q2), Int.add_zero] at he
          subst he
          have := hT (j : Int)
          clear ih hT
          simp (disch := omega) only [Option.toList_some, Option.toList_none, List.nil_append, List.cons_append, List.append_nil, true_and, and_true, not_true_eq_false, not_false_eq_true, true_implies, false_implies, implies_true, and_self, Int.reduceLT, Int.reduceLE, Int.reduceEq, Int.reduceNe, Int.reduceAdd, Int.reduceSub, Int.reduceMul, Int.reduceNeg, Int.reduceToNat, Int.toNat_natCast, ↓kk_ck, ↓kk_im, ↓kk_in, s_309_87, s_309_94, @vi_32 ((i : Int) + (j : Int)) (by omega) (by omega)]
          exact this
        · rw [if_neg (by omega)] at he
          by_cases q3 : 2 < v - (i : Int) - (j : Int)
          · rw [if_pos q3, Int.zero_add] at he
            have := ih (j + 1) s (by omega) (by omega) hs0 (by omega) he
            clear ih hT
            simp (disch := omega) only [Option.toList_some, Option.toList_none, List.nil_append, List.cons_append, List.append_nil, true_and, and_true, not_true_eq_false, not_false_eq_true, true_implies, false_implies, implies_true, and_self, Int.reduceLT, Int.reduceLE, Int.reduceEq, Int.reduceNe, Int.reduceAdd, Int.reduceSub, Int.reduceMul, Int.reduceNeg, Int.reduceToNat, Int.toNat_natCast, ↓kk_ck, ↓kk_im, ↓kk_in, s_309_87, s_309_94, s_309_97, s_309_106, s_309_149, @vi_32 ((i : Int) + (j : Int)) (by omega) (by omega), @vi_32 (v - (i : Int)) (by omega) (by omega), @vi_32 (v - (i : Int) - (j : Int)) (by omega) (by omega), vi_inc]
            exact this
          · rw [if_neg q3, ← Int.add_assoc] at he
            have m := mul3 (eEn_r h1 (x := x) (a := 0) (k := (i : Int))) (eEn_r h2 (x := x) (a := 1) (k := (j : Int))) (eEn_r h3 (x := x) (a := 2) (k := v - (i : Int) - (j : Int)))
            have := ih (j + 1) (s + eEn n1 x 0 (i : Int) * eEn n2 x 1 (j : Int) * eEn n3 x 2 (v - (i : Int) - (j : Int))) (by omega) (by omega) (by omega) (by omega) he
            have A := fun {D : Nat} {K : Option vi_V → vi_W → Prop} (hD : 1 ≤ D) => show vi_call GG D 308 [.inl n1, .inl (x : Int), .inl 0, .inl (i : Int)] (Y, M, nn) K ↔ _ from @k_308 D K n1 h1 x 0 hx (by omega) (i : Int) (Y, M, nn) hD
            have B := fun {D : Nat} {K : Option vi_V → vi_W → Prop} (hD : 1 ≤ D) => show vi_call GG D 308 [.inl n2, .inl (x : Int), .inl 1, .inl (j : Int)] (Y, M, nn) K ↔ _ from @k_308 D K n2 h2 x 1 hx (by omega) (j : Int) (Y, M, nn) hD
            have C := fun {D : Nat} {K : Option vi_V → vi_W → Prop} (hD : 1 ≤ D) => show vi_call GG D 308 [.inl n3, .inl (x : Int), .inl 2, .inl (v - (i : Int) - (j : Int))] (Y, M, nn) K ↔ _ from @k_308 D K n3 h3 x 2 hx (by omega) (v - (i : Int) - (j : Int)) (Y, M, nn) hD
            clear ih hT
            simp (disch := omega) only [Option.toList_some, Option.toList_none, List.nil_append, List.cons_append, List.append_nil, true_and, and_true, not_true_eq_false, not_false_eq_true, true_implies, false_implies, implies_true, and_self, Int.reduceLT, Int.reduceLE, Int.reduceEq, Int.reduceNe, Int.reduceAdd, Int.reduceSub, Int.reduceMul, Int.reduceNeg, Int.reduceToNat, Int.toNat_natCast, ↓kk_ck, ↓kk_im, ↓kk_in, s_309_87, s_309_94, s_309_97, s_309_106, s_309_109, s_309_120, s_309_129, s_309_145, s_309_149, @vi_32 ((i : Int) + (j : Int)) (by omega) (by omega), @vi_32 (v - (i : Int)) (by omega) (by omega), @vi_32 (v - (i : Int) - (j : Int)) (by omega) (by omega), vi_inc, A, B, C, vi_64]
            exact this
  have outer : ∀ (k i : Nat) (s : Int), k + i = 4 → i ≤ 3 → 0 ≤ s → s ≤ 4000000000 * (i : Int) → s + eD1 n1 n2 n3 x v k i = eD1 n1 n2 n3 x v 4 0 → ∀ l9, vi_ok GG D 309 65 [some (.inr (.inr 112)), some (.inl n1), some (.inl n2), some (.inl n3), some (.inl (x : Int)), some (.inl v), some (.inr (.inl s)), none, some (.inl (i : Int)), l9] [] (Y, M, nn) Q := by
    intro k
    induction k with
    | zero => intro i s hk hi; omega
    | succ k ih =>
      intro i s hk hi hs0 hs1 he l9
      rw [eD1] at he
      rw [s_309_65]
      by_cases q : 2 < i
      · rw [if_pos (.inl q), Int.add_zero] at he
        rw [← he] at hQ
        clear ih inner
        simp (disch := omega) only [Option.toList_some, Option.toList_none, List.nil_append, List.cons_append, List.append_nil, true_and, and_true, not_true_eq_false, not_false_eq_true, true_implies, false_implies, implies_true, and_self, Int.reduceLT, Int.reduceLE, Int.reduceEq, Int.reduceNe, Int.reduceAdd, Int.reduceSub, Int.reduceMul, Int.reduceNeg, Int.reduceToNat, Int.toNat_natCast, ↓kk_ck, ↓kk_im, ↓kk_in, s_309_161]
        exact hQ
      · by_cases q2 : v < (i : Int)
        · rw [if_pos (.inr q2), Int.add_zero] at he
          rw [← he] at hQ
          clear ih inner
          simp (disch := omega) only [Option.toList_some, Option.toList_none, List.nil_append, List.cons_append, List.append_nil, true_and, and_true, not_true_eq_false, not_false_eq_true, true_implies, false_implies, implies_true, and_self, Int.reduceLT, Int.reduceLE, Int.reduceEq, Int.reduceNe, Int.reduceAdd, Int.reduceSub, Int.reduceMul, Int.reduceNeg, Int.reduceToNat, Int.toNat_natCast, ↓kk_ck, ↓kk_im, ↓kk_in, s_309_71, s_309_161]
          exact hQ
        · rw [if_neg (by omega), ← Int.add_assoc] at he
          have r := eD2_r (x := x) (v := v) (i := i) h1 h2 h3 4 0
          have := inner i (s + eD2 n1 n2 n3 x v i 4 0) (by omega) (by omega) (fun l9 => by
            have := ih (i + 1) _ (by omega) (by omega) (by omega) (by omega) he (some (.inl l9))
            clear ih inner hQ he
            simp (disch := omega) only [Option.toList_some, Option.toList_none, List.nil_append, List.cons_append, List.append_nil, true_and, and_true, not_true_eq_false, not_false_eq_true, true_implies, false_implies, implies_true, and_self, Int.reduceLT, Int.reduceLE, Int.reduceEq, Int.reduceNe, Int.reduceAdd, Int.reduceSub, Int.reduceMul, Int.reduceNeg, Int.reduceToNat, Int.toNat_natCast, ↓kk_ck, ↓kk_im, ↓kk_in, s_309_155, vi_inc]
            exact this) 4 0 s rfl (by omega) hs0 (by omega) rfl
          clear ih inner hQ he
          simp (disch := omega) only [Option.toList_some, Option.toList_none, List.nil_append, List.cons_append, List.append_nil, true_and, and_true, not_true_eq_false, not_false_eq_true, true_implies, false_implies, implies_true, and_self, Int.reduceLT, Int.reduceLE, Int.reduceEq, Int.reduceNe, Int.reduceAdd, Int.reduceSub, Int.reduceMul, Int.reduceNeg, Int.reduceToNat, Int.toNat_natCast, ↓kk_ck, ↓kk_im, ↓kk_in, s_309_71, s_309_78]
          exact this
  have := outer 4 0 0 rfl (by omega) (by omega) (by omega) (Int.zero_add _) none
  clear outer inner hQ
  have hx63 : 0 ≤ (x : Int) ∧ (x : Int) ≤ 63 := by omega
  simp (disch := omega) only [Option.toList_some, Option.toList_none, List.nil_append, List.cons_append, List.append_nil, true_and, and_true, not_true_eq_false, not_false_eq_true, true_implies, false_implies, implies_true, and_self, Int.reduceLT, Int.reduceLE, Int.reduceEq, Int.reduceNe, Int.reduceAdd, Int.reduceSub, Int.reduceMul, Int.reduceNeg, Int.reduceToNat, Int.toNat_natCast, ↓kk_ck, ↓kk_im, ↓kk_in, e_309, s_309_0, s_309_8, s_309_11, s_309_19, s_309_22, s_309_30, s_309_33, s_309_41, s_309_44, s_309_52, s_309_59, k_234t h1, k_234t h2, k_234t h3, k_234t hx63, k_234t hv, ne_eq]
  exact this
end
