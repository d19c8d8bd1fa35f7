/-! Pairs: of, judge, wax, pieces. -/
def ofV (f : Nat → Int) (L : List (Nat → Int)) (h x : Int) : Int := if (0 ≤ h ∧ h < (L.length : Int)) ∧ 0 ≤ x ∧ x ≤ 6 then (if x = 6 then (sN 6 (fun k => decide (gOf (f 96) (f 97) (f 98) (rL L h.toNat) (k : Int) ≠ -1)) : Int) else rL L h.toNat x.toNat + (if x = 5 then 1 else 0)) else -1
section
variable {sc : Nat → Int} {ln t a n d : Nat} {CS : Nat → List gCla} {lw : Option (List gCla)} {Y : vi_Y} {M : vi_M} {nn : Nat × Nat} {K : Option vi_V → vi_W → Prop}
theorem k_191 (hY : kY Y 151) (h9 : kY9 Y) {f : Nat → Int} (hs : rSz f (M 30)) {L : List (Nat → Int)} (hr : rOK (M 31) (M 32) L) (hH : rHs f L) {h x : Int} : vi_call GG (d + 70) 191 [.inr (.inr 29), .inl h, .inl x] (Y, M, nn) K ↔ K (some (.inl (ofV f L h x))) (Y, M, nn) := by
  obtain ⟨a1, a2, a3, a4, a5, a6, a7, a8, a9, a10, a11, a12⟩ := y_29 h9
  obtain ⟨b1, b2, -⟩ := y_30 hY (by omega)
  have kr := kR_31 hY (by omega)
  have hr0 := hr.1
  refine vi_k (r := some (.inl _)) fun Q hQ => ?_
  unfold ofV at hQ
  by_cases h1 : (0 ≤ h ∧ h < (L.length : Int)) ∧ 0 ≤ x ∧ x ≤ 6
  · rw [if_pos h1] at hQ
    obtain ⟨k, rfl⟩ : ∃ k : Nat, h = (k : Int) := ⟨h.toNat, by omega⟩
    obtain ⟨y, rfl⟩ : ∃ y : Nat, x = (y : Int) := ⟨x.toNat, by omega⟩
    rw [Int.toNat_natCast, Int.toNat_natCast] at hQ
    have hk : k < L.length := by omega
    obtain ⟨g1, g2, g3⟩ := hH.2.2 k hk
    by_cases h6 : (y : Int) = 6
    · rw [if_pos h6] at hQ
      have hb : gB (M 30 8) (M 30 9) (M 30 10) := by rw [hs.1, hs.2.1, hs.2.2.1]; exact hs.2.2.2.2.1
      have k54 := fun {K : Option vi_V → vi_W → Prop} => @k_54 (d + 66) 30 K Y M nn b1 hb 31 16 L kr hr hH.2.1 k hk g1
      rw [hs.1, hs.2.1, hs.2.2.1] at k54
      simp only [Nat.add_assoc, Nat.reduceAdd] at k54
      clear hs hb g1 g2 g3
      simp (disch := omega) only [Option.toList_some, Option.toList_none, List.nil_append, List.cons_append, List.append_nil, true_and, and_true, not_true_eq_false, not_false_eq_true, true_implies, false_implies, implies_true, and_self, Int.reduceLT, Int.reduceLE, Int.reduceEq, Int.reduceNe, Int.reduceAdd, Int.reduceSub, Int.reduceMul, Int.reduceNeg, Int.reduceToNat, Int.toNat_natCast, ↓kk_ck, ↓kk_im, ↓kk_in, e_191, s_191_0, s_191_4, s_191_18, s_191_22, s_191_28, s_191_30, s_191_36, s_191_52, s_191_70, s_191_76, s_191_77, s_191_9, s_191_40, s_191_56, s_191_12, s_191_44, s_191_59, s_191_15, s_191_47, s_191_64, s_191_51, a1, a2, b1, b2, kr.1, e_149, s_149_0, s_149_4, hr0, h6, k54, ne_eq]
      exact hQ
    · rw [if_neg h6] at hQ
      have hy : y < 6 := by omega
      have k151 := fun {K : Option vi_V → vi_W → Prop} => k_151 (d := d + 68) (K := K) (n := nn) kr hr hH.2.1 (r := (k : Int)) hy
      have hrn : rNum L (k : Int) y = rL L k y := by unfold rNum; rw [if_pos (by omega), Int.toNat_natCast]
      rw [hrn] at k151
      simp only [Nat.add_assoc, Nat.reduceAdd] at k151
      have hl := (hH.2.2 k hk).1.2.2.2.2.2
      clear hs g1 g2 g3 hrn
      by_cases h5 : (y : Int) = 5
      · rw [if_pos h5] at hQ
        have hy5 : y = 5 := by omega
        subst hy5
        have e := @vi_32 (rL L k 5 + 1) (by omega) (by omega)
        generalize rL L k 5 = z at *
        simp (disch := omega) only [Option.toList_some, Option.toList_none, List.nil_append, List.cons_append, List.append_nil, true_and, and_true, not_true_eq_false, not_false_eq_true, true_implies, false_implies, implies_true, and_self, Int.reduceLT, Int.reduceLE, Int.reduceEq, Int.reduceNe, Int.reduceAdd, Int.reduceSub, Int.reduceMul, Int.reduceNeg, Int.reduceToNat, Int.toNat_natCast, ↓kk_ck, ↓kk_im, ↓kk_in, e_191, s_191_0, s_191_4, s_191_18, s_191_22, s_191_28, s_191_30, s_191_36, s_191_52, s_191_70, s_191_76, s_191_77, s_191_9, s_191_40, s_191_56, s_191_12, s_191_44, s_191_59, s_191_15, s_191_47, s_191_64, s_191_51, a1, a2, b1, b2, kr.1, e_149, s_149_0, s_149_4, hr0, k151, ne_eq, @vi_32 (z + 1) (by omega) (by omega)]
        exact hQ
      · rw [if_neg h5, Int.add_zero] at hQ
        simp (disch := omega) only [Option.toList_some, Option.toList_none, List.nil_append, List.cons_append, List.append_nil, true_and, and_true, not_true_eq_false, not_false_eq_true, true_implies, false_implies, implies_true, and_self, Int.reduceLT, Int.reduceLE, Int.reduceEq, Int.reduceNe, Int.reduceAdd, Int.reduceSub, Int.reduceMul, Int.reduceNeg, Int.reduceToNat, Int.toNat_natCast, ↓kk_ck, ↓kk_im, ↓kk_in, e_191, s_191_0, s_191_4, s_191_18, s_191_22, s_191_28, s_191_30, s_191_36, s_191_52, s_191_70, s_191_76, s_191_77, s_191_9, s_191_40, s_191_56, s_191_12, s_191_44, s_191_59, s_191_15, s_191_47, s_191_64, s_191_51, a1, a2, b1, b2, kr.1, e_149, s_149_0, s_149_4, hr0, k151, ne_eq]
        exact hQ
  · rw [if_neg h1] at hQ
    clear hs
    by_cases e1 : h < 0
    · simp (disch := omega) only [Option.toList_some, Option.toList_none, List.nil_append, List.cons_append, List.append_nil, true_and, and_true, not_true_eq_false, not_false_eq_true, true_implies, false_implies, implies_true, and_self, Int.reduceLT, Int.reduceLE, Int.reduceEq, Int.reduceNe, Int.reduceAdd, Int.reduceSub, Int.reduceMul, Int.reduceNeg, Int.reduceToNat, Int.toNat_natCast, ↓kk_ck, ↓kk_im, ↓kk_in, e_191, s_191_0, s_191_4, s_191_18, s_191_22, s_191_28, s_191_30, s_191_36, s_191_52, s_191_70, s_191_76, s_191_77, s_191_9, s_191_40, s_191_56, s_191_12, s_191_44, s_191_59, s_191_15, s_191_47, s_191_64, s_191_51, a1, a2, b1, b2, kr.1, e_149, s_149_0, s_149_4, hr0, ne_eq]
      exact hQ
    · by_cases e2 : (L.length : Int) ≤ h
      · simp (disch := omega) only [Option.toList_some, Option.toList_none, List.nil_append, List.cons_append, List.append_nil, true_and, and_true, not_true_eq_false, not_false_eq_true, true_implies, false_implies, implies_true, and_self, Int.reduceLT, Int.reduceLE, Int.reduceEq, Int.reduceNe, Int.reduceAdd, Int.reduceSub, Int.reduceMul, Int.reduceNeg, Int.reduceToNat, Int.toNat_natCast, ↓kk_ck, ↓kk_im, ↓kk_in, e_191, s_191_0, s_191_4, s_191_18, s_191_22, s_191_28, s_191_30, s_191_36, s_191_52, s_191_70, s_191_76, s_191_77, s_191_9, s_191_40, s_191_56, s_191_12, s_191_44, s_191_59, s_191_15, s_191_47, s_191_64, s_191_51, a1, a2, b1, b2, kr.1, e_149, s_149_0, s_149_4, hr0, ne_eq]
        exact hQ
      · by_cases e3 : x < 0
        · simp (disch := omega) only [Option.toList_some, Option.toList_none, List.nil_append, List.cons_append, List.append_nil, true_and, and_true, not_true_eq_false, not_false_eq_true, true_implies, false_implies, implies_true, and_self, Int.reduceLT, Int.reduceLE, Int.reduceEq, Int.reduceNe, Int.reduceAdd, Int.reduceSub, Int.reduceMul, Int.reduceNeg, Int.reduceToNat, Int.toNat_natCast, ↓kk_ck, ↓kk_im, ↓kk_in, e_191, s_191_0, s_191_4, s_191_18, s_191_22, s_191_28, s_191_30, s_191_36, s_191_52, s_191_70, s_191_76, s_191_77, s_191_9, s_191_40, s_191_56, s_191_12, s_191_44, s_191_59, s_191_15, s_191_47, s_191_64, s_191_51, a1, a2, b1, b2, kr.1, e_149, s_149_0, s_149_4, hr0, ne_eq]
          exact hQ
        · simp (disch := omega) only [Option.toList_some, Option.toList_none, List.nil_append, List.cons_append, List.append_nil, true_and, and_true, not_true_eq_false, not_false_eq_true, true_implies, false_implies, implies_true, and_self, Int.reduceLT, Int.reduceLE, Int.reduceEq, Int.reduceNe, Int.reduceAdd, Int.reduceSub, Int.reduceMul, Int.reduceNeg, Int.reduceToNat, Int.toNat_natCast, ↓kk_ck, ↓kk_im, ↓kk_in, e_191, s_191_0, s_191_4, s_191_18, s_191_22, s_191_28, s_191_30, s_191_36, s_191_52, s_191_70, s_191_76, s_191_77, s_191_9, s_191_40, s_191_56, s_191_12, s_191_44, s_191_59, s_191_15, s_191_47, s_191_64, s_191_51, a1, a2, b1, b2, kr.1, e_149, s_149_0, s_149_4, hr0, ne_eq]
          exact hQ
theorem p_191 (hW : jW sc ln t a CS lw n Y M nn) {h x : Int} : jPair sc ln t (d + 70) 191 295 [.inl h, .inl x] (Y, M, nn) := by
  refine jPair_q hW fun K hK => ?_
  obtain ⟨LH, LR, LS, c1, c2, c3, c4⟩ := hW.2.2.2.1
  have hB := c1.2.2.2.2.2.2.1.2.2.2.2.1
  have hH := c1.2.1
  rw [k_191 hW.1.1 hW.1.2.1 c1.2.2.2.2.2.2.1 c1.1.1 hH]
  refine hK _ M hW fun K2 h2 => ?_
  by_cases h1 : (0 ≤ h ∧ h < (LH.length : Int)) ∧ 0 ≤ x ∧ x ≤ 6
  · obtain ⟨k, rfl⟩ : ∃ k : Nat, h = (k : Int) := ⟨h.toNat, by omega⟩
    obtain ⟨y, rfl⟩ : ∃ y : Nat, x = (y : Int) := ⟨x.toNat, by omega⟩
    obtain ⟨g1, g2, g3⟩ := hH.2.2 k (by omega)
    rw [k_295 hW.1.1 hW.2.2.2.2.1.1.1 hH.2.1 hH.1 (by omega) (rHo_o g3 g1) (by omega) (by omega)]
    have e : ofV (M 114) LH (k : Int) (y : Int) = (if y = 6 then ((mLn (M 114) k 7 0 : Nat) : Int) else M 114 (6 * k + y)) := by
      unfold ofV
      rw [if_pos h1, Int.toNat_natCast, Int.toNat_natCast]
      by_cases h6 : y = 6
      · rw [if_pos h6, if_pos (show (y : Int) = 6 by omega), mLn_h g3 g1 hB g2 7 0 rfl (by omega) (fun j hj => absurd hj (by omega))]
      · rw [if_neg h6, if_neg (show ¬ (y : Int) = 6 by omega)]
        by_cases h5 : y = 5
        · subst h5
          rw [if_pos (show ((5 : Nat) : Int) = 5 from rfl), g3.2]
        · rw [if_neg (show ¬ (y : Int) = 5 by omega), Int.add_zero, g3.1 y (by omega)]
    rw [e] at h2
    exact h2 M hW
  · rw [k_295n hW.1.1 hH.2.1 hH.1 (by omega) (by omega)]
    rw [show ofV (M 114) LH h x = -1 from if_neg h1] at h2
    exact h2 M hW
theorem k_232 {x v : Int} {w : vi_W} : vi_call GG (d + 1) 232 [.inl x, .inl v] w K ↔ K (some (.inl (vi_b (decide (0 ≤ x ∧ x ≤ 63 ∧ 0 ≤ v ∧ v ≤ 6))))) w := by
  refine vi_k (r := some (.inl _)) fun Q hQ => ?_
  obtain ⟨Y, M, n⟩ := w
  by_cases e1 : x < 0
  · rw [decide_eq_false (by omega)] at hQ
    simp (disch := omega) only [Option.toList_some, Option.toList_none, List.nil_append, List.cons_append, List.append_nil, true_and, and_true, not_true_eq_false, not_false_eq_true, true_implies, false_implies, implies_true, and_self, Int.reduceLT, Int.reduceLE, Int.reduceEq, Int.reduceNe, Int.reduceAdd, Int.reduceSub, Int.reduceMul, Int.reduceNeg, Int.reduceToNat, Int.toNat_natCast, ↓kk_ck, ↓kk_im, ↓kk_in, e_232, s_232_0, s_232_4, s_232_10, s_232_14, s_232_20, s_232_24, s_232_25]
    exact hQ
  · by_cases e2 : 63 < x
    · rw [decide_eq_false (by omega)] at hQ
      simp (disch := omega) only [Option.toList_some, Option.toList_none, List.nil_append, List.cons_append, List.append_nil, true_and, and_true, not_true_eq_false, not_false_eq_true, true_implies, false_implies, implies_true, and_self, Int.reduceLT, Int.reduceLE, Int.reduceEq, Int.reduceNe, Int.reduceAdd, Int.reduceSub, Int.reduceMul, Int.reduceNeg, Int.reduceToNat, Int.toNat_natCast, ↓kk_ck, ↓kk_im, ↓kk_in, e_232, s_232_0, s_232_4, s_232_10, s_232_14, s_232_20, s_232_24, s_232_25]
      exact hQ
    · by_cases e3 : v < 0
      · rw [decide_eq_false (by omega)] at hQ
        simp (disch := omega) only [Option.toList_some, Option.toList_none, List.nil_append, List.cons_append, List.append_nil, true_and, and_true, not_true_eq_false, not_false_eq_true, true_implies, false_implies, implies_true, and_self, Int.reduceLT, Int.reduceLE, Int.reduceEq, Int.reduceNe, Int.reduceAdd, Int.reduceSub, Int.reduceMul, Int.reduceNeg, Int.reduceToNat, Int.toNat_natCast, ↓kk_ck, ↓kk_im, ↓kk_in, e_232, s_232_0, s_232_4, s_232_10, s_232_14, s_232_20, s_232_24, s_232_25]
        exact hQ
      · by_cases e4 : 6 < v
        · rw [decide_eq_false (by omega)] at hQ
          simp (disch := omega) only [Option.toList_some, Option.toList_none, List.nil_append, List.cons_append, List.append_nil, true_and, and_true, not_true_eq_false, not_false_eq_true, true_implies, false_implies, implies_true, and_self, Int.reduceLT, Int.reduceLE, Int.reduceEq, Int.reduceNe, Int.reduceAdd, Int.reduceSub, Int.reduceMul, Int.reduceNeg, Int.reduceToNat, Int.toNat_natCast, ↓kk_ck, ↓kk_im, ↓kk_in, e_232, s_232_0, s_232_4, s_232_10, s_232_14, s_232_20, s_232_24, s_232_25]
          exact hQ
        · rw [decide_eq_true (by omega)] at hQ
          simp (disch := omega) only [Option.toList_some, Option.toList_none, List.nil_append, List.cons_append, List.append_nil, true_and, and_true, not_true_eq_false, not_false_eq_true, true_implies, false_implies, implies_true, and_self, Int.reduceLT, Int.reduceLE, Int.reduceEq, Int.reduceNe, Int.reduceAdd, Int.reduceSub, Int.reduceMul, Int.reduceNeg, Int.reduceToNat, Int.toNat_natCast, ↓kk_ck, ↓kk_im, ↓kk_in, e_232, s_232_0, s_232_4, s_232_10, s_232_14, s_232_20, s_232_24, s_232_25]
          exact hQ
theorem k_231 {x : Int} {w : vi_W} : vi_call GG (d + 1) 231 [.inl x] w K ↔ K (some (.inl (vi_b (decide (1 ≤ x ∧ x ≤ 1000))))) w := by
  refine vi_k (r := some (.inl _)) fun Q hQ => ?_
  obtain ⟨Y, M, n⟩ := w
  by_cases e1 : x < 1
  · rw [decide_eq_false (by omega)] at hQ
    simp (disch := omega) only [Option.toList_some, Option.toList_none, List.nil_append, List.cons_append, List.append_nil, true_and, and_true, not_true_eq_false, not_false_eq_true, true_implies, false_implies, implies_true, and_self, Int.reduceLT, Int.reduceLE, Int.reduceEq, Int.reduceNe, Int.reduceAdd, Int.reduceSub, Int.reduceMul, Int.reduceNeg, Int.reduceToNat, Int.toNat_natCast, ↓kk_ck, ↓kk_im, ↓kk_in, e_231, s_231_0, s_231_5, s_231_12, s_231_16, s_231_17]
    exact hQ
  · by_cases e2 : 1000 < x
    · rw [decide_eq_false (by omega)] at hQ
      simp (disch := omega) only [Option.toList_some, Option.toList_none, List.nil_append, List.cons_append, List.append_nil, true_and, and_true, not_true_eq_false, not_false_eq_true, true_implies, false_implies, implies_true, and_self, Int.reduceLT, Int.reduceLE, Int.reduceEq, Int.reduceNe, Int.reduceAdd, Int.reduceSub, Int.reduceMul, Int.reduceNeg, Int.reduceToNat, Int.toNat_natCast, ↓kk_ck, ↓kk_im, ↓kk_in, e_231, s_231_0, s_231_5, s_231_12, s_231_16, s_231_17]
      exact hQ
    · rw [decide_eq_true (by omega)] at hQ
      simp (disch := omega) only [Option.toList_some, Option.toList_none, List.nil_append, List.cons_append, List.append_nil, true_and, and_true, not_true_eq_false, not_false_eq_true, true_implies, false_implies, implies_true, and_self, Int.reduceLT, Int.reduceLE, Int.reduceEq, Int.reduceNe, Int.reduceAdd, Int.reduceSub, Int.reduceMul, Int.reduceNeg, Int.reduceToNat, Int.toNat_natCast, ↓kk_ck, ↓kk_im, ↓kk_in, e_231, s_231_0, s_231_5, s_231_12, s_231_16, s_231_17]
      exact hQ
theorem k_233 {x : Int} {w : vi_W} : vi_call GG (d + 1) 233 [.inl x] w K ↔ K (some (.inl (vi_b (decide (0 ≤ x ∧ x < 6))))) w := by
  refine vi_k (r := some (.inl _)) fun Q hQ => ?_
  obtain ⟨Y, M, n⟩ := w
  by_cases e1 : x < 0
  · rw [decide_eq_false (by omega)] at hQ
    simp (disch := omega) only [Option.toList_some, Option.toList_none, List.nil_append, List.cons_append, List.append_nil, true_and, and_true, not_true_eq_false, not_false_eq_true, true_implies, false_implies, implies_true, and_self, Int.reduceLT, Int.reduceLE, Int.reduceEq, Int.reduceNe, Int.reduceAdd, Int.reduceSub, Int.reduceMul, Int.reduceNeg, Int.reduceToNat, Int.toNat_natCast, ↓kk_ck, ↓kk_im, ↓kk_in, e_233, s_233_0, s_233_4, s_233_10, s_233_14, s_233_15]
    exact hQ
  · by_cases e2 : 6 ≤ x
    · rw [decide_eq_false (by omega)] at hQ
      simp (disch := omega) only [Option.toList_some, Option.toList_none, List.nil_append, List.cons_append, List.append_nil, true_and, and_true, not_true_eq_false, not_false_eq_true, true_implies, false_implies, implies_true, and_self, Int.reduceLT, Int.reduceLE, Int.reduceEq, Int.reduceNe, Int.reduceAdd, Int.reduceSub, Int.reduceMul, Int.reduceNeg, Int.reduceToNat, Int.toNat_natCast, ↓kk_ck, ↓kk_im, ↓kk_in, e_233, s_233_0, s_233_4, s_233_10, s_233_14, s_233_15]
      exact hQ
    · rw [decide_eq_true (by omega)] at hQ
      simp (disch := omega) only [Option.toList_some, Option.toList_none, List.nil_append, List.cons_append, List.append_nil, true_and, and_true, not_true_eq_false, not_false_eq_true, true_implies, false_implies, implies_true, and_self, Int.reduceLT, Int.reduceLE, Int.reduceEq, Int.reduceNe, Int.reduceAdd, Int.reduceSub, Int.reduceMul, Int.reduceNeg, Int.reduceToNat, Int.toNat_natCast, ↓kk_ck, ↓kk_im, ↓kk_in, e_233, s_233_0, s_233_4, s_233_10, s_233_14, s_233_15]
      exact hQ
end
