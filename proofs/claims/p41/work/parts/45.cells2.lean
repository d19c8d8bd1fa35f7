/-! Contracts of Cells, second part. -/
def sNb (c w : Nat) : Int := if w = 0 then (if c / 36 ≠ 0 then (c : Int) - 36 else -1) else if w = 1 then (if c / 6 % 6 ≠ 0 then (c : Int) - 6 else -1) else if w = 2 then (if c % 6 ≠ 0 then (c : Int) - 1 else -1) else if w = 3 then (if c % 6 ≠ 5 then (c : Int) + 1 else -1) else if w = 4 then (if c / 6 % 6 ≠ 5 then (c : Int) + 6 else -1) else (if c / 36 ≠ 5 then (c : Int) + 36 else -1)
def sSd (S T : Nat → Bool) : Nat := sN 216 (fun c => sXl S c && T c) + sN 216 (fun c => sXh S c && T c) + sN 216 (fun c => sYl S c && T c) + sN 216 (fun c => sYh S c && T c) + sN 216 (fun c => S c && sZl T c) + sN 216 (fun c => S c && sZh T c)
theorem tw_1 : ∀ t, t < 36 → BitVec.twoPow 64 t - 1#64 = BitVec.ofNat 64 (bN 36 (fun i => decide (i < t))) := by decide +kernel
theorem tw_2 : ∀ t, t < 36 → sN 36 (fun i => decide (i < t)) = t := by decide +kernel
theorem o_low {S : Nat → Bool} {z t : Nat} (ht : t < 36) (h1 : S (36 * z + t) = true) (h2 : ∀ i, i < t → S (36 * z + i) = false) : vi_w64 (vi_and64 (cL S z).toInt (vi_w64 (-(cL S z).toInt)) - (1 : Int)) = (cL (fun c => decide (c < 36 * z + t)) z).toInt := by
  have e : (1 : Int) = (1#64).toInt := rfl
  rw [vi_neg64b, vi_and64b, e, vi_sub64b]
  congr 1
  have e2 : cL S z &&& -cL S z = BitVec.twoPow 64 t := by
    apply BitVec.eq_of_getLsbD_eq
    intro i hi
    rw [BitVec.getLsbD_and, BitVec.getLsbD_neg, BitVec.getLsbD_twoPow, cL_b]
    by_cases h : i < t
    · simp [h2 i h, show ¬ t = i by omega]
    · by_cases h3 : i = t
      · subst h3
        have : ¬ ∃ j, j < i ∧ (cL S z).getLsbD j = true := by
          rintro ⟨j, hj, hj2⟩
          rw [cL_b, h2 j hj] at hj2
          simp at hj2
        simp [h1, hi, ht]
        intro j hj
        rw [cL_b, h2 j hj]; simp
      · have : ∃ j, j < i ∧ (cL S z).getLsbD j = true := ⟨t, by omega, by rw [cL_b, h1]; simp [ht]⟩
        simp only [this, hi, show ¬ t = i by omega, decide_true, decide_false, Bool.and_true, Bool.and_false]
        cases decide (i < 36) <;> cases S (36 * z + i) <;> rfl
  rw [e2, tw_1 t ht, cL]
  congr 1
  exact bN_c fun i _ => by simp
def lyr (f : Nat → Int) (x : Int) : Int := if 0 ≤ x ∧ x < 6 then f x.toNat else 0
section
variable {d q q1 q2 : Nat} {K : Option vi_V → vi_W → Prop} {Y : vi_Y} {M : vi_M} {n : Nat × Nat} {S S1 S2 : Nat → Bool}
theorem k_19g (hq : kC Y q) {x : Int} : vi_call GG (d + 1) 19 [.inr (.inr q), .inl x] (Y, M, n) K ↔ K (some (.inr (.inl (lyr (M (q + 1)) x)))) (Y, M, n) := by
  obtain ⟨h1, h2, h3, h4⟩ := hq
  refine vi_k (r := some (.inr (.inl _))) fun Q hQ => ?_
  by_cases hx : 0 ≤ x ∧ x < 6
  · rw [lyr, if_pos hx] at hQ
    simp (disch := omega) only [Option.toList_some, Option.toList_none, List.nil_append, List.cons_append, List.append_nil, true_and, and_true, not_true_eq_false, not_false_eq_true, true_implies, false_implies, implies_true, and_self, Int.reduceLT, Int.reduceLE, Int.reduceEq, Int.reduceNe, Int.reduceAdd, Int.reduceSub, Int.reduceMul, Int.reduceNeg, Int.reduceToNat, Int.toNat_natCast, ↓kk_ck, ↓kk_im, ↓kk_in, e_19, s_19_0, s_19_4, s_19_13, s_19_22, s_19_23, s_19_9, s_19_17, s_19_10, s_19_19, h1, h2, h3, h4, hx.1, hx.2]
    exact hQ
  · rw [lyr, if_neg hx] at hQ
    simp +contextual (disch := omega) only [Option.toList_some, Option.toList_none, List.nil_append, List.cons_append, List.append_nil, true_and, and_true, not_true_eq_false, not_false_eq_true, true_implies, false_implies, implies_true, and_self, Int.reduceLT, Int.reduceLE, Int.reduceEq, Int.reduceNe, Int.reduceAdd, Int.reduceSub, Int.reduceMul, Int.reduceNeg, Int.reduceToNat, Int.toNat_natCast, ↓kk_ck, ↓kk_im, ↓kk_in, e_19, s_19_0, s_19_4, s_19_13, s_19_22, s_19_23, s_19_9, s_19_17, s_19_10, s_19_19, h1, h2, h3, h4]
    (repeat' first | exact hQ | intro _ | refine And.intro ?_ ?_ | (exfalso; omega))
theorem k_12 (hq : kC Y q) (hS : M (q + 1) = cR S) : vi_call GG (d + 2) 12 [.inr (.inr q)] (Y, M, n) K ↔ K (some (.inl (sLo S))) (Y, M, n) := by
  obtain ⟨h1, h2, h3, h4⟩ := hq
  refine vi_k (r := some (.inl (sLo S))) fun Q hQ => ?_
  rw [e_12, s_12_0]
  have key : ∀ z : Nat, z ≤ 6 → ∀ l2 l3, (∀ i, i < 36 * z → S i = false) → vi_ok GG (d + 1) 12 2 [some (.inr (.inr q)), some (.inl (z : Int)), l2, l3] [] (Y, M, n) Q := by
    refine vi_dn 6 ?_ fun z hz ih => ?_
    · intro l2 l3 h
      rw [s_12_2]
      simp (disch := omega) only [Option.toList_some, Option.toList_none, List.nil_append, List.cons_append, List.append_nil, true_and, and_true, not_true_eq_false, not_false_eq_true, true_implies, false_implies, implies_true, and_self, Int.reduceLT, Int.reduceLE, Int.reduceEq, Int.reduceNe, Int.reduceAdd, Int.reduceSub, Int.reduceMul, Int.reduceNeg, Int.reduceToNat, Int.toNat_natCast, ↓kk_ck, ↓kk_im, ↓kk_in, s_12_0, s_12_11, s_12_24, s_12_39, s_12_45, s_12_7, s_12_15, s_12_37, s_12_8, s_12_17, s_12_21, h1, h2, h3, h4]
      rw [sLo, sMn_e (fun j _ hj => h j (by omega))] at hQ
      exact hQ
    · intro l2 l3 h
      rw [s_12_2]
      by_cases he : ∃ j, j < 36 ∧ S (36 * z + j) = true
      · have hn : ¬ (cL S z).toInt = 0 := fun k => by
          obtain ⟨j, hj, hj2⟩ := he
          rw [cL_inj0.mp k j hj] at hj2
          cases hj2
        obtain ⟨j, hj, hj2⟩ := he
        have hex : sE (fun i => decide (i < 36) && S (36 * z + i)) = false := by
          cases hh : sE (fun i => decide (i < 36) && S (36 * z + i))
          · rfl
          · have := sE_iff.mp hh j (by omega)
            simp [hj, hj2] at this
        obtain ⟨t, _, ht, ht2, -⟩ := sE_n hex
        simp only [Bool.and_eq_true, decide_eq_true_eq] at ht
        have ht3 : ∀ i, i < t → S (36 * z + i) = false := fun i hi => by
          have := ht2 i hi
          simpa [show i < 36 by omega] using this
        have e : sN 36 (fun i => decide (36 * z + i < 36 * z + t)) = t := by
          rw [sN_c (g := fun i => decide (i < t)) (fun i _ => by simp), tw_2 t ht.1]
        simp (disch := omega) only [Option.toList_some, Option.toList_none, List.nil_append, List.cons_append, List.append_nil, true_and, and_true, not_true_eq_false, not_false_eq_true, true_implies, false_implies, implies_true, and_self, Int.reduceLT, Int.reduceLE, Int.reduceEq, Int.reduceNe, Int.reduceAdd, Int.reduceSub, Int.reduceMul, Int.reduceNeg, Int.reduceToNat, Int.toNat_natCast, ↓kk_ck, ↓kk_im, ↓kk_in, s_12_0, s_12_11, s_12_24, s_12_39, s_12_45, s_12_7, s_12_15, s_12_37, s_12_8, s_12_17, s_12_21, h1, h2, h3, h4, hS, cR_n hz, vi_cm0, hn, o_low ht.1 ht.2 ht3, k_bc, e, vi_32]
        rw [sLo, sMn_f (j := 36 * z + t) (by omega) (by omega) ht.2 (fun l _ hl => by
          by_cases h6 : l < 36 * z
          · exact h l h6
          · have := ht3 (l - 36 * z) (by omega)
            rwa [show 36 * z + (l - 36 * z) = l by omega] at this)] at hQ
        exact vi_qI hQ (by omega) rfl
      · have hz0 : (cL S z).toInt = 0 := cL_inj0.mpr fun i hi => by
          cases hs : S (36 * z + i)
          · rfl
          · exact absurd ⟨i, hi, hs⟩ he
        simp (disch := omega) only [Option.toList_some, Option.toList_none, List.nil_append, List.cons_append, List.append_nil, true_and, and_true, not_true_eq_false, not_false_eq_true, true_implies, false_implies, implies_true, and_self, Int.reduceLT, Int.reduceLE, Int.reduceEq, Int.reduceNe, Int.reduceAdd, Int.reduceSub, Int.reduceMul, Int.reduceNeg, Int.reduceToNat, Int.toNat_natCast, ↓kk_ck, ↓kk_im, ↓kk_in, s_12_0, s_12_11, s_12_24, s_12_39, s_12_45, s_12_7, s_12_15, s_12_37, s_12_8, s_12_17, s_12_21, h1, h2, h3, h4, hS, cR_n hz, vi_cm0, hz0, vi_inc]
        refine ih _ _ fun i hi => ?_
        by_cases h6 : i < 36 * z
        · exact h i h6
        · cases hs : S i
          · rfl
          · exact absurd ⟨i - 36 * z, by omega, by rw [show 36 * z + (i - 36 * z) = i by omega]; exact hs⟩ he
  exact key 0 (by omega) _ _ (fun i hi => by omega)
theorem k_13 (hq : kC Y q) (hS : M (q + 1) = cR S) : vi_call GG (d + 2) 13 [.inr (.inr q)] (Y, M, n) K ↔ K none (Y, vi_rs M (q + 1) (cR (sInn S)), n) := by
  have hq' := hq
  obtain ⟨h1, h2, h3, h4⟩ := hq
  refine vi_k (r := none) fun Q hQ => ?_
  rw [e_13, s_13_0]
  have key : ∀ z : Nat, z ≤ 6 → ∀ l4 l5, vi_ok GG (d + 1) 13 4 [some (.inr (.inr q)), some (.inr (.inl (cZ S ((z : Int) - 1)).toInt)), none, some (.inl (z : Int)), l4, l5] [] (Y, vi_rs M (q + 1) (vi_m z (cR (sInn S)) (cR S)), n) Q := by
    refine vi_dn 6 ?_ fun z hz ih => ?_
    · intro l4 l5
      rw [cR_m fun j hj => cR_o hj, s_13_4]
      simp (disch := omega) only [Option.toList_some, Option.toList_none, List.nil_append, List.cons_append, List.append_nil, true_and, and_true, not_true_eq_false, not_false_eq_true, true_implies, false_implies, implies_true, and_self, Int.reduceLT, Int.reduceLE, Int.reduceEq, Int.reduceNe, Int.reduceAdd, Int.reduceSub, Int.reduceMul, Int.reduceNeg, Int.reduceToNat, Int.toNat_natCast, ↓kk_ck, ↓kk_im, ↓kk_in, s_13_0, s_13_13, s_13_72, s_13_9, s_13_17, s_13_10, s_13_19, s_13_25, s_13_33, s_13_39, s_13_45, s_13_51, s_13_61, s_13_63, h1, h2, h3, h4]
      exact hQ
    · intro l4 l5
      rw [s_13_4]
      have e : lyr (vi_m z (cR (sInn S)) (cR S)) ((z : Int) + 1) = (cL (sZh S) z).toInt := by
        rw [← cZ_h S hz]
        unfold cZ lyr
        by_cases h : 0 ≤ (z : Int) + 1 ∧ (z : Int) + 1 < 6
        · rw [if_pos h, if_pos h, vi_m_ge (by omega), cR_n (by omega)]
        · rw [if_neg h, if_neg h]; rfl
      simp (disch := omega) only [Option.toList_some, Option.toList_none, List.nil_append, List.cons_append, List.append_nil, true_and, and_true, not_true_eq_false, not_false_eq_true, true_implies, false_implies, implies_true, and_self, Int.reduceLT, Int.reduceLE, Int.reduceEq, Int.reduceNe, Int.reduceAdd, Int.reduceSub, Int.reduceMul, Int.reduceNeg, Int.reduceToNat, Int.toNat_natCast, ↓kk_ck, ↓kk_im, ↓kk_in, s_13_0, s_13_13, s_13_72, s_13_9, s_13_17, s_13_10, s_13_19, s_13_25, s_13_33, s_13_39, s_13_45, s_13_51, s_13_61, s_13_63, h1, h2, h3, h4, vi_rs_s, vi_m_ge (Nat.le_refl _), cR_n hz, k_20, k_21, k_22, k_23, o_and, cZ_l S hz, k_19g hq', vi_32, e, vi_ms_rs, vi_rs_rs, vi_inc]
      rw [vi_m_s (by rw [cR_n hz]; rfl)]
      have := ih (some (.inr (.inl (cL S z).toInt))) none
      rw [show ((z + 1 : Nat) : Int) - 1 = (z : Int) by omega, cZ_n _ hz] at this
      exact this
  have := key 0 (by omega)
  rw [vi_m_0, vi_rs_id hS] at this
  exact this _ _
theorem k_14 (hq1 : kC Y q1) (hq2 : kC Y q2) (hS1 : M (q1 + 1) = cR S1) (hS2 : M (q2 + 1) = cR S2) : vi_call GG (d + 2) 14 [.inr (.inr q1), .inr (.inr q2)] (Y, M, n) K ↔ K (some (.inl (sSd S1 S2 : Int))) (Y, M, n) := by
  have hq1' := hq1
  have hq2' := hq2
  obtain ⟨h1, h2, h3, h4⟩ := hq1
  obtain ⟨i1, i2, i3, i4⟩ := hq2
  refine vi_k (r := some (.inl (sSd S1 S2 : Int))) fun Q hQ => ?_
  rw [e_14, s_14_0]
  have key : ∀ z : Nat, z ≤ 6 → ∀ l4 l5 l6 l7, vi_ok GG (d + 1) 14 4 [some (.inr (.inr q1)), some (.inr (.inr q2)), some (.inl ((sN (36 * z) (fun c => sXl S1 c && S2 c) + sN (36 * z) (fun c => sXh S1 c && S2 c) + sN (36 * z) (fun c => sYl S1 c && S2 c) + sN (36 * z) (fun c => sYh S1 c && S2 c) + sN (36 * z) (fun c => S1 c && sZl S2 c) + sN (36 * z) (fun c => S1 c && sZh S2 c) : Nat) : Int)), some (.inl (z : Int)), l4, l5, l6, l7] [] (Y, M, n) Q := by
    refine vi_dn 6 ?_ fun z hz ih => ?_
    · intro l4 l5 l6 l7
      rw [s_14_4]
      simp (disch := omega) only [Option.toList_some, Option.toList_none, List.nil_append, List.cons_append, List.append_nil, true_and, and_true, not_true_eq_false, not_false_eq_true, true_implies, false_implies, implies_true, and_self, Int.reduceLT, Int.reduceLE, Int.reduceEq, Int.reduceNe, Int.reduceAdd, Int.reduceSub, Int.reduceMul, Int.reduceNeg, Int.reduceToNat, Int.toNat_natCast, ↓kk_ck, ↓kk_im, ↓kk_in, s_14_0, s_14_13, s_14_112, s_14_9, s_14_17, s_14_10, s_14_19, s_14_26, s_14_34, s_14_40, s_14_45, s_14_51, s_14_57, s_14_63, s_14_69, s_14_75, s_14_85, s_14_89, s_14_99, s_14_103, h1, h2, h3, h4]
      exact hQ
    · intro l4 l5 l6 l7
      have b := fun f : Nat → Bool => sN_le 36 (fun i => f (36 * z + i))
      have b' := fun f : Nat → Bool => sN_le (36 * z) f
      have B1 := b (fun c => sXl S1 c && S2 c)
      have B2 := b (fun c => sXh S1 c && S2 c)
      have B3 := b (fun c => sYl S1 c && S2 c)
      have B4 := b (fun c => sYh S1 c && S2 c)
      have B5 := b (fun c => S1 c && sZl S2 c)
      have B6 := b (fun c => S1 c && sZh S2 c)
      have C1 := b' (fun c => sXl S1 c && S2 c)
      have C2 := b' (fun c => sXh S1 c && S2 c)
      have C3 := b' (fun c => sYl S1 c && S2 c)
      have C4 := b' (fun c => sYh S1 c && S2 c)
      have C5 := b' (fun c => S1 c && sZl S2 c)
      have C6 := b' (fun c => S1 c && sZh S2 c)
      have ih := ih (some (.inr (.inl (cL S1 z).toInt))) none (some (.inr (.inl (cL S2 z).toInt))) none
      simp only [sN_36] at ih
      rw [s_14_4]
      simp (disch := omega) only [Option.toList_some, Option.toList_none, List.nil_append, List.cons_append, List.append_nil, true_and, and_true, not_true_eq_false, not_false_eq_true, true_implies, false_implies, implies_true, and_self, Int.reduceLT, Int.reduceLE, Int.reduceEq, Int.reduceNe, Int.reduceAdd, Int.reduceSub, Int.reduceMul, Int.reduceNeg, Int.reduceToNat, Int.toNat_natCast, ↓kk_ck, ↓kk_im, ↓kk_in, s_14_0, s_14_13, s_14_112, s_14_9, s_14_17, s_14_10, s_14_19, s_14_26, s_14_34, s_14_40, s_14_45, s_14_51, s_14_57, s_14_63, s_14_69, s_14_75, s_14_85, s_14_89, s_14_99, s_14_103, h1, h2, h3, h4, i1, i2, i3, i4, hS1, cR_n hz, k_19 hq2' hS2, cZ_n S2 hz, cZ_l S2 hz, cZ_h S2 hz, k_20, k_21, k_22, k_23, o_and, k_bc, vi_32, vi_inc]
      exact vi_fI (fun x => vi_ok GG (d + 1) 14 4 [some (.inr (.inr q1)), some (.inr (.inr q2)), some (.inl x), some (.inl ((z + 1 : Nat) : Int)), some (.inr (.inl (cL S1 z).toInt)), none, some (.inr (.inl (cL S2 z).toInt)), none] [] (Y, M, n) Q) ih (by omega)
  exact key 0 (by omega) _ _ _ _
/-- addTo: C's cells of layer z come to S -/
def sAdd (S C : Nat → Bool) (z : Nat) : Nat → Bool := fun c => S c || (decide (c / 36 = z) && C c)
theorem sAdd_0 {S C : Nat → Bool} {z : Nat} (h : sN 36 (fun i => C (36 * z + i) && ! S (36 * z + i)) = 0) : ∀ i, i < 216 → sAdd S C z i = S i := by
  intro i hi
  unfold sAdd
  by_cases h1 : i / 36 = z
  · have := sN_0.mp h (i % 36) (by omega)
    rw [show 36 * z + i % 36 = i by omega] at this
    cases hc : C i <;> cases hs : S i <;> simp_all
  · simp [h1]
theorem k_18 (hq : kC Y q) (hS : M (q + 1) = cR S) {z : Nat} (hz : z < 6) {C : Nat → Bool} : vi_call GG (d + 1) 18 [.inr (.inr q), .inl (z : Int), .inr (.inl (cL C z).toInt)] (Y, M, n) K ↔ K (some (.inl (vi_b (decide (sN 36 (fun i => C (36 * z + i) && ! S (36 * z + i)) ≠ 0))))) (Y, vi_rs M (q + 1) (cR (sAdd S C z)), n) := by
  obtain ⟨h1, h2, h3, h4⟩ := hq
  refine vi_k (r := some (.inl _)) fun Q hQ => ?_
  by_cases he : sN 36 (fun i => C (36 * z + i) && ! S (36 * z + i)) = 0
  · have h0 : (cL (fun c => C c && ! S c) z).toInt = 0 := cL_inj0.mpr (sN_0.mp he)
    rw [vi_rs_id (by rw [hS]; exact cR_c fun i hi => (sAdd_0 he i hi).symm), vi_bn (fun k => k he)] at hQ
    simp +contextual (disch := omega) only [Option.toList_some, Option.toList_none, List.nil_append, List.cons_append, List.append_nil, true_and, and_true, not_true_eq_false, not_false_eq_true, true_implies, false_implies, implies_true, and_self, Int.reduceLT, Int.reduceLE, Int.reduceEq, Int.reduceNe, Int.reduceAdd, Int.reduceSub, Int.reduceMul, Int.reduceNeg, Int.reduceToNat, Int.toNat_natCast, ↓kk_ck, ↓kk_im, ↓kk_in, e_18, s_18_0, s_18_4, s_18_13, s_18_30, s_18_32, s_18_9, s_18_18, s_18_36, s_18_10, s_18_20, s_18_39, s_18_27, s_18_42, h1, h2, h3, h4, hS, cR_n hz, o_dif, vi_cm0, h0, ne_eq]
    exact hQ
  · have h0 : ¬ (cL (fun c => C c && ! S c) z).toInt = 0 := fun k => he (sN_0.mpr (cL_inj0.mp k))
    rw [vi_bp he] at hQ
    simp (disch := omega) only [Option.toList_some, Option.toList_none, List.nil_append, List.cons_append, List.append_nil, true_and, and_true, not_true_eq_false, not_false_eq_true, true_implies, false_implies, implies_true, and_self, Int.reduceLT, Int.reduceLE, Int.reduceEq, Int.reduceNe, Int.reduceAdd, Int.reduceSub, Int.reduceMul, Int.reduceNeg, Int.reduceToNat, Int.toNat_natCast, ↓kk_ck, ↓kk_im, ↓kk_in, e_18, s_18_0, s_18_4, s_18_13, s_18_30, s_18_32, s_18_9, s_18_18, s_18_36, s_18_10, s_18_20, s_18_39, s_18_27, s_18_42, h1, h2, h3, h4, hS, cR_n hz, o_dif, o_or, vi_cm0, h0, ne_eq, vi_ms_rs]
    refine vi_qI hQ rfl ?_
    congr 2
    refine congrArg _ (cR_u hz ?_ fun j _ hj => ?_)
    · rw [cL_c fun j hj => ?_]
      unfold sAdd
      rw [decide_eq_true (by omega), Bool.true_and]
    · unfold sAdd
      rw [decide_eq_false hj, Bool.false_and, Bool.or_false]
theorem k_17 {c w : Nat} {W : vi_W} (hc : c < 216) (hw : w < 6) : vi_call GG (d + 1) 17 [.inl (c : Int), .inl (w : Int)] W K ↔ K (some (.inl (sNb c w))) W := by
  obtain ⟨Y, M, n⟩ := W
  refine vi_k (r := some (.inl _)) fun Q hQ => ?_
  obtain rfl | rfl | rfl | rfl | rfl | rfl : w = 0 ∨ w = 1 ∨ w = 2 ∨ w = 3 ∨ w = 4 ∨ w = 5 := by omega
  · rw [show sNb c 0 = if c / 36 ≠ 0 then (c : Int) - 36 else -1 from rfl] at hQ
    by_cases h : c / 36 ≠ 0
    · rw [if_pos h] at hQ
      simp (disch := omega) only [Option.toList_some, Option.toList_none, List.nil_append, List.cons_append, List.append_nil, true_and, and_true, not_true_eq_false, not_false_eq_true, true_implies, false_implies, implies_true, and_self, Int.reduceLT, Int.reduceLE, Int.reduceEq, Int.reduceNe, Int.reduceAdd, Int.reduceSub, Int.reduceMul, Int.reduceNeg, Int.reduceToNat, Int.toNat_natCast, ↓kk_ck, ↓kk_im, ↓kk_in, e_17, s_17_0, s_17_5, s_17_11, s_17_14, s_17_19, s_17_23, s_17_28, s_17_33, s_17_35, s_17_40, s_17_47, s_17_52, s_17_62, s_17_66, s_17_73, s_17_78, s_17_84, s_17_85, s_17_86, s_17_92, s_17_98, s_17_99, vi_32, vi_td, vi_tm, ne_eq]
      exact hQ
    · rw [if_neg h] at hQ
      simp (disch := omega) only [Option.toList_some, Option.toList_none, List.nil_append, List.cons_append, List.append_nil, true_and, and_true, not_true_eq_false, not_false_eq_true, true_implies, false_implies, implies_true, and_self, Int.reduceLT, Int.reduceLE, Int.reduceEq, Int.reduceNe, Int.reduceAdd, Int.reduceSub, Int.reduceMul, Int.reduceNeg, Int.reduceToNat, Int.toNat_natCast, ↓kk_ck, ↓kk_im, ↓kk_in, e_17, s_17_0, s_17_5, s_17_11, s_17_14, s_17_19, s_17_23, s_17_28, s_17_33, s_17_35, s_17_40, s_17_47, s_17_52, s_17_62, s_17_66, s_17_73, s_17_78, s_17_84, s_17_85, s_17_86, s_17_92, s_17_98, s_17_99, vi_32, vi_td, vi_tm, ne_eq]
      exact hQ
  · rw [show sNb c 1 = if c / 6 % 6 ≠ 0 then (c : Int) - 6 else -1 from rfl] at hQ
    by_cases h : c / 6 % 6 ≠ 0
    · rw [if_pos h] at hQ
      simp (disch := omega) only [Option.toList_some, Option.toList_none, List.nil_append, List.cons_append, List.append_nil, true_and, and_true, not_true_eq_false, not_false_eq_true, true_implies, false_implies, implies_true, and_self, Int.reduceLT, Int.reduceLE, Int.reduceEq, Int.reduceNe, Int.reduceAdd, Int.reduceSub, Int.reduceMul, Int.reduceNeg, Int.reduceToNat, Int.toNat_natCast, ↓kk_ck, ↓kk_im, ↓kk_in, e_17, s_17_0, s_17_5, s_17_11, s_17_14, s_17_19, s_17_23, s_17_28, s_17_33, s_17_35, s_17_40, s_17_47, s_17_52, s_17_62, s_17_66, s_17_73, s_17_78, s_17_84, s_17_85, s_17_86, s_17_92, s_17_98, s_17_99, vi_32, vi_td, vi_tm, ne_eq]
      exact hQ
    · rw [if_neg h] at hQ
      simp (disch := omega) only [Option.toList_some, Option.toList_none, List.nil_append, List.cons_append, List.append_nil, true_and, and_true, not_true_eq_false, not_false_eq_true, true_implies, false_implies, implies_true, and_self, Int.reduceLT, Int.reduceLE, Int.reduceEq, Int.reduceNe, Int.reduceAdd, Int.reduceSub, Int.reduceMul, Int.reduceNeg, Int.reduceToNat, Int.toNat_natCast, ↓kk_ck, ↓kk_im, ↓kk_in, e_17, s_17_0, s_17_5, s_17_11, s_17_14, s_17_19, s_17_23, s_17_28, s_17_33, s_17_35, s_17_40, s_17_47, s_17_52, s_17_62, s_17_66, s_17_73, s_17_78, s_17_84, s_17_85, s_17_86, s_17_92, s_17_98, s_17_99, vi_32, vi_td, vi_tm, ne_eq]
      exact hQ
  · rw [show sNb c 2 = if c % 6 ≠ 0 then (c : Int) - 1 else -1 from rfl] at hQ
    by_cases h : c % 6 ≠ 0
    · rw [if_pos h] at hQ
      simp (disch := omega) only [Option.toList_some, Option.toList_none, List.nil_append, List.cons_append, List.append_nil, true_and, and_true, not_true_eq_false, not_false_eq_true, true_implies, false_implies, implies_true, and_self, Int.reduceLT, Int.reduceLE, Int.reduceEq, Int.reduceNe, Int.reduceAdd, Int.reduceSub, Int.reduceMul, Int.reduceNeg, Int.reduceToNat, Int.toNat_natCast, ↓kk_ck, ↓kk_im, ↓kk_in, e_17, s_17_0, s_17_5, s_17_11, s_17_14, s_17_19, s_17_23, s_17_28, s_17_33, s_17_35, s_17_40, s_17_47, s_17_52, s_17_62, s_17_66, s_17_73, s_17_78, s_17_84, s_17_85, s_17_86, s_17_92, s_17_98, s_17_99, vi_32, vi_td, vi_tm, ne_eq]
      exact hQ
    · rw [if_neg h] at hQ
      simp (disch := omega) only [Option.toList_some, Option.toList_none, List.nil_append, List.cons_append, List.append_nil, true_and, and_true, not_true_eq_false, not_false_eq_true, true_implies, false_implies, implies_true, and_self, Int.reduceLT, Int.reduceLE, Int.reduceEq, Int.reduceNe, Int.reduceAdd, Int.reduceSub, Int.reduceMul, Int.reduceNeg, Int.reduceToNat, Int.toNat_natCast, ↓kk_ck, ↓kk_im, ↓kk_in, e_17, s_17_0, s_17_5, s_17_11, s_17_14, s_17_19, s_17_23, s_17_28, s_17_33, s_17_35, s_17_40, s_17_47, s_17_52, s_17_62, s_17_66, s_17_73, s_17_78, s_17_84, s_17_85, s_17_86, s_17_92, s_17_98, s_17_99, vi_32, vi_td, vi_tm, ne_eq]
      exact hQ
  · rw [show sNb c 3 = if c % 6 ≠ 5 then (c : Int) + 1 else -1 from rfl] at hQ
    by_cases h : c % 6 ≠ 5
    · rw [if_pos h] at hQ
      simp (disch := omega) only [Option.toList_some, Option.toList_none, List.nil_append, List.cons_append, List.append_nil, true_and, and_true, not_true_eq_false, not_false_eq_true, true_implies, false_implies, implies_true, and_self, Int.reduceLT, Int.reduceLE, Int.reduceEq, Int.reduceNe, Int.reduceAdd, Int.reduceSub, Int.reduceMul, Int.reduceNeg, Int.reduceToNat, Int.toNat_natCast, ↓kk_ck, ↓kk_im, ↓kk_in, e_17, s_17_0, s_17_5, s_17_11, s_17_14, s_17_19, s_17_23, s_17_28, s_17_33, s_17_35, s_17_40, s_17_47, s_17_52, s_17_62, s_17_66, s_17_73, s_17_78, s_17_84, s_17_85, s_17_86, s_17_92, s_17_98, s_17_99, vi_32, vi_td, vi_tm, ne_eq]
      exact hQ
    · rw [if_neg h] at hQ
      simp (disch := omega) only [Option.toList_some, Option.toList_none, List.nil_append, List.cons_append, List.append_nil, true_and, and_true, not_true_eq_false, not_false_eq_true, true_implies, false_implies, implies_true, and_self, Int.reduceLT, Int.reduceLE, Int.reduceEq, Int.reduceNe, Int.reduceAdd, Int.reduceSub, Int.reduceMul, Int.reduceNeg, Int.reduceToNat, Int.toNat_natCast, ↓kk_ck, ↓kk_im, ↓kk_in, e_17, s_17_0, s_17_5, s_17_11, s_17_14, s_17_19, s_17_23, s_17_28, s_17_33, s_17_35, s_17_40, s_17_47, s_17_52, s_17_62, s_17_66, s_17_73, s_17_78, s_17_84, s_17_85, s_17_86, s_17_92, s_17_98, s_17_99, vi_32, vi_td, vi_tm, ne_eq]
      exact hQ
  · rw [show sNb c 4 = if c / 6 % 6 ≠ 5 then (c : Int) + 6 else -1 from rfl] at hQ
    by_cases h : c / 6 % 6 ≠ 5
    · rw [if_pos h] at hQ
      simp (disch := omega) only [Option.toList_some, Option.toList_none, List.nil_append, List.cons_append, List.append_nil, true_and, and_true, not_true_eq_false, not_false_eq_true, true_implies, false_implies, implies_true, and_self, Int.reduceLT, Int.reduceLE, Int.reduceEq, Int.reduceNe, Int.reduceAdd, Int.reduceSub, Int.reduceMul, Int.reduceNeg, Int.reduceToNat, Int.toNat_natCast, ↓kk_ck, ↓kk_im, ↓kk_in, e_17, s_17_0, s_17_5, s_17_11, s_17_14, s_17_19, s_17_23, s_17_28, s_17_33, s_17_35, s_17_40, s_17_47, s_17_52, s_17_62, s_17_66, s_17_73, s_17_78, s_17_84, s_17_85, s_17_86, s_17_92, s_17_98, s_17_99, vi_32, vi_td, vi_tm, ne_eq]
      exact hQ
    · rw [if_neg h] at hQ
      simp (disch := omega) only [Option.toList_some, Option.toList_none, List.nil_append, List.cons_append, List.append_nil, true_and, and_true, not_true_eq_false, not_false_eq_true, true_implies, false_implies, implies_true, and_self, Int.reduceLT, Int.reduceLE, Int.reduceEq, Int.reduceNe, Int.reduceAdd, Int.reduceSub, Int.reduceMul, Int.reduceNeg, Int.reduceToNat, Int.toNat_natCast, ↓kk_ck, ↓kk_im, ↓kk_in, e_17, s_17_0, s_17_5, s_17_11, s_17_14, s_17_19, s_17_23, s_17_28, s_17_33, s_17_35, s_17_40, s_17_47, s_17_52, s_17_62, s_17_66, s_17_73, s_17_78, s_17_84, s_17_85, s_17_86, s_17_92, s_17_98, s_17_99, vi_32, vi_td, vi_tm, ne_eq]
      exact hQ
  · rw [show sNb c 5 = if c / 36 ≠ 5 then (c : Int) + 36 else -1 from rfl] at hQ
    by_cases h : c / 36 ≠ 5
    · rw [if_pos h] at hQ
      simp (disch := omega) only [Option.toList_some, Option.toList_none, List.nil_append, List.cons_append, List.append_nil, true_and, and_true, not_true_eq_false, not_false_eq_true, true_implies, false_implies, implies_true, and_self, Int.reduceLT, Int.reduceLE, Int.reduceEq, Int.reduceNe, Int.reduceAdd, Int.reduceSub, Int.reduceMul, Int.reduceNeg, Int.reduceToNat, Int.toNat_natCast, ↓kk_ck, ↓kk_im, ↓kk_in, e_17, s_17_0, s_17_5, s_17_11, s_17_14, s_17_19, s_17_23, s_17_28, s_17_33, s_17_35, s_17_40, s_17_47, s_17_52, s_17_62, s_17_66, s_17_73, s_17_78, s_17_84, s_17_85, s_17_86, s_17_92, s_17_98, s_17_99, vi_32, vi_td, vi_tm, ne_eq]
      exact hQ
    · rw [if_neg h] at hQ
      simp (disch := omega) only [Option.toList_some, Option.toList_none, List.nil_append, List.cons_append, List.append_nil, true_and, and_true, not_true_eq_false, not_false_eq_true, true_implies, false_implies, implies_true, and_self, Int.reduceLT, Int.reduceLE, Int.reduceEq, Int.reduceNe, Int.reduceAdd, Int.reduceSub, Int.reduceMul, Int.reduceNeg, Int.reduceToNat, Int.toNat_natCast, ↓kk_ck, ↓kk_im, ↓kk_in, e_17, s_17_0, s_17_5, s_17_11, s_17_14, s_17_19, s_17_23, s_17_28, s_17_33, s_17_35, s_17_40, s_17_47, s_17_52, s_17_62, s_17_66, s_17_73, s_17_78, s_17_84, s_17_85, s_17_86, s_17_92, s_17_98, s_17_99, vi_32, vi_td, vi_tm, ne_eq]
      exact hQ
end
