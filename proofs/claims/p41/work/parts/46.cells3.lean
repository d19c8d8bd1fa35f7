/-! Contracts of Cells, third part: filling, lines, pieces. -/
theorem f_1 : ∀ s, s < 7 → vi_w64 (vi_shl64 (1 : Int) ((s : Nat) : Int) - (1 : Int)) = (cL (fun i => decide (i < s)) 0).toInt := by decide +kernel
theorem f_2 : ∀ s, s < 7 → ∀ y, y < 6 → vi_shl64 (cL (fun i => decide (i < s)) 0).toInt ((6 * y : Nat) : Int) = (cL (fun i => decide (i % 6 < s ∧ i / 6 = y)) 0).toInt := by decide +kernel
theorem f_3 : ∀ u, u < 6 → vi_shl64 (63 : Int) ((6 * u : Nat) : Int) = (cL (fun i => decide (i / 6 % 6 = u)) 0).toInt := by decide +kernel
theorem f_4 : ∀ u, u < 6 → vi_shl64 (1090785345 : Int) ((u : Nat) : Int) = (cL (fun i => decide (i % 6 = u)) 0).toInt := by decide +kernel
theorem cL_sh {S T : Nat → Bool} {z : Nat} (h : ∀ i, i < 36 → S i = T (36 * z + i)) : cL S 0 = cL T z := by
  apply cL_x
  intro i _
  rw [cL_b]
  by_cases hi : i < 36
  · simp [hi, h i hi]
  · simp [hi]
section
variable {d q q1 q2 : Nat} {K : Option vi_V → vi_W → Prop} {Y : vi_Y} {M : vi_M} {n : Nat × Nat} {S S1 S2 : Nat → Bool}
theorem k_3 (hq : kC Y q) (hS : M (q + 1) = cR S) {a b c : Int} (ha : 1 ≤ a ∧ a ≤ 6) (hb : 1 ≤ b ∧ b ≤ 6) (hc : 1 ≤ c ∧ c ≤ 6) : vi_call GG (d + 1) 3 [.inr (.inr q), .inl a, .inl b, .inl c] (Y, M, n) K ↔ K none (Y, vi_rs M (q + 1) (cR (sBox a b c)), n) := by
  obtain ⟨h1, h2, h3, h4⟩ := hq
  obtain ⟨s, rfl⟩ : ∃ s : Nat, a = s := ⟨a.toNat, by omega⟩
  refine vi_k (r := none) fun Q hQ => ?_
  rw [e_3, s_3_0, f_1 s (by omega)]
  have key2 : ∀ z : Nat, z ≤ 6 → vi_ok GG d 3 48 [some (.inr (.inr q)), some (.inl (s : Int)), some (.inl b), some (.inl c), some (.inr (.inl (cL (fun i => decide (i < s)) 0).toInt)), none, some (.inr (.inl (cL (fun i => decide (i % 6 < s ∧ i / 6 < b.toNat)) 0).toInt)), none, some (.inl (z : Int))] [] (Y, vi_rs M (q + 1) (vi_m z (cR (sBox s b c)) (M (q + 1))), n) Q := by
    refine vi_dn 6 ?_ fun z hz ih => ?_
    · rw [hS, cR_m fun j hj => cR_o hj]
      simp (disch := omega) only [Option.toList_some, Option.toList_none, List.nil_append, List.cons_append, List.append_nil, true_and, and_true, not_true_eq_false, not_false_eq_true, true_implies, false_implies, implies_true, and_self, Int.reduceLT, Int.reduceLE, Int.reduceEq, Int.reduceNe, Int.reduceAdd, Int.reduceSub, Int.reduceMul, Int.reduceNeg, Int.reduceToNat, Int.toNat_natCast, ↓kk_ck, ↓kk_im, ↓kk_in, s_3_0, s_3_19, s_3_26, s_3_45, s_3_58, s_3_70, s_3_75, s_3_76, s_3_83, s_3_54, s_3_62, s_3_77, s_3_55, s_3_48, h1, h2, h3, h4]
      exact hQ
    · rw [s_3_48]
      by_cases hzc : (z : Int) < c
      · simp (disch := omega) only [Option.toList_some, Option.toList_none, List.nil_append, List.cons_append, List.append_nil, true_and, and_true, not_true_eq_false, not_false_eq_true, true_implies, false_implies, implies_true, and_self, Int.reduceLT, Int.reduceLE, Int.reduceEq, Int.reduceNe, Int.reduceAdd, Int.reduceSub, Int.reduceMul, Int.reduceNeg, Int.reduceToNat, Int.toNat_natCast, ↓kk_ck, ↓kk_im, ↓kk_in, s_3_0, s_3_19, s_3_26, s_3_45, s_3_58, s_3_70, s_3_75, s_3_76, s_3_83, s_3_54, s_3_62, s_3_77, s_3_55, h1, h2, h3, h4, vi_ms_rs, vi_rs_s, vi_rs_rs, vi_inc]
        rw [vi_m_s (by
          rw [cR_n hz]
          congr 1
          refine cL_sh fun i hi => ?_
          unfold sBox
          simp only [decide_eq_decide]
          omega)]
        exact ih
      · simp (disch := omega) only [Option.toList_some, Option.toList_none, List.nil_append, List.cons_append, List.append_nil, true_and, and_true, not_true_eq_false, not_false_eq_true, true_implies, false_implies, implies_true, and_self, Int.reduceLT, Int.reduceLE, Int.reduceEq, Int.reduceNe, Int.reduceAdd, Int.reduceSub, Int.reduceMul, Int.reduceNeg, Int.reduceToNat, Int.toNat_natCast, ↓kk_ck, ↓kk_im, ↓kk_in, s_3_0, s_3_19, s_3_26, s_3_45, s_3_58, s_3_70, s_3_75, s_3_76, s_3_83, s_3_54, s_3_62, s_3_77, s_3_55, h1, h2, h3, h4, vi_ms_rs, vi_rs_s, vi_rs_rs, vi_inc]
        rw [vi_m_s (by
          rw [cR_n hz, cL_inj0.mpr fun i hi => ?_]
          unfold sBox
          rw [decide_eq_false (by omega)])]
        exact ih
  have key1 : ∀ y : Nat, y ≤ b.toNat → vi_ok GG d 3 13 [some (.inr (.inr q)), some (.inl (s : Int)), some (.inl b), some (.inl c), some (.inr (.inl (cL (fun i => decide (i < s)) 0).toInt)), none, some (.inr (.inl (cL (fun i => decide (i % 6 < s ∧ i / 6 < y)) 0).toInt)), none, some (.inl (y : Int))] [] (Y, M, n) Q := by
    refine vi_dn b.toNat ?_ fun y hy ih => ?_
    · simp (disch := omega) only [Option.toList_some, Option.toList_none, List.nil_append, List.cons_append, List.append_nil, true_and, and_true, not_true_eq_false, not_false_eq_true, true_implies, false_implies, implies_true, and_self, Int.reduceLT, Int.reduceLE, Int.reduceEq, Int.reduceNe, Int.reduceAdd, Int.reduceSub, Int.reduceMul, Int.reduceNeg, Int.reduceToNat, Int.toNat_natCast, ↓kk_ck, ↓kk_im, ↓kk_in, s_3_13, s_3_45]
      have := key2 0 (by omega)
      rw [vi_m_0, vi_rs_id rfl] at this
      exact this
    · rw [s_3_13]
      simp (disch := omega) only [Option.toList_some, Option.toList_none, List.nil_append, List.cons_append, List.append_nil, true_and, and_true, not_true_eq_false, not_false_eq_true, true_implies, false_implies, implies_true, and_self, Int.reduceLT, Int.reduceLE, Int.reduceEq, Int.reduceNe, Int.reduceAdd, Int.reduceSub, Int.reduceMul, Int.reduceNeg, Int.reduceToNat, Int.toNat_natCast, ↓kk_ck, ↓kk_im, ↓kk_in, s_3_19, s_3_26, kk_nc, vi_32]
      rw [show (6 : Int) * (y : Int) = ((6 * y : Nat) : Int) by omega, f_2 s (by omega) y (by omega), o_or, cL_c (S := fun c => decide (c % 6 < s ∧ c / 6 < y) || decide (c % 6 < s ∧ c / 6 = y)) (T := fun i => decide (i % 6 < s ∧ i / 6 < y + 1)) fun i hi => ?_]
      · exact ih
      · rw [Bool.eq_iff_iff]
        simp only [Bool.or_eq_true, decide_eq_true_eq]
        omega
  have := key1 0 (by omega)
  rw [(cL_inj0 (S := fun i => decide (i % 6 < s ∧ i / 6 < 0))).mpr fun i hi => decide_eq_false (by omega)] at this
  exact this
theorem sP_has {S : Nat → Bool} {c : Nat} : sPut S (c : Int) c = true := by simp [sPut]
theorem kk_or {a b : Bool} : vi_or32 (vi_b a) (vi_b b) = vi_b (a || b) := by cases a <;> cases b <;> decide
/-- the piece of the lowest cell goes over -/
theorem k_15 (hq1 : kC Y q1) (hq2 : kC Y q2) (hne : q1 ≠ q2) (hS1 : M (q1 + 1) = cR S1) (hS2 : M (q2 + 1) = cR S2) (he : sE S1 = false) : vi_call GG (d + 3) 15 [.inr (.inr q1), .inr (.inr q2)] (Y, M, n) K ↔ K none (Y, vi_rs (vi_rs M (q2 + 1) (cR (sK S1 (sLo S1).toNat))) (q1 + 1) (cR (sTl S1)), n) := by
  have hq1' := hq1
  have hq2' := hq2
  obtain ⟨h1, h2, h3, h4⟩ := hq1
  obtain ⟨i1, i2, i3, i4⟩ := hq2
  obtain ⟨a, ha, ha1, ha2, ha3⟩ := sE_n he
  have hn1 : q1 + 1 ≠ q2 + 1 := by omega
  rw [ha3]
  refine vi_k (r := none) fun Q hQ => ?_
  have fin : ∀ (P : Nat → Bool) (x2 x3 : Int) (l4 l5 l6 l7 l8 : Option vi_V), (∀ c, c < 216 → P c = sK S1 a c) → vi_ok GG (d + 2) 15 124 [some (.inr (.inr q1)), some (.inr (.inr q2)), some (.inl x2), some (.inl x3), l4, l5, l6, l7, l8] [] (Y, vi_rs M (q2 + 1) (cR P), n) Q := by
    intro P x2 x3 l4 l5 l6 l7 l8 hP
    simp (disch := omega) only [Option.toList_some, Option.toList_none, List.nil_append, List.cons_append, List.append_nil, true_and, and_true, not_true_eq_false, not_false_eq_true, true_implies, false_implies, implies_true, and_self, Int.reduceLT, Int.reduceLE, Int.reduceEq, Int.reduceNe, Int.reduceAdd, Int.reduceSub, Int.reduceMul, Int.reduceNeg, Int.reduceToNat, Int.toNat_natCast, ↓kk_ck, ↓kk_im, ↓kk_in, s_15_124, h1, k_9 (M := vi_rs M (q2 + 1) (cR P)) hq1' hq2' hne (S1 := S1) (S2 := P) (by rw [vi_rs_o hn1, hS1]) vi_rs_s, s_15_129]
    rw [Int.toNat_natCast] at hQ
    rw [cR_c hP, cR_c (S := sDif S1 P) (T := sTl S1) fun i hi => by unfold sTl sDif; rw [ha3, hP i hi]; rfl]
    exact hQ
  have outer : ∀ (k step : Nat) (P : Nat → Bool) (g : Bool) (l4 l5 l6 l7 l8 : Option vi_V), step + k = 216 → P a = true → (∀ c, c < 216 → P c = true → sCl S1 a c) → (g = true → step < sN 216 P) → (g = false → ∀ x y, x < 216 → P x = true → sA x y → S1 y = true → P y = true) → vi_ok GG (d + 2) 15 16 [some (.inr (.inr q1)), some (.inr (.inr q2)), some (.inl (vi_b g)), some (.inl (step : Int)), l4, l5, l6, l7, l8] [] (Y, vi_rs M (q2 + 1) (cR P), n) Q := by
    intro k
    induction k with
    | zero =>
      intro step P g l4 l5 l6 l7 l8 hk hPa hPc hg hg0
      simp (disch := omega) only [Option.toList_some, Option.toList_none, List.nil_append, List.cons_append, List.append_nil, true_and, and_true, not_true_eq_false, not_false_eq_true, true_implies, false_implies, implies_true, and_self, Int.reduceLT, Int.reduceLE, Int.reduceEq, Int.reduceNe, Int.reduceAdd, Int.reduceSub, Int.reduceMul, Int.reduceNeg, Int.reduceToNat, Int.toNat_natCast, ↓kk_ck, ↓kk_im, ↓kk_in, s_15_16]
      refine fin P _ _ _ _ _ _ _ (sK_eq hPa hPc (hg0 ?_) ha)
      have := sN_le 216 P
      cases g
      · rfl
      · have := hg rfl; omega
    | succ k ih =>
      intro step P g l4 l5 l6 l7 l8 hk hPa hPc hg hg0
      rw [s_15_16]
      cases g with
      | false =>
        simp (disch := omega) only [Option.toList_some, Option.toList_none, List.nil_append, List.cons_append, List.append_nil, true_and, and_true, not_true_eq_false, not_false_eq_true, true_implies, false_implies, implies_true, and_self, Int.reduceLT, Int.reduceLE, Int.reduceEq, Int.reduceNe, Int.reduceAdd, Int.reduceSub, Int.reduceMul, Int.reduceNeg, Int.reduceToNat, Int.toNat_natCast, ↓kk_ck, ↓kk_im, ↓kk_in, s_15_23, vi_bf]
        exact fin P _ _ _ _ _ _ _ (sK_eq hPa hPc (hg0 rfl) ha)
      | true =>
        simp (disch := omega) only [Option.toList_some, Option.toList_none, List.nil_append, List.cons_append, List.append_nil, true_and, and_true, not_true_eq_false, not_false_eq_true, true_implies, false_implies, implies_true, and_self, Int.reduceLT, Int.reduceLE, Int.reduceEq, Int.reduceNe, Int.reduceAdd, Int.reduceSub, Int.reduceMul, Int.reduceNeg, Int.reduceToNat, Int.toNat_natCast, ↓kk_ck, ↓kk_im, ↓kk_in, s_15_23, s_15_27, vi_bt]
        have hstep := hg rfl
        have inner : ∀ z : Nat, z ≤ 6 → ∀ (P' : Nat → Bool) (g' : Bool) (l5 l6 l7 l8 : Option vi_V), P' a = true → (∀ c, c < 216 → P' c = true → sCl S1 a c) → (g' = true → step + 1 < sN 216 P') → step < sN 216 P' → (g' = false → ∀ x y, x < 216 → P' x = true → sA x y → S1 y = true → y < 36 * z → P' y = true) → vi_ok GG (d + 2) 15 32 [some (.inr (.inr q1)), some (.inr (.inr q2)), some (.inl (vi_b g')), some (.inl (step : Int)), some (.inl (z : Int)), l5, l6, l7, l8] [] (Y, vi_rs M (q2 + 1) (cR P'), n) Q := by
          refine vi_dn 6 ?_ fun z hz ihz => ?_
          · intro P' g' l5 l6 l7 l8 hPa hPc hg hs hg0
            simp (disch := omega) only [Option.toList_some, Option.toList_none, List.nil_append, List.cons_append, List.append_nil, true_and, and_true, not_true_eq_false, not_false_eq_true, true_implies, false_implies, implies_true, and_self, Int.reduceLT, Int.reduceLE, Int.reduceEq, Int.reduceNe, Int.reduceAdd, Int.reduceSub, Int.reduceMul, Int.reduceNeg, Int.reduceToNat, Int.toNat_natCast, ↓kk_ck, ↓kk_im, ↓kk_in, s_15_32, s_15_38, s_15_39, s_15_118, h1, h2, h3, h4, kk_nc, vi_32]
            exact ih (step + 1) P' g' _ _ _ _ _ (by omega) hPa hPc hg fun e x y hx hp hxy hy => hg0 e x y hx hp hxy hy (by have := sA_lt hx hxy; omega)
          · intro P' g' l5 l6 l7 l8 hPa hPc hg hs hg0
            rw [s_15_32]
            have hzh : ∀ S, cZ S ((z + 1 : Nat) : Int) = cL (sZh S) z := fun S => by
              rw [← cZ_h S hz]
              congr 1
            simp (disch := omega) only [Option.toList_some, Option.toList_none, List.nil_append, List.cons_append, List.append_nil, true_and, and_true, not_true_eq_false, not_false_eq_true, true_implies, false_implies, implies_true, and_self, Int.reduceLT, Int.reduceLE, Int.reduceEq, Int.reduceNe, Int.reduceAdd, Int.reduceSub, Int.reduceMul, Int.reduceNeg, Int.reduceToNat, Int.toNat_natCast, ↓kk_ck, ↓kk_im, ↓kk_in, hzh, s_15_0, s_15_23, s_15_27, s_15_42, s_15_118, s_15_124, s_15_4, s_15_38, s_15_48, s_15_129, s_15_9, s_15_39, s_15_55, s_15_12, s_15_60, s_15_66, s_15_72, s_15_81, s_15_90, s_15_103, s_15_106, s_15_110, h1, h2, h3, h4, i1, i2, i3, i4, k_19 hq2' vi_rs_s, cZ_n P' hz, cZ_l P' hz, cZ_h P' hz, k_20, k_21, k_22, k_23, o_or, o_and, vi_rs_o hn1, hS1, cR_n hz, k_18 hq2' vi_rs_s hz, kk_or, vi_rs_rs, kk_nc, vi_32]
            have hC : ∀ i, i < 36 → (sNear P' (36 * z + i) && S1 (36 * z + i)) = ((sXl P' (36 * z + i) || sXh P' (36 * z + i) || sYl P' (36 * z + i) || sYh P' (36 * z + i) || sZl P' (36 * z + i) || sZh P' (36 * z + i)) && S1 (36 * z + i)) := fun i _ => rfl
            have hmem : ∀ c, c < 216 → sAdd P' (fun c => (sXl P' c || sXh P' c || sYl P' c || sYh P' c || sZl P' c || sZh P' c) && S1 c) z c = true → P' c = true ∨ (c / 36 = z ∧ sNear P' c = true ∧ S1 c = true) := fun c _ h => by
              unfold sAdd at h
              rw [Bool.or_eq_true, Bool.and_eq_true, decide_eq_true_eq, Bool.and_eq_true] at h
              exact h
            have hmem2 : ∀ c, P' c = true → sAdd P' (fun c => (sXl P' c || sXh P' c || sYl P' c || sYh P' c || sZl P' c || sZh P' c) && S1 c) z c = true := fun c h => by
              unfold sAdd
              rw [h, Bool.true_or]
            have hle : sN 216 P' ≤ sN 216 (sAdd P' (fun c => (sXl P' c || sXh P' c || sYl P' c || sYh P' c || sZl P' c || sZh P' c) && S1 c) z) := sN_mono fun c _ h => hmem2 c h
            refine ihz _ _ _ _ _ _ (hmem2 a hPa) (fun c hc h => ?_) (fun h => ?_) (by omega) (fun h x y hx hp hxy hy hy2 => ?_)
            · rcases hmem c hc h with h | ⟨h5, h6, h7⟩
              · exact hPc c hc h
              · obtain ⟨b, hb, hb2⟩ := sNear_iff.mp h6
                exact sCl_s (hPc b (sA_lt hc hb) hb2) (sA_sym hc hb) h7
            · rw [Bool.or_eq_true] at h
              rcases h with h | h
              · have := hg h; omega
              · have h5 := of_decide_eq_true h
                have : ∃ i, i < 36 ∧ ((sNear P' (36 * z + i) && S1 (36 * z + i)) && ! P' (36 * z + i)) = true := by
                  refine Classical.byContradiction fun hn => h5 (sN_0.mpr fun i hi => ?_)
                  cases hh : ((sNear P' (36 * z + i) && S1 (36 * z + i)) && ! P' (36 * z + i))
                  · exact hh
                  · exact absurd ⟨i, hi, hh⟩ hn
                obtain ⟨i, hi, hh⟩ := this
                have hlt := sN_lt (k := 216) (f := P') (fun c _ h => hmem2 c h) (j := 36 * z + i) (by omega) (by cases hp : P' (36 * z + i) <;> simp_all) (by
                  unfold sAdd
                  rw [decide_eq_true (show (36 * z + i) / 36 = z by omega), Bool.true_and]
                  rw [Bool.and_eq_true] at hh
                  have h8 := hh.1
                  unfold sNear at h8
                  exact (Bool.or_eq_true _ _).mpr (.inr h8))
                omega
            · rw [Bool.or_eq_false_iff] at h
              have h5 : sN 36 (fun i => (sNear P' (36 * z + i) && S1 (36 * z + i)) && ! P' (36 * z + i)) = 0 := by
                have := of_decide_eq_false h.2
                exact Classical.not_not.mp this
              have h6 : ∀ c, c < 216 → sAdd P' (fun c => (sXl P' c || sXh P' c || sYl P' c || sYh P' c || sZl P' c || sZh P' c) && S1 c) z c = P' c := sAdd_0 h5
              rw [h6 x hx] at hp
              rw [h6 y (sA_lt hx hxy)]
              by_cases hyz : y < 36 * z
              · exact hg0 h.1 x y hx hp hxy hy hyz
              · have hn : sNear P' y = true := sNear_iff.mpr ⟨x, sA_sym hx hxy, hp⟩
                have := sN_0.mp h5 (y - 36 * z) (by omega)
                rw [show 36 * z + (y - 36 * z) = y by omega, hn, hy] at this
                cases hpy : P' y
                · rw [hpy] at this; cases this
                · rfl
        have := inner 0 (by omega) P false l5 l6 l7 l8 hPa hPc (fun h => by cases h) hstep (fun _ x y _ _ _ _ hy => by omega)
        exact this
  simp (disch := omega) only [Option.toList_some, Option.toList_none, List.nil_append, List.cons_append, List.append_nil, true_and, and_true, not_true_eq_false, not_false_eq_true, true_implies, false_implies, implies_true, and_self, Int.reduceLT, Int.reduceLE, Int.reduceEq, Int.reduceNe, Int.reduceAdd, Int.reduceSub, Int.reduceMul, Int.reduceNeg, Int.reduceToNat, Int.toNat_natCast, ↓kk_ck, ↓kk_im, ↓kk_in, e_15, s_15_0, s_15_4, s_15_9, s_15_12, h1, i1, k_2 hq2' hS2, k_12 (M := vi_rs M (q2 + 1) (cR fun _ => false)) hq1' (S := S1) (by rw [vi_rs_o hn1, hS1]), ha3, k_6 hq2' vi_rs_s, vi_rs_rs]
  have hp : ∀ c, sPut (fun _ => false) (a : Int) c = true → c = a := fun c hc => by simp [sPut] at hc; omega
  exact outer 216 0 (sPut (fun _ => false) a) true _ _ _ _ _ rfl sP_has (fun c _ hc => by rw [hp c hc]; exact sCl_r) (fun _ => by
    have : sN 216 (fun _ => false) < sN 216 (sPut (fun _ => false) (a : Int)) := sN_lt (fun _ _ h => by cases h) ha rfl sP_has
    omega) (fun h => by cases h)
/-- how many pieces, with two sets as paper: what lies in them behind it is left open -/
theorem k_16 (hq : kC Y q) (hq1 : kC Y q1) (hq2 : kC Y q2) (hne1 : q1 ≠ q) (hne2 : q2 ≠ q) (hne3 : q1 ≠ q2) (hS : M (q + 1) = cR S) (hS1 : M (q1 + 1) = cR S1) (hS2 : M (q2 + 1) = cR S2) : ∃ R P, ∀ K : Option vi_V → vi_W → Prop, vi_call GG (d + 4) 16 [.inr (.inr q), .inr (.inr q1), .inr (.inr q2)] (Y, M, n) K ↔ K (some (.inl (sPc 216 S : Int))) (Y, vi_rs (vi_rs M (q1 + 1) (cR R)) (q2 + 1) (cR P), n) := by
  have hn : q2 + 1 ≠ q1 + 1 := by omega
  have main : vi_call GG (d + 4) 16 [.inr (.inr q), .inr (.inr q1), .inr (.inr q2)] (Y, M, n) (fun r w' => ∃ R P, r = some (.inl (sPc 216 S : Int)) ∧ w' = (Y, vi_rs (vi_rs M (q1 + 1) (cR R)) (q2 + 1) (cR P), n)) := by
    obtain ⟨i1, -, -, -⟩ := id hq1
    have loop : ∀ (k found : Nat) (R P : Nat → Bool), found + k = 216 → found + sPc k R = sPc 216 S → vi_ok GG (d + 3) 16 7 [some (.inr (.inr q)), some (.inr (.inr q1)), some (.inr (.inr q2)), some (.inl (found : Int))] [] (Y, vi_rs (vi_rs M (q1 + 1) (cR R)) (q2 + 1) (cR P), n) (fun r w' => ∃ R P, r = some (.inl (sPc 216 S : Int)) ∧ w' = (Y, vi_rs (vi_rs M (q1 + 1) (cR R)) (q2 + 1) (cR P), n)) := by
      intro k
      induction k with
      | zero =>
        intro found R P hk hp
        simp (disch := omega) only [Option.toList_some, Option.toList_none, List.nil_append, List.cons_append, List.append_nil, true_and, and_true, not_true_eq_false, not_false_eq_true, true_implies, false_implies, implies_true, and_self, Int.reduceLT, Int.reduceLE, Int.reduceEq, Int.reduceNe, Int.reduceAdd, Int.reduceSub, Int.reduceMul, Int.reduceNeg, Int.reduceToNat, Int.toNat_natCast, ↓kk_ck, ↓kk_im, ↓kk_in, s_16_7, s_16_32]
        refine ⟨R, P, ?_, rfl⟩
        rw [← hp]; rfl
      | succ k ih =>
        intro found R P hk hp
        have hR : vi_rs (vi_rs M (q1 + 1) (cR R)) (q2 + 1) (cR P) (q1 + 1) = cR R := by rw [vi_rs_o (by omega), vi_rs_s]
        rw [s_16_7]
        simp (disch := omega) only [Option.toList_some, Option.toList_none, List.nil_append, List.cons_append, List.append_nil, true_and, and_true, not_true_eq_false, not_false_eq_true, true_implies, false_implies, implies_true, and_self, Int.reduceLT, Int.reduceLE, Int.reduceEq, Int.reduceNe, Int.reduceAdd, Int.reduceSub, Int.reduceMul, Int.reduceNeg, Int.reduceToNat, Int.toNat_natCast, ↓kk_ck, ↓kk_im, ↓kk_in, s_16_14, i1, k_10 hq1 hR, s_16_18]
        cases he : sE R
        · simp (disch := omega) only [Option.toList_some, Option.toList_none, List.nil_append, List.cons_append, List.append_nil, true_and, and_true, not_true_eq_false, not_false_eq_true, true_implies, false_implies, implies_true, and_self, Int.reduceLT, Int.reduceLE, Int.reduceEq, Int.reduceNe, Int.reduceAdd, Int.reduceSub, Int.reduceMul, Int.reduceNeg, Int.reduceToNat, Int.toNat_natCast, ↓kk_ck, ↓kk_im, ↓kk_in, vi_bf, ne_eq, s_16_21, i1, k_15 hq1 hq2 hne3 hR vi_rs_s he, s_16_26, vi_inc]
          rw [vi_rs_cm hn, vi_rs_cm hn, vi_rs_rs, vi_rs_rs]
          refine ih (found + 1) _ _ (by omega) ?_
          rw [sPc, if_neg (by rw [he]; simp)] at hp
          omega
        · simp (disch := omega) only [Option.toList_some, Option.toList_none, List.nil_append, List.cons_append, List.append_nil, true_and, and_true, not_true_eq_false, not_false_eq_true, true_implies, false_implies, implies_true, and_self, Int.reduceLT, Int.reduceLE, Int.reduceEq, Int.reduceNe, Int.reduceAdd, Int.reduceSub, Int.reduceMul, Int.reduceNeg, Int.reduceToNat, Int.toNat_natCast, ↓kk_ck, ↓kk_im, ↓kk_in, vi_bt, ne_eq, s_16_32]
          refine ⟨R, P, ?_, rfl⟩
          rw [← hp, sPc, if_pos he]; rfl
    simp (disch := omega) only [Option.toList_some, Option.toList_none, List.nil_append, List.cons_append, List.append_nil, true_and, and_true, not_true_eq_false, not_false_eq_true, true_implies, false_implies, implies_true, and_self, Int.reduceLT, Int.reduceLE, Int.reduceEq, Int.reduceNe, Int.reduceAdd, Int.reduceSub, Int.reduceMul, Int.reduceNeg, Int.reduceToNat, Int.toNat_natCast, ↓kk_ck, ↓kk_im, ↓kk_in, e_16, s_16_0, i1, k_4 hq1 hq hne1 hS1 hS, s_16_5]
    have := loop 216 0 S S2 rfl (by omega)
    rw [vi_rs_id (q := q2 + 1) (by rw [vi_rs_o hn, hS2])] at this
    exact this
  obtain ⟨r, w', ⟨R, P, rfl, rfl⟩, h⟩ := vi_kx main
  exact ⟨R, P, h⟩
end
