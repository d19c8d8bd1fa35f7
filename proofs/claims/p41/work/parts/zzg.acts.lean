/-! Calls that are accepted or refused: the form. -/
theorem jM_k {M M2 : vi_M} {lw : Option (List gCla)} {n : Nat} (h : jM M lw n) (hp : ∀ p, p = 114 ∨ (124 ≤ p ∧ p ≤ 132) → M2 p = M p) (hk : ∀ k, k = 1 ∨ k = 30 ∨ (39 ≤ k ∧ k ≤ 46) → M2 112 k = M 112 k) : jM M2 lw n := by
  obtain ⟨h1, h2, h3, h4⟩ := h
  have e114 := hp 114 (by omega)
  have k1 := hk 1 (by omega)
  have k30 := hk 30 (by omega)
  refine ⟨mKs_c h1 e114 fun hv => ?_, fun hv => ?_, by rw [k30, k1]; exact h3, by rw [hk 42 (by omega), k1]; exact h4⟩
  · rw [k30, k1] at hv
    exact mSee_c (h1.2.2.2.2.2.2 hv) e114 (hp 124 (by omega)) (hp 125 (by omega)) (hp 126 (by omega)) (hp 127 (by omega)) (by rw [k30, k1]; exact hv)
  · have ho : wfO M M2 := ⟨e114, hp 130 (by omega), hp 131 (by omega), hp 132 (by omega)⟩
    rw [hk 42 (by omega), k1] at hv
    obtain ⟨q1, q2, g, m, q3, q4, q5, q6, q7, q8, q9, q10⟩ := h2 hv
    refine ⟨by rw [k30, k1]; exact q1, lnA_c ho (hk 39 (by omega)) q2, g, m, q3, q4, ?_⟩
    rw [show enB M2 lw n g m = enB M lw n g m from funext fun x => funext fun y => enB_c ho, e114, hk 43 (by omega), hk 44 (by omega), hk 45 (by omega), hk 46 (by omega), hk 40 (by omega), hk 41 (by omega)]
    exact ⟨q5, q6, q7, q8, q9, q10⟩
theorem jM_n {M2 : vi_M} {a : Nat} {CS : Nat → List gCla} {lw : Option (List gCla)} {n : Nat} (hC : jC M2 a CS lw n) (hv : M2 112 30 < M2 112 1) (hv' : M2 112 42 < M2 112 1) : jM M2 lw n := by
  obtain ⟨LH, LR, LS, c1, c2, c3, c4⟩ := hC
  obtain ⟨-, ⟨d1, d2, d3⟩, -, -, -, -, ⟨s1, s2, s3, s4, s5, s6, s7⟩, -⟩ := c1
  subst c2
  exact ⟨⟨s5, d2, d1, fun h hh => rHo_o (d3 h hh).2.2 (d3 h hh).1, ⟨s6, s7⟩, fLw_m c3, fun e => absurd e (Int.ne_of_lt hv)⟩, fun e => absurd e (Int.ne_of_lt hv'), Int.le_of_lt hv, Int.le_of_lt hv'⟩
section
variable {sc : Nat → Int} {ln t a n d : Nat} {CS : Nat → List gCla} {lw : Option (List gCla)} {Y : vi_Y} {M : vi_M} {nn : Nat × Nat} {K : Option vi_V → vi_W → Prop}
/-- what is held is another thing, the version grows -/
theorem jW_c (hW : jW sc ln t a CS lw n Y M nn) {M2 : vi_M} {lw' : Option (List gCla)} {n' : Nat} (hp : ∀ p, (p < 29 ∨ (40 ≤ p ∧ p < 60) ∨ (70 ≤ p ∧ p < 112) ∨ p = 113 ∨ (115 ≤ p ∧ p < 112)) → M2 p = M p) (h29 : M2 29 11 = M2 112 0) (h29' : M2 29 12 = M2 112 6) (hk : ∀ k, k = 10 ∨ k = 11 ∨ k = 30 ∨ k = 42 ∨ k = 62 → M2 112 k = M 112 k) (hv : M2 112 1 = M 112 1 + 1) (hL : jL Y M2 a CS) (hC : jC M2 a CS lw' n') : jInv sc ln (t + 1) (Y, M2, nn) := by
  obtain ⟨h1, h2, ⟨b1, b2, b3⟩, h4, ⟨m1, m2, m3, m4⟩, h6, ⟨s1, s2, s3, s4, s5, s6⟩, h8, h9, h10⟩ := hW
  refine ⟨a, CS, lw', n', ?_⟩
  show jW sc ln (t + 1) a CS lw' n' Y M2 nn
  refine ⟨jA_c h1 (fun p h => hp p (by omega)) (hp 117 (by omega)) (hp 138 (by omega)) (hp 139 (by omega)), hL, ⟨b1, by omega, by omega⟩, hC, jM_n hC (by rw [hk 30 (by omega), hv]; omega) (by rw [hk 42 (by omega), hv]; omega), ?_, ?_, ?_, ?_, ?_⟩
  · unfold jT
    rw [hp 73 (by omega), hp 118 (by omega), hp 74 (by omega), hk 10 (by omega), hk 11 (by omega)]
    exact h6
  · unfold jS
    rw [hp 111 (by omega), hp 113 (by omega), hv]
    exact ⟨h29, h29', s3, fun k k1 k2 => ⟨(s4 k k1 k2).1, by have := (s4 k k1 k2).2; omega⟩, by omega, by omega⟩
  · unfold jD
    rw [hp 77 (by omega), hp 79 (by omega), hp 150 (by omega), hk 62 (by omega)]
    exact h8
  · intro k hk'
    obtain ⟨k1, k2, k3, k4⟩ := h9 k hk'
    rw [hp (40 + 10 * k) (by omega), hp 116 (by omega), hp (40 + 10 * k + 1) (by omega), hp (40 + 10 * k + 3) (by omega), hp (40 + 10 * k + 5) (by omega)]
    refine ⟨k1, k2, fun e => ?_, k4⟩
    obtain ⟨LH, LR, LS, hH⟩ := k3 e
    rw [hp 115 (by omega)]
    exact ⟨LH, LR, LS, cHd_c hH fun p h1 h2 => hp p (by omega)⟩
  · exact ⟨fun q hq => by rw [hp q (by unfold jCe at hq; omega)]; exact h10.1 q hq, by rw [hp 88 (by omega)]; exact h10.2⟩
/-- refused: the k-th of the class's numbers is the j-th of the reference's -/
def rfP (k j : Nat) : Prop := (k = 0 ∧ j = 1) ∨ (k = 1 ∧ j = 2) ∨ (k = 2 ∧ j = 3) ∨ (k = 3 ∧ j = 5) ∨ (k = 4 ∧ j = 6)
theorem jW_f (hW : jW sc ln t a CS lw n Y M nn) {M2 : vi_M} {k j : Nat} {r : Int} (hr : rfP k j) (hp : ∀ p, p ≠ 29 → ¬ (73 ≤ p ∧ p ≤ 76) → p ≠ 111 → p ≠ 112 → p ≠ 113 → ¬ (119 ≤ p ∧ p ≤ 122) → M2 p = M p) (h29 : M2 29 = vi_u (M 29) 11 r) (h111 : M2 111 = vi_u (M 111) k (M 111 k + 1)) (h0 : M2 112 0 = r) (hk : ∀ k, k = 1 ∨ k = 6 ∨ k = 30 ∨ (39 ≤ k ∧ k ≤ 46) ∨ k = 62 → M2 112 k = M 112 k) (h113 : M2 113 = vi_u (M 113) j (M 113 j + 1)) (hT : jT M2) : jInv sc ln (t + 1) (Y, M2, nn) := by
  obtain ⟨h1, h2, ⟨b1, b2, b3⟩, ⟨LH, LR, LS, c1, c2, c3, c4⟩, h5, h6, ⟨s1, s2, s3, s4, s5, s6⟩, h8, h9, h10⟩ := hW
  have e114 := hp 114 (by omega) (by omega) (by omega) (by omega) (by omega) (by omega)
  have lo : ∀ p, (p < 29 ∨ (30 ≤ p ∧ p < 73) ∨ (77 ≤ p ∧ p < 111) ∨ (114 ≤ p ∧ p < 119) ∨ 123 ≤ p) → M2 p = M p := fun p h => hp p (by omega) (by omega) (by omega) (by omega) (by omega) (by omega)
  refine ⟨a, CS, lw, n, ?_⟩
  show jW sc ln (t + 1) a CS lw n Y M2 nn
  refine ⟨jA_c h1 (fun p h => lo p (by omega)) (lo 117 (by omega)) (lo 138 (by omega)) (lo 139 (by omega)), jL_p h2 (fun p h => lo p (by omega)), ⟨b1, by omega, by omega⟩, ⟨LH, LR, LS, ?_, c2, ?_, ?_⟩, jM_k h5 (fun p h => lo p (by omega)) (fun k h => hk k (by omega)), hT, ?_, ?_, ?_, ?_⟩
  · rw [e114]; exact cHd_c c1 fun p h1 h2 => lo p (by omega)
  · rw [e114, lo 39 (by omega)]; exact c3
  · rw [e114]; exact jV_c c4 fun p h1 h2 => lo p (by omega)
  · unfold jS
    rw [h29, h0, hk 6 (by omega), h111, h113, hk 1 (by omega), vi_u_s, vi_u_o (by decide)]
    refine ⟨rfl, s2, ?_, fun i i1 i2 => ?_, by omega, by omega⟩
    · obtain ⟨z1, z2, z3, z4, z5⟩ := s3
      obtain ⟨rfl, rfl⟩ | ⟨rfl, rfl⟩ | ⟨rfl, rfl⟩ | ⟨rfl, rfl⟩ | ⟨rfl, rfl⟩ := hr
      all_goals
        unfold vi_u
        refine ⟨?_, ?_, ?_, ?_, ?_⟩ <;> (split <;> split <;> omega)
    · by_cases e : i = j
      · subst e; rw [vi_u_s]; have := s4 i i1 i2; omega
      · rw [vi_u_o e]; have := s4 i i1 i2; omega
  · unfold jD; rw [lo 77 (by omega), hk 62 (by omega), lo 79 (by omega), lo 150 (by omega)]; exact h8
  · intro i hi
    obtain ⟨k1, k2, k3, k4⟩ := h9 i hi
    rw [lo (40 + 10 * i) (by omega), lo 116 (by omega), lo (40 + 10 * i + 1) (by omega), lo (40 + 10 * i + 3) (by omega), lo (40 + 10 * i + 5) (by omega)]
    refine ⟨k1, k2, fun e => ?_, k4⟩
    obtain ⟨LH, LR, LS, hH⟩ := k3 e
    rw [lo 115 (by omega)]
    exact ⟨LH, LR, LS, cHd_c hH fun p h1 h2 => lo p (by omega)⟩
  · exact ⟨fun q hq => by rw [lo q (by unfold jCe at hq; omega)]; exact h10.1 q hq, by rw [lo 88 (by omega)]; exact h10.2⟩
theorem k_227 (h9 : Y.1 29 = 31) {x : Int} : vi_call GG (d + 1) 227 [.inr (.inr 29), .inl x] (Y, M, nn) K ↔ K (some (.inl x)) (Y, vi_rs M 29 (vi_u (M 29) 11 0), nn) := by
  refine vi_k (r := some (.inl _)) fun Q hQ => ?_
  simp (disch := omega) only [Option.toList_some, Option.toList_none, List.nil_append, List.cons_append, List.append_nil, true_and, and_true, not_true_eq_false, not_false_eq_true, true_implies, false_implies, implies_true, and_self, Int.reduceLT, Int.reduceLE, Int.reduceEq, Int.reduceNe, Int.reduceAdd, Int.reduceSub, Int.reduceMul, Int.reduceNeg, Int.reduceToNat, Int.toNat_natCast, ↓kk_ck, ↓kk_im, ↓kk_in, e_227, s_227_0, s_227_5, h9, vi_ms_rs]
  exact hQ
theorem k_228_1 (hY : kY Y 112) (h9 : kY9 Y) (hb : 0 ≤ M 111 0 ∧ M 111 0 < 2147483647) : vi_call GG (d + 1) 228 [.inr (.inr 29), .inl (-1)] (Y, M, nn) K ↔ K (some (.inl (-1))) (Y, vi_rs (vi_rs M 111 (vi_u (M 111) 0 (M 111 0 + 1))) 29 (vi_u (M 29) 11 (-1)), nn) := by
  obtain ⟨a1, a2, a3, a4, a5, a6, a7, a8, a9, a10, a11, a12⟩ := y_29 h9
  obtain ⟨c1, c2⟩ := y_111 hY (by omega)
  refine vi_k (r := some (.inl _)) fun Q hQ => ?_
  simp (disch := omega) only [Option.toList_some, Option.toList_none, List.nil_append, List.cons_append, List.append_nil, true_and, and_true, not_true_eq_false, not_false_eq_true, true_implies, false_implies, implies_true, and_self, Int.reduceLT, Int.reduceLE, Int.reduceEq, Int.reduceNe, Int.reduceAdd, Int.reduceSub, Int.reduceMul, Int.reduceNeg, Int.reduceToNat, Int.toNat_natCast, ↓kk_ck, ↓kk_im, ↓kk_in, e_228, s_228_0, s_228_6, s_228_12, s_228_16, s_228_21, s_228_30, s_228_40, s_228_26, s_228_34, s_228_45, s_228_27, s_228_37, a1, a12, c1, c2, vi_ms_rs, vi_32, ne_eq, vi_rs_o]
  exact hQ
theorem k_228_2 (hY : kY Y 112) (h9 : kY9 Y) (hb : 0 ≤ M 111 1 ∧ M 111 1 < 2147483647) : vi_call GG (d + 1) 228 [.inr (.inr 29), .inl (-2)] (Y, M, nn) K ↔ K (some (.inl (-2))) (Y, vi_rs (vi_rs M 111 (vi_u (M 111) 1 (M 111 1 + 1))) 29 (vi_u (M 29) 11 (-2)), nn) := by
  obtain ⟨a1, a2, a3, a4, a5, a6, a7, a8, a9, a10, a11, a12⟩ := y_29 h9
  obtain ⟨c1, c2⟩ := y_111 hY (by omega)
  refine vi_k (r := some (.inl _)) fun Q hQ => ?_
  simp (disch := omega) only [Option.toList_some, Option.toList_none, List.nil_append, List.cons_append, List.append_nil, true_and, and_true, not_true_eq_false, not_false_eq_true, true_implies, false_implies, implies_true, and_self, Int.reduceLT, Int.reduceLE, Int.reduceEq, Int.reduceNe, Int.reduceAdd, Int.reduceSub, Int.reduceMul, Int.reduceNeg, Int.reduceToNat, Int.toNat_natCast, ↓kk_ck, ↓kk_im, ↓kk_in, e_228, s_228_0, s_228_6, s_228_12, s_228_16, s_228_21, s_228_30, s_228_40, s_228_26, s_228_34, s_228_45, s_228_27, s_228_37, a1, a12, c1, c2, vi_ms_rs, vi_32, ne_eq, vi_rs_o]
  exact hQ
theorem k_228_5 (hY : kY Y 112) (h9 : kY9 Y) (hb : 0 ≤ M 111 3 ∧ M 111 3 < 2147483647) : vi_call GG (d + 1) 228 [.inr (.inr 29), .inl (-5)] (Y, M, nn) K ↔ K (some (.inl (-5))) (Y, vi_rs (vi_rs M 111 (vi_u (M 111) 3 (M 111 3 + 1))) 29 (vi_u (M 29) 11 (-5)), nn) := by
  obtain ⟨a1, a2, a3, a4, a5, a6, a7, a8, a9, a10, a11, a12⟩ := y_29 h9
  obtain ⟨c1, c2⟩ := y_111 hY (by omega)
  refine vi_k (r := some (.inl _)) fun Q hQ => ?_
  simp (disch := omega) only [Option.toList_some, Option.toList_none, List.nil_append, List.cons_append, List.append_nil, true_and, and_true, not_true_eq_false, not_false_eq_true, true_implies, false_implies, implies_true, and_self, Int.reduceLT, Int.reduceLE, Int.reduceEq, Int.reduceNe, Int.reduceAdd, Int.reduceSub, Int.reduceMul, Int.reduceNeg, Int.reduceToNat, Int.toNat_natCast, ↓kk_ck, ↓kk_im, ↓kk_in, e_228, s_228_0, s_228_6, s_228_12, s_228_16, s_228_21, s_228_30, s_228_40, s_228_26, s_228_34, s_228_45, s_228_27, s_228_37, a1, a12, c1, c2, vi_ms_rs, vi_32, ne_eq, vi_rs_o]
  exact hQ
theorem k_228_6 (hY : kY Y 112) (h9 : kY9 Y) (hb : 0 ≤ M 111 4 ∧ M 111 4 < 2147483647) : vi_call GG (d + 1) 228 [.inr (.inr 29), .inl (-6)] (Y, M, nn) K ↔ K (some (.inl (-6))) (Y, vi_rs (vi_rs M 111 (vi_u (M 111) 4 (M 111 4 + 1))) 29 (vi_u (M 29) 11 (-6)), nn) := by
  obtain ⟨a1, a2, a3, a4, a5, a6, a7, a8, a9, a10, a11, a12⟩ := y_29 h9
  obtain ⟨c1, c2⟩ := y_111 hY (by omega)
  refine vi_k (r := some (.inl _)) fun Q hQ => ?_
  simp (disch := omega) only [Option.toList_some, Option.toList_none, List.nil_append, List.cons_append, List.append_nil, true_and, and_true, not_true_eq_false, not_false_eq_true, true_implies, false_implies, implies_true, and_self, Int.reduceLT, Int.reduceLE, Int.reduceEq, Int.reduceNe, Int.reduceAdd, Int.reduceSub, Int.reduceMul, Int.reduceNeg, Int.reduceToNat, Int.toNat_natCast, ↓kk_ck, ↓kk_im, ↓kk_in, e_228, s_228_0, s_228_6, s_228_12, s_228_16, s_228_21, s_228_30, s_228_40, s_228_26, s_228_34, s_228_45, s_228_27, s_228_37, a1, a12, c1, c2, vi_ms_rs, vi_32, ne_eq, vi_rs_o]
  exact hQ
theorem jW_b (hW : jW sc ln t a CS lw n Y M nn) (ht : t < 1000) : (∀ k, k < 5 → 0 ≤ M 111 k ∧ M 111 k < 2147483647) ∧ (∀ k, 1 ≤ k → k < 7 → 0 ≤ M 113 k ∧ M 113 k < 2147483647) ∧ 0 ≤ M 112 1 ∧ M 112 1 < 2147483647 := by
  obtain ⟨-, -, ⟨z1, z2, z3, z4, z5⟩, s4, s5, s6⟩ := hW.2.2.2.2.2.2.1
  refine ⟨fun k hk => ?_, fun k k1 k2 => by have := s4 k k1 k2; omega, s5, by omega⟩
  have q1 := s4 1 (by omega) (by omega)
  have q2 := s4 2 (by omega) (by omega)
  have q3 := s4 3 (by omega) (by omega)
  have q5 := s4 5 (by omega) (by omega)
  have q6 := s4 6 (by omega) (by omega)
  obtain rfl | rfl | rfl | rfl | rfl : k = 0 ∨ k = 1 ∨ k = 2 ∨ k = 3 ∨ k = 4 := by omega
  all_goals omega
end
