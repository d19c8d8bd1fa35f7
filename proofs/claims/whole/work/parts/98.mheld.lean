/-! Contracts of the reference, tenth part: HOLES, terms. -/
/-- a HOLE added as the n-th -/
def mAd (f : Nat → Int) (n : Nat) (a u v s k t : Int) : Nat → Int := vi_u (vi_u (vi_u (vi_u (vi_u (vi_u (vi_u f (6 * n) a) (6 * n + 1) u) (6 * n + 2) v) (6 * n + 3) s) (6 * n + 4) k) (6 * n + 5) (t + 1)) 292 ((n + 1 : Nat) : Int)
/-- the row without one of its entries: what lies from b + p0 on moves down by w -/
def mOut (f : Nat → Int) (b w cnt p0 pe : Nat) (N1 : Int) : Nat → Int := fun k => if k = cnt then N1 else if b + p0 ≤ k ∧ k < b + pe then f (k + w) else f k
section
variable {D : Nat} {K : Option vi_V → vi_W → Prop} {Y : vi_Y} {M : vi_M} {nn : Nat × Nat}
theorem k_250 (hY : kY Y 151) {n : Nat} (hn : n ≤ 15) (h292 : M 114 292 = (n : Int)) {a u v s k t : Int} (ht : -1 ≤ t ∧ t ≤ 1) (hD : 1 ≤ D) : vi_call GG D 250 [.inr (.inr 112), .inl a, .inl u, .inl v, .inl s, .inl k, .inl t] (Y, M, nn) K ↔ K (some (.inl (n : Int))) (Y, vi_rs M 114 (mAd (M 114) n a u v s k t), nn) := by
  obtain ⟨D, rfl⟩ : ∃ k, D = k + 1 := ⟨D - 1, by omega⟩
  obtain ⟨R1, -, R3, -⟩ := y_112 hY (by omega)
  obtain ⟨w1, w2⟩ := y_114 hY (by omega)
  refine vi_k (r := some (.inl _)) fun Q hQ => ?_
  unfold mAd at hQ
  have o : ∀ (f : Nat → Int) (x : Int) (j : Nat), j < 292 → vi_u f j x 292 = f 292 := fun f x j hj => if_neg (by omega)
  have o2 : ∀ (f : Nat → Int) (x : Int) (j : Nat), vi_u f j x j = x := fun f x j => if_pos rfl
  have a0 : (6 * (n : Int)).toNat = 6 * n := by omega
  have a1 : (6 * (n : Int) + 1).toNat = 6 * n + 1 := by omega
  have a2 : (6 * (n : Int) + 2).toNat = 6 * n + 2 := by omega
  have a3 : (6 * (n : Int) + 3).toNat = 6 * n + 3 := by omega
  have a4 : (6 * (n : Int) + 4).toNat = 6 * n + 4 := by omega
  have a5 : (6 * (n : Int) + 5).toNat = 6 * n + 5 := by omega
  have a6 : (n : Int) + 1 = ((n + 1 : Nat) : Int) := by omega
  have a7 : ((n + 1 : Nat) : Int) - 1 = (n : Int) := by omega
  simp (disch := omega) only [Option.toList_some, Option.toList_none, List.nil_append, List.cons_append, List.append_nil, true_and, and_true, not_true_eq_false, not_false_eq_true, true_implies, false_implies, implies_true, and_self, Int.reduceLT, Int.reduceLE, Int.reduceEq, Int.reduceNe, Int.reduceAdd, Int.reduceSub, Int.reduceMul, Int.reduceNeg, Int.reduceToNat, Int.toNat_natCast, ↓kk_ck, ↓kk_im, ↓kk_in, e_250, s_250_0, s_250_6, s_250_10, s_250_17, s_250_21, s_250_25, s_250_30, s_250_31, s_250_35, s_250_40, s_250_41, s_250_45, s_250_51, s_250_52, s_250_56, s_250_62, s_250_63, s_250_67, s_250_75, s_250_76, s_250_80, s_250_85, s_250_88, s_250_92, s_250_96, R1, R3, w1, w2, h292, vi_32, vi_ms_rs, vi_rs_s, vi_rs_rs, a0, a1, a2, a3, a4, a5, o, o2, a6, a7]
  exact hQ
theorem k_251n (hY : kY Y 151) (hB : mBx M) {a u v s k t : Int} (h : ¬ mIh M a u v s k t) (hc : 0 ≤ M 113 1 ∧ M 113 1 < 2147483647) (hD : 5 ≤ D) : vi_call GG D 251 [.inr (.inr 112), .inl a, .inl u, .inl v, .inl s, .inl k, .inl t] (Y, M, nn) K ↔ K (some (.inl (-1))) (Y, vi_rs (vi_rs M 112 (vi_u (M 112) 0 (-1))) 113 (vi_u (M 113) 1 (M 113 1 + 1)), nn) := by
  obtain ⟨D, rfl⟩ : ∃ k, D = k + 1 := ⟨D - 1, by omega⟩
  obtain ⟨R1, -⟩ := y_112 hY (by omega)
  refine vi_k (r := some (.inl _)) fun Q hQ => ?_
  have A := fun {D : Nat} {K : Option vi_V → vi_W → Prop} (hD : 1 ≤ D) => @k_235 D K Y M nn hY (-1) (by omega) (by exact hc) hD
  simp (disch := omega) only [Option.toList_some, Option.toList_none, List.nil_append, List.cons_append, List.append_nil, true_and, and_true, not_true_eq_false, not_false_eq_true, true_implies, false_implies, implies_true, and_self, Int.reduceLT, Int.reduceLE, Int.reduceEq, Int.reduceNe, Int.reduceAdd, Int.reduceSub, Int.reduceMul, Int.reduceNeg, Int.reduceToNat, Int.toNat_natCast, ↓kk_ck, ↓kk_im, ↓kk_in, e_251, s_251_0, s_251_16, s_251_22, s_251_35, s_251_42, s_251_13, s_251_21, s_251_26, s_251_41, s_251_56, s_251_30, s_251_59, R1, k_249f hY hB h, A, ne_eq]
  exact hQ
theorem k_251x (hY : kY Y 151) (hB : mBx M) {a u v s k t : Int} (h : mIh M a u v s k t) (h292 : M 114 292 = 16) (hc : 0 ≤ M 113 5 ∧ M 113 5 < 2147483647) (hD : 5 ≤ D) : vi_call GG D 251 [.inr (.inr 112), .inl a, .inl u, .inl v, .inl s, .inl k, .inl t] (Y, M, nn) K ↔ K (some (.inl (-5))) (Y, vi_rs (vi_rs M 112 (vi_u (M 112) 0 (-5))) 113 (vi_u (M 113) 5 (M 113 5 + 1)), nn) := by
  obtain ⟨D, rfl⟩ : ∃ k, D = k + 1 := ⟨D - 1, by omega⟩
  obtain ⟨R1, -, R3, -⟩ := y_112 hY (by omega)
  obtain ⟨w1, w2⟩ := y_114 hY (by omega)
  refine vi_k (r := some (.inl _)) fun Q hQ => ?_
  have A := fun {D : Nat} {K : Option vi_V → vi_W → Prop} (hD : 1 ≤ D) => @k_235 D K Y M nn hY (-5) (by omega) (by exact hc) hD
  simp (disch := omega) only [Option.toList_some, Option.toList_none, List.nil_append, List.cons_append, List.append_nil, true_and, and_true, not_true_eq_false, not_false_eq_true, true_implies, false_implies, implies_true, and_self, Int.reduceLT, Int.reduceLE, Int.reduceEq, Int.reduceNe, Int.reduceAdd, Int.reduceSub, Int.reduceMul, Int.reduceNeg, Int.reduceToNat, Int.toNat_natCast, ↓kk_ck, ↓kk_im, ↓kk_in, e_251, s_251_0, s_251_16, s_251_22, s_251_35, s_251_42, s_251_13, s_251_21, s_251_26, s_251_41, s_251_56, s_251_30, s_251_59, R1, R3, w1, w2, h292, k_249t hY hB h, A, ne_eq]
  exact hQ
theorem k_251 (hY : kY Y 151) (hB : mBx M) {a u v s k t : Int} (h : mIh M a u v s k t) {n : Nat} (hn : n ≤ 15) (h292 : M 114 292 = (n : Int)) (hc : 0 ≤ M 112 1 ∧ M 112 1 < 2147483647) (hD : 5 ≤ D) : vi_call GG D 251 [.inr (.inr 112), .inl a, .inl u, .inl v, .inl s, .inl k, .inl t] (Y, M, nn) K ↔ K (some (.inl (n : Int))) (Y, vi_rs (vi_rs M 114 (mAd (M 114) n a u v s k t)) 112 (vi_u (vi_u (M 112) 0 0) 1 (M 112 1 + 1)), nn) := by
  obtain ⟨D, rfl⟩ : ∃ k, D = k + 1 := ⟨D - 1, by omega⟩
  obtain ⟨R1, -, R3, -⟩ := y_112 hY (by omega)
  obtain ⟨w1, w2⟩ := y_114 hY (by omega)
  refine vi_k (r := some (.inl _)) fun Q hQ => ?_
  have A := fun {D : Nat} {K : Option vi_V → vi_W → Prop} (hD : 1 ≤ D) => @k_236 D K Y (vi_rs M 114 (mAd (M 114) n a u v s k t)) nn hY (n : Int) (by rw [vi_rs_o (by omega)]; exact hc) hD
  rw [vi_rs_o (by omega)] at A
  have B := fun {D : Nat} {K : Option vi_V → vi_W → Prop} (hD : 1 ≤ D) => @k_250 D K Y M nn hY n hn h292 a u v s k t h.2.2.2 hD
  have hn16 : ¬ (n : Int) = 16 := by omega
  simp (disch := omega) only [Option.toList_some, Option.toList_none, List.nil_append, List.cons_append, List.append_nil, true_and, and_true, not_true_eq_false, not_false_eq_true, true_implies, false_implies, implies_true, and_self, Int.reduceLT, Int.reduceLE, Int.reduceEq, Int.reduceNe, Int.reduceAdd, Int.reduceSub, Int.reduceMul, Int.reduceNeg, Int.reduceToNat, Int.toNat_natCast, ↓kk_ck, ↓kk_im, ↓kk_in, e_251, s_251_0, s_251_16, s_251_22, s_251_35, s_251_42, s_251_13, s_251_21, s_251_26, s_251_41, s_251_56, s_251_30, s_251_59, R1, R3, w1, w2, h292, k_249t hY hB h, A, B, ne_eq, hn16]
  exact hQ
theorem k_252 (hY : kY Y 151) {b w cnt i N : Nat} (hw : w = 4 ∨ w = 5 ∨ w = 6) (hN : i < N) (hb : b + w * N ≤ cnt) (hcnt : cnt < 300) (hc : M 114 cnt = (N : Int)) (hD : 1 ≤ D) : vi_call GG D 252 [.inr (.inr 112), .inl (b : Int), .inl (w : Int), .inl (cnt : Int), .inl (i : Int)] (Y, M, nn) K ↔ K none (Y, vi_rs M 114 (mOut (M 114) b w cnt (w * i) (w * (N - 1)) ((N - 1 : Nat) : Int)), nn) := by
  obtain ⟨D, rfl⟩ : ∃ k, D = k + 1 := ⟨D - 1, by omega⟩
  obtain ⟨R1, -, R3, -⟩ := y_112 hY (by omega)
  obtain ⟨w1, w2⟩ := y_114 hY (by omega)
  have e0 : (w : Int) * (i : Int) = ((w * i : Nat) : Int) := by rcases hw with rfl | rfl | rfl <;> omega
  have e1 : (w : Int) * ((N - 1 : Nat) : Int) = ((w * (N - 1) : Nat) : Int) := by rcases hw with rfl | rfl | rfl <;> omega
  have eN : (N : Int) - 1 = ((N - 1 : Nat) : Int) := by omega
  have hle : w * i ≤ w * (N - 1) := Nat.mul_le_mul_left _ (by omega)
  have hpe : b + w * (N - 1) + w ≤ cnt := by rcases hw with rfl | rfl | rfl <;> omega
  have hN2 : N ≤ 300 ∧ w ≤ 6 := by rcases hw with rfl | rfl | rfl <;> omega
  refine vi_k (r := none) fun Q hQ => ?_
  generalize w * i = p0 at *
  generalize w * (N - 1) = pe at *
  have hf : ∀ p, p0 ≤ p → p ≤ pe → vi_ok GG D 252 6 [some (.inr (.inr 112)), some (.inl (b : Int)), some (.inl (w : Int)), some (.inl (cnt : Int)), some (.inl (i : Int)), some (.inl (p : Int))] [] (Y, vi_rs M 114 (mOut (M 114) b w cnt p0 p (N : Int)), nn) Q := by
    intro p h0 h1
    refine vi_dn (P := fun p => p0 ≤ p → vi_ok GG D 252 6 [some (.inr (.inr 112)), some (.inl (b : Int)), some (.inl (w : Int)), some (.inl (cnt : Int)), some (.inl (i : Int)), some (.inl (p : Int))] [] (Y, vi_rs M 114 (mOut (M 114) b w cnt p0 p (N : Int)), nn) Q) pe ?_ (fun p hp ih => ?_) p h1 h0
    · intro _
      have c1 : mOut (M 114) b w cnt p0 pe (N : Int) cnt = (N : Int) := if_pos rfl
      have er : vi_u (mOut (M 114) b w cnt p0 pe (N : Int)) cnt ((N - 1 : Nat) : Int) = mOut (M 114) b w cnt p0 pe ((N - 1 : Nat) : Int) := by
        funext k
        unfold vi_u mOut
        by_cases h : k = cnt
        · rw [if_pos h, if_pos h]
        · rw [if_neg h, if_neg h, if_neg h]
      rw [s_252_6]
      simp (disch := omega) only [Option.toList_some, Option.toList_none, List.nil_append, List.cons_append, List.append_nil, true_and, and_true, not_true_eq_false, not_false_eq_true, true_implies, false_implies, implies_true, and_self, Int.reduceLT, Int.reduceLE, Int.reduceEq, Int.reduceNe, Int.reduceAdd, Int.reduceSub, Int.reduceMul, Int.reduceNeg, Int.reduceToNat, Int.toNat_natCast, ↓kk_ck, ↓kk_im, ↓kk_in, s_252_13, s_252_15, s_252_18, s_252_47, s_252_51, s_252_54, s_252_57, R1, R3, w1, w2, vi_rs_s, vi_rs_rs, c1, eN, e1, vi_32, vi_ms_rs, Int.toNat_natCast, er]
      exact hQ
    · intro h0
      have ih := ih (by omega)
      have c1 : mOut (M 114) b w cnt p0 p (N : Int) cnt = (N : Int) := if_pos rfl
      have a1 : ((b : Int) + (p : Int)).toNat = b + p := by omega
      have a2 : ((b : Int) + (p : Int) + (w : Int)).toNat = b + p + w := by omega
      have c2 : mOut (M 114) b w cnt p0 p (N : Int) (b + p + w) = M 114 (b + p + w) := by
        unfold mOut
        rw [if_neg (by omega), if_neg (by omega)]
      have er : vi_u (mOut (M 114) b w cnt p0 p (N : Int)) (b + p) (M 114 (b + p + w)) = mOut (M 114) b w cnt p0 (p + 1) (N : Int) := by
        funext k
        unfold vi_u mOut
        by_cases h : k = b + p
        · rw [if_pos h, if_neg (by omega), if_pos (by omega), h]
        · rw [if_neg h]
          by_cases h2 : k = cnt
          · rw [if_pos h2, if_pos h2]
          · rw [if_neg h2, if_neg h2]
            by_cases h3 : b + p0 ≤ k ∧ k < b + p
            · rw [if_pos h3, if_pos (by omega)]
            · rw [if_neg h3, if_neg (by omega)]
      rw [s_252_6]
      simp (disch := omega) only [Option.toList_some, Option.toList_none, List.nil_append, List.cons_append, List.append_nil, true_and, and_true, not_true_eq_false, not_false_eq_true, true_implies, false_implies, implies_true, and_self, Int.reduceLT, Int.reduceLE, Int.reduceEq, Int.reduceNe, Int.reduceAdd, Int.reduceSub, Int.reduceMul, Int.reduceNeg, Int.reduceToNat, Int.toNat_natCast, ↓kk_ck, ↓kk_im, ↓kk_in, s_252_13, s_252_15, s_252_18, s_252_21, s_252_25, s_252_33, s_252_39, s_252_40, s_252_41, R1, R3, w1, w2, vi_rs_s, vi_rs_rs, c1, c2, eN, e1, vi_32, vi_ms_rs, Int.toNat_natCast, a1, a2, er]
      exact ih
  have := hf p0 (Nat.le_refl _) hle
  rw [vi_rs_id (f := mOut (M 114) b w cnt p0 p0 (N : Int)) (by
    funext k
    unfold mOut
    by_cases h2 : k = cnt
    · rw [if_pos h2, h2, hc]
    · rw [if_neg h2, if_neg (by omega)])] at this
  clear hf hQ
  simp (disch := omega) only [Option.toList_some, Option.toList_none, List.nil_append, List.cons_append, List.append_nil, true_and, and_true, not_true_eq_false, not_false_eq_true, true_implies, false_implies, implies_true, and_self, Int.reduceLT, Int.reduceLE, Int.reduceEq, Int.reduceNe, Int.reduceAdd, Int.reduceSub, Int.reduceMul, Int.reduceNeg, Int.reduceToNat, Int.toNat_natCast, ↓kk_ck, ↓kk_im, ↓kk_in, e_252, s_252_0, e0, vi_32]
  exact this
theorem k_253n (hY : kY Y 151) {n : Nat} (hn : n ≤ 16) (h292 : M 114 292 = (n : Int)) {h : Int} (hh : ¬ (0 ≤ h ∧ h ≤ (n : Int) - 1)) (hc : 0 ≤ M 113 2 ∧ M 113 2 < 2147483647) (hD : 2 ≤ D) : vi_call GG D 253 [.inr (.inr 112), .inl h] (Y, M, nn) K ↔ K (some (.inl (-2))) (Y, vi_rs (vi_rs M 112 (vi_u (M 112) 0 (-2))) 113 (vi_u (M 113) 2 (M 113 2 + 1)), nn) := by
  obtain ⟨D, rfl⟩ : ∃ k, D = k + 1 := ⟨D - 1, by omega⟩
  obtain ⟨R1, -, R3, -⟩ := y_112 hY (by omega)
  obtain ⟨w1, w2⟩ := y_114 hY (by omega)
  refine vi_k (r := some (.inl _)) fun Q hQ => ?_
  have A := fun {D : Nat} {K : Option vi_V → vi_W → Prop} (hD : 1 ≤ D) => @k_235 D K Y M nn hY (-2) (by omega) (by exact hc) hD
  simp (disch := omega) only [Option.toList_some, Option.toList_none, List.nil_append, List.cons_append, List.append_nil, true_and, and_true, not_true_eq_false, not_false_eq_true, true_implies, false_implies, implies_true, and_self, Int.reduceLT, Int.reduceLE, Int.reduceEq, Int.reduceNe, Int.reduceAdd, Int.reduceSub, Int.reduceMul, Int.reduceNeg, Int.reduceToNat, Int.toNat_natCast, ↓kk_ck, ↓kk_im, ↓kk_in, e_253, s_253_0, s_253_18, s_253_25, s_253_6, s_253_24, s_253_36, s_253_10, s_253_41, s_253_15, s_253_45, s_253_48, R1, R3, w1, w2, h292, vi_32, k_234f hh, A, ne_eq]
  exact hQ
theorem k_253 (hY : kY Y 151) {n i : Nat} (hn : n ≤ 16) (h292 : M 114 292 = (n : Int)) (hi : i < n) (hc : 0 ≤ M 112 1 ∧ M 112 1 < 2147483647) (hD : 2 ≤ D) : vi_call GG D 253 [.inr (.inr 112), .inl (i : Int)] (Y, M, nn) K ↔ K (some (.inl ((n - 1 : Nat) : Int))) (Y, vi_rs (vi_rs M 114 (mOut (M 114) 0 6 292 (6 * i) (6 * (n - 1)) ((n - 1 : Nat) : Int))) 112 (vi_u (vi_u (M 112) 0 0) 1 (M 112 1 + 1)), nn) := by
  obtain ⟨D, rfl⟩ : ∃ k, D = k + 1 := ⟨D - 1, by omega⟩
  obtain ⟨R1, -, R3, -⟩ := y_112 hY (by omega)
  obtain ⟨w1, w2⟩ := y_114 hY (by omega)
  refine vi_k (r := some (.inl _)) fun Q hQ => ?_
  have A := fun {D : Nat} {K : Option vi_V → vi_W → Prop} (hD : 1 ≤ D) => @k_236 D K Y (vi_rs M 114 (mOut (M 114) 0 6 292 (6 * i) (6 * (n - 1)) ((n - 1 : Nat) : Int))) nn hY ((n - 1 : Nat) : Int) (by rw [vi_rs_o (by omega)]; exact hc) hD
  rw [vi_rs_o (by omega)] at A
  have B := fun {D : Nat} {K : Option vi_V → vi_W → Prop} (hD : 1 ≤ D) => @k_252 D K Y M nn hY 0 6 292 i n (by omega) hi (by omega) (by omega) h292 hD
  have c1 : mOut (M 114) 0 6 292 (6 * i) (6 * (n - 1)) ((n - 1 : Nat) : Int) 292 = ((n - 1 : Nat) : Int) := if_pos rfl
  have B' := fun {D : Nat} {K : Option vi_V → vi_W → Prop} (hD : 1 ≤ D) => show vi_call GG D 252 [.inr (.inr 112), .inl 0, .inl 6, .inl 292, .inl (i : Int)] (Y, M, nn) K ↔ _ from B hD
  simp (disch := omega) only [Option.toList_some, Option.toList_none, List.nil_append, List.cons_append, List.append_nil, true_and, and_true, not_true_eq_false, not_false_eq_true, true_implies, false_implies, implies_true, and_self, Int.reduceLT, Int.reduceLE, Int.reduceEq, Int.reduceNe, Int.reduceAdd, Int.reduceSub, Int.reduceMul, Int.reduceNeg, Int.reduceToNat, Int.toNat_natCast, ↓kk_ck, ↓kk_im, ↓kk_in, e_253, s_253_0, s_253_18, s_253_25, s_253_6, s_253_24, s_253_36, s_253_10, s_253_41, s_253_15, s_253_45, s_253_48, R1, R3, w1, w2, h292, vi_32, k_234t, A, B', ne_eq, vi_rs_s, c1]
  exact hQ
theorem k_259n (hY : kY Y 151) {x : Int} (h : ¬ (0 ≤ x ∧ x ≤ M 112 10)) (hD : 2 ≤ D) : vi_call GG D 259 [.inr (.inr 112), .inl x] (Y, M, nn) K ↔ K (some (.inl (-1))) (Y, M, nn) := by
  obtain ⟨D, rfl⟩ : ∃ k, D = k + 1 := ⟨D - 1, by omega⟩
  obtain ⟨R1, -⟩ := y_112 hY (by omega)
  refine vi_k (r := some (.inl _)) fun Q hQ => ?_
  simp (disch := omega) only [Option.toList_some, Option.toList_none, List.nil_append, List.cons_append, List.append_nil, true_and, and_true, not_true_eq_false, not_false_eq_true, true_implies, false_implies, implies_true, and_self, Int.reduceLT, Int.reduceLE, Int.reduceEq, Int.reduceNe, Int.reduceAdd, Int.reduceSub, Int.reduceMul, Int.reduceNeg, Int.reduceToNat, Int.toNat_natCast, ↓kk_ck, ↓kk_im, ↓kk_in, e_259, s_259_0, s_259_12, s_259_14, s_259_6, s_259_19, s_259_9, R1, k_234f h, ne_eq]
  exact hQ
theorem k_259 (hY : kY Y 151) {x : Int} (h : 0 ≤ x ∧ x ≤ M 112 10) (hD : 2 ≤ D) : vi_call GG D 259 [.inr (.inr 112), .inl x] (Y, M, nn) K ↔ K (some (.inl x)) (Y, vi_rs M 112 (vi_u (M 112) 10 x), nn) := by
  obtain ⟨D, rfl⟩ : ∃ k, D = k + 1 := ⟨D - 1, by omega⟩
  obtain ⟨R1, -⟩ := y_112 hY (by omega)
  refine vi_k (r := some (.inl _)) fun Q hQ => ?_
  simp (disch := omega) only [Option.toList_some, Option.toList_none, List.nil_append, List.cons_append, List.append_nil, true_and, and_true, not_true_eq_false, not_false_eq_true, true_implies, false_implies, implies_true, and_self, Int.reduceLT, Int.reduceLE, Int.reduceEq, Int.reduceNe, Int.reduceAdd, Int.reduceSub, Int.reduceMul, Int.reduceNeg, Int.reduceToNat, Int.toNat_natCast, ↓kk_ck, ↓kk_im, ↓kk_in, e_259, s_259_0, s_259_12, s_259_14, s_259_6, s_259_19, s_259_9, R1, k_234t h, ne_eq, vi_ms_rs]
  exact hQ
theorem k_257 (hY : kY Y 151) (hD : 1 ≤ D) : vi_call GG D 257 [.inr (.inr 112)] (Y, M, nn) K ↔ K (some (.inl (M 112 6))) (Y, M, nn) := by
  obtain ⟨D, rfl⟩ : ∃ k, D = k + 1 := ⟨D - 1, by omega⟩
  obtain ⟨R1, -⟩ := y_112 hY (by omega)
  refine vi_k (r := some (.inl _)) fun Q hQ => ?_
  simp (disch := omega) only [Option.toList_some, Option.toList_none, List.nil_append, List.cons_append, List.append_nil, true_and, and_true, not_true_eq_false, not_false_eq_true, true_implies, false_implies, implies_true, and_self, Int.reduceLT, Int.reduceLE, Int.reduceEq, Int.reduceNe, Int.reduceAdd, Int.reduceSub, Int.reduceMul, Int.reduceNeg, Int.reduceToNat, Int.toNat_natCast, ↓kk_ck, ↓kk_im, ↓kk_in, e_257, s_257_0, s_257_4, R1]
  exact hQ
end
