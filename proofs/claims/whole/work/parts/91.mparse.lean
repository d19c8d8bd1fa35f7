/-! Contracts of the reference, third part: its readers of the grammar. -/
def qRow (f : Nat → Int) (i l : Nat) (x : Int) : Nat → Int := fun k => if k = 16 then (i : Int) else if k = 17 then (l : Int) else if k = 18 then x else f k
theorem qRow_16 {f : Nat → Int} {i l : Nat} {x : Int} {j : Nat} : vi_u (qRow f i l x) 16 (j : Int) = qRow f j l x := by
  funext k
  unfold vi_u qRow
  by_cases h : k = 16
  · simp only [if_pos h]
  · simp only [if_neg h]
theorem qRow_17 {f : Nat → Int} {i l : Nat} {x : Int} {j : Nat} : vi_u (qRow f i l x) 17 (j : Int) = qRow f i j x := by
  funext k
  unfold vi_u qRow
  by_cases h : k = 17
  · subst h; rfl
  · simp only [if_neg h]
theorem qRow_18 {f : Nat → Int} {i l : Nat} {x y : Int} : vi_u (qRow f i l x) 18 y = qRow f i l y := by
  funext k
  unfold vi_u qRow
  by_cases h : k = 18
  · subst h; rfl
  · simp only [if_neg h]
/-- the tokens, to the last one -/
def qTk (M : vi_M) (b : Nat → Int) (n t : Nat) : Prop := t ≤ 400 ∧ tI b n t = n ∧ ∀ i, i ≤ t → M 120 i = tCd b n i ∧ M 121 i = tVl b n i ∧ M 122 i = (tI b n i : Int)
theorem qTk_c {M M' : vi_M} {b : Nat → Int} {n t : Nat} (h : qTk M b n t) (h0 : M' 120 = M 120) (h1 : M' 121 = M 121) (h2 : M' 122 = M 122) : qTk M' b n t := ⟨h.1, h.2.1, fun i hi => by rw [h0, h1, h2]; exact h.2.2 i hi⟩
theorem qTk_r {M : vi_M} {b : Nat → Int} {n t : Nat} (h : qTk M b n t) {g : Nat → Int} : qTk (vi_rs M 112 g) b n t := qTk_c h (vi_rs_o (by omega)) (vi_rs_o (by omega)) (vi_rs_o (by omega))
theorem qTk_i {M : vi_M} {b : Nat → Int} {n t i : Nat} (h : qTk M b n t) (hi : i ≤ t) (hc : tCd b n i ≠ 0) : i + 1 ≤ t := by
  have h1 := tI_cd hc
  by_cases e : i = t
  · rw [e, h.2.1] at h1; omega
  · omega
section
variable {D : Nat} {K : Option vi_V → vi_W → Prop} {Y : vi_Y} {M : vi_M} {nn : Nat × Nat} {n t : Nat} {b f : Nat → Int}
theorem k_269 {c : Int} {w : vi_W} (hD : 1 ≤ D) (hc : 0 ≤ c ∧ c < 256) : vi_call GG D 269 [.inl c] w K ↔ K (some (.inl (100 + c))) w := by
  obtain ⟨D, rfl⟩ : ∃ k, D = k + 1 := ⟨D - 1, by omega⟩
  obtain ⟨Y, M, n⟩ := w
  refine vi_k (r := some (.inl _)) fun Q hQ => ?_
  simp (disch := omega) only [Option.toList_some, Option.toList_none, List.nil_append, List.cons_append, List.append_nil, true_and, and_true, not_true_eq_false, not_false_eq_true, true_implies, false_implies, implies_true, and_self, Int.reduceLT, Int.reduceLE, Int.reduceEq, Int.reduceNe, Int.reduceAdd, Int.reduceSub, Int.reduceMul, Int.reduceNeg, Int.reduceToNat, Int.toNat_natCast, ↓kk_ck, ↓kk_im, ↓kk_in, e_269, s_269_0, vi_32]
  exact hQ
theorem k_264g (hY : kY Y 151) (h18 : M 112 18 = -1) (hD : 1 ≤ D) : vi_call GG D 264 [.inr (.inr 112)] (Y, M, nn) K ↔ K (some (.inl 1)) (Y, M, nn) := by
  obtain ⟨D, rfl⟩ : ∃ k, D = k + 1 := ⟨D - 1, by omega⟩
  obtain ⟨R1, -⟩ := y_112 hY (by omega)
  refine vi_k (r := some (.inl _)) fun Q hQ => ?_
  simp (disch := omega) only [Option.toList_some, Option.toList_none, List.nil_append, List.cons_append, List.append_nil, true_and, and_true, not_true_eq_false, not_false_eq_true, true_implies, false_implies, implies_true, and_self, Int.reduceLT, Int.reduceLE, Int.reduceEq, Int.reduceNe, Int.reduceAdd, Int.reduceSub, Int.reduceMul, Int.reduceNeg, Int.reduceToNat, Int.toNat_natCast, ↓kk_ck, ↓kk_im, ↓kk_in, e_264, s_264_0, s_264_8, s_264_12, s_264_13, s_264_4, R1, h18, ne_eq]
  exact hQ
theorem k_264b (hY : kY Y 151) (h18 : M 112 18 ≠ -1) (hD : 1 ≤ D) : vi_call GG D 264 [.inr (.inr 112)] (Y, M, nn) K ↔ K (some (.inl 0)) (Y, M, nn) := by
  obtain ⟨D, rfl⟩ : ∃ k, D = k + 1 := ⟨D - 1, by omega⟩
  obtain ⟨R1, -⟩ := y_112 hY (by omega)
  refine vi_k (r := some (.inl _)) fun Q hQ => ?_
  simp (disch := omega) only [Option.toList_some, Option.toList_none, List.nil_append, List.cons_append, List.append_nil, true_and, and_true, not_true_eq_false, not_false_eq_true, true_implies, false_implies, implies_true, and_self, Int.reduceLT, Int.reduceLE, Int.reduceEq, Int.reduceNe, Int.reduceAdd, Int.reduceSub, Int.reduceMul, Int.reduceNeg, Int.reduceToNat, Int.toNat_natCast, ↓kk_ck, ↓kk_im, ↓kk_in, e_264, s_264_0, s_264_8, s_264_12, s_264_13, s_264_4, R1, h18, ne_eq]
  exact hQ
/-- faults, where all was fine -/
theorem k_265g (hY : kY Y 151) (hT : qTk M b n t) {i l : Nat} (h112 : M 112 = qRow f i l (-1)) (hi : i ≤ t) (hD : 2 ≤ D) : vi_call GG D 265 [.inr (.inr 112)] (Y, M, nn) K ↔ K none (Y, vi_rs M 112 (qRow f i l (tI b n i : Int)), nn) := by
  obtain ⟨D, rfl⟩ : ∃ k, D = k + 1 := ⟨D - 1, by omega⟩
  obtain ⟨R1, -, -, -, -, -, -, -, -, -, R14, -⟩ := y_112 hY (by omega)
  obtain ⟨w1, w2⟩ := y_122 hY (by omega)
  have h18 : M 112 18 = -1 := by rw [h112]; rfl
  have h16 : M 112 16 = (i : Int) := by rw [h112]; rfl
  have hp := (hT.2.2 i hi).2.2
  have ht := hT.1
  refine vi_k (r := none) fun Q hQ => ?_
  rw [← qRow_18 (x := -1), ← h112] at hQ
  simp (disch := omega) only [Option.toList_some, Option.toList_none, List.nil_append, List.cons_append, List.append_nil, true_and, and_true, not_true_eq_false, not_false_eq_true, true_implies, false_implies, implies_true, and_self, Int.reduceLT, Int.reduceLE, Int.reduceEq, Int.reduceNe, Int.reduceAdd, Int.reduceSub, Int.reduceMul, Int.reduceNeg, Int.reduceToNat, Int.toNat_natCast, ↓kk_ck, ↓kk_im, ↓kk_in, e_265, s_265_0, s_265_7, s_265_20, s_265_4, s_265_12, s_265_16, s_265_17, R1, R14, w1, w2, k_264g hY h18, h16, hp, vi_ms_rs]
  exact hQ
theorem k_265b (hY : kY Y 151) (h18 : M 112 18 ≠ -1) (hD : 2 ≤ D) : vi_call GG D 265 [.inr (.inr 112)] (Y, M, nn) K ↔ K none (Y, M, nn) := by
  obtain ⟨D, rfl⟩ : ∃ k, D = k + 1 := ⟨D - 1, by omega⟩
  obtain ⟨R1, -⟩ := y_112 hY (by omega)
  refine vi_k (r := none) fun Q hQ => ?_
  simp (disch := omega) only [Option.toList_some, Option.toList_none, List.nil_append, List.cons_append, List.append_nil, true_and, and_true, not_true_eq_false, not_false_eq_true, true_implies, false_implies, implies_true, and_self, Int.reduceLT, Int.reduceLE, Int.reduceEq, Int.reduceNe, Int.reduceAdd, Int.reduceSub, Int.reduceMul, Int.reduceNeg, Int.reduceToNat, Int.toNat_natCast, ↓kk_ck, ↓kk_im, ↓kk_in, e_265, s_265_0, s_265_7, s_265_20, s_265_4, s_265_12, s_265_16, s_265_17, R1, k_264b hY h18]
  exact hQ
/-- a token is taken, if it is there -/
theorem k_266g (hY : kY Y 151) (hT : qTk M b n t) {i l : Nat} (h112 : M 112 = qRow f i l (-1)) (hi : i ≤ t) {c : Int} (hD : 2 ≤ D) : vi_call GG D 266 [.inr (.inr 112), .inl c] (Y, M, nn) K ↔ K (some (.inl (vi_b (decide (tCd b n i = c))))) (Y, vi_rs M 112 (qRow f (if tCd b n i = c then i + 1 else i) l (-1)), nn) := by
  obtain ⟨D, rfl⟩ : ∃ k, D = k + 1 := ⟨D - 1, by omega⟩
  obtain ⟨R1, -, -, -, -, -, -, -, R12, -⟩ := y_112 hY (by omega)
  obtain ⟨w1, w2⟩ := y_120 hY (by omega)
  have h18 : M 112 18 = -1 := by rw [h112]; rfl
  have h16 : M 112 16 = (i : Int) := by rw [h112]; rfl
  have hp := (hT.2.2 i hi).1
  have ht := hT.1
  refine vi_k (r := some (.inl _)) fun Q hQ => ?_
  by_cases h : tCd b n i = c
  · rw [decide_eq_true h, if_pos h, ← qRow_16 (i := i), ← h112] at hQ
    simp (disch := omega) only [Option.toList_some, Option.toList_none, List.nil_append, List.cons_append, List.append_nil, true_and, and_true, not_true_eq_false, not_false_eq_true, true_implies, false_implies, implies_true, and_self, Int.reduceLT, Int.reduceLE, Int.reduceEq, Int.reduceNe, Int.reduceAdd, Int.reduceSub, Int.reduceMul, Int.reduceNeg, Int.reduceToNat, Int.toNat_natCast, ↓kk_ck, ↓kk_im, ↓kk_in, e_266, s_266_0, s_266_7, s_266_20, s_266_24, s_266_25, s_266_30, s_266_40, s_266_4, s_266_11, s_266_35, s_266_15, s_266_16, R1, R12, w1, w2, k_264g hY h18, h16, hp, h, ne_eq, vi_ms_rs, vi_inc]
    exact hQ
  · rw [decide_eq_false h, if_neg h, vi_rs_id h112] at hQ
    simp (disch := omega) only [Option.toList_some, Option.toList_none, List.nil_append, List.cons_append, List.append_nil, true_and, and_true, not_true_eq_false, not_false_eq_true, true_implies, false_implies, implies_true, and_self, Int.reduceLT, Int.reduceLE, Int.reduceEq, Int.reduceNe, Int.reduceAdd, Int.reduceSub, Int.reduceMul, Int.reduceNeg, Int.reduceToNat, Int.toNat_natCast, ↓kk_ck, ↓kk_im, ↓kk_in, e_266, s_266_0, s_266_7, s_266_20, s_266_24, s_266_25, s_266_30, s_266_40, s_266_4, s_266_11, s_266_35, s_266_15, s_266_16, R1, R12, w1, w2, k_264g hY h18, h16, hp, h, ne_eq]
    exact hQ
theorem k_266b (hY : kY Y 151) (h18 : M 112 18 ≠ -1) {c : Int} (hD : 2 ≤ D) : vi_call GG D 266 [.inr (.inr 112), .inl c] (Y, M, nn) K ↔ K (some (.inl 0)) (Y, M, nn) := by
  obtain ⟨D, rfl⟩ : ∃ k, D = k + 1 := ⟨D - 1, by omega⟩
  obtain ⟨R1, -⟩ := y_112 hY (by omega)
  refine vi_k (r := some (.inl _)) fun Q hQ => ?_
  simp (disch := omega) only [Option.toList_some, Option.toList_none, List.nil_append, List.cons_append, List.append_nil, true_and, and_true, not_true_eq_false, not_false_eq_true, true_implies, false_implies, implies_true, and_self, Int.reduceLT, Int.reduceLE, Int.reduceEq, Int.reduceNe, Int.reduceAdd, Int.reduceSub, Int.reduceMul, Int.reduceNeg, Int.reduceToNat, Int.toNat_natCast, ↓kk_ck, ↓kk_im, ↓kk_in, e_266, s_266_0, s_266_7, s_266_20, s_266_24, s_266_25, s_266_30, s_266_40, s_266_4, s_266_11, s_266_35, s_266_15, s_266_16, R1, k_264b hY h18]
  exact hQ
theorem k_267g (hY : kY Y 151) (hT : qTk M b n t) {i l : Nat} (h112 : M 112 = qRow f i l (-1)) (hi : i ≤ t) {c : Int} (hD : 3 ≤ D) : vi_call GG D 267 [.inr (.inr 112), .inl c] (Y, M, nn) K ↔ K none (Y, vi_rs M 112 (if tCd b n i = c then qRow f (i + 1) l (-1) else qRow f i l (tI b n i : Int)), nn) := by
  obtain ⟨D, rfl⟩ : ∃ k, D = k + 1 := ⟨D - 1, by omega⟩
  obtain ⟨R1, -⟩ := y_112 hY (by omega)
  refine vi_k (r := none) fun Q hQ => ?_
  have T := fun {D : Nat} {K : Option vi_V → vi_W → Prop} (hD : 2 ≤ D) => @k_266g D K Y M nn n t b f hY hT i l h112 hi c hD
  by_cases h : tCd b n i = c
  · rw [if_pos h] at hQ
    rw [decide_eq_true h, if_pos h] at T
    simp (disch := omega) only [Option.toList_some, Option.toList_none, List.nil_append, List.cons_append, List.append_nil, true_and, and_true, not_true_eq_false, not_false_eq_true, true_implies, false_implies, implies_true, and_self, Int.reduceLT, Int.reduceLE, Int.reduceEq, Int.reduceNe, Int.reduceAdd, Int.reduceSub, Int.reduceMul, Int.reduceNeg, Int.reduceToNat, Int.toNat_natCast, ↓kk_ck, ↓kk_im, ↓kk_in, e_267, s_267_0, s_267_8, s_267_12, s_267_5, R1, T, vi_bt, ne_eq]
    exact hQ
  · rw [if_neg h] at hQ
    rw [decide_eq_false h, if_neg h, vi_rs_id h112] at T
    simp (disch := omega) only [Option.toList_some, Option.toList_none, List.nil_append, List.cons_append, List.append_nil, true_and, and_true, not_true_eq_false, not_false_eq_true, true_implies, false_implies, implies_true, and_self, Int.reduceLT, Int.reduceLE, Int.reduceEq, Int.reduceNe, Int.reduceAdd, Int.reduceSub, Int.reduceMul, Int.reduceNeg, Int.reduceToNat, Int.toNat_natCast, ↓kk_ck, ↓kk_im, ↓kk_in, e_267, s_267_0, s_267_8, s_267_12, s_267_5, R1, T, vi_bf, ne_eq, k_265g hY hT h112 hi]
    exact hQ
theorem k_267b (hY : kY Y 151) (h18 : M 112 18 ≠ -1) {c : Int} (hD : 3 ≤ D) : vi_call GG D 267 [.inr (.inr 112), .inl c] (Y, M, nn) K ↔ K none (Y, M, nn) := by
  obtain ⟨D, rfl⟩ : ∃ k, D = k + 1 := ⟨D - 1, by omega⟩
  obtain ⟨R1, -⟩ := y_112 hY (by omega)
  refine vi_k (r := none) fun Q hQ => ?_
  simp (disch := omega) only [Option.toList_some, Option.toList_none, List.nil_append, List.cons_append, List.append_nil, true_and, and_true, not_true_eq_false, not_false_eq_true, true_implies, false_implies, implies_true, and_self, Int.reduceLT, Int.reduceLE, Int.reduceEq, Int.reduceNe, Int.reduceAdd, Int.reduceSub, Int.reduceMul, Int.reduceNeg, Int.reduceToNat, Int.toNat_natCast, ↓kk_ck, ↓kk_im, ↓kk_in, e_267, s_267_0, s_267_8, s_267_12, s_267_5, R1, k_266b hY h18, k_265b hY h18, ne_eq]
  exact hQ
theorem k_268 (hY : kY Y 151) (hT : qTk M b n t) {i l : Nat} (h112 : M 112 = qRow f i l (-1)) (hi : i ≤ t) (hl : l ≤ 50) (hD : 3 ≤ D) : vi_call GG D 268 [.inr (.inr 112)] (Y, M, nn) K ↔ K none (Y, vi_rs M 112 (if l = 50 then qRow f i 51 (tI b n i : Int) else qRow f (i + 1) (l + 1) (-1)), nn) := by
  obtain ⟨D, rfl⟩ : ∃ k, D = k + 1 := ⟨D - 1, by omega⟩
  obtain ⟨R1, -⟩ := y_112 hY (by omega)
  have h17 : M 112 17 = (l : Int) := by rw [h112]; rfl
  have ht := hT.1
  refine vi_k (r := none) fun Q hQ => ?_
  by_cases h : l = 50
  · subst h
    rw [if_pos rfl] at hQ
    have e17 : vi_u (qRow f i 50 (tI b n i : Int)) 17 51 = qRow f i 51 (tI b n i : Int) := qRow_17 (j := 51)
    have v17 : qRow f i 50 (tI b n i : Int) 17 = 50 := rfl
    have e18 : vi_rs M 112 (qRow f i 51 (tI b n i : Int)) 112 18 ≠ -1 := by
      rw [vi_rs_s]
      show (tI b n i : Int) ≠ -1
      omega
    simp (disch := omega) only [Option.toList_some, Option.toList_none, List.nil_append, List.cons_append, List.append_nil, true_and, and_true, not_true_eq_false, not_false_eq_true, true_implies, false_implies, implies_true, and_self, Int.reduceLT, Int.reduceLE, Int.reduceEq, Int.reduceNe, Int.reduceAdd, Int.reduceSub, Int.reduceMul, Int.reduceNeg, Int.reduceToNat, Int.toNat_natCast, ↓kk_ck, ↓kk_im, ↓kk_in, e_268, s_268_0, s_268_9, s_268_13, s_268_30, s_268_40, s_268_4, s_268_18, s_268_35, s_268_23, s_268_27, R1, h17, ne_eq, k_265g hY hT h112 hi, vi_rs_s, v17, show vi_w32 51 = 51 from by decide, e17, vi_ms_rs, vi_rs_rs, k_264b hY e18]
    exact hQ
  · rw [if_neg h] at hQ
    have e17 : vi_u (M 112) 17 ((l + 1 : Nat) : Int) = qRow f i (l + 1) (-1) := by rw [h112]; exact qRow_17
    have e16 : vi_u (qRow f i (l + 1) (-1)) 16 ((i + 1 : Nat) : Int) = qRow f (i + 1) (l + 1) (-1) := qRow_16
    have v16 : qRow f i (l + 1) (-1) 16 = (i : Int) := rfl
    have e18 : vi_rs M 112 (qRow f i (l + 1) (-1)) 112 18 = -1 := by rw [vi_rs_s]; rfl
    have h50 : ¬ (l : Int) = 50 := by omega
    simp (disch := omega) only [Option.toList_some, Option.toList_none, List.nil_append, List.cons_append, List.append_nil, true_and, and_true, not_true_eq_false, not_false_eq_true, true_implies, false_implies, implies_true, and_self, Int.reduceLT, Int.reduceLE, Int.reduceEq, Int.reduceNe, Int.reduceAdd, Int.reduceSub, Int.reduceMul, Int.reduceNeg, Int.reduceToNat, Int.toNat_natCast, ↓kk_ck, ↓kk_im, ↓kk_in, e_268, s_268_0, s_268_9, s_268_13, s_268_30, s_268_40, s_268_4, s_268_18, s_268_35, s_268_23, s_268_27, R1, h17, ne_eq, h50, vi_inc, e17, vi_ms_rs, k_264g hY e18, vi_rs_s, v16, e16, vi_rs_rs]
    exact hQ
end
/-- the method m reads the mode's place: what it leaves of the row -/
def qM (Y : vi_Y) (nn : Nat × Nat) (f b : Nat → Int) (n t fu m mode rk : Nat) : Prop := ∀ (D dp i l : Nat) (M : vi_M) (a : gDen) (r : gRes) (Q : Option vi_V → vi_W → Prop), rdP (tCd b n) (tVl b n) fu mode dp i l a = some r → dp ≤ 8 → 3 * (8 - dp) + 6 + rk ≤ D → qTk M b n t → M 112 = qRow f i l (-1) → i ≤ t → l ≤ 50 → (r.1 = true → i ≤ r.2.1 → r.2.1 ≤ t → r.2.2.1 ≤ 50 → Q none (Y, vi_rs M 112 (qRow f r.2.1 r.2.2.1 (-1)), nn)) → (r.1 = false → r.2.1 ≤ t → ∀ l', Q none (Y, vi_rs M 112 (qRow f r.2.1 l' (tI b n r.2.1 : Int)), nn)) → vi_call GG D m [.inr (.inr 112), .inl (dp : Int)] (Y, M, nn) Q
/-- what goes on, from the loop's head (pc 5) -/
def qL (Y : vi_Y) (nn : Nat × Nat) (f b : Nat → Int) (n t fu m mode rk : Nat) : Prop := ∀ (D dp i l : Nat) (M : vi_M) (a : gDen) (r : gRes) (Q : Option vi_V → vi_W → Prop), rdP (tCd b n) (tVl b n) fu mode dp i l a = some r → dp ≤ 8 → 3 * (8 - dp) + 5 + rk ≤ D → qTk M b n t → M 112 = qRow f i l (-1) → i ≤ t → l ≤ 50 → (r.1 = true → i ≤ r.2.1 → r.2.1 ≤ t → r.2.2.1 ≤ 50 → Q none (Y, vi_rs M 112 (qRow f r.2.1 r.2.2.1 (-1)), nn)) → (r.1 = false → r.2.1 ≤ t → ∀ l', Q none (Y, vi_rs M 112 (qRow f r.2.1 l' (tI b n r.2.1 : Int)), nn)) → vi_ok GG D m 5 [some (.inr (.inr 112)), some (.inl (dp : Int))] [] (Y, M, nn) Q
/-- a PLAIN behind its nots, from pc 16 -/
def qX (Y : vi_Y) (nn : Nat × Nat) (f b : Nat → Int) (n t fu : Nat) : Prop := ∀ (D dp i l : Nat) (M : vi_M) (a : gDen) (r : gRes) (x2 : Int) (l3 : Option vi_V) (Q : Option vi_V → vi_W → Prop), rdP (tCd b n) (tVl b n) fu 10 dp i l a = some r → dp ≤ 8 → 3 * (8 - dp) + 8 ≤ D → qTk M b n t → M 112 = qRow f i l (-1) → i ≤ t → l ≤ 50 → (r.1 = true → i ≤ r.2.1 → r.2.1 ≤ t → r.2.2.1 ≤ 50 → Q none (Y, vi_rs M 112 (qRow f r.2.1 r.2.2.1 (-1)), nn)) → (r.1 = false → r.2.1 ≤ t → ∀ l', Q none (Y, vi_rs M 112 (qRow f r.2.1 l' (tI b n r.2.1 : Int)), nn)) → vi_ok GG D 273 16 [some (.inr (.inr 112)), some (.inl (dp : Int)), some (.inl x2), l3] [] (Y, M, nn) Q
section
variable {D : Nat} {K : Option vi_V → vi_W → Prop} {Y : vi_Y} {M : vi_M} {nn : Nat × Nat} {n t fu : Nat} {b f : Nat → Int}
-- once it isn't fine any more, nothing moves
theorem k_276b (hY : kY Y 151) (h18 : M 112 18 ≠ -1) {dp : Int} (hD : 2 ≤ D) : vi_call GG D 276 [.inr (.inr 112), .inl dp] (Y, M, nn) K ↔ K none (Y, M, nn) := by
  obtain ⟨D, rfl⟩ : ∃ k, D = k + 1 := ⟨D - 1, by omega⟩
  obtain ⟨R1, -⟩ := y_112 hY (by omega)
  refine vi_k (r := none) fun Q hQ => ?_
  simp (disch := omega) only [Option.toList_some, Option.toList_none, List.nil_append, List.cons_append, List.append_nil, true_and, and_true, not_true_eq_false, not_false_eq_true, true_implies, false_implies, implies_true, and_self, Int.reduceLT, Int.reduceLE, Int.reduceEq, Int.reduceNe, Int.reduceAdd, Int.reduceSub, Int.reduceMul, Int.reduceNeg, Int.reduceToNat, Int.toNat_natCast, ↓kk_ck, ↓kk_im, ↓kk_in, e_276, s_276_0, s_276_7, s_276_8, s_276_27, s_276_33, s_276_37, s_276_44, s_276_45, s_276_74, s_276_80, s_276_95, s_276_101, s_276_107, s_276_114, s_276_118, s_276_4, s_276_12, s_276_41, s_276_50, s_276_84, s_276_111, s_276_16, s_276_55, s_276_88, s_276_17, s_276_62, s_276_89, s_276_24, s_276_68, s_276_71, R1, k_264b hY h18, ne_eq]
  exact hQ
theorem h_275_b (hY : kY Y 151) (h18 : M 112 18 ≠ -1) {dp : Int} (hD : 2 ≤ D) {Q : Option vi_V → vi_W → Prop} (hQ : Q none (Y, M, nn)) : vi_ok GG D 275 5 [some (.inr (.inr 112)), some (.inl dp)] [] (Y, M, nn) Q := by
  obtain ⟨R1, -⟩ := y_112 hY (by omega)
  rw [s_275_5]
  simp (disch := omega) only [Option.toList_some, Option.toList_none, List.nil_append, List.cons_append, List.append_nil, true_and, and_true, not_true_eq_false, not_false_eq_true, true_implies, false_implies, implies_true, and_self, Int.reduceLT, Int.reduceLE, Int.reduceEq, Int.reduceNe, Int.reduceAdd, Int.reduceSub, Int.reduceMul, Int.reduceNeg, Int.reduceToNat, Int.toNat_natCast, ↓kk_ck, ↓kk_im, ↓kk_in, s_275_0, s_275_17, s_275_29, s_275_37, s_275_11, s_275_23, s_275_34, s_275_14, s_275_26, R1, k_269, k_266b hY h18, ne_eq]
  exact hQ
theorem k_275b (hY : kY Y 151) (h18 : M 112 18 ≠ -1) {dp : Int} (hD : 3 ≤ D) : vi_call GG D 275 [.inr (.inr 112), .inl dp] (Y, M, nn) K ↔ K none (Y, M, nn) := by
  obtain ⟨D, rfl⟩ : ∃ k, D = k + 1 := ⟨D - 1, by omega⟩
  obtain ⟨R1, -⟩ := y_112 hY (by omega)
  refine vi_k (r := none) fun Q hQ => ?_
  have := h_275_b (nn := nn) hY h18 (dp := dp) (D := D) (by omega) hQ
  clear hQ
  simp (disch := omega) only [Option.toList_some, Option.toList_none, List.nil_append, List.cons_append, List.append_nil, true_and, and_true, not_true_eq_false, not_false_eq_true, true_implies, false_implies, implies_true, and_self, Int.reduceLT, Int.reduceLE, Int.reduceEq, Int.reduceNe, Int.reduceAdd, Int.reduceSub, Int.reduceMul, Int.reduceNeg, Int.reduceToNat, Int.toNat_natCast, ↓kk_ck, ↓kk_im, ↓kk_in, e_275, s_275_0, R1, k_276b hY h18]
  exact this
theorem h_274_b (hY : kY Y 151) (h18 : M 112 18 ≠ -1) {dp : Int} (hD : 2 ≤ D) {Q : Option vi_V → vi_W → Prop} (hQ : Q none (Y, M, nn)) : vi_ok GG D 274 5 [some (.inr (.inr 112)), some (.inl dp)] [] (Y, M, nn) Q := by
  obtain ⟨R1, -⟩ := y_112 hY (by omega)
  rw [s_274_5]
  simp (disch := omega) only [Option.toList_some, Option.toList_none, List.nil_append, List.cons_append, List.append_nil, true_and, and_true, not_true_eq_false, not_false_eq_true, true_implies, false_implies, implies_true, and_self, Int.reduceLT, Int.reduceLE, Int.reduceEq, Int.reduceNe, Int.reduceAdd, Int.reduceSub, Int.reduceMul, Int.reduceNeg, Int.reduceToNat, Int.toNat_natCast, ↓kk_ck, ↓kk_im, ↓kk_in, s_274_0, s_274_17, s_274_29, s_274_37, s_274_11, s_274_23, s_274_34, s_274_14, s_274_26, R1, k_269, k_266b hY h18, ne_eq]
  exact hQ
theorem k_274b (hY : kY Y 151) (h18 : M 112 18 ≠ -1) {dp : Int} (hD : 4 ≤ D) : vi_call GG D 274 [.inr (.inr 112), .inl dp] (Y, M, nn) K ↔ K none (Y, M, nn) := by
  obtain ⟨D, rfl⟩ : ∃ k, D = k + 1 := ⟨D - 1, by omega⟩
  obtain ⟨R1, -⟩ := y_112 hY (by omega)
  refine vi_k (r := none) fun Q hQ => ?_
  have := h_274_b (nn := nn) hY h18 (dp := dp) (D := D) (by omega) hQ
  clear hQ
  simp (disch := omega) only [Option.toList_some, Option.toList_none, List.nil_append, List.cons_append, List.append_nil, true_and, and_true, not_true_eq_false, not_false_eq_true, true_implies, false_implies, implies_true, and_self, Int.reduceLT, Int.reduceLE, Int.reduceEq, Int.reduceNe, Int.reduceAdd, Int.reduceSub, Int.reduceMul, Int.reduceNeg, Int.reduceToNat, Int.toNat_natCast, ↓kk_ck, ↓kk_im, ↓kk_in, e_274, s_274_0, R1, k_275b hY h18]
  exact this
theorem k_273b (hY : kY Y 151) (h18 : M 112 18 ≠ -1) {dp : Int} (hD : 3 ≤ D) : vi_call GG D 273 [.inr (.inr 112), .inl dp] (Y, M, nn) K ↔ K none (Y, M, nn) := by
  obtain ⟨D, rfl⟩ : ∃ k, D = k + 1 := ⟨D - 1, by omega⟩
  obtain ⟨R1, -⟩ := y_112 hY (by omega)
  refine vi_k (r := none) fun Q hQ => ?_
  rw [e_273, s_273_0, s_273_2]
  simp (disch := omega) only [Option.toList_some, Option.toList_none, List.nil_append, List.cons_append, List.append_nil, true_and, and_true, not_true_eq_false, not_false_eq_true, true_implies, false_implies, implies_true, and_self, Int.reduceLT, Int.reduceLE, Int.reduceEq, Int.reduceNe, Int.reduceAdd, Int.reduceSub, Int.reduceMul, Int.reduceNeg, Int.reduceToNat, Int.toNat_natCast, ↓kk_ck, ↓kk_im, ↓kk_in, s_273_6, s_273_12, R1, k_266b hY h18]
  rw [s_273_2]
  simp (disch := omega) only [Option.toList_some, Option.toList_none, List.nil_append, List.cons_append, List.append_nil, true_and, and_true, not_true_eq_false, not_false_eq_true, true_implies, false_implies, implies_true, and_self, Int.reduceLT, Int.reduceLE, Int.reduceEq, Int.reduceNe, Int.reduceAdd, Int.reduceSub, Int.reduceMul, Int.reduceNeg, Int.reduceToNat, Int.toNat_natCast, ↓kk_ck, ↓kk_im, ↓kk_in, s_273_16, s_273_20, s_273_23, R1, k_264b hY h18, ne_eq]
  exact hQ
theorem h_272_b (hY : kY Y 151) (h18 : M 112 18 ≠ -1) {dp : Int} (hD : 2 ≤ D) {Q : Option vi_V → vi_W → Prop} (hQ : Q none (Y, M, nn)) : vi_ok GG D 272 5 [some (.inr (.inr 112)), some (.inl dp)] [] (Y, M, nn) Q := by
  obtain ⟨R1, -⟩ := y_112 hY (by omega)
  rw [s_272_5]
  simp (disch := omega) only [Option.toList_some, Option.toList_none, List.nil_append, List.cons_append, List.append_nil, true_and, and_true, not_true_eq_false, not_false_eq_true, true_implies, false_implies, implies_true, and_self, Int.reduceLT, Int.reduceLE, Int.reduceEq, Int.reduceNe, Int.reduceAdd, Int.reduceSub, Int.reduceMul, Int.reduceNeg, Int.reduceToNat, Int.toNat_natCast, ↓kk_ck, ↓kk_im, ↓kk_in, s_272_0, s_272_14, s_272_22, s_272_11, s_272_19, R1, k_269, k_266b hY h18, ne_eq]
  exact hQ
theorem k_272b (hY : kY Y 151) (h18 : M 112 18 ≠ -1) {dp : Int} (hD : 4 ≤ D) : vi_call GG D 272 [.inr (.inr 112), .inl dp] (Y, M, nn) K ↔ K none (Y, M, nn) := by
  obtain ⟨D, rfl⟩ : ∃ k, D = k + 1 := ⟨D - 1, by omega⟩
  obtain ⟨R1, -⟩ := y_112 hY (by omega)
  refine vi_k (r := none) fun Q hQ => ?_
  have := h_272_b (nn := nn) hY h18 (dp := dp) (D := D) (by omega) hQ
  clear hQ
  simp (disch := omega) only [Option.toList_some, Option.toList_none, List.nil_append, List.cons_append, List.append_nil, true_and, and_true, not_true_eq_false, not_false_eq_true, true_implies, false_implies, implies_true, and_self, Int.reduceLT, Int.reduceLE, Int.reduceEq, Int.reduceNe, Int.reduceAdd, Int.reduceSub, Int.reduceMul, Int.reduceNeg, Int.reduceToNat, Int.toNat_natCast, ↓kk_ck, ↓kk_im, ↓kk_in, e_272, s_272_0, R1, k_273b hY h18]
  exact this
theorem h_271_b (hY : kY Y 151) (h18 : M 112 18 ≠ -1) {dp : Int} (hD : 2 ≤ D) {Q : Option vi_V → vi_W → Prop} (hQ : Q none (Y, M, nn)) : vi_ok GG D 271 5 [some (.inr (.inr 112)), some (.inl dp)] [] (Y, M, nn) Q := by
  obtain ⟨R1, -⟩ := y_112 hY (by omega)
  rw [s_271_5]
  simp (disch := omega) only [Option.toList_some, Option.toList_none, List.nil_append, List.cons_append, List.append_nil, true_and, and_true, not_true_eq_false, not_false_eq_true, true_implies, false_implies, implies_true, and_self, Int.reduceLT, Int.reduceLE, Int.reduceEq, Int.reduceNe, Int.reduceAdd, Int.reduceSub, Int.reduceMul, Int.reduceNeg, Int.reduceToNat, Int.toNat_natCast, ↓kk_ck, ↓kk_im, ↓kk_in, s_271_0, s_271_13, s_271_21, s_271_10, s_271_18, R1, k_269, k_266b hY h18, ne_eq]
  exact hQ
theorem k_271b (hY : kY Y 151) (h18 : M 112 18 ≠ -1) {dp : Int} (hD : 5 ≤ D) : vi_call GG D 271 [.inr (.inr 112), .inl dp] (Y, M, nn) K ↔ K none (Y, M, nn) := by
  obtain ⟨D, rfl⟩ : ∃ k, D = k + 1 := ⟨D - 1, by omega⟩
  obtain ⟨R1, -⟩ := y_112 hY (by omega)
  refine vi_k (r := none) fun Q hQ => ?_
  have := h_271_b (nn := nn) hY h18 (dp := dp) (D := D) (by omega) hQ
  clear hQ
  simp (disch := omega) only [Option.toList_some, Option.toList_none, List.nil_append, List.cons_append, List.append_nil, true_and, and_true, not_true_eq_false, not_false_eq_true, true_implies, false_implies, implies_true, and_self, Int.reduceLT, Int.reduceLE, Int.reduceEq, Int.reduceNe, Int.reduceAdd, Int.reduceSub, Int.reduceMul, Int.reduceNeg, Int.reduceToNat, Int.toNat_natCast, ↓kk_ck, ↓kk_im, ↓kk_in, e_271, s_271_0, R1, k_272b hY h18]
  exact this
theorem q18 {g : Nat → Int} {i l k : Nat} : vi_rs M 112 (qRow g i l (k : Int)) 112 18 ≠ -1 := by
  rw [vi_rs_s]
  show (k : Int) ≠ -1
  omega
theorem qL6_s (hY : kY Y 151) (i0h : qM Y nn f b n t fu 276 0 0) (ihh : qL Y nn f b n t fu 275 6 1) : qL Y nn f b n t (fu + 1) 275 6 1 := by
  intro D dp i l M a r Q hg hdp hD hT h112 hi hl hQ1 hQ0
  obtain ⟨R1, -⟩ := y_112 hY (by omega)
  have T1 := fun {D : Nat} {K : Option vi_V → vi_W → Prop} (hD : 2 ≤ D) => @k_266g D K Y M nn n t b f hY hT i l h112 hi (100 + 42) hD
  have T2 := fun {D : Nat} {K : Option vi_V → vi_W → Prop} (hD : 2 ≤ D) => @k_266g D K Y M nn n t b f hY hT i l h112 hi (100 + 47) hD
  simp only [Int.reduceAdd] at T1 T2
  rw [rdP] at hg
  by_cases hc : tCd b n i = 142 ∨ tCd b n i = 147
  · rw [if_pos hc] at hg
    have hi1 := qTk_i hT hi (by omega)
    generalize hM1 : vi_rs M 112 (qRow f (i + 1) l (-1)) = M1
    have m1 : M1 112 = qRow f (i + 1) l (-1) := by rw [← hM1, vi_rs_s]
    have T1' : qTk M1 b n t := by rw [← hM1]; exact qTk_r hT
    have e1 : ∀ g, vi_rs M1 112 g = vi_rs M 112 g := fun g => by rw [← hM1, vi_rs_rs]
    have cont : vi_call GG D 276 [.inr (.inr 112), .inl (dp : Int)] (Y, M1, nn) (fun r w' => vi_ok GG D 275 34 [some (.inr (.inr 112)), some (.inl (dp : Int))] r.toList w' Q) := by
      cases hr : rdP (tCd b n) (tVl b n) fu 0 dp (i + 1) l a with
      | none => rw [hr] at hg; cases hg
      | some r0 =>
        obtain ⟨ok, i2, l2, c⟩ := r0
        rw [hr] at hg
        refine i0h D dp (i + 1) l M1 a (ok, i2, l2, c) _ hr hdp (by omega) T1' m1 hi1 hl (fun hok hii hi2 hl2 => ?_) (fun hok hi2 l' => ?_)
        · obtain rfl : ok = true := hok
          dsimp only at hg hi2 hl2 hii
          rw [e1]
          have := ihh D dp i2 l2 (vi_rs M 112 (qRow f i2 l2 (-1))) _ r Q hg hdp hD (qTk_r hT) vi_rs_s hi2 hl2 (fun h1 h2 h3 h4 => by rw [vi_rs_rs]; exact hQ1 h1 (by omega) h3 h4) (fun h1 h2 l' => by rw [vi_rs_rs]; exact hQ0 h1 h2 l')
          clear hQ1 hQ0 ihh i0h T1 T2
          simp (disch := omega) only [Option.toList_some, Option.toList_none, List.nil_append, List.cons_append, List.append_nil, true_and, and_true, not_true_eq_false, not_false_eq_true, true_implies, false_implies, implies_true, and_self, Int.reduceLT, Int.reduceLE, Int.reduceEq, Int.reduceNe, Int.reduceAdd, Int.reduceSub, Int.reduceMul, Int.reduceNeg, Int.reduceToNat, Int.toNat_natCast, ↓kk_ck, ↓kk_im, ↓kk_in, s_275_34]
          exact this
        · obtain rfl : ok = false := hok
          dsimp only at hg hi2
          cases hg
          rw [e1]
          have := h_275_b (nn := nn) hY (M := vi_rs M 112 (qRow f i2 l' (tI b n i2 : Int))) q18 (dp := (dp : Int)) (D := D) (by omega) (hQ0 rfl hi2 l')
          clear hQ1 hQ0 ihh i0h T1 T2
          simp (disch := omega) only [Option.toList_some, Option.toList_none, List.nil_append, List.cons_append, List.append_nil, true_and, and_true, not_true_eq_false, not_false_eq_true, true_implies, false_implies, implies_true, and_self, Int.reduceLT, Int.reduceLE, Int.reduceEq, Int.reduceNe, Int.reduceAdd, Int.reduceSub, Int.reduceMul, Int.reduceNeg, Int.reduceToNat, Int.toNat_natCast, ↓kk_ck, ↓kk_im, ↓kk_in, s_275_34]
          exact this
    rw [s_275_5]
    by_cases h1 : tCd b n i = 142
    · rw [decide_eq_true h1, if_pos h1, hM1] at T1
      clear hQ1 hQ0 ihh i0h hg
      simp (disch := omega) only [Option.toList_some, Option.toList_none, List.nil_append, List.cons_append, List.append_nil, true_and, and_true, not_true_eq_false, not_false_eq_true, true_implies, false_implies, implies_true, and_self, Int.reduceLT, Int.reduceLE, Int.reduceEq, Int.reduceNe, Int.reduceAdd, Int.reduceSub, Int.reduceMul, Int.reduceNeg, Int.reduceToNat, Int.toNat_natCast, ↓kk_ck, ↓kk_im, ↓kk_in, s_275_0, s_275_17, s_275_29, s_275_37, s_275_11, s_275_23, s_275_34, s_275_14, s_275_26, R1, k_269, T1, vi_bt, ne_eq]
      exact cont
    · have h2 : tCd b n i = 147 := by omega
      rw [decide_eq_false h1, if_neg h1, vi_rs_id h112] at T1
      rw [decide_eq_true h2, if_pos h2, hM1] at T2
      clear hQ1 hQ0 ihh i0h hg
      simp (disch := omega) only [Option.toList_some, Option.toList_none, List.nil_append, List.cons_append, List.append_nil, true_and, and_true, not_true_eq_false, not_false_eq_true, true_implies, false_implies, implies_true, and_self, Int.reduceLT, Int.reduceLE, Int.reduceEq, Int.reduceNe, Int.reduceAdd, Int.reduceSub, Int.reduceMul, Int.reduceNeg, Int.reduceToNat, Int.toNat_natCast, ↓kk_ck, ↓kk_im, ↓kk_in, s_275_0, s_275_17, s_275_29, s_275_37, s_275_11, s_275_23, s_275_34, s_275_14, s_275_26, R1, k_269, T1, T2, vi_bt, vi_bf, ne_eq]
      exact cont
  · rw [if_neg hc] at hg
    cases hg
    have := hQ1 rfl (Nat.le_refl _) hi hl
    rw [vi_rs_id h112] at this
    rw [decide_eq_false (fun k => hc (.inl k)), if_neg (fun k => hc (.inl k)), vi_rs_id h112] at T1
    rw [decide_eq_false (fun k => hc (.inr k)), if_neg (fun k => hc (.inr k)), vi_rs_id h112] at T2
    rw [s_275_5]
    clear hQ1 hQ0 ihh i0h
    simp (disch := omega) only [Option.toList_some, Option.toList_none, List.nil_append, List.cons_append, List.append_nil, true_and, and_true, not_true_eq_false, not_false_eq_true, true_implies, false_implies, implies_true, and_self, Int.reduceLT, Int.reduceLE, Int.reduceEq, Int.reduceNe, Int.reduceAdd, Int.reduceSub, Int.reduceMul, Int.reduceNeg, Int.reduceToNat, Int.toNat_natCast, ↓kk_ck, ↓kk_im, ↓kk_in, s_275_0, s_275_17, s_275_29, s_275_37, s_275_11, s_275_23, s_275_34, s_275_14, s_275_26, R1, k_269, T1, T2, vi_bf, ne_eq]
    exact this
theorem qL7_s (hY : kY Y 151) (i0h : qM Y nn f b n t fu 275 1 1) (ihh : qL Y nn f b n t fu 274 7 2) : qL Y nn f b n t (fu + 1) 274 7 2 := by
  intro D dp i l M a r Q hg hdp hD hT h112 hi hl hQ1 hQ0
  obtain ⟨R1, -⟩ := y_112 hY (by omega)
  have T1 := fun {D : Nat} {K : Option vi_V → vi_W → Prop} (hD : 2 ≤ D) => @k_266g D K Y M nn n t b f hY hT i l h112 hi (100 + 43) hD
  have T2 := fun {D : Nat} {K : Option vi_V → vi_W → Prop} (hD : 2 ≤ D) => @k_266g D K Y M nn n t b f hY hT i l h112 hi (100 + 45) hD
  simp only [Int.reduceAdd] at T1 T2
  rw [rdP] at hg
  by_cases hc : tCd b n i = 143 ∨ tCd b n i = 145
  · rw [if_pos hc] at hg
    have hi1 := qTk_i hT hi (by omega)
    generalize hM1 : vi_rs M 112 (qRow f (i + 1) l (-1)) = M1
    have m1 : M1 112 = qRow f (i + 1) l (-1) := by rw [← hM1, vi_rs_s]
    have T1' : qTk M1 b n t := by rw [← hM1]; exact qTk_r hT
    have e1 : ∀ g, vi_rs M1 112 g = vi_rs M 112 g := fun g => by rw [← hM1, vi_rs_rs]
    have cont : vi_call GG D 275 [.inr (.inr 112), .inl (dp : Int)] (Y, M1, nn) (fun r w' => vi_ok GG D 274 34 [some (.inr (.inr 112)), some (.inl (dp : Int))] r.toList w' Q) := by
      cases hr : rdP (tCd b n) (tVl b n) fu 1 dp (i + 1) l a with
      | none => rw [hr] at hg; cases hg
      | some r0 =>
        obtain ⟨ok, i2, l2, c⟩ := r0
        rw [hr] at hg
        refine i0h D dp (i + 1) l M1 a (ok, i2, l2, c) _ hr hdp (by omega) T1' m1 hi1 hl (fun hok hii hi2 hl2 => ?_) (fun hok hi2 l' => ?_)
        · obtain rfl : ok = true := hok
          dsimp only at hg hi2 hl2 hii
          rw [e1]
          have := ihh D dp i2 l2 (vi_rs M 112 (qRow f i2 l2 (-1))) _ r Q hg hdp hD (qTk_r hT) vi_rs_s hi2 hl2 (fun h1 h2 h3 h4 => by rw [vi_rs_rs]; exact hQ1 h1 (by omega) h3 h4) (fun h1 h2 l' => by rw [vi_rs_rs]; exact hQ0 h1 h2 l')
          clear hQ1 hQ0 ihh i0h T1 T2
          simp (disch := omega) only [Option.toList_some, Option.toList_none, List.nil_append, List.cons_append, List.append_nil, true_and, and_true, not_true_eq_false, not_false_eq_true, true_implies, false_implies, implies_true, and_self, Int.reduceLT, Int.reduceLE, Int.reduceEq, Int.reduceNe, Int.reduceAdd, Int.reduceSub, Int.reduceMul, Int.reduceNeg, Int.reduceToNat, Int.toNat_natCast, ↓kk_ck, ↓kk_im, ↓kk_in, s_274_34]
          exact this
        · obtain rfl : ok = false := hok
          dsimp only at hg hi2
          cases hg
          rw [e1]
          have := h_274_b (nn := nn) hY (M := vi_rs M 112 (qRow f i2 l' (tI b n i2 : Int))) q18 (dp := (dp : Int)) (D := D) (by omega) (hQ0 rfl hi2 l')
          clear hQ1 hQ0 ihh i0h T1 T2
          simp (disch := omega) only [Option.toList_some, Option.toList_none, List.nil_append, List.cons_append, List.append_nil, true_and, and_true, not_true_eq_false, not_false_eq_true, true_implies, false_implies, implies_true, and_self, Int.reduceLT, Int.reduceLE, Int.reduceEq, Int.reduceNe, Int.reduceAdd, Int.reduceSub, Int.reduceMul, Int.reduceNeg, Int.reduceToNat, Int.toNat_natCast, ↓kk_ck, ↓kk_im, ↓kk_in, s_274_34]
          exact this
    rw [s_274_5]
    by_cases h1 : tCd b n i = 143
    · rw [decide_eq_true h1, if_pos h1, hM1] at T1
      clear hQ1 hQ0 ihh i0h hg
      simp (disch := omega) only [Option.toList_some, Option.toList_none, List.nil_append, List.cons_append, List.append_nil, true_and, and_true, not_true_eq_false, not_false_eq_true, true_implies, false_implies, implies_true, and_self, Int.reduceLT, Int.reduceLE, Int.reduceEq, Int.reduceNe, Int.reduceAdd, Int.reduceSub, Int.reduceMul, Int.reduceNeg, Int.reduceToNat, Int.toNat_natCast, ↓kk_ck, ↓kk_im, ↓kk_in, s_274_0, s_274_17, s_274_29, s_274_37, s_274_11, s_274_23, s_274_34, s_274_14, s_274_26, R1, k_269, T1, vi_bt, ne_eq]
      exact cont
    · have h2 : tCd b n i = 145 := by omega
      rw [decide_eq_false h1, if_neg h1, vi_rs_id h112] at T1
      rw [decide_eq_true h2, if_pos h2, hM1] at T2
      clear hQ1 hQ0 ihh i0h hg
      simp (disch := omega) only [Option.toList_some, Option.toList_none, List.nil_append, List.cons_append, List.append_nil, true_and, and_true, not_true_eq_false, not_false_eq_true, true_implies, false_implies, implies_true, and_self, Int.reduceLT, Int.reduceLE, Int.reduceEq, Int.reduceNe, Int.reduceAdd, Int.reduceSub, Int.reduceMul, Int.reduceNeg, Int.reduceToNat, Int.toNat_natCast, ↓kk_ck, ↓kk_im, ↓kk_in, s_274_0, s_274_17, s_274_29, s_274_37, s_274_11, s_274_23, s_274_34, s_274_14, s_274_26, R1, k_269, T1, T2, vi_bt, vi_bf, ne_eq]
      exact cont
  · rw [if_neg hc] at hg
    cases hg
    have := hQ1 rfl (Nat.le_refl _) hi hl
    rw [vi_rs_id h112] at this
    rw [decide_eq_false (fun k => hc (.inl k)), if_neg (fun k => hc (.inl k)), vi_rs_id h112] at T1
    rw [decide_eq_false (fun k => hc (.inr k)), if_neg (fun k => hc (.inr k)), vi_rs_id h112] at T2
    rw [s_274_5]
    clear hQ1 hQ0 ihh i0h
    simp (disch := omega) only [Option.toList_some, Option.toList_none, List.nil_append, List.cons_append, List.append_nil, true_and, and_true, not_true_eq_false, not_false_eq_true, true_implies, false_implies, implies_true, and_self, Int.reduceLT, Int.reduceLE, Int.reduceEq, Int.reduceNe, Int.reduceAdd, Int.reduceSub, Int.reduceMul, Int.reduceNeg, Int.reduceToNat, Int.toNat_natCast, ↓kk_ck, ↓kk_im, ↓kk_in, s_274_0, s_274_17, s_274_29, s_274_37, s_274_11, s_274_23, s_274_34, s_274_14, s_274_26, R1, k_269, T1, T2, vi_bf, ne_eq]
    exact this
theorem qL8_s (hY : kY Y 151) (i0h : qM Y nn f b n t fu 273 3 3) (ihh : qL Y nn f b n t fu 272 8 4) : qL Y nn f b n t (fu + 1) 272 8 4 := by
  intro D dp i l M a r Q hg hdp hD hT h112 hi hl hQ1 hQ0
  obtain ⟨R1, -⟩ := y_112 hY (by omega)
  have T1 := fun {D : Nat} {K : Option vi_V → vi_W → Prop} (hD : 2 ≤ D) => @k_266g D K Y M nn n t b f hY hT i l h112 hi 6 hD
  rw [rdP] at hg
  by_cases hc : tCd b n i = 6
  · rw [if_pos hc] at hg
    have hi1 := qTk_i hT hi (by omega)
    generalize hM1 : vi_rs M 112 (qRow f (i + 1) l (-1)) = M1
    have m1 : M1 112 = qRow f (i + 1) l (-1) := by rw [← hM1, vi_rs_s]
    have T1' : qTk M1 b n t := by rw [← hM1]; exact qTk_r hT
    have e1 : ∀ g, vi_rs M1 112 g = vi_rs M 112 g := fun g => by rw [← hM1, vi_rs_rs]
    have cont : vi_call GG D 273 [.inr (.inr 112), .inl (dp : Int)] (Y, M1, nn) (fun r w' => vi_ok GG D 272 19 [some (.inr (.inr 112)), some (.inl (dp : Int))] r.toList w' Q) := by
      cases hr : rdP (tCd b n) (tVl b n) fu 3 dp (i + 1) l a with
      | none => rw [hr] at hg; cases hg
      | some r0 =>
        obtain ⟨ok, i2, l2, c⟩ := r0
        rw [hr] at hg
        refine i0h D dp (i + 1) l M1 a (ok, i2, l2, c) _ hr hdp (by omega) T1' m1 hi1 hl (fun hok hii hi2 hl2 => ?_) (fun hok hi2 l' => ?_)
        · obtain rfl : ok = true := hok
          dsimp only at hg hi2 hl2 hii
          rw [e1]
          have := ihh D dp i2 l2 (vi_rs M 112 (qRow f i2 l2 (-1))) _ r Q hg hdp hD (qTk_r hT) vi_rs_s hi2 hl2 (fun h1 h2 h3 h4 => by rw [vi_rs_rs]; exact hQ1 h1 (by omega) h3 h4) (fun h1 h2 l' => by rw [vi_rs_rs]; exact hQ0 h1 h2 l')
          clear hQ1 hQ0 ihh i0h T1
          simp (disch := omega) only [Option.toList_some, Option.toList_none, List.nil_append, List.cons_append, List.append_nil, true_and, and_true, not_true_eq_false, not_false_eq_true, true_implies, false_implies, implies_true, and_self, Int.reduceLT, Int.reduceLE, Int.reduceEq, Int.reduceNe, Int.reduceAdd, Int.reduceSub, Int.reduceMul, Int.reduceNeg, Int.reduceToNat, Int.toNat_natCast, ↓kk_ck, ↓kk_im, ↓kk_in, s_272_19]
          exact this
        · obtain rfl : ok = false := hok
          dsimp only at hg hi2
          cases hg
          rw [e1]
          have := h_272_b (nn := nn) hY (M := vi_rs M 112 (qRow f i2 l' (tI b n i2 : Int))) q18 (dp := (dp : Int)) (D := D) (by omega) (hQ0 rfl hi2 l')
          clear hQ1 hQ0 ihh i0h T1
          simp (disch := omega) only [Option.toList_some, Option.toList_none, List.nil_append, List.cons_append, List.append_nil, true_and, and_true, not_true_eq_false, not_false_eq_true, true_implies, false_implies, implies_true, and_self, Int.reduceLT, Int.reduceLE, Int.reduceEq, Int.reduceNe, Int.reduceAdd, Int.reduceSub, Int.reduceMul, Int.reduceNeg, Int.reduceToNat, Int.toNat_natCast, ↓kk_ck, ↓kk_im, ↓kk_in, s_272_19]
          exact this
    rw [s_272_5]
    rw [decide_eq_true hc, if_pos hc, hM1] at T1
    clear hQ1 hQ0 ihh i0h hg
    simp (disch := omega) only [Option.toList_some, Option.toList_none, List.nil_append, List.cons_append, List.append_nil, true_and, and_true, not_true_eq_false, not_false_eq_true, true_implies, false_implies, implies_true, and_self, Int.reduceLT, Int.reduceLE, Int.reduceEq, Int.reduceNe, Int.reduceAdd, Int.reduceSub, Int.reduceMul, Int.reduceNeg, Int.reduceToNat, Int.toNat_natCast, ↓kk_ck, ↓kk_im, ↓kk_in, s_272_0, s_272_14, s_272_22, s_272_11, s_272_19, R1, T1, vi_bt, ne_eq]
    exact cont
  · rw [if_neg hc] at hg
    cases hg
    have := hQ1 rfl (Nat.le_refl _) hi hl
    rw [vi_rs_id h112] at this
    rw [decide_eq_false hc, if_neg hc, vi_rs_id h112] at T1
    rw [s_272_5]
    clear hQ1 hQ0 ihh i0h
    simp (disch := omega) only [Option.toList_some, Option.toList_none, List.nil_append, List.cons_append, List.append_nil, true_and, and_true, not_true_eq_false, not_false_eq_true, true_implies, false_implies, implies_true, and_self, Int.reduceLT, Int.reduceLE, Int.reduceEq, Int.reduceNe, Int.reduceAdd, Int.reduceSub, Int.reduceMul, Int.reduceNeg, Int.reduceToNat, Int.toNat_natCast, ↓kk_ck, ↓kk_im, ↓kk_in, s_272_0, s_272_14, s_272_22, s_272_11, s_272_19, R1, T1, vi_bf, ne_eq]
    exact this
theorem qL9_s (hY : kY Y 151) (i0h : qM Y nn f b n t fu 272 4 4) (ihh : qL Y nn f b n t fu 271 9 5) : qL Y nn f b n t (fu + 1) 271 9 5 := by
  intro D dp i l M a r Q hg hdp hD hT h112 hi hl hQ1 hQ0
  obtain ⟨R1, -⟩ := y_112 hY (by omega)
  have T1 := fun {D : Nat} {K : Option vi_V → vi_W → Prop} (hD : 2 ≤ D) => @k_266g D K Y M nn n t b f hY hT i l h112 hi 5 hD
  rw [rdP] at hg
  by_cases hc : tCd b n i = 5
  · rw [if_pos hc] at hg
    have hi1 := qTk_i hT hi (by omega)
    generalize hM1 : vi_rs M 112 (qRow f (i + 1) l (-1)) = M1
    have m1 : M1 112 = qRow f (i + 1) l (-1) := by rw [← hM1, vi_rs_s]
    have T1' : qTk M1 b n t := by rw [← hM1]; exact qTk_r hT
    have e1 : ∀ g, vi_rs M1 112 g = vi_rs M 112 g := fun g => by rw [← hM1, vi_rs_rs]
    have cont : vi_call GG D 272 [.inr (.inr 112), .inl (dp : Int)] (Y, M1, nn) (fun r w' => vi_ok GG D 271 18 [some (.inr (.inr 112)), some (.inl (dp : Int))] r.toList w' Q) := by
      cases hr : rdP (tCd b n) (tVl b n) fu 4 dp (i + 1) l a with
      | none => rw [hr] at hg; cases hg
      | some r0 =>
        obtain ⟨ok, i2, l2, c⟩ := r0
        rw [hr] at hg
        refine i0h D dp (i + 1) l M1 a (ok, i2, l2, c) _ hr hdp (by omega) T1' m1 hi1 hl (fun hok hii hi2 hl2 => ?_) (fun hok hi2 l' => ?_)
        · obtain rfl : ok = true := hok
          dsimp only at hg hi2 hl2 hii
          rw [e1]
          have := ihh D dp i2 l2 (vi_rs M 112 (qRow f i2 l2 (-1))) _ r Q hg hdp hD (qTk_r hT) vi_rs_s hi2 hl2 (fun h1 h2 h3 h4 => by rw [vi_rs_rs]; exact hQ1 h1 (by omega) h3 h4) (fun h1 h2 l' => by rw [vi_rs_rs]; exact hQ0 h1 h2 l')
          clear hQ1 hQ0 ihh i0h T1
          simp (disch := omega) only [Option.toList_some, Option.toList_none, List.nil_append, List.cons_append, List.append_nil, true_and, and_true, not_true_eq_false, not_false_eq_true, true_implies, false_implies, implies_true, and_self, Int.reduceLT, Int.reduceLE, Int.reduceEq, Int.reduceNe, Int.reduceAdd, Int.reduceSub, Int.reduceMul, Int.reduceNeg, Int.reduceToNat, Int.toNat_natCast, ↓kk_ck, ↓kk_im, ↓kk_in, s_271_18]
          exact this
        · obtain rfl : ok = false := hok
          dsimp only at hg hi2
          cases hg
          rw [e1]
          have := h_271_b (nn := nn) hY (M := vi_rs M 112 (qRow f i2 l' (tI b n i2 : Int))) q18 (dp := (dp : Int)) (D := D) (by omega) (hQ0 rfl hi2 l')
          clear hQ1 hQ0 ihh i0h T1
          simp (disch := omega) only [Option.toList_some, Option.toList_none, List.nil_append, List.cons_append, List.append_nil, true_and, and_true, not_true_eq_false, not_false_eq_true, true_implies, false_implies, implies_true, and_self, Int.reduceLT, Int.reduceLE, Int.reduceEq, Int.reduceNe, Int.reduceAdd, Int.reduceSub, Int.reduceMul, Int.reduceNeg, Int.reduceToNat, Int.toNat_natCast, ↓kk_ck, ↓kk_im, ↓kk_in, s_271_18]
          exact this
    rw [s_271_5]
    rw [decide_eq_true hc, if_pos hc, hM1] at T1
    clear hQ1 hQ0 ihh i0h hg
    simp (disch := omega) only [Option.toList_some, Option.toList_none, List.nil_append, List.cons_append, List.append_nil, true_and, and_true, not_true_eq_false, not_false_eq_true, true_implies, false_implies, implies_true, and_self, Int.reduceLT, Int.reduceLE, Int.reduceEq, Int.reduceNe, Int.reduceAdd, Int.reduceSub, Int.reduceMul, Int.reduceNeg, Int.reduceToNat, Int.toNat_natCast, ↓kk_ck, ↓kk_im, ↓kk_in, s_271_0, s_271_13, s_271_21, s_271_10, s_271_18, R1, T1, vi_bt, ne_eq]
    exact cont
  · rw [if_neg hc] at hg
    cases hg
    have := hQ1 rfl (Nat.le_refl _) hi hl
    rw [vi_rs_id h112] at this
    rw [decide_eq_false hc, if_neg hc, vi_rs_id h112] at T1
    rw [s_271_5]
    clear hQ1 hQ0 ihh i0h
    simp (disch := omega) only [Option.toList_some, Option.toList_none, List.nil_append, List.cons_append, List.append_nil, true_and, and_true, not_true_eq_false, not_false_eq_true, true_implies, false_implies, implies_true, and_self, Int.reduceLT, Int.reduceLE, Int.reduceEq, Int.reduceNe, Int.reduceAdd, Int.reduceSub, Int.reduceMul, Int.reduceNeg, Int.reduceToNat, Int.toNat_natCast, ↓kk_ck, ↓kk_im, ↓kk_in, s_271_0, s_271_13, s_271_21, s_271_10, s_271_18, R1, T1, vi_bf, ne_eq]
    exact this
theorem qM1_s (hY : kY Y 151) (i0h : qM Y nn f b n t fu 276 0 0) (ihh : qL Y nn f b n t fu 275 6 1) : qM Y nn f b n t (fu + 1) 275 1 1 := by
  intro D dp i l M a r Q hg hdp hD hT h112 hi hl hQ1 hQ0
  obtain ⟨R1, -⟩ := y_112 hY (by omega)
  obtain ⟨D, rfl⟩ : ∃ k, D = k + 1 := ⟨D - 1, by omega⟩
  rw [rdP] at hg
  have cont : vi_call GG D 276 [.inr (.inr 112), .inl (dp : Int)] (Y, M, nn) (fun r w' => vi_ok GG D 275 5 [some (.inr (.inr 112)), some (.inl (dp : Int))] r.toList w' Q) := by
    cases hr : rdP (tCd b n) (tVl b n) fu 0 dp i l a with
    | none => rw [hr] at hg; cases hg
    | some r0 =>
      obtain ⟨ok, i2, l2, c⟩ := r0
      rw [hr] at hg
      refine i0h D dp i l M a (ok, i2, l2, c) _ hr hdp (by omega) hT h112 hi hl (fun hok hii hi2 hl2 => ?_) (fun hok hi2 l' => ?_)
      · obtain rfl : ok = true := hok
        dsimp only at hg hi2 hl2 hii
        exact ihh D dp i2 l2 (vi_rs M 112 (qRow f i2 l2 (-1))) _ r Q hg hdp (by omega) (qTk_r hT) vi_rs_s hi2 hl2 (fun h1 h2 h3 h4 => by rw [vi_rs_rs]; exact hQ1 h1 (by omega) h3 h4) (fun h1 h2 l' => by rw [vi_rs_rs]; exact hQ0 h1 h2 l')
      · obtain rfl : ok = false := hok
        dsimp only at hg hi2
        cases hg
        exact h_275_b (nn := nn) hY (M := vi_rs M 112 (qRow f i2 l' (tI b n i2 : Int))) q18 (dp := (dp : Int)) (D := D) (by omega) (hQ0 rfl hi2 l')
  clear hQ1 hQ0 ihh i0h hg
  simp (disch := omega) only [Option.toList_some, Option.toList_none, List.nil_append, List.cons_append, List.append_nil, true_and, and_true, not_true_eq_false, not_false_eq_true, true_implies, false_implies, implies_true, and_self, Int.reduceLT, Int.reduceLE, Int.reduceEq, Int.reduceNe, Int.reduceAdd, Int.reduceSub, Int.reduceMul, Int.reduceNeg, Int.reduceToNat, Int.toNat_natCast, ↓kk_ck, ↓kk_im, ↓kk_in, e_275, s_275_0, R1]
  exact cont
theorem qM2_s (hY : kY Y 151) (i0h : qM Y nn f b n t fu 275 1 1) (ihh : qL Y nn f b n t fu 274 7 2) : qM Y nn f b n t (fu + 1) 274 2 2 := by
  intro D dp i l M a r Q hg hdp hD hT h112 hi hl hQ1 hQ0
  obtain ⟨R1, -⟩ := y_112 hY (by omega)
  obtain ⟨D, rfl⟩ : ∃ k, D = k + 1 := ⟨D - 1, by omega⟩
  rw [rdP] at hg
  have cont : vi_call GG D 275 [.inr (.inr 112), .inl (dp : Int)] (Y, M, nn) (fun r w' => vi_ok GG D 274 5 [some (.inr (.inr 112)), some (.inl (dp : Int))] r.toList w' Q) := by
    cases hr : rdP (tCd b n) (tVl b n) fu 1 dp i l a with
    | none => rw [hr] at hg; cases hg
    | some r0 =>
      obtain ⟨ok, i2, l2, c⟩ := r0
      rw [hr] at hg
      refine i0h D dp i l M a (ok, i2, l2, c) _ hr hdp (by omega) hT h112 hi hl (fun hok hii hi2 hl2 => ?_) (fun hok hi2 l' => ?_)
      · obtain rfl : ok = true := hok
        dsimp only at hg hi2 hl2 hii
        exact ihh D dp i2 l2 (vi_rs M 112 (qRow f i2 l2 (-1))) _ r Q hg hdp (by omega) (qTk_r hT) vi_rs_s hi2 hl2 (fun h1 h2 h3 h4 => by rw [vi_rs_rs]; exact hQ1 h1 (by omega) h3 h4) (fun h1 h2 l' => by rw [vi_rs_rs]; exact hQ0 h1 h2 l')
      · obtain rfl : ok = false := hok
        dsimp only at hg hi2
        cases hg
        exact h_274_b (nn := nn) hY (M := vi_rs M 112 (qRow f i2 l' (tI b n i2 : Int))) q18 (dp := (dp : Int)) (D := D) (by omega) (hQ0 rfl hi2 l')
  clear hQ1 hQ0 ihh i0h hg
  simp (disch := omega) only [Option.toList_some, Option.toList_none, List.nil_append, List.cons_append, List.append_nil, true_and, and_true, not_true_eq_false, not_false_eq_true, true_implies, false_implies, implies_true, and_self, Int.reduceLT, Int.reduceLE, Int.reduceEq, Int.reduceNe, Int.reduceAdd, Int.reduceSub, Int.reduceMul, Int.reduceNeg, Int.reduceToNat, Int.toNat_natCast, ↓kk_ck, ↓kk_im, ↓kk_in, e_274, s_274_0, R1]
  exact cont
theorem qM4_s (hY : kY Y 151) (i0h : qM Y nn f b n t fu 273 3 3) (ihh : qL Y nn f b n t fu 272 8 4) : qM Y nn f b n t (fu + 1) 272 4 4 := by
  intro D dp i l M a r Q hg hdp hD hT h112 hi hl hQ1 hQ0
  obtain ⟨R1, -⟩ := y_112 hY (by omega)
  obtain ⟨D, rfl⟩ : ∃ k, D = k + 1 := ⟨D - 1, by omega⟩
  rw [rdP] at hg
  have cont : vi_call GG D 273 [.inr (.inr 112), .inl (dp : Int)] (Y, M, nn) (fun r w' => vi_ok GG D 272 5 [some (.inr (.inr 112)), some (.inl (dp : Int))] r.toList w' Q) := by
    cases hr : rdP (tCd b n) (tVl b n) fu 3 dp i l a with
    | none => rw [hr] at hg; cases hg
    | some r0 =>
      obtain ⟨ok, i2, l2, c⟩ := r0
      rw [hr] at hg
      refine i0h D dp i l M a (ok, i2, l2, c) _ hr hdp (by omega) hT h112 hi hl (fun hok hii hi2 hl2 => ?_) (fun hok hi2 l' => ?_)
      · obtain rfl : ok = true := hok
        dsimp only at hg hi2 hl2 hii
        exact ihh D dp i2 l2 (vi_rs M 112 (qRow f i2 l2 (-1))) _ r Q hg hdp (by omega) (qTk_r hT) vi_rs_s hi2 hl2 (fun h1 h2 h3 h4 => by rw [vi_rs_rs]; exact hQ1 h1 (by omega) h3 h4) (fun h1 h2 l' => by rw [vi_rs_rs]; exact hQ0 h1 h2 l')
      · obtain rfl : ok = false := hok
        dsimp only at hg hi2
        cases hg
        exact h_272_b (nn := nn) hY (M := vi_rs M 112 (qRow f i2 l' (tI b n i2 : Int))) q18 (dp := (dp : Int)) (D := D) (by omega) (hQ0 rfl hi2 l')
  clear hQ1 hQ0 ihh i0h hg
  simp (disch := omega) only [Option.toList_some, Option.toList_none, List.nil_append, List.cons_append, List.append_nil, true_and, and_true, not_true_eq_false, not_false_eq_true, true_implies, false_implies, implies_true, and_self, Int.reduceLT, Int.reduceLE, Int.reduceEq, Int.reduceNe, Int.reduceAdd, Int.reduceSub, Int.reduceMul, Int.reduceNeg, Int.reduceToNat, Int.toNat_natCast, ↓kk_ck, ↓kk_im, ↓kk_in, e_272, s_272_0, R1]
  exact cont
theorem qM5_s (hY : kY Y 151) (i0h : qM Y nn f b n t fu 272 4 4) (ihh : qL Y nn f b n t fu 271 9 5) : qM Y nn f b n t (fu + 1) 271 5 5 := by
  intro D dp i l M a r Q hg hdp hD hT h112 hi hl hQ1 hQ0
  obtain ⟨R1, -⟩ := y_112 hY (by omega)
  obtain ⟨D, rfl⟩ : ∃ k, D = k + 1 := ⟨D - 1, by omega⟩
  rw [rdP] at hg
  have cont : vi_call GG D 272 [.inr (.inr 112), .inl (dp : Int)] (Y, M, nn) (fun r w' => vi_ok GG D 271 5 [some (.inr (.inr 112)), some (.inl (dp : Int))] r.toList w' Q) := by
    cases hr : rdP (tCd b n) (tVl b n) fu 4 dp i l a with
    | none => rw [hr] at hg; cases hg
    | some r0 =>
      obtain ⟨ok, i2, l2, c⟩ := r0
      rw [hr] at hg
      refine i0h D dp i l M a (ok, i2, l2, c) _ hr hdp (by omega) hT h112 hi hl (fun hok hii hi2 hl2 => ?_) (fun hok hi2 l' => ?_)
      · obtain rfl : ok = true := hok
        dsimp only at hg hi2 hl2 hii
        exact ihh D dp i2 l2 (vi_rs M 112 (qRow f i2 l2 (-1))) _ r Q hg hdp (by omega) (qTk_r hT) vi_rs_s hi2 hl2 (fun h1 h2 h3 h4 => by rw [vi_rs_rs]; exact hQ1 h1 (by omega) h3 h4) (fun h1 h2 l' => by rw [vi_rs_rs]; exact hQ0 h1 h2 l')
      · obtain rfl : ok = false := hok
        dsimp only at hg hi2
        cases hg
        exact h_271_b (nn := nn) hY (M := vi_rs M 112 (qRow f i2 l' (tI b n i2 : Int))) q18 (dp := (dp : Int)) (D := D) (by omega) (hQ0 rfl hi2 l')
  clear hQ1 hQ0 ihh i0h hg
  simp (disch := omega) only [Option.toList_some, Option.toList_none, List.nil_append, List.cons_append, List.append_nil, true_and, and_true, not_true_eq_false, not_false_eq_true, true_implies, false_implies, implies_true, and_self, Int.reduceLT, Int.reduceLE, Int.reduceEq, Int.reduceNe, Int.reduceAdd, Int.reduceSub, Int.reduceMul, Int.reduceNeg, Int.reduceToNat, Int.toNat_natCast, ↓kk_ck, ↓kk_im, ↓kk_in, e_271, s_271_0, R1]
  exact cont
end
