/-! view, isDark, mostOf, hasCell, canBe (reference). -/
/-- a row seen dark -/
def dkI (f : Nat → Int) (a u v : Int) : Bool := decide (f (172 + 36 * a + 6 * v + u).toNat = 1)
/-- a CELL that no bright row passes -/
def moB (f : Nat → Int) (c : Nat) : Bool := mIcb f (c : Int) && dkI f 0 ((c / 6 % 6 : Nat) : Int) ((c / 36 : Nat) : Int) && dkI f 1 ((c % 6 : Nat) : Int) ((c / 36 : Nat) : Int) && dkI f 2 ((c % 6 : Nat) : Int) ((c / 6 % 6 : Nat) : Int)
/-- a CELL of this kind on a row, among the first k -/
def hcB (g : Nat → Int) (a : Nat) (u v : Int) : Nat → Bool
  | 0 => false
  | k + 1 => hcB g a u v k || decide (g (mHa a u v (k : Int)).toNat ≠ 0)
def dkL (M : vi_M) (l : Nat) : Bool := dkI (M 114) (M 130 l) (M 131 l) (M 132 l)
def hcL (M : vi_M) (l : Nat) : Bool := hcB (M 136) (M 130 l).toNat (M 131 l) (M 132 l) (M 114 (96 + (M 130 l).toNat)).toNat
/-- all dark rows have such a CELL, among the first l -/
def cnB (M : vi_M) : Nat → Bool
  | 0 => true
  | l + 1 => cnB M l && !(dkL M l && !hcL M l)
section
variable {D : Nat} {K : Option vi_V → vi_W → Prop} {Y : vi_Y} {M : vi_M} {nn : Nat × Nat} {Q : Option vi_V → vi_W → Prop}
theorem k_319n (hY : kY Y 151) {a u v x : Int} (h : ¬ ((0 ≤ a ∧ a ≤ 2) ∧ (0 ≤ u ∧ u ≤ 5) ∧ (0 ≤ v ∧ v ≤ 5) ∧ 0 ≤ x ∧ x ≤ 1)) (hc : 0 ≤ M 113 1 ∧ M 113 1 < 2147483647) (hD : 2 ≤ D) : vi_call GG D 319 [.inr (.inr 112), .inl a, .inl u, .inl v, .inl x] (Y, M, nn) K ↔ K (some (.inl (-1))) (Y, vi_rs (vi_rs M 112 (vi_u (M 112) 0 (-1))) 113 (vi_u (M 113) 1 (M 113 1 + 1)), nn) := by
  obtain ⟨D, rfl⟩ : ∃ k, D = k + 1 := ⟨D - 1, by omega⟩
  obtain ⟨R1, -⟩ := y_112 hY (by omega)
  refine vi_k (r := some (.inl _)) fun Q hQ => ?_
  have A := fun {D : Nat} {K : Option vi_V → vi_W → Prop} (hD : 1 ≤ D) => @k_235 D K Y M nn hY (-1) (by omega) (by exact hc) hD
  by_cases h1 : 0 ≤ a ∧ a ≤ 2
  · by_cases h2 : 0 ≤ u ∧ u ≤ 5
    · by_cases h3 : 0 ≤ v ∧ v ≤ 5
      · have h4 : ¬ (0 ≤ x ∧ x ≤ 1) := fun k => h ⟨h1, h2, h3, k⟩
        simp (disch := omega) only [Option.toList_some, Option.toList_none, List.nil_append, List.cons_append, List.append_nil, true_and, and_true, not_true_eq_false, not_false_eq_true, true_implies, false_implies, implies_true, and_self, Int.reduceLT, Int.reduceLE, Int.reduceEq, Int.reduceNe, Int.reduceAdd, Int.reduceSub, Int.reduceMul, Int.reduceNeg, Int.reduceToNat, Int.toNat_natCast, ↓kk_ck, ↓kk_im, ↓kk_in, e_319, s_319_0, s_319_6, s_319_9, s_319_15, s_319_18, s_319_24, s_319_27, s_319_34, s_319_37, s_319_42, R1, k_234t h1, k_234t h2, k_234t h3, k_234f h4, A, ne_eq]
        exact hQ
      · simp (disch := omega) only [Option.toList_some, Option.toList_none, List.nil_append, List.cons_append, List.append_nil, true_and, and_true, not_true_eq_false, not_false_eq_true, true_implies, false_implies, implies_true, and_self, Int.reduceLT, Int.reduceLE, Int.reduceEq, Int.reduceNe, Int.reduceAdd, Int.reduceSub, Int.reduceMul, Int.reduceNeg, Int.reduceToNat, Int.toNat_natCast, ↓kk_ck, ↓kk_im, ↓kk_in, e_319, s_319_0, s_319_6, s_319_9, s_319_15, s_319_18, s_319_24, s_319_37, s_319_42, R1, k_234t h1, k_234t h2, k_234f h3, A, ne_eq]
        exact hQ
    · simp (disch := omega) only [Option.toList_some, Option.toList_none, List.nil_append, List.cons_append, List.append_nil, true_and, and_true, not_true_eq_false, not_false_eq_true, true_implies, false_implies, implies_true, and_self, Int.reduceLT, Int.reduceLE, Int.reduceEq, Int.reduceNe, Int.reduceAdd, Int.reduceSub, Int.reduceMul, Int.reduceNeg, Int.reduceToNat, Int.toNat_natCast, ↓kk_ck, ↓kk_im, ↓kk_in, e_319, s_319_0, s_319_6, s_319_9, s_319_15, s_319_37, s_319_42, R1, k_234t h1, k_234f h2, A, ne_eq]
      exact hQ
  · simp (disch := omega) only [Option.toList_some, Option.toList_none, List.nil_append, List.cons_append, List.append_nil, true_and, and_true, not_true_eq_false, not_false_eq_true, true_implies, false_implies, implies_true, and_self, Int.reduceLT, Int.reduceLE, Int.reduceEq, Int.reduceNe, Int.reduceAdd, Int.reduceSub, Int.reduceMul, Int.reduceNeg, Int.reduceToNat, Int.toNat_natCast, ↓kk_ck, ↓kk_im, ↓kk_in, e_319, s_319_0, s_319_6, s_319_37, s_319_42, R1, k_234f h1, A, ne_eq]
    exact hQ
theorem dkw {a u v : Int} (ha : 0 ≤ a ∧ a ≤ 2) (hu : 0 ≤ u ∧ u ≤ 5) (hv : 0 ≤ v ∧ v ≤ 5) : vi_w32 ((vi_w32 ((vi_w32 ((172 : Int) + (vi_w32 ((36 : Int) * a)))) + (vi_w32 ((6 : Int) * v)))) + u) = 172 + 36 * a + 6 * v + u := by
  rw [@vi_32 (36 * a) (by omega) (by omega), @vi_32 (6 * v) (by omega) (by omega), @vi_32 (172 + 36 * a) (by omega) (by omega), @vi_32 (172 + 36 * a + 6 * v) (by omega) (by omega), vi_32 (by omega) (by omega)]
theorem k_319 (hY : kY Y 151) {a u v x : Int} (h1 : 0 ≤ a ∧ a ≤ 2) (h2 : 0 ≤ u ∧ u ≤ 5) (h3 : 0 ≤ v ∧ v ≤ 5) (h4 : 0 ≤ x ∧ x ≤ 1) (hc : 0 ≤ M 112 1 ∧ M 112 1 < 2147483647) (hD : 2 ≤ D) : vi_call GG D 319 [.inr (.inr 112), .inl a, .inl u, .inl v, .inl x] (Y, M, nn) K ↔ K (some (.inl (M 114 (172 + 36 * a + 6 * v + u).toNat))) (Y, vi_rs (vi_rs M 114 (vi_u (M 114) (172 + 36 * a + 6 * v + u).toNat x)) 112 (vi_u (vi_u (M 112) 0 0) 1 (M 112 1 + 1)), nn) := by
  obtain ⟨D, rfl⟩ : ∃ k, D = k + 1 := ⟨D - 1, by omega⟩
  obtain ⟨R1, -, R3, -⟩ := y_112 hY (by omega)
  obtain ⟨w1, w2⟩ := y_114 hY (by omega)
  refine vi_k (r := some (.inl _)) fun Q hQ => ?_
  have ew := dkw h1 h2 h3
  obtain ⟨i, hi⟩ : ∃ i : Int, i = 172 + 36 * a + 6 * v + u := ⟨_, rfl⟩
  rw [← hi] at ew hQ
  have A := fun {D : Nat} {K : Option vi_V → vi_W → Prop} (hD : 1 ≤ D) => @k_236 D K Y (vi_rs M 114 (vi_u (M 114) i.toNat x)) nn hY (M 114 i.toNat) (by rw [vi_rs_o (by omega)]; exact hc) hD
  rw [vi_rs_o (by omega)] at A
  simp (disch := omega) only [Option.toList_some, Option.toList_none, List.nil_append, List.cons_append, List.append_nil, true_and, and_true, not_true_eq_false, not_false_eq_true, true_implies, false_implies, implies_true, and_self, Int.reduceLT, Int.reduceLE, Int.reduceEq, Int.reduceNe, Int.reduceAdd, Int.reduceSub, Int.reduceMul, Int.reduceNeg, Int.reduceToNat, Int.toNat_natCast, ↓kk_ck, ↓kk_im, ↓kk_in, e_319, s_319_0, s_319_6, s_319_9, s_319_15, s_319_18, s_319_24, s_319_27, s_319_34, s_319_43, s_319_64, s_319_67, s_319_73, s_319_78, s_319_84, R1, R3, w1, w2, k_234t h1, k_234t h2, k_234t h3, k_234t h4, ew, vi_ms_rs, A, ne_eq]
  exact hQ
theorem k_320 (hY : kY Y 151) {a u v : Int} (h1 : 0 ≤ a ∧ a ≤ 2) (h2 : 0 ≤ u ∧ u ≤ 5) (h3 : 0 ≤ v ∧ v ≤ 5) (hD : 1 ≤ D) : vi_call GG D 320 [.inr (.inr 112), .inl a, .inl u, .inl v] (Y, M, nn) K ↔ K (some (.inl (vi_b (dkI (M 114) a u v)))) (Y, M, nn) := by
  obtain ⟨D, rfl⟩ : ∃ k, D = k + 1 := ⟨D - 1, by omega⟩
  obtain ⟨R1, -, R3, -⟩ := y_112 hY (by omega)
  obtain ⟨w1, w2⟩ := y_114 hY (by omega)
  refine vi_k (r := some (.inl _)) fun Q hQ => ?_
  have ew := dkw h1 h2 h3
  unfold dkI at hQ
  obtain ⟨i, hi⟩ : ∃ i : Int, i = 172 + 36 * a + 6 * v + u := ⟨_, rfl⟩
  rw [← hi] at ew hQ
  by_cases q : M 114 i.toNat = 1
  · rw [decide_eq_true q] at hQ
    simp (disch := omega) only [Option.toList_some, Option.toList_none, List.nil_append, List.cons_append, List.append_nil, true_and, and_true, not_true_eq_false, not_false_eq_true, true_implies, false_implies, implies_true, and_self, Int.reduceLT, Int.reduceLE, Int.reduceEq, Int.reduceNe, Int.reduceAdd, Int.reduceSub, Int.reduceMul, Int.reduceNeg, Int.reduceToNat, Int.toNat_natCast, ↓kk_ck, ↓kk_im, ↓kk_in, e_320, s_320_0, s_320_4, s_320_19, s_320_20, s_320_24, s_320_29, R1, R3, w1, w2, ew, q, ne_eq]
    exact hQ
  · rw [decide_eq_false q] at hQ
    simp (disch := omega) only [Option.toList_some, Option.toList_none, List.nil_append, List.cons_append, List.append_nil, true_and, and_true, not_true_eq_false, not_false_eq_true, true_implies, false_implies, implies_true, and_self, Int.reduceLT, Int.reduceLE, Int.reduceEq, Int.reduceNe, Int.reduceAdd, Int.reduceSub, Int.reduceMul, Int.reduceNeg, Int.reduceToNat, Int.toNat_natCast, ↓kk_ck, ↓kk_im, ↓kk_in, e_320, s_320_0, s_320_4, s_320_19, s_320_20, s_320_28, s_320_29, R1, R3, w1, w2, ew, q, ne_eq]
    exact hQ
theorem k_321 (hY : kY Y 151) (hD : 3 ≤ D) : vi_call GG D 321 [.inr (.inr 112)] (Y, M, nn) K ↔ K (some (.inl (sN 216 (moB (M 114)) : Int))) (Y, vi_rs M 136 (vi_m 216 (fun c => vi_b (moB (M 114) c)) (M 136)), nn) := by
  obtain ⟨D, rfl⟩ : ∃ k, D = k + 1 := ⟨D - 1, by omega⟩
  obtain ⟨R1, -, R3, -, -, -, -, -, -, -, -, -, -, -, -, -, -, -, -, -, -, -, -, -, R47, -⟩ := y_112 hY (by omega)
  obtain ⟨w1, w2⟩ := y_136 hY (by omega)
  refine vi_k (r := some (.inl _)) fun Q hQ => ?_
  have loop : ∀ c : Nat, c ≤ 216 → vi_ok GG D 321 4 [some (.inr (.inr 112)), some (.inl (sN c (moB (M 114)) : Int)), some (.inl (c : Int))] [] (Y, vi_rs M 136 (vi_m c (fun c => vi_b (moB (M 114) c)) (M 136)), nn) Q := by
    refine vi_dn 216 ?_ fun c hc ih => ?_
    · rw [s_321_4]
      simp (disch := omega) only [Option.toList_some, Option.toList_none, List.nil_append, List.cons_append, List.append_nil, true_and, and_true, not_true_eq_false, not_false_eq_true, true_implies, false_implies, implies_true, and_self, Int.reduceLT, Int.reduceLE, Int.reduceEq, Int.reduceNe, Int.reduceAdd, Int.reduceSub, Int.reduceMul, Int.reduceNeg, Int.reduceToNat, Int.toNat_natCast, ↓kk_ck, ↓kk_im, ↓kk_in, s_321_107]
      exact hQ
    · clear hQ
      generalize hM1 : vi_rs M 136 (vi_m c (fun c => vi_b (moB (M 114) c)) (M 136)) = M1
      have e114 : M1 114 = M 114 := by rw [← hM1, vi_rs_o (by omega)]
      have hle := sN_le c (moB (M 114))
      have st : ∀ b : Bool, b = moB (M 114) c → vi_ok GG D 321 83 [some (.inr (.inr 112)), some (.inl (sN c (moB (M 114)) : Int)), some (.inl (c : Int))] [.inl (vi_b b), .inl (c : Int), .inr (.inr 136)] (Y, M1, nn) Q := by
        intro b hb
        rw [sN, ← hb] at ih
        have em : vi_rs M1 136 (vi_u (M1 136) c (vi_b b)) = vi_rs M 136 (vi_m (c + 1) (fun c => vi_b (moB (M 114) c)) (M 136)) := by
          rw [← hM1, vi_rs_rs, vi_rs_s, vi_m_s (by rw [hb])]
        have e136 : vi_rs M 136 (vi_m (c + 1) (fun c => vi_b (moB (M 114) c)) (M 136)) 136 c = vi_b b := by rw [vi_rs_s, vi_m_lt (by omega), hb]
        cases b
        · have e136' : vi_rs M 136 (vi_m (c + 1) (fun c => vi_b (moB (M 114) c)) (M 136)) 136 c = 0 := e136
          have ih' : vi_ok GG D 321 4 [some (.inr (.inr 112)), some (.inl (sN c (moB (M 114)) : Int)), some (.inl ((c + 1 : Nat) : Int))] [] (Y, vi_rs M 136 (vi_m (c + 1) (fun c => vi_b (moB (M 114) c)) (M 136)), nn) Q := ih
          clear ih
          simp (disch := omega) only [Option.toList_some, Option.toList_none, List.nil_append, List.cons_append, List.append_nil, true_and, and_true, not_true_eq_false, not_false_eq_true, true_implies, false_implies, implies_true, and_self, Int.reduceLT, Int.reduceLE, Int.reduceEq, Int.reduceNe, Int.reduceAdd, Int.reduceSub, Int.reduceMul, Int.reduceNeg, Int.reduceToNat, Int.toNat_natCast, ↓kk_ck, ↓kk_im, ↓kk_in, s_321_83, s_321_84, s_321_89, s_321_91, s_321_98, s_321_99, R1, R47, w1, w2, Int.toNat_natCast, nar_b, vi_ms_rs, em, e136', Int.add_zero, @vi_32 (sN c (moB (M 114)) : Int) (by omega) (by omega), vi_inc, ne_eq]
          exact ih'
        · have e136' : vi_rs M 136 (vi_m (c + 1) (fun c => vi_b (moB (M 114) c)) (M 136)) 136 c = 1 := e136
          have ih' : vi_ok GG D 321 4 [some (.inr (.inr 112)), some (.inl ((sN c (moB (M 114)) + 1 : Nat) : Int)), some (.inl ((c + 1 : Nat) : Int))] [] (Y, vi_rs M 136 (vi_m (c + 1) (fun c => vi_b (moB (M 114) c)) (M 136)), nn) Q := ih
          clear ih
          have en : vi_w32 ((sN c (moB (M 114)) : Int) + 1) = ((sN c (moB (M 114)) + 1 : Nat) : Int) := by rw [vi_32 (by omega) (by omega)]; omega
          simp (disch := omega) only [Option.toList_some, Option.toList_none, List.nil_append, List.cons_append, List.append_nil, true_and, and_true, not_true_eq_false, not_false_eq_true, true_implies, false_implies, implies_true, and_self, Int.reduceLT, Int.reduceLE, Int.reduceEq, Int.reduceNe, Int.reduceAdd, Int.reduceSub, Int.reduceMul, Int.reduceNeg, Int.reduceToNat, Int.toNat_natCast, ↓kk_ck, ↓kk_im, ↓kk_in, s_321_83, s_321_84, s_321_89, s_321_91, s_321_94, s_321_99, R1, R47, w1, w2, Int.toNat_natCast, nar_b, vi_ms_rs, em, e136', en, vi_inc, ne_eq]
          exact ih'
      clear ih
      have hcc : 0 ≤ (c : Int) ∧ (c : Int) < 216 := by omega
      have a0 : mAl (c : Int) 0 = ((c % 6 : Nat) : Int) := by unfold mAl; rw [if_pos rfl]; omega
      have a1 : mAl (c : Int) 1 = ((c / 6 % 6 : Nat) : Int) := by unfold mAl; rw [if_neg (by omega), if_pos rfl]; omega
      have a2 : mAl (c : Int) 2 = ((c / 36 : Nat) : Int) := by unfold mAl; rw [if_neg (by omega), if_neg (by omega)]; omega
      have d0 := fun {D : Nat} {K : Option vi_V → vi_W → Prop} (hD : 1 ≤ D) => @k_320 D K Y M1 nn hY 0 ((c / 6 % 6 : Nat) : Int) ((c / 36 : Nat) : Int) (by omega) (by omega) (by omega) hD
      have d1 := fun {D : Nat} {K : Option vi_V → vi_W → Prop} (hD : 1 ≤ D) => @k_320 D K Y M1 nn hY 1 ((c % 6 : Nat) : Int) ((c / 36 : Nat) : Int) (by omega) (by omega) (by omega) hD
      have d2 := fun {D : Nat} {K : Option vi_V → vi_W → Prop} (hD : 1 ≤ D) => @k_320 D K Y M1 nn hY 2 ((c % 6 : Nat) : Int) ((c / 6 % 6 : Nat) : Int) (by omega) (by omega) (by omega) hD
      rw [e114] at d0 d1 d2
      unfold moB at st
      rw [s_321_4]
      by_cases q1 : mIc M (c : Int)
      · have q1b : mIcb (M 114) (c : Int) = true := by unfold mIcb; exact decide_eq_true q1
        have q1' := mIc_c e114 q1
        rw [q1b, Bool.true_and] at st
        cases b0 : dkI (M 114) 0 ((c / 6 % 6 : Nat) : Int) ((c / 36 : Nat) : Int)
        · have := st false (by rw [b0]; rfl)
          rw [b0] at d0
          clear st
          simp (disch := omega) only [Option.toList_some, Option.toList_none, List.nil_append, List.cons_append, List.append_nil, true_and, and_true, not_true_eq_false, not_false_eq_true, true_implies, false_implies, implies_true, and_self, Int.reduceLT, Int.reduceLE, Int.reduceEq, Int.reduceNe, Int.reduceAdd, Int.reduceSub, Int.reduceMul, Int.reduceNeg, Int.reduceToNat, Int.toNat_natCast, ↓kk_ck, ↓kk_im, ↓kk_in, s_321_11, s_321_15, s_321_21, s_321_24, s_321_31, s_321_36, s_321_39, s_321_82, R1, R47, k_246t hY q1', k_245 hcc, a0, a1, a2, d0, vi_bf, ne_eq]
          exact this
        · rw [b0] at d0 st
          cases b1 : dkI (M 114) 1 ((c % 6 : Nat) : Int) ((c / 36 : Nat) : Int)
          · have := st false (by rw [b1]; rfl)
            rw [b1] at d1
            clear st
            simp (disch := omega) only [Option.toList_some, Option.toList_none, List.nil_append, List.cons_append, List.append_nil, true_and, and_true, not_true_eq_false, not_false_eq_true, true_implies, false_implies, implies_true, and_self, Int.reduceLT, Int.reduceLE, Int.reduceEq, Int.reduceNe, Int.reduceAdd, Int.reduceSub, Int.reduceMul, Int.reduceNeg, Int.reduceToNat, Int.toNat_natCast, ↓kk_ck, ↓kk_im, ↓kk_in, s_321_11, s_321_15, s_321_21, s_321_24, s_321_31, s_321_36, s_321_39, s_321_42, s_321_49, s_321_54, s_321_57, s_321_82, R1, R47, k_246t hY q1', k_245 hcc, a0, a1, a2, d0, d1, vi_bf, vi_bt, ne_eq]
            exact this
          · rw [b1] at d1 st
            cases b2 : dkI (M 114) 2 ((c % 6 : Nat) : Int) ((c / 6 % 6 : Nat) : Int)
            · have := st false (by rw [b2]; rfl)
              rw [b2] at d2
              clear st
              simp (disch := omega) only [Option.toList_some, Option.toList_none, List.nil_append, List.cons_append, List.append_nil, true_and, and_true, not_true_eq_false, not_false_eq_true, true_implies, false_implies, implies_true, and_self, Int.reduceLT, Int.reduceLE, Int.reduceEq, Int.reduceNe, Int.reduceAdd, Int.reduceSub, Int.reduceMul, Int.reduceNeg, Int.reduceToNat, Int.toNat_natCast, ↓kk_ck, ↓kk_im, ↓kk_in, s_321_11, s_321_15, s_321_21, s_321_24, s_321_31, s_321_36, s_321_39, s_321_42, s_321_49, s_321_54, s_321_57, s_321_60, s_321_67, s_321_72, s_321_75, s_321_82, R1, R47, k_246t hY q1', k_245 hcc, a0, a1, a2, d0, d1, d2, vi_bf, vi_bt, ne_eq]
              exact this
            · have := st true (by rw [b2]; rfl)
              rw [b2] at d2
              clear st
              simp (disch := omega) only [Option.toList_some, Option.toList_none, List.nil_append, List.cons_append, List.append_nil, true_and, and_true, not_true_eq_false, not_false_eq_true, true_implies, false_implies, implies_true, and_self, Int.reduceLT, Int.reduceLE, Int.reduceEq, Int.reduceNe, Int.reduceAdd, Int.reduceSub, Int.reduceMul, Int.reduceNeg, Int.reduceToNat, Int.toNat_natCast, ↓kk_ck, ↓kk_im, ↓kk_in, s_321_11, s_321_15, s_321_21, s_321_24, s_321_31, s_321_36, s_321_39, s_321_42, s_321_49, s_321_54, s_321_57, s_321_60, s_321_67, s_321_72, s_321_75, s_321_78, R1, R47, k_246t hY q1', k_245 hcc, a0, a1, a2, d0, d1, d2, vi_bt, ne_eq]
              exact this
      · have q1b : mIcb (M 114) (c : Int) = false := by unfold mIcb; exact decide_eq_false q1
        have q1' : ¬ mIc M1 (c : Int) := fun h => q1 (mIc_c e114.symm h)
        have := st false (by rw [q1b]; rfl)
        clear st
        simp (disch := omega) only [Option.toList_some, Option.toList_none, List.nil_append, List.cons_append, List.append_nil, true_and, and_true, not_true_eq_false, not_false_eq_true, true_implies, false_implies, implies_true, and_self, Int.reduceLT, Int.reduceLE, Int.reduceEq, Int.reduceNe, Int.reduceAdd, Int.reduceSub, Int.reduceMul, Int.reduceNeg, Int.reduceToNat, Int.toNat_natCast, ↓kk_ck, ↓kk_im, ↓kk_in, s_321_11, s_321_15, s_321_21, s_321_82, R1, R47, k_246f hY q1', ne_eq]
        exact this
  have := loop 0 (by omega)
  rw [vi_m_0, vi_rs_id rfl, sN] at this
  clear loop hQ
  simp (disch := omega) only [Option.toList_some, Option.toList_none, List.nil_append, List.cons_append, List.append_nil, true_and, and_true, not_true_eq_false, not_false_eq_true, true_implies, false_implies, implies_true, and_self, Int.reduceLT, Int.reduceLE, Int.reduceEq, Int.reduceNe, Int.reduceAdd, Int.reduceSub, Int.reduceMul, Int.reduceNeg, Int.reduceToNat, Int.toNat_natCast, ↓kk_ck, ↓kk_im, ↓kk_in, e_321, s_321_0]
  exact this
theorem k_322 (hY : kY Y 151) (hB : mBx M) {l a : Nat} {u v : Int} (hl : l < 108) (ha : M 130 l = (a : Int)) (hu : M 131 l = u) (hv : M 132 l = v) (hp : mIp M (a : Int) u v) (hD : 2 ≤ D) : vi_call GG D 322 [.inr (.inr 112), .inl (l : Int)] (Y, M, nn) K ↔ K (some (.inl (vi_b (hcB (M 136) a u v (M 114 (96 + a)).toNat)))) (Y, M, nn) := by
  obtain ⟨D, rfl⟩ : ∃ k, D = k + 1 := ⟨D - 1, by omega⟩
  obtain ⟨R1, -, R3, -, -, -, -, -, -, -, -, -, -, R27, R28, R29, R31, R32, R33, R34, R35, R36, R37, R38, R47, -⟩ := y_112 hY (by omega)
  obtain ⟨p1, p2⟩ := y_130 hY (by omega)
  obtain ⟨p3, p4⟩ := y_131 hY (by omega)
  obtain ⟨p5, p6⟩ := y_132 hY (by omega)
  obtain ⟨p7, p8⟩ := y_136 hY (by omega)
  obtain ⟨qa, qu, qv⟩ := mIp_r hB hp
  have hs := mSz hB (a := a) (by omega)
  obtain ⟨S, hS⟩ : ∃ S : Nat, M 114 (96 + a) = (S : Int) := ⟨(M 114 (96 + a)).toNat, by omega⟩
  refine vi_k (r := some (.inl _)) fun Q hQ => ?_
  rw [hS, Int.toNat_natCast] at hQ
  have A := fun {D : Nat} {K : Option vi_V → vi_W → Prop} (hD : 1 ≤ D) => @k_241 D K Y M nn hY a (by omega) hD
  rw [hS] at A
  have tr : ∀ j k : Nat, hcB (M 136) a u v j = true → hcB (M 136) a u v (j + k) = true := by
    intro j k h
    induction k with
    | zero => exact h
    | succ k ih => rw [← Nat.add_assoc, hcB, ih]; rfl
  have loop : ∀ j : Nat, j ≤ S → hcB (M 136) a u v j = false → vi_ok GG D 322 2 [some (.inr (.inr 112)), some (.inl (l : Int)), some (.inl (j : Int))] [] (Y, M, nn) Q := by
    refine vi_dn (P := fun j => hcB (M 136) a u v j = false → vi_ok GG D 322 2 [some (.inr (.inr 112)), some (.inl (l : Int)), some (.inl (j : Int))] [] (Y, M, nn) Q) S ?_ fun j hj ih => ?_
    · intro hb
      rw [hb] at hQ
      rw [s_322_2]
      simp (disch := omega) only [Option.toList_some, Option.toList_none, List.nil_append, List.cons_append, List.append_nil, true_and, and_true, not_true_eq_false, not_false_eq_true, true_implies, false_implies, implies_true, and_self, Int.reduceLT, Int.reduceLE, Int.reduceEq, Int.reduceNe, Int.reduceAdd, Int.reduceSub, Int.reduceMul, Int.reduceNeg, Int.reduceToNat, Int.toNat_natCast, ↓kk_ck, ↓kk_im, ↓kk_in, s_322_8, s_322_10, s_322_13, s_322_54, R1, R33, p1, p2, Int.toNat_natCast, ha, A]
      exact hQ
    · intro hb
      have hw : 0 ≤ (j : Int) ∧ (j : Int) < 6 := by omega
      have hc := mHa_r (a := a) qu qv hw
      rw [hcB, hb, Bool.false_or] at ih
      by_cases q : M 136 (mHa a u v (j : Int)).toNat = 0
      · have := ih (decide_eq_false (by simp [q]))
        clear ih hQ
        rw [s_322_2]
        simp (disch := omega) only [Option.toList_some, Option.toList_none, List.nil_append, List.cons_append, List.append_nil, true_and, and_true, not_true_eq_false, not_false_eq_true, true_implies, false_implies, implies_true, and_self, Int.reduceLT, Int.reduceLE, Int.reduceEq, Int.reduceNe, Int.reduceAdd, Int.reduceSub, Int.reduceMul, Int.reduceNeg, Int.reduceToNat, Int.toNat_natCast, ↓kk_ck, ↓kk_im, ↓kk_in, s_322_8, s_322_10, s_322_13, s_322_16, s_322_20, s_322_24, s_322_26, s_322_30, s_322_32, s_322_36, s_322_38, s_322_42, s_322_43, s_322_48, R1, R33, R34, R35, R47, p1, p2, p3, p4, p5, p6, p7, p8, Int.toNat_natCast, ha, hu, hv, A, k_244 qu qv hw, mHa_e, q, vi_inc]
        exact this
      · have h1 : hcB (M 136) a u v (j + 1) = true := by rw [hcB, decide_eq_true q, Bool.or_true]
        have h2 := tr (j + 1) (S - (j + 1)) h1
        rw [show j + 1 + (S - (j + 1)) = S by omega] at h2
        rw [h2] at hQ
        clear ih
        rw [s_322_2]
        simp (disch := omega) only [Option.toList_some, Option.toList_none, List.nil_append, List.cons_append, List.append_nil, true_and, and_true, not_true_eq_false, not_false_eq_true, true_implies, false_implies, implies_true, and_self, Int.reduceLT, Int.reduceLE, Int.reduceEq, Int.reduceNe, Int.reduceAdd, Int.reduceSub, Int.reduceMul, Int.reduceNeg, Int.reduceToNat, Int.toNat_natCast, ↓kk_ck, ↓kk_im, ↓kk_in, s_322_8, s_322_10, s_322_13, s_322_16, s_322_20, s_322_24, s_322_26, s_322_30, s_322_32, s_322_36, s_322_38, s_322_42, s_322_43, s_322_46, R1, R33, R34, R35, R47, p1, p2, p3, p4, p5, p6, p7, p8, Int.toNat_natCast, ha, hu, hv, A, k_244 qu qv hw, mHa_e, q]
        exact hQ
  have := loop 0 (by omega) rfl
  clear loop hQ
  simp (disch := omega) only [Option.toList_some, Option.toList_none, List.nil_append, List.cons_append, List.append_nil, true_and, and_true, not_true_eq_false, not_false_eq_true, true_implies, false_implies, implies_true, and_self, Int.reduceLT, Int.reduceLE, Int.reduceEq, Int.reduceNe, Int.reduceAdd, Int.reduceSub, Int.reduceMul, Int.reduceNeg, Int.reduceToNat, Int.toNat_natCast, ↓kk_ck, ↓kk_im, ↓kk_in, e_322, s_322_0]
  exact this
theorem k_323 (hY : kY Y 151) (hB : mBx M) {m : Nat} (hm : m ≤ 108) (h39 : M 112 39 = (m : Int)) (hl : ∀ l : Nat, l < m → lnO M (l : Int)) (hD : 3 ≤ D) : vi_call GG D 323 [.inr (.inr 112)] (Y, M, nn) K ↔ K (some (.inl (vi_b (cnB M m)))) (Y, M, nn) := by
  obtain ⟨D, rfl⟩ : ∃ k, D = k + 1 := ⟨D - 1, by omega⟩
  obtain ⟨R1, -, R3, -, -, -, -, -, -, -, -, -, -, R27, R28, R29, R31, R32, R33, R34, R35, R36, R37, R38, R47, -⟩ := y_112 hY (by omega)
  obtain ⟨p1, p2⟩ := y_130 hY (by omega)
  obtain ⟨p3, p4⟩ := y_131 hY (by omega)
  obtain ⟨p5, p6⟩ := y_132 hY (by omega)
  refine vi_k (r := some (.inl _)) fun Q hQ => ?_
  have fl : ∀ j k : Nat, cnB M j = false → cnB M (j + k) = false := by
    intro j k h
    induction k with
    | zero => exact h
    | succ k ih => rw [← Nat.add_assoc, cnB, ih]; rfl
  have loop : ∀ j : Nat, j ≤ m → cnB M j = true → vi_ok GG D 323 2 [some (.inr (.inr 112)), some (.inl (j : Int))] [] (Y, M, nn) Q := by
    refine vi_dn (P := fun j => cnB M j = true → vi_ok GG D 323 2 [some (.inr (.inr 112)), some (.inl (j : Int))] [] (Y, M, nn) Q) m ?_ fun j hj ih => ?_
    · intro hb
      rw [hb] at hQ
      rw [s_323_2]
      simp (disch := omega) only [Option.toList_some, Option.toList_none, List.nil_append, List.cons_append, List.append_nil, true_and, and_true, not_true_eq_false, not_false_eq_true, true_implies, false_implies, implies_true, and_self, Int.reduceLT, Int.reduceLE, Int.reduceEq, Int.reduceNe, Int.reduceAdd, Int.reduceSub, Int.reduceMul, Int.reduceNeg, Int.reduceToNat, Int.toNat_natCast, ↓kk_ck, ↓kk_im, ↓kk_in, s_323_7, s_323_51, R1, h39]
      exact hQ
    · intro hb
      rw [cnB, hb, Bool.true_and] at ih
      rcases hl j hj with h | ⟨l, a, e1, e2, e3, e4⟩
      · omega
      obtain rfl : j = l := by omega
      obtain ⟨qa, qu, qv⟩ := mIp_r hB e4
      have A := fun {D : Nat} {K : Option vi_V → vi_W → Prop} (hD : 1 ≤ D) => @k_320 D K Y M nn hY (a : Int) (M 131 j) (M 132 j) (by omega) (by omega) (by omega) hD
      have B := fun {D : Nat} {K : Option vi_V → vi_W → Prop} (hD : 2 ≤ D) => @k_322 D K Y M nn hY hB j a (M 131 j) (M 132 j) e2 e3 rfl rfl e4 hD
      have ed : dkL M j = dkI (M 114) (a : Int) (M 131 j) (M 132 j) := by unfold dkL; rw [e3]
      have eh : hcL M j = hcB (M 136) a (M 131 j) (M 132 j) (M 114 (96 + a)).toNat := by unfold hcL; rw [e3, Int.toNat_natCast]
      rw [← ed] at A
      rw [← eh] at B
      cases bd : dkL M j
      · rw [bd] at A
        have := ih (by rw [bd]; rfl)
        clear ih hQ
        rw [s_323_2]
        simp (disch := omega) only [Option.toList_some, Option.toList_none, List.nil_append, List.cons_append, List.append_nil, true_and, and_true, not_true_eq_false, not_false_eq_true, true_implies, false_implies, implies_true, and_self, Int.reduceLT, Int.reduceLE, Int.reduceEq, Int.reduceNe, Int.reduceAdd, Int.reduceSub, Int.reduceMul, Int.reduceNeg, Int.reduceToNat, Int.toNat_natCast, ↓kk_ck, ↓kk_im, ↓kk_in, s_323_7, s_323_10, s_323_15, s_323_17, s_323_21, s_323_23, s_323_27, s_323_29, s_323_32, s_323_45, R1, R33, R34, R35, p1, p2, p3, p4, p5, p6, h39, Int.toNat_natCast, e3, A, vi_bf, vi_inc, ne_eq]
        exact this
      · rw [bd] at A
        cases bh : hcL M j
        · rw [bh] at B
          have h1 : cnB M (j + 1) = false := by rw [cnB, bd, bh]; simp
          have h2 := fl (j + 1) (m - (j + 1)) h1
          rw [show j + 1 + (m - (j + 1)) = m by omega] at h2
          rw [h2] at hQ
          clear ih
          rw [s_323_2]
          simp (disch := omega) only [Option.toList_some, Option.toList_none, List.nil_append, List.cons_append, List.append_nil, true_and, and_true, not_true_eq_false, not_false_eq_true, true_implies, false_implies, implies_true, and_self, Int.reduceLT, Int.reduceLE, Int.reduceEq, Int.reduceNe, Int.reduceAdd, Int.reduceSub, Int.reduceMul, Int.reduceNeg, Int.reduceToNat, Int.toNat_natCast, ↓kk_ck, ↓kk_im, ↓kk_in, s_323_7, s_323_10, s_323_15, s_323_17, s_323_21, s_323_23, s_323_27, s_323_29, s_323_32, s_323_35, s_323_40, s_323_43, R1, R33, R34, R35, p1, p2, p3, p4, p5, p6, h39, Int.toNat_natCast, e3, A, B, vi_bf, vi_bt, ne_eq]
          exact hQ
        · rw [bh] at B
          have := ih (by rw [bd, bh]; rfl)
          clear ih hQ
          rw [s_323_2]
          simp (disch := omega) only [Option.toList_some, Option.toList_none, List.nil_append, List.cons_append, List.append_nil, true_and, and_true, not_true_eq_false, not_false_eq_true, true_implies, false_implies, implies_true, and_self, Int.reduceLT, Int.reduceLE, Int.reduceEq, Int.reduceNe, Int.reduceAdd, Int.reduceSub, Int.reduceMul, Int.reduceNeg, Int.reduceToNat, Int.toNat_natCast, ↓kk_ck, ↓kk_im, ↓kk_in, s_323_7, s_323_10, s_323_15, s_323_17, s_323_21, s_323_23, s_323_27, s_323_29, s_323_32, s_323_35, s_323_40, s_323_45, R1, R33, R34, R35, p1, p2, p3, p4, p5, p6, h39, Int.toNat_natCast, e3, A, B, vi_bt, vi_inc, ne_eq]
          exact this
  have := loop 0 (by omega) rfl
  clear loop hQ
  simp (disch := omega) only [Option.toList_some, Option.toList_none, List.nil_append, List.cons_append, List.append_nil, true_and, and_true, not_true_eq_false, not_false_eq_true, true_implies, false_implies, implies_true, and_self, Int.reduceLT, Int.reduceLE, Int.reduceEq, Int.reduceNe, Int.reduceAdd, Int.reduceSub, Int.reduceMul, Int.reduceNeg, Int.reduceToNat, Int.toNat_natCast, ↓kk_ck, ↓kk_im, ↓kk_in, e_323, s_323_0]
  exact this
end
