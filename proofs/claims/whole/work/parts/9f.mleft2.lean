/-! Contracts of the reference, seventeenth part: left, tally, dipped. -/
/-- a row kept -/
def mAr (f : Nat → Int) (m : Nat) (a u v x : Int) : Nat → Int := vi_u (vi_u (vi_u (vi_u (vi_u f (100 + 4 * m) a) (100 + 4 * m + 1) u) (100 + 4 * m + 2) v) (100 + 4 * m + 3) x) 293 ((m + 1 : Nat) : Int)
section
variable {D : Nat} {K : Option vi_V → vi_W → Prop} {Y : vi_Y} {M : vi_M} {nn : Nat × Nat} {Q : Option vi_V → vi_W → Prop}
/-- one LEFT CELL's neighbours -/
theorem h_298 (hY : kY Y 151) (hB : mBx M) {c : Nat} (hc : mIc M (c : Int)) (hD : 2 ≤ D) {x1 x2 x4 : Int} {x3 : Int} (h3 : 0 ≤ x3 ∧ x3 ≤ 10000) (hQ : ∀ l8, vi_ok GG D 298 135 [some (.inr (.inr 112)), some (.inl x1), some (.inl x2), some (.inl (x3 + mOu M (c : Int) 6)), some (.inl x4), some (.inl (c : Int)), some (.inl (mInn M (c : Int) 6)), some (.inl 6), l8] [] (Y, M, nn) Q) :
    ∀ d : Nat, d ≤ 6 → ∀ l8, vi_ok GG D 298 62 [some (.inr (.inr 112)), some (.inl x1), some (.inl x2), some (.inl (x3 + mOu M (c : Int) d)), some (.inl x4), some (.inl (c : Int)), some (.inl (mInn M (c : Int) d)), some (.inl (d : Int)), l8] [] (Y, M, nn) Q := by
  obtain ⟨R1, -, R3, -, -, -, -, -, -, -, -, -, -, -, R28, -⟩ := y_112 hY (by omega)
  obtain ⟨v1, v2⟩ := y_126 hY (by omega)
  refine vi_dn (P := fun d => ∀ l8, vi_ok GG D 298 62 [some (.inr (.inr 112)), some (.inl x1), some (.inl x2), some (.inl (x3 + mOu M (c : Int) d)), some (.inl x4), some (.inl (c : Int)), some (.inl (mInn M (c : Int) d)), some (.inl (d : Int)), l8] [] (Y, M, nn) Q) 6 ?_ fun d hd ih => ?_
  · intro l8
    have := hQ l8
    clear hQ
    rw [s_298_62]
    simp (disch := omega) only [Option.toList_some, Option.toList_none, List.nil_append, List.cons_append, List.append_nil, true_and, and_true, not_true_eq_false, not_false_eq_true, true_implies, false_implies, implies_true, and_self, Int.reduceLT, Int.reduceLE, Int.reduceEq, Int.reduceNe, Int.reduceAdd, Int.reduceSub, Int.reduceMul, Int.reduceNeg, Int.reduceToNat, Int.toNat_natCast, ↓kk_ck, ↓kk_im, ↓kk_in]
    exact this
  · intro l8
    have hr := mInn_r (M := M) (c := (c : Int)) d
    have ho := mOu_r (M := M) (c := (c : Int)) d
    have hb := mBe_r hB hc hd
    have ih := ih (some (.inl (mBe M (c : Int) d)))
    rw [mInn, mOu] at ih
    rw [s_298_62]
    clear hQ
    by_cases q : mBe M (c : Int) d = -1
    · rw [if_pos q, if_pos q, q, ← Int.add_assoc] at ih
      simp (disch := omega) only [Option.toList_some, Option.toList_none, List.nil_append, List.cons_append, List.append_nil, true_and, and_true, not_true_eq_false, not_false_eq_true, true_implies, false_implies, implies_true, and_self, Int.reduceLT, Int.reduceLE, Int.reduceEq, Int.reduceNe, Int.reduceAdd, Int.reduceSub, Int.reduceMul, Int.reduceNeg, Int.reduceToNat, Int.toNat_natCast, ↓kk_ck, ↓kk_im, ↓kk_in, s_298_69, s_298_77, s_298_96, s_298_100, s_298_101, s_298_125, s_298_126, R1, k_248 hY hB hc, q, vi_inc, @vi_32 (mInn M (c : Int) d + 0) (by omega) (by omega), @vi_32 (x3 + mOu M (c : Int) d + 0) (by omega) (by omega)]
      exact ih
    · have hb := hb.resolve_left q
      rw [if_neg q, if_neg q, ← Int.add_assoc] at ih
      by_cases q2 : M 126 (mBe M (c : Int) d).toNat = 0
      · rw [if_pos q2, if_pos q2] at ih
        simp (disch := omega) only [Option.toList_some, Option.toList_none, List.nil_append, List.cons_append, List.append_nil, true_and, and_true, not_true_eq_false, not_false_eq_true, true_implies, false_implies, implies_true, and_self, Int.reduceLT, Int.reduceLE, Int.reduceEq, Int.reduceNe, Int.reduceAdd, Int.reduceSub, Int.reduceMul, Int.reduceNeg, Int.reduceToNat, Int.toNat_natCast, ↓kk_ck, ↓kk_im, ↓kk_in, s_298_69, s_298_77, s_298_86, s_298_90, s_298_93, s_298_96, s_298_100, s_298_101, s_298_111, s_298_115, s_298_118, s_298_121, s_298_125, s_298_126, R1, R28, v1, v2, k_248 hY hB hc, q, q2, ne_eq, vi_inc, @vi_32 (x3 + mOu M (c : Int) d + 1) (by omega) (by omega), @vi_32 (mInn M (c : Int) d + 0) (by omega) (by omega)]
        exact ih
      · rw [if_neg q2, if_neg q2] at ih
        simp (disch := omega) only [Option.toList_some, Option.toList_none, List.nil_append, List.cons_append, List.append_nil, true_and, and_true, not_true_eq_false, not_false_eq_true, true_implies, false_implies, implies_true, and_self, Int.reduceLT, Int.reduceLE, Int.reduceEq, Int.reduceNe, Int.reduceAdd, Int.reduceSub, Int.reduceMul, Int.reduceNeg, Int.reduceToNat, Int.toNat_natCast, ↓kk_ck, ↓kk_im, ↓kk_in, s_298_69, s_298_77, s_298_86, s_298_90, s_298_93, s_298_96, s_298_100, s_298_101, s_298_111, s_298_115, s_298_118, s_298_121, s_298_125, s_298_126, R1, R28, v1, v2, k_248 hY hB hc, q, q2, ne_eq, vi_inc, @vi_32 (x3 + mOu M (c : Int) d + 0) (by omega) (by omega), @vi_32 (mInn M (c : Int) d + 1) (by omega) (by omega)]
        exact ih
theorem k_298n (hY : kY Y 151) {x : Int} (h : ¬ (0 ≤ x ∧ x ≤ 3)) (hD : 2 ≤ D) : vi_call GG D 298 [.inr (.inr 112), .inl x] (Y, M, nn) K ↔ K (some (.inl (-1))) (Y, M, nn) := by
  obtain ⟨D, rfl⟩ : ∃ k, D = k + 1 := ⟨D - 1, by omega⟩
  refine vi_k (r := some (.inl _)) fun Q hQ => ?_
  simp (disch := omega) only [Option.toList_some, Option.toList_none, List.nil_append, List.cons_append, List.append_nil, true_and, and_true, not_true_eq_false, not_false_eq_true, true_implies, false_implies, implies_true, and_self, Int.reduceLT, Int.reduceLE, Int.reduceEq, Int.reduceNe, Int.reduceAdd, Int.reduceSub, Int.reduceMul, Int.reduceNeg, Int.reduceToNat, Int.toNat_natCast, ↓kk_ck, ↓kk_im, ↓kk_in, e_298, s_298_0, s_298_6, s_298_9, k_234f h, ne_eq]
  exact hQ
theorem k_298 (hY : kY Y 151) {lw : Option (List gCla)} {n : Nat} (hS : mKs M lw n) {x : Nat} (hx : x ≤ 3) (hD : 46 ≤ D) (hQ : ∀ M', mSee M' lw n → mFr M M' → Q (some (.inl (if x = 0 then mNum (M' 126) 216 else if x = 1 then (mLa M' 216).1 else if x = 2 then (mLa M' 216).2.1 else (mLa M' 216).2.2))) (Y, M', nn)) : vi_call GG D 298 [.inr (.inr 112), .inl (x : Int)] (Y, M, nn) Q := by
  obtain ⟨D, rfl⟩ : ∃ k, D = k + 1 := ⟨D - 1, by omega⟩
  obtain ⟨R1, -, R3, -, -, -, -, -, -, -, -, -, -, R27, R28, -⟩ := y_112 hY (by omega)
  obtain ⟨u1, u2⟩ := y_125 hY (by omega)
  obtain ⟨v1, v2⟩ := y_126 hY (by omega)
  have hB := hS.1
  have cont : vi_call GG D 294 [.inr (.inr 112)] (Y, M, nn) (fun r w' => vi_ok GG D 298 15 [some (.inr (.inr 112)), some (.inl (x : Int)), none, none, none, none, none, none, none] r.toList w' Q) := by
    refine k_294u hY hS (by omega) fun M' hs hf => ?_
    have hB' := mBx_c (mFr_114 hf) hB
    have hl := mLfd_of hs
    have hq := hQ M' hs hf
    clear hQ hs hf
    have loop : ∀ c : Nat, c ≤ 216 → ∀ l6 l7 l8, vi_ok GG D 298 25 [some (.inr (.inr 112)), some (.inl (x : Int)), some (.inl (mLa M' c).1), some (.inl (mLa M' c).2.1), some (.inl (mLa M' c).2.2), some (.inl (c : Int)), l6, l7, l8] [] (Y, M', nn) Q := by
      refine vi_dn (P := fun c => ∀ l6 l7 l8, vi_ok GG D 298 25 [some (.inr (.inr 112)), some (.inl (x : Int)), some (.inl (mLa M' c).1), some (.inl (mLa M' c).2.1), some (.inl (mLa M' c).2.2), some (.inl (c : Int)), l6, l7, l8] [] (Y, M', nn) Q) 216 ?_ fun c hc ih => ?_
      · intro l6 l7 l8
        have k297 := fun {D : Nat} {K : Option vi_V → vi_W → Prop} (hD : 1 ≤ D) => @k_297 D K Y M' nn 126 ⟨v1, v2⟩ hD
        rw [s_298_25]
        obtain rfl | rfl | rfl | rfl : x = 0 ∨ x = 1 ∨ x = 2 ∨ x = 3 := by omega
        · rw [if_pos rfl] at hq
          simp (disch := omega) only [Option.toList_some, Option.toList_none, List.nil_append, List.cons_append, List.append_nil, true_and, and_true, not_true_eq_false, not_false_eq_true, true_implies, false_implies, implies_true, and_self, Int.reduceLT, Int.reduceLE, Int.reduceEq, Int.reduceNe, Int.reduceAdd, Int.reduceSub, Int.reduceMul, Int.reduceNeg, Int.reduceToNat, Int.toNat_natCast, ↓kk_ck, ↓kk_im, ↓kk_in, s_298_158, s_298_162, s_298_167, s_298_170, s_298_193, R1, R28, k297, ne_eq]
          exact hq
        · rw [if_neg (by omega), if_pos rfl] at hq
          simp (disch := omega) only [Option.toList_some, Option.toList_none, List.nil_append, List.cons_append, List.append_nil, true_and, and_true, not_true_eq_false, not_false_eq_true, true_implies, false_implies, implies_true, and_self, Int.reduceLT, Int.reduceLE, Int.reduceEq, Int.reduceNe, Int.reduceAdd, Int.reduceSub, Int.reduceMul, Int.reduceNeg, Int.reduceToNat, Int.toNat_natCast, ↓kk_ck, ↓kk_im, ↓kk_in, s_298_158, s_298_173, s_298_178, s_298_193, ne_eq]
          exact hq
        · rw [if_neg (by omega), if_neg (by omega), if_pos rfl] at hq
          simp (disch := omega) only [Option.toList_some, Option.toList_none, List.nil_append, List.cons_append, List.append_nil, true_and, and_true, not_true_eq_false, not_false_eq_true, true_implies, false_implies, implies_true, and_self, Int.reduceLT, Int.reduceLE, Int.reduceEq, Int.reduceNe, Int.reduceAdd, Int.reduceSub, Int.reduceMul, Int.reduceNeg, Int.reduceToNat, Int.toNat_natCast, ↓kk_ck, ↓kk_im, ↓kk_in, s_298_158, s_298_173, s_298_182, s_298_187, s_298_193, ne_eq]
          exact hq
        · rw [if_neg (by omega), if_neg (by omega), if_neg (by omega)] at hq
          simp (disch := omega) only [Option.toList_some, Option.toList_none, List.nil_append, List.cons_append, List.append_nil, true_and, and_true, not_true_eq_false, not_false_eq_true, true_implies, false_implies, implies_true, and_self, Int.reduceLT, Int.reduceLE, Int.reduceEq, Int.reduceNe, Int.reduceAdd, Int.reduceSub, Int.reduceMul, Int.reduceNeg, Int.reduceToNat, Int.toNat_natCast, ↓kk_ck, ↓kk_im, ↓kk_in, s_298_158, s_298_173, s_298_182, s_298_191, s_298_193, ne_eq]
          exact hq
      · intro l6 l7 l8
        obtain ⟨⟨a1, a2⟩, ⟨b1, b2⟩, d1, d2⟩ := mLa_r hl c (by omega)
        rw [mLa] at ih
        rw [s_298_25]
        clear hq
        by_cases q : M' 126 c = 0
        · rw [if_pos q] at ih
          have := ih l6 l7 l8
          clear ih
          simp (disch := omega) only [Option.toList_some, Option.toList_none, List.nil_append, List.cons_append, List.append_nil, true_and, and_true, not_true_eq_false, not_false_eq_true, true_implies, false_implies, implies_true, and_self, Int.reduceLT, Int.reduceLE, Int.reduceEq, Int.reduceNe, Int.reduceAdd, Int.reduceSub, Int.reduceMul, Int.reduceNeg, Int.reduceToNat, Int.toNat_natCast, ↓kk_ck, ↓kk_im, ↓kk_in, s_298_33, s_298_37, s_298_40, s_298_43, s_298_152, R1, R28, v1, v2, Int.toNat_natCast, q, ne_eq, vi_inc]
          exact this
        · rw [if_neg q] at ih
          dsimp only at ih
          obtain ⟨hic, w1, w2⟩ := hl c hc q
          have hi := mInn_r (M := M') (c := (c : Int)) 6
          have inner := h_298 (nn := nn) (Q := Q) (M := M') (D := D) (x1 := (x : Int)) (x2 := (mLa M' c).1 + M' 125 c) (x4 := (mLa M' c).2.2) (x3 := (mLa M' c).2.1) hY hB' hic (by omega) (by omega) (fun l8 => by
            have := ih (some (.inl (mInn M' (c : Int) 6))) (some (.inl 6)) l8
            clear ih
            by_cases q6 : mInn M' (c : Int) 6 = 6
            · rw [if_pos q6] at this
              simp (disch := omega) only [Option.toList_some, Option.toList_none, List.nil_append, List.cons_append, List.append_nil, true_and, and_true, not_true_eq_false, not_false_eq_true, true_implies, false_implies, implies_true, and_self, Int.reduceLT, Int.reduceLE, Int.reduceEq, Int.reduceNe, Int.reduceAdd, Int.reduceSub, Int.reduceMul, Int.reduceNeg, Int.reduceToNat, Int.toNat_natCast, ↓kk_ck, ↓kk_im, ↓kk_in, s_298_135, s_298_144, s_298_148, s_298_149, s_298_152, q6, ne_eq, vi_inc, @vi_32 ((mLa M' c).2.2 + 1) (by omega) (by omega)]
              rw [q6] at this
              exact this
            · rw [if_neg q6] at this
              simp (disch := omega) only [Option.toList_some, Option.toList_none, List.nil_append, List.cons_append, List.append_nil, true_and, and_true, not_true_eq_false, not_false_eq_true, true_implies, false_implies, implies_true, and_self, Int.reduceLT, Int.reduceLE, Int.reduceEq, Int.reduceNe, Int.reduceAdd, Int.reduceSub, Int.reduceMul, Int.reduceNeg, Int.reduceToNat, Int.toNat_natCast, ↓kk_ck, ↓kk_im, ↓kk_in, s_298_135, s_298_144, s_298_148, s_298_149, s_298_152, q6, ne_eq, vi_inc, @vi_32 ((mLa M' c).2.2 + 0) (by omega) (by omega)]
              exact this) 0 (by omega) l8
          rw [mOu, mInn, Int.add_zero] at inner
          clear ih
          simp (disch := omega) only [Option.toList_some, Option.toList_none, List.nil_append, List.cons_append, List.append_nil, true_and, and_true, not_true_eq_false, not_false_eq_true, true_implies, false_implies, implies_true, and_self, Int.reduceLT, Int.reduceLE, Int.reduceEq, Int.reduceNe, Int.reduceAdd, Int.reduceSub, Int.reduceMul, Int.reduceNeg, Int.reduceToNat, Int.toNat_natCast, ↓kk_ck, ↓kk_im, ↓kk_in, s_298_33, s_298_37, s_298_40, s_298_46, s_298_51, s_298_54, R1, R27, R28, u1, u2, v1, v2, Int.toNat_natCast, q, ne_eq, @vi_32 ((mLa M' c).1 + M' 125 c) (by omega) (by omega)]
          exact inner
    have := loop 0 (by omega) none none none
    rw [mLa] at this
    clear loop hq hl
    simp (disch := omega) only [Option.toList_some, Option.toList_none, List.nil_append, List.cons_append, List.append_nil, true_and, and_true, not_true_eq_false, not_false_eq_true, true_implies, false_implies, implies_true, and_self, Int.reduceLT, Int.reduceLE, Int.reduceEq, Int.reduceNe, Int.reduceAdd, Int.reduceSub, Int.reduceMul, Int.reduceNeg, Int.reduceToNat, Int.toNat_natCast, ↓kk_ck, ↓kk_im, ↓kk_in, s_298_15]
    exact this
  clear hQ
  simp (disch := omega) only [Option.toList_some, Option.toList_none, List.nil_append, List.cons_append, List.append_nil, true_and, and_true, not_true_eq_false, not_false_eq_true, true_implies, false_implies, implies_true, and_self, Int.reduceLT, Int.reduceLE, Int.reduceEq, Int.reduceNe, Int.reduceAdd, Int.reduceSub, Int.reduceMul, Int.reduceNeg, Int.reduceToNat, Int.toNat_natCast, ↓kk_ck, ↓kk_im, ↓kk_in, e_298, s_298_0, s_298_6, s_298_11, R1, k_234t, ne_eq]
  exact cont
theorem k_303n (hY : kY Y 151) (hB : mBx M) {a u v x : Int} (h : ¬ (mIp M a u v ∧ 0 ≤ x ∧ x ≤ 6)) (hc : 0 ≤ M 113 1 ∧ M 113 1 < 2147483647) (hD : 4 ≤ D) : vi_call GG D 303 [.inr (.inr 112), .inl a, .inl u, .inl v, .inl x] (Y, M, nn) K ↔ K (some (.inl (-1))) (Y, vi_rs (vi_rs M 112 (vi_u (M 112) 0 (-1))) 113 (vi_u (M 113) 1 (M 113 1 + 1)), nn) := by
  obtain ⟨D, rfl⟩ : ∃ k, D = k + 1 := ⟨D - 1, by omega⟩
  obtain ⟨R1, -⟩ := y_112 hY (by omega)
  refine vi_k (r := some (.inl _)) fun Q hQ => ?_
  have A := fun {D : Nat} {K : Option vi_V → vi_W → Prop} (hD : 1 ≤ D) => @k_235 D K Y M nn hY (-1) (by omega) (by exact hc) hD
  by_cases q : mIp M a u v
  · have q2 : ¬ (0 ≤ x ∧ x ≤ 6) := fun e => h ⟨q, e⟩
    simp (disch := omega) only [Option.toList_some, Option.toList_none, List.nil_append, List.cons_append, List.append_nil, true_and, and_true, not_true_eq_false, not_false_eq_true, true_implies, false_implies, implies_true, and_self, Int.reduceLT, Int.reduceLE, Int.reduceEq, Int.reduceNe, Int.reduceAdd, Int.reduceSub, Int.reduceMul, Int.reduceNeg, Int.reduceToNat, Int.toNat_natCast, ↓kk_ck, ↓kk_im, ↓kk_in, e_303, s_303_0, s_303_10, s_303_21, s_303_27, s_303_44, s_303_51, s_303_7, s_303_18, s_303_26, s_303_31, s_303_50, s_303_55, s_303_35, s_303_63, s_303_64, s_303_68, s_303_78, s_303_79, s_303_83, s_303_93, s_303_94, s_303_98, s_303_109, s_303_110, s_303_114, s_303_119, s_303_122, s_303_130, R1, k_247t hY hB q, k_234f q2, A, ne_eq]
    exact hQ
  · simp (disch := omega) only [Option.toList_some, Option.toList_none, List.nil_append, List.cons_append, List.append_nil, true_and, and_true, not_true_eq_false, not_false_eq_true, true_implies, false_implies, implies_true, and_self, Int.reduceLT, Int.reduceLE, Int.reduceEq, Int.reduceNe, Int.reduceAdd, Int.reduceSub, Int.reduceMul, Int.reduceNeg, Int.reduceToNat, Int.toNat_natCast, ↓kk_ck, ↓kk_im, ↓kk_in, e_303, s_303_0, s_303_10, s_303_21, s_303_27, s_303_44, s_303_51, s_303_7, s_303_18, s_303_26, s_303_31, s_303_50, s_303_55, s_303_35, s_303_63, s_303_64, s_303_68, s_303_78, s_303_79, s_303_83, s_303_93, s_303_94, s_303_98, s_303_109, s_303_110, s_303_114, s_303_119, s_303_122, s_303_130, R1, k_247f hY hB q, A, ne_eq]
    exact hQ
theorem k_303x (hY : kY Y 151) (hB : mBx M) {a u v x : Int} (h : mIp M a u v ∧ 0 ≤ x ∧ x ≤ 6) (h293 : M 114 293 = 8) (hc : 0 ≤ M 113 5 ∧ M 113 5 < 2147483647) (hD : 4 ≤ D) : vi_call GG D 303 [.inr (.inr 112), .inl a, .inl u, .inl v, .inl x] (Y, M, nn) K ↔ K (some (.inl (-5))) (Y, vi_rs (vi_rs M 112 (vi_u (M 112) 0 (-5))) 113 (vi_u (M 113) 5 (M 113 5 + 1)), nn) := by
  obtain ⟨D, rfl⟩ : ∃ k, D = k + 1 := ⟨D - 1, by omega⟩
  obtain ⟨R1, -, R3, -⟩ := y_112 hY (by omega)
  obtain ⟨w1, w2⟩ := y_114 hY (by omega)
  refine vi_k (r := some (.inl _)) fun Q hQ => ?_
  have A := fun {D : Nat} {K : Option vi_V → vi_W → Prop} (hD : 1 ≤ D) => @k_235 D K Y M nn hY (-5) (by omega) (by exact hc) hD
  obtain ⟨q, q2⟩ := h
  simp (disch := omega) only [Option.toList_some, Option.toList_none, List.nil_append, List.cons_append, List.append_nil, true_and, and_true, not_true_eq_false, not_false_eq_true, true_implies, false_implies, implies_true, and_self, Int.reduceLT, Int.reduceLE, Int.reduceEq, Int.reduceNe, Int.reduceAdd, Int.reduceSub, Int.reduceMul, Int.reduceNeg, Int.reduceToNat, Int.toNat_natCast, ↓kk_ck, ↓kk_im, ↓kk_in, e_303, s_303_0, s_303_10, s_303_21, s_303_27, s_303_44, s_303_51, s_303_7, s_303_18, s_303_26, s_303_31, s_303_50, s_303_55, s_303_35, s_303_63, s_303_64, s_303_68, s_303_78, s_303_79, s_303_83, s_303_93, s_303_94, s_303_98, s_303_109, s_303_110, s_303_114, s_303_119, s_303_122, s_303_130, R1, R3, w1, w2, k_247t hY hB q, k_234t q2, h293, A, ne_eq]
  exact hQ
theorem k_303 (hY : kY Y 151) (hB : mBx M) {a u v x : Int} (h : mIp M a u v ∧ 0 ≤ x ∧ x ≤ 6) {m : Nat} (hm : m ≤ 7) (h293 : M 114 293 = (m : Int)) (hc : 0 ≤ M 112 1 ∧ M 112 1 < 2147483647) (hD : 4 ≤ D) : vi_call GG D 303 [.inr (.inr 112), .inl a, .inl u, .inl v, .inl x] (Y, M, nn) K ↔ K (some (.inl ((m + 1 : Nat) : Int))) (Y, vi_rs (vi_rs M 114 (mAr (M 114) m a u v x)) 112 (vi_u (vi_u (M 112) 0 0) 1 (M 112 1 + 1)), nn) := by
  obtain ⟨D, rfl⟩ : ∃ k, D = k + 1 := ⟨D - 1, by omega⟩
  obtain ⟨R1, -, R3, -⟩ := y_112 hY (by omega)
  obtain ⟨w1, w2⟩ := y_114 hY (by omega)
  obtain ⟨q, q2⟩ := h
  refine vi_k (r := some (.inl _)) fun Q hQ => ?_
  have A := fun {D : Nat} {K : Option vi_V → vi_W → Prop} (hD : 1 ≤ D) => @k_236 D K Y (vi_rs M 114 (mAr (M 114) m a u v x)) nn hY ((m + 1 : Nat) : Int) (by rw [vi_rs_o (by omega)]; exact hc) hD
  rw [vi_rs_o (by omega)] at A
  have er : vi_u (vi_u (vi_u (vi_u (vi_u (M 114) (100 + 4 * m) a) (100 + 4 * m + 1) u) (100 + 4 * m + 2) v) (100 + 4 * m + 3) x) 293 ((m + 1 : Nat) : Int) = mAr (M 114) m a u v x := rfl
  have o : ∀ (f : Nat → Int) (x : Int) (j : Nat), j < 293 → vi_u f j x 293 = f 293 := fun f x j hj => if_neg (by omega)
  have a0 : (100 + 4 * (m : Int)).toNat = 100 + 4 * m := by omega
  have a1 : (100 + 4 * (m : Int) + 1).toNat = 100 + 4 * m + 1 := by omega
  have a2 : (100 + 4 * (m : Int) + 2).toNat = 100 + 4 * m + 2 := by omega
  have a3 : (100 + 4 * (m : Int) + 3).toNat = 100 + 4 * m + 3 := by omega
  have a6 : (m : Int) + 1 = ((m + 1 : Nat) : Int) := by omega
  have m8 : ¬ (m : Int) = 8 := by omega
  simp (disch := omega) only [Option.toList_some, Option.toList_none, List.nil_append, List.cons_append, List.append_nil, true_and, and_true, not_true_eq_false, not_false_eq_true, true_implies, false_implies, implies_true, and_self, Int.reduceLT, Int.reduceLE, Int.reduceEq, Int.reduceNe, Int.reduceAdd, Int.reduceSub, Int.reduceMul, Int.reduceNeg, Int.reduceToNat, Int.toNat_natCast, ↓kk_ck, ↓kk_im, ↓kk_in, e_303, s_303_0, s_303_10, s_303_21, s_303_27, s_303_44, s_303_51, s_303_7, s_303_18, s_303_26, s_303_31, s_303_50, s_303_55, s_303_35, s_303_63, s_303_64, s_303_68, s_303_78, s_303_79, s_303_83, s_303_93, s_303_94, s_303_98, s_303_109, s_303_110, s_303_114, s_303_119, s_303_122, s_303_130, R1, R3, w1, w2, k_247t hY hB q, k_234t q2, h293, ne_eq, m8, vi_32, a0, a1, a2, a3, vi_ms_rs, vi_rs_s, vi_rs_rs, o, a6, er, A]
  exact hQ
end
