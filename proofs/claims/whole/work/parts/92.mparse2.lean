/-! Contracts of the reference, fourth part: PART, PLAIN, clauses, a LAW's text read. -/
section
variable {D : Nat} {K : Option vi_V → vi_W → Prop} {Y : vi_Y} {M : vi_M} {nn : Nat × Nat} {n t fu : Nat} {b f : Nat → Int}
theorem qM0_s (hY : kY Y 151) (i2h : qM Y nn f b n t fu 274 2 2) : qM Y nn f b n t (fu + 1) 276 0 0 := by
  intro D dp i l M a r Q hg hdp hD hT h112 hi hl hQ1 hQ0
  obtain ⟨R1, -, -, -, -, -, -, -, R12, R13, -⟩ := y_112 hY (by omega)
  obtain ⟨u1, u2⟩ := y_120 hY (by omega)
  obtain ⟨v1, v2⟩ := y_121 hY (by omega)
  obtain ⟨D, rfl⟩ : ∃ k, D = k + 1 := ⟨D - 1, by omega⟩
  have h18 : M 112 18 = -1 := by rw [h112]; rfl
  have h16 : M 112 16 = (i : Int) := by rw [h112]; rfl
  have ht := hT.1
  obtain ⟨p0, p1, -⟩ := hT.2.2 i hi
  rw [rdP] at hg
  by_cases hc : tCd b n i = 191
  · rw [if_pos hc] at hg
    by_cases h8 : dp = 8
    · rw [if_pos h8] at hg
      cases hg
      have := hQ0 rfl hi l
      have X := q18 (M := M) (g := f) (i := i) (l := l) (k := tI b n i)
      clear hQ1 hQ0 i2h
      subst h8
      simp (disch := omega) only [Option.toList_some, Option.toList_none, List.nil_append, List.cons_append, List.append_nil, true_and, and_true, not_true_eq_false, not_false_eq_true, true_implies, false_implies, implies_true, and_self, Int.reduceLT, Int.reduceLE, Int.reduceEq, Int.reduceNe, Int.reduceAdd, Int.reduceSub, Int.reduceMul, Int.reduceNeg, Int.reduceToNat, Int.toNat_natCast, ↓kk_ck, ↓kk_im, ↓kk_in, e_276, s_276_0, s_276_7, s_276_8, s_276_27, s_276_33, s_276_37, s_276_44, s_276_45, s_276_74, s_276_80, s_276_95, s_276_101, s_276_107, s_276_114, s_276_118, s_276_4, s_276_12, s_276_41, s_276_50, s_276_84, s_276_111, s_276_16, s_276_55, s_276_88, s_276_17, s_276_62, s_276_89, s_276_24, s_276_68, s_276_71, R1, R12, u1, u2, k_264g hY h18, h16, p0, hc, k_269, ne_eq, k_265g hY hT h112 hi, k_264b hY X]
      exact this
    · rw [if_neg h8] at hg
      have hi1 := qTk_i hT hi (by omega)
      generalize hM1 : vi_rs M 112 (vi_u (M 112) 16 ((i + 1 : Nat) : Int)) = M1
      have m1 : M1 112 = qRow f (i + 1) l (-1) := by rw [← hM1, vi_rs_s, h112]; exact qRow_16
      have T1' : qTk M1 b n t := by rw [← hM1]; exact qTk_r hT
      have e1 : ∀ g, vi_rs M1 112 g = vi_rs M 112 g := fun g => by rw [← hM1, vi_rs_rs]
      have cont : vi_call GG D 274 [.inr (.inr 112), .inl ((dp + 1 : Nat) : Int)] (Y, M1, nn) (fun r w' => vi_ok GG D 276 62 [some (.inr (.inr 112)), some (.inl (dp : Int)), some (.inl 191)] r.toList w' Q) := by
        cases hr : rdP (tCd b n) (tVl b n) fu 2 (dp + 1) (i + 1) l a with
        | none => rw [hr] at hg; cases hg
        | some r0 =>
          obtain ⟨ok, i2, l2, c⟩ := r0
          rw [hr] at hg
          refine i2h D (dp + 1) (i + 1) l M1 a (ok, i2, l2, c) _ hr (by omega) (by omega) T1' m1 hi1 hl (fun hok hii hi2 hl2 => ?_) (fun hok hi2 l' => ?_)
          · obtain rfl : ok = true := hok
            dsimp only at hg hi2 hl2 hii
            rw [e1]
            have P := fun {D : Nat} {K : Option vi_V → vi_W → Prop} (hD : 3 ≤ D) => @k_267g D K Y (vi_rs M 112 (qRow f i2 l2 (-1))) nn n t b f hY (qTk_r hT) i2 l2 vi_rs_s hi2 193 hD
            by_cases h93 : tCd b n i2 = 193
            · rw [if_pos h93] at hg
              rw [if_pos h93, vi_rs_rs] at P
              cases hg
              have := hQ1 rfl (show i ≤ i2 + 1 by omega) (qTk_i hT hi2 (by omega)) hl2
              clear hQ1 hQ0 i2h
              simp (disch := omega) only [Option.toList_some, Option.toList_none, List.nil_append, List.cons_append, List.append_nil, true_and, and_true, not_true_eq_false, not_false_eq_true, true_implies, false_implies, implies_true, and_self, Int.reduceLT, Int.reduceLE, Int.reduceEq, Int.reduceNe, Int.reduceAdd, Int.reduceSub, Int.reduceMul, Int.reduceNeg, Int.reduceToNat, Int.toNat_natCast, ↓kk_ck, ↓kk_im, ↓kk_in, s_276_0, s_276_7, s_276_8, s_276_27, s_276_33, s_276_37, s_276_44, s_276_45, s_276_74, s_276_80, s_276_95, s_276_101, s_276_107, s_276_114, s_276_118, s_276_4, s_276_12, s_276_41, s_276_50, s_276_84, s_276_111, s_276_16, s_276_55, s_276_88, s_276_17, s_276_62, s_276_89, s_276_24, s_276_68, s_276_71, R1, k_269, P]
              exact this
            · rw [if_neg h93] at hg
              rw [if_neg h93, vi_rs_rs] at P
              cases hg
              have := hQ0 rfl hi2 l2
              clear hQ1 hQ0 i2h
              simp (disch := omega) only [Option.toList_some, Option.toList_none, List.nil_append, List.cons_append, List.append_nil, true_and, and_true, not_true_eq_false, not_false_eq_true, true_implies, false_implies, implies_true, and_self, Int.reduceLT, Int.reduceLE, Int.reduceEq, Int.reduceNe, Int.reduceAdd, Int.reduceSub, Int.reduceMul, Int.reduceNeg, Int.reduceToNat, Int.toNat_natCast, ↓kk_ck, ↓kk_im, ↓kk_in, s_276_0, s_276_7, s_276_8, s_276_27, s_276_33, s_276_37, s_276_44, s_276_45, s_276_74, s_276_80, s_276_95, s_276_101, s_276_107, s_276_114, s_276_118, s_276_4, s_276_12, s_276_41, s_276_50, s_276_84, s_276_111, s_276_16, s_276_55, s_276_88, s_276_17, s_276_62, s_276_89, s_276_24, s_276_68, s_276_71, R1, k_269, P]
              exact this
          · obtain rfl : ok = false := hok
            dsimp only at hg hi2
            cases hg
            rw [e1]
            have := hQ0 rfl hi2 l'
            have X := q18 (M := M) (g := f) (i := i2) (l := l') (k := tI b n i2)
            clear hQ1 hQ0 i2h
            simp (disch := omega) only [Option.toList_some, Option.toList_none, List.nil_append, List.cons_append, List.append_nil, true_and, and_true, not_true_eq_false, not_false_eq_true, true_implies, false_implies, implies_true, and_self, Int.reduceLT, Int.reduceLE, Int.reduceEq, Int.reduceNe, Int.reduceAdd, Int.reduceSub, Int.reduceMul, Int.reduceNeg, Int.reduceToNat, Int.toNat_natCast, ↓kk_ck, ↓kk_im, ↓kk_in, s_276_0, s_276_7, s_276_8, s_276_27, s_276_33, s_276_37, s_276_44, s_276_45, s_276_74, s_276_80, s_276_95, s_276_101, s_276_107, s_276_114, s_276_118, s_276_4, s_276_12, s_276_41, s_276_50, s_276_84, s_276_111, s_276_16, s_276_55, s_276_88, s_276_17, s_276_62, s_276_89, s_276_24, s_276_68, s_276_71, R1, k_269, k_267b hY X]
            exact this
      clear hQ1 hQ0 i2h hg
      simp (disch := omega) only [Option.toList_some, Option.toList_none, List.nil_append, List.cons_append, List.append_nil, true_and, and_true, not_true_eq_false, not_false_eq_true, true_implies, false_implies, implies_true, and_self, Int.reduceLT, Int.reduceLE, Int.reduceEq, Int.reduceNe, Int.reduceAdd, Int.reduceSub, Int.reduceMul, Int.reduceNeg, Int.reduceToNat, Int.toNat_natCast, ↓kk_ck, ↓kk_im, ↓kk_in, e_276, s_276_0, s_276_7, s_276_8, s_276_27, s_276_33, s_276_37, s_276_44, s_276_45, s_276_74, s_276_80, s_276_95, s_276_101, s_276_107, s_276_114, s_276_118, s_276_4, s_276_12, s_276_41, s_276_50, s_276_84, s_276_111, s_276_16, s_276_55, s_276_88, s_276_17, s_276_62, s_276_89, s_276_24, s_276_68, s_276_71, R1, R12, u1, u2, k_264g hY h18, h16, p0, hc, k_269, ne_eq, vi_inc, vi_ms_rs, hM1]
      exact cont
  · rw [if_neg hc] at hg
    by_cases hw : (tCd b n i = 50 ∧ tVl b n i ≤ 1000) ∨ (8 ≤ tCd b n i ∧ tCd b n i ≤ 13)
    · rw [if_pos hw] at hg
      have L := fun {D : Nat} {K : Option vi_V → vi_W → Prop} (hD : 3 ≤ D) => @k_268 D K Y M nn n t b f hY hT i l h112 hi hl hD
      have done : Q none (Y, vi_rs M 112 (if l = 50 then qRow f i 51 (tI b n i : Int) else qRow f (i + 1) (l + 1) (-1)), nn) := by
        by_cases h50 : l = 50
        · rw [if_pos h50] at hg ⊢
          cases hg
          exact hQ0 rfl hi 51
        · rw [if_neg h50] at hg ⊢
          cases hg
          exact hQ1 rfl (show i ≤ i + 1 by omega) (qTk_i hT hi (by omega)) (show l + 1 ≤ 50 by omega)
      clear hQ1 hQ0 i2h hg
      by_cases h50 : tCd b n i = 50
      · have hv : tVl b n i ≤ 1000 := by omega
        simp (disch := omega) only [Option.toList_some, Option.toList_none, List.nil_append, List.cons_append, List.append_nil, true_and, and_true, not_true_eq_false, not_false_eq_true, true_implies, false_implies, implies_true, and_self, Int.reduceLT, Int.reduceLE, Int.reduceEq, Int.reduceNe, Int.reduceAdd, Int.reduceSub, Int.reduceMul, Int.reduceNeg, Int.reduceToNat, Int.toNat_natCast, ↓kk_ck, ↓kk_im, ↓kk_in, e_276, s_276_0, s_276_7, s_276_8, s_276_27, s_276_33, s_276_37, s_276_44, s_276_45, s_276_74, s_276_80, s_276_95, s_276_101, s_276_107, s_276_114, s_276_118, s_276_4, s_276_12, s_276_41, s_276_50, s_276_84, s_276_111, s_276_16, s_276_55, s_276_88, s_276_17, s_276_62, s_276_89, s_276_24, s_276_68, s_276_71, R1, R12, R13, u1, u2, v1, v2, k_264g hY h18, h16, p0, p1, h50, k_269, ne_eq, L]
        exact done
      · simp (disch := omega) only [Option.toList_some, Option.toList_none, List.nil_append, List.cons_append, List.append_nil, true_and, and_true, not_true_eq_false, not_false_eq_true, true_implies, false_implies, implies_true, and_self, Int.reduceLT, Int.reduceLE, Int.reduceEq, Int.reduceNe, Int.reduceAdd, Int.reduceSub, Int.reduceMul, Int.reduceNeg, Int.reduceToNat, Int.toNat_natCast, ↓kk_ck, ↓kk_im, ↓kk_in, e_276, s_276_0, s_276_7, s_276_8, s_276_27, s_276_33, s_276_37, s_276_44, s_276_45, s_276_74, s_276_80, s_276_95, s_276_101, s_276_107, s_276_114, s_276_118, s_276_4, s_276_12, s_276_41, s_276_50, s_276_84, s_276_111, s_276_16, s_276_55, s_276_88, s_276_17, s_276_62, s_276_89, s_276_24, s_276_68, s_276_71, R1, R12, R13, u1, u2, v1, v2, k_264g hY h18, h16, p0, p1, hc, h50, k_269, ne_eq, L]
        exact done
    · rw [if_neg hw] at hg
      cases hg
      have := hQ0 rfl hi l
      clear hQ1 hQ0 i2h
      by_cases h50 : tCd b n i = 50
      · have hv : ¬ tVl b n i ≤ 1000 := fun q => hw (.inl ⟨h50, q⟩)
        simp (disch := omega) only [Option.toList_some, Option.toList_none, List.nil_append, List.cons_append, List.append_nil, true_and, and_true, not_true_eq_false, not_false_eq_true, true_implies, false_implies, implies_true, and_self, Int.reduceLT, Int.reduceLE, Int.reduceEq, Int.reduceNe, Int.reduceAdd, Int.reduceSub, Int.reduceMul, Int.reduceNeg, Int.reduceToNat, Int.toNat_natCast, ↓kk_ck, ↓kk_im, ↓kk_in, e_276, s_276_0, s_276_7, s_276_8, s_276_27, s_276_33, s_276_37, s_276_44, s_276_45, s_276_74, s_276_80, s_276_95, s_276_101, s_276_107, s_276_114, s_276_118, s_276_4, s_276_12, s_276_41, s_276_50, s_276_84, s_276_111, s_276_16, s_276_55, s_276_88, s_276_17, s_276_62, s_276_89, s_276_24, s_276_68, s_276_71, R1, R12, R13, u1, u2, v1, v2, k_264g hY h18, h16, p0, p1, h50, k_269, ne_eq, k_265g hY hT h112 hi]
        exact this
      · have hn : ¬ (8 ≤ tCd b n i ∧ tCd b n i ≤ 13) := fun q => hw (.inr q)
        by_cases h9 : tCd b n i < 8
        · simp (disch := omega) only [Option.toList_some, Option.toList_none, List.nil_append, List.cons_append, List.append_nil, true_and, and_true, not_true_eq_false, not_false_eq_true, true_implies, false_implies, implies_true, and_self, Int.reduceLT, Int.reduceLE, Int.reduceEq, Int.reduceNe, Int.reduceAdd, Int.reduceSub, Int.reduceMul, Int.reduceNeg, Int.reduceToNat, Int.toNat_natCast, ↓kk_ck, ↓kk_im, ↓kk_in, e_276, s_276_0, s_276_7, s_276_8, s_276_27, s_276_33, s_276_37, s_276_44, s_276_45, s_276_74, s_276_80, s_276_95, s_276_101, s_276_107, s_276_114, s_276_118, s_276_4, s_276_12, s_276_41, s_276_50, s_276_84, s_276_111, s_276_16, s_276_55, s_276_88, s_276_17, s_276_62, s_276_89, s_276_24, s_276_68, s_276_71, R1, R12, R13, u1, u2, v1, v2, k_264g hY h18, h16, p0, p1, hc, h50, k_269, ne_eq, k_265g hY hT h112 hi]
          exact this
        · simp (disch := omega) only [Option.toList_some, Option.toList_none, List.nil_append, List.cons_append, List.append_nil, true_and, and_true, not_true_eq_false, not_false_eq_true, true_implies, false_implies, implies_true, and_self, Int.reduceLT, Int.reduceLE, Int.reduceEq, Int.reduceNe, Int.reduceAdd, Int.reduceSub, Int.reduceMul, Int.reduceNeg, Int.reduceToNat, Int.toNat_natCast, ↓kk_ck, ↓kk_im, ↓kk_in, e_276, s_276_0, s_276_7, s_276_8, s_276_27, s_276_33, s_276_37, s_276_44, s_276_45, s_276_74, s_276_80, s_276_95, s_276_101, s_276_107, s_276_114, s_276_118, s_276_4, s_276_12, s_276_41, s_276_50, s_276_84, s_276_111, s_276_16, s_276_55, s_276_88, s_276_17, s_276_62, s_276_89, s_276_24, s_276_68, s_276_71, R1, R12, R13, u1, u2, v1, v2, k_264g hY h18, h16, p0, p1, hc, h50, k_269, ne_eq, k_265g hY hT h112 hi]
          exact this
theorem qX_s (hY : kY Y 151) (i5h : qM Y nn f b n t fu 271 5 5) (i2h : qM Y nn f b n t fu 274 2 2) : qX Y nn f b n t (fu + 1) := by
  intro D dp i l M a r x2 l3 Q hg hdp hD hT h112 hi hl hQ1 hQ0
  obtain ⟨R1, -, -, -, -, -, -, -, R12, -⟩ := y_112 hY (by omega)
  obtain ⟨u1, u2⟩ := y_120 hY (by omega)
  have h18 : M 112 18 = -1 := by rw [h112]; rfl
  have h16 : M 112 16 = (i : Int) := by rw [h112]; rfl
  have ht := hT.1
  obtain ⟨p0, -, -⟩ := hT.2.2 i hi
  rw [rdP] at hg
  by_cases hc : tCd b n i = 140
  · rw [if_pos hc] at hg
    by_cases h8 : dp = 8
    · rw [if_pos h8] at hg
      cases hg
      have := hQ0 rfl hi l
      have X := q18 (M := M) (g := f) (i := i) (l := l) (k := tI b n i)
      clear hQ1 hQ0 i2h i5h
      subst h8
      simp (disch := omega) only [Option.toList_some, Option.toList_none, List.nil_append, List.cons_append, List.append_nil, true_and, and_true, not_true_eq_false, not_false_eq_true, true_implies, false_implies, implies_true, and_self, Int.reduceLT, Int.reduceLE, Int.reduceEq, Int.reduceNe, Int.reduceAdd, Int.reduceSub, Int.reduceMul, Int.reduceNeg, Int.reduceToNat, Int.toNat_natCast, ↓kk_ck, ↓kk_im, ↓kk_in, s_273_0, s_273_6, s_273_16, s_273_23, s_273_24, s_273_43, s_273_49, s_273_53, s_273_60, s_273_61, s_273_90, s_273_107, s_273_119, s_273_128, s_273_133, s_273_12, s_273_20, s_273_28, s_273_57, s_273_66, s_273_95, s_273_113, s_273_125, s_273_32, s_273_71, s_273_101, s_273_116, s_273_33, s_273_78, s_273_104, s_273_40, s_273_84, s_273_87, R1, R12, u1, u2, k_264g hY h18, h16, p0, hc, k_269, ne_eq, k_265g hY hT h112 hi, k_264b hY X]
      exact this
    · rw [if_neg h8] at hg
      have hi1 := qTk_i hT hi (by omega)
      generalize hM1 : vi_rs M 112 (vi_u (M 112) 16 ((i + 1 : Nat) : Int)) = M1
      have m1 : M1 112 = qRow f (i + 1) l (-1) := by rw [← hM1, vi_rs_s, h112]; exact qRow_16
      have T1' : qTk M1 b n t := by rw [← hM1]; exact qTk_r hT
      have e1 : ∀ g, vi_rs M1 112 g = vi_rs M 112 g := fun g => by rw [← hM1, vi_rs_rs]
      have cont : vi_call GG D 271 [.inr (.inr 112), .inl ((dp + 1 : Nat) : Int)] (Y, M1, nn) (fun r w' => vi_ok GG D 273 78 [some (.inr (.inr 112)), some (.inl (dp : Int)), some (.inl x2), some (.inl 140)] r.toList w' Q) := by
        cases hr : rdP (tCd b n) (tVl b n) fu 5 (dp + 1) (i + 1) l a with
        | none => rw [hr] at hg; cases hg
        | some r0 =>
          obtain ⟨ok, i2, l2, c⟩ := r0
          rw [hr] at hg
          refine i5h D (dp + 1) (i + 1) l M1 a (ok, i2, l2, c) _ hr (by omega) (by omega) T1' m1 hi1 hl (fun hok hii hi2 hl2 => ?_) (fun hok hi2 l' => ?_)
          · obtain rfl : ok = true := hok
            dsimp only at hg hi2 hl2 hii
            rw [e1]
            have P := fun {D : Nat} {K : Option vi_V → vi_W → Prop} (hD : 3 ≤ D) => @k_267g D K Y (vi_rs M 112 (qRow f i2 l2 (-1))) nn n t b f hY (qTk_r hT) i2 l2 vi_rs_s hi2 141 hD
            by_cases h93 : tCd b n i2 = 141
            · rw [if_pos h93] at hg
              rw [if_pos h93, vi_rs_rs] at P
              cases hg
              have := hQ1 rfl (show i ≤ i2 + 1 by omega) (qTk_i hT hi2 (by omega)) hl2
              clear hQ1 hQ0 i2h i5h
              simp (disch := omega) only [Option.toList_some, Option.toList_none, List.nil_append, List.cons_append, List.append_nil, true_and, and_true, not_true_eq_false, not_false_eq_true, true_implies, false_implies, implies_true, and_self, Int.reduceLT, Int.reduceLE, Int.reduceEq, Int.reduceNe, Int.reduceAdd, Int.reduceSub, Int.reduceMul, Int.reduceNeg, Int.reduceToNat, Int.toNat_natCast, ↓kk_ck, ↓kk_im, ↓kk_in, s_273_0, s_273_6, s_273_16, s_273_23, s_273_24, s_273_43, s_273_49, s_273_53, s_273_60, s_273_61, s_273_90, s_273_107, s_273_119, s_273_128, s_273_133, s_273_12, s_273_20, s_273_28, s_273_57, s_273_66, s_273_95, s_273_113, s_273_125, s_273_32, s_273_71, s_273_101, s_273_116, s_273_33, s_273_78, s_273_104, s_273_40, s_273_84, s_273_87, R1, k_269, P]
              exact this
            · rw [if_neg h93] at hg
              rw [if_neg h93, vi_rs_rs] at P
              cases hg
              have := hQ0 rfl hi2 l2
              clear hQ1 hQ0 i2h i5h
              simp (disch := omega) only [Option.toList_some, Option.toList_none, List.nil_append, List.cons_append, List.append_nil, true_and, and_true, not_true_eq_false, not_false_eq_true, true_implies, false_implies, implies_true, and_self, Int.reduceLT, Int.reduceLE, Int.reduceEq, Int.reduceNe, Int.reduceAdd, Int.reduceSub, Int.reduceMul, Int.reduceNeg, Int.reduceToNat, Int.toNat_natCast, ↓kk_ck, ↓kk_im, ↓kk_in, s_273_0, s_273_6, s_273_16, s_273_23, s_273_24, s_273_43, s_273_49, s_273_53, s_273_60, s_273_61, s_273_90, s_273_107, s_273_119, s_273_128, s_273_133, s_273_12, s_273_20, s_273_28, s_273_57, s_273_66, s_273_95, s_273_113, s_273_125, s_273_32, s_273_71, s_273_101, s_273_116, s_273_33, s_273_78, s_273_104, s_273_40, s_273_84, s_273_87, R1, k_269, P]
              exact this
          · obtain rfl : ok = false := hok
            dsimp only at hg hi2
            cases hg
            rw [e1]
            have := hQ0 rfl hi2 l'
            have X := q18 (M := M) (g := f) (i := i2) (l := l') (k := tI b n i2)
            clear hQ1 hQ0 i2h i5h
            simp (disch := omega) only [Option.toList_some, Option.toList_none, List.nil_append, List.cons_append, List.append_nil, true_and, and_true, not_true_eq_false, not_false_eq_true, true_implies, false_implies, implies_true, and_self, Int.reduceLT, Int.reduceLE, Int.reduceEq, Int.reduceNe, Int.reduceAdd, Int.reduceSub, Int.reduceMul, Int.reduceNeg, Int.reduceToNat, Int.toNat_natCast, ↓kk_ck, ↓kk_im, ↓kk_in, s_273_0, s_273_6, s_273_16, s_273_23, s_273_24, s_273_43, s_273_49, s_273_53, s_273_60, s_273_61, s_273_90, s_273_107, s_273_119, s_273_128, s_273_133, s_273_12, s_273_20, s_273_28, s_273_57, s_273_66, s_273_95, s_273_113, s_273_125, s_273_32, s_273_71, s_273_101, s_273_116, s_273_33, s_273_78, s_273_104, s_273_40, s_273_84, s_273_87, R1, k_269, k_267b hY X]
            exact this
      clear hQ1 hQ0 i2h i5h hg
      simp (disch := omega) only [Option.toList_some, Option.toList_none, List.nil_append, List.cons_append, List.append_nil, true_and, and_true, not_true_eq_false, not_false_eq_true, true_implies, false_implies, implies_true, and_self, Int.reduceLT, Int.reduceLE, Int.reduceEq, Int.reduceNe, Int.reduceAdd, Int.reduceSub, Int.reduceMul, Int.reduceNeg, Int.reduceToNat, Int.toNat_natCast, ↓kk_ck, ↓kk_im, ↓kk_in, s_273_0, s_273_6, s_273_16, s_273_23, s_273_24, s_273_43, s_273_49, s_273_53, s_273_60, s_273_61, s_273_90, s_273_107, s_273_119, s_273_128, s_273_133, s_273_12, s_273_20, s_273_28, s_273_57, s_273_66, s_273_95, s_273_113, s_273_125, s_273_32, s_273_71, s_273_101, s_273_116, s_273_33, s_273_78, s_273_104, s_273_40, s_273_84, s_273_87, R1, R12, u1, u2, k_264g hY h18, h16, p0, hc, k_269, ne_eq, vi_inc, vi_ms_rs, hM1]
      exact cont
  · rw [if_neg hc] at hg
    have cont : vi_call GG D 274 [.inr (.inr 112), .inl (dp : Int)] (Y, M, nn) (fun r w' => vi_ok GG D 273 95 [some (.inr (.inr 112)), some (.inl (dp : Int)), some (.inl x2), some (.inl (tCd b n i))] r.toList w' Q) := by
      cases hr : rdP (tCd b n) (tVl b n) fu 2 dp i l a with
      | none => rw [hr] at hg; cases hg
      | some r0 =>
        obtain ⟨ok, i2, l2, c⟩ := r0
        rw [hr] at hg
        refine i2h D dp i l M a (ok, i2, l2, c) _ hr (by omega) (by omega) hT h112 hi hl (fun hok hii hi2 hl2 => ?_) (fun hok hi2 l' => ?_)
        · obtain rfl : ok = true := hok
          dsimp only at hg hi2 hl2 hii
          generalize hM2 : vi_rs M 112 (qRow f i2 l2 (-1)) = M2
          have m2 : M2 112 = qRow f i2 l2 (-1) := by rw [← hM2, vi_rs_s]
          have T2 : qTk M2 b n t := by rw [← hM2]; exact qTk_r hT
          have e2 : ∀ g, vi_rs M2 112 g = vi_rs M 112 g := fun g => by rw [← hM2, vi_rs_rs]
          have A := fun {D : Nat} {K : Option vi_V → vi_W → Prop} (hD : 2 ≤ D) => @k_266g D K Y M2 nn n t b f hY T2 i2 l2 m2 hi2 160 hD
          have B := fun {D : Nat} {K : Option vi_V → vi_W → Prop} (hD : 2 ≤ D) => @k_266g D K Y M2 nn n t b f hY T2 i2 l2 m2 hi2 162 hD
          have C := fun {D : Nat} {K : Option vi_V → vi_W → Prop} (hD : 3 ≤ D) => @k_267g D K Y M2 nn n t b f hY T2 i2 l2 m2 hi2 161 hD
          by_cases hq : tCd b n i2 = 160 ∨ tCd b n i2 = 162 ∨ tCd b n i2 = 161
          · rw [if_pos hq] at hg
            have hi3 := qTk_i hT hi2 (by omega)
            generalize hM3 : vi_rs M2 112 (qRow f (i2 + 1) l2 (-1)) = M3
            have m3 : M3 112 = qRow f (i2 + 1) l2 (-1) := by rw [← hM3, vi_rs_s]
            have T3 : qTk M3 b n t := by rw [← hM3]; exact qTk_r T2
            have e3 : ∀ g, vi_rs M3 112 g = vi_rs M 112 g := fun g => by rw [← hM3, vi_rs_rs, e2]
            have main2 : vi_call GG D 274 [.inr (.inr 112), .inl (dp : Int)] (Y, M3, nn) (fun r w' => vi_ok GG D 273 133 [some (.inr (.inr 112)), some (.inl (dp : Int)), some (.inl x2), some (.inl (tCd b n i))] r.toList w' Q) := by
              cases hr2 : rdP (tCd b n) (tVl b n) fu 2 dp (i2 + 1) l2 c with
              | none => rw [hr2] at hg; cases hg
              | some r2 =>
                obtain ⟨ok2, i4, l4, c2⟩ := r2
                rw [hr2] at hg
                refine i2h D dp (i2 + 1) l2 M3 c (ok2, i4, l4, c2) _ hr2 (by omega) (by omega) T3 m3 hi3 hl2 (fun hok hii4 hi4 hl4 => ?_) (fun hok hi4 l' => ?_)
                · obtain rfl : ok2 = true := hok
                  dsimp only at hg hi4 hl4 hii4
                  cases hg
                  rw [e3]
                  have := hQ1 rfl (show i ≤ i4 by omega) hi4 hl4
                  clear hQ1 hQ0 i2h i5h A B C
                  simp (disch := omega) only [Option.toList_some, Option.toList_none, List.nil_append, List.cons_append, List.append_nil, true_and, and_true, not_true_eq_false, not_false_eq_true, true_implies, false_implies, implies_true, and_self, Int.reduceLT, Int.reduceLE, Int.reduceEq, Int.reduceNe, Int.reduceAdd, Int.reduceSub, Int.reduceMul, Int.reduceNeg, Int.reduceToNat, Int.toNat_natCast, ↓kk_ck, ↓kk_im, ↓kk_in, s_273_133]
                  exact this
                · obtain rfl : ok2 = false := hok
                  dsimp only at hg hi4
                  cases hg
                  rw [e3]
                  have := hQ0 rfl hi4 l'
                  clear hQ1 hQ0 i2h i5h A B C
                  simp (disch := omega) only [Option.toList_some, Option.toList_none, List.nil_append, List.cons_append, List.append_nil, true_and, and_true, not_true_eq_false, not_false_eq_true, true_implies, false_implies, implies_true, and_self, Int.reduceLT, Int.reduceLE, Int.reduceEq, Int.reduceNe, Int.reduceAdd, Int.reduceSub, Int.reduceMul, Int.reduceNeg, Int.reduceToNat, Int.toNat_natCast, ↓kk_ck, ↓kk_im, ↓kk_in, s_273_133]
                  exact this
            by_cases q1 : tCd b n i2 = 160
            · rw [decide_eq_true q1, if_pos q1, hM3] at A
              clear hQ1 hQ0 i2h i5h hg B C
              simp (disch := omega) only [Option.toList_some, Option.toList_none, List.nil_append, List.cons_append, List.append_nil, true_and, and_true, not_true_eq_false, not_false_eq_true, true_implies, false_implies, implies_true, and_self, Int.reduceLT, Int.reduceLE, Int.reduceEq, Int.reduceNe, Int.reduceAdd, Int.reduceSub, Int.reduceMul, Int.reduceNeg, Int.reduceToNat, Int.toNat_natCast, ↓kk_ck, ↓kk_im, ↓kk_in, s_273_95, s_273_101, s_273_104, s_273_128, R1, k_269, A, vi_bt, ne_eq]
              exact main2
            · rw [decide_eq_false q1, if_neg q1, vi_rs_id m2] at A
              by_cases q2 : tCd b n i2 = 162
              · rw [decide_eq_true q2, if_pos q2, hM3] at B
                clear hQ1 hQ0 i2h i5h hg C
                simp (disch := omega) only [Option.toList_some, Option.toList_none, List.nil_append, List.cons_append, List.append_nil, true_and, and_true, not_true_eq_false, not_false_eq_true, true_implies, false_implies, implies_true, and_self, Int.reduceLT, Int.reduceLE, Int.reduceEq, Int.reduceNe, Int.reduceAdd, Int.reduceSub, Int.reduceMul, Int.reduceNeg, Int.reduceToNat, Int.toNat_natCast, ↓kk_ck, ↓kk_im, ↓kk_in, s_273_95, s_273_101, s_273_104, s_273_107, s_273_113, s_273_116, s_273_128, R1, k_269, A, B, vi_bt, vi_bf, ne_eq]
                exact main2
              · have q3 : tCd b n i2 = 161 := by omega
                rw [decide_eq_false q2, if_neg q2, vi_rs_id m2] at B
                rw [if_pos q3, hM3] at C
                clear hQ1 hQ0 i2h i5h hg
                simp (disch := omega) only [Option.toList_some, Option.toList_none, List.nil_append, List.cons_append, List.append_nil, true_and, and_true, not_true_eq_false, not_false_eq_true, true_implies, false_implies, implies_true, and_self, Int.reduceLT, Int.reduceLE, Int.reduceEq, Int.reduceNe, Int.reduceAdd, Int.reduceSub, Int.reduceMul, Int.reduceNeg, Int.reduceToNat, Int.toNat_natCast, ↓kk_ck, ↓kk_im, ↓kk_in, s_273_95, s_273_101, s_273_104, s_273_107, s_273_113, s_273_116, s_273_119, s_273_125, s_273_128, R1, k_269, A, B, C, vi_bf, ne_eq]
                exact main2
          · rw [if_neg hq] at hg
            cases hg
            have := hQ0 rfl hi2 l2
            rw [← e2] at this
            have X := q18 (M := M2) (g := f) (i := i2) (l := l2) (k := tI b n i2)
            rw [decide_eq_false (fun k => hq (.inl k)), if_neg (fun k => hq (.inl k)), vi_rs_id m2] at A
            rw [decide_eq_false (fun k => hq (.inr (.inl k))), if_neg (fun k => hq (.inr (.inl k))), vi_rs_id m2] at B
            rw [if_neg (fun k => hq (.inr (.inr k)))] at C
            clear hQ1 hQ0 i2h i5h
            simp (disch := omega) only [Option.toList_some, Option.toList_none, List.nil_append, List.cons_append, List.append_nil, true_and, and_true, not_true_eq_false, not_false_eq_true, true_implies, false_implies, implies_true, and_self, Int.reduceLT, Int.reduceLE, Int.reduceEq, Int.reduceNe, Int.reduceAdd, Int.reduceSub, Int.reduceMul, Int.reduceNeg, Int.reduceToNat, Int.toNat_natCast, ↓kk_ck, ↓kk_im, ↓kk_in, s_273_0, s_273_6, s_273_16, s_273_23, s_273_24, s_273_43, s_273_49, s_273_53, s_273_60, s_273_61, s_273_90, s_273_107, s_273_119, s_273_128, s_273_133, s_273_12, s_273_20, s_273_28, s_273_57, s_273_66, s_273_95, s_273_113, s_273_125, s_273_32, s_273_71, s_273_101, s_273_116, s_273_33, s_273_78, s_273_104, s_273_40, s_273_84, s_273_87, R1, k_269, A, B, C, vi_bf, ne_eq, k_274b hY X]
            exact this
        · obtain rfl : ok = false := hok
          dsimp only at hg hi2
          cases hg
          have := hQ0 rfl hi2 l'
          have X := q18 (M := M) (g := f) (i := i2) (l := l') (k := tI b n i2)
          clear hQ1 hQ0 i2h i5h
          simp (disch := omega) only [Option.toList_some, Option.toList_none, List.nil_append, List.cons_append, List.append_nil, true_and, and_true, not_true_eq_false, not_false_eq_true, true_implies, false_implies, implies_true, and_self, Int.reduceLT, Int.reduceLE, Int.reduceEq, Int.reduceNe, Int.reduceAdd, Int.reduceSub, Int.reduceMul, Int.reduceNeg, Int.reduceToNat, Int.toNat_natCast, ↓kk_ck, ↓kk_im, ↓kk_in, s_273_0, s_273_6, s_273_16, s_273_23, s_273_24, s_273_43, s_273_49, s_273_53, s_273_60, s_273_61, s_273_90, s_273_107, s_273_119, s_273_128, s_273_133, s_273_12, s_273_20, s_273_28, s_273_57, s_273_66, s_273_95, s_273_113, s_273_125, s_273_32, s_273_71, s_273_101, s_273_116, s_273_33, s_273_78, s_273_104, s_273_40, s_273_84, s_273_87, R1, k_269, k_266b hY X, k_267b hY X, k_274b hY X, ne_eq]
          exact this
    clear hQ1 hQ0 i2h i5h hg
    simp (disch := omega) only [Option.toList_some, Option.toList_none, List.nil_append, List.cons_append, List.append_nil, true_and, and_true, not_true_eq_false, not_false_eq_true, true_implies, false_implies, implies_true, and_self, Int.reduceLT, Int.reduceLE, Int.reduceEq, Int.reduceNe, Int.reduceAdd, Int.reduceSub, Int.reduceMul, Int.reduceNeg, Int.reduceToNat, Int.toNat_natCast, ↓kk_ck, ↓kk_im, ↓kk_in, s_273_0, s_273_6, s_273_16, s_273_23, s_273_24, s_273_43, s_273_49, s_273_53, s_273_60, s_273_61, s_273_90, s_273_107, s_273_119, s_273_128, s_273_133, s_273_12, s_273_20, s_273_28, s_273_57, s_273_66, s_273_95, s_273_113, s_273_125, s_273_32, s_273_71, s_273_101, s_273_116, s_273_33, s_273_78, s_273_104, s_273_40, s_273_84, s_273_87, R1, R12, u1, u2, k_264g hY h18, h16, p0, hc, k_269, ne_eq]
    exact cont
theorem qM3_s (hY : kY Y 151) (ix : qX Y nn f b n t fu) : qM Y nn f b n t (fu + 1) 273 3 3 := by
  intro D dp i l M a r Q hg hdp hD hT h112 hi hl hQ1 hQ0
  obtain ⟨R1, -⟩ := y_112 hY (by omega)
  obtain ⟨D, rfl⟩ : ∃ k, D = k + 1 := ⟨D - 1, by omega⟩
  have ht := hT.1
  have hz : ∀ i, t ≤ i → tCd b n i = 0 := fun j hj => tCd_e (tI_mono hj hT.2.1)
  have hcl := gN_le hz 400 i hi
  rw [rdP] at hg
  generalize hcnt : gN (tCd b n) 400 i = cnt at hg hcl
  have go : ∀ l3 : Option vi_V, vi_ok GG D 273 16 [some (.inr (.inr 112)), some (.inl (dp : Int)), some (.inl 0), l3] [] (Y, vi_rs M 112 (qRow f (i + cnt) l (-1)), nn) Q := by
    intro l3
    cases hr : rdP (tCd b n) (tVl b n) fu 10 dp (i + cnt) l a with
    | none => rw [hr] at hg; cases hg
    | some r0 =>
      obtain ⟨ok, i2, l2, c⟩ := r0
      rw [hr] at hg
      refine ix D dp (i + cnt) l (vi_rs M 112 (qRow f (i + cnt) l (-1))) a (ok, i2, l2, c) 0 l3 Q hr hdp (by omega) (qTk_r hT) vi_rs_s hcl hl (fun hok hii hi2 hl2 => ?_) (fun hok hi2 l' => ?_)
      · obtain rfl : ok = true := hok
        dsimp only at hg hi2 hl2 hii
        cases hg
        rw [vi_rs_rs]
        exact hQ1 rfl (show i ≤ i2 by omega) hi2 hl2
      · obtain rfl : ok = false := hok
        dsimp only at hg hi2
        cases hg
        rw [vi_rs_rs]
        exact hQ0 rfl hi2 l'
  clear hQ1 hQ0 ix hg
  have loop : ∀ (k j : Nat), k = 401 - j → j ≤ 400 → j + gN (tCd b n) (400 - j) (i + j) = cnt → i + j ≤ t → ∀ (M1 : vi_M) (l3 : Option vi_V), M1 = vi_rs M 112 (qRow f (i + j) l (-1)) → vi_ok GG D 273 2 [some (.inr (.inr 112)), some (.inl (dp : Int)), some (.inl 1), l3] [] (Y, M1, nn) Q := by
    intro k
    induction k with
    | zero => intro j h1 h2; omega
    | succ k ih =>
      intro j hk hj h1 h2 M1 l3 hM1
      have m1 : M1 112 = qRow f (i + j) l (-1) := by rw [hM1, vi_rs_s]
      have T1' : qTk M1 b n t := by rw [hM1]; exact qTk_r hT
      have T := fun {D : Nat} {K : Option vi_V → vi_W → Prop} (hD : 2 ≤ D) => @k_266g D K Y M1 nn n t b f hY T1' (i + j) l m1 h2 7 hD
      rw [s_273_2]
      by_cases hc : tCd b n (i + j) = 7
      · have hi3 := qTk_i hT h2 (by omega)
        rw [decide_eq_true hc, if_pos hc] at T
        rw [show 400 - j = (399 - j) + 1 by omega, gN, if_pos hc] at h1
        have := ih (j + 1) (by omega) (by omega) (by rw [show 400 - (j + 1) = 399 - j by omega, show i + (j + 1) = i + j + 1 by omega]; omega) (by omega) (vi_rs M1 112 (qRow f (i + j + 1) l (-1))) l3 (by rw [hM1, vi_rs_rs]; rfl)
        clear ih go
        simp (disch := omega) only [Option.toList_some, Option.toList_none, List.nil_append, List.cons_append, List.append_nil, true_and, and_true, not_true_eq_false, not_false_eq_true, true_implies, false_implies, implies_true, and_self, Int.reduceLT, Int.reduceLE, Int.reduceEq, Int.reduceNe, Int.reduceAdd, Int.reduceSub, Int.reduceMul, Int.reduceNeg, Int.reduceToNat, Int.toNat_natCast, ↓kk_ck, ↓kk_im, ↓kk_in, s_273_6, s_273_12, R1, T, vi_bt]
        exact this
      · rw [decide_eq_false hc, if_neg hc, vi_rs_id m1] at T
        have hj0 : gN (tCd b n) (400 - j) (i + j) = 0 := by
          cases hh : 400 - j with
          | zero => rfl
          | succ m => rw [gN, if_neg hc]
        obtain rfl : cnt = j := by omega
        have := go l3
        rw [← hM1] at this
        clear ih go
        simp (disch := omega) only [Option.toList_some, Option.toList_none, List.nil_append, List.cons_append, List.append_nil, true_and, and_true, not_true_eq_false, not_false_eq_true, true_implies, false_implies, implies_true, and_self, Int.reduceLT, Int.reduceLE, Int.reduceEq, Int.reduceNe, Int.reduceAdd, Int.reduceSub, Int.reduceMul, Int.reduceNeg, Int.reduceToNat, Int.toNat_natCast, ↓kk_ck, ↓kk_im, ↓kk_in, s_273_6, s_273_12, R1, T, vi_bf]
        rw [s_273_2]
        simp (disch := omega) only [Option.toList_some, Option.toList_none, List.nil_append, List.cons_append, List.append_nil, true_and, and_true, not_true_eq_false, not_false_eq_true, true_implies, false_implies, implies_true, and_self, Int.reduceLT, Int.reduceLE, Int.reduceEq, Int.reduceNe, Int.reduceAdd, Int.reduceSub, Int.reduceMul, Int.reduceNeg, Int.reduceToNat, Int.toNat_natCast, ↓kk_ck, ↓kk_im, ↓kk_in, ne_eq]
        exact this
  have := loop 401 0 rfl (by omega) (by rw [Nat.zero_add, Nat.add_zero]; exact hcnt) hi M none (by rw [Nat.add_zero, vi_rs_id h112])
  clear loop go
  simp (disch := omega) only [Option.toList_some, Option.toList_none, List.nil_append, List.cons_append, List.append_nil, true_and, and_true, not_true_eq_false, not_false_eq_true, true_implies, false_implies, implies_true, and_self, Int.reduceLT, Int.reduceLE, Int.reduceEq, Int.reduceNe, Int.reduceAdd, Int.reduceSub, Int.reduceMul, Int.reduceNeg, Int.reduceToNat, Int.toNat_natCast, ↓kk_ck, ↓kk_im, ↓kk_in, e_273, s_273_0]
  exact this
theorem qAll (hY : kY Y 151) : ∀ fu, qM Y nn f b n t fu 276 0 0 ∧ qM Y nn f b n t fu 275 1 1 ∧ qM Y nn f b n t fu 274 2 2 ∧ qM Y nn f b n t fu 273 3 3 ∧ qM Y nn f b n t fu 272 4 4 ∧ qM Y nn f b n t fu 271 5 5 ∧ qL Y nn f b n t fu 275 6 1 ∧ qL Y nn f b n t fu 274 7 2 ∧ qL Y nn f b n t fu 272 8 4 ∧ qL Y nn f b n t fu 271 9 5 ∧ qX Y nn f b n t fu := by
  intro fu
  induction fu with
  | zero =>
    have m : ∀ m mode rk, qM Y nn f b n t 0 m mode rk := fun _ _ _ _ _ _ _ _ _ _ _ hg => by rw [rdP] at hg; exact absurd hg (by simp)
    have l : ∀ m mode rk, qL Y nn f b n t 0 m mode rk := fun _ _ _ _ _ _ _ _ _ _ _ hg => by rw [rdP] at hg; exact absurd hg (by simp)
    exact ⟨m _ _ _, m _ _ _, m _ _ _, m _ _ _, m _ _ _, m _ _ _, l _ _ _, l _ _ _, l _ _ _, l _ _ _, fun _ _ _ _ _ _ _ _ _ _ hg => by rw [rdP] at hg; exact absurd hg (by simp)⟩
  | succ fu ih =>
    obtain ⟨i0, i1, i2, i3, i4, i5, i6, i7, i8, i9, ix⟩ := ih
    exact ⟨qM0_s hY i2, qM1_s hY i0 i6, qM2_s hY i1 i7, qM3_s hY ix, qM4_s hY i3 i8, qM5_s hY i4 i9, qL6_s hY i0 i6, qL7_s hY i1 i7, qL8_s hY i3 i8, qL9_s hY i4 i9, qX_s hY i5 i2⟩
/-- a clause -/
theorem k_270 (hY : kY Y 151) (hD : 40 ≤ D) {i l : Nat} {r : Bool × Nat × Nat × gCla} (hg : rdC (tCd b n) (tVl b n) fu i l = some r) (hT : qTk M b n t) (h112 : M 112 = qRow f i l (-1)) (hi : i ≤ t) (hl : l ≤ 50) {Q : Option vi_V → vi_W → Prop} (hQ1 : r.1 = true → r.2.1 ≤ t → r.2.2.1 ≤ 50 → Q none (Y, vi_rs M 112 (qRow f r.2.1 r.2.2.1 (-1)), nn)) (hQ0 : r.1 = false → r.2.1 ≤ t → ∀ l', Q none (Y, vi_rs M 112 (qRow f r.2.1 l' (tI b n r.2.1 : Int)), nn)) : vi_call GG D 270 [.inr (.inr 112)] (Y, M, nn) Q := by
  obtain ⟨R1, -⟩ := y_112 hY (by omega)
  obtain ⟨-, -, j2, -, -, j5, -⟩ := qAll (nn := nn) (f := f) (b := b) (n := n) (t := t) hY fu
  obtain ⟨D, rfl⟩ : ∃ k, D = k + 1 := ⟨D - 1, by omega⟩
  have A := fun {D : Nat} {K : Option vi_V → vi_W → Prop} (hD : 2 ≤ D) => @k_266g D K Y M nn n t b f hY hT i l h112 hi 1 hD
  have B := fun {D : Nat} {K : Option vi_V → vi_W → Prop} (hD : 2 ≤ D) => @k_266g D K Y M nn n t b f hY hT i l h112 hi 2 hD
  have C := fun {D : Nat} {K : Option vi_V → vi_W → Prop} (hD : 3 ≤ D) => @k_267g D K Y M nn n t b f hY hT i l h112 hi 3 hD
  unfold rdC at hg
  by_cases hw : tCd b n i = 1 ∨ tCd b n i = 2 ∨ tCd b n i = 3
  · rw [if_pos hw] at hg
    have hi1 := qTk_i hT hi (by omega)
    have tail : ∀ (i2 l2 : Nat) (sd : Option gDen) (bb : gDen), i2 ≤ t → l2 ≤ 50 → (if tCd b n i2 = 4 then match rdP (tCd b n) (tVl b n) fu 5 0 (i2 + 1) l2 bb with
          | none => none
          | some (false, i3, l3, _) => some (false, i3, l3, 0, none, none)
          | some (true, i3, l3, cc) => some (true, i3, l3, tCd b n i - 1, sd, some cc) else some (true, i2, l2, tCd b n i - 1, sd, none)) = some r → vi_ok GG D 270 29 [some (.inr (.inr 112))] [] (Y, vi_rs M 112 (qRow f i2 l2 (-1)), nn) Q := by
      intro i2 l2 sd bb hi2 hl2 hg2
      have I := fun {D : Nat} {K : Option vi_V → vi_W → Prop} (hD : 2 ≤ D) => @k_266g D K Y (vi_rs M 112 (qRow f i2 l2 (-1))) nn n t b f hY (qTk_r hT) i2 l2 vi_rs_s hi2 4 hD
      simp only [vi_rs_rs] at I
      by_cases h4 : tCd b n i2 = 4
      · rw [if_pos h4] at hg2
        rw [decide_eq_true h4, if_pos h4] at I
        have hi3 := qTk_i hT hi2 (by omega)
        have cont : vi_call GG D 271 [.inr (.inr 112), .inl 0] (Y, vi_rs M 112 (qRow f (i2 + 1) l2 (-1)), nn) (fun r w' => vi_ok GG D 270 42 [some (.inr (.inr 112))] r.toList w' Q) := by
          cases hr : rdP (tCd b n) (tVl b n) fu 5 0 (i2 + 1) l2 bb with
          | none => rw [hr] at hg2; cases hg2
          | some r0 =>
            obtain ⟨ok, i3, l3, cc⟩ := r0
            rw [hr] at hg2
            refine j5 D 0 (i2 + 1) l2 _ bb (ok, i3, l3, cc) _ hr (by omega) (by omega) (qTk_r hT) vi_rs_s hi3 hl2 (fun hok hii hi3 hl3 => ?_) (fun hok hi3 l' => ?_)
            · obtain rfl : ok = true := hok
              dsimp only at hg2 hi3 hl3
              cases hg2
              rw [vi_rs_rs]
              have := hQ1 rfl hi3 hl3
              clear hQ1 hQ0 j2 j5 A B C
              simp (disch := omega) only [Option.toList_some, Option.toList_none, List.nil_append, List.cons_append, List.append_nil, true_and, and_true, not_true_eq_false, not_false_eq_true, true_implies, false_implies, implies_true, and_self, Int.reduceLT, Int.reduceLE, Int.reduceEq, Int.reduceNe, Int.reduceAdd, Int.reduceSub, Int.reduceMul, Int.reduceNeg, Int.reduceToNat, Int.toNat_natCast, ↓kk_ck, ↓kk_im, ↓kk_in, s_270_42]
              exact this
            · obtain rfl : ok = false := hok
              dsimp only at hg2 hi3
              cases hg2
              rw [vi_rs_rs]
              have := hQ0 rfl hi3 l'
              clear hQ1 hQ0 j2 j5 A B C
              simp (disch := omega) only [Option.toList_some, Option.toList_none, List.nil_append, List.cons_append, List.append_nil, true_and, and_true, not_true_eq_false, not_false_eq_true, true_implies, false_implies, implies_true, and_self, Int.reduceLT, Int.reduceLE, Int.reduceEq, Int.reduceNe, Int.reduceAdd, Int.reduceSub, Int.reduceMul, Int.reduceNeg, Int.reduceToNat, Int.toNat_natCast, ↓kk_ck, ↓kk_im, ↓kk_in, s_270_42]
              exact this
        clear hQ1 hQ0 j2 j5 A B C hg2 hg
        simp (disch := omega) only [Option.toList_some, Option.toList_none, List.nil_append, List.cons_append, List.append_nil, true_and, and_true, not_true_eq_false, not_false_eq_true, true_implies, false_implies, implies_true, and_self, Int.reduceLT, Int.reduceLE, Int.reduceEq, Int.reduceNe, Int.reduceAdd, Int.reduceSub, Int.reduceMul, Int.reduceNeg, Int.reduceToNat, Int.toNat_natCast, ↓kk_ck, ↓kk_im, ↓kk_in, s_270_0, s_270_8, s_270_16, s_270_24, s_270_29, s_270_37, s_270_42, s_270_5, s_270_13, s_270_21, s_270_34, R1, I, vi_bt]
        exact cont
      · rw [if_neg h4] at hg2
        rw [decide_eq_false h4, if_neg h4] at I
        cases hg2
        have := hQ1 rfl hi2 hl2
        clear hQ1 hQ0 j2 j5 A B C hg
        simp (disch := omega) only [Option.toList_some, Option.toList_none, List.nil_append, List.cons_append, List.append_nil, true_and, and_true, not_true_eq_false, not_false_eq_true, true_implies, false_implies, implies_true, and_self, Int.reduceLT, Int.reduceLE, Int.reduceEq, Int.reduceNe, Int.reduceAdd, Int.reduceSub, Int.reduceMul, Int.reduceNeg, Int.reduceToNat, Int.toNat_natCast, ↓kk_ck, ↓kk_im, ↓kk_in, s_270_0, s_270_8, s_270_16, s_270_24, s_270_29, s_270_37, s_270_42, s_270_5, s_270_13, s_270_21, s_270_34, R1, I, vi_bf]
        exact this
    by_cases h1 : tCd b n i = 1
    · rw [if_pos h1] at hg
      rw [decide_eq_true h1, if_pos h1] at A
      have cont : vi_call GG D 274 [.inr (.inr 112), .inl 0] (Y, vi_rs M 112 (qRow f (i + 1) l (-1)), nn) (fun r w' => vi_ok GG D 270 13 [some (.inr (.inr 112))] r.toList w' Q) := by
        cases hr : rdP (tCd b n) (tVl b n) fu 2 0 (i + 1) l (fun _ => none) with
        | none => rw [hr] at hg; cases hg
        | some r0 =>
          obtain ⟨ok, i2, l2, bb⟩ := r0
          rw [hr] at hg
          refine j2 D 0 (i + 1) l _ (fun _ => none) (ok, i2, l2, bb) _ hr (by omega) (by omega) (qTk_r hT) vi_rs_s hi1 hl (fun hok hii hi2 hl2 => ?_) (fun hok hi2 l' => ?_)
          · obtain rfl : ok = true := hok
            dsimp only at hg hi2 hl2
            rw [vi_rs_rs]
            have := tail i2 l2 (some bb) bb hi2 hl2 (by rw [if_pos h1] at hg; exact hg)
            clear hQ1 hQ0 j2 j5 A B C tail
            simp (disch := omega) only [Option.toList_some, Option.toList_none, List.nil_append, List.cons_append, List.append_nil, true_and, and_true, not_true_eq_false, not_false_eq_true, true_implies, false_implies, implies_true, and_self, Int.reduceLT, Int.reduceLE, Int.reduceEq, Int.reduceNe, Int.reduceAdd, Int.reduceSub, Int.reduceMul, Int.reduceNeg, Int.reduceToNat, Int.toNat_natCast, ↓kk_ck, ↓kk_im, ↓kk_in, s_270_13]
            exact this
          · obtain rfl : ok = false := hok
            dsimp only at hg hi2
            cases hg
            rw [vi_rs_rs]
            have := hQ0 rfl hi2 l'
            have X := q18 (M := M) (g := f) (i := i2) (l := l') (k := tI b n i2)
            clear hQ1 hQ0 j2 j5 A B C tail
            simp (disch := omega) only [Option.toList_some, Option.toList_none, List.nil_append, List.cons_append, List.append_nil, true_and, and_true, not_true_eq_false, not_false_eq_true, true_implies, false_implies, implies_true, and_self, Int.reduceLT, Int.reduceLE, Int.reduceEq, Int.reduceNe, Int.reduceAdd, Int.reduceSub, Int.reduceMul, Int.reduceNeg, Int.reduceToNat, Int.toNat_natCast, ↓kk_ck, ↓kk_im, ↓kk_in, s_270_0, s_270_8, s_270_16, s_270_24, s_270_29, s_270_37, s_270_42, s_270_5, s_270_13, s_270_21, s_270_34, R1, k_266b hY X]
            exact this
      clear hQ1 hQ0 j2 j5 B C tail hg
      simp (disch := omega) only [Option.toList_some, Option.toList_none, List.nil_append, List.cons_append, List.append_nil, true_and, and_true, not_true_eq_false, not_false_eq_true, true_implies, false_implies, implies_true, and_self, Int.reduceLT, Int.reduceLE, Int.reduceEq, Int.reduceNe, Int.reduceAdd, Int.reduceSub, Int.reduceMul, Int.reduceNeg, Int.reduceToNat, Int.toNat_natCast, ↓kk_ck, ↓kk_im, ↓kk_in, e_270, s_270_0, s_270_8, s_270_16, s_270_24, s_270_29, s_270_37, s_270_42, s_270_5, s_270_13, s_270_21, s_270_34, R1, A, vi_bt]
      exact cont
    · rw [if_neg h1] at hg
      dsimp only at hg
      rw [decide_eq_false h1, if_neg h1, vi_rs_id h112] at A
      have := tail (i + 1) l none (fun _ => none) hi1 hl (by simp only [if_neg h1] at hg; exact hg)
      by_cases h2 : tCd b n i = 2
      · rw [decide_eq_true h2, if_pos h2] at B
        clear hQ1 hQ0 j2 j5 C tail hg
        simp (disch := omega) only [Option.toList_some, Option.toList_none, List.nil_append, List.cons_append, List.append_nil, true_and, and_true, not_true_eq_false, not_false_eq_true, true_implies, false_implies, implies_true, and_self, Int.reduceLT, Int.reduceLE, Int.reduceEq, Int.reduceNe, Int.reduceAdd, Int.reduceSub, Int.reduceMul, Int.reduceNeg, Int.reduceToNat, Int.toNat_natCast, ↓kk_ck, ↓kk_im, ↓kk_in, e_270, s_270_0, s_270_5, s_270_16, s_270_21, R1, A, B, vi_bt, vi_bf, ne_eq]
        exact this
      · have h3 : tCd b n i = 3 := by omega
        rw [decide_eq_false h2, if_neg h2, vi_rs_id h112] at B
        rw [if_pos h3] at C
        clear hQ1 hQ0 j2 j5 tail hg
        simp (disch := omega) only [Option.toList_some, Option.toList_none, List.nil_append, List.cons_append, List.append_nil, true_and, and_true, not_true_eq_false, not_false_eq_true, true_implies, false_implies, implies_true, and_self, Int.reduceLT, Int.reduceLE, Int.reduceEq, Int.reduceNe, Int.reduceAdd, Int.reduceSub, Int.reduceMul, Int.reduceNeg, Int.reduceToNat, Int.toNat_natCast, ↓kk_ck, ↓kk_im, ↓kk_in, e_270, s_270_0, s_270_5, s_270_16, s_270_21, s_270_24, R1, A, B, C, vi_bf, ne_eq]
        exact this
  · rw [if_neg hw] at hg
    cases hg
    have := hQ0 rfl hi l
    have X := q18 (M := M) (g := f) (i := i) (l := l) (k := tI b n i)
    rw [decide_eq_false (fun k => hw (.inl k)), if_neg (fun k => hw (.inl k)), vi_rs_id h112] at A
    rw [decide_eq_false (fun k => hw (.inr (.inl k))), if_neg (fun k => hw (.inr (.inl k))), vi_rs_id h112] at B
    rw [if_neg (fun k => hw (.inr (.inr k)))] at C
    clear hQ1 hQ0 j2 j5
    simp (disch := omega) only [Option.toList_some, Option.toList_none, List.nil_append, List.cons_append, List.append_nil, true_and, and_true, not_true_eq_false, not_false_eq_true, true_implies, false_implies, implies_true, and_self, Int.reduceLT, Int.reduceLE, Int.reduceEq, Int.reduceNe, Int.reduceAdd, Int.reduceSub, Int.reduceMul, Int.reduceNeg, Int.reduceToNat, Int.toNat_natCast, ↓kk_ck, ↓kk_im, ↓kk_in, e_270, s_270_0, s_270_8, s_270_16, s_270_24, s_270_29, s_270_37, s_270_42, s_270_5, s_270_13, s_270_21, s_270_34, R1, A, B, C, vi_bf, ne_eq, k_266b hY X]
    exact this
/-- a text is read -/
theorem k_277 (hY : kY Y 151) (hW : kW M) (hb : tOk b) (m118 : M 118 = b) (h400 : n ≤ 400) (h10 : M 112 10 = (n : Int)) {res : Option (List gCla)} {i' : Nat} (hg : rdL (tCd b n) (tVl b n) (fun i => decide (tI b n i = n)) fu 12 0 0 [] = some (res, i')) (hD : 45 ≤ D) {Q : Option vi_V → vi_W → Prop}
    (hQ : ∀ (M' : vi_M) (t : Nat), qTk M' b n t → (∀ i, i < t → tI b n i < n) → (∀ p, p ≠ 112 → p ≠ 120 → p ≠ 121 → p ≠ 122 → M' p = M p) → (∀ k, k ≠ 10 → k ≠ 11 → k ≠ 15 → k ≠ 16 → k ≠ 17 → k ≠ 18 → M' 112 k = M 112 k) → M' 112 10 = 0 → M' 112 15 = (t : Int) → M' 112 11 = (if res.isSome = true then -1 else (tI b n i' : Int)) → Q (some (.inl (vi_b res.isSome))) (Y, M', nn)) : vi_call GG D 277 [.inr (.inr 112)] (Y, M, nn) Q := by
  obtain ⟨R1, -⟩ := y_112 hY (by omega)
  obtain ⟨D, rfl⟩ : ∃ k, D = k + 2 := ⟨D - 2, by omega⟩
  obtain ⟨t, Ms, ⟨s1, s2, s3, s4, s5, s6⟩, k263⟩ := k_263 (d := D - 1) (nn := nn) hY hW hb m118 h400
  rw [show D - 1 + 2 = D + 1 by omega] at k263
  -- the row ahead of the first clause
  generalize hf0 : vi_u (vi_u (M 112) 15 (t : Int)) 10 0 = f0
  have hT0 : ∀ M1 : vi_M, M1 120 = Ms 120 → M1 121 = Ms 121 → M1 122 = Ms 122 → qTk M1 b n t := fun M1 a0 a1 a2 => ⟨by omega, s2, fun i hi => by rw [a0, a1, a2]; exact s4 i hi⟩
  have fr0 : ∀ (k : Nat), k ≠ 10 → k ≠ 15 → f0 k = M 112 k := fun k h1 h2 => by rw [← hf0, vi_u_o h1, vi_u_o h2]
  have f10 : f0 10 = 0 := by rw [← hf0, vi_u_s]
  have f15 : f0 15 = (t : Int) := by rw [← hf0, vi_u_o (by decide), vi_u_s]
  have fin : ∀ (i l : Nat) (x : Int), (i ≤ t) → x = (if res.isSome = true then -1 else (tI b n i' : Int)) → Q (some (.inl (vi_b res.isSome))) (Y, vi_rs Ms 112 (vi_u (qRow f0 i l x) 11 x), nn) := by
    intro i l x hi hx
    refine hQ _ t (hT0 _ (vi_rs_o (by omega)) (vi_rs_o (by omega)) (vi_rs_o (by omega))) s3 (fun p p1 p2 p3 p4 => by rw [vi_rs_o p1]; exact s6 p p1 p2 p3 p4) (fun k k1 k2 k3 k4 k5 k6 => ?_) ?_ ?_ ?_
    · rw [vi_rs_s, vi_u_o k2]
      unfold qRow
      rw [if_neg k4, if_neg k5, if_neg k6]
      exact fr0 k k1 k3
    · rw [vi_rs_s, vi_u_o (by decide)]
      exact f10
    · rw [vi_rs_s, vi_u_o (by decide)]
      exact f15
    · rw [vi_rs_s, vi_u_s, hx]
  clear hQ
  -- once it isn't fine: to the end
  have bad : ∀ (i l k : Nat) (x1 : Int), i ≤ t → res = none → (k : Int) = (tI b n i' : Int) → vi_ok GG (D + 1) 277 34 [some (.inr (.inr 112)), some (.inl x1)] [] (Y, vi_rs Ms 112 (qRow f0 i l (k : Int)), nn) Q := by
    intro i l k x1 hi hr hk
    have := fin i l (k : Int) hi (by rw [hr]; exact hk)
    rw [hr] at this
    have X := q18 (M := Ms) (g := f0) (i := i) (l := l) (k := k)
    have X2 : vi_rs Ms 112 (vi_u (qRow f0 i l (k : Int)) 11 (k : Int)) 112 18 ≠ -1 := by
      rw [vi_rs_s]
      show (k : Int) ≠ -1
      omega
    have e18 : qRow f0 i l (k : Int) 18 = (k : Int) := rfl
    rw [s_277_34]
    clear fin hg s4 s3 hT0 fr0
    simp (disch := omega) only [Option.toList_some, Option.toList_none, List.nil_append, List.cons_append, List.append_nil, true_and, and_true, not_true_eq_false, not_false_eq_true, true_implies, false_implies, implies_true, and_self, Int.reduceLT, Int.reduceLE, Int.reduceEq, Int.reduceNe, Int.reduceAdd, Int.reduceSub, Int.reduceMul, Int.reduceNeg, Int.reduceToNat, Int.toNat_natCast, ↓kk_ck, ↓kk_im, ↓kk_in, s_277_0, s_277_46, s_277_52, s_277_56, s_277_63, s_277_67, s_277_73, s_277_80, s_277_91, s_277_95, s_277_5, s_277_40, s_277_60, s_277_77, s_277_84, s_277_100, s_277_8, s_277_43, s_277_88, s_277_103, s_277_13, s_277_107, s_277_18, s_277_23, s_277_28, s_277_32, R1, k_269, k_266b hY X, k_264b hY X, vi_rs_s, e18, vi_ms_rs, vi_rs_rs, k_264b hY X2]
    exact this
  have loop : ∀ (k i l c : Nat) (cs : List gCla), c + k = 12 → 1 ≤ c → i ≤ t → l ≤ 50 → (if tCd b n i = 159 then rdL (tCd b n) (tVl b n) (fun i => decide (tI b n i = n)) fu k (i + 1) l cs else if decide (tI b n i = n) = true then some (some cs, i) else some (none, i)) = some (res, i') → vi_ok GG (D + 1) 277 34 [some (.inr (.inr 112)), some (.inl (c : Int))] [] (Y, vi_rs Ms 112 (qRow f0 i l (-1)), nn) Q := by
    intro k
    induction k with
    | zero =>
      intro i l c cs hck hc1 hi hl hg
      have hT1 := hT0 (vi_rs Ms 112 (qRow f0 i l (-1))) (vi_rs_o (by omega)) (vi_rs_o (by omega)) (vi_rs_o (by omega))
      have T := fun {D : Nat} {K : Option vi_V → vi_W → Prop} (hD : 2 ≤ D) => @k_266g D K Y _ nn n t b f0 hY hT1 i l vi_rs_s hi 159 hD
      simp only [vi_rs_rs] at T
      obtain rfl : c = 12 := by omega
      by_cases h9 : tCd b n i = 159
      · rw [if_pos h9] at hg
        rw [decide_eq_true h9, if_pos h9] at T
        rw [rdL] at hg
        obtain ⟨hr0, hi0⟩ := Prod.mk.inj (Option.some.inj hg)
        have hi1 := qTk_i hT1 hi (by omega)
        have hT2 := hT0 (vi_rs Ms 112 (qRow f0 (i + 1) l (-1))) (vi_rs_o (by omega)) (vi_rs_o (by omega)) (vi_rs_o (by omega))
        have F := fun {D : Nat} {K : Option vi_V → vi_W → Prop} (hD : 2 ≤ D) => @k_265g D K Y _ nn n t b f0 hY hT2 (i + 1) l vi_rs_s hi1 hD
        simp only [vi_rs_rs] at F
        have X := q18 (M := Ms) (g := f0) (i := i + 1) (l := l) (k := tI b n (i + 1))
        have := bad (i + 1) l (tI b n (i + 1)) 13 hi1 hr0.symm (by rw [hi0])
        have e13 : vi_w32 (12 + 1) = 13 := by decide
        rw [s_277_34]
        clear bad fin s4 s3 hT0 fr0 hT1 hT2
        simp (disch := omega) only [Option.toList_some, Option.toList_none, List.nil_append, List.cons_append, List.append_nil, true_and, and_true, not_true_eq_false, not_false_eq_true, true_implies, false_implies, implies_true, and_self, Int.reduceLT, Int.reduceLE, Int.reduceEq, Int.reduceNe, Int.reduceAdd, Int.reduceSub, Int.reduceMul, Int.reduceNeg, Int.reduceToNat, Int.toNat_natCast, ↓kk_ck, ↓kk_im, ↓kk_in, s_277_40, s_277_43, s_277_46, s_277_52, s_277_56, s_277_60, s_277_67, R1, k_269, T, vi_bt, ne_eq, F, k_264b hY X, show vi_w32 13 = 13 from by decide]
        exact this
      · rw [if_neg h9] at hg
        rw [decide_eq_false h9, if_neg h9] at T
        have hT1' := hT1
        have X := show vi_rs Ms 112 (qRow f0 i l (-1)) 112 18 = -1 by rw [vi_rs_s]; rfl
        have e16 : qRow f0 i l (-1) 16 = (i : Int) := rfl
        have e15 : qRow f0 i l (-1) 15 = (t : Int) := f15
        have e18 : qRow f0 i l (-1) 18 = -1 := rfl
        by_cases hen : tI b n i = n
        · rw [if_pos (decide_eq_true hen)] at hg
          obtain ⟨hr0, hi0⟩ := Prod.mk.inj (Option.some.inj hg)
          obtain rfl : i = t := by
            by_cases e : i < t
            · have := s3 i e; omega
            · omega
          have := fin i l (-1) hi (by rw [← hr0]; rfl)
          rw [← hr0] at this
          have X2 : vi_rs Ms 112 (vi_u (qRow f0 i l (-1)) 11 (-1)) 112 18 = -1 := by rw [vi_rs_s]; rfl
          rw [s_277_34]
          clear bad fin s4 s3 hT0 fr0 hT1 hT1'
          simp (disch := omega) only [Option.toList_some, Option.toList_none, List.nil_append, List.cons_append, List.append_nil, true_and, and_true, not_true_eq_false, not_false_eq_true, true_implies, false_implies, implies_true, and_self, Int.reduceLT, Int.reduceLE, Int.reduceEq, Int.reduceNe, Int.reduceAdd, Int.reduceSub, Int.reduceMul, Int.reduceNeg, Int.reduceToNat, Int.toNat_natCast, ↓kk_ck, ↓kk_im, ↓kk_in, s_277_0, s_277_46, s_277_52, s_277_56, s_277_63, s_277_67, s_277_73, s_277_80, s_277_91, s_277_95, s_277_5, s_277_40, s_277_60, s_277_77, s_277_84, s_277_100, s_277_8, s_277_43, s_277_88, s_277_103, s_277_13, s_277_107, s_277_18, s_277_23, s_277_28, s_277_32, R1, k_269, T, vi_bf, k_264g hY X, vi_rs_s, e16, e15, e18, vi_ms_rs, vi_rs_rs, k_264g hY X2]
          exact this
        · rw [if_neg (by rw [decide_eq_false hen]; simp)] at hg
          obtain ⟨hr0, hi0⟩ := Prod.mk.inj (Option.some.inj hg)
          have hit : i < t := by
            by_cases e : i < t
            · exact e
            · obtain rfl : i = t := by omega
              exact absurd s2 hen
          have F := fun {D : Nat} {K : Option vi_V → vi_W → Prop} (hD : 2 ≤ D) => @k_265g D K Y _ nn n t b f0 hY hT1 i l vi_rs_s hi hD
          simp only [vi_rs_rs] at F
          have := fin i l (tI b n i : Int) hi (by rw [← hr0, hi0]; rfl)
          rw [← hr0] at this
          have X2 : vi_rs Ms 112 (vi_u (qRow f0 i l (tI b n i : Int)) 11 (tI b n i : Int)) 112 18 ≠ -1 := by
            rw [vi_rs_s]
            show (tI b n i : Int) ≠ -1
            omega
          have e18' : qRow f0 i l (tI b n i : Int) 18 = (tI b n i : Int) := rfl
          rw [s_277_34]
          clear bad fin s4 s3 hT0 fr0 hT1 hT1'
          simp (disch := omega) only [Option.toList_some, Option.toList_none, List.nil_append, List.cons_append, List.append_nil, true_and, and_true, not_true_eq_false, not_false_eq_true, true_implies, false_implies, implies_true, and_self, Int.reduceLT, Int.reduceLE, Int.reduceEq, Int.reduceNe, Int.reduceAdd, Int.reduceSub, Int.reduceMul, Int.reduceNeg, Int.reduceToNat, Int.toNat_natCast, ↓kk_ck, ↓kk_im, ↓kk_in, s_277_0, s_277_46, s_277_52, s_277_56, s_277_63, s_277_67, s_277_73, s_277_80, s_277_91, s_277_95, s_277_5, s_277_40, s_277_60, s_277_77, s_277_84, s_277_100, s_277_8, s_277_43, s_277_88, s_277_103, s_277_13, s_277_107, s_277_18, s_277_23, s_277_28, s_277_32, R1, k_269, T, vi_bf, k_264g hY X, vi_rs_s, e16, e15, F, e18', vi_ms_rs, vi_rs_rs, k_264b hY X2]
          exact this
    | succ k ih =>
      intro i l c cs hck hc1 hi hl hg
      have hT1 := hT0 (vi_rs Ms 112 (qRow f0 i l (-1))) (vi_rs_o (by omega)) (vi_rs_o (by omega)) (vi_rs_o (by omega))
      have T := fun {D : Nat} {K : Option vi_V → vi_W → Prop} (hD : 2 ≤ D) => @k_266g D K Y _ nn n t b f0 hY hT1 i l vi_rs_s hi 159 hD
      simp only [vi_rs_rs] at T
      by_cases h9 : tCd b n i = 159
      · rw [if_pos h9] at hg
        rw [decide_eq_true h9, if_pos h9] at T
        rw [rdL] at hg
        have hi1 := qTk_i hT1 hi (by omega)
        have hT2 := hT0 (vi_rs Ms 112 (qRow f0 (i + 1) l (-1))) (vi_rs_o (by omega)) (vi_rs_o (by omega)) (vi_rs_o (by omega))
        have X := show vi_rs Ms 112 (qRow f0 (i + 1) l (-1)) 112 18 = -1 by rw [vi_rs_s]; rfl
        have cont : vi_call GG (D + 1) 270 [.inr (.inr 112)] (Y, vi_rs Ms 112 (qRow f0 (i + 1) l (-1)), nn) (fun r w' => vi_ok GG (D + 1) 277 67 [some (.inr (.inr 112)), some (.inl (c : Int))] r.toList w' Q) := by
          cases hr : rdC (tCd b n) (tVl b n) fu (i + 1) l with
          | none => rw [hr] at hg; cases hg
          | some r0 =>
            obtain ⟨ok, i2, l2, cla⟩ := r0
            rw [hr] at hg
            refine k_270 hY (by omega) hr hT2 vi_rs_s hi1 hl (fun hok hi2 hl2 => ?_) (fun hok hi2 l' => ?_)
            · obtain rfl : ok = true := hok
              dsimp only at hg hi2 hl2
              rw [vi_rs_rs]
              have := ih i2 l2 (c + 1) (cs ++ [cla]) (by omega) (by omega) hi2 hl2 hg
              clear ih bad fin s4 s3 hT0 fr0 hT1 hT2 T
              simp (disch := omega) only [Option.toList_some, Option.toList_none, List.nil_append, List.cons_append, List.append_nil, true_and, and_true, not_true_eq_false, not_false_eq_true, true_implies, false_implies, implies_true, and_self, Int.reduceLT, Int.reduceLE, Int.reduceEq, Int.reduceNe, Int.reduceAdd, Int.reduceSub, Int.reduceMul, Int.reduceNeg, Int.reduceToNat, Int.toNat_natCast, ↓kk_ck, ↓kk_im, ↓kk_in, s_277_67, vi_inc]
              exact this
            · obtain rfl : ok = false := hok
              dsimp only at hg hi2
              obtain ⟨hr0, hi0⟩ := Prod.mk.inj (Option.some.inj hg)
              rw [vi_rs_rs]
              have := bad i2 l' (tI b n i2) ((c + 1 : Nat) : Int) hi2 hr0.symm (by rw [hi0])
              clear ih bad fin s4 s3 hT0 fr0 hT1 hT2 T
              simp (disch := omega) only [Option.toList_some, Option.toList_none, List.nil_append, List.cons_append, List.append_nil, true_and, and_true, not_true_eq_false, not_false_eq_true, true_implies, false_implies, implies_true, and_self, Int.reduceLT, Int.reduceLE, Int.reduceEq, Int.reduceNe, Int.reduceAdd, Int.reduceSub, Int.reduceMul, Int.reduceNeg, Int.reduceToNat, Int.toNat_natCast, ↓kk_ck, ↓kk_im, ↓kk_in, s_277_67, vi_inc]
              exact this
        rw [s_277_34]
        clear ih bad fin s4 s3 hT0 fr0 hT1 hT2 hg
        simp (disch := omega) only [Option.toList_some, Option.toList_none, List.nil_append, List.cons_append, List.append_nil, true_and, and_true, not_true_eq_false, not_false_eq_true, true_implies, false_implies, implies_true, and_self, Int.reduceLT, Int.reduceLE, Int.reduceEq, Int.reduceNe, Int.reduceAdd, Int.reduceSub, Int.reduceMul, Int.reduceNeg, Int.reduceToNat, Int.toNat_natCast, ↓kk_ck, ↓kk_im, ↓kk_in, s_277_40, s_277_43, s_277_46, s_277_56, s_277_60, s_277_63, R1, k_269, T, vi_bt, ne_eq, k_264g hY X]
        exact cont
      · rw [if_neg h9] at hg
        rw [decide_eq_false h9, if_neg h9] at T
        have X := show vi_rs Ms 112 (qRow f0 i l (-1)) 112 18 = -1 by rw [vi_rs_s]; rfl
        have e16 : qRow f0 i l (-1) 16 = (i : Int) := rfl
        have e15 : qRow f0 i l (-1) 15 = (t : Int) := f15
        have e18 : qRow f0 i l (-1) 18 = -1 := rfl
        by_cases hen : tI b n i = n
        · rw [if_pos (decide_eq_true hen)] at hg
          obtain ⟨hr0, hi0⟩ := Prod.mk.inj (Option.some.inj hg)
          obtain rfl : i = t := by
            by_cases e : i < t
            · have := s3 i e; omega
            · omega
          have := fin i l (-1) hi (by rw [← hr0]; rfl)
          rw [← hr0] at this
          have X2 : vi_rs Ms 112 (vi_u (qRow f0 i l (-1)) 11 (-1)) 112 18 = -1 := by rw [vi_rs_s]; rfl
          rw [s_277_34]
          clear ih bad fin s4 s3 hT0 fr0 hT1
          simp (disch := omega) only [Option.toList_some, Option.toList_none, List.nil_append, List.cons_append, List.append_nil, true_and, and_true, not_true_eq_false, not_false_eq_true, true_implies, false_implies, implies_true, and_self, Int.reduceLT, Int.reduceLE, Int.reduceEq, Int.reduceNe, Int.reduceAdd, Int.reduceSub, Int.reduceMul, Int.reduceNeg, Int.reduceToNat, Int.toNat_natCast, ↓kk_ck, ↓kk_im, ↓kk_in, s_277_0, s_277_46, s_277_52, s_277_56, s_277_63, s_277_67, s_277_73, s_277_80, s_277_91, s_277_95, s_277_5, s_277_40, s_277_60, s_277_77, s_277_84, s_277_100, s_277_8, s_277_43, s_277_88, s_277_103, s_277_13, s_277_107, s_277_18, s_277_23, s_277_28, s_277_32, R1, k_269, T, vi_bf, k_264g hY X, vi_rs_s, e16, e15, e18, vi_ms_rs, vi_rs_rs, k_264g hY X2]
          exact this
        · rw [if_neg (by rw [decide_eq_false hen]; simp)] at hg
          obtain ⟨hr0, hi0⟩ := Prod.mk.inj (Option.some.inj hg)
          have hit : i < t := by
            by_cases e : i < t
            · exact e
            · obtain rfl : i = t := by omega
              exact absurd s2 hen
          have F := fun {D : Nat} {K : Option vi_V → vi_W → Prop} (hD : 2 ≤ D) => @k_265g D K Y _ nn n t b f0 hY hT1 i l vi_rs_s hi hD
          simp only [vi_rs_rs] at F
          have := fin i l (tI b n i : Int) hi (by rw [← hr0, hi0]; rfl)
          rw [← hr0] at this
          have X2 : vi_rs Ms 112 (vi_u (qRow f0 i l (tI b n i : Int)) 11 (tI b n i : Int)) 112 18 ≠ -1 := by
            rw [vi_rs_s]
            show (tI b n i : Int) ≠ -1
            omega
          have e18' : qRow f0 i l (tI b n i : Int) 18 = (tI b n i : Int) := rfl
          rw [s_277_34]
          clear ih bad fin s4 s3 hT0 fr0 hT1
          simp (disch := omega) only [Option.toList_some, Option.toList_none, List.nil_append, List.cons_append, List.append_nil, true_and, and_true, not_true_eq_false, not_false_eq_true, true_implies, false_implies, implies_true, and_self, Int.reduceLT, Int.reduceLE, Int.reduceEq, Int.reduceNe, Int.reduceAdd, Int.reduceSub, Int.reduceMul, Int.reduceNeg, Int.reduceToNat, Int.toNat_natCast, ↓kk_ck, ↓kk_im, ↓kk_in, s_277_0, s_277_46, s_277_52, s_277_56, s_277_63, s_277_67, s_277_73, s_277_80, s_277_91, s_277_95, s_277_5, s_277_40, s_277_60, s_277_77, s_277_84, s_277_100, s_277_8, s_277_43, s_277_88, s_277_103, s_277_13, s_277_107, s_277_18, s_277_23, s_277_28, s_277_32, R1, k_269, T, vi_bf, k_264g hY X, vi_rs_s, e16, e15, F, e18', vi_ms_rs, vi_rs_rs, k_264b hY X2]
          exact this
  -- the first clause
  rw [rdL] at hg
  have hTa := hT0 (vi_rs Ms 112 (qRow f0 0 0 (-1))) (vi_rs_o (by omega)) (vi_rs_o (by omega)) (vi_rs_o (by omega))
  have first : vi_call GG (D + 1) 270 [.inr (.inr 112)] (Y, vi_rs Ms 112 (qRow f0 0 0 (-1)), nn) (fun r w' => vi_ok GG (D + 1) 277 32 [some (.inr (.inr 112)), none] r.toList w' Q) := by
    cases hr : rdC (tCd b n) (tVl b n) fu 0 0 with
    | none => rw [hr] at hg; cases hg
    | some r0 =>
      obtain ⟨ok, i2, l2, cla⟩ := r0
      rw [hr] at hg
      refine k_270 hY (by omega) hr hTa vi_rs_s (Nat.zero_le _) (by omega) (fun hok hi2 hl2 => ?_) (fun hok hi2 l' => ?_)
      · obtain rfl : ok = true := hok
        dsimp only at hg hi2 hl2
        rw [vi_rs_rs]
        have := loop 11 i2 l2 1 ([] ++ [cla]) (by omega) (by omega) hi2 hl2 hg
        clear loop bad fin s4 s3 hT0 fr0 hTa
        simp (disch := omega) only [Option.toList_some, Option.toList_none, List.nil_append, List.cons_append, List.append_nil, true_and, and_true, not_true_eq_false, not_false_eq_true, true_implies, false_implies, implies_true, and_self, Int.reduceLT, Int.reduceLE, Int.reduceEq, Int.reduceNe, Int.reduceAdd, Int.reduceSub, Int.reduceMul, Int.reduceNeg, Int.reduceToNat, Int.toNat_natCast, ↓kk_ck, ↓kk_im, ↓kk_in, s_277_32]
        exact this
      · obtain rfl : ok = false := hok
        dsimp only at hg hi2
        obtain ⟨hr0, hi0⟩ := Prod.mk.inj (Option.some.inj hg)
        rw [vi_rs_rs]
        have := bad i2 l' (tI b n i2) 1 hi2 hr0.symm (by rw [hi0])
        clear loop bad fin s4 s3 hT0 fr0 hTa
        simp (disch := omega) only [Option.toList_some, Option.toList_none, List.nil_append, List.cons_append, List.append_nil, true_and, and_true, not_true_eq_false, not_false_eq_true, true_implies, false_implies, implies_true, and_self, Int.reduceLT, Int.reduceLE, Int.reduceEq, Int.reduceNe, Int.reduceAdd, Int.reduceSub, Int.reduceMul, Int.reduceNeg, Int.reduceToNat, Int.toNat_natCast, ↓kk_ck, ↓kk_im, ↓kk_in, s_277_32]
        exact this
  have er : vi_u (vi_u (vi_u (vi_u (Ms 112) 10 0) 16 0) 17 0) 18 (-1) = qRow f0 0 0 (-1) := by
    funext k
    rw [s5, ← hf0]
    unfold vi_u qRow
    by_cases h18 : k = 18
    · subst h18; rfl
    · by_cases h17 : k = 17
      · subst h17; rfl
      · by_cases h16 : k = 16
        · subst h16; rfl
        · simp only [if_neg h18, if_neg h17, if_neg h16]
  clear loop bad fin s4 s3 hT0 fr0 hTa hg
  simp (disch := omega) only [Option.toList_some, Option.toList_none, List.nil_append, List.cons_append, List.append_nil, true_and, and_true, not_true_eq_false, not_false_eq_true, true_implies, false_implies, implies_true, and_self, Int.reduceLT, Int.reduceLE, Int.reduceEq, Int.reduceNe, Int.reduceAdd, Int.reduceSub, Int.reduceMul, Int.reduceNeg, Int.reduceToNat, Int.toNat_natCast, ↓kk_ck, ↓kk_im, ↓kk_in, e_277, s_277_0, s_277_5, s_277_8, s_277_13, s_277_18, s_277_23, s_277_28, R1, h10, k263, vi_ms_rs, vi_rs_s, vi_rs_rs, er]
  exact first
end
