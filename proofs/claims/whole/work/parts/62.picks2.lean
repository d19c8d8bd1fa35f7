/-! Contracts of Picks, second part. -/
theorem o_sh1 {m : Nat} (h : m ≤ 8) : vi_shl32 (1 : Int) (m : Int) = ((2 ^ m : Nat) : Int) := by
  have hp2 : 2 ^ m ≤ 2 ^ 8 := Nat.pow_le_pow_right (by omega) h
  have hsh := vi_shl32n (x := 1) (n := m) (by omega) (by rw [Nat.shiftLeft_eq]; omega)
  rw [show ((1 : Nat) : Int) = 1 from rfl, Nat.one_shiftLeft] at hsh
  exact hsh
theorem mtS_le {x y z : Int} {L : List (Nat → Int)} : ∀ s, mtS x y z L s ≤ 16 * s
  | 0 => Nat.le_refl _
  | s + 1 => Nat.le_trans (Nat.add_le_add (mtS_le s) (sN_le 16 _)) (by omega)
section
variable {d : Nat} {K : Option vi_V → vi_W → Prop} {Y : vi_Y} {M : vi_M} {n : Nat × Nat} {L : List (Nat → Int)}
theorem k_105 (hY : kY Y 151) (hb : gB (M 30 8) (M 30 9) (M 30 10)) (hr : rOK (M 35) (M 36) L) (hl : L.length ≤ 8) (hg : ∀ r, r < L.length → gH (rL L r)) : vi_call GG (d + 5) 105 [.inr (.inr 107)] (Y, M, n) K ↔ K (some (.inl (mtS (M 30 8) (M 30 9) (M 30 10) L 8 : Int))) (Y, vi_rs M 110 (vi_m 8 (fun s => (mt (M 30 8) (M 30 9) (M 30 10) L s : Int)) (M 110)), n) := by
  obtain ⟨a1, a2, a3, a4, a5⟩ := y_107 hY (by omega)
  obtain ⟨g1, g2⟩ := y_110 hY (by omega)
  have k109 := fun {K : Option vi_V → vi_W → Prop} => @k_109 d K Y M n L hY hb hr hl hg
  refine vi_k (r := some (.inl _)) fun Q hQ => ?_
  generalize M 30 8 = x at *
  generalize M 30 9 = y at *
  generalize M 30 10 = z at *
  have loop : ∀ s : Nat, s ≤ 8 → vi_ok GG (d + 4) 105 8 [some (.inr (.inr 107)), some (.inl (mtS x y z L s : Int)), some (.inl (s : Int))] [] (Y, vi_rs M 110 (vi_m 8 (fun s => (mt x y z L s : Int)) (M 110)), n) Q := by
    refine vi_dn 8 ?_ fun s hs ih => ?_
    · rw [s_105_8]
      simp (disch := omega) only [Option.toList_some, Option.toList_none, List.nil_append, List.cons_append, List.append_nil, true_and, and_true, not_true_eq_false, not_false_eq_true, true_implies, false_implies, implies_true, and_self, Int.reduceLT, Int.reduceLE, Int.reduceEq, Int.reduceNe, Int.reduceAdd, Int.reduceSub, Int.reduceMul, Int.reduceNeg, Int.reduceToNat, Int.toNat_natCast, ↓kk_ck, ↓kk_im, ↓kk_in, s_105_0, s_105_17, s_105_35, s_105_4, s_105_13, s_105_22, s_105_14, s_105_24, s_105_27, a1, a2, a3, a4, a5, g1, g2]
      exact hQ
    · have hlt := mt_lt (x := x) (y := y) (z := z) hl s
      have k356 := fun {K : Option vi_V → vi_W → Prop} {w : vi_W} => @k_356 (d + 3) K w (mt x y z L s) (by omega)
      have hbC : sN 16 (fun i => (mt x y z L s).testBit i) = bC (mt x y z L s) := rfl
      simp only [hbC] at k356
      have h1 := mtS_le (x := x) (y := y) (z := z) (L := L) s
      have h2 : bC (mt x y z L s) ≤ 16 := sN_le _ _
      rw [mtS, Int.natCast_add] at ih
      clear hbC hQ
      generalize bC (mt x y z L s) = u at *
      generalize mtS x y z L s = t at *
      rw [s_105_8]
      simp (disch := omega) only [Option.toList_some, Option.toList_none, List.nil_append, List.cons_append, List.append_nil, true_and, and_true, not_true_eq_false, not_false_eq_true, true_implies, false_implies, implies_true, and_self, Int.reduceLT, Int.reduceLE, Int.reduceEq, Int.reduceNe, Int.reduceAdd, Int.reduceSub, Int.reduceMul, Int.reduceNeg, Int.reduceToNat, Int.toNat_natCast, ↓kk_ck, ↓kk_im, ↓kk_in, s_105_0, s_105_17, s_105_35, s_105_4, s_105_13, s_105_22, s_105_14, s_105_24, s_105_27, a1, a2, a3, a4, a5, g1, g2, vi_rs_s, vi_m_lt hs, k356, vi_32, vi_inc]
      exact ih
  have := loop 0 (by omega)
  simp (disch := omega) only [Option.toList_some, Option.toList_none, List.nil_append, List.cons_append, List.append_nil, true_and, and_true, not_true_eq_false, not_false_eq_true, true_implies, false_implies, implies_true, and_self, Int.reduceLT, Int.reduceLE, Int.reduceEq, Int.reduceNe, Int.reduceAdd, Int.reduceSub, Int.reduceMul, Int.reduceNeg, Int.reduceToNat, Int.toNat_natCast, ↓kk_ck, ↓kk_im, ↓kk_in, e_105, s_105_0, s_105_17, s_105_35, s_105_4, s_105_13, s_105_22, s_105_14, s_105_24, s_105_27, a1, k109]
  exact this
theorem k_111 (hY : kY Y 151) {x y z : Int} (hm : ∀ s, s < 8 → M 110 s = (mt x y z L s : Int)) (hl : L.length ≤ 8) {set : Nat} (hs : set < 256) : vi_call GG (d + 1) 111 [.inr (.inr 107), .inl (set : Int)] (Y, M, n) K ↔ K (some (.inl (vi_b (gAp x y z L set)))) (Y, M, n) := by
  obtain ⟨a1, a2, a3, a4, a5⟩ := y_107 hY (by omega)
  obtain ⟨g1, g2⟩ := y_110 hY (by omega)
  refine vi_k (r := some (.inl _)) fun Q hQ => ?_
  have loop : ∀ s : Nat, s ≤ 8 → sOr s (fun s => set.testBit s && decide (mt x y z L s &&& set ≠ 0)) = false → vi_ok GG d 111 2 [some (.inr (.inr 107)), some (.inl (set : Int)), some (.inl (s : Int))] [] (Y, M, n) Q := by
    refine vi_dn 8 ?_ fun s hsl ih => ?_
    · intro h
      rw [gAp, h] at hQ
      rw [s_111_2]
      simp (disch := omega) only [Option.toList_some, Option.toList_none, List.nil_append, List.cons_append, List.append_nil, true_and, and_true, not_true_eq_false, not_false_eq_true, true_implies, false_implies, implies_true, and_self, Int.reduceLT, Int.reduceLE, Int.reduceEq, Int.reduceNe, Int.reduceAdd, Int.reduceSub, Int.reduceMul, Int.reduceNeg, Int.reduceToNat, Int.toNat_natCast, ↓kk_ck, ↓kk_im, ↓kk_in, s_111_0, s_111_11, s_111_20, s_111_31, s_111_33, s_111_39, s_111_7, s_111_17, s_111_24, s_111_8, s_111_26, s_111_28, a1, a2, a3, a4, a5, g1, g2]
      exact hQ
    · intro h
      rw [sOr, h, Bool.false_or] at ih
      have hlt := mt_lt (x := x) (y := y) (z := z) hl s
      have et := o_tb (x := set) (i := s) (by omega) (by omega)
      have en := vi_and32n (x := mt x y z L s) (y := set) (by omega)
      rw [s_111_2]
      cases h1 : set.testBit s
      · have := ih (by rw [h1]; rfl)
        rw [h1] at et
        clear hQ ih
        simp (disch := omega) only [Option.toList_some, Option.toList_none, List.nil_append, List.cons_append, List.append_nil, true_and, and_true, not_true_eq_false, not_false_eq_true, true_implies, false_implies, implies_true, and_self, Int.reduceLT, Int.reduceLE, Int.reduceEq, Int.reduceNe, Int.reduceAdd, Int.reduceSub, Int.reduceMul, Int.reduceNeg, Int.reduceToNat, Int.toNat_natCast, ↓kk_ck, ↓kk_im, ↓kk_in, s_111_0, s_111_11, s_111_20, s_111_31, s_111_33, s_111_39, s_111_7, s_111_17, s_111_24, s_111_8, s_111_26, s_111_28, a1, a2, a3, a4, a5, g1, g2, et, Bool.toNat_false, Int.natCast_zero, ne_eq, vi_inc]
        exact this
      · rw [h1] at et
        by_cases h2 : mt x y z L s &&& set = 0
        · have := ih (by rw [h1, decide_eq_false (fun k => k h2)]; rfl)
          clear hQ ih
          simp (disch := omega) only [Option.toList_some, Option.toList_none, List.nil_append, List.cons_append, List.append_nil, true_and, and_true, not_true_eq_false, not_false_eq_true, true_implies, false_implies, implies_true, and_self, Int.reduceLT, Int.reduceLE, Int.reduceEq, Int.reduceNe, Int.reduceAdd, Int.reduceSub, Int.reduceMul, Int.reduceNeg, Int.reduceToNat, Int.toNat_natCast, ↓kk_ck, ↓kk_im, ↓kk_in, s_111_0, s_111_11, s_111_20, s_111_31, s_111_33, s_111_39, s_111_7, s_111_17, s_111_24, s_111_8, s_111_26, s_111_28, a1, a2, a3, a4, a5, g1, g2, hm s hsl, et, en, h2, Bool.toNat_true, Int.natCast_one, Int.natCast_zero, ne_eq, vi_inc]
          exact this
        · rw [gAp, sOr_iff.mpr ⟨s, hsl, by rw [h1, decide_eq_true h2]; rfl⟩] at hQ
          have h2' : ¬ ((mt x y z L s &&& set : Nat) : Int) = 0 := by omega
          clear ih
          simp (disch := omega) only [Option.toList_some, Option.toList_none, List.nil_append, List.cons_append, List.append_nil, true_and, and_true, not_true_eq_false, not_false_eq_true, true_implies, false_implies, implies_true, and_self, Int.reduceLT, Int.reduceLE, Int.reduceEq, Int.reduceNe, Int.reduceAdd, Int.reduceSub, Int.reduceMul, Int.reduceNeg, Int.reduceToNat, Int.toNat_natCast, ↓kk_ck, ↓kk_im, ↓kk_in, s_111_0, s_111_11, s_111_20, s_111_31, s_111_33, s_111_39, s_111_7, s_111_17, s_111_24, s_111_8, s_111_26, s_111_28, a1, a2, a3, a4, a5, g1, g2, hm s hsl, et, en, h2', Bool.toNat_true, Int.natCast_one, ne_eq]
          exact hQ
  rw [e_111, s_111_0]
  exact loop 0 (by omega) rfl
theorem k_106 (hY : kY Y 151) (hb : gB (M 30 8) (M 30 9) (M 30 10)) (hr : rOK (M 35) (M 36) L) (hl : L.length ≤ 8) (hg : ∀ r, r < L.length → gH (rL L r)) : vi_call GG (d + 5) 106 [.inr (.inr 107)] (Y, M, n) K ↔ K (some (.inl (apF (M 30 8) (M 30 9) (M 30 10) L (2 ^ L.length) : Int))) (Y, vi_rs M 110 (vi_m 8 (fun s => (mt (M 30 8) (M 30 9) (M 30 10) L s : Int)) (M 110)), n) := by
  obtain ⟨a1, a2, a3, a4, a5⟩ := y_107 hY (by omega)
  obtain ⟨b1, b2, b3, b4, b5, b6, b7⟩ := y_30 hY (by omega)
  have r1 := kR_35 hY (by omega)
  have k109 := fun {K : Option vi_V → vi_W → Prop} => @k_109 d K Y M n L hY hb hr hl hg
  refine vi_k (r := some (.inl _)) fun Q hQ => ?_
  generalize M 30 8 = x at *
  generalize M 30 9 = y at *
  generalize M 30 10 = z at *
  have m35 : ∀ f, vi_rs M 110 f 35 = M 35 := fun f => by simp (disch := omega) only [vi_rs_s, vi_rs_o]
  have hp2 : 2 ^ L.length ≤ 2 ^ 8 := Nat.pow_le_pow_right (by omega) hl
  generalize hMM : vi_rs M 110 (vi_m 8 (fun s => (mt x y z L s : Int)) (M 110)) = MM at *
  have m35' : MM 35 2 = (L.length : Int) := by rw [← hMM, m35]; exact hr.1
  have k111 := fun {K : Option vi_V → vi_W → Prop} {set : Nat} (hs : set < 256) => @k_111 (d + 3) K Y MM n L hY x y z (fun s hs => by rw [← hMM, vi_rs_s, vi_m_lt hs]) hl set hs
  have loop : ∀ k : Nat, k ≤ 2 ^ L.length → vi_ok GG (d + 4) 106 8 [some (.inr (.inr 107)), some (.inl (apF x y z L k : Int)), some (.inl (k : Int))] [] (Y, MM, n) Q := by
    refine vi_dn (2 ^ L.length) ?_ fun k hk ih => ?_
    · rw [s_106_8]
      simp (disch := omega) only [Option.toList_some, Option.toList_none, List.nil_append, List.cons_append, List.append_nil, true_and, and_true, not_true_eq_false, not_false_eq_true, true_implies, false_implies, implies_true, and_self, Int.reduceLT, Int.reduceLE, Int.reduceEq, Int.reduceNe, Int.reduceAdd, Int.reduceSub, Int.reduceMul, Int.reduceNeg, Int.reduceToNat, Int.toNat_natCast, ↓kk_ck, ↓kk_im, ↓kk_in, s_106_0, s_106_24, s_106_31, s_106_42, s_106_50, s_106_52, s_106_58, s_106_4, s_106_14, s_106_35, s_106_47, s_106_17, s_106_39, s_106_20, s_106_21, a1, a2, b1, b4, e_149, s_149_0, s_149_4, r1.1, m35', o_sh1 hl]
      exact hQ
    · have hle := apF_le (x := x) (y := y) (z := z) (L := L) k
      have k356 := fun {K : Option vi_V → vi_W → Prop} {w : vi_W} => @k_356 (d + 3) K w k (by omega)
      have k356' := fun {K : Option vi_V → vi_W → Prop} {w : vi_W} => @k_356 (d + 3) K w (apF x y z L k) (by omega)
      have hbC : ∀ q : Nat, sN 16 (fun i => q.testBit i) = bC q := fun q => rfl
      simp only [hbC] at k356 k356'
      have kk := fun {K : Option vi_V → vi_W → Prop} => @k111 K k (by omega)
      clear hQ k111 hbC
      rw [apF] at ih
      generalize bC (apF x y z L k) = u at *
      generalize bC k = v at *
      generalize gAp x y z L k = ga at *
      rw [s_106_8]
      by_cases c1 : u < v
      · cases ga
        · rw [if_neg (fun h => by cases h.2)] at ih
          simp (disch := omega) only [Option.toList_some, Option.toList_none, List.nil_append, List.cons_append, List.append_nil, true_and, and_true, not_true_eq_false, not_false_eq_true, true_implies, false_implies, implies_true, and_self, Int.reduceLT, Int.reduceLE, Int.reduceEq, Int.reduceNe, Int.reduceAdd, Int.reduceSub, Int.reduceMul, Int.reduceNeg, Int.reduceToNat, Int.toNat_natCast, ↓kk_ck, ↓kk_im, ↓kk_in, s_106_0, s_106_24, s_106_31, s_106_42, s_106_50, s_106_52, s_106_58, s_106_4, s_106_14, s_106_35, s_106_47, s_106_17, s_106_39, s_106_20, s_106_21, a1, a2, b1, b4, e_149, s_149_0, s_149_4, r1.1, m35', o_sh1 hl, k356, k356', kk, vi_bf, vi_inc]
          exact ih
        · rw [if_pos ⟨c1, rfl⟩] at ih
          simp (disch := omega) only [Option.toList_some, Option.toList_none, List.nil_append, List.cons_append, List.append_nil, true_and, and_true, not_true_eq_false, not_false_eq_true, true_implies, false_implies, implies_true, and_self, Int.reduceLT, Int.reduceLE, Int.reduceEq, Int.reduceNe, Int.reduceAdd, Int.reduceSub, Int.reduceMul, Int.reduceNeg, Int.reduceToNat, Int.toNat_natCast, ↓kk_ck, ↓kk_im, ↓kk_in, s_106_0, s_106_24, s_106_31, s_106_42, s_106_50, s_106_52, s_106_58, s_106_4, s_106_14, s_106_35, s_106_47, s_106_17, s_106_39, s_106_20, s_106_21, a1, a2, b1, b4, e_149, s_149_0, s_149_4, r1.1, m35', o_sh1 hl, k356, k356', kk, vi_bt, vi_inc]
          exact ih
      · rw [if_neg (fun h => c1 h.1)] at ih
        simp (disch := omega) only [Option.toList_some, Option.toList_none, List.nil_append, List.cons_append, List.append_nil, true_and, and_true, not_true_eq_false, not_false_eq_true, true_implies, false_implies, implies_true, and_self, Int.reduceLT, Int.reduceLE, Int.reduceEq, Int.reduceNe, Int.reduceAdd, Int.reduceSub, Int.reduceMul, Int.reduceNeg, Int.reduceToNat, Int.toNat_natCast, ↓kk_ck, ↓kk_im, ↓kk_in, s_106_0, s_106_24, s_106_31, s_106_42, s_106_50, s_106_52, s_106_58, s_106_4, s_106_14, s_106_35, s_106_47, s_106_17, s_106_39, s_106_20, s_106_21, a1, a2, b1, b4, e_149, s_149_0, s_149_4, r1.1, m35', o_sh1 hl, k356, k356', vi_inc]
        exact ih
  have := loop 0 (Nat.zero_le _)
  simp (disch := omega) only [Option.toList_some, Option.toList_none, List.nil_append, List.cons_append, List.append_nil, true_and, and_true, not_true_eq_false, not_false_eq_true, true_implies, false_implies, implies_true, and_self, Int.reduceLT, Int.reduceLE, Int.reduceEq, Int.reduceNe, Int.reduceAdd, Int.reduceSub, Int.reduceMul, Int.reduceNeg, Int.reduceToNat, Int.toNat_natCast, ↓kk_ck, ↓kk_im, ↓kk_in, e_106, s_106_0, s_106_24, s_106_31, s_106_42, s_106_50, s_106_52, s_106_58, s_106_4, s_106_14, s_106_35, s_106_47, s_106_17, s_106_39, s_106_20, s_106_21, a1, k109]
  exact this
end
