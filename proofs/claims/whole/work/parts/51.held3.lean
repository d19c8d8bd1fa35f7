/-! Held: a size is changed; all is copied. -/
/-- the same but at some places -/
def vi_fr (M M' : vi_M) (A : Nat → Prop) : Prop := ∀ q, ¬ A q → M' q = M q
section
variable {d h : Nat} {K : Option vi_V → vi_W → Prop} {Y : vi_Y} {M : vi_M} {n : Nat × Nat}
def gFl (x y z : Int) (L : List (Nat → Int)) : List (Nat → Int) := L.filter (fun v => gPl x y z (v 0) (v 1) (v 2))
theorem gFl_len {x y z : Int} {L : List (Nat → Int)} : (gFl x y z L).length ≤ L.length := List.length_filter_le _ _
theorem k_155h {q lim : Nat} {L : List (Nat → Int)} (hq : kR Y q lim) (h1 : Y.1 h = 22) (hne : h ≠ q) (hne1 : h ≠ q + 1) (hr : rOK (M q) (M (q + 1)) L) (hl : L.length ≤ lim) : ∃ f g, rOK f g (gFl (M h 8) (M h 9) (M h 10) L) ∧ ∀ K : Option vi_V → vi_W → Prop, vi_call GG (d + 3) 155 [.inr (.inr q), .inr (.inr h)] (Y, M, n) K ↔ K none (Y, vi_rs (vi_rs M (q + 1) g) q f, n) := by
  obtain ⟨g, hg, hK⟩ := k_155 (d := d) (n := n) hq h1 hne hne1 hr hl
  exact ⟨_, g, hg, hK⟩
/-- a size is changed: those that begin beyond go -/
theorem k_46 (hh : kH Y h) {a v : Int} (ha : 0 ≤ a ∧ a ≤ 2) {L1 L2 L3 : List (Nat → Int)} (hL1 : rOK (M (h + 1)) (M (h + 2)) L1) (hL2 : rOK (M (h + 3)) (M (h + 4)) L2) (hL3 : rOK (M (h + 5)) (M (h + 6)) L3) (l1 : L1.length ≤ 16) (l2 : L2.length ≤ 8) (l3 : L3.length ≤ 8) {fh : Nat → Int} (hfh : vi_u (M h) (8 + a).toNat v = fh) :
    ∃ f1 g1 f2 g2 f3 g3, rOK f1 g1 (gFl (fh 8) (fh 9) (fh 10) L1) ∧ rOK f2 g2 (gFl (fh 8) (fh 9) (fh 10) L2) ∧ rOK f3 g3 (gFl (fh 8) (fh 9) (fh 10) L3) ∧ ∀ K : Option vi_V → vi_W → Prop, vi_call GG (d + 4) 46 [.inr (.inr h), .inl a, .inl v] (Y, M, n) K ↔ K (some (.inl (gSz (M h 8) (M h 9) (M h 10) a))) (Y, vi_rs (vi_rs (vi_rs (vi_rs (vi_rs (vi_rs (vi_rs M h fh) (h + 2) g1) (h + 1) f1) (h + 4) g2) (h + 3) f2) (h + 6) g3) (h + 5) f3, n) := by
  obtain ⟨h1, ⟨a1, q1⟩, ⟨a2, q2⟩, ⟨a3, q3⟩, -, -, -⟩ := hh
  obtain ⟨f1, g1, o1, k1⟩ := k_155h (d := d) (h := h) (n := n) (M := vi_rs M h fh) q1 h1 (by omega) (by omega) (L := L1) (by rw [vi_rs_o (by omega), vi_rs_o (by omega)]; exact hL1) l1
  obtain ⟨f2, g2, o2, k2⟩ := k_155h (d := d) (h := h) (n := n) (M := vi_rs (vi_rs (vi_rs M h fh) (h + 2) g1) (h + 1) f1) q2 h1 (by omega) (by omega) (L := L2) (by rw [vi_rs_o (by omega), vi_rs_o (by omega), vi_rs_o (by omega), vi_rs_o (by omega), vi_rs_o (by omega), vi_rs_o (by omega)]; exact hL2) l2
  obtain ⟨f3, g3, o3, k3⟩ := k_155h (d := d) (h := h) (n := n) (M := vi_rs (vi_rs (vi_rs (vi_rs (vi_rs M h fh) (h + 2) g1) (h + 1) f1) (h + 4) g2) (h + 3) f2) q3 h1 (by omega) (by omega) (L := L3) (by rw [vi_rs_o (by omega), vi_rs_o (by omega), vi_rs_o (by omega), vi_rs_o (by omega), vi_rs_o (by omega), vi_rs_o (by omega), vi_rs_o (by omega), vi_rs_o (by omega), vi_rs_o (by omega), vi_rs_o (by omega)]; exact hL3) l3
  refine ⟨f1, g1, f2, g2, f3, g3, ?_⟩
  rw [vi_rs_s] at o1
  rw [vi_rs_o (by omega), vi_rs_o (by omega), vi_rs_s] at o2
  rw [vi_rs_o (by omega), vi_rs_o (by omega), vi_rs_o (by omega), vi_rs_o (by omega), vi_rs_s] at o3
  refine ⟨o1, o2, o3, fun K => vi_k (r := some (.inl _)) fun Q hQ => ?_⟩
  obtain rfl | rfl | rfl : a = 0 ∨ a = 1 ∨ a = 2 := by omega
  · rw [show ((8 : Int) + 0).toNat = 8 from rfl] at hfh
    simp (disch := omega) only [Option.toList_some, Option.toList_none, List.nil_append, List.cons_append, List.append_nil, true_and, and_true, not_true_eq_false, not_false_eq_true, true_implies, false_implies, implies_true, and_self, Int.reduceLT, Int.reduceLE, Int.reduceEq, Int.reduceNe, Int.reduceAdd, Int.reduceSub, Int.reduceMul, Int.reduceNeg, Int.reduceToNat, Int.toNat_natCast, ↓kk_ck, ↓kk_im, ↓kk_in, e_46, s_46_0, s_46_10, s_46_18, s_46_23, s_46_31, s_46_36, s_46_5, s_46_15, s_46_28, s_46_40, s_46_44, s_46_48, s_46_52, s_46_56, s_46_60, h1, k_43 h1, ne_eq, vi_ms_rs, hfh, a1, a2, a3, q1.1, q2.1, q3.1, k1, k2, k3]
    exact hQ
  · rw [show ((8 : Int) + 1).toNat = 9 from rfl] at hfh
    simp (disch := omega) only [Option.toList_some, Option.toList_none, List.nil_append, List.cons_append, List.append_nil, true_and, and_true, not_true_eq_false, not_false_eq_true, true_implies, false_implies, implies_true, and_self, Int.reduceLT, Int.reduceLE, Int.reduceEq, Int.reduceNe, Int.reduceAdd, Int.reduceSub, Int.reduceMul, Int.reduceNeg, Int.reduceToNat, Int.toNat_natCast, ↓kk_ck, ↓kk_im, ↓kk_in, e_46, s_46_0, s_46_10, s_46_18, s_46_23, s_46_31, s_46_36, s_46_5, s_46_15, s_46_28, s_46_40, s_46_44, s_46_48, s_46_52, s_46_56, s_46_60, h1, k_43 h1, ne_eq, vi_ms_rs, hfh, a1, a2, a3, q1.1, q2.1, q3.1, k1, k2, k3]
    exact hQ
  · rw [show ((8 : Int) + 2).toNat = 10 from rfl] at hfh
    simp (disch := omega) only [Option.toList_some, Option.toList_none, List.nil_append, List.cons_append, List.append_nil, true_and, and_true, not_true_eq_false, not_false_eq_true, true_implies, false_implies, implies_true, and_self, Int.reduceLT, Int.reduceLE, Int.reduceEq, Int.reduceNe, Int.reduceAdd, Int.reduceSub, Int.reduceMul, Int.reduceNeg, Int.reduceToNat, Int.toNat_natCast, ↓kk_ck, ↓kk_im, ↓kk_in, e_46, s_46_0, s_46_10, s_46_18, s_46_23, s_46_31, s_46_36, s_46_5, s_46_15, s_46_28, s_46_40, s_46_44, s_46_48, s_46_52, s_46_56, s_46_60, h1, k_43 h1, ne_eq, vi_ms_rs, hfh, a1, a2, a3, q1.1, q2.1, q3.1, k1, k2, k3]
    exact hQ
theorem nq {h i j : Nat} (hij : i ≠ j) : h + i ≠ h + j := by omega
theorem nq0 {h j : Nat} (hj : 0 ≠ j) : h ≠ h + j := by omega
theorem nqh {h1 h2 i j : Nat} (hne : h1 + 10 ≤ h2 ∨ h2 + 10 ≤ h1) (hi : i < 10) (hj : j < 10) : h1 + i ≠ h2 + j := by omega
theorem nqh' {h1 h2 i j : Nat} (hne : h1 + 10 ≤ h2 ∨ h2 + 10 ≤ h1) (hi : i < 10) (hj : j < 10) : h2 + i ≠ h1 + j := by omega
theorem nq00 {h1 h2 j : Nat} (hne : h1 + 10 ≤ h2 ∨ h2 + 10 ≤ h1) (hj : j < 10) : h2 ≠ h1 + j := by omega
theorem l_42a {h1 h2 : Nat} {Q : Option vi_V → vi_W → Prop} (p1 : Y.1 h1 = 22) (p2 : Y.1 h2 = 22) (a4 : (Y.2.2 h1 3).toNat = h1 + 7) (a5 : Y.1 (h1 + 7) = 1) (a6 : (Y.2.1 (h1 + 7) : Int) = 108) (c4 : (Y.2.2 h2 3).toNat = h2 + 7) (c5 : Y.1 (h2 + 7) = 1) (c6 : (Y.2.1 (h2 + 7) : Int) = 108) (hn : h2 + 7 ≠ h1 + 7)
    (hQ : vi_ok GG d 42 73 [some (.inr (.inr h1)), some (.inr (.inr h2)), some (.inl 0)] [] (Y, vi_rs M (h1 + 7) (vi_m 108 (M (h2 + 7)) (M (h1 + 7))), n) Q) : vi_ok GG d 42 35 [some (.inr (.inr h1)), some (.inr (.inr h2)), some (.inl 0)] [] (Y, M, n) Q := by
  have loop : ∀ j : Nat, j ≤ 108 → vi_ok GG d 42 35 [some (.inr (.inr h1)), some (.inr (.inr h2)), some (.inl (j : Int))] [] (Y, vi_rs M (h1 + 7) (vi_m j (M (h2 + 7)) (M (h1 + 7))), n) Q := by
    refine vi_dn 108 ?_ fun j hj ih => ?_
    · rw [s_42_35]
      simp (disch := omega) only [Option.toList_some, Option.toList_none, List.nil_append, List.cons_append, List.append_nil, true_and, and_true, not_true_eq_false, not_false_eq_true, true_implies, false_implies, implies_true, and_self, Int.reduceLT, Int.reduceLE, Int.reduceEq, Int.reduceNe, Int.reduceAdd, Int.reduceSub, Int.reduceMul, Int.reduceNeg, Int.reduceToNat, Int.toNat_natCast, ↓kk_ck, ↓kk_im, ↓kk_in, s_42_0, s_42_44, s_42_53, s_42_71, s_42_82, s_42_91, s_42_109, s_42_120, s_42_129, s_42_147, s_42_4, s_42_40, s_42_49, s_42_57, s_42_78, s_42_87, s_42_95, s_42_116, s_42_125, s_42_133, s_42_152, s_42_8, s_42_41, s_42_50, s_42_62, s_42_79, s_42_88, s_42_100, s_42_117, s_42_126, s_42_138, s_42_155, s_42_11, s_42_64, s_42_102, s_42_140, s_42_160, s_42_15, s_42_65, s_42_103, s_42_141, s_42_163, s_42_19, s_42_168, s_42_22, s_42_171, s_42_26, s_42_176, s_42_30, s_42_179, s_42_33, s_42_184, s_42_187, s_42_192, s_42_195, p1, p2, a4, a5, a6]
      exact hQ
    · rw [s_42_35]
      simp (disch := omega) only [Option.toList_some, Option.toList_none, List.nil_append, List.cons_append, List.append_nil, true_and, and_true, not_true_eq_false, not_false_eq_true, true_implies, false_implies, implies_true, and_self, Int.reduceLT, Int.reduceLE, Int.reduceEq, Int.reduceNe, Int.reduceAdd, Int.reduceSub, Int.reduceMul, Int.reduceNeg, Int.reduceToNat, Int.toNat_natCast, ↓kk_ck, ↓kk_im, ↓kk_in, s_42_0, s_42_44, s_42_53, s_42_71, s_42_82, s_42_91, s_42_109, s_42_120, s_42_129, s_42_147, s_42_4, s_42_40, s_42_49, s_42_57, s_42_78, s_42_87, s_42_95, s_42_116, s_42_125, s_42_133, s_42_152, s_42_8, s_42_41, s_42_50, s_42_62, s_42_79, s_42_88, s_42_100, s_42_117, s_42_126, s_42_138, s_42_155, s_42_11, s_42_64, s_42_102, s_42_140, s_42_160, s_42_15, s_42_65, s_42_103, s_42_141, s_42_163, s_42_19, s_42_168, s_42_22, s_42_171, s_42_26, s_42_176, s_42_30, s_42_179, s_42_33, s_42_184, s_42_187, s_42_192, s_42_195, p1, p2, a4, a5, a6, c4, c5, c6, vi_ms_rs, vi_rs_s, vi_rs_rs, vi_rs_o hn, vi_inc]
      rw [vi_m_s rfl]
      exact ih
  have := loop 0 (by omega)
  rw [vi_m_0, vi_rs_id rfl] at this
  exact this
theorem l_42b {h1 h2 : Nat} {Q : Option vi_V → vi_W → Prop} (p1 : Y.1 h1 = 22) (p2 : Y.1 h2 = 22) (a4 : (Y.2.2 h1 4).toNat = h1 + 8) (a5 : Y.1 (h1 + 8) = 1) (a6 : (Y.2.1 (h1 + 8) : Int) = 12) (c4 : (Y.2.2 h2 4).toNat = h2 + 8) (c5 : Y.1 (h2 + 8) = 1) (c6 : (Y.2.1 (h2 + 8) : Int) = 12) (hn : h2 + 8 ≠ h1 + 8)
    (hQ : vi_ok GG d 42 111 [some (.inr (.inr h1)), some (.inr (.inr h2)), some (.inl 0)] [] (Y, vi_rs M (h1 + 8) (vi_m 12 (M (h2 + 8)) (M (h1 + 8))), n) Q) : vi_ok GG d 42 73 [some (.inr (.inr h1)), some (.inr (.inr h2)), some (.inl 0)] [] (Y, M, n) Q := by
  have loop : ∀ j : Nat, j ≤ 12 → vi_ok GG d 42 73 [some (.inr (.inr h1)), some (.inr (.inr h2)), some (.inl (j : Int))] [] (Y, vi_rs M (h1 + 8) (vi_m j (M (h2 + 8)) (M (h1 + 8))), n) Q := by
    refine vi_dn 12 ?_ fun j hj ih => ?_
    · rw [s_42_73]
      simp (disch := omega) only [Option.toList_some, Option.toList_none, List.nil_append, List.cons_append, List.append_nil, true_and, and_true, not_true_eq_false, not_false_eq_true, true_implies, false_implies, implies_true, and_self, Int.reduceLT, Int.reduceLE, Int.reduceEq, Int.reduceNe, Int.reduceAdd, Int.reduceSub, Int.reduceMul, Int.reduceNeg, Int.reduceToNat, Int.toNat_natCast, ↓kk_ck, ↓kk_im, ↓kk_in, s_42_0, s_42_44, s_42_53, s_42_71, s_42_82, s_42_91, s_42_109, s_42_120, s_42_129, s_42_147, s_42_4, s_42_40, s_42_49, s_42_57, s_42_78, s_42_87, s_42_95, s_42_116, s_42_125, s_42_133, s_42_152, s_42_8, s_42_41, s_42_50, s_42_62, s_42_79, s_42_88, s_42_100, s_42_117, s_42_126, s_42_138, s_42_155, s_42_11, s_42_64, s_42_102, s_42_140, s_42_160, s_42_15, s_42_65, s_42_103, s_42_141, s_42_163, s_42_19, s_42_168, s_42_22, s_42_171, s_42_26, s_42_176, s_42_30, s_42_179, s_42_33, s_42_184, s_42_187, s_42_192, s_42_195, p1, p2, a4, a5, a6]
      exact hQ
    · rw [s_42_73]
      simp (disch := omega) only [Option.toList_some, Option.toList_none, List.nil_append, List.cons_append, List.append_nil, true_and, and_true, not_true_eq_false, not_false_eq_true, true_implies, false_implies, implies_true, and_self, Int.reduceLT, Int.reduceLE, Int.reduceEq, Int.reduceNe, Int.reduceAdd, Int.reduceSub, Int.reduceMul, Int.reduceNeg, Int.reduceToNat, Int.toNat_natCast, ↓kk_ck, ↓kk_im, ↓kk_in, s_42_0, s_42_44, s_42_53, s_42_71, s_42_82, s_42_91, s_42_109, s_42_120, s_42_129, s_42_147, s_42_4, s_42_40, s_42_49, s_42_57, s_42_78, s_42_87, s_42_95, s_42_116, s_42_125, s_42_133, s_42_152, s_42_8, s_42_41, s_42_50, s_42_62, s_42_79, s_42_88, s_42_100, s_42_117, s_42_126, s_42_138, s_42_155, s_42_11, s_42_64, s_42_102, s_42_140, s_42_160, s_42_15, s_42_65, s_42_103, s_42_141, s_42_163, s_42_19, s_42_168, s_42_22, s_42_171, s_42_26, s_42_176, s_42_30, s_42_179, s_42_33, s_42_184, s_42_187, s_42_192, s_42_195, p1, p2, a4, a5, a6, c4, c5, c6, vi_ms_rs, vi_rs_s, vi_rs_rs, vi_rs_o hn, vi_inc]
      rw [vi_m_s rfl]
      exact ih
  have := loop 0 (by omega)
  rw [vi_m_0, vi_rs_id rfl] at this
  exact this
theorem l_42c {h1 h2 : Nat} {Q : Option vi_V → vi_W → Prop} (p1 : Y.1 h1 = 22) (p2 : Y.1 h2 = 22) (a4 : (Y.2.2 h1 5).toNat = h1 + 9) (a5 : Y.1 (h1 + 9) = 7) (a6 : (Y.2.1 (h1 + 9) : Int) = 6) (c4 : (Y.2.2 h2 5).toNat = h2 + 9) (c5 : Y.1 (h2 + 9) = 7) (c6 : (Y.2.1 (h2 + 9) : Int) = 6) (hn : h2 + 9 ≠ h1 + 9) (hn1 : h1 ≠ h1 + 9) (hn2 : h2 ≠ h1 + 9) (hn3 : h2 ≠ h1)
    (hlw : ∀ j, j < 6 → (M (h2 + 9) j).toNat = 0 ∨ Y.1 (M (h2 + 9) j).toNat = 23) (hlw2 : ∀ j, j < 6 → (((M (h2 + 9) j).toNat : Nat) : Int) = M (h2 + 9) j)
    (hQ : Q none (Y, vi_rs (vi_rs M (h1 + 9) (vi_m 6 (M (h2 + 9)) (M (h1 + 9)))) h1 (fun k => if 6 ≤ k ∧ k < 12 then M h2 k else M h1 k), n)) : vi_ok GG d 42 111 [some (.inr (.inr h1)), some (.inr (.inr h2)), some (.inl 0)] [] (Y, M, n) Q := by
  have loop : ∀ j : Nat, j ≤ 6 → vi_ok GG d 42 111 [some (.inr (.inr h1)), some (.inr (.inr h2)), some (.inl (j : Int))] [] (Y, vi_rs M (h1 + 9) (vi_m j (M (h2 + 9)) (M (h1 + 9))), n) Q := by
    refine vi_dn 6 ?_ fun j hj ih => ?_
    · rw [s_42_111]
      simp (disch := omega) only [Option.toList_some, Option.toList_none, List.nil_append, List.cons_append, List.append_nil, true_and, and_true, not_true_eq_false, not_false_eq_true, true_implies, false_implies, implies_true, and_self, Int.reduceLT, Int.reduceLE, Int.reduceEq, Int.reduceNe, Int.reduceAdd, Int.reduceSub, Int.reduceMul, Int.reduceNeg, Int.reduceToNat, Int.toNat_natCast, ↓kk_ck, ↓kk_im, ↓kk_in, s_42_0, s_42_44, s_42_53, s_42_71, s_42_82, s_42_91, s_42_109, s_42_120, s_42_129, s_42_147, s_42_4, s_42_40, s_42_49, s_42_57, s_42_78, s_42_87, s_42_95, s_42_116, s_42_125, s_42_133, s_42_152, s_42_8, s_42_41, s_42_50, s_42_62, s_42_79, s_42_88, s_42_100, s_42_117, s_42_126, s_42_138, s_42_155, s_42_11, s_42_64, s_42_102, s_42_140, s_42_160, s_42_15, s_42_65, s_42_103, s_42_141, s_42_163, s_42_19, s_42_168, s_42_22, s_42_171, s_42_26, s_42_176, s_42_30, s_42_179, s_42_33, s_42_184, s_42_187, s_42_192, s_42_195, p1, p2, a4, a5, a6, vi_ms_rs, vi_rs_s, vi_rs_rs, vi_rs_o hn1, vi_rs_o hn2, vi_rs_o hn3]
      refine vi_qN hQ ?_
      congr 2
      refine congrArg _ ?_
      funext k
      unfold vi_u
      by_cases c : 6 ≤ k ∧ k < 12
      · rw [if_pos c]
        obtain rfl | rfl | rfl | rfl | rfl | rfl : k = 6 ∨ k = 7 ∨ k = 8 ∨ k = 9 ∨ k = 10 ∨ k = 11 := by omega
        all_goals rfl
      · rw [if_neg c, if_neg (by omega), if_neg (by omega), if_neg (by omega), if_neg (by omega), if_neg (by omega), if_neg (by omega)]
    · rw [s_42_111]
      simp (disch := omega) only [Option.toList_some, Option.toList_none, List.nil_append, List.cons_append, List.append_nil, true_and, and_true, not_true_eq_false, not_false_eq_true, true_implies, false_implies, implies_true, and_self, Int.reduceLT, Int.reduceLE, Int.reduceEq, Int.reduceNe, Int.reduceAdd, Int.reduceSub, Int.reduceMul, Int.reduceNeg, Int.reduceToNat, Int.toNat_natCast, ↓kk_ck, ↓kk_im, ↓kk_in, s_42_0, s_42_44, s_42_53, s_42_71, s_42_82, s_42_91, s_42_109, s_42_120, s_42_129, s_42_147, s_42_4, s_42_40, s_42_49, s_42_57, s_42_78, s_42_87, s_42_95, s_42_116, s_42_125, s_42_133, s_42_152, s_42_8, s_42_41, s_42_50, s_42_62, s_42_79, s_42_88, s_42_100, s_42_117, s_42_126, s_42_138, s_42_155, s_42_11, s_42_64, s_42_102, s_42_140, s_42_160, s_42_15, s_42_65, s_42_103, s_42_141, s_42_163, s_42_19, s_42_168, s_42_22, s_42_171, s_42_26, s_42_176, s_42_30, s_42_179, s_42_33, s_42_184, s_42_187, s_42_192, s_42_195, p1, p2, a4, a5, a6, c4, c5, c6, vi_ms_rs, vi_rs_s, vi_rs_rs, vi_rs_o hn, hlw j hj, hlw2 j hj, vi_inc]
      rw [vi_m_s rfl]
      exact ih
  have := loop 0 (by omega)
  rw [vi_m_0, vi_rs_id rfl] at this
  exact this
/-- all but whether it was kept is copied -/
theorem k_42 {h1 h2 : Nat} (hh1 : kH Y h1) (hh2 : kH Y h2) (hne : h1 + 10 ≤ h2 ∨ h2 + 10 ≤ h1) {m1 m2 m3 n1 n2 n3 : Nat} (e1 : M (h2 + 1) 2 = (m1 : Int)) (e2 : M (h2 + 3) 2 = (m2 : Int)) (e3 : M (h2 + 5) 2 = (m3 : Int)) (l1 : m1 ≤ 16) (l2 : m2 ≤ 8) (l3 : m3 ≤ 8) (i1 : M (h1 + 1) 2 = (n1 : Int)) (i2 : M (h1 + 3) 2 = (n2 : Int)) (i3 : M (h1 + 5) 2 = (n3 : Int))
    (hlw : ∀ j, j < 6 → (M (h2 + 9) j).toNat = 0 ∨ Y.1 (M (h2 + 9) j).toNat = 23) (hlw2 : ∀ j, j < 6 → 0 ≤ M (h2 + 9) j) : vi_call GG (d + 3) 42 [.inr (.inr h1), .inr (.inr h2)] (Y, M, n) K ↔ K none (Y, vi_rs (vi_rs (vi_rs (vi_rs (vi_rs (vi_rs (vi_rs (vi_rs (vi_rs (vi_rs M (h1 + 1) (vi_u (M (h1 + 1)) 2 (m1 : Int))) (h1 + 2) (vi_m (6 * m1) (M (h2 + 2)) (M (h1 + 2)))) (h1 + 3) (vi_u (M (h1 + 3)) 2 (m2 : Int))) (h1 + 4) (vi_m (6 * m2) (M (h2 + 4)) (M (h1 + 4)))) (h1 + 5) (vi_u (M (h1 + 5)) 2 (m3 : Int))) (h1 + 6) (vi_m (6 * m3) (M (h2 + 6)) (M (h1 + 6)))) (h1 + 7) (vi_m 108 (M (h2 + 7)) (M (h1 + 7)))) (h1 + 8) (vi_m 12 (M (h2 + 8)) (M (h1 + 8)))) (h1 + 9) (vi_m 6 (M (h2 + 9)) (M (h1 + 9)))) h1 (fun k => if 6 ≤ k ∧ k < 12 then M h2 k else M h1 k), n) := by
  obtain ⟨p1, ⟨a1, q1⟩, ⟨a2, q2⟩, ⟨a3, q3⟩, ⟨a4, a5, a6⟩, ⟨a7, a8, a9⟩, ⟨b1, b2, b3⟩⟩ := hh1
  obtain ⟨p2, ⟨c1, s1⟩, ⟨c2, s2⟩, ⟨c3, s3⟩, ⟨c4, c5, c6⟩, ⟨c7, c8, c9⟩, ⟨d1, d2, d3⟩⟩ := hh2
  refine vi_k (r := none) fun Q hQ => ?_
  generalize hM1 : vi_rs (vi_rs M (h1 + 1) (vi_u (M (h1 + 1)) 2 (m1 : Int))) (h1 + 2) (vi_m (6 * m1) (M (h2 + 2)) (M (h1 + 2))) = M1 at hQ
  generalize hM2 : vi_rs (vi_rs M1 (h1 + 3) (vi_u (M (h1 + 3)) 2 (m2 : Int))) (h1 + 4) (vi_m (6 * m2) (M (h2 + 4)) (M (h1 + 4))) = M2 at hQ
  generalize hM3 : vi_rs (vi_rs M2 (h1 + 5) (vi_u (M (h1 + 5)) 2 (m3 : Int))) (h1 + 6) (vi_m (6 * m3) (M (h2 + 6)) (M (h1 + 6))) = M3 at hQ
  have f1 : ∀ q, q ≠ h1 + 1 → q ≠ h1 + 2 → M1 q = M q := fun q x y => by rw [← hM1, vi_rs_o y, vi_rs_o x]
  have f2 : ∀ q, q ≠ h1 + 1 → q ≠ h1 + 2 → q ≠ h1 + 3 → q ≠ h1 + 4 → M2 q = M q := fun q x y z w => by rw [← hM2, vi_rs_o w, vi_rs_o z, f1 q x y]
  have f3 : ∀ q, q ≠ h1 + 1 → q ≠ h1 + 2 → q ≠ h1 + 3 → q ≠ h1 + 4 → q ≠ h1 + 5 → q ≠ h1 + 6 → M3 q = M q := fun q x y z w u v => by rw [← hM3, vi_rs_o v, vi_rs_o u, f2 q x y z w]
  have k1 := fun {K : Option vi_V → vi_W → Prop} => @k_156 d (h1 + 1) (h2 + 1) 16 K Y M n q1 s1 (nqh (i := 1) (j := 1) hne (by decide) (by decide)) (nqh (i := 2) (j := 1) hne (by decide) (by decide)) (nqh (i := 1) (j := 2) hne (by decide) (by decide)) m1 n1 e1 l1 i1
  have k2 := fun {K : Option vi_V → vi_W → Prop} => @k_156 d (h1 + 3) (h2 + 3) 8 K Y M1 n q2 s2 (nqh (i := 3) (j := 3) hne (by decide) (by decide)) (nqh (i := 4) (j := 3) hne (by decide) (by decide)) (nqh (i := 3) (j := 4) hne (by decide) (by decide)) m2 n2 (by rw [f1 _ (nqh' (i := 3) (j := 1) hne (by decide) (by decide)) (nqh' (i := 3) (j := 2) hne (by decide) (by decide))]; exact e2) l2 (by rw [f1 _ (nq (h := h1) (i := 3) (j := 1) (by decide)) (nq (h := h1) (i := 3) (j := 2) (by decide))]; exact i2)
  have k3 := fun {K : Option vi_V → vi_W → Prop} => @k_156 d (h1 + 5) (h2 + 5) 8 K Y M2 n q3 s3 (nqh (i := 5) (j := 5) hne (by decide) (by decide)) (nqh (i := 6) (j := 5) hne (by decide) (by decide)) (nqh (i := 5) (j := 6) hne (by decide) (by decide)) m3 n3 (by rw [f2 _ (nqh' (i := 5) (j := 1) hne (by decide) (by decide)) (nqh' (i := 5) (j := 2) hne (by decide) (by decide)) (nqh' (i := 5) (j := 3) hne (by decide) (by decide)) (nqh' (i := 5) (j := 4) hne (by decide) (by decide))]; exact e3) l3 (by rw [f2 _ (nq (h := h1) (i := 5) (j := 1) (by decide)) (nq (h := h1) (i := 5) (j := 2) (by decide)) (nq (h := h1) (i := 5) (j := 3) (by decide)) (nq (h := h1) (i := 5) (j := 4) (by decide))]; exact i3)
  simp only [Nat.add_assoc, Nat.reduceAdd] at k1 k2 k3
  rw [hM1] at k1
  rw [f1 (h1 + 3) (nq (h := h1) (i := 3) (j := 1) (by decide)) (nq (h := h1) (i := 3) (j := 2) (by decide)), f1 (h2 + 4) (nqh' (i := 4) (j := 1) hne (by decide) (by decide)) (nqh' (i := 4) (j := 2) hne (by decide) (by decide)), f1 (h1 + 4) (nq (h := h1) (i := 4) (j := 1) (by decide)) (nq (h := h1) (i := 4) (j := 2) (by decide)), hM2] at k2
  rw [f2 (h1 + 5) (nq (h := h1) (i := 5) (j := 1) (by decide)) (nq (h := h1) (i := 5) (j := 2) (by decide)) (nq (h := h1) (i := 5) (j := 3) (by decide)) (nq (h := h1) (i := 5) (j := 4) (by decide)), f2 (h2 + 6) (nqh' (i := 6) (j := 1) hne (by decide) (by decide)) (nqh' (i := 6) (j := 2) hne (by decide) (by decide)) (nqh' (i := 6) (j := 3) hne (by decide) (by decide)) (nqh' (i := 6) (j := 4) hne (by decide) (by decide)), f2 (h1 + 6) (nq (h := h1) (i := 6) (j := 1) (by decide)) (nq (h := h1) (i := 6) (j := 2) (by decide)) (nq (h := h1) (i := 6) (j := 3) (by decide)) (nq (h := h1) (i := 6) (j := 4) (by decide)), hM3] at k3
  have g7 : M3 (h1 + 7) = M (h1 + 7) := f3 _ (nq (h := h1) (i := 7) (j := 1) (by decide)) (nq (h := h1) (i := 7) (j := 2) (by decide)) (nq (h := h1) (i := 7) (j := 3) (by decide)) (nq (h := h1) (i := 7) (j := 4) (by decide)) (nq (h := h1) (i := 7) (j := 5) (by decide)) (nq (h := h1) (i := 7) (j := 6) (by decide))
  have g8 : M3 (h1 + 8) = M (h1 + 8) := f3 _ (nq (h := h1) (i := 8) (j := 1) (by decide)) (nq (h := h1) (i := 8) (j := 2) (by decide)) (nq (h := h1) (i := 8) (j := 3) (by decide)) (nq (h := h1) (i := 8) (j := 4) (by decide)) (nq (h := h1) (i := 8) (j := 5) (by decide)) (nq (h := h1) (i := 8) (j := 6) (by decide))
  have g9 : M3 (h1 + 9) = M (h1 + 9) := f3 _ (nq (h := h1) (i := 9) (j := 1) (by decide)) (nq (h := h1) (i := 9) (j := 2) (by decide)) (nq (h := h1) (i := 9) (j := 3) (by decide)) (nq (h := h1) (i := 9) (j := 4) (by decide)) (nq (h := h1) (i := 9) (j := 5) (by decide)) (nq (h := h1) (i := 9) (j := 6) (by decide))
  have g0 : M3 h1 = M h1 := f3 _ (nq0 (h := h1) (j := 1) (by decide)) (nq0 (h := h1) (j := 2) (by decide)) (nq0 (h := h1) (j := 3) (by decide)) (nq0 (h := h1) (j := 4) (by decide)) (nq0 (h := h1) (j := 5) (by decide)) (nq0 (h := h1) (j := 6) (by decide))
  have o7 : M3 (h2 + 7) = M (h2 + 7) := f3 _ (nqh' (i := 7) (j := 1) hne (by decide) (by decide)) (nqh' (i := 7) (j := 2) hne (by decide) (by decide)) (nqh' (i := 7) (j := 3) hne (by decide) (by decide)) (nqh' (i := 7) (j := 4) hne (by decide) (by decide)) (nqh' (i := 7) (j := 5) hne (by decide) (by decide)) (nqh' (i := 7) (j := 6) hne (by decide) (by decide))
  have o8 : M3 (h2 + 8) = M (h2 + 8) := f3 _ (nqh' (i := 8) (j := 1) hne (by decide) (by decide)) (nqh' (i := 8) (j := 2) hne (by decide) (by decide)) (nqh' (i := 8) (j := 3) hne (by decide) (by decide)) (nqh' (i := 8) (j := 4) hne (by decide) (by decide)) (nqh' (i := 8) (j := 5) hne (by decide) (by decide)) (nqh' (i := 8) (j := 6) hne (by decide) (by decide))
  have o9 : M3 (h2 + 9) = M (h2 + 9) := f3 _ (nqh' (i := 9) (j := 1) hne (by decide) (by decide)) (nqh' (i := 9) (j := 2) hne (by decide) (by decide)) (nqh' (i := 9) (j := 3) hne (by decide) (by decide)) (nqh' (i := 9) (j := 4) hne (by decide) (by decide)) (nqh' (i := 9) (j := 5) hne (by decide) (by decide)) (nqh' (i := 9) (j := 6) hne (by decide) (by decide))
  have o0 : M3 h2 = M h2 := f3 _ (nq00 (j := 1) hne (by decide)) (nq00 (j := 2) hne (by decide)) (nq00 (j := 3) hne (by decide)) (nq00 (j := 4) hne (by decide)) (nq00 (j := 5) hne (by decide)) (nq00 (j := 6) hne (by decide))
  have hz : ∀ j, j < 6 → (((M (h2 + 9) j).toNat : Nat) : Int) = M (h2 + 9) j := fun j hj => Int.toNat_of_nonneg (hlw2 j hj)
  have n1 : h2 + 7 ≠ h1 + 7 := nqh' hne (by decide) (by decide)
  have n2 : h2 + 8 ≠ h1 + 8 := nqh' hne (by decide) (by decide)
  have n3 : h2 + 9 ≠ h1 + 9 := nqh' hne (by decide) (by decide)
  have n4 : h2 + 8 ≠ h1 + 7 := nqh' hne (by decide) (by decide)
  have n5 : h2 + 9 ≠ h1 + 7 := nqh' hne (by decide) (by decide)
  have n6 : h2 + 9 ≠ h1 + 8 := nqh' hne (by decide) (by decide)
  have n7 : h2 ≠ h1 := nqh' (i := 0) (j := 0) hne (by decide) (by decide)
  have n8 : h2 ≠ h1 + 7 := nq00 hne (by decide)
  have n9 : h2 ≠ h1 + 8 := nq00 hne (by decide)
  have n10 : h2 ≠ h1 + 9 := nq00 hne (by decide)
  have n11 : h1 ≠ h1 + 7 := nq0 (by decide)
  have n12 : h1 ≠ h1 + 8 := nq0 (by decide)
  have n13 : h1 ≠ h1 + 9 := nq0 (by decide)
  have n14 : h1 + 8 ≠ h1 + 7 := nq (by decide)
  have n15 : h1 + 9 ≠ h1 + 7 := nq (by decide)
  have n16 : h1 + 9 ≠ h1 + 8 := nq (by decide)
  have := l_42a (d := d + 2) (n := n) (M := M3) (Q := Q) p1 p2 a4 a5 a6 c4 c5 c6 n1 (l_42b p1 p2 a7 a8 a9 c7 c8 c9 n2 (l_42c p1 p2 b1 b2 b3 d1 d2 d3 n3 n13 n10 n7 (by rw [vi_rs_o n6, vi_rs_o n5, o9]; exact hlw) (by rw [vi_rs_o n6, vi_rs_o n5, o9]; exact hz) (by
    rw [vi_rs_o n6, vi_rs_o n5, o9, vi_rs_o n16, vi_rs_o n15, g9, vi_rs_o n4, o8, vi_rs_o n14, g8, o7, g7, vi_rs_o n9, vi_rs_o n8, o0, vi_rs_o n12, vi_rs_o n11, g0]
    exact hQ)))
  clear hQ hlw hlw2 hz g7 g8 g9 g0 o7 o8 o9 o0 f1 f2 f3
  simp (disch := omega) only [Option.toList_some, Option.toList_none, List.nil_append, List.cons_append, List.append_nil, true_and, and_true, not_true_eq_false, not_false_eq_true, true_implies, false_implies, implies_true, and_self, Int.reduceLT, Int.reduceLE, Int.reduceEq, Int.reduceNe, Int.reduceAdd, Int.reduceSub, Int.reduceMul, Int.reduceNeg, Int.reduceToNat, Int.toNat_natCast, ↓kk_ck, ↓kk_im, ↓kk_in, e_42, s_42_0, s_42_44, s_42_53, s_42_71, s_42_82, s_42_91, s_42_109, s_42_120, s_42_129, s_42_147, s_42_4, s_42_40, s_42_49, s_42_57, s_42_78, s_42_87, s_42_95, s_42_116, s_42_125, s_42_133, s_42_152, s_42_8, s_42_41, s_42_50, s_42_62, s_42_79, s_42_88, s_42_100, s_42_117, s_42_126, s_42_138, s_42_155, s_42_11, s_42_64, s_42_102, s_42_140, s_42_160, s_42_15, s_42_65, s_42_103, s_42_141, s_42_163, s_42_19, s_42_168, s_42_22, s_42_171, s_42_26, s_42_176, s_42_30, s_42_179, s_42_33, s_42_184, s_42_187, s_42_192, s_42_195, p1, p2, a1, a2, a3, c1, c2, c3, q1.1, q2.1, q3.1, s1.1, s2.1, s3.1, k1, k2, k3]
  exact this
end
