/-! Held: a size is changed; all is copied. -/
/-- the same but at some places -/
def vi_fr (M M' : vi_M) (A : Nat → Prop) : Prop := ∀ q, ¬ A q → M' q = M q
section
variable {d h : Nat} {K : Option vi_V → vi_W → Prop} {Y : vi_Y} {M : vi_M} {n : Nat × Nat}
def gFl (x y z : Int) (L : List (Nat → Int)) : List (Nat → Int) := L.filter (fun v => gPl x y z (v 0) (v 1) (v 2))
theorem gFl_len {x y z : Int} {L : List (Nat → Int)} : (gFl x y z L).length ≤ L.length := List.length_filter_le _ _
theorem k_155h {q lim : Nat} {L : List (Nat → Int)} (hq : kR Y q lim) (h1 : Y.1 h = 22) (hne : h ≠ q) (hne1 : h ≠ q + 1) (hr : rOK (M q) (M (q + 1)) L) (hl : L.length ≤ lim) : ∃ f g, rOK f g (gFl (M h 8) (M h 9) (M h 10) L) ∧ ∀ K : Option vi_V → vi_W → Prop, vi_call GG (d + 3) 155 [.inr (.inr q), .inr (.inr h)] (Y, M, n) K ↔ K none (Y, vi_rs (vi_rs M (q + 1) g) q f, n) := by
  obtain ⟨g, hg, hK⟩ := k_155 (d := d) (n := n) hq h1 hne hne1 hr hl
  exact ⟨_, g, hg, hK⟩
/-- a size is changed: those that begin beyond go -/
theorem k_46 (hh : kH Y h) {a v : Int} (ha : 0 ≤ a ∧ a ≤ 2) {L1 L2 L3 : List (Nat → Int)} (hL1 : rOK (M (h + 1)) (M (h + 2)) L1) (hL2 : rOK (M (h + 3)) (M (h + 4)) L2) (hL3 : rOK (M (h + 5)) (M (h + 6)) L3) (l1 : L1.length ≤ 16) (l2 : L2.length ≤ 8) (l3 : L3.length ≤ 8) {fh : Nat → Int} (hfh : vi_u (M h) (8 + a).toNat v = fh) :
    ∃ f1 g1 f2 g2 f3 g3, rOK f1 g1 (gFl (fh 8) (fh 9) (fh 10) L1) ∧ rOK f2 g2 (gFl (fh 8) (fh 9) (fh 10) L2) ∧ rOK f3 g3 (gFl (fh 8) (fh 9) (fh 10) L3) ∧ ∀ K : Option vi_V → vi_W → Prop, vi_call GG (d + 4) 46 [.inr (.inr h), .inl a, .inl v] (Y, M, n) K ↔ K (some (.inl (gSz (M h 8) (M h 9) (M h 10) a))) (Y, vi_rs (vi_rs (vi_rs (vi_rs (vi_rs (vi_rs (vi_rs M h fh) (h + 2) g1) (h + 1) f1) (h + 4) g2) (h + 3) f2) (h + 6) g3) (h + 5) f3, n) := by
  obtain ⟨h1, ⟨a1, q1⟩, ⟨a2, q2⟩, ⟨a3, q3⟩, -, -, -⟩ := hh
  obtain ⟨f1, g1, o1, k1⟩ := k_155h (d := d) (h := h) (n := n) (M := vi_rs M h fh) q1 h1 (by omega) (by omega) (L := L1) (by rw [vi_rs_o (by omega), vi_rs_o (by omega)]; exact hL1) l1
  obtain ⟨f2, g2, o2, k2⟩ := k_155h (d := d) (h := h) (n := n) (M := vi_rs (vi_rs (vi_rs M h fh) (h + 2) g1) (h + 1) f1) q2 h1 (by omega) (by omega) (L := L2) (by rw [vi_rs_o (by omega), vi_rs_o (by omega), vi_rs_o (by omega), vi_rs_o (by omega), vi_rs_o (by omega), vi_rs_o (by omega)]; exact hL2) l2
  obtain ⟨f3, g3, o3, k3⟩ := k_155h (d := d) (h := h) (n := n) (M := vi_rs (vi_rs (vi_rs (vi_rs (vi_rs M h fh) (h + 2) g1) (h + 1) f1) (h + 4) g2) (h + 3) f2) q3 h1 (by omega) (by omega) (L := L3) (by rw [vi_rs_o (by omega), vi_rs_o (by omega), vi_rs_o (by omega), vi_rs_o (by omega), vi_rs_o (by omega), vi_rs_o (by omega), vi_rs_o (by omega), vi_rs_o (by omega), vi_rs_o (by omega), vi_rs_o (by omega)]; exact hL3) l3
  refine ⟨f1, g1, f2, g2, f3, g3, ?_⟩
  rw [vi_rs_s] at o1
  rw [vi_rs_o (by omega), vi_rs_o (by omega), vi_rs_s] at o2
  rw [vi_rs_o (by omega), vi_rs_o (by omega), vi_rs_o (by omega), vi_rs_o (by omega), vi_rs_s] at o3
  refine ⟨o1, o2, o3, fun K => vi_k (r := some (.inl _)) fun Q hQ => ?_⟩
  obtain rfl | rfl | rfl : a = 0 ∨ a = 1 ∨ a = 2 := by omega
  · rw [show ((8 : Int) + 0).toNat = 8 from rfl] at hfh
    simp (disch := omega) only [Option.toList_some, Option.toList_none, List.nil_append, List.cons_append, List.append_nil, true_and, and_true, not_true_eq_false, not_false_eq_true, true_implies, false_implies, implies_true, and_self, Int.reduceLT, Int.reduceLE, Int.reduceEq, Int.reduceNe, Int.reduceAdd, Int.reduceSub, Int.reduceMul, Int.reduceNeg, Int.reduceToNat, Int.toNat_natCast, ↓kk_ck, ↓kk_im, ↓kk_in, e_46, s_46_0, s_46_10, s_46_18, s_46_23, s_46_31, s_46_36, s_46_5, s_46_15, s_46_28, s_46_40, s_46_44, s_46_48, s_46_52, s_46_56, s_46_60, h1, k_43 h1, ne_eq, vi_ms_rs, hfh, a1, a2, a3, q1.1, q2.1, q3.1, k1, k2, k3]
    exact hQ
  · rw [show ((8 : Int) + 1).toNat = 9 from rfl] at hfh
    simp (disch := omega) only [Option.toList_some, Option.toList_none, List.nil_append, List.cons_append, List.append_nil, true_and, and_true, not_true_eq_false, not_false_eq_true, true_implies, false_implies, implies_true, and_self, Int.reduceLT, Int.reduceLE, Int.reduceEq, Int.reduceNe, Int.reduceAdd, Int.reduceSub, Int.reduceMul, Int.reduceNeg, Int.reduceToNat, Int.toNat_natCast, ↓kk_ck, ↓kk_im, ↓kk_in, e_46, s_46_0, s_46_10, s_46_18, s_46_23, s_46_31, s_46_36, s_46_5, s_46_15, s_46_28, s_46_40, s_46_44, s_46_48, s_46_52, s_46_56, s_46_60, h1, k_43 h1, ne_eq, vi_ms_rs, hfh, a1, a2, a3, q1.1, q2.1, q3.1, k1, k2, k3]
    exact hQ
  · rw [show ((8 : Int) + 2).toNat = 10 from rfl] at hfh
    simp (disch := omega) only [Option.toList_some, Option.toList_none, List.nil_append, List.cons_append, List.append_nil, true_and, and_true, not_true_eq_false, not_false_eq_true, true_implies, false_implies, implies_true, and_self, Int.reduceLT, Int.reduceLE, Int.reduceEq, Int.reduceNe, Int.reduceAdd, Int.reduceSub, Int.reduceMul, Int.reduceNeg, Int.reduceToNat, Int.toNat_natCast, ↓kk_ck, ↓kk_im, ↓kk_in, e_46, s_46_0, s_46_10, s_46_18, s_46_23, s_46_31, s_46_36, s_46_5, s_46_15, s_46_28, s_46_40, s_46_44, s_46_48, s_46_52, s_46_56, s_46_60, h1, k_43 h1, ne_eq, vi_ms_rs, hfh, a1, a2, a3, q1.1, q2.1, q3.1, k1, k2, k3]
    exact hQ
theorem nq {h i j : Nat} (hij : i ≠ j) : h + i ≠ h + j := by omega
theorem nq0 {h j : Nat} (hj : 0 ≠ j) : h ≠ h + j := by omega
theorem nqh {h1 h2 i j : Nat} (hne : h1 + 10 ≤ h2 ∨ h2 + 10 ≤ h1) (hi : i < 10) (hj : j < 10) : h1 + i ≠ h2 + j := by omega
theorem nqh' {h1 h2 i j : Nat} (hne : h1 + 10 ≤ h2 ∨ h2 + 10 ≤ h1) (hi : i < 10) (hj : j < 10) : h2 + i ≠ h1 + j := by omega
theorem nq00 {h1 h2 j : Nat} (hne : h1 + 10 ≤ h2 ∨ h2 + 10 ≤ h1) (hj : j < 10) : h2 ≠ h1 + j := by omega
end
