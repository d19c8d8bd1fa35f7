/-! The property of its own: what comes to the TAPE, a LAW, in force. -/
section
variable {d nl : Nat} {K : Option vi_V → vi_W → Prop} {Y : vi_Y} {M : vi_M} {nn : Nat × Nat} {x y z t fo : Int} {L R : List (Nat → Int)} {lw : Option (List gCla)} {Q : Option vi_V → vi_W → Prop}
theorem lk_193 (hY : kY Y 112) (h9 : kY9 Y) {m : Nat} (t2 : M 73 3 = (m : Int)) (h : m + 20 ≤ 400) {x1 x2 x3 x4 x5 : Int} : vi_call GG (d + 70) 193 [.inr (.inr 29), .inl x1, .inl x2, .inl x3, .inl x4, .inl x5] (Y, M, nn) K ↔ K (some (.inl ((m + 20 : Nat) : Int))) (Y, vi_rs (vi_rs M 74 (mIm (M 74) (tBy x1 x2 x3 x4 x5) m 20)) 73 (vi_u (M 73) 3 ((m + 20 : Nat) : Int)), nn) := by
  obtain ⟨a1, a2, a3, a4, a5, a6, a7, a8, a9, a10, a11, a12⟩ := y_29 h9
  obtain ⟨q1, -⟩ := y_73 hY (by omega)
  have k125 := fun {K : Option vi_V → vi_W → Prop} => @k_125 (d + 69) K Y M nn m x1 x2 x3 x4 x5 hY t2 h (by omega)
  refine vi_k (r := some (.inl _)) fun Q hQ => ?_
  clear t2
  simp (disch := omega) only [Option.toList_some, Option.toList_none, List.nil_append, List.cons_append, List.append_nil, true_and, and_true, not_true_eq_false, not_false_eq_true, true_implies, false_implies, implies_true, and_self, Int.reduceLT, Int.reduceLE, Int.reduceEq, Int.reduceNe, Int.reduceAdd, Int.reduceSub, Int.reduceMul, Int.reduceNeg, Int.reduceToNat, Int.toNat_natCast, ↓kk_ck, ↓kk_im, ↓kk_in, e_193, s_193_0, s_193_4, s_193_14, a1, a6, q1, k125, ne_eq]
  exact hQ
theorem lk_194 (hY : kY Y 112) (h9 : kY9 Y) {m y : Nat} (t2 : M 73 3 = (m : Int)) (h : y ≤ m) : vi_call GG (d + 70) 194 [.inr (.inr 29), .inl (y : Int)] (Y, M, nn) K ↔ K (some (.inl (y : Int))) (Y, vi_rs M 73 (vi_u (M 73) 3 (y : Int)), nn) := by
  obtain ⟨a1, a2, a3, a4, a5, a6, a7, a8, a9, a10, a11, a12⟩ := y_29 h9
  obtain ⟨q1, -⟩ := y_73 hY (by omega)
  have k124 := fun {K : Option vi_V → vi_W → Prop} => @k_124 (d + 69) K Y M nn hY (y : Int) (by rw [t2]; omega) (by omega)
  refine vi_k (r := some (.inl _)) fun Q hQ => ?_
  clear t2
  simp (disch := omega) only [Option.toList_some, Option.toList_none, List.nil_append, List.cons_append, List.append_nil, true_and, and_true, not_true_eq_false, not_false_eq_true, true_implies, false_implies, implies_true, and_self, Int.reduceLT, Int.reduceLE, Int.reduceEq, Int.reduceNe, Int.reduceAdd, Int.reduceSub, Int.reduceMul, Int.reduceNeg, Int.reduceToNat, Int.toNat_natCast, ↓kk_ck, ↓kk_im, ↓kk_in, e_194, s_194_0, s_194_4, s_194_8, a1, a6, q1, k124, ne_eq]
  exact hQ
theorem lk_197 (hY : kY Y 112) (h9 : kY9 Y) (hk : kS Y M) {p sl : Nat} (hS : wS M x y z t L R none 0 (-1)) {m : Nat} (t1 : m ≤ 400) (t5 : tOk (M 74)) (t2 : M 73 3 = (m : Int)) (hp : 120 ≤ p) {cs : List gCla} {i' fu : Nat} (hg : rdL (tCd (M 74) m) (tVl (M 74) m) (fun i => decide (tI (M 74) m i = m)) fu 12 0 0 [] = some (some cs, i'))
    (hQ : ∀ (Y' : vi_Y) (M' : vi_M) (S : Nat), S ≤ 400 → pGood Y' M' p S cs → kBl Y Y' p → wS M' x y z t L R none 1 (-1) → M' 39 0 = ((p + 2 : Nat) : Int) → (∀ q, q < p → q ≠ 29 → q ≠ 30 → q ≠ 39 → q ≠ 73 → q ≠ 75 → q ≠ 76 → M' q = M q) → Q (some (.inl 0)) (Y', M', p + 5, sl + S + 4 * cs.length + 78)) : vi_call GG (d + 70) 197 [.inr (.inr 29)] (Y, M, p, sl) Q := by
  obtain ⟨⟨⟨o1, o2, o3⟩, ⟨hh, hR⟩, hz, ⟨l6, l7⟩, hJ, h111⟩, hV⟩ := hS
  obtain ⟨a1, a2, a3, a4, a5, a6, a7, a8, a9, a10, a11, a12⟩ := y_29 h9
  obtain ⟨b1, b2, -⟩ := y_30 hY (by omega)
  obtain ⟨q1, -⟩ := y_73 hY (by omega)
  have k62 := fun {K : Option vi_V → vi_W → Prop} => @k_62 (d + 68) 30 K Y M (p, sl) (kH_30 hY (by omega))
  simp only [Nat.add_assoc, Nat.reduceAdd] at k62
  rw [l6, decide_eq_false (by omega)] at k62
  have c127 : vi_call GG (d + 69) 127 [.inr (.inr 73)] (Y, M, p, sl) (fun r w' => vi_ok GG (d + 69) 197 31 [some (.inr (.inr 29)), none] r.toList w' Q) := by
    refine @k_127 (d + 9) Y M m (M 74) p sl hY hk t1 t5 rfl t2 hp fu (some cs) i' hg _ (fun hr => absurd hr (by simp)) (fun cs' hr Y' M' S g1 g2 g3 g4 g5 => ?_)
    obtain rfl : cs = cs' := Option.some.inj hr
    obtain ⟨M1, hM1⟩ : ∃ M1, M1 = vi_rs M' 73 (vi_u (M' 73) 3 0) := ⟨_, rfl⟩
    obtain ⟨M2, hM2⟩ : ∃ M2, M2 = vi_rs (vi_rs M1 39 (vi_u (M1 39) 0 ((p + 2 : Nat) : Int))) 30 (vi_u (M1 30) 6 ((0 + 1 : Nat) : Int)) := ⟨_, rfl⟩
    have m1 : ∀ q, q < p → q ≠ 73 → q ≠ 75 → q ≠ 76 → M1 q = M q := fun q p0 p1 p2 p3 => by rw [hM1, vi_rs_o p1, g3 q p0 p1 p2 p3]
    have m2 : ∀ q, q < p → q ≠ 30 → q ≠ 39 → q ≠ 73 → q ≠ 75 → q ≠ 76 → M2 q = M q := fun q p0 p1 p2 p3 p4 p5 => by rw [hM2, vi_rs_o p1, vi_rs_o p2, m1 q p0 p3 p4 p5]
    have m2' : ∀ q, p ≤ q → M2 q = M' q := fun q p0 => by rw [hM2, vi_rs_o (by omega), vi_rs_o (by omega), hM1, vi_rs_o (by omega)]
    have e30 : M2 30 = vi_u (M 30) 6 1 := by rw [hM2, vi_rs_s, m1 30 (by omega) (by decide) (by decide) (by decide)]; rfl
    have e39 : M2 39 = vi_u (M 39) 0 ((p + 2 : Nat) : Int) := by rw [hM2, vi_rs_o (by decide), vi_rs_s, m1 39 (by omega) (by decide) (by decide) (by decide)]
    have hY' := kY_bl hY g2 (by omega)
    have h9' := kY9_bl h9 g2 (by omega)
    have qq : ∀ q, q < p → q ≠ 29 → q ≠ 30 → q ≠ 39 → q ≠ 73 → q ≠ 75 → q ≠ 76 → vi_rs M2 29 (vi_u (M2 29) 11 0) q = M q := fun q p0 p1 p2 p3 p4 p5 p6 => by rw [vi_rs_o p1, m2 q p0 p2 p3 p4 p5 p6]
    have hq := hQ Y' (vi_rs M2 29 (vi_u (M2 29) 11 0)) S g1.2.1 (pGood_bl (b := p + 5) g1 (fun q _ => ⟨rfl, rfl, rfl⟩) (by omega) (by rw [vi_rs_o (by omega), m2' p (by omega)]) (by rw [vi_rs_o (by omega), m2' (p + 1) (by omega)])) g2 (by
      refine pS_29 ⟨⟨⟨?_, ?_, ?_⟩, ⟨hh, hR⟩, ?_, ?_, jJ_c2 hJ fun q hq => ?_, ?_⟩, jV_c hV fun q q1 q2 => m2 q (by omega) (by omega) (by omega) (by omega) (by omega) (by omega)⟩
      · rw [m2 31 (by omega) (by decide) (by decide) (by decide) (by decide) (by decide), m2 32 (by omega) (by decide) (by decide) (by decide) (by decide) (by decide)]; exact o1
      · rw [m2 33 (by omega) (by decide) (by decide) (by decide) (by decide) (by decide), m2 34 (by omega) (by decide) (by decide) (by decide) (by decide) (by decide)]; exact o2
      · rw [m2 35 (by omega) (by decide) (by decide) (by decide) (by decide) (by decide), m2 36 (by omega) (by decide) (by decide) (by decide) (by decide) (by decide)]; exact o3
      · rw [e30, vi_u_o (by decide), vi_u_o (by decide), vi_u_o (by decide), vi_u_o (by decide)]; exact hz
      · rw [e30, vi_u_s, vi_u_o (by decide)]; exact ⟨rfl, l7⟩
      · exact m2 q (by unfold jCe at hq; omega) (by unfold jCe at hq; omega) (by unfold jCe at hq; omega) (by unfold jCe at hq; omega) (by unfold jCe at hq; omega) (by unfold jCe at hq; omega)
      · rw [m2 111 (by omega) (by decide) (by decide) (by decide) (by decide) (by decide)]; exact h111) (by rw [vi_rs_o (by decide), e39, vi_u_s]) qq
    obtain ⟨a1', a2', a3', a4', a5', a6', -⟩ := y_29 h9'
    obtain ⟨b1', -⟩ := y_30 hY' (by omega)
    obtain ⟨q1', -⟩ := y_73 hY' (by omega)
    have k123 := fun {K : Option vi_V → vi_W → Prop} => @k_123 (d + 69) K Y' M' (p + 5, sl + S + 4 * cs.length + 78) hY' (by omega)
    rw [← hM1] at k123
    have e30' : M1 30 6 = ((0 : Nat) : Int) := by rw [m1 30 (by omega) (by decide) (by decide) (by decide), l6]
    have k64 : ∀ K : Option vi_V → vi_W → Prop, vi_call GG (d + 69) 64 [.inr (.inr 30), .inr (.inr (p + 2))] (Y', M1, p + 5, sl + S + 4 * cs.length + 78) K ↔ K (some (.inl ((0 : Nat) : Int))) (Y', vi_rs (vi_rs M1 39 (vi_u (M1 39) 0 ((p + 2 : Nat) : Int))) 30 (vi_u (M1 30) 6 ((0 + 1 : Nat) : Int)), p + 5, sl + S + 4 * cs.length + 78) := fun K => @k_64 (d + 68) 30 K Y' M1 (p + 5, sl + S + 4 * cs.length + 78) (kH_30 hY' (by omega)) 0 e30' (by omega) (p + 2) g1.1.2.1
    rw [← hM2] at k64
    have k227 : ∀ K : Option vi_V → vi_W → Prop, vi_call GG (d + 69) 227 [.inr (.inr 29), .inl ((0 : Nat) : Int)] (Y', M2, p + 5, sl + S + 4 * cs.length + 78) K ↔ K (some (.inl ((0 : Nat) : Int))) (Y', vi_rs M2 29 (vi_u (M2 29) 11 0), p + 5, sl + S + 4 * cs.length + 78) := fun K => @k_227 (d + 68) Y' M2 (p + 5, sl + S + 4 * cs.length + 78) K a1' ((0 : Nat) : Int)
    have n1 : ¬ p + 2 = 28 := by omega
    have n2 : ¬ p + 2 = 0 := by omega
    clear hQ hM1 hM2 o1 o2 o3 hh hR hz l6 l7 hJ h111 hV t1 t2 t5 hg g1 g2 g3 g4 g5 e30 e39 e30' m1 m2 m2' qq
    generalize sl + S + 4 * cs.length + 78 = sl' at *
    simp (disch := omega) only [Option.toList_some, Option.toList_none, List.nil_append, List.cons_append, List.append_nil, true_and, and_true, not_true_eq_false, not_false_eq_true, true_implies, false_implies, implies_true, and_self, Int.reduceLT, Int.reduceLE, Int.reduceEq, Int.reduceNe, Int.reduceAdd, Int.reduceSub, Int.reduceMul, Int.reduceNeg, Int.reduceToNat, Int.toNat_natCast, ↓kk_ck, ↓kk_im, ↓kk_in, s_197_31, s_197_36, s_197_39, s_197_50, s_197_55, s_197_59, s_197_62, a1', a2', a6', b1', q1', k123, k64, k227, n1, n2, ne_eq]
    exact hq
  clear hQ o1 o2 o3 hh hR hz l6 l7 hJ h111 hV t1 t2 t5 hg
  simp (disch := omega) only [Option.toList_some, Option.toList_none, List.nil_append, List.cons_append, List.append_nil, true_and, and_true, not_true_eq_false, not_false_eq_true, true_implies, false_implies, implies_true, and_self, Int.reduceLT, Int.reduceLE, Int.reduceEq, Int.reduceNe, Int.reduceAdd, Int.reduceSub, Int.reduceMul, Int.reduceNeg, Int.reduceToNat, Int.toNat_natCast, ↓kk_ck, ↓kk_im, ↓kk_in, e_197, s_197_0, s_197_4, s_197_7, s_197_24, s_197_28, a1, a2, a6, b1, q1, k62, vi_bf, ne_eq]
  exact c127
/-- the law is in force -/
theorem lk_199 (hY : kY Y 112) (h9 : kY9 Y) (hS : wS M x y z t L R none 1 (-1)) {S : Nat} {cs : List gCla} (hg : pGood Y M 120 S cs) (h39 : M 39 0 = 122)
    (hQ : ∀ (M' : vi_M) (r : Int), wS M' x y z t L R (some cs) 1 0 → (∀ p, p < 29 ∨ (112 ≤ p ∧ p ≤ 120) → M' p = M p) → Q (some (.inl r)) (Y, M', nn)) : vi_call GG (d + 70) 199 [.inr (.inr 29), .inl 0] (Y, M, nn) Q := by
  obtain ⟨s1, s2, s3⟩ := pS_k hS
  obtain ⟨⟨⟨o1, o2, o3⟩, ⟨hh, hR⟩, ⟨w1, w2, w3, w4, w5, w6⟩, ⟨l6, l7⟩, hJ, h111⟩, hV⟩ := hS
  obtain ⟨a1, a2, a3, a4, a5, a6, a7, a8, a9, a10, a11, a12⟩ := y_29 h9
  obtain ⟨b1, b2, -⟩ := y_30 hY (by omega)
  obtain ⟨z1, -⟩ := y_60 hY (by omega)
  have k63 := fun {K : Option vi_V → vi_W → Prop} => @k_63 (d + 68) 30 K Y M nn b1 0
  have k66 := fun {K : Option vi_V → vi_W → Prop} => @k_66 (d + 68) 30 K Y M nn b1 0
  simp only [Nat.add_assoc, Nat.reduceAdd] at k63 k66
  rw [l6, decide_eq_true (by decide)] at k63
  obtain ⟨M1, hM1⟩ : ∃ M1, M1 = vi_rs M 30 (vi_u (M 30) 7 0) := ⟨_, rfl⟩
  have m1 : ∀ p, p ≠ 30 → M1 p = M p := fun p hp => by rw [hM1, vi_rs_o hp]
  have m30 : M1 30 = vi_u (M 30) 7 0 := by rw [hM1, vi_rs_s]
  have hP : pP M1 x y z t L R 1 0 := by
    refine ⟨⟨?_, ?_, ?_⟩, ⟨hh, hR⟩, ?_, ?_, jJ_e hJ fun p hp => m1 p (by omega), ?_⟩
    · rw [m1 31 (by decide), m1 32 (by decide)]; exact o1
    · rw [m1 33 (by decide), m1 34 (by decide)]; exact o2
    · rw [m1 35 (by decide), m1 36 (by decide)]; exact o3
    · rw [m30, vi_u_o (by decide), vi_u_o (by decide), vi_u_o (by decide), vi_u_o (by decide)]; exact ⟨w1, w2, w3, w4, w5, w6⟩
    · rw [m30, vi_u_o (by decide), vi_u_s]; exact ⟨l6, rfl⟩
    · rw [m1 111 (by decide)]; exact h111
  have hin : lIn Y M1 (lwG (M1 30) (some cs)) := by
    refine ⟨1, hP.2.2.2.1.1, by decide, .inr ⟨0, 122, hP.2.2.2.1.2, by decide, by rw [m1 39 (by decide)]; exact h39, ?_⟩⟩
    have hg' : pGood Y M1 120 S cs := pGood_bl (b := 125) hg (fun q _ => ⟨rfl, rfl, rfl⟩) (by decide) (m1 120 (by decide)) (m1 121 (by decide))
    have := law_of hg' b1 (f := M1 30) (by rw [hP.2.2.1.1, hP.2.2.1.2.1, hP.2.2.1.2.2.1]; exact w5) (by rw [hP.2.2.1.2.2.2.1]; exact w6)
    exact this
  obtain ⟨M', p1, p2, k25⟩ := @pS_25 d 1 Y M1 nn x y z t 0 L R (some cs) hY hP hin (by rw [m1 64 (by decide)]; exact s1) (by rw [m1 66 (by decide)]; exact s2) (by rw [m1 68 (by decide)]; exact s3)
  have k227 := fun {K : Option vi_V → vi_W → Prop} => @k_227 (d + 68) Y M' nn K a1 (M 30 7)
  simp only [Nat.add_assoc, Nat.reduceAdd] at k227
  rw [← hM1] at k66
  have hq := hQ (vi_rs M' 29 (vi_u (M' 29) 11 0)) (M 30 7) (pS_29 p1) (fun p hp => by rw [vi_rs_o (by omega), p2 p (by omega) (by omega) (by omega) (by omega) (by omega) (by omega), m1 p (by omega)])
  clear hQ p1 p2 hP hin m1 m30 hM1 o1 o2 o3 hh hR w1 w2 w3 w4 w5 w6 l6 l7 hJ h111 hV s1 s2 s3 hg h39
  simp (disch := omega) only [Option.toList_some, Option.toList_none, List.nil_append, List.cons_append, List.append_nil, true_and, and_true, not_true_eq_false, not_false_eq_true, true_implies, false_implies, implies_true, and_self, Int.reduceLT, Int.reduceLE, Int.reduceEq, Int.reduceNe, Int.reduceAdd, Int.reduceSub, Int.reduceMul, Int.reduceNeg, Int.reduceToNat, Int.toNat_natCast, ↓kk_ck, ↓kk_im, ↓kk_in, e_199, s_199_0, s_199_5, s_199_16, s_199_23, s_199_9, s_199_22, s_199_27, s_199_13, s_199_31, s_199_36, s_199_39, s_199_44, a1, a2, a5, b1, z1, k63, k66, k25, k227, ne_eq, vi_bt, vi_bf]
  exact hq
end
