/-! Pairs: row, feast. -/
theorem jI_c {M M2 : vi_M} {a : Nat} {CS : Nat → List gCla} (h : jI M a CS) (hp : ∀ p, (40 ≤ p ∧ p < 60) ∨ p = 115 ∨ p = 116 → M2 p = M p) : jI M2 a CS := by
  intro k hk
  obtain ⟨k1, k2, k3, k4⟩ := h k hk
  rw [hp (40 + 10 * k) (by omega), hp 116 (by omega), hp (40 + 10 * k + 1) (by omega), hp (40 + 10 * k + 3) (by omega), hp (40 + 10 * k + 5) (by omega)]
  refine ⟨k1, k2, fun e => ?_, k4⟩
  obtain ⟨LH, LR, LS, hH⟩ := k3 e
  rw [hp 115 (by omega)]
  exact ⟨LH, LR, LS, cHd_c hH fun p h1 h2 => hp p (by omega)⟩
theorem jJ_c {M M2 : vi_M} (h : jJ M) (hp : ∀ p, 70 ≤ p → p < 103 → p ≠ 73 → p ≠ 74 → p ≠ 77 → p ≠ 79 → M2 p = M p) : jJ M2 := ⟨fun q hq => by rw [hp q (by unfold jCe at hq; omega) (by unfold jCe at hq; omega) (by unfold jCe at hq; omega) (by unfold jCe at hq; omega) (by unfold jCe at hq; omega) (by unfold jCe at hq; omega)]; exact h.1 q hq, by rw [hp 88 (by omega) (by omega) (by omega) (by omega) (by omega) (by omega)]; exact h.2⟩
theorem jD_c {M M2 : vi_M} (h : jD M) (h1 : M2 77 9 = M 77 9) (h2 : M2 112 62 = M 112 62) (h3 : M2 79 = M 79) (h4 : M2 150 = M 150) : jD M2 := by
  unfold jD at *
  rw [h1, h2, h3, h4]
  exact h
theorem tB_s {T : Nat → Int} (hT : tOk T) {x : Nat} (h : tB T x < 128) : tB T x = T x := by
  have := hT x
  unfold tB at *
  omega
theorem tB_n {T : Nat → Int} (hT : tOk T) {x : Nat} (h : 0 ≤ T x) : tB T x = T x := by
  have := hT x
  unfold tB
  omega
theorem tB_6 {T : Nat → Int} (hT : tOk T) {f : Nat → Int} (hB : bxF f) {o : Nat} (hI : mIhb f (T o) (T (o + 1)) (T (o + 2)) (T (o + 3)) (T (o + 4)) (T (o + 5) - 1) = true) : tB T o = T o ∧ tB T (o + 1) = T (o + 1) ∧ tB T (o + 2) = T (o + 2) ∧ tB T (o + 3) = T (o + 3) ∧ tB T (o + 4) = T (o + 4) ∧ tB T (o + 5) = T (o + 5) ∧ (-1 ≤ T (o + 5) - 1 ∧ T (o + 5) - 1 ≤ 1) := by
  obtain ⟨-, g⟩ := mIhb_r hB hI
  have g' : (0 ≤ T o ∧ T o ≤ 2) ∧ (0 ≤ T (o + 1) ∧ T (o + 1) < 6) ∧ (0 ≤ T (o + 2) ∧ T (o + 2) < 6) ∧ (0 ≤ T (o + 3) ∧ T (o + 3) ≤ 1) ∧ (1 ≤ T (o + 4) ∧ T (o + 4) ≤ 6) ∧ (-1 ≤ T (o + 5) - 1 ∧ T (o + 5) - 1 ≤ 1) := g
  clear g hI
  obtain ⟨g0, g1, g2, g3, g4, g5⟩ := g'
  exact ⟨tB_n hT g0.1, tB_n hT g1.1, tB_n hT g2.1, tB_n hT g3.1, tB_n hT (Int.le_trans (by decide) g4.1), tB_n hT (by omega), g5⟩
theorem tB_7 {T : Nat → Int} (hT : tOk T) {f : Nat → Int} (hB : bxF f) {o : Nat} (e1 : mIb f (tB T o) (tB T (o + 1)) (tB T (o + 2)) = true) (e2 : 0 ≤ tB T (o + 3) ∧ tB T (o + 3) ≤ 1) (e3 : 1 ≤ tB T (o + 4) ∧ tB T (o + 4) ≤ 6) (q : -1 ≤ tB T (o + 5) - 1 ∧ tB T (o + 5) - 1 ≤ 1) : mIhb f (T o) (T (o + 1)) (T (o + 2)) (T (o + 3)) (T (o + 4)) (T (o + 5) - 1) = true := by
  obtain ⟨r0, r1, r2⟩ := mIp_r (M := rowM f) hB (mIb_p.mp e1)
  rw [tB_s hT (x := o) (by omega), tB_s hT (x := o + 1) (by omega), tB_s hT (x := o + 2) (by omega)] at e1
  rw [tB_s hT (x := o + 3) (by omega)] at e2
  rw [tB_s hT (x := o + 4) (by omega)] at e3
  rw [tB_s hT (x := o + 5) (by omega)] at q
  unfold mIhb
  rw [Bool.and_eq_true, decide_eq_true_iff]
  exact ⟨e1, e2, e3, q⟩
section
variable {sc : Nat → Int} {ln t a n d : Nat} {CS : Nat → List gCla} {lw : Option (List gCla)} {Y : vi_Y} {M : vi_M} {nn : Nat × Nat} {K : Option vi_V → vi_W → Prop}
/-- the version grows: the rest as told -/
theorem jW_z (hW : jW sc ln t a CS lw n Y M nn) {M2 : vi_M} {lw' : Option (List gCla)} {n' : Nat} (hA : ∀ p, (p < 29 ∨ p = 111 ∨ p = 113 ∨ p = 117 ∨ p = 138 ∨ p = 139) → M2 p = M p) (h29 : M2 29 11 = M2 112 0) (h29' : M2 29 12 = M2 112 6) (h30 : M2 112 30 < M2 112 1) (h42 : M2 112 42 < M2 112 1) (hv : M2 112 1 = M 112 1 + 1) (hL : jL Y M2 a CS) (hC : jC M2 a CS lw' n') (hT : jT M2) (hD : jD M2) (hI : jI M2 a CS) (hJ : jJ M2) : jInv sc ln (t + 1) (Y, M2, nn) := by
  obtain ⟨h1, h2, ⟨b1, b2, b3⟩, h4, ⟨m1, m2, m3, m4⟩, h6, ⟨s1, s2, s3, s4, s5, s6⟩, h8, h9, h10⟩ := hW
  refine ⟨a, CS, lw', n', ?_⟩
  show jW sc ln (t + 1) a CS lw' n' Y M2 nn
  refine ⟨jA_c h1 (fun p h => hA p (by omega)) (hA 117 (by omega)) (hA 138 (by omega)) (hA 139 (by omega)), hL, ⟨b1, by omega, by omega⟩, hC, jM_n hC h30 h42, hT, ?_, hD, hI, hJ⟩
  unfold jS
  rw [hA 111 (by omega), hA 113 (by omega), hv]
  exact ⟨h29, h29', s3, fun k k1 k2 => ⟨(s4 k k1 k2).1, by have := (s4 k k1 k2).2; omega⟩, by omega, by omega⟩
theorem k_229 (hY : kY Y 151) (h9 : kY9 Y) {f : Nat → Int} {L LR LS : List (Nat → Int)} (hH : cHd M 30 f a CS L LR LS) {m : Nat} (hm : M 73 3 = (m : Int)) (h400 : m ≤ 400) {T : Nat → Int} (hT : tOk T) (h74 : M 74 = T) {o : Nat} (ho : o + 6 ≤ m) {Q : Option vi_V → vi_W → Prop}
    (h1 : L.length < 16 → mIhb f (T o) (T (o + 1)) (T (o + 2)) (T (o + 3)) (T (o + 4)) (T (o + 5) - 1) = true → Q (some (.inl 1)) (Y, vi_rs (vi_rs M 31 (vi_u (M 31) 2 ((L.length + 1 : Nat) : Int))) 32 (rPut (M 32) L.length (vV (T o) (T (o + 1)) (T (o + 2)) (T (o + 3)) (T (o + 4)) (T (o + 5) - 1))), nn))
    (h2 : ¬ (L.length < 16 ∧ mIhb f (T o) (T (o + 1)) (T (o + 2)) (T (o + 3)) (T (o + 4)) (T (o + 5) - 1) = true) → Q (some (.inl 0)) (Y, M, nn)) : vi_call GG (d + 69) 229 [.inr (.inr 29), .inl (o : Int)] (Y, M, nn) Q := by
  obtain ⟨a1, a2, a3, a4, a5, a6, a7, a8, a9, a10, a11, a12⟩ := y_29 h9
  obtain ⟨b1, b2, -⟩ := y_30 hY (by omega)
  obtain ⟨q1, -⟩ := y_73 hY (by omega)
  have kr := kR_31 hY (by omega)
  have cZ := hH.2.2.2.2.2.2.1
  have hr0 : M 31 2 = (L.length : Int) := hH.1.1.1
  have hl := hH.2.1.2.1
  have k122 : ∀ (p : Nat) (K : Option vi_V → vi_W → Prop), p < m → (vi_call GG (d + 68) 122 [.inr (.inr 73), .inl (p : Int)] (Y, M, nn) K ↔ K (some (.inl (tB T p))) (Y, M, nn)) := fun p K hp => by
    have := @k_122n (d + 67) K Y M nn m hY hm h400 (by rw [h74]; exact hT) p hp
    rw [h74] at this
    exact this
  have i0 : ∀ K : Option vi_V → vi_W → Prop, vi_call GG (d + 68) 122 [.inr (.inr 73), .inl (o : Int)] (Y, M, nn) K ↔ K (some (.inl (tB T o))) (Y, M, nn) := fun K => k122 o K (by omega)
  have ii : ∀ (i : Nat), i < 6 → ∀ K : Option vi_V → vi_W → Prop, vi_call GG (d + 68) 122 [.inr (.inr 73), .inl ((o : Int) + (i : Int))] (Y, M, nn) K ↔ K (some (.inl (tB T (o + i)))) (Y, M, nn) := fun i hi K => by
    have := k122 (o + i) K (by omega)
    rw [Int.natCast_add] at this
    exact this
  have i1 : ∀ K : Option vi_V → vi_W → Prop, vi_call GG (d + 68) 122 [.inr (.inr 73), .inl ((o : Int) + 1)] (Y, M, nn) K ↔ K (some (.inl (tB T (o + 1)))) (Y, M, nn) := ii 1 (by omega)
  have i2 : ∀ K : Option vi_V → vi_W → Prop, vi_call GG (d + 68) 122 [.inr (.inr 73), .inl ((o : Int) + 2)] (Y, M, nn) K ↔ K (some (.inl (tB T (o + 2)))) (Y, M, nn) := ii 2 (by omega)
  have i3 : ∀ K : Option vi_V → vi_W → Prop, vi_call GG (d + 68) 122 [.inr (.inr 73), .inl ((o : Int) + 3)] (Y, M, nn) K ↔ K (some (.inl (tB T (o + 3)))) (Y, M, nn) := ii 3 (by omega)
  have i4 : ∀ K : Option vi_V → vi_W → Prop, vi_call GG (d + 68) 122 [.inr (.inr 73), .inl ((o : Int) + 4)] (Y, M, nn) K ↔ K (some (.inl (tB T (o + 4)))) (Y, M, nn) := ii 4 (by omega)
  have i5 : ∀ K : Option vi_V → vi_W → Prop, vi_call GG (d + 68) 122 [.inr (.inr 73), .inl ((o : Int) + 5)] (Y, M, nn) K ↔ K (some (.inl (tB T (o + 5)))) (Y, M, nn) := ii 5 (by omega)
  clear ii k122
  have k50 := fun {K : Option vi_V → vi_W → Prop} => @k_50 (d + 65) 30 K Y M nn b1 (tB T o) (tB T (o + 1)) (tB T (o + 2)) (tB T (o + 3)) (tB T (o + 4))
  have k150 := fun {K : Option vi_V → vi_W → Prop} => @k_150 (d + 67) 31 16 K Y M nn kr
  simp only [Nat.add_assoc, Nat.reduceAdd] at k50 k150
  rw [hr0] at k150
  have ef : ∀ b u v e p : Int, (gPl (M 30 8) (M 30 9) (M 30 10) b u v && decide (0 ≤ e ∧ e ≤ 1 ∧ 1 ≤ p ∧ p ≤ 6)) = true ↔ mIb f b u v = true ∧ (0 ≤ e ∧ e ≤ 1) ∧ (1 ≤ p ∧ p ≤ 6) := fun b u v e p => poke_b cZ
  have hB := cZ.2.2.2.2.1
  by_cases hI : mIhb f (T o) (T (o + 1)) (T (o + 2)) (T (o + 3)) (T (o + 4)) (T (o + 5) - 1) = true
  · obtain ⟨t0, t1, t2, t3, t4, t5, g5⟩ := tB_6 hT hB hI
    have hI' := hI
    unfold mIhb at hI'
    rw [Bool.and_eq_true, decide_eq_true_iff] at hI'
    rw [t0] at i0 k50
    rw [t1] at i1 k50
    rw [t2] at i2 k50
    rw [t3] at i3 k50
    rw [t4] at i4 k50
    rw [t5] at i5
    rw [(ef _ _ _ _ _).mpr ⟨hI'.1, hI'.2.1, hI'.2.2.1⟩] at k50
    clear t0 t1 t2 t3 t4 t5
    by_cases hf : L.length < 16
    · rw [decide_eq_false (by omega)] at k150
      have hQ := h1 hf hI
      have k152 : ∀ K : Option vi_V → vi_W → Prop, vi_call GG (d + 68) 152 [.inr (.inr 31), .inl (T o), .inl (T (o + 1)), .inl (T (o + 2)), .inl (T (o + 3)), .inl (T (o + 4)), .inl (T (o + 5) - 1)] (Y, M, nn) K ↔ K none (Y, vi_rs (vi_rs M 31 (vi_u (M 31) 2 ((L.length + 1 : Nat) : Int))) 32 (rPut (M 32) L.length (vV (T o) (T (o + 1)) (T (o + 2)) (T (o + 3)) (T (o + 4)) (T (o + 5) - 1))), nn) := fun K => @k_152 (d + 66) 31 16 K Y M nn kr L.length hr0 hf (T o) (T (o + 1)) (T (o + 2)) (T (o + 3)) (T (o + 4)) (T (o + 5) - 1)
      clear h1 h2 hH cZ hI hI' ef hB hT h74
      generalize T o = y0 at *
      generalize T (o + 1) = y1 at *
      generalize T (o + 2) = y2 at *
      generalize T (o + 3) = y3 at *
      generalize T (o + 4) = y4 at *
      generalize T (o + 5) = y5 at *
      simp (disch := omega) only [Option.toList_some, Option.toList_none, List.nil_append, List.cons_append, List.append_nil, true_and, and_true, not_true_eq_false, not_false_eq_true, true_implies, false_implies, implies_true, and_self, Int.reduceLT, Int.reduceLE, Int.reduceEq, Int.reduceNe, Int.reduceAdd, Int.reduceSub, Int.reduceMul, Int.reduceNeg, Int.reduceToNat, Int.toNat_natCast, ↓kk_ck, ↓kk_im, ↓kk_in, e_229, s_229_0, s_229_88, s_229_94, s_229_100, s_229_113, s_229_115, s_229_4, s_229_104, s_229_119, s_229_8, s_229_107, s_229_122, s_229_13, s_229_110, s_229_135, s_229_19, s_229_24, s_229_30, s_229_36, s_229_42, s_229_48, s_229_54, s_229_60, s_229_66, s_229_74, s_229_85, a1, a2, a6, b1, b2, q1, kr.1, i0, i1, i2, i3, i4, i5, @vi_32 ((o : Int) + 1) (by omega) (by omega), @vi_32 ((o : Int) + 2) (by omega) (by omega), @vi_32 ((o : Int) + 3) (by omega) (by omega), @vi_32 ((o : Int) + 4) (by omega) (by omega), @vi_32 ((o : Int) + 5) (by omega) (by omega), @vi_32 (y5 - 1) (by omega) (by omega), k50, k150, k152, vi_bt, vi_bf, ne_eq]
      exact hQ
    · rw [decide_eq_true (by omega)] at k150
      have hQ := h2 fun q => hf q.1
      clear h1 h2 hH cZ hI hI' ef hB hT h74
      generalize T o = y0 at *
      generalize T (o + 1) = y1 at *
      generalize T (o + 2) = y2 at *
      generalize T (o + 3) = y3 at *
      generalize T (o + 4) = y4 at *
      generalize T (o + 5) = y5 at *
      simp (disch := omega) only [Option.toList_some, Option.toList_none, List.nil_append, List.cons_append, List.append_nil, true_and, and_true, not_true_eq_false, not_false_eq_true, true_implies, false_implies, implies_true, and_self, Int.reduceLT, Int.reduceLE, Int.reduceEq, Int.reduceNe, Int.reduceAdd, Int.reduceSub, Int.reduceMul, Int.reduceNeg, Int.reduceToNat, Int.toNat_natCast, ↓kk_ck, ↓kk_im, ↓kk_in, e_229, s_229_0, s_229_88, s_229_94, s_229_100, s_229_113, s_229_115, s_229_4, s_229_104, s_229_119, s_229_8, s_229_107, s_229_122, s_229_13, s_229_110, s_229_135, s_229_19, s_229_24, s_229_30, s_229_36, s_229_42, s_229_48, s_229_54, s_229_60, s_229_66, s_229_74, s_229_85, a1, a2, a6, b1, b2, q1, kr.1, i0, i1, i2, i3, i4, i5, @vi_32 ((o : Int) + 1) (by omega) (by omega), @vi_32 ((o : Int) + 2) (by omega) (by omega), @vi_32 ((o : Int) + 3) (by omega) (by omega), @vi_32 ((o : Int) + 4) (by omega) (by omega), @vi_32 ((o : Int) + 5) (by omega) (by omega), @vi_32 (y5 - 1) (by omega) (by omega), k50, k150, vi_bt, vi_bf, ne_eq]
      exact hQ
  · have hQ := h2 fun q => hI q.2
    have hr5 := @tB_r T (o + 5)
    cases hb : (gPl (M 30 8) (M 30 9) (M 30 10) (tB T o) (tB T (o + 1)) (tB T (o + 2)) && decide (0 ≤ tB T (o + 3) ∧ tB T (o + 3) ≤ 1 ∧ 1 ≤ tB T (o + 4) ∧ tB T (o + 4) ≤ 6)) with
    | false =>
      rw [hb] at k50
      clear h1 h2 hH cZ hI ef hB hb k150 hT h74
      generalize tB T o = y0 at *
      generalize tB T (o + 1) = y1 at *
      generalize tB T (o + 2) = y2 at *
      generalize tB T (o + 3) = y3 at *
      generalize tB T (o + 4) = y4 at *
      generalize tB T (o + 5) = y5 at *
      simp (disch := omega) only [Option.toList_some, Option.toList_none, List.nil_append, List.cons_append, List.append_nil, true_and, and_true, not_true_eq_false, not_false_eq_true, true_implies, false_implies, implies_true, and_self, Int.reduceLT, Int.reduceLE, Int.reduceEq, Int.reduceNe, Int.reduceAdd, Int.reduceSub, Int.reduceMul, Int.reduceNeg, Int.reduceToNat, Int.toNat_natCast, ↓kk_ck, ↓kk_im, ↓kk_in, e_229, s_229_0, s_229_88, s_229_94, s_229_100, s_229_113, s_229_115, s_229_4, s_229_104, s_229_119, s_229_8, s_229_107, s_229_122, s_229_13, s_229_110, s_229_135, s_229_19, s_229_24, s_229_30, s_229_36, s_229_42, s_229_48, s_229_54, s_229_60, s_229_66, s_229_74, s_229_85, a1, a2, a6, b1, b2, q1, kr.1, i0, i1, i2, i3, i4, i5, @vi_32 ((o : Int) + 1) (by omega) (by omega), @vi_32 ((o : Int) + 2) (by omega) (by omega), @vi_32 ((o : Int) + 3) (by omega) (by omega), @vi_32 ((o : Int) + 4) (by omega) (by omega), @vi_32 ((o : Int) + 5) (by omega) (by omega), @vi_32 (y5 - 1) (by omega) (by omega), k50, vi_bt, vi_bf, ne_eq]
      exact hQ
    | true =>
      rw [hb] at k50
      obtain ⟨e1, e2, e3⟩ := (ef _ _ _ _ _).mp hb
      have hn : ¬ (-1 ≤ tB T (o + 5) - 1 ∧ tB T (o + 5) - 1 ≤ 1) := fun q => hI (tB_7 hT hB e1 e2 e3 q)
      clear h1 h2 hH cZ hI ef hB hb k150 e1 e2 e3 hT h74
      generalize tB T o = y0 at *
      generalize tB T (o + 1) = y1 at *
      generalize tB T (o + 2) = y2 at *
      generalize tB T (o + 3) = y3 at *
      generalize tB T (o + 4) = y4 at *
      generalize tB T (o + 5) = y5 at *
      by_cases hlo : y5 - 1 < -1
      · exact absurd hlo (by omega)
      · have hgt : 1 < y5 - 1 := by omega
        clear hn
        simp (disch := omega) only [Option.toList_some, Option.toList_none, List.nil_append, List.cons_append, List.append_nil, true_and, and_true, not_true_eq_false, not_false_eq_true, true_implies, false_implies, implies_true, and_self, Int.reduceLT, Int.reduceLE, Int.reduceEq, Int.reduceNe, Int.reduceAdd, Int.reduceSub, Int.reduceMul, Int.reduceNeg, Int.reduceToNat, Int.toNat_natCast, ↓kk_ck, ↓kk_im, ↓kk_in, e_229, s_229_0, s_229_88, s_229_94, s_229_100, s_229_113, s_229_115, s_229_4, s_229_104, s_229_119, s_229_8, s_229_107, s_229_122, s_229_13, s_229_110, s_229_135, s_229_19, s_229_24, s_229_30, s_229_36, s_229_42, s_229_48, s_229_54, s_229_60, s_229_66, s_229_74, s_229_85, a1, a2, a6, b1, b2, q1, kr.1, i0, i1, i2, i3, i4, i5, @vi_32 ((o : Int) + 1) (by omega) (by omega), @vi_32 ((o : Int) + 2) (by omega) (by omega), @vi_32 ((o : Int) + 3) (by omega) (by omega), @vi_32 ((o : Int) + 4) (by omega) (by omega), @vi_32 ((o : Int) + 5) (by omega) (by omega), @vi_32 (y5 - 1) (by omega) (by omega), k50, vi_bt, vi_bf, ne_eq]
        exact hQ
theorem w6_ {o : Nat} (h : o < 1000) : vi_w32 ((o : Int) + 6) = ((o + 6 : Nat) : Int) := by rw [vi_32 (by omega) (by omega)]; omega
theorem l_195 (hY : kY Y 151) (h9 : kY9 Y) {LR LS : List (Nat → Int)} {m : Nat} (h400 : m ≤ 400) {T : Nat → Int} (hT : tOk T) {Q : Option vi_V → vi_W → Prop} : ∀ (k o x2 x3 : Nat) (M1 : vi_M) (L1 : List (Nat → Int)) (f1 : Nat → Int), o + 6 * k + m % 6 = m → x2 + x3 ≤ o → cHd M1 30 f1 a CS L1 LR LS → M1 73 3 = (m : Int) → M1 74 = T →
    (∀ (M2 : vi_M) (L2 : List (Nat → Int)), cHd M2 30 (rwF T k o f1 L1.length).1 a CS L2 LR LS → L2.length = (rwF T k o f1 L1.length).2 → (∀ p, p ≠ 31 → p ≠ 32 → M2 p = M1 p) → vi_ok GG (d + 69) 195 26 [some (.inr (.inr 29)), some (.inl (m : Int)), some (.inl ((x2 + ((rwF T k o f1 L1.length).2 - L1.length) : Nat) : Int)), some (.inl ((x3 + (k - ((rwF T k o f1 L1.length).2 - L1.length)) : Nat) : Int)), some (.inl ((m - m % 6 : Nat) : Int))] [] (Y, M2, nn) Q) →
    vi_ok GG (d + 69) 195 26 [some (.inr (.inr 29)), some (.inl (m : Int)), some (.inl (x2 : Int)), some (.inl (x3 : Int)), some (.inl (o : Int))] [] (Y, M1, nn) Q := by
  obtain ⟨a1, -⟩ := y_29 h9
  intro k
  induction k with
  | zero =>
    intro o x2 x3 M1 L1 f1 h1 h2 h3 h4 h5 hq
    have := hq M1 L1 h3 rfl fun _ _ _ => rfl
    rw [show (rwF T 0 o f1 L1.length).2 - L1.length = 0 from by rw [rwF]; exact Nat.sub_self _, show m - m % 6 = o by omega] at this
    exact this
  | succ k ih =>
    intro o x2 x3 M1 L1 f1 h1 h2 h3 h4 h5 hq
    have hl := h3.2.1.2.1
    rw [s_195_26]
    have k1 : o + 6 + 6 * k + m % 6 = m := by omega
    have k2 : x2 + 1 + x3 ≤ o + 6 := by omega
    have k3 : x2 + (x3 + 1) ≤ o + 6 := by omega
    have k4 : o < 1000 := by omega
    have k5 : o + 6 ≤ m := by omega
    have k6 : x2 < 1000 := by omega
    have k7 : x3 < 1000 := by omega
    have c229 : vi_call GG (d + 69) 229 [.inr (.inr 29), .inl (o : Int)] (Y, M1, nn) (fun r w' => vi_ok GG (d + 69) 195 47 [some (.inr (.inr 29)), some (.inl (m : Int)), some (.inl (x2 : Int)), some (.inl (x3 : Int)), some (.inl (o : Int))] r.toList w' Q) := by
      refine k_229 hY h9 h3 h4 h400 hT h5 k5 (fun g1 g2 => ?_) fun g => ?_
      · have k8 : L1.length ≤ 15 := by omega
        have hr := @rwF_n T k (o + 6) (mAd f1 L1.length (T o) (T (o + 1)) (T (o + 2)) (T (o + 3)) (T (o + 4)) (T (o + 5) - 1)) (L1.length + 1) (Nat.succ_le_succ k8)
        have e : rwF T (k + 1) o f1 L1.length = rwF T k (o + 6) (mAd f1 L1.length (T o) (T (o + 1)) (T (o + 2)) (T (o + 3)) (T (o + 4)) (T (o + 5) - 1)) (L1.length + 1) := by rw [rwF, if_pos ⟨g1, g2⟩]
        rw [e] at hq
        have el : (L1 ++ [vV (T o) (T (o + 1)) (T (o + 2)) (T (o + 3)) (T (o + 4)) (T (o + 5) - 1)]).length = L1.length + 1 := by rw [List.length_append]; rfl
        have := ih (o + 6) (x2 + 1) x3 _ _ _ k1 k2 (cHd_add h3 k8 g2) (by rw [vi_rs_o (by decide), vi_rs_o (by decide)]; exact h4) (by rw [vi_rs_o (by decide), vi_rs_o (by decide)]; exact h5) (fun M2 L2 q1 q2 q3 => by
          rw [el] at q1 q2 ⊢
          have := hq M2 L2 q1 q2 fun p p1 p2 => (q3 p p1 p2).trans (by rw [vi_rs_o p2, vi_rs_o p1])
          generalize (rwF T k (o + 6) (mAd f1 L1.length (T o) (T (o + 1)) (T (o + 2)) (T (o + 3)) (T (o + 4)) (T (o + 5) - 1)) (L1.length + 1)).2 = z at *
          rw [show x2 + 1 + (z - (L1.length + 1)) = x2 + (z - L1.length) by omega, show x3 + (k - (z - (L1.length + 1))) = x3 + (k + 1 - (z - L1.length)) by omega]
          exact this)
        clear hq ih h3 h4 h5 hr e el
        simp (disch := omega) only [Option.toList_some, Option.toList_none, List.nil_append, List.cons_append, List.append_nil, true_and, and_true, not_true_eq_false, not_false_eq_true, true_implies, false_implies, implies_true, and_self, Int.reduceLT, Int.reduceLE, Int.reduceEq, Int.reduceNe, Int.reduceAdd, Int.reduceSub, Int.reduceMul, Int.reduceNeg, Int.reduceToNat, Int.toNat_natCast, ↓kk_ck, ↓kk_im, ↓kk_in, s_195_47, s_195_50, s_195_56, s_195_59, @vi_inc x2 (by omega), w6_ k4, ne_eq]
        exact this
      · have e : rwF T (k + 1) o f1 L1.length = rwF T k (o + 6) f1 L1.length := by rw [rwF, if_neg g]
        rw [e] at hq
        have hr := @rwF_n T k (o + 6) f1 L1.length hl
        have := ih (o + 6) x2 (x3 + 1) M1 L1 f1 k1 k3 h3 h4 h5 (fun M2 L2 q1 q2 q3 => by
          have := hq M2 L2 q1 q2 q3
          generalize (rwF T k (o + 6) f1 L1.length).2 = z at *
          rw [show x3 + 1 + (k - (z - L1.length)) = x3 + (k + 1 - (z - L1.length)) by omega]
          exact this)
        clear hq ih h3 h4 h5 hr e
        simp (disch := omega) only [Option.toList_some, Option.toList_none, List.nil_append, List.cons_append, List.append_nil, true_and, and_true, not_true_eq_false, not_false_eq_true, true_implies, false_implies, implies_true, and_self, Int.reduceLT, Int.reduceLE, Int.reduceEq, Int.reduceNe, Int.reduceAdd, Int.reduceSub, Int.reduceMul, Int.reduceNeg, Int.reduceToNat, Int.toNat_natCast, ↓kk_ck, ↓kk_im, ↓kk_in, s_195_47, s_195_50, s_195_56, s_195_59, @vi_inc x3 (by omega), w6_ k4, ne_eq]
        exact this
    clear hq ih h3 h4 h5
    simp (disch := omega) only [Option.toList_some, Option.toList_none, List.nil_append, List.cons_append, List.append_nil, true_and, and_true, not_true_eq_false, not_false_eq_true, true_implies, false_implies, implies_true, and_self, Int.reduceLT, Int.reduceLE, Int.reduceEq, Int.reduceNe, Int.reduceAdd, Int.reduceSub, Int.reduceMul, Int.reduceNeg, Int.reduceToNat, Int.toNat_natCast, ↓kk_ck, ↓kk_im, ↓kk_in, s_195_32, s_195_38, s_195_41, a1, w6_ k4, ne_eq]
    exact c229
theorem p_195 (hW : jW sc ln t a CS lw n Y M nn) (ht : t < 1000) : jPair sc ln t (d + 70) 195 256 [] (Y, M, nn) := by
  have hY := hW.1.1
  have h9 := hW.1.2.1
  have hbd := jW_b hW ht
  obtain ⟨LH, LR, LS, c1, c2, c3, c4⟩ := hW.2.2.2.1
  obtain ⟨a1, a2, a3, a4, a5, a6, a7, a8, a9, a10, a11, a12⟩ := y_29 h9
  obtain ⟨b1, b2, -⟩ := y_30 hY (by omega)
  obtain ⟨z1, -⟩ := y_60 hY (by omega)
  obtain ⟨q1, -⟩ := y_73 hY (by omega)
  obtain ⟨m, t1, t2, t3, t4, t5, t6⟩ := hW.2.2.2.2.2.1
  have k120 := fun {K : Option vi_V → vi_W → Prop} => @k_120 (d + 69) K Y M nn hY (by omega)
  rw [t2] at k120
  by_cases hm : m = 0
  · subst hm
    have k228f := fun {K : Option vi_V → vi_W → Prop} => @k_228_6 (d + 68) Y M nn K hY h9 (hbd.1 4 (by omega))
    simp only [Nat.add_assoc, Nat.reduceAdd] at k228f
    refine jPair_f (r := -6) hW ht (.inr (.inr (.inr (.inr ⟨rfl, rfl⟩)))) (fun K hK => ?_) (fun M1 f hB1 hj K hK => ?_)
    · have k120' : ∀ K : Option vi_V → vi_W → Prop, vi_call GG (d + 69) 120 [.inr (.inr 73)] (Y, M, nn) K ↔ K (some (.inl 0)) (Y, M, nn) := fun K => k120
      clear hW hbd c1 c3 c4 t2 t3 t4 t5 t6 k120
      simp (disch := omega) only [Option.toList_some, Option.toList_none, List.nil_append, List.cons_append, List.append_nil, true_and, and_true, not_true_eq_false, not_false_eq_true, true_implies, false_implies, implies_true, and_self, Int.reduceLT, Int.reduceLE, Int.reduceEq, Int.reduceNe, Int.reduceAdd, Int.reduceSub, Int.reduceMul, Int.reduceNeg, Int.reduceToNat, Int.toNat_natCast, ↓kk_ck, ↓kk_im, ↓kk_in, e_195, s_195_0, s_195_4, s_195_7, s_195_12, s_195_18, a1, a6, q1, k120', k228f, ne_eq]
      exact hK
    · have e10 : M1 112 10 = 0 := by rw [f 112 (by decide) (by decide)]; exact t3
      rw [k_256z hY e10 hj (by omega), vi_u_id e10]
      exact hK
  · intro K hK
    have hl := c1.2.1.2.1
    obtain ⟨cnt, hcnt⟩ : ∃ cnt, cnt = (rwF (M 74) (m / 6) 0 (M 114) LH.length).2 - LH.length := ⟨_, rfl⟩
    have hrn := @rwF_n (M 74) (m / 6) 0 (M 114) LH.length hl
    obtain ⟨F, hF⟩ : ∃ F, F = (rwF (M 74) (m / 6) 0 (M 114) LH.length).1 := ⟨_, rfl⟩
    obtain ⟨rind, hrind⟩ : ∃ rind : Nat, rind = (m / 6 - cnt) + (if m % 6 = 0 then 0 else 1) := ⟨_, rfl⟩
    have fO : ∀ k, 96 ≤ k → k ≠ 292 → F k = M 114 k := by
      intro k k1 k2
      rw [hF]
      have : ∀ (j o : Nat) (f : Nat → Int) (n : Nat), n ≤ 16 → (rwF (M 74) j o f n).1 k = f k := by
        intro j
        induction j with
        | zero => intro o f n _; rfl
        | succ j ih =>
          intro o f n hn
          rw [rwF]
          split
          · rename_i hc
            rw [ih _ _ _ (by omega)]
            exact mAd_o (by omega) k2
          · exact ih _ _ _ hn
      exact this _ _ _ _ hl
    have hK2 := hK (.inl (cnt : Int))
    have fin : ∀ (M2 : vi_M) (L2 : List (Nat → Int)), cHd M2 30 F a CS L2 LR LS → L2.length = (rwF (M 74) (m / 6) 0 (M 114) LH.length).2 → (∀ p, p ≠ 31 → p ≠ 32 → M2 p = M p) → ∀ x4 : Int, vi_ok GG (d + 69) 195 65 [some (.inr (.inr 29)), some (.inl (m : Int)), some (.inl (cnt : Int)), some (.inl (rind : Int)), some (.inl x4)] [] (Y, M2, nn) K := by
      intro M2 L2 g1 g2 g3 x4
      have hf1 : fLw a CS F (M 39) lw := fLw_c c3 fun k hk => fO k (by omega) (by omega)
      obtain ⟨M3, hM3⟩ : ∃ M3, M3 = vi_rs (vi_rs M2 29 (vi_u (M2 29) 12 (rind : Int))) 73 (vi_u (M2 73) 3 0) := ⟨_, rfl⟩
      have m3 : ∀ p, p ≠ 29 → p ≠ 73 → M3 p = M2 p := fun p p1 p2 => by rw [hM3, vi_rs_o p2, vi_rs_o p1]
      have hH3 : cHd M3 30 F a CS L2 LR LS := cHd_c g1 fun p p1 p2 => m3 p (by omega) (by omega)
      have hL3 : jL Y M3 a CS := jL_p hW.2.1 fun p hp => (m3 p (by omega) (by omega)).trans (g3 p (by omega) (by omega))
      have low : ∀ p, p ≠ 29 → p ≠ 31 → p ≠ 32 → p ≠ 73 → M3 p = M p := fun p p1 p2 p3 p4 => (m3 p p1 p4).trans (g3 p p2 p3)
      obtain ⟨M', j1, j2, j3, k25⟩ := @k_25J (d + 57) Y M3 nn hY a CS F L2 LR LS lw hH3 hL3 (by rw [low 39 (by omega) (by omega) (by omega) (by omega)]; exact hf1) ⟨_, (low 64 (by omega) (by omega) (by omega) (by omega)).trans c4.2.2.1⟩ ⟨_, (low 66 (by omega) (by omega) (by omega) (by omega)).trans c4.2.2.2.1⟩ ⟨_, (low 68 (by omega) (by omega) (by omega) (by omega)).trans c4.2.2.2.2⟩
      have n2 : ∀ p, (p < 60 ∨ (70 ≤ p ∧ p < 151)) → M' p = M3 p := fun p hp => j2 p (by omega) (by omega) (by omega) (by omega) (by omega) (by omega)
      have e29 : M' 29 = vi_u (M 29) 12 (rind : Int) := by rw [n2 29 (by omega), hM3, vi_rs_o (by decide), vi_rs_s, g3 29 (by omega) (by omega)]
      have e73 : M' 73 = vi_u (M 73) 3 0 := by rw [n2 73 (by omega), hM3, vi_rs_s, g3 73 (by omega) (by omega)]
      have k227 := fun {K : Option vi_V → vi_W → Prop} => @k_227 (d + 68) Y M' nn K a1 (cnt : Int)
      have k123 := fun {K : Option vi_V → vi_W → Prop} => @k_123 (d + 69) K Y (vi_rs M2 29 (vi_u (M2 29) 12 (rind : Int))) nn hY (by omega)
      simp only [Nat.add_assoc, Nat.reduceAdd] at k227 k25
      rw [vi_rs_o (show (73 : Nat) ≠ 29 by decide), ← hM3] at k123
      have goal : K (some (.inl (cnt : Int))) (Y, vi_rs M' 29 (vi_u (M' 29) 11 0), nn) := by
        refine hK2 _ (jP_c hW.1 (by rw [vi_rs_o (by decide), n2 1 (by omega), low 1 (by omega) (by omega) (by omega) (by omega)])) fun K2 hq => ?_
        have f3 : ∀ p, p ≠ 29 → p ≠ 31 → p ≠ 32 → p ≠ 73 → (p < 60 ∨ (70 ≤ p ∧ p < 151)) → vi_rs M' 29 (vi_u (M' 29) 11 0) p = M p := fun p p1 p2 p3 p4 p5 => by rw [vi_rs_o p1, n2 p p5]; exact low p p1 p2 p3 p4
        have f114 := f3 114 (by omega) (by omega) (by omega) (by omega) (by omega)
        have f112 := f3 112 (by omega) (by omega) (by omega) (by omega) (by omega)
        have f118 := f3 118 (by omega) (by omega) (by omega) (by omega) (by omega)
        have hT : ∀ i, -128 ≤ M 74 i ∧ M 74 i ≤ 127 := fun i => by have := t5 i; omega
        refine k_256 (c := m) (n := LH.length) hY (mBx_c f114 hW.2.2.2.2.1.1.1) hl (by rw [f114]; exact c1.2.1.1) (by rw [f118, t4]; exact hT) (by omega) t1 (by rw [f112]; exact t3) (by rw [f112]; exact hbd.2.2) (by omega) ?_
        rw [f114, f118, t4, f112, ← hcnt, ← hF]
        refine hq _ ?_
        have er : (if m % 6 = 0 then (0 : Int) else 1) + ((m / 6 - cnt : Nat) : Int) = (rind : Int) := by
          rw [hrind]
          by_cases e : m % 6 = 0
          · rw [if_pos e, if_pos e]; omega
          · rw [if_neg e, if_neg e]; omega
        rw [er]
        generalize hM4 : vi_rs (vi_rs (vi_rs M' 29 (vi_u (M' 29) 11 0)) 114 F) 112 (vi_u (vi_u (vi_u (vi_u (M 112) 10 0) 6 (rind : Int)) 0 0) 1 (M 112 1 + 1)) = M4
        have g112 : M4 112 = vi_u (vi_u (vi_u (vi_u (M 112) 10 0) 6 (rind : Int)) 0 0) 1 (M 112 1 + 1) := by rw [← hM4, vi_rs_s]
        have g114 : M4 114 = F := by rw [← hM4, vi_rs_o (by decide), vi_rs_s]
        have g29 : M4 29 = vi_u (vi_u (M 29) 12 (rind : Int)) 11 0 := by rw [← hM4, vi_rs_o (by decide), vi_rs_o (by decide), vi_rs_s, e29]
        have gp : ∀ p, p ≠ 29 → p ≠ 112 → p ≠ 114 → M4 p = M' p := fun p p1 p2 p3 => by rw [← hM4, vi_rs_o p2, vi_rs_o p3, vi_rs_o p1]
        have gq : ∀ p, p ≠ 29 → p ≠ 31 → p ≠ 32 → p ≠ 73 → p ≠ 112 → p ≠ 114 → (p < 60 ∨ (70 ≤ p ∧ p < 151)) → M4 p = M p := fun p p1 p2 p3 p4 p5 p6 p7 => (gp p p1 p5 p6).trans ((n2 p p7).trans (low p p1 p2 p3 p4))
        clear hM4
        refine jW_z hW (fun p hp => gq p (by omega) (by omega) (by omega) (by omega) (by omega) (by omega) (by omega)) ?_ ?_ ?_ ?_ ?_ (jL_p j3 fun p hp => gp p (by omega) (by omega) (by omega)) (jC_of (M1 := M3) (M' := M') hH3 (by rw [low 39 (by omega) (by omega) (by omega) (by omega)]; exact hf1) j1 (fun p p1 p2 => n2 p (by omega)) (fun p p1 p2 => gp p (by omega) (by omega) (by omega)) g114) ?_ ?_ (jI_c hW.2.2.2.2.2.2.2.2.1 fun p hp => gq p (by omega) (by omega) (by omega) (by omega) (by omega) (by omega) (by omega)) (jJ_c hW.2.2.2.2.2.2.2.2.2 fun p p1 p2 p3 p4 p5 p6 => gq p (by omega) (by omega) (by omega) (by omega) (by omega) (by omega) (by omega))
        · rw [g29, g112, vi_u_s, vi_u_o (by decide), vi_u_s]
        · rw [g29, g112, vi_u_o (by decide), vi_u_s, vi_u_o (by decide), vi_u_o (by decide), vi_u_s]
        · rw [g112, vi_u_s, vi_u_o (by decide), vi_u_o (by decide), vi_u_o (by decide), vi_u_o (by decide)]
          have := hW.2.2.2.2.1.2.2.1
          omega
        · rw [g112, vi_u_s, vi_u_o (by decide), vi_u_o (by decide), vi_u_o (by decide), vi_u_o (by decide)]
          have := hW.2.2.2.2.1.2.2.2
          omega
        · rw [g112, vi_u_s]
        · refine ⟨0, by omega, ?_, ?_, ?_, ?_, ?_⟩
          · rw [gp 73 (by omega) (by omega) (by omega), e73, vi_u_s]; rfl
          · rw [g112, vi_u_o (by decide), vi_u_o (by decide), vi_u_o (by decide), vi_u_s]; rfl
          · rw [gq 118 (by omega) (by omega) (by omega) (by omega) (by omega) (by omega) (by omega), gq 74 (by omega) (by omega) (by omega) (by omega) (by omega) (by omega) (by omega), t4]
          · rw [gq 74 (by omega) (by omega) (by omega) (by omega) (by omega) (by omega) (by omega)]; exact t5
          · rw [gp 73 (by omega) (by omega) (by omega), e73, vi_u_o (by decide), g112, vi_u_o (by decide), vi_u_o (by decide), vi_u_o (by decide), vi_u_o (by decide)]; exact t6
        · refine jD_c hW.2.2.2.2.2.2.2.1 ?_ ?_ ?_ ?_
          · rw [gq 77 (by omega) (by omega) (by omega) (by omega) (by omega) (by omega) (by omega)]
          · rw [g112, vi_u_o (by decide), vi_u_o (by decide), vi_u_o (by decide), vi_u_o (by decide)]
          · exact gq 79 (by omega) (by omega) (by omega) (by omega) (by omega) (by omega) (by omega)
          · exact gq 150 (by omega) (by omega) (by omega) (by omega) (by omega) (by omega) (by omega)
      clear hW hbd c1 c3 c4 t2 t3 t4 t5 t6 hrn fO hK hK2 g1 g2 g3 hf1 hM3 m3 hH3 hL3 low j1 j2 j3 n2 e29 e73
      simp (disch := omega) only [Option.toList_some, Option.toList_none, List.nil_append, List.cons_append, List.append_nil, true_and, and_true, not_true_eq_false, not_false_eq_true, true_implies, false_implies, implies_true, and_self, Int.reduceLT, Int.reduceLE, Int.reduceEq, Int.reduceNe, Int.reduceAdd, Int.reduceSub, Int.reduceMul, Int.reduceNeg, Int.reduceToNat, Int.toNat_natCast, ↓kk_ck, ↓kk_im, ↓kk_in, s_195_65, s_195_70, s_195_74, s_195_77, s_195_81, s_195_84, s_195_89, a1, a5, a6, q1, z1, vi_ms_rs, k123, k25, k227, ne_eq]
      exact goal
    have loop := @l_195 a d CS Y nn hY h9 LR LS m t1 (M 74) t5 K (m / 6) 0 0 0 M LH (M 114) (by omega) (by omega) c1 t2 rfl (fun M2 L2 g1 g2 g3 => by
      rw [← hcnt, Nat.zero_add, Nat.zero_add]
      rw [← hF] at g1
      have := fin M2 L2 g1 g2 g3
      clear fin hW hbd c1 c3 c4 t2 t3 t4 t5 t6 hrn fO hK hK2 g1 g2 g3
      rw [s_195_26]
      by_cases e : m % 6 = 0
      · have er : rind = m / 6 - cnt := by rw [hrind, if_pos e, Nat.add_zero]
        rw [er] at this
        have e6 : m - m % 6 = m := by omega
        rw [e6]
        simp (disch := omega) only [Option.toList_some, Option.toList_none, List.nil_append, List.cons_append, List.append_nil, true_and, and_true, not_true_eq_false, not_false_eq_true, true_implies, false_implies, implies_true, and_self, Int.reduceLT, Int.reduceLE, Int.reduceEq, Int.reduceNe, Int.reduceAdd, Int.reduceSub, Int.reduceMul, Int.reduceNeg, Int.reduceToNat, Int.toNat_natCast, ↓kk_ck, ↓kk_im, ↓kk_in, ne_eq]
        exact this _
      · have er : rind = m / 6 - cnt + 1 := by rw [hrind, if_neg e]
        rw [er] at this
        have this := this ((m - m % 6 + 6 : Nat) : Int)
        have e7 : ¬ ((m : Int) ≤ ((m - m % 6 : Nat) : Int)) := by omega
        have e8 : (m : Int) < ((m - m % 6 + 6 : Nat) : Int) := by omega
        have e9 : (m : Int) ≤ ((m - m % 6 + 6 : Nat) : Int) := by omega
        have e10 : m - m % 6 < 1000 := by omega
        have e11 : m / 6 - cnt < 1000 := by omega
        generalize m - m % 6 = z at *
        generalize m / 6 - cnt = z2 at *
        clear hrind hcnt hF
        simp (disch := omega) only [Option.toList_some, Option.toList_none, List.nil_append, List.cons_append, List.append_nil, true_and, and_true, not_true_eq_false, not_false_eq_true, true_implies, false_implies, implies_true, and_self, Int.reduceLT, Int.reduceLE, Int.reduceEq, Int.reduceNe, Int.reduceAdd, Int.reduceSub, Int.reduceMul, Int.reduceNeg, Int.reduceToNat, Int.toNat_natCast, ↓kk_ck, ↓kk_im, ↓kk_in, s_195_32, s_195_38, s_195_56, s_195_59, w6_ e10, @vi_inc z2 (by omega), e7, e8, ne_eq]
        rw [s_195_26]
        simp (disch := omega) only [Option.toList_some, Option.toList_none, List.nil_append, List.cons_append, List.append_nil, true_and, and_true, not_true_eq_false, not_false_eq_true, true_implies, false_implies, implies_true, and_self, Int.reduceLT, Int.reduceLE, Int.reduceEq, Int.reduceNe, Int.reduceAdd, Int.reduceSub, Int.reduceMul, Int.reduceNeg, Int.reduceToNat, Int.toNat_natCast, ↓kk_ck, ↓kk_im, ↓kk_in, e9, ne_eq]
        exact this)
    have k120' : ∀ K : Option vi_V → vi_W → Prop, vi_call GG (d + 69) 120 [.inr (.inr 73)] (Y, M, nn) K ↔ K (some (.inl (m : Int))) (Y, M, nn) := fun K => k120
    have hm0 : ¬ (m : Int) = 0 := by omega
    clear hW hbd c1 c3 c4 t2 t3 t4 t5 t6 hrn fO hK hK2 k120 fin hcnt hF hrind
    simp (disch := omega) only [Option.toList_some, Option.toList_none, List.nil_append, List.cons_append, List.append_nil, true_and, and_true, not_true_eq_false, not_false_eq_true, true_implies, false_implies, implies_true, and_self, Int.reduceLT, Int.reduceLE, Int.reduceEq, Int.reduceNe, Int.reduceAdd, Int.reduceSub, Int.reduceMul, Int.reduceNeg, Int.reduceToNat, Int.toNat_natCast, ↓kk_ck, ↓kk_im, ↓kk_in, e_195, s_195_0, s_195_4, s_195_7, s_195_19, a1, a6, q1, k120', hm0, ne_eq]
    exact loop
theorem p_221 (hW : jW sc ln t a CS lw n Y M nn) (ht : t < 1000) {x y : Int} : jPair sc ln t (d + 70) 221 352 [.inl x, .inl y] (Y, M, nn) := by
  have hY := hW.1.1
  have h9 := hW.1.2.1
  have hbd := jW_b hW ht
  obtain ⟨LH, LR, LS, c1, c2, c3, c4⟩ := hW.2.2.2.1
  obtain ⟨a1, a2, a3, a4, a5, a6, a7, a8, a9, a10, a11, a12⟩ := y_29 h9
  obtain ⟨q1, -⟩ := y_77 hY (by omega)
  have cZ := c1.2.2.2.2.2.2.1
  by_cases h : (0 ≤ x ∧ x ≤ 1000000) ∧ 0 ≤ y ∧ y ≤ 60
  · obtain ⟨m, rfl⟩ : ∃ m : Nat, y = (m : Int) := ⟨y.toNat, by omega⟩
    have hm : m ≤ 60 := by omega
    obtain ⟨B, hB⟩ := hW.2.2.2.2.2.2.2.2.2.1 81 (.inr (.inr (.inl rfl)))
    have hb : gB (M 30 8) (M 30 9) (M 30 10) := by rw [cZ.1, cZ.2.1, cZ.2.2.1]; exact cZ.2.2.2.2.1
    have k83 := fun {K : Option vi_V → vi_W → Prop} => k_83 (d := d + 66) (K := K) (n := nn) hY hb c4.2.2.2.1 hB h.1 hm
    simp only [Nat.add_assoc, Nat.reduceAdd] at k83
    rw [cZ.1, cZ.2.1, cZ.2.2.1] at k83
    obtain ⟨G, hG⟩ : ∃ G, G = ft (M 114 96) (M 114 97) (M 114 98) (lfS (M 114) lw n) x := ⟨_, rfl⟩
    rw [← hG] at k83
    obtain ⟨M1, hM1⟩ : ∃ M1, M1 = vi_rs (vi_rs (vi_rs M 81 (cR (G m).2)) 79 (vi_m m (fun i => (sN 216 (G (i + 1)).2 : Int)) (M 79))) 77 (fF (M 77) (G m).1 (m : Int)) := ⟨_, rfl⟩
    rw [← hM1] at k83
    have m1 : ∀ p, p ≠ 77 → p ≠ 79 → p ≠ 81 → M1 p = M p := fun p p1 p2 p3 => by rw [hM1, vi_rs_o p1, vi_rs_o p2, vi_rs_o p3]
    have e77 : M1 77 9 = (m : Int) := by rw [hM1, vi_rs_s]; rfl
    have e79 : M1 79 = vi_m m (fun i => (sN 216 (G (i + 1)).2 : Int)) (M 79) := by rw [hM1, vi_rs_o (by decide), vi_rs_s]
    have e81 : M1 81 = cR (G m).2 := by rw [hM1, vi_rs_o (by decide), vi_rs_o (by decide), vi_rs_s]
    clear hM1
    intro K hK
    have main : ∀ K : Option vi_V → vi_W → Prop, K (some (.inl (sN 216 (G m).2 : Int))) (Y, vi_rs M1 29 (vi_u (M1 29) 11 0), nn) → vi_call GG (d + 70) 221 [.inr (.inr 29), .inl x, .inl (m : Int)] (Y, M, nn) K := by
      intro K hK
      have k227 := fun {K : Option vi_V → vi_W → Prop} => @k_227 (d + 68) Y M1 nn K a1 (sN 216 (G m).2 : Int)
      simp only [Nat.add_assoc, Nat.reduceAdd] at k227
      clear hW hbd c1 c3 c4 cZ hb m1 e77 e79 e81 hG hB
      simp (disch := omega) only [Option.toList_some, Option.toList_none, List.nil_append, List.cons_append, List.append_nil, true_and, and_true, not_true_eq_false, not_false_eq_true, true_implies, false_implies, implies_true, and_self, Int.reduceLT, Int.reduceLE, Int.reduceEq, Int.reduceNe, Int.reduceAdd, Int.reduceSub, Int.reduceMul, Int.reduceNeg, Int.reduceToNat, Int.toNat_natCast, ↓kk_ck, ↓kk_im, ↓kk_in, e_221, s_221_0, s_221_4, s_221_11, s_221_15, s_221_21, s_221_27, s_221_26, s_221_32, s_221_37, s_221_40, a1, a7, q1, k83, k227, ne_eq]
      exact hK
    have f3 : ∀ p, p ≠ 29 → p ≠ 77 → p ≠ 79 → p ≠ 81 → vi_rs M1 29 (vi_u (M1 29) 11 0) p = M p := fun p p1 p2 p3 p4 => by rw [vi_rs_o p1]; exact m1 p p2 p3 p4
    refine main K (hK _ _ (jP_c hW.1 (f3 1 (by omega) (by omega) (by omega) (by omega))) fun K2 hK2 => ?_)
    have f112 := f3 112 (by omega) (by omega) (by omega) (by omega)
    have f114 := f3 114 (by omega) (by omega) (by omega) (by omega)
    have hks : mKs (vi_rs M1 29 (vi_u (M1 29) 11 0)) lw n := (jM_p hW.2.2.2.2.1 fun p hp => f3 p (by omega) (by omega) (by omega) (by omega)).1
    refine k_352 hY hks h.1 hm (by rw [f112]; exact hbd.2.2) (by omega) fun M2 g1 g2 g3 g4 g5 g6 g7 => ?_
    have eG : ft (vi_rs M1 29 (vi_u (M1 29) 11 0) 114 96) (vi_rs M1 29 (vi_u (M1 29) 11 0) 114 97) (vi_rs M1 29 (vi_u (M1 29) 11 0) 114 98) (fun c => mLf (vi_rs M1 29 (vi_u (M1 29) 11 0)) lw n c) x = G := by
      rw [f114, hG]
      congr 1
      funext c
      rw [lfS_M]
      exact mLf_c f114
    rw [eG] at g7 ⊢
    refine hK2 _ ?_
    rw [f112] at g4 g5
    have gq : ∀ p, p ≠ 29 → p ≠ 77 → p ≠ 79 → p ≠ 81 → p ≠ 112 → ¬ (123 ≤ p ∧ p ≤ 127) → p ≠ 134 → p ≠ 150 → M2 p = M p := fun p p1 p2 p3 p4 p5 p6 p7 p8 => (g1 p p5 (by omega) (by omega) (by omega) (by omega) (by omega) p7 p8).trans (f3 p p1 p2 p3 p4)
    have gr : ∀ p, (p < 112) → M2 p = vi_rs M1 29 (vi_u (M1 29) 11 0) p := fun p hp => g1 p (by omega) (by omega) (by omega) (by omega) (by omega) (by omega) (by omega) (by omega)
    have k112 : ∀ k, k ≠ 0 → k ≠ 1 → k ≠ 19 → k ≠ 20 → k ≠ 21 → k ≠ 23 → k ≠ 24 → k ≠ 25 → k ≠ 30 → k ≠ 62 → k ≠ 63 → M2 112 k = M 112 k := fun k k1 k2 k3 k4 k5 k6 k7 k8 k9 k10 k11 => by rw [g2 k k1 k2 k3 k4 k5 k6 k7 k8 k9 k10 k11, f112]
    have e29 : M2 29 = vi_u (M 29) 11 0 := by rw [gr 29 (by omega), vi_rs_s, m1 29 (by omega) (by omega) (by omega)]
    have hC : jC M2 a CS lw n := by
      refine ⟨LH, LR, LS, ?_, c2, ?_, ?_⟩
      · rw [gq 114 (by omega) (by omega) (by omega) (by omega) (by omega) (by omega) (by omega) (by omega)]
        exact cHd_c c1 fun p p1 p2 => gq p (by omega) (by omega) (by omega) (by omega) (by omega) (by omega) (by omega) (by omega)
      · rw [gq 114 (by omega) (by omega) (by omega) (by omega) (by omega) (by omega) (by omega) (by omega), gq 39 (by omega) (by omega) (by omega) (by omega) (by omega) (by omega) (by omega) (by omega)]
        exact c3
      · rw [gq 114 (by omega) (by omega) (by omega) (by omega) (by omega) (by omega) (by omega) (by omega)]
        exact jV_c c4 fun p p1 p2 => gq p (by omega) (by omega) (by omega) (by omega) (by omega) (by omega) (by omega) (by omega)
    refine jW_z hW (fun p hp => gq p (by omega) (by omega) (by omega) (by omega) (by omega) (by omega) (by omega) (by omega)) ?_ ?_ ?_ ?_ g4 (jL_p hW.2.1 fun p hp => gq p (by omega) (by omega) (by omega) (by omega) (by omega) (by omega) (by omega) (by omega)) hC ?_ ?_ (jI_c hW.2.2.2.2.2.2.2.2.1 fun p hp => gq p (by omega) (by omega) (by omega) (by omega) (by omega) (by omega) (by omega) (by omega)) ?_
    · rw [e29, vi_u_s, g3]
    · rw [e29, vi_u_o (by decide), k112 6 (by omega) (by omega) (by omega) (by omega) (by omega) (by omega) (by omega) (by omega) (by omega) (by omega) (by omega)]
      exact hW.2.2.2.2.2.2.1.2.1
    · rw [g5, g4]; omega
    · rw [k112 42 (by omega) (by omega) (by omega) (by omega) (by omega) (by omega) (by omega) (by omega) (by omega) (by omega) (by omega), g4]
      have := hW.2.2.2.2.1.2.2.2
      omega
    · unfold jT
      rw [gq 73 (by omega) (by omega) (by omega) (by omega) (by omega) (by omega) (by omega) (by omega), gq 74 (by omega) (by omega) (by omega) (by omega) (by omega) (by omega) (by omega) (by omega), gq 118 (by omega) (by omega) (by omega) (by omega) (by omega) (by omega) (by omega) (by omega), k112 10 (by omega) (by omega) (by omega) (by omega) (by omega) (by omega) (by omega) (by omega) (by omega) (by omega) (by omega), k112 11 (by omega) (by omega) (by omega) (by omega) (by omega) (by omega) (by omega) (by omega) (by omega) (by omega) (by omega)]
      exact hW.2.2.2.2.2.1
    · refine ⟨m, hm, ?_, g6, fun i hi => ?_⟩
      · rw [gr 77 (by omega), vi_rs_o (by decide)]; exact e77
      · rw [gr 79 (by omega), vi_rs_o (by decide), e79, g7 i hi]; exact vi_m_lt hi
    · refine ⟨fun q hq => ?_, ?_⟩
      · by_cases e : q = 81
        · subst e
          exact ⟨_, by rw [gr 81 (by omega), vi_rs_o (by decide)]; exact e81⟩
        · have := hW.2.2.2.2.2.2.2.2.2.1 q hq
          rw [gq q (by unfold jCe at hq; omega) (by unfold jCe at hq; omega) (by unfold jCe at hq; omega) e (by unfold jCe at hq; omega) (by unfold jCe at hq; omega) (by unfold jCe at hq; omega) (by unfold jCe at hq; omega)]
          exact this
      · rw [gq 88 (by omega) (by omega) (by omega) (by omega) (by omega) (by omega) (by omega) (by omega)]
        exact hW.2.2.2.2.2.2.2.2.2.2
  · have k228a := fun {K : Option vi_V → vi_W → Prop} => @k_228_1 (d + 68) Y M nn K hY h9 (hbd.1 0 (by omega))
    simp only [Nat.add_assoc, Nat.reduceAdd] at k228a
    refine jPair_f (r := -1) hW ht (.inl ⟨rfl, rfl⟩) (fun K hK => ?_) (fun M1 f hB1 hj K hK => ?_)
    · clear hW hbd c1 c3 c4 cZ
      by_cases e1 : x < 0
      · simp (disch := omega) only [Option.toList_some, Option.toList_none, List.nil_append, List.cons_append, List.append_nil, true_and, and_true, not_true_eq_false, not_false_eq_true, true_implies, false_implies, implies_true, and_self, Int.reduceLT, Int.reduceLE, Int.reduceEq, Int.reduceNe, Int.reduceAdd, Int.reduceSub, Int.reduceMul, Int.reduceNeg, Int.reduceToNat, Int.toNat_natCast, ↓kk_ck, ↓kk_im, ↓kk_in, e_221, s_221_0, s_221_4, s_221_11, s_221_15, s_221_21, s_221_27, s_221_26, s_221_32, s_221_37, s_221_40, a1, k228a, ne_eq]
        exact hK
      · by_cases e2 : 1000000 < x
        · simp (disch := omega) only [Option.toList_some, Option.toList_none, List.nil_append, List.cons_append, List.append_nil, true_and, and_true, not_true_eq_false, not_false_eq_true, true_implies, false_implies, implies_true, and_self, Int.reduceLT, Int.reduceLE, Int.reduceEq, Int.reduceNe, Int.reduceAdd, Int.reduceSub, Int.reduceMul, Int.reduceNeg, Int.reduceToNat, Int.toNat_natCast, ↓kk_ck, ↓kk_im, ↓kk_in, e_221, s_221_0, s_221_4, s_221_11, s_221_15, s_221_21, s_221_27, s_221_26, s_221_32, s_221_37, s_221_40, a1, k228a, ne_eq]
          exact hK
        · by_cases e3 : y < 0
          · simp (disch := omega) only [Option.toList_some, Option.toList_none, List.nil_append, List.cons_append, List.append_nil, true_and, and_true, not_true_eq_false, not_false_eq_true, true_implies, false_implies, implies_true, and_self, Int.reduceLT, Int.reduceLE, Int.reduceEq, Int.reduceNe, Int.reduceAdd, Int.reduceSub, Int.reduceMul, Int.reduceNeg, Int.reduceToNat, Int.toNat_natCast, ↓kk_ck, ↓kk_im, ↓kk_in, e_221, s_221_0, s_221_4, s_221_11, s_221_15, s_221_21, s_221_27, s_221_26, s_221_32, s_221_37, s_221_40, a1, k228a, ne_eq]
            exact hK
          · simp (disch := omega) only [Option.toList_some, Option.toList_none, List.nil_append, List.cons_append, List.append_nil, true_and, and_true, not_true_eq_false, not_false_eq_true, true_implies, false_implies, implies_true, and_self, Int.reduceLT, Int.reduceLE, Int.reduceEq, Int.reduceNe, Int.reduceAdd, Int.reduceSub, Int.reduceMul, Int.reduceNeg, Int.reduceToNat, Int.toNat_natCast, ↓kk_ck, ↓kk_im, ↓kk_in, e_221, s_221_0, s_221_4, s_221_11, s_221_15, s_221_21, s_221_27, s_221_26, s_221_32, s_221_37, s_221_40, a1, k228a, ne_eq]
            exact hK
    · rw [k_352n hY h hj (by omega)]
      exact hK
end
