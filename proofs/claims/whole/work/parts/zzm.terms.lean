/-! Pairs: terms, judge. -/
theorem lsE_c {f f' : Nat → Int} {b w cnt : Nat} {L : List (Nat → Int)} (hw : w = 4 ∨ w = 5 ∨ w = 6) (h : lsE f b w cnt L) (hc : f' cnt = f cnt) (hp : ∀ k, b ≤ k → k < b + w * L.length → f' k = f k) : lsE f' b w cnt L := by
  refine ⟨hc.trans h.1, fun r j hr hj => ?_⟩
  rw [← h.2 r j hr hj]
  exact hp _ (by omega) (by obtain rfl | rfl | rfl := hw <;> omega)
theorem gFl_m {x y z : Int} {L : List (Nat → Int)} {v : Nat → Int} (h : v ∈ gFl x y z L) : v ∈ L ∧ gPl x y z (v 0) (v 1) (v 2) = true := by
  unfold gFl at h
  rw [List.mem_filter] at h
  exact h
theorem gFl_id {x y z : Int} {L : List (Nat → Int)} (h : ∀ v, v ∈ L → gPl x y z (v 0) (v 1) (v 2) = true) : gFl x y z L = L := by
  unfold gFl
  rw [List.filter_eq_self]
  exact h
theorem te_row {f f0 : Nat → Int} {LH LR LS : List (Nat → Int)} (cH : rHs f LH) (cR' : rRw f LR) (cS : rSc f LS) (h0 : ∀ k, k < 96 ∨ 100 ≤ k → f0 k = f k) {F : Nat → Int} (hF : F = mGo 132 5 294 LS.length (mGo 100 4 293 LR.length (mGo 0 6 292 LH.length f0))) : rHs F (gFl (f0 96) (f0 97) (f0 98) LH) ∧ rRw F (gFl (f0 96) (f0 97) (f0 98) LR) ∧ rSc F (gFl (f0 96) (f0 97) (f0 98) LS) ∧ ∀ k, (96 ≤ k ∧ k < 100) ∨ (172 ≤ k ∧ k < 292) ∨ 295 ≤ k → F k = f0 k := by
  obtain ⟨h1, h2, h3⟩ := rHs_e.mp cH
  obtain ⟨r1, r2, r3⟩ := rRw_e.mp cR'
  obtain ⟨s1, s2, s3⟩ := rSc_e.mp cS
  have m1 : mLm 0 6 292 LH.length := ⟨.inr (.inr rfl), by omega, by omega, by omega, by omega⟩
  have m2 : mLm 100 4 293 LR.length := ⟨.inl rfl, by omega, by omega, by omega, by omega⟩
  have m3 : mLm 132 5 294 LS.length := ⟨.inr (.inl rfl), by omega, by omega, by omega, by omega⟩
  have a1 : lsE f0 0 6 292 LH := lsE_c (.inr (.inr rfl)) h1 (h0 292 (by omega)) fun k k1 k2 => h0 k (by omega)
  have a2 : lsE f0 100 4 293 LR := lsE_c (.inl rfl) r1 (h0 293 (by omega)) fun k k1 k2 => h0 k (by omega)
  have a3 : lsE f0 132 5 294 LS := lsE_c (.inr (.inl rfl)) s1 (h0 294 (by omega)) fun k k1 k2 => h0 k (by omega)
  have b1 := mGo_e LH.length LH [] f0 rfl (by rw [List.append_nil]; exact a1) (by rw [List.append_nil]; exact m1) rfl rfl rfl
  have o1 := (mGo_o LH.length f0 LH.length a1.1 (Nat.le_refl _) m1).1
  rw [List.append_nil] at b1
  obtain ⟨F1, hF1⟩ : ∃ F1, F1 = mGo 0 6 292 LH.length f0 := ⟨_, rfl⟩
  rw [← hF1] at b1 o1 hF
  have p1 : ∀ k, 96 ≤ k → k ≠ 292 → F1 k = f0 k := fun k k1 k2 => o1 k (by omega) k2
  have c2 : lsE F1 100 4 293 LR := lsE_c (.inl rfl) a2 (p1 293 (by omega) (by omega)) fun k k1 k2 => p1 k (by omega) (by omega)
  have b2 := mGo_e LR.length LR [] F1 rfl (by rw [List.append_nil]; exact c2) (by rw [List.append_nil]; exact m2) rfl rfl rfl
  have o2 := (mGo_o LR.length F1 LR.length c2.1 (Nat.le_refl _) m2).1
  rw [List.append_nil, p1 96 (by omega) (by omega), p1 97 (by omega) (by omega), p1 98 (by omega) (by omega)] at b2
  obtain ⟨F2, hF2⟩ : ∃ F2, F2 = mGo 100 4 293 LR.length F1 := ⟨_, rfl⟩
  rw [← hF2] at b2 o2 hF
  have p2 : ∀ k, (k < 100 ∨ 132 ≤ k) → k ≠ 293 → F2 k = F1 k := fun k k1 k2 => o2 k (by omega) k2
  have c3 : lsE F2 132 5 294 LS := lsE_c (.inr (.inl rfl)) a3 ((p2 294 (by omega) (by omega)).trans (p1 294 (by omega) (by omega))) fun k k1 k2 => (p2 k (by omega) (by omega)).trans (p1 k (by omega) (by omega))
  have b3 := mGo_e LS.length LS [] F2 rfl (by rw [List.append_nil]; exact c3) (by rw [List.append_nil]; exact m3) rfl rfl rfl
  have o3 := (mGo_o LS.length F2 LS.length c3.1 (Nat.le_refl _) m3).1
  rw [List.append_nil, p2 96 (by omega) (by omega), p2 97 (by omega) (by omega), p2 98 (by omega) (by omega), p1 96 (by omega) (by omega), p1 97 (by omega) (by omega), p1 98 (by omega) (by omega)] at b3
  rw [← hF] at b3 o3
  have p3 : ∀ k, (k < 132 ∨ 172 ≤ k) → k ≠ 294 → F k = F2 k := fun k k1 k2 => o3 k (by omega) k2
  have all : ∀ k, (96 ≤ k ∧ k < 100) ∨ (172 ≤ k ∧ k < 292) ∨ 295 ≤ k → F k = f0 k := fun k hk => (p3 k (by omega) (by omega)).trans ((p2 k (by omega) (by omega)).trans (p1 k (by omega) (by omega)))
  have l1 := @gFl_len (f0 96) (f0 97) (f0 98) LH
  have l2 := @gFl_len (f0 96) (f0 97) (f0 98) LR
  have l3 := @gFl_len (f0 96) (f0 97) (f0 98) LS
  refine ⟨rHs_e.mpr ⟨?_, by omega, fun v hv => ?_⟩, rRw_e.mpr ⟨?_, by omega, fun v hv => ?_⟩, rSc_e.mpr ⟨b3, by omega, fun v hv => ?_⟩, all⟩
  · exact lsE_c (.inr (.inr rfl)) b1 ((p3 292 (by omega) (by omega)).trans (p2 292 (by omega) (by omega))) fun k k1 k2 => (p3 k (by omega) (by omega)).trans (p2 k (by omega) (by omega))
  · rw [all 96 (by omega), all 97 (by omega), all 98 (by omega)]
    exact ⟨(h3 v (gFl_m hv).1).1, (gFl_m hv).2⟩
  · exact lsE_c (.inl rfl) b2 (p3 293 (by omega) (by omega)) fun k k1 k2 => p3 k (by omega) (by omega)
  · rw [all 96 (by omega), all 97 (by omega), all 98 (by omega)]
    exact (gFl_m hv).2
  · rw [all 96 (by omega), all 97 (by omega), all 98 (by omega)]
    exact ⟨(s3 v (gFl_m hv).1).1, (s3 v (gFl_m hv).1).2.1, (gFl_m hv).2⟩
section
variable {sc : Nat → Int} {ln t a n d : Nat} {CS : Nat → List gCla} {lw : Option (List gCla)} {Y : vi_Y} {M : vi_M} {nn : Nat × Nat} {K : Option vi_V → vi_W → Prop}
theorem p_192 (hW : jW sc ln t a CS lw n Y M nn) (ht : t < 1000) {b x : Int} : jPair sc ln t (d + 70) 192 255 [.inl b, .inl x] (Y, M, nn) := by
  have hY := hW.1.1
  have h9 := hW.1.2.1
  have hbd := jW_b hW ht
  obtain ⟨LH, LR, LS, c1, c2, c3, c4⟩ := hW.2.2.2.1
  have c1' := c1
  obtain ⟨⟨o1, o2, o3⟩, cH, cR', cS, cD, cC, cZ, cL⟩ := c1'
  obtain ⟨a1, a2, a3, a4, a5, a6, a7, a8, a9, a10, a11, a12⟩ := y_29 h9
  obtain ⟨b1, b2, -⟩ := y_30 hY (by omega)
  obtain ⟨z1, -⟩ := y_60 hY (by omega)
  have hB : mBx M := hW.2.2.2.2.1.1.1
  by_cases h : 0 ≤ b ∧ b ≤ 3 ∧ (b ≤ 2 → 1 ≤ x ∧ x ≤ 6) ∧ (b = 3 → 0 ≤ x ∧ x ≤ 99)
  · obtain ⟨b, rfl⟩ : ∃ k : Nat, b = (k : Int) := ⟨b.toNat, by omega⟩
    have hb3 : b ≤ 3 := by omega
    have hx1 : b ≤ 2 → 1 ≤ x ∧ x ≤ 6 := fun e => h.2.2.1 (by omega)
    have hx2 : b = 3 → 0 ≤ x ∧ x ≤ 99 := fun e => h.2.2.2 (by omega)
    obtain ⟨f0, hf0⟩ : ∃ f0, f0 = vi_u (M 114) (96 + b) x := ⟨_, rfl⟩
    have h0 : ∀ k, k < 96 ∨ 100 ≤ k → f0 k = M 114 k := fun k hk => by rw [hf0]; exact vi_u_o (by omega)
    obtain ⟨F, hF⟩ : ∃ F, F = mGo 132 5 294 LS.length (mGo 100 4 293 LR.length (mGo 0 6 292 LH.length f0)) := ⟨_, rfl⟩
    obtain ⟨qH, qR, qS, qO⟩ := te_row cH cR' cS h0 hF
    have hL2 : ∀ k, 295 ≤ k ∧ k < 5103 → F k = M 114 k := fun k hk => (qO k (by omega)).trans (h0 k (by omega))
    have ref : ∀ M2 : vi_M, (∀ p, 112 ≤ p → p < 151 → M2 p = M p) → mBx M2 → (0 ≤ M2 112 1 ∧ M2 112 1 < 2147483647) → ∀ K : Option vi_V → vi_W → Prop, K (some (.inl (M 114 (96 + b)))) (Y, vi_rs (vi_rs M2 114 F) 112 (vi_u (vi_u (M2 112) 0 0) 1 (M2 112 1 + 1)), nn) → vi_call GG (d + 70) 255 [.inr (.inr 112), .inl (b : Int), .inl x] (Y, M2, nn) K := by
      intro M2 f2 hB2 hv K hK
      rw [k_255 hY hB2 ⟨hb3, fun e => hx1 e, fun e => hx2 e⟩ (n := LH.length) (m := LR.length) (s := LS.length) (by rw [f2 114 (by omega) (by omega)]; exact cH.1) (by rw [f2 114 (by omega) (by omega)]; exact cR'.1) (by rw [f2 114 (by omega) (by omega)]; exact cS.1) cH.2.1 cR'.2.1 cS.2.1 hv (by omega), f2 114 (by omega) (by omega), ← hf0, ← hF]
      exact hK
    by_cases hb : b = 3
    · subst hb
      have hx := hx2 rfl
      have s96 : f0 96 = M 114 96 := by rw [hf0]; exact vi_u_o (by decide)
      have s97 : f0 97 = M 114 97 := by rw [hf0]; exact vi_u_o (by decide)
      have s98 : f0 98 = M 114 98 := by rw [hf0]; exact vi_u_o (by decide)
      have s99 : f0 99 = x := by rw [hf0]; exact vi_u_s
      rw [s96, s97, s98] at qH qR qS
      rw [gFl_id fun v hv => ((rHs_e.mp cH).2.2 v hv).2] at qH
      rw [gFl_id (rRw_e.mp cR').2.2] at qR
      rw [gFl_id fun v hv => ((rSc_e.mp cS).2.2 v hv).2.2] at qS
      refine jPair_r (M1 := vi_rs M 30 (vi_u (M 30) 11 x)) (x := .inl (M 114 99)) (f' := F) (LH := LH) (LR := LR) (LS := LS) (lw' := lw) hW ht (fun q hq => ?_) ⟨⟨?_, ?_, ?_⟩, qH, qR, qS, rDk_c ?_ fun k hk => (qO k (by omega)).trans (h0 k (by omega)), rCt_c ?_ fun k hk => (qO k (by omega)).trans (h0 k (by omega)), ?_, rLw_c ?_ hL2⟩ ?_ (fun M' f1 k25 K hK => ?_) ref
      · rw [vi_rs_o (by omega)]
      · rw [vi_rs_o (by decide), vi_rs_o (by decide)]; exact o1
      · rw [vi_rs_o (by decide), vi_rs_o (by decide)]; exact o2
      · rw [vi_rs_o (by decide), vi_rs_o (by decide)]; exact o3
      · rw [vi_rs_o (by decide)]; exact cD
      · rw [vi_rs_o (by decide)]; exact cC
      · rw [vi_rs_s]
        obtain ⟨w1, w2, w3, w4, w5, w6⟩ := cZ
        unfold rSz bxF
        rw [qO 96 (by omega), qO 97 (by omega), qO 98 (by omega), qO 99 (by omega), s96, s97, s98, s99, vi_u_o (by decide), vi_u_o (by decide), vi_u_o (by decide), vi_u_s]
        exact ⟨w1, w2, w3, rfl, w5, hx⟩
      · show rLw a CS _ (vi_rs M 30 _ 30) (vi_rs M 30 _ 39)
        rw [vi_rs_s, vi_rs_o (by decide)]
        exact rLw_g cL (vi_u_o (by decide)) (vi_u_o (by decide))
      · rw [vi_rs_o (by decide)]
        exact fLw_c c3 hL2
      · have k48 := fun {K : Option vi_V → vi_W → Prop} => @k_48 (d + 68) 30 K Y M nn b1 x
        have k227 := fun {K : Option vi_V → vi_W → Prop} => @k_227 (d + 68) Y M' nn K a1 (M 114 99)
        simp only [Nat.add_assoc, Nat.reduceAdd] at k48 k227
        rw [cZ.2.2.2.1] at k48
        show vi_call GG (d + 70) 192 [.inr (.inr 29), .inl 3, .inl x] (Y, M, nn) K
        clear c1 cZ cH cR' cS cD cC cL o1 o2 o3 hW hbd h0 c3 c4 qH qR qS qO hL2 ref f1 hx1 hx2 h
        generalize vi_rs M 30 (vi_u (M 30) 11 x) = M1 at *
        by_cases hs : 1 ≤ x ∧ x ≤ 6
        · simp (disch := omega) only [Option.toList_some, Option.toList_none, List.nil_append, List.cons_append, List.append_nil, true_and, and_true, not_true_eq_false, not_false_eq_true, true_implies, false_implies, implies_true, and_self, Int.reduceLT, Int.reduceLE, Int.reduceEq, Int.reduceNe, Int.reduceAdd, Int.reduceSub, Int.reduceMul, Int.reduceNeg, Int.reduceToNat, Int.toNat_natCast, ↓kk_ck, ↓kk_im, ↓kk_in, e_192, s_192_0, s_192_4, s_192_9, s_192_14, s_192_20, s_192_24, s_192_25, s_192_31, s_192_35, s_192_41, s_192_45, s_192_46, s_192_52, s_192_57, s_192_63, s_192_68, s_192_79, s_192_88, s_192_62, s_192_72, s_192_83, s_192_94, s_192_76, s_192_97, s_192_103, a1, a2, a5, b1, z1, k48, k25, k227, ne_eq]
          exact hK
        · simp (disch := omega) only [Option.toList_some, Option.toList_none, List.nil_append, List.cons_append, List.append_nil, true_and, and_true, not_true_eq_false, not_false_eq_true, true_implies, false_implies, implies_true, and_self, Int.reduceLT, Int.reduceLE, Int.reduceEq, Int.reduceNe, Int.reduceAdd, Int.reduceSub, Int.reduceMul, Int.reduceNeg, Int.reduceToNat, Int.toNat_natCast, ↓kk_ck, ↓kk_im, ↓kk_in, e_192, s_192_0, s_192_4, s_192_9, s_192_14, s_192_20, s_192_24, s_192_25, s_192_31, s_192_35, s_192_41, s_192_45, s_192_46, s_192_52, s_192_57, s_192_63, s_192_68, s_192_79, s_192_88, s_192_62, s_192_72, s_192_83, s_192_94, s_192_76, s_192_97, s_192_103, a1, a2, a5, b1, z1, k48, k25, k227, ne_eq]
          exact hK
    · have hb2 : b ≤ 2 := by omega
      have hx := hx1 hb2
      obtain ⟨fh, hfh⟩ : ∃ fh, fh = vi_u (M 30) (8 + b) x := ⟨_, rfl⟩
      obtain ⟨w1, w2, w3, w4, w5, w6⟩ := cZ
      have e8 : fh 8 = f0 96 ∧ fh 9 = f0 97 ∧ fh 10 = f0 98 ∧ fh 11 = f0 99 ∧ fh 6 = M 30 6 ∧ fh 7 = M 30 7 := by
        rw [hfh, hf0]
        unfold vi_u
        rw [← w1, ← w2, ← w3, ← w4]
        obtain rfl | rfl | rfl : b = 0 ∨ b = 1 ∨ b = 2 := by omega
        · exact ⟨rfl, rfl, rfl, rfl, rfl, rfl⟩
        · exact ⟨rfl, rfl, rfl, rfl, rfl, rfl⟩
        · exact ⟨rfl, rfl, rfl, rfl, rfl, rfl⟩
      obtain ⟨g8, g9, g10, g11, g6, g7⟩ := e8
      have s99 : f0 99 = M 114 99 := by rw [hf0]; exact vi_u_o (by omega)
      have hB0 : bxF f0 := by
        have w5' := w5
        unfold bxF gB at w5' ⊢
        rw [hf0]
        unfold vi_u
        obtain rfl | rfl | rfl : b = 0 ∨ b = 1 ∨ b = 2 := by omega
        · exact ⟨hx, w5'.2⟩
        · exact ⟨w5'.1, hx, w5'.2.2⟩
        · exact ⟨w5'.1, w5'.2.1, hx⟩
      have esz : gSz (M 30 8) (M 30 9) (M 30 10) (b : Int) = M 114 (96 + b) := by
        rw [w1, w2, w3]
        exact (hc_sz (f := M 114) hb2).symm
      obtain ⟨f1, g1, f2, g2, f3, g3, r1, r2, r3, k46⟩ := @k_46 (d + 65) 30 Y M nn (kH_30 hY (by omega)) (b : Int) x (by omega) LH LR LS o1 o2 o3 cH.2.1 cR'.2.1 cS.2.1 fh (by rw [show (8 + (b : Int)).toNat = 8 + b by omega]; exact hfh.symm)
      simp only [Nat.add_assoc, Nat.reduceAdd] at k46
      rw [g8, g9, g10] at r1 r2 r3
      rw [esz] at k46
      refine jPair_r (M1 := vi_rs (vi_rs (vi_rs (vi_rs (vi_rs (vi_rs (vi_rs M 30 fh) 32 g1) 31 f1) 34 g2) 33 f2) 36 g3) 35 f3) (x := .inl (M 114 (96 + b))) (f' := F) (LH := gFl (f0 96) (f0 97) (f0 98) LH) (LR := gFl (f0 96) (f0 97) (f0 98) LR) (LS := gFl (f0 96) (f0 97) (f0 98) LS) (lw' := lw) hW ht (fun q hq => ?_) ⟨⟨?_, ?_, ?_⟩, qH, qR, qS, rDk_c ?_ fun k hk => (qO k (by omega)).trans (h0 k (by omega)), rCt_c ?_ fun k hk => (qO k (by omega)).trans (h0 k (by omega)), ?_, rLw_c ?_ hL2⟩ ?_ (fun M' fm k25 K hK => ?_) ref
      · rw [vi_rs_o (by omega), vi_rs_o (by omega), vi_rs_o (by omega), vi_rs_o (by omega), vi_rs_o (by omega), vi_rs_o (by omega), vi_rs_o (by omega)]
      · show rOK (vi_rs (vi_rs (vi_rs (vi_rs (vi_rs (vi_rs (vi_rs M 30 fh) 32 g1) 31 f1) 34 g2) 33 f2) 36 g3) 35 f3 31) (vi_rs (vi_rs (vi_rs (vi_rs (vi_rs (vi_rs (vi_rs M 30 fh) 32 g1) 31 f1) 34 g2) 33 f2) 36 g3) 35 f3 32) _
        simp (disch := omega) only [vi_rs_s, vi_rs_o]
        exact r1
      · show rOK (vi_rs (vi_rs (vi_rs (vi_rs (vi_rs (vi_rs (vi_rs M 30 fh) 32 g1) 31 f1) 34 g2) 33 f2) 36 g3) 35 f3 33) (vi_rs (vi_rs (vi_rs (vi_rs (vi_rs (vi_rs (vi_rs M 30 fh) 32 g1) 31 f1) 34 g2) 33 f2) 36 g3) 35 f3 34) _
        simp (disch := omega) only [vi_rs_s, vi_rs_o]
        exact r2
      · show rOK (vi_rs (vi_rs (vi_rs (vi_rs (vi_rs (vi_rs (vi_rs M 30 fh) 32 g1) 31 f1) 34 g2) 33 f2) 36 g3) 35 f3 35) (vi_rs (vi_rs (vi_rs (vi_rs (vi_rs (vi_rs (vi_rs M 30 fh) 32 g1) 31 f1) 34 g2) 33 f2) 36 g3) 35 f3 36) _
        simp (disch := omega) only [vi_rs_s, vi_rs_o]
        exact r3
      · show rDk _ (vi_rs (vi_rs (vi_rs (vi_rs (vi_rs (vi_rs (vi_rs M 30 fh) 32 g1) 31 f1) 34 g2) 33 f2) 36 g3) 35 f3 37)
        simp (disch := omega) only [vi_rs_s, vi_rs_o]
        exact cD
      · show rCt _ (vi_rs (vi_rs (vi_rs (vi_rs (vi_rs (vi_rs (vi_rs M 30 fh) 32 g1) 31 f1) 34 g2) 33 f2) 36 g3) 35 f3 38)
        simp (disch := omega) only [vi_rs_s, vi_rs_o]
        exact cC
      · simp (disch := omega) only [vi_rs_s, vi_rs_o]
        unfold rSz bxF
        rw [qO 96 (by omega), qO 97 (by omega), qO 98 (by omega), qO 99 (by omega), s99]
        exact ⟨g8, g9, g10, by rw [g11, s99], hB0, w6⟩
      · show rLw a CS _ (vi_rs (vi_rs (vi_rs (vi_rs (vi_rs (vi_rs (vi_rs M 30 fh) 32 g1) 31 f1) 34 g2) 33 f2) 36 g3) 35 f3 30) (vi_rs (vi_rs (vi_rs (vi_rs (vi_rs (vi_rs (vi_rs M 30 fh) 32 g1) 31 f1) 34 g2) 33 f2) 36 g3) 35 f3 39)
        simp (disch := omega) only [vi_rs_s, vi_rs_o]
        exact rLw_g cL g6 g7
      · simp (disch := omega) only [vi_rs_s, vi_rs_o]
        exact fLw_c c3 hL2
      · have k227 := fun {K : Option vi_V → vi_W → Prop} => @k_227 (d + 68) Y M' nn K a1 (M 114 (96 + b))
        simp only [Nat.add_assoc, Nat.reduceAdd] at k227
        clear c1 cH cR' cS cD cC cL o1 o2 o3 hW hbd h0 c3 c4 qH qR qS qO hL2 ref r1 r2 r3 w1 w2 w3 w4 w5 w6 hx1 hx2 h esz fm
        generalize vi_rs (vi_rs (vi_rs (vi_rs (vi_rs (vi_rs (vi_rs M 30 fh) 32 g1) 31 f1) 34 g2) 33 f2) 36 g3) 35 f3 = M1 at *
        simp (disch := omega) only [Option.toList_some, Option.toList_none, List.nil_append, List.cons_append, List.append_nil, true_and, and_true, not_true_eq_false, not_false_eq_true, true_implies, false_implies, implies_true, and_self, Int.reduceLT, Int.reduceLE, Int.reduceEq, Int.reduceNe, Int.reduceAdd, Int.reduceSub, Int.reduceMul, Int.reduceNeg, Int.reduceToNat, Int.toNat_natCast, ↓kk_ck, ↓kk_im, ↓kk_in, e_192, s_192_0, s_192_4, s_192_9, s_192_14, s_192_20, s_192_24, s_192_25, s_192_31, s_192_35, s_192_41, s_192_45, s_192_46, s_192_52, s_192_57, s_192_63, s_192_68, s_192_79, s_192_88, s_192_62, s_192_72, s_192_83, s_192_94, s_192_76, s_192_97, s_192_103, a1, a2, a5, b1, z1, k46, k25, k227, ne_eq]
        exact hK
  · have k228a := fun {K : Option vi_V → vi_W → Prop} => @k_228_1 (d + 68) Y M nn K hY h9 (hbd.1 0 (by omega))
    simp only [Nat.add_assoc, Nat.reduceAdd] at k228a
    refine jPair_f (r := -1) hW ht (.inl ⟨rfl, rfl⟩) (fun K hK => ?_) (fun M1 f hB1 hj K hK => ?_)
    · clear c1 cZ cH cR' cS cD cC cL o1 o2 o3 hW hbd c3 c4
      have hs : b < 0 ∨ 3 < b ∨ (0 ≤ b ∧ b ≤ 2 ∧ x < 1) ∨ (0 ≤ b ∧ b ≤ 2 ∧ 6 < x) ∨ (b = 3 ∧ x < 0) ∨ (b = 3 ∧ 99 < x) := by omega
      clear h
      rcases hs with hs | hs | ⟨h1, h2, hs⟩ | ⟨h1, h2, hs⟩ | ⟨rfl, hs⟩ | ⟨rfl, hs⟩
      · simp (disch := omega) only [Option.toList_some, Option.toList_none, List.nil_append, List.cons_append, List.append_nil, true_and, and_true, not_true_eq_false, not_false_eq_true, true_implies, false_implies, implies_true, and_self, Int.reduceLT, Int.reduceLE, Int.reduceEq, Int.reduceNe, Int.reduceAdd, Int.reduceSub, Int.reduceMul, Int.reduceNeg, Int.reduceToNat, Int.toNat_natCast, ↓kk_ck, ↓kk_im, ↓kk_in, e_192, s_192_0, s_192_4, s_192_9, s_192_14, s_192_20, s_192_24, s_192_25, s_192_31, s_192_35, s_192_41, s_192_45, s_192_46, s_192_52, s_192_57, s_192_63, s_192_68, s_192_79, s_192_88, s_192_62, s_192_72, s_192_83, s_192_94, s_192_76, s_192_97, s_192_103, a1, k228a, ne_eq]
        exact hK
      · simp (disch := omega) only [Option.toList_some, Option.toList_none, List.nil_append, List.cons_append, List.append_nil, true_and, and_true, not_true_eq_false, not_false_eq_true, true_implies, false_implies, implies_true, and_self, Int.reduceLT, Int.reduceLE, Int.reduceEq, Int.reduceNe, Int.reduceAdd, Int.reduceSub, Int.reduceMul, Int.reduceNeg, Int.reduceToNat, Int.toNat_natCast, ↓kk_ck, ↓kk_im, ↓kk_in, e_192, s_192_0, s_192_4, s_192_9, s_192_14, s_192_20, s_192_24, s_192_25, s_192_31, s_192_35, s_192_41, s_192_45, s_192_46, s_192_52, s_192_57, s_192_63, s_192_68, s_192_79, s_192_88, s_192_62, s_192_72, s_192_83, s_192_94, s_192_76, s_192_97, s_192_103, a1, k228a, ne_eq]
        exact hK
      · simp (disch := omega) only [Option.toList_some, Option.toList_none, List.nil_append, List.cons_append, List.append_nil, true_and, and_true, not_true_eq_false, not_false_eq_true, true_implies, false_implies, implies_true, and_self, Int.reduceLT, Int.reduceLE, Int.reduceEq, Int.reduceNe, Int.reduceAdd, Int.reduceSub, Int.reduceMul, Int.reduceNeg, Int.reduceToNat, Int.toNat_natCast, ↓kk_ck, ↓kk_im, ↓kk_in, e_192, s_192_0, s_192_4, s_192_9, s_192_14, s_192_20, s_192_24, s_192_25, s_192_31, s_192_35, s_192_41, s_192_45, s_192_46, s_192_52, s_192_57, s_192_63, s_192_68, s_192_79, s_192_88, s_192_62, s_192_72, s_192_83, s_192_94, s_192_76, s_192_97, s_192_103, a1, k228a, ne_eq]
        exact hK
      · simp (disch := omega) only [Option.toList_some, Option.toList_none, List.nil_append, List.cons_append, List.append_nil, true_and, and_true, not_true_eq_false, not_false_eq_true, true_implies, false_implies, implies_true, and_self, Int.reduceLT, Int.reduceLE, Int.reduceEq, Int.reduceNe, Int.reduceAdd, Int.reduceSub, Int.reduceMul, Int.reduceNeg, Int.reduceToNat, Int.toNat_natCast, ↓kk_ck, ↓kk_im, ↓kk_in, e_192, s_192_0, s_192_4, s_192_9, s_192_14, s_192_20, s_192_24, s_192_25, s_192_31, s_192_35, s_192_41, s_192_45, s_192_46, s_192_52, s_192_57, s_192_63, s_192_68, s_192_79, s_192_88, s_192_62, s_192_72, s_192_83, s_192_94, s_192_76, s_192_97, s_192_103, a1, k228a, ne_eq]
        exact hK
      · simp (disch := omega) only [Option.toList_some, Option.toList_none, List.nil_append, List.cons_append, List.append_nil, true_and, and_true, not_true_eq_false, not_false_eq_true, true_implies, false_implies, implies_true, and_self, Int.reduceLT, Int.reduceLE, Int.reduceEq, Int.reduceNe, Int.reduceAdd, Int.reduceSub, Int.reduceMul, Int.reduceNeg, Int.reduceToNat, Int.toNat_natCast, ↓kk_ck, ↓kk_im, ↓kk_in, e_192, s_192_0, s_192_4, s_192_9, s_192_14, s_192_20, s_192_24, s_192_25, s_192_31, s_192_35, s_192_41, s_192_45, s_192_46, s_192_52, s_192_57, s_192_63, s_192_68, s_192_79, s_192_88, s_192_62, s_192_72, s_192_83, s_192_94, s_192_76, s_192_97, s_192_103, a1, k228a, ne_eq]
        exact hK
      · simp (disch := omega) only [Option.toList_some, Option.toList_none, List.nil_append, List.cons_append, List.append_nil, true_and, and_true, not_true_eq_false, not_false_eq_true, true_implies, false_implies, implies_true, and_self, Int.reduceLT, Int.reduceLE, Int.reduceEq, Int.reduceNe, Int.reduceAdd, Int.reduceSub, Int.reduceMul, Int.reduceNeg, Int.reduceToNat, Int.toNat_natCast, ↓kk_ck, ↓kk_im, ↓kk_in, e_192, s_192_0, s_192_4, s_192_9, s_192_14, s_192_20, s_192_24, s_192_25, s_192_31, s_192_35, s_192_41, s_192_45, s_192_46, s_192_52, s_192_57, s_192_63, s_192_68, s_192_79, s_192_88, s_192_62, s_192_72, s_192_83, s_192_94, s_192_76, s_192_97, s_192_103, a1, k228a, ne_eq]
        exact hK
    · rw [k_255n hY h hj (by omega)]
      exact hK
/-- the first row that isn't so -/
def jgN (f : Nat → Int) (S : Nat → Bool) (L : List (Nat → Int)) : Nat → Nat → Int
  | 0, _ => -1
  | k + 1, i => if (rwN f S (rL L i 0) (rL L i 1) (rL L i 2) : Int) = rL L i 3 then jgN f S L k (i + 1) else (i : Int)
theorem jgN_m {f g : Nat → Int} {S : Nat → Bool} {L : List (Nat → Int)} (hB : bxF f) (hg : ∀ c, c < 216 → g c = vi_b (S c)) (hR : rRw f L) : ∀ k i, i + k = L.length → mJg f g k i = jgN f S L k i
  | 0, _, _ => rfl
  | k + 1, i, h => by
    obtain ⟨r1, r2⟩ := hR.2.2 i (by omega)
    have e0 := r2 0 (by omega)
    rw [Nat.add_zero] at e0
    rw [mJg, jgN, jgN_m hB hg hR k (i + 1) (by omega), e0, r2 1 (by omega), r2 2 (by omega), r2 3 (by omega)]
    have hb := r1
    rw [← hc_ib] at hb
    have hb' := of_decide_eq_true hb
    obtain ⟨b, e⟩ : ∃ b : Nat, rL L i 0 = (b : Int) := ⟨(rL L i 0).toNat, by omega⟩
    rw [e] at hb ⊢
    rw [Int.toNat_natCast, rwN_m hB hg hb]
theorem k_206 (hY : kY Y 151) (h9 : kY9 Y) {f : Nat → Int} (hs : rSz f (M 30)) (hV : jV M f lw n) {L : List (Nat → Int)} (hr : rOK (M 33) (M 34) L) (hl : L.length ≤ 8) : vi_call GG (d + 70) 206 [.inr (.inr 29)] (Y, M, nn) K ↔ K (some (.inl (jgN f (lfS f lw n) L L.length 0))) (Y, M, nn) := by
  obtain ⟨a1, a2, a3, a4, a5, a6, a7, a8, a9, a10, a11, a12⟩ := y_29 h9
  obtain ⟨b1, b2, b3, b4, -⟩ := y_30 hY (by omega)
  obtain ⟨c1, c2, c3, c4, c5, c6, c7, c8, c9⟩ := y_60 hY (by omega)
  have kr := kR_33 hY (by omega)
  have hr0 : M 33 2 = (L.length : Int) := hr.1
  have hb : gB (M 30 8) (M 30 9) (M 30 10) := by rw [hs.1, hs.2.1, hs.2.2.1]; exact hs.2.2.2.2.1
  have k149 := fun {K : Option vi_V → vi_W → Prop} => @k_149 (d + 68) 33 K (Y, M, nn) kr.1
  simp only [Nat.add_assoc, Nat.reduceAdd] at k149
  rw [hr0] at k149
  have k33 : ∀ (b u v : Int) (K : Option vi_V → vi_W → Prop), vi_call GG (d + 69) 33 [.inr (.inr 60), .inl b, .inl u, .inl v] (Y, M, nn) K ↔ K (some (.inl (rwN f (lfS f lw n) b u v : Int))) (Y, M, nn) := fun b u v K => by
    have := @k_33 (d + 66) K Y M nn _ (kY_le hY (show 73 ≤ 151 by omega)) hb hV.2.2.2.1 b u v
    rw [hs.1, hs.2.1, hs.2.2.1] at this
    exact this
  have k151 : ∀ (i j : Nat), i < L.length → j < 6 → ∀ K : Option vi_V → vi_W → Prop, vi_call GG (d + 69) 151 [.inr (.inr 33), .inl (i : Int), .inl (j : Int)] (Y, M, nn) K ↔ K (some (.inl (rL L i j))) (Y, M, nn) := fun i j hi hj K => by
    have := @k_151 (d + 68) 33 8 K Y M nn L kr hr hl (i : Int) j hj
    rw [show rNum L (i : Int) j = rL L i j from by unfold rNum; rw [if_pos (by omega), Int.toNat_natCast]] at this
    exact this
  refine vi_k (r := some (.inl _)) fun Q hQ => ?_
  have loop : ∀ k i : Nat, i + k = L.length → ∀ l3 l4, Q (some (.inl (jgN f (lfS f lw n) L k i))) (Y, M, nn) → vi_ok GG (d + 69) 206 10 [some (.inr (.inr 29)), some (.inr (.inr 33)), some (.inl (i : Int)), l3, l4] [] (Y, M, nn) Q := by
    intro k
    induction k with
    | zero =>
      intro i hi l3 l4 hq
      rw [jgN] at hq
      rw [s_206_10]
      clear hs hV hb hQ
      simp (disch := omega) only [Option.toList_some, Option.toList_none, List.nil_append, List.cons_append, List.append_nil, true_and, and_true, not_true_eq_false, not_false_eq_true, true_implies, false_implies, implies_true, and_self, Int.reduceLT, Int.reduceLE, Int.reduceEq, Int.reduceNe, Int.reduceAdd, Int.reduceSub, Int.reduceMul, Int.reduceNeg, Int.reduceToNat, Int.toNat_natCast, ↓kk_ck, ↓kk_im, ↓kk_in, s_206_0, s_206_18, s_206_58, s_206_60, s_206_66, s_206_4, s_206_15, s_206_24, s_206_7, s_206_29, s_206_36, s_206_42, s_206_45, s_206_55, kr.1, k149, ne_eq]
      exact hq
    | succ k ih =>
      intro i hi l3 l4 hq
      have hil : i < L.length := by omega
      have q0 : ∀ K : Option vi_V → vi_W → Prop, vi_call GG (d + 69) 151 [.inr (.inr 33), .inl (i : Int), .inl 0] (Y, M, nn) K ↔ K (some (.inl (rL L i 0))) (Y, M, nn) := k151 i 0 hil (by omega)
      have q1 : ∀ K : Option vi_V → vi_W → Prop, vi_call GG (d + 69) 151 [.inr (.inr 33), .inl (i : Int), .inl 1] (Y, M, nn) K ↔ K (some (.inl (rL L i 1))) (Y, M, nn) := k151 i 1 hil (by omega)
      have q2 : ∀ K : Option vi_V → vi_W → Prop, vi_call GG (d + 69) 151 [.inr (.inr 33), .inl (i : Int), .inl 2] (Y, M, nn) K ↔ K (some (.inl (rL L i 2))) (Y, M, nn) := k151 i 2 hil (by omega)
      have q3 : ∀ K : Option vi_V → vi_W → Prop, vi_call GG (d + 69) 151 [.inr (.inr 33), .inl (i : Int), .inl 3] (Y, M, nn) K ↔ K (some (.inl (rL L i 3))) (Y, M, nn) := k151 i 3 hil (by omega)
      rw [jgN] at hq
      rw [s_206_10]
      by_cases he : (rwN f (lfS f lw n) (rL L i 0) (rL L i 1) (rL L i 2) : Int) = rL L i 3
      · rw [if_pos he] at hq
        have := ih (i + 1) (by omega) (some (.inl (rL L i 0))) (some (.inl (rwN f (lfS f lw n) (rL L i 0) (rL L i 1) (rL L i 2) : Int))) hq
        clear hs hV hb hQ ih k151
        simp (disch := omega) only [Option.toList_some, Option.toList_none, List.nil_append, List.cons_append, List.append_nil, true_and, and_true, not_true_eq_false, not_false_eq_true, true_implies, false_implies, implies_true, and_self, Int.reduceLT, Int.reduceLE, Int.reduceEq, Int.reduceNe, Int.reduceAdd, Int.reduceSub, Int.reduceMul, Int.reduceNeg, Int.reduceToNat, Int.toNat_natCast, ↓kk_ck, ↓kk_im, ↓kk_in, s_206_0, s_206_18, s_206_58, s_206_60, s_206_66, s_206_4, s_206_15, s_206_24, s_206_7, s_206_29, s_206_36, s_206_42, s_206_45, s_206_55, a1, a5, kr.1, c1, k149, q0, q1, q2, q3, k33, he, ne_eq, vi_inc]
        rw [he] at this
        exact this
      · rw [if_neg he] at hq
        clear hs hV hb hQ ih k151
        simp (disch := omega) only [Option.toList_some, Option.toList_none, List.nil_append, List.cons_append, List.append_nil, true_and, and_true, not_true_eq_false, not_false_eq_true, true_implies, false_implies, implies_true, and_self, Int.reduceLT, Int.reduceLE, Int.reduceEq, Int.reduceNe, Int.reduceAdd, Int.reduceSub, Int.reduceMul, Int.reduceNeg, Int.reduceToNat, Int.toNat_natCast, ↓kk_ck, ↓kk_im, ↓kk_in, s_206_0, s_206_18, s_206_58, s_206_60, s_206_66, s_206_4, s_206_15, s_206_24, s_206_7, s_206_29, s_206_36, s_206_42, s_206_45, s_206_55, a1, a5, kr.1, c1, k149, q0, q1, q2, q3, k33, he, ne_eq, vi_inc]
        exact hq
  have := loop L.length 0 (by omega) none none hQ
  clear loop hs hV hb hQ k151 k33
  simp (disch := omega) only [Option.toList_some, Option.toList_none, List.nil_append, List.cons_append, List.append_nil, true_and, and_true, not_true_eq_false, not_false_eq_true, true_implies, false_implies, implies_true, and_self, Int.reduceLT, Int.reduceLE, Int.reduceEq, Int.reduceNe, Int.reduceAdd, Int.reduceSub, Int.reduceMul, Int.reduceNeg, Int.reduceToNat, Int.toNat_natCast, ↓kk_ck, ↓kk_im, ↓kk_in, e_206, s_206_0, s_206_4, s_206_7, a1, a2, b1, b3]
  exact this
theorem p_206 (hW : jW sc ln t a CS lw n Y M nn) : jPair sc ln t (d + 70) 206 305 [] (Y, M, nn) := by
  refine jPair_q hW fun K hK => ?_
  obtain ⟨LH, LR, LS, c1, c2, c3, c4⟩ := hW.2.2.2.1
  have hB := c1.2.2.2.2.2.2.1.2.2.2.2.1
  have cR' := c1.2.2.1
  rw [k_206 hW.1.1 hW.1.2.1 c1.2.2.2.2.2.2.1 c4 c1.1.2.1 cR'.2.1]
  refine hK _ M hW fun K2 h2 => ?_
  refine k_305 hW.1.1 hW.2.2.2.2.1.1 cR'.2.1 cR'.1 (fun i hi => ?_) (by omega) fun M' hs hf => ?_
  · obtain ⟨r1, r2⟩ := cR'.2.2 i hi
    have e0 := r2 0 (by omega)
    rw [Nat.add_zero] at e0
    rw [e0, r2 1 (by omega), r2 2 (by omega)]
    rw [← hc_ib] at r1
    exact mIb_p.mp r1
  · have hl := see_l hs rfl
    rw [mFr_114 hf] at hl
    rw [jgN_m hB hl cR' LR.length 0 (by omega)]
    exact h2 M' (jW_x hW (mFx_of hf) hs)
end
