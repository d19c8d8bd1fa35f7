/-! Pairs: image, back. -/
theorem rDk_g {f g g' : Nat → Int} (h : rDk f g) (hp : ∀ k, k < 108 → g' k = g k) : rDk f g' := by
  intro a u v ha hu hv
  rw [hp _ (by omega)]
  exact h a u v ha hu hv
theorem rCt_g {f g g' : Nat → Int} (h : rCt f g) (hp : ∀ k, k < 12 → g' k = g k) : rCt f g' := by
  intro i hi
  rw [hp _ hi]
  exact h i hi
theorem rLw_l {a : Nat} {CS : Nat → List gCla} {f g gl gl' : Nat → Int} (h : rLw a CS f g gl) (hp : ∀ k, k < 6 → gl' k = gl k) : rLw a CS f g gl' := by
  obtain ⟨h1, h2, ⟨m, h3, h4, h5, h6, h7⟩, h8⟩ := h
  exact ⟨h1, h2, ⟨m, h3, h4, h5, h6, fun j hj => by rw [hp j (by omega)]; exact h7 j hj⟩, fun j hj => by rw [hp j hj]; exact h8 j hj⟩
theorem cHd_cp {M M' : vi_M} {h1 h2 a : Nat} {CS : Nat → List gCla} {f f' : Nat → Int} {LH LR LS : List (Nat → Int)} (hH : cHd M h2 f a CS LH LR LS) (hf : ∀ k, k < 5103 → f' k = f k) (e1 : M' (h1 + 1) 2 = (LH.length : Int)) (e2 : ∀ k, k < 6 * LH.length → M' (h1 + 2) k = M (h2 + 2) k) (e3 : M' (h1 + 3) 2 = (LR.length : Int)) (e4 : ∀ k, k < 6 * LR.length → M' (h1 + 4) k = M (h2 + 4) k) (e5 : M' (h1 + 5) 2 = (LS.length : Int)) (e6 : ∀ k, k < 6 * LS.length → M' (h1 + 6) k = M (h2 + 6) k) (e7 : ∀ k, k < 108 → M' (h1 + 7) k = M (h2 + 7) k) (e8 : ∀ k, k < 12 → M' (h1 + 8) k = M (h2 + 8) k) (e9 : ∀ k, k < 6 → M' (h1 + 9) k = M (h2 + 9) k) (e0 : ∀ k, 6 ≤ k → k < 12 → M' h1 k = M h2 k) : cHd M' h1 f' a CS LH LR LS := by
  obtain ⟨⟨o1, o2, o3⟩, cH, cR', cS, cD, cC, cZ, cL⟩ := hH
  exact ⟨⟨⟨e1, fun r j hr hj => by rw [e2 _ (by omega)]; exact o1.2 r j hr hj⟩, ⟨e3, fun r j hr hj => by rw [e4 _ (by omega)]; exact o2.2 r j hr hj⟩, ⟨e5, fun r j hr hj => by rw [e6 _ (by omega)]; exact o3.2 r j hr hj⟩⟩, rHs_c cH fun k hk => hf k (by omega), rRw_c cR' fun k hk => hf k (by omega), rSc_c cS fun k hk => hf k (by omega), rDk_c (rDk_g cD e7) fun k hk => hf k (by omega), rCt_c (rCt_g cC e8) fun k hk => hf k (by omega), rSz_c (rSz_g cZ fun k hk => e0 k (by omega) (by omega)) fun k hk => hf k (by omega), rLw_c (rLw_l (rLw_g cL (e0 6 (by omega) (by omega)) (e0 7 (by omega) (by omega))) e9) fun k hk => hf k hk.2⟩
theorem cHd_fc {M : vi_M} {h a : Nat} {CS : Nat → List gCla} {f f' : Nat → Int} {LH LR LS : List (Nat → Int)} (hH : cHd M h f a CS LH LR LS) (hf : ∀ k, k < 5103 → f' k = f k) : cHd M h f' a CS LH LR LS := cHd_cp hH hf hH.1.1.1 (fun _ _ => rfl) hH.1.2.1.1 (fun _ _ => rfl) hH.1.2.2.1 (fun _ _ => rfl) (fun _ _ => rfl) (fun _ _ => rfl) (fun _ _ => rfl) (fun _ _ _ => rfl)
theorem lws_of {Y : vi_Y} {M : vi_M} {a : Nat} {CS : Nat → List gCla} {f g gl : Nat → Int} (h : rLw a CS f g gl) (hL : jL Y M a CS) : (∀ j, j < 6 → (gl j).toNat = 0 ∨ Y.1 (gl j).toNat = 23) ∧ ∀ j, j < 6 → 0 ≤ gl j := by
  obtain ⟨-, -, -, h8⟩ := h
  refine ⟨fun j hj => ?_, fun j hj => ?_⟩
  · rcases h8 j hj with e | ⟨i, hi, e⟩
    · rw [e]; exact .inl rfl
    · obtain ⟨S, ⟨-, g1, -⟩, -⟩ := hL i hi
      rw [e, Int.toNat_natCast, show 153 + 5 * i = 151 + 5 * i + 2 by omega]
      exact .inr g1
  · rcases h8 j hj with e | ⟨i, hi, e⟩ <;> rw [e] <;> omega
section
variable {sc : Nat → Int} {ln t a n d : Nat} {CS : Nat → List gCla} {lw : Option (List gCla)} {Y : vi_Y} {M : vi_M} {nn : Nat × Nat} {K : Option vi_V → vi_W → Prop}
theorem jW_i (hW : jW sc ln t a CS lw n Y M nn) {M2 : vi_M} (hp : ∀ p, (p < 29 ∨ (30 ≤ p ∧ p < 40) ∨ (60 ≤ p ∧ p < 112) ∨ p = 113 ∨ p = 114 ∨ 117 ≤ p) → M2 p = M p) (h29 : M2 29 11 = M2 112 0) (h29' : M2 29 12 = M2 112 6) (hk : ∀ k, k = 10 ∨ k = 11 ∨ k = 30 ∨ k = 42 ∨ k = 62 → M2 112 k = M 112 k) (hv : M2 112 1 = M 112 1 + 1) (hI : jI M2 a CS) : jInv sc ln (t + 1) (Y, M2, nn) := by
  obtain ⟨h1, h2, ⟨b1, b2, b3⟩, ⟨LH, LR, LS, c1, c2, c3, c4⟩, ⟨m1, m2, m3, m4⟩, h6, ⟨s1, s2, s3, s4, s5, s6⟩, h8, h9, h10⟩ := hW
  have e114 := hp 114 (by omega)
  have hC : jC M2 a CS lw n := by
    refine ⟨LH, LR, LS, ?_, c2, ?_, ?_⟩
    · rw [e114]; exact cHd_c c1 fun p h1 h2 => hp p (by omega)
    · rw [e114, hp 39 (by omega)]; exact c3
    · rw [e114]; exact jV_c c4 fun p h1 h2 => hp p (by omega)
  refine ⟨a, CS, lw, n, ?_⟩
  show jW sc ln (t + 1) a CS lw n Y M2 nn
  refine ⟨jA_c h1 (fun p h => hp p (by omega)) (hp 117 (by omega)) (hp 138 (by omega)) (hp 139 (by omega)), jL_p h2 (fun p h => hp p (by omega)), ⟨b1, by omega, by omega⟩, hC, jM_n hC (by rw [hk 30 (by omega), hv]; omega) (by rw [hk 42 (by omega), hv]; omega), ?_, ?_, ?_, hI, ?_⟩
  · unfold jT
    rw [hp 73 (by omega), hp 118 (by omega), hp 74 (by omega), hk 10 (by omega), hk 11 (by omega)]
    exact h6
  · unfold jS
    rw [hp 111 (by omega), hp 113 (by omega), hv]
    exact ⟨h29, h29', s3, fun k k1 k2 => ⟨(s4 k k1 k2).1, by have := (s4 k k1 k2).2; omega⟩, by omega, by omega⟩
  · unfold jD
    rw [hp 77 (by omega), hp 79 (by omega), hp 150 (by omega), hk 62 (by omega)]
    exact h8
  · exact ⟨fun q hq => by rw [hp q (by unfold jCe at hq; omega)]; exact h10.1 q hq, by rw [hp 88 (by omega)]; exact h10.2⟩
theorem mIm_n {f g : Nat → Int} {o j k : Nat} (h : ¬ (o ≤ k ∧ k < o + j)) : mIm f g o j k = f k := if_neg h
theorem mIm_y {f g : Nat → Int} {o j k : Nat} (h : k < j) : mIm f g o j (o + k) = g k := by
  unfold mIm
  rw [if_pos (by omega), show o + k - o = k by omega]
theorem p_223_0 (hW : jW sc ln t a CS lw n Y M nn) (ht : t < 1000) : jPair sc ln t (d + 70) 223 239 [.inl 0] (Y, M, nn) := by
  have hY := hW.1.1
  have h9 := hW.1.2.1
  have hbd := jW_b hW ht
  obtain ⟨LH, LR, LS, c1, c2, c3, c4⟩ := hW.2.2.2.1
  obtain ⟨a1, a2, a3, a4, a5, a6, a7, a8, a9, a10, a11, a12⟩ := y_29 h9
  obtain ⟨b1, -⟩ := y_30 hY (by omega)
  obtain ⟨b2, -⟩ := y_40 hY (by omega)
  have hI := hW.2.2.2.2.2.2.2.2.1
  obtain ⟨i1, i2, i3, n1, n2, n3, i4, i5, i6⟩ := hI 0 (by omega)
  obtain ⟨hl1, hl2⟩ := lws_of c1.2.2.2.2.2.2.2 hW.2.1
  have k40 := fun {K : Option vi_V → vi_W → Prop} => k_40 (d := d + 65) (K := K) (n := nn) (kH_40 hY (by omega)) (kH_30 hY (by omega)) (by omega) c1.1.1.1 c1.1.2.1.1 c1.1.2.2.1 c1.2.1.2.1 c1.2.2.1.2.1 c1.2.2.2.1.2.1 i4 i5 i6 hl1 hl2
  simp only [Nat.add_assoc, Nat.reduceAdd] at k40
  obtain ⟨M1, hM1⟩ : ∃ M1, M1 = vi_ms (vi_rs (vi_rs (vi_rs (vi_rs (vi_rs (vi_rs (vi_rs (vi_rs (vi_rs (vi_rs M 41 (vi_u (M 41) 2 (LH.length : Int))) 42 (vi_m (6 * LH.length) (M 32) (M 42))) 43 (vi_u (M 43) 2 (LR.length : Int))) 44 (vi_m (6 * LR.length) (M 34) (M 44))) 45 (vi_u (M 45) 2 (LS.length : Int))) 46 (vi_m (6 * LS.length) (M 36) (M 46))) 47 (vi_m 108 (M 37) (M 47))) 48 (vi_m 12 (M 38) (M 48))) 49 (vi_m 6 (M 39) (M 49))) 40 (fun k => if 6 ≤ k ∧ k < 12 then M 30 k else M 40 k)) 40 12 1 := ⟨_, rfl⟩
  rw [← hM1] at k40
  rw [vi_ms_rs] at hM1
  have f1 : ∀ p, ¬ (40 ≤ p ∧ p < 40 + 10) → M1 p = M p := fun p hp => by
    rw [hM1, vi_rs_o (by omega), vi_rs_o (by omega), vi_rs_o (by omega), vi_rs_o (by omega), vi_rs_o (by omega), vi_rs_o (by omega), vi_rs_o (by omega), vi_rs_o (by omega), vi_rs_o (by omega), vi_rs_o (by omega), vi_rs_o (by omega)]
  have x1 : M1 41 = vi_u (M 41) 2 (LH.length : Int) := by rw [hM1]; simp (disch := omega) only [vi_rs_s, vi_rs_o]
  have x2 : M1 42 = vi_m (6 * LH.length) (M 32) (M 42) := by rw [hM1]; simp (disch := omega) only [vi_rs_s, vi_rs_o]
  have x3 : M1 43 = vi_u (M 43) 2 (LR.length : Int) := by rw [hM1]; simp (disch := omega) only [vi_rs_s, vi_rs_o]
  have x4 : M1 44 = vi_m (6 * LR.length) (M 34) (M 44) := by rw [hM1]; simp (disch := omega) only [vi_rs_s, vi_rs_o]
  have x5 : M1 45 = vi_u (M 45) 2 (LS.length : Int) := by rw [hM1]; simp (disch := omega) only [vi_rs_s, vi_rs_o]
  have x6 : M1 46 = vi_m (6 * LS.length) (M 36) (M 46) := by rw [hM1]; simp (disch := omega) only [vi_rs_s, vi_rs_o]
  have x7 : M1 47 = vi_m 108 (M 37) (M 47) := by rw [hM1]; simp (disch := omega) only [vi_rs_s, vi_rs_o]
  have x8 : M1 48 = vi_m 12 (M 38) (M 48) := by rw [hM1]; simp (disch := omega) only [vi_rs_s, vi_rs_o]
  have x9 : M1 49 = vi_m 6 (M 39) (M 49) := by rw [hM1]; simp (disch := omega) only [vi_rs_s, vi_rs_o]
  have x0 : M1 40 = vi_u (fun k => if 6 ≤ k ∧ k < 12 then M 30 k else M 40 k) 12 1 := by rw [hM1]; simp (disch := omega) only [vi_rs_s, vi_rs_o]
  clear hM1
  intro K hK
  have main : ∀ K : Option vi_V → vi_W → Prop, K (some (.inl 0)) (Y, vi_rs M1 29 (vi_u (M1 29) 11 0), nn) → vi_call GG (d + 70) 223 [.inr (.inr 29), .inl 0] (Y, M, nn) K := by
    intro K hK
    have k227 := fun {K : Option vi_V → vi_W → Prop} => @k_227 (d + 68) Y M1 nn K a1 0
    simp only [Nat.add_assoc, Nat.reduceAdd] at k227
    clear hW hbd c1 c3 c4 hI i1 i2 i3 i4 i5 i6 hl1 hl2 f1 x1 x2 x3 x4 x5 x6 x7 x8 x9 x0
    simp (disch := omega) only [Option.toList_some, Option.toList_none, List.nil_append, List.cons_append, List.append_nil, true_and, and_true, not_true_eq_false, not_false_eq_true, true_implies, false_implies, implies_true, and_self, Int.reduceLT, Int.reduceLE, Int.reduceEq, Int.reduceNe, Int.reduceAdd, Int.reduceSub, Int.reduceMul, Int.reduceNeg, Int.reduceToNat, Int.toNat_natCast, ↓kk_ck, ↓kk_im, ↓kk_in, e_223, s_223_0, s_223_4, s_223_9, s_223_15, s_223_14, s_223_20, s_223_24, s_223_27, s_223_32, e_230, s_230_0, s_230_4, s_230_11, s_230_15, s_230_8, a1, a2, a3, a4, b1, b2, k40, k227, ne_eq]
    exact hK
  have f3 : ∀ p, p ≠ 29 → ¬ (40 ≤ p ∧ p < 40 + 10) → vi_rs M1 29 (vi_u (M1 29) 11 0) p = M p := fun p p1 p2 => by rw [vi_rs_o p1]; exact f1 p p2
  have f4 : ∀ p, p ≠ 29 → vi_rs M1 29 (vi_u (M1 29) 11 0) p = M1 p := fun p p1 => vi_rs_o p1
  refine main K (hK _ _ (jP_c hW.1 (f3 1 (by omega) (by omega))) fun K2 hK2 => ?_)
  have e29 : M1 29 = M 29 := f1 29 (by omega)
  have k239 : vi_call GG (d + 70) 239 [.inr (.inr 112), .inl 0] (Y, vi_rs M1 29 (vi_u (M1 29) 11 0), nn) K2 ↔ _ := k_239 (i := 0) hY (by omega) (by rw [f3 112 (by omega) (by omega)]; exact hbd.2.2) (by omega)
  rw [k239]
  refine hK2 _ (jW_i hW (fun p hp => ?_) ?_ ?_ (fun k hk => ?_) ?_ ?_)
  · rw [vi_rs_o (by omega), vi_rs_o (by omega), vi_rs_o (by omega)]; exact f3 p (by omega) (by omega)
  · rw [vi_rs_o (by decide), vi_rs_o (by decide), vi_rs_o (by decide), vi_rs_s, vi_rs_s, vi_u_s, vi_u_o (by decide), vi_u_s]
  · rw [vi_rs_o (by decide), vi_rs_o (by decide), vi_rs_o (by decide), vi_rs_s, vi_rs_s, vi_u_o (by decide), vi_u_o (by decide), vi_u_o (by decide), f3 112 (by omega) (by omega), e29]
    exact hW.2.2.2.2.2.2.1.2.1
  · rw [vi_rs_s, vi_u_o (by omega), vi_u_o (by omega), f3 112 (by omega) (by omega)]
  · rw [vi_rs_s, vi_u_s, f3 112 (by omega) (by omega)]
  · have g115 : ∀ g g', vi_rs (vi_rs (vi_rs (vi_rs M1 29 (vi_u (M1 29) 11 0)) 115 g) 116 g') 112 (vi_u (vi_u (vi_rs M1 29 (vi_u (M1 29) 11 0) 112) 0 0) 1 (vi_rs M1 29 (vi_u (M1 29) 11 0) 112 1 + 1)) 115 = g := fun g g' => by rw [vi_rs_o (by decide), vi_rs_o (by decide), vi_rs_s]
    have g116 : ∀ g g', vi_rs (vi_rs (vi_rs (vi_rs M1 29 (vi_u (M1 29) 11 0)) 115 g) 116 g') 112 (vi_u (vi_u (vi_rs M1 29 (vi_u (M1 29) 11 0) 112) 0 0) 1 (vi_rs M1 29 (vi_u (M1 29) 11 0) 112 1 + 1)) 116 = g' := fun g g' => by rw [vi_rs_o (by decide), vi_rs_s]
    have gp : ∀ g g' p, p ≠ 112 → p ≠ 115 → p ≠ 116 → p ≠ 29 → vi_rs (vi_rs (vi_rs (vi_rs M1 29 (vi_u (M1 29) 11 0)) 115 g) 116 g') 112 (vi_u (vi_u (vi_rs M1 29 (vi_u (M1 29) 11 0) 112) 0 0) 1 (vi_rs M1 29 (vi_u (M1 29) 11 0) 112 1 + 1)) p = M1 p := fun g g' p p1 p2 p3 p4 => by rw [vi_rs_o p1, vi_rs_o p3, vi_rs_o p2, vi_rs_o p4]
    rw [f3 115 (by omega) (by omega), f3 116 (by omega) (by omega), f3 114 (by omega) (by omega)]
    generalize hM2 : vi_rs (vi_rs (vi_rs (vi_rs M1 29 (vi_u (M1 29) 11 0)) 115 (mIm (M 115) (M 114) (5103 * 0) 5103)) 116 (vi_u (M 116) 0 1)) 112 (vi_u (vi_u (vi_rs M1 29 (vi_u (M1 29) 11 0) 112) 0 0) 1 (vi_rs M1 29 (vi_u (M1 29) 11 0) 112 1 + 1)) = M2
    have q115 : M2 115 = mIm (M 115) (M 114) (5103 * 0) 5103 := by rw [← hM2]; exact g115 _ _
    have q116 : M2 116 = vi_u (M 116) 0 1 := by rw [← hM2]; exact g116 _ _
    have qp : ∀ p, p ≠ 112 → p ≠ 115 → p ≠ 116 → p ≠ 29 → M2 p = M1 p := fun p p1 p2 p3 p4 => by rw [← hM2]; exact gp _ _ p p1 p2 p3 p4
    clear hM2 g115 g116 gp k239 main hK hK2 k40
    intro k hk
    by_cases e : k = 0
    · subst e
      have q0 := qp 40 (by decide) (by decide) (by decide) (by decide)
      refine ⟨?_, ?_, fun _ => ⟨LH, LR, LS, ?_⟩, LH.length, LR.length, LS.length, ?_, ?_, ?_⟩
      · show M2 40 12 = M2 116 0
        rw [q0, x0, q116, vi_u_s, vi_u_s]
      · rw [q116, vi_u_s]; exact .inr rfl
      · refine cHd_cp (M := M) (h2 := 30) (f := M 114) c1 (fun j hj => ?_) ?_ (fun j hj => ?_) ?_ (fun j hj => ?_) ?_ (fun j hj => ?_) (fun j hj => ?_) (fun j hj => ?_) (fun j hj => ?_) (fun j j1 j2 => ?_)
        · rw [q115]; exact mIm_y hj
        · show M2 41 2 = _
          rw [qp 41 (by decide) (by decide) (by decide) (by decide), x1, vi_u_s]
        · show M2 42 j = _
          rw [qp 42 (by decide) (by decide) (by decide) (by decide), x2]; exact vi_m_lt hj
        · show M2 43 2 = _
          rw [qp 43 (by decide) (by decide) (by decide) (by decide), x3, vi_u_s]
        · show M2 44 j = _
          rw [qp 44 (by decide) (by decide) (by decide) (by decide), x4]; exact vi_m_lt hj
        · show M2 45 2 = _
          rw [qp 45 (by decide) (by decide) (by decide) (by decide), x5, vi_u_s]
        · show M2 46 j = _
          rw [qp 46 (by decide) (by decide) (by decide) (by decide), x6]; exact vi_m_lt hj
        · show M2 47 j = _
          rw [qp 47 (by decide) (by decide) (by decide) (by decide), x7]; exact vi_m_lt hj
        · show M2 48 j = _
          rw [qp 48 (by decide) (by decide) (by decide) (by decide), x8]; exact vi_m_lt hj
        · show M2 49 j = _
          rw [qp 49 (by decide) (by decide) (by decide) (by decide), x9]; exact vi_m_lt hj
        · show M2 40 j = _
          rw [q0, x0, vi_u_o (by omega), if_pos ⟨j1, j2⟩]
      · show M2 41 2 = _
        rw [qp 41 (by decide) (by decide) (by decide) (by decide), x1, vi_u_s]
      · show M2 43 2 = _
        rw [qp 43 (by decide) (by decide) (by decide) (by decide), x3, vi_u_s]
      · show M2 45 2 = _
        rw [qp 45 (by decide) (by decide) (by decide) (by decide), x5, vi_u_s]
    · obtain rfl : k = 1 := by omega
      have qq : ∀ p, 50 ≤ p → p < 50 + 10 → M2 p = M p := fun p p1 p2 => (qp p (by omega) (by omega) (by omega) (by omega)).trans (f1 p (by omega))
      obtain ⟨z1, z2, z3, z4⟩ := hI 1 (by omega)
      rw [qq (40 + 10 * 1) (by omega) (by omega), qq (40 + 10 * 1 + 1) (by omega) (by omega), qq (40 + 10 * 1 + 3) (by omega) (by omega), qq (40 + 10 * 1 + 5) (by omega) (by omega), q116, vi_u_o (by decide), q115]
      refine ⟨z1, z2, fun z => ?_, z4⟩
      obtain ⟨LH', LR', LS', zH⟩ := z3 z
      refine ⟨LH', LR', LS', cHd_fc (cHd_c zH fun p p1 p2 => qq p (by omega) (by omega)) fun j hj => ?_⟩
      exact mIm_n (by omega)
theorem p_223_1 (hW : jW sc ln t a CS lw n Y M nn) (ht : t < 1000) : jPair sc ln t (d + 70) 223 239 [.inl 1] (Y, M, nn) := by
  have hY := hW.1.1
  have h9 := hW.1.2.1
  have hbd := jW_b hW ht
  obtain ⟨LH, LR, LS, c1, c2, c3, c4⟩ := hW.2.2.2.1
  obtain ⟨a1, a2, a3, a4, a5, a6, a7, a8, a9, a10, a11, a12⟩ := y_29 h9
  obtain ⟨b1, -⟩ := y_30 hY (by omega)
  obtain ⟨b2, -⟩ := y_50 hY (by omega)
  have hI := hW.2.2.2.2.2.2.2.2.1
  obtain ⟨i1, i2, i3, n1, n2, n3, i4, i5, i6⟩ := hI 1 (by omega)
  obtain ⟨hl1, hl2⟩ := lws_of c1.2.2.2.2.2.2.2 hW.2.1
  have k40 := fun {K : Option vi_V → vi_W → Prop} => k_40 (d := d + 65) (K := K) (n := nn) (kH_50 hY (by omega)) (kH_30 hY (by omega)) (by omega) c1.1.1.1 c1.1.2.1.1 c1.1.2.2.1 c1.2.1.2.1 c1.2.2.1.2.1 c1.2.2.2.1.2.1 i4 i5 i6 hl1 hl2
  simp only [Nat.add_assoc, Nat.reduceAdd] at k40
  obtain ⟨M1, hM1⟩ : ∃ M1, M1 = vi_ms (vi_rs (vi_rs (vi_rs (vi_rs (vi_rs (vi_rs (vi_rs (vi_rs (vi_rs (vi_rs M 51 (vi_u (M 51) 2 (LH.length : Int))) 52 (vi_m (6 * LH.length) (M 32) (M 52))) 53 (vi_u (M 53) 2 (LR.length : Int))) 54 (vi_m (6 * LR.length) (M 34) (M 54))) 55 (vi_u (M 55) 2 (LS.length : Int))) 56 (vi_m (6 * LS.length) (M 36) (M 56))) 57 (vi_m 108 (M 37) (M 57))) 58 (vi_m 12 (M 38) (M 58))) 59 (vi_m 6 (M 39) (M 59))) 50 (fun k => if 6 ≤ k ∧ k < 12 then M 30 k else M 50 k)) 50 12 1 := ⟨_, rfl⟩
  rw [← hM1] at k40
  rw [vi_ms_rs] at hM1
  have f1 : ∀ p, ¬ (50 ≤ p ∧ p < 50 + 10) → M1 p = M p := fun p hp => by
    rw [hM1, vi_rs_o (by omega), vi_rs_o (by omega), vi_rs_o (by omega), vi_rs_o (by omega), vi_rs_o (by omega), vi_rs_o (by omega), vi_rs_o (by omega), vi_rs_o (by omega), vi_rs_o (by omega), vi_rs_o (by omega), vi_rs_o (by omega)]
  have x1 : M1 51 = vi_u (M 51) 2 (LH.length : Int) := by rw [hM1]; simp (disch := omega) only [vi_rs_s, vi_rs_o]
  have x2 : M1 52 = vi_m (6 * LH.length) (M 32) (M 52) := by rw [hM1]; simp (disch := omega) only [vi_rs_s, vi_rs_o]
  have x3 : M1 53 = vi_u (M 53) 2 (LR.length : Int) := by rw [hM1]; simp (disch := omega) only [vi_rs_s, vi_rs_o]
  have x4 : M1 54 = vi_m (6 * LR.length) (M 34) (M 54) := by rw [hM1]; simp (disch := omega) only [vi_rs_s, vi_rs_o]
  have x5 : M1 55 = vi_u (M 55) 2 (LS.length : Int) := by rw [hM1]; simp (disch := omega) only [vi_rs_s, vi_rs_o]
  have x6 : M1 56 = vi_m (6 * LS.length) (M 36) (M 56) := by rw [hM1]; simp (disch := omega) only [vi_rs_s, vi_rs_o]
  have x7 : M1 57 = vi_m 108 (M 37) (M 57) := by rw [hM1]; simp (disch := omega) only [vi_rs_s, vi_rs_o]
  have x8 : M1 58 = vi_m 12 (M 38) (M 58) := by rw [hM1]; simp (disch := omega) only [vi_rs_s, vi_rs_o]
  have x9 : M1 59 = vi_m 6 (M 39) (M 59) := by rw [hM1]; simp (disch := omega) only [vi_rs_s, vi_rs_o]
  have x0 : M1 50 = vi_u (fun k => if 6 ≤ k ∧ k < 12 then M 30 k else M 50 k) 12 1 := by rw [hM1]; simp (disch := omega) only [vi_rs_s, vi_rs_o]
  clear hM1
  intro K hK
  have main : ∀ K : Option vi_V → vi_W → Prop, K (some (.inl 0)) (Y, vi_rs M1 29 (vi_u (M1 29) 11 0), nn) → vi_call GG (d + 70) 223 [.inr (.inr 29), .inl 1] (Y, M, nn) K := by
    intro K hK
    have k227 := fun {K : Option vi_V → vi_W → Prop} => @k_227 (d + 68) Y M1 nn K a1 0
    simp only [Nat.add_assoc, Nat.reduceAdd] at k227
    clear hW hbd c1 c3 c4 hI i1 i2 i3 i4 i5 i6 hl1 hl2 f1 x1 x2 x3 x4 x5 x6 x7 x8 x9 x0
    simp (disch := omega) only [Option.toList_some, Option.toList_none, List.nil_append, List.cons_append, List.append_nil, true_and, and_true, not_true_eq_false, not_false_eq_true, true_implies, false_implies, implies_true, and_self, Int.reduceLT, Int.reduceLE, Int.reduceEq, Int.reduceNe, Int.reduceAdd, Int.reduceSub, Int.reduceMul, Int.reduceNeg, Int.reduceToNat, Int.toNat_natCast, ↓kk_ck, ↓kk_im, ↓kk_in, e_223, s_223_0, s_223_4, s_223_9, s_223_15, s_223_14, s_223_20, s_223_24, s_223_27, s_223_32, e_230, s_230_0, s_230_4, s_230_11, s_230_15, s_230_8, a1, a2, a3, a4, b1, b2, k40, k227, ne_eq]
    exact hK
  have f3 : ∀ p, p ≠ 29 → ¬ (50 ≤ p ∧ p < 50 + 10) → vi_rs M1 29 (vi_u (M1 29) 11 0) p = M p := fun p p1 p2 => by rw [vi_rs_o p1]; exact f1 p p2
  have f4 : ∀ p, p ≠ 29 → vi_rs M1 29 (vi_u (M1 29) 11 0) p = M1 p := fun p p1 => vi_rs_o p1
  refine main K (hK _ _ (jP_c hW.1 (f3 1 (by omega) (by omega))) fun K2 hK2 => ?_)
  have e29 : M1 29 = M 29 := f1 29 (by omega)
  have k239 : vi_call GG (d + 70) 239 [.inr (.inr 112), .inl 1] (Y, vi_rs M1 29 (vi_u (M1 29) 11 0), nn) K2 ↔ _ := k_239 (i := 1) hY (by omega) (by rw [f3 112 (by omega) (by omega)]; exact hbd.2.2) (by omega)
  rw [k239]
  refine hK2 _ (jW_i hW (fun p hp => ?_) ?_ ?_ (fun k hk => ?_) ?_ ?_)
  · rw [vi_rs_o (by omega), vi_rs_o (by omega), vi_rs_o (by omega)]; exact f3 p (by omega) (by omega)
  · rw [vi_rs_o (by decide), vi_rs_o (by decide), vi_rs_o (by decide), vi_rs_s, vi_rs_s, vi_u_s, vi_u_o (by decide), vi_u_s]
  · rw [vi_rs_o (by decide), vi_rs_o (by decide), vi_rs_o (by decide), vi_rs_s, vi_rs_s, vi_u_o (by decide), vi_u_o (by decide), vi_u_o (by decide), f3 112 (by omega) (by omega), e29]
    exact hW.2.2.2.2.2.2.1.2.1
  · rw [vi_rs_s, vi_u_o (by omega), vi_u_o (by omega), f3 112 (by omega) (by omega)]
  · rw [vi_rs_s, vi_u_s, f3 112 (by omega) (by omega)]
  · have g115 : ∀ g g', vi_rs (vi_rs (vi_rs (vi_rs M1 29 (vi_u (M1 29) 11 0)) 115 g) 116 g') 112 (vi_u (vi_u (vi_rs M1 29 (vi_u (M1 29) 11 0) 112) 0 0) 1 (vi_rs M1 29 (vi_u (M1 29) 11 0) 112 1 + 1)) 115 = g := fun g g' => by rw [vi_rs_o (by decide), vi_rs_o (by decide), vi_rs_s]
    have g116 : ∀ g g', vi_rs (vi_rs (vi_rs (vi_rs M1 29 (vi_u (M1 29) 11 0)) 115 g) 116 g') 112 (vi_u (vi_u (vi_rs M1 29 (vi_u (M1 29) 11 0) 112) 0 0) 1 (vi_rs M1 29 (vi_u (M1 29) 11 0) 112 1 + 1)) 116 = g' := fun g g' => by rw [vi_rs_o (by decide), vi_rs_s]
    have gp : ∀ g g' p, p ≠ 112 → p ≠ 115 → p ≠ 116 → p ≠ 29 → vi_rs (vi_rs (vi_rs (vi_rs M1 29 (vi_u (M1 29) 11 0)) 115 g) 116 g') 112 (vi_u (vi_u (vi_rs M1 29 (vi_u (M1 29) 11 0) 112) 0 0) 1 (vi_rs M1 29 (vi_u (M1 29) 11 0) 112 1 + 1)) p = M1 p := fun g g' p p1 p2 p3 p4 => by rw [vi_rs_o p1, vi_rs_o p3, vi_rs_o p2, vi_rs_o p4]
    rw [f3 115 (by omega) (by omega), f3 116 (by omega) (by omega), f3 114 (by omega) (by omega)]
    generalize hM2 : vi_rs (vi_rs (vi_rs (vi_rs M1 29 (vi_u (M1 29) 11 0)) 115 (mIm (M 115) (M 114) (5103 * 1) 5103)) 116 (vi_u (M 116) 1 1)) 112 (vi_u (vi_u (vi_rs M1 29 (vi_u (M1 29) 11 0) 112) 0 0) 1 (vi_rs M1 29 (vi_u (M1 29) 11 0) 112 1 + 1)) = M2
    have q115 : M2 115 = mIm (M 115) (M 114) (5103 * 1) 5103 := by rw [← hM2]; exact g115 _ _
    have q116 : M2 116 = vi_u (M 116) 1 1 := by rw [← hM2]; exact g116 _ _
    have qp : ∀ p, p ≠ 112 → p ≠ 115 → p ≠ 116 → p ≠ 29 → M2 p = M1 p := fun p p1 p2 p3 p4 => by rw [← hM2]; exact gp _ _ p p1 p2 p3 p4
    clear hM2 g115 g116 gp k239 main hK hK2 k40
    intro k hk
    by_cases e : k = 1
    · subst e
      have q0 := qp 50 (by decide) (by decide) (by decide) (by decide)
      refine ⟨?_, ?_, fun _ => ⟨LH, LR, LS, ?_⟩, LH.length, LR.length, LS.length, ?_, ?_, ?_⟩
      · show M2 50 12 = M2 116 1
        rw [q0, x0, q116, vi_u_s, vi_u_s]
      · rw [q116, vi_u_s]; exact .inr rfl
      · refine cHd_cp (M := M) (h2 := 30) (f := M 114) c1 (fun j hj => ?_) ?_ (fun j hj => ?_) ?_ (fun j hj => ?_) ?_ (fun j hj => ?_) (fun j hj => ?_) (fun j hj => ?_) (fun j hj => ?_) (fun j j1 j2 => ?_)
        · rw [q115]; exact mIm_y hj
        · show M2 51 2 = _
          rw [qp 51 (by decide) (by decide) (by decide) (by decide), x1, vi_u_s]
        · show M2 52 j = _
          rw [qp 52 (by decide) (by decide) (by decide) (by decide), x2]; exact vi_m_lt hj
        · show M2 53 2 = _
          rw [qp 53 (by decide) (by decide) (by decide) (by decide), x3, vi_u_s]
        · show M2 54 j = _
          rw [qp 54 (by decide) (by decide) (by decide) (by decide), x4]; exact vi_m_lt hj
        · show M2 55 2 = _
          rw [qp 55 (by decide) (by decide) (by decide) (by decide), x5, vi_u_s]
        · show M2 56 j = _
          rw [qp 56 (by decide) (by decide) (by decide) (by decide), x6]; exact vi_m_lt hj
        · show M2 57 j = _
          rw [qp 57 (by decide) (by decide) (by decide) (by decide), x7]; exact vi_m_lt hj
        · show M2 58 j = _
          rw [qp 58 (by decide) (by decide) (by decide) (by decide), x8]; exact vi_m_lt hj
        · show M2 59 j = _
          rw [qp 59 (by decide) (by decide) (by decide) (by decide), x9]; exact vi_m_lt hj
        · show M2 50 j = _
          rw [q0, x0, vi_u_o (by omega), if_pos ⟨j1, j2⟩]
      · show M2 51 2 = _
        rw [qp 51 (by decide) (by decide) (by decide) (by decide), x1, vi_u_s]
      · show M2 53 2 = _
        rw [qp 53 (by decide) (by decide) (by decide) (by decide), x3, vi_u_s]
      · show M2 55 2 = _
        rw [qp 55 (by decide) (by decide) (by decide) (by decide), x5, vi_u_s]
    · obtain rfl : k = 0 := by omega
      have qq : ∀ p, 40 ≤ p → p < 40 + 10 → M2 p = M p := fun p p1 p2 => (qp p (by omega) (by omega) (by omega) (by omega)).trans (f1 p (by omega))
      obtain ⟨z1, z2, z3, z4⟩ := hI 0 (by omega)
      rw [qq (40 + 10 * 0) (by omega) (by omega), qq (40 + 10 * 0 + 1) (by omega) (by omega), qq (40 + 10 * 0 + 3) (by omega) (by omega), qq (40 + 10 * 0 + 5) (by omega) (by omega), q116, vi_u_o (by decide), q115]
      refine ⟨z1, z2, fun z => ?_, z4⟩
      obtain ⟨LH', LR', LS', zH⟩ := z3 z
      refine ⟨LH', LR', LS', cHd_fc (cHd_c zH fun p p1 p2 => qq p (by omega) (by omega)) fun j hj => ?_⟩
      exact mIm_n (by omega)
theorem p_224_0 (hW : jW sc ln t a CS lw n Y M nn) (ht : t < 1000) : jPair sc ln t (d + 70) 224 240 [.inl 0] (Y, M, nn) := by
  have hY := hW.1.1
  have h9 := hW.1.2.1
  have hbd := jW_b hW ht
  obtain ⟨LH0, LR0, LS0, c1, c2, c3, c4⟩ := hW.2.2.2.1
  obtain ⟨a1, a2, a3, a4, a5, a6, a7, a8, a9, a10, a11, a12⟩ := y_29 h9
  obtain ⟨b1, -⟩ := y_30 hY (by omega)
  obtain ⟨b2, -⟩ := y_40 hY (by omega)
  obtain ⟨z1, -⟩ := y_60 hY (by omega)
  have hI := hW.2.2.2.2.2.2.2.2.1
  obtain ⟨i1, i2, i3, n1, n2, n3, i4, i5, i6⟩ := hI 0 (by omega)
  have i1' : M 40 12 = M 116 0 := i1
  rcases i2 with i2 | i2
  · have k228b := fun {K : Option vi_V → vi_W → Prop} => @k_228_2 (d + 68) Y M nn K hY h9 (hbd.1 1 (by omega))
    simp only [Nat.add_assoc, Nat.reduceAdd] at k228b
    refine jPair_f (r := -2) hW ht (.inr (.inl ⟨rfl, rfl⟩)) (fun K hK => ?_) (fun M1 f hB1 hj K hK => ?_)
    · rw [i2] at i1'
      clear hW hbd c1 c3 c4 hI i1 i2 i3 i4 i5 i6
      simp (disch := omega) only [Option.toList_some, Option.toList_none, List.nil_append, List.cons_append, List.append_nil, true_and, and_true, not_true_eq_false, not_false_eq_true, true_implies, false_implies, implies_true, and_self, Int.reduceLT, Int.reduceLE, Int.reduceEq, Int.reduceNe, Int.reduceAdd, Int.reduceSub, Int.reduceMul, Int.reduceNeg, Int.reduceToNat, Int.toNat_natCast, ↓kk_ck, ↓kk_im, ↓kk_in, e_224, s_224_0, s_224_4, s_224_9, s_224_15, s_224_26, s_224_33, s_224_14, s_224_20, s_224_32, s_224_37, s_224_23, s_224_42, s_224_45, s_224_49, s_224_52, s_224_57, e_230, s_230_0, s_230_4, s_230_11, s_230_15, s_230_8, e_41, s_41_0, s_41_4, a1, a2, a3, a4, b1, b2, i1', k228b, ne_eq]
      exact hK
    · have := @k_240x (d + 70) K Y M1 nn hY 0 (by omega) (by rw [f 116 (by decide) (by decide)]; exact i2) hj (by omega)
      exact this.mpr hK
  · obtain ⟨LH, LR, LS, cH⟩ := i3 i2
    obtain ⟨hl1, hl2⟩ := lws_of cH.2.2.2.2.2.2.2 hW.2.1
    have k42 := fun {K : Option vi_V → vi_W → Prop} => k_42 (d := d + 66) (K := K) (n := nn) (kH_30 hY (by omega)) (kH_40 hY (by omega)) (by omega) cH.1.1.1 cH.1.2.1.1 cH.1.2.2.1 cH.2.1.2.1 cH.2.2.1.2.1 cH.2.2.2.1.2.1 c1.1.1.1 c1.1.2.1.1 c1.1.2.2.1 hl1 hl2
    simp only [Nat.add_assoc, Nat.reduceAdd] at k42
    obtain ⟨M1, hM1⟩ : ∃ M1, M1 = vi_rs (vi_rs (vi_rs (vi_rs (vi_rs (vi_rs (vi_rs (vi_rs (vi_rs (vi_rs M 31 (vi_u (M 31) 2 (LH.length : Int))) 32 (vi_m (6 * LH.length) (M 42) (M 32))) 33 (vi_u (M 33) 2 (LR.length : Int))) 34 (vi_m (6 * LR.length) (M 44) (M 34))) 35 (vi_u (M 35) 2 (LS.length : Int))) 36 (vi_m (6 * LS.length) (M 46) (M 36))) 37 (vi_m 108 (M 47) (M 37))) 38 (vi_m 12 (M 48) (M 38))) 39 (vi_m 6 (M 49) (M 39))) 30 (fun k => if 6 ≤ k ∧ k < 12 then M 40 k else M 30 k) := ⟨_, rfl⟩
    rw [← hM1] at k42
    have f1 : ∀ p, ¬ (30 ≤ p ∧ p < 40) → M1 p = M p := fun p hp => by
      rw [hM1, vi_rs_o (by omega), vi_rs_o (by omega), vi_rs_o (by omega), vi_rs_o (by omega), vi_rs_o (by omega), vi_rs_o (by omega), vi_rs_o (by omega), vi_rs_o (by omega), vi_rs_o (by omega), vi_rs_o (by omega)]
    have x1 : M1 31 = vi_u (M 31) 2 (LH.length : Int) := by rw [hM1]; simp (disch := omega) only [vi_rs_s, vi_rs_o]
    have x2 : M1 32 = vi_m (6 * LH.length) (M 42) (M 32) := by rw [hM1]; simp (disch := omega) only [vi_rs_s, vi_rs_o]
    have x3 : M1 33 = vi_u (M 33) 2 (LR.length : Int) := by rw [hM1]; simp (disch := omega) only [vi_rs_s, vi_rs_o]
    have x4 : M1 34 = vi_m (6 * LR.length) (M 44) (M 34) := by rw [hM1]; simp (disch := omega) only [vi_rs_s, vi_rs_o]
    have x5 : M1 35 = vi_u (M 35) 2 (LS.length : Int) := by rw [hM1]; simp (disch := omega) only [vi_rs_s, vi_rs_o]
    have x6 : M1 36 = vi_m (6 * LS.length) (M 46) (M 36) := by rw [hM1]; simp (disch := omega) only [vi_rs_s, vi_rs_o]
    have x7 : M1 37 = vi_m 108 (M 47) (M 37) := by rw [hM1]; simp (disch := omega) only [vi_rs_s, vi_rs_o]
    have x8 : M1 38 = vi_m 12 (M 48) (M 38) := by rw [hM1]; simp (disch := omega) only [vi_rs_s, vi_rs_o]
    have x9 : M1 39 = vi_m 6 (M 49) (M 39) := by rw [hM1]; simp (disch := omega) only [vi_rs_s, vi_rs_o]
    have x0 : M1 30 = (fun k => if 6 ≤ k ∧ k < 12 then M 40 k else M 30 k) := by rw [hM1]; simp (disch := omega) only [vi_rs_s, vi_rs_o]
    clear hM1
    have hf : ∀ k, k < 5103 → mBk (M 114) (M 115) (5103 * 0) 5103 k = M 115 (5103 * 0 + k) := fun k hk => if_pos hk
    have hH1 : cHd M1 30 (mBk (M 114) (M 115) (5103 * 0) 5103) a CS LH LR LS := by
      refine cHd_cp (h2 := 40 + 10 * 0) cH hf ?_ (fun j hj => ?_) ?_ (fun j hj => ?_) ?_ (fun j hj => ?_) (fun j hj => ?_) (fun j hj => ?_) (fun j hj => ?_) (fun j j1 j2 => ?_)
      · show M1 31 2 = _
        rw [x1, vi_u_s]
      · show M1 32 j = _
        rw [x2]; exact vi_m_lt hj
      · show M1 33 2 = _
        rw [x3, vi_u_s]
      · show M1 34 j = _
        rw [x4]; exact vi_m_lt hj
      · show M1 35 2 = _
        rw [x5, vi_u_s]
      · show M1 36 j = _
        rw [x6]; exact vi_m_lt hj
      · show M1 37 j = _
        rw [x7]; exact vi_m_lt hj
      · show M1 38 j = _
        rw [x8]; exact vi_m_lt hj
      · show M1 39 j = _
        rw [x9]; exact vi_m_lt hj
      · show M1 30 j = _
        rw [x0]; exact if_pos ⟨j1, j2⟩
    obtain ⟨lw', hlw⟩ := fLw_ex hH1.2.2.2.2.2.2.2
    refine jPair_r (M1 := M1) (x := .inl 0) (lw' := lw') hW ht f1 hH1 hlw (fun M' f1' k25 K hK => ?_) (fun M2 f2 hB2 hv K hK => ?_)
    · have k227 := fun {K : Option vi_V → vi_W → Prop} => @k_227 (d + 68) Y M' nn K a1 0
      simp only [Nat.add_assoc, Nat.reduceAdd] at k227
      rw [i2] at i1'
      clear hW hbd c1 c3 c4 hI i1 i2 i3 i4 i5 i6 cH hl1 hl2 f1 f1' x1 x2 x3 x4 x5 x6 x7 x8 x9 x0 hf hH1 hlw
      simp (disch := omega) only [Option.toList_some, Option.toList_none, List.nil_append, List.cons_append, List.append_nil, true_and, and_true, not_true_eq_false, not_false_eq_true, true_implies, false_implies, implies_true, and_self, Int.reduceLT, Int.reduceLE, Int.reduceEq, Int.reduceNe, Int.reduceAdd, Int.reduceSub, Int.reduceMul, Int.reduceNeg, Int.reduceToNat, Int.toNat_natCast, ↓kk_ck, ↓kk_im, ↓kk_in, e_224, s_224_0, s_224_4, s_224_9, s_224_15, s_224_26, s_224_33, s_224_14, s_224_20, s_224_32, s_224_37, s_224_23, s_224_42, s_224_45, s_224_49, s_224_52, s_224_57, e_230, s_230_0, s_230_4, s_230_11, s_230_15, s_230_8, e_41, s_41_0, s_41_4, a1, a2, a3, a4, a5, b1, b2, z1, i1', k42, k25, k227, ne_eq]
      exact hK
    · have := @k_240 (d + 70) K Y M2 nn hY 0 (by omega) (by rw [f2 116 (by omega) (by omega), i2]; decide) hv (by omega)
      rw [f2 114 (by omega) (by omega), f2 115 (by omega) (by omega)] at this
      exact this.mpr hK
theorem p_224_1 (hW : jW sc ln t a CS lw n Y M nn) (ht : t < 1000) : jPair sc ln t (d + 70) 224 240 [.inl 1] (Y, M, nn) := by
  have hY := hW.1.1
  have h9 := hW.1.2.1
  have hbd := jW_b hW ht
  obtain ⟨LH0, LR0, LS0, c1, c2, c3, c4⟩ := hW.2.2.2.1
  obtain ⟨a1, a2, a3, a4, a5, a6, a7, a8, a9, a10, a11, a12⟩ := y_29 h9
  obtain ⟨b1, -⟩ := y_30 hY (by omega)
  obtain ⟨b2, -⟩ := y_50 hY (by omega)
  obtain ⟨z1, -⟩ := y_60 hY (by omega)
  have hI := hW.2.2.2.2.2.2.2.2.1
  obtain ⟨i1, i2, i3, n1, n2, n3, i4, i5, i6⟩ := hI 1 (by omega)
  have i1' : M 50 12 = M 116 1 := i1
  rcases i2 with i2 | i2
  · have k228b := fun {K : Option vi_V → vi_W → Prop} => @k_228_2 (d + 68) Y M nn K hY h9 (hbd.1 1 (by omega))
    simp only [Nat.add_assoc, Nat.reduceAdd] at k228b
    refine jPair_f (r := -2) hW ht (.inr (.inl ⟨rfl, rfl⟩)) (fun K hK => ?_) (fun M1 f hB1 hj K hK => ?_)
    · rw [i2] at i1'
      clear hW hbd c1 c3 c4 hI i1 i2 i3 i4 i5 i6
      simp (disch := omega) only [Option.toList_some, Option.toList_none, List.nil_append, List.cons_append, List.append_nil, true_and, and_true, not_true_eq_false, not_false_eq_true, true_implies, false_implies, implies_true, and_self, Int.reduceLT, Int.reduceLE, Int.reduceEq, Int.reduceNe, Int.reduceAdd, Int.reduceSub, Int.reduceMul, Int.reduceNeg, Int.reduceToNat, Int.toNat_natCast, ↓kk_ck, ↓kk_im, ↓kk_in, e_224, s_224_0, s_224_4, s_224_9, s_224_15, s_224_26, s_224_33, s_224_14, s_224_20, s_224_32, s_224_37, s_224_23, s_224_42, s_224_45, s_224_49, s_224_52, s_224_57, e_230, s_230_0, s_230_4, s_230_11, s_230_15, s_230_8, e_41, s_41_0, s_41_4, a1, a2, a3, a4, b1, b2, i1', k228b, ne_eq]
      exact hK
    · have := @k_240x (d + 70) K Y M1 nn hY 1 (by omega) (by rw [f 116 (by decide) (by decide)]; exact i2) hj (by omega)
      exact this.mpr hK
  · obtain ⟨LH, LR, LS, cH⟩ := i3 i2
    obtain ⟨hl1, hl2⟩ := lws_of cH.2.2.2.2.2.2.2 hW.2.1
    have k42 := fun {K : Option vi_V → vi_W → Prop} => k_42 (d := d + 66) (K := K) (n := nn) (kH_30 hY (by omega)) (kH_50 hY (by omega)) (by omega) cH.1.1.1 cH.1.2.1.1 cH.1.2.2.1 cH.2.1.2.1 cH.2.2.1.2.1 cH.2.2.2.1.2.1 c1.1.1.1 c1.1.2.1.1 c1.1.2.2.1 hl1 hl2
    simp only [Nat.add_assoc, Nat.reduceAdd] at k42
    obtain ⟨M1, hM1⟩ : ∃ M1, M1 = vi_rs (vi_rs (vi_rs (vi_rs (vi_rs (vi_rs (vi_rs (vi_rs (vi_rs (vi_rs M 31 (vi_u (M 31) 2 (LH.length : Int))) 32 (vi_m (6 * LH.length) (M 52) (M 32))) 33 (vi_u (M 33) 2 (LR.length : Int))) 34 (vi_m (6 * LR.length) (M 54) (M 34))) 35 (vi_u (M 35) 2 (LS.length : Int))) 36 (vi_m (6 * LS.length) (M 56) (M 36))) 37 (vi_m 108 (M 57) (M 37))) 38 (vi_m 12 (M 58) (M 38))) 39 (vi_m 6 (M 59) (M 39))) 30 (fun k => if 6 ≤ k ∧ k < 12 then M 50 k else M 30 k) := ⟨_, rfl⟩
    rw [← hM1] at k42
    have f1 : ∀ p, ¬ (30 ≤ p ∧ p < 40) → M1 p = M p := fun p hp => by
      rw [hM1, vi_rs_o (by omega), vi_rs_o (by omega), vi_rs_o (by omega), vi_rs_o (by omega), vi_rs_o (by omega), vi_rs_o (by omega), vi_rs_o (by omega), vi_rs_o (by omega), vi_rs_o (by omega), vi_rs_o (by omega)]
    have x1 : M1 31 = vi_u (M 31) 2 (LH.length : Int) := by rw [hM1]; simp (disch := omega) only [vi_rs_s, vi_rs_o]
    have x2 : M1 32 = vi_m (6 * LH.length) (M 52) (M 32) := by rw [hM1]; simp (disch := omega) only [vi_rs_s, vi_rs_o]
    have x3 : M1 33 = vi_u (M 33) 2 (LR.length : Int) := by rw [hM1]; simp (disch := omega) only [vi_rs_s, vi_rs_o]
    have x4 : M1 34 = vi_m (6 * LR.length) (M 54) (M 34) := by rw [hM1]; simp (disch := omega) only [vi_rs_s, vi_rs_o]
    have x5 : M1 35 = vi_u (M 35) 2 (LS.length : Int) := by rw [hM1]; simp (disch := omega) only [vi_rs_s, vi_rs_o]
    have x6 : M1 36 = vi_m (6 * LS.length) (M 56) (M 36) := by rw [hM1]; simp (disch := omega) only [vi_rs_s, vi_rs_o]
    have x7 : M1 37 = vi_m 108 (M 57) (M 37) := by rw [hM1]; simp (disch := omega) only [vi_rs_s, vi_rs_o]
    have x8 : M1 38 = vi_m 12 (M 58) (M 38) := by rw [hM1]; simp (disch := omega) only [vi_rs_s, vi_rs_o]
    have x9 : M1 39 = vi_m 6 (M 59) (M 39) := by rw [hM1]; simp (disch := omega) only [vi_rs_s, vi_rs_o]
    have x0 : M1 30 = (fun k => if 6 ≤ k ∧ k < 12 then M 50 k else M 30 k) := by rw [hM1]; simp (disch := omega) only [vi_rs_s, vi_rs_o]
    clear hM1
    have hf : ∀ k, k < 5103 → mBk (M 114) (M 115) (5103 * 1) 5103 k = M 115 (5103 * 1 + k) := fun k hk => if_pos hk
    have hH1 : cHd M1 30 (mBk (M 114) (M 115) (5103 * 1) 5103) a CS LH LR LS := by
      refine cHd_cp (h2 := 40 + 10 * 1) cH hf ?_ (fun j hj => ?_) ?_ (fun j hj => ?_) ?_ (fun j hj => ?_) (fun j hj => ?_) (fun j hj => ?_) (fun j hj => ?_) (fun j j1 j2 => ?_)
      · show M1 31 2 = _
        rw [x1, vi_u_s]
      · show M1 32 j = _
        rw [x2]; exact vi_m_lt hj
      · show M1 33 2 = _
        rw [x3, vi_u_s]
      · show M1 34 j = _
        rw [x4]; exact vi_m_lt hj
      · show M1 35 2 = _
        rw [x5, vi_u_s]
      · show M1 36 j = _
        rw [x6]; exact vi_m_lt hj
      · show M1 37 j = _
        rw [x7]; exact vi_m_lt hj
      · show M1 38 j = _
        rw [x8]; exact vi_m_lt hj
      · show M1 39 j = _
        rw [x9]; exact vi_m_lt hj
      · show M1 30 j = _
        rw [x0]; exact if_pos ⟨j1, j2⟩
    obtain ⟨lw', hlw⟩ := fLw_ex hH1.2.2.2.2.2.2.2
    refine jPair_r (M1 := M1) (x := .inl 0) (lw' := lw') hW ht f1 hH1 hlw (fun M' f1' k25 K hK => ?_) (fun M2 f2 hB2 hv K hK => ?_)
    · have k227 := fun {K : Option vi_V → vi_W → Prop} => @k_227 (d + 68) Y M' nn K a1 0
      simp only [Nat.add_assoc, Nat.reduceAdd] at k227
      rw [i2] at i1'
      clear hW hbd c1 c3 c4 hI i1 i2 i3 i4 i5 i6 cH hl1 hl2 f1 f1' x1 x2 x3 x4 x5 x6 x7 x8 x9 x0 hf hH1 hlw
      simp (disch := omega) only [Option.toList_some, Option.toList_none, List.nil_append, List.cons_append, List.append_nil, true_and, and_true, not_true_eq_false, not_false_eq_true, true_implies, false_implies, implies_true, and_self, Int.reduceLT, Int.reduceLE, Int.reduceEq, Int.reduceNe, Int.reduceAdd, Int.reduceSub, Int.reduceMul, Int.reduceNeg, Int.reduceToNat, Int.toNat_natCast, ↓kk_ck, ↓kk_im, ↓kk_in, e_224, s_224_0, s_224_4, s_224_9, s_224_15, s_224_26, s_224_33, s_224_14, s_224_20, s_224_32, s_224_37, s_224_23, s_224_42, s_224_45, s_224_49, s_224_52, s_224_57, e_230, s_230_0, s_230_4, s_230_11, s_230_15, s_230_8, e_41, s_41_0, s_41_4, a1, a2, a3, a4, a5, b1, b2, z1, i1', k42, k25, k227, ne_eq]
      exact hK
    · have := @k_240 (d + 70) K Y M2 nn hY 1 (by omega) (by rw [f2 116 (by omega) (by omega), i2]; decide) hv (by omega)
      rw [f2 114 (by omega) (by omega), f2 115 (by omega) (by omega)] at this
      exact this.mpr hK
theorem p_223 (hW : jW sc ln t a CS lw n Y M nn) (ht : t < 1000) {x : Int} : jPair sc ln t (d + 70) 223 239 [.inl x] (Y, M, nn) := by
  by_cases h : 0 ≤ x ∧ x ≤ 1
  · obtain rfl | rfl : x = 0 ∨ x = 1 := by omega
    · exact p_223_0 hW ht
    · exact p_223_1 hW ht
  · have hY := hW.1.1
    have h9 := hW.1.2.1
    obtain ⟨a1, a2, a3, a4, a5, a6, a7, a8, a9, a10, a11, a12⟩ := y_29 h9
    have k228a := fun {K : Option vi_V → vi_W → Prop} => @k_228_1 (d + 68) Y M nn K hY h9 ((jW_b hW ht).1 0 (by omega))
    simp only [Nat.add_assoc, Nat.reduceAdd] at k228a
    refine jPair_f (r := -1) hW ht (.inl ⟨rfl, rfl⟩) (fun K hK => ?_) (fun M1 f hB1 hj K hK => ?_)
    · clear hW
      by_cases e : x < 0
      · simp (disch := omega) only [Option.toList_some, Option.toList_none, List.nil_append, List.cons_append, List.append_nil, true_and, and_true, not_true_eq_false, not_false_eq_true, true_implies, false_implies, implies_true, and_self, Int.reduceLT, Int.reduceLE, Int.reduceEq, Int.reduceNe, Int.reduceAdd, Int.reduceSub, Int.reduceMul, Int.reduceNeg, Int.reduceToNat, Int.toNat_natCast, ↓kk_ck, ↓kk_im, ↓kk_in, e_223, s_223_0, s_223_4, s_223_9, s_223_15, s_223_14, s_223_20, s_223_24, s_223_27, s_223_32, a1, k228a, ne_eq]
        exact hK
      · simp (disch := omega) only [Option.toList_some, Option.toList_none, List.nil_append, List.cons_append, List.append_nil, true_and, and_true, not_true_eq_false, not_false_eq_true, true_implies, false_implies, implies_true, and_self, Int.reduceLT, Int.reduceLE, Int.reduceEq, Int.reduceNe, Int.reduceAdd, Int.reduceSub, Int.reduceMul, Int.reduceNeg, Int.reduceToNat, Int.toNat_natCast, ↓kk_ck, ↓kk_im, ↓kk_in, e_223, s_223_0, s_223_4, s_223_9, s_223_15, s_223_14, s_223_20, s_223_24, s_223_27, s_223_32, a1, k228a, ne_eq]
        exact hK
    · rw [k_239n hY h hj (by omega)]
      exact hK
theorem p_224 (hW : jW sc ln t a CS lw n Y M nn) (ht : t < 1000) {x : Int} : jPair sc ln t (d + 70) 224 240 [.inl x] (Y, M, nn) := by
  by_cases h : 0 ≤ x ∧ x ≤ 1
  · obtain rfl | rfl : x = 0 ∨ x = 1 := by omega
    · exact p_224_0 hW ht
    · exact p_224_1 hW ht
  · have hY := hW.1.1
    have h9 := hW.1.2.1
    obtain ⟨a1, a2, a3, a4, a5, a6, a7, a8, a9, a10, a11, a12⟩ := y_29 h9
    have k228a := fun {K : Option vi_V → vi_W → Prop} => @k_228_1 (d + 68) Y M nn K hY h9 ((jW_b hW ht).1 0 (by omega))
    simp only [Nat.add_assoc, Nat.reduceAdd] at k228a
    refine jPair_f (r := -1) hW ht (.inl ⟨rfl, rfl⟩) (fun K hK => ?_) (fun M1 f hB1 hj K hK => ?_)
    · clear hW
      by_cases e : x < 0
      · simp (disch := omega) only [Option.toList_some, Option.toList_none, List.nil_append, List.cons_append, List.append_nil, true_and, and_true, not_true_eq_false, not_false_eq_true, true_implies, false_implies, implies_true, and_self, Int.reduceLT, Int.reduceLE, Int.reduceEq, Int.reduceNe, Int.reduceAdd, Int.reduceSub, Int.reduceMul, Int.reduceNeg, Int.reduceToNat, Int.toNat_natCast, ↓kk_ck, ↓kk_im, ↓kk_in, e_224, s_224_0, s_224_4, s_224_9, s_224_15, s_224_26, s_224_33, s_224_14, s_224_20, s_224_32, s_224_37, s_224_23, s_224_42, s_224_45, s_224_49, s_224_52, s_224_57, a1, k228a, ne_eq]
        exact hK
      · simp (disch := omega) only [Option.toList_some, Option.toList_none, List.nil_append, List.cons_append, List.append_nil, true_and, and_true, not_true_eq_false, not_false_eq_true, true_implies, false_implies, implies_true, and_self, Int.reduceLT, Int.reduceLE, Int.reduceEq, Int.reduceNe, Int.reduceAdd, Int.reduceSub, Int.reduceMul, Int.reduceNeg, Int.reduceToNat, Int.toNat_natCast, ↓kk_ck, ↓kk_im, ↓kk_in, e_224, s_224_0, s_224_4, s_224_9, s_224_15, s_224_26, s_224_33, s_224_14, s_224_20, s_224_32, s_224_37, s_224_23, s_224_42, s_224_45, s_224_49, s_224_52, s_224_57, a1, k228a, ne_eq]
        exact hK
    · rw [k_240n hY h hj (by omega)]
      exact hK
end
