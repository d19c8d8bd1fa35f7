/-! feast (reference). -/
def clR (r : Nat → Int) (a : Nat) (u v : Int) : Nat → (Nat → Int)
  | 0 => r
  | k + 1 => vi_u (clR r a u v k) (mHa a u v (k : Int)).toNat 0
theorem clR_e {r : Nat → Int} {a : Nat} {u v : Int} : ∀ (k c : Nat), ((∀ w : Nat, w < k → (mHa a u v (w : Int)).toNat ≠ c) → clR r a u v k c = r c) ∧ (r c = 0 → clR r a u v k c = 0) ∧ (¬ (∀ w : Nat, w < k → (mHa a u v (w : Int)).toNat ≠ c) → clR r a u v k c = 0)
  | 0, c => by
    rw [clR]
    exact ⟨fun _ => rfl, fun h => h, fun h => absurd (fun w hw => by omega) h⟩
  | k + 1, c => by
    obtain ⟨h1, h2, h3⟩ := clR_e (r := r) (a := a) (u := u) (v := v) k c
    rw [clR]
    by_cases e : c = (mHa a u v (k : Int)).toNat
    · rw [← e, vi_u_s]
      exact ⟨fun h => absurd e.symm (h k (by omega)), fun _ => rfl, fun _ => rfl⟩
    · rw [vi_u_o e]
      refine ⟨fun h => h1 fun w hw => h w (by omega), h2, fun h => h3 fun k' => h fun w hw => ?_⟩
      by_cases q : w = k
      · rw [q]; exact fun q => e q.symm
      · exact k' w (by omega)
theorem clR_b {M : vi_M} (hB : mBx M) {a : Nat} {u v : Int} (ha : a < 3) (hu : 0 ≤ u ∧ u < 6) (hv : 0 ≤ v ∧ v < 6) {r : Nat → Int} {T : Nat → Bool} (hT : ∀ c, T c = true → mIc M (c : Int)) (hr : ∀ c, c < 216 → r c = vi_b (T c)) : ∀ c, c < 216 → clR r a u v (M 114 (96 + a)).toNat c = vi_b (sDif T (sLn (a : Int) u v) c) := by
  intro c hc
  obtain ⟨h1, h2, h3⟩ := clR_e (r := r) (a := a) (u := u) (v := v) (M 114 (96 + a)).toNat c
  unfold sDif
  cases ht : T c
  · rw [h2 (by rw [hr c hc, ht]; rfl)]; rfl
  · have hon := mHa_on hB ha hu hv (hT c ht)
    cases hs : sLn (a : Int) u v c
    · rw [h1 (hon.mpr hs), hr c hc, ht]; rfl
    · rw [h3 (fun k => by have := hon.mp k; rw [hs] at this; cases this)]; rfl
theorem ft_in {x y z s : Int} {P : Nat → Bool} {c : Nat} : ∀ k : Nat, (ft x y z P s k).2 c = true → P c = true
  | 0, h => h
  | k + 1, h => by
    rw [ft] at h
    dsimp only at h
    unfold sDif at h
    simp only [Bool.and_eq_true] at h
    exact ft_in k h.1
section
variable {D : Nat} {K : Option vi_V → vi_W → Prop} {Y : vi_Y} {M : vi_M} {nn : Nat × Nat} {Q : Option vi_V → vi_W → Prop}
theorem k_352n (hY : kY Y 151) {s m : Int} (h : ¬ ((0 ≤ s ∧ s ≤ 1000000) ∧ 0 ≤ m ∧ m ≤ 60)) (hc : 0 ≤ M 113 1 ∧ M 113 1 < 2147483647) (hD : 2 ≤ D) : vi_call GG D 352 [.inr (.inr 112), .inl s, .inl m] (Y, M, nn) K ↔ K (some (.inl (-1))) (Y, vi_rs (vi_rs M 112 (vi_u (M 112) 0 (-1))) 113 (vi_u (M 113) 1 (M 113 1 + 1)), nn) := by
  obtain ⟨D, rfl⟩ : ∃ k, D = k + 1 := ⟨D - 1, by omega⟩
  obtain ⟨R1, -⟩ := y_112 hY (by omega)
  refine vi_k (r := some (.inl _)) fun Q hQ => ?_
  have A := fun {D : Nat} {K : Option vi_V → vi_W → Prop} (hD : 1 ≤ D) => @k_235 D K Y M nn hY (-1) (by omega) (by exact hc) hD
  by_cases h1 : 0 ≤ s ∧ s ≤ 1000000
  · have h4 : ¬ (0 ≤ m ∧ m ≤ 60) := fun k => h ⟨h1, k⟩
    simp (disch := omega) only [Option.toList_some, Option.toList_none, List.nil_append, List.cons_append, List.append_nil, true_and, and_true, not_true_eq_false, not_false_eq_true, true_implies, false_implies, implies_true, and_self, Int.reduceLT, Int.reduceLE, Int.reduceEq, Int.reduceNe, Int.reduceAdd, Int.reduceSub, Int.reduceMul, Int.reduceNeg, Int.reduceToNat, Int.toNat_natCast, ↓kk_ck, ↓kk_im, ↓kk_in, e_352, s_352_0, s_352_7, s_352_10, s_352_17, s_352_20, s_352_25, R1, k_234t h1, k_234f h4, A, ne_eq]
    exact hQ
  · simp (disch := omega) only [Option.toList_some, Option.toList_none, List.nil_append, List.cons_append, List.append_nil, true_and, and_true, not_true_eq_false, not_false_eq_true, true_implies, false_implies, implies_true, and_self, Int.reduceLT, Int.reduceLE, Int.reduceEq, Int.reduceNe, Int.reduceAdd, Int.reduceSub, Int.reduceMul, Int.reduceNeg, Int.reduceToNat, Int.toNat_natCast, ↓kk_ck, ↓kk_im, ↓kk_in, e_352, s_352_0, s_352_7, s_352_20, s_352_25, R1, k_234f h1, A, ne_eq]
    exact hQ
/-- one draw's row taken away -/
theorem h_352w (hY : kY Y 151) (hB : mBx M) {a : Nat} {u v : Int} (hp : mIp M (a : Int) u v) (hD : 1 ≤ D) {x1 x2 x3 : Int} {r : Nat → Int} (h134 : M 134 = r)
    (ih : ∀ l7, vi_ok GG D 352 137 [some (.inr (.inr 112)), some (.inl x1), some (.inl x2), some (.inl x3), some (.inl (a : Int)), some (.inl u), some (.inl v), some (.inl l7)] [] (Y, vi_rs M 134 (clR r a u v (M 114 (96 + a)).toNat), nn) Q) :
    vi_ok GG D 352 103 [some (.inr (.inr 112)), some (.inl x1), some (.inl x2), some (.inl x3), some (.inl (a : Int)), some (.inl u), some (.inl v), some (.inl 0)] [] (Y, M, nn) Q := by
  obtain ⟨R1, -, R3, -, -, -, -, -, -, -, -, -, -, R27, R28, R29, R31, R32, R33, R34, R35, R36, R37, R38, -⟩ := y_112 hY (by omega)
  obtain ⟨p1, p2⟩ := y_134 hY (by omega)
  obtain ⟨qa, qu, qv⟩ := mIp_r hB hp
  have hs := mSz hB (a := a) (by omega)
  obtain ⟨S, hS⟩ : ∃ S : Nat, M 114 (96 + a) = (S : Int) := ⟨(M 114 (96 + a)).toNat, by omega⟩
  rw [hS, Int.toNat_natCast] at ih
  have loop : ∀ w : Nat, w ≤ S → vi_ok GG D 352 103 [some (.inr (.inr 112)), some (.inl x1), some (.inl x2), some (.inl x3), some (.inl (a : Int)), some (.inl u), some (.inl v), some (.inl (w : Int))] [] (Y, vi_rs M 134 (clR r a u v w), nn) Q := by
    refine vi_dn S ?_ fun w hw ihw => ?_
    · have A := fun {D : Nat} {K : Option vi_V → vi_W → Prop} (hD : 1 ≤ D) => @k_241 D K Y (vi_rs M 134 (clR r a u v S)) nn hY a (by omega) hD
      rw [vi_rs_o (by omega), hS] at A
      have := ih (S : Int)
      clear ih
      rw [s_352_103]
      simp (disch := omega) only [Option.toList_some, Option.toList_none, List.nil_append, List.cons_append, List.append_nil, true_and, and_true, not_true_eq_false, not_false_eq_true, true_implies, false_implies, implies_true, and_self, Int.reduceLT, Int.reduceLE, Int.reduceEq, Int.reduceNe, Int.reduceAdd, Int.reduceSub, Int.reduceMul, Int.reduceNeg, Int.reduceToNat, Int.toNat_natCast, ↓kk_ck, ↓kk_im, ↓kk_in, s_352_111, R1, A]
      exact this
    · have A := fun {D : Nat} {K : Option vi_V → vi_W → Prop} (hD : 1 ≤ D) => @k_241 D K Y (vi_rs M 134 (clR r a u v w)) nn hY a (by omega) hD
      rw [vi_rs_o (by omega), hS] at A
      have hwr : 0 ≤ (w : Int) ∧ (w : Int) < 6 := by omega
      have hc := mHa_r (a := a) qu qv hwr
      rw [clR] at ihw
      clear ih
      rw [s_352_103]
      simp (disch := omega) only [Option.toList_some, Option.toList_none, List.nil_append, List.cons_append, List.append_nil, true_and, and_true, not_true_eq_false, not_false_eq_true, true_implies, false_implies, implies_true, and_self, Int.reduceLT, Int.reduceLE, Int.reduceEq, Int.reduceNe, Int.reduceAdd, Int.reduceSub, Int.reduceMul, Int.reduceNeg, Int.reduceToNat, Int.toNat_natCast, ↓kk_ck, ↓kk_im, ↓kk_in, s_352_111, s_352_114, s_352_118, s_352_129, s_352_131, R1, R37, p1, p2, A, k_244 qu qv hwr, mHa_e, nar_0, vi_ms_rs, vi_rs_s, vi_rs_rs, vi_inc]
      exact ihw
  have := loop 0 (by omega)
  rw [clR, vi_rs_id h134] at this
  exact this
theorem k_352 (hY : kY Y 151) {lw : Option (List gCla)} {n : Nat} (hS : mKs M lw n) {s : Int} (hs : 0 ≤ s ∧ s ≤ 1000000) {m : Nat} (hm : m ≤ 60) (hc : 0 ≤ M 112 1 ∧ M 112 1 < 2147483647) (hD : 46 ≤ D)
    (hQ : ∀ M', (∀ p, p ≠ 112 → p ≠ 123 → p ≠ 124 → p ≠ 125 → p ≠ 126 → p ≠ 127 → p ≠ 134 → p ≠ 150 → M' p = M p) → (∀ k, k ≠ 0 → k ≠ 1 → k ≠ 19 → k ≠ 20 → k ≠ 21 → k ≠ 23 → k ≠ 24 → k ≠ 25 → k ≠ 30 → k ≠ 62 → k ≠ 63 → M' 112 k = M 112 k) → M' 112 0 = 0 → M' 112 1 = M 112 1 + 1 → M' 112 30 = M 112 1 → M' 112 62 = (m : Int) → (∀ i, i < m → M' 150 i = (sN 216 (ft (M 114 96) (M 114 97) (M 114 98) (fun c => mLf M lw n c) s (i + 1)).2 : Int)) →
      Q (some (.inl (sN 216 (ft (M 114 96) (M 114 97) (M 114 98) (fun c => mLf M lw n c) s m).2 : Int))) (Y, M', nn)) : vi_call GG D 352 [.inr (.inr 112), .inl s, .inl (m : Int)] (Y, M, nn) Q := by
  obtain ⟨D, rfl⟩ : ∃ k, D = k + 1 := ⟨D - 1, by omega⟩
  obtain ⟨R1, -, R3, -, -, -, -, -, -, -, -, -, -, R27, R28, R29, R31, R32, R33, R34, R35, R36, R37, R38, -, -, -, -, -, -, -, -, -, -, -, -, -, -, R61⟩ := y_112 hY (by omega)
  obtain ⟨p1, p2⟩ := y_134 hY (by omega)
  obtain ⟨p3, p4⟩ := y_126 hY (by omega)
  obtain ⟨p5, p6⟩ := y_150 hY (by omega)
  have hB := hS.1
  have hPin : ∀ c : Nat, mLf M lw n c = true → mIc M (c : Int) := fun c h => by
    unfold mLf at h
    simp only [Bool.and_eq_true] at h
    exact mIcb_t h.1.1
  have cont : vi_call GG D 294 [.inr (.inr 112)] (Y, M, nn) (fun r w' => vi_ok GG D 352 30 [some (.inr (.inr 112)), some (.inl s), some (.inl (m : Int)), none, none, none, none, none] r.toList w' Q) := by
    refine k_294u hY hS (by omega) fun M1 hs1 hf1 => ?_
    have e114 := mFr_114 hf1
    have h126 : ∀ c, c < 216 → M1 126 c = vi_b (mLf M lw n c) := fun c hc => by rw [mSee_l hs1 hc, mLf_c e114]
    have h30 : M1 112 30 = M 112 1 := hs1.2.2.1.trans (hf1.2 1 (by omega) (by omega) (by omega) (by omega) (by omega) (by omega) (by omega))
    generalize hP : (fun c => mLf M lw n c) = P at *
    have hPe : ∀ c, mLf M lw n c = P c := fun c => by rw [← hP]
    simp only [hPe] at hPin h126
    generalize hx : M 114 96 = x at *
    generalize hy : M 114 97 = y at *
    generalize hz : M 114 98 = z at *
    have hft := ft_r (x := x) (y := y) (z := z) (P := P) (s := s) (by omega)
    -- the state behind i draws
    let St (i : Nat) (M2 : vi_M) : Prop := (∀ p, p ≠ 112 → p ≠ 123 → p ≠ 124 → p ≠ 125 → p ≠ 126 → p ≠ 127 → p ≠ 134 → p ≠ 150 → M2 p = M p) ∧ (∀ k, k ≠ 19 → k ≠ 20 → k ≠ 21 → k ≠ 23 → k ≠ 24 → k ≠ 25 → k ≠ 30 → k ≠ 63 → M2 112 k = M 112 k) ∧ M2 112 30 = M 112 1 ∧ M2 112 63 = (ft x y z P s i).1 ∧ (∀ c, c < 216 → M2 134 c = vi_b ((ft x y z P s i).2 c)) ∧ (∀ j, j < i → M2 150 j = (sN 216 (ft x y z P s (j + 1)).2 : Int))
    have draws : ∀ i : Nat, i ≤ m → ∀ (M2 : vi_M) (l4 l5 l6 l7 : Option vi_V), St i M2 → vi_ok GG D 352 64 [some (.inr (.inr 112)), some (.inl s), some (.inl (m : Int)), some (.inl (i : Int)), l4, l5, l6, l7] [] (Y, M2, nn) Q := by
      refine vi_dn (P := fun i => ∀ (M2 : vi_M) (l4 l5 l6 l7 : Option vi_V), St i M2 → vi_ok GG D 352 64 [some (.inr (.inr 112)), some (.inl s), some (.inl (m : Int)), some (.inl (i : Int)), l4, l5, l6, l7] [] (Y, M2, nn) Q) m ?_ fun i hi ih => ?_
      · intro M2 l4 l5 l6 l7 ⟨o, f, h30, h63, h134, h150⟩
        have e1 : M2 112 1 = M 112 1 := f 1 (by omega) (by omega) (by omega) (by omega) (by omega) (by omega) (by omega) (by omega)
        have hnum : sN 216 (mB (M2 134)) = sN 216 (ft x y z P s m).2 := sN_c (mB_b h134)
        have i134 : vi_rs M2 112 (vi_u (M2 112) 62 (m : Int)) 134 = M2 134 := vi_rs_o (by omega)
        have k297 := fun {D : Nat} {K : Option vi_V → vi_W → Prop} (hD : 1 ≤ D) => @k_297 D K Y (vi_rs M2 112 (vi_u (M2 112) 62 (m : Int))) nn 134 ⟨p1, p2⟩ hD
        rw [mNum_e, i134, hnum] at k297
        have A := fun {D : Nat} {K : Option vi_V → vi_W → Prop} (hD : 1 ≤ D) => @k_236 D K Y (vi_rs M2 112 (vi_u (M2 112) 62 (m : Int))) nn hY (sN 216 (ft x y z P s m).2 : Int) (by rw [vi_rs_s, vi_u_o (by omega), e1]; exact hc) hD
        rw [vi_rs_rs, vi_rs_s] at A
        have hq := hQ (vi_rs M2 112 (vi_u (vi_u (vi_u (M2 112) 62 (m : Int)) 0 0) 1 (vi_u (M2 112) 62 (m : Int) 1 + 1))) (fun p h1 h2 h3 h4 h5 h6 h7 h8 => by rw [vi_rs_o h1]; exact o p h1 h2 h3 h4 h5 h6 h7 h8) (fun k h0 h1 h2 h3 h4 h5 h6 h7 h8 h9 h10 => by rw [vi_rs_s, vi_u_o h1, vi_u_o h0, vi_u_o h9]; exact f k h2 h3 h4 h5 h6 h7 h8 h10) (by rw [vi_rs_s, vi_u_o (by omega), vi_u_s]) (by rw [vi_rs_s, vi_u_s, vi_u_o (by omega), e1]) (by rw [vi_rs_s, vi_u_o (by omega), vi_u_o (by omega), vi_u_o (by omega)]; exact h30) (by rw [vi_rs_s, vi_u_o (by omega), vi_u_o (by omega), vi_u_s]) (fun j hj => by rw [vi_rs_o (by omega)]; exact h150 j hj)
        rw [s_352_64]
        clear hQ hft hPin h126 hPe
        simp (disch := omega) only [Option.toList_some, Option.toList_none, List.nil_append, List.cons_append, List.append_nil, true_and, and_true, not_true_eq_false, not_false_eq_true, true_implies, false_implies, implies_true, and_self, Int.reduceLT, Int.reduceLE, Int.reduceEq, Int.reduceNe, Int.reduceAdd, Int.reduceSub, Int.reduceMul, Int.reduceNeg, Int.reduceToNat, Int.toNat_natCast, ↓kk_ck, ↓kk_im, ↓kk_in, s_352_157, s_352_162, s_352_168, s_352_171, s_352_174, R1, R37, vi_ms_rs, k297, A]
        exact hq
      · intro M2 l4 l5 l6 l7 ⟨o, f, h30, h63, h134, h150⟩
        clear hQ
        have f114 : M2 114 = M 114 := o 114 (by omega) (by omega) (by omega) (by omega) (by omega) (by omega) (by omega) (by omega)
        have hs0 := hft i
        have d1 := dwS_r (s := (ft x y z P s i).1)
        have d2 := dwS_r (s := dwS (ft x y z P s i).1)
        have d3 := dwS_r (s := dwS (dwS (ft x y z P s i).1))
        obtain ⟨T, hT⟩ : ∃ T, T = (ft x y z P s i).2 := ⟨_, rfl⟩
        have hTin : ∀ c, T c = true → mIc M (c : Int) := fun c h => hPin c (ft_in i (by rw [← hT]; exact h))
        obtain ⟨s1, hs1⟩ : ∃ s1, s1 = dwS (ft x y z P s i).1 := ⟨_, rfl⟩
        obtain ⟨s2, hs2⟩ : ∃ s2, s2 = dwS s1 := ⟨_, rfl⟩
        obtain ⟨s3, hs3⟩ : ∃ s3, s3 = dwS s2 := ⟨_, rfl⟩
        obtain ⟨a, ha⟩ : ∃ a : Nat, s1 % 3 = (a : Int) := ⟨(s1 % 3).toNat, by omega⟩
        have eft : ft x y z P s (i + 1) = (s3, sDif T (sLn (a : Int) (s2 % gU x y z (a : Int)) (s3 % gV x y z (a : Int)))) := by
          rw [ft, ← hs1, ← hs2, ← hs3, ha, hT]
        have b1 := hB.1
        have b2 := hB.2.1
        have b3 := hB.2.2
        rw [hx] at b1
        rw [hy] at b2
        rw [hz] at b3
        have gu : M 114 (if (a : Int) = 0 then 97 else 96) = gU x y z (a : Int) := by
          unfold gU
          split
          · exact hy
          · exact hx
        have gv : M 114 (if (a : Int) = 2 then 97 else 98) = gV x y z (a : Int) := by
          unfold gV
          split
          · exact hy
          · exact hz
        have ru : 1 ≤ gU x y z (a : Int) ∧ gU x y z (a : Int) ≤ 6 := by unfold gU; split <;> omega
        have rv : 1 ≤ gV x y z (a : Int) ∧ gV x y z (a : Int) ≤ 6 := by unfold gV; split <;> omega
        obtain ⟨U, hU⟩ : ∃ U, U = gU x y z (a : Int) := ⟨_, rfl⟩
        obtain ⟨V, hV⟩ : ∃ V, V = gV x y z (a : Int) := ⟨_, rfl⟩
        rw [← hU] at gu ru eft
        rw [← hV] at gv rv eft
        have hp : mIp M (a : Int) (s2 % U) (s3 % V) := by
          refine ⟨by omega, by omega, Int.emod_nonneg _ (by omega), ?_, Int.emod_nonneg _ (by omega), ?_⟩
          · rw [gu]; exact Int.emod_lt_of_pos _ (by omega)
          · rw [gv]; exact Int.emod_lt_of_pos _ (by omega)
        -- three draws
        have D1 := fun {D : Nat} {K : Option vi_V → vi_W → Prop} (hD : 1 ≤ D) => @k_351 D K Y M2 nn hY 3 (by omega) (by rw [h63]; exact hs0) hD
        rw [h63, ← hs1, ha] at D1
        generalize hM3 : vi_rs M2 112 (vi_u (M2 112) 63 s1) = M3 at *
        have o3 : ∀ p, p ≠ 112 → M3 p = M2 p := fun p hp => by rw [← hM3, vi_rs_o hp]
        have g3 : ∀ k, k ≠ 63 → M3 112 k = M2 112 k := fun k hk => by rw [← hM3, vi_rs_s, vi_u_o hk]
        have h3 : M3 112 63 = s1 := by rw [← hM3, vi_rs_s, vi_u_s]
        have A3 := fun {D : Nat} {K : Option vi_V → vi_W → Prop} (hD : 2 ≤ D) => @k_242 D K Y M3 nn hY (a : Int) hD
        rw [o3 114 (by omega), f114, gu] at A3
        have D2 := fun {D : Nat} {K : Option vi_V → vi_W → Prop} (hD : 1 ≤ D) => @k_351 D K Y M3 nn hY U ru (by rw [h3, hs1]; omega) hD
        rw [h3, ← hs2] at D2
        generalize hM4 : vi_rs M3 112 (vi_u (M3 112) 63 s2) = M4 at *
        have o4 : ∀ p, p ≠ 112 → M4 p = M2 p := fun p hp => by rw [← hM4, vi_rs_o hp, o3 p hp]
        have g4 : ∀ k, k ≠ 63 → M4 112 k = M2 112 k := fun k hk => by rw [← hM4, vi_rs_s, vi_u_o hk, g3 k hk]
        have h4 : M4 112 63 = s2 := by rw [← hM4, vi_rs_s, vi_u_s]
        have A4 := fun {D : Nat} {K : Option vi_V → vi_W → Prop} (hD : 2 ≤ D) => @k_243 D K Y M4 nn hY (a : Int) hD
        rw [o4 114 (by omega), f114, gv] at A4
        have D3 := fun {D : Nat} {K : Option vi_V → vi_W → Prop} (hD : 1 ≤ D) => @k_351 D K Y M4 nn hY V rv (by rw [h4, hs2, hs1]; omega) hD
        rw [h4, ← hs3] at D3
        generalize hM5 : vi_rs M4 112 (vi_u (M4 112) 63 s3) = M5 at *
        have o5 : ∀ p, p ≠ 112 → M5 p = M2 p := fun p hp => by rw [← hM5, vi_rs_o hp, o4 p hp]
        have g5 : ∀ k, k ≠ 63 → M5 112 k = M2 112 k := fun k hk => by rw [← hM5, vi_rs_s, vi_u_o hk, g4 k hk]
        have h5 : M5 112 63 = s3 := by rw [← hM5, vi_rs_s, vi_u_s]
        have e5 : M5 114 = M 114 := (o5 114 (by omega)).trans f114
        have hB5 := mBx_c e5 hB
        have hp5 : mIp M5 (a : Int) (s2 % U) (s3 % V) := by
          unfold mIp at hp ⊢
          rw [e5]; exact hp
        obtain ⟨-, qu, qv⟩ := mIp_r hB hp
        have hcl := clR_b hB5 (a := a) (by omega) qu qv (r := M5 134) (T := T) (fun c h => mIc_c e5 (hTin c h)) (fun c hc => by rw [o5 134 (by omega), hT]; exact h134 c hc)
        have row := h_352w (Q := Q) (D := D) (nn := nn) (M := M5) (x1 := s) (x2 := (m : Int)) (x3 := (i : Int)) hY hB5 hp5 (by omega) rfl (fun l7 => by
          generalize clR (M5 134) a (s2 % U) (s3 % V) (M5 114 (96 + a)).toNat = C at *
          have hcl' : ∀ c, c < 216 → C c = vi_b ((ft x y z P s (i + 1)).2 c) := fun c hc => by rw [eft]; exact hcl c hc
          have hnum : sN 216 (mB C) = sN 216 (ft x y z P s (i + 1)).2 := sN_c (mB_b hcl')
          have i134 : vi_rs M5 134 C 134 = C := vi_rs_s
          have k297 := fun {D : Nat} {K : Option vi_V → vi_W → Prop} (hD : 1 ≤ D) => @k_297 D K Y (vi_rs M5 134 C) nn 134 ⟨p1, p2⟩ hD
          rw [mNum_e, i134, hnum] at k297
          have := ih (vi_rs (vi_rs M5 134 C) 150 (vi_u (M5 150) i (sN 216 (ft x y z P s (i + 1)).2 : Int))) (some (.inl (a : Int))) (some (.inl (s2 % U))) (some (.inl (s3 % V))) (some (.inl l7)) ⟨fun p q1 q2 q3 q4 q5 q6 q7 q8 => by rw [vi_rs_o q8, vi_rs_o q7, o5 p q1]; exact o p q1 q2 q3 q4 q5 q6 q7 q8, fun k q1 q2 q3 q4 q5 q6 q7 q8 => by rw [vi_rs_o (by omega), vi_rs_o (by omega), g5 k q8]; exact f k q1 q2 q3 q4 q5 q6 q7 q8, by rw [vi_rs_o (by omega), vi_rs_o (by omega), g5 30 (by omega)]; exact h30, by rw [vi_rs_o (by omega), vi_rs_o (by omega), h5, eft], fun c hc => by rw [vi_rs_o (by omega), vi_rs_s]; exact hcl' c hc, fun j hj => by
            rw [vi_rs_s]
            by_cases e : j = i
            · rw [e, vi_u_s]
            · rw [vi_u_o e, o5 150 (by omega)]; exact h150 j (by omega)⟩
          have i150 : vi_rs M5 134 C 150 = M5 150 := vi_rs_o (by omega)
          clear ih hcl hcl' hTin hPin hft
          simp (disch := omega) only [Option.toList_some, Option.toList_none, List.nil_append, List.cons_append, List.append_nil, true_and, and_true, not_true_eq_false, not_false_eq_true, true_implies, false_implies, implies_true, and_self, Int.reduceLT, Int.reduceLE, Int.reduceEq, Int.reduceNe, Int.reduceAdd, Int.reduceSub, Int.reduceMul, Int.reduceNeg, Int.reduceToNat, Int.toNat_natCast, ↓kk_ck, ↓kk_im, ↓kk_in, s_352_137, s_352_141, s_352_147, s_352_150, s_352_151, R1, R37, R61, p5, p6, Int.toNat_natCast, k297, vi_ms_rs, i150, vi_inc]
          exact this)
        rw [s_352_64]
        clear ih hcl hTin hPin hft hM3 hM4 hM5
        simp (disch := omega) only [Option.toList_some, Option.toList_none, List.nil_append, List.cons_append, List.append_nil, true_and, and_true, not_true_eq_false, not_false_eq_true, true_implies, false_implies, implies_true, and_self, Int.reduceLT, Int.reduceLE, Int.reduceEq, Int.reduceNe, Int.reduceAdd, Int.reduceSub, Int.reduceMul, Int.reduceNeg, Int.reduceToNat, Int.toNat_natCast, ↓kk_ck, ↓kk_im, ↓kk_in, s_352_69, s_352_74, s_352_83, s_352_86, s_352_95, s_352_98, R1, D1, A3, D2, A4, D3]
        exact row
    clear hQ
    have copy : ∀ c : Nat, c ≤ 216 → vi_ok GG D 352 37 [some (.inr (.inr 112)), some (.inl s), some (.inl (m : Int)), some (.inl (c : Int)), none, none, none, none] [] (Y, vi_rs (vi_rs M1 112 (vi_u (M1 112) 63 s)) 134 (vi_m c (fun c => vi_b (P c)) (M1 134)), nn) Q := by
      refine vi_dn 216 ?_ fun c hc ih => ?_
      · have := draws 0 (by omega) (vi_rs (vi_rs M1 112 (vi_u (M1 112) 63 s)) 134 (vi_m 216 (fun c => vi_b (P c)) (M1 134))) none none none none ⟨fun p q1 q2 q3 q4 q5 q6 q7 q8 => by rw [vi_rs_o q7, vi_rs_o q1]; exact hf1.1 p q1 q2 q3 q4 q5 q6, fun k q1 q2 q3 q4 q5 q6 q7 q8 => by rw [vi_rs_o (by omega), vi_rs_s, vi_u_o q8]; exact hf1.2 k q1 q2 q3 q4 q5 q6 q7, by rw [vi_rs_o (by omega), vi_rs_s, vi_u_o (by omega)]; exact h30, by rw [vi_rs_o (by omega), vi_rs_s, vi_u_s]; rfl, fun c hc => by rw [vi_rs_s, vi_m_lt hc]; rfl, fun j hj => by omega⟩
        rw [show ((0 : Nat) : Int) = 0 from rfl] at this
        rw [s_352_37]
        clear draws hft hPin
        simp (disch := omega) only [Option.toList_some, Option.toList_none, List.nil_append, List.cons_append, List.append_nil, true_and, and_true, not_true_eq_false, not_false_eq_true, true_implies, false_implies, implies_true, and_self, Int.reduceLT, Int.reduceLE, Int.reduceEq, Int.reduceNe, Int.reduceAdd, Int.reduceSub, Int.reduceMul, Int.reduceNeg, Int.reduceToNat, Int.toNat_natCast, ↓kk_ck, ↓kk_im, ↓kk_in, s_352_62]
        exact this
      · clear draws hft hPin
        have i126 : vi_rs (vi_rs M1 112 (vi_u (M1 112) 63 s)) 134 (vi_m c (fun c => vi_b (P c)) (M1 134)) 126 c = vi_b (P c) := by rw [vi_rs_o (by omega), vi_rs_o (by omega)]; exact h126 c hc
        rw [s_352_37]
        simp (disch := omega) only [Option.toList_some, Option.toList_none, List.nil_append, List.cons_append, List.append_nil, true_and, and_true, not_true_eq_false, not_false_eq_true, true_implies, false_implies, implies_true, and_self, Int.reduceLT, Int.reduceLE, Int.reduceEq, Int.reduceNe, Int.reduceAdd, Int.reduceSub, Int.reduceMul, Int.reduceNeg, Int.reduceToNat, Int.toNat_natCast, ↓kk_ck, ↓kk_im, ↓kk_in, s_352_44, s_352_48, s_352_53, s_352_55, s_352_56, R1, R28, R37, p1, p2, p3, p4, Int.toNat_natCast, i126, nar_b, vi_ms_rs, vi_rs_s, vi_rs_rs, vi_inc]
        rw [vi_m_s rfl]
        exact ih
    have := copy 0 (by omega)
    rw [vi_m_0, vi_rs_id (M := vi_rs M1 112 (vi_u (M1 112) 63 s)) (q := 134) (vi_rs_o (by omega))] at this
    clear draws copy hft hPin
    simp (disch := omega) only [Option.toList_some, Option.toList_none, List.nil_append, List.cons_append, List.append_nil, true_and, and_true, not_true_eq_false, not_false_eq_true, true_implies, false_implies, implies_true, and_self, Int.reduceLT, Int.reduceLE, Int.reduceEq, Int.reduceNe, Int.reduceAdd, Int.reduceSub, Int.reduceMul, Int.reduceNeg, Int.reduceToNat, Int.toNat_natCast, ↓kk_ck, ↓kk_im, ↓kk_in, s_352_30, s_352_35, R1, vi_ms_rs]
    exact this
  clear hQ
  have hm' : 0 ≤ (m : Int) ∧ (m : Int) ≤ 60 := by omega
  simp (disch := omega) only [Option.toList_some, Option.toList_none, List.nil_append, List.cons_append, List.append_nil, true_and, and_true, not_true_eq_false, not_false_eq_true, true_implies, false_implies, implies_true, and_self, Int.reduceLT, Int.reduceLE, Int.reduceEq, Int.reduceNe, Int.reduceAdd, Int.reduceSub, Int.reduceMul, Int.reduceNeg, Int.reduceToNat, Int.toNat_natCast, ↓kk_ck, ↓kk_im, ↓kk_in, e_352, s_352_0, s_352_7, s_352_10, s_352_17, s_352_26, R1, k_234t hs, k_234t hm', ne_eq]
  exact cont
end
