/-! Pairs: fits, put together. -/
section
variable {M : vi_M} {f : Nat → Int} {X Z : Nat}
theorem fP_lo (h8 : M 30 8 = (X : Int)) (h9 : M 30 9 = (Z : Int)) (hX : X ≤ 6) (hZ : Z ≤ 6) (hC : rCt f (M 38)) : ∀ x s, x < X → (fP M x s = true ↔ (s < 2 ^ Z ∧ (mOs s 8 : Int) = f (280 + x))) := fun x s hx => by
  have hp : ((2 ^ Z : Nat) : Int) = 2 ^ Z := by simp
  have hp6 : 2 ^ Z ≤ 2 ^ 6 := Nat.pow_le_pow_right (by omega) hZ
  unfold fP fSet
  rw [h8, h9, if_neg (by omega), Bool.and_eq_true, decide_eq_true_eq, decide_eq_true_eq, Int.toNat_natCast, Int.toNat_natCast, ← hp, (hC x (by omega)).1]
  constructor
  · rintro ⟨h1, h2⟩
    have h1 : s < 2 ^ Z := by omega
    exact ⟨h1, by rw [← bC_o (by omega)]; exact h2⟩
  · rintro ⟨h1, h2⟩
    exact ⟨by omega, by rw [bC_o (by omega)]; exact h2⟩
theorem fP_hi (h8 : M 30 8 = (X : Int)) : ∀ x s, X ≤ x → (fP M x s = true ↔ s = 0) := fun x s hx => by
  unfold fP fSet
  rw [h8, if_pos (by omega), decide_eq_true_eq]
theorem fP_vo (h8 : M 30 8 = (X : Int)) (h9 : M 30 9 = (Z : Int)) (hX : X ≤ 6) (hZ : Z ≤ 6) (hC : rCt f (M 38)) : ∀ x s, fP M x s = true → ∀ i, Z ≤ i → vo s i = 0 := fun x s h i hi => by
  by_cases e : x < X
  · exact vo_z ((fP_lo h8 h9 hX hZ hC x s e).mp h).1 hi
  · rw [(fP_hi h8 x s (by omega)).mp h]
    unfold vo
    rw [Nat.zero_testBit]
    rfl
theorem rs0_e (hC : rCt f (M 38)) : ∀ k, k ≤ 6 → rs0 f k = ((e7 (dC (M 38) k) : Nat) : Int)
  | 0, _ => rfl
  | k + 1, hk => by
    have h1 := hC (6 + k) (by omega)
    have e : ((M 38 (6 + k)).toNat : Int) = f (286 + k) := by rw [h1.1, show 280 + (6 + k) = 286 + k by omega] at *; omega
    rw [rs0, rs0_e hC k (by omega), ← e]
    unfold e7 dC
    obtain rfl | rfl | rfl | rfl | rfl | rfl : k = 0 ∨ k = 1 ∨ k = 2 ∨ k = 3 ∨ k = 4 ∨ k = 5 := by omega
    all_goals simp
    all_goals omega
/-- class and reference give the same -/
def ftC (M : vi_M) (x : Int) : Int := if x < -1 ∨ M 30 8 ≤ x then -1 else if x = -1 then (fWs (fWM M) 262144 : Int) else if fWs (fWM M) 262144 = 0 then -1 else fM (fWM M) (fNM M) (M 109) 262144 x.toNat
theorem ft_eq (h8 : M 30 8 = (X : Int)) (h9 : M 30 9 = (Z : Int)) (hX : X ≤ 6) (hZ : Z ≤ 6) (hC : rCt f (M 38)) {x : Int} (hx : -1 ≤ x ∧ x ≤ (X : Int) - 1) : ftC M x = ftR f X Z x := by
  have hg : ∀ i, i < 6 → 0 ≤ M 38 (6 + i) ∧ M 38 (6 + i) ≤ 6 := fun i hi => by
    have := hC (6 + i) (by omega)
    rw [this.1]; exact this.2
  have hlo := fP_lo h8 h9 hX hZ hC
  have hhi := fP_hi (M := M) h8
  have hvo := fP_vo h8 h9 hX hZ hC
  have er : (rs0 f Z).toNat = e7 (dC (M 38) Z) := by rw [rs0_e hC Z hZ, Int.toNat_natCast]
  have hWM : fWM M = fW (fP M 0) (fP M 1) (fP M 2) (fun t => fDue (M 38) t Z) (fun s => fA (fP M 3) (fP M 4) (fP M 5) s 64) := by
    unfold fWM; rw [h9]; rfl
  have hNM : fNM M = fN (fP M 3) (fP M 4) (fP M 5) (fun t => fDue (M 38) t Z) := by
    unfold fNM; rw [h9]; rfl
  have hrc : rW f X Z X (e7 (dC (M 38) Z)) = cW (fP M) 6 (e7 (dC (M 38) Z)) := by
    rw [rW_c hlo hhi hX hZ X _ (Nat.le_refl _), show X + (6 - X) = 6 by omega]
  have hs := fW_s (A := fP M) hZ hg hvo
  rw [← hWM] at hs
  have hle : zuS 262144 (fWM M) ≤ 1000000000 := by
    rw [hs, ← hrc]
    have h1 := rW_le (f := f) (X := X) hZ X (e7 (dC (M 38) Z))
    have h2 : 20 ^ X ≤ 20 ^ 6 := Nat.pow_le_pow_right (by omega) hX
    omega
  have ht : fWs (fWM M) 262144 = rW f X Z X (e7 (dC (M 38) Z)) := by
    rw [fWs_s hle 262144 (Nat.le_refl _), hs, hrc]
  unfold ftC ftR
  rw [er, if_neg (by rw [h8]; omega), ht]
  by_cases e1 : x = -1
  · rw [if_pos e1, if_pos e1]
  · rw [if_neg e1, if_neg e1]
    by_cases e2 : rW f X Z X (e7 (dC (M 38) Z)) = 0
    · rw [if_pos e2, if_pos e2]
    · rw [if_neg e2, if_neg e2]
      obtain ⟨R, S, r1, r2, r3, r4⟩ := fN_c (A := fP M) hZ hg hvo (by rw [← hrc]; exact e2) (N0 := M 109)
      rw [← hWM, ← hNM] at r4
      rw [r4 x.toNat (by omega), ← r1, (ftS_c hlo hhi hX hZ r2 r3 x.toNat (by omega)).2]
end
section
variable {sc : Nat → Int} {ln t a n d : Nat} {CS : Nat → List gCla} {lw : Option (List gCla)} {Y : vi_Y} {M : vi_M} {nn : Nat × Nat} {K : Option vi_V → vi_W → Prop}
theorem k_219 (hY : kY Y 151) (h9 : kY9 Y) (hJ : jJ M) (hb : gB (M 30 8) (M 30 9) (M 30 10)) (hc : ∀ j, j < 12 → -1000 ≤ M 38 j ∧ M 38 j ≤ 1000) {x : Int} : ∃ M', cQ M M' ∧ jJ M' ∧ ∀ K : Option vi_V → vi_W → Prop, vi_call GG (d + 70) 219 [.inr (.inr 29), .inl x] (Y, M, nn) K ↔ K (some (.inl (ftC M x))) (Y, M', nn) := by
  obtain ⟨a1, a2, a3, a4, a5, a6, a7, a8, a9, a10, a11, a12⟩ := y_29 h9
  have z1 := (y_107 hY (by omega)).1
  have b1 := (y_30 hY (by omega)).1
  have z0 : ∀ y z : Int, gSz (M 30 8) y z 0 = M 30 8 := fun y z => if_pos rfl
  by_cases e1 : x < -1 ∨ M 30 8 ≤ x
  · refine ⟨M, cQ_r, hJ, fun K => vi_k (r := some (.inl _)) fun Q hQ => ?_⟩
    unfold ftC at hQ
    rw [if_pos e1] at hQ
    clear hc hJ hb
    by_cases e2 : x < -1
    · simp (disch := omega) only [Option.toList_some, Option.toList_none, List.nil_append, List.cons_append, List.append_nil, true_and, and_true, not_true_eq_false, not_false_eq_true, true_implies, false_implies, implies_true, and_self, Int.reduceLT, Int.reduceLE, Int.reduceEq, Int.reduceNe, Int.reduceAdd, Int.reduceSub, Int.reduceMul, Int.reduceNeg, Int.reduceToNat, Int.toNat_natCast, ↓kk_ck, ↓kk_im, ↓kk_in, e_219, s_219_0, s_219_5, s_219_17, s_219_19, s_219_32, s_219_34, s_219_38, s_219_42, s_219_50, s_219_10, s_219_23, s_219_46, s_219_14, s_219_26, a1, ne_eq]
      exact hQ
    · simp (disch := omega) only [Option.toList_some, Option.toList_none, List.nil_append, List.cons_append, List.append_nil, true_and, and_true, not_true_eq_false, not_false_eq_true, true_implies, false_implies, implies_true, and_self, Int.reduceLT, Int.reduceLE, Int.reduceEq, Int.reduceNe, Int.reduceAdd, Int.reduceSub, Int.reduceMul, Int.reduceNeg, Int.reduceToNat, Int.toNat_natCast, ↓kk_ck, ↓kk_im, ↓kk_in, e_219, s_219_0, s_219_5, s_219_17, s_219_19, s_219_32, s_219_34, s_219_38, s_219_42, s_219_50, s_219_10, s_219_23, s_219_46, s_219_14, s_219_26, a1, a2, b1, k_43 b1, z0, ne_eq]
      exact hQ
  · have k107 := fun {K : Option vi_V → vi_W → Prop} => @k_107 (d + 65) K Y M nn hY hb hc
    simp only [Nat.add_assoc, Nat.reduceAdd] at k107
    have hbx := hb.1
    have hr : ftC M x = if x = -1 then (fWs (fWM M) 262144 : Int) else if fWs (fWM M) 262144 = 0 then -1 else fM (fWM M) (fNM M) (M 109) 262144 x.toNat := by
      unfold ftC
      rw [if_neg e1]
    rw [hr]
    generalize fWs (fWM M) 262144 = T at *
    generalize fM (fWM M) (fNM M) (M 109) 262144 = G at *
    generalize vi_m 4096 (fun s => (fA (fP M 3) (fP M 4) (fP M 5) s 64 : Int)) (M 108) = H at *
    refine ⟨vi_rs (vi_rs M 108 H) 109 G, ⟨fun p hp => by rw [vi_rs_o (by omega), vi_rs_o (by omega)], by rw [vi_rs_o (by omega), vi_rs_o (by omega)]⟩, ⟨fun q hq => by rw [vi_rs_o (by unfold jCe at hq; omega), vi_rs_o (by unfold jCe at hq; omega)]; exact hJ.1 q hq, by rw [vi_rs_o (by omega), vi_rs_o (by omega)]; exact hJ.2⟩, fun K => vi_k (r := some (.inl _)) fun Q hQ => ?_⟩
    clear hc hJ hb hr
    by_cases e2 : x = -1
    · rw [if_pos e2] at hQ
      subst e2
      simp (disch := omega) only [Option.toList_some, Option.toList_none, List.nil_append, List.cons_append, List.append_nil, true_and, and_true, not_true_eq_false, not_false_eq_true, true_implies, false_implies, implies_true, and_self, Int.reduceLT, Int.reduceLE, Int.reduceEq, Int.reduceNe, Int.reduceAdd, Int.reduceSub, Int.reduceMul, Int.reduceNeg, Int.reduceToNat, Int.toNat_natCast, ↓kk_ck, ↓kk_im, ↓kk_in, e_219, s_219_0, s_219_5, s_219_17, s_219_19, s_219_32, s_219_34, s_219_38, s_219_42, s_219_50, s_219_10, s_219_23, s_219_46, s_219_14, s_219_26, a1, a2, a11, b1, z1, k_43 b1, z0, k107, ne_eq]
      exact hQ
    · rw [if_neg e2] at hQ
      by_cases e3 : T = 0
      · rw [if_pos e3] at hQ
        subst e3
        simp (disch := omega) only [Option.toList_some, Option.toList_none, List.nil_append, List.cons_append, List.append_nil, true_and, and_true, not_true_eq_false, not_false_eq_true, true_implies, false_implies, implies_true, and_self, Int.reduceLT, Int.reduceLE, Int.reduceEq, Int.reduceNe, Int.reduceAdd, Int.reduceSub, Int.reduceMul, Int.reduceNeg, Int.reduceToNat, Int.toNat_natCast, ↓kk_ck, ↓kk_im, ↓kk_in, e_219, s_219_0, s_219_5, s_219_17, s_219_19, s_219_32, s_219_34, s_219_38, s_219_42, s_219_50, s_219_10, s_219_23, s_219_46, s_219_14, s_219_26, a1, a2, a11, b1, z1, k_43 b1, z0, k107, ne_eq, Int.natCast_zero]
        exact hQ
      · rw [if_neg e3] at hQ
        obtain ⟨y, rfl⟩ : ∃ y : Nat, x = (y : Int) := ⟨x.toNat, by omega⟩
        have hy : y < 6 := by omega
        have e3' : ¬ (T : Int) = 0 := by omega
        have k108 := fun {K : Option vi_V → vi_W → Prop} => @k_108 (d + 68) K Y (vi_rs (vi_rs M 108 H) 109 G) nn hY y hy
        simp only [Nat.add_assoc, Nat.reduceAdd, vi_rs_s] at k108
        rw [Int.toNat_natCast] at hQ
        simp (disch := omega) only [Option.toList_some, Option.toList_none, List.nil_append, List.cons_append, List.append_nil, true_and, and_true, not_true_eq_false, not_false_eq_true, true_implies, false_implies, implies_true, and_self, Int.reduceLT, Int.reduceLE, Int.reduceEq, Int.reduceNe, Int.reduceAdd, Int.reduceSub, Int.reduceMul, Int.reduceNeg, Int.reduceToNat, Int.toNat_natCast, ↓kk_ck, ↓kk_im, ↓kk_in, e_219, s_219_0, s_219_5, s_219_17, s_219_19, s_219_32, s_219_34, s_219_38, s_219_42, s_219_50, s_219_10, s_219_23, s_219_46, s_219_14, s_219_26, a1, a2, a11, b1, z1, k_43 b1, z0, k107, e3', k108, vi_rs_s, ne_eq]
        exact hQ
theorem p_219 (hW : jW sc ln t a CS lw n Y M nn) {x : Int} : jPair sc ln t (d + 70) 219 348 [.inl x] (Y, M, nn) := by
  refine jPair_q hW fun K hK => ?_
  obtain ⟨LH, LR, LS, c1, c2, c3, c4⟩ := hW.2.2.2.1
  have cC : rCt (M 114) (M 38) := c1.2.2.2.2.2.1
  obtain ⟨s1, s2, s3, s4, hB, -⟩ := c1.2.2.2.2.2.2.1
  obtain ⟨X, hX⟩ : ∃ X : Nat, M 114 96 = (X : Int) := ⟨(M 114 96).toNat, by have := hB.1; omega⟩
  obtain ⟨Z, hZ⟩ : ∃ Z : Nat, M 114 97 = (Z : Int) := ⟨(M 114 97).toNat, by have := hB.2.1; omega⟩
  have hX6 : X ≤ 6 := by have := hB.1; omega
  have hZ6 : Z ≤ 6 := by have := hB.2.1; omega
  obtain ⟨M1, q1, q2, q3⟩ := @k_219 d Y M nn hW.1.1 hW.1.2.1 hW.2.2.2.2.2.2.2.2.2 (by rw [s1, s2, s3]; exact hB) (fun j hj => by have : M 38 j = M 114 (280 + j) ∧ 0 ≤ M 114 (280 + j) ∧ M 114 (280 + j) ≤ 6 := cC j hj; omega) x
  have hW1 := jW_q hW q1 q2
  rw [q3]
  refine hK _ M1 hW1 fun K2 h2 => ?_
  have e' : M1 114 = M 114 := q1.1 114 (by omega)
  by_cases h : -1 ≤ x ∧ x ≤ (X : Int) - 1
  · refine k_348 hW.1.1 (mBx_c e' hB) (by rw [e']; exact hX) (by rw [e']; exact hZ) (fun j hj => by
      have := cC (6 + j) (by omega)
      rw [e', show 286 + j = 280 + (6 + j) by omega]
      exact this.2) h (by omega) fun M' hf => ?_
    rw [e', ← ft_eq (s1.trans hX) (s2.trans hZ) hX6 hZ6 cC h]
    refine h2 M' (jW_r hW1 ⟨fun p h1 h2 h3 => hf p (by omega) (by omega), fun k _ _ _ _ _ _ _ _ => by rw [hf 112 (by omega) (by omega)]⟩ (jM_k hW1.2.2.2.2.1 (fun p hp => hf p (by omega) (by omega)) fun k hk => by rw [hf 112 (by omega) (by omega)]))
  · rw [k_348n hW.1.1 (mBx_c e' hB) (by rw [e', hX]; exact h) (by omega)]
    have : ftC M x = -1 := by
      unfold ftC
      rw [if_pos (by rw [s1, hX]; omega)]
    rw [this] at h2
    exact h2 M1 hW1
end
