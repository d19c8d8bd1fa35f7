/-! The property of its own: three ways, and what isn't there. -/
theorem cell_b {x y z t : Int} {L : List (Nat → Int)} (hb : gB x y z) {A B C : Int} (hA : 0 ≤ A ∧ A < x) (hB : 0 ≤ B ∧ B < y) (hC : 0 ≤ C ∧ C < z) : ∃ c : Nat, A + 6 * B + 36 * C = (c : Int) ∧ c < 216 ∧ bxS (fK x y z t L) c = true := by
  obtain ⟨b1, b2, b3⟩ := hb
  refine ⟨(A + 6 * B + 36 * C).toNat, by omega, by omega, (bxS_f (by omega)).mpr ⟨by omega, by omega, by omega⟩⟩
section
variable {d ln : Nat} {Y : vi_Y} {nn : Nat × Nat} {v x y z t fl fo : Int} {L : List (Nat → Int)} {lw : Option (List gCla)} {g far : Nat → Int} {S O : Nat → Bool} {F : Nat} {Q : Option vi_V → vi_W → Prop} {a6 a7 a8 a9 a10 a11 a13 a14 : Int}
theorem lw_1436 (hY : lwY Y ln) {M : vi_M} (hS : wS M x y z t L [] lw 1 fo) {a15 : Int} {l16 l17 l18 l19 l20 l21 l22 l23 l24 l25 : Option vi_V}
    (hQ : ∀ M', Q (some (.inl 1)) (Y, M', nn)) : vi_ok GG (d + 72) 0 1436 [some (.inr (.inr 1)), some (.inr (.inr 29)), some (.inr (.inr 112)), some (.inl v), some (.inr (.inr 125)), some (.inr (.inr 126)), some (.inl a6), some (.inl a7), some (.inl a8), some (.inl a9), some (.inl a10), some (.inl a11), some (.inr (.inr 127)), some (.inl a13), some (.inl a14), some (.inl a15), l16, l17, l18, l19, l20, l21, l22, l23, l24, l25] [] (Y, M, nn) Q := by
  obtain ⟨⟨y1, y2⟩, -, -, -, -⟩ := hY
  have h29 := y2.1
  have hs := pP_z hS.1
  have hb : gB x y z := hS.1.2.2.1.2.2.2.2.1
  have k1 : ∀ K : Option vi_V → vi_W → Prop, vi_call GG (d + 72) 220 [.inr (.inr 29), .inl 216, .inl 0, .inl (-1)] (Y, M, nn) K ↔ K (some (.inl (-1))) (Y, M, nn) := fun K => @k_220n (d + 2) Y M nn K y1 y2 _ hs 216 0 (-1) (fun k => by have := of_decide_eq_true k.1; omega)
  have k2 : ∀ K : Option vi_V → vi_W → Prop, vi_call GG (d + 72) 220 [.inr (.inr 29), .inl 0, .inl (-1), .inl (-1)] (Y, M, nn) K ↔ K (some (.inl (-1))) (Y, M, nn) := fun K => @k_220n (d + 2) Y M nn K y1 y2 _ hs 0 (-1) (-1) (fun k => by have := of_decide_eq_true k.2.1; omega)
  have e3 : mIb (fK x y z t L) 3 0 0 = false := decide_eq_false (by omega)
  have k3 : ∀ K : Option vi_V → vi_W → Prop, vi_call GG (d + 72) 202 [.inr (.inr 29), .inl 3, .inl 0, .inl 0] (Y, M, nn) K ↔ K (some (.inl (-1))) (Y, M, nn) := fun K => by
    have := @k_202 L.length (d + 2) lw Y M nn K y1 y2 (fK x y z t L) hs hS.2 3 0 0
    rw [e3, if_neg (by decide)] at this
    exact this
  have e4 : ceV (fK x y z t L) lw L.length 0 4 = -1 := by
    unfold ceV
    rw [if_neg (show ¬ (4 : Int) = 0 by decide), if_neg (show ¬ (4 : Int) = 1 by decide), if_neg (show ¬ (4 : Int) = 2 by decide), if_neg (show ¬ (4 : Int) = 3 by decide)]
    split <;> rfl
  have k4 : ∀ K : Option vi_V → vi_W → Prop, vi_call GG (d + 72) 200 [.inr (.inr 29), .inl 0, .inl 4] (Y, M, nn) K ↔ K (some (.inl (-1))) (Y, M, nn) := fun K => by
    have := @k_200 L.length (d + 2) lw Y M nn K y1 y2 (fK x y z t L) hs hS.2 0 4
    rw [e4] at this
    exact this
  have cl : vi_call GG (d + 72) 204 [.inr (.inr 29), .inl 0, .inl 0, .inl 0, .inl 7] (Y, M, nn) (fun r w' => vi_ok GG (d + 72) 0 1490 [some (.inr (.inr 1)), some (.inr (.inr 29)), some (.inr (.inr 112)), some (.inl v), some (.inr (.inr 125)), some (.inr (.inr 126)), some (.inl a6), some (.inl a7), some (.inl a8), some (.inl a9), some (.inl a10), some (.inl a11), some (.inr (.inr 127)), some (.inl a13), some (.inl a14), some (.inl a15), l16, l17, l18, l19, l20, l21, l22, l23, l24, l25] r.toList w' Q) := by
    refine @lk_204n (d + 2) 1 Y M nn x y z t fo L [] lw _ y1 y2 hS 7 (by decide) fun M' _ => ?_
    have q := hQ M'
    clear hQ hS hs k1 k2 k3 k4 e3 e4
    simp (disch := omega) only [Option.toList_some, Option.toList_none, List.nil_append, List.cons_append, List.append_nil, true_and, and_true, not_true_eq_false, not_false_eq_true, true_implies, false_implies, implies_true, and_self, Int.reduceLT, Int.reduceLE, Int.reduceEq, Int.reduceNe, Int.reduceAdd, Int.reduceSub, Int.reduceMul, Int.reduceNeg, Int.reduceToNat, Int.toNat_natCast, ↓kk_ck, ↓kk_im, ↓kk_in, s_0_1490, s_0_1494, s_0_1499, ne_eq]
    exact q
  clear hQ hS hs e3 e4
  simp (disch := omega) only [Option.toList_some, Option.toList_none, List.nil_append, List.cons_append, List.append_nil, true_and, and_true, not_true_eq_false, not_false_eq_true, true_implies, false_implies, implies_true, and_self, Int.reduceLT, Int.reduceLE, Int.reduceEq, Int.reduceNe, Int.reduceAdd, Int.reduceSub, Int.reduceMul, Int.reduceNeg, Int.reduceToNat, Int.toNat_natCast, ↓kk_ck, ↓kk_im, ↓kk_in, s_0_1436, s_0_1445, s_0_1449, s_0_1456, s_0_1460, s_0_1467, s_0_1471, s_0_1477, s_0_1481, h29, k1, k2, k3, k4, ne_eq]
  exact cl
/-- one way -/
theorem lw_1028 (hY : lwY Y ln) {sl : Nat} (hF : 127 < F) (hSe : S = lfS (fK x y z t L) lw L.length) (hOe : O = sDif S (shS (fK x y z t L) lw L.length)) (hr : bxR g (fK x y z t L) fl 216 (fun c => mAt (fK x y z t L) (c : Int) L.length)) {p : Nat} (hp : p < 216) (hpb : bxS (fK x y z t L) p = true) {M : vi_M} (hS : wS M x y z t L [] lw 1 fo) (hD : lwD M g S O) {a15 : Int} {l16 l17 l18 l19 l20 l21 l22 l23 l24 l25 : Option vi_V}
    (hQ : ∀ (Y' : vi_Y) (M' : vi_M), lwY Y' ln → wS M' x y z t L [] lw 1 fo → lwD M' g S O → ∀ (a16 a17 a19 a20 a21 a22 : Int) l23 l24 l25, vi_ok GG (d + 72) 0 1430 [some (.inr (.inr 1)), some (.inr (.inr 29)), some (.inr (.inr 112)), some (.inl v), some (.inr (.inr 125)), some (.inr (.inr 126)), some (.inl a6), some (.inl a7), some (.inl a8), some (.inl a9), some (.inl a10), some (.inl a11), some (.inr (.inr 127)), some (.inl a13), some (.inl (p : Int)), some (.inl a15), some (.inl a16), some (.inl a17), some (.inr (.inr F)), some (.inl a19), some (.inl a20), some (.inl a21), some (.inl a22), l23, l24, l25] [] (Y', M', F + 1, sl + 216) Q) : ∀ w : Int, vi_ok GG (d + 72) 0 1028 [some (.inr (.inr 1)), some (.inr (.inr 29)), some (.inr (.inr 112)), some (.inl v), some (.inr (.inr 125)), some (.inr (.inr 126)), some (.inl a6), some (.inl a7), some (.inl a8), some (.inl a9), some (.inl a10), some (.inl a11), some (.inr (.inr 127)), some (.inl a13), some (.inl (p : Int)), some (.inl a15), l16, l17, l18, l19, l20, l21, l22, l23, l24, l25] [.inl w] (Y, M, F, sl) Q := by
  have hY' := hY
  obtain ⟨⟨y1, y2⟩, -, ⟨t1, t2⟩, -, -⟩ := hY'
  obtain ⟨⟨g0, g1, g2, g3, g5⟩, gc⟩ := hr
  have hr : bxR g (fK x y z t L) fl 216 (fun c => mAt (fK x y z t L) (c : Int) L.length) := ⟨⟨g0, g1, g2, g3, g5⟩, gc⟩
  have g0 : g 0 = x := g0
  have g1 : g 1 = y := g1
  have g2 : g 2 = z := g2
  have hM := hD.1
  have hb : gB x y z := hS.1.2.2.1.2.2.2.2.1
  have z0 : (0 : Int).toNat = 0 := rfl
  have z1 : (1 : Int).toNat = 1 := rfl
  have z2 : (2 : Int).toNat = 2 := rfl
  have z216 : (216 : Int).toNat = 216 := rfl
  intro w
  have st1068 : ∀ A B C : Int, (0 ≤ A ∧ A < x) → (0 ≤ B ∧ B < y) → (0 ≤ C ∧ C < z) → vi_ok GG (d + 72) 0 1068 [some (.inr (.inr 1)), some (.inr (.inr 29)), some (.inr (.inr 112)), some (.inl v), some (.inr (.inr 125)), some (.inr (.inr 126)), some (.inl a6), some (.inl a7), some (.inl a8), some (.inl a9), some (.inl a10), some (.inl a11), some (.inr (.inr 127)), some (.inl a13), some (.inl (p : Int)), some (.inl a15), some (.inl w), l17, l18, l19, l20, l21, l22, l23, l24, l25] [.inl C, .inl 36, .inl (A + 6 * B)] (Y, M, F, sl) Q := by
    intro A B C hA hBB hC
    obtain ⟨c, ec, hc, hcb⟩ := @cell_b x y z t L hb A B C hA hBB hC
    obtain ⟨b1, b2, b3⟩ := hb
    have w1 : vi_w32 (A + 6 * B + vi_w32 (36 * C)) = (c : Int) := by rw [@vi_32 (36 * C) (by omega) (by omega), ec, vi_32 (by omega) (by omega)]
    rw [s_0_1068]
    refine ⟨by decide, ?_⟩
    rw [w1]
    clear w1
    obtain ⟨Y1, hY1⟩ : ∃ Y1, Y1 = vi_ynew Y F 1 216 := ⟨_, rfl⟩
    have hbl : kBl Y Y1 127 := by rw [hY1]; exact kBl_n (by omega)
    have hYY := lwY_bl hY hbl
    have tF : Y1.1 F = 1 ∧ (Y1.2.1 F : Int) = 216 := by rw [hY1, yn1, yn2]; exact ⟨rfl, rfl⟩
    have hOb : ∀ c, O c = true → bxS (fK x y z t L) c = true := fun c h => by
      rw [hOe] at h
      unfold sDif at h
      rw [Bool.and_eq_true, hSe] at h
      exact lfS_b h.1
    have h126 : ∀ j, j < 216 → M 126 j = vi_b (O j) := fun j hj => (hD.2 j hj).2
    have st := lw_1082 (d := d) (Y := Y1) (nn := (F + 1, sl + 216)) (v := v) (F := F) (t := c) (Q := Q) (M := M) (a6 := a6) (a7 := a7) (a8 := a8) (a9 := a9) (a10 := a10) (a11 := a11) (a13 := a13) (a14 := (p : Int)) (a15 := a15) (a16 := w) hYY tF hF h126 hc (fun far hI l20 l21 l22 l23 l24 l25 => by
      refine lw_1126 (d := d) (Y := Y1) (M := M) (f := fK x y z t L) (t := c) hYY tF hF (by rw [rBx, hM]; exact ⟨g0, g1, g2⟩) ⟨b1, b2, b3⟩ h126 hOb (fun far2 hI2 hN2 a19 l20 l21 l22 l23 l24 l25 => ?_) (sS 216 far + 1) far (by omega) hI l20 l21 l22 l23 l24 l25
      refine lw_1234 (d := d) (Y := Y1) (far := far2) hYY tF hF hSe hOe hr hp hpb hc hcb hI2 hN2 ⟨pS_o hS (by omega), ⟨(vi_rs_o (by omega)).trans hD.1, fun j hj => by rw [vi_rs_o (by omega), vi_rs_o (by omega)]; exact hD.2 j hj⟩, vi_rs_s⟩ (fun M' hS' hD' a20 a21 a22 l23 l24 l25 => ?_)
      exact hQ Y1 M' hYY hS' hD' w (c : Int) a19 a20 a21 a22 l23 l24 l25) 0 (by omega) (fun _ => 0) (fun j hj => absurd hj (by omega)) l20 l21 l22 l23 l24 l25
    have st : vi_ok GG (d + 72) 0 1082 [some (.inr (.inr 1)), some (.inr (.inr 29)), some (.inr (.inr 112)), some (.inl v), some (.inr (.inr 125)), some (.inr (.inr 126)), some (.inl a6), some (.inl a7), some (.inl a8), some (.inl a9), some (.inl a10), some (.inl a11), some (.inr (.inr 127)), some (.inl a13), some (.inl (p : Int)), some (.inl a15), some (.inl w), some (.inl (c : Int)), some (.inr (.inr F)), some (.inl 0), l20, l21, l22, l23, l24, l25] [] (Y1, vi_rs M F (fun _ => 0), F + 1, sl + 216) Q := st
    rw [hY1] at st
    rw [s_0_1077]
    exact st
  have st1053 : ∀ A B : Int, (0 ≤ A ∧ A < x) → (0 ≤ B ∧ B < y) → vi_ok GG (d + 72) 0 1053 [some (.inr (.inr 1)), some (.inr (.inr 29)), some (.inr (.inr 112)), some (.inl v), some (.inr (.inr 125)), some (.inr (.inr 126)), some (.inl a6), some (.inl a7), some (.inl a8), some (.inl a9), some (.inl a10), some (.inl a11), some (.inr (.inr 127)), some (.inl a13), some (.inl (p : Int)), some (.inl a15), some (.inl w), l17, l18, l19, l20, l21, l22, l23, l24, l25] [.inl B, .inl 6, .inl A] (Y, M, F, sl) Q := by
    intro A B hA hBB
    obtain ⟨b1, b2, b3⟩ := hb
    have k234 : ∀ (u : Int) (K : Option vi_V → vi_W → Prop), vi_call GG (d + 72) 234 [.inl u, .inl z] (Y, M, F, sl) K ↔ K (some (.inl (u % z))) (Y, M, F, sl) := fun u K => @lk_234 (d + 71) K Y M (F, sl) u z (by omega) (by omega)
    have st := fun u : Int => st1068 A B (u % z) hA hBB ⟨Int.emod_nonneg _ (by omega), Int.emod_lt_of_pos _ (by omega)⟩
    clear st1068 hQ hS hD hr gc hSe hOe
    simp (disch := omega) only [Option.toList_some, Option.toList_none, List.nil_append, List.cons_append, List.append_nil, true_and, and_true, not_true_eq_false, not_false_eq_true, true_implies, false_implies, implies_true, and_self, Int.reduceLT, Int.reduceLE, Int.reduceEq, Int.reduceNe, Int.reduceAdd, Int.reduceSub, Int.reduceMul, Int.reduceNeg, Int.reduceToNat, Int.toNat_natCast, ↓kk_ck, ↓kk_im, ↓kk_in, s_0_1053, s_0_1065, t1, t2, z2, hM, g2, k234, @vi_32 (6 * B) (by omega) (by omega), @vi_32 (A + 6 * B) (by omega) (by omega)]
    exact st _
  have st1040 : ∀ A : Int, (0 ≤ A ∧ A < x) → vi_ok GG (d + 72) 0 1040 [some (.inr (.inr 1)), some (.inr (.inr 29)), some (.inr (.inr 112)), some (.inl v), some (.inr (.inr 125)), some (.inr (.inr 126)), some (.inl a6), some (.inl a7), some (.inl a8), some (.inl a9), some (.inl a10), some (.inl a11), some (.inr (.inr 127)), some (.inl a13), some (.inl (p : Int)), some (.inl a15), some (.inl w), l17, l18, l19, l20, l21, l22, l23, l24, l25] [.inl A] (Y, M, F, sl) Q := by
    intro A hA
    obtain ⟨b1, b2, b3⟩ := hb
    have k234 : ∀ (u : Int) (K : Option vi_V → vi_W → Prop), vi_call GG (d + 72) 234 [.inl u, .inl y] (Y, M, F, sl) K ↔ K (some (.inl (u % y))) (Y, M, F, sl) := fun u K => @lk_234 (d + 71) K Y M (F, sl) u y (by omega) (by omega)
    have st := fun u : Int => st1053 A (u % y) hA ⟨Int.emod_nonneg _ (by omega), Int.emod_lt_of_pos _ (by omega)⟩
    clear st1068 st1053 hQ hS hD hr gc hSe hOe
    simp (disch := omega) only [Option.toList_some, Option.toList_none, List.nil_append, List.cons_append, List.append_nil, true_and, and_true, not_true_eq_false, not_false_eq_true, true_implies, false_implies, implies_true, and_self, Int.reduceLT, Int.reduceLE, Int.reduceEq, Int.reduceNe, Int.reduceAdd, Int.reduceSub, Int.reduceMul, Int.reduceNeg, Int.reduceToNat, Int.toNat_natCast, ↓kk_ck, ↓kk_im, ↓kk_in, s_0_1040, s_0_1050, t1, t2, z1, hM, g1, k234]
    exact st _
  obtain ⟨b1, b2, b3⟩ := hb
  have k234 : ∀ (u : Int) (K : Option vi_V → vi_W → Prop), vi_call GG (d + 72) 234 [.inl u, .inl x] (Y, M, F, sl) K ↔ K (some (.inl (u % x))) (Y, M, F, sl) := fun u K => @lk_234 (d + 71) K Y M (F, sl) u x (by omega) (by omega)
  have st := fun u : Int => st1040 (u % x) ⟨Int.emod_nonneg _ (by omega), Int.emod_lt_of_pos _ (by omega)⟩
  clear st1068 st1053 st1040 hQ hS hD hr gc hSe hOe
  simp (disch := omega) only [Option.toList_some, Option.toList_none, List.nil_append, List.cons_append, List.append_nil, true_and, and_true, not_true_eq_false, not_false_eq_true, true_implies, false_implies, implies_true, and_self, Int.reduceLT, Int.reduceLE, Int.reduceEq, Int.reduceNe, Int.reduceAdd, Int.reduceSub, Int.reduceMul, Int.reduceNeg, Int.reduceToNat, Int.toNat_natCast, ↓kk_ck, ↓kk_im, ↓kk_in, s_0_1028, s_0_1037, t1, t2, z0, hM, g0, k234]
  exact st _
theorem lw_1004 {sl : Nat} (hSe : S = lfS (fK x y z t L) lw L.length) (hOe : O = sDif S (shS (fK x y z t L) lw L.length)) (hr : bxR g (fK x y z t L) fl 216 (fun c => mAt (fK x y z t L) (c : Int) L.length)) {p : Nat} (hp : p < 216) (hpb : bxS (fK x y z t L) p = true)
    (hQ : ∀ (Y' : vi_Y) (M' : vi_M), lwY Y' ln → wS M' x y z t L [] lw 1 fo → lwD M' g S O → ∀ (a15 : Int) l16 l17 l18 l19 l20 l21 l22 l23 l24 l25, vi_ok GG (d + 72) 0 1436 [some (.inr (.inr 1)), some (.inr (.inr 29)), some (.inr (.inr 112)), some (.inl v), some (.inr (.inr 125)), some (.inr (.inr 126)), some (.inl a6), some (.inl a7), some (.inl a8), some (.inl a9), some (.inl a10), some (.inl a11), some (.inr (.inr 127)), some (.inl a13), some (.inl (p : Int)), some (.inl a15), l16, l17, l18, l19, l20, l21, l22, l23, l24, l25] [] (Y', M', 128 + 3, sl + 216 * 3) Q) :
    ∀ k : Nat, k ≤ 3 → ∀ (Y : vi_Y) (M : vi_M), lwY Y ln → wS M x y z t L [] lw 1 fo → lwD M g S O → ∀ l16 l17 l18 l19 l20 l21 l22 l23 l24 l25, vi_ok GG (d + 72) 0 1004 [some (.inr (.inr 1)), some (.inr (.inr 29)), some (.inr (.inr 112)), some (.inl v), some (.inr (.inr 125)), some (.inr (.inr 126)), some (.inl a6), some (.inl a7), some (.inl a8), some (.inl a9), some (.inl a10), some (.inl a11), some (.inr (.inr 127)), some (.inl a13), some (.inl (p : Int)), some (.inl (k : Int)), l16, l17, l18, l19, l20, l21, l22, l23, l24, l25] [] (Y, M, 128 + k, sl + 216 * k) Q := by
  refine vi_dn 3 ?_ ?_
  · intro Y M hY hS hD l16 l17 l18 l19 l20 l21 l22 l23 l24 l25
    have q := hQ Y M hY hS hD ((3 : Nat) : Int) l16 l17 l18 l19 l20 l21 l22 l23 l24 l25
    rw [s_0_1004]
    clear hQ hS hD hr hSe hOe
    simp (disch := omega) only [Option.toList_some, Option.toList_none, List.nil_append, List.cons_append, List.append_nil, true_and, and_true, not_true_eq_false, not_false_eq_true, true_implies, false_implies, implies_true, and_self, Int.reduceLT, Int.reduceLE, Int.reduceEq, Int.reduceNe, Int.reduceAdd, Int.reduceSub, Int.reduceMul, Int.reduceNeg, Int.reduceToNat, Int.toNat_natCast, ↓kk_ck, ↓kk_im, ↓kk_in]
    exact q
  · intro k hk ih Y M hY hS hD l16 l17 l18 l19 l20 l21 l22 l23 l24 l25
    have st := lw_1028 (d := d) (v := v) (Q := Q) (F := 128 + k) (sl := sl + 216 * k) (a6 := a6) (a7 := a7) (a8 := a8) (a9 := a9) (a10 := a10) (a11 := a11) (a13 := a13) (a15 := (k : Int)) (l16 := l16) (l17 := l17) (l18 := l18) (l19 := l19) (l20 := l20) (l21 := l21) (l22 := l22) (l23 := l23) (l24 := l24) (l25 := l25) hY (by omega) hSe hOe hr hp hpb hS hD (fun Y' M' hY' hS' hD' a16 a17 a19 a20 a21 a22 l23 l24 l25 => by
      have q := ih Y' M' hY' hS' hD' (some (.inl a16)) (some (.inl a17)) (some (.inr (.inr (128 + k)))) (some (.inl a19)) (some (.inl a20)) (some (.inl a21)) (some (.inl a22)) l23 l24 l25
      clear hQ hS hD hr hSe hOe ih hY hY' hS' hD'
      rw [show 128 + (k + 1) = 128 + k + 1 from rfl, show sl + 216 * (k + 1) = sl + 216 * k + 216 from by omega] at q
      rw [s_0_1430, vi_inc (by omega)]
      exact q)
    obtain ⟨-, ⟨s1, s2⟩, -, -, -⟩ := hY
    have s2 : (Y.2.1 1 : Int) = (ln : Int) := by rw [s2]
    rw [s_0_1004]
    refine ⟨fun h => absurd h (by omega), fun _ => ?_⟩
    rw [s_0_1010]
    refine ⟨s1, ?_⟩
    rw [s2, s_0_1012]
    refine ⟨fun _ => ?_, fun h => ?_⟩
    · rw [s_0_1024]
      exact st _
    · rw [s_0_1017]
      refine ⟨⟨s1, by omega, by omega⟩, ?_⟩
      rw [s_0_1021]
      exact st _
theorem lw_962 (hY : lwY Y ln) (hr : bxR g (fK x y z t L) fl 216 (fun c => mAt (fK x y z t L) (c : Int) L.length)) {M : vi_M} (hb : gB x y z) (hM : M 112 = g) {l15 l16 l17 l18 l19 l20 l21 l22 l23 l24 l25 : Option vi_V}
    (hQ : ∀ p : Nat, p < 216 → bxS (fK x y z t L) p = true → vi_ok GG (d + 72) 0 1004 [some (.inr (.inr 1)), some (.inr (.inr 29)), some (.inr (.inr 112)), some (.inl v), some (.inr (.inr 125)), some (.inr (.inr 126)), some (.inl a6), some (.inl a7), some (.inl a8), some (.inl a9), some (.inl a10), some (.inl a11), some (.inr (.inr 127)), some (.inl a13), some (.inl (p : Int)), some (.inl 0), l16, l17, l18, l19, l20, l21, l22, l23, l24, l25] [] (Y, M, nn) Q) : vi_ok GG (d + 72) 0 962 [some (.inr (.inr 1)), some (.inr (.inr 29)), some (.inr (.inr 112)), some (.inl v), some (.inr (.inr 125)), some (.inr (.inr 126)), some (.inl a6), some (.inl a7), some (.inl a8), some (.inl a9), some (.inl a10), some (.inl a11), some (.inr (.inr 127)), some (.inl a13), some (.inl a14), l15, l16, l17, l18, l19, l20, l21, l22, l23, l24, l25] [] (Y, M, nn) Q := by
  obtain ⟨⟨y1, y2⟩, -, ⟨t1, t2⟩, -, -⟩ := hY
  obtain ⟨⟨g0, g1, g2, g3, g5⟩, -⟩ := hr
  have g0 : g 0 = x := g0
  have g1 : g 1 = y := g1
  have g2 : g 2 = z := g2
  have z0 : (0 : Int).toNat = 0 := rfl
  have z1 : (1 : Int).toNat = 1 := rfl
  have z2 : (2 : Int).toNat = 2 := rfl
  have st997 : ∀ A B C : Int, (0 ≤ A ∧ A < x) → (0 ≤ B ∧ B < y) → (0 ≤ C ∧ C < z) → vi_ok GG (d + 72) 0 997 [some (.inr (.inr 1)), some (.inr (.inr 29)), some (.inr (.inr 112)), some (.inl v), some (.inr (.inr 125)), some (.inr (.inr 126)), some (.inl a6), some (.inl a7), some (.inl a8), some (.inl a9), some (.inl a10), some (.inl a11), some (.inr (.inr 127)), some (.inl a13), some (.inl a14), l15, l16, l17, l18, l19, l20, l21, l22, l23, l24, l25] [.inl C, .inl 36, .inl (A + 6 * B)] (Y, M, nn) Q := by
    intro A B C hA hBB hC
    obtain ⟨c, ec, hc, hcb⟩ := @cell_b x y z t L hb A B C hA hBB hC
    obtain ⟨b1, b2, b3⟩ := hb
    have w1 : vi_w32 (A + 6 * B + vi_w32 (36 * C)) = (c : Int) := by rw [@vi_32 (36 * C) (by omega) (by omega), ec, vi_32 (by omega) (by omega)]
    rw [s_0_997, w1]
    exact hQ c hc hcb
  have st983 : ∀ A B : Int, (0 ≤ A ∧ A < x) → (0 ≤ B ∧ B < y) → vi_ok GG (d + 72) 0 983 [some (.inr (.inr 1)), some (.inr (.inr 29)), some (.inr (.inr 112)), some (.inl v), some (.inr (.inr 125)), some (.inr (.inr 126)), some (.inl a6), some (.inl a7), some (.inl a8), some (.inl a9), some (.inl a10), some (.inl a11), some (.inr (.inr 127)), some (.inl a13), some (.inl a14), l15, l16, l17, l18, l19, l20, l21, l22, l23, l24, l25] [.inl B, .inl 6, .inl A] (Y, M, nn) Q := by
    intro A B hA hBB
    obtain ⟨b1, b2, b3⟩ := hb
    have k234 : ∀ (u : Int) (K : Option vi_V → vi_W → Prop), vi_call GG (d + 72) 234 [.inl u, .inl z] (Y, M, nn) K ↔ K (some (.inl (u % z))) (Y, M, nn) := fun u K => @lk_234 (d + 71) K Y M nn u z (by omega) (by omega)
    have st := fun u : Int => st997 A B (u % z) hA hBB ⟨Int.emod_nonneg _ (by omega), Int.emod_lt_of_pos _ (by omega)⟩
    clear st997 hQ
    simp (disch := omega) only [Option.toList_some, Option.toList_none, List.nil_append, List.cons_append, List.append_nil, true_and, and_true, not_true_eq_false, not_false_eq_true, true_implies, false_implies, implies_true, and_self, Int.reduceLT, Int.reduceLE, Int.reduceEq, Int.reduceNe, Int.reduceAdd, Int.reduceSub, Int.reduceMul, Int.reduceNeg, Int.reduceToNat, Int.toNat_natCast, ↓kk_ck, ↓kk_im, ↓kk_in, s_0_983, s_0_994, t1, t2, z2, hM, g2, k234, @vi_32 (6 * B) (by omega) (by omega), @vi_32 (A + 6 * B) (by omega) (by omega)]
    exact st _
  have st971 : ∀ A : Int, (0 ≤ A ∧ A < x) → vi_ok GG (d + 72) 0 971 [some (.inr (.inr 1)), some (.inr (.inr 29)), some (.inr (.inr 112)), some (.inl v), some (.inr (.inr 125)), some (.inr (.inr 126)), some (.inl a6), some (.inl a7), some (.inl a8), some (.inl a9), some (.inl a10), some (.inl a11), some (.inr (.inr 127)), some (.inl a13), some (.inl a14), l15, l16, l17, l18, l19, l20, l21, l22, l23, l24, l25] [.inl A] (Y, M, nn) Q := by
    intro A hA
    obtain ⟨b1, b2, b3⟩ := hb
    have k234 : ∀ (u : Int) (K : Option vi_V → vi_W → Prop), vi_call GG (d + 72) 234 [.inl u, .inl y] (Y, M, nn) K ↔ K (some (.inl (u % y))) (Y, M, nn) := fun u K => @lk_234 (d + 71) K Y M nn u y (by omega) (by omega)
    have st := fun u : Int => st983 A (u % y) hA ⟨Int.emod_nonneg _ (by omega), Int.emod_lt_of_pos _ (by omega)⟩
    clear st997 st983 hQ
    simp (disch := omega) only [Option.toList_some, Option.toList_none, List.nil_append, List.cons_append, List.append_nil, true_and, and_true, not_true_eq_false, not_false_eq_true, true_implies, false_implies, implies_true, and_self, Int.reduceLT, Int.reduceLE, Int.reduceEq, Int.reduceNe, Int.reduceAdd, Int.reduceSub, Int.reduceMul, Int.reduceNeg, Int.reduceToNat, Int.toNat_natCast, ↓kk_ck, ↓kk_im, ↓kk_in, s_0_971, s_0_980, t1, t2, z1, hM, g1, k234]
    exact st _
  obtain ⟨b1, b2, b3⟩ := hb
  have k234 : ∀ (u : Int) (K : Option vi_V → vi_W → Prop), vi_call GG (d + 72) 234 [.inl u, .inl x] (Y, M, nn) K ↔ K (some (.inl (u % x))) (Y, M, nn) := fun u K => @lk_234 (d + 71) K Y M nn u x (by omega) (by omega)
  have st := fun u : Int => st971 (u % x) ⟨Int.emod_nonneg _ (by omega), Int.emod_lt_of_pos _ (by omega)⟩
  clear st997 st983 st971 hQ
  simp (disch := omega) only [Option.toList_some, Option.toList_none, List.nil_append, List.cons_append, List.append_nil, true_and, and_true, not_true_eq_false, not_false_eq_true, true_implies, false_implies, implies_true, and_self, Int.reduceLT, Int.reduceLE, Int.reduceEq, Int.reduceNe, Int.reduceAdd, Int.reduceSub, Int.reduceMul, Int.reduceNeg, Int.reduceToNat, Int.toNat_natCast, ↓kk_ck, ↓kk_im, ↓kk_in, s_0_962, s_0_968, t1, t2, z0, hM, g0, k234]
  exact st _
end
