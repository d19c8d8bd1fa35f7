/-! The property of its own: its method, from end to end. -/
theorem bN_n : ∀ q, bN q (fun _ => false) = 0
  | 0 => rfl
  | q + 1 => by rw [bN, bN_n q]; simp
theorem cR_z : cR (fun _ => false) = fun _ => 0 := funext fun z => by
  unfold cR
  split
  · rw [cL_i]
    show ((bN 36 (fun _ => false) : Nat) : Int) = 0
    rw [bN_n]
    rfl
  · rfl
theorem jV_s {M : vi_M} {f : Nat → Int} (z5 : bxF f) (hS : rSz f (M 30)) (hHs : rHs f []) (e1 : M 61 = vi_m 216 (fun c => (hC (f 96) (f 97) (f 98) [] (c : Int) : Int)) (fun _ => 0)) (e2 : M 62 = gW (f 96) (f 97) (f 98) [] gNo 216 (fun _ => 0)) (e3 : M 64 = cR (sBox (f 96) (f 97) (f 98))) (e4 : M 66 = cR (gP (f 96) (f 97) (f 98) [] gNo 216)) (e5 : M 68 = cR (gS (f 96) (f 97) (f 98) [] gNo 216)) : jV M f none 0 := by
  have hat : ∀ c : Nat, (hC (f 96) (f 97) (f 98) [] (c : Int) : Int) = mAt f (c : Int) 0 := fun c => hC_at z5 hHs (by omega)
  have hg : gNo = lwG (M 30) none := rfl
  rw [hg] at e2 e4 e5
  refine ⟨fun c hc => ?_, fun c hc hx => ?_, ?_, ?_, ?_⟩
  · rw [e1]
    unfold vi_m
    rw [if_pos hc]
    exact hat c
  · rw [e2]
    unfold gW
    rw [if_pos ⟨hc, by rw [bx_eq hc]; exact hx⟩]
    rw [hat c, lwG_eq hS hx]
  · rw [e3]; exact cR_c fun c hc => bx_eq hc
  · rw [e4]
    refine cR_c fun c hc => ?_
    unfold gP
    rw [bx_eq hc, decide_eq_false (show ¬ 216 ≤ c by omega), Bool.false_or]
    show _ = mLf (rowM f) none 0 c
    unfold mLf
    show (bxS f c && _) = (bxS f c && decide (mAt f (c : Int) 0 = 0) && _)
    cases hx : bxS f c with
    | false => rfl
    | true =>
      rw [Bool.true_and, Bool.true_and]
      have e0 : decide (hC (f 96) (f 97) (f 98) [] (c : Int) = 0) = decide (mAt f (c : Int) 0 = 0) := by
        rw [decide_eq_decide, ← hat c]; omega
      rw [e0, hat c, lwG_eq hS hx]
      rfl
  · rw [e5]
    refine cR_c fun c hc => ?_
    unfold gS
    rw [bx_eq hc, decide_eq_true hc, Bool.true_and]
    show (bxS f c && _) = (bxS f c && _)
    cases hx : bxS f c with
    | false => rfl
    | true =>
      rw [Bool.true_and, Bool.true_and, hat c, lwG_eq hS hx]
theorem y30 : yoM 30 (fun _ => 0) lC 8 = 5 ∧ yoM 30 (fun _ => 0) lC 9 = 5 ∧ yoM 30 (fun _ => 0) lC 10 = 5 ∧ yoM 30 (fun _ => 0) lC 11 = 0 ∧ yoM 30 (fun _ => 0) lC 6 = 0 ∧ yoM 30 (fun _ => 0) lC 7 = -1 ∧ yoM 31 (fun _ => 0) lC 2 = 0 ∧ yoM 33 (fun _ => 0) lC 2 = 0 ∧ yoM 35 (fun _ => 0) lC 2 = 0 := by decide +kernel
theorem y111 : yoM 111 (fun _ => 0) lC 0 = 0 ∧ yoM 73 (fun _ => 0) lC 3 = 0 ∧ (yoM 88 (fun _ => 0) lC 4).toNat = 95 ∧ (yoM 88 (fun _ => 0) lC 5).toNat = 96 := by decide +kernel
set_option maxRecDepth 100000 in
theorem y74 : yoM 74 (fun _ => 0) lC = fun _ => 0 := rfl
set_option maxRecDepth 100000 in
theorem yCe70 : yoM 70 (fun _ => 0) lC = fun _ => 0 := rfl
set_option maxRecDepth 100000 in
theorem yCe72 : yoM 72 (fun _ => 0) lC = fun _ => 0 := rfl
set_option maxRecDepth 100000 in
theorem yCe81 : yoM 81 (fun _ => 0) lC = fun _ => 0 := rfl
set_option maxRecDepth 100000 in
theorem yCe83 : yoM 83 (fun _ => 0) lC = fun _ => 0 := rfl
set_option maxRecDepth 100000 in
theorem yCe85 : yoM 85 (fun _ => 0) lC = fun _ => 0 := rfl
set_option maxRecDepth 100000 in
theorem yCe87 : yoM 87 (fun _ => 0) lC = fun _ => 0 := rfl
set_option maxRecDepth 100000 in
theorem yCe90 : yoM 90 (fun _ => 0) lC = fun _ => 0 := rfl
set_option maxRecDepth 100000 in
theorem yCe92 : yoM 92 (fun _ => 0) lC = fun _ => 0 := rfl
set_option maxRecDepth 100000 in
theorem yCe94 : yoM 94 (fun _ => 0) lC = fun _ => 0 := rfl
set_option maxRecDepth 100000 in
theorem yCe102 : yoM 102 (fun _ => 0) lC = fun _ => 0 := rfl
theorem tM_0 : tM 0 = fun _ => 0 := funext fun p => if_neg (by omega)
section
variable {d ln : Nat} {Y : vi_Y} {M : vi_M} {v x y z t fl fo : Int} {L : List (Nat → Int)} {lw : Option (List gCla)} {Q : Option vi_V → vi_W → Prop}
theorem w_start (c61 : M 61 = vi_m 216 (fun c => (hC 5 5 5 [] (c : Int) : Int)) (fun _ => 0)) (c62 : M 62 = gW 5 5 5 [] gNo 216 (fun _ => 0)) (c64 : M 64 = cR (sBox 5 5 5)) (c66 : M 66 = cR (gP 5 5 5 [] gNo 216)) (c68 : M 68 = cR (gS 5 5 5 [] gNo 216))
    (cC : ∀ p, 30 ≤ p → p < 112 → p ≠ 61 → p ≠ 62 → p ≠ 64 → p ≠ 66 → p ≠ 68 → M p = yoM p (fun _ => 0) lC) : wS M 5 5 5 0 [] [] none 0 (-1) ∧ M 73 3 = 0 ∧ M 74 = tM 0 := by
  have c30 := cC 30 (by decide) (by decide) (by decide) (by decide) (by decide) (by decide) (by decide)
  have c31 := cC 31 (by decide) (by decide) (by decide) (by decide) (by decide) (by decide) (by decide)
  have c33 := cC 33 (by decide) (by decide) (by decide) (by decide) (by decide) (by decide) (by decide)
  have c35 := cC 35 (by decide) (by decide) (by decide) (by decide) (by decide) (by decide) (by decide)
  have c73 := cC 73 (by decide) (by decide) (by decide) (by decide) (by decide) (by decide) (by decide)
  have c74 := cC 74 (by decide) (by decide) (by decide) (by decide) (by decide) (by decide) (by decide)
  have c88 := cC 88 (by decide) (by decide) (by decide) (by decide) (by decide) (by decide) (by decide)
  have c111 := cC 111 (by decide) (by decide) (by decide) (by decide) (by decide) (by decide) (by decide)
  obtain ⟨x8, x9, x10, x11, x6, x7, x31, x33, x35⟩ := y30
  obtain ⟨u0, u73, u88, u885⟩ := y111
  have hb : gB 5 5 5 := by unfold gB; decide
  have hz : rSz (fK 5 5 5 0 []) (M 30) := ⟨by rw [c30, x8]; rfl, by rw [c30, x9]; rfl, by rw [c30, x10]; rfl, by rw [c30, x11]; rfl, hb, by show (0 : Int) ≤ 0 ∧ (0 : Int) ≤ 99; decide⟩
  have hho : hsOK 5 5 5 [] := ⟨Nat.zero_le _, fun r hr => absurd hr (Nat.not_lt_zero _)⟩
  have hce : ∀ q, (30 ≤ q ∧ q < 112 ∧ q ≠ 61 ∧ q ≠ 62 ∧ q ≠ 64 ∧ q ≠ 66 ∧ q ≠ 68) → yoM q (fun _ => 0) lC = (fun _ => 0) → ∃ S, M q = cR S := fun q hq h => ⟨fun _ => false, by rw [cR_z, cC q hq.1 hq.2.1 hq.2.2.1 hq.2.2.2.1 hq.2.2.2.2.1 hq.2.2.2.2.2.1 hq.2.2.2.2.2.2, h]⟩
  refine ⟨⟨⟨⟨⟨by rw [c31, x31]; rfl, fun r j hr => absurd hr (Nat.not_lt_zero _)⟩, ⟨by rw [c33, x33]; rfl, fun r j hr => absurd hr (Nat.not_lt_zero _)⟩, ⟨by rw [c35, x35]; rfl, fun r j hr => absurd hr (Nat.not_lt_zero _)⟩⟩, ⟨hho, Nat.zero_le _⟩, hz, ⟨by rw [c30, x6]; rfl, by rw [c30, x7]⟩, ⟨fun q hq => ?_, ?_⟩, by rw [c111, u0]; decide⟩, ?_⟩, by rw [c73, u73], by rw [c74, y74, tM_0]⟩
  · rcases hq with h | h | h | h | h | h | h | h | h | h
    · subst h; exact hce 70 (by decide) yCe70
    · subst h; exact hce 72 (by decide) yCe72
    · subst h; exact hce 81 (by decide) yCe81
    · subst h; exact hce 83 (by decide) yCe83
    · subst h; exact hce 85 (by decide) yCe85
    · subst h; exact hce 87 (by decide) yCe87
    · subst h; exact hce 90 (by decide) yCe90
    · subst h; exact hce 92 (by decide) yCe92
    · subst h; exact hce 94 (by decide) yCe94
    · subst h; exact hce 102 (by decide) yCe102
  · show vOr (M 88)
    rw [c88]
    exact .inl ⟨u88, u885⟩
  · have f96 : fK 5 5 5 0 [] 96 = 5 := rfl
    have f97 : fK 5 5 5 0 [] 97 = 5 := rfl
    have f98 : fK 5 5 5 0 [] 98 = 5 := rfl
    exact jV_s (f := fK 5 5 5 0 []) hb hz (fK_H hho) (by rw [f96, f97, f98]; exact c61) (by rw [f96, f97, f98]; exact c62) (by rw [f96, f97, f98]; exact c64) (by rw [f96, f97, f98]; exact c66) (by rw [f96, f97, f98]; exact c68)
/-- from the first CELL on -/
theorem law_61 {sl : Nat} (hY : lwY Y ln) (hbt : boxT lw fl fo) (hr : bxR (M 112) (fK x y z t L) fl 216 (fun c => mAt (fK x y z t L) (c : Int) L.length)) (hS : wS M x y z t L [] lw 1 fo) (h0 : ∀ j, j < 216 → M 125 j = 0 ∧ M 126 j = 0)
    (hQ : ∀ w, w.2.2.1 = 131 → w.2.2.2 = sl + 864 → Q (some (.inl 1)) w) {l11 l12 l13 l14 l15 l16 l17 l18 l19 l20 l21 l22 l23 l24 l25 : Option vi_V} : vi_ok GG (d + 72) 0 61 [some (.inr (.inr 1)), some (.inr (.inr 29)), some (.inr (.inr 112)), some (.inl v), some (.inr (.inr 125)), some (.inr (.inr 126)), some (.inl 0), some (.inl 0), some (.inl 0), some (.inl 0), some (.inl 0), l11, l12, l13, l14, l15, l16, l17, l18, l19, l20, l21, l22, l23, l24, l25] [] (Y, M, 127, sl) Q := by
  obtain ⟨S, hSe⟩ : ∃ S, S = lfS (fK x y z t L) lw L.length := ⟨_, rfl⟩
  obtain ⟨O, hOe⟩ : ∃ O, O = sDif S (shS (fK x y z t L) lw L.length) := ⟨_, rfl⟩
  have hB : bxF (fK x y z t L) := hS.1.2.2.1.2.2.2.2.1
  have hSb : ∀ c, S c = true → bxS (fK x y z t L) c = true := fun c h => by rw [hSe] at h; exact lfS_b h
  have rg := hr.1
  have r0 : M 112 0 = x := rg.1
  have r1 : M 112 1 = y := rg.2.1
  have r2 : M 112 2 = z := rg.2.2.1
  generalize hg : M 112 = g at *
  have e0 : lfV (fK x y z t L) lw L.length 0 = (sN 216 S : Int) := by rw [hSe]; rfl
  have e1 : lfV (fK x y z t L) lw L.length 1 = sW 216 S (fun c => wtE x y z fl (c : Int)) := by
    have : lfV (fK x y z t L) lw L.length 1 = sW 216 (lfS (fK x y z t L) lw L.length) (fun c => (tlS (fK x y z t L) lw L.length c).2.2) := rfl
    rw [this, ← hSe]
    refine sW_c 216 fun c _ hc => ?_
    rw [tl_f hbt (hSb c hc)]
  have e2 : lfV (fK x y z t L) lw L.length 2 = (mLa (mmS (fK x y z t L) S) 216).2.1 := by
    rw [lf_2 hB hSb, hSe]; rfl
  have e3 : lfV (fK x y z t L) lw L.length 3 = (mLa (mmS (fK x y z t L) S) 216).2.2 := by
    rw [lf_3 hB hSb, hSe]; rfl
  generalize hm1 : (sN 216 S : Int) = m1 at *
  generalize hm2 : sW 216 S (fun c => wtE x y z fl (c : Int)) = m2 at *
  have c1004 : ∀ (Y : vi_Y) (M : vi_M), lwY Y ln → wS M x y z t L [] lw 1 fo → lwD M g S O → ∀ (p : Nat), p < 216 → bxS (fK x y z t L) p = true → ∀ (a6 a7 a8 a9 a10 a11 a13 : Int) l16 l17 l18 l19 l20 l21 l22 l23 l24 l25, vi_ok GG (d + 72) 0 1004 [some (.inr (.inr 1)), some (.inr (.inr 29)), some (.inr (.inr 112)), some (.inl v), some (.inr (.inr 125)), some (.inr (.inr 126)), some (.inl a6), some (.inl a7), some (.inl a8), some (.inl a9), some (.inl a10), some (.inl a11), some (.inr (.inr 127)), some (.inl a13), some (.inl (p : Int)), some (.inl 0), l16, l17, l18, l19, l20, l21, l22, l23, l24, l25] [] (Y, M, 128, sl + 216) Q := by
    intro Y M hY hS hD p hp hpb a6 a7 a8 a9 a10 a11 a13 l16 l17 l18 l19 l20 l21 l22 l23 l24 l25
    have st := lw_1004 (d := d) (ln := ln) (v := v) (fo := fo) (g := g) (S := S) (O := O) (Q := Q) (a6 := a6) (a7 := a7) (a8 := a8) (a9 := a9) (a10 := a10) (a11 := a11) (a13 := a13) (sl := sl + 216) hSe hOe hr hp hpb (fun Y' M' hY' hS' hD' a15 l16 l17 l18 l19 l20 l21 l22 l23 l24 l25 => lw_1436 hY' hS' (fun M'' => hQ _ rfl (by show sl + 216 + 216 * 3 = _; omega))) 0 (by omega) Y M hY hS hD l16 l17 l18 l19 l20 l21 l22 l23 l24 l25
    exact st
  have c962 : ∀ (Y : vi_Y) (M : vi_M), lwY Y ln → wS M x y z t L [] lw 1 fo → lwD M g S O → ∀ (a6 a7 a8 a9 a10 a11 a13 a14 : Int) l15 l16 l17 l18 l19 l20 l21 l22 l23 l24 l25, vi_ok GG (d + 72) 0 962 [some (.inr (.inr 1)), some (.inr (.inr 29)), some (.inr (.inr 112)), some (.inl v), some (.inr (.inr 125)), some (.inr (.inr 126)), some (.inl a6), some (.inl a7), some (.inl a8), some (.inl a9), some (.inl a10), some (.inl a11), some (.inr (.inr 127)), some (.inl a13), some (.inl a14), l15, l16, l17, l18, l19, l20, l21, l22, l23, l24, l25] [] (Y, M, 128, sl + 216) Q := by
    intro Y M hY hS hD a6 a7 a8 a9 a10 a11 a13 a14 l15 l16 l17 l18 l19 l20 l21 l22 l23 l24 l25
    exact lw_962 hY hr hB hD.1 fun p hp hpb => c1004 Y M hY hS hD p hp hpb a6 a7 a8 a9 a10 a11 a13 l16 l17 l18 l19 l20 l21 l22 l23 l24 l25
  have c464 : ∀ M : vi_M, wS M x y z t L [] lw 1 fo → lwD M g S O → ∀ l11 l12 l13 l14 l15 l16 l17 l18 l19 l20 l21 l22 l23 l24 l25, vi_ok GG (d + 72) 0 464 [some (.inr (.inr 1)), some (.inr (.inr 29)), some (.inr (.inr 112)), some (.inl v), some (.inr (.inr 125)), some (.inr (.inr 126)), some (.inl m1), some (.inl m2), some (.inl ((mLa (mmS (fK x y z t L) S) 216).2.1)), some (.inl ((mLa (mmS (fK x y z t L) S) 216).2.2)), some (.inl ((216 : Nat) : Int)), l11, l12, l13, l14, l15, l16, l17, l18, l19, l20, l21, l22, l23, l24, l25] [] (Y, M, 127, sl) Q := by
    intro M hS hD l11 l12 l13 l14 l15 l16 l17 l18 l19 l20 l21 l22 l23 l24 l25
    refine lw_464 hY e0 e1 e2 e3 hS hD fun M1 hS1 hD1 => ?_
    rw [s_0_515]
    refine lw_524a (d := d) (Q := Q) (O := O) hY r0 r1 r2 hSe (fun M2 R hW a12 l13 l14 l15 l16 l17 l18 l19 l20 l21 l22 l23 l24 l25 => ?_) 0 (by omega) M1 [] ⟨Nat.zero_le _, hS1, hD1⟩ l13 l14 l15 l16 l17 l18 l19 l20 l21 l22 l23 l24 l25
    refine lw_790 hY hSe hW fun M3 hS3 hD3 => ?_
    exact lw_818 hY hSe hr hS3 hD3 fun Y' M' hY' _ hS' hD' a13 a14 l15 l16 l17 l18 l19 l20 l21 l22 l23 l24 l25 => c962 Y' M' hY' hS' hD' _ _ _ _ _ _ a13 a14 l15 l16 l17 l18 l19 l20 l21 l22 l23 l24 l25
  have h61 := lw_61 (d := d) (Y := Y) (nn := (127, sl)) (v := v) (g := g) (Q := Q) hY hbt hr S O hSe hOe (fun M1 hS1 hC1 l11 l12 l13 l14 l15 l16 l17 l18 l19 l20 l21 l22 l23 l24 l25 => by
    have hD1 : lwD M1 g S O := ⟨hC1.1, hC1.2.1⟩
    have h350 := lw_350 (d := d) (Y := Y) (M := M1) (nn := (127, sl)) (v := v) (f := fK x y z t L) (S := S) (Q := Q) (a6 := m1) (a7 := m2) hY (by rw [rBx, hC1.1]; exact ⟨r0, r1, r2⟩) hB (fun j hj => (hC1.2.1 j hj).1) hSb (fun l11 l12 l13 l14 l15 l16 l17 l18 l19 l20 l21 l22 l23 l24 l25 => c464 M1 hS1 hD1 l11 l12 l13 l14 l15 l16 l17 l18 l19 l20 l21 l22 l23 l24 l25) 0 (by omega) l11 l12 l13 l14 l15 l16 l17 l18 l19 l20 l21 l22 l23 l24 l25
    rw [hm1, hm2, s_0_347]
    exact h350) 0 (by omega) M hS ⟨hg, fun j hj => absurd hj (Nat.not_lt_zero _), fun j _ hj => h0 j hj⟩ l11 l12 l13 l14 l15 l16 l17 l18 l19 l20 l21 l22 l23 l24 l25
  exact h61
/-- from the box on -/
theorem law_31 {sl : Nat} (h1 : kY Y 112) (h9 : kY9 Y) (ts : Y.1 1 = 11 ∧ Y.2.1 1 = ln) (tr : Y.1 112 = 1 ∧ (Y.2.1 112 : Int) = 222) (hbt : boxT lw fl fo) (hr : bxR (M 112) (fK x y z t L) fl 216 (fun c => mAt (fK x y z t L) (c : Int) L.length)) (hS : wS M x y z t L [] lw 1 fo)
    (hQ : ∀ w, w.2.2.1 = 131 → w.2.2.2 = sl + 1296 → Q (some (.inl 1)) w) {l3 l4 l5 l6 l7 l8 l9 l10 l11 l12 l13 l14 l15 l16 l17 l18 l19 l20 l21 l22 l23 l24 l25 : Option vi_V} : vi_ok GG (d + 72) 0 31 [some (.inr (.inr 1)), some (.inr (.inr 29)), some (.inr (.inr 112)), l3, l4, l5, l6, l7, l8, l9, l10, l11, l12, l13, l14, l15, l16, l17, l18, l19, l20, l21, l22, l23, l24, l25] [.inl v] (Y, M, 125, sl) Q := by
  obtain ⟨Y1, hY1⟩ : ∃ Y1, Y1 = vi_ynew Y 125 4 216 := ⟨_, rfl⟩
  obtain ⟨Y2, hY2⟩ : ∃ Y2, Y2 = vi_ynew Y1 126 4 216 := ⟨_, rfl⟩
  have hb1 : kBl Y Y1 125 := by rw [hY1]; exact kBl_n (Nat.le_refl _)
  have hb2 : kBl Y1 Y2 126 := by rw [hY2]; exact kBl_n (Nat.le_refl _)
  have hb : kBl Y Y2 125 := fun p hp => ⟨((hb2 p (by omega)).1).trans (hb1 p hp).1, ((hb2 p (by omega)).2.1).trans (hb1 p hp).2.1, ((hb2 p (by omega)).2.2).trans (hb1 p hp).2.2⟩
  have t125 : Y2.1 125 = 4 ∧ (Y2.2.1 125 : Int) = 216 := by
    obtain ⟨e1, e2, -⟩ := hb2 125 (by decide)
    rw [e1, e2, hY1, yn1, yn2]; exact ⟨rfl, rfl⟩
  have t126 : Y2.1 126 = 4 ∧ (Y2.2.1 126 : Int) = 216 := by rw [hY2, yn1, yn2]; exact ⟨rfl, rfl⟩
  have hYY : lwY Y2 ln := ⟨⟨kY_bl h1 hb (by decide), kY9_bl h9 hb (by decide)⟩, ⟨(hb 1 (by decide)).1.trans ts.1, (hb 1 (by decide)).2.1.trans ts.2⟩, ⟨(hb 112 (by decide)).1.trans tr.1, by rw [(hb 112 (by decide)).2.1]; exact tr.2⟩, t125, t126⟩
  rw [s_0_31]
  refine ⟨by decide, ?_⟩
  rw [s_0_37]
  refine ⟨by decide, ?_⟩
  rw [s_0_44]
  have z216 : (216 : Int).toNat = 216 := rfl
  have st := law_61 (d := d) (Q := Q) (v := v) (M := vi_rs (vi_rs M 125 (fun _ => 0)) 126 (fun _ => 0)) (sl := sl + 216 + 216) (x := x) (y := y) (z := z) (t := t) (fl := fl) (fo := fo) (L := L) (lw := lw) hYY hbt (by rw [vi_rs_o (by decide), vi_rs_o (by decide)]; exact hr) (pS_o (pS_o hS (by decide)) (by decide)) (fun j _ => ⟨by rw [vi_rs_o (by decide), vi_rs_s], by rw [vi_rs_s]⟩) (l11 := l11) (l12 := l12) (l13 := l13) (l14 := l14) (l15 := l15) (l16 := l16) (l17 := l17) (l18 := l18) (l19 := l19) (l20 := l20) (l21 := l21) (l22 := l22) (l23 := l23) (l24 := l24) (l25 := l25) (fun w a b => hQ w a (by omega))
  rw [hY2, hY1] at st
  exact st
theorem law_0 {sc : Nat → Int} {m : Nat} (h1 : Y.1 1 = 11 ∧ Y.2.1 1 = ln ∧ M 1 = sc) (hS : kS Y M) (hm : m ≤ 10000) (hQ : ∀ w, w.2.2.1 ≤ 200 → w.2.2.2 ≤ 30000 → Q (some (.inl 1)) w) : vi_ok GG (d + 72) 0 0 [some (.inr (.inr 1)), none, none, none, none, none, none, none, none, none, none, none, none, none, none, none, none, none, none, none, none, none, none, none, none, none] [] (Y, M, 29, m) Q := by
  rw [s_0_0, s_0_3]
  refine ⟨yn1, ?_⟩
  obtain ⟨w, hw⟩ : ∃ w : vi_W, w = (vi_ynew Y 29 31 13, vi_rs M 29 (fun _ => 0), 29 + 1, m + 13) := ⟨_, rfl⟩
  have w1 : w.1 = vi_ynew Y 29 31 13 := by rw [hw]
  have w2 : w.2.1 = vi_rs M 29 (fun _ => 0) := by rw [hw]
  have w3 : w.2.2.1 = 30 := by rw [hw]
  have w4 : w.2.2.2 = m + 13 := by rw [hw]
  have h29 : w.1.1 29 = 31 := by rw [w1]; exact yn1
  have hf29 : ∀ k, w.1.2.2 29 k = 0 := fun k => by rw [w1]; show (if (29 : Nat) = 29 then (fun _ => (0 : Int)) else Y.2.2 29) k = 0; rw [if_pos rfl]
  have low : ∀ p, p < 29 → w.1.1 p = Y.1 p ∧ w.1.2.1 p = Y.2.1 p ∧ ∀ k, w.1.2.2 p k = Y.2.2 p k := fun p hp => by
    rw [w1]
    exact ⟨yn1o (by omega), yn2o (by omega), fun k => congrFun (yn3o (by omega)) k⟩
  show vi_call GG (d + 58 + 14) 188 [.inr (.inr 29)] (vi_ynew Y 29 31 13, vi_rs M 29 (fun _ => 0), 29 + 1, m + 13) _
  rw [← hw]
  refine k_188 (d := d + 58) w3 h29 hf29 fun M1 g1 c61 c62 c64 c66 c68 hC0 => ?_
  show vi_ok GG (d + 72) 0 7 [some (.inr (.inr 1)), none, none, none, none, none, none, none, none, none, none, none, none, none, none, none, none, none, none, none, none, none, none, none, none, none] [.inr (.inr 29)] ((ywO w lC).1, M1, 112, w.2.2.2 + 8228) Q
  rw [s_0_7]
  have hY1 : kY (ywO w lC).1 112 := lC_Y
  have h9 : kY9 (ywO w lC).1 := lC_9 h29 hf29
  have low1 : ∀ p, p < 29 → (ywO w lC).1.1 p = w.1.1 p ∧ (ywO w lC).1.2.1 p = w.1.2.1 p ∧ ∀ k, (ywO w lC).1.2.2 p k = w.1.2.2 p k := fun p hp => ylow hp lC (by decide +kernel) w
  generalize (ywO w lC).1 = Y1 at *
  have T : ∀ p, p < 29 → Y1.1 p = Y.1 p := fun p hp => (low1 p hp).1.trans (low p hp).1
  have N : ∀ p, p < 29 → Y1.2.1 p = Y.2.1 p := fun p hp => (low1 p hp).2.1.trans (low p hp).2.1
  have F : ∀ p k, p < 29 → Y1.2.2 p k = Y.2.2 p k := fun p k hp => ((low1 p hp).2.2 k).trans ((low p hp).2.2 k)
  have m29 : ∀ p, p < 29 → M1 p = M p := fun p hp => ((g1 p (by omega)).trans (by rw [w2])).trans (vi_rs_o (by omega))
  have hk : kS Y1 M1 := fun i hi => by
    obtain ⟨b1, b2, b3, b4, b5, b6⟩ := hS i hi
    exact ⟨by rw [T _ (by omega)]; exact b1, by rw [F _ _ (by omega)]; exact b2, by rw [F _ _ (by omega)]; exact b3, by rw [T _ (by omega)]; exact b4, by rw [N _ (by omega)]; exact b5, fun j hj => by rw [m29 _ (by omega)]; exact b6 j hj⟩
  obtain ⟨hws, h73, h74⟩ := w_start c61 c62 c64 c66 c68 hC0
  have ts : Y1.1 1 = 11 ∧ Y1.2.1 1 = ln := ⟨by rw [T 1 (by omega)]; exact h1.1, by rw [N 1 (by omega)]; exact h1.2.1⟩
  refine lk_236 (ln := ln) (sl := w.2.2.2 + 8228) hY1 h9 hk h73 h74 ts hws fun Y2 M2 x y z t L lw fl fo S hS4 ht hbl htr hW hL hbt hlow hbx => ?_
  have hbx2 := bxR_at hW hbx
  have ts2 : Y2.1 1 = 11 ∧ Y2.2.1 1 = ln := ⟨(hbl 1 (by decide)).1.trans ts.1, (hbl 1 (by decide)).2.1.trans ts.2⟩
  have hk2 := kY_bl hY1 hbl (Nat.le_refl _)
  have h92 := kY9_bl h9 hbl (by decide)
  obtain ⟨sl, hsl⟩ : ∃ sl, sl = w.2.2.2 + 8228 + 222 + 113 + 30 + S + 16 + 78 := ⟨_, rfl⟩
  rw [← hsl]
  show vi_ok GG (d + 72) 0 17 [some (.inr (.inr 1)), some (.inr (.inr 29)), none, none, none, none, none, none, none, none, none, none, none, none, none, none, none, none, none, none, none, none, none, none, none, none] [.inr (.inr 112)] (Y2, M2, 125, sl) Q
  have st31 : ∀ v : Int, vi_ok GG (d + 72) 0 31 [some (.inr (.inr 1)), some (.inr (.inr 29)), some (.inr (.inr 112)), none, none, none, none, none, none, none, none, none, none, none, none, none, none, none, none, none, none, none, none, none, none, none] [.inl v] (Y2, M2, 125, sl) Q := fun v => law_31 hk2 h92 ts2 htr hbt hbx2 hW fun w' a b => hQ w' (by omega) (by omega)
  rw [s_0_17]
  refine ⟨ts2.1, ?_⟩
  rw [s_0_20]
  refine ⟨fun _ => ?_, fun h => ?_⟩
  · rw [s_0_29]
    exact st31 7
  · rw [s_0_23]
    refine ⟨⟨ts2.1, by decide, by omega⟩, ?_⟩
    rw [s_0_26]
    exact st31 _
/-- the whole run, from the first world -/
theorem law_run {sc : Nat → Int} (h1 : Y.1 1 = 11 ∧ Y.2.1 1 = ln ∧ M 1 = sc) (hS : kS Y M) : ∃ (f : Nat) (wf : vi_W), vi_run GG f 100 0 0 [some (.inr (.inr 1)), none, none, none, none, none, none, none, none, none, none, none, none, none, none, none, none, none, none, none, none, none, none, none, none, none] [] (Y, M, 29, 0) = some (some (.inl 1), wf) ∧ wf.2.2.1 ≤ 200 ∧ wf.2.2.2 ≤ 30000 := by
  obtain ⟨f, r, wf, e1, rfl, e2, e3⟩ := law_0 (d := 28) (Q := fun r w => r = some (.inl 1) ∧ w.2.2.1 ≤ 200 ∧ w.2.2.2 ≤ 30000) h1 hS (Nat.zero_le _) (fun w a b => ⟨rfl, a, b⟩)
  exact ⟨f, wf, e1, e2, e3⟩
end
