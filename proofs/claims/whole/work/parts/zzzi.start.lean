/-! What stands after the constructors. -/
theorem cR_z : cR (fun _ => false) = fun _ => 0 := funext fun z => by
  unfold cR
  split
  · rw [cL_i]
    show ((bN 36 (fun _ => false) : Nat) : Int) = 0
    rw [bN_n]
    rfl
  · rfl
theorem jV_s {M : vi_M} {f : Nat → Int} (z5 : bxF f) (hS : rSz f (M 30)) (hHs : rHs f []) (e1 : M 61 = vi_m 216 (fun c => (hC (f 96) (f 97) (f 98) [] (c : Int) : Int)) (fun _ => 0)) (e2 : M 62 = gW (f 96) (f 97) (f 98) [] gNo 216 (fun _ => 0)) (e3 : M 64 = cR (sBox (f 96) (f 97) (f 98))) (e4 : M 66 = cR (gP (f 96) (f 97) (f 98) [] gNo 216)) (e5 : M 68 = cR (gS (f 96) (f 97) (f 98) [] gNo 216)) : jV M f none 0 := by
  have hat : ∀ c : Nat, (hC (f 96) (f 97) (f 98) [] (c : Int) : Int) = mAt f (c : Int) 0 := fun c => hC_at z5 hHs (by omega)
  have hg : gNo = lwG (M 30) none := rfl
  rw [hg] at e2 e4 e5
  refine ⟨fun c hc => ?_, fun c hc hx => ?_, ?_, ?_, ?_⟩
  · rw [e1]
    unfold vi_m
    rw [if_pos hc]
    exact hat c
  · rw [e2]
    unfold gW
    rw [if_pos ⟨hc, by rw [bx_eq hc]; exact hx⟩]
    rw [hat c, lwG_eq hS hx]
  · rw [e3]; exact cR_c fun c hc => bx_eq hc
  · rw [e4]
    refine cR_c fun c hc => ?_
    unfold gP
    rw [bx_eq hc, decide_eq_false (show ¬ 216 ≤ c by omega), Bool.false_or]
    show _ = mLf (rowM f) none 0 c
    unfold mLf
    show (bxS f c && _) = (bxS f c && decide (mAt f (c : Int) 0 = 0) && _)
    cases hx : bxS f c with
    | false => rfl
    | true =>
      rw [Bool.true_and, Bool.true_and]
      have e0 : decide (hC (f 96) (f 97) (f 98) [] (c : Int) = 0) = decide (mAt f (c : Int) 0 = 0) := by
        rw [decide_eq_decide, ← hat c]; omega
      rw [e0, hat c, lwG_eq hS hx]
      rfl
  · rw [e5]
    refine cR_c fun c hc => ?_
    unfold gS
    rw [bx_eq hc, decide_eq_true hc, Bool.true_and]
    show (bxS f c && _) = (bxS f c && _)
    cases hx : bxS f c with
    | false => rfl
    | true =>
      rw [Bool.true_and, Bool.true_and, hat c, lwG_eq hS hx]
theorem y38 : ∀ i, i < 12 → yoM 38 (fun _ => 0) lC i = 0 := by decide +kernel
theorem y37 : ∀ i, i < 108 → yoM 37 (fun _ => 0) lC i = 0 := by decide +kernel
theorem y39 : ∀ i, i < 6 → yoM 39 (fun _ => 0) lC i = 0 := by decide +kernel
theorem y30 : yoM 30 (fun _ => 0) lC 8 = 5 ∧ yoM 30 (fun _ => 0) lC 9 = 5 ∧ yoM 30 (fun _ => 0) lC 10 = 5 ∧ yoM 30 (fun _ => 0) lC 11 = 0 ∧ yoM 30 (fun _ => 0) lC 6 = 0 ∧ yoM 30 (fun _ => 0) lC 7 = -1 ∧ yoM 31 (fun _ => 0) lC 2 = 0 ∧ yoM 33 (fun _ => 0) lC 2 = 0 ∧ yoM 35 (fun _ => 0) lC 2 = 0 := by decide +kernel
theorem y117 : ∀ j, j < 54 → yoM 117 (fun _ => 0) lR j = wBy.getD j 0 := by decide +kernel
theorem y112 : yoM 112 (fun _ => 0) lR 0 = 0 ∧ yoM 112 (fun _ => 0) lR 1 = 0 ∧ yoM 112 (fun _ => 0) lR 6 = 0 ∧ yoM 112 (fun _ => 0) lR 10 = 0 ∧ yoM 112 (fun _ => 0) lR 11 = -1 ∧ yoM 112 (fun _ => 0) lR 30 = -1 ∧ yoM 112 (fun _ => 0) lR 42 = -1 ∧ yoM 112 (fun _ => 0) lR 62 = 0 := by decide +kernel
theorem y113 : ∀ k, k < 7 → yoM 113 (fun _ => 0) lR k = 0 := by decide +kernel
theorem y116 : ∀ k, k < 2 → yoM 116 (fun _ => 0) lR k = 0 ∧ yoM (40 + 10 * k) (fun _ => 0) lC 12 = 0 ∧ yoM (40 + 10 * k + 1) (fun _ => 0) lC 2 = 0 ∧ yoM (40 + 10 * k + 3) (fun _ => 0) lC 2 = 0 ∧ yoM (40 + 10 * k + 5) (fun _ => 0) lC 2 = 0 := by decide +kernel
theorem y111 : yoM 111 (fun _ => 0) lC 0 = 0 ∧ yoM 111 (fun _ => 0) lC 1 = 0 ∧ yoM 111 (fun _ => 0) lC 2 = 0 ∧ yoM 111 (fun _ => 0) lC 3 = 0 ∧ yoM 111 (fun _ => 0) lC 4 = 0 ∧ yoM 73 (fun _ => 0) lC 3 = 0 ∧ yoM 73 (fun _ => 0) lC 7 = -1 ∧ yoM 77 (fun _ => 0) lC 9 = 0 ∧ (yoM 88 (fun _ => 0) lC 4).toNat = 95 ∧ (yoM 88 (fun _ => 0) lC 5).toNat = 96 := by decide +kernel
set_option maxRecDepth 100000 in
theorem y74 : yoM 74 (fun _ => 0) lC = fun _ => 0 := rfl
set_option maxRecDepth 100000 in
theorem y118 : yoM 118 (fun _ => 0) lR = fun _ => 0 := rfl
set_option maxRecDepth 100000 in
theorem yCe70 : yoM 70 (fun _ => 0) lC = fun _ => 0 := rfl
set_option maxRecDepth 100000 in
theorem yCe72 : yoM 72 (fun _ => 0) lC = fun _ => 0 := rfl
set_option maxRecDepth 100000 in
theorem yCe81 : yoM 81 (fun _ => 0) lC = fun _ => 0 := rfl
set_option maxRecDepth 100000 in
theorem yCe83 : yoM 83 (fun _ => 0) lC = fun _ => 0 := rfl
set_option maxRecDepth 100000 in
theorem yCe85 : yoM 85 (fun _ => 0) lC = fun _ => 0 := rfl
set_option maxRecDepth 100000 in
theorem yCe87 : yoM 87 (fun _ => 0) lC = fun _ => 0 := rfl
set_option maxRecDepth 100000 in
theorem yCe90 : yoM 90 (fun _ => 0) lC = fun _ => 0 := rfl
set_option maxRecDepth 100000 in
theorem yCe92 : yoM 92 (fun _ => 0) lC = fun _ => 0 := rfl
set_option maxRecDepth 100000 in
theorem yCe94 : yoM 94 (fun _ => 0) lC = fun _ => 0 := rfl
set_option maxRecDepth 100000 in
theorem yCe102 : yoM 102 (fun _ => 0) lC = fun _ => 0 := rfl
section
variable {sc : Nat → Int} {ln : Nat} {Y : vi_Y} {M : vi_M} {nn : Nat × Nat}
theorem j_start (hY : kY Y 151) (h9 : kY9 Y) (hS : kS Y M) (hsc : Y.1 1 = 11 ∧ Y.2.1 1 = ln ∧ M 1 = sc) (h29 : M 29 = fun _ => 0)
    (c61 : M 61 = vi_m 216 (fun c => (hC 5 5 5 [] (c : Int) : Int)) (fun _ => 0)) (c62 : M 62 = gW 5 5 5 [] gNo 216 (fun _ => 0)) (c64 : M 64 = cR (sBox 5 5 5)) (c66 : M 66 = cR (gP 5 5 5 [] gNo 216)) (c68 : M 68 = cR (gS 5 5 5 [] gNo 216))
    (hC0 : ∀ p, 30 ≤ p → p < 112 → p ≠ 61 → p ≠ 62 → p ≠ 64 → p ≠ 66 → p ≠ 68 → M p = yoM p (fun _ => 0) lC)
    (hR : ∀ p, 112 ≤ p → p < 151 → p ≠ 114 → p ≠ 138 → p ≠ 139 → M p = yoM p (fun _ => 0) lR)
    (h114 : ∀ i, M 114 i = if 96 ≤ i ∧ i < 99 then 5 else if i = 296 then -1 else 0) (hT : tuT M 24) (hF : ∀ r o, r < 64 → o < 64 → M 139 (64 * r + o) = vi_b (ftB r o 24)) (hn : nn.1 = 151 ∧ nn.2 ≤ 1100000) : jInv sc ln 0 (Y, M, nn) := by
  have cC := fun (p : Nat) (h1 : 30 ≤ p) (h2 : p < 112) (a1 : p ≠ 61) (a2 : p ≠ 62) (a3 : p ≠ 64) (a4 : p ≠ 66) (a5 : p ≠ 68) => hC0 p h1 h2 a1 a2 a3 a4 a5
  have f96 : M 114 96 = 5 := by rw [h114, if_pos (by decide)]
  have f97 : M 114 97 = 5 := by rw [h114, if_pos (by decide)]
  have f98 : M 114 98 = 5 := by rw [h114, if_pos (by decide)]
  have f296 : M 114 296 = -1 := by rw [h114, if_neg (by decide), if_pos rfl]
  have f0 : ∀ i, ¬ (96 ≤ i ∧ i < 99) → i ≠ 296 → M 114 i = 0 := fun i h1 h2 => by rw [h114, if_neg h1, if_neg h2]
  have f99 : M 114 99 = 0 := f0 99 (by decide) (by decide)
  have f292 : M 114 292 = 0 := f0 292 (by decide) (by decide)
  have f293 : M 114 293 = 0 := f0 293 (by decide) (by decide)
  have f294 : M 114 294 = 0 := f0 294 (by decide) (by decide)
  have f295 : M 114 295 = 0 := f0 295 (by decide) (by decide)
  have c30 := cC 30 (by decide) (by decide) (by decide) (by decide) (by decide) (by decide) (by decide)
  have c31 := cC 31 (by decide) (by decide) (by decide) (by decide) (by decide) (by decide) (by decide)
  have c33 := cC 33 (by decide) (by decide) (by decide) (by decide) (by decide) (by decide) (by decide)
  have c35 := cC 35 (by decide) (by decide) (by decide) (by decide) (by decide) (by decide) (by decide)
  have c37 := cC 37 (by decide) (by decide) (by decide) (by decide) (by decide) (by decide) (by decide)
  have c38 := cC 38 (by decide) (by decide) (by decide) (by decide) (by decide) (by decide) (by decide)
  have c39 := cC 39 (by decide) (by decide) (by decide) (by decide) (by decide) (by decide) (by decide)
  have c73 := cC 73 (by decide) (by decide) (by decide) (by decide) (by decide) (by decide) (by decide)
  have c74 := cC 74 (by decide) (by decide) (by decide) (by decide) (by decide) (by decide) (by decide)
  have c77 := cC 77 (by decide) (by decide) (by decide) (by decide) (by decide) (by decide) (by decide)
  have c88 := cC 88 (by decide) (by decide) (by decide) (by decide) (by decide) (by decide) (by decide)
  have c111 := cC 111 (by decide) (by decide) (by decide) (by decide) (by decide) (by decide) (by decide)
  have r112 := hR 112 (by decide) (by decide) (by decide) (by decide) (by decide)
  have r113 := hR 113 (by decide) (by decide) (by decide) (by decide) (by decide)
  have r116 := hR 116 (by decide) (by decide) (by decide) (by decide) (by decide)
  have r117 := hR 117 (by decide) (by decide) (by decide) (by decide) (by decide)
  have r118 := hR 118 (by decide) (by decide) (by decide) (by decide) (by decide)
  obtain ⟨x8, x9, x10, x11, x6, x7, x31, x33, x35⟩ := y30
  obtain ⟨z0, z1, z6, z10, z11, z30, z42, z62⟩ := y112
  obtain ⟨u0, u1, u2, u3, u4, u73, u737, u77, u88, u885⟩ := y111
  have hb : bxF (M 114) := by unfold bxF gB; rw [f96, f97, f98]; decide
  have hSz : rSz (M 114) (M 30) := ⟨by rw [c30, x8, f96], by rw [c30, x9, f97], by rw [c30, x10, f98], by rw [c30, x11, f99], hb, by rw [f99]; decide⟩
  have hHs : rHs (M 114) [] := ⟨f292, Nat.zero_le _, fun r hr => absurd hr (Nat.not_lt_zero _)⟩
  have hLw : rLw 0 (fun _ => []) (M 114) (M 30) (M 39) := ⟨by rw [c30, x6, f295], by rw [c30, x7, f296], ⟨0, f295, by decide, by rw [f296]; decide, by rw [f296]; decide, fun j hj => absurd hj (Nat.not_lt_zero _)⟩, fun j hj => .inl (by rw [c39]; exact y39 j hj)⟩
  have hHd : cHd M 30 (M 114) 0 (fun _ => []) [] [] [] := by
    refine ⟨⟨⟨by show M 31 2 = 0; rw [c31, x31], fun r j hr => absurd hr (Nat.not_lt_zero _)⟩, ⟨by show M 33 2 = 0; rw [c33, x33], fun r j hr => absurd hr (Nat.not_lt_zero _)⟩, ⟨by show M 35 2 = 0; rw [c35, x35], fun r j hr => absurd hr (Nat.not_lt_zero _)⟩⟩, hHs, ⟨f293, Nat.zero_le _, fun r hr => absurd hr (Nat.not_lt_zero _)⟩, ⟨f294, Nat.zero_le _, fun r hr => absurd hr (Nat.not_lt_zero _)⟩, fun a u v ha hu hv => ?_, fun i hi => ?_, hSz, hLw⟩
    · show M 37 _ = _ ∧ _
      rw [f0 _ (by omega) (by omega), c37]
      exact ⟨y37 _ (by omega), .inl rfl⟩
    · show M 38 i = _ ∧ _
      rw [f0 _ (by omega) (by omega), c38]
      exact ⟨y38 i hi, by decide, by decide⟩
  have hV : jV M (M 114) none 0 := jV_s hb hSz hHs (by rw [f96, f97, f98]; exact c61) (by rw [f96, f97, f98]; exact c62) (by rw [f96, f97, f98]; exact c64) (by rw [f96, f97, f98]; exact c66) (by rw [f96, f97, f98]; exact c68)
  have hce : ∀ q, (30 ≤ q ∧ q < 112 ∧ q ≠ 61 ∧ q ≠ 62 ∧ q ≠ 64 ∧ q ≠ 66 ∧ q ≠ 68) → yoM q (fun _ => 0) lC = (fun _ => 0) → ∃ S, M q = cR S := fun q hq h => ⟨fun _ => false, by rw [cR_z, cC q hq.1 hq.2.1 hq.2.2.1 hq.2.2.2.1 hq.2.2.2.2.1 hq.2.2.2.2.2.1 hq.2.2.2.2.2.2, h]⟩
  refine ⟨0, fun _ => [], none, 0, ⟨hY, h9, hS, fun j hj => by show M 117 j = _; rw [r117]; exact y117 j hj, hsc, hT, hF⟩, fun i hi => absurd hi (Nat.not_lt_zero _), ⟨hn.1, Nat.le_refl _, by show nn.2 ≤ _; omega⟩, ⟨[], [], [], hHd, rfl, f296, hV⟩, ⟨⟨by unfold mBx; show (1 ≤ M 114 96 ∧ M 114 96 ≤ 6) ∧ (1 ≤ M 114 97 ∧ M 114 97 ≤ 6) ∧ (1 ≤ M 114 98 ∧ M 114 98 ≤ 6); rw [f96, f97, f98]; decide, Nat.zero_le _, f292, fun h hh => absurd hh (Nat.not_lt_zero _), by show 0 ≤ M 114 99 ∧ M 114 99 ≤ 99; rw [f99]; decide, f296, fun hv => ?_⟩, fun hv => ?_, ?_, ?_⟩, ⟨0, by decide, ?_, ?_, ?_, ?_, ?_⟩, ⟨?_, ?_, ⟨?_, ?_, ?_, ?_, ?_⟩, fun k k1 k2 => ?_, ?_, ?_⟩, ⟨0, by decide, ?_, ?_, fun i hi => absurd hi (Nat.not_lt_zero _)⟩, fun k hk => ?_, fun q hq => ?_, ?_⟩
  · have hv : M 112 30 = M 112 1 := hv
    rw [r112, z30, z1] at hv
    cases hv
  · have hv : M 112 42 = M 112 1 := hv
    rw [r112, z42, z1] at hv
    cases hv
  · show M 112 30 ≤ M 112 1
    rw [r112, z30, z1]; decide
  · show M 112 42 ≤ M 112 1
    rw [r112, z42, z1]; decide
  · show M 73 3 = 0
    rw [c73, u73]
  · show M 112 10 = 0
    rw [r112, z10]
  · show M 118 = M 74
    rw [r118, c74, y118, y74]
  · show tOk (M 74)
    rw [c74, y74]
    exact fun p => by show -128 ≤ (0 : Int) ∧ (0 : Int) < 128; decide
  · show M 73 7 = M 112 11
    rw [c73, u737, r112, z11]
  · show M 29 11 = M 112 0
    rw [h29, r112, z0]
  · show M 29 12 = M 112 6
    rw [h29, r112, z6]
  · show M 111 0 = M 113 1
    rw [c111, u0, r113, y113 1 (by decide)]
  · show M 111 1 = M 113 2
    rw [c111, u1, r113, y113 2 (by decide)]
  · show M 111 2 = M 113 3
    rw [c111, u2, r113, y113 3 (by decide)]
  · show M 111 3 = M 113 5
    rw [c111, u3, r113, y113 5 (by decide)]
  · show M 111 4 = M 113 6
    rw [c111, u4, r113, y113 6 (by decide)]
  · show 0 ≤ M 113 k ∧ M 113 k ≤ ((0 : Nat) : Int)
    rw [r113, y113 k k2]; decide
  · show 0 ≤ M 112 1
    rw [r112, z1]; decide
  · show M 112 1 ≤ ((0 : Nat) : Int)
    rw [r112, z1]; decide
  · show M 77 9 = 0
    rw [c77, u77]
  · show M 112 62 = 0
    rw [r112, z62]
  · obtain ⟨y1, y2, y3, y4, y5⟩ := y116 k hk
    have g := fun (p : Nat) (h1 : 40 ≤ p) (h2 : p < 60) => cC p (by omega) (by omega) (by omega) (by omega) (by omega) (by omega) (by omega)
    show M (40 + 10 * k) 12 = M 116 k ∧ (M 116 k = 0 ∨ M 116 k = 1) ∧ (M 116 k = 1 → _) ∧ _
    rw [r116, y1, g _ (by omega) (by omega), y2]
    refine ⟨rfl, .inl rfl, fun h => (by cases h), 0, 0, 0, ?_, ?_, ?_⟩
    · show M (40 + 10 * k + 1) 2 = 0
      rw [g _ (by omega) (by omega), y3]
    · show M (40 + 10 * k + 3) 2 = 0
      rw [g _ (by omega) (by omega), y4]
    · show M (40 + 10 * k + 5) 2 = 0
      rw [g _ (by omega) (by omega), y5]
  · show ∃ S, M q = cR S
    rcases hq with h | h | h | h | h | h | h | h | h | h
    · subst h; exact hce 70 (by decide) yCe70
    · subst h; exact hce 72 (by decide) yCe72
    · subst h; exact hce 81 (by decide) yCe81
    · subst h; exact hce 83 (by decide) yCe83
    · subst h; exact hce 85 (by decide) yCe85
    · subst h; exact hce 87 (by decide) yCe87
    · subst h; exact hce 90 (by decide) yCe90
    · subst h; exact hce 92 (by decide) yCe92
    · subst h; exact hce 94 (by decide) yCe94
    · subst h; exact hce 102 (by decide) yCe102
  · show vOr (M 88)
    rw [c88]
    exact .inl ⟨u88, u885⟩
end
