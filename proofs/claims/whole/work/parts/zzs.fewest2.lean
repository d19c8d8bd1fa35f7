/-! Pairs: fewest, second part. -/
section
variable {P : Nat → Bool} {g n m : Nat} {L : List Nat} {E : Int → Int → Bool} {φ : Int → Int}
theorem fdA_v (hL : L.length = m) (hE0 : E (-1) (-1) = sCm P g n) (hE1 : ∀ a : Nat, a < m → E (a : Int) (-1) = sCm (sTk P (L.getD a 0)) g n) (hE2 : ∀ a b : Nat, a < m → b < m → E (a : Int) (b : Int) = sCm (sTk (sTk P (L.getD a 0)) (L.getD b 0)) g n) (hφ : ∀ a : Nat, a < m → φ (a : Int) = ((L.getD a 0 : Nat) : Int)) (hφ1 : φ (-1) = -1) :
    fdA P g n L = if (fwR E m).2 = [] then (3, 0, -1, -1) else ((fwR E m).1, ((fwR E m).2.length : Int), φ (wfA (fwR E m).2), φ (wfB (fwR E m).2)) := by
  have e1 := fd1_w hL hE1 hφ hφ1 m (Nat.le_refl _) (3, 0, -1, -1)
  have e2 := fun s => fd2_w hL hE2 hφ m (Nat.le_refl _) s
  rw [Nat.sub_self, List.drop_zero] at e1
  have e2 : ∀ s, fd2 P g n L s = foH 2 φ (wfG E 2 m m) s := fun s => by
    have := e2 s
    rw [Nat.sub_self, List.drop_zero] at this
    exact this
  unfold fdA fwR
  by_cases h0 : sCm P g n = true
  · rw [if_pos h0, if_pos (hE0.trans h0), if_neg (by intro h; cases h)]
    show (0, 1, -1, -1) = ((0 : Int), ((1 : Nat) : Int), φ (-1), φ (-1))
    rw [hφ1]
    rfl
  · rw [if_neg h0, if_neg (fun h => h0 (hE0.symm.trans h)), e1, e2]
    cases h1 : wfG E 1 m m with
    | nil =>
      rw [if_pos (show (foH 1 φ [] (3, 0, -1, -1)).2.1 = 0 from rfl), if_neg (show ¬ ([] : List (Int × Int)) ≠ [] from fun h => h rfl)]
      cases h2 : wfG E 2 m m with
      | nil => rw [if_pos rfl]; rfl
      | cons x X =>
        rw [if_neg (by intro h; cases h)]
        exact foH_0
    | cons x X =>
      rw [foH_0, if_neg (show ¬ ((1 : Int), ((x :: X).length : Int), φ x.1, φ x.2).2.1 = 0 from by show ¬ ((X.length + 1 : Nat) : Int) = 0; omega), if_pos (show x :: X ≠ [] from by intro h; cases h), if_neg (by intro h; cases h)]
      rfl
theorem fwR_m {m : Nat} (hm : m ≤ 108) : ∀ x, x ∈ (fwR E m).2 → (x = (-1, -1)) ∨ ((0 ≤ x.1 ∧ x.1 < (m : Int)) ∧ (-1 ≤ x.2 ∧ x.2 < (m : Int))) := by
  intro x hx
  unfold fwR at hx
  split at hx
  · rw [List.mem_singleton] at hx; exact .inl hx
  · split at hx
    · exact .inr (wfG_m hm m x (Nat.le_refl _) hx)
    · exact .inr (wfG_m hm m x (Nat.le_refl _) hx)
theorem fw_eq {M' : vi_M} (hm : m ≤ 108) (hL : L.length = m) (hE0 : E (-1) (-1) = sCm P g n) (hE1 : ∀ a : Nat, a < m → E (a : Int) (-1) = sCm (sTk P (L.getD a 0)) g n) (hE2 : ∀ a b : Nat, a < m → b < m → E (a : Int) (b : Int) = sCm (sTk (sTk P (L.getD a 0)) (L.getD b 0)) g n) (hV : ∀ a, a < m → M' 130 a = ((L.getD a 0 / 36 : Nat) : Int) ∧ M' 131 a = ((L.getD a 0 / 6 % 6 : Nat) : Int) ∧ M' 132 a = ((L.getD a 0 % 6 : Nat) : Int)) (hl : ∀ a, a < m → L.getD a 0 < 108) {w : Int} : fdN (fdA P g n L) w = fwN M' (fwR E m) w ∧ (fdA P g n L).2.2.1 < 1000 ∧ (fdA P g n L).2.2.2 < 1000 := by
  have hv := @fdA_v P g n m L E (fun x => if x = -1 then -1 else ((L.getD x.toNat 0 : Nat) : Int)) hL hE0 hE1 hE2 (fun a ha => by rw [if_neg (by omega), Int.toNat_natCast]) (if_pos rfl)
  have hmem := @fwR_m E m hm
  rw [hv]
  cases hr : (fwR E m).2 with
  | nil =>
    rw [if_pos rfl]
    refine ⟨?_, by decide, by decide⟩
    unfold fdN fwN
    rw [hr]
    by_cases w0 : w = 0
    · subst w0; rfl
    · by_cases w1 : w = 1
      · subst w1; rfl
      · rw [if_neg w0, if_neg w1, if_neg w1, if_pos rfl]
        dsimp only
        split <;> rfl
  | cons x X =>
    rw [hr] at hmem
    rw [if_neg (by intro h; cases h)]
    have hx := hmem x (List.mem_cons.mpr (.inl rfl))
    have hx1 : -1 ≤ x.1 ∧ x.1 < (m : Int) := by
      rcases hx with h | h
      · rw [h]; exact ⟨by decide, by show (-1 : Int) < _; omega⟩
      · omega
    have hx2 : -1 ≤ x.2 ∧ x.2 < (m : Int) := by
      rcases hx with h | h
      · rw [h]; exact ⟨by decide, by show (-1 : Int) < _; omega⟩
      · omega
    have hb : ∀ y : Int, -1 ≤ y ∧ y < (m : Int) → (if y = -1 then (-1 : Int) else ((L.getD y.toNat 0 : Nat) : Int)) < 1000 := fun y hy => by
      by_cases e : y = -1
      · rw [if_pos e]; decide
      · rw [if_neg e]; have := hl y.toNat (by omega); omega
    have hn : ∀ y : Int, -1 ≤ y ∧ y < (m : Int) → (if (if y = -1 then (-1 : Int) else ((L.getD y.toNat 0 : Nat) : Int)) < 0 then (-1 : Int) else if (w - 2) % 3 = 0 then (if y = -1 then (-1 : Int) else ((L.getD y.toNat 0 : Nat) : Int)) / 36 else if (w - 2) % 3 = 1 then (if y = -1 then (-1 : Int) else ((L.getD y.toNat 0 : Nat) : Int)) / 6 % 6 else (if y = -1 then (-1 : Int) else ((L.getD y.toNat 0 : Nat) : Int)) % 6) = (if y = -1 then -1 else if (w - 2) % 3 = 0 then M' 130 y.toNat else if (w - 2) % 3 = 1 then M' 131 y.toNat else M' 132 y.toNat) := fun y hy => by
      by_cases e : y = -1
      · rw [if_pos e, if_pos e, if_pos (by decide)]
      · obtain ⟨v1, v2, v3⟩ := hV y.toNat (by omega)
        rw [if_neg e, if_neg e, if_neg (by omega), v1, v2, v3]
        by_cases e3 : (w - 2) % 3 = 0
        · rw [if_pos e3, if_pos e3]; omega
        · rw [if_neg e3, if_neg e3]
          by_cases e4 : (w - 2) % 3 = 1
          · rw [if_pos e4, if_pos e4]; omega
          · rw [if_neg e4, if_neg e4]; omega
    refine ⟨?_, hb x.1 hx1, hb x.2 hx2⟩
    unfold fdN fwN
    rw [hr]
    by_cases w0 : w = 0
    · have h3 : ¬ (fwR E m).1 = 3 := by
        unfold fwR
        split
        · decide
        · split
          · exact (by decide : ¬ (1 : Int) = 3)
          · exact (by decide : ¬ (2 : Int) = 3)
      rw [if_pos w0, if_neg (show ¬ w = 1 by omega), if_neg (show ¬ x :: X = [] from by intro h; cases h), if_pos w0]
      dsimp only
      rw [if_neg h3]
    · by_cases w1 : w = 1
      · rw [if_neg w0, if_pos w1, if_pos w1]
      · rw [if_neg w0, if_neg w1, if_neg w1, if_neg (show ¬ x :: X = [] from by intro h; cases h), if_neg w0]
        by_cases w4 : w ≤ 4
        · rw [if_pos w4, if_pos (show w < 5 by omega)]
          exact hn x.1 hx1
        · rw [if_neg w4, if_neg (show ¬ w < 5 by omega)]
          exact hn x.2 hx2
end
section
variable {sc : Nat → Int} {ln t a n d : Nat} {CS : Nat → List gCla} {lw : Option (List gCla)} {Y : vi_Y} {M : vi_M} {nn : Nat × Nat} {K : Option vi_V → vi_W → Prop}
theorem k_210 (hY : kY Y 151) (h9 : kY9 Y) {P : Nat → Bool} (hP : M 66 = cR P) (hJ : jJ M) {g m : Nat} {w : Int} (hg : g ≤ 2) (hm : m ≤ 216) (hw : 0 ≤ w ∧ w ≤ 7) (hs1 : (fdA P g m (lnL (M 30 8) (M 30 9) (M 30 10) 108)).2.2.1 < 1000) (hs2 : (fdA P g m (lnL (M 30 8) (M 30 9) (M 30 10) 108)).2.2.2 < 1000) : ∃ M', cQ M M' ∧ jJ M' ∧ ∀ K : Option vi_V → vi_W → Prop, vi_call GG (d + 70) 210 [.inr (.inr 29), .inl (g : Int), .inl (m : Int), .inl w] (Y, M, nn) K ↔ K (some (.inl (fdN (fdA P g m (lnL (M 30 8) (M 30 9) (M 30 10) 108)) w))) (Y, M', nn) := by
  obtain ⟨a1, a2, a3, a4, a5, a6, a7, a8, a9, a10, a11, a12⟩ := y_29 h9
  obtain ⟨z1, -⟩ := y_77 hY (by omega)
  obtain ⟨M', f, g1, g2, g3, g4, g5, g6, g7, g8, k81⟩ := @k_81 (d + 62) Y M nn P hY hP (hJ.1 81 (by unfold jCe; omega)) (hJ.1 83 (by unfold jCe; omega)) (hJ.1 85 (by unfold jCe; omega)) (hJ.1 87 (by unfold jCe; omega)) g m hg hm
  have k82 := fun {K : Option vi_V → vi_W → Prop} => @k_82 (d + 68) K Y M' nn hY f _ g5 hs1 hs2 w hw
  simp only [Nat.add_assoc, Nat.reduceAdd] at k81 k82
  refine ⟨M', ⟨fun p hp => g8 p (by omega) (by omega) (by omega) (by omega) (by omega) (by omega), by rw [g5]; show f 9 = _; exact g6⟩, ⟨fun q hq => ?_, ?_⟩, fun K => vi_k (r := some (.inl _)) fun Q hQ => ?_⟩
  · by_cases e1 : q = 81
    · subst e1; exact g1
    · by_cases e2 : q = 83
      · subst e2; exact g2
      · by_cases e3 : q = 85
        · subst e3; exact g3
        · by_cases e4 : q = 87
          · subst e4; exact g4
          · rw [g8 q (by unfold jCe at hq; omega) (by unfold jCe at hq; omega) e1 e2 e3 e4]; exact hJ.1 q hq
  · rw [g8 88 (by omega) (by omega) (by omega) (by omega) (by omega) (by omega)]; exact hJ.2
  · clear hs1 hs2 g1 g2 g3 g4 g5 g6 g7 g8 hJ hP
    simp (disch := omega) only [Option.toList_some, Option.toList_none, List.nil_append, List.cons_append, List.append_nil, true_and, and_true, not_true_eq_false, not_false_eq_true, true_implies, false_implies, implies_true, and_self, Int.reduceLT, Int.reduceLE, Int.reduceEq, Int.reduceNe, Int.reduceAdd, Int.reduceSub, Int.reduceMul, Int.reduceNeg, Int.reduceToNat, Int.toNat_natCast, ↓kk_ck, ↓kk_im, ↓kk_in, e_210, s_210_0, s_210_4, s_210_9, s_210_13, s_210_20, s_210_24, s_210_30, s_210_32, s_210_36, s_210_41, s_210_45, s_210_49, a1, a7, z1, k81, k82, ne_eq]
    exact hQ
theorem k_210n (h9 : kY9 Y) {g m w : Int} (h : ¬ ((0 ≤ g ∧ g ≤ 2) ∧ (0 ≤ m ∧ m ≤ 216) ∧ 0 ≤ w ∧ w ≤ 7)) : vi_call GG (d + 70) 210 [.inr (.inr 29), .inl g, .inl m, .inl w] (Y, M, nn) K ↔ K (some (.inl (-1))) (Y, M, nn) := by
  obtain ⟨a1, a2, a3, a4, a5, a6, a7, a8, a9, a10, a11, a12⟩ := y_29 h9
  refine vi_k (r := some (.inl _)) fun Q hQ => ?_
  by_cases e1 : g < 0
  · simp (disch := omega) only [Option.toList_some, Option.toList_none, List.nil_append, List.cons_append, List.append_nil, true_and, and_true, not_true_eq_false, not_false_eq_true, true_implies, false_implies, implies_true, and_self, Int.reduceLT, Int.reduceLE, Int.reduceEq, Int.reduceNe, Int.reduceAdd, Int.reduceSub, Int.reduceMul, Int.reduceNeg, Int.reduceToNat, Int.toNat_natCast, ↓kk_ck, ↓kk_im, ↓kk_in, e_210, s_210_0, s_210_4, s_210_9, s_210_13, s_210_20, s_210_24, s_210_30, s_210_32, s_210_36, s_210_41, s_210_45, s_210_49, a1, ne_eq]
    exact hQ
  · by_cases e2 : 2 < g
    · simp (disch := omega) only [Option.toList_some, Option.toList_none, List.nil_append, List.cons_append, List.append_nil, true_and, and_true, not_true_eq_false, not_false_eq_true, true_implies, false_implies, implies_true, and_self, Int.reduceLT, Int.reduceLE, Int.reduceEq, Int.reduceNe, Int.reduceAdd, Int.reduceSub, Int.reduceMul, Int.reduceNeg, Int.reduceToNat, Int.toNat_natCast, ↓kk_ck, ↓kk_im, ↓kk_in, e_210, s_210_0, s_210_4, s_210_9, s_210_13, s_210_20, s_210_24, s_210_30, s_210_32, s_210_36, s_210_41, s_210_45, s_210_49, a1, ne_eq]
      exact hQ
    · by_cases e3 : m < 0
      · simp (disch := omega) only [Option.toList_some, Option.toList_none, List.nil_append, List.cons_append, List.append_nil, true_and, and_true, not_true_eq_false, not_false_eq_true, true_implies, false_implies, implies_true, and_self, Int.reduceLT, Int.reduceLE, Int.reduceEq, Int.reduceNe, Int.reduceAdd, Int.reduceSub, Int.reduceMul, Int.reduceNeg, Int.reduceToNat, Int.toNat_natCast, ↓kk_ck, ↓kk_im, ↓kk_in, e_210, s_210_0, s_210_4, s_210_9, s_210_13, s_210_20, s_210_24, s_210_30, s_210_32, s_210_36, s_210_41, s_210_45, s_210_49, a1, ne_eq]
        exact hQ
      · by_cases e4 : 216 < m
        · simp (disch := omega) only [Option.toList_some, Option.toList_none, List.nil_append, List.cons_append, List.append_nil, true_and, and_true, not_true_eq_false, not_false_eq_true, true_implies, false_implies, implies_true, and_self, Int.reduceLT, Int.reduceLE, Int.reduceEq, Int.reduceNe, Int.reduceAdd, Int.reduceSub, Int.reduceMul, Int.reduceNeg, Int.reduceToNat, Int.toNat_natCast, ↓kk_ck, ↓kk_im, ↓kk_in, e_210, s_210_0, s_210_4, s_210_9, s_210_13, s_210_20, s_210_24, s_210_30, s_210_32, s_210_36, s_210_41, s_210_45, s_210_49, a1, ne_eq]
          exact hQ
        · by_cases e5 : w < 0
          · simp (disch := omega) only [Option.toList_some, Option.toList_none, List.nil_append, List.cons_append, List.append_nil, true_and, and_true, not_true_eq_false, not_false_eq_true, true_implies, false_implies, implies_true, and_self, Int.reduceLT, Int.reduceLE, Int.reduceEq, Int.reduceNe, Int.reduceAdd, Int.reduceSub, Int.reduceMul, Int.reduceNeg, Int.reduceToNat, Int.toNat_natCast, ↓kk_ck, ↓kk_im, ↓kk_in, e_210, s_210_0, s_210_4, s_210_9, s_210_13, s_210_20, s_210_24, s_210_30, s_210_32, s_210_36, s_210_41, s_210_45, s_210_49, a1, ne_eq]
            exact hQ
          · simp (disch := omega) only [Option.toList_some, Option.toList_none, List.nil_append, List.cons_append, List.append_nil, true_and, and_true, not_true_eq_false, not_false_eq_true, true_implies, false_implies, implies_true, and_self, Int.reduceLT, Int.reduceLE, Int.reduceEq, Int.reduceNe, Int.reduceAdd, Int.reduceSub, Int.reduceMul, Int.reduceNeg, Int.reduceToNat, Int.toNat_natCast, ↓kk_ck, ↓kk_im, ↓kk_in, e_210, s_210_0, s_210_4, s_210_9, s_210_13, s_210_20, s_210_24, s_210_30, s_210_32, s_210_36, s_210_41, s_210_45, s_210_49, a1, ne_eq]
            exact hQ
theorem lnA_v {M' : vi_M} (hB : mBx M') (hA : lnA M') {x : Nat} (hx : x < (lsA (M' 114) 3).length) : M' 130 x = ((((lsA (M' 114) 3).map lsC).getD x 0 / 36 : Nat) : Int) ∧ M' 131 x = ((((lsA (M' 114) 3).map lsC).getD x 0 / 6 % 6 : Nat) : Int) ∧ M' 132 x = ((((lsA (M' 114) 3).map lsC).getD x 0 % 6 : Nat) : Int) := by
  obtain ⟨v1, v2, v3⟩ := hA.2 x hx
  have hm := lsA_m 3 (List.getElem_mem hx)
  have hs := sz_r hB (a := ((lsA (M' 114) 3)[x]).1)
  have e : ((lsA (M' 114) 3).map lsC).getD x 0 = lsC ((lsA (M' 114) 3)[x]) := by
    rw [List.getD_eq_getElem?_getD, List.getElem?_map, List.getElem?_eq_getElem hx]
    rfl
  rw [e, v1, v2, v3]
  unfold lsC
  generalize (lsA (M' 114) 3)[x] = y at *
  omega
section
variable {D : Nat} {Q : Option vi_V → vi_W → Prop}
theorem k_318v (hY : kY Y 151) {lw : Option (List gCla)} {n : Nat} (hS : mKs M lw n) (hd : mFd M lw n) {g m : Nat} (hg : g ≤ 2) (hm : m ≤ 216) {w : Int} (hw : 0 ≤ w ∧ w ≤ 7) (hD : 50 ≤ D)
    (hQ : ∀ M', mSee M' lw n → mFg M M' → mFd M' lw n → lnA M' → M' 112 42 = M' 112 1 → Q (some (.inl (fwN M' (fwR (enB M' lw n g m) (lsA (M 114) 3).length) w))) (Y, M', nn)) : vi_call GG D 318 [.inr (.inr 112), .inl (g : Int), .inl (m : Int), .inl w] (Y, M, nn) Q := by
  obtain ⟨D, rfl⟩ : ∃ k, D = k + 1 := ⟨D - 1, by omega⟩
  obtain ⟨R1, -, R3, -, -, -, -, -, -, -, -, -, -, R27, R28, R29, R31, R32, R33, R34, R35, R36, R37, R38, -⟩ := y_112 hY (by omega)
  obtain ⟨p1, p2⟩ := y_130 hY (by omega)
  obtain ⟨p3, p4⟩ := y_131 hY (by omega)
  obtain ⟨p5, p6⟩ := y_132 hY (by omega)
  have hB := hS.1
  have cont : vi_call GG D 317 [.inr (.inr 112), .inl (g : Int), .inl (m : Int)] (Y, M, nn) (fun r w' => vi_ok GG D 318 38 [some (.inr (.inr 112)), some (.inl (g : Int)), some (.inl (m : Int)), some (.inl w), none, none] r.toList w' Q) := by
    refine k_317 hY hS hd hg hm (by omega) fun M' hs hf hd' c1 c2 c3 => ?_
    obtain ⟨-, hA, g', m', h3, h4, h5, h6, h7, h8, h9, h10⟩ := hd' c1
    have hq := hQ M' hs hf hd' hA c1
    have e1 : g' = g := by omega
    have e2 : m' = m := by omega
    rw [e1, e2, mFg_114 hf] at h7 h8 h9 h10
    have hl := lsA_l hB 3
    clear hQ hs hd'
    have hr := fwR_r (E := enB M' lw n g m) (m := (lsA (M 114) 3).length) (by omega)
    generalize fwR (enB M' lw n g m) (lsA (M 114) 3).length = r at *
    obtain ⟨h, F⟩ := r
    unfold fwN at hq
    dsimp only at hq h7 h8 h9 h10 hr
    by_cases w1 : w = 1
    · rw [if_pos w1] at hq
      simp (disch := omega) only [Option.toList_some, Option.toList_none, List.nil_append, List.cons_append, List.append_nil, true_and, and_true, not_true_eq_false, not_false_eq_true, true_implies, false_implies, implies_true, and_self, Int.reduceLT, Int.reduceLE, Int.reduceEq, Int.reduceNe, Int.reduceAdd, Int.reduceSub, Int.reduceMul, Int.reduceNeg, Int.reduceToNat, Int.toNat_natCast, ↓kk_ck, ↓kk_im, ↓kk_in, Option.toList, List.append_nil, s_318_38, s_318_43, s_318_47, R1, w1, h8, ne_eq]
      exact hq
    · rw [if_neg w1] at hq
      by_cases hF : F = []
      · rw [if_pos hF] at hq
        have h8' : M' 112 46 = 0 := by rw [h8, hF]; rfl
        simp (disch := omega) only [Option.toList_some, Option.toList_none, List.nil_append, List.cons_append, List.append_nil, true_and, and_true, not_true_eq_false, not_false_eq_true, true_implies, false_implies, implies_true, and_self, Int.reduceLT, Int.reduceLE, Int.reduceEq, Int.reduceNe, Int.reduceAdd, Int.reduceSub, Int.reduceMul, Int.reduceNeg, Int.reduceToNat, Int.toNat_natCast, ↓kk_ck, ↓kk_im, ↓kk_in, Option.toList, List.append_nil, s_318_38, s_318_48, s_318_52, s_318_59, s_318_63, s_318_66, s_318_74, R1, w1, h8', ne_eq]
        exact hq
      · rw [if_neg hF] at hq
        have h8' : ¬ (F.length : Int) = 0 := by
          have : F.length ≠ 0 := fun e => hF (List.length_eq_zero_iff.mp e)
          omega
        by_cases w0 : w = 0
        · rw [if_pos w0] at hq
          simp (disch := omega) only [Option.toList_some, Option.toList_none, List.nil_append, List.cons_append, List.append_nil, true_and, and_true, not_true_eq_false, not_false_eq_true, true_implies, false_implies, implies_true, and_self, Int.reduceLT, Int.reduceLE, Int.reduceEq, Int.reduceNe, Int.reduceAdd, Int.reduceSub, Int.reduceMul, Int.reduceNeg, Int.reduceToNat, Int.toNat_natCast, ↓kk_ck, ↓kk_im, ↓kk_in, Option.toList, List.append_nil, s_318_38, s_318_48, s_318_52, s_318_55, s_318_59, s_318_63, s_318_70, s_318_74, R1, w0, h8, h8', h7, ne_eq]
          exact hq
        · rw [if_neg w0] at hq
          have tail : ∀ l : Int, l = (if w < 5 then wfA F else wfB F) → vi_ok GG D 318 91 [some (.inr (.inr 112)), some (.inl (g : Int)), some (.inl (m : Int)), some (.inl w), none, none] [.inl l] (Y, M', nn) Q := by
            intro l hl2
            rw [← hl2] at hq
            have hlr : -1 ≤ l ∧ l < 108 := by rw [hl2]; split <;> omega
            have et : (vi_w32 (w - 2)).tmod 3 = (w - 2) % 3 := by rw [vi_32 (by omega) (by omega)]; exact Int.tmod_eq_emod_of_nonneg (by omega)
            clear hl2 hr h9 h10
            by_cases q : l = -1
            · rw [if_pos q] at hq
              simp (disch := omega) only [Option.toList_some, Option.toList_none, List.nil_append, List.cons_append, List.append_nil, true_and, and_true, not_true_eq_false, not_false_eq_true, true_implies, false_implies, implies_true, and_self, Int.reduceLT, Int.reduceLE, Int.reduceEq, Int.reduceNe, Int.reduceAdd, Int.reduceSub, Int.reduceMul, Int.reduceNeg, Int.reduceToNat, Int.toNat_natCast, ↓kk_ck, ↓kk_im, ↓kk_in, s_318_91, s_318_106, s_318_148, q, ne_eq]
              exact hq
            · rw [if_neg q] at hq
              by_cases q0 : (w - 2) % 3 = 0
              · rw [if_pos q0] at hq
                simp (disch := omega) only [Option.toList_some, Option.toList_none, List.nil_append, List.cons_append, List.append_nil, true_and, and_true, not_true_eq_false, not_false_eq_true, true_implies, false_implies, implies_true, and_self, Int.reduceLT, Int.reduceLE, Int.reduceEq, Int.reduceNe, Int.reduceAdd, Int.reduceSub, Int.reduceMul, Int.reduceNeg, Int.reduceToNat, Int.toNat_natCast, ↓kk_ck, ↓kk_im, ↓kk_in, s_318_91, s_318_110, s_318_115, s_318_119, s_318_122, s_318_148, R1, R33, p1, p2, q, et, q0, ne_eq]
                exact hq
              · rw [if_neg q0] at hq
                by_cases q1 : (w - 2) % 3 = 1
                · rw [if_pos q1] at hq
                  simp (disch := omega) only [Option.toList_some, Option.toList_none, List.nil_append, List.cons_append, List.append_nil, true_and, and_true, not_true_eq_false, not_false_eq_true, true_implies, false_implies, implies_true, and_self, Int.reduceLT, Int.reduceLE, Int.reduceEq, Int.reduceNe, Int.reduceAdd, Int.reduceSub, Int.reduceMul, Int.reduceNeg, Int.reduceToNat, Int.toNat_natCast, ↓kk_ck, ↓kk_im, ↓kk_in, s_318_91, s_318_110, s_318_125, s_318_131, s_318_135, s_318_138, s_318_148, R1, R34, p3, p4, q, et, q1, ne_eq]
                  exact hq
                · rw [if_neg q1] at hq
                  simp (disch := omega) only [Option.toList_some, Option.toList_none, List.nil_append, List.cons_append, List.append_nil, true_and, and_true, not_true_eq_false, not_false_eq_true, true_implies, false_implies, implies_true, and_self, Int.reduceLT, Int.reduceLE, Int.reduceEq, Int.reduceNe, Int.reduceAdd, Int.reduceSub, Int.reduceMul, Int.reduceNeg, Int.reduceToNat, Int.toNat_natCast, ↓kk_ck, ↓kk_im, ↓kk_in, s_318_91, s_318_110, s_318_125, s_318_141, s_318_145, s_318_148, R1, R35, p5, p6, q, et, q0, q1, ne_eq]
                  exact hq
          clear hq
          by_cases w5 : w < 5
          · have := tail (wfA F) (by rw [if_pos w5])
            clear tail
            simp (disch := omega) only [Option.toList_some, Option.toList_none, List.nil_append, List.cons_append, List.append_nil, true_and, and_true, not_true_eq_false, not_false_eq_true, true_implies, false_implies, implies_true, and_self, Int.reduceLT, Int.reduceLE, Int.reduceEq, Int.reduceNe, Int.reduceAdd, Int.reduceSub, Int.reduceMul, Int.reduceNeg, Int.reduceToNat, Int.toNat_natCast, ↓kk_ck, ↓kk_im, ↓kk_in, Option.toList, List.append_nil, s_318_38, s_318_48, s_318_52, s_318_55, s_318_75, s_318_80, s_318_84, R1, w1, w0, h8, h8', h9, ne_eq]
            exact this
          · have := tail (wfB F) (by rw [if_neg w5])
            clear tail
            simp (disch := omega) only [Option.toList_some, Option.toList_none, List.nil_append, List.cons_append, List.append_nil, true_and, and_true, not_true_eq_false, not_false_eq_true, true_implies, false_implies, implies_true, and_self, Int.reduceLT, Int.reduceLE, Int.reduceEq, Int.reduceNe, Int.reduceAdd, Int.reduceSub, Int.reduceMul, Int.reduceNeg, Int.reduceToNat, Int.toNat_natCast, ↓kk_ck, ↓kk_im, ↓kk_in, Option.toList, List.append_nil, s_318_38, s_318_48, s_318_52, s_318_55, s_318_75, s_318_87, R1, w1, w0, h8, h8', h10, ne_eq]
            exact this
  clear hQ
  have hg' : 0 ≤ (g : Int) ∧ (g : Int) ≤ 2 := by omega
  have hm' : 0 ≤ (m : Int) ∧ (m : Int) ≤ 216 := by omega
  simp (disch := omega) only [Option.toList_some, Option.toList_none, List.nil_append, List.cons_append, List.append_nil, true_and, and_true, not_true_eq_false, not_false_eq_true, true_implies, false_implies, implies_true, and_self, Int.reduceLT, Int.reduceLE, Int.reduceEq, Int.reduceNe, Int.reduceAdd, Int.reduceSub, Int.reduceMul, Int.reduceNeg, Int.reduceToNat, Int.toNat_natCast, ↓kk_ck, ↓kk_im, ↓kk_in, e_318, s_318_0, s_318_6, s_318_9, s_318_17, s_318_20, s_318_27, s_318_32, R1, k_234t hg', k_234t hm', k_234t hw, ne_eq]
  exact cont
end
theorem p_210 (hW : jW sc ln t a CS lw n Y M nn) {g m w : Int} : jPair sc ln t (d + 70) 210 318 [.inl g, .inl m, .inl w] (Y, M, nn) := by
  by_cases h : (0 ≤ g ∧ g ≤ 2) ∧ (0 ≤ m ∧ m ≤ 216) ∧ 0 ≤ w ∧ w ≤ 7
  · obtain ⟨g, rfl⟩ : ∃ k : Nat, g = (k : Int) := ⟨g.toNat, by omega⟩
    obtain ⟨m, rfl⟩ : ∃ k : Nat, m = (k : Int) := ⟨m.toNat, by omega⟩
    have hg : g ≤ 2 := by omega
    have hm : m ≤ 216 := by omega
    refine jPair_q hW fun K hK => ?_
    obtain ⟨LH, LR, LS, c1, c2, c3, c4⟩ := hW.2.2.2.1
    have cZ := c1.2.2.2.2.2.2.1
    have hB := cZ.2.2.2.2.1
    have hLn := ln_eq hB
    have hlen := lsA_l (M := rowM (M 114)) hB 3
    have key : ∀ M' : vi_M, M' 114 = M 114 → lnA M' → fdN (fdA (lfS (M 114) lw n) g m (lnL (M 114 96) (M 114 97) (M 114 98) 108)) w = fwN M' (fwR (enB M' lw n g m) (lsA (M 114) 3).length) w ∧ (fdA (lfS (M 114) lw n) g m (lnL (M 114 96) (M 114 97) (M 114 98) 108)).2.2.1 < 1000 ∧ (fdA (lfS (M 114) lw n) g m (lnL (M 114 96) (M 114 97) (M 114 98) 108)).2.2.2 < 1000 := by
      intro M' e' hA
      have hV := fun {x : Nat} => @lnA_v M' (mBx_c e' hB) hA x
      rw [e'] at hV
      rw [← hLn] at hV
      have hT : ∀ (x : Nat) (S : Nat → Bool), x < (lsA (M 114) 3).length → lnT M' (x : Int) S = sTk S ((lnL (M 114 96) (M 114 97) (M 114 98) 108).getD x 0) := fun x S hx => by
        obtain ⟨v1, v2, v3⟩ := hV hx
        unfold lnT sTk
        rw [if_neg (by omega), Int.toNat_natCast, v1, v2, v3]
      have hP : (fun c => mLf M' lw n c) = lfS (M 114) lw n := funext fun c => by rw [lfS_M]; exact mLf_c e'
      have hl108 : (lsA (M 114) 3).length ≤ 108 := hlen
      have hLl : (lnL (M 114 96) (M 114 97) (M 114 98) 108).length = (lsA (M 114) 3).length := by rw [hLn, List.length_map]
      refine fw_eq hl108 hLl ?_ (fun x hx => ?_) (fun x y hx hy => ?_) (fun x hx => hV hx) (fun x hx => lnL_lt (by omega))
      · unfold enB
        rw [hP]
        rfl
      · unfold enB
        rw [hP, hT x _ hx]
        rfl
      · unfold enB
        rw [hP, hT x _ hx, hT y _ hy]
    have key0 := key (vi_rs (lsM M (lsA (M 114) 3)) 0 (M 0)) (by rw [vi_rs_o (by decide)]; exact lsM_o) (by
      have := @lnA_M M
      unfold lnA at *
      rw [vi_rs_o (by decide), vi_rs_o (by decide)]
      refine ⟨this.1, fun l hl => ?_⟩
      rw [vi_rs_o (by decide), vi_rs_o (by decide), vi_rs_o (by decide)]
      exact this.2 l hl)
    have e30 : lnL (M 30 8) (M 30 9) (M 30 10) 108 = lnL (M 114 96) (M 114 97) (M 114 98) 108 := by rw [cZ.1, cZ.2.1, cZ.2.2.1]
    obtain ⟨M1, q1, q2, q3⟩ := @k_210 d Y M nn hW.1.1 hW.1.2.1 _ c4.2.2.2.1 hW.2.2.2.2.2.2.2.2.2 g m w hg hm h.2.2 (by rw [e30]; exact key0.2.1) (by rw [e30]; exact key0.2.2)
    rw [e30] at q3
    have hW1 := jW_q hW q1 q2
    have e1 : M1 114 = M 114 := q1.1 114 (by omega)
    rw [q3]
    refine hK _ M1 hW1 fun K2 h2 => ?_
    refine k_318v hW.1.1 hW1.2.2.2.2.1.1 hW1.2.2.2.2.1.2.1 hg hm h.2.2 (by omega) fun M' hs hf hd hA hv => ?_
    have e' : M' 114 = M 114 := (mFg_114 hf).trans e1
    rw [e1, ← (key M' e' hA).1]
    exact h2 M' (jW_r hW1 hf ⟨mKs_c hW1.2.2.2.2.1.1 (mFg_114 hf) fun _ => hs, hd, Int.le_of_eq hs.2.2.1, Int.le_of_eq hv⟩)
  · refine jPair_q hW fun K hK => ?_
    rw [k_210n hW.1.2.1 h]
    refine hK _ M hW fun K2 h2 => ?_
    rw [k_318n hW.1.1 h (by omega)]
    exact h2 M hW
end
