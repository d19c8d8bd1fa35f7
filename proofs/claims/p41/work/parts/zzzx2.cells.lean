/-! The property of its own: each CELL asked. -/
/-- the world of the law behind its box -/
def lwY (Y : vi_Y) (ln : Nat) : Prop := (kY Y 112 ∧ kY9 Y) ∧ (Y.1 1 = 11 ∧ Y.2.1 1 = ln) ∧ (Y.1 112 = 1 ∧ (Y.2.1 112 : Int) = 222) ∧ (Y.1 125 = 4 ∧ (Y.2.1 125 : Int) = 216) ∧ (Y.1 126 = 4 ∧ (Y.2.1 126 : Int) = 216)
theorem wNb {b : Bool} : vi_nar 4 (vi_b b) = vi_b b := by cases b <;> rfl
theorem vi_nar_0 : vi_nar 4 (0 : Int) = 0 := rfl
theorem vi_nar_1 : vi_nar 4 (1 : Int) = 1 := rfl
theorem sW_0 {P : Nat → Bool} {w : Nat → Int} (h : ∀ c, 1 ≤ w c ∧ w c ≤ 26) : ∀ k, 0 ≤ sW k P w ∧ sW k P w ≤ 26 * (k : Int) := by
  intro k
  induction k with
  | zero => simp [sW]
  | succ k ih =>
    rw [sW]
    have := h k
    split <;> omega
section
variable {d ln : Nat} {Y : vi_Y} {nn : Nat × Nat} {v x y z t fl fo : Int} {L R : List (Nat → Int)} {lw : Option (List gCla)} {n : Nat} {g : Nat → Int} {Q : Option vi_V → vi_W → Prop}
/-- what it weighs -/
theorem lw_103 (hY : lwY Y ln) {M : vi_M} (hM : M 112 = g) (hb : gB x y z) (hfl : fl = 0 ∨ fl = 1) (hr : bxR g (fK x y z t L) fl 216 (fun c => mAt (fK x y z t L) (c : Int) n)) {a6 a7 a8 a9 : Int} {c : Nat} (hc : c < 216) {l11 l12 l13 l14 l15 l16 l17 l18 l19 l20 l21 l22 l23 l24 l25 : Option vi_V}
    (hQ : ∀ l12 l13 l14 l15 l16 l17 l18 l19 l20 l21 l22 l23 l24 l25, vi_ok GG (d + 72) 0 173 [some (.inr (.inr 1)), some (.inr (.inr 29)), some (.inr (.inr 112)), some (.inl v), some (.inr (.inr 125)), some (.inr (.inr 126)), some (.inl a6), some (.inl a7), some (.inl a8), some (.inl a9), some (.inl (c : Int)), some (.inl (wtE x y z fl (c : Int))), l12, l13, l14, l15, l16, l17, l18, l19, l20, l21, l22, l23, l24, l25] [] (Y, M, nn) Q) : vi_ok GG (d + 72) 0 103 [some (.inr (.inr 1)), some (.inr (.inr 29)), some (.inr (.inr 112)), some (.inl v), some (.inr (.inr 125)), some (.inr (.inr 126)), some (.inl a6), some (.inl a7), some (.inl a8), some (.inl a9), some (.inl (c : Int)), l11, l12, l13, l14, l15, l16, l17, l18, l19, l20, l21, l22, l23, l24, l25] [] (Y, M, nn) Q := by
  obtain ⟨-, -, ⟨t1, t2⟩, -, -⟩ := hY
  obtain ⟨⟨g0, g1, g2, g3, g5⟩, -⟩ := hr
  have g0 : g 0 = x := g0
  have g1 : g 1 = y := g1
  have g2 : g 2 = z := g2
  have z5 : (5 : Int).toNat = 5 := rfl
  have hX : 0 ≤ (c : Int) % 6 ∧ (c : Int) % 6 ≤ 5 := by omega
  have hYY : 0 ≤ (c : Int) / 6 % 6 ∧ (c : Int) / 6 % 6 ≤ 5 := by omega
  have hxy := xy_b hX hYY
  have hd := d9_b hX
  obtain ⟨hb0, hb1, hb2⟩ := hb
  have k238 := fun {K : Option vi_V → vi_W → Prop} => @lk_238 (d + 71) K Y M nn 112 x y z t1 t2 (by rw [hM]; exact g0) (by rw [hM]; exact g1) (by rw [hM]; exact g2) hb0 hb1 hb2 (c : Int) (by omega)
  simp only [Nat.add_assoc, Nat.reduceAdd] at k238
  have hq := hQ l12 l13 l14 l15 l16 l17 l18 l19 l20 l21 l22 l23 l24 l25
  unfold wtE at hq
  rcases hfl with h | h
  · subst h
    rw [if_neg (by decide)] at hq
    clear hQ
    simp (disch := omega) only [Option.toList_some, Option.toList_none, List.nil_append, List.cons_append, List.append_nil, true_and, and_true, not_true_eq_false, not_false_eq_true, true_implies, false_implies, implies_true, and_self, Int.reduceLT, Int.reduceLE, Int.reduceEq, Int.reduceNe, Int.reduceAdd, Int.reduceSub, Int.reduceMul, Int.reduceNeg, Int.reduceToNat, Int.toNat_natCast, ↓kk_ck, ↓kk_im, ↓kk_in, s_0_103, s_0_109, s_0_131, s_0_134, t1, t2, hM, z5, g5, ne_eq]
    exact hq
  · subst h
    rw [if_pos rfl] at hq
    have st : vi_ok GG (d + 72) 0 131 [some (.inr (.inr 1)), some (.inr (.inr 29)), some (.inr (.inr 112)), some (.inl v), some (.inr (.inr 125)), some (.inr (.inr 126)), some (.inl a6), some (.inl a7), some (.inl a8), some (.inl a9), some (.inl (c : Int)), some (.inl (1 + (c : Int) % 6 * ((c : Int) / 6 % 6))), l12, l13, l14, l15, l16, l17, l18, l19, l20, l21, l22, l23, l24, l25] [] (Y, M, nn) Q := by
      by_cases a : 2 < rdE x y z (c : Int)
      · by_cases b : (c : Int) % 6 = 1
        · rw [if_neg (fun k => k.2 b)] at hq
          generalize rdE x y z (c : Int) = rd at *
          clear hQ
          simp (disch := omega) only [Option.toList_some, Option.toList_none, List.nil_append, List.cons_append, List.append_nil, true_and, and_true, not_true_eq_false, not_false_eq_true, true_implies, false_implies, implies_true, and_self, Int.reduceLT, Int.reduceLE, Int.reduceEq, Int.reduceNe, Int.reduceAdd, Int.reduceSub, Int.reduceMul, Int.reduceNeg, Int.reduceToNat, Int.toNat_natCast, ↓kk_ck, ↓kk_im, ↓kk_in, s_0_131, s_0_134, s_0_138, s_0_144, s_0_148, s_0_154, t1, t2, hM, z5, g5, k238, vi_tm, b, ne_eq]
          rw [b] at hq
          exact hq
        · rw [if_pos ⟨a, b⟩] at hq
          generalize rdE x y z (c : Int) = rd at *
          have b' : ¬ (c : Int) % 6 - 1 = 0 := by omega
          have w1 : vi_w32 ((c : Int) % 6 - 1) = (c : Int) % 6 - 1 := vi_32 (by omega) (by omega)
          have w2 : vi_w32 ((9 : Int).tdiv ((c : Int) % 6 - 1)) = (9 : Int).tdiv ((c : Int) % 6 - 1) := by
            generalize (9 : Int).tdiv ((c : Int) % 6 - 1) = q at *
            exact vi_32 (by omega) (by omega)
          have st2 : vi_ok GG (d + 72) 0 157 [some (.inr (.inr 1)), some (.inr (.inr 29)), some (.inr (.inr 112)), some (.inl v), some (.inr (.inr 125)), some (.inr (.inr 126)), some (.inl a6), some (.inl a7), some (.inl a8), some (.inl a9), some (.inl (c : Int)), some (.inl (1 + (c : Int) % 6 * ((c : Int) / 6 % 6))), l12, l13, l14, l15, l16, l17, l18, l19, l20, l21, l22, l23, l24, l25] [] (Y, M, nn) Q := by
            rw [s_0_157, vi_tm (show (0 : Int) ≤ (c : Int) by omega), w1]
            refine ⟨b', ?_⟩
            rw [w2, s_0_168, k_358, show ∀ x : vi_V, (some x).toList ++ [] = [x] from fun _ => rfl, s_0_171]
            exact hq
          clear hQ w1 w2 hq
          simp (disch := omega) only [Option.toList_some, Option.toList_none, List.nil_append, List.cons_append, List.append_nil, true_and, and_true, not_true_eq_false, not_false_eq_true, true_implies, false_implies, implies_true, and_self, Int.reduceLT, Int.reduceLE, Int.reduceEq, Int.reduceNe, Int.reduceAdd, Int.reduceSub, Int.reduceMul, Int.reduceNeg, Int.reduceToNat, Int.toNat_natCast, ↓kk_ck, ↓kk_im, ↓kk_in, s_0_131, s_0_134, s_0_138, s_0_144, s_0_148, s_0_154, t1, t2, hM, z5, g5, k238, vi_tm, b, ne_eq]
          exact st2
      · rw [if_neg (fun k => a k.1)] at hq
        generalize rdE x y z (c : Int) = rd at *
        clear hQ
        simp (disch := omega) only [Option.toList_some, Option.toList_none, List.nil_append, List.cons_append, List.append_nil, true_and, and_true, not_true_eq_false, not_false_eq_true, true_implies, false_implies, implies_true, and_self, Int.reduceLT, Int.reduceLE, Int.reduceEq, Int.reduceNe, Int.reduceAdd, Int.reduceSub, Int.reduceMul, Int.reduceNeg, Int.reduceToNat, Int.toNat_natCast, ↓kk_ck, ↓kk_im, ↓kk_in, s_0_131, s_0_134, s_0_138, s_0_144, t1, t2, hM, z5, g5, k238, ne_eq]
        exact hq
    clear hQ hq
    simp (disch := omega) only [Option.toList_some, Option.toList_none, List.nil_append, List.cons_append, List.append_nil, true_and, and_true, not_true_eq_false, not_false_eq_true, true_implies, false_implies, implies_true, and_self, Int.reduceLT, Int.reduceLE, Int.reduceEq, Int.reduceNe, Int.reduceAdd, Int.reduceSub, Int.reduceMul, Int.reduceNeg, Int.reduceToNat, Int.toNat_natCast, ↓kk_ck, ↓kk_im, ↓kk_in, s_0_103, s_0_109, s_0_113, t1, t2, hM, z5, g5, vi_tm, vi_td, vi_32, ne_eq]
    exact st
/-- whether it is SHUT -/
theorem lw_173 (hY : lwY Y ln) {M : vi_M} (hM : M 112 = g) (hb : gB x y z) (hfl : fl = 0 ∨ fl = 1) (hr : bxR g (fK x y z t L) fl 216 (fun c => mAt (fK x y z t L) (c : Int) n)) {a6 a7 a8 a9 a11 : Int} {c : Nat} (hc : c < 216) {l12 l13 l14 l15 l16 l17 l18 l19 l20 l21 l22 l23 l24 l25 : Option vi_V}
    (hQ : vi_ok GG (d + 72) 0 205 [some (.inr (.inr 1)), some (.inr (.inr 29)), some (.inr (.inr 112)), some (.inl v), some (.inr (.inr 125)), some (.inr (.inr 126)), some (.inl a6), some (.inl a7), some (.inl a8), some (.inl a9), some (.inl (c : Int)), some (.inl a11), l12, l13, l14, l15, l16, l17, l18, l19, l20, l21, l22, l23, l24, l25] [.inl (vi_b (decide (fl = 1 ∧ (rdE x y z (c : Int) = 0 ∨ (c : Int) / 36 = t))))] (Y, M, nn) Q) : vi_ok GG (d + 72) 0 173 [some (.inr (.inr 1)), some (.inr (.inr 29)), some (.inr (.inr 112)), some (.inl v), some (.inr (.inr 125)), some (.inr (.inr 126)), some (.inl a6), some (.inl a7), some (.inl a8), some (.inl a9), some (.inl (c : Int)), some (.inl a11), l12, l13, l14, l15, l16, l17, l18, l19, l20, l21, l22, l23, l24, l25] [] (Y, M, nn) Q := by
  obtain ⟨-, -, ⟨t1, t2⟩, -, -⟩ := hY
  obtain ⟨⟨g0, g1, g2, g3, g5⟩, -⟩ := hr
  have g0 : g 0 = x := g0
  have g1 : g 1 = y := g1
  have g2 : g 2 = z := g2
  have g3 : g 3 = t := g3
  have z5 : (5 : Int).toNat = 5 := rfl
  have z3 : (3 : Int).toNat = 3 := rfl
  obtain ⟨hb0, hb1, hb2⟩ := hb
  have k238 := fun {K : Option vi_V → vi_W → Prop} => @lk_238 (d + 71) K Y M nn 112 x y z t1 t2 (by rw [hM]; exact g0) (by rw [hM]; exact g1) (by rw [hM]; exact g2) hb0 hb1 hb2 (c : Int) (by omega)
  simp only [Nat.add_assoc, Nat.reduceAdd] at k238
  rcases hfl with h | h
  · subst h
    rw [vi_bn (fun k => absurd k.1 (by decide))] at hQ
    simp (disch := omega) only [Option.toList_some, Option.toList_none, List.nil_append, List.cons_append, List.append_nil, true_and, and_true, not_true_eq_false, not_false_eq_true, true_implies, false_implies, implies_true, and_self, Int.reduceLT, Int.reduceLE, Int.reduceEq, Int.reduceNe, Int.reduceAdd, Int.reduceSub, Int.reduceMul, Int.reduceNeg, Int.reduceToNat, Int.toNat_natCast, ↓kk_ck, ↓kk_im, ↓kk_in, s_0_173, s_0_176, s_0_204, t1, t2, hM, z5, g5, ne_eq]
    exact hQ
  · subst h
    by_cases a : rdE x y z (c : Int) = 0
    · rw [vi_bp ⟨rfl, .inl a⟩] at hQ
      generalize rdE x y z (c : Int) = rd at *
      simp (disch := omega) only [Option.toList_some, Option.toList_none, List.nil_append, List.cons_append, List.append_nil, true_and, and_true, not_true_eq_false, not_false_eq_true, true_implies, false_implies, implies_true, and_self, Int.reduceLT, Int.reduceLE, Int.reduceEq, Int.reduceNe, Int.reduceAdd, Int.reduceSub, Int.reduceMul, Int.reduceNeg, Int.reduceToNat, Int.toNat_natCast, ↓kk_ck, ↓kk_im, ↓kk_in, s_0_173, s_0_176, s_0_180, s_0_186, s_0_200, t1, t2, hM, z5, g5, k238, ne_eq]
      exact hQ
    · by_cases b : (c : Int) / 36 = t
      · rw [vi_bp ⟨rfl, .inr b⟩] at hQ
        generalize rdE x y z (c : Int) = rd at *
        simp (disch := omega) only [Option.toList_some, Option.toList_none, List.nil_append, List.cons_append, List.append_nil, true_and, and_true, not_true_eq_false, not_false_eq_true, true_implies, false_implies, implies_true, and_self, Int.reduceLT, Int.reduceLE, Int.reduceEq, Int.reduceNe, Int.reduceAdd, Int.reduceSub, Int.reduceMul, Int.reduceNeg, Int.reduceToNat, Int.toNat_natCast, ↓kk_ck, ↓kk_im, ↓kk_in, s_0_173, s_0_176, s_0_180, s_0_186, s_0_189, s_0_197, s_0_200, t1, t2, hM, z3, z5, g3, g5, k238, a, vi_td, vi_32, b, ne_eq]
        exact hQ
      · rw [vi_bn (fun k => k.2.elim a b)] at hQ
        generalize rdE x y z (c : Int) = rd at *
        simp (disch := omega) only [Option.toList_some, Option.toList_none, List.nil_append, List.cons_append, List.append_nil, true_and, and_true, not_true_eq_false, not_false_eq_true, true_implies, false_implies, implies_true, and_self, Int.reduceLT, Int.reduceLE, Int.reduceEq, Int.reduceNe, Int.reduceAdd, Int.reduceSub, Int.reduceMul, Int.reduceNeg, Int.reduceToNat, Int.toNat_natCast, ↓kk_ck, ↓kk_im, ↓kk_in, s_0_173, s_0_176, s_0_180, s_0_186, s_0_189, s_0_197, s_0_204, t1, t2, hM, z3, z5, g3, g5, k238, a, vi_td, vi_32, b, ne_eq]
        exact hQ
/-- one CELL of the box -/
theorem lw_92 (hY : lwY Y ln) {M : vi_M} (hS : wS M x y z t L [] lw 1 fo) (hbt : boxT lw fl fo) (hM : M 112 = g) (hr : bxR g (fK x y z t L) fl 216 (fun c => mAt (fK x y z t L) (c : Int) L.length)) {a6 a7 a8 a9 : Int} {c : Nat} (hc : c < 216) (hcb : bxS (fK x y z t L) c = true) {l11 l12 l13 l14 l15 l16 l17 l18 l19 l20 l21 l22 l23 l24 l25 : Option vi_V}
    (hQ : ∀ M' : vi_M, M' = vi_rs (vi_rs M 125 (vi_u (M 125) c (vi_b (lfS (fK x y z t L) lw L.length c)))) 126 (vi_u (M 126) c (vi_b (sDif (lfS (fK x y z t L) lw L.length) (shS (fK x y z t L) lw L.length) c))) → ∀ (b12 : Int) l13 l14 l15 l16 l17 l18 l19 l20 l21 l22 l23 l24 l25, vi_ok GG (d + 72) 0 304 [some (.inr (.inr 1)), some (.inr (.inr 29)), some (.inr (.inr 112)), some (.inl v), some (.inr (.inr 125)), some (.inr (.inr 126)), some (.inl a6), some (.inl a7), some (.inl a8), some (.inl a9), some (.inl (c : Int)), some (.inl (wtE x y z fl (c : Int))), some (.inl b12), l13, l14, l15, l16, l17, l18, l19, l20, l21, l22, l23, l24, l25] [] (Y, M', nn) Q) : vi_ok GG (d + 72) 0 92 [some (.inr (.inr 1)), some (.inr (.inr 29)), some (.inr (.inr 112)), some (.inl v), some (.inr (.inr 125)), some (.inr (.inr 126)), some (.inl a6), some (.inl a7), some (.inl a8), some (.inl a9), some (.inl (c : Int)), l11, l12, l13, l14, l15, l16, l17, l18, l19, l20, l21, l22, l23, l24, l25] [] (Y, M, nn) Q := by
  have hY' := hY
  obtain ⟨⟨y1, y2⟩, -, ⟨t1, t2⟩, ⟨i1, i2⟩, ⟨o1, o2⟩⟩ := hY'
  have hb : gB x y z := hS.1.2.2.1.2.2.2.2.1
  have hfl : fl = 0 ∨ fl = 1 := by rcases hbt with ⟨h, -⟩ | ⟨h, -⟩ <;> omega
  have tl := @tl_f x y z t fl fo L lw L.length hbt c hcb
  have hsh : shS (fK x y z t L) lw L.length c = decide (fl = 1 ∧ (rdE x y z (c : Int) = 0 ∨ (c : Int) / 36 = t)) := by
    show (bxS (fK x y z t L) c && (tlS (fK x y z t L) lw L.length c).2.1) = _
    rw [tl, hcb, Bool.true_and]
  have hwt : (tlS (fK x y z t L) lw L.length c).2.2 = wtE x y z fl (c : Int) := by rw [tl]
  clear tl
  have k239 : ∀ K : Option vi_V → vi_W → Prop, vi_call GG (d + 72) 239 [.inr (.inr 112), .inl (c : Int)] (Y, M, nn) K ↔ K (some (.inl (vi_b (decide (M 112 (6 + c) = 0 ∧ ¬ (M 112 5 = 1 ∧ c % 6 + c / 6 % 6 + c / 36 = 5)))))) (Y, M, nn) := fun K => @lk_239 (d + 71) K Y M nn 112 t1 t2 c hc
  rw [hM, left_b hbt hr hc] at k239
  have hs := pP_z hS.1
  have hV := hS.2
  have hcb' : mIcb (fK x y z t L) (c : Int) = true := hcb
  have hwb := @wtE_b x y z fl (c : Int) (by omega)
  obtain ⟨S, hSd⟩ : ∃ S, S = lfS (fK x y z t L) lw L.length := ⟨_, rfl⟩
  obtain ⟨T, hT⟩ : ∃ T, T = shS (fK x y z t L) lw L.length := ⟨_, rfl⟩
  obtain ⟨wt, hw⟩ : ∃ w, w = wtE x y z fl (c : Int) := ⟨_, rfl⟩
  obtain ⟨M1, hM1⟩ : ∃ M1, M1 = vi_rs M 125 (vi_u (M 125) c (vi_b (S c))) := ⟨_, rfl⟩
  obtain ⟨M2, hM2⟩ : ∃ M2, M2 = vi_rs M1 126 (vi_u (M 126) c (vi_b (sDif S T c))) := ⟨_, rfl⟩
  have hS2 : wS M2 x y z t L [] lw 1 fo := by rw [hM2, hM1]; exact pS_o (pS_o hS (by decide)) (by decide)
  have m1 : M1 112 = g := by rw [hM1, vi_rs_o (by decide)]; exact hM
  have m2 : M2 112 = g := by rw [hM2, vi_rs_o (by decide)]; exact m1
  have m125 : M1 125 = vi_u (M 125) c (vi_b (S c)) := by rw [hM1, vi_rs_s]
  have m126 : M1 126 = M 126 := by rw [hM1, vi_rs_o (by decide)]
  have n125 : M2 125 = vi_u (M 125) c (vi_b (S c)) := by rw [hM2, vi_rs_o (by decide)]; exact m125
  have k200 := fun {K : Option vi_V → vi_W → Prop} {x' : Int} => @k_200 (L.length) (d + 2) lw Y M2 nn K y1 y2 (fK x y z t L) (pP_z hS2.1) hS2.2 (c : Int) x'
  have q := hQ M2 (by rw [hM2, hM1, hSd, hT])
  rw [← hw] at q
  have z6 : (6 + (c : Int)).toNat = 6 + c := by omega
  have gc : g (6 + c) = mAt (fK x y z t L) (c : Int) L.length := by rw [hr.2 c hc, if_pos hcb]
  -- queries
  simp only [Nat.add_assoc, Nat.reduceAdd] at k200
  have e0 : ceV (fK x y z t L) lw L.length (c : Int) 0 = vi_b (S c) := by unfold ceV; rw [if_pos hcb', if_pos rfl, Int.toNat_natCast, hSd]
  have e1 : ceV (fK x y z t L) lw L.length (c : Int) 1 = wt := by unfold ceV; rw [if_pos hcb', if_neg (by decide), if_pos rfl, Int.toNat_natCast, hw]; exact hwt
  have e2 : ceV (fK x y z t L) lw L.length (c : Int) 2 = vi_b (T c) := by unfold ceV; rw [if_pos hcb', if_neg (by decide), if_neg (by decide), if_pos rfl, Int.toNat_natCast, hT]
  have e3 : ceV (fK x y z t L) lw L.length (c : Int) 3 = g (6 + c) := by unfold ceV; rw [if_pos hcb', if_neg (by decide), if_neg (by decide), if_neg (by decide), if_pos rfl, gc]
  have k0 := fun {K : Option vi_V → vi_W → Prop} => @k200 K 0
  have k1 := fun {K : Option vi_V → vi_W → Prop} => @k200 K 1
  have k2 := fun {K : Option vi_V → vi_W → Prop} => @k200 K 2
  have k3 := fun {K : Option vi_V → vi_W → Prop} => @k200 K 3
  rw [e0] at k0
  rw [e1] at k1
  rw [e2] at k2
  rw [e3] at k3
  have h29 := y2.1
  have hTc : vi_b (decide (fl = 1 ∧ (rdE x y z (c : Int) = 0 ∨ (c : Int) / 36 = t))) = vi_b (T c) := by rw [hT, hsh]
  have st230 : ∀ l13 l14 l15 l16 l17 l18 l19 l20 l21 l22 l23 l24 l25, vi_ok GG (d + 72) 0 230 [some (.inr (.inr 1)), some (.inr (.inr 29)), some (.inr (.inr 112)), some (.inl v), some (.inr (.inr 125)), some (.inr (.inr 126)), some (.inl a6), some (.inl a7), some (.inl a8), some (.inl a9), some (.inl (c : Int)), some (.inl wt), some (.inl (vi_b (T c))), l13, l14, l15, l16, l17, l18, l19, l20, l21, l22, l23, l24, l25] [] (Y, M2, nn) Q := by
    intro l13 l14 l15 l16 l17 l18 l19 l20 l21 l22 l23 l24 l25
    have q := q (vi_b (T c)) l13 l14 l15 l16 l17 l18 l19 l20 l21 l22 l23 l24 l25
    clear hQ k239 k200 e0 e1 e2 e3 gc hM hM1 hM2 hS hS2 hs hV hr hbt hcb hcb' hsh hwt hTc hw hSd hT m1 m125 m126 hwb
    cases hs : S c <;> cases ht : T c
    · rw [hs] at k0 n125
      rw [ht] at k2 q
      simp (disch := omega) only [Option.toList_some, Option.toList_none, List.nil_append, List.cons_append, List.append_nil, true_and, and_true, not_true_eq_false, not_false_eq_true, true_implies, false_implies, implies_true, and_self, Int.reduceLT, Int.reduceLE, Int.reduceEq, Int.reduceNe, Int.reduceAdd, Int.reduceSub, Int.reduceMul, Int.reduceNeg, Int.reduceToNat, Int.toNat_natCast, ↓kk_ck, ↓kk_im, ↓kk_in, s_0_230, s_0_237, s_0_242, s_0_249, s_0_250, s_0_253, s_0_260, s_0_265, s_0_272, s_0_281, s_0_282, s_0_285, s_0_292, s_0_298, s_0_299, h29, i1, i2, t1, t2, k0, k1, k2, k3, n125, vi_u_s, vi_bt, vi_bf, m2, z6, vi_32, ne_eq]
      exact q
    · rw [hs] at k0 n125
      rw [ht] at k2 q
      simp (disch := omega) only [Option.toList_some, Option.toList_none, List.nil_append, List.cons_append, List.append_nil, true_and, and_true, not_true_eq_false, not_false_eq_true, true_implies, false_implies, implies_true, and_self, Int.reduceLT, Int.reduceLE, Int.reduceEq, Int.reduceNe, Int.reduceAdd, Int.reduceSub, Int.reduceMul, Int.reduceNeg, Int.reduceToNat, Int.toNat_natCast, ↓kk_ck, ↓kk_im, ↓kk_in, s_0_230, s_0_237, s_0_242, s_0_249, s_0_250, s_0_253, s_0_260, s_0_265, s_0_272, s_0_277, s_0_282, s_0_285, s_0_292, s_0_298, s_0_299, h29, i1, i2, t1, t2, k0, k1, k2, k3, n125, vi_u_s, vi_bt, vi_bf, m2, z6, vi_32, ne_eq]
      exact q
    · rw [hs] at k0 n125
      rw [ht] at k2 q
      simp (disch := omega) only [Option.toList_some, Option.toList_none, List.nil_append, List.cons_append, List.append_nil, true_and, and_true, not_true_eq_false, not_false_eq_true, true_implies, false_implies, implies_true, and_self, Int.reduceLT, Int.reduceLE, Int.reduceEq, Int.reduceNe, Int.reduceAdd, Int.reduceSub, Int.reduceMul, Int.reduceNeg, Int.reduceToNat, Int.toNat_natCast, ↓kk_ck, ↓kk_im, ↓kk_in, s_0_230, s_0_237, s_0_242, s_0_245, s_0_250, s_0_253, s_0_260, s_0_265, s_0_272, s_0_281, s_0_282, s_0_285, s_0_292, s_0_298, s_0_299, h29, i1, i2, t1, t2, k0, k1, k2, k3, n125, vi_u_s, vi_bt, vi_bf, m2, z6, vi_32, ne_eq]
      exact q
    · rw [hs] at k0 n125
      rw [ht] at k2 q
      simp (disch := omega) only [Option.toList_some, Option.toList_none, List.nil_append, List.cons_append, List.append_nil, true_and, and_true, not_true_eq_false, not_false_eq_true, true_implies, false_implies, implies_true, and_self, Int.reduceLT, Int.reduceLE, Int.reduceEq, Int.reduceNe, Int.reduceAdd, Int.reduceSub, Int.reduceMul, Int.reduceNeg, Int.reduceToNat, Int.toNat_natCast, ↓kk_ck, ↓kk_im, ↓kk_in, s_0_230, s_0_237, s_0_242, s_0_245, s_0_250, s_0_253, s_0_260, s_0_265, s_0_272, s_0_277, s_0_282, s_0_285, s_0_292, s_0_298, s_0_299, h29, i1, i2, t1, t2, k0, k1, k2, k3, n125, vi_u_s, vi_bt, vi_bf, m2, z6, vi_32, ne_eq]
      exact q
  have st205 : ∀ l12 l13 l14 l15 l16 l17 l18 l19 l20 l21 l22 l23 l24 l25, vi_ok GG (d + 72) 0 205 [some (.inr (.inr 1)), some (.inr (.inr 29)), some (.inr (.inr 112)), some (.inl v), some (.inr (.inr 125)), some (.inr (.inr 126)), some (.inl a6), some (.inl a7), some (.inl a8), some (.inl a9), some (.inl (c : Int)), some (.inl wt), l12, l13, l14, l15, l16, l17, l18, l19, l20, l21, l22, l23, l24, l25] [.inl (vi_b (T c))] (Y, M1, nn) Q := by
    intro l12 l13 l14 l15 l16 l17 l18 l19 l20 l21 l22 l23 l24 l25
    have q := st230 l13 l14 l15 l16 l17 l18 l19 l20 l21 l22 l23 l24 l25
    rw [hM2] at q
    have hsd : sDif S T c = (S c && !(T c)) := rfl
    rw [hsd] at q
    clear hQ k239 k200 e0 e1 e2 e3 gc hM hM1 hM2 hS hS2 hs hV hr hbt hcb hcb' hsh hwt hTc hw hSd hT m1 m2 n125 hwb st230 k0 k1 k2 k3 hsd
    cases hs : S c <;> cases ht : T c
    · rw [hs, ht] at q
      rw [hs] at m125
      simp (disch := omega) only [Option.toList_some, Option.toList_none, List.nil_append, List.cons_append, List.append_nil, true_and, and_true, not_true_eq_false, not_false_eq_true, true_implies, false_implies, implies_true, and_self, Int.reduceLT, Int.reduceLE, Int.reduceEq, Int.reduceNe, Int.reduceAdd, Int.reduceSub, Int.reduceMul, Int.reduceNeg, Int.reduceToNat, Int.toNat_natCast, ↓kk_ck, ↓kk_im, ↓kk_in, s_0_205, s_0_216, s_0_228, s_0_229, i1, i2, o1, o2, m125, m126, vi_u_s, vi_bf, vi_bt, vi_ms_rs, vi_rs_o, vi_nar_0, vi_nar_1, ne_eq]
      exact q
    · rw [hs, ht] at q
      rw [hs] at m125
      simp (disch := omega) only [Option.toList_some, Option.toList_none, List.nil_append, List.cons_append, List.append_nil, true_and, and_true, not_true_eq_false, not_false_eq_true, true_implies, false_implies, implies_true, and_self, Int.reduceLT, Int.reduceLE, Int.reduceEq, Int.reduceNe, Int.reduceAdd, Int.reduceSub, Int.reduceMul, Int.reduceNeg, Int.reduceToNat, Int.toNat_natCast, ↓kk_ck, ↓kk_im, ↓kk_in, s_0_205, s_0_216, s_0_228, s_0_229, i1, i2, o1, o2, m125, m126, vi_u_s, vi_bf, vi_bt, vi_ms_rs, vi_rs_o, vi_nar_0, vi_nar_1, ne_eq]
      exact q
    · rw [hs, ht] at q
      rw [hs] at m125
      simp (disch := omega) only [Option.toList_some, Option.toList_none, List.nil_append, List.cons_append, List.append_nil, true_and, and_true, not_true_eq_false, not_false_eq_true, true_implies, false_implies, implies_true, and_self, Int.reduceLT, Int.reduceLE, Int.reduceEq, Int.reduceNe, Int.reduceAdd, Int.reduceSub, Int.reduceMul, Int.reduceNeg, Int.reduceToNat, Int.toNat_natCast, ↓kk_ck, ↓kk_im, ↓kk_in, s_0_205, s_0_216, s_0_219, s_0_224, s_0_229, i1, i2, o1, o2, m125, m126, vi_u_s, vi_bf, vi_bt, vi_ms_rs, vi_rs_o, vi_nar_0, vi_nar_1, ne_eq]
      exact q
    · rw [hs, ht] at q
      rw [hs] at m125
      simp (disch := omega) only [Option.toList_some, Option.toList_none, List.nil_append, List.cons_append, List.append_nil, true_and, and_true, not_true_eq_false, not_false_eq_true, true_implies, false_implies, implies_true, and_self, Int.reduceLT, Int.reduceLE, Int.reduceEq, Int.reduceNe, Int.reduceAdd, Int.reduceSub, Int.reduceMul, Int.reduceNeg, Int.reduceToNat, Int.toNat_natCast, ↓kk_ck, ↓kk_im, ↓kk_in, s_0_205, s_0_216, s_0_219, s_0_228, s_0_229, i1, i2, o1, o2, m125, m126, vi_u_s, vi_bf, vi_bt, vi_ms_rs, vi_rs_o, vi_nar_0, vi_nar_1, ne_eq]
      exact q
  have st103 : vi_ok GG (d + 72) 0 103 [some (.inr (.inr 1)), some (.inr (.inr 29)), some (.inr (.inr 112)), some (.inl v), some (.inr (.inr 125)), some (.inr (.inr 126)), some (.inl a6), some (.inl a7), some (.inl a8), some (.inl a9), some (.inl (c : Int)), l11, l12, l13, l14, l15, l16, l17, l18, l19, l20, l21, l22, l23, l24, l25] [] (Y, M1, nn) Q := by
    refine lw_103 (d := d) hY m1 hb hfl hr hc fun l12 l13 l14 l15 l16 l17 l18 l19 l20 l21 l22 l23 l24 l25 => ?_
    rw [← hw]
    refine lw_173 (d := d) hY m1 hb hfl hr hc ?_
    rw [hTc]
    exact st205 l12 l13 l14 l15 l16 l17 l18 l19 l20 l21 l22 l23 l24 l25
  rw [hM1] at st103
  rw [← hSd] at k239
  clear hQ k200 e0 e1 e2 e3 gc hM hM1 hM2 hS hS2 hs hV hr hbt hcb hcb' hsh hwt hTc hw hSd hT m1 m2 n125 hwb st230 st205 k0 k1 k2 k3 m125 m126 q
  simp (disch := omega) only [Option.toList_some, Option.toList_none, List.nil_append, List.cons_append, List.append_nil, true_and, and_true, not_true_eq_false, not_false_eq_true, true_implies, false_implies, implies_true, and_self, Int.reduceLT, Int.reduceLE, Int.reduceEq, Int.reduceNe, Int.reduceAdd, Int.reduceSub, Int.reduceMul, Int.reduceNeg, Int.reduceToNat, Int.toNat_natCast, ↓kk_ck, ↓kk_im, ↓kk_in, s_0_92, s_0_102, k239, i1, i2, vi_ms_rs, wNb]
  exact st103
end
