/-! The property of its own: rows, told right or wrong. -/
theorem jgN_a {f : Nat → Int} {S : Nat → Bool} {R : List (Nat → Int)} {w : Nat → Int} : ∀ k i, i + k = R.length → jgN f S (R ++ [w]) (k + 1) i = if jgN f S R k i = -1 then (if (rwN f S (w 0) (w 1) (w 2) : Int) = w 3 then -1 else (R.length : Int)) else jgN f S R k i := by
  intro k
  induction k with
  | zero =>
    intro i hi
    have hi : i = R.length := by omega
    subst hi
    rw [jgN, jgN, jgN, rL_r, rL_r, rL_r, rL_r, if_pos rfl]
  | succ k ih =>
    intro i hi
    rw [jgN, rL_l (by omega), rL_l (by omega), rL_l (by omega), rL_l (by omega)]
    by_cases h : (rwN f S (rL R i 0) (rL R i 1) (rL R i 2) : Int) = rL R i 3
    · rw [if_pos h, ih (i + 1) (by omega), show jgN f S R (k + 1) i = jgN f S R k (i + 1) by rw [jgN, if_pos h]]
    · rw [if_neg h, show jgN f S R (k + 1) i = (i : Int) by rw [jgN, if_neg h], if_neg (by omega)]
theorem jgN_b {f : Nat → Int} {S : Nat → Bool} {R : List (Nat → Int)} : ∀ k i, jgN f S R k i = -1 ∨ 0 ≤ jgN f S R k i := by
  intro k
  induction k with
  | zero => intro i; exact .inl rfl
  | succ k ih =>
    intro i
    rw [jgN]
    split
    · exact ih _
    · exact .inr (by omega)
theorem jgN_r {f : Nat → Int} {S : Nat → Bool} {R : List (Nat → Int)} {w : Nat → Int} : jgN f S (R ++ [w]) (R ++ [w]).length 0 = if jgN f S R R.length 0 = -1 then (if (rwN f S (w 0) (w 1) (w 2) : Int) = w 3 then -1 else (R.length : Int)) else jgN f S R R.length 0 := by
  rw [List.length_append]
  exact jgN_a R.length 0 (by omega)
section
variable {d ln : Nat} {Y : vi_Y} {nn : Nat × Nat} {v x y z t fl fo : Int} {L : List (Nat → Int)} {lw : Option (List gCla)} {g : Nat → Int} {S O : Nat → Bool} {Q : Option vi_V → vi_W → Prop}
/-- how many of a row are LEFT -/
theorem lw_602 (hY : lwY Y ln) {M : vi_M} (hM : M 112 = g) (hb : gB x y z) (r0 : g 0 = x) (r1 : g 1 = y) (r2 : g 2 = z) (h125 : ∀ j, j < 216 → M 125 j = vi_b (S j)) {a u w : Int} (ha : 0 ≤ a ∧ a ≤ 2) (hu : 0 ≤ u ∧ u ≤ 5) (hw : 0 ≤ w ∧ w ≤ 5) {a6 a7 a8 a9 a10 a11 : Int} (hp : gPl x y z a u w = true)
    (hQ : ∀ l18 l19 l20 l21 l22 l23 l24 l25 k, vi_ok GG (d + 72) 0 649 [some (.inr (.inr 1)), some (.inr (.inr 29)), some (.inr (.inr 112)), some (.inl v), some (.inr (.inr 125)), some (.inr (.inr 126)), some (.inl a6), some (.inl a7), some (.inl a8), some (.inl a9), some (.inl a10), some (.inl a11), some (.inl a), some (.inl u), some (.inl w), some (.inl 1), some (.inl (sN 6 (fun l => sHas S (gOn x y z a (l : Int) u w)) : Int)), some (.inl k), l18, l19, l20, l21, l22, l23, l24, l25] [] (Y, M, nn) Q) :
    ∀ k : Nat, (k : Int) ≤ gSz x y z a → ∀ l18 l19 l20 l21 l22 l23 l24 l25, vi_ok GG (d + 72) 0 602 [some (.inr (.inr 1)), some (.inr (.inr 29)), some (.inr (.inr 112)), some (.inl v), some (.inr (.inr 125)), some (.inr (.inr 126)), some (.inl a6), some (.inl a7), some (.inl a8), some (.inl a9), some (.inl a10), some (.inl a11), some (.inl a), some (.inl u), some (.inl w), some (.inl 1), some (.inl (sN k (fun l => sHas S (gOn x y z a (l : Int) u w)) : Int)), some (.inl (k : Int)), l18, l19, l20, l21, l22, l23, l24, l25] [] (Y, M, nn) Q := by
  obtain ⟨-, -, ⟨t1, t2⟩, ⟨i1, i2⟩, -⟩ := hY
  have ga : M 112 a.toNat = gSz x y z a := by
    rw [hM]
    obtain rfl | rfl | rfl : a = 0 ∨ a = 1 ∨ a = 2 := by omega
    · exact r0
    · exact r1
    · exact r2
  have szb : 1 ≤ gSz x y z a ∧ gSz x y z a ≤ 6 := by
    obtain ⟨b0, b1, b2⟩ := hb
    unfold gSz
    split
    · exact b0
    · split
      · exact b1
      · exact b2
  have hp' := of_decide_eq_true hp
  have on : ∀ l : Nat, gOn x y z a (l : Int) u w = if (l : Int) < gSz x y z a then mHa a.toNat u w (l : Int) else -1 := by
    intro l
    rw [hc_on]
    by_cases h : (l : Int) < gSz x y z a
    · rw [if_pos h, if_pos ⟨hp'.1, hp'.2.1, by omega, h, hp'.2.2⟩]
    · rw [if_neg h, if_neg (fun k => h k.2.2.2.1)]
  generalize gSz x y z a = sz at *
  obtain ⟨N, hN⟩ : ∃ N : Nat, sz = (N : Int) := ⟨sz.toNat, by omega⟩
  subst hN
  intro k hk0
  have hk : k ≤ N := by omega
  clear hk0
  revert k
  refine vi_dn N ?_ ?_
  · intro l18 l19 l20 l21 l22 l23 l24 l25
    have q := hQ l18 l19 l20 l21 l22 l23 l24 l25 (N : Int)
    rw [sN_ge (i := N) (fun j hj _ => by show sHas S (gOn x y z a (j : Int) u w) = false; rw [on, if_neg (by omega)]; rfl) 6 (by omega) (Nat.le_refl _)] at q
    clear hQ on h125
    rw [s_0_602]
    refine ⟨⟨t1, by omega, by omega⟩, ?_⟩
    rw [ga, s_0_608]
    exact ⟨fun _ => q, fun h => absurd (Int.le_refl _) h⟩
  · intro k hk ih l18 l19 l20 l21 l22 l23 l24 l25
    have q := ih l18 l19 l20 l21 l22 l23 l24 l25
    obtain ⟨c, e1, e2, -⟩ := @mHa_b x y z hb a u w (k : Int) ha ⟨hp'.2.2.1, hp'.2.2.2.1⟩ ⟨hp'.2.2.2.2.1, hp'.2.2.2.2.2⟩ ⟨by omega, by
      show (k : Int) < gSz x y z a
      have : M 112 a.toNat = gSz x y z a := by
        rw [hM]
        obtain rfl | rfl | rfl : a = 0 ∨ a = 1 ∨ a = 2 := by omega
        · exact r0
        · exact r1
        · exact r2
      rw [← this, ga]
      omega⟩
    have k237 := fun {K : Option vi_V → vi_W → Prop} => @lk_237 (d + 71) K Y M nn a u w (k : Int) ha hu hw (by omega)
    simp only [Nat.add_assoc, Nat.reduceAdd] at k237
    rw [e1] at k237
    have hs : sHas S (gOn x y z a (k : Int) u w) = S c := by
      rw [on, if_pos (by omega), e1]
      exact sHas_n e2
    rw [sN_s, hs] at q
    have ec := h125 c e2
    have nb := sN_le k (fun l => sHas S (gOn x y z a (l : Int) u w))
    have rw1 : vi_ok GG (d + 72) 0 611 [some (.inr (.inr 1)), some (.inr (.inr 29)), some (.inr (.inr 112)), some (.inl v), some (.inr (.inr 125)), some (.inr (.inr 126)), some (.inl a6), some (.inl a7), some (.inl a8), some (.inl a9), some (.inl a10), some (.inl a11), some (.inl a), some (.inl u), some (.inl w), some (.inl 1), some (.inl (sN k (fun l => sHas S (gOn x y z a (l : Int) u w)) : Int)), some (.inl (k : Int)), l18, l19, l20, l21, l22, l23, l24, l25] [] (Y, M, nn) Q → vi_ok GG (d + 72) 0 602 [some (.inr (.inr 1)), some (.inr (.inr 29)), some (.inr (.inr 112)), some (.inl v), some (.inr (.inr 125)), some (.inr (.inr 126)), some (.inl a6), some (.inl a7), some (.inl a8), some (.inl a9), some (.inl a10), some (.inl a11), some (.inl a), some (.inl u), some (.inl w), some (.inl 1), some (.inl (sN k (fun l => sHas S (gOn x y z a (l : Int) u w)) : Int)), some (.inl (k : Int)), l18, l19, l20, l21, l22, l23, l24, l25] [] (Y, M, nn) Q := by
      intro h
      rw [s_0_602]
      refine ⟨⟨t1, by omega, by omega⟩, ?_⟩
      rw [ga, s_0_608]
      exact ⟨fun q => absurd q (by omega), fun _ => h⟩
    refine rw1 ?_
    generalize sN k (fun l => sHas S (gOn x y z a (l : Int) u w)) = n at *
    clear hQ on h125 ih rw1 ga hs e1
    cases hs : S c
    · rw [hs] at q ec
      simp (disch := omega) only [Option.toList_some, Option.toList_none, List.nil_append, List.cons_append, List.append_nil, true_and, and_true, not_true_eq_false, not_false_eq_true, true_implies, false_implies, implies_true, and_self, Int.reduceLT, Int.reduceLE, Int.reduceEq, Int.reduceNe, Int.reduceAdd, Int.reduceSub, Int.reduceMul, Int.reduceNeg, Int.reduceToNat, Int.toNat_natCast, ↓kk_ck, ↓kk_im, ↓kk_in, s_0_611, s_0_616, s_0_631, s_0_632, s_0_639, s_0_640, k237, i1, i2, ec, vi_bf, Int.add_zero, @vi_32 (n : Int) (by omega) (by omega), vi_inc]
      exact q
    · rw [hs] at q ec
      have q : vi_ok GG (d + 72) 0 602 [some (.inr (.inr 1)), some (.inr (.inr 29)), some (.inr (.inr 112)), some (.inl v), some (.inr (.inr 125)), some (.inr (.inr 126)), some (.inl a6), some (.inl a7), some (.inl a8), some (.inl a9), some (.inl a10), some (.inl a11), some (.inl a), some (.inl u), some (.inl w), some (.inl 1), some (.inl ((n : Int) + 1)), some (.inl ((k + 1 : Nat) : Int)), l18, l19, l20, l21, l22, l23, l24, l25] [] (Y, M, nn) Q := q
      simp (disch := omega) only [Option.toList_some, Option.toList_none, List.nil_append, List.cons_append, List.append_nil, true_and, and_true, not_true_eq_false, not_false_eq_true, true_implies, false_implies, implies_true, and_self, Int.reduceLT, Int.reduceLE, Int.reduceEq, Int.reduceNe, Int.reduceAdd, Int.reduceSub, Int.reduceMul, Int.reduceNeg, Int.reduceToNat, Int.toNat_natCast, ↓kk_ck, ↓kk_im, ↓kk_in, s_0_611, s_0_616, s_0_631, s_0_632, s_0_635, s_0_640, k237, i1, i2, ec, vi_bt, @vi_32 ((n : Int) + 1) (by omega) (by omega), vi_inc]
      exact q
/-- a row of the box or none -/
theorem lw_543 (hY : lwY Y ln) {M : vi_M} (hM : M 112 = g) (hb : gB x y z) (r0 : g 0 = x) (r1 : g 1 = y) (r2 : g 2 = z) {a u w : Nat} (ha : a < 3) (hu : u < 6) (hw : w < 6) {a6 a7 a8 a9 a10 a11 : Int} {l15 l16 l17 l18 l19 l20 l21 l22 l23 l24 l25 : Option vi_V}
    (hQ : ∀ l18 l19 l20 l21 l22 l23 l24 l25, vi_ok GG (d + 72) 0 602 [some (.inr (.inr 1)), some (.inr (.inr 29)), some (.inr (.inr 112)), some (.inl v), some (.inr (.inr 125)), some (.inr (.inr 126)), some (.inl a6), some (.inl a7), some (.inl a8), some (.inl a9), some (.inl a10), some (.inl a11), some (.inl (a : Int)), some (.inl (u : Int)), some (.inl (w : Int)), some (.inl (vi_b (gPl x y z (a : Int) (u : Int) (w : Int)))), some (.inl 0), some (.inl 0), l18, l19, l20, l21, l22, l23, l24, l25] [] (Y, M, nn) Q) : vi_ok GG (d + 72) 0 543 [some (.inr (.inr 1)), some (.inr (.inr 29)), some (.inr (.inr 112)), some (.inl v), some (.inr (.inr 125)), some (.inr (.inr 126)), some (.inl a6), some (.inl a7), some (.inl a8), some (.inl a9), some (.inl a10), some (.inl a11), some (.inl (a : Int)), some (.inl (u : Int)), some (.inl (w : Int)), l15, l16, l17, l18, l19, l20, l21, l22, l23, l24, l25] [] (Y, M, nn) Q := by
  obtain ⟨-, -, ⟨t1, t2⟩, -, -⟩ := hY
  have q := hQ l18 l19 l20 l21 l22 l23 l24 l25
  have z0 : (0 : Int).toNat = 0 := rfl
  have z1 : (1 : Int).toNat = 1 := rfl
  have z2 : (2 : Int).toNat = 2 := rfl
  rw [← hM] at r0 r1 r2
  obtain ⟨b0, b1, b2⟩ := hb
  rw [s_0_543]
  obtain rfl | rfl | rfl : a = 0 ∨ a = 1 ∨ a = 2 := by omega
  · have e : gPl x y z ((0 : Nat) : Int) (u : Int) (w : Int) = decide ((u : Int) < y ∧ (w : Int) < z) := by
      unfold gPl
      rw [decide_eq_decide]
      show (0 ≤ ((0 : Nat) : Int) ∧ ((0 : Nat) : Int) ≤ 2 ∧ 0 ≤ (u : Int) ∧ (u : Int) < y ∧ 0 ≤ (w : Int) ∧ (w : Int) < z) ↔ _
      omega
    rw [e] at q
    clear hQ e
    by_cases h1 : (u : Int) < y
    · by_cases h2 : (w : Int) < z
      · rw [vi_bp ⟨h1, h2⟩] at q
        simp (disch := omega) only [Option.toList_some, Option.toList_none, List.nil_append, List.cons_append, List.append_nil, true_and, and_true, not_true_eq_false, not_false_eq_true, true_implies, false_implies, implies_true, and_self, Int.reduceLT, Int.reduceLE, Int.reduceEq, Int.reduceNe, Int.reduceAdd, Int.reduceSub, Int.reduceMul, Int.reduceNeg, Int.reduceToNat, Int.toNat_natCast, ↓kk_ck, ↓kk_im, ↓kk_in, s_0_550, s_0_557, s_0_560, s_0_566, s_0_569, s_0_583, s_0_586, s_0_589, s_0_594, t1, t2, z0, z1, z2, r0, r1, r2, ne_eq]
        exact q
      · rw [vi_bn (fun k => h2 k.2)] at q
        simp (disch := omega) only [Option.toList_some, Option.toList_none, List.nil_append, List.cons_append, List.append_nil, true_and, and_true, not_true_eq_false, not_false_eq_true, true_implies, false_implies, implies_true, and_self, Int.reduceLT, Int.reduceLE, Int.reduceEq, Int.reduceNe, Int.reduceAdd, Int.reduceSub, Int.reduceMul, Int.reduceNeg, Int.reduceToNat, Int.toNat_natCast, ↓kk_ck, ↓kk_im, ↓kk_in, s_0_550, s_0_557, s_0_560, s_0_566, s_0_569, s_0_583, s_0_586, s_0_593, s_0_594, t1, t2, z0, z1, z2, r0, r1, r2, ne_eq]
        exact q
    · rw [vi_bn (fun k => h1 k.1)] at q
      simp (disch := omega) only [Option.toList_some, Option.toList_none, List.nil_append, List.cons_append, List.append_nil, true_and, and_true, not_true_eq_false, not_false_eq_true, true_implies, false_implies, implies_true, and_self, Int.reduceLT, Int.reduceLE, Int.reduceEq, Int.reduceNe, Int.reduceAdd, Int.reduceSub, Int.reduceMul, Int.reduceNeg, Int.reduceToNat, Int.toNat_natCast, ↓kk_ck, ↓kk_im, ↓kk_in, s_0_550, s_0_557, s_0_560, s_0_566, s_0_593, s_0_594, t1, t2, z0, z1, z2, r0, r1, r2, ne_eq]
      exact q
  · have e : gPl x y z ((1 : Nat) : Int) (u : Int) (w : Int) = decide ((u : Int) < x ∧ (w : Int) < z) := by
      unfold gPl
      rw [decide_eq_decide]
      show (0 ≤ ((1 : Nat) : Int) ∧ ((1 : Nat) : Int) ≤ 2 ∧ 0 ≤ (u : Int) ∧ (u : Int) < x ∧ 0 ≤ (w : Int) ∧ (w : Int) < z) ↔ _
      omega
    rw [e] at q
    clear hQ e
    by_cases h1 : (u : Int) < x
    · by_cases h2 : (w : Int) < z
      · rw [vi_bp ⟨h1, h2⟩] at q
        simp (disch := omega) only [Option.toList_some, Option.toList_none, List.nil_append, List.cons_append, List.append_nil, true_and, and_true, not_true_eq_false, not_false_eq_true, true_implies, false_implies, implies_true, and_self, Int.reduceLT, Int.reduceLE, Int.reduceEq, Int.reduceNe, Int.reduceAdd, Int.reduceSub, Int.reduceMul, Int.reduceNeg, Int.reduceToNat, Int.toNat_natCast, ↓kk_ck, ↓kk_im, ↓kk_in, s_0_550, s_0_563, s_0_566, s_0_569, s_0_583, s_0_586, s_0_589, s_0_594, t1, t2, z0, z1, z2, r0, r1, r2, ne_eq]
        exact q
      · rw [vi_bn (fun k => h2 k.2)] at q
        simp (disch := omega) only [Option.toList_some, Option.toList_none, List.nil_append, List.cons_append, List.append_nil, true_and, and_true, not_true_eq_false, not_false_eq_true, true_implies, false_implies, implies_true, and_self, Int.reduceLT, Int.reduceLE, Int.reduceEq, Int.reduceNe, Int.reduceAdd, Int.reduceSub, Int.reduceMul, Int.reduceNeg, Int.reduceToNat, Int.toNat_natCast, ↓kk_ck, ↓kk_im, ↓kk_in, s_0_550, s_0_563, s_0_566, s_0_569, s_0_583, s_0_586, s_0_593, s_0_594, t1, t2, z0, z1, z2, r0, r1, r2, ne_eq]
        exact q
    · rw [vi_bn (fun k => h1 k.1)] at q
      simp (disch := omega) only [Option.toList_some, Option.toList_none, List.nil_append, List.cons_append, List.append_nil, true_and, and_true, not_true_eq_false, not_false_eq_true, true_implies, false_implies, implies_true, and_self, Int.reduceLT, Int.reduceLE, Int.reduceEq, Int.reduceNe, Int.reduceAdd, Int.reduceSub, Int.reduceMul, Int.reduceNeg, Int.reduceToNat, Int.toNat_natCast, ↓kk_ck, ↓kk_im, ↓kk_in, s_0_550, s_0_563, s_0_566, s_0_593, s_0_594, t1, t2, z0, z1, z2, r0, r1, r2, ne_eq]
      exact q
  · have e : gPl x y z ((2 : Nat) : Int) (u : Int) (w : Int) = decide ((u : Int) < x ∧ (w : Int) < y) := by
      unfold gPl
      rw [decide_eq_decide]
      show (0 ≤ ((2 : Nat) : Int) ∧ ((2 : Nat) : Int) ≤ 2 ∧ 0 ≤ (u : Int) ∧ (u : Int) < x ∧ 0 ≤ (w : Int) ∧ (w : Int) < y) ↔ _
      omega
    rw [e] at q
    clear hQ e
    by_cases h1 : (u : Int) < x
    · by_cases h2 : (w : Int) < y
      · rw [vi_bp ⟨h1, h2⟩] at q
        simp (disch := omega) only [Option.toList_some, Option.toList_none, List.nil_append, List.cons_append, List.append_nil, true_and, and_true, not_true_eq_false, not_false_eq_true, true_implies, false_implies, implies_true, and_self, Int.reduceLT, Int.reduceLE, Int.reduceEq, Int.reduceNe, Int.reduceAdd, Int.reduceSub, Int.reduceMul, Int.reduceNeg, Int.reduceToNat, Int.toNat_natCast, ↓kk_ck, ↓kk_im, ↓kk_in, s_0_550, s_0_563, s_0_566, s_0_569, s_0_577, s_0_580, s_0_586, s_0_589, s_0_594, t1, t2, z0, z1, z2, r0, r1, r2, ne_eq]
        exact q
      · rw [vi_bn (fun k => h2 k.2)] at q
        simp (disch := omega) only [Option.toList_some, Option.toList_none, List.nil_append, List.cons_append, List.append_nil, true_and, and_true, not_true_eq_false, not_false_eq_true, true_implies, false_implies, implies_true, and_self, Int.reduceLT, Int.reduceLE, Int.reduceEq, Int.reduceNe, Int.reduceAdd, Int.reduceSub, Int.reduceMul, Int.reduceNeg, Int.reduceToNat, Int.toNat_natCast, ↓kk_ck, ↓kk_im, ↓kk_in, s_0_550, s_0_563, s_0_566, s_0_569, s_0_577, s_0_580, s_0_586, s_0_593, s_0_594, t1, t2, z0, z1, z2, r0, r1, r2, ne_eq]
        exact q
    · rw [vi_bn (fun k => h1 k.1)] at q
      simp (disch := omega) only [Option.toList_some, Option.toList_none, List.nil_append, List.cons_append, List.append_nil, true_and, and_true, not_true_eq_false, not_false_eq_true, true_implies, false_implies, implies_true, and_self, Int.reduceLT, Int.reduceLE, Int.reduceEq, Int.reduceNe, Int.reduceAdd, Int.reduceSub, Int.reduceMul, Int.reduceNeg, Int.reduceToNat, Int.toNat_natCast, ↓kk_ck, ↓kk_im, ↓kk_in, s_0_550, s_0_563, s_0_566, s_0_593, s_0_594, t1, t2, z0, z1, z2, r0, r1, r2, ne_eq]
      exact q
/-- a row that is there: it may be told -/
theorem lw_675 (hY : lwY Y ln) {M : vi_M} {R : List (Nat → Int)} (hR : R.length ≤ 8) (hS : wS M x y z t L R lw 1 fo) (hD : lwD M g S O) (hSe : S = lfS (fK x y z t L) lw L.length) {a u w : Nat} (ha : a < 3) (hu : u < 6) (hw : w < 6) (hp : gPl x y z (a : Int) (u : Int) (w : Int) = true) {a6 a7 a8 a9 k : Int} {l18 l19 l20 l21 l22 l23 l24 l25 : Option vi_V}
    (hQ : ∀ (M' : vi_M) (R' : List (Nat → Int)), R'.length ≤ 8 → wS M' x y z t L R' lw 1 fo → lwD M' g S O → ∀ (a15 a16 a17 : Int) l18 l19 l20 l21 l22 l23 l24 l25, vi_ok GG (d + 72) 0 772 [some (.inr (.inr 1)), some (.inr (.inr 29)), some (.inr (.inr 112)), some (.inl v), some (.inr (.inr 125)), some (.inr (.inr 126)), some (.inl a6), some (.inl a7), some (.inl a8), some (.inl a9), some (.inl (R'.length : Int)), some (.inl (jgN (fK x y z t L) S R' R'.length 0)), some (.inl (a : Int)), some (.inl (u : Int)), some (.inl (w : Int)), some (.inl a15), some (.inl a16), some (.inl a17), l18, l19, l20, l21, l22, l23, l24, l25] [] (Y, M', nn) Q) : vi_ok GG (d + 72) 0 675 [some (.inr (.inr 1)), some (.inr (.inr 29)), some (.inr (.inr 112)), some (.inl v), some (.inr (.inr 125)), some (.inr (.inr 126)), some (.inl a6), some (.inl a7), some (.inl a8), some (.inl a9), some (.inl (R.length : Int)), some (.inl (jgN (fK x y z t L) S R R.length 0)), some (.inl (a : Int)), some (.inl (u : Int)), some (.inl (w : Int)), some (.inl 1), some (.inl (rwN (fK x y z t L) S (a : Int) (u : Int) (w : Int) : Int)), some (.inl k), l18, l19, l20, l21, l22, l23, l24, l25] [] (Y, M, nn) Q := by
  obtain ⟨⟨y1, y2⟩, -, -, -, -⟩ := hY
  have h29 := y2.1
  have nb : rwN (fK x y z t L) S (a : Int) (u : Int) (w : Int) ≤ 6 := sN_le 6 _
  have q0 := fun (a15 a16 a17 : Int) => hQ M R hR hS hD a15 a16 a17 l18 l19 l20 l21 l22 l23 l24 l25
  by_cases h8 : R.length = 8
  · have q := q0 1 (rwN (fK x y z t L) S (a : Int) (u : Int) (w : Int) : Int) k
    have h8' : (R.length : Int) = 8 := by omega
    rw [h8'] at q
    clear hQ q0 hS hD
    rw [h8']
    simp (disch := omega) only [Option.toList_some, Option.toList_none, List.nil_append, List.cons_append, List.append_nil, true_and, and_true, not_true_eq_false, not_false_eq_true, true_implies, false_implies, implies_true, and_self, Int.reduceLT, Int.reduceLE, Int.reduceEq, Int.reduceNe, Int.reduceAdd, Int.reduceSub, Int.reduceMul, Int.reduceNeg, Int.reduceToNat, Int.toNat_natCast, ↓kk_ck, ↓kk_im, ↓kk_in, s_0_675, s_0_680]
    exact q
  · have h8' : ¬ (R.length : Int) = 8 := by omega
    have jb := @jgN_b (fK x y z t L) S R R.length 0
    -- told as s
    have tell : ∀ s : Int, 0 ≤ s ∧ s ≤ 6 → vi_ok GG (d + 72) 0 730 [some (.inr (.inr 1)), some (.inr (.inr 29)), some (.inr (.inr 112)), some (.inl v), some (.inr (.inr 125)), some (.inr (.inr 126)), some (.inl a6), some (.inl a7), some (.inl a8), some (.inl a9), some (.inl (R.length : Int)), some (.inl (jgN (fK x y z t L) S R R.length 0)), some (.inl (a : Int)), some (.inl (u : Int)), some (.inl (w : Int)), some (.inl 1), some (.inl (rwN (fK x y z t L) S (a : Int) (u : Int) (w : Int) : Int)), some (.inl k), l18, l19, l20, l21, l22, l23, l24, l25] [.inl s] (Y, M, nn) Q := by
      intro s hs
      rw [s_0_730]
      refine ⟨h29, ?_⟩
      refine @lk_204 (d + 2) 1 Y M nn x y z t fo L R lw _ y1 y2 hS (by omega) (a : Int) (u : Int) (w : Int) s hp hs fun M' hS' hf' => ?_
      have q := hQ M' _ (by rw [List.length_append]; show R.length + 1 ≤ 8; omega) hS' ⟨(hf' 112 (by decide) (by decide) (by decide)).trans hD.1, fun j hj => by rw [hf' 125 (by decide) (by decide) (by decide), hf' 126 (by decide) (by decide) (by decide)]; exact hD.2 j hj⟩ 1 (rwN (fK x y z t L) S (a : Int) (u : Int) (w : Int) : Int) s l18 l19 l20 l21 l22 l23 l24 l25
      rw [jgN_r, List.length_append] at q
      have q : vi_ok GG (d + 72) 0 772 [some (.inr (.inr 1)), some (.inr (.inr 29)), some (.inr (.inr 112)), some (.inl v), some (.inr (.inr 125)), some (.inr (.inr 126)), some (.inl a6), some (.inl a7), some (.inl a8), some (.inl a9), some (.inl ((R.length : Int) + 1)), some (.inl (if jgN (fK x y z t L) S R R.length 0 = -1 then (if (rwN (fK x y z t L) S (a : Int) (u : Int) (w : Int) : Int) = s then -1 else (R.length : Int)) else jgN (fK x y z t L) S R R.length 0)), some (.inl (a : Int)), some (.inl (u : Int)), some (.inl (w : Int)), some (.inl 1), some (.inl (rwN (fK x y z t L) S (a : Int) (u : Int) (w : Int) : Int)), some (.inl s), l18, l19, l20, l21, l22, l23, l24, l25] [] (Y, M', nn) Q := q
      have ew : ((R.length + 1 : Nat) : Int) = (R.length : Int) + 1 := by omega
      have w1 : vi_w32 ((R.length : Int) + 1) = (R.length : Int) + 1 := vi_32 (by omega) (by omega)
      rw [show ∀ x : vi_V, (some x).toList ++ [] = [x] from fun _ => rfl, ew, s_0_744, w1, s_0_748]
      refine ⟨fun _ => ?_, fun h => absurd rfl h⟩
      clear hQ q0 hS hD hS' hf' w1
      generalize jgN (fK x y z t L) S R R.length 0 = j at *
      generalize rwN (fK x y z t L) S (a : Int) (u : Int) (w : Int) = n at *
      generalize R.length = r at *
      by_cases hj : j = -1
      · subst hj
        rw [if_pos rfl] at q
        by_cases hn : (n : Int) = s
        · rw [if_pos hn] at q
          subst hn
          simp (disch := omega) only [Option.toList_some, Option.toList_none, List.nil_append, List.cons_append, List.append_nil, true_and, and_true, not_true_eq_false, not_false_eq_true, true_implies, false_implies, implies_true, and_self, Int.reduceLT, Int.reduceLE, Int.reduceEq, Int.reduceNe, Int.reduceAdd, Int.reduceSub, Int.reduceMul, Int.reduceNeg, Int.reduceToNat, Int.toNat_natCast, ↓kk_ck, ↓kk_im, ↓kk_in, s_0_753, s_0_758, s_0_769, vi_inc]
          exact q
        · rw [if_neg hn] at q
          have hn' : ¬ s = (n : Int) := fun e => hn e.symm
          simp (disch := omega) only [Option.toList_some, Option.toList_none, List.nil_append, List.cons_append, List.append_nil, true_and, and_true, not_true_eq_false, not_false_eq_true, true_implies, false_implies, implies_true, and_self, Int.reduceLT, Int.reduceLE, Int.reduceEq, Int.reduceNe, Int.reduceAdd, Int.reduceSub, Int.reduceMul, Int.reduceNeg, Int.reduceToNat, Int.toNat_natCast, ↓kk_ck, ↓kk_im, ↓kk_in, s_0_753, s_0_758, s_0_765, s_0_769, hn', vi_inc]
          exact q
      · rw [if_neg hj] at q
        have hj' : 0 ≤ j := jb.resolve_left hj
        simp (disch := omega) only [Option.toList_some, Option.toList_none, List.nil_append, List.cons_append, List.append_nil, true_and, and_true, not_true_eq_false, not_false_eq_true, true_implies, false_implies, implies_true, and_self, Int.reduceLT, Int.reduceLE, Int.reduceEq, Int.reduceNe, Int.reduceAdd, Int.reduceSub, Int.reduceMul, Int.reduceNeg, Int.reduceToNat, Int.toNat_natCast, ↓kk_ck, ↓kk_im, ↓kk_in, s_0_753, s_0_769, vi_inc]
        exact q
    have st698 : ∀ q : Int, vi_ok GG (d + 72) 0 698 [some (.inr (.inr 1)), some (.inr (.inr 29)), some (.inr (.inr 112)), some (.inl v), some (.inr (.inr 125)), some (.inr (.inr 126)), some (.inl a6), some (.inl a7), some (.inl a8), some (.inl a9), some (.inl (R.length : Int)), some (.inl (jgN (fK x y z t L) S R R.length 0)), some (.inl (a : Int)), some (.inl (u : Int)), some (.inl (w : Int)), some (.inl 1), some (.inl (rwN (fK x y z t L) S (a : Int) (u : Int) (w : Int) : Int)), some (.inl k), l18, l19, l20, l21, l22, l23, l24, l25] [.inl (q % 3)] (Y, M, nn) Q := by
      intro q
      have st718 : ∀ q : Int, vi_ok GG (d + 72) 0 718 [some (.inr (.inr 1)), some (.inr (.inr 29)), some (.inr (.inr 112)), some (.inl v), some (.inr (.inr 125)), some (.inr (.inr 126)), some (.inl a6), some (.inl a7), some (.inl a8), some (.inl a9), some (.inl (R.length : Int)), some (.inl (jgN (fK x y z t L) S R R.length 0)), some (.inl (a : Int)), some (.inl (u : Int)), some (.inl (w : Int)), some (.inl 1), some (.inl (rwN (fK x y z t L) S (a : Int) (u : Int) (w : Int) : Int)), some (.inl k), l18, l19, l20, l21, l22, l23, l24, l25] [.inl (q % 7)] (Y, M, nn) Q := by
        intro q
        have t1 := tell (rwN (fK x y z t L) S (a : Int) (u : Int) (w : Int) : Int) (by omega)
        have t2 := tell ((rwN (fK x y z t L) S (a : Int) (u : Int) (w : Int) : Int) / 2) (by omega)
        clear tell hQ q0 hS hD
        generalize jgN (fK x y z t L) S R R.length 0 = j at *
        generalize rwN (fK x y z t L) S (a : Int) (u : Int) (w : Int) = n at *
        by_cases h : q % 7 = 0
        · simp (disch := omega) only [Option.toList_some, Option.toList_none, List.nil_append, List.cons_append, List.append_nil, true_and, and_true, not_true_eq_false, not_false_eq_true, true_implies, false_implies, implies_true, and_self, Int.reduceLT, Int.reduceLE, Int.reduceEq, Int.reduceNe, Int.reduceAdd, Int.reduceSub, Int.reduceMul, Int.reduceNeg, Int.reduceToNat, Int.toNat_natCast, ↓kk_ck, ↓kk_im, ↓kk_in, s_0_718, s_0_721, h, vi_td, @vi_32 ((n : Int) / 2) (by omega) (by omega), ne_eq]
          exact t2
        · simp (disch := omega) only [Option.toList_some, Option.toList_none, List.nil_append, List.cons_append, List.append_nil, true_and, and_true, not_true_eq_false, not_false_eq_true, true_implies, false_implies, implies_true, and_self, Int.reduceLT, Int.reduceLE, Int.reduceEq, Int.reduceNe, Int.reduceAdd, Int.reduceSub, Int.reduceMul, Int.reduceNeg, Int.reduceToNat, Int.toNat_natCast, ↓kk_ck, ↓kk_im, ↓kk_in, s_0_718, s_0_728, h, ne_eq]
          exact t1
      have k234 := fun {K : Option vi_V → vi_W → Prop} {u : Int} => @lk_234 (d + 71) K Y M nn u 7 (by decide) (by decide)
      simp only [Nat.add_assoc, Nat.reduceAdd] at k234
      have o0 := q0 1 (rwN (fK x y z t L) S (a : Int) (u : Int) (w : Int) : Int) k
      clear tell hQ q0 hS hD
      generalize jgN (fK x y z t L) S R R.length 0 = j at *
      generalize rwN (fK x y z t L) S (a : Int) (u : Int) (w : Int) = n at *
      by_cases h : q % 3 = 0
      · simp (disch := omega) only [Option.toList_some, Option.toList_none, List.nil_append, List.cons_append, List.append_nil, true_and, and_true, not_true_eq_false, not_false_eq_true, true_implies, false_implies, implies_true, and_self, Int.reduceLT, Int.reduceLE, Int.reduceEq, Int.reduceNe, Int.reduceAdd, Int.reduceSub, Int.reduceMul, Int.reduceNeg, Int.reduceToNat, Int.toNat_natCast, ↓kk_ck, ↓kk_im, ↓kk_in, s_0_698, s_0_704, h, k234]
        exact st718 _
      · have h' : ¬ q % 3 ≤ 0 := by omega
        simp (disch := omega) only [Option.toList_some, Option.toList_none, List.nil_append, List.cons_append, List.append_nil, true_and, and_true, not_true_eq_false, not_false_eq_true, true_implies, false_implies, implies_true, and_self, Int.reduceLT, Int.reduceLE, Int.reduceEq, Int.reduceNe, Int.reduceAdd, Int.reduceSub, Int.reduceMul, Int.reduceNeg, Int.reduceToNat, Int.toNat_natCast, ↓kk_ck, ↓kk_im, ↓kk_in, s_0_698, s_0_701, h']
        exact o0
    have k234 := fun {K : Option vi_V → vi_W → Prop} {u : Int} => @lk_234 (d + 71) K Y M nn u 3 (by decide) (by decide)
    simp only [Nat.add_assoc, Nat.reduceAdd] at k234
    clear tell hQ q0 hS hD jb
    generalize jgN (fK x y z t L) S R R.length 0 = j at *
    generalize rwN (fK x y z t L) S (a : Int) (u : Int) (w : Int) = n at *
    simp (disch := omega) only [Option.toList_some, Option.toList_none, List.nil_append, List.cons_append, List.append_nil, true_and, and_true, not_true_eq_false, not_false_eq_true, true_implies, false_implies, implies_true, and_self, Int.reduceLT, Int.reduceLE, Int.reduceEq, Int.reduceNe, Int.reduceAdd, Int.reduceSub, Int.reduceMul, Int.reduceNeg, Int.reduceToNat, Int.toNat_natCast, ↓kk_ck, ↓kk_im, ↓kk_in, s_0_675, s_0_680, s_0_687, h8', k234]
    exact st698 _
end
