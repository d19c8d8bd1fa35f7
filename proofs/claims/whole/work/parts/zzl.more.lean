/-! Pairs: view, told, count, force, feed, end. -/
theorem rDk_u {f g : Nat → Int} (h : rDk f g) {a u v : Nat} {x : Int} (ha : a < 3) (hu : u < 6) (hv : v < 6) (hx : 0 ≤ x ∧ x ≤ 1) : rDk (vi_u f (172 + 36 * a + 6 * v + u) x) (vi_u g (36 * a + 6 * u + v) x) := by
  intro a' u' v' ha' hu' hv'
  unfold vi_u
  by_cases e : 36 * a' + 6 * u' + v' = 36 * a + 6 * u + v
  · rw [if_pos e, if_pos (by omega)]
    exact ⟨rfl, by omega⟩
  · rw [if_neg e, if_neg (by omega)]
    exact h a' u' v' ha' hu' hv'
theorem rCt_u {f g : Nat → Int} (h : rCt f g) {i : Nat} {x : Int} (hx : 0 ≤ x ∧ x ≤ 6) : rCt (vi_u f (280 + i) x) (vi_u g i x) := by
  intro j hj
  unfold vi_u
  by_cases e : j = i
  · rw [if_pos e, if_pos (by omega)]
    exact ⟨rfl, hx⟩
  · rw [if_neg e, if_neg (by omega)]
    exact h j hj
section
variable {sc : Nat → Int} {ln t a n d : Nat} {CS : Nat → List gCla} {lw : Option (List gCla)} {Y : vi_Y} {M : vi_M} {nn : Nat × Nat} {K : Option vi_V → vi_W → Prop}
theorem k_233t {x : Int} {w : vi_W} (h : 0 ≤ x ∧ x < 6) : vi_call GG (d + 1) 233 [.inl x] w K ↔ K (some (.inl 1)) w := by rw [k_233, decide_eq_true h]; rfl
theorem k_233f {x : Int} {w : vi_W} (h : ¬ (0 ≤ x ∧ x < 6)) : vi_call GG (d + 1) 233 [.inl x] w K ↔ K (some (.inl 0)) w := by rw [k_233, decide_eq_false h]; rfl
theorem p_211 (hW : jW sc ln t a CS lw n Y M nn) (ht : t < 1000) {b u v x : Int} : jPair sc ln t (d + 70) 211 319 [.inl b, .inl u, .inl v, .inl x] (Y, M, nn) := by
  have hY := hW.1.1
  have h9 := hW.1.2.1
  have hbd := jW_b hW ht
  obtain ⟨LH, LR, LS, c1, c2, c3, c4⟩ := hW.2.2.2.1
  obtain ⟨⟨o1, o2, o3⟩, cH, cR', cS, cD, cC, cZ, cL⟩ := c1
  obtain ⟨a1, a2, a3, a4, a5, a6, a7, a8, a9, a10, a11, a12⟩ := y_29 h9
  obtain ⟨b1, b2, b3, b4, -⟩ := y_30 hY (by omega)
  have k228a := fun {K : Option vi_V → vi_W → Prop} => @k_228_1 (d + 68) Y M nn K hY h9 (hbd.1 0 (by omega))
  simp only [Nat.add_assoc, Nat.reduceAdd] at k228a
  by_cases h : (0 ≤ b ∧ b ≤ 2) ∧ (0 ≤ u ∧ u ≤ 5) ∧ (0 ≤ v ∧ v ≤ 5) ∧ 0 ≤ x ∧ x ≤ 1
  · obtain ⟨h1, h2, h3, h4⟩ := h
    obtain ⟨b, rfl⟩ : ∃ k : Nat, b = (k : Int) := ⟨b.toNat, by omega⟩
    obtain ⟨u, rfl⟩ : ∃ k : Nat, u = (k : Int) := ⟨u.toNat, by omega⟩
    obtain ⟨v, rfl⟩ : ∃ k : Nat, v = (k : Int) := ⟨v.toNat, by omega⟩
    have ei : (36 * (b : Int) + 6 * (u : Int) + (v : Int)).toNat = 36 * b + 6 * u + v := by omega
    have ej : (172 + 36 * (b : Int) + 6 * (v : Int) + (u : Int)).toNat = 172 + 36 * b + 6 * v + u := by omega
    have ho : ∀ k, k < 172 ∨ 280 ≤ k → vi_u (M 114) (172 + 36 * b + 6 * v + u) x k = M 114 k := fun k hk => vi_u_o (by omega)
    have ed := (cD b u v (by omega) (by omega) (by omega)).1
    refine jPair_n (M1 := vi_rs M 37 (vi_u (M 37) (36 * b + 6 * u + v) x)) (x := .inl (M 37 (36 * b + 6 * u + v))) (f' := vi_u (M 114) (172 + 36 * b + 6 * v + u) x) (g29 := vi_u (M 29) 11 0) (g112 := vi_u (vi_u (M 112) 0 0) 1 (M 112 1 + 1)) (LH := LH) (LR := LR) (LS := LS) hW ht (fun q hq => ?_) ⟨⟨?_, ?_, ?_⟩, rHs_c cH fun k hk => ho k (by omega), rRw_c cR' fun k hk => ho k (by omega), rSc_c cS fun k hk => ho k (by omega), ?_, rCt_c ?_ fun k hk => ho k (by omega), rSz_c ?_ fun k hk => ho k (by omega), rLw_c ?_ fun k hk => ho k (by omega)⟩ c2 (fun k hk => ho k (by omega)) ?_ ?_ (fun k hk => ?_) ?_ (fun K hK => ?_) (fun M2 f2 hB2 hv K hK => ?_)
    · rw [vi_rs_o (by omega)]
    · rw [vi_rs_o (by decide), vi_rs_o (by decide)]; exact o1
    · rw [vi_rs_o (by decide), vi_rs_o (by decide)]; exact o2
    · rw [vi_rs_o (by decide), vi_rs_o (by decide)]; exact o3
    · show rDk _ (vi_rs M 37 _ 37)
      rw [vi_rs_s]; exact rDk_u cD (by omega) (by omega) (by omega) h4
    · rw [vi_rs_o (by decide)]; exact cC
    · rw [vi_rs_o (by decide)]; exact cZ
    · rw [vi_rs_o (by decide), vi_rs_o (by decide)]; exact cL
    · rw [vi_u_s, vi_u_o (by decide), vi_u_s]
    · rw [vi_u_o (by decide)]
    · rw [vi_u_o (by omega), vi_u_o (by omega)]
    · rw [vi_u_s]
    · have k58 := fun {K : Option vi_V → vi_W → Prop} => @k_58 (d + 68) 30 K Y M nn (kH_30 hY (by omega)) (b : Int) (u : Int) (v : Int) x h1 (by omega) (by omega)
      have k227 : ∀ K : Option vi_V → vi_W → Prop, vi_call GG (d + 69) 227 [.inr (.inr 29), .inl (M 37 (36 * b + 6 * u + v))] (Y, vi_rs M 37 (vi_u (M 37) (36 * b + 6 * u + v) x), nn) K ↔ K (some (.inl (M 37 (36 * b + 6 * u + v)))) (Y, vi_rs (vi_rs M 37 (vi_u (M 37) (36 * b + 6 * u + v) x)) 29 (vi_u (vi_rs M 37 (vi_u (M 37) (36 * b + 6 * u + v) x) 29) 11 0), nn) := fun K => @k_227 (d + 68) Y (vi_rs M 37 (vi_u (M 37) (36 * b + 6 * u + v) x)) nn K a1 (M 37 (36 * b + 6 * u + v))
      simp only [Nat.add_assoc, Nat.reduceAdd] at k58
      rw [ei] at k58
      rw [vi_rs_o (show (29 : Nat) ≠ 37 by decide)] at k227
      clear cZ cH cR' cS cD cC cL o1 o2 o3 hW hbd ho c3 c4 ei ej ed
      simp (disch := omega) only [Option.toList_some, Option.toList_none, List.nil_append, List.cons_append, List.append_nil, true_and, and_true, not_true_eq_false, not_false_eq_true, true_implies, false_implies, implies_true, and_self, Int.reduceLT, Int.reduceLE, Int.reduceEq, Int.reduceNe, Int.reduceAdd, Int.reduceSub, Int.reduceMul, Int.reduceNeg, Int.reduceToNat, Int.toNat_natCast, ↓kk_ck, ↓kk_im, ↓kk_in, e_211, s_211_0, s_211_4, s_211_9, s_211_16, s_211_23, s_211_28, s_211_34, s_211_40, s_211_13, s_211_20, s_211_39, s_211_45, s_211_53, s_211_56, k_233t, a1, a2, b1, k58, k227, vi_bt, vi_bf, ne_eq]
      exact hK
    · rw [ed] at hK
      rw [k_319 hY h1 h2 h3 h4 hv (by omega), f2 114 (by omega) (by omega), f2 112 (by omega) (by omega), ej]
      exact hK
  · refine jPair_f (r := -1) hW ht (.inl ⟨rfl, rfl⟩) (fun K hK => ?_) (fun M1 f hB1 hj K hK => ?_)
    · clear cZ cH cR' cS cD cC cL o1 o2 o3 hW hbd c3 c4
      by_cases e1 : b < 0
      · simp (disch := omega) only [Option.toList_some, Option.toList_none, List.nil_append, List.cons_append, List.append_nil, true_and, and_true, not_true_eq_false, not_false_eq_true, true_implies, false_implies, implies_true, and_self, Int.reduceLT, Int.reduceLE, Int.reduceEq, Int.reduceNe, Int.reduceAdd, Int.reduceSub, Int.reduceMul, Int.reduceNeg, Int.reduceToNat, Int.toNat_natCast, ↓kk_ck, ↓kk_im, ↓kk_in, e_211, s_211_0, s_211_4, s_211_9, s_211_16, s_211_23, s_211_28, s_211_34, s_211_40, s_211_13, s_211_20, s_211_39, s_211_45, s_211_53, s_211_56, a1, a2, b1, k228a, ne_eq]
        exact hK
      · by_cases e2 : 2 < b
        · simp (disch := omega) only [Option.toList_some, Option.toList_none, List.nil_append, List.cons_append, List.append_nil, true_and, and_true, not_true_eq_false, not_false_eq_true, true_implies, false_implies, implies_true, and_self, Int.reduceLT, Int.reduceLE, Int.reduceEq, Int.reduceNe, Int.reduceAdd, Int.reduceSub, Int.reduceMul, Int.reduceNeg, Int.reduceToNat, Int.toNat_natCast, ↓kk_ck, ↓kk_im, ↓kk_in, e_211, s_211_0, s_211_4, s_211_9, s_211_16, s_211_23, s_211_28, s_211_34, s_211_40, s_211_13, s_211_20, s_211_39, s_211_45, s_211_53, s_211_56, a1, a2, b1, k228a, ne_eq]
          exact hK
        · by_cases e3 : 0 ≤ u ∧ u < 6
          · have k233 := fun {K : Option vi_V → vi_W → Prop} => @k_233t (d + 68) K u (Y, M, nn) e3
            by_cases e4 : 0 ≤ v ∧ v < 6
            · have k233' := fun {K : Option vi_V → vi_W → Prop} => @k_233t (d + 68) K v (Y, M, nn) e4
              simp only [Nat.add_assoc, Nat.reduceAdd] at k233 k233'
              by_cases e5 : x < 0
              · simp (disch := omega) only [Option.toList_some, Option.toList_none, List.nil_append, List.cons_append, List.append_nil, true_and, and_true, not_true_eq_false, not_false_eq_true, true_implies, false_implies, implies_true, and_self, Int.reduceLT, Int.reduceLE, Int.reduceEq, Int.reduceNe, Int.reduceAdd, Int.reduceSub, Int.reduceMul, Int.reduceNeg, Int.reduceToNat, Int.toNat_natCast, ↓kk_ck, ↓kk_im, ↓kk_in, e_211, s_211_0, s_211_4, s_211_9, s_211_16, s_211_23, s_211_28, s_211_34, s_211_40, s_211_13, s_211_20, s_211_39, s_211_45, s_211_53, s_211_56, k233, k233', a1, a2, b1, k228a, ne_eq]
                exact hK
              · simp (disch := omega) only [Option.toList_some, Option.toList_none, List.nil_append, List.cons_append, List.append_nil, true_and, and_true, not_true_eq_false, not_false_eq_true, true_implies, false_implies, implies_true, and_self, Int.reduceLT, Int.reduceLE, Int.reduceEq, Int.reduceNe, Int.reduceAdd, Int.reduceSub, Int.reduceMul, Int.reduceNeg, Int.reduceToNat, Int.toNat_natCast, ↓kk_ck, ↓kk_im, ↓kk_in, e_211, s_211_0, s_211_4, s_211_9, s_211_16, s_211_23, s_211_28, s_211_34, s_211_40, s_211_13, s_211_20, s_211_39, s_211_45, s_211_53, s_211_56, k233, k233', a1, a2, b1, k228a, ne_eq]
                exact hK
            · have k233' := fun {K : Option vi_V → vi_W → Prop} => @k_233f (d + 68) K v (Y, M, nn) e4
              simp only [Nat.add_assoc, Nat.reduceAdd] at k233 k233'
              simp (disch := omega) only [Option.toList_some, Option.toList_none, List.nil_append, List.cons_append, List.append_nil, true_and, and_true, not_true_eq_false, not_false_eq_true, true_implies, false_implies, implies_true, and_self, Int.reduceLT, Int.reduceLE, Int.reduceEq, Int.reduceNe, Int.reduceAdd, Int.reduceSub, Int.reduceMul, Int.reduceNeg, Int.reduceToNat, Int.toNat_natCast, ↓kk_ck, ↓kk_im, ↓kk_in, e_211, s_211_0, s_211_4, s_211_9, s_211_16, s_211_23, s_211_28, s_211_34, s_211_40, s_211_13, s_211_20, s_211_39, s_211_45, s_211_53, s_211_56, k233, k233', a1, a2, b1, k228a, ne_eq]
              exact hK
          · have k233 := fun {K : Option vi_V → vi_W → Prop} => @k_233f (d + 68) K u (Y, M, nn) e3
            simp only [Nat.add_assoc, Nat.reduceAdd] at k233
            simp (disch := omega) only [Option.toList_some, Option.toList_none, List.nil_append, List.cons_append, List.append_nil, true_and, and_true, not_true_eq_false, not_false_eq_true, true_implies, false_implies, implies_true, and_self, Int.reduceLT, Int.reduceLE, Int.reduceEq, Int.reduceNe, Int.reduceAdd, Int.reduceSub, Int.reduceMul, Int.reduceNeg, Int.reduceToNat, Int.toNat_natCast, ↓kk_ck, ↓kk_im, ↓kk_in, e_211, s_211_0, s_211_4, s_211_9, s_211_16, s_211_23, s_211_28, s_211_34, s_211_40, s_211_13, s_211_20, s_211_39, s_211_45, s_211_53, s_211_56, k233, a1, a2, b1, k228a, ne_eq]
            exact hK
    · rw [k_319n hY h hj (by omega)]
      exact hK
theorem p_218 (hW : jW sc ln t a CS lw n Y M nn) (ht : t < 1000) {b u x : Int} : jPair sc ln t (d + 70) 218 345 [.inl b, .inl u, .inl x] (Y, M, nn) := by
  have hY := hW.1.1
  have h9 := hW.1.2.1
  have hbd := jW_b hW ht
  obtain ⟨LH, LR, LS, c1, c2, c3, c4⟩ := hW.2.2.2.1
  obtain ⟨⟨o1, o2, o3⟩, cH, cR', cS, cD, cC, cZ, cL⟩ := c1
  obtain ⟨a1, a2, a3, a4, a5, a6, a7, a8, a9, a10, a11, a12⟩ := y_29 h9
  obtain ⟨b1, b2, b3, b4, -⟩ := y_30 hY (by omega)
  have k228a := fun {K : Option vi_V → vi_W → Prop} => @k_228_1 (d + 68) Y M nn K hY h9 (hbd.1 0 (by omega))
  simp only [Nat.add_assoc, Nat.reduceAdd] at k228a
  by_cases h : (0 ≤ b ∧ b ≤ 1) ∧ (0 ≤ u ∧ u ≤ 5) ∧ 0 ≤ x ∧ x ≤ 6
  · obtain ⟨h1, h2, h4⟩ := h
    obtain ⟨b, rfl⟩ : ∃ k : Nat, b = (k : Int) := ⟨b.toNat, by omega⟩
    obtain ⟨u, rfl⟩ : ∃ k : Nat, u = (k : Int) := ⟨u.toNat, by omega⟩
    have ei : (6 * (b : Int) + (u : Int)).toNat = 6 * b + u := by omega
    have ej : (280 + 6 * (b : Int) + (u : Int)).toNat = 280 + (6 * b + u) := by omega
    have ho : ∀ k, k < 280 ∨ 292 ≤ k → vi_u (M 114) (280 + (6 * b + u)) x k = M 114 k := fun k hk => vi_u_o (by omega)
    have ed := (cC (6 * b + u) (by omega)).1
    refine jPair_n (M1 := vi_rs M 38 (vi_u (M 38) (6 * b + u) x)) (x := .inl (M 38 (6 * b + u))) (f' := vi_u (M 114) (280 + (6 * b + u)) x) (g29 := vi_u (M 29) 11 0) (g112 := vi_u (vi_u (M 112) 0 0) 1 (M 112 1 + 1)) (LH := LH) (LR := LR) (LS := LS) hW ht (fun q hq => ?_) ⟨⟨?_, ?_, ?_⟩, rHs_c cH fun k hk => ho k (by omega), rRw_c cR' fun k hk => ho k (by omega), rSc_c cS fun k hk => ho k (by omega), rDk_c ?_ fun k hk => ho k (by omega), ?_, rSz_c ?_ fun k hk => ho k (by omega), rLw_c ?_ fun k hk => ho k (by omega)⟩ c2 (fun k hk => ho k (by omega)) ?_ ?_ (fun k hk => ?_) ?_ (fun K hK => ?_) (fun M2 f2 hB2 hv K hK => ?_)
    · rw [vi_rs_o (by omega)]
    · rw [vi_rs_o (by decide), vi_rs_o (by decide)]; exact o1
    · rw [vi_rs_o (by decide), vi_rs_o (by decide)]; exact o2
    · rw [vi_rs_o (by decide), vi_rs_o (by decide)]; exact o3
    · rw [vi_rs_o (by decide)]; exact cD
    · show rCt _ (vi_rs M 38 _ 38)
      rw [vi_rs_s]; exact rCt_u cC h4
    · rw [vi_rs_o (by decide)]; exact cZ
    · rw [vi_rs_o (by decide), vi_rs_o (by decide)]; exact cL
    · rw [vi_u_s, vi_u_o (by decide), vi_u_s]
    · rw [vi_u_o (by decide)]
    · rw [vi_u_o (by omega), vi_u_o (by omega)]
    · rw [vi_u_s]
    · have k60 := fun {K : Option vi_V → vi_W → Prop} => @k_60 (d + 68) 30 K Y M nn (kH_30 hY (by omega)) (b : Int) (u : Int) x h1 (by omega)
      have k227 := fun {K : Option vi_V → vi_W → Prop} => @k_227 (d + 68) Y (vi_rs M 38 (vi_u (M 38) (6 * b + u) x)) nn K a1 (M 38 (6 * b + u))
      simp only [Nat.add_assoc, Nat.reduceAdd] at k60 k227
      rw [ei] at k60
      rw [vi_rs_o (show (29 : Nat) ≠ 38 by decide)] at k227
      clear cZ cH cR' cS cD cC cL o1 o2 o3 hW hbd ho c3 c4 ei ej ed
      simp (disch := omega) only [Option.toList_some, Option.toList_none, List.nil_append, List.cons_append, List.append_nil, true_and, and_true, not_true_eq_false, not_false_eq_true, true_implies, false_implies, implies_true, and_self, Int.reduceLT, Int.reduceLE, Int.reduceEq, Int.reduceNe, Int.reduceAdd, Int.reduceSub, Int.reduceMul, Int.reduceNeg, Int.reduceToNat, Int.toNat_natCast, ↓kk_ck, ↓kk_im, ↓kk_in, e_218, s_218_0, s_218_4, s_218_9, s_218_16, s_218_20, s_218_26, s_218_32, s_218_13, s_218_31, s_218_37, s_218_43, s_218_46, k_233t, a1, a2, b1, k60, k227, vi_bt, vi_bf, ne_eq]
      exact hK
    · rw [ed] at hK
      rw [k_345 hY h1 h2 h4 hv (by omega), f2 114 (by omega) (by omega), f2 112 (by omega) (by omega), ej]
      exact hK
  · refine jPair_f (r := -1) hW ht (.inl ⟨rfl, rfl⟩) (fun K hK => ?_) (fun M1 f hB1 hj K hK => ?_)
    · clear cZ cH cR' cS cD cC cL o1 o2 o3 hW hbd c3 c4
      by_cases e1 : b < 0
      · simp (disch := omega) only [Option.toList_some, Option.toList_none, List.nil_append, List.cons_append, List.append_nil, true_and, and_true, not_true_eq_false, not_false_eq_true, true_implies, false_implies, implies_true, and_self, Int.reduceLT, Int.reduceLE, Int.reduceEq, Int.reduceNe, Int.reduceAdd, Int.reduceSub, Int.reduceMul, Int.reduceNeg, Int.reduceToNat, Int.toNat_natCast, ↓kk_ck, ↓kk_im, ↓kk_in, e_218, s_218_0, s_218_4, s_218_9, s_218_16, s_218_20, s_218_26, s_218_32, s_218_13, s_218_31, s_218_37, s_218_43, s_218_46, a1, a2, b1, k228a, ne_eq]
        exact hK
      · by_cases e2 : 1 < b
        · simp (disch := omega) only [Option.toList_some, Option.toList_none, List.nil_append, List.cons_append, List.append_nil, true_and, and_true, not_true_eq_false, not_false_eq_true, true_implies, false_implies, implies_true, and_self, Int.reduceLT, Int.reduceLE, Int.reduceEq, Int.reduceNe, Int.reduceAdd, Int.reduceSub, Int.reduceMul, Int.reduceNeg, Int.reduceToNat, Int.toNat_natCast, ↓kk_ck, ↓kk_im, ↓kk_in, e_218, s_218_0, s_218_4, s_218_9, s_218_16, s_218_20, s_218_26, s_218_32, s_218_13, s_218_31, s_218_37, s_218_43, s_218_46, a1, a2, b1, k228a, ne_eq]
          exact hK
        · by_cases e3 : 0 ≤ u ∧ u < 6
          · have k233 := fun {K : Option vi_V → vi_W → Prop} => @k_233t (d + 68) K u (Y, M, nn) e3
            simp only [Nat.add_assoc, Nat.reduceAdd] at k233
            by_cases e5 : x < 0
            · simp (disch := omega) only [Option.toList_some, Option.toList_none, List.nil_append, List.cons_append, List.append_nil, true_and, and_true, not_true_eq_false, not_false_eq_true, true_implies, false_implies, implies_true, and_self, Int.reduceLT, Int.reduceLE, Int.reduceEq, Int.reduceNe, Int.reduceAdd, Int.reduceSub, Int.reduceMul, Int.reduceNeg, Int.reduceToNat, Int.toNat_natCast, ↓kk_ck, ↓kk_im, ↓kk_in, e_218, s_218_0, s_218_4, s_218_9, s_218_16, s_218_20, s_218_26, s_218_32, s_218_13, s_218_31, s_218_37, s_218_43, s_218_46, k233, a1, a2, b1, k228a, ne_eq]
              exact hK
            · simp (disch := omega) only [Option.toList_some, Option.toList_none, List.nil_append, List.cons_append, List.append_nil, true_and, and_true, not_true_eq_false, not_false_eq_true, true_implies, false_implies, implies_true, and_self, Int.reduceLT, Int.reduceLE, Int.reduceEq, Int.reduceNe, Int.reduceAdd, Int.reduceSub, Int.reduceMul, Int.reduceNeg, Int.reduceToNat, Int.toNat_natCast, ↓kk_ck, ↓kk_im, ↓kk_in, e_218, s_218_0, s_218_4, s_218_9, s_218_16, s_218_20, s_218_26, s_218_32, s_218_13, s_218_31, s_218_37, s_218_43, s_218_46, k233, a1, a2, b1, k228a, ne_eq]
              exact hK
          · have k233 := fun {K : Option vi_V → vi_W → Prop} => @k_233f (d + 68) K u (Y, M, nn) e3
            simp only [Nat.add_assoc, Nat.reduceAdd] at k233
            simp (disch := omega) only [Option.toList_some, Option.toList_none, List.nil_append, List.cons_append, List.append_nil, true_and, and_true, not_true_eq_false, not_false_eq_true, true_implies, false_implies, implies_true, and_self, Int.reduceLT, Int.reduceLE, Int.reduceEq, Int.reduceNe, Int.reduceAdd, Int.reduceSub, Int.reduceMul, Int.reduceNeg, Int.reduceToNat, Int.toNat_natCast, ↓kk_ck, ↓kk_im, ↓kk_in, e_218, s_218_0, s_218_4, s_218_9, s_218_16, s_218_20, s_218_26, s_218_32, s_218_13, s_218_31, s_218_37, s_218_43, s_218_46, k233, a1, a2, b1, k228a, ne_eq]
            exact hK
    · rw [k_345n hY h hj (by omega)]
      exact hK
theorem p_225 (hW : jW sc ln t a CS lw n Y M nn) {x : Int} (hx : -2147483648 ≤ x ∧ x < 2147483648) : jPair sc ln t (d + 70) 225 354 [.inl x] (Y, M, nn) := by
  have hY := hW.1.1
  have h9 := hW.1.2.1
  obtain ⟨LH, LR, LS, c1, c2, c3, c4⟩ := hW.2.2.2.1
  obtain ⟨⟨o1, o2, o3⟩, cH, cR', cS, cD, cC, cZ, cL⟩ := c1
  obtain ⟨a1, a2, a3, a4, a5, a6, a7, a8, a9, a10, a11, a12⟩ := y_29 h9
  obtain ⟨b1, b2, b3, b4, -⟩ := y_30 hY (by omega)
  obtain ⟨q1, -⟩ := y_73 hY (by omega)
  obtain ⟨z1, z2⟩ := y_111 hY (by omega)
  obtain ⟨m, t1, t2, t3, t4, t5, t6⟩ := hW.2.2.2.2.2.1
  obtain ⟨-, -, ⟨s0, s1, s2, s3, s4⟩, -⟩ := hW.2.2.2.2.2.2.1
  refine jPair_q hW fun K hK => ?_
  have hK := hK (.inl (cnT M x)) M hW fun K2 h2 => by rw [k_354 hY (by omega)]; exact h2 M hW
  have r1 := (kR_31 hY (by omega)).1
  have r2 := (kR_33 hY (by omega)).1
  have r3 := (kR_35 hY (by omega)).1
  have k149a := fun {K : Option vi_V → vi_W → Prop} => @k_149 (d + 68) 31 K (Y, M, nn) r1
  have k149b := fun {K : Option vi_V → vi_W → Prop} => @k_149 (d + 68) 33 K (Y, M, nn) r2
  have k149c := fun {K : Option vi_V → vi_W → Prop} => @k_149 (d + 68) 35 K (Y, M, nn) r3
  have k43 := fun {K : Option vi_V → vi_W → Prop} {z : Int} => @k_43 (d + 68) 30 K Y M nn b1 z
  have k120 := fun {K : Option vi_V → vi_W → Prop} => @k_120 (d + 69) K Y M nn hY (by omega)
  simp only [Nat.add_assoc, Nat.reduceAdd] at k149a k149b k149c k43 k120
  have e0 : gSz (M 30 8) (M 30 9) (M 30 10) 0 = M 114 96 := cZ.1
  have e1 : gSz (M 30 8) (M 30 9) (M 30 10) 1 = M 114 97 := cZ.2.1
  have e2 : gSz (M 30 8) (M 30 9) (M 30 10) 2 = M 114 98 := cZ.2.2.1
  have e3 : M 31 2 = M 114 292 := by rw [cH.1]; exact o1.1
  have e4 : M 30 6 = M 114 295 := cL.1
  have e5 : M 33 2 = M 114 293 := by rw [cR'.1]; exact o2.1
  have e6 : M 35 2 = M 114 294 := by rw [cS.1]; exact o3.1
  have e7 : M 73 3 = M 112 10 := by rw [t2, t3]
  have e13 : M 30 7 = M 114 296 := cL.2.1
  have e14 : M 30 11 = M 114 99 := cZ.2.2.2.1
  rw [e3] at k149a
  rw [e5] at k149b
  rw [e6] at k149c
  rw [e7] at k120
  clear cZ cH cR' cS cD cC cL o1 o2 o3 hW c3 c4 t2 t3 t4 t5 t6
  obtain rfl | rfl | rfl | rfl | rfl | rfl | rfl | rfl | rfl | rfl | rfl | rfl | rfl | rfl | rfl | hx15 : x = 0 ∨ x = 1 ∨ x = 2 ∨ x = 3 ∨ x = 4 ∨ x = 5 ∨ x = 6 ∨ x = 7 ∨ x = 8 ∨ x = 9 ∨ x = 10 ∨ x = 11 ∨ x = 12 ∨ x = 13 ∨ x = 14 ∨ ¬ (0 ≤ x ∧ x ≤ 14) := by omega
  · simp (disch := omega) only [Option.toList_some, Option.toList_none, List.nil_append, List.cons_append, List.append_nil, true_and, and_true, not_true_eq_false, not_false_eq_true, true_implies, false_implies, implies_true, and_self, Int.reduceLT, Int.reduceLE, Int.reduceEq, Int.reduceNe, Int.reduceAdd, Int.reduceSub, Int.reduceMul, Int.reduceNeg, Int.reduceToNat, Int.toNat_natCast, ↓kk_ck, ↓kk_im, ↓kk_in, e_225, s_225_0, s_225_11, s_225_20, s_225_27, s_225_104, s_225_113, s_225_124, s_225_132, s_225_143, s_225_154, s_225_162, s_225_170, s_225_178, s_225_16, s_225_24, s_225_108, s_225_117, s_225_128, s_225_136, s_225_147, s_225_158, s_225_166, s_225_174, s_225_17, s_225_26, s_225_112, s_225_120, s_225_131, s_225_139, s_225_150, s_225_161, s_225_169, s_225_177, s_225_123, s_225_142, s_225_153, a1, a2, b1, vi_swp, k43, e0, vi_32, ne_eq]
    exact hK
  · simp (disch := omega) only [Option.toList_some, Option.toList_none, List.nil_append, List.cons_append, List.append_nil, true_and, and_true, not_true_eq_false, not_false_eq_true, true_implies, false_implies, implies_true, and_self, Int.reduceLT, Int.reduceLE, Int.reduceEq, Int.reduceNe, Int.reduceAdd, Int.reduceSub, Int.reduceMul, Int.reduceNeg, Int.reduceToNat, Int.toNat_natCast, ↓kk_ck, ↓kk_im, ↓kk_in, e_225, s_225_0, s_225_11, s_225_20, s_225_27, s_225_104, s_225_113, s_225_124, s_225_132, s_225_143, s_225_154, s_225_162, s_225_170, s_225_178, s_225_16, s_225_24, s_225_108, s_225_117, s_225_128, s_225_136, s_225_147, s_225_158, s_225_166, s_225_174, s_225_17, s_225_26, s_225_112, s_225_120, s_225_131, s_225_139, s_225_150, s_225_161, s_225_169, s_225_177, s_225_123, s_225_142, s_225_153, a1, a2, b1, vi_swp, k43, e1, vi_32, ne_eq]
    exact hK
  · simp (disch := omega) only [Option.toList_some, Option.toList_none, List.nil_append, List.cons_append, List.append_nil, true_and, and_true, not_true_eq_false, not_false_eq_true, true_implies, false_implies, implies_true, and_self, Int.reduceLT, Int.reduceLE, Int.reduceEq, Int.reduceNe, Int.reduceAdd, Int.reduceSub, Int.reduceMul, Int.reduceNeg, Int.reduceToNat, Int.toNat_natCast, ↓kk_ck, ↓kk_im, ↓kk_in, e_225, s_225_0, s_225_11, s_225_20, s_225_27, s_225_104, s_225_113, s_225_124, s_225_132, s_225_143, s_225_154, s_225_162, s_225_170, s_225_178, s_225_16, s_225_24, s_225_108, s_225_117, s_225_128, s_225_136, s_225_147, s_225_158, s_225_166, s_225_174, s_225_17, s_225_26, s_225_112, s_225_120, s_225_131, s_225_139, s_225_150, s_225_161, s_225_169, s_225_177, s_225_123, s_225_142, s_225_153, a1, a2, b1, vi_swp, k43, e2, vi_32, ne_eq]
    exact hK
  · simp (disch := omega) only [Option.toList_some, Option.toList_none, List.nil_append, List.cons_append, List.append_nil, true_and, and_true, not_true_eq_false, not_false_eq_true, true_implies, false_implies, implies_true, and_self, Int.reduceLT, Int.reduceLE, Int.reduceEq, Int.reduceNe, Int.reduceAdd, Int.reduceSub, Int.reduceMul, Int.reduceNeg, Int.reduceToNat, Int.toNat_natCast, ↓kk_ck, ↓kk_im, ↓kk_in, e_225, s_225_0, s_225_11, s_225_20, s_225_27, s_225_104, s_225_113, s_225_124, s_225_132, s_225_143, s_225_154, s_225_162, s_225_170, s_225_178, s_225_16, s_225_24, s_225_108, s_225_117, s_225_128, s_225_136, s_225_147, s_225_158, s_225_166, s_225_174, s_225_17, s_225_26, s_225_112, s_225_120, s_225_131, s_225_139, s_225_150, s_225_161, s_225_169, s_225_177, s_225_123, s_225_142, s_225_153, a1, a2, b1, b2, r1, vi_swp, k149a, vi_32, ne_eq]
    exact hK
  · simp (disch := omega) only [Option.toList_some, Option.toList_none, List.nil_append, List.cons_append, List.append_nil, true_and, and_true, not_true_eq_false, not_false_eq_true, true_implies, false_implies, implies_true, and_self, Int.reduceLT, Int.reduceLE, Int.reduceEq, Int.reduceNe, Int.reduceAdd, Int.reduceSub, Int.reduceMul, Int.reduceNeg, Int.reduceToNat, Int.toNat_natCast, ↓kk_ck, ↓kk_im, ↓kk_in, e_225, s_225_0, s_225_11, s_225_20, s_225_27, s_225_104, s_225_113, s_225_124, s_225_132, s_225_143, s_225_154, s_225_162, s_225_170, s_225_178, s_225_16, s_225_24, s_225_108, s_225_117, s_225_128, s_225_136, s_225_147, s_225_158, s_225_166, s_225_174, s_225_17, s_225_26, s_225_112, s_225_120, s_225_131, s_225_139, s_225_150, s_225_161, s_225_169, s_225_177, s_225_123, s_225_142, s_225_153, e_61, s_61_0, s_61_4, a1, a2, b1, vi_swp, e4, vi_32, ne_eq]
    exact hK
  · simp (disch := omega) only [Option.toList_some, Option.toList_none, List.nil_append, List.cons_append, List.append_nil, true_and, and_true, not_true_eq_false, not_false_eq_true, true_implies, false_implies, implies_true, and_self, Int.reduceLT, Int.reduceLE, Int.reduceEq, Int.reduceNe, Int.reduceAdd, Int.reduceSub, Int.reduceMul, Int.reduceNeg, Int.reduceToNat, Int.toNat_natCast, ↓kk_ck, ↓kk_im, ↓kk_in, e_225, s_225_0, s_225_11, s_225_20, s_225_27, s_225_104, s_225_113, s_225_124, s_225_132, s_225_143, s_225_154, s_225_162, s_225_170, s_225_178, s_225_16, s_225_24, s_225_108, s_225_117, s_225_128, s_225_136, s_225_147, s_225_158, s_225_166, s_225_174, s_225_17, s_225_26, s_225_112, s_225_120, s_225_131, s_225_139, s_225_150, s_225_161, s_225_169, s_225_177, s_225_123, s_225_142, s_225_153, a1, a2, b1, b3, r2, vi_swp, k149b, vi_32, ne_eq]
    exact hK
  · simp (disch := omega) only [Option.toList_some, Option.toList_none, List.nil_append, List.cons_append, List.append_nil, true_and, and_true, not_true_eq_false, not_false_eq_true, true_implies, false_implies, implies_true, and_self, Int.reduceLT, Int.reduceLE, Int.reduceEq, Int.reduceNe, Int.reduceAdd, Int.reduceSub, Int.reduceMul, Int.reduceNeg, Int.reduceToNat, Int.toNat_natCast, ↓kk_ck, ↓kk_im, ↓kk_in, e_225, s_225_0, s_225_11, s_225_20, s_225_27, s_225_104, s_225_113, s_225_124, s_225_132, s_225_143, s_225_154, s_225_162, s_225_170, s_225_178, s_225_16, s_225_24, s_225_108, s_225_117, s_225_128, s_225_136, s_225_147, s_225_158, s_225_166, s_225_174, s_225_17, s_225_26, s_225_112, s_225_120, s_225_131, s_225_139, s_225_150, s_225_161, s_225_169, s_225_177, s_225_123, s_225_142, s_225_153, a1, a2, b1, b4, r3, vi_swp, k149c, vi_32, ne_eq]
    exact hK
  · simp (disch := omega) only [Option.toList_some, Option.toList_none, List.nil_append, List.cons_append, List.append_nil, true_and, and_true, not_true_eq_false, not_false_eq_true, true_implies, false_implies, implies_true, and_self, Int.reduceLT, Int.reduceLE, Int.reduceEq, Int.reduceNe, Int.reduceAdd, Int.reduceSub, Int.reduceMul, Int.reduceNeg, Int.reduceToNat, Int.toNat_natCast, ↓kk_ck, ↓kk_im, ↓kk_in, e_225, s_225_0, s_225_11, s_225_20, s_225_27, s_225_104, s_225_113, s_225_124, s_225_132, s_225_143, s_225_154, s_225_162, s_225_170, s_225_178, s_225_16, s_225_24, s_225_108, s_225_117, s_225_128, s_225_136, s_225_147, s_225_158, s_225_166, s_225_174, s_225_17, s_225_26, s_225_112, s_225_120, s_225_131, s_225_139, s_225_150, s_225_161, s_225_169, s_225_177, s_225_123, s_225_142, s_225_153, a1, a6, q1, vi_swp, k120, vi_32, ne_eq]
    exact hK
  · simp (disch := omega) only [Option.toList_some, Option.toList_none, List.nil_append, List.cons_append, List.append_nil, true_and, and_true, not_true_eq_false, not_false_eq_true, true_implies, false_implies, implies_true, and_self, Int.reduceLT, Int.reduceLE, Int.reduceEq, Int.reduceNe, Int.reduceAdd, Int.reduceSub, Int.reduceMul, Int.reduceNeg, Int.reduceToNat, Int.toNat_natCast, ↓kk_ck, ↓kk_im, ↓kk_in, e_225, s_225_0, s_225_11, s_225_20, s_225_27, s_225_104, s_225_113, s_225_124, s_225_132, s_225_143, s_225_154, s_225_162, s_225_170, s_225_178, s_225_16, s_225_24, s_225_108, s_225_117, s_225_128, s_225_136, s_225_147, s_225_158, s_225_166, s_225_174, s_225_17, s_225_26, s_225_112, s_225_120, s_225_131, s_225_139, s_225_150, s_225_161, s_225_169, s_225_177, s_225_123, s_225_142, s_225_153, a1, a12, z1, z2, vi_swp, s0, vi_32, ne_eq]
    exact hK
  · simp (disch := omega) only [Option.toList_some, Option.toList_none, List.nil_append, List.cons_append, List.append_nil, true_and, and_true, not_true_eq_false, not_false_eq_true, true_implies, false_implies, implies_true, and_self, Int.reduceLT, Int.reduceLE, Int.reduceEq, Int.reduceNe, Int.reduceAdd, Int.reduceSub, Int.reduceMul, Int.reduceNeg, Int.reduceToNat, Int.toNat_natCast, ↓kk_ck, ↓kk_im, ↓kk_in, e_225, s_225_0, s_225_11, s_225_20, s_225_27, s_225_104, s_225_113, s_225_124, s_225_132, s_225_143, s_225_154, s_225_162, s_225_170, s_225_178, s_225_16, s_225_24, s_225_108, s_225_117, s_225_128, s_225_136, s_225_147, s_225_158, s_225_166, s_225_174, s_225_17, s_225_26, s_225_112, s_225_120, s_225_131, s_225_139, s_225_150, s_225_161, s_225_169, s_225_177, s_225_123, s_225_142, s_225_153, a1, a12, z1, z2, vi_swp, s1, vi_32, ne_eq]
    exact hK
  · simp (disch := omega) only [Option.toList_some, Option.toList_none, List.nil_append, List.cons_append, List.append_nil, true_and, and_true, not_true_eq_false, not_false_eq_true, true_implies, false_implies, implies_true, and_self, Int.reduceLT, Int.reduceLE, Int.reduceEq, Int.reduceNe, Int.reduceAdd, Int.reduceSub, Int.reduceMul, Int.reduceNeg, Int.reduceToNat, Int.toNat_natCast, ↓kk_ck, ↓kk_im, ↓kk_in, e_225, s_225_0, s_225_11, s_225_20, s_225_27, s_225_104, s_225_113, s_225_124, s_225_132, s_225_143, s_225_154, s_225_162, s_225_170, s_225_178, s_225_16, s_225_24, s_225_108, s_225_117, s_225_128, s_225_136, s_225_147, s_225_158, s_225_166, s_225_174, s_225_17, s_225_26, s_225_112, s_225_120, s_225_131, s_225_139, s_225_150, s_225_161, s_225_169, s_225_177, s_225_123, s_225_142, s_225_153, a1, a12, z1, z2, vi_swp, s2, vi_32, ne_eq]
    exact hK
  · simp (disch := omega) only [Option.toList_some, Option.toList_none, List.nil_append, List.cons_append, List.append_nil, true_and, and_true, not_true_eq_false, not_false_eq_true, true_implies, false_implies, implies_true, and_self, Int.reduceLT, Int.reduceLE, Int.reduceEq, Int.reduceNe, Int.reduceAdd, Int.reduceSub, Int.reduceMul, Int.reduceNeg, Int.reduceToNat, Int.toNat_natCast, ↓kk_ck, ↓kk_im, ↓kk_in, e_225, s_225_0, s_225_11, s_225_20, s_225_27, s_225_104, s_225_113, s_225_124, s_225_132, s_225_143, s_225_154, s_225_162, s_225_170, s_225_178, s_225_16, s_225_24, s_225_108, s_225_117, s_225_128, s_225_136, s_225_147, s_225_158, s_225_166, s_225_174, s_225_17, s_225_26, s_225_112, s_225_120, s_225_131, s_225_139, s_225_150, s_225_161, s_225_169, s_225_177, s_225_123, s_225_142, s_225_153, a1, a12, z1, z2, vi_swp, s3, vi_32, ne_eq]
    exact hK
  · simp (disch := omega) only [Option.toList_some, Option.toList_none, List.nil_append, List.cons_append, List.append_nil, true_and, and_true, not_true_eq_false, not_false_eq_true, true_implies, false_implies, implies_true, and_self, Int.reduceLT, Int.reduceLE, Int.reduceEq, Int.reduceNe, Int.reduceAdd, Int.reduceSub, Int.reduceMul, Int.reduceNeg, Int.reduceToNat, Int.toNat_natCast, ↓kk_ck, ↓kk_im, ↓kk_in, e_225, s_225_0, s_225_11, s_225_20, s_225_27, s_225_104, s_225_113, s_225_124, s_225_132, s_225_143, s_225_154, s_225_162, s_225_170, s_225_178, s_225_16, s_225_24, s_225_108, s_225_117, s_225_128, s_225_136, s_225_147, s_225_158, s_225_166, s_225_174, s_225_17, s_225_26, s_225_112, s_225_120, s_225_131, s_225_139, s_225_150, s_225_161, s_225_169, s_225_177, s_225_123, s_225_142, s_225_153, a1, a12, z1, z2, vi_swp, s4, vi_32, ne_eq]
    exact hK
  · simp (disch := omega) only [Option.toList_some, Option.toList_none, List.nil_append, List.cons_append, List.append_nil, true_and, and_true, not_true_eq_false, not_false_eq_true, true_implies, false_implies, implies_true, and_self, Int.reduceLT, Int.reduceLE, Int.reduceEq, Int.reduceNe, Int.reduceAdd, Int.reduceSub, Int.reduceMul, Int.reduceNeg, Int.reduceToNat, Int.toNat_natCast, ↓kk_ck, ↓kk_im, ↓kk_in, e_225, s_225_0, s_225_11, s_225_20, s_225_27, s_225_104, s_225_113, s_225_124, s_225_132, s_225_143, s_225_154, s_225_162, s_225_170, s_225_178, s_225_16, s_225_24, s_225_108, s_225_117, s_225_128, s_225_136, s_225_147, s_225_158, s_225_166, s_225_174, s_225_17, s_225_26, s_225_112, s_225_120, s_225_131, s_225_139, s_225_150, s_225_161, s_225_169, s_225_177, s_225_123, s_225_142, s_225_153, e_65, s_65_0, s_65_4, a1, a2, a12, b1, z1, z2, vi_swp, e13, vi_32, ne_eq]
    exact hK
  · simp (disch := omega) only [Option.toList_some, Option.toList_none, List.nil_append, List.cons_append, List.append_nil, true_and, and_true, not_true_eq_false, not_false_eq_true, true_implies, false_implies, implies_true, and_self, Int.reduceLT, Int.reduceLE, Int.reduceEq, Int.reduceNe, Int.reduceAdd, Int.reduceSub, Int.reduceMul, Int.reduceNeg, Int.reduceToNat, Int.toNat_natCast, ↓kk_ck, ↓kk_im, ↓kk_in, e_225, s_225_0, s_225_11, s_225_20, s_225_27, s_225_104, s_225_113, s_225_124, s_225_132, s_225_143, s_225_154, s_225_162, s_225_170, s_225_178, s_225_16, s_225_24, s_225_108, s_225_117, s_225_128, s_225_136, s_225_147, s_225_158, s_225_166, s_225_174, s_225_17, s_225_26, s_225_112, s_225_120, s_225_131, s_225_139, s_225_150, s_225_161, s_225_169, s_225_177, s_225_123, s_225_142, s_225_153, e_47, s_47_0, s_47_4, a1, a2, a12, b1, z1, z2, vi_swp, e14, vi_32, ne_eq]
    exact hK
  · have n0 : ¬ x = 0 := by omega
    have n1 : ¬ x = 1 := by omega
    have n2 : ¬ x = 2 := by omega
    have n3 : ¬ x = 3 := by omega
    have n4 : ¬ x = 4 := by omega
    have n5 : ¬ x = 5 := by omega
    have n6 : ¬ x = 6 := by omega
    have n7 : ¬ x = 7 := by omega
    have n8 : ¬ x = 8 := by omega
    have n9 : ¬ x = 9 := by omega
    have n10 : ¬ x = 10 := by omega
    have n11 : ¬ x = 11 := by omega
    have n12 : ¬ x = 12 := by omega
    have n13 : ¬ x = 13 := by omega
    have n14 : ¬ x = 14 := by omega
    have e : cnT M x = -1 := by
      unfold cnT
      simp only [n0, n1, n2, n3, n4, n5, n6, n7, n8, n9, n10, n11, n12, n13, n14, if_false]
    rw [e] at hK
    by_cases h8 : x < 8
    · simp (disch := omega) only [Option.toList_some, Option.toList_none, List.nil_append, List.cons_append, List.append_nil, true_and, and_true, not_true_eq_false, not_false_eq_true, true_implies, false_implies, implies_true, and_self, Int.reduceLT, Int.reduceLE, Int.reduceEq, Int.reduceNe, Int.reduceAdd, Int.reduceSub, Int.reduceMul, Int.reduceNeg, Int.reduceToNat, Int.toNat_natCast, ↓kk_ck, ↓kk_im, ↓kk_in, e_225, s_225_0, s_225_11, s_225_20, s_225_27, s_225_104, s_225_113, s_225_124, s_225_132, s_225_143, s_225_154, s_225_162, s_225_170, s_225_178, s_225_16, s_225_24, s_225_108, s_225_117, s_225_128, s_225_136, s_225_147, s_225_158, s_225_166, s_225_174, s_225_17, s_225_26, s_225_112, s_225_120, s_225_131, s_225_139, s_225_150, s_225_161, s_225_169, s_225_177, s_225_123, s_225_142, s_225_153, a1, a12, z1, z2, vi_swp, n0, n1, n2, n3, n4, n5, n6, n7, n8, n9, n10, n11, n12, n13, n14, ne_eq, if_false]
      exact hK
    · simp (disch := omega) only [Option.toList_some, Option.toList_none, List.nil_append, List.cons_append, List.append_nil, true_and, and_true, not_true_eq_false, not_false_eq_true, true_implies, false_implies, implies_true, and_self, Int.reduceLT, Int.reduceLE, Int.reduceEq, Int.reduceNe, Int.reduceAdd, Int.reduceSub, Int.reduceMul, Int.reduceNeg, Int.reduceToNat, Int.toNat_natCast, ↓kk_ck, ↓kk_im, ↓kk_in, e_225, s_225_0, s_225_11, s_225_20, s_225_27, s_225_104, s_225_113, s_225_124, s_225_132, s_225_143, s_225_154, s_225_162, s_225_170, s_225_178, s_225_16, s_225_24, s_225_108, s_225_117, s_225_128, s_225_136, s_225_147, s_225_158, s_225_166, s_225_174, s_225_17, s_225_26, s_225_112, s_225_120, s_225_131, s_225_139, s_225_150, s_225_161, s_225_169, s_225_177, s_225_123, s_225_142, s_225_153, a1, a12, z1, z2, vi_swp, n0, n1, n2, n3, n4, n5, n6, n7, n8, n9, n10, n11, n12, n13, n14, ne_eq, @vi_32 (x - 8) (by omega) (by omega), if_false]
      exact hK
theorem p_199 (hW : jW sc ln t a CS lw n Y M nn) (ht : t < 1000) {x : Int} : jPair sc ln t (d + 70) 199 280 [.inl x] (Y, M, nn) := by
  have hY := hW.1.1
  have h9 := hW.1.2.1
  have hbd := jW_b hW ht
  obtain ⟨LH, LR, LS, c1, c2, c3, c4⟩ := hW.2.2.2.1
  have c1' := c1
  obtain ⟨⟨o1, o2, o3⟩, cH, cR', cS, cD, cC, cZ, cL⟩ := c1'
  obtain ⟨a1, a2, a3, a4, a5, a6, a7, a8, a9, a10, a11, a12⟩ := y_29 h9
  obtain ⟨b1, b2, -⟩ := y_30 hY (by omega)
  obtain ⟨z1, -⟩ := y_60 hY (by omega)
  have k63 := fun {K : Option vi_V → vi_W → Prop} => @k_63 (d + 68) 30 K Y M nn b1 x
  have k228b := fun {K : Option vi_V → vi_W → Prop} => @k_228_2 (d + 68) Y M nn K hY h9 (hbd.1 1 (by omega))
  simp only [Nat.add_assoc, Nat.reduceAdd] at k63 k228b
  obtain ⟨l1, l2, ⟨m, l3, l4, l5, l6, l7⟩, l8⟩ := cL
  rw [l1, l3] at k63
  by_cases h : -1 ≤ x ∧ x ≤ (m : Int) - 1
  · have ho : ∀ k, k ≠ 296 → vi_u (M 114) 296 x k = M 114 k := fun k hk => vi_u_o hk
    have hL' : rLw a CS (vi_u (M 114) 296 x) (vi_u (M 30) 7 x) (M 39) := by
      refine ⟨by rw [vi_u_o (by decide), ho 295 (by decide)]; exact l1, by rw [vi_u_s, vi_u_s], ⟨m, by rw [ho 295 (by decide)]; exact l3, l4, by rw [vi_u_s]; exact h.1, by rw [vi_u_s]; omega, fun j hj => ?_⟩, l8⟩
      obtain ⟨i, i1, i2, i3⟩ := l7 j hj
      exact ⟨i, i1, i2, by
        obtain ⟨S, q1, q2, cd, vl, en, fu, i', q3, q4⟩ := i3
        exact ⟨S, q1, by rw [ho _ (by omega)]; exact q2, cd, vl, en, fu, i', fun y hy => by rw [ho _ (by omega), ho _ (by omega)]; exact q3 y hy, q4⟩⟩
    obtain ⟨lw', hlw⟩ := fLw_ex hL'
    refine jPair_r (M1 := vi_rs M 30 (vi_u (M 30) 7 x)) (x := .inl (M 114 296)) (f' := vi_u (M 114) 296 x) (LH := LH) (LR := LR) (LS := LS) (lw' := lw') hW ht (fun q hq => ?_) ⟨⟨?_, ?_, ?_⟩, rHs_c cH fun k hk => ho k (by omega), rRw_c cR' fun k hk => ho k (by omega), rSc_c cS fun k hk => ho k (by omega), rDk_c ?_ fun k hk => ho k (by omega), rCt_c ?_ fun k hk => ho k (by omega), rSz_c ?_ fun k hk => ho k (by omega), ?_⟩ ?_ (fun M' f1 k25 K hK => ?_) (fun M2 f2 hB2 hv K hK => ?_)
    · rw [vi_rs_o (by omega)]
    · rw [vi_rs_o (by decide), vi_rs_o (by decide)]; exact o1
    · rw [vi_rs_o (by decide), vi_rs_o (by decide)]; exact o2
    · rw [vi_rs_o (by decide), vi_rs_o (by decide)]; exact o3
    · rw [vi_rs_o (by decide)]; exact cD
    · rw [vi_rs_o (by decide)]; exact cC
    · rw [vi_rs_s]
      exact rSz_g cZ fun k hk => vi_u_o (by omega)
    · show rLw a CS _ (vi_rs M 30 _ 30) (vi_rs M 30 _ 39)
      rw [vi_rs_s, vi_rs_o (by decide)]; exact hL'
    · rw [vi_rs_o (by decide)]; exact hlw
    · have k66 := fun {K : Option vi_V → vi_W → Prop} => @k_66 (d + 68) 30 K Y M nn b1 x
      have k227 := fun {K : Option vi_V → vi_W → Prop} => @k_227 (d + 68) Y M' nn K a1 (M 114 296)
      simp only [Nat.add_assoc, Nat.reduceAdd] at k66 k227
      rw [l2] at k66
      clear c1 cZ cH cR' cS cD cC o1 o2 o3 hW hbd ho c3 c4 hlw hL' l7 l8 f1
      generalize vi_rs M 30 (vi_u (M 30) 7 x) = M1 at *
      by_cases hx : x = -1
      · subst hx
        simp (disch := omega) only [Option.toList_some, Option.toList_none, List.nil_append, List.cons_append, List.append_nil, true_and, and_true, not_true_eq_false, not_false_eq_true, true_implies, false_implies, implies_true, and_self, Int.reduceLT, Int.reduceLE, Int.reduceEq, Int.reduceNe, Int.reduceAdd, Int.reduceSub, Int.reduceMul, Int.reduceNeg, Int.reduceToNat, Int.toNat_natCast, ↓kk_ck, ↓kk_im, ↓kk_in, e_199, s_199_0, s_199_5, s_199_16, s_199_23, s_199_9, s_199_22, s_199_27, s_199_13, s_199_31, s_199_36, s_199_39, s_199_44, a1, a2, a5, b1, z1, k66, k25, k227, ne_eq]
        exact hK
      · rw [decide_eq_true (by omega)] at k63
        simp (disch := omega) only [Option.toList_some, Option.toList_none, List.nil_append, List.cons_append, List.append_nil, true_and, and_true, not_true_eq_false, not_false_eq_true, true_implies, false_implies, implies_true, and_self, Int.reduceLT, Int.reduceLE, Int.reduceEq, Int.reduceNe, Int.reduceAdd, Int.reduceSub, Int.reduceMul, Int.reduceNeg, Int.reduceToNat, Int.toNat_natCast, ↓kk_ck, ↓kk_im, ↓kk_in, e_199, s_199_0, s_199_5, s_199_16, s_199_23, s_199_9, s_199_22, s_199_27, s_199_13, s_199_31, s_199_36, s_199_39, s_199_44, a1, a2, a5, b1, z1, k63, k66, k25, k227, hx, ne_eq, vi_bt, vi_bf]
        exact hK
    · rw [k_280 hY (m := m) l4 (by rw [f2 114 (by omega) (by omega)]; exact l3) h hv (by omega), f2 114 (by omega) (by omega)]
      exact hK
  · refine jPair_f (r := -2) hW ht (.inr (.inl ⟨rfl, rfl⟩)) (fun K hK => ?_) (fun M1 f hB1 hj K hK => ?_)
    · rw [decide_eq_false (by omega)] at k63
      have hx : ¬ x = -1 := by omega
      clear c1 cZ cH cR' cS cD cC o1 o2 o3 hW hbd c3 c4 l7 l8
      simp (disch := omega) only [Option.toList_some, Option.toList_none, List.nil_append, List.cons_append, List.append_nil, true_and, and_true, not_true_eq_false, not_false_eq_true, true_implies, false_implies, implies_true, and_self, Int.reduceLT, Int.reduceLE, Int.reduceEq, Int.reduceNe, Int.reduceAdd, Int.reduceSub, Int.reduceMul, Int.reduceNeg, Int.reduceToNat, Int.toNat_natCast, ↓kk_ck, ↓kk_im, ↓kk_in, e_199, s_199_0, s_199_5, s_199_16, s_199_23, s_199_9, s_199_22, s_199_27, s_199_13, s_199_31, s_199_36, s_199_39, s_199_44, a1, a2, b1, k63, k228b, hx, ne_eq, vi_bt, vi_bf]
      exact hK
    · rw [k_280n hY l4 (by rw [f 114 (by decide) (by decide)]; exact l3) h hj (by omega)]
      exact hK
/-- the tape is another -/
theorem jW_tp (hW : jW sc ln t a CS lw n Y M nn) {M2 : vi_M} (hp : ∀ p, p ≠ 73 → p ≠ 74 → p ≠ 112 → p ≠ 118 → p ≠ 119 → M2 p = M p) (h73 : M2 73 7 = M 73 7) (hk : ∀ k, k ≠ 10 → M2 112 k = M 112 k) (hT : ∃ n : Nat, n ≤ 400 ∧ M2 73 3 = (n : Int) ∧ M2 112 10 = (n : Int) ∧ M2 118 = M2 74 ∧ tOk (M2 74)) : jInv sc ln (t + 1) (Y, M2, nn) := by
  obtain ⟨h1, h2, ⟨b1, b2, b3⟩, ⟨LH, LR, LS, c1, c2, c3, c4⟩, h5, h6, ⟨s1, s2, s3, s4, s5, s6⟩, h8, h9, h10⟩ := hW
  have lo : ∀ p, (p < 73 ∨ (75 ≤ p ∧ p < 112) ∨ (113 ≤ p ∧ p < 118) ∨ 120 ≤ p) → M2 p = M p := fun p h => hp p (by omega) (by omega) (by omega) (by omega) (by omega)
  have e114 := lo 114 (by omega)
  refine ⟨a, CS, lw, n, ?_⟩
  show jW sc ln (t + 1) a CS lw n Y M2 nn
  refine ⟨jA_c h1 (fun p h => lo p (by omega)) (lo 117 (by omega)) (lo 138 (by omega)) (lo 139 (by omega)), jL_p h2 (fun p h => lo p (by omega)), ⟨b1, by omega, by omega⟩, ⟨LH, LR, LS, ?_, c2, ?_, ?_⟩, jM_k h5 (fun p h => lo p (by omega)) (fun k h => hk k (by omega)), ?_, ?_, ?_, ?_, ?_⟩
  · rw [e114]; exact cHd_c c1 fun p h1 h2 => lo p (by omega)
  · rw [e114, lo 39 (by omega)]; exact c3
  · rw [e114]; exact jV_c c4 fun p h1 h2 => lo p (by omega)
  · obtain ⟨m0, -, -, -, -, -, t6⟩ := h6
    obtain ⟨m, q1, q2, q3, q4, q5⟩ := hT
    exact ⟨m, q1, q2, q3, q4, q5, by rw [h73, hk 11 (by omega)]; exact t6⟩
  · unfold jS
    rw [lo 29 (by omega), hk 0 (by omega), hk 6 (by omega), lo 111 (by omega), lo 113 (by omega), hk 1 (by omega)]
    exact ⟨s1, s2, s3, fun k k1 k2 => ⟨(s4 k k1 k2).1, by have := (s4 k k1 k2).2; omega⟩, s5, by omega⟩
  · unfold jD; rw [lo 77 (by omega), hk 62 (by omega), lo 79 (by omega), lo 150 (by omega)]; exact h8
  · intro i hi
    obtain ⟨k1, k2, k3, k4⟩ := h9 i hi
    rw [lo (40 + 10 * i) (by omega), lo 116 (by omega), lo (40 + 10 * i + 1) (by omega), lo (40 + 10 * i + 3) (by omega), lo (40 + 10 * i + 5) (by omega)]
    refine ⟨k1, k2, fun e => ?_, k4⟩
    obtain ⟨LH, LR, LS, hH⟩ := k3 e
    rw [lo 115 (by omega)]
    exact ⟨LH, LR, LS, cHd_c hH fun p h1 h2 => lo p (by omega)⟩
  · exact ⟨fun q hq => by rw [lo q (by unfold jCe at hq; omega)]; exact h10.1 q hq, by rw [lo 88 (by omega)]; exact h10.2⟩
theorem tBy_r {x1 x2 x3 x4 x5 : Int} {i : Nat} : -128 ≤ tBy x1 x2 x3 x4 x5 i ∧ tBy x1 x2 x3 x4 x5 i < 128 := by
  unfold tBy bY
  generalize vi_nar 3 (vi_shr32 _ _) = y
  unfold vi_nar
  simp only [Nat.reduceEqDiff, if_true, if_false]
  omega
theorem p_193 (hW : jW sc ln t a CS lw n Y M nn) {x1 x2 x3 x4 x5 : Int} : jPair sc ln t (d + 70) 193 258 [.inl x1, .inl x2, .inl x3, .inl x4, .inl x5] (Y, M, nn) := by
  have hY := hW.1.1
  have h9 := hW.1.2.1
  obtain ⟨a1, a2, a3, a4, a5, a6, a7, a8, a9, a10, a11, a12⟩ := y_29 h9
  obtain ⟨q1, -⟩ := y_73 hY (by omega)
  obtain ⟨m, t1, t2, t3, t4, t5, t6⟩ := hW.2.2.2.2.2.1
  by_cases h : m + 20 ≤ 400
  · intro K hK
    have k125 := fun {K : Option vi_V → vi_W → Prop} => @k_125 (d + 69) K Y M nn m x1 x2 x3 x4 x5 hY t2 h (by omega)
    have main : ∀ K : Option vi_V → vi_W → Prop, K (some (.inl ((m + 20 : Nat) : Int))) (Y, vi_rs (vi_rs M 74 (mIm (M 74) (tBy x1 x2 x3 x4 x5) m 20)) 73 (vi_u (M 73) 3 ((m + 20 : Nat) : Int)), nn) → vi_call GG (d + 70) 193 [.inr (.inr 29), .inl x1, .inl x2, .inl x3, .inl x4, .inl x5] (Y, M, nn) K := by
      intro K hK
      clear hW t2 t3 t4 t5 t6
      simp (disch := omega) only [Option.toList_some, Option.toList_none, List.nil_append, List.cons_append, List.append_nil, true_and, and_true, not_true_eq_false, not_false_eq_true, true_implies, false_implies, implies_true, and_self, Int.reduceLT, Int.reduceLE, Int.reduceEq, Int.reduceNe, Int.reduceAdd, Int.reduceSub, Int.reduceMul, Int.reduceNeg, Int.reduceToNat, Int.toNat_natCast, ↓kk_ck, ↓kk_im, ↓kk_in, e_193, s_193_0, s_193_4, s_193_14, a1, a6, q1, k125, ne_eq]
      exact hK
    refine main K (hK _ _ (jP_c hW.1 (by rw [vi_rs_o (by decide), vi_rs_o (by decide)])) fun K2 hK2 => ?_)
    have f1 : ∀ p, p ≠ 73 → p ≠ 74 → vi_rs (vi_rs M 74 (mIm (M 74) (tBy x1 x2 x3 x4 x5) m 20)) 73 (vi_u (M 73) 3 ((m + 20 : Nat) : Int)) p = M p := fun p p1 p2 => by rw [vi_rs_o p1, vi_rs_o p2]
    rw [k_258 hY (by rw [f1 112 (by decide) (by decide)]; exact t3) h (by omega)]
    refine hK2 _ (jW_tp hW (fun p p1 p2 p3 p4 p5 => ?_) ?_ (fun k hk => ?_) ⟨m + 20, h, ?_, ?_, ?_, ?_⟩)
    · rw [vi_rs_o p3, vi_rs_o p4, vi_rs_o p5, f1 p p1 p2]
    · rw [vi_rs_o (by decide), vi_rs_o (by decide), vi_rs_o (by decide), vi_rs_s, vi_u_o (by decide)]
    · rw [vi_rs_s, vi_u_o hk, f1 112 (by decide) (by decide)]
    · rw [vi_rs_o (by decide), vi_rs_o (by decide), vi_rs_o (by decide), vi_rs_s, vi_u_s]
    · rw [vi_rs_s, vi_u_s]
    · rw [vi_rs_o (by decide), vi_rs_s, f1 118 (by decide) (by decide), vi_rs_o (by decide), vi_rs_o (by decide), vi_rs_o (by decide), vi_rs_o (by decide), vi_rs_s, t4]
    · rw [vi_rs_o (by decide), vi_rs_o (by decide), vi_rs_o (by decide), vi_rs_o (by decide), vi_rs_s]
      intro p
      unfold mIm
      by_cases e : m ≤ p ∧ p < m + 20
      · rw [if_pos e]; exact tBy_r
      · rw [if_neg e]; exact t5 p
  · refine jPair_q hW fun K hK => ?_
    have hK := hK (.inl (-1)) M hW fun K2 h2 => by rw [k_258n hY t3 t1 (by omega) (by omega)]; exact h2 M hW
    have k125 := fun {K : Option vi_V → vi_W → Prop} => @k_125n (d + 69) K Y M nn m x1 x2 x3 x4 x5 hY t2 t1 (by omega) (by omega)
    clear hW t2 t3 t4 t5 t6
    simp (disch := omega) only [Option.toList_some, Option.toList_none, List.nil_append, List.cons_append, List.append_nil, true_and, and_true, not_true_eq_false, not_false_eq_true, true_implies, false_implies, implies_true, and_self, Int.reduceLT, Int.reduceLE, Int.reduceEq, Int.reduceNe, Int.reduceAdd, Int.reduceSub, Int.reduceMul, Int.reduceNeg, Int.reduceToNat, Int.toNat_natCast, ↓kk_ck, ↓kk_im, ↓kk_in, e_193, s_193_0, s_193_4, s_193_14, a1, a6, q1, k125, ne_eq]
    exact hK
theorem p_194 (hW : jW sc ln t a CS lw n Y M nn) {x : Int} : jPair sc ln t (d + 70) 194 259 [.inl x] (Y, M, nn) := by
  have hY := hW.1.1
  have h9 := hW.1.2.1
  obtain ⟨a1, a2, a3, a4, a5, a6, a7, a8, a9, a10, a11, a12⟩ := y_29 h9
  obtain ⟨q1, -⟩ := y_73 hY (by omega)
  obtain ⟨m, t1, t2, t3, t4, t5, t6⟩ := hW.2.2.2.2.2.1
  by_cases h : 0 ≤ x ∧ x ≤ (m : Int)
  · intro K hK
    obtain ⟨y, rfl⟩ : ∃ y : Nat, x = (y : Int) := ⟨x.toNat, by omega⟩
    have k124 := fun {K : Option vi_V → vi_W → Prop} => @k_124 (d + 69) K Y M nn hY (y : Int) (by rw [t2]; exact h) (by omega)
    have main : ∀ K : Option vi_V → vi_W → Prop, K (some (.inl (y : Int))) (Y, vi_rs M 73 (vi_u (M 73) 3 (y : Int)), nn) → vi_call GG (d + 70) 194 [.inr (.inr 29), .inl (y : Int)] (Y, M, nn) K := by
      intro K hK
      clear hW t2 t3 t4 t5 t6
      simp (disch := omega) only [Option.toList_some, Option.toList_none, List.nil_append, List.cons_append, List.append_nil, true_and, and_true, not_true_eq_false, not_false_eq_true, true_implies, false_implies, implies_true, and_self, Int.reduceLT, Int.reduceLE, Int.reduceEq, Int.reduceNe, Int.reduceAdd, Int.reduceSub, Int.reduceMul, Int.reduceNeg, Int.reduceToNat, Int.toNat_natCast, ↓kk_ck, ↓kk_im, ↓kk_in, e_194, s_194_0, s_194_4, s_194_8, a1, a6, q1, k124, ne_eq]
      exact hK
    refine main K (hK _ _ (jP_c hW.1 (by rw [vi_rs_o (by decide)])) fun K2 hK2 => ?_)
    have f1 : ∀ p, p ≠ 73 → vi_rs M 73 (vi_u (M 73) 3 (y : Int)) p = M p := fun p p1 => by rw [vi_rs_o p1]
    rw [k_259 hY (by rw [f1 112 (by decide), t3]; exact h) (by omega)]
    refine hK2 _ (jW_tp hW (fun p p1 p2 p3 p4 p5 => ?_) ?_ (fun k hk => ?_) ⟨y, by omega, ?_, ?_, ?_, ?_⟩)
    · rw [vi_rs_o p3, f1 p p1]
    · rw [vi_rs_o (by decide), vi_rs_s, vi_u_o (by decide)]
    · rw [vi_rs_s, vi_u_o hk, f1 112 (by decide)]
    · rw [vi_rs_o (by decide), vi_rs_s, vi_u_s]
    · rw [vi_rs_s, vi_u_s]
    · rw [vi_rs_o (by decide), f1 118 (by decide), vi_rs_o (by decide), f1 74 (by decide), t4]
    · rw [vi_rs_o (by decide), f1 74 (by decide)]; exact t5
  · refine jPair_q hW fun K hK => ?_
    have hK := hK (.inl (-1)) M hW fun K2 h2 => by rw [k_259n hY (by rw [t3]; exact h) (by omega)]; exact h2 M hW
    have k124 := fun {K : Option vi_V → vi_W → Prop} => @k_124n (d + 69) K Y M nn hY x (by rw [t2]; exact h) (by omega)
    clear hW t2 t3 t4 t5 t6
    simp (disch := omega) only [Option.toList_some, Option.toList_none, List.nil_append, List.cons_append, List.append_nil, true_and, and_true, not_true_eq_false, not_false_eq_true, true_implies, false_implies, implies_true, and_self, Int.reduceLT, Int.reduceLE, Int.reduceEq, Int.reduceNe, Int.reduceAdd, Int.reduceSub, Int.reduceMul, Int.reduceNeg, Int.reduceToNat, Int.toNat_natCast, ↓kk_ck, ↓kk_im, ↓kk_in, e_194, s_194_0, s_194_4, s_194_8, a1, a6, q1, k124, ne_eq]
    exact hK
end
