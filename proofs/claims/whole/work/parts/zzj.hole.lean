/-! Pairs: hole, stop. -/
theorem mAd_e {f : Nat → Int} {n : Nat} {a u v s k t : Int} {x : Nat} : mAd f n a u v s k t x = if x = 292 then ((n + 1 : Nat) : Int) else if x = 6 * n + 5 then t + 1 else if x = 6 * n + 4 then k else if x = 6 * n + 3 then s else if x = 6 * n + 2 then v else if x = 6 * n + 1 then u else if x = 6 * n then a else f x := rfl
theorem mAd_E {f : Nat → Int} {L : List (Nat → Int)} {a u v s k t : Int} (h : lsE f 0 6 292 L) (hl : L.length ≤ 15) : lsE (mAd f L.length a u v s k t) 0 6 292 (L ++ [vV a u v s k t]) := by
  refine lsE_add (.inr (.inr rfl)) h (by rw [mAd_e, if_pos rfl]) (by omega) (fun x h1 h2 => ?_) fun j hj => ?_
  · rw [mAd_e, if_neg (by omega), if_neg (by omega), if_neg (by omega), if_neg (by omega), if_neg (by omega), if_neg (by omega), if_neg (by omega)]
  · unfold vV
    rw [mAd_e, if_neg (by omega)]
    obtain rfl | rfl | rfl | rfl | rfl | rfl : j = 0 ∨ j = 1 ∨ j = 2 ∨ j = 3 ∨ j = 4 ∨ j = 5 := by omega
    · rw [if_neg (by omega), if_neg (by omega), if_neg (by omega), if_neg (by omega), if_neg (by omega), if_pos (by omega), if_pos rfl]; simp
    · rw [if_neg (by omega), if_neg (by omega), if_neg (by omega), if_neg (by omega), if_pos (by omega)]; simp
    · rw [if_neg (by omega), if_neg (by omega), if_neg (by omega), if_pos (by omega)]; simp
    · rw [if_neg (by omega), if_neg (by omega), if_pos (by omega)]; simp
    · rw [if_neg (by omega), if_pos (by omega)]; simp
    · rw [if_pos (by omega)]; simp
theorem mAd_h {f : Nat → Int} {n : Nat} {a u v s k t : Int} {x : Nat} (hn : n ≤ 15) (hx : 96 ≤ x) (hx2 : x ≠ 292) : mAd f n a u v s k t x = f x := mAd_o (by omega) hx2
theorem ls_mem {A D : List (Nat → Int)} {v w : Nat → Int} (h : w ∈ A ++ D) : w ∈ A ++ v :: D := by
  rw [List.mem_append] at *
  rcases h with h | h
  · exact .inl h
  · exact .inr (List.mem_cons.mpr (.inr h))
section
variable {sc : Nat → Int} {ln t a n d : Nat} {CS : Nat → List gCla} {lw : Option (List gCla)} {Y : vi_Y} {M : vi_M} {nn : Nat × Nat} {K : Option vi_V → vi_W → Prop}
theorem mIhb_of {M : vi_M} {b u v e p l : Int} (h : mIh M b u v e p l) : mIhb (M 114) b u v e p l = true := by
  unfold mIhb
  rw [Bool.and_eq_true, mIb_p, decide_eq_true_iff]
  exact ⟨h.1, h.2⟩
theorem mIhb_r {f : Nat → Int} (hB : bxF f) {b u v e p l : Int} (h : mIhb f b u v e p l = true) : gPl (f 96) (f 97) (f 98) b u v = true ∧ gH (vV b u v e p l) := by
  unfold mIhb at h
  rw [Bool.and_eq_true, decide_eq_true_iff] at h
  obtain ⟨h1, h2, h3, h4⟩ := h
  refine ⟨by rw [← hc_ib]; exact h1, ?_⟩
  have hr := mIp_r (M := rowM f) hB (mIb_p.mp h1)
  show (0 ≤ b ∧ b ≤ 2) ∧ (0 ≤ u ∧ u < 6) ∧ (0 ≤ v ∧ v < 6) ∧ (0 ≤ e ∧ e ≤ 1) ∧ (1 ≤ p ∧ p ≤ 6) ∧ (-1 ≤ l ∧ l ≤ 1)
  exact ⟨hr.1, hr.2.1, hr.2.2, h2, h3, h4⟩
/-- with a HOLE more -/
theorem cHd_add {f : Nat → Int} {LH LR LS : List (Nat → Int)} (hH : cHd M 30 f a CS LH LR LS) (hl : LH.length ≤ 15) {b u v e p l : Int} (h : mIhb f b u v e p l = true) : cHd (vi_rs (vi_rs M 31 (vi_u (M 31) 2 ((LH.length + 1 : Nat) : Int))) 32 (rPut (M 32) LH.length (vV b u v e p l))) 30 (mAd f LH.length b u v e p l) a CS (LH ++ [vV b u v e p l]) LR LS := by
  obtain ⟨⟨o1, o2, o3⟩, cH, cR', cS, cD, cC, cZ, cL⟩ := hH
  obtain ⟨hp, hg⟩ := mIhb_r cZ.2.2.2.2.1 h
  have ho : ∀ x, 96 ≤ x → x ≠ 292 → mAd f LH.length b u v e p l x = f x := fun x => mAd_h hl
  obtain ⟨e1, e2, e3⟩ := rHs_e.mp cH
  refine ⟨⟨?_, ?_, ?_⟩, rHs_e.mpr ⟨mAd_E e1 hl, by rw [List.length_append]; show LH.length + 1 ≤ 16; omega, fun w hw => ?_⟩, rRw_c cR' fun k hk => ho k (by omega) (by omega), rSc_c cS fun k hk => ho k (by omega) (by omega), rDk_c ?_ fun k hk => ho k (by omega) (by omega), rCt_c ?_ fun k hk => ho k (by omega) (by omega), rSz_c ?_ fun k hk => ho k (by omega) (by omega), rLw_c ?_ fun k hk => ho k (by omega) (by omega)⟩
  · rw [vi_rs_o (by decide), vi_rs_s, vi_rs_s]
    exact rOK_add o1
  · rw [vi_rs_o (by decide), vi_rs_o (by decide), vi_rs_o (by decide), vi_rs_o (by decide)]; exact o2
  · rw [vi_rs_o (by decide), vi_rs_o (by decide), vi_rs_o (by decide), vi_rs_o (by decide)]; exact o3
  · rw [ho 96 (by omega) (by omega), ho 97 (by omega) (by omega), ho 98 (by omega) (by omega)]
    rcases List.mem_append.mp hw with hw | hw
    · exact e3 w hw
    · rw [List.mem_singleton.mp hw]
      exact ⟨hg, hp⟩
  · rw [vi_rs_o (by decide), vi_rs_o (by decide)]; exact cD
  · rw [vi_rs_o (by decide), vi_rs_o (by decide)]; exact cC
  · rw [vi_rs_o (by decide), vi_rs_o (by decide)]; exact cZ
  · rw [vi_rs_o (by decide), vi_rs_o (by decide), vi_rs_o (by decide), vi_rs_o (by decide)]; exact cL
theorem mIh_c {M M' : vi_M} (h : M' 114 = M 114) {a u v s k t : Int} (hc : mIh M a u v s k t) : mIh M' a u v s k t := by
  unfold mIh mIp at *
  rw [h]
  exact hc
theorem poke_b {f g : Nat → Int} (hs : rSz f g) {b u v e p : Int} : (gPl (g 8) (g 9) (g 10) b u v && decide (0 ≤ e ∧ e ≤ 1 ∧ 1 ≤ p ∧ p ≤ 6)) = true ↔ mIb f b u v = true ∧ (0 ≤ e ∧ e ≤ 1) ∧ (1 ≤ p ∧ p ≤ 6) := by
  rw [Bool.and_eq_true, decide_eq_true_iff, gPl_f hs]
  exact ⟨fun ⟨h1, h2⟩ => ⟨h1, ⟨h2.1, h2.2.1⟩, h2.2.2⟩, fun ⟨h1, h2, h3⟩ => ⟨h1, h2.1, h2.2, h3⟩⟩
theorem p_189 (hW : jW sc ln t a CS lw n Y M nn) (ht : t < 1000) {b u v e p l : Int} : jPair sc ln t (d + 70) 189 251 [.inl b, .inl u, .inl v, .inl e, .inl p, .inl l] (Y, M, nn) := by
  have hY := hW.1.1
  have h9 := hW.1.2.1
  have hbd := jW_b hW ht
  obtain ⟨LH, LR, LS, c1, c2, c3, c4⟩ := hW.2.2.2.1
  have c1' := c1
  obtain ⟨⟨o1, o2, o3⟩, cH, cR', cS, cD, cC, cZ, cL⟩ := c1'
  obtain ⟨a1, a2, a3, a4, a5, a6, a7, a8, a9, a10, a11, a12⟩ := y_29 h9
  obtain ⟨b1, b2, -⟩ := y_30 hY (by omega)
  obtain ⟨z1, -⟩ := y_60 hY (by omega)
  have kr := kR_31 hY (by omega)
  have k50 := fun {K : Option vi_V → vi_W → Prop} => @k_50 (d + 66) 30 K Y M nn b1 b u v e p
  have k150 := fun {K : Option vi_V → vi_W → Prop} => @k_150 (d + 68) 31 16 K Y M nn kr
  have k228a := fun {K : Option vi_V → vi_W → Prop} => @k_228_1 (d + 68) Y M nn K hY h9 (hbd.1 0 (by omega))
  have k228e := fun {K : Option vi_V → vi_W → Prop} => @k_228_5 (d + 68) Y M nn K hY h9 (hbd.1 3 (by omega))
  simp only [Nat.add_assoc, Nat.reduceAdd] at k50 k150 k228a k228e
  have hr0 : M 31 2 = (LH.length : Int) := o1.1
  rw [hr0] at k150
  have hl := cH.2.1
  have hB : mBx M := hW.2.2.2.2.1.1.1
  by_cases h : mIh M b u v e p l
  · have hb := (poke_b cZ (b := b) (u := u) (v := v) (e := e) (p := p)).mpr ⟨mIb_p.mpr h.1, h.2.1, h.2.2.1⟩
    rw [hb] at k50
    have hlt := h.2.2.2
    by_cases hf : LH.length = 16
    · refine jPair_f (r := -5) hW ht (.inr (.inr (.inr (.inl ⟨rfl, rfl⟩)))) (fun K hK => ?_) (fun M1 f hB1 hj K hK => ?_)
      · rw [decide_eq_true (by omega)] at k150
        clear c1 cZ cH o1 hW hbd
        simp (disch := omega) only [Option.toList_some, Option.toList_none, List.nil_append, List.cons_append, List.append_nil, true_and, and_true, not_true_eq_false, not_false_eq_true, true_implies, false_implies, implies_true, and_self, Int.reduceLT, Int.reduceLE, Int.reduceEq, Int.reduceNe, Int.reduceAdd, Int.reduceSub, Int.reduceMul, Int.reduceNeg, Int.reduceToNat, Int.toNat_natCast, ↓kk_ck, ↓kk_im, ↓kk_in, e_189, s_189_0, s_189_17, s_189_23, s_189_29, s_189_35, s_189_48, s_189_55, s_189_4, s_189_34, s_189_39, s_189_54, s_189_59, s_189_14, s_189_42, s_189_62, s_189_45, s_189_74, s_189_78, s_189_81, s_189_86, s_189_89, s_189_92, s_189_97, a1, a2, b1, b2, kr.1, k50, k150, k228e, vi_bt, vi_bf, ne_eq]
        exact hK
      · rw [k_251x hY hB1 (mIh_c (f 114 (by decide) (by decide)) h) (by rw [f 114 (by decide) (by decide), cH.1, hf]; rfl) hj (by omega)]
        exact hK
    · rw [decide_eq_false (by omega)] at k150
      have hl15 : LH.length ≤ 15 := by omega
      refine jPair_r (M1 := vi_rs (vi_rs M 31 (vi_u (M 31) 2 ((LH.length + 1 : Nat) : Int))) 32 (rPut (M 32) LH.length (vV b u v e p l))) (x := .inl (LH.length : Int)) (lw' := lw) hW ht (fun q hq => ?_) (cHd_add c1 hl15 (mIhb_of h)) ?_ (fun M' f1 k25 K hK => ?_) (fun M2 f2 hB2 hv K hK => ?_)
      · rw [vi_rs_o (by omega), vi_rs_o (by omega)]
      · rw [vi_rs_o (by decide), vi_rs_o (by decide)]
        exact fLw_c c3 fun k hk => mAd_h hl15 (by omega) (by omega)
      · have e31 : M' 31 2 = ((LH.length + 1 : Nat) : Int) := by rw [f1 31 (by omega), vi_rs_o (by decide), vi_rs_s, vi_u_s]
        have k152 := fun {K : Option vi_V → vi_W → Prop} => @k_152 (d + 67) 31 16 K Y M nn kr LH.length hr0 (by omega) b u v e p l
        have k149 := fun {K : Option vi_V → vi_W → Prop} => @k_149 (d + 68) 31 K (Y, M', nn) kr.1
        have k227 := fun {K : Option vi_V → vi_W → Prop} => @k_227 (d + 68) Y M' nn K a1 (LH.length : Int)
        simp only [Nat.add_assoc, Nat.reduceAdd] at k152 k149 k227
        rw [e31] at k149
        have k152' : ∀ K : Option vi_V → vi_W → Prop, vi_call GG (d + 69) 152 [.inr (.inr 31), .inl b, .inl u, .inl v, .inl e, .inl p, .inl l] (Y, M, nn) K ↔ K none (Y, vi_rs (vi_rs M 31 (vi_u (M 31) 2 ((LH.length + 1 : Nat) : Int))) 32 (rPut (M 32) LH.length (vV b u v e p l)), nn) := fun K => k152
        clear c1 cZ cH o1 hW hbd f1 k152
        generalize vi_rs (vi_rs M 31 (vi_u (M 31) 2 ((LH.length + 1 : Nat) : Int))) 32 (rPut (M 32) LH.length (vV b u v e p l)) = M1 at *
        simp (disch := omega) only [Option.toList_some, Option.toList_none, List.nil_append, List.cons_append, List.append_nil, true_and, and_true, not_true_eq_false, not_false_eq_true, true_implies, false_implies, implies_true, and_self, Int.reduceLT, Int.reduceLE, Int.reduceEq, Int.reduceNe, Int.reduceAdd, Int.reduceSub, Int.reduceMul, Int.reduceNeg, Int.reduceToNat, Int.toNat_natCast, ↓kk_ck, ↓kk_im, ↓kk_in, e_189, s_189_0, s_189_17, s_189_23, s_189_29, s_189_35, s_189_48, s_189_55, s_189_4, s_189_34, s_189_39, s_189_54, s_189_59, s_189_14, s_189_42, s_189_62, s_189_45, s_189_74, s_189_78, s_189_81, s_189_86, s_189_89, s_189_92, s_189_97, a1, a2, a5, b1, b2, kr.1, z1, k50, k150, k152', k25, k149, vi_bt, vi_bf, ne_eq, @vi_32 (((LH.length + 1 : Nat) : Int) - 1) (by omega) (by omega), show ((LH.length + 1 : Nat) : Int) - 1 = (LH.length : Int) by omega, @vi_32 (LH.length : Int) (by omega) (by omega), k227]
        exact hK
      · rw [k_251 hY hB2 (mIh_c (f2 114 (by omega) (by omega)) h) hl15 (by rw [f2 114 (by omega) (by omega), cH.1]) hv (by omega), f2 114 (by omega) (by omega)]
        exact hK
  · refine jPair_f (r := -1) hW ht (.inl ⟨rfl, rfl⟩) (fun K hK => ?_) (fun M1 f hB1 hj K hK => ?_)
    · cases hb : (gPl (M 30 8) (M 30 9) (M 30 10) b u v && decide (0 ≤ e ∧ e ≤ 1 ∧ 1 ≤ p ∧ p ≤ 6)) with
      | false =>
        rw [hb] at k50
        clear c1 cZ cH o1 hW hbd hb k150
        simp (disch := omega) only [Option.toList_some, Option.toList_none, List.nil_append, List.cons_append, List.append_nil, true_and, and_true, not_true_eq_false, not_false_eq_true, true_implies, false_implies, implies_true, and_self, Int.reduceLT, Int.reduceLE, Int.reduceEq, Int.reduceNe, Int.reduceAdd, Int.reduceSub, Int.reduceMul, Int.reduceNeg, Int.reduceToNat, Int.toNat_natCast, ↓kk_ck, ↓kk_im, ↓kk_in, e_189, s_189_0, s_189_17, s_189_23, s_189_29, s_189_35, s_189_48, s_189_55, s_189_4, s_189_34, s_189_39, s_189_54, s_189_59, s_189_14, s_189_42, s_189_62, s_189_45, s_189_74, s_189_78, s_189_81, s_189_86, s_189_89, s_189_92, s_189_97, a1, a2, b1, b2, kr.1, k50, k228a, vi_bt, vi_bf, ne_eq]
        exact hK
      | true =>
        have h2 := (poke_b cZ).mp hb
        rw [hb] at k50
        have hlo : l < -1 ∨ 1 < l := by
          have : ¬ (-1 ≤ l ∧ l ≤ 1) := fun q => h ⟨mIb_p.mp h2.1, h2.2.1, h2.2.2, q⟩
          omega
        clear c1 cZ cH o1 hW hbd hb k150 h2 h
        rcases hlo with hlo | hlo
        · simp (disch := omega) only [Option.toList_some, Option.toList_none, List.nil_append, List.cons_append, List.append_nil, true_and, and_true, not_true_eq_false, not_false_eq_true, true_implies, false_implies, implies_true, and_self, Int.reduceLT, Int.reduceLE, Int.reduceEq, Int.reduceNe, Int.reduceAdd, Int.reduceSub, Int.reduceMul, Int.reduceNeg, Int.reduceToNat, Int.toNat_natCast, ↓kk_ck, ↓kk_im, ↓kk_in, e_189, s_189_0, s_189_17, s_189_23, s_189_29, s_189_35, s_189_48, s_189_55, s_189_4, s_189_34, s_189_39, s_189_54, s_189_59, s_189_14, s_189_42, s_189_62, s_189_45, s_189_74, s_189_78, s_189_81, s_189_86, s_189_89, s_189_92, s_189_97, a1, a2, b1, b2, kr.1, k50, k228a, vi_bt, vi_bf, ne_eq]
          exact hK
        · simp (disch := omega) only [Option.toList_some, Option.toList_none, List.nil_append, List.cons_append, List.append_nil, true_and, and_true, not_true_eq_false, not_false_eq_true, true_implies, false_implies, implies_true, and_self, Int.reduceLT, Int.reduceLE, Int.reduceEq, Int.reduceNe, Int.reduceAdd, Int.reduceSub, Int.reduceMul, Int.reduceNeg, Int.reduceToNat, Int.toNat_natCast, ↓kk_ck, ↓kk_im, ↓kk_in, e_189, s_189_0, s_189_17, s_189_23, s_189_29, s_189_35, s_189_48, s_189_55, s_189_4, s_189_34, s_189_39, s_189_54, s_189_59, s_189_14, s_189_42, s_189_62, s_189_45, s_189_74, s_189_78, s_189_81, s_189_86, s_189_89, s_189_92, s_189_97, a1, a2, b1, b2, kr.1, k50, k228a, vi_bt, vi_bf, ne_eq]
          exact hK
    · rw [k_251n hY hB1 (fun q => h (mIh_c (f 114 (by decide) (by decide)).symm q)) hj (by omega)]
      exact hK
end
