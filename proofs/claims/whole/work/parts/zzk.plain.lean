/-! Pairs: stop, tally, forget, screw, unscrew, view, told, count, force. -/
theorem mAr_e {f : Nat → Int} {m : Nat} {a u v x : Int} {k : Nat} : mAr f m a u v x k = if k = 293 then ((m + 1 : Nat) : Int) else if k = 100 + 4 * m + 3 then x else if k = 100 + 4 * m + 2 then v else if k = 100 + 4 * m + 1 then u else if k = 100 + 4 * m then a else f k := rfl
theorem mAs_e {f : Nat → Int} {m : Nat} {a u v x y : Int} {k : Nat} : mAs f m a u v x y k = if k = 294 then ((m + 1 : Nat) : Int) else if k = 132 + 5 * m + 4 then y else if k = 132 + 5 * m + 3 then x else if k = 132 + 5 * m + 2 then v else if k = 132 + 5 * m + 1 then u else if k = 132 + 5 * m then a else f k := rfl
theorem mAr_E {f : Nat → Int} {L : List (Nat → Int)} {a u v x : Int} (h : lsE f 100 4 293 L) (hl : L.length ≤ 7) : lsE (mAr f L.length a u v x) 100 4 293 (L ++ [vV a u v x 0 0]) := by
  refine lsE_add (.inl rfl) h (by rw [mAr_e, if_pos rfl]) (by omega) (fun x h1 h2 => ?_) fun j hj => ?_
  · rw [mAr_e, if_neg (by omega), if_neg (by omega), if_neg (by omega), if_neg (by omega), if_neg (by omega)]
  · unfold vV
    rw [mAr_e, if_neg (by omega)]
    obtain rfl | rfl | rfl | rfl : j = 0 ∨ j = 1 ∨ j = 2 ∨ j = 3 := by omega
    · rw [if_neg (by omega), if_neg (by omega), if_neg (by omega), if_pos (by omega)]; simp
    · rw [if_neg (by omega), if_neg (by omega), if_pos (by omega)]; simp
    · rw [if_neg (by omega), if_pos (by omega)]; simp
    · rw [if_pos (by omega)]; simp
theorem mAs_E {f : Nat → Int} {L : List (Nat → Int)} {a u v x y : Int} (h : lsE f 132 5 294 L) (hl : L.length ≤ 7) : lsE (mAs f L.length a u v x y) 132 5 294 (L ++ [vV a u v x y 0]) := by
  refine lsE_add (.inr (.inl rfl)) h (by rw [mAs_e, if_pos rfl]) (by omega) (fun x h1 h2 => ?_) fun j hj => ?_
  · rw [mAs_e, if_neg (by omega), if_neg (by omega), if_neg (by omega), if_neg (by omega), if_neg (by omega), if_neg (by omega)]
  · unfold vV
    rw [mAs_e, if_neg (by omega)]
    obtain rfl | rfl | rfl | rfl | rfl : j = 0 ∨ j = 1 ∨ j = 2 ∨ j = 3 ∨ j = 4 := by omega
    · rw [if_neg (by omega), if_neg (by omega), if_neg (by omega), if_neg (by omega), if_pos (by omega)]; simp
    · rw [if_neg (by omega), if_neg (by omega), if_neg (by omega), if_pos (by omega)]; simp
    · rw [if_neg (by omega), if_neg (by omega), if_pos (by omega)]; simp
    · rw [if_neg (by omega), if_pos (by omega)]; simp
    · rw [if_pos (by omega)]; simp
theorem mAr_o {f : Nat → Int} {m : Nat} {a u v x : Int} {k : Nat} (hm : m ≤ 7) (hk : k < 100 ∨ 132 ≤ k) (h2 : k ≠ 293) : mAr f m a u v x k = f k := by
  rw [mAr_e, if_neg (by omega), if_neg (by omega), if_neg (by omega), if_neg (by omega), if_neg (by omega)]
theorem mAs_o {f : Nat → Int} {m : Nat} {a u v x y : Int} {k : Nat} (hm : m ≤ 7) (hk : k < 132 ∨ 172 ≤ k) (h2 : k ≠ 294) : mAs f m a u v x y k = f k := by
  rw [mAs_e, if_neg (by omega), if_neg (by omega), if_neg (by omega), if_neg (by omega), if_neg (by omega), if_neg (by omega)]
section
variable {sc : Nat → Int} {ln t a n d : Nat} {CS : Nat → List gCla} {lw : Option (List gCla)} {Y : vi_Y} {M : vi_M} {nn : Nat × Nat} {K : Option vi_V → vi_W → Prop}
/-- without a HOLE -/
theorem cHd_out {A D LR LS : List (Nat → Int)} {v : Nat → Int} (hH : cHd M 30 (M 114) a CS (A ++ v :: D) LR LS) : cHd (vi_rs (vi_rs M 32 (rDr (M 32) A.length ((A ++ v :: D).length - 1))) 31 (vi_u (M 31) 2 (((A ++ v :: D).length - 1 : Nat) : Int))) 30 (mOut (M 114) 0 6 292 (6 * A.length) (6 * ((A ++ v :: D).length - 1)) (((A ++ v :: D).length - 1 : Nat) : Int)) a CS (A ++ D) LR LS := by
  obtain ⟨⟨o1, o2, o3⟩, cH, cR', cS, cD, cC, cZ, cL⟩ := hH
  obtain ⟨e1, e2, e3⟩ := rHs_e.mp cH
  have hl := ls_len (A := A) (D := D) (v := v)
  have hA : A.length ≤ (A ++ D).length := by rw [List.length_append]; omega
  have hL : mLm 0 6 292 (A ++ v :: D).length := ⟨.inr (.inr rfl), by omega, by omega, by omega, by omega⟩
  have ho : ∀ x, 96 ≤ x → x ≠ 292 → mOut (M 114) 0 6 292 (6 * A.length) (6 * ((A ++ v :: D).length - 1)) (((A ++ v :: D).length - 1 : Nat) : Int) x = M 114 x := fun x h1 h2 => mOut_o hL (by omega) (by omega) h2
  refine ⟨⟨?_, ?_, ?_⟩, rHs_e.mpr ⟨lsE_out e1 hL, by omega, fun w hw => ?_⟩, rRw_c cR' fun k hk => ho k (by omega) (by omega), rSc_c cS fun k hk => ho k (by omega) (by omega), rDk_c ?_ fun k hk => ho k (by omega) (by omega), rCt_c ?_ fun k hk => ho k (by omega) (by omega), rSz_c ?_ fun k hk => ho k (by omega) (by omega), rLw_c ?_ fun k hk => ho k (by omega) (by omega)⟩
  · rw [vi_rs_s, vi_rs_o (by decide), vi_rs_s]
    exact rOK_out o1
  · rw [vi_rs_o (by decide), vi_rs_o (by decide), vi_rs_o (by decide), vi_rs_o (by decide)]; exact o2
  · rw [vi_rs_o (by decide), vi_rs_o (by decide), vi_rs_o (by decide), vi_rs_o (by decide)]; exact o3
  · rw [ho 96 (by omega) (by omega), ho 97 (by omega) (by omega), ho 98 (by omega) (by omega)]
    exact e3 w (ls_mem hw)
  · rw [vi_rs_o (by decide), vi_rs_o (by decide)]; exact cD
  · rw [vi_rs_o (by decide), vi_rs_o (by decide)]; exact cC
  · rw [vi_rs_o (by decide), vi_rs_o (by decide)]; exact cZ
  · rw [vi_rs_o (by decide), vi_rs_o (by decide), vi_rs_o (by decide), vi_rs_o (by decide)]; exact cL
theorem p_190 (hW : jW sc ln t a CS lw n Y M nn) (ht : t < 1000) {x : Int} : jPair sc ln t (d + 70) 190 253 [.inl x] (Y, M, nn) := by
  have hY := hW.1.1
  have h9 := hW.1.2.1
  have hbd := jW_b hW ht
  obtain ⟨LH, LR, LS, c1, c2, c3, c4⟩ := hW.2.2.2.1
  obtain ⟨a1, a2, a3, a4, a5, a6, a7, a8, a9, a10, a11, a12⟩ := y_29 h9
  obtain ⟨b1, b2, -⟩ := y_30 hY (by omega)
  obtain ⟨z1, -⟩ := y_60 hY (by omega)
  have kr := kR_31 hY (by omega)
  have k149 := fun {K : Option vi_V → vi_W → Prop} => @k_149 (d + 68) 31 K (Y, M, nn) kr.1
  have k228b := fun {K : Option vi_V → vi_W → Prop} => @k_228_2 (d + 68) Y M nn K hY h9 (hbd.1 1 (by omega))
  simp only [Nat.add_assoc, Nat.reduceAdd] at k149 k228b
  have hr0 : M 31 2 = (LH.length : Int) := c1.1.1.1
  rw [hr0] at k149
  have hl := c1.2.1.2.1
  have h292 := c1.2.1.1
  by_cases h : 0 ≤ x ∧ x < (LH.length : Int)
  · obtain ⟨i, rfl⟩ : ∃ i : Nat, x = (i : Int) := ⟨x.toNat, by omega⟩
    have hi : i < LH.length := by omega
    obtain ⟨A, v, D, rfl, rfl⟩ := ls_split hi
    have hll := ls_len (A := A) (D := D) (v := v)
    refine jPair_r (M1 := vi_rs (vi_rs M 32 (rDr (M 32) A.length ((A ++ v :: D).length - 1))) 31 (vi_u (M 31) 2 (((A ++ v :: D).length - 1 : Nat) : Int))) (x := .inl (((A ++ v :: D).length - 1 : Nat) : Int)) (lw' := lw) hW ht (fun q hq => ?_) (cHd_out c1) ?_ (fun M' f1 k25 K hK => ?_) (fun M2 f2 hB2 hv K hK => ?_)
    · rw [vi_rs_o (by omega), vi_rs_o (by omega)]
    · rw [vi_rs_o (by decide), vi_rs_o (by decide)]
      exact fLw_c c3 fun k hk => mOut_o (N := (A ++ v :: D).length) ⟨.inr (.inr rfl), by omega, by omega, by omega, by omega⟩ hi (by omega) (by omega)
    · have e31 : M' 31 2 = (((A ++ v :: D).length - 1 : Nat) : Int) := by rw [f1 31 (by omega), vi_rs_s, vi_u_s]
      have k153 := fun {K : Option vi_V → vi_W → Prop} => @k_153 (d + 66) 31 16 K Y M nn kr (A ++ v :: D).length A.length hr0 hl hi
      have k149' := fun {K : Option vi_V → vi_W → Prop} => @k_149 (d + 68) 31 K (Y, M', nn) kr.1
      have k227 := fun {K : Option vi_V → vi_W → Prop} => @k_227 (d + 68) Y M' nn K a1 (((A ++ v :: D).length - 1 : Nat) : Int)
      simp only [Nat.add_assoc, Nat.reduceAdd] at k153 k149' k227
      rw [e31] at k149'
      clear c1 c3 c4 hW hbd f1 h292
      generalize vi_rs (vi_rs M 32 (rDr (M 32) A.length ((A ++ v :: D).length - 1))) 31 (vi_u (M 31) 2 (((A ++ v :: D).length - 1 : Nat) : Int)) = M1 at *
      generalize (A ++ v :: D).length = N at *
      generalize A.length = i at *
      simp (disch := omega) only [Option.toList_some, Option.toList_none, List.nil_append, List.cons_append, List.append_nil, true_and, and_true, not_true_eq_false, not_false_eq_true, true_implies, false_implies, implies_true, and_self, Int.reduceLT, Int.reduceLE, Int.reduceEq, Int.reduceNe, Int.reduceAdd, Int.reduceSub, Int.reduceMul, Int.reduceNeg, Int.reduceToNat, Int.toNat_natCast, ↓kk_ck, ↓kk_im, ↓kk_in, e_190, s_190_0, s_190_4, s_190_18, s_190_25, s_190_9, s_190_24, s_190_29, s_190_12, s_190_32, s_190_15, s_190_36, s_190_40, s_190_43, s_190_48, s_190_51, s_190_54, s_190_57, a1, a2, a5, b1, b2, kr.1, z1, k149, k153, k25, k149', k227, ne_eq]
      exact hK
    · rw [k_253 hY hl (by rw [f2 114 (by omega) (by omega)]; exact h292) hi hv (by omega), f2 114 (by omega) (by omega)]
      exact hK
  · refine jPair_f (r := -2) hW ht (.inr (.inl ⟨rfl, rfl⟩)) (fun K hK => ?_) (fun M1 f hB1 hj K hK => ?_)
    · clear c1 c3 c4 hW hbd
      by_cases hx : x < 0
      · simp (disch := omega) only [Option.toList_some, Option.toList_none, List.nil_append, List.cons_append, List.append_nil, true_and, and_true, not_true_eq_false, not_false_eq_true, true_implies, false_implies, implies_true, and_self, Int.reduceLT, Int.reduceLE, Int.reduceEq, Int.reduceNe, Int.reduceAdd, Int.reduceSub, Int.reduceMul, Int.reduceNeg, Int.reduceToNat, Int.toNat_natCast, ↓kk_ck, ↓kk_im, ↓kk_in, e_190, s_190_0, s_190_4, s_190_18, s_190_25, s_190_9, s_190_24, s_190_29, s_190_12, s_190_32, s_190_15, s_190_36, s_190_40, s_190_43, s_190_48, s_190_51, s_190_54, s_190_57, a1, a2, b1, b2, kr.1, k228b, ne_eq]
        exact hK
      · simp (disch := omega) only [Option.toList_some, Option.toList_none, List.nil_append, List.cons_append, List.append_nil, true_and, and_true, not_true_eq_false, not_false_eq_true, true_implies, false_implies, implies_true, and_self, Int.reduceLT, Int.reduceLE, Int.reduceEq, Int.reduceNe, Int.reduceAdd, Int.reduceSub, Int.reduceMul, Int.reduceNeg, Int.reduceToNat, Int.toNat_natCast, ↓kk_ck, ↓kk_im, ↓kk_in, e_190, s_190_0, s_190_4, s_190_18, s_190_25, s_190_9, s_190_24, s_190_29, s_190_12, s_190_32, s_190_15, s_190_36, s_190_40, s_190_43, s_190_48, s_190_51, s_190_54, s_190_57, a1, a2, b1, b2, kr.1, k149, k228b, ne_eq]
        exact hK
    · rw [k_253n hY hl (by rw [f 114 (by decide) (by decide)]; exact h292) (by omega) hj (by omega)]
      exact hK
theorem p_204 (hW : jW sc ln t a CS lw n Y M nn) (ht : t < 1000) {b u v x : Int} : jPair sc ln t (d + 70) 204 303 [.inl b, .inl u, .inl v, .inl x] (Y, M, nn) := by
  have hY := hW.1.1
  have h9 := hW.1.2.1
  have hbd := jW_b hW ht
  obtain ⟨LH, LR, LS, c1, c2, c3, c4⟩ := hW.2.2.2.1
  have c1' := c1
  obtain ⟨⟨o1, o2, o3⟩, cH, cR', cS, cD, cC, cZ, cL⟩ := c1'
  obtain ⟨a1, a2, a3, a4, a5, a6, a7, a8, a9, a10, a11, a12⟩ := y_29 h9
  obtain ⟨b1, b2, b3, b4, -⟩ := y_30 hY (by omega)
  have kr := kR_33 hY (by omega)
  have k49 := fun {K : Option vi_V → vi_W → Prop} => @k_49 (d + 67) 30 K Y M nn b1 b u v
  have k150 := fun {K : Option vi_V → vi_W → Prop} => @k_150 (d + 68) 33 8 K Y M nn kr
  have k228a := fun {K : Option vi_V → vi_W → Prop} => @k_228_1 (d + 68) Y M nn K hY h9 (hbd.1 0 (by omega))
  have k228e := fun {K : Option vi_V → vi_W → Prop} => @k_228_5 (d + 68) Y M nn K hY h9 (hbd.1 3 (by omega))
  simp only [Nat.add_assoc, Nat.reduceAdd] at k49 k150 k228a k228e
  have hr0 : M 33 2 = (LR.length : Int) := o2.1
  rw [hr0] at k150
  rw [gPl_f cZ] at k49
  have hl := cR'.2.1
  by_cases h : mIp M b u v ∧ 0 ≤ x ∧ x ≤ 6
  · have hb := mIb_p.mpr h.1
    rw [hb] at k49
    have hlt := h.2
    by_cases hf : LR.length = 8
    · refine jPair_f (r := -5) hW ht (.inr (.inr (.inr (.inl ⟨rfl, rfl⟩)))) (fun K hK => ?_) (fun M1 f hB1 hj K hK => ?_)
      · rw [decide_eq_true (by omega)] at k150
        clear c1 c3 c4 cZ cH cR' cS cD cC cL o1 o2 o3 hW hbd
        simp (disch := omega) only [Option.toList_some, Option.toList_none, List.nil_append, List.cons_append, List.append_nil, true_and, and_true, not_true_eq_false, not_false_eq_true, true_implies, false_implies, implies_true, and_self, Int.reduceLT, Int.reduceLE, Int.reduceEq, Int.reduceNe, Int.reduceAdd, Int.reduceSub, Int.reduceMul, Int.reduceNeg, Int.reduceToNat, Int.toNat_natCast, ↓kk_ck, ↓kk_im, ↓kk_in, e_204, s_204_0, s_204_13, s_204_18, s_204_25, s_204_31, s_204_44, s_204_51, s_204_4, s_204_30, s_204_35, s_204_50, s_204_55, s_204_10, s_204_38, s_204_58, s_204_41, s_204_68, s_204_73, s_204_76, s_204_79, s_204_82, a1, a2, b1, b3, kr.1, k49, k150, k228e, vi_bt, vi_bf, ne_eq]
        exact hK
      · rw [k_303x hY hB1 ⟨(mIh_c (M := M) (s := 0) (k := 1) (t := 0) (f 114 (by decide) (by decide)) ⟨h.1, by omega, by omega, by omega⟩).1, h.2⟩ (by rw [f 114 (by decide) (by decide), cR'.1, hf]; rfl) hj (by omega)]
        exact hK
    · rw [decide_eq_false (by omega)] at k150
      have hl7 : LR.length ≤ 7 := by omega
      have hp : gPl (M 114 96) (M 114 97) (M 114 98) b u v = true := by rw [← hc_ib]; exact hb
      have ho : ∀ k, (k < 100 ∨ 132 ≤ k) → k ≠ 293 → mAr (M 114) LR.length b u v x k = M 114 k := fun k => mAr_o hl7
      refine jPair_n (M1 := vi_rs (vi_rs M 33 (vi_u (M 33) 2 ((LR.length + 1 : Nat) : Int))) 34 (rPut (M 34) LR.length (vV b u v x 0 0))) (x := .inl ((LR.length + 1 : Nat) : Int)) (f' := mAr (M 114) LR.length b u v x) (g29 := vi_u (M 29) 11 0) (g112 := vi_u (vi_u (M 112) 0 0) 1 (M 112 1 + 1)) (LH := LH) (LR := LR ++ [vV b u v x 0 0]) (LS := LS) hW ht (fun q hq => ?_) ⟨⟨?_, ?_, ?_⟩, rHs_c cH fun k hk => ho k (by omega) (by omega), ?_, rSc_c cS fun k hk => ho k (by omega) (by omega), rDk_c ?_ fun k hk => ho k (by omega) (by omega), rCt_c ?_ fun k hk => ho k (by omega) (by omega), rSz_c ?_ fun k hk => ho k (by omega) (by omega), rLw_c ?_ fun k hk => ho k (by omega) (by omega)⟩ c2 (fun k hk => ho k (by omega) (by omega)) ?_ ?_ (fun k hk => ?_) ?_ (fun K hK => ?_) (fun M2 f2 hB2 hv K hK => ?_)
      · rw [vi_rs_o (by omega), vi_rs_o (by omega)]
      · rw [vi_rs_o (by decide), vi_rs_o (by decide), vi_rs_o (by decide), vi_rs_o (by decide)]; exact o1
      · rw [vi_rs_o (by decide), vi_rs_s, vi_rs_s]; exact rOK_add o2
      · rw [vi_rs_o (by decide), vi_rs_o (by decide), vi_rs_o (by decide), vi_rs_o (by decide)]; exact o3
      · obtain ⟨e1, e2, e3⟩ := rRw_e.mp cR'
        refine rRw_e.mpr ⟨mAr_E e1 hl7, by rw [List.length_append]; show LR.length + 1 ≤ 8; omega, fun w hw => ?_⟩
        rw [ho 96 (by omega) (by omega), ho 97 (by omega) (by omega), ho 98 (by omega) (by omega)]
        rcases List.mem_append.mp hw with hw | hw
        · exact e3 w hw
        · rw [List.mem_singleton.mp hw]; exact hp
      · rw [vi_rs_o (by decide), vi_rs_o (by decide)]; exact cD
      · rw [vi_rs_o (by decide), vi_rs_o (by decide)]; exact cC
      · rw [vi_rs_o (by decide), vi_rs_o (by decide)]; exact cZ
      · rw [vi_rs_o (by decide), vi_rs_o (by decide), vi_rs_o (by decide), vi_rs_o (by decide)]; exact cL
      · rw [vi_u_s, vi_u_o (by decide), vi_u_s]
      · rw [vi_u_o (by decide)]
      · rw [vi_u_o (by omega), vi_u_o (by omega)]
      · rw [vi_u_s]
      · have k152 : ∀ K : Option vi_V → vi_W → Prop, vi_call GG (d + 69) 152 [.inr (.inr 33), .inl b, .inl u, .inl v, .inl x, .inl 0, .inl 0] (Y, M, nn) K ↔ K none (Y, vi_rs (vi_rs M 33 (vi_u (M 33) 2 ((LR.length + 1 : Nat) : Int))) 34 (rPut (M 34) LR.length (vV b u v x 0 0)), nn) := fun K => @k_152 (d + 67) 33 8 K Y M nn kr LR.length hr0 (by omega) b u v x 0 0
        have e29 : vi_rs (vi_rs M 33 (vi_u (M 33) 2 ((LR.length + 1 : Nat) : Int))) 34 (rPut (M 34) LR.length (vV b u v x 0 0)) 29 = M 29 := by rw [vi_rs_o (by decide), vi_rs_o (by decide)]
        have e33 : vi_rs (vi_rs M 33 (vi_u (M 33) 2 ((LR.length + 1 : Nat) : Int))) 34 (rPut (M 34) LR.length (vV b u v x 0 0)) 33 2 = ((LR.length + 1 : Nat) : Int) := by rw [vi_rs_o (by decide), vi_rs_s, vi_u_s]
        clear c1 c3 c4 cZ cH cR' cS cD cC cL o1 o2 o3 hW hbd ho
        generalize vi_rs (vi_rs M 33 (vi_u (M 33) 2 ((LR.length + 1 : Nat) : Int))) 34 (rPut (M 34) LR.length (vV b u v x 0 0)) = M1 at *
        have k149 := fun {K : Option vi_V → vi_W → Prop} => @k_149 (d + 68) 33 K (Y, M1, nn) kr.1
        have k227 := fun {K : Option vi_V → vi_W → Prop} => @k_227 (d + 68) Y M1 nn K a1 ((LR.length + 1 : Nat) : Int)
        simp only [Nat.add_assoc, Nat.reduceAdd] at k149 k227
        rw [e33] at k149
        rw [e29] at k227
        simp (disch := omega) only [Option.toList_some, Option.toList_none, List.nil_append, List.cons_append, List.append_nil, true_and, and_true, not_true_eq_false, not_false_eq_true, true_implies, false_implies, implies_true, and_self, Int.reduceLT, Int.reduceLE, Int.reduceEq, Int.reduceNe, Int.reduceAdd, Int.reduceSub, Int.reduceMul, Int.reduceNeg, Int.reduceToNat, Int.toNat_natCast, ↓kk_ck, ↓kk_im, ↓kk_in, e_204, s_204_0, s_204_13, s_204_18, s_204_25, s_204_31, s_204_44, s_204_51, s_204_4, s_204_30, s_204_35, s_204_50, s_204_55, s_204_10, s_204_38, s_204_58, s_204_41, s_204_68, s_204_73, s_204_76, s_204_79, s_204_82, a1, a2, b1, b3, kr.1, k49, k150, k152, k149, vi_bt, vi_bf, ne_eq, k227]
        exact hK
      · rw [k_303 hY hB2 ⟨(mIh_c (M := M) (s := 0) (k := 1) (t := 0) (f2 114 (by omega) (by omega)) ⟨h.1, by omega, by omega, by omega⟩).1, h.2⟩ hl7 (by rw [f2 114 (by omega) (by omega), cR'.1]) hv (by omega), f2 114 (by omega) (by omega), f2 112 (by omega) (by omega)]
        exact hK
  · refine jPair_f (r := -1) hW ht (.inl ⟨rfl, rfl⟩) (fun K hK => ?_) (fun M1 f hB1 hj K hK => ?_)
    · cases hb : mIb (M 114) b u v with
      | false =>
        rw [hb] at k49
        clear c1 c3 c4 cZ cH cR' cS cD cC cL o1 o2 o3 hW hbd hb k150
        simp (disch := omega) only [Option.toList_some, Option.toList_none, List.nil_append, List.cons_append, List.append_nil, true_and, and_true, not_true_eq_false, not_false_eq_true, true_implies, false_implies, implies_true, and_self, Int.reduceLT, Int.reduceLE, Int.reduceEq, Int.reduceNe, Int.reduceAdd, Int.reduceSub, Int.reduceMul, Int.reduceNeg, Int.reduceToNat, Int.toNat_natCast, ↓kk_ck, ↓kk_im, ↓kk_in, e_204, s_204_0, s_204_13, s_204_18, s_204_25, s_204_31, s_204_44, s_204_51, s_204_4, s_204_30, s_204_35, s_204_50, s_204_55, s_204_10, s_204_38, s_204_58, s_204_41, s_204_68, s_204_73, s_204_76, s_204_79, s_204_82, a1, a2, b1, b3, kr.1, k49, k228a, vi_bt, vi_bf, ne_eq]
        exact hK
      | true =>
        rw [hb] at k49
        have hlo : x < 0 ∨ 6 < x := by
          have : ¬ (0 ≤ x ∧ x ≤ 6) := fun q => h ⟨mIb_p.mp hb, q⟩
          omega
        clear c1 c3 c4 cZ cH cR' cS cD cC cL o1 o2 o3 hW hbd hb k150 h
        rcases hlo with hlo | hlo
        · simp (disch := omega) only [Option.toList_some, Option.toList_none, List.nil_append, List.cons_append, List.append_nil, true_and, and_true, not_true_eq_false, not_false_eq_true, true_implies, false_implies, implies_true, and_self, Int.reduceLT, Int.reduceLE, Int.reduceEq, Int.reduceNe, Int.reduceAdd, Int.reduceSub, Int.reduceMul, Int.reduceNeg, Int.reduceToNat, Int.toNat_natCast, ↓kk_ck, ↓kk_im, ↓kk_in, e_204, s_204_0, s_204_13, s_204_18, s_204_25, s_204_31, s_204_44, s_204_51, s_204_4, s_204_30, s_204_35, s_204_50, s_204_55, s_204_10, s_204_38, s_204_58, s_204_41, s_204_68, s_204_73, s_204_76, s_204_79, s_204_82, a1, a2, b1, b3, kr.1, k49, k228a, vi_bt, vi_bf, ne_eq]
          exact hK
        · simp (disch := omega) only [Option.toList_some, Option.toList_none, List.nil_append, List.cons_append, List.append_nil, true_and, and_true, not_true_eq_false, not_false_eq_true, true_implies, false_implies, implies_true, and_self, Int.reduceLT, Int.reduceLE, Int.reduceEq, Int.reduceNe, Int.reduceAdd, Int.reduceSub, Int.reduceMul, Int.reduceNeg, Int.reduceToNat, Int.toNat_natCast, ↓kk_ck, ↓kk_im, ↓kk_in, e_204, s_204_0, s_204_13, s_204_18, s_204_25, s_204_31, s_204_44, s_204_51, s_204_4, s_204_30, s_204_35, s_204_50, s_204_55, s_204_10, s_204_38, s_204_58, s_204_41, s_204_68, s_204_73, s_204_76, s_204_79, s_204_82, a1, a2, b1, b3, kr.1, k49, k228a, vi_bt, vi_bf, ne_eq]
          exact hK
    · rw [k_303n hY hB1 (fun q => h ⟨(mIh_c (s := 0) (k := 1) (t := 0) (f 114 (by decide) (by decide)).symm ⟨q.1, by omega, by omega, by omega⟩).1, q.2⟩) hj (by omega)]
      exact hK
theorem p_205 (hW : jW sc ln t a CS lw n Y M nn) (ht : t < 1000) : jPair sc ln t (d + 70) 205 304 [] (Y, M, nn) := by
  have hY := hW.1.1
  have h9 := hW.1.2.1
  obtain ⟨LH, LR, LS, c1, c2, c3, c4⟩ := hW.2.2.2.1
  obtain ⟨⟨o1, o2, o3⟩, cH, cR', cS, cD, cC, cZ, cL⟩ := c1
  obtain ⟨a1, a2, a3, a4, a5, a6, a7, a8, a9, a10, a11, a12⟩ := y_29 h9
  obtain ⟨b1, b2, b3, b4, -⟩ := y_30 hY (by omega)
  have kr := kR_33 hY (by omega)
  have ho : ∀ k, k ≠ 293 → vi_u (M 114) 293 0 k = M 114 k := fun k hk => vi_u_o hk
  refine jPair_n (M1 := vi_rs M 33 (vi_u (M 33) 2 0)) (x := .inl (M 33 2)) (f' := vi_u (M 114) 293 0) (g29 := M 29) (g112 := vi_u (M 112) 1 (M 112 1 + 1)) (LH := LH) (LR := []) (LS := LS) hW ht (fun q hq => ?_) ⟨⟨?_, ?_, ?_⟩, rHs_c cH fun k hk => ho k (by omega), ?_, rSc_c cS fun k hk => ho k (by omega), rDk_c ?_ fun k hk => ho k (by omega), rCt_c ?_ fun k hk => ho k (by omega), rSz_c ?_ fun k hk => ho k (by omega), rLw_c ?_ fun k hk => ho k (by omega)⟩ c2 (fun k hk => ho k (by omega)) ?_ rfl (fun k hk => ?_) ?_ (fun K hK => ?_) (fun M2 f2 hB2 hv K hK => ?_)
  · rw [vi_rs_o (by omega)]
  · rw [vi_rs_o (by decide), vi_rs_o (by decide)]; exact o1
  · rw [vi_rs_s, vi_rs_o (by decide)]; exact ⟨by rw [vi_u_s]; rfl, fun r j hr => absurd hr (Nat.not_lt_zero _)⟩
  · rw [vi_rs_o (by decide), vi_rs_o (by decide)]; exact o3
  · exact ⟨by rw [vi_u_s]; rfl, Nat.zero_le _, fun r hr => absurd hr (Nat.not_lt_zero _)⟩
  · rw [vi_rs_o (by decide)]; exact cD
  · rw [vi_rs_o (by decide)]; exact cC
  · rw [vi_rs_o (by decide)]; exact cZ
  · rw [vi_rs_o (by decide), vi_rs_o (by decide)]; exact cL
  · rw [vi_u_o (by decide)]; exact hW.2.2.2.2.2.2.1.1
  · rw [vi_u_o (by omega)]
  · rw [vi_u_s]
  · rw [vi_rs_id (by rw [vi_rs_o (by decide)])] at hK
    have k154 := fun {K : Option vi_V → vi_W → Prop} => @k_154 (d + 68) 33 8 K Y M nn kr
    simp only [Nat.add_assoc, Nat.reduceAdd] at k154
    clear cZ cH cR' cS cD cC cL o1 o2 o3 hW ho
    simp (disch := omega) only [Option.toList_some, Option.toList_none, List.nil_append, List.cons_append, List.append_nil, true_and, and_true, not_true_eq_false, not_false_eq_true, true_implies, false_implies, implies_true, and_self, Int.reduceLT, Int.reduceLE, Int.reduceEq, Int.reduceNe, Int.reduceAdd, Int.reduceSub, Int.reduceMul, Int.reduceNeg, Int.reduceToNat, Int.toNat_natCast, ↓kk_ck, ↓kk_im, ↓kk_in, e_205, s_205_0, s_205_4, s_205_7, s_205_10, a1, a2, b1, b3, kr.1, k154, ne_eq]
    exact hK
  · rw [o2.1, ← cR'.1] at hK
    rw [k_304 hY hv (by omega), f2 114 (by omega) (by omega), f2 112 (by omega) (by omega)]
    exact hK
theorem p_216 (hW : jW sc ln t a CS lw n Y M nn) (ht : t < 1000) : jPair sc ln t (d + 70) 216 341 [] (Y, M, nn) := by
  have hY := hW.1.1
  have h9 := hW.1.2.1
  obtain ⟨LH, LR, LS, c1, c2, c3, c4⟩ := hW.2.2.2.1
  obtain ⟨⟨o1, o2, o3⟩, cH, cR', cS, cD, cC, cZ, cL⟩ := c1
  obtain ⟨a1, a2, a3, a4, a5, a6, a7, a8, a9, a10, a11, a12⟩ := y_29 h9
  obtain ⟨b1, b2, b3, b4, -⟩ := y_30 hY (by omega)
  have kr := kR_35 hY (by omega)
  have ho : ∀ k, k ≠ 294 → vi_u (M 114) 294 0 k = M 114 k := fun k hk => vi_u_o hk
  refine jPair_n (M1 := vi_rs M 35 (vi_u (M 35) 2 0)) (x := .inl (M 35 2)) (f' := vi_u (M 114) 294 0) (g29 := M 29) (g112 := vi_u (M 112) 1 (M 112 1 + 1)) (LH := LH) (LR := LR) (LS := []) hW ht (fun q hq => ?_) ⟨⟨?_, ?_, ?_⟩, rHs_c cH fun k hk => ho k (by omega), rRw_c cR' fun k hk => ho k (by omega), ?_, rDk_c ?_ fun k hk => ho k (by omega), rCt_c ?_ fun k hk => ho k (by omega), rSz_c ?_ fun k hk => ho k (by omega), rLw_c ?_ fun k hk => ho k (by omega)⟩ c2 (fun k hk => ho k (by omega)) ?_ rfl (fun k hk => ?_) ?_ (fun K hK => ?_) (fun M2 f2 hB2 hv K hK => ?_)
  · rw [vi_rs_o (by omega)]
  · rw [vi_rs_o (by decide), vi_rs_o (by decide)]; exact o1
  · rw [vi_rs_o (by decide), vi_rs_o (by decide)]; exact o2
  · rw [vi_rs_s, vi_rs_o (by decide)]; exact ⟨by rw [vi_u_s]; rfl, fun r j hr => absurd hr (Nat.not_lt_zero _)⟩
  · exact ⟨by rw [vi_u_s]; rfl, Nat.zero_le _, fun r hr => absurd hr (Nat.not_lt_zero _)⟩
  · rw [vi_rs_o (by decide)]; exact cD
  · rw [vi_rs_o (by decide)]; exact cC
  · rw [vi_rs_o (by decide)]; exact cZ
  · rw [vi_rs_o (by decide), vi_rs_o (by decide)]; exact cL
  · rw [vi_u_o (by decide)]; exact hW.2.2.2.2.2.2.1.1
  · rw [vi_u_o (by omega)]
  · rw [vi_u_s]
  · rw [vi_rs_id (by rw [vi_rs_o (by decide)])] at hK
    have k154 := fun {K : Option vi_V → vi_W → Prop} => @k_154 (d + 68) 35 8 K Y M nn kr
    simp only [Nat.add_assoc, Nat.reduceAdd] at k154
    clear cZ cH cR' cS cD cC cL o1 o2 o3 hW ho
    simp (disch := omega) only [Option.toList_some, Option.toList_none, List.nil_append, List.cons_append, List.append_nil, true_and, and_true, not_true_eq_false, not_false_eq_true, true_implies, false_implies, implies_true, and_self, Int.reduceLT, Int.reduceLE, Int.reduceEq, Int.reduceNe, Int.reduceAdd, Int.reduceSub, Int.reduceMul, Int.reduceNeg, Int.reduceToNat, Int.toNat_natCast, ↓kk_ck, ↓kk_im, ↓kk_in, e_216, s_216_0, s_216_4, s_216_7, s_216_10, a1, a2, b1, b4, kr.1, k154, ne_eq]
    exact hK
  · rw [o3.1, ← cS.1] at hK
    rw [k_341 hY hv (by omega), f2 114 (by omega) (by omega), f2 112 (by omega) (by omega)]
    exact hK
theorem p_215 (hW : jW sc ln t a CS lw n Y M nn) (ht : t < 1000) {b u v x y : Int} : jPair sc ln t (d + 70) 215 340 [.inl b, .inl u, .inl v, .inl x, .inl y] (Y, M, nn) := by
  have hY := hW.1.1
  have h9 := hW.1.2.1
  have hbd := jW_b hW ht
  obtain ⟨LH, LR, LS, c1, c2, c3, c4⟩ := hW.2.2.2.1
  have c1' := c1
  obtain ⟨⟨o1, o2, o3⟩, cH, cR', cS, cD, cC, cZ, cL⟩ := c1'
  obtain ⟨a1, a2, a3, a4, a5, a6, a7, a8, a9, a10, a11, a12⟩ := y_29 h9
  obtain ⟨b1, b2, b3, b4, -⟩ := y_30 hY (by omega)
  have kr := kR_35 hY (by omega)
  have k50 := fun {K : Option vi_V → vi_W → Prop} => @k_50 (d + 66) 30 K Y M nn b1 b u v x y
  have k150 := fun {K : Option vi_V → vi_W → Prop} => @k_150 (d + 68) 35 8 K Y M nn kr
  have k228a := fun {K : Option vi_V → vi_W → Prop} => @k_228_1 (d + 68) Y M nn K hY h9 (hbd.1 0 (by omega))
  have k228e := fun {K : Option vi_V → vi_W → Prop} => @k_228_5 (d + 68) Y M nn K hY h9 (hbd.1 3 (by omega))
  simp only [Nat.add_assoc, Nat.reduceAdd] at k50 k150 k228a k228e
  have hr0 : M 35 2 = (LS.length : Int) := o3.1
  rw [hr0] at k150
  have hl := cS.2.1
  have hB : mBx M := hW.2.2.2.2.1.1.1
  by_cases h : mIh M b u v x y 0
  · have hb := (poke_b cZ (b := b) (u := u) (v := v) (e := x) (p := y)).mpr ⟨mIb_p.mpr h.1, h.2.1, h.2.2.1⟩
    rw [hb] at k50
    by_cases hf : LS.length = 8
    · refine jPair_f (r := -5) hW ht (.inr (.inr (.inr (.inl ⟨rfl, rfl⟩)))) (fun K hK => ?_) (fun M1 f hB1 hj K hK => ?_)
      · rw [decide_eq_true (by omega)] at k150
        clear c1 c3 c4 cZ cH cR' cS cD cC cL o1 o2 o3 hW hbd
        simp (disch := omega) only [Option.toList_some, Option.toList_none, List.nil_append, List.cons_append, List.append_nil, true_and, and_true, not_true_eq_false, not_false_eq_true, true_implies, false_implies, implies_true, and_self, Int.reduceLT, Int.reduceLE, Int.reduceEq, Int.reduceNe, Int.reduceAdd, Int.reduceSub, Int.reduceMul, Int.reduceNeg, Int.reduceToNat, Int.toNat_natCast, ↓kk_ck, ↓kk_im, ↓kk_in, e_215, s_215_0, s_215_17, s_215_23, s_215_36, s_215_43, s_215_4, s_215_22, s_215_27, s_215_42, s_215_47, s_215_14, s_215_30, s_215_50, s_215_33, s_215_61, s_215_66, s_215_69, s_215_72, s_215_75, a1, a2, b1, b4, kr.1, k50, k150, k228e, vi_bt, vi_bf, ne_eq]
        exact hK
      · rw [k_340x hY hB1 (mIh_c (f 114 (by decide) (by decide)) h) (by rw [f 114 (by decide) (by decide), cS.1, hf]; rfl) hj (by omega)]
        exact hK
    · rw [decide_eq_false (by omega)] at k150
      have hl7 : LS.length ≤ 7 := by omega
      have hp : gPl (M 114 96) (M 114 97) (M 114 98) b u v = true := by rw [← hc_ib]; exact mIb_p.mpr h.1
      have hr := mIp_r (M := M) hB h.1
      have ho : ∀ k, (k < 132 ∨ 172 ≤ k) → k ≠ 294 → mAs (M 114) LS.length b u v x y k = M 114 k := fun k => mAs_o hl7
      refine jPair_n (M1 := vi_rs (vi_rs M 35 (vi_u (M 35) 2 ((LS.length + 1 : Nat) : Int))) 36 (rPut (M 36) LS.length (vV b u v x y 0))) (x := .inl ((LS.length + 1 : Nat) : Int)) (f' := mAs (M 114) LS.length b u v x y) (g29 := vi_u (M 29) 11 0) (g112 := vi_u (vi_u (M 112) 0 0) 1 (M 112 1 + 1)) (LH := LH) (LR := LR) (LS := LS ++ [vV b u v x y 0]) hW ht (fun q hq => ?_) ⟨⟨?_, ?_, ?_⟩, rHs_c cH fun k hk => ho k (by omega) (by omega), rRw_c cR' fun k hk => ho k (by omega) (by omega), ?_, rDk_c ?_ fun k hk => ho k (by omega) (by omega), rCt_c ?_ fun k hk => ho k (by omega) (by omega), rSz_c ?_ fun k hk => ho k (by omega) (by omega), rLw_c ?_ fun k hk => ho k (by omega) (by omega)⟩ c2 (fun k hk => ho k (by omega) (by omega)) ?_ ?_ (fun k hk => ?_) ?_ (fun K hK => ?_) (fun M2 f2 hB2 hv K hK => ?_)
      · rw [vi_rs_o (by omega), vi_rs_o (by omega)]
      · rw [vi_rs_o (by decide), vi_rs_o (by decide), vi_rs_o (by decide), vi_rs_o (by decide)]; exact o1
      · rw [vi_rs_o (by decide), vi_rs_o (by decide), vi_rs_o (by decide), vi_rs_o (by decide)]; exact o2
      · rw [vi_rs_o (by decide), vi_rs_s, vi_rs_s]; exact rOK_add o3
      · obtain ⟨e1, e2, e3⟩ := rSc_e.mp cS
        refine rSc_e.mpr ⟨mAs_E e1 hl7, by rw [List.length_append]; show LS.length + 1 ≤ 8; omega, fun w hw => ?_⟩
        rw [ho 96 (by omega) (by omega), ho 97 (by omega) (by omega), ho 98 (by omega) (by omega)]
        rcases List.mem_append.mp hw with hw | hw
        · exact e3 w hw
        · rw [List.mem_singleton.mp hw]
          refine ⟨?_, rfl, hp⟩
          show (0 ≤ b ∧ b ≤ 2) ∧ (0 ≤ u ∧ u < 6) ∧ (0 ≤ v ∧ v < 6) ∧ (0 ≤ x ∧ x ≤ 1) ∧ (1 ≤ y ∧ y ≤ 6) ∧ (-1 ≤ (0 : Int) ∧ (0 : Int) ≤ 1)
          exact ⟨hr.1, hr.2.1, hr.2.2, h.2.1, h.2.2.1, by decide, by decide⟩
      · rw [vi_rs_o (by decide), vi_rs_o (by decide)]; exact cD
      · rw [vi_rs_o (by decide), vi_rs_o (by decide)]; exact cC
      · rw [vi_rs_o (by decide), vi_rs_o (by decide)]; exact cZ
      · rw [vi_rs_o (by decide), vi_rs_o (by decide), vi_rs_o (by decide), vi_rs_o (by decide)]; exact cL
      · rw [vi_u_s, vi_u_o (by decide), vi_u_s]
      · rw [vi_u_o (by decide)]
      · rw [vi_u_o (by omega), vi_u_o (by omega)]
      · rw [vi_u_s]
      · have k152 : ∀ K : Option vi_V → vi_W → Prop, vi_call GG (d + 69) 152 [.inr (.inr 35), .inl b, .inl u, .inl v, .inl x, .inl y, .inl 0] (Y, M, nn) K ↔ K none (Y, vi_rs (vi_rs M 35 (vi_u (M 35) 2 ((LS.length + 1 : Nat) : Int))) 36 (rPut (M 36) LS.length (vV b u v x y 0)), nn) := fun K => @k_152 (d + 67) 35 8 K Y M nn kr LS.length hr0 (by omega) b u v x y 0
        have e29 : vi_rs (vi_rs M 35 (vi_u (M 35) 2 ((LS.length + 1 : Nat) : Int))) 36 (rPut (M 36) LS.length (vV b u v x y 0)) 29 = M 29 := by rw [vi_rs_o (by decide), vi_rs_o (by decide)]
        have e33 : vi_rs (vi_rs M 35 (vi_u (M 35) 2 ((LS.length + 1 : Nat) : Int))) 36 (rPut (M 36) LS.length (vV b u v x y 0)) 35 2 = ((LS.length + 1 : Nat) : Int) := by rw [vi_rs_o (by decide), vi_rs_s, vi_u_s]
        clear c1 c3 c4 cZ cH cR' cS cD cC cL o1 o2 o3 hW hbd ho
        generalize vi_rs (vi_rs M 35 (vi_u (M 35) 2 ((LS.length + 1 : Nat) : Int))) 36 (rPut (M 36) LS.length (vV b u v x y 0)) = M1 at *
        have k149 := fun {K : Option vi_V → vi_W → Prop} => @k_149 (d + 68) 35 K (Y, M1, nn) kr.1
        have k227 := fun {K : Option vi_V → vi_W → Prop} => @k_227 (d + 68) Y M1 nn K a1 ((LS.length + 1 : Nat) : Int)
        simp only [Nat.add_assoc, Nat.reduceAdd] at k149 k227
        rw [e33] at k149
        rw [e29] at k227
        simp (disch := omega) only [Option.toList_some, Option.toList_none, List.nil_append, List.cons_append, List.append_nil, true_and, and_true, not_true_eq_false, not_false_eq_true, true_implies, false_implies, implies_true, and_self, Int.reduceLT, Int.reduceLE, Int.reduceEq, Int.reduceNe, Int.reduceAdd, Int.reduceSub, Int.reduceMul, Int.reduceNeg, Int.reduceToNat, Int.toNat_natCast, ↓kk_ck, ↓kk_im, ↓kk_in, e_215, s_215_0, s_215_17, s_215_23, s_215_36, s_215_43, s_215_4, s_215_22, s_215_27, s_215_42, s_215_47, s_215_14, s_215_30, s_215_50, s_215_33, s_215_61, s_215_66, s_215_69, s_215_72, s_215_75, a1, a2, b1, b4, kr.1, k50, k150, k152, k149, vi_bt, vi_bf, ne_eq, k227]
        exact hK
      · rw [k_340 hY hB2 (mIh_c (f2 114 (by omega) (by omega)) h) hl7 (by rw [f2 114 (by omega) (by omega), cS.1]) hv (by omega), f2 114 (by omega) (by omega), f2 112 (by omega) (by omega)]
        exact hK
  · refine jPair_f (r := -1) hW ht (.inl ⟨rfl, rfl⟩) (fun K hK => ?_) (fun M1 f hB1 hj K hK => ?_)
    · cases hb : (gPl (M 30 8) (M 30 9) (M 30 10) b u v && decide (0 ≤ x ∧ x ≤ 1 ∧ 1 ≤ y ∧ y ≤ 6)) with
      | false =>
        rw [hb] at k50
        clear c1 c3 c4 cZ cH cR' cS cD cC cL o1 o2 o3 hW hbd hb k150
        simp (disch := omega) only [Option.toList_some, Option.toList_none, List.nil_append, List.cons_append, List.append_nil, true_and, and_true, not_true_eq_false, not_false_eq_true, true_implies, false_implies, implies_true, and_self, Int.reduceLT, Int.reduceLE, Int.reduceEq, Int.reduceNe, Int.reduceAdd, Int.reduceSub, Int.reduceMul, Int.reduceNeg, Int.reduceToNat, Int.toNat_natCast, ↓kk_ck, ↓kk_im, ↓kk_in, e_215, s_215_0, s_215_17, s_215_23, s_215_36, s_215_43, s_215_4, s_215_22, s_215_27, s_215_42, s_215_47, s_215_14, s_215_30, s_215_50, s_215_33, s_215_61, s_215_66, s_215_69, s_215_72, s_215_75, a1, a2, b1, b4, kr.1, k50, k228a, vi_bt, vi_bf, ne_eq]
        exact hK
      | true =>
        have h2 := (poke_b cZ).mp hb
        exact absurd ⟨mIb_p.mp h2.1, h2.2.1, h2.2.2, by decide, by decide⟩ h
    · rw [k_340n hY hB1 (fun q => h (mIh_c (f 114 (by decide) (by decide)).symm q)) hj (by omega)]
      exact hK
end
