/-! Pairs: cell, slice. -/
def ceV (f : Nat → Int) (lw : Option (List gCla)) (n : Nat) (c x : Int) : Int := if mIcb f c = true then (if x = 0 then vi_b (lfS f lw n c.toNat) else if x = 1 then (tlS f lw n c.toNat).2.2 else if x = 2 then vi_b (shS f lw n c.toNat) else if x = 3 then mAt f c n else -1) else -1
theorem gCl_f {f g : Nat → Int} (hs : rSz f g) {c : Int} : gCl (g 8) (g 9) (g 10) c = mIcb f c := by
  obtain ⟨s1, s2, s3, -⟩ := hs
  unfold gCl mIcb
  rw [s1, s2, s3, decide_eq_decide]
  omega
theorem gPl_f {f g : Nat → Int} (hs : rSz f g) {a u v : Int} : gPl (g 8) (g 9) (g 10) a u v = mIb f a u v := by
  obtain ⟨s1, s2, s3, -⟩ := hs
  rw [s1, s2, s3, hc_ib]
section
variable {sc : Nat → Int} {ln t a n d : Nat} {CS : Nat → List gCla} {lw : Option (List gCla)} {Y : vi_Y} {M : vi_M} {nn : Nat × Nat} {K : Option vi_V → vi_W → Prop}
theorem k_200 (hY : kY Y 112) (h9 : kY9 Y) {f : Nat → Int} (hs : rSz f (M 30)) (hV : jV M f lw n) {c x : Int} : vi_call GG (d + 70) 200 [.inr (.inr 29), .inl c, .inl x] (Y, M, nn) K ↔ K (some (.inl (ceV f lw n c x))) (Y, M, nn) := by
  obtain ⟨a1, a2, a3, a4, a5, a6, a7, a8, a9, a10, a11, a12⟩ := y_29 h9
  obtain ⟨b1, -⟩ := y_30 hY (by omega)
  obtain ⟨c1, c2, c3, c4, c5, c6, c7, c8, c9⟩ := y_60 hY (by omega)
  have p1 := kC_65 hY (by omega)
  have p2 := kC_67 hY (by omega)
  obtain ⟨v1, v2, v3, v4, v5⟩ := hV
  refine vi_k (r := some (.inl _)) fun Q hQ => ?_
  have g := gCl_f hs (c := c)
  unfold ceV at hQ
  by_cases hc : mIcb f c = true
  · rw [if_pos hc] at hQ
    have hc' := of_decide_eq_true hc
    obtain ⟨k, rfl⟩ : ∃ k : Nat, c = (k : Int) := ⟨c.toNat, by omega⟩
    rw [Int.toNat_natCast] at hQ
    have hk : k < 216 := by omega
    have h5 := fun {K : Option vi_V → vi_W → Prop} => @k_5 (d + 67) 65 K Y M nn _ p1 v4 (k : Int)
    have h6 := fun {K : Option vi_V → vi_W → Prop} => @k_5 (d + 67) 67 K Y M nn _ p2 v5 (k : Int)
    rw [sHas_n hk] at h5 h6
    simp only [Nat.add_assoc, Nat.reduceAdd] at h5 h6
    have w1 := v1 k hk
    have w2 := v2 k hk hc
    rw [hc] at g
    clear hc' hc v1 v2 v3 v4 v5 hs
    by_cases h0 : x = 0
    · subst h0
      rw [if_pos rfl] at hQ
      cases hb : lfS f lw n k <;> rw [hb] at hQ h5
      · simp (disch := omega) only [Option.toList_some, Option.toList_none, List.nil_append, List.cons_append, List.append_nil, true_and, and_true, not_true_eq_false, not_false_eq_true, true_implies, false_implies, implies_true, and_self, Int.reduceLT, Int.reduceLE, Int.reduceEq, Int.reduceNe, Int.reduceAdd, Int.reduceSub, Int.reduceMul, Int.reduceNeg, Int.reduceToNat, Int.toNat_natCast, ↓kk_ck, ↓kk_im, ↓kk_in, e_200, s_200_0, s_200_11, s_200_13, s_200_44, s_200_58, s_200_62, s_200_63, s_200_64, s_200_73, s_200_87, s_200_91, s_200_92, s_200_93, s_200_102, s_200_4, s_200_48, s_200_68, s_200_77, s_200_97, s_200_8, s_200_51, s_200_72, s_200_80, s_200_101, s_200_55, s_200_84, a1, a2, a5, b1, k_51 b1, g, vi_bt, vi_bf, vi_swp, c1, c6, p1.1, e_26, s_26_0, s_26_4, h5, ne_eq]
        exact hQ
      · simp (disch := omega) only [Option.toList_some, Option.toList_none, List.nil_append, List.cons_append, List.append_nil, true_and, and_true, not_true_eq_false, not_false_eq_true, true_implies, false_implies, implies_true, and_self, Int.reduceLT, Int.reduceLE, Int.reduceEq, Int.reduceNe, Int.reduceAdd, Int.reduceSub, Int.reduceMul, Int.reduceNeg, Int.reduceToNat, Int.toNat_natCast, ↓kk_ck, ↓kk_im, ↓kk_in, e_200, s_200_0, s_200_11, s_200_13, s_200_44, s_200_58, s_200_62, s_200_63, s_200_64, s_200_73, s_200_87, s_200_91, s_200_92, s_200_93, s_200_102, s_200_4, s_200_48, s_200_68, s_200_77, s_200_97, s_200_8, s_200_51, s_200_72, s_200_80, s_200_101, s_200_55, s_200_84, a1, a2, a5, b1, k_51 b1, g, vi_bt, vi_bf, vi_swp, c1, c6, p1.1, e_26, s_26_0, s_26_4, h5, ne_eq]
        exact hQ
    · rw [if_neg h0] at hQ
      by_cases h1 : x = 1
      · subst h1
        rw [if_pos rfl, ← w2] at hQ
        simp (disch := omega) only [Option.toList_some, Option.toList_none, List.nil_append, List.cons_append, List.append_nil, true_and, and_true, not_true_eq_false, not_false_eq_true, true_implies, false_implies, implies_true, and_self, Int.reduceLT, Int.reduceLE, Int.reduceEq, Int.reduceNe, Int.reduceAdd, Int.reduceSub, Int.reduceMul, Int.reduceNeg, Int.reduceToNat, Int.toNat_natCast, ↓kk_ck, ↓kk_im, ↓kk_in, e_200, s_200_0, s_200_11, s_200_13, s_200_44, s_200_58, s_200_62, s_200_63, s_200_64, s_200_73, s_200_87, s_200_91, s_200_92, s_200_93, s_200_102, s_200_4, s_200_48, s_200_68, s_200_77, s_200_97, s_200_8, s_200_51, s_200_72, s_200_80, s_200_101, s_200_55, s_200_84, a1, a2, a5, b1, k_51 b1, g, vi_bt, vi_bf, vi_swp, c1, k_29 (kY_le hY (show 73 ≤ 112 by omega)) hk, ne_eq]
        exact hQ
      · rw [if_neg h1] at hQ
        by_cases h2 : x = 2
        · subst h2
          rw [if_pos rfl] at hQ
          cases hb : shS f lw n k <;> rw [hb] at hQ h6
          · simp (disch := omega) only [Option.toList_some, Option.toList_none, List.nil_append, List.cons_append, List.append_nil, true_and, and_true, not_true_eq_false, not_false_eq_true, true_implies, false_implies, implies_true, and_self, Int.reduceLT, Int.reduceLE, Int.reduceEq, Int.reduceNe, Int.reduceAdd, Int.reduceSub, Int.reduceMul, Int.reduceNeg, Int.reduceToNat, Int.toNat_natCast, ↓kk_ck, ↓kk_im, ↓kk_in, e_200, s_200_0, s_200_11, s_200_13, s_200_44, s_200_58, s_200_62, s_200_63, s_200_64, s_200_73, s_200_87, s_200_91, s_200_92, s_200_93, s_200_102, s_200_4, s_200_48, s_200_68, s_200_77, s_200_97, s_200_8, s_200_51, s_200_72, s_200_80, s_200_101, s_200_55, s_200_84, a1, a2, a5, b1, k_51 b1, g, vi_bt, vi_bf, vi_swp, c1, c7, p2.1, e_27, s_27_0, s_27_4, h6, ne_eq]
            exact hQ
          · simp (disch := omega) only [Option.toList_some, Option.toList_none, List.nil_append, List.cons_append, List.append_nil, true_and, and_true, not_true_eq_false, not_false_eq_true, true_implies, false_implies, implies_true, and_self, Int.reduceLT, Int.reduceLE, Int.reduceEq, Int.reduceNe, Int.reduceAdd, Int.reduceSub, Int.reduceMul, Int.reduceNeg, Int.reduceToNat, Int.toNat_natCast, ↓kk_ck, ↓kk_im, ↓kk_in, e_200, s_200_0, s_200_11, s_200_13, s_200_44, s_200_58, s_200_62, s_200_63, s_200_64, s_200_73, s_200_87, s_200_91, s_200_92, s_200_93, s_200_102, s_200_4, s_200_48, s_200_68, s_200_77, s_200_97, s_200_8, s_200_51, s_200_72, s_200_80, s_200_101, s_200_55, s_200_84, a1, a2, a5, b1, k_51 b1, g, vi_bt, vi_bf, vi_swp, c1, c7, p2.1, e_27, s_27_0, s_27_4, h6, ne_eq]
            exact hQ
        · rw [if_neg h2] at hQ
          by_cases h3 : x = 3
          · subst h3
            rw [if_pos rfl, ← w1] at hQ
            simp (disch := omega) only [Option.toList_some, Option.toList_none, List.nil_append, List.cons_append, List.append_nil, true_and, and_true, not_true_eq_false, not_false_eq_true, true_implies, false_implies, implies_true, and_self, Int.reduceLT, Int.reduceLE, Int.reduceEq, Int.reduceNe, Int.reduceAdd, Int.reduceSub, Int.reduceMul, Int.reduceNeg, Int.reduceToNat, Int.toNat_natCast, ↓kk_ck, ↓kk_im, ↓kk_in, e_200, s_200_0, s_200_11, s_200_13, s_200_44, s_200_58, s_200_62, s_200_63, s_200_64, s_200_73, s_200_87, s_200_91, s_200_92, s_200_93, s_200_102, s_200_4, s_200_48, s_200_68, s_200_77, s_200_97, s_200_8, s_200_51, s_200_72, s_200_80, s_200_101, s_200_55, s_200_84, a1, a2, a5, b1, k_51 b1, g, vi_bt, vi_bf, vi_swp, c1, k_28 (kY_le hY (show 73 ≤ 112 by omega)) hk, ne_eq]
            exact hQ
          · rw [if_neg h3] at hQ
            simp (disch := omega) only [Option.toList_some, Option.toList_none, List.nil_append, List.cons_append, List.append_nil, true_and, and_true, not_true_eq_false, not_false_eq_true, true_implies, false_implies, implies_true, and_self, Int.reduceLT, Int.reduceLE, Int.reduceEq, Int.reduceNe, Int.reduceAdd, Int.reduceSub, Int.reduceMul, Int.reduceNeg, Int.reduceToNat, Int.toNat_natCast, ↓kk_ck, ↓kk_im, ↓kk_in, e_200, s_200_0, s_200_11, s_200_13, s_200_44, s_200_58, s_200_62, s_200_63, s_200_64, s_200_73, s_200_87, s_200_91, s_200_92, s_200_93, s_200_102, s_200_4, s_200_48, s_200_68, s_200_77, s_200_97, s_200_8, s_200_51, s_200_72, s_200_80, s_200_101, s_200_55, s_200_84, a1, a2, a5, b1, k_51 b1, g, vi_bt, vi_bf, vi_swp, h0, h1, h2, h3, ne_eq]
            exact hQ
  · rw [if_neg hc] at hQ
    rw [Bool.eq_false_iff.mpr hc] at g
    clear hc v1 v2 v3 v4 v5 hs
    simp (disch := omega) only [Option.toList_some, Option.toList_none, List.nil_append, List.cons_append, List.append_nil, true_and, and_true, not_true_eq_false, not_false_eq_true, true_implies, false_implies, implies_true, and_self, Int.reduceLT, Int.reduceLE, Int.reduceEq, Int.reduceNe, Int.reduceAdd, Int.reduceSub, Int.reduceMul, Int.reduceNeg, Int.reduceToNat, Int.toNat_natCast, ↓kk_ck, ↓kk_im, ↓kk_in, e_200, s_200_0, s_200_11, s_200_13, s_200_44, s_200_58, s_200_62, s_200_63, s_200_64, s_200_73, s_200_87, s_200_91, s_200_92, s_200_93, s_200_102, s_200_4, s_200_48, s_200_68, s_200_77, s_200_97, s_200_8, s_200_51, s_200_72, s_200_80, s_200_101, s_200_55, s_200_84, a1, a2, a5, b1, k_51 b1, g, vi_bt, vi_bf, ne_eq]
    exact hQ
/-- how many of a row are LEFT -/
def rwN (f : Nat → Int) (S : Nat → Bool) (b u v : Int) : Nat := sN 6 (fun l => sHas S (gOn (f 96) (f 97) (f 98) b (l : Int) u v))
theorem k_202 (hY : kY Y 112) (h9 : kY9 Y) {f : Nat → Int} (hs : rSz f (M 30)) (hV : jV M f lw n) {b u v : Int} : vi_call GG (d + 70) 202 [.inr (.inr 29), .inl b, .inl u, .inl v] (Y, M, nn) K ↔ K (some (.inl (if mIb f b u v = true then (rwN f (lfS f lw n) b u v : Int) else -1))) (Y, M, nn) := by
  obtain ⟨a1, a2, a3, a4, a5, a6, a7, a8, a9, a10, a11, a12⟩ := y_29 h9
  obtain ⟨b1, -⟩ := y_30 hY (by omega)
  obtain ⟨c1, c2, c3, c4, c5, c6, c7, c8, c9⟩ := y_60 hY (by omega)
  have g := gPl_f hs (a := b) (u := u) (v := v)
  have k49 := fun {K : Option vi_V → vi_W → Prop} => @k_49 (d + 67) 30 K Y M nn b1 b u v
  have hb : gB (M 30 8) (M 30 9) (M 30 10) := by rw [hs.1, hs.2.1, hs.2.2.1]; exact hs.2.2.2.2.1
  have k33 := fun {K : Option vi_V → vi_W → Prop} => @k_33 (d + 66) K Y M nn _ (kY_le hY (show 73 ≤ 112 by omega)) hb hV.2.2.2.1 b u v
  rw [hs.1, hs.2.1, hs.2.2.1] at k33
  simp only [Nat.add_assoc, Nat.reduceAdd] at k33 k49
  refine vi_k (r := some (.inl _)) fun Q hQ => ?_
  rw [g] at k49
  unfold rwN at hQ
  clear hs hV hb
  by_cases h : mIb f b u v = true
  · rw [if_pos h] at hQ
    rw [h] at k49
    simp (disch := omega) only [Option.toList_some, Option.toList_none, List.nil_append, List.cons_append, List.append_nil, true_and, and_true, not_true_eq_false, not_false_eq_true, true_implies, false_implies, implies_true, and_self, Int.reduceLT, Int.reduceLE, Int.reduceEq, Int.reduceNe, Int.reduceAdd, Int.reduceSub, Int.reduceMul, Int.reduceNeg, Int.reduceToNat, Int.toNat_natCast, ↓kk_ck, ↓kk_im, ↓kk_in, e_202, s_202_0, s_202_13, s_202_26, s_202_27, s_202_4, s_202_17, s_202_10, s_202_23, a1, a2, a5, b1, c1, k49, vi_bt, vi_bf, k33, ne_eq]
    exact hQ
  · rw [if_neg h] at hQ
    rw [Bool.eq_false_iff.mpr h] at k49
    simp (disch := omega) only [Option.toList_some, Option.toList_none, List.nil_append, List.cons_append, List.append_nil, true_and, and_true, not_true_eq_false, not_false_eq_true, true_implies, false_implies, implies_true, and_self, Int.reduceLT, Int.reduceLE, Int.reduceEq, Int.reduceNe, Int.reduceAdd, Int.reduceSub, Int.reduceMul, Int.reduceNeg, Int.reduceToNat, Int.toNat_natCast, ↓kk_ck, ↓kk_im, ↓kk_in, e_202, s_202_0, s_202_13, s_202_26, s_202_27, s_202_4, s_202_17, s_202_10, s_202_23, a1, a2, a5, b1, c1, k49, vi_bt, vi_bf, ne_eq]
    exact hQ
end
