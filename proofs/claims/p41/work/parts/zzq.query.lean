/-! Pairs: pieces, ant. -/
theorem sPi_c {i w : Int} : ∀ {f k : Nat} {S T : Nat → Bool}, (∀ c, c < 216 → S c = T c) → sPi f k S i w = sPi f k T i w
  | 0, _, _, _, _ => rfl
  | f + 1, k, S, T, h => by
    rw [sPi, sPi, sE_c h]
    cases he : sE T
    · rw [if_neg Bool.false_ne_true, if_neg Bool.false_ne_true]
      have he' : sE S = false := by rw [sE_c h]; exact he
      obtain ⟨j, h1, h2, h3, h4⟩ := sE_n he'
      rw [← sLo_c h, h4, Int.toNat_natCast, sK_c h1 h, sPi_c (sTl_c he' h)]
    · rw [if_pos rfl, if_pos rfl]
theorem cQ_t {M M1 M2 : vi_M} (h : cQ M M1) (h' : cQ M1 M2) : cQ M M2 := ⟨fun p hp => (h'.1 p hp).trans (h.1 p hp), h'.2.trans h.2⟩
theorem cQ_u {M : vi_M} {q : Nat} {g : Nat → Int} (h : ¬ (q < 70 ∨ q = 73 ∨ q = 74 ∨ q = 79 ∨ 111 ≤ q)) (h77 : q ≠ 77) : cQ M (vi_rs M q g) := ⟨fun p hp => vi_rs_o (by omega), by rw [vi_rs_o (by omega)]⟩
theorem jJ_u {M : vi_M} (h : jJ M) {q : Nat} (hq : q ≠ 88) {S : Nat → Bool} : jJ (vi_rs M q (cR S)) := ⟨fun p hp => by
  by_cases e : p = q
  · rw [e, vi_rs_s]; exact ⟨S, rfl⟩
  · rw [vi_rs_o e]; exact h.1 p hp, by rw [vi_rs_o (by omega)]; exact h.2⟩
theorem jJ_o {M : vi_M} (h : jJ M) {q : Nat} (hq : q ≠ 88) (hc : ¬ jCe q) {g : Nat → Int} : jJ (vi_rs M q g) := ⟨fun p hp => by
  rw [vi_rs_o (fun e => hc (by rw [← e]; exact hp))]; exact h.1 p hp, by rw [vi_rs_o (by omega)]; exact h.2⟩
noncomputable def piV (P : Nat → Bool) (i x : Int) : Int := if i = -1 then (sPc 216 P : Int) else if x = 0 ∨ x = 1 then sPi 216 0 P i x else -1
theorem lcF_c {D D' : Nat → Int} {c : Nat} (hc : c < 216) (h : ∀ c, c < 216 → D c = D' c) : ∀ k w, w + k ≤ 6 → lcF D c k w = lcF D' c k w
  | 0, _, _ => rfl
  | k + 1, w, hw => by
    have hr := sNb_r (c := c) (w := w) hc (by omega)
    rw [lcF, lcF, h c hc, h (sNb c w).toNat (by omega), lcF_c hc h k (w + 1) (by omega)]
theorem lcW_c {D D' : Nat → Int} {a : Nat} (ha : a < 216) (h : ∀ c, c < 216 → D c = D' c) : ∀ k, lcW D a k = lcW D' a k
  | 0 => rfl
  | k + 1 => by
    have := lcW_c ha h k
    rw [lcW, lcW, this]
    unfold lcN
    rw [lcF_c (lcW_lt ha k) h 6 0 (by omega)]
def anV (D : Nat → Int) (a : Nat) (w : Int) : Int := if w = -1 then D a else if D a < w then -1 else (lcW D a w.toNat : Int)
section
variable {sc : Nat → Int} {ln t a n d : Nat} {CS : Nat → List gCla} {lw : Option (List gCla)} {Y : vi_Y} {M : vi_M} {nn : Nat × Nat} {K : Option vi_V → vi_W → Prop}
theorem k_209 (hY : kY Y 112) (h9 : kY9 Y) {P : Nat → Bool} (hP : M 66 = cR P) (hJ : jJ M) {i x : Int} : ∃ M', cQ M M' ∧ jJ M' ∧ ∀ K : Option vi_V → vi_W → Prop, vi_call GG (d + 70) 209 [.inr (.inr 29), .inl i, .inl x] (Y, M, nn) K ↔ K (some (.inl (piV P i x))) (Y, M', nn) := by
  obtain ⟨a1, a2, a3, a4, a5, a6, a7, a8, a9, a10, a11, a12⟩ := y_29 h9
  obtain ⟨c1, -⟩ := y_60 hY (by omega)
  obtain ⟨R, hR⟩ := hJ.1 70 (.inl rfl)
  obtain ⟨T, hT⟩ := hJ.1 72 (.inr (.inl rfl))
  have hY73 := kY_le hY (show 73 ≤ 112 by omega)
  by_cases h1 : i = -1
  · subst h1
    obtain ⟨R', T', k35⟩ := @k_35 (d + 64) Y M nn P R T hY73 hP hR hT
    simp only [Nat.add_assoc, Nat.reduceAdd] at k35
    refine ⟨vi_rs (vi_rs M 70 (cR R')) 72 (cR T'), cQ_t (cQ_u (q := 70) (by omega) (by omega)) (cQ_u (q := 72) (by omega) (by omega)), jJ_u (jJ_u hJ (by omega)) (by omega), fun K => vi_k (r := some (.inl _)) fun Q hQ => ?_⟩
    rw [show piV P (-1) x = (sPc 216 P : Int) from if_pos rfl] at hQ
    simp (disch := omega) only [Option.toList_some, Option.toList_none, List.nil_append, List.cons_append, List.append_nil, true_and, and_true, not_true_eq_false, not_false_eq_true, true_implies, false_implies, implies_true, and_self, Int.reduceLT, Int.reduceLE, Int.reduceEq, Int.reduceNe, Int.reduceAdd, Int.reduceSub, Int.reduceMul, Int.reduceNeg, Int.reduceToNat, Int.toNat_natCast, ↓kk_ck, ↓kk_im, ↓kk_in, e_209, s_209_0, s_209_5, s_209_13, s_209_17, s_209_21, s_209_26, s_209_30, s_209_39, s_209_9, s_209_34, s_209_12, a1, a5, c1, k35, ne_eq]
    exact hQ
  · by_cases h2 : 0 ≤ i ∧ 0 ≤ x ∧ x ≤ 1
    · have hx : x = 0 ∨ x = 1 := by omega
      obtain ⟨R', T', k36⟩ := @k_36 (d + 64) Y M nn P R T hY73 hP hR hT i x hx
      simp only [Nat.add_assoc, Nat.reduceAdd] at k36
      refine ⟨vi_rs (vi_rs M 70 (cR R')) 72 (cR T'), cQ_t (cQ_u (q := 70) (by omega) (by omega)) (cQ_u (q := 72) (by omega) (by omega)), jJ_u (jJ_u hJ (by omega)) (by omega), fun K => vi_k (r := some (.inl _)) fun Q hQ => ?_⟩
      rw [show piV P i x = sPi 216 0 P i x from by unfold piV; rw [if_neg h1, if_pos hx]] at hQ
      clear hx
      simp (disch := omega) only [Option.toList_some, Option.toList_none, List.nil_append, List.cons_append, List.append_nil, true_and, and_true, not_true_eq_false, not_false_eq_true, true_implies, false_implies, implies_true, and_self, Int.reduceLT, Int.reduceLE, Int.reduceEq, Int.reduceNe, Int.reduceAdd, Int.reduceSub, Int.reduceMul, Int.reduceNeg, Int.reduceToNat, Int.toNat_natCast, ↓kk_ck, ↓kk_im, ↓kk_in, e_209, s_209_0, s_209_5, s_209_13, s_209_17, s_209_21, s_209_26, s_209_30, s_209_39, s_209_9, s_209_34, s_209_12, a1, a5, c1, k36, ne_eq, h1]
      exact hQ
    · refine ⟨M, cQ_r, hJ, fun K => vi_k (r := some (.inl _)) fun Q hQ => ?_⟩
      have e : piV P i x = -1 := by
        unfold piV
        rw [if_neg h1]
        by_cases hx : x = 0 ∨ x = 1
        · rw [if_pos hx]; exact sPi_n 216 0 P i x (by omega)
        · rw [if_neg hx]
      rw [e] at hQ
      by_cases e1 : i < 0
      · simp (disch := omega) only [Option.toList_some, Option.toList_none, List.nil_append, List.cons_append, List.append_nil, true_and, and_true, not_true_eq_false, not_false_eq_true, true_implies, false_implies, implies_true, and_self, Int.reduceLT, Int.reduceLE, Int.reduceEq, Int.reduceNe, Int.reduceAdd, Int.reduceSub, Int.reduceMul, Int.reduceNeg, Int.reduceToNat, Int.toNat_natCast, ↓kk_ck, ↓kk_im, ↓kk_in, e_209, s_209_0, s_209_5, s_209_13, s_209_17, s_209_21, s_209_26, s_209_30, s_209_39, s_209_9, s_209_34, s_209_12, a1, ne_eq, h1]
        exact hQ
      · by_cases e2 : x < 0
        · simp (disch := omega) only [Option.toList_some, Option.toList_none, List.nil_append, List.cons_append, List.append_nil, true_and, and_true, not_true_eq_false, not_false_eq_true, true_implies, false_implies, implies_true, and_self, Int.reduceLT, Int.reduceLE, Int.reduceEq, Int.reduceNe, Int.reduceAdd, Int.reduceSub, Int.reduceMul, Int.reduceNeg, Int.reduceToNat, Int.toNat_natCast, ↓kk_ck, ↓kk_im, ↓kk_in, e_209, s_209_0, s_209_5, s_209_13, s_209_17, s_209_21, s_209_26, s_209_30, s_209_39, s_209_9, s_209_34, s_209_12, a1, ne_eq, h1]
          exact hQ
        · simp (disch := omega) only [Option.toList_some, Option.toList_none, List.nil_append, List.cons_append, List.append_nil, true_and, and_true, not_true_eq_false, not_false_eq_true, true_implies, false_implies, implies_true, and_self, Int.reduceLT, Int.reduceLE, Int.reduceEq, Int.reduceNe, Int.reduceAdd, Int.reduceSub, Int.reduceMul, Int.reduceNeg, Int.reduceToNat, Int.toNat_natCast, ↓kk_ck, ↓kk_im, ↓kk_in, e_209, s_209_0, s_209_5, s_209_13, s_209_17, s_209_21, s_209_26, s_209_30, s_209_39, s_209_9, s_209_34, s_209_12, a1, ne_eq, h1]
          exact hQ
theorem k_220 (hY : kY Y 112) (h9 : kY9 Y) {f : Nat → Int} (hs : rSz f (M 30)) (hV : jV M f lw n) (hJ : jJ M) {p q : Nat} {w : Int} (hp : mIcb f (p : Int) = true) (hq : mIcb f (q : Int) = true) (hw : -1 ≤ w) : ∃ (M' : vi_M) (r : Int), cQ M M' ∧ jJ M' ∧ (¬ (sDif (lfS f lw n) (shS f lw n) p = true ∧ sDif (lfS f lw n) (shS f lw n) q = true) → r = -1) ∧ (sDif (lfS f lw n) (shS f lw n) p = true ∧ sDif (lfS f lw n) (shS f lw n) q = true → ∃ D, gDs (sDif (lfS f lw n) (shS f lw n)) q D ∧ r = anV D p w) ∧ ∀ K : Option vi_V → vi_W → Prop, vi_call GG (d + 70) 220 [.inr (.inr 29), .inl (p : Int), .inl (q : Int), .inl w] (Y, M, nn) K ↔ K (some (.inl r)) (Y, M', nn) := by
  obtain ⟨a1, a2, a3, a4, a5, a6, a7, a8, a9, a10, a11, a12⟩ := y_29 h9
  obtain ⟨b1, -⟩ := y_30 hY (by omega)
  obtain ⟨z1, -⟩ := y_97 hY (by omega)
  obtain ⟨v1, v2, v3, v4, v5⟩ := hV
  obtain ⟨R, hR⟩ := hJ.1 102 (by unfold jCe; omega)
  have hp' := of_decide_eq_true hp
  have hq' := of_decide_eq_true hq
  have lp : p < 216 := by omega
  have lq : q < 216 := by omega
  have k51p := fun {K : Option vi_V → vi_W → Prop} => @k_51 (d + 68) 30 K Y M nn b1 (p : Int)
  have k51q := fun {K : Option vi_V → vi_W → Prop} => @k_51 (d + 68) 30 K Y M nn b1 (q : Int)
  rw [gCl_f hs, hp] at k51p
  rw [gCl_f hs, hq] at k51q
  simp only [Nat.add_assoc, Nat.reduceAdd] at k51p k51q
  clear hp' hq'
  by_cases hF : sDif (lfS f lw n) (shS f lw n) p = true ∧ sDif (lfS f lw n) (shS f lw n) q = true
  · obtain ⟨D, M', g1, g2, g3, g4, k95⟩ := @k_95 (d + 65) Y M nn _ _ R hY v4 v5 hR p q lp lq hF.1 hF.2
    simp only [Nat.add_assoc, Nat.reduceAdd] at k95
    have hD : ∀ c, c < 216 → -1 ≤ M' 98 c ∧ M' 98 c < 216 := fun c hc => by
      rw [g2]
      by_cases e : D c = -1
      · omega
      · have := (g1.2.2.1 c hc e).2; omega
    refine ⟨M', anV D p w, ⟨fun x hx => g4 x (by omega) (by omega) (by omega), by rw [g4 77 (by omega) (by omega) (by omega)]⟩, ⟨fun x hx => ?_, ?_⟩, fun h => absurd hF h, fun _ => ⟨D, g1, rfl⟩, fun K => vi_k (r := some (.inl _)) fun Q hQ => ?_⟩
    · by_cases e : x = 102
      · subst e; exact ⟨_, g3⟩
      · rw [g4 x (by unfold jCe at hx; omega) (by unfold jCe at hx; omega) e]; exact hJ.1 x hx
    · rw [g4 88 (by omega) (by omega) (by omega)]; exact hJ.2
    · unfold anV at hQ
      have hDp := hD p lp
      rw [g2] at hDp
      clear hs v1 v2 v3 v4 v5 hF g1 g3 g4 hR hJ
      by_cases e1 : w = -1
      · subst e1
        rw [if_pos rfl] at hQ
        clear hD
        simp (disch := omega) only [Option.toList_some, Option.toList_none, List.nil_append, List.cons_append, List.append_nil, true_and, and_true, not_true_eq_false, not_false_eq_true, true_implies, false_implies, implies_true, and_self, Int.reduceLT, Int.reduceLE, Int.reduceEq, Int.reduceNe, Int.reduceAdd, Int.reduceSub, Int.reduceMul, Int.reduceNeg, Int.reduceToNat, Int.toNat_natCast, ↓kk_ck, ↓kk_im, ↓kk_in, e_220, s_220_0, s_220_11, s_220_22, s_220_27, s_220_29, s_220_45, s_220_51, s_220_57, s_220_62, s_220_67, s_220_68, s_220_69, s_220_4, s_220_15, s_220_33, s_220_73, s_220_8, s_220_19, s_220_38, s_220_78, a1, a2, a9, b1, z1, k51p, k51q, k95, vi_bt, ne_eq]
        exact hQ
      · rw [if_neg e1] at hQ
        by_cases e2 : D p < w
        · rw [if_pos e2] at hQ
          clear hD
          by_cases e3 : D p = -1
          · simp (disch := omega) only [Option.toList_some, Option.toList_none, List.nil_append, List.cons_append, List.append_nil, true_and, and_true, not_true_eq_false, not_false_eq_true, true_implies, false_implies, implies_true, and_self, Int.reduceLT, Int.reduceLE, Int.reduceEq, Int.reduceNe, Int.reduceAdd, Int.reduceSub, Int.reduceMul, Int.reduceNeg, Int.reduceToNat, Int.toNat_natCast, ↓kk_ck, ↓kk_im, ↓kk_in, e_220, s_220_0, s_220_11, s_220_22, s_220_27, s_220_29, s_220_45, s_220_51, s_220_57, s_220_62, s_220_67, s_220_68, s_220_69, s_220_4, s_220_15, s_220_33, s_220_73, s_220_8, s_220_19, s_220_38, s_220_78, a1, a2, a9, b1, z1, k51p, k51q, k95, vi_bt, ne_eq, e1, e3]
            exact hQ
          · simp (disch := omega) only [Option.toList_some, Option.toList_none, List.nil_append, List.cons_append, List.append_nil, true_and, and_true, not_true_eq_false, not_false_eq_true, true_implies, false_implies, implies_true, and_self, Int.reduceLT, Int.reduceLE, Int.reduceEq, Int.reduceNe, Int.reduceAdd, Int.reduceSub, Int.reduceMul, Int.reduceNeg, Int.reduceToNat, Int.toNat_natCast, ↓kk_ck, ↓kk_im, ↓kk_in, e_220, s_220_0, s_220_11, s_220_22, s_220_27, s_220_29, s_220_45, s_220_51, s_220_57, s_220_62, s_220_67, s_220_68, s_220_69, s_220_4, s_220_15, s_220_33, s_220_73, s_220_8, s_220_19, s_220_38, s_220_78, a1, a2, a9, b1, z1, k51p, k51q, k95, vi_bt, ne_eq, e1, e3]
            exact hQ
        · rw [if_neg e2] at hQ
          obtain ⟨k, rfl⟩ : ∃ k : Nat, w = (k : Int) := ⟨w.toNat, by omega⟩
          rw [Int.toNat_natCast] at hQ
          have k96 := fun {K : Option vi_V → vi_W → Prop} => @k_96 (d + 66) K Y M' nn hY p k lp (by omega) hD
          simp only [Nat.add_assoc, Nat.reduceAdd] at k96
          rw [g2] at k96
          have e3 : ¬ D p = -1 := by omega
          clear hD
          simp (disch := omega) only [Option.toList_some, Option.toList_none, List.nil_append, List.cons_append, List.append_nil, true_and, and_true, not_true_eq_false, not_false_eq_true, true_implies, false_implies, implies_true, and_self, Int.reduceLT, Int.reduceLE, Int.reduceEq, Int.reduceNe, Int.reduceAdd, Int.reduceSub, Int.reduceMul, Int.reduceNeg, Int.reduceToNat, Int.toNat_natCast, ↓kk_ck, ↓kk_im, ↓kk_in, e_220, s_220_0, s_220_11, s_220_22, s_220_27, s_220_29, s_220_45, s_220_51, s_220_57, s_220_62, s_220_67, s_220_68, s_220_69, s_220_4, s_220_15, s_220_33, s_220_73, s_220_8, s_220_19, s_220_38, s_220_78, a1, a2, a9, b1, z1, k51p, k51q, k95, k96, vi_bt, ne_eq, e1, e3]
          exact hQ
  · have k95 := fun {K : Option vi_V → vi_W → Prop} => @k_95f (d + 65) K Y M nn _ _ R hY v4 v5 hR p q lp lq hF
    simp only [Nat.add_assoc, Nat.reduceAdd] at k95
    refine ⟨vi_rs (vi_rs M 98 (vi_m 216 (fun _ => -1) (M 98))) 102 (cR (sDif (lfS f lw n) (shS f lw n))), -1, cQ_t (cQ_u (q := 98) (by omega) (by omega)) (cQ_u (q := 102) (by omega) (by omega)), jJ_u (jJ_o hJ (by omega) (by unfold jCe; omega)) (by omega), fun _ => rfl, fun h => absurd h hF, fun K => vi_k (r := some (.inl _)) fun Q hQ => ?_⟩
    clear hs v1 v2 v3 v4 v5 hF hR hJ
    by_cases e1 : w = -1
    · subst e1
      simp (disch := omega) only [Option.toList_some, Option.toList_none, List.nil_append, List.cons_append, List.append_nil, true_and, and_true, not_true_eq_false, not_false_eq_true, true_implies, false_implies, implies_true, and_self, Int.reduceLT, Int.reduceLE, Int.reduceEq, Int.reduceNe, Int.reduceAdd, Int.reduceSub, Int.reduceMul, Int.reduceNeg, Int.reduceToNat, Int.toNat_natCast, ↓kk_ck, ↓kk_im, ↓kk_in, e_220, s_220_0, s_220_11, s_220_22, s_220_27, s_220_29, s_220_45, s_220_51, s_220_57, s_220_62, s_220_67, s_220_68, s_220_69, s_220_4, s_220_15, s_220_33, s_220_73, s_220_8, s_220_19, s_220_38, s_220_78, a1, a2, a9, b1, z1, k51p, k51q, k95, vi_bt, ne_eq]
      exact hQ
    · simp (disch := omega) only [Option.toList_some, Option.toList_none, List.nil_append, List.cons_append, List.append_nil, true_and, and_true, not_true_eq_false, not_false_eq_true, true_implies, false_implies, implies_true, and_self, Int.reduceLT, Int.reduceLE, Int.reduceEq, Int.reduceNe, Int.reduceAdd, Int.reduceSub, Int.reduceMul, Int.reduceNeg, Int.reduceToNat, Int.toNat_natCast, ↓kk_ck, ↓kk_im, ↓kk_in, e_220, s_220_0, s_220_11, s_220_22, s_220_27, s_220_29, s_220_45, s_220_51, s_220_57, s_220_62, s_220_67, s_220_68, s_220_69, s_220_4, s_220_15, s_220_33, s_220_73, s_220_8, s_220_19, s_220_38, s_220_78, a1, a2, a9, b1, z1, k51p, k51q, k95, vi_bt, ne_eq, e1]
      exact hQ
theorem k_220n (hY : kY Y 112) (h9 : kY9 Y) {f : Nat → Int} (hs : rSz f (M 30)) {p q w : Int} (h : ¬ (mIcb f p = true ∧ mIcb f q = true ∧ -1 ≤ w)) : vi_call GG (d + 70) 220 [.inr (.inr 29), .inl p, .inl q, .inl w] (Y, M, nn) K ↔ K (some (.inl (-1))) (Y, M, nn) := by
  obtain ⟨a1, a2, a3, a4, a5, a6, a7, a8, a9, a10, a11, a12⟩ := y_29 h9
  obtain ⟨b1, -⟩ := y_30 hY (by omega)
  have k51p := fun {K : Option vi_V → vi_W → Prop} => @k_51 (d + 68) 30 K Y M nn b1 p
  have k51q := fun {K : Option vi_V → vi_W → Prop} => @k_51 (d + 68) 30 K Y M nn b1 q
  rw [gCl_f hs] at k51p k51q
  simp only [Nat.add_assoc, Nat.reduceAdd] at k51p k51q
  refine vi_k (r := some (.inl _)) fun Q hQ => ?_
  clear hs
  cases hp : mIcb f p with
  | false =>
    rw [hp] at k51p
    simp (disch := omega) only [Option.toList_some, Option.toList_none, List.nil_append, List.cons_append, List.append_nil, true_and, and_true, not_true_eq_false, not_false_eq_true, true_implies, false_implies, implies_true, and_self, Int.reduceLT, Int.reduceLE, Int.reduceEq, Int.reduceNe, Int.reduceAdd, Int.reduceSub, Int.reduceMul, Int.reduceNeg, Int.reduceToNat, Int.toNat_natCast, ↓kk_ck, ↓kk_im, ↓kk_in, e_220, s_220_0, s_220_11, s_220_22, s_220_27, s_220_29, s_220_45, s_220_51, s_220_57, s_220_62, s_220_67, s_220_68, s_220_69, s_220_4, s_220_15, s_220_33, s_220_73, s_220_8, s_220_19, s_220_38, s_220_78, a1, a2, b1, k51p, vi_bt, vi_bf, ne_eq]
    exact hQ
  | true =>
    cases hq : mIcb f q with
    | false =>
      rw [hp] at k51p
      rw [hq] at k51q
      simp (disch := omega) only [Option.toList_some, Option.toList_none, List.nil_append, List.cons_append, List.append_nil, true_and, and_true, not_true_eq_false, not_false_eq_true, true_implies, false_implies, implies_true, and_self, Int.reduceLT, Int.reduceLE, Int.reduceEq, Int.reduceNe, Int.reduceAdd, Int.reduceSub, Int.reduceMul, Int.reduceNeg, Int.reduceToNat, Int.toNat_natCast, ↓kk_ck, ↓kk_im, ↓kk_in, e_220, s_220_0, s_220_11, s_220_22, s_220_27, s_220_29, s_220_45, s_220_51, s_220_57, s_220_62, s_220_67, s_220_68, s_220_69, s_220_4, s_220_15, s_220_33, s_220_73, s_220_8, s_220_19, s_220_38, s_220_78, a1, a2, b1, k51p, k51q, vi_bt, vi_bf, ne_eq]
      exact hQ
    | true =>
      have hw : w < -1 := Int.not_le.mp fun e => h ⟨hp, hq, e⟩
      rw [hp] at k51p
      rw [hq] at k51q
      clear h hp hq
      simp (disch := omega) only [Option.toList_some, Option.toList_none, List.nil_append, List.cons_append, List.append_nil, true_and, and_true, not_true_eq_false, not_false_eq_true, true_implies, false_implies, implies_true, and_self, Int.reduceLT, Int.reduceLE, Int.reduceEq, Int.reduceNe, Int.reduceAdd, Int.reduceSub, Int.reduceMul, Int.reduceNeg, Int.reduceToNat, Int.toNat_natCast, ↓kk_ck, ↓kk_im, ↓kk_in, e_220, s_220_0, s_220_11, s_220_22, s_220_27, s_220_29, s_220_45, s_220_51, s_220_57, s_220_62, s_220_67, s_220_68, s_220_69, s_220_4, s_220_15, s_220_33, s_220_73, s_220_8, s_220_19, s_220_38, s_220_78, a1, a2, b1, k51p, k51q, vi_bt, vi_bf, ne_eq]
      exact hQ
end
