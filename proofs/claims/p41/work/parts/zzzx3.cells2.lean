/-! The property of its own: all CELLS asked. -/
section
variable {d ln : Nat} {Y : vi_Y} {nn : Nat × Nat} {v x y z t fl fo : Int} {L R : List (Nat → Int)} {lw : Option (List gCla)} {g : Nat → Int} {Q : Option vi_V → vi_W → Prop}
/-- what the law keeps of the CELLS -/
def lwC (M : vi_M) (g : Nat → Int) (S O : Nat → Bool) (c : Nat) : Prop := M 112 = g ∧ (∀ j, j < c → M 125 j = vi_b (S j) ∧ M 126 j = vi_b (O j)) ∧ ∀ j, c ≤ j → j < 216 → M 125 j = 0 ∧ M 126 j = 0
theorem lw_61 (hY : lwY Y ln) (hbt : boxT lw fl fo) (hr : bxR g (fK x y z t L) fl 216 (fun c => mAt (fK x y z t L) (c : Int) L.length)) (S O : Nat → Bool) (hSe : S = lfS (fK x y z t L) lw L.length) (hOe : O = sDif S (shS (fK x y z t L) lw L.length))
    (hQ : ∀ M : vi_M, wS M x y z t L [] lw 1 fo → lwC M g S O 216 → ∀ l11 l12 l13 l14 l15 l16 l17 l18 l19 l20 l21 l22 l23 l24 l25, vi_ok GG (d + 72) 0 347 [some (.inr (.inr 1)), some (.inr (.inr 29)), some (.inr (.inr 112)), some (.inl v), some (.inr (.inr 125)), some (.inr (.inr 126)), some (.inl (sN 216 S : Int)), some (.inl (sW 216 S (fun c => wtE x y z fl (c : Int)))), some (.inl 0), some (.inl 0), some (.inl ((216 : Nat) : Int)), l11, l12, l13, l14, l15, l16, l17, l18, l19, l20, l21, l22, l23, l24, l25] [] (Y, M, nn) Q) :
    ∀ c : Nat, c ≤ 216 → ∀ M : vi_M, wS M x y z t L [] lw 1 fo → lwC M g S O c → ∀ l11 l12 l13 l14 l15 l16 l17 l18 l19 l20 l21 l22 l23 l24 l25, vi_ok GG (d + 72) 0 61 [some (.inr (.inr 1)), some (.inr (.inr 29)), some (.inr (.inr 112)), some (.inl v), some (.inr (.inr 125)), some (.inr (.inr 126)), some (.inl (sN c S : Int)), some (.inl (sW c S (fun c => wtE x y z fl (c : Int)))), some (.inl 0), some (.inl 0), some (.inl (c : Int)), l11, l12, l13, l14, l15, l16, l17, l18, l19, l20, l21, l22, l23, l24, l25] [] (Y, M, nn) Q := by
  have hY' := hY
  obtain ⟨⟨y1, y2⟩, -, ⟨t1, t2⟩, ⟨i1, i2⟩, ⟨o1, o2⟩⟩ := hY'
  have h29 := y2.1
  refine vi_dn 216 ?_ ?_
  · intro M hS hC l11 l12 l13 l14 l15 l16 l17 l18 l19 l20 l21 l22 l23 l24 l25
    have := hQ M hS hC l11 l12 l13 l14 l15 l16 l17 l18 l19 l20 l21 l22 l23 l24 l25
    rw [s_0_61]
    clear hQ hS hC hr hSe hOe
    simp (disch := omega) only [Option.toList_some, Option.toList_none, List.nil_append, List.cons_append, List.append_nil, true_and, and_true, not_true_eq_false, not_false_eq_true, true_implies, false_implies, implies_true, and_self, Int.reduceLT, Int.reduceLE, Int.reduceEq, Int.reduceNe, Int.reduceAdd, Int.reduceSub, Int.reduceMul, Int.reduceNeg, Int.reduceToNat, Int.toNat_natCast, ↓kk_ck, ↓kk_im, ↓kk_in]
    exact this
  · intro c hc ih M hS hC l11 l12 l13 l14 l15 l16 l17 l18 l19 l20 l21 l22 l23 l24 l25
    obtain ⟨hM, hC1, hC2⟩ := hC
    have nb := sN_le c S
    have wb := @sW_0 S (fun c => wtE x y z fl (c : Int)) (fun c => wtE_b (by omega)) c
    have nx : ∀ M' : vi_M, wS M' x y z t L [] lw 1 fo → lwC M' g S O (c + 1) → ∀ l11 l12 l13 l14 l15 l16 l17 l18 l19 l20 l21 l22 l23 l24 l25, vi_ok GG (d + 72) 0 341 [some (.inr (.inr 1)), some (.inr (.inr 29)), some (.inr (.inr 112)), some (.inl v), some (.inr (.inr 125)), some (.inr (.inr 126)), some (.inl (sN (c + 1) S : Int)), some (.inl (sW (c + 1) S (fun c => wtE x y z fl (c : Int)))), some (.inl 0), some (.inl 0), some (.inl (c : Int)), l11, l12, l13, l14, l15, l16, l17, l18, l19, l20, l21, l22, l23, l24, l25] [] (Y, M', nn) Q := by
      intro M' hS' hC' l11 l12 l13 l14 l15 l16 l17 l18 l19 l20 l21 l22 l23 l24 l25
      have := ih M' hS' hC' l11 l12 l13 l14 l15 l16 l17 l18 l19 l20 l21 l22 l23 l24 l25
      clear ih hQ hS hr hSe hOe hC1 hC2 hS' hC' hM
      simp (disch := omega) only [Option.toList_some, Option.toList_none, List.nil_append, List.cons_append, List.append_nil, true_and, and_true, not_true_eq_false, not_false_eq_true, true_implies, false_implies, implies_true, and_self, Int.reduceLT, Int.reduceLE, Int.reduceEq, Int.reduceNe, Int.reduceAdd, Int.reduceSub, Int.reduceMul, Int.reduceNeg, Int.reduceToNat, Int.toNat_natCast, ↓kk_ck, ↓kk_im, ↓kk_in, s_0_341, vi_inc]
      exact this
    have z6 : (6 + (c : Int)).toNat = 6 + c := by omega
    by_cases hcb : bxS (fK x y z t L) c = true
    · have hg : 0 ≤ g (6 + c) := by rw [hr.2 c hc, if_pos hcb]; exact mAt_0 _
      have hwb := @wtE_b x y z fl (c : Int) (by omega)
      have st := @lw_92 d ln Y nn v x y z t fl fo L lw g Q hY M hS hbt hM hr (sN c S : Int) (sW c S (fun c => wtE x y z fl (c : Int))) 0 0 c hc hcb l11 l12 l13 l14 l15 l16 l17 l18 l19 l20 l21 l22 l23 l24 l25 (fun M' hM' b12 l13 l14 l15 l16 l17 l18 l19 l20 l21 l22 l23 l24 l25 => by
        rw [← hSe, ← hOe] at hM'
        have n112 : M' 112 = g := by rw [hM', vi_rs_o (by decide), vi_rs_o (by decide)]; exact hM
        have n125 : M' 125 = vi_u (M 125) c (vi_b (S c)) := by rw [hM', vi_rs_o (by decide), vi_rs_s]
        have n126 : M' 126 = vi_u (M 126) c (vi_b (O c)) := by rw [hM', vi_rs_s]
        have q := nx M' (by rw [hM']; exact pS_o (pS_o hS (by decide)) (by decide)) ⟨n112, fun j hj => by
          rw [n125, n126]
          by_cases e : j = c
          · rw [e, vi_u_s, vi_u_s]; exact ⟨rfl, rfl⟩
          · rw [vi_u_o e, vi_u_o e]; exact hC1 j (by omega), fun j j1 j2 => by
          rw [n125, n126, vi_u_o (by omega), vi_u_o (by omega)]
          exact hC2 j (by omega) j2⟩ (some (.inl (wtE x y z fl (c : Int)))) (some (.inl b12)) l13 l14 l15 l16 l17 l18 l19 l20 l21 l22 l23 l24 l25
        have e125 : M' 125 c = vi_b (S c) := by rw [n125, vi_u_s]
        rw [sN_s, sW] at q
        generalize wtE x y z fl (c : Int) = w at *
        clear ih hQ hS hr hSe hOe hC1 hC2 hM nx n112 n125 n126 hM'
        cases hs : S c
        · rw [hs, if_neg (by decide), Int.add_zero] at q
          have q : vi_ok GG (d + 72) 0 341 [some (.inr (.inr 1)), some (.inr (.inr 29)), some (.inr (.inr 112)), some (.inl v), some (.inr (.inr 125)), some (.inr (.inr 126)), some (.inl (sN c S : Int)), some (.inl (sW c S (fun c => wtE x y z fl (c : Int)))), some (.inl 0), some (.inl 0), some (.inl (c : Int)), some (.inl w), some (.inl b12), l13, l14, l15, l16, l17, l18, l19, l20, l21, l22, l23, l24, l25] [] (Y, M', nn) Q := q
          rw [hs] at e125
          generalize sW c S (fun c => wtE x y z fl (c : Int)) = W at *
          generalize sN c S = N at *
          simp (disch := omega) only [Option.toList_some, Option.toList_none, List.nil_append, List.cons_append, List.append_nil, true_and, and_true, not_true_eq_false, not_false_eq_true, true_implies, false_implies, implies_true, and_self, Int.reduceLT, Int.reduceLE, Int.reduceEq, Int.reduceNe, Int.reduceAdd, Int.reduceSub, Int.reduceMul, Int.reduceNeg, Int.reduceToNat, Int.toNat_natCast, ↓kk_ck, ↓kk_im, ↓kk_in, s_0_304, s_0_311, s_0_318, s_0_319, s_0_329, s_0_337, s_0_338, i1, i2, e125, vi_bf, Int.add_zero, @vi_32 (N : Int) (by omega) (by omega), @vi_32 W (by omega) (by omega)]
          exact q
        · rw [hs, if_pos rfl] at q
          have q : vi_ok GG (d + 72) 0 341 [some (.inr (.inr 1)), some (.inr (.inr 29)), some (.inr (.inr 112)), some (.inl v), some (.inr (.inr 125)), some (.inr (.inr 126)), some (.inl ((sN c S : Int) + 1)), some (.inl (sW c S (fun c => wtE x y z fl (c : Int)) + w)), some (.inl 0), some (.inl 0), some (.inl (c : Int)), some (.inl w), some (.inl b12), l13, l14, l15, l16, l17, l18, l19, l20, l21, l22, l23, l24, l25] [] (Y, M', nn) Q := q
          rw [hs] at e125
          generalize sW c S (fun c => wtE x y z fl (c : Int)) = W at *
          generalize sN c S = N at *
          simp (disch := omega) only [Option.toList_some, Option.toList_none, List.nil_append, List.cons_append, List.append_nil, true_and, and_true, not_true_eq_false, not_false_eq_true, true_implies, false_implies, implies_true, and_self, Int.reduceLT, Int.reduceLE, Int.reduceEq, Int.reduceNe, Int.reduceAdd, Int.reduceSub, Int.reduceMul, Int.reduceNeg, Int.reduceToNat, Int.toNat_natCast, ↓kk_ck, ↓kk_im, ↓kk_in, s_0_304, s_0_311, s_0_314, s_0_319, s_0_329, s_0_332, s_0_338, i1, i2, e125, vi_bt, @vi_32 ((N : Int) + 1) (by omega) (by omega), @vi_32 (W + w) (by omega) (by omega)]
          exact q)
      rw [s_0_61]
      clear ih hQ hS hr hSe hOe hC1 hC2 nx nb wb hwb
      simp (disch := omega) only [Option.toList_some, Option.toList_none, List.nil_append, List.cons_append, List.append_nil, true_and, and_true, not_true_eq_false, not_false_eq_true, true_implies, false_implies, implies_true, and_self, Int.reduceLT, Int.reduceLE, Int.reduceEq, Int.reduceNe, Int.reduceAdd, Int.reduceSub, Int.reduceMul, Int.reduceNeg, Int.reduceToNat, Int.toNat_natCast, ↓kk_ck, ↓kk_im, ↓kk_in, s_0_69, s_0_75, s_0_76, t1, t2, hM, z6, vi_32]
      exact st
    · have hg : g (6 + c) = -1 := by rw [hr.2 c hc, if_neg hcb]
      have hs : S c = false := by
        cases e : S c
        · rfl
        · rw [hSe] at e; exact absurd (lfS_b e) hcb
      have k200 := fun {K : Option vi_V → vi_W → Prop} => @k_200 (L.length) (d + 2) lw Y M nn K y1 y2 (fK x y z t L) (pP_z hS.1) hS.2 (c : Int) 0
      have ec : ceV (fK x y z t L) lw L.length (c : Int) 0 = -1 := by unfold ceV; exact if_neg hcb
      rw [ec] at k200
      have q := nx M hS ⟨hM, fun j hj => by
        by_cases e : j = c
        · have := hC2 c (Nat.le_refl _) hc
          rw [e, this.1, this.2, hOe]
          unfold sDif
          rw [hs]
          exact ⟨rfl, rfl⟩
        · exact hC1 j (by omega), fun j j1 j2 => hC2 j (by omega) j2⟩ l11 l12 l13 l14 l15 l16 l17 l18 l19 l20 l21 l22 l23 l24 l25
      rw [sN_s, sW, hs, if_neg (by decide), Int.add_zero] at q
      have q : vi_ok GG (d + 72) 0 341 [some (.inr (.inr 1)), some (.inr (.inr 29)), some (.inr (.inr 112)), some (.inl v), some (.inr (.inr 125)), some (.inr (.inr 126)), some (.inl (sN c S : Int)), some (.inl (sW c S (fun c => wtE x y z fl (c : Int)))), some (.inl 0), some (.inl 0), some (.inl (c : Int)), l11, l12, l13, l14, l15, l16, l17, l18, l19, l20, l21, l22, l23, l24, l25] [] (Y, M, nn) Q := q
      rw [s_0_61]
      clear ih hQ hS hr hSe hOe hC1 hC2 nx nb wb hcb ec hs
      simp (disch := omega) only [Option.toList_some, Option.toList_none, List.nil_append, List.cons_append, List.append_nil, true_and, and_true, not_true_eq_false, not_false_eq_true, true_implies, false_implies, implies_true, and_self, Int.reduceLT, Int.reduceLE, Int.reduceEq, Int.reduceNe, Int.reduceAdd, Int.reduceSub, Int.reduceMul, Int.reduceNeg, Int.reduceToNat, Int.toNat_natCast, ↓kk_ck, ↓kk_im, ↓kk_in, s_0_69, s_0_75, s_0_76, s_0_79, s_0_86, t1, t2, hM, z6, hg, h29, k200, vi_32]
      exact q
end
