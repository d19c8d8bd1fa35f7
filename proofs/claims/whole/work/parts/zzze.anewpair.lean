/-! Pairs: anew, put together. -/
theorem ouF_s {M : vi_M} {c : Nat} (d : Nat) : ouF M c (d + 1) = ouF M c d + (decide (mBe M (c : Int) d = -1)).toNat * 2 ^ d := by
  rw [ouF]
  by_cases e : mBe M (c : Int) d = -1
  · rw [if_pos e, decide_eq_true e, Bool.toNat_true, Nat.one_mul, Nat.or_comm]
    have := Nat.shiftLeft_add_eq_or_of_lt (ouF_lt (M := M) (c := c) d) 1
    rw [Nat.shiftLeft_eq, Nat.one_mul] at this
    rw [← this, Nat.add_comm]
  · rw [if_neg e, decide_eq_false e, Bool.toNat_false, Nat.zero_mul, Nat.add_zero]
theorem gE_d {p s : Int} : gE p s = (((decide (p = 0)).toNat + 2 * (decide (p = s - 1)).toNat : Nat) : Int) := by
  unfold gE
  by_cases h1 : p = 0
  · rw [if_pos h1, decide_eq_true h1]
    by_cases h2 : p = s - 1
    · rw [if_pos h2, decide_eq_true h2]; rfl
    · rw [if_neg h2, decide_eq_false h2]; rfl
  · rw [if_neg h1, decide_eq_false h1]
    by_cases h2 : p = s - 1
    · rw [if_pos h2, decide_eq_true h2]; rfl
    · rw [if_neg h2, decide_eq_false h2]; rfl
theorem ou_e {M : vi_M} {c : Nat} (hc : mIcb (M 114) (c : Int) = true) : gSd (M 114 96) (M 114 97) (M 114 98) (c : Int) = ((ouF M c 6 : Nat) : Int) := by
  obtain ⟨t0, t1, t2, t3, t4, t5⟩ := mBe_n hc
  have e : ∀ d, mBe M (c : Int) d = mBe (rowM (M 114)) (c : Int) d := fun d => mBe_c (M' := M) (M := rowM (M 114)) rfl
  rw [ouF_s, ouF_s, ouF_s, ouF_s, ouF_s, ouF_s, e, e, e, e, e, e, decide_eq_decide.mpr t0, decide_eq_decide.mpr t1, decide_eq_decide.mpr t2, decide_eq_decide.mpr t3, decide_eq_decide.mpr t4, decide_eq_decide.mpr t5]
  unfold gSd
  rw [gE_d, gE_d, gE_d]
  show _ = (((0 : Nat) + _ + _ + _ + _ + _ + _ : Nat) : Int)
  omega
section
variable {sc : Nat → Int} {ln t a n d : Nat} {CS : Nat → List gCla} {lw : Option (List gCla)} {Y : vi_Y} {M : vi_M} {nn : Nat × Nat} {K : Option vi_V → vi_W → Prop}
theorem fCk_t {M : vi_M} {x j : Nat} : fCk (M 114 96) (M 114 97) (M 114 98) x j 216 = sN 216 (fun c => mIcb (M 114) (c : Int) && decide (kdT.getD (ouF M c 6 &&& x) 0 = j)) := by
  unfold fCk
  refine sN_c fun c _ => ?_
  have e : gCl (M 114 96) (M 114 97) (M 114 98) (c : Int) = mIcb (M 114) (c : Int) := by
    unfold gCl mIcb
    rw [decide_eq_decide]
    omega
  rw [e]
  cases h : mIcb (M 114) (c : Int)
  · rfl
  · rw [Bool.true_and, Bool.true_and, ou_e h, Int.toNat_natCast]
    have hlt : ouF M c 6 &&& x < 64 := Nat.lt_of_le_of_lt Nat.and_le_left (ouF_lt 6)
    rw [kd_e _ hlt, decide_eq_decide]
    omega
theorem p_213 (hW : jW sc ln t a CS lw n Y M nn) {x : Int} : jPair sc ln t (d + 70) 213 332 [.inl x] (Y, M, nn) := by
  refine jPair_q hW fun K hK => ?_
  obtain ⟨LH, LR, LS, c1, c2, c3, c4⟩ := hW.2.2.2.1
  obtain ⟨s1, s2, s3, s4, hB, -⟩ := c1.2.2.2.2.2.2.1
  have hY := hW.1.1
  obtain ⟨a1, a2, a3, a4, a5, a6, a7, a8, a9, a10, a11, a12⟩ := y_29 hW.1.2.1
  have z1 := (y_103 hY (by omega)).1
  by_cases h : 0 ≤ x ∧ x ≤ 63
  · obtain ⟨x, rfl⟩ : ∃ k : Nat, x = (k : Int) := ⟨x.toNat, by omega⟩
    have hx : x < 64 := by omega
    have k163 := fun {K : Option vi_V → vi_W → Prop} => @k_163 (d + 64) K Y M nn hY (by rw [s1, s2, s3]; exact hB) x hx
    simp only [Nat.add_assoc, Nat.reduceAdd] at k163
    rw [s1, s2, s3] at k163
    generalize hF : fLs (fun k => fPs (kT k) (kO k)) (fun k => fCk (M 114 96) (M 114 97) (M 114 98) x k 216) (fun k => fCk (M 114 96) (M 114 97) (M 114 98) 63 k 216) 1024 = F at *
    generalize vi_m 10 (fun j => (fCk (M 114 96) (M 114 97) (M 114 98) x j 216 : Int)) (M 104) = g1 at *
    generalize vi_m 10 (fun j => (fCk (M 114 96) (M 114 97) (M 114 98) 63 j 216 : Int)) (M 105) = g2 at *
    generalize vi_m 10 (fun k => (fPs (kT k) (kO k) : Int)) (M 106) = g3 at *
    have q1 : cQ M (vi_rs (vi_rs (vi_rs M 104 g1) 105 g2) 106 g3) := ⟨fun p hp => by rw [vi_rs_o (by omega), vi_rs_o (by omega), vi_rs_o (by omega)], by rw [vi_rs_o (by omega), vi_rs_o (by omega), vi_rs_o (by omega)]⟩
    have hJ := hW.2.2.2.2.2.2.2.2.2
    have q2 : jJ (vi_rs (vi_rs (vi_rs M 104 g1) 105 g2) 106 g3) := ⟨fun q hq => by rw [vi_rs_o (by unfold jCe at hq; omega), vi_rs_o (by unfold jCe at hq; omega), vi_rs_o (by unfold jCe at hq; omega)]; exact hJ.1 q hq, by rw [vi_rs_o (by omega), vi_rs_o (by omega), vi_rs_o (by omega)]; exact hJ.2⟩
    have hW1 := jW_q hW q1 q2
    have e' := q1.1 114 (by omega)
    have hK := hK (.inl (F : Int)) (vi_rs (vi_rs (vi_rs M 104 g1) 105 g2) 106 g3) hW1 fun K2 h2 => by
      generalize vi_rs (vi_rs (vi_rs M 104 g1) 105 g2) 106 g3 = M1 at *
      refine k_332 hY (mBx_c e' hB) hW1.1.2.2.2.2.2.2 hx (by omega) fun M' r hf hr => ?_
      have hlt : ∀ (y c : Nat), ouF M1 c 6 &&& y < 64 := fun y c => Nat.lt_of_le_of_lt Nat.and_le_left (ouF_lt 6)
      have hv := anw_e (q := fun c => mIcb (M1 114) (c : Int)) (rc := fun c => ouF M1 c 6 &&& x) (pc := fun c => ouF M1 c 6 &&& 63) (ck := fun k => fCk (M1 114 96) (M1 114 97) (M1 114 98) x k 216) (pk := fun k => fCk (M1 114 96) (M1 114 97) (M1 114 98) 63 k 216) (fun r => rfl) (fun p => rfl) (fun k => fCk_t) (fun k => fCk_t) (fun c _ _ => hlt x c) (fun c _ _ => hlt 63 c) hr
      rw [e', hF] at hv
      rw [← hv]
      refine h2 M' (jW_r hW1 ⟨fun p h1 h2 h3 => hf p (by omega), fun k _ _ _ _ _ _ _ _ => by rw [hf 112 (by omega)]⟩ (jM_k hW1.2.2.2.2.1 (fun p hp => hf p (by omega)) fun k hk => by rw [hf 112 (by omega)]))
    clear hW hW1 c1 c2 c3 c4 q1 q2 hJ hF hB
    simp (disch := omega) only [Option.toList_some, Option.toList_none, List.nil_append, List.cons_append, List.append_nil, true_and, and_true, not_true_eq_false, not_false_eq_true, true_implies, false_implies, implies_true, and_self, Int.reduceLT, Int.reduceLE, Int.reduceEq, Int.reduceNe, Int.reduceAdd, Int.reduceSub, Int.reduceMul, Int.reduceNeg, Int.reduceToNat, Int.toNat_natCast, ↓kk_ck, ↓kk_im, ↓kk_in, e_213, s_213_0, s_213_4, s_213_10, s_213_14, s_213_22, s_213_18, a1, a10, z1, k163, ne_eq]
    exact hK
  · have hK := hK (.inl (-1)) M hW fun K2 h2 => by
      rw [k_332n hY h (by omega)]
      exact h2 M hW
    clear hW c1 c2 c3 c4 hB
    by_cases hx : x < 0
    · simp (disch := omega) only [Option.toList_some, Option.toList_none, List.nil_append, List.cons_append, List.append_nil, true_and, and_true, not_true_eq_false, not_false_eq_true, true_implies, false_implies, implies_true, and_self, Int.reduceLT, Int.reduceLE, Int.reduceEq, Int.reduceNe, Int.reduceAdd, Int.reduceSub, Int.reduceMul, Int.reduceNeg, Int.reduceToNat, Int.toNat_natCast, ↓kk_ck, ↓kk_im, ↓kk_in, e_213, s_213_0, s_213_4, s_213_10, s_213_14, s_213_22, s_213_18, a1, ne_eq]
      exact hK
    · simp (disch := omega) only [Option.toList_some, Option.toList_none, List.nil_append, List.cons_append, List.append_nil, true_and, and_true, not_true_eq_false, not_false_eq_true, true_implies, false_implies, implies_true, and_self, Int.reduceLT, Int.reduceLE, Int.reduceEq, Int.reduceNe, Int.reduceAdd, Int.reduceSub, Int.reduceMul, Int.reduceNeg, Int.reduceToNat, Int.toNat_natCast, ↓kk_ck, ↓kk_im, ↓kk_in, e_213, s_213_0, s_213_4, s_213_10, s_213_14, s_213_22, s_213_18, a1, ne_eq]
      exact hK
end
