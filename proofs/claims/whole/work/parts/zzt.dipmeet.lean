/-! Pairs: dipped, meet. -/
theorem bc_e : ∀ s, s < 64 → bC (s % 4) = mBt s 0 + mBt s 1 ∧ bC (s / 4 % 4) = mBt s 2 + mBt s 3 ∧ bC (s / 16 % 4) = mBt s 4 + mBt s 5 := by decide
theorem eEn_f {n k : Int} {x a : Nat} : eEn n x a k = fRd n (mBt x (2 * a) + mBt x (2 * a + 1)) k := by
  have h1 := @mBt_r x (2 * a)
  have h2 := @mBt_r x (2 * a + 1)
  unfold eEn fRd
  generalize mBt x (2 * a) = p at *
  generalize mBt x (2 * a + 1) = q at *
  by_cases hn : n = 1
  · rw [if_pos hn, if_pos hn]
    by_cases e : (p : Int) + (q : Int) = k
    · rw [if_pos e, if_pos (by omega)]
    · rw [if_neg e, if_neg (by omega)]
  · rw [if_neg hn, if_neg hn]
    by_cases k0 : k = 0
    · rw [if_pos k0, if_pos k0]
      split <;> split <;> omega
    · rw [if_neg k0, if_neg k0]
      by_cases k1 : k = 1
      · rw [if_pos k1]
        split <;> split <;> omega
      · rw [if_neg k1, if_neg (by omega), if_neg (by omega)]
        rfl
theorem fRd_o {n : Int} {u : Nat} {k : Int} (hu : u ≤ 2) (h : k < 0 ∨ 2 < k) : fRd n u k = 0 := by
  unfold fRd
  by_cases hn : n = 1
  · rw [if_pos hn, if_neg (by omega)]
  · rw [if_neg hn, if_neg (by omega), if_neg (by omega)]
theorem dip_2 {n1 n2 n3 v : Int} {x i : Nat} {b1 b2 b3 : Nat} (h1 : b1 = mBt x 0 + mBt x 1) (h2 : b2 = mBt x 2 + mBt x 3) (h3 : b3 = mBt x 4 + mBt x 5) : eD2 n1 n2 n3 x v i 4 0 = (0 + fRd n1 b1 (i : Int) * fRd n2 b2 ((0 : Nat) : Int) * fRd n3 b3 (v - (i : Int) - ((0 : Nat) : Int))) + fRd n1 b1 (i : Int) * fRd n2 b2 ((1 : Nat) : Int) * fRd n3 b3 (v - (i : Int) - ((1 : Nat) : Int)) + fRd n1 b1 (i : Int) * fRd n2 b2 ((2 : Nat) : Int) * fRd n3 b3 (v - (i : Int) - ((2 : Nat) : Int)) := by
  have hb3 : b3 ≤ 2 := by have := @mBt_r x 4; have := @mBt_r x 5; omega
  have ez : ∀ k, (k < 0 ∨ 2 < k) → fRd n3 b3 k = 0 := fun k hk => fRd_o hb3 hk
  have t : ∀ j : Nat, (if 2 < v - (i : Int) - (j : Int) then 0 else eEn n1 x 0 (i : Int) * eEn n2 x 1 (j : Int) * eEn n3 x 2 (v - (i : Int) - (j : Int))) = fRd n1 b1 (i : Int) * fRd n2 b2 (j : Int) * fRd n3 b3 (v - (i : Int) - (j : Int)) := fun j => by
    rw [eEn_f, eEn_f, eEn_f, ← h1, ← h2, ← h3]
    by_cases h : 2 < v - (i : Int) - (j : Int)
    · rw [if_pos h, ez _ (.inr h), Int.mul_zero]
    · rw [if_neg h]
  have z : ∀ j : Nat, v < (i : Int) + (j : Int) → fRd n1 b1 (i : Int) * fRd n2 b2 (j : Int) * fRd n3 b3 (v - (i : Int) - (j : Int)) = 0 := fun j hj => by rw [ez _ (.inl (by omega)), Int.mul_zero]
  rw [eD2, eD2, eD2, eD2, t, t, t]
  have z0 := z 0
  have z1 := z 1
  have z2 := z 2
  generalize fRd n1 b1 (i : Int) * fRd n2 b2 ((0 : Nat) : Int) * fRd n3 b3 (v - (i : Int) - ((0 : Nat) : Int)) = y0 at *
  generalize fRd n1 b1 (i : Int) * fRd n2 b2 ((1 : Nat) : Int) * fRd n3 b3 (v - (i : Int) - ((1 : Nat) : Int)) = y1 at *
  generalize fRd n1 b1 (i : Int) * fRd n2 b2 ((2 : Nat) : Int) * fRd n3 b3 (v - (i : Int) - ((2 : Nat) : Int)) = y2 at *
  by_cases c0 : v < (i : Int) + ((0 : Nat) : Int)
  · rw [if_pos (.inr c0), z0 c0, z1 (by omega), z2 (by omega)]; rfl
  · rw [if_neg (by omega)]
    by_cases c1 : v < (i : Int) + ((0 + 1 : Nat) : Int)
    · rw [if_pos (.inr c1), z1 c1, z2 (by omega)]; omega
    · rw [if_neg (by omega)]
      by_cases c2 : v < (i : Int) + ((0 + 1 + 1 : Nat) : Int)
      · rw [if_pos (.inr c2), z2 c2]; omega
      · rw [if_neg (by omega), if_pos (by omega)]; omega
theorem dip_eq {n1 n2 n3 v : Int} {x : Nat} (hx : x < 64) (hv : 0 ≤ v) : eD1 n1 n2 n3 x v 4 0 = fWx n1 n2 n3 x v 3 := by
  obtain ⟨h1, h2, h3⟩ := bc_e x hx
  have d : ∀ i, eD2 n1 n2 n3 x v i 4 0 = fWy n1 n2 n3 x v (i : Int) 3 := fun i => by rw [dip_2 h1 h2 h3]; rfl
  have hb3 : bC (x / 16 % 4) ≤ 2 := by rw [h3]; have := @mBt_r x 4; have := @mBt_r x 5; omega
  have z : ∀ i : Nat, v < (i : Int) → fWy n1 n2 n3 x v (i : Int) 3 = 0 := fun i hi => by
    rw [fWy, fWy, fWy, fWy, fRd_o (k := v - (i : Int) - ((0 : Nat) : Int)) hb3 (.inl (by omega)), fRd_o (k := v - (i : Int) - ((1 : Nat) : Int)) hb3 (.inl (by omega)), fRd_o (k := v - (i : Int) - ((2 : Nat) : Int)) hb3 (.inl (by omega)), Int.mul_zero, Int.mul_zero, Int.mul_zero]
    rfl
  rw [eD1, eD1, eD1, eD1, d, d, d, fWx, fWx, fWx, fWx]
  have z1 := z 1
  have z2 := z 2
  show _ = 0 + fWy n1 n2 n3 x v ((0 : Nat) : Int) 3 + fWy n1 n2 n3 x v ((1 : Nat) : Int) 3 + fWy n1 n2 n3 x v ((2 : Nat) : Int) 3
  show (if 2 < 0 ∨ v < ((0 : Nat) : Int) then 0 else fWy n1 n2 n3 x v ((0 : Nat) : Int) 3 + (if 2 < 0 + 1 ∨ v < ((1 : Nat) : Int) then 0 else fWy n1 n2 n3 x v ((1 : Nat) : Int) 3 + (if 2 < 0 + 1 + 1 ∨ v < ((2 : Nat) : Int) then 0 else fWy n1 n2 n3 x v ((2 : Nat) : Int) 3 + (if 2 < 0 + 1 + 1 + 1 ∨ _ then 0 else _)))) = _
  generalize fWy n1 n2 n3 x v ((0 : Nat) : Int) 3 = y0 at *
  generalize fWy n1 n2 n3 x v ((1 : Nat) : Int) 3 = y1 at *
  generalize fWy n1 n2 n3 x v ((2 : Nat) : Int) 3 = y2 at *
  rw [if_neg (by omega)]
  by_cases c1 : v < ((1 : Nat) : Int)
  · rw [if_pos (.inr c1), z1 c1, z2 (by omega)]; omega
  · rw [if_neg (by omega)]
    by_cases c2 : v < ((2 : Nat) : Int)
    · rw [if_pos (.inr c2), z2 c2]; omega
    · rw [if_neg (by omega), if_pos (.inl (by decide))]; omega
section
variable {sc : Nat → Int} {ln t a n d : Nat} {CS : Nat → List gCla} {lw : Option (List gCla)} {Y : vi_Y} {M : vi_M} {nn : Nat × Nat} {K : Option vi_V → vi_W → Prop}
theorem k_231t {x : Int} {w : vi_W} (h : 1 ≤ x ∧ x ≤ 1000) : vi_call GG (d + 1) 231 [.inl x] w K ↔ K (some (.inl 1)) w := by rw [k_231, decide_eq_true h]; rfl
theorem k_231f {x : Int} {w : vi_W} (h : ¬ (1 ≤ x ∧ x ≤ 1000)) : vi_call GG (d + 1) 231 [.inl x] w K ↔ K (some (.inl 0)) w := by rw [k_231, decide_eq_false h]; rfl
theorem k_232t {x v : Int} {w : vi_W} (h : 0 ≤ x ∧ x ≤ 63 ∧ 0 ≤ v ∧ v ≤ 6) : vi_call GG (d + 1) 232 [.inl x, .inl v] w K ↔ K (some (.inl 1)) w := by rw [k_232, decide_eq_true h]; rfl
theorem k_232f {x v : Int} {w : vi_W} (h : ¬ (0 ≤ x ∧ x ≤ 63 ∧ 0 ≤ v ∧ v ≤ 6)) : vi_call GG (d + 1) 232 [.inl x, .inl v] w K ↔ K (some (.inl 0)) w := by rw [k_232, decide_eq_false h]; rfl
theorem p_208 (hW : jW sc ln t a CS lw n Y M nn) {x y z s v : Int} : jPair sc ln t (d + 70) 208 309 [.inl x, .inl y, .inl z, .inl s, .inl v] (Y, M, nn) := by
  have hY := hW.1.1
  have h9 := hW.1.2.1
  obtain ⟨a1, a2, a3, a4, a5, a6, a7, a8, a9, a10, a11, a12⟩ := y_29 h9
  obtain ⟨z1, -⟩ := y_103 hY (by omega)
  refine jPair_q hW fun K hK => ?_
  by_cases h : (1 ≤ x ∧ x ≤ 1000) ∧ (1 ≤ y ∧ y ≤ 1000) ∧ (1 ≤ z ∧ z ≤ 1000) ∧ (0 ≤ s ∧ s ≤ 63) ∧ (0 ≤ v ∧ v ≤ 6)
  · obtain ⟨h1, h2, h3, h4, h5⟩ := h
    obtain ⟨s, rfl⟩ : ∃ k : Nat, s = (k : Int) := ⟨s.toNat, by omega⟩
    have hs : s < 64 := by omega
    have hK := hK (.inr (.inl (fWx x y z s v 3))) M hW fun K2 h2' => by rw [k_309 hY h1 h2 h3 hs h5 (by omega), dip_eq hs h5.1]; exact h2' M hW
    have k162 := fun {K : Option vi_V → vi_W → Prop} => @k_162 (d + 66) K Y M nn hY x y z h1 h2 h3 s hs v h5
    have k1 := fun {K : Option vi_V → vi_W → Prop} => @k_231t (d + 68) K x (Y, M, nn) h1
    have k2 := fun {K : Option vi_V → vi_W → Prop} => @k_231t (d + 68) K y (Y, M, nn) h2
    have k3 := fun {K : Option vi_V → vi_W → Prop} => @k_231t (d + 68) K z (Y, M, nn) h3
    have k4 := fun {K : Option vi_V → vi_W → Prop} => @k_232t (d + 68) K (s : Int) v (Y, M, nn) (by omega)
    simp only [Nat.add_assoc, Nat.reduceAdd] at k162 k1 k2 k3 k4
    clear hW
    simp (disch := omega) only [Option.toList_some, Option.toList_none, List.nil_append, List.cons_append, List.append_nil, true_and, and_true, not_true_eq_false, not_false_eq_true, true_implies, false_implies, implies_true, and_self, Int.reduceLT, Int.reduceLE, Int.reduceEq, Int.reduceNe, Int.reduceAdd, Int.reduceSub, Int.reduceMul, Int.reduceNeg, Int.reduceToNat, Int.toNat_natCast, ↓kk_ck, ↓kk_im, ↓kk_in, e_208, s_208_0, s_208_7, s_208_14, s_208_21, s_208_31, s_208_35, s_208_4, s_208_11, s_208_18, s_208_28, s_208_39, s_208_49, a1, a10, z1, k1, k2, k3, k4, k162, ne_eq]
    exact hK
  · have hK := hK (.inr (.inl (-1))) M hW fun K2 h2' => by rw [k_309n hY h (by omega)]; exact h2' M hW
    clear hW
    by_cases h1 : 1 ≤ x ∧ x ≤ 1000
    · have k1 := fun {K : Option vi_V → vi_W → Prop} => @k_231t (d + 68) K x (Y, M, nn) h1
      by_cases h2 : 1 ≤ y ∧ y ≤ 1000
      · have k2 := fun {K : Option vi_V → vi_W → Prop} => @k_231t (d + 68) K y (Y, M, nn) h2
        by_cases h3 : 1 ≤ z ∧ z ≤ 1000
        · have k3 := fun {K : Option vi_V → vi_W → Prop} => @k_231t (d + 68) K z (Y, M, nn) h3
          have k4 := fun {K : Option vi_V → vi_W → Prop} => @k_232f (d + 68) K s v (Y, M, nn) (by omega)
          simp only [Nat.add_assoc, Nat.reduceAdd] at k1 k2 k3 k4
          simp (disch := omega) only [Option.toList_some, Option.toList_none, List.nil_append, List.cons_append, List.append_nil, true_and, and_true, not_true_eq_false, not_false_eq_true, true_implies, false_implies, implies_true, and_self, Int.reduceLT, Int.reduceLE, Int.reduceEq, Int.reduceNe, Int.reduceAdd, Int.reduceSub, Int.reduceMul, Int.reduceNeg, Int.reduceToNat, Int.toNat_natCast, ↓kk_ck, ↓kk_im, ↓kk_in, e_208, s_208_0, s_208_7, s_208_14, s_208_21, s_208_31, s_208_35, s_208_4, s_208_11, s_208_18, s_208_28, s_208_39, s_208_49, a1, a10, z1, k1, k2, k3, k4, ne_eq]
          exact hK
        · have k3 := fun {K : Option vi_V → vi_W → Prop} => @k_231f (d + 68) K z (Y, M, nn) h3
          simp only [Nat.add_assoc, Nat.reduceAdd] at k1 k2 k3
          simp (disch := omega) only [Option.toList_some, Option.toList_none, List.nil_append, List.cons_append, List.append_nil, true_and, and_true, not_true_eq_false, not_false_eq_true, true_implies, false_implies, implies_true, and_self, Int.reduceLT, Int.reduceLE, Int.reduceEq, Int.reduceNe, Int.reduceAdd, Int.reduceSub, Int.reduceMul, Int.reduceNeg, Int.reduceToNat, Int.toNat_natCast, ↓kk_ck, ↓kk_im, ↓kk_in, e_208, s_208_0, s_208_7, s_208_14, s_208_21, s_208_31, s_208_35, s_208_4, s_208_11, s_208_18, s_208_28, s_208_39, s_208_49, a1, a10, z1, k1, k2, k3, ne_eq]
          exact hK
      · have k2 := fun {K : Option vi_V → vi_W → Prop} => @k_231f (d + 68) K y (Y, M, nn) h2
        simp only [Nat.add_assoc, Nat.reduceAdd] at k1 k2
        simp (disch := omega) only [Option.toList_some, Option.toList_none, List.nil_append, List.cons_append, List.append_nil, true_and, and_true, not_true_eq_false, not_false_eq_true, true_implies, false_implies, implies_true, and_self, Int.reduceLT, Int.reduceLE, Int.reduceEq, Int.reduceNe, Int.reduceAdd, Int.reduceSub, Int.reduceMul, Int.reduceNeg, Int.reduceToNat, Int.toNat_natCast, ↓kk_ck, ↓kk_im, ↓kk_in, e_208, s_208_0, s_208_7, s_208_14, s_208_21, s_208_31, s_208_35, s_208_4, s_208_11, s_208_18, s_208_28, s_208_39, s_208_49, a1, a10, z1, k1, k2, ne_eq]
        exact hK
    · have k1 := fun {K : Option vi_V → vi_W → Prop} => @k_231f (d + 68) K x (Y, M, nn) h1
      simp only [Nat.add_assoc, Nat.reduceAdd] at k1
      simp (disch := omega) only [Option.toList_some, Option.toList_none, List.nil_append, List.cons_append, List.append_nil, true_and, and_true, not_true_eq_false, not_false_eq_true, true_implies, false_implies, implies_true, and_self, Int.reduceLT, Int.reduceLE, Int.reduceEq, Int.reduceNe, Int.reduceAdd, Int.reduceSub, Int.reduceMul, Int.reduceNeg, Int.reduceToNat, Int.toNat_natCast, ↓kk_ck, ↓kk_im, ↓kk_in, e_208, s_208_0, s_208_7, s_208_14, s_208_21, s_208_31, s_208_35, s_208_4, s_208_11, s_208_18, s_208_28, s_208_39, s_208_49, a1, a10, z1, k1, ne_eq]
      exact hK
end
