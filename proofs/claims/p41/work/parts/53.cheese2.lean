/-! Contracts of Cheese, second part: what is asked of it. -/
def sW : Nat → (Nat → Bool) → (Nat → Int) → Int
  | 0, _, _ => 0
  | k + 1, P, f => sW k P f + (if P k = true then f k else 0)
theorem sW_b {P : Nat → Bool} {f : Nat → Int} : ∀ {k : Nat}, (∀ c, c < k → P c = true → 1 ≤ f c ∧ f c ≤ 99) → 0 ≤ sW k P f ∧ sW k P f ≤ 99 * (k : Int)
  | 0, _ => by simp [sW]
  | k + 1, h => by
    have h1 := sW_b (k := k) (fun c hc => h c (by omega))
    rw [sW]
    split
    · rename_i hp
      have := h k (by omega) hp
      omega
    · omega
def bC (x : Nat) : Nat := sN 16 (fun i => x.testBit i)
section
variable {d : Nat} {K : Option vi_V → vi_W → Prop} {Y : vi_Y} {M : vi_M} {n : Nat × Nat} {P B R T : Nat → Bool}
theorem k_30 (hY : kY Y 73) (hP : M 66 = cR P) (hw : ∀ c, c < 216 → P c = true → 1 ≤ M 62 c ∧ M 62 c ≤ 99) : vi_call GG (d + 3) 30 [.inr (.inr 60)] (Y, M, n) K ↔ K (some (.inl (sW 216 P (M 62)))) (Y, M, n) := by
  obtain ⟨a1, a2, a3, a4, a5, a6, a7, a8, a9⟩ := y_60 hY (by omega)
  have p1 := kC_65 hY (by omega)
  refine vi_k (r := some (.inl _)) fun Q hQ => ?_
  rw [e_30, s_30_0]
  have key : ∀ c : Nat, c ≤ 216 → vi_ok GG (d + 2) 30 4 [some (.inr (.inr 60)), some (.inl (sW c P (M 62))), some (.inl (c : Int))] [] (Y, M, n) Q := by
    refine vi_dn 216 ?_ fun c hc ih => ?_
    · rw [s_30_4]
      simp (disch := omega) only [Option.toList_some, Option.toList_none, List.nil_append, List.cons_append, List.append_nil, true_and, and_true, not_true_eq_false, not_false_eq_true, true_implies, false_implies, implies_true, and_self, Int.reduceLT, Int.reduceLE, Int.reduceEq, Int.reduceNe, Int.reduceAdd, Int.reduceSub, Int.reduceMul, Int.reduceNeg, Int.reduceToNat, Int.toNat_natCast, ↓kk_ck, ↓kk_im, ↓kk_in, s_30_0, s_30_11, s_30_23, s_30_31, s_30_32, s_30_40, s_30_16, s_30_28, s_30_20]
      exact hQ
    · have hb := sW_b (k := c) (P := P) (f := M 62) (fun c' h => hw c' (by omega))
      have hx : sHas P (c : Int) = P c := by unfold sHas; rw [decide_eq_true (by omega), Bool.true_and, Int.toNat_natCast]
      rw [sW] at ih
      rw [s_30_4]
      cases hp : P c
      · rw [hp, if_neg (by simp), Int.add_zero] at ih
        simp (disch := omega) only [Option.toList_some, Option.toList_none, List.nil_append, List.cons_append, List.append_nil, true_and, and_true, not_true_eq_false, not_false_eq_true, true_implies, false_implies, implies_true, and_self, Int.reduceLT, Int.reduceLE, Int.reduceEq, Int.reduceNe, Int.reduceAdd, Int.reduceSub, Int.reduceMul, Int.reduceNeg, Int.reduceToNat, Int.toNat_natCast, ↓kk_ck, ↓kk_im, ↓kk_in, s_30_0, s_30_11, s_30_23, s_30_31, s_30_32, s_30_40, s_30_16, s_30_28, s_30_20, a1, a2, a3, a4, a5, a6, a7, a8, a9, p1.1, k_5 p1 hP, hx, hp, vi_bf, vi_inc, Int.add_zero, vi_32]
        exact ih
      · have := hw c hc hp
        rw [hp, if_pos rfl] at ih
        simp (disch := omega) only [Option.toList_some, Option.toList_none, List.nil_append, List.cons_append, List.append_nil, true_and, and_true, not_true_eq_false, not_false_eq_true, true_implies, false_implies, implies_true, and_self, Int.reduceLT, Int.reduceLE, Int.reduceEq, Int.reduceNe, Int.reduceAdd, Int.reduceSub, Int.reduceMul, Int.reduceNeg, Int.reduceToNat, Int.toNat_natCast, ↓kk_ck, ↓kk_im, ↓kk_in, s_30_0, s_30_11, s_30_23, s_30_31, s_30_32, s_30_40, s_30_16, s_30_28, s_30_20, a1, a2, a3, a4, a5, a6, a7, a8, a9, p1.1, k_5 p1 hP, hx, hp, vi_bt, vi_inc, k_29 hY hc, vi_32]
        exact ih
  exact key 0 (by omega)
theorem k_31 (hY : kY Y 73) (hB : M 64 = cR B) (hP : M 66 = cR P) (hR : M 70 = cR R) : vi_call GG (d + 3) 31 [.inr (.inr 60)] (Y, M, n) K ↔ K (some (.inl (sSd P (sDif B P) : Int))) (Y, vi_rs M 70 (cR (sDif B P)), n) := by
  obtain ⟨a1, a2, a3, a4, a5, a6, a7, a8, a9⟩ := y_60 hY (by omega)
  have p0 := kC_63 hY (by omega)
  have p1 := kC_65 hY (by omega)
  have p3 := kC_69 hY (by omega)
  have k4 := fun {K : Option vi_V → vi_W → Prop} => @k_4 (d + 1) 69 63 K Y M n R B p3 p0 (by omega) hR hB
  have k9 := fun {K : Option vi_V → vi_W → Prop} => @k_9 (d + 1) 69 65 K Y (vi_rs M 70 (cR B)) n B P p3 p1 (by omega) vi_rs_s (by rw [vi_rs_o (by omega)]; exact hP)
  have k14 := fun {K : Option vi_V → vi_W → Prop} => @k_14 d 65 69 K Y (vi_rs M 70 (cR (sDif B P))) n P (sDif B P) p1 p3 (by rw [vi_rs_o (by omega)]; exact hP) vi_rs_s
  simp only [Nat.add_assoc, Nat.reduceAdd] at k4 k9 k14
  refine vi_k (r := some (.inl _)) fun Q hQ => ?_
  simp (disch := omega) only [Option.toList_some, Option.toList_none, List.nil_append, List.cons_append, List.append_nil, true_and, and_true, not_true_eq_false, not_false_eq_true, true_implies, false_implies, implies_true, and_self, Int.reduceLT, Int.reduceLE, Int.reduceEq, Int.reduceNe, Int.reduceAdd, Int.reduceSub, Int.reduceMul, Int.reduceNeg, Int.reduceToNat, Int.toNat_natCast, ↓kk_ck, ↓kk_im, ↓kk_in, e_31, s_31_0, s_31_4, s_31_8, s_31_11, s_31_15, s_31_19, s_31_22, s_31_26, s_31_30, s_31_33, a1, a2, a3, a4, a5, a6, a7, a8, a9, p0.1, p1.1, p3.1, k4, k9, vi_rs_rs, k14]
  exact hQ
theorem k_32 (hY : kY Y 73) (hP : M 66 = cR P) (hR : M 70 = cR R) : vi_call GG (d + 3) 32 [.inr (.inr 60)] (Y, M, n) K ↔ K (some (.inl (sN 216 (sInn P) : Int))) (Y, vi_rs M 70 (cR (sInn P)), n) := by
  obtain ⟨a1, a2, a3, a4, a5, a6, a7, a8, a9⟩ := y_60 hY (by omega)
  have p1 := kC_65 hY (by omega)
  have p3 := kC_69 hY (by omega)
  have k4 := fun {K : Option vi_V → vi_W → Prop} => @k_4 (d + 1) 69 65 K Y M n R P p3 p1 (by omega) hR hP
  have k13 := fun {K : Option vi_V → vi_W → Prop} => @k_13 d 69 K Y (vi_rs M 70 (cR P)) n P p3 vi_rs_s
  have k11 := fun {K : Option vi_V → vi_W → Prop} => @k_11 d 69 K Y (vi_rs M 70 (cR (sInn P))) n (sInn P) p3 vi_rs_s
  simp only [Nat.add_assoc, Nat.reduceAdd] at k4 k13 k11
  refine vi_k (r := some (.inl _)) fun Q hQ => ?_
  simp (disch := omega) only [Option.toList_some, Option.toList_none, List.nil_append, List.cons_append, List.append_nil, true_and, and_true, not_true_eq_false, not_false_eq_true, true_implies, false_implies, implies_true, and_self, Int.reduceLT, Int.reduceLE, Int.reduceEq, Int.reduceNe, Int.reduceAdd, Int.reduceSub, Int.reduceMul, Int.reduceNeg, Int.reduceToNat, Int.toNat_natCast, ↓kk_ck, ↓kk_im, ↓kk_in, e_32, s_32_0, s_32_4, s_32_8, s_32_11, s_32_15, s_32_18, s_32_22, s_32_25, a1, a2, a3, a4, a5, a6, a7, a8, a9, p1.1, p3.1, k4, k13, vi_rs_rs, k11]
  exact hQ
theorem k_33 (hY : kY Y 73) (hb : gB (M 30 8) (M 30 9) (M 30 10)) (hP : M 66 = cR P) {a u v : Int} : vi_call GG (d + 3) 33 [.inr (.inr 60), .inl a, .inl u, .inl v] (Y, M, n) K ↔ K (some (.inl (sN 6 (fun l => sHas P (gOn (M 30 8) (M 30 9) (M 30 10) a (l : Int) u v)) : Int))) (Y, M, n) := by
  obtain ⟨a1, a2, a3, a4, a5, a6, a7, a8, a9⟩ := y_60 hY (by omega)
  have b1 := (y_30 hY (by omega)).1
  have p1 := kC_65 hY (by omega)
  refine vi_k (r := some (.inl _)) fun Q hQ => ?_
  rw [e_33, s_33_0]
  have key : ∀ l : Nat, l ≤ 6 → vi_ok GG (d + 2) 33 6 [some (.inr (.inr 60)), some (.inl a), some (.inl u), some (.inl v), some (.inl (sN l (fun l => sHas P (gOn (M 30 8) (M 30 9) (M 30 10) a (l : Int) u v)) : Int)), some (.inl (l : Int))] [] (Y, M, n) Q := by
    refine vi_dn 6 ?_ fun l hl ih => ?_
    · rw [s_33_6]
      simp (disch := omega) only [Option.toList_some, Option.toList_none, List.nil_append, List.cons_append, List.append_nil, true_and, and_true, not_true_eq_false, not_false_eq_true, true_implies, false_implies, implies_true, and_self, Int.reduceLT, Int.reduceLE, Int.reduceEq, Int.reduceNe, Int.reduceAdd, Int.reduceSub, Int.reduceMul, Int.reduceNeg, Int.reduceToNat, Int.toNat_natCast, ↓kk_ck, ↓kk_im, ↓kk_in, s_33_0, s_33_13, s_33_37, s_33_41, s_33_42, s_33_51, s_33_19, s_33_23, s_33_31, s_33_34]
      exact hQ
    · have hb2 := sN_le l (fun l => sHas P (gOn (M 30 8) (M 30 9) (M 30 10) a (l : Int) u v))
      rw [sN_s] at ih
      rw [s_33_6]
      cases hp : sHas P (gOn (M 30 8) (M 30 9) (M 30 10) a (l : Int) u v)
      · rw [hp, Bool.toNat_false, Nat.add_zero] at ih
        simp (disch := omega) only [Option.toList_some, Option.toList_none, List.nil_append, List.cons_append, List.append_nil, true_and, and_true, not_true_eq_false, not_false_eq_true, true_implies, false_implies, implies_true, and_self, Int.reduceLT, Int.reduceLE, Int.reduceEq, Int.reduceNe, Int.reduceAdd, Int.reduceSub, Int.reduceMul, Int.reduceNeg, Int.reduceToNat, Int.toNat_natCast, ↓kk_ck, ↓kk_im, ↓kk_in, s_33_0, s_33_13, s_33_37, s_33_41, s_33_42, s_33_51, s_33_19, s_33_23, s_33_31, s_33_34, a1, a2, a3, a4, a5, a6, a7, a8, a9, b1, p1.1, k_52 b1 hb, k_5 p1 hP, hp, vi_bf, vi_inc, Int.add_zero, vi_32]
        exact ih
      · rw [hp, Bool.toNat_true] at ih
        simp (disch := omega) only [Option.toList_some, Option.toList_none, List.nil_append, List.cons_append, List.append_nil, true_and, and_true, not_true_eq_false, not_false_eq_true, true_implies, false_implies, implies_true, and_self, Int.reduceLT, Int.reduceLE, Int.reduceEq, Int.reduceNe, Int.reduceAdd, Int.reduceSub, Int.reduceMul, Int.reduceNeg, Int.reduceToNat, Int.toNat_natCast, ↓kk_ck, ↓kk_im, ↓kk_in, s_33_0, s_33_13, s_33_37, s_33_41, s_33_42, s_33_51, s_33_19, s_33_23, s_33_31, s_33_34, a1, a2, a3, a4, a5, a6, a7, a8, a9, b1, p1.1, k_52 b1 hb, k_5 p1 hP, hp, vi_bt, vi_inc, vi_32]
        exact ih
  exact key 0 (by omega)
theorem gSd_r {x y z c : Int} : 0 ≤ gSd x y z c ∧ gSd x y z c < 64 := by
  have r1 := gE_r (c % 6) x
  have r2 := gE_r (c / 6 % 6) y
  have r3 := gE_r (c / 36) z
  unfold gSd
  omega
end
