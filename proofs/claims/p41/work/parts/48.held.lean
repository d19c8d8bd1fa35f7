/-! Contracts of Held: sizes, places, cells on lines. -/
def gSz (x y z a : Int) : Int := if a = 0 then x else if a = 1 then y else z
def gU (x y _z a : Int) : Int := if a = 0 then y else x
def gV (_x y z a : Int) : Int := if a = 2 then y else z
def gPl (x y z a u v : Int) : Bool := decide (0 ≤ a ∧ a ≤ 2 ∧ 0 ≤ u ∧ u < gU x y z a ∧ 0 ≤ v ∧ v < gV x y z a)
def gCl (x y z c : Int) : Bool := decide (0 ≤ c ∧ c < 216 ∧ c % 6 < x ∧ c / 6 % 6 < y ∧ c / 36 < z)
def gX (a l u _v : Int) : Int := if a = 0 then l else u
def gY (a l u v : Int) : Int := if a = 0 then u else if a = 1 then l else v
def gZ (a l _u v : Int) : Int := if a = 2 then l else v
def gOn (x y z a l u v : Int) : Int := if 0 ≤ a ∧ a ≤ 2 ∧ 0 ≤ gX a l u v ∧ gX a l u v < x ∧ 0 ≤ gY a l u v ∧ gY a l u v < y ∧ 0 ≤ gZ a l u v ∧ gZ a l u v < z then 36 * gZ a l u v + 6 * gY a l u v + gX a l u v else -1
def gOf (x y z : Int) (v : Nat → Int) (k : Int) : Int := if k < v 4 then gOn x y z (v 0) (if v 3 = 0 then k else gSz x y z (v 0) - 1 - k) (v 1 + k * v 5) (v 2) else -1
/-- a thing of six numbers that can stand as a hole -/
def gH (v : Nat → Int) : Prop := (0 ≤ v 0 ∧ v 0 ≤ 2) ∧ (0 ≤ v 1 ∧ v 1 < 6) ∧ (0 ≤ v 2 ∧ v 2 < 6) ∧ (0 ≤ v 3 ∧ v 3 ≤ 1) ∧ (1 ≤ v 4 ∧ v 4 ≤ 6) ∧ (-1 ≤ v 5 ∧ v 5 ≤ 1)
def gB (x y z : Int) : Prop := (1 ≤ x ∧ x ≤ 6) ∧ (1 ≤ y ∧ y ≤ 6) ∧ (1 ≤ z ∧ z ≤ 6)
def gE (p s : Int) : Int := (if p = 0 then 1 else 0) + (if p = s - 1 then 2 else 0)
def gSd (x y z c : Int) : Int := gE (c % 6) x + 4 * gE (c / 6 % 6) y + 16 * gE (c / 36) z
def kH (Y : vi_Y) (h : Nat) : Prop := Y.1 h = 22 ∧ ((Y.2.2 h 0).toNat = h + 1 ∧ kR Y (h + 1) 16) ∧ ((Y.2.2 h 1).toNat = h + 3 ∧ kR Y (h + 3) 8) ∧ ((Y.2.2 h 2).toNat = h + 5 ∧ kR Y (h + 5) 8) ∧ ((Y.2.2 h 3).toNat = h + 7 ∧ Y.1 (h + 7) = 1 ∧ (Y.2.1 (h + 7) : Int) = 108) ∧ ((Y.2.2 h 4).toNat = h + 8 ∧ Y.1 (h + 8) = 1 ∧ (Y.2.1 (h + 8) : Int) = 12) ∧ ((Y.2.2 h 5).toNat = h + 9 ∧ Y.1 (h + 9) = 7 ∧ (Y.2.1 (h + 9) : Int) = 6)
section
variable {d h : Nat} {K : Option vi_V → vi_W → Prop} {Y : vi_Y} {M : vi_M} {n : Nat × Nat}
theorem k_43 (h1 : Y.1 h = 22) {a : Int} : vi_call GG (d + 1) 43 [.inr (.inr h), .inl a] (Y, M, n) K ↔ K (some (.inl (gSz (M h 8) (M h 9) (M h 10) a))) (Y, M, n) := by
  refine vi_k (r := some (.inl _)) fun Q hQ => ?_
  unfold gSz at hQ
  by_cases a0 : a = 0
  · rw [if_pos a0] at hQ
    simp (disch := omega) only [Option.toList_some, Option.toList_none, List.nil_append, List.cons_append, List.append_nil, true_and, and_true, not_true_eq_false, not_false_eq_true, true_implies, false_implies, implies_true, and_self, Int.reduceLT, Int.reduceLE, Int.reduceEq, Int.reduceNe, Int.reduceAdd, Int.reduceSub, Int.reduceMul, Int.reduceNeg, Int.reduceToNat, Int.toNat_natCast, ↓kk_ck, ↓kk_im, ↓kk_in, e_43, s_43_0, s_43_4, s_43_11, s_43_16, s_43_23, s_43_27, s_43_8, s_43_20, h1, ne_eq]
    exact hQ
  · rw [if_neg a0] at hQ
    by_cases a1 : a = 1
    · rw [if_pos a1] at hQ
      simp (disch := omega) only [Option.toList_some, Option.toList_none, List.nil_append, List.cons_append, List.append_nil, true_and, and_true, not_true_eq_false, not_false_eq_true, true_implies, false_implies, implies_true, and_self, Int.reduceLT, Int.reduceLE, Int.reduceEq, Int.reduceNe, Int.reduceAdd, Int.reduceSub, Int.reduceMul, Int.reduceNeg, Int.reduceToNat, Int.toNat_natCast, ↓kk_ck, ↓kk_im, ↓kk_in, e_43, s_43_0, s_43_4, s_43_11, s_43_16, s_43_23, s_43_27, s_43_8, s_43_20, h1, ne_eq]
      exact hQ
    · rw [if_neg a1] at hQ
      simp (disch := omega) only [Option.toList_some, Option.toList_none, List.nil_append, List.cons_append, List.append_nil, true_and, and_true, not_true_eq_false, not_false_eq_true, true_implies, false_implies, implies_true, and_self, Int.reduceLT, Int.reduceLE, Int.reduceEq, Int.reduceNe, Int.reduceAdd, Int.reduceSub, Int.reduceMul, Int.reduceNeg, Int.reduceToNat, Int.toNat_natCast, ↓kk_ck, ↓kk_im, ↓kk_in, e_43, s_43_0, s_43_4, s_43_11, s_43_16, s_43_23, s_43_27, s_43_8, s_43_20, h1, ne_eq]
      exact hQ
theorem k_44 (h1 : Y.1 h = 22) {a : Int} : vi_call GG (d + 1) 44 [.inr (.inr h), .inl a] (Y, M, n) K ↔ K (some (.inl (gU (M h 8) (M h 9) (M h 10) a))) (Y, M, n) := by
  refine vi_k (r := some (.inl _)) fun Q hQ => ?_
  unfold gU at hQ
  by_cases a0 : a = 0
  · rw [if_pos a0] at hQ
    simp (disch := omega) only [Option.toList_some, Option.toList_none, List.nil_append, List.cons_append, List.append_nil, true_and, and_true, not_true_eq_false, not_false_eq_true, true_implies, false_implies, implies_true, and_self, Int.reduceLT, Int.reduceLE, Int.reduceEq, Int.reduceNe, Int.reduceAdd, Int.reduceSub, Int.reduceMul, Int.reduceNeg, Int.reduceToNat, Int.toNat_natCast, ↓kk_ck, ↓kk_im, ↓kk_in, e_44, s_44_0, s_44_4, s_44_11, s_44_15, s_44_8, h1, ne_eq]
    exact hQ
  · rw [if_neg a0] at hQ
    simp (disch := omega) only [Option.toList_some, Option.toList_none, List.nil_append, List.cons_append, List.append_nil, true_and, and_true, not_true_eq_false, not_false_eq_true, true_implies, false_implies, implies_true, and_self, Int.reduceLT, Int.reduceLE, Int.reduceEq, Int.reduceNe, Int.reduceAdd, Int.reduceSub, Int.reduceMul, Int.reduceNeg, Int.reduceToNat, Int.toNat_natCast, ↓kk_ck, ↓kk_im, ↓kk_in, e_44, s_44_0, s_44_4, s_44_11, s_44_15, s_44_8, h1, ne_eq]
    exact hQ
theorem k_45 (h1 : Y.1 h = 22) {a : Int} : vi_call GG (d + 1) 45 [.inr (.inr h), .inl a] (Y, M, n) K ↔ K (some (.inl (gV (M h 8) (M h 9) (M h 10) a))) (Y, M, n) := by
  refine vi_k (r := some (.inl _)) fun Q hQ => ?_
  unfold gV at hQ
  by_cases a0 : a = 2
  · rw [if_pos a0] at hQ
    simp (disch := omega) only [Option.toList_some, Option.toList_none, List.nil_append, List.cons_append, List.append_nil, true_and, and_true, not_true_eq_false, not_false_eq_true, true_implies, false_implies, implies_true, and_self, Int.reduceLT, Int.reduceLE, Int.reduceEq, Int.reduceNe, Int.reduceAdd, Int.reduceSub, Int.reduceMul, Int.reduceNeg, Int.reduceToNat, Int.toNat_natCast, ↓kk_ck, ↓kk_im, ↓kk_in, e_45, s_45_0, s_45_5, s_45_12, s_45_16, s_45_9, h1, ne_eq]
    exact hQ
  · rw [if_neg a0] at hQ
    simp (disch := omega) only [Option.toList_some, Option.toList_none, List.nil_append, List.cons_append, List.append_nil, true_and, and_true, not_true_eq_false, not_false_eq_true, true_implies, false_implies, implies_true, and_self, Int.reduceLT, Int.reduceLE, Int.reduceEq, Int.reduceNe, Int.reduceAdd, Int.reduceSub, Int.reduceMul, Int.reduceNeg, Int.reduceToNat, Int.toNat_natCast, ↓kk_ck, ↓kk_im, ↓kk_in, e_45, s_45_0, s_45_5, s_45_12, s_45_16, s_45_9, h1, ne_eq]
    exact hQ
theorem k_49 (h1 : Y.1 h = 22) {a u v : Int} : vi_call GG (d + 2) 49 [.inr (.inr h), .inl a, .inl u, .inl v] (Y, M, n) K ↔ K (some (.inl (vi_b (gPl (M h 8) (M h 9) (M h 10) a u v)))) (Y, M, n) := by
  refine vi_k (r := some (.inl _)) fun Q hQ => ?_
  unfold gPl at hQ
  by_cases c : 0 ≤ a ∧ a ≤ 2 ∧ 0 ≤ u ∧ u < gU (M h 8) (M h 9) (M h 10) a ∧ 0 ≤ v ∧ v < gV (M h 8) (M h 9) (M h 10) a
  · rw [vi_bp c] at hQ
    simp (disch := omega) only [Option.toList_some, Option.toList_none, List.nil_append, List.cons_append, List.append_nil, true_and, and_true, not_true_eq_false, not_false_eq_true, true_implies, false_implies, implies_true, and_self, Int.reduceLT, Int.reduceLE, Int.reduceEq, Int.reduceNe, Int.reduceAdd, Int.reduceSub, Int.reduceMul, Int.reduceNeg, Int.reduceToNat, Int.toNat_natCast, ↓kk_ck, ↓kk_im, ↓kk_in, e_49, s_49_0, s_49_4, s_49_9, s_49_13, s_49_22, s_49_26, s_49_35, s_49_39, s_49_40, s_49_19, s_49_32, h1, k_44 h1, k_45 h1]
    exact hQ
  · rw [vi_bn c] at hQ
    simp +contextual (disch := omega) only [Option.toList_some, Option.toList_none, List.nil_append, List.cons_append, List.append_nil, true_and, and_true, not_true_eq_false, not_false_eq_true, true_implies, false_implies, implies_true, and_self, Int.reduceLT, Int.reduceLE, Int.reduceEq, Int.reduceNe, Int.reduceAdd, Int.reduceSub, Int.reduceMul, Int.reduceNeg, Int.reduceToNat, Int.toNat_natCast, ↓kk_ck, ↓kk_im, ↓kk_in, e_49, s_49_0, s_49_4, s_49_9, s_49_13, s_49_22, s_49_26, s_49_35, s_49_39, s_49_40, s_49_19, s_49_32, h1, k_44 h1, k_45 h1]
    (repeat' first | exact hQ | intro _ | refine And.intro ?_ ?_ | (exfalso; omega))
theorem k_50 (h1 : Y.1 h = 22) {a u v e p : Int} : vi_call GG (d + 3) 50 [.inr (.inr h), .inl a, .inl u, .inl v, .inl e, .inl p] (Y, M, n) K ↔ K (some (.inl (vi_b (gPl (M h 8) (M h 9) (M h 10) a u v && decide (0 ≤ e ∧ e ≤ 1 ∧ 1 ≤ p ∧ p ≤ 6))))) (Y, M, n) := by
  refine vi_k (r := some (.inl _)) fun Q hQ => ?_
  cases hp : gPl (M h 8) (M h 9) (M h 10) a u v <;> rw [hp] at hQ
  · simp (disch := omega) only [Option.toList_some, Option.toList_none, List.nil_append, List.cons_append, List.append_nil, true_and, and_true, not_true_eq_false, not_false_eq_true, true_implies, false_implies, implies_true, and_self, Int.reduceLT, Int.reduceLE, Int.reduceEq, Int.reduceNe, Int.reduceAdd, Int.reduceSub, Int.reduceMul, Int.reduceNeg, Int.reduceToNat, Int.toNat_natCast, ↓kk_ck, ↓kk_im, ↓kk_in, e_50, s_50_0, s_50_10, s_50_15, s_50_21, s_50_27, s_50_34, s_50_38, s_50_39, s_50_7, h1, k_49 h1, hp, vi_bf]
    exact hQ
  · by_cases c : 0 ≤ e ∧ e ≤ 1 ∧ 1 ≤ p ∧ p ≤ 6
    · rw [decide_eq_true c] at hQ
      simp (disch := omega) only [Option.toList_some, Option.toList_none, List.nil_append, List.cons_append, List.append_nil, true_and, and_true, not_true_eq_false, not_false_eq_true, true_implies, false_implies, implies_true, and_self, Int.reduceLT, Int.reduceLE, Int.reduceEq, Int.reduceNe, Int.reduceAdd, Int.reduceSub, Int.reduceMul, Int.reduceNeg, Int.reduceToNat, Int.toNat_natCast, ↓kk_ck, ↓kk_im, ↓kk_in, e_50, s_50_0, s_50_10, s_50_15, s_50_21, s_50_27, s_50_34, s_50_38, s_50_39, s_50_7, h1, k_49 h1, hp, vi_bt]
      exact hQ
    · rw [decide_eq_false c] at hQ
      simp +contextual (disch := omega) only [Option.toList_some, Option.toList_none, List.nil_append, List.cons_append, List.append_nil, true_and, and_true, not_true_eq_false, not_false_eq_true, true_implies, false_implies, implies_true, and_self, Int.reduceLT, Int.reduceLE, Int.reduceEq, Int.reduceNe, Int.reduceAdd, Int.reduceSub, Int.reduceMul, Int.reduceNeg, Int.reduceToNat, Int.toNat_natCast, ↓kk_ck, ↓kk_im, ↓kk_in, e_50, s_50_0, s_50_10, s_50_15, s_50_21, s_50_27, s_50_34, s_50_38, s_50_39, s_50_7, h1, k_49 h1, hp, vi_bt]
      (repeat' first | exact hQ | intro _ | refine And.intro ?_ ?_ | (exfalso; omega))
theorem k_51 (h1 : Y.1 h = 22) {c : Int} : vi_call GG (d + 1) 51 [.inr (.inr h), .inl c] (Y, M, n) K ↔ K (some (.inl (vi_b (gCl (M h 8) (M h 9) (M h 10) c)))) (Y, M, n) := by
  refine vi_k (r := some (.inl _)) fun Q hQ => ?_
  unfold gCl at hQ
  by_cases hc : 0 ≤ c ∧ c < 216
  · by_cases c2 : c % 6 < M h 8 ∧ c / 6 % 6 < M h 9 ∧ c / 36 < M h 10
    · rw [vi_bp ⟨hc.1, hc.2, c2⟩] at hQ
      simp (disch := omega) only [Option.toList_some, Option.toList_none, List.nil_append, List.cons_append, List.append_nil, true_and, and_true, not_true_eq_false, not_false_eq_true, true_implies, false_implies, implies_true, and_self, Int.reduceLT, Int.reduceLE, Int.reduceEq, Int.reduceNe, Int.reduceAdd, Int.reduceSub, Int.reduceMul, Int.reduceNeg, Int.reduceToNat, Int.toNat_natCast, ↓kk_ck, ↓kk_im, ↓kk_in, e_51, s_51_0, s_51_4, s_51_11, s_51_22, s_51_36, s_51_47, s_51_51, s_51_52, s_51_19, s_51_33, s_51_44, h1, vi_td, vi_tm, vi_32]
      exact hQ
    · rw [vi_bn (fun k => c2 k.2.2)] at hQ
      simp +contextual (disch := omega) only [Option.toList_some, Option.toList_none, List.nil_append, List.cons_append, List.append_nil, true_and, and_true, not_true_eq_false, not_false_eq_true, true_implies, false_implies, implies_true, and_self, Int.reduceLT, Int.reduceLE, Int.reduceEq, Int.reduceNe, Int.reduceAdd, Int.reduceSub, Int.reduceMul, Int.reduceNeg, Int.reduceToNat, Int.toNat_natCast, ↓kk_ck, ↓kk_im, ↓kk_in, e_51, s_51_0, s_51_4, s_51_11, s_51_22, s_51_36, s_51_47, s_51_51, s_51_52, s_51_19, s_51_33, s_51_44, h1, vi_td, vi_tm, vi_32]
      (repeat' first | exact hQ | intro _ | refine And.intro ?_ ?_ | (exfalso; omega))
  · rw [vi_bn (fun k => hc ⟨k.1, k.2.1⟩)] at hQ
    by_cases c0 : c < 0
    · simp (disch := omega) only [Option.toList_some, Option.toList_none, List.nil_append, List.cons_append, List.append_nil, true_and, and_true, not_true_eq_false, not_false_eq_true, true_implies, false_implies, implies_true, and_self, Int.reduceLT, Int.reduceLE, Int.reduceEq, Int.reduceNe, Int.reduceAdd, Int.reduceSub, Int.reduceMul, Int.reduceNeg, Int.reduceToNat, Int.toNat_natCast, ↓kk_ck, ↓kk_im, ↓kk_in, e_51, s_51_0, s_51_4, s_51_11, s_51_22, s_51_36, s_51_47, s_51_51, s_51_52, s_51_19, s_51_33, s_51_44, h1]
      exact hQ
    · simp (disch := omega) only [Option.toList_some, Option.toList_none, List.nil_append, List.cons_append, List.append_nil, true_and, and_true, not_true_eq_false, not_false_eq_true, true_implies, false_implies, implies_true, and_self, Int.reduceLT, Int.reduceLE, Int.reduceEq, Int.reduceNe, Int.reduceAdd, Int.reduceSub, Int.reduceMul, Int.reduceNeg, Int.reduceToNat, Int.toNat_natCast, ↓kk_ck, ↓kk_im, ↓kk_in, e_51, s_51_0, s_51_4, s_51_11, s_51_22, s_51_36, s_51_47, s_51_51, s_51_52, s_51_19, s_51_33, s_51_44, h1]
      exact hQ
theorem k_52 (h1 : Y.1 h = 22) (hb : gB (M h 8) (M h 9) (M h 10)) {a l u v : Int} : vi_call GG (d + 1) 52 [.inr (.inr h), .inl a, .inl l, .inl u, .inl v] (Y, M, n) K ↔ K (some (.inl (gOn (M h 8) (M h 9) (M h 10) a l u v))) (Y, M, n) := by
  obtain ⟨b1, b2, b3⟩ := hb
  refine vi_k (r := some (.inl _)) fun Q hQ => ?_
  have main : ∀ X Z W : Int, gX a l u v = X → gY a l u v = Z → gZ a l u v = W → vi_ok GG d 52 43 [some (.inr (.inr h)), some (.inl a), some (.inl l), some (.inl u), some (.inl v), some (.inl X), some (.inl Z), none, none] [.inl W] (Y, M, n) Q := by
    intro X Z W e1 e2 e3
    unfold gOn at hQ
    rw [e1, e2, e3] at hQ
    by_cases c : 0 ≤ a ∧ a ≤ 2 ∧ 0 ≤ X ∧ X < M h 8 ∧ 0 ≤ Z ∧ Z < M h 9 ∧ 0 ≤ W ∧ W < M h 10
    · rw [if_pos c] at hQ
      simp (disch := omega) only [Option.toList_some, Option.toList_none, List.nil_append, List.cons_append, List.append_nil, true_and, and_true, not_true_eq_false, not_false_eq_true, true_implies, false_implies, implies_true, and_self, Int.reduceLT, Int.reduceLE, Int.reduceEq, Int.reduceNe, Int.reduceAdd, Int.reduceSub, Int.reduceMul, Int.reduceNeg, Int.reduceToNat, Int.toNat_natCast, ↓kk_ck, ↓kk_im, ↓kk_in, s_52_0, s_52_4, s_52_8, s_52_9, s_52_15, s_52_19, s_52_24, s_52_28, s_52_30, s_52_37, s_52_41, s_52_43, s_52_50, s_52_59, s_52_64, s_52_73, s_52_78, s_52_87, s_52_91, s_52_92, s_52_99, s_52_103, s_52_108, s_52_125, s_52_126, s_52_56, s_52_70, s_52_84, h1, vi_32]
      exact hQ
    · rw [if_neg c] at hQ
      simp +contextual (disch := omega) only [Option.toList_some, Option.toList_none, List.nil_append, List.cons_append, List.append_nil, true_and, and_true, not_true_eq_false, not_false_eq_true, true_implies, false_implies, implies_true, and_self, Int.reduceLT, Int.reduceLE, Int.reduceEq, Int.reduceNe, Int.reduceAdd, Int.reduceSub, Int.reduceMul, Int.reduceNeg, Int.reduceToNat, Int.toNat_natCast, ↓kk_ck, ↓kk_im, ↓kk_in, s_52_0, s_52_4, s_52_8, s_52_9, s_52_15, s_52_19, s_52_24, s_52_28, s_52_30, s_52_37, s_52_41, s_52_43, s_52_50, s_52_59, s_52_64, s_52_73, s_52_78, s_52_87, s_52_91, s_52_92, s_52_99, s_52_103, s_52_108, s_52_125, s_52_126, s_52_56, s_52_70, s_52_84, h1]
      (repeat' first | exact hQ | intro _ | refine And.intro ?_ ?_ | (exfalso; omega))
  rw [e_52]
  by_cases a0 : a = 0
  · have := main l u v (if_pos a0) (if_pos a0) (if_neg (by omega))
    simp (disch := omega) only [Option.toList_some, Option.toList_none, List.nil_append, List.cons_append, List.append_nil, true_and, and_true, not_true_eq_false, not_false_eq_true, true_implies, false_implies, implies_true, and_self, Int.reduceLT, Int.reduceLE, Int.reduceEq, Int.reduceNe, Int.reduceAdd, Int.reduceSub, Int.reduceMul, Int.reduceNeg, Int.reduceToNat, Int.toNat_natCast, ↓kk_ck, ↓kk_im, ↓kk_in, s_52_0, s_52_4, s_52_9, s_52_15, s_52_30, s_52_41, ne_eq]
    exact this
  · by_cases a1 : a = 1
    · have := main u l v (if_neg a0) (by unfold gY; rw [if_neg a0, if_pos a1]) (if_neg (by omega))
      simp (disch := omega) only [Option.toList_some, Option.toList_none, List.nil_append, List.cons_append, List.append_nil, true_and, and_true, not_true_eq_false, not_false_eq_true, true_implies, false_implies, implies_true, and_self, Int.reduceLT, Int.reduceLE, Int.reduceEq, Int.reduceNe, Int.reduceAdd, Int.reduceSub, Int.reduceMul, Int.reduceNeg, Int.reduceToNat, Int.toNat_natCast, ↓kk_ck, ↓kk_im, ↓kk_in, s_52_0, s_52_8, s_52_9, s_52_19, s_52_24, s_52_30, s_52_41, ne_eq]
      exact this
    · by_cases a2 : a = 2
      · have := main u v l (if_neg a0) (by unfold gY; rw [if_neg a0, if_neg a1]) (if_pos a2)
        simp (disch := omega) only [Option.toList_some, Option.toList_none, List.nil_append, List.cons_append, List.append_nil, true_and, and_true, not_true_eq_false, not_false_eq_true, true_implies, false_implies, implies_true, and_self, Int.reduceLT, Int.reduceLE, Int.reduceEq, Int.reduceNe, Int.reduceAdd, Int.reduceSub, Int.reduceMul, Int.reduceNeg, Int.reduceToNat, Int.toNat_natCast, ↓kk_ck, ↓kk_im, ↓kk_in, s_52_0, s_52_8, s_52_9, s_52_19, s_52_28, s_52_30, s_52_37, ne_eq]
        exact this
      · have := main u v v (if_neg a0) (by unfold gY; rw [if_neg a0, if_neg a1]) (if_neg a2)
        simp (disch := omega) only [Option.toList_some, Option.toList_none, List.nil_append, List.cons_append, List.append_nil, true_and, and_true, not_true_eq_false, not_false_eq_true, true_implies, false_implies, implies_true, and_self, Int.reduceLT, Int.reduceLE, Int.reduceEq, Int.reduceNe, Int.reduceAdd, Int.reduceSub, Int.reduceMul, Int.reduceNeg, Int.reduceToNat, Int.toNat_natCast, ↓kk_ck, ↓kk_im, ↓kk_in, s_52_0, s_52_8, s_52_9, s_52_19, s_52_28, s_52_30, s_52_41, ne_eq]
        exact this
theorem k_53 (h1 : Y.1 h = 22) (hb : gB (M h 8) (M h 9) (M h 10)) {q lim : Nat} {L : List (Nat → Int)} (hq : kR Y q lim) (hr : rOK (M q) (M (q + 1)) L) (hl : L.length ≤ lim) {r k : Nat} (hrl : r < L.length) (hg : gH (rL L r)) (hk : k < 6) : vi_call GG (d + 2) 53 [.inr (.inr h), .inr (.inr q), .inl (r : Int), .inl (k : Int)] (Y, M, n) K ↔ K (some (.inl (gOf (M h 8) (M h 9) (M h 10) (rL L r) (k : Int)))) (Y, M, n) := by
  have i1 := hq.1
  obtain ⟨g0, g1, g2, g3, g4, g5⟩ := hg
  have N := fun {K : Option vi_V → vi_W → Prop} (j : Nat) (hj : j < 6) => @k_151 d q lim K Y M n L hq hr hl (r : Int) j hj
  have e : ∀ j, rNum L (r : Int) j = rL L r j := fun j => by unfold rNum; rw [if_pos (by omega), Int.toNat_natCast]
  have N0 := fun {K : Option vi_V → vi_W → Prop} => @N K 0 (by omega)
  have N1 := fun {K : Option vi_V → vi_W → Prop} => @N K 1 (by omega)
  have N2 := fun {K : Option vi_V → vi_W → Prop} => @N K 2 (by omega)
  have N3 := fun {K : Option vi_V → vi_W → Prop} => @N K 3 (by omega)
  have N4 := fun {K : Option vi_V → vi_W → Prop} => @N K 4 (by omega)
  have N5 := fun {K : Option vi_V → vi_W → Prop} => @N K 5 (by omega)
  rw [e, show ((0 : Nat) : Int) = 0 from rfl] at N0
  rw [e, show ((1 : Nat) : Int) = 1 from rfl] at N1
  rw [e, show ((2 : Nat) : Int) = 2 from rfl] at N2
  rw [e, show ((3 : Nat) : Int) = 3 from rfl] at N3
  rw [e, show ((4 : Nat) : Int) = 4 from rfl] at N4
  rw [e, show ((5 : Nat) : Int) = 5 from rfl] at N5
  refine vi_k (r := some (.inl _)) fun Q hQ => ?_
  unfold gOf at hQ
  have hm : -6 ≤ (k : Int) * rL L r 5 ∧ (k : Int) * rL L r 5 ≤ 6 := by
    obtain h5 | h5 | h5 : rL L r 5 = -1 ∨ rL L r 5 = 0 ∨ rL L r 5 = 1 := by omega
    all_goals rw [h5]; omega
  by_cases c : (k : Int) < rL L r 4
  · rw [if_pos c] at hQ
    by_cases c3 : rL L r 3 = 0
    · rw [if_pos c3] at hQ
      simp (disch := omega) only [Option.toList_some, Option.toList_none, List.nil_append, List.cons_append, List.append_nil, true_and, and_true, not_true_eq_false, not_false_eq_true, true_implies, false_implies, implies_true, and_self, Int.reduceLT, Int.reduceLE, Int.reduceEq, Int.reduceNe, Int.reduceAdd, Int.reduceSub, Int.reduceMul, Int.reduceNeg, Int.reduceToNat, Int.toNat_natCast, ↓kk_ck, ↓kk_im, ↓kk_in, e_53, s_53_0, s_53_4, s_53_14, s_53_16, s_53_33, s_53_37, s_53_47, s_53_11, s_53_22, s_53_43, s_53_55, s_53_30, s_53_62, s_53_79, s_53_82, i1, N0, N1, N2, N3, N4, N5, k_52 h1 hb, vi_32, ne_eq]
      exact hQ
    · rw [if_neg c3] at hQ
      have hs : 1 ≤ gSz (M h 8) (M h 9) (M h 10) (rL L r 0) ∧ gSz (M h 8) (M h 9) (M h 10) (rL L r 0) ≤ 6 := by
        obtain ⟨b1, b2, b3⟩ := hb
        unfold gSz
        split
        · exact b1
        · split
          · exact b2
          · exact b3
      simp (disch := omega) only [Option.toList_some, Option.toList_none, List.nil_append, List.cons_append, List.append_nil, true_and, and_true, not_true_eq_false, not_false_eq_true, true_implies, false_implies, implies_true, and_self, Int.reduceLT, Int.reduceLE, Int.reduceEq, Int.reduceNe, Int.reduceAdd, Int.reduceSub, Int.reduceMul, Int.reduceNeg, Int.reduceToNat, Int.toNat_natCast, ↓kk_ck, ↓kk_im, ↓kk_in, e_53, s_53_0, s_53_4, s_53_14, s_53_16, s_53_33, s_53_37, s_53_47, s_53_11, s_53_22, s_53_43, s_53_55, s_53_30, s_53_62, s_53_79, s_53_82, i1, N0, N1, N2, N3, N4, N5, k_43 h1, k_52 h1 hb, vi_32, ne_eq]
      exact hQ
  · rw [if_neg c] at hQ
    simp (disch := omega) only [Option.toList_some, Option.toList_none, List.nil_append, List.cons_append, List.append_nil, true_and, and_true, not_true_eq_false, not_false_eq_true, true_implies, false_implies, implies_true, and_self, Int.reduceLT, Int.reduceLE, Int.reduceEq, Int.reduceNe, Int.reduceAdd, Int.reduceSub, Int.reduceMul, Int.reduceNeg, Int.reduceToNat, Int.toNat_natCast, ↓kk_ck, ↓kk_im, ↓kk_in, e_53, s_53_0, s_53_4, s_53_14, s_53_16, s_53_33, s_53_37, s_53_47, s_53_11, s_53_22, s_53_43, s_53_55, s_53_30, s_53_62, s_53_79, s_53_82, i1, N4]
    exact hQ
theorem o_e1 : vi_or32 (1 : Int) (2 : Int) = 3 := by decide
theorem o_e2 : vi_or32 (1 : Int) (0 : Int) = 1 := by decide
theorem o_e3 : vi_or32 (0 : Int) (2 : Int) = 2 := by decide
theorem o_e4 : vi_or32 (0 : Int) (0 : Int) = 0 := by decide
theorem gE_r (p s : Int) : 0 ≤ gE p s ∧ gE p s ≤ 3 := by unfold gE; split <;> split <;> omega
theorem k_56 {p s : Int} {w : vi_W} (hs : 1 ≤ s ∧ s ≤ 6) : vi_call GG (d + 1) 56 [.inl p, .inl s] w K ↔ K (some (.inl (gE p s))) w := by
  obtain ⟨Y, M, n⟩ := w
  refine vi_k (r := some (.inl _)) fun Q hQ => ?_
  unfold gE at hQ
  by_cases c1 : p = 0 <;> by_cases c2 : p = s - 1 <;> simp only [c1, c2, if_true, if_false, Int.reduceAdd] at hQ
  · rw [if_pos (by omega)] at hQ
    simp (disch := omega) only [Option.toList_some, Option.toList_none, List.nil_append, List.cons_append, List.append_nil, true_and, and_true, not_true_eq_false, not_false_eq_true, true_implies, false_implies, implies_true, and_self, Int.reduceLT, Int.reduceLE, Int.reduceEq, Int.reduceNe, Int.reduceAdd, Int.reduceSub, Int.reduceMul, Int.reduceNeg, Int.reduceToNat, Int.toNat_natCast, ↓kk_ck, ↓kk_im, ↓kk_in, e_56, s_56_0, s_56_4, s_56_8, s_56_9, s_56_16, s_56_20, s_56_21, s_56_13, vi_32, o_e1, o_e2, o_e3, o_e4, ne_eq]
    exact hQ
  · rw [if_neg (by omega)] at hQ
    simp (disch := omega) only [Option.toList_some, Option.toList_none, List.nil_append, List.cons_append, List.append_nil, true_and, and_true, not_true_eq_false, not_false_eq_true, true_implies, false_implies, implies_true, and_self, Int.reduceLT, Int.reduceLE, Int.reduceEq, Int.reduceNe, Int.reduceAdd, Int.reduceSub, Int.reduceMul, Int.reduceNeg, Int.reduceToNat, Int.toNat_natCast, ↓kk_ck, ↓kk_im, ↓kk_in, e_56, s_56_0, s_56_4, s_56_8, s_56_9, s_56_16, s_56_20, s_56_21, s_56_13, vi_32, o_e1, o_e2, o_e3, o_e4, ne_eq]
    exact hQ
  · rw [if_neg (by omega)] at hQ
    simp (disch := omega) only [Option.toList_some, Option.toList_none, List.nil_append, List.cons_append, List.append_nil, true_and, and_true, not_true_eq_false, not_false_eq_true, true_implies, false_implies, implies_true, and_self, Int.reduceLT, Int.reduceLE, Int.reduceEq, Int.reduceNe, Int.reduceAdd, Int.reduceSub, Int.reduceMul, Int.reduceNeg, Int.reduceToNat, Int.toNat_natCast, ↓kk_ck, ↓kk_im, ↓kk_in, e_56, s_56_0, s_56_4, s_56_8, s_56_9, s_56_16, s_56_20, s_56_21, s_56_13, vi_32, o_e1, o_e2, o_e3, o_e4, ne_eq]
    exact hQ
  · simp (disch := omega) only [Option.toList_some, Option.toList_none, List.nil_append, List.cons_append, List.append_nil, true_and, and_true, not_true_eq_false, not_false_eq_true, true_implies, false_implies, implies_true, and_self, Int.reduceLT, Int.reduceLE, Int.reduceEq, Int.reduceNe, Int.reduceAdd, Int.reduceSub, Int.reduceMul, Int.reduceNeg, Int.reduceToNat, Int.toNat_natCast, ↓kk_ck, ↓kk_im, ↓kk_in, e_56, s_56_0, s_56_4, s_56_8, s_56_9, s_56_16, s_56_20, s_56_21, s_56_13, vi_32, o_e1, o_e2, o_e3, o_e4, ne_eq]
    exact hQ
theorem o_s2 : ∀ a, a < 4 → ∀ b, b < 4 → vi_or32 ((a : Nat) : Int) (vi_shl32 ((b : Nat) : Int) 2) = ((a + 4 * b : Nat) : Int) := by decide +kernel
theorem o_s4 : ∀ a, a < 16 → ∀ b, b < 4 → vi_or32 ((a : Nat) : Int) (vi_shl32 ((b : Nat) : Int) 4) = ((a + 16 * b : Nat) : Int) := by decide +kernel
theorem k_55 (h1 : Y.1 h = 22) (hb : gB (M h 8) (M h 9) (M h 10)) {c : Int} (hc : 0 ≤ c ∧ c < 216) : vi_call GG (d + 2) 55 [.inr (.inr h), .inl c] (Y, M, n) K ↔ K (some (.inl (gSd (M h 8) (M h 9) (M h 10) c))) (Y, M, n) := by
  obtain ⟨b1, b2, b3⟩ := hb
  refine vi_k (r := some (.inl _)) fun Q hQ => ?_
  have r1 := gE_r (c % 6) (M h 8)
  have r2 := gE_r (c / 6 % 6) (M h 9)
  have r3 := gE_r (c / 36) (M h 10)
  have e1 : vi_or32 (gE (c % 6) (M h 8)) (vi_shl32 (gE (c / 6 % 6) (M h 9)) 2) = gE (c % 6) (M h 8) + 4 * gE (c / 6 % 6) (M h 9) := by
    have := o_s2 (gE (c % 6) (M h 8)).toNat (by omega) (gE (c / 6 % 6) (M h 9)).toNat (by omega)
    rw [Int.toNat_of_nonneg r1.1, Int.toNat_of_nonneg r2.1] at this
    rw [this]; omega
  have e2 : vi_or32 (gE (c % 6) (M h 8) + 4 * gE (c / 6 % 6) (M h 9)) (vi_shl32 (gE (c / 36) (M h 10)) 4) = gSd (M h 8) (M h 9) (M h 10) c := by
    have := o_s4 (gE (c % 6) (M h 8) + 4 * gE (c / 6 % 6) (M h 9)).toNat (by omega) (gE (c / 36) (M h 10)).toNat (by omega)
    rw [Int.toNat_of_nonneg (by omega), Int.toNat_of_nonneg r3.1] at this
    rw [this]; unfold gSd; omega
  simp (disch := omega) only [Option.toList_some, Option.toList_none, List.nil_append, List.cons_append, List.append_nil, true_and, and_true, not_true_eq_false, not_false_eq_true, true_implies, false_implies, implies_true, and_self, Int.reduceLT, Int.reduceLE, Int.reduceEq, Int.reduceNe, Int.reduceAdd, Int.reduceSub, Int.reduceMul, Int.reduceNeg, Int.reduceToNat, Int.toNat_natCast, ↓kk_ck, ↓kk_im, ↓kk_in, e_55, s_55_0, s_55_8, s_55_11, s_55_22, s_55_25, s_55_36, s_55_39, h1, vi_td, vi_tm, vi_32, k_56 b1, k_56 b2, k_56 b3, e1, e2]
  exact hQ
theorem k_48 (h1 : Y.1 h = 22) {x : Int} : vi_call GG (d + 1) 48 [.inr (.inr h), .inl x] (Y, M, n) K ↔ K (some (.inl (M h 11))) (Y, vi_rs M h (vi_u (M h) 11 x), n) := by
  refine vi_k (r := some (.inl _)) fun Q hQ => ?_
  simp (disch := omega) only [Option.toList_some, Option.toList_none, List.nil_append, List.cons_append, List.append_nil, true_and, and_true, not_true_eq_false, not_false_eq_true, true_implies, false_implies, implies_true, and_self, Int.reduceLT, Int.reduceLE, Int.reduceEq, Int.reduceNe, Int.reduceAdd, Int.reduceSub, Int.reduceMul, Int.reduceNeg, Int.reduceToNat, Int.toNat_natCast, ↓kk_ck, ↓kk_im, ↓kk_in, e_48, s_48_0, s_48_4, s_48_10, h1, vi_ms_rs]
  exact hQ
theorem k_66 (h1 : Y.1 h = 22) {x : Int} : vi_call GG (d + 1) 66 [.inr (.inr h), .inl x] (Y, M, n) K ↔ K (some (.inl (M h 7))) (Y, vi_rs M h (vi_u (M h) 7 x), n) := by
  refine vi_k (r := some (.inl _)) fun Q hQ => ?_
  simp (disch := omega) only [Option.toList_some, Option.toList_none, List.nil_append, List.cons_append, List.append_nil, true_and, and_true, not_true_eq_false, not_false_eq_true, true_implies, false_implies, implies_true, and_self, Int.reduceLT, Int.reduceLE, Int.reduceEq, Int.reduceNe, Int.reduceAdd, Int.reduceSub, Int.reduceMul, Int.reduceNeg, Int.reduceToNat, Int.toNat_natCast, ↓kk_ck, ↓kk_im, ↓kk_in, e_66, s_66_0, s_66_4, s_66_10, h1, vi_ms_rs]
  exact hQ
theorem k_62 (hh : kH Y h) : vi_call GG (d + 1) 62 [.inr (.inr h)] (Y, M, n) K ↔ K (some (.inl (vi_b (decide (6 ≤ M h 6))))) (Y, M, n) := by
  obtain ⟨h1, -, -, -, -, -, ⟨d1, d2, d3⟩⟩ := hh
  refine vi_k (r := some (.inl _)) fun Q hQ => ?_
  by_cases c : 6 ≤ M h 6
  · rw [vi_bp c] at hQ
    simp (disch := omega) only [Option.toList_some, Option.toList_none, List.nil_append, List.cons_append, List.append_nil, true_and, and_true, not_true_eq_false, not_false_eq_true, true_implies, false_implies, implies_true, and_self, Int.reduceLT, Int.reduceLE, Int.reduceEq, Int.reduceNe, Int.reduceAdd, Int.reduceSub, Int.reduceMul, Int.reduceNeg, Int.reduceToNat, Int.toNat_natCast, ↓kk_ck, ↓kk_im, ↓kk_in, e_62, s_62_0, s_62_12, s_62_16, s_62_17, s_62_4, s_62_8, s_62_9, h1, d1, d2, d3]
    exact hQ
  · rw [vi_bn c] at hQ
    simp (disch := omega) only [Option.toList_some, Option.toList_none, List.nil_append, List.cons_append, List.append_nil, true_and, and_true, not_true_eq_false, not_false_eq_true, true_implies, false_implies, implies_true, and_self, Int.reduceLT, Int.reduceLE, Int.reduceEq, Int.reduceNe, Int.reduceAdd, Int.reduceSub, Int.reduceMul, Int.reduceNeg, Int.reduceToNat, Int.toNat_natCast, ↓kk_ck, ↓kk_im, ↓kk_in, e_62, s_62_0, s_62_12, s_62_16, s_62_17, s_62_4, s_62_8, s_62_9, h1, d1, d2, d3]
    exact hQ
theorem k_63 (h1 : Y.1 h = 22) {x : Int} : vi_call GG (d + 1) 63 [.inr (.inr h), .inl x] (Y, M, n) K ↔ K (some (.inl (vi_b (decide (0 ≤ x ∧ x < M h 6))))) (Y, M, n) := by
  refine vi_k (r := some (.inl _)) fun Q hQ => ?_
  by_cases c : 0 ≤ x ∧ x < M h 6
  · rw [vi_bp c] at hQ
    simp (disch := omega) only [Option.toList_some, Option.toList_none, List.nil_append, List.cons_append, List.append_nil, true_and, and_true, not_true_eq_false, not_false_eq_true, true_implies, false_implies, implies_true, and_self, Int.reduceLT, Int.reduceLE, Int.reduceEq, Int.reduceNe, Int.reduceAdd, Int.reduceSub, Int.reduceMul, Int.reduceNeg, Int.reduceToNat, Int.toNat_natCast, ↓kk_ck, ↓kk_im, ↓kk_in, e_63, s_63_0, s_63_4, s_63_12, s_63_16, s_63_17, s_63_9, h1]
    exact hQ
  · rw [vi_bn c] at hQ
    simp +contextual (disch := omega) only [Option.toList_some, Option.toList_none, List.nil_append, List.cons_append, List.append_nil, true_and, and_true, not_true_eq_false, not_false_eq_true, true_implies, false_implies, implies_true, and_self, Int.reduceLT, Int.reduceLE, Int.reduceEq, Int.reduceNe, Int.reduceAdd, Int.reduceSub, Int.reduceMul, Int.reduceNeg, Int.reduceToNat, Int.toNat_natCast, ↓kk_ck, ↓kk_im, ↓kk_in, e_63, s_63_0, s_63_4, s_63_12, s_63_16, s_63_17, s_63_9, h1]
    (repeat' first | exact hQ | intro _ | refine And.intro ?_ ?_ | (exfalso; omega))
theorem k_64 (hh : kH Y h) {m : Nat} (hm : M h 6 = (m : Int)) (hm6 : m < 6) {q : Nat} (hq : Y.1 q = 23) : vi_call GG (d + 1) 64 [.inr (.inr h), .inr (.inr q)] (Y, M, n) K ↔ K (some (.inl (m : Int))) (Y, vi_rs (vi_rs M (h + 9) (vi_u (M (h + 9)) m (q : Int))) h (vi_u (M h) 6 ((m + 1 : Nat) : Int)), n) := by
  obtain ⟨h1, -, -, -, -, -, ⟨d1, d2, d3⟩⟩ := hh
  have hne : h ≠ h + 9 := by omega
  refine vi_k (r := some (.inl _)) fun Q hQ => ?_
  simp (disch := omega) only [Option.toList_some, Option.toList_none, List.nil_append, List.cons_append, List.append_nil, true_and, and_true, not_true_eq_false, not_false_eq_true, true_implies, false_implies, implies_true, and_self, Int.reduceLT, Int.reduceLE, Int.reduceEq, Int.reduceNe, Int.reduceAdd, Int.reduceSub, Int.reduceMul, Int.reduceNeg, Int.reduceToNat, Int.toNat_natCast, ↓kk_ck, ↓kk_im, ↓kk_in, e_64, s_64_0, s_64_7, s_64_19, s_64_21, s_64_4, s_64_11, s_64_25, s_64_15, s_64_29, s_64_16, s_64_31, s_64_36, s_64_41, s_64_45, h1, d1, d2, d3, hq, or_true, hm, vi_ms_rs, vi_rs_o hne, vi_rs_s, vi_inc, vi_u_s, vi_32]
  exact vi_qI hQ (by omega) rfl
theorem k_67 (hh : kH Y h) {m : Nat} (hm : M h 6 = (m : Int)) (hm6 : m ≤ 6) (hf : -1 ≤ M h 7 ∧ M h 7 < (m : Int)) : vi_call GG (d + 1) 67 [.inr (.inr h)] (Y, M, n) K ↔ K (some (.inr (.inr (if 0 ≤ M h 7 then (M (h + 9) (M h 7).toNat).toNat else 0)))) (Y, M, n) := by
  obtain ⟨h1, -, -, -, -, -, ⟨d1, d2, d3⟩⟩ := hh
  refine vi_k (r := some (.inr (.inr _))) fun Q hQ => ?_
  by_cases c : 0 ≤ M h 7
  · rw [if_pos c] at hQ
    simp (disch := omega) only [Option.toList_some, Option.toList_none, List.nil_append, List.cons_append, List.append_nil, true_and, and_true, not_true_eq_false, not_false_eq_true, true_implies, false_implies, implies_true, and_self, Int.reduceLT, Int.reduceLE, Int.reduceEq, Int.reduceNe, Int.reduceAdd, Int.reduceSub, Int.reduceMul, Int.reduceNeg, Int.reduceToNat, Int.toNat_natCast, ↓kk_ck, ↓kk_im, ↓kk_in, e_67, s_67_0, s_67_7, s_67_18, s_67_30, s_67_42, s_67_43, s_67_4, s_67_11, s_67_22, s_67_34, s_67_15, s_67_26, s_67_38, s_67_27, s_67_39, h1, d1, d2, d3, hm]
    exact hQ
  · rw [if_neg c] at hQ
    simp (disch := omega) only [Option.toList_some, Option.toList_none, List.nil_append, List.cons_append, List.append_nil, true_and, and_true, not_true_eq_false, not_false_eq_true, true_implies, false_implies, implies_true, and_self, Int.reduceLT, Int.reduceLE, Int.reduceEq, Int.reduceNe, Int.reduceAdd, Int.reduceSub, Int.reduceMul, Int.reduceNeg, Int.reduceToNat, Int.toNat_natCast, ↓kk_ck, ↓kk_im, ↓kk_in, e_67, s_67_0, s_67_7, s_67_18, s_67_30, s_67_42, s_67_43, s_67_4, s_67_11, s_67_22, s_67_34, s_67_15, s_67_26, s_67_38, s_67_27, s_67_39, h1, d1, d2, d3, hm]
    exact hQ
end
