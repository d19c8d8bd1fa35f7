/-! Contracts of Views (at 88). -/
def gDi (f : Nat → Int) (a u v : Int) : Bool := decide (f (36 * a + 6 * u + v).toNat = 1)
def gMo (x y z : Int) (f : Nat → Int) (c : Int) : Bool := gCl x y z c && gDi f 0 (c / 6 % 6) (c / 36) && gDi f 1 (c % 6) (c / 36) && gDi f 2 (c % 6) (c / 6 % 6)
def gMs (x y z : Int) (f : Nat → Int) : Nat → Bool := fun c => gMo x y z f (c : Int)
def gHm (x y z : Int) (S : Nat → Bool) (a u v : Int) : Bool := sOr 6 (fun l => sHas S (gOn x y z a (l : Int) u v))
def gCb (x y z : Int) (f : Nat → Int) : Bool := ! sOr 108 (fun l => gPl x y z ((l : Int) / 36) ((l : Int) / 6 % 6) ((l : Int) % 6) && gDi f ((l : Int) / 36) ((l : Int) / 6 % 6) ((l : Int) % 6) && ! gHm x y z (gMs x y z f) ((l : Int) / 36) ((l : Int) / 6 % 6) ((l : Int) % 6))
theorem sOr_f {k : Nat} {f : Nat → Bool} (h : sOr k f = false) : ∀ j, j < k → f j = false := fun j hj => by
  cases hf : f j
  · rfl
  · rw [sOr_iff.mpr ⟨j, hj, hf⟩] at h; cases h
section
variable {d : Nat} {K : Option vi_V → vi_W → Prop} {Y : vi_Y} {M : vi_M} {n : Nat × Nat} {P B R T S : Nat → Bool}
theorem k_57i (hh : kH Y 30) {a u v : Int} (ha : 0 ≤ a ∧ a ≤ 2) (hu : 0 ≤ u ∧ u < 6) (hv : 0 ≤ v ∧ v < 6) : vi_call GG (d + 1) 57 [.inr (.inr 30), .inl a, .inl u, .inl v] (Y, M, n) K ↔ K (some (.inl (vi_b (gDi (M 37) a u v)))) (Y, M, n) := k_57 hh ha hu hv
theorem k_186 (hY : kY Y 151) (hB : M 90 = cR B) : vi_call GG (d + 3) 186 [.inr (.inr 88)] (Y, M, n) K ↔ K none (Y, vi_rs M 90 (cR (gMs (M 30 8) (M 30 9) (M 30 10) (M 37))), n) := by
  obtain ⟨a1, a2, a3, a4, a5⟩ := y_88 hY (by omega)
  have b1 := (y_30 hY (by omega)).1
  have hh := kH_30 hY (by omega)
  have p1 := kC_89 hY (by omega)
  refine vi_k (r := none) fun Q hQ => ?_
  have m30 : ∀ g, vi_rs M 90 g 30 = M 30 := fun g => by simp (disch := omega) only [vi_rs_s, vi_rs_o]
  have m37 : ∀ g, vi_rs M 90 g 37 = M 37 := fun g => by simp (disch := omega) only [vi_rs_s, vi_rs_o]
  generalize ex : M 30 8 = x at *
  generalize ey : M 30 9 = y at *
  generalize ez : M 30 10 = z at *
  have loop : ∀ c : Nat, c ≤ 216 → ∀ l2 l3 l4, vi_ok GG (d + 2) 186 9 [some (.inr (.inr 88)), some (.inl (c : Int)), l2, l3, l4] [] (Y, vi_rs M 90 (cR (fun i => decide (i < c) && gMs x y z (M 37) i)), n) Q := by
    refine vi_dn 216 ?_ fun c hc ih => ?_
    · intro l2 l3 l4
      rw [s_186_9]
      simp (disch := omega) only [Option.toList_some, Option.toList_none, List.nil_append, List.cons_append, List.append_nil, true_and, and_true, not_true_eq_false, not_false_eq_true, true_implies, false_implies, implies_true, and_self, Int.reduceLT, Int.reduceLE, Int.reduceEq, Int.reduceNe, Int.reduceAdd, Int.reduceSub, Int.reduceMul, Int.reduceNeg, Int.reduceToNat, Int.toNat_natCast, ↓kk_ck, ↓kk_im, ↓kk_in, s_186_0, s_186_16, s_186_46, s_186_60, s_186_74, s_186_87, s_186_95, s_186_101, s_186_4, s_186_39, s_186_50, s_186_64, s_186_78, s_186_91, s_186_7, s_186_43, s_186_57, s_186_71, s_186_84]
      rw [cR_c (T := gMs x y z (M 37)) fun i hi => by rw [decide_eq_true hi, Bool.true_and]]
      exact hQ
    · intro l2 l3 l4
      have k6 := fun {K : Option vi_V → vi_W → Prop} => @k_6 (d + 1) 89 K Y (vi_rs M 90 (cR (fun i => decide (i < c) && gMs x y z (M 37) i))) n (fun i => decide (i < c) && gMs x y z (M 37) i) p1 vi_rs_s (c : Int) (by omega)
      simp only [Nat.reduceAdd, vi_rs_rs] at k6
      have ih := ih (some (.inl ((c : Int) % 6))) (some (.inl ((c : Int) / 6 % 6))) (some (.inl ((c : Int) / 36)))
      have hM : gMs x y z (M 37) c = gMo x y z (M 37) (c : Int) := rfl
      have eT : gMo x y z (M 37) (c : Int) = true → cR (sPut (fun i => decide (i < c) && gMs x y z (M 37) i) (c : Int)) = cR (fun i => decide (i < c + 1) && gMs x y z (M 37) i) := fun h => cR_c fun i _ => by
        unfold sPut
        by_cases hi : i = c
        · subst hi; rw [decide_eq_true (show i < i + 1 by omega), hM, h]; simp
        · rw [decide_eq_false (show ¬ ((i : Int) = (c : Int)) by omega), Bool.or_false, show decide (i < c + 1) = decide (i < c) by rw [decide_eq_decide]; omega]
      have eF : gMo x y z (M 37) (c : Int) = false → cR (fun i => decide (i < c) && gMs x y z (M 37) i) = cR (fun i => decide (i < c + 1) && gMs x y z (M 37) i) := fun h => cR_c fun i _ => by
        by_cases hi : i = c
        · subst hi; rw [hM, h]; simp
        · rw [show decide (i < c + 1) = decide (i < c) by rw [decide_eq_decide]; omega]
      rw [s_186_9]
      cases h1 : gCl x y z (c : Int)
      · rw [← eF (by unfold gMo; rw [h1]; rfl)] at ih
        simp (disch := omega) only [Option.toList_some, Option.toList_none, List.nil_append, List.cons_append, List.append_nil, true_and, and_true, not_true_eq_false, not_false_eq_true, true_implies, false_implies, implies_true, and_self, Int.reduceLT, Int.reduceLE, Int.reduceEq, Int.reduceNe, Int.reduceAdd, Int.reduceSub, Int.reduceMul, Int.reduceNeg, Int.reduceToNat, Int.toNat_natCast, ↓kk_ck, ↓kk_im, ↓kk_in, s_186_0, s_186_16, s_186_46, s_186_60, s_186_74, s_186_87, s_186_95, s_186_101, s_186_4, s_186_39, s_186_50, s_186_64, s_186_78, s_186_91, s_186_7, s_186_43, s_186_57, s_186_71, s_186_84, a1, a2, a3, a4, a5, b1, vi_td, vi_tm, k_51 b1, m30, ex, ey, ez, h1, vi_bf, vi_inc, vi_32]
        exact ih
      · cases h2 : gDi (M 37) 0 ((c : Int) / 6 % 6) ((c : Int) / 36)
        · rw [← eF (by unfold gMo; rw [h1, h2]; rfl)] at ih
          simp (disch := omega) only [Option.toList_some, Option.toList_none, List.nil_append, List.cons_append, List.append_nil, true_and, and_true, not_true_eq_false, not_false_eq_true, true_implies, false_implies, implies_true, and_self, Int.reduceLT, Int.reduceLE, Int.reduceEq, Int.reduceNe, Int.reduceAdd, Int.reduceSub, Int.reduceMul, Int.reduceNeg, Int.reduceToNat, Int.toNat_natCast, ↓kk_ck, ↓kk_im, ↓kk_in, s_186_0, s_186_16, s_186_46, s_186_60, s_186_74, s_186_87, s_186_95, s_186_101, s_186_4, s_186_39, s_186_50, s_186_64, s_186_78, s_186_91, s_186_7, s_186_43, s_186_57, s_186_71, s_186_84, a1, a2, a3, a4, a5, b1, vi_td, vi_tm, k_51 b1, m30, m37, ex, ey, ez, h1, h2, k_57i hh, vi_bf, vi_bt, vi_inc, vi_32]
          exact ih
        · cases h3 : gDi (M 37) 1 ((c : Int) % 6) ((c : Int) / 36)
          · rw [← eF (by unfold gMo; rw [h1, h2, h3]; rfl)] at ih
            simp (disch := omega) only [Option.toList_some, Option.toList_none, List.nil_append, List.cons_append, List.append_nil, true_and, and_true, not_true_eq_false, not_false_eq_true, true_implies, false_implies, implies_true, and_self, Int.reduceLT, Int.reduceLE, Int.reduceEq, Int.reduceNe, Int.reduceAdd, Int.reduceSub, Int.reduceMul, Int.reduceNeg, Int.reduceToNat, Int.toNat_natCast, ↓kk_ck, ↓kk_im, ↓kk_in, s_186_0, s_186_16, s_186_46, s_186_60, s_186_74, s_186_87, s_186_95, s_186_101, s_186_4, s_186_39, s_186_50, s_186_64, s_186_78, s_186_91, s_186_7, s_186_43, s_186_57, s_186_71, s_186_84, a1, a2, a3, a4, a5, b1, vi_td, vi_tm, k_51 b1, m30, m37, ex, ey, ez, h1, h2, h3, k_57i hh, vi_bf, vi_bt, vi_inc, vi_32]
            exact ih
          · cases h4 : gDi (M 37) 2 ((c : Int) % 6) ((c : Int) / 6 % 6)
            · rw [← eF (by unfold gMo; rw [h1, h2, h3, h4]; rfl)] at ih
              simp (disch := omega) only [Option.toList_some, Option.toList_none, List.nil_append, List.cons_append, List.append_nil, true_and, and_true, not_true_eq_false, not_false_eq_true, true_implies, false_implies, implies_true, and_self, Int.reduceLT, Int.reduceLE, Int.reduceEq, Int.reduceNe, Int.reduceAdd, Int.reduceSub, Int.reduceMul, Int.reduceNeg, Int.reduceToNat, Int.toNat_natCast, ↓kk_ck, ↓kk_im, ↓kk_in, s_186_0, s_186_16, s_186_46, s_186_60, s_186_74, s_186_87, s_186_95, s_186_101, s_186_4, s_186_39, s_186_50, s_186_64, s_186_78, s_186_91, s_186_7, s_186_43, s_186_57, s_186_71, s_186_84, a1, a2, a3, a4, a5, b1, vi_td, vi_tm, k_51 b1, m30, m37, ex, ey, ez, h1, h2, h3, h4, k_57i hh, vi_bf, vi_bt, vi_inc, vi_32]
              exact ih
            · rw [← eT (by unfold gMo; rw [h1, h2, h3, h4]; rfl)] at ih
              simp (disch := omega) only [Option.toList_some, Option.toList_none, List.nil_append, List.cons_append, List.append_nil, true_and, and_true, not_true_eq_false, not_false_eq_true, true_implies, false_implies, implies_true, and_self, Int.reduceLT, Int.reduceLE, Int.reduceEq, Int.reduceNe, Int.reduceAdd, Int.reduceSub, Int.reduceMul, Int.reduceNeg, Int.reduceToNat, Int.toNat_natCast, ↓kk_ck, ↓kk_im, ↓kk_in, s_186_0, s_186_16, s_186_46, s_186_60, s_186_74, s_186_87, s_186_95, s_186_101, s_186_4, s_186_39, s_186_50, s_186_64, s_186_78, s_186_91, s_186_7, s_186_43, s_186_57, s_186_71, s_186_84, a1, a2, a3, a4, a5, b1, p1.1, vi_td, vi_tm, k_51 b1, m30, m37, ex, ey, ez, h1, h2, h3, h4, k_57i hh, vi_bf, vi_bt, vi_inc, vi_32, k6]
              exact ih
  have k2 := fun {K : Option vi_V → vi_W → Prop} => @k_2 (d + 1) 89 K Y M n B p1 hB
  simp only [Nat.add_assoc, Nat.reduceAdd] at k2
  have := loop 0 (by omega) none none none
  rw [cR_c (T := fun _ => false) fun i _ => by rw [decide_eq_false (by omega), Bool.false_and]] at this
  simp (disch := omega) only [Option.toList_some, Option.toList_none, List.nil_append, List.cons_append, List.append_nil, true_and, and_true, not_true_eq_false, not_false_eq_true, true_implies, false_implies, implies_true, and_self, Int.reduceLT, Int.reduceLE, Int.reduceEq, Int.reduceNe, Int.reduceAdd, Int.reduceSub, Int.reduceMul, Int.reduceNeg, Int.reduceToNat, Int.toNat_natCast, ↓kk_ck, ↓kk_im, ↓kk_in, e_186, s_186_0, s_186_16, s_186_46, s_186_60, s_186_74, s_186_87, s_186_95, s_186_101, s_186_4, s_186_39, s_186_50, s_186_64, s_186_78, s_186_91, s_186_7, s_186_43, s_186_57, s_186_71, s_186_84, a1, a2, a3, a4, a5, p1.1, k2]
  exact this
theorem k_187 (hY : kY Y 151) (hb : gB (M 30 8) (M 30 9) (M 30 10)) (hS : M 90 = cR S) {a u v : Int} : vi_call GG (d + 3) 187 [.inr (.inr 88), .inl a, .inl u, .inl v] (Y, M, n) K ↔ K (some (.inl (vi_b (gHm (M 30 8) (M 30 9) (M 30 10) S a u v)))) (Y, M, n) := by
  obtain ⟨a1, a2, a3, a4, a5⟩ := y_88 hY (by omega)
  have b1 := (y_30 hY (by omega)).1
  have p1 := kC_89 hY (by omega)
  refine vi_k (r := some (.inl _)) fun Q hQ => ?_
  have loop : ∀ l : Nat, l ≤ 6 → sOr l (fun l => sHas S (gOn (M 30 8) (M 30 9) (M 30 10) a (l : Int) u v)) = false → vi_ok GG (d + 2) 187 3 [some (.inr (.inr 88)), some (.inl a), some (.inl u), some (.inl v), some (.inl (l : Int))] [] (Y, M, n) Q := by
    refine vi_dn 6 ?_ fun l hl ih => ?_
    · intro h
      rw [gHm, h] at hQ
      rw [s_187_3]
      simp (disch := omega) only [Option.toList_some, Option.toList_none, List.nil_append, List.cons_append, List.append_nil, true_and, and_true, not_true_eq_false, not_false_eq_true, true_implies, false_implies, implies_true, and_self, Int.reduceLT, Int.reduceLE, Int.reduceEq, Int.reduceNe, Int.reduceAdd, Int.reduceSub, Int.reduceMul, Int.reduceNeg, Int.reduceToNat, Int.toNat_natCast, ↓kk_ck, ↓kk_im, ↓kk_in, s_187_0, s_187_10, s_187_32, s_187_34, s_187_40, s_187_14, s_187_18, s_187_26, s_187_29]
      exact hQ
    · intro h
      rw [sOr, h, Bool.false_or] at ih
      rw [s_187_3]
      cases hp : sHas S (gOn (M 30 8) (M 30 9) (M 30 10) a (l : Int) u v)
      · have := ih hp
        simp (disch := omega) only [Option.toList_some, Option.toList_none, List.nil_append, List.cons_append, List.append_nil, true_and, and_true, not_true_eq_false, not_false_eq_true, true_implies, false_implies, implies_true, and_self, Int.reduceLT, Int.reduceLE, Int.reduceEq, Int.reduceNe, Int.reduceAdd, Int.reduceSub, Int.reduceMul, Int.reduceNeg, Int.reduceToNat, Int.toNat_natCast, ↓kk_ck, ↓kk_im, ↓kk_in, s_187_0, s_187_10, s_187_32, s_187_34, s_187_40, s_187_14, s_187_18, s_187_26, s_187_29, a1, a2, a3, a4, a5, b1, p1.1, k_52 b1 hb, k_5 p1 hS, hp, vi_bf, vi_inc]
        exact this
      · rw [gHm, sOr_iff.mpr ⟨l, hl, hp⟩] at hQ
        simp (disch := omega) only [Option.toList_some, Option.toList_none, List.nil_append, List.cons_append, List.append_nil, true_and, and_true, not_true_eq_false, not_false_eq_true, true_implies, false_implies, implies_true, and_self, Int.reduceLT, Int.reduceLE, Int.reduceEq, Int.reduceNe, Int.reduceAdd, Int.reduceSub, Int.reduceMul, Int.reduceNeg, Int.reduceToNat, Int.toNat_natCast, ↓kk_ck, ↓kk_im, ↓kk_in, s_187_0, s_187_10, s_187_32, s_187_34, s_187_40, s_187_14, s_187_18, s_187_26, s_187_29, a1, a2, a3, a4, a5, b1, p1.1, k_52 b1 hb, k_5 p1 hS, hp, vi_bt]
        exact hQ
  rw [e_187, s_187_0]
  exact loop 0 (by omega) rfl
theorem k_180 (hY : kY Y 151) (hb : gB (M 30 8) (M 30 9) (M 30 10)) (hB : M 90 = cR B) : vi_call GG (d + 4) 180 [.inr (.inr 88)] (Y, M, n) K ↔ K (some (.inl (vi_b (gCb (M 30 8) (M 30 9) (M 30 10) (M 37))))) (Y, vi_rs M 90 (cR (gMs (M 30 8) (M 30 9) (M 30 10) (M 37))), n) := by
  obtain ⟨a1, a2, a3, a4, a5⟩ := y_88 hY (by omega)
  have b1 := (y_30 hY (by omega)).1
  have hh := kH_30 hY (by omega)
  have p1 := kC_89 hY (by omega)
  refine vi_k (r := some (.inl _)) fun Q hQ => ?_
  have m30 : ∀ g, vi_rs M 90 g 30 = M 30 := fun g => by simp (disch := omega) only [vi_rs_s, vi_rs_o]
  have m37 : ∀ g, vi_rs M 90 g 37 = M 37 := fun g => by simp (disch := omega) only [vi_rs_s, vi_rs_o]
  have k187 := fun {K : Option vi_V → vi_W → Prop} {a u v : Int} => @k_187 d K Y (vi_rs M 90 (cR (gMs (M 30 8) (M 30 9) (M 30 10) (M 37)))) n (gMs (M 30 8) (M 30 9) (M 30 10) (M 37)) hY (by rw [m30]; exact hb) vi_rs_s a u v
  have k186 := fun {K : Option vi_V → vi_W → Prop} => @k_186 d K Y M n B hY hB
  simp only [m30] at k187
  generalize ex : M 30 8 = x at *
  generalize ey : M 30 9 = y at *
  generalize ez : M 30 10 = z at *
  have loop : ∀ l : Nat, l ≤ 108 → ∀ l2 l3 l4, sOr l (fun l => gPl x y z ((l : Int) / 36) ((l : Int) / 6 % 6) ((l : Int) % 6) && gDi (M 37) ((l : Int) / 36) ((l : Int) / 6 % 6) ((l : Int) % 6) && ! gHm x y z (gMs x y z (M 37)) ((l : Int) / 36) ((l : Int) / 6 % 6) ((l : Int) % 6)) = false → vi_ok GG (d + 3) 180 6 [some (.inr (.inr 88)), some (.inl (l : Int)), l2, l3, l4] [] (Y, vi_rs M 90 (cR (gMs x y z (M 37))), n) Q := by
    refine vi_dn 108 ?_ fun l hl ih => ?_
    · intro l2 l3 l4 h
      rw [gCb, h] at hQ
      rw [s_180_6]
      simp (disch := omega) only [Option.toList_some, Option.toList_none, List.nil_append, List.cons_append, List.append_nil, true_and, and_true, not_true_eq_false, not_false_eq_true, true_implies, false_implies, implies_true, and_self, Int.reduceLT, Int.reduceLE, Int.reduceEq, Int.reduceNe, Int.reduceAdd, Int.reduceSub, Int.reduceMul, Int.reduceNeg, Int.reduceToNat, Int.toNat_natCast, ↓kk_ck, ↓kk_im, ↓kk_in, s_180_0, s_180_12, s_180_45, s_180_59, s_180_70, s_180_72, s_180_78, s_180_4, s_180_35, s_180_49, s_180_67, s_180_42, s_180_56]
      exact hQ
    · intro l2 l3 l4 h
      have ih := ih (some (.inl ((l : Int) / 36))) (some (.inl ((l : Int) / 6 % 6))) (some (.inl ((l : Int) % 6)))
      rw [sOr, h, Bool.false_or] at ih
      rw [s_180_6]
      cases h1 : gPl x y z ((l : Int) / 36) ((l : Int) / 6 % 6) ((l : Int) % 6)
      · have := ih (by rw [h1]; rfl)
        simp (disch := omega) only [Option.toList_some, Option.toList_none, List.nil_append, List.cons_append, List.append_nil, true_and, and_true, not_true_eq_false, not_false_eq_true, true_implies, false_implies, implies_true, and_self, Int.reduceLT, Int.reduceLE, Int.reduceEq, Int.reduceNe, Int.reduceAdd, Int.reduceSub, Int.reduceMul, Int.reduceNeg, Int.reduceToNat, Int.toNat_natCast, ↓kk_ck, ↓kk_im, ↓kk_in, s_180_0, s_180_12, s_180_45, s_180_59, s_180_70, s_180_72, s_180_78, s_180_4, s_180_35, s_180_49, s_180_67, s_180_42, s_180_56, a1, a2, a3, a4, a5, b1, vi_td, vi_tm, k_49 b1, m30, ex, ey, ez, h1, vi_bf, vi_inc, vi_32]
        exact this
      · cases h2 : gDi (M 37) ((l : Int) / 36) ((l : Int) / 6 % 6) ((l : Int) % 6)
        · have := ih (by rw [h1, h2]; rfl)
          simp (disch := omega) only [Option.toList_some, Option.toList_none, List.nil_append, List.cons_append, List.append_nil, true_and, and_true, not_true_eq_false, not_false_eq_true, true_implies, false_implies, implies_true, and_self, Int.reduceLT, Int.reduceLE, Int.reduceEq, Int.reduceNe, Int.reduceAdd, Int.reduceSub, Int.reduceMul, Int.reduceNeg, Int.reduceToNat, Int.toNat_natCast, ↓kk_ck, ↓kk_im, ↓kk_in, s_180_0, s_180_12, s_180_45, s_180_59, s_180_70, s_180_72, s_180_78, s_180_4, s_180_35, s_180_49, s_180_67, s_180_42, s_180_56, a1, a2, a3, a4, a5, b1, vi_td, vi_tm, k_49 b1, m30, m37, ex, ey, ez, h1, h2, k_57i hh, vi_bf, vi_bt, vi_inc, vi_32]
          exact this
        · cases h3 : gHm x y z (gMs x y z (M 37)) ((l : Int) / 36) ((l : Int) / 6 % 6) ((l : Int) % 6)
          · rw [gCb, sOr_iff.mpr ⟨l, hl, by rw [h1, h2, h3]; rfl⟩] at hQ
            simp (disch := omega) only [Option.toList_some, Option.toList_none, List.nil_append, List.cons_append, List.append_nil, true_and, and_true, not_true_eq_false, not_false_eq_true, true_implies, false_implies, implies_true, and_self, Int.reduceLT, Int.reduceLE, Int.reduceEq, Int.reduceNe, Int.reduceAdd, Int.reduceSub, Int.reduceMul, Int.reduceNeg, Int.reduceToNat, Int.toNat_natCast, ↓kk_ck, ↓kk_im, ↓kk_in, s_180_0, s_180_12, s_180_45, s_180_59, s_180_70, s_180_72, s_180_78, s_180_4, s_180_35, s_180_49, s_180_67, s_180_42, s_180_56, a1, a2, a3, a4, a5, b1, vi_td, vi_tm, k_49 b1, m30, m37, ex, ey, ez, h1, h2, h3, k_57i hh, k187, vi_bf, vi_bt, vi_inc, vi_32, ne_eq]
            exact hQ
          · have := ih (by rw [h1, h2, h3]; rfl)
            simp (disch := omega) only [Option.toList_some, Option.toList_none, List.nil_append, List.cons_append, List.append_nil, true_and, and_true, not_true_eq_false, not_false_eq_true, true_implies, false_implies, implies_true, and_self, Int.reduceLT, Int.reduceLE, Int.reduceEq, Int.reduceNe, Int.reduceAdd, Int.reduceSub, Int.reduceMul, Int.reduceNeg, Int.reduceToNat, Int.toNat_natCast, ↓kk_ck, ↓kk_im, ↓kk_in, s_180_0, s_180_12, s_180_45, s_180_59, s_180_70, s_180_72, s_180_78, s_180_4, s_180_35, s_180_49, s_180_67, s_180_42, s_180_56, a1, a2, a3, a4, a5, b1, vi_td, vi_tm, k_49 b1, m30, m37, ex, ey, ez, h1, h2, h3, k_57i hh, k187, vi_bf, vi_bt, vi_inc, vi_32, ne_eq]
            exact this
  have := loop 0 (by omega) none none none rfl
  simp (disch := omega) only [Option.toList_some, Option.toList_none, List.nil_append, List.cons_append, List.append_nil, true_and, and_true, not_true_eq_false, not_false_eq_true, true_implies, false_implies, implies_true, and_self, Int.reduceLT, Int.reduceLE, Int.reduceEq, Int.reduceNe, Int.reduceAdd, Int.reduceSub, Int.reduceMul, Int.reduceNeg, Int.reduceToNat, Int.toNat_natCast, ↓kk_ck, ↓kk_im, ↓kk_in, e_180, s_180_0, s_180_12, s_180_45, s_180_59, s_180_70, s_180_72, s_180_78, s_180_4, s_180_35, s_180_49, s_180_67, s_180_42, s_180_56, a1, a2, a3, a4, a5, k186, ex, ey, ez]
  exact this
theorem k_178 (hY : kY Y 151) (hB : M 90 = cR B) : vi_call GG (d + 4) 178 [.inr (.inr 88)] (Y, M, n) K ↔ K (some (.inl (sN 216 (gMs (M 30 8) (M 30 9) (M 30 10) (M 37)) : Int))) (Y, vi_rs M 90 (cR (gMs (M 30 8) (M 30 9) (M 30 10) (M 37))), n) := by
  obtain ⟨a1, a2, a3, a4, a5⟩ := y_88 hY (by omega)
  have p1 := kC_89 hY (by omega)
  have k186 := fun {K : Option vi_V → vi_W → Prop} => @k_186 d K Y M n B hY hB
  have k11 := fun {K : Option vi_V → vi_W → Prop} => @k_11 (d + 1) 89 K Y (vi_rs M 90 (cR (gMs (M 30 8) (M 30 9) (M 30 10) (M 37)))) n (gMs (M 30 8) (M 30 9) (M 30 10) (M 37)) p1 vi_rs_s
  simp only [Nat.add_assoc, Nat.reduceAdd] at k186 k11
  refine vi_k (r := some (.inl _)) fun Q hQ => ?_
  simp (disch := omega) only [Option.toList_some, Option.toList_none, List.nil_append, List.cons_append, List.append_nil, true_and, and_true, not_true_eq_false, not_false_eq_true, true_implies, false_implies, implies_true, and_self, Int.reduceLT, Int.reduceLE, Int.reduceEq, Int.reduceNe, Int.reduceAdd, Int.reduceSub, Int.reduceMul, Int.reduceNeg, Int.reduceToNat, Int.toNat_natCast, ↓kk_ck, ↓kk_im, ↓kk_in, e_178, s_178_0, s_178_4, s_178_8, s_178_11, a1, a2, a3, a4, a5, p1.1, k186, k11]
  exact hQ
theorem k_179 (hY : kY Y 151) (hB : M 90 = cR B) (hR : M 92 = cR R) (hT : M 94 = cR T) : ∃ R T, ∀ K : Option vi_V → vi_W → Prop, vi_call GG (d + 5) 179 [.inr (.inr 88)] (Y, M, n) K ↔ K (some (.inl (sPc 216 (gMs (M 30 8) (M 30 9) (M 30 10) (M 37)) : Int))) (Y, vi_rs (vi_rs (vi_rs M 90 (cR (gMs (M 30 8) (M 30 9) (M 30 10) (M 37)))) 92 (cR R)) 94 (cR T), n) := by
  obtain ⟨a1, a2, a3, a4, a5⟩ := y_88 hY (by omega)
  have p1 := kC_89 hY (by omega)
  have k186 := fun {K : Option vi_V → vi_W → Prop} => @k_186 (d + 1) K Y M n B hY hB
  obtain ⟨R', T', k16⟩ := k_16 (d := d) (n := n) (M := vi_rs M 90 (cR (gMs (M 30 8) (M 30 9) (M 30 10) (M 37)))) p1 (kC_91 hY (by omega)) (kC_93 hY (by omega)) (by omega) (by omega) (by omega) vi_rs_s (by simp (disch := omega) only [vi_rs_s, vi_rs_o]; exact hR) (by simp (disch := omega) only [vi_rs_s, vi_rs_o]; exact hT)
  refine ⟨R', T', fun K => vi_k (r := some (.inl _)) fun Q hQ => ?_⟩
  simp (disch := omega) only [Option.toList_some, Option.toList_none, List.nil_append, List.cons_append, List.append_nil, true_and, and_true, not_true_eq_false, not_false_eq_true, true_implies, false_implies, implies_true, and_self, Int.reduceLT, Int.reduceLE, Int.reduceEq, Int.reduceNe, Int.reduceAdd, Int.reduceSub, Int.reduceMul, Int.reduceNeg, Int.reduceToNat, Int.toNat_natCast, ↓kk_ck, ↓kk_im, ↓kk_in, e_179, s_179_0, s_179_4, s_179_8, s_179_12, s_179_16, s_179_19, a1, a2, a3, a4, a5, p1.1, k186, k16]
  exact hQ
end
