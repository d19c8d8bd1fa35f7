/-! Contracts of Cheese's pieces and of Paper (at 77). -/
def sIt : Nat → (Nat → Bool) → Nat → Bool
  | 0, S => S
  | k + 1, S => sInn (sIt k S)
/-- whether an end is come to: 0 near to air by n, 1 n pieces, 2 just n cells -/
noncomputable def sCm (S : Nat → Bool) (g n : Nat) : Bool := if g = 0 then sE (sIt n S) else if g = 1 then decide (n ≤ sPc 216 S) else decide (sN 216 S = n)
section
variable {d : Nat} {K : Option vi_V → vi_W → Prop} {Y : vi_Y} {M : vi_M} {n : Nat × Nat} {P B R T S : Nat → Bool}
theorem k_35 (hY : kY Y 73) (hP : M 66 = cR P) (hR : M 70 = cR R) (hT : M 72 = cR T) : ∃ R T, ∀ K : Option vi_V → vi_W → Prop, vi_call GG (d + 5) 35 [.inr (.inr 60)] (Y, M, n) K ↔ K (some (.inl (sPc 216 P : Int))) (Y, vi_rs (vi_rs M 70 (cR R)) 72 (cR T), n) := by
  obtain ⟨a1, a2, a3, a4, a5, a6, a7, a8, a9⟩ := y_60 hY (by omega)
  have p1 := kC_65 hY (by omega)
  obtain ⟨R', T', hK⟩ := k_16 (d := d) (n := n) p1 (kC_69 hY (by omega)) (kC_71 hY (by omega)) (by omega) (by omega) (by omega) hP hR hT
  refine ⟨R', T', fun K => vi_k (r := some (.inl _)) fun Q hQ => ?_⟩
  simp (disch := omega) only [Option.toList_some, Option.toList_none, List.nil_append, List.cons_append, List.append_nil, true_and, and_true, not_true_eq_false, not_false_eq_true, true_implies, false_implies, implies_true, and_self, Int.reduceLT, Int.reduceLE, Int.reduceEq, Int.reduceNe, Int.reduceAdd, Int.reduceSub, Int.reduceMul, Int.reduceNeg, Int.reduceToNat, Int.toNat_natCast, ↓kk_ck, ↓kk_im, ↓kk_in, e_35, s_35_0, s_35_4, s_35_8, s_35_12, s_35_15, a1, a2, a3, a4, a5, a6, a7, a8, a9, p1.1, hK]
  exact hQ
theorem k_36 (hY : kY Y 73) (hP : M 66 = cR P) (hR : M 70 = cR R) (hT : M 72 = cR T) {i w : Int} (hw : w = 0 ∨ w = 1) : ∃ R T, ∀ K : Option vi_V → vi_W → Prop, vi_call GG (d + 5) 36 [.inr (.inr 60), .inl i, .inl w] (Y, M, n) K ↔ K (some (.inl (sPi 216 0 P i w))) (Y, vi_rs (vi_rs M 70 (cR R)) 72 (cR T), n) := by
  obtain ⟨a1, a2, a3, a4, a5, a6, a7, a8, a9⟩ := y_60 hY (by omega)
  have p1 := kC_65 hY (by omega)
  have p3 := kC_69 hY (by omega)
  have p4 := kC_71 hY (by omega)
  have main : ∀ Q : Option vi_V → vi_W → Prop, (∀ R T, Q (some (.inl (sPi 216 0 P i w))) (Y, vi_rs (vi_rs M 70 (cR R)) 72 (cR T), n)) → vi_call GG (d + 5) 36 [.inr (.inr 60), .inl i, .inl w] (Y, M, n) Q := by
    intro Q hQ
    have loop : ∀ (k num : Nat) (R T : Nat → Bool) (l4 : Option vi_V), num + k = 216 → sPi k num R i w = sPi 216 0 P i w → vi_ok GG (d + 4) 36 13 [some (.inr (.inr 60)), some (.inl i), some (.inl w), some (.inl (num : Int)), l4] [] (Y, vi_rs (vi_rs M 70 (cR R)) 72 (cR T), n) Q := by
      intro k
      induction k with
      | zero =>
        intro num R T l4 hk hp
        rw [s_36_13]
        simp (disch := omega) only [Option.toList_some, Option.toList_none, List.nil_append, List.cons_append, List.append_nil, true_and, and_true, not_true_eq_false, not_false_eq_true, true_implies, false_implies, implies_true, and_self, Int.reduceLT, Int.reduceLE, Int.reduceEq, Int.reduceNe, Int.reduceAdd, Int.reduceSub, Int.reduceMul, Int.reduceNeg, Int.reduceToNat, Int.toNat_natCast, ↓kk_ck, ↓kk_im, ↓kk_in, s_36_0, s_36_20, s_36_30, s_36_55, s_36_59, s_36_69, s_36_71, s_36_72, s_36_78, s_36_4, s_36_24, s_36_34, s_36_63, s_36_8, s_36_27, s_36_37, s_36_66, s_36_11, s_36_43, s_36_47, s_36_50]
        rw [sPi] at hp
        rw [hp]
        exact hQ R T
      | succ k ih =>
        intro num R T l4 hk hp
        have hR : vi_rs (vi_rs M 70 (cR R)) 72 (cR T) 70 = cR R := by simp (disch := omega) only [vi_rs_s, vi_rs_o]
        have k15 := fun {K : Option vi_V → vi_W → Prop} (he : sE R = false) => @k_15 (d + 1) 69 71 K Y (vi_rs (vi_rs M 70 (cR R)) 72 (cR T)) n R T p3 p4 (by omega) hR vi_rs_s he
        have em : vi_rs (vi_rs (vi_rs (vi_rs M 70 (cR R)) 72 (cR T)) 72 (cR (sK R (sLo R).toNat))) 70 (cR (sTl R)) = vi_rs (vi_rs M 70 (cR (sTl R))) 72 (cR (sK R (sLo R).toNat)) := by
          rw [vi_rs_rs, vi_rs_cm (by omega), vi_rs_rs]
        simp only [Nat.reduceAdd, em] at k15
        rw [sPi] at hp
        rw [s_36_13]
        cases he : sE R
        · rw [if_neg (by rw [he]; simp)] at hp
          by_cases hi : (num : Int) = i
          · rw [if_pos hi] at hp
            rcases hw with rfl | rfl
            · rw [if_pos rfl] at hp
              simp (disch := omega) only [Option.toList_some, Option.toList_none, List.nil_append, List.cons_append, List.append_nil, true_and, and_true, not_true_eq_false, not_false_eq_true, true_implies, false_implies, implies_true, and_self, Int.reduceLT, Int.reduceLE, Int.reduceEq, Int.reduceNe, Int.reduceAdd, Int.reduceSub, Int.reduceMul, Int.reduceNeg, Int.reduceToNat, Int.toNat_natCast, ↓kk_ck, ↓kk_im, ↓kk_in, s_36_0, s_36_20, s_36_30, s_36_55, s_36_59, s_36_69, s_36_71, s_36_72, s_36_78, s_36_4, s_36_24, s_36_34, s_36_63, s_36_8, s_36_27, s_36_37, s_36_66, s_36_11, s_36_43, s_36_47, s_36_50, a1, a2, a3, a4, a5, a6, a7, a8, a9, p1.1, p3.1, p4.1, k_10 p3 hR, he, vi_bf, k_12 p3 hR, k15 he, k_11 p4 vi_rs_s, ne_eq, hi]
              rw [hp]
              exact hQ _ _
            · rw [if_neg (by omega)] at hp
              simp (disch := omega) only [Option.toList_some, Option.toList_none, List.nil_append, List.cons_append, List.append_nil, true_and, and_true, not_true_eq_false, not_false_eq_true, true_implies, false_implies, implies_true, and_self, Int.reduceLT, Int.reduceLE, Int.reduceEq, Int.reduceNe, Int.reduceAdd, Int.reduceSub, Int.reduceMul, Int.reduceNeg, Int.reduceToNat, Int.toNat_natCast, ↓kk_ck, ↓kk_im, ↓kk_in, s_36_0, s_36_20, s_36_30, s_36_55, s_36_59, s_36_69, s_36_71, s_36_72, s_36_78, s_36_4, s_36_24, s_36_34, s_36_63, s_36_8, s_36_27, s_36_37, s_36_66, s_36_11, s_36_43, s_36_47, s_36_50, a1, a2, a3, a4, a5, a6, a7, a8, a9, p1.1, p3.1, p4.1, k_10 p3 hR, he, vi_bf, k_12 p3 hR, k15 he, k_11 p4 vi_rs_s, ne_eq, hi]
              rw [hp]
              exact hQ _ _
          · rw [if_neg hi] at hp
            simp (disch := omega) only [Option.toList_some, Option.toList_none, List.nil_append, List.cons_append, List.append_nil, true_and, and_true, not_true_eq_false, not_false_eq_true, true_implies, false_implies, implies_true, and_self, Int.reduceLT, Int.reduceLE, Int.reduceEq, Int.reduceNe, Int.reduceAdd, Int.reduceSub, Int.reduceMul, Int.reduceNeg, Int.reduceToNat, Int.toNat_natCast, ↓kk_ck, ↓kk_im, ↓kk_in, s_36_0, s_36_20, s_36_30, s_36_55, s_36_59, s_36_69, s_36_71, s_36_72, s_36_78, s_36_4, s_36_24, s_36_34, s_36_63, s_36_8, s_36_27, s_36_37, s_36_66, s_36_11, s_36_43, s_36_47, s_36_50, a1, a2, a3, a4, a5, a6, a7, a8, a9, p1.1, p3.1, p4.1, k_10 p3 hR, he, vi_bf, k_12 p3 hR, k15 he, ne_eq, hi, vi_inc]
            exact ih (num + 1) _ _ _ (by omega) hp
        · rw [if_pos he] at hp
          simp (disch := omega) only [Option.toList_some, Option.toList_none, List.nil_append, List.cons_append, List.append_nil, true_and, and_true, not_true_eq_false, not_false_eq_true, true_implies, false_implies, implies_true, and_self, Int.reduceLT, Int.reduceLE, Int.reduceEq, Int.reduceNe, Int.reduceAdd, Int.reduceSub, Int.reduceMul, Int.reduceNeg, Int.reduceToNat, Int.toNat_natCast, ↓kk_ck, ↓kk_im, ↓kk_in, s_36_0, s_36_20, s_36_30, s_36_55, s_36_59, s_36_69, s_36_71, s_36_72, s_36_78, s_36_4, s_36_24, s_36_34, s_36_63, s_36_8, s_36_27, s_36_37, s_36_66, s_36_11, s_36_43, s_36_47, s_36_50, a1, a2, a3, a4, a5, a6, a7, a8, a9, p1.1, p3.1, k_10 p3 hR, he, vi_bt, ne_eq]
          rw [hp]
          exact hQ R T
    have k4 := fun {K : Option vi_V → vi_W → Prop} => @k_4 (d + 3) 69 65 K Y M n R P p3 p1 (by omega) hR hP
    simp only [Nat.add_assoc, Nat.reduceAdd] at k4
    have := loop 216 0 P T none rfl rfl
    rw [vi_rs_id (q := 72) (by simp (disch := omega) only [vi_rs_s, vi_rs_o]; exact hT)] at this
    simp (disch := omega) only [Option.toList_some, Option.toList_none, List.nil_append, List.cons_append, List.append_nil, true_and, and_true, not_true_eq_false, not_false_eq_true, true_implies, false_implies, implies_true, and_self, Int.reduceLT, Int.reduceLE, Int.reduceEq, Int.reduceNe, Int.reduceAdd, Int.reduceSub, Int.reduceMul, Int.reduceNeg, Int.reduceToNat, Int.toNat_natCast, ↓kk_ck, ↓kk_im, ↓kk_in, e_36, s_36_0, s_36_20, s_36_30, s_36_55, s_36_59, s_36_69, s_36_71, s_36_72, s_36_78, s_36_4, s_36_24, s_36_34, s_36_63, s_36_8, s_36_27, s_36_37, s_36_66, s_36_11, s_36_43, s_36_47, s_36_50, a1, a2, a3, a4, a5, a6, a7, a8, a9, p1.1, p3.1, k4]
    exact this
  obtain ⟨r, w', ⟨R', T', rfl, rfl⟩, hK⟩ := vi_kx (main (fun r w' => ∃ R T, r = some (.inl (sPi 216 0 P i w)) ∧ w' = (Y, vi_rs (vi_rs M 70 (cR R)) 72 (cR T), n)) (fun R T => ⟨R, T, rfl, rfl⟩))
  exact ⟨R', T', hK⟩
end
