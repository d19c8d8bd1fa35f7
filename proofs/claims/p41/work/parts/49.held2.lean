/-! Contracts of Held, second part: those that begin beyond the BOX go; images. -/
theorem rL_l {A B : List (Nat → Int)} {r j : Nat} (h : r < A.length) : rL (A ++ B) r j = rL A r j := by
  unfold rL
  rw [List.getD_eq_getElem?_getD, List.getD_eq_getElem?_getD, List.getElem?_append_left h]
theorem rL_r {A : List (Nat → Int)} {v : Nat → Int} {j : Nat} : rL (A ++ [v]) A.length j = v j := by
  unfold rL
  rw [List.getD_eq_getElem?_getD, List.getElem?_append_right (Nat.le_refl _), Nat.sub_self]
  rfl
theorem rL_take {L : List (Nat → Int)} {i : Nat} (h : i < L.length) : L.take (i + 1) = L.take i ++ [fun j => rL L i j] := by
  rw [List.take_succ_eq_append_getElem h]
  congr 2
  funext j
  unfold rL
  rw [List.getD_eq_getElem?_getD, List.getElem?_eq_getElem h]
  rfl
section
variable {d h q lim : Nat} {K : Option vi_V → vi_W → Prop} {Y : vi_Y} {M : vi_M} {n : Nat × Nat} {L : List (Nat → Int)}
theorem k_155 (hq : kR Y q lim) (h1 : Y.1 h = 22) (hne : h ≠ q) (hne1 : h ≠ q + 1) (hr : rOK (M q) (M (q + 1)) L) (hl : L.length ≤ lim) : ∃ g, rOK (vi_u (M q) 2 ((L.filter (fun v => gPl (M h 8) (M h 9) (M h 10) (v 0) (v 1) (v 2))).length : Int)) g (L.filter (fun v => gPl (M h 8) (M h 9) (M h 10) (v 0) (v 1) (v 2))) ∧ ∀ K : Option vi_V → vi_W → Prop, vi_call GG (d + 3) 155 [.inr (.inr q), .inr (.inr h)] (Y, M, n) K ↔ K none (Y, vi_rs (vi_rs M (q + 1) g) q (vi_u (M q) 2 ((L.filter (fun v => gPl (M h 8) (M h 9) (M h 10) (v 0) (v 1) (v 2))).length : Int)), n) := by
  have hq' := hq
  obtain ⟨i1, i2, i3, i4, i5, i6⟩ := hq
  obtain ⟨r1, r2⟩ := hr
  have hqq : q ≠ q + 1 := by omega
  generalize hx : M h 8 = x at *
  generalize hy : M h 9 = y at *
  generalize hz : M h 10 = z at *
  generalize hp : (fun v : Nat → Int => gPl x y z (v 0) (v 1) (v 2)) = p
  have main : ∀ Q : Option vi_V → vi_W → Prop, (∀ g : Nat → Int, (∀ r j : Nat, r < (L.filter p).length → j < 6 → g (6 * r + j) = rL (L.filter p) r j) → Q none (Y, vi_rs (vi_rs M (q + 1) g) q (vi_u (M q) 2 ((L.filter p).length : Int)), n)) → vi_call GG (d + 3) 155 [.inr (.inr q), .inr (.inr h)] (Y, M, n) Q := by
    intro Q hQ
    have loop : ∀ i : Nat, i ≤ L.length → ∀ g : Nat → Int, (∀ r j : Nat, r < ((L.take i).filter p).length → j < 6 → g (6 * r + j) = rL ((L.take i).filter p) r j) → (∀ r j : Nat, i ≤ r → r < L.length → j < 6 → g (6 * r + j) = rL L r j) → vi_ok GG (d + 2) 155 4 [some (.inr (.inr q)), some (.inr (.inr h)), some (.inl (((L.take i).filter p).length : Int)), some (.inl (i : Int))] [] (Y, vi_rs M (q + 1) g, n) Q := by
      refine vi_dn L.length ?_ fun i hi ih => ?_
      · intro g hg1 hg2
        rw [List.take_length] at hg1 ⊢
        rw [s_155_4]
        simp (disch := omega) only [Option.toList_some, Option.toList_none, List.nil_append, List.cons_append, List.append_nil, true_and, and_true, not_true_eq_false, not_false_eq_true, true_implies, false_implies, implies_true, and_self, Int.reduceLT, Int.reduceLE, Int.reduceEq, Int.reduceNe, Int.reduceAdd, Int.reduceSub, Int.reduceMul, Int.reduceNeg, Int.reduceToNat, Int.toNat_natCast, ↓kk_ck, ↓kk_im, ↓kk_in, s_155_0, s_155_12, s_155_37, s_155_46, s_155_52, s_155_9, s_155_19, s_155_43, s_155_57, s_155_25, s_155_31, s_155_34, i1, vi_rs_o hqq, r1, vi_ms_rs]
        exact hQ g hg1
      · intro g hg1 hg2
        have hk : ((L.take i).filter p).length ≤ i := Nat.le_trans (List.length_filter_le _ _) (by rw [List.length_take]; omega)
        have eM : vi_rs M (q + 1) g q 2 = (L.length : Int) := by rw [vi_rs_o hqq]; exact r1
        have N0 := fun {K : Option vi_V → vi_W → Prop} => @k_151r (d + 1) q lim K Y (vi_rs M (q + 1) g) n hq' L.length i 0 eM hl hi (by omega)
        have N1 := fun {K : Option vi_V → vi_W → Prop} => @k_151r (d + 1) q lim K Y (vi_rs M (q + 1) g) n hq' L.length i 1 eM hl hi (by omega)
        have N2 := fun {K : Option vi_V → vi_W → Prop} => @k_151r (d + 1) q lim K Y (vi_rs M (q + 1) g) n hq' L.length i 2 eM hl hi (by omega)
        rw [vi_rs_s, hg2 i 0 (Nat.le_refl _) hi (by omega), show ((0 : Nat) : Int) = 0 from rfl] at N0
        rw [vi_rs_s, hg2 i 1 (Nat.le_refl _) hi (by omega), show ((1 : Nat) : Int) = 1 from rfl] at N1
        rw [vi_rs_s, hg2 i 2 (Nat.le_refl _) hi (by omega), show ((2 : Nat) : Int) = 2 from rfl] at N2
        rw [rL_take hi, List.filter_append] at ih
        have hpi : p (fun j => rL L i j) = gPl x y z (rL L i 0) (rL L i 1) (rL L i 2) := by rw [← hp]
        rw [s_155_4]
        cases hpc : gPl x y z (rL L i 0) (rL L i 1) (rL L i 2)
        · rw [List.filter_cons_of_neg (by rw [hpi, hpc]; simp), List.filter_nil, List.append_nil] at ih
          simp (disch := omega) only [Option.toList_some, Option.toList_none, List.nil_append, List.cons_append, List.append_nil, true_and, and_true, not_true_eq_false, not_false_eq_true, true_implies, false_implies, implies_true, and_self, Int.reduceLT, Int.reduceLE, Int.reduceEq, Int.reduceNe, Int.reduceAdd, Int.reduceSub, Int.reduceMul, Int.reduceNeg, Int.reduceToNat, Int.toNat_natCast, ↓kk_ck, ↓kk_im, ↓kk_in, s_155_0, s_155_12, s_155_37, s_155_46, s_155_52, s_155_9, s_155_19, s_155_43, s_155_57, s_155_25, s_155_31, s_155_34, i1, vi_rs_o hqq, r1, N0, N1, N2, k_49 h1, vi_rs_o hne1, hx, hy, hz, hpc, vi_bf, vi_inc]
          exact ih g hg1 (fun r j h => hg2 r j (by omega))
        · rw [List.filter_cons_of_pos (by rw [hpi, hpc]), List.filter_nil, List.length_append] at ih
          simp (disch := omega) only [Option.toList_some, Option.toList_none, List.nil_append, List.cons_append, List.append_nil, true_and, and_true, not_true_eq_false, not_false_eq_true, true_implies, false_implies, implies_true, and_self, Int.reduceLT, Int.reduceLE, Int.reduceEq, Int.reduceNe, Int.reduceAdd, Int.reduceSub, Int.reduceMul, Int.reduceNeg, Int.reduceToNat, Int.toNat_natCast, ↓kk_ck, ↓kk_im, ↓kk_in, s_155_0, s_155_12, s_155_37, s_155_46, s_155_52, s_155_9, s_155_19, s_155_43, s_155_57, s_155_25, s_155_31, s_155_34, i1, vi_rs_o hqq, r1, N0, N1, N2, k_49 h1, vi_rs_o hne1, hx, hy, hz, hpc, vi_bt, vi_inc, k_158 (M := vi_rs M (q + 1) g) hq' (m := L.length) (a := i) (b := ((L.take i).filter p).length) eM hl hi (by omega), vi_rs_s, vi_rs_rs]
          refine ih _ (fun r j hr hj => ?_) (fun r j h5 h6 h7 => ?_)
          · unfold rMv
            by_cases hr2 : r < ((L.take i).filter p).length
            · rw [if_neg (by omega), hg1 r j hr2 hj, rL_l hr2]
            · have : r = ((L.take i).filter p).length := by rw [List.length_singleton] at hr; omega
              subst this
              rw [if_pos (by omega), rL_r, show 6 * i + (6 * ((L.take i).filter p).length + j - 6 * ((L.take i).filter p).length) = 6 * i + j by omega]
              exact hg2 i j (Nat.le_refl _) hi hj
          · unfold rMv
            rw [if_neg (by omega)]
            exact hg2 r j (by omega) h6 h7
    rw [e_155]
    simp (disch := omega) only [Option.toList_some, Option.toList_none, List.nil_append, List.cons_append, List.append_nil, true_and, and_true, not_true_eq_false, not_false_eq_true, true_implies, false_implies, implies_true, and_self, Int.reduceLT, Int.reduceLE, Int.reduceEq, Int.reduceNe, Int.reduceAdd, Int.reduceSub, Int.reduceMul, Int.reduceNeg, Int.reduceToNat, Int.toNat_natCast, ↓kk_ck, ↓kk_im, ↓kk_in, s_155_0]
    have := loop 0 (by omega) (M (q + 1)) (fun r j hr => by simp at hr) (fun r j _ h5 h6 => r2 r j h5 h6)
    rw [vi_rs_id rfl] at this
    exact this
  obtain ⟨r, w, ⟨g, hg, rfl, rfl⟩, hK⟩ := vi_kx (main (fun r w => ∃ g, (∀ r j : Nat, r < (L.filter p).length → j < 6 → g (6 * r + j) = rL (L.filter p) r j) ∧ r = none ∧ w = (Y, vi_rs (vi_rs M (q + 1) g) q (vi_u (M q) 2 ((L.filter p).length : Int)), n)) (fun g hg => ⟨g, hg, rfl, rfl⟩))
  exact ⟨g, ⟨vi_u_s, hg⟩, hK⟩
end
