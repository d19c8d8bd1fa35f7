/-! The property of its own: signs come to the TAPE. -/
theorem tW_s {o k : Nat} : vi_u (tW o k) (k / 4) (vi_or32 (vi_shl32 (tW o k (k / 4)) (8 : Int)) (tC (o + k))) = tW o (k + 1) := rfl
theorem tC_o {j : Nat} (h : 113 ≤ j) : tC j = 32 := by
  unfold tC
  rw [List.getD_eq_getElem?_getD, List.getElem?_eq_none_iff.mpr (by show 113 ≤ j; exact h)]
  rfl
theorem kBl_r {Y : vi_Y} {b : Nat} : kBl Y Y b := fun _ _ => ⟨rfl, rfl, rfl⟩
section
variable {d : Nat} {Y : vi_Y} {M : vi_M} {nn : Nat × Nat} {Q : Option vi_V → vi_W → Prop}
/-- one int of five, four signs each -/
theorem lk_235w {q W m : Nat} (tq : Y.1 q = 5 ∧ (Y.2.1 q : Int) = 113) (tw : Y.1 W = 1 ∧ (Y.2.1 W : Int) = 5) (hq : q ≠ W) (hM : ∀ j, j < 113 → M q j = tC j) (hm : m < 6)
    (hQ : vi_ok GG d 235 65 [some (.inr (.inr 29)), some (.inr (.inr q)), some (.inl 113), some (.inl ((20 * m : Nat) : Int)), some (.inr (.inr W)), some (.inl ((20 : Nat) : Int))] [] (Y, vi_rs M W (tW (20 * m) 20), nn) Q) : vi_ok GG d 235 15 [some (.inr (.inr 29)), some (.inr (.inr q)), some (.inl 113), some (.inl ((20 * m : Nat) : Int)), some (.inr (.inr W)), some (.inl 0)] [] (Y, vi_rs M W (tW (20 * m) 0), nn) Q := by
  obtain ⟨tq1, tq2⟩ := tq
  obtain ⟨tw1, tw2⟩ := tw
  have lp : ∀ k : Nat, k ≤ 20 → vi_ok GG d 235 15 [some (.inr (.inr 29)), some (.inr (.inr q)), some (.inl 113), some (.inl ((20 * m : Nat) : Int)), some (.inr (.inr W)), some (.inl (k : Int))] [] (Y, vi_rs M W (tW (20 * m) k), nn) Q := by
    refine vi_dn 20 ?_ ?_
    · rw [s_235_15]
      clear hM
      simp (disch := omega) only [Option.toList_some, Option.toList_none, List.nil_append, List.cons_append, List.append_nil, true_and, and_true, not_true_eq_false, not_false_eq_true, true_implies, false_implies, implies_true, and_self, Int.reduceLT, Int.reduceLE, Int.reduceEq, Int.reduceNe, Int.reduceAdd, Int.reduceSub, Int.reduceMul, Int.reduceNeg, Int.reduceToNat, Int.toNat_natCast, ↓kk_ck, ↓kk_im, ↓kk_in]
      exact hQ
    · intro k hk ih
      rw [s_235_15]
      have e4 : ((k : Int) / 4).toNat = k / 4 := by omega
      have eo : (((20 * m : Nat) : Int) + (k : Int)).toNat = 20 * m + k := by omega
      rw [← tW_s] at ih
      have st : vi_ok GG d 235 57 [some (.inr (.inr 29)), some (.inr (.inr q)), some (.inl 113), some (.inl ((20 * m : Nat) : Int)), some (.inr (.inr W)), some (.inl (k : Int))] [.inl (tC (20 * m + k)), .inl (vi_shl32 (tW (20 * m) k (k / 4)) (8 : Int)), .inl ((k : Int) / 4), .inr (.inr W)] (Y, vi_rs M W (tW (20 * m) k), nn) Q := by
        generalize tC (20 * m + k) = y at *
        generalize tW (20 * m) k = g at *
        generalize vi_shl32 (g (k / 4)) (8 : Int) = z at *
        clear hM hQ
        simp (disch := omega) only [Option.toList_some, Option.toList_none, List.nil_append, List.cons_append, List.append_nil, true_and, and_true, not_true_eq_false, not_false_eq_true, true_implies, false_implies, implies_true, and_self, Int.reduceLT, Int.reduceLE, Int.reduceEq, Int.reduceNe, Int.reduceAdd, Int.reduceSub, Int.reduceMul, Int.reduceNeg, Int.reduceToNat, Int.toNat_natCast, ↓kk_ck, ↓kk_im, ↓kk_in, s_235_57, s_235_59, tw1, tw2, e4, vi_ms_rs, vi_rs_s, vi_rs_rs, vi_inc]
        exact ih
      by_cases h : 20 * m + k < 113
      · have hv : M q (20 * m + k) = tC (20 * m + k) := hM _ h
        generalize tC (20 * m + k) = y at *
        generalize tW (20 * m) k = g at *
        clear hM hQ ih
        simp (disch := omega) only [Option.toList_some, Option.toList_none, List.nil_append, List.cons_append, List.append_nil, true_and, and_true, not_true_eq_false, not_false_eq_true, true_implies, false_implies, implies_true, and_self, Int.reduceLT, Int.reduceLE, Int.reduceEq, Int.reduceNe, Int.reduceAdd, Int.reduceSub, Int.reduceMul, Int.reduceNeg, Int.reduceToNat, Int.toNat_natCast, ↓kk_ck, ↓kk_im, ↓kk_in, s_235_22, s_235_34, s_235_35, s_235_43, s_235_46, s_235_51, s_235_52, vi_td, vi_32, tq1, tq2, tw1, tw2, e4, eo, vi_rs_s, vi_rs_o hq, hv]
        exact st
      · rw [tC_o (by omega)] at st
        generalize tW (20 * m) k = g at *
        clear hM hQ ih
        simp (disch := omega) only [Option.toList_some, Option.toList_none, List.nil_append, List.cons_append, List.append_nil, true_and, and_true, not_true_eq_false, not_false_eq_true, true_implies, false_implies, implies_true, and_self, Int.reduceLT, Int.reduceLE, Int.reduceEq, Int.reduceNe, Int.reduceAdd, Int.reduceSub, Int.reduceMul, Int.reduceNeg, Int.reduceToNat, Int.toNat_natCast, ↓kk_ck, ↓kk_im, ↓kk_in, s_235_22, s_235_34, s_235_35, s_235_43, s_235_55, vi_td, vi_32, tq1, tq2, tw1, tw2, e4, eo, vi_rs_s]
        exact st
  exact lp 0 (by omega)
theorem lk_235 {q P sl : Nat} (hY : kY Y 112) (h9 : kY9 Y) (tq : Y.1 q = 5 ∧ (Y.2.1 q : Int) = 113) (hq : 111 < q ∧ q < P) (hM : ∀ j, j < 113 → M q j = tC j) (h73 : M 73 3 = 0) (h74 : M 74 = tM 0)
    (hQ : ∀ (Y' : vi_Y) (M' : vi_M), kBl Y Y' P → M' 74 = tM 6 → M' 73 3 = 113 → (∀ p, p < P → p ≠ 73 → p ≠ 74 → M' p = M p) → Q none (Y', M', P + 6, sl + 30)) : vi_call GG (d + 71) 235 [.inr (.inr 29), .inr (.inr q), .inl 113] (Y, M, P, sl) Q := by
  have lp : ∀ m : Nat, m ≤ 6 → ∀ (Y1 : vi_Y) (M1 : vi_M) l4 l5, kBl Y Y1 P → M1 73 3 = ((20 * m : Nat) : Int) → M1 74 = tM m → (∀ p, p < P → p ≠ 73 → p ≠ 74 → M1 p = M p) → vi_ok GG (d + 70) 235 2 [some (.inr (.inr 29)), some (.inr (.inr q)), some (.inl 113), some (.inl ((20 * m : Nat) : Int)), l4, l5] [] (Y1, M1, P + m, sl + 5 * m) Q := by
    refine vi_dn 6 ?_ ?_
    · intro Y1 M1 l4 l5 hb m73 m74 hp
      have hY1 := kY_bl hY hb (by omega)
      have h91 := kY9_bl h9 hb (by omega)
      have k194 : ∀ K : Option vi_V → vi_W → Prop, vi_call GG (d + 70) 194 [.inr (.inr 29), .inl 113] (Y1, M1, P + 6, sl + 5 * 6) K ↔ K (some (.inl 113)) (Y1, vi_rs M1 73 (vi_u (M1 73) 3 113), P + 6, sl + 5 * 6) := fun K => @lk_194 d K Y1 M1 (P + 6, sl + 5 * 6) hY1 h91 120 113 m73 (by decide)
      have h29 := h91.1
      have q' := hQ Y1 (vi_rs M1 73 (vi_u (M1 73) 3 113)) hb (by rw [vi_rs_o (by decide)]; exact m74) (by rw [vi_rs_s, vi_u_s]) (fun p p0 p1 p2 => by rw [vi_rs_o p1]; exact hp p p0 p1 p2)
      rw [s_235_2]
      clear hQ hM hp m73 m74 hY1 h91 hb
      simp (disch := omega) only [Option.toList_some, Option.toList_none, List.nil_append, List.cons_append, List.append_nil, true_and, and_true, not_true_eq_false, not_false_eq_true, true_implies, false_implies, implies_true, and_self, Int.reduceLT, Int.reduceLE, Int.reduceEq, Int.reduceNe, Int.reduceAdd, Int.reduceSub, Int.reduceMul, Int.reduceNeg, Int.reduceToNat, Int.toNat_natCast, ↓kk_ck, ↓kk_im, ↓kk_in, s_235_96, s_235_101, h29, k194]
      exact q'
    · intro m hm ih Y1 M1 l4 l5 hb m73 m74 hp
      obtain ⟨W, hW⟩ : ∃ W, W = P + m := ⟨_, rfl⟩
      rw [← hW]
      obtain ⟨Y2, hY2⟩ : ∃ Y2, Y2 = vi_ynew Y1 W 1 5 := ⟨_, rfl⟩
      have hb2 : kBl Y Y2 P := by rw [hY2]; exact kBl_t hb (kBl_n (by omega))
      have tq2 : Y2.1 q = 5 ∧ (Y2.2.1 q : Int) = 113 := by
        obtain ⟨g1, g2, g3⟩ := hb2 q (by omega)
        rw [g1, g2]; exact tq
      have tw2 : Y2.1 W = 1 ∧ (Y2.2.1 W : Int) = 5 := by rw [hY2, yn1, yn2]; exact ⟨rfl, rfl⟩
      have hYY := kY_bl hY hb2 (by omega)
      have h92 := kY9_bl h9 hb2 (by omega)
      have M74 : vi_rs M1 W (tW (20 * m) 20) 74 = tM m := by rw [vi_rs_o (by omega)]; exact m74
      have M73 : vi_rs M1 W (tW (20 * m) 20) 73 = M1 73 := vi_rs_o (by omega)
      have fin : vi_ok GG (d + 70) 235 65 [some (.inr (.inr 29)), some (.inr (.inr q)), some (.inl 113), some (.inl ((20 * m : Nat) : Int)), some (.inr (.inr W)), some (.inl ((20 : Nat) : Int))] [] (Y2, vi_rs M1 W (tW (20 * m) 20), W + 1, sl + 5 * m + 5) Q := by
        have k193 : ∀ K : Option vi_V → vi_W → Prop, vi_call GG (d + 70) 193 [.inr (.inr 29), .inl (tW (20 * m) 20 0), .inl (tW (20 * m) 20 1), .inl (tW (20 * m) 20 2), .inl (tW (20 * m) 20 3), .inl (tW (20 * m) 20 4)] (Y2, vi_rs M1 W (tW (20 * m) 20), W + 1, sl + 5 * m + 5) K ↔ K (some (.inl ((20 * m + 20 : Nat) : Int))) (Y2, vi_rs (vi_rs (vi_rs M1 W (tW (20 * m) 20)) 74 (tM (m + 1))) 73 (vi_u (M1 73) 3 ((20 * m + 20 : Nat) : Int)), W + 1, sl + 5 * m + 5) := fun K => by
          have := @lk_193 d K Y2 (vi_rs M1 W (tW (20 * m) 20)) (W + 1, sl + 5 * m + 5) hYY h92 (20 * m) (by rw [M73]; exact m73) (by omega) (tW (20 * m) 20 0) (tW (20 * m) 20 1) (tW (20 * m) 20 2) (tW (20 * m) 20 3) (tW (20 * m) 20 4)
          rw [M74, M73, tM_s hm] at this
          exact this
        obtain ⟨M3, hM3⟩ : ∃ M3, M3 = vi_rs (vi_rs (vi_rs M1 W (tW (20 * m) 20)) 74 (tM (m + 1))) 73 (vi_u (M1 73) 3 ((20 * m + 20 : Nat) : Int)) := ⟨_, rfl⟩
        have nx := ih Y2 M3 (some (.inr (.inr W))) (some (.inl ((20 : Nat) : Int))) hb2 (by rw [hM3, vi_rs_s, vi_u_s]; rfl) (by rw [hM3, vi_rs_o (by decide), vi_rs_s]) (fun p p0 p1 p2 => by rw [hM3, vi_rs_o p1, vi_rs_o p2, vi_rs_o (by omega)]; exact hp p p0 p1 p2)
        rw [← hM3] at k193
        have e20 : ((20 * (m + 1) : Nat) : Int) = ((20 * m : Nat) : Int) + 20 := by omega
        rw [e20, show P + (m + 1) = W + 1 by omega, show sl + 5 * (m + 1) = sl + 5 * m + 5 by omega] at nx
        obtain ⟨t1, t2⟩ := tw2
        have h29 := h92.1
        have z0 : (0 : Int).toNat = 0 := rfl
        have z1 : (1 : Int).toNat = 1 := rfl
        have z2 : (2 : Int).toNat = 2 := rfl
        have z3 : (3 : Int).toNat = 3 := rfl
        have z4 : (4 : Int).toNat = 4 := rfl
        clear ih hQ hM hp m73 m74 hM3 M73 M74 e20 hb hb2 hY2
        generalize tW (20 * m) 20 = g at *
        generalize sl + 5 * m + 5 = sl' at *
        simp (disch := omega) only [Option.toList_some, Option.toList_none, List.nil_append, List.cons_append, List.append_nil, true_and, and_true, not_true_eq_false, not_false_eq_true, true_implies, false_implies, implies_true, and_self, Int.reduceLT, Int.reduceLE, Int.reduceEq, Int.reduceNe, Int.reduceAdd, Int.reduceSub, Int.reduceMul, Int.reduceNeg, Int.reduceToNat, Int.toNat_natCast, ↓kk_ck, ↓kk_im, ↓kk_in, s_235_65, s_235_70, s_235_74, s_235_78, s_235_82, s_235_86, s_235_89, t1, t2, h29, z0, z1, z2, z3, z4, vi_rs_s, k193, vi_32]
        exact nx
      have st := @lk_235w (d + 70) Y2 M1 (W + 1, sl + 5 * m + 5) Q q W m tq2 tw2 (by omega) (fun j hj => by rw [hp q (by omega) (by omega) (by omega)]; exact hM j hj) hm fin
      have z5 : (5 : Int).toNat = 5 := rfl
      rw [hY2, show tW (20 * m) 0 = fun _ => 0 from rfl] at st
      rw [s_235_2]
      clear ih hQ hM hp m73 m74 fin M73 M74 hb hb2 hY2 hYY h92 tq2 tw2
      generalize sl + 5 * m = sl' at *
      simp (disch := omega) only [Option.toList_some, Option.toList_none, List.nil_append, List.cons_append, List.append_nil, true_and, and_true, not_true_eq_false, not_false_eq_true, true_implies, false_implies, implies_true, and_self, Int.reduceLT, Int.reduceLE, Int.reduceEq, Int.reduceNe, Int.reduceAdd, Int.reduceSub, Int.reduceMul, Int.reduceNeg, Int.reduceToNat, Int.toNat_natCast, ↓kk_ck, ↓kk_im, ↓kk_in, s_235_7, s_235_10, z5]
      exact st
  have := lp 0 (by omega) Y M none none kBl_r h73 h74 (fun _ _ _ _ => rfl)
  clear lp hQ hM
  simp (disch := omega) only [Option.toList_some, Option.toList_none, List.nil_append, List.cons_append, List.append_nil, true_and, and_true, not_true_eq_false, not_false_eq_true, true_implies, false_implies, implies_true, and_self, Int.reduceLT, Int.reduceLE, Int.reduceEq, Int.reduceNe, Int.reduceAdd, Int.reduceSub, Int.reduceMul, Int.reduceNeg, Int.reduceToNat, Int.toNat_natCast, ↓kk_ck, ↓kk_im, ↓kk_in, e_235, s_235_0]
  exact this
end
