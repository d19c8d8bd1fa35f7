/-! Contracts of Paths (at 97), ways of ANTS. -/
section
variable {d : Nat} {K : Option vi_V → vi_W → Prop} {Y : vi_Y} {M : vi_M} {n : Nat × Nat} {F P S R : Nat → Bool}
theorem k_101 (hY : kY Y 112) {c : Int} : vi_call GG (d + 1) 101 [.inr (.inr 97), .inl c] (Y, M, n) K ↔ K (some (.inl (if 0 ≤ c ∧ c < 216 then M 98 c.toNat else -1))) (Y, M, n) := by
  obtain ⟨a1, a2, a3, a4, a5, a6, a7⟩ := y_97 hY (by omega)
  obtain ⟨g1, g2⟩ := y_98 hY (by omega)
  refine vi_k (r := some (.inl _)) fun Q hQ => ?_
  by_cases c : 0 ≤ c ∧ c < 216
  · rw [if_pos c] at hQ
    simp (disch := omega) only [Option.toList_some, Option.toList_none, List.nil_append, List.cons_append, List.append_nil, true_and, and_true, not_true_eq_false, not_false_eq_true, true_implies, false_implies, implies_true, and_self, Int.reduceLT, Int.reduceLE, Int.reduceEq, Int.reduceNe, Int.reduceAdd, Int.reduceSub, Int.reduceMul, Int.reduceNeg, Int.reduceToNat, Int.toNat_natCast, ↓kk_ck, ↓kk_im, ↓kk_in, e_101, s_101_0, s_101_4, s_101_13, s_101_22, s_101_23, s_101_9, s_101_17, s_101_10, s_101_19, a1, a2, a3, a4, a5, a6, a7, g1, g2]
    exact hQ
  · rw [if_neg c] at hQ
    simp +contextual (disch := omega) only [Option.toList_some, Option.toList_none, List.nil_append, List.cons_append, List.append_nil, true_and, and_true, not_true_eq_false, not_false_eq_true, true_implies, false_implies, implies_true, and_self, Int.reduceLT, Int.reduceLE, Int.reduceEq, Int.reduceNe, Int.reduceAdd, Int.reduceSub, Int.reduceMul, Int.reduceNeg, Int.reduceToNat, Int.toNat_natCast, ↓kk_ck, ↓kk_im, ↓kk_in, e_101, s_101_0, s_101_4, s_101_13, s_101_22, s_101_23, s_101_9, s_101_17, s_101_10, s_101_19, a1, a2, a3, a4, a5, a6, a7, g1, g2]
    (repeat' first | exact hQ | intro _ | refine And.intro ?_ ?_ | (exfalso; omega))
theorem k_101n (hY : kY Y 112) {c : Nat} (hc : c < 216) : vi_call GG (d + 1) 101 [.inr (.inr 97), .inl (c : Int)] (Y, M, n) K ↔ K (some (.inl (M 98 c))) (Y, M, n) := by
  rw [k_101 hY, if_pos (by omega), Int.toNat_natCast]
theorem k_102 (hY : kY Y 112) (hF : M 102 = cR F) {m : Nat} (hm : m ≤ 216) {b e : Int} (hn : sHas F b = true → M 98 b.toNat = -1 → m < 216) : vi_call GG (d + 3) 102 [.inr (.inr 97), .inl b, .inl e, .inl (m : Int)] (Y, M, n) K ↔ K (some (.inl ((bfR F (m, M 99, M 98) b e).1 : Int))) (Y, vi_rs (vi_rs M 98 (bfR F (m, M 99, M 98) b e).2.2) 99 (bfR F (m, M 99, M 98) b e).2.1, n) := by
  obtain ⟨a1, a2, a3, a4, a5, a6, a7⟩ := y_97 hY (by omega)
  obtain ⟨g1, g2⟩ := y_98 hY (by omega)
  obtain ⟨f1, f2⟩ := y_99 hY (by omega)
  have p1 := kC_101 hY (by omega)
  refine vi_k (r := some (.inl _)) fun Q hQ => ?_
  cases hb : sHas F b
  · unfold bfR at hQ
    rw [if_neg (fun k => by rw [hb] at k; exact absurd k.1 (by simp))] at hQ
    dsimp only at hQ
    rw [vi_rs_id (q := 98) rfl, vi_rs_id rfl] at hQ
    simp (disch := omega) only [Option.toList_some, Option.toList_none, List.nil_append, List.cons_append, List.append_nil, true_and, and_true, not_true_eq_false, not_false_eq_true, true_implies, false_implies, implies_true, and_self, Int.reduceLT, Int.reduceLE, Int.reduceEq, Int.reduceNe, Int.reduceAdd, Int.reduceSub, Int.reduceMul, Int.reduceNeg, Int.reduceToNat, Int.toNat_natCast, ↓kk_ck, ↓kk_im, ↓kk_in, e_102, s_102_0, s_102_11, s_102_15, s_102_24, s_102_34, s_102_38, s_102_39, s_102_46, s_102_50, s_102_59, s_102_61, s_102_4, s_102_20, s_102_28, s_102_55, s_102_65, s_102_8, s_102_21, s_102_30, s_102_56, s_102_68, s_102_72, s_102_75, a1, a2, a3, a4, a5, a6, a7, g1, g2, f1, f2, p1.1, k_5 p1 hF, hb, vi_bf]
    exact hQ
  · have hb0 := hb
    unfold sHas at hb0
    rw [Bool.and_eq_true, decide_eq_true_eq] at hb0
    obtain ⟨⟨hb1, hb2⟩, -⟩ := hb0
    by_cases hD : M 98 b.toNat = -1
    · have hm2 := hn hb hD
      unfold bfR at hQ
      rw [if_pos ⟨hb, hD⟩] at hQ
      dsimp only at hQ
      simp (disch := omega) only [Option.toList_some, Option.toList_none, List.nil_append, List.cons_append, List.append_nil, true_and, and_true, not_true_eq_false, not_false_eq_true, true_implies, false_implies, implies_true, and_self, Int.reduceLT, Int.reduceLE, Int.reduceEq, Int.reduceNe, Int.reduceAdd, Int.reduceSub, Int.reduceMul, Int.reduceNeg, Int.reduceToNat, Int.toNat_natCast, ↓kk_ck, ↓kk_im, ↓kk_in, e_102, s_102_0, s_102_11, s_102_15, s_102_24, s_102_34, s_102_38, s_102_39, s_102_46, s_102_50, s_102_59, s_102_61, s_102_4, s_102_20, s_102_28, s_102_55, s_102_65, s_102_8, s_102_21, s_102_30, s_102_56, s_102_68, s_102_72, s_102_75, a1, a2, a3, a4, a5, a6, a7, g1, g2, f1, f2, p1.1, k_5 p1 hF, hb, vi_bt, ne_eq, hD, vi_ms_rs, vi_rs_o (show 99 ≠ 98 by omega), vi_inc]
      exact hQ
    · unfold bfR at hQ
      rw [if_neg (fun k => hD k.2)] at hQ
      dsimp only at hQ
      rw [vi_rs_id (q := 98) rfl, vi_rs_id rfl] at hQ
      simp (disch := omega) only [Option.toList_some, Option.toList_none, List.nil_append, List.cons_append, List.append_nil, true_and, and_true, not_true_eq_false, not_false_eq_true, true_implies, false_implies, implies_true, and_self, Int.reduceLT, Int.reduceLE, Int.reduceEq, Int.reduceNe, Int.reduceAdd, Int.reduceSub, Int.reduceMul, Int.reduceNeg, Int.reduceToNat, Int.toNat_natCast, ↓kk_ck, ↓kk_im, ↓kk_in, e_102, s_102_0, s_102_11, s_102_15, s_102_24, s_102_34, s_102_38, s_102_39, s_102_46, s_102_50, s_102_59, s_102_61, s_102_4, s_102_20, s_102_28, s_102_55, s_102_65, s_102_8, s_102_21, s_102_30, s_102_56, s_102_68, s_102_72, s_102_75, a1, a2, a3, a4, a5, a6, a7, g1, g2, f1, f2, p1.1, k_5 p1 hF, hb, vi_bt, ne_eq, hD]
      exact hQ
/-- how many STEPS, behind a search from t; the distances are left behind -/
theorem k_95 (hY : kY Y 112) (hP : M 66 = cR P) (hS : M 68 = cR S) (hR : M 102 = cR R) {a t : Nat} (ha : a < 216) (ht : t < 216) (hFa : sDif P S a = true) (hFt : sDif P S t = true) :
    ∃ (D : Nat → Int) (M' : vi_M), gDs (sDif P S) t D ∧ M' 98 = D ∧ M' 102 = cR (sDif P S) ∧ (∀ p, p ≠ 98 → p ≠ 99 → p ≠ 102 → M' p = M p) ∧ ∀ K : Option vi_V → vi_W → Prop, vi_call GG (d + 4) 95 [.inr (.inr 97), .inl (a : Int), .inl (t : Int)] (Y, M, n) K ↔ K (some (.inl (D a))) (Y, M', n) := by
  obtain ⟨a1, a2, a3, a4, a5, a6, a7⟩ := y_97 hY (by omega)
  obtain ⟨c1, c2, c3, c4, c5, c6, c7, c8, c9⟩ := y_60 hY (by omega)
  obtain ⟨g1, g2⟩ := y_98 hY (by omega)
  obtain ⟨f1, f2⟩ := y_99 hY (by omega)
  have p1 := kC_101 hY (by omega)
  have p2 := kC_65 hY (by omega)
  have p3 := kC_67 hY (by omega)
  have key : ∀ Q : Option vi_V → vi_W → Prop, (∀ (D : Nat → Int) (M' : vi_M), gDs (sDif P S) t D → M' 98 = D → M' 102 = cR (sDif P S) → (∀ p, p ≠ 98 → p ≠ 99 → p ≠ 102 → M' p = M p) → Q (some (.inl (D a))) (Y, M', n)) → vi_call GG (d + 4) 95 [.inr (.inr 97), .inl (a : Int), .inl (t : Int)] (Y, M, n) Q := by
    intro Q hQ
    have outer : ∀ x : Nat, x ≤ 216 → ∀ (s : bfT) (M' : vi_M) (l5 l6 : Option vi_V), bfI (sDif P S) t x s → M' 99 = s.2.1 → M' 98 = s.2.2 → M' 102 = cR (sDif P S) → (∀ p, p ≠ 98 → p ≠ 99 → p ≠ 102 → M' p = M p) → vi_ok GG (d + 3) 95 87 [some (.inr (.inr 97)), some (.inl (a : Int)), some (.inl (t : Int)), some (.inl (s.1 : Int)), some (.inl (x : Int)), l5, l6] [] (Y, M', n) Q := by
      have fin : ∀ (x : Nat) (s : bfT) (M' : vi_M) (l5 l6 : Option vi_V), s.1 ≤ x → bfI (sDif P S) t x s → M' 98 = s.2.2 → M' 102 = cR (sDif P S) → (∀ p, p ≠ 98 → p ≠ 99 → p ≠ 102 → M' p = M p) → vi_ok GG (d + 3) 95 87 [some (.inr (.inr 97)), some (.inl (a : Int)), some (.inl (t : Int)), some (.inl (s.1 : Int)), some (.inl (x : Int)), l5, l6] [] (Y, M', n) Q := by
        intro x s M' l5 l6 hle hi e2 e3 e4
        obtain rfl : x = s.1 := by have := hi.2.2.2.2.2.2.2.2; omega
        have := hQ s.2.2 M' (bfI_e hi) e2 e3 e4
        rw [s_95_87]
        simp (disch := omega) only [Option.toList_some, Option.toList_none, List.nil_append, List.cons_append, List.append_nil, true_and, and_true, not_true_eq_false, not_false_eq_true, true_implies, false_implies, implies_true, and_self, Int.reduceLT, Int.reduceLE, Int.reduceEq, Int.reduceNe, Int.reduceAdd, Int.reduceSub, Int.reduceMul, Int.reduceNeg, Int.reduceToNat, Int.toNat_natCast, ↓kk_ck, ↓kk_im, ↓kk_in, s_95_0, s_95_11, s_95_24, s_95_63, s_95_74, s_95_76, s_95_93, s_95_103, s_95_122, s_95_149, s_95_155, s_95_7, s_95_15, s_95_28, s_95_67, s_95_83, s_95_99, s_95_107, s_95_130, s_95_160, s_95_8, s_95_18, s_95_32, s_95_71, s_95_100, s_95_110, s_95_136, s_95_35, s_95_142, s_95_38, s_95_42, s_95_46, s_95_49, s_95_52, s_95_56, s_95_60, a1, a2, a3, a4, a5, a6, a7, k_101n hY ha, e2]
        exact this
      refine vi_dn 216 ?_ fun x hx ih => ?_
      · intro s M' l5 l6 hi e1 e2 e3 e4
        exact fin 216 s M' l5 l6 (bfI_le hi) hi e2 e3 e4
      · intro s M' l5 l6 hi e1 e2 e3 e4
        by_cases hxs : s.1 ≤ x
        · exact fin x s M' l5 l6 hxs hi e2 e3 e4
        · obtain ⟨c, hcx, hc, hFc, hD0, hDx⟩ := hi.1 x (by omega)
          have inner : ∀ w : Nat, w ≤ 6 → ∀ (s : bfT) (M' : vi_M), bfI (sDif P S) t x s → x < s.1 → s.2.1 x = (c : Int) → 0 ≤ s.2.2 c → s.2.2 c ≤ (x : Int) → (∀ v, v < w → ∀ b : Nat, sNb c v = (b : Int) → sDif P S b = true → s.2.2 b ≠ -1 ∧ s.2.2 b ≤ s.2.2 c + 1) → M' 99 = s.2.1 → M' 98 = s.2.2 → M' 102 = cR (sDif P S) → (∀ p, p ≠ 98 → p ≠ 99 → p ≠ 102 → M' p = M p) → vi_ok GG (d + 3) 95 115 [some (.inr (.inr 97)), some (.inl (a : Int)), some (.inl (t : Int)), some (.inl (s.1 : Int)), some (.inl (x : Int)), some (.inl (c : Int)), some (.inl (w : Int))] [] (Y, M', n) Q := by
            refine vi_dn 6 ?_ fun w hw ihw => ?_
            · intro s M' hi hxs hcx hD0 hDx hw e1 e2 e3 e4
              have hi2 := bfI_s hi hxs hcx fun b hb hF => by
                obtain ⟨v, hv, e⟩ := sNb_x hc hb
                exact hw v hv b e hF
              have := ih s M' (some (.inl (c : Int))) (some (.inl 6)) hi2 e1 e2 e3 e4
              rw [s_95_115]
              clear ih hQ fin
              simp (disch := omega) only [Option.toList_some, Option.toList_none, List.nil_append, List.cons_append, List.append_nil, true_and, and_true, not_true_eq_false, not_false_eq_true, true_implies, false_implies, implies_true, and_self, Int.reduceLT, Int.reduceLE, Int.reduceEq, Int.reduceNe, Int.reduceAdd, Int.reduceSub, Int.reduceMul, Int.reduceNeg, Int.reduceToNat, Int.toNat_natCast, ↓kk_ck, ↓kk_im, ↓kk_in, s_95_0, s_95_11, s_95_24, s_95_63, s_95_74, s_95_76, s_95_93, s_95_103, s_95_122, s_95_149, s_95_155, s_95_7, s_95_15, s_95_28, s_95_67, s_95_83, s_95_99, s_95_107, s_95_130, s_95_160, s_95_8, s_95_18, s_95_32, s_95_71, s_95_100, s_95_110, s_95_136, s_95_35, s_95_142, s_95_38, s_95_42, s_95_46, s_95_49, s_95_52, s_95_56, s_95_60, vi_inc]
              exact this
            · intro s M' hi hxs hcx hD0 hDx hw2 e1 e2 e3 e4
              have hr := sNb_r (c := c) (w := w) hc hw
              have hA : sHas (sDif P S) (sNb c w) = true → sA c (sNb c w).toNat := fun h => by
                unfold sHas at h
                rw [Bool.and_eq_true, decide_eq_true_eq] at h
                exact sNb_A hw (by omega) hc
              have st := bfR_i hi hxs hcx (b := sNb c w) hA
              have k102 := fun {K : Option vi_V → vi_W → Prop} => @k_102 d K Y M' n (sDif P S) hY e3 s.1 (bfI_le hi) (sNb c w) (s.2.2 c + 1) (fun h1 h2 => by
                unfold sHas at h1
                rw [Bool.and_eq_true, decide_eq_true_eq] at h1
                rw [e2] at h2
                exact bfI_new hi (c := (sNb c w).toNat) (by omega) h2)
              rw [e1, e2, show ((s.1, s.2.1, s.2.2) : bfT) = s from rfl] at k102
              have hxb : s.2.2 c < 216 := by omega
              generalize hs' : bfR (sDif P S) s (sNb c w) (s.2.2 c + 1) = s' at *
              obtain ⟨t1, t2, t3, t4, t5⟩ := st
              have tc : s'.2.2 c = s.2.2 c := t4 c (by omega)
              have ihw := ihw s' (vi_rs (vi_rs M' 98 s'.2.2) 99 s'.2.1) t1 (by omega) t3 (by rw [tc]; exact hD0) (by rw [tc]; exact hDx) (fun v hv b hb hF => by
                rw [tc]
                by_cases e : v = w
                · rw [e] at hb
                  rw [hb, Int.toNat_natCast] at t5
                  refine t5 ?_
                  unfold sHas
                  rw [decide_eq_true (by omega), Bool.true_and, Int.toNat_natCast]
                  exact hF
                · have := hw2 v (by omega) b hb hF
                  rw [t4 b this.1]
                  exact this) vi_rs_s (by rw [vi_rs_o (by omega), vi_rs_s]) (by rw [vi_rs_o (by omega), vi_rs_o (by omega)]; exact e3) (fun p h1 h2 h3 => by rw [vi_rs_o h2, vi_rs_o h1]; exact e4 p h1 h2 h3)
              rw [s_95_115]
              clear ih hQ fin t1 t3 t4 t5 hi hs' hw2
              simp (disch := omega) only [Option.toList_some, Option.toList_none, List.nil_append, List.cons_append, List.append_nil, true_and, and_true, not_true_eq_false, not_false_eq_true, true_implies, false_implies, implies_true, and_self, Int.reduceLT, Int.reduceLE, Int.reduceEq, Int.reduceNe, Int.reduceAdd, Int.reduceSub, Int.reduceMul, Int.reduceNeg, Int.reduceToNat, Int.toNat_natCast, ↓kk_ck, ↓kk_im, ↓kk_in, s_95_0, s_95_11, s_95_24, s_95_63, s_95_74, s_95_76, s_95_93, s_95_103, s_95_122, s_95_149, s_95_155, s_95_7, s_95_15, s_95_28, s_95_67, s_95_83, s_95_99, s_95_107, s_95_130, s_95_160, s_95_8, s_95_18, s_95_32, s_95_71, s_95_100, s_95_110, s_95_136, s_95_35, s_95_142, s_95_38, s_95_42, s_95_46, s_95_49, s_95_52, s_95_56, s_95_60, a1, a2, a3, a4, a5, a6, a7, k_17 hc hw, k_101n hY hc, e2, vi_32, k102, vi_inc]
              exact ihw
          have := inner 0 (by omega) s M' hi (by omega) hcx hD0 hDx (fun v hv => by omega) e1 e2 e3 e4
          have le := bfI_le hi
          rw [s_95_87]
          clear inner ih hQ fin hi
          simp (disch := omega) only [Option.toList_some, Option.toList_none, List.nil_append, List.cons_append, List.append_nil, true_and, and_true, not_true_eq_false, not_false_eq_true, true_implies, false_implies, implies_true, and_self, Int.reduceLT, Int.reduceLE, Int.reduceEq, Int.reduceNe, Int.reduceAdd, Int.reduceSub, Int.reduceMul, Int.reduceNeg, Int.reduceToNat, Int.toNat_natCast, ↓kk_ck, ↓kk_im, ↓kk_in, s_95_0, s_95_11, s_95_24, s_95_63, s_95_74, s_95_76, s_95_93, s_95_103, s_95_122, s_95_149, s_95_155, s_95_7, s_95_15, s_95_28, s_95_67, s_95_83, s_95_99, s_95_107, s_95_130, s_95_160, s_95_8, s_95_18, s_95_32, s_95_71, s_95_100, s_95_110, s_95_136, s_95_35, s_95_142, s_95_38, s_95_42, s_95_46, s_95_49, s_95_52, s_95_56, s_95_60, a1, a2, a3, a4, a5, a6, a7, f1, f2, e1, hcx]
          exact this
    have first : ∀ c : Nat, c ≤ 216 → vi_ok GG (d + 3) 95 2 [some (.inr (.inr 97)), some (.inl (a : Int)), some (.inl (t : Int)), some (.inl (c : Int)), none, none, none] [] (Y, vi_rs M 98 (vi_m c (fun _ => -1) (M 98)), n) Q := by
      refine vi_dn 216 ?_ fun c hc ih => ?_
      · generalize hM1 : vi_rs M 98 (vi_m 216 (fun _ => -1) (M 98)) = M1
        have o1 : ∀ p, p ≠ 98 → M1 p = M p := fun p hp => by rw [← hM1, vi_rs_o hp]
        have k4 := fun {K : Option vi_V → vi_W → Prop} => @k_4 (d + 2) 101 65 K Y M1 n R P p1 p2 (by omega) (by rw [o1 _ (by omega)]; exact hR) (by rw [o1 _ (by omega)]; exact hP)
        have k9 := fun {K : Option vi_V → vi_W → Prop} => @k_9 (d + 2) 101 67 K Y (vi_rs M1 102 (cR P)) n P S p1 p3 (by omega) vi_rs_s (by rw [vi_rs_o (by omega), o1 _ (by omega)]; exact hS)
        simp only [Nat.reduceAdd, vi_rs_rs] at k4 k9
        generalize hM2 : vi_rs M1 102 (cR (sDif P S)) = M2 at k9
        have o2 : ∀ p, p ≠ 102 → M2 p = M1 p := fun p hp => by rw [← hM2, vi_rs_o hp]
        have o102 : M2 102 = cR (sDif P S) := by rw [← hM2, vi_rs_s]
        have o98 : M2 98 = vi_m 216 (fun _ => -1) (M 98) := by rw [o2 _ (by omega), ← hM1, vi_rs_s]
        have ha' : sHas (sDif P S) (a : Int) = true := by unfold sHas; rw [decide_eq_true (by omega), Bool.true_and, Int.toNat_natCast]; exact hFa
        have ht' : sHas (sDif P S) (t : Int) = true := by unfold sHas; rw [decide_eq_true (by omega), Bool.true_and, Int.toNat_natCast]; exact hFt
        have hD : M2 98 t = -1 := by rw [o98, vi_m_lt ht]
        have k102 := fun {K : Option vi_V → vi_W → Prop} => @k_102 d K Y M2 n (sDif P S) hY o102 0 (by omega) (t : Int) 0 (fun _ _ => by omega)
        have eb : bfR (sDif P S) (0, M2 99, M2 98) (t : Int) 0 = (1, vi_u (M2 99) 0 (t : Int), vi_u (M2 98) t 0) := by
          unfold bfR
          rw [if_pos ⟨ht', hD⟩]
          rfl
        rw [eb] at k102
        dsimp only at k102
        rw [show ((0 : Nat) : Int) = 0 from rfl, show ((1 : Nat) : Int) = 1 from rfl] at k102
        have := outer 0 (by omega) (1, vi_u (M2 99) 0 (t : Int), vi_u (M2 98) t 0) (vi_rs (vi_rs M2 98 (vi_u (M2 98) t 0)) 99 (vi_u (M2 99) 0 (t : Int))) none none (bfI_0 ht hFt vi_u_s (fun c hc => by
          by_cases e : c = t
          · rw [if_pos e, e, vi_u_s]
          · rw [if_neg e, vi_u_o e, o98, vi_m_lt hc])) vi_rs_s (by rw [vi_rs_o (by omega), vi_rs_s]) (by rw [vi_rs_o (by omega), vi_rs_o (by omega)]; exact o102) (fun p h1 h2 h3 => by rw [vi_rs_o h2, vi_rs_o h1, o2 p h3, o1 p h1])
        dsimp only at this
        rw [show ((0 : Nat) : Int) = 0 from rfl, show ((1 : Nat) : Int) = 1 from rfl] at this
        rw [s_95_2]
        clear outer hQ eb
        simp (disch := omega) only [Option.toList_some, Option.toList_none, List.nil_append, List.cons_append, List.append_nil, true_and, and_true, not_true_eq_false, not_false_eq_true, true_implies, false_implies, implies_true, and_self, Int.reduceLT, Int.reduceLE, Int.reduceEq, Int.reduceNe, Int.reduceAdd, Int.reduceSub, Int.reduceMul, Int.reduceNeg, Int.reduceToNat, Int.toNat_natCast, ↓kk_ck, ↓kk_im, ↓kk_in, s_95_0, s_95_11, s_95_24, s_95_63, s_95_74, s_95_76, s_95_93, s_95_103, s_95_122, s_95_149, s_95_155, s_95_7, s_95_15, s_95_28, s_95_67, s_95_83, s_95_99, s_95_107, s_95_130, s_95_160, s_95_8, s_95_18, s_95_32, s_95_71, s_95_100, s_95_110, s_95_136, s_95_35, s_95_142, s_95_38, s_95_42, s_95_46, s_95_49, s_95_52, s_95_56, s_95_60, a1, a2, a3, a4, a5, a6, a7, g1, g2, c1, e_26, s_26_0, s_26_4, e_27, s_27_0, s_27_4, c6, c7, p1.1, p2.1, p3.1, k4, k9, k_5 p1 o102, ha', ht', vi_bt, ne_eq, k102]
        exact this
      · rw [s_95_2]
        simp (disch := omega) only [Option.toList_some, Option.toList_none, List.nil_append, List.cons_append, List.append_nil, true_and, and_true, not_true_eq_false, not_false_eq_true, true_implies, false_implies, implies_true, and_self, Int.reduceLT, Int.reduceLE, Int.reduceEq, Int.reduceNe, Int.reduceAdd, Int.reduceSub, Int.reduceMul, Int.reduceNeg, Int.reduceToNat, Int.toNat_natCast, ↓kk_ck, ↓kk_im, ↓kk_in, s_95_0, s_95_11, s_95_24, s_95_63, s_95_74, s_95_76, s_95_93, s_95_103, s_95_122, s_95_149, s_95_155, s_95_7, s_95_15, s_95_28, s_95_67, s_95_83, s_95_99, s_95_107, s_95_130, s_95_160, s_95_8, s_95_18, s_95_32, s_95_71, s_95_100, s_95_110, s_95_136, s_95_35, s_95_142, s_95_38, s_95_42, s_95_46, s_95_49, s_95_52, s_95_56, s_95_60, a1, a2, a3, a4, a5, a6, a7, g1, g2, vi_ms_rs, vi_rs_s, vi_rs_rs, vi_inc]
        rw [vi_m_s rfl]
        exact ih
    have := first 0 (by omega)
    rw [vi_m_0, vi_rs_id rfl] at this
    rw [e_95, s_95_0]
    exact this
  obtain ⟨r, w, ⟨D, M', e1, e2, e3, e4, rfl, rfl⟩, hK⟩ := vi_kx (key (fun r w => ∃ (D : Nat → Int) (M' : vi_M), gDs (sDif P S) t D ∧ M' 98 = D ∧ M' 102 = cR (sDif P S) ∧ (∀ p, p ≠ 98 → p ≠ 99 → p ≠ 102 → M' p = M p) ∧ r = some (.inl (D a)) ∧ w = (Y, M', n)) (fun D M' e1 e2 e3 e4 => ⟨D, M', e1, e2, e3, e4, rfl, rfl⟩))
  exact ⟨D, M', e1, e2, e3, e4, hK⟩
theorem k_95f (hY : kY Y 112) (hP : M 66 = cR P) (hS : M 68 = cR S) (hR : M 102 = cR R) {a t : Nat} (ha : a < 216) (ht : t < 216) (hF : ¬ (sDif P S a = true ∧ sDif P S t = true)) :
    vi_call GG (d + 4) 95 [.inr (.inr 97), .inl (a : Int), .inl (t : Int)] (Y, M, n) K ↔ K (some (.inl (-1))) (Y, vi_rs (vi_rs M 98 (vi_m 216 (fun _ => -1) (M 98))) 102 (cR (sDif P S)), n) := by
  obtain ⟨a1, a2, a3, a4, a5, a6, a7⟩ := y_97 hY (by omega)
  obtain ⟨c1, c2, c3, c4, c5, c6, c7, c8, c9⟩ := y_60 hY (by omega)
  obtain ⟨g1, g2⟩ := y_98 hY (by omega)
  have p1 := kC_101 hY (by omega)
  have p2 := kC_65 hY (by omega)
  have p3 := kC_67 hY (by omega)
  refine vi_k (r := some (.inl _)) fun Q hQ => ?_
  have first : ∀ c : Nat, c ≤ 216 → vi_ok GG (d + 3) 95 2 [some (.inr (.inr 97)), some (.inl (a : Int)), some (.inl (t : Int)), some (.inl (c : Int)), none, none, none] [] (Y, vi_rs M 98 (vi_m c (fun _ => -1) (M 98)), n) Q := by
    refine vi_dn 216 ?_ fun c hc ih => ?_
    · generalize hM1 : vi_rs M 98 (vi_m 216 (fun _ => -1) (M 98)) = M1 at *
      have o1 : ∀ p, p ≠ 98 → M1 p = M p := fun p hp => by rw [← hM1, vi_rs_o hp]
      have k4 := fun {K : Option vi_V → vi_W → Prop} => @k_4 (d + 2) 101 65 K Y M1 n R P p1 p2 (by omega) (by rw [o1 _ (by omega)]; exact hR) (by rw [o1 _ (by omega)]; exact hP)
      have k9 := fun {K : Option vi_V → vi_W → Prop} => @k_9 (d + 2) 101 67 K Y (vi_rs M1 102 (cR P)) n P S p1 p3 (by omega) vi_rs_s (by rw [vi_rs_o (by omega), o1 _ (by omega)]; exact hS)
      simp only [Nat.reduceAdd, vi_rs_rs] at k4 k9
      generalize hM2 : vi_rs M1 102 (cR (sDif P S)) = M2 at *
      have o102 : M2 102 = cR (sDif P S) := by rw [← hM2, vi_rs_s]
      have hs : ∀ c : Nat, c < 216 → sHas (sDif P S) (c : Int) = sDif P S c := fun c hc => by unfold sHas; rw [decide_eq_true (by omega), Bool.true_and, Int.toNat_natCast]
      rw [s_95_2]
      cases hfa : sDif P S a
      · simp (disch := omega) only [Option.toList_some, Option.toList_none, List.nil_append, List.cons_append, List.append_nil, true_and, and_true, not_true_eq_false, not_false_eq_true, true_implies, false_implies, implies_true, and_self, Int.reduceLT, Int.reduceLE, Int.reduceEq, Int.reduceNe, Int.reduceAdd, Int.reduceSub, Int.reduceMul, Int.reduceNeg, Int.reduceToNat, Int.toNat_natCast, ↓kk_ck, ↓kk_im, ↓kk_in, s_95_0, s_95_11, s_95_24, s_95_63, s_95_74, s_95_76, s_95_93, s_95_103, s_95_122, s_95_149, s_95_155, s_95_7, s_95_15, s_95_28, s_95_67, s_95_83, s_95_99, s_95_107, s_95_130, s_95_160, s_95_8, s_95_18, s_95_32, s_95_71, s_95_100, s_95_110, s_95_136, s_95_35, s_95_142, s_95_38, s_95_42, s_95_46, s_95_49, s_95_52, s_95_56, s_95_60, a1, a2, a3, a4, a5, a6, a7, g1, g2, c1, e_26, s_26_0, s_26_4, e_27, s_27_0, s_27_4, c6, c7, p1.1, p2.1, p3.1, k4, k9, k_5 p1 o102, hs a ha, hfa, vi_bf, ne_eq]

        exact hQ
      · have hft : sDif P S t = false := by cases h : sDif P S t <;> simp_all
        simp (disch := omega) only [Option.toList_some, Option.toList_none, List.nil_append, List.cons_append, List.append_nil, true_and, and_true, not_true_eq_false, not_false_eq_true, true_implies, false_implies, implies_true, and_self, Int.reduceLT, Int.reduceLE, Int.reduceEq, Int.reduceNe, Int.reduceAdd, Int.reduceSub, Int.reduceMul, Int.reduceNeg, Int.reduceToNat, Int.toNat_natCast, ↓kk_ck, ↓kk_im, ↓kk_in, s_95_0, s_95_11, s_95_24, s_95_63, s_95_74, s_95_76, s_95_93, s_95_103, s_95_122, s_95_149, s_95_155, s_95_7, s_95_15, s_95_28, s_95_67, s_95_83, s_95_99, s_95_107, s_95_130, s_95_160, s_95_8, s_95_18, s_95_32, s_95_71, s_95_100, s_95_110, s_95_136, s_95_35, s_95_142, s_95_38, s_95_42, s_95_46, s_95_49, s_95_52, s_95_56, s_95_60, a1, a2, a3, a4, a5, a6, a7, g1, g2, c1, e_26, s_26_0, s_26_4, e_27, s_27_0, s_27_4, c6, c7, p1.1, p2.1, p3.1, k4, k9, k_5 p1 o102, hs a ha, hfa, hs t ht, hft, vi_bf, vi_bt, ne_eq]

        exact hQ
    · rw [s_95_2]
      simp (disch := omega) only [Option.toList_some, Option.toList_none, List.nil_append, List.cons_append, List.append_nil, true_and, and_true, not_true_eq_false, not_false_eq_true, true_implies, false_implies, implies_true, and_self, Int.reduceLT, Int.reduceLE, Int.reduceEq, Int.reduceNe, Int.reduceAdd, Int.reduceSub, Int.reduceMul, Int.reduceNeg, Int.reduceToNat, Int.toNat_natCast, ↓kk_ck, ↓kk_im, ↓kk_in, s_95_0, s_95_11, s_95_24, s_95_63, s_95_74, s_95_76, s_95_93, s_95_103, s_95_122, s_95_149, s_95_155, s_95_7, s_95_15, s_95_28, s_95_67, s_95_83, s_95_99, s_95_107, s_95_130, s_95_160, s_95_8, s_95_18, s_95_32, s_95_71, s_95_100, s_95_110, s_95_136, s_95_35, s_95_142, s_95_38, s_95_42, s_95_46, s_95_49, s_95_52, s_95_56, s_95_60, a1, a2, a3, a4, a5, a6, a7, g1, g2, vi_ms_rs, vi_rs_s, vi_rs_rs, vi_inc]
      rw [vi_m_s rfl]
      exact ih
  have := first 0 (by omega)
  rw [vi_m_0, vi_rs_id rfl] at this
  rw [e_95, s_95_0]
  exact this
theorem k_103 (hY : kY Y 112) {c : Nat} (hc : c < 216) (hD : -1 ≤ M 98 c ∧ M 98 c < 216) : vi_call GG (d + 2) 103 [.inr (.inr 97), .inl (c : Int)] (Y, M, n) K ↔ K (some (.inl (lcN (M 98) c : Int))) (Y, M, n) := by
  obtain ⟨a1, a2, a3, a4, a5, a6, a7⟩ := y_97 hY (by omega)
  refine vi_k (r := some (.inl _)) fun Q hQ => ?_
  have e : ((lcN (M 98) c : Nat) : Int) = lcF (M 98) c 6 0 := by
    unfold lcN
    rcases lcF_p (D := M 98) hc 6 0 rfl with ⟨h, -⟩ | ⟨v, -, hv, h, h2, -⟩
    · rw [h]; omega
    · rw [h]
      rcases sNb_r hc hv with e | e
      · exact absurd e h2.1
      · omega
  rw [e] at hQ
  have loop : ∀ w : Nat, w ≤ 6 → ∀ l4, lcF (M 98) c (6 - w) w = lcF (M 98) c 6 0 → vi_ok GG (d + 1) 103 8 [some (.inr (.inr 97)), some (.inl (c : Int)), some (.inl (M 98 c)), some (.inl (w : Int)), l4] [] (Y, M, n) Q := by
    refine vi_dn 6 ?_ fun w hw ih => ?_
    · intro l4 h
      rw [← h] at hQ
      rw [s_103_8]
      simp (disch := omega) only [Option.toList_some, Option.toList_none, List.nil_append, List.cons_append, List.append_nil, true_and, and_true, not_true_eq_false, not_false_eq_true, true_implies, false_implies, implies_true, and_self, Int.reduceLT, Int.reduceLE, Int.reduceEq, Int.reduceNe, Int.reduceAdd, Int.reduceSub, Int.reduceMul, Int.reduceNeg, Int.reduceToNat, Int.toNat_natCast, ↓kk_ck, ↓kk_im, ↓kk_in, s_103_0, s_103_14, s_103_27, s_103_31, s_103_43, s_103_46, s_103_52, s_103_5, s_103_19, s_103_37, s_103_40]
      exact hQ
    · intro l4 h
      rw [show 6 - w = (5 - w) + 1 by omega, lcF] at h
      have ih := ih (some (.inl (sNb c w)))
      rw [show 6 - (w + 1) = 5 - w by omega] at ih
      have hr := sNb_r (c := c) (w := w) hc hw
      have hx : vi_w32 (M 98 c - 1) = M 98 c - 1 := vi_32 (by omega) (by omega)
      rw [s_103_8]
      by_cases h1 : sNb c w = -1
      · rw [if_neg (fun k => k.1 h1)] at h
        have := ih h
        clear ih hQ
        simp (disch := omega) only [Option.toList_some, Option.toList_none, List.nil_append, List.cons_append, List.append_nil, true_and, and_true, not_true_eq_false, not_false_eq_true, true_implies, false_implies, implies_true, and_self, Int.reduceLT, Int.reduceLE, Int.reduceEq, Int.reduceNe, Int.reduceAdd, Int.reduceSub, Int.reduceMul, Int.reduceNeg, Int.reduceToNat, Int.toNat_natCast, ↓kk_ck, ↓kk_im, ↓kk_in, s_103_0, s_103_14, s_103_27, s_103_31, s_103_43, s_103_46, s_103_52, s_103_5, s_103_19, s_103_37, s_103_40, k_17 hc hw, h1, vi_inc]
        rw [h1] at this
        exact this
      · by_cases h2 : 0 < M 98 c ∧ M 98 (sNb c w).toNat = M 98 c - 1
        · rw [if_pos ⟨h1, h2⟩] at h
          rw [← h] at hQ
          have k101 := fun {K : Option vi_V → vi_W → Prop} => @k_101 d K Y M n hY (sNb c w)
          rw [if_pos (by omega), h2.2] at k101
          clear ih h
          simp (disch := omega) only [Option.toList_some, Option.toList_none, List.nil_append, List.cons_append, List.append_nil, true_and, and_true, not_true_eq_false, not_false_eq_true, true_implies, false_implies, implies_true, and_self, Int.reduceLT, Int.reduceLE, Int.reduceEq, Int.reduceNe, Int.reduceAdd, Int.reduceSub, Int.reduceMul, Int.reduceNeg, Int.reduceToNat, Int.toNat_natCast, ↓kk_ck, ↓kk_im, ↓kk_in, s_103_0, s_103_14, s_103_27, s_103_31, s_103_43, s_103_46, s_103_52, s_103_5, s_103_19, s_103_37, s_103_40, a1, k_17 hc hw, h1, k101, hx, ne_eq]
          exact hQ
        · rw [if_neg (fun k => h2 k.2)] at h
          have := ih h
          have k101 := fun {K : Option vi_V → vi_W → Prop} => @k_101 d K Y M n hY (sNb c w)
          rw [if_pos (by omega)] at k101
          clear ih hQ h
          by_cases h3 : 0 < M 98 c
          · have h4 : ¬ M 98 (sNb c w).toNat = M 98 c - 1 := fun e => h2 ⟨h3, e⟩
            simp (disch := omega) only [Option.toList_some, Option.toList_none, List.nil_append, List.cons_append, List.append_nil, true_and, and_true, not_true_eq_false, not_false_eq_true, true_implies, false_implies, implies_true, and_self, Int.reduceLT, Int.reduceLE, Int.reduceEq, Int.reduceNe, Int.reduceAdd, Int.reduceSub, Int.reduceMul, Int.reduceNeg, Int.reduceToNat, Int.toNat_natCast, ↓kk_ck, ↓kk_im, ↓kk_in, s_103_0, s_103_14, s_103_27, s_103_31, s_103_43, s_103_46, s_103_52, s_103_5, s_103_19, s_103_37, s_103_40, a1, k_17 hc hw, h1, k101, hx, ne_eq, h4, vi_inc]
            exact this
          · simp (disch := omega) only [Option.toList_some, Option.toList_none, List.nil_append, List.cons_append, List.append_nil, true_and, and_true, not_true_eq_false, not_false_eq_true, true_implies, false_implies, implies_true, and_self, Int.reduceLT, Int.reduceLE, Int.reduceEq, Int.reduceNe, Int.reduceAdd, Int.reduceSub, Int.reduceMul, Int.reduceNeg, Int.reduceToNat, Int.toNat_natCast, ↓kk_ck, ↓kk_im, ↓kk_in, s_103_0, s_103_14, s_103_27, s_103_31, s_103_43, s_103_46, s_103_52, s_103_5, s_103_19, s_103_37, s_103_40, a1, k_17 hc hw, h1, k101, hx, ne_eq, vi_inc]
            exact this
  have := loop 0 (by omega) none rfl
  simp (disch := omega) only [Option.toList_some, Option.toList_none, List.nil_append, List.cons_append, List.append_nil, true_and, and_true, not_true_eq_false, not_false_eq_true, true_implies, false_implies, implies_true, and_self, Int.reduceLT, Int.reduceLE, Int.reduceEq, Int.reduceNe, Int.reduceAdd, Int.reduceSub, Int.reduceMul, Int.reduceNeg, Int.reduceToNat, Int.toNat_natCast, ↓kk_ck, ↓kk_im, ↓kk_in, e_103, s_103_0, a1, k_101n hY hc, s_103_5]
  exact this
theorem k_96 (hY : kY Y 112) {a k : Nat} (ha : a < 216) (hk : k ≤ 216) (hD : ∀ c, c < 216 → -1 ≤ M 98 c ∧ M 98 c < 216) : vi_call GG (d + 3) 96 [.inr (.inr 97), .inl (a : Int), .inl (k : Int)] (Y, M, n) K ↔ K (some (.inl (lcW (M 98) a k : Int))) (Y, M, n) := by
  obtain ⟨a1, a2, a3, a4, a5, a6, a7⟩ := y_97 hY (by omega)
  refine vi_k (r := some (.inl _)) fun Q hQ => ?_
  have loop : ∀ j : Nat, j ≤ k → vi_ok GG (d + 2) 96 5 [some (.inr (.inr 97)), some (.inl (a : Int)), some (.inl (k : Int)), some (.inl (lcW (M 98) a j : Int)), some (.inl (j : Int))] [] (Y, M, n) Q := by
    refine vi_dn k ?_ fun j hj ih => ?_
    · rw [s_96_5]
      simp (disch := omega) only [Option.toList_some, Option.toList_none, List.nil_append, List.cons_append, List.append_nil, true_and, and_true, not_true_eq_false, not_false_eq_true, true_implies, false_implies, implies_true, and_self, Int.reduceLT, Int.reduceLE, Int.reduceEq, Int.reduceNe, Int.reduceAdd, Int.reduceSub, Int.reduceMul, Int.reduceNeg, Int.reduceToNat, Int.toNat_natCast, ↓kk_ck, ↓kk_im, ↓kk_in, s_96_0, s_96_11, s_96_19, s_96_31, s_96_24]
      exact hQ
    · have hl := lcW_lt (D := M 98) ha j
      have k103 := fun {K : Option vi_V → vi_W → Prop} => @k_103 d K Y M n hY (lcW (M 98) a j) hl (hD _ hl)
      rw [show lcN (M 98) (lcW (M 98) a j) = lcW (M 98) a (j + 1) from rfl] at k103
      rw [s_96_5]
      simp (disch := omega) only [Option.toList_some, Option.toList_none, List.nil_append, List.cons_append, List.append_nil, true_and, and_true, not_true_eq_false, not_false_eq_true, true_implies, false_implies, implies_true, and_self, Int.reduceLT, Int.reduceLE, Int.reduceEq, Int.reduceNe, Int.reduceAdd, Int.reduceSub, Int.reduceMul, Int.reduceNeg, Int.reduceToNat, Int.toNat_natCast, ↓kk_ck, ↓kk_im, ↓kk_in, s_96_0, s_96_11, s_96_19, s_96_31, s_96_24, a1, k103, vi_inc]
      exact ih
  rw [e_96, s_96_0]
  exact loop 0 (by omega)
end
