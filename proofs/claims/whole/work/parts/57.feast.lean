/-! Contracts of Paper, fourth part: a FEAST. -/
/-- the seed and what is left behind so many draws -/
def ft (x y z : Int) (P : Nat → Bool) (s : Int) : Nat → Int × (Nat → Bool)
  | 0 => (s, P)
  | k + 1 => (dwS (dwS (dwS (ft x y z P s k).1)), sDif (ft x y z P s k).2 (sLn (dwS (ft x y z P s k).1 % 3) (dwS (dwS (ft x y z P s k).1) % gU x y z (dwS (ft x y z P s k).1 % 3)) (dwS (dwS (dwS (ft x y z P s k).1)) % gV x y z (dwS (ft x y z P s k).1 % 3))))
def fF (f : Nat → Int) (s b : Int) : Nat → Int := fun k => if k = 9 then b else if k = 10 then s else f k
theorem fF_10 {f : Nat → Int} {s s' b : Int} : vi_u (fF f s b) 10 s' = fF f s' b := by
  funext k
  unfold vi_u fF
  by_cases h1 : k = 9 <;> by_cases h2 : k = 10 <;> simp_all
theorem fF_9 {f : Nat → Int} {s b b' : Int} : vi_u (fF f s b) 9 b' = fF f s b' := by
  funext k
  unfold vi_u fF
  by_cases h1 : k = 9 <;> by_cases h2 : k = 10 <;> simp_all
section
variable {d : Nat} {K : Option vi_V → vi_W → Prop} {Y : vi_Y} {M : vi_M} {n : Nat × Nat} {P B R T S : Nat → Bool}
theorem ft_r {x y z s : Int} (hs : 0 ≤ s ∧ s ≤ 1000003) : ∀ k, 0 ≤ (ft x y z P s k).1 ∧ (ft x y z P s k).1 ≤ 1000003
  | 0 => hs
  | k + 1 => by have := dwS_r (s := dwS (dwS (ft x y z P s k).1)); rw [ft]; dsimp only; omega
theorem k_83 (hY : kY Y 151) (hb : gB (M 30 8) (M 30 9) (M 30 10)) (hP : M 66 = cR P) (hB : M 81 = cR B) {s : Int} (hs : 0 ≤ s ∧ s ≤ 1000000) {m : Nat} (hm : m ≤ 60) : vi_call GG (d + 3) 83 [.inr (.inr 77), .inl s, .inl (m : Int)] (Y, M, n) K ↔ K (some (.inl (sN 216 (ft (M 30 8) (M 30 9) (M 30 10) P s m).2 : Int))) (Y, vi_rs (vi_rs (vi_rs M 81 (cR (ft (M 30 8) (M 30 9) (M 30 10) P s m).2)) 79 (vi_m m (fun i => (sN 216 (ft (M 30 8) (M 30 9) (M 30 10) P s (i + 1)).2 : Int)) (M 79))) 77 (fF (M 77) (ft (M 30 8) (M 30 9) (M 30 10) P s m).1 (m : Int)), n) := by
  obtain ⟨a1, a2, a3, a4, a5, a6, a7, a8, a9⟩ := y_77 hY (by omega)
  obtain ⟨c1, c2, c3, c4, c5, c6, c7, c8, c9⟩ := y_60 hY (by omega)
  obtain ⟨g1, g2⟩ := y_79 hY (by omega)
  have b1 := (y_30 hY (by omega)).1
  have p1 := kC_80 hY (by omega)
  have p2 := kC_65 hY (by omega)
  refine vi_k (r := some (.inl _)) fun Q hQ => ?_
  generalize ex : M 30 8 = x at *
  generalize ey : M 30 9 = y at *
  generalize ez : M 30 10 = z at *
  obtain ⟨bx, by', bz⟩ := hb
  have loop : ∀ k : Nat, k ≤ m → ∀ l4 l5 l6, vi_ok GG (d + 2) 83 26 [some (.inr (.inr 77)), some (.inl s), some (.inl (m : Int)), some (.inl (k : Int)), l4, l5, l6] [] (Y, vi_rs (vi_rs (vi_rs M 81 (cR (ft x y z P s k).2)) 79 (vi_m k (fun i => (sN 216 (ft x y z P s (i + 1)).2 : Int)) (M 79))) 77 (fF (M 77) (ft x y z P s k).1 (k : Int)), n) Q := by
    refine vi_dn m ?_ fun k hk ih => ?_
    · intro l4 l5 l6
      have k11 := fun {K : Option vi_V → vi_W → Prop} => @k_11 d 80 K Y (vi_rs (vi_rs (vi_rs M 81 (cR (ft x y z P s m).2)) 79 (vi_m m (fun i => (sN 216 (ft x y z P s (i + 1)).2 : Int)) (M 79))) 77 (fF (M 77) (ft x y z P s m).1 (m : Int))) n (ft x y z P s m).2 p1 (by simp (disch := omega) only [vi_rs_s, vi_rs_o])
      rw [s_83_26]
      simp (disch := omega) only [Option.toList_some, Option.toList_none, List.nil_append, List.cons_append, List.append_nil, true_and, and_true, not_true_eq_false, not_false_eq_true, true_implies, false_implies, implies_true, and_self, Int.reduceLT, Int.reduceLE, Int.reduceEq, Int.reduceNe, Int.reduceAdd, Int.reduceSub, Int.reduceMul, Int.reduceNeg, Int.reduceToNat, Int.toNat_natCast, ↓kk_ck, ↓kk_im, ↓kk_in, s_83_0, s_83_31, s_83_40, s_83_119, s_83_5, s_83_36, s_83_45, s_83_123, s_83_10, s_83_37, s_83_52, s_83_126, s_83_14, s_83_57, s_83_18, s_83_60, s_83_21, s_83_67, s_83_24, s_83_72, s_83_75, s_83_81, s_83_90, s_83_94, s_83_99, s_83_102, s_83_103, s_83_108, s_83_113, a1, a2, a3, a4, a5, a6, a7, a8, a9, p1.1, k11]
      exact hQ
    · intro l4 l5 l6
      have hr := ft_r (P := P) (x := x) (y := y) (z := z) (s := s) (by omega) k
      have e81 : (ft x y z P s (k + 1)).2 = sDif (ft x y z P s k).2 (sLn (dwS (ft x y z P s k).1 % 3) (dwS (dwS (ft x y z P s k).1) % gU x y z (dwS (ft x y z P s k).1 % 3)) (dwS (dwS (dwS (ft x y z P s k).1)) % gV x y z (dwS (ft x y z P s k).1 % 3))) := rfl
      have e77 : (ft x y z P s (k + 1)).1 = dwS (dwS (dwS (ft x y z P s k).1)) := rfl
      have ih := ih (some (.inl (dwS (ft x y z P s k).1 % 3))) (some (.inl (dwS (dwS (ft x y z P s k).1) % gU x y z (dwS (ft x y z P s k).1 % 3)))) (some (.inl (dwS (dwS (dwS (ft x y z P s k).1)) % gV x y z (dwS (ft x y z P s k).1 % 3))))
      rw [← vi_m_s (z := k) (f := fun i => (sN 216 (ft x y z P s (i + 1)).2 : Int)) (g := M 79) rfl] at ih
      simp only [e81, e77] at ih
      generalize hft1 : (ft x y z P s k).1 = s0 at *
      generalize hft2 : (ft x y z P s k).2 = S0 at *
      generalize hmm : vi_m k (fun i => (sN 216 (ft x y z P s (i + 1)).2 : Int)) (M 79) = f79 at *
      have d1 := dwS_r (s := s0)
      have d2 := dwS_r (s := dwS s0)
      have d3 := dwS_r (s := dwS (dwS s0))
      generalize hs1 : dwS s0 = s1 at *
      generalize hs2 : dwS s1 = s2 at *
      generalize hs3 : dwS s2 = s3 at *
      have ga : 0 ≤ s1 % 3 ∧ s1 % 3 < 3 := by omega
      generalize hax : s1 % 3 = a at *
      have gu : 1 ≤ gU x y z a ∧ gU x y z a ≤ 6 := by unfold gU; split <;> omega
      have gv : 1 ≤ gV x y z a ∧ gV x y z a ≤ 6 := by unfold gV; split <;> omega
      have hu : 0 ≤ s2 % gU x y z a ∧ s2 % gU x y z a < gU x y z a := ⟨Int.emod_nonneg _ (by omega), Int.emod_lt_of_pos _ (by omega)⟩
      have hv : 0 ≤ s3 % gV x y z a ∧ s3 % gV x y z a < gV x y z a := ⟨Int.emod_nonneg _ (by omega), Int.emod_lt_of_pos _ (by omega)⟩
      have R0 : ∀ f, vi_rs (vi_rs (vi_rs M 81 (cR S0)) 79 f79) 77 f 77 = f := fun f => vi_rs_s
      have R30 : ∀ f, vi_rs (vi_rs (vi_rs M 81 (cR S0)) 79 f79) 77 f 30 = M 30 := fun f => by simp (disch := omega) only [vi_rs_s, vi_rs_o]
      have D := fun {K : Option vi_V → vi_W → Prop} {t m : Int} (hm : 1 ≤ m ∧ m ≤ 6) (ht : 0 ≤ t ∧ t ≤ 1000003) => @k_85 (d + 1) K Y (vi_rs (vi_rs (vi_rs M 81 (cR S0)) 79 f79) 77 (fF (M 77) t (k : Int))) n hY m hm (by rw [R0]; exact ht)
      have t10 : ∀ t : Int, fF (M 77) t (k : Int) 10 = t := fun t => rfl
      simp only [R0, t10, vi_rs_rs, fF_10] at D
      have D1 := fun {K : Option vi_V → vi_W → Prop} => @D K s0 3 (by omega) (by omega)
      have D2 := fun {K : Option vi_V → vi_W → Prop} => @D K s1 (gU x y z a) gu (by omega)
      have D3 := fun {K : Option vi_V → vi_W → Prop} => @D K s2 (gV x y z a) gv (by omega)
      rw [hs1, hax] at D1
      rw [hs2] at D2
      rw [hs3] at D3
      generalize hu' : s2 % gU x y z a = u at *
      generalize hv' : s3 % gV x y z a = v at *
      have k8 := fun {K : Option vi_V → vi_W → Prop} => @k_8 (d + 1) 80 K Y (vi_rs (vi_rs (vi_rs M 81 (cR S0)) 79 f79) 77 (fF (M 77) s3 (k : Int))) n S0 p1 (by simp (disch := omega) only [vi_rs_s, vi_rs_o]) a u v ga (by omega) (by omega)
      have em : ∀ f g, vi_rs (vi_rs (vi_rs (vi_rs M 81 (cR S0)) 79 f79) 77 f) 81 g = vi_rs (vi_rs (vi_rs M 81 g) 79 f79) 77 f := fun f g => by
        rw [vi_rs_cm (p := 77) (q := 81) (by omega), vi_rs_cm (p := 79) (q := 81) (by omega), vi_rs_rs]
      simp only [Nat.reduceAdd, em] at k8
      have k11 := fun {K : Option vi_V → vi_W → Prop} => @k_11 d 80 K Y (vi_rs (vi_rs (vi_rs M 81 (cR (sDif S0 (sLn a u v)))) 79 f79) 77 (fF (M 77) s3 (k : Int))) n (sDif S0 (sLn a u v)) p1 (by simp (disch := omega) only [vi_rs_s, vi_rs_o])
      have em2 : ∀ g f f', vi_rs (vi_rs (vi_rs (vi_rs M 81 g) 79 f79) 77 f) 79 f' = vi_rs (vi_rs (vi_rs M 81 g) 79 f') 77 f := fun g f f' => by
        rw [vi_rs_cm (p := 77) (q := 79) (by omega), vi_rs_rs]
      have em3 : ∀ g f, vi_rs (vi_rs (vi_rs M 81 g) 79 f79) 77 f 79 = f79 := fun g f => by simp (disch := omega) only [vi_rs_s, vi_rs_o]
      have em4 : ∀ g f f', vi_rs (vi_rs (vi_rs M 81 g) 79 f) 77 f' 77 = f' := fun g f f' => vi_rs_s
      have t9 : ∀ t : Int, fF (M 77) t (k : Int) 9 = (k : Int) := fun t => rfl
      rw [s_83_26]
      clear hQ D
      simp (disch := omega) only [Option.toList_some, Option.toList_none, List.nil_append, List.cons_append, List.append_nil, true_and, and_true, not_true_eq_false, not_false_eq_true, true_implies, false_implies, implies_true, and_self, Int.reduceLT, Int.reduceLE, Int.reduceEq, Int.reduceNe, Int.reduceAdd, Int.reduceSub, Int.reduceMul, Int.reduceNeg, Int.reduceToNat, Int.toNat_natCast, ↓kk_ck, ↓kk_im, ↓kk_in, s_83_0, s_83_31, s_83_40, s_83_119, s_83_5, s_83_36, s_83_45, s_83_123, s_83_10, s_83_37, s_83_52, s_83_126, s_83_14, s_83_57, s_83_18, s_83_60, s_83_21, s_83_67, s_83_24, s_83_72, s_83_75, s_83_81, s_83_90, s_83_94, s_83_99, s_83_102, s_83_103, s_83_108, s_83_113, a1, a2, a3, a4, a5, a6, a7, a8, a9, b1, g1, g2, p1.1, k_44 b1, k_45 b1, R30, ex, ey, ez, D1, D2, D3, k8, k11, em2, em3, em4, vi_ms_rs, vi_rs_rs, t9, fF_9, vi_inc]
      exact ih
  have k4 := fun {K : Option vi_V → vi_W → Prop} {f : Nat → Int} => @k_4 (d + 1) 80 65 K Y (vi_rs M 77 f) n B P p1 p2 (by omega) (by simp (disch := omega) only [vi_rs_s, vi_rs_o]; exact hB) (by simp (disch := omega) only [vi_rs_s, vi_rs_o]; exact hP)
  have := loop 0 (by omega) none none none
  rw [vi_m_0] at this
  have e1 : vi_rs (vi_rs M 77 (fF (M 77) s 0)) 81 (cR P) = vi_rs (vi_rs (vi_rs M 81 (cR P)) 79 (M 79)) 77 (fF (M 77) s 0) := by
    rw [vi_rs_cm (p := 77) (q := 81) (by omega), vi_rs_id (q := 79) (by simp (disch := omega) only [vi_rs_s, vi_rs_o])]
  have e2 : vi_u (vi_u (M 77) 10 s) 9 0 = fF (M 77) s 0 := by
    funext k
    unfold vi_u fF
    by_cases h1 : k = 9 <;> by_cases h2 : k = 10 <;> simp_all
  simp (disch := omega) only [Option.toList_some, Option.toList_none, List.nil_append, List.cons_append, List.append_nil, true_and, and_true, not_true_eq_false, not_false_eq_true, true_implies, false_implies, implies_true, and_self, Int.reduceLT, Int.reduceLE, Int.reduceEq, Int.reduceNe, Int.reduceAdd, Int.reduceSub, Int.reduceMul, Int.reduceNeg, Int.reduceToNat, Int.toNat_natCast, ↓kk_ck, ↓kk_im, ↓kk_in, e_83, s_83_0, s_83_31, s_83_40, s_83_119, s_83_5, s_83_36, s_83_45, s_83_123, s_83_10, s_83_37, s_83_52, s_83_126, s_83_14, s_83_57, s_83_18, s_83_60, s_83_21, s_83_67, s_83_24, s_83_72, s_83_75, s_83_81, s_83_90, s_83_94, s_83_99, s_83_102, s_83_103, s_83_108, s_83_113, a1, a2, a3, a4, a5, a6, a7, a8, a9, c1, c6, p1.1, e_26, s_26_0, s_26_4, vi_ms_rs, vi_rs_s, vi_rs_rs, e2, k4, e1]
  exact this
theorem k_84 (hY : kY Y 151) {m : Nat} (hm : M 77 9 = (m : Int)) (h60 : m ≤ 60) {i : Int} : vi_call GG (d + 1) 84 [.inr (.inr 77), .inl i] (Y, M, n) K ↔ K (some (.inl (if 0 ≤ i ∧ i < (m : Int) then M 79 i.toNat else -1))) (Y, M, n) := by
  obtain ⟨a1, a2, a3, a4, a5, a6, a7, a8, a9⟩ := y_77 hY (by omega)
  obtain ⟨g1, g2⟩ := y_79 hY (by omega)
  refine vi_k (r := some (.inl _)) fun Q hQ => ?_
  by_cases c : 0 ≤ i ∧ i < (m : Int)
  · rw [if_pos c] at hQ
    simp (disch := omega) only [Option.toList_some, Option.toList_none, List.nil_append, List.cons_append, List.append_nil, true_and, and_true, not_true_eq_false, not_false_eq_true, true_implies, false_implies, implies_true, and_self, Int.reduceLT, Int.reduceLE, Int.reduceEq, Int.reduceNe, Int.reduceAdd, Int.reduceSub, Int.reduceMul, Int.reduceNeg, Int.reduceToNat, Int.toNat_natCast, ↓kk_ck, ↓kk_im, ↓kk_in, e_84, s_84_0, s_84_4, s_84_12, s_84_21, s_84_30, s_84_31, s_84_9, s_84_17, s_84_25, s_84_18, s_84_27, a1, a2, a3, a4, a5, a6, a7, a8, a9, g1, g2, hm]
    exact hQ
  · rw [if_neg c] at hQ
    simp +contextual (disch := omega) only [Option.toList_some, Option.toList_none, List.nil_append, List.cons_append, List.append_nil, true_and, and_true, not_true_eq_false, not_false_eq_true, true_implies, false_implies, implies_true, and_self, Int.reduceLT, Int.reduceLE, Int.reduceEq, Int.reduceNe, Int.reduceAdd, Int.reduceSub, Int.reduceMul, Int.reduceNeg, Int.reduceToNat, Int.toNat_natCast, ↓kk_ck, ↓kk_im, ↓kk_in, e_84, s_84_0, s_84_4, s_84_12, s_84_21, s_84_30, s_84_31, s_84_9, s_84_17, s_84_25, s_84_18, s_84_27, a1, a2, a3, a4, a5, a6, a7, a8, a9, g1, g2, hm]
    (repeat' first | exact hQ | intro _ | refine And.intro ?_ ?_ | (exfalso; omega))
end
