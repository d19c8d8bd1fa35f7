/-! countsWays, fits (reference). -/
theorem ix_7 {x r : Nat} (hx : x ≤ 6) (hr : r < 117649) : vi_w32 (vi_w32 ((x : Int) * 117649) + (r : Int)) = ((x * 117649 + r : Nat) : Int) := by
  rw [@vi_32 ((x : Int) * 117649) (by omega) (by omega), vi_32 (by omega) (by omega)]; omega
theorem ix_7s {x r : Nat} (hx : x ≤ 5) (hr : r < 117649) : vi_w32 (vi_w32 (vi_w32 ((x : Int) + 1) * 117649) + (r : Int)) = (((x + 1) * 117649 + r : Nat) : Int) := by
  rw [@vi_32 ((x : Int) + 1) (by omega) (by omega), @vi_32 (((x : Int) + 1) * 117649) (by omega) (by omega), vi_32 (by omega) (by omega)]; omega
theorem dn_x {X k : Nat} (h : k < X) (hX : X ≤ 6) : vi_w32 (((X - 1 - k : Nat) : Int) + -1) = (X : Int) - 1 - ((k + 1 : Nat) : Int) := by rw [vi_32 (by omega) (by omega)]; omega
theorem mul_7 {k : Nat} (hk : k ≤ 5) : vi_w32 (7 * ((7 ^ k : Nat) : Int)) = ((7 ^ (k + 1) : Nat) : Int) := by
  have h5 : 7 ^ k ≤ 7 ^ 5 := Nat.pow_le_pow_right (by omega) hk
  have h1 : 7 ^ (k + 1) = 7 * 7 ^ k := Nat.pow_succ'
  rw [vi_32 (by omega) (by omega)]; omega
theorem mul_c {c q : Nat} (h : c * q < 2147483648) : vi_w32 ((c : Int) * (q : Int)) = ((c * q : Nat) : Int) := by
  rw [← Int.natCast_mul, vi_32 (by omega) (by omega)]
section
variable {D : Nat} {K : Option vi_V → vi_W → Prop} {Y : vi_Y} {M : vi_M} {nn : Nat × Nat} {Q : Option vi_V → vi_W → Prop}
/-- one place, one rest: all sets -/
theorem h_347s (hY : kY Y 151) {f : Nat → Int} (hf : f = M 114) {X S k rest : Nat} (hX : X ≤ 6) (hS : S ≤ 6) (h97 : M 114 97 = (S : Int)) (hk : k < X) (hr : rest < 7 ^ S) (hP : p7 M) (hT : wyT f X S (X - k) (M 148)) (hD : 3 ≤ D) {al : Int}
    (ih : ∀ l6 l7, vi_ok GG D 347 196 [some (.inr (.inr 112)), some (.inl al), some (.inl ((X - 1 - k : Nat) : Int)), some (.inl (rest : Int)), some (.inr (.inl (rWs f X S k rest (2 ^ S) : Int))), none, some (.inl l6), l7] [] (Y, M, nn) Q) :
    ∀ s : Nat, s ≤ 2 ^ S → ∀ l7, vi_ok GG D 347 117 [some (.inr (.inr 112)), some (.inl al), some (.inl ((X - 1 - k : Nat) : Int)), some (.inl (rest : Int)), some (.inr (.inl (rWs f X S k rest s : Int))), none, some (.inl (s : Int)), l7] [] (Y, M, nn) Q := by
  obtain ⟨R1, -, R3, -, -, -, -, -, -, -, -, -, -, -, -, -, -, -, -, -, -, -, -, -, -, -, -, -, -, -, -, -, -, -, -, -, R59, R60, -⟩ := y_112 hY (by omega)
  obtain ⟨w1, w2⟩ := y_114 hY (by omega)
  obtain ⟨p1, p2⟩ := y_148 hY (by omega)
  have A := fun {D : Nat} {K : Option vi_V → vi_W → Prop} (hD : 1 ≤ D) => @k_2410_1 D K Y M nn hY hD
  rw [h97] at A
  have h64 : 2 ^ S ≤ 2 ^ 6 := Nat.pow_le_pow_right (by omega) hS
  have h76 : 7 ^ S ≤ 7 ^ 6 := Nat.pow_le_pow_right (by omega) hS
  have hle : rWs f X S k rest (2 ^ S) ≤ 64000000 := by
    have h1 := rW_le (f := f) (X := X) (Y := S) hS (k + 1) rest
    rw [rWs_e] at h1
    have : 20 ^ (k + 1) ≤ 20 ^ 6 := Nat.pow_le_pow_right (by omega) (by omega)
    omega
  refine vi_dn (P := fun s => ∀ l7, vi_ok GG D 347 117 [some (.inr (.inr 112)), some (.inl al), some (.inl ((X - 1 - k : Nat) : Int)), some (.inl (rest : Int)), some (.inr (.inl (rWs f X S k rest s : Int))), none, some (.inl (s : Int)), l7] [] (Y, M, nn) Q) _ ?_ fun s hs ihs => ?_
  · intro l7
    have := ih ((2 ^ S : Nat) : Int) l7
    clear ih hT
    rw [s_347_117]
    simp (disch := omega) only [Option.toList_some, Option.toList_none, List.nil_append, List.cons_append, List.append_nil, true_and, and_true, not_true_eq_false, not_false_eq_true, true_implies, false_implies, implies_true, and_self, Int.reduceLT, Int.reduceLE, Int.reduceEq, Int.reduceNe, Int.reduceAdd, Int.reduceSub, Int.reduceMul, Int.reduceNeg, Int.reduceToNat, Int.toNat_natCast, ↓kk_ck, ↓kk_im, ↓kk_in, s_347_125, s_347_126, R1, A, sh_14 (show S ≤ 14 by omega)]
    exact this
  · intro l7
    clear ih
    have k237 := fun {D : Nat} {K : Option vi_V → vi_W → Prop} (hD : 1 ≤ D) => @k_237 D K s (by omega) (Y, M, nn) hD
    have k346 := fun {D : Nat} {K : Option vi_V → vi_W → Prop} (hD : 2 ≤ D) => @k_346 D K Y M nn hY hP S h97 hS rest s (by omega) (by omega) hD
    have e280 : (280 + ((X - 1 - k : Nat) : Int)).toNat = 280 + (X - (k + 1)) := by omega
    have hm := rWs_m (f := f) (X := X) (Y := S) (k := k) (rest := rest) (s + 1) (2 ^ S - (s + 1))
    rw [show s + 1 + (2 ^ S - (s + 1)) = 2 ^ S by omega] at hm
    have hrl := rsF_le (rest := rest) (set := s) (y := S)
    rw [rWs] at ihs hm
    unfold rsO at ihs hm
    rw [hf] at ihs hm
    rw [s_347_117]
    by_cases q1 : (mOs s 8 : Int) = M 114 (280 + (X - (k + 1)))
    · by_cases q2 : rsF rest s S = -1
      · rw [if_neg (fun h => by rw [Bool.and_eq_true] at h; exact (of_decide_eq_true h.2) q2), Nat.add_zero] at ihs hm
        rw [← hf] at ihs hm
        have := ihs (some (.inl (-1)))
        rw [q1] at k237
        clear ihs hT
        simp (disch := omega) only [Option.toList_some, Option.toList_none, List.nil_append, List.cons_append, List.append_nil, true_and, and_true, not_true_eq_false, not_false_eq_true, true_implies, false_implies, implies_true, and_self, Int.reduceLT, Int.reduceLE, Int.reduceEq, Int.reduceNe, Int.reduceAdd, Int.reduceSub, Int.reduceMul, Int.reduceNeg, Int.reduceToNat, Int.toNat_natCast, ↓kk_ck, ↓kk_im, ↓kk_in, s_347_125, s_347_126, s_347_129, s_347_134, s_347_138, s_347_143, s_347_144, s_347_150, s_347_157, s_347_167, s_347_187, s_347_190, R1, R3, w1, w2, A, sh_14 (show S ≤ 14 by omega), k237, @vi_32 (280 + ((X - 1 - k : Nat) : Int)) (by omega) (by omega), e280, k346, q2, Int.add_zero, @vi_64 (rWs f X S k rest s : Int) (by omega) (by omega), vi_inc, ne_eq]
        exact this
      · obtain ⟨r, hr2⟩ : ∃ r : Nat, rsF rest s S = (r : Int) := ⟨(rsF rest s S).toNat, by omega⟩
        have hkx : k = X - (X - k) := by omega
        have ht := hT (X - k) (Nat.le_refl _) (by omega) r (by omega)
        rw [← hkx] at ht
        rw [if_pos (by rw [decide_eq_true q1, decide_eq_true q2]; rfl), hr2, Int.toNat_natCast] at ihs hm
        rw [← hf] at ihs hm
        have hb : (X - 1 - k + 1) * 117649 + r < 823543 := by omega
        rw [show X - k = X - 1 - k + 1 by omega] at ht
        rw [Int.natCast_add] at ihs
        have := ihs (some (.inl (r : Int)))
        rw [q1] at k237
        rw [hr2] at k346 q2
        clear ihs hT
        simp (disch := omega) only [Option.toList_some, Option.toList_none, List.nil_append, List.cons_append, List.append_nil, true_and, and_true, not_true_eq_false, not_false_eq_true, true_implies, false_implies, implies_true, and_self, Int.reduceLT, Int.reduceLE, Int.reduceEq, Int.reduceNe, Int.reduceAdd, Int.reduceSub, Int.reduceMul, Int.reduceNeg, Int.reduceToNat, Int.toNat_natCast, ↓kk_ck, ↓kk_im, ↓kk_in, s_347_125, s_347_126, s_347_129, s_347_134, s_347_138, s_347_143, s_347_144, s_347_150, s_347_157, s_347_171, s_347_175, s_347_185, s_347_186, s_347_187, s_347_190, R1, R3, R59, w1, w2, p1, p2, A, sh_14 (show S ≤ 14 by omega), k237, @vi_32 (280 + ((X - 1 - k : Nat) : Int)) (by omega) (by omega), e280, k346, q2, @ix_7 (X - 1 - k + 1) r (by omega) (by omega), Int.toNat_natCast, ht, @vi_64 ((rWs f X S k rest s : Int) + (rW f X S k r : Int)) (by omega) (by omega), vi_inc, ne_eq]
        exact this
    · rw [if_neg (by rw [decide_eq_false q1]; simp), Nat.add_zero] at ihs hm
      rw [← hf] at ihs hm
      have := ihs l7
      clear ihs hT
      simp (disch := omega) only [Option.toList_some, Option.toList_none, List.nil_append, List.cons_append, List.append_nil, true_and, and_true, not_true_eq_false, not_false_eq_true, true_implies, false_implies, implies_true, and_self, Int.reduceLT, Int.reduceLE, Int.reduceEq, Int.reduceNe, Int.reduceAdd, Int.reduceSub, Int.reduceMul, Int.reduceNeg, Int.reduceToNat, Int.toNat_natCast, ↓kk_ck, ↓kk_im, ↓kk_in, s_347_125, s_347_126, s_347_129, s_347_134, s_347_138, s_347_143, s_347_144, s_347_147, s_347_190, R1, R3, w1, w2, A, sh_14 (show S ≤ 14 by omega), k237, @vi_32 (280 + ((X - 1 - k : Nat) : Int)) (by omega) (by omega), e280, q1, vi_inc, ne_eq]
      exact this
theorem k_347 (hY : kY Y 151) (hB : mBx M) {X S : Nat} (h96 : M 114 96 = (X : Int)) (h97 : M 114 97 = (S : Int)) (hD : 4 ≤ D)
    (hQ : ∀ M', (∀ p, p ≠ 148 → p ≠ 149 → M' p = M p) → p7 M' → wyT (M 114) X S 0 (M' 148) → Q none (Y, M', nn)) : vi_call GG D 347 [.inr (.inr 112)] (Y, M, nn) Q := by
  obtain ⟨D, rfl⟩ : ∃ k, D = k + 1 := ⟨D - 1, by omega⟩
  obtain ⟨R1, -, R3, -, -, -, -, -, -, -, -, -, -, -, -, -, -, -, -, -, -, -, -, -, -, -, -, -, -, -, -, -, -, -, -, -, R59, R60, -⟩ := y_112 hY (by omega)
  obtain ⟨p1, p2⟩ := y_148 hY (by omega)
  obtain ⟨p3, p4⟩ := y_149 hY (by omega)
  have bX := hB.1
  have bS := hB.2.1
  rw [h96] at bX
  rw [h97] at bS
  have h76 : 7 ^ S ≤ 7 ^ 6 := Nat.pow_le_pow_right (by omega) (by omega)
  obtain ⟨f, hf⟩ : ∃ f, f = M 114 := ⟨_, rfl⟩
  rw [← hf] at hQ
  have size0 : ∀ M' : vi_M, (∀ p, p ≠ 148 → p ≠ 149 → M' p = M p) → ∀ {D : Nat} {K : Option vi_V → vi_W → Prop}, 1 ≤ D → (vi_call GG D 241 [.inr (.inr 112), .inl 0] (Y, M', nn) K ↔ K (some (.inl (X : Int))) (Y, M', nn)) := fun M' o D K hD => by
    have := @k_2410_0 D K Y M' nn hY hD
    rw [o 114 (by omega) (by omega), h96] at this
    exact this
  have size1 : ∀ M' : vi_M, (∀ p, p ≠ 148 → p ≠ 149 → M' p = M p) → ∀ {D : Nat} {K : Option vi_V → vi_W → Prop}, 1 ≤ D → (vi_call GG D 241 [.inr (.inr 112), .inl 1] (Y, M', nn) K ↔ K (some (.inl (S : Int))) (Y, M', nn)) := fun M' o D K hD => by
    have := @k_2410_1 D K Y M' nn hY hD
    rw [o 114 (by omega) (by omega), h97] at this
    exact this
  -- place by place, downwards
  have places : ∀ k : Nat, k ≤ X → ∀ (M' : vi_M) (l3 l4 l6 l7 : Option vi_V), (∀ p, p ≠ 148 → p ≠ 149 → M' p = M p) → p7 M' → wyT f X S (X - k) (M' 148) → vi_ok GG D 347 100 [some (.inr (.inr 112)), some (.inl ((7 ^ S : Nat) : Int)), some (.inl ((X : Int) - 1 - (k : Int))), l3, l4, none, l6, l7] [] (Y, M', nn) Q := by
    refine vi_dn (P := fun k => ∀ (M' : vi_M) (l3 l4 l6 l7 : Option vi_V), (∀ p, p ≠ 148 → p ≠ 149 → M' p = M p) → p7 M' → wyT f X S (X - k) (M' 148) → vi_ok GG D 347 100 [some (.inr (.inr 112)), some (.inl ((7 ^ S : Nat) : Int)), some (.inl ((X : Int) - 1 - (k : Int))), l3, l4, none, l6, l7] [] (Y, M', nn) Q) X ?_ fun k hk ih => ?_
    · intro M' l3 l4 l6 l7 o hP hT
      rw [Nat.sub_self] at hT
      have := hQ M' o hP hT
      clear hQ hT size0 size1
      rw [s_347_100]
      simp (disch := omega) only [Option.toList_some, Option.toList_none, List.nil_append, List.cons_append, List.append_nil, true_and, and_true, not_true_eq_false, not_false_eq_true, true_implies, false_implies, implies_true, and_self, Int.reduceLT, Int.reduceLE, Int.reduceEq, Int.reduceNe, Int.reduceAdd, Int.reduceSub, Int.reduceMul, Int.reduceNeg, Int.reduceToNat, Int.toNat_natCast, ↓kk_ck, ↓kk_im, ↓kk_in, s_347_238]
      exact this
    · intro M' l3 l4 l6 l7 o hP hT
      clear hQ
      have ex : (X : Int) - 1 - (k : Int) = ((X - 1 - k : Nat) : Int) := by omega
      have rests : ∀ r : Nat, r ≤ 7 ^ S → ∀ (M' : vi_M) (l4 l6 l7 : Option vi_V), (∀ p, p ≠ 148 → p ≠ 149 → M' p = M p) → p7 M' → wyT f X S (X - k) (M' 148) → (∀ j, j < r → M' 148 ((X - 1 - k) * 117649 + j) = (rW f X S (k + 1) j : Int)) → vi_ok GG D 347 106 [some (.inr (.inr 112)), some (.inl ((7 ^ S : Nat) : Int)), some (.inl ((X - 1 - k : Nat) : Int)), some (.inl (r : Int)), l4, none, l6, l7] [] (Y, M', nn) Q := by
        refine vi_dn (P := fun r => ∀ (M' : vi_M) (l4 l6 l7 : Option vi_V), (∀ p, p ≠ 148 → p ≠ 149 → M' p = M p) → p7 M' → wyT f X S (X - k) (M' 148) → (∀ j, j < r → M' 148 ((X - 1 - k) * 117649 + j) = (rW f X S (k + 1) j : Int)) → vi_ok GG D 347 106 [some (.inr (.inr 112)), some (.inl ((7 ^ S : Nat) : Int)), some (.inl ((X - 1 - k : Nat) : Int)), some (.inl (r : Int)), l4, none, l6, l7] [] (Y, M', nn) Q) _ ?_ fun r hr ihr => ?_
        · intro M' l4 l6 l7 o hP hT hrow
          have := ih M' (some (.inl ((7 ^ S : Nat) : Int))) l4 l6 l7 o hP (fun x' h1 h2 rest hrest => by
            by_cases e : x' = X - (k + 1)
            · rw [e, show X - (k + 1) = X - 1 - k by omega, hrow rest hrest, show X - (X - 1 - k) = k + 1 by omega]
            · exact hT x' (by omega) h2 rest hrest)
          clear ih hT hrow size0 size1
          rw [s_347_106]
          simp (disch := omega) only [Option.toList_some, Option.toList_none, List.nil_append, List.cons_append, List.append_nil, true_and, and_true, not_true_eq_false, not_false_eq_true, true_implies, false_implies, implies_true, and_self, Int.reduceLT, Int.reduceLE, Int.reduceEq, Int.reduceNe, Int.reduceAdd, Int.reduceSub, Int.reduceMul, Int.reduceNeg, Int.reduceToNat, Int.toNat_natCast, ↓kk_ck, ↓kk_im, ↓kk_in, s_347_232, @dn_x X k (by omega) (by omega)]
          exact this
        · intro M' l4 l6 l7 o hP hT hrow
          clear ih
          have hle : rW f X S (k + 1) r ≤ 64000000 := by
            have h1 := rW_le (f := f) (X := X) (Y := S) (by omega) (k + 1) r
            have : 20 ^ (k + 1) ≤ 20 ^ 6 := Nat.pow_le_pow_right (by omega) (by omega)
            omega
          have go := h_347s (Q := Q) (D := D) (nn := nn) (M := M') (al := ((7 ^ S : Nat) : Int)) hY (by rw [o 114 (by omega) (by omega)]; exact hf) (X := X) (S := S) (k := k) (rest := r) (by omega) (by omega) (by rw [o 114 (by omega) (by omega)]; exact h97) hk hr hP hT (by omega) (fun l6 l7 => by
            rw [← rWs_e]
            have hb : (X - 1 - k) * 117649 + r < 823543 := by omega
            have := ihr (vi_rs M' 148 (vi_u (M' 148) ((X - 1 - k) * 117649 + r) (rW f X S (k + 1) r : Int))) (some (.inr (.inl (rW f X S (k + 1) r : Int)))) (some (.inl l6)) l7 (fun p h1 h2 => by rw [vi_rs_o h1]; exact o p h1 h2) (fun y hy => by rw [vi_rs_o (by omega)]; exact hP y hy) (fun x' h1 h2 rest hrest => by rw [vi_rs_s, vi_u_o (by omega)]; exact hT x' h1 h2 rest hrest) (fun j hj => by
              rw [vi_rs_s]
              by_cases e : j = r
              · rw [e, vi_u_s]
              · rw [vi_u_o (by omega)]; exact hrow j (by omega))
            clear ihr hT hrow size0 size1
            simp (disch := omega) only [Option.toList_some, Option.toList_none, List.nil_append, List.cons_append, List.append_nil, true_and, and_true, not_true_eq_false, not_false_eq_true, true_implies, false_implies, implies_true, and_self, Int.reduceLT, Int.reduceLE, Int.reduceEq, Int.reduceNe, Int.reduceAdd, Int.reduceSub, Int.reduceMul, Int.reduceNeg, Int.reduceToNat, Int.toNat_natCast, ↓kk_ck, ↓kk_im, ↓kk_in, s_347_196, s_347_200, s_347_213, s_347_222, s_347_225, s_347_226, R1, R59, p1, p2, @ix_7 (X - 1 - k) r (by omega) (by omega), show vi_cmp64 (rW f X S (k + 1) r : Int) 1000000000 ≤ 0 from vi_cmle.mpr (by omega), @vi_32 (rW f X S (k + 1) r : Int) (by omega) (by omega), Int.toNat_natCast, vi_ms_rs, vi_inc]
            exact this) 0 (Nat.zero_le _) l7
          rw [show rWs f X S k r 0 = 0 from rfl, show ((0 : Nat) : Int) = 0 from rfl] at go
          clear ihr hT hrow size0 size1
          rw [s_347_106]
          simp (disch := omega) only [Option.toList_some, Option.toList_none, List.nil_append, List.cons_append, List.append_nil, true_and, and_true, not_true_eq_false, not_false_eq_true, true_implies, false_implies, implies_true, and_self, Int.reduceLT, Int.reduceLE, Int.reduceEq, Int.reduceNe, Int.reduceAdd, Int.reduceSub, Int.reduceMul, Int.reduceNeg, Int.reduceToNat, Int.toNat_natCast, ↓kk_ck, ↓kk_im, ↓kk_in, s_347_111]
          exact go
      have := rests 0 (Nat.zero_le _) M' l4 l6 l7 o hP hT (fun j hj => by omega)
      rw [show ((0 : Nat) : Int) = 0 from rfl] at this
      clear rests ih hT size0 size1
      rw [ex, s_347_100]
      simp (disch := omega) only [Option.toList_some, Option.toList_none, List.nil_append, List.cons_append, List.append_nil, true_and, and_true, not_true_eq_false, not_false_eq_true, true_implies, false_implies, implies_true, and_self, Int.reduceLT, Int.reduceLE, Int.reduceEq, Int.reduceNe, Int.reduceAdd, Int.reduceSub, Int.reduceMul, Int.reduceNeg, Int.reduceToNat, Int.toNat_natCast, ↓kk_ck, ↓kk_im, ↓kk_in, s_347_104]
      exact this
  clear hQ
  -- the last column
  have ends_ : ∀ r : Nat, r ≤ 7 ^ S → ∀ M' : vi_M, (∀ p, p ≠ 148 → p ≠ 149 → M' p = M p) → p7 M' → (∀ j, j < r → M' 148 (X * 117649 + j) = (rW f X S 0 j : Int)) → vi_ok GG D 347 56 [some (.inr (.inr 112)), some (.inl ((7 ^ S : Nat) : Int)), some (.inl (r : Int)), none, none, none, none, none] [] (Y, M', nn) Q := by
    refine vi_dn (P := fun r => ∀ M' : vi_M, (∀ p, p ≠ 148 → p ≠ 149 → M' p = M p) → p7 M' → (∀ j, j < r → M' 148 (X * 117649 + j) = (rW f X S 0 j : Int)) → vi_ok GG D 347 56 [some (.inr (.inr 112)), some (.inl ((7 ^ S : Nat) : Int)), some (.inl (r : Int)), none, none, none, none, none] [] (Y, M', nn) Q) _ ?_ fun r hr ihr => ?_
    · intro M' o hP hrow
      have := places 0 (by omega) M' none none none none o hP (fun x' h1 h2 rest hrest => by
        obtain rfl : x' = X := by omega
        rw [hrow rest hrest, Nat.sub_self])
      rw [show (X : Int) - 1 - ((0 : Nat) : Int) = (X : Int) - 1 by omega] at this
      have s0 := fun {D : Nat} {K : Option vi_V → vi_W → Prop} (hD : 1 ≤ D) => @size0 M' o D K hD
      clear places hrow size0 size1
      rw [s_347_56]
      simp (disch := omega) only [Option.toList_some, Option.toList_none, List.nil_append, List.cons_append, List.append_nil, true_and, and_true, not_true_eq_false, not_false_eq_true, true_implies, false_implies, implies_true, and_self, Int.reduceLT, Int.reduceLE, Int.reduceEq, Int.reduceNe, Int.reduceAdd, Int.reduceSub, Int.reduceMul, Int.reduceNeg, Int.reduceToNat, Int.toNat_natCast, ↓kk_ck, ↓kk_im, ↓kk_in, s_347_92, s_347_97, R1, s0, @vi_32 ((X : Int) - 1) (by omega) (by omega)]
      exact this
    · intro M' o hP hrow
      clear places
      have s0 := fun {D : Nat} {K : Option vi_V → vi_W → Prop} (hD : 1 ≤ D) => @size0 M' o D K hD
      have hb : X * 117649 + r < 823543 := by omega
      have := ihr (vi_rs M' 148 (vi_u (M' 148) (X * 117649 + r) (rW f X S 0 r : Int))) (fun p h1 h2 => by rw [vi_rs_o h1]; exact o p h1 h2) (fun y hy => by rw [vi_rs_o (by omega)]; exact hP y hy) (fun j hj => by
        rw [vi_rs_s]
        by_cases e : j = r
        · rw [e, vi_u_s]
        · rw [vi_u_o (by omega)]; exact hrow j (by omega))
      rw [rW] at this
      clear ihr hrow size0 size1
      rw [s_347_56]
      by_cases q : r = 0
      · rw [if_pos q] at this
        subst q
        simp (disch := omega) only [Option.toList_some, Option.toList_none, List.nil_append, List.cons_append, List.append_nil, true_and, and_true, not_true_eq_false, not_false_eq_true, true_implies, false_implies, implies_true, and_self, Int.reduceLT, Int.reduceLE, Int.reduceEq, Int.reduceNe, Int.reduceAdd, Int.reduceSub, Int.reduceMul, Int.reduceNeg, Int.reduceToNat, Int.toNat_natCast, ↓kk_ck, ↓kk_im, ↓kk_in, s_347_61, s_347_65, s_347_70, s_347_80, s_347_85, s_347_86, R1, R59, p1, p2, s0, show vi_w32 (vi_w32 ((X : Int) * 117649) + 0) = ((X * 117649 + 0 : Nat) : Int) from @ix_7 X 0 (by omega) (by omega), show ((0 : Nat) : Int) = 0 from rfl, Int.toNat_natCast, vi_ms_rs, vi_inc, ne_eq]
        exact this
      · rw [if_neg q] at this
        have q' : ¬ (r : Int) = 0 := by omega
        simp (disch := omega) only [Option.toList_some, Option.toList_none, List.nil_append, List.cons_append, List.append_nil, true_and, and_true, not_true_eq_false, not_false_eq_true, true_implies, false_implies, implies_true, and_self, Int.reduceLT, Int.reduceLE, Int.reduceEq, Int.reduceNe, Int.reduceAdd, Int.reduceSub, Int.reduceMul, Int.reduceNeg, Int.reduceToNat, Int.toNat_natCast, ↓kk_ck, ↓kk_im, ↓kk_in, s_347_61, s_347_65, s_347_70, s_347_84, s_347_85, s_347_86, R1, R59, p1, p2, s0, @ix_7 X r (by omega) (by omega), q', Int.toNat_natCast, vi_ms_rs, vi_inc, ne_eq]
        exact this
  clear places
  have pows : ∀ k : Nat, k ≤ 5 → ∀ M' : vi_M, (∀ p, p ≠ 148 → p ≠ 149 → M' p = M p) → (∀ y, y < k + 1 → M' 149 y = ((7 ^ y : Nat) : Int)) → vi_ok GG D 347 9 [some (.inr (.inr 112)), some (.inl ((k + 1 : Nat) : Int)), none, none, none, none, none, none] [] (Y, M', nn) Q := by
    refine vi_dn (P := fun k => ∀ M' : vi_M, (∀ p, p ≠ 148 → p ≠ 149 → M' p = M p) → (∀ y, y < k + 1 → M' 149 y = ((7 ^ y : Nat) : Int)) → vi_ok GG D 347 9 [some (.inr (.inr 112)), some (.inl ((k + 1 : Nat) : Int)), none, none, none, none, none, none] [] (Y, M', nn) Q) 5 ?_ fun k hk ih => ?_
    · intro M' o hP
      have s1 := fun {D : Nat} {K : Option vi_V → vi_W → Prop} (hD : 1 ≤ D) => @size1 M' o D K hD
      have := ends_ 0 (Nat.zero_le _) M' o (fun y hy => hP y hy) (fun j hj => by omega)
      have hp := hP (S - 1) (by omega)
      have et : ((S : Int) - 1).toNat = S - 1 := by omega
      rw [show 7 ^ S = 7 ^ (S - 1 + 1) by congr 1; omega] at this
      rw [show ((0 : Nat) : Int) = 0 from rfl] at this
      clear ends_ hP size0 size1
      rw [s_347_9]
      simp (disch := omega) only [Option.toList_some, Option.toList_none, List.nil_append, List.cons_append, List.append_nil, true_and, and_true, not_true_eq_false, not_false_eq_true, true_implies, false_implies, implies_true, and_self, Int.reduceLT, Int.reduceLE, Int.reduceEq, Int.reduceNe, Int.reduceAdd, Int.reduceSub, Int.reduceMul, Int.reduceNeg, Int.reduceToNat, Int.toNat_natCast, ↓kk_ck, ↓kk_im, ↓kk_in, s_347_38, s_347_44, s_347_49, s_347_51, s_347_52, R1, R60, p3, p4, s1, @vi_32 ((S : Int) - 1) (by omega) (by omega), et, hp, @mul_7 (S - 1) (by omega)]
      exact this
    · intro M' o hP
      clear ends_
      have hp := hP k (by omega)
      have h5 : 7 ^ k ≤ 7 ^ 5 := Nat.pow_le_pow_right (by omega) (by omega)
      have et : (((k + 1 : Nat) : Int) - 1).toNat = k := by omega
      have := ih (vi_rs M' 149 (vi_u (M' 149) (k + 1) ((7 ^ (k + 1) : Nat) : Int))) (fun p h1 h2 => by rw [vi_rs_o h2]; exact o p h1 h2) (fun y hy => by
        rw [vi_rs_s]
        by_cases e : y = k + 1
        · rw [e, vi_u_s]
        · rw [vi_u_o e]; exact hP y (by omega))
      clear ih hP size0 size1
      rw [s_347_9]
      simp (disch := omega) only [Option.toList_some, Option.toList_none, List.nil_append, List.cons_append, List.append_nil, true_and, and_true, not_true_eq_false, not_false_eq_true, true_implies, false_implies, implies_true, and_self, Int.reduceLT, Int.reduceLE, Int.reduceEq, Int.reduceNe, Int.reduceAdd, Int.reduceSub, Int.reduceMul, Int.reduceNeg, Int.reduceToNat, Int.toNat_natCast, ↓kk_ck, ↓kk_im, ↓kk_in, s_347_15, s_347_19, s_347_26, s_347_29, s_347_30, s_347_32, R1, R60, p3, p4, @vi_32 (((k + 1 : Nat) : Int) - 1) (by omega) (by omega), et, hp, @mul_7 k (by omega), Int.toNat_natCast, vi_ms_rs, vi_inc]
      exact this
  have := pows 0 (by omega) (vi_rs M 149 (vi_u (M 149) 0 1)) (fun p _ h => vi_rs_o h) (fun y hy => by
    obtain rfl : y = 0 := by omega
    rw [vi_rs_s, vi_u_s]; rfl)
  clear pows ends_ size0 size1
  rw [e_347, s_347_0]
  simp (disch := omega) only [Option.toList_some, Option.toList_none, List.nil_append, List.cons_append, List.append_nil, true_and, and_true, not_true_eq_false, not_false_eq_true, true_implies, false_implies, implies_true, and_self, Int.reduceLT, Int.reduceLE, Int.reduceEq, Int.reduceNe, Int.reduceAdd, Int.reduceSub, Int.reduceMul, Int.reduceNeg, Int.reduceToNat, Int.toNat_natCast, ↓kk_ck, ↓kk_im, ↓kk_in, s_347_4, s_347_7, R1, R60, p3, p4, vi_ms_rs]
  exact this
theorem rs0_r {f : Nat → Int} : ∀ y : Nat, (∀ j, j < y → 0 ≤ f (286 + j) ∧ f (286 + j) ≤ 6) → 0 ≤ rs0 f y ∧ rs0 f y < ((7 ^ y : Nat) : Int)
  | 0, _ => by rw [rs0]; simp
  | y + 1, h => by
    have ih := rs0_r y fun j hj => h j (by omega)
    have h1 := h y (by omega)
    rw [rs0, Nat.pow_succ]
    obtain ⟨c, hc⟩ : ∃ c : Nat, f (286 + y) = (c : Int) := ⟨(f (286 + y)).toNat, by omega⟩
    rw [hc]
    have h2 : c * 7 ^ y ≤ 6 * 7 ^ y := Nat.mul_le_mul_right _ (by omega)
    have h3 : (c : Int) * ((7 ^ y : Nat) : Int) = ((c * 7 ^ y : Nat) : Int) := by rw [Int.natCast_mul]
    rw [h3]
    omega
theorem k_348n (hY : kY Y 151) (hB : mBx M) {x : Int} (h : ¬ (-1 ≤ x ∧ x ≤ M 114 96 - 1)) (hD : 2 ≤ D) : vi_call GG D 348 [.inr (.inr 112), .inl x] (Y, M, nn) K ↔ K (some (.inl (-1))) (Y, M, nn) := by
  obtain ⟨D, rfl⟩ : ∃ k, D = k + 1 := ⟨D - 1, by omega⟩
  obtain ⟨R1, -⟩ := y_112 hY (by omega)
  have bX := hB.1
  have A := fun {D : Nat} {K : Option vi_V → vi_W → Prop} (hD : 1 ≤ D) => @k_2410_0 D K Y M nn hY hD
  refine vi_k (r := some (.inl _)) fun Q hQ => ?_
  simp (disch := omega) only [Option.toList_some, Option.toList_none, List.nil_append, List.cons_append, List.append_nil, true_and, and_true, not_true_eq_false, not_false_eq_true, true_implies, false_implies, implies_true, and_self, Int.reduceLT, Int.reduceLE, Int.reduceEq, Int.reduceNe, Int.reduceAdd, Int.reduceSub, Int.reduceMul, Int.reduceNeg, Int.reduceToNat, Int.toNat_natCast, ↓kk_ck, ↓kk_im, ↓kk_in, e_348, s_348_0, s_348_7, s_348_12, s_348_15, R1, A, @vi_32 (M 114 96 - 1) (by omega) (by omega), k_234f h, ne_eq]
  exact hQ
theorem k_348 (hY : kY Y 151) (hB : mBx M) {X S : Nat} (h96 : M 114 96 = (X : Int)) (h97 : M 114 97 = (S : Int)) (hc : ∀ j, j < 6 → 0 ≤ M 114 (286 + j) ∧ M 114 (286 + j) ≤ 6) {x : Int} (hx : -1 ≤ x ∧ x ≤ (X : Int) - 1) (hD : 5 ≤ D)
    (hQ : ∀ M', (∀ p, p ≠ 148 → p ≠ 149 → M' p = M p) → Q (some (.inl (ftR (M 114) X S x))) (Y, M', nn)) : vi_call GG D 348 [.inr (.inr 112), .inl x] (Y, M, nn) Q := by
  obtain ⟨D, rfl⟩ : ∃ k, D = k + 1 := ⟨D - 1, by omega⟩
  obtain ⟨R1, -, R3, -, -, -, -, -, -, -, -, -, -, -, -, -, -, -, -, -, -, -, -, -, -, -, -, -, -, -, -, -, -, -, -, -, R59, R60, -⟩ := y_112 hY (by omega)
  obtain ⟨w1, w2⟩ := y_114 hY (by omega)
  obtain ⟨p1, p2⟩ := y_148 hY (by omega)
  obtain ⟨p3, p4⟩ := y_149 hY (by omega)
  have bX := hB.1
  have bS := hB.2.1
  rw [h96] at bX
  rw [h97] at bS
  have h76 : 7 ^ S ≤ 7 ^ 6 := Nat.pow_le_pow_right (by omega) (by omega)
  have h64 : 2 ^ S ≤ 2 ^ 6 := Nat.pow_le_pow_right (by omega) (by omega)
  have A := fun {D : Nat} {K : Option vi_V → vi_W → Prop} (hD : 1 ≤ D) => @k_2410_0 D K Y M nn hY hD
  rw [h96] at A
  obtain ⟨f, hf⟩ : ∃ f, f = M 114 := ⟨_, rfl⟩
  rw [← hf] at hQ hc
  have hr0 := rs0_r (f := f) S fun j hj => hc j (by omega)
  obtain ⟨r0, hr⟩ : ∃ r0 : Nat, rs0 f S = (r0 : Int) := ⟨(rs0 f S).toNat, by omega⟩
  have hr7 : r0 < 7 ^ S := by omega
  have cont : vi_call GG D 347 [.inr (.inr 112)] (Y, M, nn) (fun r w' => vi_ok GG D 348 21 [some (.inr (.inr 112)), some (.inl x), none, none, none] r.toList w' Q) := by
    refine k_347 hY hB h96 h97 (by omega) fun M1 o1 hP hT => ?_
    have hq := hQ M1 o1
    rw [← hf] at hT
    clear hQ
    have e114 : M1 114 = f := (o1 114 (by omega) (by omega)).trans hf.symm
    have S1 := fun {D : Nat} {K : Option vi_V → vi_W → Prop} (hD : 1 ≤ D) => @k_2410_1 D K Y M1 nn hY hD
    have h97' : M1 114 97 = (S : Int) := by rw [o1 114 (by omega) (by omega)]; exact h97
    rw [h97'] at S1
    have h0 := hT 0 (Nat.zero_le _) (Nat.zero_le _) r0 hr7
    rw [Nat.zero_mul, Nat.zero_add, Nat.sub_zero] at h0
    unfold ftR at hq
    rw [hr, Int.toNat_natCast] at hq
    -- greedy
    have greedy : rW f X S X r0 ≠ 0 → ∀ x0 : Nat, x = (x0 : Int) → ∀ k : Nat, k ≤ x0 + 1 → vi_ok GG D 348 95 [some (.inr (.inr 112)), some (.inl x), some (.inl ((ftS f X S r0 k).1 : Int)), some (.inl ((ftS f X S r0 k).2 : Int)), some (.inl (k : Int))] [] (Y, M1, nn) Q := by
      intro hw x0 hx0
      rw [if_neg (by omega), if_neg hw, hx0, Int.toNat_natCast] at hq
      subst hx0
      refine vi_dn (x0 + 1) ?_ fun k hk ih => ?_
      · clear hT
        rw [s_348_95]
        simp (disch := omega) only [Option.toList_some, Option.toList_none, List.nil_append, List.cons_append, List.append_nil, true_and, and_true, not_true_eq_false, not_false_eq_true, true_implies, false_implies, implies_true, and_self, Int.reduceLT, Int.reduceLE, Int.reduceEq, Int.reduceNe, Int.reduceAdd, Int.reduceSub, Int.reduceMul, Int.reduceNeg, Int.reduceToNat, Int.toNat_natCast, ↓kk_ck, ↓kk_im, ↓kk_in, s_348_173]
        exact hq
      · clear hq
        obtain ⟨i1, i2, i3⟩ := ftS_i hw k (by omega)
        obtain ⟨s0, s1, s2⟩ := i3 (by omega)
        obtain ⟨n1, n2, n3⟩ := wNx_p (p := ftO f X S k (ftS f X S r0 k).1) (2 ^ S) 0 (Nat.zero_le _) (by omega) s2
        rw [ftS] at ih
        dsimp only at ih
        generalize wNx (ftO f X S k (ftS f X S r0 k).1) (2 ^ S) 0 = z at *
        obtain ⟨r, hr'⟩ : ∃ r, r = (ftS f X S r0 k).1 := ⟨_, rfl⟩
        rw [← hr'] at i1 i2 n1 n3 ih ⊢
        have hr7' : r < 7 ^ S := by omega
        have e280 : (280 + (k : Int)).toNat = 280 + k := by omega
        have cand : ∀ s, s < 2 ^ S → (ftO f X S k r s = true → vi_ok GG D 348 160 [some (.inr (.inr 112)), some (.inl (x0 : Int)), some (.inl (r : Int)), some (.inl (s : Int)), some (.inl (k : Int))] [] (Y, M1, nn) Q) → (ftO f X S k r s = false → vi_ok GG D 348 103 [some (.inr (.inr 112)), some (.inl (x0 : Int)), some (.inl (r : Int)), some (.inl ((s + 1 : Nat) : Int)), some (.inl (k : Int))] [] (Y, M1, nn) Q) → vi_ok GG D 348 103 [some (.inr (.inr 112)), some (.inl (x0 : Int)), some (.inl (r : Int)), some (.inl (s : Int)), some (.inl (k : Int))] [] (Y, M1, nn) Q := by
          intro s hs hy hn
          have k237 := fun {D : Nat} {K : Option vi_V → vi_W → Prop} (hD : 1 ≤ D) => @k_237 D K s (by omega) (Y, M1, nn) hD
          have k346 := fun {D : Nat} {K : Option vi_V → vi_W → Prop} (hD : 2 ≤ D) => @k_346 D K Y M1 nn hY hP S h97' (by omega) r s (by omega) (by omega) hD
          have hrl := rsF_le (rest := r) (set := s) (y := S)
          unfold ftO rsO at hy hn
          rw [s_348_103]
          by_cases q1 : (mOs s 8 : Int) = f (280 + k)
          · rw [decide_eq_true q1, Bool.true_and] at hy hn
            rw [q1] at k237
            by_cases q2 : rsF r s S = -1
            · have := hn (by rw [decide_eq_false (fun k => k q2)]; rfl)
              clear hy hn hT
              simp (disch := omega) only [Option.toList_some, Option.toList_none, List.nil_append, List.cons_append, List.append_nil, true_and, and_true, not_true_eq_false, not_false_eq_true, true_implies, false_implies, implies_true, and_self, Int.reduceLT, Int.reduceLE, Int.reduceEq, Int.reduceNe, Int.reduceAdd, Int.reduceSub, Int.reduceMul, Int.reduceNeg, Int.reduceToNat, Int.toNat_natCast, ↓kk_ck, ↓kk_im, ↓kk_in, s_348_107, s_348_111, s_348_117, s_348_118, s_348_121, s_348_127, s_348_154, R1, R3, w1, w2, k237, @vi_32 (280 + (k : Int)) (by omega) (by omega), e280, e114, k346, q2, vi_inc, ne_eq]
              exact this
            · rw [decide_eq_true q2, Bool.true_and] at hy hn
              obtain ⟨t, ht⟩ : ∃ t : Nat, rsF r s S = (t : Int) := ⟨(rsF r s S).toNat, by omega⟩
              rw [ht, Int.toNat_natCast] at hy hn
              rw [ht] at k346 q2
              have htb := hT (k + 1) (Nat.zero_le _) (by omega) t (by omega)
              have hb : (k + 1) * 117649 + t < 823543 := by omega
              by_cases q3 : rW f X S (X - (k + 1)) t = 0
              · have := hn (decide_eq_false (by simp [q3]))
                rw [q3] at htb
                have htb' : M1 148 ((k + 1) * 117649 + t) = 0 := htb
                clear hy hn hT
                simp (disch := omega) only [Option.toList_some, Option.toList_none, List.nil_append, List.cons_append, List.append_nil, true_and, and_true, not_true_eq_false, not_false_eq_true, true_implies, false_implies, implies_true, and_self, Int.reduceLT, Int.reduceLE, Int.reduceEq, Int.reduceNe, Int.reduceAdd, Int.reduceSub, Int.reduceMul, Int.reduceNeg, Int.reduceToNat, Int.toNat_natCast, ↓kk_ck, ↓kk_im, ↓kk_in, s_348_107, s_348_111, s_348_117, s_348_118, s_348_121, s_348_127, s_348_131, s_348_135, s_348_149, s_348_150, s_348_151, s_348_154, R1, R3, R59, w1, w2, p1, p2, k237, @vi_32 (280 + (k : Int)) (by omega) (by omega), e280, e114, k346, q2, @ix_7 (k + 1) t (by omega) (by omega), Int.toNat_natCast, htb', vi_inc, ne_eq]
                exact this
              · have := hy (decide_eq_true q3)
                have htb' : ¬ (rW f X S (X - (k + 1)) t : Int) = 0 := by omega
                clear hy hn hT
                simp (disch := omega) only [Option.toList_some, Option.toList_none, List.nil_append, List.cons_append, List.append_nil, true_and, and_true, not_true_eq_false, not_false_eq_true, true_implies, false_implies, implies_true, and_self, Int.reduceLT, Int.reduceLE, Int.reduceEq, Int.reduceNe, Int.reduceAdd, Int.reduceSub, Int.reduceMul, Int.reduceNeg, Int.reduceToNat, Int.toNat_natCast, ↓kk_ck, ↓kk_im, ↓kk_in, s_348_107, s_348_111, s_348_117, s_348_118, s_348_121, s_348_127, s_348_131, s_348_135, s_348_149, s_348_150, s_348_151, R1, R3, R59, w1, w2, p1, p2, k237, @vi_32 (280 + (k : Int)) (by omega) (by omega), e280, e114, k346, q2, @ix_7 (k + 1) t (by omega) (by omega), Int.toNat_natCast, htb, htb', vi_inc, ne_eq]
                exact this
          · have := hn (by rw [decide_eq_false q1]; rfl)
            clear hy hn hT
            simp (disch := omega) only [Option.toList_some, Option.toList_none, List.nil_append, List.cons_append, List.append_nil, true_and, and_true, not_true_eq_false, not_false_eq_true, true_implies, false_implies, implies_true, and_self, Int.reduceLT, Int.reduceLE, Int.reduceEq, Int.reduceNe, Int.reduceAdd, Int.reduceSub, Int.reduceMul, Int.reduceNeg, Int.reduceToNat, Int.toNat_natCast, ↓kk_ck, ↓kk_im, ↓kk_in, s_348_107, s_348_111, s_348_117, s_348_118, s_348_154, R1, R3, w1, w2, k237, @vi_32 (280 + (k : Int)) (by omega) (by omega), e280, e114, q1, vi_inc, ne_eq]
            exact this
        have inner : ∀ s : Nat, s ≤ z → vi_ok GG D 348 103 [some (.inr (.inr 112)), some (.inl (x0 : Int)), some (.inl (r : Int)), some (.inl (s : Int)), some (.inl (k : Int))] [] (Y, M1, nn) Q := by
          refine vi_dn z ?_ fun s hs ihs => ?_
          · refine cand z (by omega) (fun _ => ?_) (fun h => by rw [n1] at h; cases h)
            have k346 := fun {D : Nat} {K : Option vi_V → vi_W → Prop} (hD : 2 ≤ D) => @k_346 D K Y M1 nn hY hP S h97' (by omega) r z (by omega) (by omega) hD
            unfold ftO rsO at n1
            simp only [Bool.and_eq_true, decide_eq_true_eq] at n1
            have hrl := rsF_le (rest := r) (set := z) (y := S)
            have hne := n1.1.2
            obtain ⟨t, ht⟩ : ∃ t : Nat, rsF r z S = (t : Int) := ⟨(rsF r z S).toNat, by omega⟩
            rw [ht] at k346
            rw [ht, Int.toNat_natCast] at ih
            clear cand hT
            simp (disch := omega) only [Option.toList_some, Option.toList_none, List.nil_append, List.cons_append, List.append_nil, true_and, and_true, not_true_eq_false, not_false_eq_true, true_implies, false_implies, implies_true, and_self, Int.reduceLT, Int.reduceLE, Int.reduceEq, Int.reduceNe, Int.reduceAdd, Int.reduceSub, Int.reduceMul, Int.reduceNeg, Int.reduceToNat, Int.toNat_natCast, ↓kk_ck, ↓kk_im, ↓kk_in, s_348_160, s_348_166, R1, k346, vi_inc]
            exact ih
          · exact cand s (by omega) (fun h => by rw [n3 s (Nat.zero_le _) hs] at h; cases h) (fun _ => ihs)
        have := inner 0 (by omega)
        rw [show ((0 : Nat) : Int) = 0 from rfl] at this
        clear inner cand ih hT
        rw [s_348_95]
        simp (disch := omega) only [Option.toList_some, Option.toList_none, List.nil_append, List.cons_append, List.append_nil, true_and, and_true, not_true_eq_false, not_false_eq_true, true_implies, false_implies, implies_true, and_self, Int.reduceLT, Int.reduceLE, Int.reduceEq, Int.reduceNe, Int.reduceAdd, Int.reduceSub, Int.reduceMul, Int.reduceNeg, Int.reduceToNat, Int.toNat_natCast, ↓kk_ck, ↓kk_im, ↓kk_in, s_348_101]
        exact this
    -- the rest by y
    have sums : ∀ y : Nat, y ≤ S → vi_ok GG D 348 25 [some (.inr (.inr 112)), some (.inl x), some (.inl (rs0 f y)), some (.inl (y : Int)), none] [] (Y, M1, nn) Q := by
      refine vi_dn S ?_ fun y hy ih => ?_
      · rw [s_348_25, hr]
        by_cases x1 : x = -1
        · rw [if_pos x1] at hq
          clear greedy hT
          simp (disch := omega) only [Option.toList_some, Option.toList_none, List.nil_append, List.cons_append, List.append_nil, true_and, and_true, not_true_eq_false, not_false_eq_true, true_implies, false_implies, implies_true, and_self, Int.reduceLT, Int.reduceLE, Int.reduceEq, Int.reduceNe, Int.reduceAdd, Int.reduceSub, Int.reduceMul, Int.reduceNeg, Int.reduceToNat, Int.toNat_natCast, ↓kk_ck, ↓kk_im, ↓kk_in, s_348_31, s_348_60, s_348_74, s_348_79, s_348_83, s_348_85, s_348_89, R1, R59, p1, p2, S1, x1, Int.toNat_natCast, h0, ne_eq]
          exact hq
        · rw [if_neg x1] at hq
          by_cases q : rW f X S X r0 = 0
          · rw [if_pos q] at hq
            rw [q] at h0
            have h0' : M1 148 r0 = 0 := h0
            clear greedy hT
            simp (disch := omega) only [Option.toList_some, Option.toList_none, List.nil_append, List.cons_append, List.append_nil, true_and, and_true, not_true_eq_false, not_false_eq_true, true_implies, false_implies, implies_true, and_self, Int.reduceLT, Int.reduceLE, Int.reduceEq, Int.reduceNe, Int.reduceAdd, Int.reduceSub, Int.reduceMul, Int.reduceNeg, Int.reduceToNat, Int.toNat_natCast, ↓kk_ck, ↓kk_im, ↓kk_in, s_348_31, s_348_60, s_348_65, s_348_69, s_348_71, s_348_74, s_348_88, s_348_89, R1, R59, p1, p2, S1, x1, Int.toNat_natCast, h0', ne_eq]
            exact hq
          · obtain ⟨x0, hx0⟩ : ∃ x0 : Nat, x = (x0 : Int) := ⟨x.toNat, by omega⟩
            have := greedy q x0 hx0 0 (by omega)
            have h0' : ¬ (rW f X S X r0 : Int) = 0 := by omega
            rw [ftS, show ((0 : Nat) : Int) = 0 from rfl] at this
            clear greedy hT hq
            simp (disch := omega) only [Option.toList_some, Option.toList_none, List.nil_append, List.cons_append, List.append_nil, true_and, and_true, not_true_eq_false, not_false_eq_true, true_implies, false_implies, implies_true, and_self, Int.reduceLT, Int.reduceLE, Int.reduceEq, Int.reduceNe, Int.reduceAdd, Int.reduceSub, Int.reduceMul, Int.reduceNeg, Int.reduceToNat, Int.toNat_natCast, ↓kk_ck, ↓kk_im, ↓kk_in, s_348_31, s_348_60, s_348_65, s_348_69, s_348_71, s_348_90, R1, R59, p1, p2, S1, x1, Int.toNat_natCast, h0, h0', ne_eq]
            exact this
      · clear greedy hT hq
        have hb := rs0_r (f := f) y fun j hj => hc j (by omega)
        have hcy := hc y (by omega)
        have hpy := hP y (by omega)
        have h5 : 7 ^ y ≤ 7 ^ 5 := Nat.pow_le_pow_right (by omega) (by omega)
        have e286 : (286 + (y : Int)).toNat = 286 + y := by omega
        obtain ⟨c, hc2⟩ : ∃ c : Nat, f (286 + y) = (c : Int) := ⟨(f (286 + y)).toNat, by omega⟩
        rw [rs0, hc2] at ih
        have h2 : c * 7 ^ y ≤ 6 * 7 ^ y := Nat.mul_le_mul_right _ (by omega)
        have h3 : (c : Int) * ((7 ^ y : Nat) : Int) = ((c * 7 ^ y : Nat) : Int) := by rw [Int.natCast_mul]
        rw [h3] at ih
        rw [s_348_25]
        simp (disch := omega) only [Option.toList_some, Option.toList_none, List.nil_append, List.cons_append, List.append_nil, true_and, and_true, not_true_eq_false, not_false_eq_true, true_implies, false_implies, implies_true, and_self, Int.reduceLT, Int.reduceLE, Int.reduceEq, Int.reduceNe, Int.reduceAdd, Int.reduceSub, Int.reduceMul, Int.reduceNeg, Int.reduceToNat, Int.toNat_natCast, ↓kk_ck, ↓kk_im, ↓kk_in, s_348_31, s_348_34, s_348_39, s_348_44, s_348_45, s_348_49, s_348_51, R1, R3, R60, w1, w2, p3, p4, S1, @vi_32 (286 + (y : Int)) (by omega) (by omega), e286, e114, hc2, Int.toNat_natCast, hpy, @mul_c c (7 ^ y) (by omega), @vi_32 (rs0 f y + ((c * 7 ^ y : Nat) : Int)) (by omega) (by omega), vi_inc]
        exact ih
    have := sums 0 (by omega)
    rw [rs0, show ((0 : Nat) : Int) = 0 from rfl] at this
    clear sums greedy hT hq
    simp (disch := omega) only [Option.toList_some, Option.toList_none, List.nil_append, List.cons_append, List.append_nil, true_and, and_true, not_true_eq_false, not_false_eq_true, true_implies, false_implies, implies_true, and_self, Int.reduceLT, Int.reduceLE, Int.reduceEq, Int.reduceNe, Int.reduceAdd, Int.reduceSub, Int.reduceMul, Int.reduceNeg, Int.reduceToNat, Int.toNat_natCast, ↓kk_ck, ↓kk_im, ↓kk_in, s_348_21]
    exact this
  clear hQ
  simp (disch := omega) only [Option.toList_some, Option.toList_none, List.nil_append, List.cons_append, List.append_nil, true_and, and_true, not_true_eq_false, not_false_eq_true, true_implies, false_implies, implies_true, and_self, Int.reduceLT, Int.reduceLE, Int.reduceEq, Int.reduceNe, Int.reduceAdd, Int.reduceSub, Int.reduceMul, Int.reduceNeg, Int.reduceToNat, Int.toNat_natCast, ↓kk_ck, ↓kk_im, ↓kk_in, e_348, s_348_0, s_348_7, s_348_12, s_348_17, R1, A, @vi_32 ((X : Int) - 1) (by omega) (by omega), k_234t hx, ne_eq]
  exact cont
end
