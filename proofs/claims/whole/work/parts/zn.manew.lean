/-! sets, oneMore (reference). -/
theorem ix_m {u a : Nat} (hu : u < 64) (ha : 64 ≤ a ∧ a < 128) : vi_w32 (vi_w32 (vi_w32 (64 * (u : Int)) + (a : Int)) - 64) = ((64 * u + (a - 64) : Nat) : Int) := by
  rw [@vi_32 (64 * (u : Int)) (by omega) (by omega), @vi_32 (64 * (u : Int) + (a : Int)) (by omega) (by omega), vi_32 (by omega) (by omega)]; omega
theorem ix_p {u q : Nat} (hu : u < 64) (hq : q < 64) : vi_w32 (vi_w32 (vi_w32 (64 * (u : Int)) + ((64 + q : Nat) : Int)) - 64) = ((64 * u + q : Nat) : Int) := by
  have := @ix_m u (64 + q) hu (by omega)
  rw [show 64 + q - 64 = q by omega] at this
  exact this
section
variable {D : Nat} {K : Option vi_V → vi_W → Prop} {Y : vi_Y} {M : vi_M} {nn : Nat × Nat} {Q : Option vi_V → vi_W → Prop}
theorem k_334 (hY : kY Y 151) {S0 D0 : Nat → Int} (hS : ∀ r, r < 64 → S0 r ≤ 1000) (hDd : ∀ p, p < 64 → D0 p ≤ 1000) (hF : FX S0 D0 128 (M 140) (M 141) (M 142)) {rk : Nat → Nat} (hT : TI (M 140) (M 142) (M 143) rk) {p : Nat} (hp : p < 64) (hd : 0 < M 141 p) (hC : M 143 (64 + p) ≠ -1) (hD : 1 ≤ D)
    (hQ : ∀ M' : vi_M, (∀ q, q ≠ 140 → q ≠ 141 → q ≠ 142 → M' q = M q) → FX S0 D0 128 (M' 140) (M' 141) (M' 142) → sU 64 (M' 140) = sU 64 (M 140) - 1 → Q none (Y, M', nn)) : vi_call GG D 334 [.inr (.inr 112), .inl ((64 + p : Nat) : Int)] (Y, M, nn) Q := by
  obtain ⟨D, rfl⟩ : ∃ k, D = k + 1 := ⟨D - 1, by omega⟩
  obtain ⟨R1, -, -, -, -, -, -, -, -, -, -, -, -, -, -, -, -, -, -, -, -, -, -, -, -, -, -, -, R51, R52, R53, R54, R55, -⟩ := y_112 hY (by omega)
  obtain ⟨p1, p2⟩ := y_140 hY (by omega)
  obtain ⟨p3, p4⟩ := y_141 hY (by omega)
  obtain ⟨p5, p6⟩ := y_142 hY (by omega)
  obtain ⟨p7, p8⟩ := y_143 hY (by omega)
  have loop : ∀ (k a : Nat), rk a ≤ k → a < 128 → M 143 a ≠ -1 → ∀ (M2 : vi_M) (l3 : Option vi_V), (∀ q, q ≠ 141 → q ≠ 142 → M2 q = M q) → FX S0 D0 a (M2 140) (M2 141) (M2 142) → (∀ v q, v < 64 → q < 64 → M 143 v = ((64 + q : Nat) : Int) → rk v ≤ rk a → 0 < M2 142 (64 * v + q)) → vi_ok GG D 334 15 [some (.inr (.inr 112)), some (.inl ((64 + p : Nat) : Int)), some (.inl (a : Int)), l3] [] (Y, M2, nn) Q := by
    intro k
    induction k with
    | zero =>
      intro a hk ha hCa M2 l3 o hFa hpos
      rcases hT a ha hCa with ⟨t1, t2, t3⟩ | ⟨u, u1, u2, u3, u4, u5⟩
      · have b := (FX_b hFa hS hDd).1 a t2
        have h140 : M2 140 = M 140 := o 140 (by omega) (by omega)
        have h143 : M2 143 a = (a : Int) := by rw [o 143 (by omega) (by omega)]; exact t1
        have hE := FX_e hFa t2 (by rw [h140]; exact t3)
        have := hQ (vi_rs M2 140 (vi_u (M2 140) a (M2 140 a - 1))) (fun q q1 q2 q3 => by rw [vi_rs_o q1]; exact o q q2 q3) (by rw [vi_rs_s, vi_rs_o (by omega), vi_rs_o (by omega)]; exact hE) (by rw [vi_rs_s, sU_u, if_pos t2, h140]; omega)
        have h0 := hFa.1 a t2
        clear hQ hT hFa hpos hE hF
        rw [s_334_15]
        simp (disch := omega) only [Option.toList_some, Option.toList_none, List.nil_append, List.cons_append, List.append_nil, true_and, and_true, not_true_eq_false, not_false_eq_true, true_implies, false_implies, implies_true, and_self, Int.reduceLT, Int.reduceLE, Int.reduceEq, Int.reduceNe, Int.reduceAdd, Int.reduceSub, Int.reduceMul, Int.reduceNeg, Int.reduceToNat, Int.toNat_natCast, ↓kk_ck, ↓kk_im, ↓kk_in, s_334_19, s_334_21, s_334_82, s_334_86, s_334_89, s_334_92, R1, R51, R54, p1, p2, p7, p8, Int.toNat_natCast, h143, @vi_32 (M2 140 a - 1) (by omega) (by omega), vi_ms_rs]
        exact this
      · omega
    | succ k ih =>
      intro a hk ha hCa M2 l3 o hFa hpos
      have b := FX_b hFa hS hDd
      rcases hT a ha hCa with ⟨t1, t2, t3⟩ | ⟨u, u1, u2, u3, u4, u5⟩
      · have b := b.1 a t2
        have h140 : M2 140 = M 140 := o 140 (by omega) (by omega)
        have h143 : M2 143 a = (a : Int) := by rw [o 143 (by omega) (by omega)]; exact t1
        have hE := FX_e hFa t2 (by rw [h140]; exact t3)
        have := hQ (vi_rs M2 140 (vi_u (M2 140) a (M2 140 a - 1))) (fun q q1 q2 q3 => by rw [vi_rs_o q1]; exact o q q2 q3) (by rw [vi_rs_s, vi_rs_o (by omega), vi_rs_o (by omega)]; exact hE) (by rw [vi_rs_s, sU_u, if_pos t2, h140]; omega)
        have h0 := hFa.1 a t2
        clear hQ hT hFa hpos hE hF ih
        rw [s_334_15]
        simp (disch := omega) only [Option.toList_some, Option.toList_none, List.nil_append, List.cons_append, List.append_nil, true_and, and_true, not_true_eq_false, not_false_eq_true, true_implies, false_implies, implies_true, and_self, Int.reduceLT, Int.reduceLE, Int.reduceEq, Int.reduceNe, Int.reduceAdd, Int.reduceSub, Int.reduceMul, Int.reduceNeg, Int.reduceToNat, Int.toNat_natCast, ↓kk_ck, ↓kk_im, ↓kk_in, s_334_19, s_334_21, s_334_82, s_334_86, s_334_89, s_334_92, R1, R51, R54, p1, p2, p7, p8, Int.toNat_natCast, h143, @vi_32 (M2 140 a - 1) (by omega) (by omega), vi_ms_rs]
        exact this
      · have h143 : M2 143 a = (u : Int) := by rw [o 143 (by omega) (by omega)]; exact u2
        have hua : ¬ (u : Int) = (a : Int) := fun e => by
          have : u = a := by omega
          rw [this] at u4; omega
        rcases u5 with ⟨v1, q, v2, v3, v4⟩ | ⟨v1, v2, v3, v4⟩
        · subst v3
          have h3 := (hFa.2.2.1 u q v1 v2).1
          have hb := b.2.2 u q v1 v2
          have hN := FX_p hFa v2 v1 v4
          have := ih u (by omega) u1 u3 (vi_rs M2 142 (vi_u (M2 142) (64 * u + q) (M2 142 (64 * u + q) + 1))) (some (.inl (u : Int))) (fun z z1 z2 => by rw [vi_rs_o z2]; exact o z z1 z2) (by rw [vi_rs_s, vi_rs_o (by omega), vi_rs_o (by omega)]; exact hN) (fun v z hv hz hc hr => by
            have := hpos v z hv hz hc (by omega)
            rw [vi_rs_s]
            by_cases e : 64 * v + z = 64 * u + q
            · rw [e, vi_u_s]; omega
            · rw [vi_u_o e]; exact this)
          clear hQ hT hFa hpos hN hF ih
          rw [s_334_15]
          simp (disch := omega) only [Option.toList_some, Option.toList_none, List.nil_append, List.cons_append, List.append_nil, true_and, and_true, not_true_eq_false, not_false_eq_true, true_implies, false_implies, implies_true, and_self, Int.reduceLT, Int.reduceLE, Int.reduceEq, Int.reduceNe, Int.reduceAdd, Int.reduceSub, Int.reduceMul, Int.reduceNeg, Int.reduceToNat, Int.toNat_natCast, ↓kk_ck, ↓kk_im, ↓kk_in, s_334_19, s_334_21, s_334_25, s_334_29, s_334_31, s_334_38, s_334_42, s_334_52, s_334_53, s_334_56, s_334_77, R1, R53, R54, p5, p6, p7, p8, Int.toNat_natCast, h143, hua, @ix_p u q v1 v2, @vi_32 (M2 142 (64 * u + q) + 1) (by omega) (by omega), vi_ms_rs]
          exact this
        · have hpa := hpos a (u - 64) v3 (by omega) (by rw [u2]; omega) (Nat.le_refl _)
          have hb := b.2.2 a (u - 64) v3 (by omega)
          have hN := FX_r (p := u - 64) hFa (by omega) v3 hpa
          rw [show 64 + (u - 64) = u by omega] at hN
          have := ih u (by omega) u1 u3 (vi_rs M2 142 (vi_u (M2 142) (64 * a + (u - 64)) (M2 142 (64 * a + (u - 64)) - 1))) (some (.inl (u : Int))) (fun z z1 z2 => by rw [vi_rs_o z2]; exact o z z1 z2) (by rw [vi_rs_s, vi_rs_o (by omega), vi_rs_o (by omega)]; exact hN) (fun v z hv hz hc hr => by
            have := hpos v z hv hz hc (by omega)
            have hva : v ≠ a := fun e => by rw [e] at hr; omega
            rw [vi_rs_s, vi_u_o (by omega)]; exact this)
          clear hQ hT hFa hpos hN hF ih
          rw [s_334_15]
          simp (disch := omega) only [Option.toList_some, Option.toList_none, List.nil_append, List.cons_append, List.append_nil, true_and, and_true, not_true_eq_false, not_false_eq_true, true_implies, false_implies, implies_true, and_self, Int.reduceLT, Int.reduceLE, Int.reduceEq, Int.reduceNe, Int.reduceAdd, Int.reduceSub, Int.reduceMul, Int.reduceNeg, Int.reduceToNat, Int.toNat_natCast, ↓kk_ck, ↓kk_im, ↓kk_in, s_334_19, s_334_21, s_334_25, s_334_29, s_334_31, s_334_59, s_334_63, s_334_73, s_334_74, s_334_77, R1, R53, R54, p5, p6, p7, p8, Int.toNat_natCast, h143, hua, @ix_m a u v3 (by omega), @vi_32 (M2 142 (64 * a + (u - 64)) - 1) (by omega) (by omega), vi_ms_rs]
          exact this
  have hF0 := FX_0 hF hp hd
  have b := (FX_b hF hS hDd).2.1 p hp
  have e64 : (((64 + p : Nat) : Int) - 64).toNat = p := by omega
  have := loop (rk (64 + p)) (64 + p) (Nat.le_refl _) (by omega) hC (vi_rs M 141 (vi_u (M 141) p (M 141 p - 1))) none (fun q q1 _ => vi_rs_o q1) (by rw [vi_rs_s, vi_rs_o (by omega), vi_rs_o (by omega)]; exact hF0) (fun v q hv hq hc _ => by
    rw [vi_rs_o (by omega)]
    rcases hT v (by omega) (by rw [hc]; omega) with ⟨t1, -⟩ | ⟨u, u1, u2, u3, u4, u5⟩
    · rw [hc] at t1; omega
    · rw [hc] at u2
      obtain rfl : u = 64 + q := by omega
      rcases u5 with ⟨w1, -⟩ | ⟨w1, w2, w3, w4⟩
      · omega
      · rw [show 64 + q - 64 = q by omega] at w4; exact w4)
  clear loop hQ hT hF0 hF
  simp (disch := omega) only [Option.toList_some, Option.toList_none, List.nil_append, List.cons_append, List.append_nil, true_and, and_true, not_true_eq_false, not_false_eq_true, true_implies, false_implies, implies_true, and_self, Int.reduceLT, Int.reduceLE, Int.reduceEq, Int.reduceNe, Int.reduceAdd, Int.reduceSub, Int.reduceMul, Int.reduceNeg, Int.reduceToNat, Int.toNat_natCast, ↓kk_ck, ↓kk_im, ↓kk_in, e_334, s_334_0, s_334_4, s_334_9, s_334_10, s_334_13, R1, R52, p3, p4, @vi_32 (((64 + p : Nat) : Int) - 64) (by omega) (by omega), e64, @vi_32 (M 141 p - 1) (by omega) (by omega), vi_ms_rs]
  exact this
end
