/-! Contracts of Picks, fourth part: HOLES by COUNTS, what lies behind. -/
/-- whether set can be the one of x -/
def fP (M : vi_M) (x : Nat) (set : Nat) : Bool := fSet (M 30 8) (M 30 9) (M 38) (x : Int) set
/-- of the first k sets c, how many make a row of a, b, c with sum s -/
def fC (p q r : Nat → Bool) (a b s k : Nat) : Nat := sN k (fun c => p a && q b && r c && decide (fSp a + fSp b + fSp c = s))
def fB (p q r : Nat → Bool) (a s : Nat) : Nat → Nat
  | 0 => 0
  | k + 1 => fB p q r a s k + fC p q r a k s 64
def fA (p q r : Nat → Bool) (s : Nat) : Nat → Nat
  | 0 => 0
  | k + 1 => fA p q r s k + fB p q r k s 64
theorem sN_ff (k : Nat) : sN k (fun _ => false) = 0 := by
  induction k with
  | zero => rfl
  | succ k ih => rw [sN_s, ih]; rfl
section
variable {p q r : Nat → Bool} {a b s : Nat}
theorem fC_p (h : p a = false) (k : Nat) : fC p q r a b s k = 0 := by
  unfold fC
  simp only [h, Bool.false_and]
  exact sN_ff k
theorem fC_q (h : q b = false) (k : Nat) : fC p q r a b s k = 0 := by
  unfold fC
  simp only [h, Bool.false_and, Bool.and_false]
  exact sN_ff k
theorem fB_p (h : p a = false) (k : Nat) : fB p q r a s k = 0 := by
  induction k with
  | zero => rfl
  | succ k ih => rw [fB, ih, fC_p h]
theorem fC_le (k : Nat) : fC p q r a b s k ≤ k := sN_le _ _
theorem fB_le (k : Nat) : fB p q r a s k ≤ 64 * k := by
  induction k with
  | zero => exact Nat.le_refl _
  | succ k ih =>
    have := fC_le (p := p) (q := q) (r := r) (a := a) (b := k) (s := s) 64
    rw [fB]
    omega
theorem fA_le (k : Nat) : fA p q r s k ≤ 4096 * k := by
  induction k with
  | zero => exact Nat.le_refl _
  | succ k ih =>
    have := fB_le (p := p) (q := q) (r := r) (a := k) (s := s) 64
    rw [fA]
    omega
theorem fC_n {k : Nat} (h : (p a && q b && r k) = false) : fC p q r a b s (k + 1) = fC p q r a b s k := by
  unfold fC
  rw [sN_s, h]
  rfl
theorem fC_y {k : Nat} (h : (p a && q b && r k) = true) : fC p q r a b s (k + 1) = fC p q r a b s k + (decide (fSp a + fSp b + fSp k = s)).toNat := by
  unfold fC
  rw [sN_s, h, Bool.true_and]
end
theorem vi_m_u {z t : Nat} {f f' g : Nat → Int} {v : Int} (ht : t < z) (h1 : f' t = v) (h2 : ∀ j, j ≠ t → f' j = f j) : vi_u (vi_m z f g) t v = vi_m z f' g := by
  funext j
  unfold vi_u vi_m
  by_cases c : j = t
  · rw [if_pos c, if_pos (by omega), c, h1]
  · rw [if_neg c, h2 j c]
section
variable {d : Nat} {K : Option vi_V → vi_W → Prop} {Y : vi_Y} {M : vi_M} {n : Nat × Nat}
theorem k_108 (hY : kY Y 151) {x : Nat} (hx : x < 6) : vi_call GG (d + 1) 108 [.inr (.inr 107), .inl (x : Int)] (Y, M, n) K ↔ K (some (.inl (M 109 x))) (Y, M, n) := by
  obtain ⟨a1, a2, a3, a4, a5⟩ := y_107 hY (by omega)
  obtain ⟨g1, g2⟩ := y_109 hY (by omega)
  refine vi_k (r := some (.inl _)) fun Q hQ => ?_
  simp (disch := omega) only [Option.toList_some, Option.toList_none, List.nil_append, List.cons_append, List.append_nil, true_and, and_true, not_true_eq_false, not_false_eq_true, true_implies, false_implies, implies_true, and_self, Int.reduceLT, Int.reduceLE, Int.reduceEq, Int.reduceNe, Int.reduceAdd, Int.reduceSub, Int.reduceMul, Int.reduceNeg, Int.reduceToNat, Int.toNat_natCast, ↓kk_ck, ↓kk_im, ↓kk_in, e_108, s_108_0, s_108_4, s_108_13, s_108_22, s_108_23, s_108_9, s_108_17, s_108_10, s_108_19, a1, a4, g1, g2]
  exact hQ
theorem k_114 (hY : kY Y 151) {x : Nat} (hx : x < 4) {a b c : Int} : vi_call GG (d + 1) 114 [.inr (.inr 107), .inl (x : Int), .inl a, .inl b, .inl c] (Y, M, n) K ↔ K none (Y, vi_rs M 109 (vi_u (vi_u (vi_u (M 109) x a) (x + 1) b) (x + 2) c), n) := by
  obtain ⟨a1, a2, a3, a4, a5⟩ := y_107 hY (by omega)
  obtain ⟨g1, g2⟩ := y_109 hY (by omega)
  have z1 : ((x : Int) + 1).toNat = x + 1 := by omega
  have z2 : ((x : Int) + 2).toNat = x + 2 := by omega
  refine vi_k (r := none) fun Q hQ => ?_
  simp (disch := omega) only [Option.toList_some, Option.toList_none, List.nil_append, List.cons_append, List.append_nil, true_and, and_true, not_true_eq_false, not_false_eq_true, true_implies, false_implies, implies_true, and_self, Int.reduceLT, Int.reduceLE, Int.reduceEq, Int.reduceNe, Int.reduceAdd, Int.reduceSub, Int.reduceMul, Int.reduceNeg, Int.reduceToNat, Int.toNat_natCast, ↓kk_ck, ↓kk_im, ↓kk_in, e_114, s_114_0, s_114_4, s_114_15, s_114_41, s_114_11, s_114_19, s_114_12, s_114_22, s_114_26, s_114_30, s_114_31, s_114_35, s_114_40, a1, a4, g1, g2, vi_32, z1, z2, vi_ms_rs, vi_rs_s, vi_rs_rs]
  exact hQ
theorem k_112 (hY : kY Y 151) (hb : gB (M 30 8) (M 30 9) (M 30 10)) : vi_call GG (d + 3) 112 [.inr (.inr 107)] (Y, M, n) K ↔ K none (Y, vi_rs M 108 (vi_m 4096 (fun s => (fA (fP M 3) (fP M 4) (fP M 5) s 64 : Int)) (M 108)), n) := by
  obtain ⟨a1, a2, a3, a4, a5⟩ := y_107 hY (by omega)
  obtain ⟨g1, g2⟩ := y_108 hY (by omega)
  have k115 : ∀ (f : Nat → Int) (x : Nat) (hx : x < 6) (a : Nat) (ha : a < 64) (K : Option vi_V → vi_W → Prop), vi_call GG (d + 2) 115 [.inr (.inr 107), .inl (x : Int), .inl (a : Int)] (Y, vi_rs M 108 f, n) K ↔ K (some (.inl (vi_b (fP M x a)))) (Y, vi_rs M 108 f, n) := fun f x hx a ha K => by
    have h30 : vi_rs M 108 f 30 = M 30 := vi_rs_o (by omega)
    have h38 : vi_rs M 108 f 38 = M 38 := vi_rs_o (by omega)
    have := @k_115 d K Y (vi_rs M 108 f) n hY (by rw [h30]; exact hb) x hx a ha
    rw [h30, h38] at this
    exact this
  have k3 : ∀ (f : Nat → Int) (a : Nat) (ha : a < 64) (K : Option vi_V → vi_W → Prop), vi_call GG (d + 2) 115 [.inr (.inr 107), .inl (3 : Int), .inl (a : Int)] (Y, vi_rs M 108 f, n) K ↔ K (some (.inl (vi_b (fP M 3 a)))) (Y, vi_rs M 108 f, n) := fun f a ha K => k115 f 3 (by omega) a ha K
  have k4 : ∀ (f : Nat → Int) (a : Nat) (ha : a < 64) (K : Option vi_V → vi_W → Prop), vi_call GG (d + 2) 115 [.inr (.inr 107), .inl (4 : Int), .inl (a : Int)] (Y, vi_rs M 108 f, n) K ↔ K (some (.inl (vi_b (fP M 4 a)))) (Y, vi_rs M 108 f, n) := fun f a ha K => k115 f 4 (by omega) a ha K
  have k5 : ∀ (f : Nat → Int) (a : Nat) (ha : a < 64) (K : Option vi_V → vi_W → Prop), vi_call GG (d + 2) 115 [.inr (.inr 107), .inl (5 : Int), .inl (a : Int)] (Y, vi_rs M 108 f, n) K ↔ K (some (.inl (vi_b (fP M 5 a)))) (Y, vi_rs M 108 f, n) := fun f a ha K => k115 f 5 (by omega) a ha K
  clear k115
  refine vi_k (r := none) fun Q hQ => ?_
  generalize fP M 3 = p at *
  generalize fP M 4 = q at *
  generalize fP M 5 = r at *
  have loopA : ∀ a : Nat, a ≤ 64 → ∀ o2 o3 o4, vi_ok GG (d + 2) 112 26 [some (.inr (.inr 107)), some (.inl (a : Int)), o2, o3, o4] [] (Y, vi_rs M 108 (vi_m 4096 (fun s => (fA p q r s a : Int)) (M 108)), n) Q := by
    refine vi_dn 64 ?_ fun a ha ihA => ?_
    · intro o2 o3 o4
      rw [s_112_26]
      simp (disch := omega) only [Option.toList_some, Option.toList_none, List.nil_append, List.cons_append, List.append_nil, true_and, and_true, not_true_eq_false, not_false_eq_true, true_implies, false_implies, implies_true, and_self, Int.reduceLT, Int.reduceLE, Int.reduceEq, Int.reduceNe, Int.reduceAdd, Int.reduceSub, Int.reduceMul, Int.reduceNeg, Int.reduceToNat, Int.toNat_natCast, ↓kk_ck, ↓kk_im, ↓kk_in, s_112_0, s_112_11, s_112_24, s_112_32, s_112_40, s_112_49, s_112_57, s_112_66, s_112_83, s_112_88, s_112_98, s_112_109, s_112_115, s_112_121, s_112_127, s_112_7, s_112_15, s_112_46, s_112_63, s_112_72, s_112_94, s_112_102, s_112_8, s_112_18, s_112_80, s_112_95, s_112_106]
      exact hQ
    · have loopB : ∀ b : Nat, b ≤ 64 → ∀ o3 o4, vi_ok GG (d + 2) 112 34 [some (.inr (.inr 107)), some (.inl (a : Int)), some (.inl (b : Int)), o3, o4] [] (Y, vi_rs M 108 (vi_m 4096 (fun s => ((fA p q r s a + fB p q r a s b : Nat) : Int)) (M 108)), n) Q := by
        refine vi_dn 64 ?_ fun b hb' ihB => ?_
        · intro o3 o4
          have := ihA (some (.inl ((64 : Nat) : Int))) o3 o4
          simp only [fA] at this
          rw [s_112_34]
          simp (disch := omega) only [Option.toList_some, Option.toList_none, List.nil_append, List.cons_append, List.append_nil, true_and, and_true, not_true_eq_false, not_false_eq_true, true_implies, false_implies, implies_true, and_self, Int.reduceLT, Int.reduceLE, Int.reduceEq, Int.reduceNe, Int.reduceAdd, Int.reduceSub, Int.reduceMul, Int.reduceNeg, Int.reduceToNat, Int.toNat_natCast, ↓kk_ck, ↓kk_im, ↓kk_in, s_112_0, s_112_11, s_112_24, s_112_32, s_112_40, s_112_49, s_112_57, s_112_66, s_112_83, s_112_88, s_112_98, s_112_109, s_112_115, s_112_121, s_112_127, s_112_7, s_112_15, s_112_46, s_112_63, s_112_72, s_112_94, s_112_102, s_112_8, s_112_18, s_112_80, s_112_95, s_112_106, vi_inc]
          exact this
        · intro o3 o4
          rw [s_112_34]
          cases hp : p a
          · have := ihA (some (.inl (b : Int))) o3 o4
            simp only [fA, fB_p hp, Nat.add_zero] at this
            simp (disch := omega) only [Option.toList_some, Option.toList_none, List.nil_append, List.cons_append, List.append_nil, true_and, and_true, not_true_eq_false, not_false_eq_true, true_implies, false_implies, implies_true, and_self, Int.reduceLT, Int.reduceLE, Int.reduceEq, Int.reduceNe, Int.reduceAdd, Int.reduceSub, Int.reduceMul, Int.reduceNeg, Int.reduceToNat, Int.toNat_natCast, ↓kk_ck, ↓kk_im, ↓kk_in, s_112_0, s_112_11, s_112_24, s_112_32, s_112_40, s_112_49, s_112_57, s_112_66, s_112_83, s_112_88, s_112_98, s_112_109, s_112_115, s_112_121, s_112_127, s_112_7, s_112_15, s_112_46, s_112_63, s_112_72, s_112_94, s_112_102, s_112_8, s_112_18, s_112_80, s_112_95, s_112_106, a1, k3, hp, vi_bf, fB_p hp, Nat.add_zero, vi_inc]
            exact this
          · have loopC : ∀ c : Nat, c ≤ 64 → ∀ o4, vi_ok GG (d + 2) 112 51 [some (.inr (.inr 107)), some (.inl (a : Int)), some (.inl (b : Int)), some (.inl (c : Int)), o4] [] (Y, vi_rs M 108 (vi_m 4096 (fun s => ((fA p q r s a + fB p q r a s b + fC p q r a b s c : Nat) : Int)) (M 108)), n) Q := by
              refine vi_dn 64 ?_ fun c hc ihC => ?_
              · intro o4
                have := ihB (some (.inl ((64 : Nat) : Int))) o4
                simp only [fB, ← Nat.add_assoc] at this
                rw [s_112_51]
                simp (disch := omega) only [Option.toList_some, Option.toList_none, List.nil_append, List.cons_append, List.append_nil, true_and, and_true, not_true_eq_false, not_false_eq_true, true_implies, false_implies, implies_true, and_self, Int.reduceLT, Int.reduceLE, Int.reduceEq, Int.reduceNe, Int.reduceAdd, Int.reduceSub, Int.reduceMul, Int.reduceNeg, Int.reduceToNat, Int.toNat_natCast, ↓kk_ck, ↓kk_im, ↓kk_in, s_112_0, s_112_11, s_112_24, s_112_32, s_112_40, s_112_49, s_112_57, s_112_66, s_112_83, s_112_88, s_112_98, s_112_109, s_112_115, s_112_121, s_112_127, s_112_7, s_112_15, s_112_46, s_112_63, s_112_72, s_112_94, s_112_102, s_112_8, s_112_18, s_112_80, s_112_95, s_112_106, vi_inc]
                exact this
              · intro o4
                rw [s_112_51]
                cases hq : q b
                · have := ihB (some (.inl (c : Int))) o4
                  simp only [fB, fC_q hq, Nat.add_zero] at this
                  simp (disch := omega) only [Option.toList_some, Option.toList_none, List.nil_append, List.cons_append, List.append_nil, true_and, and_true, not_true_eq_false, not_false_eq_true, true_implies, false_implies, implies_true, and_self, Int.reduceLT, Int.reduceLE, Int.reduceEq, Int.reduceNe, Int.reduceAdd, Int.reduceSub, Int.reduceMul, Int.reduceNeg, Int.reduceToNat, Int.toNat_natCast, ↓kk_ck, ↓kk_im, ↓kk_in, s_112_0, s_112_11, s_112_24, s_112_32, s_112_40, s_112_49, s_112_57, s_112_66, s_112_83, s_112_88, s_112_98, s_112_109, s_112_115, s_112_121, s_112_127, s_112_7, s_112_15, s_112_46, s_112_63, s_112_72, s_112_94, s_112_102, s_112_8, s_112_18, s_112_80, s_112_95, s_112_106, a1, k4, hq, vi_bf, fC_q hq, Nat.add_zero, vi_inc]
                  exact this
                · have h1 := fSp_lt a ha
                  have h2 := fSp_lt b hb'
                  have h3 := fSp_lt c hc
                  have k116 := fun {K : Option vi_V → vi_W → Prop} {w : vi_W} => @k_116 d K w a b c ha hb' hc
                  have hS := fun {k s : Nat} (h : (p a && q b && r k) = true) => fC_y (s := s) h
                  cases hr : r c
                  · have := ihC (some (.inl ((fSp a + fSp b + fSp c : Nat) : Int)))
                    simp only [fC_n (p := p) (q := q) (r := r) (a := a) (b := b) (k := c) (by rw [hr, Bool.and_false])] at this
                    clear hS
                    generalize fSp a + fSp b + fSp c = t at *
                    simp (disch := omega) only [Option.toList_some, Option.toList_none, List.nil_append, List.cons_append, List.append_nil, true_and, and_true, not_true_eq_false, not_false_eq_true, true_implies, false_implies, implies_true, and_self, Int.reduceLT, Int.reduceLE, Int.reduceEq, Int.reduceNe, Int.reduceAdd, Int.reduceSub, Int.reduceMul, Int.reduceNeg, Int.reduceToNat, Int.toNat_natCast, ↓kk_ck, ↓kk_im, ↓kk_in, s_112_0, s_112_11, s_112_24, s_112_32, s_112_40, s_112_49, s_112_57, s_112_66, s_112_83, s_112_88, s_112_98, s_112_109, s_112_115, s_112_121, s_112_127, s_112_7, s_112_15, s_112_46, s_112_63, s_112_72, s_112_94, s_112_102, s_112_8, s_112_18, s_112_80, s_112_95, s_112_106, a1, k4, k5, k116, hq, hr, vi_bf, vi_bt, vi_inc]
                    exact this
                  · have := ihC (some (.inl ((fSp a + fSp b + fSp c : Nat) : Int)))
                    have ht : fSp a + fSp b + fSp c < 4096 := by omega
                    have e1 := fun (s : Nat) => hS (k := c) (s := s) (by rw [hp, hq, hr]; rfl)
                    have l1 := fA_le (p := p) (q := q) (r := r) (s := fSp a + fSp b + fSp c) a
                    have l2 := fB_le (p := p) (q := q) (r := r) (a := a) (s := fSp a + fSp b + fSp c) b
                    have l3 := fC_le (p := p) (q := q) (r := r) (a := a) (b := b) (s := fSp a + fSp b + fSp c) c
                    clear hS hQ ihA ihB ihC
                    generalize fSp a + fSp b + fSp c = t at *
                    have e2 : vi_u (vi_m 4096 (fun s => ((fA p q r s a + fB p q r a s b + fC p q r a b s c : Nat) : Int)) (M 108)) t (((fA p q r t a + fB p q r a t b + fC p q r a b t c : Nat) : Int) + 1) = vi_m 4096 (fun s => ((fA p q r s a + fB p q r a s b + fC p q r a b s (c + 1) : Nat) : Int)) (M 108) := by
                      refine vi_m_u ht ?_ fun j hj => ?_
                      · rw [e1, decide_eq_true rfl]
                        simp only [Bool.toNat_true, Int.natCast_add, Int.natCast_one]
                        omega
                      · rw [e1, decide_eq_false (fun h => hj h.symm)]
                        rfl
                    have zc : ((c + 1 : Nat) : Int) = (c : Int) + 1 := rfl
                    rw [← e2, zc] at this
                    clear e2 e1
                    simp (disch := omega) only [Option.toList_some, Option.toList_none, List.nil_append, List.cons_append, List.append_nil, true_and, and_true, not_true_eq_false, not_false_eq_true, true_implies, false_implies, implies_true, and_self, Int.reduceLT, Int.reduceLE, Int.reduceEq, Int.reduceNe, Int.reduceAdd, Int.reduceSub, Int.reduceMul, Int.reduceNeg, Int.reduceToNat, Int.toNat_natCast, ↓kk_ck, ↓kk_im, ↓kk_in, s_112_0, s_112_11, s_112_24, s_112_32, s_112_40, s_112_49, s_112_57, s_112_66, s_112_83, s_112_88, s_112_98, s_112_109, s_112_115, s_112_121, s_112_127, s_112_7, s_112_15, s_112_46, s_112_63, s_112_72, s_112_94, s_112_102, s_112_8, s_112_18, s_112_80, s_112_95, s_112_106, a1, a3, g1, g2, k4, k5, k116, hq, hr, vi_bf, vi_bt, vi_ms_rs, vi_rs_s, vi_rs_rs, vi_m_lt ht, vi_32, Int.toNat_natCast, vi_inc]
                    exact this
            have := loopC 0 (by omega) o4
            have z0 : ∀ s, fC p q r a b s 0 = 0 := fun s => rfl
            simp only [z0, Nat.add_zero] at this
            simp (disch := omega) only [Option.toList_some, Option.toList_none, List.nil_append, List.cons_append, List.append_nil, true_and, and_true, not_true_eq_false, not_false_eq_true, true_implies, false_implies, implies_true, and_self, Int.reduceLT, Int.reduceLE, Int.reduceEq, Int.reduceNe, Int.reduceAdd, Int.reduceSub, Int.reduceMul, Int.reduceNeg, Int.reduceToNat, Int.toNat_natCast, ↓kk_ck, ↓kk_im, ↓kk_in, s_112_0, s_112_11, s_112_24, s_112_32, s_112_40, s_112_49, s_112_57, s_112_66, s_112_83, s_112_88, s_112_98, s_112_109, s_112_115, s_112_121, s_112_127, s_112_7, s_112_15, s_112_46, s_112_63, s_112_72, s_112_94, s_112_102, s_112_8, s_112_18, s_112_80, s_112_95, s_112_106, a1, k3, hp, vi_bt]
            exact this
      intro o2 o3 o4
      have := loopB 0 (by omega) o3 o4
      have z0 : ∀ s, fB p q r a s 0 = 0 := fun s => rfl
      simp only [z0, Nat.add_zero] at this
      rw [s_112_26]
      simp (disch := omega) only [Option.toList_some, Option.toList_none, List.nil_append, List.cons_append, List.append_nil, true_and, and_true, not_true_eq_false, not_false_eq_true, true_implies, false_implies, implies_true, and_self, Int.reduceLT, Int.reduceLE, Int.reduceEq, Int.reduceNe, Int.reduceAdd, Int.reduceSub, Int.reduceMul, Int.reduceNeg, Int.reduceToNat, Int.toNat_natCast, ↓kk_ck, ↓kk_im, ↓kk_in, s_112_0, s_112_11, s_112_24, s_112_32, s_112_40, s_112_49, s_112_57, s_112_66, s_112_83, s_112_88, s_112_98, s_112_109, s_112_115, s_112_121, s_112_127, s_112_7, s_112_15, s_112_46, s_112_63, s_112_72, s_112_94, s_112_102, s_112_8, s_112_18, s_112_80, s_112_95, s_112_106]
      exact this
  have loop0 : ∀ k : Nat, k ≤ 4096 → ∀ o2 o3 o4, vi_ok GG (d + 2) 112 2 [some (.inr (.inr 107)), some (.inl (k : Int)), o2, o3, o4] [] (Y, vi_rs M 108 (vi_m k (fun _ => 0) (M 108)), n) Q := by
    refine vi_dn 4096 ?_ fun k hk ih => ?_
    · intro o2 o3 o4
      have := loopA 0 (by omega) o2 o3 o4
      have z0 : ∀ s, fA p q r s 0 = 0 := fun s => rfl
      simp only [z0, Int.natCast_zero] at this
      rw [s_112_2]
      simp (disch := omega) only [Option.toList_some, Option.toList_none, List.nil_append, List.cons_append, List.append_nil, true_and, and_true, not_true_eq_false, not_false_eq_true, true_implies, false_implies, implies_true, and_self, Int.reduceLT, Int.reduceLE, Int.reduceEq, Int.reduceNe, Int.reduceAdd, Int.reduceSub, Int.reduceMul, Int.reduceNeg, Int.reduceToNat, Int.toNat_natCast, ↓kk_ck, ↓kk_im, ↓kk_in, s_112_0, s_112_11, s_112_24, s_112_32, s_112_40, s_112_49, s_112_57, s_112_66, s_112_83, s_112_88, s_112_98, s_112_109, s_112_115, s_112_121, s_112_127, s_112_7, s_112_15, s_112_46, s_112_63, s_112_72, s_112_94, s_112_102, s_112_8, s_112_18, s_112_80, s_112_95, s_112_106, a1, a3, g1, g2]
      exact this
    · intro o2 o3 o4
      have := ih o2 o3 o4
      rw [← vi_m_s (z := k) (f := fun _ => 0) (v := 0) rfl] at this
      rw [s_112_2]
      simp (disch := omega) only [Option.toList_some, Option.toList_none, List.nil_append, List.cons_append, List.append_nil, true_and, and_true, not_true_eq_false, not_false_eq_true, true_implies, false_implies, implies_true, and_self, Int.reduceLT, Int.reduceLE, Int.reduceEq, Int.reduceNe, Int.reduceAdd, Int.reduceSub, Int.reduceMul, Int.reduceNeg, Int.reduceToNat, Int.toNat_natCast, ↓kk_ck, ↓kk_im, ↓kk_in, s_112_0, s_112_11, s_112_24, s_112_32, s_112_40, s_112_49, s_112_57, s_112_66, s_112_83, s_112_88, s_112_98, s_112_109, s_112_115, s_112_121, s_112_127, s_112_7, s_112_15, s_112_46, s_112_63, s_112_72, s_112_94, s_112_102, s_112_8, s_112_18, s_112_80, s_112_95, s_112_106, a1, a3, g1, g2, vi_ms_rs, vi_rs_s, vi_rs_rs, vi_inc]
      exact this
  have := loop0 0 (by omega) none none none
  rw [vi_m_0, vi_rs_id rfl] at this
  rw [e_112, s_112_0]
  exact this
end
