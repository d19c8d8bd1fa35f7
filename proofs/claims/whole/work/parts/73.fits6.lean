/-! Contract of Picks.ways. -/
theorem fW_abc {p q r : Nat → Bool} {D : Nat → Int} {B : Nat → Nat} {a b c : Nat} (hb : b < 64) (hc : c < 64) : fW p q r D B (4096 * a + 64 * b + c) = if p a && q b && r c then (if 0 ≤ D (fSp a + fSp b + fSp c) then B (D (fSp a + fSp b + fSp c)).toNat else 0) else 0 := by
  unfold fW
  rw [show (4096 * a + 64 * b + c) / 4096 = a by omega, show (4096 * a + 64 * b + c) / 64 % 64 = b by omega, show (4096 * a + 64 * b + c) % 64 = c by omega]
theorem fDue_lt {f : Nat → Int} {t y : Nat} (hy : y ≤ 6) : fDue f t y < 4096 := by
  unfold fDue
  split
  · omega
  · have h1 := fDu_lt (f := f) (t := t) y
    have h2 : 2 ^ (2 * y) ≤ 2 ^ 12 := Nat.pow_le_pow_right (by omega) (by omega)
    omega
/-- the whole row put down: k's three sets, and the first three behind -/
def fN (p q r : Nat → Bool) (D : Nat → Int) (k : Nat) (f : Nat → Int) : Nat → Int :=
  let i := fI (fG p q r (D (fSp (k / 4096) + fSp (k / 64 % 64) + fSp (k % 64))).toNat) 262144
  vi_u (vi_u (vi_u (vi_u (vi_u (vi_u f 0 (k / 4096 : Nat)) 1 (k / 64 % 64 : Nat)) 2 (k % 64 : Nat)) 3 (i / 4096 : Nat)) 4 (i / 64 % 64 : Nat)) 5 (i % 64 : Nat)
def fWM (M : vi_M) : Nat → Nat := fW (fP M 0) (fP M 1) (fP M 2) (fun t => fDue (M 38) t (M 30 9).toNat) (fun s => fA (fP M 3) (fP M 4) (fP M 5) s 64)
def fNM (M : vi_M) : Nat → (Nat → Int) → Nat → Int := fN (fP M 3) (fP M 4) (fP M 5) (fun t => fDue (M 38) t (M 30 9).toNat)
section
variable {d : Nat} {K : Option vi_V → vi_W → Prop} {Y : vi_Y} {M : vi_M} {n : Nat × Nat}
theorem k_107 (hY : kY Y 151) (hb : gB (M 30 8) (M 30 9) (M 30 10)) (hc : ∀ j, j < 12 → -1000 ≤ M 38 j ∧ M 38 j ≤ 1000) : vi_call GG (d + 4) 107 [.inr (.inr 107)] (Y, M, n) K ↔ K (some (.inl (fWs (fWM M) 262144 : Int))) (Y, vi_rs (vi_rs M 108 (vi_m 4096 (fun s => (fA (fP M 3) (fP M 4) (fP M 5) s 64 : Int)) (M 108))) 109 (fM (fWM M) (fNM M) (M 109) 262144), n) := by
  obtain ⟨a1, a2, a3, a4, a5⟩ := y_107 hY (by omega)
  obtain ⟨g1, g2⟩ := y_108 hY (by omega)
  have k112 := fun {K : Option vi_V → vi_W → Prop} => @k_112 d K Y M n hY hb
  have hD : ∀ t, fDue (M 38) t (M 30 9).toNat < 4096 := fun t => fDue_lt (by have := hb.2.1; omega)
  refine vi_k (r := some (.inl _)) fun Q hQ => ?_
  generalize hM1 : vi_rs M 108 (vi_m 4096 (fun s => (fA (fP M 3) (fP M 4) (fP M 5) s 64 : Int)) (M 108)) = M1 at *
  have e30 : M1 30 = M 30 := by rw [← hM1]; exact vi_rs_o (by omega)
  have e38 : M1 38 = M 38 := by rw [← hM1]; exact vi_rs_o (by omega)
  have e109 : M1 109 = M 109 := by rw [← hM1]; exact vi_rs_o (by omega)
  have e108 : ∀ s, s < 4096 → M1 108 s = (fA (fP M 3) (fP M 4) (fP M 5) s 64 : Int) := fun s hs => by rw [← hM1, vi_rs_s, vi_m_lt hs]
  have f30 : ∀ f, vi_rs M1 109 f 30 = M 30 := fun f => by rw [vi_rs_o (by omega), e30]
  have f38 : ∀ f, vi_rs M1 109 f 38 = M 38 := fun f => by rw [vi_rs_o (by omega), e38]
  have f108 : ∀ f, vi_rs M1 109 f 108 = M1 108 := fun f => vi_rs_o (by omega)
  have fp : ∀ f x, fP (vi_rs M1 109 f) x = fP M x := fun f x => by unfold fP; rw [f30, f38]
  have k115 : ∀ (f : Nat → Int) (x : Nat) (hx : x < 6) (a : Nat) (ha : a < 64) (K : Option vi_V → vi_W → Prop), vi_call GG (d + 3) 115 [.inr (.inr 107), .inl (x : Int), .inl (a : Int)] (Y, vi_rs M1 109 f, n) K ↔ K (some (.inl (vi_b (fP M x a)))) (Y, vi_rs M1 109 f, n) := fun f x hx a ha K => by
    have := @k_115 (d + 1) K Y (vi_rs M1 109 f) n hY (by rw [f30]; exact hb) x hx a ha
    rw [f30, f38] at this
    exact this
  have k0 : ∀ (f : Nat → Int) (a : Nat) (ha : a < 64) (K : Option vi_V → vi_W → Prop), vi_call GG (d + 3) 115 [.inr (.inr 107), .inl (0 : Int), .inl (a : Int)] (Y, vi_rs M1 109 f, n) K ↔ K (some (.inl (vi_b (fP M 0 a)))) (Y, vi_rs M1 109 f, n) := fun f a ha K => k115 f 0 (by omega) a ha K
  have k1 : ∀ (f : Nat → Int) (a : Nat) (ha : a < 64) (K : Option vi_V → vi_W → Prop), vi_call GG (d + 3) 115 [.inr (.inr 107), .inl (1 : Int), .inl (a : Int)] (Y, vi_rs M1 109 f, n) K ↔ K (some (.inl (vi_b (fP M 1 a)))) (Y, vi_rs M1 109 f, n) := fun f a ha K => k115 f 1 (by omega) a ha K
  have k2 : ∀ (f : Nat → Int) (a : Nat) (ha : a < 64) (K : Option vi_V → vi_W → Prop), vi_call GG (d + 3) 115 [.inr (.inr 107), .inl (2 : Int), .inl (a : Int)] (Y, vi_rs M1 109 f, n) K ↔ K (some (.inl (vi_b (fP M 2 a)))) (Y, vi_rs M1 109 f, n) := fun f a ha K => k115 f 2 (by omega) a ha K
  have k118 : ∀ (f : Nat → Int) (t : Nat) (ht : t < 4096) (K : Option vi_V → vi_W → Prop), vi_call GG (d + 3) 118 [.inr (.inr 107), .inl (t : Int)] (Y, vi_rs M1 109 f, n) K ↔ K (some (.inl (fDue (M 38) t (M 30 9).toNat))) (Y, vi_rs M1 109 f, n) := fun f t ht K => by
    have := @k_118 (d + 1) K Y (vi_rs M1 109 f) n hY (by rw [f30]; exact hb) (by rw [f38]; exact hc) t ht
    rw [f30, f38] at this
    exact this
  have k114 : ∀ (f : Nat → Int) (a b c : Int) (K : Option vi_V → vi_W → Prop), vi_call GG (d + 3) 114 [.inr (.inr 107), .inl (0 : Int), .inl a, .inl b, .inl c] (Y, vi_rs M1 109 f, n) K ↔ K none (Y, vi_rs M1 109 (vi_u (vi_u (vi_u f 0 a) 1 b) 2 c), n) := fun f a b c K => by
    have := @k_114 (d + 2) K Y (vi_rs M1 109 f) n hY 0 (by omega) a b c
    rw [vi_rs_s, vi_rs_rs] at this
    exact this
  have k113 : ∀ (f : Nat → Int) (s : Nat) (h : 0 < fA (fP M 3) (fP M 4) (fP M 5) s 64) (K : Option vi_V → vi_W → Prop), vi_call GG (d + 3) 113 [.inr (.inr 107), .inl (s : Int)] (Y, vi_rs M1 109 f, n) K ↔ K none (Y, vi_rs M1 109 (vi_u (vi_u (vi_u f 3 (fI (fG (fP M 3) (fP M 4) (fP M 5) s) 262144 / 4096 : Nat)) 4 (fI (fG (fP M 3) (fP M 4) (fP M 5) s) 262144 / 64 % 64 : Nat)) 5 (fI (fG (fP M 3) (fP M 4) (fP M 5) s) 262144 % 64 : Nat)), n) := fun f s h K => by
    have hi := fI_A h
    obtain ⟨i1, i2, i3⟩ := fI_sp (g := fG (fP M 3) (fP M 4) (fP M 5) s) 262144
    have := @k_113 d K Y (vi_rs M1 109 f) n hY (by rw [f30]; exact hb) s (fI (fG (fP M 3) (fP M 4) (fP M 5) s) 262144) hi (by rw [fp, fp, fp]; exact i3 hi) (by rw [fp, fp, fp]; exact i2)
    rw [vi_rs_s, vi_rs_rs] at this
    exact this
  clear k115 hM1
  have hm : ∀ s, fA (fP M 3) (fP M 4) (fP M 5) s 64 ≤ 262144 := fun s => fA_le 64
  have hW : ∀ a b c, b < 64 → c < 64 → fWM M (4096 * a + 64 * b + c) = _ := fun a b c hb hc => fW_abc hb hc
  have skip (u l : Nat) := fWs_skip (W := fWM M) (N := fNM M) (g := M 109) (u := u) l
  have hle (u : Nat) := fWs_le (W := fWM M) u
  have loopA : ∀ a : Nat, a ≤ 64 → ∀ o3 o4 o5 o6, vi_ok GG (d + 3) 107 8 [some (.inr (.inr 107)), some (.inl (fWs (fWM M) (4096 * a) : Int)), some (.inl (a : Int)), o3, o4, o5, o6] [] (Y, vi_rs M1 109 (fM (fWM M) (fNM M) (M 109) (4096 * a)), n) Q := by
    refine vi_dn 64 ?_ fun a ha ihA => ?_
    · intro o3 o4 o5 o6
      rw [s_107_8]
      simp (disch := omega) only [Option.toList_some, Option.toList_none, List.nil_append, List.cons_append, List.append_nil, true_and, and_true, not_true_eq_false, not_false_eq_true, true_implies, false_implies, implies_true, and_self, Int.reduceLT, Int.reduceLE, Int.reduceEq, Int.reduceNe, Int.reduceAdd, Int.reduceSub, Int.reduceMul, Int.reduceNeg, Int.reduceToNat, Int.toNat_natCast, ↓kk_ck, ↓kk_im, ↓kk_in, s_107_0, s_107_14, s_107_22, s_107_31, s_107_41, s_107_50, s_107_60, s_107_74, s_107_75, s_107_82, s_107_92, s_107_102, s_107_103, s_107_109, s_107_114, s_107_129, s_107_145, s_107_151, s_107_157, s_107_4, s_107_28, s_107_47, s_107_57, s_107_68, s_107_88, s_107_96, s_107_123, s_107_138, s_107_71, s_107_89, s_107_99]
      exact hQ
    · have loopB : ∀ b : Nat, b ≤ 64 → ∀ o4 o5 o6, vi_ok GG (d + 3) 107 16 [some (.inr (.inr 107)), some (.inl (fWs (fWM M) (4096 * a + 64 * b) : Int)), some (.inl (a : Int)), some (.inl (b : Int)), o4, o5, o6] [] (Y, vi_rs M1 109 (fM (fWM M) (fNM M) (M 109) (4096 * a + 64 * b)), n) Q := by
        refine vi_dn 64 ?_ fun b hb' ihB => ?_
        · intro o4 o5 o6
          have := ihA (some (.inl ((64 : Nat) : Int))) o4 o5 o6
          rw [show 4096 * (a + 1) = 4096 * a + 64 * 64 by omega] at this
          clear ihA hQ
          rw [s_107_16]
          simp (disch := omega) only [Option.toList_some, Option.toList_none, List.nil_append, List.cons_append, List.append_nil, true_and, and_true, not_true_eq_false, not_false_eq_true, true_implies, false_implies, implies_true, and_self, Int.reduceLT, Int.reduceLE, Int.reduceEq, Int.reduceNe, Int.reduceAdd, Int.reduceSub, Int.reduceMul, Int.reduceNeg, Int.reduceToNat, Int.toNat_natCast, ↓kk_ck, ↓kk_im, ↓kk_in, s_107_0, s_107_14, s_107_22, s_107_31, s_107_41, s_107_50, s_107_60, s_107_74, s_107_75, s_107_82, s_107_92, s_107_102, s_107_103, s_107_109, s_107_114, s_107_129, s_107_145, s_107_151, s_107_157, s_107_4, s_107_28, s_107_47, s_107_57, s_107_68, s_107_88, s_107_96, s_107_123, s_107_138, s_107_71, s_107_89, s_107_99, vi_inc]
          exact this
        · intro o4 o5 o6
          rw [s_107_16]
          cases hp : fP M 0 a
          · have := ihA (some (.inl (b : Int))) o4 o5 o6
            obtain ⟨w1, w2⟩ := skip (4096 * a + 64 * b) (4096 - 64 * b) fun j h1 h2 => by
              have := hW a (j / 64 % 64) (j % 64) (by omega) (by omega)
              rw [show 4096 * a + 64 * (j / 64 % 64) + j % 64 = j by omega, hp] at this
              rw [this]
              rfl
            rw [show 4096 * (a + 1) = 4096 * a + 64 * b + (4096 - 64 * b) by omega, w1, w2] at this
            clear ihA ihB hQ hW skip hle w1 w2
            simp (disch := omega) only [Option.toList_some, Option.toList_none, List.nil_append, List.cons_append, List.append_nil, true_and, and_true, not_true_eq_false, not_false_eq_true, true_implies, false_implies, implies_true, and_self, Int.reduceLT, Int.reduceLE, Int.reduceEq, Int.reduceNe, Int.reduceAdd, Int.reduceSub, Int.reduceMul, Int.reduceNeg, Int.reduceToNat, Int.toNat_natCast, ↓kk_ck, ↓kk_im, ↓kk_in, s_107_0, s_107_14, s_107_22, s_107_31, s_107_41, s_107_50, s_107_60, s_107_74, s_107_75, s_107_82, s_107_92, s_107_102, s_107_103, s_107_109, s_107_114, s_107_129, s_107_145, s_107_151, s_107_157, s_107_4, s_107_28, s_107_47, s_107_57, s_107_68, s_107_88, s_107_96, s_107_123, s_107_138, s_107_71, s_107_89, s_107_99, a1, k0, hp, vi_bf, vi_inc]
            exact this
          · have loopC : ∀ c : Nat, c ≤ 64 → ∀ o5 o6, vi_ok GG (d + 3) 107 34 [some (.inr (.inr 107)), some (.inl (fWs (fWM M) (4096 * a + 64 * b + c) : Int)), some (.inl (a : Int)), some (.inl (b : Int)), some (.inl (c : Int)), o5, o6] [] (Y, vi_rs M1 109 (fM (fWM M) (fNM M) (M 109) (4096 * a + 64 * b + c)), n) Q := by
              refine vi_dn 64 ?_ fun c hc' ihC => ?_
              · intro o5 o6
                have := ihB (some (.inl ((64 : Nat) : Int))) o5 o6
                rw [show 4096 * a + 64 * (b + 1) = 4096 * a + 64 * b + 64 by omega] at this
                clear ihA ihB hQ hW skip hle
                rw [s_107_34]
                simp (disch := omega) only [Option.toList_some, Option.toList_none, List.nil_append, List.cons_append, List.append_nil, true_and, and_true, not_true_eq_false, not_false_eq_true, true_implies, false_implies, implies_true, and_self, Int.reduceLT, Int.reduceLE, Int.reduceEq, Int.reduceNe, Int.reduceAdd, Int.reduceSub, Int.reduceMul, Int.reduceNeg, Int.reduceToNat, Int.toNat_natCast, ↓kk_ck, ↓kk_im, ↓kk_in, s_107_0, s_107_14, s_107_22, s_107_31, s_107_41, s_107_50, s_107_60, s_107_74, s_107_75, s_107_82, s_107_92, s_107_102, s_107_103, s_107_109, s_107_114, s_107_129, s_107_145, s_107_151, s_107_157, s_107_4, s_107_28, s_107_47, s_107_57, s_107_68, s_107_88, s_107_96, s_107_123, s_107_138, s_107_71, s_107_89, s_107_99, vi_inc]
                exact this
              · intro o5 o6
                rw [s_107_34]
                cases hq : fP M 1 b
                · have := ihB (some (.inl (c : Int))) o5 o6
                  obtain ⟨w1, w2⟩ := skip (4096 * a + 64 * b + c) (64 - c) fun j h1 h2 => by
                    have := hW a b (j % 64) (by omega) (by omega)
                    rw [show 4096 * a + 64 * b + j % 64 = j by omega, hp, hq] at this
                    rw [this]
                    rfl
                  rw [show 4096 * a + 64 * (b + 1) = 4096 * a + 64 * b + c + (64 - c) by omega, w1, w2] at this
                  clear ihA ihB ihC hQ hW skip hle w1 w2
                  simp (disch := omega) only [Option.toList_some, Option.toList_none, List.nil_append, List.cons_append, List.append_nil, true_and, and_true, not_true_eq_false, not_false_eq_true, true_implies, false_implies, implies_true, and_self, Int.reduceLT, Int.reduceLE, Int.reduceEq, Int.reduceNe, Int.reduceAdd, Int.reduceSub, Int.reduceMul, Int.reduceNeg, Int.reduceToNat, Int.toNat_natCast, ↓kk_ck, ↓kk_im, ↓kk_in, s_107_0, s_107_14, s_107_22, s_107_31, s_107_41, s_107_50, s_107_60, s_107_74, s_107_75, s_107_82, s_107_92, s_107_102, s_107_103, s_107_109, s_107_114, s_107_129, s_107_145, s_107_151, s_107_157, s_107_4, s_107_28, s_107_47, s_107_57, s_107_68, s_107_88, s_107_96, s_107_123, s_107_138, s_107_71, s_107_89, s_107_99, a1, k1, hq, vi_bf, vi_inc]
                  exact this
                · have ih := ihC
                  have hw := hW a b c hb' hc'
                  have hl := hle (4096 * a + 64 * b + c)
                  have hN : ∀ f, fNM M (4096 * a + 64 * b + c) f = vi_u (vi_u (vi_u (vi_u (vi_u (vi_u f 0 (a : Int)) 1 (b : Int)) 2 (c : Int)) 3 (fI (fG (fP M 3) (fP M 4) (fP M 5) (fDue (M 38) (fSp a + fSp b + fSp c) (M 30 9).toNat).toNat) 262144 / 4096 : Nat)) 4 (fI (fG (fP M 3) (fP M 4) (fP M 5) (fDue (M 38) (fSp a + fSp b + fSp c) (M 30 9).toNat).toNat) 262144 / 64 % 64 : Nat)) 5 (fI (fG (fP M 3) (fP M 4) (fP M 5) (fDue (M 38) (fSp a + fSp b + fSp c) (M 30 9).toNat).toNat) 262144 % 64 : Nat) := fun f => by
                    unfold fNM fN
                    dsimp only
                    rw [show (4096 * a + 64 * b + c) / 4096 = a by omega, show (4096 * a + 64 * b + c) / 64 % 64 = b by omega, show (4096 * a + 64 * b + c) % 64 = c by omega]
                  have zc : ((c + 1 : Nat) : Int) = (c : Int) + 1 := rfl
                  change ∀ o5 o6, vi_ok GG (d + 3) 107 34 [some (.inr (.inr 107)), some (.inl ((min 1000000000 (fWs (fWM M) (4096 * a + 64 * b + c) + fWM M (4096 * a + 64 * b + c)) : Nat) : Int)), some (.inl (a : Int)), some (.inl (b : Int)), some (.inl ((c + 1 : Nat) : Int)), o5, o6] [] (Y, vi_rs M1 109 (if fWs (fWM M) (4096 * a + 64 * b + c) = 0 ∧ 0 < fWM M (4096 * a + 64 * b + c) then fNM M (4096 * a + 64 * b + c) (fM (fWM M) (fNM M) (M 109) (4096 * a + 64 * b + c)) else fM (fWM M) (fNM M) (M 109) (4096 * a + 64 * b + c)), n) Q at ih
                  clear ihA ihB ihC hQ skip hle hW
                  rw [hp, hq] at hw
                  generalize fWM M (4096 * a + 64 * b + c) = W at *
                  generalize fWs (fWM M) (4096 * a + 64 * b + c) = F at *
                  generalize fNM M (4096 * a + 64 * b + c) = N at *
                  generalize fM (fWM M) (fNM M) (M 109) (4096 * a + 64 * b + c) = f at *
                  have hm0 : min (1000000000 : Int) (F : Int) = ((min 1000000000 (F + 0) : Nat) : Int) := by omega
                  cases hr : fP M 2 c
                  · rw [hr] at hw
                    have hw0 : W = 0 := hw
                    rw [hw0, if_neg (fun g => Nat.lt_irrefl _ g.2)] at ih
                    have := ih (some (.inl (-1))) (some (.inl 0))
                    rw [← hm0, zc] at this
                    clear ih hw hN zc
                    simp (disch := omega) only [Option.toList_some, Option.toList_none, List.nil_append, List.cons_append, List.append_nil, true_and, and_true, not_true_eq_false, not_false_eq_true, true_implies, false_implies, implies_true, and_self, Int.reduceLT, Int.reduceLE, Int.reduceEq, Int.reduceNe, Int.reduceAdd, Int.reduceSub, Int.reduceMul, Int.reduceNeg, Int.reduceToNat, Int.toNat_natCast, ↓kk_ck, ↓kk_im, ↓kk_in, s_107_0, s_107_14, s_107_22, s_107_31, s_107_41, s_107_50, s_107_60, s_107_74, s_107_75, s_107_82, s_107_92, s_107_102, s_107_103, s_107_109, s_107_114, s_107_129, s_107_145, s_107_151, s_107_157, s_107_4, s_107_28, s_107_47, s_107_57, s_107_68, s_107_88, s_107_96, s_107_123, s_107_138, s_107_71, s_107_89, s_107_99, a1, k1, k2, hq, hr, vi_bt, vi_bf, @k_360 (d + 2), Int.add_zero, vi_32]
                    exact ⟨fun _ => this, fun _ => this⟩
                  · rw [hr] at hw
                    have h1 := fSp_lt a ha
                    have h2 := fSp_lt b hb'
                    have h3 := fSp_lt c hc'
                    have k116 := fun {K : Option vi_V → vi_W → Prop} {w : vi_W} => @k_116 (d + 1) K w a b c ha hb' hc'
                    have hDt := hD (fSp a + fSp b + fSp c)
                    have kk := fun {K : Option vi_V → vi_W → Prop} => k118 f (fSp a + fSp b + fSp c) (by omega) K
                    generalize fSp a + fSp b + fSp c = t at *
                    generalize fDue (M 38) t (M 30 9).toNat = D at *
                    by_cases hD0 : 0 ≤ D
                    · obtain ⟨e, rfl⟩ : ∃ e : Nat, D = e := ⟨D.toNat, by omega⟩
                      have hw1 : W = fA (fP M 3) (fP M 4) (fP M 5) e 64 := by
                        rw [hw, if_pos (show (true && true && true) = true from rfl), if_pos hD0, Int.toNat_natCast]
                      have hmW := hm e
                      have hM := e108 e (by omega)
                      have kf := k113 (vi_u (vi_u (vi_u f 0 (a : Int)) 1 (b : Int)) 2 (c : Int)) e
                      rw [← hw1] at hmW hM kf
                      clear hw hw1 hm hm0 hD hD0
                      have hmin : min (1000000000 : Int) ((F : Int) + (W : Int)) = ((min 1000000000 (F + W) : Nat) : Int) := by omega
                      have := ih (some (.inl (e : Int))) (some (.inl (W : Int)))
                      rw [← hmin, zc] at this
                      simp only [Int.toNat_natCast] at hN
                      clear ih hmin zc
                      by_cases cF : F = 0 ∧ 0 < W
                      · have kg := kf cF.2
                        rw [if_pos cF, hN] at this
                        obtain ⟨rfl, cW⟩ := cF
                        clear kf hN
                        simp (disch := omega) only [Option.toList_some, Option.toList_none, List.nil_append, List.cons_append, List.append_nil, true_and, and_true, not_true_eq_false, not_false_eq_true, true_implies, false_implies, implies_true, and_self, Int.reduceLT, Int.reduceLE, Int.reduceEq, Int.reduceNe, Int.reduceAdd, Int.reduceSub, Int.reduceMul, Int.reduceNeg, Int.reduceToNat, Int.toNat_natCast, ↓kk_ck, ↓kk_im, ↓kk_in, s_107_0, s_107_14, s_107_22, s_107_31, s_107_41, s_107_50, s_107_60, s_107_74, s_107_75, s_107_82, s_107_92, s_107_102, s_107_103, s_107_109, s_107_114, s_107_129, s_107_145, s_107_151, s_107_157, s_107_4, s_107_28, s_107_47, s_107_57, s_107_68, s_107_88, s_107_96, s_107_123, s_107_138, s_107_71, s_107_89, s_107_99, a1, a3, g1, g2, k1, k2, hq, hr, vi_bt, k116, kk, f108, hM, k114, kg, @k_360 (d + 2), vi_32, ne_eq, Int.toNat_natCast]
                        exact this
                      · rw [if_neg cF] at this
                        clear kf hN
                        by_cases c0 : F = 0
                        · have cW : W = 0 := by omega
                          subst c0 cW
                          simp (disch := omega) only [Option.toList_some, Option.toList_none, List.nil_append, List.cons_append, List.append_nil, true_and, and_true, not_true_eq_false, not_false_eq_true, true_implies, false_implies, implies_true, and_self, Int.reduceLT, Int.reduceLE, Int.reduceEq, Int.reduceNe, Int.reduceAdd, Int.reduceSub, Int.reduceMul, Int.reduceNeg, Int.reduceToNat, Int.toNat_natCast, ↓kk_ck, ↓kk_im, ↓kk_in, s_107_0, s_107_14, s_107_22, s_107_31, s_107_41, s_107_50, s_107_60, s_107_74, s_107_75, s_107_82, s_107_92, s_107_102, s_107_103, s_107_109, s_107_114, s_107_129, s_107_145, s_107_151, s_107_157, s_107_4, s_107_28, s_107_47, s_107_57, s_107_68, s_107_88, s_107_96, s_107_123, s_107_138, s_107_71, s_107_89, s_107_99, a1, a3, g1, g2, k1, k2, hq, hr, vi_bt, k116, kk, f108, hM, @k_360 (d + 2), vi_32, ne_eq, Int.toNat_natCast]
                          exact this
                        · simp (disch := omega) only [Option.toList_some, Option.toList_none, List.nil_append, List.cons_append, List.append_nil, true_and, and_true, not_true_eq_false, not_false_eq_true, true_implies, false_implies, implies_true, and_self, Int.reduceLT, Int.reduceLE, Int.reduceEq, Int.reduceNe, Int.reduceAdd, Int.reduceSub, Int.reduceMul, Int.reduceNeg, Int.reduceToNat, Int.toNat_natCast, ↓kk_ck, ↓kk_im, ↓kk_in, s_107_0, s_107_14, s_107_22, s_107_31, s_107_41, s_107_50, s_107_60, s_107_74, s_107_75, s_107_82, s_107_92, s_107_102, s_107_103, s_107_109, s_107_114, s_107_129, s_107_145, s_107_151, s_107_157, s_107_4, s_107_28, s_107_47, s_107_57, s_107_68, s_107_88, s_107_96, s_107_123, s_107_138, s_107_71, s_107_89, s_107_99, a1, a3, g1, g2, k1, k2, hq, hr, vi_bt, k116, kk, f108, hM, @k_360 (d + 2), vi_32, ne_eq, Int.toNat_natCast]
                          exact this
                    · have hw0 : W = 0 := by
                        rw [hw]
                        exact if_neg hD0
                      rw [hw0, if_neg (fun g => Nat.lt_irrefl _ g.2)] at ih
                      have := ih (some (.inl D)) (some (.inl 0))
                      rw [← hm0, zc] at this
                      clear ih hw hN zc
                      simp (disch := omega) only [Option.toList_some, Option.toList_none, List.nil_append, List.cons_append, List.append_nil, true_and, and_true, not_true_eq_false, not_false_eq_true, true_implies, false_implies, implies_true, and_self, Int.reduceLT, Int.reduceLE, Int.reduceEq, Int.reduceNe, Int.reduceAdd, Int.reduceSub, Int.reduceMul, Int.reduceNeg, Int.reduceToNat, Int.toNat_natCast, ↓kk_ck, ↓kk_im, ↓kk_in, s_107_0, s_107_14, s_107_22, s_107_31, s_107_41, s_107_50, s_107_60, s_107_74, s_107_75, s_107_82, s_107_92, s_107_102, s_107_103, s_107_109, s_107_114, s_107_129, s_107_145, s_107_151, s_107_157, s_107_4, s_107_28, s_107_47, s_107_57, s_107_68, s_107_88, s_107_96, s_107_123, s_107_138, s_107_71, s_107_89, s_107_99, a1, k1, k2, hq, hr, vi_bt, k116, kk, @k_360 (d + 2), Int.add_zero, vi_32]
                      exact ⟨fun _ => this, fun _ => this⟩
            have := loopC 0 (by omega) o5 o6
            clear ihA ihB hQ hW skip hle
            simp (disch := omega) only [Option.toList_some, Option.toList_none, List.nil_append, List.cons_append, List.append_nil, true_and, and_true, not_true_eq_false, not_false_eq_true, true_implies, false_implies, implies_true, and_self, Int.reduceLT, Int.reduceLE, Int.reduceEq, Int.reduceNe, Int.reduceAdd, Int.reduceSub, Int.reduceMul, Int.reduceNeg, Int.reduceToNat, Int.toNat_natCast, ↓kk_ck, ↓kk_im, ↓kk_in, s_107_0, s_107_14, s_107_22, s_107_31, s_107_41, s_107_50, s_107_60, s_107_74, s_107_75, s_107_82, s_107_92, s_107_102, s_107_103, s_107_109, s_107_114, s_107_129, s_107_145, s_107_151, s_107_157, s_107_4, s_107_28, s_107_47, s_107_57, s_107_68, s_107_88, s_107_96, s_107_123, s_107_138, s_107_71, s_107_89, s_107_99, a1, k0, hp, vi_bt]
            exact this
      intro o3 o4 o5 o6
      have := loopB 0 (by omega) o4 o5 o6
      clear ihA hQ hW skip hle
      rw [s_107_8]
      simp (disch := omega) only [Option.toList_some, Option.toList_none, List.nil_append, List.cons_append, List.append_nil, true_and, and_true, not_true_eq_false, not_false_eq_true, true_implies, false_implies, implies_true, and_self, Int.reduceLT, Int.reduceLE, Int.reduceEq, Int.reduceNe, Int.reduceAdd, Int.reduceSub, Int.reduceMul, Int.reduceNeg, Int.reduceToNat, Int.toNat_natCast, ↓kk_ck, ↓kk_im, ↓kk_in, s_107_0, s_107_14, s_107_22, s_107_31, s_107_41, s_107_50, s_107_60, s_107_74, s_107_75, s_107_82, s_107_92, s_107_102, s_107_103, s_107_109, s_107_114, s_107_129, s_107_145, s_107_151, s_107_157, s_107_4, s_107_28, s_107_47, s_107_57, s_107_68, s_107_88, s_107_96, s_107_123, s_107_138, s_107_71, s_107_89, s_107_99]
      exact this
  have := loopA 0 (by omega) none none none none
  have z1 : vi_rs M1 109 (fM (fWM M) (fNM M) (M 109) (4096 * 0)) = M1 := vi_rs_id e109
  rw [z1] at this
  clear hQ hW skip hle z1
  simp (disch := omega) only [Option.toList_some, Option.toList_none, List.nil_append, List.cons_append, List.append_nil, true_and, and_true, not_true_eq_false, not_false_eq_true, true_implies, false_implies, implies_true, and_self, Int.reduceLT, Int.reduceLE, Int.reduceEq, Int.reduceNe, Int.reduceAdd, Int.reduceSub, Int.reduceMul, Int.reduceNeg, Int.reduceToNat, Int.toNat_natCast, ↓kk_ck, ↓kk_im, ↓kk_in, e_107, s_107_0, s_107_14, s_107_22, s_107_31, s_107_41, s_107_50, s_107_60, s_107_74, s_107_75, s_107_82, s_107_92, s_107_102, s_107_103, s_107_109, s_107_114, s_107_129, s_107_145, s_107_151, s_107_157, s_107_4, s_107_28, s_107_47, s_107_57, s_107_68, s_107_88, s_107_96, s_107_123, s_107_138, s_107_71, s_107_89, s_107_99, a1, k112]
  exact this
end
