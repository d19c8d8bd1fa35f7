/-! Contracts of Picks, sixth part: HOLES by COUNTS, the first row behind. -/
/-- whether the row of number j suits: three sets, in order a, b, c -/
def fG (p q r : Nat → Bool) (s j : Nat) : Bool := p (j / 4096) && q (j / 64 % 64) && r (j % 64) && decide (fSp (j / 4096) + fSp (j / 64 % 64) + fSp (j % 64) = s)
section
variable {p q r : Nat → Bool} {s a b c : Nat}
theorem fG_abc (hb : b < 64) (hc : c < 64) : fG p q r s (4096 * a + 64 * b + c) = (p a && q b && r c && decide (fSp a + fSp b + fSp c = s)) := by
  unfold fG
  rw [show (4096 * a + 64 * b + c) / 4096 = a by omega, show (4096 * a + 64 * b + c) / 64 % 64 = b by omega, show (4096 * a + 64 * b + c) % 64 = c by omega]
theorem fG_p (h : p a = false) {j : Nat} (hj : j / 4096 = a) : fG p q r s j = false := by
  unfold fG
  rw [hj, h]
  rfl
theorem fG_q (h : q b = false) {j : Nat} (hj : j / 64 % 64 = b) : fG p q r s j = false := by
  unfold fG
  rw [hj, h, Bool.and_false]
  rfl
end
section
variable {d : Nat} {K : Option vi_V → vi_W → Prop} {Y : vi_Y} {M : vi_M} {n : Nat × Nat}
/-- the first row's number i; there is one -/
theorem k_113 (hY : kY Y 151) (hb : gB (M 30 8) (M 30 9) (M 30 10)) {s i : Nat} (hi : i < 262144) (hg : fG (fP M 3) (fP M 4) (fP M 5) s i = true) (hf : ∀ j, j < i → fG (fP M 3) (fP M 4) (fP M 5) s j = false) : vi_call GG (d + 3) 113 [.inr (.inr 107), .inl (s : Int)] (Y, M, n) K ↔ K none (Y, vi_rs M 109 (vi_u (vi_u (vi_u (M 109) 3 (i / 4096 : Nat)) 4 (i / 64 % 64 : Nat)) 5 (i % 64 : Nat)), n) := by
  obtain ⟨a1, a2, a3, a4, a5⟩ := y_107 hY (by omega)
  have k3 : ∀ (a : Nat) (ha : a < 64) (K : Option vi_V → vi_W → Prop), vi_call GG (d + 2) 115 [.inr (.inr 107), .inl (3 : Int), .inl (a : Int)] (Y, M, n) K ↔ K (some (.inl (vi_b (fP M 3 a)))) (Y, M, n) := fun a ha K => @k_115 d K Y M n hY hb 3 (by omega) a ha
  have k4 : ∀ (a : Nat) (ha : a < 64) (K : Option vi_V → vi_W → Prop), vi_call GG (d + 2) 115 [.inr (.inr 107), .inl (4 : Int), .inl (a : Int)] (Y, M, n) K ↔ K (some (.inl (vi_b (fP M 4 a)))) (Y, M, n) := fun a ha K => @k_115 d K Y M n hY hb 4 (by omega) a ha
  have k5 : ∀ (a : Nat) (ha : a < 64) (K : Option vi_V → vi_W → Prop), vi_call GG (d + 2) 115 [.inr (.inr 107), .inl (5 : Int), .inl (a : Int)] (Y, M, n) K ↔ K (some (.inl (vi_b (fP M 5 a)))) (Y, M, n) := fun a ha K => @k_115 d K Y M n hY hb 5 (by omega) a ha
  have k114 : ∀ (a b c : Int) (K : Option vi_V → vi_W → Prop), vi_call GG (d + 2) 114 [.inr (.inr 107), .inl (3 : Int), .inl a, .inl b, .inl c] (Y, M, n) K ↔ K none (Y, vi_rs M 109 (vi_u (vi_u (vi_u (M 109) 3 a) 4 b) 5 c), n) := fun a b c K => @k_114 (d + 1) K Y M n hY 3 (by omega) a b c
  refine vi_k (r := none) fun Q hQ => ?_
  generalize fP M 3 = p at *
  generalize fP M 4 = q at *
  generalize fP M 5 = r at *
  have loopA : ∀ a : Nat, a ≤ 64 → (∀ j, j < 4096 * a → fG p q r s j = false) → ∀ o3 o4, vi_ok GG (d + 2) 113 2 [some (.inr (.inr 107)), some (.inl (s : Int)), some (.inl (a : Int)), o3, o4] [] (Y, M, n) Q := by
    refine vi_dn 64 ?_ fun a ha ihA => ?_
    · intro h o3 o4
      rw [h i (by omega)] at hg
      cases hg
    · have loopB : ∀ b : Nat, b ≤ 64 → (∀ j, j < 4096 * a + 64 * b → fG p q r s j = false) → ∀ o4, vi_ok GG (d + 2) 113 10 [some (.inr (.inr 107)), some (.inl (s : Int)), some (.inl (a : Int)), some (.inl (b : Int)), o4] [] (Y, M, n) Q := by
        refine vi_dn 64 ?_ fun b hb' ihB => ?_
        · intro h o4
          have := ihA (fun j hj => h j (by omega)) (some (.inl ((64 : Nat) : Int))) o4
          clear ihA hf hg h hQ
          rw [s_113_10]
          simp (disch := omega) only [Option.toList_some, Option.toList_none, List.nil_append, List.cons_append, List.append_nil, true_and, and_true, not_true_eq_false, not_false_eq_true, true_implies, false_implies, implies_true, and_self, Int.reduceLT, Int.reduceLE, Int.reduceEq, Int.reduceNe, Int.reduceAdd, Int.reduceSub, Int.reduceMul, Int.reduceNeg, Int.reduceToNat, Int.toNat_natCast, ↓kk_ck, ↓kk_im, ↓kk_in, s_113_0, s_113_8, s_113_16, s_113_25, s_113_35, s_113_44, s_113_54, s_113_65, s_113_75, s_113_81, s_113_87, s_113_93, s_113_22, s_113_41, s_113_51, s_113_61, s_113_74, vi_inc]
          exact this
        · intro h o4
          rw [s_113_10]
          cases hp : p a
          · have := ihA (fun j hj => by
              by_cases c : j < 4096 * a + 64 * b
              · exact h j c
              · exact fG_p hp (by omega)) (some (.inl (b : Int))) o4
            clear ihA ihB hf hg h hQ
            simp (disch := omega) only [Option.toList_some, Option.toList_none, List.nil_append, List.cons_append, List.append_nil, true_and, and_true, not_true_eq_false, not_false_eq_true, true_implies, false_implies, implies_true, and_self, Int.reduceLT, Int.reduceLE, Int.reduceEq, Int.reduceNe, Int.reduceAdd, Int.reduceSub, Int.reduceMul, Int.reduceNeg, Int.reduceToNat, Int.toNat_natCast, ↓kk_ck, ↓kk_im, ↓kk_in, s_113_0, s_113_8, s_113_16, s_113_25, s_113_35, s_113_44, s_113_54, s_113_65, s_113_75, s_113_81, s_113_87, s_113_93, s_113_22, s_113_41, s_113_51, s_113_61, s_113_74, a1, k3, hp, vi_bf, vi_inc]
            exact this
          · have loopC : ∀ c : Nat, c ≤ 64 → (∀ j, j < 4096 * a + 64 * b + c → fG p q r s j = false) → vi_ok GG (d + 2) 113 28 [some (.inr (.inr 107)), some (.inl (s : Int)), some (.inl (a : Int)), some (.inl (b : Int)), some (.inl (c : Int))] [] (Y, M, n) Q := by
              refine vi_dn 64 ?_ fun c hc ihC => ?_
              · intro h
                have := ihB (fun j hj => h j (by omega)) (some (.inl ((64 : Nat) : Int)))
                clear ihA ihB hf hg h hQ
                rw [s_113_28]
                simp (disch := omega) only [Option.toList_some, Option.toList_none, List.nil_append, List.cons_append, List.append_nil, true_and, and_true, not_true_eq_false, not_false_eq_true, true_implies, false_implies, implies_true, and_self, Int.reduceLT, Int.reduceLE, Int.reduceEq, Int.reduceNe, Int.reduceAdd, Int.reduceSub, Int.reduceMul, Int.reduceNeg, Int.reduceToNat, Int.toNat_natCast, ↓kk_ck, ↓kk_im, ↓kk_in, s_113_0, s_113_8, s_113_16, s_113_25, s_113_35, s_113_44, s_113_54, s_113_65, s_113_75, s_113_81, s_113_87, s_113_93, s_113_22, s_113_41, s_113_51, s_113_61, s_113_74, vi_inc]
                exact this
              · intro h
                have next (hn : fG p q r s (4096 * a + 64 * b + c) = false) := ihC (fun j hj => by
                  by_cases e : j = 4096 * a + 64 * b + c
                  · rw [e]; exact hn
                  · exact h j (by omega))
                rw [fG_abc hb' hc, hp] at next
                rw [s_113_28]
                cases hq : q b
                · have := ihB (fun j hj => by
                    by_cases e : j < 4096 * a + 64 * b + c
                    · exact h j e
                    · exact fG_q hq (by omega)) (some (.inl (c : Int)))
                  clear ihA ihB ihC hf hg h hQ next
                  simp (disch := omega) only [Option.toList_some, Option.toList_none, List.nil_append, List.cons_append, List.append_nil, true_and, and_true, not_true_eq_false, not_false_eq_true, true_implies, false_implies, implies_true, and_self, Int.reduceLT, Int.reduceLE, Int.reduceEq, Int.reduceNe, Int.reduceAdd, Int.reduceSub, Int.reduceMul, Int.reduceNeg, Int.reduceToNat, Int.toNat_natCast, ↓kk_ck, ↓kk_im, ↓kk_in, s_113_0, s_113_8, s_113_16, s_113_25, s_113_35, s_113_44, s_113_54, s_113_65, s_113_75, s_113_81, s_113_87, s_113_93, s_113_22, s_113_41, s_113_51, s_113_61, s_113_74, a1, k4, hq, vi_bf, vi_inc]
                  exact this
                · cases hr : r c
                  · have := next (by rw [hr, Bool.and_false]; rfl)
                    clear ihA ihB ihC hf hg h hQ next
                    simp (disch := omega) only [Option.toList_some, Option.toList_none, List.nil_append, List.cons_append, List.append_nil, true_and, and_true, not_true_eq_false, not_false_eq_true, true_implies, false_implies, implies_true, and_self, Int.reduceLT, Int.reduceLE, Int.reduceEq, Int.reduceNe, Int.reduceAdd, Int.reduceSub, Int.reduceMul, Int.reduceNeg, Int.reduceToNat, Int.toNat_natCast, ↓kk_ck, ↓kk_im, ↓kk_in, s_113_0, s_113_8, s_113_16, s_113_25, s_113_35, s_113_44, s_113_54, s_113_65, s_113_75, s_113_81, s_113_87, s_113_93, s_113_22, s_113_41, s_113_51, s_113_61, s_113_74, a1, k4, k5, hq, hr, vi_bt, vi_bf, vi_inc]
                    exact this
                  · have k116 := fun {K : Option vi_V → vi_W → Prop} {w : vi_W} => @k_116 d K w a b c ha hb' hc
                    by_cases hs : fSp a + fSp b + fSp c = s
                    · have ei : i = 4096 * a + 64 * b + c := by
                        have g1 : fG p q r s (4096 * a + 64 * b + c) = true := by
                          rw [fG_abc hb' hc, hp, hq, hr, decide_eq_true hs]
                          rfl
                        rcases Nat.lt_trichotomy i (4096 * a + 64 * b + c) with e | e | e
                        · rw [h i e] at hg
                          cases hg
                        · exact e
                        · rw [hf _ e] at g1
                          cases g1
                      rw [show i / 4096 = a by omega, show i / 64 % 64 = b by omega, show i % 64 = c by omega] at hQ
                      clear ihA ihB ihC hf hg h next ei
                      rw [hs] at k116
                      simp (disch := omega) only [Option.toList_some, Option.toList_none, List.nil_append, List.cons_append, List.append_nil, true_and, and_true, not_true_eq_false, not_false_eq_true, true_implies, false_implies, implies_true, and_self, Int.reduceLT, Int.reduceLE, Int.reduceEq, Int.reduceNe, Int.reduceAdd, Int.reduceSub, Int.reduceMul, Int.reduceNeg, Int.reduceToNat, Int.toNat_natCast, ↓kk_ck, ↓kk_im, ↓kk_in, s_113_0, s_113_8, s_113_16, s_113_25, s_113_35, s_113_44, s_113_54, s_113_65, s_113_75, s_113_81, s_113_87, s_113_93, s_113_22, s_113_41, s_113_51, s_113_61, s_113_74, a1, k4, k5, hq, hr, vi_bt, k116, k114, ne_eq]
                      exact hQ
                    · have := next (by rw [decide_eq_false hs, Bool.and_false])
                      clear ihA ihB ihC hf hg h next hQ
                      generalize fSp a + fSp b + fSp c = t at *
                      simp (disch := omega) only [Option.toList_some, Option.toList_none, List.nil_append, List.cons_append, List.append_nil, true_and, and_true, not_true_eq_false, not_false_eq_true, true_implies, false_implies, implies_true, and_self, Int.reduceLT, Int.reduceLE, Int.reduceEq, Int.reduceNe, Int.reduceAdd, Int.reduceSub, Int.reduceMul, Int.reduceNeg, Int.reduceToNat, Int.toNat_natCast, ↓kk_ck, ↓kk_im, ↓kk_in, s_113_0, s_113_8, s_113_16, s_113_25, s_113_35, s_113_44, s_113_54, s_113_65, s_113_75, s_113_81, s_113_87, s_113_93, s_113_22, s_113_41, s_113_51, s_113_61, s_113_74, a1, k4, k5, hq, hr, vi_bt, k116, ne_eq, vi_inc]
                      exact this
            have := loopC 0 (by omega) h
            clear ihA ihB hf hg h hQ
            simp (disch := omega) only [Option.toList_some, Option.toList_none, List.nil_append, List.cons_append, List.append_nil, true_and, and_true, not_true_eq_false, not_false_eq_true, true_implies, false_implies, implies_true, and_self, Int.reduceLT, Int.reduceLE, Int.reduceEq, Int.reduceNe, Int.reduceAdd, Int.reduceSub, Int.reduceMul, Int.reduceNeg, Int.reduceToNat, Int.toNat_natCast, ↓kk_ck, ↓kk_im, ↓kk_in, s_113_0, s_113_8, s_113_16, s_113_25, s_113_35, s_113_44, s_113_54, s_113_65, s_113_75, s_113_81, s_113_87, s_113_93, s_113_22, s_113_41, s_113_51, s_113_61, s_113_74, a1, k3, hp, vi_bt]
            exact this
      intro h o3 o4
      have := loopB 0 (by omega) h o4
      clear ihA hf hg h hQ
      rw [s_113_2]
      simp (disch := omega) only [Option.toList_some, Option.toList_none, List.nil_append, List.cons_append, List.append_nil, true_and, and_true, not_true_eq_false, not_false_eq_true, true_implies, false_implies, implies_true, and_self, Int.reduceLT, Int.reduceLE, Int.reduceEq, Int.reduceNe, Int.reduceAdd, Int.reduceSub, Int.reduceMul, Int.reduceNeg, Int.reduceToNat, Int.toNat_natCast, ↓kk_ck, ↓kk_im, ↓kk_in, s_113_0, s_113_8, s_113_16, s_113_25, s_113_35, s_113_44, s_113_54, s_113_65, s_113_75, s_113_81, s_113_87, s_113_93, s_113_22, s_113_41, s_113_51, s_113_61, s_113_74]
      exact this
  have := loopA 0 (by omega) (fun j hj => by omega) none none
  rw [e_113, s_113_0]
  exact this
end
