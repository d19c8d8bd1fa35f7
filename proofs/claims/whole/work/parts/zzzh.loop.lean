/-! PRINTED BY gen/lw.py: the loop of law. -/
theorem swp_i {x k : Int} {u t : Nat} {r : List (Int × Nat)} {P : Nat → Prop} (h1 : P u) (h2 : vi_swp x r t P) : vi_swp x ((k, u) :: r) t P := by
  unfold vi_swp
  first
    | exact ⟨fun _ => h1, fun _ => h2⟩
    | (split <;> assumption)
theorem swp_d {x : Int} {t : Nat} {P : Nat → Prop} (h : P t) : vi_swp x [] t P := by
  unfold vi_swp
  exact h
section
variable {sc : Nat → Int} {ln d : Nat} {Q : Option vi_V → vi_W → Prop}
theorem law_l (hln : ln ≤ 3584) (hsc : ∀ j, j < ln → -2147483648 ≤ sc j ∧ sc j < 2147483648) (hQ : ∀ w, w.2.2.1 ≤ 6000 → w.2.2.2 ≤ 1800000 → Q (some (.inl 1)) w) : ∀ (N i t : Nat) (w : vi_W), ln ≤ i + 7 * N → i ≤ 3600 → 7 * t ≤ i → jInv sc ln t w → vi_ok GG (d + 70) 0 18 [some (.inr (.inr 1)), some (.inr (.inr 29)), some (.inr (.inr 112)), some (.inl (i : Int))] [] w Q := by
  intro N
  induction N with
  | zero =>
    intro i t w hN hi ht hI
    obtain ⟨Y, M, nn⟩ := w
    obtain ⟨a, CS, lw, n, hW⟩ := hI
    have hW : jW sc ln t a CS lw n Y M nn := hW
    obtain ⟨h1, h2, h3, h4, h5⟩ := jP_of hW.1
    have := hQ (Y, M, nn) (by show nn.1 ≤ 6000; have := hW.2.2.1; omega) (by show nn.2 ≤ 1800000; have := hW.2.2.1; omega)
    clear hW
    simp (disch := omega) only [Option.toList_some, Option.toList_none, List.nil_append, List.cons_append, List.append_nil, true_and, and_true, not_true_eq_false, not_false_eq_true, true_implies, false_implies, implies_true, and_self, Int.reduceLT, Int.reduceLE, Int.reduceEq, Int.reduceNe, Int.reduceAdd, Int.reduceSub, Int.reduceMul, Int.reduceNeg, Int.reduceToNat, Int.toNat_natCast, ↓kk_ck, ↓kk_im, ↓kk_in, s_0_18, s_0_21, s_0_24, s_0_1394, h1, h2, @vi_32 ((ln : Int) - 7) (by omega) (by omega)]
    exact this
  | succ N ih =>
    intro i t w hN hi7 ht7 hI
    by_cases hi : i + 7 ≤ ln
    · have ht : t < 1000 := by omega
      have hih : ∀ w, jInv sc ln (t + 1) w → vi_ok GG (d + 70) 0 18 [some (.inr (.inr 1)), some (.inr (.inr 29)), some (.inr (.inr 112)), some (.inl ((i + 7 : Nat) : Int))] [] w Q := fun w hw => ih (i + 7) (t + 1) w (by omega) (by omega) (by omega) hw
      obtain ⟨Y, M, nn⟩ := w
      have hln : ln ≤ 100000 := by omega
      have hd : vi_ok GG (d + 70) 0 1388 [some (.inr (.inr 1)), some (.inr (.inr 29)), some (.inr (.inr 112)), some (.inl (i : Int))] [] (Y, M, nn) Q := by
        rw [s_0_1388, @vi_32 ((i : Int) + 7) (by omega) (by omega)]
        exact ih (i + 7) t _ (by omega) (by omega) (by omega) hI
      have main : vi_ok GG (d + 70) 0 33 [some (.inr (.inr 1)), some (.inr (.inr 29)), some (.inr (.inr 112)), some (.inl (i : Int))] [.inl (vi_and32 (sc i) 63)] (Y, M, nn) Q := by
        rw [s_0_33]
        exact swp_i (c_0_200 hI ht hi hln hsc hih) (swp_i (c_0_275 hI ht hi hln hsc hih) (swp_i (c_0_298 hI ht hi hln hsc hih) (swp_i (c_0_331 hI ht hi hln hsc hih) (swp_i (c_0_364 hI ht hi hln hsc hih) (swp_i (c_0_427 hI ht hi hln hsc hih) (swp_i (c_0_450 hI ht hi hln hsc hih) (swp_i (c_0_463 hI ht hi hln hsc hih) (swp_i (c_0_476 hI ht hi hln hsc hih) (swp_i (c_0_489 hI ht hi hln hsc hih) (swp_i (c_0_502 hI ht hi hln hsc hih) (swp_i (c_0_525 hI ht hi hln hsc hih) (swp_i (c_0_558 hI ht hi hln hsc hih) (swp_i (c_0_581 hI ht hi hln hsc hih) (swp_i (c_0_624 hI ht hi hln hsc hih) (swp_i (c_0_668 hI ht hi hln hsc hih) (swp_i (c_0_721 hI ht hi hln hsc hih) (swp_i (c_0_734 hI ht hi hln hsc hih) (swp_i (c_0_747 hI ht hi hln hsc hih) (swp_i (c_0_780 hI ht hi hln hsc hih) (swp_i (c_0_844 hI ht hi hln hsc hih) (swp_i (c_0_877 hI ht hi hln hsc hih) (swp_i (c_0_920 hI ht hi hln hsc hih) (swp_i (c_0_973 hI ht hi hln hsc hih) (swp_i (c_0_996 hI ht hi hln hsc hih) (swp_i (c_0_1019 hI ht hi hln hsc hih) (swp_i (c_0_1042 hI ht hi hln hsc hih) (swp_i (c_0_1105 hI ht hi hln hsc hih) (swp_i (c_0_1118 hI ht hi hln hsc hih) (swp_i (c_0_1141 hI ht hi hln hsc hih) (swp_i (c_0_1184 hI ht hi hln hsc hih) (swp_i (c_0_1207 hI ht hi hln hsc hih) (swp_i (c_0_1250 hI ht hi hln hsc hih) (swp_i (c_0_1283 hI ht hi hln hsc hih) (swp_i (c_0_1306 hI ht hi hln hsc hih) (swp_i (c_0_1329 hI ht hi hln hsc hih) (swp_i (c_0_1352 hI ht hi hln hsc hih) (swp_i (c_0_1375 hI ht hi hln hsc hih) (swp_d hd))))))))))))))))))))))))))))))))))))))
      obtain ⟨a, CS, lw, n, hW⟩ := hI
      have hW : jW sc ln t a CS lw n Y M nn := hW
      obtain ⟨h1, h2, h3, h4, h5⟩ := jP_of hW.1
      clear hW hih hd ih
      simp (disch := omega) only [Option.toList_some, Option.toList_none, List.nil_append, List.cons_append, List.append_nil, true_and, and_true, not_true_eq_false, not_false_eq_true, true_implies, false_implies, implies_true, and_self, Int.reduceLT, Int.reduceLE, Int.reduceEq, Int.reduceNe, Int.reduceAdd, Int.reduceSub, Int.reduceMul, Int.reduceNeg, Int.reduceToNat, Int.toNat_natCast, ↓kk_ck, ↓kk_im, ↓kk_in, s_0_18, s_0_21, s_0_24, s_0_27, s_0_30, h1, h2, h3, @vi_32 ((ln : Int) - 7) (by omega) (by omega), Int.toNat_natCast]
      exact main
    · obtain ⟨Y, M, nn⟩ := w
      obtain ⟨a, CS, lw, n, hW⟩ := hI
      have hW : jW sc ln t a CS lw n Y M nn := hW
      obtain ⟨h1, h2, h3, h4, h5⟩ := jP_of hW.1
      have := hQ (Y, M, nn) (by show nn.1 ≤ 6000; have := hW.2.2.1; omega) (by show nn.2 ≤ 1800000; have := hW.2.2.1; omega)
      clear hW ih
      simp (disch := omega) only [Option.toList_some, Option.toList_none, List.nil_append, List.cons_append, List.append_nil, true_and, and_true, not_true_eq_false, not_false_eq_true, true_implies, false_implies, implies_true, and_self, Int.reduceLT, Int.reduceLE, Int.reduceEq, Int.reduceNe, Int.reduceAdd, Int.reduceSub, Int.reduceMul, Int.reduceNeg, Int.reduceToNat, Int.toNat_natCast, ↓kk_ck, ↓kk_im, ↓kk_in, s_0_18, s_0_21, s_0_24, s_0_1394, h1, h2, @vi_32 ((ln : Int) - 7) (by omega) (by omega)]
      exact this
end
