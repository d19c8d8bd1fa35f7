/-! A call of the class and the reference's after it: the form, and the plainest queries. -/
def jP (sc : Nat → Int) (ln : Nat) (Y : vi_Y) (M : vi_M) : Prop := Y.1 1 = 11 ∧ Y.2.1 1 = ln ∧ M 1 = sc ∧ Y.1 112 = 32 ∧ Y.1 29 = 31
def jPair (sc : Nat → Int) (ln t D m1 m2 : Nat) (as : List vi_V) (w : vi_W) : Prop := ∀ K : Option vi_V → vi_W → Prop, (∀ (x : vi_V) (w1 : vi_W), jP sc ln w1.1 w1.2.1 → (∀ K2 : Option vi_V → vi_W → Prop, (∀ w2, jInv sc ln (t + 1) w2 → K2 (some x) w2) → vi_call GG D m2 (.inr (.inr 112) :: as) w1 K2) → K (some x) w1) → vi_call GG D m1 (.inr (.inr 29) :: as) w K
theorem jP_of {sc : Nat → Int} {ln : Nat} {Y : vi_Y} {M : vi_M} (h : jA sc ln Y M) : jP sc ln Y M := ⟨h.2.2.2.2.1.1, h.2.2.2.2.1.2.1, h.2.2.2.2.1.2.2, (y_112 h.1 (by omega)).1, h.2.1.1⟩
theorem jS_t {t t' : Nat} {M : vi_M} (h : jS t M) (ht : t ≤ t') : jS t' M := by
  obtain ⟨h1, h2, h3, h4, h5, h6⟩ := h
  exact ⟨h1, h2, h3, fun k k1 k2 => ⟨(h4 k k1 k2).1, by have := (h4 k k1 k2).2; omega⟩, h5, by omega⟩
theorem jW_t {sc : Nat → Int} {ln t t' a : Nat} {CS : Nat → List gCla} {lw : Option (List gCla)} {n : Nat} {Y : vi_Y} {M : vi_M} {nn : Nat × Nat} (h : jW sc ln t a CS lw n Y M nn) (ht : t ≤ t') : jW sc ln t' a CS lw n Y M nn := by
  obtain ⟨h1, h2, ⟨h3, h4, h5⟩, h6, h7, h8, h9, h10⟩ := h
  exact ⟨h1, h2, ⟨h3, by omega, by omega⟩, h6, h7, h8, jS_t h9 ht, h10⟩
section
variable {sc : Nat → Int} {ln t a n d : Nat} {CS : Nat → List gCla} {lw : Option (List gCla)} {Y : vi_Y} {M : vi_M} {nn : Nat × Nat} {K : Option vi_V → vi_W → Prop}
theorem jPair_q {D m1 m2 : Nat} {as : List vi_V} (hW : jW sc ln t a CS lw n Y M nn) (h : ∀ K : Option vi_V → vi_W → Prop, (∀ (x : vi_V) (M1 : vi_M), jW sc ln t a CS lw n Y M1 nn → (∀ K2 : Option vi_V → vi_W → Prop, (∀ M2, jW sc ln t a CS lw n Y M2 nn → K2 (some x) (Y, M2, nn)) → vi_call GG D m2 (.inr (.inr 112) :: as) (Y, M1, nn) K2) → K (some x) (Y, M1, nn)) → vi_call GG D m1 (.inr (.inr 29) :: as) (Y, M, nn) K) : jPair sc ln t D m1 m2 as (Y, M, nn) := by
  intro K hK
  refine h K fun x M1 h1 h2 => hK x (Y, M1, nn) (jP_of h1.1) fun K2 hK2 => h2 K2 fun M2 hM2 => hK2 (Y, M2, nn) ⟨a, CS, lw, n, jW_t hM2 (by omega)⟩
theorem k_196 (h9 : kY9 Y) : vi_call GG (d + 70) 196 [.inr (.inr 29)] (Y, M, nn) K ↔ K (some (.inl (M 29 12))) (Y, M, nn) := by
  refine vi_k (r := some (.inl _)) fun Q hQ => ?_
  simp (disch := omega) only [Option.toList_some, Option.toList_none, List.nil_append, List.cons_append, List.append_nil, true_and, and_true, not_true_eq_false, not_false_eq_true, true_implies, false_implies, implies_true, and_self, Int.reduceLT, Int.reduceLE, Int.reduceEq, Int.reduceNe, Int.reduceAdd, Int.reduceSub, Int.reduceMul, Int.reduceNeg, Int.reduceToNat, Int.toNat_natCast, ↓kk_ck, ↓kk_im, ↓kk_in, e_196, s_196_0, s_196_4, (y_29 h9).1]
  exact hQ
theorem k_226 (h9 : kY9 Y) : vi_call GG (d + 70) 226 [.inr (.inr 29)] (Y, M, nn) K ↔ K (some (.inl (M 29 11))) (Y, M, nn) := by
  refine vi_k (r := some (.inl _)) fun Q hQ => ?_
  simp (disch := omega) only [Option.toList_some, Option.toList_none, List.nil_append, List.cons_append, List.append_nil, true_and, and_true, not_true_eq_false, not_false_eq_true, true_implies, false_implies, implies_true, and_self, Int.reduceLT, Int.reduceLE, Int.reduceEq, Int.reduceNe, Int.reduceAdd, Int.reduceSub, Int.reduceMul, Int.reduceNeg, Int.reduceToNat, Int.toNat_natCast, ↓kk_ck, ↓kk_im, ↓kk_in, e_226, s_226_0, s_226_4, (y_29 h9).1]
  exact hQ
theorem k_198 (hY : kY Y 151) (h9 : kY9 Y) : vi_call GG (d + 70) 198 [.inr (.inr 29)] (Y, M, nn) K ↔ K (some (.inl (M 73 7))) (Y, M, nn) := by
  obtain ⟨a1, a2, a3, a4, a5, a6, a7, a8, a9, a10, a11, a12⟩ := y_29 h9
  obtain ⟨b1, -⟩ := y_73 hY (by omega)
  refine vi_k (r := some (.inl _)) fun Q hQ => ?_
  simp (disch := omega) only [Option.toList_some, Option.toList_none, List.nil_append, List.cons_append, List.append_nil, true_and, and_true, not_true_eq_false, not_false_eq_true, true_implies, false_implies, implies_true, and_self, Int.reduceLT, Int.reduceLE, Int.reduceEq, Int.reduceNe, Int.reduceAdd, Int.reduceSub, Int.reduceMul, Int.reduceNeg, Int.reduceToNat, Int.toNat_natCast, ↓kk_ck, ↓kk_im, ↓kk_in, e_198, s_198_0, s_198_4, s_198_7, a1, a6, b1, @k_121 (d + 69) _ Y M nn hY (by omega)]
  exact hQ
theorem k_222 (hY : kY Y 151) (h9 : kY9 Y) {m : Nat} (hm : M 77 9 = (m : Int)) (h60 : m ≤ 60) {i : Int} : vi_call GG (d + 70) 222 [.inr (.inr 29), .inl i] (Y, M, nn) K ↔ K (some (.inl (if 0 ≤ i ∧ i < (m : Int) then M 79 i.toNat else -1))) (Y, M, nn) := by
  obtain ⟨a1, a2, a3, a4, a5, a6, a7, a8, a9, a10, a11, a12⟩ := y_29 h9
  obtain ⟨b1, -⟩ := y_77 hY (by omega)
  refine vi_k (r := some (.inl _)) fun Q hQ => ?_
  simp (disch := omega) only [Option.toList_some, Option.toList_none, List.nil_append, List.cons_append, List.append_nil, true_and, and_true, not_true_eq_false, not_false_eq_true, true_implies, false_implies, implies_true, and_self, Int.reduceLT, Int.reduceLE, Int.reduceEq, Int.reduceNe, Int.reduceAdd, Int.reduceSub, Int.reduceMul, Int.reduceNeg, Int.reduceToNat, Int.toNat_natCast, ↓kk_ck, ↓kk_im, ↓kk_in, e_222, s_222_0, s_222_4, s_222_8, a1, a7, b1, k_84 hY hm h60]
  exact hQ
theorem p_196 (hW : jW sc ln t a CS lw n Y M nn) : jPair sc ln t (d + 70) 196 257 [] (Y, M, nn) := by
  refine jPair_q hW fun K hK => ?_
  rw [k_196 hW.1.2.1]
  refine hK _ M hW fun K2 h2 => ?_
  rw [k_257 hW.1.1 (by omega), ← hW.2.2.2.2.2.2.1.2.1]
  exact h2 M hW
theorem p_226 (hW : jW sc ln t a CS lw n Y M nn) : jPair sc ln t (d + 70) 226 355 [] (Y, M, nn) := by
  refine jPair_q hW fun K hK => ?_
  rw [k_226 hW.1.2.1]
  refine hK _ M hW fun K2 h2 => ?_
  rw [k_355 hW.1.1 (by omega), ← hW.2.2.2.2.2.2.1.1]
  exact h2 M hW
theorem p_198 (hW : jW sc ln t a CS lw n Y M nn) : jPair sc ln t (d + 70) 198 279 [] (Y, M, nn) := by
  refine jPair_q hW fun K hK => ?_
  obtain ⟨m, t1, t2, t3, t4, t5, t6⟩ := hW.2.2.2.2.2.1
  rw [k_198 hW.1.1 hW.1.2.1]
  refine hK _ M hW fun K2 h2 => ?_
  rw [k_279 hW.1.1 (by omega), ← t6]
  exact h2 M hW
theorem p_222 (hW : jW sc ln t a CS lw n Y M nn) {i : Int} : jPair sc ln t (d + 70) 222 353 [.inl i] (Y, M, nn) := by
  refine jPair_q hW fun K hK => ?_
  obtain ⟨m, d1, d2, d3, d4⟩ := hW.2.2.2.2.2.2.2.1
  rw [k_222 hW.1.1 hW.1.2.1 d2 d1]
  refine hK _ M hW fun K2 h2 => ?_
  rw [k_353 hW.1.1 d1 d3 (by omega)]
  have e : (if 0 ≤ i ∧ i < (m : Int) then M 79 i.toNat else -1) = (if 0 ≤ i ∧ i < (m : Int) then M 150 i.toNat else -1) := by
    by_cases h : 0 ≤ i ∧ i < (m : Int)
    · rw [if_pos h, if_pos h]; exact d4 _ (by omega)
    · rw [if_neg h, if_neg h]
  rw [e] at h2
  exact h2 M hW
end
