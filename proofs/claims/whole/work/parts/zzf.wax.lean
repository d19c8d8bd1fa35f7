/-! Pairs: wax, judge, pieces. -/
theorem gE_b {p s : Int} : ∃ a : Nat, a < 4 ∧ gE p s = (a : Int) ∧ (a % 2 = 1 ↔ p = 0) ∧ (a / 2 = 1 ↔ p = s - 1) := by
  unfold gE
  by_cases h1 : p = 0
  · by_cases h2 : p = s - 1
    · exact ⟨3, by omega, by rw [if_pos h1, if_pos h2]; rfl, ⟨fun _ => h1, fun _ => rfl⟩, ⟨fun _ => h2, fun _ => rfl⟩⟩
    · exact ⟨1, by omega, by rw [if_pos h1, if_neg h2]; rfl, ⟨fun _ => h1, fun _ => rfl⟩, ⟨fun h => absurd h (by decide), fun h => absurd h h2⟩⟩
  · by_cases h2 : p = s - 1
    · exact ⟨2, by omega, by rw [if_neg h1, if_pos h2]; rfl, ⟨fun h => absurd h (by decide), fun h => absurd h h1⟩, ⟨fun _ => h2, fun _ => rfl⟩⟩
    · exact ⟨0, by omega, by rw [if_neg h1, if_neg h2]; rfl, ⟨fun h => absurd h (by decide), fun h => absurd h h1⟩, ⟨fun h => absurd h (by decide), fun h => absurd h h2⟩⟩
theorem bC_6 : ∀ z, z < 64 → bC z = sN 6 (fun i => z.testBit i) := by decide
theorem bt_6 : ∀ a : Nat, a < 4 → ∀ b : Nat, b < 4 → ∀ e : Nat, e < 4 → (a + 4 * b + 16 * e).testBit 0 = decide (a % 2 = 1) ∧ (a + 4 * b + 16 * e).testBit 1 = decide (a / 2 = 1) ∧ (a + 4 * b + 16 * e).testBit 2 = decide (b % 2 = 1) ∧ (a + 4 * b + 16 * e).testBit 3 = decide (b / 2 = 1) ∧ (a + 4 * b + 16 * e).testBit 4 = decide (e % 2 = 1) ∧ (a + 4 * b + 16 * e).testBit 5 = decide (e / 2 = 1) := by decide
/-- where a CELL of the box has no neighbour -/
theorem mBe_n {f : Nat → Int} {c : Nat} (hc : mIcb f (c : Int) = true) : (mBe (rowM f) (c : Int) 0 = -1 ↔ (c : Int) % 6 = 0) ∧ (mBe (rowM f) (c : Int) 1 = -1 ↔ (c : Int) % 6 = f 96 - 1) ∧ (mBe (rowM f) (c : Int) 2 = -1 ↔ (c : Int) / 6 % 6 = 0) ∧ (mBe (rowM f) (c : Int) 3 = -1 ↔ (c : Int) / 6 % 6 = f 97 - 1) ∧ (mBe (rowM f) (c : Int) 4 = -1 ↔ (c : Int) / 36 = 0) ∧ (mBe (rowM f) (c : Int) 5 = -1 ↔ (c : Int) / 36 = f 98 - 1) := by
  have hc := of_decide_eq_true hc
  refine ⟨?_, ?_, ?_, ?_, ?_, ?_⟩
  · show (if (c : Int) % 6 = 0 then (-1 : Int) else (c : Int) - 1) = -1 ↔ _
    split <;> omega
  · show (if f 96 ≤ (c : Int) % 6 + 1 then (-1 : Int) else (c : Int) + 1) = -1 ↔ _
    split <;> omega
  · show (if (c : Int) / 6 % 6 = 0 then (-1 : Int) else (c : Int) - 6) = -1 ↔ _
    split <;> omega
  · show (if f 97 ≤ (c : Int) / 6 % 6 + 1 then (-1 : Int) else (c : Int) + 6) = -1 ↔ _
    split <;> omega
  · show (if (c : Int) / 36 = 0 then (-1 : Int) else (c : Int) - 36) = -1 ↔ _
    split <;> omega
  · show (if f 98 ≤ (c : Int) / 36 + 1 then (-1 : Int) else (c : Int) + 36) = -1 ↔ _
    split <;> omega
theorem red_eq {f : Nat → Int} {c x : Nat} (hc : mIcb f (c : Int) = true) (hx : x < 64) : (bC ((gSd (f 96) (f 97) (f 98) (c : Int)).toNat &&& x) : Int) = mRe (rowM f) (c : Int) x 6 := by
  obtain ⟨n0, n1, n2, n3, n4, n5⟩ := mBe_n hc
  obtain ⟨a, a1, a2, a3, a4⟩ := @gE_b ((c : Int) % 6) (f 96)
  obtain ⟨b, b1, b2, b3, b4⟩ := @gE_b ((c : Int) / 6 % 6) (f 97)
  obtain ⟨e, d1, d2, d3, d4⟩ := @gE_b ((c : Int) / 36) (f 98)
  have eg : gSd (f 96) (f 97) (f 98) (c : Int) = ((a + 4 * b + 16 * e : Nat) : Int) := by unfold gSd; rw [a2, b2, d2]; omega
  obtain ⟨t0, t1, t2, t3, t4, t5⟩ := bt_6 a a1 b b1 e d1
  rw [eg, Int.toNat_natCast, bC_6 _ (Nat.lt_of_le_of_lt Nat.and_le_right hx)]
  have m := fun (d : Nat) (_ : d < 6) => @mBt_b x d
  have k : ∀ d, d < 6 → ∀ q : Prop, [Decidable q] → (a + 4 * b + 16 * e).testBit d = decide q → (mBe (rowM f) (c : Int) d = -1 ↔ q) → ((((a + 4 * b + 16 * e) &&& x).testBit d).toNat : Int) = (if mBt x d = 1 ∧ mBe (rowM f) (c : Int) d = -1 then 1 else 0) := by
    intro d hd q _ h1 h2
    rw [Nat.testBit_and, h1, m d hd]
    by_cases hq : q
    · rw [decide_eq_true hq, Bool.true_and]
      cases x.testBit d
      · rw [if_neg (fun h => absurd h.1 (by decide))]; rfl
      · rw [if_pos ⟨rfl, h2.mpr hq⟩]; rfl
    · rw [decide_eq_false hq, Bool.false_and, if_neg (fun h => hq (h2.mp h.2))]; rfl
  have k0 := k 0 (by omega) _ t0 (n0.trans a3.symm)
  have k1 := k 1 (by omega) _ t1 (n1.trans a4.symm)
  have k2 := k 2 (by omega) _ t2 (n2.trans b3.symm)
  have k3 := k 3 (by omega) _ t3 (n3.trans b4.symm)
  have k4 := k 4 (by omega) _ t4 (n4.trans d3.symm)
  have k5 := k 5 (by omega) _ t5 (n5.trans d4.symm)
  rw [mRe, mRe, mRe, mRe, mRe, mRe, mRe, ← k0, ← k1, ← k2, ← k3, ← k4, ← k5]
  have e6 : ∀ g : Nat → Bool, ((sN 6 g : Nat) : Int) = 0 + ((g 0).toNat : Int) + ((g 1).toNat : Int) + ((g 2).toNat : Int) + ((g 3).toNat : Int) + ((g 4).toNat : Int) + ((g 5).toNat : Int) := fun g => by
    show ((0 + (g 0).toNat + (g 1).toNat + (g 2).toNat + (g 3).toNat + (g 4).toNat + (g 5).toNat : Nat) : Int) = _
    omega
  exact e6 _
theorem mRe_c {M M' : vi_M} (h : M' 114 = M 114) {c : Int} {x : Nat} : ∀ d : Nat, mRe M' c x d = mRe M c x d
  | 0 => rfl
  | d + 1 => by rw [mRe, mRe, mRe_c h d, mBe_c h]
def wxN (f : Nat → Int) (S : Nat → Bool) (x m : Nat) : Nat := sN 216 (fun c => S c && decide (bC ((gSd (f 96) (f 97) (f 98) (c : Int)).toNat &&& x) = m))
theorem mWx_s {M : vi_M} {S : Nat → Bool} (hg : ∀ c, c < 216 → M 126 c = vi_b (S c)) (hS : ∀ c, S c = true → bxS (M 114) c = true) {x m : Nat} (hx : x < 64) : ∀ k, k ≤ 216 → mWx M x (m : Int) k = (sN k (fun c => S c && decide (bC ((gSd (M 114 96) (M 114 97) (M 114 98) (c : Int)).toNat &&& x) = m)) : Int) := by
  intro k
  induction k with
  | zero => intro _; rfl
  | succ k ih =>
    intro hk
    rw [mWx, ih (by omega), sN_s, hg k (by omega), Int.natCast_add]
    cases h : S k
    · rw [if_neg (fun q => q.1 rfl)]; rfl
    · rw [Bool.true_and, mRe_c (M := rowM (M 114)) (M' := M) rfl, ← red_eq (hS k h) hx]
      by_cases e : bC ((gSd (M 114 96) (M 114 97) (M 114 98) (k : Int)).toNat &&& x) = m
      · rw [if_pos ⟨by decide, by rw [e]⟩, decide_eq_true e]; rfl
      · rw [if_neg (fun q => e (by have := q.2; omega)), decide_eq_false e]; rfl
section
variable {sc : Nat → Int} {ln t a n d : Nat} {CS : Nat → List gCla} {lw : Option (List gCla)} {Y : vi_Y} {M : vi_M} {nn : Nat × Nat} {K : Option vi_V → vi_W → Prop}
theorem k_207 (hY : kY Y 151) (h9 : kY9 Y) {f : Nat → Int} (hs : rSz f (M 30)) (hV : jV M f lw n) {x v : Int} : vi_call GG (d + 70) 207 [.inr (.inr 29), .inl x, .inl v] (Y, M, nn) K ↔ K (some (.inl (if 0 ≤ x ∧ x ≤ 63 ∧ 0 ≤ v ∧ v ≤ 6 then (wxN f (lfS f lw n) x.toNat v.toNat : Int) else -1))) (Y, M, nn) := by
  obtain ⟨a1, a2, a3, a4, a5, a6, a7, a8, a9, a10, a11, a12⟩ := y_29 h9
  obtain ⟨c1, -⟩ := y_60 hY (by omega)
  have k232 := fun {K : Option vi_V → vi_W → Prop} => @k_232 (d + 68) K x v (Y, M, nn)
  simp only [Nat.add_assoc, Nat.reduceAdd] at k232
  refine vi_k (r := some (.inl _)) fun Q hQ => ?_
  by_cases h : 0 ≤ x ∧ x ≤ 63 ∧ 0 ≤ v ∧ v ≤ 6
  · rw [if_pos h] at hQ
    rw [decide_eq_true h] at k232
    obtain ⟨y, rfl⟩ : ∃ y : Nat, x = (y : Int) := ⟨x.toNat, by omega⟩
    obtain ⟨m, rfl⟩ : ∃ m : Nat, v = (m : Int) := ⟨v.toNat, by omega⟩
    rw [Int.toNat_natCast, Int.toNat_natCast] at hQ
    have hb : gB (M 30 8) (M 30 9) (M 30 10) := by rw [hs.1, hs.2.1, hs.2.2.1]; exact hs.2.2.2.2.1
    have k34 := fun {K : Option vi_V → vi_W → Prop} => @k_34 (d + 65) K Y M nn _ (kY_le hY (show 73 ≤ 151 by omega)) hb hV.2.2.2.1 y m (by omega)
    rw [hs.1, hs.2.1, hs.2.2.1] at k34
    simp only [Nat.add_assoc, Nat.reduceAdd] at k34
    unfold wxN at hQ
    clear hs hV hb
    simp (disch := omega) only [Option.toList_some, Option.toList_none, List.nil_append, List.cons_append, List.append_nil, true_and, and_true, not_true_eq_false, not_false_eq_true, true_implies, false_implies, implies_true, and_self, Int.reduceLT, Int.reduceLE, Int.reduceEq, Int.reduceNe, Int.reduceAdd, Int.reduceSub, Int.reduceMul, Int.reduceNeg, Int.reduceToNat, Int.toNat_natCast, ↓kk_ck, ↓kk_im, ↓kk_in, e_207, s_207_0, s_207_8, s_207_20, s_207_21, s_207_5, s_207_12, s_207_17, a1, a5, c1, k232, k34, vi_bt, vi_bf, ne_eq]
    exact hQ
  · rw [if_neg h] at hQ
    rw [decide_eq_false h] at k232
    clear hs hV
    simp (disch := omega) only [Option.toList_some, Option.toList_none, List.nil_append, List.cons_append, List.append_nil, true_and, and_true, not_true_eq_false, not_false_eq_true, true_implies, false_implies, implies_true, and_self, Int.reduceLT, Int.reduceLE, Int.reduceEq, Int.reduceNe, Int.reduceAdd, Int.reduceSub, Int.reduceMul, Int.reduceNeg, Int.reduceToNat, Int.toNat_natCast, ↓kk_ck, ↓kk_im, ↓kk_in, e_207, s_207_0, s_207_8, s_207_20, s_207_21, s_207_5, s_207_12, s_207_17, k232, vi_bt, vi_bf, ne_eq]
    exact hQ
theorem p_207 (hW : jW sc ln t a CS lw n Y M nn) {x v : Int} : jPair sc ln t (d + 70) 207 307 [.inl x, .inl v] (Y, M, nn) := by
  refine jPair_q hW fun K hK => ?_
  obtain ⟨LH, LR, LS, c1, c2, c3, c4⟩ := hW.2.2.2.1
  rw [k_207 hW.1.1 hW.1.2.1 c1.2.2.2.2.2.2.1 c4]
  refine hK _ M hW fun K2 h2 => ?_
  by_cases h : 0 ≤ x ∧ x ≤ 63 ∧ 0 ≤ v ∧ v ≤ 6
  · obtain ⟨y, rfl⟩ : ∃ y : Nat, x = (y : Int) := ⟨x.toNat, by omega⟩
    obtain ⟨m, rfl⟩ : ∃ m : Nat, v = (m : Int) := ⟨v.toNat, by omega⟩
    rw [if_pos h, Int.toNat_natCast, Int.toNat_natCast] at h2
    refine k_307 hW.1.1 hW.2.2.2.2.1.1 (by omega) (by omega) (by omega) fun M' hs hf => ?_
    have e' := mFr_114 hf
    have hl := see_l hs rfl
    rw [e'] at hl
    rw [mWx_s (S := lfS (M 114) lw n) hl (fun c h => by rw [e']; exact lfS_b h) (by omega) 216 (Nat.le_refl _), e']
    exact h2 M' (jW_x hW (mFx_of hf) hs)
  · rw [if_neg h] at h2
    rw [k_307n hW.1.1 h (by omega)]
    exact h2 M hW
end
