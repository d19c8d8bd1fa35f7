/-! Contracts of Cells: its row is cR of a set. -/
def kC (Y : vi_Y) (q : Nat) : Prop := Y.1 q = 20 ∧ (Y.2.2 q 0).toNat = q + 1 ∧ Y.1 (q + 1) = 2 ∧ (Y.2.1 (q + 1) : Int) = 6
/-- the lowest one from i on, of k; else -1 -/
def sMn : Nat → Nat → (Nat → Bool) → Int
  | 0, _, _ => -1
  | k + 1, i, S => if S i = true then (i : Int) else sMn k (i + 1) S
theorem sMn_e : ∀ {k i : Nat} {S : Nat → Bool}, (∀ j, i ≤ j → j < i + k → S j = false) → sMn k i S = -1
  | 0, _, _, _ => rfl
  | k + 1, i, S, h => by
    rw [sMn, h i (by omega) (by omega)]
    simp
    exact sMn_e fun j h1 h2 => h j (by omega) (by omega)
theorem sMn_f : ∀ {k i : Nat} {S : Nat → Bool} {j : Nat}, i ≤ j → j < i + k → S j = true → (∀ l, i ≤ l → l < j → S l = false) → sMn k i S = (j : Int)
  | 0, i, S, j, h1, h2, _, _ => by omega
  | k + 1, i, S, j, h1, h2, h3, h4 => by
    rw [sMn]
    by_cases e : i = j
    · subst e; rw [if_pos h3]
    · rw [if_neg (by rw [h4 i (by omega) (by omega)]; simp)]
      exact sMn_f (by omega) (by omega) h3 (fun l a b => h4 l (by omega) b)
theorem sMn_add (a b i : Nat) (S : Nat → Bool) (h : ∀ j, i ≤ j → j < i + a → S j = false) : sMn (a + b) i S = sMn b (i + a) S := by
  induction a generalizing i with
  | zero => simp
  | succ a ih =>
    rw [show a + 1 + b = (a + b) + 1 by omega, sMn, h i (by omega) (by omega)]
    simp
    rw [ih (i + 1) (fun j h1 h2 => h j (by omega) (by omega)), show i + 1 + a = i + (a + 1) by omega]
def sHas (S : Nat → Bool) (c : Int) : Bool := decide (0 ≤ c ∧ c < 216) && S c.toNat
def sPut (S : Nat → Bool) (c : Int) : Nat → Bool := fun i => S i || decide ((i : Int) = c)
def sDrp (S : Nat → Bool) (c : Int) : Nat → Bool := fun i => S i && ! decide ((i : Int) = c)
def sDif (S T : Nat → Bool) : Nat → Bool := fun i => S i && ! T i
def sLn (a u v : Int) (i : Nat) : Bool := if a = 0 then decide (((i / 6 % 6 : Nat) : Int) = u ∧ ((i / 36 : Nat) : Int) = v) else if a = 1 then decide (((i % 6 : Nat) : Int) = u ∧ ((i / 36 : Nat) : Int) = v) else decide (((i % 6 : Nat) : Int) = u ∧ ((i / 6 % 6 : Nat) : Int) = v)
def sInn (S : Nat → Bool) : Nat → Bool := fun c => S c && sXl S c && sXh S c && sYl S c && sYh S c && sZl S c && sZh S c
def sBox (a b c : Int) : Nat → Bool := fun i => decide (((i % 6 : Nat) : Int) < a ∧ ((i / 6 % 6 : Nat) : Int) < b ∧ ((i / 36 : Nat) : Int) < c)
def sLo (S : Nat → Bool) : Int := sMn 216 0 S
def sE (S : Nat → Bool) : Bool := decide (sN 216 S = 0)
theorem sE_iff {S : Nat → Bool} : sE S = true ↔ ∀ i, i < 216 → S i = false := by
  unfold sE
  rw [decide_eq_true_iff, sN_0]
def sOr : Nat → (Nat → Bool) → Bool
  | 0, _ => false
  | k + 1, f => sOr k f || f k
theorem sOr_iff {k : Nat} {f : Nat → Bool} : sOr k f = true ↔ ∃ j, j < k ∧ f j = true := by
  induction k with
  | zero => simp [sOr]
  | succ k ih =>
    rw [sOr, Bool.or_eq_true, ih]
    constructor
    · rintro (⟨j, h, h'⟩ | h)
      · exact ⟨j, by omega, h'⟩
      · exact ⟨k, by omega, h⟩
    · rintro ⟨j, h, h'⟩
      by_cases e : j = k
      · subst e; exact .inr h'
      · exact .inl ⟨j, by omega, h'⟩
section
variable {d q q1 q2 : Nat} {K : Option vi_V → vi_W → Prop} {Y : vi_Y} {M : vi_M} {n : Nat × Nat} {S S1 S2 : Nat → Bool}
theorem k_19 (hq : kC Y q) (hS : M (q + 1) = cR S) {x : Int} : vi_call GG (d + 1) 19 [.inr (.inr q), .inl x] (Y, M, n) K ↔ K (some (.inr (.inl (cZ S x).toInt))) (Y, M, n) := by
  obtain ⟨h1, h2, h3, h4⟩ := hq
  refine vi_k (r := some (.inr (.inl (cZ S x).toInt))) fun Q hQ => ?_
  unfold cZ at hQ
  by_cases hx : 0 ≤ x ∧ x < 6
  · rw [if_pos hx, ← cR_n (by omega), ← hS] at hQ
    simp (disch := omega) only [Option.toList_some, Option.toList_none, List.nil_append, List.cons_append, List.append_nil, true_and, and_true, not_true_eq_false, not_false_eq_true, true_implies, false_implies, implies_true, and_self, Int.reduceLT, Int.reduceLE, Int.reduceEq, Int.reduceNe, Int.reduceAdd, Int.reduceSub, Int.reduceMul, Int.reduceNeg, Int.reduceToNat, Int.toNat_natCast, ↓kk_ck, ↓kk_im, ↓kk_in, e_19, s_19_0, s_19_4, s_19_13, s_19_22, s_19_23, s_19_9, s_19_17, s_19_10, s_19_19, h1, h2, h3, h4, hx.1, hx.2]
    exact hQ
  · rw [if_neg hx] at hQ
    simp +contextual (disch := omega) only [Option.toList_some, Option.toList_none, List.nil_append, List.cons_append, List.append_nil, true_and, and_true, not_true_eq_false, not_false_eq_true, true_implies, false_implies, implies_true, and_self, Int.reduceLT, Int.reduceLE, Int.reduceEq, Int.reduceNe, Int.reduceAdd, Int.reduceSub, Int.reduceMul, Int.reduceNeg, Int.reduceToNat, Int.toNat_natCast, ↓kk_ck, ↓kk_im, ↓kk_in, e_19, s_19_0, s_19_4, s_19_13, s_19_22, s_19_23, s_19_9, s_19_17, s_19_10, s_19_19, h1, h2, h3, h4]
    (repeat' first | exact hQ | intro _ | refine And.intro ?_ ?_ | (exfalso; omega))
theorem k_5 (hq : kC Y q) (hS : M (q + 1) = cR S) {c : Int} : vi_call GG (d + 2) 5 [.inr (.inr q), .inl c] (Y, M, n) K ↔ K (some (.inl (vi_b (sHas S c)))) (Y, M, n) := by
  have hq' := hq
  obtain ⟨h1, h2, h3, h4⟩ := hq
  refine vi_k (r := some (.inl (vi_b (sHas S c)))) fun Q hQ => ?_
  unfold sHas at hQ
  by_cases hc : 0 ≤ c ∧ c < 216
  · obtain ⟨i, rfl⟩ : ∃ i : Nat, c = i := ⟨c.toNat, by omega⟩
    have hb : vi_and64 (vi_ushr64 (cL S (i / 36)).toInt ((i : Int) % 36)) (1 : Int) = vi_b (S i) := by
      rw [show (i : Int) % 36 = ((i % 36 : Nat) : Int) by omega, vi_ushr64b (by omega), show (1 : Int) = (1#64).toInt from rfl, vi_and64b]
      have : cL S (i / 36) >>> (i % 36) &&& 1#64 = BitVec.ofNat 64 (S i).toNat := by
        apply BitVec.eq_of_getLsbD_eq
        intro j hj
        rw [BitVec.getLsbD_and, BitVec.getLsbD_ushiftRight, cL_b, BitVec.getLsbD_one, BitVec.getLsbD_ofNat, Nat.testBit_bool_toNat]
        by_cases h0 : j = 0
        · subst h0
          simp [show i % 36 < 36 by omega, show 36 * (i / 36) + i % 36 = i by omega]
        · simp [h0, show ¬ 0 = j by omega]
      rw [this]
      cases S i <;> rfl
    have hz : cZ S ((i : Int) / 36) = cL S (i / 36) := by rw [show (i : Int) / 36 = ((i / 36 : Nat) : Int) by omega, cZ_n _ (by omega)]
    rw [decide_eq_true hc, Bool.true_and, Int.toNat_natCast] at hQ
    simp (disch := omega) only [Option.toList_some, Option.toList_none, List.nil_append, List.cons_append, List.append_nil, true_and, and_true, not_true_eq_false, not_false_eq_true, true_implies, false_implies, implies_true, and_self, Int.reduceLT, Int.reduceLE, Int.reduceEq, Int.reduceNe, Int.reduceAdd, Int.reduceSub, Int.reduceMul, Int.reduceNeg, Int.reduceToNat, Int.toNat_natCast, ↓kk_ck, ↓kk_im, ↓kk_in, e_5, s_5_0, s_5_4, s_5_11, h1, vi_td, vi_tm, vi_32, k_19 hq' hS, s_5_19, s_5_28, hz, hb, vi_cm0, vi_b0, s_5_35, s_5_36, s_5_31]
    cases hs : S i <;> rw [hs] at hQ <;> simp <;> exact hQ
  · rw [decide_eq_false hc, Bool.false_and] at hQ
    simp +contextual (disch := omega) only [Option.toList_some, Option.toList_none, List.nil_append, List.cons_append, List.append_nil, true_and, and_true, not_true_eq_false, not_false_eq_true, true_implies, false_implies, implies_true, and_self, Int.reduceLT, Int.reduceLE, Int.reduceEq, Int.reduceNe, Int.reduceAdd, Int.reduceSub, Int.reduceMul, Int.reduceNeg, Int.reduceToNat, Int.toNat_natCast, ↓kk_ck, ↓kk_im, ↓kk_in, e_5, s_5_0, s_5_4, s_5_11, s_5_35, s_5_36]
    (repeat' first | exact hQ | intro _ | refine And.intro ?_ ?_ | (exfalso; omega))
theorem cR_u {S T : Nat → Bool} {z : Nat} {v : Int} (hz : z < 6) (hv : v = (cL T z).toInt) (h : ∀ i, i < 216 → i / 36 ≠ z → S i = T i) : vi_u (cR S) z v = cR T := by
  funext j
  unfold vi_u
  by_cases hj : j = z
  · subst hj; rw [if_pos rfl, hv, cR_n hz]
  · rw [if_neg hj]
    unfold cR
    by_cases h6 : j < 6
    · rw [if_pos h6, if_pos h6, cL_c (fun i hi => h _ (by omega) (by omega))]
    · rw [if_neg h6, if_neg h6]
theorem bit_one {z i : Nat} (hi : i < 36) : (1#64 <<< i) = cL (fun c => decide (c = 36 * z + i)) z := by
  apply cL_x
  intro j hj
  rw [BitVec.getLsbD_shiftLeft, BitVec.getLsbD_one]
  by_cases h : j = i
  · subst h; simp [hi, hj]
  · by_cases h2 : j < i
    · simp [h2]; omega
    · simp [show ¬ j - i = 0 by omega, show ¬ 36 * z + j = 36 * z + i by omega]
      omega
theorem o_and {S T : Nat → Bool} {z : Nat} : vi_and64 (cL S z).toInt (cL T z).toInt = (cL (fun c => S c && T c) z).toInt := by rw [vi_and64b, cL_and]
theorem o_or {S T : Nat → Bool} {z : Nat} : vi_or64 (cL S z).toInt (cL T z).toInt = (cL (fun c => S c || T c) z).toInt := by rw [vi_or64b, cL_or]
theorem o_m1 : (-1 : Int) = (BitVec.ofInt 64 (-1)).toInt := by decide
theorem o_dif {S T : Nat → Bool} {z : Nat} : vi_and64 (cL S z).toInt (vi_xor64 (cL T z).toInt (-1 : Int)) = (cL (fun c => S c && ! T c) z).toInt := by rw [o_m1, vi_xor64b, vi_and64b, cL_dif]
theorem o_xl {S : Nat → Bool} {z : Nat} : vi_shl64 (vi_and64 (cL S z).toInt (-34905131041 : Int)) (1 : Int) = (cL (sXl S) z).toInt := by
  have h := vi_shl64b (x := cL S z &&& BitVec.ofInt 64 (-34905131041)) (n := 1) (by omega)
  have e : (BitVec.ofInt 64 (-34905131041)).toInt = -34905131041 := by decide
  rw [cL_xl, ← vi_and64b, e] at h
  exact h
theorem o_xh {S : Nat → Bool} {z : Nat} : vi_ushr64 (vi_and64 (cL S z).toInt (-1090785346 : Int)) (1 : Int) = (cL (sXh S) z).toInt := by
  have h := vi_ushr64b (x := cL S z &&& BitVec.ofInt 64 (-1090785346)) (n := 1) (by omega)
  have e : (BitVec.ofInt 64 (-1090785346)).toInt = -1090785346 := by decide
  rw [cL_xh, ← vi_and64b, e] at h
  exact h
theorem o_yl {S : Nat → Bool} {z : Nat} : vi_and64 (vi_shl64 (cL S z).toInt (6 : Int)) (68719476735 : Int) = (cL (sYl S) z).toInt := by
  have h := vi_shl64b (x := cL S z) (n := 6) (by omega)
  have e : (BitVec.ofInt 64 68719476735).toInt = 68719476735 := by decide
  have h' : vi_shl64 (cL S z).toInt (6 : Int) = (cL S z <<< 6).toInt := h
  rw [h', ← e, vi_and64b, cL_yl]
theorem o_yh {S : Nat → Bool} {z : Nat} : vi_ushr64 (cL S z).toInt (6 : Int) = (cL (sYh S) z).toInt := by
  have h := vi_ushr64b (x := cL S z) (n := 6) (by omega)
  rw [cL_yh] at h
  exact h
theorem o_bit {z i : Nat} (hi : i < 36) : vi_shl64 (1 : Int) (i : Int) = (cL (fun c => decide (c = 36 * z + i)) z).toInt := by
  rw [← bit_one hi, ← vi_shl64b (by omega)]
  rfl
theorem k_6 (hq : kC Y q) (hS : M (q + 1) = cR S) {c : Int} (hc : c < 2147483648) : vi_call GG (d + 1) 6 [.inr (.inr q), .inl c] (Y, M, n) K ↔ K none (Y, vi_rs M (q + 1) (cR (sPut S c)), n) := by
  obtain ⟨h1, h2, h3, h4⟩ := hq
  refine vi_k (r := none) fun Q hQ => ?_
  by_cases h : 0 ≤ c ∧ c < 216
  · obtain ⟨i, rfl⟩ : ∃ i : Nat, c = i := ⟨c.toNat, by omega⟩
    simp (disch := omega) only [Option.toList_some, Option.toList_none, List.nil_append, List.cons_append, List.append_nil, true_and, and_true, not_true_eq_false, not_false_eq_true, true_implies, false_implies, implies_true, and_self, Int.reduceLT, Int.reduceLE, Int.reduceEq, Int.reduceNe, Int.reduceAdd, Int.reduceSub, Int.reduceMul, Int.reduceNeg, Int.reduceToNat, Int.toNat_natCast, ↓kk_ck, ↓kk_im, ↓kk_in, e_6, s_6_0, s_6_9, s_6_18, s_6_33, s_6_14, s_6_22, s_6_15, s_6_25, h1, h2, h3, h4, vi_td, vi_tm, vi_32]
    refine vi_qN hQ ?_
    rw [vi_ms_rs, show ((i : Int) / 36).toNat = i / 36 by omega, show (i : Int) % 36 = ((i % 36 : Nat) : Int) by omega, o_bit (z := i / 36) (by omega), hS, cR_n (by omega), o_or]
    congr 2
    refine congrArg _ (cR_u (by omega) ?_ fun j _ hj => ?_)
    · rw [cL_c fun j hj => ?_]
      unfold sPut
      rw [show 36 * (i / 36) + i % 36 = i by omega]
      congr 1
      simp only [decide_eq_decide]
      omega
    · unfold sPut
      rw [decide_eq_false (show ¬ ((j : Int) = (i : Int)) by omega), Bool.or_false]
  · rw [vi_rs_id (by rw [hS]; exact cR_c fun i hi => by unfold sPut; rw [decide_eq_false (by omega), Bool.or_false])] at hQ
    simp +contextual (disch := omega) only [Option.toList_some, Option.toList_none, List.nil_append, List.cons_append, List.append_nil, true_and, and_true, not_true_eq_false, not_false_eq_true, true_implies, false_implies, implies_true, and_self, Int.reduceLT, Int.reduceLE, Int.reduceEq, Int.reduceNe, Int.reduceAdd, Int.reduceSub, Int.reduceMul, Int.reduceNeg, Int.reduceToNat, Int.toNat_natCast, ↓kk_ck, ↓kk_im, ↓kk_in, e_6, s_6_0, s_6_9, s_6_18, s_6_33, s_6_14, s_6_22, s_6_15, s_6_25, h1, h2, h3, h4, vi_td, vi_32]
    (repeat' first | exact hQ | intro _ | refine And.intro ?_ ?_ | (exfalso; omega))
theorem k_7 (hq : kC Y q) (hS : M (q + 1) = cR S) {c : Int} (hc : c < 2147483648) : vi_call GG (d + 1) 7 [.inr (.inr q), .inl c] (Y, M, n) K ↔ K none (Y, vi_rs M (q + 1) (cR (sDrp S c)), n) := by
  obtain ⟨h1, h2, h3, h4⟩ := hq
  refine vi_k (r := none) fun Q hQ => ?_
  by_cases h : 0 ≤ c ∧ c < 216
  · obtain ⟨i, rfl⟩ : ∃ i : Nat, c = i := ⟨c.toNat, by omega⟩
    simp (disch := omega) only [Option.toList_some, Option.toList_none, List.nil_append, List.cons_append, List.append_nil, true_and, and_true, not_true_eq_false, not_false_eq_true, true_implies, false_implies, implies_true, and_self, Int.reduceLT, Int.reduceLE, Int.reduceEq, Int.reduceNe, Int.reduceAdd, Int.reduceSub, Int.reduceMul, Int.reduceNeg, Int.reduceToNat, Int.toNat_natCast, ↓kk_ck, ↓kk_im, ↓kk_in, e_7, s_7_0, s_7_9, s_7_18, s_7_37, s_7_14, s_7_22, s_7_15, s_7_25, h1, h2, h3, h4, vi_td, vi_tm, vi_32]
    refine vi_qN hQ ?_
    rw [vi_ms_rs, show ((i : Int) / 36).toNat = i / 36 by omega, show (i : Int) % 36 = ((i % 36 : Nat) : Int) by omega, o_bit (z := i / 36) (by omega), hS, cR_n (by omega), o_dif]
    congr 2
    refine congrArg _ (cR_u (by omega) ?_ fun j _ hj => ?_)
    · rw [cL_c fun j hj => ?_]
      unfold sDrp
      rw [show 36 * (i / 36) + i % 36 = i by omega]
      congr 2
      simp only [decide_eq_decide]
      omega
    · unfold sDrp
      rw [decide_eq_false (show ¬ ((j : Int) = (i : Int)) by omega), Bool.not_false, Bool.and_true]
  · rw [vi_rs_id (by rw [hS]; exact cR_c fun i hi => by unfold sDrp; rw [decide_eq_false (by omega), Bool.not_false, Bool.and_true])] at hQ
    simp +contextual (disch := omega) only [Option.toList_some, Option.toList_none, List.nil_append, List.cons_append, List.append_nil, true_and, and_true, not_true_eq_false, not_false_eq_true, true_implies, false_implies, implies_true, and_self, Int.reduceLT, Int.reduceLE, Int.reduceEq, Int.reduceNe, Int.reduceAdd, Int.reduceSub, Int.reduceMul, Int.reduceNeg, Int.reduceToNat, Int.toNat_natCast, ↓kk_ck, ↓kk_im, ↓kk_in, e_7, s_7_0, s_7_9, s_7_18, s_7_37, s_7_14, s_7_22, s_7_15, s_7_25, h1, h2, h3, h4, vi_td, vi_32]
    (repeat' first | exact hQ | intro _ | refine And.intro ?_ ?_ | (exfalso; omega))
theorem k_2 (hq : kC Y q) (hS : M (q + 1) = cR S) : vi_call GG (d + 1) 2 [.inr (.inr q)] (Y, M, n) K ↔ K none (Y, vi_rs M (q + 1) (cR fun _ => false), n) := by
  obtain ⟨h1, h2, h3, h4⟩ := hq
  refine vi_k (r := none) fun Q hQ => ?_
  rw [e_2, s_2_0]
  have key : ∀ z : Nat, z ≤ 6 → vi_ok GG d 2 2 [some (.inr (.inr q)), some (.inl (z : Int))] [] (Y, vi_rs M (q + 1) (vi_m z (cR fun _ => false) (M (q + 1))), n) Q := by
    refine vi_dn 6 ?_ fun z hz ih => ?_
    · rw [hS, cR_m fun j hj => cR_o hj]
      rw [s_2_2]
      simp (disch := omega) only [Option.toList_some, Option.toList_none, List.nil_append, List.cons_append, List.append_nil, true_and, and_true, not_true_eq_false, not_false_eq_true, true_implies, false_implies, implies_true, and_self, Int.reduceLT, Int.reduceLE, Int.reduceEq, Int.reduceNe, Int.reduceAdd, Int.reduceSub, Int.reduceMul, Int.reduceNeg, Int.reduceToNat, Int.toNat_natCast, ↓kk_ck, ↓kk_im, ↓kk_in, s_2_0, s_2_11, s_2_24, s_2_7, s_2_15, s_2_8, s_2_18, h1, h2, h3, h4]
      exact hQ
    · rw [s_2_2]
      simp (disch := omega) only [Option.toList_some, Option.toList_none, List.nil_append, List.cons_append, List.append_nil, true_and, and_true, not_true_eq_false, not_false_eq_true, true_implies, false_implies, implies_true, and_self, Int.reduceLT, Int.reduceLE, Int.reduceEq, Int.reduceNe, Int.reduceAdd, Int.reduceSub, Int.reduceMul, Int.reduceNeg, Int.reduceToNat, Int.toNat_natCast, ↓kk_ck, ↓kk_im, ↓kk_in, s_2_0, s_2_11, s_2_24, s_2_7, s_2_15, s_2_8, s_2_18, h1, h2, h3, h4, vi_ms_rs, vi_rs_s, vi_rs_rs, vi_inc]
      rw [vi_m_s (by rw [cR_0])]
      exact ih
  have := key 0 (by omega)
  rw [vi_m_0, vi_rs_id rfl] at this
  exact this
theorem k_4 (hq1 : kC Y q1) (hq2 : kC Y q2) (hne : q1 ≠ q2) (hS1 : M (q1 + 1) = cR S1) (hS2 : M (q2 + 1) = cR S2) : vi_call GG (d + 1) 4 [.inr (.inr q1), .inr (.inr q2)] (Y, M, n) K ↔ K none (Y, vi_rs M (q1 + 1) (cR S2), n) := by
  obtain ⟨h1, h2, h3, h4⟩ := hq1
  obtain ⟨i1, i2, i3, i4⟩ := hq2
  refine vi_k (r := none) fun Q hQ => ?_
  rw [e_4, s_4_0]
  have key : ∀ z : Nat, z ≤ 6 → vi_ok GG d 4 2 [some (.inr (.inr q1)), some (.inr (.inr q2)), some (.inl (z : Int))] [] (Y, vi_rs M (q1 + 1) (vi_m z (cR S2) (M (q1 + 1))), n) Q := by
    refine vi_dn 6 ?_ fun z hz ih => ?_
    · rw [hS1, cR_m fun j hj => cR_o hj]
      rw [s_4_2]
      simp (disch := omega) only [Option.toList_some, Option.toList_none, List.nil_append, List.cons_append, List.append_nil, true_and, and_true, not_true_eq_false, not_false_eq_true, true_implies, false_implies, implies_true, and_self, Int.reduceLT, Int.reduceLE, Int.reduceEq, Int.reduceNe, Int.reduceAdd, Int.reduceSub, Int.reduceMul, Int.reduceNeg, Int.reduceToNat, Int.toNat_natCast, ↓kk_ck, ↓kk_im, ↓kk_in, s_4_0, s_4_11, s_4_20, s_4_38, s_4_7, s_4_16, s_4_24, s_4_8, s_4_17, s_4_29, s_4_31, s_4_32, h1, h2, h3, h4, i1, i2, i3, i4]
      exact hQ
    · have hne' : q2 + 1 ≠ q1 + 1 := by omega
      rw [s_4_2]
      simp (disch := omega) only [Option.toList_some, Option.toList_none, List.nil_append, List.cons_append, List.append_nil, true_and, and_true, not_true_eq_false, not_false_eq_true, true_implies, false_implies, implies_true, and_self, Int.reduceLT, Int.reduceLE, Int.reduceEq, Int.reduceNe, Int.reduceAdd, Int.reduceSub, Int.reduceMul, Int.reduceNeg, Int.reduceToNat, Int.toNat_natCast, ↓kk_ck, ↓kk_im, ↓kk_in, s_4_0, s_4_11, s_4_20, s_4_38, s_4_7, s_4_16, s_4_24, s_4_8, s_4_17, s_4_29, s_4_31, s_4_32, h1, h2, h3, h4, i1, i2, i3, i4, vi_ms_rs, vi_rs_s, vi_rs_rs, vi_inc, vi_rs_o hne']
      rw [vi_m_s (by rw [hS2])]
      exact ih
  have := key 0 (by omega)
  rw [vi_m_0, vi_rs_id rfl] at this
  exact this
theorem k_9 (hq1 : kC Y q1) (hq2 : kC Y q2) (hne : q1 ≠ q2) (hS1 : M (q1 + 1) = cR S1) (hS2 : M (q2 + 1) = cR S2) : vi_call GG (d + 1) 9 [.inr (.inr q1), .inr (.inr q2)] (Y, M, n) K ↔ K none (Y, vi_rs M (q1 + 1) (cR (sDif S1 S2)), n) := by
  obtain ⟨h1, h2, h3, h4⟩ := hq1
  obtain ⟨i1, i2, i3, i4⟩ := hq2
  refine vi_k (r := none) fun Q hQ => ?_
  rw [e_9, s_9_0]
  have key : ∀ z : Nat, z ≤ 6 → vi_ok GG d 9 2 [some (.inr (.inr q1)), some (.inr (.inr q2)), some (.inl (z : Int))] [] (Y, vi_rs M (q1 + 1) (vi_m z (cR (sDif S1 S2)) (M (q1 + 1))), n) Q := by
    refine vi_dn 6 ?_ fun z hz ih => ?_
    · rw [hS1, cR_m fun j hj => cR_o hj]
      rw [s_9_2]
      simp (disch := omega) only [Option.toList_some, Option.toList_none, List.nil_append, List.cons_append, List.append_nil, true_and, and_true, not_true_eq_false, not_false_eq_true, true_implies, false_implies, implies_true, and_self, Int.reduceLT, Int.reduceLE, Int.reduceEq, Int.reduceNe, Int.reduceAdd, Int.reduceSub, Int.reduceMul, Int.reduceNeg, Int.reduceToNat, Int.toNat_natCast, ↓kk_ck, ↓kk_im, ↓kk_in, s_9_0, s_9_11, s_9_20, s_9_45, s_9_7, s_9_16, s_9_24, s_9_8, s_9_17, s_9_27, s_9_31, s_9_33, s_9_39, h1, h2, h3, h4, i1, i2, i3, i4]
      exact hQ
    · have hne' : q2 + 1 ≠ q1 + 1 := by omega
      rw [s_9_2]
      simp (disch := omega) only [Option.toList_some, Option.toList_none, List.nil_append, List.cons_append, List.append_nil, true_and, and_true, not_true_eq_false, not_false_eq_true, true_implies, false_implies, implies_true, and_self, Int.reduceLT, Int.reduceLE, Int.reduceEq, Int.reduceNe, Int.reduceAdd, Int.reduceSub, Int.reduceMul, Int.reduceNeg, Int.reduceToNat, Int.toNat_natCast, ↓kk_ck, ↓kk_im, ↓kk_in, s_9_0, s_9_11, s_9_20, s_9_45, s_9_7, s_9_16, s_9_24, s_9_8, s_9_17, s_9_27, s_9_31, s_9_33, s_9_39, h1, h2, h3, h4, i1, i2, i3, i4, vi_ms_rs, vi_rs_s, vi_rs_rs, vi_inc, vi_rs_o hne']
      rw [vi_m_s (by rw [vi_m_ge (Nat.le_refl _), hS1, hS2, cR_n hz, cR_n hz, cR_n hz, o_dif]; rfl)]
      exact ih
  have := key 0 (by omega)
  rw [vi_m_0, vi_rs_id rfl] at this
  exact this
theorem k_20 {z : Nat} {w : vi_W} : vi_call GG (d + 1) 20 [.inr (.inl (cL S z).toInt)] w K ↔ K (some (.inr (.inl (cL (sXl S) z).toInt))) w := by
  obtain ⟨Y, M, n⟩ := w
  rw [e_20, s_20_0, o_xl]
theorem k_21 {z : Nat} {w : vi_W} : vi_call GG (d + 1) 21 [.inr (.inl (cL S z).toInt)] w K ↔ K (some (.inr (.inl (cL (sXh S) z).toInt))) w := by
  obtain ⟨Y, M, n⟩ := w
  rw [e_21, s_21_0, o_xh]
theorem k_22 {z : Nat} {w : vi_W} : vi_call GG (d + 1) 22 [.inr (.inl (cL S z).toInt)] w K ↔ K (some (.inr (.inl (cL (sYl S) z).toInt))) w := by
  obtain ⟨Y, M, n⟩ := w
  rw [e_22, s_22_0, o_yl]
theorem k_23 {z : Nat} {w : vi_W} : vi_call GG (d + 1) 23 [.inr (.inl (cL S z).toInt)] w K ↔ K (some (.inr (.inl (cL (sYh S) z).toInt))) w := by
  obtain ⟨Y, M, n⟩ := w
  rw [e_23, s_23_0, o_yh]
theorem k_bc {z : Nat} {w : vi_W} : vi_call GG (d + 1) 357 [.inr (.inl (cL S z).toInt)] w K ↔ K (some (.inl ((sN 36 (fun i => S (36 * z + i)) : Nat) : Int))) w := by
  have hb := bN_lt 36 (fun i => S (36 * z + i))
  rw [cL_i, k_357 (by omega)]
  have e : sN 40 (fun i => (bN 36 (fun i => S (36 * z + i))).testBit i) = sN 36 (fun i => S (36 * z + i)) := by
    rw [show (40 : Nat) = 36 + 4 from rfl, sN_add, sN_0 (k := 4) |>.mpr (fun i _ => by rw [bN_tb]; simp; omega), Nat.add_zero]
    exact sN_c fun i hi => by rw [bN_tb]; simp [hi]
  rw [e]
theorem sN_36 (k : Nat) (S : Nat → Bool) : sN (36 * (k + 1)) S = sN (36 * k) S + sN 36 (fun i => S (36 * k + i)) := by
  rw [show 36 * (k + 1) = 36 * k + 36 by omega, sN_add]
theorem k_11 (hq : kC Y q) (hS : M (q + 1) = cR S) : vi_call GG (d + 2) 11 [.inr (.inr q)] (Y, M, n) K ↔ K (some (.inl (sN 216 S : Int))) (Y, M, n) := by
  obtain ⟨h1, h2, h3, h4⟩ := hq
  refine vi_k (r := some (.inl (sN 216 S : Int))) fun Q hQ => ?_
  rw [e_11, s_11_0]
  have key : ∀ z : Nat, z ≤ 6 → vi_ok GG (d + 1) 11 4 [some (.inr (.inr q)), some (.inl (sN (36 * z) S : Int)), some (.inl (z : Int))] [] (Y, M, n) Q := by
    refine vi_dn 6 ?_ fun z hz ih => ?_
    · rw [s_11_4]
      simp (disch := omega) only [Option.toList_some, Option.toList_none, List.nil_append, List.cons_append, List.append_nil, true_and, and_true, not_true_eq_false, not_false_eq_true, true_implies, false_implies, implies_true, and_self, Int.reduceLT, Int.reduceLE, Int.reduceEq, Int.reduceNe, Int.reduceAdd, Int.reduceSub, Int.reduceMul, Int.reduceNeg, Int.reduceToNat, Int.toNat_natCast, ↓kk_ck, ↓kk_im, ↓kk_in, s_11_0, s_11_13, s_11_31, s_11_9, s_11_18, s_11_10, s_11_20, s_11_23, h1, h2, h3, h4]
      exact hQ
    · have b1 := sN_le (36 * z) S
      have b2 := sN_le 36 (fun i => S (36 * z + i))
      have e := sN_36 z S
      rw [s_11_4]
      simp (disch := omega) only [Option.toList_some, Option.toList_none, List.nil_append, List.cons_append, List.append_nil, true_and, and_true, not_true_eq_false, not_false_eq_true, true_implies, false_implies, implies_true, and_self, Int.reduceLT, Int.reduceLE, Int.reduceEq, Int.reduceNe, Int.reduceAdd, Int.reduceSub, Int.reduceMul, Int.reduceNeg, Int.reduceToNat, Int.toNat_natCast, ↓kk_ck, ↓kk_im, ↓kk_in, s_11_0, s_11_13, s_11_31, s_11_9, s_11_18, s_11_10, s_11_20, s_11_23, h1, h2, h3, h4, hS, cR_n hz, k_bc, vi_inc]
      rw [vi_32 (by omega) (by omega), show ((sN (36 * z) S : Nat) : Int) + ((sN 36 (fun i => S (36 * z + i)) : Nat) : Int) = ((sN (36 * (z + 1)) S : Nat) : Int) by omega]
      exact ih
  exact key 0 (by omega)
theorem cL_z {z : Nat} : (0 : Int) = (cL (fun _ => false) z).toInt := by rw [cL_inj0.mpr fun _ _ => rfl]
theorem k_10 (hq : kC Y q) (hS : M (q + 1) = cR S) : vi_call GG (d + 1) 10 [.inr (.inr q)] (Y, M, n) K ↔ K (some (.inl (vi_b (sE S)))) (Y, M, n) := by
  obtain ⟨h1, h2, h3, h4⟩ := hq
  refine vi_k (r := some (.inl (vi_b (sE S)))) fun Q hQ => ?_
  rw [e_10, s_10_0]
  have key : ∀ z : Nat, z ≤ 6 → vi_ok GG d 10 4 [some (.inr (.inr q)), some (.inr (.inl (cL (fun c => sOr z (fun j => S (36 * j + c))) 0).toInt)), none, some (.inl (z : Int))] [] (Y, M, n) Q := by
    refine vi_dn 6 ?_ fun z hz ih => ?_
    · rw [s_10_4]
      simp +contextual (disch := omega) only [Option.toList_some, Option.toList_none, List.nil_append, List.cons_append, List.append_nil, true_and, and_true, not_true_eq_false, not_false_eq_true, true_implies, false_implies, implies_true, and_self, Int.reduceLT, Int.reduceLE, Int.reduceEq, Int.reduceNe, Int.reduceAdd, Int.reduceSub, Int.reduceMul, Int.reduceNeg, Int.reduceToNat, Int.toNat_natCast, ↓kk_ck, ↓kk_im, ↓kk_in, s_10_0, s_10_13, s_10_28, s_10_34, s_10_38, s_10_39, s_10_9, s_10_18, s_10_31, s_10_10, s_10_20, h1, h2, h3, h4, vi_cm0, ne_eq, cL_inj0]
      refine ⟨fun h => ?_, fun h => ?_⟩
      · cases he : sE S
        · rw [he] at hQ; exact hQ
        · exfalso
          refine h fun i hi => ?_
          cases hs : sOr 6 (fun j => S (36 * j + (36 * 0 + i)))
          · rfl
          · obtain ⟨j, hj, hj2⟩ := sOr_iff.mp hs
            rw [sE_iff.mp he _ (by omega)] at hj2
            cases hj2
      · have he : sE S = true := sE_iff.mpr fun i hi => by
          cases hs : S i
          · rfl
          · have := Classical.not_not.mp h (i % 36) (by omega)
            rw [sOr_iff.mpr ⟨i / 36, by omega, by rw [show 36 * (i / 36) + (36 * 0 + i % 36) = i by omega]; exact hs⟩] at this
            cases this
        rw [he] at hQ
        exact hQ
    · rw [s_10_4]
      simp (disch := omega) only [Option.toList_some, Option.toList_none, List.nil_append, List.cons_append, List.append_nil, true_and, and_true, not_true_eq_false, not_false_eq_true, true_implies, false_implies, implies_true, and_self, Int.reduceLT, Int.reduceLE, Int.reduceEq, Int.reduceNe, Int.reduceAdd, Int.reduceSub, Int.reduceMul, Int.reduceNeg, Int.reduceToNat, Int.toNat_natCast, ↓kk_ck, ↓kk_im, ↓kk_in, s_10_0, s_10_13, s_10_28, s_10_34, s_10_38, s_10_39, s_10_9, s_10_18, s_10_31, s_10_10, s_10_20, h1, h2, h3, h4, hS, cR_n hz, vi_inc]
      have e : cL S z = cL (fun c => S (36 * z + c)) 0 := by
        apply cL_x
        intro i _
        rw [cL_b]
        simp
      rw [e, o_or]
      exact ih
  have := key 0 (by omega)
  rw [cL_inj0.mpr fun i hi => rfl] at this
  exact this
end
