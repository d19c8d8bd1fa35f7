/-! Contracts of Rods: a row of things of six numbers each. -/
def kR (Y : vi_Y) (q lim : Nat) : Prop := Y.1 q = 28 ∧ Y.2.2 q 0 = (lim : Int) ∧ (Y.2.2 q 1).toNat = q + 1 ∧ Y.1 (q + 1) = 1 ∧ (Y.2.1 (q + 1) : Int) = 6 * (lim : Int) ∧ lim ≤ 16
def rL (L : List (Nat → Int)) (r j : Nat) : Int := (L.getD r (fun _ => 0)) j
def rOK (f g : Nat → Int) (L : List (Nat → Int)) : Prop := f 2 = (L.length : Int) ∧ ∀ r j : Nat, r < L.length → j < 6 → g (6 * r + j) = rL L r j
def rNum (L : List (Nat → Int)) (r : Int) (j : Nat) : Int := if 0 ≤ r ∧ r < (L.length : Int) then rL L r.toNat j else 0
theorem kk_ck1 {P : Prop} {a b : Nat} (h : a = b) : (a = b ∧ P) ↔ P := ⟨fun k => k.2, fun k => ⟨h, k⟩⟩
theorem kk_ck2 {P : Prop} {a b x y : Int} (h : a ≤ b ∧ x < y) : ((a ≤ b ∧ x < y) ∧ P) ↔ P := ⟨fun k => k.2, fun k => ⟨h, k⟩⟩
theorem kk_ck3 {P : Prop} {a b : Nat} {i n : Int} (h : a = b ∧ 0 ≤ i ∧ i < n) : ((a = b ∧ 0 ≤ i ∧ i < n) ∧ P) ↔ P := ⟨fun k => k.2, fun k => ⟨h, k⟩⟩
section
variable {d q q1 lim lim1 : Nat} {K : Option vi_V → vi_W → Prop} {Y : vi_Y} {M : vi_M} {n : Nat × Nat} {L L1 : List (Nat → Int)}
theorem k_149 {w : vi_W} (h1 : w.1.1 q = 28) : vi_call GG (d + 1) 149 [.inr (.inr q)] w K ↔ K (some (.inl (w.2.1 q 2))) w := by
  obtain ⟨Y, M, n⟩ := w
  refine vi_k (r := some (.inl _)) fun Q hQ => ?_
  simp (disch := omega) only [Option.toList_some, Option.toList_none, List.nil_append, List.cons_append, List.append_nil, true_and, and_true, not_true_eq_false, not_false_eq_true, true_implies, false_implies, implies_true, and_self, Int.reduceLT, Int.reduceLE, Int.reduceEq, Int.reduceNe, Int.reduceAdd, Int.reduceSub, Int.reduceMul, Int.reduceNeg, Int.reduceToNat, Int.toNat_natCast, ↓kk_ck, ↓kk_im, ↓kk_in, e_149, s_149_0, s_149_4, show Y.1 q = 28 from h1]
  exact hQ
theorem k_150 (hq : kR Y q lim) : vi_call GG (d + 1) 150 [.inr (.inr q)] (Y, M, n) K ↔ K (some (.inl (vi_b (decide ((lim : Int) ≤ M q 2))))) (Y, M, n) := by
  obtain ⟨h1, h2, -, -, -, -⟩ := hq
  refine vi_k (r := some (.inl _)) fun Q hQ => ?_
  by_cases h : (lim : Int) ≤ M q 2
  · rw [vi_bp h] at hQ
    simp (disch := omega) only [Option.toList_some, Option.toList_none, List.nil_append, List.cons_append, List.append_nil, true_and, and_true, not_true_eq_false, not_false_eq_true, true_implies, false_implies, implies_true, and_self, Int.reduceLT, Int.reduceLE, Int.reduceEq, Int.reduceNe, Int.reduceAdd, Int.reduceSub, Int.reduceMul, Int.reduceNeg, Int.reduceToNat, Int.toNat_natCast, ↓kk_ck, ↓kk_im, ↓kk_in, e_150, s_150_0, s_150_11, s_150_15, s_150_16, s_150_4, s_150_8, h1, h2]
    exact hQ
  · rw [vi_bn h] at hQ
    simp (disch := omega) only [Option.toList_some, Option.toList_none, List.nil_append, List.cons_append, List.append_nil, true_and, and_true, not_true_eq_false, not_false_eq_true, true_implies, false_implies, implies_true, and_self, Int.reduceLT, Int.reduceLE, Int.reduceEq, Int.reduceNe, Int.reduceAdd, Int.reduceSub, Int.reduceMul, Int.reduceNeg, Int.reduceToNat, Int.toNat_natCast, ↓kk_ck, ↓kk_im, ↓kk_in, e_150, s_150_0, s_150_11, s_150_15, s_150_16, s_150_4, s_150_8, h1, h2]
    exact hQ
theorem k_151 (hq : kR Y q lim) (hr : rOK (M q) (M (q + 1)) L) (hl : L.length ≤ lim) {r : Int} {j : Nat} (hj : j < 6) : vi_call GG (d + 1) 151 [.inr (.inr q), .inl r, .inl (j : Int)] (Y, M, n) K ↔ K (some (.inl (rNum L r j))) (Y, M, n) := by
  obtain ⟨h1, h2, h3, h4, h5, h6⟩ := hq
  obtain ⟨r1, r2⟩ := hr
  refine vi_k (r := some (.inl _)) fun Q hQ => ?_
  unfold rNum at hQ
  by_cases h : 0 ≤ r ∧ r < (L.length : Int)
  · rw [if_pos h] at hQ
    simp (disch := omega) only [Option.toList_some, Option.toList_none, List.nil_append, List.cons_append, List.append_nil, true_and, and_true, not_true_eq_false, not_false_eq_true, true_implies, false_implies, implies_true, and_self, Int.reduceLT, Int.reduceLE, Int.reduceEq, Int.reduceNe, Int.reduceAdd, Int.reduceSub, Int.reduceMul, Int.reduceNeg, Int.reduceToNat, Int.toNat_natCast, ↓kk_ck, ↓kk_im, ↓kk_in, e_151, s_151_0, s_151_11, s_151_19, s_151_23, s_151_29, s_151_33, s_151_34, s_151_41, s_151_45, s_151_54, s_151_63, s_151_64, s_151_16, s_151_50, s_151_58, s_151_51, s_151_60, h1, h2, h3, h4, h5, r1, vi_32]
    have e := r2 r.toNat j (by omega) hj
    rw [show (r * 6 + (j : Int)).toNat = 6 * r.toNat + j by omega, e]
    exact hQ
  · rw [if_neg h] at hQ
    simp +contextual (disch := omega) only [Option.toList_some, Option.toList_none, List.nil_append, List.cons_append, List.append_nil, true_and, and_true, not_true_eq_false, not_false_eq_true, true_implies, false_implies, implies_true, and_self, Int.reduceLT, Int.reduceLE, Int.reduceEq, Int.reduceNe, Int.reduceAdd, Int.reduceSub, Int.reduceMul, Int.reduceNeg, Int.reduceToNat, Int.toNat_natCast, ↓kk_ck, ↓kk_im, ↓kk_in, e_151, s_151_0, s_151_11, s_151_19, s_151_23, s_151_29, s_151_33, s_151_34, s_151_41, s_151_45, s_151_54, s_151_63, s_151_64, s_151_16, s_151_50, s_151_58, s_151_51, s_151_60, h1, h2, h3, h4, h5, r1]
    (repeat' first | exact hQ | intro _ | refine And.intro ?_ ?_ | (exfalso; omega))
theorem k_159 (hq : kR Y q lim) {r j : Nat} (hr : r < lim) (hj : j < 6) {v : Int} : vi_call GG (d + 1) 159 [.inr (.inr q), .inl (r : Int), .inl (j : Int), .inl v] (Y, M, n) K ↔ K none (Y, vi_rs M (q + 1) (vi_u (M (q + 1)) (6 * r + j) v), n) := by
  obtain ⟨h1, h2, h3, h4, h5, h6⟩ := hq
  refine vi_k (r := none) fun Q hQ => ?_
  simp (disch := omega) only [Option.toList_some, Option.toList_none, List.nil_append, List.cons_append, List.append_nil, true_and, and_true, not_true_eq_false, not_false_eq_true, true_implies, false_implies, implies_true, and_self, Int.reduceLT, Int.reduceLE, Int.reduceEq, Int.reduceNe, Int.reduceAdd, Int.reduceSub, Int.reduceMul, Int.reduceNeg, Int.reduceToNat, Int.toNat_natCast, ↓kk_ck, ↓kk_im, ↓kk_in, e_159, s_159_0, s_159_13, s_159_23, s_159_31, s_159_10, s_159_19, s_159_27, s_159_20, h1, h2, h3, h4, h5, vi_32, vi_ms_rs]
  rw [show ((r : Int) * 6 + (j : Int)).toNat = 6 * r + j by omega]
  exact hQ
/-- six numbers written one behind another -/
def rPut (g : Nat → Int) (r : Nat) (v : Nat → Int) : Nat → Int := fun k => if 6 * r ≤ k ∧ k < 6 * r + 6 then v (k - 6 * r) else g k
theorem rPut_u {g : Nat → Int} {r : Nat} {v : Nat → Int} : vi_u (vi_u (vi_u (vi_u (vi_u (vi_u g (6 * r + 0) (v 0)) (6 * r + 1) (v 1)) (6 * r + 2) (v 2)) (6 * r + 3) (v 3)) (6 * r + 4) (v 4)) (6 * r + 5) (v 5) = rPut g r v := by
  funext k
  unfold vi_u rPut
  by_cases h : 6 * r ≤ k ∧ k < 6 * r + 6
  · rw [if_pos h]
    obtain ⟨i, rfl⟩ : ∃ i, k = 6 * r + i := ⟨k - 6 * r, by omega⟩
    obtain rfl | rfl | rfl | rfl | rfl | rfl : i = 0 ∨ i = 1 ∨ i = 2 ∨ i = 3 ∨ i = 4 ∨ i = 5 := by omega
    all_goals simp
  · rw [if_neg h, if_neg (by omega), if_neg (by omega), if_neg (by omega), if_neg (by omega), if_neg (by omega), if_neg (by omega)]
theorem k_151r (hq : kR Y q lim) {m r j : Nat} (hm : M q 2 = (m : Int)) (hl : m ≤ lim) (hr : r < m) (hj : j < 6) : vi_call GG (d + 1) 151 [.inr (.inr q), .inl (r : Int), .inl (j : Int)] (Y, M, n) K ↔ K (some (.inl (M (q + 1) (6 * r + j)))) (Y, M, n) := by
  obtain ⟨h1, h2, h3, h4, h5, h6⟩ := hq
  refine vi_k (r := some (.inl _)) fun Q hQ => ?_
  simp (disch := omega) only [Option.toList_some, Option.toList_none, List.nil_append, List.cons_append, List.append_nil, true_and, and_true, not_true_eq_false, not_false_eq_true, true_implies, false_implies, implies_true, and_self, Int.reduceLT, Int.reduceLE, Int.reduceEq, Int.reduceNe, Int.reduceAdd, Int.reduceSub, Int.reduceMul, Int.reduceNeg, Int.reduceToNat, Int.toNat_natCast, ↓kk_ck, ↓kk_im, ↓kk_in, e_151, s_151_0, s_151_11, s_151_19, s_151_23, s_151_29, s_151_33, s_151_34, s_151_41, s_151_45, s_151_54, s_151_63, s_151_64, s_151_16, s_151_50, s_151_58, s_151_51, s_151_60, h1, h2, h3, h4, h5, hm, vi_32]
  rw [show ((r : Int) * 6 + (j : Int)).toNat = 6 * r + j by omega]
  exact hQ
def rMv (g : Nat → Int) (a b j : Nat) : Nat → Int := fun k => if 6 * b ≤ k ∧ k < 6 * b + j then g (6 * a + (k - 6 * b)) else g k
theorem rMv_s {g : Nat → Int} {a b j : Nat} : vi_u (rMv g a b j) (6 * b + j) (g (6 * a + j)) = rMv g a b (j + 1) := by
  funext k
  unfold vi_u rMv
  by_cases h : k = 6 * b + j
  · subst h
    rw [if_pos rfl, if_pos (by omega), show 6 * b + j - 6 * b = j by omega]
  · rw [if_neg h]
    by_cases h2 : 6 * b ≤ k ∧ k < 6 * b + j
    · rw [if_pos h2, if_pos (by omega)]
    · rw [if_neg h2, if_neg (by omega)]
theorem rMv_0 {g : Nat → Int} {a b : Nat} : rMv g a b 0 = g := by
  funext k
  unfold rMv
  rw [if_neg (by omega)]
theorem k_158 (hq : kR Y q lim) {m a b : Nat} (hm : M q 2 = (m : Int)) (hl : m ≤ lim) (ha : a < m) (hb : b < m) : vi_call GG (d + 2) 158 [.inr (.inr q), .inl (a : Int), .inl (b : Int)] (Y, M, n) K ↔ K none (Y, vi_rs M (q + 1) (rMv (M (q + 1)) a b 6), n) := by
  have hq' := hq
  obtain ⟨h1, h2, h3, h4, h5, h6⟩ := hq
  refine vi_k (r := none) fun Q hQ => ?_
  rw [e_158, s_158_0]
  have key : ∀ j : Nat, j ≤ 6 → vi_ok GG (d + 1) 158 2 [some (.inr (.inr q)), some (.inl (a : Int)), some (.inl (b : Int)), some (.inl (j : Int))] [] (Y, vi_rs M (q + 1) (rMv (M (q + 1)) a b j), n) Q := by
    refine vi_dn 6 ?_ fun j hj ih => ?_
    · rw [s_158_2]
      simp (disch := omega) only [Option.toList_some, Option.toList_none, List.nil_append, List.cons_append, List.append_nil, true_and, and_true, not_true_eq_false, not_false_eq_true, true_implies, false_implies, implies_true, and_self, Int.reduceLT, Int.reduceLE, Int.reduceEq, Int.reduceNe, Int.reduceAdd, Int.reduceSub, Int.reduceMul, Int.reduceNeg, Int.reduceToNat, Int.toNat_natCast, ↓kk_ck, ↓kk_im, ↓kk_in, s_158_0, s_158_8, s_158_26, s_158_17, s_158_20]
      exact hQ
    · rw [s_158_2]
      have e : rMv (M (q + 1)) a b j (6 * a + j) = M (q + 1) (6 * a + j) := by
        unfold rMv
        by_cases h : 6 * b ≤ 6 * a + j ∧ 6 * a + j < 6 * b + j
        · omega
        · rw [if_neg h]
      simp (disch := omega) only [Option.toList_some, Option.toList_none, List.nil_append, List.cons_append, List.append_nil, true_and, and_true, not_true_eq_false, not_false_eq_true, true_implies, false_implies, implies_true, and_self, Int.reduceLT, Int.reduceLE, Int.reduceEq, Int.reduceNe, Int.reduceAdd, Int.reduceSub, Int.reduceMul, Int.reduceNeg, Int.reduceToNat, Int.toNat_natCast, ↓kk_ck, ↓kk_im, ↓kk_in, s_158_0, s_158_8, s_158_26, s_158_17, s_158_20, h1, k_151r (M := vi_rs M (q + 1) (rMv (M (q + 1)) a b j)) hq' (m := m) (by rw [vi_rs_o (by omega)]; exact hm) hl ha hj, vi_rs_s, e, k_159 hq' (show b < lim by omega) hj, vi_rs_rs, rMv_s, vi_inc]
      exact ih
  have := key 0 (by omega)
  rw [rMv_0, vi_rs_id rfl] at this
  exact this
theorem k_152 (hq : kR Y q lim) {m : Nat} (hm : M q 2 = (m : Int)) (hl : m < lim) {a u v e p l : Int} : vi_call GG (d + 2) 152 [.inr (.inr q), .inl a, .inl u, .inl v, .inl e, .inl p, .inl l] (Y, M, n) K ↔ K none (Y, vi_rs (vi_rs M q (vi_u (M q) 2 ((m + 1 : Nat) : Int))) (q + 1) (rPut (M (q + 1)) m (fun j => if j = 0 then a else if j = 1 then u else if j = 2 then v else if j = 3 then e else if j = 4 then p else l)), n) := by
  have hq' := hq
  obtain ⟨h1, h2, h3, h4, h5, h6⟩ := hq
  refine vi_k (r := none) fun Q hQ => ?_
  have b0 : ¬ (lim : Int) ≤ M q 2 := by omega
  have z0 : (0 : Int) = ((0 : Nat) : Int) := rfl
  have z1 : (1 : Int) = ((1 : Nat) : Int) := rfl
  have z2 : (2 : Int) = ((2 : Nat) : Int) := rfl
  have z3 : (3 : Int) = ((3 : Nat) : Int) := rfl
  have z4 : (4 : Int) = ((4 : Nat) : Int) := rfl
  have z5 : (5 : Int) = ((5 : Nat) : Int) := rfl
  have P := fun {M : vi_M} {K : Option vi_V → vi_W → Prop} {v : Int} (j : Nat) (hj : j < 6) => @k_159 d q lim K Y M n hq' m j hl hj v
  have P0 := fun {M : vi_M} {K : Option vi_V → vi_W → Prop} {v : Int} => @P M K v 0 (by omega)
  have P1 := fun {M : vi_M} {K : Option vi_V → vi_W → Prop} {v : Int} => @P M K v 1 (by omega)
  have P2 := fun {M : vi_M} {K : Option vi_V → vi_W → Prop} {v : Int} => @P M K v 2 (by omega)
  have P3 := fun {M : vi_M} {K : Option vi_V → vi_W → Prop} {v : Int} => @P M K v 3 (by omega)
  have P4 := fun {M : vi_M} {K : Option vi_V → vi_W → Prop} {v : Int} => @P M K v 4 (by omega)
  have P5 := fun {M : vi_M} {K : Option vi_V → vi_W → Prop} {v : Int} => @P M K v 5 (by omega)
  rw [← z0] at P0
  rw [← z1] at P1
  rw [← z2] at P2
  rw [← z3] at P3
  rw [← z4] at P4
  rw [← z5] at P5
  simp (disch := omega) only [Option.toList_some, Option.toList_none, List.nil_append, List.cons_append, List.append_nil, true_and, and_true, not_true_eq_false, not_false_eq_true, true_implies, false_implies, implies_true, and_self, Int.reduceLT, Int.reduceLE, Int.reduceEq, Int.reduceNe, Int.reduceAdd, Int.reduceSub, Int.reduceMul, Int.reduceNeg, Int.reduceToNat, Int.toNat_natCast, ↓kk_ck, ↓kk_im, ↓kk_in, e_152, s_152_0, s_152_7, s_152_8, s_152_4, s_152_12, s_152_19, s_152_24, s_152_32, s_152_40, s_152_48, s_152_57, s_152_66, s_152_75, h1, k_150 hq', hm, show vi_b (decide ((lim : Int) ≤ (m : Int))) = 0 from vi_bn (by omega), vi_ms_rs, vi_inc, P0, P1, P2, P3, P4, P5, vi_rs_s, vi_rs_rs, vi_rs_o (show q + 1 ≠ q by omega)]
  refine vi_qN hQ ?_
  rw [← rPut_u]
  rfl
theorem k_154 (hq : kR Y q lim) : vi_call GG (d + 1) 154 [.inr (.inr q)] (Y, M, n) K ↔ K (some (.inl (M q 2))) (Y, vi_rs M q (vi_u (M q) 2 0), n) := by
  obtain ⟨h1, -, -, -, -, -⟩ := hq
  refine vi_k (r := some (.inl _)) fun Q hQ => ?_
  simp (disch := omega) only [Option.toList_some, Option.toList_none, List.nil_append, List.cons_append, List.append_nil, true_and, and_true, not_true_eq_false, not_false_eq_true, true_implies, false_implies, implies_true, and_self, Int.reduceLT, Int.reduceLE, Int.reduceEq, Int.reduceNe, Int.reduceAdd, Int.reduceSub, Int.reduceMul, Int.reduceNeg, Int.reduceToNat, Int.toNat_natCast, ↓kk_ck, ↓kk_im, ↓kk_in, e_154, s_154_0, s_154_4, s_154_10, h1, vi_ms_rs]
  exact hQ
def rDr (g : Nat → Int) (r t : Nat) : Nat → Int := fun k => if 6 * r ≤ k ∧ k < 6 * t then g (k + 6) else g k
theorem rDr_s {g : Nat → Int} {r t : Nat} (h : r ≤ t) : rMv (rDr g r t) (t + 1) t 6 = rDr g r (t + 1) := by
  funext k
  unfold rMv rDr
  by_cases h2 : 6 * t ≤ k ∧ k < 6 * t + 6
  · rw [if_pos h2, if_neg (by omega), if_pos (by omega), show 6 * (t + 1) + (k - 6 * t) = k + 6 by omega]
  · rw [if_neg h2]
    by_cases h3 : 6 * r ≤ k ∧ k < 6 * t
    · rw [if_pos h3, if_pos (by omega)]
    · rw [if_neg h3, if_neg (by omega)]
end
