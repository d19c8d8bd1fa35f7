/-! Contracts of Reader, second part: steps, jumps, numbers. -/
theorem or_k {k x : Int} (hk : 0 ≤ k ∧ k < 256) (hx : 0 ≤ x ∧ x < 4194304) : vi_or32 k (vi_shl32 x 8) = k + 256 * x := by
  obtain ⟨a, rfl⟩ : ∃ a : Nat, k = (a : Int) := ⟨k.toNat, by omega⟩
  obtain ⟨c, rfl⟩ : ∃ c : Nat, x = (c : Int) := ⟨x.toNat, by omega⟩
  have h1 := vi_shl32n (x := c) (n := 8) (by omega) (by rw [Nat.shiftLeft_eq]; omega)
  rw [show ((8 : Nat) : Int) = 8 from rfl] at h1
  rw [h1, Nat.shiftLeft_eq, vi_or32n (by omega) (by omega)]
  have h2 : a ||| c * 2 ^ 8 = a + 256 * c := by
    rw [Nat.mul_comm]
    have e := Nat.two_pow_add_eq_or_of_lt (i := 8) (b := a) (by omega) c
    rw [Nat.or_comm, ← e]
    omega
  rw [h2]
  omega
section
variable {d : Nat} {K : Option vi_V → vi_W → Prop} {Y : vi_Y} {M : vi_M} {nn : Nat × Nat} {n : Nat} {b f : Nat → Int}
/-- a step more -/
theorem k_141 (hY : kY Y 112) {i S l : Nat} (h73 : M 73 = rRow f b n i S l) (hS : S < 400) {k x : Int} (hk : 0 ≤ k ∧ k < 256) (hx : 0 ≤ x ∧ x < 4194304) : vi_call GG (d + 1) 141 [.inr (.inr 73), .inl k, .inl x] (Y, M, nn) K ↔ K (some (.inl ((S + 1 : Nat) : Int))) (Y, vi_rs (vi_rs M 75 (vi_u (M 75) S (k + 256 * x))) 73 (rRow f b n i (S + 1) l), nn) := by
  obtain ⟨a1, a2, a3, a4⟩ := y_73 hY (by omega)
  obtain ⟨c1, c2⟩ := y_75 hY (by omega)
  have e4 : M 73 4 = (S : Int) := by rw [h73]; rfl
  have e := or_k hk hx
  have er : vi_u (M 73) 4 ((S + 1 : Nat) : Int) = rRow f b n i (S + 1) l := by
    funext k
    rw [h73]
    unfold vi_u rRow
    by_cases h : k = 4
    · rw [if_pos h, if_pos h]
    · rw [if_neg h, if_neg h, if_neg h]
  have e4' : rRow f b n i (S + 1) l 4 = ((S + 1 : Nat) : Int) := rfl
  refine vi_k (r := some (.inl _)) fun Q hQ => ?_
  rw [← e] at hQ
  clear e
  rw [← er] at hQ e4'
  simp (disch := omega) only [Option.toList_some, Option.toList_none, List.nil_append, List.cons_append, List.append_nil, true_and, and_true, not_true_eq_false, not_false_eq_true, true_implies, false_implies, implies_true, and_self, Int.reduceLT, Int.reduceLE, Int.reduceEq, Int.reduceNe, Int.reduceAdd, Int.reduceSub, Int.reduceMul, Int.reduceNeg, Int.reduceToNat, Int.toNat_natCast, ↓kk_ck, ↓kk_im, ↓kk_in, e_141, s_141_0, s_141_7, s_141_19, s_141_44, s_141_4, s_141_11, s_141_23, s_141_48, s_141_15, s_141_27, s_141_16, s_141_34, s_141_39, a1, a3, c1, c2, e4, vi_ms_rs, vi_rs_o (show 73 ≠ 75 by omega), vi_rs_s, vi_inc, vi_u_s]
  exact hQ
/-- a step more, or none where there is no room: nothing is said of the steps -/
theorem k_141j (hY : kY Y 112) {i S l : Nat} (h73 : M 73 = rRow f b n i S l) (hS : S ≤ 400) {k x : Int} : ∃ (v : Int) (g : Nat → Int) (S' : Nat), S' ≤ 400 ∧ ∀ K : Option vi_V → vi_W → Prop, vi_call GG (d + 1) 141 [.inr (.inr 73), .inl k, .inl x] (Y, M, nn) K ↔ K (some (.inl v)) (Y, vi_rs (vi_rs M 75 g) 73 (rRow f b n i S' l), nn) := by
  obtain ⟨a1, a2, a3, a4⟩ := y_73 hY (by omega)
  obtain ⟨c1, c2⟩ := y_75 hY (by omega)
  have e4 : M 73 4 = (S : Int) := by rw [h73]; rfl
  by_cases h : S < 400
  · have er : vi_u (M 73) 4 ((S + 1 : Nat) : Int) = rRow f b n i (S + 1) l := by
      funext k
      rw [h73]
      unfold vi_u rRow
      by_cases h : k = 4
      · rw [if_pos h, if_pos h]
      · rw [if_neg h, if_neg h, if_neg h]
    refine ⟨((S + 1 : Nat) : Int), vi_u (M 75) S (vi_or32 k (vi_shl32 x 8)), S + 1, by omega, fun K => vi_k (r := some (.inl _)) fun Q hQ => ?_⟩
    rw [← er] at hQ
    simp (disch := omega) only [Option.toList_some, Option.toList_none, List.nil_append, List.cons_append, List.append_nil, true_and, and_true, not_true_eq_false, not_false_eq_true, true_implies, false_implies, implies_true, and_self, Int.reduceLT, Int.reduceLE, Int.reduceEq, Int.reduceNe, Int.reduceAdd, Int.reduceSub, Int.reduceMul, Int.reduceNeg, Int.reduceToNat, Int.toNat_natCast, ↓kk_ck, ↓kk_im, ↓kk_in, e_141, s_141_0, s_141_7, s_141_19, s_141_44, s_141_4, s_141_11, s_141_23, s_141_48, s_141_15, s_141_27, s_141_16, s_141_34, s_141_39, a1, a3, c1, c2, e4, vi_ms_rs, vi_rs_o (show 73 ≠ 75 by omega), vi_rs_s, vi_inc, vi_u_s]
    exact hQ
  · refine ⟨(S : Int), M 75, S, hS, fun K => vi_k (r := some (.inl _)) fun Q hQ => ?_⟩
    rw [vi_rs_id (q := 75) rfl, vi_rs_id h73] at hQ
    simp (disch := omega) only [Option.toList_some, Option.toList_none, List.nil_append, List.cons_append, List.append_nil, true_and, and_true, not_true_eq_false, not_false_eq_true, true_implies, false_implies, implies_true, and_self, Int.reduceLT, Int.reduceLE, Int.reduceEq, Int.reduceNe, Int.reduceAdd, Int.reduceSub, Int.reduceMul, Int.reduceNeg, Int.reduceToNat, Int.toNat_natCast, ↓kk_ck, ↓kk_im, ↓kk_in, e_141, s_141_0, s_141_7, s_141_19, s_141_44, s_141_4, s_141_11, s_141_23, s_141_48, s_141_15, s_141_27, s_141_16, s_141_34, s_141_39, a1, a3, c1, c2, e4]
    exact hQ
/-- jumps are aimed -/
theorem k_142 (hY : kY Y 112) {i S l : Nat} (h73 : M 73 = rRow f b n i S l) (hS : S ≤ 400) {J : List Nat} {x : Int} (hx : lnk (M 75) J x) (hJ : ∀ j, j ∈ J → j < S) (hv : ∀ j, j ∈ J → 0 ≤ M 75 j ∧ M 75 j < 2147483648) : vi_call GG (d + 1) 142 [.inr (.inr 73), .inl x] (Y, M, nn) K ↔ K none (Y, vi_rs M 75 (aim (M 75) J S), nn) := by
  obtain ⟨a1, a2, a3, a4⟩ := y_73 hY (by omega)
  obtain ⟨c1, c2⟩ := y_75 hY (by omega)
  have hlen := lnk_len hx hJ
  refine vi_k (r := none) fun Q hQ => ?_
  have e4 : ∀ g, vi_rs M 75 g 73 4 = (S : Int) := fun g => by rw [vi_rs_o (by omega), h73]; rfl
  have loop : ∀ (J : List Nat) (st : Nat → Int) (y : Int) (m : Nat) (l4 : Option vi_V), lnk st J y → (∀ j, j ∈ J → j < S) → (∀ j, j ∈ J → 0 ≤ st j ∧ st j < 2147483648) → m + J.length ≤ 400 → Q none (Y, vi_rs M 75 (aim st J S), nn) → vi_ok GG d 142 4 [some (.inr (.inr 73)), some (.inl x), some (.inl y), some (.inl (m : Int)), l4] [] (Y, vi_rs M 75 st, nn) Q := by
    intro J
    induction J with
    | nil =>
      intro st y m l4 h1 h2 h3 h4 h5
      have e : aim st [] S = st := by funext a; unfold aim; rw [if_neg (List.not_mem_nil)]
      rw [e] at h5
      rw [lnk] at h1
      subst h1
      rw [s_142_4]
      clear hQ e4
      by_cases hm : 400 ≤ m
      · simp (disch := omega) only [Option.toList_some, Option.toList_none, List.nil_append, List.cons_append, List.append_nil, true_and, and_true, not_true_eq_false, not_false_eq_true, true_implies, false_implies, implies_true, and_self, Int.reduceLT, Int.reduceLE, Int.reduceEq, Int.reduceNe, Int.reduceAdd, Int.reduceSub, Int.reduceMul, Int.reduceNeg, Int.reduceToNat, Int.toNat_natCast, ↓kk_ck, ↓kk_im, ↓kk_in, s_142_0, s_142_11, s_142_15, s_142_24, s_142_74, s_142_20, s_142_28, s_142_21, s_142_31, s_142_32, s_142_41, s_142_48, s_142_51, s_142_52, s_142_60, s_142_65]
        exact h5
      · simp (disch := omega) only [Option.toList_some, Option.toList_none, List.nil_append, List.cons_append, List.append_nil, true_and, and_true, not_true_eq_false, not_false_eq_true, true_implies, false_implies, implies_true, and_self, Int.reduceLT, Int.reduceLE, Int.reduceEq, Int.reduceNe, Int.reduceAdd, Int.reduceSub, Int.reduceMul, Int.reduceNeg, Int.reduceToNat, Int.toNat_natCast, ↓kk_ck, ↓kk_im, ↓kk_in, s_142_0, s_142_11, s_142_15, s_142_24, s_142_74, s_142_20, s_142_28, s_142_21, s_142_31, s_142_32, s_142_41, s_142_48, s_142_51, s_142_52, s_142_60, s_142_65]
        exact h5
    | cons j J ih =>
      intro st y m l4 h1 h2 h3 h4 h5
      rw [List.length_cons] at h4
      have hj := h2 j (List.mem_cons_self ..)
      have hv := h3 j (List.mem_cons_self ..)
      have ne : ∀ i, i ∈ J → i ≠ j := fun i hi e => absurd (h1.2.1 i hi) (by omega)
      have := fun l4 => ih (vi_u st j (st j % 256 + 256 * (S : Int))) (st j / 256) (m + 1) l4 (lnk_c (fun i hi => (vi_u_o (ne i hi)).symm) h1.2.2) (fun i hi => h2 i (List.mem_cons_of_mem _ hi)) (fun i hi => by rw [vi_u_o (ne i hi)]; exact h3 i (List.mem_cons_of_mem _ hi)) (by omega) (by rw [aim_cons h1.2.1]; exact h5)
      have hy := h1.1
      have et : (y - 1).toNat = j := by omega
      have e3 := or_k (k := st j % 256) (x := (S : Int)) (by omega) (by omega)
      rw [← e3] at this
      clear e3
      rw [s_142_4]
      clear hQ ih h1 h2 h3 h5 ne
      simp (disch := omega) only [Option.toList_some, Option.toList_none, List.nil_append, List.cons_append, List.append_nil, true_and, and_true, not_true_eq_false, not_false_eq_true, true_implies, false_implies, implies_true, and_self, Int.reduceLT, Int.reduceLE, Int.reduceEq, Int.reduceNe, Int.reduceAdd, Int.reduceSub, Int.reduceMul, Int.reduceNeg, Int.reduceToNat, Int.toNat_natCast, ↓kk_ck, ↓kk_im, ↓kk_in, s_142_0, s_142_11, s_142_15, s_142_24, s_142_74, s_142_20, s_142_28, s_142_21, s_142_31, s_142_32, s_142_41, s_142_48, s_142_51, s_142_52, s_142_60, s_142_65, a1, a3, c1, c2, vi_rs_s, vi_rs_rs, vi_32, et, sh8, an8, e4, vi_ms_rs, vi_inc]
      exact this _
  have := loop J (M 75) x 0 none hx hJ hv (by omega) hQ
  rw [vi_rs_id rfl] at this
  rw [e_142, s_142_0]
  exact this
/-- jumps are aimed: nothing is said of the steps -/
theorem k_142j (hY : kY Y 112) {x : Int} (hx : -2147483648 ≤ x ∧ x < 2147483648) : ∃ g : Nat → Int, ∀ K : Option vi_V → vi_W → Prop, vi_call GG (d + 1) 142 [.inr (.inr 73), .inl x] (Y, M, nn) K ↔ K none (Y, vi_rs M 75 g, nn) := by
  obtain ⟨a1, a2, a3, a4⟩ := y_73 hY (by omega)
  obtain ⟨c1, c2⟩ := y_75 hY (by omega)
  have key : ∀ Q : Option vi_V → vi_W → Prop, (∀ g : Nat → Int, Q none (Y, vi_rs M 75 g, nn)) → vi_call GG (d + 1) 142 [.inr (.inr 73), .inl x] (Y, M, nn) Q := by
    intro Q hQ
    have e4 : ∀ g, vi_rs M 75 g 73 = M 73 := fun g => vi_rs_o (by omega)
    have loop : ∀ m : Nat, m ≤ 400 → ∀ (st : Nat → Int) (y : Int) (l4 : Option vi_V), vi_ok GG d 142 4 [some (.inr (.inr 73)), some (.inl x), some (.inl y), some (.inl (m : Int)), l4] [] (Y, vi_rs M 75 st, nn) Q := by
      refine vi_dn 400 ?_ fun m hm ih => ?_
      · intro st y l4
        have := hQ st
        rw [s_142_4]
        clear hQ
        simp (disch := omega) only [Option.toList_some, Option.toList_none, List.nil_append, List.cons_append, List.append_nil, true_and, and_true, not_true_eq_false, not_false_eq_true, true_implies, false_implies, implies_true, and_self, Int.reduceLT, Int.reduceLE, Int.reduceEq, Int.reduceNe, Int.reduceAdd, Int.reduceSub, Int.reduceMul, Int.reduceNeg, Int.reduceToNat, Int.toNat_natCast, ↓kk_ck, ↓kk_im, ↓kk_in, s_142_0, s_142_11, s_142_15, s_142_24, s_142_74, s_142_20, s_142_28, s_142_21, s_142_31, s_142_32, s_142_41, s_142_48, s_142_51, s_142_52, s_142_60, s_142_65]
        exact this
      · intro st y l4
        have h5 := hQ st
        rw [s_142_4]
        by_cases h1 : 0 < y ∧ y ≤ 400
        · have := fun v1 v2 l4 => ih (vi_u st (y - 1).toNat v1) v2 l4
          clear ih hQ h5
          simp (disch := omega) only [Option.toList_some, Option.toList_none, List.nil_append, List.cons_append, List.append_nil, true_and, and_true, not_true_eq_false, not_false_eq_true, true_implies, false_implies, implies_true, and_self, Int.reduceLT, Int.reduceLE, Int.reduceEq, Int.reduceNe, Int.reduceAdd, Int.reduceSub, Int.reduceMul, Int.reduceNeg, Int.reduceToNat, Int.toNat_natCast, ↓kk_ck, ↓kk_im, ↓kk_in, s_142_0, s_142_11, s_142_15, s_142_24, s_142_74, s_142_20, s_142_28, s_142_21, s_142_31, s_142_32, s_142_41, s_142_48, s_142_51, s_142_52, s_142_60, s_142_65, a1, a3, c1, c2, vi_rs_s, vi_rs_rs, vi_32, e4, vi_ms_rs, vi_inc]
          exact this _ _ _
        · clear ih hQ
          by_cases h2 : 0 < y
          · simp (disch := omega) only [Option.toList_some, Option.toList_none, List.nil_append, List.cons_append, List.append_nil, true_and, and_true, not_true_eq_false, not_false_eq_true, true_implies, false_implies, implies_true, and_self, Int.reduceLT, Int.reduceLE, Int.reduceEq, Int.reduceNe, Int.reduceAdd, Int.reduceSub, Int.reduceMul, Int.reduceNeg, Int.reduceToNat, Int.toNat_natCast, ↓kk_ck, ↓kk_im, ↓kk_in, s_142_0, s_142_11, s_142_15, s_142_24, s_142_74, s_142_20, s_142_28, s_142_21, s_142_31, s_142_32, s_142_41, s_142_48, s_142_51, s_142_52, s_142_60, s_142_65, a1, a3, c1, c2]
            exact h5
          · simp (disch := omega) only [Option.toList_some, Option.toList_none, List.nil_append, List.cons_append, List.append_nil, true_and, and_true, not_true_eq_false, not_false_eq_true, true_implies, false_implies, implies_true, and_self, Int.reduceLT, Int.reduceLE, Int.reduceEq, Int.reduceNe, Int.reduceAdd, Int.reduceSub, Int.reduceMul, Int.reduceNeg, Int.reduceToNat, Int.toNat_natCast, ↓kk_ck, ↓kk_im, ↓kk_in, s_142_0, s_142_11, s_142_15, s_142_24, s_142_74, s_142_20, s_142_28, s_142_21, s_142_31, s_142_32, s_142_41, s_142_48, s_142_51, s_142_52, s_142_60, s_142_65, a1, a3, c1, c2]
            exact h5
    have := loop 0 (by omega) (M 75) x none
    rw [vi_rs_id rfl] at this
    rw [e_142, s_142_0]
    exact this
  obtain ⟨r, w, ⟨g, rfl, rfl⟩, hK⟩ := vi_kx (key (fun r w => ∃ g : Nat → Int, r = none ∧ w = (Y, vi_rs M 75 g, nn)) (fun g => ⟨g, rfl, rfl⟩))
  exact ⟨g, hK⟩
/-- the class's number of a row of digits: it stops above a thousand -/
def nV (b : Nat → Int) : Nat → Nat → Int → Int
  | 0, _, v => v
  | k + 1, p, v => if v ≤ 1000 then nV b k (p + 1) (v * 10 + tB b p - 48) else v
theorem nV_b {b : Nat → Int} : ∀ (k p : Nat) (v : Int), (∀ j, j < k → 48 ≤ tB b (p + j) ∧ tB b (p + j) ≤ 57) → 0 ≤ v → v ≤ 10009 → 0 ≤ nV b k p v ∧ nV b k p v ≤ 10009
  | 0, _, v, _, h0, h1 => ⟨h0, h1⟩
  | k + 1, p, v, h, h0, h1 => by
    rw [nV]
    split
    · have := h 0 (by omega)
      rw [Nat.add_zero] at this
      exact nV_b k (p + 1) _ (fun j hj => by have := h (j + 1) (by omega); rw [show p + 1 + j = p + (j + 1) by omega]; exact this) (by omega) (by omega)
    · exact ⟨h0, h1⟩
theorem tB_d {b : Nat → Int} {p : Nat} (h : 48 ≤ tB b p ∧ tB b p ≤ 57) (hb : tOk b) : tB b p = b p := by
  have := hb p
  unfold tB at *
  omega
theorem tV_up {b : Nat → Int} (hb : tOk b) : ∀ (k p : Nat) (v : Int), (∀ j, j < k → 48 ≤ tB b (p + j) ∧ tB b (p + j) ≤ 57) → 1000 < v → 1000 < tV b k p v
  | 0, _, v, _, h => h
  | k + 1, p, v, h, h1 => by
    rw [tV]
    have h0 := h 0 (by omega)
    rw [Nat.add_zero] at h0
    have e := tB_d h0 hb
    exact tV_up hb k (p + 1) _ (fun j hj => by have := h (j + 1) (by omega); rw [show p + 1 + j = p + (j + 1) by omega]; exact this) (by split <;> omega)
theorem nV_tV {b : Nat → Int} (hb : tOk b) : ∀ (k p : Nat) (v : Int), (∀ j, j < k → 48 ≤ tB b (p + j) ∧ tB b (p + j) ≤ 57) → 0 ≤ v → (nV b k p v = tV b k p v ∧ tV b k p v ≤ 1000) ∨ (1000 < nV b k p v ∧ 1000 < tV b k p v)
  | 0, _, v, _, _ => by
    rw [nV, tV]
    by_cases h : v ≤ 1000
    · exact .inl ⟨rfl, h⟩
    · exact .inr ⟨by omega, by omega⟩
  | k + 1, p, v, h, h0 => by
    rw [nV, tV]
    have h1 := h 0 (by omega)
    rw [Nat.add_zero] at h1
    have e := tB_d h1 hb
    have hk : ∀ j, j < k → 48 ≤ tB b (p + 1 + j) ∧ tB b (p + 1 + j) ≤ 57 := fun j hj => by have := h (j + 1) (by omega); rw [show p + 1 + j = p + (j + 1) by omega]; exact this
    by_cases hv : v ≤ 1000
    · rw [if_pos hv, if_neg (by omega), e, show v * 10 + b p - 48 = 10 * v + b p - 48 by omega]
      exact nV_tV hb k (p + 1) _ hk (by omega)
    · rw [if_neg hv]
      refine .inr ⟨by omega, tV_up hb k (p + 1) _ hk (by split <;> omega)⟩
theorem tR_in {b : Nat → Int} {kd : Int} : ∀ (k p : Nat), ∀ j, p ≤ j → j < tR b kd k p → tK (tB b j) = kd
  | 0, p, j, h1, h2 => by rw [tR] at h2; omega
  | k + 1, p, j, h1, h2 => by
    rw [tR] at h2
    by_cases h : tK (tB b p) = kd
    · rw [if_pos h] at h2
      by_cases e : j = p
      · rw [e]; exact h
      · exact tR_in k (p + 1) j (by omega) h2
    · rw [if_neg h] at h2; omega
theorem tE_d {b : Nat → Int} {n p : Nat} (h : tKd b n p = 2) : ∀ j, j < tE b n p - p → 48 ≤ tB b (p + j) ∧ tB b (p + j) ≤ 57 := by
  intro j hj
  have dg : ∀ s, tK s = 2 → 48 ≤ s ∧ s ≤ 57 := fun s hs => by
    unfold tK at hs
    split at hs
    · omega
    · split at hs
      · assumption
      · omega
  unfold tKd at h
  split at h
  · rename_i hp
    unfold tE at hj
    rw [if_pos hp, if_neg (by omega)] at hj
    by_cases e : j = 0
    · rw [e, Nat.add_zero]; exact dg _ h
    · have := tR_in (b := b) (kd := tK (tB b p)) (n - (p + 1)) (p + 1) (p + j) (by omega) (by omega)
      exact dg _ (by rw [this, h])
  · omega
theorem k_140n (hY : kY Y 112) (h400 : n ≤ 400) (hb : tOk b) (m74 : M 74 = b) (hf : f 3 = (n : Int)) {i S l : Nat} (h73 : M 73 = rRow f b n i S l) (hk : tCd b n i = 50) : vi_call GG (d + 2) 140 [.inr (.inr 73)] (Y, M, nn) K ↔ K (some (.inl (nV b (tE b n (tI b n i) - tI b n i) (tI b n i) 0))) (Y, M, nn) := by
  obtain ⟨a1, a2, a3, a4⟩ := y_73 hY (by omega)
  have hkd := tCd_50.mp hk
  have hd := tE_d hkd
  have hle := tE_le (b := b) (tI_le (b := b) (n := n) i)
  have e3 : M 73 3 = (n : Int) := by rw [h73]; exact hf
  have e9 : M 73 9 = (tI b n i : Int) := by rw [h73]; rfl
  have e10 : M 73 10 = (tE b n (tI b n i) : Int) := by rw [h73]; rfl
  generalize tI b n i = p at *
  generalize tE b n p = e at *
  refine vi_k (r := some (.inl _)) fun Q hQ => ?_
  · have loop : ∀ (k p : Nat) (v : Int), p + k = e → (∀ j, j < k → 48 ≤ tB b (p + j) ∧ tB b (p + j) ≤ 57) → 0 ≤ v → v ≤ 10009 → Q (some (.inl (nV b k p v))) (Y, M, nn) → vi_ok GG (d + 1) 140 7 [some (.inr (.inr 73)), some (.inl v), some (.inl (p : Int))] [] (Y, M, nn) Q := by
      intro k
      induction k with
      | zero =>
        intro p v hp _ h0 h1 hq
        rw [nV] at hq
        rw [s_140_7]
        clear hQ hd
        simp (disch := omega) only [Option.toList_some, Option.toList_none, List.nil_append, List.cons_append, List.append_nil, true_and, and_true, not_true_eq_false, not_false_eq_true, true_implies, false_implies, implies_true, and_self, Int.reduceLT, Int.reduceLE, Int.reduceEq, Int.reduceNe, Int.reduceAdd, Int.reduceSub, Int.reduceMul, Int.reduceNeg, Int.reduceToNat, Int.toNat_natCast, ↓kk_ck, ↓kk_im, ↓kk_in, s_140_0, s_140_15, s_140_22, s_140_42, s_140_6, s_140_12, s_140_31, a1, e10]
        exact hq
      | succ k ih =>
        intro p v hp hdk h0 h1 hq
        rw [nV] at hq
        rw [s_140_7]
        by_cases hv : v ≤ 1000
        · rw [if_pos hv] at hq
          have d0 := hdk 0 (by omega)
          rw [Nat.add_zero] at d0
          have := ih (p + 1) (v * 10 + tB b p - 48) (by omega) (fun j hj => by have := hdk (j + 1) (by omega); rw [show p + 1 + j = p + (j + 1) by omega]; exact this) (by omega) (by omega) hq
          have B := fun {K : Option vi_V → vi_W → Prop} => @k_122n d K Y M nn n hY e3 h400 (by rw [m74]; exact hb) p (by omega)
          rw [m74] at B
          clear hQ hd hdk ih hq
          simp (disch := omega) only [Option.toList_some, Option.toList_none, List.nil_append, List.cons_append, List.append_nil, true_and, and_true, not_true_eq_false, not_false_eq_true, true_implies, false_implies, implies_true, and_self, Int.reduceLT, Int.reduceLE, Int.reduceEq, Int.reduceNe, Int.reduceAdd, Int.reduceSub, Int.reduceMul, Int.reduceNeg, Int.reduceToNat, Int.toNat_natCast, ↓kk_ck, ↓kk_im, ↓kk_in, s_140_0, s_140_15, s_140_22, s_140_42, s_140_6, s_140_12, s_140_31, a1, e10, B, vi_32, vi_inc]
          exact this
        · rw [if_neg hv] at hq
          clear hQ hd hdk ih
          simp (disch := omega) only [Option.toList_some, Option.toList_none, List.nil_append, List.cons_append, List.append_nil, true_and, and_true, not_true_eq_false, not_false_eq_true, true_implies, false_implies, implies_true, and_self, Int.reduceLT, Int.reduceLE, Int.reduceEq, Int.reduceNe, Int.reduceAdd, Int.reduceSub, Int.reduceMul, Int.reduceNeg, Int.reduceToNat, Int.toNat_natCast, ↓kk_ck, ↓kk_im, ↓kk_in, s_140_0, s_140_15, s_140_22, s_140_42, s_140_6, s_140_12, s_140_31, a1, e10]
          exact hq
    have := loop (e - p) p 0 (by omega) hd (by omega) (by omega) hQ
    clear loop hQ hd
    simp (disch := omega) only [Option.toList_some, Option.toList_none, List.nil_append, List.cons_append, List.append_nil, true_and, and_true, not_true_eq_false, not_false_eq_true, true_implies, false_implies, implies_true, and_self, Int.reduceLT, Int.reduceLE, Int.reduceEq, Int.reduceNe, Int.reduceAdd, Int.reduceSub, Int.reduceMul, Int.reduceNeg, Int.reduceToNat, Int.toNat_natCast, ↓kk_ck, ↓kk_im, ↓kk_in, e_140, s_140_0, a1, e9, s_140_6]
    exact this
theorem k_140 (hY : kY Y 112) (h400 : n ≤ 400) (hb : tOk b) (m74 : M 74 = b) (hf : f 3 = (n : Int)) {i S l : Nat} (h73 : M 73 = rRow f b n i S l) (hk : tCd b n i = 50) : ∃ v : Int, ((v = tVl b n i ∧ tVl b n i ≤ 1000) ∨ (1000 < v ∧ 1000 < tVl b n i)) ∧ 0 ≤ v ∧ v ≤ 10009 ∧ ∀ K : Option vi_V → vi_W → Prop, vi_call GG (d + 2) 140 [.inr (.inr 73)] (Y, M, nn) K ↔ K (some (.inl v)) (Y, M, nn) := by
  have hkd := tCd_50.mp hk
  have hd := tE_d hkd
  have hv : tVl b n i = tV b (tE b n (tI b n i) - tI b n i) (tI b n i) 0 := by unfold tVl; rw [if_pos hkd]
  rw [hv]
  exact ⟨_, nV_tV hb _ _ 0 hd (by omega), (nV_b _ _ 0 hd (by omega) (by omega)).1, (nV_b _ _ 0 hd (by omega) (by omega)).2, fun K => k_140n hY h400 hb m74 hf h73 hk⟩
/-- what a PART's word or number is -/
def pKd (c : Int) : Int := if c = 50 then 0 else if 8 ≤ c ∧ c ≤ 13 then c - 7 else -1
theorem k_139 (hY : kY Y 112) (hk : kS Y M) (h400 : n ≤ 400) (hb : tOk b) (m74 : M 74 = b) (hf : f 3 = (n : Int)) {i S l : Nat} (h73 : M 73 = rRow f b n i S l) : vi_call GG (d + 6) 139 [.inr (.inr 73)] (Y, M, nn) K ↔ K (some (.inl (pKd (tCd b n i)))) (Y, M, nn) := by
  obtain ⟨a1, a2, a3, a4⟩ := y_73 hY (by omega)
  have e8 : M 73 8 = tKd b n (tI b n i) := by rw [h73]; rfl
  refine vi_k (r := some (.inl _)) fun Q hQ => ?_
  have h50 := tCd_50 (b := b) (n := n) (i := i)
  by_cases h : tKd b n (tI b n i) = 2
  · rw [h50.mpr h] at hQ
    simp (disch := omega) only [Option.toList_some, Option.toList_none, List.nil_append, List.cons_append, List.append_nil, true_and, and_true, not_true_eq_false, not_false_eq_true, true_implies, false_implies, implies_true, and_self, Int.reduceLT, Int.reduceLE, Int.reduceEq, Int.reduceNe, Int.reduceAdd, Int.reduceSub, Int.reduceMul, Int.reduceNeg, Int.reduceToNat, Int.toNat_natCast, ↓kk_ck, ↓kk_im, ↓kk_in, e_139, s_139_0, s_139_8, s_139_10, s_139_19, s_139_21, s_139_30, s_139_32, s_139_41, s_139_43, s_139_52, s_139_54, s_139_63, s_139_65, s_139_74, s_139_79, s_139_80, s_139_4, s_139_16, s_139_27, s_139_38, s_139_49, s_139_60, s_139_71, a1, e8, h, ne_eq]
    exact hQ
  · have h5 : tCd b n i ≠ 50 := fun k => h (h50.mp k)
    have W := fun {K : Option vi_V → vi_W → Prop} (q : Nat) (hq : q < 13) => @k_145 d K Y M nn n b f hY hk h400 hb m74 hf i S l h73 q hq
    have W3 := fun {K : Option vi_V → vi_W → Prop} => @W K 3 (by omega)
    have W4 := fun {K : Option vi_V → vi_W → Prop} => @W K 4 (by omega)
    have W5 := fun {K : Option vi_V → vi_W → Prop} => @W K 5 (by omega)
    have W6 := fun {K : Option vi_V → vi_W → Prop} => @W K 6 (by omega)
    have W7 := fun {K : Option vi_V → vi_W → Prop} => @W K 7 (by omega)
    have W8 := fun {K : Option vi_V → vi_W → Prop} => @W K 8 (by omega)
    simp only [Nat.reduceAdd, show (wI 3 : Int) = 8 from rfl] at W3
    simp only [Nat.reduceAdd, show (wI 4 : Int) = 9 from rfl] at W4
    simp only [Nat.reduceAdd, show (wI 5 : Int) = 10 from rfl] at W5
    simp only [Nat.reduceAdd, show (wI 6 : Int) = 11 from rfl] at W6
    simp only [Nat.reduceAdd, show (wI 7 : Int) = 12 from rfl] at W7
    simp only [Nat.reduceAdd, show (wI 8 : Int) = 13 from rfl] at W8
    generalize tCd b n i = c at *
    unfold pKd at hQ
    rw [if_neg h5] at hQ
    clear h50 W
    by_cases hc : 8 ≤ c ∧ c ≤ 13
    · rw [if_pos hc] at hQ
      obtain rfl | rfl | rfl | rfl | rfl | rfl : c = 8 ∨ c = 9 ∨ c = 10 ∨ c = 11 ∨ c = 12 ∨ c = 13 := by omega
      all_goals
        simp only [Int.reduceEq, decide_true, decide_false, Int.reduceSub] at W3 W4 W5 W6 W7 W8 hQ
        simp (disch := omega) only [Option.toList_some, Option.toList_none, List.nil_append, List.cons_append, List.append_nil, true_and, and_true, not_true_eq_false, not_false_eq_true, true_implies, false_implies, implies_true, and_self, Int.reduceLT, Int.reduceLE, Int.reduceEq, Int.reduceNe, Int.reduceAdd, Int.reduceSub, Int.reduceMul, Int.reduceNeg, Int.reduceToNat, Int.toNat_natCast, ↓kk_ck, ↓kk_im, ↓kk_in, e_139, s_139_0, s_139_8, s_139_10, s_139_19, s_139_21, s_139_30, s_139_32, s_139_41, s_139_43, s_139_52, s_139_54, s_139_63, s_139_65, s_139_74, s_139_79, s_139_80, s_139_4, s_139_16, s_139_27, s_139_38, s_139_49, s_139_60, s_139_71, a1, e8, h, ne_eq, W3, W4, W5, W6, W7, W8, vi_bt, vi_bf]
        exact hQ
    · rw [if_neg hc] at hQ
      rw [decide_eq_false (by omega)] at W3 W4 W5 W6 W7 W8
      simp (disch := omega) only [Option.toList_some, Option.toList_none, List.nil_append, List.cons_append, List.append_nil, true_and, and_true, not_true_eq_false, not_false_eq_true, true_implies, false_implies, implies_true, and_self, Int.reduceLT, Int.reduceLE, Int.reduceEq, Int.reduceNe, Int.reduceAdd, Int.reduceSub, Int.reduceMul, Int.reduceNeg, Int.reduceToNat, Int.toNat_natCast, ↓kk_ck, ↓kk_im, ↓kk_in, e_139, s_139_0, s_139_8, s_139_10, s_139_19, s_139_21, s_139_30, s_139_32, s_139_41, s_139_43, s_139_52, s_139_54, s_139_63, s_139_65, s_139_74, s_139_79, s_139_80, s_139_4, s_139_16, s_139_27, s_139_38, s_139_49, s_139_60, s_139_71, a1, e8, h, ne_eq, W3, W4, W5, W6, W7, W8, vi_bf]
      exact hQ
end
