/-! Contracts of Reader (at 73; its tape at 74, steps at 75, clauses at 76): bytes, tokens. -/
theorem an8' {y : Int} (h0 : -2147483648 ≤ y) (h1 : y < 2147483648) : vi_and32 y 255 = y % 256 := by
  have := vi_and32w (x := (y % 4294967296).toNat) (k := 8) (by omega)
  have e : ((2 ^ 8 - 1 : Nat) : Int) = 255 := by decide
  have e2 : vi_w32 (((y % 4294967296).toNat : Nat) : Int) = y := by unfold vi_w32; omega
  rw [e, e2] at this
  rw [this]
  omega
/-- the reader's row while it reads: the i-th token, S steps, l parts -/
def rRow (f b : Nat → Int) (n i S l : Nat) : Nat → Int := fun k => if k = 4 then (S : Int) else if k = 6 then (l : Int) else if k = 8 then tKd b n (tI b n i) else if k = 9 then (tI b n i : Int) else if k = 10 then (tE b n (tI b n i) : Int) else f k
/-- the word of a text's place -/
def wI : Nat → Nat
  | 0 => 1
  | 1 => 2
  | 2 => 3
  | 3 => 8
  | 4 => 9
  | 5 => 10
  | 6 => 11
  | 7 => 12
  | 8 => 13
  | 9 => 4
  | 10 => 7
  | 11 => 6
  | _ => 5
def kS (Y : vi_Y) (M : vi_M) : Prop := ∀ i, i < 13 → Y.1 (2 + i) = 13 ∧ (Y.2.2 (2 + i) 0).toNat = 15 + i ∧ Y.2.2 (2 + i) 1 = 0 ∧ Y.1 (15 + i) = 12 ∧ (Y.2.1 (15 + i) : Int) = ((wL (wI i)).length : Int) ∧ ∀ j, j < (wL (wI i)).length → M (15 + i) j = (wL (wI i)).getD j 0
def tOk (b : Nat → Int) : Prop := ∀ p, -128 ≤ b p ∧ b p < 128
theorem wL_b : ∀ i, i < 13 → 1 ≤ (wL (wI i)).length ∧ (wL (wI i)).length ≤ 6 ∧ ∀ j, j < 6 → 0 ≤ (wL (wI i)).getD j 0 ∧ (wL (wI i)).getD j 0 < 128 := by decide
section
variable {d : Nat} {K : Option vi_V → vi_W → Prop} {Y : vi_Y} {M : vi_M} {nn : Nat × Nat} {n : Nat} {b f : Nat → Int}
theorem k_122 (hY : kY Y 112) (hn : M 73 3 = (n : Int)) (h400 : n ≤ 400) (hb : tOk (M 74)) {p : Int} : vi_call GG (d + 1) 122 [.inr (.inr 73), .inl p] (Y, M, nn) K ↔ K (some (.inl (if 0 ≤ p ∧ p < (n : Int) then tB (M 74) p.toNat else -1))) (Y, M, nn) := by
  obtain ⟨a1, a2, a3, a4⟩ := y_73 hY (by omega)
  obtain ⟨c1, c2⟩ := y_74 hY (by omega)
  refine vi_k (r := some (.inl _)) fun Q hQ => ?_
  by_cases h : 0 ≤ p ∧ p < (n : Int)
  · have h1 := hb p.toNat
    have e := an8' (y := M 74 p.toNat) (by omega) (by omega)
    rw [if_pos h, tB, ← e] at hQ
    clear e
    simp (disch := omega) only [Option.toList_some, Option.toList_none, List.nil_append, List.cons_append, List.append_nil, true_and, and_true, not_true_eq_false, not_false_eq_true, true_implies, false_implies, implies_true, and_self, Int.reduceLT, Int.reduceLE, Int.reduceEq, Int.reduceNe, Int.reduceAdd, Int.reduceSub, Int.reduceMul, Int.reduceNeg, Int.reduceToNat, Int.toNat_natCast, ↓kk_ck, ↓kk_im, ↓kk_in, e_122, s_122_0, s_122_4, s_122_12, s_122_21, s_122_34, s_122_35, s_122_9, s_122_17, s_122_25, s_122_18, s_122_27, a1, a2, c1, c2, hn]
    exact hQ
  · rw [if_neg h] at hQ
    simp +contextual (disch := omega) only [Option.toList_some, Option.toList_none, List.nil_append, List.cons_append, List.append_nil, true_and, and_true, not_true_eq_false, not_false_eq_true, true_implies, false_implies, implies_true, and_self, Int.reduceLT, Int.reduceLE, Int.reduceEq, Int.reduceNe, Int.reduceAdd, Int.reduceSub, Int.reduceMul, Int.reduceNeg, Int.reduceToNat, Int.toNat_natCast, ↓kk_ck, ↓kk_im, ↓kk_in, e_122, s_122_0, s_122_4, s_122_12, s_122_21, s_122_34, s_122_35, s_122_9, s_122_17, s_122_25, s_122_18, s_122_27, a1, a2, c1, c2, hn]
    (repeat' first | exact hQ | intro _ | refine And.intro ?_ ?_ | (exfalso; omega))
theorem k_122n (hY : kY Y 112) (hn : M 73 3 = (n : Int)) (h400 : n ≤ 400) (hb : tOk (M 74)) {p : Nat} (hp : p < n) : vi_call GG (d + 1) 122 [.inr (.inr 73), .inl (p : Int)] (Y, M, nn) K ↔ K (some (.inl (tB (M 74) p))) (Y, M, nn) := by
  rw [k_122 hY hn h400 hb, if_pos (by omega), Int.toNat_natCast]
theorem k_144 {s : Int} {w : vi_W} : vi_call GG (d + 1) 144 [.inl s] w K ↔ K (some (.inl (if s = -1 then 0 else tK s))) w := by
  obtain ⟨Y, M, n⟩ := w
  refine vi_k (r := some (.inl _)) fun Q hQ => ?_
  by_cases h : s = -1
  · rw [if_pos h] at hQ
    simp (disch := omega) only [Option.toList_some, Option.toList_none, List.nil_append, List.cons_append, List.append_nil, true_and, and_true, not_true_eq_false, not_false_eq_true, true_implies, false_implies, implies_true, and_self, Int.reduceLT, Int.reduceLE, Int.reduceEq, Int.reduceNe, Int.reduceAdd, Int.reduceSub, Int.reduceMul, Int.reduceNeg, Int.reduceToNat, Int.toNat_natCast, ↓kk_ck, ↓kk_im, ↓kk_in, e_144, s_144_0, s_144_5, s_144_7, s_144_13, s_144_19, s_144_21, s_144_27, s_144_33, s_144_37, s_144_38, h, ne_eq]
    exact hQ
  · rw [if_neg h] at hQ
    unfold tK at hQ
    by_cases h1 : 97 ≤ s ∧ s ≤ 122
    · rw [if_pos h1] at hQ
      simp (disch := omega) only [Option.toList_some, Option.toList_none, List.nil_append, List.cons_append, List.append_nil, true_and, and_true, not_true_eq_false, not_false_eq_true, true_implies, false_implies, implies_true, and_self, Int.reduceLT, Int.reduceLE, Int.reduceEq, Int.reduceNe, Int.reduceAdd, Int.reduceSub, Int.reduceMul, Int.reduceNeg, Int.reduceToNat, Int.toNat_natCast, ↓kk_ck, ↓kk_im, ↓kk_in, e_144, s_144_0, s_144_5, s_144_7, s_144_13, s_144_19, s_144_21, s_144_27, s_144_33, s_144_37, s_144_38, ne_eq]
      exact hQ
    · rw [if_neg h1] at hQ
      by_cases h2 : 48 ≤ s ∧ s ≤ 57
      · rw [if_pos h2] at hQ
        simp +contextual (disch := omega) only [Option.toList_some, Option.toList_none, List.nil_append, List.cons_append, List.append_nil, true_and, and_true, not_true_eq_false, not_false_eq_true, true_implies, false_implies, implies_true, and_self, Int.reduceLT, Int.reduceLE, Int.reduceEq, Int.reduceNe, Int.reduceAdd, Int.reduceSub, Int.reduceMul, Int.reduceNeg, Int.reduceToNat, Int.toNat_natCast, ↓kk_ck, ↓kk_im, ↓kk_in, e_144, s_144_0, s_144_5, s_144_7, s_144_13, s_144_19, s_144_21, s_144_27, s_144_33, s_144_37, s_144_38, ne_eq]
        (repeat' first | exact hQ | intro _ | refine And.intro ?_ ?_ | (exfalso; omega))
      · rw [if_neg h2] at hQ
        simp +contextual (disch := omega) only [Option.toList_some, Option.toList_none, List.nil_append, List.cons_append, List.append_nil, true_and, and_true, not_true_eq_false, not_false_eq_true, true_implies, false_implies, implies_true, and_self, Int.reduceLT, Int.reduceLE, Int.reduceEq, Int.reduceNe, Int.reduceAdd, Int.reduceSub, Int.reduceMul, Int.reduceNeg, Int.reduceToNat, Int.toNat_natCast, ↓kk_ck, ↓kk_im, ↓kk_in, e_144, s_144_0, s_144_5, s_144_7, s_144_13, s_144_19, s_144_21, s_144_27, s_144_33, s_144_37, s_144_38, ne_eq]
        (repeat' first | exact hQ | intro _ | refine And.intro ?_ ?_ | (exfalso; omega))
theorem k_144b {p : Nat} {w : vi_W} : vi_call GG (d + 1) 144 [.inl (tB b p)] w K ↔ K (some (.inl (tK (tB b p)))) w := by
  have := tB_r (b := b) (p := p)
  rw [k_144, if_neg (by omega)]
theorem k_143 (hY : kY Y 112) (hn : M 73 3 = (n : Int)) (h400 : n ≤ 400) (hb : tOk (M 74)) {e : Nat} (he : e ≤ n) (h10 : M 73 10 = (e : Int)) : vi_call GG (d + 3) 143 [.inr (.inr 73)] (Y, M, nn) K ↔ K none (Y, vi_rs M 73 (vi_u (vi_u (vi_u (M 73) 9 (tF (M 74) n e : Int)) 8 (tKd (M 74) n (tF (M 74) n e))) 10 (tE (M 74) n (tF (M 74) n e) : Int)), nn) := by
  obtain ⟨a1, a2, a3, a4⟩ := y_73 hY (by omega)
  refine vi_k (r := none) fun Q hQ => ?_
  have hFl := tF_le (b := M 74) he
  generalize hF : tF (M 74) n e = F at *
  have hEl := tE_le (b := M 74) (n := n) (p := F) hFl.2
  generalize hE : tE (M 74) n F = E at *
  generalize hkd : tKd (M 74) n F = kd at *
  generalize hM2 : vi_rs M 73 (vi_u (vi_u (M 73) 9 (F : Int)) 8 kd) = M2
  have m74 : M2 74 = M 74 := by rw [← hM2, vi_rs_o (by omega)]
  have m3 : M2 73 3 = (n : Int) := by rw [← hM2, vi_rs_s]; exact hn
  have m8 : M2 73 8 = kd := by rw [← hM2, vi_rs_s]; rfl
  have B2 := fun {K : Option vi_V → vi_W → Prop} {p : Nat} (hp : p < n) => @k_122n (d + 1) K Y M2 nn n hY m3 h400 (by rw [m74]; exact hb) p hp
  rw [m74] at B2
  have hQ2 : Q none (Y, vi_rs M2 73 (vi_u (M2 73) 10 (E : Int)), nn) := by
    have e2 : vi_rs M2 73 (vi_u (M2 73) 10 (E : Int)) = vi_rs M 73 (vi_u (vi_u (vi_u (M 73) 9 (F : Int)) 8 kd) 10 (E : Int)) := by rw [← hM2, vi_rs_rs, vi_rs_s]
    rw [e2]
    exact hQ
  have loop2 : ∀ (k p T : Nat), p + k = n → (kd = 1 ∨ kd = 2) → tR (M 74) kd k p = T → min (T : Int) (n : Int) = (E : Int) → vi_ok GG (d + 2) 143 49 [some (.inr (.inr 73)), some (.inl (p : Int))] [] (Y, M2, nn) Q := by
    intro k
    induction k with
    | zero =>
      intro p T hp hk hT hm
      rw [tR] at hT
      subst hT
      rw [s_143_49]
      clear hM2 B2 hQ
      rcases hk with hk | hk
      · simp (disch := omega) only [Option.toList_some, Option.toList_none, List.nil_append, List.cons_append, List.append_nil, true_and, and_true, not_true_eq_false, not_false_eq_true, true_implies, false_implies, implies_true, and_self, Int.reduceLT, Int.reduceLE, Int.reduceEq, Int.reduceNe, Int.reduceAdd, Int.reduceSub, Int.reduceMul, Int.reduceNeg, Int.reduceToNat, Int.toNat_natCast, ↓kk_ck, ↓kk_im, ↓kk_in, s_143_0, s_143_13, s_143_23, s_143_29, s_143_57, s_143_65, s_143_73, s_143_88, s_143_94, s_143_4, s_143_10, s_143_18, s_143_34, s_143_53, s_143_61, s_143_70, s_143_78, s_143_100, s_143_40, s_143_81, s_143_103, s_143_43, s_143_85, s_143_106, s_143_46, a1, m3, m8, hk, ne_eq, k_360, hm, vi_ms_rs]
        exact hQ2
      · simp (disch := omega) only [Option.toList_some, Option.toList_none, List.nil_append, List.cons_append, List.append_nil, true_and, and_true, not_true_eq_false, not_false_eq_true, true_implies, false_implies, implies_true, and_self, Int.reduceLT, Int.reduceLE, Int.reduceEq, Int.reduceNe, Int.reduceAdd, Int.reduceSub, Int.reduceMul, Int.reduceNeg, Int.reduceToNat, Int.toNat_natCast, ↓kk_ck, ↓kk_im, ↓kk_in, s_143_0, s_143_13, s_143_23, s_143_29, s_143_57, s_143_65, s_143_73, s_143_88, s_143_94, s_143_4, s_143_10, s_143_18, s_143_34, s_143_53, s_143_61, s_143_70, s_143_78, s_143_100, s_143_40, s_143_81, s_143_103, s_143_43, s_143_85, s_143_106, s_143_46, a1, m3, m8, hk, ne_eq, k_360, hm, vi_ms_rs]
        exact hQ2
    | succ k ih =>
      intro p T hp hk hT hm
      rw [tR] at hT
      rw [s_143_49]
      by_cases h : tK (tB (M 74) p) = kd
      · rw [if_pos h] at hT
        have := ih (p + 1) T (by omega) hk hT hm
        have B := fun {K : Option vi_V → vi_W → Prop} => @B2 K p (by omega)
        clear hM2 B2 hQ ih
        rcases hk with hk | hk
        · simp (disch := omega) only [Option.toList_some, Option.toList_none, List.nil_append, List.cons_append, List.append_nil, true_and, and_true, not_true_eq_false, not_false_eq_true, true_implies, false_implies, implies_true, and_self, Int.reduceLT, Int.reduceLE, Int.reduceEq, Int.reduceNe, Int.reduceAdd, Int.reduceSub, Int.reduceMul, Int.reduceNeg, Int.reduceToNat, Int.toNat_natCast, ↓kk_ck, ↓kk_im, ↓kk_in, s_143_0, s_143_13, s_143_23, s_143_29, s_143_57, s_143_65, s_143_73, s_143_88, s_143_94, s_143_4, s_143_10, s_143_18, s_143_34, s_143_53, s_143_61, s_143_70, s_143_78, s_143_100, s_143_40, s_143_81, s_143_103, s_143_43, s_143_85, s_143_106, s_143_46, a1, m3, m8, hk, ne_eq, B, k_144b, h, vi_inc]
          exact this
        · simp (disch := omega) only [Option.toList_some, Option.toList_none, List.nil_append, List.cons_append, List.append_nil, true_and, and_true, not_true_eq_false, not_false_eq_true, true_implies, false_implies, implies_true, and_self, Int.reduceLT, Int.reduceLE, Int.reduceEq, Int.reduceNe, Int.reduceAdd, Int.reduceSub, Int.reduceMul, Int.reduceNeg, Int.reduceToNat, Int.toNat_natCast, ↓kk_ck, ↓kk_im, ↓kk_in, s_143_0, s_143_13, s_143_23, s_143_29, s_143_57, s_143_65, s_143_73, s_143_88, s_143_94, s_143_4, s_143_10, s_143_18, s_143_34, s_143_53, s_143_61, s_143_70, s_143_78, s_143_100, s_143_40, s_143_81, s_143_103, s_143_43, s_143_85, s_143_106, s_143_46, a1, m3, m8, hk, ne_eq, B, k_144b, h, vi_inc]
          exact this
      · rw [if_neg h] at hT
        subst hT
        have B := fun {K : Option vi_V → vi_W → Prop} => @B2 K p (by omega)
        clear hM2 B2 hQ ih
        rcases hk with hk | hk
        · rw [hk] at h m8
          simp (disch := omega) only [Option.toList_some, Option.toList_none, List.nil_append, List.cons_append, List.append_nil, true_and, and_true, not_true_eq_false, not_false_eq_true, true_implies, false_implies, implies_true, and_self, Int.reduceLT, Int.reduceLE, Int.reduceEq, Int.reduceNe, Int.reduceAdd, Int.reduceSub, Int.reduceMul, Int.reduceNeg, Int.reduceToNat, Int.toNat_natCast, ↓kk_ck, ↓kk_im, ↓kk_in, s_143_0, s_143_13, s_143_23, s_143_29, s_143_57, s_143_65, s_143_73, s_143_88, s_143_94, s_143_4, s_143_10, s_143_18, s_143_34, s_143_53, s_143_61, s_143_70, s_143_78, s_143_100, s_143_40, s_143_81, s_143_103, s_143_43, s_143_85, s_143_106, s_143_46, a1, m3, m8, hk, ne_eq, B, k_144b, h, k_360, hm, vi_ms_rs]
          exact hQ2
        · rw [hk] at h m8
          simp (disch := omega) only [Option.toList_some, Option.toList_none, List.nil_append, List.cons_append, List.append_nil, true_and, and_true, not_true_eq_false, not_false_eq_true, true_implies, false_implies, implies_true, and_self, Int.reduceLT, Int.reduceLE, Int.reduceEq, Int.reduceNe, Int.reduceAdd, Int.reduceSub, Int.reduceMul, Int.reduceNeg, Int.reduceToNat, Int.toNat_natCast, ↓kk_ck, ↓kk_im, ↓kk_in, s_143_0, s_143_13, s_143_23, s_143_29, s_143_57, s_143_65, s_143_73, s_143_88, s_143_94, s_143_4, s_143_10, s_143_18, s_143_34, s_143_53, s_143_61, s_143_70, s_143_78, s_143_100, s_143_40, s_143_81, s_143_103, s_143_43, s_143_85, s_143_106, s_143_46, a1, m3, m8, hk, ne_eq, B, k_144b, h, k_360, hm, vi_ms_rs]
          exact hQ2
  have loop1 : ∀ (k p : Nat), p + k = n → tS (M 74) k p = F → vi_ok GG (d + 2) 143 29 [some (.inr (.inr 73)), some (.inl (F : Int))] [] (Y, M, nn) Q → vi_ok GG (d + 2) 143 5 [some (.inr (.inr 73)), some (.inl (p : Int))] [] (Y, M, nn) Q := by
    intro k
    induction k with
    | zero =>
      intro p hp hs hc
      rw [tS] at hs
      subst hs
      rw [s_143_5]
      clear hM2 B2 hQ loop2
      simp (disch := omega) only [Option.toList_some, Option.toList_none, List.nil_append, List.cons_append, List.append_nil, true_and, and_true, not_true_eq_false, not_false_eq_true, true_implies, false_implies, implies_true, and_self, Int.reduceLT, Int.reduceLE, Int.reduceEq, Int.reduceNe, Int.reduceAdd, Int.reduceSub, Int.reduceMul, Int.reduceNeg, Int.reduceToNat, Int.toNat_natCast, ↓kk_ck, ↓kk_im, ↓kk_in, s_143_10, a1, hn]
      exact hc
    | succ k ih =>
      intro p hp hs hc
      rw [tS] at hs
      have B := fun {K : Option vi_V → vi_W → Prop} => @k_122n (d + 1) K Y M nn n hY hn h400 hb p (by omega)
      rw [s_143_5]
      by_cases h : tB (M 74) p = 32
      · rw [if_pos h] at hs
        have := ih (p + 1) (by omega) hs hc
        clear hM2 B2 hQ loop2 ih
        simp (disch := omega) only [Option.toList_some, Option.toList_none, List.nil_append, List.cons_append, List.append_nil, true_and, and_true, not_true_eq_false, not_false_eq_true, true_implies, false_implies, implies_true, and_self, Int.reduceLT, Int.reduceLE, Int.reduceEq, Int.reduceNe, Int.reduceAdd, Int.reduceSub, Int.reduceMul, Int.reduceNeg, Int.reduceToNat, Int.toNat_natCast, ↓kk_ck, ↓kk_im, ↓kk_in, s_143_10, s_143_13, s_143_18, s_143_23, a1, hn, B, h, ne_eq, vi_inc]
        exact this
      · rw [if_neg h] at hs
        subst hs
        clear hM2 B2 hQ loop2 ih
        simp (disch := omega) only [Option.toList_some, Option.toList_none, List.nil_append, List.cons_append, List.append_nil, true_and, and_true, not_true_eq_false, not_false_eq_true, true_implies, false_implies, implies_true, and_self, Int.reduceLT, Int.reduceLE, Int.reduceEq, Int.reduceNe, Int.reduceAdd, Int.reduceSub, Int.reduceMul, Int.reduceNeg, Int.reduceToNat, Int.toNat_natCast, ↓kk_ck, ↓kk_im, ↓kk_in, s_143_10, s_143_13, s_143_18, a1, hn, B, h, ne_eq]
        exact hc
  have := loop1 (n - e) e (by omega) hF (by
    by_cases hFn : F < n
    · have B := fun {K : Option vi_V → vi_W → Prop} {g : Nat → Int} (h : g 3 = (n : Int)) => @k_122n (d + 1) K Y (vi_rs M 73 g) nn n hY (by rw [vi_rs_s]; exact h) h400 (by rw [vi_rs_o (by omega)]; exact hb) F hFn
      have e74 : ∀ g, vi_rs M 73 g 74 = M 74 := fun g => vi_rs_o (by omega)
      simp only [e74] at B
      have B1 := fun {K : Option vi_V → vi_W → Prop} => @B K (vi_u (M 73) 9 (F : Int)) hn
      have hkd' : tK (tB (M 74) F) = kd := by rw [← hkd, tKd, if_pos hFn]
      have hE' : E = if kd = 3 then F + 1 else tR (M 74) kd (n - (F + 1)) (F + 1) := by rw [← hE, tE, if_pos hFn, hkd']
      have next : vi_ok GG (d + 2) 143 49 [some (.inr (.inr 73)), some (.inl ((F + 1 : Nat) : Int))] [] (Y, M2, nn) Q := by
        by_cases h3 : kd = 3
        · rw [if_pos h3] at hE'
          have hm : min ((F + 1 : Nat) : Int) (n : Int) = (E : Int) := by omega
          rw [s_143_49]
          clear hM2 B2 hQ loop2 loop1 B B1
          simp (disch := omega) only [Option.toList_some, Option.toList_none, List.nil_append, List.cons_append, List.append_nil, true_and, and_true, not_true_eq_false, not_false_eq_true, true_implies, false_implies, implies_true, and_self, Int.reduceLT, Int.reduceLE, Int.reduceEq, Int.reduceNe, Int.reduceAdd, Int.reduceSub, Int.reduceMul, Int.reduceNeg, Int.reduceToNat, Int.toNat_natCast, ↓kk_ck, ↓kk_im, ↓kk_in, s_143_0, s_143_13, s_143_23, s_143_29, s_143_57, s_143_65, s_143_73, s_143_88, s_143_94, s_143_4, s_143_10, s_143_18, s_143_34, s_143_53, s_143_61, s_143_70, s_143_78, s_143_100, s_143_40, s_143_81, s_143_103, s_143_43, s_143_85, s_143_106, s_143_46, a1, m3, m8, h3, ne_eq, k_360, hm, vi_ms_rs]
          exact hQ2
        · rw [if_neg h3] at hE'
          have hr : kd = 1 ∨ kd = 2 := by
            rcases tK_r (s := tB (M 74) F) with h | h | h
            · left; rw [← hkd', h]
            · right; rw [← hkd', h]
            · exact absurd (by rw [← hkd', h]) h3
          exact loop2 (n - (F + 1)) (F + 1) E (by omega) hr hE'.symm (by omega)
      have e2 : vi_rs (vi_rs M 73 (vi_u (M 73) 9 (F : Int))) 73 (vi_u (vi_u (M 73) 9 (F : Int)) 8 kd) = M2 := by rw [vi_rs_rs, hM2]
      clear B2 hQ loop2 loop1 B m74 m3 m8 hM2
      simp (disch := omega) only [Option.toList_some, Option.toList_none, List.nil_append, List.cons_append, List.append_nil, true_and, and_true, not_true_eq_false, not_false_eq_true, true_implies, false_implies, implies_true, and_self, Int.reduceLT, Int.reduceLE, Int.reduceEq, Int.reduceNe, Int.reduceAdd, Int.reduceSub, Int.reduceMul, Int.reduceNeg, Int.reduceToNat, Int.toNat_natCast, ↓kk_ck, ↓kk_im, ↓kk_in, s_143_0, s_143_13, s_143_23, s_143_29, s_143_57, s_143_65, s_143_73, s_143_88, s_143_94, s_143_4, s_143_10, s_143_18, s_143_34, s_143_53, s_143_61, s_143_70, s_143_78, s_143_100, s_143_40, s_143_81, s_143_103, s_143_43, s_143_85, s_143_106, s_143_46, a1, vi_ms_rs, B1, k_144b, hkd', vi_rs_s, vi_inc, e2]
      exact next
    · obtain rfl : F = n := by omega
      have hkd' : kd = 0 := by rw [← hkd, tKd, if_neg hFn]
      have hE' : E = F := by rw [← hE, tE, if_neg hFn]
      have B1 := fun {K : Option vi_V → vi_W → Prop} => @k_122 (d + 1) K Y (vi_rs M 73 (vi_u (M 73) 9 (F : Int))) nn F hY (by rw [vi_rs_s]; exact hn) h400 (by rw [vi_rs_o (by omega)]; exact hb) (F : Int)
      rw [if_neg (by omega)] at B1
      have e2 : vi_rs (vi_rs M 73 (vi_u (M 73) 9 (F : Int))) 73 (vi_u (vi_u (M 73) 9 (F : Int)) 8 0) = M2 := by rw [vi_rs_rs, ← hM2, hkd']
      have hm : min ((F + 1 : Nat) : Int) (F : Int) = (E : Int) := by omega
      have k144 := fun {K : Option vi_V → vi_W → Prop} {w : vi_W} => @k_144 (d + 1) K (-1) w
      rw [if_pos rfl] at k144
      clear B2 hQ loop2 loop1 m74 hM2
      simp (disch := omega) only [Option.toList_some, Option.toList_none, List.nil_append, List.cons_append, List.append_nil, true_and, and_true, not_true_eq_false, not_false_eq_true, true_implies, false_implies, implies_true, and_self, Int.reduceLT, Int.reduceLE, Int.reduceEq, Int.reduceNe, Int.reduceAdd, Int.reduceSub, Int.reduceMul, Int.reduceNeg, Int.reduceToNat, Int.toNat_natCast, ↓kk_ck, ↓kk_im, ↓kk_in, s_143_0, s_143_13, s_143_23, s_143_29, s_143_57, s_143_65, s_143_73, s_143_88, s_143_94, s_143_4, s_143_10, s_143_18, s_143_34, s_143_53, s_143_61, s_143_70, s_143_78, s_143_100, s_143_40, s_143_81, s_143_103, s_143_43, s_143_85, s_143_106, s_143_46, a1, vi_ms_rs, B1, k144, vi_rs_s, vi_inc, e2]
      rw [s_143_49]
      simp (disch := omega) only [Option.toList_some, Option.toList_none, List.nil_append, List.cons_append, List.append_nil, true_and, and_true, not_true_eq_false, not_false_eq_true, true_implies, false_implies, implies_true, and_self, Int.reduceLT, Int.reduceLE, Int.reduceEq, Int.reduceNe, Int.reduceAdd, Int.reduceSub, Int.reduceMul, Int.reduceNeg, Int.reduceToNat, Int.toNat_natCast, ↓kk_ck, ↓kk_im, ↓kk_in, s_143_0, s_143_13, s_143_23, s_143_29, s_143_57, s_143_65, s_143_73, s_143_88, s_143_94, s_143_4, s_143_10, s_143_18, s_143_34, s_143_53, s_143_61, s_143_70, s_143_78, s_143_100, s_143_40, s_143_81, s_143_103, s_143_43, s_143_85, s_143_106, s_143_46, a1, m3, m8, hkd', ne_eq, k_360, hm, vi_ms_rs]
      exact hQ2)
  clear loop1 loop2 B2 hQ
  simp (disch := omega) only [Option.toList_some, Option.toList_none, List.nil_append, List.cons_append, List.append_nil, true_and, and_true, not_true_eq_false, not_false_eq_true, true_implies, false_implies, implies_true, and_self, Int.reduceLT, Int.reduceLE, Int.reduceEq, Int.reduceNe, Int.reduceAdd, Int.reduceSub, Int.reduceMul, Int.reduceNeg, Int.reduceToNat, Int.toNat_natCast, ↓kk_ck, ↓kk_im, ↓kk_in, e_143, s_143_0, s_143_4, a1, h10]
  exact this
/-- the next token, while reading -/
theorem k_143r (hY : kY Y 112) (h400 : n ≤ 400) (hb : tOk b) (m74 : M 74 = b) (hf : f 3 = (n : Int)) {i S l : Nat} (h73 : M 73 = rRow f b n i S l) : vi_call GG (d + 3) 143 [.inr (.inr 73)] (Y, M, nn) K ↔ K none (Y, vi_rs M 73 (rRow f b n (i + 1) S l), nn) := by
  have hle := tE_le (b := b) (tI_le (b := b) (n := n) i)
  have := @k_143 d K Y M nn n hY (by rw [h73]; exact hf) h400 (by rw [m74]; exact hb) (tE b n (tI b n i)) hle.2.1 (by rw [h73]; rfl)
  rw [this, m74]
  have e : vi_u (vi_u (vi_u (M 73) 9 (tF b n (tE b n (tI b n i)) : Int)) 8 (tKd b n (tF b n (tE b n (tI b n i))))) 10 (tE b n (tF b n (tE b n (tI b n i))) : Int) = rRow f b n (i + 1) S l := by
    funext k
    rw [h73]
    unfold vi_u rRow
    rw [show tI b n (i + 1) = tF b n (tE b n (tI b n i)) from rfl]
    by_cases h10 : k = 10
    · subst h10; rfl
    · by_cases h8 : k = 8
      · subst h8; rfl
      · by_cases h9 : k = 9
        · subst h9; rfl
        · simp only [if_neg h10, if_neg h8, if_neg h9]
  rw [e]
theorem k_146 (hY : kY Y 112) (h400 : n ≤ 400) (hb : tOk b) (m74 : M 74 = b) (hf : f 3 = (n : Int)) {i S l : Nat} (h73 : M 73 = rRow f b n i S l) {c : Int} (hc : 32 < c ∧ tK c = 3) : vi_call GG (d + 2) 146 [.inr (.inr 73), .inl c] (Y, M, nn) K ↔ K (some (.inl (vi_b (decide (tCd b n i = 100 + c))))) (Y, M, nn) := by
  obtain ⟨a1, a2, a3, a4⟩ := y_73 hY (by omega)
  refine vi_k (r := some (.inl _)) fun Q hQ => ?_
  have e3 : M 73 3 = (n : Int) := by rw [h73]; exact hf
  have e8 : M 73 8 = tKd b n (tI b n i) := by rw [h73]; rfl
  have e9 : M 73 9 = (tI b n i : Int) := by rw [h73]; rfl
  rcases tKd_r (b := b) (n := n) (p := tI b n i) with ⟨h, -⟩ | ⟨h | h | h, hlt⟩
  · rw [decide_eq_false (fun k => by rw [tCd_sg hc, h] at k; exact absurd k.1 (by decide))] at hQ
    simp (disch := omega) only [Option.toList_some, Option.toList_none, List.nil_append, List.cons_append, List.append_nil, true_and, and_true, not_true_eq_false, not_false_eq_true, true_implies, false_implies, implies_true, and_self, Int.reduceLT, Int.reduceLE, Int.reduceEq, Int.reduceNe, Int.reduceAdd, Int.reduceSub, Int.reduceMul, Int.reduceNeg, Int.reduceToNat, Int.toNat_natCast, ↓kk_ck, ↓kk_im, ↓kk_in, e_146, s_146_0, s_146_8, s_146_20, s_146_24, s_146_25, s_146_4, s_146_13, s_146_16, a1, e8, h, ne_eq]
    exact hQ
  · rw [decide_eq_false (fun k => by rw [tCd_sg hc, h] at k; exact absurd k.1 (by decide))] at hQ
    simp (disch := omega) only [Option.toList_some, Option.toList_none, List.nil_append, List.cons_append, List.append_nil, true_and, and_true, not_true_eq_false, not_false_eq_true, true_implies, false_implies, implies_true, and_self, Int.reduceLT, Int.reduceLE, Int.reduceEq, Int.reduceNe, Int.reduceAdd, Int.reduceSub, Int.reduceMul, Int.reduceNeg, Int.reduceToNat, Int.toNat_natCast, ↓kk_ck, ↓kk_im, ↓kk_in, e_146, s_146_0, s_146_8, s_146_20, s_146_24, s_146_25, s_146_4, s_146_13, s_146_16, a1, e8, h, ne_eq]
    exact hQ
  · rw [decide_eq_false (fun k => by rw [tCd_sg hc, h] at k; exact absurd k.1 (by decide))] at hQ
    simp (disch := omega) only [Option.toList_some, Option.toList_none, List.nil_append, List.cons_append, List.append_nil, true_and, and_true, not_true_eq_false, not_false_eq_true, true_implies, false_implies, implies_true, and_self, Int.reduceLT, Int.reduceLE, Int.reduceEq, Int.reduceNe, Int.reduceAdd, Int.reduceSub, Int.reduceMul, Int.reduceNeg, Int.reduceToNat, Int.toNat_natCast, ↓kk_ck, ↓kk_im, ↓kk_in, e_146, s_146_0, s_146_8, s_146_20, s_146_24, s_146_25, s_146_4, s_146_13, s_146_16, a1, e8, h, ne_eq]
    exact hQ
  · have B := fun {K : Option vi_V → vi_W → Prop} => @k_122n d K Y M nn n hY e3 h400 (by rw [m74]; exact hb) (tI b n i) hlt
    rw [m74] at B
    by_cases hs : tB b (tI b n i) = c
    · rw [decide_eq_true ((tCd_sg hc).mpr ⟨h, hs⟩)] at hQ
      simp (disch := omega) only [Option.toList_some, Option.toList_none, List.nil_append, List.cons_append, List.append_nil, true_and, and_true, not_true_eq_false, not_false_eq_true, true_implies, false_implies, implies_true, and_self, Int.reduceLT, Int.reduceLE, Int.reduceEq, Int.reduceNe, Int.reduceAdd, Int.reduceSub, Int.reduceMul, Int.reduceNeg, Int.reduceToNat, Int.toNat_natCast, ↓kk_ck, ↓kk_im, ↓kk_in, e_146, s_146_0, s_146_8, s_146_20, s_146_24, s_146_25, s_146_4, s_146_13, s_146_16, a1, e8, h, ne_eq, e9, B, hs]
      exact hQ
    · rw [decide_eq_false (fun k => hs ((tCd_sg hc).mp k).2)] at hQ
      simp (disch := omega) only [Option.toList_some, Option.toList_none, List.nil_append, List.cons_append, List.append_nil, true_and, and_true, not_true_eq_false, not_false_eq_true, true_implies, false_implies, implies_true, and_self, Int.reduceLT, Int.reduceLE, Int.reduceEq, Int.reduceNe, Int.reduceAdd, Int.reduceSub, Int.reduceMul, Int.reduceNeg, Int.reduceToNat, Int.toNat_natCast, ↓kk_ck, ↓kk_im, ↓kk_in, e_146, s_146_0, s_146_8, s_146_20, s_146_24, s_146_25, s_146_4, s_146_13, s_146_16, a1, e8, h, ne_eq, e9, B, hs]
      exact hQ
theorem k_147 (hY : kY Y 112) (h400 : n ≤ 400) (hb : tOk b) (m74 : M 74 = b) (hf : f 3 = (n : Int)) {i S l : Nat} (h73 : M 73 = rRow f b n i S l) {c : Int} (hc : 32 < c ∧ tK c = 3) : vi_call GG (d + 4) 147 [.inr (.inr 73), .inl c] (Y, M, nn) K ↔ K (some (.inl (vi_b (decide (tCd b n i = 100 + c))))) (Y, vi_rs M 73 (rRow f b n (if tCd b n i = 100 + c then i + 1 else i) S l), nn) := by
  obtain ⟨a1, a2, a3, a4⟩ := y_73 hY (by omega)
  refine vi_k (r := some (.inl _)) fun Q hQ => ?_
  have S1 := fun {K : Option vi_V → vi_W → Prop} => @k_146 (d + 1) K Y M nn n b f hY h400 hb m74 hf i S l h73 c hc
  have N1 := fun {K : Option vi_V → vi_W → Prop} => @k_143r d K Y M nn n b f hY h400 hb m74 hf i S l h73
  by_cases hs : tCd b n i = 100 + c
  · rw [if_pos hs, decide_eq_true hs] at hQ
    rw [decide_eq_true hs] at S1
    simp (disch := omega) only [Option.toList_some, Option.toList_none, List.nil_append, List.cons_append, List.append_nil, true_and, and_true, not_true_eq_false, not_false_eq_true, true_implies, false_implies, implies_true, and_self, Int.reduceLT, Int.reduceLE, Int.reduceEq, Int.reduceNe, Int.reduceAdd, Int.reduceSub, Int.reduceMul, Int.reduceNeg, Int.reduceToNat, Int.toNat_natCast, ↓kk_ck, ↓kk_im, ↓kk_in, e_147, s_147_0, s_147_10, s_147_14, s_147_5, a1, S1, vi_bt, N1]
    exact hQ
  · rw [if_neg hs, decide_eq_false hs, vi_rs_id h73] at hQ
    rw [decide_eq_false hs] at S1
    simp (disch := omega) only [Option.toList_some, Option.toList_none, List.nil_append, List.cons_append, List.append_nil, true_and, and_true, not_true_eq_false, not_false_eq_true, true_implies, false_implies, implies_true, and_self, Int.reduceLT, Int.reduceLE, Int.reduceEq, Int.reduceNe, Int.reduceAdd, Int.reduceSub, Int.reduceMul, Int.reduceNeg, Int.reduceToNat, Int.toNat_natCast, ↓kk_ck, ↓kk_im, ↓kk_in, e_147, s_147_0, s_147_10, s_147_14, s_147_5, a1, S1, vi_bf]
    exact hQ
theorem k_362 {q : Nat} (h1 : Y.1 (2 + q) = 13) (h2 : (Y.2.2 (2 + q) 0).toNat = 15 + q) (h3 : Y.2.2 (2 + q) 1 = 0) (h4 : Y.1 (15 + q) = 12) {k : Nat} (h5 : (Y.2.1 (15 + q) : Int) = (k : Int)) : vi_call GG (d + 2) 362 [.inr (.inr (2 + q))] (Y, M, nn) K ↔ K (some (.inl (k : Int))) (Y, M, nn) := by
  refine vi_k (r := some (.inl _)) fun Q hQ => ?_
  have e : vi_shr32 (k : Int) 0 = (k : Int) := by unfold vi_shr32; simp
  simp (disch := omega) only [Option.toList_some, Option.toList_none, List.nil_append, List.cons_append, List.append_nil, true_and, and_true, not_true_eq_false, not_false_eq_true, true_implies, false_implies, implies_true, and_self, Int.reduceLT, Int.reduceLE, Int.reduceEq, Int.reduceNe, Int.reduceAdd, Int.reduceSub, Int.reduceMul, Int.reduceNeg, Int.reduceToNat, Int.toNat_natCast, ↓kk_ck, ↓kk_im, ↓kk_in, e_362, s_362_0, s_362_4, s_362_5, s_362_9, e_364, s_364_0, s_364_6, s_364_13, s_364_14, s_364_10, h1, h2, h3, h4, h5, e]
  exact hQ
theorem k_363 {q : Nat} (h1 : Y.1 (2 + q) = 13) (h2 : (Y.2.2 (2 + q) 0).toNat = 15 + q) (h3 : Y.2.2 (2 + q) 1 = 0) (h4 : Y.1 (15 + q) = 12) {k : Nat} (h5 : (Y.2.1 (15 + q) : Int) = (k : Int)) {j : Nat} (hj : j < k) {v : Int} (hv : M (15 + q) j = v) (h0 : 0 ≤ v ∧ v < 128) : vi_call GG (d + 4) 363 [.inr (.inr (2 + q)), .inl (j : Int)] (Y, M, nn) K ↔ K (some (.inl v)) (Y, M, nn) := by
  refine vi_k (r := some (.inl _)) fun Q hQ => ?_
  have e : vi_nar 5 (vi_and32 v 255) = v := by
    rw [an8' (by omega) (by omega)]
    show v % 256 % 65536 = v
    omega
  simp (disch := omega) only [Option.toList_some, Option.toList_none, List.nil_append, List.cons_append, List.append_nil, true_and, and_true, not_true_eq_false, not_false_eq_true, true_implies, false_implies, implies_true, and_self, Int.reduceLT, Int.reduceLE, Int.reduceEq, Int.reduceNe, Int.reduceAdd, Int.reduceSub, Int.reduceMul, Int.reduceNeg, Int.reduceToNat, Int.toNat_natCast, ↓kk_ck, ↓kk_im, ↓kk_in, e_363, s_363_0, s_363_7, s_363_16, s_363_4, s_363_11, s_363_20, s_363_15, e_365, s_365_0, s_365_6, s_365_13, s_365_17, s_365_18, s_365_10, e_366, s_366_0, s_366_8, e_367, s_367_0, s_367_3, s_367_6, s_367_9, e_368, s_368_0, s_368_4, s_368_9, s_368_16, h1, h2, h3, h4, h5, hv, e, ne_eq]
  exact hQ
theorem k_145 (hY : kY Y 112) (hk : kS Y M) (h400 : n ≤ 400) (hb : tOk b) (m74 : M 74 = b) (hf : f 3 = (n : Int)) {i S l : Nat} (h73 : M 73 = rRow f b n i S l) {q : Nat} (hq : q < 13) : vi_call GG (d + 5) 145 [.inr (.inr 73), .inr (.inr (2 + q))] (Y, M, nn) K ↔ K (some (.inl (vi_b (decide (tCd b n i = (wI q : Int)))))) (Y, M, nn) := by
  obtain ⟨a1, a2, a3, a4⟩ := y_73 hY (by omega)
  obtain ⟨s1, s2, s3, s4, s5, s6⟩ := hk q hq
  obtain ⟨w1, w2, w3⟩ := wL_b q hq
  have hw : 1 ≤ wI q ∧ wI q ≤ 13 := by
    have : ∀ q, q < 13 → 1 ≤ wI q ∧ wI q ≤ 13 := by decide
    exact this q hq
  have hiff := tCd_w (b := b) (n := n) (i := i) hw.1 hw.2
  have e3 : M 73 3 = (n : Int) := by rw [h73]; exact hf
  have e8 : M 73 8 = tKd b n (tI b n i) := by rw [h73]; rfl
  have e9 : M 73 9 = (tI b n i : Int) := by rw [h73]; rfl
  have e10 : M 73 10 = (tE b n (tI b n i) : Int) := by rw [h73]; rfl
  have hle := tE_le (b := b) (tI_le (b := b) (n := n) i)
  have L := fun {K : Option vi_V → vi_W → Prop} => @k_362 (d + 2) K Y M nn q s1 s2 s3 s4 _ s5
  refine vi_k (r := some (.inl _)) fun Q hQ => ?_
  by_cases hkd : tKd b n (tI b n i) = 1
  · generalize hp : tI b n i = p at *
    generalize he : tE b n p = e at *
    have eL : (wL (wI q)).length = (wL (wI q)).length := rfl
    by_cases hl : e - p = (wL (wI q)).length
    · generalize hwl : (wL (wI q)).length = wl at *
      have C := fun {K : Option vi_V → vi_W → Prop} {j : Nat} (hj : j < wl) => @k_363 d K Y M nn q s1 s2 s3 s4 wl s5 j hj _ (s6 j hj) (w3 j (by omega))
      have B := fun {K : Option vi_V → vi_W → Prop} {j : Nat} (hj : j < wl) => @k_122n (d + 3) K Y M nn n hY e3 h400 (by rw [m74]; exact hb) (p + j) (by omega)
      rw [m74] at B
      have loop : ∀ j : Nat, j ≤ wl → (∀ k, k < j → tB b (p + k) = (wL (wI q)).getD k 0) → vi_ok GG (d + 4) 145 28 [some (.inr (.inr 73)), some (.inr (.inr (2 + q))), some (.inl (j : Int))] [] (Y, M, nn) Q := by
        refine vi_dn wl ?_ fun j hj ih => ?_
        · intro hall
          have : tL b p e = wL (wI q) := Classical.byContradiction fun k => by
            obtain ⟨j, h1, h2⟩ := tL_ne k (by omega)
            exact h2 (hall j (by omega))
          rw [decide_eq_true (hiff.mpr ⟨hkd, this⟩)] at hQ
          rw [s_145_28]
          clear C B
          simp (disch := omega) only [Option.toList_some, Option.toList_none, List.nil_append, List.cons_append, List.append_nil, true_and, and_true, not_true_eq_false, not_false_eq_true, true_implies, false_implies, implies_true, and_self, Int.reduceLT, Int.reduceLE, Int.reduceEq, Int.reduceNe, Int.reduceAdd, Int.reduceSub, Int.reduceMul, Int.reduceNeg, Int.reduceToNat, Int.toNat_natCast, ↓kk_ck, ↓kk_im, ↓kk_in, s_145_0, s_145_8, s_145_24, s_145_26, s_145_36, s_145_54, s_145_56, s_145_62, s_145_4, s_145_12, s_145_33, s_145_41, s_145_16, s_145_46, s_145_21, s_145_51, a1, s1, L]
          exact hQ
        · intro hall
          have C' := fun {K : Option vi_V → vi_W → Prop} => @C K j hj
          have B' := fun {K : Option vi_V → vi_W → Prop} => @B K j hj
          simp only [Int.natCast_add] at B'
          rw [s_145_28]
          by_cases hh : tB b (p + j) = (wL (wI q)).getD j 0
          · have := ih (fun k hk => by
              by_cases e : k = j
              · rw [e]; exact hh
              · exact hall k (by omega))
            clear C B ih hQ
            simp (disch := omega) only [Option.toList_some, Option.toList_none, List.nil_append, List.cons_append, List.append_nil, true_and, and_true, not_true_eq_false, not_false_eq_true, true_implies, false_implies, implies_true, and_self, Int.reduceLT, Int.reduceLE, Int.reduceEq, Int.reduceNe, Int.reduceAdd, Int.reduceSub, Int.reduceMul, Int.reduceNeg, Int.reduceToNat, Int.toNat_natCast, ↓kk_ck, ↓kk_im, ↓kk_in, s_145_0, s_145_8, s_145_24, s_145_26, s_145_36, s_145_54, s_145_56, s_145_62, s_145_4, s_145_12, s_145_33, s_145_41, s_145_16, s_145_46, s_145_21, s_145_51, a1, s1, L, e9, vi_32, B', C', hh, vi_inc]
            exact this
          · rw [decide_eq_false (fun k => by
              have := (hiff.mp k).2
              refine hh ?_
              rw [← this, tL_at (by omega)])] at hQ
            clear C B ih
            simp (disch := omega) only [Option.toList_some, Option.toList_none, List.nil_append, List.cons_append, List.append_nil, true_and, and_true, not_true_eq_false, not_false_eq_true, true_implies, false_implies, implies_true, and_self, Int.reduceLT, Int.reduceLE, Int.reduceEq, Int.reduceNe, Int.reduceAdd, Int.reduceSub, Int.reduceMul, Int.reduceNeg, Int.reduceToNat, Int.toNat_natCast, ↓kk_ck, ↓kk_im, ↓kk_in, s_145_0, s_145_8, s_145_24, s_145_26, s_145_36, s_145_54, s_145_56, s_145_62, s_145_4, s_145_12, s_145_33, s_145_41, s_145_16, s_145_46, s_145_21, s_145_51, a1, s1, L, e9, vi_32, B', C', hh]
            exact hQ
      have := loop 0 (by omega) (fun k hk => by omega)
      clear loop C B hQ
      simp (disch := omega) only [Option.toList_some, Option.toList_none, List.nil_append, List.cons_append, List.append_nil, true_and, and_true, not_true_eq_false, not_false_eq_true, true_implies, false_implies, implies_true, and_self, Int.reduceLT, Int.reduceLE, Int.reduceEq, Int.reduceNe, Int.reduceAdd, Int.reduceSub, Int.reduceMul, Int.reduceNeg, Int.reduceToNat, Int.toNat_natCast, ↓kk_ck, ↓kk_im, ↓kk_in, e_145, s_145_0, s_145_8, s_145_24, s_145_26, s_145_36, s_145_54, s_145_56, s_145_62, s_145_4, s_145_12, s_145_33, s_145_41, s_145_16, s_145_46, s_145_21, s_145_51, a1, e8, hkd, e9, e10, s1, L, ne_eq, vi_32]
      exact this
    · rw [decide_eq_false (fun k => by
        have := (hiff.mp k).2
        refine hl ?_
        rw [← this, tL_len])] at hQ
      generalize hwl : (wL (wI q)).length = wl at *
      simp (disch := omega) only [Option.toList_some, Option.toList_none, List.nil_append, List.cons_append, List.append_nil, true_and, and_true, not_true_eq_false, not_false_eq_true, true_implies, false_implies, implies_true, and_self, Int.reduceLT, Int.reduceLE, Int.reduceEq, Int.reduceNe, Int.reduceAdd, Int.reduceSub, Int.reduceMul, Int.reduceNeg, Int.reduceToNat, Int.toNat_natCast, ↓kk_ck, ↓kk_im, ↓kk_in, e_145, s_145_0, s_145_8, s_145_24, s_145_26, s_145_36, s_145_54, s_145_56, s_145_62, s_145_4, s_145_12, s_145_33, s_145_41, s_145_16, s_145_46, s_145_21, s_145_51, a1, e8, hkd, e9, e10, s1, L, ne_eq, vi_32]
      exact hQ
  · rw [decide_eq_false (fun k => hkd (hiff.mp k).1)] at hQ
    simp (disch := omega) only [Option.toList_some, Option.toList_none, List.nil_append, List.cons_append, List.append_nil, true_and, and_true, not_true_eq_false, not_false_eq_true, true_implies, false_implies, implies_true, and_self, Int.reduceLT, Int.reduceLE, Int.reduceEq, Int.reduceNe, Int.reduceAdd, Int.reduceSub, Int.reduceMul, Int.reduceNeg, Int.reduceToNat, Int.toNat_natCast, ↓kk_ck, ↓kk_im, ↓kk_in, e_145, s_145_0, s_145_8, s_145_24, s_145_26, s_145_36, s_145_54, s_145_56, s_145_62, s_145_4, s_145_12, s_145_33, s_145_41, s_145_16, s_145_46, s_145_21, s_145_51, a1, e8, hkd, ne_eq]
    exact hQ
end
