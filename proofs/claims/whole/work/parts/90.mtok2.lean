/-! Contracts of the reference, second part: a tape is split. -/
theorem tV_b {b : Nat → Int} : ∀ (k p : Nat) (v : Int), (∀ j, j < k → 48 ≤ b (p + j) ∧ b (p + j) ≤ 57) → 0 ≤ v → v ≤ 10000009 → 0 ≤ tV b k p v ∧ tV b k p v ≤ 10000009
  | 0, _, v, _, h0, h1 => ⟨h0, h1⟩
  | k + 1, p, v, h, h0, h1 => by
    rw [tV]
    have h2 := h 0 (by omega)
    rw [Nat.add_zero] at h2
    refine tV_b k (p + 1) _ (fun j hj => by have := h (j + 1) (by omega); rw [show p + 1 + j = p + (j + 1) by omega]; exact this) ?_ ?_ <;> split <;> omega
/-- the tokens stand in the reference's rows: t of them -/
def mTk (M : vi_M) (b : Nat → Int) (n t : Nat) : Prop := ∀ i, i < t → M 120 i = tCd b n i ∧ M 121 i = tVl b n i ∧ M 122 i = (tI b n i : Int) ∧ tI b n i < n
theorem mTk_u {M : vi_M} {b : Nat → Int} {n t : Nat} {g0 g1 g2 : Nat → Int} (h : mTk M b n t) (h0 : ∀ i, i < t → g0 i = M 120 i) (h1 : ∀ i, i < t → g1 i = M 121 i) (h2 : ∀ i, i < t → g2 i = M 122 i) (e0 : g0 t = tCd b n t) (e1 : g1 t = tVl b n t) (e2 : g2 t = (tI b n t : Int)) (hlt : tI b n t < n) {M' : vi_M} (m0 : M' 120 = g0) (m1 : M' 121 = g1) (m2 : M' 122 = g2) : mTk M' b n (t + 1) := by
  intro i hi
  rw [m0, m1, m2]
  by_cases e : i = t
  · rw [e]; exact ⟨e0, e1, e2, hlt⟩
  · obtain ⟨a, b', c, d⟩ := h i (by omega)
    rw [h0 i (by omega), h1 i (by omega), h2 i (by omega)]
    exact ⟨a, b', c, d⟩
section
variable {d : Nat} {K : Option vi_V → vi_W → Prop} {Y : vi_Y} {M : vi_M} {nn : Nat × Nat} {n : Nat} {b f : Nat → Int}
/-- a row of letters, of digits, passed -/
theorem l_263s (hY : kY Y 151) (hb : tOk b) (m118 : M 118 = b) (h400 : n ≤ 400) {k x3 : Int} {Q : Option vi_V → vi_W → Prop} {T : Nat} {l5 : Option vi_V} (hQ : vi_ok GG (d + 1) 263 68 [some (.inr (.inr 112)), some (.inl (n : Int)), some (.inl k), some (.inl x3), some (.inl (T : Int)), l5] [] (Y, M, nn) Q) : ∀ (j p : Nat), p + j = n → tR b 1 j p = T → vi_ok GG (d + 1) 263 43 [some (.inr (.inr 112)), some (.inl (n : Int)), some (.inl k), some (.inl x3), some (.inl (p : Int)), l5] [] (Y, M, nn) Q := by
  obtain ⟨R1, -, -, -, -, R7, R8, -⟩ := y_112 hY (by omega)
  obtain ⟨t1, t2⟩ := y_118 hY (by omega)
  intro j
  induction j with
  | zero =>
    intro p hp hT
    rw [tR] at hT
    subst hT
    rw [s_263_43]
    simp (disch := omega) only [vi_yes]
    exact hQ
  | succ j ih =>
    intro p hp hT
    rw [tR] at hT
    have hk := tK_1 hb (p := p)
    rw [s_263_43]
    by_cases h : 97 ≤ b p ∧ b p ≤ 122
    · rw [if_pos (hk.mpr h)] at hT
      have := ih (p + 1) (by omega) hT
      clear ih hQ hk
      simp (disch := omega) only [Option.toList_some, Option.toList_none, List.nil_append, List.cons_append, List.append_nil, true_and, and_true, not_true_eq_false, not_false_eq_true, true_implies, false_implies, implies_true, and_self, Int.reduceLT, Int.reduceLE, Int.reduceEq, Int.reduceNe, Int.reduceAdd, Int.reduceSub, Int.reduceMul, Int.reduceNeg, Int.reduceToNat, Int.toNat_natCast, ↓kk_ck, ↓kk_im, ↓kk_in, s_263_49, s_263_53, s_263_56, s_263_59, s_263_62, R1, R8, t1, t2, m118, k_260t, k_260f, vi_bt, vi_inc]
      exact this
    · rw [if_neg (fun q => h (hk.mp q))] at hT
      subst hT
      clear ih hk
      simp (disch := omega) only [Option.toList_some, Option.toList_none, List.nil_append, List.cons_append, List.append_nil, true_and, and_true, not_true_eq_false, not_false_eq_true, true_implies, false_implies, implies_true, and_self, Int.reduceLT, Int.reduceLE, Int.reduceEq, Int.reduceNe, Int.reduceAdd, Int.reduceSub, Int.reduceMul, Int.reduceNeg, Int.reduceToNat, Int.toNat_natCast, ↓kk_ck, ↓kk_im, ↓kk_in, s_263_49, s_263_53, s_263_56, s_263_59, R1, R8, t1, t2, m118, k_260t, k_260f, vi_bf]
      exact hQ
theorem l_263d (hY : kY Y 151) (hb : tOk b) (m118 : M 118 = b) (h400 : n ≤ 400) {k x3 : Int} {Q : Option vi_V → vi_W → Prop} {T : Nat} {l5 : Option vi_V} (hQ : vi_ok GG (d + 1) 263 100 [some (.inr (.inr 112)), some (.inl (n : Int)), some (.inl k), some (.inl x3), some (.inl (T : Int)), l5] [] (Y, M, nn) Q) : ∀ (j p : Nat), p + j = n → tR b 2 j p = T → vi_ok GG (d + 1) 263 75 [some (.inr (.inr 112)), some (.inl (n : Int)), some (.inl k), some (.inl x3), some (.inl (p : Int)), l5] [] (Y, M, nn) Q := by
  obtain ⟨R1, -, -, -, -, R7, R8, -⟩ := y_112 hY (by omega)
  obtain ⟨t1, t2⟩ := y_118 hY (by omega)
  intro j
  induction j with
  | zero =>
    intro p hp hT
    rw [tR] at hT
    subst hT
    rw [s_263_75]
    simp (disch := omega) only [vi_yes]
    exact hQ
  | succ j ih =>
    intro p hp hT
    rw [tR] at hT
    have hk := tK_2 hb (p := p)
    rw [s_263_75]
    by_cases h : 48 ≤ b p ∧ b p ≤ 57
    · rw [if_pos (hk.mpr h)] at hT
      have := ih (p + 1) (by omega) hT
      clear ih hQ hk
      simp (disch := omega) only [Option.toList_some, Option.toList_none, List.nil_append, List.cons_append, List.append_nil, true_and, and_true, not_true_eq_false, not_false_eq_true, true_implies, false_implies, implies_true, and_self, Int.reduceLT, Int.reduceLE, Int.reduceEq, Int.reduceNe, Int.reduceAdd, Int.reduceSub, Int.reduceMul, Int.reduceNeg, Int.reduceToNat, Int.toNat_natCast, ↓kk_ck, ↓kk_im, ↓kk_in, s_263_81, s_263_85, s_263_88, s_263_91, s_263_94, R1, R8, t1, t2, m118, k_261t, k_261f, vi_bt, vi_inc]
      exact this
    · rw [if_neg (fun q => h (hk.mp q))] at hT
      subst hT
      clear ih hk
      simp (disch := omega) only [Option.toList_some, Option.toList_none, List.nil_append, List.cons_append, List.append_nil, true_and, and_true, not_true_eq_false, not_false_eq_true, true_implies, false_implies, implies_true, and_self, Int.reduceLT, Int.reduceLE, Int.reduceEq, Int.reduceNe, Int.reduceAdd, Int.reduceSub, Int.reduceMul, Int.reduceNeg, Int.reduceToNat, Int.toNat_natCast, ↓kk_ck, ↓kk_im, ↓kk_in, s_263_81, s_263_85, s_263_88, s_263_91, R1, R8, t1, t2, m118, k_261t, k_261f, vi_bf]
      exact hQ
/-- what a split leaves behind -/
def mSp (M M' : vi_M) (b : Nat → Int) (n t : Nat) : Prop := t ≤ n ∧ tI b n t = n ∧ (∀ i, i < t → tI b n i < n) ∧ (∀ i, i ≤ t → M' 120 i = tCd b n i ∧ M' 121 i = tVl b n i ∧ M' 122 i = (tI b n i : Int)) ∧ M' 112 = vi_u (M 112) 15 (t : Int) ∧ ∀ p, p ≠ 112 → p ≠ 120 → p ≠ 121 → p ≠ 122 → M' p = M p
theorem k_263 (hY : kY Y 151) (hW : kW M) (hb : tOk b) (m118 : M 118 = b) (h400 : n ≤ 400) : ∃ (t : Nat) (M' : vi_M), mSp M M' b n t ∧ ∀ K : Option vi_V → vi_W → Prop, vi_call GG (d + 2) 263 [.inr (.inr 112), .inl (n : Int)] (Y, M, nn) K ↔ K none (Y, M', nn) := by
  obtain ⟨R1, -, -, -, -, R7, R8, -, R12, R13, R14, -⟩ := y_112 hY (by omega)
  obtain ⟨t1, t2⟩ := y_118 hY (by omega)
  obtain ⟨u1, u2⟩ := y_120 hY (by omega)
  obtain ⟨v1, v2⟩ := y_121 hY (by omega)
  obtain ⟨w1, w2⟩ := y_122 hY (by omega)
  have key : ∀ Q : Option vi_V → vi_W → Prop, (∀ (t : Nat) (M' : vi_M), mSp M M' b n t → Q none (Y, M', nn)) → vi_call GG (d + 2) 263 [.inr (.inr 112), .inl (n : Int)] (Y, M, nn) Q := by
    intro Q hQ
    have main : ∀ (m k t : Nat) (M1 : vi_M) (l3 l4 l5 : Option vi_V), n - k = m → k ≤ n → t ≤ k → tF b n k = tI b n t → mTk M1 b n t → M1 112 = vi_u (M 112) 15 (t : Int) → (∀ p, p ≠ 112 → p ≠ 120 → p ≠ 121 → p ≠ 122 → M1 p = M p) → vi_ok GG (d + 1) 263 7 [some (.inr (.inr 112)), some (.inl (n : Int)), some (.inl (k : Int)), l3, l4, l5] [] (Y, M1, nn) Q := by
      intro m
      induction m using Nat.strongRecOn with
      | ind m ih =>
      intro k t M1 l3 l4 l5 hm hkn htk hF hT h112 hfr
      have e15 : M1 112 15 = (t : Int) := by rw [h112, vi_u_s]
      have m118' : M1 118 = b := by rw [hfr 118 (by omega) (by omega) (by omega) (by omega)]; exact m118
      by_cases hk : k < n
      · have hbk := hb k
        by_cases hbl : b k = 32
        · have hF2 : tF b n (k + 1) = tI b n t := by
            rw [← hF]
            unfold tF
            rw [show n - k = (n - (k + 1)) + 1 by omega, tS, if_pos ((tB_32 hb).mpr hbl)]
          have := fun l3 => ih (n - (k + 1)) (by omega) (k + 1) t M1 l3 l4 l5 rfl (by omega) (by omega) hF2 hT h112 hfr
          rw [s_263_7]
          clear hQ ih hT hF hF2 h112 hfr
          simp (disch := omega) only [Option.toList_some, Option.toList_none, List.nil_append, List.cons_append, List.append_nil, true_and, and_true, not_true_eq_false, not_false_eq_true, true_implies, false_implies, implies_true, and_self, Int.reduceLT, Int.reduceLE, Int.reduceEq, Int.reduceNe, Int.reduceAdd, Int.reduceSub, Int.reduceMul, Int.reduceNeg, Int.reduceToNat, Int.toNat_natCast, ↓kk_ck, ↓kk_im, ↓kk_in, s_263_12, s_263_16, s_263_18, s_263_25, R1, R8, t1, t2, m118', hbl, ne_eq, vi_inc]
          exact this _
        · have hkI : tI b n t = k := by
            rw [← hF]
            unfold tF
            rw [show n - k = (n - (k + 1)) + 1 by omega, tS, if_neg (fun q => hbl ((tB_32 hb).mp q))]
          have hE := tE_le (b := b) (n := n) (p := k) hkn
          have hkE := hE.2.2 hk
          have hkd : tKd b n k = tK (tB b k) := by unfold tKd; rw [if_pos hk]
          have hEd : tE b n k = if tK (tB b k) = 3 then k + 1 else tR b (tK (tB b k)) (n - (k + 1)) (k + 1) := by unfold tE; rw [if_pos hk]
          have hF2 : tF b n (tE b n k) = tI b n (t + 1) := by rw [tI, hkI]
          -- behind the token's end: its place, value, code
          have tail : ∀ l5, vi_ok GG (d + 1) 263 100 [some (.inr (.inr 112)), some (.inl (n : Int)), some (.inl (k : Int)), some (.inl (b k)), some (.inl (tE b n k : Int)), l5] [] (Y, M1, nn) Q := by
            intro l5
            generalize hEE : tE b n k = E at *
            -- from the value's loop on
            have fin : ∀ (g1 : Nat → Int) (x5 : Int) (M2 : vi_M), M2 = vi_rs (vi_rs (vi_rs M1 122 (vi_u (M1 122) t (k : Int))) 120 (vi_u (M1 120) t (tCd b n t))) 121 g1 → (∀ i, i < t → g1 i = M1 121 i) → g1 t = tVl b n t → vi_ok GG (d + 1) 263 247 [some (.inr (.inr 112)), some (.inl (n : Int)), some (.inl (k : Int)), some (.inl (b k)), some (.inl (E : Int)), some (.inl x5)] [] (Y, M2, nn) Q := by
              intro g1 x5 M2 hM2 hg hgt
              have f112 : M2 112 = M1 112 := by rw [hM2, vi_rs_o (by omega), vi_rs_o (by omega), vi_rs_o (by omega)]
              have := fun l3 l4 l5 => ih (n - E) (by omega) E (t + 1) (vi_rs M2 112 (vi_u (M2 112) 15 ((t + 1 : Nat) : Int))) l3 l4 l5 rfl hE.2.1 (by omega) hF2 (mTk_u (g0 := vi_u (M1 120) t (tCd b n t)) (g1 := g1) (g2 := vi_u (M1 122) t (k : Int)) hT (fun i hi => vi_u_o (by omega)) hg (fun i hi => vi_u_o (by omega)) vi_u_s hgt (by rw [vi_u_s, hkI]) (by omega) (by rw [vi_rs_o (by omega), hM2, vi_rs_o (by omega), vi_rs_s]) (by rw [vi_rs_o (by omega), hM2, vi_rs_s]) (by rw [vi_rs_o (by omega), hM2, vi_rs_o (by omega), vi_rs_o (by omega), vi_rs_s])) (by rw [vi_rs_s, f112, h112, vi_u_u]) (fun p p1 p2 p3 p4 => by rw [vi_rs_o p1, hM2, vi_rs_o p3, vi_rs_o p2, vi_rs_o p4]; exact hfr p p1 p2 p3 p4)
              rw [f112] at this
              clear hQ ih hT h112 hfr hM2 hg hgt
              simp (disch := omega) only [Option.toList_some, Option.toList_none, List.nil_append, List.cons_append, List.append_nil, true_and, and_true, not_true_eq_false, not_false_eq_true, true_implies, false_implies, implies_true, and_self, Int.reduceLT, Int.reduceLE, Int.reduceEq, Int.reduceNe, Int.reduceAdd, Int.reduceSub, Int.reduceMul, Int.reduceNeg, Int.reduceToNat, Int.toNat_natCast, ↓kk_ck, ↓kk_im, ↓kk_in, s_263_247, s_263_252, s_263_257, R1, f112, e15, vi_ms_rs, vi_inc]
              exact this _ _ _
            generalize hMc : vi_rs (vi_rs (vi_rs (vi_rs M1 122 (vi_u (M1 122) t (k : Int))) 121 (vi_u (M1 121) t 0)) 120 (vi_u (M1 120) t (tCd b n t))) 121 (vi_u (M1 121) t 0) = Mc
            have hMc0 : vi_rs (vi_rs (vi_rs M1 122 (vi_u (M1 122) t (k : Int))) 121 (vi_u (M1 121) t 0)) 120 (vi_u (M1 120) t (tCd b n t)) = vi_rs (vi_rs (vi_rs M1 122 (vi_u (M1 122) t (k : Int))) 120 (vi_u (M1 120) t (tCd b n t))) 121 (vi_u (M1 121) t 0) := vi_rs_cm (by omega)
            have o112 : ∀ g0 g1 g2 : Nat → Int, vi_rs (vi_rs (vi_rs M1 122 g2) 120 g0) 121 g1 112 = M1 112 := fun g0 g1 g2 => by rw [vi_rs_o (by omega), vi_rs_o (by omega), vi_rs_o (by omega)]
            have o118 : ∀ g0 g1 g2 : Nat → Int, vi_rs (vi_rs (vi_rs M1 122 g2) 120 g0) 121 g1 118 = b := fun g0 g1 g2 => by rw [vi_rs_o (by omega), vi_rs_o (by omega), vi_rs_o (by omega)]; exact m118'
            have o121 : ∀ g0 g1 g2 : Nat → Int, vi_rs (vi_rs (vi_rs M1 122 g2) 120 g0) 121 g1 121 = g1 := fun g0 g1 g2 => vi_rs_s
            have oo1 : ∀ g : Nat → Int, vi_rs M1 122 g 112 = M1 112 := fun g => vi_rs_o (by omega)
            have oo2 : ∀ g : Nat → Int, vi_rs M1 122 g 121 = M1 121 := fun g => vi_rs_o (by omega)
            have oo3 : ∀ g g' : Nat → Int, vi_rs (vi_rs M1 122 g) 121 g' 112 = M1 112 := fun g g' => by rw [vi_rs_o (by omega), vi_rs_o (by omega)]
            have oo4 : ∀ g g' : Nat → Int, vi_rs (vi_rs M1 122 g) 121 g' 120 = M1 120 := fun g g' => by rw [vi_rs_o (by omega), vi_rs_o (by omega)]
            have oo5 : kW (vi_rs (vi_rs M1 122 (vi_u (M1 122) t (k : Int))) 121 (vi_u (M1 121) t 0)) := fun j hj => by
              rw [vi_rs_o (by omega), vi_rs_o (by omega), hfr 117 (by omega) (by omega) (by omega) (by omega)]; exact hW j hj
            have oo6 : vi_rs (vi_rs M1 122 (vi_u (M1 122) t (k : Int))) 121 (vi_u (M1 121) t 0) 118 = b := by rw [vi_rs_o (by omega), vi_rs_o (by omega)]; exact m118'
            have vl0 : tKd b n k ≠ 2 → tVl b n t = 0 := fun h => by unfold tVl; rw [hkI, if_neg h]
            have vl2 : tKd b n k = 2 → tVl b n t = tV b (E - k) k 0 := fun h => by unfold tVl; rw [hkI, hEE, if_pos h]
            have cd : tCd b n t = if tKd b n k = 1 then wC (tL b k E) else if tKd b n k = 2 then 50 else if tKd b n k = 3 then 100 + tB b k else 0 := by unfold tCd; rw [hkI, hEE]
            rw [hkd] at vl0 vl2 cd
            have t400 : t ≤ 400 := by omega
            rcases tK_r (s := tB b k) with h1 | h2 | h3
            · -- letters
              have hs := (tK_1 hb).mp h1
              rw [h1, if_pos rfl] at cd
              have hlet : ∀ j, j < E - k → 0 ≤ b (k + j) ∧ b (k + j) < 128 := fun j hj => by
                rw [h1, if_neg (by decide)] at hEd
                by_cases e : j = 0
                · rw [e, Nat.add_zero]; omega
                · have := (tK_1 hb).mp (tR_in (b := b) (kd := 1) (n - (k + 1)) (k + 1) (k + j) (by omega) (by omega))
                  omega
              have k262 := fun {K : Option vi_V → vi_W → Prop} => @k_262 d K Y (vi_rs (vi_rs M1 122 (vi_u (M1 122) t (k : Int))) 121 (vi_u (M1 121) t 0)) nn hY oo5 k E (by omega) (by omega) (by rw [oo6]; exact hlet)
              rw [oo6, ← cd] at k262
              have := fin (vi_u (M1 121) t 0) (k : Int) _ rfl (fun i hi => vi_u_o (by omega)) (by rw [vi_u_s, vl0 (by omega)])
              rw [← hMc0] at this
              clear hQ ih hT h112 hfr fin vl0 vl2 cd hlet hEd oo5 hMc
              simp (disch := omega) only [Option.toList_some, Option.toList_none, List.nil_append, List.cons_append, List.append_nil, true_and, and_true, not_true_eq_false, not_false_eq_true, true_implies, false_implies, implies_true, and_self, Int.reduceLT, Int.reduceLE, Int.reduceEq, Int.reduceNe, Int.reduceAdd, Int.reduceSub, Int.reduceMul, Int.reduceNeg, Int.reduceToNat, Int.toNat_natCast, ↓kk_ck, ↓kk_im, ↓kk_in, s_263_100, s_263_104, s_263_108, s_263_110, s_263_114, s_263_118, s_263_120, s_263_124, s_263_128, s_263_132, s_263_135, s_263_142, s_263_165, s_263_166, R1, R12, R13, R14, u1, u2, v1, v2, w1, w2, e15, oo1, oo2, oo3, oo4, vi_ms_rs, k_260t, k_260f, vi_bt, k262]
              rw [s_263_169]
              simp (disch := omega) only [Option.toList_some, Option.toList_none, List.nil_append, List.cons_append, List.append_nil, true_and, and_true, not_true_eq_false, not_false_eq_true, true_implies, false_implies, implies_true, and_self, Int.reduceLT, Int.reduceLE, Int.reduceEq, Int.reduceNe, Int.reduceAdd, Int.reduceSub, Int.reduceMul, Int.reduceNeg, Int.reduceToNat, Int.toNat_natCast, ↓kk_ck, ↓kk_im, ↓kk_in, s_263_176, k_261t, k_261f, s_263_180, vi_bf]
              exact this
            · -- digits
              have hs := (tK_2 hb).mp h2
              rw [h2, if_neg (by decide), if_pos rfl] at cd
              have vv := vl2 h2
              have hdig : ∀ j, j < E - k → 48 ≤ b (k + j) ∧ b (k + j) ≤ 57 := fun j hj => by
                rw [h2, if_neg (by decide)] at hEd
                by_cases e : j = 0
                · rw [e, Nat.add_zero]; exact hs
                · exact (tK_2 hb).mp (tR_in (b := b) (kd := 2) (n - (k + 1)) (k + 1) (k + j) (by omega) (by omega))
              have vloop : ∀ (j p : Nat) (v : Int), p + j = E → (∀ i, i < j → 48 ≤ b (p + i) ∧ b (p + i) ≤ 57) → 0 ≤ v → v ≤ 10000009 → tV b j p v = tVl b n t → vi_ok GG (d + 1) 263 169 [some (.inr (.inr 112)), some (.inl (n : Int)), some (.inl (k : Int)), some (.inl (b k)), some (.inl (E : Int)), some (.inl (p : Int))] [] (Y, vi_rs (vi_rs (vi_rs M1 122 (vi_u (M1 122) t (k : Int))) 120 (vi_u (M1 120) t (tCd b n t))) 121 (vi_u (M1 121) t v), nn) Q := by
                intro j
                induction j with
                | zero =>
                  intro p v hp _ h0 h1 hv
                  rw [tV] at hv
                  have := fin (vi_u (M1 121) t v) (p : Int) _ rfl (fun i hi => vi_u_o (by omega)) (by rw [vi_u_s, hv])
                  rw [s_263_169]
                  clear hQ ih hT h112 hfr fin vl0 vl2 cd hdig hEd oo5 hMc
                  simp (disch := omega) only [vi_yes]
                  exact this
                | succ j ihj =>
                  intro p v hp hd h0 h1 hv
                  have d0 := hd 0 (by omega)
                  rw [Nat.add_zero] at d0
                  rw [tV] at hv
                  have := ihj (p + 1) (if 1000000 < v then v else 10 * v + b p - 48) (by omega) (fun i hi => by have := hd (i + 1) (by omega); rw [show p + 1 + i = p + (i + 1) by omega]; exact this) (by split <;> omega) (by split <;> omega) hv
                  rw [s_263_169]
                  by_cases hbig : 1000000 < v
                  · rw [if_pos hbig] at this
                    clear hQ ih hT h112 hfr fin vl0 vl2 cd hdig hEd oo5 hMc hv ihj hd
                    simp (disch := omega) only [Option.toList_some, Option.toList_none, List.nil_append, List.cons_append, List.append_nil, true_and, and_true, not_true_eq_false, not_false_eq_true, true_implies, false_implies, implies_true, and_self, Int.reduceLT, Int.reduceLE, Int.reduceEq, Int.reduceNe, Int.reduceAdd, Int.reduceSub, Int.reduceMul, Int.reduceNeg, Int.reduceToNat, Int.toNat_natCast, ↓kk_ck, ↓kk_im, ↓kk_in, s_263_176, k_261t, k_261f, s_263_180, vi_bt, s_263_183, s_263_187, s_263_191, s_263_195, s_263_199, s_263_200, s_263_205, s_263_209, s_263_213, s_263_214, s_263_240, s_263_241, R1, R13, v1, v2, o112, o121, e15, vi_u_s, vi_ms_rs, vi_rs_rs, vi_u_u, vi_inc]
                    exact this
                  · rw [if_neg hbig] at this
                    clear hQ ih hT h112 hfr fin vl0 vl2 cd hdig hEd oo5 hMc hv ihj hd
                    simp (disch := omega) only [Option.toList_some, Option.toList_none, List.nil_append, List.cons_append, List.append_nil, true_and, and_true, not_true_eq_false, not_false_eq_true, true_implies, false_implies, implies_true, and_self, Int.reduceLT, Int.reduceLE, Int.reduceEq, Int.reduceNe, Int.reduceAdd, Int.reduceSub, Int.reduceMul, Int.reduceNeg, Int.reduceToNat, Int.toNat_natCast, ↓kk_ck, ↓kk_im, ↓kk_in, s_263_176, k_261t, k_261f, s_263_180, vi_bt, s_263_183, s_263_187, s_263_191, s_263_195, s_263_199, s_263_200, s_263_217, s_263_223, s_263_227, s_263_228, s_263_233, s_263_236, s_263_240, s_263_241, R1, R8, R13, t1, t2, v1, v2, o112, o118, o121, e15, vi_u_s, vi_ms_rs, vi_rs_rs, vi_u_u, vi_32, vi_inc]
                    exact this
              have := vloop (E - k) k 0 (by omega) hdig (by omega) (by omega) vv.symm
              rw [← hMc0] at this
              clear hQ ih hT h112 hfr fin vl0 vl2 hdig hEd oo5 hMc vloop
              simp (disch := omega) only [Option.toList_some, Option.toList_none, List.nil_append, List.cons_append, List.append_nil, true_and, and_true, not_true_eq_false, not_false_eq_true, true_implies, false_implies, implies_true, and_self, Int.reduceLT, Int.reduceLE, Int.reduceEq, Int.reduceNe, Int.reduceAdd, Int.reduceSub, Int.reduceMul, Int.reduceNeg, Int.reduceToNat, Int.toNat_natCast, ↓kk_ck, ↓kk_im, ↓kk_in, s_263_100, s_263_104, s_263_108, s_263_110, s_263_114, s_263_118, s_263_120, s_263_124, s_263_128, s_263_132, s_263_145, s_263_149, s_263_152, s_263_165, s_263_166, R1, R12, R13, R14, u1, u2, v1, v2, w1, w2, e15, oo1, oo2, oo3, oo4, vi_ms_rs, k_260t, k_260f, k_261t, k_261f, vi_bt, vi_bf]
              rw [cd] at this
              exact this
            · -- a sign
              have D1 : ¬ (97 ≤ b k ∧ b k ≤ 122) := fun q => by have := (tK_1 hb).mpr q; omega
              have D2 : ¬ (48 ≤ b k ∧ b k ≤ 57) := fun q => by have := (tK_2 hb).mpr q; omega
              rw [h3, if_neg (by decide), if_neg (by decide), if_pos rfl] at cd
              have hr := tB_r (b := b) (p := k)
              have := fin (vi_u (M1 121) t 0) (k : Int) _ rfl (fun i hi => vi_u_o (by omega)) (by rw [vi_u_s, vl0 (by omega)])
              rw [← hMc0] at this
              have ea : b k % 256 = tB b k := rfl
              clear hQ ih hT h112 hfr fin vl0 vl2 hEd oo5 hMc
              simp (disch := omega) only [Option.toList_some, Option.toList_none, List.nil_append, List.cons_append, List.append_nil, true_and, and_true, not_true_eq_false, not_false_eq_true, true_implies, false_implies, implies_true, and_self, Int.reduceLT, Int.reduceLE, Int.reduceEq, Int.reduceNe, Int.reduceAdd, Int.reduceSub, Int.reduceMul, Int.reduceNeg, Int.reduceToNat, Int.toNat_natCast, ↓kk_ck, ↓kk_im, ↓kk_in, s_263_100, s_263_104, s_263_108, s_263_110, s_263_114, s_263_118, s_263_120, s_263_124, s_263_128, s_263_132, s_263_145, s_263_149, s_263_157, s_263_165, s_263_166, R1, R12, R13, R14, u1, u2, v1, v2, w1, w2, e15, oo1, oo2, oo3, oo4, vi_ms_rs, k_260t, k_260f, k_261t, k_261f, vi_bf, an8', ea, vi_32]
              rw [s_263_169]
              simp (disch := omega) only [Option.toList_some, Option.toList_none, List.nil_append, List.cons_append, List.append_nil, true_and, and_true, not_true_eq_false, not_false_eq_true, true_implies, false_implies, implies_true, and_self, Int.reduceLT, Int.reduceLE, Int.reduceEq, Int.reduceNe, Int.reduceAdd, Int.reduceSub, Int.reduceMul, Int.reduceNeg, Int.reduceToNat, Int.toNat_natCast, ↓kk_ck, ↓kk_im, ↓kk_in, s_263_176, k_261t, k_261f, s_263_180, vi_bf]
              rw [cd] at this
              exact this
          -- the token's end
          rcases tK_r (s := tB b k) with h1 | h2 | h3
          · have hs := (tK_1 hb).mp h1
            rw [h1, if_neg (by decide)] at hEd
            have e68 : vi_ok GG (d + 1) 263 68 [some (.inr (.inr 112)), some (.inl (n : Int)), some (.inl (k : Int)), some (.inl (b k)), some (.inl (tE b n k : Int)), l5] [] (Y, M1, nn) Q := by
              have := tail l5
              clear tail hQ ih hT h112 hfr
              simp (disch := omega) only [Option.toList_some, Option.toList_none, List.nil_append, List.cons_append, List.append_nil, true_and, and_true, not_true_eq_false, not_false_eq_true, true_implies, false_implies, implies_true, and_self, Int.reduceLT, Int.reduceLE, Int.reduceEq, Int.reduceNe, Int.reduceAdd, Int.reduceSub, Int.reduceMul, Int.reduceNeg, Int.reduceToNat, Int.toNat_natCast, ↓kk_ck, ↓kk_im, ↓kk_in, s_263_68, k_261t, k_261f, s_263_72, vi_bf]
              exact this
            have := l_263s (d := d) (nn := nn) hY hb m118' h400 e68 (n - (k + 1)) (k + 1) (by omega) hEd.symm
            rw [s_263_7]
            clear tail hQ ih hT h112 hfr e68
            simp (disch := omega) only [Option.toList_some, Option.toList_none, List.nil_append, List.cons_append, List.append_nil, true_and, and_true, not_true_eq_false, not_false_eq_true, true_implies, false_implies, implies_true, and_self, Int.reduceLT, Int.reduceLE, Int.reduceEq, Int.reduceNe, Int.reduceAdd, Int.reduceSub, Int.reduceMul, Int.reduceNeg, Int.reduceToNat, Int.toNat_natCast, ↓kk_ck, ↓kk_im, ↓kk_in, s_263_12, s_263_16, s_263_18, s_263_31, s_263_40, R1, R8, t1, t2, m118', hbl, ne_eq, k_260t, k_260f, vi_bt, vi_inc]
            exact this
          · have hs := (tK_2 hb).mp h2
            rw [h2, if_neg (by decide)] at hEd
            have := l_263d (d := d) (nn := nn) hY hb m118' h400 (tail l5) (n - (k + 1)) (k + 1) (by omega) hEd.symm
            rw [s_263_7]
            clear tail hQ ih hT h112 hfr
            simp (disch := omega) only [Option.toList_some, Option.toList_none, List.nil_append, List.cons_append, List.append_nil, true_and, and_true, not_true_eq_false, not_false_eq_true, true_implies, false_implies, implies_true, and_self, Int.reduceLT, Int.reduceLE, Int.reduceEq, Int.reduceNe, Int.reduceAdd, Int.reduceSub, Int.reduceMul, Int.reduceNeg, Int.reduceToNat, Int.toNat_natCast, ↓kk_ck, ↓kk_im, ↓kk_in, s_263_12, s_263_16, s_263_18, s_263_31, s_263_40, s_263_68, s_263_72, R1, R8, t1, t2, m118', hbl, ne_eq, k_260t, k_260f, k_261t, k_261f, vi_bt, vi_bf, vi_inc]
            exact this
          · have D1 : ¬ (97 ≤ b k ∧ b k ≤ 122) := fun q => by have := (tK_1 hb).mpr q; omega
            have D2 : ¬ (48 ≤ b k ∧ b k ≤ 57) := fun q => by have := (tK_2 hb).mpr q; omega
            rw [h3, if_pos rfl] at hEd
            have := tail l5
            rw [hEd] at this
            rw [s_263_7]
            clear tail hQ ih hT h112 hfr
            simp (disch := omega) only [Option.toList_some, Option.toList_none, List.nil_append, List.cons_append, List.append_nil, true_and, and_true, not_true_eq_false, not_false_eq_true, true_implies, false_implies, implies_true, and_self, Int.reduceLT, Int.reduceLE, Int.reduceEq, Int.reduceNe, Int.reduceAdd, Int.reduceSub, Int.reduceMul, Int.reduceNeg, Int.reduceToNat, Int.toNat_natCast, ↓kk_ck, ↓kk_im, ↓kk_in, s_263_12, s_263_16, s_263_18, s_263_31, s_263_40, s_263_68, s_263_72, R1, R8, t1, t2, m118', hbl, ne_eq, k_260t, k_260f, k_261t, k_261f, vi_bf, vi_inc]
            exact this
      · obtain rfl : k = n := by omega
        have hIn : tI b k t = k := by
          rw [← hF]
          unfold tF
          rw [Nat.sub_self, tS]
        have hc0 : tCd b k t = 0 := tCd_e hIn
        have hv0 : tVl b k t = 0 := by
          unfold tVl tKd
          rw [hIn, if_neg (Nat.lt_irrefl k)]
          rfl
        have o1 : ∀ g : Nat → Int, vi_rs M1 122 g 112 = M1 112 := fun g => vi_rs_o (by omega)
        have o2 : ∀ g : Nat → Int, vi_rs M1 122 g 120 = M1 120 := fun g => vi_rs_o (by omega)
        have o3 : ∀ g g' : Nat → Int, vi_rs (vi_rs M1 122 g) 120 g' 112 = M1 112 := fun g g' => by rw [vi_rs_o (by omega), vi_rs_o (by omega)]
        have o4 : ∀ g g' : Nat → Int, vi_rs (vi_rs M1 122 g) 120 g' 121 = M1 121 := fun g g' => by rw [vi_rs_o (by omega), vi_rs_o (by omega)]
        have := hQ t (vi_rs (vi_rs (vi_rs M1 122 (vi_u (M1 122) t (k : Int))) 120 (vi_u (M1 120) t 0)) 121 (vi_u (M1 121) t 0)) ⟨by omega, hIn, fun i hi => (hT i hi).2.2.2, fun i hi => by
          rw [vi_rs_o (by omega), vi_rs_s, vi_rs_s, vi_rs_o (by omega), vi_rs_o (by omega), vi_rs_s]
          by_cases e : i = t
          · rw [e, vi_u_s, vi_u_s, vi_u_s, hc0, hv0, hIn]; exact ⟨rfl, rfl, rfl⟩
          · obtain ⟨x1, x2, x3, -⟩ := hT i (by omega)
            rw [vi_u_o e, vi_u_o e, vi_u_o e]
            exact ⟨x1, x2, x3⟩, by rw [vi_rs_o (by omega), vi_rs_o (by omega), vi_rs_o (by omega)]; exact h112, fun p p1 p2 p3 p4 => by rw [vi_rs_o p3, vi_rs_o p2, vi_rs_o p4]; exact hfr p p1 p2 p3 p4⟩
        rw [s_263_7]
        clear hQ ih hT h112 hfr
        simp (disch := omega) only [Option.toList_some, Option.toList_none, List.nil_append, List.cons_append, List.append_nil, true_and, and_true, not_true_eq_false, not_false_eq_true, true_implies, false_implies, implies_true, and_self, Int.reduceLT, Int.reduceLE, Int.reduceEq, Int.reduceNe, Int.reduceAdd, Int.reduceSub, Int.reduceMul, Int.reduceNeg, Int.reduceToNat, Int.toNat_natCast, ↓kk_ck, ↓kk_im, ↓kk_in, s_263_263, s_263_267, s_263_271, s_263_273, s_263_277, s_263_281, s_263_283, s_263_287, s_263_291, s_263_293, R1, R12, R13, R14, u1, u2, v1, v2, w1, w2, e15, o1, o2, o3, o4, vi_ms_rs]
        exact this
    have := main n 0 0 (vi_rs M 112 (vi_u (M 112) 15 0)) none none none rfl (Nat.zero_le _) (Nat.le_refl _) rfl (fun i hi => by omega) vi_rs_s (fun p p1 _ _ _ => vi_rs_o p1)
    clear main hQ
    simp (disch := omega) only [Option.toList_some, Option.toList_none, List.nil_append, List.cons_append, List.append_nil, true_and, and_true, not_true_eq_false, not_false_eq_true, true_implies, false_implies, implies_true, and_self, Int.reduceLT, Int.reduceLE, Int.reduceEq, Int.reduceNe, Int.reduceAdd, Int.reduceSub, Int.reduceMul, Int.reduceNeg, Int.reduceToNat, Int.toNat_natCast, ↓kk_ck, ↓kk_im, ↓kk_in, e_263, s_263_0, s_263_5, R1, vi_ms_rs]
    exact this
  obtain ⟨r, w, ⟨t, M', e1, rfl, rfl⟩, hK⟩ := vi_kx (key (fun r w => ∃ (t : Nat) (M' : vi_M), mSp M M' b n t ∧ r = none ∧ w = (Y, M', nn)) (fun t M' e1 => ⟨t, M', e1, rfl, rfl⟩))
  exact ⟨t, M', e1, hK⟩
end
