/-! Contracts of the reference, thirteenth part: looks. -/
def mIcb (f : Nat → Int) (c : Int) : Bool := decide (0 ≤ c ∧ c ≤ 215 ∧ c % 6 < f 96 ∧ c / 6 % 6 < f 97 ∧ c / 36 < f 98)
theorem mIcb_t {M : vi_M} {c : Int} (h : mIcb (M 114) c = true) : mIc M c := by
  unfold mIcb at h
  unfold mIc
  exact of_decide_eq_true h
theorem mIcb_f {M : vi_M} {c : Int} (h : mIcb (M 114) c = false) : ¬ mIc M c := by
  unfold mIcb at h
  unfold mIc
  exact of_decide_eq_false h
def mLw (M : vi_M) : Option (List gCla) → Prop
  | none => M 114 296 = -1
  | some cs => ∃ L S : Nat, mKp M L S cs
/-- what a CELL is told: taken, shut, what it weighs -/
def mT (M : vi_M) (c h : Int) : Option (List gCla) → Bool × Bool × Int
  | none => (false, false, 1)
  | some cs => ((mA M c h cs).1, (mA M c h cs).2.1, mCl (mA M c h cs).2.2)
theorem mT_c {M M' : vi_M} (h : M' 114 = M 114) {c x : Int} {lw : Option (List gCla)} : mT M' c x lw = mT M c x lw := by
  cases lw with
  | none => rfl
  | some cs =>
    unfold mT mA
    rw [mWd_c h]
theorem mLw_c {M M' : vi_M} (h : M' 114 = M 114) {lw : Option (List gCla)} (hl : mLw M lw) : mLw M' lw := by
  cases lw with
  | none =>
    unfold mLw at *
    rw [h]
    exact hl
  | some cs =>
    obtain ⟨L, S, hk⟩ := hl
    exact ⟨L, S, mKp_c h hk⟩
/-- a CELL is LEFT -/
def mLf (M : vi_M) (lw : Option (List gCla)) (n c : Nat) : Bool := mIcb (M 114) (c : Int) && decide (mAt (M 114) (c : Int) n = 0) && !(mT M (c : Int) (mAt (M 114) (c : Int) n) lw).1
/-- looked, up to the j-th CELL -/
def mLk (M0 M : vi_M) (lw : Option (List gCla)) (n j : Nat) : Prop := (∀ p, p ≠ 112 → p ≠ 123 → p ≠ 124 → p ≠ 125 → p ≠ 126 → p ≠ 127 → M p = M0 p) ∧ (∀ k, k ≠ 19 → k ≠ 20 → k ≠ 21 → k ≠ 23 → k ≠ 24 → k ≠ 25 → k ≠ 30 → M 112 k = M0 112 k) ∧ M 112 30 = M0 112 1 ∧ (∀ c : Nat, c < 216 → M 124 c = mAt (M0 114) (c : Int) n) ∧ ∀ c : Nat, c < j → M 126 c = vi_b (mLf M0 lw n c) ∧ (mIcb (M0 114) (c : Int) = true → M 125 c = (mT M0 (c : Int) (mAt (M0 114) (c : Int) n) lw).2.2 ∧ M 127 c = vi_b (mT M0 (c : Int) (mAt (M0 114) (c : Int) n) lw).2.1)
theorem nar_b {b : Bool} : vi_nar 4 (vi_b b) = vi_b b := by cases b <;> decide
section
variable {D : Nat} {K : Option vi_V → vi_W → Prop} {Y : vi_Y} {M : vi_M} {nn : Nat × Nat} {Q : Option vi_V → vi_W → Prop}
theorem k_291u (hY : kY Y 151) (hB : mBx M) {c h : Int} (hc : mIc M c) (hh : 0 ≤ h ∧ h ≤ 96) (hday : 0 ≤ M 114 99 ∧ M 114 99 ≤ 99) {lw : Option (List gCla)} (hL : mLw M lw) (hD : 44 ≤ D)
    (hQ : ∀ M', (∀ p, p ≠ 112 → p ≠ 123 → M' p = M p) → (∀ k, k ≠ 19 → k ≠ 20 → k ≠ 21 → k ≠ 23 → k ≠ 24 → k ≠ 25 → M' 112 k = M 112 k) → M' 112 23 = (mT M c h lw).2.2 → M' 112 24 = vi_b (mT M c h lw).1 → M' 112 25 = vi_b (mT M c h lw).2.1 → Q none (Y, M', nn)) :
    vi_call GG D 291 [.inr (.inr 112), .inl c, .inl h] (Y, M, nn) Q := by
  cases lw with
  | none =>
    refine k_291n hY hL (by omega) (hQ _ (fun p p1 p2 => vi_rs_o p1) (fun k k1 k2 k3 k4 k5 k6 => ?_) (by rw [vi_rs_s]; rfl) (by rw [vi_rs_s]; rfl) (by rw [vi_rs_s]; rfl))
    rw [vi_rs_s]
    unfold vi_u
    simp only [if_neg k4, if_neg k5, if_neg k6]
  | some cs =>
    obtain ⟨L, S, hk⟩ := hL
    exact k_291 hY hB hc hh hday hk hD hQ
theorem k_294s (hY : kY Y 151) (h : M 112 30 = M 112 1) (hD : 1 ≤ D) : vi_call GG D 294 [.inr (.inr 112)] (Y, M, nn) K ↔ K none (Y, M, nn) := by
  obtain ⟨D, rfl⟩ : ∃ k, D = k + 1 := ⟨D - 1, by omega⟩
  obtain ⟨R1, -⟩ := y_112 hY (by omega)
  refine vi_k (r := none) fun Q hQ => ?_
  simp (disch := omega) only [Option.toList_some, Option.toList_none, List.nil_append, List.cons_append, List.append_nil, true_and, and_true, not_true_eq_false, not_false_eq_true, true_implies, false_implies, implies_true, and_self, Int.reduceLT, Int.reduceLE, Int.reduceEq, Int.reduceNe, Int.reduceAdd, Int.reduceSub, Int.reduceMul, Int.reduceNeg, Int.reduceToNat, Int.toNat_natCast, ↓kk_ck, ↓kk_im, ↓kk_in, e_294, s_294_0, s_294_4, s_294_8, s_294_11, R1, h, ne_eq]
  exact hQ
/-- the CELLS, one after the other -/
theorem h_294c (hY : kY Y 151) (hB : mBx M) {n : Nat} (hn : n ≤ 16) (hH : ∀ h, h < n → mHo (M 114) h) (hday : 0 ≤ M 114 99 ∧ M 114 99 ≤ 99) {lw : Option (List gCla)} (hL : mLw M lw) (hD : 44 ≤ D) (hQ : ∀ M', mLk M M' lw n 216 → Q none (Y, M', nn)) : ∀ j, j ≤ 216 → ∀ (M2 : vi_M) (l2 : Option vi_V), mLk M M2 lw n j → vi_ok GG D 294 97 [some (.inr (.inr 112)), some (.inl (j : Int)), l2] [] (Y, M2, nn) Q := by
  obtain ⟨R1, -, R3, -, -, -, -, -, -, -, -, -, R26, R27, R28, R29, -⟩ := y_112 hY (by omega)
  obtain ⟨t1, t2⟩ := y_124 hY (by omega)
  obtain ⟨u1, u2⟩ := y_125 hY (by omega)
  obtain ⟨v1, v2⟩ := y_126 hY (by omega)
  obtain ⟨w1, w2⟩ := y_127 hY (by omega)
  refine vi_dn 216 ?_ fun j hj ih => ?_
  · intro M2 l2 hk
    have := hQ M2 hk
    clear hQ
    rw [s_294_97]
    simp (disch := omega) only [Option.toList_some, Option.toList_none, List.nil_append, List.cons_append, List.append_nil, true_and, and_true, not_true_eq_false, not_false_eq_true, true_implies, false_implies, implies_true, and_self, Int.reduceLT, Int.reduceLE, Int.reduceEq, Int.reduceNe, Int.reduceAdd, Int.reduceSub, Int.reduceMul, Int.reduceNeg, Int.reduceToNat, Int.toNat_natCast, ↓kk_ck, ↓kk_im, ↓kk_in, s_294_186]
    exact this
  · intro M2 l2 hk
    obtain ⟨k1, k2, k3, k4, k5⟩ := hk
    have e114 : M2 114 = M 114 := k1 114 (by omega) (by omega) (by omega) (by omega) (by omega) (by omega)
    generalize hM3 : vi_rs M2 126 (vi_u (M2 126) j 0) = M3
    have f114 : M3 114 = M 114 := by rw [← hM3, vi_rs_o (by omega), e114]
    have n0 : vi_nar 4 0 = 0 := by decide
    have n1 : vi_nar 4 1 = 1 := by decide
    rw [s_294_97]
    cases hc : mIcb (M 114) (j : Int) with
    | false =>
      have hp : ¬ mIc M3 (j : Int) := mIcb_f (by rw [f114]; exact hc)
      have := ih M3 l2 ⟨fun p p1 p2 p3 p4 p5 p6 => by rw [← hM3, vi_rs_o p5]; exact k1 p p1 p2 p3 p4 p5 p6, fun k a1 a2 a3 a4 a5 a6 a7 => by rw [← hM3, vi_rs_o (by omega)]; exact k2 k a1 a2 a3 a4 a5 a6 a7, by rw [← hM3, vi_rs_o (by omega)]; exact k3, fun c hc => by rw [← hM3, vi_rs_o (by omega)]; exact k4 c hc, fun c hcj => by
        rw [← hM3, vi_rs_s, vi_rs_o (by omega), vi_rs_o (by omega)]
        unfold vi_u
        by_cases e : c = j
        · rw [if_pos e, e]
          refine ⟨?_, fun q => by rw [hc] at q; cases q⟩
          unfold mLf
          rw [hc]
          rfl
        · rw [if_neg e]
          exact k5 c (by omega)⟩
      clear ih hQ k5
      simp (disch := omega) only [Option.toList_some, Option.toList_none, List.nil_append, List.cons_append, List.append_nil, true_and, and_true, not_true_eq_false, not_false_eq_true, true_implies, false_implies, implies_true, and_self, Int.reduceLT, Int.reduceLE, Int.reduceEq, Int.reduceNe, Int.reduceAdd, Int.reduceSub, Int.reduceMul, Int.reduceNeg, Int.reduceToNat, Int.toNat_natCast, ↓kk_ck, ↓kk_im, ↓kk_in, s_294_104, s_294_108, s_294_111, s_294_116, s_294_119, s_294_180, R1, R28, v1, v2, vi_ms_rs, n0, Int.toNat_natCast, hM3, k_246f hY hp, ne_eq, vi_inc]
      exact this
    | true =>
      have hp : mIc M3 (j : Int) := mIcb_t (by rw [f114]; exact hc)
      have f124 : M3 124 j = mAt (M 114) (j : Int) n := by rw [← hM3, vi_rs_o (by omega)]; exact k4 j hj
      have har := mAt_r (f := M 114) (c := (j : Int)) n hH
      have eT : mT M3 (j : Int) (mAt (M 114) (j : Int) n) lw = mT M (j : Int) (mAt (M 114) (j : Int) n) lw := mT_c f114
      have cont : vi_call GG D 291 [.inr (.inr 112), .inl (j : Int), .inl (mAt (M 114) (j : Int) n)] (Y, M3, nn) (fun r w' => vi_ok GG D 294 133 [some (.inr (.inr 112)), some (.inl (j : Int)), l2] r.toList w' Q) := by
        refine k_291u hY (mBx_c f114 hB) hp (by omega) (by rw [f114]; exact hday) (mLw_c f114 hL) hD fun M4 g1 g2 g23 g24 g25 => ?_
        rw [eT] at g23 g24 g25
        have h124 : M4 124 = M3 124 := g1 124 (by omega) (by omega)
        have h126 : M4 126 = M3 126 := g1 126 (by omega) (by omega)
        have f126 : M4 126 = vi_u (M2 126) j 0 := by rw [h126, ← hM3, vi_rs_s]
        have uu : ∀ x : Int, vi_u (vi_u (M2 126) j 0) j x = vi_u (M2 126) j x := fun x => by
          funext k
          unfold vi_u
          by_cases e : k = j
          · rw [if_pos e, if_pos e]
          · rw [if_neg e, if_neg e, if_neg e]
        have nxt : ∀ x : Int, x = vi_b (mLf M lw n j) → vi_ok GG D 294 97 [some (.inr (.inr 112)), some (.inl ((j + 1 : Nat) : Int)), l2] [] (Y, vi_rs (vi_rs (vi_rs M4 126 (vi_u (M2 126) j x)) 125 (vi_u (M4 125) j (M4 112 23))) 127 (vi_u (M4 127) j (M4 112 25)), nn) Q := by
          intro x hx
          refine ih _ l2 ⟨fun p p1 p2 p3 p4 p5 p6 => ?_, fun k a1 a2 a3 a4 a5 a6 a7 => ?_, ?_, fun c hc => ?_, fun c hcj => ?_⟩
          · rw [vi_rs_o p6, vi_rs_o p4, vi_rs_o p5, g1 p p1 p2, ← hM3, vi_rs_o p5]
            exact k1 p p1 p2 p3 p4 p5 p6
          · rw [vi_rs_o (by omega), vi_rs_o (by omega), vi_rs_o (by omega), g2 k a1 a2 a3 a4 a5 a6, ← hM3, vi_rs_o (by omega)]
            exact k2 k a1 a2 a3 a4 a5 a6 a7
          · rw [vi_rs_o (by omega), vi_rs_o (by omega), vi_rs_o (by omega), g2 30 (by omega) (by omega) (by omega) (by omega) (by omega) (by omega), ← hM3, vi_rs_o (by omega)]
            exact k3
          · rw [vi_rs_o (by omega), vi_rs_o (by omega), vi_rs_o (by omega), h124, ← hM3, vi_rs_o (by omega)]
            exact k4 c hc
          · rw [vi_rs_o (q' := 126) (q := 127) (by omega), vi_rs_o (q' := 126) (q := 125) (by omega), vi_rs_s, vi_rs_o (q' := 125) (q := 127) (by omega), vi_rs_s, vi_rs_s, g23, g25, hx]
            by_cases e : c = j
            · subst e
              refine ⟨if_pos rfl, fun _ => ⟨if_pos rfl, if_pos rfl⟩⟩
            · have := k5 c (by omega)
              unfold vi_u
              rw [if_neg e, if_neg e, if_neg e, g1 125 (by omega) (by omega), g1 127 (by omega) (by omega), ← hM3, vi_rs_o (by omega), vi_rs_o (by omega)]
              exact this
        have n25 : vi_nar 4 (M4 112 25) = M4 112 25 := by rw [g25]; exact nar_b
        have h124j : M4 124 j = mAt (M 114) (j : Int) n := by rw [h124]; exact f124
        clear ih hQ k5 g1 g2 g23 k4
        by_cases q0 : mAt (M 114) (j : Int) n = 0
        · cases q1 : (mT M (j : Int) (mAt (M 114) (j : Int) n) lw).1 with
          | false =>
            have := nxt 1 (by unfold mLf; rw [hc, q1, decide_eq_true q0]; rfl)
            rw [q1] at g24
            clear nxt eT
            simp (disch := omega) only [Option.toList_some, Option.toList_none, List.nil_append, List.cons_append, List.append_nil, true_and, and_true, not_true_eq_false, not_false_eq_true, true_implies, false_implies, implies_true, and_self, Int.reduceLT, Int.reduceLE, Int.reduceEq, Int.reduceNe, Int.reduceAdd, Int.reduceSub, Int.reduceMul, Int.reduceNeg, Int.reduceToNat, Int.toNat_natCast, ↓kk_ck, ↓kk_im, ↓kk_in, s_294_133, s_294_137, s_294_142, s_294_144, s_294_147, s_294_151, s_294_154, s_294_159, s_294_160, s_294_164, s_294_169, s_294_170, s_294_174, s_294_179, s_294_180, R1, R26, R27, R28, R29, t1, t2, u1, u2, v1, v2, w1, w2, vi_ms_rs, vi_rs_s, vi_rs_o, n1, Int.toNat_natCast, h124j, q0, ne_eq, vi_inc, g24, vi_bf, f126, uu, n25]
            exact this
          | true =>
            have := nxt 0 (by unfold mLf; rw [hc, q1, decide_eq_true q0]; rfl)
            rw [q1] at g24
            clear nxt eT
            simp (disch := omega) only [Option.toList_some, Option.toList_none, List.nil_append, List.cons_append, List.append_nil, true_and, and_true, not_true_eq_false, not_false_eq_true, true_implies, false_implies, implies_true, and_self, Int.reduceLT, Int.reduceLE, Int.reduceEq, Int.reduceNe, Int.reduceAdd, Int.reduceSub, Int.reduceMul, Int.reduceNeg, Int.reduceToNat, Int.toNat_natCast, ↓kk_ck, ↓kk_im, ↓kk_in, s_294_133, s_294_137, s_294_142, s_294_144, s_294_147, s_294_151, s_294_158, s_294_159, s_294_160, s_294_164, s_294_169, s_294_170, s_294_174, s_294_179, s_294_180, R1, R26, R27, R28, R29, t1, t2, u1, u2, v1, v2, w1, w2, vi_ms_rs, vi_rs_s, vi_rs_o, n0, Int.toNat_natCast, h124j, q0, ne_eq, vi_inc, g24, vi_bt, f126, uu, n25]
            exact this
        · have := nxt 0 (by unfold mLf; rw [hc, decide_eq_false q0]; rfl)
          clear nxt eT
          simp (disch := omega) only [Option.toList_some, Option.toList_none, List.nil_append, List.cons_append, List.append_nil, true_and, and_true, not_true_eq_false, not_false_eq_true, true_implies, false_implies, implies_true, and_self, Int.reduceLT, Int.reduceLE, Int.reduceEq, Int.reduceNe, Int.reduceAdd, Int.reduceSub, Int.reduceMul, Int.reduceNeg, Int.reduceToNat, Int.toNat_natCast, ↓kk_ck, ↓kk_im, ↓kk_in, s_294_133, s_294_137, s_294_142, s_294_144, s_294_158, s_294_159, s_294_160, s_294_164, s_294_169, s_294_170, s_294_174, s_294_179, s_294_180, R1, R26, R27, R28, R29, t1, t2, u1, u2, v1, v2, w1, w2, vi_ms_rs, vi_rs_s, vi_rs_o, n0, Int.toNat_natCast, h124j, q0, ne_eq, vi_inc, f126, uu, n25]
          exact this
      clear ih hQ k5 k4
      simp (disch := omega) only [Option.toList_some, Option.toList_none, List.nil_append, List.cons_append, List.append_nil, true_and, and_true, not_true_eq_false, not_false_eq_true, true_implies, false_implies, implies_true, and_self, Int.reduceLT, Int.reduceLE, Int.reduceEq, Int.reduceNe, Int.reduceAdd, Int.reduceSub, Int.reduceMul, Int.reduceNeg, Int.reduceToNat, Int.toNat_natCast, ↓kk_ck, ↓kk_im, ↓kk_in, s_294_104, s_294_108, s_294_111, s_294_116, s_294_122, s_294_128, s_294_130, R1, R26, R28, t1, t2, v1, v2, vi_ms_rs, n0, Int.toNat_natCast, hM3, k_246t hY hp, ne_eq, f124]
      exact cont
theorem k_294 (hY : kY Y 151) (hB : mBx M) {n : Nat} (hn : n ≤ 16) (h292 : M 114 292 = (n : Int)) (hH : ∀ h, h < n → mHo (M 114) h) (hday : 0 ≤ M 114 99 ∧ M 114 99 ≤ 99) {lw : Option (List gCla)} (hL : mLw M lw) (hv : M 112 30 ≠ M 112 1) (hD : 45 ≤ D) (hQ : ∀ M', mLk M M' lw n 216 → Q none (Y, M', nn)) : vi_call GG D 294 [.inr (.inr 112)] (Y, M, nn) Q := by
  obtain ⟨D, rfl⟩ : ∃ k, D = k + 1 := ⟨D - 1, by omega⟩
  obtain ⟨R1, -, R3, -, -, -, -, -, -, -, -, -, R26, -⟩ := y_112 hY (by omega)
  obtain ⟨t1, t2⟩ := y_124 hY (by omega)
  obtain ⟨w1, w2⟩ := y_114 hY (by omega)
  generalize hM1 : vi_rs M 112 (vi_u (M 112) 30 (M 112 1)) = M1
  have f114 : M1 114 = M 114 := by rw [← hM1]; exact vi_rs_o (by omega)
  have f124 : M1 124 = M 124 := by rw [← hM1]; exact vi_rs_o (by omega)
  have cells : ∀ l2, vi_ok GG D 294 97 [some (.inr (.inr 112)), some (.inl 0), l2] [] (Y, vi_rs M1 124 (fun c => if c < 216 then mAt (M 114) (c : Int) n else M 124 c), nn) Q := by
    intro l2
    refine h_294c hY hB hn hH hday hL (by omega) hQ 0 (by omega) _ l2 ⟨fun p p1 p2 p3 p4 p5 p6 => ?_, fun k a1 a2 a3 a4 a5 a6 a7 => ?_, ?_, fun c hc => ?_, fun c hcj => by omega⟩
    · rw [vi_rs_o p3, ← hM1, vi_rs_o p1]
    · rw [vi_rs_o (by omega), ← hM1, vi_rs_s]
      unfold vi_u
      rw [if_neg a7]
    · rw [vi_rs_o (by omega), ← hM1, vi_rs_s]
      rfl
    · rw [vi_rs_s]
      exact if_pos hc
  have holes : ∀ h, h ≤ n → ∀ l2, vi_ok GG D 294 44 [some (.inr (.inr 112)), some (.inl (h : Int)), l2] [] (Y, vi_rs M1 124 (fun c => if c < 216 then mAt (M 114) (c : Int) h else M 124 c), nn) Q := by
    refine vi_dn (P := fun h => ∀ l2, vi_ok GG D 294 44 [some (.inr (.inr 112)), some (.inl (h : Int)), l2] [] (Y, vi_rs M1 124 (fun c => if c < 216 then mAt (M 114) (c : Int) h else M 124 c), nn) Q) n ?_ fun h hh ih => ?_
    · intro l2
      have := cells l2
      clear cells hQ
      rw [s_294_44]
      simp (disch := omega) only [Option.toList_some, Option.toList_none, List.nil_append, List.cons_append, List.append_nil, true_and, and_true, not_true_eq_false, not_false_eq_true, true_implies, false_implies, implies_true, and_self, Int.reduceLT, Int.reduceLE, Int.reduceEq, Int.reduceNe, Int.reduceAdd, Int.reduceSub, Int.reduceMul, Int.reduceNeg, Int.reduceToNat, Int.toNat_natCast, ↓kk_ck, ↓kk_im, ↓kk_in, s_294_49, s_294_53, s_294_95, R1, R3, w1, w2, vi_rs_o, f114, h292]
      exact this
    · intro l2
      have := h_294i (nn := nn) (D := D) (Q := Q) (h := h) hY (by omega) (by omega) 7 0 (vi_rs M1 124 (fun c => if c < 216 then mAt (M 114) (c : Int) h else M 124 c)) _ rfl (by omega) (mBx_c ((vi_rs_o (by omega)).trans f114) hB) (by rw [vi_rs_o (by omega), f114]; exact hH h hh) vi_rs_s (fun c hc => by
        have := mAt_r (f := M 114) (c := (c : Int)) h (fun h' hh' => hH h' (by omega))
        rw [if_pos hc]
        omega) (fun l2 => by
        have := ih l2
        rw [vi_rs_rs, vi_rs_o (by omega), f114]
        rw [show (fun c : Nat => if c < 216 then mAt (M 114) (c : Int) (h + 1) else M 124 c) = (fun c : Nat => if c < 216 then (if c < 216 then mAt (M 114) (c : Int) h else M 124 c) + mSt (M 114) h (c : Int) 7 0 else (if c < 216 then mAt (M 114) (c : Int) h else M 124 c)) by
          funext c
          by_cases q : c < 216
          · rw [if_pos q, if_pos q, if_pos q, mAt]
          · rw [if_neg q, if_neg q, if_neg q]] at this
        exact this)
      clear ih cells hQ
      rw [s_294_44]
      simp (disch := omega) only [Option.toList_some, Option.toList_none, List.nil_append, List.cons_append, List.append_nil, true_and, and_true, not_true_eq_false, not_false_eq_true, true_implies, false_implies, implies_true, and_self, Int.reduceLT, Int.reduceLE, Int.reduceEq, Int.reduceNe, Int.reduceAdd, Int.reduceSub, Int.reduceMul, Int.reduceNeg, Int.reduceToNat, Int.toNat_natCast, ↓kk_ck, ↓kk_im, ↓kk_in, s_294_49, s_294_53, s_294_56, R1, R3, w1, w2, vi_rs_o, f114, h292]
      exact this
  have zero : ∀ j : Nat, j ≤ 216 → vi_ok GG D 294 22 [some (.inr (.inr 112)), some (.inl (j : Int)), none] [] (Y, vi_rs M1 124 (fun c : Nat => if c < j then 0 else M 124 c), nn) Q := by
    refine vi_dn 216 ?_ fun j hj ih => ?_
    · have := holes 0 (by omega) none
      rw [show (fun c : Nat => if c < 216 then mAt (M 114) (c : Int) 0 else M 124 c) = (fun c : Nat => if c < 216 then 0 else M 124 c) from rfl] at this
      clear holes cells hQ
      rw [s_294_22]
      simp (disch := omega) only [Option.toList_some, Option.toList_none, List.nil_append, List.cons_append, List.append_nil, true_and, and_true, not_true_eq_false, not_false_eq_true, true_implies, false_implies, implies_true, and_self, Int.reduceLT, Int.reduceLE, Int.reduceEq, Int.reduceNe, Int.reduceAdd, Int.reduceSub, Int.reduceMul, Int.reduceNeg, Int.reduceToNat, Int.toNat_natCast, ↓kk_ck, ↓kk_im, ↓kk_in, s_294_42]
      exact this
    · rw [show (fun c : Nat => if c < j + 1 then 0 else M 124 c) = vi_u (fun c : Nat => if c < j then 0 else M 124 c) j 0 by
        funext c
        show (if c < j + 1 then 0 else M 124 c) = if c = j then 0 else if c < j then 0 else M 124 c
        by_cases e : c = j
        · rw [if_pos (by omega), if_pos e]
        · rw [if_neg (c := (c = j)) e]
          by_cases q : c < j
          · rw [if_pos (by omega), if_pos q]
          · rw [if_neg (by omega), if_neg q]] at ih
      clear holes cells hQ
      rw [s_294_22]
      simp (disch := omega) only [Option.toList_some, Option.toList_none, List.nil_append, List.cons_append, List.append_nil, true_and, and_true, not_true_eq_false, not_false_eq_true, true_implies, false_implies, implies_true, and_self, Int.reduceLT, Int.reduceLE, Int.reduceEq, Int.reduceNe, Int.reduceAdd, Int.reduceSub, Int.reduceMul, Int.reduceNeg, Int.reduceToNat, Int.toNat_natCast, ↓kk_ck, ↓kk_im, ↓kk_in, s_294_29, s_294_33, s_294_36, R1, R26, t1, t2, vi_ms_rs, vi_rs_s, vi_rs_rs, Int.toNat_natCast, vi_inc]
      exact ih
  have := zero 0 (by omega)
  rw [show (fun c : Nat => if c < 0 then 0 else M 124 c) = M 124 by
    funext c
    rw [if_neg (by omega)], vi_rs_id f124] at this
  clear zero holes cells hQ
  simp (disch := omega) only [Option.toList_some, Option.toList_none, List.nil_append, List.cons_append, List.append_nil, true_and, and_true, not_true_eq_false, not_false_eq_true, true_implies, false_implies, implies_true, and_self, Int.reduceLT, Int.reduceLE, Int.reduceEq, Int.reduceNe, Int.reduceAdd, Int.reduceSub, Int.reduceMul, Int.reduceNeg, Int.reduceToNat, Int.toNat_natCast, ↓kk_ck, ↓kk_im, ↓kk_in, e_294, s_294_0, s_294_4, s_294_8, s_294_12, s_294_17, s_294_20, R1, hv, ne_eq, vi_ms_rs, hM1]
  exact this
end
