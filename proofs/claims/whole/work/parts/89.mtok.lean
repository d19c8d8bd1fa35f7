/-! Contracts of the reference (at 112), first part: tokens (tape at 118, codes 120, values 121, places 122). -/
def wBy : List Int := wL 1 ++ [32] ++ wL 2 ++ [32] ++ wL 3 ++ [32] ++ wL 4 ++ [32] ++ wL 5 ++ [32] ++ wL 6 ++ [32] ++ wL 7 ++ [32] ++ wL 8 ++ [32] ++ wL 9 ++ [32] ++ wL 10 ++ [32] ++ wL 11 ++ [32] ++ wL 12 ++ [32] ++ wL 13 ++ [32]
def wO : Nat → Nat
  | 0 => 0
  | 1 => 0
  | w + 1 => wO w + (wL w).length + 1
theorem wO_a : ∀ w, w < 14 → 1 ≤ w → wO (w + 1) = wO w + (wL w).length + 1 ∧ 1 ≤ (wL w).length ∧ (wL w).length ≤ 6 := by decide
theorem wO_b : ∀ w, w < 14 → 1 ≤ w → wO w + (wL w).length < 54 ∧ wBy.getD (wO w + (wL w).length) 0 = 32 := by decide
theorem wO_c : ∀ w, w < 14 → ∀ j, j < 6 → j < (wL w).length → wBy.getD (wO w + j) 0 = (wL w).getD j 0 := by decide
theorem wO_d : ∀ w, w < 14 → ∀ j, j < 6 → j < (wL w).length → (wL w).getD j 0 ≠ 32 ∧ 0 ≤ (wL w).getD j 0 ∧ (wL w).getD j 0 < 128 := by decide
theorem wO_s : ∀ w, w < 14 → 1 ≤ w → wO (w + 1) = wO w + (wL w).length + 1 ∧ 1 ≤ (wL w).length ∧ (wL w).length ≤ 6 ∧ wO w + (wL w).length < 54 ∧ wBy.getD (wO w + (wL w).length) 0 = 32 ∧ ∀ j, j < 6 → j < (wL w).length → wBy.getD (wO w + j) 0 = (wL w).getD j 0 ∧ (wL w).getD j 0 ≠ 32 ∧ 0 ≤ (wL w).getD j 0 ∧ (wL w).getD j 0 < 128 := fun w h1 h2 =>
  ⟨(wO_a w h1 h2).1, (wO_a w h1 h2).2.1, (wO_a w h1 h2).2.2, (wO_b w h1 h2).1, (wO_b w h1 h2).2, fun j h3 h4 => ⟨wO_c w h1 j h3 h4, wO_d w h1 j h3 h4⟩⟩
def kW (M : vi_M) : Prop := ∀ j, j < 54 → M 117 j = wBy.getD j 0
theorem tB_p {b : Nat → Int} {p : Nat} (h : 0 ≤ b p ∧ b p < 128) : tB b p = b p := by unfold tB; omega
theorem tK_1 {b : Nat → Int} (hb : tOk b) {p : Nat} : tK (tB b p) = 1 ↔ 97 ≤ b p ∧ b p ≤ 122 := by
  have := hb p
  unfold tK tB
  constructor
  · intro h
    split at h
    · omega
    · split at h <;> omega
  · intro h
    rw [if_pos (by omega)]
theorem tK_2 {b : Nat → Int} (hb : tOk b) {p : Nat} : tK (tB b p) = 2 ↔ 48 ≤ b p ∧ b p ≤ 57 := by
  have := hb p
  unfold tK tB
  constructor
  · intro h
    split at h
    · omega
    · split at h <;> omega
  · intro h
    rw [if_neg (by omega), if_pos (by omega)]
theorem tB_32 {b : Nat → Int} (hb : tOk b) {p : Nat} : tB b p = 32 ↔ b p = 32 := by
  have := hb p
  unfold tB
  omega
section
variable {d : Nat} {K : Option vi_V → vi_W → Prop} {Y : vi_Y} {M : vi_M} {nn : Nat × Nat} {n : Nat} {b f : Nat → Int}
theorem k_260 {x : Int} {w : vi_W} : vi_call GG (d + 1) 260 [.inl x] w K ↔ K (some (.inl (vi_b (decide (97 ≤ x ∧ x ≤ 122))))) w := by
  obtain ⟨Y, M, n⟩ := w
  refine vi_k (r := some (.inl _)) fun Q hQ => ?_
  by_cases h : 97 ≤ x ∧ x ≤ 122
  · rw [decide_eq_true h] at hQ
    simp (disch := omega) only [Option.toList_some, Option.toList_none, List.nil_append, List.cons_append, List.append_nil, true_and, and_true, not_true_eq_false, not_false_eq_true, true_implies, false_implies, implies_true, and_self, Int.reduceLT, Int.reduceLE, Int.reduceEq, Int.reduceNe, Int.reduceAdd, Int.reduceSub, Int.reduceMul, Int.reduceNeg, Int.reduceToNat, Int.toNat_natCast, ↓kk_ck, ↓kk_im, ↓kk_in, e_260, s_260_0, s_260_6, s_260_12, s_260_16, s_260_17]
    exact hQ
  · rw [decide_eq_false h] at hQ
    simp +contextual (disch := omega) only [Option.toList_some, Option.toList_none, List.nil_append, List.cons_append, List.append_nil, true_and, and_true, not_true_eq_false, not_false_eq_true, true_implies, false_implies, implies_true, and_self, Int.reduceLT, Int.reduceLE, Int.reduceEq, Int.reduceNe, Int.reduceAdd, Int.reduceSub, Int.reduceMul, Int.reduceNeg, Int.reduceToNat, Int.toNat_natCast, ↓kk_ck, ↓kk_im, ↓kk_in, e_260, s_260_0, s_260_6, s_260_12, s_260_16, s_260_17]
    (repeat' first | exact hQ | intro _ | refine And.intro ?_ ?_ | (exfalso; omega))
theorem k_261 {x : Int} {w : vi_W} : vi_call GG (d + 1) 261 [.inl x] w K ↔ K (some (.inl (vi_b (decide (48 ≤ x ∧ x ≤ 57))))) w := by
  obtain ⟨Y, M, n⟩ := w
  refine vi_k (r := some (.inl _)) fun Q hQ => ?_
  by_cases h : 48 ≤ x ∧ x ≤ 57
  · rw [decide_eq_true h] at hQ
    simp (disch := omega) only [Option.toList_some, Option.toList_none, List.nil_append, List.cons_append, List.append_nil, true_and, and_true, not_true_eq_false, not_false_eq_true, true_implies, false_implies, implies_true, and_self, Int.reduceLT, Int.reduceLE, Int.reduceEq, Int.reduceNe, Int.reduceAdd, Int.reduceSub, Int.reduceMul, Int.reduceNeg, Int.reduceToNat, Int.toNat_natCast, ↓kk_ck, ↓kk_im, ↓kk_in, e_261, s_261_0, s_261_6, s_261_12, s_261_16, s_261_17]
    exact hQ
  · rw [decide_eq_false h] at hQ
    simp +contextual (disch := omega) only [Option.toList_some, Option.toList_none, List.nil_append, List.cons_append, List.append_nil, true_and, and_true, not_true_eq_false, not_false_eq_true, true_implies, false_implies, implies_true, and_self, Int.reduceLT, Int.reduceLE, Int.reduceEq, Int.reduceNe, Int.reduceAdd, Int.reduceSub, Int.reduceMul, Int.reduceNeg, Int.reduceToNat, Int.toNat_natCast, ↓kk_ck, ↓kk_im, ↓kk_in, e_261, s_261_0, s_261_6, s_261_12, s_261_16, s_261_17]
    (repeat' first | exact hQ | intro _ | refine And.intro ?_ ?_ | (exfalso; omega))
theorem k_260t {x : Int} {w : vi_W} (h : 97 ≤ x ∧ x ≤ 122) : vi_call GG (d + 1) 260 [.inl x] w K ↔ K (some (.inl 1)) w := by rw [k_260, decide_eq_true h]; rfl
theorem k_260f {x : Int} {w : vi_W} (h : ¬ (97 ≤ x ∧ x ≤ 122)) : vi_call GG (d + 1) 260 [.inl x] w K ↔ K (some (.inl 0)) w := by rw [k_260, decide_eq_false h]; rfl
theorem k_261t {x : Int} {w : vi_W} (h : 48 ≤ x ∧ x ≤ 57) : vi_call GG (d + 1) 261 [.inl x] w K ↔ K (some (.inl 1)) w := by rw [k_261, decide_eq_true h]; rfl
theorem k_261f {x : Int} {w : vi_W} (h : ¬ (48 ≤ x ∧ x ≤ 57)) : vi_call GG (d + 1) 261 [.inl x] w K ↔ K (some (.inl 0)) w := by rw [k_261, decide_eq_false h]; rfl
theorem k_262 (hY : kY Y 151) (hW : kW M) {p e : Nat} (hp : p ≤ e) (he : e ≤ 400) (hl : ∀ j, j < e - p → 0 ≤ M 118 (p + j) ∧ M 118 (p + j) < 128) : vi_call GG (d + 1) 262 [.inr (.inr 112), .inl (p : Int), .inl (e : Int)] (Y, M, nn) K ↔ K (some (.inl (wC (tL (M 118) p e)))) (Y, M, nn) := by
  obtain ⟨R1, -, -, -, -, R7, R8, -⟩ := y_112 hY (by omega)
  obtain ⟨g1, g2⟩ := y_117 hY (by omega)
  obtain ⟨t1, t2⟩ := y_118 hY (by omega)
  refine vi_k (r := some (.inl _)) fun Q hQ => ?_
  generalize hL : tL (M 118) p e = L at *
  have hLl : L.length = e - p := by rw [← hL]; exact tL_len
  have outer : ∀ (k w : Nat) (l5 l6 l7 : Option vi_V), w + k = 14 → 1 ≤ w → wF' L k w = wC L → vi_ok GG d 262 5 [some (.inr (.inr 112)), some (.inl (p : Int)), some (.inl (e : Int)), some (.inl (w : Int)), some (.inl (wO w : Int)), l5, l6, l7] [] (Y, M, nn) Q := by
    intro k
    induction k with
    | zero =>
      intro w l5 l6 l7 hk h1 hw
      obtain rfl : w = 14 := by omega
      rw [wF'] at hw
      rw [← hw] at hQ
      rw [s_262_5]
      simp (disch := omega) only [Option.toList_some, Option.toList_none, List.nil_append, List.cons_append, List.append_nil, true_and, and_true, not_true_eq_false, not_false_eq_true, true_implies, false_implies, implies_true, and_self, Int.reduceLT, Int.reduceLE, Int.reduceEq, Int.reduceNe, Int.reduceAdd, Int.reduceSub, Int.reduceMul, Int.reduceNeg, Int.reduceToNat, Int.toNat_natCast, ↓kk_ck, ↓kk_im, ↓kk_in, s_262_11, s_262_12, s_262_126, R1, R7, g1, g2, show wO 14 = 54 from rfl]
      exact hQ
    | succ k ih =>
      intro w l5 l6 l7 hk h1 hw
      obtain ⟨w1, w2, w3, w4, w5, w6⟩ := wO_s w (by omega) h1
      have w6' : ∀ j, j < (wL w).length → M 117 (wO w + j) = (wL w).getD j 0 ∧ (wL w).getD j 0 ≠ 32 := fun j hj => by
        have := w6 j (by omega) hj
        exact ⟨by rw [hW _ (by omega)]; exact this.1, this.2.1⟩
      have w5' : M 117 (wO w + (wL w).length) = 32 := by rw [hW _ w4]; exact w5
      rw [wF'] at hw
      have ih := ih (w + 1)
      generalize hwl : (wL w).length = wl at *
      generalize hwo : wO w = wo at *
      rw [w1] at ih
      -- not this word: the next one
      have next : L ≠ wL w → ∀ (x6 x7 : Int), vi_ok GG d 262 111 [some (.inr (.inr 112)), some (.inl (p : Int)), some (.inl (e : Int)), some (.inl (w : Int)), some (.inl (wo : Int)), some (.inl (wl : Int)), some (.inl x6), some (.inl x7)] [] (Y, M, nn) Q := by
        intro hne x6 x7
        rw [if_neg hne] at hw
        have := fun l5 l6 l7 => ih l5 l6 l7 (by omega) (by omega) hw
        have ec : ((wo + wl + 1 : Nat) : Int) = (wo : Int) + ((wl : Int) + 1) := by omega
        rw [ec] at this
        clear ih hQ w6' w5' w6 w5 hw hW
        simp (disch := omega) only [Option.toList_some, Option.toList_none, List.nil_append, List.cons_append, List.append_nil, true_and, and_true, not_true_eq_false, not_false_eq_true, true_implies, false_implies, implies_true, and_self, Int.reduceLT, Int.reduceLE, Int.reduceEq, Int.reduceNe, Int.reduceAdd, Int.reduceSub, Int.reduceMul, Int.reduceNeg, Int.reduceToNat, Int.toNat_natCast, ↓kk_ck, ↓kk_im, ↓kk_in, s_262_111, vi_32, vi_inc]
        exact this _ _ _
      have inner : ∀ j : Nat, j ≤ wl → wl = e - p → (∀ i, i < j → M 118 (p + i) = (wL w).getD i 0) → vi_ok GG d 262 57 [some (.inr (.inr 112)), some (.inl (p : Int)), some (.inl (e : Int)), some (.inl (w : Int)), some (.inl (wo : Int)), some (.inl (wl : Int)), some (.inl 1), some (.inl (j : Int))] [] (Y, M, nn) Q := by
        refine vi_dn wl ?_ fun j hj ihj => ?_
        · intro hle hall
          have hLw : L = wL w := Classical.byContradiction fun k => by
            obtain ⟨i, h1, h2⟩ := tL_ne (b := M 118) (p := p) (e := e) (w := w) (fun q => k (by rw [← hL]; exact q)) (by omega)
            exact h2 (by rw [tB_p (hl i h1)]; exact hall i (by omega))
          rw [if_pos hLw] at hw
          rw [← hw] at hQ
          rw [s_262_57]
          clear next ih w6' w5' w6 w5 hW
          simp (disch := omega) only [Option.toList_some, Option.toList_none, List.nil_append, List.cons_append, List.append_nil, true_and, and_true, not_true_eq_false, not_false_eq_true, true_implies, false_implies, implies_true, and_self, Int.reduceLT, Int.reduceLE, Int.reduceEq, Int.reduceNe, Int.reduceAdd, Int.reduceSub, Int.reduceMul, Int.reduceNeg, Int.reduceToNat, Int.toNat_natCast, ↓kk_ck, ↓kk_im, ↓kk_in, s_262_104, s_262_109]
          exact hQ
        · intro hle hall
          have c1 := w6' j hj
          have hlj := hl j (by omega)
          have et1 : ((wo : Int) + (j : Int)).toNat = wo + j := by omega
          have et2 : ((p : Int) + (j : Int)).toNat = p + j := by omega
          rw [s_262_57]
          by_cases hh : M 118 (p + j) = (wL w).getD j 0
          · have := ihj hle (fun i hi => by
              by_cases e : i = j
              · rw [e]; exact hh
              · exact hall i (by omega))
            clear next ih w6' w5' w6 w5 hQ hW ihj hw
            simp (disch := omega) only [Option.toList_some, Option.toList_none, List.nil_append, List.cons_append, List.append_nil, true_and, and_true, not_true_eq_false, not_false_eq_true, true_implies, false_implies, implies_true, and_self, Int.reduceLT, Int.reduceLE, Int.reduceEq, Int.reduceNe, Int.reduceAdd, Int.reduceSub, Int.reduceMul, Int.reduceNeg, Int.reduceToNat, Int.toNat_natCast, ↓kk_ck, ↓kk_im, ↓kk_in, s_262_64, s_262_69, s_262_73, s_262_78, s_262_79, s_262_83, s_262_87, s_262_88, s_262_91, s_262_96, R1, R7, R8, g1, g2, t1, t2, vi_32, et1, et2, c1.1, hh, ne_eq, vi_inc]
            exact this
          · have hne : L ≠ wL w := fun q => hh (by
              have := tL_at (b := M 118) (p := p) (e := e) (i := j) (by omega)
              rw [hL, q, tB_p hlj] at this
              exact this.symm)
            have := next hne 0 ((j + 1 : Nat) : Int)
            have hh' : ¬ (wL w).getD j 0 = M 118 (p + j) := fun q => hh q.symm
            clear next ih w6' w5' w6 w5 hQ hW ihj hw
            simp (disch := omega) only [Option.toList_some, Option.toList_none, List.nil_append, List.cons_append, List.append_nil, true_and, and_true, not_true_eq_false, not_false_eq_true, true_implies, false_implies, implies_true, and_self, Int.reduceLT, Int.reduceLE, Int.reduceEq, Int.reduceNe, Int.reduceAdd, Int.reduceSub, Int.reduceMul, Int.reduceNeg, Int.reduceToNat, Int.toNat_natCast, ↓kk_ck, ↓kk_im, ↓kk_in, s_262_64, s_262_69, s_262_73, s_262_78, s_262_79, s_262_83, s_262_87, s_262_88, s_262_95, s_262_96, R1, R7, R8, g1, g2, t1, t2, vi_32, et1, et2, c1.1, hh', ne_eq, vi_inc]
            rw [s_262_57]
            by_cases hj1 : wl ≤ j + 1
            · simp (disch := omega) only [Option.toList_some, Option.toList_none, List.nil_append, List.cons_append, List.append_nil, true_and, and_true, not_true_eq_false, not_false_eq_true, true_implies, false_implies, implies_true, and_self, Int.reduceLT, Int.reduceLE, Int.reduceEq, Int.reduceNe, Int.reduceAdd, Int.reduceSub, Int.reduceMul, Int.reduceNeg, Int.reduceToNat, Int.toNat_natCast, ↓kk_ck, ↓kk_im, ↓kk_in, s_262_104]
              exact this
            · simp (disch := omega) only [Option.toList_some, Option.toList_none, List.nil_append, List.cons_append, List.append_nil, true_and, and_true, not_true_eq_false, not_false_eq_true, true_implies, false_implies, implies_true, and_self, Int.reduceLT, Int.reduceLE, Int.reduceEq, Int.reduceNe, Int.reduceAdd, Int.reduceSub, Int.reduceMul, Int.reduceNeg, Int.reduceToNat, Int.toNat_natCast, ↓kk_ck, ↓kk_im, ↓kk_in, s_262_64, s_262_104]
              exact this
      have len : ∀ j : Nat, j ≤ wl → ∀ l6 l7, vi_ok GG d 262 18 [some (.inr (.inr 112)), some (.inl (p : Int)), some (.inl (e : Int)), some (.inl (w : Int)), some (.inl (wo : Int)), some (.inl (j : Int)), l6, l7] [] (Y, M, nn) Q := by
        refine vi_dn wl ?_ fun j hj ihj => ?_
        · intro l6 l7
          have et1 : ((wo : Int) + (wl : Int)).toNat = wo + wl := by omega
          rw [s_262_18]
          by_cases hle : wl = e - p
          · have := inner 0 (by omega) hle (fun i hi => by omega)
            clear next ih w6' w6 w5 hQ hW inner hw
            simp (disch := omega) only [Option.toList_some, Option.toList_none, List.nil_append, List.cons_append, List.append_nil, true_and, and_true, not_true_eq_false, not_false_eq_true, true_implies, false_implies, implies_true, and_self, Int.reduceLT, Int.reduceLE, Int.reduceEq, Int.reduceNe, Int.reduceAdd, Int.reduceSub, Int.reduceMul, Int.reduceNeg, Int.reduceToNat, Int.toNat_natCast, ↓kk_ck, ↓kk_im, ↓kk_in, s_262_22, s_262_27, s_262_28, s_262_39, s_262_44, s_262_47, s_262_52, R1, R7, g1, g2, vi_32, et1, w5', ne_eq]
            exact this
          · have hne : L ≠ wL w := fun q => hle (by rw [← hLl, q, hwl])
            have := next hne 0 0
            clear next ih w6' w6 w5 hQ hW inner hw
            simp (disch := omega) only [Option.toList_some, Option.toList_none, List.nil_append, List.cons_append, List.append_nil, true_and, and_true, not_true_eq_false, not_false_eq_true, true_implies, false_implies, implies_true, and_self, Int.reduceLT, Int.reduceLE, Int.reduceEq, Int.reduceNe, Int.reduceAdd, Int.reduceSub, Int.reduceMul, Int.reduceNeg, Int.reduceToNat, Int.toNat_natCast, ↓kk_ck, ↓kk_im, ↓kk_in, s_262_22, s_262_27, s_262_28, s_262_39, s_262_44, s_262_51, s_262_52, R1, R7, g1, g2, vi_32, et1, w5', ne_eq]
            rw [s_262_57]
            simp (disch := omega) only [Option.toList_some, Option.toList_none, List.nil_append, List.cons_append, List.append_nil, true_and, and_true, not_true_eq_false, not_false_eq_true, true_implies, false_implies, implies_true, and_self, Int.reduceLT, Int.reduceLE, Int.reduceEq, Int.reduceNe, Int.reduceAdd, Int.reduceSub, Int.reduceMul, Int.reduceNeg, Int.reduceToNat, Int.toNat_natCast, ↓kk_ck, ↓kk_im, ↓kk_in, s_262_64, s_262_104]
            exact this
        · intro l6 l7
          have c1 := w6' j hj
          have et1 : ((wo : Int) + (j : Int)).toNat = wo + j := by omega
          have := ihj l6 l7
          rw [s_262_18]
          clear next ih w6' w6 w5 hQ hW inner ihj hw w5'
          simp (disch := omega) only [Option.toList_some, Option.toList_none, List.nil_append, List.cons_append, List.append_nil, true_and, and_true, not_true_eq_false, not_false_eq_true, true_implies, false_implies, implies_true, and_self, Int.reduceLT, Int.reduceLE, Int.reduceEq, Int.reduceNe, Int.reduceAdd, Int.reduceSub, Int.reduceMul, Int.reduceNeg, Int.reduceToNat, Int.toNat_natCast, ↓kk_ck, ↓kk_im, ↓kk_in, s_262_22, s_262_27, s_262_28, s_262_33, R1, R7, g1, g2, vi_32, et1, c1.1, c1.2, vi_inc]
          exact this
      have := len 0 (by omega) l6 l7
      rw [s_262_5]
      clear next ih w6' w6 w5 hQ hW inner len hw w5'
      simp (disch := omega) only [Option.toList_some, Option.toList_none, List.nil_append, List.cons_append, List.append_nil, true_and, and_true, not_true_eq_false, not_false_eq_true, true_implies, false_implies, implies_true, and_self, Int.reduceLT, Int.reduceLE, Int.reduceEq, Int.reduceNe, Int.reduceAdd, Int.reduceSub, Int.reduceMul, Int.reduceNeg, Int.reduceToNat, Int.toNat_natCast, ↓kk_ck, ↓kk_im, ↓kk_in, s_262_11, s_262_12, s_262_15, R1, R7, g1, g2]
      exact this
  have := outer 13 1 none none none rfl (by omega) rfl
  clear outer hQ
  rw [e_262, s_262_0]
  exact this
end
