/-! Contracts of Vast (at 103), first part: lines in a vast box. -/
def fPo (v : Nat → Int) (a : Int) : Int := if a = (if v 0 = 0 then 1 else 0) then v 1 else v 2
def fLn (L : List (Nat → Int)) (x y z : Int) (h : Nat) : Bool := decide (rL L h 1 < gU x y z (rL L h 0) ∧ rL L h 2 < gV x y z (rL L h 0)) && ! sOr h (fun o => decide (rL L o 0 = rL L h 0 ∧ rL L o 1 = rL L h 1 ∧ rL L o 2 = rL L h 2))
def fCr (L : List (Nat → Int)) (i j : Nat) : Bool := decide (rL L i 0 ≠ rL L j 0) && decide (fPo (rL L i) (3 - rL L i 0 - rL L j 0) = fPo (rL L j) (3 - rL L i 0 - rL L j 0))
/-- how many of the first k behind j lie on both -/
def fCb (L : List (Nat → Int)) (x y z : Int) (i j k : Nat) : Nat := sN k (fun k => decide (j < k) && (fLn L x y z k && (fCr L i k && fCr L j k)))
section
variable {d q lim : Nat} {K : Option vi_V → vi_W → Prop} {Y : vi_Y} {M : vi_M} {n : Nat × Nat} {L : List (Nat → Int)}
theorem k_num (hq : kR Y q lim) (hr : rOK (M q) (M (q + 1)) L) (hl : L.length ≤ lim) {r : Nat} (hrl : r < L.length) {j : Nat} (hj : j < 6) {jj : Int} (e : jj = (j : Int)) : vi_call GG (d + 1) 151 [.inr (.inr q), .inl (r : Int), .inl jj] (Y, M, n) K ↔ K (some (.inl (rL L r j))) (Y, M, n) := by
  rw [e, k_151 hq hr hl hj, rNum, if_pos (by omega), Int.toNat_natCast]
theorem k_157 (hq : kR Y q lim) (hr : rOK (M q) (M (q + 1)) L) (hl : L.length ≤ lim) {r : Nat} (hrl : r < L.length) {a : Int} : vi_call GG (d + 2) 157 [.inr (.inr q), .inl (r : Int), .inl a] (Y, M, n) K ↔ K (some (.inl (fPo (rL L r) a))) (Y, M, n) := by
  have i1 := hq.1
  have N0 := fun {K : Option vi_V → vi_W → Prop} => @k_num d q lim K Y M n L hq hr hl r hrl 0 (by omega) 0 rfl
  have N1 := fun {K : Option vi_V → vi_W → Prop} => @k_num d q lim K Y M n L hq hr hl r hrl 1 (by omega) 1 rfl
  have N2 := fun {K : Option vi_V → vi_W → Prop} => @k_num d q lim K Y M n L hq hr hl r hrl 2 (by omega) 2 rfl
  refine vi_k (r := some (.inl _)) fun Q hQ => ?_
  unfold fPo at hQ
  by_cases c0 : rL L r 0 = 0
  · rw [if_pos c0] at hQ
    by_cases c1 : a = 1
    · rw [if_pos c1] at hQ
      simp (disch := omega) only [Option.toList_some, Option.toList_none, List.nil_append, List.cons_append, List.append_nil, true_and, and_true, not_true_eq_false, not_false_eq_true, true_implies, false_implies, implies_true, and_self, Int.reduceLT, Int.reduceLE, Int.reduceEq, Int.reduceNe, Int.reduceAdd, Int.reduceSub, Int.reduceMul, Int.reduceNeg, Int.reduceToNat, Int.toNat_natCast, ↓kk_ck, ↓kk_im, ↓kk_in, e_157, s_157_0, s_157_9, s_157_13, s_157_14, s_157_22, s_157_26, s_157_27, s_157_6, s_157_30, i1, N0, N1, N2, c0, c1, ne_eq]
      exact hQ
    · rw [if_neg c1] at hQ
      simp (disch := omega) only [Option.toList_some, Option.toList_none, List.nil_append, List.cons_append, List.append_nil, true_and, and_true, not_true_eq_false, not_false_eq_true, true_implies, false_implies, implies_true, and_self, Int.reduceLT, Int.reduceLE, Int.reduceEq, Int.reduceNe, Int.reduceAdd, Int.reduceSub, Int.reduceMul, Int.reduceNeg, Int.reduceToNat, Int.toNat_natCast, ↓kk_ck, ↓kk_im, ↓kk_in, e_157, s_157_0, s_157_9, s_157_13, s_157_14, s_157_22, s_157_26, s_157_27, s_157_6, s_157_30, i1, N0, N1, N2, c0, c1, ne_eq]
      exact hQ
  · rw [if_neg c0] at hQ
    by_cases c1 : a = 0
    · rw [if_pos c1] at hQ
      simp (disch := omega) only [Option.toList_some, Option.toList_none, List.nil_append, List.cons_append, List.append_nil, true_and, and_true, not_true_eq_false, not_false_eq_true, true_implies, false_implies, implies_true, and_self, Int.reduceLT, Int.reduceLE, Int.reduceEq, Int.reduceNe, Int.reduceAdd, Int.reduceSub, Int.reduceMul, Int.reduceNeg, Int.reduceToNat, Int.toNat_natCast, ↓kk_ck, ↓kk_im, ↓kk_in, e_157, s_157_0, s_157_9, s_157_13, s_157_14, s_157_22, s_157_26, s_157_27, s_157_6, s_157_30, i1, N0, N1, N2, c0, c1, ne_eq]
      exact hQ
    · rw [if_neg c1] at hQ
      simp (disch := omega) only [Option.toList_some, Option.toList_none, List.nil_append, List.cons_append, List.append_nil, true_and, and_true, not_true_eq_false, not_false_eq_true, true_implies, false_implies, implies_true, and_self, Int.reduceLT, Int.reduceLE, Int.reduceEq, Int.reduceNe, Int.reduceAdd, Int.reduceSub, Int.reduceMul, Int.reduceNeg, Int.reduceToNat, Int.toNat_natCast, ↓kk_ck, ↓kk_im, ↓kk_in, e_157, s_157_0, s_157_9, s_157_13, s_157_14, s_157_22, s_157_26, s_157_27, s_157_6, s_157_30, i1, N0, N1, N2, c0, c1, ne_eq]
      exact hQ
theorem k_164 {a x y z : Int} {w : vi_W} : vi_call GG (d + 1) 164 [.inl a, .inl x, .inl y, .inl z] w K ↔ K (some (.inl (gSz x y z a))) w := by
  obtain ⟨Y, M, n⟩ := w
  refine vi_k (r := some (.inl _)) fun Q hQ => ?_
  unfold gSz at hQ
  by_cases a0 : a = 0
  · rw [if_pos a0] at hQ
    simp (disch := omega) only [Option.toList_some, Option.toList_none, List.nil_append, List.cons_append, List.append_nil, true_and, and_true, not_true_eq_false, not_false_eq_true, true_implies, false_implies, implies_true, and_self, Int.reduceLT, Int.reduceLE, Int.reduceEq, Int.reduceNe, Int.reduceAdd, Int.reduceSub, Int.reduceMul, Int.reduceNeg, Int.reduceToNat, Int.toNat_natCast, ↓kk_ck, ↓kk_im, ↓kk_in, e_164, s_164_0, s_164_4, s_164_8, s_164_13, s_164_17, s_164_18, ne_eq]
    exact hQ
  · rw [if_neg a0] at hQ
    by_cases a1 : a = 1
    · rw [if_pos a1] at hQ
      simp (disch := omega) only [Option.toList_some, Option.toList_none, List.nil_append, List.cons_append, List.append_nil, true_and, and_true, not_true_eq_false, not_false_eq_true, true_implies, false_implies, implies_true, and_self, Int.reduceLT, Int.reduceLE, Int.reduceEq, Int.reduceNe, Int.reduceAdd, Int.reduceSub, Int.reduceMul, Int.reduceNeg, Int.reduceToNat, Int.toNat_natCast, ↓kk_ck, ↓kk_im, ↓kk_in, e_164, s_164_0, s_164_4, s_164_8, s_164_13, s_164_17, s_164_18, ne_eq]
      exact hQ
    · rw [if_neg a1] at hQ
      simp (disch := omega) only [Option.toList_some, Option.toList_none, List.nil_append, List.cons_append, List.append_nil, true_and, and_true, not_true_eq_false, not_false_eq_true, true_implies, false_implies, implies_true, and_self, Int.reduceLT, Int.reduceLE, Int.reduceEq, Int.reduceNe, Int.reduceAdd, Int.reduceSub, Int.reduceMul, Int.reduceNeg, Int.reduceToNat, Int.toNat_natCast, ↓kk_ck, ↓kk_im, ↓kk_in, e_164, s_164_0, s_164_4, s_164_8, s_164_13, s_164_17, s_164_18, ne_eq]
      exact hQ
theorem k_165 (hY : kY Y 151) (hr : rOK (M 31) (M 32) L) (hl : L.length ≤ 16) {h : Nat} (hh : h < L.length) {x y z : Int} : vi_call GG (d + 2) 165 [.inr (.inr 103), .inl (h : Int), .inl x, .inl y, .inl z] (Y, M, n) K ↔ K (some (.inl (vi_b (fLn L x y z h)))) (Y, M, n) := by
  obtain ⟨a1, a2, a3, a4, a5⟩ := y_103 hY (by omega)
  obtain ⟨b1, b2, b3, b4, b5, b6, b7⟩ := y_30 hY (by omega)
  have r1 := kR_31 hY (by omega)
  have i1 := r1.1
  have N := fun {K : Option vi_V → vi_W → Prop} {r : Nat} (hrl : r < L.length) (j : Nat) (hj : j < 6) (jj : Int) (e : jj = (j : Int)) => @k_num d 31 16 K Y M n L r1 hr hl r hrl j hj jj e
  have N0 := fun {K : Option vi_V → vi_W → Prop} => @N K h hh 0 (by omega) 0 rfl
  have N1 := fun {K : Option vi_V → vi_W → Prop} => @N K h hh 1 (by omega) 1 rfl
  have N2 := fun {K : Option vi_V → vi_W → Prop} => @N K h hh 2 (by omega) 2 rfl
  refine vi_k (r := some (.inl _)) fun Q hQ => ?_
  generalize hfo : (fun o => decide (rL L o 0 = rL L h 0 ∧ rL L o 1 = rL L h 1 ∧ rL L o 2 = rL L h 2)) = fo at *
  have hfo' : ∀ o, fo o = decide (rL L o 0 = rL L h 0 ∧ rL L o 1 = rL L h 1 ∧ rL L o 2 = rL L h 2) := fun o => by rw [← hfo]
  unfold fLn at hQ
  rw [hfo] at hQ
  clear hfo
  generalize rL L h 0 = ha at *
  generalize rL L h 1 = hu at *
  generalize rL L h 2 = hv at *
  have loop : hu < gU x y z ha ∧ hv < gV x y z ha → ∀ o : Nat, o ≤ h → sOr o fo = false → vi_ok GG (d + 1) 165 73 [some (.inr (.inr 103)), some (.inl (h : Int)), some (.inl x), some (.inl y), some (.inl z), some (.inr (.inr 31)), some (.inl ha), some (.inl hu), some (.inl hv), some (.inl (o : Int))] [] (Y, M, n) Q := by
    intro hc
    rw [decide_eq_true hc, Bool.true_and] at hQ
    refine vi_dn h ?_ fun o ho ih => ?_
    · intro hso
      rw [hso] at hQ
      rw [s_165_73]
      simp (disch := omega) only [Option.toList_some, Option.toList_none, List.nil_append, List.cons_append, List.append_nil, true_and, and_true, not_true_eq_false, not_false_eq_true, true_implies, false_implies, implies_true, and_self, Int.reduceLT, Int.reduceLE, Int.reduceEq, Int.reduceNe, Int.reduceAdd, Int.reduceSub, Int.reduceMul, Int.reduceNeg, Int.reduceToNat, Int.toNat_natCast, ↓kk_ck, ↓kk_im, ↓kk_in, s_165_0, s_165_43, s_165_47, s_165_48, s_165_51, s_165_59, s_165_63, s_165_65, s_165_68, s_165_70, s_165_79, s_165_92, s_165_105, s_165_118, s_165_120, s_165_126, s_165_4, s_165_87, s_165_100, s_165_113, s_165_7, s_165_16, s_165_25, s_165_34]
      exact hQ
    · intro hso
      have O0 := fun {K : Option vi_V → vi_W → Prop} => @N K o (by omega) 0 (by omega) 0 rfl
      have O1 := fun {K : Option vi_V → vi_W → Prop} => @N K o (by omega) 1 (by omega) 1 rfl
      have O2 := fun {K : Option vi_V → vi_W → Prop} => @N K o (by omega) 2 (by omega) 2 rfl
      have hT : (rL L o 0 = ha ∧ rL L o 1 = hu ∧ rL L o 2 = hv) → Q (some (.inl 0)) (Y, M, n) := fun h3 => by rw [sOr_iff.mpr ⟨o, ho, by rw [hfo']; exact decide_eq_true h3⟩] at hQ; exact hQ
      have hF : ¬ (rL L o 0 = ha ∧ rL L o 1 = hu ∧ rL L o 2 = hv) → _ := fun h3 => ih (by rw [sOr, hso, hfo', decide_eq_false h3]; rfl)
      clear hQ ih hfo' N
      generalize rL L o 0 = oa at *
      generalize rL L o 1 = ou at *
      generalize rL L o 2 = ov at *
      rw [s_165_73]
      by_cases c0 : oa = ha
      · by_cases c1 : ou = hu
        · by_cases c2 : ov = hv
          · have := hT ⟨c0, c1, c2⟩
            clear hT hF
            simp (disch := omega) only [Option.toList_some, Option.toList_none, List.nil_append, List.cons_append, List.append_nil, true_and, and_true, not_true_eq_false, not_false_eq_true, true_implies, false_implies, implies_true, and_self, Int.reduceLT, Int.reduceLE, Int.reduceEq, Int.reduceNe, Int.reduceAdd, Int.reduceSub, Int.reduceMul, Int.reduceNeg, Int.reduceToNat, Int.toNat_natCast, ↓kk_ck, ↓kk_im, ↓kk_in, s_165_0, s_165_43, s_165_47, s_165_48, s_165_51, s_165_59, s_165_63, s_165_65, s_165_68, s_165_70, s_165_79, s_165_92, s_165_105, s_165_118, s_165_120, s_165_126, s_165_4, s_165_87, s_165_100, s_165_113, s_165_7, s_165_16, s_165_25, s_165_34, i1, O0, O1, O2, ne_eq]
            exact this
          · have := hF (fun h3 => c2 h3.2.2)
            clear hT hF
            simp (disch := omega) only [Option.toList_some, Option.toList_none, List.nil_append, List.cons_append, List.append_nil, true_and, and_true, not_true_eq_false, not_false_eq_true, true_implies, false_implies, implies_true, and_self, Int.reduceLT, Int.reduceLE, Int.reduceEq, Int.reduceNe, Int.reduceAdd, Int.reduceSub, Int.reduceMul, Int.reduceNeg, Int.reduceToNat, Int.toNat_natCast, ↓kk_ck, ↓kk_im, ↓kk_in, s_165_0, s_165_43, s_165_47, s_165_48, s_165_51, s_165_59, s_165_63, s_165_65, s_165_68, s_165_70, s_165_79, s_165_92, s_165_105, s_165_118, s_165_120, s_165_126, s_165_4, s_165_87, s_165_100, s_165_113, s_165_7, s_165_16, s_165_25, s_165_34, i1, O0, O1, O2, ne_eq, vi_inc]
            exact this
        · have := hF (fun h3 => c1 h3.2.1)
          clear hT hF
          simp (disch := omega) only [Option.toList_some, Option.toList_none, List.nil_append, List.cons_append, List.append_nil, true_and, and_true, not_true_eq_false, not_false_eq_true, true_implies, false_implies, implies_true, and_self, Int.reduceLT, Int.reduceLE, Int.reduceEq, Int.reduceNe, Int.reduceAdd, Int.reduceSub, Int.reduceMul, Int.reduceNeg, Int.reduceToNat, Int.toNat_natCast, ↓kk_ck, ↓kk_im, ↓kk_in, s_165_0, s_165_43, s_165_47, s_165_48, s_165_51, s_165_59, s_165_63, s_165_65, s_165_68, s_165_70, s_165_79, s_165_92, s_165_105, s_165_118, s_165_120, s_165_126, s_165_4, s_165_87, s_165_100, s_165_113, s_165_7, s_165_16, s_165_25, s_165_34, i1, O0, O1, O2, ne_eq, vi_inc]
          exact this
      · have := hF (fun h3 => c0 h3.1)
        clear hT hF
        simp (disch := omega) only [Option.toList_some, Option.toList_none, List.nil_append, List.cons_append, List.append_nil, true_and, and_true, not_true_eq_false, not_false_eq_true, true_implies, false_implies, implies_true, and_self, Int.reduceLT, Int.reduceLE, Int.reduceEq, Int.reduceNe, Int.reduceAdd, Int.reduceSub, Int.reduceMul, Int.reduceNeg, Int.reduceToNat, Int.toNat_natCast, ↓kk_ck, ↓kk_im, ↓kk_in, s_165_0, s_165_43, s_165_47, s_165_48, s_165_51, s_165_59, s_165_63, s_165_65, s_165_68, s_165_70, s_165_79, s_165_92, s_165_105, s_165_118, s_165_120, s_165_126, s_165_4, s_165_87, s_165_100, s_165_113, s_165_7, s_165_16, s_165_25, s_165_34, i1, O0, O1, O2, ne_eq, vi_inc]
        exact this
  by_cases hc : hu < gU x y z ha ∧ hv < gV x y z ha
  · have := loop hc 0 (by omega) rfl
    clear hQ loop N
    by_cases c0 : ha = 0
    · have e1 : gU x y z ha = y := if_pos c0
      have e2 : gV x y z ha = z := if_neg (by omega)
      rw [e1, e2] at hc
      simp (disch := omega) only [Option.toList_some, Option.toList_none, List.nil_append, List.cons_append, List.append_nil, true_and, and_true, not_true_eq_false, not_false_eq_true, true_implies, false_implies, implies_true, and_self, Int.reduceLT, Int.reduceLE, Int.reduceEq, Int.reduceNe, Int.reduceAdd, Int.reduceSub, Int.reduceMul, Int.reduceNeg, Int.reduceToNat, Int.toNat_natCast, ↓kk_ck, ↓kk_im, ↓kk_in, e_165, s_165_0, s_165_43, s_165_47, s_165_48, s_165_51, s_165_59, s_165_63, s_165_65, s_165_68, s_165_70, s_165_79, s_165_92, s_165_105, s_165_118, s_165_120, s_165_126, s_165_4, s_165_87, s_165_100, s_165_113, s_165_7, s_165_16, s_165_25, s_165_34, a1, a2, b1, b2, i1, N0, N1, N2, ne_eq]
      exact this
    · have e1 : gU x y z ha = x := if_neg c0
      rw [e1] at hc
      by_cases c2 : ha = 2
      · have e2 : gV x y z ha = y := if_pos c2
        rw [e2] at hc
        simp (disch := omega) only [Option.toList_some, Option.toList_none, List.nil_append, List.cons_append, List.append_nil, true_and, and_true, not_true_eq_false, not_false_eq_true, true_implies, false_implies, implies_true, and_self, Int.reduceLT, Int.reduceLE, Int.reduceEq, Int.reduceNe, Int.reduceAdd, Int.reduceSub, Int.reduceMul, Int.reduceNeg, Int.reduceToNat, Int.toNat_natCast, ↓kk_ck, ↓kk_im, ↓kk_in, e_165, s_165_0, s_165_43, s_165_47, s_165_48, s_165_51, s_165_59, s_165_63, s_165_65, s_165_68, s_165_70, s_165_79, s_165_92, s_165_105, s_165_118, s_165_120, s_165_126, s_165_4, s_165_87, s_165_100, s_165_113, s_165_7, s_165_16, s_165_25, s_165_34, a1, a2, b1, b2, i1, N0, N1, N2, ne_eq]
        exact this
      · have e2 : gV x y z ha = z := if_neg c2
        rw [e2] at hc
        simp (disch := omega) only [Option.toList_some, Option.toList_none, List.nil_append, List.cons_append, List.append_nil, true_and, and_true, not_true_eq_false, not_false_eq_true, true_implies, false_implies, implies_true, and_self, Int.reduceLT, Int.reduceLE, Int.reduceEq, Int.reduceNe, Int.reduceAdd, Int.reduceSub, Int.reduceMul, Int.reduceNeg, Int.reduceToNat, Int.toNat_natCast, ↓kk_ck, ↓kk_im, ↓kk_in, e_165, s_165_0, s_165_43, s_165_47, s_165_48, s_165_51, s_165_59, s_165_63, s_165_65, s_165_68, s_165_70, s_165_79, s_165_92, s_165_105, s_165_118, s_165_120, s_165_126, s_165_4, s_165_87, s_165_100, s_165_113, s_165_7, s_165_16, s_165_25, s_165_34, a1, a2, b1, b2, i1, N0, N1, N2, ne_eq]
        exact this
  · rw [decide_eq_false hc, Bool.false_and] at hQ
    clear loop N
    by_cases c0 : ha = 0
    · have e1 : gU x y z ha = y := if_pos c0
      have e2 : gV x y z ha = z := if_neg (by omega)
      rw [e1, e2] at hc
      simp +contextual (disch := omega) only [Option.toList_some, Option.toList_none, List.nil_append, List.cons_append, List.append_nil, true_and, and_true, not_true_eq_false, not_false_eq_true, true_implies, false_implies, implies_true, and_self, Int.reduceLT, Int.reduceLE, Int.reduceEq, Int.reduceNe, Int.reduceAdd, Int.reduceSub, Int.reduceMul, Int.reduceNeg, Int.reduceToNat, Int.toNat_natCast, ↓kk_ck, ↓kk_im, ↓kk_in, e_165, s_165_0, s_165_43, s_165_47, s_165_48, s_165_51, s_165_59, s_165_63, s_165_65, s_165_68, s_165_70, s_165_79, s_165_92, s_165_105, s_165_118, s_165_120, s_165_126, s_165_4, s_165_87, s_165_100, s_165_113, s_165_7, s_165_16, s_165_25, s_165_34, a1, a2, b1, b2, i1, N0, N1, N2, ne_eq]
      (repeat' first | exact hQ | intro _ | refine And.intro ?_ ?_ | (exfalso; omega))
    · have e1 : gU x y z ha = x := if_neg c0
      rw [e1] at hc
      by_cases c2 : ha = 2
      · have e2 : gV x y z ha = y := if_pos c2
        rw [e2] at hc
        simp +contextual (disch := omega) only [Option.toList_some, Option.toList_none, List.nil_append, List.cons_append, List.append_nil, true_and, and_true, not_true_eq_false, not_false_eq_true, true_implies, false_implies, implies_true, and_self, Int.reduceLT, Int.reduceLE, Int.reduceEq, Int.reduceNe, Int.reduceAdd, Int.reduceSub, Int.reduceMul, Int.reduceNeg, Int.reduceToNat, Int.toNat_natCast, ↓kk_ck, ↓kk_im, ↓kk_in, e_165, s_165_0, s_165_43, s_165_47, s_165_48, s_165_51, s_165_59, s_165_63, s_165_65, s_165_68, s_165_70, s_165_79, s_165_92, s_165_105, s_165_118, s_165_120, s_165_126, s_165_4, s_165_87, s_165_100, s_165_113, s_165_7, s_165_16, s_165_25, s_165_34, a1, a2, b1, b2, i1, N0, N1, N2, ne_eq]
        (repeat' first | exact hQ | intro _ | refine And.intro ?_ ?_ | (exfalso; omega))
      · have e2 : gV x y z ha = z := if_neg c2
        rw [e2] at hc
        simp +contextual (disch := omega) only [Option.toList_some, Option.toList_none, List.nil_append, List.cons_append, List.append_nil, true_and, and_true, not_true_eq_false, not_false_eq_true, true_implies, false_implies, implies_true, and_self, Int.reduceLT, Int.reduceLE, Int.reduceEq, Int.reduceNe, Int.reduceAdd, Int.reduceSub, Int.reduceMul, Int.reduceNeg, Int.reduceToNat, Int.toNat_natCast, ↓kk_ck, ↓kk_im, ↓kk_in, e_165, s_165_0, s_165_43, s_165_47, s_165_48, s_165_51, s_165_59, s_165_63, s_165_65, s_165_68, s_165_70, s_165_79, s_165_92, s_165_105, s_165_118, s_165_120, s_165_126, s_165_4, s_165_87, s_165_100, s_165_113, s_165_7, s_165_16, s_165_25, s_165_34, a1, a2, b1, b2, i1, N0, N1, N2, ne_eq]
        (repeat' first | exact hQ | intro _ | refine And.intro ?_ ?_ | (exfalso; omega))
theorem k_166 (hY : kY Y 151) (hr : rOK (M 31) (M 32) L) (hl : L.length ≤ 16) (hg : ∀ r, r < L.length → gH (rL L r)) {i j : Nat} (hi : i < L.length) (hj : j < L.length) : vi_call GG (d + 3) 166 [.inr (.inr 103), .inl (i : Int), .inl (j : Int)] (Y, M, n) K ↔ K (some (.inl (vi_b (fCr L i j)))) (Y, M, n) := by
  obtain ⟨a1, a2, a3, a4, a5⟩ := y_103 hY (by omega)
  obtain ⟨b1, b2, b3, b4, b5, b6, b7⟩ := y_30 hY (by omega)
  have r1 := kR_31 hY (by omega)
  have i1 := r1.1
  have gi := (hg i hi).1
  have gj := (hg j hj).1
  have Ni := fun {K : Option vi_V → vi_W → Prop} => @k_num (d + 1) 31 16 K Y M n L r1 hr hl i hi 0 (by omega) 0 rfl
  have Nj := fun {K : Option vi_V → vi_W → Prop} => @k_num (d + 1) 31 16 K Y M n L r1 hr hl j hj 0 (by omega) 0 rfl
  have Pi := fun {K : Option vi_V → vi_W → Prop} {a : Int} => @k_157 d 31 16 K Y M n L r1 hr hl i hi a
  have Pj := fun {K : Option vi_V → vi_W → Prop} {a : Int} => @k_157 d 31 16 K Y M n L r1 hr hl j hj a
  clear hg
  refine vi_k (r := some (.inl _)) fun Q hQ => ?_
  unfold fCr at hQ
  generalize hA : fPo (rL L i) (3 - rL L i 0 - rL L j 0) = pa at *
  generalize hB : fPo (rL L j) (3 - rL L i 0 - rL L j 0) = pb at *
  by_cases c1 : rL L i 0 = rL L j 0
  · rw [decide_eq_false (fun k => k c1), Bool.false_and] at hQ
    simp (disch := omega) only [Option.toList_some, Option.toList_none, List.nil_append, List.cons_append, List.append_nil, true_and, and_true, not_true_eq_false, not_false_eq_true, true_implies, false_implies, implies_true, and_self, Int.reduceLT, Int.reduceLE, Int.reduceEq, Int.reduceNe, Int.reduceAdd, Int.reduceSub, Int.reduceMul, Int.reduceNeg, Int.reduceToNat, Int.toNat_natCast, ↓kk_ck, ↓kk_im, ↓kk_in, e_166, s_166_0, s_166_41, s_166_70, s_166_74, s_166_75, s_166_4, s_166_45, s_166_7, s_166_48, s_166_12, s_166_54, s_166_17, s_166_58, s_166_20, s_166_61, s_166_25, s_166_67, a1, a2, b1, b2, i1, Ni, Nj, vi_32, c1]
    exact hQ
  · rw [decide_eq_true c1, Bool.true_and] at hQ
    by_cases c2 : pa = pb
    · rw [vi_bp c2] at hQ
      simp (disch := omega) only [Option.toList_some, Option.toList_none, List.nil_append, List.cons_append, List.append_nil, true_and, and_true, not_true_eq_false, not_false_eq_true, true_implies, false_implies, implies_true, and_self, Int.reduceLT, Int.reduceLE, Int.reduceEq, Int.reduceNe, Int.reduceAdd, Int.reduceSub, Int.reduceMul, Int.reduceNeg, Int.reduceToNat, Int.toNat_natCast, ↓kk_ck, ↓kk_im, ↓kk_in, e_166, s_166_0, s_166_41, s_166_70, s_166_74, s_166_75, s_166_4, s_166_45, s_166_7, s_166_48, s_166_12, s_166_54, s_166_17, s_166_58, s_166_20, s_166_61, s_166_25, s_166_67, a1, a2, b1, b2, i1, Ni, Nj, vi_32, c1, Pi, Pj, hA, hB, ne_eq]
      exact hQ
    · rw [vi_bn c2] at hQ
      simp (disch := omega) only [Option.toList_some, Option.toList_none, List.nil_append, List.cons_append, List.append_nil, true_and, and_true, not_true_eq_false, not_false_eq_true, true_implies, false_implies, implies_true, and_self, Int.reduceLT, Int.reduceLE, Int.reduceEq, Int.reduceNe, Int.reduceAdd, Int.reduceSub, Int.reduceMul, Int.reduceNeg, Int.reduceToNat, Int.toNat_natCast, ↓kk_ck, ↓kk_im, ↓kk_in, e_166, s_166_0, s_166_41, s_166_70, s_166_74, s_166_75, s_166_4, s_166_45, s_166_7, s_166_48, s_166_12, s_166_54, s_166_17, s_166_58, s_166_20, s_166_61, s_166_25, s_166_67, a1, a2, b1, b2, i1, Ni, Nj, vi_32, c1, Pi, Pj, hA, hB, ne_eq]
      exact hQ
theorem k_167 (hY : kY Y 151) (hr : rOK (M 31) (M 32) L) (hl : L.length ≤ 16) (hg : ∀ r, r < L.length → gH (rL L r)) {i j : Nat} (hi : i < L.length) (hj : j < L.length) {x y z : Int} : vi_call GG (d + 4) 167 [.inr (.inr 103), .inl (i : Int), .inl (j : Int), .inl x, .inl y, .inl z] (Y, M, n) K ↔ K (some (.inl (fCb L x y z i j L.length : Int))) (Y, M, n) := by
  obtain ⟨a1, a2, a3, a4, a5⟩ := y_103 hY (by omega)
  obtain ⟨b1, b2, b3, b4, b5, b6, b7⟩ := y_30 hY (by omega)
  have r1 := kR_31 hY (by omega)
  have i1 := r1.1
  refine vi_k (r := some (.inl _)) fun Q hQ => ?_
  have loop : ∀ k : Nat, k ≤ L.length → j < k → vi_ok GG (d + 3) 167 8 [some (.inr (.inr 103)), some (.inl (i : Int)), some (.inl (j : Int)), some (.inl x), some (.inl y), some (.inl z), some (.inl (fCb L x y z i j k : Int)), some (.inl (k : Int))] [] (Y, M, n) Q := by
    refine vi_dn L.length ?_ fun k hk ih => ?_
    · intro hjk
      rw [s_167_8]
      simp (disch := omega) only [Option.toList_some, Option.toList_none, List.nil_append, List.cons_append, List.append_nil, true_and, and_true, not_true_eq_false, not_false_eq_true, true_implies, false_implies, implies_true, and_self, Int.reduceLT, Int.reduceLE, Int.reduceEq, Int.reduceNe, Int.reduceAdd, Int.reduceSub, Int.reduceMul, Int.reduceNeg, Int.reduceToNat, Int.toNat_natCast, ↓kk_ck, ↓kk_im, ↓kk_in, s_167_0, s_167_23, s_167_37, s_167_47, s_167_57, s_167_60, s_167_66, s_167_14, s_167_34, s_167_44, s_167_54, s_167_17, s_167_20, a1, a2, b1, b2, e_149, s_149_0, s_149_4, i1, hr.1]
      exact hQ
    · intro hjk
      have ih := ih (by omega)
      have k165 := fun {K : Option vi_V → vi_W → Prop} => @k_165 (d + 1) K Y M n L hY hr hl k hk x y z
      have ci := fun {K : Option vi_V → vi_W → Prop} => @k_166 d K Y M n L hY hr hl hg i k hi hk
      have cj := fun {K : Option vi_V → vi_W → Prop} => @k_166 d K Y M n L hY hr hl hg j k hj hk
      have hle : fCb L x y z i j k ≤ k := sN_le _ _
      have e : fCb L x y z i j (k + 1) = fCb L x y z i j k + (fLn L x y z k && (fCr L i k && fCr L j k)).toNat := by
        unfold fCb
        rw [sN_s, decide_eq_true hjk, Bool.true_and]
      rw [e] at ih
      clear e hQ hg
      generalize fCb L x y z i j k = t at *
      generalize fLn L x y z k = u1 at *
      generalize fCr L i k = u2 at *
      generalize fCr L j k = u3 at *
      rw [s_167_8]
      cases u1
      · simp (disch := omega) only [Option.toList_some, Option.toList_none, List.nil_append, List.cons_append, List.append_nil, true_and, and_true, not_true_eq_false, not_false_eq_true, true_implies, false_implies, implies_true, and_self, Int.reduceLT, Int.reduceLE, Int.reduceEq, Int.reduceNe, Int.reduceAdd, Int.reduceSub, Int.reduceMul, Int.reduceNeg, Int.reduceToNat, Int.toNat_natCast, ↓kk_ck, ↓kk_im, ↓kk_in, s_167_0, s_167_23, s_167_37, s_167_47, s_167_57, s_167_60, s_167_66, s_167_14, s_167_34, s_167_44, s_167_54, s_167_17, s_167_20, a1, a2, b1, b2, e_149, s_149_0, s_149_4, i1, hr.1, k165, vi_bf, vi_inc]
        exact ih
      · cases u2
        · simp (disch := omega) only [Option.toList_some, Option.toList_none, List.nil_append, List.cons_append, List.append_nil, true_and, and_true, not_true_eq_false, not_false_eq_true, true_implies, false_implies, implies_true, and_self, Int.reduceLT, Int.reduceLE, Int.reduceEq, Int.reduceNe, Int.reduceAdd, Int.reduceSub, Int.reduceMul, Int.reduceNeg, Int.reduceToNat, Int.toNat_natCast, ↓kk_ck, ↓kk_im, ↓kk_in, s_167_0, s_167_23, s_167_37, s_167_47, s_167_57, s_167_60, s_167_66, s_167_14, s_167_34, s_167_44, s_167_54, s_167_17, s_167_20, a1, a2, b1, b2, e_149, s_149_0, s_149_4, i1, hr.1, k165, ci, vi_bt, vi_bf, vi_inc]
          exact ih
        · cases u3
          · simp (disch := omega) only [Option.toList_some, Option.toList_none, List.nil_append, List.cons_append, List.append_nil, true_and, and_true, not_true_eq_false, not_false_eq_true, true_implies, false_implies, implies_true, and_self, Int.reduceLT, Int.reduceLE, Int.reduceEq, Int.reduceNe, Int.reduceAdd, Int.reduceSub, Int.reduceMul, Int.reduceNeg, Int.reduceToNat, Int.toNat_natCast, ↓kk_ck, ↓kk_im, ↓kk_in, s_167_0, s_167_23, s_167_37, s_167_47, s_167_57, s_167_60, s_167_66, s_167_14, s_167_34, s_167_44, s_167_54, s_167_17, s_167_20, a1, a2, b1, b2, e_149, s_149_0, s_149_4, i1, hr.1, k165, ci, cj, vi_bt, vi_bf, vi_inc]
            exact ih
          · simp (disch := omega) only [Option.toList_some, Option.toList_none, List.nil_append, List.cons_append, List.append_nil, true_and, and_true, not_true_eq_false, not_false_eq_true, true_implies, false_implies, implies_true, and_self, Int.reduceLT, Int.reduceLE, Int.reduceEq, Int.reduceNe, Int.reduceAdd, Int.reduceSub, Int.reduceMul, Int.reduceNeg, Int.reduceToNat, Int.toNat_natCast, ↓kk_ck, ↓kk_im, ↓kk_in, s_167_0, s_167_23, s_167_37, s_167_47, s_167_57, s_167_60, s_167_66, s_167_14, s_167_34, s_167_44, s_167_54, s_167_17, s_167_20, a1, a2, b1, b2, e_149, s_149_0, s_149_4, i1, hr.1, k165, ci, cj, vi_bt, vi_inc]
            exact ih
  have e0 : fCb L x y z i j (j + 1) = 0 := sN_0.mpr fun k hk => by rw [decide_eq_false (by omega), Bool.false_and]
  have := loop (j + 1) (by omega) (by omega)
  rw [e0] at this
  clear loop hQ
  simp (disch := omega) only [Option.toList_some, Option.toList_none, List.nil_append, List.cons_append, List.append_nil, true_and, and_true, not_true_eq_false, not_false_eq_true, true_implies, false_implies, implies_true, and_self, Int.reduceLT, Int.reduceLE, Int.reduceEq, Int.reduceNe, Int.reduceAdd, Int.reduceSub, Int.reduceMul, Int.reduceNeg, Int.reduceToNat, Int.toNat_natCast, ↓kk_ck, ↓kk_im, ↓kk_in, e_167, s_167_0, s_167_23, s_167_37, s_167_47, s_167_57, s_167_60, s_167_66, s_167_14, s_167_34, s_167_44, s_167_54, s_167_17, s_167_20, vi_inc]
  exact this
/-- of so many places in a row how many have just so many red ends -/
def fRd (size : Int) (both : Nat) (many : Int) : Int := if size = 1 then (if (both : Int) = many then 1 else 0) else if many = 0 then size - (both : Int) else if many = 1 then (both : Int) else 0
theorem k_168 {size many : Int} {e : Nat} {w : vi_W} (he : e < 64) (hs : 1 ≤ size ∧ size ≤ 1000) : vi_call GG (d + 2) 168 [.inl size, .inl (e : Int), .inl many] w K ↔ K (some (.inr (.inl (fRd size (bC (e % 4)) many)))) w := by
  obtain ⟨Y, M, n⟩ := w
  have e3 : vi_and32 (e : Int) (3 : Int) = ((e % 4 : Nat) : Int) := by
    have := vi_and32n (x := e) (y := 3) (by omega)
    rw [show (3 : Nat) = 2 ^ 2 - 1 from rfl, Nat.and_two_pow_sub_one_eq_mod] at this
    exact this
  have k356 := fun {K : Option vi_V → vi_W → Prop} {w : vi_W} => @k_356 d K w (e % 4) (by omega)
  have hbC : sN 16 (fun i => (e % 4).testBit i) = bC (e % 4) := rfl
  simp only [hbC] at k356
  rw [← e3] at k356
  have hb2 : bC (e % 4) ≤ 16 := sN_le _ _
  refine vi_k (r := some (.inr (.inl _))) fun Q hQ => ?_
  unfold fRd at hQ
  clear hbC e3
  generalize bC (e % 4) = u at *
  by_cases c1 : size = 1
  · rw [if_pos c1] at hQ
    by_cases c2 : (u : Int) = many
    · rw [if_pos c2] at hQ
      simp (disch := omega) only [Option.toList_some, Option.toList_none, List.nil_append, List.cons_append, List.append_nil, true_and, and_true, not_true_eq_false, not_false_eq_true, true_implies, false_implies, implies_true, and_self, Int.reduceLT, Int.reduceLE, Int.reduceEq, Int.reduceNe, Int.reduceAdd, Int.reduceSub, Int.reduceMul, Int.reduceNeg, Int.reduceToNat, Int.toNat_natCast, ↓kk_ck, ↓kk_im, ↓kk_in, e_168, s_168_0, s_168_12, s_168_17, s_168_21, s_168_22, s_168_23, s_168_27, s_168_34, s_168_39, s_168_44, s_168_45, s_168_6, k356, c1, c2, ne_eq]
      exact hQ
    · rw [if_neg c2] at hQ
      simp (disch := omega) only [Option.toList_some, Option.toList_none, List.nil_append, List.cons_append, List.append_nil, true_and, and_true, not_true_eq_false, not_false_eq_true, true_implies, false_implies, implies_true, and_self, Int.reduceLT, Int.reduceLE, Int.reduceEq, Int.reduceNe, Int.reduceAdd, Int.reduceSub, Int.reduceMul, Int.reduceNeg, Int.reduceToNat, Int.toNat_natCast, ↓kk_ck, ↓kk_im, ↓kk_in, e_168, s_168_0, s_168_12, s_168_17, s_168_21, s_168_22, s_168_23, s_168_27, s_168_34, s_168_39, s_168_44, s_168_45, s_168_6, k356, c1, c2, ne_eq]
      exact hQ
  · rw [if_neg c1] at hQ
    by_cases c2 : many = 0
    · rw [if_pos c2] at hQ
      simp (disch := omega) only [Option.toList_some, Option.toList_none, List.nil_append, List.cons_append, List.append_nil, true_and, and_true, not_true_eq_false, not_false_eq_true, true_implies, false_implies, implies_true, and_self, Int.reduceLT, Int.reduceLE, Int.reduceEq, Int.reduceNe, Int.reduceAdd, Int.reduceSub, Int.reduceMul, Int.reduceNeg, Int.reduceToNat, Int.toNat_natCast, ↓kk_ck, ↓kk_im, ↓kk_in, e_168, s_168_0, s_168_12, s_168_17, s_168_21, s_168_22, s_168_23, s_168_27, s_168_34, s_168_39, s_168_44, s_168_45, s_168_6, k356, c1, c2, ne_eq, vi_32]
      exact hQ
    · rw [if_neg c2] at hQ
      by_cases c3 : many = 1
      · rw [if_pos c3] at hQ
        simp (disch := omega) only [Option.toList_some, Option.toList_none, List.nil_append, List.cons_append, List.append_nil, true_and, and_true, not_true_eq_false, not_false_eq_true, true_implies, false_implies, implies_true, and_self, Int.reduceLT, Int.reduceLE, Int.reduceEq, Int.reduceNe, Int.reduceAdd, Int.reduceSub, Int.reduceMul, Int.reduceNeg, Int.reduceToNat, Int.toNat_natCast, ↓kk_ck, ↓kk_im, ↓kk_in, e_168, s_168_0, s_168_12, s_168_17, s_168_21, s_168_22, s_168_23, s_168_27, s_168_34, s_168_39, s_168_44, s_168_45, s_168_6, k356, c1, c2, c3, ne_eq, vi_32]
        exact hQ
      · rw [if_neg c3] at hQ
        simp (disch := omega) only [Option.toList_some, Option.toList_none, List.nil_append, List.cons_append, List.append_nil, true_and, and_true, not_true_eq_false, not_false_eq_true, true_implies, false_implies, implies_true, and_self, Int.reduceLT, Int.reduceLE, Int.reduceEq, Int.reduceNe, Int.reduceAdd, Int.reduceSub, Int.reduceMul, Int.reduceNeg, Int.reduceToNat, Int.toNat_natCast, ↓kk_ck, ↓kk_im, ↓kk_in, e_168, s_168_0, s_168_12, s_168_17, s_168_21, s_168_22, s_168_23, s_168_27, s_168_34, s_168_39, s_168_44, s_168_45, s_168_6, k356, c1, c2, c3, ne_eq, vi_32]
        exact hQ
end
