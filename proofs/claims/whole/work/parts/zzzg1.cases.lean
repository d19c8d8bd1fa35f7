/-! PRINTED BY gen/lw.py: the cases of law. -/
section
variable {sc : Nat → Int} {ln t d i : Nat} {Y : vi_Y} {M : vi_M} {nn : Nat × Nat} {Q : Option vi_V → vi_W → Prop}
theorem c_0_581 (hI : jInv sc ln t (Y, M, nn)) (ht : t < 1000) (hi : i + 7 ≤ ln) (hln : ln ≤ 100000) (hsc : ∀ j, j < ln → -2147483648 ≤ sc j ∧ sc j < 2147483648) (ih : ∀ w, jInv sc ln (t + 1) w → vi_ok GG (d + 70) 0 18 [some (.inr (.inr 1)), some (.inr (.inr 29)), some (.inr (.inr 112)), some (.inl ((i + 7 : Nat) : Int))] [] w Q) : vi_ok GG (d + 70) 0 581 [some (.inr (.inr 1)), some (.inr (.inr 29)), some (.inr (.inr 112)), some (.inl (i : Int))] [] (Y, M, nn) Q := by
  obtain ⟨a, CS, lw, n, hW⟩ := hI
  have hW : jW sc ln t a CS lw n Y M nn := hW
  obtain ⟨h1, h2, h3, h4, h5⟩ := jP_of hW.1
  have hp : jPair sc ln t (d + 70) 202 300 [.inl (sc (i + 1)), .inl (sc (i + 2)), .inl (sc (i + 3))] (Y, M, nn) := p_202 hW
  have h2K : vi_call GG (d + 70) 202 [.inr (.inr 29), .inl (sc (i + 1)), .inl (sc (i + 2)), .inl (sc (i + 3))] (Y, M, nn) (fun r w' => vi_ok GG (d + 70) 0 600 [some (.inr (.inr 1)), some (.inr (.inr 29)), some (.inr (.inr 112)), some (.inl (i : Int))] r.toList w' Q) := by
    refine vi_tyi (by first | exact .inl rfl | exact .inr rfl) (hp _ ?_)
    rintro x ⟨Y1, M1, n1⟩ ⟨g1, g2, g3, g4, g5⟩ hr ⟨y, hy⟩
    dsimp only at g1 g2 g3 g4 g5
    injection hy with hy
    subst hy
    have hc : vi_call GG (d + 70) 300 [.inr (.inr 112), .inl (sc (i + 1)), .inl (sc (i + 2)), .inl (sc (i + 3))] (Y1, M1, n1) (fun r w' => vi_ok GG (d + 70) 0 619 [some (.inr (.inr 1)), some (.inr (.inr 29)), some (.inr (.inr 112)), some (.inl (i : Int))] (r.toList ++ [.inl y]) w' Q) := by
      refine hr _ fun w2 hw2 => ?_
      obtain ⟨Y2, M2, n2⟩ := w2
      have := ih _ hw2
      clear ih hr hp hW
      show vi_ok GG (d + 70) 0 619 _ [.inl y, .inl y] (Y2, M2, n2) Q
      rw [s_0_619]
      refine ⟨fun _ => ?_, fun h => absurd rfl h⟩
      rw [s_0_1388, @vi_32 ((i : Int) + 7) (by omega) (by omega)]
      exact this
    clear ih hr hp hW h1 h2 h3 h4 h5
    simp (disch := omega) only [Option.toList_some, Option.toList_none, List.nil_append, List.cons_append, List.append_nil, true_and, and_true, not_true_eq_false, not_false_eq_true, true_implies, false_implies, implies_true, and_self, Int.reduceLT, Int.reduceLE, Int.reduceEq, Int.reduceNe, Int.reduceAdd, Int.reduceSub, Int.reduceMul, Int.reduceNeg, Int.reduceToNat, Int.toNat_natCast, ↓kk_ck, ↓kk_im, ↓kk_in, s_0_600, s_0_605, s_0_606, s_0_610, s_0_611, s_0_615, s_0_616, g1, g2, g3, g4, g5, @vi_32 ((i : Int) + 1) (by omega) (by omega), show ((i : Int) + 1).toNat = i + 1 by omega, @vi_32 ((i : Int) + 2) (by omega) (by omega), show ((i : Int) + 2).toNat = i + 2 by omega, @vi_32 ((i : Int) + 3) (by omega) (by omega), show ((i : Int) + 3).toNat = i + 3 by omega, Option.toList_some, List.cons_append, List.nil_append, ne_eq]
    exact hc
  clear ih hp hW
  simp (disch := omega) only [Option.toList_some, Option.toList_none, List.nil_append, List.cons_append, List.append_nil, true_and, and_true, not_true_eq_false, not_false_eq_true, true_implies, false_implies, implies_true, and_self, Int.reduceLT, Int.reduceLE, Int.reduceEq, Int.reduceNe, Int.reduceAdd, Int.reduceSub, Int.reduceMul, Int.reduceNeg, Int.reduceToNat, Int.toNat_natCast, ↓kk_ck, ↓kk_im, ↓kk_in, s_0_581, s_0_586, s_0_587, s_0_591, s_0_592, s_0_596, s_0_597, h1, h2, h3, h4, h5, @vi_32 ((i : Int) + 1) (by omega) (by omega), show ((i : Int) + 1).toNat = i + 1 by omega, @vi_32 ((i : Int) + 2) (by omega) (by omega), show ((i : Int) + 2).toNat = i + 2 by omega, @vi_32 ((i : Int) + 3) (by omega) (by omega), show ((i : Int) + 3).toNat = i + 3 by omega, ne_eq]
  exact h2K
theorem c_0_624 (hI : jInv sc ln t (Y, M, nn)) (ht : t < 1000) (hi : i + 7 ≤ ln) (hln : ln ≤ 100000) (hsc : ∀ j, j < ln → -2147483648 ≤ sc j ∧ sc j < 2147483648) (ih : ∀ w, jInv sc ln (t + 1) w → vi_ok GG (d + 70) 0 18 [some (.inr (.inr 1)), some (.inr (.inr 29)), some (.inr (.inr 112)), some (.inl ((i + 7 : Nat) : Int))] [] w Q) : vi_ok GG (d + 70) 0 624 [some (.inr (.inr 1)), some (.inr (.inr 29)), some (.inr (.inr 112)), some (.inl (i : Int))] [] (Y, M, nn) Q := by
  obtain ⟨a, CS, lw, n, hW⟩ := hI
  have hW : jW sc ln t a CS lw n Y M nn := hW
  obtain ⟨h1, h2, h3, h4, h5⟩ := jP_of hW.1
  have hp : jPair sc ln t (d + 70) 203 302 [.inl (sc (i + 1)), .inl (sc (i + 2)), .inl (sc (i + 3))] (Y, M, nn) := p_203 hW
  have h2K : vi_call GG (d + 70) 203 [.inr (.inr 29), .inl (sc (i + 1)), .inl (sc (i + 2)), .inl (sc (i + 3))] (Y, M, nn) (fun r w' => vi_ok GG (d + 70) 0 643 [some (.inr (.inr 1)), some (.inr (.inr 29)), some (.inr (.inr 112)), some (.inl (i : Int))] r.toList w' Q) := by
    refine vi_tyl rfl (hp _ ?_)
    rintro x ⟨Y1, M1, n1⟩ ⟨g1, g2, g3, g4, g5⟩ hr ⟨y, hy⟩
    dsimp only at g1 g2 g3 g4 g5
    injection hy with hy
    subst hy
    have hc : vi_call GG (d + 70) 302 [.inr (.inr 112), .inl (sc (i + 1)), .inl (sc (i + 2)), .inl (sc (i + 3))] (Y1, M1, n1) (fun r w' => vi_ok GG (d + 70) 0 662 [some (.inr (.inr 1)), some (.inr (.inr 29)), some (.inr (.inr 112)), some (.inl (i : Int))] (r.toList ++ [.inr (.inl y)]) w' Q) := by
      refine hr _ fun w2 hw2 => ?_
      obtain ⟨Y2, M2, n2⟩ := w2
      have := ih _ hw2
      clear ih hr hp hW
      show vi_ok GG (d + 70) 0 662 _ [.inr (.inl y), .inr (.inl y)] (Y2, M2, n2) Q
      rw [s_0_662, show vi_cmp64 y y = 0 by simp [vi_cmp64], s_0_663]
      refine ⟨fun _ => ?_, fun h => absurd rfl h⟩
      rw [s_0_1388, @vi_32 ((i : Int) + 7) (by omega) (by omega)]
      exact this
    clear ih hr hp hW h1 h2 h3 h4 h5
    simp (disch := omega) only [Option.toList_some, Option.toList_none, List.nil_append, List.cons_append, List.append_nil, true_and, and_true, not_true_eq_false, not_false_eq_true, true_implies, false_implies, implies_true, and_self, Int.reduceLT, Int.reduceLE, Int.reduceEq, Int.reduceNe, Int.reduceAdd, Int.reduceSub, Int.reduceMul, Int.reduceNeg, Int.reduceToNat, Int.toNat_natCast, ↓kk_ck, ↓kk_im, ↓kk_in, s_0_643, s_0_648, s_0_649, s_0_653, s_0_654, s_0_658, s_0_659, g1, g2, g3, g4, g5, @vi_32 ((i : Int) + 1) (by omega) (by omega), show ((i : Int) + 1).toNat = i + 1 by omega, @vi_32 ((i : Int) + 2) (by omega) (by omega), show ((i : Int) + 2).toNat = i + 2 by omega, @vi_32 ((i : Int) + 3) (by omega) (by omega), show ((i : Int) + 3).toNat = i + 3 by omega, Option.toList_some, List.cons_append, List.nil_append, ne_eq]
    exact hc
  clear ih hp hW
  simp (disch := omega) only [Option.toList_some, Option.toList_none, List.nil_append, List.cons_append, List.append_nil, true_and, and_true, not_true_eq_false, not_false_eq_true, true_implies, false_implies, implies_true, and_self, Int.reduceLT, Int.reduceLE, Int.reduceEq, Int.reduceNe, Int.reduceAdd, Int.reduceSub, Int.reduceMul, Int.reduceNeg, Int.reduceToNat, Int.toNat_natCast, ↓kk_ck, ↓kk_im, ↓kk_in, s_0_624, s_0_629, s_0_630, s_0_634, s_0_635, s_0_639, s_0_640, h1, h2, h3, h4, h5, @vi_32 ((i : Int) + 1) (by omega) (by omega), show ((i : Int) + 1).toNat = i + 1 by omega, @vi_32 ((i : Int) + 2) (by omega) (by omega), show ((i : Int) + 2).toNat = i + 2 by omega, @vi_32 ((i : Int) + 3) (by omega) (by omega), show ((i : Int) + 3).toNat = i + 3 by omega, ne_eq]
  exact h2K
theorem c_0_668 (hI : jInv sc ln t (Y, M, nn)) (ht : t < 1000) (hi : i + 7 ≤ ln) (hln : ln ≤ 100000) (hsc : ∀ j, j < ln → -2147483648 ≤ sc j ∧ sc j < 2147483648) (ih : ∀ w, jInv sc ln (t + 1) w → vi_ok GG (d + 70) 0 18 [some (.inr (.inr 1)), some (.inr (.inr 29)), some (.inr (.inr 112)), some (.inl ((i + 7 : Nat) : Int))] [] w Q) : vi_ok GG (d + 70) 0 668 [some (.inr (.inr 1)), some (.inr (.inr 29)), some (.inr (.inr 112)), some (.inl (i : Int))] [] (Y, M, nn) Q := by
  obtain ⟨a, CS, lw, n, hW⟩ := hI
  have hW : jW sc ln t a CS lw n Y M nn := hW
  obtain ⟨h1, h2, h3, h4, h5⟩ := jP_of hW.1
  have hp : jPair sc ln t (d + 70) 204 303 [.inl (sc (i + 1)), .inl (sc (i + 2)), .inl (sc (i + 3)), .inl (sc (i + 4))] (Y, M, nn) := p_204 hW ht
  have h2K : vi_call GG (d + 70) 204 [.inr (.inr 29), .inl (sc (i + 1)), .inl (sc (i + 2)), .inl (sc (i + 3)), .inl (sc (i + 4))] (Y, M, nn) (fun r w' => vi_ok GG (d + 70) 0 692 [some (.inr (.inr 1)), some (.inr (.inr 29)), some (.inr (.inr 112)), some (.inl (i : Int))] r.toList w' Q) := by
    refine vi_tyi (by first | exact .inl rfl | exact .inr rfl) (hp _ ?_)
    rintro x ⟨Y1, M1, n1⟩ ⟨g1, g2, g3, g4, g5⟩ hr ⟨y, hy⟩
    dsimp only at g1 g2 g3 g4 g5
    injection hy with hy
    subst hy
    have hc : vi_call GG (d + 70) 303 [.inr (.inr 112), .inl (sc (i + 1)), .inl (sc (i + 2)), .inl (sc (i + 3)), .inl (sc (i + 4))] (Y1, M1, n1) (fun r w' => vi_ok GG (d + 70) 0 716 [some (.inr (.inr 1)), some (.inr (.inr 29)), some (.inr (.inr 112)), some (.inl (i : Int))] (r.toList ++ [.inl y]) w' Q) := by
      refine hr _ fun w2 hw2 => ?_
      obtain ⟨Y2, M2, n2⟩ := w2
      have := ih _ hw2
      clear ih hr hp hW
      show vi_ok GG (d + 70) 0 716 _ [.inl y, .inl y] (Y2, M2, n2) Q
      rw [s_0_716]
      refine ⟨fun _ => ?_, fun h => absurd rfl h⟩
      rw [s_0_1388, @vi_32 ((i : Int) + 7) (by omega) (by omega)]
      exact this
    clear ih hr hp hW h1 h2 h3 h4 h5
    simp (disch := omega) only [Option.toList_some, Option.toList_none, List.nil_append, List.cons_append, List.append_nil, true_and, and_true, not_true_eq_false, not_false_eq_true, true_implies, false_implies, implies_true, and_self, Int.reduceLT, Int.reduceLE, Int.reduceEq, Int.reduceNe, Int.reduceAdd, Int.reduceSub, Int.reduceMul, Int.reduceNeg, Int.reduceToNat, Int.toNat_natCast, ↓kk_ck, ↓kk_im, ↓kk_in, s_0_692, s_0_697, s_0_698, s_0_702, s_0_703, s_0_707, s_0_708, s_0_712, s_0_713, g1, g2, g3, g4, g5, @vi_32 ((i : Int) + 1) (by omega) (by omega), show ((i : Int) + 1).toNat = i + 1 by omega, @vi_32 ((i : Int) + 2) (by omega) (by omega), show ((i : Int) + 2).toNat = i + 2 by omega, @vi_32 ((i : Int) + 3) (by omega) (by omega), show ((i : Int) + 3).toNat = i + 3 by omega, @vi_32 ((i : Int) + 4) (by omega) (by omega), show ((i : Int) + 4).toNat = i + 4 by omega, Option.toList_some, List.cons_append, List.nil_append, ne_eq]
    exact hc
  clear ih hp hW
  simp (disch := omega) only [Option.toList_some, Option.toList_none, List.nil_append, List.cons_append, List.append_nil, true_and, and_true, not_true_eq_false, not_false_eq_true, true_implies, false_implies, implies_true, and_self, Int.reduceLT, Int.reduceLE, Int.reduceEq, Int.reduceNe, Int.reduceAdd, Int.reduceSub, Int.reduceMul, Int.reduceNeg, Int.reduceToNat, Int.toNat_natCast, ↓kk_ck, ↓kk_im, ↓kk_in, s_0_668, s_0_673, s_0_674, s_0_678, s_0_679, s_0_683, s_0_684, s_0_688, s_0_689, h1, h2, h3, h4, h5, @vi_32 ((i : Int) + 1) (by omega) (by omega), show ((i : Int) + 1).toNat = i + 1 by omega, @vi_32 ((i : Int) + 2) (by omega) (by omega), show ((i : Int) + 2).toNat = i + 2 by omega, @vi_32 ((i : Int) + 3) (by omega) (by omega), show ((i : Int) + 3).toNat = i + 3 by omega, @vi_32 ((i : Int) + 4) (by omega) (by omega), show ((i : Int) + 4).toNat = i + 4 by omega, ne_eq]
  exact h2K
theorem c_0_721 (hI : jInv sc ln t (Y, M, nn)) (ht : t < 1000) (hi : i + 7 ≤ ln) (hln : ln ≤ 100000) (hsc : ∀ j, j < ln → -2147483648 ≤ sc j ∧ sc j < 2147483648) (ih : ∀ w, jInv sc ln (t + 1) w → vi_ok GG (d + 70) 0 18 [some (.inr (.inr 1)), some (.inr (.inr 29)), some (.inr (.inr 112)), some (.inl ((i + 7 : Nat) : Int))] [] w Q) : vi_ok GG (d + 70) 0 721 [some (.inr (.inr 1)), some (.inr (.inr 29)), some (.inr (.inr 112)), some (.inl (i : Int))] [] (Y, M, nn) Q := by
  obtain ⟨a, CS, lw, n, hW⟩ := hI
  have hW : jW sc ln t a CS lw n Y M nn := hW
  obtain ⟨h1, h2, h3, h4, h5⟩ := jP_of hW.1
  have hp : jPair sc ln t (d + 70) 205 304 [] (Y, M, nn) := p_205 hW ht
  have h2K : vi_call GG (d + 70) 205 [.inr (.inr 29)] (Y, M, nn) (fun r w' => vi_ok GG (d + 70) 0 725 [some (.inr (.inr 1)), some (.inr (.inr 29)), some (.inr (.inr 112)), some (.inl (i : Int))] r.toList w' Q) := by
    refine vi_tyi (by first | exact .inl rfl | exact .inr rfl) (hp _ ?_)
    rintro x ⟨Y1, M1, n1⟩ ⟨g1, g2, g3, g4, g5⟩ hr ⟨y, hy⟩
    dsimp only at g1 g2 g3 g4 g5
    injection hy with hy
    subst hy
    have hc : vi_call GG (d + 70) 304 [.inr (.inr 112)] (Y1, M1, n1) (fun r w' => vi_ok GG (d + 70) 0 729 [some (.inr (.inr 1)), some (.inr (.inr 29)), some (.inr (.inr 112)), some (.inl (i : Int))] (r.toList ++ [.inl y]) w' Q) := by
      refine hr _ fun w2 hw2 => ?_
      obtain ⟨Y2, M2, n2⟩ := w2
      have := ih _ hw2
      clear ih hr hp hW
      show vi_ok GG (d + 70) 0 729 _ [.inl y, .inl y] (Y2, M2, n2) Q
      rw [s_0_729]
      refine ⟨fun _ => ?_, fun h => absurd rfl h⟩
      rw [s_0_1388, @vi_32 ((i : Int) + 7) (by omega) (by omega)]
      exact this
    clear ih hr hp hW h1 h2 h3 h4 h5
    simp (disch := omega) only [Option.toList_some, Option.toList_none, List.nil_append, List.cons_append, List.append_nil, true_and, and_true, not_true_eq_false, not_false_eq_true, true_implies, false_implies, implies_true, and_self, Int.reduceLT, Int.reduceLE, Int.reduceEq, Int.reduceNe, Int.reduceAdd, Int.reduceSub, Int.reduceMul, Int.reduceNeg, Int.reduceToNat, Int.toNat_natCast, ↓kk_ck, ↓kk_im, ↓kk_in, s_0_725, g1, g2, g3, g4, g5, Option.toList_some, List.cons_append, List.nil_append, ne_eq]
    exact hc
  clear ih hp hW
  simp (disch := omega) only [Option.toList_some, Option.toList_none, List.nil_append, List.cons_append, List.append_nil, true_and, and_true, not_true_eq_false, not_false_eq_true, true_implies, false_implies, implies_true, and_self, Int.reduceLT, Int.reduceLE, Int.reduceEq, Int.reduceNe, Int.reduceAdd, Int.reduceSub, Int.reduceMul, Int.reduceNeg, Int.reduceToNat, Int.toNat_natCast, ↓kk_ck, ↓kk_im, ↓kk_in, s_0_721, h1, h2, h3, h4, h5, ne_eq]
  exact h2K
theorem c_0_734 (hI : jInv sc ln t (Y, M, nn)) (ht : t < 1000) (hi : i + 7 ≤ ln) (hln : ln ≤ 100000) (hsc : ∀ j, j < ln → -2147483648 ≤ sc j ∧ sc j < 2147483648) (ih : ∀ w, jInv sc ln (t + 1) w → vi_ok GG (d + 70) 0 18 [some (.inr (.inr 1)), some (.inr (.inr 29)), some (.inr (.inr 112)), some (.inl ((i + 7 : Nat) : Int))] [] w Q) : vi_ok GG (d + 70) 0 734 [some (.inr (.inr 1)), some (.inr (.inr 29)), some (.inr (.inr 112)), some (.inl (i : Int))] [] (Y, M, nn) Q := by
  obtain ⟨a, CS, lw, n, hW⟩ := hI
  have hW : jW sc ln t a CS lw n Y M nn := hW
  obtain ⟨h1, h2, h3, h4, h5⟩ := jP_of hW.1
  have hp : jPair sc ln t (d + 70) 206 305 [] (Y, M, nn) := p_206 hW
  have h2K : vi_call GG (d + 70) 206 [.inr (.inr 29)] (Y, M, nn) (fun r w' => vi_ok GG (d + 70) 0 738 [some (.inr (.inr 1)), some (.inr (.inr 29)), some (.inr (.inr 112)), some (.inl (i : Int))] r.toList w' Q) := by
    refine vi_tyi (by first | exact .inl rfl | exact .inr rfl) (hp _ ?_)
    rintro x ⟨Y1, M1, n1⟩ ⟨g1, g2, g3, g4, g5⟩ hr ⟨y, hy⟩
    dsimp only at g1 g2 g3 g4 g5
    injection hy with hy
    subst hy
    have hc : vi_call GG (d + 70) 305 [.inr (.inr 112)] (Y1, M1, n1) (fun r w' => vi_ok GG (d + 70) 0 742 [some (.inr (.inr 1)), some (.inr (.inr 29)), some (.inr (.inr 112)), some (.inl (i : Int))] (r.toList ++ [.inl y]) w' Q) := by
      refine hr _ fun w2 hw2 => ?_
      obtain ⟨Y2, M2, n2⟩ := w2
      have := ih _ hw2
      clear ih hr hp hW
      show vi_ok GG (d + 70) 0 742 _ [.inl y, .inl y] (Y2, M2, n2) Q
      rw [s_0_742]
      refine ⟨fun _ => ?_, fun h => absurd rfl h⟩
      rw [s_0_1388, @vi_32 ((i : Int) + 7) (by omega) (by omega)]
      exact this
    clear ih hr hp hW h1 h2 h3 h4 h5
    simp (disch := omega) only [Option.toList_some, Option.toList_none, List.nil_append, List.cons_append, List.append_nil, true_and, and_true, not_true_eq_false, not_false_eq_true, true_implies, false_implies, implies_true, and_self, Int.reduceLT, Int.reduceLE, Int.reduceEq, Int.reduceNe, Int.reduceAdd, Int.reduceSub, Int.reduceMul, Int.reduceNeg, Int.reduceToNat, Int.toNat_natCast, ↓kk_ck, ↓kk_im, ↓kk_in, s_0_738, g1, g2, g3, g4, g5, Option.toList_some, List.cons_append, List.nil_append, ne_eq]
    exact hc
  clear ih hp hW
  simp (disch := omega) only [Option.toList_some, Option.toList_none, List.nil_append, List.cons_append, List.append_nil, true_and, and_true, not_true_eq_false, not_false_eq_true, true_implies, false_implies, implies_true, and_self, Int.reduceLT, Int.reduceLE, Int.reduceEq, Int.reduceNe, Int.reduceAdd, Int.reduceSub, Int.reduceMul, Int.reduceNeg, Int.reduceToNat, Int.toNat_natCast, ↓kk_ck, ↓kk_im, ↓kk_in, s_0_734, h1, h2, h3, h4, h5, ne_eq]
  exact h2K
theorem c_0_747 (hI : jInv sc ln t (Y, M, nn)) (ht : t < 1000) (hi : i + 7 ≤ ln) (hln : ln ≤ 100000) (hsc : ∀ j, j < ln → -2147483648 ≤ sc j ∧ sc j < 2147483648) (ih : ∀ w, jInv sc ln (t + 1) w → vi_ok GG (d + 70) 0 18 [some (.inr (.inr 1)), some (.inr (.inr 29)), some (.inr (.inr 112)), some (.inl ((i + 7 : Nat) : Int))] [] w Q) : vi_ok GG (d + 70) 0 747 [some (.inr (.inr 1)), some (.inr (.inr 29)), some (.inr (.inr 112)), some (.inl (i : Int))] [] (Y, M, nn) Q := by
  obtain ⟨a, CS, lw, n, hW⟩ := hI
  have hW : jW sc ln t a CS lw n Y M nn := hW
  obtain ⟨h1, h2, h3, h4, h5⟩ := jP_of hW.1
  have hp : jPair sc ln t (d + 70) 207 307 [.inl (sc (i + 1)), .inl (sc (i + 2))] (Y, M, nn) := p_207 hW
  have h2K : vi_call GG (d + 70) 207 [.inr (.inr 29), .inl (sc (i + 1)), .inl (sc (i + 2))] (Y, M, nn) (fun r w' => vi_ok GG (d + 70) 0 761 [some (.inr (.inr 1)), some (.inr (.inr 29)), some (.inr (.inr 112)), some (.inl (i : Int))] r.toList w' Q) := by
    refine vi_tyi (by first | exact .inl rfl | exact .inr rfl) (hp _ ?_)
    rintro x ⟨Y1, M1, n1⟩ ⟨g1, g2, g3, g4, g5⟩ hr ⟨y, hy⟩
    dsimp only at g1 g2 g3 g4 g5
    injection hy with hy
    subst hy
    have hc : vi_call GG (d + 70) 307 [.inr (.inr 112), .inl (sc (i + 1)), .inl (sc (i + 2))] (Y1, M1, n1) (fun r w' => vi_ok GG (d + 70) 0 775 [some (.inr (.inr 1)), some (.inr (.inr 29)), some (.inr (.inr 112)), some (.inl (i : Int))] (r.toList ++ [.inl y]) w' Q) := by
      refine hr _ fun w2 hw2 => ?_
      obtain ⟨Y2, M2, n2⟩ := w2
      have := ih _ hw2
      clear ih hr hp hW
      show vi_ok GG (d + 70) 0 775 _ [.inl y, .inl y] (Y2, M2, n2) Q
      rw [s_0_775]
      refine ⟨fun _ => ?_, fun h => absurd rfl h⟩
      rw [s_0_1388, @vi_32 ((i : Int) + 7) (by omega) (by omega)]
      exact this
    clear ih hr hp hW h1 h2 h3 h4 h5
    simp (disch := omega) only [Option.toList_some, Option.toList_none, List.nil_append, List.cons_append, List.append_nil, true_and, and_true, not_true_eq_false, not_false_eq_true, true_implies, false_implies, implies_true, and_self, Int.reduceLT, Int.reduceLE, Int.reduceEq, Int.reduceNe, Int.reduceAdd, Int.reduceSub, Int.reduceMul, Int.reduceNeg, Int.reduceToNat, Int.toNat_natCast, ↓kk_ck, ↓kk_im, ↓kk_in, s_0_761, s_0_766, s_0_767, s_0_771, s_0_772, g1, g2, g3, g4, g5, @vi_32 ((i : Int) + 1) (by omega) (by omega), show ((i : Int) + 1).toNat = i + 1 by omega, @vi_32 ((i : Int) + 2) (by omega) (by omega), show ((i : Int) + 2).toNat = i + 2 by omega, Option.toList_some, List.cons_append, List.nil_append, ne_eq]
    exact hc
  clear ih hp hW
  simp (disch := omega) only [Option.toList_some, Option.toList_none, List.nil_append, List.cons_append, List.append_nil, true_and, and_true, not_true_eq_false, not_false_eq_true, true_implies, false_implies, implies_true, and_self, Int.reduceLT, Int.reduceLE, Int.reduceEq, Int.reduceNe, Int.reduceAdd, Int.reduceSub, Int.reduceMul, Int.reduceNeg, Int.reduceToNat, Int.toNat_natCast, ↓kk_ck, ↓kk_im, ↓kk_in, s_0_747, s_0_752, s_0_753, s_0_757, s_0_758, h1, h2, h3, h4, h5, @vi_32 ((i : Int) + 1) (by omega) (by omega), show ((i : Int) + 1).toNat = i + 1 by omega, @vi_32 ((i : Int) + 2) (by omega) (by omega), show ((i : Int) + 2).toNat = i + 2 by omega, ne_eq]
  exact h2K
theorem c_0_780 (hI : jInv sc ln t (Y, M, nn)) (ht : t < 1000) (hi : i + 7 ≤ ln) (hln : ln ≤ 100000) (hsc : ∀ j, j < ln → -2147483648 ≤ sc j ∧ sc j < 2147483648) (ih : ∀ w, jInv sc ln (t + 1) w → vi_ok GG (d + 70) 0 18 [some (.inr (.inr 1)), some (.inr (.inr 29)), some (.inr (.inr 112)), some (.inl ((i + 7 : Nat) : Int))] [] w Q) : vi_ok GG (d + 70) 0 780 [some (.inr (.inr 1)), some (.inr (.inr 29)), some (.inr (.inr 112)), some (.inl (i : Int))] [] (Y, M, nn) Q := by
  obtain ⟨a, CS, lw, n, hW⟩ := hI
  have hW : jW sc ln t a CS lw n Y M nn := hW
  obtain ⟨h1, h2, h3, h4, h5⟩ := jP_of hW.1
  have hp : jPair sc ln t (d + 70) 208 309 [.inl (sc (i + 1)), .inl (sc (i + 2)), .inl (sc (i + 3)), .inl (sc (i + 4)), .inl (sc (i + 5))] (Y, M, nn) := p_208 hW
  have h2K : vi_call GG (d + 70) 208 [.inr (.inr 29), .inl (sc (i + 1)), .inl (sc (i + 2)), .inl (sc (i + 3)), .inl (sc (i + 4)), .inl (sc (i + 5))] (Y, M, nn) (fun r w' => vi_ok GG (d + 70) 0 809 [some (.inr (.inr 1)), some (.inr (.inr 29)), some (.inr (.inr 112)), some (.inl (i : Int))] r.toList w' Q) := by
    refine vi_tyl rfl (hp _ ?_)
    rintro x ⟨Y1, M1, n1⟩ ⟨g1, g2, g3, g4, g5⟩ hr ⟨y, hy⟩
    dsimp only at g1 g2 g3 g4 g5
    injection hy with hy
    subst hy
    have hc : vi_call GG (d + 70) 309 [.inr (.inr 112), .inl (sc (i + 1)), .inl (sc (i + 2)), .inl (sc (i + 3)), .inl (sc (i + 4)), .inl (sc (i + 5))] (Y1, M1, n1) (fun r w' => vi_ok GG (d + 70) 0 838 [some (.inr (.inr 1)), some (.inr (.inr 29)), some (.inr (.inr 112)), some (.inl (i : Int))] (r.toList ++ [.inr (.inl y)]) w' Q) := by
      refine hr _ fun w2 hw2 => ?_
      obtain ⟨Y2, M2, n2⟩ := w2
      have := ih _ hw2
      clear ih hr hp hW
      show vi_ok GG (d + 70) 0 838 _ [.inr (.inl y), .inr (.inl y)] (Y2, M2, n2) Q
      rw [s_0_838, show vi_cmp64 y y = 0 by simp [vi_cmp64], s_0_839]
      refine ⟨fun _ => ?_, fun h => absurd rfl h⟩
      rw [s_0_1388, @vi_32 ((i : Int) + 7) (by omega) (by omega)]
      exact this
    clear ih hr hp hW h1 h2 h3 h4 h5
    simp (disch := omega) only [Option.toList_some, Option.toList_none, List.nil_append, List.cons_append, List.append_nil, true_and, and_true, not_true_eq_false, not_false_eq_true, true_implies, false_implies, implies_true, and_self, Int.reduceLT, Int.reduceLE, Int.reduceEq, Int.reduceNe, Int.reduceAdd, Int.reduceSub, Int.reduceMul, Int.reduceNeg, Int.reduceToNat, Int.toNat_natCast, ↓kk_ck, ↓kk_im, ↓kk_in, s_0_809, s_0_814, s_0_815, s_0_819, s_0_820, s_0_824, s_0_825, s_0_829, s_0_830, s_0_834, s_0_835, g1, g2, g3, g4, g5, @vi_32 ((i : Int) + 1) (by omega) (by omega), show ((i : Int) + 1).toNat = i + 1 by omega, @vi_32 ((i : Int) + 2) (by omega) (by omega), show ((i : Int) + 2).toNat = i + 2 by omega, @vi_32 ((i : Int) + 3) (by omega) (by omega), show ((i : Int) + 3).toNat = i + 3 by omega, @vi_32 ((i : Int) + 4) (by omega) (by omega), show ((i : Int) + 4).toNat = i + 4 by omega, @vi_32 ((i : Int) + 5) (by omega) (by omega), show ((i : Int) + 5).toNat = i + 5 by omega, Option.toList_some, List.cons_append, List.nil_append, ne_eq]
    exact hc
  clear ih hp hW
  simp (disch := omega) only [Option.toList_some, Option.toList_none, List.nil_append, List.cons_append, List.append_nil, true_and, and_true, not_true_eq_false, not_false_eq_true, true_implies, false_implies, implies_true, and_self, Int.reduceLT, Int.reduceLE, Int.reduceEq, Int.reduceNe, Int.reduceAdd, Int.reduceSub, Int.reduceMul, Int.reduceNeg, Int.reduceToNat, Int.toNat_natCast, ↓kk_ck, ↓kk_im, ↓kk_in, s_0_780, s_0_785, s_0_786, s_0_790, s_0_791, s_0_795, s_0_796, s_0_800, s_0_801, s_0_805, s_0_806, h1, h2, h3, h4, h5, @vi_32 ((i : Int) + 1) (by omega) (by omega), show ((i : Int) + 1).toNat = i + 1 by omega, @vi_32 ((i : Int) + 2) (by omega) (by omega), show ((i : Int) + 2).toNat = i + 2 by omega, @vi_32 ((i : Int) + 3) (by omega) (by omega), show ((i : Int) + 3).toNat = i + 3 by omega, @vi_32 ((i : Int) + 4) (by omega) (by omega), show ((i : Int) + 4).toNat = i + 4 by omega, @vi_32 ((i : Int) + 5) (by omega) (by omega), show ((i : Int) + 5).toNat = i + 5 by omega, ne_eq]
  exact h2K
theorem c_0_844 (hI : jInv sc ln t (Y, M, nn)) (ht : t < 1000) (hi : i + 7 ≤ ln) (hln : ln ≤ 100000) (hsc : ∀ j, j < ln → -2147483648 ≤ sc j ∧ sc j < 2147483648) (ih : ∀ w, jInv sc ln (t + 1) w → vi_ok GG (d + 70) 0 18 [some (.inr (.inr 1)), some (.inr (.inr 29)), some (.inr (.inr 112)), some (.inl ((i + 7 : Nat) : Int))] [] w Q) : vi_ok GG (d + 70) 0 844 [some (.inr (.inr 1)), some (.inr (.inr 29)), some (.inr (.inr 112)), some (.inl (i : Int))] [] (Y, M, nn) Q := by
  obtain ⟨a, CS, lw, n, hW⟩ := hI
  have hW : jW sc ln t a CS lw n Y M nn := hW
  obtain ⟨h1, h2, h3, h4, h5⟩ := jP_of hW.1
  have hp : jPair sc ln t (d + 70) 209 311 [.inl (sc (i + 1)), .inl (sc (i + 2))] (Y, M, nn) := p_209 hW
  have h2K : vi_call GG (d + 70) 209 [.inr (.inr 29), .inl (sc (i + 1)), .inl (sc (i + 2))] (Y, M, nn) (fun r w' => vi_ok GG (d + 70) 0 858 [some (.inr (.inr 1)), some (.inr (.inr 29)), some (.inr (.inr 112)), some (.inl (i : Int))] r.toList w' Q) := by
    refine vi_tyi (by first | exact .inl rfl | exact .inr rfl) (hp _ ?_)
    rintro x ⟨Y1, M1, n1⟩ ⟨g1, g2, g3, g4, g5⟩ hr ⟨y, hy⟩
    dsimp only at g1 g2 g3 g4 g5
    injection hy with hy
    subst hy
    have hc : vi_call GG (d + 70) 311 [.inr (.inr 112), .inl (sc (i + 1)), .inl (sc (i + 2))] (Y1, M1, n1) (fun r w' => vi_ok GG (d + 70) 0 872 [some (.inr (.inr 1)), some (.inr (.inr 29)), some (.inr (.inr 112)), some (.inl (i : Int))] (r.toList ++ [.inl y]) w' Q) := by
      refine hr _ fun w2 hw2 => ?_
      obtain ⟨Y2, M2, n2⟩ := w2
      have := ih _ hw2
      clear ih hr hp hW
      show vi_ok GG (d + 70) 0 872 _ [.inl y, .inl y] (Y2, M2, n2) Q
      rw [s_0_872]
      refine ⟨fun _ => ?_, fun h => absurd rfl h⟩
      rw [s_0_1388, @vi_32 ((i : Int) + 7) (by omega) (by omega)]
      exact this
    clear ih hr hp hW h1 h2 h3 h4 h5
    simp (disch := omega) only [Option.toList_some, Option.toList_none, List.nil_append, List.cons_append, List.append_nil, true_and, and_true, not_true_eq_false, not_false_eq_true, true_implies, false_implies, implies_true, and_self, Int.reduceLT, Int.reduceLE, Int.reduceEq, Int.reduceNe, Int.reduceAdd, Int.reduceSub, Int.reduceMul, Int.reduceNeg, Int.reduceToNat, Int.toNat_natCast, ↓kk_ck, ↓kk_im, ↓kk_in, s_0_858, s_0_863, s_0_864, s_0_868, s_0_869, g1, g2, g3, g4, g5, @vi_32 ((i : Int) + 1) (by omega) (by omega), show ((i : Int) + 1).toNat = i + 1 by omega, @vi_32 ((i : Int) + 2) (by omega) (by omega), show ((i : Int) + 2).toNat = i + 2 by omega, Option.toList_some, List.cons_append, List.nil_append, ne_eq]
    exact hc
  clear ih hp hW
  simp (disch := omega) only [Option.toList_some, Option.toList_none, List.nil_append, List.cons_append, List.append_nil, true_and, and_true, not_true_eq_false, not_false_eq_true, true_implies, false_implies, implies_true, and_self, Int.reduceLT, Int.reduceLE, Int.reduceEq, Int.reduceNe, Int.reduceAdd, Int.reduceSub, Int.reduceMul, Int.reduceNeg, Int.reduceToNat, Int.toNat_natCast, ↓kk_ck, ↓kk_im, ↓kk_in, s_0_844, s_0_849, s_0_850, s_0_854, s_0_855, h1, h2, h3, h4, h5, @vi_32 ((i : Int) + 1) (by omega) (by omega), show ((i : Int) + 1).toNat = i + 1 by omega, @vi_32 ((i : Int) + 2) (by omega) (by omega), show ((i : Int) + 2).toNat = i + 2 by omega, ne_eq]
  exact h2K
theorem c_0_877 (hI : jInv sc ln t (Y, M, nn)) (ht : t < 1000) (hi : i + 7 ≤ ln) (hln : ln ≤ 100000) (hsc : ∀ j, j < ln → -2147483648 ≤ sc j ∧ sc j < 2147483648) (ih : ∀ w, jInv sc ln (t + 1) w → vi_ok GG (d + 70) 0 18 [some (.inr (.inr 1)), some (.inr (.inr 29)), some (.inr (.inr 112)), some (.inl ((i + 7 : Nat) : Int))] [] w Q) : vi_ok GG (d + 70) 0 877 [some (.inr (.inr 1)), some (.inr (.inr 29)), some (.inr (.inr 112)), some (.inl (i : Int))] [] (Y, M, nn) Q := by
  obtain ⟨a, CS, lw, n, hW⟩ := hI
  have hW : jW sc ln t a CS lw n Y M nn := hW
  obtain ⟨h1, h2, h3, h4, h5⟩ := jP_of hW.1
  have hp : jPair sc ln t (d + 70) 210 318 [.inl (sc (i + 1)), .inl (sc (i + 2)), .inl (sc (i + 3))] (Y, M, nn) := p_210 hW
  have h2K : vi_call GG (d + 70) 210 [.inr (.inr 29), .inl (sc (i + 1)), .inl (sc (i + 2)), .inl (sc (i + 3))] (Y, M, nn) (fun r w' => vi_ok GG (d + 70) 0 896 [some (.inr (.inr 1)), some (.inr (.inr 29)), some (.inr (.inr 112)), some (.inl (i : Int))] r.toList w' Q) := by
    refine vi_tyi (by first | exact .inl rfl | exact .inr rfl) (hp _ ?_)
    rintro x ⟨Y1, M1, n1⟩ ⟨g1, g2, g3, g4, g5⟩ hr ⟨y, hy⟩
    dsimp only at g1 g2 g3 g4 g5
    injection hy with hy
    subst hy
    have hc : vi_call GG (d + 70) 318 [.inr (.inr 112), .inl (sc (i + 1)), .inl (sc (i + 2)), .inl (sc (i + 3))] (Y1, M1, n1) (fun r w' => vi_ok GG (d + 70) 0 915 [some (.inr (.inr 1)), some (.inr (.inr 29)), some (.inr (.inr 112)), some (.inl (i : Int))] (r.toList ++ [.inl y]) w' Q) := by
      refine hr _ fun w2 hw2 => ?_
      obtain ⟨Y2, M2, n2⟩ := w2
      have := ih _ hw2
      clear ih hr hp hW
      show vi_ok GG (d + 70) 0 915 _ [.inl y, .inl y] (Y2, M2, n2) Q
      rw [s_0_915]
      refine ⟨fun _ => ?_, fun h => absurd rfl h⟩
      rw [s_0_1388, @vi_32 ((i : Int) + 7) (by omega) (by omega)]
      exact this
    clear ih hr hp hW h1 h2 h3 h4 h5
    simp (disch := omega) only [Option.toList_some, Option.toList_none, List.nil_append, List.cons_append, List.append_nil, true_and, and_true, not_true_eq_false, not_false_eq_true, true_implies, false_implies, implies_true, and_self, Int.reduceLT, Int.reduceLE, Int.reduceEq, Int.reduceNe, Int.reduceAdd, Int.reduceSub, Int.reduceMul, Int.reduceNeg, Int.reduceToNat, Int.toNat_natCast, ↓kk_ck, ↓kk_im, ↓kk_in, s_0_896, s_0_901, s_0_902, s_0_906, s_0_907, s_0_911, s_0_912, g1, g2, g3, g4, g5, @vi_32 ((i : Int) + 1) (by omega) (by omega), show ((i : Int) + 1).toNat = i + 1 by omega, @vi_32 ((i : Int) + 2) (by omega) (by omega), show ((i : Int) + 2).toNat = i + 2 by omega, @vi_32 ((i : Int) + 3) (by omega) (by omega), show ((i : Int) + 3).toNat = i + 3 by omega, Option.toList_some, List.cons_append, List.nil_append, ne_eq]
    exact hc
  clear ih hp hW
  simp (disch := omega) only [Option.toList_some, Option.toList_none, List.nil_append, List.cons_append, List.append_nil, true_and, and_true, not_true_eq_false, not_false_eq_true, true_implies, false_implies, implies_true, and_self, Int.reduceLT, Int.reduceLE, Int.reduceEq, Int.reduceNe, Int.reduceAdd, Int.reduceSub, Int.reduceMul, Int.reduceNeg, Int.reduceToNat, Int.toNat_natCast, ↓kk_ck, ↓kk_im, ↓kk_in, s_0_877, s_0_882, s_0_883, s_0_887, s_0_888, s_0_892, s_0_893, h1, h2, h3, h4, h5, @vi_32 ((i : Int) + 1) (by omega) (by omega), show ((i : Int) + 1).toNat = i + 1 by omega, @vi_32 ((i : Int) + 2) (by omega) (by omega), show ((i : Int) + 2).toNat = i + 2 by omega, @vi_32 ((i : Int) + 3) (by omega) (by omega), show ((i : Int) + 3).toNat = i + 3 by omega, ne_eq]
  exact h2K
theorem c_0_920 (hI : jInv sc ln t (Y, M, nn)) (ht : t < 1000) (hi : i + 7 ≤ ln) (hln : ln ≤ 100000) (hsc : ∀ j, j < ln → -2147483648 ≤ sc j ∧ sc j < 2147483648) (ih : ∀ w, jInv sc ln (t + 1) w → vi_ok GG (d + 70) 0 18 [some (.inr (.inr 1)), some (.inr (.inr 29)), some (.inr (.inr 112)), some (.inl ((i + 7 : Nat) : Int))] [] w Q) : vi_ok GG (d + 70) 0 920 [some (.inr (.inr 1)), some (.inr (.inr 29)), some (.inr (.inr 112)), some (.inl (i : Int))] [] (Y, M, nn) Q := by
  obtain ⟨a, CS, lw, n, hW⟩ := hI
  have hW : jW sc ln t a CS lw n Y M nn := hW
  obtain ⟨h1, h2, h3, h4, h5⟩ := jP_of hW.1
  have hp : jPair sc ln t (d + 70) 211 319 [.inl (sc (i + 1)), .inl (sc (i + 2)), .inl (sc (i + 3)), .inl (sc (i + 4))] (Y, M, nn) := p_211 hW ht
  have h2K : vi_call GG (d + 70) 211 [.inr (.inr 29), .inl (sc (i + 1)), .inl (sc (i + 2)), .inl (sc (i + 3)), .inl (sc (i + 4))] (Y, M, nn) (fun r w' => vi_ok GG (d + 70) 0 944 [some (.inr (.inr 1)), some (.inr (.inr 29)), some (.inr (.inr 112)), some (.inl (i : Int))] r.toList w' Q) := by
    refine vi_tyi (by first | exact .inl rfl | exact .inr rfl) (hp _ ?_)
    rintro x ⟨Y1, M1, n1⟩ ⟨g1, g2, g3, g4, g5⟩ hr ⟨y, hy⟩
    dsimp only at g1 g2 g3 g4 g5
    injection hy with hy
    subst hy
    have hc : vi_call GG (d + 70) 319 [.inr (.inr 112), .inl (sc (i + 1)), .inl (sc (i + 2)), .inl (sc (i + 3)), .inl (sc (i + 4))] (Y1, M1, n1) (fun r w' => vi_ok GG (d + 70) 0 968 [some (.inr (.inr 1)), some (.inr (.inr 29)), some (.inr (.inr 112)), some (.inl (i : Int))] (r.toList ++ [.inl y]) w' Q) := by
      refine hr _ fun w2 hw2 => ?_
      obtain ⟨Y2, M2, n2⟩ := w2
      have := ih _ hw2
      clear ih hr hp hW
      show vi_ok GG (d + 70) 0 968 _ [.inl y, .inl y] (Y2, M2, n2) Q
      rw [s_0_968]
      refine ⟨fun _ => ?_, fun h => absurd rfl h⟩
      rw [s_0_1388, @vi_32 ((i : Int) + 7) (by omega) (by omega)]
      exact this
    clear ih hr hp hW h1 h2 h3 h4 h5
    simp (disch := omega) only [Option.toList_some, Option.toList_none, List.nil_append, List.cons_append, List.append_nil, true_and, and_true, not_true_eq_false, not_false_eq_true, true_implies, false_implies, implies_true, and_self, Int.reduceLT, Int.reduceLE, Int.reduceEq, Int.reduceNe, Int.reduceAdd, Int.reduceSub, Int.reduceMul, Int.reduceNeg, Int.reduceToNat, Int.toNat_natCast, ↓kk_ck, ↓kk_im, ↓kk_in, s_0_944, s_0_949, s_0_950, s_0_954, s_0_955, s_0_959, s_0_960, s_0_964, s_0_965, g1, g2, g3, g4, g5, @vi_32 ((i : Int) + 1) (by omega) (by omega), show ((i : Int) + 1).toNat = i + 1 by omega, @vi_32 ((i : Int) + 2) (by omega) (by omega), show ((i : Int) + 2).toNat = i + 2 by omega, @vi_32 ((i : Int) + 3) (by omega) (by omega), show ((i : Int) + 3).toNat = i + 3 by omega, @vi_32 ((i : Int) + 4) (by omega) (by omega), show ((i : Int) + 4).toNat = i + 4 by omega, Option.toList_some, List.cons_append, List.nil_append, ne_eq]
    exact hc
  clear ih hp hW
  simp (disch := omega) only [Option.toList_some, Option.toList_none, List.nil_append, List.cons_append, List.append_nil, true_and, and_true, not_true_eq_false, not_false_eq_true, true_implies, false_implies, implies_true, and_self, Int.reduceLT, Int.reduceLE, Int.reduceEq, Int.reduceNe, Int.reduceAdd, Int.reduceSub, Int.reduceMul, Int.reduceNeg, Int.reduceToNat, Int.toNat_natCast, ↓kk_ck, ↓kk_im, ↓kk_in, s_0_920, s_0_925, s_0_926, s_0_930, s_0_931, s_0_935, s_0_936, s_0_940, s_0_941, h1, h2, h3, h4, h5, @vi_32 ((i : Int) + 1) (by omega) (by omega), show ((i : Int) + 1).toNat = i + 1 by omega, @vi_32 ((i : Int) + 2) (by omega) (by omega), show ((i : Int) + 2).toNat = i + 2 by omega, @vi_32 ((i : Int) + 3) (by omega) (by omega), show ((i : Int) + 3).toNat = i + 3 by omega, @vi_32 ((i : Int) + 4) (by omega) (by omega), show ((i : Int) + 4).toNat = i + 4 by omega, ne_eq]
  exact h2K
theorem c_0_973 (hI : jInv sc ln t (Y, M, nn)) (ht : t < 1000) (hi : i + 7 ≤ ln) (hln : ln ≤ 100000) (hsc : ∀ j, j < ln → -2147483648 ≤ sc j ∧ sc j < 2147483648) (ih : ∀ w, jInv sc ln (t + 1) w → vi_ok GG (d + 70) 0 18 [some (.inr (.inr 1)), some (.inr (.inr 29)), some (.inr (.inr 112)), some (.inl ((i + 7 : Nat) : Int))] [] w Q) : vi_ok GG (d + 70) 0 973 [some (.inr (.inr 1)), some (.inr (.inr 29)), some (.inr (.inr 112)), some (.inl (i : Int))] [] (Y, M, nn) Q := by
  obtain ⟨a, CS, lw, n, hW⟩ := hI
  have hW : jW sc ln t a CS lw n Y M nn := hW
  obtain ⟨h1, h2, h3, h4, h5⟩ := jP_of hW.1
  have hp : jPair sc ln t (d + 70) 212 327 [.inl (sc (i + 1))] (Y, M, nn) := p_212 hW
  have h2K : vi_call GG (d + 70) 212 [.inr (.inr 29), .inl (sc (i + 1))] (Y, M, nn) (fun r w' => vi_ok GG (d + 70) 0 982 [some (.inr (.inr 1)), some (.inr (.inr 29)), some (.inr (.inr 112)), some (.inl (i : Int))] r.toList w' Q) := by
    refine vi_tyi (by first | exact .inl rfl | exact .inr rfl) (hp _ ?_)
    rintro x ⟨Y1, M1, n1⟩ ⟨g1, g2, g3, g4, g5⟩ hr ⟨y, hy⟩
    dsimp only at g1 g2 g3 g4 g5
    injection hy with hy
    subst hy
    have hc : vi_call GG (d + 70) 327 [.inr (.inr 112), .inl (sc (i + 1))] (Y1, M1, n1) (fun r w' => vi_ok GG (d + 70) 0 991 [some (.inr (.inr 1)), some (.inr (.inr 29)), some (.inr (.inr 112)), some (.inl (i : Int))] (r.toList ++ [.inl y]) w' Q) := by
      refine hr _ fun w2 hw2 => ?_
      obtain ⟨Y2, M2, n2⟩ := w2
      have := ih _ hw2
      clear ih hr hp hW
      show vi_ok GG (d + 70) 0 991 _ [.inl y, .inl y] (Y2, M2, n2) Q
      rw [s_0_991]
      refine ⟨fun _ => ?_, fun h => absurd rfl h⟩
      rw [s_0_1388, @vi_32 ((i : Int) + 7) (by omega) (by omega)]
      exact this
    clear ih hr hp hW h1 h2 h3 h4 h5
    simp (disch := omega) only [Option.toList_some, Option.toList_none, List.nil_append, List.cons_append, List.append_nil, true_and, and_true, not_true_eq_false, not_false_eq_true, true_implies, false_implies, implies_true, and_self, Int.reduceLT, Int.reduceLE, Int.reduceEq, Int.reduceNe, Int.reduceAdd, Int.reduceSub, Int.reduceMul, Int.reduceNeg, Int.reduceToNat, Int.toNat_natCast, ↓kk_ck, ↓kk_im, ↓kk_in, s_0_982, s_0_987, s_0_988, g1, g2, g3, g4, g5, @vi_32 ((i : Int) + 1) (by omega) (by omega), show ((i : Int) + 1).toNat = i + 1 by omega, Option.toList_some, List.cons_append, List.nil_append, ne_eq]
    exact hc
  clear ih hp hW
  simp (disch := omega) only [Option.toList_some, Option.toList_none, List.nil_append, List.cons_append, List.append_nil, true_and, and_true, not_true_eq_false, not_false_eq_true, true_implies, false_implies, implies_true, and_self, Int.reduceLT, Int.reduceLE, Int.reduceEq, Int.reduceNe, Int.reduceAdd, Int.reduceSub, Int.reduceMul, Int.reduceNeg, Int.reduceToNat, Int.toNat_natCast, ↓kk_ck, ↓kk_im, ↓kk_in, s_0_973, s_0_978, s_0_979, h1, h2, h3, h4, h5, @vi_32 ((i : Int) + 1) (by omega) (by omega), show ((i : Int) + 1).toNat = i + 1 by omega, ne_eq]
  exact h2K
theorem c_0_996 (hI : jInv sc ln t (Y, M, nn)) (ht : t < 1000) (hi : i + 7 ≤ ln) (hln : ln ≤ 100000) (hsc : ∀ j, j < ln → -2147483648 ≤ sc j ∧ sc j < 2147483648) (ih : ∀ w, jInv sc ln (t + 1) w → vi_ok GG (d + 70) 0 18 [some (.inr (.inr 1)), some (.inr (.inr 29)), some (.inr (.inr 112)), some (.inl ((i + 7 : Nat) : Int))] [] w Q) : vi_ok GG (d + 70) 0 996 [some (.inr (.inr 1)), some (.inr (.inr 29)), some (.inr (.inr 112)), some (.inl (i : Int))] [] (Y, M, nn) Q := by
  obtain ⟨a, CS, lw, n, hW⟩ := hI
  have hW : jW sc ln t a CS lw n Y M nn := hW
  obtain ⟨h1, h2, h3, h4, h5⟩ := jP_of hW.1
  have hp : jPair sc ln t (d + 70) 213 332 [.inl (sc (i + 1))] (Y, M, nn) := p_213 hW
  have h2K : vi_call GG (d + 70) 213 [.inr (.inr 29), .inl (sc (i + 1))] (Y, M, nn) (fun r w' => vi_ok GG (d + 70) 0 1005 [some (.inr (.inr 1)), some (.inr (.inr 29)), some (.inr (.inr 112)), some (.inl (i : Int))] r.toList w' Q) := by
    refine vi_tyi (by first | exact .inl rfl | exact .inr rfl) (hp _ ?_)
    rintro x ⟨Y1, M1, n1⟩ ⟨g1, g2, g3, g4, g5⟩ hr ⟨y, hy⟩
    dsimp only at g1 g2 g3 g4 g5
    injection hy with hy
    subst hy
    have hc : vi_call GG (d + 70) 332 [.inr (.inr 112), .inl (sc (i + 1))] (Y1, M1, n1) (fun r w' => vi_ok GG (d + 70) 0 1014 [some (.inr (.inr 1)), some (.inr (.inr 29)), some (.inr (.inr 112)), some (.inl (i : Int))] (r.toList ++ [.inl y]) w' Q) := by
      refine hr _ fun w2 hw2 => ?_
      obtain ⟨Y2, M2, n2⟩ := w2
      have := ih _ hw2
      clear ih hr hp hW
      show vi_ok GG (d + 70) 0 1014 _ [.inl y, .inl y] (Y2, M2, n2) Q
      rw [s_0_1014]
      refine ⟨fun _ => ?_, fun h => absurd rfl h⟩
      rw [s_0_1388, @vi_32 ((i : Int) + 7) (by omega) (by omega)]
      exact this
    clear ih hr hp hW h1 h2 h3 h4 h5
    simp (disch := omega) only [Option.toList_some, Option.toList_none, List.nil_append, List.cons_append, List.append_nil, true_and, and_true, not_true_eq_false, not_false_eq_true, true_implies, false_implies, implies_true, and_self, Int.reduceLT, Int.reduceLE, Int.reduceEq, Int.reduceNe, Int.reduceAdd, Int.reduceSub, Int.reduceMul, Int.reduceNeg, Int.reduceToNat, Int.toNat_natCast, ↓kk_ck, ↓kk_im, ↓kk_in, s_0_1005, s_0_1010, s_0_1011, g1, g2, g3, g4, g5, @vi_32 ((i : Int) + 1) (by omega) (by omega), show ((i : Int) + 1).toNat = i + 1 by omega, Option.toList_some, List.cons_append, List.nil_append, ne_eq]
    exact hc
  clear ih hp hW
  simp (disch := omega) only [Option.toList_some, Option.toList_none, List.nil_append, List.cons_append, List.append_nil, true_and, and_true, not_true_eq_false, not_false_eq_true, true_implies, false_implies, implies_true, and_self, Int.reduceLT, Int.reduceLE, Int.reduceEq, Int.reduceNe, Int.reduceAdd, Int.reduceSub, Int.reduceMul, Int.reduceNeg, Int.reduceToNat, Int.toNat_natCast, ↓kk_ck, ↓kk_im, ↓kk_in, s_0_996, s_0_1001, s_0_1002, h1, h2, h3, h4, h5, @vi_32 ((i : Int) + 1) (by omega) (by omega), show ((i : Int) + 1).toNat = i + 1 by omega, ne_eq]
  exact h2K
theorem c_0_1019 (hI : jInv sc ln t (Y, M, nn)) (ht : t < 1000) (hi : i + 7 ≤ ln) (hln : ln ≤ 100000) (hsc : ∀ j, j < ln → -2147483648 ≤ sc j ∧ sc j < 2147483648) (ih : ∀ w, jInv sc ln (t + 1) w → vi_ok GG (d + 70) 0 18 [some (.inr (.inr 1)), some (.inr (.inr 29)), some (.inr (.inr 112)), some (.inl ((i + 7 : Nat) : Int))] [] w Q) : vi_ok GG (d + 70) 0 1019 [some (.inr (.inr 1)), some (.inr (.inr 29)), some (.inr (.inr 112)), some (.inl (i : Int))] [] (Y, M, nn) Q := by
  obtain ⟨a, CS, lw, n, hW⟩ := hI
  have hW : jW sc ln t a CS lw n Y M nn := hW
  obtain ⟨h1, h2, h3, h4, h5⟩ := jP_of hW.1
  have hp : jPair sc ln t (d + 70) 214 339 [.inl (sc (i + 1))] (Y, M, nn) := p_214 hW
  have h2K : vi_call GG (d + 70) 214 [.inr (.inr 29), .inl (sc (i + 1))] (Y, M, nn) (fun r w' => vi_ok GG (d + 70) 0 1028 [some (.inr (.inr 1)), some (.inr (.inr 29)), some (.inr (.inr 112)), some (.inl (i : Int))] r.toList w' Q) := by
    refine vi_tyi (by first | exact .inl rfl | exact .inr rfl) (hp _ ?_)
    rintro x ⟨Y1, M1, n1⟩ ⟨g1, g2, g3, g4, g5⟩ hr ⟨y, hy⟩
    dsimp only at g1 g2 g3 g4 g5
    injection hy with hy
    subst hy
    have hc : vi_call GG (d + 70) 339 [.inr (.inr 112), .inl (sc (i + 1))] (Y1, M1, n1) (fun r w' => vi_ok GG (d + 70) 0 1037 [some (.inr (.inr 1)), some (.inr (.inr 29)), some (.inr (.inr 112)), some (.inl (i : Int))] (r.toList ++ [.inl y]) w' Q) := by
      refine hr _ fun w2 hw2 => ?_
      obtain ⟨Y2, M2, n2⟩ := w2
      have := ih _ hw2
      clear ih hr hp hW
      show vi_ok GG (d + 70) 0 1037 _ [.inl y, .inl y] (Y2, M2, n2) Q
      rw [s_0_1037]
      refine ⟨fun _ => ?_, fun h => absurd rfl h⟩
      rw [s_0_1388, @vi_32 ((i : Int) + 7) (by omega) (by omega)]
      exact this
    clear ih hr hp hW h1 h2 h3 h4 h5
    simp (disch := omega) only [Option.toList_some, Option.toList_none, List.nil_append, List.cons_append, List.append_nil, true_and, and_true, not_true_eq_false, not_false_eq_true, true_implies, false_implies, implies_true, and_self, Int.reduceLT, Int.reduceLE, Int.reduceEq, Int.reduceNe, Int.reduceAdd, Int.reduceSub, Int.reduceMul, Int.reduceNeg, Int.reduceToNat, Int.toNat_natCast, ↓kk_ck, ↓kk_im, ↓kk_in, s_0_1028, s_0_1033, s_0_1034, g1, g2, g3, g4, g5, @vi_32 ((i : Int) + 1) (by omega) (by omega), show ((i : Int) + 1).toNat = i + 1 by omega, Option.toList_some, List.cons_append, List.nil_append, ne_eq]
    exact hc
  clear ih hp hW
  simp (disch := omega) only [Option.toList_some, Option.toList_none, List.nil_append, List.cons_append, List.append_nil, true_and, and_true, not_true_eq_false, not_false_eq_true, true_implies, false_implies, implies_true, and_self, Int.reduceLT, Int.reduceLE, Int.reduceEq, Int.reduceNe, Int.reduceAdd, Int.reduceSub, Int.reduceMul, Int.reduceNeg, Int.reduceToNat, Int.toNat_natCast, ↓kk_ck, ↓kk_im, ↓kk_in, s_0_1019, s_0_1024, s_0_1025, h1, h2, h3, h4, h5, @vi_32 ((i : Int) + 1) (by omega) (by omega), show ((i : Int) + 1).toNat = i + 1 by omega, ne_eq]
  exact h2K
end
