/-! PRINTED BY gen/lw.py: the cases of law. -/
section
variable {sc : Nat → Int} {ln t d i : Nat} {Y : vi_Y} {M : vi_M} {nn : Nat × Nat} {Q : Option vi_V → vi_W → Prop}
theorem c_0_1042 (hI : jInv sc ln t (Y, M, nn)) (ht : t < 1000) (hi : i + 7 ≤ ln) (hln : ln ≤ 100000) (hsc : ∀ j, j < ln → -2147483648 ≤ sc j ∧ sc j < 2147483648) (ih : ∀ w, jInv sc ln (t + 1) w → vi_ok GG (d + 70) 0 18 [some (.inr (.inr 1)), some (.inr (.inr 29)), some (.inr (.inr 112)), some (.inl ((i + 7 : Nat) : Int))] [] w Q) : vi_ok GG (d + 70) 0 1042 [some (.inr (.inr 1)), some (.inr (.inr 29)), some (.inr (.inr 112)), some (.inl (i : Int))] [] (Y, M, nn) Q := by
  obtain ⟨a, CS, lw, n, hW⟩ := hI
  have hW : jW sc ln t a CS lw n Y M nn := hW
  obtain ⟨h1, h2, h3, h4, h5⟩ := jP_of hW.1
  have hp : jPair sc ln t (d + 70) 215 340 [.inl (sc (i + 1)), .inl (sc (i + 2)), .inl (sc (i + 3)), .inl (sc (i + 4)), .inl (sc (i + 5))] (Y, M, nn) := p_215 hW ht
  have h2K : vi_call GG (d + 70) 215 [.inr (.inr 29), .inl (sc (i + 1)), .inl (sc (i + 2)), .inl (sc (i + 3)), .inl (sc (i + 4)), .inl (sc (i + 5))] (Y, M, nn) (fun r w' => vi_ok GG (d + 70) 0 1071 [some (.inr (.inr 1)), some (.inr (.inr 29)), some (.inr (.inr 112)), some (.inl (i : Int))] r.toList w' Q) := by
    refine vi_tyi (by first | exact .inl rfl | exact .inr rfl) (hp _ ?_)
    rintro x ⟨Y1, M1, n1⟩ ⟨g1, g2, g3, g4, g5⟩ hr ⟨y, hy⟩
    dsimp only at g1 g2 g3 g4 g5
    injection hy with hy
    subst hy
    have hc : vi_call GG (d + 70) 340 [.inr (.inr 112), .inl (sc (i + 1)), .inl (sc (i + 2)), .inl (sc (i + 3)), .inl (sc (i + 4)), .inl (sc (i + 5))] (Y1, M1, n1) (fun r w' => vi_ok GG (d + 70) 0 1100 [some (.inr (.inr 1)), some (.inr (.inr 29)), some (.inr (.inr 112)), some (.inl (i : Int))] (r.toList ++ [.inl y]) w' Q) := by
      refine hr _ fun w2 hw2 => ?_
      obtain ⟨Y2, M2, n2⟩ := w2
      have := ih _ hw2
      clear ih hr hp hW
      show vi_ok GG (d + 70) 0 1100 _ [.inl y, .inl y] (Y2, M2, n2) Q
      rw [s_0_1100]
      refine ⟨fun _ => ?_, fun h => absurd rfl h⟩
      rw [s_0_1388, @vi_32 ((i : Int) + 7) (by omega) (by omega)]
      exact this
    clear ih hr hp hW h1 h2 h3 h4 h5
    simp (disch := omega) only [Option.toList_some, Option.toList_none, List.nil_append, List.cons_append, List.append_nil, true_and, and_true, not_true_eq_false, not_false_eq_true, true_implies, false_implies, implies_true, and_self, Int.reduceLT, Int.reduceLE, Int.reduceEq, Int.reduceNe, Int.reduceAdd, Int.reduceSub, Int.reduceMul, Int.reduceNeg, Int.reduceToNat, Int.toNat_natCast, ↓kk_ck, ↓kk_im, ↓kk_in, s_0_1071, s_0_1076, s_0_1077, s_0_1081, s_0_1082, s_0_1086, s_0_1087, s_0_1091, s_0_1092, s_0_1096, s_0_1097, g1, g2, g3, g4, g5, @vi_32 ((i : Int) + 1) (by omega) (by omega), show ((i : Int) + 1).toNat = i + 1 by omega, @vi_32 ((i : Int) + 2) (by omega) (by omega), show ((i : Int) + 2).toNat = i + 2 by omega, @vi_32 ((i : Int) + 3) (by omega) (by omega), show ((i : Int) + 3).toNat = i + 3 by omega, @vi_32 ((i : Int) + 4) (by omega) (by omega), show ((i : Int) + 4).toNat = i + 4 by omega, @vi_32 ((i : Int) + 5) (by omega) (by omega), show ((i : Int) + 5).toNat = i + 5 by omega, Option.toList_some, List.cons_append, List.nil_append, ne_eq]
    exact hc
  clear ih hp hW
  simp (disch := omega) only [Option.toList_some, Option.toList_none, List.nil_append, List.cons_append, List.append_nil, true_and, and_true, not_true_eq_false, not_false_eq_true, true_implies, false_implies, implies_true, and_self, Int.reduceLT, Int.reduceLE, Int.reduceEq, Int.reduceNe, Int.reduceAdd, Int.reduceSub, Int.reduceMul, Int.reduceNeg, Int.reduceToNat, Int.toNat_natCast, ↓kk_ck, ↓kk_im, ↓kk_in, s_0_1042, s_0_1047, s_0_1048, s_0_1052, s_0_1053, s_0_1057, s_0_1058, s_0_1062, s_0_1063, s_0_1067, s_0_1068, h1, h2, h3, h4, h5, @vi_32 ((i : Int) + 1) (by omega) (by omega), show ((i : Int) + 1).toNat = i + 1 by omega, @vi_32 ((i : Int) + 2) (by omega) (by omega), show ((i : Int) + 2).toNat = i + 2 by omega, @vi_32 ((i : Int) + 3) (by omega) (by omega), show ((i : Int) + 3).toNat = i + 3 by omega, @vi_32 ((i : Int) + 4) (by omega) (by omega), show ((i : Int) + 4).toNat = i + 4 by omega, @vi_32 ((i : Int) + 5) (by omega) (by omega), show ((i : Int) + 5).toNat = i + 5 by omega, ne_eq]
  exact h2K
theorem c_0_1105 (hI : jInv sc ln t (Y, M, nn)) (ht : t < 1000) (hi : i + 7 ≤ ln) (hln : ln ≤ 100000) (hsc : ∀ j, j < ln → -2147483648 ≤ sc j ∧ sc j < 2147483648) (ih : ∀ w, jInv sc ln (t + 1) w → vi_ok GG (d + 70) 0 18 [some (.inr (.inr 1)), some (.inr (.inr 29)), some (.inr (.inr 112)), some (.inl ((i + 7 : Nat) : Int))] [] w Q) : vi_ok GG (d + 70) 0 1105 [some (.inr (.inr 1)), some (.inr (.inr 29)), some (.inr (.inr 112)), some (.inl (i : Int))] [] (Y, M, nn) Q := by
  obtain ⟨a, CS, lw, n, hW⟩ := hI
  have hW : jW sc ln t a CS lw n Y M nn := hW
  obtain ⟨h1, h2, h3, h4, h5⟩ := jP_of hW.1
  have hp : jPair sc ln t (d + 70) 216 341 [] (Y, M, nn) := p_216 hW ht
  have h2K : vi_call GG (d + 70) 216 [.inr (.inr 29)] (Y, M, nn) (fun r w' => vi_ok GG (d + 70) 0 1109 [some (.inr (.inr 1)), some (.inr (.inr 29)), some (.inr (.inr 112)), some (.inl (i : Int))] r.toList w' Q) := by
    refine vi_tyi (by first | exact .inl rfl | exact .inr rfl) (hp _ ?_)
    rintro x ⟨Y1, M1, n1⟩ ⟨g1, g2, g3, g4, g5⟩ hr ⟨y, hy⟩
    dsimp only at g1 g2 g3 g4 g5
    injection hy with hy
    subst hy
    have hc : vi_call GG (d + 70) 341 [.inr (.inr 112)] (Y1, M1, n1) (fun r w' => vi_ok GG (d + 70) 0 1113 [some (.inr (.inr 1)), some (.inr (.inr 29)), some (.inr (.inr 112)), some (.inl (i : Int))] (r.toList ++ [.inl y]) w' Q) := by
      refine hr _ fun w2 hw2 => ?_
      obtain ⟨Y2, M2, n2⟩ := w2
      have := ih _ hw2
      clear ih hr hp hW
      show vi_ok GG (d + 70) 0 1113 _ [.inl y, .inl y] (Y2, M2, n2) Q
      rw [s_0_1113]
      refine ⟨fun _ => ?_, fun h => absurd rfl h⟩
      rw [s_0_1388, @vi_32 ((i : Int) + 7) (by omega) (by omega)]
      exact this
    clear ih hr hp hW h1 h2 h3 h4 h5
    simp (disch := omega) only [Option.toList_some, Option.toList_none, List.nil_append, List.cons_append, List.append_nil, true_and, and_true, not_true_eq_false, not_false_eq_true, true_implies, false_implies, implies_true, and_self, Int.reduceLT, Int.reduceLE, Int.reduceEq, Int.reduceNe, Int.reduceAdd, Int.reduceSub, Int.reduceMul, Int.reduceNeg, Int.reduceToNat, Int.toNat_natCast, ↓kk_ck, ↓kk_im, ↓kk_in, s_0_1109, g1, g2, g3, g4, g5, Option.toList_some, List.cons_append, List.nil_append, ne_eq]
    exact hc
  clear ih hp hW
  simp (disch := omega) only [Option.toList_some, Option.toList_none, List.nil_append, List.cons_append, List.append_nil, true_and, and_true, not_true_eq_false, not_false_eq_true, true_implies, false_implies, implies_true, and_self, Int.reduceLT, Int.reduceLE, Int.reduceEq, Int.reduceNe, Int.reduceAdd, Int.reduceSub, Int.reduceMul, Int.reduceNeg, Int.reduceToNat, Int.toNat_natCast, ↓kk_ck, ↓kk_im, ↓kk_in, s_0_1105, h1, h2, h3, h4, h5, ne_eq]
  exact h2K
theorem c_0_1118 (hI : jInv sc ln t (Y, M, nn)) (ht : t < 1000) (hi : i + 7 ≤ ln) (hln : ln ≤ 100000) (hsc : ∀ j, j < ln → -2147483648 ≤ sc j ∧ sc j < 2147483648) (ih : ∀ w, jInv sc ln (t + 1) w → vi_ok GG (d + 70) 0 18 [some (.inr (.inr 1)), some (.inr (.inr 29)), some (.inr (.inr 112)), some (.inl ((i + 7 : Nat) : Int))] [] w Q) : vi_ok GG (d + 70) 0 1118 [some (.inr (.inr 1)), some (.inr (.inr 29)), some (.inr (.inr 112)), some (.inl (i : Int))] [] (Y, M, nn) Q := by
  obtain ⟨a, CS, lw, n, hW⟩ := hI
  have hW : jW sc ln t a CS lw n Y M nn := hW
  obtain ⟨h1, h2, h3, h4, h5⟩ := jP_of hW.1
  have hp : jPair sc ln t (d + 70) 217 344 [.inl (sc (i + 1))] (Y, M, nn) := p_217 hW
  have h2K : vi_call GG (d + 70) 217 [.inr (.inr 29), .inl (sc (i + 1))] (Y, M, nn) (fun r w' => vi_ok GG (d + 70) 0 1127 [some (.inr (.inr 1)), some (.inr (.inr 29)), some (.inr (.inr 112)), some (.inl (i : Int))] r.toList w' Q) := by
    refine vi_tyi (by first | exact .inl rfl | exact .inr rfl) (hp _ ?_)
    rintro x ⟨Y1, M1, n1⟩ ⟨g1, g2, g3, g4, g5⟩ hr ⟨y, hy⟩
    dsimp only at g1 g2 g3 g4 g5
    injection hy with hy
    subst hy
    have hc : vi_call GG (d + 70) 344 [.inr (.inr 112), .inl (sc (i + 1))] (Y1, M1, n1) (fun r w' => vi_ok GG (d + 70) 0 1136 [some (.inr (.inr 1)), some (.inr (.inr 29)), some (.inr (.inr 112)), some (.inl (i : Int))] (r.toList ++ [.inl y]) w' Q) := by
      refine hr _ fun w2 hw2 => ?_
      obtain ⟨Y2, M2, n2⟩ := w2
      have := ih _ hw2
      clear ih hr hp hW
      show vi_ok GG (d + 70) 0 1136 _ [.inl y, .inl y] (Y2, M2, n2) Q
      rw [s_0_1136]
      refine ⟨fun _ => ?_, fun h => absurd rfl h⟩
      rw [s_0_1388, @vi_32 ((i : Int) + 7) (by omega) (by omega)]
      exact this
    clear ih hr hp hW h1 h2 h3 h4 h5
    simp (disch := omega) only [Option.toList_some, Option.toList_none, List.nil_append, List.cons_append, List.append_nil, true_and, and_true, not_true_eq_false, not_false_eq_true, true_implies, false_implies, implies_true, and_self, Int.reduceLT, Int.reduceLE, Int.reduceEq, Int.reduceNe, Int.reduceAdd, Int.reduceSub, Int.reduceMul, Int.reduceNeg, Int.reduceToNat, Int.toNat_natCast, ↓kk_ck, ↓kk_im, ↓kk_in, s_0_1127, s_0_1132, s_0_1133, g1, g2, g3, g4, g5, @vi_32 ((i : Int) + 1) (by omega) (by omega), show ((i : Int) + 1).toNat = i + 1 by omega, Option.toList_some, List.cons_append, List.nil_append, ne_eq]
    exact hc
  clear ih hp hW
  simp (disch := omega) only [Option.toList_some, Option.toList_none, List.nil_append, List.cons_append, List.append_nil, true_and, and_true, not_true_eq_false, not_false_eq_true, true_implies, false_implies, implies_true, and_self, Int.reduceLT, Int.reduceLE, Int.reduceEq, Int.reduceNe, Int.reduceAdd, Int.reduceSub, Int.reduceMul, Int.reduceNeg, Int.reduceToNat, Int.toNat_natCast, ↓kk_ck, ↓kk_im, ↓kk_in, s_0_1118, s_0_1123, s_0_1124, h1, h2, h3, h4, h5, @vi_32 ((i : Int) + 1) (by omega) (by omega), show ((i : Int) + 1).toNat = i + 1 by omega, ne_eq]
  exact h2K
theorem c_0_1141 (hI : jInv sc ln t (Y, M, nn)) (ht : t < 1000) (hi : i + 7 ≤ ln) (hln : ln ≤ 100000) (hsc : ∀ j, j < ln → -2147483648 ≤ sc j ∧ sc j < 2147483648) (ih : ∀ w, jInv sc ln (t + 1) w → vi_ok GG (d + 70) 0 18 [some (.inr (.inr 1)), some (.inr (.inr 29)), some (.inr (.inr 112)), some (.inl ((i + 7 : Nat) : Int))] [] w Q) : vi_ok GG (d + 70) 0 1141 [some (.inr (.inr 1)), some (.inr (.inr 29)), some (.inr (.inr 112)), some (.inl (i : Int))] [] (Y, M, nn) Q := by
  obtain ⟨a, CS, lw, n, hW⟩ := hI
  have hW : jW sc ln t a CS lw n Y M nn := hW
  obtain ⟨h1, h2, h3, h4, h5⟩ := jP_of hW.1
  have hp : jPair sc ln t (d + 70) 218 345 [.inl (sc (i + 1)), .inl (sc (i + 2)), .inl (sc (i + 3))] (Y, M, nn) := p_218 hW ht
  have h2K : vi_call GG (d + 70) 218 [.inr (.inr 29), .inl (sc (i + 1)), .inl (sc (i + 2)), .inl (sc (i + 3))] (Y, M, nn) (fun r w' => vi_ok GG (d + 70) 0 1160 [some (.inr (.inr 1)), some (.inr (.inr 29)), some (.inr (.inr 112)), some (.inl (i : Int))] r.toList w' Q) := by
    refine vi_tyi (by first | exact .inl rfl | exact .inr rfl) (hp _ ?_)
    rintro x ⟨Y1, M1, n1⟩ ⟨g1, g2, g3, g4, g5⟩ hr ⟨y, hy⟩
    dsimp only at g1 g2 g3 g4 g5
    injection hy with hy
    subst hy
    have hc : vi_call GG (d + 70) 345 [.inr (.inr 112), .inl (sc (i + 1)), .inl (sc (i + 2)), .inl (sc (i + 3))] (Y1, M1, n1) (fun r w' => vi_ok GG (d + 70) 0 1179 [some (.inr (.inr 1)), some (.inr (.inr 29)), some (.inr (.inr 112)), some (.inl (i : Int))] (r.toList ++ [.inl y]) w' Q) := by
      refine hr _ fun w2 hw2 => ?_
      obtain ⟨Y2, M2, n2⟩ := w2
      have := ih _ hw2
      clear ih hr hp hW
      show vi_ok GG (d + 70) 0 1179 _ [.inl y, .inl y] (Y2, M2, n2) Q
      rw [s_0_1179]
      refine ⟨fun _ => ?_, fun h => absurd rfl h⟩
      rw [s_0_1388, @vi_32 ((i : Int) + 7) (by omega) (by omega)]
      exact this
    clear ih hr hp hW h1 h2 h3 h4 h5
    simp (disch := omega) only [Option.toList_some, Option.toList_none, List.nil_append, List.cons_append, List.append_nil, true_and, and_true, not_true_eq_false, not_false_eq_true, true_implies, false_implies, implies_true, and_self, Int.reduceLT, Int.reduceLE, Int.reduceEq, Int.reduceNe, Int.reduceAdd, Int.reduceSub, Int.reduceMul, Int.reduceNeg, Int.reduceToNat, Int.toNat_natCast, ↓kk_ck, ↓kk_im, ↓kk_in, s_0_1160, s_0_1165, s_0_1166, s_0_1170, s_0_1171, s_0_1175, s_0_1176, g1, g2, g3, g4, g5, @vi_32 ((i : Int) + 1) (by omega) (by omega), show ((i : Int) + 1).toNat = i + 1 by omega, @vi_32 ((i : Int) + 2) (by omega) (by omega), show ((i : Int) + 2).toNat = i + 2 by omega, @vi_32 ((i : Int) + 3) (by omega) (by omega), show ((i : Int) + 3).toNat = i + 3 by omega, Option.toList_some, List.cons_append, List.nil_append, ne_eq]
    exact hc
  clear ih hp hW
  simp (disch := omega) only [Option.toList_some, Option.toList_none, List.nil_append, List.cons_append, List.append_nil, true_and, and_true, not_true_eq_false, not_false_eq_true, true_implies, false_implies, implies_true, and_self, Int.reduceLT, Int.reduceLE, Int.reduceEq, Int.reduceNe, Int.reduceAdd, Int.reduceSub, Int.reduceMul, Int.reduceNeg, Int.reduceToNat, Int.toNat_natCast, ↓kk_ck, ↓kk_im, ↓kk_in, s_0_1141, s_0_1146, s_0_1147, s_0_1151, s_0_1152, s_0_1156, s_0_1157, h1, h2, h3, h4, h5, @vi_32 ((i : Int) + 1) (by omega) (by omega), show ((i : Int) + 1).toNat = i + 1 by omega, @vi_32 ((i : Int) + 2) (by omega) (by omega), show ((i : Int) + 2).toNat = i + 2 by omega, @vi_32 ((i : Int) + 3) (by omega) (by omega), show ((i : Int) + 3).toNat = i + 3 by omega, ne_eq]
  exact h2K
theorem c_0_1184 (hI : jInv sc ln t (Y, M, nn)) (ht : t < 1000) (hi : i + 7 ≤ ln) (hln : ln ≤ 100000) (hsc : ∀ j, j < ln → -2147483648 ≤ sc j ∧ sc j < 2147483648) (ih : ∀ w, jInv sc ln (t + 1) w → vi_ok GG (d + 70) 0 18 [some (.inr (.inr 1)), some (.inr (.inr 29)), some (.inr (.inr 112)), some (.inl ((i + 7 : Nat) : Int))] [] w Q) : vi_ok GG (d + 70) 0 1184 [some (.inr (.inr 1)), some (.inr (.inr 29)), some (.inr (.inr 112)), some (.inl (i : Int))] [] (Y, M, nn) Q := by
  obtain ⟨a, CS, lw, n, hW⟩ := hI
  have hW : jW sc ln t a CS lw n Y M nn := hW
  obtain ⟨h1, h2, h3, h4, h5⟩ := jP_of hW.1
  have hp : jPair sc ln t (d + 70) 219 348 [.inl (sc (i + 1))] (Y, M, nn) := p_219 hW
  have h2K : vi_call GG (d + 70) 219 [.inr (.inr 29), .inl (sc (i + 1))] (Y, M, nn) (fun r w' => vi_ok GG (d + 70) 0 1193 [some (.inr (.inr 1)), some (.inr (.inr 29)), some (.inr (.inr 112)), some (.inl (i : Int))] r.toList w' Q) := by
    refine vi_tyi (by first | exact .inl rfl | exact .inr rfl) (hp _ ?_)
    rintro x ⟨Y1, M1, n1⟩ ⟨g1, g2, g3, g4, g5⟩ hr ⟨y, hy⟩
    dsimp only at g1 g2 g3 g4 g5
    injection hy with hy
    subst hy
    have hc : vi_call GG (d + 70) 348 [.inr (.inr 112), .inl (sc (i + 1))] (Y1, M1, n1) (fun r w' => vi_ok GG (d + 70) 0 1202 [some (.inr (.inr 1)), some (.inr (.inr 29)), some (.inr (.inr 112)), some (.inl (i : Int))] (r.toList ++ [.inl y]) w' Q) := by
      refine hr _ fun w2 hw2 => ?_
      obtain ⟨Y2, M2, n2⟩ := w2
      have := ih _ hw2
      clear ih hr hp hW
      show vi_ok GG (d + 70) 0 1202 _ [.inl y, .inl y] (Y2, M2, n2) Q
      rw [s_0_1202]
      refine ⟨fun _ => ?_, fun h => absurd rfl h⟩
      rw [s_0_1388, @vi_32 ((i : Int) + 7) (by omega) (by omega)]
      exact this
    clear ih hr hp hW h1 h2 h3 h4 h5
    simp (disch := omega) only [Option.toList_some, Option.toList_none, List.nil_append, List.cons_append, List.append_nil, true_and, and_true, not_true_eq_false, not_false_eq_true, true_implies, false_implies, implies_true, and_self, Int.reduceLT, Int.reduceLE, Int.reduceEq, Int.reduceNe, Int.reduceAdd, Int.reduceSub, Int.reduceMul, Int.reduceNeg, Int.reduceToNat, Int.toNat_natCast, ↓kk_ck, ↓kk_im, ↓kk_in, s_0_1193, s_0_1198, s_0_1199, g1, g2, g3, g4, g5, @vi_32 ((i : Int) + 1) (by omega) (by omega), show ((i : Int) + 1).toNat = i + 1 by omega, Option.toList_some, List.cons_append, List.nil_append, ne_eq]
    exact hc
  clear ih hp hW
  simp (disch := omega) only [Option.toList_some, Option.toList_none, List.nil_append, List.cons_append, List.append_nil, true_and, and_true, not_true_eq_false, not_false_eq_true, true_implies, false_implies, implies_true, and_self, Int.reduceLT, Int.reduceLE, Int.reduceEq, Int.reduceNe, Int.reduceAdd, Int.reduceSub, Int.reduceMul, Int.reduceNeg, Int.reduceToNat, Int.toNat_natCast, ↓kk_ck, ↓kk_im, ↓kk_in, s_0_1184, s_0_1189, s_0_1190, h1, h2, h3, h4, h5, @vi_32 ((i : Int) + 1) (by omega) (by omega), show ((i : Int) + 1).toNat = i + 1 by omega, ne_eq]
  exact h2K
theorem c_0_1207 (hI : jInv sc ln t (Y, M, nn)) (ht : t < 1000) (hi : i + 7 ≤ ln) (hln : ln ≤ 100000) (hsc : ∀ j, j < ln → -2147483648 ≤ sc j ∧ sc j < 2147483648) (ih : ∀ w, jInv sc ln (t + 1) w → vi_ok GG (d + 70) 0 18 [some (.inr (.inr 1)), some (.inr (.inr 29)), some (.inr (.inr 112)), some (.inl ((i + 7 : Nat) : Int))] [] w Q) : vi_ok GG (d + 70) 0 1207 [some (.inr (.inr 1)), some (.inr (.inr 29)), some (.inr (.inr 112)), some (.inl (i : Int))] [] (Y, M, nn) Q := by
  obtain ⟨a, CS, lw, n, hW⟩ := hI
  have hW : jW sc ln t a CS lw n Y M nn := hW
  obtain ⟨h1, h2, h3, h4, h5⟩ := jP_of hW.1
  have hp : jPair sc ln t (d + 70) 220 350 [.inl (sc (i + 1)), .inl (sc (i + 2)), .inl (sc (i + 3))] (Y, M, nn) := p_220 hW
  have h2K : vi_call GG (d + 70) 220 [.inr (.inr 29), .inl (sc (i + 1)), .inl (sc (i + 2)), .inl (sc (i + 3))] (Y, M, nn) (fun r w' => vi_ok GG (d + 70) 0 1226 [some (.inr (.inr 1)), some (.inr (.inr 29)), some (.inr (.inr 112)), some (.inl (i : Int))] r.toList w' Q) := by
    refine vi_tyi (by first | exact .inl rfl | exact .inr rfl) (hp _ ?_)
    rintro x ⟨Y1, M1, n1⟩ ⟨g1, g2, g3, g4, g5⟩ hr ⟨y, hy⟩
    dsimp only at g1 g2 g3 g4 g5
    injection hy with hy
    subst hy
    have hc : vi_call GG (d + 70) 350 [.inr (.inr 112), .inl (sc (i + 1)), .inl (sc (i + 2)), .inl (sc (i + 3))] (Y1, M1, n1) (fun r w' => vi_ok GG (d + 70) 0 1245 [some (.inr (.inr 1)), some (.inr (.inr 29)), some (.inr (.inr 112)), some (.inl (i : Int))] (r.toList ++ [.inl y]) w' Q) := by
      refine hr _ fun w2 hw2 => ?_
      obtain ⟨Y2, M2, n2⟩ := w2
      have := ih _ hw2
      clear ih hr hp hW
      show vi_ok GG (d + 70) 0 1245 _ [.inl y, .inl y] (Y2, M2, n2) Q
      rw [s_0_1245]
      refine ⟨fun _ => ?_, fun h => absurd rfl h⟩
      rw [s_0_1388, @vi_32 ((i : Int) + 7) (by omega) (by omega)]
      exact this
    clear ih hr hp hW h1 h2 h3 h4 h5
    simp (disch := omega) only [Option.toList_some, Option.toList_none, List.nil_append, List.cons_append, List.append_nil, true_and, and_true, not_true_eq_false, not_false_eq_true, true_implies, false_implies, implies_true, and_self, Int.reduceLT, Int.reduceLE, Int.reduceEq, Int.reduceNe, Int.reduceAdd, Int.reduceSub, Int.reduceMul, Int.reduceNeg, Int.reduceToNat, Int.toNat_natCast, ↓kk_ck, ↓kk_im, ↓kk_in, s_0_1226, s_0_1231, s_0_1232, s_0_1236, s_0_1237, s_0_1241, s_0_1242, g1, g2, g3, g4, g5, @vi_32 ((i : Int) + 1) (by omega) (by omega), show ((i : Int) + 1).toNat = i + 1 by omega, @vi_32 ((i : Int) + 2) (by omega) (by omega), show ((i : Int) + 2).toNat = i + 2 by omega, @vi_32 ((i : Int) + 3) (by omega) (by omega), show ((i : Int) + 3).toNat = i + 3 by omega, Option.toList_some, List.cons_append, List.nil_append, ne_eq]
    exact hc
  clear ih hp hW
  simp (disch := omega) only [Option.toList_some, Option.toList_none, List.nil_append, List.cons_append, List.append_nil, true_and, and_true, not_true_eq_false, not_false_eq_true, true_implies, false_implies, implies_true, and_self, Int.reduceLT, Int.reduceLE, Int.reduceEq, Int.reduceNe, Int.reduceAdd, Int.reduceSub, Int.reduceMul, Int.reduceNeg, Int.reduceToNat, Int.toNat_natCast, ↓kk_ck, ↓kk_im, ↓kk_in, s_0_1207, s_0_1212, s_0_1213, s_0_1217, s_0_1218, s_0_1222, s_0_1223, h1, h2, h3, h4, h5, @vi_32 ((i : Int) + 1) (by omega) (by omega), show ((i : Int) + 1).toNat = i + 1 by omega, @vi_32 ((i : Int) + 2) (by omega) (by omega), show ((i : Int) + 2).toNat = i + 2 by omega, @vi_32 ((i : Int) + 3) (by omega) (by omega), show ((i : Int) + 3).toNat = i + 3 by omega, ne_eq]
  exact h2K
theorem c_0_1250 (hI : jInv sc ln t (Y, M, nn)) (ht : t < 1000) (hi : i + 7 ≤ ln) (hln : ln ≤ 100000) (hsc : ∀ j, j < ln → -2147483648 ≤ sc j ∧ sc j < 2147483648) (ih : ∀ w, jInv sc ln (t + 1) w → vi_ok GG (d + 70) 0 18 [some (.inr (.inr 1)), some (.inr (.inr 29)), some (.inr (.inr 112)), some (.inl ((i + 7 : Nat) : Int))] [] w Q) : vi_ok GG (d + 70) 0 1250 [some (.inr (.inr 1)), some (.inr (.inr 29)), some (.inr (.inr 112)), some (.inl (i : Int))] [] (Y, M, nn) Q := by
  obtain ⟨a, CS, lw, n, hW⟩ := hI
  have hW : jW sc ln t a CS lw n Y M nn := hW
  obtain ⟨h1, h2, h3, h4, h5⟩ := jP_of hW.1
  have hp : jPair sc ln t (d + 70) 221 352 [.inl (sc (i + 1)), .inl (sc (i + 2))] (Y, M, nn) := p_221 hW ht
  have h2K : vi_call GG (d + 70) 221 [.inr (.inr 29), .inl (sc (i + 1)), .inl (sc (i + 2))] (Y, M, nn) (fun r w' => vi_ok GG (d + 70) 0 1264 [some (.inr (.inr 1)), some (.inr (.inr 29)), some (.inr (.inr 112)), some (.inl (i : Int))] r.toList w' Q) := by
    refine vi_tyi (by first | exact .inl rfl | exact .inr rfl) (hp _ ?_)
    rintro x ⟨Y1, M1, n1⟩ ⟨g1, g2, g3, g4, g5⟩ hr ⟨y, hy⟩
    dsimp only at g1 g2 g3 g4 g5
    injection hy with hy
    subst hy
    have hc : vi_call GG (d + 70) 352 [.inr (.inr 112), .inl (sc (i + 1)), .inl (sc (i + 2))] (Y1, M1, n1) (fun r w' => vi_ok GG (d + 70) 0 1278 [some (.inr (.inr 1)), some (.inr (.inr 29)), some (.inr (.inr 112)), some (.inl (i : Int))] (r.toList ++ [.inl y]) w' Q) := by
      refine hr _ fun w2 hw2 => ?_
      obtain ⟨Y2, M2, n2⟩ := w2
      have := ih _ hw2
      clear ih hr hp hW
      show vi_ok GG (d + 70) 0 1278 _ [.inl y, .inl y] (Y2, M2, n2) Q
      rw [s_0_1278]
      refine ⟨fun _ => ?_, fun h => absurd rfl h⟩
      rw [s_0_1388, @vi_32 ((i : Int) + 7) (by omega) (by omega)]
      exact this
    clear ih hr hp hW h1 h2 h3 h4 h5
    simp (disch := omega) only [Option.toList_some, Option.toList_none, List.nil_append, List.cons_append, List.append_nil, true_and, and_true, not_true_eq_false, not_false_eq_true, true_implies, false_implies, implies_true, and_self, Int.reduceLT, Int.reduceLE, Int.reduceEq, Int.reduceNe, Int.reduceAdd, Int.reduceSub, Int.reduceMul, Int.reduceNeg, Int.reduceToNat, Int.toNat_natCast, ↓kk_ck, ↓kk_im, ↓kk_in, s_0_1264, s_0_1269, s_0_1270, s_0_1274, s_0_1275, g1, g2, g3, g4, g5, @vi_32 ((i : Int) + 1) (by omega) (by omega), show ((i : Int) + 1).toNat = i + 1 by omega, @vi_32 ((i : Int) + 2) (by omega) (by omega), show ((i : Int) + 2).toNat = i + 2 by omega, Option.toList_some, List.cons_append, List.nil_append, ne_eq]
    exact hc
  clear ih hp hW
  simp (disch := omega) only [Option.toList_some, Option.toList_none, List.nil_append, List.cons_append, List.append_nil, true_and, and_true, not_true_eq_false, not_false_eq_true, true_implies, false_implies, implies_true, and_self, Int.reduceLT, Int.reduceLE, Int.reduceEq, Int.reduceNe, Int.reduceAdd, Int.reduceSub, Int.reduceMul, Int.reduceNeg, Int.reduceToNat, Int.toNat_natCast, ↓kk_ck, ↓kk_im, ↓kk_in, s_0_1250, s_0_1255, s_0_1256, s_0_1260, s_0_1261, h1, h2, h3, h4, h5, @vi_32 ((i : Int) + 1) (by omega) (by omega), show ((i : Int) + 1).toNat = i + 1 by omega, @vi_32 ((i : Int) + 2) (by omega) (by omega), show ((i : Int) + 2).toNat = i + 2 by omega, ne_eq]
  exact h2K
theorem c_0_1283 (hI : jInv sc ln t (Y, M, nn)) (ht : t < 1000) (hi : i + 7 ≤ ln) (hln : ln ≤ 100000) (hsc : ∀ j, j < ln → -2147483648 ≤ sc j ∧ sc j < 2147483648) (ih : ∀ w, jInv sc ln (t + 1) w → vi_ok GG (d + 70) 0 18 [some (.inr (.inr 1)), some (.inr (.inr 29)), some (.inr (.inr 112)), some (.inl ((i + 7 : Nat) : Int))] [] w Q) : vi_ok GG (d + 70) 0 1283 [some (.inr (.inr 1)), some (.inr (.inr 29)), some (.inr (.inr 112)), some (.inl (i : Int))] [] (Y, M, nn) Q := by
  obtain ⟨a, CS, lw, n, hW⟩ := hI
  have hW : jW sc ln t a CS lw n Y M nn := hW
  obtain ⟨h1, h2, h3, h4, h5⟩ := jP_of hW.1
  have hp : jPair sc ln t (d + 70) 222 353 [.inl (sc (i + 1))] (Y, M, nn) := p_222 hW
  have h2K : vi_call GG (d + 70) 222 [.inr (.inr 29), .inl (sc (i + 1))] (Y, M, nn) (fun r w' => vi_ok GG (d + 70) 0 1292 [some (.inr (.inr 1)), some (.inr (.inr 29)), some (.inr (.inr 112)), some (.inl (i : Int))] r.toList w' Q) := by
    refine vi_tyi (by first | exact .inl rfl | exact .inr rfl) (hp _ ?_)
    rintro x ⟨Y1, M1, n1⟩ ⟨g1, g2, g3, g4, g5⟩ hr ⟨y, hy⟩
    dsimp only at g1 g2 g3 g4 g5
    injection hy with hy
    subst hy
    have hc : vi_call GG (d + 70) 353 [.inr (.inr 112), .inl (sc (i + 1))] (Y1, M1, n1) (fun r w' => vi_ok GG (d + 70) 0 1301 [some (.inr (.inr 1)), some (.inr (.inr 29)), some (.inr (.inr 112)), some (.inl (i : Int))] (r.toList ++ [.inl y]) w' Q) := by
      refine hr _ fun w2 hw2 => ?_
      obtain ⟨Y2, M2, n2⟩ := w2
      have := ih _ hw2
      clear ih hr hp hW
      show vi_ok GG (d + 70) 0 1301 _ [.inl y, .inl y] (Y2, M2, n2) Q
      rw [s_0_1301]
      refine ⟨fun _ => ?_, fun h => absurd rfl h⟩
      rw [s_0_1388, @vi_32 ((i : Int) + 7) (by omega) (by omega)]
      exact this
    clear ih hr hp hW h1 h2 h3 h4 h5
    simp (disch := omega) only [Option.toList_some, Option.toList_none, List.nil_append, List.cons_append, List.append_nil, true_and, and_true, not_true_eq_false, not_false_eq_true, true_implies, false_implies, implies_true, and_self, Int.reduceLT, Int.reduceLE, Int.reduceEq, Int.reduceNe, Int.reduceAdd, Int.reduceSub, Int.reduceMul, Int.reduceNeg, Int.reduceToNat, Int.toNat_natCast, ↓kk_ck, ↓kk_im, ↓kk_in, s_0_1292, s_0_1297, s_0_1298, g1, g2, g3, g4, g5, @vi_32 ((i : Int) + 1) (by omega) (by omega), show ((i : Int) + 1).toNat = i + 1 by omega, Option.toList_some, List.cons_append, List.nil_append, ne_eq]
    exact hc
  clear ih hp hW
  simp (disch := omega) only [Option.toList_some, Option.toList_none, List.nil_append, List.cons_append, List.append_nil, true_and, and_true, not_true_eq_false, not_false_eq_true, true_implies, false_implies, implies_true, and_self, Int.reduceLT, Int.reduceLE, Int.reduceEq, Int.reduceNe, Int.reduceAdd, Int.reduceSub, Int.reduceMul, Int.reduceNeg, Int.reduceToNat, Int.toNat_natCast, ↓kk_ck, ↓kk_im, ↓kk_in, s_0_1283, s_0_1288, s_0_1289, h1, h2, h3, h4, h5, @vi_32 ((i : Int) + 1) (by omega) (by omega), show ((i : Int) + 1).toNat = i + 1 by omega, ne_eq]
  exact h2K
theorem c_0_1306 (hI : jInv sc ln t (Y, M, nn)) (ht : t < 1000) (hi : i + 7 ≤ ln) (hln : ln ≤ 100000) (hsc : ∀ j, j < ln → -2147483648 ≤ sc j ∧ sc j < 2147483648) (ih : ∀ w, jInv sc ln (t + 1) w → vi_ok GG (d + 70) 0 18 [some (.inr (.inr 1)), some (.inr (.inr 29)), some (.inr (.inr 112)), some (.inl ((i + 7 : Nat) : Int))] [] w Q) : vi_ok GG (d + 70) 0 1306 [some (.inr (.inr 1)), some (.inr (.inr 29)), some (.inr (.inr 112)), some (.inl (i : Int))] [] (Y, M, nn) Q := by
  obtain ⟨a, CS, lw, n, hW⟩ := hI
  have hW : jW sc ln t a CS lw n Y M nn := hW
  obtain ⟨h1, h2, h3, h4, h5⟩ := jP_of hW.1
  have hp : jPair sc ln t (d + 70) 223 239 [.inl (sc (i + 1))] (Y, M, nn) := p_223 hW ht
  have h2K : vi_call GG (d + 70) 223 [.inr (.inr 29), .inl (sc (i + 1))] (Y, M, nn) (fun r w' => vi_ok GG (d + 70) 0 1315 [some (.inr (.inr 1)), some (.inr (.inr 29)), some (.inr (.inr 112)), some (.inl (i : Int))] r.toList w' Q) := by
    refine vi_tyi (by first | exact .inl rfl | exact .inr rfl) (hp _ ?_)
    rintro x ⟨Y1, M1, n1⟩ ⟨g1, g2, g3, g4, g5⟩ hr ⟨y, hy⟩
    dsimp only at g1 g2 g3 g4 g5
    injection hy with hy
    subst hy
    have hc : vi_call GG (d + 70) 239 [.inr (.inr 112), .inl (sc (i + 1))] (Y1, M1, n1) (fun r w' => vi_ok GG (d + 70) 0 1324 [some (.inr (.inr 1)), some (.inr (.inr 29)), some (.inr (.inr 112)), some (.inl (i : Int))] (r.toList ++ [.inl y]) w' Q) := by
      refine hr _ fun w2 hw2 => ?_
      obtain ⟨Y2, M2, n2⟩ := w2
      have := ih _ hw2
      clear ih hr hp hW
      show vi_ok GG (d + 70) 0 1324 _ [.inl y, .inl y] (Y2, M2, n2) Q
      rw [s_0_1324]
      refine ⟨fun _ => ?_, fun h => absurd rfl h⟩
      rw [s_0_1388, @vi_32 ((i : Int) + 7) (by omega) (by omega)]
      exact this
    clear ih hr hp hW h1 h2 h3 h4 h5
    simp (disch := omega) only [Option.toList_some, Option.toList_none, List.nil_append, List.cons_append, List.append_nil, true_and, and_true, not_true_eq_false, not_false_eq_true, true_implies, false_implies, implies_true, and_self, Int.reduceLT, Int.reduceLE, Int.reduceEq, Int.reduceNe, Int.reduceAdd, Int.reduceSub, Int.reduceMul, Int.reduceNeg, Int.reduceToNat, Int.toNat_natCast, ↓kk_ck, ↓kk_im, ↓kk_in, s_0_1315, s_0_1320, s_0_1321, g1, g2, g3, g4, g5, @vi_32 ((i : Int) + 1) (by omega) (by omega), show ((i : Int) + 1).toNat = i + 1 by omega, Option.toList_some, List.cons_append, List.nil_append, ne_eq]
    exact hc
  clear ih hp hW
  simp (disch := omega) only [Option.toList_some, Option.toList_none, List.nil_append, List.cons_append, List.append_nil, true_and, and_true, not_true_eq_false, not_false_eq_true, true_implies, false_implies, implies_true, and_self, Int.reduceLT, Int.reduceLE, Int.reduceEq, Int.reduceNe, Int.reduceAdd, Int.reduceSub, Int.reduceMul, Int.reduceNeg, Int.reduceToNat, Int.toNat_natCast, ↓kk_ck, ↓kk_im, ↓kk_in, s_0_1306, s_0_1311, s_0_1312, h1, h2, h3, h4, h5, @vi_32 ((i : Int) + 1) (by omega) (by omega), show ((i : Int) + 1).toNat = i + 1 by omega, ne_eq]
  exact h2K
theorem c_0_1329 (hI : jInv sc ln t (Y, M, nn)) (ht : t < 1000) (hi : i + 7 ≤ ln) (hln : ln ≤ 100000) (hsc : ∀ j, j < ln → -2147483648 ≤ sc j ∧ sc j < 2147483648) (ih : ∀ w, jInv sc ln (t + 1) w → vi_ok GG (d + 70) 0 18 [some (.inr (.inr 1)), some (.inr (.inr 29)), some (.inr (.inr 112)), some (.inl ((i + 7 : Nat) : Int))] [] w Q) : vi_ok GG (d + 70) 0 1329 [some (.inr (.inr 1)), some (.inr (.inr 29)), some (.inr (.inr 112)), some (.inl (i : Int))] [] (Y, M, nn) Q := by
  obtain ⟨a, CS, lw, n, hW⟩ := hI
  have hW : jW sc ln t a CS lw n Y M nn := hW
  obtain ⟨h1, h2, h3, h4, h5⟩ := jP_of hW.1
  have hp : jPair sc ln t (d + 70) 224 240 [.inl (sc (i + 1))] (Y, M, nn) := p_224 hW ht
  have h2K : vi_call GG (d + 70) 224 [.inr (.inr 29), .inl (sc (i + 1))] (Y, M, nn) (fun r w' => vi_ok GG (d + 70) 0 1338 [some (.inr (.inr 1)), some (.inr (.inr 29)), some (.inr (.inr 112)), some (.inl (i : Int))] r.toList w' Q) := by
    refine vi_tyi (by first | exact .inl rfl | exact .inr rfl) (hp _ ?_)
    rintro x ⟨Y1, M1, n1⟩ ⟨g1, g2, g3, g4, g5⟩ hr ⟨y, hy⟩
    dsimp only at g1 g2 g3 g4 g5
    injection hy with hy
    subst hy
    have hc : vi_call GG (d + 70) 240 [.inr (.inr 112), .inl (sc (i + 1))] (Y1, M1, n1) (fun r w' => vi_ok GG (d + 70) 0 1347 [some (.inr (.inr 1)), some (.inr (.inr 29)), some (.inr (.inr 112)), some (.inl (i : Int))] (r.toList ++ [.inl y]) w' Q) := by
      refine hr _ fun w2 hw2 => ?_
      obtain ⟨Y2, M2, n2⟩ := w2
      have := ih _ hw2
      clear ih hr hp hW
      show vi_ok GG (d + 70) 0 1347 _ [.inl y, .inl y] (Y2, M2, n2) Q
      rw [s_0_1347]
      refine ⟨fun _ => ?_, fun h => absurd rfl h⟩
      rw [s_0_1388, @vi_32 ((i : Int) + 7) (by omega) (by omega)]
      exact this
    clear ih hr hp hW h1 h2 h3 h4 h5
    simp (disch := omega) only [Option.toList_some, Option.toList_none, List.nil_append, List.cons_append, List.append_nil, true_and, and_true, not_true_eq_false, not_false_eq_true, true_implies, false_implies, implies_true, and_self, Int.reduceLT, Int.reduceLE, Int.reduceEq, Int.reduceNe, Int.reduceAdd, Int.reduceSub, Int.reduceMul, Int.reduceNeg, Int.reduceToNat, Int.toNat_natCast, ↓kk_ck, ↓kk_im, ↓kk_in, s_0_1338, s_0_1343, s_0_1344, g1, g2, g3, g4, g5, @vi_32 ((i : Int) + 1) (by omega) (by omega), show ((i : Int) + 1).toNat = i + 1 by omega, Option.toList_some, List.cons_append, List.nil_append, ne_eq]
    exact hc
  clear ih hp hW
  simp (disch := omega) only [Option.toList_some, Option.toList_none, List.nil_append, List.cons_append, List.append_nil, true_and, and_true, not_true_eq_false, not_false_eq_true, true_implies, false_implies, implies_true, and_self, Int.reduceLT, Int.reduceLE, Int.reduceEq, Int.reduceNe, Int.reduceAdd, Int.reduceSub, Int.reduceMul, Int.reduceNeg, Int.reduceToNat, Int.toNat_natCast, ↓kk_ck, ↓kk_im, ↓kk_in, s_0_1329, s_0_1334, s_0_1335, h1, h2, h3, h4, h5, @vi_32 ((i : Int) + 1) (by omega) (by omega), show ((i : Int) + 1).toNat = i + 1 by omega, ne_eq]
  exact h2K
theorem c_0_1352 (hI : jInv sc ln t (Y, M, nn)) (ht : t < 1000) (hi : i + 7 ≤ ln) (hln : ln ≤ 100000) (hsc : ∀ j, j < ln → -2147483648 ≤ sc j ∧ sc j < 2147483648) (ih : ∀ w, jInv sc ln (t + 1) w → vi_ok GG (d + 70) 0 18 [some (.inr (.inr 1)), some (.inr (.inr 29)), some (.inr (.inr 112)), some (.inl ((i + 7 : Nat) : Int))] [] w Q) : vi_ok GG (d + 70) 0 1352 [some (.inr (.inr 1)), some (.inr (.inr 29)), some (.inr (.inr 112)), some (.inl (i : Int))] [] (Y, M, nn) Q := by
  obtain ⟨a, CS, lw, n, hW⟩ := hI
  have hW : jW sc ln t a CS lw n Y M nn := hW
  obtain ⟨h1, h2, h3, h4, h5⟩ := jP_of hW.1
  have hp : jPair sc ln t (d + 70) 225 354 [.inl (sc (i + 1))] (Y, M, nn) := p_225 hW (hsc _ (by omega))
  have h2K : vi_call GG (d + 70) 225 [.inr (.inr 29), .inl (sc (i + 1))] (Y, M, nn) (fun r w' => vi_ok GG (d + 70) 0 1361 [some (.inr (.inr 1)), some (.inr (.inr 29)), some (.inr (.inr 112)), some (.inl (i : Int))] r.toList w' Q) := by
    refine vi_tyi (by first | exact .inl rfl | exact .inr rfl) (hp _ ?_)
    rintro x ⟨Y1, M1, n1⟩ ⟨g1, g2, g3, g4, g5⟩ hr ⟨y, hy⟩
    dsimp only at g1 g2 g3 g4 g5
    injection hy with hy
    subst hy
    have hc : vi_call GG (d + 70) 354 [.inr (.inr 112), .inl (sc (i + 1))] (Y1, M1, n1) (fun r w' => vi_ok GG (d + 70) 0 1370 [some (.inr (.inr 1)), some (.inr (.inr 29)), some (.inr (.inr 112)), some (.inl (i : Int))] (r.toList ++ [.inl y]) w' Q) := by
      refine hr _ fun w2 hw2 => ?_
      obtain ⟨Y2, M2, n2⟩ := w2
      have := ih _ hw2
      clear ih hr hp hW
      show vi_ok GG (d + 70) 0 1370 _ [.inl y, .inl y] (Y2, M2, n2) Q
      rw [s_0_1370]
      refine ⟨fun _ => ?_, fun h => absurd rfl h⟩
      rw [s_0_1388, @vi_32 ((i : Int) + 7) (by omega) (by omega)]
      exact this
    clear ih hr hp hW h1 h2 h3 h4 h5
    simp (disch := omega) only [Option.toList_some, Option.toList_none, List.nil_append, List.cons_append, List.append_nil, true_and, and_true, not_true_eq_false, not_false_eq_true, true_implies, false_implies, implies_true, and_self, Int.reduceLT, Int.reduceLE, Int.reduceEq, Int.reduceNe, Int.reduceAdd, Int.reduceSub, Int.reduceMul, Int.reduceNeg, Int.reduceToNat, Int.toNat_natCast, ↓kk_ck, ↓kk_im, ↓kk_in, s_0_1361, s_0_1366, s_0_1367, g1, g2, g3, g4, g5, @vi_32 ((i : Int) + 1) (by omega) (by omega), show ((i : Int) + 1).toNat = i + 1 by omega, Option.toList_some, List.cons_append, List.nil_append, ne_eq]
    exact hc
  clear ih hp hW
  simp (disch := omega) only [Option.toList_some, Option.toList_none, List.nil_append, List.cons_append, List.append_nil, true_and, and_true, not_true_eq_false, not_false_eq_true, true_implies, false_implies, implies_true, and_self, Int.reduceLT, Int.reduceLE, Int.reduceEq, Int.reduceNe, Int.reduceAdd, Int.reduceSub, Int.reduceMul, Int.reduceNeg, Int.reduceToNat, Int.toNat_natCast, ↓kk_ck, ↓kk_im, ↓kk_in, s_0_1352, s_0_1357, s_0_1358, h1, h2, h3, h4, h5, @vi_32 ((i : Int) + 1) (by omega) (by omega), show ((i : Int) + 1).toNat = i + 1 by omega, ne_eq]
  exact h2K
theorem c_0_1375 (hI : jInv sc ln t (Y, M, nn)) (ht : t < 1000) (hi : i + 7 ≤ ln) (hln : ln ≤ 100000) (hsc : ∀ j, j < ln → -2147483648 ≤ sc j ∧ sc j < 2147483648) (ih : ∀ w, jInv sc ln (t + 1) w → vi_ok GG (d + 70) 0 18 [some (.inr (.inr 1)), some (.inr (.inr 29)), some (.inr (.inr 112)), some (.inl ((i + 7 : Nat) : Int))] [] w Q) : vi_ok GG (d + 70) 0 1375 [some (.inr (.inr 1)), some (.inr (.inr 29)), some (.inr (.inr 112)), some (.inl (i : Int))] [] (Y, M, nn) Q := by
  obtain ⟨a, CS, lw, n, hW⟩ := hI
  have hW : jW sc ln t a CS lw n Y M nn := hW
  obtain ⟨h1, h2, h3, h4, h5⟩ := jP_of hW.1
  have hp : jPair sc ln t (d + 70) 226 355 [] (Y, M, nn) := p_226 hW
  have h2K : vi_call GG (d + 70) 226 [.inr (.inr 29)] (Y, M, nn) (fun r w' => vi_ok GG (d + 70) 0 1379 [some (.inr (.inr 1)), some (.inr (.inr 29)), some (.inr (.inr 112)), some (.inl (i : Int))] r.toList w' Q) := by
    refine vi_tyi (by first | exact .inl rfl | exact .inr rfl) (hp _ ?_)
    rintro x ⟨Y1, M1, n1⟩ ⟨g1, g2, g3, g4, g5⟩ hr ⟨y, hy⟩
    dsimp only at g1 g2 g3 g4 g5
    injection hy with hy
    subst hy
    have hc : vi_call GG (d + 70) 355 [.inr (.inr 112)] (Y1, M1, n1) (fun r w' => vi_ok GG (d + 70) 0 1383 [some (.inr (.inr 1)), some (.inr (.inr 29)), some (.inr (.inr 112)), some (.inl (i : Int))] (r.toList ++ [.inl y]) w' Q) := by
      refine hr _ fun w2 hw2 => ?_
      obtain ⟨Y2, M2, n2⟩ := w2
      have := ih _ hw2
      clear ih hr hp hW
      show vi_ok GG (d + 70) 0 1383 _ [.inl y, .inl y] (Y2, M2, n2) Q
      rw [s_0_1383]
      refine ⟨fun _ => ?_, fun h => absurd rfl h⟩
      rw [s_0_1388, @vi_32 ((i : Int) + 7) (by omega) (by omega)]
      exact this
    clear ih hr hp hW h1 h2 h3 h4 h5
    simp (disch := omega) only [Option.toList_some, Option.toList_none, List.nil_append, List.cons_append, List.append_nil, true_and, and_true, not_true_eq_false, not_false_eq_true, true_implies, false_implies, implies_true, and_self, Int.reduceLT, Int.reduceLE, Int.reduceEq, Int.reduceNe, Int.reduceAdd, Int.reduceSub, Int.reduceMul, Int.reduceNeg, Int.reduceToNat, Int.toNat_natCast, ↓kk_ck, ↓kk_im, ↓kk_in, s_0_1379, g1, g2, g3, g4, g5, Option.toList_some, List.cons_append, List.nil_append, ne_eq]
    exact hc
  clear ih hp hW
  simp (disch := omega) only [Option.toList_some, Option.toList_none, List.nil_append, List.cons_append, List.append_nil, true_and, and_true, not_true_eq_false, not_false_eq_true, true_implies, false_implies, implies_true, and_self, Int.reduceLT, Int.reduceLE, Int.reduceEq, Int.reduceNe, Int.reduceAdd, Int.reduceSub, Int.reduceMul, Int.reduceNeg, Int.reduceToNat, Int.toNat_natCast, ↓kk_ck, ↓kk_im, ↓kk_in, s_0_1375, h1, h2, h3, h4, h5, ne_eq]
  exact h2K
end
