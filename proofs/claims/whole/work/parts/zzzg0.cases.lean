/-! PRINTED BY gen/lw.py: the cases of law. -/
section
variable {sc : Nat → Int} {ln t d i : Nat} {Y : vi_Y} {M : vi_M} {nn : Nat × Nat} {Q : Option vi_V → vi_W → Prop}
theorem c_0_200 (hI : jInv sc ln t (Y, M, nn)) (ht : t < 1000) (hi : i + 7 ≤ ln) (hln : ln ≤ 100000) (hsc : ∀ j, j < ln → -2147483648 ≤ sc j ∧ sc j < 2147483648) (ih : ∀ w, jInv sc ln (t + 1) w → vi_ok GG (d + 70) 0 18 [some (.inr (.inr 1)), some (.inr (.inr 29)), some (.inr (.inr 112)), some (.inl ((i + 7 : Nat) : Int))] [] w Q) : vi_ok GG (d + 70) 0 200 [some (.inr (.inr 1)), some (.inr (.inr 29)), some (.inr (.inr 112)), some (.inl (i : Int))] [] (Y, M, nn) Q := by
  obtain ⟨a, CS, lw, n, hW⟩ := hI
  have hW : jW sc ln t a CS lw n Y M nn := hW
  obtain ⟨h1, h2, h3, h4, h5⟩ := jP_of hW.1
  have hp : jPair sc ln t (d + 70) 189 251 [.inl (sc (i + 1)), .inl (sc (i + 2)), .inl (sc (i + 3)), .inl (sc (i + 4)), .inl (sc (i + 5)), .inl (sc (i + 6))] (Y, M, nn) := p_189 hW ht
  have h2K : vi_call GG (d + 70) 189 [.inr (.inr 29), .inl (sc (i + 1)), .inl (sc (i + 2)), .inl (sc (i + 3)), .inl (sc (i + 4)), .inl (sc (i + 5)), .inl (sc (i + 6))] (Y, M, nn) (fun r w' => vi_ok GG (d + 70) 0 235 [some (.inr (.inr 1)), some (.inr (.inr 29)), some (.inr (.inr 112)), some (.inl (i : Int))] r.toList w' Q) := by
    refine vi_tyi (by first | exact .inl rfl | exact .inr rfl) (hp _ ?_)
    rintro x ⟨Y1, M1, n1⟩ ⟨g1, g2, g3, g4, g5⟩ hr ⟨y, hy⟩
    dsimp only at g1 g2 g3 g4 g5
    injection hy with hy
    subst hy
    have hc : vi_call GG (d + 70) 251 [.inr (.inr 112), .inl (sc (i + 1)), .inl (sc (i + 2)), .inl (sc (i + 3)), .inl (sc (i + 4)), .inl (sc (i + 5)), .inl (sc (i + 6))] (Y1, M1, n1) (fun r w' => vi_ok GG (d + 70) 0 270 [some (.inr (.inr 1)), some (.inr (.inr 29)), some (.inr (.inr 112)), some (.inl (i : Int))] (r.toList ++ [.inl y]) w' Q) := by
      refine hr _ fun w2 hw2 => ?_
      obtain ⟨Y2, M2, n2⟩ := w2
      have := ih _ hw2
      clear ih hr hp hW
      show vi_ok GG (d + 70) 0 270 _ [.inl y, .inl y] (Y2, M2, n2) Q
      rw [s_0_270]
      refine ⟨fun _ => ?_, fun h => absurd rfl h⟩
      rw [s_0_1388, @vi_32 ((i : Int) + 7) (by omega) (by omega)]
      exact this
    clear ih hr hp hW h1 h2 h3 h4 h5
    simp (disch := omega) only [Option.toList_some, Option.toList_none, List.nil_append, List.cons_append, List.append_nil, true_and, and_true, not_true_eq_false, not_false_eq_true, true_implies, false_implies, implies_true, and_self, Int.reduceLT, Int.reduceLE, Int.reduceEq, Int.reduceNe, Int.reduceAdd, Int.reduceSub, Int.reduceMul, Int.reduceNeg, Int.reduceToNat, Int.toNat_natCast, ↓kk_ck, ↓kk_im, ↓kk_in, s_0_235, s_0_240, s_0_241, s_0_245, s_0_246, s_0_250, s_0_251, s_0_255, s_0_256, s_0_260, s_0_261, s_0_266, s_0_267, g1, g2, g3, g4, g5, @vi_32 ((i : Int) + 1) (by omega) (by omega), show ((i : Int) + 1).toNat = i + 1 by omega, @vi_32 ((i : Int) + 2) (by omega) (by omega), show ((i : Int) + 2).toNat = i + 2 by omega, @vi_32 ((i : Int) + 3) (by omega) (by omega), show ((i : Int) + 3).toNat = i + 3 by omega, @vi_32 ((i : Int) + 4) (by omega) (by omega), show ((i : Int) + 4).toNat = i + 4 by omega, @vi_32 ((i : Int) + 5) (by omega) (by omega), show ((i : Int) + 5).toNat = i + 5 by omega, @vi_32 ((i : Int) + 6) (by omega) (by omega), show ((i : Int) + 6).toNat = i + 6 by omega, Option.toList_some, List.cons_append, List.nil_append, ne_eq]
    exact hc
  clear ih hp hW
  simp (disch := omega) only [Option.toList_some, Option.toList_none, List.nil_append, List.cons_append, List.append_nil, true_and, and_true, not_true_eq_false, not_false_eq_true, true_implies, false_implies, implies_true, and_self, Int.reduceLT, Int.reduceLE, Int.reduceEq, Int.reduceNe, Int.reduceAdd, Int.reduceSub, Int.reduceMul, Int.reduceNeg, Int.reduceToNat, Int.toNat_natCast, ↓kk_ck, ↓kk_im, ↓kk_in, s_0_200, s_0_205, s_0_206, s_0_210, s_0_211, s_0_215, s_0_216, s_0_220, s_0_221, s_0_225, s_0_226, s_0_231, s_0_232, h1, h2, h3, h4, h5, @vi_32 ((i : Int) + 1) (by omega) (by omega), show ((i : Int) + 1).toNat = i + 1 by omega, @vi_32 ((i : Int) + 2) (by omega) (by omega), show ((i : Int) + 2).toNat = i + 2 by omega, @vi_32 ((i : Int) + 3) (by omega) (by omega), show ((i : Int) + 3).toNat = i + 3 by omega, @vi_32 ((i : Int) + 4) (by omega) (by omega), show ((i : Int) + 4).toNat = i + 4 by omega, @vi_32 ((i : Int) + 5) (by omega) (by omega), show ((i : Int) + 5).toNat = i + 5 by omega, @vi_32 ((i : Int) + 6) (by omega) (by omega), show ((i : Int) + 6).toNat = i + 6 by omega, ne_eq]
  exact h2K
theorem c_0_275 (hI : jInv sc ln t (Y, M, nn)) (ht : t < 1000) (hi : i + 7 ≤ ln) (hln : ln ≤ 100000) (hsc : ∀ j, j < ln → -2147483648 ≤ sc j ∧ sc j < 2147483648) (ih : ∀ w, jInv sc ln (t + 1) w → vi_ok GG (d + 70) 0 18 [some (.inr (.inr 1)), some (.inr (.inr 29)), some (.inr (.inr 112)), some (.inl ((i + 7 : Nat) : Int))] [] w Q) : vi_ok GG (d + 70) 0 275 [some (.inr (.inr 1)), some (.inr (.inr 29)), some (.inr (.inr 112)), some (.inl (i : Int))] [] (Y, M, nn) Q := by
  obtain ⟨a, CS, lw, n, hW⟩ := hI
  have hW : jW sc ln t a CS lw n Y M nn := hW
  obtain ⟨h1, h2, h3, h4, h5⟩ := jP_of hW.1
  have hp : jPair sc ln t (d + 70) 190 253 [.inl (sc (i + 1))] (Y, M, nn) := p_190 hW ht
  have h2K : vi_call GG (d + 70) 190 [.inr (.inr 29), .inl (sc (i + 1))] (Y, M, nn) (fun r w' => vi_ok GG (d + 70) 0 284 [some (.inr (.inr 1)), some (.inr (.inr 29)), some (.inr (.inr 112)), some (.inl (i : Int))] r.toList w' Q) := by
    refine vi_tyi (by first | exact .inl rfl | exact .inr rfl) (hp _ ?_)
    rintro x ⟨Y1, M1, n1⟩ ⟨g1, g2, g3, g4, g5⟩ hr ⟨y, hy⟩
    dsimp only at g1 g2 g3 g4 g5
    injection hy with hy
    subst hy
    have hc : vi_call GG (d + 70) 253 [.inr (.inr 112), .inl (sc (i + 1))] (Y1, M1, n1) (fun r w' => vi_ok GG (d + 70) 0 293 [some (.inr (.inr 1)), some (.inr (.inr 29)), some (.inr (.inr 112)), some (.inl (i : Int))] (r.toList ++ [.inl y]) w' Q) := by
      refine hr _ fun w2 hw2 => ?_
      obtain ⟨Y2, M2, n2⟩ := w2
      have := ih _ hw2
      clear ih hr hp hW
      show vi_ok GG (d + 70) 0 293 _ [.inl y, .inl y] (Y2, M2, n2) Q
      rw [s_0_293]
      refine ⟨fun _ => ?_, fun h => absurd rfl h⟩
      rw [s_0_1388, @vi_32 ((i : Int) + 7) (by omega) (by omega)]
      exact this
    clear ih hr hp hW h1 h2 h3 h4 h5
    simp (disch := omega) only [Option.toList_some, Option.toList_none, List.nil_append, List.cons_append, List.append_nil, true_and, and_true, not_true_eq_false, not_false_eq_true, true_implies, false_implies, implies_true, and_self, Int.reduceLT, Int.reduceLE, Int.reduceEq, Int.reduceNe, Int.reduceAdd, Int.reduceSub, Int.reduceMul, Int.reduceNeg, Int.reduceToNat, Int.toNat_natCast, ↓kk_ck, ↓kk_im, ↓kk_in, s_0_284, s_0_289, s_0_290, g1, g2, g3, g4, g5, @vi_32 ((i : Int) + 1) (by omega) (by omega), show ((i : Int) + 1).toNat = i + 1 by omega, Option.toList_some, List.cons_append, List.nil_append, ne_eq]
    exact hc
  clear ih hp hW
  simp (disch := omega) only [Option.toList_some, Option.toList_none, List.nil_append, List.cons_append, List.append_nil, true_and, and_true, not_true_eq_false, not_false_eq_true, true_implies, false_implies, implies_true, and_self, Int.reduceLT, Int.reduceLE, Int.reduceEq, Int.reduceNe, Int.reduceAdd, Int.reduceSub, Int.reduceMul, Int.reduceNeg, Int.reduceToNat, Int.toNat_natCast, ↓kk_ck, ↓kk_im, ↓kk_in, s_0_275, s_0_280, s_0_281, h1, h2, h3, h4, h5, @vi_32 ((i : Int) + 1) (by omega) (by omega), show ((i : Int) + 1).toNat = i + 1 by omega, ne_eq]
  exact h2K
theorem c_0_298 (hI : jInv sc ln t (Y, M, nn)) (ht : t < 1000) (hi : i + 7 ≤ ln) (hln : ln ≤ 100000) (hsc : ∀ j, j < ln → -2147483648 ≤ sc j ∧ sc j < 2147483648) (ih : ∀ w, jInv sc ln (t + 1) w → vi_ok GG (d + 70) 0 18 [some (.inr (.inr 1)), some (.inr (.inr 29)), some (.inr (.inr 112)), some (.inl ((i + 7 : Nat) : Int))] [] w Q) : vi_ok GG (d + 70) 0 298 [some (.inr (.inr 1)), some (.inr (.inr 29)), some (.inr (.inr 112)), some (.inl (i : Int))] [] (Y, M, nn) Q := by
  obtain ⟨a, CS, lw, n, hW⟩ := hI
  have hW : jW sc ln t a CS lw n Y M nn := hW
  obtain ⟨h1, h2, h3, h4, h5⟩ := jP_of hW.1
  have hp : jPair sc ln t (d + 70) 191 295 [.inl (sc (i + 1)), .inl (sc (i + 2))] (Y, M, nn) := p_191 hW
  have h2K : vi_call GG (d + 70) 191 [.inr (.inr 29), .inl (sc (i + 1)), .inl (sc (i + 2))] (Y, M, nn) (fun r w' => vi_ok GG (d + 70) 0 312 [some (.inr (.inr 1)), some (.inr (.inr 29)), some (.inr (.inr 112)), some (.inl (i : Int))] r.toList w' Q) := by
    refine vi_tyi (by first | exact .inl rfl | exact .inr rfl) (hp _ ?_)
    rintro x ⟨Y1, M1, n1⟩ ⟨g1, g2, g3, g4, g5⟩ hr ⟨y, hy⟩
    dsimp only at g1 g2 g3 g4 g5
    injection hy with hy
    subst hy
    have hc : vi_call GG (d + 70) 295 [.inr (.inr 112), .inl (sc (i + 1)), .inl (sc (i + 2))] (Y1, M1, n1) (fun r w' => vi_ok GG (d + 70) 0 326 [some (.inr (.inr 1)), some (.inr (.inr 29)), some (.inr (.inr 112)), some (.inl (i : Int))] (r.toList ++ [.inl y]) w' Q) := by
      refine hr _ fun w2 hw2 => ?_
      obtain ⟨Y2, M2, n2⟩ := w2
      have := ih _ hw2
      clear ih hr hp hW
      show vi_ok GG (d + 70) 0 326 _ [.inl y, .inl y] (Y2, M2, n2) Q
      rw [s_0_326]
      refine ⟨fun _ => ?_, fun h => absurd rfl h⟩
      rw [s_0_1388, @vi_32 ((i : Int) + 7) (by omega) (by omega)]
      exact this
    clear ih hr hp hW h1 h2 h3 h4 h5
    simp (disch := omega) only [Option.toList_some, Option.toList_none, List.nil_append, List.cons_append, List.append_nil, true_and, and_true, not_true_eq_false, not_false_eq_true, true_implies, false_implies, implies_true, and_self, Int.reduceLT, Int.reduceLE, Int.reduceEq, Int.reduceNe, Int.reduceAdd, Int.reduceSub, Int.reduceMul, Int.reduceNeg, Int.reduceToNat, Int.toNat_natCast, ↓kk_ck, ↓kk_im, ↓kk_in, s_0_312, s_0_317, s_0_318, s_0_322, s_0_323, g1, g2, g3, g4, g5, @vi_32 ((i : Int) + 1) (by omega) (by omega), show ((i : Int) + 1).toNat = i + 1 by omega, @vi_32 ((i : Int) + 2) (by omega) (by omega), show ((i : Int) + 2).toNat = i + 2 by omega, Option.toList_some, List.cons_append, List.nil_append, ne_eq]
    exact hc
  clear ih hp hW
  simp (disch := omega) only [Option.toList_some, Option.toList_none, List.nil_append, List.cons_append, List.append_nil, true_and, and_true, not_true_eq_false, not_false_eq_true, true_implies, false_implies, implies_true, and_self, Int.reduceLT, Int.reduceLE, Int.reduceEq, Int.reduceNe, Int.reduceAdd, Int.reduceSub, Int.reduceMul, Int.reduceNeg, Int.reduceToNat, Int.toNat_natCast, ↓kk_ck, ↓kk_im, ↓kk_in, s_0_298, s_0_303, s_0_304, s_0_308, s_0_309, h1, h2, h3, h4, h5, @vi_32 ((i : Int) + 1) (by omega) (by omega), show ((i : Int) + 1).toNat = i + 1 by omega, @vi_32 ((i : Int) + 2) (by omega) (by omega), show ((i : Int) + 2).toNat = i + 2 by omega, ne_eq]
  exact h2K
theorem c_0_331 (hI : jInv sc ln t (Y, M, nn)) (ht : t < 1000) (hi : i + 7 ≤ ln) (hln : ln ≤ 100000) (hsc : ∀ j, j < ln → -2147483648 ≤ sc j ∧ sc j < 2147483648) (ih : ∀ w, jInv sc ln (t + 1) w → vi_ok GG (d + 70) 0 18 [some (.inr (.inr 1)), some (.inr (.inr 29)), some (.inr (.inr 112)), some (.inl ((i + 7 : Nat) : Int))] [] w Q) : vi_ok GG (d + 70) 0 331 [some (.inr (.inr 1)), some (.inr (.inr 29)), some (.inr (.inr 112)), some (.inl (i : Int))] [] (Y, M, nn) Q := by
  obtain ⟨a, CS, lw, n, hW⟩ := hI
  have hW : jW sc ln t a CS lw n Y M nn := hW
  obtain ⟨h1, h2, h3, h4, h5⟩ := jP_of hW.1
  have hp : jPair sc ln t (d + 70) 192 255 [.inl (sc (i + 1)), .inl (sc (i + 2))] (Y, M, nn) := p_192 hW ht
  have h2K : vi_call GG (d + 70) 192 [.inr (.inr 29), .inl (sc (i + 1)), .inl (sc (i + 2))] (Y, M, nn) (fun r w' => vi_ok GG (d + 70) 0 345 [some (.inr (.inr 1)), some (.inr (.inr 29)), some (.inr (.inr 112)), some (.inl (i : Int))] r.toList w' Q) := by
    refine vi_tyi (by first | exact .inl rfl | exact .inr rfl) (hp _ ?_)
    rintro x ⟨Y1, M1, n1⟩ ⟨g1, g2, g3, g4, g5⟩ hr ⟨y, hy⟩
    dsimp only at g1 g2 g3 g4 g5
    injection hy with hy
    subst hy
    have hc : vi_call GG (d + 70) 255 [.inr (.inr 112), .inl (sc (i + 1)), .inl (sc (i + 2))] (Y1, M1, n1) (fun r w' => vi_ok GG (d + 70) 0 359 [some (.inr (.inr 1)), some (.inr (.inr 29)), some (.inr (.inr 112)), some (.inl (i : Int))] (r.toList ++ [.inl y]) w' Q) := by
      refine hr _ fun w2 hw2 => ?_
      obtain ⟨Y2, M2, n2⟩ := w2
      have := ih _ hw2
      clear ih hr hp hW
      show vi_ok GG (d + 70) 0 359 _ [.inl y, .inl y] (Y2, M2, n2) Q
      rw [s_0_359]
      refine ⟨fun _ => ?_, fun h => absurd rfl h⟩
      rw [s_0_1388, @vi_32 ((i : Int) + 7) (by omega) (by omega)]
      exact this
    clear ih hr hp hW h1 h2 h3 h4 h5
    simp (disch := omega) only [Option.toList_some, Option.toList_none, List.nil_append, List.cons_append, List.append_nil, true_and, and_true, not_true_eq_false, not_false_eq_true, true_implies, false_implies, implies_true, and_self, Int.reduceLT, Int.reduceLE, Int.reduceEq, Int.reduceNe, Int.reduceAdd, Int.reduceSub, Int.reduceMul, Int.reduceNeg, Int.reduceToNat, Int.toNat_natCast, ↓kk_ck, ↓kk_im, ↓kk_in, s_0_345, s_0_350, s_0_351, s_0_355, s_0_356, g1, g2, g3, g4, g5, @vi_32 ((i : Int) + 1) (by omega) (by omega), show ((i : Int) + 1).toNat = i + 1 by omega, @vi_32 ((i : Int) + 2) (by omega) (by omega), show ((i : Int) + 2).toNat = i + 2 by omega, Option.toList_some, List.cons_append, List.nil_append, ne_eq]
    exact hc
  clear ih hp hW
  simp (disch := omega) only [Option.toList_some, Option.toList_none, List.nil_append, List.cons_append, List.append_nil, true_and, and_true, not_true_eq_false, not_false_eq_true, true_implies, false_implies, implies_true, and_self, Int.reduceLT, Int.reduceLE, Int.reduceEq, Int.reduceNe, Int.reduceAdd, Int.reduceSub, Int.reduceMul, Int.reduceNeg, Int.reduceToNat, Int.toNat_natCast, ↓kk_ck, ↓kk_im, ↓kk_in, s_0_331, s_0_336, s_0_337, s_0_341, s_0_342, h1, h2, h3, h4, h5, @vi_32 ((i : Int) + 1) (by omega) (by omega), show ((i : Int) + 1).toNat = i + 1 by omega, @vi_32 ((i : Int) + 2) (by omega) (by omega), show ((i : Int) + 2).toNat = i + 2 by omega, ne_eq]
  exact h2K
theorem c_0_364 (hI : jInv sc ln t (Y, M, nn)) (ht : t < 1000) (hi : i + 7 ≤ ln) (hln : ln ≤ 100000) (hsc : ∀ j, j < ln → -2147483648 ≤ sc j ∧ sc j < 2147483648) (ih : ∀ w, jInv sc ln (t + 1) w → vi_ok GG (d + 70) 0 18 [some (.inr (.inr 1)), some (.inr (.inr 29)), some (.inr (.inr 112)), some (.inl ((i + 7 : Nat) : Int))] [] w Q) : vi_ok GG (d + 70) 0 364 [some (.inr (.inr 1)), some (.inr (.inr 29)), some (.inr (.inr 112)), some (.inl (i : Int))] [] (Y, M, nn) Q := by
  obtain ⟨a, CS, lw, n, hW⟩ := hI
  have hW : jW sc ln t a CS lw n Y M nn := hW
  obtain ⟨h1, h2, h3, h4, h5⟩ := jP_of hW.1
  have hp : jPair sc ln t (d + 70) 193 258 [.inl (sc (i + 1)), .inl (sc (i + 2)), .inl (sc (i + 3)), .inl (sc (i + 4)), .inl (sc (i + 5))] (Y, M, nn) := p_193 hW
  have h2K : vi_call GG (d + 70) 193 [.inr (.inr 29), .inl (sc (i + 1)), .inl (sc (i + 2)), .inl (sc (i + 3)), .inl (sc (i + 4)), .inl (sc (i + 5))] (Y, M, nn) (fun r w' => vi_ok GG (d + 70) 0 393 [some (.inr (.inr 1)), some (.inr (.inr 29)), some (.inr (.inr 112)), some (.inl (i : Int))] r.toList w' Q) := by
    refine vi_tyi (by first | exact .inl rfl | exact .inr rfl) (hp _ ?_)
    rintro x ⟨Y1, M1, n1⟩ ⟨g1, g2, g3, g4, g5⟩ hr ⟨y, hy⟩
    dsimp only at g1 g2 g3 g4 g5
    injection hy with hy
    subst hy
    have hc : vi_call GG (d + 70) 258 [.inr (.inr 112), .inl (sc (i + 1)), .inl (sc (i + 2)), .inl (sc (i + 3)), .inl (sc (i + 4)), .inl (sc (i + 5))] (Y1, M1, n1) (fun r w' => vi_ok GG (d + 70) 0 422 [some (.inr (.inr 1)), some (.inr (.inr 29)), some (.inr (.inr 112)), some (.inl (i : Int))] (r.toList ++ [.inl y]) w' Q) := by
      refine hr _ fun w2 hw2 => ?_
      obtain ⟨Y2, M2, n2⟩ := w2
      have := ih _ hw2
      clear ih hr hp hW
      show vi_ok GG (d + 70) 0 422 _ [.inl y, .inl y] (Y2, M2, n2) Q
      rw [s_0_422]
      refine ⟨fun _ => ?_, fun h => absurd rfl h⟩
      rw [s_0_1388, @vi_32 ((i : Int) + 7) (by omega) (by omega)]
      exact this
    clear ih hr hp hW h1 h2 h3 h4 h5
    simp (disch := omega) only [Option.toList_some, Option.toList_none, List.nil_append, List.cons_append, List.append_nil, true_and, and_true, not_true_eq_false, not_false_eq_true, true_implies, false_implies, implies_true, and_self, Int.reduceLT, Int.reduceLE, Int.reduceEq, Int.reduceNe, Int.reduceAdd, Int.reduceSub, Int.reduceMul, Int.reduceNeg, Int.reduceToNat, Int.toNat_natCast, ↓kk_ck, ↓kk_im, ↓kk_in, s_0_393, s_0_398, s_0_399, s_0_403, s_0_404, s_0_408, s_0_409, s_0_413, s_0_414, s_0_418, s_0_419, g1, g2, g3, g4, g5, @vi_32 ((i : Int) + 1) (by omega) (by omega), show ((i : Int) + 1).toNat = i + 1 by omega, @vi_32 ((i : Int) + 2) (by omega) (by omega), show ((i : Int) + 2).toNat = i + 2 by omega, @vi_32 ((i : Int) + 3) (by omega) (by omega), show ((i : Int) + 3).toNat = i + 3 by omega, @vi_32 ((i : Int) + 4) (by omega) (by omega), show ((i : Int) + 4).toNat = i + 4 by omega, @vi_32 ((i : Int) + 5) (by omega) (by omega), show ((i : Int) + 5).toNat = i + 5 by omega, Option.toList_some, List.cons_append, List.nil_append, ne_eq]
    exact hc
  clear ih hp hW
  simp (disch := omega) only [Option.toList_some, Option.toList_none, List.nil_append, List.cons_append, List.append_nil, true_and, and_true, not_true_eq_false, not_false_eq_true, true_implies, false_implies, implies_true, and_self, Int.reduceLT, Int.reduceLE, Int.reduceEq, Int.reduceNe, Int.reduceAdd, Int.reduceSub, Int.reduceMul, Int.reduceNeg, Int.reduceToNat, Int.toNat_natCast, ↓kk_ck, ↓kk_im, ↓kk_in, s_0_364, s_0_369, s_0_370, s_0_374, s_0_375, s_0_379, s_0_380, s_0_384, s_0_385, s_0_389, s_0_390, h1, h2, h3, h4, h5, @vi_32 ((i : Int) + 1) (by omega) (by omega), show ((i : Int) + 1).toNat = i + 1 by omega, @vi_32 ((i : Int) + 2) (by omega) (by omega), show ((i : Int) + 2).toNat = i + 2 by omega, @vi_32 ((i : Int) + 3) (by omega) (by omega), show ((i : Int) + 3).toNat = i + 3 by omega, @vi_32 ((i : Int) + 4) (by omega) (by omega), show ((i : Int) + 4).toNat = i + 4 by omega, @vi_32 ((i : Int) + 5) (by omega) (by omega), show ((i : Int) + 5).toNat = i + 5 by omega, ne_eq]
  exact h2K
theorem c_0_427 (hI : jInv sc ln t (Y, M, nn)) (ht : t < 1000) (hi : i + 7 ≤ ln) (hln : ln ≤ 100000) (hsc : ∀ j, j < ln → -2147483648 ≤ sc j ∧ sc j < 2147483648) (ih : ∀ w, jInv sc ln (t + 1) w → vi_ok GG (d + 70) 0 18 [some (.inr (.inr 1)), some (.inr (.inr 29)), some (.inr (.inr 112)), some (.inl ((i + 7 : Nat) : Int))] [] w Q) : vi_ok GG (d + 70) 0 427 [some (.inr (.inr 1)), some (.inr (.inr 29)), some (.inr (.inr 112)), some (.inl (i : Int))] [] (Y, M, nn) Q := by
  obtain ⟨a, CS, lw, n, hW⟩ := hI
  have hW : jW sc ln t a CS lw n Y M nn := hW
  obtain ⟨h1, h2, h3, h4, h5⟩ := jP_of hW.1
  have hp : jPair sc ln t (d + 70) 194 259 [.inl (sc (i + 1))] (Y, M, nn) := p_194 hW
  have h2K : vi_call GG (d + 70) 194 [.inr (.inr 29), .inl (sc (i + 1))] (Y, M, nn) (fun r w' => vi_ok GG (d + 70) 0 436 [some (.inr (.inr 1)), some (.inr (.inr 29)), some (.inr (.inr 112)), some (.inl (i : Int))] r.toList w' Q) := by
    refine vi_tyi (by first | exact .inl rfl | exact .inr rfl) (hp _ ?_)
    rintro x ⟨Y1, M1, n1⟩ ⟨g1, g2, g3, g4, g5⟩ hr ⟨y, hy⟩
    dsimp only at g1 g2 g3 g4 g5
    injection hy with hy
    subst hy
    have hc : vi_call GG (d + 70) 259 [.inr (.inr 112), .inl (sc (i + 1))] (Y1, M1, n1) (fun r w' => vi_ok GG (d + 70) 0 445 [some (.inr (.inr 1)), some (.inr (.inr 29)), some (.inr (.inr 112)), some (.inl (i : Int))] (r.toList ++ [.inl y]) w' Q) := by
      refine hr _ fun w2 hw2 => ?_
      obtain ⟨Y2, M2, n2⟩ := w2
      have := ih _ hw2
      clear ih hr hp hW
      show vi_ok GG (d + 70) 0 445 _ [.inl y, .inl y] (Y2, M2, n2) Q
      rw [s_0_445]
      refine ⟨fun _ => ?_, fun h => absurd rfl h⟩
      rw [s_0_1388, @vi_32 ((i : Int) + 7) (by omega) (by omega)]
      exact this
    clear ih hr hp hW h1 h2 h3 h4 h5
    simp (disch := omega) only [Option.toList_some, Option.toList_none, List.nil_append, List.cons_append, List.append_nil, true_and, and_true, not_true_eq_false, not_false_eq_true, true_implies, false_implies, implies_true, and_self, Int.reduceLT, Int.reduceLE, Int.reduceEq, Int.reduceNe, Int.reduceAdd, Int.reduceSub, Int.reduceMul, Int.reduceNeg, Int.reduceToNat, Int.toNat_natCast, ↓kk_ck, ↓kk_im, ↓kk_in, s_0_436, s_0_441, s_0_442, g1, g2, g3, g4, g5, @vi_32 ((i : Int) + 1) (by omega) (by omega), show ((i : Int) + 1).toNat = i + 1 by omega, Option.toList_some, List.cons_append, List.nil_append, ne_eq]
    exact hc
  clear ih hp hW
  simp (disch := omega) only [Option.toList_some, Option.toList_none, List.nil_append, List.cons_append, List.append_nil, true_and, and_true, not_true_eq_false, not_false_eq_true, true_implies, false_implies, implies_true, and_self, Int.reduceLT, Int.reduceLE, Int.reduceEq, Int.reduceNe, Int.reduceAdd, Int.reduceSub, Int.reduceMul, Int.reduceNeg, Int.reduceToNat, Int.toNat_natCast, ↓kk_ck, ↓kk_im, ↓kk_in, s_0_427, s_0_432, s_0_433, h1, h2, h3, h4, h5, @vi_32 ((i : Int) + 1) (by omega) (by omega), show ((i : Int) + 1).toNat = i + 1 by omega, ne_eq]
  exact h2K
theorem c_0_450 (hI : jInv sc ln t (Y, M, nn)) (ht : t < 1000) (hi : i + 7 ≤ ln) (hln : ln ≤ 100000) (hsc : ∀ j, j < ln → -2147483648 ≤ sc j ∧ sc j < 2147483648) (ih : ∀ w, jInv sc ln (t + 1) w → vi_ok GG (d + 70) 0 18 [some (.inr (.inr 1)), some (.inr (.inr 29)), some (.inr (.inr 112)), some (.inl ((i + 7 : Nat) : Int))] [] w Q) : vi_ok GG (d + 70) 0 450 [some (.inr (.inr 1)), some (.inr (.inr 29)), some (.inr (.inr 112)), some (.inl (i : Int))] [] (Y, M, nn) Q := by
  obtain ⟨a, CS, lw, n, hW⟩ := hI
  have hW : jW sc ln t a CS lw n Y M nn := hW
  obtain ⟨h1, h2, h3, h4, h5⟩ := jP_of hW.1
  have hp : jPair sc ln t (d + 70) 195 256 [] (Y, M, nn) := p_195 hW ht
  have h2K : vi_call GG (d + 70) 195 [.inr (.inr 29)] (Y, M, nn) (fun r w' => vi_ok GG (d + 70) 0 454 [some (.inr (.inr 1)), some (.inr (.inr 29)), some (.inr (.inr 112)), some (.inl (i : Int))] r.toList w' Q) := by
    refine vi_tyi (by first | exact .inl rfl | exact .inr rfl) (hp _ ?_)
    rintro x ⟨Y1, M1, n1⟩ ⟨g1, g2, g3, g4, g5⟩ hr ⟨y, hy⟩
    dsimp only at g1 g2 g3 g4 g5
    injection hy with hy
    subst hy
    have hc : vi_call GG (d + 70) 256 [.inr (.inr 112)] (Y1, M1, n1) (fun r w' => vi_ok GG (d + 70) 0 458 [some (.inr (.inr 1)), some (.inr (.inr 29)), some (.inr (.inr 112)), some (.inl (i : Int))] (r.toList ++ [.inl y]) w' Q) := by
      refine hr _ fun w2 hw2 => ?_
      obtain ⟨Y2, M2, n2⟩ := w2
      have := ih _ hw2
      clear ih hr hp hW
      show vi_ok GG (d + 70) 0 458 _ [.inl y, .inl y] (Y2, M2, n2) Q
      rw [s_0_458]
      refine ⟨fun _ => ?_, fun h => absurd rfl h⟩
      rw [s_0_1388, @vi_32 ((i : Int) + 7) (by omega) (by omega)]
      exact this
    clear ih hr hp hW h1 h2 h3 h4 h5
    simp (disch := omega) only [Option.toList_some, Option.toList_none, List.nil_append, List.cons_append, List.append_nil, true_and, and_true, not_true_eq_false, not_false_eq_true, true_implies, false_implies, implies_true, and_self, Int.reduceLT, Int.reduceLE, Int.reduceEq, Int.reduceNe, Int.reduceAdd, Int.reduceSub, Int.reduceMul, Int.reduceNeg, Int.reduceToNat, Int.toNat_natCast, ↓kk_ck, ↓kk_im, ↓kk_in, s_0_454, g1, g2, g3, g4, g5, Option.toList_some, List.cons_append, List.nil_append, ne_eq]
    exact hc
  clear ih hp hW
  simp (disch := omega) only [Option.toList_some, Option.toList_none, List.nil_append, List.cons_append, List.append_nil, true_and, and_true, not_true_eq_false, not_false_eq_true, true_implies, false_implies, implies_true, and_self, Int.reduceLT, Int.reduceLE, Int.reduceEq, Int.reduceNe, Int.reduceAdd, Int.reduceSub, Int.reduceMul, Int.reduceNeg, Int.reduceToNat, Int.toNat_natCast, ↓kk_ck, ↓kk_im, ↓kk_in, s_0_450, h1, h2, h3, h4, h5, ne_eq]
  exact h2K
theorem c_0_463 (hI : jInv sc ln t (Y, M, nn)) (ht : t < 1000) (hi : i + 7 ≤ ln) (hln : ln ≤ 100000) (hsc : ∀ j, j < ln → -2147483648 ≤ sc j ∧ sc j < 2147483648) (ih : ∀ w, jInv sc ln (t + 1) w → vi_ok GG (d + 70) 0 18 [some (.inr (.inr 1)), some (.inr (.inr 29)), some (.inr (.inr 112)), some (.inl ((i + 7 : Nat) : Int))] [] w Q) : vi_ok GG (d + 70) 0 463 [some (.inr (.inr 1)), some (.inr (.inr 29)), some (.inr (.inr 112)), some (.inl (i : Int))] [] (Y, M, nn) Q := by
  obtain ⟨a, CS, lw, n, hW⟩ := hI
  have hW : jW sc ln t a CS lw n Y M nn := hW
  obtain ⟨h1, h2, h3, h4, h5⟩ := jP_of hW.1
  have hp : jPair sc ln t (d + 70) 196 257 [] (Y, M, nn) := p_196 hW
  have h2K : vi_call GG (d + 70) 196 [.inr (.inr 29)] (Y, M, nn) (fun r w' => vi_ok GG (d + 70) 0 467 [some (.inr (.inr 1)), some (.inr (.inr 29)), some (.inr (.inr 112)), some (.inl (i : Int))] r.toList w' Q) := by
    refine vi_tyi (by first | exact .inl rfl | exact .inr rfl) (hp _ ?_)
    rintro x ⟨Y1, M1, n1⟩ ⟨g1, g2, g3, g4, g5⟩ hr ⟨y, hy⟩
    dsimp only at g1 g2 g3 g4 g5
    injection hy with hy
    subst hy
    have hc : vi_call GG (d + 70) 257 [.inr (.inr 112)] (Y1, M1, n1) (fun r w' => vi_ok GG (d + 70) 0 471 [some (.inr (.inr 1)), some (.inr (.inr 29)), some (.inr (.inr 112)), some (.inl (i : Int))] (r.toList ++ [.inl y]) w' Q) := by
      refine hr _ fun w2 hw2 => ?_
      obtain ⟨Y2, M2, n2⟩ := w2
      have := ih _ hw2
      clear ih hr hp hW
      show vi_ok GG (d + 70) 0 471 _ [.inl y, .inl y] (Y2, M2, n2) Q
      rw [s_0_471]
      refine ⟨fun _ => ?_, fun h => absurd rfl h⟩
      rw [s_0_1388, @vi_32 ((i : Int) + 7) (by omega) (by omega)]
      exact this
    clear ih hr hp hW h1 h2 h3 h4 h5
    simp (disch := omega) only [Option.toList_some, Option.toList_none, List.nil_append, List.cons_append, List.append_nil, true_and, and_true, not_true_eq_false, not_false_eq_true, true_implies, false_implies, implies_true, and_self, Int.reduceLT, Int.reduceLE, Int.reduceEq, Int.reduceNe, Int.reduceAdd, Int.reduceSub, Int.reduceMul, Int.reduceNeg, Int.reduceToNat, Int.toNat_natCast, ↓kk_ck, ↓kk_im, ↓kk_in, s_0_467, g1, g2, g3, g4, g5, Option.toList_some, List.cons_append, List.nil_append, ne_eq]
    exact hc
  clear ih hp hW
  simp (disch := omega) only [Option.toList_some, Option.toList_none, List.nil_append, List.cons_append, List.append_nil, true_and, and_true, not_true_eq_false, not_false_eq_true, true_implies, false_implies, implies_true, and_self, Int.reduceLT, Int.reduceLE, Int.reduceEq, Int.reduceNe, Int.reduceAdd, Int.reduceSub, Int.reduceMul, Int.reduceNeg, Int.reduceToNat, Int.toNat_natCast, ↓kk_ck, ↓kk_im, ↓kk_in, s_0_463, h1, h2, h3, h4, h5, ne_eq]
  exact h2K
theorem c_0_476 (hI : jInv sc ln t (Y, M, nn)) (ht : t < 1000) (hi : i + 7 ≤ ln) (hln : ln ≤ 100000) (hsc : ∀ j, j < ln → -2147483648 ≤ sc j ∧ sc j < 2147483648) (ih : ∀ w, jInv sc ln (t + 1) w → vi_ok GG (d + 70) 0 18 [some (.inr (.inr 1)), some (.inr (.inr 29)), some (.inr (.inr 112)), some (.inl ((i + 7 : Nat) : Int))] [] w Q) : vi_ok GG (d + 70) 0 476 [some (.inr (.inr 1)), some (.inr (.inr 29)), some (.inr (.inr 112)), some (.inl (i : Int))] [] (Y, M, nn) Q := by
  obtain ⟨a, CS, lw, n, hW⟩ := hI
  have hW : jW sc ln t a CS lw n Y M nn := hW
  obtain ⟨h1, h2, h3, h4, h5⟩ := jP_of hW.1
  have hp : jPair sc ln t (d + 70) 197 278 [] (Y, M, nn) := p_197 hW ht
  have h2K : vi_call GG (d + 70) 197 [.inr (.inr 29)] (Y, M, nn) (fun r w' => vi_ok GG (d + 70) 0 480 [some (.inr (.inr 1)), some (.inr (.inr 29)), some (.inr (.inr 112)), some (.inl (i : Int))] r.toList w' Q) := by
    refine vi_tyi (by first | exact .inl rfl | exact .inr rfl) (hp _ ?_)
    rintro x ⟨Y1, M1, n1⟩ ⟨g1, g2, g3, g4, g5⟩ hr ⟨y, hy⟩
    dsimp only at g1 g2 g3 g4 g5
    injection hy with hy
    subst hy
    have hc : vi_call GG (d + 70) 278 [.inr (.inr 112)] (Y1, M1, n1) (fun r w' => vi_ok GG (d + 70) 0 484 [some (.inr (.inr 1)), some (.inr (.inr 29)), some (.inr (.inr 112)), some (.inl (i : Int))] (r.toList ++ [.inl y]) w' Q) := by
      refine hr _ fun w2 hw2 => ?_
      obtain ⟨Y2, M2, n2⟩ := w2
      have := ih _ hw2
      clear ih hr hp hW
      show vi_ok GG (d + 70) 0 484 _ [.inl y, .inl y] (Y2, M2, n2) Q
      rw [s_0_484]
      refine ⟨fun _ => ?_, fun h => absurd rfl h⟩
      rw [s_0_1388, @vi_32 ((i : Int) + 7) (by omega) (by omega)]
      exact this
    clear ih hr hp hW h1 h2 h3 h4 h5
    simp (disch := omega) only [Option.toList_some, Option.toList_none, List.nil_append, List.cons_append, List.append_nil, true_and, and_true, not_true_eq_false, not_false_eq_true, true_implies, false_implies, implies_true, and_self, Int.reduceLT, Int.reduceLE, Int.reduceEq, Int.reduceNe, Int.reduceAdd, Int.reduceSub, Int.reduceMul, Int.reduceNeg, Int.reduceToNat, Int.toNat_natCast, ↓kk_ck, ↓kk_im, ↓kk_in, s_0_480, g1, g2, g3, g4, g5, Option.toList_some, List.cons_append, List.nil_append, ne_eq]
    exact hc
  clear ih hp hW
  simp (disch := omega) only [Option.toList_some, Option.toList_none, List.nil_append, List.cons_append, List.append_nil, true_and, and_true, not_true_eq_false, not_false_eq_true, true_implies, false_implies, implies_true, and_self, Int.reduceLT, Int.reduceLE, Int.reduceEq, Int.reduceNe, Int.reduceAdd, Int.reduceSub, Int.reduceMul, Int.reduceNeg, Int.reduceToNat, Int.toNat_natCast, ↓kk_ck, ↓kk_im, ↓kk_in, s_0_476, h1, h2, h3, h4, h5, ne_eq]
  exact h2K
theorem c_0_489 (hI : jInv sc ln t (Y, M, nn)) (ht : t < 1000) (hi : i + 7 ≤ ln) (hln : ln ≤ 100000) (hsc : ∀ j, j < ln → -2147483648 ≤ sc j ∧ sc j < 2147483648) (ih : ∀ w, jInv sc ln (t + 1) w → vi_ok GG (d + 70) 0 18 [some (.inr (.inr 1)), some (.inr (.inr 29)), some (.inr (.inr 112)), some (.inl ((i + 7 : Nat) : Int))] [] w Q) : vi_ok GG (d + 70) 0 489 [some (.inr (.inr 1)), some (.inr (.inr 29)), some (.inr (.inr 112)), some (.inl (i : Int))] [] (Y, M, nn) Q := by
  obtain ⟨a, CS, lw, n, hW⟩ := hI
  have hW : jW sc ln t a CS lw n Y M nn := hW
  obtain ⟨h1, h2, h3, h4, h5⟩ := jP_of hW.1
  have hp : jPair sc ln t (d + 70) 198 279 [] (Y, M, nn) := p_198 hW
  have h2K : vi_call GG (d + 70) 198 [.inr (.inr 29)] (Y, M, nn) (fun r w' => vi_ok GG (d + 70) 0 493 [some (.inr (.inr 1)), some (.inr (.inr 29)), some (.inr (.inr 112)), some (.inl (i : Int))] r.toList w' Q) := by
    refine vi_tyi (by first | exact .inl rfl | exact .inr rfl) (hp _ ?_)
    rintro x ⟨Y1, M1, n1⟩ ⟨g1, g2, g3, g4, g5⟩ hr ⟨y, hy⟩
    dsimp only at g1 g2 g3 g4 g5
    injection hy with hy
    subst hy
    have hc : vi_call GG (d + 70) 279 [.inr (.inr 112)] (Y1, M1, n1) (fun r w' => vi_ok GG (d + 70) 0 497 [some (.inr (.inr 1)), some (.inr (.inr 29)), some (.inr (.inr 112)), some (.inl (i : Int))] (r.toList ++ [.inl y]) w' Q) := by
      refine hr _ fun w2 hw2 => ?_
      obtain ⟨Y2, M2, n2⟩ := w2
      have := ih _ hw2
      clear ih hr hp hW
      show vi_ok GG (d + 70) 0 497 _ [.inl y, .inl y] (Y2, M2, n2) Q
      rw [s_0_497]
      refine ⟨fun _ => ?_, fun h => absurd rfl h⟩
      rw [s_0_1388, @vi_32 ((i : Int) + 7) (by omega) (by omega)]
      exact this
    clear ih hr hp hW h1 h2 h3 h4 h5
    simp (disch := omega) only [Option.toList_some, Option.toList_none, List.nil_append, List.cons_append, List.append_nil, true_and, and_true, not_true_eq_false, not_false_eq_true, true_implies, false_implies, implies_true, and_self, Int.reduceLT, Int.reduceLE, Int.reduceEq, Int.reduceNe, Int.reduceAdd, Int.reduceSub, Int.reduceMul, Int.reduceNeg, Int.reduceToNat, Int.toNat_natCast, ↓kk_ck, ↓kk_im, ↓kk_in, s_0_493, g1, g2, g3, g4, g5, Option.toList_some, List.cons_append, List.nil_append, ne_eq]
    exact hc
  clear ih hp hW
  simp (disch := omega) only [Option.toList_some, Option.toList_none, List.nil_append, List.cons_append, List.append_nil, true_and, and_true, not_true_eq_false, not_false_eq_true, true_implies, false_implies, implies_true, and_self, Int.reduceLT, Int.reduceLE, Int.reduceEq, Int.reduceNe, Int.reduceAdd, Int.reduceSub, Int.reduceMul, Int.reduceNeg, Int.reduceToNat, Int.toNat_natCast, ↓kk_ck, ↓kk_im, ↓kk_in, s_0_489, h1, h2, h3, h4, h5, ne_eq]
  exact h2K
theorem c_0_502 (hI : jInv sc ln t (Y, M, nn)) (ht : t < 1000) (hi : i + 7 ≤ ln) (hln : ln ≤ 100000) (hsc : ∀ j, j < ln → -2147483648 ≤ sc j ∧ sc j < 2147483648) (ih : ∀ w, jInv sc ln (t + 1) w → vi_ok GG (d + 70) 0 18 [some (.inr (.inr 1)), some (.inr (.inr 29)), some (.inr (.inr 112)), some (.inl ((i + 7 : Nat) : Int))] [] w Q) : vi_ok GG (d + 70) 0 502 [some (.inr (.inr 1)), some (.inr (.inr 29)), some (.inr (.inr 112)), some (.inl (i : Int))] [] (Y, M, nn) Q := by
  obtain ⟨a, CS, lw, n, hW⟩ := hI
  have hW : jW sc ln t a CS lw n Y M nn := hW
  obtain ⟨h1, h2, h3, h4, h5⟩ := jP_of hW.1
  have hp : jPair sc ln t (d + 70) 199 280 [.inl (sc (i + 1))] (Y, M, nn) := p_199 hW ht
  have h2K : vi_call GG (d + 70) 199 [.inr (.inr 29), .inl (sc (i + 1))] (Y, M, nn) (fun r w' => vi_ok GG (d + 70) 0 511 [some (.inr (.inr 1)), some (.inr (.inr 29)), some (.inr (.inr 112)), some (.inl (i : Int))] r.toList w' Q) := by
    refine vi_tyi (by first | exact .inl rfl | exact .inr rfl) (hp _ ?_)
    rintro x ⟨Y1, M1, n1⟩ ⟨g1, g2, g3, g4, g5⟩ hr ⟨y, hy⟩
    dsimp only at g1 g2 g3 g4 g5
    injection hy with hy
    subst hy
    have hc : vi_call GG (d + 70) 280 [.inr (.inr 112), .inl (sc (i + 1))] (Y1, M1, n1) (fun r w' => vi_ok GG (d + 70) 0 520 [some (.inr (.inr 1)), some (.inr (.inr 29)), some (.inr (.inr 112)), some (.inl (i : Int))] (r.toList ++ [.inl y]) w' Q) := by
      refine hr _ fun w2 hw2 => ?_
      obtain ⟨Y2, M2, n2⟩ := w2
      have := ih _ hw2
      clear ih hr hp hW
      show vi_ok GG (d + 70) 0 520 _ [.inl y, .inl y] (Y2, M2, n2) Q
      rw [s_0_520]
      refine ⟨fun _ => ?_, fun h => absurd rfl h⟩
      rw [s_0_1388, @vi_32 ((i : Int) + 7) (by omega) (by omega)]
      exact this
    clear ih hr hp hW h1 h2 h3 h4 h5
    simp (disch := omega) only [Option.toList_some, Option.toList_none, List.nil_append, List.cons_append, List.append_nil, true_and, and_true, not_true_eq_false, not_false_eq_true, true_implies, false_implies, implies_true, and_self, Int.reduceLT, Int.reduceLE, Int.reduceEq, Int.reduceNe, Int.reduceAdd, Int.reduceSub, Int.reduceMul, Int.reduceNeg, Int.reduceToNat, Int.toNat_natCast, ↓kk_ck, ↓kk_im, ↓kk_in, s_0_511, s_0_516, s_0_517, g1, g2, g3, g4, g5, @vi_32 ((i : Int) + 1) (by omega) (by omega), show ((i : Int) + 1).toNat = i + 1 by omega, Option.toList_some, List.cons_append, List.nil_append, ne_eq]
    exact hc
  clear ih hp hW
  simp (disch := omega) only [Option.toList_some, Option.toList_none, List.nil_append, List.cons_append, List.append_nil, true_and, and_true, not_true_eq_false, not_false_eq_true, true_implies, false_implies, implies_true, and_self, Int.reduceLT, Int.reduceLE, Int.reduceEq, Int.reduceNe, Int.reduceAdd, Int.reduceSub, Int.reduceMul, Int.reduceNeg, Int.reduceToNat, Int.toNat_natCast, ↓kk_ck, ↓kk_im, ↓kk_in, s_0_502, s_0_507, s_0_508, h1, h2, h3, h4, h5, @vi_32 ((i : Int) + 1) (by omega) (by omega), show ((i : Int) + 1).toNat = i + 1 by omega, ne_eq]
  exact h2K
theorem c_0_525 (hI : jInv sc ln t (Y, M, nn)) (ht : t < 1000) (hi : i + 7 ≤ ln) (hln : ln ≤ 100000) (hsc : ∀ j, j < ln → -2147483648 ≤ sc j ∧ sc j < 2147483648) (ih : ∀ w, jInv sc ln (t + 1) w → vi_ok GG (d + 70) 0 18 [some (.inr (.inr 1)), some (.inr (.inr 29)), some (.inr (.inr 112)), some (.inl ((i + 7 : Nat) : Int))] [] w Q) : vi_ok GG (d + 70) 0 525 [some (.inr (.inr 1)), some (.inr (.inr 29)), some (.inr (.inr 112)), some (.inl (i : Int))] [] (Y, M, nn) Q := by
  obtain ⟨a, CS, lw, n, hW⟩ := hI
  have hW : jW sc ln t a CS lw n Y M nn := hW
  obtain ⟨h1, h2, h3, h4, h5⟩ := jP_of hW.1
  have hp : jPair sc ln t (d + 70) 200 296 [.inl (sc (i + 1)), .inl (sc (i + 2))] (Y, M, nn) := p_200 hW
  have h2K : vi_call GG (d + 70) 200 [.inr (.inr 29), .inl (sc (i + 1)), .inl (sc (i + 2))] (Y, M, nn) (fun r w' => vi_ok GG (d + 70) 0 539 [some (.inr (.inr 1)), some (.inr (.inr 29)), some (.inr (.inr 112)), some (.inl (i : Int))] r.toList w' Q) := by
    refine vi_tyi (by first | exact .inl rfl | exact .inr rfl) (hp _ ?_)
    rintro x ⟨Y1, M1, n1⟩ ⟨g1, g2, g3, g4, g5⟩ hr ⟨y, hy⟩
    dsimp only at g1 g2 g3 g4 g5
    injection hy with hy
    subst hy
    have hc : vi_call GG (d + 70) 296 [.inr (.inr 112), .inl (sc (i + 1)), .inl (sc (i + 2))] (Y1, M1, n1) (fun r w' => vi_ok GG (d + 70) 0 553 [some (.inr (.inr 1)), some (.inr (.inr 29)), some (.inr (.inr 112)), some (.inl (i : Int))] (r.toList ++ [.inl y]) w' Q) := by
      refine hr _ fun w2 hw2 => ?_
      obtain ⟨Y2, M2, n2⟩ := w2
      have := ih _ hw2
      clear ih hr hp hW
      show vi_ok GG (d + 70) 0 553 _ [.inl y, .inl y] (Y2, M2, n2) Q
      rw [s_0_553]
      refine ⟨fun _ => ?_, fun h => absurd rfl h⟩
      rw [s_0_1388, @vi_32 ((i : Int) + 7) (by omega) (by omega)]
      exact this
    clear ih hr hp hW h1 h2 h3 h4 h5
    simp (disch := omega) only [Option.toList_some, Option.toList_none, List.nil_append, List.cons_append, List.append_nil, true_and, and_true, not_true_eq_false, not_false_eq_true, true_implies, false_implies, implies_true, and_self, Int.reduceLT, Int.reduceLE, Int.reduceEq, Int.reduceNe, Int.reduceAdd, Int.reduceSub, Int.reduceMul, Int.reduceNeg, Int.reduceToNat, Int.toNat_natCast, ↓kk_ck, ↓kk_im, ↓kk_in, s_0_539, s_0_544, s_0_545, s_0_549, s_0_550, g1, g2, g3, g4, g5, @vi_32 ((i : Int) + 1) (by omega) (by omega), show ((i : Int) + 1).toNat = i + 1 by omega, @vi_32 ((i : Int) + 2) (by omega) (by omega), show ((i : Int) + 2).toNat = i + 2 by omega, Option.toList_some, List.cons_append, List.nil_append, ne_eq]
    exact hc
  clear ih hp hW
  simp (disch := omega) only [Option.toList_some, Option.toList_none, List.nil_append, List.cons_append, List.append_nil, true_and, and_true, not_true_eq_false, not_false_eq_true, true_implies, false_implies, implies_true, and_self, Int.reduceLT, Int.reduceLE, Int.reduceEq, Int.reduceNe, Int.reduceAdd, Int.reduceSub, Int.reduceMul, Int.reduceNeg, Int.reduceToNat, Int.toNat_natCast, ↓kk_ck, ↓kk_im, ↓kk_in, s_0_525, s_0_530, s_0_531, s_0_535, s_0_536, h1, h2, h3, h4, h5, @vi_32 ((i : Int) + 1) (by omega) (by omega), show ((i : Int) + 1).toNat = i + 1 by omega, @vi_32 ((i : Int) + 2) (by omega) (by omega), show ((i : Int) + 2).toNat = i + 2 by omega, ne_eq]
  exact h2K
theorem c_0_558 (hI : jInv sc ln t (Y, M, nn)) (ht : t < 1000) (hi : i + 7 ≤ ln) (hln : ln ≤ 100000) (hsc : ∀ j, j < ln → -2147483648 ≤ sc j ∧ sc j < 2147483648) (ih : ∀ w, jInv sc ln (t + 1) w → vi_ok GG (d + 70) 0 18 [some (.inr (.inr 1)), some (.inr (.inr 29)), some (.inr (.inr 112)), some (.inl ((i + 7 : Nat) : Int))] [] w Q) : vi_ok GG (d + 70) 0 558 [some (.inr (.inr 1)), some (.inr (.inr 29)), some (.inr (.inr 112)), some (.inl (i : Int))] [] (Y, M, nn) Q := by
  obtain ⟨a, CS, lw, n, hW⟩ := hI
  have hW : jW sc ln t a CS lw n Y M nn := hW
  obtain ⟨h1, h2, h3, h4, h5⟩ := jP_of hW.1
  have hp : jPair sc ln t (d + 70) 201 298 [.inl (sc (i + 1))] (Y, M, nn) := p_201 hW
  have h2K : vi_call GG (d + 70) 201 [.inr (.inr 29), .inl (sc (i + 1))] (Y, M, nn) (fun r w' => vi_ok GG (d + 70) 0 567 [some (.inr (.inr 1)), some (.inr (.inr 29)), some (.inr (.inr 112)), some (.inl (i : Int))] r.toList w' Q) := by
    refine vi_tyi (by first | exact .inl rfl | exact .inr rfl) (hp _ ?_)
    rintro x ⟨Y1, M1, n1⟩ ⟨g1, g2, g3, g4, g5⟩ hr ⟨y, hy⟩
    dsimp only at g1 g2 g3 g4 g5
    injection hy with hy
    subst hy
    have hc : vi_call GG (d + 70) 298 [.inr (.inr 112), .inl (sc (i + 1))] (Y1, M1, n1) (fun r w' => vi_ok GG (d + 70) 0 576 [some (.inr (.inr 1)), some (.inr (.inr 29)), some (.inr (.inr 112)), some (.inl (i : Int))] (r.toList ++ [.inl y]) w' Q) := by
      refine hr _ fun w2 hw2 => ?_
      obtain ⟨Y2, M2, n2⟩ := w2
      have := ih _ hw2
      clear ih hr hp hW
      show vi_ok GG (d + 70) 0 576 _ [.inl y, .inl y] (Y2, M2, n2) Q
      rw [s_0_576]
      refine ⟨fun _ => ?_, fun h => absurd rfl h⟩
      rw [s_0_1388, @vi_32 ((i : Int) + 7) (by omega) (by omega)]
      exact this
    clear ih hr hp hW h1 h2 h3 h4 h5
    simp (disch := omega) only [Option.toList_some, Option.toList_none, List.nil_append, List.cons_append, List.append_nil, true_and, and_true, not_true_eq_false, not_false_eq_true, true_implies, false_implies, implies_true, and_self, Int.reduceLT, Int.reduceLE, Int.reduceEq, Int.reduceNe, Int.reduceAdd, Int.reduceSub, Int.reduceMul, Int.reduceNeg, Int.reduceToNat, Int.toNat_natCast, ↓kk_ck, ↓kk_im, ↓kk_in, s_0_567, s_0_572, s_0_573, g1, g2, g3, g4, g5, @vi_32 ((i : Int) + 1) (by omega) (by omega), show ((i : Int) + 1).toNat = i + 1 by omega, Option.toList_some, List.cons_append, List.nil_append, ne_eq]
    exact hc
  clear ih hp hW
  simp (disch := omega) only [Option.toList_some, Option.toList_none, List.nil_append, List.cons_append, List.append_nil, true_and, and_true, not_true_eq_false, not_false_eq_true, true_implies, false_implies, implies_true, and_self, Int.reduceLT, Int.reduceLE, Int.reduceEq, Int.reduceNe, Int.reduceAdd, Int.reduceSub, Int.reduceMul, Int.reduceNeg, Int.reduceToNat, Int.toNat_natCast, ↓kk_ck, ↓kk_im, ↓kk_in, s_0_558, s_0_563, s_0_564, h1, h2, h3, h4, h5, @vi_32 ((i : Int) + 1) (by omega) (by omega), show ((i : Int) + 1).toNat = i + 1 by omega, ne_eq]
  exact h2K
end
