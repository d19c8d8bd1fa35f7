/-! Contracts of the reference, eighth part: what a kept law tells of a CELL. -/
def gcS (W : Nat → Int) (c : gCla) : Int := match c.2.1 with
  | some b => (match b W with
    | some v => v
    | none => rB)
  | none => 1
/-- a clause's outcome: its SUM (1 where it has none), BROKEN where it doesn't hold -/
def gcO (W : Nat → Int) (c : gCla) : Int := match c.2.2 with
  | some t => if t W = some 1 then gcS W c else rB
  | none => gcS W c
/-- clauses asked one after the other: taken, shut, what it weighs -/
def gF1 (W : Nat → Int) (st : Bool × Bool × Int) (c : gCla) : Bool × Bool × Int := if gcO W c = rB then st else (st.1 || decide (c.1 = 1), st.2.1 || decide (c.1 = 2), if c.1 = 0 then gcO W c else st.2.2)
def aRow (f : Nat → Int) (g : Nat) (bk t s w : Int) : Nat → Int := eRow (fun k => if k = 23 then w else if k = 24 then t else if k = 25 then s else f k) g bk
theorem aRow_23 {f : Nat → Int} {g : Nat} {bk t s w x : Int} : vi_u (aRow f g bk t s w) 23 x = aRow f g bk t s x := by
  funext k
  unfold vi_u aRow eRow
  by_cases h : k = 23
  · subst h; rfl
  · simp only [if_neg h]
theorem aRow_24 {f : Nat → Int} {g : Nat} {bk t s w x : Int} : vi_u (aRow f g bk t s w) 24 x = aRow f g bk x s w := by
  funext k
  unfold vi_u aRow eRow
  by_cases h : k = 24
  · subst h; rfl
  · simp only [if_neg h]
theorem aRow_25 {f : Nat → Int} {g : Nat} {bk t s w x : Int} : vi_u (aRow f g bk t s w) 25 x = aRow f g bk t x w := by
  funext k
  unfold vi_u aRow eRow
  by_cases h : k = 25
  · subst h; rfl
  · simp only [if_neg h]
theorem aRow_19 {f : Nat → Int} {g j : Nat} {bk t s w : Int} : vi_u (aRow f g bk t s w) 19 (j : Int) = aRow f j bk t s w := eRow_19
theorem aRow_21 {f : Nat → Int} {g : Nat} {bk t s w x : Int} : vi_u (aRow f g bk t s w) 21 x = aRow f g x t s w := eRow_21
theorem eOk_f {M : vi_M} {f f' : Nat → Int} {B e : Nat} {cd vl W : Nat → Int} (h : eOk M f B e cd vl W) (h' : f' 20 = f 20) : eOk M f' B e cd vl W := ⟨h.1, h'.trans h.2.1, h.2.2⟩
def mCl (x : Int) : Int := max 1 (min 99 x)
section
variable {D : Nat} {Y : vi_Y} {M : vi_M} {nn : Nat × Nat} {B e fu : Nat} {cd vl W f : Nat → Int} {Q : Option vi_V → vi_W → Prop}
/-- a clause's end: what it tells is taken over -/
theorem t_291 (hY : kY Y 151) {g : Nat} {bk w x3 x4 x5 x7 x8 y1 y2 : Int} {b1 b2 : Bool} {l8 : Option vi_V} {cl : gCla} (hg : g < 2147483647) (hx : x8 = 0 ∧ gcO W cl = rB ∨ x8 = 1 ∧ gcO W cl ≠ rB ∧ (cl.1 = 0 → x5 = gcO W cl ∧ -1000000000 ≤ x5 ∧ x5 ≤ 1000000000)) (h4 : x4 = cl.1 + 1) (hcl : 0 ≤ cl.1 ∧ cl.1 ≤ 2) (h112 : M 112 = aRow f g bk (vi_b b1) (vi_b b2) (mCl w))
    (hQ : ∀ l8, vi_ok GG D 291 167 [some (.inr (.inr 112)), some (.inl y1), some (.inl y2), some (.inl x3), some (.inl x4), some (.inr (.inl x5)), none, some (.inl x7), l8] [] (Y, vi_rs M 112 (aRow f (g + 1) bk (vi_b (gF1 W (b1, b2, w) cl).1) (vi_b (gF1 W (b1, b2, w) cl).2.1) (mCl (gF1 W (b1, b2, w) cl).2.2)), nn) Q) :
    vi_ok GG D 291 264 [some (.inr (.inr 112)), some (.inl y1), some (.inl y2), some (.inl x3), some (.inl x4), some (.inr (.inl x5)), none, some (.inl x7), l8] [.inl x8] (Y, M, nn) Q := by
  obtain ⟨R1, -⟩ := y_112 hY (by omega)
  have v24 : ∀ t s w : Int, aRow f g bk t s w 24 = t := fun _ _ _ => rfl
  have v25 : ∀ t s w : Int, aRow f g bk t s w 25 = s := fun _ _ _ => rfl
  have v19 : ∀ t s w : Int, aRow f g bk t s w 19 = (g : Int) := fun _ _ _ => rfl
  rcases hx with ⟨rfl, hO⟩ | ⟨rfl, hO, hv⟩
  · have e : gF1 W (b1, b2, w) cl = (b1, b2, w) := by unfold gF1; rw [if_pos hO]
    rw [e] at hQ
    have := hQ (some (.inl 0))
    clear hQ hO e
    cases b1 <;> cases b2 <;> simp (disch := omega) only [Option.toList_some, Option.toList_none, List.nil_append, List.cons_append, List.append_nil, true_and, and_true, not_true_eq_false, not_false_eq_true, true_implies, false_implies, implies_true, and_self, Int.reduceLT, Int.reduceLE, Int.reduceEq, Int.reduceNe, Int.reduceAdd, Int.reduceSub, Int.reduceMul, Int.reduceNeg, Int.reduceToNat, Int.toNat_natCast, ↓kk_ck, ↓kk_im, ↓kk_in, s_291_0, s_291_27, s_291_28, s_291_40, s_291_52, s_291_56, s_291_57, s_291_65, s_291_178, s_291_209, s_291_217, s_291_218, s_291_239, s_291_247, s_291_254, s_291_259, s_291_263, s_291_264, s_291_271, s_291_277, s_291_285, s_291_289, s_291_298, s_291_303, s_291_306, s_291_309, s_291_317, s_291_322, s_291_328, s_291_332, s_291_333, s_291_344, s_291_349, s_291_355, s_291_359, s_291_360, s_291_376, s_291_5, s_291_48, s_291_69, s_291_171, s_291_183, s_291_214, s_291_224, s_291_244, s_291_251, s_291_282, s_291_295, s_291_314, s_291_336, s_291_363, s_291_10, s_291_75, s_291_175, s_291_186, s_291_231, s_291_341, s_291_368, s_291_15, s_291_76, s_291_193, s_291_236, s_291_373, s_291_19, s_291_80, s_291_198, s_291_23, s_291_86, s_291_203, s_291_87, s_291_91, s_291_97, s_291_98, s_291_102, s_291_105, s_291_109, s_291_112, s_291_116, s_291_121, s_291_124, s_291_125, s_291_133, s_291_137, s_291_141, s_291_146, s_291_150, s_291_157, s_291_161, s_291_162, s_291_163, R1, h112, vi_bt, vi_bf, v24, v25, v19, ne_eq, vi_ms_rs, vi_rs_s, vi_rs_rs, aRow_24, aRow_25, aRow_19, vi_inc] <;> exact this
  · obtain h | h | h : cl.1 = 0 ∨ cl.1 = 1 ∨ cl.1 = 2 := by omega
    · obtain ⟨hv1, hv2, hv3⟩ := hv h
      have e : gF1 W (b1, b2, w) cl = (b1, b2, x5) := by
        unfold gF1
        rw [if_neg hO, decide_eq_false (by omega), decide_eq_false (by omega), if_pos h, hv1, Bool.or_false, Bool.or_false]
      rw [e] at hQ
      obtain rfl : x4 = 1 := by omega
      have := hQ (some (.inl 1))
      clear hQ hO e hv
      unfold mCl at this h112
      by_cases q : x5 < 1
      · rw [show max 1 (min 99 x5) = 1 by omega] at this
        cases b1 <;> cases b2 <;> simp (disch := omega) only [Option.toList_some, Option.toList_none, List.nil_append, List.cons_append, List.append_nil, true_and, and_true, not_true_eq_false, not_false_eq_true, true_implies, false_implies, implies_true, and_self, Int.reduceLT, Int.reduceLE, Int.reduceEq, Int.reduceNe, Int.reduceAdd, Int.reduceSub, Int.reduceMul, Int.reduceNeg, Int.reduceToNat, Int.toNat_natCast, ↓kk_ck, ↓kk_im, ↓kk_in, s_291_0, s_291_27, s_291_28, s_291_40, s_291_52, s_291_56, s_291_57, s_291_65, s_291_178, s_291_209, s_291_217, s_291_218, s_291_239, s_291_247, s_291_254, s_291_259, s_291_263, s_291_264, s_291_271, s_291_277, s_291_285, s_291_289, s_291_298, s_291_303, s_291_306, s_291_309, s_291_317, s_291_322, s_291_328, s_291_332, s_291_333, s_291_344, s_291_349, s_291_355, s_291_359, s_291_360, s_291_376, s_291_5, s_291_48, s_291_69, s_291_171, s_291_183, s_291_214, s_291_224, s_291_244, s_291_251, s_291_282, s_291_295, s_291_314, s_291_336, s_291_363, s_291_10, s_291_75, s_291_175, s_291_186, s_291_231, s_291_341, s_291_368, s_291_15, s_291_76, s_291_193, s_291_236, s_291_373, s_291_19, s_291_80, s_291_198, s_291_23, s_291_86, s_291_203, s_291_87, s_291_91, s_291_97, s_291_98, s_291_102, s_291_105, s_291_109, s_291_112, s_291_116, s_291_121, s_291_124, s_291_125, s_291_133, s_291_137, s_291_141, s_291_146, s_291_150, s_291_157, s_291_161, s_291_162, s_291_163, R1, h112, vi_bt, vi_bf, v24, v25, v19, ne_eq, vi_ms_rs, vi_rs_s, vi_rs_rs, aRow_23, aRow_24, aRow_25, aRow_19, vi_inc, vi_cmge, vi_cmle] <;> exact this
      · by_cases q2 : 99 < x5
        · rw [show max 1 (min 99 x5) = 99 by omega] at this
          cases b1 <;> cases b2 <;> simp (disch := omega) only [Option.toList_some, Option.toList_none, List.nil_append, List.cons_append, List.append_nil, true_and, and_true, not_true_eq_false, not_false_eq_true, true_implies, false_implies, implies_true, and_self, Int.reduceLT, Int.reduceLE, Int.reduceEq, Int.reduceNe, Int.reduceAdd, Int.reduceSub, Int.reduceMul, Int.reduceNeg, Int.reduceToNat, Int.toNat_natCast, ↓kk_ck, ↓kk_im, ↓kk_in, s_291_0, s_291_27, s_291_28, s_291_40, s_291_52, s_291_56, s_291_57, s_291_65, s_291_178, s_291_209, s_291_217, s_291_218, s_291_239, s_291_247, s_291_254, s_291_259, s_291_263, s_291_264, s_291_271, s_291_277, s_291_285, s_291_289, s_291_298, s_291_303, s_291_306, s_291_309, s_291_317, s_291_322, s_291_328, s_291_332, s_291_333, s_291_344, s_291_349, s_291_355, s_291_359, s_291_360, s_291_376, s_291_5, s_291_48, s_291_69, s_291_171, s_291_183, s_291_214, s_291_224, s_291_244, s_291_251, s_291_282, s_291_295, s_291_314, s_291_336, s_291_363, s_291_10, s_291_75, s_291_175, s_291_186, s_291_231, s_291_341, s_291_368, s_291_15, s_291_76, s_291_193, s_291_236, s_291_373, s_291_19, s_291_80, s_291_198, s_291_23, s_291_86, s_291_203, s_291_87, s_291_91, s_291_97, s_291_98, s_291_102, s_291_105, s_291_109, s_291_112, s_291_116, s_291_121, s_291_124, s_291_125, s_291_133, s_291_137, s_291_141, s_291_146, s_291_150, s_291_157, s_291_161, s_291_162, s_291_163, R1, h112, vi_bt, vi_bf, v24, v25, v19, ne_eq, vi_ms_rs, vi_rs_s, vi_rs_rs, aRow_23, aRow_24, aRow_25, aRow_19, vi_inc, vi_cmge, vi_cmle] <;> exact this
        · rw [show max 1 (min 99 x5) = x5 by omega] at this
          cases b1 <;> cases b2 <;> simp (disch := omega) only [Option.toList_some, Option.toList_none, List.nil_append, List.cons_append, List.append_nil, true_and, and_true, not_true_eq_false, not_false_eq_true, true_implies, false_implies, implies_true, and_self, Int.reduceLT, Int.reduceLE, Int.reduceEq, Int.reduceNe, Int.reduceAdd, Int.reduceSub, Int.reduceMul, Int.reduceNeg, Int.reduceToNat, Int.toNat_natCast, ↓kk_ck, ↓kk_im, ↓kk_in, s_291_0, s_291_27, s_291_28, s_291_40, s_291_52, s_291_56, s_291_57, s_291_65, s_291_178, s_291_209, s_291_217, s_291_218, s_291_239, s_291_247, s_291_254, s_291_259, s_291_263, s_291_264, s_291_271, s_291_277, s_291_285, s_291_289, s_291_298, s_291_303, s_291_306, s_291_309, s_291_317, s_291_322, s_291_328, s_291_332, s_291_333, s_291_344, s_291_349, s_291_355, s_291_359, s_291_360, s_291_376, s_291_5, s_291_48, s_291_69, s_291_171, s_291_183, s_291_214, s_291_224, s_291_244, s_291_251, s_291_282, s_291_295, s_291_314, s_291_336, s_291_363, s_291_10, s_291_75, s_291_175, s_291_186, s_291_231, s_291_341, s_291_368, s_291_15, s_291_76, s_291_193, s_291_236, s_291_373, s_291_19, s_291_80, s_291_198, s_291_23, s_291_86, s_291_203, s_291_87, s_291_91, s_291_97, s_291_98, s_291_102, s_291_105, s_291_109, s_291_112, s_291_116, s_291_121, s_291_124, s_291_125, s_291_133, s_291_137, s_291_141, s_291_146, s_291_150, s_291_157, s_291_161, s_291_162, s_291_163, R1, h112, vi_bt, vi_bf, v24, v25, v19, ne_eq, vi_ms_rs, vi_rs_s, vi_rs_rs, aRow_23, aRow_24, aRow_25, aRow_19, vi_inc, vi_cmge, vi_cmle, @vi_32 x5 (by omega) (by omega)] <;> exact this
    · have e : gF1 W (b1, b2, w) cl = (true, b2, w) := by
        unfold gF1
        rw [if_neg hO, decide_eq_true h, decide_eq_false (by omega), if_neg (by omega), Bool.or_true, Bool.or_false]
      rw [e] at hQ
      obtain rfl : x4 = 2 := by omega
      have := hQ (some (.inl 1))
      clear hQ hO e hv
      cases b1 <;> cases b2 <;> simp (disch := omega) only [Option.toList_some, Option.toList_none, List.nil_append, List.cons_append, List.append_nil, true_and, and_true, not_true_eq_false, not_false_eq_true, true_implies, false_implies, implies_true, and_self, Int.reduceLT, Int.reduceLE, Int.reduceEq, Int.reduceNe, Int.reduceAdd, Int.reduceSub, Int.reduceMul, Int.reduceNeg, Int.reduceToNat, Int.toNat_natCast, ↓kk_ck, ↓kk_im, ↓kk_in, s_291_0, s_291_27, s_291_28, s_291_40, s_291_52, s_291_56, s_291_57, s_291_65, s_291_178, s_291_209, s_291_217, s_291_218, s_291_239, s_291_247, s_291_254, s_291_259, s_291_263, s_291_264, s_291_271, s_291_277, s_291_285, s_291_289, s_291_298, s_291_303, s_291_306, s_291_309, s_291_317, s_291_322, s_291_328, s_291_332, s_291_333, s_291_344, s_291_349, s_291_355, s_291_359, s_291_360, s_291_376, s_291_5, s_291_48, s_291_69, s_291_171, s_291_183, s_291_214, s_291_224, s_291_244, s_291_251, s_291_282, s_291_295, s_291_314, s_291_336, s_291_363, s_291_10, s_291_75, s_291_175, s_291_186, s_291_231, s_291_341, s_291_368, s_291_15, s_291_76, s_291_193, s_291_236, s_291_373, s_291_19, s_291_80, s_291_198, s_291_23, s_291_86, s_291_203, s_291_87, s_291_91, s_291_97, s_291_98, s_291_102, s_291_105, s_291_109, s_291_112, s_291_116, s_291_121, s_291_124, s_291_125, s_291_133, s_291_137, s_291_141, s_291_146, s_291_150, s_291_157, s_291_161, s_291_162, s_291_163, R1, h112, vi_bt, vi_bf, v24, v25, v19, ne_eq, vi_ms_rs, vi_rs_s, vi_rs_rs, aRow_24, aRow_25, aRow_19, vi_inc] <;> exact this
    · have e : gF1 W (b1, b2, w) cl = (b1, true, w) := by
        unfold gF1
        rw [if_neg hO, decide_eq_true h, decide_eq_false (by omega), if_neg (by omega), Bool.or_true, Bool.or_false]
      rw [e] at hQ
      obtain rfl : x4 = 3 := by omega
      have := hQ (some (.inl 1))
      clear hQ hO e hv
      cases b1 <;> cases b2 <;> simp (disch := omega) only [Option.toList_some, Option.toList_none, List.nil_append, List.cons_append, List.append_nil, true_and, and_true, not_true_eq_false, not_false_eq_true, true_implies, false_implies, implies_true, and_self, Int.reduceLT, Int.reduceLE, Int.reduceEq, Int.reduceNe, Int.reduceAdd, Int.reduceSub, Int.reduceMul, Int.reduceNeg, Int.reduceToNat, Int.toNat_natCast, ↓kk_ck, ↓kk_im, ↓kk_in, s_291_0, s_291_27, s_291_28, s_291_40, s_291_52, s_291_56, s_291_57, s_291_65, s_291_178, s_291_209, s_291_217, s_291_218, s_291_239, s_291_247, s_291_254, s_291_259, s_291_263, s_291_264, s_291_271, s_291_277, s_291_285, s_291_289, s_291_298, s_291_303, s_291_306, s_291_309, s_291_317, s_291_322, s_291_328, s_291_332, s_291_333, s_291_344, s_291_349, s_291_355, s_291_359, s_291_360, s_291_376, s_291_5, s_291_48, s_291_69, s_291_171, s_291_183, s_291_214, s_291_224, s_291_244, s_291_251, s_291_282, s_291_295, s_291_314, s_291_336, s_291_363, s_291_10, s_291_75, s_291_175, s_291_186, s_291_231, s_291_341, s_291_368, s_291_15, s_291_76, s_291_193, s_291_236, s_291_373, s_291_19, s_291_80, s_291_198, s_291_23, s_291_86, s_291_203, s_291_87, s_291_91, s_291_97, s_291_98, s_291_102, s_291_105, s_291_109, s_291_112, s_291_116, s_291_121, s_291_124, s_291_125, s_291_133, s_291_137, s_291_141, s_291_146, s_291_150, s_291_157, s_291_161, s_291_162, s_291_163, R1, h112, vi_bt, vi_bf, v24, v25, v19, ne_eq, vi_ms_rs, vi_rs_s, vi_rs_rs, aRow_24, aRow_25, aRow_19, vi_inc] <;> exact this
theorem k_282a {K : Option vi_V → vi_W → Prop} (hY : kY Y 151) (hE : eOk M f B e cd vl W) {i : Nat} {bk c t s w : Int} (hc : c ≠ 0) (h112 : M 112 = aRow f (B + i) bk t s w) (hD : 2 ≤ D) : vi_call GG D 282 [.inr (.inr 112), .inl c] (Y, M, nn) K ↔ K (some (.inl (vi_b (decide (cd i = c))))) (Y, vi_rs M 112 (aRow f (if cd i = c then B + (i + 1) else B + i) bk t s w), nn) :=
  k_282 (f := fun k => if k = 23 then w else if k = 24 then t else if k = 25 then s else f k) hY (eOk_f hE rfl) hc h112 hD
theorem k_281a {K : Option vi_V → vi_W → Prop} (hY : kY Y 151) (hE : eOk M f B e cd vl W) {i g : Nat} {bk t s w : Int} (h112 : M 112 = aRow f g bk t s w) (hD : 1 ≤ D) : vi_call GG D 281 [.inr (.inr 112), .inl ((B + i : Nat) : Int)] (Y, M, nn) K ↔ K (some (.inl (cd i))) (Y, M, nn) :=
  k_281 (f := fun k => if k = 23 then w else if k = 24 then t else if k = 25 then s else f k) hY (eOk_f hE rfl) h112 hD
/-- the clauses, one after the other, from the loop's head -/
theorem h_291 (hY : kY Y 151) (hD : 43 ≤ D) {en : Nat → Bool} (hen : ∀ i, en i = true → B + i = e) {y1 y2 x3 : Int} : ∀ (k i l : Nat) (cs0 cs : List gCla) (i' : Nat), rdL cd vl en fu k i l cs0 = some (some cs, i') → ∀ (M : vi_M) (bk x4 : Int) (l5 l6 l7 l8 : Option vi_V) (st : Bool × Bool × Int), eOk M f B e cd vl W → st = cs0.foldl (gF1 W) (false, false, 1) → M 112 = aRow f (B + i) bk (vi_b st.1) (vi_b st.2.1) (mCl st.2.2) →
    (∀ g bk, Q none (Y, vi_rs M 112 (aRow f g bk (vi_b (cs.foldl (gF1 W) (false, false, 1)).1) (vi_b (cs.foldl (gF1 W) (false, false, 1)).2.1) (mCl (cs.foldl (gF1 W) (false, false, 1)).2.2)), nn)) →
    vi_ok GG D 291 167 [some (.inr (.inr 112)), some (.inl y1), some (.inl y2), some (.inl x3), some (.inl x4), l5, l6, l7, l8] [] (Y, M, nn) Q := by
  obtain ⟨R1, -⟩ := y_112 hY (by omega)
  intro k
  induction k with
  | zero => intro i l cs0 cs i' hg; rw [rdL] at hg; cases hg
  | succ k ih =>
    intro i l cs0 cs i' hg M bk x4 l5 l6 l7 l8 st hE hst h112 hQ
    have he := hE.1
    have h20 : f 20 = (e : Int) := hE.2.1
    obtain ⟨-, -, j2, -, -, j5, -⟩ := eAll (nn := nn) (B := B) (e := e) (cd := cd) (vl := vl) (W := W) (f := fun k => if k = 23 then mCl st.2.2 else if k = 24 then vi_b st.1 else if k = 25 then vi_b st.2.1 else f k) hY fu
    rw [rdL] at hg
    cases hr : rdC cd vl fu i l with
    | none => rw [hr] at hg; cases hg
    | some r0 =>
      obtain ⟨ok, i2, l2, cl⟩ := r0
      rw [hr] at hg
      cases ok with
      | false => cases hg
      | true =>
        dsimp only at hg
        obtain ⟨b1', b2', w'⟩ := st
        dsimp only at h112 hst j2 j5
        -- behind the clause
        have aft : ∀ (bk2 x4 x5 x7 x8 : Int) (l8 : Option vi_V), (x8 = 0 ∧ gcO W cl = rB ∨ x8 = 1 ∧ gcO W cl ≠ rB ∧ (cl.1 = 0 → x5 = gcO W cl ∧ -1000000000 ≤ x5 ∧ x5 ≤ 1000000000)) → x4 = cl.1 + 1 → (0 ≤ cl.1 ∧ cl.1 ≤ 2) → vi_ok GG D 291 264 [some (.inr (.inr 112)), some (.inl y1), some (.inl y2), some (.inl x3), some (.inl x4), some (.inr (.inl x5)), none, some (.inl x7), l8] [.inl x8] (Y, vi_rs M 112 (aRow f (B + i2) bk2 (vi_b b1') (vi_b b2') (mCl w')), nn) Q := by
          intro bk2 x4 x5 x7 x8 l8 hx h4 hcl
          have hi2 : B + i2 ≤ e := by
            by_cases h9 : cd i2 = 159
            · exact Nat.le_of_lt (eOk_i hE (by omega))
            · rw [if_neg h9] at hg
              by_cases hn : en i2 = true
              · exact Nat.le_of_eq (hen i2 hn)
              · rw [if_neg hn] at hg
                cases hg
          refine t_291 hY (by omega) hx h4 hcl vi_rs_s fun l8 => ?_
          rw [vi_rs_rs]
          have est : gF1 W (b1', b2', w') cl = (cs0 ++ [cl]).foldl (gF1 W) (false, false, 1) := by rw [List.foldl_append, ← hst]; rfl
          by_cases h9 : cd i2 = 159
          · rw [if_pos h9] at hg
            exact ih (i2 + 1) l2 (cs0 ++ [cl]) cs i' hg _ bk2 _ _ _ _ _ _ (eOk_r hE) est vi_rs_s (fun g bk => by rw [vi_rs_rs]; exact hQ g bk)
          · rw [if_neg h9] at hg
            by_cases hn : en i2 = true
            · rw [if_pos hn] at hg
              obtain ⟨hg1, hg2⟩ := Prod.mk.inj (Option.some.inj hg)
              have hg3 := Option.some.inj hg1
              have hBe := hen i2 hn
              rw [← hg3, ← est] at hQ
              have := hQ (B + i2 + 1) bk2
              have v19 : ∀ t s w : Int, aRow f (B + i2 + 1) bk2 t s w 19 = ((B + i2 + 1 : Nat) : Int) := fun _ _ _ => rfl
              have v20 : ∀ t s w : Int, aRow f (B + i2 + 1) bk2 t s w 20 = (e : Int) := fun _ _ _ => h20
              clear hQ ih est
              rw [s_291_167]
              simp (disch := omega) only [Option.toList_some, Option.toList_none, List.nil_append, List.cons_append, List.append_nil, true_and, and_true, not_true_eq_false, not_false_eq_true, true_implies, false_implies, implies_true, and_self, Int.reduceLT, Int.reduceLE, Int.reduceEq, Int.reduceNe, Int.reduceAdd, Int.reduceSub, Int.reduceMul, Int.reduceNeg, Int.reduceToNat, Int.toNat_natCast, ↓kk_ck, ↓kk_im, ↓kk_in, s_291_0, s_291_27, s_291_28, s_291_40, s_291_52, s_291_56, s_291_57, s_291_65, s_291_178, s_291_209, s_291_217, s_291_218, s_291_239, s_291_247, s_291_254, s_291_259, s_291_263, s_291_264, s_291_271, s_291_277, s_291_285, s_291_289, s_291_298, s_291_303, s_291_306, s_291_309, s_291_317, s_291_322, s_291_328, s_291_332, s_291_333, s_291_344, s_291_349, s_291_355, s_291_359, s_291_360, s_291_376, s_291_5, s_291_48, s_291_69, s_291_171, s_291_183, s_291_214, s_291_224, s_291_244, s_291_251, s_291_282, s_291_295, s_291_314, s_291_336, s_291_363, s_291_10, s_291_75, s_291_175, s_291_186, s_291_231, s_291_341, s_291_368, s_291_15, s_291_76, s_291_193, s_291_236, s_291_373, s_291_19, s_291_80, s_291_198, s_291_23, s_291_86, s_291_203, s_291_87, s_291_91, s_291_97, s_291_98, s_291_102, s_291_105, s_291_109, s_291_112, s_291_116, s_291_121, s_291_124, s_291_125, s_291_133, s_291_137, s_291_141, s_291_146, s_291_150, s_291_157, s_291_161, s_291_162, s_291_163, R1, vi_rs_s, v19, v20]
              exact this
            · rw [if_neg hn] at hg
              cases hg
        clear ih hQ hg
        -- the TEST, from pc 218
        have tst : ∀ (x4 x5 b1 : Int) (i1 l1 : Nat) (sd : Option gDen) (bb : gDen) (l5 l6 l7 l8 : Option vi_V), x4 = cd i → (1 ≤ cd i ∧ cd i ≤ 3) → (b1 = 1 ∧ (∀ c : gCla, c.1 = cd i - 1 → c.2.1 = sd → gcS W c = rB) ∨ b1 = 0 ∧ (∀ c : gCla, c.1 = cd i - 1 → c.2.1 = sd → gcS W c ≠ rB ∧ (c.1 = 0 → x5 = gcS W c ∧ -1000000000 ≤ x5 ∧ x5 ≤ 1000000000))) →
            (if cd i1 = 4 then (match rdP cd vl fu 5 0 (i1 + 1) l1 bb with
              | none => none
              | some (false, i3, l3, _) => some (false, i3, l3, 0, none, none)
              | some (true, i3, l3, c) => some (true, i3, l3, cd i - 1, sd, some c)) else some (true, i1, l1, cd i - 1, sd, none)) = some (true, i2, l2, cl) →
            vi_ok GG D 291 218 [some (.inr (.inr 112)), some (.inl y1), some (.inl y2), some (.inl x3), some (.inl x4), l5, l6, l7, l8] [.inr (.inl x5)] (Y, vi_rs M 112 (aRow f (B + i1) b1 (vi_b b1') (vi_b b2') (mCl w')), nn) Q := by
          intro x4 x5 b1 i1 l1 sd bb l5 l6 l7 l8 h4 hci hF hg2
          have hb1 : b1 = 0 ∨ b1 = 1 := by rcases hF with h | h <;> omega
          have v21 : ∀ bk : Int, aRow f (B + i1) bk (vi_b b1') (vi_b b2') (mCl w') 21 = bk := fun _ => rfl
          generalize hM1 : vi_rs M 112 (aRow f (B + i1) 0 (vi_b b1') (vi_b b2') (mCl w')) = M1
          have m1 : M1 112 = aRow f (B + i1) 0 (vi_b b1') (vi_b b2') (mCl w') := by rw [← hM1, vi_rs_s]
          have E1 : eOk M1 f B e cd vl W := by rw [← hM1]; exact eOk_r hE
          have e1 : ∀ g, vi_rs M1 112 g = vi_rs M 112 g := fun g => by rw [← hM1, vi_rs_rs]
          have T := fun {D : Nat} {K : Option vi_V → vi_W → Prop} (hD : 2 ≤ D) => @k_282a D Y M1 nn B e cd vl W f K hY E1 i1 0 4 _ _ _ (by decide) m1 hD
          by_cases q4 : cd i1 = 4
          · rw [if_pos q4] at hg2
            rw [decide_eq_true q4, if_pos q4] at T
            have cont : vi_call GG D 287 [.inr (.inr 112), .inl 1] (Y, vi_rs M1 112 (aRow f (B + (i1 + 1)) 0 (vi_b b1') (vi_b b2') (mCl w')), nn) (fun r w'' => vi_ok GG D 291 244 [some (.inr (.inr 112)), some (.inl y1), some (.inl y2), some (.inl x3), some (.inl x4), some (.inr (.inl x5)), none, some (.inl b1), l8] r.toList w'' Q) := by
              cases hr2 : rdP cd vl fu 5 0 (i1 + 1) l1 bb with
              | none => rw [hr2] at hg2; cases hg2
              | some r3 =>
                obtain ⟨ok3, i3, l3, cc⟩ := r3
                rw [hr2] at hg2
                cases ok3 with
                | false => cases hg2
                | true =>
                  dsimp only at hg2
                  cases hg2
                  have ec1 : ∀ x : Int, cd i - 1 = x → (cd i - 1, sd, some cc).1 = x := fun _ h => h
                  refine j5 D 0 (i1 + 1) l1 1 0 _ bb i2 l2 cc _ hr2 (by omega) (by omega) (eOk_r (eOk_f E1 rfl)) vi_rs_s (by omega) (by omega) fun v b2 v01 hv => ?_
                  rw [vi_rs_rs, e1]
                  have w21 : aRow f (B + i2) b2 (vi_b b1') (vi_b b2') (mCl w') 21 = b2 := rfl
                  have ea : eRow (fun k => if k = 23 then mCl w' else if k = 24 then vi_b b1' else if k = 25 then vi_b b2' else f k) (B + i2) b2 = aRow f (B + i2) b2 (vi_b b1') (vi_b b2') (mCl w') := rfl
                  rw [ea]
                  clear ea
                  obtain ⟨o1, -, o3⟩ := hv
                  obtain ⟨o4, o5⟩ := o3 rfl rfl
                  by_cases qa : v = 1 ∧ b2 = 0 ∧ b1 = 0
                  · obtain ⟨rfl, rfl, rfl⟩ := qa
                    have hcc : cc W = some 1 := by
                      cases hcw : cc W with
                      | none => have := o5 hcw; omega
                      | some z => rw [(o4 z hcw).1]
                    have hF' := hF.resolve_left (fun h => by omega)
                    obtain ⟨f1, f2⟩ := hF'.2 (cd i - 1, sd, some cc) rfl rfl
                    have eO : gcO W (cd i - 1, sd, some cc) = gcS W (cd i - 1, sd, some cc) := if_pos hcc
                    have := aft 0 x4 x5 0 1 l8 (.inr ⟨rfl, by rw [eO]; exact f1, by rw [eO]; exact f2⟩) (by rw [h4]; show cd i = cd i - 1 + 1; omega) (by show 0 ≤ cd i - 1 ∧ cd i - 1 ≤ 2; omega)
                    clear aft hF T o4 o5 o3 hF' f2
                    simp (disch := omega) only [Option.toList_some, Option.toList_none, List.nil_append, List.cons_append, List.append_nil, true_and, and_true, not_true_eq_false, not_false_eq_true, true_implies, false_implies, implies_true, and_self, Int.reduceLT, Int.reduceLE, Int.reduceEq, Int.reduceNe, Int.reduceAdd, Int.reduceSub, Int.reduceMul, Int.reduceNeg, Int.reduceToNat, Int.toNat_natCast, ↓kk_ck, ↓kk_im, ↓kk_in, s_291_244, s_291_247, s_291_251, s_291_254, s_291_259, R1, vi_rs_s, w21, ne_eq]
                    exact this
                  · have eO : gcO W (cd i - 1, sd, some cc) = rB := by
                      show (if cc W = some 1 then gcS W (cd i - 1, sd, some cc) else rB) = rB
                      by_cases hcc : cc W = some 1
                      · rw [if_pos hcc]
                        obtain ⟨p1, p2, -⟩ := o4 1 hcc
                        have : b1 = 1 := by omega
                        exact (hF.resolve_right (fun h => by omega)).2 _ rfl rfl
                      · rw [if_neg hcc]
                    have := aft b2 x4 x5 b1 0 l8 (.inl ⟨rfl, eO⟩) (by rw [h4]; show cd i = cd i - 1 + 1; omega) (by show 0 ≤ cd i - 1 ∧ cd i - 1 ≤ 2; omega)
                    clear aft hF T o4 o5 o3 eO
                    rcases v01 with rfl | rfl
                    · simp (disch := omega) only [Option.toList_some, Option.toList_none, List.nil_append, List.cons_append, List.append_nil, true_and, and_true, not_true_eq_false, not_false_eq_true, true_implies, false_implies, implies_true, and_self, Int.reduceLT, Int.reduceLE, Int.reduceEq, Int.reduceNe, Int.reduceAdd, Int.reduceSub, Int.reduceMul, Int.reduceNeg, Int.reduceToNat, Int.toNat_natCast, ↓kk_ck, ↓kk_im, ↓kk_in, s_291_244, s_291_263, R1]
                      exact this
                    · rcases o1 with rfl | rfl
                      · obtain rfl : b1 = 1 := by omega
                        simp (disch := omega) only [Option.toList_some, Option.toList_none, List.nil_append, List.cons_append, List.append_nil, true_and, and_true, not_true_eq_false, not_false_eq_true, true_implies, false_implies, implies_true, and_self, Int.reduceLT, Int.reduceLE, Int.reduceEq, Int.reduceNe, Int.reduceAdd, Int.reduceSub, Int.reduceMul, Int.reduceNeg, Int.reduceToNat, Int.toNat_natCast, ↓kk_ck, ↓kk_im, ↓kk_in, s_291_244, s_291_247, s_291_251, s_291_254, s_291_263, R1, vi_rs_s, w21, ne_eq]
                        exact this
                      · simp (disch := omega) only [Option.toList_some, Option.toList_none, List.nil_append, List.cons_append, List.append_nil, true_and, and_true, not_true_eq_false, not_false_eq_true, true_implies, false_implies, implies_true, and_self, Int.reduceLT, Int.reduceLE, Int.reduceEq, Int.reduceNe, Int.reduceAdd, Int.reduceSub, Int.reduceMul, Int.reduceNeg, Int.reduceToNat, Int.toNat_natCast, ↓kk_ck, ↓kk_im, ↓kk_in, s_291_244, s_291_247, s_291_251, s_291_254, s_291_263, R1, vi_rs_s, w21, ne_eq]
                        exact this
            clear aft hF hg2
            simp (disch := omega) only [Option.toList_some, Option.toList_none, List.nil_append, List.cons_append, List.append_nil, true_and, and_true, not_true_eq_false, not_false_eq_true, true_implies, false_implies, implies_true, and_self, Int.reduceLT, Int.reduceLE, Int.reduceEq, Int.reduceNe, Int.reduceAdd, Int.reduceSub, Int.reduceMul, Int.reduceNeg, Int.reduceToNat, Int.toNat_natCast, ↓kk_ck, ↓kk_im, ↓kk_in, s_291_218, s_291_224, s_291_231, s_291_236, s_291_239, R1, vi_rs_s, v21, vi_ms_rs, aRow_21, vi_rs_rs, hM1, T, vi_bt]
            exact cont
          · rw [if_neg q4] at hg2
            rw [decide_eq_false q4, if_neg q4, vi_rs_id m1] at T
            cases hg2
            have m21 : M1 112 21 = 0 := by rw [m1]; rfl
            have e21 : vi_rs M1 112 (vi_u (M1 112) 21 0) = M1 := by rw [m1, aRow_21]; exact vi_rs_id m1
            rcases hF with ⟨rfl, hF⟩ | ⟨rfl, hF⟩
            · have eO : gcO W (cd i - 1, sd, none) = rB := hF (cd i - 1, sd, none) rfl rfl
              have := aft 0 x4 x5 1 0 l8 (.inl ⟨rfl, eO⟩) (by rw [h4]; show cd i = cd i - 1 + 1; omega) (by show 0 ≤ cd i - 1 ∧ cd i - 1 ≤ 2; omega)
              rw [hM1] at this
              clear aft hF eO
              simp (disch := omega) only [Option.toList_some, Option.toList_none, List.nil_append, List.cons_append, List.append_nil, true_and, and_true, not_true_eq_false, not_false_eq_true, true_implies, false_implies, implies_true, and_self, Int.reduceLT, Int.reduceLE, Int.reduceEq, Int.reduceNe, Int.reduceAdd, Int.reduceSub, Int.reduceMul, Int.reduceNeg, Int.reduceToNat, Int.toNat_natCast, ↓kk_ck, ↓kk_im, ↓kk_in, s_291_218, s_291_224, s_291_231, s_291_236, s_291_247, s_291_251, s_291_254, s_291_263, R1, vi_rs_s, v21, vi_ms_rs, aRow_21, vi_rs_rs, hM1, e21, T, vi_bf, m21, ne_eq]
              exact this
            · obtain ⟨f1, f2⟩ := hF (cd i - 1, sd, none) rfl rfl
              have := aft 0 x4 x5 0 1 l8 (.inr ⟨rfl, f1, f2⟩) (by rw [h4]; show cd i = cd i - 1 + 1; omega) (by show 0 ≤ cd i - 1 ∧ cd i - 1 ≤ 2; omega)
              rw [hM1] at this
              clear aft hF f2
              simp (disch := omega) only [Option.toList_some, Option.toList_none, List.nil_append, List.cons_append, List.append_nil, true_and, and_true, not_true_eq_false, not_false_eq_true, true_implies, false_implies, implies_true, and_self, Int.reduceLT, Int.reduceLE, Int.reduceEq, Int.reduceNe, Int.reduceAdd, Int.reduceSub, Int.reduceMul, Int.reduceNeg, Int.reduceToNat, Int.toNat_natCast, ↓kk_ck, ↓kk_im, ↓kk_in, s_291_218, s_291_224, s_291_231, s_291_236, s_291_247, s_291_251, s_291_254, s_291_259, R1, vi_rs_s, v21, vi_ms_rs, aRow_21, vi_rs_rs, hM1, e21, T, vi_bf, m21, ne_eq]
              exact this
        clear aft
        -- the SUM, from the head
        have hi : B + i < e := by
          unfold rdC at hr
          by_cases hw : cd i = 1 ∨ cd i = 2 ∨ cd i = 3
          · exact eOk_i hE (by omega)
          · rw [if_neg hw] at hr
            cases hr
        have v19 : M 112 19 = ((B + i : Nat) : Int) := by rw [h112]; rfl
        have v20 : M 112 20 = (e : Int) := by rw [h112]; exact h20
        have e21 : vi_u (M 112) 21 0 = aRow f (B + i) 0 (vi_b b1') (vi_b b2') (mCl w') := by rw [h112]; exact aRow_21
        have w19 : aRow f (B + i) 0 (vi_b b1') (vi_b b2') (mCl w') 19 = ((B + i : Nat) : Int) := rfl
        have e2 : ((B + i + 1 : Nat) : Int) = ((B + (i + 1) : Nat) : Int) := by omega
        unfold rdC at hr
        by_cases hw : cd i = 1 ∨ cd i = 2 ∨ cd i = 3
        · rw [if_pos hw] at hr
          rw [s_291_167]
          by_cases h1 : cd i = 1
          · rw [if_pos h1] at hr
            have cont : vi_call GG D 284 [.inr (.inr 112), .inl 1] (Y, vi_rs M 112 (aRow f (B + (i + 1)) 0 (vi_b b1') (vi_b b2') (mCl w')), nn) (fun r w'' => vi_ok GG D 291 214 [some (.inr (.inr 112)), some (.inl y1), some (.inl y2), some (.inl x3), some (.inl 1), l5, l6, l7, l8] r.toList w'' Q) := by
              cases hr2 : rdP cd vl fu 2 0 (i + 1) l (fun _ => none) with
              | none => rw [hr2] at hr; cases hr
              | some r3 =>
                obtain ⟨ok3, i3, l3, cc⟩ := r3
                rw [hr2] at hr
                cases ok3 with
                | false => cases hr
                | true =>
                  dsimp only at hr
                  refine j2 D 0 (i + 1) l 1 0 _ (fun _ => none) i3 l3 cc _ hr2 (by omega) (by omega) (eOk_r (eOk_f hE rfl)) vi_rs_s (by omega) (by omega) fun v b2 hv => ?_
                  rw [vi_rs_rs]
                  have ea : eRow (fun k => if k = 23 then mCl w' else if k = 24 then vi_b b1' else if k = 25 then vi_b b2' else f k) (B + i3) b2 = aRow f (B + i3) b2 (vi_b b1') (vi_b b2') (mCl w') := rfl
                  rw [ea]
                  clear ea
                  obtain ⟨o1, -, o3⟩ := hv
                  obtain ⟨o4, o5⟩ := o3 rfl rfl
                  have := tst 1 v b2 i3 l3 (some cc) cc l5 l6 l7 l8 h1.symm (by omega) (by
                    rcases o1 with rfl | rfl
                    · right
                      refine ⟨rfl, fun c hc1 hc2 => ?_⟩
                      cases hcw : cc W with
                      | none => have := o5 hcw; omega
                      | some z =>
                        obtain ⟨rfl, -, z0, z1⟩ := o4 z hcw
                        have eS : gcS W c = v := by unfold gcS; rw [hc2]; dsimp only; rw [hcw]
                        rw [eS]
                        exact ⟨by unfold rB; omega, fun _ => ⟨rfl, z0, z1⟩⟩
                    · left
                      refine ⟨rfl, fun c hc1 hc2 => ?_⟩
                      cases hcw : cc W with
                      | none => unfold gcS; rw [hc2]; dsimp only; rw [hcw]
                      | some z => have := (o4 z hcw).2.1; omega) (by
                    rw [← hr, h1]
                    rfl)
                  clear tst o4 o5 o3
                  simp (disch := omega) only [Option.toList_some, Option.toList_none, List.nil_append, List.cons_append, List.append_nil, true_and, and_true, not_true_eq_false, not_false_eq_true, true_implies, false_implies, implies_true, and_self, Int.reduceLT, Int.reduceLE, Int.reduceEq, Int.reduceNe, Int.reduceAdd, Int.reduceSub, Int.reduceMul, Int.reduceNeg, Int.reduceToNat, Int.toNat_natCast, ↓kk_ck, ↓kk_im, ↓kk_in, s_291_214]
                  exact this
            clear tst hr j2 j5
            simp (disch := omega) only [Option.toList_some, Option.toList_none, List.nil_append, List.cons_append, List.append_nil, true_and, and_true, not_true_eq_false, not_false_eq_true, true_implies, false_implies, implies_true, and_self, Int.reduceLT, Int.reduceLE, Int.reduceEq, Int.reduceNe, Int.reduceAdd, Int.reduceSub, Int.reduceMul, Int.reduceNeg, Int.reduceToNat, Int.toNat_natCast, ↓kk_ck, ↓kk_im, ↓kk_in, s_291_171, s_291_175, s_291_178, s_291_183, s_291_186, s_291_193, s_291_198, s_291_203, s_291_209, R1, v19, v20, k_281a hY hE h112, h1, vi_ms_rs, vi_rs_s, e21, w19, vi_inc, e2, aRow_19, vi_rs_rs, ne_eq]
            exact cont
          · rw [if_neg h1] at hr
            dsimp only at hr
            have := tst (cd i) 0 0 (i + 1) l none (fun _ => none) l5 l6 l7 l8 rfl (by omega) (.inr ⟨rfl, fun c hc1 hc2 => by
              have eS : gcS W c = 1 := by unfold gcS; rw [hc2]
              rw [eS]
              exact ⟨by decide, fun h => by omega⟩⟩) (by
                rw [← hr, if_neg h1]
                rfl)
            clear tst hr j2 j5
            simp (disch := omega) only [Option.toList_some, Option.toList_none, List.nil_append, List.cons_append, List.append_nil, true_and, and_true, not_true_eq_false, not_false_eq_true, true_implies, false_implies, implies_true, and_self, Int.reduceLT, Int.reduceLE, Int.reduceEq, Int.reduceNe, Int.reduceAdd, Int.reduceSub, Int.reduceMul, Int.reduceNeg, Int.reduceToNat, Int.toNat_natCast, ↓kk_ck, ↓kk_im, ↓kk_in, s_291_171, s_291_175, s_291_178, s_291_183, s_291_186, s_291_193, s_291_198, s_291_203, s_291_217, R1, v19, v20, k_281a hY hE h112, h1, vi_ms_rs, vi_rs_s, e21, w19, vi_inc, e2, aRow_19, vi_rs_rs, ne_eq]
            exact this
        · rw [if_neg hw] at hr
          cases hr
end
