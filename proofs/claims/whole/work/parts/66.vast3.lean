/-! Contracts of Vast, third part: what is dipped; kinds. -/
/-- of a whole box of sizes x, y, z how many cells have just so many red sides -/
def fWy (x y z : Int) (s : Nat) (m a : Int) : Nat → Int
  | 0 => 0
  | b + 1 => fWy x y z s m a b + fRd x (bC (s % 4)) a * fRd y (bC (s / 4 % 4)) (b : Int) * fRd z (bC (s / 16 % 4)) (m - a - (b : Int))
def fWx (x y z : Int) (s : Nat) (m : Int) : Nat → Int
  | 0 => 0
  | a + 1 => fWx x y z s m a + fWy x y z s m (a : Int) 3
theorem bC_4 : ∀ e, e < 4 → bC e ≤ 2 := by decide +kernel
theorem fRd_b {size m : Int} {u : Nat} (hs : 1 ≤ size ∧ size ≤ 1000) (hu : u ≤ 2) : 0 ≤ fRd size u m ∧ fRd size u m ≤ 1000 := by
  unfold fRd
  split
  · split <;> omega
  · split
    · omega
    · split <;> omega
theorem mul3_c {x y z : Int} (hx : 0 ≤ x ∧ x ≤ 1000) (hy : 0 ≤ y ∧ y ≤ 1000) (hz : 0 ≤ z ∧ z ≤ 1000) : (0 ≤ x * y ∧ x * y ≤ 1000000) ∧ (0 ≤ x * y * z ∧ x * y * z ≤ 1000000000) := by
  have h1 : x * y ≤ 1000 * 1000 := Int.mul_le_mul hx.2 hy.2 (by omega) (by omega)
  have h2 : 0 ≤ x * y := Int.mul_nonneg (by omega) (by omega)
  have h3 : x * y * z ≤ 1000000 * 1000 := Int.mul_le_mul h1 hz.2 (by omega) (by omega)
  have h4 : 0 ≤ x * y * z := Int.mul_nonneg h2 (by omega)
  exact ⟨⟨h2, h1⟩, h4, h3⟩
section
variable {d q lim : Nat} {K : Option vi_V → vi_W → Prop} {Y : vi_Y} {M : vi_M} {n : Nat × Nat} {L : List (Nat → Int)}
theorem k_162 (hY : kY Y 151) {x y z : Int} (hx : 1 ≤ x ∧ x ≤ 1000) (hy : 1 ≤ y ∧ y ≤ 1000) (hz : 1 ≤ z ∧ z ≤ 1000) {s : Nat} (hs : s < 64) {m : Int} (hm : 0 ≤ m ∧ m ≤ 6) : vi_call GG (d + 3) 162 [.inr (.inr 103), .inl x, .inl y, .inl z, .inl (s : Int), .inl m] (Y, M, n) K ↔ K (some (.inr (.inl (fWx x y z s m 3)))) (Y, M, n) := by
  have a1 := (y_103 hY (by omega)).1
  have r1 := fun {K : Option vi_V → vi_W → Prop} {w : vi_W} {many : Int} => @k_168 d K x many s w hs hx
  have r2 := fun {K : Option vi_V → vi_W → Prop} {w : vi_W} {many : Int} => @k_168 d K y many (s >>> 2) w (by rw [Nat.shiftRight_eq_div_pow]; omega) hy
  have r3 := fun {K : Option vi_V → vi_W → Prop} {w : vi_W} {many : Int} => @k_168 d K z many (s >>> 4) w (by rw [Nat.shiftRight_eq_div_pow]; omega) hz
  have e2 : (s >>> 2) % 4 = s / 4 % 4 := by rw [Nat.shiftRight_eq_div_pow]
  have e4 : (s >>> 4) % 4 = s / 16 % 4 := by rw [Nat.shiftRight_eq_div_pow]
  simp only [e2, e4] at r2 r3
  have s2 : vi_shr32 (s : Int) (2 : Int) = ((s >>> 2 : Nat) : Int) := vi_shr32n (x := s) (n := 2) (by omega)
  have s4 : vi_shr32 (s : Int) (4 : Int) = ((s >>> 4 : Nat) : Int) := vi_shr32n (x := s) (n := 4) (by omega)
  rw [← s2] at r2
  rw [← s4] at r3
  clear s2 s4
  have u1 := bC_4 (s % 4) (by omega)
  have u2 := bC_4 (s / 4 % 4) (by omega)
  have u3 := bC_4 (s / 16 % 4) (by omega)
  have hyb : ∀ (a : Int) (b : Nat), 0 ≤ fWy x y z s m a b ∧ fWy x y z s m a b ≤ 1000000000 * (b : Int) := by
    intro a b
    induction b with
    | zero => rw [fWy]; omega
    | succ b ih =>
      have h := (mul3_c (fRd_b (m := a) hx u1) (fRd_b (m := (b : Int)) hy u2) (fRd_b (m := m - a - (b : Int)) hz u3)).2
      rw [fWy]
      generalize fRd x (bC (s % 4)) a * fRd y (bC (s / 4 % 4)) (b : Int) * fRd z (bC (s / 16 % 4)) (m - a - (b : Int)) = t at *
      omega
  have hxb : ∀ a : Nat, 0 ≤ fWx x y z s m a ∧ fWx x y z s m a ≤ 3000000000 * (a : Int) := by
    intro a
    induction a with
    | zero => rw [fWx]; omega
    | succ a ih => have h := hyb (a : Int) 3; rw [fWx]; omega
  refine vi_k (r := some (.inr (.inl _))) fun Q hQ => ?_
  have loop : ∀ a : Nat, a ≤ 3 → ∀ l9 l10, vi_ok GG (d + 2) 162 6 [some (.inr (.inr 103)), some (.inl x), some (.inl y), some (.inl z), some (.inl (s : Int)), some (.inl m), some (.inr (.inl (fWx x y z s m a))), none, some (.inl (a : Int)), l9, l10] [] (Y, M, n) Q := by
    refine vi_dn 3 ?_ fun a ha ih => ?_
    · intro l9 l10
      clear r1 r2 r3 hyb hxb
      rw [s_162_6]
      simp (disch := omega) only [Option.toList_some, Option.toList_none, List.nil_append, List.cons_append, List.append_nil, true_and, and_true, not_true_eq_false, not_false_eq_true, true_implies, false_implies, implies_true, and_self, Int.reduceLT, Int.reduceLE, Int.reduceEq, Int.reduceNe, Int.reduceAdd, Int.reduceSub, Int.reduceMul, Int.reduceNeg, Int.reduceToNat, Int.toNat_natCast, ↓kk_ck, ↓kk_im, ↓kk_in, s_162_0, s_162_12, s_162_21, s_162_72, s_162_78, s_162_41, s_162_51, s_162_62]
      exact hQ
    · intro l9 l10
      have hxa := hxb a
      have inner : ∀ b : Nat, b ≤ 3 → ∀ l10, vi_ok GG (d + 2) 162 15 [some (.inr (.inr 103)), some (.inl x), some (.inl y), some (.inl z), some (.inl (s : Int)), some (.inl m), some (.inr (.inl (fWx x y z s m a + fWy x y z s m (a : Int) b))), none, some (.inl (a : Int)), some (.inl (b : Int)), l10] [] (Y, M, n) Q := by
        refine vi_dn 3 ?_ fun b hb ihb => ?_
        · intro l10
          have := ih (some (.inl 3)) l10
          clear r1 r2 r3 hyb hxb hQ ih
          rw [s_162_15]
          simp (disch := omega) only [Option.toList_some, Option.toList_none, List.nil_append, List.cons_append, List.append_nil, true_and, and_true, not_true_eq_false, not_false_eq_true, true_implies, false_implies, implies_true, and_self, Int.reduceLT, Int.reduceLE, Int.reduceEq, Int.reduceNe, Int.reduceAdd, Int.reduceSub, Int.reduceMul, Int.reduceNeg, Int.reduceToNat, Int.toNat_natCast, ↓kk_ck, ↓kk_im, ↓kk_in, s_162_0, s_162_12, s_162_21, s_162_72, s_162_78, s_162_41, s_162_51, s_162_62, vi_inc]
          exact this
        · intro l10
          have hyb' := hyb (a : Int) b
          have f1 := fRd_b (m := (a : Int)) hx u1
          have f2 := fRd_b (m := (b : Int)) hy u2
          have f3 := fRd_b (m := m - (a : Int) - (b : Int)) hz u3
          obtain ⟨g1, g2⟩ := mul3_c f1 f2 f3
          have R1 := fun {K : Option vi_V → vi_W → Prop} {w : vi_W} => @r1 K w (a : Int)
          have R2 := fun {K : Option vi_V → vi_W → Prop} {w : vi_W} => @r2 K w (b : Int)
          have R3 := fun {K : Option vi_V → vi_W → Prop} {w : vi_W} => @r3 K w (m - (a : Int) - (b : Int))
          have ihb := ihb (some (.inl (m - (a : Int) - (b : Int))))
          rw [fWy] at ihb
          generalize hv1 : fRd x (bC (s % 4)) (a : Int) = v1 at *
          generalize hv2 : fRd y (bC (s / 4 % 4)) (b : Int) = v2 at *
          generalize hv3 : fRd z (bC (s / 16 % 4)) (m - (a : Int) - (b : Int)) = v3 at *
          generalize fWx x y z s m a = w1 at *
          generalize fWy x y z s m (a : Int) b = w2 at *
          clear r1 r2 r3 hyb hxb hQ ih u1 u2 u3 e2 e4 hv1 hv2 hv3
          generalize hp1 : v1 * v2 = p1 at *
          generalize hp2 : p1 * v3 = p2 at *
          rw [s_162_15]
          simp (disch := omega) only [Option.toList_some, Option.toList_none, List.nil_append, List.cons_append, List.append_nil, true_and, and_true, not_true_eq_false, not_false_eq_true, true_implies, false_implies, implies_true, and_self, Int.reduceLT, Int.reduceLE, Int.reduceEq, Int.reduceNe, Int.reduceAdd, Int.reduceSub, Int.reduceMul, Int.reduceNeg, Int.reduceToNat, Int.toNat_natCast, ↓kk_ck, ↓kk_im, ↓kk_in, s_162_0, s_162_12, s_162_21, s_162_72, s_162_78, s_162_41, s_162_51, s_162_62, a1, R1, R2, R3, vi_32, hp1, hp2, vi_64, vi_inc]
          exact vi_fI (fun u => vi_ok GG (d + 2) 162 15 [some (.inr (.inr 103)), some (.inl x), some (.inl y), some (.inl z), some (.inl (s : Int)), some (.inl m), some (.inr (.inl u)), none, some (.inl (a : Int)), some (.inl ((b + 1 : Nat) : Int)), some (.inl (m - (a : Int) - (b : Int)))] [] (Y, M, n) Q) ihb (by omega)
      have := inner 0 (by omega) l10
      rw [fWy, Int.add_zero] at this
      clear r1 r2 r3 hyb hxb hQ ih inner
      rw [s_162_6]
      simp (disch := omega) only [Option.toList_some, Option.toList_none, List.nil_append, List.cons_append, List.append_nil, true_and, and_true, not_true_eq_false, not_false_eq_true, true_implies, false_implies, implies_true, and_self, Int.reduceLT, Int.reduceLE, Int.reduceEq, Int.reduceNe, Int.reduceAdd, Int.reduceSub, Int.reduceMul, Int.reduceNeg, Int.reduceToNat, Int.toNat_natCast, ↓kk_ck, ↓kk_im, ↓kk_in, s_162_0, s_162_12, s_162_21, s_162_72, s_162_78, s_162_41, s_162_51, s_162_62]
      exact this
  have := loop 0 (by omega) none none
  rw [e_162, s_162_0]
  exact this
theorem k_170 {p len : Nat} (h1 : Y.1 p = 1) (h2 : (Y.2.1 p : Int) = (len : Int)) {i : Nat} (hi : i < len) : vi_call GG (d + 1) 170 [.inr (.inr p), .inl (i : Int)] (Y, M, n) K ↔ K (some (.inl (M p i))) (Y, M, n) := by
  refine vi_k (r := some (.inl _)) fun Q hQ => ?_
  simp (disch := omega) only [Option.toList_some, Option.toList_none, List.nil_append, List.cons_append, List.append_nil, true_and, and_true, not_true_eq_false, not_false_eq_true, true_implies, false_implies, implies_true, and_self, Int.reduceLT, Int.reduceLE, Int.reduceEq, Int.reduceNe, Int.reduceAdd, Int.reduceSub, Int.reduceMul, Int.reduceNeg, Int.reduceToNat, Int.toNat_natCast, ↓kk_ck, ↓kk_im, ↓kk_in, e_170, s_170_0, s_170_4, s_170_10, s_170_16, s_170_17, s_170_7, s_170_13, h1, h2]
  exact hQ
theorem k_171 {p len : Nat} (h1 : Y.1 p = 1) (h2 : (Y.2.1 p : Int) = (len : Int)) {i : Nat} (hi : i < len) (hb : -1000000 ≤ M p i ∧ M p i ≤ 1000000) : vi_call GG (d + 1) 171 [.inr (.inr p), .inl (i : Int)] (Y, M, n) K ↔ K none (Y, vi_rs M p (vi_u (M p) i (M p i + 1)), n) := by
  refine vi_k (r := none) fun Q hQ => ?_
  simp (disch := omega) only [Option.toList_some, Option.toList_none, List.nil_append, List.cons_append, List.append_nil, true_and, and_true, not_true_eq_false, not_false_eq_true, true_implies, false_implies, implies_true, and_self, Int.reduceLT, Int.reduceLE, Int.reduceEq, Int.reduceNe, Int.reduceAdd, Int.reduceSub, Int.reduceMul, Int.reduceNeg, Int.reduceToNat, Int.toNat_natCast, ↓kk_ck, ↓kk_im, ↓kk_in, e_171, s_171_0, s_171_4, s_171_10, s_171_17, s_171_7, s_171_14, h1, h2, vi_ms_rs, vi_32]
  exact hQ
def fKb (t o : Int) : Int := o + (if t = 0 then 0 else if t = 1 then 4 else if t = 2 then 7 else 9)
theorem k_173 {t o : Int} {w : vi_W} (ht : 0 ≤ t ∧ t ≤ 3) (ho : 0 ≤ o ∧ o ≤ 3) : vi_call GG (d + 1) 173 [.inl t, .inl o] w K ↔ K (some (.inl (fKb t o))) w := by
  obtain ⟨Y, M, n⟩ := w
  refine vi_k (r := some (.inl _)) fun Q hQ => ?_
  unfold fKb at hQ
  by_cases c0 : t = 0
  · rw [if_pos c0] at hQ
    simp (disch := omega) only [Option.toList_some, Option.toList_none, List.nil_append, List.cons_append, List.append_nil, true_and, and_true, not_true_eq_false, not_false_eq_true, true_implies, false_implies, implies_true, and_self, Int.reduceLT, Int.reduceLE, Int.reduceEq, Int.reduceNe, Int.reduceAdd, Int.reduceSub, Int.reduceMul, Int.reduceNeg, Int.reduceToNat, Int.toNat_natCast, ↓kk_ck, ↓kk_im, ↓kk_in, e_173, s_173_0, s_173_5, s_173_9, s_173_14, s_173_18, s_173_23, s_173_28, s_173_30, ne_eq, vi_32]
    exact hQ
  · rw [if_neg c0] at hQ
    by_cases c1 : t = 1
    · rw [if_pos c1] at hQ
      simp (disch := omega) only [Option.toList_some, Option.toList_none, List.nil_append, List.cons_append, List.append_nil, true_and, and_true, not_true_eq_false, not_false_eq_true, true_implies, false_implies, implies_true, and_self, Int.reduceLT, Int.reduceLE, Int.reduceEq, Int.reduceNe, Int.reduceAdd, Int.reduceSub, Int.reduceMul, Int.reduceNeg, Int.reduceToNat, Int.toNat_natCast, ↓kk_ck, ↓kk_im, ↓kk_in, e_173, s_173_0, s_173_5, s_173_9, s_173_14, s_173_18, s_173_23, s_173_28, s_173_30, ne_eq, vi_32]
      exact hQ
    · rw [if_neg c1] at hQ
      by_cases c2 : t = 2
      · rw [if_pos c2] at hQ
        simp (disch := omega) only [Option.toList_some, Option.toList_none, List.nil_append, List.cons_append, List.append_nil, true_and, and_true, not_true_eq_false, not_false_eq_true, true_implies, false_implies, implies_true, and_self, Int.reduceLT, Int.reduceLE, Int.reduceEq, Int.reduceNe, Int.reduceAdd, Int.reduceSub, Int.reduceMul, Int.reduceNeg, Int.reduceToNat, Int.toNat_natCast, ↓kk_ck, ↓kk_im, ↓kk_in, e_173, s_173_0, s_173_5, s_173_9, s_173_14, s_173_18, s_173_23, s_173_28, s_173_30, ne_eq, vi_32]
        exact hQ
      · rw [if_neg c2] at hQ
        simp (disch := omega) only [Option.toList_some, Option.toList_none, List.nil_append, List.cons_append, List.append_nil, true_and, and_true, not_true_eq_false, not_false_eq_true, true_implies, false_implies, implies_true, and_self, Int.reduceLT, Int.reduceLE, Int.reduceEq, Int.reduceNe, Int.reduceAdd, Int.reduceSub, Int.reduceMul, Int.reduceNeg, Int.reduceToNat, Int.toNat_natCast, ↓kk_ck, ↓kk_im, ↓kk_in, e_173, s_173_0, s_173_5, s_173_9, s_173_14, s_173_18, s_173_23, s_173_28, s_173_30, ne_eq, vi_32]
        exact hQ
/-- a place's sides against a cell's red ones, by ranks -/
def fSu (rt ro t o : Int) : Bool := ! sOr 3 (fun r => decide (2 < (if (r : Int) < t then 2 else if (r : Int) < t + o then 1 else 0) + (if 3 - rt ≤ (r : Int) then 2 else if 3 - rt - ro ≤ (r : Int) then 1 else (0 : Int))))
theorem k_176 {rt ro t o : Int} {w : vi_W} (h1 : 0 ≤ rt ∧ rt ≤ 3) (h2 : 0 ≤ ro ∧ ro ≤ 3) (h3 : 0 ≤ t ∧ t ≤ 3) (h4 : 0 ≤ o ∧ o ≤ 3) : vi_call GG (d + 1) 176 [.inl rt, .inl ro, .inl t, .inl o] w K ↔ K (some (.inl (vi_b (fSu rt ro t o)))) w := by
  obtain ⟨Y, M, n⟩ := w
  refine vi_k (r := some (.inl _)) fun Q hQ => ?_
  generalize hf : (fun r : Nat => decide (2 < (if (r : Int) < t then 2 else if (r : Int) < t + o then 1 else 0) + (if 3 - rt ≤ (r : Int) then 2 else if 3 - rt - ro ≤ (r : Int) then 1 else (0 : Int)))) = f at *
  have hf' : ∀ r : Nat, f r = decide (2 < (if (r : Int) < t then 2 else if (r : Int) < t + o then 1 else 0) + (if 3 - rt ≤ (r : Int) then 2 else if 3 - rt - ro ≤ (r : Int) then 1 else (0 : Int))) := fun r => by rw [← hf]
  have hQ' : Q (some (.inl (vi_b (! sOr 3 f)))) (Y, M, n) := by rw [← hf]; exact hQ
  clear hQ hf
  have loop : ∀ r : Nat, r ≤ 3 → ∀ l5 l6, sOr r f = false → vi_ok GG d 176 3 [some (.inl rt), some (.inl ro), some (.inl t), some (.inl o), some (.inl (r : Int)), l5, l6] [] (Y, M, n) Q := by
    refine vi_dn 3 ?_ fun r hr ih => ?_
    · intro l5 l6 h
      rw [h] at hQ'
      rw [s_176_3]
      simp (disch := omega) only [Option.toList_some, Option.toList_none, List.nil_append, List.cons_append, List.append_nil, true_and, and_true, not_true_eq_false, not_false_eq_true, true_implies, false_implies, implies_true, and_self, Int.reduceLT, Int.reduceLE, Int.reduceEq, Int.reduceNe, Int.reduceAdd, Int.reduceSub, Int.reduceMul, Int.reduceNeg, Int.reduceToNat, Int.toNat_natCast, ↓kk_ck, ↓kk_im, ↓kk_in, s_176_0, s_176_9, s_176_15, s_176_19, s_176_27, s_176_31, s_176_32, s_176_42, s_176_46, s_176_56, s_176_60, s_176_61, s_176_72, s_176_74, s_176_80, s_176_24, s_176_39, s_176_53, s_176_69]
      exact hQ'
    · intro l5 l6 h
      have hfr := hf' r
      have ihF : f r = false → ∀ l5 l6, vi_ok GG d 176 3 [some (.inl rt), some (.inl ro), some (.inl t), some (.inl o), some (.inl ((r + 1 : Nat) : Int)), l5, l6] [] (Y, M, n) Q := fun hh l5 l6 => ih l5 l6 (by rw [sOr, h, hh]; rfl)
      have ihT : f r = true → Q (some (.inl 0)) (Y, M, n) := fun hh => by rw [sOr_iff.mpr ⟨r, hr, hh⟩] at hQ'; exact hQ'
      clear ih hQ' hf' h
      rw [s_176_3]
      by_cases c1 : (r : Int) < t <;> by_cases c2 : (r : Int) < t + o <;> by_cases c3 : 3 - rt ≤ (r : Int) <;> by_cases c4 : 3 - rt - ro ≤ (r : Int) <;> simp only [c1, c2, c3, c4, if_true, if_false, Int.reduceAdd, Int.reduceLT, decide_true, decide_false] at hfr
      all_goals
        (first
          | (exfalso; clear ihT ihF; omega)
          | (have := ihT hfr
             clear ihT ihF
             simp (disch := omega) only [Option.toList_some, Option.toList_none, List.nil_append, List.cons_append, List.append_nil, true_and, and_true, not_true_eq_false, not_false_eq_true, true_implies, false_implies, implies_true, and_self, Int.reduceLT, Int.reduceLE, Int.reduceEq, Int.reduceNe, Int.reduceAdd, Int.reduceSub, Int.reduceMul, Int.reduceNeg, Int.reduceToNat, Int.toNat_natCast, ↓kk_ck, ↓kk_im, ↓kk_in, s_176_0, s_176_9, s_176_15, s_176_19, s_176_27, s_176_31, s_176_32, s_176_42, s_176_46, s_176_56, s_176_60, s_176_61, s_176_72, s_176_74, s_176_80, s_176_24, s_176_39, s_176_53, s_176_69, vi_32, vi_inc]
             exact this)
          | (have := fun l5 l6 => ihF hfr l5 l6
             clear ihT ihF
             simp (disch := omega) only [Option.toList_some, Option.toList_none, List.nil_append, List.cons_append, List.append_nil, true_and, and_true, not_true_eq_false, not_false_eq_true, true_implies, false_implies, implies_true, and_self, Int.reduceLT, Int.reduceLE, Int.reduceEq, Int.reduceNe, Int.reduceAdd, Int.reduceSub, Int.reduceMul, Int.reduceNeg, Int.reduceToNat, Int.toNat_natCast, ↓kk_ck, ↓kk_im, ↓kk_in, s_176_0, s_176_9, s_176_15, s_176_19, s_176_27, s_176_31, s_176_32, s_176_42, s_176_46, s_176_56, s_176_60, s_176_61, s_176_72, s_176_74, s_176_80, s_176_24, s_176_39, s_176_53, s_176_69, vi_32, vi_inc]
             exact this _ _))
  rw [e_176, s_176_0]
  exact loop 0 (by omega) none none rfl
end
