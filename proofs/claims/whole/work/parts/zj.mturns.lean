/-! The turns (reference): sideBeside, thirdSide, turnedSet, turns0. -/
def sbG : Nat → Nat → Nat → Nat → Nat
  | 0, _, _, _ => 9
  | f + 1, side, s, l => if s / 2 = side / 2 then sbG f side (s + 1) l else if l = 0 then s else sbG f side (s + 1) (l - 1)
def thF (up fr : Nat) : Nat := 2 * (3 - up / 2 - fr / 2) + ((if (fr / 2 + 1) % 3 = 3 - up / 2 - fr / 2 then 0 else 1) + up % 2 + fr % 2) % 2
def tuF (t s : Nat) : Nat :=
  if s = 0 then sbG 6 (t / 4) 0 (t % 4) else if s = 1 then sbG 6 (t / 4) 0 (t % 4) ^^^ 1 else if s = 2 then thF (t / 4) (sbG 6 (t / 4) 0 (t % 4)) else
  if s = 3 then thF (t / 4) (sbG 6 (t / 4) 0 (t % 4)) ^^^ 1 else if s = 4 then t / 4 else (t / 4) ^^^ 1
def tsF (set t : Nat) : Nat → Nat
  | 0 => 0
  | s + 1 => tsF set t s ||| ((set.testBit s).toNat <<< tuF t s)
def ftB (r o : Nat) : Nat → Bool
  | 0 => false
  | t + 1 => ftB r o t || decide (tsF r t 6 &&& o = 0)
theorem tu_ok : ∀ t, t < 24 → sbG 6 (t / 4) 0 (t % 4) < 6 ∧ t / 4 / 2 + sbG 6 (t / 4) 0 (t % 4) / 2 ≤ 3 ∧ thF (t / 4) (sbG 6 (t / 4) 0 (t % 4)) < 6 ∧ ∀ s, s < 6 → tuF t s < 6 := by decide +kernel
theorem xor_1 : ∀ x, x < 6 → vi_xor32 ((x : Nat) : Int) 1 = ((x ^^^ 1 : Nat) : Int) := by decide +kernel
theorem half {s : Nat} (h : s < 1000) : vi_w32 ((s : Int).tdiv 2) = ((s / 2 : Nat) : Int) := by
  rw [vi_td (by omega), vi_32 (by omega) (by omega)]; omega
theorem tm_3 {a : Nat} : ((a : Nat) : Int).tmod 3 = ((a % 3 : Nat) : Int) := by rw [Int.tmod_eq_emod_of_nonneg (by omega)]; omega
theorem tm_2 {a : Nat} : ((a : Nat) : Int).tmod 2 = ((a % 2 : Nat) : Int) := by rw [Int.tmod_eq_emod_of_nonneg (by omega)]; omega
theorem th_a {a b : Nat} (h : a + b ≤ 3) : vi_w32 (vi_w32 (3 - (a : Int)) - (b : Int)) = ((3 - a - b : Nat) : Int) := by
  rw [@vi_32 (3 - (a : Int)) (by omega) (by omega), vi_32 (by omega) (by omega)]; omega
theorem th_b {a e u f : Nat} (ha : a < 10) (he : e < 2) : vi_w32 (vi_w32 (2 * (a : Int)) + (vi_w32 (vi_w32 ((e : Int) + ((u % 2 : Nat) : Int)) + ((f % 2 : Nat) : Int))).tmod 2) = ((2 * a + (e + u % 2 + f % 2) % 2 : Nat) : Int) := by
  have h1 : vi_w32 (vi_w32 ((e : Int) + ((u % 2 : Nat) : Int)) + ((f % 2 : Nat) : Int)) = ((e + u % 2 + f % 2 : Nat) : Int) := by
    rw [@vi_32 ((e : Int) + ((u % 2 : Nat) : Int)) (by omega) (by omega), vi_32 (by omega) (by omega)]; omega
  rw [h1, tm_2, @vi_32 (2 * (a : Int)) (by omega) (by omega), vi_32 (by omega) (by omega)]
  omega
theorem bit_n {x d : Nat} (hx : x < 16384) (hd : d < 32) : vi_and32 (vi_shr32 (x : Int) (d : Int)) 1 = ((x.testBit d).toNat : Int) := by
  have := mBt_e' (x := x) (d := d) (by omega) hd
  rw [mBt_b] at this
  exact this
theorem tsF_lt {set t : Nat} (ht : t < 24) : ∀ s : Nat, s ≤ 6 → tsF set t s < 64
  | 0, _ => by rw [tsF]; omega
  | s + 1, hs => by
    have h1 := tsF_lt (set := set) ht s (by omega)
    have h2 := (tu_ok t ht).2.2.2 s (by omega)
    rw [tsF]
    have h3 : (set.testBit s).toNat <<< tuF t s < 2 ^ 6 := by
      rw [Nat.shiftLeft_eq]
      have : 2 ^ tuF t s ≤ 2 ^ 5 := Nat.pow_le_pow_right (by omega) (by omega)
      cases set.testBit s
      · simp
      · simp; omega
    exact Nat.or_lt_two_pow (n := 6) h1 h3
section
variable {D : Nat} {K : Option vi_V → vi_W → Prop} {Y : vi_Y} {M : vi_M} {nn : Nat × Nat} {Q : Option vi_V → vi_W → Prop}
theorem k_329 {side k : Nat} (hs : side < 6) (hk : k < 4) (hr : sbG 6 side 0 k < 6) {w : vi_W} (hD : 1 ≤ D) : vi_call GG D 329 [.inl (side : Int), .inl (k : Int)] w K ↔ K (some (.inl (sbG 6 side 0 k : Int))) w := by
  obtain ⟨D, rfl⟩ : ∃ k, D = k + 1 := ⟨D - 1, by omega⟩
  obtain ⟨Y, M, nn⟩ := w
  refine vi_k (r := some (.inl _)) fun Q hQ => ?_
  have loop : ∀ (f s l : Nat), s + f = 6 → l < 4 → sbG f side s l < 6 → Q (some (.inl (sbG f side s l : Int))) (Y, M, nn) → vi_ok GG D 329 4 [some (.inl (side : Int)), some (.inl (k : Int)), some (.inl (l : Int)), some (.inl (s : Int))] [] (Y, M, nn) Q := by
    intro f
    induction f with
    | zero => intro s l _ _ h; rw [sbG] at h; omega
    | succ f ih =>
      intro s l hsf hl hr hq
      rw [sbG] at hr hq
      rw [s_329_4]
      by_cases q : s / 2 = side / 2
      · rw [if_pos q] at hr hq
        have := ih (s + 1) l (by omega) hl hr hq
        have q' : ((s / 2 : Nat) : Int) = ((side / 2 : Nat) : Int) := by rw [q]
        clear ih hr hq hQ
        simp (disch := omega) only [Option.toList_some, Option.toList_none, List.nil_append, List.cons_append, List.append_nil, true_and, and_true, not_true_eq_false, not_false_eq_true, true_implies, false_implies, implies_true, and_self, Int.reduceLT, Int.reduceLE, Int.reduceEq, Int.reduceNe, Int.reduceAdd, Int.reduceSub, Int.reduceMul, Int.reduceNeg, Int.reduceToNat, Int.toNat_natCast, ↓kk_ck, ↓kk_im, ↓kk_in, s_329_10, s_329_16, s_329_19, s_329_31, @half side (by omega), @half s (by omega), q', vi_inc, ne_eq]
        exact this
      · rw [if_neg q] at hr hq
        have q' : ¬ ((s / 2 : Nat) : Int) = ((side / 2 : Nat) : Int) := by omega
        by_cases q0 : l = 0
        · rw [if_pos q0] at hr hq
          subst q0
          clear ih hr hQ
          simp (disch := omega) only [Option.toList_some, Option.toList_none, List.nil_append, List.cons_append, List.append_nil, true_and, and_true, not_true_eq_false, not_false_eq_true, true_implies, false_implies, implies_true, and_self, Int.reduceLT, Int.reduceLE, Int.reduceEq, Int.reduceNe, Int.reduceAdd, Int.reduceSub, Int.reduceMul, Int.reduceNeg, Int.reduceToNat, Int.toNat_natCast, ↓kk_ck, ↓kk_im, ↓kk_in, s_329_10, s_329_16, s_329_22, s_329_26, @half side (by omega), @half s (by omega), q', show ((0 : Nat) : Int) = 0 from rfl, ne_eq]
          exact hq
        · rw [if_neg q0] at hr hq
          have := ih (s + 1) (l - 1) (by omega) (by omega) hr hq
          have q0' : ¬ (l : Int) = 0 := by omega
          rw [show ((l - 1 : Nat) : Int) = (l : Int) + -1 by omega] at this
          clear ih hr hq hQ
          simp (disch := omega) only [Option.toList_some, Option.toList_none, List.nil_append, List.cons_append, List.append_nil, true_and, and_true, not_true_eq_false, not_false_eq_true, true_implies, false_implies, implies_true, and_self, Int.reduceLT, Int.reduceLE, Int.reduceEq, Int.reduceNe, Int.reduceAdd, Int.reduceSub, Int.reduceMul, Int.reduceNeg, Int.reduceToNat, Int.toNat_natCast, ↓kk_ck, ↓kk_im, ↓kk_in, s_329_10, s_329_16, s_329_22, s_329_28, s_329_31, @half side (by omega), @half s (by omega), q', q0', @vi_32 ((l : Int) + -1) (by omega) (by omega), vi_inc, ne_eq]
          exact this
  have := loop 6 0 k (by omega) hk hr hQ
  rw [show ((0 : Nat) : Int) = 0 from rfl] at this
  clear loop hQ
  simp (disch := omega) only [Option.toList_some, Option.toList_none, List.nil_append, List.cons_append, List.append_nil, true_and, and_true, not_true_eq_false, not_false_eq_true, true_implies, false_implies, implies_true, and_self, Int.reduceLT, Int.reduceLE, Int.reduceEq, Int.reduceNe, Int.reduceAdd, Int.reduceSub, Int.reduceMul, Int.reduceNeg, Int.reduceToNat, Int.toNat_natCast, ↓kk_ck, ↓kk_im, ↓kk_in, e_329, s_329_0]
  exact this
theorem k_330 {up fr : Nat} (hu : up < 6) (hf : fr < 6) (h : up / 2 + fr / 2 ≤ 3) {w : vi_W} (hD : 1 ≤ D) : vi_call GG D 330 [.inl (up : Int), .inl (fr : Int)] w K ↔ K (some (.inl (thF up fr : Int))) w := by
  obtain ⟨D, rfl⟩ : ∃ k, D = k + 1 := ⟨D - 1, by omega⟩
  obtain ⟨Y, M, nn⟩ := w
  refine vi_k (r := some (.inl _)) fun Q hQ => ?_
  unfold thF at hQ
  by_cases q : (fr / 2 + 1) % 3 = 3 - up / 2 - fr / 2
  · rw [if_pos q] at hQ
    have q' : (((fr / 2 + 1) % 3 : Nat) : Int) = ((3 - up / 2 - fr / 2 : Nat) : Int) := by rw [q]
    simp (disch := omega) only [Option.toList_some, Option.toList_none, List.nil_append, List.cons_append, List.append_nil, true_and, and_true, not_true_eq_false, not_false_eq_true, true_implies, false_implies, implies_true, and_self, Int.reduceLT, Int.reduceLE, Int.reduceEq, Int.reduceNe, Int.reduceAdd, Int.reduceSub, Int.reduceMul, Int.reduceNeg, Int.reduceToNat, Int.toNat_natCast, ↓kk_ck, ↓kk_im, ↓kk_in, e_330, s_330_0, s_330_18, s_330_21, s_330_26, @half up (by omega), @half fr (by omega), @th_a (up / 2) (fr / 2) h, vi_inc, tm_3, tm_2, q', show vi_w32 (vi_w32 (2 * ((3 - up / 2 - fr / 2 : Nat) : Int)) + (vi_w32 (vi_w32 (0 + ((up % 2 : Nat) : Int)) + ((fr % 2 : Nat) : Int))).tmod 2) = ((2 * (3 - up / 2 - fr / 2) + (0 + up % 2 + fr % 2) % 2 : Nat) : Int) from @th_b (3 - up / 2 - fr / 2) 0 up fr (by omega) (by omega), ne_eq]
    exact hQ
  · rw [if_neg q] at hQ
    have q' : ¬ (((fr / 2 + 1) % 3 : Nat) : Int) = ((3 - up / 2 - fr / 2 : Nat) : Int) := by omega
    simp (disch := omega) only [Option.toList_some, Option.toList_none, List.nil_append, List.cons_append, List.append_nil, true_and, and_true, not_true_eq_false, not_false_eq_true, true_implies, false_implies, implies_true, and_self, Int.reduceLT, Int.reduceLE, Int.reduceEq, Int.reduceNe, Int.reduceAdd, Int.reduceSub, Int.reduceMul, Int.reduceNeg, Int.reduceToNat, Int.toNat_natCast, ↓kk_ck, ↓kk_im, ↓kk_in, e_330, s_330_0, s_330_18, s_330_25, s_330_26, @half up (by omega), @half fr (by omega), @th_a (up / 2) (fr / 2) h, vi_inc, tm_3, tm_2, q', show vi_w32 (vi_w32 (2 * ((3 - up / 2 - fr / 2 : Nat) : Int)) + (vi_w32 (vi_w32 (1 + ((up % 2 : Nat) : Int)) + ((fr % 2 : Nat) : Int))).tmod 2) = ((2 * (3 - up / 2 - fr / 2) + (1 + up % 2 + fr % 2) % 2 : Nat) : Int) from @th_b (3 - up / 2 - fr / 2) 1 up fr (by omega) (by omega), ne_eq]
    exact hQ
/-- the turns stand in their row -/
def tuT (M : vi_M) (n : Nat) : Prop := ∀ t, t < n → ∀ s, s < 6 → M 138 (6 * t + s) = (tuF t s : Int)
theorem ix_6 {t s : Nat} (ht : t < 24) (hs : s < 6) : vi_w32 (vi_w32 (6 * (t : Int)) + (s : Int)) = ((6 * t + s : Nat) : Int) := by
  rw [@vi_32 (6 * (t : Int)) (by omega) (by omega), vi_32 (by omega) (by omega)]; omega
theorem k_331 (hY : kY Y 151) (hT : tuT M 24) {set t : Nat} (hs : set < 64) (ht : t < 24) (hD : 1 ≤ D) : vi_call GG D 331 [.inr (.inr 112), .inl (set : Int), .inl (t : Int)] (Y, M, nn) K ↔ K (some (.inl (tsF set t 6 : Int))) (Y, M, nn) := by
  obtain ⟨D, rfl⟩ : ∃ k, D = k + 1 := ⟨D - 1, by omega⟩
  obtain ⟨R1, -, -, -, -, -, -, -, -, -, -, -, -, -, -, -, -, -, -, -, -, -, -, -, -, -, R49, -⟩ := y_112 hY (by omega)
  obtain ⟨p1, p2⟩ := y_138 hY (by omega)
  refine vi_k (r := some (.inl _)) fun Q hQ => ?_
  have loop : ∀ s : Nat, s ≤ 6 → vi_ok GG D 331 5 [some (.inr (.inr 112)), some (.inl (set : Int)), some (.inl (t : Int)), some (.inl (tsF set t s : Int)), some (.inl (s : Int))] [] (Y, M, nn) Q := by
    refine vi_dn 6 ?_ fun s hs2 ih => ?_
    · rw [s_331_5]
      simp (disch := omega) only [Option.toList_some, Option.toList_none, List.nil_append, List.cons_append, List.append_nil, true_and, and_true, not_true_eq_false, not_false_eq_true, true_implies, false_implies, implies_true, and_self, Int.reduceLT, Int.reduceLE, Int.reduceEq, Int.reduceNe, Int.reduceAdd, Int.reduceSub, Int.reduceMul, Int.reduceNeg, Int.reduceToNat, Int.toNat_natCast, ↓kk_ck, ↓kk_im, ↓kk_in, s_331_40]
      exact hQ
    · clear hQ
      have h1 := tsF_lt (set := set) ht s (by omega)
      have h2 := (tu_ok t ht).2.2.2 s (by omega)
      have ht2 := hT t ht s hs2
      have h3 : (set.testBit s).toNat <<< tuF t s < 64 := by
        rw [Nat.shiftLeft_eq]
        have : 2 ^ tuF t s ≤ 2 ^ 5 := Nat.pow_le_pow_right (by omega) (by omega)
        cases set.testBit s
        · simp
        · simp; omega
      rw [tsF] at ih
      rw [s_331_5]
      simp (disch := omega) only [Option.toList_some, Option.toList_none, List.nil_append, List.cons_append, List.append_nil, true_and, and_true, not_true_eq_false, not_false_eq_true, true_implies, false_implies, implies_true, and_self, Int.reduceLT, Int.reduceLE, Int.reduceEq, Int.reduceNe, Int.reduceAdd, Int.reduceSub, Int.reduceMul, Int.reduceNeg, Int.reduceToNat, Int.toNat_natCast, ↓kk_ck, ↓kk_im, ↓kk_in, s_331_12, s_331_23, s_331_30, s_331_31, R1, R49, p1, p2, @bit_n set s (by omega) (by omega), @ix_6 t s ht hs2, Int.toNat_natCast, ht2, @vi_shl32n (set.testBit s).toNat (tuF t s) (by omega) (by omega), @vi_or32n (tsF set t s) ((set.testBit s).toNat <<< tuF t s) (by omega) (by omega), vi_inc]
      exact ih
  have := loop 0 (by omega)
  rw [tsF, show ((0 : Nat) : Int) = 0 from rfl] at this
  clear loop hQ
  simp (disch := omega) only [Option.toList_some, Option.toList_none, List.nil_append, List.cons_append, List.append_nil, true_and, and_true, not_true_eq_false, not_false_eq_true, true_implies, false_implies, implies_true, and_self, Int.reduceLT, Int.reduceLE, Int.reduceEq, Int.reduceNe, Int.reduceAdd, Int.reduceSub, Int.reduceMul, Int.reduceNeg, Int.reduceToNat, Int.toNat_natCast, ↓kk_ck, ↓kk_im, ↓kk_in, e_331, s_331_0]
  exact this
end
