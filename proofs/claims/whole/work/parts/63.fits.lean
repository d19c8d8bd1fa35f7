/-! Contracts of Picks, third part: HOLES by COUNTS. -/
/-- six bits, each on two bits' room -/
def fSp (set : Nat) : Nat := (set.testBit 0).toNat + 4 * (set.testBit 1).toNat + 16 * (set.testBit 2).toNat + 64 * (set.testBit 3).toNat + 256 * (set.testBit 4).toNat + 1024 * (set.testBit 5).toNat
def fSpk (set : Nat) : Nat → Nat
  | 0 => 0
  | k + 1 => fSpk set k ||| ((set.testBit k).toNat <<< (2 * k))
theorem fSpk_6 : ∀ set, set < 64 → fSpk set 6 = fSp set := by decide +kernel
theorem fSpk_lt : ∀ set, set < 64 → ∀ k, k < 7 → fSpk set k < 4096 := by decide +kernel
theorem fSp_lt : ∀ set, set < 64 → fSp set ≤ 1365 := by decide +kernel
theorem o_spk : ∀ set, set < 64 → ∀ k, k < 6 → vi_or32 ((fSpk set k : Nat) : Int) (vi_shl32 (((set.testBit k).toNat : Nat) : Int) ((2 * k : Nat) : Int)) = ((fSpk set (k + 1) : Nat) : Int) := by decide +kernel
section
variable {d : Nat} {K : Option vi_V → vi_W → Prop} {Y : vi_Y} {M : vi_M} {n : Nat × Nat}
theorem k_117 {w : vi_W} {s : Nat} (hs : s < 64) : vi_call GG (d + 1) 117 [.inl (s : Int)] w K ↔ K (some (.inl (fSp s : Int))) w := by
  obtain ⟨Y, M, n⟩ := w
  refine vi_k (r := some (.inl _)) fun Q hQ => ?_
  have loop : ∀ k : Nat, k ≤ 6 → vi_ok GG d 117 4 [some (.inl (s : Int)), some (.inl (fSpk s k : Int)), some (.inl (k : Int))] [] (Y, M, n) Q := by
    refine vi_dn 6 ?_ fun k hk ih => ?_
    · rw [fSpk_6 s hs, s_117_4]
      simp (disch := omega) only [Option.toList_some, Option.toList_none, List.nil_append, List.cons_append, List.append_nil, true_and, and_true, not_true_eq_false, not_false_eq_true, true_implies, false_implies, implies_true, and_self, Int.reduceLT, Int.reduceLE, Int.reduceEq, Int.reduceNe, Int.reduceAdd, Int.reduceSub, Int.reduceMul, Int.reduceNeg, Int.reduceToNat, Int.toNat_natCast, ↓kk_ck, ↓kk_im, ↓kk_in, s_117_0, s_117_10, s_117_28]
      exact hQ
    · have z2 : (2 : Int) * (k : Int) = ((2 * k : Nat) : Int) := by omega
      rw [s_117_4]
      simp (disch := omega) only [Option.toList_some, Option.toList_none, List.nil_append, List.cons_append, List.append_nil, true_and, and_true, not_true_eq_false, not_false_eq_true, true_implies, false_implies, implies_true, and_self, Int.reduceLT, Int.reduceLE, Int.reduceEq, Int.reduceNe, Int.reduceAdd, Int.reduceSub, Int.reduceMul, Int.reduceNeg, Int.reduceToNat, Int.toNat_natCast, ↓kk_ck, ↓kk_im, ↓kk_in, s_117_0, s_117_10, s_117_28, o_tb (x := s) (i := k) (by omega) (by omega), vi_32, z2, o_spk s hs k hk, vi_inc]
      exact ih
  rw [e_117, s_117_0]
  exact loop 0 (by omega)
theorem k_116 {w : vi_W} {a b c : Nat} (ha : a < 64) (hb : b < 64) (hc : c < 64) : vi_call GG (d + 2) 116 [.inl (a : Int), .inl (b : Int), .inl (c : Int)] w K ↔ K (some (.inl ((fSp a + fSp b + fSp c : Nat) : Int))) w := by
  obtain ⟨Y, M, n⟩ := w
  have h1 := fSp_lt a ha
  have h2 := fSp_lt b hb
  have h3 := fSp_lt c hc
  have k1 := fun {K : Option vi_V → vi_W → Prop} {w : vi_W} => @k_117 d K w a ha
  have k2 := fun {K : Option vi_V → vi_W → Prop} {w : vi_W} => @k_117 d K w b hb
  have k3 := fun {K : Option vi_V → vi_W → Prop} {w : vi_W} => @k_117 d K w c hc
  refine vi_k (r := some (.inl _)) fun Q hQ => ?_
  generalize fSp a = u at *
  generalize fSp b = v at *
  generalize fSp c = t at *
  simp (disch := omega) only [Option.toList_some, Option.toList_none, List.nil_append, List.cons_append, List.append_nil, true_and, and_true, not_true_eq_false, not_false_eq_true, true_implies, false_implies, implies_true, and_self, Int.reduceLT, Int.reduceLE, Int.reduceEq, Int.reduceNe, Int.reduceAdd, Int.reduceSub, Int.reduceMul, Int.reduceNeg, Int.reduceToNat, Int.toNat_natCast, ↓kk_ck, ↓kk_im, ↓kk_in, e_116, s_116_0, s_116_4, s_116_8, s_116_13, k1, k2, k3, vi_32]
  exact vi_qI hQ (by omega) rfl
/-- whether a set of y can be the one of an x -/
def fSet (x y : Int) (f : Nat → Int) (q : Int) (set : Nat) : Bool := if x ≤ q then decide (set = 0) else decide ((set : Int) < 2 ^ y.toNat) && decide ((bC set : Int) = f q.toNat)
theorem k_115 (hY : kY Y 151) (hb : gB (M 30 8) (M 30 9) (M 30 10)) {q : Nat} (hq : q < 6) {set : Nat} (hs : set < 64) : vi_call GG (d + 2) 115 [.inr (.inr 107), .inl (q : Int), .inl (set : Int)] (Y, M, n) K ↔ K (some (.inl (vi_b (fSet (M 30 8) (M 30 9) (M 38) (q : Int) set)))) (Y, M, n) := by
  obtain ⟨a1, a2, a3, a4, a5⟩ := y_107 hY (by omega)
  have b1 := (y_30 hY (by omega)).1
  have hh := kH_30 hY (by omega)
  obtain ⟨bx, by', bz⟩ := hb
  generalize ex : M 30 8 = x at *
  generalize ey : M 30 9 = y at *
  obtain ⟨y', rfl⟩ : ∃ y' : Nat, y = y' := ⟨y.toNat, by omega⟩
  have z0 : ∀ z : Int, gSz x y' z 0 = x := fun z => if_pos rfl
  have z1 : ∀ z : Int, gSz x y' z 1 = y' := fun z => by unfold gSz; rw [if_neg (by omega), if_pos rfl]
  have k356 := fun {K : Option vi_V → vi_W → Prop} {w : vi_W} => @k_356 d K w set (by omega)
  have hbC : sN 16 (fun i => set.testBit i) = bC set := rfl
  simp only [hbC] at k356
  have k59 := fun {K : Option vi_V → vi_W → Prop} => @k_59 d 30 K Y M n hh 0 (q : Int) (by omega) (by omega)
  have e38 : (30 : Nat) + 8 = 38 := rfl
  have e6 : ((6 : Int) * 0 + (q : Int)).toNat = q := by omega
  rw [e38, e6] at k59
  refine vi_k (r := some (.inl _)) fun Q hQ => ?_
  unfold fSet at hQ
  have hshr : set >>> y' = 0 ↔ (set : Int) < 2 ^ y' := by
    rw [Nat.shiftRight_eq_div_pow, Nat.div_eq_zero_iff_lt (Nat.pow_pos (by omega))]
    norm_cast
  clear hbC
  generalize bC set = u at *
  by_cases c1 : x ≤ (q : Int)
  · rw [if_pos c1] at hQ
    by_cases c2 : set = 0
    · rw [vi_bp c2] at hQ
      simp (disch := omega) only [Option.toList_some, Option.toList_none, List.nil_append, List.cons_append, List.append_nil, true_and, and_true, not_true_eq_false, not_false_eq_true, true_implies, false_implies, implies_true, and_self, Int.reduceLT, Int.reduceLE, Int.reduceEq, Int.reduceNe, Int.reduceAdd, Int.reduceSub, Int.reduceMul, Int.reduceNeg, Int.reduceToNat, Int.toNat_natCast, ↓kk_ck, ↓kk_im, ↓kk_in, e_115, s_115_0, s_115_12, s_115_16, s_115_20, s_115_21, s_115_22, s_115_35, s_115_51, s_115_55, s_115_56, s_115_5, s_115_27, s_115_39, s_115_9, s_115_31, s_115_43, s_115_32, s_115_48, a1, a2, b1, k_43 b1, ex, ey, z0, z1, ne_eq]
      exact hQ
    · rw [vi_bn c2] at hQ
      simp (disch := omega) only [Option.toList_some, Option.toList_none, List.nil_append, List.cons_append, List.append_nil, true_and, and_true, not_true_eq_false, not_false_eq_true, true_implies, false_implies, implies_true, and_self, Int.reduceLT, Int.reduceLE, Int.reduceEq, Int.reduceNe, Int.reduceAdd, Int.reduceSub, Int.reduceMul, Int.reduceNeg, Int.reduceToNat, Int.toNat_natCast, ↓kk_ck, ↓kk_im, ↓kk_in, e_115, s_115_0, s_115_12, s_115_16, s_115_20, s_115_21, s_115_22, s_115_35, s_115_51, s_115_55, s_115_56, s_115_5, s_115_27, s_115_39, s_115_9, s_115_31, s_115_43, s_115_32, s_115_48, a1, a2, b1, k_43 b1, ex, ey, z0, z1, ne_eq]
      exact hQ
  · rw [if_neg c1, Int.toNat_natCast, Int.toNat_natCast] at hQ
    by_cases c2 : (set : Int) < 2 ^ y'
    · have hz : ((set >>> y' : Nat) : Int) = 0 := by rw [hshr.mpr c2]; rfl
      rw [decide_eq_true c2, Bool.true_and] at hQ
      clear hshr c2
      by_cases c3 : (u : Int) = M 38 q
      · rw [vi_bp c3] at hQ
        simp (disch := omega) only [Option.toList_some, Option.toList_none, List.nil_append, List.cons_append, List.append_nil, true_and, and_true, not_true_eq_false, not_false_eq_true, true_implies, false_implies, implies_true, and_self, Int.reduceLT, Int.reduceLE, Int.reduceEq, Int.reduceNe, Int.reduceAdd, Int.reduceSub, Int.reduceMul, Int.reduceNeg, Int.reduceToNat, Int.toNat_natCast, ↓kk_ck, ↓kk_im, ↓kk_in, e_115, s_115_0, s_115_12, s_115_16, s_115_20, s_115_21, s_115_22, s_115_35, s_115_51, s_115_55, s_115_56, s_115_5, s_115_27, s_115_39, s_115_9, s_115_31, s_115_43, s_115_32, s_115_48, a1, a2, b1, k_43 b1, ex, ey, z0, z1, ne_eq, vi_shr32n (x := set) (n := y') (by omega), hz, k356, k59, c3]
        exact hQ
      · rw [vi_bn c3] at hQ
        simp (disch := omega) only [Option.toList_some, Option.toList_none, List.nil_append, List.cons_append, List.append_nil, true_and, and_true, not_true_eq_false, not_false_eq_true, true_implies, false_implies, implies_true, and_self, Int.reduceLT, Int.reduceLE, Int.reduceEq, Int.reduceNe, Int.reduceAdd, Int.reduceSub, Int.reduceMul, Int.reduceNeg, Int.reduceToNat, Int.toNat_natCast, ↓kk_ck, ↓kk_im, ↓kk_in, e_115, s_115_0, s_115_12, s_115_16, s_115_20, s_115_21, s_115_22, s_115_35, s_115_51, s_115_55, s_115_56, s_115_5, s_115_27, s_115_39, s_115_9, s_115_31, s_115_43, s_115_32, s_115_48, a1, a2, b1, k_43 b1, ex, ey, z0, z1, ne_eq, vi_shr32n (x := set) (n := y') (by omega), hz, k356, k59, c3]
        exact hQ
    · have hz : ¬ ((set >>> y' : Nat) : Int) = 0 := fun k => c2 (hshr.mp (by exact_mod_cast k))
      rw [decide_eq_false c2, Bool.false_and] at hQ
      clear hshr c2
      simp (disch := omega) only [Option.toList_some, Option.toList_none, List.nil_append, List.cons_append, List.append_nil, true_and, and_true, not_true_eq_false, not_false_eq_true, true_implies, false_implies, implies_true, and_self, Int.reduceLT, Int.reduceLE, Int.reduceEq, Int.reduceNe, Int.reduceAdd, Int.reduceSub, Int.reduceMul, Int.reduceNeg, Int.reduceToNat, Int.toNat_natCast, ↓kk_ck, ↓kk_im, ↓kk_in, e_115, s_115_0, s_115_12, s_115_16, s_115_20, s_115_21, s_115_22, s_115_35, s_115_51, s_115_55, s_115_56, s_115_5, s_115_27, s_115_39, s_115_9, s_115_31, s_115_43, s_115_32, s_115_48, a1, a2, b1, k_43 b1, ex, ey, z0, z1, ne_eq, vi_shr32n (x := set) (n := y') (by omega), hz]
      exact hQ
end
