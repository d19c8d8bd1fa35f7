/-! Contracts of the reference, twenty-fourth part: bits counted. -/
def mOs (x : Nat) : Nat → Nat
  | 0 => 0
  | j + 1 => mOs x j + mBt x j
theorem mOs_r {x : Nat} : ∀ j : Nat, mOs x j ≤ j
  | 0 => Nat.le_refl _
  | j + 1 => by
    have a := mOs_r (x := x) j
    have b := mBt_r (x := x) (d := j)
    rw [mOs]
    omega
theorem mBt_e' {x d : Nat} (hx : x < 2147483648) (hd : d < 32) : vi_and32 (vi_shr32 (x : Int) (d : Int)) 1 = ((mBt x d : Nat) : Int) := by
  have h : x >>> d < 2147483648 := Nat.lt_of_le_of_lt (Nat.shiftRight_le _ _) hx
  rw [vi_shr32n hd, show (1 : Int) = ((1 : Nat) : Int) from rfl, vi_and32n h]
  rfl
section
variable {D : Nat} {K : Option vi_V → vi_W → Prop} {nn : Nat × Nat}
theorem k_237 {x : Nat} (hx : x < 2147483648) {w : vi_W} (hD : 1 ≤ D) : vi_call GG D 237 [.inl (x : Int)] w K ↔ K (some (.inl ((mOs x 8 : Nat) : Int))) w := by
  obtain ⟨D, rfl⟩ : ∃ k, D = k + 1 := ⟨D - 1, by omega⟩
  obtain ⟨Y, M, nn⟩ := w
  refine vi_k (r := some (.inl _)) fun Q hQ => ?_
  have loop : ∀ j : Nat, j ≤ 8 → vi_ok GG D 237 4 [some (.inl (x : Int)), some (.inl ((mOs x j : Nat) : Int)), some (.inl (j : Int))] [] (Y, M, nn) Q := by
    refine vi_dn 8 ?_ fun j hj ih => ?_
    · rw [s_237_4]
      simp (disch := omega) only [Option.toList_some, Option.toList_none, List.nil_append, List.cons_append, List.append_nil, true_and, and_true, not_true_eq_false, not_false_eq_true, true_implies, false_implies, implies_true, and_self, Int.reduceLT, Int.reduceLE, Int.reduceEq, Int.reduceNe, Int.reduceAdd, Int.reduceSub, Int.reduceMul, Int.reduceNeg, Int.reduceToNat, Int.toNat_natCast, ↓kk_ck, ↓kk_im, ↓kk_in, s_237_24]
      exact hQ
    · have a := mOs_r (x := x) j
      have b := mBt_r (x := x) (d := j)
      have e : ((mOs x j : Nat) : Int) + ((mBt x j : Nat) : Int) = ((mOs x (j + 1) : Nat) : Int) := by rw [mOs]; omega
      clear hQ
      rw [s_237_4]
      simp (disch := omega) only [Option.toList_some, Option.toList_none, List.nil_append, List.cons_append, List.append_nil, true_and, and_true, not_true_eq_false, not_false_eq_true, true_implies, false_implies, implies_true, and_self, Int.reduceLT, Int.reduceLE, Int.reduceEq, Int.reduceNe, Int.reduceAdd, Int.reduceSub, Int.reduceMul, Int.reduceNeg, Int.reduceToNat, Int.toNat_natCast, ↓kk_ck, ↓kk_im, ↓kk_in, s_237_10, @mBt_e' x j hx (by omega), e, vi_inc, @vi_32 ((mOs x (j + 1) : Nat) : Int) (by omega) (by omega)]
      exact ih
  have := loop 0 (by omega)
  clear loop hQ
  simp (disch := omega) only [Option.toList_some, Option.toList_none, List.nil_append, List.cons_append, List.append_nil, true_and, and_true, not_true_eq_false, not_false_eq_true, true_implies, false_implies, implies_true, and_self, Int.reduceLT, Int.reduceLE, Int.reduceEq, Int.reduceNe, Int.reduceAdd, Int.reduceSub, Int.reduceMul, Int.reduceNeg, Int.reduceToNat, Int.toNat_natCast, ↓kk_ck, ↓kk_im, ↓kk_in, e_237, s_237_0]
  exact this
end
