/-! Contracts of Picks, fifth part: HOLES by COUNTS, what is due from behind. -/
/-- what a y lacks to its count, t being a sum of sets of y -/
def fL (f : Nat → Int) (t y : Nat) : Int := f (6 + y) - ((t >>> (2 * y) &&& 3 : Nat) : Int)
def fBad (f : Nat → Int) (t y : Nat) : Bool := decide (fL f t y < 0) || decide (3 < fL f t y)
def fDu (f : Nat → Int) (t : Nat) : Nat → Nat
  | 0 => 0
  | k + 1 => fDu f t k ||| (((fL f t k).toNat % 4) <<< (2 * k))
theorem fDu_lt {f : Nat → Int} {t : Nat} (k : Nat) : fDu f t k < 2 ^ (2 * k) := by
  induction k with
  | zero => exact Nat.one_pos
  | succ k ih =>
    have h1 : ((fL f t k).toNat % 4) <<< (2 * k) < 2 ^ (2 * (k + 1)) := by
      have : (fL f t k).toNat % 4 < 4 := Nat.mod_lt _ (by omega)
      rw [Nat.shiftLeft_eq, show 2 * (k + 1) = 2 + 2 * k by omega, Nat.pow_add]
      exact Nat.mul_lt_mul_of_pos_right this (Nat.pow_pos (by omega))
    have h2 : 2 ^ (2 * k) ≤ 2 ^ (2 * (k + 1)) := Nat.pow_le_pow_right (by omega) (by omega)
    exact Nat.or_lt_two_pow (by omega) h1
/-- what the later x have to bring to a sum -/
def fDue (f : Nat → Int) (t y : Nat) : Int := if sOr y (fBad f t) then -1 else (fDu f t y : Int)
section
variable {d : Nat} {K : Option vi_V → vi_W → Prop} {Y : vi_Y} {M : vi_M} {n : Nat × Nat}
theorem k_118 (hY : kY Y 151) (hb : gB (M 30 8) (M 30 9) (M 30 10)) (hc : ∀ j, j < 12 → -1000 ≤ M 38 j ∧ M 38 j ≤ 1000) {t : Nat} (ht : t < 4096) : vi_call GG (d + 2) 118 [.inr (.inr 107), .inl (t : Int)] (Y, M, n) K ↔ K (some (.inl (fDue (M 38) t (M 30 9).toNat))) (Y, M, n) := by
  obtain ⟨a1, a2, a3, a4, a5⟩ := y_107 hY (by omega)
  have b1 := (y_30 hY (by omega)).1
  have hh := kH_30 hY (by omega)
  obtain ⟨bx, by', bz⟩ := hb
  generalize ex : M 30 8 = x at *
  generalize ey : M 30 9 = y at *
  obtain ⟨y', rfl⟩ : ∃ y' : Nat, y = y' := ⟨y.toNat, by omega⟩
  have z1 : ∀ z : Int, gSz x y' z 1 = y' := fun z => by unfold gSz; rw [if_neg (by omega), if_pos rfl]
  have k59 := fun {K : Option vi_V → vi_W → Prop} {q : Nat} (hq : q < 6) => @k_59 d 30 K Y M n hh 1 (q : Int) (by omega) (by omega)
  have e38 : (30 : Nat) + 8 = 38 := rfl
  have e6 : ∀ q : Nat, ((6 : Int) * 1 + (q : Int)).toNat = 6 + q := fun q => by omega
  simp only [e38, e6] at k59
  refine vi_k (r := some (.inl _)) fun Q hQ => ?_
  rw [Int.toNat_natCast] at hQ
  have loop : ∀ k : Nat, k ≤ y' → sOr k (fBad (M 38) t) = false → ∀ o4, vi_ok GG (d + 1) 118 4 [some (.inr (.inr 107)), some (.inl (t : Int)), some (.inl (fDu (M 38) t k : Int)), some (.inl (k : Int)), o4] [] (Y, M, n) Q := by
    refine vi_dn y' ?_ fun k hk ih => ?_
    · intro h o4
      rw [fDue, h] at hQ
      rw [s_118_4]
      simp (disch := omega) only [Option.toList_some, Option.toList_none, List.nil_append, List.cons_append, List.append_nil, true_and, and_true, not_true_eq_false, not_false_eq_true, true_implies, false_implies, implies_true, and_self, Int.reduceLT, Int.reduceLE, Int.reduceEq, Int.reduceNe, Int.reduceAdd, Int.reduceSub, Int.reduceMul, Int.reduceNeg, Int.reduceToNat, Int.toNat_natCast, ↓kk_ck, ↓kk_im, ↓kk_in, s_118_0, s_118_16, s_118_22, s_118_46, s_118_52, s_118_54, s_118_69, s_118_9, s_118_26, s_118_13, s_118_31, s_118_43, a1, a2, b1, k_43 b1, ex, ey, z1]
      exact hQ
    · intro h o4
      rw [sOr, h, Bool.false_or] at ih
      have hk6 : k < 6 := by omega
      have z2 : (2 : Int) * (k : Int) = ((2 * k : Nat) : Int) := by omega
      have hs : t >>> (2 * k) ≤ t := Nat.shiftRight_le _ _
      have E12 : Unit → vi_and32 (vi_shr32 (t : Int) ((2 * k : Nat) : Int)) 3 = ((t >>> (2 * k) &&& 3 : Nat) : Int) := fun _ => by
        rw [vi_shr32n (by omega)]
        exact vi_and32n (x := t >>> (2 * k)) (y := 3) (by omega)
      have hand : t >>> (2 * k) &&& 3 ≤ 3 := Nat.and_le_right
      have kc := fun {K : Option vi_V → vi_W → Prop} => @k59 K k hk6
      have hcc := hc (6 + k) (by omega)
      have hfl : M 38 (6 + k) - ((t >>> (2 * k) &&& 3 : Nat) : Int) = fL (M 38) t k := rfl
      have hq : fL (M 38) t k < 0 ∨ 3 < fL (M 38) t k → Q (some (.inl (-1))) (Y, M, n) := fun g => by
        have : sOr y' (fBad (M 38) t) = true := sOr_iff.mpr ⟨k, hk, by
          unfold fBad
          rw [Bool.or_eq_true, decide_eq_true_iff, decide_eq_true_iff]
          exact g⟩
        rw [fDue, this] at hQ
        exact hQ
      have hn : ¬ fL (M 38) t k < 0 → ¬ 3 < fL (M 38) t k → fBad (M 38) t k = false := fun g g' => by
        unfold fBad
        rw [decide_eq_false g, decide_eq_false g']
        rfl
      have hdu := fDu_lt (f := M 38) (t := t) k
      have h2 : 2 ^ (2 * k) ≤ 2 ^ 10 := Nat.pow_le_pow_right (by omega) (by omega)
      have E3 : ∀ l : Nat, l < 4 → vi_or32 (fDu (M 38) t k : Int) (vi_shl32 (l : Int) ((2 * k : Nat) : Int)) = ((fDu (M 38) t k ||| (l % 4) <<< (2 * k) : Nat) : Int) := fun l hl => by
        have h3 : l <<< (2 * k) < 4096 := by
          rw [Nat.shiftLeft_eq]
          have : l * 2 ^ (2 * k) ≤ 3 * 2 ^ 10 := Nat.mul_le_mul (by omega) h2
          omega
        rw [vi_shl32n (by omega) (by omega), vi_or32n (by omega) (by omega), Nat.mod_eq_of_lt hl]
      rw [fDu] at ih
      clear hQ hs k59 h
      generalize fDu (M 38) t k = u at *
      generalize fL (M 38) t k = l at *
      generalize t >>> (2 * k) &&& 3 = v at *
      generalize M 38 (6 + k) = m at *
      have hE3 : Unit → 0 ≤ l → l ≤ 3 → vi_or32 (u : Int) (vi_shl32 l ((2 * k : Nat) : Int)) = ((u ||| (l.toNat % 4) <<< (2 * k) : Nat) : Int) := fun _ g g' => by
        have := E3 l.toNat (by omega)
        rw [Int.toNat_of_nonneg g] at this
        exact this
      have hE3' := hE3 ()
      clear E3 hE3
      rw [s_118_4]
      by_cases c1 : l < 0
      · have hq' := hq (.inl c1)
        clear ih hq hn hE3'
        simp (disch := omega) only [Option.toList_some, Option.toList_none, List.nil_append, List.cons_append, List.append_nil, true_and, and_true, not_true_eq_false, not_false_eq_true, true_implies, false_implies, implies_true, and_self, Int.reduceLT, Int.reduceLE, Int.reduceEq, Int.reduceNe, Int.reduceAdd, Int.reduceSub, Int.reduceMul, Int.reduceNeg, Int.reduceToNat, Int.toNat_natCast, ↓kk_ck, ↓kk_im, ↓kk_in, s_118_0, s_118_16, s_118_22, s_118_46, s_118_52, s_118_54, s_118_69, s_118_9, s_118_26, s_118_13, s_118_31, s_118_43, a1, a2, b1, k_43 b1, ex, ey, z1, kc, z2, vi_32, E12 (), hfl]
        exact hq'
      · by_cases c2 : 3 < l
        · have hq' := hq (.inr c2)
          clear ih hq hn hE3'
          simp (disch := omega) only [Option.toList_some, Option.toList_none, List.nil_append, List.cons_append, List.append_nil, true_and, and_true, not_true_eq_false, not_false_eq_true, true_implies, false_implies, implies_true, and_self, Int.reduceLT, Int.reduceLE, Int.reduceEq, Int.reduceNe, Int.reduceAdd, Int.reduceSub, Int.reduceMul, Int.reduceNeg, Int.reduceToNat, Int.toNat_natCast, ↓kk_ck, ↓kk_im, ↓kk_in, s_118_0, s_118_16, s_118_22, s_118_46, s_118_52, s_118_54, s_118_69, s_118_9, s_118_26, s_118_13, s_118_31, s_118_43, a1, a2, b1, k_43 b1, ex, ey, z1, kc, z2, vi_32, E12 (), hfl]
          exact hq'
        · have := ih (hn c1 c2) (some (.inl l))
          have h3 := hE3' (by omega) (by omega)
          rw [← h3] at this
          clear ih hq hn hE3' h3
          simp (disch := omega) only [Option.toList_some, Option.toList_none, List.nil_append, List.cons_append, List.append_nil, true_and, and_true, not_true_eq_false, not_false_eq_true, true_implies, false_implies, implies_true, and_self, Int.reduceLT, Int.reduceLE, Int.reduceEq, Int.reduceNe, Int.reduceAdd, Int.reduceSub, Int.reduceMul, Int.reduceNeg, Int.reduceToNat, Int.toNat_natCast, ↓kk_ck, ↓kk_im, ↓kk_in, s_118_0, s_118_16, s_118_22, s_118_46, s_118_52, s_118_54, s_118_69, s_118_9, s_118_26, s_118_13, s_118_31, s_118_43, a1, a2, b1, k_43 b1, ex, ey, z1, kc, z2, vi_32, E12 (), hfl]
          exact this
  have := loop 0 (by omega) rfl none
  rw [e_118, s_118_0]
  exact this
end
