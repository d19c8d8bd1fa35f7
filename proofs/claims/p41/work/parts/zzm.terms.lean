/-! Pairs: terms, judge. -/
section
variable {sc : Nat → Int} {ln t a n d : Nat} {CS : Nat → List gCla} {lw : Option (List gCla)} {Y : vi_Y} {M : vi_M} {nn : Nat × Nat} {K : Option vi_V → vi_W → Prop}
/-- the first row that isn't so -/
def jgN (f : Nat → Int) (S : Nat → Bool) (L : List (Nat → Int)) : Nat → Nat → Int
  | 0, _ => -1
  | k + 1, i => if (rwN f S (rL L i 0) (rL L i 1) (rL L i 2) : Int) = rL L i 3 then jgN f S L k (i + 1) else (i : Int)
theorem k_206 (hY : kY Y 112) (h9 : kY9 Y) {f : Nat → Int} (hs : rSz f (M 30)) (hV : jV M f lw n) {L : List (Nat → Int)} (hr : rOK (M 33) (M 34) L) (hl : L.length ≤ 8) : vi_call GG (d + 70) 206 [.inr (.inr 29)] (Y, M, nn) K ↔ K (some (.inl (jgN f (lfS f lw n) L L.length 0))) (Y, M, nn) := by
  obtain ⟨a1, a2, a3, a4, a5, a6, a7, a8, a9, a10, a11, a12⟩ := y_29 h9
  obtain ⟨b1, b2, b3, b4, -⟩ := y_30 hY (by omega)
  obtain ⟨c1, c2, c3, c4, c5, c6, c7, c8, c9⟩ := y_60 hY (by omega)
  have kr := kR_33 hY (by omega)
  have hr0 : M 33 2 = (L.length : Int) := hr.1
  have hb : gB (M 30 8) (M 30 9) (M 30 10) := by rw [hs.1, hs.2.1, hs.2.2.1]; exact hs.2.2.2.2.1
  have k149 := fun {K : Option vi_V → vi_W → Prop} => @k_149 (d + 68) 33 K (Y, M, nn) kr.1
  simp only [Nat.add_assoc, Nat.reduceAdd] at k149
  rw [hr0] at k149
  have k33 : ∀ (b u v : Int) (K : Option vi_V → vi_W → Prop), vi_call GG (d + 69) 33 [.inr (.inr 60), .inl b, .inl u, .inl v] (Y, M, nn) K ↔ K (some (.inl (rwN f (lfS f lw n) b u v : Int))) (Y, M, nn) := fun b u v K => by
    have := @k_33 (d + 66) K Y M nn _ (kY_le hY (show 73 ≤ 112 by omega)) hb hV.2.2.2.1 b u v
    rw [hs.1, hs.2.1, hs.2.2.1] at this
    exact this
  have k151 : ∀ (i j : Nat), i < L.length → j < 6 → ∀ K : Option vi_V → vi_W → Prop, vi_call GG (d + 69) 151 [.inr (.inr 33), .inl (i : Int), .inl (j : Int)] (Y, M, nn) K ↔ K (some (.inl (rL L i j))) (Y, M, nn) := fun i j hi hj K => by
    have := @k_151 (d + 68) 33 8 K Y M nn L kr hr hl (i : Int) j hj
    rw [show rNum L (i : Int) j = rL L i j from by unfold rNum; rw [if_pos (by omega), Int.toNat_natCast]] at this
    exact this
  refine vi_k (r := some (.inl _)) fun Q hQ => ?_
  have loop : ∀ k i : Nat, i + k = L.length → ∀ l3 l4, Q (some (.inl (jgN f (lfS f lw n) L k i))) (Y, M, nn) → vi_ok GG (d + 69) 206 10 [some (.inr (.inr 29)), some (.inr (.inr 33)), some (.inl (i : Int)), l3, l4] [] (Y, M, nn) Q := by
    intro k
    induction k with
    | zero =>
      intro i hi l3 l4 hq
      rw [jgN] at hq
      rw [s_206_10]
      clear hs hV hb hQ
      simp (disch := omega) only [Option.toList_some, Option.toList_none, List.nil_append, List.cons_append, List.append_nil, true_and, and_true, not_true_eq_false, not_false_eq_true, true_implies, false_implies, implies_true, and_self, Int.reduceLT, Int.reduceLE, Int.reduceEq, Int.reduceNe, Int.reduceAdd, Int.reduceSub, Int.reduceMul, Int.reduceNeg, Int.reduceToNat, Int.toNat_natCast, ↓kk_ck, ↓kk_im, ↓kk_in, s_206_0, s_206_18, s_206_58, s_206_60, s_206_66, s_206_4, s_206_15, s_206_24, s_206_7, s_206_29, s_206_36, s_206_42, s_206_45, s_206_55, kr.1, k149, ne_eq]
      exact hq
    | succ k ih =>
      intro i hi l3 l4 hq
      have hil : i < L.length := by omega
      have q0 : ∀ K : Option vi_V → vi_W → Prop, vi_call GG (d + 69) 151 [.inr (.inr 33), .inl (i : Int), .inl 0] (Y, M, nn) K ↔ K (some (.inl (rL L i 0))) (Y, M, nn) := k151 i 0 hil (by omega)
      have q1 : ∀ K : Option vi_V → vi_W → Prop, vi_call GG (d + 69) 151 [.inr (.inr 33), .inl (i : Int), .inl 1] (Y, M, nn) K ↔ K (some (.inl (rL L i 1))) (Y, M, nn) := k151 i 1 hil (by omega)
      have q2 : ∀ K : Option vi_V → vi_W → Prop, vi_call GG (d + 69) 151 [.inr (.inr 33), .inl (i : Int), .inl 2] (Y, M, nn) K ↔ K (some (.inl (rL L i 2))) (Y, M, nn) := k151 i 2 hil (by omega)
      have q3 : ∀ K : Option vi_V → vi_W → Prop, vi_call GG (d + 69) 151 [.inr (.inr 33), .inl (i : Int), .inl 3] (Y, M, nn) K ↔ K (some (.inl (rL L i 3))) (Y, M, nn) := k151 i 3 hil (by omega)
      rw [jgN] at hq
      rw [s_206_10]
      by_cases he : (rwN f (lfS f lw n) (rL L i 0) (rL L i 1) (rL L i 2) : Int) = rL L i 3
      · rw [if_pos he] at hq
        have := ih (i + 1) (by omega) (some (.inl (rL L i 0))) (some (.inl (rwN f (lfS f lw n) (rL L i 0) (rL L i 1) (rL L i 2) : Int))) hq
        clear hs hV hb hQ ih k151
        simp (disch := omega) only [Option.toList_some, Option.toList_none, List.nil_append, List.cons_append, List.append_nil, true_and, and_true, not_true_eq_false, not_false_eq_true, true_implies, false_implies, implies_true, and_self, Int.reduceLT, Int.reduceLE, Int.reduceEq, Int.reduceNe, Int.reduceAdd, Int.reduceSub, Int.reduceMul, Int.reduceNeg, Int.reduceToNat, Int.toNat_natCast, ↓kk_ck, ↓kk_im, ↓kk_in, s_206_0, s_206_18, s_206_58, s_206_60, s_206_66, s_206_4, s_206_15, s_206_24, s_206_7, s_206_29, s_206_36, s_206_42, s_206_45, s_206_55, a1, a5, kr.1, c1, k149, q0, q1, q2, q3, k33, he, ne_eq, vi_inc]
        rw [he] at this
        exact this
      · rw [if_neg he] at hq
        clear hs hV hb hQ ih k151
        simp (disch := omega) only [Option.toList_some, Option.toList_none, List.nil_append, List.cons_append, List.append_nil, true_and, and_true, not_true_eq_false, not_false_eq_true, true_implies, false_implies, implies_true, and_self, Int.reduceLT, Int.reduceLE, Int.reduceEq, Int.reduceNe, Int.reduceAdd, Int.reduceSub, Int.reduceMul, Int.reduceNeg, Int.reduceToNat, Int.toNat_natCast, ↓kk_ck, ↓kk_im, ↓kk_in, s_206_0, s_206_18, s_206_58, s_206_60, s_206_66, s_206_4, s_206_15, s_206_24, s_206_7, s_206_29, s_206_36, s_206_42, s_206_45, s_206_55, a1, a5, kr.1, c1, k149, q0, q1, q2, q3, k33, he, ne_eq, vi_inc]
        exact hq
  have := loop L.length 0 (by omega) none none hQ
  clear loop hs hV hb hQ k151 k33
  simp (disch := omega) only [Option.toList_some, Option.toList_none, List.nil_append, List.cons_append, List.append_nil, true_and, and_true, not_true_eq_false, not_false_eq_true, true_implies, false_implies, implies_true, and_self, Int.reduceLT, Int.reduceLE, Int.reduceEq, Int.reduceNe, Int.reduceAdd, Int.reduceSub, Int.reduceMul, Int.reduceNeg, Int.reduceToNat, Int.toNat_natCast, ↓kk_ck, ↓kk_im, ↓kk_in, e_206, s_206_0, s_206_4, s_206_7, a1, a2, b1, b3]
  exact this
end
