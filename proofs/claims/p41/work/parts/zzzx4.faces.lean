/-! The property of its own: sides of CELLS. -/
def mmS (f : Nat → Int) (S : Nat → Bool) : vi_M := fun q => if q = 126 then fun c => vi_b (S c) else f
theorem mmS_b {f : Nat → Int} {S : Nat → Bool} {c : Int} {s : Nat} : mBe (mmS f S) c s = mBe (rowM f) c s := rfl
theorem mOu_b {M : vi_M} {c : Int} : ∀ k : Nat, 0 ≤ mOu M c k ∧ mOu M c k ≤ (k : Int) := by
  intro k
  induction k with
  | zero => exact ⟨Int.le_refl _, Int.le_refl _⟩
  | succ k ih =>
    rw [mOu]
    split
    · omega
    · split <;> omega
theorem mInn_b {M : vi_M} {c : Int} : ∀ k : Nat, 0 ≤ mInn M c k ∧ mInn M c k ≤ (k : Int) := by
  intro k
  induction k with
  | zero => exact ⟨Int.le_refl _, Int.le_refl _⟩
  | succ k ih =>
    rw [mInn]
    split
    · omega
    · split <;> omega
theorem mLa_b {M : vi_M} : ∀ k : Nat, (0 ≤ (mLa M k).2.1 ∧ (mLa M k).2.1 ≤ 6 * (k : Int)) ∧ (0 ≤ (mLa M k).2.2 ∧ (mLa M k).2.2 ≤ (k : Int)) := by
  intro k
  induction k with
  | zero => exact ⟨⟨Int.le_refl _, Int.le_refl _⟩, ⟨Int.le_refl _, Int.le_refl _⟩⟩
  | succ k ih =>
    rw [mLa]
    have h := @mOu_b M (k : Int) 6
    split
    · omega
    · dsimp only
      have : (if mInn M (k : Int) 6 = 6 then (1 : Int) else 0) = 1 ∨ (if mInn M (k : Int) 6 = 6 then (1 : Int) else 0) = 0 := by split <;> simp
      omega
theorem mLa_s {f : Nat → Int} {S : Nat → Bool} {k : Nat} : mLa (mmS f S) (k + 1) = if S k = true then ((mLa (mmS f S) k).1 + f k, (mLa (mmS f S) k).2.1 + mOu (mmS f S) (k : Int) 6, (mLa (mmS f S) k).2.2 + (if mInn (mmS f S) (k : Int) 6 = 6 then 1 else 0)) else mLa (mmS f S) k := by
  rw [mLa]
  show (if vi_b (S k) = 0 then _ else _) = _
  cases S k
  · rw [if_pos (show vi_b false = 0 from rfl), if_neg (by decide)]
  · rw [if_neg (show ¬ vi_b true = 0 by decide), if_pos rfl]
    rfl
theorem lf_2 {f : Nat → Int} {S : Nat → Bool} (hB : bxF f) (hS : ∀ c, S c = true → bxS f c = true) : (mLa (mmS f S) 216).2.1 = (sSd S (sDif (bxS f) S) : Int) := by
  have hT : ∀ c, 216 ≤ c → sDif (bxS f) S c = false := fun c hc => by unfold sDif; rw [bxS_o hc]; rfl
  rw [mLa_2 (M := mmS f S) (S := S) hB (fun c _ => rfl) hS (sDif (bxS f) S) rfl 216 (Nat.le_refl _), sSd_d hT]
theorem lf_3 {f : Nat → Int} {S : Nat → Bool} (hB : bxF f) (hS : ∀ c, S c = true → bxS f c = true) : (mLa (mmS f S) 216).2.2 = (sN 216 (sInn S) : Int) := mLa_3 (M := mmS f S) (S := S) hB (fun c _ => rfl) hS 216 (Nat.le_refl _)
section
variable {d ln : Nat} {Y : vi_Y} {M : vi_M} {nn : Nat × Nat} {v : Int} {f : Nat → Int} {S O : Nat → Bool} {g : Nat → Int} {Q : Option vi_V → vi_W → Prop}
theorem lw_364 (hY : lwY Y ln) (hr : rBx M 112 f) (hB : bxF f) (h125 : ∀ j, j < 216 → M 125 j = vi_b (S j)) {a6 a7 a8 a9 : Int} (ha8 : 0 ≤ a8 ∧ a8 ≤ 2000) {c : Nat} (hc : c < 216) (hs : S c = true) (hcb : bxS f c = true) (hSb : ∀ c, S c = true → bxS f c = true)
    (hQ : ∀ l13 l14 l15 l16 l17 l18 l19 l20 l21 l22 l23 l24 l25, vi_ok GG (d + 72) 0 441 [some (.inr (.inr 1)), some (.inr (.inr 29)), some (.inr (.inr 112)), some (.inl v), some (.inr (.inr 125)), some (.inr (.inr 126)), some (.inl a6), some (.inl a7), some (.inl (a8 + mOu (mmS f S) (c : Int) 6)), some (.inl a9), some (.inl (c : Int)), some (.inl (mInn (mmS f S) (c : Int) 6)), some (.inl ((6 : Nat) : Int)), l13, l14, l15, l16, l17, l18, l19, l20, l21, l22, l23, l24, l25] [] (Y, M, nn) Q) :
    ∀ k : Nat, k ≤ 6 → ∀ l13 l14 l15 l16 l17 l18 l19 l20 l21 l22 l23 l24 l25, vi_ok GG (d + 72) 0 364 [some (.inr (.inr 1)), some (.inr (.inr 29)), some (.inr (.inr 112)), some (.inl v), some (.inr (.inr 125)), some (.inr (.inr 126)), some (.inl a6), some (.inl a7), some (.inl (a8 + mOu (mmS f S) (c : Int) k)), some (.inl a9), some (.inl (c : Int)), some (.inl (mInn (mmS f S) (c : Int) k)), some (.inl (k : Int)), l13, l14, l15, l16, l17, l18, l19, l20, l21, l22, l23, l24, l25] [] (Y, M, nn) Q := by
  obtain ⟨⟨y1, y2⟩, -, ⟨t1, t2⟩, ⟨i1, i2⟩, ⟨o1, o2⟩⟩ := hY
  have ec : M 125 c = 1 := by rw [h125 c hc, hs]; rfl
  refine vi_dn 6 ?_ ?_
  · intro l13 l14 l15 l16 l17 l18 l19 l20 l21 l22 l23 l24 l25
    have := hQ l13 l14 l15 l16 l17 l18 l19 l20 l21 l22 l23 l24 l25
    rw [s_0_364]
    clear hQ hr hB h125
    simp (disch := omega) only [Option.toList_some, Option.toList_none, List.nil_append, List.cons_append, List.append_nil, true_and, and_true, not_true_eq_false, not_false_eq_true, true_implies, false_implies, implies_true, and_self, Int.reduceLT, Int.reduceLE, Int.reduceEq, Int.reduceNe, Int.reduceAdd, Int.reduceSub, Int.reduceMul, Int.reduceNeg, Int.reduceToNat, Int.toNat_natCast, ↓kk_ck, ↓kk_im, ↓kk_in]
    exact this
  · intro k hk ih l13 l14 l15 l16 l17 l18 l19 l20 l21 l22 l23 l24 l25
    have k240 := fun {K : Option vi_V → vi_W → Prop} => @lk_240 (d + 71) K Y M nn 112 f t1 t2 hr hB c k hc hk hcb
    simp only [Nat.add_assoc, Nat.reduceAdd] at k240
    have bo := @mOu_b (mmS f S) (c : Int) k
    have bi := @mInn_b (mmS f S) (c : Int) k
    rw [s_0_364]
    by_cases hm : mBe (rowM f) (c : Int) k = -1
    · have q := ih (some (.inl (-1))) l14 l15 l16 l17 l18 l19 l20 l21 l22 l23 l24 l25
      rw [mOu, mInn, mmS_b, hm, if_pos rfl, if_pos rfl, Int.add_zero, Int.add_zero] at q
      rw [hm] at k240
      generalize mOu (mmS f S) (c : Int) k = A at *
      generalize mInn (mmS f S) (c : Int) k = B at *
      clear hQ hr hB h125 ih hm
      simp (disch := omega) only [Option.toList_some, Option.toList_none, List.nil_append, List.cons_append, List.append_nil, true_and, and_true, not_true_eq_false, not_false_eq_true, true_implies, false_implies, implies_true, and_self, Int.reduceLT, Int.reduceLE, Int.reduceEq, Int.reduceNe, Int.reduceAdd, Int.reduceSub, Int.reduceMul, Int.reduceNeg, Int.reduceToNat, Int.toNat_natCast, ↓kk_ck, ↓kk_im, ↓kk_in, s_0_371, s_0_376, s_0_379, s_0_387, s_0_408, s_0_409, s_0_431, s_0_432, i1, i2, ec, k240, Int.add_zero, @vi_32 (a8 + A) (by omega) (by omega), @vi_32 B (by omega) (by omega), vi_inc]
      exact q
    · obtain ⟨b, eb, hb, hbx, hA⟩ := bs_A hB hcb hk hm
      have q := ih (some (.inl (b : Int))) l14 l15 l16 l17 l18 l19 l20 l21 l22 l23 l24 l25
      have hn : ¬ (b : Int) = -1 := by omega
      rw [mOu, mInn, mmS_b, eb, if_neg hn, if_neg hn, Int.toNat_natCast] at q
      have q : vi_ok GG (d + 72) 0 364 [some (.inr (.inr 1)), some (.inr (.inr 29)), some (.inr (.inr 112)), some (.inl v), some (.inr (.inr 125)), some (.inr (.inr 126)), some (.inl a6), some (.inl a7), some (.inl (a8 + (mOu (mmS f S) (c : Int) k + (if vi_b (S b) = 0 then 1 else 0)))), some (.inl a9), some (.inl (c : Int)), some (.inl (mInn (mmS f S) (c : Int) k + (if vi_b (S b) = 0 then 0 else 1))), some (.inl ((k + 1 : Nat) : Int)), some (.inl (b : Int)), l14, l15, l16, l17, l18, l19, l20, l21, l22, l23, l24, l25] [] (Y, M, nn) Q := q
      rw [eb] at k240
      have eb' := h125 b hb
      generalize mOu (mmS f S) (c : Int) k = A at *
      generalize mInn (mmS f S) (c : Int) k = B at *
      clear hQ hr hB h125 ih hm hA hbx eb
      cases hsb : S b
      · rw [hsb] at q eb'
        rw [if_pos (show vi_b false = 0 from rfl), if_pos (show vi_b false = 0 from rfl), Int.add_zero] at q
        simp (disch := omega) only [Option.toList_some, Option.toList_none, List.nil_append, List.cons_append, List.append_nil, true_and, and_true, not_true_eq_false, not_false_eq_true, true_implies, false_implies, implies_true, and_self, Int.reduceLT, Int.reduceLE, Int.reduceEq, Int.reduceNe, Int.reduceAdd, Int.reduceSub, Int.reduceMul, Int.reduceNeg, Int.reduceToNat, Int.toNat_natCast, ↓kk_ck, ↓kk_im, ↓kk_in, s_0_371, s_0_376, s_0_379, s_0_387, s_0_396, s_0_401, s_0_404, s_0_409, s_0_419, s_0_424, s_0_431, s_0_432, i1, i2, ec, eb', vi_bf, k240, Int.add_zero, @vi_32 (a8 + A + 1) (by omega) (by omega), @vi_32 B (by omega) (by omega), vi_inc, ne_eq]
        rw [Int.add_assoc]
        exact q
      · rw [hsb] at q eb'
        rw [if_neg (show ¬ vi_b true = 0 by decide), if_neg (show ¬ vi_b true = 0 by decide), Int.add_zero] at q
        simp (disch := omega) only [Option.toList_some, Option.toList_none, List.nil_append, List.cons_append, List.append_nil, true_and, and_true, not_true_eq_false, not_false_eq_true, true_implies, false_implies, implies_true, and_self, Int.reduceLT, Int.reduceLE, Int.reduceEq, Int.reduceNe, Int.reduceAdd, Int.reduceSub, Int.reduceMul, Int.reduceNeg, Int.reduceToNat, Int.toNat_natCast, ↓kk_ck, ↓kk_im, ↓kk_in, s_0_371, s_0_376, s_0_379, s_0_387, s_0_396, s_0_401, s_0_408, s_0_409, s_0_419, s_0_424, s_0_427, s_0_432, i1, i2, ec, eb', vi_bt, k240, Int.add_zero, @vi_32 (a8 + A) (by omega) (by omega), @vi_32 (B + 1) (by omega) (by omega), vi_inc, ne_eq]
        exact q
theorem lw_350 (hY : lwY Y ln) (hr : rBx M 112 f) (hB : bxF f) (h125 : ∀ j, j < 216 → M 125 j = vi_b (S j)) (hSb : ∀ c, S c = true → bxS f c = true) {a6 a7 : Int}
    (hQ : ∀ l11 l12 l13 l14 l15 l16 l17 l18 l19 l20 l21 l22 l23 l24 l25, vi_ok GG (d + 72) 0 464 [some (.inr (.inr 1)), some (.inr (.inr 29)), some (.inr (.inr 112)), some (.inl v), some (.inr (.inr 125)), some (.inr (.inr 126)), some (.inl a6), some (.inl a7), some (.inl ((mLa (mmS f S) 216).2.1)), some (.inl ((mLa (mmS f S) 216).2.2)), some (.inl ((216 : Nat) : Int)), l11, l12, l13, l14, l15, l16, l17, l18, l19, l20, l21, l22, l23, l24, l25] [] (Y, M, nn) Q) :
    ∀ c : Nat, c ≤ 216 → ∀ l11 l12 l13 l14 l15 l16 l17 l18 l19 l20 l21 l22 l23 l24 l25, vi_ok GG (d + 72) 0 350 [some (.inr (.inr 1)), some (.inr (.inr 29)), some (.inr (.inr 112)), some (.inl v), some (.inr (.inr 125)), some (.inr (.inr 126)), some (.inl a6), some (.inl a7), some (.inl ((mLa (mmS f S) c).2.1)), some (.inl ((mLa (mmS f S) c).2.2)), some (.inl (c : Int)), l11, l12, l13, l14, l15, l16, l17, l18, l19, l20, l21, l22, l23, l24, l25] [] (Y, M, nn) Q := by
  have hY' := hY
  obtain ⟨⟨y1, y2⟩, -, ⟨t1, t2⟩, ⟨i1, i2⟩, ⟨o1, o2⟩⟩ := hY'
  refine vi_dn 216 ?_ ?_
  · intro l11 l12 l13 l14 l15 l16 l17 l18 l19 l20 l21 l22 l23 l24 l25
    have := hQ l11 l12 l13 l14 l15 l16 l17 l18 l19 l20 l21 l22 l23 l24 l25
    rw [s_0_350]
    clear hQ hr hB h125 hSb
    simp (disch := omega) only [Option.toList_some, Option.toList_none, List.nil_append, List.cons_append, List.append_nil, true_and, and_true, not_true_eq_false, not_false_eq_true, true_implies, false_implies, implies_true, and_self, Int.reduceLT, Int.reduceLE, Int.reduceEq, Int.reduceNe, Int.reduceAdd, Int.reduceSub, Int.reduceMul, Int.reduceNeg, Int.reduceToNat, Int.toNat_natCast, ↓kk_ck, ↓kk_im, ↓kk_in]
    exact this
  · intro c hc ih l11 l12 l13 l14 l15 l16 l17 l18 l19 l20 l21 l22 l23 l24 l25
    have bb := @mLa_b (mmS f S) c
    rw [s_0_350]
    cases hs : S c
    · have q := ih (some (.inl 0)) (some (.inl 0)) l13 l14 l15 l16 l17 l18 l19 l20 l21 l22 l23 l24 l25
      rw [mLa_s, hs, if_neg (by decide)] at q
      have ec : M 125 c = 0 := by rw [h125 c hc, hs]; rfl
      generalize (mLa (mmS f S) c).2.1 = A at *
      generalize (mLa (mmS f S) c).2.2 = B at *
      clear hQ hr hB h125 ih hSb
      simp (disch := omega) only [Option.toList_some, Option.toList_none, List.nil_append, List.cons_append, List.append_nil, true_and, and_true, not_true_eq_false, not_false_eq_true, true_implies, false_implies, implies_true, and_self, Int.reduceLT, Int.reduceLE, Int.reduceEq, Int.reduceNe, Int.reduceAdd, Int.reduceSub, Int.reduceMul, Int.reduceNeg, Int.reduceToNat, Int.toNat_natCast, ↓kk_ck, ↓kk_im, ↓kk_in, s_0_358, s_0_364, s_0_371, s_0_376, s_0_441, s_0_454, s_0_455, i1, i2, ec, Int.add_zero, @vi_32 B (by omega) (by omega), vi_inc, ne_eq]
      exact q
    · have hcb := hSb c hs
      have st := @lw_364 d ln Y M nn v f S Q hY hr hB h125 a6 a7 (mLa (mmS f S) c).2.1 (mLa (mmS f S) c).2.2 (by omega) c hc hs hcb hSb (fun l13 l14 l15 l16 l17 l18 l19 l20 l21 l22 l23 l24 l25 => by
        have q := ih (some (.inl (mInn (mmS f S) (c : Int) 6))) (some (.inl ((6 : Nat) : Int))) l13 l14 l15 l16 l17 l18 l19 l20 l21 l22 l23 l24 l25
        rw [mLa_s, hs, if_pos rfl] at q
        have q : vi_ok GG (d + 72) 0 350 [some (.inr (.inr 1)), some (.inr (.inr 29)), some (.inr (.inr 112)), some (.inl v), some (.inr (.inr 125)), some (.inr (.inr 126)), some (.inl a6), some (.inl a7), some (.inl ((mLa (mmS f S) c).2.1 + mOu (mmS f S) (c : Int) 6)), some (.inl ((mLa (mmS f S) c).2.2 + (if mInn (mmS f S) (c : Int) 6 = 6 then 1 else 0))), some (.inl ((c + 1 : Nat) : Int)), some (.inl (mInn (mmS f S) (c : Int) 6)), some (.inl ((6 : Nat) : Int)), l13, l14, l15, l16, l17, l18, l19, l20, l21, l22, l23, l24, l25] [] (Y, M, nn) Q := q
        generalize (mLa (mmS f S) c).2.1 = A at *
        generalize (mLa (mmS f S) c).2.2 = B at *
        generalize mOu (mmS f S) (c : Int) 6 = C at *
        generalize mInn (mmS f S) (c : Int) 6 = D at *
        clear hQ hr hB h125 ih hSb
        by_cases e : D = 6
        · rw [if_pos e] at q
          simp (disch := omega) only [Option.toList_some, Option.toList_none, List.nil_append, List.cons_append, List.append_nil, true_and, and_true, not_true_eq_false, not_false_eq_true, true_implies, false_implies, implies_true, and_self, Int.reduceLT, Int.reduceLE, Int.reduceEq, Int.reduceNe, Int.reduceAdd, Int.reduceSub, Int.reduceMul, Int.reduceNeg, Int.reduceToNat, Int.toNat_natCast, ↓kk_ck, ↓kk_im, ↓kk_in, s_0_441, s_0_450, s_0_455, e, @vi_32 (B + 1) (by omega) (by omega), vi_inc, ne_eq]
          rw [e] at q
          exact q
        · rw [if_neg e, Int.add_zero] at q
          simp (disch := omega) only [Option.toList_some, Option.toList_none, List.nil_append, List.cons_append, List.append_nil, true_and, and_true, not_true_eq_false, not_false_eq_true, true_implies, false_implies, implies_true, and_self, Int.reduceLT, Int.reduceLE, Int.reduceEq, Int.reduceNe, Int.reduceAdd, Int.reduceSub, Int.reduceMul, Int.reduceNeg, Int.reduceToNat, Int.toNat_natCast, ↓kk_ck, ↓kk_im, ↓kk_in, s_0_441, s_0_454, s_0_455, e, Int.add_zero, @vi_32 B (by omega) (by omega), vi_inc, ne_eq]
          exact q) 0 (by omega) l13 l14 l15 l16 l17 l18 l19 l20 l21 l22 l23 l24 l25
      have st : vi_ok GG (d + 72) 0 364 [some (.inr (.inr 1)), some (.inr (.inr 29)), some (.inr (.inr 112)), some (.inl v), some (.inr (.inr 125)), some (.inr (.inr 126)), some (.inl a6), some (.inl a7), some (.inl ((mLa (mmS f S) c).2.1 + 0)), some (.inl ((mLa (mmS f S) c).2.2)), some (.inl (c : Int)), some (.inl 0), some (.inl 0), l13, l14, l15, l16, l17, l18, l19, l20, l21, l22, l23, l24, l25] [] (Y, M, nn) Q := st
      rw [Int.add_zero] at st
      generalize (mLa (mmS f S) c).2.1 = A at *
      generalize (mLa (mmS f S) c).2.2 = B at *
      clear hQ hr hB h125 ih hSb
      simp (disch := omega) only [Option.toList_some, Option.toList_none, List.nil_append, List.cons_append, List.append_nil, true_and, and_true, not_true_eq_false, not_false_eq_true, true_implies, false_implies, implies_true, and_self, Int.reduceLT, Int.reduceLE, Int.reduceEq, Int.reduceNe, Int.reduceAdd, Int.reduceSub, Int.reduceMul, Int.reduceNeg, Int.reduceToNat, Int.toNat_natCast, ↓kk_ck, ↓kk_im, ↓kk_in, s_0_358]
      exact st
end
section
variable {d ln : Nat} {Y : vi_Y} {nn : Nat × Nat} {v x y z t fl fo : Int} {L : List (Nat → Int)} {lw : Option (List gCla)} {g : Nat → Int} {S O : Nat → Bool} {Q : Option vi_V → vi_W → Prop}
/-- one query more: the rows of the law stay -/
def lwD (M : vi_M) (g : Nat → Int) (S O : Nat → Bool) : Prop := M 112 = g ∧ ∀ j, j < 216 → M 125 j = vi_b (S j) ∧ M 126 j = vi_b (O j)
theorem lwD_q {M M' : vi_M} (h : lwD M g S O) (hq : cQ M M') : lwD M' g S O := ⟨(hq.1 112 (by omega)).trans h.1, fun j hj => by rw [hq.1 125 (by omega), hq.1 126 (by omega)]; exact h.2 j hj⟩
theorem lw_464 (hY : lwY Y ln) {m w b i : Int} (e0 : lfV (fK x y z t L) lw L.length 0 = m) (e1 : lfV (fK x y z t L) lw L.length 1 = w) (e2 : lfV (fK x y z t L) lw L.length 2 = b) (e3 : lfV (fK x y z t L) lw L.length 3 = i) {M : vi_M} (hS : wS M x y z t L [] lw 1 fo) (hD : lwD M g S O) {a10 : Int} {l11 l12 l13 l14 l15 l16 l17 l18 l19 l20 l21 l22 l23 l24 l25 : Option vi_V}
    (hQ : ∀ M' : vi_M, wS M' x y z t L [] lw 1 fo → lwD M' g S O → vi_ok GG (d + 72) 0 515 [some (.inr (.inr 1)), some (.inr (.inr 29)), some (.inr (.inr 112)), some (.inl v), some (.inr (.inr 125)), some (.inr (.inr 126)), some (.inl m), some (.inl w), some (.inl b), some (.inl i), some (.inl a10), l11, l12, l13, l14, l15, l16, l17, l18, l19, l20, l21, l22, l23, l24, l25] [] (Y, M', nn) Q) : vi_ok GG (d + 72) 0 464 [some (.inr (.inr 1)), some (.inr (.inr 29)), some (.inr (.inr 112)), some (.inl v), some (.inr (.inr 125)), some (.inr (.inr 126)), some (.inl m), some (.inl w), some (.inl b), some (.inl i), some (.inl a10), l11, l12, l13, l14, l15, l16, l17, l18, l19, l20, l21, l22, l23, l24, l25] [] (Y, M, nn) Q := by
  obtain ⟨⟨y1, y2⟩, -, -, -, -⟩ := hY
  have h29 := y2.1
  have one : ∀ (M : vi_M) (q : Int), wS M x y z t L [] lw 1 fo → lwD M g S O → ∃ M', wS M' x y z t L [] lw 1 fo ∧ lwD M' g S O ∧ ∀ K : Option vi_V → vi_W → Prop, vi_call GG (d + 72) 201 [.inr (.inr 29), .inl q] (Y, M, nn) K ↔ K (some (.inl (lfV (fK x y z t L) lw L.length q))) (Y, M', nn) := by
    intro M q hS hD
    obtain ⟨M', c1, c2, c3⟩ := @k_201 L.length (d + 2) lw Y M nn y1 y2 (fK x y z t L) hS.2 hS.1.2.2.2.2.1 q
    exact ⟨M', pS_q hS c1 c2, lwD_q hD c1, c3⟩
  obtain ⟨M1, p1, d1, k1⟩ := one M 0 hS hD
  obtain ⟨M2, p2, d2, k2⟩ := one M1 1 p1 d1
  obtain ⟨M3, p3, d3, k3⟩ := one M2 2 p2 d2
  obtain ⟨M4, p4, d4, k4⟩ := one M3 3 p3 d3
  obtain ⟨M5, p5, d5, k5⟩ := one M4 4 p4 d4
  have e4 : lfV (fK x y z t L) lw L.length 4 = -1 := by unfold lfV; rw [if_neg (by decide), if_neg (by decide), if_neg (by decide), if_neg (by decide)]
  rw [e0] at k1
  rw [e1] at k2
  rw [e2] at k3
  rw [e3] at k4
  rw [e4] at k5
  have q := hQ M5 p5 d5
  clear hQ one hS hD p1 p2 p3 p4 p5 d1 d2 d3 d4 d5 e0 e1 e2 e3 e4
  simp (disch := omega) only [Option.toList_some, Option.toList_none, List.nil_append, List.cons_append, List.append_nil, true_and, and_true, not_true_eq_false, not_false_eq_true, true_implies, false_implies, implies_true, and_self, Int.reduceLT, Int.reduceLE, Int.reduceEq, Int.reduceNe, Int.reduceAdd, Int.reduceSub, Int.reduceMul, Int.reduceNeg, Int.reduceToNat, Int.toNat_natCast, ↓kk_ck, ↓kk_im, ↓kk_in, s_0_464, s_0_469, s_0_474, s_0_479, s_0_484, s_0_489, s_0_494, s_0_499, s_0_504, s_0_509, h29, k1, k2, k3, k4, k5, ne_eq]
  exact q
end
