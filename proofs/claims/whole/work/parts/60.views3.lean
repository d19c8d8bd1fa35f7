/-! Contracts of Views, third part: the LEAST. -/
theorem jn_c {b b' : Nat → Int} {l : Nat} {o o' : Nat → Int} (hb : ∀ j, j < 512 → b j = b' j) (ho : ∀ j, j < 512 → o j = o' j) (hl : l < 512) : ∀ k, k ≤ 512 → ∀ j, j < 512 → jn b l o k j = jn b' l o' k j
  | 0, _, j, hj => ho j hj
  | k + 1, hk, j, hj => by
    have ih := jn_c hb ho hl k (by omega)
    have hor : k ||| l < 512 := Nat.or_lt_two_pow (n := 9) (by omega) hl
    rw [jn, jn]
    unfold vi_u
    rw [ih _ hor, hb k (by omega), ih j hj]
theorem gAl_c {ok : Nat → Bool} {b b' : Nat → Int} {o o' : Nat → Int} (hb : ∀ j, j < 512 → b j = b' j) : ∀ k, k ≤ 512 → ∀ j, j < 512 → gAl ok b o k j = gAl ok b' o' k j
  | 0, _, j, hj => by rw [gAl, gAl, vi_m_lt hj, vi_m_lt hj]
  | k + 1, hk, j, hj => by
    have ih := gAl_c (ok := ok) (o := o) (o' := o') hb k (by omega)
    rw [gAl, gAl]
    split
    · exact jn_c hb ih (by omega) 512 (Nat.le_refl _) j hj
    · exact ih j hj
theorem jn_b {b : Nat → Int} {l : Nat} {o : Nat → Int} (hb : ∀ j, j < 512 → 0 ≤ b j) (ho : ∀ j, j < 512 → 0 ≤ o j ∧ o j ≤ 1000) (hl : l < 512) : ∀ k, k ≤ 512 → ∀ j, j < 512 → 0 ≤ jn b l o k j ∧ jn b l o k j ≤ 1000
  | 0, _, j, hj => ho j hj
  | k + 1, hk, j, hj => by
    have ih := jn_b hb ho hl k (by omega)
    have hor : k ||| l < 512 := Nat.or_lt_two_pow (n := 9) (by omega) hl
    have h1 := ih _ hor
    have h2 := ih j hj
    have h3 := hb k (by omega)
    rw [jn]
    unfold vi_u
    split
    · omega
    · exact h2
theorem gAl_b {ok : Nat → Bool} {b : Nat → Int} {o : Nat → Int} (hb : ∀ j, j < 512 → 0 ≤ b j) : ∀ k, k ≤ 512 → ∀ j, j < 512 → 0 ≤ gAl ok b o k j ∧ gAl ok b o k j ≤ 1000
  | 0, _, j, hj => by rw [gAl, vi_m_lt hj]; omega
  | k + 1, hk, j, hj => by
    have ih := gAl_b (ok := ok) (o := o) hb k (by omega)
    rw [gAl]
    split
    · exact jn_b hb ih (by omega) 512 (Nat.le_refl _) j hj
    · exact ih j hj
/-- the fewest cells of the layers below z, by the sets of places along z that are dark -/
def gBz (x y : Int) (f : Nat → Int) (S : Nat → Bool) : Nat → Nat → Int
  | 0 => fun k => if k = 0 then 0 else 1000
  | z + 1 => gAl (fun l => gLm S l (z : Int) && gLd x y f l (z : Int)) (gBz x y f S z) (fun _ => 1000) 512
theorem gBz_b {x y : Int} {f : Nat → Int} {S : Nat → Bool} : ∀ (z j : Nat), j < 512 → 0 ≤ gBz x y f S z j ∧ gBz x y f S z j ≤ 1000
  | 0, j, hj => by rw [gBz]; dsimp only; split <;> omega
  | z + 1, j, hj => gAl_b (fun j hj => (gBz_b z j hj).1) 512 (Nat.le_refl _) j hj
def gDf (x y z : Int) (f : Nat → Int) (p : Nat) : Bool := gPl x y z 2 ((p % 3 : Nat) : Int) ((p / 3 : Nat) : Int) && gDi f 2 ((p % 3 : Nat) : Int) ((p / 3 : Nat) : Int)
def gLe (x y z : Int) (f : Nat → Int) : Int := if x ≤ 3 ∧ y ≤ 3 ∧ z ≤ 3 ∧ gCb x y z f = true then (if gBz x y f (gMs x y z f) z.toNat (bN 9 (gDf x y z f)) < 1000 then gBz x y f (gMs x y z f) z.toNat (bN 9 (gDf x y z f)) else -1) else -1
def vOr (f : Nat → Int) : Prop := ((f 4).toNat = 95 ∧ (f 5).toNat = 96) ∨ ((f 4).toNat = 96 ∧ (f 5).toNat = 95)
section
variable {d : Nat} {K : Option vi_V → vi_W → Prop} {Y : vi_Y} {M : vi_M} {n : Nat × Nat} {P B R T S : Nat → Bool}
theorem k_181 (hY : kY Y 151) (hb : gB (M 30 8) (M 30 9) (M 30 10)) (hB : M 90 = cR B) (ho : vOr (M 88)) : ∃ M', (∃ B, M' 90 = cR B) ∧ vOr (M' 88) ∧ (∀ p, p ≠ 88 → p ≠ 90 → p ≠ 95 → p ≠ 96 → M' p = M p) ∧ ∀ K : Option vi_V → vi_W → Prop, vi_call GG (d + 5) 181 [.inr (.inr 88)] (Y, M, n) K ↔ K (some (.inl (gLe (M 30 8) (M 30 9) (M 30 10) (M 37)))) (Y, M', n) := by
  obtain ⟨a1, a2, a3, a4, a5⟩ := y_88 hY (by omega)
  have b1 := (y_30 hY (by omega)).1
  have hh := kH_30 hY (by omega)
  have q95 := y_95 hY (by omega)
  have q96 := y_96 hY (by omega)
  have k180 := fun {K : Option vi_V → vi_W → Prop} => @k_180 d K Y M n B hY hb hB
  generalize ex : M 30 8 = x at *
  generalize ey : M 30 9 = y at *
  generalize ez : M 30 10 = z at *
  have hb' := hb
  obtain ⟨bx, by', bz⟩ := hb
  have z0 : gSz x y z 0 = x := if_pos rfl
  have z1 : gSz x y z 1 = y := by unfold gSz; rw [if_neg (by omega), if_pos rfl]
  have z2 : gSz x y z 2 = z := by unfold gSz; rw [if_neg (by omega), if_neg (by omega)]
  generalize hMs : gMs x y z (M 37) = S at *
  have main : ∀ Q : Option vi_V → vi_W → Prop, (∀ M', (∃ B, M' 90 = cR B) → vOr (M' 88) → (∀ p, p ≠ 88 → p ≠ 90 → p ≠ 95 → p ≠ 96 → M' p = M p) → Q (some (.inl (gLe x y z (M 37)))) (Y, M', n)) → vi_call GG (d + 5) 181 [.inr (.inr 88)] (Y, M, n) Q := by
    intro Q hQ
    by_cases c1 : 3 < x
    · have := hQ M ⟨_, hB⟩ ho (fun _ _ _ _ _ => rfl)
      rw [gLe, if_neg (fun k => by omega)] at this
      simp (disch := omega) only [Option.toList_some, Option.toList_none, List.nil_append, List.cons_append, List.append_nil, true_and, and_true, not_true_eq_false, not_false_eq_true, true_implies, false_implies, implies_true, and_self, Int.reduceLT, Int.reduceLE, Int.reduceEq, Int.reduceNe, Int.reduceAdd, Int.reduceSub, Int.reduceMul, Int.reduceNeg, Int.reduceToNat, Int.toNat_natCast, ↓kk_ck, ↓kk_im, ↓kk_in, e_181, s_181_0, s_181_12, s_181_24, s_181_36, s_181_43, s_181_45, s_181_56, s_181_65, s_181_69, s_181_72, s_181_79, s_181_93, s_181_104, s_181_114, s_181_137, s_181_151, s_181_157, s_181_163, s_181_167, s_181_176, s_181_185, s_181_188, s_181_196, s_181_200, s_181_201, s_181_4, s_181_16, s_181_28, s_181_40, s_181_52, s_181_60, s_181_73, s_181_86, s_181_98, s_181_127, s_181_141, s_181_172, s_181_180, s_181_8, s_181_20, s_181_32, s_181_53, s_181_90, s_181_134, s_181_148, s_181_173, s_181_182, a1, a2, b1, k_43 b1, ex, ey, ez, z0, z1, z2]
      exact this
    · by_cases c2 : 3 < y
      · have := hQ M ⟨_, hB⟩ ho (fun _ _ _ _ _ => rfl)
        rw [gLe, if_neg (fun k => by omega)] at this
        simp (disch := omega) only [Option.toList_some, Option.toList_none, List.nil_append, List.cons_append, List.append_nil, true_and, and_true, not_true_eq_false, not_false_eq_true, true_implies, false_implies, implies_true, and_self, Int.reduceLT, Int.reduceLE, Int.reduceEq, Int.reduceNe, Int.reduceAdd, Int.reduceSub, Int.reduceMul, Int.reduceNeg, Int.reduceToNat, Int.toNat_natCast, ↓kk_ck, ↓kk_im, ↓kk_in, e_181, s_181_0, s_181_12, s_181_24, s_181_36, s_181_43, s_181_45, s_181_56, s_181_65, s_181_69, s_181_72, s_181_79, s_181_93, s_181_104, s_181_114, s_181_137, s_181_151, s_181_157, s_181_163, s_181_167, s_181_176, s_181_185, s_181_188, s_181_196, s_181_200, s_181_201, s_181_4, s_181_16, s_181_28, s_181_40, s_181_52, s_181_60, s_181_73, s_181_86, s_181_98, s_181_127, s_181_141, s_181_172, s_181_180, s_181_8, s_181_20, s_181_32, s_181_53, s_181_90, s_181_134, s_181_148, s_181_173, s_181_182, a1, a2, b1, k_43 b1, ex, ey, ez, z0, z1, z2]
        exact this
      · by_cases c3 : 3 < z
        · have := hQ M ⟨_, hB⟩ ho (fun _ _ _ _ _ => rfl)
          rw [gLe, if_neg (fun k => by omega)] at this
          simp (disch := omega) only [Option.toList_some, Option.toList_none, List.nil_append, List.cons_append, List.append_nil, true_and, and_true, not_true_eq_false, not_false_eq_true, true_implies, false_implies, implies_true, and_self, Int.reduceLT, Int.reduceLE, Int.reduceEq, Int.reduceNe, Int.reduceAdd, Int.reduceSub, Int.reduceMul, Int.reduceNeg, Int.reduceToNat, Int.toNat_natCast, ↓kk_ck, ↓kk_im, ↓kk_in, e_181, s_181_0, s_181_12, s_181_24, s_181_36, s_181_43, s_181_45, s_181_56, s_181_65, s_181_69, s_181_72, s_181_79, s_181_93, s_181_104, s_181_114, s_181_137, s_181_151, s_181_157, s_181_163, s_181_167, s_181_176, s_181_185, s_181_188, s_181_196, s_181_200, s_181_201, s_181_4, s_181_16, s_181_28, s_181_40, s_181_52, s_181_60, s_181_73, s_181_86, s_181_98, s_181_127, s_181_141, s_181_172, s_181_180, s_181_8, s_181_20, s_181_32, s_181_53, s_181_90, s_181_134, s_181_148, s_181_173, s_181_182, a1, a2, b1, k_43 b1, ex, ey, ez, z0, z1, z2]
          exact this
        · cases c4 : gCb x y z (M 37)
          · have := hQ (vi_rs M 90 (cR S)) ⟨_, vi_rs_s⟩ (by simp (disch := omega) only [vi_rs_s, vi_rs_o]; exact ho) (fun p _ h _ _ => vi_rs_o h)
            rw [gLe, if_neg (fun k => by rw [c4] at k; cases k.2.2.2)] at this
            simp (disch := omega) only [Option.toList_some, Option.toList_none, List.nil_append, List.cons_append, List.append_nil, true_and, and_true, not_true_eq_false, not_false_eq_true, true_implies, false_implies, implies_true, and_self, Int.reduceLT, Int.reduceLE, Int.reduceEq, Int.reduceNe, Int.reduceAdd, Int.reduceSub, Int.reduceMul, Int.reduceNeg, Int.reduceToNat, Int.toNat_natCast, ↓kk_ck, ↓kk_im, ↓kk_in, e_181, s_181_0, s_181_12, s_181_24, s_181_36, s_181_43, s_181_45, s_181_56, s_181_65, s_181_69, s_181_72, s_181_79, s_181_93, s_181_104, s_181_114, s_181_137, s_181_151, s_181_157, s_181_163, s_181_167, s_181_176, s_181_185, s_181_188, s_181_196, s_181_200, s_181_201, s_181_4, s_181_16, s_181_28, s_181_40, s_181_52, s_181_60, s_181_73, s_181_86, s_181_98, s_181_127, s_181_141, s_181_172, s_181_180, s_181_8, s_181_20, s_181_32, s_181_53, s_181_90, s_181_134, s_181_148, s_181_173, s_181_182, a1, a2, b1, k_43 b1, ex, ey, ez, z0, z1, z2, k180, c4, vi_bf, ne_eq]
            exact this
          · have hle : gLe x y z (M 37) = if gBz x y (M 37) S z.toNat (bN 9 (gDf x y z (M 37))) < 1000 then gBz x y (M 37) S z.toNat (bN 9 (gDf x y z (M 37))) else -1 := by rw [gLe, if_pos ⟨by omega, by omega, by omega, c4⟩, hMs]
            rw [hle] at hQ
            have loop3 : ∀ p : Nat, p ≤ 9 → ∀ (M' : vi_M) (bp : Nat) (l2 : Option vi_V) (l3 l4 : Option vi_V), (bp = 95 ∨ bp = 96) → (M' 88 4).toNat = bp → vOr (M' 88) → M' 90 = cR S → (∀ p, p ≠ 88 → p ≠ 90 → p ≠ 95 → p ≠ 96 → M' p = M p) → (∀ k, k < 512 → M' bp k = gBz x y (M 37) S z.toNat k) → vi_ok GG (d + 4) 181 108 [some (.inr (.inr 88)), some (.inl (bN p (gDf x y z (M 37)) : Int)), some (.inl (p : Int)), l3, l4] [] (Y, M', n) Q := by
              refine vi_dn 9 ?_ fun p hp ih => ?_
              · intro M' bp l2 l3 l4 hbp h4 hv h90 hf hg
                have hlt := bN_lt 9 (gDf x y z (M 37))
                have hQ := hQ M' ⟨_, h90⟩ hv hf
                have hgd := hg (bN 9 (gDf x y z (M 37))) (by omega)
                have qb : Y.1 bp = 1 ∧ (Y.2.1 bp : Int) = 512 := by rcases hbp with rfl | rfl; exact q95; exact q96
                obtain ⟨qb1, qb2⟩ := qb
                clear hg hf hle
                generalize bN 9 (gDf x y z (M 37)) = due at *
                rw [s_181_108]
                by_cases hlt2 : gBz x y (M 37) S z.toNat due < 1000
                · rw [if_pos hlt2] at hQ
                  simp (disch := omega) only [Option.toList_some, Option.toList_none, List.nil_append, List.cons_append, List.append_nil, true_and, and_true, not_true_eq_false, not_false_eq_true, true_implies, false_implies, implies_true, and_self, Int.reduceLT, Int.reduceLE, Int.reduceEq, Int.reduceNe, Int.reduceAdd, Int.reduceSub, Int.reduceMul, Int.reduceNeg, Int.reduceToNat, Int.toNat_natCast, ↓kk_ck, ↓kk_im, ↓kk_in, s_181_0, s_181_12, s_181_24, s_181_36, s_181_43, s_181_45, s_181_56, s_181_65, s_181_69, s_181_72, s_181_79, s_181_93, s_181_104, s_181_114, s_181_137, s_181_151, s_181_157, s_181_163, s_181_167, s_181_176, s_181_185, s_181_188, s_181_196, s_181_200, s_181_201, s_181_4, s_181_16, s_181_28, s_181_40, s_181_52, s_181_60, s_181_73, s_181_86, s_181_98, s_181_127, s_181_141, s_181_172, s_181_180, s_181_8, s_181_20, s_181_32, s_181_53, s_181_90, s_181_134, s_181_148, s_181_173, s_181_182, a1, a2, h4, qb1, qb2, hgd]
                  exact hQ
                · rw [if_neg hlt2] at hQ
                  simp (disch := omega) only [Option.toList_some, Option.toList_none, List.nil_append, List.cons_append, List.append_nil, true_and, and_true, not_true_eq_false, not_false_eq_true, true_implies, false_implies, implies_true, and_self, Int.reduceLT, Int.reduceLE, Int.reduceEq, Int.reduceNe, Int.reduceAdd, Int.reduceSub, Int.reduceMul, Int.reduceNeg, Int.reduceToNat, Int.toNat_natCast, ↓kk_ck, ↓kk_im, ↓kk_in, s_181_0, s_181_12, s_181_24, s_181_36, s_181_43, s_181_45, s_181_56, s_181_65, s_181_69, s_181_72, s_181_79, s_181_93, s_181_104, s_181_114, s_181_137, s_181_151, s_181_157, s_181_163, s_181_167, s_181_176, s_181_185, s_181_188, s_181_196, s_181_200, s_181_201, s_181_4, s_181_16, s_181_28, s_181_40, s_181_52, s_181_60, s_181_73, s_181_86, s_181_98, s_181_127, s_181_141, s_181_172, s_181_180, s_181_8, s_181_20, s_181_32, s_181_53, s_181_90, s_181_134, s_181_148, s_181_173, s_181_182, a1, a2, h4, qb1, qb2, hgd]
                  exact hQ
              · intro M' bp l2 l3 l4 hbp h4 hv h90 hf hg
                have m30 : M' 30 = M 30 := hf 30 (by omega) (by omega) (by omega) (by omega)
                have m37 : M' 37 = M 37 := hf 37 (by omega) (by omega) (by omega) (by omega)
                have zz1 : (p : Int) % 3 = ((p % 3 : Nat) : Int) := by omega
                have zz2 : (p : Int) / 3 = ((p / 3 : Nat) : Int) := by omega
                have ih := ih M' bp l2 (some (.inl ((p % 3 : Nat) : Int))) (some (.inl ((p / 3 : Nat) : Int))) hbp h4 hv h90 hf hg
                have hlt := bN_lt p (gDf x y z (M 37))
                have hp2 : 2 ^ p ≤ 2 ^ 9 := Nat.pow_le_pow_right (by omega) (by omega)
                have hor := vi_or32n (x := bN p (gDf x y z (M 37))) (y := 1 <<< p) (by omega) (by rw [Nat.shiftLeft_eq]; omega)
                have hsh := vi_shl32n (x := 1) (n := p) (by omega) (by rw [Nat.shiftLeft_eq]; omega)
                have e1 : ((1 : Nat) : Int) = 1 := rfl
                rw [e1] at hsh
                rw [bN] at ih
                rw [s_181_108]
                clear hQ hg hf hle
                cases c5 : gPl x y z 2 ((p % 3 : Nat) : Int) ((p / 3 : Nat) : Int)
                · rw [show gDf x y z (M 37) p = false by unfold gDf; rw [c5]; rfl, Bool.toNat_false, Nat.zero_shiftLeft, Nat.or_zero] at ih
                  simp (disch := omega) only [Option.toList_some, Option.toList_none, List.nil_append, List.cons_append, List.append_nil, true_and, and_true, not_true_eq_false, not_false_eq_true, true_implies, false_implies, implies_true, and_self, Int.reduceLT, Int.reduceLE, Int.reduceEq, Int.reduceNe, Int.reduceAdd, Int.reduceSub, Int.reduceMul, Int.reduceNeg, Int.reduceToNat, Int.toNat_natCast, ↓kk_ck, ↓kk_im, ↓kk_in, s_181_0, s_181_12, s_181_24, s_181_36, s_181_43, s_181_45, s_181_56, s_181_65, s_181_69, s_181_72, s_181_79, s_181_93, s_181_104, s_181_114, s_181_137, s_181_151, s_181_157, s_181_163, s_181_167, s_181_176, s_181_185, s_181_188, s_181_196, s_181_200, s_181_201, s_181_4, s_181_16, s_181_28, s_181_40, s_181_52, s_181_60, s_181_73, s_181_86, s_181_98, s_181_127, s_181_141, s_181_172, s_181_180, s_181_8, s_181_20, s_181_32, s_181_53, s_181_90, s_181_134, s_181_148, s_181_173, s_181_182, a1, a2, b1, vi_tm, vi_td, zz1, zz2, vi_32, k_49 b1, m30, ex, ey, ez, c5, vi_bf, vi_inc]
                  exact ih
                · cases c6 : gDi (M 37) 2 ((p % 3 : Nat) : Int) ((p / 3 : Nat) : Int)
                  · rw [show gDf x y z (M 37) p = false by unfold gDf; rw [c5, c6]; rfl, Bool.toNat_false, Nat.zero_shiftLeft, Nat.or_zero] at ih
                    simp (disch := omega) only [Option.toList_some, Option.toList_none, List.nil_append, List.cons_append, List.append_nil, true_and, and_true, not_true_eq_false, not_false_eq_true, true_implies, false_implies, implies_true, and_self, Int.reduceLT, Int.reduceLE, Int.reduceEq, Int.reduceNe, Int.reduceAdd, Int.reduceSub, Int.reduceMul, Int.reduceNeg, Int.reduceToNat, Int.toNat_natCast, ↓kk_ck, ↓kk_im, ↓kk_in, s_181_0, s_181_12, s_181_24, s_181_36, s_181_43, s_181_45, s_181_56, s_181_65, s_181_69, s_181_72, s_181_79, s_181_93, s_181_104, s_181_114, s_181_137, s_181_151, s_181_157, s_181_163, s_181_167, s_181_176, s_181_185, s_181_188, s_181_196, s_181_200, s_181_201, s_181_4, s_181_16, s_181_28, s_181_40, s_181_52, s_181_60, s_181_73, s_181_86, s_181_98, s_181_127, s_181_141, s_181_172, s_181_180, s_181_8, s_181_20, s_181_32, s_181_53, s_181_90, s_181_134, s_181_148, s_181_173, s_181_182, a1, a2, b1, vi_tm, vi_td, zz1, zz2, vi_32, k_49 b1, m30, m37, ex, ey, ez, c5, c6, k_57i hh, vi_bf, vi_bt, vi_inc]
                    exact ih
                  · rw [show gDf x y z (M 37) p = true by unfold gDf; rw [c5, c6]; rfl, Bool.toNat_true] at ih
                    simp (disch := omega) only [Option.toList_some, Option.toList_none, List.nil_append, List.cons_append, List.append_nil, true_and, and_true, not_true_eq_false, not_false_eq_true, true_implies, false_implies, implies_true, and_self, Int.reduceLT, Int.reduceLE, Int.reduceEq, Int.reduceNe, Int.reduceAdd, Int.reduceSub, Int.reduceMul, Int.reduceNeg, Int.reduceToNat, Int.toNat_natCast, ↓kk_ck, ↓kk_im, ↓kk_in, s_181_0, s_181_12, s_181_24, s_181_36, s_181_43, s_181_45, s_181_56, s_181_65, s_181_69, s_181_72, s_181_79, s_181_93, s_181_104, s_181_114, s_181_137, s_181_151, s_181_157, s_181_163, s_181_167, s_181_176, s_181_185, s_181_188, s_181_196, s_181_200, s_181_201, s_181_4, s_181_16, s_181_28, s_181_40, s_181_52, s_181_60, s_181_73, s_181_86, s_181_98, s_181_127, s_181_141, s_181_172, s_181_180, s_181_8, s_181_20, s_181_32, s_181_53, s_181_90, s_181_134, s_181_148, s_181_173, s_181_182, a1, a2, b1, vi_tm, vi_td, zz1, zz2, vi_32, k_49 b1, m30, m37, ex, ey, ez, c5, c6, k_57i hh, vi_bf, vi_bt, vi_inc, hsh, hor]
                    exact ih
            have loop2 : ∀ k : Nat, k ≤ z.toNat → ∀ (M' : vi_M) (bp np : Nat), ((bp = 95 ∧ np = 96) ∨ (bp = 96 ∧ np = 95)) → (M' 88 4).toNat = bp → (M' 88 5).toNat = np → M' 90 = cR S → (∀ p, p ≠ 88 → p ≠ 90 → p ≠ 95 → p ≠ 96 → M' p = M p) → (∀ j, j < 512 → M' bp j = gBz x y (M 37) S k j) → vi_ok GG (d + 4) 181 81 [some (.inr (.inr 88)), some (.inl (k : Int)), none, none, none] [] (Y, M', n) Q := by
              refine vi_dn z.toNat ?_ fun k hk ih => ?_
              · intro M' bp np hbn h4 h5 h90 hf hg
                have m30 : M' 30 = M 30 := hf 30 (by omega) (by omega) (by omega) (by omega)
                have := loop3 0 (by omega) M' bp none none none (by omega) h4 (by unfold vOr; rw [h4, h5]; exact hbn) h90 hf hg
                clear hQ loop3
                rw [s_181_81]
                simp (disch := omega) only [Option.toList_some, Option.toList_none, List.nil_append, List.cons_append, List.append_nil, true_and, and_true, not_true_eq_false, not_false_eq_true, true_implies, false_implies, implies_true, and_self, Int.reduceLT, Int.reduceLE, Int.reduceEq, Int.reduceNe, Int.reduceAdd, Int.reduceSub, Int.reduceMul, Int.reduceNeg, Int.reduceToNat, Int.toNat_natCast, ↓kk_ck, ↓kk_im, ↓kk_in, s_181_0, s_181_12, s_181_24, s_181_36, s_181_43, s_181_45, s_181_56, s_181_65, s_181_69, s_181_72, s_181_79, s_181_93, s_181_104, s_181_114, s_181_137, s_181_151, s_181_157, s_181_163, s_181_167, s_181_176, s_181_185, s_181_188, s_181_196, s_181_200, s_181_201, s_181_4, s_181_16, s_181_28, s_181_40, s_181_52, s_181_60, s_181_73, s_181_86, s_181_98, s_181_127, s_181_141, s_181_172, s_181_180, s_181_8, s_181_20, s_181_32, s_181_53, s_181_90, s_181_134, s_181_148, s_181_173, s_181_182, a1, a2, b1, k_43 b1, m30, ex, ey, ez, z2]
                exact this
              · intro M' bp np hbn h4 h5 h90 hf hg
                have m30 : M' 30 = M 30 := hf 30 (by omega) (by omega) (by omega) (by omega)
                have m37 : M' 37 = M 37 := hf 37 (by omega) (by omega) (by omega) (by omega)
                have k182 := fun {K : Option vi_V → vi_W → Prop} => @k_182 d K Y M' n S hY bp np hbn h4 h5 (fun j hj => by rw [hg j hj]; have := gBz_b (x := x) (y := y) (f := M 37) (S := S) k j hj; omega) h90 (k : Int) (by omega)
                rw [m30, m37, ex, ey] at k182
                have ih := ih (vi_rs (vi_rs M' np (gAl (fun l => gLm S l (k : Int) && gLd x y (M 37) l (k : Int)) (M' bp) (M' np) 512)) 88 (vi_u (vi_u (M' 88) 4 (np : Int)) 5 (bp : Int))) np bp (by omega) (by rw [vi_rs_s, vi_u_o (by omega), vi_u_s, Int.toNat_natCast]) (by rw [vi_rs_s, vi_u_s, Int.toNat_natCast]) (by rw [vi_rs_o (by omega), vi_rs_o (by omega)]; exact h90) (fun p y1 y2 y3 y4 => by rw [vi_rs_o y1, vi_rs_o (by omega)]; exact hf p y1 y2 y3 y4) (fun j hj => by
                  rw [vi_rs_o (by omega), vi_rs_s, gBz]
                  exact gAl_c hg 512 (Nat.le_refl _) j hj)
                clear hQ loop3
                rw [s_181_81]
                simp (disch := omega) only [Option.toList_some, Option.toList_none, List.nil_append, List.cons_append, List.append_nil, true_and, and_true, not_true_eq_false, not_false_eq_true, true_implies, false_implies, implies_true, and_self, Int.reduceLT, Int.reduceLE, Int.reduceEq, Int.reduceNe, Int.reduceAdd, Int.reduceSub, Int.reduceMul, Int.reduceNeg, Int.reduceToNat, Int.toNat_natCast, ↓kk_ck, ↓kk_im, ↓kk_in, s_181_0, s_181_12, s_181_24, s_181_36, s_181_43, s_181_45, s_181_56, s_181_65, s_181_69, s_181_72, s_181_79, s_181_93, s_181_104, s_181_114, s_181_137, s_181_151, s_181_157, s_181_163, s_181_167, s_181_176, s_181_185, s_181_188, s_181_196, s_181_200, s_181_201, s_181_4, s_181_16, s_181_28, s_181_40, s_181_52, s_181_60, s_181_73, s_181_86, s_181_98, s_181_127, s_181_141, s_181_172, s_181_180, s_181_8, s_181_20, s_181_32, s_181_53, s_181_90, s_181_134, s_181_148, s_181_173, s_181_182, a1, a2, b1, k_43 b1, m30, ex, ey, ez, z2, k182, vi_inc]
                exact ih
            have fin : ∀ bp np : Nat, ((bp = 95 ∧ np = 96) ∨ (bp = 96 ∧ np = 95)) → (M 88 4).toNat = bp → (M 88 5).toNat = np → vi_call GG (d + 5) 181 [.inr (.inr 88)] (Y, M, n) Q := by
              intro bp np hbn h4 h5
              have qb : Y.1 bp = 1 ∧ (Y.2.1 bp : Int) = 512 := by rcases hbn with ⟨rfl, -⟩ | ⟨rfl, -⟩; exact q95; exact q96
              obtain ⟨qb1, qb2⟩ := qb
              have n88 : 88 ≠ bp := by omega
              have n88' : (88 : Nat) ≠ 90 := by omega
              have loop1 : ∀ k : Nat, k ≤ 512 → vi_ok GG (d + 4) 181 47 [some (.inr (.inr 88)), some (.inl (k : Int)), none, none, none] [] (Y, vi_rs (vi_rs M 90 (cR S)) bp (vi_m k (fun j => if j = 0 then 0 else 1000) (M bp)), n) Q := by
                refine vi_dn 512 ?_ fun k hk ih => ?_
                · have := loop2 0 (by omega) (vi_rs (vi_rs M 90 (cR S)) bp (vi_m 512 (fun j => if j = 0 then 0 else 1000) (M bp))) bp np hbn (by rw [vi_rs_o n88, vi_rs_o n88']; exact h4) (by rw [vi_rs_o n88, vi_rs_o n88']; exact h5) (by rw [vi_rs_o (by omega), vi_rs_s]) (fun p y1 y2 y3 y4 => by rw [vi_rs_o (by omega), vi_rs_o y2]) (fun j hj => by rw [vi_rs_s, vi_m_lt hj]; rfl)
                  clear hQ loop3 loop2
                  rw [s_181_47]
                  simp (disch := omega) only [Option.toList_some, Option.toList_none, List.nil_append, List.cons_append, List.append_nil, true_and, and_true, not_true_eq_false, not_false_eq_true, true_implies, false_implies, implies_true, and_self, Int.reduceLT, Int.reduceLE, Int.reduceEq, Int.reduceNe, Int.reduceAdd, Int.reduceSub, Int.reduceMul, Int.reduceNeg, Int.reduceToNat, Int.toNat_natCast, ↓kk_ck, ↓kk_im, ↓kk_in, s_181_0, s_181_12, s_181_24, s_181_36, s_181_43, s_181_45, s_181_56, s_181_65, s_181_69, s_181_72, s_181_79, s_181_93, s_181_104, s_181_114, s_181_137, s_181_151, s_181_157, s_181_163, s_181_167, s_181_176, s_181_185, s_181_188, s_181_196, s_181_200, s_181_201, s_181_4, s_181_16, s_181_28, s_181_40, s_181_52, s_181_60, s_181_73, s_181_86, s_181_98, s_181_127, s_181_141, s_181_172, s_181_180, s_181_8, s_181_20, s_181_32, s_181_53, s_181_90, s_181_134, s_181_148, s_181_173, s_181_182, a1, a2, vi_rs_o n88, vi_rs_o n88', h4, qb1, qb2]
                  exact this
                · clear hQ loop3 loop2
                  rw [s_181_47]
                  by_cases hk0 : k = 0
                  · subst hk0
                    rw [← vi_m_s (z := 0) (f := fun j => if j = 0 then 0 else 1000) (g := M bp) (v := 0) rfl] at ih
                    simp (disch := omega) only [Option.toList_some, Option.toList_none, List.nil_append, List.cons_append, List.append_nil, true_and, and_true, not_true_eq_false, not_false_eq_true, true_implies, false_implies, implies_true, and_self, Int.reduceLT, Int.reduceLE, Int.reduceEq, Int.reduceNe, Int.reduceAdd, Int.reduceSub, Int.reduceMul, Int.reduceNeg, Int.reduceToNat, Int.toNat_natCast, ↓kk_ck, ↓kk_im, ↓kk_in, s_181_0, s_181_12, s_181_24, s_181_36, s_181_43, s_181_45, s_181_56, s_181_65, s_181_69, s_181_72, s_181_79, s_181_93, s_181_104, s_181_114, s_181_137, s_181_151, s_181_157, s_181_163, s_181_167, s_181_176, s_181_185, s_181_188, s_181_196, s_181_200, s_181_201, s_181_4, s_181_16, s_181_28, s_181_40, s_181_52, s_181_60, s_181_73, s_181_86, s_181_98, s_181_127, s_181_141, s_181_172, s_181_180, s_181_8, s_181_20, s_181_32, s_181_53, s_181_90, s_181_134, s_181_148, s_181_173, s_181_182, a1, a2, vi_rs_o n88, vi_rs_o n88', h4, qb1, qb2, vi_ms_rs, vi_rs_s, vi_rs_rs, vi_inc, ne_eq]
                    exact ih
                  · rw [← vi_m_s (z := k) (f := fun j => if j = 0 then 0 else 1000) (g := M bp) (v := 1000) (by rw [if_neg hk0])] at ih
                    simp (disch := omega) only [Option.toList_some, Option.toList_none, List.nil_append, List.cons_append, List.append_nil, true_and, and_true, not_true_eq_false, not_false_eq_true, true_implies, false_implies, implies_true, and_self, Int.reduceLT, Int.reduceLE, Int.reduceEq, Int.reduceNe, Int.reduceAdd, Int.reduceSub, Int.reduceMul, Int.reduceNeg, Int.reduceToNat, Int.toNat_natCast, ↓kk_ck, ↓kk_im, ↓kk_in, s_181_0, s_181_12, s_181_24, s_181_36, s_181_43, s_181_45, s_181_56, s_181_65, s_181_69, s_181_72, s_181_79, s_181_93, s_181_104, s_181_114, s_181_137, s_181_151, s_181_157, s_181_163, s_181_167, s_181_176, s_181_185, s_181_188, s_181_196, s_181_200, s_181_201, s_181_4, s_181_16, s_181_28, s_181_40, s_181_52, s_181_60, s_181_73, s_181_86, s_181_98, s_181_127, s_181_141, s_181_172, s_181_180, s_181_8, s_181_20, s_181_32, s_181_53, s_181_90, s_181_134, s_181_148, s_181_173, s_181_182, a1, a2, vi_rs_o n88, vi_rs_o n88', h4, qb1, qb2, vi_ms_rs, vi_rs_s, vi_rs_rs, vi_inc, ne_eq]
                    exact ih
              have := loop1 0 (by omega)
              rw [vi_m_0, vi_rs_id (q := bp) (by rw [vi_rs_o (by omega)])] at this
              clear hQ loop3 loop2 loop1
              simp (disch := omega) only [Option.toList_some, Option.toList_none, List.nil_append, List.cons_append, List.append_nil, true_and, and_true, not_true_eq_false, not_false_eq_true, true_implies, false_implies, implies_true, and_self, Int.reduceLT, Int.reduceLE, Int.reduceEq, Int.reduceNe, Int.reduceAdd, Int.reduceSub, Int.reduceMul, Int.reduceNeg, Int.reduceToNat, Int.toNat_natCast, ↓kk_ck, ↓kk_im, ↓kk_in, e_181, s_181_0, s_181_12, s_181_24, s_181_36, s_181_43, s_181_45, s_181_56, s_181_65, s_181_69, s_181_72, s_181_79, s_181_93, s_181_104, s_181_114, s_181_137, s_181_151, s_181_157, s_181_163, s_181_167, s_181_176, s_181_185, s_181_188, s_181_196, s_181_200, s_181_201, s_181_4, s_181_16, s_181_28, s_181_40, s_181_52, s_181_60, s_181_73, s_181_86, s_181_98, s_181_127, s_181_141, s_181_172, s_181_180, s_181_8, s_181_20, s_181_32, s_181_53, s_181_90, s_181_134, s_181_148, s_181_173, s_181_182, a1, a2, b1, k_43 b1, ex, ey, ez, z0, z1, z2, k180, c4, vi_bt, ne_eq]
              exact this
            rcases ho with ⟨h4, h5⟩ | ⟨h4, h5⟩
            · exact fin 95 96 (.inl ⟨rfl, rfl⟩) h4 h5
            · exact fin 96 95 (.inr ⟨rfl, rfl⟩) h4 h5
  obtain ⟨r, w', ⟨M', h1, h2, h3, rfl, rfl⟩, hK⟩ := vi_kx (main (fun r w' => ∃ M', (∃ B, M' 90 = cR B) ∧ vOr (M' 88) ∧ (∀ p, p ≠ 88 → p ≠ 90 → p ≠ 95 → p ≠ 96 → M' p = M p) ∧ r = some (.inl (gLe x y z (M 37))) ∧ w' = (Y, M', n)) (fun M' h1 h2 h3 => ⟨M', h1, h2, h3, rfl, rfl⟩))
  exact ⟨M', h1, h2, h3, hK⟩
end
