/-! Contracts of the reference, ninth part: what a CELL's law tells; a TEXT kept. -/
def mRn (M : vi_M) (c : Int) : Nat → Int
  | 0 => 0
  | d + 1 => mRn M c d + (if mBe M c d = -1 then 1 else 0)
theorem mRn_r {M : vi_M} {c : Int} : ∀ d : Nat, 0 ≤ mRn M c d ∧ mRn M c d ≤ (d : Int)
  | 0 => by simp [mRn]
  | d + 1 => by
    have := mRn_r (M := M) (c := c) d
    rw [mRn]
    split <;> omega
theorem mRn_c {M M' : vi_M} {c : Int} (h : M' 114 = M 114) : ∀ d : Nat, mRn M' c d = mRn M c d
  | 0 => rfl
  | d + 1 => by
    rw [mRn, mRn, mRn_c h d]
    unfold mBe
    rw [h]
/-- what a kept law is asked with, by kinds: x, y, z, holes, rind, day -/
def mWd (M : vi_M) (c h : Int) : Nat → Int := fun k => if k = 1 then c % 6 else if k = 2 then c / 6 % 6 else if k = 3 then c / 36 else if k = 4 then h else if k = 5 then mRn M c 6 else if k = 6 then M 114 99 else 0
/-- a law is kept: its number, how many tokens, its clauses -/
def mKp (M : vi_M) (L S : Nat) (cs : List gCla) : Prop := L < 6 ∧ S ≤ 400 ∧ M 114 296 = (L : Int) ∧ M 114 (297 + L) = (S : Int) ∧ ∃ (cd vl : Nat → Int) (en : Nat → Bool) (fu i' : Nat), (∀ i, i < S → M 114 (303 + (400 * L + i)) = cd i ∧ M 114 (2703 + (400 * L + i)) = vl i) ∧ (∀ i, S ≤ i → cd i = 0) ∧ (∀ i, 0 ≤ vl i) ∧ (∀ i, en i = true → i = S) ∧ rdL cd vl en fu 12 0 0 [] = some (some cs, i')
def mA (M : vi_M) (c h : Int) (cs : List gCla) : Bool × Bool × Int := cs.foldl (gF1 (mWd M c h)) (false, false, 1)
section
variable {D : Nat} {Y : vi_Y} {M : vi_M} {nn : Nat × Nat} {Q : Option vi_V → vi_W → Prop}
theorem h_291b (hY : kY Y 151) (hB : mBx M) {c h : Int} (hc : mIc M c) (hh : 0 ≤ h ∧ h ≤ 96) (hday : 0 ≤ M 114 99 ∧ M 114 99 ≤ 99) {L S : Nat} {cs : List gCla} (hK : mKp M L S cs) (h23 : M 112 23 = 1) (h24 : M 112 24 = 0) (h25 : M 112 25 = 0) (hD : 43 ≤ D)
    (hQ : ∀ M', (∀ p, p ≠ 112 → p ≠ 123 → M' p = M p) → (∀ k, k ≠ 19 → k ≠ 20 → k ≠ 21 → k ≠ 23 → k ≠ 24 → k ≠ 25 → M' 112 k = M 112 k) → M' 112 23 = mCl (mA M c h cs).2.2 → M' 112 24 = vi_b (mA M c h cs).1 → M' 112 25 = vi_b (mA M c h cs).2.1 → Q none (Y, M', nn)) :
    vi_ok GG D 291 28 [some (.inr (.inr 112)), some (.inl c), some (.inl h), none, none, none, none, none, none] [] (Y, M, nn) Q := by
  obtain ⟨R1, -, R3, -, -, -, -, -, -, -, -, R22, -⟩ := y_112 hY (by omega)
  obtain ⟨w1, w2⟩ := y_114 hY (by omega)
  obtain ⟨u1, u2⟩ := y_123 hY (by omega)
  obtain ⟨hL, hS, k296, kS, cd, vl, en, fu, i', htk, hz, hvl, hen, hg⟩ := hK
  have hc2 : 0 ≤ c ∧ c < 216 := ⟨hc.1, by have := hc.2.1; omega⟩
  have m0 : mAl c 0 = c % 6 := rfl
  have m1 : mAl c 1 = c / 6 % 6 := rfl
  have m2 : mAl c 2 = c / 36 := rfl
  have hrn := mRn_r (M := M) (c := c) 6
  have fin : ∀ l8 x3, x3 = mRn M c 6 → vi_ok GG D 291 65 [some (.inr (.inr 112)), some (.inl c), some (.inl h), some (.inl x3), some (.inl 6), none, none, none, l8] [] (Y, M, nn) Q := by
    intro l8 x3 hx3
    generalize hf : vi_u (M 112) 20 ((400 * L + S : Nat) : Int) = f
    have f20 : f 20 = ((400 * L + S : Nat) : Int) := by rw [← hf]; rfl
    generalize hG : vi_u (vi_u (vi_u (vi_u (vi_u (vi_u (M 123) 0 (c % 6)) 1 (c / 6 % 6)) 2 (c / 36)) 3 h) 4 x3) 5 (M 114 99) = G
    have er : vi_u (vi_u (M 112) 19 ((400 * L : Nat) : Int)) 20 ((400 * L + S : Nat) : Int) = aRow f (400 * L + 0) (M 112 21) (vi_b false) (vi_b false) (mCl 1) := by
      funext k
      rw [← hf]
      unfold aRow eRow vi_u
      by_cases q : k = 19
      · subst q; rfl
      · by_cases q1 : k = 20
        · subst q1; rfl
        · by_cases q2 : k = 21
          · subst q2; rfl
          · by_cases q3 : k = 23
            · subst q3; exact h23
            · by_cases q4 : k = 24
              · subst q4; exact h24
              · by_cases q5 : k = 25
                · subst q5; exact h25
                · simp only [if_neg q, if_neg q1, if_neg q2, if_neg q3, if_neg q4, if_neg q5]
    have hE : eOk (vi_rs (vi_rs M 123 G) 112 (aRow f (400 * L + 0) (M 112 21) (vi_b false) (vi_b false) (mCl 1))) f (400 * L) (400 * L + S) cd vl (mWd M c h) := by
      refine ⟨⟨by omega, by omega⟩, f20, fun i hi => ?_, fun i hi => hz i (by omega), fun k hk => ?_, hvl, fun k => ?_⟩
      · rw [vi_rs_o (by omega), vi_rs_o (by omega)]
        exact htk i (by omega)
      · rw [vi_rs_o (by omega), vi_rs_s, ← hG, hx3]
        obtain rfl | rfl | rfl | rfl | rfl | rfl : k = 0 ∨ k = 1 ∨ k = 2 ∨ k = 3 ∨ k = 4 ∨ k = 5 := by omega
        · rfl
        · rfl
        · rfl
        · rfl
        · rfl
        · rfl
      · unfold mWd
        split
        · omega
        · split
          · omega
          · split
            · omega
            · split
              · omega
              · split
                · omega
                · split
                  · omega
                  · omega
    have := h_291 (nn := nn) (D := D) (Q := Q) (M := vi_rs (vi_rs M 123 G) 112 (aRow f (400 * L + 0) (M 112 21) (vi_b false) (vi_b false) (mCl 1))) hY hD (fun i hi => by rw [hen i hi]) (y1 := c) (y2 := h) (x3 := x3) 12 0 0 [] cs i' hg (M 112 21) 6 none none none l8 (false, false, 1) hE rfl vi_rs_s (fun g bk => by
      rw [vi_rs_rs]
      refine hQ _ (fun p p1 p2 => by rw [vi_rs_o p1, vi_rs_o p2]) (fun k k1 k2 k3 k4 k5 k6 => ?_) (by rw [vi_rs_s]; rfl) (by rw [vi_rs_s]; rfl) (by rw [vi_rs_s]; rfl)
      rw [vi_rs_s, ← hf]
      unfold aRow eRow vi_u
      simp only [if_neg k1, if_neg k2, if_neg k3, if_neg k4, if_neg k5, if_neg k6])
    clear hQ hE hg htk hz hvl hen
    have a1 : ((400 : Int) * (L : Int)) = ((400 * L : Nat) : Int) := by omega
    have a2 : (297 + (L : Int)).toNat = 297 + L := by omega
    have a3 : ((400 * L : Nat) : Int) + (S : Int) = ((400 * L + S : Nat) : Int) := by omega
    have v19 : vi_u (M 112) 19 ((400 * L : Nat) : Int) 19 = ((400 * L : Nat) : Int) := rfl
    simp (disch := omega) only [Option.toList_some, Option.toList_none, List.nil_append, List.cons_append, List.append_nil, true_and, and_true, not_true_eq_false, not_false_eq_true, true_implies, false_implies, implies_true, and_self, Int.reduceLT, Int.reduceLE, Int.reduceEq, Int.reduceNe, Int.reduceAdd, Int.reduceSub, Int.reduceMul, Int.reduceNeg, Int.reduceToNat, Int.toNat_natCast, ↓kk_ck, ↓kk_im, ↓kk_in, s_291_65, s_291_69, s_291_75, s_291_76, s_291_80, s_291_86, s_291_87, s_291_91, s_291_97, s_291_98, s_291_102, s_291_105, s_291_109, s_291_112, s_291_116, s_291_121, s_291_124, s_291_125, s_291_133, s_291_137, s_291_141, s_291_146, s_291_150, s_291_157, s_291_161, s_291_162, s_291_163, R1, R3, R22, w1, w2, u1, u2, k_245, m0, m1, m2, vi_ms_rs, vi_rs_s, vi_rs_rs, vi_rs_o, k296, kS, a1, a2, a3, vi_32, v19, hG, er]
    exact this
  have loop : ∀ i, i ≤ 6 → vi_ok GG D 291 33 [some (.inr (.inr 112)), some (.inl c), some (.inl h), some (.inl (mRn M c i)), some (.inl (i : Int)), none, none, none, none] [] (Y, M, nn) Q := by
    refine vi_dn 6 ?_ fun i hi ih => ?_
    · have := fin none _ rfl
      clear fin hQ
      rw [s_291_33]
      simp (disch := omega) only [Option.toList_some, Option.toList_none, List.nil_append, List.cons_append, List.append_nil, true_and, and_true, not_true_eq_false, not_false_eq_true, true_implies, false_implies, implies_true, and_self, Int.reduceLT, Int.reduceLE, Int.reduceEq, Int.reduceNe, Int.reduceAdd, Int.reduceSub, Int.reduceMul, Int.reduceNeg, Int.reduceToNat, Int.toNat_natCast, ↓kk_ck, ↓kk_im, ↓kk_in]
      exact this
    · rw [s_291_33]
      have hr := mRn_r (M := M) (c := c) i
      by_cases q : mBe M c i = -1
      · have e1 : mRn M c (i + 1) = mRn M c i + 1 := by rw [mRn, if_pos q]
        rw [e1] at ih
        clear fin hQ
        simp (disch := omega) only [Option.toList_some, Option.toList_none, List.nil_append, List.cons_append, List.append_nil, true_and, and_true, not_true_eq_false, not_false_eq_true, true_implies, false_implies, implies_true, and_self, Int.reduceLT, Int.reduceLE, Int.reduceEq, Int.reduceNe, Int.reduceAdd, Int.reduceSub, Int.reduceMul, Int.reduceNeg, Int.reduceToNat, Int.toNat_natCast, ↓kk_ck, ↓kk_im, ↓kk_in, s_291_40, s_291_48, s_291_52, s_291_56, s_291_57, R1, k_248 hY hB hc, q, ne_eq, vi_inc, vi_32]
        exact ih
      · have e1 : mRn M c (i + 1) = mRn M c i + 0 := by rw [mRn, if_neg q]
        rw [e1] at ih
        clear fin hQ
        simp (disch := omega) only [Option.toList_some, Option.toList_none, List.nil_append, List.cons_append, List.append_nil, true_and, and_true, not_true_eq_false, not_false_eq_true, true_implies, false_implies, implies_true, and_self, Int.reduceLT, Int.reduceLE, Int.reduceEq, Int.reduceNe, Int.reduceAdd, Int.reduceSub, Int.reduceMul, Int.reduceNeg, Int.reduceToNat, Int.toNat_natCast, ↓kk_ck, ↓kk_im, ↓kk_in, s_291_40, s_291_48, s_291_52, s_291_56, s_291_57, R1, k_248 hY hB hc, q, ne_eq, vi_inc, vi_32]
        exact ih
  have := loop 0 (by omega)
  clear loop fin hQ
  simp (disch := omega) only [Option.toList_some, Option.toList_none, List.nil_append, List.cons_append, List.append_nil, true_and, and_true, not_true_eq_false, not_false_eq_true, true_implies, false_implies, implies_true, and_self, Int.reduceLT, Int.reduceLE, Int.reduceEq, Int.reduceNe, Int.reduceAdd, Int.reduceSub, Int.reduceMul, Int.reduceNeg, Int.reduceToNat, Int.toNat_natCast, ↓kk_ck, ↓kk_im, ↓kk_in, s_291_28]
  exact this
end
