/-! Contracts of the reference, ninth part: what a CELL's law tells; a TEXT kept. -/
def mRn (M : vi_M) (c : Int) : Nat → Int
  | 0 => 0
  | d + 1 => mRn M c d + (if mBe M c d = -1 then 1 else 0)
theorem mRn_r {M : vi_M} {c : Int} : ∀ d : Nat, 0 ≤ mRn M c d ∧ mRn M c d ≤ (d : Int)
  | 0 => by simp [mRn]
  | d + 1 => by
    have := mRn_r (M := M) (c := c) d
    rw [mRn]
    split <;> omega
theorem mRn_c {M M' : vi_M} {c : Int} (h : M' 114 = M 114) : ∀ d : Nat, mRn M' c d = mRn M c d
  | 0 => rfl
  | d + 1 => by
    rw [mRn, mRn, mRn_c h d]
    unfold mBe
    rw [h]
/-- what a kept law is asked with, by kinds: x, y, z, holes, rind, day -/
def mWd (M : vi_M) (c h : Int) : Nat → Int := fun k => if k = 1 then c % 6 else if k = 2 then c / 6 % 6 else if k = 3 then c / 36 else if k = 4 then h else if k = 5 then mRn M c 6 else if k = 6 then M 114 99 else 0
/-- a law is kept: its number, how many tokens, its clauses -/
def mKp (M : vi_M) (L S : Nat) (cs : List gCla) : Prop := L < 6 ∧ S ≤ 400 ∧ M 114 296 = (L : Int) ∧ M 114 (297 + L) = (S : Int) ∧ ∃ (cd vl : Nat → Int) (en : Nat → Bool) (fu i' : Nat), (∀ i, i < S → M 114 (303 + (400 * L + i)) = cd i ∧ M 114 (2703 + (400 * L + i)) = vl i) ∧ (∀ i, S ≤ i → cd i = 0) ∧ (∀ i, 0 ≤ vl i) ∧ (∀ i, en i = true → i = S) ∧ rdL cd vl en fu 12 0 0 [] = some (some cs, i')
def mA (M : vi_M) (c h : Int) (cs : List gCla) : Bool × Bool × Int := cs.foldl (gF1 (mWd M c h)) (false, false, 1)
section
variable {D : Nat} {Y : vi_Y} {M : vi_M} {nn : Nat × Nat} {Q : Option vi_V → vi_W → Prop}
theorem h_291b (hY : kY Y 151) (hB : mBx M) {c h : Int} (hc : mIc M c) (hh : 0 ≤ h ∧ h ≤ 96) (hday : 0 ≤ M 114 99 ∧ M 114 99 ≤ 99) {L S : Nat} {cs : List gCla} (hK : mKp M L S cs) (h23 : M 112 23 = 1) (h24 : M 112 24 = 0) (h25 : M 112 25 = 0) (hD : 43 ≤ D)
    (hQ : ∀ M', (∀ p, p ≠ 112 → p ≠ 123 → M' p = M p) → (∀ k, k ≠ 19 → k ≠ 20 → k ≠ 21 → k ≠ 23 → k ≠ 24 → k ≠ 25 → M' 112 k = M 112 k) → M' 112 23 = mCl (mA M c h cs).2.2 → M' 112 24 = vi_b (mA M c h cs).1 → M' 112 25 = vi_b (mA M c h cs).2.1 → Q none (Y, M', nn)) :
    vi_ok GG D 291 28 [some (.inr (.inr 112)), some (.inl c), some (.inl h), none, none, none, none, none, none] [] (Y, M, nn) Q := by
  obtain ⟨R1, -, R3, -, -, -, -, -, -, -, -, R22, -⟩ := y_112 hY (by omega)
  obtain ⟨w1, w2⟩ := y_114 hY (by omega)
  obtain ⟨u1, u2⟩ := y_123 hY (by omega)
  obtain ⟨hL, hS, k296, kS, cd, vl, en, fu, i', htk, hz, hvl, hen, hg⟩ := hK
  have hc2 : 0 ≤ c ∧ c < 216 := ⟨hc.1, by have := hc.2.1; omega⟩
  have m0 : mAl c 0 = c % 6 := rfl
  have m1 : mAl c 1 = c / 6 % 6 := rfl
  have m2 : mAl c 2 = c / 36 := rfl
  have hrn := mRn_r (M := M) (c := c) 6
  have fin : ∀ l8 x3, x3 = mRn M c 6 → vi_ok GG D 291 65 [some (.inr (.inr 112)), some (.inl c), some (.inl h), some (.inl x3), some (.inl 6), none, none, none, l8] [] (Y, M, nn) Q := by
    intro l8 x3 hx3
    generalize hf : vi_u (M 112) 20 ((400 * L + S : Nat) : Int) = f
    have f20 : f 20 = ((400 * L + S : Nat) : Int) := by rw [← hf]; rfl
    generalize hG : vi_u (vi_u (vi_u (vi_u (vi_u (vi_u (M 123) 0 (c % 6)) 1 (c / 6 % 6)) 2 (c / 36)) 3 h) 4 x3) 5 (M 114 99) = G
    have er : vi_u (vi_u (M 112) 19 ((400 * L : Nat) : Int)) 20 ((400 * L + S : Nat) : Int) = aRow f (400 * L + 0) (M 112 21) (vi_b false) (vi_b false) (mCl 1) := by
      funext k
      rw [← hf]
      unfold aRow eRow vi_u
      by_cases q : k = 19
      · subst q; rfl
      · by_cases q1 : k = 20
        · subst q1; rfl
        · by_cases q2 : k = 21
          · subst q2; rfl
          · by_cases q3 : k = 23
            · subst q3; exact h23
            · by_cases q4 : k = 24
              · subst q4; exact h24
              · by_cases q5 : k = 25
                · subst q5; exact h25
                · simp only [if_neg q, if_neg q1, if_neg q2, if_neg q3, if_neg q4, if_neg q5]
    have hE : eOk (vi_rs (vi_rs M 123 G) 112 (aRow f (400 * L + 0) (M 112 21) (vi_b false) (vi_b false) (mCl 1))) f (400 * L) (400 * L + S) cd vl (mWd M c h) := by
      refine ⟨⟨by omega, by omega⟩, f20, fun i hi => ?_, fun i hi => hz i (by omega), fun k hk => ?_, hvl, fun k => ?_⟩
      · rw [vi_rs_o (by omega), vi_rs_o (by omega)]
        exact htk i (by omega)
      · rw [vi_rs_o (by omega), vi_rs_s, ← hG, hx3]
        obtain rfl | rfl | rfl | rfl | rfl | rfl : k = 0 ∨ k = 1 ∨ k = 2 ∨ k = 3 ∨ k = 4 ∨ k = 5 := by omega
        · rfl
        · rfl
        · rfl
        · rfl
        · rfl
        · rfl
      · unfold mWd
        split
        · omega
        · split
          · omega
          · split
            · omega
            · split
              · omega
              · split
                · omega
                · split
                  · omega
                  · omega
    have := h_291 (nn := nn) (D := D) (Q := Q) (M := vi_rs (vi_rs M 123 G) 112 (aRow f (400 * L + 0) (M 112 21) (vi_b false) (vi_b false) (mCl 1))) hY hD (fun i hi => by rw [hen i hi]) (y1 := c) (y2 := h) (x3 := x3) 12 0 0 [] cs i' hg (M 112 21) 6 none none none l8 (false, false, 1) hE rfl vi_rs_s (fun g bk => by
      rw [vi_rs_rs]
      refine hQ _ (fun p p1 p2 => by rw [vi_rs_o p1, vi_rs_o p2]) (fun k k1 k2 k3 k4 k5 k6 => ?_) (by rw [vi_rs_s]; rfl) (by rw [vi_rs_s]; rfl) (by rw [vi_rs_s]; rfl)
      rw [vi_rs_s, ← hf]
      unfold aRow eRow vi_u
      simp only [if_neg k1, if_neg k2, if_neg k3, if_neg k4, if_neg k5, if_neg k6])
    clear hQ hE hg htk hz hvl hen
    have a1 : ((400 : Int) * (L : Int)) = ((400 * L : Nat) : Int) := by omega
    have a2 : (297 + (L : Int)).toNat = 297 + L := by omega
    have a3 : ((400 * L : Nat) : Int) + (S : Int) = ((400 * L + S : Nat) : Int) := by omega
    have v19 : vi_u (M 112) 19 ((400 * L : Nat) : Int) 19 = ((400 * L : Nat) : Int) := rfl
    simp (disch := omega) only [Option.toList_some, Option.toList_none, List.nil_append, List.cons_append, List.append_nil, true_and, and_true, not_true_eq_false, not_false_eq_true, true_implies, false_implies, implies_true, and_self, Int.reduceLT, Int.reduceLE, Int.reduceEq, Int.reduceNe, Int.reduceAdd, Int.reduceSub, Int.reduceMul, Int.reduceNeg, Int.reduceToNat, Int.toNat_natCast, ↓kk_ck, ↓kk_im, ↓kk_in, s_291_65, s_291_69, s_291_75, s_291_76, s_291_80, s_291_86, s_291_87, s_291_91, s_291_97, s_291_98, s_291_102, s_291_105, s_291_109, s_291_112, s_291_116, s_291_121, s_291_124, s_291_125, s_291_133, s_291_137, s_291_141, s_291_146, s_291_150, s_291_157, s_291_161, s_291_162, s_291_163, R1, R3, R22, w1, w2, u1, u2, k_245, m0, m1, m2, vi_ms_rs, vi_rs_s, vi_rs_rs, vi_rs_o, k296, kS, a1, a2, a3, vi_32, v19, hG, er]
    exact this
  have loop : ∀ i, i ≤ 6 → vi_ok GG D 291 33 [some (.inr (.inr 112)), some (.inl c), some (.inl h), some (.inl (mRn M c i)), some (.inl (i : Int)), none, none, none, none] [] (Y, M, nn) Q := by
    refine vi_dn 6 ?_ fun i hi ih => ?_
    · have := fin none _ rfl
      clear fin hQ
      rw [s_291_33]
      simp (disch := omega) only [Option.toList_some, Option.toList_none, List.nil_append, List.cons_append, List.append_nil, true_and, and_true, not_true_eq_false, not_false_eq_true, true_implies, false_implies, implies_true, and_self, Int.reduceLT, Int.reduceLE, Int.reduceEq, Int.reduceNe, Int.reduceAdd, Int.reduceSub, Int.reduceMul, Int.reduceNeg, Int.reduceToNat, Int.toNat_natCast, ↓kk_ck, ↓kk_im, ↓kk_in]
      exact this
    · rw [s_291_33]
      have hr := mRn_r (M := M) (c := c) i
      by_cases q : mBe M c i = -1
      · have e1 : mRn M c (i + 1) = mRn M c i + 1 := by rw [mRn, if_pos q]
        rw [e1] at ih
        clear fin hQ
        simp (disch := omega) only [Option.toList_some, Option.toList_none, List.nil_append, List.cons_append, List.append_nil, true_and, and_true, not_true_eq_false, not_false_eq_true, true_implies, false_implies, implies_true, and_self, Int.reduceLT, Int.reduceLE, Int.reduceEq, Int.reduceNe, Int.reduceAdd, Int.reduceSub, Int.reduceMul, Int.reduceNeg, Int.reduceToNat, Int.toNat_natCast, ↓kk_ck, ↓kk_im, ↓kk_in, s_291_40, s_291_48, s_291_52, s_291_56, s_291_57, R1, k_248 hY hB hc, q, ne_eq, vi_inc, vi_32]
        exact ih
      · have e1 : mRn M c (i + 1) = mRn M c i + 0 := by rw [mRn, if_neg q]
        rw [e1] at ih
        clear fin hQ
        simp (disch := omega) only [Option.toList_some, Option.toList_none, List.nil_append, List.cons_append, List.append_nil, true_and, and_true, not_true_eq_false, not_false_eq_true, true_implies, false_implies, implies_true, and_self, Int.reduceLT, Int.reduceLE, Int.reduceEq, Int.reduceNe, Int.reduceAdd, Int.reduceSub, Int.reduceMul, Int.reduceNeg, Int.reduceToNat, Int.toNat_natCast, ↓kk_ck, ↓kk_im, ↓kk_in, s_291_40, s_291_48, s_291_52, s_291_56, s_291_57, R1, k_248 hY hB hc, q, ne_eq, vi_inc, vi_32]
        exact ih
  have := loop 0 (by omega)
  clear loop fin hQ
  simp (disch := omega) only [Option.toList_some, Option.toList_none, List.nil_append, List.cons_append, List.append_nil, true_and, and_true, not_true_eq_false, not_false_eq_true, true_implies, false_implies, implies_true, and_self, Int.reduceLT, Int.reduceLE, Int.reduceEq, Int.reduceNe, Int.reduceAdd, Int.reduceSub, Int.reduceMul, Int.reduceNeg, Int.reduceToNat, Int.toNat_natCast, ↓kk_ck, ↓kk_im, ↓kk_in, s_291_28]
  exact this
theorem mIc_c {M M' : vi_M} (h : M' 114 = M 114) {c : Int} (hc : mIc M c) : mIc M' c := by
  unfold mIc at *
  rw [h]
  exact hc
theorem mBx_c {M M' : vi_M} (h : M' 114 = M 114) (hc : mBx M) : mBx M' := by
  unfold mBx at *
  rw [h]
  exact hc
theorem mKp_c {M M' : vi_M} (h : M' 114 = M 114) {L S : Nat} {cs : List gCla} (hc : mKp M L S cs) : mKp M' L S cs := by
  unfold mKp at *
  rw [h]
  exact hc
theorem mWd_c {M M' : vi_M} (h : M' 114 = M 114) {c x : Int} : mWd M' c x = mWd M c x := by
  unfold mWd
  rw [h, mRn_c h]
/-- no law: it weighs 1 -/
theorem k_291n (hY : kY Y 151) {c h : Int} (h296 : M 114 296 = -1) (hD : 1 ≤ D) (hQ : Q none (Y, vi_rs M 112 (vi_u (vi_u (vi_u (M 112) 23 1) 24 0) 25 0), nn)) : vi_call GG D 291 [.inr (.inr 112), .inl c, .inl h] (Y, M, nn) Q := by
  obtain ⟨D, rfl⟩ : ∃ k, D = k + 1 := ⟨D - 1, by omega⟩
  obtain ⟨R1, -, R3, -⟩ := y_112 hY (by omega)
  obtain ⟨w1, w2⟩ := y_114 hY (by omega)
  simp (disch := omega) only [Option.toList_some, Option.toList_none, List.nil_append, List.cons_append, List.append_nil, true_and, and_true, not_true_eq_false, not_false_eq_true, true_implies, false_implies, implies_true, and_self, Int.reduceLT, Int.reduceLE, Int.reduceEq, Int.reduceNe, Int.reduceAdd, Int.reduceSub, Int.reduceMul, Int.reduceNeg, Int.reduceToNat, Int.toNat_natCast, ↓kk_ck, ↓kk_im, ↓kk_in, e_291, s_291_0, s_291_5, s_291_10, s_291_15, s_291_19, s_291_23, s_291_27, R1, R3, w1, w2, vi_ms_rs, vi_rs_s, vi_rs_rs, vi_rs_o, h296, ne_eq]
  exact hQ
theorem k_291 (hY : kY Y 151) (hB : mBx M) {c h : Int} (hc : mIc M c) (hh : 0 ≤ h ∧ h ≤ 96) (hday : 0 ≤ M 114 99 ∧ M 114 99 ≤ 99) {L S : Nat} {cs : List gCla} (hK : mKp M L S cs) (hD : 44 ≤ D)
    (hQ : ∀ M', (∀ p, p ≠ 112 → p ≠ 123 → M' p = M p) → (∀ k, k ≠ 19 → k ≠ 20 → k ≠ 21 → k ≠ 23 → k ≠ 24 → k ≠ 25 → M' 112 k = M 112 k) → M' 112 23 = mCl (mA M c h cs).2.2 → M' 112 24 = vi_b (mA M c h cs).1 → M' 112 25 = vi_b (mA M c h cs).2.1 → Q none (Y, M', nn)) :
    vi_call GG D 291 [.inr (.inr 112), .inl c, .inl h] (Y, M, nn) Q := by
  obtain ⟨D, rfl⟩ : ∃ k, D = k + 1 := ⟨D - 1, by omega⟩
  obtain ⟨R1, -, R3, -⟩ := y_112 hY (by omega)
  obtain ⟨w1, w2⟩ := y_114 hY (by omega)
  have h296 := hK.2.2.1
  generalize hM1 : vi_rs M 112 (vi_u (vi_u (vi_u (M 112) 23 1) 24 0) 25 0) = M1
  have e114 : M1 114 = M 114 := by rw [← hM1]; exact vi_rs_o (by omega)
  have r112 : M1 112 = vi_u (vi_u (vi_u (M 112) 23 1) 24 0) 25 0 := by rw [← hM1, vi_rs_s]
  have k296 : M1 114 296 = (L : Int) := by rw [e114]; exact h296
  have eA : mA M1 c h cs = mA M c h cs := by unfold mA; rw [mWd_c e114]
  have := h_291b (Q := Q) (D := D) (nn := nn) (M := M1) hY (mBx_c e114 hB) (mIc_c e114 hc) hh (by rw [e114]; exact hday) (mKp_c e114 hK) (by rw [r112]; rfl) (by rw [r112]; rfl) (by rw [r112]; rfl) (by omega) (fun M' h1 h2 h3 h4 h5 => hQ M' (fun p p1 p2 => by rw [h1 p p1 p2, ← hM1, vi_rs_o p1]) (fun k k1 k2 k3 k4 k5 k6 => by
    rw [h2 k k1 k2 k3 k4 k5 k6, r112]
    unfold vi_u
    simp only [if_neg k4, if_neg k5, if_neg k6]) (by rw [h3, eA]) (by rw [h4, eA]) (by rw [h5, eA]))
  clear hQ hK eA
  simp (disch := omega) only [Option.toList_some, Option.toList_none, List.nil_append, List.cons_append, List.append_nil, true_and, and_true, not_true_eq_false, not_false_eq_true, true_implies, false_implies, implies_true, and_self, Int.reduceLT, Int.reduceLE, Int.reduceEq, Int.reduceNe, Int.reduceAdd, Int.reduceSub, Int.reduceMul, Int.reduceNeg, Int.reduceToNat, Int.toNat_natCast, ↓kk_ck, ↓kk_im, ↓kk_in, e_291, s_291_0, s_291_5, s_291_10, s_291_15, s_291_19, s_291_23, R1, R3, w1, w2, vi_ms_rs, vi_rs_s, vi_rs_rs, vi_rs_o, k296, ne_eq, hM1]
  exact this
/-- so many tokens copied into the kept row -/
def mCp (f : Nat → Int) (L N : Nat) (cd vl : Nat → Int) (j : Nat) : Nat → Int := fun k => if 303 + 400 * L ≤ k ∧ k < 303 + 400 * L + j then cd (k - (303 + 400 * L)) else if 2703 + 400 * L ≤ k ∧ k < 2703 + 400 * L + j then vl (k - (2703 + 400 * L)) else if k = 297 + L then (N : Int) else f k
theorem mCp_s {f cd vl : Nat → Int} {L N j : Nat} (hL : L ≤ 5) (hj : j < 400) : vi_u (vi_u (mCp f L N cd vl j) (303 + 400 * L + j) (cd j)) (2703 + 400 * L + j) (vl j) = mCp f L N cd vl (j + 1) := by
  funext k
  unfold vi_u mCp
  by_cases h1 : k = 2703 + 400 * L + j
  · rw [if_pos h1, if_neg (by omega), if_pos (by omega)]
    congr 1
    omega
  · rw [if_neg h1]
    by_cases h2 : k = 303 + 400 * L + j
    · rw [if_pos h2, if_pos (by omega)]
      congr 1
      omega
    · rw [if_neg h2]
      by_cases h3 : 303 + 400 * L ≤ k ∧ k < 303 + 400 * L + j
      · rw [if_pos h3, if_pos (by omega)]
      · rw [if_neg h3, if_neg (c := 303 + 400 * L ≤ k ∧ k < 303 + 400 * L + (j + 1)) (by omega)]
        by_cases h4 : 2703 + 400 * L ≤ k ∧ k < 2703 + 400 * L + j
        · rw [if_pos h4, if_pos (by omega)]
        · rw [if_neg h4, if_neg (c := 2703 + 400 * L ≤ k ∧ k < 2703 + 400 * L + (j + 1)) (by omega)]
theorem mCp_0 {f cd vl : Nat → Int} {L N : Nat} : vi_u f (297 + L) (N : Int) = mCp f L N cd vl 0 := by
  funext k
  unfold vi_u mCp
  rw [if_neg (c := 303 + 400 * L ≤ k ∧ k < 303 + 400 * L + 0) (by omega), if_neg (c := 2703 + 400 * L ≤ k ∧ k < 2703 + 400 * L + 0) (by omega)]
/-- a TEXT kept as a law, or refused -/
theorem k_278f (hY : kY Y 151) (h295 : M 114 295 = 6) (hc : 0 ≤ M 113 5 ∧ M 113 5 < 2147483647) (hD : 2 ≤ D) (hQ : Q (some (.inl (-5))) (Y, vi_rs (vi_rs M 112 (vi_u (vi_u (M 112) 10 0) 0 (-5))) 113 (vi_u (M 113) 5 (M 113 5 + 1)), nn)) : vi_call GG D 278 [.inr (.inr 112)] (Y, M, nn) Q := by
  obtain ⟨D, rfl⟩ : ∃ k, D = k + 1 := ⟨D - 1, by omega⟩
  obtain ⟨R1, -, R3, -⟩ := y_112 hY (by omega)
  obtain ⟨w1, w2⟩ := y_114 hY (by omega)
  have A := fun {D : Nat} {K : Option vi_V → vi_W → Prop} (hD : 1 ≤ D) => @k_235 D K Y (vi_rs M 112 (vi_u (M 112) 10 0)) nn hY (-5) (by omega) (by rw [vi_rs_o (by omega)]; exact hc) hD
  rw [vi_rs_s, vi_rs_rs, vi_rs_o (by omega)] at A
  simp (disch := omega) only [Option.toList_some, Option.toList_none, List.nil_append, List.cons_append, List.append_nil, true_and, and_true, not_true_eq_false, not_false_eq_true, true_implies, false_implies, implies_true, and_self, Int.reduceLT, Int.reduceLE, Int.reduceEq, Int.reduceNe, Int.reduceAdd, Int.reduceSub, Int.reduceMul, Int.reduceNeg, Int.reduceToNat, Int.toNat_natCast, ↓kk_ck, ↓kk_im, ↓kk_in, e_278, s_278_0, s_278_13, s_278_25, s_278_32, s_278_39, s_278_72, s_278_122, s_278_4, s_278_18, s_278_29, s_278_38, s_278_43, s_278_69, s_278_76, s_278_126, s_278_8, s_278_24, s_278_47, s_278_91, s_278_131, s_278_52, s_278_93, s_278_134, s_278_61, s_278_94, s_278_139, s_278_62, s_278_98, s_278_113, s_278_115, s_278_116, R1, R3, w1, w2, h295, ne_eq, vi_ms_rs, A]
  exact hQ
theorem k_278 (hY : kY Y 151) (hW : kW M) {n fu : Nat} {b : Nat → Int} (hb : tOk b) (m118 : M 118 = b) (h400 : n ≤ 400) (h10 : M 112 10 = (n : Int)) {res : Option (List gCla)} {i' : Nat} (hg : rdL (tCd b n) (tVl b n) (fun i => decide (tI b n i = n)) fu 12 0 0 [] = some (res, i')) {L : Nat} (hL : L ≤ 5) (h295 : M 114 295 = (L : Int)) (hc : 0 ≤ M 113 6 ∧ M 113 6 < 2147483647) (hc1 : 0 ≤ M 112 1 ∧ M 112 1 < 2147483647) (hD : 46 ≤ D)
    (hQ : ∀ (M' : vi_M) (t : Nat) (f : Nat → Int), t ≤ 400 → tI b n t = n → (∀ i, i < t → tI b n i < n) → (∀ p, p ≠ 112 → p ≠ 120 → p ≠ 121 → p ≠ 122 → M' p = M p) → (∀ k, k ≠ 10 → k ≠ 11 → k ≠ 15 → k ≠ 16 → k ≠ 17 → k ≠ 18 → f k = M 112 k) → f 10 = 0 → f 11 = (if res.isSome = true then -1 else (tI b n i' : Int)) →
      if res.isSome = true then Q (some (.inl (L : Int))) (Y, vi_rs (vi_rs M' 114 (vi_u (mCp (M 114) L t (tCd b n) (tVl b n) t) 295 ((L + 1 : Nat) : Int))) 112 (vi_u (vi_u f 0 0) 1 (M 112 1 + 1)), nn)
      else Q (some (.inl (-6))) (Y, vi_rs (vi_rs M' 112 (vi_u f 0 (-6))) 113 (vi_u (M 113) 6 (M 113 6 + 1)), nn)) : vi_call GG D 278 [.inr (.inr 112)] (Y, M, nn) Q := by
  obtain ⟨D, rfl⟩ : ∃ k, D = k + 1 := ⟨D - 1, by omega⟩
  obtain ⟨R1, -, R3, -, -, -, -, -, R12, R13, -⟩ := y_112 hY (by omega)
  obtain ⟨w1, w2⟩ := y_114 hY (by omega)
  obtain ⟨u1, u2⟩ := y_120 hY (by omega)
  obtain ⟨v1, v2⟩ := y_121 hY (by omega)
  have cont : vi_call GG D 277 [.inr (.inr 112)] (Y, M, nn) (fun r w' => vi_ok GG D 278 29 [some (.inr (.inr 112)), none, none] r.toList w' Q) := by
    refine k_277 hY hW hb m118 h400 h10 hg (by omega) fun M' t hT hs hf h112 f10 f15 f11 => ?_
    have hq := hQ M' t (M' 112) hT.1 hT.2.1 hs hf h112 f10 f11
    clear hQ
    have e113 : M' 113 = M 113 := hf 113 (by omega) (by omega) (by omega) (by omega)
    have e114 : M' 114 = M 114 := hf 114 (by omega) (by omega) (by omega) (by omega)
    have e1 : M' 112 1 = M 112 1 := h112 1 (by omega) (by omega) (by omega) (by omega) (by omega) (by omega)
    cases hres : res.isSome with
    | false =>
      rw [hres, if_neg (by simp)] at hq
      have A := fun {D : Nat} {K : Option vi_V → vi_W → Prop} (hD : 1 ≤ D) => @k_235 D K Y M' nn hY (-6) (by omega) (by rw [e113]; exact hc) hD
      rw [e113] at A
      clear hf h112 hT hs
      simp (disch := omega) only [Option.toList_some, Option.toList_none, List.nil_append, List.cons_append, List.append_nil, true_and, and_true, not_true_eq_false, not_false_eq_true, true_implies, false_implies, implies_true, and_self, Int.reduceLT, Int.reduceLE, Int.reduceEq, Int.reduceNe, Int.reduceAdd, Int.reduceSub, Int.reduceMul, Int.reduceNeg, Int.reduceToNat, Int.toNat_natCast, ↓kk_ck, ↓kk_im, ↓kk_in, s_278_29, s_278_32, s_278_38, R1, vi_bf, ne_eq, A]
      exact hq
    | true =>
      rw [hres, if_pos rfl] at hq
      have ht := hT.1
      have k295 : M' 114 295 = (L : Int) := by rw [e114]; exact h295
      have fin : ∀ j, j ≤ t → vi_ok GG D 278 64 [some (.inr (.inr 112)), some (.inl (L : Int)), some (.inl (j : Int))] [] (Y, vi_rs M' 114 (mCp (M 114) L t (tCd b n) (tVl b n) j), nn) Q := by
        refine vi_dn t ?_ fun j hj ih => ?_
        · have c295 : mCp (M 114) L t (tCd b n) (tVl b n) t 295 = (L : Int) := by
            unfold mCp
            rw [if_neg (by omega), if_neg (by omega), if_neg (by omega)]
            exact h295
          have A := fun {D : Nat} {K : Option vi_V → vi_W → Prop} (hD : 1 ≤ D) => @k_236 D K Y (vi_rs M' 114 (vi_u (mCp (M 114) L t (tCd b n) (tVl b n) t) 295 ((L + 1 : Nat) : Int))) nn hY (L : Int) (by rw [vi_rs_o (by omega), e1]; exact hc1) hD
          rw [vi_rs_o (by omega), e1] at A
          rw [s_278_64]
          clear hf h112 hT hs
          simp (disch := omega) only [Option.toList_some, Option.toList_none, List.nil_append, List.cons_append, List.append_nil, true_and, and_true, not_true_eq_false, not_false_eq_true, true_implies, false_implies, implies_true, and_self, Int.reduceLT, Int.reduceLE, Int.reduceEq, Int.reduceNe, Int.reduceAdd, Int.reduceSub, Int.reduceMul, Int.reduceNeg, Int.reduceToNat, Int.toNat_natCast, ↓kk_ck, ↓kk_im, ↓kk_in, s_278_69, s_278_122, s_278_126, s_278_131, s_278_134, s_278_139, R1, R3, w1, w2, vi_rs_o, vi_rs_s, f15, c295, vi_inc, vi_ms_rs, vi_rs_rs, A]
          exact hq
        · obtain ⟨p0, p1, -⟩ := hT.2.2 j (by omega)
          have a1 : (303 + 400 * (L : Int) + (j : Int)).toNat = 303 + 400 * L + j := by omega
          have a2 : (2703 + 400 * (L : Int) + (j : Int)).toNat = 2703 + 400 * L + j := by omega
          have st := mCp_s (f := M 114) (cd := tCd b n) (vl := tVl b n) (N := t) hL (show j < 400 by omega)
          rw [s_278_64]
          clear hf h112 hs hq
          simp (disch := omega) only [Option.toList_some, Option.toList_none, List.nil_append, List.cons_append, List.append_nil, true_and, and_true, not_true_eq_false, not_false_eq_true, true_implies, false_implies, implies_true, and_self, Int.reduceLT, Int.reduceLE, Int.reduceEq, Int.reduceNe, Int.reduceAdd, Int.reduceSub, Int.reduceMul, Int.reduceNeg, Int.reduceToNat, Int.toNat_natCast, ↓kk_ck, ↓kk_im, ↓kk_in, s_278_69, s_278_72, s_278_76, s_278_91, s_278_93, s_278_94, s_278_98, s_278_113, s_278_115, s_278_116, R1, R3, R12, R13, w1, w2, u1, u2, v1, v2, vi_rs_o, vi_rs_s, f15, p0, p1, vi_32, a1, a2, vi_ms_rs, vi_rs_rs, st]
          exact ih
      have := fin 0 (by omega)
      rw [← mCp_0] at this
      have a0 : (297 + (L : Int)).toNat = 297 + L := by omega
      clear fin hf h112 hT hs hq
      simp (disch := omega) only [Option.toList_some, Option.toList_none, List.nil_append, List.cons_append, List.append_nil, true_and, and_true, not_true_eq_false, not_false_eq_true, true_implies, false_implies, implies_true, and_self, Int.reduceLT, Int.reduceLE, Int.reduceEq, Int.reduceNe, Int.reduceAdd, Int.reduceSub, Int.reduceMul, Int.reduceNeg, Int.reduceToNat, Int.toNat_natCast, ↓kk_ck, ↓kk_im, ↓kk_in, s_278_29, s_278_39, s_278_43, s_278_47, s_278_52, s_278_61, s_278_62, R1, R3, w1, w2, vi_bt, ne_eq, k295, f15, vi_32, a0, vi_ms_rs, e114]
      exact this
  clear hQ hg
  simp (disch := omega) only [Option.toList_some, Option.toList_none, List.nil_append, List.cons_append, List.append_nil, true_and, and_true, not_true_eq_false, not_false_eq_true, true_implies, false_implies, implies_true, and_self, Int.reduceLT, Int.reduceLE, Int.reduceEq, Int.reduceNe, Int.reduceAdd, Int.reduceSub, Int.reduceMul, Int.reduceNeg, Int.reduceToNat, Int.toNat_natCast, ↓kk_ck, ↓kk_im, ↓kk_in, e_278, s_278_0, s_278_4, s_278_8, s_278_25, R1, R3, w1, w2, h295, ne_eq]
  exact cont
end
