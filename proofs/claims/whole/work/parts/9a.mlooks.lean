/-! Contracts of the reference, twelfth part: what lies where. -/
def mHa (a : Nat) (u v w : Int) : Int := if a = 0 then 36 * v + 6 * u + w else if a = 1 then 36 * v + 6 * w + u else 36 * w + 6 * v + u
/-- a HOLE's i-th CELL, or -1 -/
def mHl (f : Nat → Int) (a : Nat) (u v s k t : Int) (i : Nat) : Int := if k ≤ (i : Int) ∨ f (96 + a) ≤ (i : Int) ∨ mIb f (a : Int) (u + (i : Int) * t) v = false then -1 else mHa a (u + (i : Int) * t) v (if s = 0 then (i : Int) else f (96 + a) - 1 - (i : Int))
def mHc (f : Nat → Int) (h i : Nat) : Int := mHl f (f (6 * h)).toNat (f (6 * h + 1)) (f (6 * h + 2)) (f (6 * h + 3)) (f (6 * h + 4)) (f (6 * h + 5) - 1) i
/-- a HOLE as it is kept -/
def mHo (f : Nat → Int) (h : Nat) : Prop := (0 ≤ f (6 * h) ∧ f (6 * h) ≤ 2) ∧ (0 ≤ f (6 * h + 1) ∧ f (6 * h + 1) ≤ 5) ∧ (0 ≤ f (6 * h + 2) ∧ f (6 * h + 2) ≤ 5) ∧ (0 ≤ f (6 * h + 3) ∧ f (6 * h + 3) ≤ 1) ∧ (1 ≤ f (6 * h + 4) ∧ f (6 * h + 4) ≤ 6) ∧ (0 ≤ f (6 * h + 5) ∧ f (6 * h + 5) ≤ 2)
section
variable {D : Nat} {K : Option vi_V → vi_W → Prop} {Y : vi_Y} {M : vi_M} {nn : Nat × Nat}
theorem hit {t : Int} (ht : -1 ≤ t ∧ t ≤ 1) {i : Nat} (hi : i ≤ 6) : -6 ≤ (i : Int) * t ∧ (i : Int) * t ≤ 6 := by
  obtain rfl | rfl | rfl : t = -1 ∨ t = 0 ∨ t = 1 := by omega
  · omega
  · omega
  · omega
theorem k_292 (hY : kY Y 151) (hB : mBx M) {a i : Nat} {u v s k t : Int} (ha : a < 3) (hu : 0 ≤ u ∧ u ≤ 5) (hv : 0 ≤ v ∧ v ≤ 5) (ht : -1 ≤ t ∧ t ≤ 1) (hi : i ≤ 6) (hD : 4 ≤ D) : vi_call GG D 292 [.inr (.inr 112), .inl (a : Int), .inl u, .inl v, .inl s, .inl k, .inl t, .inl (i : Int)] (Y, M, nn) K ↔ K (some (.inl (mHl (M 114) a u v s k t i))) (Y, M, nn) := by
  obtain ⟨D, rfl⟩ : ∃ k, D = k + 1 := ⟨D - 1, by omega⟩
  obtain ⟨R1, -⟩ := y_112 hY (by omega)
  have hy := hit ht hi
  refine vi_k (r := some (.inl _)) fun Q hQ => ?_
  unfold mHl at hQ
  have hsz : 1 ≤ M 114 (96 + a) ∧ M 114 (96 + a) ≤ 6 := by
    obtain ⟨q0, q1, q2⟩ := hB
    obtain rfl | rfl | rfl : a = 0 ∨ a = 1 ∨ a = 2 := by omega
    · exact q0
    · exact q1
    · exact q2
  obtain ⟨y, hyd⟩ : ∃ y, (i : Int) * t = y := ⟨_, rfl⟩
  rw [hyd] at hQ hy
  by_cases h1 : k ≤ (i : Int)
  · rw [if_pos (.inl h1)] at hQ
    simp (disch := omega) only [Option.toList_some, Option.toList_none, List.nil_append, List.cons_append, List.append_nil, true_and, and_true, not_true_eq_false, not_false_eq_true, true_implies, false_implies, implies_true, and_self, Int.reduceLT, Int.reduceLE, Int.reduceEq, Int.reduceNe, Int.reduceAdd, Int.reduceSub, Int.reduceMul, Int.reduceNeg, Int.reduceToNat, Int.toNat_natCast, ↓kk_ck, ↓kk_im, ↓kk_in, e_292, s_292_0, s_292_37, R1]
    exact hQ
  · by_cases h2 : M 114 (96 + a) ≤ (i : Int)
    · rw [if_pos (.inr (.inl h2))] at hQ
      simp (disch := omega) only [Option.toList_some, Option.toList_none, List.nil_append, List.cons_append, List.append_nil, true_and, and_true, not_true_eq_false, not_false_eq_true, true_implies, false_implies, implies_true, and_self, Int.reduceLT, Int.reduceLE, Int.reduceEq, Int.reduceNe, Int.reduceAdd, Int.reduceSub, Int.reduceMul, Int.reduceNeg, Int.reduceToNat, Int.toNat_natCast, ↓kk_ck, ↓kk_im, ↓kk_in, e_292, s_292_0, s_292_16, s_292_23, s_292_37, R1, k_241 hY ha]
      exact hQ
    · by_cases h3 : mIb (M 114) (a : Int) (u + y) v = true
      · have hp : mIp M (a : Int) (u + y) v := by
          unfold mIb at h3
          unfold mIp
          exact of_decide_eq_true h3
        rw [if_neg (by rintro (q | q | q); exact h1 q; exact h2 q; rw [h3] at q; cases q)] at hQ
        obtain ⟨-, -, p1, p2, p3, p4⟩ := hp
        have p2' : u + y < 6 := by
          obtain ⟨q0, q1, q2⟩ := hB
          revert p2; split <;> intro p2 <;> omega
        have p4' : v < 6 := by omega
        have hp : mIp M (a : Int) (u + y) v := by
          unfold mIb at h3
          unfold mIp
          exact of_decide_eq_true h3
        have ea : mHa a (u + y) v = fun w => if (a : Int) = 0 then 36 * v + 6 * (u + y) + w else if (a : Int) = 1 then 36 * v + 6 * w + (u + y) else 36 * w + 6 * v + (u + y) := by
          funext w
          unfold mHa
          obtain rfl | rfl | rfl : a = 0 ∨ a = 1 ∨ a = 2 := by omega
          · rfl
          · rfl
          · rfl
        rw [ea] at hQ
        by_cases hs : s = 0
        · rw [if_pos hs] at hQ
          clear ea h3
          simp (disch := omega) only [Option.toList_some, Option.toList_none, List.nil_append, List.cons_append, List.append_nil, true_and, and_true, not_true_eq_false, not_false_eq_true, true_implies, false_implies, implies_true, and_self, Int.reduceLT, Int.reduceLE, Int.reduceEq, Int.reduceNe, Int.reduceAdd, Int.reduceSub, Int.reduceMul, Int.reduceNeg, Int.reduceToNat, Int.toNat_natCast, ↓kk_ck, ↓kk_im, ↓kk_in, e_292, s_292_0, s_292_16, s_292_23, s_292_26, s_292_34, s_292_39, s_292_48, s_292_53, s_292_58, s_292_63, s_292_66, R1, k_241 hY ha, hyd, vi_32, k_247t hY hB hp, k_244, hs, ne_eq]
          exact hQ
        · rw [if_neg hs] at hQ
          clear ea h3
          simp (disch := omega) only [Option.toList_some, Option.toList_none, List.nil_append, List.cons_append, List.append_nil, true_and, and_true, not_true_eq_false, not_false_eq_true, true_implies, false_implies, implies_true, and_self, Int.reduceLT, Int.reduceLE, Int.reduceEq, Int.reduceNe, Int.reduceAdd, Int.reduceSub, Int.reduceMul, Int.reduceNeg, Int.reduceToNat, Int.toNat_natCast, ↓kk_ck, ↓kk_im, ↓kk_in, e_292, s_292_0, s_292_16, s_292_23, s_292_26, s_292_34, s_292_39, s_292_48, s_292_53, s_292_58, s_292_63, s_292_66, R1, k_241 hY ha, hyd, vi_32, k_247t hY hB hp, k_244, hs, ne_eq]
          exact hQ
      · have hp : ¬ mIp M (a : Int) (u + y) v := fun h => h3 (by
          unfold mIb
          exact decide_eq_true h)
        rw [if_pos (.inr (.inr (by revert h3; cases mIb (M 114) (a : Int) (u + y) v <;> simp)))] at hQ
        clear h3
        simp (disch := omega) only [Option.toList_some, Option.toList_none, List.nil_append, List.cons_append, List.append_nil, true_and, and_true, not_true_eq_false, not_false_eq_true, true_implies, false_implies, implies_true, and_self, Int.reduceLT, Int.reduceLE, Int.reduceEq, Int.reduceNe, Int.reduceAdd, Int.reduceSub, Int.reduceMul, Int.reduceNeg, Int.reduceToNat, Int.toNat_natCast, ↓kk_ck, ↓kk_im, ↓kk_in, e_292, s_292_0, s_292_16, s_292_23, s_292_26, s_292_34, s_292_37, R1, k_241 hY ha, hyd, vi_32, k_247f hY hB hp, ne_eq]
        exact hQ
theorem k_293 (hY : kY Y 151) (hB : mBx M) {h i : Nat} (hh : h < 16) (hH : mHo (M 114) h) (hi : i ≤ 6) (hD : 5 ≤ D) : vi_call GG D 293 [.inr (.inr 112), .inl (h : Int), .inl (i : Int)] (Y, M, nn) K ↔ K (some (.inl (mHc (M 114) h i))) (Y, M, nn) := by
  obtain ⟨D, rfl⟩ : ∃ k, D = k + 1 := ⟨D - 1, by omega⟩
  obtain ⟨R1, -, R3, -⟩ := y_112 hY (by omega)
  obtain ⟨w1, w2⟩ := y_114 hY (by omega)
  obtain ⟨p0, p1, p2, p3, p4, p5⟩ := hH
  refine vi_k (r := some (.inl _)) fun Q hQ => ?_
  unfold mHc at hQ
  have A := fun {D : Nat} {K : Option vi_V → vi_W → Prop} (hD : 4 ≤ D) => @k_292 D K Y M nn hY hB (M 114 (6 * h)).toNat i (M 114 (6 * h + 1)) (M 114 (6 * h + 2)) (M 114 (6 * h + 3)) (M 114 (6 * h + 4)) (M 114 (6 * h + 5) - 1) (by omega) p1 p2 (by omega) hi hD
  rw [show (((M 114 (6 * h)).toNat : Nat) : Int) = M 114 (6 * h) by omega] at A
  have a0 : (6 * (h : Int)).toNat = 6 * h := by omega
  have a1 : (6 * (h : Int) + 1).toNat = 6 * h + 1 := by omega
  have a2 : (6 * (h : Int) + 2).toNat = 6 * h + 2 := by omega
  have a3 : (6 * (h : Int) + 3).toNat = 6 * h + 3 := by omega
  have a4 : (6 * (h : Int) + 4).toNat = 6 * h + 4 := by omega
  have a5 : (6 * (h : Int) + 5).toNat = 6 * h + 5 := by omega
  simp (disch := omega) only [Option.toList_some, Option.toList_none, List.nil_append, List.cons_append, List.append_nil, true_and, and_true, not_true_eq_false, not_false_eq_true, true_implies, false_implies, implies_true, and_self, Int.reduceLT, Int.reduceLE, Int.reduceEq, Int.reduceNe, Int.reduceAdd, Int.reduceSub, Int.reduceMul, Int.reduceNeg, Int.reduceToNat, Int.toNat_natCast, ↓kk_ck, ↓kk_im, ↓kk_in, e_293, s_293_0, s_293_5, s_293_9, s_293_10, s_293_14, s_293_20, s_293_21, s_293_25, s_293_31, s_293_32, s_293_36, s_293_42, s_293_43, s_293_47, s_293_53, s_293_54, s_293_58, s_293_64, s_293_65, s_293_71, R1, R3, w1, w2, vi_32, a0, a1, a2, a3, a4, a5, A]
  exact hQ
theorem mHc_b {f : Nat → Int} {h i : Nat} (hB : (1 ≤ f 96 ∧ f 96 ≤ 6) ∧ (1 ≤ f 97 ∧ f 97 ≤ 6) ∧ (1 ≤ f 98 ∧ f 98 ≤ 6)) (hH : mHo f h) : mHc f h i = -1 ∨ 0 ≤ mHc f h i ∧ mHc f h i ≤ 215 := by
  unfold mHc mHl
  obtain ⟨p0, -, -, -, -, -⟩ := hH
  generalize f (6 * h + 1) + (i : Int) * (f (6 * h + 5) - 1) = u
  generalize f (6 * h + 2) = v
  generalize f (6 * h + 3) = s
  generalize f (6 * h + 4) = k
  obtain ⟨a, ha⟩ : ∃ a : Nat, (f (6 * h)).toNat = a := ⟨_, rfl⟩
  rw [ha]
  split
  · exact .inl rfl
  · rename_i q
    right
    have q1 : ¬ f (96 + a) ≤ (i : Int) := fun e => q (.inr (.inl e))
    have q2 : mIb f (a : Int) u v = true := by
      cases e : mIb f (a : Int) u v with
      | true => rfl
      | false => exact absurd (.inr (.inr e)) q
    unfold mIb at q2
    obtain ⟨-, -, c1, c2, c3, c4⟩ := of_decide_eq_true q2
    have c2' : u < 6 := by revert c2; split <;> intro c2 <;> omega
    have c4' : v < 6 := by revert c4; split <;> intro c4 <;> omega
    have hw : 0 ≤ (if s = 0 then (i : Int) else f (96 + a) - 1 - (i : Int)) ∧ (if s = 0 then (i : Int) else f (96 + a) - 1 - (i : Int)) ≤ 5 := by
      have : f (96 + a) ≤ 6 := by
        obtain rfl | rfl | rfl : a = 0 ∨ a = 1 ∨ a = 2 := by omega
        · exact hB.1.2
        · exact hB.2.1.2
        · exact hB.2.2.2
      split <;> omega
    generalize (if s = 0 then (i : Int) else f (96 + a) - 1 - (i : Int)) = w at hw
    unfold mHa
    split
    · omega
    · split <;> omega
theorem mHc_6 {f : Nat → Int} {h i : Nat} (hH : mHo f h) (hi : 6 ≤ i) : mHc f h i = -1 := by
  unfold mHc mHl
  obtain ⟨-, -, -, -, p4, -⟩ := hH
  rw [if_pos (.inl (by omega))]
/-- how often a HOLE goes through a CELL, from its i-th on -/
def mSt (f : Nat → Int) (h : Nat) (c : Int) : Nat → Nat → Int
  | 0, _ => 0
  | k + 1, i => if mHc f h i = -1 then 0 else (if mHc f h i = c then 1 else 0) + mSt f h c k (i + 1)
theorem mSt_r {f : Nat → Int} {h : Nat} {c : Int} (hH : mHo f h) : ∀ k i, i ≤ 6 → 0 ≤ mSt f h c k i ∧ mSt f h c k i ≤ 6 - (i : Int)
  | 0, i, hi => by rw [mSt]; omega
  | k + 1, i, hi => by
    rw [mSt]
    split
    · omega
    · rename_i q
      have h6 : i < 6 := Nat.lt_of_not_le fun e => q (mHc_6 hH e)
      have := mSt_r (c := c) hH k (i + 1) (by omega)
      split <;> omega
def mAt (f : Nat → Int) (c : Int) : Nat → Int
  | 0 => 0
  | h + 1 => mAt f c h + mSt f h c 7 0
theorem mAt_r {f : Nat → Int} {c : Int} : ∀ n, (∀ h, h < n → mHo f h) → 0 ≤ mAt f c n ∧ mAt f c n ≤ 6 * (n : Int)
  | 0, _ => by rw [mAt]; omega
  | n + 1, hH => by
    have a := mAt_r (c := c) n (fun h hh => hH h (by omega))
    have b := mSt_r (c := c) (hH n (by omega)) 7 0 (by omega)
    rw [mAt]
    omega
/-- one HOLE, from its i-th CELL -/
theorem h_294i (hY : kY Y 151) {h : Nat} (hh : h < 16) (hD : 5 ≤ D) {Q : Option vi_V → vi_W → Prop} : ∀ (k i : Nat) (M : vi_M) (r : Nat → Int), k + i = 7 → i ≤ 6 → mBx M → mHo (M 114) h → M 124 = r → (∀ c, c < 216 → 0 ≤ r c ∧ r c ≤ 6 * (h : Int) + i) → (∀ l2, vi_ok GG D 294 44 [some (.inr (.inr 112)), some (.inl ((h + 1 : Nat) : Int)), l2] [] (Y, vi_rs M 124 (fun c => if c < 216 then r c + mSt (M 114) h (c : Int) k i else r c), nn) Q) → vi_ok GG D 294 58 [some (.inr (.inr 112)), some (.inl (h : Int)), some (.inl (i : Int))] [] (Y, M, nn) Q := by
  obtain ⟨R1, -, R3, -, -, -, -, -, -, -, -, -, R26, -⟩ := y_112 hY (by omega)
  obtain ⟨w1, w2⟩ := y_124 hY (by omega)
  intro k
  induction k with
  | zero => intro i M r hk hi; omega
  | succ k ih =>
    intro i M r hk hi hB hH hr hb hQ
    rw [s_294_58]
    by_cases q : mHc (M 114) h i = -1
    · have := hQ (some (.inl (i : Int)))
      rw [show (fun c : Nat => if c < 216 then r c + mSt (M 114) h (c : Int) (k + 1) i else r c) = r by
        funext c
        rw [mSt, if_pos q]
        split <;> omega, vi_rs_id hr] at this
      clear hQ ih
      simp (disch := omega) only [Option.toList_some, Option.toList_none, List.nil_append, List.cons_append, List.append_nil, true_and, and_true, not_true_eq_false, not_false_eq_true, true_implies, false_implies, implies_true, and_self, Int.reduceLT, Int.reduceLE, Int.reduceEq, Int.reduceNe, Int.reduceAdd, Int.reduceSub, Int.reduceMul, Int.reduceNeg, Int.reduceToNat, Int.toNat_natCast, ↓kk_ck, ↓kk_im, ↓kk_in, s_294_64, s_294_89, R1, k_293 hY hB hh hH, q, vi_inc]
      exact this
    · have hc := (mHc_b (i := i) hB hH).resolve_left q
      have h6 : i < 6 := Nat.lt_of_not_le fun e => q (mHc_6 hH e)
      obtain ⟨y, hy⟩ : ∃ y : Nat, mHc (M 114) h i = (y : Int) := ⟨(mHc (M 114) h i).toNat, by omega⟩
      have hyb := hb y (by omega)
      have := ih (i + 1) (vi_rs M 124 (vi_u r y (r y + 1))) (vi_u r y (r y + 1)) (by omega) (by omega) (mBx_c (vi_rs_o (by omega)) hB) (by rw [vi_rs_o (by omega)]; exact hH) vi_rs_s (fun c hc => by
        have := hb c hc
        unfold vi_u
        split
        · rename_i e; subst e; omega
        · omega) (fun l2 => by
        have := hQ l2
        rw [vi_rs_rs, vi_rs_o (by omega)]
        rw [show (fun c : Nat => if c < 216 then r c + mSt (M 114) h (c : Int) (k + 1) i else r c) = (fun c : Nat => if c < 216 then vi_u r y (r y + 1) c + mSt (M 114) h (c : Int) k (i + 1) else vi_u r y (r y + 1) c) by
          funext c
          rw [mSt, if_neg q, hy]
          unfold vi_u
          by_cases e : c = y
          · subst e
            rw [if_pos rfl, if_pos rfl, if_pos (by omega), if_pos (by omega)]
            omega
          · rw [if_neg e, if_neg (c := ((y : Int) = (c : Int))) (by omega)]
            split <;> omega] at this
        exact this)
      clear hQ ih hb
      simp (disch := omega) only [Option.toList_some, Option.toList_none, List.nil_append, List.cons_append, List.append_nil, true_and, and_true, not_true_eq_false, not_false_eq_true, true_implies, false_implies, implies_true, and_self, Int.reduceLT, Int.reduceLE, Int.reduceEq, Int.reduceNe, Int.reduceAdd, Int.reduceSub, Int.reduceMul, Int.reduceNeg, Int.reduceToNat, Int.toNat_natCast, ↓kk_ck, ↓kk_im, ↓kk_in, s_294_64, s_294_68, s_294_72, s_294_78, s_294_80, s_294_83, R1, R26, w1, w2, k_293 hY hB hh hH, hy, hr, Int.toNat_natCast, vi_32, vi_inc, vi_ms_rs]
      exact this
end
