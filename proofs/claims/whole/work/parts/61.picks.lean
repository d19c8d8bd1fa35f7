/-! Contracts of Picks (at 107), first part: SCREWS. -/
theorem bN_n : ∀ q, bN q (fun _ => false) = 0
  | 0 => rfl
  | q + 1 => by rw [bN, bN_n q]; simp
def hCm (x y z : Int) (L : List (Nat → Int)) (a b : Nat) : Bool := sOr 6 (fun k => decide (gOf x y z (rL L a) (k : Int) ≠ -1) && sOr 6 (fun l => decide (gOf x y z (rL L b) (l : Int) = gOf x y z (rL L a) (k : Int))))
def mtF (x y z : Int) (L : List (Nat → Int)) (s : Nat) : Nat → Bool := fun o => decide (s < o) && hCm x y z L s o
def mt (x y z : Int) (L : List (Nat → Int)) (s : Nat) : Nat := bN L.length (mtF x y z L s)
def gAp (x y z : Int) (L : List (Nat → Int)) (set : Nat) : Bool := ! sOr 8 (fun s => set.testBit s && decide (mt x y z L s &&& set ≠ 0))
def apF (x y z : Int) (L : List (Nat → Int)) : Nat → Nat
  | 0 => 0
  | k + 1 => if bC (apF x y z L k) < bC k ∧ gAp x y z L k = true then k else apF x y z L k
def mtS (x y z : Int) (L : List (Nat → Int)) : Nat → Nat
  | 0 => 0
  | k + 1 => mtS x y z L k + bC (mt x y z L k)
theorem apF_le {x y z : Int} {L : List (Nat → Int)} : ∀ k, apF x y z L k ≤ k
  | 0 => Nat.le_refl _
  | k + 1 => by have := apF_le (x := x) (y := y) (z := z) (L := L) k; rw [apF]; split <;> omega
theorem mt_lt {x y z : Int} {L : List (Nat → Int)} (h : L.length ≤ 8) (s : Nat) : mt x y z L s < 256 := by
  have h1 := bN_lt L.length (mtF x y z L s)
  have h2 : 2 ^ L.length ≤ 2 ^ 8 := Nat.pow_le_pow_right (by omega) h
  unfold mt
  omega
section
variable {d : Nat} {K : Option vi_V → vi_W → Prop} {Y : vi_Y} {M : vi_M} {n : Nat × Nat} {L : List (Nat → Int)}
theorem k_110 (hY : kY Y 151) (hb : gB (M 30 8) (M 30 9) (M 30 10)) (hr : rOK (M 35) (M 36) L) (hl : L.length ≤ 8) (hg : ∀ r, r < L.length → gH (rL L r)) {a b : Nat} (ha : a < L.length) (hbl : b < L.length) : vi_call GG (d + 3) 110 [.inr (.inr 107), .inl (a : Int), .inl (b : Int)] (Y, M, n) K ↔ K (some (.inl (vi_b (hCm (M 30 8) (M 30 9) (M 30 10) L a b)))) (Y, M, n) := by
  obtain ⟨a1, a2, a3, a4, a5⟩ := y_107 hY (by omega)
  obtain ⟨b1, b2, b3, b4, b5, b6, b7⟩ := y_30 hY (by omega)
  have r1 := kR_35 hY (by omega)
  refine vi_k (r := some (.inl _)) fun Q hQ => ?_
  have ka := fun {K : Option vi_V → vi_W → Prop} (k : Nat) (hk : k < 6) => @k_53 d 30 K Y M n b1 hb 35 8 L r1 hr hl a k ha (hg a ha) hk
  have kb := fun {K : Option vi_V → vi_W → Prop} (k : Nat) (hk : k < 6) => @k_53 d 30 K Y M n b1 hb 35 8 L r1 hr hl b k hbl (hg b hbl) hk
  generalize M 30 8 = x at *
  generalize M 30 9 = y at *
  generalize M 30 10 = z at *
  have loop : ∀ k : Nat, k ≤ 6 → ∀ l4 l5, sOr k (fun k => decide (gOf x y z (rL L a) (k : Int) ≠ -1) && sOr 6 (fun l => decide (gOf x y z (rL L b) (l : Int) = gOf x y z (rL L a) (k : Int)))) = false → vi_ok GG (d + 2) 110 2 [some (.inr (.inr 107)), some (.inl (a : Int)), some (.inl (b : Int)), some (.inl (k : Int)), l4, l5] [] (Y, M, n) Q := by
    refine vi_dn 6 ?_ fun k hk ih => ?_
    · intro l4 l5 h
      rw [hCm, h] at hQ
      rw [s_110_2]
      simp (disch := omega) only [Option.toList_some, Option.toList_none, List.nil_append, List.cons_append, List.append_nil, true_and, and_true, not_true_eq_false, not_false_eq_true, true_implies, false_implies, implies_true, and_self, Int.reduceLT, Int.reduceLE, Int.reduceEq, Int.reduceNe, Int.reduceAdd, Int.reduceSub, Int.reduceMul, Int.reduceNeg, Int.reduceToNat, Int.toNat_natCast, ↓kk_ck, ↓kk_im, ↓kk_in, s_110_0, s_110_8, s_110_36, s_110_42, s_110_64, s_110_66, s_110_72, s_110_78, s_110_12, s_110_46, s_110_16, s_110_50, s_110_19, s_110_53, s_110_24, s_110_59]
      exact hQ
    · intro l4 l5 h
      have hkk := fun {K : Option vi_V → vi_W → Prop} => @ka K k hk
      have hT := fun (hh : (decide (gOf x y z (rL L a) (k : Int) ≠ -1) && sOr 6 (fun l => decide (gOf x y z (rL L b) (l : Int) = gOf x y z (rL L a) (k : Int)))) = true) => (show Q (some (.inl 1)) (Y, M, n) by rw [hCm, sOr_iff.mpr ⟨k, hk, hh⟩] at hQ; exact hQ)
      have hF := fun (hh : (decide (gOf x y z (rL L a) (k : Int) ≠ -1) && sOr 6 (fun l => decide (gOf x y z (rL L b) (l : Int) = gOf x y z (rL L a) (k : Int)))) = false) (l4 l5 : Option vi_V) => ih l4 l5 (by rw [sOr, h, hh]; rfl)
      generalize gOf x y z (rL L a) (k : Int) = c at *
      clear ih hQ h
      have inner : ∀ l : Nat, l ≤ 6 → sOr l (fun l => decide (gOf x y z (rL L b) (l : Int) = c)) = false → c ≠ -1 → vi_ok GG (d + 2) 110 29 [some (.inr (.inr 107)), some (.inl (a : Int)), some (.inl (b : Int)), some (.inl (k : Int)), some (.inl c), some (.inl (l : Int))] [] (Y, M, n) Q := by
        refine vi_dn 6 ?_ fun l hl ih => ?_
        · intro h hc
          have := hF (by rw [h, Bool.and_false]) (some (.inl c)) (some (.inl 6))
          rw [s_110_29]
          simp (disch := omega) only [Option.toList_some, Option.toList_none, List.nil_append, List.cons_append, List.append_nil, true_and, and_true, not_true_eq_false, not_false_eq_true, true_implies, false_implies, implies_true, and_self, Int.reduceLT, Int.reduceLE, Int.reduceEq, Int.reduceNe, Int.reduceAdd, Int.reduceSub, Int.reduceMul, Int.reduceNeg, Int.reduceToNat, Int.toNat_natCast, ↓kk_ck, ↓kk_im, ↓kk_in, s_110_0, s_110_8, s_110_36, s_110_42, s_110_64, s_110_66, s_110_72, s_110_78, s_110_12, s_110_46, s_110_16, s_110_50, s_110_19, s_110_53, s_110_24, s_110_59, vi_inc]
          exact this
        · intro h hc
          have hkl := fun {K : Option vi_V → vi_W → Prop} => @kb K l hl
          rw [s_110_29]
          by_cases he : gOf x y z (rL L b) (l : Int) = c
          · have := hT (by rw [decide_eq_true hc, sOr_iff.mpr ⟨l, hl, decide_eq_true he⟩]; rfl)
            clear hT hF ih
            simp (disch := omega) only [Option.toList_some, Option.toList_none, List.nil_append, List.cons_append, List.append_nil, true_and, and_true, not_true_eq_false, not_false_eq_true, true_implies, false_implies, implies_true, and_self, Int.reduceLT, Int.reduceLE, Int.reduceEq, Int.reduceNe, Int.reduceAdd, Int.reduceSub, Int.reduceMul, Int.reduceNeg, Int.reduceToNat, Int.toNat_natCast, ↓kk_ck, ↓kk_im, ↓kk_in, s_110_0, s_110_8, s_110_36, s_110_42, s_110_64, s_110_66, s_110_72, s_110_78, s_110_12, s_110_46, s_110_16, s_110_50, s_110_19, s_110_53, s_110_24, s_110_59, a1, a2, b1, b4, ne_eq, hc, hkl, he]
            exact this
          · have := ih (by rw [sOr, h, decide_eq_false he]; rfl) hc
            clear hT hF ih
            simp (disch := omega) only [Option.toList_some, Option.toList_none, List.nil_append, List.cons_append, List.append_nil, true_and, and_true, not_true_eq_false, not_false_eq_true, true_implies, false_implies, implies_true, and_self, Int.reduceLT, Int.reduceLE, Int.reduceEq, Int.reduceNe, Int.reduceAdd, Int.reduceSub, Int.reduceMul, Int.reduceNeg, Int.reduceToNat, Int.toNat_natCast, ↓kk_ck, ↓kk_im, ↓kk_in, s_110_0, s_110_8, s_110_36, s_110_42, s_110_64, s_110_66, s_110_72, s_110_78, s_110_12, s_110_46, s_110_16, s_110_50, s_110_19, s_110_53, s_110_24, s_110_59, a1, a2, b1, b4, ne_eq, hc, hkl, he, vi_inc]
            exact this
      rw [s_110_2]
      by_cases hc : c = -1
      · have := hF (by rw [decide_eq_false (fun k => k hc)]; rfl) (some (.inl c)) (some (.inl 0))
        clear hT hF inner
        simp (disch := omega) only [Option.toList_some, Option.toList_none, List.nil_append, List.cons_append, List.append_nil, true_and, and_true, not_true_eq_false, not_false_eq_true, true_implies, false_implies, implies_true, and_self, Int.reduceLT, Int.reduceLE, Int.reduceEq, Int.reduceNe, Int.reduceAdd, Int.reduceSub, Int.reduceMul, Int.reduceNeg, Int.reduceToNat, Int.toNat_natCast, ↓kk_ck, ↓kk_im, ↓kk_in, s_110_0, s_110_8, s_110_36, s_110_42, s_110_64, s_110_66, s_110_72, s_110_78, s_110_12, s_110_46, s_110_16, s_110_50, s_110_19, s_110_53, s_110_24, s_110_59, a1, a2, b1, b4, hkk]
        rw [s_110_29]
        simp (disch := omega) only [Option.toList_some, Option.toList_none, List.nil_append, List.cons_append, List.append_nil, true_and, and_true, not_true_eq_false, not_false_eq_true, true_implies, false_implies, implies_true, and_self, Int.reduceLT, Int.reduceLE, Int.reduceEq, Int.reduceNe, Int.reduceAdd, Int.reduceSub, Int.reduceMul, Int.reduceNeg, Int.reduceToNat, Int.toNat_natCast, ↓kk_ck, ↓kk_im, ↓kk_in, s_110_0, s_110_8, s_110_36, s_110_42, s_110_64, s_110_66, s_110_72, s_110_78, s_110_12, s_110_46, s_110_16, s_110_50, s_110_19, s_110_53, s_110_24, s_110_59, hc, vi_inc]
        rw [hc] at this
        exact this
      · have := inner 0 (by omega) rfl hc
        clear hT hF inner
        simp (disch := omega) only [Option.toList_some, Option.toList_none, List.nil_append, List.cons_append, List.append_nil, true_and, and_true, not_true_eq_false, not_false_eq_true, true_implies, false_implies, implies_true, and_self, Int.reduceLT, Int.reduceLE, Int.reduceEq, Int.reduceNe, Int.reduceAdd, Int.reduceSub, Int.reduceMul, Int.reduceNeg, Int.reduceToNat, Int.toNat_natCast, ↓kk_ck, ↓kk_im, ↓kk_in, s_110_0, s_110_8, s_110_36, s_110_42, s_110_64, s_110_66, s_110_72, s_110_78, s_110_12, s_110_46, s_110_16, s_110_50, s_110_19, s_110_53, s_110_24, s_110_59, a1, a2, b1, b4, hkk]
        exact this
  rw [e_110, s_110_0]
  exact loop 0 (by omega) none none rfl
theorem k_109 (hY : kY Y 151) (hb : gB (M 30 8) (M 30 9) (M 30 10)) (hr : rOK (M 35) (M 36) L) (hl : L.length ≤ 8) (hg : ∀ r, r < L.length → gH (rL L r)) : vi_call GG (d + 4) 109 [.inr (.inr 107)] (Y, M, n) K ↔ K none (Y, vi_rs M 110 (vi_m 8 (fun s => (mt (M 30 8) (M 30 9) (M 30 10) L s : Int)) (M 110)), n) := by
  obtain ⟨a1, a2, a3, a4, a5⟩ := y_107 hY (by omega)
  obtain ⟨b1, b2, b3, b4, b5, b6, b7⟩ := y_30 hY (by omega)
  obtain ⟨g1, g2⟩ := y_110 hY (by omega)
  have r1 := kR_35 hY (by omega)
  refine vi_k (r := none) fun Q hQ => ?_
  have m30 : ∀ f, vi_rs M 110 f 30 = M 30 := fun f => by simp (disch := omega) only [vi_rs_s, vi_rs_o]
  have m35 : ∀ f, vi_rs M 110 f 35 = M 35 := fun f => by simp (disch := omega) only [vi_rs_s, vi_rs_o]
  have m36 : ∀ f, vi_rs M 110 f 36 = M 36 := fun f => by simp (disch := omega) only [vi_rs_s, vi_rs_o]
  have k110 := fun {K : Option vi_V → vi_W → Prop} {f : Nat → Int} {a b : Nat} (ha : a < L.length) (hbl : b < L.length) => @k_110 d K Y (vi_rs M 110 f) n L hY (by rw [m30]; exact hb) (by rw [m35, m36]; exact hr) hl hg a b ha hbl
  simp only [m30] at k110
  generalize M 30 8 = x at *
  generalize M 30 9 = y at *
  generalize M 30 10 = z at *
  have loop : ∀ s : Nat, s ≤ 8 → ∀ l2, vi_ok GG (d + 3) 109 2 [some (.inr (.inr 107)), some (.inl (s : Int)), l2] [] (Y, vi_rs M 110 (vi_m s (fun s => (mt x y z L s : Int)) (M 110)), n) Q := by
    refine vi_dn 8 ?_ fun s hs ih => ?_
    · intro l2
      rw [s_109_2]
      simp (disch := omega) only [Option.toList_some, Option.toList_none, List.nil_append, List.cons_append, List.append_nil, true_and, and_true, not_true_eq_false, not_false_eq_true, true_implies, false_implies, implies_true, and_self, Int.reduceLT, Int.reduceLE, Int.reduceEq, Int.reduceNe, Int.reduceAdd, Int.reduceSub, Int.reduceMul, Int.reduceNeg, Int.reduceToNat, Int.toNat_natCast, ↓kk_ck, ↓kk_im, ↓kk_in, s_109_0, s_109_11, s_109_36, s_109_52, s_109_58, s_109_59, s_109_67, s_109_73, s_109_7, s_109_15, s_109_27, s_109_40, s_109_61, s_109_8, s_109_18, s_109_30, s_109_43, s_109_33, s_109_49, a1, a2, a3, a4, a5, g1, g2]
      exact hQ
    · intro l2
      clear hQ
      have e0 : ∀ o : Nat, o ≤ s → bN (s + 1) (mtF x y z L s) = 0 := fun o _ => by
        have : bN (s + 1) (mtF x y z L s) = bN (s + 1) (fun _ => false) := bN_c fun i hi => by unfold mtF; rw [decide_eq_false (by omega), Bool.false_and]
        rw [this, bN_n]
      have inner : ∀ o : Nat, o ≤ L.length → s < o → vi_ok GG (d + 3) 109 22 [some (.inr (.inr 107)), some (.inl (s : Int)), some (.inl (o : Int))] [] (Y, vi_rs M 110 (vi_u (vi_m s (fun s => (mt x y z L s : Int)) (M 110)) s (bN o (mtF x y z L s) : Int)), n) Q := by
        refine vi_dn L.length ?_ fun o ho iho => ?_
        · intro hso
          have := ih (some (.inl (L.length : Int)))
          rw [← vi_m_s (z := s) (f := fun s => (mt x y z L s : Int)) (g := M 110) (v := (bN L.length (mtF x y z L s) : Int)) rfl] at this
          clear ih
          rw [s_109_22]
          simp (disch := omega) only [Option.toList_some, Option.toList_none, List.nil_append, List.cons_append, List.append_nil, true_and, and_true, not_true_eq_false, not_false_eq_true, true_implies, false_implies, implies_true, and_self, Int.reduceLT, Int.reduceLE, Int.reduceEq, Int.reduceNe, Int.reduceAdd, Int.reduceSub, Int.reduceMul, Int.reduceNeg, Int.reduceToNat, Int.toNat_natCast, ↓kk_ck, ↓kk_im, ↓kk_in, s_109_0, s_109_11, s_109_36, s_109_52, s_109_58, s_109_59, s_109_67, s_109_73, s_109_7, s_109_15, s_109_27, s_109_40, s_109_61, s_109_8, s_109_18, s_109_30, s_109_43, s_109_33, s_109_49, a1, a2, a3, a4, a5, b1, b4, e_149, s_149_0, s_149_4, r1.1, m35, hr.1, vi_inc]
          exact this
        · intro hso
          have iho := iho (by omega)
          have hlt := bN_lt o (mtF x y z L s)
          have hp2 : 2 ^ o ≤ 2 ^ 8 := Nat.pow_le_pow_right (by omega) (by omega)
          have hor := vi_or32n (x := bN o (mtF x y z L s)) (y := 1 <<< o) (by omega) (by rw [Nat.shiftLeft_eq]; omega)
          have hor0 := vi_or32n (x := bN o (mtF x y z L s)) (y := 0) (by omega) (by omega)
          have hsh := vi_shl32n (x := 1) (n := o) (by omega) (by rw [Nat.shiftLeft_eq]; omega)
          have e1 : ((1 : Nat) : Int) = 1 := rfl
          have ez : ((0 : Nat) : Int) = 0 := rfl
          rw [e1] at hsh
          rw [ez, Nat.or_zero] at hor0
          have kk := fun {K : Option vi_V → vi_W → Prop} {f : Nat → Int} => @k110 K f s o (by omega) ho
          have hm : mtF x y z L s o = hCm x y z L s o := by unfold mtF; rw [decide_eq_true hso, Bool.true_and]
          rw [bN, hm] at iho
          rw [s_109_22]
          cases hc : hCm x y z L s o
          · rw [hc, Bool.toNat_false, Nat.zero_shiftLeft, Nat.or_zero] at iho
            simp (disch := omega) only [Option.toList_some, Option.toList_none, List.nil_append, List.cons_append, List.append_nil, true_and, and_true, not_true_eq_false, not_false_eq_true, true_implies, false_implies, implies_true, and_self, Int.reduceLT, Int.reduceLE, Int.reduceEq, Int.reduceNe, Int.reduceAdd, Int.reduceSub, Int.reduceMul, Int.reduceNeg, Int.reduceToNat, Int.toNat_natCast, ↓kk_ck, ↓kk_im, ↓kk_in, s_109_0, s_109_11, s_109_36, s_109_52, s_109_58, s_109_59, s_109_67, s_109_73, s_109_7, s_109_15, s_109_27, s_109_40, s_109_61, s_109_8, s_109_18, s_109_30, s_109_43, s_109_33, s_109_49, a1, a2, a3, a4, a5, b1, b4, e_149, s_149_0, s_149_4, r1.1, m35, hr.1, vi_rs_s, vi_u_s, kk, hc, vi_bf, hor0, vi_ms_rs, vi_rs_rs, vi_u_u, g1, g2, vi_inc]
            exact iho
          · rw [hc, Bool.toNat_true] at iho
            simp (disch := omega) only [Option.toList_some, Option.toList_none, List.nil_append, List.cons_append, List.append_nil, true_and, and_true, not_true_eq_false, not_false_eq_true, true_implies, false_implies, implies_true, and_self, Int.reduceLT, Int.reduceLE, Int.reduceEq, Int.reduceNe, Int.reduceAdd, Int.reduceSub, Int.reduceMul, Int.reduceNeg, Int.reduceToNat, Int.toNat_natCast, ↓kk_ck, ↓kk_im, ↓kk_in, s_109_0, s_109_11, s_109_36, s_109_52, s_109_58, s_109_59, s_109_67, s_109_73, s_109_7, s_109_15, s_109_27, s_109_40, s_109_61, s_109_8, s_109_18, s_109_30, s_109_43, s_109_33, s_109_49, a1, a2, a3, a4, a5, b1, b4, e_149, s_149_0, s_149_4, r1.1, m35, hr.1, vi_rs_s, vi_u_s, kk, hc, vi_bt, hsh, hor, vi_ms_rs, vi_rs_rs, vi_u_u, g1, g2, vi_inc]
            exact iho
      rw [s_109_2]
      by_cases hsl : s + 1 ≤ L.length
      · have := inner (s + 1) hsl (by omega)
        rw [e0 0 (by omega)] at this
        clear inner ih
        simp (disch := omega) only [Option.toList_some, Option.toList_none, List.nil_append, List.cons_append, List.append_nil, true_and, and_true, not_true_eq_false, not_false_eq_true, true_implies, false_implies, implies_true, and_self, Int.reduceLT, Int.reduceLE, Int.reduceEq, Int.reduceNe, Int.reduceAdd, Int.reduceSub, Int.reduceMul, Int.reduceNeg, Int.reduceToNat, Int.toNat_natCast, ↓kk_ck, ↓kk_im, ↓kk_in, s_109_0, s_109_11, s_109_36, s_109_52, s_109_58, s_109_59, s_109_67, s_109_73, s_109_7, s_109_15, s_109_27, s_109_40, s_109_61, s_109_8, s_109_18, s_109_30, s_109_43, s_109_33, s_109_49, a1, a2, a3, a4, a5, vi_ms_rs, vi_rs_s, vi_rs_rs, g1, g2, vi_inc]
        exact this
      · have hz : mt x y z L s = 0 := by
          unfold mt
          have : bN L.length (mtF x y z L s) = bN L.length (fun _ => false) := bN_c fun i hi => by unfold mtF; rw [decide_eq_false (by omega), Bool.false_and]
          rw [this, bN_n]
        have := ih (some (.inl ((s + 1 : Nat) : Int)))
        rw [← vi_m_s (z := s) (f := fun s => (mt x y z L s : Int)) (g := M 110) (v := 0) (by rw [hz]; rfl)] at this
        clear inner ih
        simp (disch := omega) only [Option.toList_some, Option.toList_none, List.nil_append, List.cons_append, List.append_nil, true_and, and_true, not_true_eq_false, not_false_eq_true, true_implies, false_implies, implies_true, and_self, Int.reduceLT, Int.reduceLE, Int.reduceEq, Int.reduceNe, Int.reduceAdd, Int.reduceSub, Int.reduceMul, Int.reduceNeg, Int.reduceToNat, Int.toNat_natCast, ↓kk_ck, ↓kk_im, ↓kk_in, s_109_0, s_109_11, s_109_36, s_109_52, s_109_58, s_109_59, s_109_67, s_109_73, s_109_7, s_109_15, s_109_27, s_109_40, s_109_61, s_109_8, s_109_18, s_109_30, s_109_43, s_109_33, s_109_49, a1, a2, a3, a4, a5, vi_ms_rs, vi_rs_s, vi_rs_rs, g1, g2, vi_inc]
        rw [s_109_22]
        simp (disch := omega) only [Option.toList_some, Option.toList_none, List.nil_append, List.cons_append, List.append_nil, true_and, and_true, not_true_eq_false, not_false_eq_true, true_implies, false_implies, implies_true, and_self, Int.reduceLT, Int.reduceLE, Int.reduceEq, Int.reduceNe, Int.reduceAdd, Int.reduceSub, Int.reduceMul, Int.reduceNeg, Int.reduceToNat, Int.toNat_natCast, ↓kk_ck, ↓kk_im, ↓kk_in, s_109_0, s_109_11, s_109_36, s_109_52, s_109_58, s_109_59, s_109_67, s_109_73, s_109_7, s_109_15, s_109_27, s_109_40, s_109_61, s_109_8, s_109_18, s_109_30, s_109_43, s_109_33, s_109_49, a1, a2, a3, a4, a5, b1, b4, e_149, s_149_0, s_149_4, r1.1, m35, hr.1, vi_inc]
        exact this
  have := loop 0 (by omega) none
  rw [vi_m_0, vi_rs_id rfl] at this
  rw [e_109, s_109_0]
  exact this
end
