/-! Pairs: law. -/
theorem rdC_t {cd vl : Nat → Int} {nt : Nat} (h : ∀ i, nt ≤ i → cd i = 0) {f i l : Nat} (hi : i ≤ nt) (hf : 8 * nt + 10 ≤ f) : ∃ b i' l' c, rdC cd vl f i l = some (b, i', l', c) ∧ (b = true → i' ≤ nt) := by
  have lt : ∀ i k, cd i = k → k ≠ 0 → i < nt := fun i k hk h0 => Nat.lt_of_not_le fun q => h0 (by rw [← hk]; exact h i q)
  unfold rdC
  by_cases hk : cd i = 1 ∨ cd i = 2 ∨ cd i = 3
  · rw [if_pos hk]
    have hin : i < nt := by rcases hk with e | e | e <;> exact lt i _ e (by decide)
    have tail : ∀ (i' l' : Nat) (b : gDen), i' ≤ nt → ∃ b2 i2 l2 c2, (if cd i' = 4 then (match rdP cd vl f 5 0 (i' + 1) l' b with
      | none => none
      | some (false, i2, l2, _) => some (false, i2, l2, 0, none, none)
      | some (true, i2, l2, c) => some (true, i2, l2, cd i - 1, if cd i = 1 then some b else none, some c)) else some (true, i', l', cd i - 1, if cd i = 1 then some b else none, none)) = (some (b2, i2, l2, c2) : Option (Bool × Nat × Nat × gCla)) ∧ (b2 = true → i2 ≤ nt) := by
      intro i' l' b hi'
      by_cases h4 : cd i' = 4
      · rw [if_pos h4]
        have hin' := lt i' _ h4 (by decide)
        obtain ⟨b2, i2, l2, c2, e, e1, e2⟩ := @rdP_t cd vl nt h f 5 0 (i' + 1) l' b (by omega) (by omega) (by rw [gRk_5]; omega)
        rw [e]
        cases b2
        · exact ⟨_, _, _, _, rfl, fun q => by cases q⟩
        · exact ⟨_, _, _, _, rfl, fun _ => e1⟩
      · rw [if_neg h4]
        exact ⟨_, _, _, _, rfl, fun _ => hi'⟩
    by_cases h1 : cd i = 1
    · rw [if_pos h1]
      obtain ⟨b2, i2, l2, c2, e, e1, e2⟩ := @rdP_t cd vl nt h f 2 0 (i + 1) l (fun _ => none) (by omega) (by omega) (by rw [gRk_2]; omega)
      rw [e]
      cases b2
      · exact ⟨_, _, _, _, rfl, fun q => by cases q⟩
      · exact tail i2 l2 c2 e1
    · rw [if_neg h1]
      exact tail (i + 1) l (fun _ => none) hin
  · rw [if_neg hk]
    exact ⟨_, _, _, _, rfl, fun q => by cases q⟩
theorem rdL_t {cd vl : Nat → Int} {en : Nat → Bool} {nt f : Nat} (h : ∀ i, nt ≤ i → cd i = 0) (hf : 8 * nt + 10 ≤ f) : ∀ (k i l : Nat) (cs : List gCla), i ≤ nt → ∃ r i', rdL cd vl en f k i l cs = some (r, i') := by
  intro k
  induction k with
  | zero => intro i l cs _; exact ⟨_, _, rfl⟩
  | succ k ih =>
    intro i l cs hi
    rw [rdL]
    obtain ⟨b, i', l', c, e, e1⟩ := rdC_t (vl := vl) (l := l) h hi hf
    rw [e]
    cases b
    · exact ⟨_, _, rfl⟩
    · dsimp only
      by_cases h5 : cd i' = 159
      · rw [if_pos h5]
        have : i' < nt := Nat.lt_of_not_le fun q => by rw [h i' q] at h5; omega
        exact ih (i' + 1) l' _ this
      · rw [if_neg h5]
        by_cases h6 : en i' = true
        · rw [if_pos h6]; exact ⟨_, _, rfl⟩
        · rw [if_neg h6]; exact ⟨_, _, rfl⟩
theorem rdL_en {cd vl : Nat → Int} {en en' : Nat → Bool} {nt f : Nat} (h : ∀ i, nt ≤ i → cd i = 0) (hf : 8 * nt + 10 ≤ f) (he : ∀ i, i ≤ nt → en i = en' i) : ∀ (k i l : Nat) (cs : List gCla), i ≤ nt → rdL cd vl en f k i l cs = rdL cd vl en' f k i l cs := by
  intro k
  induction k with
  | zero => intro i l cs _; rfl
  | succ k ih =>
    intro i l cs hi
    rw [rdL, rdL]
    obtain ⟨b, i', l', c, e, e1⟩ := rdC_t (vl := vl) (l := l) h hi hf
    rw [e]
    cases b
    · rfl
    · dsimp only
      by_cases h5 : cd i' = 159
      · rw [if_pos h5, if_pos h5]
        have : i' < nt := Nat.lt_of_not_le fun q => by rw [h i' q] at h5; omega
        exact ih (i' + 1) l' _ this
      · rw [if_neg h5, if_neg h5, he i' (e1 rfl)]
theorem tVl_p {b : Nat → Int} (hb : tOk b) {n i : Nat} : 0 ≤ tVl b n i := by
  unfold tVl
  by_cases h : tKd b n (tI b n i) = 2
  · rw [if_pos h]
    refine (tV_b _ _ 0 (fun j hj => ?_) (by decide) (by decide)).1
    have := tE_d h j hj
    rw [← tB_s hb (by omega)]
    exact this
  · rw [if_neg h]; exact Int.le_refl _
theorem rLw_a {a a' : Nat} {CS CS' : Nat → List gCla} {f g gl : Nat → Int} (h : rLw a CS f g gl) (ha : a ≤ a') (hC : ∀ i, i < a → CS' i = CS i) : rLw a' CS' f g gl := by
  obtain ⟨h1, h2, ⟨m, h3, h4, h5, h6, h7⟩, h8⟩ := h
  refine ⟨h1, h2, ⟨m, h3, h4, h5, h6, fun j hj => ?_⟩, fun j hj => ?_⟩
  · obtain ⟨i, i1, i2, i3⟩ := h7 j hj
    exact ⟨i, by omega, i2, by rw [hC i i1]; exact i3⟩
  · rcases h8 j hj with e | ⟨i, i1, i2⟩
    · exact .inl e
    · exact .inr ⟨i, by omega, i2⟩
theorem cHd_a {M : vi_M} {h a a' : Nat} {CS CS' : Nat → List gCla} {f : Nat → Int} {LH LR LS : List (Nat → Int)} (hH : cHd M h f a CS LH LR LS) (ha : a ≤ a') (hC : ∀ i, i < a → CS' i = CS i) : cHd M h f a' CS' LH LR LS := by
  obtain ⟨h1, h2, h3, h4, h5, h6, h7, h8⟩ := hH
  exact ⟨h1, h2, h3, h4, h5, h6, h7, rLw_a h8 ha hC⟩
theorem mCp_e {f cd vl : Nat → Int} {L N j k : Nat} : mCp f L N cd vl j k = if 303 + 400 * L ≤ k ∧ k < 303 + 400 * L + j then cd (k - (303 + 400 * L)) else if 2703 + 400 * L ≤ k ∧ k < 2703 + 400 * L + j then vl (k - (2703 + 400 * L)) else if k = 297 + L then (N : Int) else f k := rfl
/-- the row with one law more -/
theorem rLw_n {a L t fu i' : Nat} {CS CS' : Nat → List gCla} {f g gl cd vl : Nat → Int} {cs : List gCla} (h : rLw a CS f g gl) (hL : f 295 = (L : Int)) (hL5 : L ≤ 5) (ht : t ≤ 400) (hcd : ∀ i, t ≤ i → cd i = 0) (hvl : ∀ i, 0 ≤ vl i) (hr : rdL cd vl (fun i => decide (i = t)) fu 12 0 0 [] = some (some cs, i')) (hC : ∀ i, i < a → CS' i = CS i) (hCa : CS' a = cs) :
    rLw (a + 1) CS' (vi_u (mCp f L t cd vl t) 295 ((L + 1 : Nat) : Int)) (vi_u g 6 ((L + 1 : Nat) : Int)) (vi_u gl L ((153 + 5 * a : Nat) : Int)) := by
  obtain ⟨h1, h2, ⟨m, h3, h4, h5, h6, h7⟩, h8⟩ := h
  obtain rfl : m = L := by omega
  have o1 : ∀ k, k ≠ 295 → k < 297 → vi_u (mCp f m t cd vl t) 295 ((m + 1 : Nat) : Int) k = f k := fun k k1 k2 => by
    rw [vi_u_o k1, mCp_e, if_neg (by omega), if_neg (by omega), if_neg (by omega)]
  refine ⟨by rw [vi_u_s, vi_u_s], by rw [vi_u_o (by decide), o1 296 (by omega) (by omega)]; exact h2, ⟨m + 1, by rw [vi_u_s], by omega, by rw [o1 296 (by omega) (by omega)]; exact h5, by rw [o1 296 (by omega) (by omega)]; omega, fun j hj => ?_⟩, fun j hj => ?_⟩
  · by_cases e : j = m
    · subst e
      refine ⟨a, by omega, by rw [vi_u_s], ?_⟩
      rw [hCa]
      refine ⟨t, ht, ?_, cd, vl, _, fu, i', fun i hi => ⟨?_, ?_⟩, hcd, hvl, fun i hi => of_decide_eq_true hi, hr⟩
      · rw [vi_u_o (by omega), mCp_e, if_neg (by omega), if_neg (by omega), if_pos (by omega)]
      · rw [vi_u_o (by omega), mCp_e, if_pos (by omega)]
        exact congrArg cd (by omega)
      · rw [vi_u_o (by omega), mCp_e, if_neg (by omega), if_pos (by omega)]
        exact congrArg vl (by omega)
    · obtain ⟨i, i1, i2, S, q1, q2, cd', vl', en', fu', i2', q3, q4⟩ := h7 j (by omega)
      refine ⟨i, by omega, by rw [vi_u_o e]; exact i2, S, q1, ?_, cd', vl', en', fu', i2', fun x hx => ?_, ?_⟩
      · rw [vi_u_o (by omega), mCp_e, if_neg (by omega), if_neg (by omega), if_neg (by omega)]; exact q2
      · obtain ⟨w1, w2⟩ := q3 x hx
        refine ⟨?_, ?_⟩
        · rw [vi_u_o (by omega), mCp_e, if_neg (by omega), if_neg (by omega), if_neg (by omega)]; exact w1
        · rw [vi_u_o (by omega), mCp_e, if_neg (by omega), if_neg (by omega), if_neg (by omega)]; exact w2
      · rw [hC i i1]; exact q4
  · by_cases e : j = m
    · subst e
      exact .inr ⟨a, by omega, by rw [vi_u_s]⟩
    · rcases h8 j hj with e' | ⟨i, i1, i2⟩
      · exact .inl (by rw [vi_u_o e]; exact e')
      · exact .inr ⟨i, by omega, by rw [vi_u_o e]; exact i2⟩
theorem fLw_n {a L t : Nat} {CS CS' : Nat → List gCla} {f g gl cd vl : Nat → Int} {lw : Option (List gCla)} (h : fLw a CS f gl lw) (hr : rLw a CS f g gl) (hL : f 295 = (L : Int)) (hL5 : L ≤ 5) (ht : t ≤ 400) (hC : ∀ i, i < a → CS' i = CS i) {q : Int} : fLw (a + 1) CS' (vi_u (mCp f L t cd vl t) 295 ((L + 1 : Nat) : Int)) (vi_u gl L q) lw := by
  have o1 : ∀ k, k ≠ 295 → k < 297 → vi_u (mCp f L t cd vl t) 295 ((L + 1 : Nat) : Int) k = f k := fun k k1 k2 => by
    rw [vi_u_o k1, mCp_e, if_neg (by omega), if_neg (by omega), if_neg (by omega)]
  cases lw with
  | none => exact (o1 296 (by omega) (by omega)).trans h
  | some cs =>
    obtain ⟨L0, i, h1, h2, h3, h4, h5, h6, S, q1, q2, cd', vl', en', fu', i2', q3, q4⟩ := h
    refine ⟨L0, i, (o1 296 (by omega) (by omega)).trans h1, h2, by rw [vi_u_s]; omega, by rw [vi_u_o (by omega)]; exact h4, by omega, by rw [hC i h5]; exact h6, S, q1, ?_, cd', vl', en', fu', i2', fun x hx => ?_, q4⟩
    · rw [vi_u_o (by omega), mCp_e, if_neg (by omega), if_neg (by omega), if_neg (by omega)]; exact q2
    · obtain ⟨w1, w2⟩ := q3 x hx
      refine ⟨?_, ?_⟩
      · rw [vi_u_o (by omega), mCp_e, if_neg (by omega), if_neg (by omega), if_neg (by omega)]; exact w1
      · rw [vi_u_o (by omega), mCp_e, if_neg (by omega), if_neg (by omega), if_neg (by omega)]; exact w2
section
variable {sc : Nat → Int} {ln t a n d : Nat} {CS : Nat → List gCla} {lw : Option (List gCla)} {Y : vi_Y} {M : vi_M} {nn : Nat × Nat} {K : Option vi_V → vi_W → Prop}
theorem jJ_c2 {M M2 : vi_M} (h : jJ M) (hp : ∀ q, (jCe q ∨ q = 88) → M2 q = M q) : jJ M2 := ⟨fun q hq => by rw [hp q (.inl hq)]; exact h.1 q hq, by rw [hp 88 (.inr rfl)]; exact h.2⟩
theorem kY_bl {Y Y' : vi_Y} {p b : Nat} (h : kY Y b) (hb : kBl Y Y' p) (hp : b ≤ p) : kY Y' b := fun q h1 h2 => by
  obtain ⟨e1, e2, e3⟩ := hb q (by omega)
  obtain ⟨f1, f2, f3⟩ := h q h1 h2
  exact ⟨e1.trans f1, e2.trans f2, fun k => (congrFun e3 k).trans (f3 k)⟩
theorem kY9_bl {Y Y' : vi_Y} {p : Nat} (h : kY9 Y) (hb : kBl Y Y' p) (hp : 29 < p) : kY9 Y' := by
  obtain ⟨e1, e2, e3⟩ := hb 29 hp
  exact ⟨e1.trans h.1, fun k => (congrFun e3 k).trans (h.2 k)⟩
theorem jA_bl {Y Y' : vi_Y} {p : Nat} (h : jA sc ln Y M) (hb : kBl Y Y' p) (hp : 151 ≤ p) : jA sc ln Y' M := by
  obtain ⟨a1, a2, a3, a4, a5, a6, a7⟩ := h
  refine ⟨kY_bl a1 hb hp, kY9_bl a2 hb (by omega), fun i hi => ?_, a4, ?_, a6, a7⟩
  · obtain ⟨b1, b2, b3, b4, b5, b6⟩ := a3 i hi
    obtain ⟨e1, e2, e3⟩ := hb (2 + i) (by omega)
    obtain ⟨g1, g2, g3⟩ := hb (15 + i) (by omega)
    refine ⟨e1.trans b1, by rw [e3]; exact b2, by rw [e3]; exact b3, g1.trans b4, by rw [g2]; exact b5, b6⟩
  · obtain ⟨e1, e2, e3⟩ := hb 1 (by omega)
    exact ⟨e1.trans a5.1, e2.trans a5.2.1, a5.2.2⟩
theorem pGood_bl {Y Y' : vi_Y} {M M' : vi_M} {p b S : Nat} {cs : List gCla} (h : pGood Y M p S cs) (hb : kBl Y Y' b) (hp : p + 5 ≤ b) (h0 : M' p = M p) (h1 : M' (p + 1) = M (p + 1)) : pGood Y' M' p S cs := by
  obtain ⟨⟨k1, k2, k3, k4, k5, k6, k7, k8, k9, k10, k11, k12, k13, k14⟩, g2, g3, g4, g5, g6⟩ := h
  have e0 := hb p (by omega)
  have e1 := hb (p + 1) (by omega)
  have e2 := hb (p + 2) (by omega)
  have e3 := hb (p + 3) (by omega)
  have e4 := hb (p + 4) (by omega)
  refine ⟨⟨k1, e2.1.trans k2, by rw [e2.2.2]; exact k3, e0.1.trans k4, by rw [e0.2.1]; exact k5, by rw [e2.2.2]; exact k6, e1.1.trans k7, by rw [e1.2.1]; exact k8, by rw [e2.2.2]; exact k9, e3.1.trans k10, by rw [e3.2.1]; exact k11, by rw [e2.2.2]; exact k12, e4.1.trans k13, by rw [e4.2.1]; exact k14⟩, g2, g3, g4, by rw [h0]; exact g5, fun j hj => by rw [h0, h1]; exact g6 j hj⟩
theorem p_197 (hW : jW sc ln t a CS lw n Y M nn) (ht : t < 1000) : jPair sc ln t (d + 70) 197 278 [] (Y, M, nn) := by
  have hY := hW.1.1
  have h9 := hW.1.2.1
  have hbd := jW_b hW ht
  obtain ⟨LH, LR, LS, c1, c2, c3, c4⟩ := hW.2.2.2.1
  have cL := c1.2.2.2.2.2.2.2
  obtain ⟨a1, a2, a3, a4, a5, a6, a7, a8, a9, a10, a11, a12⟩ := y_29 h9
  obtain ⟨b1, b2, -⟩ := y_30 hY (by omega)
  obtain ⟨q1, -⟩ := y_73 hY (by omega)
  obtain ⟨m, t1, t2, t3, t4, t5, t6⟩ := hW.2.2.2.2.2.1
  have cL' := cL
  obtain ⟨l1, l2, ⟨L, l3, l4, l5, l6, l7⟩, l8⟩ := cL'
  have k62 := fun {K : Option vi_V → vi_W → Prop} => @k_62 (d + 68) 30 K Y M nn (kH_30 hY (by omega))
  simp only [Nat.add_assoc, Nat.reduceAdd] at k62
  rw [l1, l3] at k62
  intro K hK
  by_cases hf : L = 6
  · subst hf
    rw [decide_eq_true (by omega)] at k62
    obtain ⟨M1, hM1⟩ : ∃ M1, M1 = vi_rs M 73 (vi_u (M 73) 3 0) := ⟨_, rfl⟩
    have m1 : ∀ p, p ≠ 73 → M1 p = M p := fun p hp => by rw [hM1, vi_rs_o hp]
    have e73 : M1 73 = vi_u (M 73) 3 0 := by rw [hM1, vi_rs_s]
    have k123 := fun {K : Option vi_V → vi_W → Prop} => @k_123 (d + 69) K Y M nn hY (by omega)
    rw [← hM1] at k123
    clear hM1
    have k228e := fun {K : Option vi_V → vi_W → Prop} => @k_228_5 (d + 68) Y M1 nn K hY h9 (by rw [m1 111 (by decide)]; exact hbd.1 3 (by omega))
    simp only [Nat.add_assoc, Nat.reduceAdd] at k228e
    have main : ∀ K : Option vi_V → vi_W → Prop, K (some (.inl (-5))) (Y, vi_rs (vi_rs M1 111 (vi_u (M1 111) 3 (M1 111 3 + 1))) 29 (vi_u (M1 29) 11 (-5)), nn) → vi_call GG (d + 70) 197 [.inr (.inr 29)] (Y, M, nn) K := by
      intro K hK
      clear hW hbd c1 c3 c4 cL l1 l2 l3 l4 l5 l6 l7 l8 t2 t3 t4 t5 t6 m1 e73
      simp (disch := omega) only [Option.toList_some, Option.toList_none, List.nil_append, List.cons_append, List.append_nil, true_and, and_true, not_true_eq_false, not_false_eq_true, true_implies, false_implies, implies_true, and_self, Int.reduceLT, Int.reduceLE, Int.reduceEq, Int.reduceNe, Int.reduceAdd, Int.reduceSub, Int.reduceMul, Int.reduceNeg, Int.reduceToNat, Int.toNat_natCast, ↓kk_ck, ↓kk_im, ↓kk_in, e_197, s_197_0, s_197_10, s_197_24, s_197_43, s_197_50, s_197_4, s_197_14, s_197_28, s_197_49, s_197_55, s_197_7, s_197_17, s_197_31, s_197_59, s_197_23, s_197_36, s_197_62, s_197_39, a1, a2, a6, b1, q1, k62, k123, k228e, vi_bt, vi_bf, ne_eq]
      exact hK
    refine main K (hK _ _ (jP_c hW.1 (by rw [vi_rs_o (by decide), vi_rs_o (by decide), m1 1 (by decide)])) fun K2 hK2 => ?_)
    generalize hM3 : vi_rs (vi_rs M1 111 (vi_u (M1 111) 3 (M1 111 3 + 1))) 29 (vi_u (M1 29) 11 (-5)) = M3
    have n1 : ∀ p, p ≠ 29 → p ≠ 73 → p ≠ 111 → M3 p = M p := fun p p1 p2 p3 => by rw [← hM3, vi_rs_o p1, vi_rs_o p3, m1 p p2]
    have n73 : M3 73 = vi_u (M 73) 3 0 := by rw [← hM3, vi_rs_o (by decide), vi_rs_o (by decide), e73]
    have n29 : M3 29 = vi_u (M 29) 11 (-5) := by rw [← hM3, vi_rs_s, m1 29 (by decide)]
    have n111 : M3 111 = vi_u (M 111) 3 (M 111 3 + 1) := by rw [← hM3, vi_rs_o (by decide), vi_rs_s, m1 111 (by decide)]
    clear hM3
    have n112 := n1 112 (by decide) (by decide) (by decide)
    have n113 := n1 113 (by decide) (by decide) (by decide)
    refine k_278f hY (by rw [n1 114 (by decide) (by decide) (by decide)]; exact l3) (by rw [n113]; exact hbd.2.1 5 (by omega) (by omega)) (by omega) (hK2 _ ?_)
    rw [n112, n113]
    refine jW_f (r := -5) (k := 3) (j := 5) hW (.inr (.inr (.inr (.inl ⟨rfl, rfl⟩)))) (fun p p1 p2 p3 p4 p5 p6 => ?_) ?_ ?_ ?_ (fun k hk => ?_) ?_ ?_
    · rw [vi_rs_o p5, vi_rs_o p4, n1 p p1 (by omega) p3]
    · rw [vi_rs_o (by decide), vi_rs_o (by decide), n29]
    · rw [vi_rs_o (by decide), vi_rs_o (by decide), n111]
    · rw [vi_rs_o (by decide), vi_rs_s, vi_u_s]
    · rw [vi_rs_o (by decide), vi_rs_s, vi_u_o (by omega), vi_u_o (by omega)]
    · rw [vi_rs_s]
    · refine ⟨0, by omega, ?_, ?_, ?_, ?_, ?_⟩
      · rw [vi_rs_o (by decide), vi_rs_o (by decide), n73, vi_u_s]; rfl
      · rw [vi_rs_o (by decide), vi_rs_s, vi_u_o (by decide), vi_u_s]; rfl
      · rw [vi_rs_o (by decide), vi_rs_o (by decide), n1 118 (by decide) (by decide) (by decide), vi_rs_o (by decide), vi_rs_o (by decide), n1 74 (by decide) (by decide) (by decide), t4]
      · rw [vi_rs_o (by decide), vi_rs_o (by decide), n1 74 (by decide) (by decide) (by decide)]; exact t5
      · rw [vi_rs_o (by decide), vi_rs_o (by decide), n73, vi_u_o (by decide), vi_rs_o (by decide), vi_rs_s, vi_u_o (by decide), vi_u_o (by decide)]; exact t6
  · have hL5 : L ≤ 5 := by omega
    rw [decide_eq_false (by omega)] at k62
    obtain ⟨p, sl⟩ := nn
    have hnn := hW.2.2.1
    dsimp only at hnn
    obtain ⟨np, na, ns⟩ := hnn
    have z0 : ∀ i, m ≤ i → tCd (M 74) m i = 0 := fun i hi => tCd_e (tI_n hi)
    obtain ⟨res, i', hg⟩ := @rdL_t (tCd (M 74) m) (tVl (M 74) m) (fun i => decide (tI (M 74) m i = m)) m 3210 z0 (by omega) 12 0 0 [] (Nat.zero_le _)
    have hp : 151 ≤ p := by omega
    have k127 : ∀ (Q : Option vi_V → vi_W → Prop) (hQ0 : res = none → ∀ M' : vi_M, (∀ q, q ≠ 73 → q ≠ 75 → q ≠ 76 → M' q = M q) → M' 73 3 = (m : Int) → M' 73 7 = (tI (M 74) m i' : Int) → Q (some (.inr (.inr 0))) (Y, M', p, sl))
      (hQ1 : ∀ cs, res = some cs → ∀ (Y' : vi_Y) (M' : vi_M) (S : Nat), pGood Y' M' p S cs → kBl Y Y' p → (∀ q, q < p → q ≠ 73 → q ≠ 75 → q ≠ 76 → M' q = M q) → M' 73 3 = (m : Int) → M' 73 7 = -1 → Q (some (.inr (.inr (p + 2)))) (Y', M', p + 5, sl + S + 4 * cs.length + 78)), vi_call GG (d + 69) 127 [.inr (.inr 73)] (Y, M, p, sl) Q := fun Q h0 h1 => @k_127 (d + 9) Y M m (M 74) p sl hY hW.1.2.2.1 t1 t5 rfl t2 hp 3210 res i' hg Q h0 h1
    have main : ∀ K : Option vi_V → vi_W → Prop, (res = none → ∀ M' : vi_M, (∀ q, q ≠ 73 → q ≠ 75 → q ≠ 76 → M' q = M q) → M' 73 7 = (tI (M 74) m i' : Int) → ∀ M1, M1 = vi_rs M' 73 (vi_u (M' 73) 3 0) → K (some (.inl (-6))) (Y, vi_rs (vi_rs M1 111 (vi_u (M1 111) 4 (M1 111 4 + 1))) 29 (vi_u (M1 29) 11 (-6)), p, sl)) →
      (∀ cs, res = some cs → ∀ (Y' : vi_Y) (M' : vi_M) (S : Nat), pGood Y' M' p S cs → kBl Y Y' p → (∀ q, q < p → q ≠ 73 → q ≠ 75 → q ≠ 76 → M' q = M q) → M' 73 7 = -1 → ∀ M1 M2, M1 = vi_rs M' 73 (vi_u (M' 73) 3 0) → M2 = vi_rs (vi_rs M1 39 (vi_u (M1 39) L ((p + 2 : Nat) : Int))) 30 (vi_u (M1 30) 6 ((L + 1 : Nat) : Int)) → K (some (.inl (L : Int))) (Y', vi_rs M2 29 (vi_u (M2 29) 11 0), p + 5, sl + S + 4 * cs.length + 78)) →
      vi_call GG (d + 70) 197 [.inr (.inr 29)] (Y, M, p, sl) K := by
      intro K h0 h1
      have c127 : vi_call GG (d + 69) 127 [.inr (.inr 73)] (Y, M, p, sl) (fun r w' => vi_ok GG (d + 69) 197 31 [some (.inr (.inr 29)), none] r.toList w' K) := by
        refine k127 _ (fun hr M' f1 f2 f3 => ?_) (fun cs hr Y' M' S g1 g2 g3 g4 g5 => ?_)
        · obtain ⟨M1, hM1⟩ : ∃ M1, M1 = vi_rs M' 73 (vi_u (M' 73) 3 0) := ⟨_, rfl⟩
          have hK := h0 hr M' f1 f3 M1 hM1
          have k123 := fun {K : Option vi_V → vi_W → Prop} => @k_123 (d + 69) K Y M' (p, sl) hY (by omega)
          rw [← hM1] at k123
          have k228f := fun {K : Option vi_V → vi_W → Prop} => @k_228_6 (d + 68) Y M1 (p, sl) K hY h9 (by rw [hM1, vi_rs_o (by decide), f1 111 (by decide) (by decide) (by decide)]; exact hbd.1 4 (by omega))
          simp only [Nat.add_assoc, Nat.reduceAdd] at k228f
          clear h0 h1 hM1 hW hbd c1 c3 c4 cL l1 l2 l3 l4 l5 l6 l7 l8 t2 t3 t4 t5 t6 hg z0 k127 f1 f2 f3
          simp (disch := omega) only [Option.toList_some, Option.toList_none, List.nil_append, List.cons_append, List.append_nil, true_and, and_true, not_true_eq_false, not_false_eq_true, true_implies, false_implies, implies_true, and_self, Int.reduceLT, Int.reduceLE, Int.reduceEq, Int.reduceNe, Int.reduceAdd, Int.reduceSub, Int.reduceMul, Int.reduceNeg, Int.reduceToNat, Int.toNat_natCast, ↓kk_ck, ↓kk_im, ↓kk_in, s_197_31, s_197_36, s_197_39, s_197_43, s_197_49, a1, a6, q1, k123, k228f, ne_eq]
          exact hK
        · obtain ⟨M1, hM1⟩ : ∃ M1, M1 = vi_rs M' 73 (vi_u (M' 73) 3 0) := ⟨_, rfl⟩
          obtain ⟨M2, hM2⟩ : ∃ M2, M2 = vi_rs (vi_rs M1 39 (vi_u (M1 39) L ((p + 2 : Nat) : Int))) 30 (vi_u (M1 30) 6 ((L + 1 : Nat) : Int)) := ⟨_, rfl⟩
          have hK := h1 cs hr Y' M' S g1 g2 g3 g5 M1 M2 hM1 hM2
          have hY' := kY_bl hY g2 hp
          have h9' := kY9_bl h9 g2 (by omega)
          obtain ⟨a1', a2', a3', a4', a5', a6', -⟩ := y_29 h9'
          obtain ⟨b1', -⟩ := y_30 hY' (by omega)
          obtain ⟨q1', -⟩ := y_73 hY' (by omega)
          have k123 := fun {K : Option vi_V → vi_W → Prop} => @k_123 (d + 69) K Y' M' (p + 5, sl + S + 4 * cs.length + 78) hY' (by omega)
          rw [← hM1] at k123
          have e30 : M1 30 6 = (L : Int) := by rw [hM1, vi_rs_o (by decide), g3 30 (by omega) (by decide) (by decide) (by decide), l1, l3]
          have k64 : ∀ K : Option vi_V → vi_W → Prop, vi_call GG (d + 69) 64 [.inr (.inr 30), .inr (.inr (p + 2))] (Y', M1, p + 5, sl + S + 4 * cs.length + 78) K ↔ K (some (.inl (L : Int))) (Y', vi_rs (vi_rs M1 39 (vi_u (M1 39) L ((p + 2 : Nat) : Int))) 30 (vi_u (M1 30) 6 ((L + 1 : Nat) : Int)), p + 5, sl + S + 4 * cs.length + 78) := fun K => @k_64 (d + 68) 30 K Y' M1 (p + 5, sl + S + 4 * cs.length + 78) (kH_30 hY' (by omega)) L e30 (by omega) (p + 2) g1.1.2.1
          rw [← hM2] at k64
          have k227 : ∀ K : Option vi_V → vi_W → Prop, vi_call GG (d + 69) 227 [.inr (.inr 29), .inl (L : Int)] (Y', M2, p + 5, sl + S + 4 * cs.length + 78) K ↔ K (some (.inl (L : Int))) (Y', vi_rs M2 29 (vi_u (M2 29) 11 0), p + 5, sl + S + 4 * cs.length + 78) := fun K => @k_227 (d + 68) Y' M2 (p + 5, sl + S + 4 * cs.length + 78) K a1' (L : Int)
          have n1 : ¬ p + 2 = 28 := by omega
          have n2 : ¬ p + 2 = 0 := by omega
          clear h0 h1 hM1 hM2 hW hbd c1 c3 c4 cL l1 l2 l3 l4 l5 l6 l7 l8 t2 t3 t4 t5 t6 hg z0 k127 g1 g2 g3 g4 g5 e30
          generalize sl + S + 4 * cs.length + 78 = sl' at *
          simp (disch := omega) only [Option.toList_some, Option.toList_none, List.nil_append, List.cons_append, List.append_nil, true_and, and_true, not_true_eq_false, not_false_eq_true, true_implies, false_implies, implies_true, and_self, Int.reduceLT, Int.reduceLE, Int.reduceEq, Int.reduceNe, Int.reduceAdd, Int.reduceSub, Int.reduceMul, Int.reduceNeg, Int.reduceToNat, Int.toNat_natCast, ↓kk_ck, ↓kk_im, ↓kk_in, s_197_31, s_197_36, s_197_39, s_197_50, s_197_55, s_197_59, s_197_62, a1', a2', a6', b1', q1', k123, k64, k227, n1, n2, ne_eq]
          exact hK
      clear h0 h1 hW hbd c1 c3 c4 cL l1 l2 l3 l4 l5 l6 l7 l8 t2 t3 t4 t5 t6 hg z0 k127
      simp (disch := omega) only [Option.toList_some, Option.toList_none, List.nil_append, List.cons_append, List.append_nil, true_and, and_true, not_true_eq_false, not_false_eq_true, true_implies, false_implies, implies_true, and_self, Int.reduceLT, Int.reduceLE, Int.reduceEq, Int.reduceNe, Int.reduceAdd, Int.reduceSub, Int.reduceMul, Int.reduceNeg, Int.reduceToNat, Int.toNat_natCast, ↓kk_ck, ↓kk_im, ↓kk_in, e_197, s_197_0, s_197_4, s_197_7, s_197_24, s_197_28, a1, a2, a6, b1, q1, k62, vi_bf, ne_eq]
      exact c127
    clear k127
    refine main K (fun hr M' f1 f7 M1 hM1 => ?_) (fun cs hr Y' M' S g1 g2 g3 g7 M1 M2 hM1 hM2 => ?_)
    · subst hr
      have m1 : ∀ q, q ≠ 73 → q ≠ 75 → q ≠ 76 → M1 q = M q := fun q p1 p2 p3 => by rw [hM1, vi_rs_o p1, f1 q p1 p2 p3]
      have e73 : M1 73 = vi_u (M' 73) 3 0 := by rw [hM1, vi_rs_s]
      clear hM1
      refine hK _ _ (jP_c hW.1 (by rw [vi_rs_o (by decide), vi_rs_o (by decide), m1 1 (by decide) (by decide) (by decide)])) fun K2 hK2 => ?_
      generalize hM3 : vi_rs (vi_rs M1 111 (vi_u (M1 111) 4 (M1 111 4 + 1))) 29 (vi_u (M1 29) 11 (-6)) = M3
      have n1 : ∀ q, q ≠ 29 → q ≠ 73 → q ≠ 75 → q ≠ 76 → q ≠ 111 → M3 q = M q := fun q p1 p2 p3 p4 p5 => by rw [← hM3, vi_rs_o p1, vi_rs_o p5, m1 q p2 p3 p4]
      have n73 : M3 73 = vi_u (M' 73) 3 0 := by rw [← hM3, vi_rs_o (by decide), vi_rs_o (by decide), e73]
      have n29 : M3 29 = vi_u (M 29) 11 (-6) := by rw [← hM3, vi_rs_s, m1 29 (by decide) (by decide) (by decide)]
      have n111 : M3 111 = vi_u (M 111) 4 (M 111 4 + 1) := by rw [← hM3, vi_rs_o (by decide), vi_rs_s, m1 111 (by decide) (by decide) (by decide)]
      clear hM3
      have n112 := n1 112 (by decide) (by decide) (by decide) (by decide) (by decide)
      have n113 := n1 113 (by decide) (by decide) (by decide) (by decide) (by decide)
      have n114 := n1 114 (by decide) (by decide) (by decide) (by decide) (by decide)
      have n74 := n1 74 (by decide) (by decide) (by decide) (by decide) (by decide)
      have n118 := n1 118 (by decide) (by decide) (by decide) (by decide) (by decide)
      have n117 := n1 117 (by decide) (by decide) (by decide) (by decide) (by decide)
      refine k_278 hY (fun j hj => by rw [n117]; exact hW.1.2.2.2.1 j hj) t5 (by rw [n118]; exact t4) t1 (by rw [n112]; exact t3) hg hL5 (by rw [n114]; exact l3) (by rw [n113]; exact hbd.2.1 6 (by omega) (by omega)) (by rw [n112]; exact hbd.2.2) (by omega) fun M4 tt f w1 w2 w3 w4 w5 w6 w7 => ?_
      rw [if_neg (by decide)] at w7 ⊢
      rw [n113]
      refine hK2 _ (jW_f (r := -6) (k := 4) (j := 6) hW (.inr (.inr (.inr (.inr ⟨rfl, rfl⟩)))) (fun q p1 p2 p3 p4 p5 p6 => ?_) ?_ ?_ ?_ (fun k hk => ?_) ?_ ?_)
      · rw [vi_rs_o p5, vi_rs_o p4, w4 q p4 (by omega) (by omega) (by omega), n1 q p1 (by omega) (by omega) (by omega) p3]
      · rw [vi_rs_o (by decide), vi_rs_o (by decide), w4 29 (by decide) (by decide) (by decide) (by decide), n29]
      · rw [vi_rs_o (by decide), vi_rs_o (by decide), w4 111 (by decide) (by decide) (by decide) (by decide), n111]
      · rw [vi_rs_o (by decide), vi_rs_s, vi_u_s]
      · rw [vi_rs_o (by decide), vi_rs_s, vi_u_o (by omega), w5 k (by omega) (by omega) (by omega) (by omega) (by omega) (by omega), n112]
      · rw [vi_rs_s]
      · refine ⟨0, by omega, ?_, ?_, ?_, ?_, ?_⟩
        · rw [vi_rs_o (by decide), vi_rs_o (by decide), w4 73 (by decide) (by decide) (by decide) (by decide), n73, vi_u_s]; rfl
        · rw [vi_rs_o (by decide), vi_rs_s, vi_u_o (by decide), w6]; rfl
        · rw [vi_rs_o (by decide), vi_rs_o (by decide), w4 118 (by decide) (by decide) (by decide) (by decide), n118, vi_rs_o (by decide), vi_rs_o (by decide), w4 74 (by decide) (by decide) (by decide) (by decide), n74, t4]
        · rw [vi_rs_o (by decide), vi_rs_o (by decide), w4 74 (by decide) (by decide) (by decide) (by decide), n74]; exact t5
        · rw [vi_rs_o (by decide), vi_rs_o (by decide), w4 73 (by decide) (by decide) (by decide) (by decide), n73, vi_u_o (by decide), f7, vi_rs_o (by decide), vi_rs_s, vi_u_o (by decide), w7]
    · subst hr
      have m1 : ∀ q, q < p → q ≠ 73 → q ≠ 75 → q ≠ 76 → M1 q = M q := fun q p0 p1 p2 p3 => by rw [hM1, vi_rs_o p1, g3 q p0 p1 p2 p3]
      have m1' : ∀ q, p ≤ q → M1 q = M' q := fun q p0 => by rw [hM1, vi_rs_o (by omega)]
      have e73 : M1 73 = vi_u (M' 73) 3 0 := by rw [hM1, vi_rs_s]
      have m2 : ∀ q, q < p → q ≠ 30 → q ≠ 39 → q ≠ 73 → q ≠ 75 → q ≠ 76 → M2 q = M q := fun q p0 p1 p2 p3 p4 p5 => by rw [hM2, vi_rs_o p1, vi_rs_o p2, m1 q p0 p3 p4 p5]
      have m2' : ∀ q, p ≤ q → M2 q = M' q := fun q p0 => by rw [hM2, vi_rs_o (by omega), vi_rs_o (by omega), m1' q p0]
      have e30 : M2 30 = vi_u (M 30) 6 ((L + 1 : Nat) : Int) := by rw [hM2, vi_rs_s, m1 30 (by omega) (by decide) (by decide) (by decide)]
      have e39 : M2 39 = vi_u (M 39) L ((p + 2 : Nat) : Int) := by rw [hM2, vi_rs_o (by decide), vi_rs_s, m1 39 (by omega) (by decide) (by decide) (by decide)]
      have e73 : M2 73 = vi_u (M' 73) 3 0 := by rw [hM2, vi_rs_o (by decide), vi_rs_o (by decide), e73]
      clear hM1 hM2 m1 m1'
      have jA' : ∀ M4 : vi_M, (∀ q, q < 29 → M4 q = M q) → M4 117 = M 117 → M4 138 = M 138 → M4 139 = M 139 → jA sc ln Y' M4 := fun M4 x1 x2 x3 x4 => jA_bl (jA_c hW.1 x1 x2 x3 x4) g2 hp
      have hY' := kY_bl hY g2 hp
      generalize hsl : sl + S + 4 * cs.length + 78 = sl'
      refine hK _ _ (jP_c (jA_bl hW.1 g2 hp) (by rw [vi_rs_o (by decide), m2 1 (by omega) (by decide) (by decide) (by decide) (by decide) (by decide)])) fun K2 hK2 => ?_
      generalize hM3 : vi_rs M2 29 (vi_u (M2 29) 11 0) = M3
      have n1 : ∀ q, q < p → q ≠ 29 → q ≠ 30 → q ≠ 39 → q ≠ 73 → q ≠ 75 → q ≠ 76 → M3 q = M q := fun q p0 p1 p2 p3 p4 p5 p6 => by rw [← hM3, vi_rs_o p1, m2 q p0 p2 p3 p4 p5 p6]
      have n1' : ∀ q, p ≤ q → M3 q = M' q := fun q p0 => by rw [← hM3, vi_rs_o (by omega), m2' q p0]
      have n73 : M3 73 = vi_u (M' 73) 3 0 := by rw [← hM3, vi_rs_o (by decide), e73]
      have n30 : M3 30 = vi_u (M 30) 6 ((L + 1 : Nat) : Int) := by rw [← hM3, vi_rs_o (by decide), e30]
      have n39 : M3 39 = vi_u (M 39) L ((p + 2 : Nat) : Int) := by rw [← hM3, vi_rs_o (by decide), e39]
      have n29 : M3 29 = vi_u (M 29) 11 0 := by rw [← hM3, vi_rs_s, m2 29 (by omega) (by decide) (by decide) (by decide) (by decide) (by decide)]
      clear hM3 e73 e30 e39 m2 m2'
      have n112 := n1 112 (by omega) (by decide) (by decide) (by decide) (by decide) (by decide) (by decide)
      have n113 := n1 113 (by omega) (by decide) (by decide) (by decide) (by decide) (by decide) (by decide)
      have n114 := n1 114 (by omega) (by decide) (by decide) (by decide) (by decide) (by decide) (by decide)
      have n74 := n1 74 (by omega) (by decide) (by decide) (by decide) (by decide) (by decide) (by decide)
      have n118 := n1 118 (by omega) (by decide) (by decide) (by decide) (by decide) (by decide) (by decide)
      have n117 := n1 117 (by omega) (by decide) (by decide) (by decide) (by decide) (by decide) (by decide)
      refine k_278 hY' (fun j hj => by rw [n117]; exact hW.1.2.2.2.1 j hj) t5 (by rw [n118]; exact t4) t1 (by rw [n112]; exact t3) hg hL5 (by rw [n114]; exact l3) (by rw [n113]; exact hbd.2.1 6 (by omega) (by omega)) (by rw [n112]; exact hbd.2.2) (by omega) fun M4 tt f w1 w2 w3 w4 w5 w6 w7 => ?_
      have hsm : (some cs).isSome = true := rfl
      rw [if_pos hsm] at w7 ⊢
      rw [n114, n112]
      refine hK2 _ ?_
      have zt : ∀ i, tt ≤ i → tCd (M 74) m i = 0 := fun i hi => tCd_e (tI_mono hi w2)
      have hg' : rdL (tCd (M 74) m) (tVl (M 74) m) (fun i => decide (i = tt)) 3210 12 0 0 [] = some (some cs, i') := by
        rw [← rdL_en zt (by omega) (fun i hi => ?_) 12 0 0 [] (Nat.zero_le _)]
        · exact hg
        · rw [decide_eq_decide]
          exact ⟨fun e => Decidable.byContradiction fun ne => absurd (w3 i (by omega)) (by omega), fun e => by rw [e]; exact w2⟩
      have hCa : (fun i => if i = a then cs else CS i) a = cs := if_pos rfl
      have hC : ∀ i, i < a → (fun i => if i = a then cs else CS i) i = CS i := fun i hi => if_neg (by omega)
      generalize (fun i => if i = a then cs else CS i) = CS' at hCa hC
      have hrl := rLw_n cL l3 hL5 w1 zt (fun i => tVl_p t5) hg' hC hCa
      have hfl := @fLw_n a L tt CS CS' (M 114) (M 30) (M 39) (tCd (M 74) m) (tVl (M 74) m) lw c3 cL l3 hL5 w1 hC ((153 + 5 * a : Nat) : Int)
      have fO : ∀ k, k < 295 → vi_u (mCp (M 114) L tt (tCd (M 74) m) (tVl (M 74) m) tt) 295 ((L + 1 : Nat) : Int) k = M 114 k := fun k hk => by rw [vi_u_o (by omega), mCp_e, if_neg (by omega), if_neg (by omega), if_neg (by omega)]
      generalize vi_u (mCp (M 114) L tt (tCd (M 74) m) (tVl (M 74) m) tt) 295 ((L + 1 : Nat) : Int) = F at *
      generalize hM5 : vi_rs (vi_rs M4 114 F) 112 (vi_u (vi_u f 0 0) 1 (M 112 1 + 1)) = M5
      have r1 : ∀ q, q < p → q ≠ 29 → q ≠ 30 → q ≠ 39 → q ≠ 73 → q ≠ 75 → q ≠ 76 → q ≠ 112 → q ≠ 114 → q ≠ 120 → q ≠ 121 → q ≠ 122 → M5 q = M q := fun q p0 p1 p2 p3 p4 p5 p6 p7 p8 p9 p10 p11 => by rw [← hM5, vi_rs_o p7, vi_rs_o p8, w4 q p7 p9 p10 p11, n1 q p0 p1 p2 p3 p4 p5 p6]
      have r1' : ∀ q, p ≤ q → M5 q = M' q := fun q p0 => by rw [← hM5, vi_rs_o (by omega), vi_rs_o (by omega), w4 q (by omega) (by omega) (by omega) (by omega), n1' q p0]
      have r73 : M5 73 = vi_u (M' 73) 3 0 := by rw [← hM5, vi_rs_o (by decide), vi_rs_o (by decide), w4 73 (by decide) (by decide) (by decide) (by decide), n73]
      have r30 : M5 30 = vi_u (M 30) 6 ((L + 1 : Nat) : Int) := by rw [← hM5, vi_rs_o (by decide), vi_rs_o (by decide), w4 30 (by decide) (by decide) (by decide) (by decide), n30]
      have r39 : M5 39 = vi_u (M 39) L ((153 + 5 * a : Nat) : Int) := by rw [← hM5, vi_rs_o (by decide), vi_rs_o (by decide), w4 39 (by decide) (by decide) (by decide) (by decide), n39, show p + 2 = 153 + 5 * a by omega]
      have r29 : M5 29 = vi_u (M 29) 11 0 := by rw [← hM5, vi_rs_o (by decide), vi_rs_o (by decide), w4 29 (by decide) (by decide) (by decide) (by decide), n29]
      have r114 : M5 114 = F := by rw [← hM5, vi_rs_o (by decide), vi_rs_s]
      have r112 : M5 112 = vi_u (vi_u f 0 0) 1 (M 112 1 + 1) := by rw [← hM5, vi_rs_s]
      clear hM5
      have rk : ∀ k, k ≠ 0 → k ≠ 1 → k ≠ 10 → k ≠ 11 → ¬ (15 ≤ k ∧ k ≤ 18) → M5 112 k = M 112 k := fun k k0 k1 k2 k3 k4 => by rw [r112, vi_u_o k1, vi_u_o k0, w5 k k2 k3 (by omega) (by omega) (by omega) (by omega), n112]
      obtain ⟨-, hL0, -, -, h5, -, ⟨s1, s2, s3, s4, s5, s6⟩, h8, h9', h10⟩ := hW
      have hcL : cHd M5 30 F (a + 1) CS' LH LR LS := by
        obtain ⟨⟨o1, o2, o3⟩, cH, cR', cS, cD, cC, cZ, -⟩ := c1
        refine ⟨⟨?_, ?_, ?_⟩, rHs_c cH fun k hk => fO k (by omega), rRw_c cR' fun k hk => fO k (by omega), rSc_c cS fun k hk => fO k (by omega), rDk_c ?_ fun k hk => fO k (by omega), rCt_c ?_ fun k hk => fO k (by omega), rSz_c ?_ fun k hk => fO k (by omega), ?_⟩
        · rw [r1 (30 + 1) (by omega) (by decide) (by decide) (by decide) (by decide) (by decide) (by decide) (by decide) (by decide) (by decide) (by decide) (by decide), r1 (30 + 2) (by omega) (by decide) (by decide) (by decide) (by decide) (by decide) (by decide) (by decide) (by decide) (by decide) (by decide) (by decide)]; exact o1
        · rw [r1 (30 + 3) (by omega) (by decide) (by decide) (by decide) (by decide) (by decide) (by decide) (by decide) (by decide) (by decide) (by decide) (by decide), r1 (30 + 4) (by omega) (by decide) (by decide) (by decide) (by decide) (by decide) (by decide) (by decide) (by decide) (by decide) (by decide) (by decide)]; exact o2
        · rw [r1 (30 + 5) (by omega) (by decide) (by decide) (by decide) (by decide) (by decide) (by decide) (by decide) (by decide) (by decide) (by decide) (by decide), r1 (30 + 6) (by omega) (by decide) (by decide) (by decide) (by decide) (by decide) (by decide) (by decide) (by decide) (by decide) (by decide) (by decide)]; exact o3
        · rw [r1 (30 + 7) (by omega) (by decide) (by decide) (by decide) (by decide) (by decide) (by decide) (by decide) (by decide) (by decide) (by decide) (by decide)]; exact cD
        · rw [r1 (30 + 8) (by omega) (by decide) (by decide) (by decide) (by decide) (by decide) (by decide) (by decide) (by decide) (by decide) (by decide) (by decide)]; exact cC
        · rw [r30]; exact rSz_g cZ fun k hk => vi_u_o (by omega)
        · show rLw (a + 1) CS' F (M5 30) (M5 39)
          rw [r30, r39]; exact hrl
      have hV : jV M5 F lw n := jV_f (jV_c c4 fun q p1 p2 => r1 q (by omega) (by omega) (by omega) (by omega) (by omega) (by omega) (by omega) (by omega) (by omega) (by omega) (by omega) (by omega)) (fun k hk => fO k (by omega)) h5.1.2.1 h5.1.2.2.2.1
      have hJC : jC M5 (a + 1) CS' lw n := ⟨LH, LR, LS, by rw [r114]; exact hcL, c2, by rw [r114, r39]; exact hfl, by rw [r114]; exact hV⟩
      have hS := g1.2.1
      have hcl := g1.2.2.2.1
      have qq : ∀ q, (q < 29 ∨ (40 ≤ q ∧ q < 73) ∨ (77 ≤ q ∧ q < 112) ∨ q = 74 ∨ q = 113 ∨ (115 ≤ q ∧ q < 120) ∨ (123 ≤ q ∧ q < p)) → M5 q = M q := fun q hq => r1 q (by omega) (by omega) (by omega) (by omega) (by omega) (by omega) (by omega) (by omega) (by omega) (by omega) (by omega) (by omega)
      refine ⟨a + 1, CS', lw, n, ?_⟩
      show jW sc ln (t + 1) (a + 1) CS' lw n Y' M5 (p + 5, sl')
      refine ⟨jA' M5 (fun q hq => qq q (by omega)) (qq 117 (by omega)) (qq 138 (by omega)) (qq 139 (by omega)), fun i hi => ?_, ⟨by show p + 5 = _; omega, by omega, by show sl' ≤ _; omega⟩, hJC, jM_n hJC ?_ ?_, ⟨0, by omega, ?_, ?_, ?_, ?_, ?_⟩, ⟨?_, ?_, ?_, fun k k1 k2 => ?_, ?_, ?_⟩, jD_c h8 ?_ ?_ ?_ ?_, fun k hk => ?_, jJ_c2 h10 fun q hq => ?_⟩
      · by_cases e : i = a
        · subst e
          refine ⟨S, ?_⟩
          rw [hCa, ← np]
          exact pGood_bl (b := p + 5) g1 (fun q hq => ⟨rfl, rfl, rfl⟩) (by omega) (r1' p (by omega)) (r1' (p + 1) (by omega))
        · obtain ⟨S0, hS0⟩ := hL0 i (by omega)
          refine ⟨S0, ?_⟩
          rw [hC i (by omega)]
          exact pGood_bl hS0 g2 (by omega) (qq _ (by omega)) (qq _ (by omega))
      · rw [rk 30 (by decide) (by decide) (by decide) (by decide) (by omega), r112, vi_u_s]; have := h5.2.2.1; omega
      · rw [rk 42 (by decide) (by decide) (by decide) (by decide) (by omega), r112, vi_u_s]; have := h5.2.2.2; omega
      · rw [r73, vi_u_s]; rfl
      · rw [r112, vi_u_o (by decide), vi_u_o (by decide), w6]; rfl
      · rw [qq 118 (by omega), qq 74 (by omega), t4]
      · rw [qq 74 (by omega)]; exact t5
      · rw [r73, vi_u_o (by decide), g7, r112, vi_u_o (by decide), vi_u_o (by decide), w7]
      · rw [r29, vi_u_s, r112, vi_u_o (by decide), vi_u_s]
      · rw [r29, vi_u_o (by decide), rk 6 (by decide) (by decide) (by decide) (by decide) (by omega)]; exact s2
      · rw [qq 111 (by omega), qq 113 (by omega)]; exact s3
      · rw [qq 113 (by omega)]; have := s4 k k1 k2; exact ⟨this.1, by omega⟩
      · rw [r112, vi_u_s]; omega
      · rw [r112, vi_u_s]; omega
      · rw [qq 77 (by omega)]
      · rw [rk 62 (by decide) (by decide) (by decide) (by decide) (by omega)]
      · exact qq 79 (by omega)
      · exact qq 150 (by omega)
      · obtain ⟨x1, x2, x3, x4⟩ := h9' k hk
        rw [qq (40 + 10 * k) (by omega), qq 116 (by omega), qq (40 + 10 * k + 1) (by omega), qq (40 + 10 * k + 3) (by omega), qq (40 + 10 * k + 5) (by omega), qq 115 (by omega)]
        refine ⟨x1, x2, fun e => ?_, x4⟩
        obtain ⟨LH', LR', LS', hH⟩ := x3 e
        exact ⟨LH', LR', LS', cHd_a (cHd_c hH fun q q1 q2 => qq q (by omega)) (by omega) hC⟩
      · exact qq q (by unfold jCe at hq; omega)
end
