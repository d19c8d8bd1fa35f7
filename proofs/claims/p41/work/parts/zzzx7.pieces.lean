/-! The property of its own: PIECES counted. -/
def tcS (S : Nat → Bool) (p : Nat → Int) (c : Nat) : Nat → Bool := fun x => S x && decide ((c : Int) ≤ p x)
section
variable {S : Nat → Bool} {p : Nat → Int}
theorem pE_m (h : pE S p) {c : Nat} (hc : c < 216) (hs : S c = true) : ∃ m : Nat, p c = (m : Int) ∧ m ≤ c ∧ S m = true ∧ sCl S c m := (h.1 c hc).2 hs
theorem pE_k (h : pE S p) {c x : Nat} (hc : c < 216) (hs : S c = true) (hx : sCl S c x) : x < 216 ∧ S x = true ∧ p x = p c := hx (fun x => x < 216 ∧ S x = true ∧ p x = p c) ⟨hc, hs, rfl⟩ fun a b ⟨a1, a2, a3⟩ hA hb => ⟨sA_lt a1 hA, hb, (h.2 a b a1 (sA_lt a1 hA) a2 hb hA).trans a3⟩
theorem pE_f (h : pE S p) {c : Nat} (hc : c < 216) (hs : S c = true) {m : Nat} (hm : p c = (m : Int)) : m < 216 ∧ S m = true ∧ p m = (m : Int) := by
  obtain ⟨m', e, h1, h2, h3⟩ := pE_m h hc hs
  obtain rfl : m = m' := by omega
  obtain ⟨k1, k2, k3⟩ := pE_k h hc hs h3
  exact ⟨k1, k2, k3.trans e⟩
theorem tc_0 (h : pE S p) : ∀ x, x < 216 → tcS S p 0 x = S x := by
  intro x hx
  unfold tcS
  cases hs : S x
  · rfl
  · obtain ⟨m, e, -⟩ := pE_m h hx hs
    rw [decide_eq_true (by omega)]
    rfl
theorem tc_n (h : pE S p) {c : Nat} (hc : c < 216) (hn : p c ≠ (c : Int)) : ∀ x, x < 216 → tcS S p c x = tcS S p (c + 1) x := by
  intro x hx
  unfold tcS
  cases hs : S x
  · rfl
  · rw [Bool.true_and, Bool.true_and, decide_eq_decide]
    have : p x ≠ (c : Int) := fun e => hn (pE_f h hx hs e).2.2
    omega
theorem tc_e (h : pE S p) {c : Nat} (hc : c < 216) (he : p c = (c : Int)) : S c = true ∧ sE (tcS S p c) = false ∧ sLo (tcS S p c) = (c : Int) ∧ (∀ x, x < 216 → decide (p x = (c : Int)) = sK (tcS S p c) c x) ∧ ∀ x, x < 216 → sTl (tcS S p c) x = tcS S p (c + 1) x := by
  have hs : S c = true := by
    cases e : S c
    · have := (h.1 c hc).1 e; omega
    · rfl
  have hT : tcS S p c c = true := by unfold tcS; rw [hs, he, decide_eq_true (Int.le_refl _)]; rfl
  have hE : sE (tcS S p c) = false := by
    cases e : sE (tcS S p c)
    · rfl
    · rw [(sE_t e).1 c hc] at hT; cases hT
  obtain ⟨j, j1, j2, j3, j4⟩ := sE_n hE
  have hjc : j = c := by
    have a : ¬ c < j := fun q => by rw [j3 c q] at hT; cases hT
    have b : ¬ j < c := fun q => by
      unfold tcS at j2
      rw [Bool.and_eq_true] at j2
      obtain ⟨m, e, e1, -⟩ := pE_m h j1 j2.1
      have := of_decide_eq_true j2.2
      omega
    omega
  subst hjc
  have hK : ∀ x, x < 216 → decide (p x = (j : Int)) = sK (tcS S p j) j x := by
    refine sK_eq (P := fun x => decide (p x = (j : Int))) (decide_eq_true he) (fun x hx hp => ?_) (fun x y hx hp hA hy => ?_) j1
    · have hp : p x = (j : Int) := of_decide_eq_true hp
      have hsx : S x = true := by
        cases e : S x
        · have := (h.1 x hx).1 e; omega
        · rfl
      obtain ⟨m, e, -, -, e3⟩ := pE_m h hx hsx
      obtain rfl : m = j := by omega
      have hcl := sCl_sym hx hsx e3
      have := hcl (fun y => y < 216 ∧ S y = true ∧ p y = (m : Int) ∧ sCl (tcS S p m) m y) ⟨j1, hs, he, sCl_r⟩ fun a b ⟨a1, a2, a3, a4⟩ hA hb => by
        have e := h.2 a b a1 (sA_lt a1 hA) a2 hb hA
        refine ⟨sA_lt a1 hA, hb, e.trans a3, sCl_s a4 hA ?_⟩
        unfold tcS
        rw [hb, e, a3, decide_eq_true (Int.le_refl _)]
        rfl
      exact this.2.2.2
    · have hp : p x = (j : Int) := of_decide_eq_true hp
      have hsx : S x = true := by
        cases e : S x
        · have := (h.1 x hx).1 e; omega
        · rfl
      unfold tcS at hy
      rw [Bool.and_eq_true] at hy
      exact decide_eq_true ((h.2 x y hx (sA_lt hx hA) hsx hy.1 hA).trans hp)
  refine ⟨hs, hE, j4, hK, fun x hx => ?_⟩
  unfold sTl sDif
  rw [j4, Int.toNat_natCast, ← hK x hx]
  unfold tcS
  cases hsx : S x
  · rfl
  · rw [Bool.true_and, Bool.true_and, Bool.eq_iff_iff, Bool.and_eq_true, Bool.not_eq_true', decide_eq_true_iff, decide_eq_true_iff, decide_eq_false_iff_not]
    omega
/-- the law's count so far, and what the class's pieces are -/
def piI (S : Nat → Bool) (p : Nat → Int) (c n : Nat) : Prop := n ≤ c ∧ (∀ i w : Int, (n : Int) ≤ i → sPi 216 0 S i w = sPi (216 - n) n (tcS S p c) i w) ∧ sPc 216 S = n + sPc (216 - n) (tcS S p c)
theorem piI_0 (h : pE S p) : piI S p 0 0 := ⟨Nat.le_refl _, fun i w _ => (sPi_c (tc_0 h)).symm, by rw [Nat.zero_add]; exact (sPc_c (tc_0 h)).symm⟩
theorem piI_n (h : pE S p) {c n : Nat} (hc : c < 216) (hn : p c ≠ (c : Int)) (hi : piI S p c n) : piI S p (c + 1) n := ⟨by have := hi.1; omega, fun i w h' => (hi.2.1 i w h').trans (sPi_c (tc_n h hc hn)), hi.2.2.trans (congrArg (n + ·) (sPc_c (tc_n h hc hn)))⟩
theorem piI_s (h : pE S p) {c n : Nat} (hc : c < 216) (he : p c = (c : Int)) (hi : piI S p c n) : piI S p (c + 1) (n + 1) ∧ piV S (n : Int) 0 = (sN 216 (fun x => decide (p x = (c : Int))) : Int) ∧ piV S (n : Int) 1 = (c : Int) := by
  obtain ⟨i1, i2, i3⟩ := hi
  obtain ⟨hs, hE, hL, hK, hT⟩ := tc_e h hc he
  obtain ⟨f, hf⟩ : ∃ f, 216 - n = f + 1 := ⟨216 - n - 1, by omega⟩
  have hf' : 216 - (n + 1) = f := by omega
  rw [hf] at i2 i3
  have st : ∀ i w : Int, sPi (f + 1) n (tcS S p c) i w = if (n : Int) = i then (if w = 0 then (sN 216 (fun x => decide (p x = (c : Int))) : Int) else (c : Int)) else sPi f (n + 1) (tcS S p (c + 1)) i w := by
    intro i w
    rw [sPi, hE, if_neg (by decide), hL, Int.toNat_natCast, sPi_c hT, sN_c (fun x hx => (hK x hx).symm)]
  refine ⟨⟨by omega, fun i w h' => ?_, ?_⟩, ?_, ?_⟩
  · rw [i2 i w (by omega), st, if_neg (by omega), hf']
  · rw [i3, sPc, hE, if_neg (by decide), sPc_c hT, hf']
    omega
  · unfold piV
    rw [if_neg (by omega), if_pos (.inl rfl), i2 _ _ (Int.le_refl _), st, if_pos rfl, if_pos rfl]
  · unfold piV
    rw [if_neg (by omega), if_pos (.inr rfl), i2 _ _ (Int.le_refl _), st, if_pos rfl, if_neg (by decide)]
theorem piI_e (h : pE S p) {n : Nat} (hi : piI S p 216 n) : piV S (-1) 0 = (n : Int) ∧ piV S (n : Int) 0 = -1 := by
  have hz : sE (tcS S p 216) = true := by
    refine sE_iff.mpr fun x hx => ?_
    unfold tcS
    cases hs : S x
    · rfl
    · obtain ⟨m, e, e1, -⟩ := pE_m h hx hs
      rw [decide_eq_false (by omega)]
      rfl
  have c0 : ∀ f, sPc f (tcS S p 216) = 0 := fun f => by
    cases f with
    | zero => rfl
    | succ f => rw [sPc, if_pos hz]
  have d0 : ∀ f k i w, sPi f k (tcS S p 216) i w = -1 := fun f k i w => by
    cases f with
    | zero => rfl
    | succ f => rw [sPi, if_pos hz]
  refine ⟨?_, ?_⟩
  · unfold piV
    rw [if_pos rfl, hi.2.2, c0, Nat.add_zero]
  · unfold piV
    rw [if_neg (by omega), if_pos (.inl rfl), hi.2.1 _ _ (Int.le_refl _), d0]
end
section
variable {d ln : Nat} {Y : vi_Y} {nn : Nat × Nat} {v x y z t fl fo : Int} {L : List (Nat → Int)} {lw : Option (List gCla)} {g : Nat → Int} {S O : Nat → Bool} {p : Nat → Int} {Q : Option vi_V → vi_W → Prop}
theorem lwY_bl {Y' : vi_Y} (h : lwY Y ln) (hb : kBl Y Y' 127) : lwY Y' ln := by
  obtain ⟨⟨h1, h2⟩, h3, h4, h5, h6⟩ := h
  obtain ⟨a1, a2, -⟩ := hb 1 (by decide)
  obtain ⟨b1, b2, -⟩ := hb 112 (by decide)
  obtain ⟨c1, c2, -⟩ := hb 125 (by decide)
  obtain ⟨d1, d2, -⟩ := hb 126 (by decide)
  exact ⟨⟨kY_bl h1 hb (by decide), kY9_bl h2 hb (by decide)⟩, by rw [a1, a2]; exact h3, by rw [b1, b2]; exact h4, by rw [c1, c2]; exact h5, by rw [d1, d2]; exact h6⟩
/-- a piece's size -/
theorem lw_859 {M : vi_M} (tp : Y.1 127 = 1 ∧ (Y.2.1 127 : Int) = 216) (hp : M 127 = p) {a6 a7 a8 a9 a10 a11 a13 c : Int}
    (hQ : ∀ l17 l18 l19 l20 l21 l22 l23 l24 l25, vi_ok GG (d + 72) 0 893 [some (.inr (.inr 1)), some (.inr (.inr 29)), some (.inr (.inr 112)), some (.inl v), some (.inr (.inr 125)), some (.inr (.inr 126)), some (.inl a6), some (.inl a7), some (.inl a8), some (.inl a9), some (.inl a10), some (.inl a11), some (.inr (.inr 127)), some (.inl a13), some (.inl c), some (.inl (sN 216 (fun x => decide (p x = c)) : Int)), some (.inl ((216 : Nat) : Int)), l17, l18, l19, l20, l21, l22, l23, l24, l25] [] (Y, M, nn) Q) :
    ∀ b : Nat, b ≤ 216 → ∀ l17 l18 l19 l20 l21 l22 l23 l24 l25, vi_ok GG (d + 72) 0 859 [some (.inr (.inr 1)), some (.inr (.inr 29)), some (.inr (.inr 112)), some (.inl v), some (.inr (.inr 125)), some (.inr (.inr 126)), some (.inl a6), some (.inl a7), some (.inl a8), some (.inl a9), some (.inl a10), some (.inl a11), some (.inr (.inr 127)), some (.inl a13), some (.inl c), some (.inl (sN b (fun x => decide (p x = c)) : Int)), some (.inl (b : Int)), l17, l18, l19, l20, l21, l22, l23, l24, l25] [] (Y, M, nn) Q := by
  obtain ⟨t1, t2⟩ := tp
  refine vi_dn 216 ?_ ?_
  · intro l17 l18 l19 l20 l21 l22 l23 l24 l25
    have q := hQ l17 l18 l19 l20 l21 l22 l23 l24 l25
    rw [s_0_859]
    clear hQ
    simp (disch := omega) only [Option.toList_some, Option.toList_none, List.nil_append, List.cons_append, List.append_nil, true_and, and_true, not_true_eq_false, not_false_eq_true, true_implies, false_implies, implies_true, and_self, Int.reduceLT, Int.reduceLE, Int.reduceEq, Int.reduceNe, Int.reduceAdd, Int.reduceSub, Int.reduceMul, Int.reduceNeg, Int.reduceToNat, Int.toNat_natCast, ↓kk_ck, ↓kk_im, ↓kk_in]
    exact q
  · intro b hb ih l17 l18 l19 l20 l21 l22 l23 l24 l25
    have q := ih l17 l18 l19 l20 l21 l22 l23 l24 l25
    rw [sN_s] at q
    have nb := sN_le b (fun x => decide (p x = c))
    generalize sN b (fun x => decide (p x = c)) = n at *
    clear hQ ih
    rw [s_0_859]
    by_cases h : p b = c
    · rw [decide_eq_true h] at q
      have q : vi_ok GG (d + 72) 0 859 [some (.inr (.inr 1)), some (.inr (.inr 29)), some (.inr (.inr 112)), some (.inl v), some (.inr (.inr 125)), some (.inr (.inr 126)), some (.inl a6), some (.inl a7), some (.inl a8), some (.inl a9), some (.inl a10), some (.inl a11), some (.inr (.inr 127)), some (.inl a13), some (.inl c), some (.inl ((n : Int) + 1)), some (.inl ((b + 1 : Nat) : Int)), l17, l18, l19, l20, l21, l22, l23, l24, l25] [] (Y, M, nn) Q := q
      simp (disch := omega) only [Option.toList_some, Option.toList_none, List.nil_append, List.cons_append, List.append_nil, true_and, and_true, not_true_eq_false, not_false_eq_true, true_implies, false_implies, implies_true, and_self, Int.reduceLT, Int.reduceLE, Int.reduceEq, Int.reduceNe, Int.reduceAdd, Int.reduceSub, Int.reduceMul, Int.reduceNeg, Int.reduceToNat, Int.toNat_natCast, ↓kk_ck, ↓kk_im, ↓kk_in, s_0_867, s_0_874, s_0_879, s_0_884, t1, t2, hp, h, @vi_32 ((n : Int) + 1) (by omega) (by omega), vi_inc, ne_eq]
      exact q
    · rw [decide_eq_false h] at q
      have q : vi_ok GG (d + 72) 0 859 [some (.inr (.inr 1)), some (.inr (.inr 29)), some (.inr (.inr 112)), some (.inl v), some (.inr (.inr 125)), some (.inr (.inr 126)), some (.inl a6), some (.inl a7), some (.inl a8), some (.inl a9), some (.inl a10), some (.inl a11), some (.inr (.inr 127)), some (.inl a13), some (.inl c), some (.inl (n : Int)), some (.inl ((b + 1 : Nat) : Int)), l17, l18, l19, l20, l21, l22, l23, l24, l25] [] (Y, M, nn) Q := q
      simp (disch := omega) only [Option.toList_some, Option.toList_none, List.nil_append, List.cons_append, List.append_nil, true_and, and_true, not_true_eq_false, not_false_eq_true, true_implies, false_implies, implies_true, and_self, Int.reduceLT, Int.reduceLE, Int.reduceEq, Int.reduceNe, Int.reduceAdd, Int.reduceSub, Int.reduceMul, Int.reduceNeg, Int.reduceToNat, Int.toNat_natCast, ↓kk_ck, ↓kk_im, ↓kk_in, s_0_867, s_0_874, s_0_883, s_0_884, t1, t2, hp, h, Int.add_zero, @vi_32 (n : Int) (by omega) (by omega), vi_inc, ne_eq]
      exact q
theorem lw_832 (hY : lwY Y ln) (tp : Y.1 127 = 1 ∧ (Y.2.1 127 : Int) = 216) (hSe : S = lfS (fK x y z t L) lw L.length) (hE : pE S p) {a6 a7 a8 a9 a10 a11 : Int}
    (hQ : ∀ M, wS M x y z t L [] lw 1 fo → lwD M g S O → ∀ (a13 a14 : Int) l15 l16 l17 l18 l19 l20 l21 l22 l23 l24 l25, vi_ok GG (d + 72) 0 962 [some (.inr (.inr 1)), some (.inr (.inr 29)), some (.inr (.inr 112)), some (.inl v), some (.inr (.inr 125)), some (.inr (.inr 126)), some (.inl a6), some (.inl a7), some (.inl a8), some (.inl a9), some (.inl a10), some (.inl a11), some (.inr (.inr 127)), some (.inl a13), some (.inl a14), l15, l16, l17, l18, l19, l20, l21, l22, l23, l24, l25] [] (Y, M, nn) Q) :
    ∀ c : Nat, c ≤ 216 → ∀ (M : vi_M) (n : Nat), wS M x y z t L [] lw 1 fo → lwD M g S O → M 127 = p → piI S p c n → ∀ l15 l16 l17 l18 l19 l20 l21 l22 l23 l24 l25, vi_ok GG (d + 72) 0 832 [some (.inr (.inr 1)), some (.inr (.inr 29)), some (.inr (.inr 112)), some (.inl v), some (.inr (.inr 125)), some (.inr (.inr 126)), some (.inl a6), some (.inl a7), some (.inl a8), some (.inl a9), some (.inl a10), some (.inl a11), some (.inr (.inr 127)), some (.inl (n : Int)), some (.inl (c : Int)), l15, l16, l17, l18, l19, l20, l21, l22, l23, l24, l25] [] (Y, M, nn) Q := by
  obtain ⟨⟨y1, y2⟩, -, -, -, -⟩ := hY
  have h29 := y2.1
  have one : ∀ (M : vi_M) (i w : Int), wS M x y z t L [] lw 1 fo → lwD M g S O → M 127 = p → ∃ M', wS M' x y z t L [] lw 1 fo ∧ lwD M' g S O ∧ M' 127 = p ∧ ∀ K : Option vi_V → vi_W → Prop, vi_call GG (d + 72) 209 [.inr (.inr 29), .inl i, .inl w] (Y, M, nn) K ↔ K (some (.inl (piV S i w))) (Y, M', nn) := by
    intro M i w hS hD hp
    obtain ⟨M', c1, c2, c3⟩ := @k_209 (d + 2) Y M nn y1 y2 S (by rw [hSe]; exact hS.2.2.2.2.1) hS.1.2.2.2.2.1 i w
    exact ⟨M', pS_q hS c1 c2, lwD_q hD c1, (c1.1 127 (by omega)).trans hp, c3⟩
  refine vi_dn 216 ?_ ?_
  · intro M n hS hD hp hi l15 l16 l17 l18 l19 l20 l21 l22 l23 l24 l25
    obtain ⟨e1, e2⟩ := piI_e hE hi
    obtain ⟨M1, p1, d1, q1, k1⟩ := one M (-1) 0 hS hD hp
    obtain ⟨M2, p2, d2, q2, k2⟩ := one M1 (n : Int) 0 p1 d1 q1
    obtain ⟨M3, p3, d3, q3, k3⟩ := one M2 0 2 p2 d2 q2
    have e3 : piV S 0 2 = -1 := by unfold piV; rw [if_neg (by decide), if_neg (by decide)]
    rw [e1] at k1
    rw [e2] at k2
    rw [e3] at k3
    have q := hQ M3 p3 d3 (n : Int) ((216 : Nat) : Int) l15 l16 l17 l18 l19 l20 l21 l22 l23 l24 l25
    rw [s_0_832]
    clear hQ one hS hD hp hi p1 p2 p3 d1 d2 d3 q1 q2 q3 e1 e2 e3 hE hSe
    simp (disch := omega) only [Option.toList_some, Option.toList_none, List.nil_append, List.cons_append, List.append_nil, true_and, and_true, not_true_eq_false, not_false_eq_true, true_implies, false_implies, implies_true, and_self, Int.reduceLT, Int.reduceLE, Int.reduceEq, Int.reduceNe, Int.reduceAdd, Int.reduceSub, Int.reduceMul, Int.reduceNeg, Int.reduceToNat, Int.toNat_natCast, ↓kk_ck, ↓kk_im, ↓kk_in, s_0_928, s_0_934, s_0_939, s_0_946, s_0_950, s_0_956, h29, k1, k2, k3, ne_eq]
    exact q
  · intro c hc ih M n hS hD hp hi l15 l16 l17 l18 l19 l20 l21 l22 l23 l24 l25
    obtain ⟨t1, t2⟩ := tp
    by_cases h : p c = (c : Int)
    · obtain ⟨j1, j2, j3⟩ := piI_s hE hc h hi
      have nb := hi.1
      obtain ⟨M1, p1, d1, q1, k1⟩ := one M (n : Int) 0 hS hD hp
      obtain ⟨M2, p2, d2, q2, k2⟩ := one M1 (n : Int) 1 p1 d1 q1
      rw [j2] at k1
      rw [j3] at k2
      have st := lw_859 (d := d) (Y := Y) (nn := nn) (v := v) (p := p) (Q := Q) (M := M) (a6 := a6) (a7 := a7) (a8 := a8) (a9 := a9) (a10 := a10) (a11 := a11) (a13 := (n : Int)) (c := (c : Int)) ⟨t1, t2⟩ hp (fun l17 l18 l19 l20 l21 l22 l23 l24 l25 => by
        have q := ih M2 (n + 1) p2 d2 q2 j1 (some (.inl (sN 216 (fun x => decide (p x = (c : Int))) : Int))) (some (.inl ((216 : Nat) : Int))) l17 l18 l19 l20 l21 l22 l23 l24 l25
        generalize sN 216 (fun x => decide (p x = (c : Int))) = m at *
        clear hQ one hS hD hi p1 p2 d1 d2 q1 q2 j1 j2 j3 hE hSe ih
        simp (disch := omega) only [Option.toList_some, Option.toList_none, List.nil_append, List.cons_append, List.append_nil, true_and, and_true, not_true_eq_false, not_false_eq_true, true_implies, false_implies, implies_true, and_self, Int.reduceLT, Int.reduceLE, Int.reduceEq, Int.reduceNe, Int.reduceAdd, Int.reduceSub, Int.reduceMul, Int.reduceNeg, Int.reduceToNat, Int.toNat_natCast, ↓kk_ck, ↓kk_im, ↓kk_in, s_0_893, s_0_900, s_0_905, s_0_912, s_0_919, s_0_922, h29, k1, k2, vi_inc, ne_eq]
        exact q) 0 (by omega) l17 l18 l19 l20 l21 l22 l23 l24 l25
      have st : vi_ok GG (d + 72) 0 859 [some (.inr (.inr 1)), some (.inr (.inr 29)), some (.inr (.inr 112)), some (.inl v), some (.inr (.inr 125)), some (.inr (.inr 126)), some (.inl a6), some (.inl a7), some (.inl a8), some (.inl a9), some (.inl a10), some (.inl a11), some (.inr (.inr 127)), some (.inl (n : Int)), some (.inl (c : Int)), some (.inl 0), some (.inl 0), l17, l18, l19, l20, l21, l22, l23, l24, l25] [] (Y, M, nn) Q := st
      rw [s_0_832]
      clear hQ one hS hD hi p1 p2 d1 d2 q1 q2 j1 j2 j3 hE hSe ih k1 k2
      simp (disch := omega) only [Option.toList_some, Option.toList_none, List.nil_append, List.cons_append, List.append_nil, true_and, and_true, not_true_eq_false, not_false_eq_true, true_implies, false_implies, implies_true, and_self, Int.reduceLT, Int.reduceLE, Int.reduceEq, Int.reduceNe, Int.reduceAdd, Int.reduceSub, Int.reduceMul, Int.reduceNeg, Int.reduceToNat, Int.toNat_natCast, ↓kk_ck, ↓kk_im, ↓kk_in, s_0_840, s_0_845, s_0_853, t1, t2, hp, h]
      exact st
    · have q := ih M n hS hD hp (piI_n hE hc h hi) l15 l16 l17 l18 l19 l20 l21 l22 l23 l24 l25
      rw [s_0_832]
      clear hQ one hS hD hi hE hSe ih
      simp (disch := omega) only [Option.toList_some, Option.toList_none, List.nil_append, List.cons_append, List.append_nil, true_and, and_true, not_true_eq_false, not_false_eq_true, true_implies, false_implies, implies_true, and_self, Int.reduceLT, Int.reduceLE, Int.reduceEq, Int.reduceNe, Int.reduceAdd, Int.reduceSub, Int.reduceMul, Int.reduceNeg, Int.reduceToNat, Int.toNat_natCast, ↓kk_ck, ↓kk_im, ↓kk_in, s_0_840, s_0_845, s_0_850, s_0_922, t1, t2, hp, h, vi_inc]
      exact q
theorem lw_818 (hY : lwY Y ln) {sl : Nat} (hSe : S = lfS (fK x y z t L) lw L.length) (hr : bxR g (fK x y z t L) fl 216 (fun c => mAt (fK x y z t L) (c : Int) L.length)) {M : vi_M} (hS : wS M x y z t L [] lw 1 fo) (hD : lwD M g S O) {a6 a7 a8 a9 a10 a11 a12 : Int} {l13 l14 l15 l16 l17 l18 l19 l20 l21 l22 l23 l24 l25 : Option vi_V}
    (hQ : ∀ (Y' : vi_Y) (M' : vi_M), lwY Y' ln → (Y'.1 127 = 1 ∧ (Y'.2.1 127 : Int) = 216) → wS M' x y z t L [] lw 1 fo → lwD M' g S O → ∀ (a13 a14 : Int) l15 l16 l17 l18 l19 l20 l21 l22 l23 l24 l25, vi_ok GG (d + 72) 0 962 [some (.inr (.inr 1)), some (.inr (.inr 29)), some (.inr (.inr 112)), some (.inl v), some (.inr (.inr 125)), some (.inr (.inr 126)), some (.inl a6), some (.inl a7), some (.inl a8), some (.inl a9), some (.inl a10), some (.inl a11), some (.inr (.inr 127)), some (.inl a13), some (.inl a14), l15, l16, l17, l18, l19, l20, l21, l22, l23, l24, l25] [] (Y', M', 128, sl + 216) Q) : vi_ok GG (d + 72) 0 818 [some (.inr (.inr 1)), some (.inr (.inr 29)), some (.inr (.inr 112)), some (.inl v), some (.inr (.inr 125)), some (.inr (.inr 126)), some (.inl a6), some (.inl a7), some (.inl a8), some (.inl a9), some (.inl a10), some (.inl a11), some (.inl a12), l13, l14, l15, l16, l17, l18, l19, l20, l21, l22, l23, l24, l25] [] (Y, M, 127, sl) Q := by
  have hY0 := hY
  obtain ⟨⟨y1, y2⟩, -, tr, ti, to'⟩ := hY0
  have hB : bxF (fK x y z t L) := hS.1.2.2.1.2.2.2.2.1
  have hSb : ∀ c, S c = true → bxS (fK x y z t L) c = true := fun c h => by rw [hSe] at h; exact lfS_b h
  rw [s_0_818]
  refine @lk_241 (d + 70) Y M _ 112 125 127 sl (fK x y z t L) S tr ti (by decide) (by decide) (by rw [rBx, hD.1]; exact ⟨hr.1.1, hr.1.2.1, hr.1.2.2.1⟩) hB (fun c hc => (hD.2 c hc).1) hSb fun p hE => ?_
  have hb : kBl Y (vi_ynew Y 127 1 216) 127 := kBl_n (Nat.le_refl _)
  have hY1 := lwY_bl hY hb
  have tp : (vi_ynew Y 127 1 216).1 127 = 1 ∧ ((vi_ynew Y 127 1 216).2.1 127 : Int) = 216 := by rw [yn1, yn2]; exact ⟨rfl, rfl⟩
  have st := lw_832 (d := d) (v := v) (nn := (128, sl + 216)) (Q := Q) (g := g) (O := O) (fo := fo) (a6 := a6) (a7 := a7) (a8 := a8) (a9 := a9) (a10 := a10) (a11 := a11) hY1 tp hSe hE (fun M' hS' hD' a13 a14 l15 l16 l17 l18 l19 l20 l21 l22 l23 l24 l25 => hQ _ M' hY1 tp hS' hD' a13 a14 l15 l16 l17 l18 l19 l20 l21 l22 l23 l24 l25) 0 (by omega) (vi_rs M 127 p) 0 (pS_o hS (by decide)) ⟨(vi_rs_o (by decide)).trans hD.1, fun j hj => by rw [vi_rs_o (by decide), vi_rs_o (by decide)]; exact hD.2 j hj⟩ vi_rs_s (piI_0 hE) l15 l16 l17 l18 l19 l20 l21 l22 l23 l24 l25
  have st : vi_ok GG (d + 72) 0 832 [some (.inr (.inr 1)), some (.inr (.inr 29)), some (.inr (.inr 112)), some (.inl v), some (.inr (.inr 125)), some (.inr (.inr 126)), some (.inl a6), some (.inl a7), some (.inl a8), some (.inl a9), some (.inl a10), some (.inl a11), some (.inr (.inr 127)), some (.inl 0), some (.inl 0), l15, l16, l17, l18, l19, l20, l21, l22, l23, l24, l25] [] (vi_ynew Y 127 1 216, vi_rs M 127 p, 128, sl + 216) Q := st
  show vi_ok GG (d + 72) 0 824 [some (.inr (.inr 1)), some (.inr (.inr 29)), some (.inr (.inr 112)), some (.inl v), some (.inr (.inr 125)), some (.inr (.inr 126)), some (.inl a6), some (.inl a7), some (.inl a8), some (.inl a9), some (.inl a10), some (.inl a11), some (.inl a12), l13, l14, l15, l16, l17, l18, l19, l20, l21, l22, l23, l24, l25] [.inr (.inr 127)] (vi_ynew Y 127 1 216, vi_rs M 127 p, 127 + 1, sl + 216) Q
  rw [s_0_824]
  exact st
end
