/-! The property of its own: HOLES by ints. -/
def hoV (x y z a u w e p l : Int) : Prop := (0 ≤ a ∧ a ≤ 2) ∧ (0 ≤ u ∧ u < gU x y z a) ∧ (0 ≤ w ∧ w < gV x y z a) ∧ (0 ≤ e ∧ e ≤ 1) ∧ (1 ≤ p ∧ p ≤ 6) ∧ (-1 ≤ l ∧ l ≤ 1)
theorem hoV_g {x y z a u w e p l : Int} (hb : gB x y z) (h : hoV x y z a u w e p l) : gH (vV a u w e p l) ∧ gPl x y z a u w = true := by
  obtain ⟨h1, h2, h3, h4, h5, h6⟩ := h
  obtain ⟨b1, b2, b3⟩ := hb
  refine ⟨⟨h1, ?_, ?_, h4, h5, h6⟩, decide_eq_true ⟨h1.1, h1.2, h2.1, h2.2, h3.1, h3.2⟩⟩
  · show 0 ≤ u ∧ u < 6
    revert h2
    unfold gU
    split <;> intro h2 <;> omega
  · show 0 ≤ w ∧ w < 6
    revert h3
    unfold gV
    split <;> intro h3 <;> omega
/-- the i-th CELL of a HOLE -/
theorem ho_c {x y z a u w e p l : Int} (h : hoV x y z a u w e p l) {i : Nat} : gOf x y z (vV a u w e p l) (i : Int) = if (i : Int) < p ∧ (i : Int) < gSz x y z a ∧ 0 ≤ u + (i : Int) * l ∧ u + (i : Int) * l < gU x y z a then mHa a.toNat (u + (i : Int) * l) w (if e = 0 then (i : Int) else gSz x y z a - 1 - (i : Int)) else -1 := by
  obtain ⟨h1, h2, h3, h4, h5, h6⟩ := h
  show (if (i : Int) < p then gOn x y z a (if e = 0 then (i : Int) else gSz x y z a - 1 - (i : Int)) (u + (i : Int) * l) w else -1) = _
  rw [hc_on]
  generalize (i : Int) * l = q
  generalize gSz x y z a = sz
  generalize gU x y z a = su at *
  generalize gV x y z a = sv at *
  by_cases c1 : (i : Int) < p
  · rw [if_pos c1]
    by_cases c2 : (i : Int) < sz ∧ 0 ≤ u + q ∧ u + q < su
    · rw [if_pos (show (i : Int) < p ∧ (i : Int) < sz ∧ 0 ≤ u + q ∧ u + q < su from ⟨c1, c2⟩), if_pos]
      refine ⟨h1.1, h1.2, ?_, ?_, c2.2.1, c2.2.2, h3.1, h3.2⟩
      · split <;> omega
      · split <;> omega
    · rw [if_neg (show ¬ ((i : Int) < p ∧ (i : Int) < sz ∧ 0 ≤ u + q ∧ u + q < su) from fun k => c2 k.2), if_neg]
      rintro ⟨-, -, k1, k2, k3, k4, -⟩
      refine c2 ⟨?_, k3, k4⟩
      revert k1 k2
      split <;> intro k1 k2 <;> omega
  · rw [if_neg c1, if_neg (fun k => c1 k.1)]
theorem mHa_b {x y z : Int} (hb : gB x y z) {a U w s : Int} (ha : 0 ≤ a ∧ a ≤ 2) (hU : 0 ≤ U ∧ U < gU x y z a) (hw : 0 ≤ w ∧ w < gV x y z a) (hs : 0 ≤ s ∧ s < gSz x y z a) : ∃ c : Nat, mHa a.toNat U w s = (c : Int) ∧ c < 216 ∧ (c : Int) % 6 < x ∧ (c : Int) / 6 % 6 < y ∧ (c : Int) / 36 < z := by
  obtain ⟨b1, b2, b3⟩ := hb
  obtain rfl | rfl | rfl : a = 0 ∨ a = 1 ∨ a = 2 := by omega
  · have hU : 0 ≤ U ∧ U < y := hU
    have hw : 0 ≤ w ∧ w < z := hw
    have hs : 0 ≤ s ∧ s < x := hs
    refine ⟨(36 * w + 6 * U + s).toNat, ?_, by omega, by omega, by omega, by omega⟩
    show 36 * w + 6 * U + s = _
    omega
  · have hU : 0 ≤ U ∧ U < x := hU
    have hw : 0 ≤ w ∧ w < z := hw
    have hs : 0 ≤ s ∧ s < y := hs
    refine ⟨(36 * w + 6 * s + U).toNat, ?_, by omega, by omega, by omega, by omega⟩
    show 36 * w + 6 * s + U = _
    omega
  · have hU : 0 ≤ U ∧ U < x := hU
    have hw : 0 ≤ w ∧ w < y := hw
    have hs : 0 ≤ s ∧ s < z := hs
    refine ⟨(36 * s + 6 * w + U).toNat, ?_, by omega, by omega, by omega, by omega⟩
    show 36 * s + 6 * w + U = _
    omega
section
variable {d : Nat} {Y : vi_Y} {M : vi_M} {nn : Nat × Nat} {v : Int} {Q : Option vi_V → vi_W → Prop}
/-- the numbers of a HOLE -/
theorem bx_175 (tr : Y.1 112 = 1 ∧ (Y.2.1 112 : Int) = 222) {ln k : Nat} (ts : Y.1 1 = 11 ∧ Y.2.1 1 = ln) (hk : k < ln) {x y z : Int} (hb : gB x y z) (r0 : M 112 0 = x) (r1 : M 112 1 = y) (r2 : M 112 2 = z)
    (hQ : ∀ a u w e p l : Int, hoV x y z a u w e p l → ∀ l13 l14, vi_ok GG (d + 71) 236 299 [some (.inr (.inr 29)), some (.inr (.inr 1)), some (.inl 6), some (.inl 9), some (.inr (.inr 112)), some (.inl v), some (.inl (k : Int)), some (.inl a), some (.inl u), some (.inl w), some (.inl e), some (.inl p), some (.inl l), l13, l14] [] (Y, M, nn) Q) (l7 l8 l9 l10 l11 l12 l13 l14 : Option vi_V) : vi_ok GG (d + 71) 236 175 [some (.inr (.inr 29)), some (.inr (.inr 1)), some (.inl 6), some (.inl 9), some (.inr (.inr 112)), some (.inl v), some (.inl (k : Int)), l7, l8, l9, l10, l11, l12, l13, l14] [] (Y, M, nn) Q := by
  obtain ⟨t1, t2⟩ := tr
  obtain ⟨s1, s2⟩ := ts
  obtain ⟨b0, b1, b2⟩ := hb
  have s2 : (Y.2.1 1 : Int) = (ln : Int) := by rw [s2]
  have z0 : (0 : Int).toNat = 0 := rfl
  have z1 : (1 : Int).toNat = 1 := rfl
  have z2 : (2 : Int).toNat = 2 := rfl
  have k234 := fun {K : Option vi_V → vi_W → Prop} {u n : Int} (h1 : 1 ≤ n) (h2 : n ≤ 1000) => @lk_234 (d + 70) K Y M nn u n h1 h2
  simp only [Nat.add_assoc, Nat.reduceAdd] at k234
  generalize hs : M 1 k = s
  have st280 : ∀ a u w e p : Int, (∀ l : Int, -1 ≤ l ∧ l ≤ 1 → hoV x y z a u w e p l) → ∀ q : Int, vi_ok GG (d + 71) 236 280 [some (.inr (.inr 29)), some (.inr (.inr 1)), some (.inl 6), some (.inl 9), some (.inr (.inr 112)), some (.inl v), some (.inl (k : Int)), some (.inl a), some (.inl u), some (.inl w), some (.inl e), some (.inl p), l12, l13, l14] [.inl (q % 5)] (Y, M, nn) Q := by
    intro a u w e p h q
    obtain ⟨r, hr⟩ : ∃ r, r = q % 5 := ⟨_, rfl⟩
    have rb : 0 ≤ r ∧ r ≤ 4 := by omega
    rw [← hr]
    clear hr
    by_cases c1 : 3 < r
    · have := hQ a u w e p 0 (h 0 (by omega)) l13 l14
      clear hQ h
      simp (disch := omega) only [Option.toList_some, Option.toList_none, List.nil_append, List.cons_append, List.append_nil, true_and, and_true, not_true_eq_false, not_false_eq_true, true_implies, false_implies, implies_true, and_self, Int.reduceLT, Int.reduceLE, Int.reduceEq, Int.reduceNe, Int.reduceAdd, Int.reduceSub, Int.reduceMul, Int.reduceNeg, Int.reduceToNat, Int.toNat_natCast, ↓kk_ck, ↓kk_im, ↓kk_in, s_236_280, s_236_287, s_236_296, @vi_32 (r - 2) (by omega) (by omega)]
      exact this
    · by_cases c2 : r < 1
      · have := hQ a u w e p 0 (h 0 (by omega)) l13 l14
        clear hQ h
        simp (disch := omega) only [Option.toList_some, Option.toList_none, List.nil_append, List.cons_append, List.append_nil, true_and, and_true, not_true_eq_false, not_false_eq_true, true_implies, false_implies, implies_true, and_self, Int.reduceLT, Int.reduceLE, Int.reduceEq, Int.reduceNe, Int.reduceAdd, Int.reduceSub, Int.reduceMul, Int.reduceNeg, Int.reduceToNat, Int.toNat_natCast, ↓kk_ck, ↓kk_im, ↓kk_in, s_236_280, s_236_287, s_236_290, s_236_296, @vi_32 (r - 2) (by omega) (by omega)]
        exact this
      · have := hQ a u w e p (r - 2) (h (r - 2) (by omega)) l13 l14
        clear hQ h
        simp (disch := omega) only [Option.toList_some, Option.toList_none, List.nil_append, List.cons_append, List.append_nil, true_and, and_true, not_true_eq_false, not_false_eq_true, true_implies, false_implies, implies_true, and_self, Int.reduceLT, Int.reduceLE, Int.reduceEq, Int.reduceNe, Int.reduceAdd, Int.reduceSub, Int.reduceMul, Int.reduceNeg, Int.reduceToNat, Int.toNat_natCast, ↓kk_ck, ↓kk_im, ↓kk_in, s_236_280, s_236_287, s_236_290, @vi_32 (r - 2) (by omega) (by omega)]
        exact this
  have st266 : ∀ a u w e : Int, (∀ p l : Int, 1 ≤ p ∧ p ≤ 6 → -1 ≤ l ∧ l ≤ 1 → hoV x y z a u w e p l) → ∀ q : Int, vi_ok GG (d + 71) 236 266 [some (.inr (.inr 29)), some (.inr (.inr 1)), some (.inl 6), some (.inl 9), some (.inr (.inr 112)), some (.inl v), some (.inl (k : Int)), some (.inl a), some (.inl u), some (.inl w), some (.inl e), l11, l12, l13, l14] [.inl (q % 6), .inl 1] (Y, M, nn) Q := by
    intro a u w e h q
    obtain ⟨r, hr⟩ : ∃ r, r = 1 + q % 6 := ⟨_, rfl⟩
    have rb : 1 ≤ r ∧ r ≤ 6 := by omega
    have := st280 a u w e r (fun l hl => h r l rb hl) (vi_shr32 s (12 : Int))
    clear hQ st280
    simp (disch := omega) only [Option.toList_some, Option.toList_none, List.nil_append, List.cons_append, List.append_nil, true_and, and_true, not_true_eq_false, not_false_eq_true, true_implies, false_implies, implies_true, and_self, Int.reduceLT, Int.reduceLE, Int.reduceEq, Int.reduceNe, Int.reduceAdd, Int.reduceSub, Int.reduceMul, Int.reduceNeg, Int.reduceToNat, Int.toNat_natCast, ↓kk_ck, ↓kk_im, ↓kk_in, s_236_266, s_236_273, s1, s2, hs, k234, ← hr, @vi_32 r (by omega) (by omega)]
    exact this
  have st251 : ∀ a u w : Int, (∀ e p l : Int, 0 ≤ e ∧ e ≤ 1 → 1 ≤ p ∧ p ≤ 6 → -1 ≤ l ∧ l ≤ 1 → hoV x y z a u w e p l) → ∀ q : Int, vi_ok GG (d + 71) 236 251 [some (.inr (.inr 29)), some (.inr (.inr 1)), some (.inl 6), some (.inl 9), some (.inr (.inr 112)), some (.inl v), some (.inl (k : Int)), some (.inl a), some (.inl u), some (.inl w), l10, l11, l12, l13, l14] [.inl (q % 2)] (Y, M, nn) Q := by
    intro a u w h q
    have := st266 a u w (q % 2) (fun p l hp hl => h (q % 2) p l (by omega) hp hl) (vi_shr32 s (9 : Int))
    clear hQ st280 st266
    simp (disch := omega) only [Option.toList_some, Option.toList_none, List.nil_append, List.cons_append, List.append_nil, true_and, and_true, not_true_eq_false, not_false_eq_true, true_implies, false_implies, implies_true, and_self, Int.reduceLT, Int.reduceLE, Int.reduceEq, Int.reduceNe, Int.reduceAdd, Int.reduceSub, Int.reduceMul, Int.reduceNeg, Int.reduceToNat, Int.toNat_natCast, ↓kk_ck, ↓kk_im, ↓kk_in, s_236_251, s_236_258, s1, s2, hs, k234]
    exact this
  have st238 : ∀ a u w : Int, (0 ≤ a ∧ a ≤ 2) → (0 ≤ u ∧ u < gU x y z a) → (0 ≤ w ∧ w < gV x y z a) → vi_ok GG (d + 71) 236 238 [some (.inr (.inr 29)), some (.inr (.inr 1)), some (.inl 6), some (.inl 9), some (.inr (.inr 112)), some (.inl v), some (.inl (k : Int)), some (.inl a), some (.inl u), l9, l10, l11, l12, l13, l14] [.inl w] (Y, M, nn) Q := by
    intro a u w ha hu hw
    have := st251 a u w (fun e p l he hp hl => ⟨ha, hu, hw, he, hp, hl⟩) (vi_shr32 s (8 : Int))
    clear hQ st280 st266 st251
    simp (disch := omega) only [Option.toList_some, Option.toList_none, List.nil_append, List.cons_append, List.append_nil, true_and, and_true, not_true_eq_false, not_false_eq_true, true_implies, false_implies, implies_true, and_self, Int.reduceLT, Int.reduceLE, Int.reduceEq, Int.reduceNe, Int.reduceAdd, Int.reduceSub, Int.reduceMul, Int.reduceNeg, Int.reduceToNat, Int.toNat_natCast, ↓kk_ck, ↓kk_im, ↓kk_in, s_236_238, s_236_244, s1, s2, hs, k234]
    exact this
  have st210 : ∀ a u : Int, (0 ≤ a ∧ a ≤ 2) → (0 ≤ u ∧ u < gU x y z a) → vi_ok GG (d + 71) 236 210 [some (.inr (.inr 29)), some (.inr (.inr 1)), some (.inl 6), some (.inl 9), some (.inr (.inr 112)), some (.inl v), some (.inl (k : Int)), some (.inl a), l8, l9, l10, l11, l12, l13, l14] [.inl u] (Y, M, nn) Q := by
    intro a u ha hu
    by_cases c : a = 2
    · subst c
      have := st238 2 u (vi_shr32 s (5 : Int) % y) ha hu ⟨Int.emod_nonneg _ (by omega), Int.emod_lt_of_pos _ (show 0 < y by omega)⟩
      clear hQ st280 st266 st251 st238
      simp (disch := omega) only [Option.toList_some, Option.toList_none, List.nil_append, List.cons_append, List.append_nil, true_and, and_true, not_true_eq_false, not_false_eq_true, true_implies, false_implies, implies_true, and_self, Int.reduceLT, Int.reduceLE, Int.reduceEq, Int.reduceNe, Int.reduceAdd, Int.reduceSub, Int.reduceMul, Int.reduceNeg, Int.reduceToNat, Int.toNat_natCast, ↓kk_ck, ↓kk_im, ↓kk_in, s_236_210, s_236_216, s_236_224, s_236_228, s_236_235, s1, s2, hs, k234, t1, t2, z1, r1, ne_eq]
      exact this
    · have := st238 a u (vi_shr32 s (5 : Int) % z) ha hu ⟨Int.emod_nonneg _ (by omega), by unfold gV; rw [if_neg c]; exact Int.emod_lt_of_pos _ (show 0 < z by omega)⟩
      clear hQ st280 st266 st251 st238
      simp (disch := omega) only [Option.toList_some, Option.toList_none, List.nil_append, List.cons_append, List.append_nil, true_and, and_true, not_true_eq_false, not_false_eq_true, true_implies, false_implies, implies_true, and_self, Int.reduceLT, Int.reduceLE, Int.reduceEq, Int.reduceNe, Int.reduceAdd, Int.reduceSub, Int.reduceMul, Int.reduceNeg, Int.reduceToNat, Int.toNat_natCast, ↓kk_ck, ↓kk_im, ↓kk_in, s_236_210, s_236_216, s_236_231, s_236_235, s1, s2, hs, k234, t1, t2, z2, r2, c, ne_eq]
      exact this
  have st183 : ∀ q : Int, vi_ok GG (d + 71) 236 183 [some (.inr (.inr 29)), some (.inr (.inr 1)), some (.inl 6), some (.inl 9), some (.inr (.inr 112)), some (.inl v), some (.inl (k : Int)), l7, l8, l9, l10, l11, l12, l13, l14] [.inl (q % 3)] (Y, M, nn) Q := by
    intro q
    obtain ⟨a, ha⟩ : ∃ a, a = q % 3 := ⟨_, rfl⟩
    have hab : 0 ≤ a ∧ a ≤ 2 := by omega
    rw [← ha]
    clear ha
    by_cases c : a = 0
    · subst c
      have := st210 0 (vi_shr32 s (2 : Int) % y) hab ⟨Int.emod_nonneg _ (by omega), Int.emod_lt_of_pos _ (show 0 < y by omega)⟩
      clear hQ st280 st266 st251 st238 st210
      simp (disch := omega) only [Option.toList_some, Option.toList_none, List.nil_append, List.cons_append, List.append_nil, true_and, and_true, not_true_eq_false, not_false_eq_true, true_implies, false_implies, implies_true, and_self, Int.reduceLT, Int.reduceLE, Int.reduceEq, Int.reduceNe, Int.reduceAdd, Int.reduceSub, Int.reduceMul, Int.reduceNeg, Int.reduceToNat, Int.toNat_natCast, ↓kk_ck, ↓kk_im, ↓kk_in, s_236_183, s_236_189, s_236_196, s_236_200, s_236_207, s1, s2, hs, k234, t1, t2, z1, r1, ne_eq]
      exact this
    · have := st210 a (vi_shr32 s (2 : Int) % x) hab ⟨Int.emod_nonneg _ (by omega), by unfold gU; rw [if_neg c]; exact Int.emod_lt_of_pos _ (show 0 < x by omega)⟩
      clear hQ st280 st266 st251 st238 st210
      simp (disch := omega) only [Option.toList_some, Option.toList_none, List.nil_append, List.cons_append, List.append_nil, true_and, and_true, not_true_eq_false, not_false_eq_true, true_implies, false_implies, implies_true, and_self, Int.reduceLT, Int.reduceLE, Int.reduceEq, Int.reduceNe, Int.reduceAdd, Int.reduceSub, Int.reduceMul, Int.reduceNeg, Int.reduceToNat, Int.toNat_natCast, ↓kk_ck, ↓kk_im, ↓kk_in, s_236_183, s_236_189, s_236_203, s_236_207, s1, s2, hs, k234, t1, t2, z0, r0, c, ne_eq]
      exact this
  have := st183 s
  clear hQ st280 st266 st251 st238 st210 st183
  simp (disch := omega) only [Option.toList_some, Option.toList_none, List.nil_append, List.cons_append, List.append_nil, true_and, and_true, not_true_eq_false, not_false_eq_true, true_implies, false_implies, implies_true, and_self, Int.reduceLT, Int.reduceLE, Int.reduceEq, Int.reduceNe, Int.reduceAdd, Int.reduceSub, Int.reduceMul, Int.reduceNeg, Int.reduceToNat, Int.toNat_natCast, ↓kk_ck, ↓kk_im, ↓kk_in, s_236_175, s_236_179, s1, s2, hs, k234]
  exact this
/-- how often it goes through each CELL -/
theorem bx_327 (tr : Y.1 112 = 1 ∧ (Y.2.1 112 : Int) = 222) {x y z t : Int} (hb : gB x y z) {L : List (Nat → Int)} (hL : L.length ≤ 16) {a u w e p l : Int} (h : hoV x y z a u w e p l) {k : Nat}
    (hQ : ∀ g, bxR g (fK x y z t (L ++ [vV a u w e p l])) 0 216 (fun c => ((hC x y z L (c : Int) + sN 6 (fun k => decide (gOf x y z (vV a u w e p l) (k : Int) = (c : Int))) : Nat) : Int)) → ∀ (l13 : Int) (l14 : Option vi_V), vi_ok GG (d + 71) 236 428 [some (.inr (.inr 29)), some (.inr (.inr 1)), some (.inl 6), some (.inl 9), some (.inr (.inr 112)), some (.inl v), some (.inl (k : Int)), some (.inl a), some (.inl u), some (.inl w), some (.inl e), some (.inl p), some (.inl l), some (.inl l13), l14] [] (Y, vi_rs M 112 g, nn) Q) :
    ∀ i : Nat, i ≤ 6 → ∀ g l14, bxR g (fK x y z t (L ++ [vV a u w e p l])) 0 216 (fun c => ((hC x y z L (c : Int) + sN i (fun k => decide (gOf x y z (vV a u w e p l) (k : Int) = (c : Int))) : Nat) : Int)) → vi_ok GG (d + 71) 236 327 [some (.inr (.inr 29)), some (.inr (.inr 1)), some (.inl 6), some (.inl 9), some (.inr (.inr 112)), some (.inl v), some (.inl (k : Int)), some (.inl a), some (.inl u), some (.inl w), some (.inl e), some (.inl p), some (.inl l), some (.inl (i : Int)), l14] [] (Y, vi_rs M 112 g, nn) Q := by
  have hg := hoV_g hb h
  have out : ∀ i : Nat, i ≤ 6 → gOf x y z (vV a u w e p l) (i : Int) = -1 → ∀ g l14, bxR g (fK x y z t (L ++ [vV a u w e p l])) 0 216 (fun c => ((hC x y z L (c : Int) + sN i (fun k => decide (gOf x y z (vV a u w e p l) (k : Int) = (c : Int))) : Nat) : Int)) → vi_ok GG (d + 71) 236 428 [some (.inr (.inr 29)), some (.inr (.inr 1)), some (.inl 6), some (.inl 9), some (.inr (.inr 112)), some (.inl v), some (.inl (k : Int)), some (.inl a), some (.inl u), some (.inl w), some (.inl e), some (.inl p), some (.inl l), some (.inl (i : Int)), l14] [] (Y, vi_rs M 112 g, nn) Q := by
    intro i hi hm g l14 hr
    refine hQ g ⟨hr.1, fun c hc => ?_⟩ _ _
    have ee := gOf_out hg.1 hb hg.2 hm
    rw [hr.2 c hc]
    refine congrArg (fun s : Int => if bxS (fK x y z t (L ++ [vV a u w e p l])) c = true then s else -1) ?_
    show ((hC x y z L (c : Int) + sN i _ : Nat) : Int) = ((hC x y z L (c : Int) + sN 6 _ : Nat) : Int)
    rw [sN_ge (i := i) (fun j hj _ => decide_eq_false (by rw [ee j hj]; omega)) 6 hi (Nat.le_refl _)]
  obtain ⟨t1, t2⟩ := tr
  have z0 : (0 : Int).toNat = 0 := rfl
  have z1 : (1 : Int).toNat = 1 := rfl
  refine vi_dn 6 ?_ ?_
  · intro g l14 hr
    have := out 6 (by omega) (by rw [ho_c h, if_neg]; obtain ⟨-, -, -, -, h5, -⟩ := h; omega) g l14 hr
    obtain ⟨-, -, -, -, h5, -⟩ := h
    rw [s_236_327]
    clear hQ out hr hg
    simp (disch := omega) only [Option.toList_some, Option.toList_none, List.nil_append, List.cons_append, List.append_nil, true_and, and_true, not_true_eq_false, not_false_eq_true, true_implies, false_implies, implies_true, and_self, Int.reduceLT, Int.reduceLE, Int.reduceEq, Int.reduceNe, Int.reduceAdd, Int.reduceSub, Int.reduceMul, Int.reduceNeg, Int.reduceToNat, Int.toNat_natCast, ↓kk_ck, ↓kk_im, ↓kk_in]
    exact this
  · intro i hi ih g l14 hr
    have hc := @ho_c x y z a u w e p l h i
    have ex := out i (by omega)
    obtain ⟨h1, h2, h3, h4, h5, h6⟩ := h
    have hl := hit h6 (show i ≤ 6 by omega)
    obtain ⟨⟨g0, g1, g2, g3, g5⟩, gc⟩ := hr
    have g0 : g 0 = x := g0
    have g1 : g 1 = y := g1
    have g2 : g 2 = z := g2
    have ga : g a.toNat = gSz x y z a := by
      obtain rfl | rfl | rfl : a = 0 ∨ a = 1 ∨ a = 2 := by omega
      · exact g0
      · exact g1
      · exact g2
    have hr : bxR g (fK x y z t (L ++ [vV a u w e p l])) 0 216 (fun c => ((hC x y z L (c : Int) + sN i (fun k => decide (gOf x y z (vV a u w e p l) (k : Int) = (c : Int))) : Nat) : Int)) := ⟨⟨g0, g1, g2, g3, g5⟩, gc⟩
    have szb : 1 ≤ gSz x y z a ∧ gSz x y z a ≤ 6 := by
      obtain ⟨b0, b1, b2⟩ := hb
      unfold gSz
      split
      · exact b0
      · split
        · exact b1
        · exact b2
    obtain ⟨U, hU⟩ : ∃ U, U = u + (i : Int) * l := ⟨_, rfl⟩
    have ub : u < 6 := by
      obtain ⟨b0, b1, b2⟩ := hb
      revert h2
      unfold gU
      split <;> intro h2 <;> omega
    have Ub : -10 ≤ U ∧ U ≤ 20 := by omega
    have il : -6 ≤ (i : Int) * l ∧ (i : Int) * l ≤ 6 := hl
    rw [← hU] at hc
    rw [s_236_327]
    by_cases c1 : p ≤ (i : Int)
    · have := ex (by rw [hc, if_neg]; omega) g l14 hr
      clear hQ out ih ex hc gc hr hg hU
      simp (disch := omega) only [Option.toList_some, Option.toList_none, List.nil_append, List.cons_append, List.append_nil, true_and, and_true, not_true_eq_false, not_false_eq_true, true_implies, false_implies, implies_true, and_self, Int.reduceLT, Int.reduceLE, Int.reduceEq, Int.reduceNe, Int.reduceAdd, Int.reduceSub, Int.reduceMul, Int.reduceNeg, Int.reduceToNat, Int.toNat_natCast, ↓kk_ck, ↓kk_im, ↓kk_in]
      exact this
    · by_cases c2 : gSz x y z a ≤ (i : Int)
      · have := ex (by rw [hc, if_neg]; omega) g l14 hr
        clear hQ out ih ex hc gc hr hg hU
        simp (disch := omega) only [Option.toList_some, Option.toList_none, List.nil_append, List.cons_append, List.append_nil, true_and, and_true, not_true_eq_false, not_false_eq_true, true_implies, false_implies, implies_true, and_self, Int.reduceLT, Int.reduceLE, Int.reduceEq, Int.reduceNe, Int.reduceAdd, Int.reduceSub, Int.reduceMul, Int.reduceNeg, Int.reduceToNat, Int.toNat_natCast, ↓kk_ck, ↓kk_im, ↓kk_in, s_236_334, s_236_341, t1, t2, vi_rs_s, ga]
        exact this
      · have w1 : vi_w32 (u + vi_w32 ((i : Int) * l)) = U := by rw [@vi_32 ((i : Int) * l) (by omega) (by omega), hU, vi_32 (by omega) (by omega)]
        have st344 : vi_ok GG (d + 71) 236 356 [some (.inr (.inr 29)), some (.inr (.inr 1)), some (.inl 6), some (.inl 9), some (.inr (.inr 112)), some (.inl v), some (.inl (k : Int)), some (.inl a), some (.inl u), some (.inl w), some (.inl e), some (.inl p), some (.inl l), some (.inl (i : Int)), some (.inl U)] [.inl U] (Y, vi_rs M 112 g, nn) Q → ((p ≤ (i : Int) → vi_ok GG (d + 71) 236 428 [some (.inr (.inr 29)), some (.inr (.inr 1)), some (.inl 6), some (.inl 9), some (.inr (.inr 112)), some (.inl v), some (.inl (k : Int)), some (.inl a), some (.inl u), some (.inl w), some (.inl e), some (.inl p), some (.inl l), some (.inl (i : Int)), l14] [] (Y, vi_rs M 112 g, nn) Q) ∧ (¬ (p ≤ (i : Int)) → vi_ok GG (d + 71) 236 334 [some (.inr (.inr 29)), some (.inr (.inr 1)), some (.inl 6), some (.inl 9), some (.inr (.inr 112)), some (.inl v), some (.inl (k : Int)), some (.inl a), some (.inl u), some (.inl w), some (.inl e), some (.inl p), some (.inl l), some (.inl (i : Int)), l14] [] (Y, vi_rs M 112 g, nn) Q)) := by
          intro hq
          refine ⟨fun k => absurd k c1, fun _ => ?_⟩
          rw [s_236_334]
          refine ⟨⟨t1, by omega, by omega⟩, ?_⟩
          rw [vi_rs_s, ga, s_236_341]
          refine ⟨fun k => absurd k c2, fun _ => ?_⟩
          rw [s_236_344, w1]
          exact hq
        refine st344 ?_
        clear st344 w1
        by_cases c3 : U < 0
        · have := ex (by rw [hc, if_neg]; omega) g (some (.inl U)) hr
          clear hQ out ih ex hc gc hr hg hU
          simp (disch := omega) only [Option.toList_some, Option.toList_none, List.nil_append, List.cons_append, List.append_nil, true_and, and_true, not_true_eq_false, not_false_eq_true, true_implies, false_implies, implies_true, and_self, Int.reduceLT, Int.reduceLE, Int.reduceEq, Int.reduceNe, Int.reduceAdd, Int.reduceSub, Int.reduceMul, Int.reduceNeg, Int.reduceToNat, Int.toNat_natCast, ↓kk_ck, ↓kk_im, ↓kk_in, s_236_356]
          exact this
        · by_cases c4 : gU x y z a ≤ U
          · have := ex (by rw [hc, if_neg]; omega) g (some (.inl U)) hr
            clear hQ out ih ex hc gc hr hg hU
            by_cases a0 : a = 0
            · subst a0
              have c4 : y ≤ U := c4
              simp (disch := omega) only [Option.toList_some, Option.toList_none, List.nil_append, List.cons_append, List.append_nil, true_and, and_true, not_true_eq_false, not_false_eq_true, true_implies, false_implies, implies_true, and_self, Int.reduceLT, Int.reduceLE, Int.reduceEq, Int.reduceNe, Int.reduceAdd, Int.reduceSub, Int.reduceMul, Int.reduceNeg, Int.reduceToNat, Int.toNat_natCast, ↓kk_ck, ↓kk_im, ↓kk_in, s_236_356, s_236_359, s_236_366, s_236_370, s_236_377, s_236_380, t1, t2, vi_rs_s, z1, g1, ne_eq]
              exact this
            · have c4 : x ≤ U := by unfold gU at c4; rw [if_neg a0] at c4; exact c4
              simp (disch := omega) only [Option.toList_some, Option.toList_none, List.nil_append, List.cons_append, List.append_nil, true_and, and_true, not_true_eq_false, not_false_eq_true, true_implies, false_implies, implies_true, and_self, Int.reduceLT, Int.reduceLE, Int.reduceEq, Int.reduceNe, Int.reduceAdd, Int.reduceSub, Int.reduceMul, Int.reduceNeg, Int.reduceToNat, Int.toNat_natCast, ↓kk_ck, ↓kk_im, ↓kk_in, s_236_356, s_236_359, s_236_373, s_236_377, s_236_380, t1, t2, vi_rs_s, z0, g0, a0, ne_eq]
              exact this
          · obtain ⟨s, hs⟩ : ∃ s, s = (if e = 0 then (i : Int) else gSz x y z a - 1 - (i : Int)) := ⟨_, rfl⟩
            have sb : 0 ≤ s ∧ s < gSz x y z a := by rw [hs]; split <;> omega
            rw [if_pos (by omega), ← hs] at hc
            obtain ⟨c, q1, q2, q3, q4, q5⟩ := mHa_b hb h1 ⟨show 0 ≤ U by omega, by omega⟩ h3 sb
            rw [q1] at hc
            have cb : bxS (fK x y z t (L ++ [vV a u w e p l])) c = true := (bxS_f q2).mpr ⟨q3, q4, q5⟩
            have wb : 0 ≤ w ∧ w ≤ 5 := by
              obtain ⟨b0, b1, b2⟩ := hb
              revert h3
              unfold gV
              split <;> intro h3 <;> omega
            have Ub2 : 0 ≤ U ∧ U ≤ 5 := by
              obtain ⟨b0, b1, b2⟩ := hb
              revert c4
              unfold gU
              split <;> intro c4 <;> omega
            have k237 := fun {K : Option vi_V → vi_W → Prop} => @lk_237 (d + 70) K Y (vi_rs M 112 g) nn a U w s h1 Ub2 wb (by omega)
            simp only [Nat.add_assoc, Nat.reduceAdd] at k237
            rw [q1] at k237
            have nx := ih (vi_u g (6 + c) (g (6 + c) + 1)) (some (.inl U)) ⟨⟨by rw [vi_u_o (by omega)]; exact g0, by rw [vi_u_o (by omega)]; exact g1, by rw [vi_u_o (by omega)]; exact g2, by rw [vi_u_o (by omega)]; exact g3, by rw [vi_u_o (by omega)]; exact g5⟩, fun j hj => by
              by_cases e1 : j = c
              · rw [e1, vi_u_s, gc c q2, if_pos cb, if_pos cb]
                dsimp only
                rw [sN_s, decide_eq_true hc, Bool.toNat_true]
                omega
              · rw [vi_u_o (by omega), gc j hj]
                dsimp only
                rw [sN_s, decide_eq_false (by rw [hc]; omega)]
                rfl⟩
            have e6 : (6 + (c : Int)).toNat = 6 + c := by omega
            have gb : g (6 + c) = ((hC x y z L (c : Int) + sN i (fun k => decide (gOf x y z (vV a u w e p l) (k : Int) = (c : Int))) : Nat) : Int) := by rw [gc c q2, if_pos cb]
            have fin : ∀ m : Int, g (6 + c) = m → vi_w32 (m + 1) = m + 1 → vi_ok GG (d + 71) 236 413 [some (.inr (.inr 29)), some (.inr (.inr 1)), some (.inl 6), some (.inl 9), some (.inr (.inr 112)), some (.inl v), some (.inl (k : Int)), some (.inl a), some (.inl u), some (.inl w), some (.inl e), some (.inl p), some (.inl l), some (.inl (i : Int)), some (.inl U)] [.inl s, .inl w, .inl U, .inl a, .inl 6, .inr (.inr 112)] (Y, vi_rs M 112 g, nn) Q := by
              intro m hm hw
              rw [hm] at nx
              clear hQ out ih ex hc gc hr hg hU hs gb
              simp (disch := omega) only [Option.toList_some, Option.toList_none, List.nil_append, List.cons_append, List.append_nil, true_and, and_true, not_true_eq_false, not_false_eq_true, true_implies, false_implies, implies_true, and_self, Int.reduceLT, Int.reduceLE, Int.reduceEq, Int.reduceNe, Int.reduceAdd, Int.reduceSub, Int.reduceMul, Int.reduceNeg, Int.reduceToNat, Int.toNat_natCast, ↓kk_ck, ↓kk_im, ↓kk_in, s_236_413, s_236_416, s_236_418, s_236_419, s_236_422, k237, t1, t2, vi_rs_s, vi_ms_rs, vi_rs_rs, e6, hm, hw, vi_inc, @vi_32 (6 + (c : Int)) (by omega) (by omega)]
              exact nx
            have fin := fin (g (6 + c)) rfl (vi_32 (by rw [gb]; omega) (by
              rw [gb]
              have b1 : hC x y z L (c : Int) ≤ 6 * L.length := hP_le _ _
              have b2 := sN_le i (fun k => decide (gOf x y z (vV a u w e p l) (k : Int) = (c : Int)))
              omega))
            have a413 : vi_ok GG (d + 71) 236 383 [some (.inr (.inr 29)), some (.inr (.inr 1)), some (.inl 6), some (.inl 9), some (.inr (.inr 112)), some (.inl v), some (.inl (k : Int)), some (.inl a), some (.inl u), some (.inl w), some (.inl e), some (.inl p), some (.inl l), some (.inl (i : Int)), some (.inl U)] [] (Y, vi_rs M 112 g, nn) Q := by
              by_cases e0 : e = 0
              · rw [if_pos e0] at hs
                subst hs
                clear hQ out ih ex hc gc hr hg hU gb nx
                rw [e0] at fin
                simp (disch := omega) only [Option.toList_some, Option.toList_none, List.nil_append, List.cons_append, List.append_nil, true_and, and_true, not_true_eq_false, not_false_eq_true, true_implies, false_implies, implies_true, and_self, Int.reduceLT, Int.reduceLE, Int.reduceEq, Int.reduceNe, Int.reduceAdd, Int.reduceSub, Int.reduceMul, Int.reduceNeg, Int.reduceToNat, Int.toNat_natCast, ↓kk_ck, ↓kk_im, ↓kk_in, s_236_383, s_236_398, e0, ne_eq]
                exact fin
              · rw [if_neg e0] at hs
                clear hQ out ih ex hc gc hr hg hU gb nx
                simp (disch := omega) only [Option.toList_some, Option.toList_none, List.nil_append, List.cons_append, List.append_nil, true_and, and_true, not_true_eq_false, not_false_eq_true, true_implies, false_implies, implies_true, and_self, Int.reduceLT, Int.reduceLE, Int.reduceEq, Int.reduceNe, Int.reduceAdd, Int.reduceSub, Int.reduceMul, Int.reduceNeg, Int.reduceToNat, Int.toNat_natCast, ↓kk_ck, ↓kk_im, ↓kk_in, s_236_383, s_236_403, s_236_408, e0, ne_eq, t1, t2, vi_rs_s, ga, @vi_32 (gSz x y z a - 1) (by omega) (by omega), ← hs, @vi_32 s (by omega) (by omega)]
                exact fin
            clear hQ out ih ex hc gc hr hg hU gb nx fin hs
            by_cases a0 : a = 0
            · subst a0
              have c4 : U < y := by unfold gU at c4; rw [if_pos rfl] at c4; omega
              simp (disch := omega) only [Option.toList_some, Option.toList_none, List.nil_append, List.cons_append, List.append_nil, true_and, and_true, not_true_eq_false, not_false_eq_true, true_implies, false_implies, implies_true, and_self, Int.reduceLT, Int.reduceLE, Int.reduceEq, Int.reduceNe, Int.reduceAdd, Int.reduceSub, Int.reduceMul, Int.reduceNeg, Int.reduceToNat, Int.toNat_natCast, ↓kk_ck, ↓kk_im, ↓kk_in, s_236_356, s_236_359, s_236_366, s_236_370, s_236_377, t1, t2, vi_rs_s, z1, g1, ne_eq]
              exact a413
            · have c4 : U < x := by unfold gU at c4; rw [if_neg a0] at c4; omega
              simp (disch := omega) only [Option.toList_some, Option.toList_none, List.nil_append, List.cons_append, List.append_nil, true_and, and_true, not_true_eq_false, not_false_eq_true, true_implies, false_implies, implies_true, and_self, Int.reduceLT, Int.reduceLE, Int.reduceEq, Int.reduceNe, Int.reduceAdd, Int.reduceSub, Int.reduceMul, Int.reduceNeg, Int.reduceToNat, Int.toNat_natCast, ↓kk_ck, ↓kk_im, ↓kk_in, s_236_356, s_236_359, s_236_373, s_236_377, t1, t2, vi_rs_s, z0, g0, a0, ne_eq]
              exact a413
end
section
variable {d : Nat} {Y : vi_Y} {M0 : vi_M} {nn : Nat × Nat} {v : Int} {Q : Option vi_V → vi_W → Prop}
theorem hC_s {x y z : Int} {L : List (Nat → Int)} {v : Nat → Int} {c : Int} : hC x y z (L ++ [v]) c = hC x y z L c + sN 6 (fun k => decide (gOf x y z v (k : Int) = c)) := by
  have key : ∀ r, r ≤ L.length → hP x y z (L ++ [v]) r c = hP x y z L r c := by
    intro r
    induction r with
    | zero => intro _; rfl
    | succ r ih =>
      intro hr
      rw [hP, hP, ih (by omega)]
      have e : rL (L ++ [v]) r = rL L r := funext fun j => rL_l (by omega)
      rw [e]
  have e : rL (L ++ [v]) L.length = v := funext fun j => rL_r
  unfold hC
  rw [List.length_append]
  show hP x y z (L ++ [v]) (L.length + 1) c = _
  rw [hP, key _ (Nat.le_refl _), e]
theorem bxR_c {g f : Nat → Int} {n5 : Int} {k : Nat} {h h' : Nat → Int} (hr : bxR g f n5 k h) (hh : ∀ c, c < k → h c = h' c) : bxR g f n5 k h' := ⟨hr.1, fun c hc => by rw [hr.2 c hc, hh c hc]⟩
theorem bx_162 (hY : kY Y 112) (h9 : kY9 Y) (tr : Y.1 112 = 1 ∧ (Y.2.1 112 : Int) = 222) {ln : Nat} (ts : Y.1 1 = 11 ∧ Y.2.1 1 = ln) {x y z t : Int}
    (hQ : ∀ (M : vi_M) (L : List (Nat → Int)) (k : Int), L.length ≤ 9 → wS M x y z t L [] none 0 (-1) → lF0 M0 M → bxR (M 112) (fK x y z t L) 0 216 (fun c => (hC x y z L (c : Int) : Int)) → ∀ l7 l8 l9 l10 l11 l12 l13 l14, vi_ok GG (d + 71) 236 434 [some (.inr (.inr 29)), some (.inr (.inr 1)), some (.inl 6), some (.inl 9), some (.inr (.inr 112)), some (.inl v), some (.inl k), l7, l8, l9, l10, l11, l12, l13, l14] [] (Y, M, nn) Q) :
    ∀ k : Nat, k ≤ 9 → ∀ (M : vi_M) (L : List (Nat → Int)), L.length = k → wS M x y z t L [] none 0 (-1) → lF0 M0 M → bxR (M 112) (fK x y z t L) 0 216 (fun c => (hC x y z L (c : Int) : Int)) → ∀ l7 l8 l9 l10 l11 l12 l13 l14, vi_ok GG (d + 71) 236 162 [some (.inr (.inr 29)), some (.inr (.inr 1)), some (.inl 6), some (.inl 9), some (.inr (.inr 112)), some (.inl v), some (.inl (k : Int)), l7, l8, l9, l10, l11, l12, l13, l14] [] (Y, M, nn) Q := by
  have ts' := ts
  obtain ⟨s1, s2⟩ := ts
  have s2 : (Y.2.1 1 : Int) = (ln : Int) := by rw [s2]
  refine vi_dn 9 ?_ ?_
  · intro M L hl hS hf hr l7 l8 l9 l10 l11 l12 l13 l14
    have := hQ M L ((9 : Nat) : Int) (by omega) hS hf hr l7 l8 l9 l10 l11 l12 l13 l14
    rw [s_236_162]
    refine ⟨s1, ?_⟩
    rw [s2, s_236_166]
    refine ⟨fun _ => this, fun _ => ?_⟩
    clear hQ hS hf hr
    simp (disch := omega) only [Option.toList_some, Option.toList_none, List.nil_append, List.cons_append, List.append_nil, true_and, and_true, not_true_eq_false, not_false_eq_true, true_implies, false_implies, implies_true, and_self, Int.reduceLT, Int.reduceLE, Int.reduceEq, Int.reduceNe, Int.reduceAdd, Int.reduceSub, Int.reduceMul, Int.reduceNeg, Int.reduceToNat, Int.toNat_natCast, ↓kk_ck, ↓kk_im, ↓kk_in, s_236_169]
    exact this
  · intro k hk ih M L hl hS hf hr l7 l8 l9 l10 l11 l12 l13 l14
    have hQk := hQ M L (k : Int) (by omega) hS hf hr l7 l8 l9 l10 l11 l12 l13 l14
    rw [s_236_162]
    refine ⟨s1, ?_⟩
    rw [s2, s_236_166]
    refine ⟨fun _ => hQk, fun hlt => ?_⟩
    rw [s_236_169]
    refine ⟨fun q => absurd q (by omega), fun _ => ?_⟩
    have hb : gB x y z := hS.1.2.2.1.2.2.2.2.1
    refine bx_175 tr ts' (by omega) hb hr.1.1 hr.1.2.1 hr.1.2.2.1 (fun a u w e p l h l13 l14 => ?_) l7 l8 l9 l10 l11 l12 l13 l14
    have hg := hoV_g hb h
    obtain ⟨t1, t2⟩ := tr
    have h29 := h9.1
    have z4 : (4 : Int).toNat = 4 := rfl
    rw [s_236_299]
    refine ⟨h29, ?_⟩
    refine @lk_189 (d + 1) 0 Y M nn x y z t L _ hY h9 hS (by decide) (by omega) a u w e p l hg.1 hg.2 fun M' r hS' hf' => ?_
    have e112 : M' 112 = M 112 := hf' 112 (by omega)
    have lp := @bx_327 d Y M' nn v Q ⟨t1, t2⟩ x y z t hb L (by omega) a u w e p l h k (fun g hr2 l13 l14 => by
      have hlen : (L ++ [vV a u w e p l]).length = k + 1 := by rw [List.length_append, hl]; rfl
      have := ih (vi_rs M' 112 g) (L ++ [vV a u w e p l]) hlen (pS_o hS' (by decide)) (lF0_u (lF0_t hf hf') (by decide)) (by
        rw [vi_rs_s]
        exact bxR_c hr2 fun c _ => by rw [hC_s]) (some (.inl a)) (some (.inl u)) (some (.inl w)) (some (.inl e)) (some (.inl p)) (some (.inl l)) (some (.inl l13)) l14
      clear ih hQ hQk hS hf hr hS' hf' hr2 e112
      simp (disch := omega) only [Option.toList_some, Option.toList_none, List.nil_append, List.cons_append, List.append_nil, true_and, and_true, not_true_eq_false, not_false_eq_true, true_implies, false_implies, implies_true, and_self, Int.reduceLT, Int.reduceLE, Int.reduceEq, Int.reduceNe, Int.reduceAdd, Int.reduceSub, Int.reduceMul, Int.reduceNeg, Int.reduceToNat, Int.toNat_natCast, ↓kk_ck, ↓kk_im, ↓kk_in, s_236_428, vi_inc]
      exact this) 0 (by omega) (vi_u (M' 112) 4 (vi_w32 (M' 112 4 + 1))) l14 ⟨⟨by rw [vi_u_o (by decide), e112]; exact hr.1.1, by rw [vi_u_o (by decide), e112]; exact hr.1.2.1, by rw [vi_u_o (by decide), e112]; exact hr.1.2.2.1, by rw [vi_u_o (by decide), e112]; exact hr.1.2.2.2.1, by rw [vi_u_o (by decide), e112]; exact hr.1.2.2.2.2⟩, fun c hc => by
        have hx : bxS (fK x y z t (L ++ [vV a u w e p l])) c = bxS (fK x y z t L) c := rfl
        rw [vi_u_o (by omega), e112, hr.2 c hc, hx]
        rfl⟩
    clear ih hQ hQk hS hf hr hS' hf' hg h
    simp (disch := omega) only [Option.toList_some, Option.toList_none, List.nil_append, List.cons_append, List.append_nil, true_and, and_true, not_true_eq_false, not_false_eq_true, true_implies, false_implies, implies_true, and_self, Int.reduceLT, Int.reduceLE, Int.reduceEq, Int.reduceNe, Int.reduceAdd, Int.reduceSub, Int.reduceMul, Int.reduceNeg, Int.reduceToNat, Int.toNat_natCast, ↓kk_ck, ↓kk_im, ↓kk_in, s_236_315, s_236_321, s_236_324, t1, t2, z4, vi_ms_rs]
    exact lp
end
