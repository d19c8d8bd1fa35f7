/-! Pairs: law. -/
theorem rdC_t {cd vl : Nat → Int} {nt : Nat} (h : ∀ i, nt ≤ i → cd i = 0) {f i l : Nat} (hi : i ≤ nt) (hf : 8 * nt + 10 ≤ f) : ∃ b i' l' c, rdC cd vl f i l = some (b, i', l', c) ∧ (b = true → i' ≤ nt) := by
  have lt : ∀ i k, cd i = k → k ≠ 0 → i < nt := fun i k hk h0 => Nat.lt_of_not_le fun q => h0 (by rw [← hk]; exact h i q)
  unfold rdC
  by_cases hk : cd i = 1 ∨ cd i = 2 ∨ cd i = 3
  · rw [if_pos hk]
    have hin : i < nt := by rcases hk with e | e | e <;> exact lt i _ e (by decide)
    have tail : ∀ (i' l' : Nat) (b : gDen), i' ≤ nt → ∃ b2 i2 l2 c2, (if cd i' = 4 then (match rdP cd vl f 5 0 (i' + 1) l' b with
      | none => none
      | some (false, i2, l2, _) => some (false, i2, l2, 0, none, none)
      | some (true, i2, l2, c) => some (true, i2, l2, cd i - 1, if cd i = 1 then some b else none, some c)) else some (true, i', l', cd i - 1, if cd i = 1 then some b else none, none)) = (some (b2, i2, l2, c2) : Option (Bool × Nat × Nat × gCla)) ∧ (b2 = true → i2 ≤ nt) := by
      intro i' l' b hi'
      by_cases h4 : cd i' = 4
      · rw [if_pos h4]
        have hin' := lt i' _ h4 (by decide)
        obtain ⟨b2, i2, l2, c2, e, e1, e2⟩ := @rdP_t cd vl nt h f 5 0 (i' + 1) l' b (by omega) (by omega) (by rw [gRk_5]; omega)
        rw [e]
        cases b2
        · exact ⟨_, _, _, _, rfl, fun q => by cases q⟩
        · exact ⟨_, _, _, _, rfl, fun _ => e1⟩
      · rw [if_neg h4]
        exact ⟨_, _, _, _, rfl, fun _ => hi'⟩
    by_cases h1 : cd i = 1
    · rw [if_pos h1]
      obtain ⟨b2, i2, l2, c2, e, e1, e2⟩ := @rdP_t cd vl nt h f 2 0 (i + 1) l (fun _ => none) (by omega) (by omega) (by rw [gRk_2]; omega)
      rw [e]
      cases b2
      · exact ⟨_, _, _, _, rfl, fun q => by cases q⟩
      · exact tail i2 l2 c2 e1
    · rw [if_neg h1]
      exact tail (i + 1) l (fun _ => none) hin
  · rw [if_neg hk]
    exact ⟨_, _, _, _, rfl, fun q => by cases q⟩
theorem rdL_t {cd vl : Nat → Int} {en : Nat → Bool} {nt f : Nat} (h : ∀ i, nt ≤ i → cd i = 0) (hf : 8 * nt + 10 ≤ f) : ∀ (k i l : Nat) (cs : List gCla), i ≤ nt → ∃ r i', rdL cd vl en f k i l cs = some (r, i') := by
  intro k
  induction k with
  | zero => intro i l cs _; exact ⟨_, _, rfl⟩
  | succ k ih =>
    intro i l cs hi
    rw [rdL]
    obtain ⟨b, i', l', c, e, e1⟩ := rdC_t (vl := vl) (l := l) h hi hf
    rw [e]
    cases b
    · exact ⟨_, _, rfl⟩
    · dsimp only
      by_cases h5 : cd i' = 159
      · rw [if_pos h5]
        have : i' < nt := Nat.lt_of_not_le fun q => by rw [h i' q] at h5; omega
        exact ih (i' + 1) l' _ this
      · rw [if_neg h5]
        by_cases h6 : en i' = true
        · rw [if_pos h6]; exact ⟨_, _, rfl⟩
        · rw [if_neg h6]; exact ⟨_, _, rfl⟩
theorem rdL_en {cd vl : Nat → Int} {en en' : Nat → Bool} {nt f : Nat} (h : ∀ i, nt ≤ i → cd i = 0) (hf : 8 * nt + 10 ≤ f) (he : ∀ i, i ≤ nt → en i = en' i) : ∀ (k i l : Nat) (cs : List gCla), i ≤ nt → rdL cd vl en f k i l cs = rdL cd vl en' f k i l cs := by
  intro k
  induction k with
  | zero => intro i l cs _; rfl
  | succ k ih =>
    intro i l cs hi
    rw [rdL, rdL]
    obtain ⟨b, i', l', c, e, e1⟩ := rdC_t (vl := vl) (l := l) h hi hf
    rw [e]
    cases b
    · rfl
    · dsimp only
      by_cases h5 : cd i' = 159
      · rw [if_pos h5, if_pos h5]
        have : i' < nt := Nat.lt_of_not_le fun q => by rw [h i' q] at h5; omega
        exact ih (i' + 1) l' _ this
      · rw [if_neg h5, if_neg h5, he i' (e1 rfl)]
theorem tVl_p {b : Nat → Int} (hb : tOk b) {n i : Nat} : 0 ≤ tVl b n i := by
  unfold tVl
  by_cases h : tKd b n (tI b n i) = 2
  · rw [if_pos h]
    refine (tV_b _ _ 0 (fun j hj => ?_) (by decide) (by decide)).1
    have := tE_d h j hj
    rw [← tB_s hb (by omega)]
    exact this
  · rw [if_neg h]; exact Int.le_refl _
theorem rLw_a {a a' : Nat} {CS CS' : Nat → List gCla} {f g gl : Nat → Int} (h : rLw a CS f g gl) (ha : a ≤ a') (hC : ∀ i, i < a → CS' i = CS i) : rLw a' CS' f g gl := by
  obtain ⟨h1, h2, ⟨m, h3, h4, h5, h6, h7⟩, h8⟩ := h
  refine ⟨h1, h2, ⟨m, h3, h4, h5, h6, fun j hj => ?_⟩, fun j hj => ?_⟩
  · obtain ⟨i, i1, i2, i3⟩ := h7 j hj
    exact ⟨i, by omega, i2, by rw [hC i i1]; exact i3⟩
  · rcases h8 j hj with e | ⟨i, i1, i2⟩
    · exact .inl e
    · exact .inr ⟨i, by omega, i2⟩
theorem cHd_a {M : vi_M} {h a a' : Nat} {CS CS' : Nat → List gCla} {f : Nat → Int} {LH LR LS : List (Nat → Int)} (hH : cHd M h f a CS LH LR LS) (ha : a ≤ a') (hC : ∀ i, i < a → CS' i = CS i) : cHd M h f a' CS' LH LR LS := by
  obtain ⟨h1, h2, h3, h4, h5, h6, h7, h8⟩ := hH
  exact ⟨h1, h2, h3, h4, h5, h6, h7, rLw_a h8 ha hC⟩
theorem mCp_e {f cd vl : Nat → Int} {L N j k : Nat} : mCp f L N cd vl j k = if 303 + 400 * L ≤ k ∧ k < 303 + 400 * L + j then cd (k - (303 + 400 * L)) else if 2703 + 400 * L ≤ k ∧ k < 2703 + 400 * L + j then vl (k - (2703 + 400 * L)) else if k = 297 + L then (N : Int) else f k := rfl
/-- the row with one law more -/
theorem rLw_n {a L t fu i' : Nat} {CS CS' : Nat → List gCla} {f g gl cd vl : Nat → Int} {cs : List gCla} (h : rLw a CS f g gl) (hL : f 295 = (L : Int)) (hL5 : L ≤ 5) (ht : t ≤ 400) (hcd : ∀ i, t ≤ i → cd i = 0) (hvl : ∀ i, 0 ≤ vl i) (hr : rdL cd vl (fun i => decide (i = t)) fu 12 0 0 [] = some (some cs, i')) (hC : ∀ i, i < a → CS' i = CS i) (hCa : CS' a = cs) :
    rLw (a + 1) CS' (vi_u (mCp f L t cd vl t) 295 ((L + 1 : Nat) : Int)) (vi_u g 6 ((L + 1 : Nat) : Int)) (vi_u gl L ((122 + 5 * a : Nat) : Int)) := by
  obtain ⟨h1, h2, ⟨m, h3, h4, h5, h6, h7⟩, h8⟩ := h
  obtain rfl : m = L := by omega
  have o1 : ∀ k, k ≠ 295 → k < 297 → vi_u (mCp f m t cd vl t) 295 ((m + 1 : Nat) : Int) k = f k := fun k k1 k2 => by
    rw [vi_u_o k1, mCp_e, if_neg (by omega), if_neg (by omega), if_neg (by omega)]
  refine ⟨by rw [vi_u_s, vi_u_s], by rw [vi_u_o (by decide), o1 296 (by omega) (by omega)]; exact h2, ⟨m + 1, by rw [vi_u_s], by omega, by rw [o1 296 (by omega) (by omega)]; exact h5, by rw [o1 296 (by omega) (by omega)]; omega, fun j hj => ?_⟩, fun j hj => ?_⟩
  · by_cases e : j = m
    · subst e
      refine ⟨a, by omega, by rw [vi_u_s], ?_⟩
      rw [hCa]
      refine ⟨t, ht, ?_, cd, vl, _, fu, i', fun i hi => ⟨?_, ?_⟩, hcd, hvl, fun i hi => of_decide_eq_true hi, hr⟩
      · rw [vi_u_o (by omega), mCp_e, if_neg (by omega), if_neg (by omega), if_pos (by omega)]
      · rw [vi_u_o (by omega), mCp_e, if_pos (by omega)]
        exact congrArg cd (by omega)
      · rw [vi_u_o (by omega), mCp_e, if_neg (by omega), if_pos (by omega)]
        exact congrArg vl (by omega)
    · obtain ⟨i, i1, i2, S, q1, q2, cd', vl', en', fu', i2', q3, q4⟩ := h7 j (by omega)
      refine ⟨i, by omega, by rw [vi_u_o e]; exact i2, S, q1, ?_, cd', vl', en', fu', i2', fun x hx => ?_, ?_⟩
      · rw [vi_u_o (by omega), mCp_e, if_neg (by omega), if_neg (by omega), if_neg (by omega)]; exact q2
      · obtain ⟨w1, w2⟩ := q3 x hx
        refine ⟨?_, ?_⟩
        · rw [vi_u_o (by omega), mCp_e, if_neg (by omega), if_neg (by omega), if_neg (by omega)]; exact w1
        · rw [vi_u_o (by omega), mCp_e, if_neg (by omega), if_neg (by omega), if_neg (by omega)]; exact w2
      · rw [hC i i1]; exact q4
  · by_cases e : j = m
    · subst e
      exact .inr ⟨a, by omega, by rw [vi_u_s]⟩
    · rcases h8 j hj with e' | ⟨i, i1, i2⟩
      · exact .inl (by rw [vi_u_o e]; exact e')
      · exact .inr ⟨i, by omega, by rw [vi_u_o e]; exact i2⟩
theorem fLw_n {a L t : Nat} {CS CS' : Nat → List gCla} {f g gl cd vl : Nat → Int} {lw : Option (List gCla)} (h : fLw a CS f gl lw) (hr : rLw a CS f g gl) (hL : f 295 = (L : Int)) (hL5 : L ≤ 5) (ht : t ≤ 400) (hC : ∀ i, i < a → CS' i = CS i) {q : Int} : fLw (a + 1) CS' (vi_u (mCp f L t cd vl t) 295 ((L + 1 : Nat) : Int)) (vi_u gl L q) lw := by
  have o1 : ∀ k, k ≠ 295 → k < 297 → vi_u (mCp f L t cd vl t) 295 ((L + 1 : Nat) : Int) k = f k := fun k k1 k2 => by
    rw [vi_u_o k1, mCp_e, if_neg (by omega), if_neg (by omega), if_neg (by omega)]
  cases lw with
  | none => exact (o1 296 (by omega) (by omega)).trans h
  | some cs =>
    obtain ⟨L0, i, h1, h2, h3, h4, h5, h6, S, q1, q2, cd', vl', en', fu', i2', q3, q4⟩ := h
    refine ⟨L0, i, (o1 296 (by omega) (by omega)).trans h1, h2, by rw [vi_u_s]; omega, by rw [vi_u_o (by omega)]; exact h4, by omega, by rw [hC i h5]; exact h6, S, q1, ?_, cd', vl', en', fu', i2', fun x hx => ?_, q4⟩
    · rw [vi_u_o (by omega), mCp_e, if_neg (by omega), if_neg (by omega), if_neg (by omega)]; exact q2
    · obtain ⟨w1, w2⟩ := q3 x hx
      refine ⟨?_, ?_⟩
      · rw [vi_u_o (by omega), mCp_e, if_neg (by omega), if_neg (by omega), if_neg (by omega)]; exact w1
      · rw [vi_u_o (by omega), mCp_e, if_neg (by omega), if_neg (by omega), if_neg (by omega)]; exact w2
section
variable {sc : Nat → Int} {ln t a n d : Nat} {CS : Nat → List gCla} {lw : Option (List gCla)} {Y : vi_Y} {M : vi_M} {nn : Nat × Nat} {K : Option vi_V → vi_W → Prop}
theorem jJ_c2 {M M2 : vi_M} (h : jJ M) (hp : ∀ q, (jCe q ∨ q = 88) → M2 q = M q) : jJ M2 := ⟨fun q hq => by rw [hp q (.inl hq)]; exact h.1 q hq, by rw [hp 88 (.inr rfl)]; exact h.2⟩
theorem kY_bl {Y Y' : vi_Y} {p b : Nat} (h : kY Y b) (hb : kBl Y Y' p) (hp : b ≤ p) : kY Y' b := fun q h1 h2 => by
  obtain ⟨e1, e2, e3⟩ := hb q (by omega)
  obtain ⟨f1, f2, f3⟩ := h q h1 h2
  exact ⟨e1.trans f1, e2.trans f2, fun k => (congrFun e3 k).trans (f3 k)⟩
theorem kY9_bl {Y Y' : vi_Y} {p : Nat} (h : kY9 Y) (hb : kBl Y Y' p) (hp : 29 < p) : kY9 Y' := by
  obtain ⟨e1, e2, e3⟩ := hb 29 hp
  exact ⟨e1.trans h.1, fun k => (congrFun e3 k).trans (h.2 k)⟩
theorem jA_bl {Y Y' : vi_Y} {p : Nat} (h : jA sc ln Y M) (hb : kBl Y Y' p) (hp : 120 ≤ p) : jA sc ln Y' M := by
  obtain ⟨a1, a2, a3, a4, a5, a6, a7⟩ := h
  refine ⟨kY_bl a1 hb hp, kY9_bl a2 hb (by omega), fun i hi => ?_, a4, ?_, a6, a7⟩
  · obtain ⟨b1, b2, b3, b4, b5, b6⟩ := a3 i hi
    obtain ⟨e1, e2, e3⟩ := hb (2 + i) (by omega)
    obtain ⟨g1, g2, g3⟩ := hb (15 + i) (by omega)
    refine ⟨e1.trans b1, by rw [e3]; exact b2, by rw [e3]; exact b3, g1.trans b4, by rw [g2]; exact b5, b6⟩
  · obtain ⟨e1, e2, e3⟩ := hb 1 (by omega)
    exact ⟨e1.trans a5.1, e2.trans a5.2.1, a5.2.2⟩
theorem pGood_bl {Y Y' : vi_Y} {M M' : vi_M} {p b S : Nat} {cs : List gCla} (h : pGood Y M p S cs) (hb : kBl Y Y' b) (hp : p + 5 ≤ b) (h0 : M' p = M p) (h1 : M' (p + 1) = M (p + 1)) : pGood Y' M' p S cs := by
  obtain ⟨⟨k1, k2, k3, k4, k5, k6, k7, k8, k9, k10, k11, k12, k13, k14⟩, g2, g3, g4, g5, g6⟩ := h
  have e0 := hb p (by omega)
  have e1 := hb (p + 1) (by omega)
  have e2 := hb (p + 2) (by omega)
  have e3 := hb (p + 3) (by omega)
  have e4 := hb (p + 4) (by omega)
  refine ⟨⟨k1, e2.1.trans k2, by rw [e2.2.2]; exact k3, e0.1.trans k4, by rw [e0.2.1]; exact k5, by rw [e2.2.2]; exact k6, e1.1.trans k7, by rw [e1.2.1]; exact k8, by rw [e2.2.2]; exact k9, e3.1.trans k10, by rw [e3.2.1]; exact k11, by rw [e2.2.2]; exact k12, e4.1.trans k13, by rw [e4.2.1]; exact k14⟩, g2, g3, g4, by rw [h0]; exact g5, fun j hj => by rw [h0, h1]; exact g6 j hj⟩
end
