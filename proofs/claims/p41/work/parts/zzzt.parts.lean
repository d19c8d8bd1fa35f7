/-! The property of its own: PIECES by their lowest CELLS. -/
def pI (S : Nat → Bool) (p : Nat → Int) : Prop := ∀ c, c < 216 → (S c = false → p c = -1) ∧ (S c = true → ∃ m : Nat, p c = (m : Int) ∧ m ≤ c ∧ S m = true ∧ sCl S c m)
def pN (f p : Nat → Int) (c s : Nat) : Prop := ¬ (0 ≤ p c ∧ mBe (rowM f) (c : Int) s ≠ -1 ∧ 0 ≤ p (mBe (rowM f) (c : Int) s).toNat ∧ p (mBe (rowM f) (c : Int) s).toNat < p c)
def pE (S : Nat → Bool) (p : Nat → Int) : Prop := pI S p ∧ ∀ c b, c < 216 → b < 216 → S c = true → S b = true → sA c b → p b = p c
def sS : Nat → (Nat → Int) → Nat
  | 0, _ => 0
  | k + 1, f => sS k f + (f k + 1).toNat
theorem sS_u {f : Nat → Int} {c : Nat} {v : Int} (h0 : 0 ≤ v) (h1 : v < f c) : ∀ k, (k ≤ c → sS k (vi_u f c v) = sS k f) ∧ (c < k → sS k (vi_u f c v) < sS k f) := by
  intro k
  induction k with
  | zero => exact ⟨fun _ => rfl, fun h => absurd h (by omega)⟩
  | succ k ih =>
    rw [sS, sS]
    refine ⟨fun h => ?_, fun h => ?_⟩
    · rw [ih.1 (by omega), vi_u_o (by omega)]
    · by_cases e : k = c
      · subst e
        rw [ih.1 (Nat.le_refl _), vi_u_s]
        omega
      · have := ih.2 (by omega)
        rw [vi_u_o e]
        omega
theorem bxS_d {f : Nat → Int} {c : Nat} (h : 0 ≤ (c : Int) ∧ (c : Int) ≤ 215 ∧ (c : Int) % 6 < f 96 ∧ (c : Int) / 6 % 6 < f 97 ∧ (c : Int) / 36 < f 98) : bxS f c = true := decide_eq_true h
theorem bs_A {f : Nat → Int} {c s : Nat} (hB : bxF f) (hc : bxS f c = true) (hs : s < 6) (h : mBe (rowM f) (c : Int) s ≠ -1) : ∃ b : Nat, mBe (rowM f) (c : Int) s = (b : Int) ∧ b < 216 ∧ bxS f b = true ∧ sA c b := by
  obtain ⟨b0, b1, b2⟩ := hB
  have hc := of_decide_eq_true hc
  unfold sA
  revert h
  obtain rfl | rfl | rfl | rfl | rfl | rfl : s = 0 ∨ s = 1 ∨ s = 2 ∨ s = 3 ∨ s = 4 ∨ s = 5 := by omega
  · rw [show mBe (rowM f) (c : Int) 0 = if (c : Int) % 6 = 0 then -1 else (c : Int) - 1 from rfl]
    by_cases k : (c : Int) % 6 = 0
    · rw [if_pos k]; intro h; exact absurd rfl h
    · rw [if_neg k]; intro _; exact ⟨c - 1, by omega, by omega, bxS_d (by omega), by omega⟩
  · rw [show mBe (rowM f) (c : Int) 1 = if f 96 ≤ (c : Int) % 6 + 1 then -1 else (c : Int) + 1 from rfl]
    by_cases k : f 96 ≤ (c : Int) % 6 + 1
    · rw [if_pos k]; intro h; exact absurd rfl h
    · rw [if_neg k]; intro _; exact ⟨c + 1, by omega, by omega, bxS_d (by omega), by omega⟩
  · rw [show mBe (rowM f) (c : Int) 2 = if (c : Int) / 6 % 6 = 0 then -1 else (c : Int) - 6 from rfl]
    by_cases k : (c : Int) / 6 % 6 = 0
    · rw [if_pos k]; intro h; exact absurd rfl h
    · rw [if_neg k]; intro _; exact ⟨c - 6, by omega, by omega, bxS_d (by omega), by omega⟩
  · rw [show mBe (rowM f) (c : Int) 3 = if f 97 ≤ (c : Int) / 6 % 6 + 1 then -1 else (c : Int) + 6 from rfl]
    by_cases k : f 97 ≤ (c : Int) / 6 % 6 + 1
    · rw [if_pos k]; intro h; exact absurd rfl h
    · rw [if_neg k]; intro _; exact ⟨c + 6, by omega, by omega, bxS_d (by omega), by omega⟩
  · rw [show mBe (rowM f) (c : Int) 4 = if (c : Int) / 36 = 0 then -1 else (c : Int) - 36 from rfl]
    by_cases k : (c : Int) / 36 = 0
    · rw [if_pos k]; intro h; exact absurd rfl h
    · rw [if_neg k]; intro _; exact ⟨c - 36, by omega, by omega, bxS_d (by omega), by omega⟩
  · rw [show mBe (rowM f) (c : Int) 5 = if f 98 ≤ (c : Int) / 36 + 1 then -1 else (c : Int) + 36 from rfl]
    by_cases k : f 98 ≤ (c : Int) / 36 + 1
    · rw [if_pos k]; intro h; exact absurd rfl h
    · rw [if_neg k]; intro _; exact ⟨c + 36, by omega, by omega, bxS_d (by omega), by omega⟩
theorem bs_x {f : Nat → Int} {c b : Nat} (hc : bxS f c = true) (hb : bxS f b = true) (h : sA c b) : ∃ s, s < 6 ∧ mBe (rowM f) (c : Int) s = (b : Int) := by
  have hc := of_decide_eq_true hc
  have hb := of_decide_eq_true hb
  unfold sA at h
  rcases h with ⟨h1, rfl⟩ | ⟨h1, rfl⟩ | ⟨h1, rfl⟩ | ⟨h1, rfl⟩ | ⟨h1, rfl⟩ | ⟨h1, rfl⟩
  · exact ⟨0, by omega, by show (if (c : Int) % 6 = 0 then -1 else (c : Int) - 1) = _; rw [if_neg (by omega)]; omega⟩
  · exact ⟨1, by omega, by show (if f 96 ≤ (c : Int) % 6 + 1 then -1 else (c : Int) + 1) = _; rw [if_neg (by omega)]; omega⟩
  · exact ⟨2, by omega, by show (if (c : Int) / 6 % 6 = 0 then -1 else (c : Int) - 6) = _; rw [if_neg (by omega)]; omega⟩
  · exact ⟨3, by omega, by show (if f 97 ≤ (c : Int) / 6 % 6 + 1 then -1 else (c : Int) + 6) = _; rw [if_neg (by omega)]; omega⟩
  · exact ⟨4, by omega, by show (if (c : Int) / 36 = 0 then -1 else (c : Int) - 36) = _; rw [if_neg (by omega)]; omega⟩
  · exact ⟨5, by omega, by show (if f 98 ≤ (c : Int) / 36 + 1 then -1 else (c : Int) + 36) = _; rw [if_neg (by omega)]; omega⟩
theorem pI_c {S : Nat → Bool} {p : Nat → Int} (h : pI S p) {c : Nat} (hc : c < 216) : (0 ≤ p c ↔ S c = true) := by
  obtain ⟨h1, h2⟩ := h c hc
  cases e : S c with
  | false => rw [h1 e]; simp
  | true =>
    obtain ⟨m, q, -⟩ := h2 e
    rw [q]
    simp
theorem pI_u {S : Nat → Bool} {p : Nat → Int} (h : pI S p) {c b : Nat} (hc : c < 216) (hb : b < 216) (hA : sA c b) (h0 : 0 ≤ p c) (h1 : 0 ≤ p b) (hlt : p b < p c) : pI S (vi_u p c (p b)) := by
  intro j hj
  by_cases e : j = c
  · subst e
    rw [vi_u_s]
    have sc := (pI_c h hc).mp h0
    have sb := (pI_c h hb).mp h1
    refine ⟨fun k => absurd (sc.symm.trans k) (by decide), fun _ => ?_⟩
    obtain ⟨m, m1, m2, m3, m4⟩ := (h b hb).2 sb
    obtain ⟨m', q1, q2, -⟩ := (h j hc).2 sc
    exact ⟨m, m1, by omega, m3, sCl_t (sCl_s sCl_r hA sb) m4⟩
  · rw [vi_u_o e]
    exact h j hj
theorem pE_of {S : Nat → Bool} {f p : Nat → Int} (h : pI S p) (hSb : ∀ c, S c = true → bxS f c = true) (hn : ∀ c, c < 216 → ∀ s, s < 6 → pN f p c s) : pE S p := by
  have one : ∀ c b, c < 216 → b < 216 → S c = true → S b = true → sA c b → p c ≤ p b := by
    intro c b hc hb sc sb hA
    obtain ⟨s, hs, e⟩ := bs_x (hSb c sc) (hSb b sb) hA
    have := hn c hc s hs
    unfold pN at this
    rw [e, Int.toNat_natCast] at this
    have h0 := (pI_c h hc).mpr sc
    have h1 := (pI_c h hb).mpr sb
    omega
  refine ⟨h, fun c b hc hb sc sb hA => ?_⟩
  have h1 := one c b hc hb sc sb hA
  have h2 := one b c hb hc sb sc (sA_sym hc hA)
  omega
section
variable {d : Nat} {Y : vi_Y} {M : vi_M} {nn : Nat × Nat} {Q : Option vi_V → vi_W → Prop}
theorem lk_241w {a b P : Nat} {f : Nat → Int} {S : Nat → Bool} (ta : Y.1 a = 1 ∧ (Y.2.1 a : Int) = 222) (tb : Y.1 b = 4 ∧ (Y.2.1 b : Int) = 216) (tP : Y.1 P = 1 ∧ (Y.2.1 P : Int) = 216) (ha : a ≠ P) (hb : b ≠ P) (hr : rBx M a f) (hB : bxF f) (hS : ∀ c, c < 216 → M b c = vi_b (S c)) (hSb : ∀ c, S c = true → bxS f c = true)
    (hQ : ∀ p, pE S p → Q (some (.inr (.inr P))) (Y, vi_rs M P p, nn)) : ∀ (N : Nat) (p : Nat → Int), sS 216 p < N → pI S p → ∀ l4 l5 l6, vi_ok GG (d + 1) 241 37 [some (.inr (.inr a)), some (.inr (.inr b)), some (.inr (.inr P)), some (.inl 1), l4, l5, l6] [] (Y, vi_rs M P p, nn) Q := by
  obtain ⟨ta1, ta2⟩ := ta
  obtain ⟨tb1, tb2⟩ := tb
  obtain ⟨tP1, tP2⟩ := tP
  intro N
  induction N with
  | zero => intro p h; exact absurd h (by omega)
  | succ N ih =>
    intro p0 hN hI0 l4 l5 l6
    have fin : ∀ (more : Int) (p : Nat → Int), (more = 0 ∨ more = 1) → pI S p → (more = 0 → ∀ c, c < 216 → ∀ s, s < 6 → pN f p c s) → (more = 1 → sS 216 p < sS 216 p0) → ∀ l4 l5 l6, vi_ok GG (d + 1) 241 37 [some (.inr (.inr a)), some (.inr (.inr b)), some (.inr (.inr P)), some (.inl more), l4, l5, l6] [] (Y, vi_rs M P p, nn) Q := by
      intro more p hm hI hn hlt l4 l5 l6
      rcases hm with rfl | rfl
      · have hq := hQ p (pE_of hI hSb (hn rfl))
        rw [s_241_37]
        clear ih hS hSb hI0 hI hn hlt hN hQ
        simp (disch := omega) only [Option.toList_some, Option.toList_none, List.nil_append, List.cons_append, List.append_nil, true_and, and_true, not_true_eq_false, not_false_eq_true, true_implies, false_implies, implies_true, and_self, Int.reduceLT, Int.reduceLE, Int.reduceEq, Int.reduceNe, Int.reduceAdd, Int.reduceSub, Int.reduceMul, Int.reduceNeg, Int.reduceToNat, Int.toNat_natCast, ↓kk_ck, ↓kk_im, ↓kk_in, s_241_132]
        exact hq
      · exact ih p (by have := hlt rfl; omega) hI l4 l5 l6
    have pass : ∀ c : Nat, c ≤ 216 → ∀ (more : Int) (p : Nat → Int), (more = 0 ∨ more = 1) → pI S p → (more = 0 → ∀ c', c' < c → ∀ s, s < 6 → pN f p c' s) → (sS 216 p ≤ sS 216 p0 ∧ (more = 1 → sS 216 p < sS 216 p0)) → ∀ l5 l6, vi_ok GG (d + 1) 241 46 [some (.inr (.inr a)), some (.inr (.inr b)), some (.inr (.inr P)), some (.inl more), some (.inl (c : Int)), l5, l6] [] (Y, vi_rs M P p, nn) Q := by
      refine vi_dn 216 ?_ ?_
      · intro more p hm hI hn hlt l5 l6
        have := fin more p hm hI hn hlt.2 (some (.inl ((216 : Nat) : Int))) l5 l6
        rw [s_241_46]
        clear ih hS hSb hI0 hI hn hlt hN hQ fin
        simp (disch := omega) only [Option.toList_some, Option.toList_none, List.nil_append, List.cons_append, List.append_nil, true_and, and_true, not_true_eq_false, not_false_eq_true, true_implies, false_implies, implies_true, and_self, Int.reduceLT, Int.reduceLE, Int.reduceEq, Int.reduceNe, Int.reduceAdd, Int.reduceSub, Int.reduceMul, Int.reduceNeg, Int.reduceToNat, Int.toNat_natCast, ↓kk_ck, ↓kk_im, ↓kk_in, s_241_129]
        exact this
      · intro c hc ihc more p hm hI hn hlt l5 l6
        have side : ∀ s : Nat, s ≤ 6 → ∀ (more : Int) (p : Nat → Int), (more = 0 ∨ more = 1) → pI S p → (more = 0 → (∀ c', c' < c → ∀ s, s < 6 → pN f p c' s) ∧ ∀ s', s' < s → pN f p c s') → (sS 216 p ≤ sS 216 p0 ∧ (more = 1 → sS 216 p < sS 216 p0)) → ∀ l6, vi_ok GG (d + 1) 241 57 [some (.inr (.inr a)), some (.inr (.inr b)), some (.inr (.inr P)), some (.inl more), some (.inl (c : Int)), some (.inl (s : Int)), l6] [] (Y, vi_rs M P p, nn) Q := by
          have out : ∀ (more : Int) (p : Nat → Int), (more = 0 ∨ more = 1) → pI S p → (more = 0 → (∀ c', c' < c → ∀ s, s < 6 → pN f p c' s) ∧ ∀ s', s' < 6 → pN f p c s') → (sS 216 p ≤ sS 216 p0 ∧ (more = 1 → sS 216 p < sS 216 p0)) → ∀ l5 l6, vi_ok GG (d + 1) 241 123 [some (.inr (.inr a)), some (.inr (.inr b)), some (.inr (.inr P)), some (.inl more), some (.inl (c : Int)), some (.inl l5), l6] [] (Y, vi_rs M P p, nn) Q := by
            intro more p hm hI hn hlt l5 l6
            have := ihc more p hm hI (fun e c' hc' s hs => by
              by_cases q : c' = c
              · rw [q]; exact (hn e).2 s hs
              · exact (hn e).1 c' (by omega) s hs) hlt (some (.inl l5)) l6
            clear ih hS hSb hI0 hI hn hlt hN hQ fin ihc
            simp (disch := omega) only [Option.toList_some, Option.toList_none, List.nil_append, List.cons_append, List.append_nil, true_and, and_true, not_true_eq_false, not_false_eq_true, true_implies, false_implies, implies_true, and_self, Int.reduceLT, Int.reduceLE, Int.reduceEq, Int.reduceNe, Int.reduceAdd, Int.reduceSub, Int.reduceMul, Int.reduceNeg, Int.reduceToNat, Int.toNat_natCast, ↓kk_ck, ↓kk_im, ↓kk_in, s_241_123, vi_inc]
            exact this
          refine vi_dn 6 ?_ ?_
          · intro more p hm hI hn hlt l6
            have := out more p hm hI hn hlt ((6 : Nat) : Int) l6
            rw [s_241_57]
            clear ih hS hSb hI0 hI hn hlt hN hQ fin ihc out
            simp (disch := omega) only [Option.toList_some, Option.toList_none, List.nil_append, List.cons_append, List.append_nil, true_and, and_true, not_true_eq_false, not_false_eq_true, true_implies, false_implies, implies_true, and_self, Int.reduceLT, Int.reduceLE, Int.reduceEq, Int.reduceNe, Int.reduceAdd, Int.reduceSub, Int.reduceMul, Int.reduceNeg, Int.reduceToNat, Int.toNat_natCast, ↓kk_ck, ↓kk_im, ↓kk_in]
            exact this
          · intro s hs ihs more p hm hI hn hlt l6
            have h64 : (0 ≤ p c → vi_ok GG (d + 1) 241 71 [some (.inr (.inr a)), some (.inr (.inr b)), some (.inr (.inr P)), some (.inl more), some (.inl (c : Int)), some (.inl (s : Int)), l6] [] (Y, vi_rs M P p, nn) Q) → vi_ok GG (d + 1) 241 57 [some (.inr (.inr a)), some (.inr (.inr b)), some (.inr (.inr P)), some (.inl more), some (.inl (c : Int)), some (.inl (s : Int)), l6] [] (Y, vi_rs M P p, nn) Q := by
              intro h
              rw [s_241_57]
              by_cases h0 : 0 ≤ p c
              · have := h h0
                clear ih hS hSb hI0 hI hn hlt hN hQ fin ihc out ihs h
                simp (disch := omega) only [Option.toList_some, Option.toList_none, List.nil_append, List.cons_append, List.append_nil, true_and, and_true, not_true_eq_false, not_false_eq_true, true_implies, false_implies, implies_true, and_self, Int.reduceLT, Int.reduceLE, Int.reduceEq, Int.reduceNe, Int.reduceAdd, Int.reduceSub, Int.reduceMul, Int.reduceNeg, Int.reduceToNat, Int.toNat_natCast, ↓kk_ck, ↓kk_im, ↓kk_in, s_241_64, s_241_68, tP1, tP2, vi_rs_s]
                exact this
              · have := out more p hm hI (fun e => ⟨(hn e).1, fun s' _ k => h0 k.1⟩) hlt (s : Int) l6
                clear ih hS hSb hI0 hI hn hlt hN hQ fin ihc out ihs h
                simp (disch := omega) only [Option.toList_some, Option.toList_none, List.nil_append, List.cons_append, List.append_nil, true_and, and_true, not_true_eq_false, not_false_eq_true, true_implies, false_implies, implies_true, and_self, Int.reduceLT, Int.reduceLE, Int.reduceEq, Int.reduceNe, Int.reduceAdd, Int.reduceSub, Int.reduceMul, Int.reduceNeg, Int.reduceToNat, Int.toNat_natCast, ↓kk_ck, ↓kk_im, ↓kk_in, s_241_64, s_241_68, tP1, tP2, vi_rs_s]
                exact this
            refine h64 fun h0 => ?_
            clear h64
            have hcS := (pI_c hI hc).mp h0
            have k240 := fun {K : Option vi_V → vi_W → Prop} => @lk_240 d K Y (vi_rs M P p) nn a f ta1 ta2 (by unfold rBx at *; rw [vi_rs_o ha]; exact hr) hB c s hc hs (hSb c hcS)
            -- not changed
            have stay : pN f p c s → ∀ x6 : Int, vi_ok GG (d + 1) 241 117 [some (.inr (.inr a)), some (.inr (.inr b)), some (.inr (.inr P)), some (.inl more), some (.inl (c : Int)), some (.inl (s : Int)), some (.inl x6)] [] (Y, vi_rs M P p, nn) Q := by
              intro hp x6
              have := ihs more p hm hI (fun e => ⟨(hn e).1, fun s' hs' => by
                by_cases q : s' = s
                · rw [q]; exact hp
                · exact (hn e).2 s' (by omega)⟩) hlt (some (.inl x6))
              clear ih hS hSb hI0 hI hn hlt hN hQ fin ihc out ihs
              simp (disch := omega) only [Option.toList_some, Option.toList_none, List.nil_append, List.cons_append, List.append_nil, true_and, and_true, not_true_eq_false, not_false_eq_true, true_implies, false_implies, implies_true, and_self, Int.reduceLT, Int.reduceLE, Int.reduceEq, Int.reduceNe, Int.reduceAdd, Int.reduceSub, Int.reduceMul, Int.reduceNeg, Int.reduceToNat, Int.toNat_natCast, ↓kk_ck, ↓kk_im, ↓kk_in, s_241_117, vi_inc]
              exact this
            by_cases hm1 : mBe (rowM f) (c : Int) s = -1
            · have := stay (fun k => k.2.1 hm1) (-1)
              rw [hm1] at k240
              clear ih hS hSb hI0 hI hn hlt hN hQ fin ihc out ihs stay
              simp (disch := omega) only [Option.toList_some, Option.toList_none, List.nil_append, List.cons_append, List.append_nil, true_and, and_true, not_true_eq_false, not_false_eq_true, true_implies, false_implies, implies_true, and_self, Int.reduceLT, Int.reduceLE, Int.reduceEq, Int.reduceNe, Int.reduceAdd, Int.reduceSub, Int.reduceMul, Int.reduceNeg, Int.reduceToNat, Int.toNat_natCast, ↓kk_ck, ↓kk_im, ↓kk_in, s_241_71, s_241_79, k240]
              exact this
            · obtain ⟨b', eb, hb', hbx, hA⟩ := bs_A hB (hSb c hcS) hs hm1
              have stay' := fun k => stay (by unfold pN; rw [eb, Int.toNat_natCast]; exact k) (b' : Int)
              rw [eb] at k240
              by_cases h1 : 0 ≤ p b'
              · by_cases h2 : p b' < p c
                · have := ihs 1 (vi_u p c (p b')) (.inr rfl) (pI_u hI hc hb' hA h0 h1 h2) (fun e => absurd e (by decide)) ⟨by have := ((sS_u h1 h2 216).2 hc); omega, fun _ => by have := ((sS_u h1 h2 216).2 hc); omega⟩ (some (.inl (b' : Int)))
                  clear ih hS hSb hI0 hI hn hlt hN hQ fin ihc out ihs stay stay'
                  simp (disch := omega) only [Option.toList_some, Option.toList_none, List.nil_append, List.cons_append, List.append_nil, true_and, and_true, not_true_eq_false, not_false_eq_true, true_implies, false_implies, implies_true, and_self, Int.reduceLT, Int.reduceLE, Int.reduceEq, Int.reduceNe, Int.reduceAdd, Int.reduceSub, Int.reduceMul, Int.reduceNeg, Int.reduceToNat, Int.toNat_natCast, ↓kk_ck, ↓kk_im, ↓kk_in, s_241_71, s_241_79, k240, s_241_86, s_241_90, s_241_93, s_241_97, s_241_101, s_241_107, s_241_114, s_241_115, s_241_117, vi_inc, tP1, tP2, vi_rs_s, vi_ms_rs, vi_rs_rs]
                  exact this
                · have := stay' fun k => h2 k.2.2.2
                  clear ih hS hSb hI0 hI hn hlt hN hQ fin ihc out ihs stay stay'
                  simp (disch := omega) only [Option.toList_some, Option.toList_none, List.nil_append, List.cons_append, List.append_nil, true_and, and_true, not_true_eq_false, not_false_eq_true, true_implies, false_implies, implies_true, and_self, Int.reduceLT, Int.reduceLE, Int.reduceEq, Int.reduceNe, Int.reduceAdd, Int.reduceSub, Int.reduceMul, Int.reduceNeg, Int.reduceToNat, Int.toNat_natCast, ↓kk_ck, ↓kk_im, ↓kk_in, s_241_71, s_241_79, k240, s_241_86, s_241_90, s_241_93, s_241_97, s_241_101, s_241_104, tP1, tP2, vi_rs_s]
                  exact this
              · have := stay' fun k => h1 k.2.2.1
                clear ih hS hSb hI0 hI hn hlt hN hQ fin ihc out ihs stay stay'
                simp (disch := omega) only [Option.toList_some, Option.toList_none, List.nil_append, List.cons_append, List.append_nil, true_and, and_true, not_true_eq_false, not_false_eq_true, true_implies, false_implies, implies_true, and_self, Int.reduceLT, Int.reduceLE, Int.reduceEq, Int.reduceNe, Int.reduceAdd, Int.reduceSub, Int.reduceMul, Int.reduceNeg, Int.reduceToNat, Int.toNat_natCast, ↓kk_ck, ↓kk_im, ↓kk_in, s_241_71, s_241_79, k240, s_241_86, s_241_90, tP1, tP2, vi_rs_s]
                exact this
        have := side 0 (by omega) more p hm hI (fun e => ⟨hn e, fun s' hs' => absurd hs' (by omega)⟩) hlt l6
        rw [s_241_46]
        clear ih hS hSb hI0 hI hn hlt hN hQ fin ihc side
        simp (disch := omega) only [Option.toList_some, Option.toList_none, List.nil_append, List.cons_append, List.append_nil, true_and, and_true, not_true_eq_false, not_false_eq_true, true_implies, false_implies, implies_true, and_self, Int.reduceLT, Int.reduceLE, Int.reduceEq, Int.reduceNe, Int.reduceAdd, Int.reduceSub, Int.reduceMul, Int.reduceNeg, Int.reduceToNat, Int.toNat_natCast, ↓kk_ck, ↓kk_im, ↓kk_in, s_241_54]
        exact this
    have := pass 0 (by omega) 0 p0 (.inl rfl) hI0 (fun _ c' hc' => absurd hc' (by omega)) ⟨Nat.le_refl _, fun e => absurd e (by decide)⟩ l5 l6
    rw [s_241_37]
    clear ih hS hSb hI0 hN hQ fin pass
    simp (disch := omega) only [Option.toList_some, Option.toList_none, List.nil_append, List.cons_append, List.append_nil, true_and, and_true, not_true_eq_false, not_false_eq_true, true_implies, false_implies, implies_true, and_self, Int.reduceLT, Int.reduceLE, Int.reduceEq, Int.reduceNe, Int.reduceAdd, Int.reduceSub, Int.reduceMul, Int.reduceNeg, Int.reduceToNat, Int.toNat_natCast, ↓kk_ck, ↓kk_im, ↓kk_in, s_241_41]
    exact this
theorem lk_241 {a b P sl : Nat} {f : Nat → Int} {S : Nat → Bool} (ta : Y.1 a = 1 ∧ (Y.2.1 a : Int) = 222) (tb : Y.1 b = 4 ∧ (Y.2.1 b : Int) = 216) (ha : a < P) (hb : b < P) (hr : rBx M a f) (hB : bxF f) (hS : ∀ c, c < 216 → M b c = vi_b (S c)) (hSb : ∀ c, S c = true → bxS f c = true)
    (hQ : ∀ p, pE S p → Q (some (.inr (.inr P))) (vi_ynew Y P 1 216, vi_rs M P p, P + 1, sl + 216)) : vi_call GG (d + 2) 241 [.inr (.inr a), .inr (.inr b)] (Y, M, P, sl) Q := by
  have e216 : (216 : Int).toNat = 216 := rfl
  obtain ⟨Y1, hY1⟩ : ∃ Y1, Y1 = vi_ynew Y P 1 216 := ⟨_, rfl⟩
  rw [← hY1] at hQ
  have ta' : Y1.1 a = 1 ∧ (Y1.2.1 a : Int) = 222 := by rw [hY1, yn1o (by omega), yn2o (by omega)]; exact ta
  have tb' : Y1.1 b = 4 ∧ (Y1.2.1 b : Int) = 216 := by rw [hY1, yn1o (by omega), yn2o (by omega)]; exact tb
  have tP' : Y1.1 P = 1 ∧ (Y1.2.1 P : Int) = 216 := by rw [hY1, yn1, yn2]; exact ⟨rfl, rfl⟩
  have w := @lk_241w d Y1 M (P + 1, sl + 216) Q a b P f S ta' tb' tP' (by omega) (by omega) hr hB hS hSb hQ
  obtain ⟨tb1, tb2⟩ := tb'
  obtain ⟨tP1, tP2⟩ := tP'
  have hbP : b ≠ P := by omega
  have lA : ∀ c : Nat, c ≤ 216 → ∀ (p : Nat → Int), (∀ j, j < c → p j = if S j = true then (j : Int) else -1) → vi_ok GG (d + 1) 241 8 [some (.inr (.inr a)), some (.inr (.inr b)), some (.inr (.inr P)), some (.inl (c : Int)), none, none, none] [] (Y1, vi_rs M P p, P + 1, sl + 216) Q := by
    refine vi_dn 216 ?_ ?_
    · intro p hp
      have := w (sS 216 p + 1) p (by omega) (fun c hc => by
        rw [hp c hc]
        refine ⟨fun e => by rw [e]; rfl, fun e => ⟨c, by rw [if_pos e], Nat.le_refl _, e, sCl_r⟩⟩) none none none
      rw [s_241_8]
      clear w hQ hS hSb hp
      simp (disch := omega) only [Option.toList_some, Option.toList_none, List.nil_append, List.cons_append, List.append_nil, true_and, and_true, not_true_eq_false, not_false_eq_true, true_implies, false_implies, implies_true, and_self, Int.reduceLT, Int.reduceLE, Int.reduceEq, Int.reduceNe, Int.reduceAdd, Int.reduceSub, Int.reduceMul, Int.reduceNeg, Int.reduceToNat, Int.toNat_natCast, ↓kk_ck, ↓kk_im, ↓kk_in, s_241_35]
      exact this
    · intro c hc ih p hp
      have e : M b c = vi_b (S c) := hS c hc
      have nx := ih (vi_u p c (if S c = true then (c : Int) else -1)) (fun j hj => by
        by_cases q : j = c
        · subst q; rw [vi_u_s]
        · rw [vi_u_o q]; exact hp j (by omega))
      rw [s_241_8]
      cases hs : S c with
      | true =>
        rw [hs, if_pos rfl] at nx
        rw [hs] at e
        have e : M b c = 1 := e
        clear w hQ hS hSb hp ih
        simp (disch := omega) only [Option.toList_some, Option.toList_none, List.nil_append, List.cons_append, List.append_nil, true_and, and_true, not_true_eq_false, not_false_eq_true, true_implies, false_implies, implies_true, and_self, Int.reduceLT, Int.reduceLE, Int.reduceEq, Int.reduceNe, Int.reduceAdd, Int.reduceSub, Int.reduceMul, Int.reduceNeg, Int.reduceToNat, Int.toNat_natCast, ↓kk_ck, ↓kk_im, ↓kk_in, s_241_15, s_241_20, s_241_23, s_241_28, s_241_29, tb1, tb2, tP1, tP2, vi_rs_o hbP, e, vi_ms_rs, vi_rs_s, vi_rs_rs, vi_inc]
        exact nx
      | false =>
        rw [hs, if_neg (by decide)] at nx
        rw [hs] at e
        have e : M b c = 0 := e
        clear w hQ hS hSb hp ih
        simp (disch := omega) only [Option.toList_some, Option.toList_none, List.nil_append, List.cons_append, List.append_nil, true_and, and_true, not_true_eq_false, not_false_eq_true, true_implies, false_implies, implies_true, and_self, Int.reduceLT, Int.reduceLE, Int.reduceEq, Int.reduceNe, Int.reduceAdd, Int.reduceSub, Int.reduceMul, Int.reduceNeg, Int.reduceToNat, Int.toNat_natCast, ↓kk_ck, ↓kk_im, ↓kk_in, s_241_15, s_241_20, s_241_27, s_241_28, s_241_29, tb1, tb2, tP1, tP2, vi_rs_o hbP, e, vi_ms_rs, vi_rs_s, vi_rs_rs, vi_inc]
        exact nx
  have l0 := lA 0 (by omega) (fun _ => 0) (fun j hj => absurd hj (by omega))
  rw [hY1] at l0
  clear lA w hQ hS hSb
  simp (disch := omega) only [Option.toList_some, Option.toList_none, List.nil_append, List.cons_append, List.append_nil, true_and, and_true, not_true_eq_false, not_false_eq_true, true_implies, false_implies, implies_true, and_self, Int.reduceLT, Int.reduceLE, Int.reduceEq, Int.reduceNe, Int.reduceAdd, Int.reduceSub, Int.reduceMul, Int.reduceNeg, Int.reduceToNat, Int.toNat_natCast, ↓kk_ck, ↓kk_im, ↓kk_in, e_241, s_241_0, s_241_5, e216]
  exact l0
end
