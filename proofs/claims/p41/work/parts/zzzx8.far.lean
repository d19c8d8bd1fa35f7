/-! The property of its own: the fewest STEPS of ANTS, by what gets less. -/
def fI (O : Nat → Bool) (t : Nat) (far : Nat → Int) : Prop := (O t = true → far t = 0) ∧ ∀ c, c < 216 → (0 ≤ far c ∧ far c ≤ 999) ∧ (far c < 999 → O c = true ∧ O t = true ∧ (far c = 0 → c = t) ∧ (0 < far c → ∃ b, b < 216 ∧ sA c b ∧ O b = true ∧ far b + 1 ≤ far c))
def fN (f far : Nat → Int) (O : Nat → Bool) (c s : Nat) : Prop := ¬ (O c = true ∧ mBe (rowM f) (c : Int) s ≠ -1 ∧ O (mBe (rowM f) (c : Int) s).toNat = true ∧ far (mBe (rowM f) (c : Int) s).toNat + 1 < far c)
theorem fI_u {O : Nat → Bool} {t : Nat} {far : Nat → Int} (h : fI O t far) {c b : Nat} (hc : c < 216) (hb : b < 216) (hA : sA c b) (hO : O c = true) (hOb : O b = true) (hlt : far b + 1 < far c) : fI O t (vi_u far c (far b + 1)) := by
  obtain ⟨h1, h2⟩ := h
  obtain ⟨⟨b1, b2⟩, b3⟩ := h2 b hb
  obtain ⟨⟨c1, c2⟩, c3⟩ := h2 c hc
  have hne : b ≠ c := fun e => by rw [e] at hlt; omega
  obtain ⟨d1, d2, d3, d4⟩ := b3 (by omega)
  refine ⟨fun ht => ?_, fun j hj => ?_⟩
  · by_cases e : t = c
    · have := h1 ht
      rw [e] at this
      omega
    · rw [vi_u_o e]; exact h1 ht
  · by_cases e : j = c
    · subst e
      rw [vi_u_s]
      exact ⟨by omega, fun _ => ⟨hO, d2, fun q => by omega, fun _ => ⟨b, hb, hA, hOb, by rw [vi_u_o hne]; omega⟩⟩⟩
    · rw [vi_u_o e]
      obtain ⟨j1, j2⟩ := h2 j hj
      refine ⟨j1, fun q => ?_⟩
      obtain ⟨k1, k2, k3, k4⟩ := j2 q
      refine ⟨k1, k2, k3, fun q0 => ?_⟩
      obtain ⟨y, y1, y2, y3, y4⟩ := k4 q0
      refine ⟨y, y1, y2, y3, ?_⟩
      by_cases e2 : y = c
      · rw [e2, vi_u_s]; rw [e2] at y4; omega
      · rw [vi_u_o e2]; exact y4
def fD (far : Nat → Int) : Nat → Int := fun c => if far c < 999 then far c else -1
theorem fI_l {O : Nat → Bool} {t : Nat} {far : Nat → Int} (h : fI O t far) (hn : ∀ c b, c < 216 → b < 216 → O c = true → O b = true → sA c b → far c ≤ far b + 1) : ∀ (k : Nat) (c : Nat), c < 216 → far c = (k : Int) → far c < 999 → k + 1 ≤ sN 216 (fun x => decide (far x ≤ (k : Int))) := by
  intro k
  induction k with
  | zero =>
    intro c hc e _
    have := sN_lt (k := 216) (f := fun _ => false) (g := fun x => decide (far x ≤ ((0 : Nat) : Int))) (fun _ _ q => by cases q) hc rfl (decide_eq_true (by omega))
    omega
  | succ k ih =>
    intro c hc e hlt
    obtain ⟨h1, h2⟩ := h
    obtain ⟨d1, d2, d3, d4⟩ := (h2 c hc).2 hlt
    obtain ⟨b, b1, b2, b3, b4⟩ := d4 (by omega)
    have := hn c b hc b1 d1 b3 b2
    have hk := ih b b1 (by omega) (by omega)
    have := sN_lt (k := 216) (f := fun x => decide (far x ≤ (k : Int))) (g := fun x => decide (far x ≤ ((k + 1 : Nat) : Int))) (fun x _ q => decide_eq_true (by have := of_decide_eq_true q; omega)) hc (decide_eq_false (by omega)) (decide_eq_true (by omega))
    omega
theorem fI_b {O : Nat → Bool} {t : Nat} {far : Nat → Int} (h : fI O t far) (hn : ∀ c b, c < 216 → b < 216 → O c = true → O b = true → sA c b → far c ≤ far b + 1) {c : Nat} (hc : c < 216) (hlt : far c < 999) : far c < 216 := by
  have h0 := ((h.2 c hc).1).1
  have := fI_l h hn (far c).toNat c hc (by omega) hlt
  have := sN_le 216 (fun x => decide (far x ≤ ((far c).toNat : Int)))
  omega
theorem fI_g {O : Nat → Bool} {t : Nat} {far : Nat → Int} (ht : t < 216) (hO : O t = true) (h : fI O t far) (hn : ∀ c b, c < 216 → b < 216 → O c = true → O b = true → sA c b → far c ≤ far b + 1) : gDs O t (fD far) := by
  have hb := fun {c : Nat} => @fI_b O t far h hn c
  obtain ⟨h1, h2⟩ := h
  have dv : ∀ c, c < 216 → (fD far c = -1 ∧ ¬ far c < 999) ∨ (fD far c = far c ∧ far c < 999) := fun c _ => by
    unfold fD
    by_cases q : far c < 999
    · rw [if_pos q]; exact .inr ⟨rfl, q⟩
    · rw [if_neg q]; exact .inl ⟨rfl, q⟩
  refine ⟨?_, fun c hc e => ?_, fun c hc e => ?_, fun c hc e => ?_, fun c b hc e hA hOb => ?_⟩
  · have := h1 hO
    rcases dv t ht with ⟨q1, q2⟩ | ⟨q1, q2⟩ <;> omega
  · rcases dv c hc with ⟨q1, q2⟩ | ⟨q1, q2⟩
    · omega
    · exact ((h2 c hc).2 q2).2.2.1 (by omega)
  · rcases dv c hc with ⟨q1, q2⟩ | ⟨q1, q2⟩
    · exact absurd q1 e
    · rw [q1]
      exact ⟨((h2 c hc).2 q2).1, (h2 c hc).1.1, hb hc q2⟩
  · rcases dv c hc with ⟨q1, q2⟩ | ⟨q1, q2⟩
    · omega
    · obtain ⟨d1, -, -, d4⟩ := (h2 c hc).2 q2
      obtain ⟨b, b1, b2, b3, b4⟩ := d4 (by omega)
      have := hn c b hc b1 d1 b3 b2
      refine ⟨b, b1, b2, ?_⟩
      rcases dv b b1 with ⟨r1, r2⟩ | ⟨r1, r2⟩ <;> omega
  · have hb' := sA_lt hc hA
    rcases dv c hc with ⟨q1, q2⟩ | ⟨q1, q2⟩
    · exact absurd q1 e
    · have d1 := ((h2 c hc).2 q2).1
      have := hn b c hb' hc hOb d1 (sA_sym hc hA)
      have := hb hc q2
      have hb0 := (h2 b hb').1.1
      have hc0 := (h2 c hc).1.1
      rcases dv b hb' with ⟨r1, r2⟩ | ⟨r1, r2⟩ <;> omega
theorem fN_of {f far : Nat → Int} {O : Nat → Bool} (hOb : ∀ c, O c = true → bxS f c = true) (hn : ∀ c, c < 216 → ∀ s, s < 6 → fN f far O c s) : ∀ c b, c < 216 → b < 216 → O c = true → O b = true → sA c b → far c ≤ far b + 1 := by
  intro c b hc hb oc ob hA
  obtain ⟨s, hs, e⟩ := bs_x (hOb c oc) (hOb b ob) hA
  have := hn c hc s hs
  unfold fN at this
  rw [e, Int.toNat_natCast] at this
  by_cases q : far b + 1 < far c
  · exact absurd ⟨oc, by omega, ob, q⟩ this
  · omega
theorem fI_0 {O : Nat → Bool} {t : Nat} {far : Nat → Int} (hf : ∀ c, c < 216 → far c = if c = t ∧ O c = true then 0 else 999) (ht : t < 216) : fI O t far := by
  refine ⟨fun hO => by rw [hf t ht, if_pos ⟨rfl, hO⟩], fun c hc => ?_⟩
  rw [hf c hc]
  by_cases q : c = t ∧ O c = true
  · rw [if_pos q]
    exact ⟨by omega, fun _ => ⟨q.2, by rw [← q.1]; exact q.2, fun _ => q.1, fun k => absurd k (by omega)⟩⟩
  · rw [if_neg q]
    exact ⟨by omega, fun k => absurd k (by omega)⟩
section
variable {d ln : Nat} {Y : vi_Y} {M : vi_M} {nn : Nat × Nat} {v : Int} {f : Nat → Int} {O : Nat → Bool} {F t : Nat} {Q : Option vi_V → vi_W → Prop} {a6 a7 a8 a9 a10 a11 a13 a14 a15 a16 a17 : Int}
theorem lw_1126 (hY : lwY Y ln) (tF : Y.1 F = 1 ∧ (Y.2.1 F : Int) = 216) (hF : 127 < F) (hr : rBx M 112 f) (hB : bxF f) (h126 : ∀ j, j < 216 → M 126 j = vi_b (O j)) (hOb : ∀ c, O c = true → bxS f c = true)
    (hQ : ∀ far, fI O t far → (∀ c b, c < 216 → b < 216 → O c = true → O b = true → sA c b → far c ≤ far b + 1) → ∀ (a19 : Int) l20 l21 l22 l23 l24 l25, vi_ok GG (d + 72) 0 1234 [some (.inr (.inr 1)), some (.inr (.inr 29)), some (.inr (.inr 112)), some (.inl v), some (.inr (.inr 125)), some (.inr (.inr 126)), some (.inl a6), some (.inl a7), some (.inl a8), some (.inl a9), some (.inl a10), some (.inl a11), some (.inr (.inr 127)), some (.inl a13), some (.inl a14), some (.inl a15), some (.inl a16), some (.inl a17), some (.inr (.inr F)), some (.inl a19), l20, l21, l22, l23, l24, l25] [] (Y, vi_rs M F far, nn) Q) :
    ∀ (N : Nat) (far : Nat → Int), sS 216 far < N → fI O t far → ∀ l20 l21 l22 l23 l24 l25, vi_ok GG (d + 72) 0 1126 [some (.inr (.inr 1)), some (.inr (.inr 29)), some (.inr (.inr 112)), some (.inl v), some (.inr (.inr 125)), some (.inr (.inr 126)), some (.inl a6), some (.inl a7), some (.inl a8), some (.inl a9), some (.inl a10), some (.inl a11), some (.inr (.inr 127)), some (.inl a13), some (.inl a14), some (.inl a15), some (.inl a16), some (.inl a17), some (.inr (.inr F)), some (.inl 1), l20, l21, l22, l23, l24, l25] [] (Y, vi_rs M F far, nn) Q := by
  obtain ⟨⟨y1, y2⟩, -, ⟨t1, t2⟩, -, ⟨o1, o2⟩⟩ := hY
  obtain ⟨f1, f2⟩ := tF
  have n112 : 112 ≠ F := by omega
  have n126 : 126 ≠ F := by omega
  intro N
  induction N with
  | zero => intro far h; exact absurd h (by omega)
  | succ N ih =>
    intro far0 hN hI0 l20 l21 l22 l23 l24 l25
    have fin : ∀ (more : Int) (far : Nat → Int), (more = 0 ∨ more = 1) → fI O t far → (more = 0 → ∀ c, c < 216 → ∀ s, s < 6 → fN f far O c s) → (more = 1 → sS 216 far < sS 216 far0) → ∀ l20 l21 l22 l23 l24 l25, vi_ok GG (d + 72) 0 1126 [some (.inr (.inr 1)), some (.inr (.inr 29)), some (.inr (.inr 112)), some (.inl v), some (.inr (.inr 125)), some (.inr (.inr 126)), some (.inl a6), some (.inl a7), some (.inl a8), some (.inl a9), some (.inl a10), some (.inl a11), some (.inr (.inr 127)), some (.inl a13), some (.inl a14), some (.inl a15), some (.inl a16), some (.inl a17), some (.inr (.inr F)), some (.inl more), l20, l21, l22, l23, l24, l25] [] (Y, vi_rs M F far, nn) Q := by
      intro more far hm hI hn hlt l20 l21 l22 l23 l24 l25
      rcases hm with rfl | rfl
      · have q := hQ far hI (fN_of hOb (hn rfl)) 0 l20 l21 l22 l23 l24 l25
        rw [s_0_1126]
        clear ih hr hI0 hI hn hlt hN hQ h126 hOb hB
        simp (disch := omega) only [Option.toList_some, Option.toList_none, List.nil_append, List.cons_append, List.append_nil, true_and, and_true, not_true_eq_false, not_false_eq_true, true_implies, false_implies, implies_true, and_self, Int.reduceLT, Int.reduceLE, Int.reduceEq, Int.reduceNe, Int.reduceAdd, Int.reduceSub, Int.reduceMul, Int.reduceNeg, Int.reduceToNat, Int.toNat_natCast, ↓kk_ck, ↓kk_im, ↓kk_in]
        exact q
      · exact ih far (by have := hlt rfl; omega) hI l20 l21 l22 l23 l24 l25
    have pass : ∀ c : Nat, c ≤ 216 → ∀ (more : Int) (far : Nat → Int), (more = 0 ∨ more = 1) → fI O t far → (more = 0 → ∀ c', c' < c → ∀ s, s < 6 → fN f far O c' s) → (sS 216 far ≤ sS 216 far0 ∧ (more = 1 → sS 216 far < sS 216 far0)) → ∀ l21 l22 l23 l24 l25, vi_ok GG (d + 72) 0 1137 [some (.inr (.inr 1)), some (.inr (.inr 29)), some (.inr (.inr 112)), some (.inl v), some (.inr (.inr 125)), some (.inr (.inr 126)), some (.inl a6), some (.inl a7), some (.inl a8), some (.inl a9), some (.inl a10), some (.inl a11), some (.inr (.inr 127)), some (.inl a13), some (.inl a14), some (.inl a15), some (.inl a16), some (.inl a17), some (.inr (.inr F)), some (.inl more), some (.inl (c : Int)), l21, l22, l23, l24, l25] [] (Y, vi_rs M F far, nn) Q := by
      refine vi_dn 216 ?_ ?_
      · intro more far hm hI hn hlt l21 l22 l23 l24 l25
        have q := fin more far hm hI hn hlt.2 (some (.inl ((216 : Nat) : Int))) l21 l22 l23 l24 l25
        rw [s_0_1137]
        clear ih hr hI0 hI hn hlt hN hQ fin h126 hOb hB
        simp (disch := omega) only [Option.toList_some, Option.toList_none, List.nil_append, List.cons_append, List.append_nil, true_and, and_true, not_true_eq_false, not_false_eq_true, true_implies, false_implies, implies_true, and_self, Int.reduceLT, Int.reduceLE, Int.reduceEq, Int.reduceNe, Int.reduceAdd, Int.reduceSub, Int.reduceMul, Int.reduceNeg, Int.reduceToNat, Int.toNat_natCast, ↓kk_ck, ↓kk_im, ↓kk_in, s_0_1231]
        exact q
      · intro c hc ihc more far hm hI hn hlt l21 l22 l23 l24 l25
        have side : ∀ s : Nat, s ≤ 6 → ∀ (more : Int) (far : Nat → Int), (more = 0 ∨ more = 1) → fI O t far → (more = 0 → (∀ c', c' < c → ∀ s, s < 6 → fN f far O c' s) ∧ ∀ s', s' < s → fN f far O c s') → (sS 216 far ≤ sS 216 far0 ∧ (more = 1 → sS 216 far < sS 216 far0)) → ∀ l22 l23 l24 l25, vi_ok GG (d + 72) 0 1148 [some (.inr (.inr 1)), some (.inr (.inr 29)), some (.inr (.inr 112)), some (.inl v), some (.inr (.inr 125)), some (.inr (.inr 126)), some (.inl a6), some (.inl a7), some (.inl a8), some (.inl a9), some (.inl a10), some (.inl a11), some (.inr (.inr 127)), some (.inl a13), some (.inl a14), some (.inl a15), some (.inl a16), some (.inl a17), some (.inr (.inr F)), some (.inl more), some (.inl (c : Int)), some (.inl (s : Int)), l22, l23, l24, l25] [] (Y, vi_rs M F far, nn) Q := by
          have out : ∀ (more : Int) (far : Nat → Int), (more = 0 ∨ more = 1) → fI O t far → (more = 0 → (∀ c', c' < c → ∀ s, s < 6 → fN f far O c' s) ∧ ∀ s', s' < 6 → fN f far O c s') → (sS 216 far ≤ sS 216 far0 ∧ (more = 1 → sS 216 far < sS 216 far0)) → ∀ (a21 : Int) l22 l23 l24 l25, vi_ok GG (d + 72) 0 1225 [some (.inr (.inr 1)), some (.inr (.inr 29)), some (.inr (.inr 112)), some (.inl v), some (.inr (.inr 125)), some (.inr (.inr 126)), some (.inl a6), some (.inl a7), some (.inl a8), some (.inl a9), some (.inl a10), some (.inl a11), some (.inr (.inr 127)), some (.inl a13), some (.inl a14), some (.inl a15), some (.inl a16), some (.inl a17), some (.inr (.inr F)), some (.inl more), some (.inl (c : Int)), some (.inl a21), l22, l23, l24, l25] [] (Y, vi_rs M F far, nn) Q := by
            intro more far hm hI hn hlt a21 l22 l23 l24 l25
            have q := ihc more far hm hI (fun e c' hc' s hs => by
              by_cases q : c' = c
              · rw [q]; exact (hn e).2 s hs
              · exact (hn e).1 c' (by omega) s hs) hlt (some (.inl a21)) l22 l23 l24 l25
            clear ih hr hI0 hI hn hlt hN hQ fin ihc h126 hOb hB
            simp (disch := omega) only [Option.toList_some, Option.toList_none, List.nil_append, List.cons_append, List.append_nil, true_and, and_true, not_true_eq_false, not_false_eq_true, true_implies, false_implies, implies_true, and_self, Int.reduceLT, Int.reduceLE, Int.reduceEq, Int.reduceNe, Int.reduceAdd, Int.reduceSub, Int.reduceMul, Int.reduceNeg, Int.reduceToNat, Int.toNat_natCast, ↓kk_ck, ↓kk_im, ↓kk_in, s_0_1225, vi_inc]
            exact q
          refine vi_dn 6 ?_ ?_
          · intro more far hm hI hn hlt l22 l23 l24 l25
            have q := out more far hm hI hn hlt ((6 : Nat) : Int) l22 l23 l24 l25
            rw [s_0_1148]
            clear ih hr hI0 hI hn hlt hN hQ fin ihc out h126 hOb hB
            simp (disch := omega) only [Option.toList_some, Option.toList_none, List.nil_append, List.cons_append, List.append_nil, true_and, and_true, not_true_eq_false, not_false_eq_true, true_implies, false_implies, implies_true, and_self, Int.reduceLT, Int.reduceLE, Int.reduceEq, Int.reduceNe, Int.reduceAdd, Int.reduceSub, Int.reduceMul, Int.reduceNeg, Int.reduceToNat, Int.toNat_natCast, ↓kk_ck, ↓kk_im, ↓kk_in]
            exact q
          · intro s hs ihs more far hm hI hn hlt l22 l23 l24 l25
            have e126 := h126 c hc
            cases hO : O c
            · have q := out more far hm hI (fun e => ⟨(hn e).1, fun s' _ k => by rw [hO] at k; exact absurd k.1 (by decide)⟩) hlt (s : Int) l22 l23 l24 l25
              rw [hO] at e126
              rw [s_0_1148]
              clear ih hr hI0 hI hn hlt hN hQ fin ihc out ihs h126 hOb hB
              simp (disch := omega) only [Option.toList_some, Option.toList_none, List.nil_append, List.cons_append, List.append_nil, true_and, and_true, not_true_eq_false, not_false_eq_true, true_implies, false_implies, implies_true, and_self, Int.reduceLT, Int.reduceLE, Int.reduceEq, Int.reduceNe, Int.reduceAdd, Int.reduceSub, Int.reduceMul, Int.reduceNeg, Int.reduceToNat, Int.toNat_natCast, ↓kk_ck, ↓kk_im, ↓kk_in, s_0_1155, s_0_1160, o1, o2, vi_rs_o n126, e126, vi_bf]
              exact q
            · rw [hO] at e126
              have k240 := fun {K : Option vi_V → vi_W → Prop} => @lk_240 (d + 71) K Y (vi_rs M F far) nn 112 f t1 t2 (by unfold rBx at *; rw [vi_rs_o n112]; exact hr) hB c s hc hs (hOb c hO)
              simp only [Nat.add_assoc, Nat.reduceAdd] at k240
              have stay : fN f far O c s → ∀ (a22 : Int) l23 l24 l25, vi_ok GG (d + 72) 0 1219 [some (.inr (.inr 1)), some (.inr (.inr 29)), some (.inr (.inr 112)), some (.inl v), some (.inr (.inr 125)), some (.inr (.inr 126)), some (.inl a6), some (.inl a7), some (.inl a8), some (.inl a9), some (.inl a10), some (.inl a11), some (.inr (.inr 127)), some (.inl a13), some (.inl a14), some (.inl a15), some (.inl a16), some (.inl a17), some (.inr (.inr F)), some (.inl more), some (.inl (c : Int)), some (.inl (s : Int)), some (.inl a22), l23, l24, l25] [] (Y, vi_rs M F far, nn) Q := by
                intro hp a22 l23 l24 l25
                have q := ihs more far hm hI (fun e => ⟨(hn e).1, fun s' hs' => by
                  by_cases q : s' = s
                  · rw [q]; exact hp
                  · exact (hn e).2 s' (by omega)⟩) hlt (some (.inl a22)) l23 l24 l25
                clear ih hr hI0 hI hn hlt hN hQ fin ihc out ihs h126 hOb hB
                simp (disch := omega) only [Option.toList_some, Option.toList_none, List.nil_append, List.cons_append, List.append_nil, true_and, and_true, not_true_eq_false, not_false_eq_true, true_implies, false_implies, implies_true, and_self, Int.reduceLT, Int.reduceLE, Int.reduceEq, Int.reduceNe, Int.reduceAdd, Int.reduceSub, Int.reduceMul, Int.reduceNeg, Int.reduceToNat, Int.toNat_natCast, ↓kk_ck, ↓kk_im, ↓kk_in, s_0_1219, vi_inc]
                exact q
              rw [s_0_1148]
              by_cases hm1 : mBe (rowM f) (c : Int) s = -1
              · have q := stay (fun k => k.2.1 hm1) (-1) l23 l24 l25
                rw [hm1] at k240
                clear ih hr hI0 hI hn hlt hN hQ fin ihc out ihs h126 hOb hB stay
                simp (disch := omega) only [Option.toList_some, Option.toList_none, List.nil_append, List.cons_append, List.append_nil, true_and, and_true, not_true_eq_false, not_false_eq_true, true_implies, false_implies, implies_true, and_self, Int.reduceLT, Int.reduceLE, Int.reduceEq, Int.reduceNe, Int.reduceAdd, Int.reduceSub, Int.reduceMul, Int.reduceNeg, Int.reduceToNat, Int.toNat_natCast, ↓kk_ck, ↓kk_im, ↓kk_in, s_0_1155, s_0_1160, s_0_1163, s_0_1171, o1, o2, vi_rs_o n126, e126, vi_bt, k240]
                exact q
              · obtain ⟨b, eb, hb, hbx, hA⟩ := bs_A hB (hOb c hO) hs hm1
                have stay' := fun k => stay (by unfold fN; rw [eb, Int.toNat_natCast]; exact k) (b : Int) l23 l24 l25
                rw [eb] at k240
                have b126 := h126 b hb
                have fb := (hI.2 b hb).1
                cases hOB : O b
                · have q := stay' fun k => by rw [hOB] at k; exact absurd k.2.2.1 (by decide)
                  rw [hOB] at b126
                  clear ih hr hI0 hI hn hlt hN hQ fin ihc out ihs h126 hOb hB stay stay'
                  simp (disch := omega) only [Option.toList_some, Option.toList_none, List.nil_append, List.cons_append, List.append_nil, true_and, and_true, not_true_eq_false, not_false_eq_true, true_implies, false_implies, implies_true, and_self, Int.reduceLT, Int.reduceLE, Int.reduceEq, Int.reduceNe, Int.reduceAdd, Int.reduceSub, Int.reduceMul, Int.reduceNeg, Int.reduceToNat, Int.toNat_natCast, ↓kk_ck, ↓kk_im, ↓kk_in, s_0_1155, s_0_1160, s_0_1163, s_0_1171, s_0_1178, s_0_1183, o1, o2, vi_rs_o n126, e126, b126, vi_bt, vi_bf, k240]
                  exact q
                · rw [hOB] at b126
                  by_cases h2 : far b + 1 < far c
                  · have q := ihs 1 (vi_u far c (far b + 1)) (.inr rfl) (fI_u hI hc hb hA hO hOB h2) (fun e => absurd e (by decide)) ⟨by have := ((sS_u (f := far) (c := c) (v := far b + 1) (by omega) h2 216).2 hc); omega, fun _ => by have := ((sS_u (f := far) (c := c) (v := far b + 1) (by omega) h2 216).2 hc); omega⟩ (some (.inl (b : Int))) l23 l24 l25
                    have w1 : vi_w32 (far b + 1) = far b + 1 := vi_32 (by omega) (by omega)
                    have st : vi_ok GG (d + 72) 0 1186 [some (.inr (.inr 1)), some (.inr (.inr 29)), some (.inr (.inr 112)), some (.inl v), some (.inr (.inr 125)), some (.inr (.inr 126)), some (.inl a6), some (.inl a7), some (.inl a8), some (.inl a9), some (.inl a10), some (.inl a11), some (.inr (.inr 127)), some (.inl a13), some (.inl a14), some (.inl a15), some (.inl a16), some (.inl a17), some (.inr (.inr F)), some (.inl more), some (.inl (c : Int)), some (.inl (s : Int)), some (.inl (b : Int)), l23, l24, l25] [] (Y, vi_rs M F far, nn) Q := by
                      rw [s_0_1186]
                      refine ⟨⟨f1, by omega, by omega⟩, ?_⟩
                      rw [vi_rs_s, Int.toNat_natCast, s_0_1191]
                      refine ⟨⟨f1, by omega, by omega⟩, ?_⟩
                      rw [vi_rs_s, Int.toNat_natCast, w1, s_0_1198]
                      refine ⟨fun _ => ?_, fun k => absurd h2 k⟩
                      rw [s_0_1204]
                      refine ⟨⟨f1, by omega, by omega⟩, ?_⟩
                      rw [vi_rs_s, Int.toNat_natCast, s_0_1213]
                      refine ⟨⟨f1, by omega, by omega⟩, ?_⟩
                      rw [w1, vi_ms_rs, vi_rs_s, vi_rs_rs, Int.toNat_natCast]
                      clear ih hr hI0 hI hn hlt hN hQ fin ihc out ihs h126 hOb hB stay stay' w1 k240
                      simp (disch := omega) only [Option.toList_some, Option.toList_none, List.nil_append, List.cons_append, List.append_nil, true_and, and_true, not_true_eq_false, not_false_eq_true, true_implies, false_implies, implies_true, and_self, Int.reduceLT, Int.reduceLE, Int.reduceEq, Int.reduceNe, Int.reduceAdd, Int.reduceSub, Int.reduceMul, Int.reduceNeg, Int.reduceToNat, Int.toNat_natCast, ↓kk_ck, ↓kk_im, ↓kk_in, s_0_1216, s_0_1219, vi_inc]
                      exact q
                    clear ih hr hI0 hI hn hlt hN hQ fin ihc out ihs h126 hOb hB stay stay' w1 q
                    simp (disch := omega) only [Option.toList_some, Option.toList_none, List.nil_append, List.cons_append, List.append_nil, true_and, and_true, not_true_eq_false, not_false_eq_true, true_implies, false_implies, implies_true, and_self, Int.reduceLT, Int.reduceLE, Int.reduceEq, Int.reduceNe, Int.reduceAdd, Int.reduceSub, Int.reduceMul, Int.reduceNeg, Int.reduceToNat, Int.toNat_natCast, ↓kk_ck, ↓kk_im, ↓kk_in, s_0_1155, s_0_1160, s_0_1163, s_0_1171, s_0_1178, s_0_1183, o1, o2, vi_rs_o n126, e126, b126, vi_bt, k240]
                    exact st
                  · have q := stay' fun k => h2 k.2.2.2
                    clear ih hr hI0 hI hn hlt hN hQ fin ihc out ihs h126 hOb hB stay stay'
                    simp (disch := omega) only [Option.toList_some, Option.toList_none, List.nil_append, List.cons_append, List.append_nil, true_and, and_true, not_true_eq_false, not_false_eq_true, true_implies, false_implies, implies_true, and_self, Int.reduceLT, Int.reduceLE, Int.reduceEq, Int.reduceNe, Int.reduceAdd, Int.reduceSub, Int.reduceMul, Int.reduceNeg, Int.reduceToNat, Int.toNat_natCast, ↓kk_ck, ↓kk_im, ↓kk_in, s_0_1155, s_0_1160, s_0_1163, s_0_1171, s_0_1178, s_0_1183, s_0_1186, s_0_1191, s_0_1198, s_0_1201, o1, o2, f1, f2, vi_rs_s, vi_rs_o n126, e126, b126, vi_bt, k240, @vi_32 (far b + 1) (by omega) (by omega)]
                    exact q
        have q := side 0 (by omega) more far hm hI (fun e => ⟨hn e, fun s' hs' => absurd hs' (by omega)⟩) hlt l22 l23 l24 l25
        rw [s_0_1137]
        clear ih hr hI0 hI hn hlt hN hQ fin ihc side h126 hOb hB
        simp (disch := omega) only [Option.toList_some, Option.toList_none, List.nil_append, List.cons_append, List.append_nil, true_and, and_true, not_true_eq_false, not_false_eq_true, true_implies, false_implies, implies_true, and_self, Int.reduceLT, Int.reduceLE, Int.reduceEq, Int.reduceNe, Int.reduceAdd, Int.reduceSub, Int.reduceMul, Int.reduceNeg, Int.reduceToNat, Int.toNat_natCast, ↓kk_ck, ↓kk_im, ↓kk_in, s_0_1145]
        exact q
    have q := pass 0 (by omega) 0 far0 (.inl rfl) hI0 (fun _ c' hc' => absurd hc' (by omega)) ⟨Nat.le_refl _, fun e => absurd e (by decide)⟩ l21 l22 l23 l24 l25
    rw [s_0_1126]
    clear ih hr hI0 hN hQ fin pass h126 hOb hB
    simp (disch := omega) only [Option.toList_some, Option.toList_none, List.nil_append, List.cons_append, List.append_nil, true_and, and_true, not_true_eq_false, not_false_eq_true, true_implies, false_implies, implies_true, and_self, Int.reduceLT, Int.reduceLE, Int.reduceEq, Int.reduceNe, Int.reduceAdd, Int.reduceSub, Int.reduceMul, Int.reduceNeg, Int.reduceToNat, Int.toNat_natCast, ↓kk_ck, ↓kk_im, ↓kk_in, s_0_1131]
    exact q
/-- laid anew: 0 where it is to go, 999 elsewhere -/
theorem lw_1082 (hY : lwY Y ln) (tF : Y.1 F = 1 ∧ (Y.2.1 F : Int) = 216) (hF : 127 < F) (h126 : ∀ j, j < 216 → M 126 j = vi_b (O j)) (ht : t < 216)
    (hQ : ∀ far, fI O t far → ∀ l20 l21 l22 l23 l24 l25, vi_ok GG (d + 72) 0 1126 [some (.inr (.inr 1)), some (.inr (.inr 29)), some (.inr (.inr 112)), some (.inl v), some (.inr (.inr 125)), some (.inr (.inr 126)), some (.inl a6), some (.inl a7), some (.inl a8), some (.inl a9), some (.inl a10), some (.inl a11), some (.inr (.inr 127)), some (.inl a13), some (.inl a14), some (.inl a15), some (.inl a16), some (.inl (t : Int)), some (.inr (.inr F)), some (.inl 1), l20, l21, l22, l23, l24, l25] [] (Y, vi_rs M F far, nn) Q) :
    ∀ c : Nat, c ≤ 216 → ∀ far, (∀ j, j < c → far j = if j = t ∧ O j = true then 0 else 999) → ∀ l20 l21 l22 l23 l24 l25, vi_ok GG (d + 72) 0 1082 [some (.inr (.inr 1)), some (.inr (.inr 29)), some (.inr (.inr 112)), some (.inl v), some (.inr (.inr 125)), some (.inr (.inr 126)), some (.inl a6), some (.inl a7), some (.inl a8), some (.inl a9), some (.inl a10), some (.inl a11), some (.inr (.inr 127)), some (.inl a13), some (.inl a14), some (.inl a15), some (.inl a16), some (.inl (t : Int)), some (.inr (.inr F)), some (.inl (c : Int)), l20, l21, l22, l23, l24, l25] [] (Y, vi_rs M F far, nn) Q := by
  obtain ⟨-, -, -, -, ⟨o1, o2⟩⟩ := hY
  obtain ⟨f1, f2⟩ := tF
  have n126 : 126 ≠ F := by omega
  refine vi_dn 216 ?_ ?_
  · intro far hf l20 l21 l22 l23 l24 l25
    have q := hQ far (fI_0 hf ht) l20 l21 l22 l23 l24 l25
    rw [s_0_1082]
    clear hQ hf h126
    simp (disch := omega) only [Option.toList_some, Option.toList_none, List.nil_append, List.cons_append, List.append_nil, true_and, and_true, not_true_eq_false, not_false_eq_true, true_implies, false_implies, implies_true, and_self, Int.reduceLT, Int.reduceLE, Int.reduceEq, Int.reduceNe, Int.reduceAdd, Int.reduceSub, Int.reduceMul, Int.reduceNeg, Int.reduceToNat, Int.toNat_natCast, ↓kk_ck, ↓kk_im, ↓kk_in, s_0_1123]
    exact q
  · intro c hc ih far hf l20 l21 l22 l23 l24 l25
    have q := ih (vi_u far c (if c = t ∧ O c = true then 0 else 999)) (fun j hj => by
      by_cases e : j = c
      · rw [e, vi_u_s]
      · rw [vi_u_o e]; exact hf j (by omega)) l20 l21 l22 l23 l24 l25
    have e126 := h126 c hc
    rw [s_0_1082]
    clear hQ hf h126 ih
    by_cases e : c = t
    · subst e
      cases hO : O c
      · rw [hO, if_neg (by simp)] at q
        rw [hO] at e126
        simp (disch := omega) only [Option.toList_some, Option.toList_none, List.nil_append, List.cons_append, List.append_nil, true_and, and_true, not_true_eq_false, not_false_eq_true, true_implies, false_implies, implies_true, and_self, Int.reduceLT, Int.reduceLE, Int.reduceEq, Int.reduceNe, Int.reduceAdd, Int.reduceSub, Int.reduceMul, Int.reduceNeg, Int.reduceToNat, Int.toNat_natCast, ↓kk_ck, ↓kk_im, ↓kk_in, s_0_1090, s_0_1101, s_0_1106, s_0_1113, s_0_1116, s_0_1117, o1, o2, f1, f2, vi_rs_o n126, e126, vi_bf, vi_ms_rs, vi_rs_s, vi_rs_rs, vi_inc, ne_eq]
        exact q
      · rw [hO, if_pos ⟨rfl, rfl⟩] at q
        rw [hO] at e126
        simp (disch := omega) only [Option.toList_some, Option.toList_none, List.nil_append, List.cons_append, List.append_nil, true_and, and_true, not_true_eq_false, not_false_eq_true, true_implies, false_implies, implies_true, and_self, Int.reduceLT, Int.reduceLE, Int.reduceEq, Int.reduceNe, Int.reduceAdd, Int.reduceSub, Int.reduceMul, Int.reduceNeg, Int.reduceToNat, Int.toNat_natCast, ↓kk_ck, ↓kk_im, ↓kk_in, s_0_1090, s_0_1101, s_0_1106, s_0_1109, s_0_1116, s_0_1117, o1, o2, f1, f2, vi_rs_o n126, e126, vi_bt, vi_ms_rs, vi_rs_s, vi_rs_rs, vi_inc, ne_eq]
        exact q
    · rw [if_neg (fun k => e k.1)] at q
      have e' : ¬ (c : Int) = (t : Int) := by omega
      simp (disch := omega) only [Option.toList_some, Option.toList_none, List.nil_append, List.cons_append, List.append_nil, true_and, and_true, not_true_eq_false, not_false_eq_true, true_implies, false_implies, implies_true, and_self, Int.reduceLT, Int.reduceLE, Int.reduceEq, Int.reduceNe, Int.reduceAdd, Int.reduceSub, Int.reduceMul, Int.reduceNeg, Int.reduceToNat, Int.toNat_natCast, ↓kk_ck, ↓kk_im, ↓kk_in, s_0_1090, s_0_1113, s_0_1116, s_0_1117, f1, f2, e', vi_ms_rs, vi_rs_s, vi_rs_rs, vi_inc, ne_eq]
      exact q
end
