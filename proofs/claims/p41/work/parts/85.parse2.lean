/-! Contracts of Reader, fourth part: the readers of the grammar, by the fuel of the grammar's own function. -/
/-- the method m reads the mode's place -/
def pM (Y : vi_Y) (nn : Nat × Nat) (f b : Nat → Int) (n fu m mode rk : Nat) : Prop := ∀ (D dp i l S : Nat) (M : vi_M) (a : gDen) (r : gRes) (Q : Option vi_V → vi_W → Prop), rdP (tCd b n) (tVl b n) fu mode dp i l a = some r → dp ≤ 8 → 4 * (8 - dp) + 10 + rk ≤ D → M 73 = rRow f b n i S l → M 74 = b → kS Y M → l ≤ 50 → S ≤ tI b n i → (∀ M', pRes f b n M S l i r M' → Q (some (.inl (vi_b r.1))) (Y, M', nn)) → vi_call GG D m [.inr (.inr 73), .inl (dp : Int)] (Y, M, nn) Q
/-- what goes on in a TERM, a SUM, from the loop's head (pc 8) -/
def pL (Y : vi_Y) (nn : Nat × Nat) (f b : Nat → Int) (n fu m mode rk : Nat) : Prop := ∀ (D dp i l S more S0 l0 i0 : Nat) (M0 M : vi_M) (a : gDen) (r : gRes) (l4 : Option vi_V) (Q : Option vi_V → vi_W → Prop), rdP (tCd b n) (tVl b n) fu mode dp i l a = some r → dp ≤ 8 → 4 * (8 - dp) + 9 + rk ≤ D → pOk f b n M0 S0 l0 i0 M S l i a → S0 ≤ tI b n i0 → more ≤ tI b n i → M 74 = b → kS Y M → (∀ M', pRes f b n M0 S0 l0 i0 r M' → Q (some (.inl (vi_b r.1))) (Y, M', nn)) → vi_ok GG D m 8 [some (.inr (.inr 73)), some (.inl (dp : Int)), some (.inl 1), some (.inl (more : Int)), l4] [] (Y, M, nn) Q
/-- what goes on in a BOTH, a TEST, from the loop's head (pc 11) -/
def pJ (Y : vi_Y) (nn : Nat × Nat) (f b : Nat → Int) (n fu m mode rk : Nat) (key : Int) : Prop := ∀ (D dp i l S more S0 l0 i0 : Nat) (M0 M : vi_M) (a : gDen) (J : List Nat) (y : Int) (r : gRes) (Q : Option vi_V → vi_W → Prop), rdP (tCd b n) (tVl b n) fu mode dp i l a = some r → dp ≤ 8 → 4 * (8 - dp) + 9 + rk ≤ D → pCh f b n M0 S0 l0 i0 M S l i a key J y → S0 ≤ tI b n i0 → more ≤ tI b n i → M 74 = b → kS Y M → (∀ M', pRes f b n M0 S0 l0 i0 r M' → Q (some (.inl (vi_b r.1))) (Y, M', nn)) → vi_ok GG D m 11 [some (.inr (.inr 73)), some (.inl (dp : Int)), some (.inl 1), some (.inl y), some (.inl (more : Int))] [] (Y, M, nn) Q
/-- a PLAIN without its nots, from pc 40 to pc 64 -/
def pX (Y : vi_Y) (nn : Nat × Nat) (f b : Nat → Int) (n fu : Nat) : Prop := ∀ (D dp i l S : Nat) (M : vi_M) (a : gDen) (r : gRes) (x2 x3 : Int) (Q : Option vi_V → vi_W → Prop), rdP (tCd b n) (tVl b n) fu 10 dp i l a = some r → dp ≤ 8 → 4 * (8 - dp) + 15 ≤ D → M 73 = rRow f b n i S l → M 74 = b → kS Y M → l ≤ 50 → S ≤ tI b n i → (∀ M', pRes f b n M S l i r M' → vi_ok GG D 133 64 [some (.inr (.inr 73)), some (.inl (dp : Int)), some (.inl x2), some (.inl x3)] [.inl (vi_b r.1)] (Y, M', nn) Q) → vi_ok GG D 133 40 [some (.inr (.inr 73)), some (.inl (dp : Int)), some (.inl x2), some (.inl x3)] [] (Y, M, nn) Q
theorem tI_cd {b : Nat → Int} {n i : Nat} (h : tCd b n i ≠ 0) : tI b n i < n := by
  have := tI_le (b := b) (n := n) i
  by_cases e : tI b n i = n
  · exact absurd (tCd_e e) h
  · omega
theorem pRes_t {f b : Nat → Int} {n : Nat} {M0 M : vi_M} {S0 l0 i0 S i l : Nat} {a : gDen} (h : pOk f b n M0 S0 l0 i0 M S l i a) : pRes f b n M0 S0 l0 i0 (true, i, l, a) M := by
  unfold pRes
  rw [if_pos rfl]
  exact ⟨S, h⟩
theorem pRes_f {f b : Nat → Int} {n : Nat} {M0 M : vi_M} {S0 l0 i0 i l : Nat} {a : gDen} (h : pFl f b n M0 M i) : pRes f b n M0 S0 l0 i0 (false, i, l, a) M := by
  unfold pRes
  rw [if_neg (by simp)]
  exact h
theorem pRes_ft {f b : Nat → Int} {n : Nat} {M0 M : vi_M} {S0 l0 i0 i l : Nat} {a : gDen} (h : pRes f b n M0 S0 l0 i0 (true, i, l, a) M) : ∃ S, pOk f b n M0 S0 l0 i0 M S l i a := by
  unfold pRes at h
  rw [if_pos rfl] at h
  exact h
theorem pRes_ff {f b : Nat → Int} {n : Nat} {M0 M : vi_M} {S0 l0 i0 i l : Nat} {a : gDen} (h : pRes f b n M0 S0 l0 i0 (false, i, l, a) M) : pFl f b n M0 M i := by
  unfold pRes at h
  rw [if_neg (by simp)] at h
  exact h
theorem pFl_t {f b : Nat → Int} {n : Nat} {M0 M1 M2 : vi_M} {i : Nat} (h : pFr M0 M1) (h2 : pFl f b n M1 M2 i) : pFl f b n M0 M2 i := ⟨pFr_t h h2.1, h2.2⟩
section
variable {Y : vi_Y} {nn : Nat × Nat} {n fu : Nat} {b f : Nat → Int}
/-- a failed operand in a loop of a TERM, a SUM: it ends -/
theorem pL6_f (hY : kY Y 112) {D : Nat} {M : vi_M} {x1 : Int} {more : Nat} (hm : more ≤ 400) {l4 : Option vi_V} {Q : Option vi_V → vi_W → Prop} (hQ : Q (some (.inl 0)) (Y, M, nn)) : vi_ok GG D 137 8 [some (.inr (.inr 73)), some (.inl x1), some (.inl 0), some (.inl (more : Int)), l4] [] (Y, M, nn) Q := by
  rw [s_137_8]
  by_cases h : 400 ≤ more
  · simp (disch := omega) only [Option.toList_some, Option.toList_none, List.nil_append, List.cons_append, List.append_nil, true_and, and_true, not_true_eq_false, not_false_eq_true, true_implies, false_implies, implies_true, and_self, Int.reduceLT, Int.reduceLE, Int.reduceEq, Int.reduceNe, Int.reduceAdd, Int.reduceSub, Int.reduceMul, Int.reduceNeg, Int.reduceToNat, Int.toNat_natCast, ↓kk_ck, ↓kk_im, ↓kk_in, s_137_0, s_137_15, s_137_19, s_137_28, s_137_37, s_137_46, s_137_51, s_137_53, s_137_79, s_137_5, s_137_25, s_137_34, s_137_43, s_137_59, s_137_64, s_137_72]
    exact hQ
  · simp (disch := omega) only [Option.toList_some, Option.toList_none, List.nil_append, List.cons_append, List.append_nil, true_and, and_true, not_true_eq_false, not_false_eq_true, true_implies, false_implies, implies_true, and_self, Int.reduceLT, Int.reduceLE, Int.reduceEq, Int.reduceNe, Int.reduceAdd, Int.reduceSub, Int.reduceMul, Int.reduceNeg, Int.reduceToNat, Int.toNat_natCast, ↓kk_ck, ↓kk_im, ↓kk_in, s_137_0, s_137_15, s_137_19, s_137_28, s_137_37, s_137_46, s_137_51, s_137_53, s_137_79, s_137_5, s_137_25, s_137_34, s_137_43, s_137_59, s_137_64, s_137_72]
    exact hQ
theorem pL7_f (hY : kY Y 112) {D : Nat} {M : vi_M} {x1 : Int} {more : Nat} (hm : more ≤ 400) {l4 : Option vi_V} {Q : Option vi_V → vi_W → Prop} (hQ : Q (some (.inl 0)) (Y, M, nn)) : vi_ok GG D 136 8 [some (.inr (.inr 73)), some (.inl x1), some (.inl 0), some (.inl (more : Int)), l4] [] (Y, M, nn) Q := by
  rw [s_136_8]
  by_cases h : 400 ≤ more
  · simp (disch := omega) only [Option.toList_some, Option.toList_none, List.nil_append, List.cons_append, List.append_nil, true_and, and_true, not_true_eq_false, not_false_eq_true, true_implies, false_implies, implies_true, and_self, Int.reduceLT, Int.reduceLE, Int.reduceEq, Int.reduceNe, Int.reduceAdd, Int.reduceSub, Int.reduceMul, Int.reduceNeg, Int.reduceToNat, Int.toNat_natCast, ↓kk_ck, ↓kk_im, ↓kk_in, s_136_0, s_136_15, s_136_19, s_136_28, s_136_37, s_136_46, s_136_51, s_136_53, s_136_79, s_136_5, s_136_25, s_136_34, s_136_43, s_136_59, s_136_64, s_136_72]
    exact hQ
  · simp (disch := omega) only [Option.toList_some, Option.toList_none, List.nil_append, List.cons_append, List.append_nil, true_and, and_true, not_true_eq_false, not_false_eq_true, true_implies, false_implies, implies_true, and_self, Int.reduceLT, Int.reduceLE, Int.reduceEq, Int.reduceNe, Int.reduceAdd, Int.reduceSub, Int.reduceMul, Int.reduceNeg, Int.reduceToNat, Int.toNat_natCast, ↓kk_ck, ↓kk_im, ↓kk_in, s_136_0, s_136_15, s_136_19, s_136_28, s_136_37, s_136_46, s_136_51, s_136_53, s_136_79, s_136_5, s_136_25, s_136_34, s_136_43, s_136_59, s_136_64, s_136_72]
    exact hQ
theorem pL6_s (hY : kY Y 112) (h400 : n ≤ 400) (hb : tOk b) (hf : f 3 = (n : Int)) (i0h : pM Y nn f b n fu 138 0 0) (ihh : pL Y nn f b n fu 137 6 1) : pL Y nn f b n (fu + 1) 137 6 1 := by
  intro D dp i l S more S0 l0 i0 M0 M a r l4 Q hg hdp hD hok h0 hmore m74 hk hQ
  obtain ⟨a1, a2, a3, a4⟩ := y_73 hY (by omega)
  have h73 := hok.2.1
  have hSi := pOk_le hok h0
  have S42 := fun {D : Nat} {K : Option vi_V → vi_W → Prop} (hD : 2 ≤ D) => @k_146' D K Y M nn n b f hY h400 hb m74 hf i S l h73 42 (by decide) 142 (by decide) hD
  have S47 := fun {D : Nat} {K : Option vi_V → vi_W → Prop} (hD : 2 ≤ D) => @k_146' D K Y M nn n b f hY h400 hb m74 hf i S l h73 47 (by decide) 147 (by decide) hD
  have N := fun {D : Nat} {K : Option vi_V → vi_W → Prop} (hD : 3 ≤ D) => @k_143' D K Y M nn n b f hY h400 hb m74 hf i S l h73 hD
  rw [rdP] at hg
  by_cases hc : tCd b n i = 142 ∨ tCd b n i = 147
  · rw [if_pos hc] at hg
    have hin := tI_cd (b := b) (n := n) (i := i) (by omega)
    have his := tI_s hin
    have hle1 := tI_le (b := b) (n := n) (i + 1)
    generalize hM1 : vi_rs M 73 (rRow f b n (i + 1) S l) = M1 at *
    have m1 : M1 73 = rRow f b n (i + 1) S l := by rw [← hM1, vi_rs_s]
    have m174 : M1 74 = b := by rw [← hM1, vi_rs_o (by omega)]; exact m74
    have fr1 : pFr M M1 := by rw [← hM1]; exact pFr_73
    have cont : ∀ kd : Int, kd = (if tCd b n i = 142 then 9 else 10) → ∀ l4' : Option vi_V, vi_call GG D 138 [.inr (.inr 73), .inl (dp : Int)] (Y, M1, nn) (fun r w' => vi_ok GG D 137 64 [some (.inr (.inr 73)), some (.inl (dp : Int)), some (.inl 1), some (.inl (more : Int)), some (.inl kd)] r.toList w' Q) := by
      intro kd hkd l4'
      cases hr : rdP (tCd b n) (tVl b n) fu 0 dp (i + 1) l a with
      | none => rw [hr] at hg; cases hg
      | some r0 =>
        obtain ⟨ok, i2, l2, c⟩ := r0
        refine i0h D dp (i + 1) l S M1 a (ok, i2, l2, c) _ hr hdp (by omega) m1 m174 (kS_c hk fr1) hok.2.2.1 (by omega) fun M2 hres => ?_
        rw [hr] at hg
        cases ok
        · dsimp only at hg
          cases hg
          have hfl := pRes_ff hres
          obtain ⟨v, M3, hfl3, hK⟩ := k_141f (D := D) (nn := nn) hY hfl (k := kd) (x := 0) (by omega)
          have := pL6_f (nn := nn) hY (D := D) (M := M3) (x1 := (dp : Int)) (more := more + 1) (by omega) (l4 := some (.inl kd)) (hQ M3 (pRes_f (pFl_t (pFr_t hok.1 fr1) hfl3)))
          clear hQ ihh i0h S42 S47 N
          simp (disch := omega) only [Option.toList_some, Option.toList_none, List.nil_append, List.cons_append, List.append_nil, true_and, and_true, not_true_eq_false, not_false_eq_true, true_implies, false_implies, implies_true, and_self, Int.reduceLT, Int.reduceLE, Int.reduceEq, Int.reduceNe, Int.reduceAdd, Int.reduceSub, Int.reduceMul, Int.reduceNeg, Int.reduceToNat, Int.toNat_natCast, ↓kk_ck, ↓kk_im, ↓kk_in, s_137_0, s_137_15, s_137_19, s_137_28, s_137_37, s_137_46, s_137_51, s_137_53, s_137_79, s_137_5, s_137_25, s_137_34, s_137_43, s_137_59, s_137_64, s_137_72, a1, hK, vi_bf, vi_inc]
          exact this
        · dsimp only at hg
          obtain ⟨S2, hok2⟩ := pRes_ft hres
          have hS2 := pOk_le hok2 (by omega)
          have hle2 := tI_le (b := b) (n := n) i2
          have h6 := hok2.2.2.2.2.2.1
          have h5 := hok2.2.2.2.1
          have K141 := fun {D : Nat} {K : Option vi_V → vi_W → Prop} (hD : 1 ≤ D) => @k_141' D K Y M2 nn n b f hY i2 S2 l2 hok2.2.1 (by omega) kd 0 (by rw [hkd]; split <;> omega) (by omega) hD
          have hj := pOk_j (kd := kd) hok his (by rw [hM1]; exact hok2) (by rw [hkd]; split <;> omega)
          have := ihh D dp i2 l2 (S2 + 1) (more + 1) S0 l0 i0 M0 _ (dJ kd a c) r (some (.inl kd)) Q (by rw [hkd]; exact hg) hdp hD hj h0 (by omega) (by
            rw [vi_rs_o (by omega), vi_rs_o (by omega), hok2.1 74 (by omega) (by omega)]; exact m174) (kS_c (kS_c hk fr1) (pFr_t hok2.1 (pFr_t pFr_75 pFr_73))) hQ
          clear hQ ihh i0h S42 S47 N hj
          simp (disch := omega) only [Option.toList_some, Option.toList_none, List.nil_append, List.cons_append, List.append_nil, true_and, and_true, not_true_eq_false, not_false_eq_true, true_implies, false_implies, implies_true, and_self, Int.reduceLT, Int.reduceLE, Int.reduceEq, Int.reduceNe, Int.reduceAdd, Int.reduceSub, Int.reduceMul, Int.reduceNeg, Int.reduceToNat, Int.toNat_natCast, ↓kk_ck, ↓kk_im, ↓kk_in, s_137_0, s_137_15, s_137_19, s_137_28, s_137_37, s_137_46, s_137_51, s_137_53, s_137_79, s_137_5, s_137_25, s_137_34, s_137_43, s_137_59, s_137_64, s_137_72, a1, K141, vi_bt, vi_inc]
          exact this
    rw [s_137_8]
    by_cases h1 : tCd b n i = 142
    · have := cont 9 (by rw [if_pos h1]) l4
      rw [decide_eq_true h1] at S42
      clear cont hQ ihh i0h hg
      simp (disch := omega) only [Option.toList_some, Option.toList_none, List.nil_append, List.cons_append, List.append_nil, true_and, and_true, not_true_eq_false, not_false_eq_true, true_implies, false_implies, implies_true, and_self, Int.reduceLT, Int.reduceLE, Int.reduceEq, Int.reduceNe, Int.reduceAdd, Int.reduceSub, Int.reduceMul, Int.reduceNeg, Int.reduceToNat, Int.toNat_natCast, ↓kk_ck, ↓kk_im, ↓kk_in, s_137_0, s_137_15, s_137_19, s_137_28, s_137_37, s_137_46, s_137_51, s_137_53, s_137_79, s_137_5, s_137_25, s_137_34, s_137_43, s_137_59, s_137_64, s_137_72, a1, S42, vi_bt, N]
      exact this
    · have h2 : tCd b n i = 147 := by omega
      have := cont 10 (by rw [if_neg h1]) l4
      rw [decide_eq_false h1] at S42
      rw [decide_eq_true h2] at S47
      clear cont hQ ihh i0h hg
      simp (disch := omega) only [Option.toList_some, Option.toList_none, List.nil_append, List.cons_append, List.append_nil, true_and, and_true, not_true_eq_false, not_false_eq_true, true_implies, false_implies, implies_true, and_self, Int.reduceLT, Int.reduceLE, Int.reduceEq, Int.reduceNe, Int.reduceAdd, Int.reduceSub, Int.reduceMul, Int.reduceNeg, Int.reduceToNat, Int.toNat_natCast, ↓kk_ck, ↓kk_im, ↓kk_in, s_137_0, s_137_15, s_137_19, s_137_28, s_137_37, s_137_46, s_137_51, s_137_53, s_137_79, s_137_5, s_137_25, s_137_34, s_137_43, s_137_59, s_137_64, s_137_72, a1, S42, S47, vi_bt, vi_bf, N, ne_eq]
      exact this
  · rw [if_neg hc] at hg
    cases hg
    have := hQ M (pRes_t hok)
    rw [decide_eq_false (fun k => hc (.inl k))] at S42
    rw [decide_eq_false (fun k => hc (.inr k))] at S47
    have hlei := tI_le (b := b) (n := n) i
    rw [s_137_8]
    clear hQ ihh i0h N
    by_cases hm : 400 ≤ more
    · simp (disch := omega) only [Option.toList_some, Option.toList_none, List.nil_append, List.cons_append, List.append_nil, true_and, and_true, not_true_eq_false, not_false_eq_true, true_implies, false_implies, implies_true, and_self, Int.reduceLT, Int.reduceLE, Int.reduceEq, Int.reduceNe, Int.reduceAdd, Int.reduceSub, Int.reduceMul, Int.reduceNeg, Int.reduceToNat, Int.toNat_natCast, ↓kk_ck, ↓kk_im, ↓kk_in, s_137_0, s_137_15, s_137_19, s_137_28, s_137_37, s_137_46, s_137_51, s_137_53, s_137_79, s_137_5, s_137_25, s_137_34, s_137_43, s_137_59, s_137_64, s_137_72]
      exact this
    · simp (disch := omega) only [Option.toList_some, Option.toList_none, List.nil_append, List.cons_append, List.append_nil, true_and, and_true, not_true_eq_false, not_false_eq_true, true_implies, false_implies, implies_true, and_self, Int.reduceLT, Int.reduceLE, Int.reduceEq, Int.reduceNe, Int.reduceAdd, Int.reduceSub, Int.reduceMul, Int.reduceNeg, Int.reduceToNat, Int.toNat_natCast, ↓kk_ck, ↓kk_im, ↓kk_in, s_137_0, s_137_15, s_137_19, s_137_28, s_137_37, s_137_46, s_137_51, s_137_53, s_137_79, s_137_5, s_137_25, s_137_34, s_137_43, s_137_59, s_137_64, s_137_72, a1, S42, S47, vi_bf, ne_eq]
      exact this
theorem pL7_s (hY : kY Y 112) (h400 : n ≤ 400) (hb : tOk b) (hf : f 3 = (n : Int)) (i0h : pM Y nn f b n fu 137 1 1) (ihh : pL Y nn f b n fu 136 7 2) : pL Y nn f b n (fu + 1) 136 7 2 := by
  intro D dp i l S more S0 l0 i0 M0 M a r l4 Q hg hdp hD hok h0 hmore m74 hk hQ
  obtain ⟨a1, a2, a3, a4⟩ := y_73 hY (by omega)
  have h73 := hok.2.1
  have hSi := pOk_le hok h0
  have S42 := fun {D : Nat} {K : Option vi_V → vi_W → Prop} (hD : 2 ≤ D) => @k_146' D K Y M nn n b f hY h400 hb m74 hf i S l h73 43 (by decide) 143 (by decide) hD
  have S47 := fun {D : Nat} {K : Option vi_V → vi_W → Prop} (hD : 2 ≤ D) => @k_146' D K Y M nn n b f hY h400 hb m74 hf i S l h73 45 (by decide) 145 (by decide) hD
  have N := fun {D : Nat} {K : Option vi_V → vi_W → Prop} (hD : 3 ≤ D) => @k_143' D K Y M nn n b f hY h400 hb m74 hf i S l h73 hD
  rw [rdP] at hg
  by_cases hc : tCd b n i = 143 ∨ tCd b n i = 145
  · rw [if_pos hc] at hg
    have hin := tI_cd (b := b) (n := n) (i := i) (by omega)
    have his := tI_s hin
    have hle1 := tI_le (b := b) (n := n) (i + 1)
    generalize hM1 : vi_rs M 73 (rRow f b n (i + 1) S l) = M1 at *
    have m1 : M1 73 = rRow f b n (i + 1) S l := by rw [← hM1, vi_rs_s]
    have m174 : M1 74 = b := by rw [← hM1, vi_rs_o (by omega)]; exact m74
    have fr1 : pFr M M1 := by rw [← hM1]; exact pFr_73
    have cont : ∀ kd : Int, kd = (if tCd b n i = 143 then 7 else 8) → ∀ l4' : Option vi_V, vi_call GG D 137 [.inr (.inr 73), .inl (dp : Int)] (Y, M1, nn) (fun r w' => vi_ok GG D 136 64 [some (.inr (.inr 73)), some (.inl (dp : Int)), some (.inl 1), some (.inl (more : Int)), some (.inl kd)] r.toList w' Q) := by
      intro kd hkd l4'
      cases hr : rdP (tCd b n) (tVl b n) fu 1 dp (i + 1) l a with
      | none => rw [hr] at hg; cases hg
      | some r0 =>
        obtain ⟨ok, i2, l2, c⟩ := r0
        refine i0h D dp (i + 1) l S M1 a (ok, i2, l2, c) _ hr hdp (by omega) m1 m174 (kS_c hk fr1) hok.2.2.1 (by omega) fun M2 hres => ?_
        rw [hr] at hg
        cases ok
        · dsimp only at hg
          cases hg
          have hfl := pRes_ff hres
          obtain ⟨v, M3, hfl3, hK⟩ := k_141f (D := D) (nn := nn) hY hfl (k := kd) (x := 0) (by omega)
          have := pL7_f (nn := nn) hY (D := D) (M := M3) (x1 := (dp : Int)) (more := more + 1) (by omega) (l4 := some (.inl kd)) (hQ M3 (pRes_f (pFl_t (pFr_t hok.1 fr1) hfl3)))
          clear hQ ihh i0h S42 S47 N
          simp (disch := omega) only [Option.toList_some, Option.toList_none, List.nil_append, List.cons_append, List.append_nil, true_and, and_true, not_true_eq_false, not_false_eq_true, true_implies, false_implies, implies_true, and_self, Int.reduceLT, Int.reduceLE, Int.reduceEq, Int.reduceNe, Int.reduceAdd, Int.reduceSub, Int.reduceMul, Int.reduceNeg, Int.reduceToNat, Int.toNat_natCast, ↓kk_ck, ↓kk_im, ↓kk_in, s_136_0, s_136_15, s_136_19, s_136_28, s_136_37, s_136_46, s_136_51, s_136_53, s_136_79, s_136_5, s_136_25, s_136_34, s_136_43, s_136_59, s_136_64, s_136_72, a1, hK, vi_bf, vi_inc]
          exact this
        · dsimp only at hg
          obtain ⟨S2, hok2⟩ := pRes_ft hres
          have hS2 := pOk_le hok2 (by omega)
          have hle2 := tI_le (b := b) (n := n) i2
          have h6 := hok2.2.2.2.2.2.1
          have h5 := hok2.2.2.2.1
          have K141 := fun {D : Nat} {K : Option vi_V → vi_W → Prop} (hD : 1 ≤ D) => @k_141' D K Y M2 nn n b f hY i2 S2 l2 hok2.2.1 (by omega) kd 0 (by rw [hkd]; split <;> omega) (by omega) hD
          have hj := pOk_j (kd := kd) hok his (by rw [hM1]; exact hok2) (by rw [hkd]; split <;> omega)
          have := ihh D dp i2 l2 (S2 + 1) (more + 1) S0 l0 i0 M0 _ (dJ kd a c) r (some (.inl kd)) Q (by rw [hkd]; exact hg) hdp hD hj h0 (by omega) (by
            rw [vi_rs_o (by omega), vi_rs_o (by omega), hok2.1 74 (by omega) (by omega)]; exact m174) (kS_c (kS_c hk fr1) (pFr_t hok2.1 (pFr_t pFr_75 pFr_73))) hQ
          clear hQ ihh i0h S42 S47 N hj
          simp (disch := omega) only [Option.toList_some, Option.toList_none, List.nil_append, List.cons_append, List.append_nil, true_and, and_true, not_true_eq_false, not_false_eq_true, true_implies, false_implies, implies_true, and_self, Int.reduceLT, Int.reduceLE, Int.reduceEq, Int.reduceNe, Int.reduceAdd, Int.reduceSub, Int.reduceMul, Int.reduceNeg, Int.reduceToNat, Int.toNat_natCast, ↓kk_ck, ↓kk_im, ↓kk_in, s_136_0, s_136_15, s_136_19, s_136_28, s_136_37, s_136_46, s_136_51, s_136_53, s_136_79, s_136_5, s_136_25, s_136_34, s_136_43, s_136_59, s_136_64, s_136_72, a1, K141, vi_bt, vi_inc]
          exact this
    rw [s_136_8]
    by_cases h1 : tCd b n i = 143
    · have := cont 7 (by rw [if_pos h1]) l4
      rw [decide_eq_true h1] at S42
      clear cont hQ ihh i0h hg
      simp (disch := omega) only [Option.toList_some, Option.toList_none, List.nil_append, List.cons_append, List.append_nil, true_and, and_true, not_true_eq_false, not_false_eq_true, true_implies, false_implies, implies_true, and_self, Int.reduceLT, Int.reduceLE, Int.reduceEq, Int.reduceNe, Int.reduceAdd, Int.reduceSub, Int.reduceMul, Int.reduceNeg, Int.reduceToNat, Int.toNat_natCast, ↓kk_ck, ↓kk_im, ↓kk_in, s_136_0, s_136_15, s_136_19, s_136_28, s_136_37, s_136_46, s_136_51, s_136_53, s_136_79, s_136_5, s_136_25, s_136_34, s_136_43, s_136_59, s_136_64, s_136_72, a1, S42, vi_bt, N]
      exact this
    · have h2 : tCd b n i = 145 := by omega
      have := cont 8 (by rw [if_neg h1]) l4
      rw [decide_eq_false h1] at S42
      rw [decide_eq_true h2] at S47
      clear cont hQ ihh i0h hg
      simp (disch := omega) only [Option.toList_some, Option.toList_none, List.nil_append, List.cons_append, List.append_nil, true_and, and_true, not_true_eq_false, not_false_eq_true, true_implies, false_implies, implies_true, and_self, Int.reduceLT, Int.reduceLE, Int.reduceEq, Int.reduceNe, Int.reduceAdd, Int.reduceSub, Int.reduceMul, Int.reduceNeg, Int.reduceToNat, Int.toNat_natCast, ↓kk_ck, ↓kk_im, ↓kk_in, s_136_0, s_136_15, s_136_19, s_136_28, s_136_37, s_136_46, s_136_51, s_136_53, s_136_79, s_136_5, s_136_25, s_136_34, s_136_43, s_136_59, s_136_64, s_136_72, a1, S42, S47, vi_bt, vi_bf, N, ne_eq]
      exact this
  · rw [if_neg hc] at hg
    cases hg
    have := hQ M (pRes_t hok)
    rw [decide_eq_false (fun k => hc (.inl k))] at S42
    rw [decide_eq_false (fun k => hc (.inr k))] at S47
    have hlei := tI_le (b := b) (n := n) i
    rw [s_136_8]
    clear hQ ihh i0h N
    by_cases hm : 400 ≤ more
    · simp (disch := omega) only [Option.toList_some, Option.toList_none, List.nil_append, List.cons_append, List.append_nil, true_and, and_true, not_true_eq_false, not_false_eq_true, true_implies, false_implies, implies_true, and_self, Int.reduceLT, Int.reduceLE, Int.reduceEq, Int.reduceNe, Int.reduceAdd, Int.reduceSub, Int.reduceMul, Int.reduceNeg, Int.reduceToNat, Int.toNat_natCast, ↓kk_ck, ↓kk_im, ↓kk_in, s_136_0, s_136_15, s_136_19, s_136_28, s_136_37, s_136_46, s_136_51, s_136_53, s_136_79, s_136_5, s_136_25, s_136_34, s_136_43, s_136_59, s_136_64, s_136_72]
      exact this
    · simp (disch := omega) only [Option.toList_some, Option.toList_none, List.nil_append, List.cons_append, List.append_nil, true_and, and_true, not_true_eq_false, not_false_eq_true, true_implies, false_implies, implies_true, and_self, Int.reduceLT, Int.reduceLE, Int.reduceEq, Int.reduceNe, Int.reduceAdd, Int.reduceSub, Int.reduceMul, Int.reduceNeg, Int.reduceToNat, Int.toNat_natCast, ↓kk_ck, ↓kk_im, ↓kk_in, s_136_0, s_136_15, s_136_19, s_136_28, s_136_37, s_136_46, s_136_51, s_136_53, s_136_79, s_136_5, s_136_25, s_136_34, s_136_43, s_136_59, s_136_64, s_136_72, a1, S42, S47, vi_bf, ne_eq]
      exact this
theorem pM1_s (hY : kY Y 112) (i0h : pM Y nn f b n fu 138 0 0) (ihh : pL Y nn f b n fu 137 6 1) : pM Y nn f b n (fu + 1) 137 1 1 := by
  intro D dp i l S M a r Q hg hdp hD h73 m74 hk hl hS hQ
  obtain ⟨a1, a2, a3, a4⟩ := y_73 hY (by omega)
  obtain ⟨D, rfl⟩ : ∃ k, D = k + 1 := ⟨D - 1, by omega⟩
  rw [rdP] at hg
  have main : vi_call GG D 138 [.inr (.inr 73), .inl (dp : Int)] (Y, M, nn) (fun r w' => vi_ok GG D 137 5 [some (.inr (.inr 73)), some (.inl (dp : Int)), none, none, none] r.toList w' Q) := by
    cases hr : rdP (tCd b n) (tVl b n) fu 0 dp i l a with
    | none => rw [hr] at hg; cases hg
    | some r0 =>
      obtain ⟨ok, i2, l2, c⟩ := r0
      refine i0h D dp i l S M a (ok, i2, l2, c) _ hr hdp (by omega) h73 m74 hk hl hS fun M2 hres => ?_
      rw [hr] at hg
      cases ok
      · dsimp only at hg
        cases hg
        have := pL6_f (nn := nn) hY (D := D) (M := M2) (x1 := (dp : Int)) (more := 0) (by omega) (l4 := none) (hQ M2 hres)
        clear hQ ihh i0h
        simp (disch := omega) only [Option.toList_some, Option.toList_none, List.nil_append, List.cons_append, List.append_nil, true_and, and_true, not_true_eq_false, not_false_eq_true, true_implies, false_implies, implies_true, and_self, Int.reduceLT, Int.reduceLE, Int.reduceEq, Int.reduceNe, Int.reduceAdd, Int.reduceSub, Int.reduceMul, Int.reduceNeg, Int.reduceToNat, Int.toNat_natCast, ↓kk_ck, ↓kk_im, ↓kk_in, s_137_0, s_137_15, s_137_19, s_137_28, s_137_37, s_137_46, s_137_51, s_137_53, s_137_79, s_137_5, s_137_25, s_137_34, s_137_43, s_137_59, s_137_64, s_137_72, vi_bf]
        exact this
      · dsimp only at hg
        obtain ⟨S2, hok2⟩ := pRes_ft hres
        have := ihh D dp i2 l2 S2 0 S l i M M2 c r none Q hg hdp (by omega) hok2 hS (by omega) (by rw [hok2.1 74 (by omega) (by omega)]; exact m74) (kS_c hk hok2.1) hQ
        clear hQ ihh i0h
        simp (disch := omega) only [Option.toList_some, Option.toList_none, List.nil_append, List.cons_append, List.append_nil, true_and, and_true, not_true_eq_false, not_false_eq_true, true_implies, false_implies, implies_true, and_self, Int.reduceLT, Int.reduceLE, Int.reduceEq, Int.reduceNe, Int.reduceAdd, Int.reduceSub, Int.reduceMul, Int.reduceNeg, Int.reduceToNat, Int.toNat_natCast, ↓kk_ck, ↓kk_im, ↓kk_in, s_137_0, s_137_15, s_137_19, s_137_28, s_137_37, s_137_46, s_137_51, s_137_53, s_137_79, s_137_5, s_137_25, s_137_34, s_137_43, s_137_59, s_137_64, s_137_72, vi_bt]
        exact this
  clear hQ ihh i0h hg
  simp (disch := omega) only [Option.toList_some, Option.toList_none, List.nil_append, List.cons_append, List.append_nil, true_and, and_true, not_true_eq_false, not_false_eq_true, true_implies, false_implies, implies_true, and_self, Int.reduceLT, Int.reduceLE, Int.reduceEq, Int.reduceNe, Int.reduceAdd, Int.reduceSub, Int.reduceMul, Int.reduceNeg, Int.reduceToNat, Int.toNat_natCast, ↓kk_ck, ↓kk_im, ↓kk_in, e_137, s_137_0, a1]
  exact main
theorem pM2_s (hY : kY Y 112) (i0h : pM Y nn f b n fu 137 1 1) (ihh : pL Y nn f b n fu 136 7 2) : pM Y nn f b n (fu + 1) 136 2 2 := by
  intro D dp i l S M a r Q hg hdp hD h73 m74 hk hl hS hQ
  obtain ⟨a1, a2, a3, a4⟩ := y_73 hY (by omega)
  obtain ⟨D, rfl⟩ : ∃ k, D = k + 1 := ⟨D - 1, by omega⟩
  rw [rdP] at hg
  have main : vi_call GG D 137 [.inr (.inr 73), .inl (dp : Int)] (Y, M, nn) (fun r w' => vi_ok GG D 136 5 [some (.inr (.inr 73)), some (.inl (dp : Int)), none, none, none] r.toList w' Q) := by
    cases hr : rdP (tCd b n) (tVl b n) fu 1 dp i l a with
    | none => rw [hr] at hg; cases hg
    | some r0 =>
      obtain ⟨ok, i2, l2, c⟩ := r0
      refine i0h D dp i l S M a (ok, i2, l2, c) _ hr hdp (by omega) h73 m74 hk hl hS fun M2 hres => ?_
      rw [hr] at hg
      cases ok
      · dsimp only at hg
        cases hg
        have := pL7_f (nn := nn) hY (D := D) (M := M2) (x1 := (dp : Int)) (more := 0) (by omega) (l4 := none) (hQ M2 hres)
        clear hQ ihh i0h
        simp (disch := omega) only [Option.toList_some, Option.toList_none, List.nil_append, List.cons_append, List.append_nil, true_and, and_true, not_true_eq_false, not_false_eq_true, true_implies, false_implies, implies_true, and_self, Int.reduceLT, Int.reduceLE, Int.reduceEq, Int.reduceNe, Int.reduceAdd, Int.reduceSub, Int.reduceMul, Int.reduceNeg, Int.reduceToNat, Int.toNat_natCast, ↓kk_ck, ↓kk_im, ↓kk_in, s_136_0, s_136_15, s_136_19, s_136_28, s_136_37, s_136_46, s_136_51, s_136_53, s_136_79, s_136_5, s_136_25, s_136_34, s_136_43, s_136_59, s_136_64, s_136_72, vi_bf]
        exact this
      · dsimp only at hg
        obtain ⟨S2, hok2⟩ := pRes_ft hres
        have := ihh D dp i2 l2 S2 0 S l i M M2 c r none Q hg hdp (by omega) hok2 hS (by omega) (by rw [hok2.1 74 (by omega) (by omega)]; exact m74) (kS_c hk hok2.1) hQ
        clear hQ ihh i0h
        simp (disch := omega) only [Option.toList_some, Option.toList_none, List.nil_append, List.cons_append, List.append_nil, true_and, and_true, not_true_eq_false, not_false_eq_true, true_implies, false_implies, implies_true, and_self, Int.reduceLT, Int.reduceLE, Int.reduceEq, Int.reduceNe, Int.reduceAdd, Int.reduceSub, Int.reduceMul, Int.reduceNeg, Int.reduceToNat, Int.toNat_natCast, ↓kk_ck, ↓kk_im, ↓kk_in, s_136_0, s_136_15, s_136_19, s_136_28, s_136_37, s_136_46, s_136_51, s_136_53, s_136_79, s_136_5, s_136_25, s_136_34, s_136_43, s_136_59, s_136_64, s_136_72, vi_bt]
        exact this
  clear hQ ihh i0h hg
  simp (disch := omega) only [Option.toList_some, Option.toList_none, List.nil_append, List.cons_append, List.append_nil, true_and, and_true, not_true_eq_false, not_false_eq_true, true_implies, false_implies, implies_true, and_self, Int.reduceLT, Int.reduceLE, Int.reduceEq, Int.reduceNe, Int.reduceAdd, Int.reduceSub, Int.reduceMul, Int.reduceNeg, Int.reduceToNat, Int.toNat_natCast, ↓kk_ck, ↓kk_im, ↓kk_in, e_136, s_136_0, a1]
  exact main
/-- a PART -/
theorem pM0_s (hY : kY Y 112) (h400 : n ≤ 400) (hb : tOk b) (hf : f 3 = (n : Int)) (i2h : pM Y nn f b n fu 136 2 2) : pM Y nn f b n (fu + 1) 138 0 0 := by
  intro D dp i l S M a r Q hg hdp hD h73 m74 hk hl hS hQ
  obtain ⟨a1, a2, a3, a4⟩ := y_73 hY (by omega)
  obtain ⟨D, rfl⟩ : ∃ k, D = k + 1 := ⟨D - 1, by omega⟩
  have hlei := tI_le (b := b) (n := n) i
  have SB := fun {D : Nat} {K : Option vi_V → vi_W → Prop} (hD : 2 ≤ D) => @k_146' D K Y M nn n b f hY h400 hb m74 hf i S l h73 91 (by decide) 191 (by decide) hD
  have N := fun {D : Nat} {K : Option vi_V → vi_W → Prop} (hD : 3 ≤ D) => @k_143' D K Y M nn n b f hY h400 hb m74 hf i S l h73 hD
  have flM : pFl f b n M M i := ⟨fun _ _ _ => rfl, S, l, h73, by omega, hl⟩
  rw [rdP] at hg
  by_cases hc : tCd b n i = 191
  · rw [if_pos hc] at hg
    rw [decide_eq_true hc] at SB
    by_cases h8 : dp = 8
    · rw [if_pos h8] at hg
      cases hg
      have := hQ M (pRes_f flM)
      clear hQ i2h N
      subst h8
      simp (disch := omega) only [Option.toList_some, Option.toList_none, List.nil_append, List.cons_append, List.append_nil, true_and, and_true, not_true_eq_false, not_false_eq_true, true_implies, false_implies, implies_true, and_self, Int.reduceLT, Int.reduceLE, Int.reduceEq, Int.reduceNe, Int.reduceAdd, Int.reduceSub, Int.reduceMul, Int.reduceNeg, Int.reduceToNat, Int.toNat_natCast, ↓kk_ck, ↓kk_im, ↓kk_in, e_138, s_138_0, s_138_9, s_138_15, s_138_17, s_138_31, s_138_40, s_138_44, s_138_45, s_138_46, s_138_55, s_138_62, s_138_63, s_138_69, s_138_76, s_138_85, s_138_87, s_138_6, s_138_21, s_138_37, s_138_50, s_138_59, s_138_80, s_138_92, s_138_28, s_138_97, s_138_103, s_138_108, a1, SB, vi_bt]
      exact this
    · rw [if_neg h8] at hg
      have hin := tI_cd (b := b) (n := n) (i := i) (by omega)
      have his := tI_s hin
      have hle1 := tI_le (b := b) (n := n) (i + 1)
      generalize hM1 : vi_rs M 73 (rRow f b n (i + 1) S l) = M1 at *
      have m1 : M1 73 = rRow f b n (i + 1) S l := by rw [← hM1, vi_rs_s]
      have m174 : M1 74 = b := by rw [← hM1, vi_rs_o (by omega)]; exact m74
      have fr1 : pFr M M1 := by rw [← hM1]; exact pFr_73
      have main : vi_call GG D 136 [.inr (.inr 73), .inl ((dp + 1 : Nat) : Int)] (Y, M1, nn) (fun r w' => vi_ok GG D 138 28 [some (.inr (.inr 73)), some (.inl (dp : Int)), none, none] r.toList w' Q) := by
        cases hr : rdP (tCd b n) (tVl b n) fu 2 (dp + 1) (i + 1) l a with
        | none => rw [hr] at hg; cases hg
        | some r0 =>
          obtain ⟨ok, i2, l2, c⟩ := r0
          refine i2h D (dp + 1) (i + 1) l S M1 a (ok, i2, l2, c) _ hr (by omega) (by omega) m1 m174 (kS_c hk fr1) hl (by omega) fun M2 hres => ?_
          rw [hr] at hg
          cases ok
          · dsimp only at hg
            cases hg
            have := hQ M2 (pRes_f (pFl_t fr1 (pRes_ff hres)))
            clear hQ i2h N SB
            simp (disch := omega) only [Option.toList_some, Option.toList_none, List.nil_append, List.cons_append, List.append_nil, true_and, and_true, not_true_eq_false, not_false_eq_true, true_implies, false_implies, implies_true, and_self, Int.reduceLT, Int.reduceLE, Int.reduceEq, Int.reduceNe, Int.reduceAdd, Int.reduceSub, Int.reduceMul, Int.reduceNeg, Int.reduceToNat, Int.toNat_natCast, ↓kk_ck, ↓kk_im, ↓kk_in, s_138_0, s_138_9, s_138_15, s_138_17, s_138_31, s_138_40, s_138_44, s_138_45, s_138_46, s_138_55, s_138_62, s_138_63, s_138_69, s_138_76, s_138_85, s_138_87, s_138_6, s_138_21, s_138_37, s_138_50, s_138_59, s_138_80, s_138_92, s_138_28, s_138_97, s_138_103, s_138_108, vi_bf]
            exact this
          · dsimp only at hg
            obtain ⟨S2, hok2⟩ := pRes_ft hres
            have hS2 := pOk_le hok2 (by omega)
            have hle2 := tI_le (b := b) (n := n) i2
            have h274 : M2 74 = b := by rw [hok2.1 74 (by omega) (by omega)]; exact m174
            have P := fun {D : Nat} {K : Option vi_V → vi_W → Prop} (hD : 4 ≤ D) => @k_147' D K Y M2 nn n b f hY h400 hb h274 hf i2 S2 l2 hok2.2.1 93 (by decide) 193 (by decide) hD
            by_cases h93 : tCd b n i2 = 193
            · rw [if_pos h93] at hg
              rw [decide_eq_true h93, if_pos h93] at P
              cases hg
              have hin2 := tI_cd (b := b) (n := n) (i := i2) (by omega)
              have his2 := tI_s hin2
              have e75 : vi_rs M2 73 (rRow f b n (i2 + 1) S2 l2) 75 = M2 75 := vi_rs_o (by omega)
              obtain ⟨b1, b2, b3, b4, b5, b6, b7, b8, b9⟩ := hok2
              have := hQ (vi_rs M2 73 (rRow f b n (i2 + 1) S2 l2)) (pRes_t ⟨pFr_t fr1 (pFr_t b1 pFr_73), vi_rs_s, b3, b4, b5, by omega, fun x hx => by rw [e75, b7 x hx, ← hM1, vi_rs_o (by omega)], fun x x1 x2 => by rw [e75]; exact b8 x x1 x2, by rw [e75]; exact b9⟩)
              clear hQ i2h N SB b7 b8
              simp (disch := omega) only [Option.toList_some, Option.toList_none, List.nil_append, List.cons_append, List.append_nil, true_and, and_true, not_true_eq_false, not_false_eq_true, true_implies, false_implies, implies_true, and_self, Int.reduceLT, Int.reduceLE, Int.reduceEq, Int.reduceNe, Int.reduceAdd, Int.reduceSub, Int.reduceMul, Int.reduceNeg, Int.reduceToNat, Int.toNat_natCast, ↓kk_ck, ↓kk_im, ↓kk_in, s_138_0, s_138_9, s_138_15, s_138_17, s_138_31, s_138_40, s_138_44, s_138_45, s_138_46, s_138_55, s_138_62, s_138_63, s_138_69, s_138_76, s_138_85, s_138_87, s_138_6, s_138_21, s_138_37, s_138_50, s_138_59, s_138_80, s_138_92, s_138_28, s_138_97, s_138_103, s_138_108, a1, vi_bt, P]
              exact this
            · rw [if_neg h93] at hg
              rw [decide_eq_false h93, if_neg h93, vi_rs_id hok2.2.1] at P
              cases hg
              have := hQ M2 (pRes_f (pFl_t fr1 (pOk_fl hok2 (by omega) h400)))
              clear hQ i2h N SB
              simp (disch := omega) only [Option.toList_some, Option.toList_none, List.nil_append, List.cons_append, List.append_nil, true_and, and_true, not_true_eq_false, not_false_eq_true, true_implies, false_implies, implies_true, and_self, Int.reduceLT, Int.reduceLE, Int.reduceEq, Int.reduceNe, Int.reduceAdd, Int.reduceSub, Int.reduceMul, Int.reduceNeg, Int.reduceToNat, Int.toNat_natCast, ↓kk_ck, ↓kk_im, ↓kk_in, s_138_0, s_138_9, s_138_15, s_138_17, s_138_31, s_138_40, s_138_44, s_138_45, s_138_46, s_138_55, s_138_62, s_138_63, s_138_69, s_138_76, s_138_85, s_138_87, s_138_6, s_138_21, s_138_37, s_138_50, s_138_59, s_138_80, s_138_92, s_138_28, s_138_97, s_138_103, s_138_108, a1, vi_bt, vi_bf, P]
              exact this
      clear hQ i2h hg
      simp (disch := omega) only [Option.toList_some, Option.toList_none, List.nil_append, List.cons_append, List.append_nil, true_and, and_true, not_true_eq_false, not_false_eq_true, true_implies, false_implies, implies_true, and_self, Int.reduceLT, Int.reduceLE, Int.reduceEq, Int.reduceNe, Int.reduceAdd, Int.reduceSub, Int.reduceMul, Int.reduceNeg, Int.reduceToNat, Int.toNat_natCast, ↓kk_ck, ↓kk_im, ↓kk_in, e_138, s_138_0, s_138_9, s_138_15, s_138_17, s_138_31, s_138_40, s_138_44, s_138_45, s_138_46, s_138_55, s_138_62, s_138_63, s_138_69, s_138_76, s_138_85, s_138_87, s_138_6, s_138_21, s_138_37, s_138_50, s_138_59, s_138_80, s_138_92, s_138_28, s_138_97, s_138_103, s_138_108, a1, SB, vi_bt, N, vi_inc]
      exact main
  · rw [if_neg hc] at hg
    rw [decide_eq_false hc] at SB
    have KD := fun {D : Nat} {K : Option vi_V → vi_W → Prop} (hD : 6 ≤ D) => @k_139' D K Y M nn n b f hY hk h400 hb m74 hf i S l h73 hD
    have e6 : M 73 6 = (l : Int) := by rw [h73]; rfl
    have er : ∀ x : Nat, vi_u (M 73) 6 (x : Int) = rRow f b n i S x := fun x => by
      funext k
      rw [h73]
      unfold vi_u rRow
      by_cases h4 : k = 4
      · subst h4; rfl
      · by_cases h6 : k = 6
        · subst h6; rfl
        · simp only [if_neg h4, if_neg h6]
    -- the number, where it is one
    have num : ∃ x : Int, (tCd b n i = 50 → ((x = tVl b n i ∧ tVl b n i ≤ 1000) ∨ (1000 < x ∧ 1000 < tVl b n i)) ∧ 0 ≤ x ∧ x ≤ 10009) ∧ (tCd b n i ≠ 50 → x = 0) ∧ ∀ {D : Nat} {K : Option vi_V → vi_W → Prop}, tCd b n i = 50 → 2 ≤ D → (vi_call GG D 140 [.inr (.inr 73)] (Y, M, nn) K ↔ K (some (.inl x)) (Y, M, nn)) := by
      by_cases h50 : tCd b n i = 50
      · obtain ⟨v, v1, v2, v3, -⟩ := k_140' (D := 2) (nn := nn) hY h400 hb m74 hf h73 h50 (by omega)
        refine ⟨nV b (tE b n (tI b n i) - tI b n i) (tI b n i) 0, fun _ => ?_, fun h => absurd h50 h, fun {D K} _ hD => ?_⟩
        · have hd := tE_d (tCd_50.mp h50)
          have hv : tVl b n i = tV b (tE b n (tI b n i) - tI b n i) (tI b n i) 0 := by unfold tVl; rw [if_pos (tCd_50.mp h50)]
          rw [hv]
          exact ⟨nV_tV hb _ _ 0 hd (by omega), (nV_b _ _ 0 hd (by omega) (by omega)).1, (nV_b _ _ 0 hd (by omega) (by omega)).2⟩
        · obtain ⟨D, rfl⟩ : ∃ k, D = k + 2 := ⟨D - 2, by omega⟩
          exact k_140n hY h400 hb m74 hf h73 h50
      · exact ⟨0, fun h => absurd h h50, fun _ => rfl, fun {D K} h => absurd h h50⟩
    obtain ⟨x, x1, x2, x3⟩ := num
    by_cases hw : (tCd b n i = 50 ∧ tVl b n i ≤ 1000) ∨ (8 ≤ tCd b n i ∧ tCd b n i ≤ 13)
    · rw [if_pos hw] at hg
      have hx : x = if tCd b n i = 50 then tVl b n i else 0 := by
        by_cases h50 : tCd b n i = 50
        · rw [if_pos h50]
          have := (x1 h50).1
          omega
        · rw [if_neg h50]; exact x2 h50
      have hx0 : 0 ≤ x ∧ x ≤ 1000 := by
        by_cases h50 : tCd b n i = 50
        · have := x1 h50
          omega
        · have := x2 h50
          omega
      have hkd : 0 ≤ pKd (tCd b n i) ∧ pKd (tCd b n i) ≤ 6 ∧ (pKd (tCd b n i) = 0 ↔ tCd b n i = 50) := by
        unfold pKd
        rcases hw with h | h
        · rw [if_pos h.1]; omega
        · rw [if_neg (by omega), if_pos h]; omega
      have hin := tI_cd (b := b) (n := n) (i := i) (by omega)
      have his := tI_s hin
      by_cases hl50 : l = 50
      · rw [if_pos hl50] at hg
        cases hg
        have := hQ M (pRes_f flM)
        clear hQ i2h N
        subst hl50
        by_cases h50 : tCd b n i = 50
        · have X3 := fun {D : Nat} {K : Option vi_V → vi_W → Prop} (hD : 2 ≤ D) => @x3 D K h50 hD
          generalize pKd (tCd b n i) = kd at *
          obtain rfl : kd = 0 := hkd.2.2.mpr h50
          simp (disch := omega) only [Option.toList_some, Option.toList_none, List.nil_append, List.cons_append, List.append_nil, true_and, and_true, not_true_eq_false, not_false_eq_true, true_implies, false_implies, implies_true, and_self, Int.reduceLT, Int.reduceLE, Int.reduceEq, Int.reduceNe, Int.reduceAdd, Int.reduceSub, Int.reduceMul, Int.reduceNeg, Int.reduceToNat, Int.toNat_natCast, ↓kk_ck, ↓kk_im, ↓kk_in, e_138, s_138_0, s_138_9, s_138_15, s_138_17, s_138_31, s_138_40, s_138_44, s_138_45, s_138_46, s_138_55, s_138_62, s_138_63, s_138_69, s_138_76, s_138_85, s_138_87, s_138_6, s_138_21, s_138_37, s_138_50, s_138_59, s_138_80, s_138_92, s_138_28, s_138_97, s_138_103, s_138_108, a1, SB, vi_bf, KD, X3, ne_eq, e6]
          exact this
        · have hx2 := x2 h50
          subst hx2
          generalize pKd (tCd b n i) = kd at *
          have hk0 : ¬ kd = 0 := fun k => h50 (hkd.2.2.mp k)
          simp (disch := omega) only [Option.toList_some, Option.toList_none, List.nil_append, List.cons_append, List.append_nil, true_and, and_true, not_true_eq_false, not_false_eq_true, true_implies, false_implies, implies_true, and_self, Int.reduceLT, Int.reduceLE, Int.reduceEq, Int.reduceNe, Int.reduceAdd, Int.reduceSub, Int.reduceMul, Int.reduceNeg, Int.reduceToNat, Int.toNat_natCast, ↓kk_ck, ↓kk_im, ↓kk_in, e_138, s_138_0, s_138_9, s_138_15, s_138_17, s_138_31, s_138_40, s_138_44, s_138_45, s_138_46, s_138_55, s_138_62, s_138_63, s_138_69, s_138_76, s_138_85, s_138_87, s_138_6, s_138_21, s_138_37, s_138_50, s_138_59, s_138_80, s_138_92, s_138_28, s_138_97, s_138_103, s_138_108, a1, SB, vi_bf, KD, ne_eq, e6]
          exact this
      · rw [if_neg hl50] at hg
        cases hg
        have hp := pOk_1 (x := x) h73 (by omega) his hw hx hx0
        have := hQ _ (pRes_t hp)
        have mm : vi_rs M 73 (rRow f b n i S (l + 1)) 73 = rRow f b n i S (l + 1) := vi_rs_s
        have A := fun {D : Nat} {K : Option vi_V → vi_W → Prop} {k : Int} (hk : 0 ≤ k ∧ k < 256) (hD : 1 ≤ D) => @k_141' D K Y _ nn n b f hY i S (l + 1) mm (by omega) k x hk (by omega) hD
        have e75 : vi_rs M 73 (rRow f b n i S (l + 1)) 75 = M 75 := vi_rs_o (by omega)
        simp only [e75] at A
        have N2 := fun {D : Nat} {K : Option vi_V → vi_W → Prop} {g : Nat → Int} (hD : 3 ≤ D) => @k_143' D K Y (vi_rs (vi_rs (vi_rs M 73 (rRow f b n i S (l + 1))) 75 g) 73 (rRow f b n i (S + 1) (l + 1))) nn n b f hY h400 hb (by rw [vi_rs_o (by omega), vi_rs_o (by omega), vi_rs_o (by omega)]; exact m74) hf i (S + 1) (l + 1) vi_rs_s hD
        have er1 := er (l + 1)
        clear hQ i2h N hp er
        by_cases h50 : tCd b n i = 50
        · have X3 := fun {D : Nat} {K : Option vi_V → vi_W → Prop} (hD : 2 ≤ D) => @x3 D K h50 hD
          generalize pKd (tCd b n i) = kd at *
          obtain rfl : kd = 0 := hkd.2.2.mpr h50
          have A0 := fun {D : Nat} {K : Option vi_V → vi_W → Prop} (hD : 1 ≤ D) => @A D K 0 (by omega) hD
          simp (disch := omega) only [Option.toList_some, Option.toList_none, List.nil_append, List.cons_append, List.append_nil, true_and, and_true, not_true_eq_false, not_false_eq_true, true_implies, false_implies, implies_true, and_self, Int.reduceLT, Int.reduceLE, Int.reduceEq, Int.reduceNe, Int.reduceAdd, Int.reduceSub, Int.reduceMul, Int.reduceNeg, Int.reduceToNat, Int.toNat_natCast, ↓kk_ck, ↓kk_im, ↓kk_in, e_138, s_138_0, s_138_9, s_138_15, s_138_17, s_138_31, s_138_40, s_138_44, s_138_45, s_138_46, s_138_55, s_138_62, s_138_63, s_138_69, s_138_76, s_138_85, s_138_87, s_138_6, s_138_21, s_138_37, s_138_50, s_138_59, s_138_80, s_138_92, s_138_28, s_138_97, s_138_103, s_138_108, a1, SB, vi_bf, KD, X3, ne_eq, e6, vi_ms_rs, vi_inc, er1, A0, N2]
          exact this
        · have hx2 := x2 h50
          subst hx2
          generalize pKd (tCd b n i) = kd at *
          have hk0 : ¬ kd = 0 := fun k => h50 (hkd.2.2.mp k)
          have A0 := fun {D : Nat} {K : Option vi_V → vi_W → Prop} (hD : 1 ≤ D) => @A D K kd (by omega) hD
          simp (disch := omega) only [Option.toList_some, Option.toList_none, List.nil_append, List.cons_append, List.append_nil, true_and, and_true, not_true_eq_false, not_false_eq_true, true_implies, false_implies, implies_true, and_self, Int.reduceLT, Int.reduceLE, Int.reduceEq, Int.reduceNe, Int.reduceAdd, Int.reduceSub, Int.reduceMul, Int.reduceNeg, Int.reduceToNat, Int.toNat_natCast, ↓kk_ck, ↓kk_im, ↓kk_in, e_138, s_138_0, s_138_9, s_138_15, s_138_17, s_138_31, s_138_40, s_138_44, s_138_45, s_138_46, s_138_55, s_138_62, s_138_63, s_138_69, s_138_76, s_138_85, s_138_87, s_138_6, s_138_21, s_138_37, s_138_50, s_138_59, s_138_80, s_138_92, s_138_28, s_138_97, s_138_103, s_138_108, a1, SB, vi_bf, KD, ne_eq, e6, vi_ms_rs, vi_inc, er1, A0, N2]
          exact this
    · rw [if_neg hw] at hg
      cases hg
      have := hQ M (pRes_f flM)
      clear hQ i2h N
      by_cases h50 : tCd b n i = 50
      · have X3 := fun {D : Nat} {K : Option vi_V → vi_W → Prop} (hD : 2 ≤ D) => @x3 D K h50 hD
        have hx1 := (x1 h50).1
        have hbig : 1000 < x := by
          rcases hx1 with h | h
          · exact absurd (.inl ⟨h50, h.2⟩) hw
          · exact h.1
        have hkd : pKd (tCd b n i) = 0 := by unfold pKd; rw [if_pos h50]
        rw [hkd] at KD
        simp (disch := omega) only [Option.toList_some, Option.toList_none, List.nil_append, List.cons_append, List.append_nil, true_and, and_true, not_true_eq_false, not_false_eq_true, true_implies, false_implies, implies_true, and_self, Int.reduceLT, Int.reduceLE, Int.reduceEq, Int.reduceNe, Int.reduceAdd, Int.reduceSub, Int.reduceMul, Int.reduceNeg, Int.reduceToNat, Int.toNat_natCast, ↓kk_ck, ↓kk_im, ↓kk_in, e_138, s_138_0, s_138_9, s_138_15, s_138_17, s_138_31, s_138_40, s_138_44, s_138_45, s_138_46, s_138_55, s_138_62, s_138_63, s_138_69, s_138_76, s_138_85, s_138_87, s_138_6, s_138_21, s_138_37, s_138_50, s_138_59, s_138_80, s_138_92, s_138_28, s_138_97, s_138_103, s_138_108, a1, SB, vi_bf, KD, X3, ne_eq]
        exact this
      · have hkd : pKd (tCd b n i) = -1 := by
          unfold pKd
          rw [if_neg h50, if_neg (fun k => hw (.inr k))]
        rw [hkd] at KD
        simp (disch := omega) only [Option.toList_some, Option.toList_none, List.nil_append, List.cons_append, List.append_nil, true_and, and_true, not_true_eq_false, not_false_eq_true, true_implies, false_implies, implies_true, and_self, Int.reduceLT, Int.reduceLE, Int.reduceEq, Int.reduceNe, Int.reduceAdd, Int.reduceSub, Int.reduceMul, Int.reduceNeg, Int.reduceToNat, Int.toNat_natCast, ↓kk_ck, ↓kk_im, ↓kk_in, e_138, s_138_0, s_138_9, s_138_15, s_138_17, s_138_31, s_138_40, s_138_44, s_138_45, s_138_46, s_138_55, s_138_62, s_138_63, s_138_69, s_138_76, s_138_85, s_138_87, s_138_6, s_138_21, s_138_37, s_138_50, s_138_59, s_138_80, s_138_92, s_138_28, s_138_97, s_138_103, s_138_108, a1, SB, vi_bf, KD, ne_eq]
        exact this
end
