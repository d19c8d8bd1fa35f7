/-! Contracts of Reader, fifth part: BOTH, TEST, PLAIN. -/
section
variable {Y : vi_Y} {nn : Nat × Nat} {n fu : Nat} {b f : Nat → Int}
theorem pOk_b {M M1 M2 : vi_M} {S l i i1 S2 l2 i2 : Nat} {a : gDen} (h : pOk f b n M1 S l i1 M2 S2 l2 i2 a) (hf : pFr M M1) (h75 : M1 75 = M 75) (hi : tI b n i ≤ tI b n i1) : pOk f b n M S l i M2 S2 l2 i2 a := by
  obtain ⟨a1, a2, a3, a4, a5, a6, a7, a8, a9⟩ := h
  exact ⟨pFr_t hf a1, a2, a3, a4, a5, by omega, fun x hx => by rw [a7 x hx, h75], a8, a9⟩
theorem pJ8_f (hY : kY Y 112) {D : Nat} (hD : 1 ≤ D) {M M0 : vi_M} {i : Nat} (hfl : pFl f b n M0 M i) {x1 y : Int} (hy : 0 ≤ y ∧ y ≤ 401) {more : Nat} (hm : more ≤ 400) {Q : Option vi_V → vi_W → Prop} (hQ : ∀ M', pFl f b n M0 M' i → Q (some (.inl 0)) (Y, M', nn)) : vi_ok GG D 132 11 [some (.inr (.inr 73)), some (.inl x1), some (.inl 0), some (.inl y), some (.inl (more : Int))] [] (Y, M, nn) Q := by
  obtain ⟨a1, a2, a3, a4⟩ := y_73 hY (by omega)
  obtain ⟨M', hfl', hK⟩ := k_142f (D := D) (nn := nn) hY hfl (x := y) (by omega) hD
  have := hQ M' hfl'
  clear hQ
  rw [s_132_11]
  by_cases h : 400 ≤ more
  · simp (disch := omega) only [Option.toList_some, Option.toList_none, List.nil_append, List.cons_append, List.append_nil, true_and, and_true, not_true_eq_false, not_false_eq_true, true_implies, false_implies, implies_true, and_self, Int.reduceLT, Int.reduceLE, Int.reduceEq, Int.reduceNe, Int.reduceAdd, Int.reduceSub, Int.reduceMul, Int.reduceNeg, Int.reduceToNat, Int.toNat_natCast, ↓kk_ck, ↓kk_im, ↓kk_in, s_132_0, s_132_19, s_132_23, s_132_32, s_132_56, s_132_5, s_132_29, s_132_39, s_132_61, s_132_44, s_132_49, a1, hK]
    exact this
  · simp (disch := omega) only [Option.toList_some, Option.toList_none, List.nil_append, List.cons_append, List.append_nil, true_and, and_true, not_true_eq_false, not_false_eq_true, true_implies, false_implies, implies_true, and_self, Int.reduceLT, Int.reduceLE, Int.reduceEq, Int.reduceNe, Int.reduceAdd, Int.reduceSub, Int.reduceMul, Int.reduceNeg, Int.reduceToNat, Int.toNat_natCast, ↓kk_ck, ↓kk_im, ↓kk_in, s_132_0, s_132_19, s_132_23, s_132_32, s_132_56, s_132_5, s_132_29, s_132_39, s_132_61, s_132_44, s_132_49, a1, hK]
    exact this
theorem pJ8_s (hY : kY Y 112) (h400 : n ≤ 400) (hb : tOk b) (hf : f 3 = (n : Int)) (i0h : pM Y nn f b n fu 133 3 6) (ihh : pJ Y nn f b n fu 132 8 7 0) : pJ Y nn f b n (fu + 1) 132 8 7 0 := by
  intro D dp i l S more S0 l0 i0 M0 M a J y r Q hg hdp hD hok h0 hmore m74 hk hQ
  obtain ⟨a1, a2, a3, a4⟩ := y_73 hY (by omega)
  have h73 := hok.2.1
  have hSi := pCh_le hok h0
  have hy := pCh_y hok
  have hlei := tI_le (b := b) (n := n) i
  have W := fun {D : Nat} {K : Option vi_V → vi_W → Prop} (hD : 5 ≤ D) => @k_145' D K Y M nn n b f hY hk h400 hb m74 hf i S l h73 11 6 (by omega) (by decide) 13 (by omega) hD
  rw [rdP] at hg
  by_cases hc : tCd b n i = 6
  · rw [if_pos hc] at hg
    rw [decide_eq_true hc] at W
    have hin := tI_cd (b := b) (n := n) (i := i) (by omega)
    have his := tI_s hin
    have hle1 := tI_le (b := b) (n := n) (i + 1)
    have A := fun {D : Nat} {K : Option vi_V → vi_W → Prop} (hD : 1 ≤ D) => @k_141' D K Y M nn n b f hY i S l h73 (by omega) 15 y (by omega) (by omega) hD
    generalize hM1 : vi_rs (vi_rs M 75 (vi_u (M 75) S (15 + 256 * y))) 73 (rRow f b n i (S + 1) l) = M1 at *
    have m1 : M1 73 = rRow f b n i (S + 1) l := by rw [← hM1, vi_rs_s]
    have fr1 : pFr M M1 := by rw [← hM1]; exact pFr_t pFr_75 pFr_73
    have m174 : M1 74 = b := by rw [fr1 74 (by omega) (by omega)]; exact m74
    have N := fun {D : Nat} {K : Option vi_V → vi_W → Prop} (hD : 3 ≤ D) => @k_143' D K Y M1 nn n b f hY h400 hb m174 hf i (S + 1) l m1 hD
    generalize hM2 : vi_rs M1 73 (rRow f b n (i + 1) (S + 1) l) = M2 at *
    have m2 : M2 73 = rRow f b n (i + 1) (S + 1) l := by rw [← hM2, vi_rs_s]
    have fr2 : pFr M1 M2 := by rw [← hM2]; exact pFr_73
    have m274 : M2 74 = b := by rw [fr2 74 (by omega) (by omega)]; exact m174
    have cont : vi_call GG D 133 [.inr (.inr 73), .inl (dp : Int)] (Y, M2, nn) (fun r w' => vi_ok GG D 132 49 [some (.inr (.inr 73)), some (.inl (dp : Int)), some (.inl 1), some (.inl ((S + 1 : Nat) : Int)), some (.inl (more : Int))] r.toList w' Q) := by
      cases hr : rdP (tCd b n) (tVl b n) fu 3 dp (i + 1) l a with
      | none => rw [hr] at hg; cases hg
      | some r0 =>
        obtain ⟨ok, i2, l2, c⟩ := r0
        refine i0h D dp (i + 1) l (S + 1) M2 a (ok, i2, l2, c) _ hr hdp (by omega) m2 m274 (kS_c (kS_c hk fr1) fr2) hok.2.2.1 (by omega) fun M3 hres => ?_
        rw [hr] at hg
        cases ok
        · dsimp only at hg
          cases hg
          have hfl := pRes_ff hres
          have := pJ8_f (nn := nn) hY (D := D) (by omega) (pFl_t (pFr_t (pFr_t hok.1 fr1) fr2) hfl) (x1 := (dp : Int)) (y := ((S + 1 : Nat) : Int)) (by omega) (more := more + 1) (by omega) (Q := Q) (fun M' h => hQ M' (pRes_f h))
          clear hQ ihh i0h W A N
          simp (disch := omega) only [Option.toList_some, Option.toList_none, List.nil_append, List.cons_append, List.append_nil, true_and, and_true, not_true_eq_false, not_false_eq_true, true_implies, false_implies, implies_true, and_self, Int.reduceLT, Int.reduceLE, Int.reduceEq, Int.reduceNe, Int.reduceAdd, Int.reduceSub, Int.reduceMul, Int.reduceNeg, Int.reduceToNat, Int.toNat_natCast, ↓kk_ck, ↓kk_im, ↓kk_in, s_132_0, s_132_19, s_132_23, s_132_32, s_132_56, s_132_5, s_132_29, s_132_39, s_132_61, s_132_44, s_132_49, vi_bf, vi_inc]
          exact this
        · dsimp only at hg
          obtain ⟨S2, hok2⟩ := pRes_ft hres
          have hj := pCh_j (key := 0) (ks := 15) hok his (by omega) (by omega) (by rw [hM1, hM2]; exact hok2)
          have h6 := hok2.2.2.2.2.2.1
          have h5 := hok2.2.2.2.1
          have := ihh D dp i2 l2 S2 (more + 1) S0 l0 i0 M0 M3 (dA 0 a c) (S :: J) ((S : Int) + 1) r Q hg hdp hD hj h0 (by omega) (by rw [hok2.1 74 (by omega) (by omega)]; exact m274) (kS_c (kS_c (kS_c hk fr1) fr2) hok2.1) hQ
          rw [← Int.natCast_succ] at this
          clear hQ ihh i0h W A N hj
          simp (disch := omega) only [Option.toList_some, Option.toList_none, List.nil_append, List.cons_append, List.append_nil, true_and, and_true, not_true_eq_false, not_false_eq_true, true_implies, false_implies, implies_true, and_self, Int.reduceLT, Int.reduceLE, Int.reduceEq, Int.reduceNe, Int.reduceAdd, Int.reduceSub, Int.reduceMul, Int.reduceNeg, Int.reduceToNat, Int.toNat_natCast, ↓kk_ck, ↓kk_im, ↓kk_in, s_132_0, s_132_19, s_132_23, s_132_32, s_132_56, s_132_5, s_132_29, s_132_39, s_132_61, s_132_44, s_132_49, vi_bt, vi_inc]
          exact this
    rw [s_132_11]
    clear hQ ihh i0h hg
    simp (disch := omega) only [Option.toList_some, Option.toList_none, List.nil_append, List.cons_append, List.append_nil, true_and, and_true, not_true_eq_false, not_false_eq_true, true_implies, false_implies, implies_true, and_self, Int.reduceLT, Int.reduceLE, Int.reduceEq, Int.reduceNe, Int.reduceAdd, Int.reduceSub, Int.reduceMul, Int.reduceNeg, Int.reduceToNat, Int.toNat_natCast, ↓kk_ck, ↓kk_im, ↓kk_in, s_132_0, s_132_19, s_132_23, s_132_32, s_132_56, s_132_5, s_132_29, s_132_39, s_132_61, s_132_44, s_132_49, a1, W, vi_bt, A, N]
    exact cont
  · rw [if_neg hc] at hg
    cases hg
    rw [decide_eq_false hc] at W
    have he := pCh_e hok (by omega)
    have := hQ _ (pRes_t he)
    obtain ⟨-, -, -, -, -, -, -, a8', a9', a10', -⟩ := hok
    have A := fun {D : Nat} {K : Option vi_V → vi_W → Prop} (hD : 1 ≤ D) => @k_142' D K Y M nn n b f hY i S l h73 (by omega) J y a9' (fun j hj => (a10' j hj).2) (fun j hj => a8' j (a10' j hj).1 (a10' j hj).2) hD
    rw [s_132_11]
    clear hQ ihh i0h he a8' a9' a10'
    by_cases hm : 400 ≤ more
    · simp (disch := omega) only [Option.toList_some, Option.toList_none, List.nil_append, List.cons_append, List.append_nil, true_and, and_true, not_true_eq_false, not_false_eq_true, true_implies, false_implies, implies_true, and_self, Int.reduceLT, Int.reduceLE, Int.reduceEq, Int.reduceNe, Int.reduceAdd, Int.reduceSub, Int.reduceMul, Int.reduceNeg, Int.reduceToNat, Int.toNat_natCast, ↓kk_ck, ↓kk_im, ↓kk_in, s_132_0, s_132_19, s_132_23, s_132_32, s_132_56, s_132_5, s_132_29, s_132_39, s_132_61, s_132_44, s_132_49, a1, A]
      exact this
    · simp (disch := omega) only [Option.toList_some, Option.toList_none, List.nil_append, List.cons_append, List.append_nil, true_and, and_true, not_true_eq_false, not_false_eq_true, true_implies, false_implies, implies_true, and_self, Int.reduceLT, Int.reduceLE, Int.reduceEq, Int.reduceNe, Int.reduceAdd, Int.reduceSub, Int.reduceMul, Int.reduceNeg, Int.reduceToNat, Int.toNat_natCast, ↓kk_ck, ↓kk_im, ↓kk_in, s_132_0, s_132_19, s_132_23, s_132_32, s_132_56, s_132_5, s_132_29, s_132_39, s_132_61, s_132_44, s_132_49, a1, W, vi_bf, A]
      exact this
theorem pM4_s (hY : kY Y 112) (i0h : pM Y nn f b n fu 133 3 6) (ihh : pJ Y nn f b n fu 132 8 7 0) : pM Y nn f b n (fu + 1) 132 4 7 := by
  intro D dp i l S M a r Q hg hdp hD h73 m74 hk hl hS hQ
  obtain ⟨a1, a2, a3, a4⟩ := y_73 hY (by omega)
  obtain ⟨D, rfl⟩ : ∃ k, D = k + 1 := ⟨D - 1, by omega⟩
  rw [rdP] at hg
  have main : vi_call GG D 133 [.inr (.inr 73), .inl (dp : Int)] (Y, M, nn) (fun r w' => vi_ok GG D 132 5 [some (.inr (.inr 73)), some (.inl (dp : Int)), none, none, none] r.toList w' Q) := by
    cases hr : rdP (tCd b n) (tVl b n) fu 3 dp i l a with
    | none => rw [hr] at hg; cases hg
    | some r0 =>
      obtain ⟨ok, i2, l2, c⟩ := r0
      refine i0h D dp i l S M a (ok, i2, l2, c) _ hr hdp (by omega) h73 m74 hk hl hS fun M2 hres => ?_
      rw [hr] at hg
      cases ok
      · dsimp only at hg
        cases hg
        have := pJ8_f (nn := nn) hY (D := D) (by omega) (pRes_ff hres) (x1 := (dp : Int)) (y := 0) (by omega) (more := 0) (by omega) (Q := Q) (fun M' h => hQ M' (pRes_f h))
        clear hQ ihh i0h
        simp (disch := omega) only [Option.toList_some, Option.toList_none, List.nil_append, List.cons_append, List.append_nil, true_and, and_true, not_true_eq_false, not_false_eq_true, true_implies, false_implies, implies_true, and_self, Int.reduceLT, Int.reduceLE, Int.reduceEq, Int.reduceNe, Int.reduceAdd, Int.reduceSub, Int.reduceMul, Int.reduceNeg, Int.reduceToNat, Int.toNat_natCast, ↓kk_ck, ↓kk_im, ↓kk_in, s_132_0, s_132_19, s_132_23, s_132_32, s_132_56, s_132_5, s_132_29, s_132_39, s_132_61, s_132_44, s_132_49, vi_bf]
        exact this
      · dsimp only at hg
        obtain ⟨S2, hok2⟩ := pRes_ft hres
        have := ihh D dp i2 l2 S2 0 S l i M M2 c [] 0 r Q hg hdp (by omega) (pCh_of hok2) hS (by omega) (by rw [hok2.1 74 (by omega) (by omega)]; exact m74) (kS_c hk hok2.1) hQ
        clear hQ ihh i0h
        simp (disch := omega) only [Option.toList_some, Option.toList_none, List.nil_append, List.cons_append, List.append_nil, true_and, and_true, not_true_eq_false, not_false_eq_true, true_implies, false_implies, implies_true, and_self, Int.reduceLT, Int.reduceLE, Int.reduceEq, Int.reduceNe, Int.reduceAdd, Int.reduceSub, Int.reduceMul, Int.reduceNeg, Int.reduceToNat, Int.toNat_natCast, ↓kk_ck, ↓kk_im, ↓kk_in, s_132_0, s_132_19, s_132_23, s_132_32, s_132_56, s_132_5, s_132_29, s_132_39, s_132_61, s_132_44, s_132_49, vi_bt]
        exact this
  clear hQ ihh i0h hg
  simp (disch := omega) only [Option.toList_some, Option.toList_none, List.nil_append, List.cons_append, List.append_nil, true_and, and_true, not_true_eq_false, not_false_eq_true, true_implies, false_implies, implies_true, and_self, Int.reduceLT, Int.reduceLE, Int.reduceEq, Int.reduceNe, Int.reduceAdd, Int.reduceSub, Int.reduceMul, Int.reduceNeg, Int.reduceToNat, Int.toNat_natCast, ↓kk_ck, ↓kk_im, ↓kk_in, e_132, s_132_0, a1]
  exact main
theorem pJ9_f (hY : kY Y 112) {D : Nat} (hD : 1 ≤ D) {M M0 : vi_M} {i : Nat} (hfl : pFl f b n M0 M i) {x1 y : Int} (hy : 0 ≤ y ∧ y ≤ 401) {more : Nat} (hm : more ≤ 400) {Q : Option vi_V → vi_W → Prop} (hQ : ∀ M', pFl f b n M0 M' i → Q (some (.inl 0)) (Y, M', nn)) : vi_ok GG D 131 11 [some (.inr (.inr 73)), some (.inl x1), some (.inl 0), some (.inl y), some (.inl (more : Int))] [] (Y, M, nn) Q := by
  obtain ⟨a1, a2, a3, a4⟩ := y_73 hY (by omega)
  obtain ⟨M', hfl', hK⟩ := k_142f (D := D) (nn := nn) hY hfl (x := y) (by omega) hD
  have := hQ M' hfl'
  clear hQ
  rw [s_131_11]
  by_cases h : 400 ≤ more
  · simp (disch := omega) only [Option.toList_some, Option.toList_none, List.nil_append, List.cons_append, List.append_nil, true_and, and_true, not_true_eq_false, not_false_eq_true, true_implies, false_implies, implies_true, and_self, Int.reduceLT, Int.reduceLE, Int.reduceEq, Int.reduceNe, Int.reduceAdd, Int.reduceSub, Int.reduceMul, Int.reduceNeg, Int.reduceToNat, Int.toNat_natCast, ↓kk_ck, ↓kk_im, ↓kk_in, s_131_0, s_131_19, s_131_23, s_131_32, s_131_56, s_131_5, s_131_29, s_131_39, s_131_61, s_131_44, s_131_49, a1, hK]
    exact this
  · simp (disch := omega) only [Option.toList_some, Option.toList_none, List.nil_append, List.cons_append, List.append_nil, true_and, and_true, not_true_eq_false, not_false_eq_true, true_implies, false_implies, implies_true, and_self, Int.reduceLT, Int.reduceLE, Int.reduceEq, Int.reduceNe, Int.reduceAdd, Int.reduceSub, Int.reduceMul, Int.reduceNeg, Int.reduceToNat, Int.toNat_natCast, ↓kk_ck, ↓kk_im, ↓kk_in, s_131_0, s_131_19, s_131_23, s_131_32, s_131_56, s_131_5, s_131_29, s_131_39, s_131_61, s_131_44, s_131_49, a1, hK]
    exact this
theorem pJ9_s (hY : kY Y 112) (h400 : n ≤ 400) (hb : tOk b) (hf : f 3 = (n : Int)) (i0h : pM Y nn f b n fu 132 4 7) (ihh : pJ Y nn f b n fu 131 9 8 1) : pJ Y nn f b n (fu + 1) 131 9 8 1 := by
  intro D dp i l S more S0 l0 i0 M0 M a J y r Q hg hdp hD hok h0 hmore m74 hk hQ
  obtain ⟨a1, a2, a3, a4⟩ := y_73 hY (by omega)
  have h73 := hok.2.1
  have hSi := pCh_le hok h0
  have hy := pCh_y hok
  have hlei := tI_le (b := b) (n := n) i
  have W := fun {D : Nat} {K : Option vi_V → vi_W → Prop} (hD : 5 ≤ D) => @k_145' D K Y M nn n b f hY hk h400 hb m74 hf i S l h73 12 5 (by omega) (by decide) 14 (by omega) hD
  rw [rdP] at hg
  by_cases hc : tCd b n i = 5
  · rw [if_pos hc] at hg
    rw [decide_eq_true hc] at W
    have hin := tI_cd (b := b) (n := n) (i := i) (by omega)
    have his := tI_s hin
    have hle1 := tI_le (b := b) (n := n) (i + 1)
    have A := fun {D : Nat} {K : Option vi_V → vi_W → Prop} (hD : 1 ≤ D) => @k_141' D K Y M nn n b f hY i S l h73 (by omega) 16 y (by omega) (by omega) hD
    generalize hM1 : vi_rs (vi_rs M 75 (vi_u (M 75) S (16 + 256 * y))) 73 (rRow f b n i (S + 1) l) = M1 at *
    have m1 : M1 73 = rRow f b n i (S + 1) l := by rw [← hM1, vi_rs_s]
    have fr1 : pFr M M1 := by rw [← hM1]; exact pFr_t pFr_75 pFr_73
    have m174 : M1 74 = b := by rw [fr1 74 (by omega) (by omega)]; exact m74
    have N := fun {D : Nat} {K : Option vi_V → vi_W → Prop} (hD : 3 ≤ D) => @k_143' D K Y M1 nn n b f hY h400 hb m174 hf i (S + 1) l m1 hD
    generalize hM2 : vi_rs M1 73 (rRow f b n (i + 1) (S + 1) l) = M2 at *
    have m2 : M2 73 = rRow f b n (i + 1) (S + 1) l := by rw [← hM2, vi_rs_s]
    have fr2 : pFr M1 M2 := by rw [← hM2]; exact pFr_73
    have m274 : M2 74 = b := by rw [fr2 74 (by omega) (by omega)]; exact m174
    have cont : vi_call GG D 132 [.inr (.inr 73), .inl (dp : Int)] (Y, M2, nn) (fun r w' => vi_ok GG D 131 49 [some (.inr (.inr 73)), some (.inl (dp : Int)), some (.inl 1), some (.inl ((S + 1 : Nat) : Int)), some (.inl (more : Int))] r.toList w' Q) := by
      cases hr : rdP (tCd b n) (tVl b n) fu 4 dp (i + 1) l a with
      | none => rw [hr] at hg; cases hg
      | some r0 =>
        obtain ⟨ok, i2, l2, c⟩ := r0
        refine i0h D dp (i + 1) l (S + 1) M2 a (ok, i2, l2, c) _ hr hdp (by omega) m2 m274 (kS_c (kS_c hk fr1) fr2) hok.2.2.1 (by omega) fun M3 hres => ?_
        rw [hr] at hg
        cases ok
        · dsimp only at hg
          cases hg
          have hfl := pRes_ff hres
          have := pJ9_f (nn := nn) hY (D := D) (by omega) (pFl_t (pFr_t (pFr_t hok.1 fr1) fr2) hfl) (x1 := (dp : Int)) (y := ((S + 1 : Nat) : Int)) (by omega) (more := more + 1) (by omega) (Q := Q) (fun M' h => hQ M' (pRes_f h))
          clear hQ ihh i0h W A N
          simp (disch := omega) only [Option.toList_some, Option.toList_none, List.nil_append, List.cons_append, List.append_nil, true_and, and_true, not_true_eq_false, not_false_eq_true, true_implies, false_implies, implies_true, and_self, Int.reduceLT, Int.reduceLE, Int.reduceEq, Int.reduceNe, Int.reduceAdd, Int.reduceSub, Int.reduceMul, Int.reduceNeg, Int.reduceToNat, Int.toNat_natCast, ↓kk_ck, ↓kk_im, ↓kk_in, s_131_0, s_131_19, s_131_23, s_131_32, s_131_56, s_131_5, s_131_29, s_131_39, s_131_61, s_131_44, s_131_49, vi_bf, vi_inc]
          exact this
        · dsimp only at hg
          obtain ⟨S2, hok2⟩ := pRes_ft hres
          have hj := pCh_j (key := 1) (ks := 16) hok his (by omega) (by omega) (by rw [hM1, hM2]; exact hok2)
          have h6 := hok2.2.2.2.2.2.1
          have h5 := hok2.2.2.2.1
          have := ihh D dp i2 l2 S2 (more + 1) S0 l0 i0 M0 M3 (dA 1 a c) (S :: J) ((S : Int) + 1) r Q hg hdp hD hj h0 (by omega) (by rw [hok2.1 74 (by omega) (by omega)]; exact m274) (kS_c (kS_c (kS_c hk fr1) fr2) hok2.1) hQ
          rw [← Int.natCast_succ] at this
          clear hQ ihh i0h W A N hj
          simp (disch := omega) only [Option.toList_some, Option.toList_none, List.nil_append, List.cons_append, List.append_nil, true_and, and_true, not_true_eq_false, not_false_eq_true, true_implies, false_implies, implies_true, and_self, Int.reduceLT, Int.reduceLE, Int.reduceEq, Int.reduceNe, Int.reduceAdd, Int.reduceSub, Int.reduceMul, Int.reduceNeg, Int.reduceToNat, Int.toNat_natCast, ↓kk_ck, ↓kk_im, ↓kk_in, s_131_0, s_131_19, s_131_23, s_131_32, s_131_56, s_131_5, s_131_29, s_131_39, s_131_61, s_131_44, s_131_49, vi_bt, vi_inc]
          exact this
    rw [s_131_11]
    clear hQ ihh i0h hg
    simp (disch := omega) only [Option.toList_some, Option.toList_none, List.nil_append, List.cons_append, List.append_nil, true_and, and_true, not_true_eq_false, not_false_eq_true, true_implies, false_implies, implies_true, and_self, Int.reduceLT, Int.reduceLE, Int.reduceEq, Int.reduceNe, Int.reduceAdd, Int.reduceSub, Int.reduceMul, Int.reduceNeg, Int.reduceToNat, Int.toNat_natCast, ↓kk_ck, ↓kk_im, ↓kk_in, s_131_0, s_131_19, s_131_23, s_131_32, s_131_56, s_131_5, s_131_29, s_131_39, s_131_61, s_131_44, s_131_49, a1, W, vi_bt, A, N]
    exact cont
  · rw [if_neg hc] at hg
    cases hg
    rw [decide_eq_false hc] at W
    have he := pCh_e hok (by omega)
    have := hQ _ (pRes_t he)
    obtain ⟨-, -, -, -, -, -, -, a8', a9', a10', -⟩ := hok
    have A := fun {D : Nat} {K : Option vi_V → vi_W → Prop} (hD : 1 ≤ D) => @k_142' D K Y M nn n b f hY i S l h73 (by omega) J y a9' (fun j hj => (a10' j hj).2) (fun j hj => a8' j (a10' j hj).1 (a10' j hj).2) hD
    rw [s_131_11]
    clear hQ ihh i0h he a8' a9' a10'
    by_cases hm : 400 ≤ more
    · simp (disch := omega) only [Option.toList_some, Option.toList_none, List.nil_append, List.cons_append, List.append_nil, true_and, and_true, not_true_eq_false, not_false_eq_true, true_implies, false_implies, implies_true, and_self, Int.reduceLT, Int.reduceLE, Int.reduceEq, Int.reduceNe, Int.reduceAdd, Int.reduceSub, Int.reduceMul, Int.reduceNeg, Int.reduceToNat, Int.toNat_natCast, ↓kk_ck, ↓kk_im, ↓kk_in, s_131_0, s_131_19, s_131_23, s_131_32, s_131_56, s_131_5, s_131_29, s_131_39, s_131_61, s_131_44, s_131_49, a1, A]
      exact this
    · simp (disch := omega) only [Option.toList_some, Option.toList_none, List.nil_append, List.cons_append, List.append_nil, true_and, and_true, not_true_eq_false, not_false_eq_true, true_implies, false_implies, implies_true, and_self, Int.reduceLT, Int.reduceLE, Int.reduceEq, Int.reduceNe, Int.reduceAdd, Int.reduceSub, Int.reduceMul, Int.reduceNeg, Int.reduceToNat, Int.toNat_natCast, ↓kk_ck, ↓kk_im, ↓kk_in, s_131_0, s_131_19, s_131_23, s_131_32, s_131_56, s_131_5, s_131_29, s_131_39, s_131_61, s_131_44, s_131_49, a1, W, vi_bf, A]
      exact this
theorem pM5_s (hY : kY Y 112) (i0h : pM Y nn f b n fu 132 4 7) (ihh : pJ Y nn f b n fu 131 9 8 1) : pM Y nn f b n (fu + 1) 131 5 8 := by
  intro D dp i l S M a r Q hg hdp hD h73 m74 hk hl hS hQ
  obtain ⟨a1, a2, a3, a4⟩ := y_73 hY (by omega)
  obtain ⟨D, rfl⟩ : ∃ k, D = k + 1 := ⟨D - 1, by omega⟩
  rw [rdP] at hg
  have main : vi_call GG D 132 [.inr (.inr 73), .inl (dp : Int)] (Y, M, nn) (fun r w' => vi_ok GG D 131 5 [some (.inr (.inr 73)), some (.inl (dp : Int)), none, none, none] r.toList w' Q) := by
    cases hr : rdP (tCd b n) (tVl b n) fu 4 dp i l a with
    | none => rw [hr] at hg; cases hg
    | some r0 =>
      obtain ⟨ok, i2, l2, c⟩ := r0
      refine i0h D dp i l S M a (ok, i2, l2, c) _ hr hdp (by omega) h73 m74 hk hl hS fun M2 hres => ?_
      rw [hr] at hg
      cases ok
      · dsimp only at hg
        cases hg
        have := pJ9_f (nn := nn) hY (D := D) (by omega) (pRes_ff hres) (x1 := (dp : Int)) (y := 0) (by omega) (more := 0) (by omega) (Q := Q) (fun M' h => hQ M' (pRes_f h))
        clear hQ ihh i0h
        simp (disch := omega) only [Option.toList_some, Option.toList_none, List.nil_append, List.cons_append, List.append_nil, true_and, and_true, not_true_eq_false, not_false_eq_true, true_implies, false_implies, implies_true, and_self, Int.reduceLT, Int.reduceLE, Int.reduceEq, Int.reduceNe, Int.reduceAdd, Int.reduceSub, Int.reduceMul, Int.reduceNeg, Int.reduceToNat, Int.toNat_natCast, ↓kk_ck, ↓kk_im, ↓kk_in, s_131_0, s_131_19, s_131_23, s_131_32, s_131_56, s_131_5, s_131_29, s_131_39, s_131_61, s_131_44, s_131_49, vi_bf]
        exact this
      · dsimp only at hg
        obtain ⟨S2, hok2⟩ := pRes_ft hres
        have := ihh D dp i2 l2 S2 0 S l i M M2 c [] 0 r Q hg hdp (by omega) (pCh_of hok2) hS (by omega) (by rw [hok2.1 74 (by omega) (by omega)]; exact m74) (kS_c hk hok2.1) hQ
        clear hQ ihh i0h
        simp (disch := omega) only [Option.toList_some, Option.toList_none, List.nil_append, List.cons_append, List.append_nil, true_and, and_true, not_true_eq_false, not_false_eq_true, true_implies, false_implies, implies_true, and_self, Int.reduceLT, Int.reduceLE, Int.reduceEq, Int.reduceNe, Int.reduceAdd, Int.reduceSub, Int.reduceMul, Int.reduceNeg, Int.reduceToNat, Int.toNat_natCast, ↓kk_ck, ↓kk_im, ↓kk_in, s_131_0, s_131_19, s_131_23, s_131_32, s_131_56, s_131_5, s_131_29, s_131_39, s_131_61, s_131_44, s_131_49, vi_bt]
        exact this
  clear hQ ihh i0h hg
  simp (disch := omega) only [Option.toList_some, Option.toList_none, List.nil_append, List.cons_append, List.append_nil, true_and, and_true, not_true_eq_false, not_false_eq_true, true_implies, false_implies, implies_true, and_self, Int.reduceLT, Int.reduceLE, Int.reduceEq, Int.reduceNe, Int.reduceAdd, Int.reduceSub, Int.reduceMul, Int.reduceNeg, Int.reduceToNat, Int.toNat_natCast, ↓kk_ck, ↓kk_im, ↓kk_in, e_131, s_131_0, a1]
  exact main
theorem pX_s (hY : kY Y 112) (h400 : n ≤ 400) (hb : tOk b) (hf : f 3 = (n : Int)) (i5h : pM Y nn f b n fu 131 5 8) (i2h : pM Y nn f b n fu 136 2 2) : pX Y nn f b n (fu + 1) := by
  intro D dp i l S M a r x2 x3 Q hg hdp hD h73 m74 hk hl hS hQ
  obtain ⟨a1, a2, a3, a4⟩ := y_73 hY (by omega)
  obtain ⟨D, rfl⟩ : ∃ k, D = k + 1 := ⟨D - 1, by omega⟩
  have hlei := tI_le (b := b) (n := n) i
  have SB := fun {D : Nat} {K : Option vi_V → vi_W → Prop} (hD : 2 ≤ D) => @k_146' D K Y M nn n b f hY h400 hb m74 hf i S l h73 40 (by decide) 140 (by decide) hD
  have N := fun {D : Nat} {K : Option vi_V → vi_W → Prop} (hD : 3 ≤ D) => @k_143' D K Y M nn n b f hY h400 hb m74 hf i S l h73 hD
  have flM : pFl f b n M M i := ⟨fun _ _ _ => rfl, S, l, h73, by omega, hl⟩
  rw [rdP] at hg
  by_cases hc : tCd b n i = 140
  · rw [if_pos hc] at hg
    rw [decide_eq_true hc] at SB
    by_cases h8 : dp = 8
    · rw [if_pos h8] at hg
      cases hg
      have := hQ M (pRes_f flM)
      clear hQ i2h i5h N
      subst h8
      simp (disch := omega) only [Option.toList_some, Option.toList_none, List.nil_append, List.cons_append, List.append_nil, true_and, and_true, not_true_eq_false, not_false_eq_true, true_implies, false_implies, implies_true, and_self, Int.reduceLT, Int.reduceLE, Int.reduceEq, Int.reduceNe, Int.reduceAdd, Int.reduceSub, Int.reduceMul, Int.reduceNeg, Int.reduceToNat, Int.toNat_natCast, ↓kk_ck, ↓kk_im, ↓kk_in, s_133_40, s_133_46, s_133_49, s_133_56, e_134, s_134_0, s_134_6, s_134_8, s_134_20, s_134_29, s_134_33, s_134_34, s_134_12, s_134_26, s_134_17, a1, SB, vi_bt, vi_32]
      exact this
    · rw [if_neg h8] at hg
      have hin := tI_cd (b := b) (n := n) (i := i) (by omega)
      have his := tI_s hin
      have hle1 := tI_le (b := b) (n := n) (i + 1)
      generalize hM1 : vi_rs M 73 (rRow f b n (i + 1) S l) = M1 at *
      have m1 : M1 73 = rRow f b n (i + 1) S l := by rw [← hM1, vi_rs_s]
      have m174 : M1 74 = b := by rw [← hM1, vi_rs_o (by omega)]; exact m74
      have fr1 : pFr M M1 := by rw [← hM1]; exact pFr_73
      have main : vi_call GG D 131 [.inr (.inr 73), .inl ((dp + 1 : Nat) : Int)] (Y, M1, nn) (fun r w' => vi_ok GG D 134 17 [some (.inr (.inr 73)), some (.inl ((dp + 1 : Nat) : Int))] r.toList w' (fun r w' => vi_ok GG (D + 1) 133 56 [some (.inr (.inr 73)), some (.inl (dp : Int)), some (.inl x2), some (.inl x3)] r.toList w' Q)) := by
        cases hr : rdP (tCd b n) (tVl b n) fu 5 (dp + 1) (i + 1) l a with
        | none => rw [hr] at hg; cases hg
        | some r0 =>
          obtain ⟨ok, i2, l2, c⟩ := r0
          refine i5h D (dp + 1) (i + 1) l S M1 a (ok, i2, l2, c) _ hr (by omega) (by omega) m1 m174 (kS_c hk fr1) hl (by omega) fun M2 hres => ?_
          rw [hr] at hg
          cases ok
          · dsimp only at hg
            cases hg
            have := hQ M2 (pRes_f (pFl_t fr1 (pRes_ff hres)))
            clear hQ i2h i5h N SB
            simp (disch := omega) only [Option.toList_some, Option.toList_none, List.nil_append, List.cons_append, List.append_nil, true_and, and_true, not_true_eq_false, not_false_eq_true, true_implies, false_implies, implies_true, and_self, Int.reduceLT, Int.reduceLE, Int.reduceEq, Int.reduceNe, Int.reduceAdd, Int.reduceSub, Int.reduceMul, Int.reduceNeg, Int.reduceToNat, Int.toNat_natCast, ↓kk_ck, ↓kk_im, ↓kk_in, s_134_0, s_134_6, s_134_8, s_134_20, s_134_29, s_134_33, s_134_34, s_134_12, s_134_26, s_134_17, vi_bf, s_133_56]
            exact this
          · dsimp only at hg
            obtain ⟨S2, hok2⟩ := pRes_ft hres
            have hS2 := pOk_le hok2 (by omega)
            have hle2 := tI_le (b := b) (n := n) i2
            have h274 : M2 74 = b := by rw [hok2.1 74 (by omega) (by omega)]; exact m174
            have P := fun {D : Nat} {K : Option vi_V → vi_W → Prop} (hD : 4 ≤ D) => @k_147' D K Y M2 nn n b f hY h400 hb h274 hf i2 S2 l2 hok2.2.1 41 (by decide) 141 (by decide) hD
            by_cases h93 : tCd b n i2 = 141
            · rw [if_pos h93] at hg
              rw [decide_eq_true h93, if_pos h93] at P
              cases hg
              have hin2 := tI_cd (b := b) (n := n) (i := i2) (by omega)
              have his2 := tI_s hin2
              have e75 : vi_rs M2 73 (rRow f b n (i2 + 1) S2 l2) 75 = M2 75 := vi_rs_o (by omega)
              obtain ⟨b1, b2, b3, b4, b5, b6, b7, b8, b9⟩ := hok2
              have := hQ (vi_rs M2 73 (rRow f b n (i2 + 1) S2 l2)) (pRes_t ⟨pFr_t fr1 (pFr_t b1 pFr_73), vi_rs_s, b3, b4, b5, by omega, fun x hx => by rw [e75, b7 x hx, ← hM1, vi_rs_o (by omega)], fun x x1 x2 => by rw [e75]; exact b8 x x1 x2, by rw [e75]; exact b9⟩)
              clear hQ i2h i5h N SB b7 b8
              simp (disch := omega) only [Option.toList_some, Option.toList_none, List.nil_append, List.cons_append, List.append_nil, true_and, and_true, not_true_eq_false, not_false_eq_true, true_implies, false_implies, implies_true, and_self, Int.reduceLT, Int.reduceLE, Int.reduceEq, Int.reduceNe, Int.reduceAdd, Int.reduceSub, Int.reduceMul, Int.reduceNeg, Int.reduceToNat, Int.toNat_natCast, ↓kk_ck, ↓kk_im, ↓kk_in, s_134_0, s_134_6, s_134_8, s_134_20, s_134_29, s_134_33, s_134_34, s_134_12, s_134_26, s_134_17, a1, vi_bt, P, s_133_56]
              exact this
            · rw [if_neg h93] at hg
              rw [decide_eq_false h93, if_neg h93, vi_rs_id hok2.2.1] at P
              cases hg
              have := hQ M2 (pRes_f (pFl_t fr1 (pOk_fl hok2 (by omega) h400)))
              clear hQ i2h i5h N SB
              simp (disch := omega) only [Option.toList_some, Option.toList_none, List.nil_append, List.cons_append, List.append_nil, true_and, and_true, not_true_eq_false, not_false_eq_true, true_implies, false_implies, implies_true, and_self, Int.reduceLT, Int.reduceLE, Int.reduceEq, Int.reduceNe, Int.reduceAdd, Int.reduceSub, Int.reduceMul, Int.reduceNeg, Int.reduceToNat, Int.toNat_natCast, ↓kk_ck, ↓kk_im, ↓kk_in, s_134_0, s_134_6, s_134_8, s_134_20, s_134_29, s_134_33, s_134_34, s_134_12, s_134_26, s_134_17, a1, vi_bt, vi_bf, P, s_133_56]
              exact this
      clear hQ i2h i5h hg
      simp (disch := omega) only [Option.toList_some, Option.toList_none, List.nil_append, List.cons_append, List.append_nil, true_and, and_true, not_true_eq_false, not_false_eq_true, true_implies, false_implies, implies_true, and_self, Int.reduceLT, Int.reduceLE, Int.reduceEq, Int.reduceNe, Int.reduceAdd, Int.reduceSub, Int.reduceMul, Int.reduceNeg, Int.reduceToNat, Int.toNat_natCast, ↓kk_ck, ↓kk_im, ↓kk_in, s_133_40, s_133_46, s_133_49, e_134, s_134_0, s_134_6, s_134_8, s_134_20, s_134_29, s_134_33, s_134_34, s_134_12, s_134_26, s_134_17, a1, SB, vi_bt, N, vi_inc]
      exact main
  · rw [if_neg hc] at hg
    rw [decide_eq_false hc] at SB
    have main : vi_call GG D 136 [.inr (.inr 73), .inl (dp : Int)] (Y, M, nn) (fun r w' => vi_ok GG D 135 5 [some (.inr (.inr 73)), some (.inl (dp : Int)), none, none] r.toList w' (fun r w' => vi_ok GG (D + 1) 133 64 [some (.inr (.inr 73)), some (.inl (dp : Int)), some (.inl x2), some (.inl x3)] r.toList w' Q)) := by
      cases hr : rdP (tCd b n) (tVl b n) fu 2 dp i l a with
      | none => rw [hr] at hg; cases hg
      | some r0 =>
        obtain ⟨ok, i2, l2, c⟩ := r0
        refine i2h D dp i l S M a (ok, i2, l2, c) _ hr hdp (by omega) h73 m74 hk hl hS fun M2 hres => ?_
        rw [hr] at hg
        cases ok
        · dsimp only at hg
          cases hg
          have := hQ M2 (pRes_f (pRes_ff hres))
          clear hQ i2h i5h N SB
          simp (disch := omega) only [Option.toList_some, Option.toList_none, List.nil_append, List.cons_append, List.append_nil, true_and, and_true, not_true_eq_false, not_false_eq_true, true_implies, false_implies, implies_true, and_self, Int.reduceLT, Int.reduceLE, Int.reduceEq, Int.reduceNe, Int.reduceAdd, Int.reduceSub, Int.reduceMul, Int.reduceNeg, Int.reduceToNat, Int.toNat_natCast, ↓kk_ck, ↓kk_im, ↓kk_in, s_135_0, s_135_8, s_135_10, s_135_19, s_135_24, s_135_33, s_135_38, s_135_47, s_135_52, s_135_53, s_135_59, s_135_61, s_135_5, s_135_16, s_135_30, s_135_44, s_135_65, s_135_70, s_135_77, vi_bf]
          exact this
        · dsimp only at hg
          obtain ⟨S2, hok2⟩ := pRes_ft hres
          have hS2 := pOk_le hok2 (by omega)
          have hle2 := tI_le (b := b) (n := n) i2
          have h274 : M2 74 = b := by rw [hok2.1 74 (by omega) (by omega)]; exact m74
          have hk2 := kS_c hk hok2.1
          have T60 := fun {D : Nat} {K : Option vi_V → vi_W → Prop} (hD : 2 ≤ D) => @k_146' D K Y M2 nn n b f hY h400 hb h274 hf i2 S2 l2 hok2.2.1 60 (by decide) 160 (by decide) hD
          have T62 := fun {D : Nat} {K : Option vi_V → vi_W → Prop} (hD : 2 ≤ D) => @k_146' D K Y M2 nn n b f hY h400 hb h274 hf i2 S2 l2 hok2.2.1 62 (by decide) 162 (by decide) hD
          have T61 := fun {D : Nat} {K : Option vi_V → vi_W → Prop} (hD : 2 ≤ D) => @k_146' D K Y M2 nn n b f hY h400 hb h274 hf i2 S2 l2 hok2.2.1 61 (by decide) 161 (by decide) hD
          have N2 := fun {D : Nat} {K : Option vi_V → vi_W → Prop} (hD : 3 ≤ D) => @k_143' D K Y M2 nn n b f hY h400 hb h274 hf i2 S2 l2 hok2.2.1 hD
          by_cases hq : tCd b n i2 = 160 ∨ tCd b n i2 = 162 ∨ tCd b n i2 = 161
          · rw [if_pos hq] at hg
            have hin2 := tI_cd (b := b) (n := n) (i := i2) (by omega)
            have his2 := tI_s hin2
            have hle3 := tI_le (b := b) (n := n) (i2 + 1)
            generalize hM3 : vi_rs M2 73 (rRow f b n (i2 + 1) S2 l2) = M3 at *
            have m3 : M3 73 = rRow f b n (i2 + 1) S2 l2 := by rw [← hM3, vi_rs_s]
            have fr3 : pFr M2 M3 := by rw [← hM3]; exact pFr_73
            have m374 : M3 74 = b := by rw [fr3 74 (by omega) (by omega)]; exact h274
            have main2 : ∀ kd : Int, kd = (if tCd b n i2 = 160 then 11 else if tCd b n i2 = 162 then 12 else 13) → vi_call GG D 136 [.inr (.inr 73), .inl (dp : Int)] (Y, M3, nn) (fun r w' => vi_ok GG D 135 70 [some (.inr (.inr 73)), some (.inl (dp : Int)), some (.inl kd), none] r.toList w' (fun r w' => vi_ok GG (D + 1) 133 64 [some (.inr (.inr 73)), some (.inl (dp : Int)), some (.inl x2), some (.inl x3)] r.toList w' Q)) := by
              intro kd hkd
              have hkr : 11 ≤ kd ∧ kd ≤ 13 := by rw [hkd]; split <;> (try split) <;> omega
              cases hr2 : rdP (tCd b n) (tVl b n) fu 2 dp (i2 + 1) l2 c with
              | none => rw [hr2] at hg; cases hg
              | some r2 =>
                obtain ⟨ok2, i4, l4, c2⟩ := r2
                refine i2h D dp (i2 + 1) l2 S2 M3 c (ok2, i4, l4, c2) _ hr2 hdp (by omega) m3 m374 (kS_c hk2 fr3) hok2.2.2.1 (by omega) fun M4 hres2 => ?_
                rw [hr2] at hg
                cases ok2
                · dsimp only at hg
                  cases hg
                  obtain ⟨v, M5, hfl5, hK⟩ := k_141f (D := D) (nn := nn) hY (pRes_ff hres2) (k := kd) (x := 0) (by omega)
                  have := hQ M5 (pRes_f (pFl_t (pFr_t hok2.1 fr3) hfl5))
                  clear hQ i2h i5h N SB T60 T61 T62 N2
                  simp (disch := omega) only [Option.toList_some, Option.toList_none, List.nil_append, List.cons_append, List.append_nil, true_and, and_true, not_true_eq_false, not_false_eq_true, true_implies, false_implies, implies_true, and_self, Int.reduceLT, Int.reduceLE, Int.reduceEq, Int.reduceNe, Int.reduceAdd, Int.reduceSub, Int.reduceMul, Int.reduceNeg, Int.reduceToNat, Int.toNat_natCast, ↓kk_ck, ↓kk_im, ↓kk_in, s_135_0, s_135_8, s_135_10, s_135_19, s_135_24, s_135_33, s_135_38, s_135_47, s_135_52, s_135_53, s_135_59, s_135_61, s_135_5, s_135_16, s_135_30, s_135_44, s_135_65, s_135_70, s_135_77, a1, hK, vi_bf]
                  exact this
                · dsimp only at hg
                  cases hg
                  obtain ⟨S4, hok4⟩ := pRes_ft hres2
                  have hS4 := pOk_le hok4 (by omega)
                  have hle4 := tI_le (b := b) (n := n) i4
                  have h6 := hok4.2.2.2.2.2.1
                  have h5 := hok4.2.2.2.1
                  have A := fun {D : Nat} {K : Option vi_V → vi_W → Prop} (hD : 1 ≤ D) => @k_141' D K Y M4 nn n b f hY i4 S4 l4 hok4.2.1 (by omega) kd 0 (by omega) (by omega) hD
                  have hj := pOk_j (kd := kd) hok2 his2 (by rw [hM3]; exact hok4) (by omega)
                  rw [hkd] at hj
                  have := hQ _ (pRes_t hj)
                  rw [← hkd] at this
                  clear hQ i2h i5h N SB T60 T61 T62 N2 hj
                  simp (disch := omega) only [Option.toList_some, Option.toList_none, List.nil_append, List.cons_append, List.append_nil, true_and, and_true, not_true_eq_false, not_false_eq_true, true_implies, false_implies, implies_true, and_self, Int.reduceLT, Int.reduceLE, Int.reduceEq, Int.reduceNe, Int.reduceAdd, Int.reduceSub, Int.reduceMul, Int.reduceNeg, Int.reduceToNat, Int.toNat_natCast, ↓kk_ck, ↓kk_im, ↓kk_in, s_135_0, s_135_8, s_135_10, s_135_19, s_135_24, s_135_33, s_135_38, s_135_47, s_135_52, s_135_53, s_135_59, s_135_61, s_135_5, s_135_16, s_135_30, s_135_44, s_135_65, s_135_70, s_135_77, a1, A, vi_bt]
                  exact this
            by_cases q1 : tCd b n i2 = 160
            · have := main2 11 (by rw [if_pos q1])
              rw [decide_eq_true q1] at T60
              clear main2 hQ i2h i5h hg N SB
              simp (disch := omega) only [Option.toList_some, Option.toList_none, List.nil_append, List.cons_append, List.append_nil, true_and, and_true, not_true_eq_false, not_false_eq_true, true_implies, false_implies, implies_true, and_self, Int.reduceLT, Int.reduceLE, Int.reduceEq, Int.reduceNe, Int.reduceAdd, Int.reduceSub, Int.reduceMul, Int.reduceNeg, Int.reduceToNat, Int.toNat_natCast, ↓kk_ck, ↓kk_im, ↓kk_in, s_135_0, s_135_8, s_135_10, s_135_19, s_135_24, s_135_33, s_135_38, s_135_47, s_135_52, s_135_53, s_135_59, s_135_61, s_135_5, s_135_16, s_135_30, s_135_44, s_135_65, s_135_70, s_135_77, a1, vi_bt, T60, N2, ne_eq]
              exact this
            · by_cases q2 : tCd b n i2 = 162
              · have := main2 12 (by rw [if_neg q1, if_pos q2])
                rw [decide_eq_false q1] at T60
                rw [decide_eq_true q2] at T62
                clear main2 hQ i2h i5h hg N SB
                simp (disch := omega) only [Option.toList_some, Option.toList_none, List.nil_append, List.cons_append, List.append_nil, true_and, and_true, not_true_eq_false, not_false_eq_true, true_implies, false_implies, implies_true, and_self, Int.reduceLT, Int.reduceLE, Int.reduceEq, Int.reduceNe, Int.reduceAdd, Int.reduceSub, Int.reduceMul, Int.reduceNeg, Int.reduceToNat, Int.toNat_natCast, ↓kk_ck, ↓kk_im, ↓kk_in, s_135_0, s_135_8, s_135_10, s_135_19, s_135_24, s_135_33, s_135_38, s_135_47, s_135_52, s_135_53, s_135_59, s_135_61, s_135_5, s_135_16, s_135_30, s_135_44, s_135_65, s_135_70, s_135_77, a1, vi_bt, vi_bf, T60, T62, N2, ne_eq]
                exact this
              · have q3 : tCd b n i2 = 161 := by omega
                have := main2 13 (by rw [if_neg q1, if_neg q2])
                rw [decide_eq_false q1] at T60
                rw [decide_eq_false q2] at T62
                rw [decide_eq_true q3] at T61
                clear main2 hQ i2h i5h hg N SB
                simp (disch := omega) only [Option.toList_some, Option.toList_none, List.nil_append, List.cons_append, List.append_nil, true_and, and_true, not_true_eq_false, not_false_eq_true, true_implies, false_implies, implies_true, and_self, Int.reduceLT, Int.reduceLE, Int.reduceEq, Int.reduceNe, Int.reduceAdd, Int.reduceSub, Int.reduceMul, Int.reduceNeg, Int.reduceToNat, Int.toNat_natCast, ↓kk_ck, ↓kk_im, ↓kk_in, s_135_0, s_135_8, s_135_10, s_135_19, s_135_24, s_135_33, s_135_38, s_135_47, s_135_52, s_135_53, s_135_59, s_135_61, s_135_5, s_135_16, s_135_30, s_135_44, s_135_65, s_135_70, s_135_77, a1, vi_bt, vi_bf, T60, T62, T61, N2, ne_eq]
                exact this
          · rw [if_neg hq] at hg
            cases hg
            have := hQ M2 (pRes_f (pOk_fl hok2 (by omega) h400))
            rw [decide_eq_false (fun k => hq (.inl k))] at T60
            rw [decide_eq_false (fun k => hq (.inr (.inl k)))] at T62
            rw [decide_eq_false (fun k => hq (.inr (.inr k)))] at T61
            clear hQ i2h i5h N SB N2
            simp (disch := omega) only [Option.toList_some, Option.toList_none, List.nil_append, List.cons_append, List.append_nil, true_and, and_true, not_true_eq_false, not_false_eq_true, true_implies, false_implies, implies_true, and_self, Int.reduceLT, Int.reduceLE, Int.reduceEq, Int.reduceNe, Int.reduceAdd, Int.reduceSub, Int.reduceMul, Int.reduceNeg, Int.reduceToNat, Int.toNat_natCast, ↓kk_ck, ↓kk_im, ↓kk_in, s_135_0, s_135_8, s_135_10, s_135_19, s_135_24, s_135_33, s_135_38, s_135_47, s_135_52, s_135_53, s_135_59, s_135_61, s_135_5, s_135_16, s_135_30, s_135_44, s_135_65, s_135_70, s_135_77, a1, vi_bt, vi_bf, T60, T62, T61, ne_eq]
            exact this
    clear hQ i2h i5h hg N
    simp (disch := omega) only [Option.toList_some, Option.toList_none, List.nil_append, List.cons_append, List.append_nil, true_and, and_true, not_true_eq_false, not_false_eq_true, true_implies, false_implies, implies_true, and_self, Int.reduceLT, Int.reduceLE, Int.reduceEq, Int.reduceNe, Int.reduceAdd, Int.reduceSub, Int.reduceMul, Int.reduceNeg, Int.reduceToNat, Int.toNat_natCast, ↓kk_ck, ↓kk_im, ↓kk_in, s_133_40, s_133_46, s_133_59, e_135, s_135_0, a1, SB, vi_bf]
    exact main
theorem pM3_s (hY : kY Y 112) (h400 : n ≤ 400) (hb : tOk b) (hf : f 3 = (n : Int)) (ix : pX Y nn f b n fu) : pM Y nn f b n (fu + 1) 133 3 6 := by
  intro D dp i l S M a r Q hg hdp hD h73 m74 hk hl hS hQ
  obtain ⟨a1, a2, a3, a4⟩ := y_73 hY (by omega)
  obtain ⟨D, rfl⟩ : ∃ k, D = k + 1 := ⟨D - 1, by omega⟩
  rw [rdP] at hg
  generalize hcnt : gN (tCd b n) 400 i = cnt at hg
  -- from the place behind the nots on
  have go : ∀ (M1 : vi_M) (x3 : Int), M1 = vi_rs M 73 (rRow f b n (i + cnt) S l) → tI b n i + cnt ≤ tI b n (i + cnt) → vi_ok GG D 133 40 [some (.inr (.inr 73)), some (.inl (dp : Int)), some (.inl ((cnt % 2 : Nat) : Int)), some (.inl x3)] [] (Y, M1, nn) Q := by
    intro M1 x3 hM1 hti
    have m1 : M1 73 = rRow f b n (i + cnt) S l := by rw [hM1, vi_rs_s]
    have fr1 : pFr M M1 := by rw [hM1]; exact pFr_73
    have m174 : M1 74 = b := by rw [fr1 74 (by omega) (by omega)]; exact m74
    have m75 : M1 75 = M 75 := by rw [hM1, vi_rs_o (by omega)]
    cases hr : rdP (tCd b n) (tVl b n) fu 10 dp (i + cnt) l a with
    | none => rw [hr] at hg; cases hg
    | some r0 =>
      obtain ⟨ok, i2, l2, c⟩ := r0
      refine ix D dp (i + cnt) l S M1 a (ok, i2, l2, c) _ x3 Q hr hdp (by omega) m1 m174 (kS_c hk fr1) hl (by omega) fun M2 hres => ?_
      rw [hr] at hg
      cases ok
      · dsimp only at hg
        cases hg
        have := hQ M2 (pRes_f (pFl_t fr1 (pRes_ff hres)))
        clear hQ ix
        simp (disch := omega) only [Option.toList_some, Option.toList_none, List.nil_append, List.cons_append, List.append_nil, true_and, and_true, not_true_eq_false, not_false_eq_true, true_implies, false_implies, implies_true, and_self, Int.reduceLT, Int.reduceLE, Int.reduceEq, Int.reduceNe, Int.reduceAdd, Int.reduceSub, Int.reduceMul, Int.reduceNeg, Int.reduceToNat, Int.toNat_natCast, ↓kk_ck, ↓kk_im, ↓kk_in, s_133_0, s_133_11, s_133_20, s_133_24, s_133_28, s_133_29, s_133_40, s_133_49, s_133_59, s_133_64, s_133_69, s_133_73, s_133_81, s_133_17, s_133_34, s_133_46, s_133_56, s_133_80, vi_bf]
        exact this
      · dsimp only at hg
        cases hg
        obtain ⟨S2, hok2⟩ := pRes_ft hres
        have hb2 := pOk_b hok2 fr1 m75 (i := i) (by omega)
        have hS2 := pOk_le hok2 (by omega)
        have hle2 := tI_le (b := b) (n := n) i2
        have h6 := hok2.2.2.2.2.2.1
        have h5 := hok2.2.2.2.1
        by_cases hodd : cnt % 2 = 1
        · rw [if_pos hodd] at hQ
          have A := fun {D : Nat} {K : Option vi_V → vi_W → Prop} (hD : 1 ≤ D) => @k_141' D K Y M2 nn n b f hY i2 S2 l2 hok2.2.1 (by omega) 14 0 (by omega) (by omega) hD
          have := hQ _ (pRes_t (pOk_n hb2 (by omega)))
          clear hQ ix
          rw [hodd]
          simp (disch := omega) only [Option.toList_some, Option.toList_none, List.nil_append, List.cons_append, List.append_nil, true_and, and_true, not_true_eq_false, not_false_eq_true, true_implies, false_implies, implies_true, and_self, Int.reduceLT, Int.reduceLE, Int.reduceEq, Int.reduceNe, Int.reduceAdd, Int.reduceSub, Int.reduceMul, Int.reduceNeg, Int.reduceToNat, Int.toNat_natCast, ↓kk_ck, ↓kk_im, ↓kk_in, s_133_0, s_133_11, s_133_20, s_133_24, s_133_28, s_133_29, s_133_40, s_133_49, s_133_59, s_133_64, s_133_69, s_133_73, s_133_81, s_133_17, s_133_34, s_133_46, s_133_56, s_133_80, a1, vi_bt, A]
          exact this
        · rw [if_neg hodd] at hQ
          have := hQ _ (pRes_t hb2)
          clear hQ ix
          rw [show cnt % 2 = 0 by omega]
          simp (disch := omega) only [Option.toList_some, Option.toList_none, List.nil_append, List.cons_append, List.append_nil, true_and, and_true, not_true_eq_false, not_false_eq_true, true_implies, false_implies, implies_true, and_self, Int.reduceLT, Int.reduceLE, Int.reduceEq, Int.reduceNe, Int.reduceAdd, Int.reduceSub, Int.reduceMul, Int.reduceNeg, Int.reduceToNat, Int.toNat_natCast, ↓kk_ck, ↓kk_im, ↓kk_in, s_133_0, s_133_11, s_133_20, s_133_24, s_133_28, s_133_29, s_133_40, s_133_49, s_133_59, s_133_64, s_133_69, s_133_73, s_133_81, s_133_17, s_133_34, s_133_46, s_133_56, s_133_80, a1, vi_bt]
          exact this
  clear hQ ix hg
  have hle := tI_le (b := b) (n := n) i
  have loop : ∀ j : Nat, j ≤ 400 → j + gN (tCd b n) (400 - j) (i + j) = cnt → tI b n i + j ≤ tI b n (i + j) → ∀ M1 : vi_M, M1 = vi_rs M 73 (rRow f b n (i + j) S l) → vi_ok GG D 133 4 [some (.inr (.inr 73)), some (.inl (dp : Int)), some (.inl ((j % 2 : Nat) : Int)), some (.inl (j : Int))] [] (Y, M1, nn) Q := by
    refine vi_dn 400 ?_ fun j hj ih => ?_
    · intro h1 h2 M1 hM1
      rw [gN] at h1
      obtain rfl : cnt = 400 := by omega
      have := go M1 400 hM1 h2
      rw [s_133_4]
      clear go
      simp (disch := omega) only [Option.toList_some, Option.toList_none, List.nil_append, List.cons_append, List.append_nil, true_and, and_true, not_true_eq_false, not_false_eq_true, true_implies, false_implies, implies_true, and_self, Int.reduceLT, Int.reduceLE, Int.reduceEq, Int.reduceNe, Int.reduceAdd, Int.reduceSub, Int.reduceMul, Int.reduceNeg, Int.reduceToNat, Int.toNat_natCast, ↓kk_ck, ↓kk_im, ↓kk_in, s_133_11]
      exact this
    · intro h1 h2 M1 hM1
      have m1 : M1 73 = rRow f b n (i + j) S l := by rw [hM1, vi_rs_s]
      have fr1 : pFr M M1 := by rw [hM1]; exact pFr_73
      have m174 : M1 74 = b := by rw [fr1 74 (by omega) (by omega)]; exact m74
      have W := fun {D : Nat} {K : Option vi_V → vi_W → Prop} (hD : 5 ≤ D) => @k_145' D K Y M1 nn n b f hY (kS_c hk fr1) h400 hb m174 hf (i + j) S l m1 10 7 (by omega) (by decide) 12 (by omega) hD
      have N := fun {D : Nat} {K : Option vi_V → vi_W → Prop} (hD : 3 ≤ D) => @k_143' D K Y M1 nn n b f hY h400 hb m174 hf (i + j) S l m1 hD
      rw [show 400 - j = (399 - j) + 1 by omega, gN] at h1
      rw [show 400 - (j + 1) = 399 - j by omega, show i + (j + 1) = i + j + 1 by omega] at ih
      rw [s_133_4]
      by_cases hc : tCd b n (i + j) = 7
      · rw [if_pos hc] at h1
        rw [decide_eq_true hc] at W
        have hin := tI_cd (b := b) (n := n) (i := i + j) (by omega)
        have his := tI_s hin
        have := ih (by omega) (by omega) (vi_rs M1 73 (rRow f b n (i + j + 1) S l)) (by rw [hM1, vi_rs_rs])
        clear ih go
        by_cases hodd : j % 2 = 1
        · rw [show (j + 1) % 2 = 0 by omega] at this
          rw [hodd]
          simp (disch := omega) only [Option.toList_some, Option.toList_none, List.nil_append, List.cons_append, List.append_nil, true_and, and_true, not_true_eq_false, not_false_eq_true, true_implies, false_implies, implies_true, and_self, Int.reduceLT, Int.reduceLE, Int.reduceEq, Int.reduceNe, Int.reduceAdd, Int.reduceSub, Int.reduceMul, Int.reduceNeg, Int.reduceToNat, Int.toNat_natCast, ↓kk_ck, ↓kk_im, ↓kk_in, s_133_11, s_133_17, s_133_20, s_133_24, s_133_28, s_133_29, s_133_34, a1, W, vi_bt, ne_eq, N, vi_inc]
          exact this
        · rw [show (j + 1) % 2 = 1 by omega] at this
          rw [show j % 2 = 0 by omega]
          simp (disch := omega) only [Option.toList_some, Option.toList_none, List.nil_append, List.cons_append, List.append_nil, true_and, and_true, not_true_eq_false, not_false_eq_true, true_implies, false_implies, implies_true, and_self, Int.reduceLT, Int.reduceLE, Int.reduceEq, Int.reduceNe, Int.reduceAdd, Int.reduceSub, Int.reduceMul, Int.reduceNeg, Int.reduceToNat, Int.toNat_natCast, ↓kk_ck, ↓kk_im, ↓kk_in, s_133_11, s_133_17, s_133_20, s_133_24, s_133_28, s_133_29, s_133_34, a1, W, vi_bt, ne_eq, N, vi_inc]
          exact this
      · rw [if_neg hc] at h1
        rw [decide_eq_false hc] at W
        obtain rfl : cnt = j := by omega
        have := go M1 (cnt : Int) hM1 h2
        clear ih go
        simp (disch := omega) only [Option.toList_some, Option.toList_none, List.nil_append, List.cons_append, List.append_nil, true_and, and_true, not_true_eq_false, not_false_eq_true, true_implies, false_implies, implies_true, and_self, Int.reduceLT, Int.reduceLE, Int.reduceEq, Int.reduceNe, Int.reduceAdd, Int.reduceSub, Int.reduceMul, Int.reduceNeg, Int.reduceToNat, Int.toNat_natCast, ↓kk_ck, ↓kk_im, ↓kk_in, s_133_11, s_133_17, a1, W, vi_bf]
        exact this
  have := loop 0 (by omega) (by rw [Nat.zero_add, Nat.add_zero]; exact hcnt) (Nat.le_refl _) M (by rw [Nat.add_zero, vi_rs_id h73])
  clear loop go
  simp (disch := omega) only [Option.toList_some, Option.toList_none, List.nil_append, List.cons_append, List.append_nil, true_and, and_true, not_true_eq_false, not_false_eq_true, true_implies, false_implies, implies_true, and_self, Int.reduceLT, Int.reduceLE, Int.reduceEq, Int.reduceNe, Int.reduceAdd, Int.reduceSub, Int.reduceMul, Int.reduceNeg, Int.reduceToNat, Int.toNat_natCast, ↓kk_ck, ↓kk_im, ↓kk_in, e_133, s_133_0]
  exact this
/-- all of them, by the fuel -/
theorem pAll (hY : kY Y 112) (h400 : n ≤ 400) (hb : tOk b) (hf : f 3 = (n : Int)) : ∀ fu, pM Y nn f b n fu 138 0 0 ∧ pM Y nn f b n fu 137 1 1 ∧ pM Y nn f b n fu 136 2 2 ∧ pM Y nn f b n fu 133 3 6 ∧ pM Y nn f b n fu 132 4 7 ∧ pM Y nn f b n fu 131 5 8 ∧ pL Y nn f b n fu 137 6 1 ∧ pL Y nn f b n fu 136 7 2 ∧ pJ Y nn f b n fu 132 8 7 0 ∧ pJ Y nn f b n fu 131 9 8 1 ∧ pX Y nn f b n fu := by
  intro fu
  induction fu with
  | zero =>
    exact ⟨fun _ _ _ _ _ _ _ _ _ hg => by rw [rdP] at hg; exact absurd hg (by simp), fun _ _ _ _ _ _ _ _ _ hg => by rw [rdP] at hg; exact absurd hg (by simp), fun _ _ _ _ _ _ _ _ _ hg => by rw [rdP] at hg; exact absurd hg (by simp), fun _ _ _ _ _ _ _ _ _ hg => by rw [rdP] at hg; exact absurd hg (by simp), fun _ _ _ _ _ _ _ _ _ hg => by rw [rdP] at hg; exact absurd hg (by simp), fun _ _ _ _ _ _ _ _ _ hg => by rw [rdP] at hg; exact absurd hg (by simp), fun _ _ _ _ _ _ _ _ _ _ _ _ _ _ _ hg => by rw [rdP] at hg; exact absurd hg (by simp), fun _ _ _ _ _ _ _ _ _ _ _ _ _ _ _ hg => by rw [rdP] at hg; exact absurd hg (by simp), fun _ _ _ _ _ _ _ _ _ _ _ _ _ _ _ _ hg => by rw [rdP] at hg; exact absurd hg (by simp), fun _ _ _ _ _ _ _ _ _ _ _ _ _ _ _ _ hg => by rw [rdP] at hg; exact absurd hg (by simp), fun _ _ _ _ _ _ _ _ _ _ _ hg => by rw [rdP] at hg; exact absurd hg (by simp)⟩
  | succ fu ih =>
    obtain ⟨i0, i1, i2, i3, i4, i5, i6, i7, i8, i9, ix⟩ := ih
    exact ⟨pM0_s hY h400 hb hf i2, pM1_s hY i0 i6, pM2_s hY i1 i7, pM3_s hY h400 hb hf ix, pM4_s hY i3 i8, pM5_s hY i4 i9, pL6_s hY h400 hb hf i0 i6, pL7_s hY h400 hb hf i1 i7, pJ8_s hY h400 hb hf i3 i8, pJ9_s hY h400 hb hf i4 i9, pX_s hY h400 hb hf i5 i2⟩
end
