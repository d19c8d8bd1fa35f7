/-! Contracts of the reference, sixth part: PART, tests, all of the evaluation. -/
section
variable {Y : vi_Y} {nn : Nat × Nat} {B e fu : Nat} {cd vl W f : Nat → Int}
theorem eM1_s (hY : kY Y 151) (i0h : eS Y nn f B e cd vl W fu 286 0 3) (ih6 : eL Y nn f B e cd vl W fu 285 6 3) : eS Y nn f B e cd vl W (fu + 1) 285 1 4 := by
  intro D dp i l lv bk M a i' l' c Q hg hdp hD hE h112 hlv hbk hQ
  obtain ⟨R1, -⟩ := y_112 hY (by omega)
  obtain ⟨D, rfl⟩ : ∃ k, D = k + 1 := ⟨D - 1, by omega⟩
  rw [rdP] at hg
  have cont : vi_call GG D 286 [.inr (.inr 112), .inl lv] (Y, M, nn) (fun r w' => vi_ok GG D 285 5 [some (.inr (.inr 112)), some (.inl lv), none, none, none, none, none] r.toList w' Q) := by
    cases hr : rdP cd vl fu 0 dp i l a with
    | none => rw [hr] at hg; cases hg
    | some r0 =>
      obtain ⟨ok, i2, l2, c2⟩ := r0
      rw [hr] at hg
      cases ok with
      | false => cases hg
      | true =>
        dsimp only at hg
        refine i0h D dp i l lv bk M a i2 l2 c2 _ hr hdp (by omega) hE h112 hlv hbk fun y b2 hy => ?_
        have := ih6 D dp i2 l2 lv bk b2 y _ c2 i' l' c none none none Q hg hdp (by omega) (eOk_r hE) vi_rs_s hlv hbk hy (fun v b3 hv => by rw [vi_rs_rs]; exact hQ v b3 hv)
        clear hQ ih6 i0h
        simp (disch := omega) only [Option.toList_some, Option.toList_none, List.nil_append, List.cons_append, List.append_nil, true_and, and_true, not_true_eq_false, not_false_eq_true, true_implies, false_implies, implies_true, and_self, Int.reduceLT, Int.reduceLE, Int.reduceEq, Int.reduceNe, Int.reduceAdd, Int.reduceSub, Int.reduceMul, Int.reduceNeg, Int.reduceToNat, Int.toNat_natCast, ↓kk_ck, ↓kk_im, ↓kk_in, s_285_5]
        exact this
  clear hQ ih6 i0h hg
  simp (disch := omega) only [Option.toList_some, Option.toList_none, List.nil_append, List.cons_append, List.append_nil, true_and, and_true, not_true_eq_false, not_false_eq_true, true_implies, false_implies, implies_true, and_self, Int.reduceLT, Int.reduceLE, Int.reduceEq, Int.reduceNe, Int.reduceAdd, Int.reduceSub, Int.reduceMul, Int.reduceNeg, Int.reduceToNat, Int.toNat_natCast, ↓kk_ck, ↓kk_im, ↓kk_in, e_285, s_285_0, R1]
  exact cont
theorem eM2_s (hY : kY Y 151) (i0h : eS Y nn f B e cd vl W fu 285 1 4) (ih6 : eL Y nn f B e cd vl W fu 284 7 4) : eS Y nn f B e cd vl W (fu + 1) 284 2 5 := by
  intro D dp i l lv bk M a i' l' c Q hg hdp hD hE h112 hlv hbk hQ
  obtain ⟨R1, -⟩ := y_112 hY (by omega)
  obtain ⟨D, rfl⟩ : ∃ k, D = k + 1 := ⟨D - 1, by omega⟩
  rw [rdP] at hg
  have cont : vi_call GG D 285 [.inr (.inr 112), .inl lv] (Y, M, nn) (fun r w' => vi_ok GG D 284 5 [some (.inr (.inr 112)), some (.inl lv), none, none, none, none, none] r.toList w' Q) := by
    cases hr : rdP cd vl fu 1 dp i l a with
    | none => rw [hr] at hg; cases hg
    | some r0 =>
      obtain ⟨ok, i2, l2, c2⟩ := r0
      rw [hr] at hg
      cases ok with
      | false => cases hg
      | true =>
        dsimp only at hg
        refine i0h D dp i l lv bk M a i2 l2 c2 _ hr hdp (by omega) hE h112 hlv hbk fun y b2 hy => ?_
        have := ih6 D dp i2 l2 lv bk b2 y _ c2 i' l' c none none none Q hg hdp (by omega) (eOk_r hE) vi_rs_s hlv hbk hy (fun v b3 hv => by rw [vi_rs_rs]; exact hQ v b3 hv)
        clear hQ ih6 i0h
        simp (disch := omega) only [Option.toList_some, Option.toList_none, List.nil_append, List.cons_append, List.append_nil, true_and, and_true, not_true_eq_false, not_false_eq_true, true_implies, false_implies, implies_true, and_self, Int.reduceLT, Int.reduceLE, Int.reduceEq, Int.reduceNe, Int.reduceAdd, Int.reduceSub, Int.reduceMul, Int.reduceNeg, Int.reduceToNat, Int.toNat_natCast, ↓kk_ck, ↓kk_im, ↓kk_in, s_284_5]
        exact this
  clear hQ ih6 i0h hg
  simp (disch := omega) only [Option.toList_some, Option.toList_none, List.nil_append, List.cons_append, List.append_nil, true_and, and_true, not_true_eq_false, not_false_eq_true, true_implies, false_implies, implies_true, and_self, Int.reduceLT, Int.reduceLE, Int.reduceEq, Int.reduceNe, Int.reduceAdd, Int.reduceSub, Int.reduceMul, Int.reduceNeg, Int.reduceToNat, Int.toNat_natCast, ↓kk_ck, ↓kk_im, ↓kk_in, e_284, s_284_0, R1]
  exact cont
theorem eM4_s (hY : kY Y 151) (i0h : eT Y nn f B e cd vl W fu 289 3 7) (ih6 : eG Y nn f B e cd vl W fu 288 8 7) : eT Y nn f B e cd vl W (fu + 1) 288 4 8 := by
  intro D dp i l lv bk M a i' l' c Q hg hdp hD hE h112 hlv hbk hQ
  obtain ⟨R1, -⟩ := y_112 hY (by omega)
  obtain ⟨D, rfl⟩ : ∃ k, D = k + 1 := ⟨D - 1, by omega⟩
  rw [rdP] at hg
  have cont : vi_call GG D 289 [.inr (.inr 112), .inl lv] (Y, M, nn) (fun r w' => vi_ok GG D 288 5 [some (.inr (.inr 112)), some (.inl lv), none, none] r.toList w' Q) := by
    cases hr : rdP cd vl fu 3 dp i l a with
    | none => rw [hr] at hg; cases hg
    | some r0 =>
      obtain ⟨ok, i2, l2, c2⟩ := r0
      rw [hr] at hg
      cases ok with
      | false => cases hg
      | true =>
        dsimp only at hg
        refine i0h D dp i l lv bk M a i2 l2 c2 _ hr hdp (by omega) hE h112 hlv hbk fun y b2 hy01 hy => ?_
        have := ih6 D dp i2 l2 lv bk b2 y _ c2 i' l' c none Q hg hdp (by omega) (eOk_r hE) vi_rs_s hlv hbk hy01 hy (fun v b3 hv01 hv => by rw [vi_rs_rs]; exact hQ v b3 hv01 hv)
        clear hQ ih6 i0h
        simp (disch := omega) only [Option.toList_some, Option.toList_none, List.nil_append, List.cons_append, List.append_nil, true_and, and_true, not_true_eq_false, not_false_eq_true, true_implies, false_implies, implies_true, and_self, Int.reduceLT, Int.reduceLE, Int.reduceEq, Int.reduceNe, Int.reduceAdd, Int.reduceSub, Int.reduceMul, Int.reduceNeg, Int.reduceToNat, Int.toNat_natCast, ↓kk_ck, ↓kk_im, ↓kk_in, s_288_5]
        exact this
  clear hQ ih6 i0h hg
  simp (disch := omega) only [Option.toList_some, Option.toList_none, List.nil_append, List.cons_append, List.append_nil, true_and, and_true, not_true_eq_false, not_false_eq_true, true_implies, false_implies, implies_true, and_self, Int.reduceLT, Int.reduceLE, Int.reduceEq, Int.reduceNe, Int.reduceAdd, Int.reduceSub, Int.reduceMul, Int.reduceNeg, Int.reduceToNat, Int.toNat_natCast, ↓kk_ck, ↓kk_im, ↓kk_in, e_288, s_288_0, R1]
  exact cont
theorem eM5_s (hY : kY Y 151) (i0h : eT Y nn f B e cd vl W fu 288 4 8) (ih6 : eG Y nn f B e cd vl W fu 287 9 8) : eT Y nn f B e cd vl W (fu + 1) 287 5 9 := by
  intro D dp i l lv bk M a i' l' c Q hg hdp hD hE h112 hlv hbk hQ
  obtain ⟨R1, -⟩ := y_112 hY (by omega)
  obtain ⟨D, rfl⟩ : ∃ k, D = k + 1 := ⟨D - 1, by omega⟩
  rw [rdP] at hg
  have cont : vi_call GG D 288 [.inr (.inr 112), .inl lv] (Y, M, nn) (fun r w' => vi_ok GG D 287 5 [some (.inr (.inr 112)), some (.inl lv), none, none] r.toList w' Q) := by
    cases hr : rdP cd vl fu 4 dp i l a with
    | none => rw [hr] at hg; cases hg
    | some r0 =>
      obtain ⟨ok, i2, l2, c2⟩ := r0
      rw [hr] at hg
      cases ok with
      | false => cases hg
      | true =>
        dsimp only at hg
        refine i0h D dp i l lv bk M a i2 l2 c2 _ hr hdp (by omega) hE h112 hlv hbk fun y b2 hy01 hy => ?_
        have := ih6 D dp i2 l2 lv bk b2 y _ c2 i' l' c none Q hg hdp (by omega) (eOk_r hE) vi_rs_s hlv hbk hy01 hy (fun v b3 hv01 hv => by rw [vi_rs_rs]; exact hQ v b3 hv01 hv)
        clear hQ ih6 i0h
        simp (disch := omega) only [Option.toList_some, Option.toList_none, List.nil_append, List.cons_append, List.append_nil, true_and, and_true, not_true_eq_false, not_false_eq_true, true_implies, false_implies, implies_true, and_self, Int.reduceLT, Int.reduceLE, Int.reduceEq, Int.reduceNe, Int.reduceAdd, Int.reduceSub, Int.reduceMul, Int.reduceNeg, Int.reduceToNat, Int.toNat_natCast, ↓kk_ck, ↓kk_im, ↓kk_in, s_287_5]
        exact this
  clear hQ ih6 i0h hg
  simp (disch := omega) only [Option.toList_some, Option.toList_none, List.nil_append, List.cons_append, List.append_nil, true_and, and_true, not_true_eq_false, not_false_eq_true, true_implies, false_implies, implies_true, and_self, Int.reduceLT, Int.reduceLE, Int.reduceEq, Int.reduceNe, Int.reduceAdd, Int.reduceSub, Int.reduceMul, Int.reduceNeg, Int.reduceToNat, Int.toNat_natCast, ↓kk_ck, ↓kk_im, ↓kk_in, e_287, s_287_0, R1]
  exact cont
/-- a PART -/
theorem eM0_s (hY : kY Y 151) (i2h : eS Y nn f B e cd vl W fu 284 2 5) : eS Y nn f B e cd vl W (fu + 1) 286 0 3 := by
  intro D dp i l lv bk M a i' l' c Q hg hdp hD hE h112 hlv hbk hQ
  obtain ⟨R1, -, R3, -, -, -, -, -, -, -, -, R22, -⟩ := y_112 hY (by omega)
  obtain ⟨u1, u2⟩ := y_114 hY (by omega)
  obtain ⟨v1, v2⟩ := y_123 hY (by omega)
  obtain ⟨D, rfl⟩ : ∃ k, D = k + 1 := ⟨D - 1, by omega⟩
  have h19 : M 112 19 = ((B + i : Nat) : Int) := by rw [h112]; rfl
  have he := hE.1
  have T := fun {D : Nat} {K : Option vi_V → vi_W → Prop} (hD : 2 ≤ D) => @k_282 D K Y M nn B e cd vl W f hY hE i bk 191 (by decide) h112 hD
  rw [rdP] at hg
  by_cases hc : cd i = 191
  · rw [if_pos hc] at hg
    rw [decide_eq_true hc, if_pos hc] at T
    by_cases h8 : dp = 8
    · rw [if_pos h8] at hg
      cases hg
    · rw [if_neg h8] at hg
      generalize hM1 : vi_rs M 112 (eRow f (B + (i + 1)) bk) = M1 at T
      have m1 : M1 112 = eRow f (B + (i + 1)) bk := by rw [← hM1, vi_rs_s]
      have E1 : eOk M1 f B e cd vl W := by rw [← hM1]; exact eOk_r hE
      have e1 : ∀ g, vi_rs M1 112 g = vi_rs M 112 g := fun g => by rw [← hM1, vi_rs_rs]
      have cont : vi_call GG D 284 [.inr (.inr 112), .inl lv] (Y, M1, nn) (fun r w' => vi_ok GG D 286 17 [some (.inr (.inr 112)), some (.inl lv), none, none] r.toList w' Q) := by
        cases hr : rdP cd vl fu 2 (dp + 1) (i + 1) l a with
        | none => rw [hr] at hg; cases hg
        | some r0 =>
          obtain ⟨ok, i2, l2, c2⟩ := r0
          rw [hr] at hg
          cases ok with
          | false => cases hg
          | true =>
            dsimp only at hg
            refine i2h D (dp + 1) (i + 1) l lv bk M1 a i2 l2 c2 _ hr (by omega) (by omega) E1 m1 hlv hbk fun y b2 hy => ?_
            rw [e1]
            by_cases h93 : cd i2 = 193
            · rw [if_pos h93] at hg
              cases hg
              have hi := eOk_i hE (i := i2) (by omega)
              have := hQ y b2 hy
              have w19 : eRow f (B + i2) b2 19 = ((B + i2 : Nat) : Int) := rfl
              have e2 : ((B + i2 + 1 : Nat) : Int) = ((B + (i2 + 1) : Nat) : Int) := by omega
              clear hQ i2h T hy
              simp (disch := omega) only [Option.toList_some, Option.toList_none, List.nil_append, List.cons_append, List.append_nil, true_and, and_true, not_true_eq_false, not_false_eq_true, true_implies, false_implies, implies_true, and_self, Int.reduceLT, Int.reduceLE, Int.reduceEq, Int.reduceNe, Int.reduceAdd, Int.reduceSub, Int.reduceMul, Int.reduceNeg, Int.reduceToNat, Int.toNat_natCast, ↓kk_ck, ↓kk_im, ↓kk_in, s_286_17, s_286_23, s_286_28, R1, vi_rs_s, w19, vi_inc, e2, vi_ms_rs, eRow_19, vi_rs_rs]
              exact this
            · rw [if_neg h93] at hg
              cases hg
      clear hQ i2h hg
      simp (disch := omega) only [Option.toList_some, Option.toList_none, List.nil_append, List.cons_append, List.append_nil, true_and, and_true, not_true_eq_false, not_false_eq_true, true_implies, false_implies, implies_true, and_self, Int.reduceLT, Int.reduceLE, Int.reduceEq, Int.reduceNe, Int.reduceAdd, Int.reduceSub, Int.reduceMul, Int.reduceNeg, Int.reduceToNat, Int.toNat_natCast, ↓kk_ck, ↓kk_im, ↓kk_in, e_286, s_286_0, s_286_6, s_286_9, s_286_12, R1, k_269, T, vi_bt]
      exact cont
  · rw [if_neg hc] at hg
    rw [decide_eq_false hc, if_neg hc, vi_rs_id h112] at T
    by_cases hw : (cd i = 50 ∧ vl i ≤ 1000) ∨ (8 ≤ cd i ∧ cd i ≤ 13)
    · rw [if_pos hw] at hg
      by_cases h50 : l = 50
      · rw [if_pos h50] at hg
        cases hg
      · rw [if_neg h50] at hg
        cases hg
        have hi := eOk_i hE (i := i) (by omega)
        have e2 : ((B + i + 1 : Nat) : Int) = ((B + (i + 1) : Nat) : Int) := by omega
        have e3 : ((B + i : Nat) : Int) + 1 = ((B + (i + 1) : Nat) : Int) := by omega
        have e9 : vi_u (M 112) 19 ((B + (i + 1) : Nat) : Int) = eRow f (B + (i + 1)) bk := by rw [h112]; exact eRow_19
        have v21 : eRow f (B + (i + 1)) bk 21 = bk := rfl
        have v19 : eRow f (B + (i + 1)) bk 19 = ((B + (i + 1) : Nat) : Int) := rfl
        have dead : ¬ (lv = 1 ∧ bk = 0) → Q (some (.inr (.inl 0))) (Y, vi_rs M 112 (eRow f (B + (i + 1)) bk), nn) := fun h => hQ 0 bk ⟨hbk, fun _ => rfl, fun h1 h2 => absurd ⟨h1, h2⟩ h⟩
        rcases hlv with rfl | rfl
        · have := dead (by omega)
          clear hQ i2h dead
          simp (disch := omega) only [Option.toList_some, Option.toList_none, List.nil_append, List.cons_append, List.append_nil, true_and, and_true, not_true_eq_false, not_false_eq_true, true_implies, false_implies, implies_true, and_self, Int.reduceLT, Int.reduceLE, Int.reduceEq, Int.reduceNe, Int.reduceAdd, Int.reduceSub, Int.reduceMul, Int.reduceNeg, Int.reduceToNat, Int.toNat_natCast, ↓kk_ck, ↓kk_im, ↓kk_in, e_286, s_286_0, s_286_12, s_286_30, s_286_53, s_286_60, s_286_62, s_286_68, s_286_87, s_286_97, s_286_6, s_286_17, s_286_35, s_286_57, s_286_72, s_286_91, s_286_9, s_286_23, s_286_38, s_286_79, s_286_95, s_286_28, s_286_44, s_286_82, s_286_96, s_286_49, s_286_83, R1, k_269, T, vi_bf, h19, k_281 hY hE h112, vi_inc, e2, vi_ms_rs, e9]
          exact this
        · rcases hbk with rfl | rfl
          · have bounds : -1000000000 ≤ (if cd i = 50 then vl i else W (cd i - 7).toNat) ∧ (if cd i = 50 then vl i else W (cd i - 7).toNat) ≤ 1000000000 := by
              by_cases q : cd i = 50
              · rw [if_pos q]
                have := hE.2.2.2.2.2.1 i
                omega
              · rw [if_neg q]
                exact hE.2.2.2.2.2.2 _
            have gl : gLf cd vl i W = some (if cd i = 50 then vl i else W (cd i - 7).toNat) := by
              unfold gLf
              by_cases q : cd i = 50
              · simp only [if_pos q]
              · simp only [if_neg q]
            have := hQ _ 0 ⟨.inl rfl, fun _ => rfl, fun h1 h2 => ⟨fun x hx => ⟨by rw [gl] at hx; exact Option.some.inj hx, rfl, by rw [gl] at hx; rw [← Option.some.inj hx]; exact bounds.1, by rw [gl] at hx; rw [← Option.some.inj hx]; exact bounds.2⟩, fun hx => by rw [gl] at hx; cases hx⟩⟩
            clear hQ i2h dead bounds gl
            by_cases q : cd i = 50
            · rw [if_pos q] at this
              have hp := (hE.2.2.1 i hi).2
              have a1 : (2703 + ((B + (i + 1) : Nat) : Int) - 1).toNat = 2703 + (B + i) := by omega
              simp (disch := omega) only [Option.toList_some, Option.toList_none, List.nil_append, List.cons_append, List.append_nil, true_and, and_true, not_true_eq_false, not_false_eq_true, true_implies, false_implies, implies_true, and_self, Int.reduceLT, Int.reduceLE, Int.reduceEq, Int.reduceNe, Int.reduceAdd, Int.reduceSub, Int.reduceMul, Int.reduceNeg, Int.reduceToNat, Int.toNat_natCast, ↓kk_ck, ↓kk_im, ↓kk_in, e_286, s_286_0, s_286_12, s_286_30, s_286_53, s_286_60, s_286_62, s_286_68, s_286_87, s_286_97, s_286_6, s_286_17, s_286_35, s_286_57, s_286_72, s_286_91, s_286_9, s_286_23, s_286_38, s_286_79, s_286_95, s_286_28, s_286_44, s_286_82, s_286_96, s_286_49, s_286_83, R1, R3, u1, u2, k_269, T, vi_bf, h19, k_281 hY hE h112, e3, vi_ms_rs, vi_rs_s, e9, v21, v19, q, ne_eq, vi_32, vi_rs_o, a1, hp]
              exact this
            · rw [if_neg q] at this
              obtain ⟨q1, q2⟩ : 8 ≤ cd i ∧ cd i ≤ 13 := by omega
              have hp := hE.2.2.2.2.1 (cd i - 8).toNat (by omega)
              have a1 : (cd i - 8).toNat + 1 = (cd i - 7).toNat := by omega
              rw [a1] at hp
              simp (disch := omega) only [Option.toList_some, Option.toList_none, List.nil_append, List.cons_append, List.append_nil, true_and, and_true, not_true_eq_false, not_false_eq_true, true_implies, false_implies, implies_true, and_self, Int.reduceLT, Int.reduceLE, Int.reduceEq, Int.reduceNe, Int.reduceAdd, Int.reduceSub, Int.reduceMul, Int.reduceNeg, Int.reduceToNat, Int.toNat_natCast, ↓kk_ck, ↓kk_im, ↓kk_in, e_286, s_286_0, s_286_12, s_286_30, s_286_53, s_286_60, s_286_62, s_286_68, s_286_87, s_286_97, s_286_6, s_286_17, s_286_35, s_286_57, s_286_72, s_286_91, s_286_9, s_286_23, s_286_38, s_286_79, s_286_95, s_286_28, s_286_44, s_286_82, s_286_96, s_286_49, s_286_83, R1, R22, v1, v2, k_269, T, vi_bf, h19, k_281 hY hE h112, e3, vi_ms_rs, vi_rs_s, e9, v21, v19, q, ne_eq, vi_32, vi_rs_o, hp]
              exact this
          · have := dead (by omega)
            clear hQ i2h dead
            simp (disch := omega) only [Option.toList_some, Option.toList_none, List.nil_append, List.cons_append, List.append_nil, true_and, and_true, not_true_eq_false, not_false_eq_true, true_implies, false_implies, implies_true, and_self, Int.reduceLT, Int.reduceLE, Int.reduceEq, Int.reduceNe, Int.reduceAdd, Int.reduceSub, Int.reduceMul, Int.reduceNeg, Int.reduceToNat, Int.toNat_natCast, ↓kk_ck, ↓kk_im, ↓kk_in, e_286, s_286_0, s_286_12, s_286_30, s_286_53, s_286_60, s_286_62, s_286_68, s_286_87, s_286_97, s_286_6, s_286_17, s_286_35, s_286_57, s_286_72, s_286_91, s_286_9, s_286_23, s_286_38, s_286_79, s_286_95, s_286_28, s_286_44, s_286_82, s_286_96, s_286_49, s_286_83, R1, k_269, T, vi_bf, h19, k_281 hY hE h112, vi_inc, e2, vi_ms_rs, vi_rs_s, e9, v21, ne_eq]
            exact this
    · rw [if_neg hw] at hg
      cases hg
theorem eG8_s (hY : kY Y 151) (i0h : eT Y nn f B e cd vl W fu 289 3 7) (ihh : eG Y nn f B e cd vl W fu 288 8 7) : eG Y nn f B e cd vl W (fu + 1) 288 8 7 := by
  intro D dp i l lv b0 bk x M a i' l' c l3 Q hg hdp hD hE h112 hlv hb0 hx ho hQ
  obtain ⟨R1, -⟩ := y_112 hY (by omega)
  have T := fun {D : Nat} {K : Option vi_V → vi_W → Prop} (hD : 2 ≤ D) => @k_282 D K Y M nn B e cd vl W f hY hE i bk 6 (by decide) h112 hD
  rw [rdP] at hg
  by_cases hc : cd i = 6
  · rw [if_pos hc] at hg
    rw [decide_eq_true hc, if_pos hc] at T
    generalize hM1 : vi_rs M 112 (eRow f (B + (i + 1)) bk) = M1 at T
    have m1 : M1 112 = eRow f (B + (i + 1)) bk := by rw [← hM1, vi_rs_s]
    have E1 : eOk M1 f B e cd vl W := by rw [← hM1]; exact eOk_r hE
    have e1 : ∀ g, vi_rs M1 112 g = vi_rs M 112 g := fun g => by rw [← hM1, vi_rs_rs]
    have cont : vi_call GG D 289 [.inr (.inr 112), .inl (if x = 0 then 0 else lv)] (Y, M1, nn) (fun r w' => vi_ok GG D 288 32 [some (.inr (.inr 112)), some (.inl lv), some (.inl x), l3] r.toList w' Q) := by
      cases hr : rdP cd vl fu 3 dp (i + 1) l a with
      | none => rw [hr] at hg; cases hg
      | some r0 =>
        obtain ⟨ok, i2, l2, c2⟩ := r0
        rw [hr] at hg
        cases ok with
        | false => cases hg
        | true =>
          dsimp only at hg
          refine i0h D dp (i + 1) l (if x = 0 then 0 else lv) bk M1 a i2 l2 c2 _ hr hdp hD E1 m1 (by split <;> omega) ho.1 fun y b2 hy01 hy => ?_
          rw [e1]
          have nxt : ∀ z l3, z = (if x = 0 then x else y) → (z = 0 ∨ z = 1) → vi_ok GG D 288 6 [some (.inr (.inr 112)), some (.inl lv), some (.inl z), l3] [] (Y, vi_rs M 112 (eRow f (B + i2) b2), nn) Q := by
            intro z l3 hz z01
            refine ihh D dp i2 l2 lv b0 b2 z _ _ i' l' c l3 Q hg hdp hD (eOk_r hE) vi_rs_s hlv hb0 z01 (eOut_A ho hx rfl hy hz) fun v' b4 hv1 hv => ?_
            rw [vi_rs_rs]
            exact hQ v' b4 hv1 hv
          clear ihh i0h hQ hg hy ho T
          rcases hx with rfl | rfl
          · have := nxt 0 (some (.inl y)) rfl (by omega)
            clear nxt
            simp (disch := omega) only [Option.toList_some, Option.toList_none, List.nil_append, List.cons_append, List.append_nil, true_and, and_true, not_true_eq_false, not_false_eq_true, true_implies, false_implies, implies_true, and_self, Int.reduceLT, Int.reduceLE, Int.reduceEq, Int.reduceNe, Int.reduceAdd, Int.reduceSub, Int.reduceMul, Int.reduceNeg, Int.reduceToNat, Int.toNat_natCast, ↓kk_ck, ↓kk_im, ↓kk_in, s_288_32, s_288_37, s_288_41, s_288_45, s_288_46]
            exact this
          · rcases hy01 with rfl | rfl
            · have := nxt 0 (some (.inl 0)) rfl (by omega)
              clear nxt
              simp (disch := omega) only [Option.toList_some, Option.toList_none, List.nil_append, List.cons_append, List.append_nil, true_and, and_true, not_true_eq_false, not_false_eq_true, true_implies, false_implies, implies_true, and_self, Int.reduceLT, Int.reduceLE, Int.reduceEq, Int.reduceNe, Int.reduceAdd, Int.reduceSub, Int.reduceMul, Int.reduceNeg, Int.reduceToNat, Int.toNat_natCast, ↓kk_ck, ↓kk_im, ↓kk_in, s_288_32, s_288_37, s_288_41, s_288_45, s_288_46]
              exact this
            · have := nxt 1 (some (.inl 1)) rfl (by omega)
              clear nxt
              simp (disch := omega) only [Option.toList_some, Option.toList_none, List.nil_append, List.cons_append, List.append_nil, true_and, and_true, not_true_eq_false, not_false_eq_true, true_implies, false_implies, implies_true, and_self, Int.reduceLT, Int.reduceLE, Int.reduceEq, Int.reduceNe, Int.reduceAdd, Int.reduceSub, Int.reduceMul, Int.reduceNeg, Int.reduceToNat, Int.toNat_natCast, ↓kk_ck, ↓kk_im, ↓kk_in, s_288_32, s_288_37, s_288_41, s_288_45, s_288_46]
              exact this
    rw [s_288_6]
    clear hQ ihh i0h hg ho
    rcases hx with rfl | rfl
    · rw [if_pos rfl] at cont
      rcases hlv with rfl | rfl
      · simp (disch := omega) only [Option.toList_some, Option.toList_none, List.nil_append, List.cons_append, List.append_nil, true_and, and_true, not_true_eq_false, not_false_eq_true, true_implies, false_implies, implies_true, and_self, Int.reduceLT, Int.reduceLE, Int.reduceEq, Int.reduceNe, Int.reduceAdd, Int.reduceSub, Int.reduceMul, Int.reduceNeg, Int.reduceToNat, Int.toNat_natCast, ↓kk_ck, ↓kk_im, ↓kk_in, s_288_12, s_288_15, s_288_20, s_288_24, s_288_28, s_288_29, R1, T, vi_bt]
        exact cont
      · simp (disch := omega) only [Option.toList_some, Option.toList_none, List.nil_append, List.cons_append, List.append_nil, true_and, and_true, not_true_eq_false, not_false_eq_true, true_implies, false_implies, implies_true, and_self, Int.reduceLT, Int.reduceLE, Int.reduceEq, Int.reduceNe, Int.reduceAdd, Int.reduceSub, Int.reduceMul, Int.reduceNeg, Int.reduceToNat, Int.toNat_natCast, ↓kk_ck, ↓kk_im, ↓kk_in, s_288_12, s_288_15, s_288_20, s_288_24, s_288_28, s_288_29, R1, T, vi_bt]
        exact cont
    · rw [if_neg (by omega)] at cont
      rcases hlv with rfl | rfl
      · simp (disch := omega) only [Option.toList_some, Option.toList_none, List.nil_append, List.cons_append, List.append_nil, true_and, and_true, not_true_eq_false, not_false_eq_true, true_implies, false_implies, implies_true, and_self, Int.reduceLT, Int.reduceLE, Int.reduceEq, Int.reduceNe, Int.reduceAdd, Int.reduceSub, Int.reduceMul, Int.reduceNeg, Int.reduceToNat, Int.toNat_natCast, ↓kk_ck, ↓kk_im, ↓kk_in, s_288_12, s_288_15, s_288_20, s_288_24, s_288_28, s_288_29, R1, T, vi_bt]
        exact cont
      · simp (disch := omega) only [Option.toList_some, Option.toList_none, List.nil_append, List.cons_append, List.append_nil, true_and, and_true, not_true_eq_false, not_false_eq_true, true_implies, false_implies, implies_true, and_self, Int.reduceLT, Int.reduceLE, Int.reduceEq, Int.reduceNe, Int.reduceAdd, Int.reduceSub, Int.reduceMul, Int.reduceNeg, Int.reduceToNat, Int.toNat_natCast, ↓kk_ck, ↓kk_im, ↓kk_in, s_288_12, s_288_15, s_288_20, s_288_24, s_288_28, s_288_29, R1, T, vi_bt]
        exact cont
  · rw [if_neg hc] at hg
    rw [decide_eq_false hc, if_neg hc, vi_rs_id h112] at T
    cases hg
    have := hQ x bk hx ho
    rw [vi_rs_id h112] at this
    rw [s_288_6]
    clear hQ ihh i0h ho
    rcases hx with rfl | rfl
    · simp (disch := omega) only [Option.toList_some, Option.toList_none, List.nil_append, List.cons_append, List.append_nil, true_and, and_true, not_true_eq_false, not_false_eq_true, true_implies, false_implies, implies_true, and_self, Int.reduceLT, Int.reduceLE, Int.reduceEq, Int.reduceNe, Int.reduceAdd, Int.reduceSub, Int.reduceMul, Int.reduceNeg, Int.reduceToNat, Int.toNat_natCast, ↓kk_ck, ↓kk_im, ↓kk_in, s_288_12, s_288_50, R1, T, vi_bf]
      exact this
    · simp (disch := omega) only [Option.toList_some, Option.toList_none, List.nil_append, List.cons_append, List.append_nil, true_and, and_true, not_true_eq_false, not_false_eq_true, true_implies, false_implies, implies_true, and_self, Int.reduceLT, Int.reduceLE, Int.reduceEq, Int.reduceNe, Int.reduceAdd, Int.reduceSub, Int.reduceMul, Int.reduceNeg, Int.reduceToNat, Int.toNat_natCast, ↓kk_ck, ↓kk_im, ↓kk_in, s_288_12, s_288_50, R1, T, vi_bf]
      exact this
theorem eG9_s (hY : kY Y 151) (i0h : eT Y nn f B e cd vl W fu 288 4 8) (ihh : eG Y nn f B e cd vl W fu 287 9 8) : eG Y nn f B e cd vl W (fu + 1) 287 9 8 := by
  intro D dp i l lv b0 bk x M a i' l' c l3 Q hg hdp hD hE h112 hlv hb0 hx ho hQ
  obtain ⟨R1, -⟩ := y_112 hY (by omega)
  have T := fun {D : Nat} {K : Option vi_V → vi_W → Prop} (hD : 2 ≤ D) => @k_282 D K Y M nn B e cd vl W f hY hE i bk 5 (by decide) h112 hD
  rw [rdP] at hg
  by_cases hc : cd i = 5
  · rw [if_pos hc] at hg
    rw [decide_eq_true hc, if_pos hc] at T
    generalize hM1 : vi_rs M 112 (eRow f (B + (i + 1)) bk) = M1 at T
    have m1 : M1 112 = eRow f (B + (i + 1)) bk := by rw [← hM1, vi_rs_s]
    have E1 : eOk M1 f B e cd vl W := by rw [← hM1]; exact eOk_r hE
    have e1 : ∀ g, vi_rs M1 112 g = vi_rs M 112 g := fun g => by rw [← hM1, vi_rs_rs]
    have cont : vi_call GG D 288 [.inr (.inr 112), .inl (if x = 1 then 0 else lv)] (Y, M1, nn) (fun r w' => vi_ok GG D 287 31 [some (.inr (.inr 112)), some (.inl lv), some (.inl x), l3] r.toList w' Q) := by
      cases hr : rdP cd vl fu 4 dp (i + 1) l a with
      | none => rw [hr] at hg; cases hg
      | some r0 =>
        obtain ⟨ok, i2, l2, c2⟩ := r0
        rw [hr] at hg
        cases ok with
        | false => cases hg
        | true =>
          dsimp only at hg
          refine i0h D dp (i + 1) l (if x = 1 then 0 else lv) bk M1 a i2 l2 c2 _ hr hdp hD E1 m1 (by split <;> omega) ho.1 fun y b2 hy01 hy => ?_
          rw [e1]
          have nxt : ∀ z l3, z = (if x = 1 then x else y) → (z = 0 ∨ z = 1) → vi_ok GG D 287 6 [some (.inr (.inr 112)), some (.inl lv), some (.inl z), l3] [] (Y, vi_rs M 112 (eRow f (B + i2) b2), nn) Q := by
            intro z l3 hz z01
            refine ihh D dp i2 l2 lv b0 b2 z _ _ i' l' c l3 Q hg hdp hD (eOk_r hE) vi_rs_s hlv hb0 z01 (eOut_A ho hx rfl hy hz) fun v' b4 hv1 hv => ?_
            rw [vi_rs_rs]
            exact hQ v' b4 hv1 hv
          clear ihh i0h hQ hg hy ho T
          rcases hx with rfl | rfl
          · rcases hy01 with rfl | rfl
            · have := nxt 0 (some (.inl 0)) rfl (by omega)
              clear nxt
              simp (disch := omega) only [Option.toList_some, Option.toList_none, List.nil_append, List.cons_append, List.append_nil, true_and, and_true, not_true_eq_false, not_false_eq_true, true_implies, false_implies, implies_true, and_self, Int.reduceLT, Int.reduceLE, Int.reduceEq, Int.reduceNe, Int.reduceAdd, Int.reduceSub, Int.reduceMul, Int.reduceNeg, Int.reduceToNat, Int.toNat_natCast, ↓kk_ck, ↓kk_im, ↓kk_in, s_287_31, s_287_36, s_287_40, s_287_44, s_287_45, ne_eq]
              exact this
            · have := nxt 1 (some (.inl 1)) rfl (by omega)
              clear nxt
              simp (disch := omega) only [Option.toList_some, Option.toList_none, List.nil_append, List.cons_append, List.append_nil, true_and, and_true, not_true_eq_false, not_false_eq_true, true_implies, false_implies, implies_true, and_self, Int.reduceLT, Int.reduceLE, Int.reduceEq, Int.reduceNe, Int.reduceAdd, Int.reduceSub, Int.reduceMul, Int.reduceNeg, Int.reduceToNat, Int.toNat_natCast, ↓kk_ck, ↓kk_im, ↓kk_in, s_287_31, s_287_36, s_287_40, s_287_44, s_287_45, ne_eq]
              exact this
          · have := nxt 1 (some (.inl y)) rfl (by omega)
            clear nxt
            simp (disch := omega) only [Option.toList_some, Option.toList_none, List.nil_append, List.cons_append, List.append_nil, true_and, and_true, not_true_eq_false, not_false_eq_true, true_implies, false_implies, implies_true, and_self, Int.reduceLT, Int.reduceLE, Int.reduceEq, Int.reduceNe, Int.reduceAdd, Int.reduceSub, Int.reduceMul, Int.reduceNeg, Int.reduceToNat, Int.toNat_natCast, ↓kk_ck, ↓kk_im, ↓kk_in, s_287_31, s_287_36, s_287_40, s_287_44, s_287_45, ne_eq]
            exact this
    rw [s_287_6]
    clear hQ ihh i0h hg ho
    rcases hx with rfl | rfl
    · rw [if_neg (by omega)] at cont
      rcases hlv with rfl | rfl
      · simp (disch := omega) only [Option.toList_some, Option.toList_none, List.nil_append, List.cons_append, List.append_nil, true_and, and_true, not_true_eq_false, not_false_eq_true, true_implies, false_implies, implies_true, and_self, Int.reduceLT, Int.reduceLE, Int.reduceEq, Int.reduceNe, Int.reduceAdd, Int.reduceSub, Int.reduceMul, Int.reduceNeg, Int.reduceToNat, Int.toNat_natCast, ↓kk_ck, ↓kk_im, ↓kk_in, s_287_11, s_287_14, s_287_19, s_287_23, s_287_27, s_287_28, R1, T, vi_bt, ne_eq]
        exact cont
      · simp (disch := omega) only [Option.toList_some, Option.toList_none, List.nil_append, List.cons_append, List.append_nil, true_and, and_true, not_true_eq_false, not_false_eq_true, true_implies, false_implies, implies_true, and_self, Int.reduceLT, Int.reduceLE, Int.reduceEq, Int.reduceNe, Int.reduceAdd, Int.reduceSub, Int.reduceMul, Int.reduceNeg, Int.reduceToNat, Int.toNat_natCast, ↓kk_ck, ↓kk_im, ↓kk_in, s_287_11, s_287_14, s_287_19, s_287_23, s_287_27, s_287_28, R1, T, vi_bt, ne_eq]
        exact cont
    · rw [if_pos rfl] at cont
      rcases hlv with rfl | rfl
      · simp (disch := omega) only [Option.toList_some, Option.toList_none, List.nil_append, List.cons_append, List.append_nil, true_and, and_true, not_true_eq_false, not_false_eq_true, true_implies, false_implies, implies_true, and_self, Int.reduceLT, Int.reduceLE, Int.reduceEq, Int.reduceNe, Int.reduceAdd, Int.reduceSub, Int.reduceMul, Int.reduceNeg, Int.reduceToNat, Int.toNat_natCast, ↓kk_ck, ↓kk_im, ↓kk_in, s_287_11, s_287_14, s_287_19, s_287_23, s_287_27, s_287_28, R1, T, vi_bt, ne_eq]
        exact cont
      · simp (disch := omega) only [Option.toList_some, Option.toList_none, List.nil_append, List.cons_append, List.append_nil, true_and, and_true, not_true_eq_false, not_false_eq_true, true_implies, false_implies, implies_true, and_self, Int.reduceLT, Int.reduceLE, Int.reduceEq, Int.reduceNe, Int.reduceAdd, Int.reduceSub, Int.reduceMul, Int.reduceNeg, Int.reduceToNat, Int.toNat_natCast, ↓kk_ck, ↓kk_im, ↓kk_in, s_287_11, s_287_14, s_287_19, s_287_23, s_287_27, s_287_28, R1, T, vi_bt, ne_eq]
        exact cont
  · rw [if_neg hc] at hg
    rw [decide_eq_false hc, if_neg hc, vi_rs_id h112] at T
    cases hg
    have := hQ x bk hx ho
    rw [vi_rs_id h112] at this
    rw [s_287_6]
    clear hQ ihh i0h ho
    rcases hx with rfl | rfl
    · simp (disch := omega) only [Option.toList_some, Option.toList_none, List.nil_append, List.cons_append, List.append_nil, true_and, and_true, not_true_eq_false, not_false_eq_true, true_implies, false_implies, implies_true, and_self, Int.reduceLT, Int.reduceLE, Int.reduceEq, Int.reduceNe, Int.reduceAdd, Int.reduceSub, Int.reduceMul, Int.reduceNeg, Int.reduceToNat, Int.toNat_natCast, ↓kk_ck, ↓kk_im, ↓kk_in, s_287_11, s_287_49, R1, T, vi_bf]
      exact this
    · simp (disch := omega) only [Option.toList_some, Option.toList_none, List.nil_append, List.cons_append, List.append_nil, true_and, and_true, not_true_eq_false, not_false_eq_true, true_implies, false_implies, implies_true, and_self, Int.reduceLT, Int.reduceLE, Int.reduceEq, Int.reduceNe, Int.reduceAdd, Int.reduceSub, Int.reduceMul, Int.reduceNeg, Int.reduceToNat, Int.toNat_natCast, ↓kk_ck, ↓kk_im, ↓kk_in, s_287_11, s_287_49, R1, T, vi_bf]
      exact this
/-- a PLAIN without its nots -/
theorem eMx_s (hY : kY Y 151) (i5h : eT Y nn f B e cd vl W fu 287 5 9) (i2h : eS Y nn f B e cd vl W fu 284 2 5) : eT Y nn f B e cd vl W (fu + 1) 290 10 6 := by
  intro D dp i l lv bk M a i' l' c Q hg hdp hD hE h112 hlv hbk hQ
  obtain ⟨R1, -⟩ := y_112 hY (by omega)
  obtain ⟨D, rfl⟩ : ∃ k, D = k + 1 := ⟨D - 1, by omega⟩
  have he := hE.1
  have T := fun {D : Nat} {K : Option vi_V → vi_W → Prop} (hD : 2 ≤ D) => @k_282 D K Y M nn B e cd vl W f hY hE i bk 140 (by decide) h112 hD
  rw [rdP] at hg
  by_cases hc : cd i = 140
  · rw [if_pos hc] at hg
    rw [decide_eq_true hc, if_pos hc] at T
    by_cases h8 : dp = 8
    · rw [if_pos h8] at hg
      cases hg
    · rw [if_neg h8] at hg
      generalize hM1 : vi_rs M 112 (eRow f (B + (i + 1)) bk) = M1 at T
      have m1 : M1 112 = eRow f (B + (i + 1)) bk := by rw [← hM1, vi_rs_s]
      have E1 : eOk M1 f B e cd vl W := by rw [← hM1]; exact eOk_r hE
      have e1 : ∀ g, vi_rs M1 112 g = vi_rs M 112 g := fun g => by rw [← hM1, vi_rs_rs]
      have cont : vi_call GG D 287 [.inr (.inr 112), .inl lv] (Y, M1, nn) (fun r w' => vi_ok GG D 290 17 [some (.inr (.inr 112)), some (.inl lv), none, none, none, none, none] r.toList w' Q) := by
        cases hr : rdP cd vl fu 5 (dp + 1) (i + 1) l a with
        | none => rw [hr] at hg; cases hg
        | some r0 =>
          obtain ⟨ok, i2, l2, c2⟩ := r0
          rw [hr] at hg
          cases ok with
          | false => cases hg
          | true =>
            dsimp only at hg
            refine i5h D (dp + 1) (i + 1) l lv bk M1 a i2 l2 c2 _ hr (by omega) (by omega) E1 m1 hlv hbk fun y b2 hy01 hy => ?_
            rw [e1]
            by_cases h93 : cd i2 = 141
            · rw [if_pos h93] at hg
              cases hg
              have hi := eOk_i hE (i := i2) (by omega)
              have := hQ y b2 hy01 hy
              have w19 : eRow f (B + i2) b2 19 = ((B + i2 : Nat) : Int) := rfl
              have e2 : ((B + i2 + 1 : Nat) : Int) = ((B + (i2 + 1) : Nat) : Int) := by omega
              clear hQ i2h i5h T hy
              rcases hy01 with rfl | rfl
              · simp (disch := omega) only [Option.toList_some, Option.toList_none, List.nil_append, List.cons_append, List.append_nil, true_and, and_true, not_true_eq_false, not_false_eq_true, true_implies, false_implies, implies_true, and_self, Int.reduceLT, Int.reduceLE, Int.reduceEq, Int.reduceNe, Int.reduceAdd, Int.reduceSub, Int.reduceMul, Int.reduceNeg, Int.reduceToNat, Int.toNat_natCast, ↓kk_ck, ↓kk_im, ↓kk_in, s_290_17, s_290_23, s_290_28, R1, vi_rs_s, w19, vi_inc, e2, vi_ms_rs, eRow_19, vi_rs_rs]
                exact this
              · simp (disch := omega) only [Option.toList_some, Option.toList_none, List.nil_append, List.cons_append, List.append_nil, true_and, and_true, not_true_eq_false, not_false_eq_true, true_implies, false_implies, implies_true, and_self, Int.reduceLT, Int.reduceLE, Int.reduceEq, Int.reduceNe, Int.reduceAdd, Int.reduceSub, Int.reduceMul, Int.reduceNeg, Int.reduceToNat, Int.toNat_natCast, ↓kk_ck, ↓kk_im, ↓kk_in, s_290_17, s_290_23, s_290_28, R1, vi_rs_s, w19, vi_inc, e2, vi_ms_rs, eRow_19, vi_rs_rs]
                exact this
            · rw [if_neg h93] at hg
              cases hg
      clear hQ i2h i5h hg
      simp (disch := omega) only [Option.toList_some, Option.toList_none, List.nil_append, List.cons_append, List.append_nil, true_and, and_true, not_true_eq_false, not_false_eq_true, true_implies, false_implies, implies_true, and_self, Int.reduceLT, Int.reduceLE, Int.reduceEq, Int.reduceNe, Int.reduceAdd, Int.reduceSub, Int.reduceMul, Int.reduceNeg, Int.reduceToNat, Int.toNat_natCast, ↓kk_ck, ↓kk_im, ↓kk_in, e_290, s_290_0, s_290_6, s_290_9, s_290_12, R1, k_269, T, vi_bt]
      exact cont
  · rw [if_neg hc] at hg
    rw [decide_eq_false hc, if_neg hc, vi_rs_id h112] at T
    have cont : vi_call GG D 284 [.inr (.inr 112), .inl lv] (Y, M, nn) (fun r w' => vi_ok GG D 290 35 [some (.inr (.inr 112)), some (.inl lv), none, none, none, none, none] r.toList w' Q) := by
      cases hr : rdP cd vl fu 2 dp i l a with
      | none => rw [hr] at hg; cases hg
      | some r0 =>
        obtain ⟨ok, i2, l2, c2⟩ := r0
        rw [hr] at hg
        cases ok with
        | false => cases hg
        | true =>
          dsimp only at hg
          by_cases hq : cd i2 = 160 ∨ cd i2 = 162 ∨ cd i2 = 161
          · rw [if_pos hq] at hg
            have hi := eOk_i hE (i := i2) (by omega)
            refine i2h D dp i l lv bk M a i2 l2 c2 _ hr hdp (by omega) hE h112 hlv hbk fun x b1 hx => ?_
            generalize hM1 : vi_rs M 112 (eRow f (B + i2) b1) = M1
            have m1 : M1 112 = eRow f (B + i2) b1 := by rw [← hM1, vi_rs_s]
            have E1 : eOk M1 f B e cd vl W := by rw [← hM1]; exact eOk_r hE
            have w19 : M1 112 19 = ((B + i2 : Nat) : Int) := by rw [m1]; rfl
            have e9 : vi_u (M1 112) 19 ((B + (i2 + 1) : Nat) : Int) = eRow f (B + (i2 + 1)) b1 := by rw [m1]; exact eRow_19
            have e2 : ((B + i2 + 1 : Nat) : Int) = ((B + (i2 + 1) : Nat) : Int) := by omega
            generalize hM2 : vi_rs M1 112 (eRow f (B + (i2 + 1)) b1) = M2
            have m2 : M2 112 = eRow f (B + (i2 + 1)) b1 := by rw [← hM2, vi_rs_s]
            have E2 : eOk M2 f B e cd vl W := by rw [← hM2]; exact eOk_r E1
            have e4 : ∀ g, vi_rs M2 112 g = vi_rs M 112 g := fun g => by rw [← hM2, vi_rs_rs, ← hM1, vi_rs_rs]
            have main2 : vi_call GG D 284 [.inr (.inr 112), .inl lv] (Y, M2, nn) (fun r w' => vi_ok GG D 290 61 [some (.inr (.inr 112)), some (.inl lv), some (.inr (.inl x)), none, some (.inl (cd i2)), none, none] r.toList w' Q) := by
              cases hr2 : rdP cd vl fu 2 dp (i2 + 1) l2 c2 with
              | none => rw [hr2] at hg; cases hg
              | some r2 =>
                obtain ⟨ok2, i4, l4, c4⟩ := r2
                rw [hr2] at hg
                cases ok2 with
                | false => cases hg
                | true =>
                  dsimp only at hg
                  cases hg
                  refine i2h D dp (i2 + 1) l2 lv b1 M2 c2 i' l' c4 _ hr2 hdp (by omega) E2 m2 hlv hx.1 fun y b2 hy => ?_
                  rw [e4]
                  have nxt : ∀ v, (lv = 1 → b2 = 0 → v = lJn (if cd i2 = 160 then 11 else if cd i2 = 162 then 12 else 13) x y) → (v = 0 ∨ v = 1) → Q (some (.inl v)) (Y, vi_rs M 112 (eRow f (B + i') b2), nn) := by
                    intro v hv v01
                    refine hQ v b2 v01 (eOut_J hx hy ⟨hy.1, fun _ => rfl, fun h1 h2 => ⟨fun _ _ => ⟨hv h1 h2, h2⟩, fun h => ?_⟩⟩ (fun _ _ _ _ => rfl))
                    have := hv h1 h2
                    omega
                  have v21 : eRow f (B + i') b2 21 = b2 := rfl
                  clear hQ i2h i5h T
                  have hb2 := hy.1
                  clear hx hy
                  rcases hlv with rfl | rfl
                  · have := nxt 0 (fun h => by omega) (.inl rfl)
                    clear nxt
                    simp (disch := omega) only [Option.toList_some, Option.toList_none, List.nil_append, List.cons_append, List.append_nil, true_and, and_true, not_true_eq_false, not_false_eq_true, true_implies, false_implies, implies_true, and_self, Int.reduceLT, Int.reduceLE, Int.reduceEq, Int.reduceNe, Int.reduceAdd, Int.reduceSub, Int.reduceMul, Int.reduceNeg, Int.reduceToNat, Int.toNat_natCast, ↓kk_ck, ↓kk_im, ↓kk_in, s_290_61, s_290_125, s_290_126]
                    exact this
                  · rcases hb2 with rfl | rfl
                    · by_cases q1 : cd i2 = 160
                      · rw [if_pos q1] at nxt
                        by_cases lt : x < y
                        · have := nxt 1 (fun _ _ => (if_pos lt).symm) (.inr rfl)
                          clear nxt
                          simp (disch := omega) only [Option.toList_some, Option.toList_none, List.nil_append, List.cons_append, List.append_nil, true_and, and_true, not_true_eq_false, not_false_eq_true, true_implies, false_implies, implies_true, and_self, Int.reduceLT, Int.reduceLE, Int.reduceEq, Int.reduceNe, Int.reduceAdd, Int.reduceSub, Int.reduceMul, Int.reduceNeg, Int.reduceToNat, Int.toNat_natCast, ↓kk_ck, ↓kk_im, ↓kk_in, s_290_0, s_290_12, s_290_30, s_290_67, s_290_74, s_290_84, s_290_91, s_290_94, s_290_104, s_290_111, s_290_114, s_290_121, s_290_125, s_290_126, s_290_6, s_290_17, s_290_35, s_290_71, s_290_81, s_290_88, s_290_101, s_290_108, s_290_118, s_290_9, s_290_23, s_290_41, s_290_28, s_290_44, s_290_51, s_290_56, s_290_61, R1, k_269, vi_rs_s, v21, q1, ne_eq, vi_cmge, vi_cmle, vi_cm0, lt]
                          exact this
                        · have := nxt 0 (fun _ _ => (if_neg lt).symm) (.inl rfl)
                          clear nxt
                          simp (disch := omega) only [Option.toList_some, Option.toList_none, List.nil_append, List.cons_append, List.append_nil, true_and, and_true, not_true_eq_false, not_false_eq_true, true_implies, false_implies, implies_true, and_self, Int.reduceLT, Int.reduceLE, Int.reduceEq, Int.reduceNe, Int.reduceAdd, Int.reduceSub, Int.reduceMul, Int.reduceNeg, Int.reduceToNat, Int.toNat_natCast, ↓kk_ck, ↓kk_im, ↓kk_in, s_290_0, s_290_12, s_290_30, s_290_67, s_290_74, s_290_84, s_290_91, s_290_94, s_290_104, s_290_111, s_290_114, s_290_121, s_290_125, s_290_126, s_290_6, s_290_17, s_290_35, s_290_71, s_290_81, s_290_88, s_290_101, s_290_108, s_290_118, s_290_9, s_290_23, s_290_41, s_290_28, s_290_44, s_290_51, s_290_56, s_290_61, R1, k_269, vi_rs_s, v21, q1, ne_eq, vi_cmge, vi_cmle, vi_cm0, lt]
                          exact this
                      · rw [if_neg q1] at nxt
                        by_cases q2 : cd i2 = 162
                        · rw [if_pos q2] at nxt
                          by_cases lt : y < x
                          · have := nxt 1 (fun _ _ => (if_pos lt).symm) (.inr rfl)
                            clear nxt
                            simp (disch := omega) only [Option.toList_some, Option.toList_none, List.nil_append, List.cons_append, List.append_nil, true_and, and_true, not_true_eq_false, not_false_eq_true, true_implies, false_implies, implies_true, and_self, Int.reduceLT, Int.reduceLE, Int.reduceEq, Int.reduceNe, Int.reduceAdd, Int.reduceSub, Int.reduceMul, Int.reduceNeg, Int.reduceToNat, Int.toNat_natCast, ↓kk_ck, ↓kk_im, ↓kk_in, s_290_0, s_290_12, s_290_30, s_290_67, s_290_74, s_290_84, s_290_91, s_290_94, s_290_104, s_290_111, s_290_114, s_290_121, s_290_125, s_290_126, s_290_6, s_290_17, s_290_35, s_290_71, s_290_81, s_290_88, s_290_101, s_290_108, s_290_118, s_290_9, s_290_23, s_290_41, s_290_28, s_290_44, s_290_51, s_290_56, s_290_61, R1, k_269, vi_rs_s, v21, q2, ne_eq, vi_cmge, vi_cmle, vi_cm0, lt]
                            exact this
                          · have := nxt 0 (fun _ _ => (if_neg lt).symm) (.inl rfl)
                            clear nxt
                            simp (disch := omega) only [Option.toList_some, Option.toList_none, List.nil_append, List.cons_append, List.append_nil, true_and, and_true, not_true_eq_false, not_false_eq_true, true_implies, false_implies, implies_true, and_self, Int.reduceLT, Int.reduceLE, Int.reduceEq, Int.reduceNe, Int.reduceAdd, Int.reduceSub, Int.reduceMul, Int.reduceNeg, Int.reduceToNat, Int.toNat_natCast, ↓kk_ck, ↓kk_im, ↓kk_in, s_290_0, s_290_12, s_290_30, s_290_67, s_290_74, s_290_84, s_290_91, s_290_94, s_290_104, s_290_111, s_290_114, s_290_121, s_290_125, s_290_126, s_290_6, s_290_17, s_290_35, s_290_71, s_290_81, s_290_88, s_290_101, s_290_108, s_290_118, s_290_9, s_290_23, s_290_41, s_290_28, s_290_44, s_290_51, s_290_56, s_290_61, R1, k_269, vi_rs_s, v21, q2, ne_eq, vi_cmge, vi_cmle, vi_cm0, lt]
                            exact this
                        · rw [if_neg q2] at nxt
                          by_cases lt : x = y
                          · have := nxt 1 (fun _ _ => (if_pos lt).symm) (.inr rfl)
                            clear nxt
                            simp (disch := omega) only [Option.toList_some, Option.toList_none, List.nil_append, List.cons_append, List.append_nil, true_and, and_true, not_true_eq_false, not_false_eq_true, true_implies, false_implies, implies_true, and_self, Int.reduceLT, Int.reduceLE, Int.reduceEq, Int.reduceNe, Int.reduceAdd, Int.reduceSub, Int.reduceMul, Int.reduceNeg, Int.reduceToNat, Int.toNat_natCast, ↓kk_ck, ↓kk_im, ↓kk_in, s_290_0, s_290_12, s_290_30, s_290_67, s_290_74, s_290_84, s_290_91, s_290_94, s_290_104, s_290_111, s_290_114, s_290_121, s_290_125, s_290_126, s_290_6, s_290_17, s_290_35, s_290_71, s_290_81, s_290_88, s_290_101, s_290_108, s_290_118, s_290_9, s_290_23, s_290_41, s_290_28, s_290_44, s_290_51, s_290_56, s_290_61, R1, k_269, vi_rs_s, v21, q1, q2, ne_eq, vi_cmge, vi_cmle, vi_cm0, lt]
                            exact this
                          · have := nxt 0 (fun _ _ => (if_neg lt).symm) (.inl rfl)
                            clear nxt
                            simp (disch := omega) only [Option.toList_some, Option.toList_none, List.nil_append, List.cons_append, List.append_nil, true_and, and_true, not_true_eq_false, not_false_eq_true, true_implies, false_implies, implies_true, and_self, Int.reduceLT, Int.reduceLE, Int.reduceEq, Int.reduceNe, Int.reduceAdd, Int.reduceSub, Int.reduceMul, Int.reduceNeg, Int.reduceToNat, Int.toNat_natCast, ↓kk_ck, ↓kk_im, ↓kk_in, s_290_0, s_290_12, s_290_30, s_290_67, s_290_74, s_290_84, s_290_91, s_290_94, s_290_104, s_290_111, s_290_114, s_290_121, s_290_125, s_290_126, s_290_6, s_290_17, s_290_35, s_290_71, s_290_81, s_290_88, s_290_101, s_290_108, s_290_118, s_290_9, s_290_23, s_290_41, s_290_28, s_290_44, s_290_51, s_290_56, s_290_61, R1, k_269, vi_rs_s, v21, q1, q2, ne_eq, vi_cmge, vi_cmle, vi_cm0, lt]
                            exact this
                    · have := nxt 0 (fun _ h => by omega) (.inl rfl)
                      clear nxt
                      simp (disch := omega) only [Option.toList_some, Option.toList_none, List.nil_append, List.cons_append, List.append_nil, true_and, and_true, not_true_eq_false, not_false_eq_true, true_implies, false_implies, implies_true, and_self, Int.reduceLT, Int.reduceLE, Int.reduceEq, Int.reduceNe, Int.reduceAdd, Int.reduceSub, Int.reduceMul, Int.reduceNeg, Int.reduceToNat, Int.toNat_natCast, ↓kk_ck, ↓kk_im, ↓kk_in, s_290_61, s_290_67, s_290_71, s_290_125, s_290_126, R1, vi_rs_s, v21, ne_eq]
                      exact this
            clear hQ i2h i5h T hx hg
            simp (disch := omega) only [Option.toList_some, Option.toList_none, List.nil_append, List.cons_append, List.append_nil, true_and, and_true, not_true_eq_false, not_false_eq_true, true_implies, false_implies, implies_true, and_self, Int.reduceLT, Int.reduceLE, Int.reduceEq, Int.reduceNe, Int.reduceAdd, Int.reduceSub, Int.reduceMul, Int.reduceNeg, Int.reduceToNat, Int.toNat_natCast, ↓kk_ck, ↓kk_im, ↓kk_in, s_290_35, s_290_41, s_290_44, s_290_51, s_290_56, R1, w19, k_281 hY E1 m1, vi_inc, e2, vi_ms_rs, e9, hM2]
            exact main2
          · rw [if_neg hq] at hg
            cases hg
    clear hQ i2h i5h hg
    simp (disch := omega) only [Option.toList_some, Option.toList_none, List.nil_append, List.cons_append, List.append_nil, true_and, and_true, not_true_eq_false, not_false_eq_true, true_implies, false_implies, implies_true, and_self, Int.reduceLT, Int.reduceLE, Int.reduceEq, Int.reduceNe, Int.reduceAdd, Int.reduceSub, Int.reduceMul, Int.reduceNeg, Int.reduceToNat, Int.toNat_natCast, ↓kk_ck, ↓kk_im, ↓kk_in, e_290, s_290_0, s_290_6, s_290_9, s_290_30, R1, k_269, T, vi_bf]
    exact cont
theorem eM3_s (hY : kY Y 151) (ix : eT Y nn f B e cd vl W fu 290 10 6) : eT Y nn f B e cd vl W (fu + 1) 289 3 7 := by
  intro D dp i l lv bk M a i' l' c Q hg hdp hD hE h112 hlv hbk hQ
  obtain ⟨R1, -⟩ := y_112 hY (by omega)
  obtain ⟨D, rfl⟩ : ∃ k, D = k + 1 := ⟨D - 1, by omega⟩
  have he := hE.1
  rw [rdP] at hg
  generalize hcnt : gN cd 400 i = cnt at hg
  have go : ∀ x2 : Int, (x2 = ((cnt % 2 : Nat) : Int)) → vi_ok GG D 289 24 [some (.inr (.inr 112)), some (.inl lv), some (.inl x2)] [] (Y, vi_rs M 112 (eRow f (B + (i + cnt)) bk), nn) Q := by
    intro x2 hx2
    have cont : vi_call GG D 290 [.inr (.inr 112), .inl lv] (Y, vi_rs M 112 (eRow f (B + (i + cnt)) bk), nn) (fun r w' => vi_ok GG D 289 29 [some (.inr (.inr 112)), some (.inl lv), some (.inl x2)] r.toList w' Q) := by
      cases hr : rdP cd vl fu 10 dp (i + cnt) l a with
      | none => rw [hr] at hg; cases hg
      | some r0 =>
        obtain ⟨ok, i2, l2, c2⟩ := r0
        rw [hr] at hg
        cases ok with
        | false => cases hg
        | true =>
          dsimp only at hg
          cases hg
          refine ix D dp (i + cnt) l lv bk _ a i' l' c2 _ hr hdp (by omega) (eOk_r hE) vi_rs_s hlv hbk fun y b2 hy01 hy => ?_
          rw [vi_rs_rs]
          have nxt : ∀ v, v = (if cnt % 2 = 1 then 1 - y else y) → Q (some (.inl v)) (Y, vi_rs M 112 (eRow f (B + i') b2), nn) := by
            intro v hv
            by_cases q : cnt % 2 = 1
            · rw [if_pos q] at hQ hv
              exact hQ v b2 (by omega) (eOut_N hy hy01 hv)
            · rw [if_neg q] at hQ hv
              rw [hv]
              exact hQ y b2 hy01 hy
          clear hQ ix hy
          by_cases q : cnt % 2 = 1
          · obtain rfl : x2 = 1 := by omega
            rw [if_pos q] at nxt
            rcases hy01 with rfl | rfl
            · have := nxt 1 rfl
              clear nxt
              simp (disch := omega) only [Option.toList_some, Option.toList_none, List.nil_append, List.cons_append, List.append_nil, true_and, and_true, not_true_eq_false, not_false_eq_true, true_implies, false_implies, implies_true, and_self, Int.reduceLT, Int.reduceLE, Int.reduceEq, Int.reduceNe, Int.reduceAdd, Int.reduceSub, Int.reduceMul, Int.reduceNeg, Int.reduceToNat, Int.toNat_natCast, ↓kk_ck, ↓kk_im, ↓kk_in, s_289_29, s_289_33, s_289_37, s_289_38]
              exact this
            · have := nxt 0 rfl
              clear nxt
              simp (disch := omega) only [Option.toList_some, Option.toList_none, List.nil_append, List.cons_append, List.append_nil, true_and, and_true, not_true_eq_false, not_false_eq_true, true_implies, false_implies, implies_true, and_self, Int.reduceLT, Int.reduceLE, Int.reduceEq, Int.reduceNe, Int.reduceAdd, Int.reduceSub, Int.reduceMul, Int.reduceNeg, Int.reduceToNat, Int.toNat_natCast, ↓kk_ck, ↓kk_im, ↓kk_in, s_289_29, s_289_33, s_289_37, s_289_38]
              exact this
          · obtain rfl : x2 = 0 := by omega
            rw [if_neg q] at nxt
            rcases hy01 with rfl | rfl
            · have := nxt 0 rfl
              clear nxt
              simp (disch := omega) only [Option.toList_some, Option.toList_none, List.nil_append, List.cons_append, List.append_nil, true_and, and_true, not_true_eq_false, not_false_eq_true, true_implies, false_implies, implies_true, and_self, Int.reduceLT, Int.reduceLE, Int.reduceEq, Int.reduceNe, Int.reduceAdd, Int.reduceSub, Int.reduceMul, Int.reduceNeg, Int.reduceToNat, Int.toNat_natCast, ↓kk_ck, ↓kk_im, ↓kk_in, s_289_29, s_289_33, s_289_37, s_289_38]
              exact this
            · have := nxt 1 rfl
              clear nxt
              simp (disch := omega) only [Option.toList_some, Option.toList_none, List.nil_append, List.cons_append, List.append_nil, true_and, and_true, not_true_eq_false, not_false_eq_true, true_implies, false_implies, implies_true, and_self, Int.reduceLT, Int.reduceLE, Int.reduceEq, Int.reduceNe, Int.reduceAdd, Int.reduceSub, Int.reduceMul, Int.reduceNeg, Int.reduceToNat, Int.toNat_natCast, ↓kk_ck, ↓kk_im, ↓kk_in, s_289_29, s_289_33, s_289_37, s_289_38]
              exact this
    clear hQ ix hg
    simp (disch := omega) only [Option.toList_some, Option.toList_none, List.nil_append, List.cons_append, List.append_nil, true_and, and_true, not_true_eq_false, not_false_eq_true, true_implies, false_implies, implies_true, and_self, Int.reduceLT, Int.reduceLE, Int.reduceEq, Int.reduceNe, Int.reduceAdd, Int.reduceSub, Int.reduceMul, Int.reduceNeg, Int.reduceToNat, Int.toNat_natCast, ↓kk_ck, ↓kk_im, ↓kk_in, s_289_24, R1]
    exact cont
  clear hQ ix hg
  have loop : ∀ (k j : Nat), k = 401 - j → j ≤ 400 → j + gN cd (400 - j) (i + j) = cnt → ∀ (M1 : vi_M) (x2 : Int), x2 = ((j % 2 : Nat) : Int) → M1 = vi_rs M 112 (eRow f (B + (i + j)) bk) → vi_ok GG D 289 2 [some (.inr (.inr 112)), some (.inl lv), some (.inl x2)] [] (Y, M1, nn) Q := by
    intro k
    induction k with
    | zero => intro j h1 h2; omega
    | succ k ih =>
      intro j hk hj h1 M1 x2 hx2 hM1
      have m1 : M1 112 = eRow f (B + (i + j)) bk := by rw [hM1, vi_rs_s]
      have E1 : eOk M1 f B e cd vl W := by rw [hM1]; exact eOk_r hE
      have T := fun {D : Nat} {K : Option vi_V → vi_W → Prop} (hD : 2 ≤ D) => @k_282 D K Y M1 nn B e cd vl W f hY E1 (i + j) bk 7 (by decide) m1 hD
      rw [s_289_2]
      by_cases hc : cd (i + j) = 7
      · have hi3 := eOk_i hE (i := i + j) (by omega)
        rw [decide_eq_true hc, if_pos hc] at T
        rw [show 400 - j = (399 - j) + 1 by omega, gN, if_pos hc] at h1
        have := ih (j + 1) (by omega) (by omega) (by rw [show 400 - (j + 1) = 399 - j by omega, show i + (j + 1) = i + j + 1 by omega]; omega) (vi_rs M1 112 (eRow f (B + (i + j + 1)) bk)) (1 - x2) (by omega) (by rw [hM1, vi_rs_rs]; rfl)
        clear ih go
        by_cases q : j % 2 = 1
        · obtain rfl : x2 = 1 := by omega
          simp (disch := omega) only [Option.toList_some, Option.toList_none, List.nil_append, List.cons_append, List.append_nil, true_and, and_true, not_true_eq_false, not_false_eq_true, true_implies, false_implies, implies_true, and_self, Int.reduceLT, Int.reduceLE, Int.reduceEq, Int.reduceNe, Int.reduceAdd, Int.reduceSub, Int.reduceMul, Int.reduceNeg, Int.reduceToNat, Int.toNat_natCast, ↓kk_ck, ↓kk_im, ↓kk_in, s_289_8, s_289_11, s_289_15, s_289_19, s_289_20, R1, T, vi_bt, ne_eq]
          exact this
        · obtain rfl : x2 = 0 := by omega
          simp (disch := omega) only [Option.toList_some, Option.toList_none, List.nil_append, List.cons_append, List.append_nil, true_and, and_true, not_true_eq_false, not_false_eq_true, true_implies, false_implies, implies_true, and_self, Int.reduceLT, Int.reduceLE, Int.reduceEq, Int.reduceNe, Int.reduceAdd, Int.reduceSub, Int.reduceMul, Int.reduceNeg, Int.reduceToNat, Int.toNat_natCast, ↓kk_ck, ↓kk_im, ↓kk_in, s_289_8, s_289_11, s_289_15, s_289_19, s_289_20, R1, T, vi_bt, ne_eq]
          exact this
      · rw [decide_eq_false hc, if_neg hc, vi_rs_id m1] at T
        have hj0 : gN cd (400 - j) (i + j) = 0 := by
          cases hh : 400 - j with
          | zero => rfl
          | succ m => rw [gN, if_neg hc]
        obtain rfl : cnt = j := by omega
        have := go x2 hx2
        rw [← hM1] at this
        clear ih go
        simp (disch := omega) only [Option.toList_some, Option.toList_none, List.nil_append, List.cons_append, List.append_nil, true_and, and_true, not_true_eq_false, not_false_eq_true, true_implies, false_implies, implies_true, and_self, Int.reduceLT, Int.reduceLE, Int.reduceEq, Int.reduceNe, Int.reduceAdd, Int.reduceSub, Int.reduceMul, Int.reduceNeg, Int.reduceToNat, Int.toNat_natCast, ↓kk_ck, ↓kk_im, ↓kk_in, s_289_8, R1, T, vi_bf]
        exact this
  have := loop 401 0 rfl (by omega) (by rw [Nat.zero_add, Nat.add_zero]; exact hcnt) M 0 rfl (by rw [Nat.add_zero, vi_rs_id h112])
  clear loop go
  simp (disch := omega) only [Option.toList_some, Option.toList_none, List.nil_append, List.cons_append, List.append_nil, true_and, and_true, not_true_eq_false, not_false_eq_true, true_implies, false_implies, implies_true, and_self, Int.reduceLT, Int.reduceLE, Int.reduceEq, Int.reduceNe, Int.reduceAdd, Int.reduceSub, Int.reduceMul, Int.reduceNeg, Int.reduceToNat, Int.toNat_natCast, ↓kk_ck, ↓kk_im, ↓kk_in, e_289, s_289_0]
  exact this
theorem eAll (hY : kY Y 151) : ∀ fu, eS Y nn f B e cd vl W fu 286 0 3 ∧ eS Y nn f B e cd vl W fu 285 1 4 ∧ eS Y nn f B e cd vl W fu 284 2 5 ∧ eT Y nn f B e cd vl W fu 289 3 7 ∧ eT Y nn f B e cd vl W fu 288 4 8 ∧ eT Y nn f B e cd vl W fu 287 5 9 ∧ eL Y nn f B e cd vl W fu 285 6 3 ∧ eL Y nn f B e cd vl W fu 284 7 4 ∧ eG Y nn f B e cd vl W fu 288 8 7 ∧ eG Y nn f B e cd vl W fu 287 9 8 ∧ eT Y nn f B e cd vl W fu 290 10 6 := by
  intro fu
  induction fu with
  | zero =>
    have m : ∀ m mode rk, eS Y nn f B e cd vl W 0 m mode rk := fun _ _ _ _ _ _ _ _ _ _ _ _ _ _ _ hg => by rw [rdP] at hg; exact absurd hg (by simp)
    have t : ∀ m mode rk, eT Y nn f B e cd vl W 0 m mode rk := fun _ _ _ _ _ _ _ _ _ _ _ _ _ _ _ hg => by rw [rdP] at hg; exact absurd hg (by simp)
    have l : ∀ m mode rk, eL Y nn f B e cd vl W 0 m mode rk := fun _ _ _ _ _ _ _ _ _ _ _ _ _ _ _ _ _ _ _ _ hg => by rw [rdP] at hg; exact absurd hg (by simp)
    have g : ∀ m mode rk, eG Y nn f B e cd vl W 0 m mode rk := fun _ _ _ _ _ _ _ _ _ _ _ _ _ _ _ _ _ _ hg => by rw [rdP] at hg; exact absurd hg (by simp)
    exact ⟨m _ _ _, m _ _ _, m _ _ _, t _ _ _, t _ _ _, t _ _ _, l _ _ _, l _ _ _, g _ _ _, g _ _ _, t _ _ _⟩
  | succ fu ih =>
    obtain ⟨i0, i1, i2, i3, i4, i5, i6, i7, i8, i9, ix⟩ := ih
    exact ⟨eM0_s hY i2, eM1_s hY i0 i6, eM2_s hY i1 i7, eM3_s hY ix, eM4_s hY i3 i8, eM5_s hY i4 i9, eL6_s hY i0 i6, eL7_s hY i1 i7, eG8_s hY i3 i8, eG9_s hY i4 i9, eMx_s hY i5 i2⟩
end
