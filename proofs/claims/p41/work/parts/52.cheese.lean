/-! Contracts of Cheese (at 60, over Held at 30). -/
/-- how many cells of the first r holes are the cell c -/
def hP (x y z : Int) (L : List (Nat → Int)) : Nat → Int → Nat
  | 0, _ => 0
  | r + 1, c => hP x y z L r c + sN 6 (fun k => decide (gOf x y z (rL L r) (k : Int) = c))
def hC (x y z : Int) (L : List (Nat → Int)) (c : Int) : Nat := hP x y z L L.length c
theorem hP_le {x y z : Int} {L : List (Nat → Int)} : ∀ (r : Nat) (c : Int), hP x y z L r c ≤ 6 * r
  | 0, _ => Nat.le_refl _
  | r + 1, c => by
    have h1 := hP_le (x := x) (y := y) (z := z) (L := L) r c
    have h2 := sN_le 6 (fun k => decide (gOf x y z (rL L r) (k : Int) = c))
    rw [hP]; omega
theorem sN_s {k : Nat} {f : Nat → Bool} : sN (k + 1) f = sN k f + (f k).toNat := rfl
theorem gOn_r {x y z a l u v : Int} (hb : gB x y z) : gOn x y z a l u v = -1 ∨ (0 ≤ gOn x y z a l u v ∧ gOn x y z a l u v < 216) := by
  obtain ⟨b1, b2, b3⟩ := hb
  unfold gOn
  split
  · right; omega
  · left; rfl
theorem gOf_r {x y z k : Int} {v : Nat → Int} (hb : gB x y z) : gOf x y z v k = -1 ∨ (0 ≤ gOf x y z v k ∧ gOf x y z v k < 216) := by
  unfold gOf
  split
  · exact gOn_r hb
  · left; rfl
section
variable {d : Nat} {K : Option vi_V → vi_W → Prop} {Y : vi_Y} {M : vi_M} {n : Nat × Nat} {L : List (Nat → Int)}
theorem k_37 (hY : kY Y 73) (hb : gB (M 30 8) (M 30 9) (M 30 10)) (hr : rOK (M 31) (M 32) L) (hl : L.length ≤ 16) (hg : ∀ r, r < L.length → gH (rL L r)) : vi_call GG (d + 3) 37 [.inr (.inr 60)] (Y, M, n) K ↔ K none (Y, vi_rs M 61 (vi_m 216 (fun c => (hC (M 30 8) (M 30 9) (M 30 10) L (c : Int) : Int)) (M 61)), n) := by
  obtain ⟨a1, a2, a3, a4, a5, a6, a7, a8, a9⟩ := y_60 hY (by omega)
  obtain ⟨b1, b2, b3, b4, b5, b6, b7⟩ := y_30 hY (by omega)
  obtain ⟨c1, c2⟩ := y_61 hY (by omega)
  have r1 := kR_31 hY (by omega)
  refine vi_k (r := none) fun Q hQ => ?_
  have loop2 : ∀ r : Nat, r ≤ L.length → ∀ l2 l3, vi_ok GG (d + 2) 37 26 [some (.inr (.inr 60)), some (.inl (r : Int)), l2, l3] [] (Y, vi_rs M 61 (vi_m 216 (fun c => (hP (M 30 8) (M 30 9) (M 30 10) L r (c : Int) : Int)) (M 61)), n) Q := by
    refine vi_dn L.length ?_ fun r hrl ih => ?_
    · intro l2 l3
      rw [s_37_26]
      simp (disch := omega) only [Option.toList_some, Option.toList_none, List.nil_append, List.cons_append, List.append_nil, true_and, and_true, not_true_eq_false, not_false_eq_true, true_implies, false_implies, implies_true, and_self, Int.reduceLT, Int.reduceLE, Int.reduceEq, Int.reduceNe, Int.reduceAdd, Int.reduceSub, Int.reduceMul, Int.reduceNeg, Int.reduceToNat, Int.toNat_natCast, ↓kk_ck, ↓kk_im, ↓kk_in, s_37_0, s_37_11, s_37_24, s_37_40, s_37_48, s_37_69, s_37_78, s_37_88, s_37_94, s_37_100, s_37_7, s_37_15, s_37_31, s_37_52, s_37_74, s_37_82, s_37_8, s_37_18, s_37_34, s_37_56, s_37_75, s_37_85, s_37_37, s_37_59, s_37_64, a1, a2, a3, b1, b2, e_149, s_149_0, s_149_4, r1.1, vi_rs_o (show 31 ≠ 61 by omega), hr.1]
      exact hQ
    · have hk53 := fun {K : Option vi_V → vi_W → Prop} {g : Nat → Int} (k : Nat) (hk : k < 6) => @k_53 d 30 K Y (vi_rs M 61 g) n (y_30 hY (by omega)).1 hb 31 16 L r1 hr hl r k hrl (hg r hrl) hk
      have loop3 : ∀ k : Nat, k ≤ 6 → ∀ l3, vi_ok GG (d + 2) 37 42 [some (.inr (.inr 60)), some (.inl (r : Int)), some (.inl (k : Int)), l3] [] (Y, vi_rs M 61 (vi_m 216 (fun c => ((hP (M 30 8) (M 30 9) (M 30 10) L r (c : Int) + sN k (fun k => decide (gOf (M 30 8) (M 30 9) (M 30 10) (rL L r) (k : Int) = (c : Int))) : Nat) : Int)) (M 61)), n) Q := by
        refine vi_dn 6 ?_ fun k hk ih3 => ?_
        · intro l3
          rw [s_37_42]
          simp (disch := omega) only [Option.toList_some, Option.toList_none, List.nil_append, List.cons_append, List.append_nil, true_and, and_true, not_true_eq_false, not_false_eq_true, true_implies, false_implies, implies_true, and_self, Int.reduceLT, Int.reduceLE, Int.reduceEq, Int.reduceNe, Int.reduceAdd, Int.reduceSub, Int.reduceMul, Int.reduceNeg, Int.reduceToNat, Int.toNat_natCast, ↓kk_ck, ↓kk_im, ↓kk_in, s_37_0, s_37_11, s_37_24, s_37_40, s_37_48, s_37_69, s_37_78, s_37_88, s_37_94, s_37_100, s_37_7, s_37_15, s_37_31, s_37_52, s_37_74, s_37_82, s_37_8, s_37_18, s_37_34, s_37_56, s_37_75, s_37_85, s_37_37, s_37_59, s_37_64, vi_inc]
          exact ih _ _
        · intro l3
          have hk5 := fun {K : Option vi_V → vi_W → Prop} {g : Nat → Int} => @hk53 K g k hk
          have e8 : ∀ g, vi_rs M 61 g 30 = M 30 := fun g => vi_rs_o (by omega)
          rw [s_37_42]
          have hcr := gOf_r (k := (k : Int)) (v := rL L r) hb
          generalize hgo : gOf (M 30 8) (M 30 9) (M 30 10) (rL L r) (k : Int) = g at *
          simp only [e8, hgo] at hk5
          rcases hcr with hcr | hcr
          · subst hcr
            simp (disch := omega) only [Option.toList_some, Option.toList_none, List.nil_append, List.cons_append, List.append_nil, true_and, and_true, not_true_eq_false, not_false_eq_true, true_implies, false_implies, implies_true, and_self, Int.reduceLT, Int.reduceLE, Int.reduceEq, Int.reduceNe, Int.reduceAdd, Int.reduceSub, Int.reduceMul, Int.reduceNeg, Int.reduceToNat, Int.toNat_natCast, ↓kk_ck, ↓kk_im, ↓kk_in, s_37_0, s_37_11, s_37_24, s_37_40, s_37_48, s_37_69, s_37_78, s_37_88, s_37_94, s_37_100, s_37_7, s_37_15, s_37_31, s_37_52, s_37_74, s_37_82, s_37_8, s_37_18, s_37_34, s_37_56, s_37_75, s_37_85, s_37_37, s_37_59, s_37_64, a1, a2, a3, b1, b2, c1, c2, hk5, vi_inc]
            have := ih3 (some (.inl (-1)))
            simp only [sN_s, hgo] at this
            have e : ∀ c : Nat, decide ((-1 : Int) = (c : Int)) = false := fun c => decide_eq_false (by omega)
            simp only [e, Bool.toNat_false, Nat.add_zero] at this
            exact this
          · obtain ⟨c0, rfl⟩ : ∃ c0 : Nat, g = c0 := ⟨g.toNat, by omega⟩
            have hb1 := hP_le (x := M 30 8) (y := M 30 9) (z := M 30 10) (L := L) r (c0 : Int)
            have hb2 := sN_le k (fun k => decide (gOf (M 30 8) (M 30 9) (M 30 10) (rL L r) (k : Int) = (c0 : Int)))
            simp (disch := omega) only [Option.toList_some, Option.toList_none, List.nil_append, List.cons_append, List.append_nil, true_and, and_true, not_true_eq_false, not_false_eq_true, true_implies, false_implies, implies_true, and_self, Int.reduceLT, Int.reduceLE, Int.reduceEq, Int.reduceNe, Int.reduceAdd, Int.reduceSub, Int.reduceMul, Int.reduceNeg, Int.reduceToNat, Int.toNat_natCast, ↓kk_ck, ↓kk_im, ↓kk_in, s_37_0, s_37_11, s_37_24, s_37_40, s_37_48, s_37_69, s_37_78, s_37_88, s_37_94, s_37_100, s_37_7, s_37_15, s_37_31, s_37_52, s_37_74, s_37_82, s_37_8, s_37_18, s_37_34, s_37_56, s_37_75, s_37_85, s_37_37, s_37_59, s_37_64, a1, a2, a3, b1, b2, c1, c2, hk5, vi_inc, vi_ms_rs, vi_rs_s, vi_rs_rs, vi_m_lt (show c0 < 216 by omega)]
            have := ih3 (some (.inl (c0 : Int)))
            have e : vi_u (vi_m 216 (fun c => ((hP (M 30 8) (M 30 9) (M 30 10) L r (c : Int) + sN k (fun k => decide (gOf (M 30 8) (M 30 9) (M 30 10) (rL L r) (k : Int) = (c : Int))) : Nat) : Int)) (M 61)) c0 ((hP (M 30 8) (M 30 9) (M 30 10) L r (c0 : Int) + sN k (fun k => decide (gOf (M 30 8) (M 30 9) (M 30 10) (rL L r) (k : Int) = (c0 : Int))) + 1 : Nat) : Int) = vi_m 216 (fun c => ((hP (M 30 8) (M 30 9) (M 30 10) L r (c : Int) + sN (k + 1) (fun k => decide (gOf (M 30 8) (M 30 9) (M 30 10) (rL L r) (k : Int) = (c : Int))) : Nat) : Int)) (M 61) := by
              funext j
              unfold vi_u vi_m
              by_cases hj : j = c0
              · subst hj
                rw [if_pos rfl, if_pos (by omega)]
                dsimp only
                rw [sN_s, hgo, decide_eq_true rfl, Bool.toNat_true]
                omega
              · rw [if_neg hj]
                by_cases hj2 : j < 216
                · rw [if_pos hj2, if_pos hj2]
                  dsimp only
                  rw [sN_s, hgo, decide_eq_false (by omega), Bool.toNat_false, Nat.add_zero]
                · rw [if_neg hj2, if_neg hj2]
            rw [e]
            exact this
      intro l2 l3
      rw [s_37_26]
      simp (disch := omega) only [Option.toList_some, Option.toList_none, List.nil_append, List.cons_append, List.append_nil, true_and, and_true, not_true_eq_false, not_false_eq_true, true_implies, false_implies, implies_true, and_self, Int.reduceLT, Int.reduceLE, Int.reduceEq, Int.reduceNe, Int.reduceAdd, Int.reduceSub, Int.reduceMul, Int.reduceNeg, Int.reduceToNat, Int.toNat_natCast, ↓kk_ck, ↓kk_im, ↓kk_in, s_37_0, s_37_11, s_37_24, s_37_40, s_37_48, s_37_69, s_37_78, s_37_88, s_37_94, s_37_100, s_37_7, s_37_15, s_37_31, s_37_52, s_37_74, s_37_82, s_37_8, s_37_18, s_37_34, s_37_56, s_37_75, s_37_85, s_37_37, s_37_59, s_37_64, a1, a2, a3, b1, b2, e_149, s_149_0, s_149_4, r1.1, vi_rs_o (show 31 ≠ 61 by omega), hr.1]
      exact loop3 0 (by omega) _
  have loop1 : ∀ c : Nat, c ≤ 216 → vi_ok GG (d + 2) 37 2 [some (.inr (.inr 60)), some (.inl (c : Int)), none, none] [] (Y, vi_rs M 61 (vi_m c (fun _ => 0) (M 61)), n) Q := by
    refine vi_dn 216 ?_ fun c hc ih => ?_
    · rw [s_37_2]
      simp (disch := omega) only [Option.toList_some, Option.toList_none, List.nil_append, List.cons_append, List.append_nil, true_and, and_true, not_true_eq_false, not_false_eq_true, true_implies, false_implies, implies_true, and_self, Int.reduceLT, Int.reduceLE, Int.reduceEq, Int.reduceNe, Int.reduceAdd, Int.reduceSub, Int.reduceMul, Int.reduceNeg, Int.reduceToNat, Int.toNat_natCast, ↓kk_ck, ↓kk_im, ↓kk_in, s_37_0, s_37_11, s_37_24, s_37_40, s_37_48, s_37_69, s_37_78, s_37_88, s_37_94, s_37_100, s_37_7, s_37_15, s_37_31, s_37_52, s_37_74, s_37_82, s_37_8, s_37_18, s_37_34, s_37_56, s_37_75, s_37_85, s_37_37, s_37_59, s_37_64, a1, a2, a3, c1, c2]
      exact loop2 0 (by omega) _ _
    · rw [s_37_2]
      simp (disch := omega) only [Option.toList_some, Option.toList_none, List.nil_append, List.cons_append, List.append_nil, true_and, and_true, not_true_eq_false, not_false_eq_true, true_implies, false_implies, implies_true, and_self, Int.reduceLT, Int.reduceLE, Int.reduceEq, Int.reduceNe, Int.reduceAdd, Int.reduceSub, Int.reduceMul, Int.reduceNeg, Int.reduceToNat, Int.toNat_natCast, ↓kk_ck, ↓kk_im, ↓kk_in, s_37_0, s_37_11, s_37_24, s_37_40, s_37_48, s_37_69, s_37_78, s_37_88, s_37_94, s_37_100, s_37_7, s_37_15, s_37_31, s_37_52, s_37_74, s_37_82, s_37_8, s_37_18, s_37_34, s_37_56, s_37_75, s_37_85, s_37_37, s_37_59, s_37_64, a1, a2, a3, c1, c2, vi_ms_rs, vi_rs_s, vi_rs_rs, vi_inc]
      rw [vi_m_s rfl]
      exact ih
  have := loop1 0 (by omega)
  rw [vi_m_0, vi_rs_id rfl] at this
  rw [e_37, s_37_0]
  exact this
/-- what a LAW tells of a CELL with so many HOLES: whether it takes, shuts, and what it weighs -/
abbrev gLaw : Type := Int → Int → Bool × Bool × Int
/-- the LAW at q answers so, over the Held row f, as long as its steps and clauses stand -/
def lOK (Y : vi_Y) (q : Nat) (f fs fc : Nat → Int) (G : gLaw) : Prop := Y.1 q = 23 ∧ 120 < q ∧ (∀ c h : Int, 0 ≤ c → c < 216 → 0 ≤ h → h ≤ 96 → 1 ≤ (G c h).2.2 ∧ (G c h).2.2 ≤ 99) ∧ ∀ (d : Nat) (M : vi_M) (n : Nat × Nat) (c h : Int), M 30 = f → M (q - 2) = fs → M (q - 1) = fc → 0 ≤ c → c < 216 → 0 ≤ h → h ≤ 96 → ∃ f1 f2 f3 : Nat → Int, f3 4 = vi_b (G c h).1 ∧ f3 5 = vi_b (G c h).2.1 ∧ f3 6 = (G c h).2.2 ∧ ∀ K : Option vi_V → vi_W → Prop, vi_call GG (d + 10) 69 [.inr (.inr q), .inr (.inr 30), .inl c, .inl h] (Y, M, n) K ↔ K none (Y, vi_rs (vi_rs (vi_rs M (q + 1) f1) (q + 2) f2) q f3, n)
theorem k_28 (hY : kY Y 73) {c : Nat} (hc : c < 216) : vi_call GG (d + 1) 28 [.inr (.inr 60), .inl (c : Int)] (Y, M, n) K ↔ K (some (.inl (M 61 c))) (Y, M, n) := by
  obtain ⟨a1, a2, a3, a4, a5, a6, a7, a8, a9⟩ := y_60 hY (by omega)
  obtain ⟨c1, c2⟩ := y_61 hY (by omega)
  refine vi_k (r := some (.inl _)) fun Q hQ => ?_
  simp (disch := omega) only [Option.toList_some, Option.toList_none, List.nil_append, List.cons_append, List.append_nil, true_and, and_true, not_true_eq_false, not_false_eq_true, true_implies, false_implies, implies_true, and_self, Int.reduceLT, Int.reduceLE, Int.reduceEq, Int.reduceNe, Int.reduceAdd, Int.reduceSub, Int.reduceMul, Int.reduceNeg, Int.reduceToNat, Int.toNat_natCast, ↓kk_ck, ↓kk_im, ↓kk_in, e_28, s_28_0, s_28_4, s_28_13, s_28_22, s_28_23, s_28_9, s_28_17, s_28_10, s_28_19, a1, a2, a3, a4, a5, a6, a7, a8, a9, c1, c2]
  exact hQ
theorem k_29 (hY : kY Y 73) {c : Nat} (hc : c < 216) : vi_call GG (d + 1) 29 [.inr (.inr 60), .inl (c : Int)] (Y, M, n) K ↔ K (some (.inl (M 62 c))) (Y, M, n) := by
  obtain ⟨a1, a2, a3, a4, a5, a6, a7, a8, a9⟩ := y_60 hY (by omega)
  obtain ⟨c1, c2⟩ := y_62 hY (by omega)
  refine vi_k (r := some (.inl _)) fun Q hQ => ?_
  simp (disch := omega) only [Option.toList_some, Option.toList_none, List.nil_append, List.cons_append, List.append_nil, true_and, and_true, not_true_eq_false, not_false_eq_true, true_implies, false_implies, implies_true, and_self, Int.reduceLT, Int.reduceLE, Int.reduceEq, Int.reduceNe, Int.reduceAdd, Int.reduceSub, Int.reduceMul, Int.reduceNeg, Int.reduceToNat, Int.toNat_natCast, ↓kk_ck, ↓kk_im, ↓kk_in, e_29, s_29_0, s_29_4, s_29_13, s_29_22, s_29_23, s_29_9, s_29_17, s_29_10, s_29_19, a1, a2, a3, a4, a5, a6, a7, a8, a9, c1, c2]
  exact hQ
/-- a CELL renewed without a LAW -/
theorem k_38n (hY : kY Y 73) {P : Nat → Bool} (hP : M 66 = cR P) {c h : Nat} (hc : c < 216) (hh : M 61 c = (h : Int)) : vi_call GG (d + 2) 38 [.inr (.inr 60), .inr (.inr 0), .inl (c : Int)] (Y, M, n) K ↔ K none (Y, vi_rs (vi_rs M 66 (cR (if h = 0 then P else sDrp P (c : Int)))) 62 (vi_u (M 62) c 1), n) := by
  obtain ⟨a1, a2, a3, a4, a5, a6, a7, a8, a9⟩ := y_60 hY (by omega)
  obtain ⟨c1, c2⟩ := y_61 hY (by omega)
  obtain ⟨d1, d2⟩ := y_62 hY (by omega)
  have p1 := kC_65 hY (by omega)
  refine vi_k (r := none) fun Q hQ => ?_
  by_cases h0 : h = 0
  · subst h0
    rw [if_pos rfl, vi_rs_id hP] at hQ
    simp (disch := omega) only [Option.toList_some, Option.toList_none, List.nil_append, List.cons_append, List.append_nil, true_and, and_true, not_true_eq_false, not_false_eq_true, true_implies, false_implies, implies_true, and_self, Int.reduceLT, Int.reduceLE, Int.reduceEq, Int.reduceNe, Int.reduceAdd, Int.reduceSub, Int.reduceMul, Int.reduceNeg, Int.reduceToNat, Int.toNat_natCast, ↓kk_ck, ↓kk_im, ↓kk_in, e_38, s_38_0, s_38_13, s_38_17, s_38_18, s_38_24, s_38_56, s_38_64, s_38_69, s_38_77, s_38_81, s_38_90, s_38_98, s_38_5, s_38_29, s_38_60, s_38_73, s_38_86, s_38_94, s_38_34, s_38_87, s_38_38, s_38_46, s_38_53, a1, a2, a3, a4, a5, a6, a7, a8, a9, k_28 hY hc, hh, c1, c2, d1, d2, p1.1, vi_ms_rs, ne_eq]
    exact hQ
  · rw [if_neg h0] at hQ
    simp (disch := omega) only [Option.toList_some, Option.toList_none, List.nil_append, List.cons_append, List.append_nil, true_and, and_true, not_true_eq_false, not_false_eq_true, true_implies, false_implies, implies_true, and_self, Int.reduceLT, Int.reduceLE, Int.reduceEq, Int.reduceNe, Int.reduceAdd, Int.reduceSub, Int.reduceMul, Int.reduceNeg, Int.reduceToNat, Int.toNat_natCast, ↓kk_ck, ↓kk_im, ↓kk_in, e_38, s_38_0, s_38_13, s_38_17, s_38_18, s_38_24, s_38_56, s_38_64, s_38_69, s_38_77, s_38_81, s_38_90, s_38_98, s_38_5, s_38_29, s_38_60, s_38_73, s_38_86, s_38_94, s_38_34, s_38_87, s_38_38, s_38_46, s_38_53, a1, a2, a3, a4, a5, a6, a7, a8, a9, k_28 hY hc, hh, c1, c2, d1, d2, p1.1, k_7 p1 hP, vi_ms_rs, ne_eq, vi_rs_o (show 62 ≠ 66 by omega)]
    exact hQ
theorem o_or0 {b : Bool} : vi_or32 (0 : Int) (vi_b b) = vi_b b := by cases b <;> decide
theorem o_or1 {b : Bool} : vi_or32 (1 : Int) (vi_b b) = 1 := by cases b <;> decide
/-- a CELL renewed by a LAW -/
theorem k_38l (hY : kY Y 73) {q : Nat} {f fs fc : Nat → Int} {G : gLaw} (hG : lOK Y q f fs fc G) (m0 : M 30 = f) (m1 : M (q - 2) = fs) (m2 : M (q - 1) = fc) {P S : Nat → Bool} (hP : M 66 = cR P) (hS : M 68 = cR S) {c h : Nat} (hc : c < 216) (hh : M 61 c = (h : Int)) (h96 : h ≤ 96) :
    ∃ f1 f2 f3 : Nat → Int, ∀ K : Option vi_V → vi_W → Prop, vi_call GG (d + 11) 38 [.inr (.inr 60), .inr (.inr q), .inl (c : Int)] (Y, M, n) K ↔ K none (Y, vi_rs (vi_rs (vi_rs (vi_rs (vi_rs (vi_rs M (q + 1) f1) (q + 2) f2) q f3) 68 (cR (if (G c h).2.1 = true then sPut S (c : Int) else S))) 66 (cR (if h = 0 ∧ (G c h).1 = false then P else sDrp P (c : Int)))) 62 (vi_u (M 62) c (G c h).2.2), n) := by
  obtain ⟨g1, g2, g3, g4⟩ := hG
  obtain ⟨a1, a2, a3, a4, a5, a6, a7, a8, a9⟩ := y_60 hY (by omega)
  obtain ⟨c1, c2⟩ := y_61 hY (by omega)
  obtain ⟨d1, d2⟩ := y_62 hY (by omega)
  have b1 := (y_30 hY (by omega)).1
  have p1 := kC_65 hY (by omega)
  have p2 := kC_67 hY (by omega)
  obtain ⟨f1, f2, f3, e4, e5, e6, hK⟩ := g4 d M n (c : Int) (h : Int) m0 m1 m2 (by omega) (by omega) (by omega) (by omega)
  refine ⟨f1, f2, f3, fun K => vi_k (r := none) fun Q hQ => ?_⟩
  generalize hM1 : vi_rs (vi_rs (vi_rs M (q + 1) f1) (q + 2) f2) q f3 = M1 at *
  have o : ∀ p, p ≤ 120 → M1 p = M p := fun p hp => by rw [← hM1, vi_rs_o (by omega), vi_rs_o (by omega), vi_rs_o (by omega)]
  have oq : M1 q = f3 := by rw [← hM1, vi_rs_s]
  have q4 : M1 q 4 = vi_b (G c h).1 := by rw [oq, e4]
  have q5 : M1 q 5 = vi_b (G c h).2.1 := by rw [oq, e5]
  have q6 : M1 q 6 = (G c h).2.2 := by rw [oq, e6]
  have n28 : ¬ q = 28 := by omega
  have n0 : ¬ q = 0 := by omega
  have s6 : M1 66 = cR P := by rw [o 66 (by omega), hP]
  have s8 : M1 68 = cR S := by rw [o 68 (by omega), hS]
  have s2 : M1 62 = M 62 := o 62 (by omega)
  have t8 : ∀ g, vi_rs M1 68 g 66 = M1 66 := fun g => vi_rs_o (by omega)
  have t6 : ∀ g, vi_rs M1 66 g 62 = M1 62 := fun g => vi_rs_o (by omega)
  have t6' : ∀ M2 g, vi_rs M2 66 g 62 = M2 62 := fun M2 g => vi_rs_o (by omega)
  have t8' : ∀ M2 g, vi_rs M2 68 g 62 = M2 62 := fun M2 g => vi_rs_o (by omega)
  have t8q : ∀ g, vi_rs M1 68 g q = M1 q := fun g => vi_rs_o (by omega)
  clear oq e4 e5 e6 hM1 g3 g4 o m0 m1 m2
  have D := fun {M2 : vi_M} {K : Option vi_V → vi_W → Prop} (h : M2 66 = cR P) => @k_7 (d + 9) 65 K Y M2 n P p1 h (c : Int) (by omega)
  have U := fun {K : Option vi_V → vi_W → Prop} => @k_6 (d + 9) 67 K Y M1 n S p2 s8 (c : Int) (by omega)
  have D1 := fun {K : Option vi_V → vi_W → Prop} => @D M1 K s6
  have D2 := fun {K : Option vi_V → vi_W → Prop} {g : Nat → Int} => @D (vi_rs M1 68 g) K (by rw [t8, s6])
  simp only [Nat.reduceAdd] at D1 D2 U
  have id1 : vi_rs M1 68 (cR S) = M1 := vi_rs_id s8
  have id2 : ∀ g, vi_rs (vi_rs M1 68 g) 66 (cR P) = vi_rs M1 68 g := fun g => vi_rs_id (by rw [t8, s6])
  have id3 : vi_rs M1 66 (cR P) = M1 := vi_rs_id s6
  cases ht : (G c h).1 <;> cases hs : (G c h).2.1 <;> rw [ht] at q4 <;> rw [hs] at q5 <;> (by_cases h0 : h = 0)
  all_goals
    (try simp only [eq_false h0, ht, hs, and_self, and_true, and_false, true_and, false_and, if_true, if_false, Bool.false_eq_true, Bool.true_eq_false, id1, id2, id3] at hQ)
    (try simp only [eq_true h0, ht, hs, and_self, and_true, and_false, true_and, false_and, if_true, if_false, Bool.false_eq_true, Bool.true_eq_false, id1, id2, id3] at hQ)
    simp (disch := omega) only [Option.toList_some, Option.toList_none, List.nil_append, List.cons_append, List.append_nil, true_and, and_true, not_true_eq_false, not_false_eq_true, true_implies, false_implies, implies_true, and_self, Int.reduceLT, Int.reduceLE, Int.reduceEq, Int.reduceNe, Int.reduceAdd, Int.reduceSub, Int.reduceMul, Int.reduceNeg, Int.reduceToNat, Int.toNat_natCast, ↓kk_ck, ↓kk_im, ↓kk_in, e_38, s_38_0, s_38_13, s_38_17, s_38_18, s_38_24, s_38_56, s_38_64, s_38_69, s_38_77, s_38_81, s_38_90, s_38_98, s_38_5, s_38_29, s_38_60, s_38_73, s_38_86, s_38_94, s_38_34, s_38_87, s_38_38, s_38_46, s_38_53, a1, a2, a3, a4, a5, a6, a7, a8, a9, k_28 hY hc, hh, n28, n0, hK, c1, c2, d1, d2, b1, g1, p1.1, p2.1, e_70, s_70_0, s_70_4, e_71, s_71_0, s_71_4, e_72, s_72_0, s_72_4, q4, q5, q6, vi_bt, vi_bf, t8q, D1, D2, U, vi_ms_rs, ne_eq, t6', t8', s2, show vi_or32 (0 : Int) 0 = 0 from by decide, show vi_or32 (0 : Int) 1 = 1 from by decide, show vi_or32 (1 : Int) 0 = 1 from by decide, show vi_or32 (1 : Int) 1 = 1 from by decide]
    exact hQ
/-- the LAW in force: none, or the one at a place of the row of laws -/
def lIn (Y : vi_Y) (M : vi_M) (G : gLaw) : Prop := ∃ m : Nat, M 30 6 = (m : Int) ∧ m ≤ 6 ∧ ((M 30 7 = -1 ∧ G = fun _ _ => (false, false, 1)) ∨ ∃ j q : Nat, M 30 7 = (j : Int) ∧ j < m ∧ M 39 j = (q : Int) ∧ lOK Y q (M 30) (M (q - 2)) (M (q - 1)) G)
/-- what is left, what is shut: of the first k cells; the others are as the box, as none -/
def gP (x y z : Int) (L : List (Nat → Int)) (G : gLaw) (k : Nat) : Nat → Bool := fun c => sBox x y z c && (decide (k ≤ c) || (decide (hC x y z L (c : Int) = 0) && ! (G (c : Int) (hC x y z L (c : Int))).1))
def gS (x y z : Int) (L : List (Nat → Int)) (G : gLaw) (k : Nat) : Nat → Bool := fun c => decide (c < k) && (sBox x y z c && (G (c : Int) (hC x y z L (c : Int))).2.1)
def gW (x y z : Int) (L : List (Nat → Int)) (G : gLaw) (k : Nat) (f : Nat → Int) : Nat → Int := fun c => if c < k ∧ sBox x y z c = true then (G (c : Int) (hC x y z L (c : Int))).2.2 else f c
theorem gP_s {x y z : Int} {L : List (Nat → Int)} {G : gLaw} {k : Nat} (hb : sBox x y z k = true) : gP x y z L G (k + 1) = if hC x y z L (k : Int) = 0 ∧ (G (k : Int) (hC x y z L (k : Int))).1 = false then gP x y z L G k else sDrp (gP x y z L G k) (k : Int) := by
  funext c
  by_cases h : c = k
  · subst h
    split
    · rename_i h2
      unfold gP
      rw [hb, h2.2, decide_eq_true h2.1]
      simp
    · rename_i h2
      simp only [gP, sDrp, hb, Bool.true_and, decide_eq_true rfl, Bool.not_true, Bool.and_false, decide_eq_false (show ¬ c + 1 ≤ c by omega), Bool.false_or]
      cases hh : (G (c : Int) (hC x y z L (c : Int))).1
      · rw [decide_eq_false (fun e => h2 ⟨e, hh⟩)]; simp
      · simp
  · have e : decide (k + 1 ≤ c) = decide (k ≤ c) := by rw [decide_eq_decide]; omega
    split
    · unfold gP; rw [e]
    · unfold sDrp gP; rw [e, decide_eq_false (show ¬ ((c : Int) = (k : Int)) by omega), Bool.not_false, Bool.and_true]
theorem gP_n {x y z : Int} {L : List (Nat → Int)} {G : gLaw} {k : Nat} (hb : sBox x y z k = false) : gP x y z L G (k + 1) = gP x y z L G k := by
  funext c
  unfold gP
  by_cases h : c = k
  · subst h; rw [hb]; rfl
  · rw [show decide (k + 1 ≤ c) = decide (k ≤ c) by rw [decide_eq_decide]; omega]
theorem gS_s {x y z : Int} {L : List (Nat → Int)} {G : gLaw} {k : Nat} (hb : sBox x y z k = true) : gS x y z L G (k + 1) = if (G (k : Int) (hC x y z L (k : Int))).2.1 = true then sPut (gS x y z L G k) (k : Int) else gS x y z L G k := by
  funext c
  by_cases h : c = k
  · subst h
    split
    · rename_i h2; simp [gS, sPut, hb, h2]
    · rename_i h2; simp [gS, h2]
  · have e : decide (c < k + 1) = decide (c < k) := by rw [decide_eq_decide]; omega
    split
    · unfold sPut gS; rw [e, decide_eq_false (show ¬ ((c : Int) = (k : Int)) by omega), Bool.or_false]
    · unfold gS; rw [e]
theorem gS_n {x y z : Int} {L : List (Nat → Int)} {G : gLaw} {k : Nat} (hb : sBox x y z k = false) : gS x y z L G (k + 1) = gS x y z L G k := by
  funext c
  unfold gS
  by_cases h : c = k
  · subst h; rw [hb]; simp
  · rw [show decide (c < k + 1) = decide (c < k) by rw [decide_eq_decide]; omega]
theorem gW_s {x y z : Int} {L : List (Nat → Int)} {G : gLaw} {k : Nat} {f : Nat → Int} (hb : sBox x y z k = true) : vi_u (gW x y z L G k f) k (G (k : Int) (hC x y z L (k : Int))).2.2 = gW x y z L G (k + 1) f := by
  funext c
  unfold vi_u gW
  by_cases h : c = k
  · subst h; rw [if_pos rfl, if_pos ⟨by omega, hb⟩]
  · rw [if_neg h]
    by_cases h2 : c < k ∧ sBox x y z c = true
    · rw [if_pos h2, if_pos ⟨by omega, h2.2⟩]
    · rw [if_neg h2, if_neg (fun e => h2 ⟨by omega, e.2⟩)]
theorem gW_n {x y z : Int} {L : List (Nat → Int)} {G : gLaw} {k : Nat} {f : Nat → Int} (hb : sBox x y z k = false) : gW x y z L G (k + 1) f = gW x y z L G k f := by
  funext c
  unfold gW
  by_cases h : c = k
  · subst h; rw [hb]; simp
  · by_cases h2 : c < k ∧ sBox x y z c = true
    · rw [if_pos h2, if_pos ⟨by omega, h2.2⟩]
    · rw [if_neg h2, if_neg (fun e => h2 ⟨by omega, e.2⟩)]
/-- HOLES and the LAW in force are looked at anew -/
theorem k_25 (hY : kY Y 73) (hb : gB (M 30 8) (M 30 9) (M 30 10)) (hr : rOK (M 31) (M 32) L) (hl : L.length ≤ 16) (hg : ∀ r, r < L.length → gH (rL L r)) {G : gLaw} (hG : lIn Y M G) {S1 S2 S3 : Nat → Bool} (s1 : M 64 = cR S1) (s2 : M 66 = cR S2) (s3 : M 68 = cR S3) :
    ∃ M' : vi_M, M' 61 = vi_m 216 (fun c => (hC (M 30 8) (M 30 9) (M 30 10) L (c : Int) : Int)) (M 61) ∧ M' 62 = gW (M 30 8) (M 30 9) (M 30 10) L G 216 (M 62) ∧ M' 64 = cR (sBox (M 30 8) (M 30 9) (M 30 10)) ∧ M' 66 = cR (gP (M 30 8) (M 30 9) (M 30 10) L G 216) ∧ M' 68 = cR (gS (M 30 8) (M 30 9) (M 30 10) L G 216) ∧ (∀ p, p ≤ 120 → p ≠ 61 → p ≠ 62 → p ≠ 64 → p ≠ 66 → p ≠ 68 → M' p = M p) ∧ (∀ p, 120 < p → Y.1 p ≠ 23 → Y.1 (p - 1) ≠ 23 → Y.1 (p - 2) ≠ 23 → M' p = M p) ∧
      ∀ K : Option vi_V → vi_W → Prop, vi_call GG (d + 12) 25 [.inr (.inr 60)] (Y, M, n) K ↔ K none (Y, M', n) := by
  obtain ⟨a1, a2, a3, a4, a5, a6, a7, a8, a9⟩ := y_60 hY (by omega)
  have b1 := (y_30 hY (by omega)).1
  have p0 := kC_63 hY (by omega)
  have p1 := kC_65 hY (by omega)
  have p2 := kC_67 hY (by omega)
  have hh := kH_30 hY (by omega)
  have hb' := hb
  obtain ⟨bx, by', bz⟩ := hb
  generalize ex : M 30 8 = x at *
  generalize ey : M 30 9 = y at *
  generalize ez : M 30 10 = z at *
  have key : ∀ Q : Option vi_V → vi_W → Prop, (∀ M' : vi_M, M' 61 = vi_m 216 (fun c => (hC x y z L (c : Int) : Int)) (M 61) → M' 62 = gW x y z L G 216 (M 62) → M' 64 = cR (sBox x y z) → M' 66 = cR (gP x y z L G 216) → M' 68 = cR (gS x y z L G 216) → (∀ p, p ≤ 120 → p ≠ 61 → p ≠ 62 → p ≠ 64 → p ≠ 66 → p ≠ 68 → M' p = M p) → (∀ p, 120 < p → Y.1 p ≠ 23 → Y.1 (p - 1) ≠ 23 → Y.1 (p - 2) ≠ 23 → M' p = M p) → Q none (Y, M', n)) → vi_call GG (d + 12) 25 [.inr (.inr 60)] (Y, M, n) Q := by
    intro Q hQ
    have box : ∀ k : Nat, k < 216 → sHas (sBox x y z) (k : Int) = sBox x y z k := fun k hk => by
      unfold sHas
      rw [decide_eq_true (by omega), Bool.true_and, Int.toNat_natCast]
    have loop : ∀ q : Nat, (q = 0 ∧ (G = fun _ _ => (false, false, 1)) ∨ ∃ f, f = M 30 ∧ lOK Y q f (M (q - 2)) (M (q - 1)) G) → ∀ k : Nat, k ≤ 216 → ∀ M' : vi_M, M' 61 = vi_m 216 (fun c => (hC x y z L (c : Int) : Int)) (M 61) → M' 62 = gW x y z L G k (M 62) → M' 64 = cR (sBox x y z) → M' 66 = cR (gP x y z L G k) → M' 68 = cR (gS x y z L G k) → (∀ p, p ≤ 120 → p ≠ 61 → p ≠ 62 → p ≠ 64 → p ≠ 66 → p ≠ 68 → M' p = M p) → (∀ p, 120 < p → Y.1 p ≠ 23 → Y.1 (p - 1) ≠ 23 → Y.1 (p - 2) ≠ 23 → M' p = M p) → (q ≠ 0 → M' (q - 2) = M (q - 2) ∧ M' (q - 1) = M (q - 1)) → vi_ok GG (d + 11) 25 63 [some (.inr (.inr 60)), some (.inr (.inr q)), some (.inl (k : Int))] [] (Y, M', n) Q := by
      intro q hq
      refine vi_dn 216 ?_ fun k hk ih => ?_
      · intro M' e1 e2 e3 e4 e5 e6 e7 e8
        rw [s_25_63]
        simp (disch := omega) only [Option.toList_some, Option.toList_none, List.nil_append, List.cons_append, List.append_nil, true_and, and_true, not_true_eq_false, not_false_eq_true, true_implies, false_implies, implies_true, and_self, Int.reduceLT, Int.reduceLE, Int.reduceEq, Int.reduceNe, Int.reduceAdd, Int.reduceSub, Int.reduceMul, Int.reduceNeg, Int.reduceToNat, Int.toNat_natCast, ↓kk_ck, ↓kk_im, ↓kk_in, s_25_0, s_25_70, s_25_81, s_25_87, s_25_93, s_25_4, s_25_74, s_25_8, s_25_78, s_25_12, s_25_16, s_25_20, s_25_24, s_25_28, s_25_32, s_25_35, s_25_39, s_25_43, s_25_46, s_25_50, s_25_53, s_25_57, s_25_60]
        exact hQ M' e1 e2 e3 e4 e5 e6 e7
      · intro M' e1 e2 e3 e4 e5 e6 e7 e8
        rw [s_25_63]
        have hh61 : M' 61 k = (hC x y z L (k : Int) : Int) := by rw [e1, vi_m_lt hk]
        cases hbk : sBox x y z k
        · simp (disch := omega) only [Option.toList_some, Option.toList_none, List.nil_append, List.cons_append, List.append_nil, true_and, and_true, not_true_eq_false, not_false_eq_true, true_implies, false_implies, implies_true, and_self, Int.reduceLT, Int.reduceLE, Int.reduceEq, Int.reduceNe, Int.reduceAdd, Int.reduceSub, Int.reduceMul, Int.reduceNeg, Int.reduceToNat, Int.toNat_natCast, ↓kk_ck, ↓kk_im, ↓kk_in, s_25_0, s_25_70, s_25_81, s_25_87, s_25_93, s_25_4, s_25_74, s_25_8, s_25_78, s_25_12, s_25_16, s_25_20, s_25_24, s_25_28, s_25_32, s_25_35, s_25_39, s_25_43, s_25_46, s_25_50, s_25_53, s_25_57, s_25_60, a1, a2, a3, a4, a5, a6, a7, a8, a9, p0.1, k_5 p0 e3, box k hk, hbk, vi_bf, vi_inc]
          exact ih M' e1 (by rw [gW_n hbk]; exact e2) e3 (by rw [gP_n hbk]; exact e4) (by rw [gS_n hbk]; exact e5) e6 e7 e8
        · rcases hq with ⟨rfl, hGn⟩ | ⟨f, hf, hl⟩
          · simp (disch := omega) only [Option.toList_some, Option.toList_none, List.nil_append, List.cons_append, List.append_nil, true_and, and_true, not_true_eq_false, not_false_eq_true, true_implies, false_implies, implies_true, and_self, Int.reduceLT, Int.reduceLE, Int.reduceEq, Int.reduceNe, Int.reduceAdd, Int.reduceSub, Int.reduceMul, Int.reduceNeg, Int.reduceToNat, Int.toNat_natCast, ↓kk_ck, ↓kk_im, ↓kk_in, s_25_0, s_25_70, s_25_81, s_25_87, s_25_93, s_25_4, s_25_74, s_25_8, s_25_78, s_25_12, s_25_16, s_25_20, s_25_24, s_25_28, s_25_32, s_25_35, s_25_39, s_25_43, s_25_46, s_25_50, s_25_53, s_25_57, s_25_60, a1, a2, a3, a4, a5, a6, a7, a8, a9, p0.1, k_5 p0 e3, box k hk, hbk, vi_bt, vi_inc, k_38n hY e4 hk hh61]
            refine ih _ (by rw [vi_rs_o (by omega), vi_rs_o (by omega)]; exact e1) (by rw [vi_rs_s, ← gW_s hbk, e2, hGn]) (by rw [vi_rs_o (by omega), vi_rs_o (by omega)]; exact e3) (by rw [vi_rs_o (by omega), vi_rs_s, gP_s hbk, hGn]; simp) (by rw [vi_rs_o (by omega), vi_rs_o (by omega), gS_s hbk, hGn]; simp; rw [← hGn]; exact e5) (fun p h1 h2 h3 h4 h5 h6 => by rw [vi_rs_o h3, vi_rs_o h5]; exact e6 p h1 h2 h3 h4 h5 h6) (fun p h1 h2 h3 h4 => by rw [vi_rs_o (by omega), vi_rs_o (by omega)]; exact e7 p h1 h2 h3 h4) (fun h => absurd rfl h)
          · have hl' := hl
            obtain ⟨q1, q2, q3, -⟩ := hl'
            obtain ⟨g1, g2⟩ := e8 (by omega)
            have hh96 : hC x y z L (k : Int) ≤ 96 := by have := hP_le (x := x) (y := y) (z := z) (L := L) L.length (k : Int); unfold hC; omega
            obtain ⟨f1, f2, f3, hK⟩ := k_38l (d := d) (n := n) hY hl (M := M') (by rw [e6 30 (by omega) (by omega) (by omega) (by omega) (by omega) (by omega), hf]) g1 g2 e4 e5 hk hh61 hh96
            simp (disch := omega) only [Option.toList_some, Option.toList_none, List.nil_append, List.cons_append, List.append_nil, true_and, and_true, not_true_eq_false, not_false_eq_true, true_implies, false_implies, implies_true, and_self, Int.reduceLT, Int.reduceLE, Int.reduceEq, Int.reduceNe, Int.reduceAdd, Int.reduceSub, Int.reduceMul, Int.reduceNeg, Int.reduceToNat, Int.toNat_natCast, ↓kk_ck, ↓kk_im, ↓kk_in, s_25_0, s_25_70, s_25_81, s_25_87, s_25_93, s_25_4, s_25_74, s_25_8, s_25_78, s_25_12, s_25_16, s_25_20, s_25_24, s_25_28, s_25_32, s_25_35, s_25_39, s_25_43, s_25_46, s_25_50, s_25_53, s_25_57, s_25_60, a1, a2, a3, a4, a5, a6, a7, a8, a9, p0.1, k_5 p0 e3, box k hk, hbk, vi_bt, vi_inc, hK]
            refine ih _ ?_ ?_ ?_ ?_ ?_ ?_ ?_ ?_
            · rw [vi_rs_o (by omega), vi_rs_o (by omega), vi_rs_o (by omega), vi_rs_o (by omega), vi_rs_o (by omega), vi_rs_o (by omega)]; exact e1
            · rw [vi_rs_s, ← gW_s hbk, e2]
            · rw [vi_rs_o (by omega), vi_rs_o (by omega), vi_rs_o (by omega), vi_rs_o (by omega), vi_rs_o (by omega), vi_rs_o (by omega)]; exact e3
            · rw [vi_rs_o (by omega), vi_rs_s, gP_s hbk]
            · rw [vi_rs_o (by omega), vi_rs_o (by omega), vi_rs_s, gS_s hbk]
            · intro p h1 h2 h3 h4 h5 h6
              rw [vi_rs_o h3, vi_rs_o h5, vi_rs_o h6, vi_rs_o (by omega), vi_rs_o (by omega), vi_rs_o (by omega)]
              exact e6 p h1 h2 h3 h4 h5 h6
            · intro p h1 h2 h3 h4
              have t0 : p ≠ q := fun e => h2 (by rw [e]; exact q1)
              have t1 : p ≠ q + 1 := fun e => h3 (by rw [e]; exact q1)
              have t2 : p ≠ q + 2 := fun e => h4 (by rw [e]; exact q1)
              rw [vi_rs_o (by omega), vi_rs_o (by omega), vi_rs_o (by omega), vi_rs_o t0, vi_rs_o t2, vi_rs_o t1]
              exact e7 p h1 h2 h3 h4
            · intro h
              constructor
              · rw [vi_rs_o (by omega), vi_rs_o (by omega), vi_rs_o (by omega), vi_rs_o (by omega), vi_rs_o (by omega), vi_rs_o (by omega)]; exact g1
              · rw [vi_rs_o (by omega), vi_rs_o (by omega), vi_rs_o (by omega), vi_rs_o (by omega), vi_rs_o (by omega), vi_rs_o (by omega)]; exact g2
    have z0 : gSz x y z 0 = x := if_pos rfl
    have z1 : gSz x y z 1 = y := by unfold gSz; rw [if_neg (by omega), if_pos rfl]
    have z2 : gSz x y z 2 = z := by unfold gSz; rw [if_neg (by omega), if_neg (by omega)]
    generalize hM1 : vi_rs M 61 (vi_m 216 (fun c => (hC x y z L (c : Int) : Int)) (M 61)) = M1
    have o1 : ∀ p, p ≠ 61 → M1 p = M p := fun p hp => by rw [← hM1, vi_rs_o hp]
    have k37 := fun {K : Option vi_V → vi_W → Prop} => @k_37 (d + 8) K Y M n L hY (by rw [ex, ey, ez]; exact hb') hr hl hg
    rw [ex, ey, ez, hM1] at k37
    have e30 : M1 30 = M 30 := o1 30 (by omega)
    have k3 := fun {K : Option vi_V → vi_W → Prop} => @k_3 (d + 10) 63 K Y M1 n S1 p0 (by rw [o1 _ (by omega)]; exact s1) x y z bx by' bz
    generalize hM2 : vi_rs M1 64 (cR (sBox x y z)) = M2 at k3
    have o2 : ∀ p, p ≠ 64 → M2 p = M1 p := fun p hp => by rw [← hM2, vi_rs_o hp]
    have k4 := fun {K : Option vi_V → vi_W → Prop} => @k_4 (d + 10) 65 63 K Y M2 n S2 (sBox x y z) p1 p0 (by omega) (by rw [o2 _ (by omega), o1 _ (by omega)]; exact s2) (by rw [← hM2, vi_rs_s])
    generalize hM3 : vi_rs M2 66 (cR (sBox x y z)) = M3 at k4
    have o3 : ∀ p, p ≠ 66 → M3 p = M2 p := fun p hp => by rw [← hM3, vi_rs_o hp]
    have k2 := fun {K : Option vi_V → vi_W → Prop} => @k_2 (d + 10) 67 K Y M3 n S3 p2 (by rw [o3 _ (by omega), o2 _ (by omega), o1 _ (by omega)]; exact s3)
    generalize hM4 : vi_rs M3 68 (cR fun _ => false) = M4 at k2
    have o4 : ∀ p, p ≠ 68 → M4 p = M3 p := fun p hp => by rw [← hM4, vi_rs_o hp]
    have f : ∀ p, p ≠ 61 → p ≠ 64 → p ≠ 66 → p ≠ 68 → M4 p = M p := fun p h1 h2 h3 h4 => by rw [o4 p h4, o3 p h3, o2 p h2, o1 p h1]
    have g30 : M4 30 = M 30 := f 30 (by omega) (by omega) (by omega) (by omega)
    have g39 : M4 39 = M 39 := f 39 (by omega) (by omega) (by omega) (by omega)
    obtain ⟨m, hm, hm6, hG⟩ := hG
    have fin : ∀ q : Nat, (q = 0 ∧ (G = fun _ _ => (false, false, 1)) ∨ ∃ f, f = M 30 ∧ lOK Y q f (M (q - 2)) (M (q - 1)) G) → (if 0 ≤ M 30 7 then (M 39 (M 30 7).toNat).toNat else 0) = q → (-1 ≤ M 30 7 ∧ M 30 7 < (m : Int)) → vi_call GG (d + 12) 25 [.inr (.inr 60)] (Y, M, n) Q := by
      intro q hq hqe hf
      have k67 := fun {K : Option vi_V → vi_W → Prop} => @k_67 (d + 10) 30 K Y M4 n hh m (by rw [g30]; exact hm) hm6 (by rw [g30]; exact hf)
      rw [g30, show 30 + 9 = 39 from rfl, g39, hqe] at k67
      simp only [Nat.add_assoc, Nat.reduceAdd] at k37 k3 k4 k2 k67
      have q23 : q ≠ 0 → 120 < q := fun h => by
        rcases hq with ⟨h2, -⟩ | ⟨f, -, hl⟩
        · exact absurd h2 h
        · exact hl.2.1
      have := loop q hq 0 (by omega) M4 (by rw [o4 _ (by omega), o3 _ (by omega), o2 _ (by omega), ← hM1, vi_rs_s]) (by
          rw [f _ (by omega) (by omega) (by omega) (by omega)]
          funext c
          unfold gW
          rw [if_neg (by omega)]) (by rw [o4 _ (by omega), o3 _ (by omega), ← hM2, vi_rs_s]) (by
          rw [o4 _ (by omega), ← hM3, vi_rs_s]
          exact cR_c fun c _ => by unfold gP; rw [decide_eq_true (Nat.zero_le c), Bool.true_or, Bool.and_true]) (by
          rw [← hM4, vi_rs_s]
          exact cR_c fun c _ => by unfold gS; rw [decide_eq_false (by omega), Bool.false_and]) (fun p h1 h2 h3 h4 h5 h6 => f p h2 h4 h5 h6) (fun p h1 h2 h3 h4 => f p (by omega) (by omega) (by omega) (by omega)) (fun h => by
          have := q23 h
          exact ⟨f _ (by omega) (by omega) (by omega) (by omega), f _ (by omega) (by omega) (by omega) (by omega)⟩)
      simp (disch := omega) only [Option.toList_some, Option.toList_none, List.nil_append, List.cons_append, List.append_nil, true_and, and_true, not_true_eq_false, not_false_eq_true, true_implies, false_implies, implies_true, and_self, Int.reduceLT, Int.reduceLE, Int.reduceEq, Int.reduceNe, Int.reduceAdd, Int.reduceSub, Int.reduceMul, Int.reduceNeg, Int.reduceToNat, Int.toNat_natCast, ↓kk_ck, ↓kk_im, ↓kk_in, e_25, s_25_0, s_25_70, s_25_81, s_25_87, s_25_93, s_25_4, s_25_74, s_25_8, s_25_78, s_25_12, s_25_16, s_25_20, s_25_24, s_25_28, s_25_32, s_25_35, s_25_39, s_25_43, s_25_46, s_25_50, s_25_53, s_25_57, s_25_60, a1, a2, a3, a4, a5, a6, a7, a8, a9, b1, k37, k_43 b1, e30, ex, ey, ez, z0, z1, z2, p0.1, p1.1, p2.1, k3, k4, k2, k67]
      exact this
    rcases hG with ⟨h7, hGn⟩ | ⟨j, q, h7, hj, hq, hl2⟩
    · exact fin 0 (.inl ⟨rfl, hGn⟩) (if_neg (by omega)) (by omega)
    · refine fin q (.inr ⟨_, rfl, hl2⟩) ?_ (by omega)
      rw [if_pos (by omega), h7, Int.toNat_natCast, hq, Int.toNat_natCast]
  obtain ⟨r, w, ⟨M', e1, e2, e3, e4, e5, e6, e7, rfl, rfl⟩, hK⟩ := vi_kx (key (fun r w => ∃ M' : vi_M, M' 61 = vi_m 216 (fun c => (hC x y z L (c : Int) : Int)) (M 61) ∧ M' 62 = gW x y z L G 216 (M 62) ∧ M' 64 = cR (sBox x y z) ∧ M' 66 = cR (gP x y z L G 216) ∧ M' 68 = cR (gS x y z L G 216) ∧ (∀ p, p ≤ 120 → p ≠ 61 → p ≠ 62 → p ≠ 64 → p ≠ 66 → p ≠ 68 → M' p = M p) ∧ (∀ p, 120 < p → Y.1 p ≠ 23 → Y.1 (p - 1) ≠ 23 → Y.1 (p - 2) ≠ 23 → M' p = M p) ∧ r = none ∧ w = (Y, M', n)) (fun M' e1 e2 e3 e4 e5 e6 e7 => ⟨M', e1, e2, e3, e4, e5, e6, e7, rfl, rfl⟩))
  exact ⟨M', e1, e2, e3, e4, e5, e6, e7, hK⟩
end
