/-! Pairs: terms, judge. -/
theorem lsE_c {f f' : Nat → Int} {b w cnt : Nat} {L : List (Nat → Int)} (hw : w = 4 ∨ w = 5 ∨ w = 6) (h : lsE f b w cnt L) (hc : f' cnt = f cnt) (hp : ∀ k, b ≤ k → k < b + w * L.length → f' k = f k) : lsE f' b w cnt L := by
  refine ⟨hc.trans h.1, fun r j hr hj => ?_⟩
  rw [← h.2 r j hr hj]
  exact hp _ (by omega) (by obtain rfl | rfl | rfl := hw <;> omega)
theorem gFl_m {x y z : Int} {L : List (Nat → Int)} {v : Nat → Int} (h : v ∈ gFl x y z L) : v ∈ L ∧ gPl x y z (v 0) (v 1) (v 2) = true := by
  unfold gFl at h
  rw [List.mem_filter] at h
  exact h
theorem gFl_id {x y z : Int} {L : List (Nat → Int)} (h : ∀ v, v ∈ L → gPl x y z (v 0) (v 1) (v 2) = true) : gFl x y z L = L := by
  unfold gFl
  rw [List.filter_eq_self]
  exact h
theorem te_row {f f0 : Nat → Int} {LH LR LS : List (Nat → Int)} (cH : rHs f LH) (cR' : rRw f LR) (cS : rSc f LS) (h0 : ∀ k, k < 96 ∨ 100 ≤ k → f0 k = f k) {F : Nat → Int} (hF : F = mGo 132 5 294 LS.length (mGo 100 4 293 LR.length (mGo 0 6 292 LH.length f0))) : rHs F (gFl (f0 96) (f0 97) (f0 98) LH) ∧ rRw F (gFl (f0 96) (f0 97) (f0 98) LR) ∧ rSc F (gFl (f0 96) (f0 97) (f0 98) LS) ∧ ∀ k, (96 ≤ k ∧ k < 100) ∨ (172 ≤ k ∧ k < 292) ∨ 295 ≤ k → F k = f0 k := by
  obtain ⟨h1, h2, h3⟩ := rHs_e.mp cH
  obtain ⟨r1, r2, r3⟩ := rRw_e.mp cR'
  obtain ⟨s1, s2, s3⟩ := rSc_e.mp cS
  have m1 : mLm 0 6 292 LH.length := ⟨.inr (.inr rfl), by omega, by omega, by omega, by omega⟩
  have m2 : mLm 100 4 293 LR.length := ⟨.inl rfl, by omega, by omega, by omega, by omega⟩
  have m3 : mLm 132 5 294 LS.length := ⟨.inr (.inl rfl), by omega, by omega, by omega, by omega⟩
  have a1 : lsE f0 0 6 292 LH := lsE_c (.inr (.inr rfl)) h1 (h0 292 (by omega)) fun k k1 k2 => h0 k (by omega)
  have a2 : lsE f0 100 4 293 LR := lsE_c (.inl rfl) r1 (h0 293 (by omega)) fun k k1 k2 => h0 k (by omega)
  have a3 : lsE f0 132 5 294 LS := lsE_c (.inr (.inl rfl)) s1 (h0 294 (by omega)) fun k k1 k2 => h0 k (by omega)
  have b1 := mGo_e LH.length LH [] f0 rfl (by rw [List.append_nil]; exact a1) (by rw [List.append_nil]; exact m1) rfl rfl rfl
  have o1 := (mGo_o LH.length f0 LH.length a1.1 (Nat.le_refl _) m1).1
  rw [List.append_nil] at b1
  obtain ⟨F1, hF1⟩ : ∃ F1, F1 = mGo 0 6 292 LH.length f0 := ⟨_, rfl⟩
  rw [← hF1] at b1 o1 hF
  have p1 : ∀ k, 96 ≤ k → k ≠ 292 → F1 k = f0 k := fun k k1 k2 => o1 k (by omega) k2
  have c2 : lsE F1 100 4 293 LR := lsE_c (.inl rfl) a2 (p1 293 (by omega) (by omega)) fun k k1 k2 => p1 k (by omega) (by omega)
  have b2 := mGo_e LR.length LR [] F1 rfl (by rw [List.append_nil]; exact c2) (by rw [List.append_nil]; exact m2) rfl rfl rfl
  have o2 := (mGo_o LR.length F1 LR.length c2.1 (Nat.le_refl _) m2).1
  rw [List.append_nil, p1 96 (by omega) (by omega), p1 97 (by omega) (by omega), p1 98 (by omega) (by omega)] at b2
  obtain ⟨F2, hF2⟩ : ∃ F2, F2 = mGo 100 4 293 LR.length F1 := ⟨_, rfl⟩
  rw [← hF2] at b2 o2 hF
  have p2 : ∀ k, (k < 100 ∨ 132 ≤ k) → k ≠ 293 → F2 k = F1 k := fun k k1 k2 => o2 k (by omega) k2
  have c3 : lsE F2 132 5 294 LS := lsE_c (.inr (.inl rfl)) a3 ((p2 294 (by omega) (by omega)).trans (p1 294 (by omega) (by omega))) fun k k1 k2 => (p2 k (by omega) (by omega)).trans (p1 k (by omega) (by omega))
  have b3 := mGo_e LS.length LS [] F2 rfl (by rw [List.append_nil]; exact c3) (by rw [List.append_nil]; exact m3) rfl rfl rfl
  have o3 := (mGo_o LS.length F2 LS.length c3.1 (Nat.le_refl _) m3).1
  rw [List.append_nil, p2 96 (by omega) (by omega), p2 97 (by omega) (by omega), p2 98 (by omega) (by omega), p1 96 (by omega) (by omega), p1 97 (by omega) (by omega), p1 98 (by omega) (by omega)] at b3
  rw [← hF] at b3 o3
  have p3 : ∀ k, (k < 132 ∨ 172 ≤ k) → k ≠ 294 → F k = F2 k := fun k k1 k2 => o3 k (by omega) k2
  have all : ∀ k, (96 ≤ k ∧ k < 100) ∨ (172 ≤ k ∧ k < 292) ∨ 295 ≤ k → F k = f0 k := fun k hk => (p3 k (by omega) (by omega)).trans ((p2 k (by omega) (by omega)).trans (p1 k (by omega) (by omega)))
  have l1 := @gFl_len (f0 96) (f0 97) (f0 98) LH
  have l2 := @gFl_len (f0 96) (f0 97) (f0 98) LR
  have l3 := @gFl_len (f0 96) (f0 97) (f0 98) LS
  refine ⟨rHs_e.mpr ⟨?_, by omega, fun v hv => ?_⟩, rRw_e.mpr ⟨?_, by omega, fun v hv => ?_⟩, rSc_e.mpr ⟨b3, by omega, fun v hv => ?_⟩, all⟩
  · exact lsE_c (.inr (.inr rfl)) b1 ((p3 292 (by omega) (by omega)).trans (p2 292 (by omega) (by omega))) fun k k1 k2 => (p3 k (by omega) (by omega)).trans (p2 k (by omega) (by omega))
  · rw [all 96 (by omega), all 97 (by omega), all 98 (by omega)]
    exact ⟨(h3 v (gFl_m hv).1).1, (gFl_m hv).2⟩
  · exact lsE_c (.inl rfl) b2 (p3 293 (by omega) (by omega)) fun k k1 k2 => p3 k (by omega) (by omega)
  · rw [all 96 (by omega), all 97 (by omega), all 98 (by omega)]
    exact (gFl_m hv).2
  · rw [all 96 (by omega), all 97 (by omega), all 98 (by omega)]
    exact ⟨(s3 v (gFl_m hv).1).1, (s3 v (gFl_m hv).1).2.1, (gFl_m hv).2⟩
section
variable {sc : Nat → Int} {ln t a n d : Nat} {CS : Nat → List gCla} {lw : Option (List gCla)} {Y : vi_Y} {M : vi_M} {nn : Nat × Nat} {K : Option vi_V → vi_W → Prop}
/-- the first row that isn't so -/
def jgN (f : Nat → Int) (S : Nat → Bool) (L : List (Nat → Int)) : Nat → Nat → Int
  | 0, _ => -1
  | k + 1, i => if (rwN f S (rL L i 0) (rL L i 1) (rL L i 2) : Int) = rL L i 3 then jgN f S L k (i + 1) else (i : Int)
theorem jgN_m {f g : Nat → Int} {S : Nat → Bool} {L : List (Nat → Int)} (hB : bxF f) (hg : ∀ c, c < 216 → g c = vi_b (S c)) (hR : rRw f L) : ∀ k i, i + k = L.length → mJg f g k i = jgN f S L k i
  | 0, _, _ => rfl
  | k + 1, i, h => by
    obtain ⟨r1, r2⟩ := hR.2.2 i (by omega)
    have e0 := r2 0 (by omega)
    rw [Nat.add_zero] at e0
    rw [mJg, jgN, jgN_m hB hg hR k (i + 1) (by omega), e0, r2 1 (by omega), r2 2 (by omega), r2 3 (by omega)]
    have hb := r1
    rw [← hc_ib] at hb
    have hb' := of_decide_eq_true hb
    obtain ⟨b, e⟩ : ∃ b : Nat, rL L i 0 = (b : Int) := ⟨(rL L i 0).toNat, by omega⟩
    rw [e] at hb ⊢
    rw [Int.toNat_natCast, rwN_m hB hg hb]
theorem k_206 (hY : kY Y 112) (h9 : kY9 Y) {f : Nat → Int} (hs : rSz f (M 30)) (hV : jV M f lw n) {L : List (Nat → Int)} (hr : rOK (M 33) (M 34) L) (hl : L.length ≤ 8) : vi_call GG (d + 70) 206 [.inr (.inr 29)] (Y, M, nn) K ↔ K (some (.inl (jgN f (lfS f lw n) L L.length 0))) (Y, M, nn) := by
  obtain ⟨a1, a2, a3, a4, a5, a6, a7, a8, a9, a10, a11, a12⟩ := y_29 h9
  obtain ⟨b1, b2, b3, b4, -⟩ := y_30 hY (by omega)
  obtain ⟨c1, c2, c3, c4, c5, c6, c7, c8, c9⟩ := y_60 hY (by omega)
  have kr := kR_33 hY (by omega)
  have hr0 : M 33 2 = (L.length : Int) := hr.1
  have hb : gB (M 30 8) (M 30 9) (M 30 10) := by rw [hs.1, hs.2.1, hs.2.2.1]; exact hs.2.2.2.2.1
  have k149 := fun {K : Option vi_V → vi_W → Prop} => @k_149 (d + 68) 33 K (Y, M, nn) kr.1
  simp only [Nat.add_assoc, Nat.reduceAdd] at k149
  rw [hr0] at k149
  have k33 : ∀ (b u v : Int) (K : Option vi_V → vi_W → Prop), vi_call GG (d + 69) 33 [.inr (.inr 60), .inl b, .inl u, .inl v] (Y, M, nn) K ↔ K (some (.inl (rwN f (lfS f lw n) b u v : Int))) (Y, M, nn) := fun b u v K => by
    have := @k_33 (d + 66) K Y M nn _ (kY_le hY (show 73 ≤ 112 by omega)) hb hV.2.2.2.1 b u v
    rw [hs.1, hs.2.1, hs.2.2.1] at this
    exact this
  have k151 : ∀ (i j : Nat), i < L.length → j < 6 → ∀ K : Option vi_V → vi_W → Prop, vi_call GG (d + 69) 151 [.inr (.inr 33), .inl (i : Int), .inl (j : Int)] (Y, M, nn) K ↔ K (some (.inl (rL L i j))) (Y, M, nn) := fun i j hi hj K => by
    have := @k_151 (d + 68) 33 8 K Y M nn L kr hr hl (i : Int) j hj
    rw [show rNum L (i : Int) j = rL L i j from by unfold rNum; rw [if_pos (by omega), Int.toNat_natCast]] at this
    exact this
  refine vi_k (r := some (.inl _)) fun Q hQ => ?_
  have loop : ∀ k i : Nat, i + k = L.length → ∀ l3 l4, Q (some (.inl (jgN f (lfS f lw n) L k i))) (Y, M, nn) → vi_ok GG (d + 69) 206 10 [some (.inr (.inr 29)), some (.inr (.inr 33)), some (.inl (i : Int)), l3, l4] [] (Y, M, nn) Q := by
    intro k
    induction k with
    | zero =>
      intro i hi l3 l4 hq
      rw [jgN] at hq
      rw [s_206_10]
      clear hs hV hb hQ
      simp (disch := omega) only [Option.toList_some, Option.toList_none, List.nil_append, List.cons_append, List.append_nil, true_and, and_true, not_true_eq_false, not_false_eq_true, true_implies, false_implies, implies_true, and_self, Int.reduceLT, Int.reduceLE, Int.reduceEq, Int.reduceNe, Int.reduceAdd, Int.reduceSub, Int.reduceMul, Int.reduceNeg, Int.reduceToNat, Int.toNat_natCast, ↓kk_ck, ↓kk_im, ↓kk_in, s_206_0, s_206_18, s_206_58, s_206_60, s_206_66, s_206_4, s_206_15, s_206_24, s_206_7, s_206_29, s_206_36, s_206_42, s_206_45, s_206_55, kr.1, k149, ne_eq]
      exact hq
    | succ k ih =>
      intro i hi l3 l4 hq
      have hil : i < L.length := by omega
      have q0 : ∀ K : Option vi_V → vi_W → Prop, vi_call GG (d + 69) 151 [.inr (.inr 33), .inl (i : Int), .inl 0] (Y, M, nn) K ↔ K (some (.inl (rL L i 0))) (Y, M, nn) := k151 i 0 hil (by omega)
      have q1 : ∀ K : Option vi_V → vi_W → Prop, vi_call GG (d + 69) 151 [.inr (.inr 33), .inl (i : Int), .inl 1] (Y, M, nn) K ↔ K (some (.inl (rL L i 1))) (Y, M, nn) := k151 i 1 hil (by omega)
      have q2 : ∀ K : Option vi_V → vi_W → Prop, vi_call GG (d + 69) 151 [.inr (.inr 33), .inl (i : Int), .inl 2] (Y, M, nn) K ↔ K (some (.inl (rL L i 2))) (Y, M, nn) := k151 i 2 hil (by omega)
      have q3 : ∀ K : Option vi_V → vi_W → Prop, vi_call GG (d + 69) 151 [.inr (.inr 33), .inl (i : Int), .inl 3] (Y, M, nn) K ↔ K (some (.inl (rL L i 3))) (Y, M, nn) := k151 i 3 hil (by omega)
      rw [jgN] at hq
      rw [s_206_10]
      by_cases he : (rwN f (lfS f lw n) (rL L i 0) (rL L i 1) (rL L i 2) : Int) = rL L i 3
      · rw [if_pos he] at hq
        have := ih (i + 1) (by omega) (some (.inl (rL L i 0))) (some (.inl (rwN f (lfS f lw n) (rL L i 0) (rL L i 1) (rL L i 2) : Int))) hq
        clear hs hV hb hQ ih k151
        simp (disch := omega) only [Option.toList_some, Option.toList_none, List.nil_append, List.cons_append, List.append_nil, true_and, and_true, not_true_eq_false, not_false_eq_true, true_implies, false_implies, implies_true, and_self, Int.reduceLT, Int.reduceLE, Int.reduceEq, Int.reduceNe, Int.reduceAdd, Int.reduceSub, Int.reduceMul, Int.reduceNeg, Int.reduceToNat, Int.toNat_natCast, ↓kk_ck, ↓kk_im, ↓kk_in, s_206_0, s_206_18, s_206_58, s_206_60, s_206_66, s_206_4, s_206_15, s_206_24, s_206_7, s_206_29, s_206_36, s_206_42, s_206_45, s_206_55, a1, a5, kr.1, c1, k149, q0, q1, q2, q3, k33, he, ne_eq, vi_inc]
        rw [he] at this
        exact this
      · rw [if_neg he] at hq
        clear hs hV hb hQ ih k151
        simp (disch := omega) only [Option.toList_some, Option.toList_none, List.nil_append, List.cons_append, List.append_nil, true_and, and_true, not_true_eq_false, not_false_eq_true, true_implies, false_implies, implies_true, and_self, Int.reduceLT, Int.reduceLE, Int.reduceEq, Int.reduceNe, Int.reduceAdd, Int.reduceSub, Int.reduceMul, Int.reduceNeg, Int.reduceToNat, Int.toNat_natCast, ↓kk_ck, ↓kk_im, ↓kk_in, s_206_0, s_206_18, s_206_58, s_206_60, s_206_66, s_206_4, s_206_15, s_206_24, s_206_7, s_206_29, s_206_36, s_206_42, s_206_45, s_206_55, a1, a5, kr.1, c1, k149, q0, q1, q2, q3, k33, he, ne_eq, vi_inc]
        exact hq
  have := loop L.length 0 (by omega) none none hQ
  clear loop hs hV hb hQ k151 k33
  simp (disch := omega) only [Option.toList_some, Option.toList_none, List.nil_append, List.cons_append, List.append_nil, true_and, and_true, not_true_eq_false, not_false_eq_true, true_implies, false_implies, implies_true, and_self, Int.reduceLT, Int.reduceLE, Int.reduceEq, Int.reduceNe, Int.reduceAdd, Int.reduceSub, Int.reduceMul, Int.reduceNeg, Int.reduceToNat, Int.toNat_natCast, ↓kk_ck, ↓kk_im, ↓kk_in, e_206, s_206_0, s_206_4, s_206_7, a1, a2, b1, b3]
  exact this
end
