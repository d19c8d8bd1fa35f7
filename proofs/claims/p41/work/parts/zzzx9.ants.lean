/-! The property of its own: ways of ANTS. -/
def nxF (f far : Nat → Int) (O : Nat → Bool) (c : Nat) : Nat → Int
  | 0 => 999
  | k + 1 => if mBe (rowM f) (c : Int) k ≠ -1 ∧ O (mBe (rowM f) (c : Int) k).toNat = true ∧ far (mBe (rowM f) (c : Int) k).toNat = far c - 1 then min (nxF f far O c k) (mBe (rowM f) (c : Int) k) else nxF f far O c k
theorem nxF_p {f far : Nat → Int} {O : Nat → Bool} (hB : bxF f) {c : Nat} (hc : bxS f c = true) : ∀ k, k ≤ 6 → (nxF f far O c k = 999 ∨ ∃ b : Nat, nxF f far O c k = (b : Int) ∧ b < 216 ∧ sA c b ∧ O b = true ∧ far b = far c - 1) ∧ ∀ j, j < k → mBe (rowM f) (c : Int) j ≠ -1 → O (mBe (rowM f) (c : Int) j).toNat = true → far (mBe (rowM f) (c : Int) j).toNat = far c - 1 → nxF f far O c k ≤ mBe (rowM f) (c : Int) j := by
  intro k
  induction k with
  | zero => intro _; exact ⟨.inl rfl, fun j hj => absurd hj (by omega)⟩
  | succ k ih =>
    intro hk
    obtain ⟨i1, i2⟩ := ih (by omega)
    rw [nxF]
    by_cases h : mBe (rowM f) (c : Int) k ≠ -1 ∧ O (mBe (rowM f) (c : Int) k).toNat = true ∧ far (mBe (rowM f) (c : Int) k).toNat = far c - 1
    · rw [if_pos h]
      obtain ⟨b, eb, hb, hbx, hA⟩ := bs_A hB hc (show k < 6 by omega) h.1
      have h' := h
      rw [eb, Int.toNat_natCast] at h'
      rw [eb]
      refine ⟨.inr ?_, fun j hj j1 j2 j3 => ?_⟩
      · by_cases q : nxF f far O c k ≤ (b : Int)
        · rcases i1 with e | ⟨b', e, r⟩
          · omega
          · exact ⟨b', by omega, r⟩
        · exact ⟨b, by omega, hb, hA, h'.2.1, h'.2.2⟩
      · by_cases e : j = k
        · rw [e, eb]; omega
        · have := i2 j (by omega) j1 j2 j3
          omega
    · rw [if_neg h]
      refine ⟨i1, fun j hj j1 j2 j3 => ?_⟩
      by_cases e : j = k
      · rw [e] at j1 j2 j3
        exact absurd ⟨j1, j2, j3⟩ h
      · exact i2 j (by omega) j1 j2 j3
theorem nxF_b {f far : Nat → Int} {O : Nat → Bool} {c : Nat} : ∀ k, -1000 ≤ nxF f far O c k ∧ nxF f far O c k ≤ 999 → True := fun _ _ => trivial
section
variable {O : Nat → Bool} {q : Nat} {D : Nat → Int}
theorem lcW_d (h : gDs O q D) {p : Nat} (hp : p < 216) {N : Nat} (hN : D p = (N : Int)) : ∀ i, i ≤ N → D (lcW D p i) = ((N - i : Nat) : Int) := by
  intro i
  induction i with
  | zero => intro _; exact hN
  | succ i ih =>
    intro hi
    have e := ih (by omega)
    have := (lcN_low h (lcW_lt hp i) (by rw [e]; omega)).2.1
    rw [lcW, this, e]
    omega
theorem anV_c {D' : Nat → Int} {p : Nat} (hp : p < 216) (h : ∀ c, c < 216 → D c = D' c) {w : Int} : anV D p w = anV D' p w := by
  unfold anV
  rw [h p hp, lcW_c hp h]
end
/-- the next CELL is the law's -/
theorem nx_lc {f far : Nat → Int} {O : Nat → Bool} {q c : Nat} (hB : bxF f) (hOb : ∀ c, O c = true → bxS f c = true) (h : gDs O q (fD far)) (hc : c < 216) (hO : O c = true) (h0 : 0 < fD far c) : nxF f far O c 6 = (lcN (fD far) c : Int) := by
  obtain ⟨l1, l2, l3⟩ := lcN_low h hc h0
  have hfc : fD far c = far c ∧ far c < 999 := by
    unfold fD at h0 ⊢
    by_cases k : far c < 999
    · rw [if_pos k]; exact ⟨rfl, k⟩
    · rw [if_neg k] at h0; omega
  have hl := sA_lt hc l1
  have hOl := (h.2.2.1 _ hl (by omega)).1
  have hfl : far (lcN (fD far) c) = far c - 1 := by
    unfold fD at l2
    have e : (if far c < 999 then far c else (-1 : Int)) = far c := if_pos hfc.2
    rw [e] at l2
    by_cases k : far (lcN (fD far) c) < 999
    · rw [show (if far (lcN (fun c => if far c < 999 then far c else -1) c) < 999 then far (lcN (fun c => if far c < 999 then far c else -1) c) else (-1 : Int)) = far (lcN (fD far) c) from if_pos k] at l2
      exact l2
    · rw [show (if far (lcN (fun c => if far c < 999 then far c else -1) c) < 999 then far (lcN (fun c => if far c < 999 then far c else -1) c) else (-1 : Int)) = -1 from if_neg k] at l2
      omega
  obtain ⟨s, hs, es⟩ := bs_x (hOb c hO) (hOb _ hOl) l1
  obtain ⟨n1, n2⟩ := @nxF_p f far O hB c (hOb c hO) 6 (Nat.le_refl _)
  have le := n2 s hs (by rw [es]; omega) (by rw [es, Int.toNat_natCast]; exact hOl) (by rw [es, Int.toNat_natCast]; exact hfl)
  rw [es] at le
  rcases n1 with e | ⟨b, e, b1, b2, b3, b4⟩
  · omega
  · have : fD far b = fD far c - 1 := by
      rw [hfc.1]
      unfold fD
      rw [if_pos (by omega)]
      exact b4
    have := l3 b b2 this
    omega
section
variable {d ln : Nat} {Y : vi_Y} {M : vi_M} {nn : Nat × Nat} {v : Int} {f far : Nat → Int} {O : Nat → Bool} {F : Nat} {Q : Option vi_V → vi_W → Prop} {a6 a7 a8 a9 a10 a11 a13 a14 a15 a16 a17 a19 a20 a22 : Int}
theorem lw_1337 (hY : lwY Y ln) (tF : Y.1 F = 1 ∧ (Y.2.1 F : Int) = 216) (hr : rBx M 112 f) (hB : bxF f) (h126 : ∀ j, j < 216 → M 126 j = vi_b (O j)) (hMF : M F = far) (hfar : ∀ c, c < 216 → 0 ≤ far c ∧ far c ≤ 999) {c : Nat} (hc : c < 216) (hcb : bxS f c = true)
    (hQ : ∀ (a24 : Int) l25, vi_ok GG (d + 72) 0 1397 [some (.inr (.inr 1)), some (.inr (.inr 29)), some (.inr (.inr 112)), some (.inl v), some (.inr (.inr 125)), some (.inr (.inr 126)), some (.inl a6), some (.inl a7), some (.inl a8), some (.inl a9), some (.inl a10), some (.inl a11), some (.inr (.inr 127)), some (.inl a13), some (.inl a14), some (.inl a15), some (.inl a16), some (.inl a17), some (.inr (.inr F)), some (.inl a19), some (.inl a20), some (.inl (c : Int)), some (.inl a22), some (.inl (nxF f far O c 6)), some (.inl a24), l25] [] (Y, M, nn) Q) :
    ∀ k : Nat, k ≤ 6 → ∀ l25, vi_ok GG (d + 72) 0 1337 [some (.inr (.inr 1)), some (.inr (.inr 29)), some (.inr (.inr 112)), some (.inl v), some (.inr (.inr 125)), some (.inr (.inr 126)), some (.inl a6), some (.inl a7), some (.inl a8), some (.inl a9), some (.inl a10), some (.inl a11), some (.inr (.inr 127)), some (.inl a13), some (.inl a14), some (.inl a15), some (.inl a16), some (.inl a17), some (.inr (.inr F)), some (.inl a19), some (.inl a20), some (.inl (c : Int)), some (.inl a22), some (.inl (nxF f far O c k)), some (.inl (k : Int)), l25] [] (Y, M, nn) Q := by
  obtain ⟨⟨y1, y2⟩, -, ⟨t1, t2⟩, -, ⟨o1, o2⟩⟩ := hY
  obtain ⟨f1, f2⟩ := tF
  refine vi_dn 6 ?_ ?_
  · intro l25
    have q := hQ ((6 : Nat) : Int) l25
    rw [s_0_1337]
    clear hQ hr hB h126 hfar
    simp (disch := omega) only [Option.toList_some, Option.toList_none, List.nil_append, List.cons_append, List.append_nil, true_and, and_true, not_true_eq_false, not_false_eq_true, true_implies, false_implies, implies_true, and_self, Int.reduceLT, Int.reduceLE, Int.reduceEq, Int.reduceNe, Int.reduceAdd, Int.reduceSub, Int.reduceMul, Int.reduceNeg, Int.reduceToNat, Int.toNat_natCast, ↓kk_ck, ↓kk_im, ↓kk_in]
    exact q
  · intro k hk ih l25
    have k240 := fun {K : Option vi_V → vi_W → Prop} => @lk_240 (d + 71) K Y M nn 112 f t1 t2 hr hB c k hc hk hcb
    simp only [Nat.add_assoc, Nat.reduceAdd] at k240
    have fc := hfar c hc
    rw [s_0_1337]
    have back : ∀ (s : Int), s = nxF f far O c (k + 1) → ∀ a25 : Int, vi_ok GG (d + 72) 0 1391 [some (.inr (.inr 1)), some (.inr (.inr 29)), some (.inr (.inr 112)), some (.inl v), some (.inr (.inr 125)), some (.inr (.inr 126)), some (.inl a6), some (.inl a7), some (.inl a8), some (.inl a9), some (.inl a10), some (.inl a11), some (.inr (.inr 127)), some (.inl a13), some (.inl a14), some (.inl a15), some (.inl a16), some (.inl a17), some (.inr (.inr F)), some (.inl a19), some (.inl a20), some (.inl (c : Int)), some (.inl a22), some (.inl s), some (.inl (k : Int)), some (.inl a25)] [] (Y, M, nn) Q := by
      intro s hs a25
      have q := ih (some (.inl a25))
      rw [← hs] at q
      clear hQ hr hB h126 hfar ih hs
      simp (disch := omega) only [Option.toList_some, Option.toList_none, List.nil_append, List.cons_append, List.append_nil, true_and, and_true, not_true_eq_false, not_false_eq_true, true_implies, false_implies, implies_true, and_self, Int.reduceLT, Int.reduceLE, Int.reduceEq, Int.reduceNe, Int.reduceAdd, Int.reduceSub, Int.reduceMul, Int.reduceNeg, Int.reduceToNat, Int.toNat_natCast, ↓kk_ck, ↓kk_im, ↓kk_in, s_0_1391, vi_inc]
      exact q
    by_cases hm : mBe (rowM f) (c : Int) k = -1
    · have q := back _ (by rw [nxF, if_neg (fun q => q.1 hm)]) (-1)
      rw [hm] at k240
      generalize nxF f far O c k = n at *
      clear hQ hr hB h126 hfar ih back hm
      simp (disch := omega) only [Option.toList_some, Option.toList_none, List.nil_append, List.cons_append, List.append_nil, true_and, and_true, not_true_eq_false, not_false_eq_true, true_implies, false_implies, implies_true, and_self, Int.reduceLT, Int.reduceLE, Int.reduceEq, Int.reduceNe, Int.reduceAdd, Int.reduceSub, Int.reduceMul, Int.reduceNeg, Int.reduceToNat, Int.toNat_natCast, ↓kk_ck, ↓kk_im, ↓kk_in, s_0_1344, s_0_1352, k240]
      exact q
    · obtain ⟨b, eb, hb, hbx, hA⟩ := bs_A hB hcb hk hm
      have b126 := h126 b hb
      have fb := hfar b hb
      have back' := fun s hs => back s (by rw [nxF, eb, Int.toNat_natCast]; exact hs) (b : Int)
      rw [eb] at k240
      cases hO : O b
      · have q := back' (nxF f far O c k) (by rw [if_neg (fun q => by rw [hO] at q; exact absurd q.2.1 (by decide))])
        rw [hO] at b126
        generalize nxF f far O c k = n at *
        clear hQ hr hB h126 hfar ih back back' hm eb
        simp (disch := omega) only [Option.toList_some, Option.toList_none, List.nil_append, List.cons_append, List.append_nil, true_and, and_true, not_true_eq_false, not_false_eq_true, true_implies, false_implies, implies_true, and_self, Int.reduceLT, Int.reduceLE, Int.reduceEq, Int.reduceNe, Int.reduceAdd, Int.reduceSub, Int.reduceMul, Int.reduceNeg, Int.reduceToNat, Int.toNat_natCast, ↓kk_ck, ↓kk_im, ↓kk_in, s_0_1344, s_0_1352, s_0_1359, s_0_1364, o1, o2, b126, vi_bf, k240]
        exact q
      · rw [hO] at b126
        by_cases h2 : far b = far c - 1
        · have q := back' (min (nxF f far O c k) (b : Int)) (by rw [if_pos ⟨by omega, hO, h2⟩])
          generalize nxF f far O c k = n at *
          clear hQ hr hB h126 hfar ih back back' hm eb
          simp (disch := omega) only [Option.toList_some, Option.toList_none, List.nil_append, List.cons_append, List.append_nil, true_and, and_true, not_true_eq_false, not_false_eq_true, true_implies, false_implies, implies_true, and_self, Int.reduceLT, Int.reduceLE, Int.reduceEq, Int.reduceNe, Int.reduceAdd, Int.reduceSub, Int.reduceMul, Int.reduceNeg, Int.reduceToNat, Int.toNat_natCast, ↓kk_ck, ↓kk_im, ↓kk_in, s_0_1344, s_0_1352, s_0_1359, s_0_1364, s_0_1367, s_0_1372, s_0_1377, s_0_1379, s_0_1382, s_0_1389, o1, o2, f1, f2, b126, vi_bt, hMF, k240, k_360, @vi_32 (far c - 1) (by omega) (by omega), ne_eq]
          exact q
        · have q := back' (nxF f far O c k) (by rw [if_neg (fun q => h2 q.2.2)])
          generalize nxF f far O c k = n at *
          clear hQ hr hB h126 hfar ih back back' hm eb
          simp (disch := omega) only [Option.toList_some, Option.toList_none, List.nil_append, List.cons_append, List.append_nil, true_and, and_true, not_true_eq_false, not_false_eq_true, true_implies, false_implies, implies_true, and_self, Int.reduceLT, Int.reduceLE, Int.reduceEq, Int.reduceNe, Int.reduceAdd, Int.reduceSub, Int.reduceMul, Int.reduceNeg, Int.reduceToNat, Int.toNat_natCast, ↓kk_ck, ↓kk_im, ↓kk_in, s_0_1344, s_0_1352, s_0_1359, s_0_1364, s_0_1367, s_0_1372, s_0_1377, s_0_1379, o1, o2, f1, f2, b126, vi_bt, hMF, k240, @vi_32 (far c - 1) (by omega) (by omega), h2, ne_eq]
          exact q
end
section
variable {d ln : Nat} {Y : vi_Y} {nn : Nat × Nat} {v x y z t fl fo : Int} {L : List (Nat → Int)} {lw : Option (List gCla)} {g far : Nat → Int} {S O : Nat → Bool} {F : Nat} {Q : Option vi_V → vi_W → Prop} {a6 a7 a8 a9 a10 a11 a13 a15 a16 a19 : Int}
/-- what the law stands on while ANTS go -/
def lwA (x y z t fo : Int) (L : List (Nat → Int)) (lw : Option (List gCla)) (g : Nat → Int) (S O : Nat → Bool) (F : Nat) (far : Nat → Int) (M : vi_M) : Prop := wS M x y z t L [] lw 1 fo ∧ lwD M g S O ∧ M F = far
theorem lw_220 (hY : lwY Y ln) (hSe : S = lfS (fK x y z t L) lw L.length) (hOe : O = sDif S (shS (fK x y z t L) lw L.length)) (hF : 127 < F) {p q : Nat} (hp : p < 216) (hpb : bxS (fK x y z t L) p = true) (hq : q < 216) (hqb : bxS (fK x y z t L) q = true) (hD : O q = true → gDs O q (fD far)) {M : vi_M} (hA : lwA x y z t fo L lw g S O F far M) {w : Int} (hw : -1 ≤ w) :
    ∃ M', lwA x y z t fo L lw g S O F far M' ∧ ∀ K : Option vi_V → vi_W → Prop, vi_call GG (d + 72) 220 [.inr (.inr 29), .inl (p : Int), .inl (q : Int), .inl w] (Y, M, nn) K ↔ K (some (.inl (if O p = true ∧ O q = true then anV (fD far) p w else -1))) (Y, M', nn) := by
  obtain ⟨⟨y1, y2⟩, -, -, -, -⟩ := hY
  obtain ⟨hS, hC, hMF⟩ := hA
  obtain ⟨M', r, c1, c2, r1, r2, hK⟩ := @k_220 L.length (d + 2) lw Y M nn y1 y2 (fK x y z t L) (pP_z hS.1) hS.2 hS.1.2.2.2.2.1 p q w hpb hqb hw
  refine ⟨M', ⟨pS_q hS c1 c2, lwD_q hC c1, (c1.1 F (by omega)).trans hMF⟩, fun K => ?_⟩
  have er : r = if O p = true ∧ O q = true then anV (fD far) p w else -1 := by
    rw [← hSe, ← hOe] at r1 r2
    by_cases h : O p = true ∧ O q = true
    · rw [if_pos h]
      obtain ⟨D, g1, g2⟩ := r2 h
      rw [g2]
      exact anV_c hp (gDs_eq hq g1 (hD h.2))
    · rw [if_neg h]
      exact r1 h
  rw [← er]
  exact hK K
/-- from one CELL to another -/
theorem lw_1234 (hY : lwY Y ln) (tF : Y.1 F = 1 ∧ (Y.2.1 F : Int) = 216) (hF : 127 < F) (hSe : S = lfS (fK x y z t L) lw L.length) (hOe : O = sDif S (shS (fK x y z t L) lw L.length)) (hr : bxR g (fK x y z t L) fl 216 (fun c => mAt (fK x y z t L) (c : Int) L.length)) {p q : Nat} (hp : p < 216) (hpb : bxS (fK x y z t L) p = true) (hq : q < 216) (hqb : bxS (fK x y z t L) q = true)
    (hI : fI O q far) (hN : ∀ c b, c < 216 → b < 216 → O c = true → O b = true → sA c b → far c ≤ far b + 1) {M : vi_M} (hA : lwA x y z t fo L lw g S O F far M) {l20 l21 l22 l23 l24 l25 : Option vi_V}
    (hQ : ∀ M', wS M' x y z t L [] lw 1 fo → lwD M' g S O → ∀ (a20 a21 a22 : Int) l23 l24 l25, vi_ok GG (d + 72) 0 1430 [some (.inr (.inr 1)), some (.inr (.inr 29)), some (.inr (.inr 112)), some (.inl v), some (.inr (.inr 125)), some (.inr (.inr 126)), some (.inl a6), some (.inl a7), some (.inl a8), some (.inl a9), some (.inl a10), some (.inl a11), some (.inr (.inr 127)), some (.inl a13), some (.inl (p : Int)), some (.inl a15), some (.inl a16), some (.inl (q : Int)), some (.inr (.inr F)), some (.inl a19), some (.inl a20), some (.inl a21), some (.inl a22), l23, l24, l25] [] (Y, M', nn) Q) : vi_ok GG (d + 72) 0 1234 [some (.inr (.inr 1)), some (.inr (.inr 29)), some (.inr (.inr 112)), some (.inl v), some (.inr (.inr 125)), some (.inr (.inr 126)), some (.inl a6), some (.inl a7), some (.inl a8), some (.inl a9), some (.inl a10), some (.inl a11), some (.inr (.inr 127)), some (.inl a13), some (.inl (p : Int)), some (.inl a15), some (.inl a16), some (.inl (q : Int)), some (.inr (.inr F)), some (.inl a19), l20, l21, l22, l23, l24, l25] [] (Y, M, nn) Q := by
  have hY' := hY
  obtain ⟨⟨y1, y2⟩, -, ⟨t1, t2⟩, -, ⟨o1, o2⟩⟩ := hY'
  have h29 := y2.1
  have hB : bxF (fK x y z t L) := hA.1.1.2.2.1.2.2.2.2.1
  have hOb : ∀ c, O c = true → bxS (fK x y z t L) c = true := fun c h => by
    rw [hOe] at h
    unfold sDif at h
    rw [Bool.and_eq_true, hSe] at h
    exact lfS_b h.1
  have hD : O q = true → gDs O q (fD far) := fun h => fI_g hq h hI hN
  have one := fun {M : vi_M} {w : Int} (hA : lwA x y z t fo L lw g S O F far M) (hw : -1 ≤ w) => @lw_220 d ln Y nn x y z t fo L lw g far S O F hY hSe hOe hF p q hp hpb hq hqb hD M hA w hw
  have fp := (hI.2 p hp).1
  have p126 := (hA.2.1.2 p hp).2
  obtain ⟨f1, f2⟩ := tF
  have hMF := hA.2.2
  -- what is due
  by_cases hdue : O p = true ∧ far p < 999
  · obtain ⟨hOp, hlt⟩ := hdue
    have hOq := ((hI.2 p hp).2 hlt).2.1
    have hG := hD hOq
    obtain ⟨N, hNe⟩ : ∃ N : Nat, far p = (N : Int) := ⟨(far p).toNat, by omega⟩
    have hNb := fI_b hI hN hp hlt
    have hDp : fD far p = (N : Int) := by unfold fD; rw [if_pos hlt]; exact hNe
    have ans : ∀ w : Int, (if O p = true ∧ O q = true then anV (fD far) p w else -1) = anV (fD far) p w := fun w => if_pos ⟨hOp, hOq⟩
    obtain ⟨M1, A1, k1⟩ := one hA (w := -1) (Int.le_refl _)
    rw [ans] at k1
    have e1 : anV (fD far) p (-1) = (N : Int) := by unfold anV; rw [if_pos rfl]; exact hDp
    rw [e1] at k1
    have lp : ∀ i : Nat, i ≤ N + 1 → ∀ (M : vi_M) (a21 : Int), lwA x y z t fo L lw g S O F far M → (i ≤ N → a21 = (lcW (fD far) p i : Int)) → ∀ l23 l24 l25, vi_ok GG (d + 72) 0 1305 [some (.inr (.inr 1)), some (.inr (.inr 29)), some (.inr (.inr 112)), some (.inl v), some (.inr (.inr 125)), some (.inr (.inr 126)), some (.inl a6), some (.inl a7), some (.inl a8), some (.inl a9), some (.inl a10), some (.inl a11), some (.inr (.inr 127)), some (.inl a13), some (.inl (p : Int)), some (.inl a15), some (.inl a16), some (.inl (q : Int)), some (.inr (.inr F)), some (.inl a19), some (.inl (N : Int)), some (.inl a21), some (.inl (i : Int)), l23, l24, l25] [] (Y, M, nn) Q := by
      refine vi_dn (N + 1) ?_ ?_
      · intro M a21 hA _ l23 l24 l25
        obtain ⟨M2, A2, k2⟩ := one hA (w := (N : Int) + 1) (by omega)
        have e2 : anV (fD far) p ((N : Int) + 1) = -1 := by unfold anV; rw [if_neg (by omega), hDp, if_pos (by omega)]
        rw [ans, e2] at k2
        have qq := hQ M2 A2.1 A2.2.1 (N : Int) a21 ((N + 1 : Nat) : Int) l23 l24 l25
        rw [s_0_1305]
        clear hQ one hA A2 hD hG hI hN hOb hr hSe hOe ans k1 A1
        simp (disch := omega) only [Option.toList_some, Option.toList_none, List.nil_append, List.cons_append, List.append_nil, true_and, and_true, not_true_eq_false, not_false_eq_true, true_implies, false_implies, implies_true, and_self, Int.reduceLT, Int.reduceLE, Int.reduceEq, Int.reduceNe, Int.reduceAdd, Int.reduceSub, Int.reduceMul, Int.reduceNeg, Int.reduceToNat, Int.toNat_natCast, ↓kk_ck, ↓kk_im, ↓kk_in, s_0_1407, s_0_1412, s_0_1424, h29, k2, @vi_32 ((N : Int) + 1) (by omega) (by omega)]
        exact qq
      · intro i hi ih M a21 hA ha l23 l24 l25
        have ha := ha (by omega)
        obtain ⟨M2, A2, k2⟩ := one hA (w := (i : Int)) (by omega)
        have e2 : anV (fD far) p (i : Int) = (lcW (fD far) p i : Int) := by unfold anV; rw [if_neg (by omega), hDp, if_neg (by omega), Int.toNat_natCast]
        rw [ans, e2] at k2
        have hlt2 := @lcW_lt (fD far) p hp i
        have hde := lcW_d hG hp hDp i (by omega)
        obtain ⟨c, hc⟩ : ∃ c, c = lcW (fD far) p i := ⟨_, rfl⟩
        rw [← hc] at hlt2 hde k2 ha
        have hOc := (hG.2.2.1 c hlt2 (by omega)).1
        have st := lw_1337 (d := d) (Y := Y) (nn := nn) (v := v) (f := fK x y z t L) (far := far) (O := O) (F := F) (Q := Q) (M := M2) (a6 := a6) (a7 := a7) (a8 := a8) (a9 := a9) (a10 := a10) (a11 := a11) (a13 := a13) (a14 := (p : Int)) (a15 := a15) (a16 := a16) (a17 := (q : Int)) (a19 := a19) (a20 := (N : Int)) (a22 := (i : Int)) hY ⟨f1, f2⟩ (by rw [rBx, A2.2.1.1]; exact ⟨hr.1.1, hr.1.2.1, hr.1.2.2.1⟩) hB (fun j hj => (A2.2.1.2 j hj).2) A2.2.2 (fun c hc => (hI.2 c hc).1) hlt2 (hOb c hOc) (fun a24 l25 => by
          have qq := ih M2 (nxF (fK x y z t L) far O c 6) A2 (fun hi2 => by
            rw [nx_lc hB hOb hG hlt2 hOc (by omega), hc]
            rfl) (some (.inl (nxF (fK x y z t L) far O c 6))) (some (.inl a24)) l25
          generalize nxF (fK x y z t L) far O c 6 = nx at *
          clear hQ one hA A2 hD hG hI hN hOb hr hSe hOe ans k1 A1 ih k2
          simp (disch := omega) only [Option.toList_some, Option.toList_none, List.nil_append, List.cons_append, List.append_nil, true_and, and_true, not_true_eq_false, not_false_eq_true, true_implies, false_implies, implies_true, and_self, Int.reduceLT, Int.reduceLE, Int.reduceEq, Int.reduceNe, Int.reduceAdd, Int.reduceSub, Int.reduceMul, Int.reduceNeg, Int.reduceToNat, Int.toNat_natCast, ↓kk_ck, ↓kk_im, ↓kk_in, s_0_1397, vi_inc]
          exact qq) 0 (by omega) l25
        have st : vi_ok GG (d + 72) 0 1337 [some (.inr (.inr 1)), some (.inr (.inr 29)), some (.inr (.inr 112)), some (.inl v), some (.inr (.inr 125)), some (.inr (.inr 126)), some (.inl a6), some (.inl a7), some (.inl a8), some (.inl a9), some (.inl a10), some (.inl a11), some (.inr (.inr 127)), some (.inl a13), some (.inl (p : Int)), some (.inl a15), some (.inl a16), some (.inl (q : Int)), some (.inr (.inr F)), some (.inl a19), some (.inl (N : Int)), some (.inl (c : Int)), some (.inl (i : Int)), some (.inl 999), some (.inl 0), l25] [] (Y, M2, nn) Q := st
        rw [s_0_1305, ha]
        clear hQ one hA A2 hD hG hI hN hOb hr hSe hOe ans k1 A1 ih
        simp (disch := omega) only [Option.toList_some, Option.toList_none, List.nil_append, List.cons_append, List.append_nil, true_and, and_true, not_true_eq_false, not_false_eq_true, true_implies, false_implies, implies_true, and_self, Int.reduceLT, Int.reduceLE, Int.reduceEq, Int.reduceNe, Int.reduceAdd, Int.reduceSub, Int.reduceMul, Int.reduceNeg, Int.reduceToNat, Int.toNat_natCast, ↓kk_ck, ↓kk_im, ↓kk_in, s_0_1312, s_0_1322, s_0_1329, h29, k2]
        exact st
    have qq := lp 0 (by omega) M1 (p : Int) A1 (fun _ => rfl) l23 l24 l25
    rw [hOp] at p126
    clear hQ one hD hG hI hN hOb hr hSe hOe ans A1 lp hA
    simp (disch := omega) only [Option.toList_some, Option.toList_none, List.nil_append, List.cons_append, List.append_nil, true_and, and_true, not_true_eq_false, not_false_eq_true, true_implies, false_implies, implies_true, and_self, Int.reduceLT, Int.reduceLE, Int.reduceEq, Int.reduceNe, Int.reduceAdd, Int.reduceSub, Int.reduceMul, Int.reduceNeg, Int.reduceToNat, Int.toNat_natCast, ↓kk_ck, ↓kk_im, ↓kk_in, s_0_1234, s_0_1239, s_0_1242, s_0_1247, s_0_1253, s_0_1258, s_0_1262, s_0_1273, s_0_1278, s_0_1298, o1, o2, f1, f2, p126, vi_bt, hMF, hNe, h29, k1, ne_eq]
    exact qq
  · have ans : ∀ w : Int, w = -1 ∨ w = 0 → (if O p = true ∧ O q = true then anV (fD far) p w else -1) = -1 := by
      intro w hw
      by_cases h : O p = true ∧ O q = true
      · rw [if_pos h]
        have hd : fD far p = -1 := by unfold fD; exact if_neg (fun k => hdue ⟨h.1, k⟩)
        unfold anV
        rcases hw with rfl | rfl
        · rw [if_pos rfl]; exact hd
        · rw [if_neg (by decide), hd, if_pos (by decide)]
      · exact if_neg h
    obtain ⟨M1, A1, k1⟩ := one hA (w := -1) (Int.le_refl _)
    obtain ⟨M2, A2, k2⟩ := one A1 (w := 0) (by omega)
    rw [ans _ (.inl rfl)] at k1
    rw [ans _ (.inr rfl)] at k2
    have qq := hQ M2 A2.1 A2.2.1 (-1) (p : Int) 0 l23 l24 l25
    have st : vi_ok GG (d + 72) 0 1262 [some (.inr (.inr 1)), some (.inr (.inr 29)), some (.inr (.inr 112)), some (.inl v), some (.inr (.inr 125)), some (.inr (.inr 126)), some (.inl a6), some (.inl a7), some (.inl a8), some (.inl a9), some (.inl a10), some (.inl a11), some (.inr (.inr 127)), some (.inl a13), some (.inl (p : Int)), some (.inl a15), some (.inl a16), some (.inl (q : Int)), some (.inr (.inr F)), some (.inl a19), l20, l21, l22, l23, l24, l25] [.inl (-1)] (Y, M, nn) Q := by
      clear hQ one hD hI hN hOb hr hSe hOe ans A1 A2 hA p126
      simp (disch := omega) only [Option.toList_some, Option.toList_none, List.nil_append, List.cons_append, List.append_nil, true_and, and_true, not_true_eq_false, not_false_eq_true, true_implies, false_implies, implies_true, and_self, Int.reduceLT, Int.reduceLE, Int.reduceEq, Int.reduceNe, Int.reduceAdd, Int.reduceSub, Int.reduceMul, Int.reduceNeg, Int.reduceToNat, Int.toNat_natCast, ↓kk_ck, ↓kk_im, ↓kk_in, s_0_1262, s_0_1273, s_0_1278, s_0_1283, s_0_1292, s_0_1298, s_0_1305, s_0_1407, h29, k1, k2, ne_eq]
      exact qq
    clear hQ one hD hI hN hOb hr hSe hOe ans A1 A2 hA k1 k2 qq
    cases hO : O p
    · rw [hO] at p126
      simp (disch := omega) only [Option.toList_some, Option.toList_none, List.nil_append, List.cons_append, List.append_nil, true_and, and_true, not_true_eq_false, not_false_eq_true, true_implies, false_implies, implies_true, and_self, Int.reduceLT, Int.reduceLE, Int.reduceEq, Int.reduceNe, Int.reduceAdd, Int.reduceSub, Int.reduceMul, Int.reduceNeg, Int.reduceToNat, Int.toNat_natCast, ↓kk_ck, ↓kk_im, ↓kk_in, s_0_1234, s_0_1239, s_0_1261, o1, o2, p126, vi_bf]
      exact st
    · rw [hO] at p126
      have hfp : (999 : Int) ≤ far p := by
        have : ¬ far p < 999 := fun k => hdue ⟨hO, k⟩
        omega
      simp (disch := omega) only [Option.toList_some, Option.toList_none, List.nil_append, List.cons_append, List.append_nil, true_and, and_true, not_true_eq_false, not_false_eq_true, true_implies, false_implies, implies_true, and_self, Int.reduceLT, Int.reduceLE, Int.reduceEq, Int.reduceNe, Int.reduceAdd, Int.reduceSub, Int.reduceMul, Int.reduceNeg, Int.reduceToNat, Int.toNat_natCast, ↓kk_ck, ↓kk_im, ↓kk_in, s_0_1234, s_0_1239, s_0_1242, s_0_1247, s_0_1261, o1, o2, f1, f2, p126, vi_bt, hMF]
      exact st
end
