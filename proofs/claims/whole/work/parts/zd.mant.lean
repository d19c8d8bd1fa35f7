/-! ant (reference). -/
/-- the least neighbour nearer by one, among the first s sides -/
def nxF (M : vi_M) (D : Nat → Int) (c : Nat) : Nat → Int
  | 0 => -1
  | s + 1 => if mBe M (c : Int) s ≠ -1 ∧ D (mBe M (c : Int) s).toNat ≠ -1 ∧ D (mBe M (c : Int) s).toNat = D c - 1 ∧ (nxF M D c s = -1 ∨ mBe M (c : Int) s < nxF M D c s) then mBe M (c : Int) s else nxF M D c s
theorem nxF_p {M : vi_M} (hB : mBx M) {D : Nat → Int} {c : Nat} (hc : mIc M (c : Int)) : ∀ s : Nat, s ≤ 6 →
    (nxF M D c s = -1 ∧ ∀ v, v < s → ¬ (mBe M (c : Int) v ≠ -1 ∧ D (mBe M (c : Int) v).toNat ≠ -1 ∧ D (mBe M (c : Int) v).toNat = D c - 1)) ∨
    (∃ v, v < s ∧ (mBe M (c : Int) v ≠ -1 ∧ D (mBe M (c : Int) v).toNat ≠ -1 ∧ D (mBe M (c : Int) v).toNat = D c - 1) ∧ nxF M D c s = mBe M (c : Int) v ∧ ∀ v', v' < s → (mBe M (c : Int) v' ≠ -1 ∧ D (mBe M (c : Int) v').toNat ≠ -1 ∧ D (mBe M (c : Int) v').toNat = D c - 1) → nxF M D c s ≤ mBe M (c : Int) v')
  | 0, _ => .inl ⟨rfl, fun v hv => by omega⟩
  | s + 1, hs => by
    have hr := mBe_r hB hc (d := s) (by omega)
    rw [nxF]
    by_cases g : mBe M (c : Int) s ≠ -1 ∧ D (mBe M (c : Int) s).toNat ≠ -1 ∧ D (mBe M (c : Int) s).toNat = D c - 1
    · rcases nxF_p hB (D := D) hc s (by omega) with ⟨h1, h2⟩ | ⟨v, h1, h2, h3, h4⟩
      · rw [if_pos ⟨g.1, g.2.1, g.2.2, .inl h1⟩]
        refine .inr ⟨s, by omega, g, rfl, fun v' hv' hg => ?_⟩
        by_cases e : v' = s
        · rw [e]; exact Int.le_refl _
        · exact absurd hg (h2 v' (by omega))
      · have hrv := mBe_r hB hc (d := v) (by omega)
        by_cases q : mBe M (c : Int) s < nxF M D c s
        · rw [if_pos ⟨g.1, g.2.1, g.2.2, .inr q⟩]
          refine .inr ⟨s, by omega, g, rfl, fun v' hv' hg => ?_⟩
          by_cases e : v' = s
          · rw [e]; exact Int.le_refl _
          · have := h4 v' (by omega) hg; omega
        · have hne : ¬ nxF M D c s = -1 := by
            have := h2.1
            omega
          rw [if_neg (fun k => by rcases k.2.2.2 with k | k; exact hne k; exact q k)]
          refine .inr ⟨v, by omega, h2, h3, fun v' hv' hg => ?_⟩
          by_cases e : v' = s
          · rw [e]; omega
          · exact h4 v' (by omega) hg
    · rw [if_neg (fun k => g ⟨k.1, k.2.1, k.2.2.1⟩)]
      rcases nxF_p hB (D := D) hc s (by omega) with ⟨h1, h2⟩ | ⟨v, h1, h2, h3, h4⟩
      · refine .inl ⟨h1, fun v hv hg => ?_⟩
        by_cases e : v = s
        · rw [e] at hg; exact g hg
        · exact h2 v (by omega) hg
      · refine .inr ⟨v, by omega, h2, h3, fun v' hv' hg => ?_⟩
        by_cases e : v' = s
        · rw [e] at hg; exact absurd hg g
        · exact h4 v' (by omega) hg
theorem nxF_e {M : vi_M} (hB : mBx M) {F : Nat → Bool} {D : Nat → Int} {t c : Nat} (hF : ∀ c, c < 216 → F c = true → mIc M (c : Int)) (hg : gDs F t D) (hc : c < 216) (hci : mIc M (c : Int)) (h0 : 0 < D c) : nxF M D c 6 = (lcN D c : Int) := by
  obtain ⟨l1, l2, l3⟩ := lcN_low hg hc h0
  have hl := sA_lt hc l1
  have hFl := (hg.2.2.1 (lcN D c) hl (by omega)).1
  obtain ⟨d, hd, e⟩ := mBe_x hci (hF _ hl hFl) l1
  have good : mBe M (c : Int) d ≠ -1 ∧ D (mBe M (c : Int) d).toNat ≠ -1 ∧ D (mBe M (c : Int) d).toNat = D c - 1 := by
    rw [e, Int.toNat_natCast]; omega
  rcases nxF_p hB (D := D) hci 6 (by omega) with ⟨h1, h2⟩ | ⟨v, h1, h2, h3, h4⟩
  · exact absurd good (h2 d hd)
  · have h5 := h4 d hd good
    have hr := mBe_r hB hci h1
    obtain ⟨b, hb⟩ : ∃ b : Nat, mBe M (c : Int) v = (b : Int) := ⟨(mBe M (c : Int) v).toNat, by omega⟩
    have h6 := l3 b (mBe_A hB hci h1 hb) (by have := h2.2.2; rw [hb, Int.toNat_natCast] at this; exact this)
    omega
/-- the answers of ant -/
def anR (F : Nat → Bool) (a t : Nat) (w r : Int) : Prop := (¬ (F a = true ∧ F t = true) → r = -1) ∧ (F a = true ∧ F t = true → ∃ D : Nat → Int, gDs F t D ∧ r = if w = -1 then D a else if D a < w then -1 else (lcW D a w.toNat : Int))
section
variable {D : Nat} {K : Option vi_V → vi_W → Prop} {Y : vi_Y} {M : vi_M} {nn : Nat × Nat} {Q : Option vi_V → vi_W → Prop}
theorem k_350n (hY : kY Y 151) {a t w : Int} (h : ¬ (mIc M a ∧ mIc M t ∧ -1 ≤ w)) (hD : 3 ≤ D) : vi_call GG D 350 [.inr (.inr 112), .inl a, .inl t, .inl w] (Y, M, nn) K ↔ K (some (.inl (-1))) (Y, M, nn) := by
  obtain ⟨D, rfl⟩ : ∃ k, D = k + 1 := ⟨D - 1, by omega⟩
  obtain ⟨R1, -⟩ := y_112 hY (by omega)
  refine vi_k (r := some (.inl _)) fun Q hQ => ?_
  by_cases h1 : mIc M a
  · by_cases h2 : mIc M t
    · have h3 : ¬ (-1 ≤ w) := fun k => h ⟨h1, h2, k⟩
      simp (disch := omega) only [Option.toList_some, Option.toList_none, List.nil_append, List.cons_append, List.append_nil, true_and, and_true, not_true_eq_false, not_false_eq_true, true_implies, false_implies, implies_true, and_self, Int.reduceLT, Int.reduceLE, Int.reduceEq, Int.reduceNe, Int.reduceAdd, Int.reduceSub, Int.reduceMul, Int.reduceNeg, Int.reduceToNat, Int.toNat_natCast, ↓kk_ck, ↓kk_im, ↓kk_in, e_350, s_350_0, s_350_5, s_350_8, s_350_13, s_350_16, s_350_21, R1, k_246t hY h1, k_246t hY h2, h3, ne_eq]
      exact hQ
    · simp (disch := omega) only [Option.toList_some, Option.toList_none, List.nil_append, List.cons_append, List.append_nil, true_and, and_true, not_true_eq_false, not_false_eq_true, true_implies, false_implies, implies_true, and_self, Int.reduceLT, Int.reduceLE, Int.reduceEq, Int.reduceNe, Int.reduceAdd, Int.reduceSub, Int.reduceMul, Int.reduceNeg, Int.reduceToNat, Int.toNat_natCast, ↓kk_ck, ↓kk_im, ↓kk_in, e_350, s_350_0, s_350_5, s_350_8, s_350_13, s_350_21, R1, k_246t hY h1, k_246f hY h2, ne_eq]
      exact hQ
  · simp (disch := omega) only [Option.toList_some, Option.toList_none, List.nil_append, List.cons_append, List.append_nil, true_and, and_true, not_true_eq_false, not_false_eq_true, true_implies, false_implies, implies_true, and_self, Int.reduceLT, Int.reduceLE, Int.reduceEq, Int.reduceNe, Int.reduceAdd, Int.reduceSub, Int.reduceMul, Int.reduceNeg, Int.reduceToNat, Int.toNat_natCast, ↓kk_ck, ↓kk_im, ↓kk_in, e_350, s_350_0, s_350_5, s_350_21, R1, k_246f hY h1, ne_eq]
    exact hQ
theorem h_350i (hY : kY Y 151) (hB : mBx M) {F : Nat → Bool} (hF : F = fun c => mB (M 126) c && !mB (M 127) c) (hin : ∀ c, c < 216 → F c = true → mIc M (c : Int)) (hD : 2 ≤ D) {x y t : Nat} {x1 x2 x3 : Int} (hy : y < 216) (hFy : F y = true) (hx : x < 216)
    (ih : ∀ (s : bfT) (M' : vi_M) (l6 l7 : Option vi_V), bfI F t (x + 1) s → M' 129 = s.2.1 → M' 135 = s.2.2 → (∀ q, q ≠ 129 → q ≠ 135 → M' q = M q) → vi_ok GG D 350 90 [some (.inr (.inr 112)), some (.inl x1), some (.inl x2), some (.inl x3), some (.inl (s.1 : Int)), some (.inl ((x + 1 : Nat) : Int)), l6, l7, none, none] [] (Y, M', nn) Q) :
    ∀ w : Nat, w ≤ 6 → ∀ (s : bfT) (M' : vi_M) (l7 : Option vi_V), bfI F t x s → x < s.1 → s.2.1 x = (y : Int) → (0 ≤ s.2.2 y ∧ s.2.2 y ≤ 216) → (∀ v, v < w → ∀ b : Nat, mBe M (y : Int) v = (b : Int) → F b = true → s.2.2 b ≠ -1 ∧ s.2.2 b ≤ s.2.2 y + 1) → M' 129 = s.2.1 → M' 135 = s.2.2 → (∀ q, q ≠ 129 → q ≠ 135 → M' q = M q) → vi_ok GG D 350 100 [some (.inr (.inr 112)), some (.inl x1), some (.inl x2), some (.inl x3), some (.inl (s.1 : Int)), some (.inl (x : Int)), some (.inl (w : Int)), l7, none, none] [] (Y, M', nn) Q := by
  obtain ⟨R1, -, R3, -, -, -, -, -, -, -, -, -, -, R27, R28, R29, R31, R32, R33, R34, R35, R36, R37, R38, -⟩ := y_112 hY (by omega)
  obtain ⟨u1, u2⟩ := y_129 hY (by omega)
  obtain ⟨v1, v2⟩ := y_135 hY (by omega)
  have hyc := hin y hy hFy
  refine vi_dn (P := fun w => ∀ (s : bfT) (M' : vi_M) (l7 : Option vi_V), bfI F t x s → x < s.1 → s.2.1 x = (y : Int) → (0 ≤ s.2.2 y ∧ s.2.2 y ≤ 216) → (∀ v, v < w → ∀ b : Nat, mBe M (y : Int) v = (b : Int) → F b = true → s.2.2 b ≠ -1 ∧ s.2.2 b ≤ s.2.2 y + 1) → M' 129 = s.2.1 → M' 135 = s.2.2 → (∀ q, q ≠ 129 → q ≠ 135 → M' q = M q) → vi_ok GG D 350 100 [some (.inr (.inr 112)), some (.inl x1), some (.inl x2), some (.inl x3), some (.inl (s.1 : Int)), some (.inl (x : Int)), some (.inl (w : Int)), l7, none, none] [] (Y, M', nn) Q) 6 ?_ fun w hw ihw => ?_
  · intro s M' l7 hi hxs hcx hD0 hw e1 e2 e3
    have hi2 := bfI_s hi hxs hcx fun b hb hF2 => by
      have hb2 := sA_lt hy hb
      obtain ⟨v, hv, e⟩ := mBe_x hyc (hin b hb2 hF2) hb
      exact hw v hv b e hF2
    have := ih s M' (some (.inl 6)) l7 hi2 e1 e2 e3
    rw [s_350_100]
    clear ih
    simp (disch := omega) only [Option.toList_some, Option.toList_none, List.nil_append, List.cons_append, List.append_nil, true_and, and_true, not_true_eq_false, not_false_eq_true, true_implies, false_implies, implies_true, and_self, Int.reduceLT, Int.reduceLE, Int.reduceEq, Int.reduceNe, Int.reduceAdd, Int.reduceSub, Int.reduceMul, Int.reduceNeg, Int.reduceToNat, Int.toNat_natCast, ↓kk_ck, ↓kk_im, ↓kk_in, s_350_190, vi_inc]
    exact this
  · intro s M' l7 hi hxs hcx hD0 hw2 e1 e2 e3
    clear ih
    have e114 : M' 114 = M 114 := e3 114 (by omega) (by omega)
    have hA : sHas F (mBe M (y : Int) w) = true → sA y (mBe M (y : Int) w).toNat := fun h => by
      unfold sHas at h
      rw [Bool.and_eq_true, decide_eq_true_eq] at h
      exact mBe_A hB hyc hw (by omega)
    have st := bfR_i hi hxs hcx (b := mBe M (y : Int) w) hA
    have k248 := fun {K : Option vi_V → vi_W → Prop} => @k_248 D K Y M' nn hY (mBx_c e114 hB) (y : Int) w (mIc_c e114 hyc) hw hD
    rw [mBe_c e114] at k248
    have same : bfR F s (mBe M (y : Int) w) (s.2.2 y + 1) = s → ∀ l7, vi_ok GG D 350 100 [some (.inr (.inr 112)), some (.inl x1), some (.inl x2), some (.inl x3), some (.inl (s.1 : Int)), some (.inl (x : Int)), some (.inl ((w + 1 : Nat) : Int)), l7, none, none] [] (Y, M', nn) Q := by
      intro hs l7
      rw [hs] at st
      refine ihw s M' l7 hi hxs hcx hD0 (fun v hv b hb hF2 => ?_) e1 e2 e3
      by_cases e : v = w
      · rw [e] at hb
        have := st.2.2.2.2
        rw [hb, Int.toNat_natCast] at this
        refine this ?_
        have hb2 : b < 216 := by
          have := mBe_r hB hyc hw
          omega
        rw [sHas_n hb2]
        exact hF2
      · exact hw2 v (by omega) b hb hF2
    rcases mBe_r hB hyc hw with hm | hm
    · have := same (by unfold bfR; rw [hm, sHas_m]; simp) (some (.inl (-1)))
      rw [s_350_100]
      clear ihw same st
      simp (disch := omega) only [Option.toList_some, Option.toList_none, List.nil_append, List.cons_append, List.append_nil, true_and, and_true, not_true_eq_false, not_false_eq_true, true_implies, false_implies, implies_true, and_self, Int.reduceLT, Int.reduceLE, Int.reduceEq, Int.reduceNe, Int.reduceAdd, Int.reduceSub, Int.reduceMul, Int.reduceNeg, Int.reduceToNat, Int.toNat_natCast, ↓kk_ck, ↓kk_im, ↓kk_in, s_350_107, s_350_112, s_350_115, s_350_120, s_350_184, R1, R32, u1, u2, e1, hcx, k248, hm, vi_inc, ne_eq]
      exact this
    · obtain ⟨b, hb⟩ : ∃ b : Nat, mBe M (y : Int) w = (b : Int) := ⟨(mBe M (y : Int) w).toNat, by omega⟩
      have hb2 : b < 216 := by omega
      have eF : (mB (M' 126) b && !mB (M' 127) b) = F b := by rw [e3 126 (by omega) (by omega), e3 127 (by omega) (by omega), hF]
      have k349 := fun {D : Nat} {K : Option vi_V → vi_W → Prop} (hD : 1 ≤ D) => @k_349 D K Y M' nn hY b hb2 hD
      rw [eF] at k349
      by_cases q : s.2.2 b = -1
      · cases hFb : F b
        · have := same (by unfold bfR; rw [hb, sHas_n hb2, hFb]; simp) (some (.inl (b : Int)))
          rw [hFb] at k349
          rw [s_350_100]
          clear ihw same st hF
          simp (disch := omega) only [Option.toList_some, Option.toList_none, List.nil_append, List.cons_append, List.append_nil, true_and, and_true, not_true_eq_false, not_false_eq_true, true_implies, false_implies, implies_true, and_self, Int.reduceLT, Int.reduceLE, Int.reduceEq, Int.reduceNe, Int.reduceAdd, Int.reduceSub, Int.reduceMul, Int.reduceNeg, Int.reduceToNat, Int.toNat_natCast, ↓kk_ck, ↓kk_im, ↓kk_in, s_350_107, s_350_112, s_350_115, s_350_120, s_350_128, s_350_132, s_350_135, s_350_139, s_350_145, s_350_148, s_350_184, R1, R32, R38, u1, u2, v1, v2, e1, e2, hcx, k248, hb, q, k349, vi_bf, Int.toNat_natCast, vi_inc, ne_eq]
          exact this
        · rw [hFb] at k349
          have ebf : bfR F s (b : Int) (s.2.2 y + 1) = (s.1 + 1, vi_u s.2.1 s.1 (b : Int), vi_u s.2.2 b (s.2.2 y + 1)) := by
            unfold bfR
            rw [if_pos ⟨by rw [sHas_n hb2]; exact hFb, by rw [Int.toNat_natCast]; exact q⟩, Int.toNat_natCast]
          rw [hb, ebf] at st
          have hnew := bfI_new hi hb2 q
          obtain ⟨t1, t2, t3, t4, t5⟩ := st
          dsimp only at t1 t2 t3 t4 t5
          rw [Int.toNat_natCast] at t5
          have tc : vi_u s.2.2 b (s.2.2 y + 1) y = s.2.2 y := t4 y (by omega)
          have := ihw _ (vi_rs (vi_rs M' 135 (vi_u (M' 135) b (s.2.2 y + 1))) 129 (vi_u (M' 129) s.1 (b : Int))) (some (.inl (b : Int))) t1 (by dsimp only; omega) t3 (by dsimp only; rw [tc]; exact hD0) (fun v hv z hz hF2 => by
            dsimp only
            rw [tc]
            by_cases e : v = w
            · rw [e, hb] at hz
              obtain rfl : b = z := by omega
              exact t5 (by rw [sHas_n hb2]; exact hFb)
            · have := hw2 v (by omega) z hz hF2
              rw [t4 z this.1]
              exact this) (by rw [vi_rs_s, e1]) (by rw [vi_rs_o (by omega), vi_rs_s, e2]) (fun q h1 h2 => by rw [vi_rs_o h1, vi_rs_o h2]; exact e3 q h1 h2)
          dsimp only at this
          have eN : ((s.1 : Int) + 1) = ((s.1 + 1 : Nat) : Int) := by omega
          have i129 : vi_rs M' 135 (vi_u (M' 135) b (s.2.2 y + 1)) 129 = M' 129 := vi_rs_o (by omega)
          rw [e1, e2] at this
          rw [e2] at i129
          rw [s_350_100]
          clear ihw same t1 t2 t3 t4 t5 hi hw2 hF
          simp (disch := omega) only [Option.toList_some, Option.toList_none, List.nil_append, List.cons_append, List.append_nil, true_and, and_true, not_true_eq_false, not_false_eq_true, true_implies, false_implies, implies_true, and_self, Int.reduceLT, Int.reduceLE, Int.reduceEq, Int.reduceNe, Int.reduceAdd, Int.reduceSub, Int.reduceMul, Int.reduceNeg, Int.reduceToNat, Int.toNat_natCast, ↓kk_ck, ↓kk_im, ↓kk_in, s_350_107, s_350_112, s_350_115, s_350_120, s_350_128, s_350_132, s_350_135, s_350_139, s_350_145, s_350_151, s_350_155, s_350_161, s_350_165, s_350_168, s_350_169, s_350_172, s_350_176, s_350_181, s_350_184, R1, R32, R38, u1, u2, v1, v2, hcx, k248, hb, q, k349, vi_bt, Int.toNat_natCast, vi_ms_rs, e1, e2, i129, @vi_32 (s.2.2 y + 1) (by omega) (by omega), vi_inc, ne_eq]
          exact this
      · have := same (by
          unfold bfR
          rw [hb, sHas_n hb2, Int.toNat_natCast, if_neg]
          exact fun h => q h.2) (some (.inl (b : Int)))
        rw [s_350_100]
        clear ihw same st hF
        simp (disch := omega) only [Option.toList_some, Option.toList_none, List.nil_append, List.cons_append, List.append_nil, true_and, and_true, not_true_eq_false, not_false_eq_true, true_implies, false_implies, implies_true, and_self, Int.reduceLT, Int.reduceLE, Int.reduceEq, Int.reduceNe, Int.reduceAdd, Int.reduceSub, Int.reduceMul, Int.reduceNeg, Int.reduceToNat, Int.toNat_natCast, ↓kk_ck, ↓kk_im, ↓kk_in, s_350_107, s_350_112, s_350_115, s_350_120, s_350_128, s_350_132, s_350_135, s_350_184, R1, R32, R38, u1, u2, v1, v2, e1, e2, hcx, k248, hb, q, Int.toNat_natCast, vi_inc, ne_eq]
        exact this
/-- the way back: one step -/
theorem h_350n (hY : kY Y 151) (hB : mBx M) (hD : 2 ≤ D) {c : Nat} {x1 x2 x3 x4 x6 : Int} (hc : c < 216) (hci : mIc M (c : Int)) {E : Nat → Int} (h135 : M 135 = E) (hE : ∀ b, b < 216 → -1 ≤ E b ∧ E b ≤ 216)
    (ih : ∀ l9, vi_ok GG D 350 321 [some (.inr (.inr 112)), some (.inl x1), some (.inl x2), some (.inl x3), some (.inl x4), some (.inl (c : Int)), some (.inl x6), some (.inl (nxF M E c 6)), some (.inl 6), l9] [] (Y, M, nn) Q) :
    ∀ s : Nat, s ≤ 6 → ∀ l9, vi_ok GG D 350 245 [some (.inr (.inr 112)), some (.inl x1), some (.inl x2), some (.inl x3), some (.inl x4), some (.inl (c : Int)), some (.inl x6), some (.inl (nxF M E c s)), some (.inl (s : Int)), l9] [] (Y, M, nn) Q := by
  obtain ⟨R1, -, R3, -, -, -, -, -, -, -, -, -, -, R27, R28, R29, R31, R32, R33, R34, R35, R36, R37, R38, -⟩ := y_112 hY (by omega)
  obtain ⟨v1, v2⟩ := y_135 hY (by omega)
  refine vi_dn (P := fun s => ∀ l9, vi_ok GG D 350 245 [some (.inr (.inr 112)), some (.inl x1), some (.inl x2), some (.inl x3), some (.inl x4), some (.inl (c : Int)), some (.inl x6), some (.inl (nxF M E c s)), some (.inl (s : Int)), l9] [] (Y, M, nn) Q) 6 ?_ fun s hs ihs => ?_
  · intro l9
    have := ih l9
    clear ih
    rw [s_350_245]
    simp (disch := omega) only [Option.toList_some, Option.toList_none, List.nil_append, List.cons_append, List.append_nil, true_and, and_true, not_true_eq_false, not_false_eq_true, true_implies, false_implies, implies_true, and_self, Int.reduceLT, Int.reduceLE, Int.reduceEq, Int.reduceNe, Int.reduceAdd, Int.reduceSub, Int.reduceMul, Int.reduceNeg, Int.reduceToNat, Int.toNat_natCast, ↓kk_ck, ↓kk_im, ↓kk_in]
    exact this
  · intro l9
    clear ih
    have k248 := fun {K : Option vi_V → vi_W → Prop} => @k_248 D K Y M nn hY hB (c : Int) s hci hs hD
    have ihs := ihs (some (.inl (mBe M (c : Int) s)))
    rw [nxF] at ihs
    rw [s_350_245]
    rcases mBe_r hB hci hs with hm | hm
    · rw [if_neg (fun k => k.1 hm), hm] at ihs
      simp (disch := omega) only [Option.toList_some, Option.toList_none, List.nil_append, List.cons_append, List.append_nil, true_and, and_true, not_true_eq_false, not_false_eq_true, true_implies, false_implies, implies_true, and_self, Int.reduceLT, Int.reduceLE, Int.reduceEq, Int.reduceNe, Int.reduceAdd, Int.reduceSub, Int.reduceMul, Int.reduceNeg, Int.reduceToNat, Int.toNat_natCast, ↓kk_ck, ↓kk_im, ↓kk_in, s_350_252, s_350_260, s_350_315, R1, k248, hm, vi_inc, ne_eq]
      exact ihs
    · obtain ⟨b, hb⟩ : ∃ b : Nat, mBe M (c : Int) s = (b : Int) := ⟨(mBe M (c : Int) s).toNat, by omega⟩
      have hEb := hE b (by omega)
      have hEc := hE c hc
      rw [hb, Int.toNat_natCast] at ihs
      by_cases q1 : E b = -1
      · rw [if_neg (fun k => k.2.1 q1)] at ihs
        simp (disch := omega) only [Option.toList_some, Option.toList_none, List.nil_append, List.cons_append, List.append_nil, true_and, and_true, not_true_eq_false, not_false_eq_true, true_implies, false_implies, implies_true, and_self, Int.reduceLT, Int.reduceLE, Int.reduceEq, Int.reduceNe, Int.reduceAdd, Int.reduceSub, Int.reduceMul, Int.reduceNeg, Int.reduceToNat, Int.toNat_natCast, ↓kk_ck, ↓kk_im, ↓kk_in, s_350_252, s_350_260, s_350_268, s_350_272, s_350_275, s_350_315, R1, R38, v1, v2, k248, hb, h135, Int.toNat_natCast, q1, vi_inc, ne_eq]
        exact ihs
      · by_cases q2 : E b = E c - 1
        · by_cases q3 : nxF M E c s = -1
          · rw [if_pos ⟨by omega, q1, q2, .inl q3⟩] at ihs
            simp (disch := omega) only [Option.toList_some, Option.toList_none, List.nil_append, List.cons_append, List.append_nil, true_and, and_true, not_true_eq_false, not_false_eq_true, true_implies, false_implies, implies_true, and_self, Int.reduceLT, Int.reduceLE, Int.reduceEq, Int.reduceNe, Int.reduceAdd, Int.reduceSub, Int.reduceMul, Int.reduceNeg, Int.reduceToNat, Int.toNat_natCast, ↓kk_ck, ↓kk_im, ↓kk_in, s_350_252, s_350_260, s_350_268, s_350_272, s_350_275, s_350_279, s_350_283, s_350_286, s_350_290, s_350_293, s_350_295, s_350_298, s_350_311, s_350_315, R1, R38, v1, v2, k248, hb, h135, Int.toNat_natCast, q1, @vi_32 (E c - 1) (by omega) (by omega), q2, q3, vi_inc, ne_eq]
            exact ihs
          · by_cases q4 : (b : Int) < nxF M E c s
            · rw [if_pos ⟨by omega, q1, q2, .inr q4⟩] at ihs
              simp (disch := omega) only [Option.toList_some, Option.toList_none, List.nil_append, List.cons_append, List.append_nil, true_and, and_true, not_true_eq_false, not_false_eq_true, true_implies, false_implies, implies_true, and_self, Int.reduceLT, Int.reduceLE, Int.reduceEq, Int.reduceNe, Int.reduceAdd, Int.reduceSub, Int.reduceMul, Int.reduceNeg, Int.reduceToNat, Int.toNat_natCast, ↓kk_ck, ↓kk_im, ↓kk_in, s_350_252, s_350_260, s_350_268, s_350_272, s_350_275, s_350_279, s_350_283, s_350_286, s_350_290, s_350_293, s_350_295, s_350_298, s_350_304, s_350_311, s_350_315, R1, R38, v1, v2, k248, hb, h135, Int.toNat_natCast, q1, @vi_32 (E c - 1) (by omega) (by omega), q2, q3, vi_inc, ne_eq]
              exact ihs
            · rw [if_neg (fun k => by rcases k.2.2.2 with k | k; exact q3 k; exact q4 k)] at ihs
              have q4' : nxF M E c s ≤ (b : Int) := by omega
              simp (disch := omega) only [Option.toList_some, Option.toList_none, List.nil_append, List.cons_append, List.append_nil, true_and, and_true, not_true_eq_false, not_false_eq_true, true_implies, false_implies, implies_true, and_self, Int.reduceLT, Int.reduceLE, Int.reduceEq, Int.reduceNe, Int.reduceAdd, Int.reduceSub, Int.reduceMul, Int.reduceNeg, Int.reduceToNat, Int.toNat_natCast, ↓kk_ck, ↓kk_im, ↓kk_in, s_350_252, s_350_260, s_350_268, s_350_272, s_350_275, s_350_279, s_350_283, s_350_286, s_350_290, s_350_293, s_350_295, s_350_298, s_350_304, s_350_315, R1, R38, v1, v2, k248, hb, h135, Int.toNat_natCast, q1, @vi_32 (E c - 1) (by omega) (by omega), q2, q3, q4', vi_inc, ne_eq]
              exact ihs
        · rw [if_neg (fun k => q2 k.2.2.1)] at ihs
          simp (disch := omega) only [Option.toList_some, Option.toList_none, List.nil_append, List.cons_append, List.append_nil, true_and, and_true, not_true_eq_false, not_false_eq_true, true_implies, false_implies, implies_true, and_self, Int.reduceLT, Int.reduceLE, Int.reduceEq, Int.reduceNe, Int.reduceAdd, Int.reduceSub, Int.reduceMul, Int.reduceNeg, Int.reduceToNat, Int.toNat_natCast, ↓kk_ck, ↓kk_im, ↓kk_in, s_350_252, s_350_260, s_350_268, s_350_272, s_350_275, s_350_279, s_350_283, s_350_286, s_350_290, s_350_293, s_350_295, s_350_315, R1, R38, v1, v2, k248, hb, h135, Int.toNat_natCast, q1, @vi_32 (E c - 1) (by omega) (by omega), q2, vi_inc, ne_eq]
          exact ihs
theorem k_350 (hY : kY Y 151) {lw : Option (List gCla)} {n : Nat} (hS : mKs M lw n) {a t : Nat} {w : Int} (ha : mIc M (a : Int)) (ht : mIc M (t : Int)) (hw : -1 ≤ w) (hD : 46 ≤ D)
    (hQ : ∀ M' r, mSee M' lw n → mFx M M' → anR (fun c => mB (M' 126) c && !mB (M' 127) c) a t w r → Q (some (.inl r)) (Y, M', nn)) : vi_call GG D 350 [.inr (.inr 112), .inl (a : Int), .inl (t : Int), .inl w] (Y, M, nn) Q := by
  obtain ⟨D, rfl⟩ : ∃ k, D = k + 1 := ⟨D - 1, by omega⟩
  obtain ⟨R1, -, R3, -, -, -, -, -, -, -, -, -, -, R27, R28, R29, R31, R32, R33, R34, R35, R36, R37, R38, -⟩ := y_112 hY (by omega)
  obtain ⟨u1, u2⟩ := y_129 hY (by omega)
  obtain ⟨v1, v2⟩ := y_135 hY (by omega)
  have hB := hS.1
  have ha2 : a < 216 := by have := ha.2.1; omega
  have ht2 : t < 216 := by have := ht.2.1; omega
  have cont : vi_call GG D 294 [.inr (.inr 112)] (Y, M, nn) (fun r w' => vi_ok GG D 350 27 [some (.inr (.inr 112)), some (.inl (a : Int)), some (.inl (t : Int)), some (.inl w), none, none, none, none, none, none] r.toList w' Q) := by
    refine k_294u hY hS (by omega) fun M1 hs1 hf1 => ?_
    have e114 := mFr_114 hf1
    have hB1 := mBx_c e114 hB
    have hl := mLfd_of hs1
    obtain ⟨F, hF⟩ : ∃ F : Nat → Bool, F = fun c => mB (M1 126) c && !mB (M1 127) c := ⟨_, rfl⟩
    have hin : ∀ c, c < 216 → F c = true → mIc M1 (c : Int) := fun c hc h => by
      rw [hF] at h
      simp only [Bool.and_eq_true] at h
      exact (hl c hc (by have := h.1; unfold mB at this; simpa using this)).1
    -- the answer in a later memory
    have done : ∀ (M2 : vi_M) (r : Int), (∀ q, q ≠ 129 → q ≠ 135 → M2 q = M1 q) → anR F a t w r → Q (some (.inl r)) (Y, M2, nn) := by
      intro M2 r o hr
      refine hQ M2 r (mSee_c hs1 (o _ (by omega) (by omega)) (o _ (by omega) (by omega)) (o _ (by omega) (by omega)) (o _ (by omega) (by omega)) (o _ (by omega) (by omega)) (by rw [o 112 (by omega) (by omega)]; exact hs1.2.2.1)) (mFx_t (mFx_of hf1) (mFx_p fun p h1 h2 _ => o p (by omega) (by omega))) ?_
      rw [o 126 (by omega) (by omega), o 127 (by omega) (by omega), ← hF]
      exact hr
    clear hQ
    have k349 := fun (c : Nat) (hc : c < 216) {D : Nat} {K : Option vi_V → vi_W → Prop} (hD : 1 ≤ D) => @k_349 D K Y M1 nn hY c hc hD
    have eF : ∀ c, (mB (M1 126) c && !mB (M1 127) c) = F c := fun c => by rw [hF]
    simp only [eF] at k349
    have ka := fun {D : Nat} {K : Option vi_V → vi_W → Prop} (hD : 1 ≤ D) => @k349 a ha2 D K hD
    have kt := fun {D : Nat} {K : Option vi_V → vi_W → Prop} (hD : 1 ≤ D) => @k349 t ht2 D K hD
    cases hFa : F a
    · have := done M1 (-1) (fun _ _ _ => rfl) ⟨fun _ => rfl, fun k => by rw [hFa] at k; cases k.1⟩
      rw [hFa] at ka
      clear done k349 hF
      simp (disch := omega) only [Option.toList_some, Option.toList_none, List.nil_append, List.cons_append, List.append_nil, true_and, and_true, not_true_eq_false, not_false_eq_true, true_implies, false_implies, implies_true, and_self, Int.reduceLT, Int.reduceLE, Int.reduceEq, Int.reduceNe, Int.reduceAdd, Int.reduceSub, Int.reduceMul, Int.reduceNeg, Int.reduceToNat, Int.toNat_natCast, ↓kk_ck, ↓kk_im, ↓kk_in, s_350_27, s_350_32, s_350_43, R1, ka, vi_bf, ne_eq]
      exact this
    · rw [hFa] at ka
      cases hFt : F t
      · have := done M1 (-1) (fun _ _ _ => rfl) ⟨fun _ => rfl, fun k => by rw [hFt] at k; cases k.2⟩
        rw [hFt] at kt
        clear done k349 hF
        simp (disch := omega) only [Option.toList_some, Option.toList_none, List.nil_append, List.cons_append, List.append_nil, true_and, and_true, not_true_eq_false, not_false_eq_true, true_implies, false_implies, implies_true, and_self, Int.reduceLT, Int.reduceLE, Int.reduceEq, Int.reduceNe, Int.reduceAdd, Int.reduceSub, Int.reduceMul, Int.reduceNeg, Int.reduceToNat, Int.toNat_natCast, ↓kk_ck, ↓kk_im, ↓kk_in, s_350_27, s_350_32, s_350_35, s_350_40, s_350_43, R1, ka, kt, vi_bf, vi_bt, ne_eq]
        exact this
      · rw [hFt] at kt
        have last : ∀ (M2 : vi_M) (E : Nat → Int) (m x : Nat) (l6 l7 : Option vi_V), gDs F t E → M2 135 = E → (∀ q, q ≠ 129 → q ≠ 135 → M2 q = M1 q) → vi_ok GG D 350 196 [some (.inr (.inr 112)), some (.inl (a : Int)), some (.inl (t : Int)), some (.inl w), some (.inl (m : Int)), some (.inl (x : Int)), l6, l7, none, none] [] (Y, M2, nn) Q := by
          intro M2 E m x l6 l7 hg h135 o
          have f114 : M2 114 = M1 114 := o 114 (by omega) (by omega)
          have hB2 := mBx_c f114 hB1
          have hE : ∀ b, b < 216 → -1 ≤ E b ∧ E b ≤ 216 := fun b hb => by
            by_cases e : E b = -1
            · omega
            · have := hg.2.2.1 b hb e; omega
          have hr := fun r h => done M2 r o ⟨fun k => absurd ⟨hFa, hFt⟩ k, fun _ => ⟨E, hg, h⟩⟩
          clear done
          by_cases w1 : w = -1
          · have := hr (E a) (by rw [if_pos w1])
            clear hr k349 hF
            simp (disch := omega) only [Option.toList_some, Option.toList_none, List.nil_append, List.cons_append, List.append_nil, true_and, and_true, not_true_eq_false, not_false_eq_true, true_implies, false_implies, implies_true, and_self, Int.reduceLT, Int.reduceLE, Int.reduceEq, Int.reduceNe, Int.reduceAdd, Int.reduceSub, Int.reduceMul, Int.reduceNeg, Int.reduceToNat, Int.toNat_natCast, ↓kk_ck, ↓kk_im, ↓kk_in, s_350_196, s_350_211, s_350_216, s_350_220, s_350_222, s_350_226, R1, R38, v1, v2, w1, h135, Int.toNat_natCast, ne_eq]
            exact this
          · by_cases w2 : E a < w
            · have := hr (-1) (by rw [if_neg w1, if_pos w2])
              clear hr k349 hF
              simp (disch := omega) only [Option.toList_some, Option.toList_none, List.nil_append, List.cons_append, List.append_nil, true_and, and_true, not_true_eq_false, not_false_eq_true, true_implies, false_implies, implies_true, and_self, Int.reduceLT, Int.reduceLE, Int.reduceEq, Int.reduceNe, Int.reduceAdd, Int.reduceSub, Int.reduceMul, Int.reduceNeg, Int.reduceToNat, Int.toNat_natCast, ↓kk_ck, ↓kk_im, ↓kk_in, s_350_196, s_350_201, s_350_206, s_350_208, s_350_211, s_350_225, s_350_226, R1, R38, v1, v2, w1, w2, h135, Int.toNat_natCast, ne_eq]
              exact this
            · obtain ⟨k, rfl⟩ : ∃ k : Nat, w = (k : Int) := ⟨w.toNat, by omega⟩
              have hra := hE a ha2
              have hq := hr (lcW E a k : Int) (by rw [if_neg w1, if_neg w2, Int.toNat_natCast])
              clear hr
              have hW : ∀ j : Nat, j ≤ k → lcW E a j < 216 ∧ E (lcW E a j) = E a - (j : Int) := by
                intro j
                induction j with
                | zero => intro _; exact ⟨ha2, by rw [lcW]; omega⟩
                | succ j ihj =>
                  intro hj
                  obtain ⟨i1, i2⟩ := ihj (by omega)
                  obtain ⟨l1, l2, -⟩ := lcN_low hg i1 (by omega)
                  rw [lcW]
                  exact ⟨sA_lt i1 l1, by omega⟩
              have hin2 : ∀ c, c < 216 → F c = true → mIc M2 (c : Int) := fun c hc h => mIc_c f114 (hin c hc h)
              have walk : ∀ j : Nat, j ≤ k → ∀ l7 l8 l9, vi_ok GG D 350 233 [some (.inr (.inr 112)), some (.inl (a : Int)), some (.inl (t : Int)), some (.inl (k : Int)), some (.inl (m : Int)), some (.inl (lcW E a j : Int)), some (.inl (j : Int)), l7, l8, l9] [] (Y, M2, nn) Q := by
                refine vi_dn (P := fun j => ∀ l7 l8 l9, vi_ok GG D 350 233 [some (.inr (.inr 112)), some (.inl (a : Int)), some (.inl (t : Int)), some (.inl (k : Int)), some (.inl (m : Int)), some (.inl (lcW E a j : Int)), some (.inl (j : Int)), l7, l8, l9] [] (Y, M2, nn) Q) k ?_ fun j hj ihj => ?_
                · intro l7 l8 l9
                  rw [s_350_233]
                  clear k349 hF
                  simp (disch := omega) only [Option.toList_some, Option.toList_none, List.nil_append, List.cons_append, List.append_nil, true_and, and_true, not_true_eq_false, not_false_eq_true, true_implies, false_implies, implies_true, and_self, Int.reduceLT, Int.reduceLE, Int.reduceEq, Int.reduceNe, Int.reduceAdd, Int.reduceSub, Int.reduceMul, Int.reduceNeg, Int.reduceToNat, Int.toNat_natCast, ↓kk_ck, ↓kk_im, ↓kk_in, s_350_331]
                  exact hq
                · intro l7 l8 l9
                  obtain ⟨i1, i2⟩ := hW j (by omega)
                  have hFc := (hg.2.2.1 _ i1 (by omega)).1
                  have hci := hin2 _ i1 hFc
                  have en := nxF_e hB2 hin2 hg i1 hci (by omega)
                  have go := h_350n (Q := Q) (D := D) (nn := nn) (x1 := (a : Int)) (x2 := (t : Int)) (x3 := (k : Int)) (x4 := (m : Int)) (x6 := (j : Int)) hY hB2 (by omega) i1 hci h135 hE (fun l9 => by
                    rw [en]
                    have := ihj (some (.inl (lcN E (lcW E a j) : Int))) (some (.inl 6)) l9
                    rw [lcW] at this
                    clear ihj k349 hF
                    simp (disch := omega) only [Option.toList_some, Option.toList_none, List.nil_append, List.cons_append, List.append_nil, true_and, and_true, not_true_eq_false, not_false_eq_true, true_implies, false_implies, implies_true, and_self, Int.reduceLT, Int.reduceLE, Int.reduceEq, Int.reduceNe, Int.reduceAdd, Int.reduceSub, Int.reduceMul, Int.reduceNeg, Int.reduceToNat, Int.toNat_natCast, ↓kk_ck, ↓kk_im, ↓kk_in, s_350_321, vi_inc]
                    exact this) 0 (by omega) l9
                  rw [nxF, show ((0 : Nat) : Int) = 0 from rfl] at go
                  rw [s_350_233]
                  clear ihj k349 hF
                  simp (disch := omega) only [Option.toList_some, Option.toList_none, List.nil_append, List.cons_append, List.append_nil, true_and, and_true, not_true_eq_false, not_false_eq_true, true_implies, false_implies, implies_true, and_self, Int.reduceLT, Int.reduceLE, Int.reduceEq, Int.reduceNe, Int.reduceAdd, Int.reduceSub, Int.reduceMul, Int.reduceNeg, Int.reduceToNat, Int.toNat_natCast, ↓kk_ck, ↓kk_im, ↓kk_in, s_350_239]
                  exact go
              have := walk 0 (by omega) l7 none none
              rw [lcW, show ((0 : Nat) : Int) = 0 from rfl] at this
              have w2' : (k : Int) ≤ E a := by omega
              clear walk k349 hF
              simp (disch := omega) only [Option.toList_some, Option.toList_none, List.nil_append, List.cons_append, List.append_nil, true_and, and_true, not_true_eq_false, not_false_eq_true, true_implies, false_implies, implies_true, and_self, Int.reduceLT, Int.reduceLE, Int.reduceEq, Int.reduceNe, Int.reduceAdd, Int.reduceSub, Int.reduceMul, Int.reduceNeg, Int.reduceToNat, Int.toNat_natCast, ↓kk_ck, ↓kk_im, ↓kk_in, s_350_196, s_350_201, s_350_206, s_350_208, s_350_227, R1, R38, v1, v2, w1, w2', h135, Int.toNat_natCast, ne_eq]
              exact this
        clear done
        have queue : ∀ x : Nat, x ≤ 216 → ∀ (s : bfT) (M2 : vi_M) (l6 l7 : Option vi_V), bfI F t x s → M2 129 = s.2.1 → M2 135 = s.2.2 → (∀ q, q ≠ 129 → q ≠ 135 → M2 q = M1 q) → vi_ok GG D 350 90 [some (.inr (.inr 112)), some (.inl (a : Int)), some (.inl (t : Int)), some (.inl w), some (.inl (s.1 : Int)), some (.inl (x : Int)), l6, l7, none, none] [] (Y, M2, nn) Q := by
          have fin : ∀ (x : Nat) (s : bfT) (M2 : vi_M) (l6 l7 : Option vi_V), s.1 ≤ x → bfI F t x s → M2 135 = s.2.2 → (∀ q, q ≠ 129 → q ≠ 135 → M2 q = M1 q) → vi_ok GG D 350 90 [some (.inr (.inr 112)), some (.inl (a : Int)), some (.inl (t : Int)), some (.inl w), some (.inl (s.1 : Int)), some (.inl (x : Int)), l6, l7, none, none] [] (Y, M2, nn) Q := by
            intro x s M2 l6 l7 hle hi e2 e3
            obtain rfl : x = s.1 := by have := hi.2.2.2.2.2.2.2.2; omega
            have := last M2 s.2.2 s.1 s.1 l6 l7 (bfI_e hi) e2 e3
            rw [s_350_90]
            clear last hi k349 hF
            simp (disch := omega) only [Option.toList_some, Option.toList_none, List.nil_append, List.cons_append, List.append_nil, true_and, and_true, not_true_eq_false, not_false_eq_true, true_implies, false_implies, implies_true, and_self, Int.reduceLT, Int.reduceLE, Int.reduceEq, Int.reduceNe, Int.reduceAdd, Int.reduceSub, Int.reduceMul, Int.reduceNeg, Int.reduceToNat, Int.toNat_natCast, ↓kk_ck, ↓kk_im, ↓kk_in]
            exact this
          refine vi_dn (P := fun x => ∀ (s : bfT) (M2 : vi_M) (l6 l7 : Option vi_V), bfI F t x s → M2 129 = s.2.1 → M2 135 = s.2.2 → (∀ q, q ≠ 129 → q ≠ 135 → M2 q = M1 q) → vi_ok GG D 350 90 [some (.inr (.inr 112)), some (.inl (a : Int)), some (.inl (t : Int)), some (.inl w), some (.inl (s.1 : Int)), some (.inl (x : Int)), l6, l7, none, none] [] (Y, M2, nn) Q) 216 ?_ fun x hx ihx => ?_
          · intro s M2 l6 l7 hi e1 e2 e3
            exact fin 216 s M2 l6 l7 (bfI_le hi) hi e2 e3
          · intro s M2 l6 l7 hi e1 e2 e3
            by_cases hxs : s.1 ≤ x
            · exact fin x s M2 l6 l7 hxs hi e2 e3
            · obtain ⟨y, hcx, hy, hFy, hD0, hDx⟩ := hi.1 x (by omega)
              have inner := h_350i (D := D) (nn := nn) (Q := Q) (M := M1) (F := F) (x1 := (a : Int)) (x2 := (t : Int)) (x3 := w) hY hB1 hF hin (by omega) hy hFy hx ihx 0 (by omega) s M2 l7 hi (by omega) hcx (by omega) (fun v hv => by omega) e1 e2 e3
              rw [s_350_90]
              clear ihx fin hi e2 k349 hF last
              simp (disch := omega) only [Option.toList_some, Option.toList_none, List.nil_append, List.cons_append, List.append_nil, true_and, and_true, not_true_eq_false, not_false_eq_true, true_implies, false_implies, implies_true, and_self, Int.reduceLT, Int.reduceLE, Int.reduceEq, Int.reduceNe, Int.reduceAdd, Int.reduceSub, Int.reduceMul, Int.reduceNeg, Int.reduceToNat, Int.toNat_natCast, ↓kk_ck, ↓kk_im, ↓kk_in, s_350_97]
              exact inner
        clear last
        have wipe : ∀ c : Nat, c ≤ 216 → vi_ok GG D 350 48 [some (.inr (.inr 112)), some (.inl (a : Int)), some (.inl (t : Int)), some (.inl w), some (.inl (c : Int)), none, none, none, none, none] [] (Y, vi_rs M1 135 (vi_m c (fun _ => -1) (M1 135)), nn) Q := by
          refine vi_dn 216 ?_ fun c hc ih => ?_
          · have := queue 0 (by omega) (1, vi_u (M1 129) 0 (t : Int), vi_u (vi_m 216 (fun _ => -1) (M1 135)) t 0) (vi_rs (vi_rs M1 135 (vi_u (vi_m 216 (fun _ => -1) (M1 135)) t 0)) 129 (vi_u (M1 129) 0 (t : Int))) none none (bfI_0 ht2 hFt vi_u_s (fun c hc => by
              by_cases e : c = t
              · rw [if_pos e, e, vi_u_s]
              · rw [if_neg e, vi_u_o e, vi_m_lt hc])) vi_rs_s (by rw [vi_rs_o (by omega), vi_rs_s]) (fun q h1 h2 => by rw [vi_rs_o h1, vi_rs_o h2])
            dsimp only at this
            rw [show ((0 : Nat) : Int) = 0 from rfl, show ((1 : Nat) : Int) = 1 from rfl] at this
            have i129 : ∀ f : Nat → Int, vi_rs M1 135 f 129 = M1 129 := fun f => vi_rs_o (by omega)
            rw [s_350_48]
            clear queue k349 hF
            simp (disch := omega) only [Option.toList_some, Option.toList_none, List.nil_append, List.cons_append, List.append_nil, true_and, and_true, not_true_eq_false, not_false_eq_true, true_implies, false_implies, implies_true, and_self, Int.reduceLT, Int.reduceLE, Int.reduceEq, Int.reduceNe, Int.reduceAdd, Int.reduceSub, Int.reduceMul, Int.reduceNeg, Int.reduceToNat, Int.toNat_natCast, ↓kk_ck, ↓kk_im, ↓kk_in, s_350_70, s_350_74, s_350_77, s_350_81, s_350_84, R1, R32, R38, u1, u2, v1, v2, Int.toNat_natCast, vi_ms_rs, vi_rs_s, vi_rs_rs, i129]
            exact this
          · rw [s_350_48]
            clear queue k349 hF
            simp (disch := omega) only [Option.toList_some, Option.toList_none, List.nil_append, List.cons_append, List.append_nil, true_and, and_true, not_true_eq_false, not_false_eq_true, true_implies, false_implies, implies_true, and_self, Int.reduceLT, Int.reduceLE, Int.reduceEq, Int.reduceNe, Int.reduceAdd, Int.reduceSub, Int.reduceMul, Int.reduceNeg, Int.reduceToNat, Int.toNat_natCast, ↓kk_ck, ↓kk_im, ↓kk_in, s_350_56, s_350_60, s_350_64, R1, R38, v1, v2, vi_ms_rs, vi_rs_s, vi_rs_rs, vi_inc]
            rw [vi_m_s rfl]
            exact ih
        have := wipe 0 (by omega)
        rw [vi_m_0, vi_rs_id rfl] at this
        clear wipe queue k349 hF
        simp (disch := omega) only [Option.toList_some, Option.toList_none, List.nil_append, List.cons_append, List.append_nil, true_and, and_true, not_true_eq_false, not_false_eq_true, true_implies, false_implies, implies_true, and_self, Int.reduceLT, Int.reduceLE, Int.reduceEq, Int.reduceNe, Int.reduceAdd, Int.reduceSub, Int.reduceMul, Int.reduceNeg, Int.reduceToNat, Int.toNat_natCast, ↓kk_ck, ↓kk_im, ↓kk_in, s_350_27, s_350_32, s_350_35, s_350_40, s_350_45, R1, ka, kt, vi_bt, ne_eq]
        exact this
  clear hQ
  simp (disch := omega) only [Option.toList_some, Option.toList_none, List.nil_append, List.cons_append, List.append_nil, true_and, and_true, not_true_eq_false, not_false_eq_true, true_implies, false_implies, implies_true, and_self, Int.reduceLT, Int.reduceLE, Int.reduceEq, Int.reduceNe, Int.reduceAdd, Int.reduceSub, Int.reduceMul, Int.reduceNeg, Int.reduceToNat, Int.toNat_natCast, ↓kk_ck, ↓kk_im, ↓kk_in, e_350, s_350_0, s_350_5, s_350_8, s_350_13, s_350_16, s_350_23, R1, k_246t hY ha, k_246t hY ht, ne_eq]
  exact cont
end
