/-! pieces (reference): how many CELLS a piece has, its lowest. -/
theorem sLb_r : ∀ (f k : Nat) (T : Nat → Bool) (x : Nat), sLb f k T x = -1 ∨ (k : Int) ≤ sLb f k T x
  | 0, _, _, _ => .inl rfl
  | f + 1, k, T, x => by
    rw [sLb]
    split
    · exact .inl rfl
    · split
      · exact .inr (Int.le_refl _)
      · have := sLb_r f (k + 1) (sTl T) x
        omega
theorem sPi_n : ∀ (f k : Nat) (T : Nat → Bool) (i w : Int), ¬ ((k : Int) ≤ i ∧ i < ((k + sPc f T : Nat) : Int)) → sPi f k T i w = -1
  | 0, _, _, _, _, _ => rfl
  | f + 1, k, T, i, w, h => by
    rw [sPi]
    rw [sPc] at h
    cases he : sE T
    · rw [if_neg (by simp)]
      rw [he, if_neg (by simp)] at h
      rw [if_neg (by omega)]
      exact sPi_n f (k + 1) (sTl T) i w (by omega)
    · rw [if_pos rfl]
theorem sPi_p : ∀ (f k : Nat) (T : Nat → Bool) (i : Nat), k ≤ i → i < k + sPc f T → ∃ P : Nat → Bool, (∀ c, c < 216 → (sLb f k T c = (i : Int) ↔ P c = true)) ∧ sPi f k T (i : Int) 0 = (sN 216 P : Int) ∧ ∃ j : Nat, j < 216 ∧ P j = true ∧ (∀ l, l < j → P l = false) ∧ ∀ w : Int, w ≠ 0 → sPi f k T (i : Int) w = (j : Int)
  | 0, k, T, i, h1, h2 => by rw [sPc] at h2; omega
  | f + 1, k, T, i, h1, h2 => by
    rw [sPc] at h2
    cases he : sE T
    · rw [he, if_neg (by simp)] at h2
      obtain ⟨j, e1, e2, e3, e4⟩ := sE_n he
      have ej : (sLo T).toNat = j := by rw [e4, Int.toNat_natCast]
      by_cases hk : k = i
      · refine ⟨sK T j, fun c hc => ?_, ?_, j, e1, sK_iff.mpr sCl_r, fun l hl => ?_, fun w hw => ?_⟩
        · rw [sLb, he, if_neg (by simp), ej]
          cases hs : sK T j c
          · rw [if_neg (by simp)]
            have := sLb_r f (k + 1) (sTl T) c
            constructor
            · intro h; omega
            · intro h; cases h
          · rw [if_pos rfl, hk]; simp
        · rw [sPi, he, if_neg (by simp), if_pos (by rw [hk]), if_pos rfl, ej]
        · cases hs : sK T j l
          · rfl
          · have := sCl_in e2 (sK_iff.mp hs)
            rw [e3 l hl] at this; cases this
        · rw [sPi, he, if_neg (by simp), if_pos (by rw [hk]), if_neg hw, e4]
      · obtain ⟨P, q1, q2, j', q3, q4, q5, q6⟩ := sPi_p f (k + 1) (sTl T) i (by omega) (by omega)
        have hne : ¬ (k : Int) = (i : Int) := by omega
        refine ⟨P, fun c hc => ?_, ?_, j', q3, q4, q5, fun w hw => ?_⟩
        · rw [sLb, he, if_neg (by simp), ej]
          cases hs : sK T j c
          · rw [if_neg (by simp)]; exact q1 c hc
          · rw [if_pos rfl]
            have ht : sTl T c = false := by unfold sTl sDif; rw [ej, hs]; simp
            have h4 := sLb_n f (k + 1) (sTl T) c hc ht
            have h5 := q1 c hc
            rw [h4] at h5
            constructor
            · intro h; exact absurd h hne
            · intro h; have := h5.mpr h; omega
        · rw [sPi, he, if_neg (by simp), if_neg hne]; exact q2
        · rw [sPi, he, if_neg (by simp), if_neg hne]; exact q6 w hw
    · rw [he, if_pos rfl] at h2; omega
/-- what the loop downwards counts: how many have this number, and the lowest -/
def pcD (L : Nat → Int) (i : Int) : Nat → Int × Int
  | 0 => (0, -1)
  | k + 1 => if L (215 - k) = i then ((pcD L i k).1 + 1, ((215 - k : Nat) : Int)) else pcD L i k
theorem pcD_r {L : Nat → Int} {i : Int} : ∀ k : Nat, 0 ≤ (pcD L i k).1 ∧ (pcD L i k).1 ≤ (k : Int)
  | 0 => by rw [pcD]; omega
  | k + 1 => by
    have := pcD_r (L := L) (i := i) k
    rw [pcD]
    split
    · dsimp only; omega
    · omega
theorem pcD_n {L : Nat → Int} {i : Int} {P : Nat → Bool} (h : ∀ c, c < 216 → (L c = i ↔ P c = true)) : ∀ k : Nat, k ≤ 216 → (sN 216 P : Int) = (sN (216 - k) P : Int) + (pcD L i k).1
  | 0, _ => by rw [pcD]; simp
  | k + 1, hk => by
    have ih := pcD_n h k (by omega)
    have e : 216 - k = (215 - k) + 1 := by omega
    have e2 : 216 - (k + 1) = 215 - k := by omega
    rw [e, show sN (215 - k + 1) P = sN (215 - k) P + (P (215 - k)).toNat from rfl] at ih
    rw [e2, pcD]
    have hc := h (215 - k) (by omega)
    cases hp : P (215 - k)
    · rw [if_neg (fun q => by rw [hc.mp q] at hp; cases hp)]
      rw [hp] at ih
      simpa using ih
    · rw [if_pos (hc.mpr hp)]
      rw [hp] at ih
      dsimp only
      simp at ih
      omega
theorem pcD_l {L : Nat → Int} {i : Int} {P : Nat → Bool} (h : ∀ c, c < 216 → (L c = i ↔ P c = true)) {j : Nat} (hj : j < 216) (hp : P j = true) (hl : ∀ l, l < j → P l = false) : ∀ k : Nat, k ≤ 216 → 216 - k ≤ j → (pcD L i k).2 = (j : Int) ∨ j ≠ 216 - k
  | 0, _, h2 => by omega
  | k + 1, hk, h2 => by
    by_cases e : j = 215 - k
    · left
      rw [pcD, if_pos ((h _ (by omega)).mpr (by rw [← e]; exact hp)), ← e]
    · right; omega
theorem pcD_k {L : Nat → Int} {i : Int} {P : Nat → Bool} (h : ∀ c, c < 216 → (L c = i ↔ P c = true)) {j : Nat} (hj : j < 216) (hp : P j = true) (hl : ∀ l, l < j → P l = false) : ∀ d : Nat, d ≤ j → (pcD L i (216 - j + d)).2 = (j : Int)
  | 0, _ => by
    have e : 216 - j = (215 - j) + 1 := by omega
    rw [Nat.add_zero, e, pcD, show 215 - (215 - j) = j by omega, if_pos ((h _ hj).mpr hp)]
  | d + 1, hd => by
    have ih := pcD_k h hj hp hl d (by omega)
    rw [show 216 - j + (d + 1) = (216 - j + d) + 1 by omega, pcD, if_neg (fun q => by
      have := (h _ (by omega)).mp q
      rw [hl _ (by omega)] at this; cases this)]
    exact ih
theorem pcD_e {S : Nat → Bool} {L : Nat → Int} (hL : ∀ x, x < 216 → L x = sLb 216 0 S x) {i : Int} (hi : 0 ≤ i ∧ i ≤ (sPc 216 S : Int) - 1) {w : Int} : (if w = 0 then (pcD L i 216).1 else (pcD L i 216).2) = sPi 216 0 S i w := by
  obtain ⟨i, rfl⟩ : ∃ k : Nat, i = (k : Int) := ⟨i.toNat, by omega⟩
  obtain ⟨P, q1, q2, j, q3, q4, q5, q6⟩ := sPi_p 216 0 S i (by omega) (by omega)
  have h : ∀ c, c < 216 → (L c = (i : Int) ↔ P c = true) := fun c hc => by rw [hL c hc]; exact q1 c hc
  split
  · rename_i hw
    rw [hw, q2]
    have := pcD_n h 216 (Nat.le_refl _)
    rw [Nat.sub_self, sN] at this
    omega
  · rename_i hw
    rw [q6 w hw]
    have := pcD_k h q3 q4 q5 j (Nat.le_refl _)
    rw [show 216 - j + j = 216 by omega] at this
    exact this
/-- what a query may change besides the answers: rows written anew at each use -/
def mFx (M M' : vi_M) : Prop := (∀ p, p ≠ 112 → ¬ (123 ≤ p ∧ p ≤ 129) → ¬ (133 ≤ p ∧ p ≤ 137) → ¬ (140 ≤ p ∧ p ≤ 149) → M' p = M p) ∧ ∀ k, k ≠ 19 → k ≠ 20 → k ≠ 21 → k ≠ 23 → k ≠ 24 → k ≠ 25 → k ≠ 30 → M' 112 k = M 112 k
theorem mFx_114 {M M' : vi_M} (h : mFx M M') : M' 114 = M 114 := h.1 114 (by omega) (by omega) (by omega) (by omega)
theorem mFx_of {M M' : vi_M} (h : mFr M M') : mFx M M' := ⟨fun p h1 h2 h3 h4 => h.1 p h1 (by omega) (by omega) (by omega) (by omega) (by omega), h.2⟩
theorem mFx_t {M M1 M2 : vi_M} (h : mFx M M1) (h' : mFx M1 M2) : mFx M M2 := ⟨fun p h1 h2 h3 h4 => (h'.1 p h1 h2 h3 h4).trans (h.1 p h1 h2 h3 h4), fun k h1 h2 h3 h4 h5 h6 h7 => (h'.2 k h1 h2 h3 h4 h5 h6 h7).trans (h.2 k h1 h2 h3 h4 h5 h6 h7)⟩
theorem mFx_p {M M' : vi_M} (h : ∀ p, ¬ (128 ≤ p ∧ p ≤ 129) → ¬ (133 ≤ p ∧ p ≤ 137) → ¬ (140 ≤ p ∧ p ≤ 149) → M' p = M p) : mFx M M' := ⟨fun p h1 h2 h3 h4 => h p (by omega) h3 h4, fun k h1 h2 h3 h4 h5 h6 h7 => by rw [h 112 (by omega) (by omega) (by omega)]⟩
theorem mT_c' {M M' : vi_M} (h : M' 114 = M 114) {lw : Option (List gCla)} {n c : Nat} : mLf M' lw n c = mLf M lw n c := mLf_c h
/-- what was looked stays, where these rows stay -/
theorem mSee_c {M M' : vi_M} {lw : Option (List gCla)} {n : Nat} (h : mSee M lw n) (h114 : M' 114 = M 114) (h124 : M' 124 = M 124) (h125 : M' 125 = M 125) (h126 : M' 126 = M 126) (h127 : M' 127 = M 127) (hv : M' 112 30 = M' 112 1) : mSee M' lw n := by
  obtain ⟨h1, h2, h3, h4, h5⟩ := h
  refine ⟨fun _ _ _ _ _ _ _ => rfl, fun _ _ _ _ _ _ _ _ => rfl, hv, fun c hc => by rw [h124, h114]; exact h4 c hc, fun c hc => ?_⟩
  rw [h126, h125, h127, h114, mLf_c h114, mT_c h114]
  exact h5 c hc
theorem mSee_l {M : vi_M} {lw : Option (List gCla)} {n : Nat} (h : mSee M lw n) {c : Nat} (hc : c < 216) : M 126 c = vi_b (mLf M lw n c) := (h.2.2.2.2 c hc).1
section
variable {D : Nat} {K : Option vi_V → vi_W → Prop} {Y : vi_Y} {M : vi_M} {nn : Nat × Nat} {Q : Option vi_V → vi_W → Prop}
theorem k_311 (hY : kY Y 151) {lw : Option (List gCla)} {n : Nat} (hS : mKs M lw n) {i w : Int} (hD : 46 ≤ D)
    (hQ : ∀ M', mSee M' lw n → mFx M M' → Q (some (.inl (if i = -1 then (sPc 216 (mB (M' 126)) : Int) else if w = 0 ∨ w = 1 then sPi 216 0 (mB (M' 126)) i w else -1))) (Y, M', nn)) : vi_call GG D 311 [.inr (.inr 112), .inl i, .inl w] (Y, M, nn) Q := by
  obtain ⟨D, rfl⟩ : ∃ k, D = k + 1 := ⟨D - 1, by omega⟩
  obtain ⟨R1, -, R3, -, -, -, -, -, -, -, -, -, -, R27, R28, R29, R31, R32, -⟩ := y_112 hY (by omega)
  obtain ⟨u1, u2⟩ := y_128 hY (by omega)
  obtain ⟨v1, v2⟩ := y_126 hY (by omega)
  have hB := hS.1
  have cont : vi_call GG D 294 [.inr (.inr 112)] (Y, M, nn) (fun r w' => vi_ok GG D 311 4 [some (.inr (.inr 112)), some (.inl i), some (.inl w), none, none, none, none] r.toList w' Q) := by
    refine k_294u hY hS (by omega) fun M' hs hf => ?_
    have hB' := mBx_c (mFr_114 hf) hB
    have hl := mLfd_of hs
    have cont2 : vi_call GG D 310 [.inr (.inr 112), .inr (.inr 126)] (Y, M', nn) (fun r w' => vi_ok GG D 311 12 [some (.inr (.inr 112)), some (.inl i), some (.inl w), none, none, none, none] r.toList w' Q) := by
      refine k_310 hY hB' ⟨v1, v2⟩ (by omega) (by omega) (fun c hc h => (hl c hc h).1) (by omega) fun M2 f2 L2 => ?_
      have e126 : M2 126 = M' 126 := f2 126 (by omega) (by omega)
      have e112 : M2 112 = M' 112 := f2 112 (by omega) (by omega)
      have hs2 : mSee M2 lw n := mSee_c hs (f2 _ (by omega) (by omega)) (f2 _ (by omega) (by omega)) (f2 _ (by omega) (by omega)) e126 (f2 _ (by omega) (by omega)) (by rw [e112]; exact hs.2.2.1)
      have hq := hQ M2 hs2 (mFx_t (mFx_of hf) (mFx_p fun p h1 _ _ => f2 p (by omega) (by omega)))
      rw [e126] at hq
      clear hQ hs2 hs hf hl
      generalize mB (M' 126) = S at *
      have hle : sPc 216 S ≤ 216 := by
        have key : ∀ (f : Nat) (T : Nat → Bool), sPc f T ≤ f := by
          intro f
          induction f with
          | zero => intro T; rw [sPc]; omega
          | succ f ih =>
            intro T
            rw [sPc]
            have := ih (sTl T)
            split <;> omega
        exact key 216 S
      by_cases hi1 : i = -1
      · subst hi1
        rw [if_pos rfl] at hq
        simp (disch := omega) only [Option.toList_some, Option.toList_none, List.nil_append, List.cons_append, List.append_nil, true_and, and_true, not_true_eq_false, not_false_eq_true, true_implies, false_implies, implies_true, and_self, Int.reduceLT, Int.reduceLE, Int.reduceEq, Int.reduceNe, Int.reduceAdd, Int.reduceSub, Int.reduceMul, Int.reduceNeg, Int.reduceToNat, Int.toNat_natCast, ↓kk_ck, ↓kk_im, ↓kk_in, Option.toList, List.append_nil, s_311_12, s_311_18, ne_eq]
        exact hq
      · rw [if_neg hi1] at hq
        have ew : vi_w32 ((sPc 216 S : Int) - 1) = (sPc 216 S : Int) - 1 := vi_32 (by omega) (by omega)
        by_cases hi : 0 ≤ i ∧ i ≤ (sPc 216 S : Int) - 1
        · by_cases hw : 0 ≤ w ∧ w ≤ 1
          · rw [if_pos (by omega), ← pcD_e L2 hi] at hq
            have loop : ∀ k : Nat, k ≤ 216 → vi_ok GG D 311 53 [some (.inr (.inr 112)), some (.inl i), some (.inl w), some (.inl (sPc 216 S : Int)), some (.inl (pcD (M2 128) i k).1), some (.inl (pcD (M2 128) i k).2), some (.inl (215 - (k : Int)))] [] (Y, M2, nn) Q := by
              refine vi_dn 216 ?_ fun k hk ih => ?_
              · rw [s_311_53]
                by_cases h0 : w = 0
                · rw [if_pos h0] at hq
                  simp (disch := omega) only [Option.toList_some, Option.toList_none, List.nil_append, List.cons_append, List.append_nil, true_and, and_true, not_true_eq_false, not_false_eq_true, true_implies, false_implies, implies_true, and_self, Int.reduceLT, Int.reduceLE, Int.reduceEq, Int.reduceNe, Int.reduceAdd, Int.reduceSub, Int.reduceMul, Int.reduceNeg, Int.reduceToNat, Int.toNat_natCast, ↓kk_ck, ↓kk_im, ↓kk_in, s_311_85, s_311_89, s_311_96, h0, ne_eq]
                  exact hq
                · rw [if_neg h0] at hq
                  simp (disch := omega) only [Option.toList_some, Option.toList_none, List.nil_append, List.cons_append, List.append_nil, true_and, and_true, not_true_eq_false, not_false_eq_true, true_implies, false_implies, implies_true, and_self, Int.reduceLT, Int.reduceLE, Int.reduceEq, Int.reduceNe, Int.reduceAdd, Int.reduceSub, Int.reduceMul, Int.reduceNeg, Int.reduceToNat, Int.toNat_natCast, ↓kk_ck, ↓kk_im, ↓kk_in, s_311_85, s_311_94, s_311_96, h0, ne_eq]
                  exact hq
              · clear hq
                have hr := pcD_r (L := M2 128) (i := i) k
                have et : (215 - (k : Int)).toNat = 215 - k := by omega
                have ek : vi_w32 (215 - (k : Int) + -1) = 215 - ((k + 1 : Nat) : Int) := by rw [vi_32 (by omega) (by omega)]; omega
                have ec : ((215 - k : Nat) : Int) = 215 - (k : Int) := by omega
                rw [pcD] at ih
                rw [s_311_53]
                by_cases hx : M2 128 (215 - k) = i
                · rw [if_pos hx] at ih
                  dsimp only at ih
                  rw [ec] at ih
                  simp (disch := omega) only [Option.toList_some, Option.toList_none, List.nil_append, List.cons_append, List.append_nil, true_and, and_true, not_true_eq_false, not_false_eq_true, true_implies, false_implies, implies_true, and_self, Int.reduceLT, Int.reduceLE, Int.reduceEq, Int.reduceNe, Int.reduceAdd, Int.reduceSub, Int.reduceMul, Int.reduceNeg, Int.reduceToNat, Int.toNat_natCast, ↓kk_ck, ↓kk_im, ↓kk_in, s_311_58, s_311_62, s_311_65, s_311_72, s_311_79, R1, R31, u1, u2, et, hx, ek, @vi_32 ((pcD (M2 128) i k).1 + 1) (by omega) (by omega), ne_eq]
                  exact ih
                · rw [if_neg hx] at ih
                  simp (disch := omega) only [Option.toList_some, Option.toList_none, List.nil_append, List.cons_append, List.append_nil, true_and, and_true, not_true_eq_false, not_false_eq_true, true_implies, false_implies, implies_true, and_self, Int.reduceLT, Int.reduceLE, Int.reduceEq, Int.reduceNe, Int.reduceAdd, Int.reduceSub, Int.reduceMul, Int.reduceNeg, Int.reduceToNat, Int.toNat_natCast, ↓kk_ck, ↓kk_im, ↓kk_in, s_311_58, s_311_62, s_311_65, s_311_69, s_311_79, R1, R31, u1, u2, et, hx, ek, ne_eq]
                  exact ih
            have := loop 0 (by omega)
            rw [pcD] at this
            clear loop hq
            simp (disch := omega) only [Option.toList_some, Option.toList_none, List.nil_append, List.cons_append, List.append_nil, true_and, and_true, not_true_eq_false, not_false_eq_true, true_implies, false_implies, implies_true, and_self, Int.reduceLT, Int.reduceLE, Int.reduceEq, Int.reduceNe, Int.reduceAdd, Int.reduceSub, Int.reduceMul, Int.reduceNeg, Int.reduceToNat, Int.toNat_natCast, ↓kk_ck, ↓kk_im, ↓kk_in, Option.toList, List.append_nil, s_311_12, s_311_20, s_311_28, s_311_31, s_311_37, s_311_42, ew, k_234t hi, k_234t hw, ne_eq]
            exact this
          · rw [if_neg (by omega)] at hq
            simp (disch := omega) only [Option.toList_some, Option.toList_none, List.nil_append, List.cons_append, List.append_nil, true_and, and_true, not_true_eq_false, not_false_eq_true, true_implies, false_implies, implies_true, and_self, Int.reduceLT, Int.reduceLE, Int.reduceEq, Int.reduceNe, Int.reduceAdd, Int.reduceSub, Int.reduceMul, Int.reduceNeg, Int.reduceToNat, Int.toNat_natCast, ↓kk_ck, ↓kk_im, ↓kk_in, Option.toList, List.append_nil, s_311_12, s_311_20, s_311_28, s_311_31, s_311_37, s_311_40, ew, k_234t hi, k_234f hw, ne_eq]
            exact hq
        · have hn : sPi 216 0 S i w = -1 := sPi_n 216 0 S i w (by omega)
          rw [hn] at hq
          have hq' : Q (some (.inl (-1))) (Y, M2, nn) := by split at hq <;> exact hq
          clear hq
          simp (disch := omega) only [Option.toList_some, Option.toList_none, List.nil_append, List.cons_append, List.append_nil, true_and, and_true, not_true_eq_false, not_false_eq_true, true_implies, false_implies, implies_true, and_self, Int.reduceLT, Int.reduceLE, Int.reduceEq, Int.reduceNe, Int.reduceAdd, Int.reduceSub, Int.reduceMul, Int.reduceNeg, Int.reduceToNat, Int.toNat_natCast, ↓kk_ck, ↓kk_im, ↓kk_in, Option.toList, List.append_nil, s_311_12, s_311_20, s_311_28, s_311_40, ew, k_234f hi, ne_eq]
          exact hq'
    clear hQ
    simp (disch := omega) only [Option.toList_some, Option.toList_none, List.nil_append, List.cons_append, List.append_nil, true_and, and_true, not_true_eq_false, not_false_eq_true, true_implies, false_implies, implies_true, and_self, Int.reduceLT, Int.reduceLE, Int.reduceEq, Int.reduceNe, Int.reduceAdd, Int.reduceSub, Int.reduceMul, Int.reduceNeg, Int.reduceToNat, Int.toNat_natCast, ↓kk_ck, ↓kk_im, ↓kk_in, s_311_4, s_311_9, R1, R28]
    exact cont2
  clear hQ
  simp (disch := omega) only [Option.toList_some, Option.toList_none, List.nil_append, List.cons_append, List.append_nil, true_and, and_true, not_true_eq_false, not_false_eq_true, true_implies, false_implies, implies_true, and_self, Int.reduceLT, Int.reduceLE, Int.reduceEq, Int.reduceNe, Int.reduceAdd, Int.reduceSub, Int.reduceMul, Int.reduceNeg, Int.reduceToNat, Int.toNat_natCast, ↓kk_ck, ↓kk_im, ↓kk_in, e_311, s_311_0, R1]
  exact cont
end
