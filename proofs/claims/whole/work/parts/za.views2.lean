/-! views (reference). -/
def dkP (f : Nat → Int) (x : Nat × Nat × Nat) : Bool := dkI f (x.1 : Int) (x.2.1 : Int) (x.2.2 : Int)
def snX (x : Nat × Nat × Nat) (c : Nat) : Bool := sLn (x.1 : Int) (x.2.1 : Int) (x.2.2 : Int) c
/-- it can be: every dark row has a CELL that no bright row passes -/
def cnQ (f : Nat → Int) : Prop := ∀ x, x ∈ lsA f 3 → dkP f x = true → ∃ c, c < 216 ∧ moB f c = true ∧ snX x c = true
/-- so many CELLS are enough for the same sight -/
def cvQ (f : Nat → Int) (n : Nat) : Prop := ∃ X : List Nat, X.length ≤ n ∧ (∀ c, c ∈ X → c < 216 ∧ moB f c = true) ∧ ∀ x, x ∈ lsA f 3 → dkP f x = true → ∃ c, c ∈ X ∧ snX x c = true
theorem moB_i {M : vi_M} {c : Nat} (h : moB (M 114) c = true) : mIc M (c : Int) := by
  unfold moB at h
  simp only [Bool.and_eq_true] at h
  exact mIcb_t h.1.1.1
theorem dkL_e {M : vi_M} (hA : lnA M) {l : Nat} (hl : l < (lsA (M 114) 3).length) : dkL M l = dkP (M 114) ((lsA (M 114) 3)[l]'hl) := by
  obtain ⟨h1, h2, h3⟩ := hA.2 l hl
  unfold dkL dkP
  rw [h1, h2, h3]
theorem onB_e {M : vi_M} (hA : lnA M) {l c : Nat} (hl : l < (lsA (M 114) 3).length) : onB M l c = snX ((lsA (M 114) 3)[l]'hl) c := by
  obtain ⟨h1, h2, h3⟩ := hA.2 l hl
  unfold onB snX
  rw [h1, h2, h3]
theorem hcB_t {g : Nat → Int} {a : Nat} {u v : Int} : ∀ k : Nat, hcB g a u v k = true ↔ ∃ w : Nat, w < k ∧ g (mHa a u v (w : Int)).toNat ≠ 0
  | 0 => by rw [hcB]; simp
  | k + 1 => by
    rw [hcB, Bool.or_eq_true, hcB_t k, decide_eq_true_eq]
    constructor
    · rintro (⟨w, h1, h2⟩ | h)
      · exact ⟨w, by omega, h2⟩
      · exact ⟨k, by omega, h⟩
    · rintro ⟨w, h1, h2⟩
      by_cases e : w = k
      · subst e; exact .inr h2
      · exact .inl ⟨w, by omega, h2⟩
theorem hcL_e {M : vi_M} (hB : mBx M) (hin : ∀ c, c < 216 → M 136 c ≠ 0 → mIc M (c : Int)) {l : Nat} (hO : lnO M (l : Int)) : hcL M l = true ↔ ∃ c, c < 216 ∧ M 136 c ≠ 0 ∧ onB M l c = true := by
  rcases hO with h | ⟨l', a, e1, e2, e3, e4⟩
  · omega
  obtain rfl : l = l' := by omega
  obtain ⟨qa, qu, qv⟩ := mIp_r hB e4
  have hs := mSz hB (a := a) (by omega)
  unfold hcL
  rw [e3, Int.toNat_natCast, hcB_t]
  unfold onB
  rw [e3]
  constructor
  · rintro ⟨w, h1, h2⟩
    have hr := mHa_r (a := a) (w := (w : Int)) qu qv (by omega)
    have hic := hin _ (by omega) h2
    refine ⟨_, by omega, h2, ?_⟩
    have := mHa_on hB (a := a) (by omega) qu qv hic
    cases hh : sLn (a : Int) (M 131 l) (M 132 l) (mHa a (M 131 l) (M 132 l) (w : Int)).toNat
    · exact absurd rfl (this.mpr hh w h1)
    · rfl
  · rintro ⟨c, h1, h2, h3⟩
    have := mHa_on hB (a := a) (by omega) qu qv (hin c h1 h2)
    refine Classical.byContradiction fun hn => ?_
    have h4 := this.mp fun w hw e => hn ⟨w, hw, by rw [e]; exact h2⟩
    rw [h3] at h4; cases h4
theorem cnB_t {M : vi_M} : ∀ k : Nat, cnB M k = true ↔ ∀ l, l < k → dkL M l = true → hcL M l = true
  | 0 => by rw [cnB]; simp
  | k + 1 => by
    rw [cnB, Bool.and_eq_true, cnB_t k]
    constructor
    · rintro ⟨h1, h2⟩ l hl hd
      by_cases e : l = k
      · subst e
        rw [hd, Bool.true_and] at h2
        simpa using h2
      · exact h1 l (by omega) hd
    · intro h
      refine ⟨fun l hl => h l (by omega), ?_⟩
      cases hd : dkL M k
      · rfl
      · rw [h k (by omega) hd]; rfl
theorem m136 {M : vi_M} (hm : ∀ c, c < 216 → M 136 c = vi_b (moB (M 114) c)) {c : Nat} (hc : c < 216) : M 136 c ≠ 0 ↔ moB (M 114) c = true := by
  rw [hm c hc]
  cases moB (M 114) c
  · exact ⟨fun h => absurd rfl h, fun h => by cases h⟩
  · exact ⟨fun _ => rfl, fun _ => by show (1 : Int) ≠ 0; omega⟩
theorem cnB_e {M : vi_M} (hB : mBx M) (hA : lnA M) (hm : ∀ c, c < 216 → M 136 c = vi_b (moB (M 114) c)) : cnB M (lsA (M 114) 3).length = true ↔ cnQ (M 114) := by
  have hin : ∀ c, c < 216 → M 136 c ≠ 0 → mIc M (c : Int) := fun c hc h => moB_i ((m136 hm hc).mp h)
  rw [cnB_t]
  constructor
  · intro h x hx hd
    obtain ⟨l, hl, e⟩ := List.getElem_of_mem hx
    subst e
    obtain ⟨c, c1, c2, c3⟩ := (hcL_e hB hin (lnA_o hB hA hl)).mp (h l hl (by rw [dkL_e hA hl]; exact hd))
    exact ⟨c, c1, (m136 hm c1).mp c2, by rw [← onB_e hA hl]; exact c3⟩
  · intro h l hl hd
    rw [dkL_e hA hl] at hd
    obtain ⟨c, c1, c2, c3⟩ := h _ (List.getElem_mem hl) hd
    exact (hcL_e hB hin (lnA_o hB hA hl)).mpr ⟨c, c1, (m136 hm c1).mpr c2, by rw [onB_e hA hl]; exact c3⟩
theorem cvP_e {M : vi_M} (hA : lnA M) (hm : ∀ c, c < 216 → M 136 c = vi_b (moB (M 114) c)) {f : Nat → Int} (hf : ∀ l, l < (lsA (M 114) 3).length → f l = 0) {n : Nat} : cvP M (lsA (M 114) 3).length f n ↔ cvQ (M 114) n := by
  constructor
  · rintro ⟨X, h1, h2, h3⟩
    refine ⟨X, h1, fun c hc => ⟨(h2 c hc).1, (m136 hm (h2 c hc).1).mp (h2 c hc).2⟩, fun x hx hd => ?_⟩
    obtain ⟨l, hl, e⟩ := List.getElem_of_mem hx
    subst e
    obtain ⟨c, c1, c2⟩ := h3 l hl (by rw [dkL_e hA hl]; exact hd) (by rw [hf l hl]; omega)
    exact ⟨c, c1, by rw [← onB_e hA hl]; exact c2⟩
  · rintro ⟨X, h1, h2, h3⟩
    refine ⟨X, h1, fun c hc => ⟨(h2 c hc).1, (m136 hm (h2 c hc).1).mpr (h2 c hc).2⟩, fun l hl hd _ => ?_⟩
    rw [dkL_e hA hl] at hd
    obtain ⟨c, c1, c2⟩ := h3 _ (List.getElem_mem hl) hd
    exact ⟨c, c1, by rw [onB_e hA hl]; exact c2⟩
/-- where all sizes are at most 3, 27 are enough -/
theorem cvQ_27 {M : vi_M} (hs : M 114 96 ≤ 3 ∧ M 114 97 ≤ 3 ∧ M 114 98 ≤ 3) (h : cnQ (M 114)) : cvQ (M 114) 27 := by
  refine ⟨((List.range 27).map (fun i => 36 * (i / 9) + 6 * (i / 3 % 3) + i % 3)).filter (fun c => moB (M 114) c), ?_, fun c hc => ?_, fun x hx hd => ?_⟩
  · refine Nat.le_trans (List.length_filter_le _ _) ?_
    rw [List.length_map, List.length_range]
    omega
  · rw [List.mem_filter, List.mem_map] at hc
    obtain ⟨⟨i, h1, h2⟩, h3⟩ := hc
    rw [List.mem_range] at h1
    exact ⟨by omega, h3⟩
  · obtain ⟨c, c1, c2, c3⟩ := h x hx hd
    refine ⟨c, ?_, c3⟩
    rw [List.mem_filter, List.mem_map]
    obtain ⟨i1, i2, i3, i4, i5⟩ := moB_i c2
    refine ⟨⟨9 * (c / 36) + 3 * (c / 6 % 6) + c % 6, ?_, ?_⟩, c2⟩
    · rw [List.mem_range]; omega
    · omega
/-- what views changes -/
def mFv (M M' : vi_M) : Prop := ∀ p, p ≠ 128 → p ≠ 129 → p ≠ 136 → p ≠ 137 → M' p = lsM M (lsA (M 114) 3) p
theorem lsM_p {M : vi_M} {L : List (Nat × Nat × Nat)} {p : Nat} (h1 : p ≠ 112) (h2 : p ≠ 130) (h3 : p ≠ 131) (h4 : p ≠ 132) : lsM M L p = M p := by
  unfold lsM
  rw [vi_rs_o h1, vi_rs_o h4, vi_rs_o h3, vi_rs_o h2]
theorem lsM_f {M : vi_M} {L : List (Nat × Nat × Nat)} {k : Nat} (h : k ≠ 39) : lsM M L 112 k = M 112 k := by
  unfold lsM
  rw [vi_rs_s, vi_u_o h]
theorem mFv_g {M M' : vi_M} (h : mFv M M') : mFg M M' := ⟨fun p h1 h2 h3 => (h p (by omega) (by omega) (by omega) (by omega)).trans (lsM_p h1 (by omega) (by omega) (by omega)), fun k _ _ _ _ _ _ _ h8 => by rw [h 112 (by omega) (by omega) (by omega) (by omega)]; exact lsM_f (by omega)⟩
theorem mFv_A {M M' : vi_M} (h : mFv M M') : lnA M' := lnA_c ⟨h 114 (by omega) (by omega) (by omega) (by omega), h 130 (by omega) (by omega) (by omega) (by omega), h 131 (by omega) (by omega) (by omega) (by omega), h 132 (by omega) (by omega) (by omega) (by omega)⟩ (by rw [h 112 (by omega) (by omega) (by omega) (by omega)]) lnA_M
theorem mFv_see {M M' : vi_M} (h : mFv M M') {lw : Option (List gCla)} {n : Nat} (hs : mSee M lw n) : mSee M' lw n := by
  have e : ∀ p, p ≠ 112 → p ≠ 128 → p ≠ 129 → p ≠ 130 → p ≠ 131 → p ≠ 132 → p ≠ 136 → p ≠ 137 → M' p = M p := fun p h1 h2 h3 h4 h5 h6 h7 h8 => (h p h2 h3 h7 h8).trans (lsM_p h1 h4 h5 h6)
  refine mSee_c hs (e _ (by omega) (by omega) (by omega) (by omega) (by omega) (by omega) (by omega) (by omega)) (e _ (by omega) (by omega) (by omega) (by omega) (by omega) (by omega) (by omega) (by omega)) (e _ (by omega) (by omega) (by omega) (by omega) (by omega) (by omega) (by omega) (by omega)) (e _ (by omega) (by omega) (by omega) (by omega) (by omega) (by omega) (by omega) (by omega)) (e _ (by omega) (by omega) (by omega) (by omega) (by omega) (by omega) (by omega) (by omega)) ?_
  rw [h 112 (by omega) (by omega) (by omega) (by omega), lsM_f (by omega), lsM_f (by omega)]
  exact hs.2.2.1
theorem mFv_k {M M' : vi_M} (h : mFv M M') {lw : Option (List gCla)} {n : Nat} (hS : mKs M lw n) : mKs M' lw n := by
  refine mKs_c hS (mFg_114 (mFv_g h)) fun hv => mFv_see h (hS.2.2.2.2.2.2 ?_)
  rw [h 112 (by omega) (by omega) (by omega) (by omega), lsM_f (by omega), lsM_f (by omega)] at hv
  exact hv
theorem mFv_d {M M' : vi_M} (h : mFv M M') {lw : Option (List gCla)} {n : Nat} (hd : mFd M lw n) : mFd M' lw n := by
  have f : ∀ k, k ≠ 39 → M' 112 k = M 112 k := fun k hk => by rw [h 112 (by omega) (by omega) (by omega) (by omega)]; exact lsM_f hk
  intro hv
  rw [f 42 (by omega), f 1 (by omega)] at hv
  obtain ⟨h1, h2, g, m, h3, h4, h5, h6, h7, h8, h9, h10⟩ := hd hv
  have r : ∀ (p : Nat) (g : Nat × Nat × Nat → Nat), (∀ l, (hl : l < (lsA (M 114) 3).length) → M p l = (g ((lsA (M 114) 3)[l]'hl) : Int)) → lsR (M p) g (lsA (M 114) 3) = M p := fun p g hg => by
    funext k
    unfold lsR
    by_cases hk : k < (lsA (M 114) 3).length
    · rw [List.getElem?_eq_getElem hk, hg k hk]
    · rw [List.getElem?_eq_none (by omega)]
  have ho : wfO M M' := by
    refine ⟨mFg_114 (mFv_g h), ?_, ?_, ?_⟩
    · rw [h 130 (by omega) (by omega) (by omega) (by omega)]
      unfold lsM
      rw [vi_rs_o (by omega), vi_rs_o (by omega), vi_rs_o (by omega), vi_rs_s]
      exact r 130 _ fun l hl => (h2.2 l hl).1
    · rw [h 131 (by omega) (by omega) (by omega) (by omega)]
      unfold lsM
      rw [vi_rs_o (by omega), vi_rs_o (by omega), vi_rs_s]
      exact r 131 _ fun l hl => (h2.2 l hl).2.1
    · rw [h 132 (by omega) (by omega) (by omega) (by omega)]
      unfold lsM
      rw [vi_rs_o (by omega), vi_rs_s]
      exact r 132 _ fun l hl => (h2.2 l hl).2.2
  refine ⟨by rw [f 30 (by omega), f 1 (by omega)]; exact h1, mFv_A h, g, m, h3, h4, ?_⟩
  rw [show enB M' lw n g m = enB M lw n g m from funext fun x => funext fun y => enB_c ho, ho.1, f 43 (by omega), f 44 (by omega), f 45 (by omega), f 46 (by omega), f 40 (by omega), f 41 (by omega)]
  exact ⟨h5, h6, h7, h8, h9, h10⟩
/-- the answers of views -/
def vwR (f : Nat → Int) (w r : Int) : Prop := (w = 0 → r = (sN 216 (moB f) : Int)) ∧ (w = 1 → r = vi_b (dP (cnQ f))) ∧ (w = 2 → r = (sPc 216 (moB f) : Int)) ∧ (w = 3 → (¬ (cnQ f ∧ f 96 ≤ 3 ∧ f 97 ≤ 3 ∧ f 98 ≤ 3) → r = -1) ∧ ((cnQ f ∧ f 96 ≤ 3 ∧ f 97 ≤ 3 ∧ f 98 ≤ 3) → ∃ n : Nat, r = (n : Int) ∧ cvQ f n ∧ ∀ j, j < n → ¬ cvQ f j))
section
variable {D : Nat} {K : Option vi_V → vi_W → Prop} {Y : vi_Y} {M : vi_M} {nn : Nat × Nat} {Q : Option vi_V → vi_W → Prop}
theorem k_327n (hY : kY Y 151) {w : Int} (h : ¬ (0 ≤ w ∧ w ≤ 3)) (hD : 2 ≤ D) : vi_call GG D 327 [.inr (.inr 112), .inl w] (Y, M, nn) K ↔ K (some (.inl (-1))) (Y, M, nn) := by
  obtain ⟨D, rfl⟩ : ∃ k, D = k + 1 := ⟨D - 1, by omega⟩
  refine vi_k (r := some (.inl _)) fun Q hQ => ?_
  simp (disch := omega) only [Option.toList_some, Option.toList_none, List.nil_append, List.cons_append, List.append_nil, true_and, and_true, not_true_eq_false, not_false_eq_true, true_implies, false_implies, implies_true, and_self, Int.reduceLT, Int.reduceLE, Int.reduceEq, Int.reduceNe, Int.reduceAdd, Int.reduceSub, Int.reduceMul, Int.reduceNeg, Int.reduceToNat, Int.toNat_natCast, ↓kk_ck, ↓kk_im, ↓kk_in, e_327, s_327_0, s_327_6, s_327_9, k_234f h, ne_eq]
  exact hQ
theorem k_327 (hY : kY Y 151) (hB : mBx M) {w : Int} (hw : 0 ≤ w ∧ w ≤ 3) (hD : 40 ≤ D) (hQ : ∀ (M' : vi_M) (r : Int), mFv M M' → vwR (M 114) w r → Q (some (.inl r)) (Y, M', nn)) : vi_call GG D 327 [.inr (.inr 112), .inl w] (Y, M, nn) Q := by
  obtain ⟨D, rfl⟩ : ∃ k, D = k + 1 := ⟨D - 1, by omega⟩
  obtain ⟨R1, -, R3, -, -, -, -, -, -, -, -, -, -, R27, R28, R29, R31, R32, R33, R34, R35, R36, R37, R38, R47, R48, -⟩ := y_112 hY (by omega)
  obtain ⟨p1, p2⟩ := y_136 hY (by omega)
  obtain ⟨p3, p4⟩ := y_137 hY (by omega)
  have k312 := fun {D : Nat} {K : Option vi_V → vi_W → Prop} (hD : 3 ≤ D) => @k_312 D K Y M nn hY hB hD
  have hv0 : mFv M (lsM M (lsA (M 114) 3)) := fun p _ _ _ _ => rfl
  generalize hM1 : lsM M (lsA (M 114) 3) = M1 at *
  have e1 : M1 114 = M 114 := mFg_114 (mFv_g hv0)
  have k321 := fun {D : Nat} {K : Option vi_V → vi_W → Prop} (hD : 3 ≤ D) => @k_321 D K Y M1 nn hY hD
  rw [e1] at k321
  generalize hM2 : vi_rs M1 136 (vi_m 216 (fun c => vi_b (moB (M 114) c)) (M1 136)) = M2 at *
  have o2 : ∀ p, p ≠ 136 → M2 p = M1 p := fun p hp => by rw [← hM2, vi_rs_o hp]
  have hv2 : mFv M M2 := fun p h1 h2 h3 h4 => by rw [o2 p h3]; exact hv0 p h1 h2 h3 h4
  have hm2 : ∀ c, c < 216 → M2 136 c = vi_b (moB (M 114) c) := fun c hc => by rw [← hM2, vi_rs_s, vi_m_lt hc]
  have e2 : M2 114 = M 114 := (o2 114 (by omega)).trans e1
  have hA2 := mFv_A hv2
  have hB2 := mBx_c e2 hB
  have hin2 : ∀ c, c < 216 → M2 136 c ≠ 0 → mIc M2 (c : Int) := fun c hc h => by
    have : moB (M 114) c = true := by
      cases hh : moB (M 114) c
      · rw [hm2 c hc, hh] at h; exact absurd rfl h
      · rfl
    exact mIc_c e2 (moB_i this)
  have hle := lsA_l hB 3
  clear hM2 hM1 hv0
  obtain rfl | rfl | rfl | rfl : w = 0 ∨ w = 1 ∨ w = 2 ∨ w = 3 := by omega
  · have := hQ M2 (sN 216 (moB (M 114)) : Int) hv2 ⟨fun _ => rfl, fun k => by omega, fun k => by omega, fun k => by omega⟩
    clear hQ
    simp (disch := omega) only [Option.toList_some, Option.toList_none, List.nil_append, List.cons_append, List.append_nil, true_and, and_true, not_true_eq_false, not_false_eq_true, true_implies, false_implies, implies_true, and_self, Int.reduceLT, Int.reduceLE, Int.reduceEq, Int.reduceNe, Int.reduceAdd, Int.reduceSub, Int.reduceMul, Int.reduceNeg, Int.reduceToNat, Int.toNat_natCast, ↓kk_ck, ↓kk_im, ↓kk_in, e_327, s_327_0, s_327_6, s_327_11, s_327_15, s_327_19, s_327_24, R1, k_234t hw, k312, k321, ne_eq]
    exact this
  · have k323 := fun {D : Nat} {K : Option vi_V → vi_W → Prop} (hD : 3 ≤ D) => @k_323 D K Y M2 nn hY hB2 (lsA (M 114) 3).length (by omega) (by rw [← e2]; exact hA2.1) (fun l hl => lnA_o hB2 hA2 (by rw [e2]; exact hl)) hD
    have hcn := cnB_e hB2 hA2 (by rw [e2]; exact hm2)
    rw [e2] at hcn
    by_cases hc : cnQ (M 114)
    · have := hQ M2 1 hv2 ⟨fun k => by omega, fun _ => by rw [dP_t hc]; rfl, fun k => by omega, fun k => by omega⟩
      rw [hcn.mpr hc] at k323
      clear hQ hcn
      simp (disch := omega) only [Option.toList_some, Option.toList_none, List.nil_append, List.cons_append, List.append_nil, true_and, and_true, not_true_eq_false, not_false_eq_true, true_implies, false_implies, implies_true, and_self, Int.reduceLT, Int.reduceLE, Int.reduceEq, Int.reduceNe, Int.reduceAdd, Int.reduceSub, Int.reduceMul, Int.reduceNeg, Int.reduceToNat, Int.toNat_natCast, ↓kk_ck, ↓kk_im, ↓kk_in, e_327, s_327_0, s_327_6, s_327_11, s_327_15, s_327_19, s_327_26, s_327_40, s_327_44, s_327_50, s_327_54, s_327_59, R1, k_234t hw, k312, k321, k323, vi_bt, ne_eq]
      exact this
    · have := hQ M2 0 hv2 ⟨fun k => by omega, fun _ => by rw [dP_f hc]; rfl, fun k => by omega, fun k => by omega⟩
      have hf : cnB M2 (lsA (M 114) 3).length = false := by
        cases hh : cnB M2 (lsA (M 114) 3).length
        · rfl
        · exact absurd (hcn.mp hh) hc
      rw [hf] at k323
      clear hQ hcn
      simp (disch := omega) only [Option.toList_some, Option.toList_none, List.nil_append, List.cons_append, List.append_nil, true_and, and_true, not_true_eq_false, not_false_eq_true, true_implies, false_implies, implies_true, and_self, Int.reduceLT, Int.reduceLE, Int.reduceEq, Int.reduceNe, Int.reduceAdd, Int.reduceSub, Int.reduceMul, Int.reduceNeg, Int.reduceToNat, Int.toNat_natCast, ↓kk_ck, ↓kk_im, ↓kk_in, e_327, s_327_0, s_327_6, s_327_11, s_327_15, s_327_19, s_327_26, s_327_40, s_327_44, s_327_50, s_327_58, s_327_59, R1, k_234t hw, k312, k321, k323, vi_bf, ne_eq]
      exact this
  · have cont : vi_call GG D 310 [.inr (.inr 112), .inr (.inr 136)] (Y, M2, nn) (fun r w' => vi_ok GG D 327 39 [some (.inr (.inr 112)), some (.inl 2), some (.inl (sN 216 (moB (M 114)) : Int)), none, none] r.toList w' Q) := by
      refine k_310 hY hB2 ⟨p1, p2⟩ (by omega) (by omega) hin2 (by omega) fun M3 f3 _ => ?_
      have e3 : sPc 216 (mB (M2 136)) = sPc 216 (moB (M 114)) := sPc_c (mB_b hm2)
      have := hQ M3 (sPc 216 (mB (M2 136)) : Int) (fun p h1 h2 h3 h4 => by rw [f3 p h1 h2]; exact hv2 p h1 h2 h3 h4) ⟨fun k => by omega, fun k => by omega, fun _ => by rw [e3], fun k => by omega⟩
      clear hQ
      simp (disch := omega) only [Option.toList_some, Option.toList_none, List.nil_append, List.cons_append, List.append_nil, true_and, and_true, not_true_eq_false, not_false_eq_true, true_implies, false_implies, implies_true, and_self, Int.reduceLT, Int.reduceLE, Int.reduceEq, Int.reduceNe, Int.reduceAdd, Int.reduceSub, Int.reduceMul, Int.reduceNeg, Int.reduceToNat, Int.toNat_natCast, ↓kk_ck, ↓kk_im, ↓kk_in, s_327_39]
      exact this
    clear hQ
    simp (disch := omega) only [Option.toList_some, Option.toList_none, List.nil_append, List.cons_append, List.append_nil, true_and, and_true, not_true_eq_false, not_false_eq_true, true_implies, false_implies, implies_true, and_self, Int.reduceLT, Int.reduceLE, Int.reduceEq, Int.reduceNe, Int.reduceAdd, Int.reduceSub, Int.reduceMul, Int.reduceNeg, Int.reduceToNat, Int.toNat_natCast, ↓kk_ck, ↓kk_im, ↓kk_in, e_327, s_327_0, s_327_6, s_327_11, s_327_15, s_327_19, s_327_26, s_327_31, s_327_36, R1, R47, k_234t hw, k312, k321, ne_eq]
    exact cont
  · have k323 := fun {D : Nat} {K : Option vi_V → vi_W → Prop} (hD : 3 ≤ D) => @k_323 D K Y M2 nn hY hB2 (lsA (M 114) 3).length (by omega) (by rw [← e2]; exact hA2.1) (fun l hl => lnA_o hB2 hA2 (by rw [e2]; exact hl)) hD
    have hcn := cnB_e hB2 hA2 (by rw [e2]; exact hm2)
    rw [e2] at hcn
    have a0 := fun {D : Nat} {K : Option vi_V → vi_W → Prop} (hD : 1 ≤ D) => @k_2410_0 D K Y M2 nn hY hD
    have a1 := fun {D : Nat} {K : Option vi_V → vi_W → Prop} (hD : 1 ≤ D) => @k_2410_1 D K Y M2 nn hY hD
    have a2 := fun {D : Nat} {K : Option vi_V → vi_W → Prop} (hD : 1 ≤ D) => @k_2410_2 D K Y M2 nn hY hD
    rw [e2] at a0 a1 a2
    have no : ¬ (cnQ (M 114) ∧ M 114 96 ≤ 3 ∧ M 114 97 ≤ 3 ∧ M 114 98 ≤ 3) → Q (some (.inl (-1))) (Y, M2, nn) := fun h => hQ M2 (-1) hv2 ⟨fun k => by omega, fun k => by omega, fun k => by omega, fun _ => ⟨fun _ => rfl, fun k => absurd k h⟩⟩
    by_cases hc : cnQ (M 114)
    · rw [hcn.mpr hc] at k323
      by_cases s0 : M 114 96 ≤ 3
      · by_cases s1 : M 114 97 ≤ 3
        · by_cases s2 : M 114 98 ≤ 3
          · clear no
            have h39 : M2 112 39 = ((lsA (M 114) 3).length : Int) := by rw [← e2]; exact hA2.1
            have least : ∀ n : Nat, n ≤ 27 → ∀ M3 : vi_M, (∀ p, p ≠ 137 → M3 p = M2 p) → (∀ l, l < (lsA (M 114) 3).length → M3 137 l = 0) → (∀ j, j < n → ¬ cvQ (M 114) j) → vi_ok GG D 327 122 [some (.inr (.inr 112)), some (.inl 3), some (.inl (sN 216 (moB (M 114)) : Int)), some (.inl 1), some (.inl (n : Int))] [] (Y, M3, nn) Q := by
              refine vi_dn (P := fun n => ∀ M3 : vi_M, (∀ p, p ≠ 137 → M3 p = M2 p) → (∀ l, l < (lsA (M 114) 3).length → M3 137 l = 0) → (∀ j, j < n → ¬ cvQ (M 114) j) → vi_ok GG D 327 122 [some (.inr (.inr 112)), some (.inl 3), some (.inl (sN 216 (moB (M 114)) : Int)), some (.inl 1), some (.inl (n : Int))] [] (Y, M3, nn) Q) 27 ?_ fun n hn ih => ?_
              all_goals
                intro M3 o3 z3 hno
                have e3 : M3 114 = M 114 := (o3 114 (by omega)).trans e2
                have hA3 : lnA M3 := lnA_c ⟨o3 _ (by omega), o3 _ (by omega), o3 _ (by omega), o3 _ (by omega)⟩ (by rw [o3 112 (by omega)]) hA2
                have hm3 : ∀ c, c < 216 → M3 136 c = vi_b (moB (M3 114) c) := fun c hc => by rw [o3 136 (by omega), e3]; exact hm2 c hc
                have hin3 : ∀ c, c < 216 → M3 136 c ≠ 0 → mIc M3 (c : Int) := fun c hc h => mIc_c (o3 114 (by omega)) (hin2 c hc (by rw [← o3 136 (by omega)]; exact h))
                have hcv := fun n => cvP_e (n := n) hA3 hm3 (f := M3 137) (by rw [e3]; exact z3)
                rw [e3] at hcv
                have hv3 : mFv M M3 := fun p h1 h2 h3 h4 => by rw [o3 p h4]; exact hv2 p h1 h2 h3 h4
              · have hy : cvQ (M 114) 27 := cvQ_27 ⟨s0, s1, s2⟩ hc
                have hq := hQ M3 27 hv3 ⟨fun k => by omega, fun k => by omega, fun k => by omega, fun _ => ⟨fun k => absurd ⟨hc, s0, s1, s2⟩ k, fun _ => ⟨27, rfl, hy, hno⟩⟩⟩
                have cont : vi_call GG D 324 [.inr (.inr 112), .inl ((27 : Nat) : Int)] (Y, M3, nn) (fun r w' => vi_ok GG D 327 128 [some (.inr (.inr 112)), some (.inl 3), some (.inl (sN 216 (moB (M 114)) : Int)), some (.inl 1), some (.inl 27)] r.toList w' Q) := by
                  refine k_324 hY 27 M3 D _ (mBx_c e3 hB) hA3 hin3 (by omega) (fun l hl => by rw [z3 l (by rw [← e3]; exact hl)]; omega) (by omega) ?_
                  rw [e3, dP_t ((hcv 27).mpr hy)]
                  clear hQ hno hcv
                  simp (disch := omega) only [Option.toList_some, Option.toList_none, List.nil_append, List.cons_append, List.append_nil, true_and, and_true, not_true_eq_false, not_false_eq_true, true_implies, false_implies, implies_true, and_self, Int.reduceLT, Int.reduceLE, Int.reduceEq, Int.reduceNe, Int.reduceAdd, Int.reduceSub, Int.reduceMul, Int.reduceNeg, Int.reduceToNat, Int.toNat_natCast, ↓kk_ck, ↓kk_im, ↓kk_in, Option.toList, s_327_128, s_327_137, vi_bt, ne_eq]
                  exact hq
                clear hQ hq hno hcv
                rw [s_327_122]
                simp (disch := omega) only [Option.toList_some, Option.toList_none, List.nil_append, List.cons_append, List.append_nil, true_and, and_true, not_true_eq_false, not_false_eq_true, true_implies, false_implies, implies_true, and_self, Int.reduceLT, Int.reduceLE, Int.reduceEq, Int.reduceNe, Int.reduceAdd, Int.reduceSub, Int.reduceMul, Int.reduceNeg, Int.reduceToNat, Int.toNat_natCast, ↓kk_ck, ↓kk_im, ↓kk_in, R1]
                exact cont
              · have cont : vi_call GG D 324 [.inr (.inr 112), .inl (n : Int)] (Y, M3, nn) (fun r w' => vi_ok GG D 327 128 [some (.inr (.inr 112)), some (.inl 3), some (.inl (sN 216 (moB (M 114)) : Int)), some (.inl 1), some (.inl (n : Int))] r.toList w' Q) := by
                  refine k_324 hY n M3 D _ (mBx_c e3 hB) hA3 hin3 (by omega) (fun l hl => by rw [z3 l (by rw [← e3]; exact hl)]; omega) (by omega) ?_
                  rw [e3]
                  by_cases hy : cvQ (M 114) n
                  · have hq := hQ M3 (n : Int) hv3 ⟨fun k => by omega, fun k => by omega, fun k => by omega, fun _ => ⟨fun k => absurd ⟨hc, s0, s1, s2⟩ k, fun _ => ⟨n, rfl, hy, hno⟩⟩⟩
                    rw [dP_t ((hcv n).mpr hy)]
                    clear hQ hno hcv ih
                    simp (disch := omega) only [Option.toList_some, Option.toList_none, List.nil_append, List.cons_append, List.append_nil, true_and, and_true, not_true_eq_false, not_false_eq_true, true_implies, false_implies, implies_true, and_self, Int.reduceLT, Int.reduceLE, Int.reduceEq, Int.reduceNe, Int.reduceAdd, Int.reduceSub, Int.reduceMul, Int.reduceNeg, Int.reduceToNat, Int.toNat_natCast, ↓kk_ck, ↓kk_im, ↓kk_in, Option.toList, s_327_128, s_327_137, vi_bt, ne_eq]
                    exact hq
                  · have := ih M3 o3 z3 (fun j hj => by
                      by_cases e : j = n
                      · rw [e]; exact hy
                      · exact hno j (by omega))
                    rw [dP_f (fun k => hy ((hcv n).mp k))]
                    clear hQ hno hcv ih
                    simp (disch := omega) only [Option.toList_some, Option.toList_none, List.nil_append, List.cons_append, List.append_nil, true_and, and_true, not_true_eq_false, not_false_eq_true, true_implies, false_implies, implies_true, and_self, Int.reduceLT, Int.reduceLE, Int.reduceEq, Int.reduceNe, Int.reduceAdd, Int.reduceSub, Int.reduceMul, Int.reduceNeg, Int.reduceToNat, Int.toNat_natCast, ↓kk_ck, ↓kk_im, ↓kk_in, Option.toList, s_327_128, s_327_131, vi_bf, vi_inc, ne_eq]
                    exact this
                clear hQ hno hcv ih
                rw [s_327_122]
                simp (disch := omega) only [Option.toList_some, Option.toList_none, List.nil_append, List.cons_append, List.append_nil, true_and, and_true, not_true_eq_false, not_false_eq_true, true_implies, false_implies, implies_true, and_self, Int.reduceLT, Int.reduceLE, Int.reduceEq, Int.reduceNe, Int.reduceAdd, Int.reduceSub, Int.reduceMul, Int.reduceNeg, Int.reduceToNat, Int.toNat_natCast, ↓kk_ck, ↓kk_im, ↓kk_in, R1]
                exact cont
            clear hQ
            have zero : ∀ l : Nat, l ≤ (lsA (M 114) 3).length → vi_ok GG D 327 96 [some (.inr (.inr 112)), some (.inl 3), some (.inl (sN 216 (moB (M 114)) : Int)), some (.inl 1), some (.inl (l : Int))] [] (Y, vi_rs M2 137 (vi_m l (fun _ => 0) (M2 137)), nn) Q := by
              refine vi_dn _ ?_ fun l hl ih => ?_
              · have go := least 0 (by omega) (vi_rs M2 137 (vi_m (lsA (M 114) 3).length (fun _ => 0) (M2 137))) (fun p hp => vi_rs_o hp) (fun l hl => by rw [vi_rs_s, vi_m_lt hl]) (fun j hj => by omega)
                rw [show ((0 : Nat) : Int) = 0 from rfl] at go
                have i39 : vi_rs M2 137 (vi_m (lsA (M 114) 3).length (fun _ => 0) (M2 137)) 112 39 = ((lsA (M 114) 3).length : Int) := by rw [vi_rs_o (by omega)]; exact h39
                clear least hcn
                rw [s_327_96]
                simp (disch := omega) only [Option.toList_some, Option.toList_none, List.nil_append, List.cons_append, List.append_nil, true_and, and_true, not_true_eq_false, not_false_eq_true, true_implies, false_implies, implies_true, and_self, Int.reduceLT, Int.reduceLE, Int.reduceEq, Int.reduceNe, Int.reduceAdd, Int.reduceSub, Int.reduceMul, Int.reduceNeg, Int.reduceToNat, Int.toNat_natCast, ↓kk_ck, ↓kk_im, ↓kk_in, s_327_102, s_327_119, R1, i39]
                exact go
              · have i39 : vi_rs M2 137 (vi_m l (fun _ => 0) (M2 137)) 112 39 = ((lsA (M 114) 3).length : Int) := by rw [vi_rs_o (by omega)]; exact h39
                clear least hcn
                rw [s_327_96]
                simp (disch := omega) only [Option.toList_some, Option.toList_none, List.nil_append, List.cons_append, List.append_nil, true_and, and_true, not_true_eq_false, not_false_eq_true, true_implies, false_implies, implies_true, and_self, Int.reduceLT, Int.reduceLE, Int.reduceEq, Int.reduceNe, Int.reduceAdd, Int.reduceSub, Int.reduceMul, Int.reduceNeg, Int.reduceToNat, Int.toNat_natCast, ↓kk_ck, ↓kk_im, ↓kk_in, s_327_102, s_327_105, s_327_109, s_327_113, R1, R48, p3, p4, i39, Int.toNat_natCast, vi_ms_rs, vi_rs_s, vi_rs_rs, vi_inc]
                rw [vi_m_s rfl]
                exact ih
            have go := zero 0 (by omega)
            rw [vi_m_0, vi_rs_id rfl] at go
            clear zero least hcn
            simp (disch := omega) only [Option.toList_some, Option.toList_none, List.nil_append, List.cons_append, List.append_nil, true_and, and_true, not_true_eq_false, not_false_eq_true, true_implies, false_implies, implies_true, and_self, Int.reduceLT, Int.reduceLE, Int.reduceEq, Int.reduceNe, Int.reduceAdd, Int.reduceSub, Int.reduceMul, Int.reduceNeg, Int.reduceToNat, Int.toNat_natCast, ↓kk_ck, ↓kk_im, ↓kk_in, e_327, s_327_0, s_327_6, s_327_11, s_327_15, s_327_19, s_327_26, s_327_40, s_327_44, s_327_60, s_327_64, s_327_69, s_327_73, s_327_78, s_327_82, s_327_87, s_327_93, R1, k_234t hw, k312, k321, k323, a0, a1, a2, vi_bt, ne_eq]
            exact go
          · have := no (fun k => s2 k.2.2.2)
            clear hQ hcn no
            simp (disch := omega) only [Option.toList_some, Option.toList_none, List.nil_append, List.cons_append, List.append_nil, true_and, and_true, not_true_eq_false, not_false_eq_true, true_implies, false_implies, implies_true, and_self, Int.reduceLT, Int.reduceLE, Int.reduceEq, Int.reduceNe, Int.reduceAdd, Int.reduceSub, Int.reduceMul, Int.reduceNeg, Int.reduceToNat, Int.toNat_natCast, ↓kk_ck, ↓kk_im, ↓kk_in, e_327, s_327_0, s_327_6, s_327_11, s_327_15, s_327_19, s_327_26, s_327_40, s_327_44, s_327_60, s_327_64, s_327_69, s_327_73, s_327_78, s_327_82, s_327_87, s_327_91, R1, k_234t hw, k312, k321, k323, a0, a1, a2, vi_bt, ne_eq]
            exact this
        · have := no (fun k => s1 k.2.2.1)
          clear hQ hcn no
          simp (disch := omega) only [Option.toList_some, Option.toList_none, List.nil_append, List.cons_append, List.append_nil, true_and, and_true, not_true_eq_false, not_false_eq_true, true_implies, false_implies, implies_true, and_self, Int.reduceLT, Int.reduceLE, Int.reduceEq, Int.reduceNe, Int.reduceAdd, Int.reduceSub, Int.reduceMul, Int.reduceNeg, Int.reduceToNat, Int.toNat_natCast, ↓kk_ck, ↓kk_im, ↓kk_in, e_327, s_327_0, s_327_6, s_327_11, s_327_15, s_327_19, s_327_26, s_327_40, s_327_44, s_327_60, s_327_64, s_327_69, s_327_73, s_327_78, s_327_91, R1, k_234t hw, k312, k321, k323, a0, a1, a2, vi_bt, ne_eq]
          exact this
      · have := no (fun k => s0 k.2.1)
        clear hQ hcn no
        simp (disch := omega) only [Option.toList_some, Option.toList_none, List.nil_append, List.cons_append, List.append_nil, true_and, and_true, not_true_eq_false, not_false_eq_true, true_implies, false_implies, implies_true, and_self, Int.reduceLT, Int.reduceLE, Int.reduceEq, Int.reduceNe, Int.reduceAdd, Int.reduceSub, Int.reduceMul, Int.reduceNeg, Int.reduceToNat, Int.toNat_natCast, ↓kk_ck, ↓kk_im, ↓kk_in, e_327, s_327_0, s_327_6, s_327_11, s_327_15, s_327_19, s_327_26, s_327_40, s_327_44, s_327_60, s_327_64, s_327_69, s_327_91, R1, k_234t hw, k312, k321, k323, a0, a1, a2, vi_bt, ne_eq]
        exact this
    · have hf : cnB M2 (lsA (M 114) 3).length = false := by
        cases hh : cnB M2 (lsA (M 114) 3).length
        · rfl
        · exact absurd (hcn.mp hh) hc
      have := no (fun k => hc k.1)
      rw [hf] at k323
      clear hQ hcn no
      simp (disch := omega) only [Option.toList_some, Option.toList_none, List.nil_append, List.cons_append, List.append_nil, true_and, and_true, not_true_eq_false, not_false_eq_true, true_implies, false_implies, implies_true, and_self, Int.reduceLT, Int.reduceLE, Int.reduceEq, Int.reduceNe, Int.reduceAdd, Int.reduceSub, Int.reduceMul, Int.reduceNeg, Int.reduceToNat, Int.toNat_natCast, ↓kk_ck, ↓kk_im, ↓kk_in, e_327, s_327_0, s_327_6, s_327_11, s_327_15, s_327_19, s_327_26, s_327_40, s_327_44, s_327_60, s_327_91, R1, k_234t hw, k312, k321, k323, vi_bf, ne_eq]
      exact this
end
