/-! ends (reference): what is left with so many holes more, held against a goal. -/
theorem sInn_c {S T : Nat → Bool} (h : ∀ i, i < 216 → S i = T i) {c : Nat} (hc : c < 216) : sInn S c = sInn T c := by
  rw [Bool.eq_iff_iff, sInn_iff hc, sInn_iff hc, h c hc]
  constructor
  · rintro ⟨a, b, k⟩; exact ⟨a, b, fun i hi => by rw [← h i (sA_lt hc hi)]; exact k i hi⟩
  · rintro ⟨a, b, k⟩; exact ⟨a, b, fun i hi => by rw [h i (sA_lt hc hi)]; exact k i hi⟩
theorem sIt_c {S T : Nat → Bool} (h : ∀ i, i < 216 → S i = T i) : ∀ (k c : Nat), c < 216 → sIt k S c = sIt k T c
  | 0, c, hc => h c hc
  | k + 1, c, hc => by rw [sIt, sIt]; exact sInn_c (sIt_c h k) hc
theorem sCm_c {S T : Nat → Bool} (h : ∀ i, i < 216 → S i = T i) {g n : Nat} : sCm S g n = sCm T g n := by
  unfold sCm
  rw [sE_c (sIt_c h n), sPc_c h, sN_c h]
theorem mNum_e {f : Nat → Int} : ∀ k : Nat, mNum f k = (sN k (mB f) : Int)
  | 0 => rfl
  | k + 1 => by
    rw [mNum, mNum_e k, sN]
    by_cases h : f k = 0
    · rw [mB_f h]; simp [h]
    · rw [mB_t h]; simp [h]
theorem mB_b {f : Nat → Int} {T : Nat → Bool} (h : ∀ c, c < 216 → f c = vi_b (T c)) : ∀ c, c < 216 → mB f c = T c := fun c hc => by
  unfold mB
  rw [h c hc]
  cases T c <;> rfl
theorem pkR_0 {r : Nat → Int} {a : Nat} {u v : Int} (h : ∀ c, c < 216 → 0 ≤ r c) : ∀ j c : Nat, c < 216 → (pkR r a u v j c = 0 ↔ r c = 0 ∧ ∀ w : Nat, w < j → (mHa a u v (w : Int)).toNat ≠ c) ∧ 0 ≤ pkR r a u v j c
  | 0, c, hc => by rw [pkR]; exact ⟨⟨fun k => ⟨k, fun w hw => by omega⟩, fun k => k.1⟩, h c hc⟩
  | j + 1, c, hc => by
    obtain ⟨ih, ihp⟩ := pkR_0 (a := a) (u := u) (v := v) h j c hc
    rw [pkR]
    by_cases e : c = (mHa a u v (j : Int)).toNat
    · rw [← e, vi_u_s]
      refine ⟨⟨fun k => by omega, fun k => absurd e.symm (k.2 j (by omega))⟩, by omega⟩
    · rw [vi_u_o e]
      refine ⟨⟨fun k => ⟨(ih.mp k).1, fun w hw => ?_⟩, fun k => ih.mpr ⟨k.1, fun w hw => k.2 w (by omega)⟩⟩, ihp⟩
      by_cases q : w = j
      · rw [q]; exact fun k => e k.symm
      · exact (ih.mp k).2 w (by omega)
theorem mHa_on {M : vi_M} (hB : mBx M) {a : Nat} {u v : Int} (ha : a < 3) (hu : 0 ≤ u ∧ u < 6) (hv : 0 ≤ v ∧ v < 6) {c : Nat} (hc : mIc M (c : Int)) : (∀ w : Nat, w < (M 114 (96 + a)).toNat → (mHa a u v (w : Int)).toNat ≠ c) ↔ sLn (a : Int) u v c = false := by
  obtain ⟨⟨b1, b2⟩, ⟨b3, b4⟩, b5, b6⟩ := hB
  obtain ⟨c1, c2, c3, c4, c5⟩ := hc
  unfold sLn mHa
  obtain rfl | rfl | rfl : a = 0 ∨ a = 1 ∨ a = 2 := by omega
  · simp
    constructor
    · intro h k; have := h (c % 6) (by omega); omega
    · intro h w hw k; omega
  · simp
    constructor
    · intro h k; have := h (c / 6 % 6) (by omega); omega
    · intro h w hw k; omega
  · simp
    constructor
    · intro h k; have := h (c / 36) (by omega); omega
    · intro h w hw k; omega
/-- a line by its number in the list, or none -/
def lnO (M : vi_M) (x : Int) : Prop := x = -1 ∨ ∃ l a : Nat, x = (l : Int) ∧ l < 108 ∧ M 130 l = (a : Int) ∧ mIp M (a : Int) (M 131 l) (M 132 l)
def lnT (M : vi_M) (x : Int) (S : Nat → Bool) : Nat → Bool := if x = -1 then S else sDif S (sLn (M 130 x.toNat) (M 131 x.toNat) (M 132 x.toNat))
def pkO (M : vi_M) (x : Int) (r : Nat → Int) : Nat → Int := if x = -1 then r else pkR r (M 130 x.toNat).toNat (M 131 x.toNat) (M 132 x.toNat) (M 114 (96 + (M 130 x.toNat).toNat)).toNat
theorem pkO_r {M : vi_M} (hB : mBx M) {x : Int} (hx : lnO M x) {r : Nat → Int} {B : Int} (h : ∀ c, c < 216 → 0 ≤ r c ∧ r c ≤ B) : ∀ c, c < 216 → 0 ≤ pkO M x r c ∧ pkO M x r c ≤ B + 6 := by
  intro c hc
  unfold pkO
  split
  · have := h c hc; omega
  · rcases hx with rfl | ⟨l, a, rfl, hl, ha, hp⟩
    · omega
    · rw [Int.toNat_natCast, ha, Int.toNat_natCast]
      have := mSz hB (a := a) (by have := hp.2.1; omega)
      have := pkR_r (a := a) (u := M 131 l) (v := M 132 l) h (M 114 (96 + a)).toNat c hc
      omega
theorem pkO_0 {M : vi_M} (hB : mBx M) {x : Int} (hx : lnO M x) {r : Nat → Int} (h : ∀ c, c < 216 → 0 ≤ r c) {c : Nat} (hc : mIc M (c : Int)) (S : Nat → Bool) : (decide (pkO M x r c = 0) && S c) = lnT M x (fun c => decide (r c = 0) && S c) c := by
  unfold pkO lnT
  split
  · rfl
  · rcases hx with rfl | ⟨l, a, rfl, hl, ha, hp⟩
    · omega
    · rw [Int.toNat_natCast, ha, Int.toNat_natCast]
      obtain ⟨qa, qu, qv⟩ := mIp_r hB hp
      have h1 := (pkR_0 (a := a) (u := M 131 l) (v := M 132 l) h (M 114 (96 + a)).toNat c (by have := hc.2.1; omega)).1
      rw [mHa_on hB (by omega) qu qv hc] at h1
      unfold sDif
      dsimp only
      cases hs : sLn (a : Int) (M 131 l) (M 132 l) c
      · rw [hs] at h1
        by_cases q : r c = 0
        · rw [decide_eq_true q, decide_eq_true (h1.mpr ⟨q, rfl⟩)]; simp
        · rw [decide_eq_false q, decide_eq_false (fun k => q (h1.mp k).1)]; simp
      · rw [hs] at h1
        rw [decide_eq_false (fun k => by have := (h1.mp k).2; cases this)]; simp
/-- what an end changes -/
theorem nar_1 : vi_nar 4 1 = 1 := by decide
theorem nar_0 : vi_nar 4 0 = 0 := by decide
def mFe (M M' : vi_M) : Prop := (∀ p, p ≠ 112 → p ≠ 123 → ¬ (128 ≤ p ∧ p ≤ 129) → ¬ (133 ≤ p ∧ p ≤ 135) → M' p = M p) ∧ ∀ k, k ≠ 19 → k ≠ 20 → k ≠ 21 → k ≠ 23 → k ≠ 24 → k ≠ 25 → M' 112 k = M 112 k
theorem mFe_r {M : vi_M} : mFe M M := ⟨fun _ _ _ _ _ => rfl, fun _ _ _ _ _ _ _ => rfl⟩
theorem mFe_t {M M1 M2 : vi_M} (h : mFe M M1) (h' : mFe M1 M2) : mFe M M2 := ⟨fun p h1 h2 h3 h4 => (h'.1 p h1 h2 h3 h4).trans (h.1 p h1 h2 h3 h4), fun k h1 h2 h3 h4 h5 h6 => (h'.2 k h1 h2 h3 h4 h5 h6).trans (h.2 k h1 h2 h3 h4 h5 h6)⟩
theorem mFe_x {M M' : vi_M} (h : mFe M M') : mFx M M' := ⟨fun p h1 h2 h3 h4 => h.1 p h1 (by omega) (by omega) (by omega), fun k h1 h2 h3 h4 h5 h6 _ => h.2 k h1 h2 h3 h4 h5 h6⟩
theorem mFe_114 {M M' : vi_M} (h : mFe M M') : M' 114 = M 114 := h.1 114 (by omega) (by omega) (by omega) (by omega)
theorem mFe_s {M M' : vi_M} {lw : Option (List gCla)} {n : Nat} (h : mFe M M') (hs : mSee M lw n) : mSee M' lw n :=
  mSee_c hs (mFe_114 h) (h.1 _ (by omega) (by omega) (by omega) (by omega)) (h.1 _ (by omega) (by omega) (by omega) (by omega)) (h.1 _ (by omega) (by omega) (by omega) (by omega)) (h.1 _ (by omega) (by omega) (by omega) (by omega)) (by rw [h.2 30 (by omega) (by omega) (by omega) (by omega) (by omega) (by omega), h.2 1 (by omega) (by omega) (by omega) (by omega) (by omega) (by omega)]; exact hs.2.2.1)
theorem mFe_p {M M' : vi_M} (h : ∀ p, ¬ (128 ≤ p ∧ p ≤ 129) → ¬ (133 ≤ p ∧ p ≤ 135) → M' p = M p) : mFe M M' := ⟨fun p _ _ h3 h4 => h p h3 h4, fun k _ _ _ _ _ _ => by rw [h 112 (by omega) (by omega)]⟩
theorem mLf_0 {M : vi_M} {lw : Option (List gCla)} {n c : Nat} : (decide (mAt (M 114) (c : Int) n = 0) && (mIcb (M 114) (c : Int) && !(mT M (c : Int) 0 lw).1)) = mLf M lw n c := by
  unfold mLf
  by_cases q : mAt (M 114) (c : Int) n = 0
  · rw [q]; simp
  · rw [decide_eq_false q]; simp
theorem lnT_c {M : vi_M} {x : Int} {S T : Nat → Bool} (h : ∀ c, c < 216 → S c = T c) : ∀ c, c < 216 → lnT M x S c = lnT M x T c := fun c hc => by
  unfold lnT
  split
  · exact h c hc
  · unfold sDif; rw [h c hc]
theorem lnT_p {M : vi_M} {x : Int} {S T : Nat → Bool} {c : Nat} (h : S c = T c) : lnT M x S c = lnT M x T c := by
  unfold lnT
  split
  · exact h
  · unfold sDif; rw [h]
theorem lnT_i {M : vi_M} {x : Int} {S : Nat → Bool} {c : Nat} (h : lnT M x S c = true) : S c = true := by
  unfold lnT at h
  split at h
  · exact h
  · unfold sDif at h; simp at h; exact h.1
section
variable {D : Nat} {K : Option vi_V → vi_W → Prop} {Y : vi_Y} {M : vi_M} {nn : Nat × Nat} {Q : Option vi_V → vi_W → Prop}
theorem h_313 (hY : kY Y 151) (hB : mBx M) {x : Int} (hx : lnO M x) (hr : ∀ c, c < 216 → 0 ≤ M 133 c ∧ M 133 c ≤ 1000) (hD : 2 ≤ D) : vi_call GG D 313 [.inr (.inr 112), .inl x] (Y, M, nn) K ↔ K none (Y, vi_rs M 133 (pkO M x (M 133)), nn) := by
  unfold pkO
  rcases hx with rfl | ⟨l, a, rfl, hl, ha, hp⟩
  · rw [if_pos rfl, vi_rs_id rfl]
    exact k_313n hY (by omega)
  · rw [if_neg (by omega), Int.toNat_natCast, ha, Int.toNat_natCast]
    exact k_313 hY hB hl ha rfl rfl hp hr hD
/-- the set with so many holes more -/
theorem h_314 (hY : kY Y 151) {lw : Option (List gCla)} {T : Nat → Bool} {x y g m : Int} (hB : mBx M) (hday : 0 ≤ M 114 99 ∧ M 114 99 ≤ 99) (hL : mLw M lw) (hr : ∀ c, c < 216 → 0 ≤ M 133 c)
    (hT : ∀ c, c < 216 → T c = (decide (M 133 c = 0) && (mIcb (M 114) (c : Int) && !(mT M (c : Int) 0 lw).1))) (hD : 45 ≤ D)
    (ih : ∀ M' : vi_M, mFe M M' → (∀ c, c < 216 → M' 134 c = vi_b (T c)) → vi_ok GG D 314 128 [some (.inr (.inr 112)), some (.inl x), some (.inl y), some (.inl g), some (.inl m), some (.inl 216)] [] (Y, M', nn) Q) :
    ∀ c : Nat, c ≤ 216 → ∀ M' : vi_M, mFe M M' → M' 133 = M 133 → (∀ j, j < c → M' 134 j = vi_b (T j)) → vi_ok GG D 314 44 [some (.inr (.inr 112)), some (.inl x), some (.inl y), some (.inl g), some (.inl m), some (.inl (c : Int))] [] (Y, M', nn) Q := by
  obtain ⟨R1, -, R3, -, -, -, -, -, -, -, -, -, -, R27, R28, R29, R31, R32, R33, R34, R35, R36, R37, R38, -⟩ := y_112 hY (by omega)
  obtain ⟨u1, u2⟩ := y_133 hY (by omega)
  obtain ⟨v1, v2⟩ := y_134 hY (by omega)
  refine vi_dn (P := fun c => ∀ M' : vi_M, mFe M M' → M' 133 = M 133 → (∀ j, j < c → M' 134 j = vi_b (T j)) → vi_ok GG D 314 44 [some (.inr (.inr 112)), some (.inl x), some (.inl y), some (.inl g), some (.inl m), some (.inl (c : Int))] [] (Y, M', nn) Q) 216 ?_ fun c hc ihc => ?_
  · intro M' hf _ h134
    have := ih M' hf h134
    rw [s_314_44]
    clear ih
    simp (disch := omega) only [Option.toList_some, Option.toList_none, List.nil_append, List.cons_append, List.append_nil, true_and, and_true, not_true_eq_false, not_false_eq_true, true_implies, false_implies, implies_true, and_self, Int.reduceLT, Int.reduceLE, Int.reduceEq, Int.reduceNe, Int.reduceAdd, Int.reduceSub, Int.reduceMul, Int.reduceNeg, Int.reduceToNat, Int.toNat_natCast, ↓kk_ck, ↓kk_im, ↓kk_in]
    exact this
  · intro M' hf e133 h134
    clear ih
    have e114 := mFe_114 hf
    have hTc := hT c hc
    have step : ∀ (b : Bool) (M2 : vi_M), mFe M M2 → M2 133 = M 133 → (∀ j, j < c → M2 134 j = vi_b (T j)) → b = T c → vi_ok GG D 314 122 [some (.inr (.inr 112)), some (.inl x), some (.inl y), some (.inl g), some (.inl m), some (.inl (c : Int))] [] (Y, vi_rs M2 134 (vi_u (M2 134) c (vi_b b)), nn) Q := by
      intro b M2 h1 h2 h3 h4
      have := ihc (vi_rs M2 134 (vi_u (M2 134) c (vi_b b))) (mFe_t h1 (mFe_p fun p _ h => vi_rs_o (by omega))) (by rw [vi_rs_o (by omega)]; exact h2) (fun j hj => by
        rw [vi_rs_s]
        by_cases e : j = c
        · rw [e, vi_u_s, h4]
        · rw [vi_u_o e]; exact h3 j (by omega))
      clear ihc
      simp (disch := omega) only [Option.toList_some, Option.toList_none, List.nil_append, List.cons_append, List.append_nil, true_and, and_true, not_true_eq_false, not_false_eq_true, true_implies, false_implies, implies_true, and_self, Int.reduceLT, Int.reduceLE, Int.reduceEq, Int.reduceNe, Int.reduceAdd, Int.reduceSub, Int.reduceMul, Int.reduceNeg, Int.reduceToNat, Int.toNat_natCast, ↓kk_ck, ↓kk_im, ↓kk_in, s_314_122, vi_inc]
      exact this
    clear ihc
    have fa : ∀ M2 : vi_M, mFe M M2 → M2 133 = M 133 → (∀ j, j < c → M2 134 j = vi_b (T j)) → T c = false → vi_ok GG D 314 82 [some (.inr (.inr 112)), some (.inl x), some (.inl y), some (.inl g), some (.inl m), some (.inl (c : Int))] [.inl 0, .inl (c : Int), .inr (.inr 134)] (Y, M2, nn) Q := by
      intro M2 h1 h2 h3 h4
      have := step false M2 h1 h2 h3 h4.symm
      clear step
      simp (disch := omega) only [Option.toList_some, Option.toList_none, List.nil_append, List.cons_append, List.append_nil, true_and, and_true, not_true_eq_false, not_false_eq_true, true_implies, false_implies, implies_true, and_self, Int.reduceLT, Int.reduceLE, Int.reduceEq, Int.reduceNe, Int.reduceAdd, Int.reduceSub, Int.reduceMul, Int.reduceNeg, Int.reduceToNat, Int.toNat_natCast, ↓kk_ck, ↓kk_im, ↓kk_in, s_314_82, s_314_83, s_314_87, s_314_90, s_314_93, R1, R37, v1, v2, Int.toNat_natCast, vi_ms_rs, vi_rs_s, vi_u_s, nar_0, ne_eq]
      exact this
    by_cases q1 : mIc M (c : Int)
    · have q1b : mIcb (M 114) (c : Int) = true := by unfold mIcb; exact decide_eq_true q1
      have q1' := mIc_c e114 q1
      by_cases q2 : M 133 c = 0
      · rw [decide_eq_true q2, q1b, Bool.true_and, Bool.true_and] at hTc
        have asks : vi_call GG D 291 [.inr (.inr 112), .inl (c : Int), .inl 0] (Y, vi_rs M' 134 (vi_u (M' 134) c 1), nn) (fun r w' => vi_ok GG D 314 103 [some (.inr (.inr 112)), some (.inl x), some (.inl y), some (.inl g), some (.inl m), some (.inl (c : Int))] r.toList w' Q) := by
          have f114 : vi_rs M' 134 (vi_u (M' 134) c 1) 114 = M 114 := (vi_rs_o (by omega)).trans e114
          refine k_291u hY (mBx_c f114 hB) (mIc_c f114 q1) (by omega) (by rw [f114]; exact hday) (mLw_c f114 hL) (by omega) fun M3 g1 g2 _ g24 _ => ?_
          have hf3 : mFe M M3 := mFe_t hf (mFe_t (mFe_p (M' := vi_rs M' 134 (vi_u (M' 134) c 1)) fun p _ h => vi_rs_o (by omega)) ⟨fun p h1 h2 _ _ => g1 p h1 h2, g2⟩)
          have s3 : M3 134 = vi_u (M' 134) c 1 := by rw [g1 134 (by omega) (by omega), vi_rs_s]
          have t3 : M3 133 = M 133 := by rw [g1 133 (by omega) (by omega), vi_rs_o (by omega)]; exact e133
          have hst := step (T c) M3 hf3 t3 (fun j hj => by rw [s3, vi_u_o (by omega)]; exact h134 j hj) rfl
          rw [mT_c f114] at g24
          clear step fa
          cases hb : (mT M (c : Int) 0 lw).1
          · rw [hb] at hTc g24
            rw [hTc] at hst
            have g24' : M3 112 24 = 0 := g24
            simp (disch := omega) only [Option.toList_some, Option.toList_none, List.nil_append, List.cons_append, List.append_nil, true_and, and_true, not_true_eq_false, not_false_eq_true, true_implies, false_implies, implies_true, and_self, Int.reduceLT, Int.reduceLE, Int.reduceEq, Int.reduceNe, Int.reduceAdd, Int.reduceSub, Int.reduceMul, Int.reduceNeg, Int.reduceToNat, Int.toNat_natCast, ↓kk_ck, ↓kk_im, ↓kk_in, s_314_103, s_314_107, s_314_113, s_314_116, s_314_121, R1, R37, v1, v2, Int.toNat_natCast, g24', vi_ms_rs, nar_1, ne_eq]
            exact hst
          · rw [hb] at hTc g24
            rw [hTc] at hst
            have g24' : M3 112 24 = 1 := g24
            simp (disch := omega) only [Option.toList_some, Option.toList_none, List.nil_append, List.cons_append, List.append_nil, true_and, and_true, not_true_eq_false, not_false_eq_true, true_implies, false_implies, implies_true, and_self, Int.reduceLT, Int.reduceLE, Int.reduceEq, Int.reduceNe, Int.reduceAdd, Int.reduceSub, Int.reduceMul, Int.reduceNeg, Int.reduceToNat, Int.toNat_natCast, ↓kk_ck, ↓kk_im, ↓kk_in, s_314_103, s_314_107, s_314_113, s_314_120, s_314_121, R1, R37, v1, v2, Int.toNat_natCast, g24', vi_ms_rs, nar_0, ne_eq]
            exact hst
        rw [s_314_44]
        clear step fa
        simp (disch := omega) only [Option.toList_some, Option.toList_none, List.nil_append, List.cons_append, List.append_nil, true_and, and_true, not_true_eq_false, not_false_eq_true, true_implies, false_implies, implies_true, and_self, Int.reduceLT, Int.reduceLE, Int.reduceEq, Int.reduceNe, Int.reduceAdd, Int.reduceSub, Int.reduceMul, Int.reduceNeg, Int.reduceToNat, Int.toNat_natCast, ↓kk_ck, ↓kk_im, ↓kk_in, s_314_52, s_314_56, s_314_64, s_314_67, s_314_71, s_314_74, s_314_77, s_314_82, s_314_83, s_314_87, s_314_90, s_314_96, R1, R36, R37, u1, u2, v1, v2, k_246t hY q1', e133, q2, Int.toNat_natCast, vi_ms_rs, vi_rs_s, vi_u_s, nar_1, ne_eq]
        exact asks
      · have hF : T c = false := by rw [hTc, decide_eq_false q2, Bool.false_and]
        have := fa M' hf e133 h134 hF
        rw [s_314_44]
        clear step fa
        simp (disch := omega) only [Option.toList_some, Option.toList_none, List.nil_append, List.cons_append, List.append_nil, true_and, and_true, not_true_eq_false, not_false_eq_true, true_implies, false_implies, implies_true, and_self, Int.reduceLT, Int.reduceLE, Int.reduceEq, Int.reduceNe, Int.reduceAdd, Int.reduceSub, Int.reduceMul, Int.reduceNeg, Int.reduceToNat, Int.toNat_natCast, ↓kk_ck, ↓kk_im, ↓kk_in, s_314_52, s_314_56, s_314_64, s_314_67, s_314_71, s_314_74, s_314_81, R1, R36, R37, u1, u2, v1, v2, k_246t hY q1', e133, q2, Int.toNat_natCast, ne_eq]
        exact this
    · have q1b : mIcb (M 114) (c : Int) = false := by unfold mIcb; exact decide_eq_false q1
      have q1' : ¬ mIc M' (c : Int) := fun h => q1 (mIc_c e114.symm h)
      have hF : T c = false := by rw [hTc, q1b, Bool.false_and, Bool.and_false]
      have := fa M' hf e133 h134 hF
      rw [s_314_44]
      clear step fa
      simp (disch := omega) only [Option.toList_some, Option.toList_none, List.nil_append, List.cons_append, List.append_nil, true_and, and_true, not_true_eq_false, not_false_eq_true, true_implies, false_implies, implies_true, and_self, Int.reduceLT, Int.reduceLE, Int.reduceEq, Int.reduceNe, Int.reduceAdd, Int.reduceSub, Int.reduceMul, Int.reduceNeg, Int.reduceToNat, Int.toNat_natCast, ↓kk_ck, ↓kk_im, ↓kk_in, s_314_52, s_314_56, s_314_64, s_314_81, R1, R36, R37, u1, u2, v1, v2, k_246f hY q1', ne_eq]
      exact this
theorem k_314 (hY : kY Y 151) {lw : Option (List gCla)} {n : Nat} (hS : mKs M lw n) (hs : mSee M lw n) {x y : Int} (hx : lnO M x) (hy : lnO M y) {g m : Nat} (hg : g ≤ 2) (hm : m ≤ 216) (hD : 46 ≤ D)
    (hQ : ∀ M', mFe M M' → Q (some (.inl (vi_b (sCm (lnT M y (lnT M x (fun c => mLf M lw n c))) g m)))) (Y, M', nn)) : vi_call GG D 314 [.inr (.inr 112), .inl x, .inl y, .inl (g : Int), .inl (m : Int)] (Y, M, nn) Q := by
  obtain ⟨D, rfl⟩ : ∃ k, D = k + 1 := ⟨D - 1, by omega⟩
  obtain ⟨R1, -, R3, -, -, -, -, -, -, -, -, -, R26, R27, R28, R29, R31, R32, R33, R34, R35, R36, R37, R38, -⟩ := y_112 hY (by omega)
  obtain ⟨u1, u2⟩ := y_133 hY (by omega)
  obtain ⟨v1, v2⟩ := y_134 hY (by omega)
  obtain ⟨w1, w2⟩ := y_124 hY (by omega)
  obtain ⟨hB, hn, h292, hH, hday, hL, -⟩ := hS
  have hat : ∀ c : Nat, c < 216 → M 124 c = mAt (M 114) (c : Int) n := hs.2.2.2.1
  have hat2 : ∀ c : Nat, 0 ≤ mAt (M 114) (c : Int) n ∧ mAt (M 114) (c : Int) n ≤ 96 := fun c => by
    have := mAt_r (f := M 114) (c := (c : Int)) n hH
    omega
  generalize hT : lnT M y (lnT M x (fun c => mLf M lw n c)) = T at *
  have hTin : ∀ c : Nat, T c = true → mIc M (c : Int) := fun c h => by
    rw [← hT] at h
    have := lnT_i (lnT_i h)
    unfold mLf at this
    simp only [Bool.and_eq_true] at this
    exact mIcb_t this.1.1
  have last : ∀ M' : vi_M, mFe M M' → (∀ c, c < 216 → M' 134 c = vi_b (T c)) → vi_ok GG D 314 128 [some (.inr (.inr 112)), some (.inl x), some (.inl y), some (.inl (g : Int)), some (.inl (m : Int)), some (.inl 216)] [] (Y, M', nn) Q := by
    intro M' hf h134
    have eT := mB_b h134
    have e114 := mFe_114 hf
    have hin : ∀ c, c < 216 → M' 134 c ≠ 0 → mIc M' (c : Int) := fun c hc h => by
      refine mIc_c e114 (hTin c ?_)
      rw [h134 c hc] at h
      cases hh : T c
      · rw [hh] at h; exact absurd rfl h
      · rfl
    have hcm : sCm (mB (M' 134)) g m = sCm T g m := sCm_c eT
    rw [← hcm] at hQ
    clear hcm h134 hT hat hat2
    obtain rfl | rfl | rfl : g = 0 ∨ g = 1 ∨ g = 2 := by omega
    · have cont : vi_call GG D 315 [.inr (.inr 112)] (Y, M', nn) (fun r w' => vi_ok GG D 314 136 [some (.inr (.inr 112)), some (.inl x), some (.inl y), some (.inl 0), some (.inl (m : Int)), some (.inl 216)] r.toList w' Q) := by
        refine k_315 hY (mBx_c e114 hB) hin (by omega) fun M2 v f2 hv hN => ?_
        have hq := hQ M2 (mFe_t hf (mFe_p fun p h1 h2 => f2 p (by omega) (by omega)))
        have hN := hN m
        unfold sCm at hq
        rw [if_pos rfl] at hq
        clear hQ
        cases hb : sE (sIt m (mB (M' 134)))
        · rw [hb] at hN hq
          have h1 : (m : Int) < v := by
            have : ¬ v ≤ (m : Int) := fun k => by have := hN.mp k; cases this
            omega
          simp (disch := omega) only [Option.toList_some, Option.toList_none, List.nil_append, List.cons_append, List.append_nil, true_and, and_true, not_true_eq_false, not_false_eq_true, true_implies, false_implies, implies_true, and_self, Int.reduceLT, Int.reduceLE, Int.reduceEq, Int.reduceNe, Int.reduceAdd, Int.reduceSub, Int.reduceMul, Int.reduceNeg, Int.reduceToNat, Int.toNat_natCast, ↓kk_ck, ↓kk_im, ↓kk_in, s_314_136, s_314_145, s_314_193]
          exact hq
        · rw [hb] at hN hq
          have h1 : v ≤ (m : Int) := hN.mpr rfl
          simp (disch := omega) only [Option.toList_some, Option.toList_none, List.nil_append, List.cons_append, List.append_nil, true_and, and_true, not_true_eq_false, not_false_eq_true, true_implies, false_implies, implies_true, and_self, Int.reduceLT, Int.reduceLE, Int.reduceEq, Int.reduceNe, Int.reduceAdd, Int.reduceSub, Int.reduceMul, Int.reduceNeg, Int.reduceToNat, Int.toNat_natCast, ↓kk_ck, ↓kk_im, ↓kk_in, s_314_136, s_314_141, s_314_193]
          exact hq
      clear hQ
      simp (disch := omega) only [Option.toList_some, Option.toList_none, List.nil_append, List.cons_append, List.append_nil, true_and, and_true, not_true_eq_false, not_false_eq_true, true_implies, false_implies, implies_true, and_self, Int.reduceLT, Int.reduceLE, Int.reduceEq, Int.reduceNe, Int.reduceAdd, Int.reduceSub, Int.reduceMul, Int.reduceNeg, Int.reduceToNat, Int.toNat_natCast, ↓kk_ck, ↓kk_im, ↓kk_in, s_314_128, s_314_132, R1, ne_eq]
      exact cont
    · have cont : vi_call GG D 310 [.inr (.inr 112), .inr (.inr 134)] (Y, M', nn) (fun r w' => vi_ok GG D 314 162 [some (.inr (.inr 112)), some (.inl x), some (.inl y), some (.inl 1), some (.inl (m : Int)), some (.inl 216)] r.toList w' Q) := by
        refine k_310 hY (mBx_c e114 hB) ⟨v1, v2⟩ (by omega) (by omega) hin (by omega) fun M2 f2 _ => ?_
        have hq := hQ M2 (mFe_t hf (mFe_p fun p h1 h2 => f2 p (by omega) (by omega)))
        unfold sCm at hq
        rw [if_neg (by omega), if_pos rfl] at hq
        clear hQ
        by_cases h : m ≤ sPc 216 (mB (M' 134))
        · rw [decide_eq_true h] at hq
          simp (disch := omega) only [Option.toList_some, Option.toList_none, List.nil_append, List.cons_append, List.append_nil, true_and, and_true, not_true_eq_false, not_false_eq_true, true_implies, false_implies, implies_true, and_self, Int.reduceLT, Int.reduceLE, Int.reduceEq, Int.reduceNe, Int.reduceAdd, Int.reduceSub, Int.reduceMul, Int.reduceNeg, Int.reduceToNat, Int.toNat_natCast, ↓kk_ck, ↓kk_im, ↓kk_in, s_314_162, s_314_167, s_314_193]
          exact hq
        · rw [decide_eq_false h] at hq
          simp (disch := omega) only [Option.toList_some, Option.toList_none, List.nil_append, List.cons_append, List.append_nil, true_and, and_true, not_true_eq_false, not_false_eq_true, true_implies, false_implies, implies_true, and_self, Int.reduceLT, Int.reduceLE, Int.reduceEq, Int.reduceNe, Int.reduceAdd, Int.reduceSub, Int.reduceMul, Int.reduceNeg, Int.reduceToNat, Int.toNat_natCast, ↓kk_ck, ↓kk_im, ↓kk_in, s_314_162, s_314_171, s_314_193]
          exact hq
      clear hQ
      simp (disch := omega) only [Option.toList_some, Option.toList_none, List.nil_append, List.cons_append, List.append_nil, true_and, and_true, not_true_eq_false, not_false_eq_true, true_implies, false_implies, implies_true, and_self, Int.reduceLT, Int.reduceLE, Int.reduceEq, Int.reduceNe, Int.reduceAdd, Int.reduceSub, Int.reduceMul, Int.reduceNeg, Int.reduceToNat, Int.toNat_natCast, ↓kk_ck, ↓kk_im, ↓kk_in, s_314_128, s_314_149, s_314_154, s_314_159, R1, R37, ne_eq]
      exact cont
    · have k297 := fun {D : Nat} {K : Option vi_V → vi_W → Prop} (hD : 1 ≤ D) => @k_297 D K Y M' nn 134 ⟨v1, v2⟩ hD
      rw [mNum_e] at k297
      have hq := hQ M' hf
      unfold sCm at hq
      rw [if_neg (by omega), if_neg (by omega)] at hq
      clear hQ
      by_cases h : sN 216 (mB (M' 134)) = m
      · rw [decide_eq_true h] at hq
        have h' : (sN 216 (mB (M' 134)) : Int) = (m : Int) := by omega
        simp (disch := omega) only [Option.toList_some, Option.toList_none, List.nil_append, List.cons_append, List.append_nil, true_and, and_true, not_true_eq_false, not_false_eq_true, true_implies, false_implies, implies_true, and_self, Int.reduceLT, Int.reduceLE, Int.reduceEq, Int.reduceNe, Int.reduceAdd, Int.reduceSub, Int.reduceMul, Int.reduceNeg, Int.reduceToNat, Int.toNat_natCast, ↓kk_ck, ↓kk_im, ↓kk_in, s_314_128, s_314_149, s_314_175, s_314_180, s_314_183, s_314_188, s_314_193, R1, R37, k297, h', ne_eq]
        exact hq
      · rw [decide_eq_false h] at hq
        have h' : ¬ (sN 216 (mB (M' 134)) : Int) = (m : Int) := by omega
        simp (disch := omega) only [Option.toList_some, Option.toList_none, List.nil_append, List.cons_append, List.append_nil, true_and, and_true, not_true_eq_false, not_false_eq_true, true_implies, false_implies, implies_true, and_self, Int.reduceLT, Int.reduceLE, Int.reduceEq, Int.reduceNe, Int.reduceAdd, Int.reduceSub, Int.reduceMul, Int.reduceNeg, Int.reduceToNat, Int.toNat_natCast, ↓kk_ck, ↓kk_im, ↓kk_in, s_314_128, s_314_149, s_314_175, s_314_180, s_314_183, s_314_192, s_314_193, R1, R37, k297, h', ne_eq]
        exact hq
  have first : ∀ c : Nat, c ≤ 216 → vi_ok GG D 314 3 [some (.inr (.inr 112)), some (.inl x), some (.inl y), some (.inl (g : Int)), some (.inl (m : Int)), some (.inl (c : Int))] [] (Y, vi_rs M 133 (vi_m c (M 124) (M 133)), nn) Q := by
    refine vi_dn 216 ?_ fun c hc ih => ?_
    · generalize hM1 : vi_rs M 133 (vi_m 216 (M 124) (M 133)) = M1
      have o1 : ∀ p, p ≠ 133 → M1 p = M p := fun p hp => by rw [← hM1, vi_rs_o hp]
      have s1 : ∀ c : Nat, c < 216 → M1 133 c = mAt (M 114) (c : Int) n := fun c hc => by rw [← hM1, vi_rs_s, vi_m_lt hc]; exact hat c hc
      have b1 := mBx_c (o1 114 (by omega)) hB
      have ln : ∀ {M' : vi_M}, (∀ p, p ≠ 133 → M' p = M p) → ∀ {z : Int}, lnO M z → lnO M' z := fun {M'} ho {z} h => by
        rcases h with h | ⟨l, a, h1, h2, h3, h4⟩
        · exact .inl h
        · refine .inr ⟨l, a, h1, h2, by rw [ho _ (by omega)]; exact h3, ?_⟩
          unfold mIp at h4 ⊢
          rw [ho _ (by omega), ho _ (by omega), ho _ (by omega)]; exact h4
      have pk : ∀ {M' : vi_M}, (∀ p, p ≠ 133 → M' p = M p) → ∀ {z : Int} {r : Nat → Int}, pkO M' z r = pkO M z r := fun {M'} ho {z r} => by
        unfold pkO
        rw [ho _ (by omega), ho _ (by omega), ho _ (by omega), ho _ (by omega)]
      have B1 : ∀ c, c < 216 → 0 ≤ M1 133 c ∧ M1 133 c ≤ 96 := fun c hc => by rw [s1 c hc]; exact hat2 c
      have B2 := pkO_r hB hx B1
      have B3 := pkO_r hB hy B2
      have k1 := fun {D : Nat} {K : Option vi_V → vi_W → Prop} (hD : 2 ≤ D) => @h_313 D K Y M1 nn hY b1 x (ln o1 hx) (fun c hc => by have := B1 c hc; omega) hD
      rw [pk o1] at k1
      generalize hM2 : vi_rs M1 133 (pkO M x (M1 133)) = M2 at *
      have o2 : ∀ p, p ≠ 133 → M2 p = M p := fun p hp => by rw [← hM2, vi_rs_o hp]; exact o1 p hp
      have s2 : M2 133 = pkO M x (M1 133) := by rw [← hM2, vi_rs_s]
      have k2 := fun {D : Nat} {K : Option vi_V → vi_W → Prop} (hD : 2 ≤ D) => @h_313 D K Y M2 nn hY (mBx_c (o2 114 (by omega)) hB) y (ln o2 hy) (fun c hc => by rw [s2]; have := B2 c hc; omega) hD
      rw [pk o2, s2] at k2
      generalize hM3 : vi_rs M2 133 (pkO M y (pkO M x (M1 133))) = M3 at *
      have o3 : ∀ p, p ≠ 133 → M3 p = M p := fun p hp => by rw [← hM3, vi_rs_o hp]; exact o2 p hp
      have s3 : M3 133 = pkO M y (pkO M x (M1 133)) := by rw [← hM3, vi_rs_s]
      have e114 : M3 114 = M 114 := o3 114 (by omega)
      have hf3 : mFe M M3 := mFe_p fun p _ h => o3 p (by omega)
      have go := h_314 (Q := Q) (D := D) (nn := nn) (M := M3) (lw := lw) (T := T) (x := x) (y := y) (g := (g : Int)) (m := (m : Int)) hY (mBx_c e114 hB) (by rw [e114]; exact hday) (mLw_c e114 hL) (fun c hc => by rw [s3]; exact (B3 c hc).1) (fun c hc => by
        rw [s3, e114, mT_c e114]
        by_cases hic : mIc M (c : Int)
        · have a1 := pkO_0 hB hy (fun c hc => (B2 c hc).1) hic (fun c => mIcb (M 114) (c : Int) && !(mT M (c : Int) 0 lw).1)
          have a2 := pkO_0 hB hx (fun c hc => (B1 c hc).1) hic (fun c => mIcb (M 114) (c : Int) && !(mT M (c : Int) 0 lw).1)
          rw [← hT]
          refine (a1.trans (lnT_p (a2.trans (lnT_p ?_)))).symm
          show (decide (M1 133 c = 0) && (mIcb (M 114) (c : Int) && !(mT M (c : Int) 0 lw).1)) = mLf M lw n c
          rw [s1 c hc]
          exact mLf_0
        · have hi : mIcb (M 114) (c : Int) = false := by unfold mIcb; exact decide_eq_false hic
          rw [hi, Bool.false_and, Bool.and_false]
          cases hh : T c
          · rfl
          · exact absurd (hTin c hh) hic) (by omega) (fun M' hf h134 => last M' (mFe_t hf3 hf) h134) 0 (by omega) M3 mFe_r rfl (fun j hj => by omega)
      rw [show ((0 : Nat) : Int) = 0 from rfl] at go
      rw [s_314_3]
      clear last hQ B1 B2 B3 hM1 hM2 hM3 s1 s2 s3 hat hat2 hT
      simp (disch := omega) only [Option.toList_some, Option.toList_none, List.nil_append, List.cons_append, List.append_nil, true_and, and_true, not_true_eq_false, not_false_eq_true, true_implies, false_implies, implies_true, and_self, Int.reduceLT, Int.reduceLE, Int.reduceEq, Int.reduceNe, Int.reduceAdd, Int.reduceSub, Int.reduceMul, Int.reduceNeg, Int.reduceToNat, Int.toNat_natCast, ↓kk_ck, ↓kk_im, ↓kk_in, s_314_31, s_314_36, s_314_41, R1, k1, k2]
      exact go
    · rw [s_314_3]
      clear last hQ hat hat2 hT
      have i124 : vi_rs M 133 (vi_m c (M 124) (M 133)) 124 = M 124 := vi_rs_o (by omega)
      simp (disch := omega) only [Option.toList_some, Option.toList_none, List.nil_append, List.cons_append, List.append_nil, true_and, and_true, not_true_eq_false, not_false_eq_true, true_implies, false_implies, implies_true, and_self, Int.reduceLT, Int.reduceLE, Int.reduceEq, Int.reduceNe, Int.reduceAdd, Int.reduceSub, Int.reduceMul, Int.reduceNeg, Int.reduceToNat, Int.toNat_natCast, ↓kk_ck, ↓kk_im, ↓kk_in, s_314_11, s_314_15, s_314_21, s_314_24, s_314_25, R1, R26, R36, u1, u2, w1, w2, i124, Int.toNat_natCast, vi_ms_rs, vi_rs_s, vi_rs_rs, vi_inc]
      rw [vi_m_s rfl]
      exact ih
  have := first 0 (by omega)
  rw [vi_m_0, vi_rs_id rfl] at this
  clear first last hQ
  rw [e_314, s_314_0]
  exact this
end
