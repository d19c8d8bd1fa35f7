/-! Pieces: a flood over the box (reference). -/
def mB (f : Nat → Int) : Nat → Bool := fun c => decide (f c ≠ 0)
theorem mB_t {f : Nat → Int} {c : Nat} (h : f c ≠ 0) : mB f c = true := decide_eq_true h
theorem mB_f {f : Nat → Int} {c : Nat} (h : f c = 0) : mB f c = false := decide_eq_false (fun k => k h)
theorem mBe_c {M M' : vi_M} (h : M' 114 = M 114) {c : Int} {d : Nat} : mBe M' c d = mBe M c d := by unfold mBe; rw [h]
theorem mBe_A {M : vi_M} (hB : mBx M) {c b : Nat} (hc : mIc M (c : Int)) {d : Nat} (hd : d < 6) (h : mBe M (c : Int) d = (b : Int)) : sA c b := by
  obtain ⟨⟨b1, b2⟩, ⟨b3, b4⟩, b5, b6⟩ := hB
  obtain ⟨c1, c2, c3, c4, c5⟩ := hc
  unfold sA
  unfold mBe mAl at h
  obtain rfl | rfl | rfl | rfl | rfl | rfl : d = 0 ∨ d = 1 ∨ d = 2 ∨ d = 3 ∨ d = 4 ∨ d = 5 := by omega
  all_goals
    simp at h
    first
    | (split at h <;> omega)
    | omega
theorem mBe_x {M : vi_M} {c b : Nat} (hc : mIc M (c : Int)) (hb : mIc M (b : Int)) (h : sA c b) : ∃ d, d < 6 ∧ mBe M (c : Int) d = (b : Int) := by
  obtain ⟨c1, c2, c3, c4, c5⟩ := hc
  obtain ⟨d1, d2, d3, d4, d5⟩ := hb
  unfold sA at h
  rcases h with ⟨h, rfl⟩ | ⟨h, rfl⟩ | ⟨h, rfl⟩ | ⟨h, rfl⟩ | ⟨h, rfl⟩ | ⟨h, rfl⟩
  · refine ⟨0, by omega, ?_⟩
    unfold mBe mAl
    simp
    first
    | (rw [if_neg (by omega)]; omega)
    | (intro _; omega)
  · refine ⟨1, by omega, ?_⟩
    unfold mBe mAl
    simp
    first
    | (rw [if_neg (by omega)])
    | (intro _; omega)
  · refine ⟨2, by omega, ?_⟩
    unfold mBe mAl
    simp
    first
    | (rw [if_neg (by omega)]; omega)
    | (intro _; omega)
  · refine ⟨3, by omega, ?_⟩
    unfold mBe mAl
    simp
    first
    | (rw [if_neg (by omega)])
    | (intro _; omega)
  · refine ⟨4, by omega, ?_⟩
    unfold mBe mAl
    simp
    first
    | (rw [if_neg (by omega)]; omega)
    | (intro _; omega)
  · refine ⟨5, by omega, ?_⟩
    unfold mBe mAl
    simp
    first
    | (rw [if_neg (by omega)])
    | (intro _; omega)
theorem gDs_K {F : Nat → Bool} {t : Nat} {D : Nat → Int} (ht : t < 216) (h : gDs F t D) : ∀ c, c < 216 → (D c ≠ -1 ↔ sK F t c = true) := by
  obtain ⟨h1, h2, h3, h4, h5⟩ := h
  intro c hc
  rw [sK_iff]
  constructor
  · have key : ∀ (k : Nat) (c : Nat), c < 216 → D c = (k : Int) → sCl F t c := by
      intro k
      induction k with
      | zero => intro c hc e; rw [h2 c hc e]; exact sCl_r
      | succ k ih =>
        intro c hc e
        obtain ⟨b, hb, hs, e2⟩ := h4 c hc (by omega)
        exact sCl_s (ih b hb (by omega)) (sA_sym hc hs) (h3 c hc (by omega)).1
    intro hn
    have := h3 c hc hn
    exact key (D c).toNat c hc (by omega)
  · intro hk
    have := hk (fun c => c < 216 ∧ D c ≠ -1) ⟨ht, by rw [h1]; omega⟩ (fun x y ⟨hx, hn⟩ hxy hy => ⟨sA_lt hx hxy, (h5 x y hx hn hxy hy).1⟩)
    exact this.2
theorem sLb_n : ∀ (f k : Nat) (T : Nat → Bool) (x : Nat), x < 216 → T x = false → sLb f k T x = -1
  | 0, _, _, _, _, _ => rfl
  | f + 1, k, T, x, hx, h => by
    rw [sLb]
    cases he : sE T
    · rw [if_neg (by simp)]
      obtain ⟨j, h1, h2, h3, h4⟩ := sE_n he
      rw [h4, Int.toNat_natCast, if_neg (fun hk => by rw [sCl_in h2 (sK_iff.mp hk)] at h; cases h)]
      refine sLb_n f (k + 1) (sTl T) x hx ?_
      unfold sTl sDif
      rw [h, Bool.false_and]
    · rw [if_pos rfl]
/-- where a numbering of pieces stands: k of them are done, T is what is left, L the numbers -/
def pO (S T : Nat → Bool) (k : Nat) (L : Nat → Int) : Prop :=
  (∀ x, x < 216 → (T x = true ↔ S x = true ∧ L x = -1)) ∧ sPc 216 S = k + sPc (216 - k) T ∧ (∀ x, x < 216 → sLb 216 0 S x = if T x = true then sLb (216 - k) k T x else L x) ∧ k + sN 216 T ≤ 216
theorem pO_0 {S : Nat → Bool} {L : Nat → Int} (h : ∀ x, x < 216 → L x = -1) : pO S S 0 L := by
  refine ⟨fun x hx => by rw [h x hx]; simp, by simp, fun x hx => ?_, by have := sN_le 216 S; omega⟩
  split
  · rfl
  · rename_i hs
    rw [h x hx]
    exact sLb_n _ _ _ _ hx (by simpa using hs)
theorem pO_e {S T : Nat → Bool} {k : Nat} {L : Nat → Int} (h : pO S T k L) (ht : ∀ x, x < 216 → T x = false) : sPc 216 S = k ∧ ∀ x, x < 216 → L x = sLb 216 0 S x := by
  obtain ⟨h1, h2, h3, h4⟩ := h
  constructor
  · rw [h2]
    have : ∀ f, sPc f T = 0 := fun f => by
      cases f with
      | zero => rfl
      | succ f => rw [sPc, if_pos (sE_iff.mpr ht)]
    rw [this]
    rfl
  · intro x hx
    rw [h3 x hx, if_neg (by rw [ht x hx]; simp)]
theorem pO_s {S T : Nat → Bool} {k : Nat} {L L' : Nat → Int} (h : pO S T k L) {c : Nat} (hc : c < 216) (hT : T c = true) (hlo : ∀ x, x < c → T x = false) (hL : ∀ x, x < 216 → L' x = if sK T c x = true then (k : Int) else L x) :
    k < 216 ∧ pO S (sTl T) (k + 1) L' ∧ ∀ x, x < c + 1 → sTl T x = false := by
  obtain ⟨h1, h2, h3, h4⟩ := h
  have he : sE T = false := by
    cases hh : sE T
    · rfl
    · have := sE_iff.mp hh c hc
      rw [this] at hT; cases hT
  obtain ⟨j, e1, e2, e3, e4⟩ := sE_n he
  obtain rfl : j = c := by
    rcases Nat.lt_trichotomy j c with q | q | q
    · rw [hlo j q] at e2; cases e2
    · exact q
    · rw [e3 c q] at hT; cases hT
  have elo : (sLo T).toNat = j := by rw [e4, Int.toNat_natCast]
  have hlt := sTl_lt he
  have eT : ∀ x, sTl T x = (T x && !sK T j x) := fun x => by unfold sTl sDif; rw [elo]
  have ef : 216 - k = (216 - (k + 1)) + 1 := by omega
  refine ⟨by omega, ⟨?_, ?_, ?_, by omega⟩, ?_⟩
  · intro x hx
    rw [eT x, hL x hx]
    cases hk : sK T j x
    · rw [if_neg (by simp), ← h1 x hx]; simp
    · rw [if_pos rfl]
      simp
  · rw [h2, ef, sPc, if_neg (by rw [he]; simp)]
    omega
  · intro x hx
    rw [h3 x hx, ef, sLb, if_neg (show ¬ sE T = true by rw [he]; simp), elo, hL x hx, eT x]
    cases ht : T x
    · have : sK T j x = false := by
        cases hk : sK T j x
        · rfl
        · rw [sCl_in e2 (sK_iff.mp hk)] at ht; cases ht
      rw [this]
      simp
    · cases hk : sK T j x <;> simp
  · intro x hx
    rw [eT x]
    by_cases q : x = j
    · rw [q, sK_iff.mpr sCl_r]; simp
    · rw [hlo x (by omega)]; rfl
section
variable {D : Nat} {K : Option vi_V → vi_W → Prop} {Y : vi_Y} {M : vi_M} {nn : Nat × Nat} {Q : Option vi_V → vi_W → Prop}
theorem sHas_n {F : Nat → Bool} {b : Nat} (hb : b < 216) : sHas F (b : Int) = F b := by
  unfold sHas
  rw [decide_eq_true (by omega), Bool.true_and, Int.toNat_natCast]
theorem sHas_m {F : Nat → Bool} : sHas F (-1) = false := by
  unfold sHas
  rw [decide_eq_false (by omega), Bool.false_and]
/-- the flood's inner loop -/
theorem h_310i (hY : kY Y 151) (hB : mBx M) {p : Nat} (hp : Y.1 p = 4 ∧ (Y.2.1 p : Int) = 216) (hp1 : p ≠ 128) (hp2 : p ≠ 129) (hin : ∀ c, c < 216 → M p c ≠ 0 → mIc M (c : Int)) (hD : 2 ≤ D) {T : Nat → Bool} {L : Nat → Int} {k c x y : Nat}
    (hT : ∀ b, b < 216 → (T b = true ↔ mB (M p) b = true ∧ L b = -1)) (hk : k < 216) (hy : y < 216) (hc : c < 216) (hx : x < 216) (hTy : T y = true)
    (ih : ∀ (s : bfT) (M' : vi_M) (l6 l7 : Option vi_V), bfI T c (x + 1) s → M' 129 = s.2.1 → (∀ b, b < 216 → M' 128 b = if s.2.2 b ≠ -1 then (k : Int) else L b) → (∀ q, q ≠ 128 → q ≠ 129 → M' q = M q) → vi_ok GG D 310 72 [some (.inr (.inr 112)), some (.inr (.inr p)), some (.inl (k : Int)), some (.inl (c : Int)), some (.inl (s.1 : Int)), some (.inl ((x + 1 : Nat) : Int)), l6, l7] [] (Y, M', nn) Q) :
    ∀ w : Nat, w ≤ 6 → ∀ (s : bfT) (M' : vi_M) (l7 : Option vi_V), bfI T c x s → x < s.1 → s.2.1 x = (y : Int) → 0 ≤ s.2.2 y → (∀ v, v < w → ∀ b : Nat, mBe M (y : Int) v = (b : Int) → T b = true → s.2.2 b ≠ -1 ∧ s.2.2 b ≤ s.2.2 y + 1) → M' 129 = s.2.1 → (∀ b, b < 216 → M' 128 b = if s.2.2 b ≠ -1 then (k : Int) else L b) → (∀ q, q ≠ 128 → q ≠ 129 → M' q = M q) → vi_ok GG D 310 82 [some (.inr (.inr 112)), some (.inr (.inr p)), some (.inl (k : Int)), some (.inl (c : Int)), some (.inl (s.1 : Int)), some (.inl (x : Int)), some (.inl (w : Int)), l7] [] (Y, M', nn) Q := by
  obtain ⟨R1, -, R3, -, -, -, -, -, -, -, -, -, -, R27, R28, R29, R31, R32, -⟩ := y_112 hY (by omega)
  obtain ⟨u1, u2⟩ := y_128 hY (by omega)
  obtain ⟨v1, v2⟩ := y_129 hY (by omega)
  obtain ⟨p1, p2⟩ := hp
  have hyS : mB (M p) y = true := ((hT y hy).mp hTy).1
  have hyc : mIc M (y : Int) := hin y hy (by unfold mB at hyS; simpa using hyS)
  refine vi_dn (P := fun w => ∀ (s : bfT) (M' : vi_M) (l7 : Option vi_V), bfI T c x s → x < s.1 → s.2.1 x = (y : Int) → 0 ≤ s.2.2 y → (∀ v, v < w → ∀ b : Nat, mBe M (y : Int) v = (b : Int) → T b = true → s.2.2 b ≠ -1 ∧ s.2.2 b ≤ s.2.2 y + 1) → M' 129 = s.2.1 → (∀ b, b < 216 → M' 128 b = if s.2.2 b ≠ -1 then (k : Int) else L b) → (∀ q, q ≠ 128 → q ≠ 129 → M' q = M q) → vi_ok GG D 310 82 [some (.inr (.inr 112)), some (.inr (.inr p)), some (.inl (k : Int)), some (.inl (c : Int)), some (.inl (s.1 : Int)), some (.inl (x : Int)), some (.inl (w : Int)), l7] [] (Y, M', nn) Q) 6 ?_ fun w hw ihw => ?_
  · intro s M' l7 hi hxs hcx hD0 hw e1 e2 e3
    have hi2 := bfI_s hi hxs hcx fun b hb hF => by
      have hb2 := sA_lt hy hb
      have hbS := ((hT b hb2).mp hF).1
      obtain ⟨v, hv, e⟩ := mBe_x hyc (hin b hb2 (by unfold mB at hbS; simpa using hbS)) hb
      exact hw v hv b e hF
    have := ih s M' (some (.inl 6)) l7 hi2 e1 e2 e3
    rw [s_310_82]
    clear ih
    simp (disch := omega) only [Option.toList_some, Option.toList_none, List.nil_append, List.cons_append, List.append_nil, true_and, and_true, not_true_eq_false, not_false_eq_true, true_implies, false_implies, implies_true, and_self, Int.reduceLT, Int.reduceLE, Int.reduceEq, Int.reduceNe, Int.reduceAdd, Int.reduceSub, Int.reduceMul, Int.reduceNeg, Int.reduceToNat, Int.toNat_natCast, ↓kk_ck, ↓kk_im, ↓kk_in, s_310_157, vi_inc]
    exact this
  · intro s M' l7 hi hxs hcx hD0 hw2 e1 e2 e3
    clear ih
    have e114 : M' 114 = M 114 := e3 114 (by omega) (by omega)
    have hA : sHas T (mBe M (y : Int) w) = true → sA y (mBe M (y : Int) w).toNat := fun h => by
      unfold sHas at h
      rw [Bool.and_eq_true, decide_eq_true_eq] at h
      exact mBe_A hB hyc hw (by omega)
    have st := bfR_i hi hxs hcx (b := mBe M (y : Int) w) hA
    have k248 := fun {K : Option vi_V → vi_W → Prop} => @k_248 D K Y M' nn hY (mBx_c e114 hB) (y : Int) w (mIc_c e114 hyc) hw hD
    rw [mBe_c e114] at k248
    have same : bfR T s (mBe M (y : Int) w) (s.2.2 y + 1) = s → ∀ l7, vi_ok GG D 310 82 [some (.inr (.inr 112)), some (.inr (.inr p)), some (.inl (k : Int)), some (.inl (c : Int)), some (.inl (s.1 : Int)), some (.inl (x : Int)), some (.inl ((w + 1 : Nat) : Int)), l7] [] (Y, M', nn) Q := by
      intro hs l7
      rw [hs] at st
      refine ihw s M' l7 hi hxs hcx hD0 (fun v hv b hb hF => ?_) e1 e2 e3
      by_cases e : v = w
      · rw [e] at hb
        have := st.2.2.2.2
        rw [hb, Int.toNat_natCast] at this
        refine this ?_
        have hb2 : b < 216 := by
          have := mBe_r hB hyc hw
          omega
        rw [sHas_n hb2]
        exact hF
      · exact hw2 v (by omega) b hb hF
    rcases mBe_r hB hyc hw with hm | hm
    · have := same (by unfold bfR; rw [hm, sHas_m]; simp) (some (.inl (-1)))
      rw [s_310_82]
      clear ihw same st
      simp (disch := omega) only [Option.toList_some, Option.toList_none, List.nil_append, List.cons_append, List.append_nil, true_and, and_true, not_true_eq_false, not_false_eq_true, true_implies, false_implies, implies_true, and_self, Int.reduceLT, Int.reduceLE, Int.reduceEq, Int.reduceNe, Int.reduceAdd, Int.reduceSub, Int.reduceMul, Int.reduceNeg, Int.reduceToNat, Int.toNat_natCast, ↓kk_ck, ↓kk_im, ↓kk_in, s_310_89, s_310_94, s_310_97, s_310_102, s_310_151, R1, R32, v1, v2, e1, hcx, k248, hm, vi_inc, ne_eq]
      exact this
    · obtain ⟨b, hb⟩ : ∃ b : Nat, mBe M (y : Int) w = (b : Int) := ⟨(mBe M (y : Int) w).toNat, by omega⟩
      have hb2 : b < 216 := by omega
      have ep : M' p = M p := e3 p hp1 hp2
      by_cases q : M p b = 0
      · have := same (by unfold bfR; rw [hb, sHas_n hb2, if_neg (fun h => by have := ((hT b hb2).mp h.1).1; rw [mB_f q] at this; cases this)]) (some (.inl (b : Int)))
        rw [s_310_82]
        clear ihw same st
        simp (disch := omega) only [Option.toList_some, Option.toList_none, List.nil_append, List.cons_append, List.append_nil, true_and, and_true, not_true_eq_false, not_false_eq_true, true_implies, false_implies, implies_true, and_self, Int.reduceLT, Int.reduceLE, Int.reduceEq, Int.reduceNe, Int.reduceAdd, Int.reduceSub, Int.reduceMul, Int.reduceNeg, Int.reduceToNat, Int.toNat_natCast, ↓kk_ck, ↓kk_im, ↓kk_in, s_310_89, s_310_94, s_310_97, s_310_102, s_310_110, s_310_114, s_310_151, R1, R32, v1, v2, p1, p2, e1, hcx, k248, hb, ep, q, Int.toNat_natCast, vi_inc, ne_eq]
        exact this
      · by_cases q2 : M' 128 b = -1
        · have q3 : s.2.2 b = -1 ∧ L b = -1 := by
            have := e2 b hb2
            rw [q2] at this
            split at this
            · omega
            · rename_i h
              exact ⟨by simpa using h, this.symm⟩
          have hTb : T b = true := (hT b hb2).mpr ⟨mB_t q, q3.2⟩
          have ebf : bfR T s (b : Int) (s.2.2 y + 1) = (s.1 + 1, vi_u s.2.1 s.1 (b : Int), vi_u s.2.2 b (s.2.2 y + 1)) := by
            unfold bfR
            rw [if_pos ⟨by rw [sHas_n hb2]; exact hTb, by rw [Int.toNat_natCast]; exact q3.1⟩, Int.toNat_natCast]
          rw [hb, ebf] at st
          have hnew := bfI_new hi hb2 q3.1
          obtain ⟨t1, t2, t3, t4, t5⟩ := st
          dsimp only at t1 t2 t3 t4 t5
          rw [Int.toNat_natCast] at t5
          have tc : vi_u s.2.2 b (s.2.2 y + 1) y = s.2.2 y := t4 y (by omega)
          have := ihw _ (vi_rs (vi_rs M' 128 (vi_u (M' 128) b (k : Int))) 129 (vi_u (M' 129) s.1 (b : Int))) (some (.inl (b : Int))) t1 (by omega) t3 (by dsimp only; rw [tc]; exact hD0) (fun v hv z hz hF => by
            dsimp only
            rw [tc]
            by_cases e : v = w
            · rw [e, hb] at hz
              obtain rfl : b = z := by omega
              exact t5 (by rw [sHas_n hb2]; exact hTb)
            · have := hw2 v (by omega) z hz hF
              rw [t4 z this.1]
              exact this) (by rw [vi_rs_s, e1]) (fun z hz => by
            rw [vi_rs_o (by omega), vi_rs_s]
            by_cases e : z = b
            · subst e
              exact vi_u_s.trans (if_pos (by show vi_u _ _ _ _ ≠ -1; rw [vi_u_s]; omega)).symm
            · refine (vi_u_o e).trans ((e2 z hz).trans ?_)
              simp only [vi_u_o e]) (fun q h1 h2 => by rw [vi_rs_o h2, vi_rs_o h1]; exact e3 q h1 h2)
          dsimp only at this
          have eN : ((s.1 : Int) + 1) = ((s.1 + 1 : Nat) : Int) := by omega
          have i129 : vi_rs M' 128 (vi_u (M' 128) b (k : Int)) 129 = M' 129 := vi_rs_o (by omega)
          rw [s_310_82]
          clear ihw same t1 t2 t3 t4 t5 hi e2 hw2
          simp (disch := omega) only [Option.toList_some, Option.toList_none, List.nil_append, List.cons_append, List.append_nil, true_and, and_true, not_true_eq_false, not_false_eq_true, true_implies, false_implies, implies_true, and_self, Int.reduceLT, Int.reduceLE, Int.reduceEq, Int.reduceNe, Int.reduceAdd, Int.reduceSub, Int.reduceMul, Int.reduceNeg, Int.reduceToNat, Int.toNat_natCast, ↓kk_ck, ↓kk_im, ↓kk_in, s_310_89, s_310_94, s_310_97, s_310_102, s_310_110, s_310_114, s_310_117, s_310_121, s_310_124, s_310_131, s_310_135, s_310_139, s_310_143, s_310_148, s_310_151, R1, R31, R32, u1, u2, v1, v2, p1, p2, hcx, k248, hb, ep, q, q2, Int.toNat_natCast, vi_ms_rs, i129, e1, vi_inc, ne_eq]
          rw [e1] at this
          exact this
        · have := same (by
            unfold bfR
            rw [hb, sHas_n hb2, Int.toNat_natCast, if_neg]
            intro h
            have h3 := ((hT b hb2).mp h.1).2
            have := e2 b hb2
            rw [if_neg (by rw [h.2]; simp), h3] at this
            exact q2 this) (some (.inl (b : Int)))
          rw [s_310_82]
          clear ihw same st
          simp (disch := omega) only [Option.toList_some, Option.toList_none, List.nil_append, List.cons_append, List.append_nil, true_and, and_true, not_true_eq_false, not_false_eq_true, true_implies, false_implies, implies_true, and_self, Int.reduceLT, Int.reduceLE, Int.reduceEq, Int.reduceNe, Int.reduceAdd, Int.reduceSub, Int.reduceMul, Int.reduceNeg, Int.reduceToNat, Int.toNat_natCast, ↓kk_ck, ↓kk_im, ↓kk_in, s_310_89, s_310_94, s_310_97, s_310_102, s_310_110, s_310_114, s_310_117, s_310_121, s_310_124, s_310_128, s_310_151, R1, R31, R32, u1, u2, v1, v2, p1, p2, e1, hcx, k248, hb, ep, q, q2, Int.toNat_natCast, vi_inc, ne_eq]
          exact this
theorem k_310 (hY : kY Y 151) (hB : mBx M) {p : Nat} (hp : Y.1 p = 4 ∧ (Y.2.1 p : Int) = 216) (hp1 : p ≠ 128) (hp2 : p ≠ 129) (hin : ∀ c, c < 216 → M p c ≠ 0 → mIc M (c : Int)) (hD : 3 ≤ D)
    (hQ : ∀ M', (∀ q, q ≠ 128 → q ≠ 129 → M' q = M q) → (∀ x, x < 216 → M' 128 x = sLb 216 0 (mB (M p)) x) → Q (some (.inl (sPc 216 (mB (M p)) : Int))) (Y, M', nn)) :
    vi_call GG D 310 [.inr (.inr 112), .inr (.inr p)] (Y, M, nn) Q := by
  obtain ⟨D, rfl⟩ : ∃ k, D = k + 1 := ⟨D - 1, by omega⟩
  obtain ⟨R1, -, R3, -, -, -, -, -, -, -, -, -, -, R27, R28, R29, R31, R32, -⟩ := y_112 hY (by omega)
  obtain ⟨u1, u2⟩ := y_128 hY (by omega)
  obtain ⟨v1, v2⟩ := y_129 hY (by omega)
  have outer : ∀ c : Nat, c ≤ 216 → ∀ (T : Nat → Bool) (k : Nat) (M' : vi_M) (l4 l5 l6 l7 : Option vi_V), pO (mB (M p)) T k (M' 128) → (∀ x, x < c → T x = false) → (∀ q, q ≠ 128 → q ≠ 129 → M' q = M q) → vi_ok GG D 310 26 [some (.inr (.inr 112)), some (.inr (.inr p)), some (.inl (k : Int)), some (.inl (c : Int)), l4, l5, l6, l7] [] (Y, M', nn) Q := by
    refine vi_dn (P := fun c => ∀ (T : Nat → Bool) (k : Nat) (M' : vi_M) (l4 l5 l6 l7 : Option vi_V), pO (mB (M p)) T k (M' 128) → (∀ x, x < c → T x = false) → (∀ q, q ≠ 128 → q ≠ 129 → M' q = M q) → vi_ok GG D 310 26 [some (.inr (.inr 112)), some (.inr (.inr p)), some (.inl (k : Int)), some (.inl (c : Int)), l4, l5, l6, l7] [] (Y, M', nn) Q) 216 ?_ fun c hc ih => ?_
    · intro T k M' l4 l5 l6 l7 hO hl hf
      obtain ⟨e1, e2⟩ := pO_e hO hl
      have := hQ M' hf e2
      rw [e1] at this
      rw [s_310_26]
      clear hQ
      simp (disch := omega) only [Option.toList_some, Option.toList_none, List.nil_append, List.cons_append, List.append_nil, true_and, and_true, not_true_eq_false, not_false_eq_true, true_implies, false_implies, implies_true, and_self, Int.reduceLT, Int.reduceLE, Int.reduceEq, Int.reduceNe, Int.reduceAdd, Int.reduceSub, Int.reduceMul, Int.reduceNeg, Int.reduceToNat, Int.toNat_natCast, ↓kk_ck, ↓kk_im, ↓kk_in, s_310_172]
      exact this
    · intro T k M' l4 l5 l6 l7 hO hl hf
      have ep : M' p = M p := hf p hp1 hp2
      have hO1 := hO.1
      obtain ⟨p1, p2⟩ := hp
      clear hQ
      by_cases q : M p c = 0
      · have hTc : T c = false := by
          cases h : T c
          · rfl
          · have := ((hO1 c hc).mp h).1
            rw [mB_f q] at this; cases this
        have := ih T k M' l4 l5 l6 l7 hO (fun x hx => by
          by_cases e : x = c
          · rw [e]; exact hTc
          · exact hl x (by omega)) hf
        rw [s_310_26]
        clear ih
        simp (disch := omega) only [Option.toList_some, Option.toList_none, List.nil_append, List.cons_append, List.append_nil, true_and, and_true, not_true_eq_false, not_false_eq_true, true_implies, false_implies, implies_true, and_self, Int.reduceLT, Int.reduceLE, Int.reduceEq, Int.reduceNe, Int.reduceAdd, Int.reduceSub, Int.reduceMul, Int.reduceNeg, Int.reduceToNat, Int.toNat_natCast, ↓kk_ck, ↓kk_im, ↓kk_in, s_310_33, s_310_36, s_310_166, p1, p2, ep, q, Int.toNat_natCast, vi_inc, ne_eq]
        exact this
      · by_cases q2 : M' 128 c = -1
        · have hTc : T c = true := (hO1 c hc).mpr ⟨mB_t q, q2⟩
          have hk : k < 216 := (pO_s (L' := fun x => if sK T c x = true then (k : Int) else M' 128 x) hO hc hTc hl (fun x hx => rfl)).1
          have flood : ∀ x : Nat, x ≤ 216 → ∀ (s : bfT) (M2 : vi_M) (l6 l7 : Option vi_V), bfI T c x s → M2 129 = s.2.1 → (∀ b, b < 216 → M2 128 b = if s.2.2 b ≠ -1 then (k : Int) else M' 128 b) → (∀ q, q ≠ 128 → q ≠ 129 → M2 q = M q) → vi_ok GG D 310 72 [some (.inr (.inr 112)), some (.inr (.inr p)), some (.inl (k : Int)), some (.inl (c : Int)), some (.inl (s.1 : Int)), some (.inl (x : Int)), l6, l7] [] (Y, M2, nn) Q := by
            have fin : ∀ (x : Nat) (s : bfT) (M2 : vi_M) (l6 l7 : Option vi_V), s.1 ≤ x → bfI T c x s → (∀ b, b < 216 → M2 128 b = if s.2.2 b ≠ -1 then (k : Int) else M' 128 b) → (∀ q, q ≠ 128 → q ≠ 129 → M2 q = M q) → vi_ok GG D 310 72 [some (.inr (.inr 112)), some (.inr (.inr p)), some (.inl (k : Int)), some (.inl (c : Int)), some (.inl (s.1 : Int)), some (.inl (x : Int)), l6, l7] [] (Y, M2, nn) Q := by
              intro x s M2 l6 l7 hle hi e2 e3
              obtain rfl : x = s.1 := by have := hi.2.2.2.2.2.2.2.2; omega
              have hg := bfI_e hi
              have hK := gDs_K hc hg
              obtain ⟨-, o1, o2⟩ := pO_s (L' := M2 128) hO hc hTc hl (fun b hb => by
                rw [e2 b hb]
                by_cases e : s.2.2 b = -1
                · rw [if_neg (by simp [e]), if_neg (fun h => (hK b hb).mpr h e)]
                · rw [if_pos e, if_pos ((hK b hb).mp e)])
              have := ih (sTl T) (k + 1) M2 (some (.inl (s.1 : Int))) (some (.inl (s.1 : Int))) l6 l7 o1 o2 e3
              have eN : ((k : Int) + 1) = ((k + 1 : Nat) : Int) := by omega
              rw [s_310_72]
              clear ih hK hg hi e2 o1 o2
              simp (disch := omega) only [Option.toList_some, Option.toList_none, List.nil_append, List.cons_append, List.append_nil, true_and, and_true, not_true_eq_false, not_false_eq_true, true_implies, false_implies, implies_true, and_self, Int.reduceLT, Int.reduceLE, Int.reduceEq, Int.reduceNe, Int.reduceAdd, Int.reduceSub, Int.reduceMul, Int.reduceNeg, Int.reduceToNat, Int.toNat_natCast, ↓kk_ck, ↓kk_im, ↓kk_in, s_310_163, s_310_166, vi_inc]
              exact this
            refine vi_dn (P := fun x => ∀ (s : bfT) (M2 : vi_M) (l6 l7 : Option vi_V), bfI T c x s → M2 129 = s.2.1 → (∀ b, b < 216 → M2 128 b = if s.2.2 b ≠ -1 then (k : Int) else M' 128 b) → (∀ q, q ≠ 128 → q ≠ 129 → M2 q = M q) → vi_ok GG D 310 72 [some (.inr (.inr 112)), some (.inr (.inr p)), some (.inl (k : Int)), some (.inl (c : Int)), some (.inl (s.1 : Int)), some (.inl (x : Int)), l6, l7] [] (Y, M2, nn) Q) 216 ?_ fun x hx ihx => ?_
            · intro s M2 l6 l7 hi e1 e2 e3
              exact fin 216 s M2 l6 l7 (bfI_le hi) hi e2 e3
            · intro s M2 l6 l7 hi e1 e2 e3
              by_cases hxs : s.1 ≤ x
              · exact fin x s M2 l6 l7 hxs hi e2 e3
              · obtain ⟨y, hcx, hy, hFy, hD0, hDx⟩ := hi.1 x (by omega)
                have inner := h_310i (D := D) (nn := nn) (Q := Q) hY hB ⟨p1, p2⟩ hp1 hp2 hin (by omega) hO1 hk hy hc hx hFy ihx 0 (by omega) s M2 l7 hi (by omega) hcx hD0 (fun v hv => by omega) e1 e2 e3
                rw [s_310_72]
                clear ih ihx fin hi e2 hO hO1
                simp (disch := omega) only [Option.toList_some, Option.toList_none, List.nil_append, List.cons_append, List.append_nil, true_and, and_true, not_true_eq_false, not_false_eq_true, true_implies, false_implies, implies_true, and_self, Int.reduceLT, Int.reduceLE, Int.reduceEq, Int.reduceNe, Int.reduceAdd, Int.reduceSub, Int.reduceMul, Int.reduceNeg, Int.reduceToNat, Int.toNat_natCast, ↓kk_ck, ↓kk_im, ↓kk_in, s_310_79]
                exact inner
          have := flood 0 (by omega) (1, vi_u (M' 129) 0 (c : Int), fun b => if b = c then 0 else -1) (vi_rs (vi_rs M' 128 (vi_u (M' 128) c (k : Int))) 129 (vi_u (M' 129) 0 (c : Int))) l6 l7 (bfI_0 hc hTc vi_u_s (fun b _ => rfl)) vi_rs_s (fun b hb => by
            rw [vi_rs_o (by omega), vi_rs_s]
            by_cases e : b = c
            · subst e
              exact vi_u_s.trans (if_pos (by show (if b = b then (0 : Int) else -1) ≠ -1; rw [if_pos rfl]; omega)).symm
            · exact (vi_u_o e).trans (if_neg (by show ¬ (if b = c then (0 : Int) else -1) ≠ -1; rw [if_neg e]; simp)).symm) (fun q h1 h2 => by rw [vi_rs_o h2, vi_rs_o h1]; exact hf q h1 h2)
          dsimp only at this
          rw [show ((0 : Nat) : Int) = 0 from rfl, show ((1 : Nat) : Int) = 1 from rfl] at this
          have i129 : vi_rs M' 128 (vi_u (M' 128) c (k : Int)) 129 = M' 129 := vi_rs_o (by omega)
          rw [s_310_26]
          clear ih flood hO hO1
          simp (disch := omega) only [Option.toList_some, Option.toList_none, List.nil_append, List.cons_append, List.append_nil, true_and, and_true, not_true_eq_false, not_false_eq_true, true_implies, false_implies, implies_true, and_self, Int.reduceLT, Int.reduceLE, Int.reduceEq, Int.reduceNe, Int.reduceAdd, Int.reduceSub, Int.reduceMul, Int.reduceNeg, Int.reduceToNat, Int.toNat_natCast, ↓kk_ck, ↓kk_im, ↓kk_in, s_310_33, s_310_36, s_310_39, s_310_43, s_310_45, s_310_52, s_310_56, s_310_59, s_310_63, s_310_66, R1, R31, R32, u1, u2, v1, v2, p1, p2, ep, q, q2, Int.toNat_natCast, vi_ms_rs, i129, ne_eq]
          exact this
        · have hTc : T c = false := by
            cases h : T c
            · rfl
            · exact absurd ((hO1 c hc).mp h).2 q2
          have := ih T k M' l4 l5 l6 l7 hO (fun x hx => by
            by_cases e : x = c
            · rw [e]; exact hTc
            · exact hl x (by omega)) hf
          rw [s_310_26]
          clear ih hO hO1
          simp (disch := omega) only [Option.toList_some, Option.toList_none, List.nil_append, List.cons_append, List.append_nil, true_and, and_true, not_true_eq_false, not_false_eq_true, true_implies, false_implies, implies_true, and_self, Int.reduceLT, Int.reduceLE, Int.reduceEq, Int.reduceNe, Int.reduceAdd, Int.reduceSub, Int.reduceMul, Int.reduceNeg, Int.reduceToNat, Int.toNat_natCast, ↓kk_ck, ↓kk_im, ↓kk_in, s_310_33, s_310_36, s_310_39, s_310_43, s_310_45, s_310_49, s_310_166, R1, R31, u1, u2, p1, p2, ep, q, q2, Int.toNat_natCast, vi_inc, ne_eq]
          exact this
  have first : ∀ c : Nat, c ≤ 216 → vi_ok GG D 310 2 [some (.inr (.inr 112)), some (.inr (.inr p)), some (.inl (c : Int)), none, none, none, none, none] [] (Y, vi_rs M 128 (vi_m c (fun _ => -1) (M 128)), nn) Q := by
    refine vi_dn 216 ?_ fun c hc ih => ?_
    · have := outer 0 (by omega) (mB (M p)) 0 (vi_rs M 128 (vi_m 216 (fun _ => -1) (M 128))) none none none none (pO_0 fun x hx => by rw [vi_rs_s, vi_m_lt hx]) (fun x hx => by omega) (fun q h1 _ => vi_rs_o h1)
      rw [show ((0 : Nat) : Int) = 0 from rfl] at this
      rw [s_310_2]
      clear outer hQ
      simp (disch := omega) only [Option.toList_some, Option.toList_none, List.nil_append, List.cons_append, List.append_nil, true_and, and_true, not_true_eq_false, not_false_eq_true, true_implies, false_implies, implies_true, and_self, Int.reduceLT, Int.reduceLE, Int.reduceEq, Int.reduceNe, Int.reduceAdd, Int.reduceSub, Int.reduceMul, Int.reduceNeg, Int.reduceToNat, Int.toNat_natCast, ↓kk_ck, ↓kk_im, ↓kk_in, s_310_22]
      exact this
    · rw [s_310_2]
      clear outer hQ
      simp (disch := omega) only [Option.toList_some, Option.toList_none, List.nil_append, List.cons_append, List.append_nil, true_and, and_true, not_true_eq_false, not_false_eq_true, true_implies, false_implies, implies_true, and_self, Int.reduceLT, Int.reduceLE, Int.reduceEq, Int.reduceNe, Int.reduceAdd, Int.reduceSub, Int.reduceMul, Int.reduceNeg, Int.reduceToNat, Int.toNat_natCast, ↓kk_ck, ↓kk_im, ↓kk_in, s_310_9, s_310_13, s_310_16, R1, R31, u1, u2, vi_ms_rs, vi_rs_s, vi_rs_rs, vi_inc]
      rw [vi_m_s rfl]
      exact ih
  have := first 0 (by omega)
  rw [vi_m_0, vi_rs_id rfl] at this
  rw [e_310, s_310_0]
  exact this
end
