/-! waysBy, finds, fewest (reference). -/
/-- accepted of the last k pairs (a, b) -/
def wR (E : Int → Int → Bool) (a m : Nat) : Nat → List (Int × Int)
  | 0 => []
  | k + 1 => (if E (a : Int) ((m - 1 - k : Nat) : Int) = true then [((a : Int), ((m - 1 - k : Nat) : Int))] else []) ++ wR E a m k
def wW (E : Int → Int → Bool) (h m a : Nat) : List (Int × Int) := if h = 1 then (if E (a : Int) (-1) = true then [((a : Int), -1)] else []) else wR E a m (m - 1 - a)
def wfG (E : Int → Int → Bool) (h m : Nat) : Nat → List (Int × Int)
  | 0 => []
  | k + 1 => wW E h m (m - 1 - k) ++ wfG E h m k
def wfA : List (Int × Int) → Int
  | [] => -1
  | x :: _ => x.1
def wfB : List (Int × Int) → Int
  | [] => -1
  | x :: _ => x.2
theorem wR_l {E : Int → Int → Bool} {a m : Nat} : ∀ k : Nat, (wR E a m k).length ≤ k
  | 0 => Nat.le_refl _
  | k + 1 => by
    have := wR_l (E := E) (a := a) (m := m) k
    rw [wR, List.length_append]
    split
    · rw [List.length_singleton]; omega
    · rw [List.length_nil]; omega
theorem wfG_l {E : Int → Int → Bool} {h m : Nat} (hm : m ≤ 108) : ∀ k : Nat, (wfG E h m k).length ≤ 108 * k
  | 0 => Nat.le_refl _
  | k + 1 => by
    have := wfG_l (E := E) (h := h) hm k
    rw [wfG, List.length_append]
    have h1 : (wW E h m (m - 1 - k)).length ≤ 108 := by
      unfold wW
      split
      · split
        · rw [List.length_singleton]; omega
        · rw [List.length_nil]; omega
      · have := wR_l (E := E) (a := m - 1 - k) (m := m) (m - 1 - (m - 1 - k))
        omega
    omega
def wM (M : vi_M) (F : List (Int × Int)) : vi_M := vi_rs M 112 (vi_u (vi_u (M 112) 40 (wfA F)) 41 (wfB F))
theorem wM_o {M : vi_M} {F : List (Int × Int)} {p : Nat} (h : p ≠ 112) : wM M F p = M p := vi_rs_o h
theorem wM_k {M : vi_M} {F : List (Int × Int)} {k : Nat} (h1 : k ≠ 40) (h2 : k ≠ 41) : wM M F 112 k = M 112 k := by
  unfold wM
  rw [vi_rs_s, vi_u_o h2, vi_u_o h1]
theorem wM_s {M M' : vi_M} {F G : List (Int × Int)} (h : mFe (wM M F) M') : mFe (wM M G) (vi_rs M' 112 (vi_u (vi_u (M' 112) 40 (wfA G)) 41 (wfB G))) := by
  refine ⟨fun p h1 h2 h3 h4 => by rw [vi_rs_o h1, h.1 p h1 h2 h3 h4, wM_o h1, wM_o h1], fun k h1 h2 h3 h4 h5 h6 => ?_⟩
  rw [vi_rs_s]
  unfold wM
  rw [vi_rs_s]
  by_cases e1 : k = 41
  · rw [e1, vi_u_s, vi_u_s]
  · rw [vi_u_o e1, vi_u_o e1]
    by_cases e0 : k = 40
    · rw [e0, vi_u_s, vi_u_s]
    · rw [vi_u_o e0, vi_u_o e0, h.2 k h1 h2 h3 h4 h5 h6, wM_k e0 e1]
noncomputable def enB (M : vi_M) (lw : Option (List gCla)) (n g m : Nat) (x y : Int) : Bool := sCm (lnT M y (lnT M x (fun c => mLf M lw n c))) g m
/-- these rows stand: all that ends reads -/
def wfO (M M' : vi_M) : Prop := M' 114 = M 114 ∧ M' 130 = M 130 ∧ M' 131 = M 131 ∧ M' 132 = M 132
theorem enB_c {M M' : vi_M} (h : wfO M M') {lw : Option (List gCla)} {n g m : Nat} {x y : Int} : enB M' lw n g m x y = enB M lw n g m x y := by
  obtain ⟨h1, h2, h3, h4⟩ := h
  unfold enB lnT
  rw [h2, h3, h4, show (fun c => mLf M' lw n c) = (fun c => mLf M lw n c) from funext fun c => mLf_c h1]
theorem lnO_c {M M' : vi_M} (h : wfO M M') {x : Int} (hx : lnO M x) : lnO M' x := by
  obtain ⟨h1, h2, h3, h4⟩ := h
  rcases hx with hx | ⟨l, a, e1, e2, e3, e4⟩
  · exact .inl hx
  · refine .inr ⟨l, a, e1, e2, by rw [h2]; exact e3, ?_⟩
    unfold mIp at e4 ⊢
    rw [h1, h3, h4]; exact e4
theorem mFe_o {M M' : vi_M} {F : List (Int × Int)} (h : mFe (wM M F) M') : wfO M M' :=
  ⟨(mFe_114 h).trans (wM_o (by omega)), (h.1 _ (by omega) (by omega) (by omega) (by omega)).trans (wM_o (by omega)), (h.1 _ (by omega) (by omega) (by omega) (by omega)).trans (wM_o (by omega)), (h.1 _ (by omega) (by omega) (by omega) (by omega)).trans (wM_o (by omega))⟩
theorem wM_S {M : vi_M} {F : List (Int × Int)} {lw : Option (List gCla)} {n : Nat} (hs : mSee M lw n) : mSee (wM M F) lw n :=
  mSee_c hs (wM_o (by omega)) (wM_o (by omega)) (wM_o (by omega)) (wM_o (by omega)) (wM_o (by omega)) (by rw [wM_k (by omega) (by omega), wM_k (by omega) (by omega)]; exact hs.2.2.1)
theorem mKs_c {M M' : vi_M} {lw : Option (List gCla)} {n : Nat} (h : mKs M lw n) (h114 : M' 114 = M 114) (hs : M' 112 30 = M' 112 1 → mSee M' lw n) : mKs M' lw n := by
  obtain ⟨h1, h2, h3, h4, h5, h6, -⟩ := h
  exact ⟨mBx_c h114 h1, h2, by rw [h114]; exact h3, by rw [h114]; exact h4, by rw [h114]; exact h5, mLw_c h114 h6, hs⟩
section
variable {D : Nat} {K : Option vi_V → vi_W → Prop} {Y : vi_Y} {M : vi_M} {nn : Nat × Nat} {Q : Option vi_V → vi_W → Prop}
/-- one pair tried -/
theorem h_316e (hY : kY Y 151) {lw : Option (List gCla)} {n : Nat} (hS : mKs M lw n) (hs : mSee M lw n) {g m : Nat} (hg : g ≤ 2) (hm : m ≤ 216) (hD : 46 ≤ D) {h a : Nat} {b y : Int} (hy : y = if h = 1 then -1 else b) (hla : lnO M (a : Int)) (hlb : lnO M y) {F : List (Int × Int)} (hF : F.length ≤ 20000) {M' : vi_M} (hf : mFe (wM M F) M')
    (ih : ∀ M2, mFe (wM M ((if enB M lw n g m (a : Int) y = true then [((a : Int), y)] else []) ++ F)) M2 → vi_ok GG D 316 125 [some (.inr (.inr 112)), some (.inl (h : Int)), some (.inl (g : Int)), some (.inl (m : Int)), some (.inl ((((if enB M lw n g m (a : Int) y = true then [((a : Int), y)] else []) ++ F).length : Nat) : Int)), some (.inl (a : Int)), some (.inl b)] [] (Y, M2, nn) Q) :
    vi_ok GG D 316 76 [some (.inr (.inr 112)), some (.inl (h : Int)), some (.inl (g : Int)), some (.inl (m : Int)), some (.inl (F.length : Int)), some (.inl (a : Int)), some (.inl b)] [] (Y, M', nn) Q := by
  obtain ⟨R1, -⟩ := y_112 hY (by omega)
  have ho := mFe_o hf
  have hs' : mSee M' lw n := mFe_s hf (wM_S hs)
  have hS' : mKs M' lw n := mKs_c hS ho.1 fun _ => hs'
  have cont : vi_call GG D 314 [.inr (.inr 112), .inl (a : Int), .inl y, .inl (g : Int), .inl (m : Int)] (Y, M', nn) (fun r w' => vi_ok GG D 316 95 [some (.inr (.inr 112)), some (.inl (h : Int)), some (.inl (g : Int)), some (.inl (m : Int)), some (.inl (F.length : Int)), some (.inl (a : Int)), some (.inl b)] r.toList w' Q) := by
    refine k_314 hY hS' hs' (lnO_c ho hla) (lnO_c ho hlb) hg hm hD fun M2 f2 => ?_
    rw [show sCm (lnT M' y (lnT M' (a : Int) (fun c => mLf M' lw n c))) g m = enB M lw n g m (a : Int) y from enB_c ho]
    have hf2 := mFe_t hf f2
    cases hb : enB M lw n g m (a : Int) y
    · have := ih M2 (by rw [hb]; exact hf2)
      rw [hb] at this
      clear ih
      simp (disch := omega) only [Option.toList_some, Option.toList_none, List.nil_append, List.cons_append, List.append_nil, true_and, and_true, not_true_eq_false, not_false_eq_true, true_implies, false_implies, implies_true, and_self, Int.reduceLT, Int.reduceLE, Int.reduceEq, Int.reduceNe, Int.reduceAdd, Int.reduceSub, Int.reduceMul, Int.reduceNeg, Int.reduceToNat, Int.toNat_natCast, ↓kk_ck, ↓kk_im, ↓kk_in, Option.toList, List.append_nil, s_316_95, s_316_98, vi_bf, ne_eq]
      exact this
    · rw [hb, if_pos rfl] at ih
      have := ih _ (wM_s hf2)
      have eN : ((F.length : Int) + 1) = ((F.length + 1 : Nat) : Int) := by omega
      rw [List.singleton_append] at this
      have e1 : wfA (((a : Int), y) :: F) = (a : Int) := rfl
      have e2 : wfB (((a : Int), y) :: F) = y := rfl
      rw [e1, e2, List.length_cons] at this
      clear ih
      by_cases q : h = 1
      · rw [if_pos q] at hy
        rw [hy] at this
        have q' : (h : Int) = 1 := by omega
        simp (disch := omega) only [Option.toList_some, Option.toList_none, List.nil_append, List.cons_append, List.append_nil, true_and, and_true, not_true_eq_false, not_false_eq_true, true_implies, false_implies, implies_true, and_self, Int.reduceLT, Int.reduceLE, Int.reduceEq, Int.reduceNe, Int.reduceAdd, Int.reduceSub, Int.reduceMul, Int.reduceNeg, Int.reduceToNat, Int.toNat_natCast, ↓kk_ck, ↓kk_im, ↓kk_in, Option.toList, List.append_nil, s_316_95, s_316_101, s_316_110, s_316_116, s_316_122, R1, vi_bt, vi_ms_rs, vi_rs_s, vi_rs_rs, q', vi_inc, ne_eq]
        rw [q'] at this
        exact this
      · rw [if_neg q] at hy
        rw [hy] at this
        have q' : ¬ (h : Int) = 1 := by omega
        simp (disch := omega) only [Option.toList_some, Option.toList_none, List.nil_append, List.cons_append, List.append_nil, true_and, and_true, not_true_eq_false, not_false_eq_true, true_implies, false_implies, implies_true, and_self, Int.reduceLT, Int.reduceLE, Int.reduceEq, Int.reduceNe, Int.reduceAdd, Int.reduceSub, Int.reduceMul, Int.reduceNeg, Int.reduceToNat, Int.toNat_natCast, ↓kk_ck, ↓kk_im, ↓kk_in, Option.toList, List.append_nil, s_316_95, s_316_101, s_316_110, s_316_120, s_316_122, R1, vi_bt, vi_ms_rs, vi_rs_s, vi_rs_rs, q', vi_inc, ne_eq]
        exact this
  clear ih
  by_cases q : h = 1
  · rw [if_pos q] at hy
    subst hy
    have q' : (h : Int) = 1 := by omega
    rw [q'] at cont ⊢
    simp (disch := omega) only [Option.toList_some, Option.toList_none, List.nil_append, List.cons_append, List.append_nil, true_and, and_true, not_true_eq_false, not_false_eq_true, true_implies, false_implies, implies_true, and_self, Int.reduceLT, Int.reduceLE, Int.reduceEq, Int.reduceNe, Int.reduceAdd, Int.reduceSub, Int.reduceMul, Int.reduceNeg, Int.reduceToNat, Int.toNat_natCast, ↓kk_ck, ↓kk_im, ↓kk_in, s_316_76, s_316_84, s_316_90, R1, ne_eq]
    exact cont
  · rw [if_neg q] at hy
    subst hy
    have q' : ¬ (h : Int) = 1 := by omega
    simp (disch := omega) only [Option.toList_some, Option.toList_none, List.nil_append, List.cons_append, List.append_nil, true_and, and_true, not_true_eq_false, not_false_eq_true, true_implies, false_implies, implies_true, and_self, Int.reduceLT, Int.reduceLE, Int.reduceEq, Int.reduceNe, Int.reduceAdd, Int.reduceSub, Int.reduceMul, Int.reduceNeg, Int.reduceToNat, Int.toNat_natCast, ↓kk_ck, ↓kk_im, ↓kk_in, s_316_76, s_316_88, s_316_90, R1, q', ne_eq]
    exact cont
theorem k_316 (hY : kY Y 151) {lw : Option (List gCla)} {n : Nat} (hS : mKs M lw n) (hs : mSee M lw n) {g m : Nat} (hg : g ≤ 2) (hm : m ≤ 216) {h k0 : Nat} (hh : h = 1 ∨ h = 2) (hk0 : k0 ≤ 108) (h39 : M 112 39 = (k0 : Int)) (hl : ∀ l : Nat, l < k0 → lnO M (l : Int)) (hD : 47 ≤ D)
    (hQ : ∀ M', mFe (wM M (wfG (enB M lw n g m) h k0 k0)) M' → Q (some (.inl ((wfG (enB M lw n g m) h k0 k0).length : Int))) (Y, M', nn)) : vi_call GG D 316 [.inr (.inr 112), .inl (h : Int), .inl (g : Int), .inl (m : Int)] (Y, M, nn) Q := by
  obtain ⟨D, rfl⟩ : ∃ k, D = k + 1 := ⟨D - 1, by omega⟩
  obtain ⟨R1, -⟩ := y_112 hY (by omega)
  have outer : ∀ k : Nat, k ≤ k0 → ∀ (M' : vi_M) (l6 : Option vi_V), mFe (wM M (wfG (enB M lw n g m) h k0 k)) M' → vi_ok GG D 316 42 [some (.inr (.inr 112)), some (.inl (h : Int)), some (.inl (g : Int)), some (.inl (m : Int)), some (.inl ((wfG (enB M lw n g m) h k0 k).length : Int)), some (.inl ((k0 : Int) - 1 - (k : Int))), l6] [] (Y, M', nn) Q := by
    refine vi_dn (P := fun k => ∀ (M' : vi_M) (l6 : Option vi_V), mFe (wM M (wfG (enB M lw n g m) h k0 k)) M' → vi_ok GG D 316 42 [some (.inr (.inr 112)), some (.inl (h : Int)), some (.inl (g : Int)), some (.inl (m : Int)), some (.inl ((wfG (enB M lw n g m) h k0 k).length : Int)), some (.inl ((k0 : Int) - 1 - (k : Int))), l6] [] (Y, M', nn) Q) k0 ?_ fun k hk ih => ?_
    · intro M' l6 hf
      have := hQ M' hf
      rw [s_316_42]
      clear hQ
      simp (disch := omega) only [Option.toList_some, Option.toList_none, List.nil_append, List.cons_append, List.append_nil, true_and, and_true, not_true_eq_false, not_false_eq_true, true_implies, false_implies, implies_true, and_self, Int.reduceLT, Int.reduceLE, Int.reduceEq, Int.reduceNe, Int.reduceAdd, Int.reduceSub, Int.reduceMul, Int.reduceNeg, Int.reduceToNat, Int.toNat_natCast, ↓kk_ck, ↓kk_im, ↓kk_in, s_316_137]
      exact this
    · intro M' l6 hf
      clear hQ
      obtain ⟨a, ha⟩ : ∃ a : Nat, a = k0 - 1 - k := ⟨_, rfl⟩
      have ea : (k0 : Int) - 1 - (k : Int) = (a : Int) := by omega
      have hm39 : M' 112 39 = (k0 : Int) := by rw [hf.2 39 (by omega) (by omega) (by omega) (by omega) (by omega) (by omega), wM_k (by omega) (by omega)]; exact h39
      have hlen := wfG_l (E := enB M lw n g m) (h := h) hk0 k
      rw [wfG, ← ha] at ih
      have en : vi_w32 ((a : Int) + -1) = (k0 : Int) - 1 - ((k + 1 : Nat) : Int) := by rw [vi_32 (by omega) (by omega)]; omega
      have ih' : ∀ (M' : vi_M) (b : Int), mFe (wM M (wW (enB M lw n g m) h k0 a ++ wfG (enB M lw n g m) h k0 k)) M' → vi_ok GG D 316 131 [some (.inr (.inr 112)), some (.inl (h : Int)), some (.inl (g : Int)), some (.inl (m : Int)), some (.inl ((wW (enB M lw n g m) h k0 a ++ wfG (enB M lw n g m) h k0 k).length : Int)), some (.inl (a : Int)), some (.inl b)] [] (Y, M', nn) Q := by
        intro M' b hf
        have := ih M' (some (.inl b)) hf
        clear ih
        simp (disch := omega) only [Option.toList_some, Option.toList_none, List.nil_append, List.cons_append, List.append_nil, true_and, and_true, not_true_eq_false, not_false_eq_true, true_implies, false_implies, implies_true, and_self, Int.reduceLT, Int.reduceLE, Int.reduceEq, Int.reduceNe, Int.reduceAdd, Int.reduceSub, Int.reduceMul, Int.reduceNeg, Int.reduceToNat, Int.toNat_natCast, ↓kk_ck, ↓kk_im, ↓kk_in, s_316_131, en]
        exact this
      clear ih
      generalize hG : wfG (enB M lw n g m) h k0 k = G at *
      rw [ea, s_316_42]
      rcases hh with rfl | rfl
      · have last := h_316e (Q := Q) (nn := nn) (D := D) hY hS hs hg hm (by omega) (h := 1) (a := a) (b := (a : Int)) (y := -1) rfl (hl a (by omega)) (.inl rfl) (F := G) (by omega) hf (fun M2 f2 => by
          have e1 : (if enB M lw n g m (a : Int) (-1) = true then [((a : Int), (-1 : Int))] else []) = wW (enB M lw n g m) 1 k0 a := by unfold wW; rw [if_pos rfl]
          rw [e1] at f2 ⊢
          have := ih' M2 ((a : Int) + -1) f2
          clear ih'
          rw [s_316_125, s_316_65]
          simp (disch := omega) only [Option.toList_some, Option.toList_none, List.nil_append, List.cons_append, List.append_nil, true_and, and_true, not_true_eq_false, not_false_eq_true, true_implies, false_implies, implies_true, and_self, Int.reduceLT, Int.reduceLE, Int.reduceEq, Int.reduceNe, Int.reduceAdd, Int.reduceSub, Int.reduceMul, Int.reduceNeg, Int.reduceToNat, Int.toNat_natCast, ↓kk_ck, ↓kk_im, ↓kk_in, s_316_73, @vi_32 ((a : Int) + -1) (by omega) (by omega), show ((1 : Nat) : Int) = 1 from rfl, @vi_32 ((a : Int) + 1) (by omega) (by omega), @vi_32 ((a : Int) + 1 - 1) (by omega) (by omega)]
          exact this)
        clear ih'
        simp (disch := omega) only [Option.toList_some, Option.toList_none, List.nil_append, List.cons_append, List.append_nil, true_and, and_true, not_true_eq_false, not_false_eq_true, true_implies, false_implies, implies_true, and_self, Int.reduceLT, Int.reduceLE, Int.reduceEq, Int.reduceNe, Int.reduceAdd, Int.reduceSub, Int.reduceMul, Int.reduceNeg, Int.reduceToNat, Int.toNat_natCast, ↓kk_ck, ↓kk_im, ↓kk_in, s_316_47, s_316_52, s_316_63, ne_eq]
        rw [s_316_65]
        simp (disch := omega) only [Option.toList_some, Option.toList_none, List.nil_append, List.cons_append, List.append_nil, true_and, and_true, not_true_eq_false, not_false_eq_true, true_implies, false_implies, implies_true, and_self, Int.reduceLT, Int.reduceLE, Int.reduceEq, Int.reduceNe, Int.reduceAdd, Int.reduceSub, Int.reduceMul, Int.reduceNeg, Int.reduceToNat, Int.toNat_natCast, ↓kk_ck, ↓kk_im, ↓kk_in, s_316_73, show ((1 : Nat) : Int) = 1 from rfl, @vi_32 ((a : Int) + 1) (by omega) (by omega), @vi_32 ((a : Int) + 1 - 1) (by omega) (by omega)]
        exact last
      · have inner : ∀ j : Nat, j ≤ k0 - 1 - a → ∀ M' : vi_M, mFe (wM M (wR (enB M lw n g m) a k0 j ++ G)) M' → vi_ok GG D 316 65 [some (.inr (.inr 112)), some (.inl 2), some (.inl (g : Int)), some (.inl (m : Int)), some (.inl ((wR (enB M lw n g m) a k0 j ++ G).length : Int)), some (.inl (a : Int)), some (.inl ((k0 : Int) - 1 - (j : Int)))] [] (Y, M', nn) Q := by
          refine vi_dn (P := fun j => ∀ M' : vi_M, mFe (wM M (wR (enB M lw n g m) a k0 j ++ G)) M' → vi_ok GG D 316 65 [some (.inr (.inr 112)), some (.inl 2), some (.inl (g : Int)), some (.inl (m : Int)), some (.inl ((wR (enB M lw n g m) a k0 j ++ G).length : Int)), some (.inl (a : Int)), some (.inl ((k0 : Int) - 1 - (j : Int)))] [] (Y, M', nn) Q) _ ?_ fun j hj ihj => ?_
          · intro M' hf
            have e1 : wR (enB M lw n g m) a k0 (k0 - 1 - a) = wW (enB M lw n g m) 2 k0 a := by unfold wW; rw [if_neg (by omega)]
            rw [e1] at hf ⊢
            have := ih' M' ((k0 : Int) - 1 - ((k0 - 1 - a : Nat) : Int)) hf
            clear ih'
            rw [s_316_65]
            simp (disch := omega) only [Option.toList_some, Option.toList_none, List.nil_append, List.cons_append, List.append_nil, true_and, and_true, not_true_eq_false, not_false_eq_true, true_implies, false_implies, implies_true, and_self, Int.reduceLT, Int.reduceLE, Int.reduceEq, Int.reduceNe, Int.reduceAdd, Int.reduceSub, Int.reduceMul, Int.reduceNeg, Int.reduceToNat, Int.toNat_natCast, ↓kk_ck, ↓kk_im, ↓kk_in, s_316_73, @vi_32 ((a : Int) + 2) (by omega) (by omega), @vi_32 ((a : Int) + 2 - 1) (by omega) (by omega)]
            exact this
          · intro M' hf
            clear ih'
            obtain ⟨b, hb⟩ : ∃ b : Nat, b = k0 - 1 - j := ⟨_, rfl⟩
            have eb : (k0 : Int) - 1 - (j : Int) = (b : Int) := by omega
            have hl2 := wR_l (E := enB M lw n g m) (a := a) (m := k0) j
            have eb2 : vi_w32 ((b : Int) + -1) = (k0 : Int) - 1 - ((j + 1 : Nat) : Int) := by rw [vi_32 (by omega) (by omega)]; omega
            have st := h_316e (Q := Q) (nn := nn) (D := D) hY hS hs hg hm (by omega) (h := 2) (a := a) (b := (b : Int)) (y := (b : Int)) rfl (hl a (by omega)) (hl b (by omega)) (F := wR (enB M lw n g m) a k0 j ++ G) (by rw [List.length_append]; omega) hf (fun M2 f2 => by
              rw [← List.append_assoc] at f2 ⊢
              rw [show (if enB M lw n g m (a : Int) (b : Int) = true then [((a : Int), (b : Int))] else []) ++ wR (enB M lw n g m) a k0 j = wR (enB M lw n g m) a k0 (j + 1) by rw [wR, ← hb]] at f2 ⊢
              have := ihj M2 f2
              clear ihj
              rw [s_316_125]
              simp (disch := omega) only [Option.toList_some, Option.toList_none, List.nil_append, List.cons_append, List.append_nil, true_and, and_true, not_true_eq_false, not_false_eq_true, true_implies, false_implies, implies_true, and_self, Int.reduceLT, Int.reduceLE, Int.reduceEq, Int.reduceNe, Int.reduceAdd, Int.reduceSub, Int.reduceMul, Int.reduceNeg, Int.reduceToNat, Int.toNat_natCast, ↓kk_ck, ↓kk_im, ↓kk_in, eb2]
              exact this)
            clear ihj
            rw [eb, s_316_65]
            simp (disch := omega) only [Option.toList_some, Option.toList_none, List.nil_append, List.cons_append, List.append_nil, true_and, and_true, not_true_eq_false, not_false_eq_true, true_implies, false_implies, implies_true, and_self, Int.reduceLT, Int.reduceLE, Int.reduceEq, Int.reduceNe, Int.reduceAdd, Int.reduceSub, Int.reduceMul, Int.reduceNeg, Int.reduceToNat, Int.toNat_natCast, ↓kk_ck, ↓kk_im, ↓kk_in, s_316_73, @vi_32 ((a : Int) + 2) (by omega) (by omega), @vi_32 ((a : Int) + 2 - 1) (by omega) (by omega)]
            exact st
        have := inner 0 (by omega) M' (by rw [wR, List.nil_append]; exact hf)
        rw [wR, List.nil_append, show (k0 : Int) - 1 - ((0 : Nat) : Int) = (k0 : Int) - 1 by omega] at this
        clear inner ih'
        simp (disch := omega) only [Option.toList_some, Option.toList_none, List.nil_append, List.cons_append, List.append_nil, true_and, and_true, not_true_eq_false, not_false_eq_true, true_implies, false_implies, implies_true, and_self, Int.reduceLT, Int.reduceLE, Int.reduceEq, Int.reduceNe, Int.reduceAdd, Int.reduceSub, Int.reduceMul, Int.reduceNeg, Int.reduceToNat, Int.toNat_natCast, ↓kk_ck, ↓kk_im, ↓kk_in, s_316_47, s_316_57, s_316_61, s_316_63, R1, hm39, @vi_32 ((k0 : Int) - 1) (by omega) (by omega), ne_eq]
        exact this
  have := outer 0 (by omega) (vi_rs M 112 (vi_u (vi_u (M 112) 40 (-1)) 41 (-1))) none (by rw [wfG]; exact mFe_r)
  rw [wfG, List.length_nil, show (k0 : Int) - 1 - ((0 : Nat) : Int) = (k0 : Int) - 1 by omega, show ((0 : Nat) : Int) = 0 from rfl] at this
  clear outer hQ
  have h0 : ¬ (h : Int) = 0 := by omega
  have q39 : vi_u (vi_u (M 112) 40 (-1)) 41 (-1) 39 = (k0 : Int) := by rw [vi_u_o (by omega), vi_u_o (by omega)]; exact h39
  simp (disch := omega) only [Option.toList_some, Option.toList_none, List.nil_append, List.cons_append, List.append_nil, true_and, and_true, not_true_eq_false, not_false_eq_true, true_implies, false_implies, implies_true, and_self, Int.reduceLT, Int.reduceLE, Int.reduceEq, Int.reduceNe, Int.reduceAdd, Int.reduceSub, Int.reduceMul, Int.reduceNeg, Int.reduceToNat, Int.toNat_natCast, ↓kk_ck, ↓kk_im, ↓kk_in, e_316, s_316_0, s_316_5, s_316_10, s_316_31, s_316_38, R1, vi_ms_rs, vi_rs_s, vi_rs_rs, h0, q39, @vi_32 ((k0 : Int) - 1) (by omega) (by omega), ne_eq]
  exact this
theorem k_316z (hY : kY Y 151) {lw : Option (List gCla)} {n : Nat} (hS : mKs M lw n) (hs : mSee M lw n) {g m : Nat} (hg : g ≤ 2) (hm : m ≤ 216) (hD : 47 ≤ D)
    (hQ : ∀ M', mFe (wM M []) M' → Q (some (.inl (vi_b (enB M lw n g m (-1) (-1))))) (Y, M', nn)) : vi_call GG D 316 [.inr (.inr 112), .inl 0, .inl (g : Int), .inl (m : Int)] (Y, M, nn) Q := by
  obtain ⟨D, rfl⟩ : ∃ k, D = k + 1 := ⟨D - 1, by omega⟩
  obtain ⟨R1, -⟩ := y_112 hY (by omega)
  have ho : wfO M (wM M []) := ⟨wM_o (by omega), wM_o (by omega), wM_o (by omega), wM_o (by omega)⟩
  have hs' : mSee (wM M []) lw n := wM_S hs
  have hS' : mKs (wM M []) lw n := mKs_c hS ho.1 fun _ => hs'
  have cont : vi_call GG D 314 [.inr (.inr 112), .inl (-1), .inl (-1), .inl (g : Int), .inl (m : Int)] (Y, wM M [], nn) (fun r w' => vi_ok GG D 316 22 [some (.inr (.inr 112)), some (.inl 0), some (.inl (g : Int)), some (.inl (m : Int)), none, none, none] r.toList w' Q) := by
    refine k_314 hY hS' hs' (.inl rfl) (.inl rfl) hg hm (by omega) fun M2 f2 => ?_
    rw [show sCm (lnT (wM M []) (-1) (lnT (wM M []) (-1) (fun c => mLf (wM M []) lw n c))) g m = enB M lw n g m (-1) (-1) from enB_c ho]
    have := hQ M2 f2
    clear hQ
    cases hb : enB M lw n g m (-1) (-1)
    · rw [hb] at this
      simp (disch := omega) only [Option.toList_some, Option.toList_none, List.nil_append, List.cons_append, List.append_nil, true_and, and_true, not_true_eq_false, not_false_eq_true, true_implies, false_implies, implies_true, and_self, Int.reduceLT, Int.reduceLE, Int.reduceEq, Int.reduceNe, Int.reduceAdd, Int.reduceSub, Int.reduceMul, Int.reduceNeg, Int.reduceToNat, Int.toNat_natCast, ↓kk_ck, ↓kk_im, ↓kk_in, Option.toList, List.append_nil, s_316_22, s_316_29, s_316_30, vi_bf, ne_eq]
      exact this
    · rw [hb] at this
      simp (disch := omega) only [Option.toList_some, Option.toList_none, List.nil_append, List.cons_append, List.append_nil, true_and, and_true, not_true_eq_false, not_false_eq_true, true_implies, false_implies, implies_true, and_self, Int.reduceLT, Int.reduceLE, Int.reduceEq, Int.reduceNe, Int.reduceAdd, Int.reduceSub, Int.reduceMul, Int.reduceNeg, Int.reduceToNat, Int.toNat_natCast, ↓kk_ck, ↓kk_im, ↓kk_in, Option.toList, List.append_nil, s_316_22, s_316_25, s_316_30, vi_bt, ne_eq]
      exact this
  clear hQ
  unfold wM wfA wfB at cont
  dsimp only at cont
  simp (disch := omega) only [Option.toList_some, Option.toList_none, List.nil_append, List.cons_append, List.append_nil, true_and, and_true, not_true_eq_false, not_false_eq_true, true_implies, false_implies, implies_true, and_self, Int.reduceLT, Int.reduceLE, Int.reduceEq, Int.reduceNe, Int.reduceAdd, Int.reduceSub, Int.reduceMul, Int.reduceNeg, Int.reduceToNat, Int.toNat_natCast, ↓kk_ck, ↓kk_im, ↓kk_in, e_316, s_316_0, s_316_5, s_316_10, s_316_14, R1, vi_ms_rs, vi_rs_s, vi_rs_rs, ne_eq]
  exact cont
end
