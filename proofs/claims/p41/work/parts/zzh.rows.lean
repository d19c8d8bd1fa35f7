/-! What is held, over rows that are alike; entries added, taken out, let go. -/
theorem rHs_c {f f' : Nat → Int} {L : List (Nat → Int)} (h : rHs f L) (hp : ∀ k, k < 99 ∨ k = 292 → f' k = f k) : rHs f' L := by
  obtain ⟨h1, h2, h3⟩ := h
  refine ⟨by rw [hp 292 (by omega)]; exact h1, h2, fun r hr => ?_⟩
  obtain ⟨g1, g2, g3, g4⟩ := h3 r hr
  exact ⟨g1, by rw [hp 96 (by omega), hp 97 (by omega), hp 98 (by omega)]; exact g2, fun j hj => by rw [hp _ (by omega)]; exact g3 j hj, by rw [hp _ (by omega)]; exact g4⟩
theorem rRw_c {f f' : Nat → Int} {L : List (Nat → Int)} (h : rRw f L) (hp : ∀ k, (96 ≤ k ∧ k < 99) ∨ (100 ≤ k ∧ k < 132) ∨ k = 293 → f' k = f k) : rRw f' L := by
  obtain ⟨h1, h2, h3⟩ := h
  refine ⟨by rw [hp 293 (by omega)]; exact h1, h2, fun r hr => ?_⟩
  obtain ⟨g2, g3⟩ := h3 r hr
  exact ⟨by rw [hp 96 (by omega), hp 97 (by omega), hp 98 (by omega)]; exact g2, fun j hj => by rw [hp _ (by omega)]; exact g3 j hj⟩
theorem rSc_c {f f' : Nat → Int} {L : List (Nat → Int)} (h : rSc f L) (hp : ∀ k, (96 ≤ k ∧ k < 99) ∨ (132 ≤ k ∧ k < 172) ∨ k = 294 → f' k = f k) : rSc f' L := by
  obtain ⟨h1, h2, h3⟩ := h
  refine ⟨by rw [hp 294 (by omega)]; exact h1, h2, fun r hr => ?_⟩
  obtain ⟨g1, g5, g2, g3⟩ := h3 r hr
  exact ⟨g1, g5, by rw [hp 96 (by omega), hp 97 (by omega), hp 98 (by omega)]; exact g2, fun j hj => by rw [hp _ (by omega)]; exact g3 j hj⟩
theorem rDk_c {f f' g : Nat → Int} (h : rDk f g) (hp : ∀ k, 172 ≤ k ∧ k < 280 → f' k = f k) : rDk f' g := by
  intro a u v ha hu hv
  rw [hp _ (by omega)]
  exact h a u v ha hu hv
theorem rCt_c {f f' g : Nat → Int} (h : rCt f g) (hp : ∀ k, 280 ≤ k ∧ k < 292 → f' k = f k) : rCt f' g := by
  intro i hi
  rw [hp _ (by omega)]
  exact h i hi
theorem rSz_c {f f' g : Nat → Int} (h : rSz f g) (hp : ∀ k, 96 ≤ k ∧ k < 100 → f' k = f k) : rSz f' g := by
  unfold rSz bxF at *
  rw [hp 96 (by omega), hp 97 (by omega), hp 98 (by omega), hp 99 (by omega)]
  exact h
theorem mKj_c {f f' : Nat → Int} {L : Nat} {cs : List gCla} (h : mKj f L cs) (hL : L < 6) (hp : ∀ k, 295 ≤ k ∧ k < 5103 → f' k = f k) : mKj f' L cs := by
  obtain ⟨S, h1, h2, cd, vl, en, fu, i', h3, h4⟩ := h
  exact ⟨S, h1, by rw [hp _ (by omega)]; exact h2, cd, vl, en, fu, i', fun i hi => by rw [hp _ (by omega), hp _ (by omega)]; exact h3 i hi, h4⟩
theorem rLw_c {a : Nat} {CS : Nat → List gCla} {f f' g gl : Nat → Int} (h : rLw a CS f g gl) (hp : ∀ k, 295 ≤ k ∧ k < 5103 → f' k = f k) : rLw a CS f' g gl := by
  obtain ⟨h1, h2, ⟨m, h3, h4, h5, h6, h7⟩, h8⟩ := h
  refine ⟨by rw [hp 295 (by omega)]; exact h1, by rw [hp 296 (by omega)]; exact h2, ⟨m, by rw [hp 295 (by omega)]; exact h3, h4, by rw [hp 296 (by omega)]; exact h5, by rw [hp 296 (by omega)]; exact h6, fun j hj => ?_⟩, h8⟩
  obtain ⟨i, i1, i2, i3⟩ := h7 j hj
  exact ⟨i, i1, i2, mKj_c i3 (by omega) hp⟩
theorem fLw_c {a : Nat} {CS : Nat → List gCla} {f f' gl : Nat → Int} {lw : Option (List gCla)} (h : fLw a CS f gl lw) (hp : ∀ k, 295 ≤ k ∧ k < 5103 → f' k = f k) : fLw a CS f' gl lw := by
  cases lw with
  | none => exact (hp 296 (by omega)).trans h
  | some cs =>
    obtain ⟨L, i, h1, h2, h3, h4, h5, h6, h7⟩ := h
    exact ⟨L, i, (hp 296 (by omega)).trans h1, h2, by rw [hp 295 (by omega)]; exact h3, h4, h5, h6, mKj_c h7 h2 hp⟩
theorem rSz_g {f g g' : Nat → Int} (h : rSz f g) (hp : ∀ k, 8 ≤ k ∧ k < 12 → g' k = g k) : rSz f g' := by
  unfold rSz at *
  rw [hp 8 (by omega), hp 9 (by omega), hp 10 (by omega), hp 11 (by omega)]
  exact h
theorem rLw_g {a : Nat} {CS : Nat → List gCla} {f g g' gl : Nat → Int} (h : rLw a CS f g gl) (h6 : g' 6 = g 6) (h7 : g' 7 = g 7) : rLw a CS f g' gl := ⟨h6.trans h.1, h7.trans h.2.1, h.2.2⟩
/-- the cells depend on HOLES, sizes, the day, the law -/
theorem mHc_f {f f' : Nat → Int} {h i : Nat} (hh : h < 16) (hH : mHo f h) (hp : ∀ k, k < 100 → f' k = f k) : mHc f' h i = mHc f h i := by
  obtain ⟨⟨o1, o2⟩, -⟩ := hH
  unfold mHc
  rw [hp (6 * h) (by omega), hp (6 * h + 1) (by omega), hp (6 * h + 2) (by omega), hp (6 * h + 3) (by omega), hp (6 * h + 4) (by omega), hp (6 * h + 5) (by omega)]
  unfold mHl
  rw [hp (96 + (f (6 * h)).toNat) (by omega)]
  have e : ∀ x y z : Int, mIb f' x y z = mIb f x y z := fun x y z => by
    unfold mIb
    rw [hp (if x = 0 then 97 else 96) (by split <;> omega), hp (if x = 2 then 97 else 98) (by split <;> omega)]
  rw [e]
theorem mSt_f {f f' : Nat → Int} {h : Nat} {c : Int} (hh : h < 16) (hH : mHo f h) (hp : ∀ k, k < 100 → f' k = f k) : ∀ k i, mSt f' h c k i = mSt f h c k i
  | 0, _ => rfl
  | k + 1, i => by rw [mSt, mSt, mHc_f hh hH hp, mSt_f hh hH hp k (i + 1)]
theorem mAt_f {f f' : Nat → Int} {c : Int} (hp : ∀ k, k < 100 → f' k = f k) : ∀ n, n ≤ 16 → (∀ h, h < n → mHo f h) → mAt f' c n = mAt f c n
  | 0, _, _ => rfl
  | n + 1, hn, hH => by rw [mAt, mAt, mAt_f hp n (by omega) (fun h hh => hH h (by omega)), mSt_f (by omega) (hH n (by omega)) hp]
theorem mBe_f {f f' : Nat → Int} {c : Int} {d : Nat} (hd : d < 6) (hp : ∀ k, k < 100 → f' k = f k) : mBe (rowM f') c d = mBe (rowM f) c d := by
  unfold mBe rowM
  rw [hp (96 + d / 2) (by omega)]
theorem mRn_f {f f' : Nat → Int} {c : Int} (hp : ∀ k, k < 100 → f' k = f k) : ∀ d, d ≤ 6 → mRn (rowM f') c d = mRn (rowM f) c d
  | 0, _ => rfl
  | d + 1, hd => by rw [mRn, mRn, mRn_f hp d (by omega), mBe_f (by omega) hp]
theorem mT_f {f f' : Nat → Int} {c h : Int} {lw : Option (List gCla)} (hp : ∀ k, k < 100 → f' k = f k) : mT (rowM f') c h lw = mT (rowM f) c h lw := by
  have e : mWd (rowM f') c h = mWd (rowM f) c h := by
    funext k
    unfold mWd
    rw [mRn_f hp 6 (Nat.le_refl _), show rowM f' 114 99 = rowM f 114 99 from hp 99 (by omega)]
  cases lw with
  | none => rfl
  | some cs =>
    show ((mA (rowM f') c h cs).1, (mA (rowM f') c h cs).2.1, mCl (mA (rowM f') c h cs).2.2) = _
    unfold mA
    rw [e]
    rfl
theorem mIcb_g {f f' : Nat → Int} {c : Int} (hp : ∀ k, k < 100 → f' k = f k) : mIcb f' c = mIcb f c := by
  unfold mIcb
  rw [hp 96 (by omega), hp 97 (by omega), hp 98 (by omega)]
theorem jV_f {M : vi_M} {f f' : Nat → Int} {lw : Option (List gCla)} {n : Nat} (h : jV M f lw n) (hp : ∀ k, k < 100 → f' k = f k) (hn : n ≤ 16) (hH : ∀ h, h < n → mHo f h) : jV M f' lw n := by
  have e1 : bxS f' = bxS f := funext fun c => mIcb_g hp
  have e2 : ∀ c, tlS f' lw n c = tlS f lw n c := fun c => by unfold tlS; rw [mAt_f hp n hn hH, mT_f hp]
  have e3 : lfS f' lw n = lfS f lw n := funext fun c => by
    show (mIcb f' c && decide (mAt f' (c : Int) n = 0) && !(tlS f' lw n c).1) = (mIcb f c && decide (mAt f (c : Int) n = 0) && !(tlS f lw n c).1)
    rw [mIcb_g hp, mAt_f hp n hn hH, e2]
  have e4 : shS f' lw n = shS f lw n := funext fun c => by unfold shS; rw [e2, mIcb_g hp]
  obtain ⟨h1, h2, h3, h4, h5⟩ := h
  refine ⟨fun c hc => by rw [mAt_f hp n hn hH]; exact h1 c hc, fun c hc hb => ?_, by rw [e1]; exact h3, by rw [e3]; exact h4, by rw [e4]; exact h5⟩
  rw [e1] at hb
  rw [e2]
  exact h2 c hc hb
theorem rHs_o {f : Nat → Int} {L : List (Nat → Int)} (h : rHs f L) : ∀ i, i < L.length → mHo f i := fun i hi => rHo_o (h.2.2 i hi).2.2 (h.2.2 i hi).1
/-- lists: entries by number -/
theorem rL_all {P : (Nat → Int) → Prop} {L : List (Nat → Int)} : (∀ r, r < L.length → P (rL L r)) ↔ ∀ v, v ∈ L → P v := by
  induction L with
  | nil => exact ⟨fun _ v hv => (by cases hv), fun _ r hr => absurd hr (Nat.not_lt_zero _)⟩
  | cons x L ih =>
    refine ⟨fun h v hv => ?_, fun h r hr => ?_⟩
    · rcases List.mem_cons.mp hv with rfl | hv
      · exact h 0 (Nat.succ_pos _)
      · exact ih.mp (fun r hr => h (r + 1) (Nat.succ_lt_succ hr)) v hv
    · cases r with
      | zero => exact h x (List.mem_cons.mpr (.inl rfl))
      | succ r => exact ih.mpr (fun v hv => h v (List.mem_cons.mpr (.inr hv))) r (Nat.lt_of_succ_lt_succ hr)
theorem rL_er {A D : List (Nat → Int)} {v : Nat → Int} : ∀ r j, A.length ≤ r → rL (A ++ v :: D) (r + 1) j = rL (A ++ D) r j := by
  induction A with
  | nil => intro r j _; rfl
  | cons x A ih =>
    intro r j h
    cases r with
    | zero => exact absurd h (Nat.not_succ_le_zero _)
    | succ r => exact ih r j (Nat.le_of_succ_le_succ h)
theorem rL_at {A D : List (Nat → Int)} {v : Nat → Int} {j : Nat} : rL (A ++ v :: D) A.length j = v j := by
  induction A with
  | nil => rfl
  | cons x A ih => exact ih
theorem ls_split {L : List (Nat → Int)} : ∀ {i : Nat}, i < L.length → ∃ A v D, L = A ++ v :: D ∧ A.length = i := by
  induction L with
  | nil => intro i h; exact absurd h (Nat.not_lt_zero _)
  | cons x L ih =>
    intro i h
    cases i with
    | zero => exact ⟨[], x, L, rfl, rfl⟩
    | succ i =>
      obtain ⟨A, v, D, h1, h2⟩ := ih (Nat.lt_of_succ_lt_succ h)
      exact ⟨x :: A, v, D, by rw [h1]; rfl, by rw [List.length_cons, h2]⟩
theorem ls_last {A : List (Nat → Int)} {j : Nat} (h : A.length = j + 1) : ∃ B v, A = B ++ [v] ∧ B.length = j := by
  obtain ⟨B, v, D, h1, h2⟩ := ls_split (L := A) (i := j) (by omega)
  refine ⟨B, v, ?_, h2⟩
  cases D with
  | nil => exact h1
  | cons x D =>
    rw [h1, List.length_append, List.length_cons, List.length_cons] at h
    omega
theorem ls_len {A D : List (Nat → Int)} {v : Nat → Int} : (A ++ v :: D).length = (A ++ D).length + 1 := by
  rw [List.length_append, List.length_append, List.length_cons]; omega
/-- entries of a row, w numbers each (the sixth counted from 1 on) -/
def lsE (f : Nat → Int) (b w cnt : Nat) (L : List (Nat → Int)) : Prop := f cnt = (L.length : Int) ∧ ∀ r j : Nat, r < L.length → j < w → f (b + w * r + j) = rL L r j + (if j = 5 then 1 else 0)
theorem lsE_out {f : Nat → Int} {b w cnt : Nat} {A D : List (Nat → Int)} {v : Nat → Int} (h : lsE f b w cnt (A ++ v :: D)) (hL : mLm b w cnt (A ++ v :: D).length) : lsE (mOut f b w cnt (w * A.length) (w * ((A ++ v :: D).length - 1)) (((A ++ v :: D).length - 1 : Nat) : Int)) b w cnt (A ++ D) := by
  obtain ⟨h1, h2⟩ := h
  obtain ⟨hw, m1, m2, m3, m4⟩ := hL
  have hl := ls_len (A := A) (D := D) (v := v)
  have hA : A.length ≤ (A ++ D).length := by rw [List.length_append]; omega
  refine ⟨?_, fun r j hr hj => ?_⟩
  · show (if cnt = cnt then _ else _) = _
    rw [if_pos rfl, hl]; rfl
  · by_cases hr' : r < A.length
    · have e := h2 r j (by omega) hj
      have ea : rL (A ++ D) r j = rL (A ++ v :: D) r j := by rw [rL_l hr', rL_l hr']
      rw [ea, ← e]
      unfold mOut
      generalize (A ++ v :: D).length = N1 at *
      generalize (A ++ D).length = N at *
      generalize A.length = p at *
      obtain rfl | rfl | rfl := hw
      all_goals rw [if_neg (by omega), if_neg (by omega)]
    · have e := h2 (r + 1) j (by omega) hj
      rw [rL_er r j (by omega)] at e
      rw [← e]
      unfold mOut
      generalize (A ++ v :: D).length = N1 at *
      generalize (A ++ D).length = N at *
      generalize A.length = p at *
      obtain rfl | rfl | rfl := hw
      all_goals
        rw [if_neg (by omega), if_pos (by omega)]
        exact congrArg f (by omega)
/-- what doesn't lie in the box any more goes out -/
theorem mGo_e {b w cnt : Nat} {x y z : Int} : ∀ (j : Nat) (A D : List (Nat → Int)) (f : Nat → Int), A.length = j → lsE f b w cnt (A ++ D) → mLm b w cnt (A ++ D).length → f 96 = x → f 97 = y → f 98 = z → lsE (mGo b w cnt j f) b w cnt (gFl x y z A ++ D) := by
  intro j
  induction j with
  | zero =>
    intro A D f hA h _ _ _ _
    rw [List.eq_nil_of_length_eq_zero hA] at h ⊢
    exact h
  | succ j ih =>
    intro A D f hA h hL hx hy hz
    obtain ⟨B, v, rfl, hB⟩ := ls_last hA
    have e0 : B ++ [v] ++ D = B ++ v :: D := by rw [List.append_assoc]; rfl
    rw [e0] at h hL
    have hl := ls_len (A := B) (D := D) (v := v)
    have hBl : B.length ≤ (B ++ D).length := by rw [List.length_append]; omega
    have hw : 4 ≤ w := by obtain ⟨hw, -⟩ := hL; omega
    have q : ∀ i, i < 3 → f (b + w * j + i) = v i := fun i hi => by
      have := h.2 j i (by omega) (by omega)
      rw [if_neg (by omega), ← hB, rL_at, Int.add_zero] at this
      rw [← hB]; exact this
    have eF : gFl x y z (B ++ [v]) = gFl x y z B ++ (if gPl x y z (v 0) (v 1) (v 2) = true then [v] else []) := by
      unfold gFl
      rw [List.filter_append]
      congr 1
      by_cases hp : gPl x y z (v 0) (v 1) (v 2) = true
      · rw [if_pos hp, List.filter_cons, if_pos hp]; rfl
      · rw [if_neg hp, List.filter_cons, if_neg hp]; rfl
    have hm : mIb f (f (b + w * j)) (f (b + w * j + 1)) (f (b + w * j + 2)) = gPl x y z (v 0) (v 1) (v 2) := by
      rw [hc_ib, hx, hy, hz]
      have q0 := q 0 (by omega)
      rw [Nat.add_zero] at q0
      rw [q0, q 1 (by omega), q 2 (by omega)]
    rw [mGo, hm, eF]
    by_cases hp : gPl x y z (v 0) (v 1) (v 2) = true
    · rw [if_pos hp, if_pos hp, List.append_assoc]
      exact ih B (v :: D) f hB h hL hx hy hz
    · rw [if_neg hp, if_neg hp, List.append_nil]
      have hc := h.1
      have en : (f cnt).toNat = (B ++ v :: D).length := by rw [hc]; rfl
      rw [en, ← hB]
      have ho := lsE_out h hL
      have hL' := mLm_le hL (N' := (B ++ D).length) (by omega)
      have hk : ∀ k, 96 ≤ k ∧ k < 99 → mOut f b w cnt (w * B.length) (w * ((B ++ v :: D).length - 1)) (((B ++ v :: D).length - 1 : Nat) : Int) k = f k := fun k hk => mOut_o hL (by omega) (by obtain ⟨-, -, -, m3, m4⟩ := hL; omega) (by obtain ⟨-, m1, m2, -⟩ := hL; omega)
      have := ih B D _ hB ho hL' (by rw [hk 96 (by omega)]; exact hx) (by rw [hk 97 (by omega)]; exact hy) (by rw [hk 98 (by omega)]; exact hz)
      rw [hB] at this ⊢
      exact this
/-- HOLES, ROWS, SCREWS as entries -/
theorem rHs_e {f : Nat → Int} {L : List (Nat → Int)} : rHs f L ↔ lsE f 0 6 292 L ∧ L.length ≤ 16 ∧ ∀ v, v ∈ L → gH v ∧ gPl (f 96) (f 97) (f 98) (v 0) (v 1) (v 2) = true := by
  refine ⟨fun ⟨h1, h2, h3⟩ => ⟨⟨h1, fun r j hr hj => ?_⟩, h2, rL_all.mp fun r hr => ⟨(h3 r hr).1, (h3 r hr).2.1⟩⟩, fun ⟨⟨h1, h4⟩, h2, h3⟩ => ⟨h1, h2, fun r hr => ?_⟩⟩
  · obtain ⟨g1, g2, g3, g4⟩ := h3 r hr
    rw [Nat.zero_add]
    by_cases e : j = 5
    · subst e; rw [if_pos rfl]; exact g4
    · rw [if_neg e, Int.add_zero]; exact g3 j (by omega)
  · have g := (rL_all (P := fun v => gH v ∧ gPl (f 96) (f 97) (f 98) (v 0) (v 1) (v 2) = true)).mpr h3 r hr
    refine ⟨g.1, g.2, fun j hj => ?_, ?_⟩
    · have := h4 r j hr (by omega)
      rw [Nat.zero_add, if_neg (by omega), Int.add_zero] at this
      exact this
    · have := h4 r 5 hr (by omega)
      rw [Nat.zero_add, if_pos rfl] at this
      exact this
theorem rRw_e {f : Nat → Int} {L : List (Nat → Int)} : rRw f L ↔ lsE f 100 4 293 L ∧ L.length ≤ 8 ∧ ∀ v, v ∈ L → gPl (f 96) (f 97) (f 98) (v 0) (v 1) (v 2) = true := by
  refine ⟨fun ⟨h1, h2, h3⟩ => ⟨⟨h1, fun r j hr hj => ?_⟩, h2, rL_all.mp fun r hr => (h3 r hr).1⟩, fun ⟨⟨h1, h4⟩, h2, h3⟩ => ⟨h1, h2, fun r hr => ?_⟩⟩
  · rw [if_neg (by omega), Int.add_zero]; exact (h3 r hr).2 j hj
  · refine ⟨(rL_all (P := fun v => gPl (f 96) (f 97) (f 98) (v 0) (v 1) (v 2) = true)).mpr h3 r hr, fun j hj => ?_⟩
    have := h4 r j hr (by omega)
    rw [if_neg (by omega), Int.add_zero] at this
    exact this
theorem rSc_e {f : Nat → Int} {L : List (Nat → Int)} : rSc f L ↔ lsE f 132 5 294 L ∧ L.length ≤ 8 ∧ ∀ v, v ∈ L → gH v ∧ v 5 = 0 ∧ gPl (f 96) (f 97) (f 98) (v 0) (v 1) (v 2) = true := by
  refine ⟨fun ⟨h1, h2, h3⟩ => ⟨⟨h1, fun r j hr hj => ?_⟩, h2, rL_all.mp fun r hr => ⟨(h3 r hr).1, (h3 r hr).2.1, (h3 r hr).2.2.1⟩⟩, fun ⟨⟨h1, h4⟩, h2, h3⟩ => ⟨h1, h2, fun r hr => ?_⟩⟩
  · rw [if_neg (by omega), Int.add_zero]; exact (h3 r hr).2.2.2 j hj
  · have g := (rL_all (P := fun v => gH v ∧ v 5 = 0 ∧ gPl (f 96) (f 97) (f 98) (v 0) (v 1) (v 2) = true)).mpr h3 r hr
    refine ⟨g.1, g.2.1, g.2.2, fun j hj => ?_⟩
    have := h4 r j hr (by omega)
    rw [if_neg (by omega), Int.add_zero] at this
    exact this
/-- the class's rows: an entry more, one less -/
def vV (a u v e p l : Int) : Nat → Int := fun j => if j = 0 then a else if j = 1 then u else if j = 2 then v else if j = 3 then e else if j = 4 then p else l
theorem rOK_add {f g : Nat → Int} {L : List (Nat → Int)} {v : Nat → Int} (h : rOK f g L) : rOK (vi_u f 2 ((L.length + 1 : Nat) : Int)) (rPut g L.length v) (L ++ [v]) := by
  refine ⟨by rw [vi_u_s, List.length_append]; rfl, fun r j hr hj => ?_⟩
  rw [List.length_append] at hr
  have hr : r < L.length + 1 := hr
  unfold rPut
  by_cases e : r = L.length
  · subst e
    rw [if_pos (by omega), show 6 * L.length + j - 6 * L.length = j by omega, rL_r]
  · rw [if_neg (by omega), rL_l (by omega)]
    exact h.2 r j (by omega) hj
theorem rOK_out {f g : Nat → Int} {A D : List (Nat → Int)} {v : Nat → Int} (h : rOK f g (A ++ v :: D)) : rOK (vi_u f 2 (((A ++ v :: D).length - 1 : Nat) : Int)) (rDr g A.length ((A ++ v :: D).length - 1)) (A ++ D) := by
  have hl := ls_len (A := A) (D := D) (v := v)
  have hA : A.length ≤ (A ++ D).length := by rw [List.length_append]; omega
  refine ⟨by rw [vi_u_s, hl]; rfl, fun r j hr hj => ?_⟩
  unfold rDr
  by_cases hr' : r < A.length
  · rw [if_neg (by omega), rL_l hr', ← rL_l (B := v :: D) hr']
    exact h.2 r j (by omega) hj
  · rw [if_pos (by omega), ← rL_er (v := v) r j (by omega), ← h.2 (r + 1) j (by omega) hj]
    exact congrArg g (by omega)
theorem lsE_add {f f' : Nat → Int} {b w cnt : Nat} {L : List (Nat → Int)} {v : Nat → Int} (hw : w = 4 ∨ w = 5 ∨ w = 6) (h : lsE f b w cnt L) (hc : f' cnt = ((L.length + 1 : Nat) : Int)) (hb : b + w * (L.length + 1) ≤ cnt) (ho : ∀ k, b ≤ k → k < b + w * L.length → f' k = f k) (hv : ∀ j, j < w → f' (b + w * L.length + j) = v j + (if j = 5 then 1 else 0)) : lsE f' b w cnt (L ++ [v]) := by
  refine ⟨by rw [hc, List.length_append]; rfl, fun r j hr hj => ?_⟩
  rw [List.length_append] at hr
  have hr : r < L.length + 1 := hr
  by_cases e : r = L.length
  · subst e; rw [rL_r]; exact hv j hj
  · rw [rL_l (by omega), ← h.2 r j (by omega) hj]
    exact ho _ (by obtain rfl | rfl | rfl := hw <;> omega) (by obtain rfl | rfl | rfl := hw <;> omega)
