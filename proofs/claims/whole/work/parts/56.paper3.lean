/-! Contracts of Paper, third part. -/
section
variable {d : Nat} {K : Option vi_V → vi_W → Prop} {Y : vi_Y} {M : vi_M} {n : Nat × Nat} {P B R T S : Nat → Bool}
/-- with two HOLES more -/
theorem k_90 (hY : kY Y 151) {L : List Nat} (hL : lnR (M 78) L) (h108 : L.length ≤ 108) (hl : ∀ i, i < L.length → L.getD i 0 < 108) (hP : M 66 = cR P) {f : Nat → Int} (hf8 : f 8 = (L.length : Int)) {s : Int × Int × Int × Int} (hs0 : s.2.1 = 0) {M0 : vi_M} (hM0 : pS M f s M0) {g m : Nat} (hg : g ≤ 2) (hm : m ≤ 216) :
    ∃ M', pS M f (fd2 P g m L s) M' ∧ ∀ K : Option vi_V → vi_W → Prop, vi_call GG (d + 6) 90 [.inr (.inr 77), .inl (g : Int), .inl (m : Int)] (Y, M0, n) K ↔ K none (Y, M', n) := by
  obtain ⟨a1, a2, a3, a4, a5, a6, a7, a8, a9⟩ := y_77 hY (by omega)
  obtain ⟨c1, c2, c3, c4, c5, c6, c7, c8, c9⟩ := y_60 hY (by omega)
  have p1 := kC_80 hY (by omega)
  have p3 := kC_82 hY (by omega)
  have p2 := kC_65 hY (by omega)
  have main : ∀ Q : Option vi_V → vi_W → Prop, (∀ M', pS M f (fd2 P g m L s) M' → Q none (Y, M', n)) → vi_call GG (d + 6) 90 [.inr (.inr 77), .inl (g : Int), .inl (m : Int)] (Y, M0, n) Q := by
    intro Q hQ
    have loop : ∀ i : Nat, i ≤ L.length → ∀ (l4 : Option vi_V) (t : Int × Int × Int × Int) (M' : vi_M), pS M f t M' → fd2 P g m (L.drop i) t = fd2 P g m L s → (0 ≤ t.2.1 ∧ t.2.1 ≤ 108 * (i : Int)) → vi_ok GG (d + 5) 90 2 [some (.inr (.inr 77)), some (.inl (g : Int)), some (.inl (m : Int)), some (.inl (i : Int)), l4] [] (Y, M', n) Q := by
      refine vi_dn L.length ?_ fun i hi ih => ?_
      · intro l4 t M' hM' ht hr
        have e8 : M' 77 8 = (L.length : Int) := by rw [hM'.2.2.2.2.1]; exact hf8
        rw [s_90_2]
        simp (disch := omega) only [Option.toList_some, Option.toList_none, List.nil_append, List.cons_append, List.append_nil, true_and, and_true, not_true_eq_false, not_false_eq_true, true_implies, false_implies, implies_true, and_self, Int.reduceLT, Int.reduceLE, Int.reduceEq, Int.reduceNe, Int.reduceAdd, Int.reduceSub, Int.reduceMul, Int.reduceNeg, Int.reduceToNat, Int.toNat_natCast, ↓kk_ck, ↓kk_im, ↓kk_in, s_90_0, s_90_10, s_90_50, s_90_87, s_90_103, s_90_109, s_90_115, s_90_7, s_90_14, s_90_47, s_90_54, s_90_94, s_90_18, s_90_58, s_90_100, s_90_21, s_90_61, s_90_24, s_90_65, s_90_28, s_90_71, s_90_33, s_90_74, s_90_36, s_90_79, s_90_84, a1, e8]
        refine hQ M' ?_
        rw [List.drop_length] at ht
        rw [← ht]
        exact hM'
      · intro l4 t M' hM' ht hr
        obtain ⟨⟨B1, e1⟩, ⟨B2, e2⟩, ⟨B3, e3⟩, ⟨B4, e4⟩, e5, e6⟩ := hM'
        have e8 : M' 77 8 = (L.length : Int) := by rw [e5]; exact hf8
        have eP : M' 66 = cR P := by rw [e6 66 (by omega) (by omega) (by omega) (by omega) (by omega)]; exact hP
        have eL : lnR (M' 78) L := by rw [e6 78 (by omega) (by omega) (by omega) (by omega) (by omega)]; exact hL
        have k4 := fun {K : Option vi_V → vi_W → Prop} => @k_4 (d + 4) 80 65 K Y M' n B1 P p1 p2 (by omega) e1 eP
        have k87 := fun {K : Option vi_V → vi_W → Prop} => @k_87 (d + 4) K Y (vi_rs M' 81 (cR P)) n hY L (by simp (disch := omega) only [vi_rs_s, vi_rs_o]; exact eL) (by simp (disch := omega) only [vi_rs_s, vi_rs_o]; exact e8) h108 i hi
        have k88 := fun {K : Option vi_V → vi_W → Prop} => @k_88 (d + 3) K Y (vi_rs M' 81 (cR P)) n P 80 p1 vi_rs_s (L.getD i 0) (hl i hi)
        rw [dropc hi] at ht
        obtain ⟨l, hl'⟩ : ∃ l, L.getD i 0 = l := ⟨_, rfl⟩
        rw [hl'] at ht
        simp only [hl'] at k87 k88
        simp only [vi_rs_rs] at k88
        have hp0 : pS M f t (vi_rs M' 81 (cR (sTk P l))) := ⟨⟨_, vi_rs_s⟩, ⟨_, by simp (disch := omega) only [vi_rs_s, vi_rs_o]; exact e2⟩, ⟨_, by simp (disch := omega) only [vi_rs_s, vi_rs_o]; exact e3⟩, ⟨_, by simp (disch := omega) only [vi_rs_s, vi_rs_o]; exact e4⟩, by simp (disch := omega) only [vi_rs_s, vi_rs_o]; exact e5, fun p h1 h2 h3 h4 h5 => by rw [vi_rs_o h2]; exact e6 p h1 h2 h3 h4 h5⟩
        have inner : ∀ j : Nat, j ≤ L.length → i < j → ∀ (u : Int × Int × Int × Int) (M' : vi_M), pS M f u M' → M' 81 = cR (sTk P l) → fd2 P g m (L.drop (i + 1)) (fdj P g m l (L.drop j) u) = fd2 P g m L s → (0 ≤ u.2.1 ∧ u.2.1 ≤ 108 * (i : Int) + (j : Int)) → vi_ok GG (d + 5) 90 41 [some (.inr (.inr 77)), some (.inl (g : Int)), some (.inl (m : Int)), some (.inl (i : Int)), some (.inl (j : Int))] [] (Y, M', n) Q := by
          clear eP eL k4 k87 k88 hp0 e1 e2 e3 e4 e5 e6 e8 ht hr
          refine vi_dn L.length ?_ fun j hj ihj => ?_
          · intro hij u M' hM' h81 hu hr
            have e8 : M' 77 8 = (L.length : Int) := by rw [hM'.2.2.2.2.1]; exact hf8
            have := ih (some (.inl (L.length : Int))) u M' hM' (by rw [List.drop_length] at hu; exact hu) (by omega)
            clear ih hQ hL hP hM0 hM' hl
            rw [s_90_41]
            simp (disch := omega) only [Option.toList_some, Option.toList_none, List.nil_append, List.cons_append, List.append_nil, true_and, and_true, not_true_eq_false, not_false_eq_true, true_implies, false_implies, implies_true, and_self, Int.reduceLT, Int.reduceLE, Int.reduceEq, Int.reduceNe, Int.reduceAdd, Int.reduceSub, Int.reduceMul, Int.reduceNeg, Int.reduceToNat, Int.toNat_natCast, ↓kk_ck, ↓kk_im, ↓kk_in, s_90_0, s_90_10, s_90_50, s_90_87, s_90_103, s_90_109, s_90_115, s_90_7, s_90_14, s_90_47, s_90_54, s_90_94, s_90_18, s_90_58, s_90_100, s_90_21, s_90_61, s_90_24, s_90_65, s_90_28, s_90_71, s_90_33, s_90_74, s_90_36, s_90_79, s_90_84, a1, e8, vi_inc]
            exact this
          · intro hij u M' hM' h81 hu hr
            obtain ⟨-, ⟨B2, e2⟩, ⟨B3, e3⟩, ⟨B4, e4⟩, e5, e6⟩ := hM'
            have e8 : M' 77 8 = (L.length : Int) := by rw [e5]; exact hf8
            have eL : lnR (M' 78) L := by rw [e6 78 (by omega) (by omega) (by omega) (by omega) (by omega)]; exact hL
            have k4 := fun {K : Option vi_V → vi_W → Prop} => @k_4 (d + 4) 82 80 K Y M' n B2 (sTk P l) p3 p1 (by omega) e2 h81
            have k87 := fun {K : Option vi_V → vi_W → Prop} => @k_87 (d + 4) K Y (vi_rs M' 83 (cR (sTk P l))) n hY L (by simp (disch := omega) only [vi_rs_s, vi_rs_o]; exact eL) (by simp (disch := omega) only [vi_rs_s, vi_rs_o]; exact e8) h108 j hj
            have k88 := fun {K : Option vi_V → vi_W → Prop} => @k_88 (d + 3) K Y (vi_rs M' 83 (cR (sTk P l))) n (sTk P l) 82 p3 vi_rs_s (L.getD j 0) (hl j hj)
            rw [dropc hj] at hu
            obtain ⟨o, ho⟩ : ∃ o, L.getD j 0 = o := ⟨_, rfl⟩
            rw [ho] at hu
            simp only [ho] at k87 k88
            simp only [vi_rs_rs] at k88
            obtain ⟨R', T', k92⟩ := k_92 (d := d) (n := n) (M := vi_rs M' 83 (cR (sTk (sTk P l) o))) (R := B3) (T := B4) hY p3 (by omega) vi_rs_s (by simp (disch := omega) only [vi_rs_s, vi_rs_o]; exact e3) (by simp (disch := omega) only [vi_rs_s, vi_rs_o]; exact e4) hg hm
            generalize hM2 : vi_rs (vi_rs (vi_rs M' 83 (cR (sTk (sTk P l) o))) 85 (cR R')) 87 (cR T') = M2 at k92
            have f5 : M2 77 = nF f u := by rw [← hM2]; simp (disch := omega) only [vi_rs_s, vi_rs_o]; exact e5
            have f8 : M2 77 8 = (L.length : Int) := by rw [f5]; exact hf8
            have f1 : M2 81 = cR (sTk P l) := by rw [← hM2]; simp (disch := omega) only [vi_rs_s, vi_rs_o]; exact h81
            have k87i := fun {K : Option vi_V → vi_W → Prop} => @k_87 (d + 4) K Y M2 n hY L (by rw [← hM2]; simp (disch := omega) only [vi_rs_s, vi_rs_o]; exact eL) f8 h108 i hi
            have k87j := fun {K : Option vi_V → vi_W → Prop} => @k_87 (d + 4) K Y M2 n hY L (by rw [← hM2]; simp (disch := omega) only [vi_rs_s, vi_rs_o]; exact eL) f8 h108 j hj
            have k91 := fun {K : Option vi_V → vi_W → Prop} {h l o : Int} => @k_91 (d + 4) K Y M2 n hY f u f5 (by omega) h l o
            have hp2 : pS M f u M2 := ⟨⟨_, f1⟩, ⟨_, by rw [← hM2]; simp (disch := omega) only [vi_rs_s, vi_rs_o]; rfl⟩, ⟨_, by rw [← hM2]; simp (disch := omega) only [vi_rs_s, vi_rs_o]; rfl⟩, ⟨_, by rw [← hM2]; simp (disch := omega) only [vi_rs_s, vi_rs_o]; rfl⟩, f5, fun p h1 h2 h3 h4 h5 => by rw [← hM2]; simp (disch := omega) only [vi_rs_s, vi_rs_o]; exact e6 p h1 h2 h3 h4 h5⟩
            simp only [Nat.add_assoc, Nat.reduceAdd] at k4 k87 k88 k92 k87i k87j k91
            simp only [hl'] at k87i
            simp only [ho] at k87j
            have hfold : fdj P g m l (o :: L.drop (j + 1)) u = fdj P g m l (L.drop (j + 1)) (if sCm (sTk (sTk P l) o) g m = true then nt u 2 (l : Int) (o : Int) else u) := rfl
            rw [hfold] at hu
            rw [s_90_41]
            cases hcm : sCm (sTk (sTk P l) o) g m
            · rw [if_neg (by rw [hcm]; simp)] at hu
              have := ihj (by omega) u M2 hp2 f1 hu (by omega)
              clear hP hL hM0 ih ihj hQ hl hm hg
              simp (disch := omega) only [Option.toList_some, Option.toList_none, List.nil_append, List.cons_append, List.append_nil, true_and, and_true, not_true_eq_false, not_false_eq_true, true_implies, false_implies, implies_true, and_self, Int.reduceLT, Int.reduceLE, Int.reduceEq, Int.reduceNe, Int.reduceAdd, Int.reduceSub, Int.reduceMul, Int.reduceNeg, Int.reduceToNat, Int.toNat_natCast, ↓kk_ck, ↓kk_im, ↓kk_in, s_90_0, s_90_10, s_90_50, s_90_87, s_90_103, s_90_109, s_90_115, s_90_7, s_90_14, s_90_47, s_90_54, s_90_94, s_90_18, s_90_58, s_90_100, s_90_21, s_90_61, s_90_24, s_90_65, s_90_28, s_90_71, s_90_33, s_90_74, s_90_36, s_90_79, s_90_84, a1, a2, a3, a4, a5, a6, a7, a8, a9, p1.1, p3.1, e8, k4, k87, k88, vi_rs_rs, k92, hcm, vi_bf, vi_inc]
              exact this
            · rw [if_pos hcm] at hu
              have hr' := nt_r (h := 2) (l := (l : Int)) (o := (o : Int)) hr (by omega)
              have := ihj (by omega) _ (vi_rs M2 77 (nF f (nt u 2 (l : Int) (o : Int)))) ⟨⟨_, by simp (disch := omega) only [vi_rs_s, vi_rs_o]; exact f1⟩, ⟨_, by rw [← hM2]; simp (disch := omega) only [vi_rs_s, vi_rs_o]; rfl⟩, ⟨_, by rw [← hM2]; simp (disch := omega) only [vi_rs_s, vi_rs_o]; rfl⟩, ⟨_, by rw [← hM2]; simp (disch := omega) only [vi_rs_s, vi_rs_o]; rfl⟩, vi_rs_s, fun p h1 h2 h3 h4 h5 => by rw [vi_rs_o h1]; exact hp2.2.2.2.2.2 p h1 h2 h3 h4 h5⟩ (by simp (disch := omega) only [vi_rs_s, vi_rs_o]; exact f1) hu (by omega)
              clear hP hL hM0 ih ihj hQ hl hm hg
              simp (disch := omega) only [Option.toList_some, Option.toList_none, List.nil_append, List.cons_append, List.append_nil, true_and, and_true, not_true_eq_false, not_false_eq_true, true_implies, false_implies, implies_true, and_self, Int.reduceLT, Int.reduceLE, Int.reduceEq, Int.reduceNe, Int.reduceAdd, Int.reduceSub, Int.reduceMul, Int.reduceNeg, Int.reduceToNat, Int.toNat_natCast, ↓kk_ck, ↓kk_im, ↓kk_in, s_90_0, s_90_10, s_90_50, s_90_87, s_90_103, s_90_109, s_90_115, s_90_7, s_90_14, s_90_47, s_90_54, s_90_94, s_90_18, s_90_58, s_90_100, s_90_21, s_90_61, s_90_24, s_90_65, s_90_28, s_90_71, s_90_33, s_90_74, s_90_36, s_90_79, s_90_84, a1, a2, a3, a4, a5, a6, a7, a8, a9, p1.1, p3.1, e8, k4, k87, k88, vi_rs_rs, k92, hcm, vi_bt, vi_inc, k87i, k87j, k91]
              exact this
        have := inner (i + 1) (by omega) (by omega) t _ hp0 vi_rs_s ht (by omega)
        simp only [Nat.add_assoc, Nat.reduceAdd] at k4 k87 k88
        clear hP hL hM0 ih inner hQ hl hm hg
        rw [s_90_2]
        simp (disch := omega) only [Option.toList_some, Option.toList_none, List.nil_append, List.cons_append, List.append_nil, true_and, and_true, not_true_eq_false, not_false_eq_true, true_implies, false_implies, implies_true, and_self, Int.reduceLT, Int.reduceLE, Int.reduceEq, Int.reduceNe, Int.reduceAdd, Int.reduceSub, Int.reduceMul, Int.reduceNeg, Int.reduceToNat, Int.toNat_natCast, ↓kk_ck, ↓kk_im, ↓kk_in, s_90_0, s_90_10, s_90_50, s_90_87, s_90_103, s_90_109, s_90_115, s_90_7, s_90_14, s_90_47, s_90_54, s_90_94, s_90_18, s_90_58, s_90_100, s_90_21, s_90_61, s_90_24, s_90_65, s_90_28, s_90_71, s_90_33, s_90_74, s_90_36, s_90_79, s_90_84, a1, a2, a3, a4, a5, a6, a7, a8, a9, c1, c5, c6, p1.1, e8, e_26, s_26_0, s_26_4, k4, k87, k88, vi_rs_rs, vi_inc]
        exact this
    have := loop 0 (by omega) none s M0 hM0 rfl (by omega)
    rw [e_90, s_90_0]
    exact this
  obtain ⟨r, w', ⟨M', hM', rfl, rfl⟩, hK⟩ := vi_kx (main (fun r w' => ∃ M', pS M f (fd2 P g m L s) M' ∧ r = none ∧ w' = (Y, M', n)) (fun M' h => ⟨M', h, rfl, rfl⟩))
  exact ⟨M', hM', hK⟩
/-- the whole search -/
noncomputable def fdA (P : Nat → Bool) (g m : Nat) (L : List Nat) : Int × Int × Int × Int := if sCm P g m = true then (0, 1, -1, -1) else if (fd1 P g m L (3, 0, -1, -1)).2.1 = 0 then fd2 P g m L (fd1 P g m L (3, 0, -1, -1)) else fd1 P g m L (3, 0, -1, -1)
theorem k_81 (hY : kY Y 151) (hP : M 66 = cR P) (h1 : ∃ B, M 81 = cR B) (h2 : ∃ B, M 83 = cR B) (h3 : ∃ B, M 85 = cR B) (h4 : ∃ B, M 87 = cR B) {g m : Nat} (hg : g ≤ 2) (hm : m ≤ 216) :
    ∃ M' f, (∃ B, M' 81 = cR B) ∧ (∃ B, M' 83 = cR B) ∧ (∃ B, M' 85 = cR B) ∧ (∃ B, M' 87 = cR B) ∧ M' 77 = nF f (fdA P g m (lnL (M 30 8) (M 30 9) (M 30 10) 108)) ∧ f 9 = M 77 9 ∧ f 10 = M 77 10 ∧ (∀ p, p ≠ 77 → p ≠ 78 → p ≠ 81 → p ≠ 83 → p ≠ 85 → p ≠ 87 → M' p = M p) ∧ ∀ K : Option vi_V → vi_W → Prop, vi_call GG (d + 7) 81 [.inr (.inr 77), .inl (g : Int), .inl (m : Int)] (Y, M, n) K ↔ K none (Y, M', n) := by
  obtain ⟨a1, a2, a3, a4, a5, a6, a7, a8, a9⟩ := y_77 hY (by omega)
  obtain ⟨c1, c2, c3, c4, c5, c6, c7, c8, c9⟩ := y_60 hY (by omega)
  obtain ⟨B1, h1⟩ := h1
  obtain ⟨B2, h2⟩ := h2
  obtain ⟨B3, h3⟩ := h3
  obtain ⟨B4, h4⟩ := h4
  obtain ⟨gl, hgl, k86⟩ := k_86 (d := d + 3) (n := n) (M := M) hY
  generalize hL : lnL (M 30 8) (M 30 9) (M 30 10) 108 = L at *
  have h108 : L.length ≤ 108 := by rw [← hL]; exact lnL_le
  have hlt : ∀ i, i < L.length → L.getD i 0 < 108 := fun i hi => by rw [← hL] at hi ⊢; exact lnL_lt hi
  generalize hf : vi_u (M 77) 8 (L.length : Int) = f at *
  have hf8 : f 8 = (L.length : Int) := by rw [← hf]; exact vi_u_s
  have hf9 : f 9 = M 77 9 := by rw [← hf]; exact vi_u_o (by omega)
  have hf10 : f 10 = M 77 10 := by rw [← hf]; exact vi_u_o (by omega)
  have er : vi_u (vi_u (vi_u (vi_u f 11 3) 12 0) 13 (-1)) 14 (-1) = nF f (3, 0, -1, -1) := by
    funext k
    unfold vi_u nF
    by_cases h1 : k = 11 <;> by_cases h2 : k = 12 <;> by_cases h3 : k = 13 <;> by_cases h4 : k = 14 <;> simp_all
  have er2 : vi_u (vi_u (nF f (3, 0, -1, -1)) 11 0) 12 1 = nF f (0, 1, -1, -1) := by
    funext k
    unfold vi_u nF
    by_cases h1 : k = 11 <;> by_cases h2 : k = 12 <;> by_cases h3 : k = 13 <;> by_cases h4 : k = 14 <;> simp_all
  generalize hM2 : vi_rs (vi_rs M 78 gl) 77 (nF f (3, 0, -1, -1)) = M2
  have m2 : ∀ p, p ≠ 77 → p ≠ 78 → M2 p = M p := fun p x y => by rw [← hM2, vi_rs_o x, vi_rs_o y]
  have m278 : M2 78 = gl := by rw [← hM2]; simp (disch := omega) only [vi_rs_s, vi_rs_o]
  have m277 : M2 77 = nF f (3, 0, -1, -1) := by rw [← hM2, vi_rs_s]
  obtain ⟨R', T', k92⟩ := k_92 (d := d + 1) (n := n) (M := M2) (q := 65) (R := B3) (T := B4) (S := P) (g := g) (m := m) hY (kC_65 hY (by omega)) (by omega) (by rw [m2 _ (by omega) (by omega)]; exact hP) (by rw [m2 _ (by omega) (by omega)]; exact h3) (by rw [m2 _ (by omega) (by omega)]; exact h4) hg hm
  generalize hM3 : vi_rs (vi_rs M2 85 (cR R')) 87 (cR T') = M3 at k92
  have m3 : ∀ p, p ≠ 85 → p ≠ 87 → M3 p = M2 p := fun p x y => by rw [← hM3, vi_rs_o y, vi_rs_o x]
  have hp3 : pS M2 f (3, 0, -1, -1) M3 := ⟨⟨B1, by rw [m3 _ (by omega) (by omega), m2 _ (by omega) (by omega)]; exact h1⟩, ⟨B2, by rw [m3 _ (by omega) (by omega), m2 _ (by omega) (by omega)]; exact h2⟩, ⟨R', by rw [← hM3]; simp (disch := omega) only [vi_rs_s, vi_rs_o]⟩, ⟨T', by rw [← hM3]; simp (disch := omega) only [vi_rs_s, vi_rs_o]⟩, by rw [m3 _ (by omega) (by omega)]; exact m277, fun p _ _ _ x y => m3 p x y⟩
  have P2 : M2 66 = cR P := by rw [m2 _ (by omega) (by omega)]; exact hP
  have e1 : vi_rs (vi_rs M 78 gl) 77 f 77 = f := vi_rs_s
  have fr : ∀ {s : Int × Int × Int × Int} {M' : vi_M}, pS M2 f s M' → ∀ p, p ≠ 77 → p ≠ 78 → p ≠ 81 → p ≠ 83 → p ≠ 85 → p ≠ 87 → M' p = M p := fun hp p x1 x2 x3 x4 x5 x6 => by rw [hp.2.2.2.2.2 p x1 x3 x4 x5 x6, m2 p x1 x2]
  simp only [Nat.add_assoc, Nat.reduceAdd] at k86 k92
  have er' := er
  unfold fdA
  cases hcm : sCm P g m
  · obtain ⟨M4, hp4, k89⟩ := k_89 (d := d) (n := n) (M := M2) hY (by rw [m278]; exact hgl) h108 hlt P2 hf8 (s := (3, 0, -1, -1)) rfl hp3 hg hm
    have w4 : M4 77 12 = (fd1 P g m L (3, 0, -1, -1)).2.1 := by rw [hp4.2.2.2.2.1]; rfl
    rw [if_neg (by simp)]
    by_cases hw : (fd1 P g m L (3, 0, -1, -1)).2.1 = 0
    · obtain ⟨M5, hp5, k90⟩ := k_90 (d := d) (n := n) (M := M2) hY (by rw [m278]; exact hgl) h108 hlt P2 hf8 hw hp4 hg hm
      rw [if_pos hw]
      have fr5 := fr hp5
      obtain ⟨q1, q2, q3, q4, q5, q6⟩ := hp5
      refine ⟨M5, f, q1, q2, q3, q4, q5, hf9, hf10, fr5, fun K => vi_k (r := none) fun Q hQ => ?_⟩
      clear fr hp4 hp3 m2 m3 hlt P2 hP h1 h2 h3 h4 fr5 hgl
      simp (disch := omega) only [Option.toList_some, Option.toList_none, List.nil_append, List.cons_append, List.append_nil, true_and, and_true, not_true_eq_false, not_false_eq_true, true_implies, false_implies, implies_true, and_self, Int.reduceLT, Int.reduceLE, Int.reduceEq, Int.reduceNe, Int.reduceAdd, Int.reduceSub, Int.reduceMul, Int.reduceNeg, Int.reduceToNat, Int.toNat_natCast, ↓kk_ck, ↓kk_im, ↓kk_in, e_81, s_81_0, s_81_40, s_81_51, s_81_64, s_81_70, s_81_4, s_81_45, s_81_57, s_81_9, s_81_50, s_81_61, s_81_14, s_81_19, s_81_24, s_81_29, s_81_32, s_81_37, a1, a2, a3, a4, a5, a6, a7, a8, a9, c1, c6, k86, vi_ms_rs, e1, vi_rs_s, vi_rs_rs, er, hM2, k92, hcm, vi_bf, k89, w4, hw, k90, e_26, s_26_0, s_26_4]
      exact hQ
    · rw [if_neg hw]
      have fr4 := fr hp4
      obtain ⟨q1, q2, q3, q4, q5, q6⟩ := hp4
      refine ⟨M4, f, q1, q2, q3, q4, q5, hf9, hf10, fr4, fun K => vi_k (r := none) fun Q hQ => ?_⟩
      clear fr hp3 m2 m3 hlt P2 hP h1 h2 h3 h4 fr4 hgl q6
      simp (disch := omega) only [Option.toList_some, Option.toList_none, List.nil_append, List.cons_append, List.append_nil, true_and, and_true, not_true_eq_false, not_false_eq_true, true_implies, false_implies, implies_true, and_self, Int.reduceLT, Int.reduceLE, Int.reduceEq, Int.reduceNe, Int.reduceAdd, Int.reduceSub, Int.reduceMul, Int.reduceNeg, Int.reduceToNat, Int.toNat_natCast, ↓kk_ck, ↓kk_im, ↓kk_in, e_81, s_81_0, s_81_40, s_81_51, s_81_64, s_81_70, s_81_4, s_81_45, s_81_57, s_81_9, s_81_50, s_81_61, s_81_14, s_81_19, s_81_24, s_81_29, s_81_32, s_81_37, a1, a2, a3, a4, a5, a6, a7, a8, a9, c1, c6, k86, vi_ms_rs, e1, vi_rs_s, vi_rs_rs, er, hM2, k92, hcm, vi_bf, k89, w4, hw, ne_eq, e_26, s_26_0, s_26_4]
      exact hQ
  · rw [if_pos rfl]
    have fr3 := fr hp3
    obtain ⟨q1, q2, q3, q4, q5, q6⟩ := hp3
    refine ⟨vi_rs M3 77 (nF f (0, 1, -1, -1)), f, by simp (disch := omega) only [vi_rs_s, vi_rs_o]; exact q1, by simp (disch := omega) only [vi_rs_s, vi_rs_o]; exact q2, by simp (disch := omega) only [vi_rs_s, vi_rs_o]; exact q3, by simp (disch := omega) only [vi_rs_s, vi_rs_o]; exact q4, vi_rs_s, hf9, hf10, fun p x1 x2 x3 x4 x5 x6 => by rw [vi_rs_o x1]; exact fr3 p x1 x2 x3 x4 x5 x6, fun K => vi_k (r := none) fun Q hQ => ?_⟩
    clear fr m2 m3 hlt P2 hP h1 h2 h3 h4 fr3 hgl q6
    simp (disch := omega) only [Option.toList_some, Option.toList_none, List.nil_append, List.cons_append, List.append_nil, true_and, and_true, not_true_eq_false, not_false_eq_true, true_implies, false_implies, implies_true, and_self, Int.reduceLT, Int.reduceLE, Int.reduceEq, Int.reduceNe, Int.reduceAdd, Int.reduceSub, Int.reduceMul, Int.reduceNeg, Int.reduceToNat, Int.toNat_natCast, ↓kk_ck, ↓kk_im, ↓kk_in, e_81, s_81_0, s_81_40, s_81_51, s_81_64, s_81_70, s_81_4, s_81_45, s_81_57, s_81_9, s_81_50, s_81_61, s_81_14, s_81_19, s_81_24, s_81_29, s_81_32, s_81_37, a1, a2, a3, a4, a5, a6, a7, a8, a9, c1, c6, k86, vi_ms_rs, e1, vi_rs_s, vi_rs_rs, er, hM2, k92, hcm, vi_bt, q5, er2, e_26, s_26_0, s_26_4]
    exact hQ
/-- a number of what the search found -/
def fdN (s : Int × Int × Int × Int) (w : Int) : Int := if w = 0 then (if s.1 = 3 then -1 else s.1) else if w = 1 then s.2.1 else
  (fun l : Int => if l < 0 then -1 else if (w - 2) % 3 = 0 then l / 36 else if (w - 2) % 3 = 1 then l / 6 % 6 else l % 6) (if w ≤ 4 then s.2.2.1 else s.2.2.2)
theorem k_82 (hY : kY Y 151) {f : Nat → Int} {s : Int × Int × Int × Int} (hs : M 77 = nF f s) (hs1 : s.2.2.1 < 1000) (hs2 : s.2.2.2 < 1000) {w : Int} (hw : 0 ≤ w ∧ w ≤ 7) : vi_call GG (d + 1) 82 [.inr (.inr 77), .inl w] (Y, M, n) K ↔ K (some (.inl (fdN s w))) (Y, M, n) := by
  have a1 := (y_77 hY (by omega)).1
  have e1 : M 77 11 = s.1 := by rw [hs]; rfl
  have e2 : M 77 12 = s.2.1 := by rw [hs]; rfl
  have e3 : M 77 13 = s.2.2.1 := by rw [hs]; rfl
  have e4 : M 77 14 = s.2.2.2 := by rw [hs]; rfl
  refine vi_k (r := some (.inl _)) fun Q hQ => ?_
  unfold fdN at hQ
  generalize s.1 = s1 at *
  generalize s.2.1 = s2 at *
  generalize s.2.2.1 = s3 at *
  generalize s.2.2.2 = s4 at *
  clear hs
  by_cases c0 : w = 0
  · rw [if_pos c0] at hQ
    by_cases c3 : s1 = 3
    · rw [if_pos c3] at hQ
      simp (disch := omega) only [Option.toList_some, Option.toList_none, List.nil_append, List.cons_append, List.append_nil, true_and, and_true, not_true_eq_false, not_false_eq_true, true_implies, false_implies, implies_true, and_self, Int.reduceLT, Int.reduceLE, Int.reduceEq, Int.reduceNe, Int.reduceAdd, Int.reduceSub, Int.reduceMul, Int.reduceNeg, Int.reduceToNat, Int.toNat_natCast, ↓kk_ck, ↓kk_im, ↓kk_in, e_82, s_82_0, s_82_4, s_82_12, s_82_16, s_82_20, s_82_21, s_82_26, s_82_31, s_82_36, s_82_43, s_82_47, s_82_58, s_82_60, s_82_64, s_82_71, s_82_76, s_82_86, s_82_90, s_82_8, s_82_30, s_82_40, a1, e1, e2, e3, e4, c3, ne_eq]
      exact hQ
    · rw [if_neg c3] at hQ
      simp (disch := omega) only [Option.toList_some, Option.toList_none, List.nil_append, List.cons_append, List.append_nil, true_and, and_true, not_true_eq_false, not_false_eq_true, true_implies, false_implies, implies_true, and_self, Int.reduceLT, Int.reduceLE, Int.reduceEq, Int.reduceNe, Int.reduceAdd, Int.reduceSub, Int.reduceMul, Int.reduceNeg, Int.reduceToNat, Int.toNat_natCast, ↓kk_ck, ↓kk_im, ↓kk_in, e_82, s_82_0, s_82_4, s_82_12, s_82_16, s_82_20, s_82_21, s_82_26, s_82_31, s_82_36, s_82_43, s_82_47, s_82_58, s_82_60, s_82_64, s_82_71, s_82_76, s_82_86, s_82_90, s_82_8, s_82_30, s_82_40, a1, e1, e2, e3, e4, c3, ne_eq]
      exact hQ
  · rw [if_neg c0] at hQ
    by_cases c1 : w = 1
    · rw [if_pos c1] at hQ
      simp (disch := omega) only [Option.toList_some, Option.toList_none, List.nil_append, List.cons_append, List.append_nil, true_and, and_true, not_true_eq_false, not_false_eq_true, true_implies, false_implies, implies_true, and_self, Int.reduceLT, Int.reduceLE, Int.reduceEq, Int.reduceNe, Int.reduceAdd, Int.reduceSub, Int.reduceMul, Int.reduceNeg, Int.reduceToNat, Int.toNat_natCast, ↓kk_ck, ↓kk_im, ↓kk_in, e_82, s_82_0, s_82_4, s_82_12, s_82_16, s_82_20, s_82_21, s_82_26, s_82_31, s_82_36, s_82_43, s_82_47, s_82_58, s_82_60, s_82_64, s_82_71, s_82_76, s_82_86, s_82_90, s_82_8, s_82_30, s_82_40, a1, e1, e2, e3, e4, ne_eq]
      exact hQ
    · rw [if_neg c1] at hQ
      have fin : ∀ l : Int, l < 1000 → Q (some (.inl (if l < 0 then -1 else if (w - 2) % 3 = 0 then l / 36 else if (w - 2) % 3 = 1 then l / 6 % 6 else l % 6))) (Y, M, n) → vi_ok GG d 82 47 [some (.inr (.inr 77)), some (.inl w), none, none] [.inl l] (Y, M, n) Q := by
        intro l hl hq
        clear hQ
        by_cases c2 : l < 0
        · rw [if_pos c2] at hq
          simp (disch := omega) only [Option.toList_some, Option.toList_none, List.nil_append, List.cons_append, List.append_nil, true_and, and_true, not_true_eq_false, not_false_eq_true, true_implies, false_implies, implies_true, and_self, Int.reduceLT, Int.reduceLE, Int.reduceEq, Int.reduceNe, Int.reduceAdd, Int.reduceSub, Int.reduceMul, Int.reduceNeg, Int.reduceToNat, Int.toNat_natCast, ↓kk_ck, ↓kk_im, ↓kk_in, s_82_0, s_82_4, s_82_12, s_82_16, s_82_20, s_82_21, s_82_26, s_82_31, s_82_36, s_82_43, s_82_47, s_82_58, s_82_60, s_82_64, s_82_71, s_82_76, s_82_86, s_82_90, s_82_8, s_82_30, s_82_40, a1, vi_tm, vi_32]
          exact hq
        · rw [if_neg c2] at hq
          by_cases c3 : (w - 2) % 3 = 0
          · rw [if_pos c3] at hq
            simp (disch := omega) only [Option.toList_some, Option.toList_none, List.nil_append, List.cons_append, List.append_nil, true_and, and_true, not_true_eq_false, not_false_eq_true, true_implies, false_implies, implies_true, and_self, Int.reduceLT, Int.reduceLE, Int.reduceEq, Int.reduceNe, Int.reduceAdd, Int.reduceSub, Int.reduceMul, Int.reduceNeg, Int.reduceToNat, Int.toNat_natCast, ↓kk_ck, ↓kk_im, ↓kk_in, s_82_0, s_82_4, s_82_12, s_82_16, s_82_20, s_82_21, s_82_26, s_82_31, s_82_36, s_82_43, s_82_47, s_82_58, s_82_60, s_82_64, s_82_71, s_82_76, s_82_86, s_82_90, s_82_8, s_82_30, s_82_40, a1, vi_tm, vi_td, vi_32, ne_eq, c3]
            exact hq
          · rw [if_neg c3] at hq
            by_cases c4 : (w - 2) % 3 = 1
            · rw [if_pos c4] at hq
              simp (disch := omega) only [Option.toList_some, Option.toList_none, List.nil_append, List.cons_append, List.append_nil, true_and, and_true, not_true_eq_false, not_false_eq_true, true_implies, false_implies, implies_true, and_self, Int.reduceLT, Int.reduceLE, Int.reduceEq, Int.reduceNe, Int.reduceAdd, Int.reduceSub, Int.reduceMul, Int.reduceNeg, Int.reduceToNat, Int.toNat_natCast, ↓kk_ck, ↓kk_im, ↓kk_in, s_82_0, s_82_4, s_82_12, s_82_16, s_82_20, s_82_21, s_82_26, s_82_31, s_82_36, s_82_43, s_82_47, s_82_58, s_82_60, s_82_64, s_82_71, s_82_76, s_82_86, s_82_90, s_82_8, s_82_30, s_82_40, a1, vi_tm, vi_td, vi_32, ne_eq, c3, c4]
              exact hq
            · rw [if_neg c4] at hq
              simp (disch := omega) only [Option.toList_some, Option.toList_none, List.nil_append, List.cons_append, List.append_nil, true_and, and_true, not_true_eq_false, not_false_eq_true, true_implies, false_implies, implies_true, and_self, Int.reduceLT, Int.reduceLE, Int.reduceEq, Int.reduceNe, Int.reduceAdd, Int.reduceSub, Int.reduceMul, Int.reduceNeg, Int.reduceToNat, Int.toNat_natCast, ↓kk_ck, ↓kk_im, ↓kk_in, s_82_0, s_82_4, s_82_12, s_82_16, s_82_20, s_82_21, s_82_26, s_82_31, s_82_36, s_82_43, s_82_47, s_82_58, s_82_60, s_82_64, s_82_71, s_82_76, s_82_86, s_82_90, s_82_8, s_82_30, s_82_40, a1, vi_tm, vi_td, vi_32, ne_eq, c3, c4]
              exact hq
      by_cases c5 : w ≤ 4
      · rw [if_pos c5] at hQ
        have := fin s3 hs1 hQ
        clear hQ fin
        simp (disch := omega) only [Option.toList_some, Option.toList_none, List.nil_append, List.cons_append, List.append_nil, true_and, and_true, not_true_eq_false, not_false_eq_true, true_implies, false_implies, implies_true, and_self, Int.reduceLT, Int.reduceLE, Int.reduceEq, Int.reduceNe, Int.reduceAdd, Int.reduceSub, Int.reduceMul, Int.reduceNeg, Int.reduceToNat, Int.toNat_natCast, ↓kk_ck, ↓kk_im, ↓kk_in, e_82, s_82_0, s_82_21, s_82_31, s_82_36, s_82_40, a1, e3, ne_eq]
        exact this
      · rw [if_neg c5] at hQ
        have := fin s4 hs2 hQ
        clear hQ fin
        simp (disch := omega) only [Option.toList_some, Option.toList_none, List.nil_append, List.cons_append, List.append_nil, true_and, and_true, not_true_eq_false, not_false_eq_true, true_implies, false_implies, implies_true, and_self, Int.reduceLT, Int.reduceLE, Int.reduceEq, Int.reduceNe, Int.reduceAdd, Int.reduceSub, Int.reduceMul, Int.reduceNeg, Int.reduceToNat, Int.toNat_natCast, ↓kk_ck, ↓kk_im, ↓kk_in, e_82, s_82_0, s_82_21, s_82_31, s_82_43, a1, e4, ne_eq]
        exact this
/-- a DRAW -/
def dwS (s : Int) : Int := (s * 1103 + 12345) % 1000003
theorem dwS_r {s : Int} : 0 ≤ dwS s ∧ dwS s < 1000003 := by unfold dwS; omega
theorem k_85 (hY : kY Y 151) {m : Int} (hm : 1 ≤ m ∧ m ≤ 6) (hs : 0 ≤ M 77 10 ∧ M 77 10 ≤ 1000003) : vi_call GG (d + 1) 85 [.inr (.inr 77), .inl m] (Y, M, n) K ↔ K (some (.inl (dwS (M 77 10) % m))) (Y, vi_rs M 77 (vi_u (M 77) 10 (dwS (M 77 10))), n) := by
  have a1 := (y_77 hY (by omega)).1
  have hd := dwS_r (s := M 77 10)
  refine vi_k (r := some (.inl _)) fun Q hQ => ?_
  have e : (M 77 10 * 1103 + 12345) % 1000003 = dwS (M 77 10) := rfl
  simp (disch := omega) only [Option.toList_some, Option.toList_none, List.nil_append, List.cons_append, List.append_nil, true_and, and_true, not_true_eq_false, not_false_eq_true, true_implies, false_implies, implies_true, and_self, Int.reduceLT, Int.reduceLE, Int.reduceEq, Int.reduceNe, Int.reduceAdd, Int.reduceSub, Int.reduceMul, Int.reduceNeg, Int.reduceToNat, Int.toNat_natCast, ↓kk_ck, ↓kk_im, ↓kk_in, e_85, s_85_0, s_85_23, s_85_32, s_85_33, s_85_5, s_85_27, s_85_19, s_85_29, a1, vi_32, vi_tm, vi_ms_rs, e, vi_rs_s, vi_u_s]
  exact hQ
end
