/-! Contracts of Paper, second part: lines, the search for the FEWEST. -/
def lnL (x y z : Int) (k : Nat) : List Nat := (List.range k).filter (fun l => gPl x y z ((l / 36 : Nat) : Int) ((l / 6 % 6 : Nat) : Int) ((l % 6 : Nat) : Int))
def lnR (g : Nat → Int) (L : List Nat) : Prop := ∀ i, i < L.length → g i = ((L.getD i 0 : Nat) : Int)
theorem lnL_le {x y z : Int} {k : Nat} : (lnL x y z k).length ≤ k := Nat.le_trans (List.length_filter_le _ _) (by rw [List.length_range]; omega)
theorem lnL_lt {x y z : Int} {k i : Nat} (h : i < (lnL x y z k).length) : (lnL x y z k).getD i 0 < k := by
  rw [List.getD_eq_getElem?_getD, List.getElem?_eq_getElem h]
  have := List.getElem_mem h
  unfold lnL at this
  rw [List.mem_filter, List.mem_range] at this
  exact this.1
theorem lnL_s {x y z : Int} {k : Nat} : lnL x y z (k + 1) = lnL x y z k ++ (if gPl x y z ((k / 36 : Nat) : Int) ((k / 6 % 6 : Nat) : Int) ((k % 6 : Nat) : Int) = true then [k] else []) := by
  unfold lnL
  rw [List.range_succ, List.filter_append]
  congr 1
  simp only [List.filter_cons, List.filter_nil]
theorem lnR_s {g : Nat → Int} {L : List Nat} {k : Nat} (h : lnR g L) : lnR (vi_u g L.length (k : Int)) (L ++ [k]) := by
  intro i hi
  unfold vi_u
  by_cases e : i = L.length
  · subst e
    rw [if_pos rfl, List.getD_eq_getElem?_getD, List.getElem?_append_right (Nat.le_refl _), Nat.sub_self]
    rfl
  · rw [List.length_append, List.length_singleton] at hi
    rw [if_neg e, h i (by omega), List.getD_eq_getElem?_getD, List.getD_eq_getElem?_getD, List.getElem?_append_left (by omega)]
def nt (s : Int × Int × Int × Int) (h l o : Int) : Int × Int × Int × Int := if s.2.1 = 0 then (h, 1, l, o) else (s.1, s.2.1 + 1, s.2.2.1, s.2.2.2)
def nF (f : Nat → Int) (s : Int × Int × Int × Int) : Nat → Int := fun k => if k = 11 then s.1 else if k = 12 then s.2.1 else if k = 13 then s.2.2.1 else if k = 14 then s.2.2.2 else f k
noncomputable def fd1 (P : Nat → Bool) (g n : Nat) (L : List Nat) (s : Int × Int × Int × Int) : Int × Int × Int × Int := L.foldl (fun s l => if sCm (sTk P l) g n = true then nt s 1 (l : Int) (-1) else s) s
noncomputable def fdj (P : Nat → Bool) (g n : Nat) (l : Nat) (L : List Nat) (s : Int × Int × Int × Int) : Int × Int × Int × Int := L.foldl (fun s j => if sCm (sTk (sTk P l) j) g n = true then nt s 2 (l : Int) (j : Int) else s) s
noncomputable def fd2 (P : Nat → Bool) (g n : Nat) : List Nat → Int × Int × Int × Int → Int × Int × Int × Int
  | [], s => s
  | l :: L, s => fd2 P g n L (fdj P g n l L s)
theorem dropc {L : List Nat} {i : Nat} (h : i < L.length) : L.drop i = L.getD i 0 :: L.drop (i + 1) := by
  rw [List.drop_eq_getElem_cons h, List.getD_eq_getElem?_getD, List.getElem?_eq_getElem h]
  rfl
section
variable {d : Nat} {K : Option vi_V → vi_W → Prop} {Y : vi_Y} {M : vi_M} {n : Nat × Nat} {P B R T S : Nat → Bool}
theorem k_92 (hY : kY Y 151) {q : Nat} (hq : kC Y q) (hn1 : q + 1 < 84) (hS : M (q + 1) = cR S) (hR : M 85 = cR R) (hT : M 87 = cR T) {g m : Nat} (hg : g ≤ 2) (hm : m ≤ 216) : ∃ R T, ∀ K : Option vi_V → vi_W → Prop, vi_call GG (d + 5) 92 [.inr (.inr 77), .inr (.inr q), .inl (g : Int), .inl (m : Int)] (Y, M, n) K ↔ K (some (.inl (vi_b (sCm S g m)))) (Y, vi_rs (vi_rs M 85 (cR R)) 87 (cR T), n) := by
  obtain ⟨a1, a2, a3, a4, a5, a6, a7, a8, a9⟩ := y_77 hY (by omega)
  have pq := hq.1
  obtain rfl | rfl | rfl : g = 0 ∨ g = 1 ∨ g = 2 := by omega
  · obtain ⟨R', hK⟩ := k_93 (d := d + 1) (n := n) hY hq (by omega) hS hR hm
    refine ⟨R', T, fun K => vi_k (r := some (.inl _)) fun Q hQ => ?_⟩
    rw [vi_rs_id (q := 87) (by simp (disch := omega) only [vi_rs_s, vi_rs_o]; exact hT), sCm, if_pos rfl] at hQ
    have e0 : ((0 : Nat) : Int) = 0 := rfl
    rw [e0]
    simp (disch := omega) only [Option.toList_some, Option.toList_none, List.nil_append, List.cons_append, List.append_nil, true_and, and_true, not_true_eq_false, not_false_eq_true, true_implies, false_implies, implies_true, and_self, Int.reduceLT, Int.reduceLE, Int.reduceEq, Int.reduceNe, Int.reduceAdd, Int.reduceSub, Int.reduceMul, Int.reduceNeg, Int.reduceToNat, Int.toNat_natCast, ↓kk_ck, ↓kk_im, ↓kk_in, e_92, s_92_0, s_92_4, s_92_11, s_92_16, s_92_32, s_92_36, s_92_40, s_92_48, s_92_52, s_92_53, s_92_10, s_92_21, s_92_44, s_92_25, s_92_28, a1, a2, a3, a4, a5, a6, a7, a8, a9, pq, hK, ne_eq]
    exact ⟨vi_b02, hQ⟩
  · obtain ⟨R', T', hK⟩ := k_16 (d := d) (n := n) hq (kC_84 hY (by omega)) (kC_86 hY (by omega)) (by omega) (by omega) (by omega) hS hR hT
    refine ⟨R', T', fun K => vi_k (r := some (.inl _)) fun Q hQ => ?_⟩
    rw [sCm, if_neg (by omega), if_pos rfl] at hQ
    have e0 : ((1 : Nat) : Int) = 1 := rfl
    rw [e0]
    by_cases hc : m ≤ sPc 216 S
    · rw [vi_bp hc] at hQ
      simp (disch := omega) only [Option.toList_some, Option.toList_none, List.nil_append, List.cons_append, List.append_nil, true_and, and_true, not_true_eq_false, not_false_eq_true, true_implies, false_implies, implies_true, and_self, Int.reduceLT, Int.reduceLE, Int.reduceEq, Int.reduceNe, Int.reduceAdd, Int.reduceSub, Int.reduceMul, Int.reduceNeg, Int.reduceToNat, Int.toNat_natCast, ↓kk_ck, ↓kk_im, ↓kk_in, e_92, s_92_0, s_92_4, s_92_11, s_92_16, s_92_32, s_92_36, s_92_40, s_92_48, s_92_52, s_92_53, s_92_10, s_92_21, s_92_44, s_92_25, s_92_28, a1, a2, a3, a4, a5, a6, a7, a8, a9, pq, hK, ne_eq]
      exact hQ
    · rw [vi_bn hc] at hQ
      simp (disch := omega) only [Option.toList_some, Option.toList_none, List.nil_append, List.cons_append, List.append_nil, true_and, and_true, not_true_eq_false, not_false_eq_true, true_implies, false_implies, implies_true, and_self, Int.reduceLT, Int.reduceLE, Int.reduceEq, Int.reduceNe, Int.reduceAdd, Int.reduceSub, Int.reduceMul, Int.reduceNeg, Int.reduceToNat, Int.toNat_natCast, ↓kk_ck, ↓kk_im, ↓kk_in, e_92, s_92_0, s_92_4, s_92_11, s_92_16, s_92_32, s_92_36, s_92_40, s_92_48, s_92_52, s_92_53, s_92_10, s_92_21, s_92_44, s_92_25, s_92_28, a1, a2, a3, a4, a5, a6, a7, a8, a9, pq, hK, ne_eq]
      exact hQ
  · refine ⟨R, T, fun K => vi_k (r := some (.inl _)) fun Q hQ => ?_⟩
    rw [vi_rs_id hR, vi_rs_id hT, sCm, if_neg (by omega), if_neg (by omega)] at hQ
    have k11 := fun {K : Option vi_V → vi_W → Prop} => @k_11 (d + 2) q K Y M n S hq hS
    simp only [Nat.add_assoc, Nat.reduceAdd] at k11
    have e0 : ((2 : Nat) : Int) = 2 := rfl
    rw [e0]
    by_cases hc : sN 216 S = m
    · rw [vi_bp hc] at hQ
      simp (disch := omega) only [Option.toList_some, Option.toList_none, List.nil_append, List.cons_append, List.append_nil, true_and, and_true, not_true_eq_false, not_false_eq_true, true_implies, false_implies, implies_true, and_self, Int.reduceLT, Int.reduceLE, Int.reduceEq, Int.reduceNe, Int.reduceAdd, Int.reduceSub, Int.reduceMul, Int.reduceNeg, Int.reduceToNat, Int.toNat_natCast, ↓kk_ck, ↓kk_im, ↓kk_in, e_92, s_92_0, s_92_4, s_92_11, s_92_16, s_92_32, s_92_36, s_92_40, s_92_48, s_92_52, s_92_53, s_92_10, s_92_21, s_92_44, s_92_25, s_92_28, a1, a2, a3, a4, a5, a6, a7, a8, a9, pq, k11, ne_eq]
      exact hQ
    · rw [vi_bn hc] at hQ
      simp (disch := omega) only [Option.toList_some, Option.toList_none, List.nil_append, List.cons_append, List.append_nil, true_and, and_true, not_true_eq_false, not_false_eq_true, true_implies, false_implies, implies_true, and_self, Int.reduceLT, Int.reduceLE, Int.reduceEq, Int.reduceNe, Int.reduceAdd, Int.reduceSub, Int.reduceMul, Int.reduceNeg, Int.reduceToNat, Int.toNat_natCast, ↓kk_ck, ↓kk_im, ↓kk_in, e_92, s_92_0, s_92_4, s_92_11, s_92_16, s_92_32, s_92_36, s_92_40, s_92_48, s_92_52, s_92_53, s_92_10, s_92_21, s_92_44, s_92_25, s_92_28, a1, a2, a3, a4, a5, a6, a7, a8, a9, pq, k11, ne_eq]
      exact hQ
theorem k_86 (hY : kY Y 151) : ∃ g, lnR g (lnL (M 30 8) (M 30 9) (M 30 10) 108) ∧ ∀ K : Option vi_V → vi_W → Prop, vi_call GG (d + 3) 86 [.inr (.inr 77)] (Y, M, n) K ↔ K none (Y, vi_rs (vi_rs M 78 g) 77 (vi_u (M 77) 8 ((lnL (M 30 8) (M 30 9) (M 30 10) 108).length : Int)), n) := by
  obtain ⟨a1, a2, a3, a4, a5, a6, a7, a8, a9⟩ := y_77 hY (by omega)
  obtain ⟨c1, c2⟩ := y_78 hY (by omega)
  have b1 := (y_30 hY (by omega)).1
  have main : ∀ Q : Option vi_V → vi_W → Prop, (∀ g, lnR g (lnL (M 30 8) (M 30 9) (M 30 10) 108) → Q none (Y, vi_rs (vi_rs M 78 g) 77 (vi_u (M 77) 8 ((lnL (M 30 8) (M 30 9) (M 30 10) 108).length : Int)), n)) → vi_call GG (d + 3) 86 [.inr (.inr 77)] (Y, M, n) Q := by
    intro Q hQ
    have loop : ∀ k : Nat, k ≤ 108 → ∀ g, lnR g (lnL (M 30 8) (M 30 9) (M 30 10) k) → vi_ok GG (d + 2) 86 7 [some (.inr (.inr 77)), some (.inl (k : Int))] [] (Y, vi_rs (vi_rs M 78 g) 77 (vi_u (M 77) 8 ((lnL (M 30 8) (M 30 9) (M 30 10) k).length : Int)), n) Q := by
      refine vi_dn 108 ?_ fun k hk ih => ?_
      · intro g hg
        rw [s_86_7]
        simp (disch := omega) only [Option.toList_some, Option.toList_none, List.nil_append, List.cons_append, List.append_nil, true_and, and_true, not_true_eq_false, not_false_eq_true, true_implies, false_implies, implies_true, and_self, Int.reduceLT, Int.reduceLE, Int.reduceEq, Int.reduceNe, Int.reduceAdd, Int.reduceSub, Int.reduceMul, Int.reduceNeg, Int.reduceToNat, Int.toNat_natCast, ↓kk_ck, ↓kk_im, ↓kk_in, s_86_0, s_86_13, s_86_38, s_86_50, s_86_70, s_86_76, s_86_5, s_86_17, s_86_42, s_86_54, s_86_35, s_86_46, s_86_58, s_86_47, s_86_60, s_86_65]
        exact hQ g hg
      · intro g hg
        have hle := lnL_le (x := M 30 8) (y := M 30 9) (z := M 30 10) (k := k)
        have e := lnL_s (x := M 30 8) (y := M 30 9) (z := M 30 10) (k := k)
        have z1 : (k : Int) / 36 = ((k / 36 : Nat) : Int) := by omega
        have z2 : (k : Int) / 6 % 6 = ((k / 6 % 6 : Nat) : Int) := by omega
        have z3 : (k : Int) % 6 = ((k % 6 : Nat) : Int) := by omega
        have m30 : ∀ g f, vi_rs (vi_rs M 78 g) 77 f 30 = M 30 := fun g f => by simp (disch := omega) only [vi_rs_s, vi_rs_o]
        rw [s_86_7]
        cases hp : gPl (M 30 8) (M 30 9) (M 30 10) ((k / 36 : Nat) : Int) ((k / 6 % 6 : Nat) : Int) ((k % 6 : Nat) : Int)
        · rw [hp, if_neg (by simp), List.append_nil] at e
          simp (disch := omega) only [Option.toList_some, Option.toList_none, List.nil_append, List.cons_append, List.append_nil, true_and, and_true, not_true_eq_false, not_false_eq_true, true_implies, false_implies, implies_true, and_self, Int.reduceLT, Int.reduceLE, Int.reduceEq, Int.reduceNe, Int.reduceAdd, Int.reduceSub, Int.reduceMul, Int.reduceNeg, Int.reduceToNat, Int.toNat_natCast, ↓kk_ck, ↓kk_im, ↓kk_in, s_86_0, s_86_13, s_86_38, s_86_50, s_86_70, s_86_76, s_86_5, s_86_17, s_86_42, s_86_54, s_86_35, s_86_46, s_86_58, s_86_47, s_86_60, s_86_65, a1, a2, a3, a4, a5, a6, a7, a8, a9, b1, vi_td, vi_tm, vi_32, z1, z2, z3, k_49 b1, m30, hp, vi_bf]
          have := ih g (by rw [e]; exact hg)
          rw [e] at this
          exact this
        · rw [hp, if_pos rfl] at e
          have := ih (vi_u g (lnL (M 30 8) (M 30 9) (M 30 10) k).length (k : Int)) (by rw [e]; exact lnR_s hg)
          rw [e, List.length_append, List.length_singleton] at this
          have m77 : ∀ g f, vi_rs (vi_rs M 78 g) 77 f 77 = f := fun g f => vi_rs_s
          have m78 : ∀ g f, vi_rs (vi_rs M 78 g) 77 f 78 = g := fun g f => by simp (disch := omega) only [vi_rs_s, vi_rs_o]
          have em : ∀ g g' f f', vi_rs (vi_rs (vi_rs (vi_rs M 78 g) 77 f) 78 g') 77 f' = vi_rs (vi_rs M 78 g') 77 f' := fun g g' f f' => by
            rw [vi_rs_cm (p := 77) (q := 78) (by omega), vi_rs_rs, vi_rs_rs]
          have m77' : ∀ M' g, vi_rs M' 78 g 77 = M' 77 := fun M' g => vi_rs_o (by omega)
          simp (disch := omega) only [Option.toList_some, Option.toList_none, List.nil_append, List.cons_append, List.append_nil, true_and, and_true, not_true_eq_false, not_false_eq_true, true_implies, false_implies, implies_true, and_self, Int.reduceLT, Int.reduceLE, Int.reduceEq, Int.reduceNe, Int.reduceAdd, Int.reduceSub, Int.reduceMul, Int.reduceNeg, Int.reduceToNat, Int.toNat_natCast, ↓kk_ck, ↓kk_im, ↓kk_in, s_86_0, s_86_13, s_86_38, s_86_50, s_86_70, s_86_76, s_86_5, s_86_17, s_86_42, s_86_54, s_86_35, s_86_46, s_86_58, s_86_47, s_86_60, s_86_65, a1, a2, a3, a4, a5, a6, a7, a8, a9, b1, c1, c2, vi_td, vi_tm, vi_32, z1, z2, z3, k_49 b1, m30, hp, vi_bt, m77, m78, m77', vi_u_s, vi_ms_rs, vi_inc, em, vi_u_u]
          exact this
    have := loop 0 (by omega) (M 78) (fun i hi => by simp [lnL] at hi)
    rw [vi_rs_id (q := 78) rfl] at this
    simp (disch := omega) only [Option.toList_some, Option.toList_none, List.nil_append, List.cons_append, List.append_nil, true_and, and_true, not_true_eq_false, not_false_eq_true, true_implies, false_implies, implies_true, and_self, Int.reduceLT, Int.reduceLE, Int.reduceEq, Int.reduceNe, Int.reduceAdd, Int.reduceSub, Int.reduceMul, Int.reduceNeg, Int.reduceToNat, Int.toNat_natCast, ↓kk_ck, ↓kk_im, ↓kk_in, e_86, s_86_0, s_86_13, s_86_38, s_86_50, s_86_70, s_86_76, s_86_5, s_86_17, s_86_42, s_86_54, s_86_35, s_86_46, s_86_58, s_86_47, s_86_60, s_86_65, a1, vi_ms_rs]
    exact this
  obtain ⟨r, w', ⟨g, hg, rfl, rfl⟩, hK⟩ := vi_kx (main (fun r w' => ∃ g, lnR g (lnL (M 30 8) (M 30 9) (M 30 10) 108) ∧ r = none ∧ w' = (Y, vi_rs (vi_rs M 78 g) 77 (vi_u (M 77) 8 ((lnL (M 30 8) (M 30 9) (M 30 10) 108).length : Int)), n)) (fun g hg => ⟨g, hg, rfl, rfl⟩))
  exact ⟨g, hg, hK⟩
theorem k_87 (hY : kY Y 151) {L : List Nat} (hL : lnR (M 78) L) (hm : M 77 8 = (L.length : Int)) (h108 : L.length ≤ 108) {i : Nat} (hi : i < L.length) : vi_call GG (d + 1) 87 [.inr (.inr 77), .inl (i : Int)] (Y, M, n) K ↔ K (some (.inl ((L.getD i 0 : Nat) : Int))) (Y, M, n) := by
  obtain ⟨a1, a2, a3, a4, a5, a6, a7, a8, a9⟩ := y_77 hY (by omega)
  obtain ⟨c1, c2⟩ := y_78 hY (by omega)
  refine vi_k (r := some (.inl _)) fun Q hQ => ?_
  rw [← hL i hi] at hQ
  simp (disch := omega) only [Option.toList_some, Option.toList_none, List.nil_append, List.cons_append, List.append_nil, true_and, and_true, not_true_eq_false, not_false_eq_true, true_implies, false_implies, implies_true, and_self, Int.reduceLT, Int.reduceLE, Int.reduceEq, Int.reduceNe, Int.reduceAdd, Int.reduceSub, Int.reduceMul, Int.reduceNeg, Int.reduceToNat, Int.toNat_natCast, ↓kk_ck, ↓kk_im, ↓kk_in, e_87, s_87_0, s_87_4, s_87_12, s_87_21, s_87_30, s_87_31, s_87_9, s_87_17, s_87_25, s_87_18, s_87_27, a1, a2, a3, a4, a5, a6, a7, a8, a9, c1, c2, hm]
  exact hQ
theorem k_88 {q : Nat} (hq : kC Y q) (hS : M (q + 1) = cR S) {l : Nat} (hl : l < 108) : vi_call GG (d + 2) 88 [.inr (.inr q), .inl (l : Int)] (Y, M, n) K ↔ K none (Y, vi_rs M (q + 1) (cR (sTk S l)), n) := by
  have pq := hq.1
  have z1 : (l : Int) / 36 = ((l / 36 : Nat) : Int) := by omega
  have z2 : (l : Int) / 6 % 6 = ((l / 6 % 6 : Nat) : Int) := by omega
  have z3 : (l : Int) % 6 = ((l % 6 : Nat) : Int) := by omega
  have k8 := fun {K : Option vi_V → vi_W → Prop} => @k_8 d q K Y M n S hq hS ((l / 36 : Nat) : Int) ((l / 6 % 6 : Nat) : Int) ((l % 6 : Nat) : Int) (by omega) (by omega) (by omega)
  refine vi_k (r := none) fun Q hQ => ?_
  simp (disch := omega) only [Option.toList_some, Option.toList_none, List.nil_append, List.cons_append, List.append_nil, true_and, and_true, not_true_eq_false, not_false_eq_true, true_implies, false_implies, implies_true, and_self, Int.reduceLT, Int.reduceLE, Int.reduceEq, Int.reduceNe, Int.reduceAdd, Int.reduceSub, Int.reduceMul, Int.reduceNeg, Int.reduceToNat, Int.toNat_natCast, ↓kk_ck, ↓kk_im, ↓kk_in, e_88, s_88_0, s_88_19, pq, vi_td, vi_tm, vi_32, z1, z2, z3, k8]
  exact hQ
theorem nF_s {f : Nat → Int} {s t : Int × Int × Int × Int} : nF (nF f s) t = nF f t := by
  funext k
  unfold nF
  split
  · rfl
  · split
    · rfl
    · split
      · rfl
      · split
        · rfl
        · rfl
theorem k_91 (hY : kY Y 151) {f : Nat → Int} {s : Int × Int × Int × Int} (hs : M 77 = nF f s) (h0 : 0 ≤ s.2.1 ∧ s.2.1 < 100000) {h l o : Int} : vi_call GG (d + 1) 91 [.inr (.inr 77), .inl h, .inl l, .inl o] (Y, M, n) K ↔ K none (Y, vi_rs M 77 (nF f (nt s h l o)), n) := by
  have a1 := (y_77 hY (by omega)).1
  have e12 : M 77 12 = s.2.1 := by rw [hs]; rfl
  refine vi_k (r := none) fun Q hQ => ?_
  unfold nt at hQ
  by_cases hc : s.2.1 = 0
  · rw [if_pos hc] at hQ
    simp (disch := omega) only [Option.toList_some, Option.toList_none, List.nil_append, List.cons_append, List.append_nil, true_and, and_true, not_true_eq_false, not_false_eq_true, true_implies, false_implies, implies_true, and_self, Int.reduceLT, Int.reduceLE, Int.reduceEq, Int.reduceNe, Int.reduceAdd, Int.reduceSub, Int.reduceMul, Int.reduceNeg, Int.reduceToNat, Int.toNat_natCast, ↓kk_ck, ↓kk_im, ↓kk_in, e_91, s_91_0, s_91_7, s_91_22, s_91_4, s_91_12, s_91_27, s_91_17, s_91_32, a1, e12, hc, vi_ms_rs, vi_rs_s, vi_rs_rs, ne_eq, vi_u_o, vi_32]
    refine vi_qN hQ ?_
    congr 2
    refine congrArg _ ?_
    rw [hs]
    funext k
    unfold vi_u nF
    by_cases h1 : k = 11 <;> by_cases h2 : k = 12 <;> by_cases h3 : k = 13 <;> by_cases h4 : k = 14 <;> simp_all
  · rw [if_neg hc] at hQ
    simp (disch := omega) only [Option.toList_some, Option.toList_none, List.nil_append, List.cons_append, List.append_nil, true_and, and_true, not_true_eq_false, not_false_eq_true, true_implies, false_implies, implies_true, and_self, Int.reduceLT, Int.reduceLE, Int.reduceEq, Int.reduceNe, Int.reduceAdd, Int.reduceSub, Int.reduceMul, Int.reduceNeg, Int.reduceToNat, Int.toNat_natCast, ↓kk_ck, ↓kk_im, ↓kk_in, e_91, s_91_0, s_91_7, s_91_22, s_91_4, s_91_12, s_91_27, s_91_17, s_91_32, a1, e12, hc, vi_ms_rs, vi_rs_s, vi_rs_rs, ne_eq, vi_32]
    refine vi_qN hQ ?_
    congr 2
    refine congrArg _ ?_
    rw [hs]
    funext k
    unfold vi_u nF
    by_cases h1 : k = 11 <;> by_cases h2 : k = 12 <;> by_cases h3 : k = 13 <;> by_cases h4 : k = 14 <;> simp_all
def pS (M : vi_M) (f : Nat → Int) (s : Int × Int × Int × Int) (M' : vi_M) : Prop := (∃ B, M' 81 = cR B) ∧ (∃ B, M' 83 = cR B) ∧ (∃ B, M' 85 = cR B) ∧ (∃ B, M' 87 = cR B) ∧ M' 77 = nF f s ∧ ∀ p, p ≠ 77 → p ≠ 81 → p ≠ 83 → p ≠ 85 → p ≠ 87 → M' p = M p
theorem nt_r {s : Int × Int × Int × Int} {h l o : Int} {b : Int} (h0 : 0 ≤ s.2.1 ∧ s.2.1 ≤ b) (hb : 0 ≤ b) : 0 ≤ (nt s h l o).2.1 ∧ (nt s h l o).2.1 ≤ b + 1 := by
  unfold nt
  split
  · dsimp only; omega
  · dsimp only; omega
/-- with one HOLE more -/
theorem k_89 (hY : kY Y 151) {L : List Nat} (hL : lnR (M 78) L) (h108 : L.length ≤ 108) (hl : ∀ i, i < L.length → L.getD i 0 < 108) (hP : M 66 = cR P) {f : Nat → Int} (hf8 : f 8 = (L.length : Int)) {s : Int × Int × Int × Int} (hs0 : s.2.1 = 0) {M0 : vi_M} (hM0 : pS M f s M0) {g m : Nat} (hg : g ≤ 2) (hm : m ≤ 216) :
    ∃ M', pS M f (fd1 P g m L s) M' ∧ ∀ K : Option vi_V → vi_W → Prop, vi_call GG (d + 6) 89 [.inr (.inr 77), .inl (g : Int), .inl (m : Int)] (Y, M0, n) K ↔ K none (Y, M', n) := by
  obtain ⟨a1, a2, a3, a4, a5, a6, a7, a8, a9⟩ := y_77 hY (by omega)
  obtain ⟨c1, c2, c3, c4, c5, c6, c7, c8, c9⟩ := y_60 hY (by omega)
  have p1 := kC_80 hY (by omega)
  have p2 := kC_65 hY (by omega)
  have main : ∀ Q : Option vi_V → vi_W → Prop, (∀ M', pS M f (fd1 P g m L s) M' → Q none (Y, M', n)) → vi_call GG (d + 6) 89 [.inr (.inr 77), .inl (g : Int), .inl (m : Int)] (Y, M0, n) Q := by
    intro Q hQ
    have loop : ∀ i : Nat, i ≤ L.length → ∀ (t : Int × Int × Int × Int) (M' : vi_M), pS M f t M' → fd1 P g m (L.drop i) t = fd1 P g m L s → (0 ≤ t.2.1 ∧ t.2.1 ≤ (i : Int)) → vi_ok GG (d + 5) 89 2 [some (.inr (.inr 77)), some (.inl (g : Int)), some (.inl (m : Int)), some (.inl (i : Int))] [] (Y, M', n) Q := by
      refine vi_dn L.length ?_ fun i hi ih => ?_
      · intro t M' hM' ht hr
        have e8 : M' 77 8 = (L.length : Int) := by rw [hM'.2.2.2.2.1]; exact hf8
        rw [s_89_2]
        simp (disch := omega) only [Option.toList_some, Option.toList_none, List.nil_append, List.cons_append, List.append_nil, true_and, and_true, not_true_eq_false, not_false_eq_true, true_implies, false_implies, implies_true, and_self, Int.reduceLT, Int.reduceLE, Int.reduceEq, Int.reduceNe, Int.reduceAdd, Int.reduceSub, Int.reduceMul, Int.reduceNeg, Int.reduceToNat, Int.toNat_natCast, ↓kk_ck, ↓kk_im, ↓kk_in, s_89_0, s_89_10, s_89_49, s_89_60, s_89_66, s_89_7, s_89_14, s_89_56, s_89_18, s_89_21, s_89_24, s_89_28, s_89_33, s_89_36, s_89_41, s_89_46, a1, e8]
        refine hQ M' ?_
        rw [List.drop_length] at ht
        rw [← ht]
        exact hM'
      · intro t M' hM' ht hr
        obtain ⟨⟨B1, e1⟩, ⟨B2, e2⟩, ⟨B3, e3⟩, ⟨B4, e4⟩, e5, e6⟩ := hM'
        have e8 : M' 77 8 = (L.length : Int) := by rw [e5]; exact hf8
        have eP : M' 66 = cR P := by rw [e6 66 (by omega) (by omega) (by omega) (by omega) (by omega)]; exact hP
        have eL : lnR (M' 78) L := by rw [e6 78 (by omega) (by omega) (by omega) (by omega) (by omega)]; exact hL
        have k4 := fun {K : Option vi_V → vi_W → Prop} => @k_4 (d + 4) 80 65 K Y M' n B1 P p1 p2 (by omega) e1 eP
        have k87 := fun {K : Option vi_V → vi_W → Prop} => @k_87 (d + 4) K Y (vi_rs M' 81 (cR P)) n hY L (by simp (disch := omega) only [vi_rs_s, vi_rs_o]; exact eL) (by simp (disch := omega) only [vi_rs_s, vi_rs_o]; exact e8) h108 i hi
        have k88 := fun {K : Option vi_V → vi_W → Prop} => @k_88 (d + 3) K Y (vi_rs M' 81 (cR P)) n P 80 p1 vi_rs_s (L.getD i 0) (hl i hi)
        rw [dropc hi] at ht
        obtain ⟨l, hl'⟩ : ∃ l, L.getD i 0 = l := ⟨_, rfl⟩
        rw [hl'] at ht
        simp only [hl'] at k87 k88
        simp only [vi_rs_rs] at k88
        obtain ⟨R', T', k92⟩ := k_92 (d := d) (n := n) (M := vi_rs M' 81 (cR (sTk P l))) (R := B3) (T := B4) hY p1 (by omega) vi_rs_s (by simp (disch := omega) only [vi_rs_s, vi_rs_o]; exact e3) (by simp (disch := omega) only [vi_rs_s, vi_rs_o]; exact e4) hg hm
        generalize hM2 : vi_rs (vi_rs (vi_rs M' 81 (cR (sTk P l))) 85 (cR R')) 87 (cR T') = M2 at k92
        have f5 : M2 77 = nF f t := by rw [← hM2]; simp (disch := omega) only [vi_rs_s, vi_rs_o]; exact e5
        have f8 : M2 77 8 = (L.length : Int) := by rw [f5]; exact hf8
        have k87' := fun {K : Option vi_V → vi_W → Prop} => @k_87 (d + 4) K Y M2 n hY L (by rw [← hM2]; simp (disch := omega) only [vi_rs_s, vi_rs_o]; exact eL) f8 h108 i hi
        have k91 := fun {K : Option vi_V → vi_W → Prop} {h l o : Int} => @k_91 (d + 4) K Y M2 n hY f t f5 (by omega) h l o
        have hp2 : pS M f t M2 := ⟨⟨_, by rw [← hM2]; simp (disch := omega) only [vi_rs_s, vi_rs_o]; rfl⟩, ⟨_, by rw [← hM2]; simp (disch := omega) only [vi_rs_s, vi_rs_o]; exact e2⟩, ⟨_, by rw [← hM2]; simp (disch := omega) only [vi_rs_s, vi_rs_o]; rfl⟩, ⟨_, by rw [← hM2]; simp (disch := omega) only [vi_rs_s, vi_rs_o]; rfl⟩, f5, fun p h1 h2 h3 h4 h5 => by rw [← hM2]; simp (disch := omega) only [vi_rs_s, vi_rs_o]; exact e6 p h1 h2 h3 h4 h5⟩
        simp only [Nat.add_assoc, Nat.reduceAdd] at k4 k87 k88 k92 k87' k91
        simp only [hl'] at k87'
        have hfold : fd1 P g m (l :: L.drop (i + 1)) t = fd1 P g m (L.drop (i + 1)) (if sCm (sTk P l) g m = true then nt t 1 (l : Int) (-1) else t) := rfl
        rw [hfold] at ht
        rw [s_89_2]
        cases hcm : sCm (sTk P l) g m
        · rw [if_neg (by rw [hcm]; simp)] at ht
          have := ih t M2 hp2 ht (by omega)
          clear hP hL hM0 ih hQ hl hm hg
          simp (disch := omega) only [Option.toList_some, Option.toList_none, List.nil_append, List.cons_append, List.append_nil, true_and, and_true, not_true_eq_false, not_false_eq_true, true_implies, false_implies, implies_true, and_self, Int.reduceLT, Int.reduceLE, Int.reduceEq, Int.reduceNe, Int.reduceAdd, Int.reduceSub, Int.reduceMul, Int.reduceNeg, Int.reduceToNat, Int.toNat_natCast, ↓kk_ck, ↓kk_im, ↓kk_in, s_89_0, s_89_10, s_89_49, s_89_60, s_89_66, s_89_7, s_89_14, s_89_56, s_89_18, s_89_21, s_89_24, s_89_28, s_89_33, s_89_36, s_89_41, s_89_46, a1, a2, a3, a4, a5, a6, a7, a8, a9, c1, c5, c6, p1.1, e8, e_26, s_26_0, s_26_4, k4, k87, k88, vi_rs_rs, k92, hcm, vi_bf, vi_inc]
          exact this
        · rw [if_pos hcm] at ht
          have hr' := nt_r (h := 1) (l := (l : Int)) (o := -1) hr (by omega)
          have := ih _ (vi_rs M2 77 (nF f (nt t 1 (l : Int) (-1)))) ⟨⟨_, by rw [← hM2]; simp (disch := omega) only [vi_rs_s, vi_rs_o]; rfl⟩, ⟨_, by rw [← hM2]; simp (disch := omega) only [vi_rs_s, vi_rs_o]; exact e2⟩, ⟨_, by rw [← hM2]; simp (disch := omega) only [vi_rs_s, vi_rs_o]; rfl⟩, ⟨_, by rw [← hM2]; simp (disch := omega) only [vi_rs_s, vi_rs_o]; rfl⟩, vi_rs_s, fun p h1 h2 h3 h4 h5 => by rw [vi_rs_o h1]; exact hp2.2.2.2.2.2 p h1 h2 h3 h4 h5⟩ ht (by omega)
          clear hP hL hM0 ih hQ hl hm hg
          simp (disch := omega) only [Option.toList_some, Option.toList_none, List.nil_append, List.cons_append, List.append_nil, true_and, and_true, not_true_eq_false, not_false_eq_true, true_implies, false_implies, implies_true, and_self, Int.reduceLT, Int.reduceLE, Int.reduceEq, Int.reduceNe, Int.reduceAdd, Int.reduceSub, Int.reduceMul, Int.reduceNeg, Int.reduceToNat, Int.toNat_natCast, ↓kk_ck, ↓kk_im, ↓kk_in, s_89_0, s_89_10, s_89_49, s_89_60, s_89_66, s_89_7, s_89_14, s_89_56, s_89_18, s_89_21, s_89_24, s_89_28, s_89_33, s_89_36, s_89_41, s_89_46, a1, a2, a3, a4, a5, a6, a7, a8, a9, c1, c5, c6, p1.1, e8, e_26, s_26_0, s_26_4, k4, k87, k88, vi_rs_rs, k92, hcm, vi_bt, vi_inc, k87', k91]
          exact this
    have := loop 0 (by omega) s M0 hM0 rfl (by omega)
    rw [e_89, s_89_0]
    exact this
  obtain ⟨r, w', ⟨M', hM', rfl, rfl⟩, hK⟩ := vi_kx (main (fun r w' => ∃ M', pS M f (fd1 P g m L s) M' ∧ r = none ∧ w' = (Y, M', n)) (fun M' h => ⟨M', h, rfl, rfl⟩))
  exact ⟨M', hM', hK⟩
end
