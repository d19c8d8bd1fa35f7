/-! Contracts of Reader, seventh part: a LAW is made, a TEXT is read. -/
theorem kY_n {Y : vi_Y} {b q t l : Nat} (hY : kY Y b) (h : b ≤ q) : kY (vi_ynew Y q t l) b := kBl_Y (kBl_n h) hY (Nat.le_refl _)
theorem kY_f {Y : vi_Y} {b q k : Nat} {v : Int} (hY : kY Y b) (h : b ≤ q) : kY (vi_yfin Y q k v) b := kBl_Y (kBl_f h) hY (Nat.le_refl _)
section
variable {d : Nat} {K : Option vi_V → vi_W → Prop} {Y : vi_Y} {M : vi_M} {n : Nat} {b f : Nat → Int} {p sl : Nat}
/-- a new LAW out of two rows -/
theorem k_68 {q q1 q2 : Nat} (h0 : q ≠ 0) (h1 : Y.1 q = 23) (hq : q < p) : vi_call GG (d + 1) 68 [.inr (.inr q), .inr (.inr q1), .inr (.inr q2)] (Y, M, p, sl) K ↔ K none (vi_yfin (vi_yfin (vi_yfin (vi_ynew (vi_yfin (vi_ynew Y p 1 7) q 2 (p : Int)) (p + 1) 2 64) q 3 ((p + 1 : Nat) : Int)) q 0 (q1 : Int)) q 1 (q2 : Int), vi_rs (vi_rs M p (fun _ => 0)) (p + 1) (fun _ => 0), p + 2, sl + 7 + 64) := by
  refine vi_k (r := none) fun Q hQ => ?_
  have n1 : q ≠ p := by omega
  have n2 : q ≠ p + 1 := by omega
  have n0 : ¬ (23 : Nat) = 0 := by decide
  have t7 : (7 : Int).toNat = 7 := rfl
  have t64 : (64 : Int).toNat = 64 := rfl
  simp (disch := omega) only [Option.toList_some, Option.toList_none, List.nil_append, List.cons_append, List.append_nil, true_and, and_true, not_true_eq_false, not_false_eq_true, true_implies, false_implies, implies_true, and_self, Int.reduceLT, Int.reduceLE, Int.reduceEq, Int.reduceNe, Int.reduceAdd, Int.reduceSub, Int.reduceMul, Int.reduceNeg, Int.reduceToNat, Int.toNat_natCast, ↓kk_ck, ↓kk_im, ↓kk_in, e_68, s_68_0, s_68_4, s_68_9, s_68_12, s_68_17, s_68_20, s_68_25, s_68_30, ne_eq, h0, h1, yn1o n1, yn1o n2, yf1, n0, t7, t64]
  exact hQ
/-- the LAW as read: at the next free place -/
def pLaw (Y Y' : vi_Y) (M M' : vi_M) (p S c : Nat) : Prop := kLw Y' p S (4 * c) ∧ kBl Y Y' p ∧ (∀ q, q < p → M' q = M q) ∧ M' p = (fun i => if i < S then M 75 i else 0) ∧ M' (p + 1) = (fun i => if i < 4 * c then M 76 i else 0)
theorem k_128 (hY : kY Y 112) {i S l c : Nat} (h73 : M 73 = rRow f b n i S l) (hS : S ≤ 400) (hf5 : f 5 = (c : Int)) (hc : c ≤ 12) (hp : 120 ≤ p) : ∃ (Y' : vi_Y) (M' : vi_M), pLaw Y Y' M M' p S c ∧ ∀ K : Option vi_V → vi_W → Prop, vi_call GG (d + 2) 128 [.inr (.inr 73)] (Y, M, p, sl) K ↔ K (some (.inr (.inr (p + 2)))) (Y', M', p + 5, sl + S + 4 * c + 78) := by
  have e4 : M 73 4 = (S : Int) := by rw [h73]; rfl
  have e5 : M 73 5 = (c : Int) := by rw [h73]; exact hf5
  obtain ⟨a1, a2, a3, a4⟩ := y_73 hY (by omega)
  obtain ⟨c1, c2⟩ := y_75 hY (by omega)
  obtain ⟨d1, d2⟩ := y_76 hY (by omega)
  generalize hY1 : vi_ynew Y p 1 S = Y1
  generalize hY2 : vi_ynew Y1 (p + 1) 1 (4 * c) = Y2
  generalize hY3 : vi_ynew Y2 (p + 2) 23 7 = Y3
  have b1 : kBl Y Y1 p := by rw [← hY1]; exact kBl_n (Nat.le_refl _)
  have b2 : kBl Y1 Y2 (p + 1) := by rw [← hY2]; exact kBl_n (Nat.le_refl _)
  have b3 : kBl Y2 Y3 (p + 2) := by rw [← hY3]; exact kBl_n (Nat.le_refl _)
  generalize hY4 : vi_yfin (vi_yfin (vi_yfin (vi_ynew (vi_yfin (vi_ynew Y3 (p + 3) 1 7) (p + 2) 2 ((p + 3 : Nat) : Int)) (p + 4) 2 64) (p + 2) 3 ((p + 4 : Nat) : Int)) (p + 2) 0 (p : Int)) (p + 2) 1 ((p + 1 : Nat) : Int) = Y4
  have b4 : kBl Y3 Y4 (p + 2) := by
    rw [← hY4]
    exact kBl_t (kBl_n (by omega)) (kBl_t (kBl_f (by omega)) (kBl_t (kBl_n (by omega)) (kBl_t (kBl_f (by omega)) (kBl_t (kBl_f (by omega)) (kBl_f (by omega))))))
  have t1 : Y1.1 p = 1 ∧ Y1.2.1 p = S := by rw [← hY1]; exact ⟨yn1, yn2⟩
  have t2 : Y2.1 (p + 1) = 1 ∧ Y2.2.1 (p + 1) = 4 * c := by rw [← hY2]; exact ⟨yn1, yn2⟩
  have t3 : Y3.1 (p + 2) = 23 := by rw [← hY3]; exact yn1
  have o1 : ∀ q, q < 112 → Y1.1 q = Y.1 q ∧ Y1.2.1 q = Y.2.1 q ∧ Y1.2.2 q = Y.2.2 q := fun q hq => b1 q (by omega)
  have o2 : ∀ q, q < 112 → Y2.1 q = Y.1 q ∧ Y2.2.1 q = Y.2.1 q ∧ Y2.2.2 q = Y.2.2 q := fun q hq => by
    obtain ⟨x1, x2, x3⟩ := b2 q (by omega)
    obtain ⟨y1, y2, y3⟩ := o1 q hq
    exact ⟨x1.trans y1, x2.trans y2, x3.trans y3⟩
  generalize hfs : (fun i : Nat => if i < S then M 75 i else 0) = fs
  generalize hfc : (fun i : Nat => if i < 4 * c then M 76 i else 0) = fc
  refine ⟨Y4, vi_rs (vi_rs (vi_rs (vi_rs (vi_rs M p fs) (p + 1) fc) (p + 2) (fun _ => 0)) (p + 3) (fun _ => 0)) (p + 4) (fun _ => 0), ⟨?_, ?_, ?_, ?_, ?_⟩, fun K => vi_k (r := some (.inr (.inr _))) fun Q hQ => ?_⟩
  · have u1 := b4 p (by omega)
    have u2 := b3 p (by omega)
    have u3 := b2 p (by omega)
    have v1 := b4 (p + 1) (by omega)
    have v2 := b3 (p + 1) (by omega)
    refine ⟨by omega, ?_, ?_, ?_, ?_, ?_, ?_, ?_, ?_, ?_, ?_, ?_, ?_, ?_⟩
    · rw [← hY4]
      show (vi_ynew (vi_yfin (vi_ynew Y3 (p + 3) 1 7) (p + 2) 2 ((p + 3 : Nat) : Int)) (p + 4) 2 64).1 (p + 2) = 23
      rw [yn1o (by omega)]
      show (vi_ynew Y3 (p + 3) 1 7).1 (p + 2) = 23
      rw [yn1o (by omega), t3]
    · rw [← hY4, yf3b (by decide), yf3]; omega
    · rw [u1.1, u2.1, u3.1, t1.1]
    · rw [u1.2.1, u2.2.1, u3.2.1, t1.2]
    · rw [← hY4, yf3]; omega
    · rw [v1.1, v2.1, t2.1]
    · rw [v1.2.1, v2.2.1, t2.2]
    · rw [← hY4, yf3b (by decide), yf3b (by decide), yf3b (by decide), yn3o (by omega), yf3]; omega
    · rw [← hY4]
      show (vi_ynew (vi_yfin (vi_ynew Y3 (p + 3) 1 7) (p + 2) 2 ((p + 3 : Nat) : Int)) (p + 4) 2 64).1 (p + 3) = 1
      rw [yn1o (by omega)]
      exact yn1 (l := 7)
    · rw [← hY4]
      show ((vi_ynew (vi_yfin (vi_ynew Y3 (p + 3) 1 7) (p + 2) 2 ((p + 3 : Nat) : Int)) (p + 4) 2 64).2.1 (p + 3) : Int) = 7
      rw [yn2o (by omega)]
      show ((vi_ynew Y3 (p + 3) 1 7).2.1 (p + 3) : Int) = 7
      rw [yn2]; rfl
    · rw [← hY4, yf3b (by decide), yf3b (by decide), yf3]; omega
    · rw [← hY4]; exact yn1 (l := 64)
    · rw [← hY4]
      show ((vi_ynew (vi_yfin (vi_ynew Y3 (p + 3) 1 7) (p + 2) 2 ((p + 3 : Nat) : Int)) (p + 4) 2 64).2.1 (p + 4) : Int) = 64
      rw [yn2]; rfl
  · exact kBl_t b1 (kBl_t (fun q hq => b2 q (by omega)) (kBl_t (fun q hq => b3 q (by omega)) (fun q hq => b4 q (by omega))))
  · intro q hq
    rw [vi_rs_o (by omega), vi_rs_o (by omega), vi_rs_o (by omega), vi_rs_o (by omega), vi_rs_o (by omega)]
  · rw [vi_rs_o (by omega), vi_rs_o (by omega), vi_rs_o (by omega), vi_rs_o (by omega), vi_rs_s, hfs]
  · rw [vi_rs_o (by omega), vi_rs_o (by omega), vi_rs_o (by omega), vi_rs_s, hfc]
  · -- the rows filled
    have fin : vi_ok GG (d + 1) 128 99 [some (.inr (.inr 73)), some (.inr (.inr p)), some (.inr (.inr (p + 1))), some (.inl ((4 * c : Nat) : Int))] [] (Y2, vi_rs (vi_rs M p fs) (p + 1) fc, p + 2, sl + S + 4 * c) Q := by
      have k68 := fun {K : Option vi_V → vi_W → Prop} => @k_68 d K Y3 (vi_rs (vi_rs (vi_rs M p fs) (p + 1) fc) (p + 2) (fun _ => 0)) (p + 3) (sl + S + 4 * c + 7) (p + 2) p (p + 1) (by omega) t3 (by omega)
      rw [show p + 3 + 1 = p + 4 from rfl, show p + 3 + 2 = p + 5 from rfl, hY4, show sl + S + 4 * c + 7 + 7 + 64 = sl + S + 4 * c + 78 by omega] at k68
      clear hY1 hY2 hY4 b1 b2 b3 b4 o1 o2 hfs hfc
      simp (disch := omega) only [Option.toList_some, Option.toList_none, List.nil_append, List.cons_append, List.append_nil, true_and, and_true, not_true_eq_false, not_false_eq_true, true_implies, false_implies, implies_true, and_self, Int.reduceLT, Int.reduceLE, Int.reduceEq, Int.reduceNe, Int.reduceAdd, Int.reduceSub, Int.reduceMul, Int.reduceNeg, Int.reduceToNat, Int.toNat_natCast, ↓kk_ck, ↓kk_im, ↓kk_in, s_128_0, s_128_25, s_128_34, s_128_49, s_128_75, s_128_84, s_128_99, s_128_5, s_128_22, s_128_30, s_128_40, s_128_54, s_128_72, s_128_80, s_128_90, s_128_102, s_128_11, s_128_31, s_128_42, s_128_59, s_128_81, s_128_92, s_128_108, s_128_14, s_128_43, s_128_62, s_128_93, s_128_16, s_128_64, s_128_66, hY3, t3, k68]
      exact hQ
    have m73 : ∀ g, vi_rs M p g 73 = M 73 := fun g => vi_rs_o (by omega)
    have m75 : ∀ g, vi_rs M p g 75 = M 75 := fun g => vi_rs_o (by omega)
    have mm73 : ∀ g, vi_rs (vi_rs M p fs) (p + 1) g 73 = M 73 := fun g => by rw [vi_rs_o (by omega), vi_rs_o (by omega)]
    have mm76 : ∀ g, vi_rs (vi_rs M p fs) (p + 1) g 76 = M 76 := fun g => by rw [vi_rs_o (by omega), vi_rs_o (by omega)]
    have x73 := o1 73 (by omega)
    have x75 := o1 75 (by omega)
    have y73 := o2 73 (by omega)
    have y76 := o2 76 (by omega)
    have tp1 : (Y1.2.1 p : Int) = (S : Int) := by rw [t1.2]
    have tp2 : (Y2.2.1 (p + 1) : Int) = ((4 * c : Nat) : Int) := by rw [t2.2]
    have g1 : Y1.1 73 = 27 := by rw [x73.1, a1]
    have g2 : (Y1.2.2 73 1).toNat = 75 := by rw [x73.2.2, a3]
    have g3 : Y1.1 75 = 1 := by rw [x75.1, c1]
    have g4 : (Y1.2.1 75 : Int) = 400 := by rw [x75.2.1, c2]
    have h1 : Y2.1 73 = 27 := by rw [y73.1, a1]
    have h2 : (Y2.2.2 73 2).toNat = 76 := by rw [y73.2.2, a4]
    have h3 : Y2.1 76 = 1 := by rw [y76.1, d1]
    have h4 : (Y2.2.1 76 : Int) = 48 := by rw [y76.2.1, d2]
    obtain ⟨t1a, -⟩ := t1
    obtain ⟨t2a, -⟩ := t2
    have loop2 : ∀ j : Nat, j ≤ 4 * c → vi_ok GG (d + 1) 128 69 [some (.inr (.inr 73)), some (.inr (.inr p)), some (.inr (.inr (p + 1))), some (.inl (j : Int))] [] (Y2, vi_rs (vi_rs M p fs) (p + 1) (vi_m j fc (fun _ => 0)), p + 2, sl + S + 4 * c) Q := by
      refine vi_dn (4 * c) ?_ fun j hj ih => ?_
      · rw [vi_m_all (fun j hj => by rw [← hfc]; exact if_neg (by omega))]
        rw [s_128_69]
        clear hY1 hY2 hY3 hY4 b1 b2 b3 b4 o1 o2 hfs hfc hQ
        simp (disch := omega) only [Option.toList_some, Option.toList_none, List.nil_append, List.cons_append, List.append_nil, true_and, and_true, not_true_eq_false, not_false_eq_true, true_implies, false_implies, implies_true, and_self, Int.reduceLT, Int.reduceLE, Int.reduceEq, Int.reduceNe, Int.reduceAdd, Int.reduceSub, Int.reduceMul, Int.reduceNeg, Int.reduceToNat, Int.toNat_natCast, ↓kk_ck, ↓kk_im, ↓kk_in, s_128_72, t2a, tp2]
        exact fin
      · have e : M 76 j = fc j := by rw [← hfc]; exact (if_pos hj).symm
        rw [s_128_69]
        clear hY1 hY2 hY3 hY4 b1 b2 b3 b4 o1 o2 hfs hfc hQ fin
        simp (disch := omega) only [Option.toList_some, Option.toList_none, List.nil_append, List.cons_append, List.append_nil, true_and, and_true, not_true_eq_false, not_false_eq_true, true_implies, false_implies, implies_true, and_self, Int.reduceLT, Int.reduceLE, Int.reduceEq, Int.reduceNe, Int.reduceAdd, Int.reduceSub, Int.reduceMul, Int.reduceNeg, Int.reduceToNat, Int.toNat_natCast, ↓kk_ck, ↓kk_im, ↓kk_in, s_128_0, s_128_25, s_128_34, s_128_49, s_128_75, s_128_84, s_128_99, s_128_5, s_128_22, s_128_30, s_128_40, s_128_54, s_128_72, s_128_80, s_128_90, s_128_102, s_128_11, s_128_31, s_128_42, s_128_59, s_128_81, s_128_92, s_128_108, s_128_14, s_128_43, s_128_62, s_128_93, s_128_16, s_128_64, s_128_66, t2a, tp2, h1, h2, h3, h4, mm76, vi_ms_rs, vi_rs_s, vi_rs_rs, vi_inc]
        rw [vi_m_s e]
        exact ih
    have loop1 : ∀ j : Nat, j ≤ S → ∀ l3, vi_ok GG (d + 1) 128 19 [some (.inr (.inr 73)), some (.inr (.inr p)), some (.inl (j : Int)), l3] [] (Y1, vi_rs M p (vi_m j fs (fun _ => 0)), p + 1, sl + S) Q := by
      refine vi_dn S ?_ fun j hj ih => ?_
      · intro l3
        rw [vi_m_all (fun j hj => by rw [← hfs]; exact if_neg (by omega))]
        have := loop2 0 (by omega)
        rw [vi_m_0] at this
        have em : max (0 : Int) (min (c : Int) 12) = (c : Int) := by omega
        have e4c : ((c : Int) * 4).toNat = 4 * c := by omega
        rw [s_128_19]
        clear hY1 hY3 hY4 b1 b2 b3 b4 o1 o2 hfs hfc hQ fin loop2
        simp (disch := omega) only [Option.toList_some, Option.toList_none, List.nil_append, List.cons_append, List.append_nil, true_and, and_true, not_true_eq_false, not_false_eq_true, true_implies, false_implies, implies_true, and_self, Int.reduceLT, Int.reduceLE, Int.reduceEq, Int.reduceNe, Int.reduceAdd, Int.reduceSub, Int.reduceMul, Int.reduceNeg, Int.reduceToNat, Int.toNat_natCast, ↓kk_ck, ↓kk_im, ↓kk_in, s_128_0, s_128_25, s_128_34, s_128_49, s_128_75, s_128_84, s_128_99, s_128_5, s_128_22, s_128_30, s_128_40, s_128_54, s_128_72, s_128_80, s_128_90, s_128_102, s_128_11, s_128_31, s_128_42, s_128_59, s_128_81, s_128_92, s_128_108, s_128_14, s_128_43, s_128_62, s_128_93, s_128_16, s_128_64, s_128_66, t1a, tp1, g1, m73, e5, k_360, k_358, em, vi_32, e4c, hY2]
        exact this
      · intro l3
        have ih := ih l3
        have e : M 75 j = fs j := by rw [← hfs]; exact (if_pos hj).symm
        rw [s_128_19]
        clear hY1 hY2 hY3 hY4 b1 b2 b3 b4 o1 o2 hfs hfc hQ fin loop2
        simp (disch := omega) only [Option.toList_some, Option.toList_none, List.nil_append, List.cons_append, List.append_nil, true_and, and_true, not_true_eq_false, not_false_eq_true, true_implies, false_implies, implies_true, and_self, Int.reduceLT, Int.reduceLE, Int.reduceEq, Int.reduceNe, Int.reduceAdd, Int.reduceSub, Int.reduceMul, Int.reduceNeg, Int.reduceToNat, Int.toNat_natCast, ↓kk_ck, ↓kk_im, ↓kk_in, s_128_0, s_128_25, s_128_34, s_128_49, s_128_75, s_128_84, s_128_99, s_128_5, s_128_22, s_128_30, s_128_40, s_128_54, s_128_72, s_128_80, s_128_90, s_128_102, s_128_11, s_128_31, s_128_42, s_128_59, s_128_81, s_128_92, s_128_108, s_128_14, s_128_43, s_128_62, s_128_93, s_128_16, s_128_64, s_128_66, t1a, tp1, g1, g2, g3, g4, m75, vi_ms_rs, vi_rs_s, vi_rs_rs, vi_inc]
        rw [vi_m_s e]
        exact ih
    have := loop1 0 (by omega) none
    rw [vi_m_0] at this
    have em : max (0 : Int) (min (S : Int) 400) = (S : Int) := by omega
    clear hY2 hY3 hY4 b1 b2 b3 b4 o1 o2 hfs hfc hQ fin loop2 loop1
    simp (disch := omega) only [Option.toList_some, Option.toList_none, List.nil_append, List.cons_append, List.append_nil, true_and, and_true, not_true_eq_false, not_false_eq_true, true_implies, false_implies, implies_true, and_self, Int.reduceLT, Int.reduceLE, Int.reduceEq, Int.reduceNe, Int.reduceAdd, Int.reduceSub, Int.reduceMul, Int.reduceNeg, Int.reduceToNat, Int.toNat_natCast, ↓kk_ck, ↓kk_im, ↓kk_in, e_128, s_128_0, s_128_25, s_128_34, s_128_49, s_128_75, s_128_84, s_128_99, s_128_5, s_128_22, s_128_30, s_128_40, s_128_54, s_128_72, s_128_80, s_128_90, s_128_102, s_128_11, s_128_31, s_128_42, s_128_59, s_128_81, s_128_92, s_128_108, s_128_14, s_128_43, s_128_62, s_128_93, s_128_16, s_128_64, s_128_66, a1, e4, k_360, k_358, em, hY1]
    exact this
/-- what a LAW that was read is: rows at p, clauses cs -/
def pGood (Y' : vi_Y) (M' : vi_M) (p S : Nat) (cs : List gCla) : Prop := kLw Y' p S (4 * cs.length) ∧ S ≤ 400 ∧ 1 ≤ cs.length ∧ cs.length ≤ 12 ∧ (∀ i, 0 ≤ M' p i ∧ M' p i < 2147483648) ∧ ∀ j (h : j < cs.length), cCl (M' p) (M' (p + 1)) S j cs[j]
theorem k_127 (hY : kY Y 112) (hk : kS Y M) (h400 : n ≤ 400) (hb : tOk b) (m74 : M 74 = b) (hf : M 73 3 = (n : Int)) (hp : 120 ≤ p) {fu : Nat} {res : Option (List gCla)} {i' : Nat} (hg : rdL (tCd b n) (tVl b n) (fun i => decide (tI b n i = n)) fu 12 0 0 [] = some (res, i')) {Q : Option vi_V → vi_W → Prop}
    (hQ0 : res = none → ∀ M' : vi_M, (∀ q, q ≠ 73 → q ≠ 75 → q ≠ 76 → M' q = M q) → M' 73 3 = (n : Int) → M' 73 7 = (tI b n i' : Int) → Q (some (.inr (.inr 0))) (Y, M', p, sl))
    (hQ1 : ∀ cs, res = some cs → ∀ (Y' : vi_Y) (M' : vi_M) (S : Nat), pGood Y' M' p S cs → kBl Y Y' p → (∀ q, q < p → q ≠ 73 → q ≠ 75 → q ≠ 76 → M' q = M q) → M' 73 3 = (n : Int) → M' 73 7 = -1 → Q (some (.inr (.inr (p + 2)))) (Y', M', p + 5, sl + S + 4 * cs.length + 78)) :
    vi_call GG (d + 60) 127 [.inr (.inr 73)] (Y, M, p, sl) Q := by
  obtain ⟨a1, a2, a3, a4⟩ := y_73 hY (by omega)
  have ends : ∀ (M1 : vi_M) (x3 : Int) (l4 : Option vi_V) (i S l c : Nat), (∀ q, q ≠ 73 → q ≠ 75 → q ≠ 76 → M1 q = M q) → M1 73 = rRow (vi_u (M 73) 5 (c : Int)) b n i S l → res = none → i' = i → vi_ok GG (d + 59) 127 90 [some (.inr (.inr 73)), some (.inl 0), some (.inl 0), some (.inl x3), l4] [] (Y, M1, p, sl) Q := by
    intro M1 x3 l4 i S l c hfr h73 hr hi
    have := hQ0 hr (vi_rs M1 73 (vi_u (M1 73) 7 (tI b n i' : Int))) (fun q q1 q2 q3 => by rw [vi_rs_o q1]; exact hfr q q1 q2 q3) (by rw [vi_rs_s, vi_u_o (by decide), h73]; exact hf) (by rw [vi_rs_s, vi_u_s])
    have e9 : M1 73 9 = (tI b n i' : Int) := by rw [h73, hi]; rfl
    clear hQ0 hQ1 hg
    simp (disch := omega) only [Option.toList_some, Option.toList_none, List.nil_append, List.cons_append, List.append_nil, true_and, and_true, not_true_eq_false, not_false_eq_true, true_implies, false_implies, implies_true, and_self, Int.reduceLT, Int.reduceLE, Int.reduceEq, Int.reduceNe, Int.reduceAdd, Int.reduceSub, Int.reduceMul, Int.reduceNeg, Int.reduceToNat, Int.toNat_natCast, ↓kk_ck, ↓kk_im, ↓kk_in, s_127_0, s_127_36, s_127_40, s_127_51, s_127_58, s_127_62, s_127_63, s_127_69, s_127_78, s_127_82, s_127_83, s_127_90, s_127_95, s_127_99, s_127_103, s_127_110, s_127_117, s_127_118, s_127_5, s_127_44, s_127_55, s_127_75, s_127_106, s_127_114, s_127_10, s_127_15, s_127_20, s_127_24, a1, e9, vi_ms_rs]
    exact this
  have loop : ∀ (k i S l c : Nat) (cs : List gCla) (M1 : vi_M) (l4 : Option vi_V), c + k = 12 → cs.length = c → rdL (tCd b n) (tVl b n) (fun i => decide (tI b n i = n)) fu k i l cs = some (res, i') → (∀ q, q ≠ 73 → q ≠ 75 → q ≠ 76 → M1 q = M q) → M1 73 = rRow (vi_u (M 73) 5 (c : Int)) b n i S l → l ≤ 50 → S ≤ tI b n i → (∀ x, x < S → 0 ≤ M1 75 x ∧ M1 75 x < 2147483648) → (∀ j (h : j < cs.length), cCl (M1 75) (M1 76) S j cs[j]) → vi_ok GG (d + 59) 127 30 [some (.inr (.inr 73)), some (.inl 1), some (.inl 0), some (.inl (c : Int)), l4] [] (Y, M1, p, sl) Q := by
    intro k
    induction k with
    | zero =>
      intro i S l c cs M1 l4 hck hlen hg hfr h73 hl hS hbd hcl
      rw [rdL] at hg
      obtain ⟨hr0, hi0⟩ := Prod.mk.inj (Option.some.inj hg)
      have e9 : M1 73 9 = (tI b n i' : Int) := by rw [h73, ← hi0]; rfl
      have := hQ0 hr0.symm (vi_rs M1 73 (vi_u (M1 73) 7 (tI b n i' : Int))) (fun q q1 q2 q3 => by rw [vi_rs_o q1]; exact hfr q q1 q2 q3) (by rw [vi_rs_s, vi_u_o (by decide), h73]; exact hf) (by rw [vi_rs_s, vi_u_s])
      rw [s_127_30]
      clear hQ0 hQ1 ends hbd hcl
      simp (disch := omega) only [Option.toList_some, Option.toList_none, List.nil_append, List.cons_append, List.append_nil, true_and, and_true, not_true_eq_false, not_false_eq_true, true_implies, false_implies, implies_true, and_self, Int.reduceLT, Int.reduceLE, Int.reduceEq, Int.reduceNe, Int.reduceAdd, Int.reduceSub, Int.reduceMul, Int.reduceNeg, Int.reduceToNat, Int.toNat_natCast, ↓kk_ck, ↓kk_im, ↓kk_in, s_127_0, s_127_36, s_127_40, s_127_51, s_127_58, s_127_62, s_127_63, s_127_69, s_127_78, s_127_82, s_127_83, s_127_90, s_127_95, s_127_99, s_127_103, s_127_110, s_127_117, s_127_118, s_127_5, s_127_44, s_127_55, s_127_75, s_127_106, s_127_114, s_127_10, s_127_15, s_127_20, s_127_24, a1, e9, vi_ms_rs]
      exact this
    | succ k ih =>
      intro i S l c cs M1 l4 hck hlen hg hfr h73 hl hS hbd hcl
      have m174 : M1 74 = b := by rw [hfr 74 (by omega) (by omega) (by omega)]; exact m74
      have hk1 : kS Y M1 := fun j hj => by
        obtain ⟨h1, h2, h3, h4, h5, h6⟩ := hk j hj
        exact ⟨h1, h2, h3, h4, h5, fun x hx => by rw [hfr (15 + j) (by omega) (by omega) (by omega)]; exact h6 x hx⟩
      rw [rdL] at hg
      have main : vi_call GG (d + 59) 129 [.inr (.inr 73)] (Y, M1, p, sl) (fun r w' => vi_ok GG (d + 59) 127 44 [some (.inr (.inr 73)), some (.inl 1), some (.inl 0), some (.inl (c : Int)), l4] r.toList w' Q) := by
        cases hr : rdC (tCd b n) (tVl b n) fu i l with
        | none => rw [hr] at hg; cases hg
        | some r0 =>
          refine k_129 hY h400 hb (f := vi_u (M 73) 5 (c : Int)) (by rw [vi_u_o (by decide)]; exact hf) (by omega) h73 m174 hk1 hl hS vi_u_s (by omega) hr fun M2 hres => ?_
          obtain ⟨ok, i2, l2, cla⟩ := r0
          rw [hr] at hg
          obtain ⟨g1, g2, g3⟩ := hres
          have fr2 : ∀ q, q ≠ 73 → q ≠ 75 → q ≠ 76 → M2 q = M q := fun q q1 q2 q3 => by rw [g1 q q1 q2 q3]; exact hfr q q1 q2 q3
          cases ok
          · dsimp only at hg
            obtain ⟨hr0, hi0⟩ := Prod.mk.inj (Option.some.inj hg)
            obtain ⟨-, S2, l3, h273, -, -⟩ := g3 rfl
            have := ends M2 ((c + 1 : Nat) : Int) (some (.inl 0)) i2 S2 l3 c fr2 h273 hr0.symm hi0.symm
            clear hQ0 hQ1 ih hbd hcl ends g2 g3
            by_cases hc12 : c + 1 = 12
            · simp (disch := omega) only [Option.toList_some, Option.toList_none, List.nil_append, List.cons_append, List.append_nil, true_and, and_true, not_true_eq_false, not_false_eq_true, true_implies, false_implies, implies_true, and_self, Int.reduceLT, Int.reduceLE, Int.reduceEq, Int.reduceNe, Int.reduceAdd, Int.reduceSub, Int.reduceMul, Int.reduceNeg, Int.reduceToNat, Int.toNat_natCast, ↓kk_ck, ↓kk_im, ↓kk_in, s_127_44, s_127_62, s_127_63, s_127_82, s_127_83, vi_bf, vi_inc]
              rw [s_127_30]
              simp (disch := omega) only [Option.toList_some, Option.toList_none, List.nil_append, List.cons_append, List.append_nil, true_and, and_true, not_true_eq_false, not_false_eq_true, true_implies, false_implies, implies_true, and_self, Int.reduceLT, Int.reduceLE, Int.reduceEq, Int.reduceNe, Int.reduceAdd, Int.reduceSub, Int.reduceMul, Int.reduceNeg, Int.reduceToNat, Int.toNat_natCast, ↓kk_ck, ↓kk_im, ↓kk_in, s_127_36]
              exact this
            · simp (disch := omega) only [Option.toList_some, Option.toList_none, List.nil_append, List.cons_append, List.append_nil, true_and, and_true, not_true_eq_false, not_false_eq_true, true_implies, false_implies, implies_true, and_self, Int.reduceLT, Int.reduceLE, Int.reduceEq, Int.reduceNe, Int.reduceAdd, Int.reduceSub, Int.reduceMul, Int.reduceNeg, Int.reduceToNat, Int.toNat_natCast, ↓kk_ck, ↓kk_im, ↓kk_in, s_127_44, s_127_62, s_127_63, s_127_82, s_127_83, vi_bf, vi_inc]
              rw [s_127_30]
              simp (disch := omega) only [Option.toList_some, Option.toList_none, List.nil_append, List.cons_append, List.append_nil, true_and, and_true, not_true_eq_false, not_false_eq_true, true_implies, false_implies, implies_true, and_self, Int.reduceLT, Int.reduceLE, Int.reduceEq, Int.reduceNe, Int.reduceAdd, Int.reduceSub, Int.reduceMul, Int.reduceNeg, Int.reduceToNat, Int.toNat_natCast, ↓kk_ck, ↓kk_im, ↓kk_in, s_127_36]
              exact this
          · dsimp only at hg
            obtain ⟨S2, h273, hl2, hSS, hS2, hold, hbd2, hc76, hcl2⟩ := g2 rfl
            dsimp only at h273 hl2 hS2 hcl2
            have hle2 := tI_le (b := b) (n := n) i2
            rw [vi_u_u] at h273
            have h274 : M2 74 = b := by rw [fr2 74 (by omega) (by omega) (by omega)]; exact m74
            have e8 : M2 73 8 = tKd b n (tI b n i2) := by rw [h273]; rfl
            have P := fun {D : Nat} {K : Option vi_V → vi_W → Prop} (hD : 4 ≤ D) => @k_147' D K Y M2 (p, sl) n b (vi_u (M 73) 5 ((c + 1 : Nat) : Int)) hY h400 hb h274 (by rw [vi_u_o (by decide)]; exact hf) i2 S2 l2 h273 59 (by decide) 159 (by decide) hD
            have bd2 : ∀ x, x < S2 → 0 ≤ M2 75 x ∧ M2 75 x < 2147483648 := fun x hx => by
              by_cases e : x < S
              · rw [hold x e]; exact hbd x e
              · exact hbd2 x (by omega) hx
            have cl2 : ∀ j (h : j < (cs ++ [cla]).length), cCl (M2 75) (M2 76) S2 j (cs ++ [cla])[j] := fun j h => by
              rw [List.length_append, List.length_singleton] at h
              by_cases e : j < cs.length
              · rw [List.getElem_append_left e]
                exact cCl_c (hcl j e) hold (fun x hx => hc76 _ (by omega)) hSS
              · obtain rfl : j = cs.length := by omega
                rw [List.getElem_append_right (Nat.le_refl _)]
                simp only [Nat.sub_self, List.getElem_cons_zero]
                rw [hlen]
                exact hcl2
            have len2 : (cs ++ [cla]).length = c + 1 := by rw [List.length_append, List.length_singleton, hlen]
            by_cases h159 : tCd b n i2 = 159
            · rw [if_pos h159] at hg
              rw [decide_eq_true h159, if_pos h159] at P
              have hin := tI_cd (b := b) (n := n) (i := i2) (by omega)
              have his := tI_s hin
              have hk3 : ¬ tKd b n (tI b n i2) = 0 := by
                rcases tKd_r (b := b) (n := n) (p := tI b n i2) with ⟨-, h⟩ | ⟨h | h | h, -⟩ <;> omega
              have := fun l4 => ih (i2 + 1) S2 l2 (c + 1) (cs ++ [cla]) (vi_rs M2 73 (rRow (vi_u (M 73) 5 ((c + 1 : Nat) : Int)) b n (i2 + 1) S2 l2)) l4 (by omega) len2 hg (fun q q1 q2 q3 => by rw [vi_rs_o q1]; exact fr2 q q1 q2 q3) vi_rs_s hl2 (by omega) (fun x hx => by rw [vi_rs_o (by omega)]; exact bd2 x hx) (fun j h => by
                have e75 : vi_rs M2 73 (rRow (vi_u (M 73) 5 ((c + 1 : Nat) : Int)) b n (i2 + 1) S2 l2) 75 = M2 75 := vi_rs_o (by omega)
                have e76 : vi_rs M2 73 (rRow (vi_u (M 73) 5 ((c + 1 : Nat) : Int)) b n (i2 + 1) S2 l2) 76 = M2 76 := vi_rs_o (by omega)
                rw [e75, e76]
                exact cl2 j h)
              clear hQ0 hQ1 ih hbd hcl ends g2 g3 cl2 bd2 hcl2 hbd2 hold
              simp (disch := omega) only [Option.toList_some, Option.toList_none, List.nil_append, List.cons_append, List.append_nil, true_and, and_true, not_true_eq_false, not_false_eq_true, true_implies, false_implies, implies_true, and_self, Int.reduceLT, Int.reduceLE, Int.reduceEq, Int.reduceNe, Int.reduceAdd, Int.reduceSub, Int.reduceMul, Int.reduceNeg, Int.reduceToNat, Int.toNat_natCast, ↓kk_ck, ↓kk_im, ↓kk_in, s_127_44, s_127_51, s_127_55, s_127_62, s_127_63, s_127_69, s_127_75, s_127_78, s_127_83, a1, e8, hk3, ne_eq, P, vi_bt, vi_inc]
              exact this _
            · rw [if_neg h159] at hg
              rw [decide_eq_false h159, if_neg h159, vi_rs_id h273] at P
              by_cases hen : tI b n i2 = n
              · rw [if_pos (decide_eq_true hen)] at hg
                obtain ⟨hr0, hi0⟩ := Prod.mk.inj (Option.some.inj hg)
                have hk0 : tKd b n (tI b n i2) = 0 := by
                  unfold tKd
                  rw [if_neg (by omega)]
                obtain ⟨Y', M', ⟨w1, w2, w3, w4, w5⟩, k128⟩ := k_128 (d := d + 57) (M := vi_rs M2 73 (rRow (vi_u (vi_u (M 73) 5 ((c + 1 : Nat) : Int)) 7 (-1)) b n i2 S2 l2)) (sl := sl) hY (b := b) (n := n) (f := vi_u (vi_u (M 73) 5 ((c + 1 : Nat) : Int)) 7 (-1)) (i := i2) (S := S2) (l := l2) (c := c + 1) vi_rs_s (by omega) (by rw [vi_u_o (by decide), vi_u_s]) (by omega) hp
                have er : vi_u (M2 73) 7 (-1) = rRow (vi_u (vi_u (M 73) 5 ((c + 1 : Nat) : Int)) 7 (-1)) b n i2 S2 l2 := by
                  funext x
                  rw [h273]
                  unfold vi_u rRow
                  by_cases h7 : x = 7
                  · subst h7; rfl
                  · simp only [if_neg h7]
                rw [← er] at w3 w4 w5 k128
                have := hQ1 (cs ++ [cla]) hr0.symm Y' M' S2 ⟨by rw [len2]; exact w1, by omega, by rw [len2]; omega, by rw [len2]; omega, fun x => by
                    rw [w4]
                    dsimp only
                    split
                    · rename_i hx
                      rw [vi_rs_o (by omega)]; exact bd2 x hx
                    · omega, fun j h => by
                    rw [w4, w5]
                    refine cCl_c (cl2 j h) (fun x hx => ?_) (fun x hx => ?_) (Nat.le_refl _)
                    · rw [if_pos hx, vi_rs_o (by omega)]
                    · rw [len2] at h; rw [if_pos (by omega), vi_rs_o (by omega)]⟩ w2 (fun q q0 q1 q2 q3 => by rw [w3 q q0, vi_rs_o q1]; exact fr2 q q1 q2 q3) (by rw [w3 73 (by omega), vi_rs_s, vi_u_o (by decide), h273]; exact hf) (by rw [w3 73 (by omega), vi_rs_s, vi_u_s])
                rw [len2] at this
                clear hQ0 hQ1 ih hbd hcl ends g2 g3 cl2 bd2 hcl2 hbd2 hold w1 w2 w3 w4 w5 er
                by_cases hc12 : c + 1 = 12
                · simp (disch := omega) only [Option.toList_some, Option.toList_none, List.nil_append, List.cons_append, List.append_nil, true_and, and_true, not_true_eq_false, not_false_eq_true, true_implies, false_implies, implies_true, and_self, Int.reduceLT, Int.reduceLE, Int.reduceEq, Int.reduceNe, Int.reduceAdd, Int.reduceSub, Int.reduceMul, Int.reduceNeg, Int.reduceToNat, Int.toNat_natCast, ↓kk_ck, ↓kk_im, ↓kk_in, s_127_44, s_127_51, s_127_55, s_127_58, s_127_63, s_127_69, s_127_75, s_127_82, s_127_83, a1, e8, hk0, ne_eq, P, vi_bt, vi_bf, vi_inc]
                  rw [s_127_30]
                  simp (disch := omega) only [Option.toList_some, Option.toList_none, List.nil_append, List.cons_append, List.append_nil, true_and, and_true, not_true_eq_false, not_false_eq_true, true_implies, false_implies, implies_true, and_self, Int.reduceLT, Int.reduceLE, Int.reduceEq, Int.reduceNe, Int.reduceAdd, Int.reduceSub, Int.reduceMul, Int.reduceNeg, Int.reduceToNat, Int.toNat_natCast, ↓kk_ck, ↓kk_im, ↓kk_in, s_127_0, s_127_36, s_127_40, s_127_51, s_127_58, s_127_62, s_127_63, s_127_69, s_127_78, s_127_82, s_127_83, s_127_90, s_127_95, s_127_99, s_127_103, s_127_110, s_127_117, s_127_118, s_127_5, s_127_44, s_127_55, s_127_75, s_127_106, s_127_114, s_127_10, s_127_15, s_127_20, s_127_24, a1, vi_ms_rs, k128]
                  exact this
                · simp (disch := omega) only [Option.toList_some, Option.toList_none, List.nil_append, List.cons_append, List.append_nil, true_and, and_true, not_true_eq_false, not_false_eq_true, true_implies, false_implies, implies_true, and_self, Int.reduceLT, Int.reduceLE, Int.reduceEq, Int.reduceNe, Int.reduceAdd, Int.reduceSub, Int.reduceMul, Int.reduceNeg, Int.reduceToNat, Int.toNat_natCast, ↓kk_ck, ↓kk_im, ↓kk_in, s_127_44, s_127_51, s_127_55, s_127_58, s_127_63, s_127_69, s_127_75, s_127_82, s_127_83, a1, e8, hk0, ne_eq, P, vi_bt, vi_bf, vi_inc]
                  rw [s_127_30]
                  simp (disch := omega) only [Option.toList_some, Option.toList_none, List.nil_append, List.cons_append, List.append_nil, true_and, and_true, not_true_eq_false, not_false_eq_true, true_implies, false_implies, implies_true, and_self, Int.reduceLT, Int.reduceLE, Int.reduceEq, Int.reduceNe, Int.reduceAdd, Int.reduceSub, Int.reduceMul, Int.reduceNeg, Int.reduceToNat, Int.toNat_natCast, ↓kk_ck, ↓kk_im, ↓kk_in, s_127_0, s_127_36, s_127_40, s_127_51, s_127_58, s_127_62, s_127_63, s_127_69, s_127_78, s_127_82, s_127_83, s_127_90, s_127_95, s_127_99, s_127_103, s_127_110, s_127_117, s_127_118, s_127_5, s_127_44, s_127_55, s_127_75, s_127_106, s_127_114, s_127_10, s_127_15, s_127_20, s_127_24, a1, vi_ms_rs, k128]
                  exact this
              · rw [if_neg (by rw [decide_eq_false hen]; simp)] at hg
                obtain ⟨hr0, hi0⟩ := Prod.mk.inj (Option.some.inj hg)
                have hk0 : ¬ tKd b n (tI b n i2) = 0 := by
                  rcases tKd_r (b := b) (n := n) (p := tI b n i2) with ⟨-, h⟩ | ⟨h | h | h, -⟩ <;> omega
                have := ends M2 ((c + 1 : Nat) : Int) (some (.inl 1)) i2 S2 l2 (c + 1) fr2 h273 hr0.symm hi0.symm
                clear hQ0 hQ1 ih hbd hcl ends g2 g3 cl2 bd2 hcl2 hbd2 hold
                by_cases hc12 : c + 1 = 12
                · simp (disch := omega) only [Option.toList_some, Option.toList_none, List.nil_append, List.cons_append, List.append_nil, true_and, and_true, not_true_eq_false, not_false_eq_true, true_implies, false_implies, implies_true, and_self, Int.reduceLT, Int.reduceLE, Int.reduceEq, Int.reduceNe, Int.reduceAdd, Int.reduceSub, Int.reduceMul, Int.reduceNeg, Int.reduceToNat, Int.toNat_natCast, ↓kk_ck, ↓kk_im, ↓kk_in, s_127_44, s_127_51, s_127_55, s_127_62, s_127_63, s_127_69, s_127_75, s_127_82, s_127_83, a1, e8, hk0, ne_eq, P, vi_bt, vi_bf, vi_inc]
                  rw [s_127_30]
                  simp (disch := omega) only [Option.toList_some, Option.toList_none, List.nil_append, List.cons_append, List.append_nil, true_and, and_true, not_true_eq_false, not_false_eq_true, true_implies, false_implies, implies_true, and_self, Int.reduceLT, Int.reduceLE, Int.reduceEq, Int.reduceNe, Int.reduceAdd, Int.reduceSub, Int.reduceMul, Int.reduceNeg, Int.reduceToNat, Int.toNat_natCast, ↓kk_ck, ↓kk_im, ↓kk_in, s_127_36]
                  exact this
                · simp (disch := omega) only [Option.toList_some, Option.toList_none, List.nil_append, List.cons_append, List.append_nil, true_and, and_true, not_true_eq_false, not_false_eq_true, true_implies, false_implies, implies_true, and_self, Int.reduceLT, Int.reduceLE, Int.reduceEq, Int.reduceNe, Int.reduceAdd, Int.reduceSub, Int.reduceMul, Int.reduceNeg, Int.reduceToNat, Int.toNat_natCast, ↓kk_ck, ↓kk_im, ↓kk_in, s_127_44, s_127_51, s_127_55, s_127_62, s_127_63, s_127_69, s_127_75, s_127_82, s_127_83, a1, e8, hk0, ne_eq, P, vi_bt, vi_bf, vi_inc]
                  rw [s_127_30]
                  simp (disch := omega) only [Option.toList_some, Option.toList_none, List.nil_append, List.cons_append, List.append_nil, true_and, and_true, not_true_eq_false, not_false_eq_true, true_implies, false_implies, implies_true, and_self, Int.reduceLT, Int.reduceLE, Int.reduceEq, Int.reduceNe, Int.reduceAdd, Int.reduceSub, Int.reduceMul, Int.reduceNeg, Int.reduceToNat, Int.toNat_natCast, ↓kk_ck, ↓kk_im, ↓kk_in, s_127_36]
                  exact this
      rw [s_127_30]
      clear hQ0 hQ1 ih hbd hcl ends hg
      simp (disch := omega) only [Option.toList_some, Option.toList_none, List.nil_append, List.cons_append, List.append_nil, true_and, and_true, not_true_eq_false, not_false_eq_true, true_implies, false_implies, implies_true, and_self, Int.reduceLT, Int.reduceLE, Int.reduceEq, Int.reduceNe, Int.reduceAdd, Int.reduceSub, Int.reduceMul, Int.reduceNeg, Int.reduceToNat, Int.toNat_natCast, ↓kk_ck, ↓kk_im, ↓kk_in, s_127_36, s_127_40, a1]
      exact main
  generalize hM0 : vi_rs M 73 (vi_u (vi_u (vi_u (vi_u (M 73) 4 0) 5 0) 6 0) 10 0) = M0
  have m0f : ∀ q, q ≠ 73 → M0 q = M q := fun q hq => by rw [← hM0, vi_rs_o hq]
  have m0 : M0 73 = vi_u (vi_u (vi_u (vi_u (M 73) 4 0) 5 0) 6 0) 10 0 := by rw [← hM0, vi_rs_s]
  have k143 := fun {K : Option vi_V → vi_W → Prop} => @k_143 (d + 56) K Y M0 (p, sl) n hY (by rw [m0]; exact hf) h400 (by rw [m0f 74 (by omega), m74]; exact hb) 0 (Nat.zero_le _) (by rw [m0]; rfl)
  rw [m0f 74 (by omega), m74] at k143
  have er : vi_u (vi_u (vi_u (M0 73) 9 (tF b n 0 : Int)) 8 (tKd b n (tF b n 0))) 10 (tE b n (tF b n 0) : Int) = rRow (vi_u (M 73) 5 ((0 : Nat) : Int)) b n 0 0 0 := by
    funext k
    rw [m0]
    unfold vi_u rRow
    rw [show tI b n 0 = tF b n 0 from rfl]
    by_cases h10 : k = 10
    · subst h10; rfl
    · by_cases h8 : k = 8
      · subst h8; rfl
      · by_cases h9 : k = 9
        · subst h9; rfl
        · by_cases h4 : k = 4
          · subst h4; rfl
          · by_cases h6 : k = 6
            · subst h6; rfl
            · simp only [if_neg h10, if_neg h8, if_neg h9, if_neg h4, if_neg h6]
              rfl
  rw [er] at k143
  simp only [Nat.add_assoc, Nat.reduceAdd] at k143
  have := loop 12 0 0 0 0 [] (vi_rs M0 73 (rRow (vi_u (M 73) 5 ((0 : Nat) : Int)) b n 0 0 0)) none (by omega) rfl hg (fun q q1 q2 q3 => by rw [vi_rs_o q1]; exact m0f q q1) vi_rs_s (by omega) (Nat.zero_le _) (fun x hx => by omega) (fun j h => absurd h (Nat.not_lt_zero j))
  clear loop hQ0 hQ1 hg ends m0f m0 er
  simp (disch := omega) only [Option.toList_some, Option.toList_none, List.nil_append, List.cons_append, List.append_nil, true_and, and_true, not_true_eq_false, not_false_eq_true, true_implies, false_implies, implies_true, and_self, Int.reduceLT, Int.reduceLE, Int.reduceEq, Int.reduceNe, Int.reduceAdd, Int.reduceSub, Int.reduceMul, Int.reduceNeg, Int.reduceToNat, Int.toNat_natCast, ↓kk_ck, ↓kk_im, ↓kk_in, e_127, s_127_0, s_127_5, s_127_10, s_127_15, s_127_20, s_127_24, a1, vi_ms_rs, vi_rs_s, vi_rs_rs, hM0, k143]
  exact this
end
