/-! Contracts of the reference, twenty-first part: HOLES out of a TEXT's bytes. -/
def mIhb (f : Nat → Int) (a u v s k t : Int) : Bool := mIb f a u v && decide ((0 ≤ s ∧ s ≤ 1) ∧ (1 ≤ k ∧ k ≤ 6) ∧ (-1 ≤ t ∧ t ≤ 1))
theorem mIhb_t {M : vi_M} {a u v s k t : Int} (h : mIhb (M 114) a u v s k t = true) : mIh M a u v s k t := by
  unfold mIhb mIb at h
  rw [Bool.and_eq_true] at h
  have h1 := of_decide_eq_true h.1
  have h2 := of_decide_eq_true h.2
  exact ⟨h1, h2⟩
theorem mIhb_f {M : vi_M} {a u v s k t : Int} (h : mIhb (M 114) a u v s k t ≠ true) : ¬ mIh M a u v s k t := by
  intro q
  apply h
  unfold mIhb mIb
  rw [Bool.and_eq_true]
  exact ⟨decide_eq_true q.1, decide_eq_true q.2⟩
/-- k sixes of bytes from o on: what is kept then, how many HOLES -/
def rwF (t : Nat → Int) : Nat → Nat → (Nat → Int) → Nat → (Nat → Int) × Nat
  | 0, _, f, n => (f, n)
  | k + 1, o, f, n => if n < 16 ∧ mIhb f (t o) (t (o + 1)) (t (o + 2)) (t (o + 3)) (t (o + 4)) (t (o + 5) - 1) = true then rwF t k (o + 6) (mAd f n (t o) (t (o + 1)) (t (o + 2)) (t (o + 3)) (t (o + 4)) (t (o + 5) - 1)) (n + 1) else rwF t k (o + 6) f n
theorem rwF_n {t : Nat → Int} : ∀ (k o : Nat) (f : Nat → Int) (n : Nat), n ≤ 16 → n ≤ (rwF t k o f n).2 ∧ (rwF t k o f n).2 ≤ 16 ∧ (rwF t k o f n).2 ≤ n + k
  | 0, o, f, n, hn => by rw [rwF]; dsimp only; omega
  | k + 1, o, f, n, hn => by
    rw [rwF]
    split
    · have := rwF_n (t := t) k (o + 6) (mAd f n (t o) (t (o + 1)) (t (o + 2)) (t (o + 3)) (t (o + 4)) (t (o + 5) - 1)) (n + 1) (by omega)
      omega
    · have := rwF_n (t := t) k (o + 6) f n hn
      omega
theorem mAd_o {f : Nat → Int} {n : Nat} {a u v s k t : Int} {j : Nat} (h : 6 * n + 5 < j) (h2 : j ≠ 292) : mAd f n a u v s k t j = f j := by
  unfold mAd vi_u
  rw [if_neg h2, if_neg (by omega), if_neg (by omega), if_neg (by omega), if_neg (by omega), if_neg (by omega), if_neg (by omega)]
theorem mAd_n {f : Nat → Int} {n : Nat} {a u v s k t : Int} : mAd f n a u v s k t 292 = ((n + 1 : Nat) : Int) := by
  unfold mAd vi_u
  exact if_pos rfl
section
variable {D : Nat} {K : Option vi_V → vi_W → Prop} {Y : vi_Y} {M : vi_M} {nn : Nat × Nat} {n : Nat} {Q : Option vi_V → vi_W → Prop}
theorem h_256 (hY : kY Y 151) {T : Nat → Int} (hT : ∀ i, -128 ≤ T i ∧ T i ≤ 127) {c : Nat} (hc : c ≤ 400) {g : Nat → Int} (hD : 5 ≤ D) : ∀ (k o n x2 : Nat) (r : Int) (M : vi_M) (l4 : Option vi_V), o + 6 * k + c % 6 = c → M 118 = T → n ≤ 16 → M 114 292 = (n : Int) → mBx M → (0 ≤ r ∧ r ≤ (o : Int) + 1) → x2 ≤ o → M 112 = vi_u g 6 r → (∀ l4, vi_ok GG D 256 220 [some (.inr (.inr 112)), some (.inl (c : Int)), some (.inl ((x2 + ((rwF T k o (M 114) n).2 - n) : Nat) : Int)), some (.inl ((c - c % 6 : Nat) : Int)), l4] [] (Y, vi_rs (vi_rs M 114 (rwF T k o (M 114) n).1) 112 (vi_u g 6 (r + ((k - ((rwF T k o (M 114) n).2 - n) : Nat) : Int))), nn) Q) →
    vi_ok GG D 256 41 [some (.inr (.inr 112)), some (.inl (c : Int)), some (.inl (x2 : Int)), some (.inl (o : Int)), l4] [] (Y, M, nn) Q := by
  obtain ⟨R1, -, R3, -, -, -, R8, -⟩ := y_112 hY (by omega)
  obtain ⟨w1, w2⟩ := y_114 hY (by omega)
  obtain ⟨u1, u2⟩ := y_118 hY (by omega)
  have uu : ∀ x y : Int, vi_u (vi_u g 6 x) 6 y = vi_u g 6 y := fun x y => by
    funext k
    unfold vi_u
    by_cases e : k = 6
    · rw [if_pos e, if_pos e]
    · rw [if_neg e, if_neg e, if_neg e]
  have v6 : ∀ x : Int, vi_u g 6 x 6 = x := fun x => if_pos rfl
  intro k
  induction k with
  | zero =>
    intro o n x2 r M l4 ho h118 hn h292 hB hr hx2 h112 hQ
    have := hQ l4
    rw [rwF] at this
    dsimp only at this
    rw [vi_rs_id (f := M 114) rfl, Nat.sub_self, Nat.add_zero, Nat.sub_self, show r + ((0 : Nat) : Int) = r by omega, vi_rs_id h112, show c - c % 6 = o by omega] at this
    clear hQ
    rw [s_256_41]
    simp (disch := omega) only [Option.toList_some, Option.toList_none, List.nil_append, List.cons_append, List.append_nil, true_and, and_true, not_true_eq_false, not_false_eq_true, true_implies, false_implies, implies_true, and_self, Int.reduceLT, Int.reduceLE, Int.reduceEq, Int.reduceNe, Int.reduceAdd, Int.reduceSub, Int.reduceMul, Int.reduceNeg, Int.reduceToNat, Int.toNat_natCast, ↓kk_ck, ↓kk_im, ↓kk_in, s_256_46, @vi_32 ((o : Int) + 6) (by omega) (by omega)]
    exact this
  | succ k ih =>
    intro o n x2 r M l4 ho h118 hn h292 hB hr hx2 h112 hQ
    have cm : ∀ (f r X Z : Nat → Int), vi_rs (vi_rs (vi_rs (vi_rs M 114 f) 112 r) 114 X) 112 Z = vi_rs (vi_rs M 114 X) 112 Z := fun f r X Z => by rw [vi_rs_cm (p := 112) (q := 114) (by omega), vi_rs_rs, vi_rs_rs]
    have b0 := hT o
    have b1 := hT (o + 1)
    have b2 := hT (o + 2)
    have b3 := hT (o + 3)
    have b4 := hT (o + 4)
    have b5 := hT (o + 5)
    have o6 : ((o + 6 : Nat) : Int) = (o : Int) + 6 := by omega
    have q0 : ((o : Int)).toNat = o := by omega
    have q1 : ((o : Int) + 1).toNat = o + 1 := by omega
    have q2 : ((o : Int) + 2).toNat = o + 2 := by omega
    have q3 : ((o : Int) + 3).toNat = o + 3 := by omega
    have q4 : ((o : Int) + 4).toNat = o + 4 := by omega
    have q5 : ((o : Int) + 5).toNat = o + 5 := by omega
    have m6 : M 112 6 = r := by rw [h112]; exact v6 r
    by_cases hh : n < 16 ∧ mIhb (M 114) (T o) (T (o + 1)) (T (o + 2)) (T (o + 3)) (T (o + 4)) (T (o + 5) - 1) = true
    · have hp := mIhb_t hh.2
      have nb := rwF_n (t := T) k (o + 6) (mAd (M 114) n (T o) (T (o + 1)) (T (o + 2)) (T (o + 3)) (T (o + 4)) (T (o + 5) - 1)) (n + 1) (by omega)
      have go := ih (o + 6) (n + 1) (x2 + 1) r (vi_rs (vi_rs M 114 (mAd (M 114) n (T o) (T (o + 1)) (T (o + 2)) (T (o + 3)) (T (o + 4)) (T (o + 5) - 1))) 112 (vi_u g 6 r)) (some (.inl 1)) (by omega) (by rw [vi_rs_o (by omega), vi_rs_o (by omega)]; exact h118) (by omega) (by rw [vi_rs_o (by omega), vi_rs_s]; exact mAd_n) (by
        unfold mBx at *
        rw [vi_rs_o (by omega), vi_rs_s, mAd_o (by omega) (by omega), mAd_o (by omega) (by omega), mAd_o (by omega) (by omega)]
        exact hB) (by omega) (by omega) vi_rs_s (fun l4 => by
        have := hQ l4
        rw [rwF, if_pos hh] at this
        rw [vi_rs_o (q := 112) (by omega), vi_rs_s, cm]
        generalize rwF T k (o + 6) (mAd (M 114) n (T o) (T (o + 1)) (T (o + 2)) (T (o + 3)) (T (o + 4)) (T (o + 5) - 1)) (n + 1) = R at this nb ⊢
        rw [show x2 + 1 + (R.2 - (n + 1)) = x2 + (R.2 - n) by omega, show k - (R.2 - (n + 1)) = k + 1 - (R.2 - n) by omega]
        exact this)
      have e6 : vi_u (M 112) 6 (r + 0) = vi_u g 6 r := by rw [h112, uu, Int.add_zero]
      have hn16 : n < 16 := hh.1
      have B := fun {D : Nat} {K : Option vi_V → vi_W → Prop} (hD : 1 ≤ D) => @k_250 D K Y M nn hY n (by omega) h292 (T o) (T (o + 1)) (T (o + 2)) (T (o + 3)) (T (o + 4)) (T (o + 5) - 1) (by have := hp.2.2.2; omega) hD
      have A := fun {D : Nat} {K : Option vi_V → vi_W → Prop} (hD : 4 ≤ D) => @k_249t D K Y M nn hY hB _ _ _ _ _ _ hp hD
      rw [o6] at go
      clear ih hQ nb hh
      rw [s_256_41]
      simp (disch := omega) only [Option.toList_some, Option.toList_none, List.nil_append, List.cons_append, List.append_nil, true_and, and_true, not_true_eq_false, not_false_eq_true, true_implies, false_implies, implies_true, and_self, Int.reduceLT, Int.reduceLE, Int.reduceEq, Int.reduceNe, Int.reduceAdd, Int.reduceSub, Int.reduceMul, Int.reduceNeg, Int.reduceToNat, Int.toNat_natCast, ↓kk_ck, ↓kk_im, ↓kk_in, s_256_0, s_256_14, s_256_21, s_256_31, s_256_35, s_256_36, s_256_49, s_256_62, s_256_117, s_256_121, s_256_122, s_256_129, s_256_182, s_256_188, s_256_192, s_256_193, s_256_205, s_256_209, s_256_210, s_256_220, s_256_4, s_256_20, s_256_28, s_256_39, s_256_46, s_256_53, s_256_67, s_256_134, s_256_200, s_256_214, s_256_225, s_256_10, s_256_57, s_256_69, s_256_136, s_256_73, s_256_140, s_256_76, s_256_143, s_256_77, s_256_144, s_256_81, s_256_148, s_256_84, s_256_151, s_256_85, s_256_152, s_256_89, s_256_156, s_256_92, s_256_159, s_256_93, s_256_160, s_256_97, s_256_164, s_256_100, s_256_167, s_256_101, s_256_168, s_256_105, s_256_172, s_256_108, s_256_175, s_256_109, s_256_176, s_256_114, s_256_181, R1, R3, R8, w1, w2, u1, u2, vi_rs_o, h118, h292, @vi_32 ((o : Int) + 6) (by omega) (by omega), @vi_32 ((o : Int) + 1) (by omega) (by omega), @vi_32 ((o : Int) + 2) (by omega) (by omega), @vi_32 ((o : Int) + 3) (by omega) (by omega), @vi_32 ((o : Int) + 4) (by omega) (by omega), @vi_32 ((o : Int) + 5) (by omega) (by omega), @vi_32 (T (o + 5) - 1) (by omega) (by omega), q0, q1, q2, q3, q4, q5, A, B, m6, vi_inc, @vi_32 (r + 0) (by omega) (by omega), vi_ms_rs, e6]
      exact go
    · have nb := rwF_n (t := T) k (o + 6) (M 114) n hn
      have go := ih (o + 6) n x2 (r + 1) (vi_rs M 112 (vi_u g 6 (r + 1))) (some (.inl 0)) (by omega) (by rw [vi_rs_o (by omega)]; exact h118) hn (by rw [vi_rs_o (by omega)]; exact h292) (mBx_c (vi_rs_o (by omega)) hB) (by omega) (by omega) vi_rs_s (fun l4 => by
        have := hQ l4
        rw [rwF, if_neg hh] at this
        have cm2 := cm (M 114) (vi_u g 6 (r + 1))
        rw [vi_rs_id (M := M) (f := M 114) rfl] at cm2
        rw [vi_rs_o (q := 112) (by omega), cm2]
        generalize rwF T k (o + 6) (M 114) n = R at this nb ⊢
        rw [show r + 1 + ((k - (R.2 - n) : Nat) : Int) = r + ((k + 1 - (R.2 - n) : Nat) : Int) by omega]
        exact this)
      have e6 : vi_u (M 112) 6 (r + 1) = vi_u g 6 (r + 1) := by rw [h112, uu]
      rw [o6] at go
      rw [s_256_41]
      by_cases hn16 : n < 16
      · have hp := mIhb_f (M := M) (fun e => hh ⟨hn16, e⟩)
        have A := fun {D : Nat} {K : Option vi_V → vi_W → Prop} (hD : 4 ≤ D) => @k_249f D K Y M nn hY hB _ _ _ _ _ _ hp hD
        clear ih hQ nb hh hp
        simp (disch := omega) only [Option.toList_some, Option.toList_none, List.nil_append, List.cons_append, List.append_nil, true_and, and_true, not_true_eq_false, not_false_eq_true, true_implies, false_implies, implies_true, and_self, Int.reduceLT, Int.reduceLE, Int.reduceEq, Int.reduceNe, Int.reduceAdd, Int.reduceSub, Int.reduceMul, Int.reduceNeg, Int.reduceToNat, Int.toNat_natCast, ↓kk_ck, ↓kk_im, ↓kk_in, s_256_0, s_256_14, s_256_21, s_256_31, s_256_35, s_256_36, s_256_49, s_256_62, s_256_117, s_256_121, s_256_122, s_256_129, s_256_182, s_256_188, s_256_192, s_256_193, s_256_205, s_256_209, s_256_210, s_256_220, s_256_4, s_256_20, s_256_28, s_256_39, s_256_46, s_256_53, s_256_67, s_256_134, s_256_200, s_256_214, s_256_225, s_256_10, s_256_57, s_256_69, s_256_136, s_256_73, s_256_140, s_256_76, s_256_143, s_256_77, s_256_144, s_256_81, s_256_148, s_256_84, s_256_151, s_256_85, s_256_152, s_256_89, s_256_156, s_256_92, s_256_159, s_256_93, s_256_160, s_256_97, s_256_164, s_256_100, s_256_167, s_256_101, s_256_168, s_256_105, s_256_172, s_256_108, s_256_175, s_256_109, s_256_176, s_256_114, s_256_181, R1, R3, R8, w1, w2, u1, u2, vi_rs_o, h118, h292, @vi_32 ((o : Int) + 6) (by omega) (by omega), @vi_32 ((o : Int) + 1) (by omega) (by omega), @vi_32 ((o : Int) + 2) (by omega) (by omega), @vi_32 ((o : Int) + 3) (by omega) (by omega), @vi_32 ((o : Int) + 4) (by omega) (by omega), @vi_32 ((o : Int) + 5) (by omega) (by omega), @vi_32 (T (o + 5) - 1) (by omega) (by omega), q0, q1, q2, q3, q4, q5, A, m6, @vi_32 ((x2 : Int) + 0) (by omega) (by omega), Int.add_zero, @vi_32 (x2 : Int) (by omega) (by omega), @vi_32 (r + 1) (by omega) (by omega), vi_ms_rs, e6]
        exact go
      · clear ih hQ nb hh
        simp (disch := omega) only [Option.toList_some, Option.toList_none, List.nil_append, List.cons_append, List.append_nil, true_and, and_true, not_true_eq_false, not_false_eq_true, true_implies, false_implies, implies_true, and_self, Int.reduceLT, Int.reduceLE, Int.reduceEq, Int.reduceNe, Int.reduceAdd, Int.reduceSub, Int.reduceMul, Int.reduceNeg, Int.reduceToNat, Int.toNat_natCast, ↓kk_ck, ↓kk_im, ↓kk_in, s_256_0, s_256_14, s_256_21, s_256_31, s_256_35, s_256_36, s_256_49, s_256_62, s_256_117, s_256_121, s_256_122, s_256_129, s_256_182, s_256_188, s_256_192, s_256_193, s_256_205, s_256_209, s_256_210, s_256_220, s_256_4, s_256_20, s_256_28, s_256_39, s_256_46, s_256_53, s_256_67, s_256_134, s_256_200, s_256_214, s_256_225, s_256_10, s_256_57, s_256_69, s_256_136, s_256_73, s_256_140, s_256_76, s_256_143, s_256_77, s_256_144, s_256_81, s_256_148, s_256_84, s_256_151, s_256_85, s_256_152, s_256_89, s_256_156, s_256_92, s_256_159, s_256_93, s_256_160, s_256_97, s_256_164, s_256_100, s_256_167, s_256_101, s_256_168, s_256_105, s_256_172, s_256_108, s_256_175, s_256_109, s_256_176, s_256_114, s_256_181, R1, R3, R8, w1, w2, u1, u2, vi_rs_o, h118, h292, @vi_32 ((o : Int) + 6) (by omega) (by omega), m6, @vi_32 ((x2 : Int) + 0) (by omega) (by omega), Int.add_zero, @vi_32 (x2 : Int) (by omega) (by omega), @vi_32 (r + 1) (by omega) (by omega), vi_ms_rs, e6]
        exact go
theorem k_256z (hY : kY Y 151) (h10 : M 112 10 = 0) (hc : 0 ≤ M 113 6 ∧ M 113 6 < 2147483647) (hD : 2 ≤ D) : vi_call GG D 256 [.inr (.inr 112)] (Y, M, nn) K ↔ K (some (.inl (-6))) (Y, vi_rs (vi_rs M 112 (vi_u (vi_u (M 112) 10 0) 0 (-6))) 113 (vi_u (M 113) 6 (M 113 6 + 1)), nn) := by
  obtain ⟨D, rfl⟩ : ∃ k, D = k + 1 := ⟨D - 1, by omega⟩
  obtain ⟨R1, -⟩ := y_112 hY (by omega)
  refine vi_k (r := some (.inl _)) fun Q hQ => ?_
  have A := fun {D : Nat} {K : Option vi_V → vi_W → Prop} (hD : 1 ≤ D) => @k_235 D K Y (vi_rs M 112 (vi_u (M 112) 10 0)) nn hY (-6) (by omega) (by rw [vi_rs_o (by omega)]; exact hc) hD
  rw [vi_rs_s, vi_rs_rs, vi_rs_o (by omega)] at A
  simp (disch := omega) only [Option.toList_some, Option.toList_none, List.nil_append, List.cons_append, List.append_nil, true_and, and_true, not_true_eq_false, not_false_eq_true, true_implies, false_implies, implies_true, and_self, Int.reduceLT, Int.reduceLE, Int.reduceEq, Int.reduceNe, Int.reduceAdd, Int.reduceSub, Int.reduceMul, Int.reduceNeg, Int.reduceToNat, Int.toNat_natCast, ↓kk_ck, ↓kk_im, ↓kk_in, e_256, s_256_0, s_256_4, s_256_10, s_256_14, s_256_20, R1, h10, vi_ms_rs, ne_eq, A]
  exact hQ
theorem k_256 (hY : kY Y 151) (hB : mBx M) (hn : n ≤ 16) (h292 : M 114 292 = (n : Int)) (hT : ∀ i, -128 ≤ M 118 i ∧ M 118 i ≤ 127) {c : Nat} (hc0 : 0 < c) (hc : c ≤ 400) (h10 : M 112 10 = (c : Int)) (hc1 : 0 ≤ M 112 1 ∧ M 112 1 < 2147483647) (hD : 6 ≤ D)
    (hQ : Q (some (.inl (((rwF (M 118) (c / 6) 0 (M 114) n).2 - n : Nat) : Int))) (Y, vi_rs (vi_rs M 114 (rwF (M 118) (c / 6) 0 (M 114) n).1) 112 (vi_u (vi_u (vi_u (vi_u (M 112) 10 0) 6 ((if c % 6 = 0 then 0 else 1) + ((c / 6 - ((rwF (M 118) (c / 6) 0 (M 114) n).2 - n) : Nat) : Int))) 0 0) 1 (M 112 1 + 1)), nn)) :
    vi_call GG D 256 [.inr (.inr 112)] (Y, M, nn) Q := by
  obtain ⟨D, rfl⟩ : ∃ k, D = k + 1 := ⟨D - 1, by omega⟩
  obtain ⟨R1, -⟩ := y_112 hY (by omega)
  obtain ⟨r, hr⟩ : ∃ r : Int, (if c % 6 = 0 then 0 else 1) = r := ⟨_, rfl⟩
  have hr01 : r = 0 ∨ r = 1 := by rw [← hr]; split <;> omega
  rw [hr] at hQ
  have main := h_256 (Q := Q) (nn := nn) (D := D) (T := M 118) (c := c) (g := vi_u (M 112) 10 0) hY hT hc (by omega) (c / 6) 0 n 0 r (vi_rs M 112 (vi_u (vi_u (M 112) 10 0) 6 r)) none (by omega) (vi_rs_o (by omega)) hn (by rw [vi_rs_o (by omega)]; exact h292) (mBx_c (vi_rs_o (by omega)) hB) (by omega) (by omega) vi_rs_s (fun l4 => by
    have cm : ∀ (r X Z : Nat → Int), vi_rs (vi_rs (vi_rs M 112 r) 114 X) 112 Z = vi_rs (vi_rs M 114 X) 112 Z := fun r X Z => by rw [vi_rs_cm (p := 112) (q := 114) (by omega), vi_rs_rs]
    rw [vi_rs_o (q := 112) (q' := 114) (by omega), cm, Nat.zero_add]
    generalize rwF (M 118) (c / 6) 0 (M 114) n = R at hQ ⊢
    generalize r + ((c / 6 - (R.2 - n) : Nat) : Int) = z at hQ ⊢
    generalize R.2 - n = y at hQ ⊢
    have v1 : vi_u (vi_u (M 112) 10 0) 6 z 1 = M 112 1 := rfl
    have A := fun {D : Nat} {K : Option vi_V → vi_W → Prop} (hD : 1 ≤ D) => @k_236 D K Y (vi_rs (vi_rs M 114 R.1) 112 (vi_u (vi_u (M 112) 10 0) 6 z)) nn hY ((y : Nat) : Int) (by rw [vi_rs_s, v1]; exact hc1) hD
    rw [vi_rs_s, v1, vi_rs_rs] at A
    simp (disch := omega) only [Option.toList_some, Option.toList_none, List.nil_append, List.cons_append, List.append_nil, true_and, and_true, not_true_eq_false, not_false_eq_true, true_implies, false_implies, implies_true, and_self, Int.reduceLT, Int.reduceLE, Int.reduceEq, Int.reduceNe, Int.reduceAdd, Int.reduceSub, Int.reduceMul, Int.reduceNeg, Int.reduceToNat, Int.toNat_natCast, ↓kk_ck, ↓kk_im, ↓kk_in, s_256_220, s_256_225, R1, A]
    exact hQ)
  clear hQ
  by_cases q : c % 6 = 0
  · rw [if_pos q] at hr
    subst hr
    have qi : (c : Int) % 6 = 0 := by omega
    simp (disch := omega) only [Option.toList_some, Option.toList_none, List.nil_append, List.cons_append, List.append_nil, true_and, and_true, not_true_eq_false, not_false_eq_true, true_implies, false_implies, implies_true, and_self, Int.reduceLT, Int.reduceLE, Int.reduceEq, Int.reduceNe, Int.reduceAdd, Int.reduceSub, Int.reduceMul, Int.reduceNeg, Int.reduceToNat, Int.toNat_natCast, ↓kk_ck, ↓kk_im, ↓kk_in, e_256, s_256_0, s_256_4, s_256_10, s_256_21, s_256_28, s_256_31, s_256_35, s_256_36, s_256_39, R1, h10, vi_ms_rs, vi_rs_s, vi_rs_rs, ne_eq, vi_tm, qi]
    exact main
  · rw [if_neg q] at hr
    subst hr
    have qi : ¬ (c : Int) % 6 = 0 := by omega
    simp (disch := omega) only [Option.toList_some, Option.toList_none, List.nil_append, List.cons_append, List.append_nil, true_and, and_true, not_true_eq_false, not_false_eq_true, true_implies, false_implies, implies_true, and_self, Int.reduceLT, Int.reduceLE, Int.reduceEq, Int.reduceNe, Int.reduceAdd, Int.reduceSub, Int.reduceMul, Int.reduceNeg, Int.reduceToNat, Int.toNat_natCast, ↓kk_ck, ↓kk_im, ↓kk_in, e_256, s_256_0, s_256_4, s_256_10, s_256_21, s_256_28, s_256_31, s_256_35, s_256_36, s_256_39, R1, h10, vi_ms_rs, vi_rs_s, vi_rs_rs, ne_eq, vi_tm, qi]
    exact main
end
