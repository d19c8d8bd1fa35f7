/-! Contracts of the reference, twentieth part: vast. -/
def vA1 (f : Nat → Int) (n : Nat) (n1 n2 n3 : Int) (i j : Nat) : Int := if (i : Int) < n2 ∧ (j : Int) < n3 ∧ mOn f 0 (i : Int) (j : Int) n 0 = true then n1 else 0
def vA2 (f : Nat → Int) (n : Nat) (n1 n2 n3 : Int) (i j : Nat) : Int := if (i : Int) < n1 ∧ (j : Int) < n3 ∧ mOn f 1 (i : Int) (j : Int) n 0 = true then n2 else 0
def vA3 (f : Nat → Int) (n : Nat) (n1 n2 n3 : Int) (i j : Nat) : Int := if (i : Int) < n1 ∧ (j : Int) < n2 ∧ mOn f 2 (i : Int) (j : Int) n 0 = true then n3 else 0
def vK (f : Nat → Int) (n : Nat) (x y z : Int) : Int := vi_b (mOn f 0 y z n 0) + vi_b (mOn f 1 x z n 0) + vi_b (mOn f 2 x y n 0)
def vB (f : Nat → Int) (n : Nat) (n1 n2 n3 : Int) (c : Int) : Int := if c % 6 < n1 ∧ c / 6 % 6 < n2 ∧ c / 36 < n3 then (if 1 < vK f n (c % 6) (c / 6 % 6) (c / 36) then vK f n (c % 6) (c / 6 % 6) (c / 36) - 1 else 0) else 0
def vI (f : Nat → Int) (n : Nat) (n1 n2 n3 : Int) (i : Nat) : Nat → Int
  | 0 => 0
  | j + 1 => vI f n n1 n2 n3 i j + (vA1 f n n1 n2 n3 i j + vA2 f n n1 n2 n3 i j + vA3 f n n1 n2 n3 i j)
def vO (f : Nat → Int) (n : Nat) (n1 n2 n3 : Int) : Nat → Int
  | 0 => 0
  | i + 1 => vO f n n1 n2 n3 i + vI f n n1 n2 n3 i 6
def vC (f : Nat → Int) (n : Nat) (n1 n2 n3 : Int) : Nat → Int
  | 0 => 0
  | c + 1 => vC f n n1 n2 n3 c + vB f n n1 n2 n3 (c : Int)
section
variable {D : Nat} {K : Option vi_V → vi_W → Prop} {Y : vi_Y} {M : vi_M} {nn : Nat × Nat} {Q : Option vi_V → vi_W → Prop} {f : Nat → Int} {n : Nat} {n1 n2 n3 : Int}
theorem vA_r (h1 : 1 ≤ n1 ∧ n1 ≤ 1000) (h2 : 1 ≤ n2 ∧ n2 ≤ 1000) (h3 : 1 ≤ n3 ∧ n3 ≤ 1000) {i j : Nat} : (0 ≤ vA1 f n n1 n2 n3 i j ∧ vA1 f n n1 n2 n3 i j ≤ 1000) ∧ (0 ≤ vA2 f n n1 n2 n3 i j ∧ vA2 f n n1 n2 n3 i j ≤ 1000) ∧ (0 ≤ vA3 f n n1 n2 n3 i j ∧ vA3 f n n1 n2 n3 i j ≤ 1000) := by
  unfold vA1 vA2 vA3
  refine ⟨?_, ?_, ?_⟩ <;> split <;> omega
theorem vI_r (h1 : 1 ≤ n1 ∧ n1 ≤ 1000) (h2 : 1 ≤ n2 ∧ n2 ≤ 1000) (h3 : 1 ≤ n3 ∧ n3 ≤ 1000) {i : Nat} : ∀ j : Nat, 0 ≤ vI f n n1 n2 n3 i j ∧ vI f n n1 n2 n3 i j ≤ 3000 * (j : Int)
  | 0 => by rw [vI]; omega
  | j + 1 => by
    have a := vI_r h1 h2 h3 (i := i) j
    have b := vA_r (f := f) (n := n) h1 h2 h3 (i := i) (j := j)
    rw [vI]
    omega
theorem vO_r (h1 : 1 ≤ n1 ∧ n1 ≤ 1000) (h2 : 1 ≤ n2 ∧ n2 ≤ 1000) (h3 : 1 ≤ n3 ∧ n3 ≤ 1000) : ∀ i : Nat, 0 ≤ vO f n n1 n2 n3 i ∧ vO f n n1 n2 n3 i ≤ 18000 * (i : Int)
  | 0 => by rw [vO]; omega
  | i + 1 => by
    have a := vO_r h1 h2 h3 i
    have b := vI_r (f := f) (n := n) h1 h2 h3 (i := i) 6
    rw [vO]
    omega
theorem vK_r {x y z : Int} : 0 ≤ vK f n x y z ∧ vK f n x y z ≤ 3 := by
  unfold vK
  have a := vi_b02 (b := mOn f 0 y z n 0)
  have b := vi_b02 (b := mOn f 1 x z n 0)
  have c := vi_b02 (b := mOn f 2 x y n 0)
  omega
theorem vB_r {c : Int} : 0 ≤ vB f n n1 n2 n3 c ∧ vB f n n1 n2 n3 c ≤ 2 := by
  have := vK_r (f := f) (n := n) (x := c % 6) (y := c / 6 % 6) (z := c / 36)
  unfold vB
  split
  · split <;> omega
  · omega
theorem vC_r : ∀ c : Nat, 0 ≤ vC f n n1 n2 n3 c ∧ vC f n n1 n2 n3 c ≤ 2 * (c : Int)
  | 0 => by rw [vC]; omega
  | c + 1 => by
    have a := vC_r c
    have b := vB_r (f := f) (n := n) (n1 := n1) (n2 := n2) (n3 := n3) (c := (c : Int))
    rw [vC]
    omega
/-- one place of the loop over the lines -/
theorem h_302s (hY : kY Y 151) (hn : n ≤ 16) (h292 : M 114 292 = (n : Int)) (hD : 1 ≤ D) (h1 : 1 ≤ n1 ∧ n1 ≤ 1000) (h2 : 1 ≤ n2 ∧ n2 ≤ 1000) (h3 : 1 ≤ n3 ∧ n3 ≤ 1000) {i j : Nat} {s : Int} (hs : -1000000 ≤ s ∧ s ≤ 1000000000) {l8 l9 l10 : Option vi_V} (hQ : vi_ok GG D 302 160 [some (.inr (.inr 112)), some (.inl n1), some (.inl n2), some (.inl n3), some (.inr (.inl (s - vA1 (M 114) n n1 n2 n3 i j - vA2 (M 114) n n1 n2 n3 i j - vA3 (M 114) n n1 n2 n3 i j))), none, some (.inl (i : Int)), some (.inl (j : Int)), l8, l9, l10] [] (Y, M, nn) Q) :
    vi_ok GG D 302 67 [some (.inr (.inr 112)), some (.inl n1), some (.inl n2), some (.inl n3), some (.inr (.inl s)), none, some (.inl (i : Int)), some (.inl (j : Int)), l8, l9, l10] [] (Y, M, nn) Q := by
  obtain ⟨R1, -⟩ := y_112 hY (by omega)
  have A := fun {D : Nat} {K : Option vi_V → vi_W → Prop} {a u v : Int} (hD : 1 ≤ D) => @k_301 D K Y M nn hY n hn h292 a u v hD
  obtain ⟨r1, r2, r3⟩ := vA_r (f := M 114) (n := n) h1 h2 h3 (i := i) (j := j)
  have s3 : ∀ t : Int, -2000000 ≤ t ∧ t ≤ 1000000000 → t - vA3 (M 114) n n1 n2 n3 i j = s - vA1 (M 114) n n1 n2 n3 i j - vA2 (M 114) n n1 n2 n3 i j - vA3 (M 114) n n1 n2 n3 i j → vi_ok GG D 302 129 [some (.inr (.inr 112)), some (.inl n1), some (.inl n2), some (.inl n3), some (.inr (.inl t)), none, some (.inl (i : Int)), some (.inl (j : Int)), l8, l9, l10] [] (Y, M, nn) Q := by
    intro t ht he
    rw [← he] at hQ
    clear he r1 r2 r3
    unfold vA3 at hQ
    by_cases q1 : (i : Int) < n1
    · by_cases q2 : (j : Int) < n2
      · cases q : mOn (M 114) 2 (i : Int) (j : Int) n 0 with
        | true =>
          rw [if_pos ⟨q1, q2, q⟩] at hQ
          simp (disch := omega) only [Option.toList_some, Option.toList_none, List.nil_append, List.cons_append, List.append_nil, true_and, and_true, not_true_eq_false, not_false_eq_true, true_implies, false_implies, implies_true, and_self, Int.reduceLT, Int.reduceLE, Int.reduceEq, Int.reduceNe, Int.reduceAdd, Int.reduceSub, Int.reduceMul, Int.reduceNeg, Int.reduceToNat, Int.toNat_natCast, ↓kk_ck, ↓kk_im, ↓kk_in, s_302_129, s_302_135, s_302_141, s_302_150, s_302_153, R1, A, q, vi_bt, vi_64]
          exact hQ
        | false =>
          rw [if_neg (by rw [q]; rintro ⟨-, -, e⟩; cases e), Int.sub_zero] at hQ
          simp (disch := omega) only [Option.toList_some, Option.toList_none, List.nil_append, List.cons_append, List.append_nil, true_and, and_true, not_true_eq_false, not_false_eq_true, true_implies, false_implies, implies_true, and_self, Int.reduceLT, Int.reduceLE, Int.reduceEq, Int.reduceNe, Int.reduceAdd, Int.reduceSub, Int.reduceMul, Int.reduceNeg, Int.reduceToNat, Int.toNat_natCast, ↓kk_ck, ↓kk_im, ↓kk_in, s_302_129, s_302_135, s_302_141, s_302_150, R1, A, q, vi_bf]
          exact hQ
      · rw [if_neg (fun e => q2 e.2.1), Int.sub_zero] at hQ
        simp (disch := omega) only [Option.toList_some, Option.toList_none, List.nil_append, List.cons_append, List.append_nil, true_and, and_true, not_true_eq_false, not_false_eq_true, true_implies, false_implies, implies_true, and_self, Int.reduceLT, Int.reduceLE, Int.reduceEq, Int.reduceNe, Int.reduceAdd, Int.reduceSub, Int.reduceMul, Int.reduceNeg, Int.reduceToNat, Int.toNat_natCast, ↓kk_ck, ↓kk_im, ↓kk_in, s_302_129, s_302_135]
        exact hQ
    · rw [if_neg (fun e => q1 e.1), Int.sub_zero] at hQ
      simp (disch := omega) only [Option.toList_some, Option.toList_none, List.nil_append, List.cons_append, List.append_nil, true_and, and_true, not_true_eq_false, not_false_eq_true, true_implies, false_implies, implies_true, and_self, Int.reduceLT, Int.reduceLE, Int.reduceEq, Int.reduceNe, Int.reduceAdd, Int.reduceSub, Int.reduceMul, Int.reduceNeg, Int.reduceToNat, Int.toNat_natCast, ↓kk_ck, ↓kk_im, ↓kk_in, s_302_129]
      exact hQ
  have s2 : ∀ t : Int, -1500000 ≤ t ∧ t ≤ 1000000000 → t = s - vA1 (M 114) n n1 n2 n3 i j → vi_ok GG D 302 98 [some (.inr (.inr 112)), some (.inl n1), some (.inl n2), some (.inl n3), some (.inr (.inl t)), none, some (.inl (i : Int)), some (.inl (j : Int)), l8, l9, l10] [] (Y, M, nn) Q := by
    intro t ht he
    have g := s3 (t - vA2 (M 114) n n1 n2 n3 i j) (by omega) (by rw [he])
    clear he r1 r2 r3 s3 hQ
    unfold vA2 at g
    by_cases q1 : (i : Int) < n1
    · by_cases q2 : (j : Int) < n3
      · cases q : mOn (M 114) 1 (i : Int) (j : Int) n 0 with
        | true =>
          rw [if_pos ⟨q1, q2, q⟩] at g
          simp (disch := omega) only [Option.toList_some, Option.toList_none, List.nil_append, List.cons_append, List.append_nil, true_and, and_true, not_true_eq_false, not_false_eq_true, true_implies, false_implies, implies_true, and_self, Int.reduceLT, Int.reduceLE, Int.reduceEq, Int.reduceNe, Int.reduceAdd, Int.reduceSub, Int.reduceMul, Int.reduceNeg, Int.reduceToNat, Int.toNat_natCast, ↓kk_ck, ↓kk_im, ↓kk_in, s_302_98, s_302_104, s_302_110, s_302_119, s_302_122, R1, A, q, vi_bt, vi_64]
          exact g
        | false =>
          rw [if_neg (by rw [q]; rintro ⟨-, -, e⟩; cases e), Int.sub_zero] at g
          simp (disch := omega) only [Option.toList_some, Option.toList_none, List.nil_append, List.cons_append, List.append_nil, true_and, and_true, not_true_eq_false, not_false_eq_true, true_implies, false_implies, implies_true, and_self, Int.reduceLT, Int.reduceLE, Int.reduceEq, Int.reduceNe, Int.reduceAdd, Int.reduceSub, Int.reduceMul, Int.reduceNeg, Int.reduceToNat, Int.toNat_natCast, ↓kk_ck, ↓kk_im, ↓kk_in, s_302_98, s_302_104, s_302_110, s_302_119, R1, A, q, vi_bf]
          exact g
      · rw [if_neg (fun e => q2 e.2.1), Int.sub_zero] at g
        simp (disch := omega) only [Option.toList_some, Option.toList_none, List.nil_append, List.cons_append, List.append_nil, true_and, and_true, not_true_eq_false, not_false_eq_true, true_implies, false_implies, implies_true, and_self, Int.reduceLT, Int.reduceLE, Int.reduceEq, Int.reduceNe, Int.reduceAdd, Int.reduceSub, Int.reduceMul, Int.reduceNeg, Int.reduceToNat, Int.toNat_natCast, ↓kk_ck, ↓kk_im, ↓kk_in, s_302_98, s_302_104]
        exact g
    · rw [if_neg (fun e => q1 e.1), Int.sub_zero] at g
      simp (disch := omega) only [Option.toList_some, Option.toList_none, List.nil_append, List.cons_append, List.append_nil, true_and, and_true, not_true_eq_false, not_false_eq_true, true_implies, false_implies, implies_true, and_self, Int.reduceLT, Int.reduceLE, Int.reduceEq, Int.reduceNe, Int.reduceAdd, Int.reduceSub, Int.reduceMul, Int.reduceNeg, Int.reduceToNat, Int.toNat_natCast, ↓kk_ck, ↓kk_im, ↓kk_in, s_302_98]
      exact g
  have g := s2 (s - vA1 (M 114) n n1 n2 n3 i j) (by omega) rfl
  clear r1 r2 r3 s3 s2 hQ
  unfold vA1 at g
  by_cases q1 : (i : Int) < n2
  · by_cases q2 : (j : Int) < n3
    · cases q : mOn (M 114) 0 (i : Int) (j : Int) n 0 with
      | true =>
        rw [if_pos ⟨q1, q2, q⟩] at g
        simp (disch := omega) only [Option.toList_some, Option.toList_none, List.nil_append, List.cons_append, List.append_nil, true_and, and_true, not_true_eq_false, not_false_eq_true, true_implies, false_implies, implies_true, and_self, Int.reduceLT, Int.reduceLE, Int.reduceEq, Int.reduceNe, Int.reduceAdd, Int.reduceSub, Int.reduceMul, Int.reduceNeg, Int.reduceToNat, Int.toNat_natCast, ↓kk_ck, ↓kk_im, ↓kk_in, s_302_67, s_302_73, s_302_79, s_302_88, s_302_91, R1, A, q, vi_bt, vi_64]
        exact g
      | false =>
        rw [if_neg (by rw [q]; rintro ⟨-, -, e⟩; cases e), Int.sub_zero] at g
        simp (disch := omega) only [Option.toList_some, Option.toList_none, List.nil_append, List.cons_append, List.append_nil, true_and, and_true, not_true_eq_false, not_false_eq_true, true_implies, false_implies, implies_true, and_self, Int.reduceLT, Int.reduceLE, Int.reduceEq, Int.reduceNe, Int.reduceAdd, Int.reduceSub, Int.reduceMul, Int.reduceNeg, Int.reduceToNat, Int.toNat_natCast, ↓kk_ck, ↓kk_im, ↓kk_in, s_302_67, s_302_73, s_302_79, s_302_88, R1, A, q, vi_bf]
        exact g
    · rw [if_neg (fun e => q2 e.2.1), Int.sub_zero] at g
      simp (disch := omega) only [Option.toList_some, Option.toList_none, List.nil_append, List.cons_append, List.append_nil, true_and, and_true, not_true_eq_false, not_false_eq_true, true_implies, false_implies, implies_true, and_self, Int.reduceLT, Int.reduceLE, Int.reduceEq, Int.reduceNe, Int.reduceAdd, Int.reduceSub, Int.reduceMul, Int.reduceNeg, Int.reduceToNat, Int.toNat_natCast, ↓kk_ck, ↓kk_im, ↓kk_in, s_302_67, s_302_73]
      exact g
  · rw [if_neg (fun e => q1 e.1), Int.sub_zero] at g
    simp (disch := omega) only [Option.toList_some, Option.toList_none, List.nil_append, List.cons_append, List.append_nil, true_and, and_true, not_true_eq_false, not_false_eq_true, true_implies, false_implies, implies_true, and_self, Int.reduceLT, Int.reduceLE, Int.reduceEq, Int.reduceNe, Int.reduceAdd, Int.reduceSub, Int.reduceMul, Int.reduceNeg, Int.reduceToNat, Int.toNat_natCast, ↓kk_ck, ↓kk_im, ↓kk_in, s_302_67]
    exact g
/-- one CELL of the loop over the CELLS -/
theorem h_302c (hY : kY Y 151) (hn : n ≤ 16) (h292 : M 114 292 = (n : Int)) (hD : 1 ≤ D) {c : Nat} (hc : c < 216) {s : Int} (hs : -1000000 ≤ s ∧ s ≤ 1100000000) {l7 l8 l9 l10 : Option vi_V} (hQ : ∀ (x y z : Int) l10, vi_ok GG D 302 303 [some (.inr (.inr 112)), some (.inl n1), some (.inl n2), some (.inl n3), some (.inr (.inl (s + vB (M 114) n n1 n2 n3 (c : Int)))), none, some (.inl (c : Int)), some (.inl x), some (.inl y), some (.inl z), l10] [] (Y, M, nn) Q) :
    vi_ok GG D 302 183 [some (.inr (.inr 112)), some (.inl n1), some (.inl n2), some (.inl n3), some (.inr (.inl s)), none, some (.inl (c : Int)), l7, l8, l9, l10] [] (Y, M, nn) Q := by
  obtain ⟨R1, -⟩ := y_112 hY (by omega)
  have A := fun {D : Nat} {K : Option vi_V → vi_W → Prop} {a u v : Int} (hD : 1 ≤ D) => @k_301 D K Y M nn hY n hn h292 a u v hD
  have m0 : mAl (c : Int) 0 = (c : Int) % 6 := rfl
  have m1 : mAl (c : Int) 1 = (c : Int) / 6 % 6 := rfl
  have m2 : mAl (c : Int) 2 = (c : Int) / 36 := rfl
  have hc2 : 0 ≤ (c : Int) ∧ (c : Int) < 216 := by omega
  have hQ := hQ ((c : Int) % 6) ((c : Int) / 6 % 6) ((c : Int) / 36)
  unfold vB vK at hQ
  generalize (c : Int) % 6 = x at *
  generalize (c : Int) / 6 % 6 = y at *
  generalize (c : Int) / 36 = z at *
  by_cases q1 : x < n1
  · by_cases q2 : y < n2
    · by_cases q3 : z < n3
      · rw [if_pos ⟨q1, q2, q3⟩] at hQ
        have hQ := hQ (some (.inl (vi_b (mOn (M 114) 0 y z n 0) + vi_b (mOn (M 114) 1 x z n 0) + vi_b (mOn (M 114) 2 x y n 0))))
        cases e1 : mOn (M 114) 0 y z n 0 <;> cases e2 : mOn (M 114) 1 x z n 0 <;> cases e3 : mOn (M 114) 2 x y n 0 <;> rw [e1, e2, e3] at hQ <;> simp (disch := omega) only [Option.toList_some, Option.toList_none, List.nil_append, List.cons_append, List.append_nil, true_and, and_true, not_true_eq_false, not_false_eq_true, true_implies, false_implies, implies_true, and_self, Int.reduceLT, Int.reduceLE, Int.reduceEq, Int.reduceNe, Int.reduceAdd, Int.reduceSub, Int.reduceMul, Int.reduceNeg, Int.reduceToNat, Int.toNat_natCast, ↓kk_ck, ↓kk_im, ↓kk_in, s_302_183, s_302_189, s_302_197, s_302_205, s_302_213, s_302_219, s_302_228, s_302_237, s_302_240, s_302_244, s_302_245, s_302_254, s_302_257, s_302_261, s_302_262, s_302_272, s_302_275, s_302_279, s_302_280, s_302_288, s_302_291, s_302_299, s_302_300, R1, k_245 hc2, m0, m1, m2, A, e1, e2, e3, vi_bt, vi_bf, vi_32, vi_64] <;> exact hQ
      · rw [if_neg (fun e => q3 e.2.2), Int.add_zero] at hQ
        have hQ := hQ l10
        simp (disch := omega) only [Option.toList_some, Option.toList_none, List.nil_append, List.cons_append, List.append_nil, true_and, and_true, not_true_eq_false, not_false_eq_true, true_implies, false_implies, implies_true, and_self, Int.reduceLT, Int.reduceLE, Int.reduceEq, Int.reduceNe, Int.reduceAdd, Int.reduceSub, Int.reduceMul, Int.reduceNeg, Int.reduceToNat, Int.toNat_natCast, ↓kk_ck, ↓kk_im, ↓kk_in, s_302_183, s_302_189, s_302_197, s_302_205, s_302_213, s_302_219, s_302_225, R1, k_245 hc2, m0, m1, m2]
        exact hQ
    · rw [if_neg (fun e => q2 e.2.1), Int.add_zero] at hQ
      have hQ := hQ l10
      simp (disch := omega) only [Option.toList_some, Option.toList_none, List.nil_append, List.cons_append, List.append_nil, true_and, and_true, not_true_eq_false, not_false_eq_true, true_implies, false_implies, implies_true, and_self, Int.reduceLT, Int.reduceLE, Int.reduceEq, Int.reduceNe, Int.reduceAdd, Int.reduceSub, Int.reduceMul, Int.reduceNeg, Int.reduceToNat, Int.toNat_natCast, ↓kk_ck, ↓kk_im, ↓kk_in, s_302_183, s_302_189, s_302_197, s_302_205, s_302_213, R1, k_245 hc2, m0, m1, m2]
      exact hQ
  · rw [if_neg (fun e => q1 e.1), Int.add_zero] at hQ
    have hQ := hQ l10
    simp (disch := omega) only [Option.toList_some, Option.toList_none, List.nil_append, List.cons_append, List.append_nil, true_and, and_true, not_true_eq_false, not_false_eq_true, true_implies, false_implies, implies_true, and_self, Int.reduceLT, Int.reduceLE, Int.reduceEq, Int.reduceNe, Int.reduceAdd, Int.reduceSub, Int.reduceMul, Int.reduceNeg, Int.reduceToNat, Int.toNat_natCast, ↓kk_ck, ↓kk_im, ↓kk_in, s_302_183, s_302_189, s_302_197, s_302_205, R1, k_245 hc2, m0, m1, m2]
    exact hQ
theorem k_302n (hY : kY Y 151) (h : ¬ ((1 ≤ n1 ∧ n1 ≤ 1000) ∧ (1 ≤ n2 ∧ n2 ≤ 1000) ∧ (1 ≤ n3 ∧ n3 ≤ 1000))) (hD : 2 ≤ D) : vi_call GG D 302 [.inr (.inr 112), .inl n1, .inl n2, .inl n3] (Y, M, nn) K ↔ K (some (.inr (.inl (-1)))) (Y, M, nn) := by
  obtain ⟨D, rfl⟩ : ∃ k, D = k + 1 := ⟨D - 1, by omega⟩
  refine vi_k (r := some (.inr (.inl _))) fun Q hQ => ?_
  by_cases q1 : 1 ≤ n1 ∧ n1 ≤ 1000
  · by_cases q2 : 1 ≤ n2 ∧ n2 ≤ 1000
    · have q3 : ¬ (1 ≤ n3 ∧ n3 ≤ 1000) := fun e => h ⟨q1, q2, e⟩
      simp (disch := omega) only [Option.toList_some, Option.toList_none, List.nil_append, List.cons_append, List.append_nil, true_and, and_true, not_true_eq_false, not_false_eq_true, true_implies, false_implies, implies_true, and_self, Int.reduceLT, Int.reduceLE, Int.reduceEq, Int.reduceNe, Int.reduceAdd, Int.reduceSub, Int.reduceMul, Int.reduceNeg, Int.reduceToNat, Int.toNat_natCast, ↓kk_ck, ↓kk_im, ↓kk_in, e_302, s_302_0, s_302_8, s_302_11, s_302_19, s_302_22, s_302_30, s_302_33, k_234t q1, k_234t q2, k_234f q3, ne_eq]
      exact hQ
    · simp (disch := omega) only [Option.toList_some, Option.toList_none, List.nil_append, List.cons_append, List.append_nil, true_and, and_true, not_true_eq_false, not_false_eq_true, true_implies, false_implies, implies_true, and_self, Int.reduceLT, Int.reduceLE, Int.reduceEq, Int.reduceNe, Int.reduceAdd, Int.reduceSub, Int.reduceMul, Int.reduceNeg, Int.reduceToNat, Int.toNat_natCast, ↓kk_ck, ↓kk_im, ↓kk_in, e_302, s_302_0, s_302_8, s_302_11, s_302_19, s_302_33, k_234t q1, k_234f q2, ne_eq]
      exact hQ
  · simp (disch := omega) only [Option.toList_some, Option.toList_none, List.nil_append, List.cons_append, List.append_nil, true_and, and_true, not_true_eq_false, not_false_eq_true, true_implies, false_implies, implies_true, and_self, Int.reduceLT, Int.reduceLE, Int.reduceEq, Int.reduceNe, Int.reduceAdd, Int.reduceSub, Int.reduceMul, Int.reduceNeg, Int.reduceToNat, Int.toNat_natCast, ↓kk_ck, ↓kk_im, ↓kk_in, e_302, s_302_0, s_302_8, s_302_33, k_234f q1, ne_eq]
    exact hQ
theorem k_302 (hY : kY Y 151) (hn : n ≤ 16) (h292 : M 114 292 = (n : Int)) (h1 : 1 ≤ n1 ∧ n1 ≤ 1000) (h2 : 1 ≤ n2 ∧ n2 ≤ 1000) (h3 : 1 ≤ n3 ∧ n3 ≤ 1000) (hD : 2 ≤ D) : vi_call GG D 302 [.inr (.inr 112), .inl n1, .inl n2, .inl n3] (Y, M, nn) K ↔ K (some (.inr (.inl (n1 * n2 * n3 - vO (M 114) n n1 n2 n3 6 + vC (M 114) n n1 n2 n3 216)))) (Y, M, nn) := by
  obtain ⟨D, rfl⟩ : ∃ k, D = k + 1 := ⟨D - 1, by omega⟩
  obtain ⟨⟨p0, p1⟩, p2, p3⟩ := mul3 (a := n1) (b := n2) (c := n3) (by omega) (by omega) (by omega)
  refine vi_k (r := some (.inr (.inl _))) fun Q hQ => ?_
  obtain ⟨P, hP⟩ : ∃ P, n1 * n2 * n3 = P := ⟨_, rfl⟩
  obtain ⟨P2, hP2⟩ : ∃ P2, n1 * n2 = P2 := ⟨_, rfl⟩
  rw [hP] at hQ p2 p3
  rw [hP2] at hP p0 p1
  have oR := vO_r (f := M 114) (n := n) h1 h2 h3 6
  have cells : ∀ c : Nat, c ≤ 216 → ∀ l7 l8 l9 l10, vi_ok GG D 302 175 [some (.inr (.inr 112)), some (.inl n1), some (.inl n2), some (.inl n3), some (.inr (.inl (P - vO (M 114) n n1 n2 n3 6 + vC (M 114) n n1 n2 n3 c))), none, some (.inl (c : Int)), l7, l8, l9, l10] [] (Y, M, nn) Q := by
    refine vi_dn (P := fun c => ∀ l7 l8 l9 l10, vi_ok GG D 302 175 [some (.inr (.inr 112)), some (.inl n1), some (.inl n2), some (.inl n3), some (.inr (.inl (P - vO (M 114) n n1 n2 n3 6 + vC (M 114) n n1 n2 n3 c))), none, some (.inl (c : Int)), l7, l8, l9, l10] [] (Y, M, nn) Q) 216 ?_ fun c hc ih => ?_
    · intro l7 l8 l9 l10
      rw [s_302_175]
      simp (disch := omega) only [Option.toList_some, Option.toList_none, List.nil_append, List.cons_append, List.append_nil, true_and, and_true, not_true_eq_false, not_false_eq_true, true_implies, false_implies, implies_true, and_self, Int.reduceLT, Int.reduceLE, Int.reduceEq, Int.reduceNe, Int.reduceAdd, Int.reduceSub, Int.reduceMul, Int.reduceNeg, Int.reduceToNat, Int.toNat_natCast, ↓kk_ck, ↓kk_im, ↓kk_in, s_302_309]
      exact hQ
    · intro l7 l8 l9 l10
      have cR := vC_r (f := M 114) (n := n) (n1 := n1) (n2 := n2) (n3 := n3) c
      rw [vC, ← Int.add_assoc] at ih
      have := h_302c (n1 := n1) (n2 := n2) (n3 := n3) (Q := Q) (nn := nn) (l7 := l7) (l8 := l8) (l9 := l9) (l10 := l10) hY hn h292 (show 1 ≤ D by omega) hc (s := P - vO (M 114) n n1 n2 n3 6 + vC (M 114) n n1 n2 n3 c) (by omega) (fun x y z l10 => by
        have := ih (some (.inl x)) (some (.inl y)) (some (.inl z)) l10
        clear ih hQ
        simp (disch := omega) only [Option.toList_some, Option.toList_none, List.nil_append, List.cons_append, List.append_nil, true_and, and_true, not_true_eq_false, not_false_eq_true, true_implies, false_implies, implies_true, and_self, Int.reduceLT, Int.reduceLE, Int.reduceEq, Int.reduceNe, Int.reduceAdd, Int.reduceSub, Int.reduceMul, Int.reduceNeg, Int.reduceToNat, Int.toNat_natCast, ↓kk_ck, ↓kk_im, ↓kk_in, s_302_303, vi_inc]
        exact this)
      clear ih hQ
      rw [s_302_175]
      simp (disch := omega) only [Option.toList_some, Option.toList_none, List.nil_append, List.cons_append, List.append_nil, true_and, and_true, not_true_eq_false, not_false_eq_true, true_implies, false_implies, implies_true, and_self, Int.reduceLT, Int.reduceLE, Int.reduceEq, Int.reduceNe, Int.reduceAdd, Int.reduceSub, Int.reduceMul, Int.reduceNeg, Int.reduceToNat, Int.toNat_natCast, ↓kk_ck, ↓kk_im, ↓kk_in]
      exact this
  have inner : ∀ i : Nat, i < 6 → (∀ l7 l8 l9 l10, vi_ok GG D 302 50 [some (.inr (.inr 112)), some (.inl n1), some (.inl n2), some (.inl n3), some (.inr (.inl (P - vO (M 114) n n1 n2 n3 (i + 1)))), none, some (.inl ((i + 1 : Nat) : Int)), l7, l8, l9, l10] [] (Y, M, nn) Q) → ∀ j : Nat, j ≤ 6 → ∀ l8 l9 l10, vi_ok GG D 302 60 [some (.inr (.inr 112)), some (.inl n1), some (.inl n2), some (.inl n3), some (.inr (.inl (P - vO (M 114) n n1 n2 n3 i - vI (M 114) n n1 n2 n3 i j))), none, some (.inl (i : Int)), some (.inl (j : Int)), l8, l9, l10] [] (Y, M, nn) Q := by
    intro i hi nxt
    have iR := vO_r (f := M 114) (n := n) h1 h2 h3 i
    refine vi_dn (P := fun j => ∀ l8 l9 l10, vi_ok GG D 302 60 [some (.inr (.inr 112)), some (.inl n1), some (.inl n2), some (.inl n3), some (.inr (.inl (P - vO (M 114) n n1 n2 n3 i - vI (M 114) n n1 n2 n3 i j))), none, some (.inl (i : Int)), some (.inl (j : Int)), l8, l9, l10] [] (Y, M, nn) Q) 6 ?_ fun j hj ih => ?_
    · intro l8 l9 l10
      have := nxt (some (.inl 6)) l8 l9 l10
      rw [vO, ← Int.sub_sub] at this
      clear nxt cells hQ
      rw [s_302_60]
      simp (disch := omega) only [Option.toList_some, Option.toList_none, List.nil_append, List.cons_append, List.append_nil, true_and, and_true, not_true_eq_false, not_false_eq_true, true_implies, false_implies, implies_true, and_self, Int.reduceLT, Int.reduceLE, Int.reduceEq, Int.reduceNe, Int.reduceAdd, Int.reduceSub, Int.reduceMul, Int.reduceNeg, Int.reduceToNat, Int.toNat_natCast, ↓kk_ck, ↓kk_im, ↓kk_in, s_302_166, vi_inc]
      exact this
    · intro l8 l9 l10
      have jR := vI_r (f := M 114) (n := n) h1 h2 h3 (i := i) j
      have := ih l8 l9 l10
      rw [vI] at this
      have := h_302s (Q := Q) (nn := nn) (l8 := l8) (l9 := l9) (l10 := l10) hY hn h292 (show 1 ≤ D by omega) h1 h2 h3 (i := i) (j := j) (s := P - vO (M 114) n n1 n2 n3 i - vI (M 114) n n1 n2 n3 i j) (by omega) (by
        rw [show P - vO (M 114) n n1 n2 n3 i - (vI (M 114) n n1 n2 n3 i j + (vA1 (M 114) n n1 n2 n3 i j + vA2 (M 114) n n1 n2 n3 i j + vA3 (M 114) n n1 n2 n3 i j)) = P - vO (M 114) n n1 n2 n3 i - vI (M 114) n n1 n2 n3 i j - vA1 (M 114) n n1 n2 n3 i j - vA2 (M 114) n n1 n2 n3 i j - vA3 (M 114) n n1 n2 n3 i j by omega] at this
        clear ih cells hQ nxt
        simp (disch := omega) only [Option.toList_some, Option.toList_none, List.nil_append, List.cons_append, List.append_nil, true_and, and_true, not_true_eq_false, not_false_eq_true, true_implies, false_implies, implies_true, and_self, Int.reduceLT, Int.reduceLE, Int.reduceEq, Int.reduceNe, Int.reduceAdd, Int.reduceSub, Int.reduceMul, Int.reduceNeg, Int.reduceToNat, Int.toNat_natCast, ↓kk_ck, ↓kk_im, ↓kk_in, s_302_160, vi_inc]
        exact this)
      clear ih cells hQ nxt
      rw [s_302_60]
      simp (disch := omega) only [Option.toList_some, Option.toList_none, List.nil_append, List.cons_append, List.append_nil, true_and, and_true, not_true_eq_false, not_false_eq_true, true_implies, false_implies, implies_true, and_self, Int.reduceLT, Int.reduceLE, Int.reduceEq, Int.reduceNe, Int.reduceAdd, Int.reduceSub, Int.reduceMul, Int.reduceNeg, Int.reduceToNat, Int.toNat_natCast, ↓kk_ck, ↓kk_im, ↓kk_in]
      exact this
  have outer : ∀ i : Nat, i ≤ 6 → ∀ l7 l8 l9 l10, vi_ok GG D 302 50 [some (.inr (.inr 112)), some (.inl n1), some (.inl n2), some (.inl n3), some (.inr (.inl (P - vO (M 114) n n1 n2 n3 i))), none, some (.inl (i : Int)), l7, l8, l9, l10] [] (Y, M, nn) Q := by
    refine vi_dn (P := fun i => ∀ l7 l8 l9 l10, vi_ok GG D 302 50 [some (.inr (.inr 112)), some (.inl n1), some (.inl n2), some (.inl n3), some (.inr (.inl (P - vO (M 114) n n1 n2 n3 i))), none, some (.inl (i : Int)), l7, l8, l9, l10] [] (Y, M, nn) Q) 6 ?_ fun i hi ih => ?_
    · intro l7 l8 l9 l10
      have := cells 0 (by omega) l7 l8 l9 l10
      rw [vC, Int.add_zero] at this
      clear inner cells hQ
      rw [s_302_50]
      simp (disch := omega) only [Option.toList_some, Option.toList_none, List.nil_append, List.cons_append, List.append_nil, true_and, and_true, not_true_eq_false, not_false_eq_true, true_implies, false_implies, implies_true, and_self, Int.reduceLT, Int.reduceLE, Int.reduceEq, Int.reduceNe, Int.reduceAdd, Int.reduceSub, Int.reduceMul, Int.reduceNeg, Int.reduceToNat, Int.toNat_natCast, ↓kk_ck, ↓kk_im, ↓kk_in, s_302_172]
      exact this
    · intro l7 l8 l9 l10
      have := inner i hi ih 0 (by omega) l8 l9 l10
      rw [vI, Int.sub_zero] at this
      clear inner cells hQ ih
      rw [s_302_50]
      simp (disch := omega) only [Option.toList_some, Option.toList_none, List.nil_append, List.cons_append, List.append_nil, true_and, and_true, not_true_eq_false, not_false_eq_true, true_implies, false_implies, implies_true, and_self, Int.reduceLT, Int.reduceLE, Int.reduceEq, Int.reduceNe, Int.reduceAdd, Int.reduceSub, Int.reduceMul, Int.reduceNeg, Int.reduceToNat, Int.toNat_natCast, ↓kk_ck, ↓kk_im, ↓kk_in, s_302_57]
      exact this
  have := outer 0 (by omega) none none none none
  rw [vO, Int.sub_zero] at this
  clear outer inner cells hQ
  simp (disch := omega) only [Option.toList_some, Option.toList_none, List.nil_append, List.cons_append, List.append_nil, true_and, and_true, not_true_eq_false, not_false_eq_true, true_implies, false_implies, implies_true, and_self, Int.reduceLT, Int.reduceLE, Int.reduceEq, Int.reduceNe, Int.reduceAdd, Int.reduceSub, Int.reduceMul, Int.reduceNeg, Int.reduceToNat, Int.toNat_natCast, ↓kk_ck, ↓kk_im, ↓kk_in, e_302, s_302_0, s_302_8, s_302_11, s_302_19, s_302_22, s_302_30, s_302_37, k_234t h1, k_234t h2, k_234t h3, ne_eq, hP2, @vi_64 P2 (by omega) (by omega), hP, @vi_64 P (by omega) (by omega)]
  exact this
end
