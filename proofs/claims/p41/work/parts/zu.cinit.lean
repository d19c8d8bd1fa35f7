/-! PRINTED BY wip/whole/gen/pq.py: the class's constructors as lists of what they lay. -/
section
variable {d : Nat} {K Q : Option vi_V → vi_W → Prop}
def l_39_30_0 : List (Nat × Nat × Nat × Int × (Nat → Int)) := [(0, 31, 28, 3, fun _ => 0), (1, 31, 0, 16, fun _ => 0), (0, 32, 1, 96, fun _ => 0), (1, 31, 1, 32, fun _ => 0), (1, 30, 0, 31, fun _ => 0)]
theorem c_39_30_0 {w : vi_W} (hn : w.2.2.1 = 31) (h : w.1.1 30 = 22) (hq : vi_ok GG (d + 12) 39 17 [some (.inr (.inr 30))] [] (ywO w l_39_30_0) Q) : vi_ok GG (d + 12) 39 4 [some (.inr (.inr 30))] [] w Q := by
  obtain ⟨Y, M, n, m⟩ := w
  have hn : n = 31 := hn
  subst hn
  have h : Y.1 30 = 22 := h
  have t1 : (vi_ynew Y 31 28 3).1 31 = 28 := yn1
  have t2 : (vi_ynew Y 31 28 3).1 30 = 22 := by rw [yn1o (by decide)]; exact h
  have t3 : (3 : Int).toNat = 3 := rfl
  have k1 := fun {K : Option vi_V → vi_W → Prop} => @k_148 (d + 10) K (vi_ynew Y 31 28 3) (vi_rs M 31 fun _ => 0) (31 + 1) (m + 3) 31 (by decide) t1 (by decide) 16 (by decide)
  have t5 : ((16 : Nat) : Int) = 16 := rfl
  simp only [Nat.add_assoc, Nat.reduceAdd, Nat.reduceMul, t5] at k1
  have t4 : (vi_yfin (vi_ynew (vi_yfin (vi_ynew Y 31 28 3) 31 0 (16 : Int)) 32 1 96) 31 1 ((32 : Nat) : Int)).1 30 = 22 := by rw [yf1, yn1o (by decide), yf1]; exact t2
  simp (disch := omega) only [Option.toList_some, Option.toList_none, List.nil_append, List.cons_append, List.append_nil, true_and, and_true, not_true_eq_false, not_false_eq_true, true_implies, false_implies, implies_true, and_self, Int.reduceLT, Int.reduceLE, Int.reduceEq, Int.reduceNe, Int.reduceAdd, Int.reduceSub, Int.reduceMul, Int.reduceNeg, Int.reduceToNat, Int.toNat_natCast, ↓kk_ck, ↓kk_im, ↓kk_in, s_39_4, s_39_8, s_39_14, h, ne_eq, vi_ms_rs, t1, t2, t3, k1, t4]
  exact hq
def l_39_30_1 : List (Nat × Nat × Nat × Int × (Nat → Int)) := [(0, 33, 28, 3, fun _ => 0), (1, 33, 0, 8, fun _ => 0), (0, 34, 1, 48, fun _ => 0), (1, 33, 1, 34, fun _ => 0), (1, 30, 1, 33, fun _ => 0)]
theorem c_39_30_1 {w : vi_W} (hn : w.2.2.1 = 33) (h : w.1.1 30 = 22) (hq : vi_ok GG (d + 12) 39 30 [some (.inr (.inr 30))] [] (ywO w l_39_30_1) Q) : vi_ok GG (d + 12) 39 17 [some (.inr (.inr 30))] [] w Q := by
  obtain ⟨Y, M, n, m⟩ := w
  have hn : n = 33 := hn
  subst hn
  have h : Y.1 30 = 22 := h
  have t1 : (vi_ynew Y 33 28 3).1 33 = 28 := yn1
  have t2 : (vi_ynew Y 33 28 3).1 30 = 22 := by rw [yn1o (by decide)]; exact h
  have t3 : (3 : Int).toNat = 3 := rfl
  have k1 := fun {K : Option vi_V → vi_W → Prop} => @k_148 (d + 10) K (vi_ynew Y 33 28 3) (vi_rs M 33 fun _ => 0) (33 + 1) (m + 3) 33 (by decide) t1 (by decide) 8 (by decide)
  have t5 : ((8 : Nat) : Int) = 8 := rfl
  simp only [Nat.add_assoc, Nat.reduceAdd, Nat.reduceMul, t5] at k1
  have t4 : (vi_yfin (vi_ynew (vi_yfin (vi_ynew Y 33 28 3) 33 0 (8 : Int)) 34 1 48) 33 1 ((34 : Nat) : Int)).1 30 = 22 := by rw [yf1, yn1o (by decide), yf1]; exact t2
  simp (disch := omega) only [Option.toList_some, Option.toList_none, List.nil_append, List.cons_append, List.append_nil, true_and, and_true, not_true_eq_false, not_false_eq_true, true_implies, false_implies, implies_true, and_self, Int.reduceLT, Int.reduceLE, Int.reduceEq, Int.reduceNe, Int.reduceAdd, Int.reduceSub, Int.reduceMul, Int.reduceNeg, Int.reduceToNat, Int.toNat_natCast, ↓kk_ck, ↓kk_im, ↓kk_in, s_39_17, s_39_21, s_39_27, h, ne_eq, vi_ms_rs, t1, t2, t3, k1, t4]
  exact hq
def l_39_30_2 : List (Nat × Nat × Nat × Int × (Nat → Int)) := [(0, 35, 28, 3, fun _ => 0), (1, 35, 0, 8, fun _ => 0), (0, 36, 1, 48, fun _ => 0), (1, 35, 1, 36, fun _ => 0), (1, 30, 2, 35, fun _ => 0)]
theorem c_39_30_2 {w : vi_W} (hn : w.2.2.1 = 35) (h : w.1.1 30 = 22) (hq : vi_ok GG (d + 12) 39 43 [some (.inr (.inr 30))] [] (ywO w l_39_30_2) Q) : vi_ok GG (d + 12) 39 30 [some (.inr (.inr 30))] [] w Q := by
  obtain ⟨Y, M, n, m⟩ := w
  have hn : n = 35 := hn
  subst hn
  have h : Y.1 30 = 22 := h
  have t1 : (vi_ynew Y 35 28 3).1 35 = 28 := yn1
  have t2 : (vi_ynew Y 35 28 3).1 30 = 22 := by rw [yn1o (by decide)]; exact h
  have t3 : (3 : Int).toNat = 3 := rfl
  have k1 := fun {K : Option vi_V → vi_W → Prop} => @k_148 (d + 10) K (vi_ynew Y 35 28 3) (vi_rs M 35 fun _ => 0) (35 + 1) (m + 3) 35 (by decide) t1 (by decide) 8 (by decide)
  have t5 : ((8 : Nat) : Int) = 8 := rfl
  simp only [Nat.add_assoc, Nat.reduceAdd, Nat.reduceMul, t5] at k1
  have t4 : (vi_yfin (vi_ynew (vi_yfin (vi_ynew Y 35 28 3) 35 0 (8 : Int)) 36 1 48) 35 1 ((36 : Nat) : Int)).1 30 = 22 := by rw [yf1, yn1o (by decide), yf1]; exact t2
  simp (disch := omega) only [Option.toList_some, Option.toList_none, List.nil_append, List.cons_append, List.append_nil, true_and, and_true, not_true_eq_false, not_false_eq_true, true_implies, false_implies, implies_true, and_self, Int.reduceLT, Int.reduceLE, Int.reduceEq, Int.reduceNe, Int.reduceAdd, Int.reduceSub, Int.reduceMul, Int.reduceNeg, Int.reduceToNat, Int.toNat_natCast, ↓kk_ck, ↓kk_im, ↓kk_in, s_39_30, s_39_34, s_39_40, h, ne_eq, vi_ms_rs, t1, t2, t3, k1, t4]
  exact hq
def l_39_30_3 : List (Nat × Nat × Nat × Int × (Nat → Int)) := [(0, 37, 1, 108, fun _ => 0), (1, 30, 3, 37, fun _ => 0)]
theorem c_39_30_3 {w : vi_W} (hn : w.2.2.1 = 37) (h : w.1.1 30 = 22) (hq : vi_ok GG (d + 12) 39 51 [some (.inr (.inr 30))] [] (ywO w l_39_30_3) Q) : vi_ok GG (d + 12) 39 43 [some (.inr (.inr 30))] [] w Q := by
  obtain ⟨Y, M, n, m⟩ := w
  have hn : n = 37 := hn
  subst hn
  have h : Y.1 30 = 22 := h
  have t1 : (vi_ynew Y 37 1 108).1 37 = 1 := yn1
  have t2 : (vi_ynew Y 37 1 108).1 30 = 22 := by rw [yn1o (by decide)]; exact h
  have t3 : (108 : Int).toNat = 108 := rfl
  simp (disch := omega) only [Option.toList_some, Option.toList_none, List.nil_append, List.cons_append, List.append_nil, true_and, and_true, not_true_eq_false, not_false_eq_true, true_implies, false_implies, implies_true, and_self, Int.reduceLT, Int.reduceLE, Int.reduceEq, Int.reduceNe, Int.reduceAdd, Int.reduceSub, Int.reduceMul, Int.reduceNeg, Int.reduceToNat, Int.toNat_natCast, ↓kk_ck, ↓kk_im, ↓kk_in, s_39_43, s_39_48, h, ne_eq, vi_ms_rs, t1, t2, t3]
  exact hq
def l_39_30_4 : List (Nat × Nat × Nat × Int × (Nat → Int)) := [(0, 38, 1, 12, fun _ => 0), (1, 30, 4, 38, fun _ => 0)]
theorem c_39_30_4 {w : vi_W} (hn : w.2.2.1 = 38) (h : w.1.1 30 = 22) (hq : vi_ok GG (d + 12) 39 59 [some (.inr (.inr 30))] [] (ywO w l_39_30_4) Q) : vi_ok GG (d + 12) 39 51 [some (.inr (.inr 30))] [] w Q := by
  obtain ⟨Y, M, n, m⟩ := w
  have hn : n = 38 := hn
  subst hn
  have h : Y.1 30 = 22 := h
  have t1 : (vi_ynew Y 38 1 12).1 38 = 1 := yn1
  have t2 : (vi_ynew Y 38 1 12).1 30 = 22 := by rw [yn1o (by decide)]; exact h
  have t3 : (12 : Int).toNat = 12 := rfl
  simp (disch := omega) only [Option.toList_some, Option.toList_none, List.nil_append, List.cons_append, List.append_nil, true_and, and_true, not_true_eq_false, not_false_eq_true, true_implies, false_implies, implies_true, and_self, Int.reduceLT, Int.reduceLE, Int.reduceEq, Int.reduceNe, Int.reduceAdd, Int.reduceSub, Int.reduceMul, Int.reduceNeg, Int.reduceToNat, Int.toNat_natCast, ↓kk_ck, ↓kk_im, ↓kk_in, s_39_51, s_39_56, h, ne_eq, vi_ms_rs, t1, t2, t3]
  exact hq
def l_39_30_5 : List (Nat × Nat × Nat × Int × (Nat → Int)) := [(0, 39, 7, 6, fun _ => 0), (1, 30, 5, 39, fun _ => 0)]
theorem c_39_30_5 {w : vi_W} (hn : w.2.2.1 = 39) (h : w.1.1 30 = 22) (hq : vi_ok GG (d + 12) 39 68 [some (.inr (.inr 30))] [] (ywO w l_39_30_5) Q) : vi_ok GG (d + 12) 39 59 [some (.inr (.inr 30))] [] w Q := by
  obtain ⟨Y, M, n, m⟩ := w
  have hn : n = 39 := hn
  subst hn
  have h : Y.1 30 = 22 := h
  have t1 : (vi_ynew Y 39 7 6).1 39 = 7 := yn1
  have t2 : (vi_ynew Y 39 7 6).1 30 = 22 := by rw [yn1o (by decide)]; exact h
  have t3 : (6 : Int).toNat = 6 := rfl
  simp (disch := omega) only [Option.toList_some, Option.toList_none, List.nil_append, List.cons_append, List.append_nil, true_and, and_true, not_true_eq_false, not_false_eq_true, true_implies, false_implies, implies_true, and_self, Int.reduceLT, Int.reduceLE, Int.reduceEq, Int.reduceNe, Int.reduceAdd, Int.reduceSub, Int.reduceMul, Int.reduceNeg, Int.reduceToNat, Int.toNat_natCast, ↓kk_ck, ↓kk_im, ↓kk_in, s_39_59, s_39_65, h, ne_eq, vi_ms_rs, t1, t2, t3]
  exact hq
def l_39_30_6 : List (Nat × Nat × Nat × Int × (Nat → Int)) := [(2, 30, 7, -1, fun _ => 0)]
theorem c_39_30_6 {w : vi_W} (hn : w.2.2.1 = 40) (h : w.1.1 30 = 22) (hq : vi_ok GG (d + 12) 39 73 [some (.inr (.inr 30))] [] (ywO w l_39_30_6) Q) : vi_ok GG (d + 12) 39 68 [some (.inr (.inr 30))] [] w Q := by
  obtain ⟨Y, M, n, m⟩ := w
  have hn : n = 40 := hn
  subst hn
  have h : Y.1 30 = 22 := h
  simp (disch := omega) only [Option.toList_some, Option.toList_none, List.nil_append, List.cons_append, List.append_nil, true_and, and_true, not_true_eq_false, not_false_eq_true, true_implies, false_implies, implies_true, and_self, Int.reduceLT, Int.reduceLE, Int.reduceEq, Int.reduceNe, Int.reduceAdd, Int.reduceSub, Int.reduceMul, Int.reduceNeg, Int.reduceToNat, Int.toNat_natCast, ↓kk_ck, ↓kk_im, ↓kk_in, s_39_68, h, ne_eq, vi_ms_rs]
  exact hq
def l_39_30_7 : List (Nat × Nat × Nat × Int × (Nat → Int)) := [(2, 30, 8, 5, fun _ => 0)]
theorem c_39_30_7 {w : vi_W} (hn : w.2.2.1 = 40) (h : w.1.1 30 = 22) (hq : vi_ok GG (d + 12) 39 78 [some (.inr (.inr 30))] [] (ywO w l_39_30_7) Q) : vi_ok GG (d + 12) 39 73 [some (.inr (.inr 30))] [] w Q := by
  obtain ⟨Y, M, n, m⟩ := w
  have hn : n = 40 := hn
  subst hn
  have h : Y.1 30 = 22 := h
  simp (disch := omega) only [Option.toList_some, Option.toList_none, List.nil_append, List.cons_append, List.append_nil, true_and, and_true, not_true_eq_false, not_false_eq_true, true_implies, false_implies, implies_true, and_self, Int.reduceLT, Int.reduceLE, Int.reduceEq, Int.reduceNe, Int.reduceAdd, Int.reduceSub, Int.reduceMul, Int.reduceNeg, Int.reduceToNat, Int.toNat_natCast, ↓kk_ck, ↓kk_im, ↓kk_in, s_39_73, h, ne_eq, vi_ms_rs]
  exact hq
def l_39_30_8 : List (Nat × Nat × Nat × Int × (Nat → Int)) := [(2, 30, 9, 5, fun _ => 0)]
theorem c_39_30_8 {w : vi_W} (hn : w.2.2.1 = 40) (h : w.1.1 30 = 22) (hq : vi_ok GG (d + 12) 39 83 [some (.inr (.inr 30))] [] (ywO w l_39_30_8) Q) : vi_ok GG (d + 12) 39 78 [some (.inr (.inr 30))] [] w Q := by
  obtain ⟨Y, M, n, m⟩ := w
  have hn : n = 40 := hn
  subst hn
  have h : Y.1 30 = 22 := h
  simp (disch := omega) only [Option.toList_some, Option.toList_none, List.nil_append, List.cons_append, List.append_nil, true_and, and_true, not_true_eq_false, not_false_eq_true, true_implies, false_implies, implies_true, and_self, Int.reduceLT, Int.reduceLE, Int.reduceEq, Int.reduceNe, Int.reduceAdd, Int.reduceSub, Int.reduceMul, Int.reduceNeg, Int.reduceToNat, Int.toNat_natCast, ↓kk_ck, ↓kk_im, ↓kk_in, s_39_78, h, ne_eq, vi_ms_rs]
  exact hq
def l_39_30_9 : List (Nat × Nat × Nat × Int × (Nat → Int)) := [(2, 30, 10, 5, fun _ => 0)]
theorem c_39_30_9 {w : vi_W} (hn : w.2.2.1 = 40) (h : w.1.1 30 = 22) (hq : vi_ok GG (d + 12) 39 88 [some (.inr (.inr 30))] [] (ywO w l_39_30_9) Q) : vi_ok GG (d + 12) 39 83 [some (.inr (.inr 30))] [] w Q := by
  obtain ⟨Y, M, n, m⟩ := w
  have hn : n = 40 := hn
  subst hn
  have h : Y.1 30 = 22 := h
  simp (disch := omega) only [Option.toList_some, Option.toList_none, List.nil_append, List.cons_append, List.append_nil, true_and, and_true, not_true_eq_false, not_false_eq_true, true_implies, false_implies, implies_true, and_self, Int.reduceLT, Int.reduceLE, Int.reduceEq, Int.reduceNe, Int.reduceAdd, Int.reduceSub, Int.reduceMul, Int.reduceNeg, Int.reduceToNat, Int.toNat_natCast, ↓kk_ck, ↓kk_im, ↓kk_in, s_39_83, h, ne_eq, vi_ms_rs]
  exact hq
def l_39_30 : List (Nat × Nat × Nat × Int × (Nat → Int)) := l_39_30_0 ++ (l_39_30_1 ++ (l_39_30_2 ++ (l_39_30_3 ++ (l_39_30_4 ++ (l_39_30_5 ++ (l_39_30_6 ++ (l_39_30_7 ++ (l_39_30_8 ++ (l_39_30_9)))))))))
theorem k_39_30 {w : vi_W} (hn : w.2.2.1 = 31) (h : w.1.1 30 = 22) : vi_call GG (d + 13) 39 [.inr (.inr 30)] w K ↔ K none (ywO w l_39_30) := by
  refine vi_k (r := none) fun Q hQ => ?_
  have e0 : vi_ok GG (d + 12) 39 4 [some (.inr (.inr 30))] [] w Q → vi_ok GG (d + 12) 39 0 [some (.inr (.inr 30))] [] w Q := by
    obtain ⟨Y, M, n, m⟩ := w
    have h : Y.1 30 = 22 := h
    intro hq
    simp (disch := omega) only [Option.toList_some, Option.toList_none, List.nil_append, List.cons_append, List.append_nil, true_and, and_true, not_true_eq_false, not_false_eq_true, true_implies, false_implies, implies_true, and_self, Int.reduceLT, Int.reduceLE, Int.reduceEq, Int.reduceNe, Int.reduceAdd, Int.reduceSub, Int.reduceMul, Int.reduceNeg, Int.reduceToNat, Int.toNat_natCast, ↓kk_ck, ↓kk_im, ↓kk_in, s_39_0, h, ne_eq]
    exact hq
  rw [e_39]
  refine e0 ?_
  clear e0
  rw [l_39_30] at hQ
  simp only [ywO_a] at hQ
  have n0 : w.2.2.1 = 31 := hn
  have h0 : w.1.1 30 = 22 := h
  refine c_39_30_0 n0 h0 ?_
  obtain ⟨w1, e1⟩ : ∃ v, v = ywO w l_39_30_0 := ⟨_, rfl⟩
  have n1 : w1.2.2.1 = 33 := by rw [e1, ywO_n, n0]; rfl
  have h1 : w1.1.1 30 = 22 := by rw [e1, ywO_T, h0]; rfl
  rw [← e1] at hQ ⊢
  refine c_39_30_1 n1 h1 ?_
  obtain ⟨w2, e2⟩ : ∃ v, v = ywO w1 l_39_30_1 := ⟨_, rfl⟩
  have n2 : w2.2.2.1 = 35 := by rw [e2, ywO_n, n1]; rfl
  have h2 : w2.1.1 30 = 22 := by rw [e2, ywO_T, h1]; rfl
  rw [← e2] at hQ ⊢
  refine c_39_30_2 n2 h2 ?_
  obtain ⟨w3, e3⟩ : ∃ v, v = ywO w2 l_39_30_2 := ⟨_, rfl⟩
  have n3 : w3.2.2.1 = 37 := by rw [e3, ywO_n, n2]; rfl
  have h3 : w3.1.1 30 = 22 := by rw [e3, ywO_T, h2]; rfl
  rw [← e3] at hQ ⊢
  refine c_39_30_3 n3 h3 ?_
  obtain ⟨w4, e4⟩ : ∃ v, v = ywO w3 l_39_30_3 := ⟨_, rfl⟩
  have n4 : w4.2.2.1 = 38 := by rw [e4, ywO_n, n3]; rfl
  have h4 : w4.1.1 30 = 22 := by rw [e4, ywO_T, h3]; rfl
  rw [← e4] at hQ ⊢
  refine c_39_30_4 n4 h4 ?_
  obtain ⟨w5, e5⟩ : ∃ v, v = ywO w4 l_39_30_4 := ⟨_, rfl⟩
  have n5 : w5.2.2.1 = 39 := by rw [e5, ywO_n, n4]; rfl
  have h5 : w5.1.1 30 = 22 := by rw [e5, ywO_T, h4]; rfl
  rw [← e5] at hQ ⊢
  refine c_39_30_5 n5 h5 ?_
  obtain ⟨w6, e6⟩ : ∃ v, v = ywO w5 l_39_30_5 := ⟨_, rfl⟩
  have n6 : w6.2.2.1 = 40 := by rw [e6, ywO_n, n5]; rfl
  have h6 : w6.1.1 30 = 22 := by rw [e6, ywO_T, h5]; rfl
  rw [← e6] at hQ ⊢
  refine c_39_30_6 n6 h6 ?_
  obtain ⟨w7, e7⟩ : ∃ v, v = ywO w6 l_39_30_6 := ⟨_, rfl⟩
  have n7 : w7.2.2.1 = 40 := by rw [e7, ywO_n, n6]; rfl
  have h7 : w7.1.1 30 = 22 := by rw [e7, ywO_T, h6]; rfl
  rw [← e7] at hQ ⊢
  refine c_39_30_7 n7 h7 ?_
  obtain ⟨w8, e8⟩ : ∃ v, v = ywO w7 l_39_30_7 := ⟨_, rfl⟩
  have n8 : w8.2.2.1 = 40 := by rw [e8, ywO_n, n7]; rfl
  have h8 : w8.1.1 30 = 22 := by rw [e8, ywO_T, h7]; rfl
  rw [← e8] at hQ ⊢
  refine c_39_30_8 n8 h8 ?_
  obtain ⟨w9, e9⟩ : ∃ v, v = ywO w8 l_39_30_8 := ⟨_, rfl⟩
  have n9 : w9.2.2.1 = 40 := by rw [e9, ywO_n, n8]; rfl
  have h9 : w9.1.1 30 = 22 := by rw [e9, ywO_T, h8]; rfl
  rw [← e9] at hQ ⊢
  refine c_39_30_9 n9 h9 ?_
  obtain ⟨w10, e10⟩ : ∃ v, v = ywO w9 l_39_30_9 := ⟨_, rfl⟩
  have n10 : w10.2.2.1 = 40 := by rw [e10, ywO_n, n9]; rfl
  have h10 : w10.1.1 30 = 22 := by rw [e10, ywO_T, h9]; rfl
  rw [← e10] at hQ ⊢
  exact s_39_88.mpr hQ
def l_39_40_0 : List (Nat × Nat × Nat × Int × (Nat → Int)) := [(0, 41, 28, 3, fun _ => 0), (1, 41, 0, 16, fun _ => 0), (0, 42, 1, 96, fun _ => 0), (1, 41, 1, 42, fun _ => 0), (1, 40, 0, 41, fun _ => 0)]
theorem c_39_40_0 {w : vi_W} (hn : w.2.2.1 = 41) (h : w.1.1 40 = 22) (hq : vi_ok GG (d + 12) 39 17 [some (.inr (.inr 40))] [] (ywO w l_39_40_0) Q) : vi_ok GG (d + 12) 39 4 [some (.inr (.inr 40))] [] w Q := by
  obtain ⟨Y, M, n, m⟩ := w
  have hn : n = 41 := hn
  subst hn
  have h : Y.1 40 = 22 := h
  have t1 : (vi_ynew Y 41 28 3).1 41 = 28 := yn1
  have t2 : (vi_ynew Y 41 28 3).1 40 = 22 := by rw [yn1o (by decide)]; exact h
  have t3 : (3 : Int).toNat = 3 := rfl
  have k1 := fun {K : Option vi_V → vi_W → Prop} => @k_148 (d + 10) K (vi_ynew Y 41 28 3) (vi_rs M 41 fun _ => 0) (41 + 1) (m + 3) 41 (by decide) t1 (by decide) 16 (by decide)
  have t5 : ((16 : Nat) : Int) = 16 := rfl
  simp only [Nat.add_assoc, Nat.reduceAdd, Nat.reduceMul, t5] at k1
  have t4 : (vi_yfin (vi_ynew (vi_yfin (vi_ynew Y 41 28 3) 41 0 (16 : Int)) 42 1 96) 41 1 ((42 : Nat) : Int)).1 40 = 22 := by rw [yf1, yn1o (by decide), yf1]; exact t2
  simp (disch := omega) only [Option.toList_some, Option.toList_none, List.nil_append, List.cons_append, List.append_nil, true_and, and_true, not_true_eq_false, not_false_eq_true, true_implies, false_implies, implies_true, and_self, Int.reduceLT, Int.reduceLE, Int.reduceEq, Int.reduceNe, Int.reduceAdd, Int.reduceSub, Int.reduceMul, Int.reduceNeg, Int.reduceToNat, Int.toNat_natCast, ↓kk_ck, ↓kk_im, ↓kk_in, s_39_4, s_39_8, s_39_14, h, ne_eq, vi_ms_rs, t1, t2, t3, k1, t4]
  exact hq
def l_39_40_1 : List (Nat × Nat × Nat × Int × (Nat → Int)) := [(0, 43, 28, 3, fun _ => 0), (1, 43, 0, 8, fun _ => 0), (0, 44, 1, 48, fun _ => 0), (1, 43, 1, 44, fun _ => 0), (1, 40, 1, 43, fun _ => 0)]
theorem c_39_40_1 {w : vi_W} (hn : w.2.2.1 = 43) (h : w.1.1 40 = 22) (hq : vi_ok GG (d + 12) 39 30 [some (.inr (.inr 40))] [] (ywO w l_39_40_1) Q) : vi_ok GG (d + 12) 39 17 [some (.inr (.inr 40))] [] w Q := by
  obtain ⟨Y, M, n, m⟩ := w
  have hn : n = 43 := hn
  subst hn
  have h : Y.1 40 = 22 := h
  have t1 : (vi_ynew Y 43 28 3).1 43 = 28 := yn1
  have t2 : (vi_ynew Y 43 28 3).1 40 = 22 := by rw [yn1o (by decide)]; exact h
  have t3 : (3 : Int).toNat = 3 := rfl
  have k1 := fun {K : Option vi_V → vi_W → Prop} => @k_148 (d + 10) K (vi_ynew Y 43 28 3) (vi_rs M 43 fun _ => 0) (43 + 1) (m + 3) 43 (by decide) t1 (by decide) 8 (by decide)
  have t5 : ((8 : Nat) : Int) = 8 := rfl
  simp only [Nat.add_assoc, Nat.reduceAdd, Nat.reduceMul, t5] at k1
  have t4 : (vi_yfin (vi_ynew (vi_yfin (vi_ynew Y 43 28 3) 43 0 (8 : Int)) 44 1 48) 43 1 ((44 : Nat) : Int)).1 40 = 22 := by rw [yf1, yn1o (by decide), yf1]; exact t2
  simp (disch := omega) only [Option.toList_some, Option.toList_none, List.nil_append, List.cons_append, List.append_nil, true_and, and_true, not_true_eq_false, not_false_eq_true, true_implies, false_implies, implies_true, and_self, Int.reduceLT, Int.reduceLE, Int.reduceEq, Int.reduceNe, Int.reduceAdd, Int.reduceSub, Int.reduceMul, Int.reduceNeg, Int.reduceToNat, Int.toNat_natCast, ↓kk_ck, ↓kk_im, ↓kk_in, s_39_17, s_39_21, s_39_27, h, ne_eq, vi_ms_rs, t1, t2, t3, k1, t4]
  exact hq
def l_39_40_2 : List (Nat × Nat × Nat × Int × (Nat → Int)) := [(0, 45, 28, 3, fun _ => 0), (1, 45, 0, 8, fun _ => 0), (0, 46, 1, 48, fun _ => 0), (1, 45, 1, 46, fun _ => 0), (1, 40, 2, 45, fun _ => 0)]
theorem c_39_40_2 {w : vi_W} (hn : w.2.2.1 = 45) (h : w.1.1 40 = 22) (hq : vi_ok GG (d + 12) 39 43 [some (.inr (.inr 40))] [] (ywO w l_39_40_2) Q) : vi_ok GG (d + 12) 39 30 [some (.inr (.inr 40))] [] w Q := by
  obtain ⟨Y, M, n, m⟩ := w
  have hn : n = 45 := hn
  subst hn
  have h : Y.1 40 = 22 := h
  have t1 : (vi_ynew Y 45 28 3).1 45 = 28 := yn1
  have t2 : (vi_ynew Y 45 28 3).1 40 = 22 := by rw [yn1o (by decide)]; exact h
  have t3 : (3 : Int).toNat = 3 := rfl
  have k1 := fun {K : Option vi_V → vi_W → Prop} => @k_148 (d + 10) K (vi_ynew Y 45 28 3) (vi_rs M 45 fun _ => 0) (45 + 1) (m + 3) 45 (by decide) t1 (by decide) 8 (by decide)
  have t5 : ((8 : Nat) : Int) = 8 := rfl
  simp only [Nat.add_assoc, Nat.reduceAdd, Nat.reduceMul, t5] at k1
  have t4 : (vi_yfin (vi_ynew (vi_yfin (vi_ynew Y 45 28 3) 45 0 (8 : Int)) 46 1 48) 45 1 ((46 : Nat) : Int)).1 40 = 22 := by rw [yf1, yn1o (by decide), yf1]; exact t2
  simp (disch := omega) only [Option.toList_some, Option.toList_none, List.nil_append, List.cons_append, List.append_nil, true_and, and_true, not_true_eq_false, not_false_eq_true, true_implies, false_implies, implies_true, and_self, Int.reduceLT, Int.reduceLE, Int.reduceEq, Int.reduceNe, Int.reduceAdd, Int.reduceSub, Int.reduceMul, Int.reduceNeg, Int.reduceToNat, Int.toNat_natCast, ↓kk_ck, ↓kk_im, ↓kk_in, s_39_30, s_39_34, s_39_40, h, ne_eq, vi_ms_rs, t1, t2, t3, k1, t4]
  exact hq
def l_39_40_3 : List (Nat × Nat × Nat × Int × (Nat → Int)) := [(0, 47, 1, 108, fun _ => 0), (1, 40, 3, 47, fun _ => 0)]
theorem c_39_40_3 {w : vi_W} (hn : w.2.2.1 = 47) (h : w.1.1 40 = 22) (hq : vi_ok GG (d + 12) 39 51 [some (.inr (.inr 40))] [] (ywO w l_39_40_3) Q) : vi_ok GG (d + 12) 39 43 [some (.inr (.inr 40))] [] w Q := by
  obtain ⟨Y, M, n, m⟩ := w
  have hn : n = 47 := hn
  subst hn
  have h : Y.1 40 = 22 := h
  have t1 : (vi_ynew Y 47 1 108).1 47 = 1 := yn1
  have t2 : (vi_ynew Y 47 1 108).1 40 = 22 := by rw [yn1o (by decide)]; exact h
  have t3 : (108 : Int).toNat = 108 := rfl
  simp (disch := omega) only [Option.toList_some, Option.toList_none, List.nil_append, List.cons_append, List.append_nil, true_and, and_true, not_true_eq_false, not_false_eq_true, true_implies, false_implies, implies_true, and_self, Int.reduceLT, Int.reduceLE, Int.reduceEq, Int.reduceNe, Int.reduceAdd, Int.reduceSub, Int.reduceMul, Int.reduceNeg, Int.reduceToNat, Int.toNat_natCast, ↓kk_ck, ↓kk_im, ↓kk_in, s_39_43, s_39_48, h, ne_eq, vi_ms_rs, t1, t2, t3]
  exact hq
def l_39_40_4 : List (Nat × Nat × Nat × Int × (Nat → Int)) := [(0, 48, 1, 12, fun _ => 0), (1, 40, 4, 48, fun _ => 0)]
theorem c_39_40_4 {w : vi_W} (hn : w.2.2.1 = 48) (h : w.1.1 40 = 22) (hq : vi_ok GG (d + 12) 39 59 [some (.inr (.inr 40))] [] (ywO w l_39_40_4) Q) : vi_ok GG (d + 12) 39 51 [some (.inr (.inr 40))] [] w Q := by
  obtain ⟨Y, M, n, m⟩ := w
  have hn : n = 48 := hn
  subst hn
  have h : Y.1 40 = 22 := h
  have t1 : (vi_ynew Y 48 1 12).1 48 = 1 := yn1
  have t2 : (vi_ynew Y 48 1 12).1 40 = 22 := by rw [yn1o (by decide)]; exact h
  have t3 : (12 : Int).toNat = 12 := rfl
  simp (disch := omega) only [Option.toList_some, Option.toList_none, List.nil_append, List.cons_append, List.append_nil, true_and, and_true, not_true_eq_false, not_false_eq_true, true_implies, false_implies, implies_true, and_self, Int.reduceLT, Int.reduceLE, Int.reduceEq, Int.reduceNe, Int.reduceAdd, Int.reduceSub, Int.reduceMul, Int.reduceNeg, Int.reduceToNat, Int.toNat_natCast, ↓kk_ck, ↓kk_im, ↓kk_in, s_39_51, s_39_56, h, ne_eq, vi_ms_rs, t1, t2, t3]
  exact hq
def l_39_40_5 : List (Nat × Nat × Nat × Int × (Nat → Int)) := [(0, 49, 7, 6, fun _ => 0), (1, 40, 5, 49, fun _ => 0)]
theorem c_39_40_5 {w : vi_W} (hn : w.2.2.1 = 49) (h : w.1.1 40 = 22) (hq : vi_ok GG (d + 12) 39 68 [some (.inr (.inr 40))] [] (ywO w l_39_40_5) Q) : vi_ok GG (d + 12) 39 59 [some (.inr (.inr 40))] [] w Q := by
  obtain ⟨Y, M, n, m⟩ := w
  have hn : n = 49 := hn
  subst hn
  have h : Y.1 40 = 22 := h
  have t1 : (vi_ynew Y 49 7 6).1 49 = 7 := yn1
  have t2 : (vi_ynew Y 49 7 6).1 40 = 22 := by rw [yn1o (by decide)]; exact h
  have t3 : (6 : Int).toNat = 6 := rfl
  simp (disch := omega) only [Option.toList_some, Option.toList_none, List.nil_append, List.cons_append, List.append_nil, true_and, and_true, not_true_eq_false, not_false_eq_true, true_implies, false_implies, implies_true, and_self, Int.reduceLT, Int.reduceLE, Int.reduceEq, Int.reduceNe, Int.reduceAdd, Int.reduceSub, Int.reduceMul, Int.reduceNeg, Int.reduceToNat, Int.toNat_natCast, ↓kk_ck, ↓kk_im, ↓kk_in, s_39_59, s_39_65, h, ne_eq, vi_ms_rs, t1, t2, t3]
  exact hq
def l_39_40_6 : List (Nat × Nat × Nat × Int × (Nat → Int)) := [(2, 40, 7, -1, fun _ => 0)]
theorem c_39_40_6 {w : vi_W} (hn : w.2.2.1 = 50) (h : w.1.1 40 = 22) (hq : vi_ok GG (d + 12) 39 73 [some (.inr (.inr 40))] [] (ywO w l_39_40_6) Q) : vi_ok GG (d + 12) 39 68 [some (.inr (.inr 40))] [] w Q := by
  obtain ⟨Y, M, n, m⟩ := w
  have hn : n = 50 := hn
  subst hn
  have h : Y.1 40 = 22 := h
  simp (disch := omega) only [Option.toList_some, Option.toList_none, List.nil_append, List.cons_append, List.append_nil, true_and, and_true, not_true_eq_false, not_false_eq_true, true_implies, false_implies, implies_true, and_self, Int.reduceLT, Int.reduceLE, Int.reduceEq, Int.reduceNe, Int.reduceAdd, Int.reduceSub, Int.reduceMul, Int.reduceNeg, Int.reduceToNat, Int.toNat_natCast, ↓kk_ck, ↓kk_im, ↓kk_in, s_39_68, h, ne_eq, vi_ms_rs]
  exact hq
def l_39_40_7 : List (Nat × Nat × Nat × Int × (Nat → Int)) := [(2, 40, 8, 5, fun _ => 0)]
theorem c_39_40_7 {w : vi_W} (hn : w.2.2.1 = 50) (h : w.1.1 40 = 22) (hq : vi_ok GG (d + 12) 39 78 [some (.inr (.inr 40))] [] (ywO w l_39_40_7) Q) : vi_ok GG (d + 12) 39 73 [some (.inr (.inr 40))] [] w Q := by
  obtain ⟨Y, M, n, m⟩ := w
  have hn : n = 50 := hn
  subst hn
  have h : Y.1 40 = 22 := h
  simp (disch := omega) only [Option.toList_some, Option.toList_none, List.nil_append, List.cons_append, List.append_nil, true_and, and_true, not_true_eq_false, not_false_eq_true, true_implies, false_implies, implies_true, and_self, Int.reduceLT, Int.reduceLE, Int.reduceEq, Int.reduceNe, Int.reduceAdd, Int.reduceSub, Int.reduceMul, Int.reduceNeg, Int.reduceToNat, Int.toNat_natCast, ↓kk_ck, ↓kk_im, ↓kk_in, s_39_73, h, ne_eq, vi_ms_rs]
  exact hq
def l_39_40_8 : List (Nat × Nat × Nat × Int × (Nat → Int)) := [(2, 40, 9, 5, fun _ => 0)]
theorem c_39_40_8 {w : vi_W} (hn : w.2.2.1 = 50) (h : w.1.1 40 = 22) (hq : vi_ok GG (d + 12) 39 83 [some (.inr (.inr 40))] [] (ywO w l_39_40_8) Q) : vi_ok GG (d + 12) 39 78 [some (.inr (.inr 40))] [] w Q := by
  obtain ⟨Y, M, n, m⟩ := w
  have hn : n = 50 := hn
  subst hn
  have h : Y.1 40 = 22 := h
  simp (disch := omega) only [Option.toList_some, Option.toList_none, List.nil_append, List.cons_append, List.append_nil, true_and, and_true, not_true_eq_false, not_false_eq_true, true_implies, false_implies, implies_true, and_self, Int.reduceLT, Int.reduceLE, Int.reduceEq, Int.reduceNe, Int.reduceAdd, Int.reduceSub, Int.reduceMul, Int.reduceNeg, Int.reduceToNat, Int.toNat_natCast, ↓kk_ck, ↓kk_im, ↓kk_in, s_39_78, h, ne_eq, vi_ms_rs]
  exact hq
def l_39_40_9 : List (Nat × Nat × Nat × Int × (Nat → Int)) := [(2, 40, 10, 5, fun _ => 0)]
theorem c_39_40_9 {w : vi_W} (hn : w.2.2.1 = 50) (h : w.1.1 40 = 22) (hq : vi_ok GG (d + 12) 39 88 [some (.inr (.inr 40))] [] (ywO w l_39_40_9) Q) : vi_ok GG (d + 12) 39 83 [some (.inr (.inr 40))] [] w Q := by
  obtain ⟨Y, M, n, m⟩ := w
  have hn : n = 50 := hn
  subst hn
  have h : Y.1 40 = 22 := h
  simp (disch := omega) only [Option.toList_some, Option.toList_none, List.nil_append, List.cons_append, List.append_nil, true_and, and_true, not_true_eq_false, not_false_eq_true, true_implies, false_implies, implies_true, and_self, Int.reduceLT, Int.reduceLE, Int.reduceEq, Int.reduceNe, Int.reduceAdd, Int.reduceSub, Int.reduceMul, Int.reduceNeg, Int.reduceToNat, Int.toNat_natCast, ↓kk_ck, ↓kk_im, ↓kk_in, s_39_83, h, ne_eq, vi_ms_rs]
  exact hq
def l_39_40 : List (Nat × Nat × Nat × Int × (Nat → Int)) := l_39_40_0 ++ (l_39_40_1 ++ (l_39_40_2 ++ (l_39_40_3 ++ (l_39_40_4 ++ (l_39_40_5 ++ (l_39_40_6 ++ (l_39_40_7 ++ (l_39_40_8 ++ (l_39_40_9)))))))))
theorem k_39_40 {w : vi_W} (hn : w.2.2.1 = 41) (h : w.1.1 40 = 22) : vi_call GG (d + 13) 39 [.inr (.inr 40)] w K ↔ K none (ywO w l_39_40) := by
  refine vi_k (r := none) fun Q hQ => ?_
  have e0 : vi_ok GG (d + 12) 39 4 [some (.inr (.inr 40))] [] w Q → vi_ok GG (d + 12) 39 0 [some (.inr (.inr 40))] [] w Q := by
    obtain ⟨Y, M, n, m⟩ := w
    have h : Y.1 40 = 22 := h
    intro hq
    simp (disch := omega) only [Option.toList_some, Option.toList_none, List.nil_append, List.cons_append, List.append_nil, true_and, and_true, not_true_eq_false, not_false_eq_true, true_implies, false_implies, implies_true, and_self, Int.reduceLT, Int.reduceLE, Int.reduceEq, Int.reduceNe, Int.reduceAdd, Int.reduceSub, Int.reduceMul, Int.reduceNeg, Int.reduceToNat, Int.toNat_natCast, ↓kk_ck, ↓kk_im, ↓kk_in, s_39_0, h, ne_eq]
    exact hq
  rw [e_39]
  refine e0 ?_
  clear e0
  rw [l_39_40] at hQ
  simp only [ywO_a] at hQ
  have n0 : w.2.2.1 = 41 := hn
  have h0 : w.1.1 40 = 22 := h
  refine c_39_40_0 n0 h0 ?_
  obtain ⟨w1, e1⟩ : ∃ v, v = ywO w l_39_40_0 := ⟨_, rfl⟩
  have n1 : w1.2.2.1 = 43 := by rw [e1, ywO_n, n0]; rfl
  have h1 : w1.1.1 40 = 22 := by rw [e1, ywO_T, h0]; rfl
  rw [← e1] at hQ ⊢
  refine c_39_40_1 n1 h1 ?_
  obtain ⟨w2, e2⟩ : ∃ v, v = ywO w1 l_39_40_1 := ⟨_, rfl⟩
  have n2 : w2.2.2.1 = 45 := by rw [e2, ywO_n, n1]; rfl
  have h2 : w2.1.1 40 = 22 := by rw [e2, ywO_T, h1]; rfl
  rw [← e2] at hQ ⊢
  refine c_39_40_2 n2 h2 ?_
  obtain ⟨w3, e3⟩ : ∃ v, v = ywO w2 l_39_40_2 := ⟨_, rfl⟩
  have n3 : w3.2.2.1 = 47 := by rw [e3, ywO_n, n2]; rfl
  have h3 : w3.1.1 40 = 22 := by rw [e3, ywO_T, h2]; rfl
  rw [← e3] at hQ ⊢
  refine c_39_40_3 n3 h3 ?_
  obtain ⟨w4, e4⟩ : ∃ v, v = ywO w3 l_39_40_3 := ⟨_, rfl⟩
  have n4 : w4.2.2.1 = 48 := by rw [e4, ywO_n, n3]; rfl
  have h4 : w4.1.1 40 = 22 := by rw [e4, ywO_T, h3]; rfl
  rw [← e4] at hQ ⊢
  refine c_39_40_4 n4 h4 ?_
  obtain ⟨w5, e5⟩ : ∃ v, v = ywO w4 l_39_40_4 := ⟨_, rfl⟩
  have n5 : w5.2.2.1 = 49 := by rw [e5, ywO_n, n4]; rfl
  have h5 : w5.1.1 40 = 22 := by rw [e5, ywO_T, h4]; rfl
  rw [← e5] at hQ ⊢
  refine c_39_40_5 n5 h5 ?_
  obtain ⟨w6, e6⟩ : ∃ v, v = ywO w5 l_39_40_5 := ⟨_, rfl⟩
  have n6 : w6.2.2.1 = 50 := by rw [e6, ywO_n, n5]; rfl
  have h6 : w6.1.1 40 = 22 := by rw [e6, ywO_T, h5]; rfl
  rw [← e6] at hQ ⊢
  refine c_39_40_6 n6 h6 ?_
  obtain ⟨w7, e7⟩ : ∃ v, v = ywO w6 l_39_40_6 := ⟨_, rfl⟩
  have n7 : w7.2.2.1 = 50 := by rw [e7, ywO_n, n6]; rfl
  have h7 : w7.1.1 40 = 22 := by rw [e7, ywO_T, h6]; rfl
  rw [← e7] at hQ ⊢
  refine c_39_40_7 n7 h7 ?_
  obtain ⟨w8, e8⟩ : ∃ v, v = ywO w7 l_39_40_7 := ⟨_, rfl⟩
  have n8 : w8.2.2.1 = 50 := by rw [e8, ywO_n, n7]; rfl
  have h8 : w8.1.1 40 = 22 := by rw [e8, ywO_T, h7]; rfl
  rw [← e8] at hQ ⊢
  refine c_39_40_8 n8 h8 ?_
  obtain ⟨w9, e9⟩ : ∃ v, v = ywO w8 l_39_40_8 := ⟨_, rfl⟩
  have n9 : w9.2.2.1 = 50 := by rw [e9, ywO_n, n8]; rfl
  have h9 : w9.1.1 40 = 22 := by rw [e9, ywO_T, h8]; rfl
  rw [← e9] at hQ ⊢
  refine c_39_40_9 n9 h9 ?_
  obtain ⟨w10, e10⟩ : ∃ v, v = ywO w9 l_39_40_9 := ⟨_, rfl⟩
  have n10 : w10.2.2.1 = 50 := by rw [e10, ywO_n, n9]; rfl
  have h10 : w10.1.1 40 = 22 := by rw [e10, ywO_T, h9]; rfl
  rw [← e10] at hQ ⊢
  exact s_39_88.mpr hQ
def l_39_50_0 : List (Nat × Nat × Nat × Int × (Nat → Int)) := [(0, 51, 28, 3, fun _ => 0), (1, 51, 0, 16, fun _ => 0), (0, 52, 1, 96, fun _ => 0), (1, 51, 1, 52, fun _ => 0), (1, 50, 0, 51, fun _ => 0)]
theorem c_39_50_0 {w : vi_W} (hn : w.2.2.1 = 51) (h : w.1.1 50 = 22) (hq : vi_ok GG (d + 12) 39 17 [some (.inr (.inr 50))] [] (ywO w l_39_50_0) Q) : vi_ok GG (d + 12) 39 4 [some (.inr (.inr 50))] [] w Q := by
  obtain ⟨Y, M, n, m⟩ := w
  have hn : n = 51 := hn
  subst hn
  have h : Y.1 50 = 22 := h
  have t1 : (vi_ynew Y 51 28 3).1 51 = 28 := yn1
  have t2 : (vi_ynew Y 51 28 3).1 50 = 22 := by rw [yn1o (by decide)]; exact h
  have t3 : (3 : Int).toNat = 3 := rfl
  have k1 := fun {K : Option vi_V → vi_W → Prop} => @k_148 (d + 10) K (vi_ynew Y 51 28 3) (vi_rs M 51 fun _ => 0) (51 + 1) (m + 3) 51 (by decide) t1 (by decide) 16 (by decide)
  have t5 : ((16 : Nat) : Int) = 16 := rfl
  simp only [Nat.add_assoc, Nat.reduceAdd, Nat.reduceMul, t5] at k1
  have t4 : (vi_yfin (vi_ynew (vi_yfin (vi_ynew Y 51 28 3) 51 0 (16 : Int)) 52 1 96) 51 1 ((52 : Nat) : Int)).1 50 = 22 := by rw [yf1, yn1o (by decide), yf1]; exact t2
  simp (disch := omega) only [Option.toList_some, Option.toList_none, List.nil_append, List.cons_append, List.append_nil, true_and, and_true, not_true_eq_false, not_false_eq_true, true_implies, false_implies, implies_true, and_self, Int.reduceLT, Int.reduceLE, Int.reduceEq, Int.reduceNe, Int.reduceAdd, Int.reduceSub, Int.reduceMul, Int.reduceNeg, Int.reduceToNat, Int.toNat_natCast, ↓kk_ck, ↓kk_im, ↓kk_in, s_39_4, s_39_8, s_39_14, h, ne_eq, vi_ms_rs, t1, t2, t3, k1, t4]
  exact hq
def l_39_50_1 : List (Nat × Nat × Nat × Int × (Nat → Int)) := [(0, 53, 28, 3, fun _ => 0), (1, 53, 0, 8, fun _ => 0), (0, 54, 1, 48, fun _ => 0), (1, 53, 1, 54, fun _ => 0), (1, 50, 1, 53, fun _ => 0)]
theorem c_39_50_1 {w : vi_W} (hn : w.2.2.1 = 53) (h : w.1.1 50 = 22) (hq : vi_ok GG (d + 12) 39 30 [some (.inr (.inr 50))] [] (ywO w l_39_50_1) Q) : vi_ok GG (d + 12) 39 17 [some (.inr (.inr 50))] [] w Q := by
  obtain ⟨Y, M, n, m⟩ := w
  have hn : n = 53 := hn
  subst hn
  have h : Y.1 50 = 22 := h
  have t1 : (vi_ynew Y 53 28 3).1 53 = 28 := yn1
  have t2 : (vi_ynew Y 53 28 3).1 50 = 22 := by rw [yn1o (by decide)]; exact h
  have t3 : (3 : Int).toNat = 3 := rfl
  have k1 := fun {K : Option vi_V → vi_W → Prop} => @k_148 (d + 10) K (vi_ynew Y 53 28 3) (vi_rs M 53 fun _ => 0) (53 + 1) (m + 3) 53 (by decide) t1 (by decide) 8 (by decide)
  have t5 : ((8 : Nat) : Int) = 8 := rfl
  simp only [Nat.add_assoc, Nat.reduceAdd, Nat.reduceMul, t5] at k1
  have t4 : (vi_yfin (vi_ynew (vi_yfin (vi_ynew Y 53 28 3) 53 0 (8 : Int)) 54 1 48) 53 1 ((54 : Nat) : Int)).1 50 = 22 := by rw [yf1, yn1o (by decide), yf1]; exact t2
  simp (disch := omega) only [Option.toList_some, Option.toList_none, List.nil_append, List.cons_append, List.append_nil, true_and, and_true, not_true_eq_false, not_false_eq_true, true_implies, false_implies, implies_true, and_self, Int.reduceLT, Int.reduceLE, Int.reduceEq, Int.reduceNe, Int.reduceAdd, Int.reduceSub, Int.reduceMul, Int.reduceNeg, Int.reduceToNat, Int.toNat_natCast, ↓kk_ck, ↓kk_im, ↓kk_in, s_39_17, s_39_21, s_39_27, h, ne_eq, vi_ms_rs, t1, t2, t3, k1, t4]
  exact hq
def l_39_50_2 : List (Nat × Nat × Nat × Int × (Nat → Int)) := [(0, 55, 28, 3, fun _ => 0), (1, 55, 0, 8, fun _ => 0), (0, 56, 1, 48, fun _ => 0), (1, 55, 1, 56, fun _ => 0), (1, 50, 2, 55, fun _ => 0)]
theorem c_39_50_2 {w : vi_W} (hn : w.2.2.1 = 55) (h : w.1.1 50 = 22) (hq : vi_ok GG (d + 12) 39 43 [some (.inr (.inr 50))] [] (ywO w l_39_50_2) Q) : vi_ok GG (d + 12) 39 30 [some (.inr (.inr 50))] [] w Q := by
  obtain ⟨Y, M, n, m⟩ := w
  have hn : n = 55 := hn
  subst hn
  have h : Y.1 50 = 22 := h
  have t1 : (vi_ynew Y 55 28 3).1 55 = 28 := yn1
  have t2 : (vi_ynew Y 55 28 3).1 50 = 22 := by rw [yn1o (by decide)]; exact h
  have t3 : (3 : Int).toNat = 3 := rfl
  have k1 := fun {K : Option vi_V → vi_W → Prop} => @k_148 (d + 10) K (vi_ynew Y 55 28 3) (vi_rs M 55 fun _ => 0) (55 + 1) (m + 3) 55 (by decide) t1 (by decide) 8 (by decide)
  have t5 : ((8 : Nat) : Int) = 8 := rfl
  simp only [Nat.add_assoc, Nat.reduceAdd, Nat.reduceMul, t5] at k1
  have t4 : (vi_yfin (vi_ynew (vi_yfin (vi_ynew Y 55 28 3) 55 0 (8 : Int)) 56 1 48) 55 1 ((56 : Nat) : Int)).1 50 = 22 := by rw [yf1, yn1o (by decide), yf1]; exact t2
  simp (disch := omega) only [Option.toList_some, Option.toList_none, List.nil_append, List.cons_append, List.append_nil, true_and, and_true, not_true_eq_false, not_false_eq_true, true_implies, false_implies, implies_true, and_self, Int.reduceLT, Int.reduceLE, Int.reduceEq, Int.reduceNe, Int.reduceAdd, Int.reduceSub, Int.reduceMul, Int.reduceNeg, Int.reduceToNat, Int.toNat_natCast, ↓kk_ck, ↓kk_im, ↓kk_in, s_39_30, s_39_34, s_39_40, h, ne_eq, vi_ms_rs, t1, t2, t3, k1, t4]
  exact hq
def l_39_50_3 : List (Nat × Nat × Nat × Int × (Nat → Int)) := [(0, 57, 1, 108, fun _ => 0), (1, 50, 3, 57, fun _ => 0)]
theorem c_39_50_3 {w : vi_W} (hn : w.2.2.1 = 57) (h : w.1.1 50 = 22) (hq : vi_ok GG (d + 12) 39 51 [some (.inr (.inr 50))] [] (ywO w l_39_50_3) Q) : vi_ok GG (d + 12) 39 43 [some (.inr (.inr 50))] [] w Q := by
  obtain ⟨Y, M, n, m⟩ := w
  have hn : n = 57 := hn
  subst hn
  have h : Y.1 50 = 22 := h
  have t1 : (vi_ynew Y 57 1 108).1 57 = 1 := yn1
  have t2 : (vi_ynew Y 57 1 108).1 50 = 22 := by rw [yn1o (by decide)]; exact h
  have t3 : (108 : Int).toNat = 108 := rfl
  simp (disch := omega) only [Option.toList_some, Option.toList_none, List.nil_append, List.cons_append, List.append_nil, true_and, and_true, not_true_eq_false, not_false_eq_true, true_implies, false_implies, implies_true, and_self, Int.reduceLT, Int.reduceLE, Int.reduceEq, Int.reduceNe, Int.reduceAdd, Int.reduceSub, Int.reduceMul, Int.reduceNeg, Int.reduceToNat, Int.toNat_natCast, ↓kk_ck, ↓kk_im, ↓kk_in, s_39_43, s_39_48, h, ne_eq, vi_ms_rs, t1, t2, t3]
  exact hq
def l_39_50_4 : List (Nat × Nat × Nat × Int × (Nat → Int)) := [(0, 58, 1, 12, fun _ => 0), (1, 50, 4, 58, fun _ => 0)]
theorem c_39_50_4 {w : vi_W} (hn : w.2.2.1 = 58) (h : w.1.1 50 = 22) (hq : vi_ok GG (d + 12) 39 59 [some (.inr (.inr 50))] [] (ywO w l_39_50_4) Q) : vi_ok GG (d + 12) 39 51 [some (.inr (.inr 50))] [] w Q := by
  obtain ⟨Y, M, n, m⟩ := w
  have hn : n = 58 := hn
  subst hn
  have h : Y.1 50 = 22 := h
  have t1 : (vi_ynew Y 58 1 12).1 58 = 1 := yn1
  have t2 : (vi_ynew Y 58 1 12).1 50 = 22 := by rw [yn1o (by decide)]; exact h
  have t3 : (12 : Int).toNat = 12 := rfl
  simp (disch := omega) only [Option.toList_some, Option.toList_none, List.nil_append, List.cons_append, List.append_nil, true_and, and_true, not_true_eq_false, not_false_eq_true, true_implies, false_implies, implies_true, and_self, Int.reduceLT, Int.reduceLE, Int.reduceEq, Int.reduceNe, Int.reduceAdd, Int.reduceSub, Int.reduceMul, Int.reduceNeg, Int.reduceToNat, Int.toNat_natCast, ↓kk_ck, ↓kk_im, ↓kk_in, s_39_51, s_39_56, h, ne_eq, vi_ms_rs, t1, t2, t3]
  exact hq
def l_39_50_5 : List (Nat × Nat × Nat × Int × (Nat → Int)) := [(0, 59, 7, 6, fun _ => 0), (1, 50, 5, 59, fun _ => 0)]
theorem c_39_50_5 {w : vi_W} (hn : w.2.2.1 = 59) (h : w.1.1 50 = 22) (hq : vi_ok GG (d + 12) 39 68 [some (.inr (.inr 50))] [] (ywO w l_39_50_5) Q) : vi_ok GG (d + 12) 39 59 [some (.inr (.inr 50))] [] w Q := by
  obtain ⟨Y, M, n, m⟩ := w
  have hn : n = 59 := hn
  subst hn
  have h : Y.1 50 = 22 := h
  have t1 : (vi_ynew Y 59 7 6).1 59 = 7 := yn1
  have t2 : (vi_ynew Y 59 7 6).1 50 = 22 := by rw [yn1o (by decide)]; exact h
  have t3 : (6 : Int).toNat = 6 := rfl
  simp (disch := omega) only [Option.toList_some, Option.toList_none, List.nil_append, List.cons_append, List.append_nil, true_and, and_true, not_true_eq_false, not_false_eq_true, true_implies, false_implies, implies_true, and_self, Int.reduceLT, Int.reduceLE, Int.reduceEq, Int.reduceNe, Int.reduceAdd, Int.reduceSub, Int.reduceMul, Int.reduceNeg, Int.reduceToNat, Int.toNat_natCast, ↓kk_ck, ↓kk_im, ↓kk_in, s_39_59, s_39_65, h, ne_eq, vi_ms_rs, t1, t2, t3]
  exact hq
def l_39_50_6 : List (Nat × Nat × Nat × Int × (Nat → Int)) := [(2, 50, 7, -1, fun _ => 0)]
theorem c_39_50_6 {w : vi_W} (hn : w.2.2.1 = 60) (h : w.1.1 50 = 22) (hq : vi_ok GG (d + 12) 39 73 [some (.inr (.inr 50))] [] (ywO w l_39_50_6) Q) : vi_ok GG (d + 12) 39 68 [some (.inr (.inr 50))] [] w Q := by
  obtain ⟨Y, M, n, m⟩ := w
  have hn : n = 60 := hn
  subst hn
  have h : Y.1 50 = 22 := h
  simp (disch := omega) only [Option.toList_some, Option.toList_none, List.nil_append, List.cons_append, List.append_nil, true_and, and_true, not_true_eq_false, not_false_eq_true, true_implies, false_implies, implies_true, and_self, Int.reduceLT, Int.reduceLE, Int.reduceEq, Int.reduceNe, Int.reduceAdd, Int.reduceSub, Int.reduceMul, Int.reduceNeg, Int.reduceToNat, Int.toNat_natCast, ↓kk_ck, ↓kk_im, ↓kk_in, s_39_68, h, ne_eq, vi_ms_rs]
  exact hq
def l_39_50_7 : List (Nat × Nat × Nat × Int × (Nat → Int)) := [(2, 50, 8, 5, fun _ => 0)]
theorem c_39_50_7 {w : vi_W} (hn : w.2.2.1 = 60) (h : w.1.1 50 = 22) (hq : vi_ok GG (d + 12) 39 78 [some (.inr (.inr 50))] [] (ywO w l_39_50_7) Q) : vi_ok GG (d + 12) 39 73 [some (.inr (.inr 50))] [] w Q := by
  obtain ⟨Y, M, n, m⟩ := w
  have hn : n = 60 := hn
  subst hn
  have h : Y.1 50 = 22 := h
  simp (disch := omega) only [Option.toList_some, Option.toList_none, List.nil_append, List.cons_append, List.append_nil, true_and, and_true, not_true_eq_false, not_false_eq_true, true_implies, false_implies, implies_true, and_self, Int.reduceLT, Int.reduceLE, Int.reduceEq, Int.reduceNe, Int.reduceAdd, Int.reduceSub, Int.reduceMul, Int.reduceNeg, Int.reduceToNat, Int.toNat_natCast, ↓kk_ck, ↓kk_im, ↓kk_in, s_39_73, h, ne_eq, vi_ms_rs]
  exact hq
def l_39_50_8 : List (Nat × Nat × Nat × Int × (Nat → Int)) := [(2, 50, 9, 5, fun _ => 0)]
theorem c_39_50_8 {w : vi_W} (hn : w.2.2.1 = 60) (h : w.1.1 50 = 22) (hq : vi_ok GG (d + 12) 39 83 [some (.inr (.inr 50))] [] (ywO w l_39_50_8) Q) : vi_ok GG (d + 12) 39 78 [some (.inr (.inr 50))] [] w Q := by
  obtain ⟨Y, M, n, m⟩ := w
  have hn : n = 60 := hn
  subst hn
  have h : Y.1 50 = 22 := h
  simp (disch := omega) only [Option.toList_some, Option.toList_none, List.nil_append, List.cons_append, List.append_nil, true_and, and_true, not_true_eq_false, not_false_eq_true, true_implies, false_implies, implies_true, and_self, Int.reduceLT, Int.reduceLE, Int.reduceEq, Int.reduceNe, Int.reduceAdd, Int.reduceSub, Int.reduceMul, Int.reduceNeg, Int.reduceToNat, Int.toNat_natCast, ↓kk_ck, ↓kk_im, ↓kk_in, s_39_78, h, ne_eq, vi_ms_rs]
  exact hq
def l_39_50_9 : List (Nat × Nat × Nat × Int × (Nat → Int)) := [(2, 50, 10, 5, fun _ => 0)]
theorem c_39_50_9 {w : vi_W} (hn : w.2.2.1 = 60) (h : w.1.1 50 = 22) (hq : vi_ok GG (d + 12) 39 88 [some (.inr (.inr 50))] [] (ywO w l_39_50_9) Q) : vi_ok GG (d + 12) 39 83 [some (.inr (.inr 50))] [] w Q := by
  obtain ⟨Y, M, n, m⟩ := w
  have hn : n = 60 := hn
  subst hn
  have h : Y.1 50 = 22 := h
  simp (disch := omega) only [Option.toList_some, Option.toList_none, List.nil_append, List.cons_append, List.append_nil, true_and, and_true, not_true_eq_false, not_false_eq_true, true_implies, false_implies, implies_true, and_self, Int.reduceLT, Int.reduceLE, Int.reduceEq, Int.reduceNe, Int.reduceAdd, Int.reduceSub, Int.reduceMul, Int.reduceNeg, Int.reduceToNat, Int.toNat_natCast, ↓kk_ck, ↓kk_im, ↓kk_in, s_39_83, h, ne_eq, vi_ms_rs]
  exact hq
def l_39_50 : List (Nat × Nat × Nat × Int × (Nat → Int)) := l_39_50_0 ++ (l_39_50_1 ++ (l_39_50_2 ++ (l_39_50_3 ++ (l_39_50_4 ++ (l_39_50_5 ++ (l_39_50_6 ++ (l_39_50_7 ++ (l_39_50_8 ++ (l_39_50_9)))))))))
theorem k_39_50 {w : vi_W} (hn : w.2.2.1 = 51) (h : w.1.1 50 = 22) : vi_call GG (d + 13) 39 [.inr (.inr 50)] w K ↔ K none (ywO w l_39_50) := by
  refine vi_k (r := none) fun Q hQ => ?_
  have e0 : vi_ok GG (d + 12) 39 4 [some (.inr (.inr 50))] [] w Q → vi_ok GG (d + 12) 39 0 [some (.inr (.inr 50))] [] w Q := by
    obtain ⟨Y, M, n, m⟩ := w
    have h : Y.1 50 = 22 := h
    intro hq
    simp (disch := omega) only [Option.toList_some, Option.toList_none, List.nil_append, List.cons_append, List.append_nil, true_and, and_true, not_true_eq_false, not_false_eq_true, true_implies, false_implies, implies_true, and_self, Int.reduceLT, Int.reduceLE, Int.reduceEq, Int.reduceNe, Int.reduceAdd, Int.reduceSub, Int.reduceMul, Int.reduceNeg, Int.reduceToNat, Int.toNat_natCast, ↓kk_ck, ↓kk_im, ↓kk_in, s_39_0, h, ne_eq]
    exact hq
  rw [e_39]
  refine e0 ?_
  clear e0
  rw [l_39_50] at hQ
  simp only [ywO_a] at hQ
  have n0 : w.2.2.1 = 51 := hn
  have h0 : w.1.1 50 = 22 := h
  refine c_39_50_0 n0 h0 ?_
  obtain ⟨w1, e1⟩ : ∃ v, v = ywO w l_39_50_0 := ⟨_, rfl⟩
  have n1 : w1.2.2.1 = 53 := by rw [e1, ywO_n, n0]; rfl
  have h1 : w1.1.1 50 = 22 := by rw [e1, ywO_T, h0]; rfl
  rw [← e1] at hQ ⊢
  refine c_39_50_1 n1 h1 ?_
  obtain ⟨w2, e2⟩ : ∃ v, v = ywO w1 l_39_50_1 := ⟨_, rfl⟩
  have n2 : w2.2.2.1 = 55 := by rw [e2, ywO_n, n1]; rfl
  have h2 : w2.1.1 50 = 22 := by rw [e2, ywO_T, h1]; rfl
  rw [← e2] at hQ ⊢
  refine c_39_50_2 n2 h2 ?_
  obtain ⟨w3, e3⟩ : ∃ v, v = ywO w2 l_39_50_2 := ⟨_, rfl⟩
  have n3 : w3.2.2.1 = 57 := by rw [e3, ywO_n, n2]; rfl
  have h3 : w3.1.1 50 = 22 := by rw [e3, ywO_T, h2]; rfl
  rw [← e3] at hQ ⊢
  refine c_39_50_3 n3 h3 ?_
  obtain ⟨w4, e4⟩ : ∃ v, v = ywO w3 l_39_50_3 := ⟨_, rfl⟩
  have n4 : w4.2.2.1 = 58 := by rw [e4, ywO_n, n3]; rfl
  have h4 : w4.1.1 50 = 22 := by rw [e4, ywO_T, h3]; rfl
  rw [← e4] at hQ ⊢
  refine c_39_50_4 n4 h4 ?_
  obtain ⟨w5, e5⟩ : ∃ v, v = ywO w4 l_39_50_4 := ⟨_, rfl⟩
  have n5 : w5.2.2.1 = 59 := by rw [e5, ywO_n, n4]; rfl
  have h5 : w5.1.1 50 = 22 := by rw [e5, ywO_T, h4]; rfl
  rw [← e5] at hQ ⊢
  refine c_39_50_5 n5 h5 ?_
  obtain ⟨w6, e6⟩ : ∃ v, v = ywO w5 l_39_50_5 := ⟨_, rfl⟩
  have n6 : w6.2.2.1 = 60 := by rw [e6, ywO_n, n5]; rfl
  have h6 : w6.1.1 50 = 22 := by rw [e6, ywO_T, h5]; rfl
  rw [← e6] at hQ ⊢
  refine c_39_50_6 n6 h6 ?_
  obtain ⟨w7, e7⟩ : ∃ v, v = ywO w6 l_39_50_6 := ⟨_, rfl⟩
  have n7 : w7.2.2.1 = 60 := by rw [e7, ywO_n, n6]; rfl
  have h7 : w7.1.1 50 = 22 := by rw [e7, ywO_T, h6]; rfl
  rw [← e7] at hQ ⊢
  refine c_39_50_7 n7 h7 ?_
  obtain ⟨w8, e8⟩ : ∃ v, v = ywO w7 l_39_50_7 := ⟨_, rfl⟩
  have n8 : w8.2.2.1 = 60 := by rw [e8, ywO_n, n7]; rfl
  have h8 : w8.1.1 50 = 22 := by rw [e8, ywO_T, h7]; rfl
  rw [← e8] at hQ ⊢
  refine c_39_50_8 n8 h8 ?_
  obtain ⟨w9, e9⟩ : ∃ v, v = ywO w8 l_39_50_8 := ⟨_, rfl⟩
  have n9 : w9.2.2.1 = 60 := by rw [e9, ywO_n, n8]; rfl
  have h9 : w9.1.1 50 = 22 := by rw [e9, ywO_T, h8]; rfl
  rw [← e9] at hQ ⊢
  refine c_39_50_9 n9 h9 ?_
  obtain ⟨w10, e10⟩ : ∃ v, v = ywO w9 l_39_50_9 := ⟨_, rfl⟩
  have n10 : w10.2.2.1 = 60 := by rw [e10, ywO_n, n9]; rfl
  have h10 : w10.1.1 50 = 22 := by rw [e10, ywO_T, h9]; rfl
  rw [← e10] at hQ ⊢
  exact s_39_88.mpr hQ
def l_24_60_0 : List (Nat × Nat × Nat × Int × (Nat → Int)) := [(0, 61, 1, 216, fun _ => 0), (1, 60, 1, 61, fun _ => 0)]
theorem c_24_60_0 {w : vi_W} (hn : w.2.2.1 = 61) (h : w.1.1 60 = 21) (hq : vi_ok GG (d + 12) 24 13 [some (.inr (.inr 60)), some (.inr (.inr 30))] [] (ywO w l_24_60_0) Q) : vi_ok GG (d + 12) 24 4 [some (.inr (.inr 60)), some (.inr (.inr 30))] [] w Q := by
  obtain ⟨Y, M, n, m⟩ := w
  have hn : n = 61 := hn
  subst hn
  have h : Y.1 60 = 21 := h
  have t1 : (vi_ynew Y 61 1 216).1 61 = 1 := yn1
  have t2 : (vi_ynew Y 61 1 216).1 60 = 21 := by rw [yn1o (by decide)]; exact h
  have t3 : (216 : Int).toNat = 216 := rfl
  simp (disch := omega) only [Option.toList_some, Option.toList_none, List.nil_append, List.cons_append, List.append_nil, true_and, and_true, not_true_eq_false, not_false_eq_true, true_implies, false_implies, implies_true, and_self, Int.reduceLT, Int.reduceLE, Int.reduceEq, Int.reduceNe, Int.reduceAdd, Int.reduceSub, Int.reduceMul, Int.reduceNeg, Int.reduceToNat, Int.toNat_natCast, ↓kk_ck, ↓kk_im, ↓kk_in, s_24_4, s_24_10, h, ne_eq, vi_ms_rs, t1, t2, t3]
  exact hq
def l_24_60_1 : List (Nat × Nat × Nat × Int × (Nat → Int)) := [(0, 62, 1, 216, fun _ => 0), (1, 60, 2, 62, fun _ => 0)]
theorem c_24_60_1 {w : vi_W} (hn : w.2.2.1 = 62) (h : w.1.1 60 = 21) (hq : vi_ok GG (d + 12) 24 22 [some (.inr (.inr 60)), some (.inr (.inr 30))] [] (ywO w l_24_60_1) Q) : vi_ok GG (d + 12) 24 13 [some (.inr (.inr 60)), some (.inr (.inr 30))] [] w Q := by
  obtain ⟨Y, M, n, m⟩ := w
  have hn : n = 62 := hn
  subst hn
  have h : Y.1 60 = 21 := h
  have t1 : (vi_ynew Y 62 1 216).1 62 = 1 := yn1
  have t2 : (vi_ynew Y 62 1 216).1 60 = 21 := by rw [yn1o (by decide)]; exact h
  have t3 : (216 : Int).toNat = 216 := rfl
  simp (disch := omega) only [Option.toList_some, Option.toList_none, List.nil_append, List.cons_append, List.append_nil, true_and, and_true, not_true_eq_false, not_false_eq_true, true_implies, false_implies, implies_true, and_self, Int.reduceLT, Int.reduceLE, Int.reduceEq, Int.reduceNe, Int.reduceAdd, Int.reduceSub, Int.reduceMul, Int.reduceNeg, Int.reduceToNat, Int.toNat_natCast, ↓kk_ck, ↓kk_im, ↓kk_in, s_24_13, s_24_19, h, ne_eq, vi_ms_rs, t1, t2, t3]
  exact hq
def l_24_60_2 : List (Nat × Nat × Nat × Int × (Nat → Int)) := [(0, 63, 20, 1, fun _ => 0), (0, 64, 2, 6, fun _ => 0), (1, 63, 0, 64, fun _ => 0), (1, 60, 3, 63, fun _ => 0)]
theorem c_24_60_2 {w : vi_W} (hn : w.2.2.1 = 63) (h : w.1.1 60 = 21) (hq : vi_ok GG (d + 12) 24 33 [some (.inr (.inr 60)), some (.inr (.inr 30))] [] (ywO w l_24_60_2) Q) : vi_ok GG (d + 12) 24 22 [some (.inr (.inr 60)), some (.inr (.inr 30))] [] w Q := by
  obtain ⟨Y, M, n, m⟩ := w
  have hn : n = 63 := hn
  subst hn
  have h : Y.1 60 = 21 := h
  have t1 : (vi_ynew Y 63 20 1).1 63 = 20 := yn1
  have t2 : (vi_ynew Y 63 20 1).1 60 = 21 := by rw [yn1o (by decide)]; exact h
  have t3 : (1 : Int).toNat = 1 := rfl
  have k1 := fun {K : Option vi_V → vi_W → Prop} => @k_1 (d + 11) K (vi_ynew Y 63 20 1) (vi_rs M 63 fun _ => 0) (63 + 1) (m + 1) 63 (by decide) t1 (by decide)
  simp only [Nat.add_assoc, Nat.reduceAdd] at k1
  have t4 : (vi_yfin (vi_ynew (vi_ynew Y 63 20 1) 64 2 6) 63 0 ((64 : Nat) : Int)).1 60 = 21 := by rw [yf1, yn1o (by decide)]; exact t2
  simp (disch := omega) only [Option.toList_some, Option.toList_none, List.nil_append, List.cons_append, List.append_nil, true_and, and_true, not_true_eq_false, not_false_eq_true, true_implies, false_implies, implies_true, and_self, Int.reduceLT, Int.reduceLE, Int.reduceEq, Int.reduceNe, Int.reduceAdd, Int.reduceSub, Int.reduceMul, Int.reduceNeg, Int.reduceToNat, Int.toNat_natCast, ↓kk_ck, ↓kk_im, ↓kk_in, s_24_22, s_24_26, s_24_30, h, ne_eq, vi_ms_rs, t1, t2, t3, k1, t4]
  exact hq
def l_24_60_3 : List (Nat × Nat × Nat × Int × (Nat → Int)) := [(0, 65, 20, 1, fun _ => 0), (0, 66, 2, 6, fun _ => 0), (1, 65, 0, 66, fun _ => 0), (1, 60, 4, 65, fun _ => 0)]
theorem c_24_60_3 {w : vi_W} (hn : w.2.2.1 = 65) (h : w.1.1 60 = 21) (hq : vi_ok GG (d + 12) 24 44 [some (.inr (.inr 60)), some (.inr (.inr 30))] [] (ywO w l_24_60_3) Q) : vi_ok GG (d + 12) 24 33 [some (.inr (.inr 60)), some (.inr (.inr 30))] [] w Q := by
  obtain ⟨Y, M, n, m⟩ := w
  have hn : n = 65 := hn
  subst hn
  have h : Y.1 60 = 21 := h
  have t1 : (vi_ynew Y 65 20 1).1 65 = 20 := yn1
  have t2 : (vi_ynew Y 65 20 1).1 60 = 21 := by rw [yn1o (by decide)]; exact h
  have t3 : (1 : Int).toNat = 1 := rfl
  have k1 := fun {K : Option vi_V → vi_W → Prop} => @k_1 (d + 11) K (vi_ynew Y 65 20 1) (vi_rs M 65 fun _ => 0) (65 + 1) (m + 1) 65 (by decide) t1 (by decide)
  simp only [Nat.add_assoc, Nat.reduceAdd] at k1
  have t4 : (vi_yfin (vi_ynew (vi_ynew Y 65 20 1) 66 2 6) 65 0 ((66 : Nat) : Int)).1 60 = 21 := by rw [yf1, yn1o (by decide)]; exact t2
  simp (disch := omega) only [Option.toList_some, Option.toList_none, List.nil_append, List.cons_append, List.append_nil, true_and, and_true, not_true_eq_false, not_false_eq_true, true_implies, false_implies, implies_true, and_self, Int.reduceLT, Int.reduceLE, Int.reduceEq, Int.reduceNe, Int.reduceAdd, Int.reduceSub, Int.reduceMul, Int.reduceNeg, Int.reduceToNat, Int.toNat_natCast, ↓kk_ck, ↓kk_im, ↓kk_in, s_24_33, s_24_37, s_24_41, h, ne_eq, vi_ms_rs, t1, t2, t3, k1, t4]
  exact hq
def l_24_60_4 : List (Nat × Nat × Nat × Int × (Nat → Int)) := [(0, 67, 20, 1, fun _ => 0), (0, 68, 2, 6, fun _ => 0), (1, 67, 0, 68, fun _ => 0), (1, 60, 5, 67, fun _ => 0)]
theorem c_24_60_4 {w : vi_W} (hn : w.2.2.1 = 67) (h : w.1.1 60 = 21) (hq : vi_ok GG (d + 12) 24 55 [some (.inr (.inr 60)), some (.inr (.inr 30))] [] (ywO w l_24_60_4) Q) : vi_ok GG (d + 12) 24 44 [some (.inr (.inr 60)), some (.inr (.inr 30))] [] w Q := by
  obtain ⟨Y, M, n, m⟩ := w
  have hn : n = 67 := hn
  subst hn
  have h : Y.1 60 = 21 := h
  have t1 : (vi_ynew Y 67 20 1).1 67 = 20 := yn1
  have t2 : (vi_ynew Y 67 20 1).1 60 = 21 := by rw [yn1o (by decide)]; exact h
  have t3 : (1 : Int).toNat = 1 := rfl
  have k1 := fun {K : Option vi_V → vi_W → Prop} => @k_1 (d + 11) K (vi_ynew Y 67 20 1) (vi_rs M 67 fun _ => 0) (67 + 1) (m + 1) 67 (by decide) t1 (by decide)
  simp only [Nat.add_assoc, Nat.reduceAdd] at k1
  have t4 : (vi_yfin (vi_ynew (vi_ynew Y 67 20 1) 68 2 6) 67 0 ((68 : Nat) : Int)).1 60 = 21 := by rw [yf1, yn1o (by decide)]; exact t2
  simp (disch := omega) only [Option.toList_some, Option.toList_none, List.nil_append, List.cons_append, List.append_nil, true_and, and_true, not_true_eq_false, not_false_eq_true, true_implies, false_implies, implies_true, and_self, Int.reduceLT, Int.reduceLE, Int.reduceEq, Int.reduceNe, Int.reduceAdd, Int.reduceSub, Int.reduceMul, Int.reduceNeg, Int.reduceToNat, Int.toNat_natCast, ↓kk_ck, ↓kk_im, ↓kk_in, s_24_44, s_24_48, s_24_52, h, ne_eq, vi_ms_rs, t1, t2, t3, k1, t4]
  exact hq
def l_24_60_5 : List (Nat × Nat × Nat × Int × (Nat → Int)) := [(0, 69, 20, 1, fun _ => 0), (0, 70, 2, 6, fun _ => 0), (1, 69, 0, 70, fun _ => 0), (1, 60, 6, 69, fun _ => 0)]
theorem c_24_60_5 {w : vi_W} (hn : w.2.2.1 = 69) (h : w.1.1 60 = 21) (hq : vi_ok GG (d + 12) 24 66 [some (.inr (.inr 60)), some (.inr (.inr 30))] [] (ywO w l_24_60_5) Q) : vi_ok GG (d + 12) 24 55 [some (.inr (.inr 60)), some (.inr (.inr 30))] [] w Q := by
  obtain ⟨Y, M, n, m⟩ := w
  have hn : n = 69 := hn
  subst hn
  have h : Y.1 60 = 21 := h
  have t1 : (vi_ynew Y 69 20 1).1 69 = 20 := yn1
  have t2 : (vi_ynew Y 69 20 1).1 60 = 21 := by rw [yn1o (by decide)]; exact h
  have t3 : (1 : Int).toNat = 1 := rfl
  have k1 := fun {K : Option vi_V → vi_W → Prop} => @k_1 (d + 11) K (vi_ynew Y 69 20 1) (vi_rs M 69 fun _ => 0) (69 + 1) (m + 1) 69 (by decide) t1 (by decide)
  simp only [Nat.add_assoc, Nat.reduceAdd] at k1
  have t4 : (vi_yfin (vi_ynew (vi_ynew Y 69 20 1) 70 2 6) 69 0 ((70 : Nat) : Int)).1 60 = 21 := by rw [yf1, yn1o (by decide)]; exact t2
  simp (disch := omega) only [Option.toList_some, Option.toList_none, List.nil_append, List.cons_append, List.append_nil, true_and, and_true, not_true_eq_false, not_false_eq_true, true_implies, false_implies, implies_true, and_self, Int.reduceLT, Int.reduceLE, Int.reduceEq, Int.reduceNe, Int.reduceAdd, Int.reduceSub, Int.reduceMul, Int.reduceNeg, Int.reduceToNat, Int.toNat_natCast, ↓kk_ck, ↓kk_im, ↓kk_in, s_24_55, s_24_59, s_24_63, h, ne_eq, vi_ms_rs, t1, t2, t3, k1, t4]
  exact hq
def l_24_60_6 : List (Nat × Nat × Nat × Int × (Nat → Int)) := [(0, 71, 20, 1, fun _ => 0), (0, 72, 2, 6, fun _ => 0), (1, 71, 0, 72, fun _ => 0), (1, 60, 7, 71, fun _ => 0)]
theorem c_24_60_6 {w : vi_W} (hn : w.2.2.1 = 71) (h : w.1.1 60 = 21) (hq : vi_ok GG (d + 12) 24 77 [some (.inr (.inr 60)), some (.inr (.inr 30))] [] (ywO w l_24_60_6) Q) : vi_ok GG (d + 12) 24 66 [some (.inr (.inr 60)), some (.inr (.inr 30))] [] w Q := by
  obtain ⟨Y, M, n, m⟩ := w
  have hn : n = 71 := hn
  subst hn
  have h : Y.1 60 = 21 := h
  have t1 : (vi_ynew Y 71 20 1).1 71 = 20 := yn1
  have t2 : (vi_ynew Y 71 20 1).1 60 = 21 := by rw [yn1o (by decide)]; exact h
  have t3 : (1 : Int).toNat = 1 := rfl
  have k1 := fun {K : Option vi_V → vi_W → Prop} => @k_1 (d + 11) K (vi_ynew Y 71 20 1) (vi_rs M 71 fun _ => 0) (71 + 1) (m + 1) 71 (by decide) t1 (by decide)
  simp only [Nat.add_assoc, Nat.reduceAdd] at k1
  have t4 : (vi_yfin (vi_ynew (vi_ynew Y 71 20 1) 72 2 6) 71 0 ((72 : Nat) : Int)).1 60 = 21 := by rw [yf1, yn1o (by decide)]; exact t2
  simp (disch := omega) only [Option.toList_some, Option.toList_none, List.nil_append, List.cons_append, List.append_nil, true_and, and_true, not_true_eq_false, not_false_eq_true, true_implies, false_implies, implies_true, and_self, Int.reduceLT, Int.reduceLE, Int.reduceEq, Int.reduceNe, Int.reduceAdd, Int.reduceSub, Int.reduceMul, Int.reduceNeg, Int.reduceToNat, Int.toNat_natCast, ↓kk_ck, ↓kk_im, ↓kk_in, s_24_66, s_24_70, s_24_74, h, ne_eq, vi_ms_rs, t1, t2, t3, k1, t4]
  exact hq
def l_24_60_7 : List (Nat × Nat × Nat × Int × (Nat → Int)) := [(1, 60, 0, 30, fun _ => 0)]
theorem c_24_60_7 {w : vi_W} (hn : w.2.2.1 = 73) (h : w.1.1 60 = 21) (hq : vi_ok GG (d + 12) 24 82 [some (.inr (.inr 60)), some (.inr (.inr 30))] [] (ywO w l_24_60_7) Q) : vi_ok GG (d + 12) 24 77 [some (.inr (.inr 60)), some (.inr (.inr 30))] [] w Q := by
  obtain ⟨Y, M, n, m⟩ := w
  have hn : n = 73 := hn
  subst hn
  have h : Y.1 60 = 21 := h
  simp (disch := omega) only [Option.toList_some, Option.toList_none, List.nil_append, List.cons_append, List.append_nil, true_and, and_true, not_true_eq_false, not_false_eq_true, true_implies, false_implies, implies_true, and_self, Int.reduceLT, Int.reduceLE, Int.reduceEq, Int.reduceNe, Int.reduceAdd, Int.reduceSub, Int.reduceMul, Int.reduceNeg, Int.reduceToNat, Int.toNat_natCast, ↓kk_ck, ↓kk_im, ↓kk_in, s_24_77, h, ne_eq, vi_ms_rs]
  exact hq
def l_24_60 : List (Nat × Nat × Nat × Int × (Nat → Int)) := l_24_60_0 ++ (l_24_60_1 ++ (l_24_60_2 ++ (l_24_60_3 ++ (l_24_60_4 ++ (l_24_60_5 ++ (l_24_60_6 ++ (l_24_60_7)))))))
theorem n_24_60 {w : vi_W} (hn : w.2.2.1 = 61) (h : w.1.1 60 = 21) (hQ : vi_ok GG (d + 12) 24 82 [some (.inr (.inr 60)), some (.inr (.inr 30))] [] (ywO w l_24_60) Q) : vi_ok GG (d + 12) 24 4 [some (.inr (.inr 60)), some (.inr (.inr 30))] [] w Q := by
  rw [l_24_60] at hQ
  simp only [ywO_a] at hQ
  have n0 : w.2.2.1 = 61 := hn
  have h0 : w.1.1 60 = 21 := h
  refine c_24_60_0 n0 h0 ?_
  obtain ⟨w1, e1⟩ : ∃ v, v = ywO w l_24_60_0 := ⟨_, rfl⟩
  have n1 : w1.2.2.1 = 62 := by rw [e1, ywO_n, n0]; rfl
  have h1 : w1.1.1 60 = 21 := by rw [e1, ywO_T, h0]; rfl
  rw [← e1] at hQ ⊢
  refine c_24_60_1 n1 h1 ?_
  obtain ⟨w2, e2⟩ : ∃ v, v = ywO w1 l_24_60_1 := ⟨_, rfl⟩
  have n2 : w2.2.2.1 = 63 := by rw [e2, ywO_n, n1]; rfl
  have h2 : w2.1.1 60 = 21 := by rw [e2, ywO_T, h1]; rfl
  rw [← e2] at hQ ⊢
  refine c_24_60_2 n2 h2 ?_
  obtain ⟨w3, e3⟩ : ∃ v, v = ywO w2 l_24_60_2 := ⟨_, rfl⟩
  have n3 : w3.2.2.1 = 65 := by rw [e3, ywO_n, n2]; rfl
  have h3 : w3.1.1 60 = 21 := by rw [e3, ywO_T, h2]; rfl
  rw [← e3] at hQ ⊢
  refine c_24_60_3 n3 h3 ?_
  obtain ⟨w4, e4⟩ : ∃ v, v = ywO w3 l_24_60_3 := ⟨_, rfl⟩
  have n4 : w4.2.2.1 = 67 := by rw [e4, ywO_n, n3]; rfl
  have h4 : w4.1.1 60 = 21 := by rw [e4, ywO_T, h3]; rfl
  rw [← e4] at hQ ⊢
  refine c_24_60_4 n4 h4 ?_
  obtain ⟨w5, e5⟩ : ∃ v, v = ywO w4 l_24_60_4 := ⟨_, rfl⟩
  have n5 : w5.2.2.1 = 69 := by rw [e5, ywO_n, n4]; rfl
  have h5 : w5.1.1 60 = 21 := by rw [e5, ywO_T, h4]; rfl
  rw [← e5] at hQ ⊢
  refine c_24_60_5 n5 h5 ?_
  obtain ⟨w6, e6⟩ : ∃ v, v = ywO w5 l_24_60_5 := ⟨_, rfl⟩
  have n6 : w6.2.2.1 = 71 := by rw [e6, ywO_n, n5]; rfl
  have h6 : w6.1.1 60 = 21 := by rw [e6, ywO_T, h5]; rfl
  rw [← e6] at hQ ⊢
  refine c_24_60_6 n6 h6 ?_
  obtain ⟨w7, e7⟩ : ∃ v, v = ywO w6 l_24_60_6 := ⟨_, rfl⟩
  have n7 : w7.2.2.1 = 73 := by rw [e7, ywO_n, n6]; rfl
  have h7 : w7.1.1 60 = 21 := by rw [e7, ywO_T, h6]; rfl
  rw [← e7] at hQ ⊢
  refine c_24_60_7 n7 h7 ?_
  obtain ⟨w8, e8⟩ : ∃ v, v = ywO w7 l_24_60_7 := ⟨_, rfl⟩
  have n8 : w8.2.2.1 = 73 := by rw [e8, ywO_n, n7]; rfl
  have h8 : w8.1.1 60 = 21 := by rw [e8, ywO_T, h7]; rfl
  rw [← e8] at hQ ⊢
  exact hQ
def l_119_73_0 : List (Nat × Nat × Nat × Int × (Nat → Int)) := [(0, 74, 3, 400, fun _ => 0), (1, 73, 0, 74, fun _ => 0)]
theorem c_119_73_0 {w : vi_W} (hn : w.2.2.1 = 74) (h : w.1.1 73 = 27) (hq : vi_ok GG (d + 12) 119 13 [some (.inr (.inr 73))] [] (ywO w l_119_73_0) Q) : vi_ok GG (d + 12) 119 4 [some (.inr (.inr 73))] [] w Q := by
  obtain ⟨Y, M, n, m⟩ := w
  have hn : n = 74 := hn
  subst hn
  have h : Y.1 73 = 27 := h
  have t1 : (vi_ynew Y 74 3 400).1 74 = 3 := yn1
  have t2 : (vi_ynew Y 74 3 400).1 73 = 27 := by rw [yn1o (by decide)]; exact h
  have t3 : (400 : Int).toNat = 400 := rfl
  simp (disch := omega) only [Option.toList_some, Option.toList_none, List.nil_append, List.cons_append, List.append_nil, true_and, and_true, not_true_eq_false, not_false_eq_true, true_implies, false_implies, implies_true, and_self, Int.reduceLT, Int.reduceLE, Int.reduceEq, Int.reduceNe, Int.reduceAdd, Int.reduceSub, Int.reduceMul, Int.reduceNeg, Int.reduceToNat, Int.toNat_natCast, ↓kk_ck, ↓kk_im, ↓kk_in, s_119_4, s_119_10, h, ne_eq, vi_ms_rs, t1, t2, t3]
  exact hq
def l_119_73_1 : List (Nat × Nat × Nat × Int × (Nat → Int)) := [(0, 75, 1, 400, fun _ => 0), (1, 73, 1, 75, fun _ => 0)]
theorem c_119_73_1 {w : vi_W} (hn : w.2.2.1 = 75) (h : w.1.1 73 = 27) (hq : vi_ok GG (d + 12) 119 22 [some (.inr (.inr 73))] [] (ywO w l_119_73_1) Q) : vi_ok GG (d + 12) 119 13 [some (.inr (.inr 73))] [] w Q := by
  obtain ⟨Y, M, n, m⟩ := w
  have hn : n = 75 := hn
  subst hn
  have h : Y.1 73 = 27 := h
  have t1 : (vi_ynew Y 75 1 400).1 75 = 1 := yn1
  have t2 : (vi_ynew Y 75 1 400).1 73 = 27 := by rw [yn1o (by decide)]; exact h
  have t3 : (400 : Int).toNat = 400 := rfl
  simp (disch := omega) only [Option.toList_some, Option.toList_none, List.nil_append, List.cons_append, List.append_nil, true_and, and_true, not_true_eq_false, not_false_eq_true, true_implies, false_implies, implies_true, and_self, Int.reduceLT, Int.reduceLE, Int.reduceEq, Int.reduceNe, Int.reduceAdd, Int.reduceSub, Int.reduceMul, Int.reduceNeg, Int.reduceToNat, Int.toNat_natCast, ↓kk_ck, ↓kk_im, ↓kk_in, s_119_13, s_119_19, h, ne_eq, vi_ms_rs, t1, t2, t3]
  exact hq
def l_119_73_2 : List (Nat × Nat × Nat × Int × (Nat → Int)) := [(0, 76, 1, 48, fun _ => 0), (1, 73, 2, 76, fun _ => 0)]
theorem c_119_73_2 {w : vi_W} (hn : w.2.2.1 = 76) (h : w.1.1 73 = 27) (hq : vi_ok GG (d + 12) 119 30 [some (.inr (.inr 73))] [] (ywO w l_119_73_2) Q) : vi_ok GG (d + 12) 119 22 [some (.inr (.inr 73))] [] w Q := by
  obtain ⟨Y, M, n, m⟩ := w
  have hn : n = 76 := hn
  subst hn
  have h : Y.1 73 = 27 := h
  have t1 : (vi_ynew Y 76 1 48).1 76 = 1 := yn1
  have t2 : (vi_ynew Y 76 1 48).1 73 = 27 := by rw [yn1o (by decide)]; exact h
  have t3 : (48 : Int).toNat = 48 := rfl
  simp (disch := omega) only [Option.toList_some, Option.toList_none, List.nil_append, List.cons_append, List.append_nil, true_and, and_true, not_true_eq_false, not_false_eq_true, true_implies, false_implies, implies_true, and_self, Int.reduceLT, Int.reduceLE, Int.reduceEq, Int.reduceNe, Int.reduceAdd, Int.reduceSub, Int.reduceMul, Int.reduceNeg, Int.reduceToNat, Int.toNat_natCast, ↓kk_ck, ↓kk_im, ↓kk_in, s_119_22, s_119_27, h, ne_eq, vi_ms_rs, t1, t2, t3]
  exact hq
def l_119_73_3 : List (Nat × Nat × Nat × Int × (Nat → Int)) := [(2, 73, 7, -1, fun _ => 0)]
theorem c_119_73_3 {w : vi_W} (hn : w.2.2.1 = 77) (h : w.1.1 73 = 27) (hq : vi_ok GG (d + 12) 119 35 [some (.inr (.inr 73))] [] (ywO w l_119_73_3) Q) : vi_ok GG (d + 12) 119 30 [some (.inr (.inr 73))] [] w Q := by
  obtain ⟨Y, M, n, m⟩ := w
  have hn : n = 77 := hn
  subst hn
  have h : Y.1 73 = 27 := h
  simp (disch := omega) only [Option.toList_some, Option.toList_none, List.nil_append, List.cons_append, List.append_nil, true_and, and_true, not_true_eq_false, not_false_eq_true, true_implies, false_implies, implies_true, and_self, Int.reduceLT, Int.reduceLE, Int.reduceEq, Int.reduceNe, Int.reduceAdd, Int.reduceSub, Int.reduceMul, Int.reduceNeg, Int.reduceToNat, Int.toNat_natCast, ↓kk_ck, ↓kk_im, ↓kk_in, s_119_30, h, ne_eq, vi_ms_rs]
  exact hq
def l_119_73 : List (Nat × Nat × Nat × Int × (Nat → Int)) := l_119_73_0 ++ (l_119_73_1 ++ (l_119_73_2 ++ (l_119_73_3)))
theorem k_119_73 {w : vi_W} (hn : w.2.2.1 = 74) (h : w.1.1 73 = 27) : vi_call GG (d + 13) 119 [.inr (.inr 73)] w K ↔ K none (ywO w l_119_73) := by
  refine vi_k (r := none) fun Q hQ => ?_
  have e0 : vi_ok GG (d + 12) 119 4 [some (.inr (.inr 73))] [] w Q → vi_ok GG (d + 12) 119 0 [some (.inr (.inr 73))] [] w Q := by
    obtain ⟨Y, M, n, m⟩ := w
    have h : Y.1 73 = 27 := h
    intro hq
    simp (disch := omega) only [Option.toList_some, Option.toList_none, List.nil_append, List.cons_append, List.append_nil, true_and, and_true, not_true_eq_false, not_false_eq_true, true_implies, false_implies, implies_true, and_self, Int.reduceLT, Int.reduceLE, Int.reduceEq, Int.reduceNe, Int.reduceAdd, Int.reduceSub, Int.reduceMul, Int.reduceNeg, Int.reduceToNat, Int.toNat_natCast, ↓kk_ck, ↓kk_im, ↓kk_in, s_119_0, h, ne_eq]
    exact hq
  rw [e_119]
  refine e0 ?_
  clear e0
  rw [l_119_73] at hQ
  simp only [ywO_a] at hQ
  have n0 : w.2.2.1 = 74 := hn
  have h0 : w.1.1 73 = 27 := h
  refine c_119_73_0 n0 h0 ?_
  obtain ⟨w1, e1⟩ : ∃ v, v = ywO w l_119_73_0 := ⟨_, rfl⟩
  have n1 : w1.2.2.1 = 75 := by rw [e1, ywO_n, n0]; rfl
  have h1 : w1.1.1 73 = 27 := by rw [e1, ywO_T, h0]; rfl
  rw [← e1] at hQ ⊢
  refine c_119_73_1 n1 h1 ?_
  obtain ⟨w2, e2⟩ : ∃ v, v = ywO w1 l_119_73_1 := ⟨_, rfl⟩
  have n2 : w2.2.2.1 = 76 := by rw [e2, ywO_n, n1]; rfl
  have h2 : w2.1.1 73 = 27 := by rw [e2, ywO_T, h1]; rfl
  rw [← e2] at hQ ⊢
  refine c_119_73_2 n2 h2 ?_
  obtain ⟨w3, e3⟩ : ∃ v, v = ywO w2 l_119_73_2 := ⟨_, rfl⟩
  have n3 : w3.2.2.1 = 77 := by rw [e3, ywO_n, n2]; rfl
  have h3 : w3.1.1 73 = 27 := by rw [e3, ywO_T, h2]; rfl
  rw [← e3] at hQ ⊢
  refine c_119_73_3 n3 h3 ?_
  obtain ⟨w4, e4⟩ : ∃ v, v = ywO w3 l_119_73_3 := ⟨_, rfl⟩
  have n4 : w4.2.2.1 = 77 := by rw [e4, ywO_n, n3]; rfl
  have h4 : w4.1.1 73 = 27 := by rw [e4, ywO_T, h3]; rfl
  rw [← e4] at hQ ⊢
  exact s_119_35.mpr hQ
def l_80_77_0 : List (Nat × Nat × Nat × Int × (Nat → Int)) := [(0, 78, 1, 108, fun _ => 0), (1, 77, 2, 78, fun _ => 0)]
theorem c_80_77_0 {w : vi_W} (hn : w.2.2.1 = 78) (h : w.1.1 77 = 24) (hq : vi_ok GG (d + 12) 80 12 [some (.inr (.inr 77)), some (.inr (.inr 30)), some (.inr (.inr 60))] [] (ywO w l_80_77_0) Q) : vi_ok GG (d + 12) 80 4 [some (.inr (.inr 77)), some (.inr (.inr 30)), some (.inr (.inr 60))] [] w Q := by
  obtain ⟨Y, M, n, m⟩ := w
  have hn : n = 78 := hn
  subst hn
  have h : Y.1 77 = 24 := h
  have t1 : (vi_ynew Y 78 1 108).1 78 = 1 := yn1
  have t2 : (vi_ynew Y 78 1 108).1 77 = 24 := by rw [yn1o (by decide)]; exact h
  have t3 : (108 : Int).toNat = 108 := rfl
  simp (disch := omega) only [Option.toList_some, Option.toList_none, List.nil_append, List.cons_append, List.append_nil, true_and, and_true, not_true_eq_false, not_false_eq_true, true_implies, false_implies, implies_true, and_self, Int.reduceLT, Int.reduceLE, Int.reduceEq, Int.reduceNe, Int.reduceAdd, Int.reduceSub, Int.reduceMul, Int.reduceNeg, Int.reduceToNat, Int.toNat_natCast, ↓kk_ck, ↓kk_im, ↓kk_in, s_80_4, s_80_9, h, ne_eq, vi_ms_rs, t1, t2, t3]
  exact hq
def l_80_77_1 : List (Nat × Nat × Nat × Int × (Nat → Int)) := [(0, 79, 1, 60, fun _ => 0), (1, 77, 3, 79, fun _ => 0)]
theorem c_80_77_1 {w : vi_W} (hn : w.2.2.1 = 79) (h : w.1.1 77 = 24) (hq : vi_ok GG (d + 12) 80 20 [some (.inr (.inr 77)), some (.inr (.inr 30)), some (.inr (.inr 60))] [] (ywO w l_80_77_1) Q) : vi_ok GG (d + 12) 80 12 [some (.inr (.inr 77)), some (.inr (.inr 30)), some (.inr (.inr 60))] [] w Q := by
  obtain ⟨Y, M, n, m⟩ := w
  have hn : n = 79 := hn
  subst hn
  have h : Y.1 77 = 24 := h
  have t1 : (vi_ynew Y 79 1 60).1 79 = 1 := yn1
  have t2 : (vi_ynew Y 79 1 60).1 77 = 24 := by rw [yn1o (by decide)]; exact h
  have t3 : (60 : Int).toNat = 60 := rfl
  simp (disch := omega) only [Option.toList_some, Option.toList_none, List.nil_append, List.cons_append, List.append_nil, true_and, and_true, not_true_eq_false, not_false_eq_true, true_implies, false_implies, implies_true, and_self, Int.reduceLT, Int.reduceLE, Int.reduceEq, Int.reduceNe, Int.reduceAdd, Int.reduceSub, Int.reduceMul, Int.reduceNeg, Int.reduceToNat, Int.toNat_natCast, ↓kk_ck, ↓kk_im, ↓kk_in, s_80_12, s_80_17, h, ne_eq, vi_ms_rs, t1, t2, t3]
  exact hq
def l_80_77_2 : List (Nat × Nat × Nat × Int × (Nat → Int)) := [(0, 80, 20, 1, fun _ => 0), (0, 81, 2, 6, fun _ => 0), (1, 80, 0, 81, fun _ => 0), (1, 77, 4, 80, fun _ => 0)]
theorem c_80_77_2 {w : vi_W} (hn : w.2.2.1 = 80) (h : w.1.1 77 = 24) (hq : vi_ok GG (d + 12) 80 31 [some (.inr (.inr 77)), some (.inr (.inr 30)), some (.inr (.inr 60))] [] (ywO w l_80_77_2) Q) : vi_ok GG (d + 12) 80 20 [some (.inr (.inr 77)), some (.inr (.inr 30)), some (.inr (.inr 60))] [] w Q := by
  obtain ⟨Y, M, n, m⟩ := w
  have hn : n = 80 := hn
  subst hn
  have h : Y.1 77 = 24 := h
  have t1 : (vi_ynew Y 80 20 1).1 80 = 20 := yn1
  have t2 : (vi_ynew Y 80 20 1).1 77 = 24 := by rw [yn1o (by decide)]; exact h
  have t3 : (1 : Int).toNat = 1 := rfl
  have k1 := fun {K : Option vi_V → vi_W → Prop} => @k_1 (d + 11) K (vi_ynew Y 80 20 1) (vi_rs M 80 fun _ => 0) (80 + 1) (m + 1) 80 (by decide) t1 (by decide)
  simp only [Nat.add_assoc, Nat.reduceAdd] at k1
  have t4 : (vi_yfin (vi_ynew (vi_ynew Y 80 20 1) 81 2 6) 80 0 ((81 : Nat) : Int)).1 77 = 24 := by rw [yf1, yn1o (by decide)]; exact t2
  simp (disch := omega) only [Option.toList_some, Option.toList_none, List.nil_append, List.cons_append, List.append_nil, true_and, and_true, not_true_eq_false, not_false_eq_true, true_implies, false_implies, implies_true, and_self, Int.reduceLT, Int.reduceLE, Int.reduceEq, Int.reduceNe, Int.reduceAdd, Int.reduceSub, Int.reduceMul, Int.reduceNeg, Int.reduceToNat, Int.toNat_natCast, ↓kk_ck, ↓kk_im, ↓kk_in, s_80_20, s_80_24, s_80_28, h, ne_eq, vi_ms_rs, t1, t2, t3, k1, t4]
  exact hq
def l_80_77_3 : List (Nat × Nat × Nat × Int × (Nat → Int)) := [(0, 82, 20, 1, fun _ => 0), (0, 83, 2, 6, fun _ => 0), (1, 82, 0, 83, fun _ => 0), (1, 77, 5, 82, fun _ => 0)]
theorem c_80_77_3 {w : vi_W} (hn : w.2.2.1 = 82) (h : w.1.1 77 = 24) (hq : vi_ok GG (d + 12) 80 42 [some (.inr (.inr 77)), some (.inr (.inr 30)), some (.inr (.inr 60))] [] (ywO w l_80_77_3) Q) : vi_ok GG (d + 12) 80 31 [some (.inr (.inr 77)), some (.inr (.inr 30)), some (.inr (.inr 60))] [] w Q := by
  obtain ⟨Y, M, n, m⟩ := w
  have hn : n = 82 := hn
  subst hn
  have h : Y.1 77 = 24 := h
  have t1 : (vi_ynew Y 82 20 1).1 82 = 20 := yn1
  have t2 : (vi_ynew Y 82 20 1).1 77 = 24 := by rw [yn1o (by decide)]; exact h
  have t3 : (1 : Int).toNat = 1 := rfl
  have k1 := fun {K : Option vi_V → vi_W → Prop} => @k_1 (d + 11) K (vi_ynew Y 82 20 1) (vi_rs M 82 fun _ => 0) (82 + 1) (m + 1) 82 (by decide) t1 (by decide)
  simp only [Nat.add_assoc, Nat.reduceAdd] at k1
  have t4 : (vi_yfin (vi_ynew (vi_ynew Y 82 20 1) 83 2 6) 82 0 ((83 : Nat) : Int)).1 77 = 24 := by rw [yf1, yn1o (by decide)]; exact t2
  simp (disch := omega) only [Option.toList_some, Option.toList_none, List.nil_append, List.cons_append, List.append_nil, true_and, and_true, not_true_eq_false, not_false_eq_true, true_implies, false_implies, implies_true, and_self, Int.reduceLT, Int.reduceLE, Int.reduceEq, Int.reduceNe, Int.reduceAdd, Int.reduceSub, Int.reduceMul, Int.reduceNeg, Int.reduceToNat, Int.toNat_natCast, ↓kk_ck, ↓kk_im, ↓kk_in, s_80_31, s_80_35, s_80_39, h, ne_eq, vi_ms_rs, t1, t2, t3, k1, t4]
  exact hq
def l_80_77_4 : List (Nat × Nat × Nat × Int × (Nat → Int)) := [(0, 84, 20, 1, fun _ => 0), (0, 85, 2, 6, fun _ => 0), (1, 84, 0, 85, fun _ => 0), (1, 77, 6, 84, fun _ => 0)]
theorem c_80_77_4 {w : vi_W} (hn : w.2.2.1 = 84) (h : w.1.1 77 = 24) (hq : vi_ok GG (d + 12) 80 53 [some (.inr (.inr 77)), some (.inr (.inr 30)), some (.inr (.inr 60))] [] (ywO w l_80_77_4) Q) : vi_ok GG (d + 12) 80 42 [some (.inr (.inr 77)), some (.inr (.inr 30)), some (.inr (.inr 60))] [] w Q := by
  obtain ⟨Y, M, n, m⟩ := w
  have hn : n = 84 := hn
  subst hn
  have h : Y.1 77 = 24 := h
  have t1 : (vi_ynew Y 84 20 1).1 84 = 20 := yn1
  have t2 : (vi_ynew Y 84 20 1).1 77 = 24 := by rw [yn1o (by decide)]; exact h
  have t3 : (1 : Int).toNat = 1 := rfl
  have k1 := fun {K : Option vi_V → vi_W → Prop} => @k_1 (d + 11) K (vi_ynew Y 84 20 1) (vi_rs M 84 fun _ => 0) (84 + 1) (m + 1) 84 (by decide) t1 (by decide)
  simp only [Nat.add_assoc, Nat.reduceAdd] at k1
  have t4 : (vi_yfin (vi_ynew (vi_ynew Y 84 20 1) 85 2 6) 84 0 ((85 : Nat) : Int)).1 77 = 24 := by rw [yf1, yn1o (by decide)]; exact t2
  simp (disch := omega) only [Option.toList_some, Option.toList_none, List.nil_append, List.cons_append, List.append_nil, true_and, and_true, not_true_eq_false, not_false_eq_true, true_implies, false_implies, implies_true, and_self, Int.reduceLT, Int.reduceLE, Int.reduceEq, Int.reduceNe, Int.reduceAdd, Int.reduceSub, Int.reduceMul, Int.reduceNeg, Int.reduceToNat, Int.toNat_natCast, ↓kk_ck, ↓kk_im, ↓kk_in, s_80_42, s_80_46, s_80_50, h, ne_eq, vi_ms_rs, t1, t2, t3, k1, t4]
  exact hq
def l_80_77_5 : List (Nat × Nat × Nat × Int × (Nat → Int)) := [(0, 86, 20, 1, fun _ => 0), (0, 87, 2, 6, fun _ => 0), (1, 86, 0, 87, fun _ => 0), (1, 77, 7, 86, fun _ => 0)]
theorem c_80_77_5 {w : vi_W} (hn : w.2.2.1 = 86) (h : w.1.1 77 = 24) (hq : vi_ok GG (d + 12) 80 64 [some (.inr (.inr 77)), some (.inr (.inr 30)), some (.inr (.inr 60))] [] (ywO w l_80_77_5) Q) : vi_ok GG (d + 12) 80 53 [some (.inr (.inr 77)), some (.inr (.inr 30)), some (.inr (.inr 60))] [] w Q := by
  obtain ⟨Y, M, n, m⟩ := w
  have hn : n = 86 := hn
  subst hn
  have h : Y.1 77 = 24 := h
  have t1 : (vi_ynew Y 86 20 1).1 86 = 20 := yn1
  have t2 : (vi_ynew Y 86 20 1).1 77 = 24 := by rw [yn1o (by decide)]; exact h
  have t3 : (1 : Int).toNat = 1 := rfl
  have k1 := fun {K : Option vi_V → vi_W → Prop} => @k_1 (d + 11) K (vi_ynew Y 86 20 1) (vi_rs M 86 fun _ => 0) (86 + 1) (m + 1) 86 (by decide) t1 (by decide)
  simp only [Nat.add_assoc, Nat.reduceAdd] at k1
  have t4 : (vi_yfin (vi_ynew (vi_ynew Y 86 20 1) 87 2 6) 86 0 ((87 : Nat) : Int)).1 77 = 24 := by rw [yf1, yn1o (by decide)]; exact t2
  simp (disch := omega) only [Option.toList_some, Option.toList_none, List.nil_append, List.cons_append, List.append_nil, true_and, and_true, not_true_eq_false, not_false_eq_true, true_implies, false_implies, implies_true, and_self, Int.reduceLT, Int.reduceLE, Int.reduceEq, Int.reduceNe, Int.reduceAdd, Int.reduceSub, Int.reduceMul, Int.reduceNeg, Int.reduceToNat, Int.toNat_natCast, ↓kk_ck, ↓kk_im, ↓kk_in, s_80_53, s_80_57, s_80_61, h, ne_eq, vi_ms_rs, t1, t2, t3, k1, t4]
  exact hq
def l_80_77_6 : List (Nat × Nat × Nat × Int × (Nat → Int)) := [(1, 77, 0, 30, fun _ => 0)]
theorem c_80_77_6 {w : vi_W} (hn : w.2.2.1 = 88) (h : w.1.1 77 = 24) (hq : vi_ok GG (d + 12) 80 69 [some (.inr (.inr 77)), some (.inr (.inr 30)), some (.inr (.inr 60))] [] (ywO w l_80_77_6) Q) : vi_ok GG (d + 12) 80 64 [some (.inr (.inr 77)), some (.inr (.inr 30)), some (.inr (.inr 60))] [] w Q := by
  obtain ⟨Y, M, n, m⟩ := w
  have hn : n = 88 := hn
  subst hn
  have h : Y.1 77 = 24 := h
  simp (disch := omega) only [Option.toList_some, Option.toList_none, List.nil_append, List.cons_append, List.append_nil, true_and, and_true, not_true_eq_false, not_false_eq_true, true_implies, false_implies, implies_true, and_self, Int.reduceLT, Int.reduceLE, Int.reduceEq, Int.reduceNe, Int.reduceAdd, Int.reduceSub, Int.reduceMul, Int.reduceNeg, Int.reduceToNat, Int.toNat_natCast, ↓kk_ck, ↓kk_im, ↓kk_in, s_80_64, h, ne_eq, vi_ms_rs]
  exact hq
def l_80_77_7 : List (Nat × Nat × Nat × Int × (Nat → Int)) := [(1, 77, 1, 60, fun _ => 0)]
theorem c_80_77_7 {w : vi_W} (hn : w.2.2.1 = 88) (h : w.1.1 77 = 24) (hq : vi_ok GG (d + 12) 80 74 [some (.inr (.inr 77)), some (.inr (.inr 30)), some (.inr (.inr 60))] [] (ywO w l_80_77_7) Q) : vi_ok GG (d + 12) 80 69 [some (.inr (.inr 77)), some (.inr (.inr 30)), some (.inr (.inr 60))] [] w Q := by
  obtain ⟨Y, M, n, m⟩ := w
  have hn : n = 88 := hn
  subst hn
  have h : Y.1 77 = 24 := h
  simp (disch := omega) only [Option.toList_some, Option.toList_none, List.nil_append, List.cons_append, List.append_nil, true_and, and_true, not_true_eq_false, not_false_eq_true, true_implies, false_implies, implies_true, and_self, Int.reduceLT, Int.reduceLE, Int.reduceEq, Int.reduceNe, Int.reduceAdd, Int.reduceSub, Int.reduceMul, Int.reduceNeg, Int.reduceToNat, Int.toNat_natCast, ↓kk_ck, ↓kk_im, ↓kk_in, s_80_69, h, ne_eq, vi_ms_rs]
  exact hq
def l_80_77 : List (Nat × Nat × Nat × Int × (Nat → Int)) := l_80_77_0 ++ (l_80_77_1 ++ (l_80_77_2 ++ (l_80_77_3 ++ (l_80_77_4 ++ (l_80_77_5 ++ (l_80_77_6 ++ (l_80_77_7)))))))
theorem k_80_77 {w : vi_W} (hn : w.2.2.1 = 78) (h : w.1.1 77 = 24) : vi_call GG (d + 13) 80 [.inr (.inr 77), .inr (.inr 30), .inr (.inr 60)] w K ↔ K none (ywO w l_80_77) := by
  refine vi_k (r := none) fun Q hQ => ?_
  have e0 : vi_ok GG (d + 12) 80 4 [some (.inr (.inr 77)), some (.inr (.inr 30)), some (.inr (.inr 60))] [] w Q → vi_ok GG (d + 12) 80 0 [some (.inr (.inr 77)), some (.inr (.inr 30)), some (.inr (.inr 60))] [] w Q := by
    obtain ⟨Y, M, n, m⟩ := w
    have h : Y.1 77 = 24 := h
    intro hq
    simp (disch := omega) only [Option.toList_some, Option.toList_none, List.nil_append, List.cons_append, List.append_nil, true_and, and_true, not_true_eq_false, not_false_eq_true, true_implies, false_implies, implies_true, and_self, Int.reduceLT, Int.reduceLE, Int.reduceEq, Int.reduceNe, Int.reduceAdd, Int.reduceSub, Int.reduceMul, Int.reduceNeg, Int.reduceToNat, Int.toNat_natCast, ↓kk_ck, ↓kk_im, ↓kk_in, s_80_0, h, ne_eq]
    exact hq
  rw [e_80]
  refine e0 ?_
  clear e0
  rw [l_80_77] at hQ
  simp only [ywO_a] at hQ
  have n0 : w.2.2.1 = 78 := hn
  have h0 : w.1.1 77 = 24 := h
  refine c_80_77_0 n0 h0 ?_
  obtain ⟨w1, e1⟩ : ∃ v, v = ywO w l_80_77_0 := ⟨_, rfl⟩
  have n1 : w1.2.2.1 = 79 := by rw [e1, ywO_n, n0]; rfl
  have h1 : w1.1.1 77 = 24 := by rw [e1, ywO_T, h0]; rfl
  rw [← e1] at hQ ⊢
  refine c_80_77_1 n1 h1 ?_
  obtain ⟨w2, e2⟩ : ∃ v, v = ywO w1 l_80_77_1 := ⟨_, rfl⟩
  have n2 : w2.2.2.1 = 80 := by rw [e2, ywO_n, n1]; rfl
  have h2 : w2.1.1 77 = 24 := by rw [e2, ywO_T, h1]; rfl
  rw [← e2] at hQ ⊢
  refine c_80_77_2 n2 h2 ?_
  obtain ⟨w3, e3⟩ : ∃ v, v = ywO w2 l_80_77_2 := ⟨_, rfl⟩
  have n3 : w3.2.2.1 = 82 := by rw [e3, ywO_n, n2]; rfl
  have h3 : w3.1.1 77 = 24 := by rw [e3, ywO_T, h2]; rfl
  rw [← e3] at hQ ⊢
  refine c_80_77_3 n3 h3 ?_
  obtain ⟨w4, e4⟩ : ∃ v, v = ywO w3 l_80_77_3 := ⟨_, rfl⟩
  have n4 : w4.2.2.1 = 84 := by rw [e4, ywO_n, n3]; rfl
  have h4 : w4.1.1 77 = 24 := by rw [e4, ywO_T, h3]; rfl
  rw [← e4] at hQ ⊢
  refine c_80_77_4 n4 h4 ?_
  obtain ⟨w5, e5⟩ : ∃ v, v = ywO w4 l_80_77_4 := ⟨_, rfl⟩
  have n5 : w5.2.2.1 = 86 := by rw [e5, ywO_n, n4]; rfl
  have h5 : w5.1.1 77 = 24 := by rw [e5, ywO_T, h4]; rfl
  rw [← e5] at hQ ⊢
  refine c_80_77_5 n5 h5 ?_
  obtain ⟨w6, e6⟩ : ∃ v, v = ywO w5 l_80_77_5 := ⟨_, rfl⟩
  have n6 : w6.2.2.1 = 88 := by rw [e6, ywO_n, n5]; rfl
  have h6 : w6.1.1 77 = 24 := by rw [e6, ywO_T, h5]; rfl
  rw [← e6] at hQ ⊢
  refine c_80_77_6 n6 h6 ?_
  obtain ⟨w7, e7⟩ : ∃ v, v = ywO w6 l_80_77_6 := ⟨_, rfl⟩
  have n7 : w7.2.2.1 = 88 := by rw [e7, ywO_n, n6]; rfl
  have h7 : w7.1.1 77 = 24 := by rw [e7, ywO_T, h6]; rfl
  rw [← e7] at hQ ⊢
  refine c_80_77_7 n7 h7 ?_
  obtain ⟨w8, e8⟩ : ∃ v, v = ywO w7 l_80_77_7 := ⟨_, rfl⟩
  have n8 : w8.2.2.1 = 88 := by rw [e8, ywO_n, n7]; rfl
  have h8 : w8.1.1 77 = 24 := by rw [e8, ywO_T, h7]; rfl
  rw [← e8] at hQ ⊢
  exact s_80_74.mpr hQ
def l_177_88_0 : List (Nat × Nat × Nat × Int × (Nat → Int)) := [(0, 89, 20, 1, fun _ => 0), (0, 90, 2, 6, fun _ => 0), (1, 89, 0, 90, fun _ => 0), (1, 88, 1, 89, fun _ => 0)]
theorem c_177_88_0 {w : vi_W} (hn : w.2.2.1 = 89) (h : w.1.1 88 = 30) (hq : vi_ok GG (d + 12) 177 15 [some (.inr (.inr 88)), some (.inr (.inr 30))] [] (ywO w l_177_88_0) Q) : vi_ok GG (d + 12) 177 4 [some (.inr (.inr 88)), some (.inr (.inr 30))] [] w Q := by
  obtain ⟨Y, M, n, m⟩ := w
  have hn : n = 89 := hn
  subst hn
  have h : Y.1 88 = 30 := h
  have t1 : (vi_ynew Y 89 20 1).1 89 = 20 := yn1
  have t2 : (vi_ynew Y 89 20 1).1 88 = 30 := by rw [yn1o (by decide)]; exact h
  have t3 : (1 : Int).toNat = 1 := rfl
  have k1 := fun {K : Option vi_V → vi_W → Prop} => @k_1 (d + 11) K (vi_ynew Y 89 20 1) (vi_rs M 89 fun _ => 0) (89 + 1) (m + 1) 89 (by decide) t1 (by decide)
  simp only [Nat.add_assoc, Nat.reduceAdd] at k1
  have t4 : (vi_yfin (vi_ynew (vi_ynew Y 89 20 1) 90 2 6) 89 0 ((90 : Nat) : Int)).1 88 = 30 := by rw [yf1, yn1o (by decide)]; exact t2
  simp (disch := omega) only [Option.toList_some, Option.toList_none, List.nil_append, List.cons_append, List.append_nil, true_and, and_true, not_true_eq_false, not_false_eq_true, true_implies, false_implies, implies_true, and_self, Int.reduceLT, Int.reduceLE, Int.reduceEq, Int.reduceNe, Int.reduceAdd, Int.reduceSub, Int.reduceMul, Int.reduceNeg, Int.reduceToNat, Int.toNat_natCast, ↓kk_ck, ↓kk_im, ↓kk_in, s_177_4, s_177_8, s_177_12, h, ne_eq, vi_ms_rs, t1, t2, t3, k1, t4]
  exact hq
def l_177_88_1 : List (Nat × Nat × Nat × Int × (Nat → Int)) := [(0, 91, 20, 1, fun _ => 0), (0, 92, 2, 6, fun _ => 0), (1, 91, 0, 92, fun _ => 0), (1, 88, 2, 91, fun _ => 0)]
theorem c_177_88_1 {w : vi_W} (hn : w.2.2.1 = 91) (h : w.1.1 88 = 30) (hq : vi_ok GG (d + 12) 177 26 [some (.inr (.inr 88)), some (.inr (.inr 30))] [] (ywO w l_177_88_1) Q) : vi_ok GG (d + 12) 177 15 [some (.inr (.inr 88)), some (.inr (.inr 30))] [] w Q := by
  obtain ⟨Y, M, n, m⟩ := w
  have hn : n = 91 := hn
  subst hn
  have h : Y.1 88 = 30 := h
  have t1 : (vi_ynew Y 91 20 1).1 91 = 20 := yn1
  have t2 : (vi_ynew Y 91 20 1).1 88 = 30 := by rw [yn1o (by decide)]; exact h
  have t3 : (1 : Int).toNat = 1 := rfl
  have k1 := fun {K : Option vi_V → vi_W → Prop} => @k_1 (d + 11) K (vi_ynew Y 91 20 1) (vi_rs M 91 fun _ => 0) (91 + 1) (m + 1) 91 (by decide) t1 (by decide)
  simp only [Nat.add_assoc, Nat.reduceAdd] at k1
  have t4 : (vi_yfin (vi_ynew (vi_ynew Y 91 20 1) 92 2 6) 91 0 ((92 : Nat) : Int)).1 88 = 30 := by rw [yf1, yn1o (by decide)]; exact t2
  simp (disch := omega) only [Option.toList_some, Option.toList_none, List.nil_append, List.cons_append, List.append_nil, true_and, and_true, not_true_eq_false, not_false_eq_true, true_implies, false_implies, implies_true, and_self, Int.reduceLT, Int.reduceLE, Int.reduceEq, Int.reduceNe, Int.reduceAdd, Int.reduceSub, Int.reduceMul, Int.reduceNeg, Int.reduceToNat, Int.toNat_natCast, ↓kk_ck, ↓kk_im, ↓kk_in, s_177_15, s_177_19, s_177_23, h, ne_eq, vi_ms_rs, t1, t2, t3, k1, t4]
  exact hq
def l_177_88_2 : List (Nat × Nat × Nat × Int × (Nat → Int)) := [(0, 93, 20, 1, fun _ => 0), (0, 94, 2, 6, fun _ => 0), (1, 93, 0, 94, fun _ => 0), (1, 88, 3, 93, fun _ => 0)]
theorem c_177_88_2 {w : vi_W} (hn : w.2.2.1 = 93) (h : w.1.1 88 = 30) (hq : vi_ok GG (d + 12) 177 37 [some (.inr (.inr 88)), some (.inr (.inr 30))] [] (ywO w l_177_88_2) Q) : vi_ok GG (d + 12) 177 26 [some (.inr (.inr 88)), some (.inr (.inr 30))] [] w Q := by
  obtain ⟨Y, M, n, m⟩ := w
  have hn : n = 93 := hn
  subst hn
  have h : Y.1 88 = 30 := h
  have t1 : (vi_ynew Y 93 20 1).1 93 = 20 := yn1
  have t2 : (vi_ynew Y 93 20 1).1 88 = 30 := by rw [yn1o (by decide)]; exact h
  have t3 : (1 : Int).toNat = 1 := rfl
  have k1 := fun {K : Option vi_V → vi_W → Prop} => @k_1 (d + 11) K (vi_ynew Y 93 20 1) (vi_rs M 93 fun _ => 0) (93 + 1) (m + 1) 93 (by decide) t1 (by decide)
  simp only [Nat.add_assoc, Nat.reduceAdd] at k1
  have t4 : (vi_yfin (vi_ynew (vi_ynew Y 93 20 1) 94 2 6) 93 0 ((94 : Nat) : Int)).1 88 = 30 := by rw [yf1, yn1o (by decide)]; exact t2
  simp (disch := omega) only [Option.toList_some, Option.toList_none, List.nil_append, List.cons_append, List.append_nil, true_and, and_true, not_true_eq_false, not_false_eq_true, true_implies, false_implies, implies_true, and_self, Int.reduceLT, Int.reduceLE, Int.reduceEq, Int.reduceNe, Int.reduceAdd, Int.reduceSub, Int.reduceMul, Int.reduceNeg, Int.reduceToNat, Int.toNat_natCast, ↓kk_ck, ↓kk_im, ↓kk_in, s_177_26, s_177_30, s_177_34, h, ne_eq, vi_ms_rs, t1, t2, t3, k1, t4]
  exact hq
def l_177_88_3 : List (Nat × Nat × Nat × Int × (Nat → Int)) := [(0, 95, 1, 512, fun _ => 0), (2, 88, 4, 95, fun _ => 0)]
theorem c_177_88_3 {w : vi_W} (hn : w.2.2.1 = 95) (h : w.1.1 88 = 30) (hq : vi_ok GG (d + 12) 177 46 [some (.inr (.inr 88)), some (.inr (.inr 30))] [] (ywO w l_177_88_3) Q) : vi_ok GG (d + 12) 177 37 [some (.inr (.inr 88)), some (.inr (.inr 30))] [] w Q := by
  obtain ⟨Y, M, n, m⟩ := w
  have hn : n = 95 := hn
  subst hn
  have h : Y.1 88 = 30 := h
  have t1 : (vi_ynew Y 95 1 512).1 95 = 1 := yn1
  have t2 : (vi_ynew Y 95 1 512).1 88 = 30 := by rw [yn1o (by decide)]; exact h
  have t3 : (512 : Int).toNat = 512 := rfl
  simp (disch := omega) only [Option.toList_some, Option.toList_none, List.nil_append, List.cons_append, List.append_nil, true_and, and_true, not_true_eq_false, not_false_eq_true, true_implies, false_implies, implies_true, and_self, Int.reduceLT, Int.reduceLE, Int.reduceEq, Int.reduceNe, Int.reduceAdd, Int.reduceSub, Int.reduceMul, Int.reduceNeg, Int.reduceToNat, Int.toNat_natCast, ↓kk_ck, ↓kk_im, ↓kk_in, s_177_37, s_177_43, h, ne_eq, vi_ms_rs, t1, t2, t3]
  exact hq
def l_177_88_4 : List (Nat × Nat × Nat × Int × (Nat → Int)) := [(0, 96, 1, 512, fun _ => 0), (2, 88, 5, 96, fun _ => 0)]
theorem c_177_88_4 {w : vi_W} (hn : w.2.2.1 = 96) (h : w.1.1 88 = 30) (hq : vi_ok GG (d + 12) 177 55 [some (.inr (.inr 88)), some (.inr (.inr 30))] [] (ywO w l_177_88_4) Q) : vi_ok GG (d + 12) 177 46 [some (.inr (.inr 88)), some (.inr (.inr 30))] [] w Q := by
  obtain ⟨Y, M, n, m⟩ := w
  have hn : n = 96 := hn
  subst hn
  have h : Y.1 88 = 30 := h
  have t1 : (vi_ynew Y 96 1 512).1 96 = 1 := yn1
  have t2 : (vi_ynew Y 96 1 512).1 88 = 30 := by rw [yn1o (by decide)]; exact h
  have t3 : (512 : Int).toNat = 512 := rfl
  simp (disch := omega) only [Option.toList_some, Option.toList_none, List.nil_append, List.cons_append, List.append_nil, true_and, and_true, not_true_eq_false, not_false_eq_true, true_implies, false_implies, implies_true, and_self, Int.reduceLT, Int.reduceLE, Int.reduceEq, Int.reduceNe, Int.reduceAdd, Int.reduceSub, Int.reduceMul, Int.reduceNeg, Int.reduceToNat, Int.toNat_natCast, ↓kk_ck, ↓kk_im, ↓kk_in, s_177_46, s_177_52, h, ne_eq, vi_ms_rs, t1, t2, t3]
  exact hq
def l_177_88_5 : List (Nat × Nat × Nat × Int × (Nat → Int)) := [(1, 88, 0, 30, fun _ => 0)]
theorem c_177_88_5 {w : vi_W} (hn : w.2.2.1 = 97) (h : w.1.1 88 = 30) (hq : vi_ok GG (d + 12) 177 60 [some (.inr (.inr 88)), some (.inr (.inr 30))] [] (ywO w l_177_88_5) Q) : vi_ok GG (d + 12) 177 55 [some (.inr (.inr 88)), some (.inr (.inr 30))] [] w Q := by
  obtain ⟨Y, M, n, m⟩ := w
  have hn : n = 97 := hn
  subst hn
  have h : Y.1 88 = 30 := h
  simp (disch := omega) only [Option.toList_some, Option.toList_none, List.nil_append, List.cons_append, List.append_nil, true_and, and_true, not_true_eq_false, not_false_eq_true, true_implies, false_implies, implies_true, and_self, Int.reduceLT, Int.reduceLE, Int.reduceEq, Int.reduceNe, Int.reduceAdd, Int.reduceSub, Int.reduceMul, Int.reduceNeg, Int.reduceToNat, Int.toNat_natCast, ↓kk_ck, ↓kk_im, ↓kk_in, s_177_55, h, ne_eq, vi_ms_rs]
  exact hq
def l_177_88 : List (Nat × Nat × Nat × Int × (Nat → Int)) := l_177_88_0 ++ (l_177_88_1 ++ (l_177_88_2 ++ (l_177_88_3 ++ (l_177_88_4 ++ (l_177_88_5)))))
theorem k_177_88 {w : vi_W} (hn : w.2.2.1 = 89) (h : w.1.1 88 = 30) : vi_call GG (d + 13) 177 [.inr (.inr 88), .inr (.inr 30)] w K ↔ K none (ywO w l_177_88) := by
  refine vi_k (r := none) fun Q hQ => ?_
  have e0 : vi_ok GG (d + 12) 177 4 [some (.inr (.inr 88)), some (.inr (.inr 30))] [] w Q → vi_ok GG (d + 12) 177 0 [some (.inr (.inr 88)), some (.inr (.inr 30))] [] w Q := by
    obtain ⟨Y, M, n, m⟩ := w
    have h : Y.1 88 = 30 := h
    intro hq
    simp (disch := omega) only [Option.toList_some, Option.toList_none, List.nil_append, List.cons_append, List.append_nil, true_and, and_true, not_true_eq_false, not_false_eq_true, true_implies, false_implies, implies_true, and_self, Int.reduceLT, Int.reduceLE, Int.reduceEq, Int.reduceNe, Int.reduceAdd, Int.reduceSub, Int.reduceMul, Int.reduceNeg, Int.reduceToNat, Int.toNat_natCast, ↓kk_ck, ↓kk_im, ↓kk_in, s_177_0, h, ne_eq]
    exact hq
  rw [e_177]
  refine e0 ?_
  clear e0
  rw [l_177_88] at hQ
  simp only [ywO_a] at hQ
  have n0 : w.2.2.1 = 89 := hn
  have h0 : w.1.1 88 = 30 := h
  refine c_177_88_0 n0 h0 ?_
  obtain ⟨w1, e1⟩ : ∃ v, v = ywO w l_177_88_0 := ⟨_, rfl⟩
  have n1 : w1.2.2.1 = 91 := by rw [e1, ywO_n, n0]; rfl
  have h1 : w1.1.1 88 = 30 := by rw [e1, ywO_T, h0]; rfl
  rw [← e1] at hQ ⊢
  refine c_177_88_1 n1 h1 ?_
  obtain ⟨w2, e2⟩ : ∃ v, v = ywO w1 l_177_88_1 := ⟨_, rfl⟩
  have n2 : w2.2.2.1 = 93 := by rw [e2, ywO_n, n1]; rfl
  have h2 : w2.1.1 88 = 30 := by rw [e2, ywO_T, h1]; rfl
  rw [← e2] at hQ ⊢
  refine c_177_88_2 n2 h2 ?_
  obtain ⟨w3, e3⟩ : ∃ v, v = ywO w2 l_177_88_2 := ⟨_, rfl⟩
  have n3 : w3.2.2.1 = 95 := by rw [e3, ywO_n, n2]; rfl
  have h3 : w3.1.1 88 = 30 := by rw [e3, ywO_T, h2]; rfl
  rw [← e3] at hQ ⊢
  refine c_177_88_3 n3 h3 ?_
  obtain ⟨w4, e4⟩ : ∃ v, v = ywO w3 l_177_88_3 := ⟨_, rfl⟩
  have n4 : w4.2.2.1 = 96 := by rw [e4, ywO_n, n3]; rfl
  have h4 : w4.1.1 88 = 30 := by rw [e4, ywO_T, h3]; rfl
  rw [← e4] at hQ ⊢
  refine c_177_88_4 n4 h4 ?_
  obtain ⟨w5, e5⟩ : ∃ v, v = ywO w4 l_177_88_4 := ⟨_, rfl⟩
  have n5 : w5.2.2.1 = 97 := by rw [e5, ywO_n, n4]; rfl
  have h5 : w5.1.1 88 = 30 := by rw [e5, ywO_T, h4]; rfl
  rw [← e5] at hQ ⊢
  refine c_177_88_5 n5 h5 ?_
  obtain ⟨w6, e6⟩ : ∃ v, v = ywO w5 l_177_88_5 := ⟨_, rfl⟩
  have n6 : w6.2.2.1 = 97 := by rw [e6, ywO_n, n5]; rfl
  have h6 : w6.1.1 88 = 30 := by rw [e6, ywO_T, h5]; rfl
  rw [← e6] at hQ ⊢
  exact s_177_60.mpr hQ
def l_94_97_0 : List (Nat × Nat × Nat × Int × (Nat → Int)) := [(0, 98, 1, 216, fun _ => 0), (1, 97, 2, 98, fun _ => 0)]
theorem c_94_97_0 {w : vi_W} (hn : w.2.2.1 = 98) (h : w.1.1 97 = 25) (hq : vi_ok GG (d + 12) 94 13 [some (.inr (.inr 97)), some (.inr (.inr 30)), some (.inr (.inr 60))] [] (ywO w l_94_97_0) Q) : vi_ok GG (d + 12) 94 4 [some (.inr (.inr 97)), some (.inr (.inr 30)), some (.inr (.inr 60))] [] w Q := by
  obtain ⟨Y, M, n, m⟩ := w
  have hn : n = 98 := hn
  subst hn
  have h : Y.1 97 = 25 := h
  have t1 : (vi_ynew Y 98 1 216).1 98 = 1 := yn1
  have t2 : (vi_ynew Y 98 1 216).1 97 = 25 := by rw [yn1o (by decide)]; exact h
  have t3 : (216 : Int).toNat = 216 := rfl
  simp (disch := omega) only [Option.toList_some, Option.toList_none, List.nil_append, List.cons_append, List.append_nil, true_and, and_true, not_true_eq_false, not_false_eq_true, true_implies, false_implies, implies_true, and_self, Int.reduceLT, Int.reduceLE, Int.reduceEq, Int.reduceNe, Int.reduceAdd, Int.reduceSub, Int.reduceMul, Int.reduceNeg, Int.reduceToNat, Int.toNat_natCast, ↓kk_ck, ↓kk_im, ↓kk_in, s_94_4, s_94_10, h, ne_eq, vi_ms_rs, t1, t2, t3]
  exact hq
def l_94_97_1 : List (Nat × Nat × Nat × Int × (Nat → Int)) := [(0, 99, 1, 216, fun _ => 0), (1, 97, 3, 99, fun _ => 0)]
theorem c_94_97_1 {w : vi_W} (hn : w.2.2.1 = 99) (h : w.1.1 97 = 25) (hq : vi_ok GG (d + 12) 94 22 [some (.inr (.inr 97)), some (.inr (.inr 30)), some (.inr (.inr 60))] [] (ywO w l_94_97_1) Q) : vi_ok GG (d + 12) 94 13 [some (.inr (.inr 97)), some (.inr (.inr 30)), some (.inr (.inr 60))] [] w Q := by
  obtain ⟨Y, M, n, m⟩ := w
  have hn : n = 99 := hn
  subst hn
  have h : Y.1 97 = 25 := h
  have t1 : (vi_ynew Y 99 1 216).1 99 = 1 := yn1
  have t2 : (vi_ynew Y 99 1 216).1 97 = 25 := by rw [yn1o (by decide)]; exact h
  have t3 : (216 : Int).toNat = 216 := rfl
  simp (disch := omega) only [Option.toList_some, Option.toList_none, List.nil_append, List.cons_append, List.append_nil, true_and, and_true, not_true_eq_false, not_false_eq_true, true_implies, false_implies, implies_true, and_self, Int.reduceLT, Int.reduceLE, Int.reduceEq, Int.reduceNe, Int.reduceAdd, Int.reduceSub, Int.reduceMul, Int.reduceNeg, Int.reduceToNat, Int.toNat_natCast, ↓kk_ck, ↓kk_im, ↓kk_in, s_94_13, s_94_19, h, ne_eq, vi_ms_rs, t1, t2, t3]
  exact hq
def l_94_97_2 : List (Nat × Nat × Nat × Int × (Nat → Int)) := [(0, 100, 1, 14, fun _ => 0), (1, 97, 4, 100, fun _ => 0)]
theorem c_94_97_2 {w : vi_W} (hn : w.2.2.1 = 100) (h : w.1.1 97 = 25) (hq : vi_ok GG (d + 12) 94 30 [some (.inr (.inr 97)), some (.inr (.inr 30)), some (.inr (.inr 60))] [] (ywO w l_94_97_2) Q) : vi_ok GG (d + 12) 94 22 [some (.inr (.inr 97)), some (.inr (.inr 30)), some (.inr (.inr 60))] [] w Q := by
  obtain ⟨Y, M, n, m⟩ := w
  have hn : n = 100 := hn
  subst hn
  have h : Y.1 97 = 25 := h
  have t1 : (vi_ynew Y 100 1 14).1 100 = 1 := yn1
  have t2 : (vi_ynew Y 100 1 14).1 97 = 25 := by rw [yn1o (by decide)]; exact h
  have t3 : (14 : Int).toNat = 14 := rfl
  simp (disch := omega) only [Option.toList_some, Option.toList_none, List.nil_append, List.cons_append, List.append_nil, true_and, and_true, not_true_eq_false, not_false_eq_true, true_implies, false_implies, implies_true, and_self, Int.reduceLT, Int.reduceLE, Int.reduceEq, Int.reduceNe, Int.reduceAdd, Int.reduceSub, Int.reduceMul, Int.reduceNeg, Int.reduceToNat, Int.toNat_natCast, ↓kk_ck, ↓kk_im, ↓kk_in, s_94_22, s_94_27, h, ne_eq, vi_ms_rs, t1, t2, t3]
  exact hq
def l_94_97_3 : List (Nat × Nat × Nat × Int × (Nat → Int)) := [(0, 101, 20, 1, fun _ => 0), (0, 102, 2, 6, fun _ => 0), (1, 101, 0, 102, fun _ => 0), (1, 97, 5, 101, fun _ => 0)]
theorem c_94_97_3 {w : vi_W} (hn : w.2.2.1 = 101) (h : w.1.1 97 = 25) (hq : vi_ok GG (d + 12) 94 41 [some (.inr (.inr 97)), some (.inr (.inr 30)), some (.inr (.inr 60))] [] (ywO w l_94_97_3) Q) : vi_ok GG (d + 12) 94 30 [some (.inr (.inr 97)), some (.inr (.inr 30)), some (.inr (.inr 60))] [] w Q := by
  obtain ⟨Y, M, n, m⟩ := w
  have hn : n = 101 := hn
  subst hn
  have h : Y.1 97 = 25 := h
  have t1 : (vi_ynew Y 101 20 1).1 101 = 20 := yn1
  have t2 : (vi_ynew Y 101 20 1).1 97 = 25 := by rw [yn1o (by decide)]; exact h
  have t3 : (1 : Int).toNat = 1 := rfl
  have k1 := fun {K : Option vi_V → vi_W → Prop} => @k_1 (d + 11) K (vi_ynew Y 101 20 1) (vi_rs M 101 fun _ => 0) (101 + 1) (m + 1) 101 (by decide) t1 (by decide)
  simp only [Nat.add_assoc, Nat.reduceAdd] at k1
  have t4 : (vi_yfin (vi_ynew (vi_ynew Y 101 20 1) 102 2 6) 101 0 ((102 : Nat) : Int)).1 97 = 25 := by rw [yf1, yn1o (by decide)]; exact t2
  simp (disch := omega) only [Option.toList_some, Option.toList_none, List.nil_append, List.cons_append, List.append_nil, true_and, and_true, not_true_eq_false, not_false_eq_true, true_implies, false_implies, implies_true, and_self, Int.reduceLT, Int.reduceLE, Int.reduceEq, Int.reduceNe, Int.reduceAdd, Int.reduceSub, Int.reduceMul, Int.reduceNeg, Int.reduceToNat, Int.toNat_natCast, ↓kk_ck, ↓kk_im, ↓kk_in, s_94_30, s_94_34, s_94_38, h, ne_eq, vi_ms_rs, t1, t2, t3, k1, t4]
  exact hq
def l_94_97_4 : List (Nat × Nat × Nat × Int × (Nat → Int)) := [(1, 97, 0, 30, fun _ => 0)]
theorem c_94_97_4 {w : vi_W} (hn : w.2.2.1 = 103) (h : w.1.1 97 = 25) (hq : vi_ok GG (d + 12) 94 46 [some (.inr (.inr 97)), some (.inr (.inr 30)), some (.inr (.inr 60))] [] (ywO w l_94_97_4) Q) : vi_ok GG (d + 12) 94 41 [some (.inr (.inr 97)), some (.inr (.inr 30)), some (.inr (.inr 60))] [] w Q := by
  obtain ⟨Y, M, n, m⟩ := w
  have hn : n = 103 := hn
  subst hn
  have h : Y.1 97 = 25 := h
  simp (disch := omega) only [Option.toList_some, Option.toList_none, List.nil_append, List.cons_append, List.append_nil, true_and, and_true, not_true_eq_false, not_false_eq_true, true_implies, false_implies, implies_true, and_self, Int.reduceLT, Int.reduceLE, Int.reduceEq, Int.reduceNe, Int.reduceAdd, Int.reduceSub, Int.reduceMul, Int.reduceNeg, Int.reduceToNat, Int.toNat_natCast, ↓kk_ck, ↓kk_im, ↓kk_in, s_94_41, h, ne_eq, vi_ms_rs]
  exact hq
def l_94_97_5 : List (Nat × Nat × Nat × Int × (Nat → Int)) := [(1, 97, 1, 60, fun _ => 0)]
theorem c_94_97_5 {w : vi_W} (hn : w.2.2.1 = 103) (h : w.1.1 97 = 25) (hq : vi_ok GG (d + 12) 94 51 [some (.inr (.inr 97)), some (.inr (.inr 30)), some (.inr (.inr 60))] [] (ywO w l_94_97_5) Q) : vi_ok GG (d + 12) 94 46 [some (.inr (.inr 97)), some (.inr (.inr 30)), some (.inr (.inr 60))] [] w Q := by
  obtain ⟨Y, M, n, m⟩ := w
  have hn : n = 103 := hn
  subst hn
  have h : Y.1 97 = 25 := h
  simp (disch := omega) only [Option.toList_some, Option.toList_none, List.nil_append, List.cons_append, List.append_nil, true_and, and_true, not_true_eq_false, not_false_eq_true, true_implies, false_implies, implies_true, and_self, Int.reduceLT, Int.reduceLE, Int.reduceEq, Int.reduceNe, Int.reduceAdd, Int.reduceSub, Int.reduceMul, Int.reduceNeg, Int.reduceToNat, Int.toNat_natCast, ↓kk_ck, ↓kk_im, ↓kk_in, s_94_46, h, ne_eq, vi_ms_rs]
  exact hq
def l_94_97 : List (Nat × Nat × Nat × Int × (Nat → Int)) := l_94_97_0 ++ (l_94_97_1 ++ (l_94_97_2 ++ (l_94_97_3 ++ (l_94_97_4 ++ (l_94_97_5)))))
theorem k_94_97 {w : vi_W} (hn : w.2.2.1 = 98) (h : w.1.1 97 = 25) : vi_call GG (d + 13) 94 [.inr (.inr 97), .inr (.inr 30), .inr (.inr 60)] w K ↔ K none (ywO w l_94_97) := by
  refine vi_k (r := none) fun Q hQ => ?_
  have e0 : vi_ok GG (d + 12) 94 4 [some (.inr (.inr 97)), some (.inr (.inr 30)), some (.inr (.inr 60))] [] w Q → vi_ok GG (d + 12) 94 0 [some (.inr (.inr 97)), some (.inr (.inr 30)), some (.inr (.inr 60))] [] w Q := by
    obtain ⟨Y, M, n, m⟩ := w
    have h : Y.1 97 = 25 := h
    intro hq
    simp (disch := omega) only [Option.toList_some, Option.toList_none, List.nil_append, List.cons_append, List.append_nil, true_and, and_true, not_true_eq_false, not_false_eq_true, true_implies, false_implies, implies_true, and_self, Int.reduceLT, Int.reduceLE, Int.reduceEq, Int.reduceNe, Int.reduceAdd, Int.reduceSub, Int.reduceMul, Int.reduceNeg, Int.reduceToNat, Int.toNat_natCast, ↓kk_ck, ↓kk_im, ↓kk_in, s_94_0, h, ne_eq]
    exact hq
  rw [e_94]
  refine e0 ?_
  clear e0
  rw [l_94_97] at hQ
  simp only [ywO_a] at hQ
  have n0 : w.2.2.1 = 98 := hn
  have h0 : w.1.1 97 = 25 := h
  refine c_94_97_0 n0 h0 ?_
  obtain ⟨w1, e1⟩ : ∃ v, v = ywO w l_94_97_0 := ⟨_, rfl⟩
  have n1 : w1.2.2.1 = 99 := by rw [e1, ywO_n, n0]; rfl
  have h1 : w1.1.1 97 = 25 := by rw [e1, ywO_T, h0]; rfl
  rw [← e1] at hQ ⊢
  refine c_94_97_1 n1 h1 ?_
  obtain ⟨w2, e2⟩ : ∃ v, v = ywO w1 l_94_97_1 := ⟨_, rfl⟩
  have n2 : w2.2.2.1 = 100 := by rw [e2, ywO_n, n1]; rfl
  have h2 : w2.1.1 97 = 25 := by rw [e2, ywO_T, h1]; rfl
  rw [← e2] at hQ ⊢
  refine c_94_97_2 n2 h2 ?_
  obtain ⟨w3, e3⟩ : ∃ v, v = ywO w2 l_94_97_2 := ⟨_, rfl⟩
  have n3 : w3.2.2.1 = 101 := by rw [e3, ywO_n, n2]; rfl
  have h3 : w3.1.1 97 = 25 := by rw [e3, ywO_T, h2]; rfl
  rw [← e3] at hQ ⊢
  refine c_94_97_3 n3 h3 ?_
  obtain ⟨w4, e4⟩ : ∃ v, v = ywO w3 l_94_97_3 := ⟨_, rfl⟩
  have n4 : w4.2.2.1 = 103 := by rw [e4, ywO_n, n3]; rfl
  have h4 : w4.1.1 97 = 25 := by rw [e4, ywO_T, h3]; rfl
  rw [← e4] at hQ ⊢
  refine c_94_97_4 n4 h4 ?_
  obtain ⟨w5, e5⟩ : ∃ v, v = ywO w4 l_94_97_4 := ⟨_, rfl⟩
  have n5 : w5.2.2.1 = 103 := by rw [e5, ywO_n, n4]; rfl
  have h5 : w5.1.1 97 = 25 := by rw [e5, ywO_T, h4]; rfl
  rw [← e5] at hQ ⊢
  refine c_94_97_5 n5 h5 ?_
  obtain ⟨w6, e6⟩ : ∃ v, v = ywO w5 l_94_97_5 := ⟨_, rfl⟩
  have n6 : w6.2.2.1 = 103 := by rw [e6, ywO_n, n5]; rfl
  have h6 : w6.1.1 97 = 25 := by rw [e6, ywO_T, h5]; rfl
  rw [← e6] at hQ ⊢
  exact s_94_51.mpr hQ
def l_160_103_0 : List (Nat × Nat × Nat × Int × (Nat → Int)) := [(0, 104, 1, 10, fun _ => 0), (1, 103, 1, 104, fun _ => 0)]
theorem c_160_103_0 {w : vi_W} (hn : w.2.2.1 = 104) (h : w.1.1 103 = 29) (hq : vi_ok GG (d + 12) 160 12 [some (.inr (.inr 103)), some (.inr (.inr 30))] [] (ywO w l_160_103_0) Q) : vi_ok GG (d + 12) 160 4 [some (.inr (.inr 103)), some (.inr (.inr 30))] [] w Q := by
  obtain ⟨Y, M, n, m⟩ := w
  have hn : n = 104 := hn
  subst hn
  have h : Y.1 103 = 29 := h
  have t1 : (vi_ynew Y 104 1 10).1 104 = 1 := yn1
  have t2 : (vi_ynew Y 104 1 10).1 103 = 29 := by rw [yn1o (by decide)]; exact h
  have t3 : (10 : Int).toNat = 10 := rfl
  simp (disch := omega) only [Option.toList_some, Option.toList_none, List.nil_append, List.cons_append, List.append_nil, true_and, and_true, not_true_eq_false, not_false_eq_true, true_implies, false_implies, implies_true, and_self, Int.reduceLT, Int.reduceLE, Int.reduceEq, Int.reduceNe, Int.reduceAdd, Int.reduceSub, Int.reduceMul, Int.reduceNeg, Int.reduceToNat, Int.toNat_natCast, ↓kk_ck, ↓kk_im, ↓kk_in, s_160_4, s_160_9, h, ne_eq, vi_ms_rs, t1, t2, t3]
  exact hq
def l_160_103_1 : List (Nat × Nat × Nat × Int × (Nat → Int)) := [(0, 105, 1, 10, fun _ => 0), (1, 103, 2, 105, fun _ => 0)]
theorem c_160_103_1 {w : vi_W} (hn : w.2.2.1 = 105) (h : w.1.1 103 = 29) (hq : vi_ok GG (d + 12) 160 20 [some (.inr (.inr 103)), some (.inr (.inr 30))] [] (ywO w l_160_103_1) Q) : vi_ok GG (d + 12) 160 12 [some (.inr (.inr 103)), some (.inr (.inr 30))] [] w Q := by
  obtain ⟨Y, M, n, m⟩ := w
  have hn : n = 105 := hn
  subst hn
  have h : Y.1 103 = 29 := h
  have t1 : (vi_ynew Y 105 1 10).1 105 = 1 := yn1
  have t2 : (vi_ynew Y 105 1 10).1 103 = 29 := by rw [yn1o (by decide)]; exact h
  have t3 : (10 : Int).toNat = 10 := rfl
  simp (disch := omega) only [Option.toList_some, Option.toList_none, List.nil_append, List.cons_append, List.append_nil, true_and, and_true, not_true_eq_false, not_false_eq_true, true_implies, false_implies, implies_true, and_self, Int.reduceLT, Int.reduceLE, Int.reduceEq, Int.reduceNe, Int.reduceAdd, Int.reduceSub, Int.reduceMul, Int.reduceNeg, Int.reduceToNat, Int.toNat_natCast, ↓kk_ck, ↓kk_im, ↓kk_in, s_160_12, s_160_17, h, ne_eq, vi_ms_rs, t1, t2, t3]
  exact hq
def l_160_103_2 : List (Nat × Nat × Nat × Int × (Nat → Int)) := [(0, 106, 1, 10, fun _ => 0), (1, 103, 3, 106, fun _ => 0)]
theorem c_160_103_2 {w : vi_W} (hn : w.2.2.1 = 106) (h : w.1.1 103 = 29) (hq : vi_ok GG (d + 12) 160 28 [some (.inr (.inr 103)), some (.inr (.inr 30))] [] (ywO w l_160_103_2) Q) : vi_ok GG (d + 12) 160 20 [some (.inr (.inr 103)), some (.inr (.inr 30))] [] w Q := by
  obtain ⟨Y, M, n, m⟩ := w
  have hn : n = 106 := hn
  subst hn
  have h : Y.1 103 = 29 := h
  have t1 : (vi_ynew Y 106 1 10).1 106 = 1 := yn1
  have t2 : (vi_ynew Y 106 1 10).1 103 = 29 := by rw [yn1o (by decide)]; exact h
  have t3 : (10 : Int).toNat = 10 := rfl
  simp (disch := omega) only [Option.toList_some, Option.toList_none, List.nil_append, List.cons_append, List.append_nil, true_and, and_true, not_true_eq_false, not_false_eq_true, true_implies, false_implies, implies_true, and_self, Int.reduceLT, Int.reduceLE, Int.reduceEq, Int.reduceNe, Int.reduceAdd, Int.reduceSub, Int.reduceMul, Int.reduceNeg, Int.reduceToNat, Int.toNat_natCast, ↓kk_ck, ↓kk_im, ↓kk_in, s_160_20, s_160_25, h, ne_eq, vi_ms_rs, t1, t2, t3]
  exact hq
def l_160_103_3 : List (Nat × Nat × Nat × Int × (Nat → Int)) := [(1, 103, 0, 30, fun _ => 0)]
theorem c_160_103_3 {w : vi_W} (hn : w.2.2.1 = 107) (h : w.1.1 103 = 29) (hq : vi_ok GG (d + 12) 160 33 [some (.inr (.inr 103)), some (.inr (.inr 30))] [] (ywO w l_160_103_3) Q) : vi_ok GG (d + 12) 160 28 [some (.inr (.inr 103)), some (.inr (.inr 30))] [] w Q := by
  obtain ⟨Y, M, n, m⟩ := w
  have hn : n = 107 := hn
  subst hn
  have h : Y.1 103 = 29 := h
  simp (disch := omega) only [Option.toList_some, Option.toList_none, List.nil_append, List.cons_append, List.append_nil, true_and, and_true, not_true_eq_false, not_false_eq_true, true_implies, false_implies, implies_true, and_self, Int.reduceLT, Int.reduceLE, Int.reduceEq, Int.reduceNe, Int.reduceAdd, Int.reduceSub, Int.reduceMul, Int.reduceNeg, Int.reduceToNat, Int.toNat_natCast, ↓kk_ck, ↓kk_im, ↓kk_in, s_160_28, h, ne_eq, vi_ms_rs]
  exact hq
def l_160_103 : List (Nat × Nat × Nat × Int × (Nat → Int)) := l_160_103_0 ++ (l_160_103_1 ++ (l_160_103_2 ++ (l_160_103_3)))
theorem k_160_103 {w : vi_W} (hn : w.2.2.1 = 104) (h : w.1.1 103 = 29) : vi_call GG (d + 13) 160 [.inr (.inr 103), .inr (.inr 30)] w K ↔ K none (ywO w l_160_103) := by
  refine vi_k (r := none) fun Q hQ => ?_
  have e0 : vi_ok GG (d + 12) 160 4 [some (.inr (.inr 103)), some (.inr (.inr 30))] [] w Q → vi_ok GG (d + 12) 160 0 [some (.inr (.inr 103)), some (.inr (.inr 30))] [] w Q := by
    obtain ⟨Y, M, n, m⟩ := w
    have h : Y.1 103 = 29 := h
    intro hq
    simp (disch := omega) only [Option.toList_some, Option.toList_none, List.nil_append, List.cons_append, List.append_nil, true_and, and_true, not_true_eq_false, not_false_eq_true, true_implies, false_implies, implies_true, and_self, Int.reduceLT, Int.reduceLE, Int.reduceEq, Int.reduceNe, Int.reduceAdd, Int.reduceSub, Int.reduceMul, Int.reduceNeg, Int.reduceToNat, Int.toNat_natCast, ↓kk_ck, ↓kk_im, ↓kk_in, s_160_0, h, ne_eq]
    exact hq
  rw [e_160]
  refine e0 ?_
  clear e0
  rw [l_160_103] at hQ
  simp only [ywO_a] at hQ
  have n0 : w.2.2.1 = 104 := hn
  have h0 : w.1.1 103 = 29 := h
  refine c_160_103_0 n0 h0 ?_
  obtain ⟨w1, e1⟩ : ∃ v, v = ywO w l_160_103_0 := ⟨_, rfl⟩
  have n1 : w1.2.2.1 = 105 := by rw [e1, ywO_n, n0]; rfl
  have h1 : w1.1.1 103 = 29 := by rw [e1, ywO_T, h0]; rfl
  rw [← e1] at hQ ⊢
  refine c_160_103_1 n1 h1 ?_
  obtain ⟨w2, e2⟩ : ∃ v, v = ywO w1 l_160_103_1 := ⟨_, rfl⟩
  have n2 : w2.2.2.1 = 106 := by rw [e2, ywO_n, n1]; rfl
  have h2 : w2.1.1 103 = 29 := by rw [e2, ywO_T, h1]; rfl
  rw [← e2] at hQ ⊢
  refine c_160_103_2 n2 h2 ?_
  obtain ⟨w3, e3⟩ : ∃ v, v = ywO w2 l_160_103_2 := ⟨_, rfl⟩
  have n3 : w3.2.2.1 = 107 := by rw [e3, ywO_n, n2]; rfl
  have h3 : w3.1.1 103 = 29 := by rw [e3, ywO_T, h2]; rfl
  rw [← e3] at hQ ⊢
  refine c_160_103_3 n3 h3 ?_
  obtain ⟨w4, e4⟩ : ∃ v, v = ywO w3 l_160_103_3 := ⟨_, rfl⟩
  have n4 : w4.2.2.1 = 107 := by rw [e4, ywO_n, n3]; rfl
  have h4 : w4.1.1 103 = 29 := by rw [e4, ywO_T, h3]; rfl
  rw [← e4] at hQ ⊢
  exact s_160_33.mpr hQ
def l_104_107_0 : List (Nat × Nat × Nat × Int × (Nat → Int)) := [(0, 108, 1, 4096, fun _ => 0), (1, 107, 1, 108, fun _ => 0)]
theorem c_104_107_0 {w : vi_W} (hn : w.2.2.1 = 108) (h : w.1.1 107 = 26) (hq : vi_ok GG (d + 12) 104 13 [some (.inr (.inr 107)), some (.inr (.inr 30))] [] (ywO w l_104_107_0) Q) : vi_ok GG (d + 12) 104 4 [some (.inr (.inr 107)), some (.inr (.inr 30))] [] w Q := by
  obtain ⟨Y, M, n, m⟩ := w
  have hn : n = 108 := hn
  subst hn
  have h : Y.1 107 = 26 := h
  have t1 : (vi_ynew Y 108 1 4096).1 108 = 1 := yn1
  have t2 : (vi_ynew Y 108 1 4096).1 107 = 26 := by rw [yn1o (by decide)]; exact h
  have t3 : (4096 : Int).toNat = 4096 := rfl
  simp (disch := omega) only [Option.toList_some, Option.toList_none, List.nil_append, List.cons_append, List.append_nil, true_and, and_true, not_true_eq_false, not_false_eq_true, true_implies, false_implies, implies_true, and_self, Int.reduceLT, Int.reduceLE, Int.reduceEq, Int.reduceNe, Int.reduceAdd, Int.reduceSub, Int.reduceMul, Int.reduceNeg, Int.reduceToNat, Int.toNat_natCast, ↓kk_ck, ↓kk_im, ↓kk_in, s_104_4, s_104_10, h, ne_eq, vi_ms_rs, t1, t2, t3]
  exact hq
def l_104_107_1 : List (Nat × Nat × Nat × Int × (Nat → Int)) := [(0, 109, 1, 6, fun _ => 0), (1, 107, 2, 109, fun _ => 0)]
theorem c_104_107_1 {w : vi_W} (hn : w.2.2.1 = 109) (h : w.1.1 107 = 26) (hq : vi_ok GG (d + 12) 104 21 [some (.inr (.inr 107)), some (.inr (.inr 30))] [] (ywO w l_104_107_1) Q) : vi_ok GG (d + 12) 104 13 [some (.inr (.inr 107)), some (.inr (.inr 30))] [] w Q := by
  obtain ⟨Y, M, n, m⟩ := w
  have hn : n = 109 := hn
  subst hn
  have h : Y.1 107 = 26 := h
  have t1 : (vi_ynew Y 109 1 6).1 109 = 1 := yn1
  have t2 : (vi_ynew Y 109 1 6).1 107 = 26 := by rw [yn1o (by decide)]; exact h
  have t3 : (6 : Int).toNat = 6 := rfl
  simp (disch := omega) only [Option.toList_some, Option.toList_none, List.nil_append, List.cons_append, List.append_nil, true_and, and_true, not_true_eq_false, not_false_eq_true, true_implies, false_implies, implies_true, and_self, Int.reduceLT, Int.reduceLE, Int.reduceEq, Int.reduceNe, Int.reduceAdd, Int.reduceSub, Int.reduceMul, Int.reduceNeg, Int.reduceToNat, Int.toNat_natCast, ↓kk_ck, ↓kk_im, ↓kk_in, s_104_13, s_104_18, h, ne_eq, vi_ms_rs, t1, t2, t3]
  exact hq
def l_104_107_2 : List (Nat × Nat × Nat × Int × (Nat → Int)) := [(0, 110, 1, 8, fun _ => 0), (1, 107, 3, 110, fun _ => 0)]
theorem c_104_107_2 {w : vi_W} (hn : w.2.2.1 = 110) (h : w.1.1 107 = 26) (hq : vi_ok GG (d + 12) 104 29 [some (.inr (.inr 107)), some (.inr (.inr 30))] [] (ywO w l_104_107_2) Q) : vi_ok GG (d + 12) 104 21 [some (.inr (.inr 107)), some (.inr (.inr 30))] [] w Q := by
  obtain ⟨Y, M, n, m⟩ := w
  have hn : n = 110 := hn
  subst hn
  have h : Y.1 107 = 26 := h
  have t1 : (vi_ynew Y 110 1 8).1 110 = 1 := yn1
  have t2 : (vi_ynew Y 110 1 8).1 107 = 26 := by rw [yn1o (by decide)]; exact h
  have t3 : (8 : Int).toNat = 8 := rfl
  simp (disch := omega) only [Option.toList_some, Option.toList_none, List.nil_append, List.cons_append, List.append_nil, true_and, and_true, not_true_eq_false, not_false_eq_true, true_implies, false_implies, implies_true, and_self, Int.reduceLT, Int.reduceLE, Int.reduceEq, Int.reduceNe, Int.reduceAdd, Int.reduceSub, Int.reduceMul, Int.reduceNeg, Int.reduceToNat, Int.toNat_natCast, ↓kk_ck, ↓kk_im, ↓kk_in, s_104_21, s_104_26, h, ne_eq, vi_ms_rs, t1, t2, t3]
  exact hq
def l_104_107_3 : List (Nat × Nat × Nat × Int × (Nat → Int)) := [(1, 107, 0, 30, fun _ => 0)]
theorem c_104_107_3 {w : vi_W} (hn : w.2.2.1 = 111) (h : w.1.1 107 = 26) (hq : vi_ok GG (d + 12) 104 34 [some (.inr (.inr 107)), some (.inr (.inr 30))] [] (ywO w l_104_107_3) Q) : vi_ok GG (d + 12) 104 29 [some (.inr (.inr 107)), some (.inr (.inr 30))] [] w Q := by
  obtain ⟨Y, M, n, m⟩ := w
  have hn : n = 111 := hn
  subst hn
  have h : Y.1 107 = 26 := h
  simp (disch := omega) only [Option.toList_some, Option.toList_none, List.nil_append, List.cons_append, List.append_nil, true_and, and_true, not_true_eq_false, not_false_eq_true, true_implies, false_implies, implies_true, and_self, Int.reduceLT, Int.reduceLE, Int.reduceEq, Int.reduceNe, Int.reduceAdd, Int.reduceSub, Int.reduceMul, Int.reduceNeg, Int.reduceToNat, Int.toNat_natCast, ↓kk_ck, ↓kk_im, ↓kk_in, s_104_29, h, ne_eq, vi_ms_rs]
  exact hq
def l_104_107 : List (Nat × Nat × Nat × Int × (Nat → Int)) := l_104_107_0 ++ (l_104_107_1 ++ (l_104_107_2 ++ (l_104_107_3)))
theorem k_104_107 {w : vi_W} (hn : w.2.2.1 = 108) (h : w.1.1 107 = 26) : vi_call GG (d + 13) 104 [.inr (.inr 107), .inr (.inr 30)] w K ↔ K none (ywO w l_104_107) := by
  refine vi_k (r := none) fun Q hQ => ?_
  have e0 : vi_ok GG (d + 12) 104 4 [some (.inr (.inr 107)), some (.inr (.inr 30))] [] w Q → vi_ok GG (d + 12) 104 0 [some (.inr (.inr 107)), some (.inr (.inr 30))] [] w Q := by
    obtain ⟨Y, M, n, m⟩ := w
    have h : Y.1 107 = 26 := h
    intro hq
    simp (disch := omega) only [Option.toList_some, Option.toList_none, List.nil_append, List.cons_append, List.append_nil, true_and, and_true, not_true_eq_false, not_false_eq_true, true_implies, false_implies, implies_true, and_self, Int.reduceLT, Int.reduceLE, Int.reduceEq, Int.reduceNe, Int.reduceAdd, Int.reduceSub, Int.reduceMul, Int.reduceNeg, Int.reduceToNat, Int.toNat_natCast, ↓kk_ck, ↓kk_im, ↓kk_in, s_104_0, h, ne_eq]
    exact hq
  rw [e_104]
  refine e0 ?_
  clear e0
  rw [l_104_107] at hQ
  simp only [ywO_a] at hQ
  have n0 : w.2.2.1 = 108 := hn
  have h0 : w.1.1 107 = 26 := h
  refine c_104_107_0 n0 h0 ?_
  obtain ⟨w1, e1⟩ : ∃ v, v = ywO w l_104_107_0 := ⟨_, rfl⟩
  have n1 : w1.2.2.1 = 109 := by rw [e1, ywO_n, n0]; rfl
  have h1 : w1.1.1 107 = 26 := by rw [e1, ywO_T, h0]; rfl
  rw [← e1] at hQ ⊢
  refine c_104_107_1 n1 h1 ?_
  obtain ⟨w2, e2⟩ : ∃ v, v = ywO w1 l_104_107_1 := ⟨_, rfl⟩
  have n2 : w2.2.2.1 = 110 := by rw [e2, ywO_n, n1]; rfl
  have h2 : w2.1.1 107 = 26 := by rw [e2, ywO_T, h1]; rfl
  rw [← e2] at hQ ⊢
  refine c_104_107_2 n2 h2 ?_
  obtain ⟨w3, e3⟩ : ∃ v, v = ywO w2 l_104_107_2 := ⟨_, rfl⟩
  have n3 : w3.2.2.1 = 111 := by rw [e3, ywO_n, n2]; rfl
  have h3 : w3.1.1 107 = 26 := by rw [e3, ywO_T, h2]; rfl
  rw [← e3] at hQ ⊢
  refine c_104_107_3 n3 h3 ?_
  obtain ⟨w4, e4⟩ : ∃ v, v = ywO w3 l_104_107_3 := ⟨_, rfl⟩
  have n4 : w4.2.2.1 = 111 := by rw [e4, ywO_n, n3]; rfl
  have h4 : w4.1.1 107 = 26 := by rw [e4, ywO_T, h3]; rfl
  rw [← e4] at hQ ⊢
  exact s_104_34.mpr hQ
def l_188_29_0 : List (Nat × Nat × Nat × Int × (Nat → Int)) := (0, 30, 22, 13, fun _ => 0) :: (l_39_30 ++ ([(1, 29, 0, 30, fun _ => 0)]))
theorem c_188_29_0 {w : vi_W} (hn : w.2.2.1 = 30) (h : w.1.1 29 = 31) (hq : vi_ok GG (d + 13) 188 15 [some (.inr (.inr 29))] [] (ywO w l_188_29_0) Q) : vi_ok GG (d + 13) 188 4 [some (.inr (.inr 29))] [] w Q := by
  obtain ⟨Y, M, n, m⟩ := w
  have hn : n = 30 := hn
  subst hn
  have h : Y.1 29 = 31 := h
  have t1 : (vi_ynew Y 30 22 13).1 30 = 22 := yn1
  have t2 : (vi_ynew Y 30 22 13).1 29 = 31 := by rw [yn1o (by decide)]; exact h
  obtain ⟨v, ev⟩ : ∃ v : vi_W, v = ywO (vi_ynew Y 30 22 13, vi_rs M 30 (fun _ => 0), 31, m + 13) l_39_30 := ⟨_, rfl⟩
  have hv : v.1.1 29 = 31 := by rw [ev, ywO_T]; show yoT 29 ((vi_ynew Y 30 22 13).1 29) l_39_30 = 31; rw [t2]; decide +kernel
  have hq' : vi_ok GG (d + 13) 188 15 [some (.inr (.inr 29))] [] (vi_yfin v.1 29 0 ((30 : Nat) : Int), v.2) Q := by
    rw [l_188_29_0, ywO_c, ywO_a, show ywO1 (Y, M, 30, m) (0, 30, 22, 13, fun _ => 0) = (vi_ynew Y 30 22 13, vi_rs M 30 (fun _ => 0), 31, m + 13) from rfl, ← ev] at hq
    exact hq
  have k1 := fun {K : Option vi_V → vi_W → Prop} => @k_39_30 d K (vi_ynew Y 30 22 13, vi_rs M 30 (fun _ => 0), 31, m + 13) rfl t1
  simp only [← ev] at k1
  clear hq ev
  obtain ⟨Yv, Mv, nv⟩ := v
  dsimp only at hv hq' k1
  simp (disch := omega) only [Option.toList_some, Option.toList_none, List.nil_append, List.cons_append, List.append_nil, true_and, and_true, not_true_eq_false, not_false_eq_true, true_implies, false_implies, implies_true, and_self, Int.reduceLT, Int.reduceLE, Int.reduceEq, Int.reduceNe, Int.reduceAdd, Int.reduceSub, Int.reduceMul, Int.reduceNeg, Int.reduceToNat, Int.toNat_natCast, ↓kk_ck, ↓kk_im, ↓kk_in, s_188_4, s_188_8, s_188_12, h, ne_eq, t1, t2, k1, hv]
  exact hq'
def l_188_29_1 : List (Nat × Nat × Nat × Int × (Nat → Int)) := (0, 40, 22, 13, fun _ => 0) :: (l_39_40 ++ ([(1, 29, 1, 40, fun _ => 0)]))
theorem c_188_29_1 {w : vi_W} (hn : w.2.2.1 = 40) (h : w.1.1 29 = 31) (hq : vi_ok GG (d + 13) 188 26 [some (.inr (.inr 29))] [] (ywO w l_188_29_1) Q) : vi_ok GG (d + 13) 188 15 [some (.inr (.inr 29))] [] w Q := by
  obtain ⟨Y, M, n, m⟩ := w
  have hn : n = 40 := hn
  subst hn
  have h : Y.1 29 = 31 := h
  have t1 : (vi_ynew Y 40 22 13).1 40 = 22 := yn1
  have t2 : (vi_ynew Y 40 22 13).1 29 = 31 := by rw [yn1o (by decide)]; exact h
  obtain ⟨v, ev⟩ : ∃ v : vi_W, v = ywO (vi_ynew Y 40 22 13, vi_rs M 40 (fun _ => 0), 41, m + 13) l_39_40 := ⟨_, rfl⟩
  have hv : v.1.1 29 = 31 := by rw [ev, ywO_T]; show yoT 29 ((vi_ynew Y 40 22 13).1 29) l_39_40 = 31; rw [t2]; decide +kernel
  have hq' : vi_ok GG (d + 13) 188 26 [some (.inr (.inr 29))] [] (vi_yfin v.1 29 1 ((40 : Nat) : Int), v.2) Q := by
    rw [l_188_29_1, ywO_c, ywO_a, show ywO1 (Y, M, 40, m) (0, 40, 22, 13, fun _ => 0) = (vi_ynew Y 40 22 13, vi_rs M 40 (fun _ => 0), 41, m + 13) from rfl, ← ev] at hq
    exact hq
  have k1 := fun {K : Option vi_V → vi_W → Prop} => @k_39_40 d K (vi_ynew Y 40 22 13, vi_rs M 40 (fun _ => 0), 41, m + 13) rfl t1
  simp only [← ev] at k1
  clear hq ev
  obtain ⟨Yv, Mv, nv⟩ := v
  dsimp only at hv hq' k1
  simp (disch := omega) only [Option.toList_some, Option.toList_none, List.nil_append, List.cons_append, List.append_nil, true_and, and_true, not_true_eq_false, not_false_eq_true, true_implies, false_implies, implies_true, and_self, Int.reduceLT, Int.reduceLE, Int.reduceEq, Int.reduceNe, Int.reduceAdd, Int.reduceSub, Int.reduceMul, Int.reduceNeg, Int.reduceToNat, Int.toNat_natCast, ↓kk_ck, ↓kk_im, ↓kk_in, s_188_15, s_188_19, s_188_23, h, ne_eq, t1, t2, k1, hv]
  exact hq'
def l_188_29_2 : List (Nat × Nat × Nat × Int × (Nat → Int)) := (0, 50, 22, 13, fun _ => 0) :: (l_39_50 ++ ([(1, 29, 2, 50, fun _ => 0)]))
theorem c_188_29_2 {w : vi_W} (hn : w.2.2.1 = 50) (h : w.1.1 29 = 31) (hq : vi_ok GG (d + 13) 188 37 [some (.inr (.inr 29))] [] (ywO w l_188_29_2) Q) : vi_ok GG (d + 13) 188 26 [some (.inr (.inr 29))] [] w Q := by
  obtain ⟨Y, M, n, m⟩ := w
  have hn : n = 50 := hn
  subst hn
  have h : Y.1 29 = 31 := h
  have t1 : (vi_ynew Y 50 22 13).1 50 = 22 := yn1
  have t2 : (vi_ynew Y 50 22 13).1 29 = 31 := by rw [yn1o (by decide)]; exact h
  obtain ⟨v, ev⟩ : ∃ v : vi_W, v = ywO (vi_ynew Y 50 22 13, vi_rs M 50 (fun _ => 0), 51, m + 13) l_39_50 := ⟨_, rfl⟩
  have hv : v.1.1 29 = 31 := by rw [ev, ywO_T]; show yoT 29 ((vi_ynew Y 50 22 13).1 29) l_39_50 = 31; rw [t2]; decide +kernel
  have hq' : vi_ok GG (d + 13) 188 37 [some (.inr (.inr 29))] [] (vi_yfin v.1 29 2 ((50 : Nat) : Int), v.2) Q := by
    rw [l_188_29_2, ywO_c, ywO_a, show ywO1 (Y, M, 50, m) (0, 50, 22, 13, fun _ => 0) = (vi_ynew Y 50 22 13, vi_rs M 50 (fun _ => 0), 51, m + 13) from rfl, ← ev] at hq
    exact hq
  have k1 := fun {K : Option vi_V → vi_W → Prop} => @k_39_50 d K (vi_ynew Y 50 22 13, vi_rs M 50 (fun _ => 0), 51, m + 13) rfl t1
  simp only [← ev] at k1
  clear hq ev
  obtain ⟨Yv, Mv, nv⟩ := v
  dsimp only at hv hq' k1
  simp (disch := omega) only [Option.toList_some, Option.toList_none, List.nil_append, List.cons_append, List.append_nil, true_and, and_true, not_true_eq_false, not_false_eq_true, true_implies, false_implies, implies_true, and_self, Int.reduceLT, Int.reduceLE, Int.reduceEq, Int.reduceNe, Int.reduceAdd, Int.reduceSub, Int.reduceMul, Int.reduceNeg, Int.reduceToNat, Int.toNat_natCast, ↓kk_ck, ↓kk_im, ↓kk_in, s_188_26, s_188_30, s_188_34, h, ne_eq, t1, t2, k1, hv]
  exact hq'
def l_188_29_4 : List (Nat × Nat × Nat × Int × (Nat → Int)) := (0, 73, 27, 11, fun _ => 0) :: (l_119_73 ++ ([(1, 29, 4, 73, fun _ => 0)]))
theorem c_188_29_4 {w : vi_W} (hn : w.2.2.1 = 73) (h : w.1.1 29 = 31) (f0 : (w.1.2.2 29 0).toNat = 30) (f3 : (w.1.2.2 29 3).toNat = 60) (hq : vi_ok GG (d + 13) 188 63 [some (.inr (.inr 29))] [] (ywO w l_188_29_4) Q) : vi_ok GG (d + 13) 188 52 [some (.inr (.inr 29))] [] w Q := by
  obtain ⟨Y, M, n, m⟩ := w
  have hn : n = 73 := hn
  subst hn
  have h : Y.1 29 = 31 := h
  have t1 : (vi_ynew Y 73 27 11).1 73 = 27 := yn1
  have t2 : (vi_ynew Y 73 27 11).1 29 = 31 := by rw [yn1o (by decide)]; exact h
  have t6 : ((vi_ynew Y 73 27 11).2.2 29 0).toNat = 30 := by rw [yn3o (by decide)]; exact f0
  have t7 : ((vi_ynew Y 73 27 11).2.2 29 3).toNat = 60 := by rw [yn3o (by decide)]; exact f3
  obtain ⟨v, ev⟩ : ∃ v : vi_W, v = ywO (vi_ynew Y 73 27 11, vi_rs M 73 (fun _ => 0), 74, m + 11) l_119_73 := ⟨_, rfl⟩
  have hv : v.1.1 29 = 31 := by rw [ev, ywO_T]; show yoT 29 ((vi_ynew Y 73 27 11).1 29) l_119_73 = 31; rw [t2]; decide +kernel
  have hq' : vi_ok GG (d + 13) 188 63 [some (.inr (.inr 29))] [] (vi_yfin v.1 29 4 ((73 : Nat) : Int), v.2) Q := by
    rw [l_188_29_4, ywO_c, ywO_a, show ywO1 (Y, M, 73, m) (0, 73, 27, 11, fun _ => 0) = (vi_ynew Y 73 27 11, vi_rs M 73 (fun _ => 0), 74, m + 11) from rfl, ← ev] at hq
    exact hq
  have k1 := fun {K : Option vi_V → vi_W → Prop} => @k_119_73 d K (vi_ynew Y 73 27 11, vi_rs M 73 (fun _ => 0), 74, m + 11) rfl t1
  simp only [← ev] at k1
  clear hq ev
  obtain ⟨Yv, Mv, nv⟩ := v
  dsimp only at hv hq' k1
  simp (disch := omega) only [Option.toList_some, Option.toList_none, List.nil_append, List.cons_append, List.append_nil, true_and, and_true, not_true_eq_false, not_false_eq_true, true_implies, false_implies, implies_true, and_self, Int.reduceLT, Int.reduceLE, Int.reduceEq, Int.reduceNe, Int.reduceAdd, Int.reduceSub, Int.reduceMul, Int.reduceNeg, Int.reduceToNat, Int.toNat_natCast, ↓kk_ck, ↓kk_im, ↓kk_in, s_188_52, s_188_56, s_188_60, h, ne_eq, t1, t2, t6, t7, k1, hv]
  exact hq'
def l_188_29_5 : List (Nat × Nat × Nat × Int × (Nat → Int)) := (0, 77, 24, 15, fun _ => 0) :: (l_80_77 ++ ([(1, 29, 5, 77, fun _ => 0)]))
theorem c_188_29_5 {w : vi_W} (hn : w.2.2.1 = 77) (h : w.1.1 29 = 31) (f0 : (w.1.2.2 29 0).toNat = 30) (f3 : (w.1.2.2 29 3).toNat = 60) (hq : vi_ok GG (d + 13) 188 82 [some (.inr (.inr 29))] [] (ywO w l_188_29_5) Q) : vi_ok GG (d + 13) 188 63 [some (.inr (.inr 29))] [] w Q := by
  obtain ⟨Y, M, n, m⟩ := w
  have hn : n = 77 := hn
  subst hn
  have h : Y.1 29 = 31 := h
  have t1 : (vi_ynew Y 77 24 15).1 77 = 24 := yn1
  have t2 : (vi_ynew Y 77 24 15).1 29 = 31 := by rw [yn1o (by decide)]; exact h
  have t6 : ((vi_ynew Y 77 24 15).2.2 29 0).toNat = 30 := by rw [yn3o (by decide)]; exact f0
  have t7 : ((vi_ynew Y 77 24 15).2.2 29 3).toNat = 60 := by rw [yn3o (by decide)]; exact f3
  obtain ⟨v, ev⟩ : ∃ v : vi_W, v = ywO (vi_ynew Y 77 24 15, vi_rs M 77 (fun _ => 0), 78, m + 15) l_80_77 := ⟨_, rfl⟩
  have hv : v.1.1 29 = 31 := by rw [ev, ywO_T]; show yoT 29 ((vi_ynew Y 77 24 15).1 29) l_80_77 = 31; rw [t2]; decide +kernel
  have hq' : vi_ok GG (d + 13) 188 82 [some (.inr (.inr 29))] [] (vi_yfin v.1 29 5 ((77 : Nat) : Int), v.2) Q := by
    rw [l_188_29_5, ywO_c, ywO_a, show ywO1 (Y, M, 77, m) (0, 77, 24, 15, fun _ => 0) = (vi_ynew Y 77 24 15, vi_rs M 77 (fun _ => 0), 78, m + 15) from rfl, ← ev] at hq
    exact hq
  have k1 := fun {K : Option vi_V → vi_W → Prop} => @k_80_77 d K (vi_ynew Y 77 24 15, vi_rs M 77 (fun _ => 0), 78, m + 15) rfl t1
  simp only [← ev] at k1
  clear hq ev
  obtain ⟨Yv, Mv, nv⟩ := v
  dsimp only at hv hq' k1
  simp (disch := omega) only [Option.toList_some, Option.toList_none, List.nil_append, List.cons_append, List.append_nil, true_and, and_true, not_true_eq_false, not_false_eq_true, true_implies, false_implies, implies_true, and_self, Int.reduceLT, Int.reduceLE, Int.reduceEq, Int.reduceNe, Int.reduceAdd, Int.reduceSub, Int.reduceMul, Int.reduceNeg, Int.reduceToNat, Int.toNat_natCast, ↓kk_ck, ↓kk_im, ↓kk_in, s_188_63, s_188_67, s_188_72, s_188_76, s_188_79, h, ne_eq, t1, t2, t6, t7, k1, hv]
  exact hq'
def l_188_29_6 : List (Nat × Nat × Nat × Int × (Nat → Int)) := (0, 88, 30, 6, fun _ => 0) :: (l_177_88 ++ ([(1, 29, 6, 88, fun _ => 0)]))
theorem c_188_29_6 {w : vi_W} (hn : w.2.2.1 = 88) (h : w.1.1 29 = 31) (f0 : (w.1.2.2 29 0).toNat = 30) (f3 : (w.1.2.2 29 3).toNat = 60) (hq : vi_ok GG (d + 13) 188 97 [some (.inr (.inr 29))] [] (ywO w l_188_29_6) Q) : vi_ok GG (d + 13) 188 82 [some (.inr (.inr 29))] [] w Q := by
  obtain ⟨Y, M, n, m⟩ := w
  have hn : n = 88 := hn
  subst hn
  have h : Y.1 29 = 31 := h
  have t1 : (vi_ynew Y 88 30 6).1 88 = 30 := yn1
  have t2 : (vi_ynew Y 88 30 6).1 29 = 31 := by rw [yn1o (by decide)]; exact h
  have t6 : ((vi_ynew Y 88 30 6).2.2 29 0).toNat = 30 := by rw [yn3o (by decide)]; exact f0
  have t7 : ((vi_ynew Y 88 30 6).2.2 29 3).toNat = 60 := by rw [yn3o (by decide)]; exact f3
  obtain ⟨v, ev⟩ : ∃ v : vi_W, v = ywO (vi_ynew Y 88 30 6, vi_rs M 88 (fun _ => 0), 89, m + 6) l_177_88 := ⟨_, rfl⟩
  have hv : v.1.1 29 = 31 := by rw [ev, ywO_T]; show yoT 29 ((vi_ynew Y 88 30 6).1 29) l_177_88 = 31; rw [t2]; decide +kernel
  have hq' : vi_ok GG (d + 13) 188 97 [some (.inr (.inr 29))] [] (vi_yfin v.1 29 6 ((88 : Nat) : Int), v.2) Q := by
    rw [l_188_29_6, ywO_c, ywO_a, show ywO1 (Y, M, 88, m) (0, 88, 30, 6, fun _ => 0) = (vi_ynew Y 88 30 6, vi_rs M 88 (fun _ => 0), 89, m + 6) from rfl, ← ev] at hq
    exact hq
  have k1 := fun {K : Option vi_V → vi_W → Prop} => @k_177_88 d K (vi_ynew Y 88 30 6, vi_rs M 88 (fun _ => 0), 89, m + 6) rfl t1
  simp only [← ev] at k1
  clear hq ev
  obtain ⟨Yv, Mv, nv⟩ := v
  dsimp only at hv hq' k1
  simp (disch := omega) only [Option.toList_some, Option.toList_none, List.nil_append, List.cons_append, List.append_nil, true_and, and_true, not_true_eq_false, not_false_eq_true, true_implies, false_implies, implies_true, and_self, Int.reduceLT, Int.reduceLE, Int.reduceEq, Int.reduceNe, Int.reduceAdd, Int.reduceSub, Int.reduceMul, Int.reduceNeg, Int.reduceToNat, Int.toNat_natCast, ↓kk_ck, ↓kk_im, ↓kk_in, s_188_82, s_188_86, s_188_91, s_188_94, h, ne_eq, t1, t2, t6, t7, k1, hv]
  exact hq'
def l_188_29_7 : List (Nat × Nat × Nat × Int × (Nat → Int)) := (0, 97, 25, 6, fun _ => 0) :: (l_94_97 ++ ([(1, 29, 7, 97, fun _ => 0)]))
theorem c_188_29_7 {w : vi_W} (hn : w.2.2.1 = 97) (h : w.1.1 29 = 31) (f0 : (w.1.2.2 29 0).toNat = 30) (f3 : (w.1.2.2 29 3).toNat = 60) (hq : vi_ok GG (d + 13) 188 116 [some (.inr (.inr 29))] [] (ywO w l_188_29_7) Q) : vi_ok GG (d + 13) 188 97 [some (.inr (.inr 29))] [] w Q := by
  obtain ⟨Y, M, n, m⟩ := w
  have hn : n = 97 := hn
  subst hn
  have h : Y.1 29 = 31 := h
  have t1 : (vi_ynew Y 97 25 6).1 97 = 25 := yn1
  have t2 : (vi_ynew Y 97 25 6).1 29 = 31 := by rw [yn1o (by decide)]; exact h
  have t6 : ((vi_ynew Y 97 25 6).2.2 29 0).toNat = 30 := by rw [yn3o (by decide)]; exact f0
  have t7 : ((vi_ynew Y 97 25 6).2.2 29 3).toNat = 60 := by rw [yn3o (by decide)]; exact f3
  obtain ⟨v, ev⟩ : ∃ v : vi_W, v = ywO (vi_ynew Y 97 25 6, vi_rs M 97 (fun _ => 0), 98, m + 6) l_94_97 := ⟨_, rfl⟩
  have hv : v.1.1 29 = 31 := by rw [ev, ywO_T]; show yoT 29 ((vi_ynew Y 97 25 6).1 29) l_94_97 = 31; rw [t2]; decide +kernel
  have hq' : vi_ok GG (d + 13) 188 116 [some (.inr (.inr 29))] [] (vi_yfin v.1 29 7 ((97 : Nat) : Int), v.2) Q := by
    rw [l_188_29_7, ywO_c, ywO_a, show ywO1 (Y, M, 97, m) (0, 97, 25, 6, fun _ => 0) = (vi_ynew Y 97 25 6, vi_rs M 97 (fun _ => 0), 98, m + 6) from rfl, ← ev] at hq
    exact hq
  have k1 := fun {K : Option vi_V → vi_W → Prop} => @k_94_97 d K (vi_ynew Y 97 25 6, vi_rs M 97 (fun _ => 0), 98, m + 6) rfl t1
  simp only [← ev] at k1
  clear hq ev
  obtain ⟨Yv, Mv, nv⟩ := v
  dsimp only at hv hq' k1
  simp (disch := omega) only [Option.toList_some, Option.toList_none, List.nil_append, List.cons_append, List.append_nil, true_and, and_true, not_true_eq_false, not_false_eq_true, true_implies, false_implies, implies_true, and_self, Int.reduceLT, Int.reduceLE, Int.reduceEq, Int.reduceNe, Int.reduceAdd, Int.reduceSub, Int.reduceMul, Int.reduceNeg, Int.reduceToNat, Int.toNat_natCast, ↓kk_ck, ↓kk_im, ↓kk_in, s_188_97, s_188_101, s_188_106, s_188_110, s_188_113, h, ne_eq, t1, t2, t6, t7, k1, hv]
  exact hq'
def l_188_29_8 : List (Nat × Nat × Nat × Int × (Nat → Int)) := (0, 103, 29, 4, fun _ => 0) :: (l_160_103 ++ ([(1, 29, 8, 103, fun _ => 0)]))
theorem c_188_29_8 {w : vi_W} (hn : w.2.2.1 = 103) (h : w.1.1 29 = 31) (f0 : (w.1.2.2 29 0).toNat = 30) (f3 : (w.1.2.2 29 3).toNat = 60) (hq : vi_ok GG (d + 13) 188 131 [some (.inr (.inr 29))] [] (ywO w l_188_29_8) Q) : vi_ok GG (d + 13) 188 116 [some (.inr (.inr 29))] [] w Q := by
  obtain ⟨Y, M, n, m⟩ := w
  have hn : n = 103 := hn
  subst hn
  have h : Y.1 29 = 31 := h
  have t1 : (vi_ynew Y 103 29 4).1 103 = 29 := yn1
  have t2 : (vi_ynew Y 103 29 4).1 29 = 31 := by rw [yn1o (by decide)]; exact h
  have t6 : ((vi_ynew Y 103 29 4).2.2 29 0).toNat = 30 := by rw [yn3o (by decide)]; exact f0
  have t7 : ((vi_ynew Y 103 29 4).2.2 29 3).toNat = 60 := by rw [yn3o (by decide)]; exact f3
  obtain ⟨v, ev⟩ : ∃ v : vi_W, v = ywO (vi_ynew Y 103 29 4, vi_rs M 103 (fun _ => 0), 104, m + 4) l_160_103 := ⟨_, rfl⟩
  have hv : v.1.1 29 = 31 := by rw [ev, ywO_T]; show yoT 29 ((vi_ynew Y 103 29 4).1 29) l_160_103 = 31; rw [t2]; decide +kernel
  have hq' : vi_ok GG (d + 13) 188 131 [some (.inr (.inr 29))] [] (vi_yfin v.1 29 8 ((103 : Nat) : Int), v.2) Q := by
    rw [l_188_29_8, ywO_c, ywO_a, show ywO1 (Y, M, 103, m) (0, 103, 29, 4, fun _ => 0) = (vi_ynew Y 103 29 4, vi_rs M 103 (fun _ => 0), 104, m + 4) from rfl, ← ev] at hq
    exact hq
  have k1 := fun {K : Option vi_V → vi_W → Prop} => @k_160_103 d K (vi_ynew Y 103 29 4, vi_rs M 103 (fun _ => 0), 104, m + 4) rfl t1
  simp only [← ev] at k1
  clear hq ev
  obtain ⟨Yv, Mv, nv⟩ := v
  dsimp only at hv hq' k1
  simp (disch := omega) only [Option.toList_some, Option.toList_none, List.nil_append, List.cons_append, List.append_nil, true_and, and_true, not_true_eq_false, not_false_eq_true, true_implies, false_implies, implies_true, and_self, Int.reduceLT, Int.reduceLE, Int.reduceEq, Int.reduceNe, Int.reduceAdd, Int.reduceSub, Int.reduceMul, Int.reduceNeg, Int.reduceToNat, Int.toNat_natCast, ↓kk_ck, ↓kk_im, ↓kk_in, s_188_116, s_188_120, s_188_125, s_188_128, h, ne_eq, t1, t2, t6, t7, k1, hv]
  exact hq'
def l_188_29_9 : List (Nat × Nat × Nat × Int × (Nat → Int)) := (0, 107, 26, 4, fun _ => 0) :: (l_104_107 ++ ([(1, 29, 9, 107, fun _ => 0)]))
theorem c_188_29_9 {w : vi_W} (hn : w.2.2.1 = 107) (h : w.1.1 29 = 31) (f0 : (w.1.2.2 29 0).toNat = 30) (f3 : (w.1.2.2 29 3).toNat = 60) (hq : vi_ok GG (d + 13) 188 146 [some (.inr (.inr 29))] [] (ywO w l_188_29_9) Q) : vi_ok GG (d + 13) 188 131 [some (.inr (.inr 29))] [] w Q := by
  obtain ⟨Y, M, n, m⟩ := w
  have hn : n = 107 := hn
  subst hn
  have h : Y.1 29 = 31 := h
  have t1 : (vi_ynew Y 107 26 4).1 107 = 26 := yn1
  have t2 : (vi_ynew Y 107 26 4).1 29 = 31 := by rw [yn1o (by decide)]; exact h
  have t6 : ((vi_ynew Y 107 26 4).2.2 29 0).toNat = 30 := by rw [yn3o (by decide)]; exact f0
  have t7 : ((vi_ynew Y 107 26 4).2.2 29 3).toNat = 60 := by rw [yn3o (by decide)]; exact f3
  obtain ⟨v, ev⟩ : ∃ v : vi_W, v = ywO (vi_ynew Y 107 26 4, vi_rs M 107 (fun _ => 0), 108, m + 4) l_104_107 := ⟨_, rfl⟩
  have hv : v.1.1 29 = 31 := by rw [ev, ywO_T]; show yoT 29 ((vi_ynew Y 107 26 4).1 29) l_104_107 = 31; rw [t2]; decide +kernel
  have hq' : vi_ok GG (d + 13) 188 146 [some (.inr (.inr 29))] [] (vi_yfin v.1 29 9 ((107 : Nat) : Int), v.2) Q := by
    rw [l_188_29_9, ywO_c, ywO_a, show ywO1 (Y, M, 107, m) (0, 107, 26, 4, fun _ => 0) = (vi_ynew Y 107 26 4, vi_rs M 107 (fun _ => 0), 108, m + 4) from rfl, ← ev] at hq
    exact hq
  have k1 := fun {K : Option vi_V → vi_W → Prop} => @k_104_107 d K (vi_ynew Y 107 26 4, vi_rs M 107 (fun _ => 0), 108, m + 4) rfl t1
  simp only [← ev] at k1
  clear hq ev
  obtain ⟨Yv, Mv, nv⟩ := v
  dsimp only at hv hq' k1
  simp (disch := omega) only [Option.toList_some, Option.toList_none, List.nil_append, List.cons_append, List.append_nil, true_and, and_true, not_true_eq_false, not_false_eq_true, true_implies, false_implies, implies_true, and_self, Int.reduceLT, Int.reduceLE, Int.reduceEq, Int.reduceNe, Int.reduceAdd, Int.reduceSub, Int.reduceMul, Int.reduceNeg, Int.reduceToNat, Int.toNat_natCast, ↓kk_ck, ↓kk_im, ↓kk_in, s_188_131, s_188_135, s_188_140, s_188_143, h, ne_eq, t1, t2, t6, t7, k1, hv]
  exact hq'
def l_188_29_10 : List (Nat × Nat × Nat × Int × (Nat → Int)) := [(0, 111, 1, 5, fun _ => 0), (1, 29, 10, 111, fun _ => 0)]
theorem c_188_29_10 {w : vi_W} (hn : w.2.2.1 = 111) (h : w.1.1 29 = 31) (f0 : (w.1.2.2 29 0).toNat = 30) (f3 : (w.1.2.2 29 3).toNat = 60) (hq : vi_ok GG (d + 13) 188 153 [some (.inr (.inr 29))] [] (ywO w l_188_29_10) Q) : vi_ok GG (d + 13) 188 146 [some (.inr (.inr 29))] [] w Q := by
  obtain ⟨Y, M, n, m⟩ := w
  have hn : n = 111 := hn
  subst hn
  have h : Y.1 29 = 31 := h
  have t1 : (vi_ynew Y 111 1 5).1 111 = 1 := yn1
  have t2 : (vi_ynew Y 111 1 5).1 29 = 31 := by rw [yn1o (by decide)]; exact h
  have t6 : ((vi_ynew Y 111 1 5).2.2 29 0).toNat = 30 := by rw [yn3o (by decide)]; exact f0
  have t7 : ((vi_ynew Y 111 1 5).2.2 29 3).toNat = 60 := by rw [yn3o (by decide)]; exact f3
  have t3 : (5 : Int).toNat = 5 := rfl
  simp (disch := omega) only [Option.toList_some, Option.toList_none, List.nil_append, List.cons_append, List.append_nil, true_and, and_true, not_true_eq_false, not_false_eq_true, true_implies, false_implies, implies_true, and_self, Int.reduceLT, Int.reduceLE, Int.reduceEq, Int.reduceNe, Int.reduceAdd, Int.reduceSub, Int.reduceMul, Int.reduceNeg, Int.reduceToNat, Int.toNat_natCast, ↓kk_ck, ↓kk_im, ↓kk_in, s_188_146, s_188_150, h, ne_eq, t1, t2, t6, t7, t3]
  exact hq
end
