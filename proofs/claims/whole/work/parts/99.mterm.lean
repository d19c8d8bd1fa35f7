/-! Contracts of the reference, eleventh part: terms, what lies beyond the box. -/
def mIb (f : Nat → Int) (a u v : Int) : Bool := decide (0 ≤ a ∧ a ≤ 2 ∧ 0 ≤ u ∧ u < f (if a = 0 then 97 else 96) ∧ 0 ≤ v ∧ v < f (if a = 2 then 97 else 98))
/-- from the j-th down, what doesn't lie in the box any more goes out -/
def mGo (b w cnt : Nat) : Nat → (Nat → Int) → (Nat → Int)
  | 0, f => f
  | j + 1, f => mGo b w cnt j (if mIb f (f (b + w * j)) (f (b + w * j + 1)) (f (b + w * j + 2)) = true then f else mOut f b w cnt (w * j) (w * ((f cnt).toNat - 1)) (((f cnt).toNat - 1 : Nat) : Int))
/-- b, w, cnt, how many: rods, rows, screws -/
def mLm (b w cnt N : Nat) : Prop := (w = 4 ∨ w = 5 ∨ w = 6) ∧ 292 ≤ cnt ∧ cnt < 295 ∧ (b + w * N ≤ 96 ∨ 100 ≤ b) ∧ b + w * N ≤ 292
theorem mLm_le {b w cnt N N' : Nat} (h : mLm b w cnt N) (hN : N' ≤ N) : mLm b w cnt N' := by
  have : w * N' ≤ w * N := Nat.mul_le_mul_left _ hN
  exact ⟨h.1, h.2.1, h.2.2.1, by have := h.2.2.2.1; omega, by have := h.2.2.2.2; omega⟩
/-- one step -/
theorem mOut_o {f : Nat → Int} {b w cnt N j : Nat} {x : Int} (hL : mLm b w cnt N) (hj : j < N) {k : Nat} (hk : k < b ∨ b + w * N ≤ k) (hc : k ≠ cnt) : mOut f b w cnt (w * j) (w * (N - 1)) x k = f k := by
  have : w * (N - 1) ≤ w * N := Nat.mul_le_mul_left _ (by omega)
  unfold mOut
  rw [if_neg hc, if_neg (by omega)]
/-- what going beyond leaves alone, how many stay -/
theorem mGo_o {b w cnt : Nat} : ∀ (j : Nat) (f : Nat → Int) (N : Nat), f cnt = (N : Int) → j ≤ N → mLm b w cnt N → (∀ k, (k < b ∨ b + w * N ≤ k) → k ≠ cnt → mGo b w cnt j f k = f k) ∧ ∃ N' : Nat, N' ≤ N ∧ mGo b w cnt j f cnt = (N' : Int)
  | 0, f, N, h, _, _ => ⟨fun _ _ _ => rfl, N, Nat.le_refl _, h⟩
  | j + 1, f, N, h, hj, hL => by
    rw [mGo]
    by_cases q : mIb f (f (b + w * j)) (f (b + w * j + 1)) (f (b + w * j + 2)) = true
    · rw [if_pos q]
      exact mGo_o j f N h (by omega) hL
    · rw [if_neg q]
      have e : (f cnt).toNat = N := by omega
      rw [e]
      obtain ⟨h1, N', h2, h3⟩ := mGo_o j (mOut f b w cnt (w * j) (w * (N - 1)) ((N - 1 : Nat) : Int)) (N - 1) (if_pos rfl) (by omega) (mLm_le hL (by omega))
      refine ⟨fun k hk hc => ?_, N', by omega, h3⟩
      have : w * (N - 1) ≤ w * N := Nat.mul_le_mul_left _ (by omega)
      rw [h1 k (by omega) hc]
      exact mOut_o hL (by omega) hk hc
section
variable {D : Nat} {K : Option vi_V → vi_W → Prop} {Y : vi_Y} {nn : Nat × Nat}
theorem h_254 (hY : kY Y 151) {b w cnt : Nat} (hD : 3 ≤ D) {Q : Option vi_V → vi_W → Prop} : ∀ (j N : Nat) (M : vi_M) (z : Int), z = (j : Int) - 1 → M 114 cnt = (N : Int) → j ≤ N → mLm b w cnt N → mBx M → Q none (Y, vi_rs M 114 (mGo b w cnt j (M 114)), nn) → vi_ok GG D 254 10 [some (.inr (.inr 112)), some (.inl (b : Int)), some (.inl (w : Int)), some (.inl (cnt : Int)), some (.inl z)] [] (Y, M, nn) Q := by
  obtain ⟨R1, -, R3, -⟩ := y_112 hY (by omega)
  obtain ⟨w1, w2⟩ := y_114 hY (by omega)
  intro j
  induction j with
  | zero =>
    intro N M z hz hc hj hL hB hQ
    rw [show mGo b w cnt 0 (M 114) = M 114 from rfl, vi_rs_id rfl] at hQ
    rw [s_254_10]
    simp (disch := omega) only [Option.toList_some, Option.toList_none, List.nil_append, List.cons_append, List.append_nil, true_and, and_true, not_true_eq_false, not_false_eq_true, true_implies, false_implies, implies_true, and_self, Int.reduceLT, Int.reduceLE, Int.reduceEq, Int.reduceNe, Int.reduceAdd, Int.reduceSub, Int.reduceMul, Int.reduceNeg, Int.reduceToNat, Int.toNat_natCast, ↓kk_ck, ↓kk_im, ↓kk_in, s_254_74]
    exact hQ
  | succ j ih =>
    intro N M z hz hc hj hL hB hQ
    obtain rfl : z = (j : Int) := by omega
    have hw := hL.1
    have hwj : w * j + w ≤ w * N := by
      have := Nat.mul_le_mul_left w (show j + 1 ≤ N by omega)
      rw [Nat.mul_add, Nat.mul_one] at this
      exact this
    have l2 := hL.2.2.2.2
    have hcl := hL.2.2.1
    have e0 : (w : Int) * (j : Int) = ((w * j : Nat) : Int) := by rcases hw with rfl | rfl | rfl <;> omega
    have a0 : ((b : Int) + ((w * j : Nat) : Int)).toNat = b + w * j := by omega
    have a1 : ((b : Int) + ((w * j : Nat) : Int) + 1).toNat = b + w * j + 1 := by omega
    have a2 : ((b : Int) + ((w * j : Nat) : Int) + 2).toNat = b + w * j + 2 := by omega
    rw [mGo] at hQ
    have zz : ((j : Int) + -1) = (j : Int) - 1 := by omega
    have hj2 : (j : Int) < 2147483648 := by rcases hw with rfl | rfl | rfl <;> omega
    rw [s_254_10]
    by_cases q : mIb (M 114) (M 114 (b + w * j)) (M 114 (b + w * j + 1)) (M 114 (b + w * j + 2)) = true
    · rw [if_pos q] at hQ
      have hp : mIp M (M 114 (b + w * j)) (M 114 (b + w * j + 1)) (M 114 (b + w * j + 2)) := by
        unfold mIb at q
        unfold mIp
        exact of_decide_eq_true q
      have := ih N M ((j : Int) - 1) rfl hc (by omega) hL hB hQ
      clear ih hQ q
      generalize w * j = p0 at *
      simp (disch := omega) only [Option.toList_some, Option.toList_none, List.nil_append, List.cons_append, List.append_nil, true_and, and_true, not_true_eq_false, not_false_eq_true, true_implies, false_implies, implies_true, and_self, Int.reduceLT, Int.reduceLE, Int.reduceEq, Int.reduceNe, Int.reduceAdd, Int.reduceSub, Int.reduceMul, Int.reduceNeg, Int.reduceToNat, Int.toNat_natCast, ↓kk_ck, ↓kk_im, ↓kk_in, s_254_15, s_254_20, s_254_26, s_254_27, s_254_31, s_254_39, s_254_40, s_254_44, s_254_52, s_254_53, s_254_56, s_254_68, R1, R3, w1, w2, e0, vi_32, a0, a1, a2, k_247t hY hB hp, ne_eq, zz]
      exact this
    · rw [if_neg q] at hQ
      have hp : ¬ mIp M (M 114 (b + w * j)) (M 114 (b + w * j + 1)) (M 114 (b + w * j + 2)) := fun h => q (by
        unfold mIb
        exact decide_eq_true h)
      have e : (M 114 cnt).toNat = N := by omega
      rw [e] at hQ
      have hle : w * (N - 1) ≤ w * N := Nat.mul_le_mul_left _ (by omega)
      have B := fun {D : Nat} {K : Option vi_V → vi_W → Prop} (hD : 1 ≤ D) => @k_252 D K Y M nn hY b w cnt j N hw (by omega) (by have := hL.2.1; omega) (by omega) hc hD
      have hB' : mBx (vi_rs M 114 (mOut (M 114) b w cnt (w * j) (w * (N - 1)) ((N - 1 : Nat) : Int))) := by
        have hx := hL.2.2.2.1
        have hy := hL.2.1
        unfold mBx at *
        rw [vi_rs_s, mOut_o hL (by omega) (by omega) (by omega), mOut_o hL (by omega) (by omega) (by omega), mOut_o hL (by omega) (by omega) (by omega)]
        exact hB
      have := ih (N - 1) (vi_rs M 114 (mOut (M 114) b w cnt (w * j) (w * (N - 1)) ((N - 1 : Nat) : Int))) ((j : Int) - 1) rfl (by rw [vi_rs_s]; exact if_pos rfl) (by omega) (mLm_le hL (by omega)) hB' (by rw [vi_rs_s, vi_rs_rs]; exact hQ)
      clear ih hQ q hB'
      generalize w * j = p0 at *
      generalize w * (N - 1) = pe at *
      simp (disch := omega) only [Option.toList_some, Option.toList_none, List.nil_append, List.cons_append, List.append_nil, true_and, and_true, not_true_eq_false, not_false_eq_true, true_implies, false_implies, implies_true, and_self, Int.reduceLT, Int.reduceLE, Int.reduceEq, Int.reduceNe, Int.reduceAdd, Int.reduceSub, Int.reduceMul, Int.reduceNeg, Int.reduceToNat, Int.toNat_natCast, ↓kk_ck, ↓kk_im, ↓kk_in, s_254_15, s_254_20, s_254_26, s_254_27, s_254_31, s_254_39, s_254_40, s_254_44, s_254_52, s_254_53, s_254_56, s_254_59, s_254_68, R1, R3, w1, w2, e0, vi_32, a0, a1, a2, k_247f hY hB hp, ne_eq, B, zz]
      exact this
theorem k_254 (hY : kY Y 151) {M : vi_M} {b w cnt N : Nat} (hc : M 114 cnt = (N : Int)) (hL : mLm b w cnt N) (hB : mBx M) (hD : 4 ≤ D) : vi_call GG D 254 [.inr (.inr 112), .inl (b : Int), .inl (w : Int), .inl (cnt : Int)] (Y, M, nn) K ↔ K none (Y, vi_rs M 114 (mGo b w cnt N (M 114)), nn) := by
  obtain ⟨D, rfl⟩ : ∃ k, D = k + 1 := ⟨D - 1, by omega⟩
  obtain ⟨R1, -, R3, -⟩ := y_112 hY (by omega)
  obtain ⟨w1, w2⟩ := y_114 hY (by omega)
  refine vi_k (r := none) fun Q hQ => ?_
  have := h_254 (D := D) hY (by omega) N N M ((N : Int) - 1) rfl hc (Nat.le_refl _) hL hB hQ
  have hcl := hL.2.2.1
  have hN : (N : Int) < 2147483648 := by
    have := hL.2.2.2.2
    rcases hL.1 with rfl | rfl | rfl <;> omega
  clear hQ
  simp (disch := omega) only [Option.toList_some, Option.toList_none, List.nil_append, List.cons_append, List.append_nil, true_and, and_true, not_true_eq_false, not_false_eq_true, true_implies, false_implies, implies_true, and_self, Int.reduceLT, Int.reduceLE, Int.reduceEq, Int.reduceNe, Int.reduceAdd, Int.reduceSub, Int.reduceMul, Int.reduceNeg, Int.reduceToNat, Int.toNat_natCast, ↓kk_ck, ↓kk_im, ↓kk_in, e_254, s_254_0, s_254_4, s_254_6, R1, R3, w1, w2, Int.toNat_natCast, hc, vi_32]
  exact this
theorem k_255n (hY : kY Y 151) {M : vi_M} {a x : Int} (h : ¬ (0 ≤ a ∧ a ≤ 3 ∧ (a ≤ 2 → 1 ≤ x ∧ x ≤ 6) ∧ (a = 3 → 0 ≤ x ∧ x ≤ 99))) (hc : 0 ≤ M 113 1 ∧ M 113 1 < 2147483647) (hD : 2 ≤ D) : vi_call GG D 255 [.inr (.inr 112), .inl a, .inl x] (Y, M, nn) K ↔ K (some (.inl (-1))) (Y, vi_rs (vi_rs M 112 (vi_u (M 112) 0 (-1))) 113 (vi_u (M 113) 1 (M 113 1 + 1)), nn) := by
  obtain ⟨D, rfl⟩ : ∃ k, D = k + 1 := ⟨D - 1, by omega⟩
  obtain ⟨R1, -⟩ := y_112 hY (by omega)
  refine vi_k (r := some (.inl _)) fun Q hQ => ?_
  have A := fun {D : Nat} {K : Option vi_V → vi_W → Prop} (hD : 1 ≤ D) => @k_235 D K Y M nn hY (-1) (by omega) (by exact hc) hD
  by_cases q0 : 0 ≤ a ∧ a ≤ 3
  · by_cases q3 : a = 3
    · subst q3
      have q : ¬ (0 ≤ x ∧ x ≤ 99) := by omega
      simp (disch := omega) only [Option.toList_some, Option.toList_none, List.nil_append, List.cons_append, List.append_nil, true_and, and_true, not_true_eq_false, not_false_eq_true, true_implies, false_implies, implies_true, and_self, Int.reduceLT, Int.reduceLE, Int.reduceEq, Int.reduceNe, Int.reduceAdd, Int.reduceSub, Int.reduceMul, Int.reduceNeg, Int.reduceToNat, Int.toNat_natCast, ↓kk_ck, ↓kk_im, ↓kk_in, e_255, s_255_0, s_255_9, s_255_15, s_255_19, s_255_20, s_255_25, s_255_30, s_255_32, s_255_38, s_255_44, s_255_6, s_255_35, s_255_43, s_255_48, s_255_52, s_255_53, s_255_58, s_255_63, s_255_64, s_255_74, s_255_84, s_255_95, s_255_100, R1, k_234t, k_234f q, A, ne_eq]
      exact hQ
    · have q : ¬ (1 ≤ x ∧ x ≤ 6) := by omega
      simp (disch := omega) only [Option.toList_some, Option.toList_none, List.nil_append, List.cons_append, List.append_nil, true_and, and_true, not_true_eq_false, not_false_eq_true, true_implies, false_implies, implies_true, and_self, Int.reduceLT, Int.reduceLE, Int.reduceEq, Int.reduceNe, Int.reduceAdd, Int.reduceSub, Int.reduceMul, Int.reduceNeg, Int.reduceToNat, Int.toNat_natCast, ↓kk_ck, ↓kk_im, ↓kk_in, e_255, s_255_0, s_255_9, s_255_15, s_255_19, s_255_20, s_255_25, s_255_30, s_255_32, s_255_38, s_255_44, s_255_6, s_255_35, s_255_43, s_255_48, s_255_52, s_255_53, s_255_58, s_255_63, s_255_64, s_255_74, s_255_84, s_255_95, s_255_100, R1, k_234t q0, k_234f q, A, ne_eq]
      exact hQ
  · simp (disch := omega) only [Option.toList_some, Option.toList_none, List.nil_append, List.cons_append, List.append_nil, true_and, and_true, not_true_eq_false, not_false_eq_true, true_implies, false_implies, implies_true, and_self, Int.reduceLT, Int.reduceLE, Int.reduceEq, Int.reduceNe, Int.reduceAdd, Int.reduceSub, Int.reduceMul, Int.reduceNeg, Int.reduceToNat, Int.toNat_natCast, ↓kk_ck, ↓kk_im, ↓kk_in, e_255, s_255_0, s_255_9, s_255_15, s_255_19, s_255_20, s_255_25, s_255_30, s_255_32, s_255_38, s_255_44, s_255_6, s_255_35, s_255_43, s_255_48, s_255_52, s_255_53, s_255_58, s_255_63, s_255_64, s_255_74, s_255_84, s_255_95, s_255_100, R1, k_234f q0, A, ne_eq]
    exact hQ
theorem k_255 (hY : kY Y 151) {M : vi_M} (hB : mBx M) {a : Nat} {x : Int} (h : a ≤ 3 ∧ (a ≤ 2 → 1 ≤ x ∧ x ≤ 6) ∧ (a = 3 → 0 ≤ x ∧ x ≤ 99)) {n m s : Nat} (hn : M 114 292 = (n : Int)) (hm : M 114 293 = (m : Int)) (hs : M 114 294 = (s : Int)) (hn2 : n ≤ 16) (hm2 : m ≤ 8) (hs2 : s ≤ 8) (hc : 0 ≤ M 112 1 ∧ M 112 1 < 2147483647) (hD : 5 ≤ D) :
    vi_call GG D 255 [.inr (.inr 112), .inl (a : Int), .inl x] (Y, M, nn) K ↔ K (some (.inl (M 114 (96 + a)))) (Y, vi_rs (vi_rs M 114 (mGo 132 5 294 s (mGo 100 4 293 m (mGo 0 6 292 n (vi_u (M 114) (96 + a) x))))) 112 (vi_u (vi_u (M 112) 0 0) 1 (M 112 1 + 1)), nn) := by
  obtain ⟨D, rfl⟩ : ∃ k, D = k + 1 := ⟨D - 1, by omega⟩
  obtain ⟨R1, -, R3, -⟩ := y_112 hY (by omega)
  obtain ⟨w1, w2⟩ := y_114 hY (by omega)
  obtain ⟨h3, hx1, hx2⟩ := h
  refine vi_k (r := some (.inl _)) fun Q hQ => ?_
  generalize hf0 : vi_u (M 114) (96 + a) x = f0 at *
  have b0 : (1 ≤ f0 96 ∧ f0 96 ≤ 6) ∧ (1 ≤ f0 97 ∧ f0 97 ≤ 6) ∧ (1 ≤ f0 98 ∧ f0 98 ≤ 6) := by
    obtain ⟨q0, q1, q2⟩ := hB
    rw [← hf0]
    unfold vi_u
    refine ⟨?_, ?_, ?_⟩
    · by_cases q : 96 = 96 + a
      · rw [if_pos q]; omega
      · rw [if_neg q]; exact q0
    · by_cases q : 97 = 96 + a
      · rw [if_pos q]; omega
      · rw [if_neg q]; exact q1
    · by_cases q : 98 = 96 + a
      · rw [if_pos q]; omega
      · rw [if_neg q]; exact q2
  have n0 : f0 292 = (n : Int) := by rw [← hf0]; exact (if_neg (by omega)).trans hn
  have m0 : f0 293 = (m : Int) := by rw [← hf0]; exact (if_neg (by omega)).trans hm
  have s0 : f0 294 = (s : Int) := by rw [← hf0]; exact (if_neg (by omega)).trans hs
  have L1 : mLm 0 6 292 n := ⟨by omega, by omega, by omega, by omega, by omega⟩
  have L2 : mLm 100 4 293 m := ⟨by omega, by omega, by omega, by omega, by omega⟩
  have L3 : mLm 132 5 294 s := ⟨by omega, by omega, by omega, by omega, by omega⟩
  obtain ⟨o1, -⟩ := mGo_o n f0 n n0 (Nat.le_refl _) L1
  generalize hf1 : mGo 0 6 292 n f0 = f1 at *
  have m1 : f1 293 = (m : Int) := by rw [o1 293 (by omega) (by omega)]; exact m0
  have s1 : f1 294 = (s : Int) := by rw [o1 294 (by omega) (by omega)]; exact s0
  have b1 : (1 ≤ f1 96 ∧ f1 96 ≤ 6) ∧ (1 ≤ f1 97 ∧ f1 97 ≤ 6) ∧ (1 ≤ f1 98 ∧ f1 98 ≤ 6) := by rw [o1 96 (by omega) (by omega), o1 97 (by omega) (by omega), o1 98 (by omega) (by omega)]; exact b0
  obtain ⟨o2, -⟩ := mGo_o m f1 m m1 (Nat.le_refl _) L2
  generalize hf2 : mGo 100 4 293 m f1 = f2 at *
  have s2 : f2 294 = (s : Int) := by rw [o2 294 (by omega) (by omega)]; exact s1
  have b2 : (1 ≤ f2 96 ∧ f2 96 ≤ 6) ∧ (1 ≤ f2 97 ∧ f2 97 ≤ 6) ∧ (1 ≤ f2 98 ∧ f2 98 ≤ 6) := by rw [o2 96 (by omega) (by omega), o2 97 (by omega) (by omega), o2 98 (by omega) (by omega)]; exact b1
  have T1 := fun {D : Nat} {K : Option vi_V → vi_W → Prop} (hD : 4 ≤ D) => @k_254 D K Y nn hY (vi_rs M 114 f0) 0 6 292 n (by rw [vi_rs_s]; exact n0) L1 (by unfold mBx; rw [vi_rs_s]; exact b0) hD
  have T2 := fun {D : Nat} {K : Option vi_V → vi_W → Prop} (hD : 4 ≤ D) => @k_254 D K Y nn hY (vi_rs M 114 f1) 100 4 293 m (by rw [vi_rs_s]; exact m1) L2 (by unfold mBx; rw [vi_rs_s]; exact b1) hD
  have T3 := fun {D : Nat} {K : Option vi_V → vi_W → Prop} (hD : 4 ≤ D) => @k_254 D K Y nn hY (vi_rs M 114 f2) 132 5 294 s (by rw [vi_rs_s]; exact s2) L3 (by unfold mBx; rw [vi_rs_s]; exact b2) hD
  rw [vi_rs_s, vi_rs_rs, hf1] at T1
  rw [vi_rs_s, vi_rs_rs, hf2] at T2
  rw [vi_rs_s, vi_rs_rs] at T3
  have T1' := fun {D : Nat} {K : Option vi_V → vi_W → Prop} (hD : 4 ≤ D) => show vi_call GG D 254 [.inr (.inr 112), .inl 0, .inl 6, .inl 292] (Y, vi_rs M 114 f0, nn) K ↔ _ from T1 hD
  have T2' := fun {D : Nat} {K : Option vi_V → vi_W → Prop} (hD : 4 ≤ D) => show vi_call GG D 254 [.inr (.inr 112), .inl 100, .inl 4, .inl 293] (Y, vi_rs M 114 f1, nn) K ↔ _ from T2 hD
  have T3' := fun {D : Nat} {K : Option vi_V → vi_W → Prop} (hD : 4 ≤ D) => show vi_call GG D 254 [.inr (.inr 112), .inl 132, .inl 5, .inl 294] (Y, vi_rs M 114 f2, nn) K ↔ _ from T3 hD
  have A := fun {D : Nat} {K : Option vi_V → vi_W → Prop} (hD : 1 ≤ D) => @k_236 D K Y (vi_rs M 114 (mGo 132 5 294 s f2)) nn hY (M 114 (96 + a)) (by rw [vi_rs_o (by omega)]; exact hc) hD
  rw [vi_rs_o (by omega)] at A
  have a0 : (96 + (a : Int)).toNat = 96 + a := by omega
  by_cases q3 : a = 3
  · have g1 : (0 : Int) ≤ x ∧ x ≤ 99 := hx2 q3
    have q4 : (3 : Int) ≤ (a : Int) := by omega
    simp (disch := omega) only [Option.toList_some, Option.toList_none, List.nil_append, List.cons_append, List.append_nil, true_and, and_true, not_true_eq_false, not_false_eq_true, true_implies, false_implies, implies_true, and_self, Int.reduceLT, Int.reduceLE, Int.reduceEq, Int.reduceNe, Int.reduceAdd, Int.reduceSub, Int.reduceMul, Int.reduceNeg, Int.reduceToNat, Int.toNat_natCast, ↓kk_ck, ↓kk_im, ↓kk_in, e_255, s_255_0, s_255_9, s_255_15, s_255_19, s_255_20, s_255_25, s_255_30, s_255_32, s_255_38, s_255_44, s_255_6, s_255_35, s_255_43, s_255_48, s_255_52, s_255_53, s_255_58, s_255_63, s_255_64, s_255_74, s_255_84, s_255_95, s_255_100, R1, R3, w1, w2, k_234t, q4, vi_32, a0, ne_eq, vi_ms_rs, hf0, T1', T2', T3', A]
    exact hQ
  · have g1 : (1 : Int) ≤ x ∧ x ≤ 6 := hx1 (by omega)
    have q4 : ¬ (3 : Int) ≤ (a : Int) := by omega
    simp (disch := omega) only [Option.toList_some, Option.toList_none, List.nil_append, List.cons_append, List.append_nil, true_and, and_true, not_true_eq_false, not_false_eq_true, true_implies, false_implies, implies_true, and_self, Int.reduceLT, Int.reduceLE, Int.reduceEq, Int.reduceNe, Int.reduceAdd, Int.reduceSub, Int.reduceMul, Int.reduceNeg, Int.reduceToNat, Int.toNat_natCast, ↓kk_ck, ↓kk_im, ↓kk_in, e_255, s_255_0, s_255_9, s_255_15, s_255_19, s_255_20, s_255_25, s_255_30, s_255_32, s_255_38, s_255_44, s_255_6, s_255_35, s_255_43, s_255_48, s_255_52, s_255_53, s_255_58, s_255_63, s_255_64, s_255_74, s_255_84, s_255_95, s_255_100, R1, R3, w1, w2, k_234t, q4, vi_32, a0, ne_eq, vi_ms_rs, hf0, T1', T2', T3', A]
    exact hQ
end
