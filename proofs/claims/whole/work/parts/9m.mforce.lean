/-! Contracts of the reference, twenty-second part: fault, force, a line poked. -/
/-- a row's CELLS counted once more -/
def pkR (r : Nat → Int) (a : Nat) (u v : Int) : Nat → (Nat → Int)
  | 0 => r
  | j + 1 => vi_u (pkR r a u v j) (mHa a u v (j : Int)).toNat (pkR r a u v j (mHa a u v (j : Int)).toNat + 1)
theorem pkR_r {r : Nat → Int} {a : Nat} {u v : Int} {B : Int} (h : ∀ c, c < 216 → 0 ≤ r c ∧ r c ≤ B) : ∀ j c : Nat, c < 216 → 0 ≤ pkR r a u v j c ∧ pkR r a u v j c ≤ B + (j : Int)
  | 0, c, hc => by rw [pkR]; have := h c hc; omega
  | j + 1, c, hc => by
    have h1 := pkR_r (a := a) (u := u) (v := v) h j c hc
    rw [pkR]
    unfold vi_u
    split
    · rename_i e
      rw [← e]; omega
    · omega
section
variable {D : Nat} {K : Option vi_V → vi_W → Prop} {Y : vi_Y} {M : vi_M} {nn : Nat × Nat}
theorem k_279 (hY : kY Y 151) (hD : 1 ≤ D) : vi_call GG D 279 [.inr (.inr 112)] (Y, M, nn) K ↔ K (some (.inl (M 112 11))) (Y, M, nn) := by
  obtain ⟨D, rfl⟩ : ∃ k, D = k + 1 := ⟨D - 1, by omega⟩
  obtain ⟨R1, -⟩ := y_112 hY (by omega)
  refine vi_k (r := some (.inl _)) fun Q hQ => ?_
  simp (disch := omega) only [Option.toList_some, Option.toList_none, List.nil_append, List.cons_append, List.append_nil, true_and, and_true, not_true_eq_false, not_false_eq_true, true_implies, false_implies, implies_true, and_self, Int.reduceLT, Int.reduceLE, Int.reduceEq, Int.reduceNe, Int.reduceAdd, Int.reduceSub, Int.reduceMul, Int.reduceNeg, Int.reduceToNat, Int.toNat_natCast, ↓kk_ck, ↓kk_im, ↓kk_in, e_279, s_279_0, s_279_4, R1]
  exact hQ
theorem k_280n (hY : kY Y 151) {x : Int} {m : Nat} (hm : m ≤ 6) (h295 : M 114 295 = (m : Int)) (h : ¬ (-1 ≤ x ∧ x ≤ (m : Int) - 1)) (hc : 0 ≤ M 113 2 ∧ M 113 2 < 2147483647) (hD : 2 ≤ D) : vi_call GG D 280 [.inr (.inr 112), .inl x] (Y, M, nn) K ↔ K (some (.inl (-2))) (Y, vi_rs (vi_rs M 112 (vi_u (M 112) 0 (-2))) 113 (vi_u (M 113) 2 (M 113 2 + 1)), nn) := by
  obtain ⟨D, rfl⟩ : ∃ k, D = k + 1 := ⟨D - 1, by omega⟩
  obtain ⟨R1, -, R3, -⟩ := y_112 hY (by omega)
  obtain ⟨w1, w2⟩ := y_114 hY (by omega)
  refine vi_k (r := some (.inl _)) fun Q hQ => ?_
  have A := fun {D : Nat} {K : Option vi_V → vi_W → Prop} (hD : 1 ≤ D) => @k_235 D K Y M nn hY (-2) (by omega) (by exact hc) hD
  simp (disch := omega) only [Option.toList_some, Option.toList_none, List.nil_append, List.cons_append, List.append_nil, true_and, and_true, not_true_eq_false, not_false_eq_true, true_implies, false_implies, implies_true, and_self, Int.reduceLT, Int.reduceLE, Int.reduceEq, Int.reduceNe, Int.reduceAdd, Int.reduceSub, Int.reduceMul, Int.reduceNeg, Int.reduceToNat, Int.toNat_natCast, ↓kk_ck, ↓kk_im, ↓kk_in, e_280, s_280_0, s_280_18, s_280_25, s_280_6, s_280_24, s_280_29, s_280_10, s_280_33, s_280_15, s_280_38, s_280_43, s_280_48, R1, R3, w1, w2, h295, vi_32, k_234f h, A, ne_eq]
  exact hQ
theorem k_280 (hY : kY Y 151) {x : Int} {m : Nat} (hm : m ≤ 6) (h295 : M 114 295 = (m : Int)) (h : -1 ≤ x ∧ x ≤ (m : Int) - 1) (hc : 0 ≤ M 112 1 ∧ M 112 1 < 2147483647) (hD : 2 ≤ D) : vi_call GG D 280 [.inr (.inr 112), .inl x] (Y, M, nn) K ↔ K (some (.inl (M 114 296))) (Y, vi_rs (vi_rs M 114 (vi_u (M 114) 296 x)) 112 (vi_u (vi_u (M 112) 0 0) 1 (M 112 1 + 1)), nn) := by
  obtain ⟨D, rfl⟩ : ∃ k, D = k + 1 := ⟨D - 1, by omega⟩
  obtain ⟨R1, -, R3, -⟩ := y_112 hY (by omega)
  obtain ⟨w1, w2⟩ := y_114 hY (by omega)
  refine vi_k (r := some (.inl _)) fun Q hQ => ?_
  have A := fun {D : Nat} {K : Option vi_V → vi_W → Prop} (hD : 1 ≤ D) => @k_236 D K Y (vi_rs M 114 (vi_u (M 114) 296 x)) nn hY (M 114 296) (by rw [vi_rs_o (by omega)]; exact hc) hD
  rw [vi_rs_o (by omega)] at A
  simp (disch := omega) only [Option.toList_some, Option.toList_none, List.nil_append, List.cons_append, List.append_nil, true_and, and_true, not_true_eq_false, not_false_eq_true, true_implies, false_implies, implies_true, and_self, Int.reduceLT, Int.reduceLE, Int.reduceEq, Int.reduceNe, Int.reduceAdd, Int.reduceSub, Int.reduceMul, Int.reduceNeg, Int.reduceToNat, Int.toNat_natCast, ↓kk_ck, ↓kk_im, ↓kk_in, e_280, s_280_0, s_280_18, s_280_25, s_280_6, s_280_24, s_280_29, s_280_10, s_280_33, s_280_15, s_280_38, s_280_43, s_280_48, R1, R3, w1, w2, h295, vi_32, k_234t h, vi_ms_rs, A, ne_eq]
  exact hQ
theorem k_313n (hY : kY Y 151) (hD : 1 ≤ D) : vi_call GG D 313 [.inr (.inr 112), .inl (-1)] (Y, M, nn) K ↔ K none (Y, M, nn) := by
  obtain ⟨D, rfl⟩ : ∃ k, D = k + 1 := ⟨D - 1, by omega⟩
  refine vi_k (r := none) fun Q hQ => ?_
  rw [e_313, s_313_0, s_313_2]
  simp (disch := omega) only [Option.toList_some, Option.toList_none, List.nil_append, List.cons_append, List.append_nil, true_and, and_true, not_true_eq_false, not_false_eq_true, true_implies, false_implies, implies_true, and_self, Int.reduceLT, Int.reduceLE, Int.reduceEq, Int.reduceNe, Int.reduceAdd, Int.reduceSub, Int.reduceMul, Int.reduceNeg, Int.reduceToNat, Int.toNat_natCast, ↓kk_ck, ↓kk_im, ↓kk_in, s_313_58]
  exact hQ
theorem k_313 (hY : kY Y 151) (hB : mBx M) {l a : Nat} {u v : Int} (hl : l < 108) (ha : M 130 l = (a : Int)) (hu : M 131 l = u) (hv : M 132 l = v) (hp : mIp M (a : Int) u v) (hr : ∀ c, c < 216 → 0 ≤ M 133 c ∧ M 133 c ≤ 1000) (hD : 2 ≤ D) : vi_call GG D 313 [.inr (.inr 112), .inl (l : Int)] (Y, M, nn) K ↔ K none (Y, vi_rs M 133 (pkR (M 133) a u v (M 114 (96 + a)).toNat), nn) := by
  obtain ⟨D, rfl⟩ : ∃ k, D = k + 1 := ⟨D - 1, by omega⟩
  obtain ⟨R1, -, R3, -, -, -, -, -, -, -, -, -, -, -, -, -, -, -, R33, R34, R35, R36, -⟩ := y_112 hY (by omega)
  obtain ⟨p1, p2⟩ := y_130 hY (by omega)
  obtain ⟨p3, p4⟩ := y_131 hY (by omega)
  obtain ⟨p5, p6⟩ := y_132 hY (by omega)
  obtain ⟨p7, p8⟩ := y_133 hY (by omega)
  obtain ⟨qa, qu, qv⟩ := mIp_r hB hp
  have hs := mSz hB (a := a) (by omega)
  obtain ⟨S, hS⟩ : ∃ S : Nat, M 114 (96 + a) = (S : Int) := ⟨(M 114 (96 + a)).toNat, by omega⟩
  refine vi_k (r := none) fun Q hQ => ?_
  rw [hS, Int.toNat_natCast] at hQ
  have loop : ∀ j : Nat, j ≤ S → vi_ok GG D 313 2 [some (.inr (.inr 112)), some (.inl (l : Int)), some (.inl (j : Int))] [] (Y, vi_rs M 133 (pkR (M 133) a u v j), nn) Q := by
    refine vi_dn S ?_ fun j hj ih => ?_
    · have A := fun {D : Nat} {K : Option vi_V → vi_W → Prop} (hD : 1 ≤ D) => @k_241 D K Y (vi_rs M 133 (pkR (M 133) a u v S)) nn hY a (by omega) hD
      rw [vi_rs_o (by omega), hS] at A
      rw [s_313_2]
      simp (disch := omega) only [Option.toList_some, Option.toList_none, List.nil_append, List.cons_append, List.append_nil, true_and, and_true, not_true_eq_false, not_false_eq_true, true_implies, false_implies, implies_true, and_self, Int.reduceLT, Int.reduceLE, Int.reduceEq, Int.reduceNe, Int.reduceAdd, Int.reduceSub, Int.reduceMul, Int.reduceNeg, Int.reduceToNat, Int.toNat_natCast, ↓kk_ck, ↓kk_im, ↓kk_in, s_313_7, s_313_13, s_313_15, s_313_18, s_313_58, R1, R33, p1, p2, vi_rs_o, Int.toNat_natCast, ha, A]
      exact hQ
    · have A := fun {D : Nat} {K : Option vi_V → vi_W → Prop} (hD : 1 ≤ D) => @k_241 D K Y (vi_rs M 133 (pkR (M 133) a u v j)) nn hY a (by omega) hD
      rw [vi_rs_o (by omega), hS] at A
      have hw : 0 ≤ (j : Int) ∧ (j : Int) < 6 := by omega
      have hc := mHa_r (a := a) qu qv hw
      have hb := pkR_r (a := a) (u := u) (v := v) hr j (mHa a u v (j : Int)).toNat (by omega)
      rw [pkR] at ih
      clear hQ
      rw [s_313_2]
      simp (disch := omega) only [Option.toList_some, Option.toList_none, List.nil_append, List.cons_append, List.append_nil, true_and, and_true, not_true_eq_false, not_false_eq_true, true_implies, false_implies, implies_true, and_self, Int.reduceLT, Int.reduceLE, Int.reduceEq, Int.reduceNe, Int.reduceAdd, Int.reduceSub, Int.reduceMul, Int.reduceNeg, Int.reduceToNat, Int.toNat_natCast, ↓kk_ck, ↓kk_im, ↓kk_in, s_313_7, s_313_13, s_313_15, s_313_18, s_313_21, s_313_25, s_313_29, s_313_31, s_313_35, s_313_37, s_313_41, s_313_43, s_313_47, s_313_49, s_313_52, R1, R33, R34, R35, R36, p1, p2, p3, p4, p5, p6, p7, p8, vi_rs_o, vi_rs_s, vi_rs_rs, Int.toNat_natCast, ha, hu, hv, A, k_244 qu qv hw, mHa_e, vi_inc, @vi_32 (pkR (M 133) a u v j (mHa a u v (j : Int)).toNat + 1) (by omega) (by omega), vi_ms_rs]
      exact ih
  have := loop 0 (by omega)
  rw [pkR, vi_rs_id rfl] at this
  clear loop hQ
  simp (disch := omega) only [Option.toList_some, Option.toList_none, List.nil_append, List.cons_append, List.append_nil, true_and, and_true, not_true_eq_false, not_false_eq_true, true_implies, false_implies, implies_true, and_self, Int.reduceLT, Int.reduceLE, Int.reduceEq, Int.reduceNe, Int.reduceAdd, Int.reduceSub, Int.reduceMul, Int.reduceNeg, Int.reduceToNat, Int.toNat_natCast, ↓kk_ck, ↓kk_im, ↓kk_in, e_313, s_313_0]
  exact this
end
