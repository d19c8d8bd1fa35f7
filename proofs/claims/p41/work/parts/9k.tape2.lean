/-! Contracts, both sides: a TEXT's bytes written, cut, second part. -/
theorem mIm_c {f g1 g2 G : Nat → Int} {o a b : Nat} (h1 : ∀ i, i < a → g1 i = G i) (h2 : ∀ i, i < b → g2 i = G (a + i)) : mIm (mIm f g1 o a) g2 (o + a) b = mIm f G o (a + b) := by
  funext k
  unfold mIm
  by_cases q : o + a ≤ k ∧ k < o + a + b
  · rw [if_pos q, if_pos (by omega), h2 _ (by omega)]
    congr 1
    omega
  · rw [if_neg q]
    by_cases q2 : o ≤ k ∧ k < o + a
    · rw [if_pos q2, if_pos (by omega), h1 _ (by omega)]
    · rw [if_neg q2, if_neg (by omega)]
section
variable {D : Nat} {K : Option vi_V → vi_W → Prop} {Y : vi_Y} {M : vi_M} {nn : Nat × Nat} {n : Nat} {x1 x2 x3 x4 x5 : Int}
theorem k_126s (hY : kY Y 112) {A : Nat → Int} {m : Nat} (h : m + 4 ≤ 400) (hD : 1 ≤ D) : vi_call GG D 126 [.inr (.inr 73), .inl x1] (Y, vi_rs (vi_rs M 74 A) 73 (vi_u (M 73) 3 (m : Int)), nn) K ↔ K none (Y, vi_rs (vi_rs M 74 (mIm A (fun i => bY x1 (24 - 8 * (i : Int))) m 4)) 73 (vi_u (M 73) 3 ((m + 4 : Nat) : Int)), nn) := by
  have T := @k_126 D K Y (vi_rs (vi_rs M 74 A) 73 (vi_u (M 73) 3 (m : Int))) nn m x1 hY (by rw [vi_rs_s]; rfl) h hD
  rw [vi_rs_s, vi_rs_o (q := 73) (q' := 74) (by omega), vi_rs_s] at T
  have uu : ∀ x y : Int, vi_u (vi_u (M 73) 3 x) 3 y = vi_u (M 73) 3 y := fun x y => by
    funext k
    unfold vi_u
    by_cases e : k = 3
    · rw [if_pos e, if_pos e]
    · rw [if_neg e, if_neg e, if_neg e]
  rw [uu] at T
  have cm : ∀ (f g : Nat → Int) , vi_rs (vi_rs (vi_rs M 74 f) 73 (vi_u (M 73) 3 (m : Int))) 74 g = vi_rs (vi_rs M 74 g) 73 (vi_u (M 73) 3 (m : Int)) := fun f g => by rw [vi_rs_cm (by omega), vi_rs_rs]
  rw [cm, vi_rs_rs] at T
  exact T
theorem k_125n (hY : kY Y 112) (h3 : M 73 3 = (n : Int)) (hn : n ≤ 400) (h : 400 < n + 20) (hD : 1 ≤ D) : vi_call GG D 125 [.inr (.inr 73), .inl x1, .inl x2, .inl x3, .inl x4, .inl x5] (Y, M, nn) K ↔ K (some (.inl (-1))) (Y, M, nn) := by
  obtain ⟨D, rfl⟩ : ∃ k, D = k + 1 := ⟨D - 1, by omega⟩
  obtain ⟨R1, -⟩ := y_73 hY (by omega)
  refine vi_k (r := some (.inl _)) fun Q hQ => ?_
  simp (disch := omega) only [Option.toList_some, Option.toList_none, List.nil_append, List.cons_append, List.append_nil, true_and, and_true, not_true_eq_false, not_false_eq_true, true_implies, false_implies, implies_true, and_self, Int.reduceLT, Int.reduceLE, Int.reduceEq, Int.reduceNe, Int.reduceAdd, Int.reduceSub, Int.reduceMul, Int.reduceNeg, Int.reduceToNat, Int.toNat_natCast, ↓kk_ck, ↓kk_im, ↓kk_in, e_125, s_125_0, s_125_4, s_125_10, s_125_13, R1, h3, vi_32]
  exact hQ
theorem k_125 (hY : kY Y 112) (h3 : M 73 3 = (n : Int)) (h : n + 20 ≤ 400) (hD : 2 ≤ D) : vi_call GG D 125 [.inr (.inr 73), .inl x1, .inl x2, .inl x3, .inl x4, .inl x5] (Y, M, nn) K ↔ K (some (.inl ((n + 20 : Nat) : Int))) (Y, vi_rs (vi_rs M 74 (mIm (M 74) (tBy x1 x2 x3 x4 x5) n 20)) 73 (vi_u (M 73) 3 ((n + 20 : Nat) : Int)), nn) := by
  obtain ⟨D, rfl⟩ : ∃ k, D = k + 1 := ⟨D - 1, by omega⟩
  obtain ⟨R1, -⟩ := y_73 hY (by omega)
  have e0 : vi_rs (vi_rs M 74 (M 74)) 73 (vi_u (M 73) 3 (n : Int)) = M := by
    rw [vi_rs_id (M := M) (f := M 74) rfl]
    refine vi_rs_id ?_
    funext k
    unfold vi_u
    by_cases e : k = 3
    · rw [if_pos e, e, h3]
    · rw [if_neg e]
  refine vi_k (r := some (.inl _)) fun Q hQ => ?_
  have T1 := fun {D : Nat} {K : Option vi_V → vi_W → Prop} (hD : 1 ≤ D) => @k_126s D K Y M nn x1 hY (M 74) n (by omega) hD
  rw [e0] at T1
  have T := fun {D : Nat} {K : Option vi_V → vi_W → Prop} {x : Int} {A : Nat → Int} {m : Nat} (hm : m + 4 ≤ 400) (hD : 1 ≤ D) => @k_126s D K Y M nn x hY A m hm hD
  have b : ∀ q i : Nat, i < 4 → q < 5 → bY (a5 x1 x2 x3 x4 x5 q) (24 - 8 * (i : Int)) = tBy x1 x2 x3 x4 x5 (4 * q + i) := by
    intro q i hi hq
    unfold tBy
    rw [show (4 * q + i) / 4 = q by omega, show (4 * q + i) % 4 = i by omega]
  have c1 : mIm (mIm (mIm (mIm (mIm (M 74) (fun i => bY x1 (24 - 8 * (i : Int))) n 4) (fun i => bY x2 (24 - 8 * (i : Int))) (n + 4) 4) (fun i => bY x3 (24 - 8 * (i : Int))) (n + 4 + 4) 4) (fun i => bY x4 (24 - 8 * (i : Int))) (n + 4 + 4 + 4) 4) (fun i => bY x5 (24 - 8 * (i : Int))) (n + 4 + 4 + 4 + 4) 4 = mIm (M 74) (tBy x1 x2 x3 x4 x5) n 20 := by
    have s1 := mIm_c (f := M 74) (o := n) (a := 4) (b := 4) (G := tBy x1 x2 x3 x4 x5) (g1 := fun i => bY x1 (24 - 8 * (i : Int))) (g2 := fun i => bY x2 (24 - 8 * (i : Int))) (fun i hi => by have := b 0 i hi (by omega); rw [Nat.mul_zero, Nat.zero_add] at this; exact this) (fun i hi => b 1 i hi (by omega))
    rw [s1]
    have s2 := mIm_c (f := M 74) (o := n) (a := 8) (b := 4) (G := tBy x1 x2 x3 x4 x5) (g1 := tBy x1 x2 x3 x4 x5) (g2 := fun i => bY x3 (24 - 8 * (i : Int))) (fun _ _ => rfl) (fun i hi => b 2 i hi (by omega))
    rw [show n + 4 + 4 = n + 8 by omega, s2]
    have s3 := mIm_c (f := M 74) (o := n) (a := 12) (b := 4) (G := tBy x1 x2 x3 x4 x5) (g1 := tBy x1 x2 x3 x4 x5) (g2 := fun i => bY x4 (24 - 8 * (i : Int))) (fun _ _ => rfl) (fun i hi => b 3 i hi (by omega))
    rw [show n + 8 + 4 = n + 12 by omega, s3]
    have s4 := mIm_c (f := M 74) (o := n) (a := 16) (b := 4) (G := tBy x1 x2 x3 x4 x5) (g1 := tBy x1 x2 x3 x4 x5) (g2 := fun i => bY x5 (24 - 8 * (i : Int))) (fun _ _ => rfl) (fun i hi => b 4 i hi (by omega))
    rw [show n + 12 + 4 = n + 16 by omega, s4]
  have v3 : vi_u (M 73) 3 ((n + 4 + 4 + 4 + 4 + 4 : Nat) : Int) 3 = ((n + 4 + 4 + 4 + 4 + 4 : Nat) : Int) := rfl
  have hQ' : Q (some (.inl ((n + 4 + 4 + 4 + 4 + 4 : Nat) : Int))) (Y, vi_rs (vi_rs M 74 (mIm (M 74) (tBy x1 x2 x3 x4 x5) n 20)) 73 (vi_u (M 73) 3 ((n + 4 + 4 + 4 + 4 + 4 : Nat) : Int)), nn) := hQ
  clear hQ b
  simp (disch := omega) only [Option.toList_some, Option.toList_none, List.nil_append, List.cons_append, List.append_nil, true_and, and_true, not_true_eq_false, not_false_eq_true, true_implies, false_implies, implies_true, and_self, Int.reduceLT, Int.reduceLE, Int.reduceEq, Int.reduceNe, Int.reduceAdd, Int.reduceSub, Int.reduceMul, Int.reduceNeg, Int.reduceToNat, Int.toNat_natCast, ↓kk_ck, ↓kk_im, ↓kk_in, e_125, s_125_0, s_125_4, s_125_10, s_125_15, s_125_20, s_125_25, s_125_30, s_125_36, s_125_42, s_125_46, R1, h3, vi_32, T1, T, vi_rs_s, c1, v3]
  exact hQ'
end
