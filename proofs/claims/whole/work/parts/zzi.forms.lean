/-! Calls that are accepted: with the cells renewed, without. -/
theorem jC_of {M1 M' M2 : vi_M} {f' : Nat → Int} {a : Nat} {CS : Nat → List gCla} {LH LR LS : List (Nat → Int)} {lw : Option (List gCla)} (hH1 : cHd M1 30 f' a CS LH LR LS) (hf : fLw a CS f' (M1 39) lw) (j1 : jV M' f' lw LH.length) (j2 : ∀ p, 30 ≤ p → p < 40 → M' p = M1 p) (h2 : ∀ p, 30 ≤ p → p < 70 → M2 p = M' p) (h114 : M2 114 = f') : jC M2 a CS lw LH.length := by
  refine ⟨LH, LR, LS, ?_, rfl, ?_, ?_⟩
  · rw [h114]; exact cHd_c hH1 fun p p1 p2 => (h2 p p1 (by omega)).trans (j2 p p1 p2)
  · rw [h114, (h2 39 (by omega) (by omega)).trans (j2 39 (by omega) (by omega))]; exact hf
  · rw [h114]; exact jV_c j1 fun p p1 p2 => h2 p (by omega) p2
section
variable {sc : Nat → Int} {ln t a n d : Nat} {CS : Nat → List gCla} {lw : Option (List gCla)} {Y : vi_Y} {M : vi_M} {nn : Nat × Nat} {K : Option vi_V → vi_W → Prop}
theorem jPair_r {m1 m2 : Nat} {as : List vi_V} (hW : jW sc ln t a CS lw n Y M nn) (ht : t < 1000) {x : vi_V} {M1 : vi_M} {f' : Nat → Int} {LH LR LS : List (Nat → Int)} {lw' : Option (List gCla)} (hM1 : ∀ p, ¬ (30 ≤ p ∧ p < 40) → M1 p = M p) (hH1 : cHd M1 30 f' a CS LH LR LS) (hf1 : fLw a CS f' (M1 39) lw')
    (h1 : ∀ M' : vi_M, (∀ p, p < 60 → M' p = M1 p) → (∀ K : Option vi_V → vi_W → Prop, vi_call GG (d + 69) 25 [.inr (.inr 60)] (Y, M1, nn) K ↔ K none (Y, M', nn)) → ∀ K : Option vi_V → vi_W → Prop, K (some x) (Y, vi_rs M' 29 (vi_u (M' 29) 11 0), nn) → vi_call GG (d + 70) m1 (.inr (.inr 29) :: as) (Y, M, nn) K)
    (h2 : ∀ M2 : vi_M, (∀ p, 112 ≤ p → p < 151 → M2 p = M p) → mBx M2 → (0 ≤ M2 112 1 ∧ M2 112 1 < 2147483647) → ∀ K : Option vi_V → vi_W → Prop, K (some x) (Y, vi_rs (vi_rs M2 114 f') 112 (vi_u (vi_u (M2 112) 0 0) 1 (M2 112 1 + 1)), nn) → vi_call GG (d + 70) m2 (.inr (.inr 112) :: as) (Y, M2, nn) K) : jPair sc ln t (d + 70) m1 m2 as (Y, M, nn) := by
  intro K hK
  have hb := jW_b hW ht
  obtain ⟨LH0, LR0, LS0, -, -, -, v4⟩ := hW.2.2.2.1
  have hL1 : jL Y M1 a CS := jL_p hW.2.1 fun p hp => hM1 p (by omega)
  obtain ⟨M', j1, j2, j3, k25⟩ := @k_25J (d + 57) Y M1 nn hW.1.1 a CS f' LH LR LS lw' hH1 hL1 hf1 ⟨_, (hM1 64 (by omega)).trans v4.2.2.1⟩ ⟨_, (hM1 66 (by omega)).trans v4.2.2.2.1⟩ ⟨_, (hM1 68 (by omega)).trans v4.2.2.2.2⟩
  have f1 : ∀ p, p < 60 → M' p = M1 p := fun p hp => j2 p (by omega) (by omega) (by omega) (by omega) (by omega) (by omega)
  have f2 : ∀ p, (70 ≤ p ∧ p < 151) → M' p = M p := fun p hp => (j2 p (by omega) (by omega) (by omega) (by omega) (by omega) (by omega)).trans (hM1 p (by omega))
  refine h1 M' f1 k25 K (hK _ _ (jP_c hW.1 (by rw [vi_rs_o (by decide), f1 1 (by omega), hM1 1 (by omega)])) fun K2 hK2 => ?_)
  have f3 : ∀ p, 112 ≤ p → p < 151 → vi_rs M' 29 (vi_u (M' 29) 11 0) p = M p := fun p p1 p2 => by rw [vi_rs_o (by omega)]; exact f2 p (by omega)
  refine h2 _ f3 (mBx_c (f3 114 (by omega) (by omega)) hW.2.2.2.2.1.1.1) (by rw [f3 112 (by omega) (by omega)]; exact hb.2.2) K2 (hK2 _ ?_)
  rw [f3 112 (by omega) (by omega)]
  have e29 : M' 29 = M 29 := (f1 29 (by omega)).trans (hM1 29 (by omega))
  refine jW_c hW (fun p hp => ?_) ?_ ?_ (fun k hk => ?_) ?_ (jL_p j3 fun p hp => ?_) (jC_of (M' := M') hH1 hf1 j1 (fun p _ _ => f1 p (by omega)) (fun p p1 p2 => ?_) ?_)
  · rw [vi_rs_o (by omega), vi_rs_o (by omega), vi_rs_o (by omega)]
    by_cases h : p < 60
    · rw [f1 p h]; exact hM1 p (by omega)
    · exact f2 p (by omega)
  · rw [vi_rs_o (by decide), vi_rs_o (by decide), vi_rs_s, vi_rs_s, vi_u_s, vi_u_o (by decide), vi_u_s]
  · rw [vi_rs_o (by decide), vi_rs_o (by decide), vi_rs_s, vi_rs_s, vi_u_o (by decide), vi_u_o (by decide), vi_u_o (by decide), e29]
    exact hW.2.2.2.2.2.2.1.2.1
  · rw [vi_rs_s, vi_u_o (by omega), vi_u_o (by omega)]
  · rw [vi_rs_s, vi_u_s]
  · rw [vi_rs_o (by omega), vi_rs_o (by omega), vi_rs_o (by omega)]
  · rw [vi_rs_o (by omega), vi_rs_o (by omega), vi_rs_o (by omega)]
  · rw [vi_rs_o (by decide), vi_rs_s]
theorem jPair_n {D m1 m2 : Nat} {as : List vi_V} (hW : jW sc ln t a CS lw n Y M nn) (ht : t < 1000) {x : vi_V} {M1 : vi_M} {f' g29 g112 : Nat → Int} {LH LR LS : List (Nat → Int)} (hM1 : ∀ p, ¬ (30 ≤ p ∧ p < 39) → M1 p = M p) (hH1 : cHd M1 30 f' a CS LH LR LS) (hn : LH.length = n) (hf' : ∀ k, k < 100 ∨ 295 ≤ k → f' k = M 114 k)
    (e0 : g29 11 = g112 0) (e1 : g29 12 = M 29 12) (e2 : ∀ k, 2 ≤ k → g112 k = M 112 k) (e3 : g112 1 = M 112 1 + 1)
    (h1 : ∀ K : Option vi_V → vi_W → Prop, K (some x) (Y, vi_rs M1 29 g29, nn) → vi_call GG D m1 (.inr (.inr 29) :: as) (Y, M, nn) K)
    (h2 : ∀ M2 : vi_M, (∀ p, 112 ≤ p → p < 151 → M2 p = M p) → mBx M2 → (0 ≤ M2 112 1 ∧ M2 112 1 < 2147483647) → ∀ K : Option vi_V → vi_W → Prop, K (some x) (Y, vi_rs (vi_rs M2 114 f') 112 g112, nn) → vi_call GG D m2 (.inr (.inr 112) :: as) (Y, M2, nn) K) : jPair sc ln t D m1 m2 as (Y, M, nn) := by
  intro K hK
  have hb := jW_b hW ht
  have hC := hW.2.2.2.1
  obtain ⟨LH0, LR0, LS0, v1, v2, v3, v4⟩ := hC
  refine h1 K (hK _ _ (jP_c hW.1 (by rw [vi_rs_o (by decide), hM1 1 (by omega)])) fun K2 hK2 => ?_)
  have f3 : ∀ p, 112 ≤ p → p < 151 → vi_rs M1 29 g29 p = M p := fun p p1 p2 => by rw [vi_rs_o (by omega)]; exact hM1 p (by omega)
  refine h2 _ f3 (mBx_c (f3 114 (by omega) (by omega)) hW.2.2.2.2.1.1.1) (by rw [f3 112 (by omega) (by omega)]; exact hb.2.2) K2 (hK2 _ ?_)
  have hV : jV M1 f' lw LH.length := by
    rw [hn]
    exact jV_f (jV_c v4 fun p p1 p2 => hM1 p (by omega)) (fun k hk => hf' k (.inl hk)) hW.2.2.2.2.1.1.2.1 hW.2.2.2.2.1.1.2.2.2.1
  have hf1 : fLw a CS f' (M1 39) lw := by
    rw [hM1 39 (by omega)]
    exact fLw_c v3 fun k hk => hf' k (.inr hk.1)
  refine jW_c hW (fun p hp => ?_) ?_ ?_ (fun k hk => ?_) ?_ (jL_p hW.2.1 fun p hp => ?_) (jC_of (M' := M1) hH1 hf1 hV (fun p _ _ => rfl) (fun p p1 p2 => ?_) ?_)
  · rw [vi_rs_o (by omega), vi_rs_o (by omega), vi_rs_o (by omega)]
    exact hM1 p (by omega)
  · rw [vi_rs_o (by decide), vi_rs_o (by decide), vi_rs_s, vi_rs_s]; exact e0
  · rw [vi_rs_o (by decide), vi_rs_o (by decide), vi_rs_s, vi_rs_s, e1, e2 6 (by omega)]
    exact hW.2.2.2.2.2.2.1.2.1
  · rw [vi_rs_s]; exact e2 k (by omega)
  · rw [vi_rs_s]; exact e3
  · rw [vi_rs_o (by omega), vi_rs_o (by omega), vi_rs_o (by omega)]; exact hM1 p (by omega)
  · rw [vi_rs_o (by omega), vi_rs_o (by omega), vi_rs_o (by omega)]
  · rw [vi_rs_o (by decide), vi_rs_s]
end
