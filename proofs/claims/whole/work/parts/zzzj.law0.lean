/-! The law's method: it answers true. -/
theorem lR_N {p : Nat} (h1 : 112 ≤ p) (h2 : p < 151) : yoN p lR = true := by
  have : (List.range 39).all (fun q => yoN (112 + q) lR) = true := by decide +kernel
  have := List.all_eq_true.mp this (p - 112) (List.mem_range.mpr (by omega))
  rw [show 112 + (p - 112) = p by omega] at this
  exact this
section
variable {sc : Nat → Int} {ln d m : Nat} {Q : Option vi_V → vi_W → Prop} {Y : vi_Y} {M : vi_M}
theorem law_0 (hln : ln ≤ 3584) (hsc : ∀ j, j < ln → -2147483648 ≤ sc j ∧ sc j < 2147483648) (h1 : Y.1 1 = 11 ∧ Y.2.1 1 = ln ∧ M 1 = sc) (hS : kS Y M) (hm : m ≤ 10000) (hQ : ∀ w, w.2.2.1 ≤ 6000 → w.2.2.2 ≤ 1800000 → Q (some (.inl 1)) w) : vi_ok GG (d + 70) 0 0 [some (.inr (.inr 1)), none, none, none] [] (Y, M, 29, m) Q := by
  rw [s_0_0, s_0_3]
  refine ⟨yn1, ?_⟩
  obtain ⟨w, hw⟩ : ∃ w : vi_W, w = (vi_ynew Y 29 31 13, vi_rs M 29 (fun _ => 0), 29 + 1, m + 13) := ⟨_, rfl⟩
  have w1 : w.1 = vi_ynew Y 29 31 13 := by rw [hw]
  have w2 : w.2.1 = vi_rs M 29 (fun _ => 0) := by rw [hw]
  have w3 : w.2.2.1 = 30 := by rw [hw]
  have w4 : w.2.2.2 = m + 13 := by rw [hw]
  have h29 : w.1.1 29 = 31 := by rw [w1]; exact yn1
  have hf29 : ∀ k, w.1.2.2 29 k = 0 := fun k => by rw [w1]; show (if (29 : Nat) = 29 then (fun _ => (0 : Int)) else Y.2.2 29) k = 0; rw [if_pos rfl]
  have low : ∀ p, p < 29 → w.1.1 p = Y.1 p ∧ w.1.2.1 p = Y.2.1 p ∧ ∀ k, w.1.2.2 p k = Y.2.2 p k := fun p hp => by
    rw [w1]
    exact ⟨yn1o (by omega), yn2o (by omega), fun k => congrFun (yn3o (by omega)) k⟩
  show vi_call GG (d + 56 + 14) 188 [.inr (.inr 29)] (vi_ynew Y 29 31 13, vi_rs M 29 (fun _ => 0), 29 + 1, m + 13) _
  rw [← hw]
  refine k_188 (d := d + 56) w3 h29 hf29 fun M1 g1 c61 c62 c64 c66 c68 hC0 => ?_
  show vi_ok GG (d + 70) 0 7 [some (.inr (.inr 1)), none, none, none] [.inr (.inr 29)] ((ywO w lC).1, M1, 112, w.2.2.2 + 8228) Q
  rw [s_0_7, s_0_11]
  refine ⟨yn1, ?_⟩
  have hY1 : kY (ywO w lC).1 112 := lC_Y
  have h9 : kY9 (ywO w lC).1 := lC_9 h29 hf29
  have low1 : ∀ p, p < 29 → (ywO w lC).1.1 p = w.1.1 p ∧ (ywO w lC).1.2.1 p = w.1.2.1 p ∧ ∀ k, (ywO w lC).1.2.2 p k = w.1.2.2 p k := fun p hp => ylow hp lC (by decide +kernel) w
  generalize (ywO w lC).1 = Y1 at *
  refine k_238 (Y := Y1) (M := M1) (m := w.2.2.2 + 8228) hY1 (by omega) fun M2 hR h114 hT hF hY2 => ?_
  have low2 : ∀ p, p < 112 → (ywO (Y1, M1, 112, w.2.2.2 + 8228) lR).1.1 p = Y1.1 p ∧ (ywO (Y1, M1, 112, w.2.2.2 + 8228) lR).1.2.1 p = Y1.2.1 p ∧ ∀ k, (ywO (Y1, M1, 112, w.2.2.2 + 8228) lR).1.2.2 p k = Y1.2.2 p k := fun p hp => ylow hp lR (by decide +kernel) (Y1, M1, 112, w.2.2.2 + 8228)
  have hR1 : ∀ p, p < 112 → M2 p = M1 p := fun p hp => by
    rw [hR p (by omega) (by omega) (by omega), ywO_M]
    exact yoM_o hp lR (by decide +kernel) _
  have hR2 : ∀ p, 112 ≤ p → p < 151 → p ≠ 114 → p ≠ 138 → p ≠ 139 → M2 p = yoM p (fun _ => 0) lR := fun p p1 p2 a1 a2 a3 => by
    rw [hR p a1 a2 a3, ywO_M]
    exact yoM_n (lR_N p1 p2)
  rw [lR_m]
  generalize (ywO (Y1, M1, 112, w.2.2.2 + 8228) lR).1 = Y2 at *
  show vi_ok GG (d + 70) 0 15 [some (.inr (.inr 1)), some (.inr (.inr 29)), none, none] [.inr (.inr 112)] (Y2, M2, 151, w.2.2.2 + 8228 + 1081369) Q
  rw [s_0_15]
  have T : ∀ p, p < 29 → Y2.1 p = Y.1 p := fun p hp => ((low2 p (by omega)).1.trans (low1 p hp).1).trans (low p hp).1
  have N : ∀ p, p < 29 → Y2.2.1 p = Y.2.1 p := fun p hp => ((low2 p (by omega)).2.1.trans (low1 p hp).2.1).trans (low p hp).2.1
  have F : ∀ p k, p < 29 → Y2.2.2 p k = Y.2.2 p k := fun p k hp => (((low2 p (by omega)).2.2 k).trans ((low1 p hp).2.2 k)).trans ((low p hp).2.2 k)
  have m30 : ∀ p, p < 30 → M2 p = vi_rs M 29 (fun _ => 0) p := fun p hp => ((hR1 p (by omega)).trans (g1 p hp)).trans (by rw [w2])
  have m29 : ∀ p, p < 29 → M2 p = M p := fun p hp => (m30 p (by omega)).trans (vi_rs_o (by omega))
  have hI : jInv sc ln 0 (Y2, M2, 151, w.2.2.2 + 8228 + 1081369) := by
    refine j_start hY2 ⟨(low2 29 (by omega)).1.trans h9.1, fun k => ((low2 29 (by omega)).2.2 k).trans (h9.2 k)⟩ (fun i hi => ?_) ⟨by rw [T 1 (by omega)]; exact h1.1, by rw [N 1 (by omega)]; exact h1.2.1, by rw [m29 1 (by omega)]; exact h1.2.2⟩ ((m30 29 (by omega)).trans vi_rs_s) ((hR1 61 (by omega)).trans c61) ((hR1 62 (by omega)).trans c62) ((hR1 64 (by omega)).trans c64) ((hR1 66 (by omega)).trans c66) ((hR1 68 (by omega)).trans c68) (fun p p1 p2 a1 a2 a3 a4 a5 => (hR1 p p2).trans (hC0 p p1 p2 a1 a2 a3 a4 a5)) hR2 h114 hT hF ⟨rfl, by show w.2.2.2 + 8228 + 1081369 ≤ 1100000; rw [w4]; omega⟩
    obtain ⟨b1, b2, b3, b4, b5, b6⟩ := hS i hi
    exact ⟨by rw [T _ (by omega)]; exact b1, by rw [F _ _ (by omega)]; exact b2, by rw [F _ _ (by omega)]; exact b3, by rw [T _ (by omega)]; exact b4, by rw [N _ (by omega)]; exact b5, fun j hj => by rw [m29 _ (by omega)]; exact b6 j hj⟩
  exact law_l hln hsc hQ 512 0 0 _ (by omega) (by omega) (by omega) hI
/-- the whole run, from the first world -/
theorem law_run (hln : ln ≤ 3584) (hsc : ∀ j, j < ln → -2147483648 ≤ sc j ∧ sc j < 2147483648) (h1 : Y.1 1 = 11 ∧ Y.2.1 1 = ln ∧ M 1 = sc) (hS : kS Y M) : ∃ (f : Nat) (wf : vi_W), vi_run GG f 100 0 0 [some (.inr (.inr 1)), none, none, none] [] (Y, M, 29, 0) = some (some (.inl 1), wf) ∧ wf.2.2.1 ≤ 6000 ∧ wf.2.2.2 ≤ 1800000 := by
  obtain ⟨f, r, wf, e1, rfl, e2, e3⟩ := law_0 (d := 30) (Q := fun r w => r = some (.inl 1) ∧ w.2.2.1 ≤ 6000 ∧ w.2.2.2 ≤ 1800000) hln hsc h1 hS (Nat.zero_le _) (fun w a b => ⟨rfl, a, b⟩)
  exact ⟨f, wf, e1, e2, e3⟩
end
