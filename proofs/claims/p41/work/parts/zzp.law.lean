/-! Pairs: law. -/
section
variable {sc : Nat → Int} {ln t a n d : Nat} {CS : Nat → List gCla} {lw : Option (List gCla)} {Y : vi_Y} {M : vi_M} {nn : Nat × Nat} {K : Option vi_V → vi_W → Prop}
theorem jJ_c2 {M M2 : vi_M} (h : jJ M) (hp : ∀ q, (jCe q ∨ q = 88) → M2 q = M q) : jJ M2 := ⟨fun q hq => by rw [hp q (.inl hq)]; exact h.1 q hq, by rw [hp 88 (.inr rfl)]; exact h.2⟩
theorem kY_bl {Y Y' : vi_Y} {p b : Nat} (h : kY Y b) (hb : kBl Y Y' p) (hp : b ≤ p) : kY Y' b := fun q h1 h2 => by
  obtain ⟨e1, e2, e3⟩ := hb q (by omega)
  obtain ⟨f1, f2, f3⟩ := h q h1 h2
  exact ⟨e1.trans f1, e2.trans f2, fun k => (congrFun e3 k).trans (f3 k)⟩
theorem kY9_bl {Y Y' : vi_Y} {p : Nat} (h : kY9 Y) (hb : kBl Y Y' p) (hp : 29 < p) : kY9 Y' := by
  obtain ⟨e1, e2, e3⟩ := hb 29 hp
  exact ⟨e1.trans h.1, fun k => (congrFun e3 k).trans (h.2 k)⟩
theorem pGood_bl {Y Y' : vi_Y} {M M' : vi_M} {p b S : Nat} {cs : List gCla} (h : pGood Y M p S cs) (hb : kBl Y Y' b) (hp : p + 5 ≤ b) (h0 : M' p = M p) (h1 : M' (p + 1) = M (p + 1)) : pGood Y' M' p S cs := by
  obtain ⟨⟨k1, k2, k3, k4, k5, k6, k7, k8, k9, k10, k11, k12, k13, k14⟩, g2, g3, g4, g5, g6⟩ := h
  have e0 := hb p (by omega)
  have e1 := hb (p + 1) (by omega)
  have e2 := hb (p + 2) (by omega)
  have e3 := hb (p + 3) (by omega)
  have e4 := hb (p + 4) (by omega)
  refine ⟨⟨k1, e2.1.trans k2, by rw [e2.2.2]; exact k3, e0.1.trans k4, by rw [e0.2.1]; exact k5, by rw [e2.2.2]; exact k6, e1.1.trans k7, by rw [e1.2.1]; exact k8, by rw [e2.2.2]; exact k9, e3.1.trans k10, by rw [e3.2.1]; exact k11, by rw [e2.2.2]; exact k12, e4.1.trans k13, by rw [e4.2.1]; exact k14⟩, g2, g3, g4, by rw [h0]; exact g5, fun j hj => by rw [h0, h1]; exact g6 j hj⟩
end
