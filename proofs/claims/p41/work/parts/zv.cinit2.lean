/-! The class's constructor, second part: Cheese's renewal, and the whole of it. -/
theorem ywO_Y (L : List (Nat × Nat × Nat × Int × (Nat → Int))) : ∀ {w v : vi_W}, w.1 = v.1 → (ywO w L).1 = (ywO v L).1 := by
  induction L with
  | nil => intro w v h; exact h
  | cons o r ih =>
    intro w v h
    refine ih ?_
    obtain ⟨c, q, j, x, g⟩ := o
    match c with
    | 0 => show vi_ynew w.1 q j x.toNat = vi_ynew v.1 q j x.toNat; rw [h]
    | 1 => show vi_yfin w.1 q j x = vi_yfin v.1 q j x; rw [h]
    | c + 2 => exact h
def lA : List (Nat × Nat × Nat × Int × (Nat → Int)) := (0, 60, 21, 8, fun _ => 0) :: l_24_60
theorem lA_K : yoK lA = true := by decide +kernel
theorem lA_c : ∀ q, q < 13 → yoC lA (60 + q) = true := by
  intro q hq
  match q, hq with
  | 0, _ => decide +kernel
  | 1, _ => decide +kernel
  | 2, _ => decide +kernel
  | 3, _ => decide +kernel
  | 4, _ => decide +kernel
  | 5, _ => decide +kernel
  | 6, _ => decide +kernel
  | 7, _ => decide +kernel
  | 8, _ => decide +kernel
  | 9, _ => decide +kernel
  | 10, _ => decide +kernel
  | 11, _ => decide +kernel
  | 12, _ => decide +kernel
  | q + 13, h => exact absurd h (by omega)
theorem lA_Y {w : vi_W} (hY : kY w.1 60) : kY (ywO w lA).1 73 := by
  intro p h1 h2
  by_cases h : p < 60
  · obtain ⟨e1, e2, e3⟩ := ylow h lA (by decide +kernel) w
    obtain ⟨f1, f2, f3⟩ := hY p h1 h
    exact ⟨e1.trans f1, e2.trans f2, fun k => (e3 k).trans (f3 k)⟩
  · exact @yoC_Y w lA p lA_K (by have := lA_c (p - 60) (by omega); rw [show 60 + (p - 60) = p by omega] at this; exact this)
/-- the class's cells laid: nothing held, a box of five, no LAW -/
def gNo : gLaw := fun _ _ => (false, false, 1)
section
variable {d : Nat} {Q : Option vi_V → vi_W → Prop}
theorem c_188_29_3 {w : vi_W} (hn : w.2.2.1 = 60) (h : w.1.1 29 = 31) (f0 : (w.1.2.2 29 0).toNat = 30) (hY : kY w.1 60) (s6 : w.2.1 30 6 = 0) (s7 : w.2.1 30 7 = -1) (s8 : w.2.1 30 8 = 5) (s9 : w.2.1 30 9 = 5) (s10 : w.2.1 30 10 = 5) (r2 : w.2.1 31 2 = 0)
    (hq : ∀ M', M' 61 = vi_m 216 (fun c => (hC 5 5 5 [] (c : Int) : Int)) (fun _ => 0) → M' 62 = gW 5 5 5 [] gNo 216 (fun _ => 0) → M' 64 = cR (sBox 5 5 5) → M' 66 = cR (gP 5 5 5 [] gNo 216) → M' 68 = cR (gS 5 5 5 [] gNo 216) → (∀ p, p ≤ 120 → p ≠ 61 → p ≠ 62 → p ≠ 64 → p ≠ 66 → p ≠ 68 → M' p = (ywO w lA).2.1 p) →
      vi_ok GG (d + 13) 188 52 [some (.inr (.inr 29))] [] (vi_yfin (ywO w lA).1 29 3 60, M', (ywO w lA).2.2) Q) :
    vi_ok GG (d + 13) 188 37 [some (.inr (.inr 29))] [] w Q := by
  have hK := lA_Y hY
  have q0 : ∀ p, (ywO w lA).2.1 p = yoM p (w.2.1 p) lA := fun p => ywO_M p lA w
  have m30 : (ywO w lA).2.1 30 = w.2.1 30 := q0 30
  have m31 : (ywO w lA).2.1 31 = w.2.1 31 := q0 31
  have m61 : (ywO w lA).2.1 61 = fun _ => 0 := q0 61
  have m62 : (ywO w lA).2.1 62 = fun _ => 0 := q0 62
  have m64 : (ywO w lA).2.1 64 = cR fun _ => false := (q0 64).trans cR_0.symm
  have m66 : (ywO w lA).2.1 66 = cR fun _ => false := (q0 66).trans cR_0.symm
  have m68 : (ywO w lA).2.1 68 = cR fun _ => false := (q0 68).trans cR_0.symm
  have t29 : (ywO w lA).1.1 29 = 31 := by rw [ywO_T, h]; decide +kernel
  have t60 : (ywO w lA).1.1 60 = 21 := (y_60 hK (by omega)).1
  obtain ⟨M', g1, g2, g3, g4, g5, g6, -, k25⟩ := @k_25 d (ywO w lA).1 (ywO w lA).2.1 (ywO w lA).2.2 [] hK (by rw [m30, s8, s9, s10]; unfold gB; omega) ⟨by rw [m31, r2]; rfl, fun r j hr => absurd hr (by simp)⟩ (by simp) (fun r hr => absurd hr (by simp)) gNo ⟨0, by rw [m30, s6]; rfl, by omega, .inl ⟨by rw [m30, s7], rfl⟩⟩ (fun _ => false) (fun _ => false) (fun _ => false) m64 m66 m68
  rw [m30, s8, s9, s10] at g1 g2 g3 g4 g5
  rw [m61] at g1
  rw [m62] at g2
  have hq' := hq M' g1 g2 g3 g4 g5 g6
  clear hq g1 g2 g3 g4 g5 g6 q0 m30 m31 m61 m62 m64 m66 m68 s6 s7 s8 s9 s10 r2 hK hY
  have step : vi_ok GG (d + 12) 24 82 [some (.inr (.inr 60)), some (.inr (.inr 30))] [] (ywO w lA) (fun r w' => vi_ok GG (d + 13) 188 49 [some (.inr (.inr 29))] (r.toList ++ [.inr (.inr 60), .inr (.inr 29)]) w' Q) := by
    show vi_ok GG (d + 12) 24 82 [some (.inr (.inr 60)), some (.inr (.inr 30))] [] ((ywO w lA).1, (ywO w lA).2.1, (ywO w lA).2.2) _
    simp (disch := omega) only [Option.toList_some, Option.toList_none, List.nil_append, List.cons_append, List.append_nil, true_and, and_true, not_true_eq_false, not_false_eq_true, true_implies, false_implies, implies_true, and_self, Int.reduceLT, Int.reduceLE, Int.reduceEq, Int.reduceNe, Int.reduceAdd, Int.reduceSub, Int.reduceMul, Int.reduceNeg, Int.reduceToNat, Int.toNat_natCast, ↓kk_ck, ↓kk_im, ↓kk_in, s_24_82, t60, k25, s_24_86, s_188_49, t29]
    exact hq'
  clear hq' k25
  rw [lA, ywO_c] at step
  obtain ⟨Y, M, n, m⟩ := w
  have hn : n = 60 := hn
  subst hn
  have h : Y.1 29 = 31 := h
  rw [show ywO1 (Y, M, 60, m) (0, 60, 21, 8, fun _ => 0) = (vi_ynew Y 60 21 8, vi_rs M 60 (fun _ => 0), 61, m + 8) from rfl] at step
  have t1 : (vi_ynew Y 60 21 8).1 60 = 21 := yn1
  have t2 : (vi_ynew Y 60 21 8).1 29 = 31 := by rw [yn1o (by decide)]; exact h
  have t6 : ((vi_ynew Y 60 21 8).2.2 29 0).toNat = 30 := by rw [yn3o (by decide)]; exact f0
  have st2 := n_24_60 (d := d) (w := (vi_ynew Y 60 21 8, vi_rs M 60 (fun _ => 0), 61, m + 8)) rfl t1 step
  clear step t29 t60
  simp (disch := omega) only [Option.toList_some, Option.toList_none, List.nil_append, List.cons_append, List.append_nil, true_and, and_true, not_true_eq_false, not_false_eq_true, true_implies, false_implies, implies_true, and_self, Int.reduceLT, Int.reduceLE, Int.reduceEq, Int.reduceNe, Int.reduceAdd, Int.reduceSub, Int.reduceMul, Int.reduceNeg, Int.reduceToNat, Int.toNat_natCast, ↓kk_ck, ↓kk_im, ↓kk_in, s_188_37, s_188_41, s_188_46, e_24, s_24_0, t1, t2, t6, h, ne_eq]
  exact st2
end
