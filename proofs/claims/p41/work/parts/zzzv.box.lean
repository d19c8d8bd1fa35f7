/-! The property of its own: a box by ints. -/
def lF0 (M M' : vi_M) : Prop := ∀ p, (p < 29 ∨ p = 39 ∨ p = 73 ∨ p = 74) → M' p = M p
theorem lF0_r {M : vi_M} : lF0 M M := fun _ _ => rfl
theorem lF0_t {M M1 M2 : vi_M} (h : lF0 M M1) (h' : lF M1 M2) : lF0 M M2 := fun p hp => (h' p (by omega)).trans (h p hp)
theorem lF0_u {M M1 : vi_M} (h : lF0 M M1) {q : Nat} (hq : 112 ≤ q) {g : Nat → Int} : lF0 M (vi_rs M1 q g) := fun p hp => (vi_rs_o (by omega)).trans (h p hp)
theorem pS_o {M : vi_M} {x y z t : Int} {L R : List (Nat → Int)} {lw : Option (List gCla)} {nl : Nat} {fo : Int} (h : wS M x y z t L R lw nl fo) {q : Nat} (hq : 112 ≤ q) {g : Nat → Int} : wS (vi_rs M q g) x y z t L R lw nl fo := ⟨pP_c h.1 fun p hp => vi_rs_o (by omega), jV_c h.2 fun p p1 p2 => vi_rs_o (by omega)⟩
section
variable {d : Nat} {Y : vi_Y} {M0 : vi_M} {nn : Nat × Nat} {v : Int} {Q : Option vi_V → vi_W → Prop}

theorem bx_25 (hY : kY Y 112) (h9 : kY9 Y) (tr : Y.1 112 = 1 ∧ (Y.2.1 112 : Int) = 222)
    (hQ : ∀ (M : vi_M) (x y z : Int), wS M x y z 0 [] [] none 0 (-1) → lF0 M0 M → M 112 0 = x → M 112 1 = y → M 112 2 = z → (∀ i, 3 ≤ i → i < 222 → M 112 i = 0) → vi_ok GG (d + 71) 236 67 [some (.inr (.inr 29)), some (.inr (.inr 1)), some (.inl 6), some (.inl 9), some (.inr (.inr 112)), some (.inl v), some (.inl 3), none, none, none, none, none, none, none, none] [] (Y, M, nn) Q) : ∀ k : Nat, k ≤ 3 → ∀ (M : vi_M) (x y z : Int), wS M x y z 0 [] [] none 0 (-1) → lF0 M0 M → (1 ≤ k → M 112 0 = x) → (2 ≤ k → M 112 1 = y) → (3 ≤ k → M 112 2 = z) → (∀ i, k ≤ i → i < 222 → M 112 i = 0) → vi_ok GG (d + 71) 236 25 [some (.inr (.inr 29)), some (.inr (.inr 1)), some (.inl 6), some (.inl 9), some (.inr (.inr 112)), some (.inl v), some (.inl (k : Int)), none, none, none, none, none, none, none, none] [] (Y, M, nn) Q := by
  obtain ⟨t1, t2⟩ := tr
  have h29 := h9.1
  refine vi_dn 3 ?_ ?_
  · intro M x y z hS hf h0 h1 h2 hz
    have := hQ M x y z hS hf (h0 (by omega)) (h1 (by omega)) (h2 (by omega)) hz
    rw [s_236_25]
    clear hQ hS hf h0 h1 h2 hz hY h9
    simp (disch := omega) only [Option.toList_some, Option.toList_none, List.nil_append, List.cons_append, List.append_nil, true_and, and_true, not_true_eq_false, not_false_eq_true, true_implies, false_implies, implies_true, and_self, Int.reduceLT, Int.reduceLE, Int.reduceEq, Int.reduceNe, Int.reduceAdd, Int.reduceSub, Int.reduceMul, Int.reduceNeg, Int.reduceToNat, Int.toNat_natCast, ↓kk_ck, ↓kk_im, ↓kk_in]
    exact this
  · intro k hk ih M x y z hS hf h0 h1 h2 hz
    have st : ∀ u : Int, vi_ok GG (d + 71) 236 47 [some (.inr (.inr 29)), some (.inr (.inr 1)), some (.inl 6), some (.inl 9), some (.inr (.inr 112)), some (.inl v), some (.inl (k : Int)), none, none, none, none, none, none, none, none] [.inl (u % 6), .inl 1, .inl (k : Int), .inr (.inr 112)] (Y, M, nn) Q := by
      intro u
      obtain ⟨s, hs⟩ : ∃ s, s = 1 + u % 6 := ⟨_, rfl⟩
      have sb : 1 ≤ s ∧ s ≤ 6 := by omega
      have cl : vi_call GG (d + 71) 192 [.inr (.inr 29), .inl (k : Int), .inl s] (Y, vi_rs M 112 (vi_u (M 112) k s), nn) (fun r w' => vi_ok GG (d + 71) 236 60 [some (.inr (.inr 29)), some (.inr (.inr 1)), some (.inl 6), some (.inl 9), some (.inr (.inr 112)), some (.inl v), some (.inl (k : Int)), none, none, none, none, none, none, none, none] r.toList w' Q) := by
        refine @lk_192 (d + 1) 0 Y (vi_rs M 112 (vi_u (M 112) k s)) nn x y z 0 _ hY h9 (pS_o hS (by decide)) (by decide) k s (by omega) (fun _ => sb) (fun e => absurd e (by omega)) fun M' r hS' hf' => ?_
        have e112 : M' 112 = vi_u (M 112) k s := (hf' 112 (by omega)).trans vi_rs_s
        rw [if_neg (show ¬ k = 3 by omega)] at hS'
        have nx := ih M' _ _ _ hS' (lF0_t (lF0_u hf (by decide)) hf') (fun _ => by
          rw [e112]
          by_cases e : k = 0
          · rw [if_pos e, e, vi_u_s]
          · rw [if_neg e, vi_u_o (by omega)]; exact h0 (by omega)) (fun _ => by
          rw [e112]
          by_cases e : k = 1
          · rw [if_pos e, e, vi_u_s]
          · rw [if_neg e, vi_u_o (by omega)]; exact h1 (by omega)) (fun _ => by
          rw [e112]
          by_cases e : k = 2
          · rw [if_pos e, e, vi_u_s]
          · rw [if_neg e, vi_u_o (by omega)]; exact h2 (by omega)) (fun i i1 i2 => by rw [e112, vi_u_o (by omega)]; exact hz i (by omega) i2)
        clear ih hQ hS hf h0 h1 h2 hz hS' hf' e112 hs sb
        simp (disch := omega) only [Option.toList_some, Option.toList_none, List.nil_append, List.cons_append, List.append_nil, true_and, and_true, not_true_eq_false, not_false_eq_true, true_implies, false_implies, implies_true, and_self, Int.reduceLT, Int.reduceLE, Int.reduceEq, Int.reduceNe, Int.reduceAdd, Int.reduceSub, Int.reduceMul, Int.reduceNeg, Int.reduceToNat, Int.toNat_natCast, ↓kk_ck, ↓kk_im, ↓kk_in, s_236_60, vi_inc]
        exact nx
      clear ih hQ hS hf h0 h1 h2 hz
      simp (disch := omega) only [Option.toList_some, Option.toList_none, List.nil_append, List.cons_append, List.append_nil, true_and, and_true, not_true_eq_false, not_false_eq_true, true_implies, false_implies, implies_true, and_self, Int.reduceLT, Int.reduceLE, Int.reduceEq, Int.reduceNe, Int.reduceAdd, Int.reduceSub, Int.reduceMul, Int.reduceNeg, Int.reduceToNat, Int.toNat_natCast, ↓kk_ck, ↓kk_im, ↓kk_in, s_236_47, s_236_49, s_236_57, t1, t2, h29, vi_ms_rs, vi_rs_s, vi_u_s, ← hs, @vi_32 s (by omega) (by omega)]
      exact cl
    rw [s_236_25]
    have k234 := fun {K : Option vi_V → vi_W → Prop} {u : Int} => @lk_234 (d + 70) K Y M nn u 6 (by decide) (by decide)
    simp only [Nat.add_assoc, Nat.reduceAdd] at k234
    clear ih hQ hS hf h0 h1 h2 hz
    simp (disch := omega) only [Option.toList_some, Option.toList_none, List.nil_append, List.cons_append, List.append_nil, true_and, and_true, not_true_eq_false, not_false_eq_true, true_implies, false_implies, implies_true, and_self, Int.reduceLT, Int.reduceLE, Int.reduceEq, Int.reduceNe, Int.reduceAdd, Int.reduceSub, Int.reduceMul, Int.reduceNeg, Int.reduceToNat, Int.toNat_natCast, ↓kk_ck, ↓kk_im, ↓kk_in, s_236_31, vi_32, k234]
    exact st _
theorem bx_67 (hY : kY Y 112) (h9 : kY9 Y) (tr : Y.1 112 = 1 ∧ (Y.2.1 112 : Int) = 222) {M : vi_M} {x y z : Int} (hS : wS M x y z 0 [] [] none 0 (-1)) (hf : lF0 M0 M) (r0 : M 112 0 = x) (r1 : M 112 1 = y) (r2 : M 112 2 = z) (hz : ∀ i, 3 ≤ i → i < 222 → M 112 i = 0)
    (hQ : ∀ (M : vi_M) (t : Int), 0 ≤ t ∧ t ≤ 4 → wS M x y z t [] [] none 0 (-1) → lF0 M0 M → M 112 0 = x → M 112 1 = y → M 112 2 = z → M 112 3 = t → (∀ i, 4 ≤ i → i < 222 → M 112 i = 0) → vi_ok GG (d + 71) 236 93 [some (.inr (.inr 29)), some (.inr (.inr 1)), some (.inl 6), some (.inl 9), some (.inr (.inr 112)), some (.inl v), some (.inl 0), none, none, none, none, none, none, none, none] [] (Y, M, nn) Q) : vi_ok GG (d + 71) 236 67 [some (.inr (.inr 29)), some (.inr (.inr 1)), some (.inl 6), some (.inl 9), some (.inr (.inr 112)), some (.inl v), some (.inl 3), none, none, none, none, none, none, none, none] [] (Y, M, nn) Q := by
  obtain ⟨t1, t2⟩ := tr
  have h29 := h9.1
  have st : ∀ u : Int, vi_ok GG (d + 71) 236 79 [some (.inr (.inr 29)), some (.inr (.inr 1)), some (.inl 6), some (.inl 9), some (.inr (.inr 112)), some (.inl v), some (.inl 3), none, none, none, none, none, none, none, none] [.inl (u % 5), .inl 3, .inr (.inr 112)] (Y, M, nn) Q := by
    intro u
    obtain ⟨s, hs⟩ : ∃ s, s = u % 5 := ⟨_, rfl⟩
    have sb : 0 ≤ s ∧ s ≤ 4 := by omega
    have cl : vi_call GG (d + 71) 192 [.inr (.inr 29), .inl 3, .inl s] (Y, vi_rs M 112 (vi_u (M 112) 3 s), nn) (fun r w' => vi_ok GG (d + 71) 236 89 [some (.inr (.inr 29)), some (.inr (.inr 1)), some (.inl 6), some (.inl 9), some (.inr (.inr 112)), some (.inl v), some (.inl 3), none, none, none, none, none, none, none, none] r.toList w' Q) := by
      refine @lk_192 (d + 1) 0 Y (vi_rs M 112 (vi_u (M 112) 3 s)) nn x y z 0 _ hY h9 (pS_o hS (by decide)) (by decide) 3 s (by decide) (fun e => absurd e (by decide)) (fun _ => by omega) fun M' r hS' hf' => ?_
      have e112 : M' 112 = vi_u (M 112) 3 s := (hf' 112 (by omega)).trans vi_rs_s
      have hS' : wS M' x y z s [] [] none 0 (-1) := hS'
      have nx := hQ M' s sb hS' (lF0_t (lF0_u hf (by decide)) hf') (by rw [e112, vi_u_o (by decide)]; exact r0) (by rw [e112, vi_u_o (by decide)]; exact r1) (by rw [e112, vi_u_o (by decide)]; exact r2) (by rw [e112, vi_u_s]) (fun i i1 i2 => by rw [e112, vi_u_o (by omega)]; exact hz i (by omega) i2)
      clear hQ hS hf r0 r1 r2 hz hS' hf' e112 hs sb
      simp (disch := omega) only [Option.toList_some, Option.toList_none, List.nil_append, List.cons_append, List.append_nil, true_and, and_true, not_true_eq_false, not_false_eq_true, true_implies, false_implies, implies_true, and_self, Int.reduceLT, Int.reduceLE, Int.reduceEq, Int.reduceNe, Int.reduceAdd, Int.reduceSub, Int.reduceMul, Int.reduceNeg, Int.reduceToNat, Int.toNat_natCast, ↓kk_ck, ↓kk_im, ↓kk_in, s_236_89]
      exact nx
    have z3 : (3 : Int).toNat = 3 := rfl
    rw [← hs]
    clear hQ hS hf r0 r1 r2 hz hs
    simp (disch := omega) only [Option.toList_some, Option.toList_none, List.nil_append, List.cons_append, List.append_nil, true_and, and_true, not_true_eq_false, not_false_eq_true, true_implies, false_implies, implies_true, and_self, Int.reduceLT, Int.reduceLE, Int.reduceEq, Int.reduceNe, Int.reduceAdd, Int.reduceSub, Int.reduceMul, Int.reduceNeg, Int.reduceToNat, Int.toNat_natCast, ↓kk_ck, ↓kk_im, ↓kk_in, s_236_79, s_236_80, s_236_86, t1, t2, h29, z3, vi_ms_rs, vi_rs_s, vi_u_s]
    exact cl
  have k234 := fun {K : Option vi_V → vi_W → Prop} {u : Int} => @lk_234 (d + 70) K Y M nn u 5 (by decide) (by decide)
  simp only [Nat.add_assoc, Nat.reduceAdd] at k234
  clear hQ hS hf r0 r1 r2 hz
  simp (disch := omega) only [Option.toList_some, Option.toList_none, List.nil_append, List.cons_append, List.append_nil, true_and, and_true, not_true_eq_false, not_false_eq_true, true_implies, false_implies, implies_true, and_self, Int.reduceLT, Int.reduceLE, Int.reduceEq, Int.reduceNe, Int.reduceAdd, Int.reduceSub, Int.reduceMul, Int.reduceNeg, Int.reduceToNat, Int.toNat_natCast, ↓kk_ck, ↓kk_im, ↓kk_in, s_236_67, k234]
  exact st _
/-- the law's row of a box -/
def bxR (g f : Nat → Int) (n5 : Int) (k : Nat) (h : Nat → Int) : Prop := (g 0 = f 96 ∧ g 1 = f 97 ∧ g 2 = f 98 ∧ g 3 = f 99 ∧ g 5 = n5) ∧ ∀ c, c < k → g (6 + c) = if bxS f c = true then h c else -1
theorem bxS_f {x y z t : Int} {L : List (Nat → Int)} {c : Nat} (hc : c < 216) : (bxS (fK x y z t L) c = true) ↔ ((c : Int) % 6 < x ∧ (c : Int) / 6 % 6 < y ∧ (c : Int) / 36 < z) := by
  unfold bxS mIcb
  rw [decide_eq_true_iff]
  exact ⟨fun ⟨_, _, h⟩ => h, fun h => ⟨by omega, by omega, h⟩⟩
theorem bx_93 (tr : Y.1 112 = 1 ∧ (Y.2.1 112 : Int) = 222) {M : vi_M} {x y z t : Int} (hb : gB x y z)
    (hQ : ∀ g, bxR g (fK x y z t []) 0 216 (fun _ => 0) → vi_ok GG (d + 71) 236 162 [some (.inr (.inr 29)), some (.inr (.inr 1)), some (.inl 6), some (.inl 9), some (.inr (.inr 112)), some (.inl v), some (.inl 0), none, none, none, none, none, none, none, none] [] (Y, vi_rs M 112 g, nn) Q) : ∀ k : Nat, k ≤ 216 → ∀ g, bxR g (fK x y z t []) 0 k (fun _ => 0) → vi_ok GG (d + 71) 236 93 [some (.inr (.inr 29)), some (.inr (.inr 1)), some (.inl 6), some (.inl 9), some (.inr (.inr 112)), some (.inl v), some (.inl (k : Int)), none, none, none, none, none, none, none, none] [] (Y, vi_rs M 112 g, nn) Q := by
  obtain ⟨t1, t2⟩ := tr
  obtain ⟨hb0, hb1, hb2⟩ := hb
  refine vi_dn 216 ?_ ?_
  · intro g hg
    have := hQ g hg
    rw [s_236_93]
    clear hQ hg
    simp (disch := omega) only [Option.toList_some, Option.toList_none, List.nil_append, List.cons_append, List.append_nil, true_and, and_true, not_true_eq_false, not_false_eq_true, true_implies, false_implies, implies_true, and_self, Int.reduceLT, Int.reduceLE, Int.reduceEq, Int.reduceNe, Int.reduceAdd, Int.reduceSub, Int.reduceMul, Int.reduceNeg, Int.reduceToNat, Int.toNat_natCast, ↓kk_ck, ↓kk_im, ↓kk_in, s_236_159]
    exact this
  · intro c hc ih g hg
    obtain ⟨⟨g0, g1, g2, g3, g5⟩, gc⟩ := hg
    have g0 : g 0 = x := g0
    have g1 : g 1 = y := g1
    have g2 : g 2 = z := g2
    have z0 : (0 : Int).toNat = 0 := rfl
    have z1 : (1 : Int).toNat = 1 := rfl
    have z2 : (2 : Int).toNat = 2 := rfl
    have e6 : (6 + (c : Int)).toNat = 6 + c := by omega
    have nx := ih (vi_u g (6 + c) (if bxS (fK x y z t []) c = true then 0 else -1)) ⟨⟨by rw [vi_u_o (by omega)]; exact g0, by rw [vi_u_o (by omega)]; exact g1, by rw [vi_u_o (by omega)]; exact g2, by rw [vi_u_o (by omega)]; exact g3, by rw [vi_u_o (by omega)]; exact g5⟩, fun j hj => by
      by_cases e : j = c
      · rw [e, vi_u_s]
      · rw [vi_u_o (by omega)]; exact gc j (by omega)⟩
    have fin : ∀ s : Int, s = (if bxS (fK x y z t []) c = true then 0 else -1) → vi_ok GG (d + 71) 236 152 [some (.inr (.inr 29)), some (.inr (.inr 1)), some (.inl 6), some (.inl 9), some (.inr (.inr 112)), some (.inl v), some (.inl (c : Int)), none, none, none, none, none, none, none, none] [.inl s, .inl (6 + (c : Int)), .inr (.inr 112)] (Y, vi_rs M 112 g, nn) Q := by
      intro s hs
      rw [← hs] at nx
      clear ih hQ gc hs
      simp (disch := omega) only [Option.toList_some, Option.toList_none, List.nil_append, List.cons_append, List.append_nil, true_and, and_true, not_true_eq_false, not_false_eq_true, true_implies, false_implies, implies_true, and_self, Int.reduceLT, Int.reduceLE, Int.reduceEq, Int.reduceNe, Int.reduceAdd, Int.reduceSub, Int.reduceMul, Int.reduceNeg, Int.reduceToNat, Int.toNat_natCast, ↓kk_ck, ↓kk_im, ↓kk_in, s_236_152, s_236_153, t1, t2, e6, vi_ms_rs, vi_rs_s, vi_rs_rs, vi_inc]
      exact nx
    rw [s_236_93]
    clear ih hQ gc nx
    by_cases a : (c : Int) % 6 < x
    · by_cases b : (c : Int) / 6 % 6 < y
      · by_cases e : (c : Int) / 36 < z
        · have := fin 0 (by rw [if_pos ((bxS_f hc).mpr ⟨a, b, e⟩)])
          simp (disch := omega) only [Option.toList_some, Option.toList_none, List.nil_append, List.cons_append, List.append_nil, true_and, and_true, not_true_eq_false, not_false_eq_true, true_implies, false_implies, implies_true, and_self, Int.reduceLT, Int.reduceLE, Int.reduceEq, Int.reduceNe, Int.reduceAdd, Int.reduceSub, Int.reduceMul, Int.reduceNeg, Int.reduceToNat, Int.toNat_natCast, ↓kk_ck, ↓kk_im, ↓kk_in, s_236_101, s_236_117, s_236_120, s_236_132, s_236_135, s_236_144, s_236_147, t1, t2, z0, z1, z2, g0, g1, g2, vi_rs_s, vi_tm, vi_td, vi_32]
          exact this
        · have := fin (-1) (by rw [if_neg (fun h => e ((bxS_f hc).mp h).2.2)])
          simp (disch := omega) only [Option.toList_some, Option.toList_none, List.nil_append, List.cons_append, List.append_nil, true_and, and_true, not_true_eq_false, not_false_eq_true, true_implies, false_implies, implies_true, and_self, Int.reduceLT, Int.reduceLE, Int.reduceEq, Int.reduceNe, Int.reduceAdd, Int.reduceSub, Int.reduceMul, Int.reduceNeg, Int.reduceToNat, Int.toNat_natCast, ↓kk_ck, ↓kk_im, ↓kk_in, s_236_101, s_236_117, s_236_120, s_236_132, s_236_135, s_236_144, s_236_151, t1, t2, z0, z1, z2, g0, g1, g2, vi_rs_s, vi_tm, vi_td, vi_32]
          exact this
      · have := fin (-1) (by rw [if_neg (fun h => b ((bxS_f hc).mp h).2.1)])
        simp (disch := omega) only [Option.toList_some, Option.toList_none, List.nil_append, List.cons_append, List.append_nil, true_and, and_true, not_true_eq_false, not_false_eq_true, true_implies, false_implies, implies_true, and_self, Int.reduceLT, Int.reduceLE, Int.reduceEq, Int.reduceNe, Int.reduceAdd, Int.reduceSub, Int.reduceMul, Int.reduceNeg, Int.reduceToNat, Int.toNat_natCast, ↓kk_ck, ↓kk_im, ↓kk_in, s_236_101, s_236_117, s_236_120, s_236_132, s_236_151, t1, t2, z0, z1, z2, g0, g1, g2, vi_rs_s, vi_tm, vi_td, vi_32]
        exact this
    · have := fin (-1) (by rw [if_neg (fun h => a ((bxS_f hc).mp h).1)])
      simp (disch := omega) only [Option.toList_some, Option.toList_none, List.nil_append, List.cons_append, List.append_nil, true_and, and_true, not_true_eq_false, not_false_eq_true, true_implies, false_implies, implies_true, and_self, Int.reduceLT, Int.reduceLE, Int.reduceEq, Int.reduceNe, Int.reduceAdd, Int.reduceSub, Int.reduceMul, Int.reduceNeg, Int.reduceToNat, Int.toNat_natCast, ↓kk_ck, ↓kk_im, ↓kk_in, s_236_101, s_236_117, s_236_151, t1, t2, z0, z1, z2, g0, g1, g2, vi_rs_s, vi_tm, vi_td, vi_32]
      exact this
end
