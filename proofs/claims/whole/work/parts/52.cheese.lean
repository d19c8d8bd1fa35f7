/-! Contracts of Cheese (at 60, over Held at 30). -/
/-- how many cells of the first r holes are the cell c -/
def hP (x y z : Int) (L : List (Nat → Int)) : Nat → Int → Nat
  | 0, _ => 0
  | r + 1, c => hP x y z L r c + sN 6 (fun k => decide (gOf x y z (rL L r) (k : Int) = c))
def hC (x y z : Int) (L : List (Nat → Int)) (c : Int) : Nat := hP x y z L L.length c
theorem hP_le {x y z : Int} {L : List (Nat → Int)} : ∀ (r : Nat) (c : Int), hP x y z L r c ≤ 6 * r
  | 0, _ => Nat.le_refl _
  | r + 1, c => by
    have h1 := hP_le (x := x) (y := y) (z := z) (L := L) r c
    have h2 := sN_le 6 (fun k => decide (gOf x y z (rL L r) (k : Int) = c))
    rw [hP]; omega
section
variable {d : Nat} {K : Option vi_V → vi_W → Prop} {Y : vi_Y} {M : vi_M} {n : Nat × Nat} {L : List (Nat → Int)}
theorem k_37 (hY : kY Y 73) (hb : gB (M 30 8) (M 30 9) (M 30 10)) (hr : rOK (M 31) (M 32) L) (hl : L.length ≤ 16) (hg : ∀ r, r < L.length → gH (rL L r)) : vi_call GG (d + 3) 37 [.inr (.inr 60)] (Y, M, n) K ↔ K none (Y, vi_rs M 61 (vi_m 216 (fun c => (hC (M 30 8) (M 30 9) (M 30 10) L (c : Int) : Int)) (M 61)), n) := by
  obtain ⟨a1, a2, a3, a4, a5, a6, a7, a8, a9⟩ := y_60 hY (by omega)
  obtain ⟨b1, b2, b3, b4, b5, b6, b7⟩ := y_30 hY (by omega)
  obtain ⟨c1, c2⟩ := y_61 hY (by omega)
  have r1 := kR_31 hY (by omega)
  refine vi_k (r := none) fun Q hQ => ?_
  have loop2 : ∀ r : Nat, r ≤ L.length → vi_ok GG (d + 2) 37 26 [some (.inr (.inr 60)), some (.inl (r : Int)), none, none] [] (Y, vi_rs M 61 (vi_m 216 (fun c => (hP (M 30 8) (M 30 9) (M 30 10) L r (c : Int) : Int)) (M 61)), n) Q := by
    refine vi_dn L.length ?_ fun r hr ih => ?_
    · rw [s_37_26]
      simp (disch := omega) only [Option.toList_some, Option.toList_none, List.nil_append, List.cons_append, List.append_nil, true_and, and_true, not_true_eq_false, not_false_eq_true, true_implies, false_implies, implies_true, and_self, Int.reduceLT, Int.reduceLE, Int.reduceEq, Int.reduceNe, Int.reduceAdd, Int.reduceSub, Int.reduceMul, Int.reduceNeg, Int.reduceToNat, Int.toNat_natCast, ↓kk_ck, ↓kk_im, ↓kk_in, s_37_0, s_37_11, s_37_24, s_37_40, s_37_48, s_37_69, s_37_78, s_37_88, s_37_94, s_37_100, s_37_7, s_37_15, s_37_31, s_37_52, s_37_74, s_37_82, s_37_8, s_37_18, s_37_34, s_37_56, s_37_75, s_37_85, s_37_37, s_37_59, s_37_64, a1, a2, b1, b2, r1.1, vi_rs_o (show 31 ≠ 61 by omega), hr.1]
      exact hQ
    · have loop3 : ∀ k : Nat, k ≤ 6 → ∀ l3, vi_ok GG (d + 2) 37 42 [some (.inr (.inr 60)), some (.inl (r : Int)), some (.inl (k : Int)), l3] [] (Y, vi_rs M 61 (vi_m 216 (fun c => ((hP (M 30 8) (M 30 9) (M 30 10) L r (c : Int) + sN k (fun k => decide (gOf (M 30 8) (M 30 9) (M 30 10) (rL L r) (k : Int) = (c : Int))) : Nat) : Int)) (M 61)), n) Q := by
        refine vi_dn 6 ?_ fun k hk ih3 => ?_
        · intro l3
          rw [s_37_42]
          simp (disch := omega) only [Option.toList_some, Option.toList_none, List.nil_append, List.cons_append, List.append_nil, true_and, and_true, not_true_eq_false, not_false_eq_true, true_implies, false_implies, implies_true, and_self, Int.reduceLT, Int.reduceLE, Int.reduceEq, Int.reduceNe, Int.reduceAdd, Int.reduceSub, Int.reduceMul, Int.reduceNeg, Int.reduceToNat, Int.toNat_natCast, ↓kk_ck, ↓kk_im, ↓kk_in, s_37_0, s_37_11, s_37_24, s_37_40, s_37_48, s_37_69, s_37_78, s_37_88, s_37_94, s_37_100, s_37_7, s_37_15, s_37_31, s_37_52, s_37_74, s_37_82, s_37_8, s_37_18, s_37_34, s_37_56, s_37_75, s_37_85, s_37_37, s_37_59, s_37_64, vi_inc]
          sorry
        · intro l3
          rw [s_37_42]
          have hc := fun {K : Option vi_V → vi_W → Prop} {g : Nat → Int} => @k_53 d 30 K Y (vi_rs M 61 g) n (y_30 hY (by omega)).1 hb 31 16 L r1 hr hl r k hr (hg r hr) hk
          sorry
      rw [s_37_26]
      simp (disch := omega) only [Option.toList_some, Option.toList_none, List.nil_append, List.cons_append, List.append_nil, true_and, and_true, not_true_eq_false, not_false_eq_true, true_implies, false_implies, implies_true, and_self, Int.reduceLT, Int.reduceLE, Int.reduceEq, Int.reduceNe, Int.reduceAdd, Int.reduceSub, Int.reduceMul, Int.reduceNeg, Int.reduceToNat, Int.toNat_natCast, ↓kk_ck, ↓kk_im, ↓kk_in, s_37_0, s_37_11, s_37_24, s_37_40, s_37_48, s_37_69, s_37_78, s_37_88, s_37_94, s_37_100, s_37_7, s_37_15, s_37_31, s_37_52, s_37_74, s_37_82, s_37_8, s_37_18, s_37_34, s_37_56, s_37_75, s_37_85, s_37_37, s_37_59, s_37_64, a1, a2, b1, b2, r1.1, vi_rs_o (show 31 ≠ 61 by omega), hr.1]
      have := loop3 0 (by omega)
      sorry
  have loop1 : ∀ c : Nat, c ≤ 216 → vi_ok GG (d + 2) 37 2 [some (.inr (.inr 60)), some (.inl (c : Int)), none, none] [] (Y, vi_rs M 61 (vi_m c (fun _ => 0) (M 61)), n) Q := by
    refine vi_dn 216 ?_ fun c hc ih => ?_
    · rw [s_37_2]
      simp (disch := omega) only [Option.toList_some, Option.toList_none, List.nil_append, List.cons_append, List.append_nil, true_and, and_true, not_true_eq_false, not_false_eq_true, true_implies, false_implies, implies_true, and_self, Int.reduceLT, Int.reduceLE, Int.reduceEq, Int.reduceNe, Int.reduceAdd, Int.reduceSub, Int.reduceMul, Int.reduceNeg, Int.reduceToNat, Int.toNat_natCast, ↓kk_ck, ↓kk_im, ↓kk_in, s_37_0, s_37_11, s_37_24, s_37_40, s_37_48, s_37_69, s_37_78, s_37_88, s_37_94, s_37_100, s_37_7, s_37_15, s_37_31, s_37_52, s_37_74, s_37_82, s_37_8, s_37_18, s_37_34, s_37_56, s_37_75, s_37_85, s_37_37, s_37_59, s_37_64, a1, a2, a3, c1, c2]
      exact loop2 0 (by omega)
    · rw [s_37_2]
      simp (disch := omega) only [Option.toList_some, Option.toList_none, List.nil_append, List.cons_append, List.append_nil, true_and, and_true, not_true_eq_false, not_false_eq_true, true_implies, false_implies, implies_true, and_self, Int.reduceLT, Int.reduceLE, Int.reduceEq, Int.reduceNe, Int.reduceAdd, Int.reduceSub, Int.reduceMul, Int.reduceNeg, Int.reduceToNat, Int.toNat_natCast, ↓kk_ck, ↓kk_im, ↓kk_in, s_37_0, s_37_11, s_37_24, s_37_40, s_37_48, s_37_69, s_37_78, s_37_88, s_37_94, s_37_100, s_37_7, s_37_15, s_37_31, s_37_52, s_37_74, s_37_82, s_37_8, s_37_18, s_37_34, s_37_56, s_37_75, s_37_85, s_37_37, s_37_59, s_37_64, a1, a2, a3, c1, c2, vi_ms_rs, vi_rs_s, vi_rs_rs, vi_inc]
      rw [vi_m_s rfl]
      exact ih
  have := loop1 0 (by omega)
  rw [vi_m_0, vi_rs_id rfl] at this
  rw [e_37, s_37_0]
  exact this
end
