/-! Contracts of the reference, twenty-third part: all lines listed. -/
def lsR (r : Nat → Int) (g : Nat × Nat × Nat → Nat) (L : List (Nat × Nat × Nat)) : Nat → Int := fun k => match L[k]? with
  | some x => (g x : Int)
  | none => r k
theorem lsR_s {r : Nat → Int} {g : Nat × Nat × Nat → Nat} {L : List (Nat × Nat × Nat)} {x : Nat × Nat × Nat} : vi_u (lsR r g L) L.length (g x : Int) = lsR r g (L ++ [x]) := by
  funext k
  unfold vi_u lsR
  by_cases h : k = L.length
  · rw [if_pos h, h, List.getElem?_append_right (Nat.le_refl _), Nat.sub_self]
    rfl
  · rw [if_neg h]
    by_cases h2 : k < L.length
    · rw [List.getElem?_append_left h2]
    · rw [List.getElem?_append_right (by omega), List.getElem?_eq_none (by omega), List.getElem?_eq_none (by show 1 ≤ k - L.length; omega)]
def lsV (a u : Nat) : Nat → List (Nat × Nat × Nat)
  | 0 => []
  | v + 1 => lsV a u v ++ [(a, u, v)]
def lsU (a V : Nat) : Nat → List (Nat × Nat × Nat)
  | 0 => []
  | u + 1 => lsU a V u ++ lsV a u V
def szU (f : Nat → Int) (a : Nat) : Nat := (f (if a = 0 then 97 else 96)).toNat
def szV (f : Nat → Int) (a : Nat) : Nat := (f (if a = 2 then 97 else 98)).toNat
def lsA (f : Nat → Int) : Nat → List (Nat × Nat × Nat)
  | 0 => []
  | a + 1 => lsA f a ++ lsU a (szV f a) (szU f a)
theorem lsV_l {a u : Nat} : ∀ v : Nat, (lsV a u v).length = v
  | 0 => rfl
  | v + 1 => by rw [lsV, List.length_append, lsV_l v]; rfl
theorem lsU_l {a V : Nat} (hV : V ≤ 6) : ∀ u : Nat, (lsU a V u).length ≤ 6 * u
  | 0 => by rw [lsU]; exact Nat.le_refl _
  | u + 1 => by
    have := lsU_l (a := a) hV u
    rw [lsU, List.length_append, lsV_l]
    omega
theorem sz_r {M : vi_M} (hB : mBx M) {a : Nat} : (1 ≤ szU (M 114) a ∧ szU (M 114) a ≤ 6 ∧ ((szU (M 114) a : Nat) : Int) = M 114 (if (a : Int) = 0 then 97 else 96)) ∧ (1 ≤ szV (M 114) a ∧ szV (M 114) a ≤ 6 ∧ ((szV (M 114) a : Nat) : Int) = M 114 (if (a : Int) = 2 then 97 else 98)) := by
  obtain ⟨q0, q1, q2⟩ := hB
  unfold szU szV
  constructor
  · by_cases h : a = 0
    · rw [if_pos h, if_pos (by omega)]; omega
    · rw [if_neg h, if_neg (by omega)]; omega
  · by_cases h : a = 2
    · rw [if_pos h, if_pos (by omega)]; omega
    · rw [if_neg h, if_neg (by omega)]; omega
theorem lsA_l {M : vi_M} (hB : mBx M) : ∀ a : Nat, (lsA (M 114) a).length ≤ 36 * a
  | 0 => by rw [lsA]; exact Nat.le_refl _
  | a + 1 => by
    have h1 := lsA_l hB a
    obtain ⟨⟨-, u2, -⟩, -, v2, -⟩ := sz_r hB (a := a)
    have h2 := lsU_l (a := a) v2 (szU (M 114) a)
    rw [lsA, List.length_append]
    omega
/-- so many lines listed -/
def lsM (M : vi_M) (L : List (Nat × Nat × Nat)) : vi_M := vi_rs (vi_rs (vi_rs (vi_rs M 130 (lsR (M 130) (fun x => x.1) L)) 131 (lsR (M 131) (fun x => x.2.1) L)) 132 (lsR (M 132) (fun x => x.2.2) L)) 112 (vi_u (M 112) 39 (L.length : Int))
section
variable {D : Nat} {K : Option vi_V → vi_W → Prop} {Y : vi_Y} {M : vi_M} {nn : Nat × Nat} {Q : Option vi_V → vi_W → Prop}
theorem lsM_o {L : List (Nat × Nat × Nat)} : lsM M L 114 = M 114 := by
  unfold lsM
  rw [vi_rs_o (by omega), vi_rs_o (by omega), vi_rs_o (by omega), vi_rs_o (by omega)]
theorem lsM_w {L : List (Nat × Nat × Nat)} {X Z W V : Nat → Int} : vi_rs (vi_rs (vi_rs (vi_rs (lsM M L) 130 X) 131 Z) 132 W) 112 V = vi_rs (vi_rs (vi_rs (vi_rs M 130 X) 131 Z) 132 W) 112 V := by
  funext q
  unfold lsM vi_rs
  by_cases h1 : q = 112
  · simp only [if_pos h1]
  · by_cases h2 : q = 132
    · simp only [if_neg h1, if_pos h2]
    · by_cases h3 : q = 131
      · simp only [if_neg h1, if_neg h2, if_pos h3]
      · by_cases h4 : q = 130
        · simp only [if_neg h1, if_neg h2, if_neg h3, if_pos h4]
        · simp only [if_neg h1, if_neg h2, if_neg h3, if_neg h4]
theorem k_312 (hY : kY Y 151) (hB : mBx M) (hD : 3 ≤ D) : vi_call GG D 312 [.inr (.inr 112)] (Y, M, nn) K ↔ K none (Y, lsM M (lsA (M 114) 3), nn) := by
  obtain ⟨D, rfl⟩ : ∃ k, D = k + 1 := ⟨D - 1, by omega⟩
  obtain ⟨R1, -, R3, -, -, -, -, -, -, -, -, -, -, -, -, -, -, -, R33, R34, R35, -⟩ := y_112 hY (by omega)
  obtain ⟨p1, p2⟩ := y_130 hY (by omega)
  obtain ⟨p3, p4⟩ := y_131 hY (by omega)
  obtain ⟨p5, p6⟩ := y_132 hY (by omega)
  refine vi_k (r := none) fun Q hQ => ?_
  have uS : ∀ (a : Nat) (L : List (Nat × Nat × Nat)) {D : Nat} {K : Option vi_V → vi_W → Prop}, 2 ≤ D → (vi_call GG D 242 [.inr (.inr 112), .inl (a : Int)] (Y, lsM M L, nn) K ↔ K (some (.inl ((szU (M 114) a : Nat) : Int))) (Y, lsM M L, nn)) := fun a L D K hD => by
    rw [(sz_r hB (a := a)).1.2.2, ← lsM_o (M := M) (L := L)]
    exact k_242 hY hD
  have vS : ∀ (a : Nat) (L : List (Nat × Nat × Nat)) {D : Nat} {K : Option vi_V → vi_W → Prop}, 2 ≤ D → (vi_call GG D 243 [.inr (.inr 112), .inl (a : Int)] (Y, lsM M L, nn) K ↔ K (some (.inl ((szV (M 114) a : Nat) : Int))) (Y, lsM M L, nn)) := fun a L D K hD => by
    rw [(sz_r hB (a := a)).2.2.2, ← lsM_o (M := M) (L := L)]
    exact k_243 hY hD
  have put : ∀ (a u v : Nat) (L : List (Nat × Nat × Nat)), L.length < 108 → (vi_ok GG D 312 25 [some (.inr (.inr 112)), some (.inl (a : Int)), some (.inl (u : Int)), some (.inl ((v + 1 : Nat) : Int))] [] (Y, lsM M (L ++ [(a, u, v)]), nn) Q) → v < 100 → vi_ok GG D 312 34 [some (.inr (.inr 112)), some (.inl (a : Int)), some (.inl (u : Int)), some (.inl (v : Int))] [] (Y, lsM M L, nn) Q := by
    intro a u v L hL hn hv
    have e0 : lsM M L 112 39 = (L.length : Int) := by unfold lsM; rw [vi_rs_s]; exact if_pos rfl
    have r0 : lsM M L 130 = lsR (M 130) (fun x => x.1) L := by unfold lsM; rw [vi_rs_o (by omega), vi_rs_o (by omega), vi_rs_o (by omega), vi_rs_s]
    have r1 : lsM M L 131 = lsR (M 131) (fun x => x.2.1) L := by unfold lsM; rw [vi_rs_o (by omega), vi_rs_o (by omega), vi_rs_s]
    have r2 : lsM M L 132 = lsR (M 132) (fun x => x.2.2) L := by unfold lsM; rw [vi_rs_o (by omega), vi_rs_s]
    have r3 : lsM M L 112 = vi_u (M 112) 39 (L.length : Int) := by unfold lsM; rw [vi_rs_s]
    have uu : vi_u (vi_u (M 112) 39 (L.length : Int)) 39 ((L.length + 1 : Nat) : Int) = vi_u (M 112) 39 (((L ++ [(a, u, v)]).length : Nat) : Int) := by
      rw [List.length_append]
      funext k
      unfold vi_u
      by_cases e : k = 39
      · rw [if_pos e, if_pos e]
        rfl
      · rw [if_neg e, if_neg e, if_neg e]
    have s0 : vi_u (lsR (M 130) (fun x => x.1) L) L.length (a : Int) = lsR (M 130) (fun x => x.1) (L ++ [(a, u, v)]) := lsR_s (g := fun x => x.1) (x := (a, u, v))
    have s1 : vi_u (lsR (M 131) (fun x => x.2.1) L) L.length (u : Int) = lsR (M 131) (fun x => x.2.1) (L ++ [(a, u, v)]) := lsR_s (g := fun x => x.2.1) (x := (a, u, v))
    have s2 : vi_u (lsR (M 132) (fun x => x.2.2) L) L.length (v : Int) = lsR (M 132) (fun x => x.2.2) (L ++ [(a, u, v)]) := lsR_s (g := fun x => x.2.2) (x := (a, u, v))
    rw [show lsM M (L ++ [(a, u, v)]) = vi_rs (vi_rs (vi_rs (vi_rs (lsM M L) 130 (lsR (M 130) (fun x => x.1) (L ++ [(a, u, v)]))) 131 (lsR (M 131) (fun x => x.2.1) (L ++ [(a, u, v)]))) 132 (lsR (M 132) (fun x => x.2.2) (L ++ [(a, u, v)]))) 112 (vi_u (M 112) 39 (((L ++ [(a, u, v)]).length : Nat) : Int)) from lsM_w.symm] at hn
    clear hQ uS vS
    simp (disch := omega) only [Option.toList_some, Option.toList_none, List.nil_append, List.cons_append, List.append_nil, true_and, and_true, not_true_eq_false, not_false_eq_true, true_implies, false_implies, implies_true, and_self, Int.reduceLT, Int.reduceLE, Int.reduceEq, Int.reduceNe, Int.reduceAdd, Int.reduceSub, Int.reduceMul, Int.reduceNeg, Int.reduceToNat, Int.toNat_natCast, ↓kk_ck, ↓kk_im, ↓kk_in, s_312_34, s_312_38, s_312_42, s_312_44, s_312_48, s_312_52, s_312_54, s_312_58, s_312_62, s_312_64, s_312_69, s_312_74, R1, R33, R34, R35, p1, p2, p3, p4, p5, p6, vi_rs_o, e0, r0, r1, r2, r3, Int.toNat_natCast, vi_ms_rs, vi_inc, s0, s1, s2, uu]
    exact hn
  have vloop : ∀ (a u : Nat) (L0 : List (Nat × Nat × Nat)), L0.length ≤ 36 * a + 6 * u → a < 3 → u < 6 → (∀ l3, vi_ok GG D 312 14 [some (.inr (.inr 112)), some (.inl (a : Int)), some (.inl ((u + 1 : Nat) : Int)), l3] [] (Y, lsM M (L0 ++ lsV a u (szV (M 114) a)), nn) Q) → ∀ v : Nat, v ≤ szV (M 114) a → vi_ok GG D 312 25 [some (.inr (.inr 112)), some (.inl (a : Int)), some (.inl (u : Int)), some (.inl (v : Int))] [] (Y, lsM M (L0 ++ lsV a u v), nn) Q := by
    intro a u L0 hl ha hu nxt
    obtain ⟨-, v1, v2, -⟩ := sz_r hB (a := a)
    refine vi_dn _ ?_ fun v hv ih => ?_
    · have := nxt (some (.inl ((szV (M 114) a : Nat) : Int)))
      clear nxt hQ put
      rw [s_312_25]
      simp (disch := omega) only [Option.toList_some, Option.toList_none, List.nil_append, List.cons_append, List.append_nil, true_and, and_true, not_true_eq_false, not_false_eq_true, true_implies, false_implies, implies_true, and_self, Int.reduceLT, Int.reduceLE, Int.reduceEq, Int.reduceNe, Int.reduceAdd, Int.reduceSub, Int.reduceMul, Int.reduceNeg, Int.reduceToNat, Int.toNat_natCast, ↓kk_ck, ↓kk_im, ↓kk_in, s_312_31, s_312_80, R1, vS, vi_inc]
      exact this
    · have g := put a u v (L0 ++ lsV a u v) (by rw [List.length_append, lsV_l]; omega) (by rw [List.append_assoc]; exact ih) (by omega)
      clear nxt hQ put ih
      rw [s_312_25]
      simp (disch := omega) only [Option.toList_some, Option.toList_none, List.nil_append, List.cons_append, List.append_nil, true_and, and_true, not_true_eq_false, not_false_eq_true, true_implies, false_implies, implies_true, and_self, Int.reduceLT, Int.reduceLE, Int.reduceEq, Int.reduceNe, Int.reduceAdd, Int.reduceSub, Int.reduceMul, Int.reduceNeg, Int.reduceToNat, Int.toNat_natCast, ↓kk_ck, ↓kk_im, ↓kk_in, s_312_31, R1, vS]
      exact g
  have uloop : ∀ (a : Nat) (L0 : List (Nat × Nat × Nat)), L0.length ≤ 36 * a → a < 3 → (∀ l2 l3, vi_ok GG D 312 7 [some (.inr (.inr 112)), some (.inl ((a + 1 : Nat) : Int)), l2, l3] [] (Y, lsM M (L0 ++ lsU a (szV (M 114) a) (szU (M 114) a)), nn) Q) → ∀ u : Nat, u ≤ szU (M 114) a → ∀ l3, vi_ok GG D 312 14 [some (.inr (.inr 112)), some (.inl (a : Int)), some (.inl (u : Int)), l3] [] (Y, lsM M (L0 ++ lsU a (szV (M 114) a) u), nn) Q := by
    intro a L0 hl ha nxt
    obtain ⟨⟨u1, u2, -⟩, v1, v2, -⟩ := sz_r hB (a := a)
    refine vi_dn (P := fun u => ∀ l3, vi_ok GG D 312 14 [some (.inr (.inr 112)), some (.inl (a : Int)), some (.inl (u : Int)), l3] [] (Y, lsM M (L0 ++ lsU a (szV (M 114) a) u), nn) Q) _ ?_ fun u hu ih => ?_
    · intro l3
      have := nxt (some (.inl ((szU (M 114) a : Nat) : Int))) l3
      clear nxt hQ put vloop
      rw [s_312_14]
      simp (disch := omega) only [Option.toList_some, Option.toList_none, List.nil_append, List.cons_append, List.append_nil, true_and, and_true, not_true_eq_false, not_false_eq_true, true_implies, false_implies, implies_true, and_self, Int.reduceLT, Int.reduceLE, Int.reduceEq, Int.reduceNe, Int.reduceAdd, Int.reduceSub, Int.reduceMul, Int.reduceNeg, Int.reduceToNat, Int.toNat_natCast, ↓kk_ck, ↓kk_im, ↓kk_in, s_312_20, s_312_86, R1, uS, vi_inc]
      exact this
    · intro l3
      have lu := lsU_l (a := a) v2 u
      have g := vloop a u (L0 ++ lsU a (szV (M 114) a) u) (by rw [List.length_append]; omega) ha (by omega) (fun l3 => by rw [List.append_assoc]; exact ih l3) 0 (Nat.zero_le _)
      rw [show lsV a u 0 = [] from rfl, List.append_nil] at g
      clear nxt hQ put ih vloop
      rw [s_312_14]
      simp (disch := omega) only [Option.toList_some, Option.toList_none, List.nil_append, List.cons_append, List.append_nil, true_and, and_true, not_true_eq_false, not_false_eq_true, true_implies, false_implies, implies_true, and_self, Int.reduceLT, Int.reduceLE, Int.reduceEq, Int.reduceNe, Int.reduceAdd, Int.reduceSub, Int.reduceMul, Int.reduceNeg, Int.reduceToNat, Int.toNat_natCast, ↓kk_ck, ↓kk_im, ↓kk_in, s_312_20, s_312_23, R1, uS]
      exact g
  have aloop : ∀ a : Nat, a ≤ 3 → ∀ l2 l3, vi_ok GG D 312 7 [some (.inr (.inr 112)), some (.inl (a : Int)), l2, l3] [] (Y, lsM M (lsA (M 114) a), nn) Q := by
    refine vi_dn (P := fun a => ∀ l2 l3, vi_ok GG D 312 7 [some (.inr (.inr 112)), some (.inl (a : Int)), l2, l3] [] (Y, lsM M (lsA (M 114) a), nn) Q) 3 ?_ fun a ha ih => ?_
    · intro l2 l3
      rw [s_312_7]
      simp (disch := omega) only [Option.toList_some, Option.toList_none, List.nil_append, List.cons_append, List.append_nil, true_and, and_true, not_true_eq_false, not_false_eq_true, true_implies, false_implies, implies_true, and_self, Int.reduceLT, Int.reduceLE, Int.reduceEq, Int.reduceNe, Int.reduceAdd, Int.reduceSub, Int.reduceMul, Int.reduceNeg, Int.reduceToNat, Int.toNat_natCast, ↓kk_ck, ↓kk_im, ↓kk_in, s_312_92]
      exact hQ
    · intro l2 l3
      have g := uloop a (lsA (M 114) a) (lsA_l hB a) ha ih 0 (Nat.zero_le _) l3
      rw [show lsU a (szV (M 114) a) 0 = [] from rfl, List.append_nil] at g
      clear hQ put ih vloop uloop
      rw [s_312_7]
      simp (disch := omega) only [Option.toList_some, Option.toList_none, List.nil_append, List.cons_append, List.append_nil, true_and, and_true, not_true_eq_false, not_false_eq_true, true_implies, false_implies, implies_true, and_self, Int.reduceLT, Int.reduceLE, Int.reduceEq, Int.reduceNe, Int.reduceAdd, Int.reduceSub, Int.reduceMul, Int.reduceNeg, Int.reduceToNat, Int.toNat_natCast, ↓kk_ck, ↓kk_im, ↓kk_in, s_312_12]
      exact g
  have := aloop 0 (by omega) none none
  have em : lsM M [] = vi_rs M 112 (vi_u (M 112) 39 0) := by
    unfold lsM
    rw [show lsR (M 130) (fun x => x.1) [] = M 130 from rfl, show lsR (M 131) (fun x => x.2.1) [] = M 131 from rfl, show lsR (M 132) (fun x => x.2.2) [] = M 132 from rfl, vi_rs_id (M := M) (q := 130) rfl, vi_rs_id (M := M) (q := 131) rfl, vi_rs_id (M := M) (q := 132) rfl]
    rfl
  rw [lsA, em] at this
  clear hQ put vloop uloop aloop
  simp (disch := omega) only [Option.toList_some, Option.toList_none, List.nil_append, List.cons_append, List.append_nil, true_and, and_true, not_true_eq_false, not_false_eq_true, true_implies, false_implies, implies_true, and_self, Int.reduceLT, Int.reduceLE, Int.reduceEq, Int.reduceNe, Int.reduceAdd, Int.reduceSub, Int.reduceMul, Int.reduceNeg, Int.reduceToNat, Int.toNat_natCast, ↓kk_ck, ↓kk_im, ↓kk_in, e_312, s_312_0, s_312_5, R1, vi_ms_rs]
  exact this
end
