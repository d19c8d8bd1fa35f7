/-! anew (reference). -/
/-- the sides of a CELL outside, among the first d -/
def ouF (M : vi_M) (c : Nat) : Nat → Nat
  | 0 => 0
  | d + 1 => if mBe M (c : Int) d = -1 then ouF M c d ||| 2 ^ d else ouF M c d
theorem ouF_lt {M : vi_M} {c : Nat} : ∀ d : Nat, ouF M c d < 2 ^ d
  | 0 => Nat.two_pow_pos 0
  | d + 1 => by
    have := ouF_lt (M := M) (c := c) d
    have h1 : 2 ^ d < 2 ^ (d + 1) := Nat.pow_lt_pow_right (by omega) (by omega)
    rw [ouF]
    split
    · exact Nat.or_lt_two_pow (by omega) h1
    · omega
theorem ouF_c {M M' : vi_M} (h : M' 114 = M 114) {c : Nat} : ∀ d : Nat, ouF M' c d = ouF M c d
  | 0 => rfl
  | d + 1 => by rw [ouF, ouF, ouF_c h d, mBe_c h]
/-- how many CELLS have just these sides outside, of some -/
def suS (M : vi_M) (x k : Nat) (r : Nat) : Int := (sN k (fun c => mIcb (M 114) (c : Int) && decide (ouF M c 6 &&& x = r)) : Int)
theorem suS_r {M : vi_M} {x k r : Nat} : 0 ≤ suS M x k r ∧ suS M x k r ≤ (k : Int) := by
  have := sN_le k (fun c => mIcb (M 114) (c : Int) && decide (ouF M c 6 &&& x = r))
  unfold suS
  omega
theorem suS_n {M : vi_M} {x k r : Nat} (h : mIcb (M 114) (k : Int) = false) : suS M x (k + 1) r = suS M x k r := by
  unfold suS
  rw [sN, h, Bool.false_and]; rfl
theorem suS_a {M : vi_M} {x k r : Nat} (h : mIcb (M 114) (k : Int) = true) : suS M x (k + 1) r = suS M x k r + (if r = ouF M k 6 &&& x then 1 else 0) := by
  unfold suS
  rw [sN, h, Bool.true_and]
  by_cases e : r = ouF M k 6 &&& x
  · rw [if_pos e, decide_eq_true e.symm]; rfl
  · rw [if_neg e, decide_eq_false (fun q => e q.symm)]; rfl
section
variable {D : Nat} {K : Option vi_V → vi_W → Prop} {Y : vi_Y} {M : vi_M} {nn : Nat × Nat} {Q : Option vi_V → vi_W → Prop}
theorem k_332n (hY : kY Y 151) {x : Int} (h : ¬ (0 ≤ x ∧ x ≤ 63)) (hD : 2 ≤ D) : vi_call GG D 332 [.inr (.inr 112), .inl x] (Y, M, nn) K ↔ K (some (.inl (-1))) (Y, M, nn) := by
  obtain ⟨D, rfl⟩ : ∃ k, D = k + 1 := ⟨D - 1, by omega⟩
  refine vi_k (r := some (.inl _)) fun Q hQ => ?_
  simp (disch := omega) only [Option.toList_some, Option.toList_none, List.nil_append, List.cons_append, List.append_nil, true_and, and_true, not_true_eq_false, not_false_eq_true, true_implies, false_implies, implies_true, and_self, Int.reduceLT, Int.reduceLE, Int.reduceEq, Int.reduceNe, Int.reduceAdd, Int.reduceSub, Int.reduceMul, Int.reduceNeg, Int.reduceToNat, Int.toNat_natCast, ↓kk_ck, ↓kk_im, ↓kk_in, e_332, s_332_0, s_332_7, s_332_10, k_234f h, ne_eq]
  exact hQ
theorem h_332o (hY : kY Y 151) (hB : mBx M) {c : Nat} (hc : mIc M (c : Int)) (hD : 2 ≤ D) {x1 : Int}
    (ih : vi_ok GG D 332 122 [some (.inr (.inr 112)), some (.inl x1), some (.inl (c : Int)), some (.inl (ouF M c 6 : Int)), some (.inl 6)] [] (Y, M, nn) Q) :
    ∀ d : Nat, d ≤ 6 → vi_ok GG D 332 87 [some (.inr (.inr 112)), some (.inl x1), some (.inl (c : Int)), some (.inl (ouF M c d : Int)), some (.inl (d : Int))] [] (Y, M, nn) Q := by
  obtain ⟨R1, -⟩ := y_112 hY (by omega)
  refine vi_dn 6 ?_ fun d hd ihd => ?_
  · rw [s_332_87]
    simp (disch := omega) only [Option.toList_some, Option.toList_none, List.nil_append, List.cons_append, List.append_nil, true_and, and_true, not_true_eq_false, not_false_eq_true, true_implies, false_implies, implies_true, and_self, Int.reduceLT, Int.reduceLE, Int.reduceEq, Int.reduceNe, Int.reduceAdd, Int.reduceSub, Int.reduceMul, Int.reduceNeg, Int.reduceToNat, Int.toNat_natCast, ↓kk_ck, ↓kk_im, ↓kk_in]
    exact ih
  · clear ih
    have k248 := fun {K : Option vi_V → vi_W → Prop} => @k_248 D K Y M nn hY hB (c : Int) d hc hd hD
    have hl := ouF_lt (M := M) (c := c) d
    have h6 : 2 ^ d ≤ 2 ^ 5 := Nat.pow_le_pow_right (by omega) (by omega)
    rw [ouF] at ihd
    rw [s_332_87]
    by_cases q : mBe M (c : Int) d = -1
    · rw [if_pos q] at ihd
      simp (disch := omega) only [Option.toList_some, Option.toList_none, List.nil_append, List.cons_append, List.append_nil, true_and, and_true, not_true_eq_false, not_false_eq_true, true_implies, false_implies, implies_true, and_self, Int.reduceLT, Int.reduceLE, Int.reduceEq, Int.reduceNe, Int.reduceAdd, Int.reduceSub, Int.reduceMul, Int.reduceNeg, Int.reduceToNat, Int.toNat_natCast, ↓kk_ck, ↓kk_im, ↓kk_in, s_332_94, s_332_102, s_332_106, s_332_114, R1, k248, q, sh_14 (show d ≤ 14 by omega), @or_u (ouF M c d) d _ (by omega) (by omega) rfl, vi_inc, ne_eq]
      exact ihd
    · rw [if_neg q] at ihd
      simp (disch := omega) only [Option.toList_some, Option.toList_none, List.nil_append, List.cons_append, List.append_nil, true_and, and_true, not_true_eq_false, not_false_eq_true, true_implies, false_implies, implies_true, and_self, Int.reduceLT, Int.reduceLE, Int.reduceEq, Int.reduceNe, Int.reduceAdd, Int.reduceSub, Int.reduceMul, Int.reduceNeg, Int.reduceToNat, Int.toNat_natCast, ↓kk_ck, ↓kk_im, ↓kk_in, s_332_94, s_332_102, s_332_113, s_332_114, R1, k248, q, @or_0 (ouF M c d) (by omega), vi_inc, ne_eq]
      exact ihd
theorem k_332 (hY : kY Y 151) (hB : mBx M) (hfit : ∀ r o, r < 64 → o < 64 → M 139 (64 * r + o) = vi_b (ftB r o 24)) {x : Nat} (hx : x < 64) (hD : 4 ≤ D)
    (hQ : ∀ (M' : vi_M) (n : Int), (∀ q, ¬ (140 ≤ q ∧ q ≤ 144) → M' q = M q) → anR2 (suS M x 216) (suS M 63 216) n → Q (some (.inl n)) (Y, M', nn)) : vi_call GG D 332 [.inr (.inr 112), .inl (x : Int)] (Y, M, nn) Q := by
  obtain ⟨D, rfl⟩ : ∃ k, D = k + 1 := ⟨D - 1, by omega⟩
  obtain ⟨R1, -, -, -, -, -, -, -, -, -, -, -, -, -, -, -, -, -, -, -, -, -, -, -, -, -, -, -, R51, R52, R53, -⟩ := y_112 hY (by omega)
  obtain ⟨p1, p2⟩ := y_140 hY (by omega)
  obtain ⟨p3, p4⟩ := y_141 hY (by omega)
  obtain ⟨p5, p6⟩ := y_142 hY (by omega)
  have hS : ∀ r, r < 64 → suS M x 216 r ≤ 1000 := fun r _ => by have := (suS_r (M := M) (x := x) (k := 216) (r := r)).2; omega
  have hDd : ∀ r, r < 64 → suS M 63 216 r ≤ 1000 := fun r _ => by have := (suS_r (M := M) (x := 63) (k := 216) (r := r)).2; omega
  have hsum : sU 64 (suS M x 216) ≤ 64000 := sU_le (g := fun _ => 1000) 64 hS
  have whiles : ∀ (k : Nat) (M2 : vi_M) (n : Int) (l3 l4 : Option vi_V), (∀ q, ¬ (140 ≤ q ∧ q ≤ 144) → M2 q = M q) → FX (suS M x 216) (suS M 63 216) 128 (M2 140) (M2 141) (M2 142) → tot (M2 142) = n → sU 64 (M2 140) = (k : Int) → 0 ≤ n → vi_ok GG D 332 152 [some (.inr (.inr 112)), some (.inl (x : Int)), some (.inl n), l3, l4] [] (Y, M2, nn) Q := by
    intro k
    induction k with
    | zero =>
      intro M2 n l3 l4 o hF hn hk hn0
      have cont : vi_call GG D 333 [.inr (.inr 112)] (Y, M2, nn) (fun r w' => vi_ok GG D 332 156 [some (.inr (.inr 112)), some (.inl (x : Int)), some (.inl n), l3, l4] r.toList w' Q) := by
        refine k_333 hY hS hDd hF (by rw [o 139 (by omega)]; exact hfit) (by omega) (fun M3 o3 hR => ?_) (fun M3 o3 hF3 hs3 => ?_)
        · rw [hn] at hR
          have := hQ M3 n (fun q hq => by rw [o3 q (by omega) (by omega)]; exact o q hq) ⟨hR, fun R => by rw [← hn]; exact FX_le hF R⟩
          clear hQ hF hR hfit
          simp (disch := omega) only [Option.toList_some, Option.toList_none, List.nil_append, List.cons_append, List.append_nil, true_and, and_true, not_true_eq_false, not_false_eq_true, true_implies, false_implies, implies_true, and_self, Int.reduceLT, Int.reduceLE, Int.reduceEq, Int.reduceNe, Int.reduceAdd, Int.reduceSub, Int.reduceMul, Int.reduceNeg, Int.reduceToNat, Int.toNat_natCast, ↓kk_ck, ↓kk_im, ↓kk_in, Option.toList, s_332_156, s_332_165]
          exact this
        · have := sU_0 (f := M3 140) 64 hF3.1
          omega
      clear hQ hF hfit
      rw [s_332_152]
      simp (disch := omega) only [Option.toList_some, Option.toList_none, List.nil_append, List.cons_append, List.append_nil, true_and, and_true, not_true_eq_false, not_false_eq_true, true_implies, false_implies, implies_true, and_self, Int.reduceLT, Int.reduceLE, Int.reduceEq, Int.reduceNe, Int.reduceAdd, Int.reduceSub, Int.reduceMul, Int.reduceNeg, Int.reduceToNat, Int.toNat_natCast, ↓kk_ck, ↓kk_im, ↓kk_in, R1]
      exact cont
    | succ k ih =>
      intro M2 n l3 l4 o hF hn hk hn0
      have cont : vi_call GG D 333 [.inr (.inr 112)] (Y, M2, nn) (fun r w' => vi_ok GG D 332 156 [some (.inr (.inr 112)), some (.inl (x : Int)), some (.inl n), l3, l4] r.toList w' Q) := by
        refine k_333 hY hS hDd hF (by rw [o 139 (by omega)]; exact hfit) (by omega) (fun M3 o3 hR => ?_) (fun M3 o3 hF3 hs3 => ?_)
        · rw [hn] at hR
          have := hQ M3 n (fun q hq => by rw [o3 q (by omega) (by omega)]; exact o q hq) ⟨hR, fun R => by rw [← hn]; exact FX_le hF R⟩
          clear hQ hF hR hfit ih
          simp (disch := omega) only [Option.toList_some, Option.toList_none, List.nil_append, List.cons_append, List.append_nil, true_and, and_true, not_true_eq_false, not_false_eq_true, true_implies, false_implies, implies_true, and_self, Int.reduceLT, Int.reduceLE, Int.reduceEq, Int.reduceNe, Int.reduceAdd, Int.reduceSub, Int.reduceMul, Int.reduceNeg, Int.reduceToNat, Int.toNat_natCast, ↓kk_ck, ↓kk_im, ↓kk_in, Option.toList, s_332_156, s_332_165]
          exact this
        · have t1 := FX_t hF
          have t2 := FX_t hF3
          have := ih M3 (n + 1) l3 l4 (fun q hq => by rw [o3 q hq]; exact o q hq) hF3 (by omega) (by omega) (by omega)
          have hb : n ≤ 64000 := by omega
          clear hQ hF hF3 hfit ih t1 t2
          simp (disch := omega) only [Option.toList_some, Option.toList_none, List.nil_append, List.cons_append, List.append_nil, true_and, and_true, not_true_eq_false, not_false_eq_true, true_implies, false_implies, implies_true, and_self, Int.reduceLT, Int.reduceLE, Int.reduceEq, Int.reduceNe, Int.reduceAdd, Int.reduceSub, Int.reduceMul, Int.reduceNeg, Int.reduceToNat, Int.toNat_natCast, ↓kk_ck, ↓kk_im, ↓kk_in, Option.toList, s_332_156, s_332_159, @vi_32 (n + 1) (by omega) (by omega)]
          exact this
      clear hQ hF hfit ih
      rw [s_332_152]
      simp (disch := omega) only [Option.toList_some, Option.toList_none, List.nil_append, List.cons_append, List.append_nil, true_and, and_true, not_true_eq_false, not_false_eq_true, true_implies, false_implies, implies_true, and_self, Int.reduceLT, Int.reduceLE, Int.reduceEq, Int.reduceNe, Int.reduceAdd, Int.reduceSub, Int.reduceMul, Int.reduceNeg, Int.reduceToNat, Int.toNat_natCast, ↓kk_ck, ↓kk_im, ↓kk_in, R1]
      exact cont
  clear hQ
  have cells : ∀ c : Nat, c ≤ 216 → ∀ (M2 : vi_M) (l3 l4 : Option vi_V), (∀ q, ¬ (140 ≤ q ∧ q ≤ 144) → M2 q = M q) → (∀ r, r < 64 → M2 140 r = suS M x c r) → (∀ r, r < 64 → M2 141 r = suS M 63 c r) → (∀ i, i < 4096 → M2 142 i = 0) → vi_ok GG D 332 64 [some (.inr (.inr 112)), some (.inl (x : Int)), some (.inl (c : Int)), l3, l4] [] (Y, M2, nn) Q := by
    refine vi_dn (P := fun c => ∀ (M2 : vi_M) (l3 l4 : Option vi_V), (∀ q, ¬ (140 ≤ q ∧ q ≤ 144) → M2 q = M q) → (∀ r, r < 64 → M2 140 r = suS M x c r) → (∀ r, r < 64 → M2 141 r = suS M 63 c r) → (∀ i, i < 4096 → M2 142 i = 0) → vi_ok GG D 332 64 [some (.inr (.inr 112)), some (.inl (x : Int)), some (.inl (c : Int)), l3, l4] [] (Y, M2, nn) Q) 216 ?_ fun c hc ih => ?_
    · intro M2 l3 l4 o h140 h141 h142
      have hF : FX (suS M x 216) (suS M 63 216) 128 (M2 140) (M2 141) (M2 142) := by
        refine ⟨fun r hr => by rw [h140 r hr]; exact suS_r.1, fun p hp => by rw [h141 p hp]; exact suS_r.1, fun r p hr hp => by rw [h142 _ (by omega)]; exact ⟨by omega, fun k => by omega⟩, fun r hr => ?_, fun p hp => ?_⟩
        · rw [h140 r hr, sU_z 64 fun p hp => h142 _ (by omega), if_neg (by omega)]
        · rw [h141 p hp, sU_z 64 fun r hr => h142 _ (by omega), if_neg (by omega)]; omega
      have ht : tot (M2 142) = 0 := sU_z 64 fun r hr => sU_z 64 fun p hp => h142 _ (by omega)
      have h0 := sU_0 (f := M2 140) 64 hF.1
      have := whiles (sU 64 (M2 140)).toNat M2 0 l3 l4 o hF ht (by omega) (by omega)
      clear whiles hF hfit h140 h141 h142
      rw [s_332_64]
      simp (disch := omega) only [Option.toList_some, Option.toList_none, List.nil_append, List.cons_append, List.append_nil, true_and, and_true, not_true_eq_false, not_false_eq_true, true_implies, false_implies, implies_true, and_self, Int.reduceLT, Int.reduceLE, Int.reduceEq, Int.reduceNe, Int.reduceAdd, Int.reduceSub, Int.reduceMul, Int.reduceNeg, Int.reduceToNat, Int.toNat_natCast, ↓kk_ck, ↓kk_im, ↓kk_in, s_332_150]
      exact this
    · intro M2 l3 l4 o h140 h141 h142
      clear whiles
      have e114 : M2 114 = M 114 := o 114 (by omega)
      rw [s_332_64]
      by_cases q : mIc M (c : Int)
      · have qb : mIcb (M 114) (c : Int) = true := by unfold mIcb; exact decide_eq_true q
        have hou := ouF_lt (M := M) (c := c) 6
        have hand : ouF M c 6 &&& x ≤ x := Nat.and_le_right
        have h63 : ouF M c 6 &&& 63 = ouF M c 6 := by
          rw [show 63 = 2 ^ 6 - 1 from rfl, Nat.and_two_pow_sub_one_eq_mod, Nat.mod_eq_of_lt hou]
        have r1 := suS_r (M := M) (x := x) (k := c) (r := ouF M c 6 &&& x)
        have r2 := suS_r (M := M) (x := 63) (k := c) (r := ouF M c 6)
        have a1 := h140 (ouF M c 6 &&& x) (by omega)
        have a2 := h141 (ouF M c 6) (by omega)
        have i141 : ∀ f : Nat → Int, vi_rs M2 140 f 141 = M2 141 := fun f => vi_rs_o (by omega)
        have nx := ih (vi_rs (vi_rs M2 140 (vi_u (M2 140) (ouF M c 6 &&& x) (suS M x c (ouF M c 6 &&& x) + 1))) 141 (vi_u (M2 141) (ouF M c 6) (suS M 63 c (ouF M c 6) + 1))) (some (.inl (ouF M c 6 : Int))) (some (.inl 6)) (fun q hq => by rw [vi_rs_o (by omega), vi_rs_o (by omega)]; exact o q hq) (fun r hr => by
          rw [vi_rs_o (by omega), vi_rs_s, suS_a qb]
          by_cases e : r = ouF M c 6 &&& x
          · rw [if_pos e, e, vi_u_s]
          · rw [if_neg e, vi_u_o e, h140 r hr]; omega) (fun r hr => by
          rw [vi_rs_s, suS_a qb, h63]
          by_cases e : r = ouF M c 6
          · rw [if_pos e, e, vi_u_s]
          · rw [if_neg e, vi_u_o e, h141 r hr]; omega) (fun i hi => by rw [vi_rs_o (by omega), vi_rs_o (by omega)]; exact h142 i hi)
        have go := h_332o (Q := Q) (D := D) (nn := nn) (M := M2) (x1 := (x : Int)) hY (mBx_c e114 hB) (mIc_c e114 q) (by omega) (by
          rw [ouF_c e114]
          clear ih hfit h140 h141 h142
          simp (disch := omega) only [Option.toList_some, Option.toList_none, List.nil_append, List.cons_append, List.append_nil, true_and, and_true, not_true_eq_false, not_false_eq_true, true_implies, false_implies, implies_true, and_self, Int.reduceLT, Int.reduceLE, Int.reduceEq, Int.reduceNe, Int.reduceAdd, Int.reduceSub, Int.reduceMul, Int.reduceNeg, Int.reduceToNat, Int.toNat_natCast, ↓kk_ck, ↓kk_im, ↓kk_in, s_332_122, s_332_126, s_332_130, s_332_131, s_332_134, s_332_138, s_332_141, s_332_144, R1, R51, R52, p1, p2, p3, p4, @vi_and32n (ouF M c 6) x (by omega), Int.toNat_natCast, a1, a2, i141, @vi_32 (suS M x c (ouF M c 6 &&& x) + 1) (by omega) (by omega), @vi_32 (suS M 63 c (ouF M c 6) + 1) (by omega) (by omega), vi_ms_rs, vi_inc]
          exact nx) 0 (by omega)
        rw [show ouF M2 c 0 = 0 from rfl, show ((0 : Nat) : Int) = 0 from rfl] at go
        clear ih nx hfit h140 h141 h142
        simp (disch := omega) only [Option.toList_some, Option.toList_none, List.nil_append, List.cons_append, List.append_nil, true_and, and_true, not_true_eq_false, not_false_eq_true, true_implies, false_implies, implies_true, and_self, Int.reduceLT, Int.reduceLE, Int.reduceEq, Int.reduceNe, Int.reduceAdd, Int.reduceSub, Int.reduceMul, Int.reduceNeg, Int.reduceToNat, Int.toNat_natCast, ↓kk_ck, ↓kk_im, ↓kk_in, s_332_71, s_332_76, s_332_82, R1, k_246t hY (mIc_c e114 q), ne_eq]
        exact go
      · have qb : mIcb (M 114) (c : Int) = false := by unfold mIcb; exact decide_eq_false q
        have q' : ¬ mIc M2 (c : Int) := fun h => q (mIc_c e114.symm h)
        have := ih M2 l3 l4 o (fun r hr => by rw [suS_n qb]; exact h140 r hr) (fun r hr => by rw [suS_n qb]; exact h141 r hr) h142
        clear ih hfit h140 h141 h142
        simp (disch := omega) only [Option.toList_some, Option.toList_none, List.nil_append, List.cons_append, List.append_nil, true_and, and_true, not_true_eq_false, not_false_eq_true, true_implies, false_implies, implies_true, and_self, Int.reduceLT, Int.reduceLE, Int.reduceEq, Int.reduceNe, Int.reduceAdd, Int.reduceSub, Int.reduceMul, Int.reduceNeg, Int.reduceToNat, Int.toNat_natCast, ↓kk_ck, ↓kk_im, ↓kk_in, s_332_71, s_332_76, s_332_79, s_332_144, R1, k_246f hY q', vi_inc, ne_eq]
        exact this
  clear whiles
  have flows : ∀ i : Nat, i ≤ 4096 → ∀ M2 : vi_M, (∀ q, ¬ (140 ≤ q ∧ q ≤ 144) → M2 q = M q) → (∀ r, r < 64 → M2 140 r = 0) → (∀ r, r < 64 → M2 141 r = 0) → (∀ j, j < i → M2 142 j = 0) → vi_ok GG D 332 42 [some (.inr (.inr 112)), some (.inl (x : Int)), some (.inl (i : Int)), none, none] [] (Y, M2, nn) Q := by
    refine vi_dn (P := fun i => ∀ M2 : vi_M, (∀ q, ¬ (140 ≤ q ∧ q ≤ 144) → M2 q = M q) → (∀ r, r < 64 → M2 140 r = 0) → (∀ r, r < 64 → M2 141 r = 0) → (∀ j, j < i → M2 142 j = 0) → vi_ok GG D 332 42 [some (.inr (.inr 112)), some (.inl (x : Int)), some (.inl (i : Int)), none, none] [] (Y, M2, nn) Q) 4096 ?_ fun i hi ih => ?_
    · intro M2 o h140 h141 h142
      have := cells 0 (by omega) M2 none none o (fun r hr => by rw [h140 r hr]; rfl) (fun r hr => by rw [h141 r hr]; rfl) h142
      rw [show ((0 : Nat) : Int) = 0 from rfl] at this
      clear cells hfit h140 h141 h142
      rw [s_332_42]
      simp (disch := omega) only [Option.toList_some, Option.toList_none, List.nil_append, List.cons_append, List.append_nil, true_and, and_true, not_true_eq_false, not_false_eq_true, true_implies, false_implies, implies_true, and_self, Int.reduceLT, Int.reduceLE, Int.reduceEq, Int.reduceNe, Int.reduceAdd, Int.reduceSub, Int.reduceMul, Int.reduceNeg, Int.reduceToNat, Int.toNat_natCast, ↓kk_ck, ↓kk_im, ↓kk_in, s_332_62]
      exact this
    · intro M2 o h140 h141 h142
      clear cells
      have := ih (vi_rs M2 142 (vi_u (M2 142) i 0)) (fun q hq => by rw [vi_rs_o (by omega)]; exact o q hq) (fun r hr => by rw [vi_rs_o (by omega)]; exact h140 r hr) (fun r hr => by rw [vi_rs_o (by omega)]; exact h141 r hr) (fun j hj => by
        rw [vi_rs_s]
        by_cases e : j = i
        · rw [e, vi_u_s]
        · rw [vi_u_o e]; exact h142 j (by omega))
      clear ih hfit h140 h141 h142
      rw [s_332_42]
      simp (disch := omega) only [Option.toList_some, Option.toList_none, List.nil_append, List.cons_append, List.append_nil, true_and, and_true, not_true_eq_false, not_false_eq_true, true_implies, false_implies, implies_true, and_self, Int.reduceLT, Int.reduceLE, Int.reduceEq, Int.reduceNe, Int.reduceAdd, Int.reduceSub, Int.reduceMul, Int.reduceNeg, Int.reduceToNat, Int.toNat_natCast, ↓kk_ck, ↓kk_im, ↓kk_in, s_332_49, s_332_53, s_332_56, R1, R53, p5, p6, Int.toNat_natCast, vi_ms_rs, vi_inc]
      exact this
  clear cells
  have zeros : ∀ k : Nat, k ≤ 64 → ∀ M2 : vi_M, (∀ q, ¬ (140 ≤ q ∧ q ≤ 144) → M2 q = M q) → (∀ r, r < k → M2 140 r = 0) → (∀ r, r < k → M2 141 r = 0) → vi_ok GG D 332 14 [some (.inr (.inr 112)), some (.inl (x : Int)), some (.inl (k : Int)), none, none] [] (Y, M2, nn) Q := by
    refine vi_dn (P := fun k => ∀ M2 : vi_M, (∀ q, ¬ (140 ≤ q ∧ q ≤ 144) → M2 q = M q) → (∀ r, r < k → M2 140 r = 0) → (∀ r, r < k → M2 141 r = 0) → vi_ok GG D 332 14 [some (.inr (.inr 112)), some (.inl (x : Int)), some (.inl (k : Int)), none, none] [] (Y, M2, nn) Q) 64 ?_ fun k hk ih => ?_
    · intro M2 o h140 h141
      have := flows 0 (by omega) M2 o h140 h141 (fun j hj => by omega)
      rw [show ((0 : Nat) : Int) = 0 from rfl] at this
      clear flows hfit h140 h141
      rw [s_332_14]
      simp (disch := omega) only [Option.toList_some, Option.toList_none, List.nil_append, List.cons_append, List.append_nil, true_and, and_true, not_true_eq_false, not_false_eq_true, true_implies, false_implies, implies_true, and_self, Int.reduceLT, Int.reduceLE, Int.reduceEq, Int.reduceNe, Int.reduceAdd, Int.reduceSub, Int.reduceMul, Int.reduceNeg, Int.reduceToNat, Int.toNat_natCast, ↓kk_ck, ↓kk_im, ↓kk_in, s_332_40]
      exact this
    · intro M2 o h140 h141
      clear flows
      have i141 : ∀ f : Nat → Int, vi_rs M2 140 f 141 = M2 141 := fun f => vi_rs_o (by omega)
      have := ih (vi_rs (vi_rs M2 140 (vi_u (M2 140) k 0)) 141 (vi_u (M2 141) k 0)) (fun q hq => by rw [vi_rs_o (by omega), vi_rs_o (by omega)]; exact o q hq) (fun r hr => by
        rw [vi_rs_o (by omega), vi_rs_s]
        by_cases e : r = k
        · rw [e, vi_u_s]
        · rw [vi_u_o e]; exact h140 r (by omega)) (fun r hr => by
        rw [vi_rs_s]
        by_cases e : r = k
        · rw [e, vi_u_s]
        · rw [vi_u_o e]; exact h141 r (by omega))
      clear ih hfit h140 h141
      rw [s_332_14]
      simp (disch := omega) only [Option.toList_some, Option.toList_none, List.nil_append, List.cons_append, List.append_nil, true_and, and_true, not_true_eq_false, not_false_eq_true, true_implies, false_implies, implies_true, and_self, Int.reduceLT, Int.reduceLE, Int.reduceEq, Int.reduceNe, Int.reduceAdd, Int.reduceSub, Int.reduceMul, Int.reduceNeg, Int.reduceToNat, Int.toNat_natCast, ↓kk_ck, ↓kk_im, ↓kk_in, s_332_20, s_332_24, s_332_27, s_332_31, s_332_34, R1, R51, R52, p1, p2, p3, p4, Int.toNat_natCast, vi_ms_rs, i141, vi_inc]
      exact this
  have := zeros 0 (by omega) M (fun _ _ => rfl) (fun r hr => by omega) (fun r hr => by omega)
  rw [show ((0 : Nat) : Int) = 0 from rfl] at this
  have hx' : 0 ≤ (x : Int) ∧ (x : Int) ≤ 63 := by omega
  clear zeros flows hfit
  simp (disch := omega) only [Option.toList_some, Option.toList_none, List.nil_append, List.cons_append, List.append_nil, true_and, and_true, not_true_eq_false, not_false_eq_true, true_implies, false_implies, implies_true, and_self, Int.reduceLT, Int.reduceLE, Int.reduceEq, Int.reduceNe, Int.reduceAdd, Int.reduceSub, Int.reduceMul, Int.reduceNeg, Int.reduceToNat, Int.toNat_natCast, ↓kk_ck, ↓kk_im, ↓kk_in, e_332, s_332_0, s_332_7, s_332_12, k_234t hx', ne_eq]
  exact this
end
