/-! Contracts of Vast, fifth part: ANEW. -/
/-- how many of the first k cells of the box have sides (among s) of kind j -/
def fCk (x y z : Int) (s : Nat) (j : Nat) (k : Nat) : Nat := sN k (fun c => gCl x y z (c : Int) && decide (fKd ((gSd x y z (c : Int)).toNat &&& s) = (j : Int)))
section
variable {d : Nat} {K : Option vi_V → vi_W → Prop} {Y : vi_Y} {M : vi_M} {n : Nat × Nat}
theorem fCk_u {x y z : Int} {s k : Nat} {g : Nat → Int} (h : gCl x y z (k : Int) = true) {j : Nat} (hj : fKd ((gSd x y z (k : Int)).toNat &&& s) = (j : Int)) (hj10 : j < 10) : vi_u (vi_m 10 (fun j => (fCk x y z s j k : Int)) g) j ((fCk x y z s j k : Int) + 1) = vi_m 10 (fun j => (fCk x y z s j (k + 1) : Int)) g := by
  funext i
  unfold vi_u vi_m
  by_cases hi : i = j
  · subst hi
    rw [if_pos rfl, if_pos hj10]
    unfold fCk
    dsimp only
    rw [sN_s, h, Bool.true_and, decide_eq_true hj, Bool.toNat_true]
    omega
  · rw [if_neg hi]
    by_cases h10 : i < 10
    · rw [if_pos h10, if_pos h10]
      unfold fCk
      dsimp only
      rw [sN_s, h, Bool.true_and, decide_eq_false (by omega), Bool.toNat_false, Nat.add_zero]
    · rw [if_neg h10, if_neg h10]
theorem fCk_n {x y z : Int} {s k j : Nat} (h : gCl x y z (k : Int) = false) : fCk x y z s j (k + 1) = fCk x y z s j k := by
  unfold fCk
  rw [sN_s, h, Bool.false_and, Bool.toNat_false, Nat.add_zero]
theorem k_169 (hY : kY Y 151) (hb : gB (M 30 8) (M 30 9) (M 30 10)) {s : Nat} (hs : s < 64) : vi_call GG (d + 4) 169 [.inr (.inr 103), .inl (s : Int)] (Y, M, n) K ↔ K none (Y, vi_rs (vi_rs M 104 (vi_m 10 (fun j => (fCk (M 30 8) (M 30 9) (M 30 10) s j 216 : Int)) (M 104))) 105 (vi_m 10 (fun j => (fCk (M 30 8) (M 30 9) (M 30 10) 63 j 216 : Int)) (M 105)), n) := by
  obtain ⟨a1, a2, a3, a4, a5⟩ := y_103 hY (by omega)
  obtain ⟨b1, b2, b3, b4, b5, b6, b7⟩ := y_30 hY (by omega)
  obtain ⟨g1, g1'⟩ := y_104 hY (by omega)
  obtain ⟨g2, g2'⟩ := y_105 hY (by omega)
  refine vi_k (r := none) fun Q hQ => ?_
  have m30 : ∀ f g, vi_rs (vi_rs M 104 f) 105 g 30 = M 30 := fun f g => by simp (disch := omega) only [vi_rs_s, vi_rs_o]
  have k55 := fun {K : Option vi_V → vi_W → Prop} {f g : Nat → Int} {c : Int} (hc : 0 ≤ c ∧ c < 216) => @k_55 (d + 1) 30 K Y (vi_rs (vi_rs M 104 f) 105 g) n b1 (by rw [m30]; exact hb) c hc
  simp only [m30, Nat.add_assoc, Nat.reduceAdd] at k55
  generalize ex : M 30 8 = x at *
  generalize ey : M 30 9 = y at *
  generalize ez : M 30 10 = z at *
  have w1 : ∀ f g f', vi_rs (vi_rs (vi_rs M 104 f) 105 g) 104 f' = vi_rs (vi_rs M 104 f') 105 g := fun f g f' => by
    rw [vi_rs_cm (p := 105) (q := 104) (by omega), vi_rs_rs]
  have w2 : ∀ f g, vi_rs (vi_rs M 104 f) 105 g 104 = f := fun f g => by simp (disch := omega) only [vi_rs_s, vi_rs_o]
  have loop2 : ∀ c : Nat, c ≤ 216 → ∀ l3, vi_ok GG (d + 3) 169 42 [some (.inr (.inr 103)), some (.inl (s : Int)), some (.inl (c : Int)), l3] [] (Y, vi_rs (vi_rs M 104 (vi_m 10 (fun j => (fCk x y z s j c : Int)) (M 104))) 105 (vi_m 10 (fun j => (fCk x y z 63 j c : Int)) (M 105)), n) Q := by
    refine vi_dn 216 ?_ fun c hc ih => ?_
    · intro l3
      clear k55
      rw [s_169_42]
      simp (disch := omega) only [Option.toList_some, Option.toList_none, List.nil_append, List.cons_append, List.append_nil, true_and, and_true, not_true_eq_false, not_false_eq_true, true_implies, false_implies, implies_true, and_self, Int.reduceLT, Int.reduceLE, Int.reduceEq, Int.reduceNe, Int.reduceAdd, Int.reduceSub, Int.reduceMul, Int.reduceNeg, Int.reduceToNat, Int.toNat_natCast, ↓kk_ck, ↓kk_im, ↓kk_in, s_169_0, s_169_11, s_169_20, s_169_40, s_169_49, s_169_60, s_169_93, s_169_99, s_169_7, s_169_16, s_169_24, s_169_53, s_169_64, s_169_8, s_169_17, s_169_27, s_169_57, s_169_68, s_169_31, s_169_73, s_169_34, s_169_79, s_169_82, s_169_86, s_169_90]
      exact hQ
    · intro l3
      clear hQ
      have k55c := fun {K : Option vi_V → vi_W → Prop} {f g : Nat → Int} => @k55 K f g (c : Int) (by omega)
      clear k55
      cases hcl : gCl x y z (c : Int)
      · have ih := ih l3
        simp only [fCk_n hcl] at ih
        rw [s_169_42]
        simp (disch := omega) only [Option.toList_some, Option.toList_none, List.nil_append, List.cons_append, List.append_nil, true_and, and_true, not_true_eq_false, not_false_eq_true, true_implies, false_implies, implies_true, and_self, Int.reduceLT, Int.reduceLE, Int.reduceEq, Int.reduceNe, Int.reduceAdd, Int.reduceSub, Int.reduceMul, Int.reduceNeg, Int.reduceToNat, Int.toNat_natCast, ↓kk_ck, ↓kk_im, ↓kk_in, s_169_0, s_169_11, s_169_20, s_169_40, s_169_49, s_169_60, s_169_93, s_169_99, s_169_7, s_169_16, s_169_24, s_169_53, s_169_64, s_169_8, s_169_17, s_169_27, s_169_57, s_169_68, s_169_31, s_169_73, s_169_34, s_169_79, s_169_82, s_169_86, s_169_90, a1, a2, b1, k_51 b1, m30, ex, ey, ez, hcl, vi_bf, vi_inc]
        exact ih
      · have hg := gSd_r (x := x) (y := y) (z := z) (c := (c : Int))
        have ih := ih (some (.inl (gSd x y z (c : Int))))
        have U1 := fun {j : Nat} (hj : fKd ((gSd x y z (c : Int)).toNat &&& s) = (j : Int)) (h10 : j < 10) => fCk_u (g := M 104) hcl hj h10
        have U2 := fun {j : Nat} (hj : fKd ((gSd x y z (c : Int)).toNat &&& 63) = (j : Int)) (h10 : j < 10) => fCk_u (g := M 105) hcl hj h10
        have hle : ∀ s j, fCk x y z s j c ≤ c := fun s j => sN_le _ _
        obtain ⟨e, he⟩ : ∃ e : Nat, gSd x y z (c : Int) = e := ⟨(gSd x y z (c : Int)).toNat, by omega⟩
        rw [he, Int.toNat_natCast] at U1 U2
        rw [he] at k55c ih
        have he64 : e < 64 := by omega
        have n1 : vi_call GG (d + 3) = vi_call GG (d + 3) := rfl
        have h63 : e &&& 63 = e := by
          have := Nat.and_two_pow_sub_one_eq_mod e 6
          rw [show (2 : Nat) ^ 6 - 1 = 63 from rfl] at this
          rw [this]; omega
        rw [h63] at U2
        have hes : e &&& s < 64 := Nat.lt_of_le_of_lt Nat.and_le_left he64
        obtain ⟨j1, hj1⟩ : ∃ j1 : Nat, fKd (e &&& s) = j1 := ⟨(fKd (e &&& s)).toNat, by have := fKd_r (e &&& s); omega⟩
        obtain ⟨j2, hj2⟩ : ∃ j2 : Nat, fKd e = j2 := ⟨(fKd e).toNat, by have := fKd_r e; omega⟩
        have j1l : j1 < 10 := by have := fKd_r (e &&& s); omega
        have j2l : j2 < 10 := by have := fKd_r e; omega
        have U1 := U1 hj1 j1l
        have U2 := U2 hj2 j2l
        have K1 := fun {K : Option vi_V → vi_W → Prop} {w : vi_W} => @k_172 (d + 1) K (e &&& s) hes w
        have K2 := fun {K : Option vi_V → vi_W → Prop} {w : vi_W} => @k_172 (d + 1) K e he64 w
        rw [hj1] at K1
        rw [hj2] at K2
        have hb1 := hle s j1
        have hb2 := hle 63 j2
        have A1 := fun {K : Option vi_V → vi_W → Prop} {g : Nat → Int} => @k_171 (d + 2) K Y (vi_rs (vi_rs M 104 (vi_m 10 (fun j => (fCk x y z s j c : Int)) (M 104))) 105 g) n 104 10 g1 g1' j1 j1l (by rw [w2, vi_m_lt j1l]; omega)
        have A2 := fun {K : Option vi_V → vi_W → Prop} {f : Nat → Int} => @k_171 (d + 2) K Y (vi_rs (vi_rs M 104 f) 105 (vi_m 10 (fun j => (fCk x y z 63 j c : Int)) (M 105))) n 105 10 g2 g2' j2 j2l (by rw [vi_rs_s, vi_m_lt j2l]; omega)
        simp only [w2, vi_m_lt j1l, U1, w1, Nat.add_assoc, Nat.reduceAdd] at A1
        simp only [vi_rs_s, vi_m_lt j2l, U2, vi_rs_rs, Nat.add_assoc, Nat.reduceAdd] at A2
        simp only [Nat.add_assoc, Nat.reduceAdd] at K1 K2
        have AN := vi_and32n (x := e) (y := s) (by omega)
        rw [← AN] at K1
        clear AN hle U1 U2 hb1 hb2 h63 hj1 hj2 hg he hes n1
        rw [s_169_42]
        simp (disch := omega) only [Option.toList_some, Option.toList_none, List.nil_append, List.cons_append, List.append_nil, true_and, and_true, not_true_eq_false, not_false_eq_true, true_implies, false_implies, implies_true, and_self, Int.reduceLT, Int.reduceLE, Int.reduceEq, Int.reduceNe, Int.reduceAdd, Int.reduceSub, Int.reduceMul, Int.reduceNeg, Int.reduceToNat, Int.toNat_natCast, ↓kk_ck, ↓kk_im, ↓kk_in, s_169_0, s_169_11, s_169_20, s_169_40, s_169_49, s_169_60, s_169_93, s_169_99, s_169_7, s_169_16, s_169_24, s_169_53, s_169_64, s_169_8, s_169_17, s_169_27, s_169_57, s_169_68, s_169_31, s_169_73, s_169_34, s_169_79, s_169_82, s_169_86, s_169_90, a1, a2, a3, a4, a5, b1, k_51 b1, m30, ex, ey, ez, hcl, vi_bt, k55c, K1, K2, A1, A2, vi_inc]
        exact ih
  have loop1 : ∀ k : Nat, k ≤ 10 → vi_ok GG (d + 3) 169 2 [some (.inr (.inr 103)), some (.inl (s : Int)), some (.inl (k : Int)), none] [] (Y, vi_rs (vi_rs M 104 (vi_m k (fun _ => 0) (M 104))) 105 (vi_m k (fun _ => 0) (M 105)), n) Q := by
    refine vi_dn 10 ?_ fun k hk ih => ?_
    · have := loop2 0 (by omega) none
      have e0 : ∀ s : Nat, (fun j => (fCk x y z s j 0 : Int)) = fun _ => 0 := fun s => rfl
      rw [e0, e0] at this
      clear loop2 k55
      rw [s_169_2]
      simp (disch := omega) only [Option.toList_some, Option.toList_none, List.nil_append, List.cons_append, List.append_nil, true_and, and_true, not_true_eq_false, not_false_eq_true, true_implies, false_implies, implies_true, and_self, Int.reduceLT, Int.reduceLE, Int.reduceEq, Int.reduceNe, Int.reduceAdd, Int.reduceSub, Int.reduceMul, Int.reduceNeg, Int.reduceToNat, Int.toNat_natCast, ↓kk_ck, ↓kk_im, ↓kk_in, s_169_0, s_169_11, s_169_20, s_169_40, s_169_49, s_169_60, s_169_93, s_169_99, s_169_7, s_169_16, s_169_24, s_169_53, s_169_64, s_169_8, s_169_17, s_169_27, s_169_57, s_169_68, s_169_31, s_169_73, s_169_34, s_169_79, s_169_82, s_169_86, s_169_90, a1, a2, a3, a4, a5, g1, g1', g2, g2']
      exact this
    · clear loop2 k55 hQ
      rw [← vi_m_s (z := k) (f := fun _ => 0) (g := M 104) rfl, ← vi_m_s (z := k) (f := fun _ => 0) (g := M 105) rfl] at ih
      rw [s_169_2]
      simp (disch := omega) only [Option.toList_some, Option.toList_none, List.nil_append, List.cons_append, List.append_nil, true_and, and_true, not_true_eq_false, not_false_eq_true, true_implies, false_implies, implies_true, and_self, Int.reduceLT, Int.reduceLE, Int.reduceEq, Int.reduceNe, Int.reduceAdd, Int.reduceSub, Int.reduceMul, Int.reduceNeg, Int.reduceToNat, Int.toNat_natCast, ↓kk_ck, ↓kk_im, ↓kk_in, s_169_0, s_169_11, s_169_20, s_169_40, s_169_49, s_169_60, s_169_93, s_169_99, s_169_7, s_169_16, s_169_24, s_169_53, s_169_64, s_169_8, s_169_17, s_169_27, s_169_57, s_169_68, s_169_31, s_169_73, s_169_34, s_169_79, s_169_82, s_169_86, s_169_90, a1, a2, a3, a4, a5, g1, g1', g2, g2', vi_ms_rs, w2, w1, vi_rs_s, vi_rs_rs, vi_inc]
      exact ih
  have := loop1 0 (by omega)
  rw [vi_m_0, vi_m_0, vi_rs_id (q := 104) rfl, vi_rs_id (q := 105) rfl] at this
  rw [e_169, s_169_0]
  exact this
/-- the places reached from a set of kinds, the cells not in it, the places' number, the least of all bounds -/
def fRk (ps : Nat → Nat) (set : Nat) : Nat → Nat
  | 0 => 0
  | k + 1 => if set.testBit k = true then fRk ps set k ||| ps k else fRk ps set k
def fBn (ck : Nat → Nat) (set : Nat) : Nat → Nat
  | 0 => 0
  | k + 1 => if set.testBit k = true then fBn ck set k else fBn ck set k + ck k
def fPn (pk : Nat → Nat) (re : Nat) : Nat → Nat
  | 0 => 0
  | k + 1 => fPn pk re k + (if re.testBit k = true then pk k else 0)
def fLs (ps ck pk : Nat → Nat) : Nat → Nat
  | 0 => 216
  | k + 1 => min (fLs ps ck pk k) (fBn ck k 10 + fPn pk (fRk ps k 10) 10)
theorem fPs_lt (k : Nat) : fPs (kT k) (kO k) < 1024 := bN_lt 10 _
theorem fRk_lt {ps : Nat → Nat} (h : ∀ k, ps k < 1024) (set : Nat) : ∀ k, fRk ps set k < 1024
  | 0 => by rw [fRk]; omega
  | k + 1 => by
    rw [fRk]
    split
    · exact Nat.or_lt_two_pow (n := 10) (fRk_lt h set k) (h k)
    · exact fRk_lt h set k
theorem fBn_le {ck : Nat → Nat} (h : ∀ k, ck k ≤ 216) (set : Nat) : ∀ k, fBn ck set k ≤ 216 * k
  | 0 => by rw [fBn]; omega
  | k + 1 => by have := fBn_le h set k; have := h k; rw [fBn]; split <;> omega
theorem fPn_le {pk : Nat → Nat} (h : ∀ k, pk k ≤ 216) (re : Nat) : ∀ k, fPn pk re k ≤ 216 * k
  | 0 => by rw [fPn]; omega
  | k + 1 => by have := fPn_le h re k; have := h k; rw [fPn]; split <;> omega
theorem k_163 (hY : kY Y 151) (hb : gB (M 30 8) (M 30 9) (M 30 10)) {s : Nat} (hs : s < 64) : vi_call GG (d + 5) 163 [.inr (.inr 103), .inl (s : Int)] (Y, M, n) K ↔ K (some (.inl (fLs (fun k => fPs (kT k) (kO k)) (fun k => fCk (M 30 8) (M 30 9) (M 30 10) s k 216) (fun k => fCk (M 30 8) (M 30 9) (M 30 10) 63 k 216) 1024 : Int))) (Y, vi_rs (vi_rs (vi_rs M 104 (vi_m 10 (fun j => (fCk (M 30 8) (M 30 9) (M 30 10) s j 216 : Int)) (M 104))) 105 (vi_m 10 (fun j => (fCk (M 30 8) (M 30 9) (M 30 10) 63 j 216 : Int)) (M 105))) 106 (vi_m 10 (fun k => (fPs (kT k) (kO k) : Int)) (M 106)), n) := by
  obtain ⟨a1, a2, a3, a4, a5⟩ := y_103 hY (by omega)
  obtain ⟨g1, g1'⟩ := y_104 hY (by omega)
  obtain ⟨g2, g2'⟩ := y_105 hY (by omega)
  obtain ⟨g3, g3'⟩ := y_106 hY (by omega)
  have k169 := fun {K : Option vi_V → vi_W → Prop} => @k_169 d K Y M n hY hb s hs
  have k174 := fun {K : Option vi_V → vi_W → Prop} {M : vi_M} => @k_174 (d + 1) K Y M n hY
  refine vi_k (r := some (.inl _)) fun Q hQ => ?_
  generalize hck : (fun k => fCk (M 30 8) (M 30 9) (M 30 10) s k 216) = ck at *
  generalize hpk : (fun k => fCk (M 30 8) (M 30 9) (M 30 10) 63 k 216) = pk at *
  have ck' : ∀ k, fCk (M 30 8) (M 30 9) (M 30 10) s k 216 = ck k := fun k => by rw [← hck]
  have pk' : ∀ k, fCk (M 30 8) (M 30 9) (M 30 10) 63 k 216 = pk k := fun k => by rw [← hpk]
  have ckb : ∀ k, ck k ≤ 216 := fun k => by rw [← ck']; exact sN_le _ _
  have pkb : ∀ k, pk k ≤ 216 := fun k => by rw [← pk']; exact sN_le _ _
  simp only [ck', pk'] at hQ k169
  clear hck hpk ck' pk'
  generalize hps : (fun k => fPs (kT k) (kO k)) = ps at *
  have ps' : ∀ k, fPs (kT k) (kO k) = ps k := fun k => by rw [← hps]
  have psb : ∀ k, ps k < 1024 := fun k => by rw [← ps']; exact fPs_lt k
  simp only [ps'] at hQ k174
  clear hps ps'
  generalize hMM : vi_rs (vi_rs (vi_rs M 104 (vi_m 10 (fun j => (ck j : Int)) (M 104))) 105 (vi_m 10 (fun j => (pk j : Int)) (M 105))) 106 (vi_m 10 (fun k => (ps k : Int)) (M 106)) = MM at *
  have r4 : ∀ k, k < 10 → MM 104 k = (ck k : Int) := fun k hk => by rw [← hMM]; simp (disch := omega) only [vi_rs_s, vi_rs_o]; exact vi_m_lt hk
  have r5 : ∀ k, k < 10 → MM 105 k = (pk k : Int) := fun k hk => by rw [← hMM]; simp (disch := omega) only [vi_rs_s, vi_rs_o]; exact vi_m_lt hk
  have r6 : ∀ k, k < 10 → MM 106 k = (ps k : Int) := fun k hk => by rw [← hMM]; simp (disch := omega) only [vi_rs_s, vi_rs_o]; exact vi_m_lt hk
  have loop : ∀ set : Nat, set ≤ 1024 → ∀ l4 l5 l6, vi_ok GG (d + 4) 163 15 [some (.inr (.inr 103)), some (.inl (s : Int)), some (.inl (fLs ps ck pk set : Int)), some (.inl (set : Int)), l4, l5, l6] [] (Y, MM, n) Q := by
    refine vi_dn 1024 ?_ fun set hset ih => ?_
    · intro l4 l5 l6
      clear k169 k174 hMM
      rw [s_163_15]
      simp (disch := omega) only [Option.toList_some, Option.toList_none, List.nil_append, List.cons_append, List.append_nil, true_and, and_true, not_true_eq_false, not_false_eq_true, true_implies, false_implies, implies_true, and_self, Int.reduceLT, Int.reduceLE, Int.reduceEq, Int.reduceNe, Int.reduceAdd, Int.reduceSub, Int.reduceMul, Int.reduceNeg, Int.reduceToNat, Int.toNat_natCast, ↓kk_ck, ↓kk_im, ↓kk_in, s_163_0, s_163_22, s_163_38, s_163_48, s_163_65, s_163_79, s_163_85, s_163_95, s_163_108, s_163_120, s_163_121, s_163_130, s_163_143, s_163_5, s_163_45, s_163_54, s_163_71, s_163_105, s_163_112, s_163_136, s_163_9, s_163_59, s_163_76, s_163_117]
      exact hQ
    · intro l4 l5 l6
      clear hQ k169 k174 hMM
      have hB10 := fBn_le ckb set 10
      have hR10 := fRk_lt psb set 10
      have loop3 : ∀ k : Nat, k ≤ 10 → vi_ok GG (d + 4) 163 88 [some (.inr (.inr 103)), some (.inl (s : Int)), some (.inl (fLs ps ck pk set : Int)), some (.inl (set : Int)), some (.inl (fRk ps set 10 : Int)), some (.inl ((fBn ck set 10 + fPn pk (fRk ps set 10) k : Nat) : Int)), some (.inl (k : Int))] [] (Y, MM, n) Q := by
        refine vi_dn 10 ?_ fun k hk ih3 => ?_
        · have hP10 := fPn_le pkb (fRk ps set 10) 10
          have ih := ih (some (.inl (fRk ps set 10 : Int))) (some (.inl ((fBn ck set 10 + fPn pk (fRk ps set 10) 10 : Nat) : Int))) (some (.inl 10))
          rw [fLs] at ih
          generalize fBn ck set 10 + fPn pk (fRk ps set 10) 10 = t at *
          generalize fLs ps ck pk set = u at *
          generalize fRk ps set 10 = v at *
          have e : ((min u t : Nat) : Int) = min (u : Int) (t : Int) := by omega
          rw [e] at ih
          clear e
          rw [s_163_88]
          simp (disch := omega) only [Option.toList_some, Option.toList_none, List.nil_append, List.cons_append, List.append_nil, true_and, and_true, not_true_eq_false, not_false_eq_true, true_implies, false_implies, implies_true, and_self, Int.reduceLT, Int.reduceLE, Int.reduceEq, Int.reduceNe, Int.reduceAdd, Int.reduceSub, Int.reduceMul, Int.reduceNeg, Int.reduceToNat, Int.toNat_natCast, ↓kk_ck, ↓kk_im, ↓kk_in, s_163_0, s_163_22, s_163_38, s_163_48, s_163_65, s_163_79, s_163_85, s_163_95, s_163_108, s_163_120, s_163_121, s_163_130, s_163_143, s_163_5, s_163_45, s_163_54, s_163_71, s_163_105, s_163_112, s_163_136, s_163_9, s_163_59, s_163_76, s_163_117, k_360, vi_inc]
          exact ih
        · have hP := fPn_le pkb (fRk ps set 10) k
          have hpkk := pkb k
          rw [fPn] at ih3
          have k170 := fun {K : Option vi_V → vi_W → Prop} => @k_170 (d + 3) K Y MM n 105 10 g2 g2' k hk
          rw [r5 k hk] at k170
          have ET := fun (u : Unit) => o_tb (x := fRk ps set 10) (i := k) (by omega) (by omega)
          clear ih
          generalize fBn ck set 10 = t1 at *
          generalize fPn pk (fRk ps set 10) k = t2 at *
          generalize pk k = t3 at *
          generalize fRk ps set 10 = v at *
          generalize fLs ps ck pk set = u at *
          rw [s_163_88]
          cases hv : v.testBit k
          · rw [hv, if_neg (by simp), Nat.add_zero] at ih3
            rw [hv, Bool.toNat_false] at ET
            simp (disch := omega) only [Option.toList_some, Option.toList_none, List.nil_append, List.cons_append, List.append_nil, true_and, and_true, not_true_eq_false, not_false_eq_true, true_implies, false_implies, implies_true, and_self, Int.reduceLT, Int.reduceLE, Int.reduceEq, Int.reduceNe, Int.reduceAdd, Int.reduceSub, Int.reduceMul, Int.reduceNeg, Int.reduceToNat, Int.toNat_natCast, ↓kk_ck, ↓kk_im, ↓kk_in, s_163_0, s_163_22, s_163_38, s_163_48, s_163_65, s_163_79, s_163_85, s_163_95, s_163_108, s_163_120, s_163_121, s_163_130, s_163_143, s_163_5, s_163_45, s_163_54, s_163_71, s_163_105, s_163_112, s_163_136, s_163_9, s_163_59, s_163_76, s_163_117, ET (), Int.natCast_zero, vi_32, Int.add_zero, vi_inc, ne_eq]
            exact ih3
          · rw [hv, if_pos rfl] at ih3
            rw [hv, Bool.toNat_true] at ET
            simp (disch := omega) only [Option.toList_some, Option.toList_none, List.nil_append, List.cons_append, List.append_nil, true_and, and_true, not_true_eq_false, not_false_eq_true, true_implies, false_implies, implies_true, and_self, Int.reduceLT, Int.reduceLE, Int.reduceEq, Int.reduceNe, Int.reduceAdd, Int.reduceSub, Int.reduceMul, Int.reduceNeg, Int.reduceToNat, Int.toNat_natCast, ↓kk_ck, ↓kk_im, ↓kk_in, s_163_0, s_163_22, s_163_38, s_163_48, s_163_65, s_163_79, s_163_85, s_163_95, s_163_108, s_163_120, s_163_121, s_163_130, s_163_143, s_163_5, s_163_45, s_163_54, s_163_71, s_163_105, s_163_112, s_163_136, s_163_9, s_163_59, s_163_76, s_163_117, ET (), Int.natCast_one, a1, a2, a3, a4, a5, k170, vi_32, vi_inc, ne_eq]
            exact vi_fI (fun q => vi_ok GG (d + 4) 163 88 [some (.inr (.inr 103)), some (.inl (s : Int)), some (.inl (u : Int)), some (.inl (set : Int)), some (.inl (v : Int)), some (.inl q), some (.inl ((k + 1 : Nat) : Int))] [] (Y, MM, n) Q) ih3 (by omega)
      have loop2 : ∀ k : Nat, k ≤ 10 → vi_ok GG (d + 4) 163 31 [some (.inr (.inr 103)), some (.inl (s : Int)), some (.inl (fLs ps ck pk set : Int)), some (.inl (set : Int)), some (.inl (fRk ps set k : Int)), some (.inl (fBn ck set k : Int)), some (.inl (k : Int))] [] (Y, MM, n) Q := by
        refine vi_dn 10 ?_ fun k hk ih2 => ?_
        · have := loop3 0 (by omega)
          rw [fPn, Nat.add_zero] at this
          clear loop3 ih
          rw [s_163_31]
          simp (disch := omega) only [Option.toList_some, Option.toList_none, List.nil_append, List.cons_append, List.append_nil, true_and, and_true, not_true_eq_false, not_false_eq_true, true_implies, false_implies, implies_true, and_self, Int.reduceLT, Int.reduceLE, Int.reduceEq, Int.reduceNe, Int.reduceAdd, Int.reduceSub, Int.reduceMul, Int.reduceNeg, Int.reduceToNat, Int.toNat_natCast, ↓kk_ck, ↓kk_im, ↓kk_in, s_163_0, s_163_22, s_163_38, s_163_48, s_163_65, s_163_79, s_163_85, s_163_95, s_163_108, s_163_120, s_163_121, s_163_130, s_163_143, s_163_5, s_163_45, s_163_54, s_163_71, s_163_105, s_163_112, s_163_136, s_163_9, s_163_59, s_163_76, s_163_117]
          exact this
        · have hBk := fBn_le ckb set k
          have hRk := fRk_lt psb set k
          have hckk := ckb k
          have hpsk := psb k
          rw [fRk, fBn] at ih2
          have k170c := fun {K : Option vi_V → vi_W → Prop} => @k_170 (d + 3) K Y MM n 104 10 g1 g1' k hk
          rw [r4 k hk] at k170c
          have k170s := fun {K : Option vi_V → vi_W → Prop} => @k_170 (d + 3) K Y MM n 106 10 g3 g3' k hk
          rw [r6 k hk] at k170s
          have ET := fun (u : Unit) => o_tb (x := set) (i := k) (by omega) (by omega)
          have EO := fun (u : Unit) => vi_or32n (x := fRk ps set k) (y := ps k) (by omega) (by omega)
          clear ih loop3
          generalize fBn ck set k = t1 at *
          generalize ck k = t2 at *
          generalize ps k = t3 at *
          generalize fRk ps set k = v at *
          generalize fLs ps ck pk set = u at *
          rw [s_163_31]
          cases hv : set.testBit k
          · rw [hv, if_neg (by simp), if_neg (by simp)] at ih2
            rw [hv, Bool.toNat_false] at ET
            simp (disch := omega) only [Option.toList_some, Option.toList_none, List.nil_append, List.cons_append, List.append_nil, true_and, and_true, not_true_eq_false, not_false_eq_true, true_implies, false_implies, implies_true, and_self, Int.reduceLT, Int.reduceLE, Int.reduceEq, Int.reduceNe, Int.reduceAdd, Int.reduceSub, Int.reduceMul, Int.reduceNeg, Int.reduceToNat, Int.toNat_natCast, ↓kk_ck, ↓kk_im, ↓kk_in, s_163_0, s_163_22, s_163_38, s_163_48, s_163_65, s_163_79, s_163_85, s_163_95, s_163_108, s_163_120, s_163_121, s_163_130, s_163_143, s_163_5, s_163_45, s_163_54, s_163_71, s_163_105, s_163_112, s_163_136, s_163_9, s_163_59, s_163_76, s_163_117, ET (), Int.natCast_zero, a1, a2, a3, a4, a5, k170c, vi_32, vi_inc, ne_eq]
            exact vi_fI (fun q => vi_ok GG (d + 4) 163 31 [some (.inr (.inr 103)), some (.inl (s : Int)), some (.inl (u : Int)), some (.inl (set : Int)), some (.inl (v : Int)), some (.inl q), some (.inl ((k + 1 : Nat) : Int))] [] (Y, MM, n) Q) ih2 (by omega)
          · rw [hv, if_pos rfl, if_pos rfl] at ih2
            rw [hv, Bool.toNat_true] at ET
            simp (disch := omega) only [Option.toList_some, Option.toList_none, List.nil_append, List.cons_append, List.append_nil, true_and, and_true, not_true_eq_false, not_false_eq_true, true_implies, false_implies, implies_true, and_self, Int.reduceLT, Int.reduceLE, Int.reduceEq, Int.reduceNe, Int.reduceAdd, Int.reduceSub, Int.reduceMul, Int.reduceNeg, Int.reduceToNat, Int.toNat_natCast, ↓kk_ck, ↓kk_im, ↓kk_in, s_163_0, s_163_22, s_163_38, s_163_48, s_163_65, s_163_79, s_163_85, s_163_95, s_163_108, s_163_120, s_163_121, s_163_130, s_163_143, s_163_5, s_163_45, s_163_54, s_163_71, s_163_105, s_163_112, s_163_136, s_163_9, s_163_59, s_163_76, s_163_117, ET (), Int.natCast_one, a1, a2, a3, a4, a5, k170s, EO (), vi_32, vi_inc, ne_eq]
            exact ih2
      have := loop2 0 (by omega)
      clear loop2 loop3 ih
      rw [s_163_15]
      simp (disch := omega) only [Option.toList_some, Option.toList_none, List.nil_append, List.cons_append, List.append_nil, true_and, and_true, not_true_eq_false, not_false_eq_true, true_implies, false_implies, implies_true, and_self, Int.reduceLT, Int.reduceLE, Int.reduceEq, Int.reduceNe, Int.reduceAdd, Int.reduceSub, Int.reduceMul, Int.reduceNeg, Int.reduceToNat, Int.toNat_natCast, ↓kk_ck, ↓kk_im, ↓kk_in, s_163_0, s_163_22, s_163_38, s_163_48, s_163_65, s_163_79, s_163_85, s_163_95, s_163_108, s_163_120, s_163_121, s_163_130, s_163_143, s_163_5, s_163_45, s_163_54, s_163_71, s_163_105, s_163_112, s_163_136, s_163_9, s_163_59, s_163_76, s_163_117]
      exact this
  have := loop 0 (by omega) none none none
  have m106 : ∀ f g, vi_rs (vi_rs M 104 f) 105 g 106 = M 106 := fun f g => by simp (disch := omega) only [vi_rs_s, vi_rs_o]
  clear loop hQ r4 r5 r6
  simp (disch := omega) only [Option.toList_some, Option.toList_none, List.nil_append, List.cons_append, List.append_nil, true_and, and_true, not_true_eq_false, not_false_eq_true, true_implies, false_implies, implies_true, and_self, Int.reduceLT, Int.reduceLE, Int.reduceEq, Int.reduceNe, Int.reduceAdd, Int.reduceSub, Int.reduceMul, Int.reduceNeg, Int.reduceToNat, Int.toNat_natCast, ↓kk_ck, ↓kk_im, ↓kk_in, e_163, s_163_0, s_163_22, s_163_38, s_163_48, s_163_65, s_163_79, s_163_85, s_163_95, s_163_108, s_163_120, s_163_121, s_163_130, s_163_143, s_163_5, s_163_45, s_163_54, s_163_71, s_163_105, s_163_112, s_163_136, s_163_9, s_163_59, s_163_76, s_163_117, a1, k169, k174, m106, hMM]
  exact this
end
