/-! Contracts of Views, second part: the LEAST. -/
def jn (best : Nat → Int) (layer : Nat) (nx : Nat → Int) : Nat → Nat → Int
  | 0 => nx
  | k + 1 => vi_u (jn best layer nx k) (k ||| layer) (min (jn best layer nx k (k ||| layer)) (best k + (bC layer : Int)))
theorem o_tb {x i : Nat} (hi : i < 32) (hx : x < 2147483648) : vi_and32 (vi_shr32 (x : Int) (i : Int)) (1 : Int) = ((x.testBit i).toNat : Int) := by
  have h3 : x >>> i ≤ x := by rw [Nat.shiftRight_eq_div_pow]; exact Nat.div_le_self _ _
  rw [vi_shr32n hi, show (1 : Int) = ((1 : Nat) : Int) from rfl, vi_and32n (by omega), Nat.and_one_is_mod, Nat.shiftRight_eq_div_pow, Nat.testBit_eq_decide_div_mod_eq]
  have : x / 2 ^ i % 2 < 2 := Nat.mod_lt _ (by omega)
  generalize x / 2 ^ i % 2 = t at *
  obtain rfl | rfl : t = 0 ∨ t = 1 := by omega
  · rfl
  · rfl
/-- a layer at z all in the most -/
def gLm (S : Nat → Bool) (layer : Nat) (z : Int) : Bool := ! sOr 9 (fun p => layer.testBit p && ! sHas S (36 * z + 6 * ((p / 3 : Nat) : Int) + ((p % 3 : Nat) : Int)))
def gLd (x y : Int) (f : Nat → Int) (layer : Nat) (z : Int) : Bool := ! sOr 3 (fun p => (decide ((p : Int) < y) && gDi f 0 (p : Int) z && decide (layer &&& (7 <<< (3 * p)) = 0)) || (decide ((p : Int) < x) && gDi f 1 (p : Int) z && decide (layer &&& (73 <<< p) = 0)))
def gAl (ok : Nat → Bool) (best : Nat → Int) (o : Nat → Int) : Nat → Nat → Int
  | 0 => vi_m 512 (fun _ => 1000) o
  | k + 1 => if ok k = true then jn best k (gAl ok best o k) 512 else gAl ok best o k
section
variable {d : Nat} {K : Option vi_V → vi_W → Prop} {Y : vi_Y} {M : vi_M} {n : Nat × Nat} {P B R T S : Nat → Bool}
theorem k_183 (hY : kY Y 151) {bp np : Nat} (h : (bp = 95 ∧ np = 96) ∨ (bp = 96 ∧ np = 95)) (e4 : (M 88 4).toNat = bp) (e5 : (M 88 5).toNat = np) (hb : ∀ k, k < 512 → 0 ≤ M bp k ∧ M bp k ≤ 2000) {l : Nat} (hl : l < 512) : vi_call GG (d + 2) 183 [.inr (.inr 88), .inl (l : Int)] (Y, M, n) K ↔ K none (Y, vi_rs M np (jn (M bp) l (M np) 512), n) := by
  have a1 := (y_88 hY (by omega)).1
  have g1 : Y.1 bp = 1 ∧ (Y.2.1 bp : Int) = 512 := by rcases h with ⟨rfl, -⟩ | ⟨rfl, -⟩; exact y_95 hY (by omega); exact y_96 hY (by omega)
  have g2 : Y.1 np = 1 ∧ (Y.2.1 np : Int) = 512 := by rcases h with ⟨-, rfl⟩ | ⟨-, rfl⟩; exact y_96 hY (by omega); exact y_95 hY (by omega)
  obtain ⟨g1, g1'⟩ := g1
  obtain ⟨g2, g2'⟩ := g2
  have hne : bp ≠ np := by omega
  have h88 : (88 : Nat) ≠ np := by omega
  have hbc : bC l ≤ 16 := sN_le _ _
  have k356 := fun {K : Option vi_V → vi_W → Prop} {w : vi_W} => @k_356 d K w l (by omega)
  have hbC : sN 16 (fun i => l.testBit i) = bC l := rfl
  simp only [hbC] at k356
  refine vi_k (r := none) fun Q hQ => ?_
  have m88 : ∀ f, vi_rs M np f 88 = M 88 := fun f => vi_rs_o h88
  have mbp : ∀ f, vi_rs M np f bp = M bp := fun f => vi_rs_o hne
  have loop : ∀ k : Nat, k ≤ 512 → ∀ l4, vi_ok GG (d + 1) 183 7 [some (.inr (.inr 88)), some (.inl (l : Int)), some (.inl (bC l : Int)), some (.inl (k : Int)), l4] [] (Y, vi_rs M np (jn (M bp) l (M np) k), n) Q := by
    refine vi_dn 512 ?_ fun k hk ih => ?_
    · intro l4
      rw [s_183_7]
      simp (disch := omega) only [Option.toList_some, Option.toList_none, List.nil_append, List.cons_append, List.append_nil, true_and, and_true, not_true_eq_false, not_false_eq_true, true_implies, false_implies, implies_true, and_self, Int.reduceLT, Int.reduceLE, Int.reduceEq, Int.reduceNe, Int.reduceAdd, Int.reduceSub, Int.reduceMul, Int.reduceNeg, Int.reduceToNat, Int.toNat_natCast, ↓kk_ck, ↓kk_im, ↓kk_in, s_183_0, s_183_16, s_183_26, s_183_36, s_183_61, s_183_67, s_183_4, s_183_12, s_183_23, s_183_32, s_183_40, s_183_13, s_183_33, s_183_46, s_183_49, s_183_53, s_183_55, s_183_60, a1, m88, e4, e5, g1, g1']
      exact hQ
    · intro l4
      have hbk := hb k hk
      have hj : k ||| l < 512 := Nat.or_lt_two_pow (n := 9) hk hl
      have eo : vi_or32 (k : Int) (l : Int) = ((k ||| l : Nat) : Int) := vi_or32n (by omega) (by omega)
      have ih := ih (some (.inl ((k ||| l : Nat) : Int)))
      rw [jn] at ih
      generalize k ||| l = j at *
      rw [s_183_7]
      simp (disch := omega) only [Option.toList_some, Option.toList_none, List.nil_append, List.cons_append, List.append_nil, true_and, and_true, not_true_eq_false, not_false_eq_true, true_implies, false_implies, implies_true, and_self, Int.reduceLT, Int.reduceLE, Int.reduceEq, Int.reduceNe, Int.reduceAdd, Int.reduceSub, Int.reduceMul, Int.reduceNeg, Int.reduceToNat, Int.toNat_natCast, ↓kk_ck, ↓kk_im, ↓kk_in, s_183_0, s_183_16, s_183_26, s_183_36, s_183_61, s_183_67, s_183_4, s_183_12, s_183_23, s_183_32, s_183_40, s_183_13, s_183_33, s_183_46, s_183_49, s_183_53, s_183_55, s_183_60, a1, m88, e4, e5, g1, g1', g2, g2', eo, vi_rs_s, mbp, k_360, vi_ms_rs, vi_rs_rs, vi_inc, vi_32]
      exact ih
  have := loop 0 (by omega) none
  rw [jn, vi_rs_id rfl] at this
  simp (disch := omega) only [Option.toList_some, Option.toList_none, List.nil_append, List.cons_append, List.append_nil, true_and, and_true, not_true_eq_false, not_false_eq_true, true_implies, false_implies, implies_true, and_self, Int.reduceLT, Int.reduceLE, Int.reduceEq, Int.reduceNe, Int.reduceAdd, Int.reduceSub, Int.reduceMul, Int.reduceNeg, Int.reduceToNat, Int.toNat_natCast, ↓kk_ck, ↓kk_im, ↓kk_in, e_183, s_183_0, s_183_16, s_183_26, s_183_36, s_183_61, s_183_67, s_183_4, s_183_12, s_183_23, s_183_32, s_183_40, s_183_13, s_183_33, s_183_46, s_183_49, s_183_53, s_183_55, s_183_60, a1, k356]
  exact this
theorem k_184 (hY : kY Y 151) (hS : M 90 = cR S) {l : Nat} (hl : l < 512) {z : Int} (hz : 0 ≤ z ∧ z < 6) : vi_call GG (d + 3) 184 [.inr (.inr 88), .inl (l : Int), .inl z] (Y, M, n) K ↔ K (some (.inl (vi_b (gLm S l z)))) (Y, M, n) := by
  obtain ⟨a1, a2, a3, a4, a5⟩ := y_88 hY (by omega)
  have p1 := kC_89 hY (by omega)
  refine vi_k (r := some (.inl _)) fun Q hQ => ?_
  have loop : ∀ p : Nat, p ≤ 9 → ∀ l4, sOr p (fun p => l.testBit p && ! sHas S (36 * z + 6 * ((p / 3 : Nat) : Int) + ((p % 3 : Nat) : Int))) = false → vi_ok GG (d + 2) 184 2 [some (.inr (.inr 88)), some (.inl (l : Int)), some (.inl z), some (.inl (p : Int)), l4] [] (Y, M, n) Q := by
    refine vi_dn 9 ?_ fun p hp ih => ?_
    · intro l4 h
      rw [gLm, h] at hQ
      rw [s_184_2]
      simp (disch := omega) only [Option.toList_some, Option.toList_none, List.nil_append, List.cons_append, List.append_nil, true_and, and_true, not_true_eq_false, not_false_eq_true, true_implies, false_implies, implies_true, and_self, Int.reduceLT, Int.reduceLE, Int.reduceEq, Int.reduceNe, Int.reduceAdd, Int.reduceSub, Int.reduceMul, Int.reduceNeg, Int.reduceToNat, Int.toNat_natCast, ↓kk_ck, ↓kk_im, ↓kk_in, s_184_0, s_184_8, s_184_34, s_184_46, s_184_48, s_184_54, s_184_31, s_184_38, s_184_43]
      exact hQ
    · intro l4 h
      have ih := ih (some (.inl (36 * z + 6 * ((p / 3 : Nat) : Int) + ((p % 3 : Nat) : Int))))
      rw [sOr, h, Bool.false_or] at ih
      have et := o_tb (x := l) (i := p) (by omega) (by omega)
      have z1 : (p : Int) / 3 = ((p / 3 : Nat) : Int) := by omega
      have z2 : (p : Int) % 3 = ((p % 3 : Nat) : Int) := by omega
      rw [s_184_2]
      cases h1 : l.testBit p
      · have := ih (by rw [h1]; rfl)
        rw [h1] at et
        simp (disch := omega) only [Option.toList_some, Option.toList_none, List.nil_append, List.cons_append, List.append_nil, true_and, and_true, not_true_eq_false, not_false_eq_true, true_implies, false_implies, implies_true, and_self, Int.reduceLT, Int.reduceLE, Int.reduceEq, Int.reduceNe, Int.reduceAdd, Int.reduceSub, Int.reduceMul, Int.reduceNeg, Int.reduceToNat, Int.toNat_natCast, ↓kk_ck, ↓kk_im, ↓kk_in, s_184_0, s_184_8, s_184_34, s_184_46, s_184_48, s_184_54, s_184_31, s_184_38, s_184_43, a1, a2, a3, a4, a5, vi_td, vi_tm, z1, z2, vi_32, et, Bool.toNat_false, Int.natCast_zero, ne_eq, vi_inc]
        exact this
      · rw [h1] at et
        cases h2 : sHas S (36 * z + 6 * ((p / 3 : Nat) : Int) + ((p % 3 : Nat) : Int))
        · rw [gLm, sOr_iff.mpr ⟨p, hp, by rw [h1, h2]; rfl⟩] at hQ
          simp (disch := omega) only [Option.toList_some, Option.toList_none, List.nil_append, List.cons_append, List.append_nil, true_and, and_true, not_true_eq_false, not_false_eq_true, true_implies, false_implies, implies_true, and_self, Int.reduceLT, Int.reduceLE, Int.reduceEq, Int.reduceNe, Int.reduceAdd, Int.reduceSub, Int.reduceMul, Int.reduceNeg, Int.reduceToNat, Int.toNat_natCast, ↓kk_ck, ↓kk_im, ↓kk_in, s_184_0, s_184_8, s_184_34, s_184_46, s_184_48, s_184_54, s_184_31, s_184_38, s_184_43, a1, a2, a3, a4, a5, p1.1, vi_td, vi_tm, z1, z2, vi_32, et, Bool.toNat_true, Int.natCast_one, ne_eq, vi_inc, k_5 p1 hS, h2, vi_bf]
          exact hQ
        · have := ih (by rw [h1, h2]; rfl)
          simp (disch := omega) only [Option.toList_some, Option.toList_none, List.nil_append, List.cons_append, List.append_nil, true_and, and_true, not_true_eq_false, not_false_eq_true, true_implies, false_implies, implies_true, and_self, Int.reduceLT, Int.reduceLE, Int.reduceEq, Int.reduceNe, Int.reduceAdd, Int.reduceSub, Int.reduceMul, Int.reduceNeg, Int.reduceToNat, Int.toNat_natCast, ↓kk_ck, ↓kk_im, ↓kk_in, s_184_0, s_184_8, s_184_34, s_184_46, s_184_48, s_184_54, s_184_31, s_184_38, s_184_43, a1, a2, a3, a4, a5, p1.1, vi_td, vi_tm, z1, z2, vi_32, et, Bool.toNat_true, Int.natCast_one, ne_eq, vi_inc, k_5 p1 hS, h2, vi_bt]
          exact this
  rw [e_184, s_184_0]
  exact loop 0 (by omega) none rfl
theorem o_7 : ∀ p, p < 3 → vi_shl32 (7 : Int) ((3 * p : Nat) : Int) = ((7 <<< (3 * p) : Nat) : Int) := by decide +kernel
theorem o_73 : ∀ p, p < 3 → vi_shl32 (73 : Int) ((p : Nat) : Int) = ((73 <<< p : Nat) : Int) := by decide +kernel
theorem k_185 (hY : kY Y 151) {l : Nat} (hl : l < 512) {z : Int} (hz : 0 ≤ z ∧ z < 6) : vi_call GG (d + 3) 185 [.inr (.inr 88), .inl (l : Int), .inl z] (Y, M, n) K ↔ K (some (.inl (vi_b (gLd (M 30 8) (M 30 9) (M 37) l z)))) (Y, M, n) := by
  obtain ⟨a1, a2, a3, a4, a5⟩ := y_88 hY (by omega)
  have b1 := (y_30 hY (by omega)).1
  have hh := kH_30 hY (by omega)
  refine vi_k (r := some (.inl _)) fun Q hQ => ?_
  have z0 : ∀ x y z : Int, gSz x y z 0 = x := fun x y z => if_pos rfl
  have z1 : ∀ x y z : Int, gSz x y z 1 = y := fun x y z => by unfold gSz; rw [if_neg (by omega), if_pos rfl]
  generalize hfn : (fun p : Nat => (decide ((p : Int) < M 30 9) && gDi (M 37) 0 (p : Int) z && decide (l &&& (7 <<< (3 * p)) = 0)) || (decide ((p : Int) < M 30 8) && gDi (M 37) 1 (p : Int) z && decide (l &&& (73 <<< p) = 0))) = fn
  have hQ' : Q (some (.inl (vi_b (! sOr 3 fn)))) (Y, M, n) := by rw [← hfn]; exact hQ
  clear hQ
  have loop : ∀ p : Nat, p ≤ 3 → ∀ l4 l5, sOr p fn = false → vi_ok GG (d + 2) 185 2 [some (.inr (.inr 88)), some (.inl (l : Int)), some (.inl z), some (.inl (p : Int)), l4, l5] [] (Y, M, n) Q := by
    refine vi_dn 3 ?_ fun p hp ih => ?_
    · intro l4 l5 h
      rw [h] at hQ'
      rw [s_185_2]
      simp (disch := omega) only [Option.toList_some, Option.toList_none, List.nil_append, List.cons_append, List.append_nil, true_and, and_true, not_true_eq_false, not_false_eq_true, true_implies, false_implies, implies_true, and_self, Int.reduceLT, Int.reduceLE, Int.reduceEq, Int.reduceNe, Int.reduceAdd, Int.reduceSub, Int.reduceMul, Int.reduceNeg, Int.reduceToNat, Int.toNat_natCast, ↓kk_ck, ↓kk_im, ↓kk_in, s_185_0, s_185_7, s_185_19, s_185_32, s_185_36, s_185_37, s_185_51, s_185_64, s_185_68, s_185_69, s_185_76, s_185_87, s_185_92, s_185_101, s_185_103, s_185_109, s_185_12, s_185_23, s_185_44, s_185_55, s_185_84, s_185_98, s_185_16, s_185_29, s_185_48, s_185_61]
      exact hQ'
    · intro l4 l5 h
      have hfp : fn p = ((decide ((p : Int) < M 30 9) && gDi (M 37) 0 (p : Int) z && decide (l &&& (7 <<< (3 * p)) = 0)) || (decide ((p : Int) < M 30 8) && gDi (M 37) 1 (p : Int) z && decide (l &&& (73 <<< p) = 0))) := by rw [← hfn]
      have e7 := o_7 p hp
      have e73 := o_73 p hp
      have z3 : (3 : Int) * (p : Int) = ((3 * p : Nat) : Int) := by omega
      have n7 := vi_and32n (x := l) (y := 7 <<< (3 * p)) (by omega)
      have n73 := vi_and32n (x := l) (y := 73 <<< p) (by omega)
      have ihT : fn p = false → ∀ l4 l5, vi_ok GG (d + 2) 185 2 [some (.inr (.inr 88)), some (.inl (l : Int)), some (.inl z), some (.inl ((p + 1 : Nat) : Int)), l4, l5] [] (Y, M, n) Q := fun hf l4 l5 => ih l4 l5 (by rw [sOr, h, hf]; rfl)
      have ihF : fn p = true → Q (some (.inl 0)) (Y, M, n) := fun hf => by rw [sOr_iff.mpr ⟨p, hp, hf⟩] at hQ'; exact hQ'
      clear ih hQ' hfn
      have key : ∀ (ax ay : Bool) (l5 : Option vi_V), ax = (decide ((p : Int) < M 30 9) && gDi (M 37) 0 (p : Int) z) → ay = (decide ((p : Int) < M 30 8) && gDi (M 37) 1 (p : Int) z) → vi_ok GG (d + 2) 185 69 [some (.inr (.inr 88)), some (.inl (l : Int)), some (.inl z), some (.inl (p : Int)), some (.inl (vi_b ax)), l5] [.inl (vi_b ay)] (Y, M, n) Q := by
        intro ax ay l5 hax hay
        rw [← hax, ← hay] at hfp
        by_cases c7 : l &&& (7 <<< (3 * p)) = 0 <;> by_cases c73 : l &&& (73 <<< p) = 0 <;> cases ax <;> cases ay <;> simp only [c7, c73, decide_true, decide_false, Bool.and_true, Bool.and_false, Bool.or_true, Bool.or_false, Bool.false_and, Bool.false_or, Bool.true_and, Bool.and_self, Bool.or_self] at hfp <;>
          (first
            | (have := ihT hfp
               simp (disch := omega) only [Option.toList_some, Option.toList_none, List.nil_append, List.cons_append, List.append_nil, true_and, and_true, not_true_eq_false, not_false_eq_true, true_implies, false_implies, implies_true, and_self, Int.reduceLT, Int.reduceLE, Int.reduceEq, Int.reduceNe, Int.reduceAdd, Int.reduceSub, Int.reduceMul, Int.reduceNeg, Int.reduceToNat, Int.toNat_natCast, ↓kk_ck, ↓kk_im, ↓kk_in, s_185_0, s_185_7, s_185_19, s_185_32, s_185_36, s_185_37, s_185_51, s_185_64, s_185_68, s_185_69, s_185_76, s_185_87, s_185_92, s_185_101, s_185_103, s_185_109, s_185_12, s_185_23, s_185_44, s_185_55, s_185_84, s_185_98, s_185_16, s_185_29, s_185_48, s_185_61, vi_bt, vi_bf, vi_32, z3, e7, e73, n7, n73, c7, c73, ne_eq, vi_inc, Int.natCast_zero, Int.natCast_eq_zero]
               exact this _ _)
            | (have := ihF hfp
               simp (disch := omega) only [Option.toList_some, Option.toList_none, List.nil_append, List.cons_append, List.append_nil, true_and, and_true, not_true_eq_false, not_false_eq_true, true_implies, false_implies, implies_true, and_self, Int.reduceLT, Int.reduceLE, Int.reduceEq, Int.reduceNe, Int.reduceAdd, Int.reduceSub, Int.reduceMul, Int.reduceNeg, Int.reduceToNat, Int.toNat_natCast, ↓kk_ck, ↓kk_im, ↓kk_in, s_185_0, s_185_7, s_185_19, s_185_32, s_185_36, s_185_37, s_185_51, s_185_64, s_185_68, s_185_69, s_185_76, s_185_87, s_185_92, s_185_101, s_185_103, s_185_109, s_185_12, s_185_23, s_185_44, s_185_55, s_185_84, s_185_98, s_185_16, s_185_29, s_185_48, s_185_61, vi_bt, vi_bf, vi_32, z3, e7, e73, n7, n73, c7, c73, ne_eq, vi_inc, Int.natCast_zero, Int.natCast_eq_zero]
               exact this))
      have KK := key _ _ l5 rfl rfl
      clear key ihT ihF
      rw [s_185_2]
      by_cases c1 : (p : Int) < M 30 9 <;> cases c2 : gDi (M 37) 0 (p : Int) z <;> by_cases c3 : (p : Int) < M 30 8 <;> cases c4 : gDi (M 37) 1 (p : Int) z <;> simp only [c1, c2, c3, c4, decide_true, decide_false, Bool.and_true, Bool.and_false, Bool.false_and, Bool.true_and, Bool.and_self, vi_bt, vi_bf] at KK
      all_goals
        simp (disch := omega) only [Option.toList_some, Option.toList_none, List.nil_append, List.cons_append, List.append_nil, true_and, and_true, not_true_eq_false, not_false_eq_true, true_implies, false_implies, implies_true, and_self, Int.reduceLT, Int.reduceLE, Int.reduceEq, Int.reduceNe, Int.reduceAdd, Int.reduceSub, Int.reduceMul, Int.reduceNeg, Int.reduceToNat, Int.toNat_natCast, ↓kk_ck, ↓kk_im, ↓kk_in, s_185_7, s_185_12, s_185_16, s_185_19, s_185_23, s_185_29, s_185_32, s_185_36, s_185_37, s_185_44, s_185_48, s_185_51, s_185_55, s_185_61, s_185_64, s_185_68, a1, a2, b1, k_43 b1, z0, z1, k_57i hh, c2, c4, vi_bt, vi_bf]
        exact KK
  rw [e_185, s_185_0]
  exact loop 0 (by omega) none none rfl
/-- a layer more: the rows best and next change their parts -/
theorem k_182 (hY : kY Y 151) {bp np : Nat} (h : (bp = 95 ∧ np = 96) ∨ (bp = 96 ∧ np = 95)) (e4 : (M 88 4).toNat = bp) (e5 : (M 88 5).toNat = np) (hb : ∀ k, k < 512 → 0 ≤ M bp k ∧ M bp k ≤ 2000) (hS : M 90 = cR S) {z : Int} (hz : 0 ≤ z ∧ z < 6) : vi_call GG (d + 4) 182 [.inr (.inr 88), .inl z] (Y, M, n) K ↔ K none (Y, vi_rs (vi_rs M np (gAl (fun l => gLm S l z && gLd (M 30 8) (M 30 9) (M 37) l z) (M bp) (M np) 512)) 88 (vi_u (vi_u (M 88) 4 (np : Int)) 5 (bp : Int)), n) := by
  have a1 := (y_88 hY (by omega)).1
  have g2 : Y.1 np = 1 ∧ (Y.2.1 np : Int) = 512 := by rcases h with ⟨-, rfl⟩ | ⟨-, rfl⟩; exact y_96 hY (by omega); exact y_95 hY (by omega)
  obtain ⟨g2, g2'⟩ := g2
  have hne : bp ≠ np := by omega
  have hnp : np = 95 ∨ np = 96 := by omega
  refine vi_k (r := none) fun Q hQ => ?_
  have m88 : ∀ f, vi_rs M np f 88 = M 88 := fun f => vi_rs_o (by omega)
  have mbp : ∀ f, vi_rs M np f bp = M bp := fun f => vi_rs_o hne
  have m90 : ∀ f, vi_rs M np f 90 = M 90 := fun f => vi_rs_o (by omega)
  have m30 : ∀ f, vi_rs M np f 30 = M 30 := fun f => vi_rs_o (by omega)
  have m37 : ∀ f, vi_rs M np f 37 = M 37 := fun f => vi_rs_o (by omega)
  generalize hok : (fun l => gLm S l z && gLd (M 30 8) (M 30 9) (M 37) l z) = ok at *
  have hokl : ∀ l, ok l = (gLm S l z && gLd (M 30 8) (M 30 9) (M 37) l z) := fun l => by rw [← hok]
  clear hok
  have loop2 : ∀ l : Nat, l ≤ 512 → vi_ok GG (d + 3) 182 28 [some (.inr (.inr 88)), some (.inl z), some (.inl (l : Int))] [] (Y, vi_rs M np (gAl ok (M bp) (M np) l), n) Q := by
    refine vi_dn 512 ?_ fun l hl ih => ?_
    · have e4' : ∀ f, vi_rs M np f 88 4 = M 88 4 := fun f => by rw [m88]
      rw [s_182_28]
      simp (disch := omega) only [Option.toList_some, Option.toList_none, List.nil_append, List.cons_append, List.append_nil, true_and, and_true, not_true_eq_false, not_false_eq_true, true_implies, false_implies, implies_true, and_self, Int.reduceLT, Int.reduceLE, Int.reduceEq, Int.reduceNe, Int.reduceAdd, Int.reduceSub, Int.reduceMul, Int.reduceNeg, Int.reduceToNat, Int.toNat_natCast, ↓kk_ck, ↓kk_im, ↓kk_in, s_182_0, s_182_11, s_182_26, s_182_35, s_182_44, s_182_53, s_182_58, s_182_64, s_182_7, s_182_15, s_182_41, s_182_50, s_182_68, s_182_8, s_182_20, s_182_74, s_182_77, s_182_82, a1, m88, e4, e5, vi_ms_rs, vi_rs_s, vi_rs_rs, vi_u_s, vi_u_o]
      exact hQ
    · have k184 := fun {K : Option vi_V → vi_W → Prop} {f : Nat → Int} => @k_184 d K Y (vi_rs M np f) n S hY (by rw [m90]; exact hS) l hl z hz
      have k185 := fun {K : Option vi_V → vi_W → Prop} {f : Nat → Int} => @k_185 d K Y (vi_rs M np f) n hY l hl z hz
      have k183 := fun {K : Option vi_V → vi_W → Prop} {f : Nat → Int} => @k_183 (d + 1) K Y (vi_rs M np f) n hY bp np h (by rw [m88]; exact e4) (by rw [m88]; exact e5) (by rw [mbp]; exact hb) l hl
      simp only [m30, m37, mbp, vi_rs_s, vi_rs_rs, Nat.reduceAdd] at k185 k183
      rw [gAl, hokl] at ih
      clear hQ
      rw [s_182_28]
      cases h1 : gLm S l z
      · rw [h1, Bool.false_and, if_neg (by simp)] at ih
        simp (disch := omega) only [Option.toList_some, Option.toList_none, List.nil_append, List.cons_append, List.append_nil, true_and, and_true, not_true_eq_false, not_false_eq_true, true_implies, false_implies, implies_true, and_self, Int.reduceLT, Int.reduceLE, Int.reduceEq, Int.reduceNe, Int.reduceAdd, Int.reduceSub, Int.reduceMul, Int.reduceNeg, Int.reduceToNat, Int.toNat_natCast, ↓kk_ck, ↓kk_im, ↓kk_in, s_182_0, s_182_11, s_182_26, s_182_35, s_182_44, s_182_53, s_182_58, s_182_64, s_182_7, s_182_15, s_182_41, s_182_50, s_182_68, s_182_8, s_182_20, s_182_74, s_182_77, s_182_82, a1, k184, h1, vi_bf, vi_inc]
        exact ih
      · cases h2 : gLd (M 30 8) (M 30 9) (M 37) l z
        · rw [h1, h2, Bool.and_false, if_neg (by simp)] at ih
          simp (disch := omega) only [Option.toList_some, Option.toList_none, List.nil_append, List.cons_append, List.append_nil, true_and, and_true, not_true_eq_false, not_false_eq_true, true_implies, false_implies, implies_true, and_self, Int.reduceLT, Int.reduceLE, Int.reduceEq, Int.reduceNe, Int.reduceAdd, Int.reduceSub, Int.reduceMul, Int.reduceNeg, Int.reduceToNat, Int.toNat_natCast, ↓kk_ck, ↓kk_im, ↓kk_in, s_182_0, s_182_11, s_182_26, s_182_35, s_182_44, s_182_53, s_182_58, s_182_64, s_182_7, s_182_15, s_182_41, s_182_50, s_182_68, s_182_8, s_182_20, s_182_74, s_182_77, s_182_82, a1, k184, k185, h1, h2, vi_bt, vi_bf, vi_inc]
          exact ih
        · rw [h1, h2, Bool.and_self, if_pos rfl] at ih
          simp (disch := omega) only [Option.toList_some, Option.toList_none, List.nil_append, List.cons_append, List.append_nil, true_and, and_true, not_true_eq_false, not_false_eq_true, true_implies, false_implies, implies_true, and_self, Int.reduceLT, Int.reduceLE, Int.reduceEq, Int.reduceNe, Int.reduceAdd, Int.reduceSub, Int.reduceMul, Int.reduceNeg, Int.reduceToNat, Int.toNat_natCast, ↓kk_ck, ↓kk_im, ↓kk_in, s_182_0, s_182_11, s_182_26, s_182_35, s_182_44, s_182_53, s_182_58, s_182_64, s_182_7, s_182_15, s_182_41, s_182_50, s_182_68, s_182_8, s_182_20, s_182_74, s_182_77, s_182_82, a1, k184, k185, k183, h1, h2, vi_bt, vi_inc]
          exact ih
  have loop1 : ∀ k : Nat, k ≤ 512 → vi_ok GG (d + 3) 182 2 [some (.inr (.inr 88)), some (.inl z), some (.inl (k : Int))] [] (Y, vi_rs M np (vi_m k (fun _ => 1000) (M np)), n) Q := by
    refine vi_dn 512 ?_ fun k hk ih => ?_
    · rw [s_182_2]
      have := loop2 0 (by omega)
      simp (disch := omega) only [Option.toList_some, Option.toList_none, List.nil_append, List.cons_append, List.append_nil, true_and, and_true, not_true_eq_false, not_false_eq_true, true_implies, false_implies, implies_true, and_self, Int.reduceLT, Int.reduceLE, Int.reduceEq, Int.reduceNe, Int.reduceAdd, Int.reduceSub, Int.reduceMul, Int.reduceNeg, Int.reduceToNat, Int.toNat_natCast, ↓kk_ck, ↓kk_im, ↓kk_in, s_182_0, s_182_11, s_182_26, s_182_35, s_182_44, s_182_53, s_182_58, s_182_64, s_182_7, s_182_15, s_182_41, s_182_50, s_182_68, s_182_8, s_182_20, s_182_74, s_182_77, s_182_82, a1, m88, e4, e5, g2, g2']
      exact this
    · rw [s_182_2]
      simp (disch := omega) only [Option.toList_some, Option.toList_none, List.nil_append, List.cons_append, List.append_nil, true_and, and_true, not_true_eq_false, not_false_eq_true, true_implies, false_implies, implies_true, and_self, Int.reduceLT, Int.reduceLE, Int.reduceEq, Int.reduceNe, Int.reduceAdd, Int.reduceSub, Int.reduceMul, Int.reduceNeg, Int.reduceToNat, Int.toNat_natCast, ↓kk_ck, ↓kk_im, ↓kk_in, s_182_0, s_182_11, s_182_26, s_182_35, s_182_44, s_182_53, s_182_58, s_182_64, s_182_7, s_182_15, s_182_41, s_182_50, s_182_68, s_182_8, s_182_20, s_182_74, s_182_77, s_182_82, a1, m88, e4, e5, g2, g2', vi_ms_rs, vi_rs_s, vi_rs_rs, vi_inc]
      rw [vi_m_s rfl]
      exact ih
  have := loop1 0 (by omega)
  rw [vi_m_0, vi_rs_id rfl] at this
  rw [e_182, s_182_0]
  exact this
end
