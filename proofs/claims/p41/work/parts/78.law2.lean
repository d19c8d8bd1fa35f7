/-! Contracts of Law, second part: what it tells of a cell. -/
/-- what a LAW is asked with, by kinds: x, y, z, holes, rind, day -/
def lWd (f : Nat → Int) (c h : Int) : Nat → Int := fun k => if k = 1 then c % 6 else if k = 2 then c / 6 % 6 else if k = 3 then c / 36 else if k = 4 then h else if k = 5 then ((bC (gSd (f 8) (f 9) (f 10) c).toNat : Nat) : Int) else if k = 6 then f 11 else 0
/-- all clauses asked: taken, shut, what it weighs (not yet held within 1 .. 99) -/
def gA (kd O : Nat → Int) : Nat → Bool × Bool × Int
  | 0 => (false, false, 1)
  | j + 1 => if O j = rB then gA kd O j else ((gA kd O j).1 || decide (kd j = 1), (gA kd O j).2.1 || decide (kd j = 2), if kd j = 0 then O j else (gA kd O j).2.2)
def gAk (kd O : Nat → Int) (m : Nat) : Bool × Bool × Int := ((gA kd O m).1, (gA kd O m).2.1, max 1 (min 99 (gA kd O m).2.2))
/-- what a clause tells: its SUM (1 where it has none), or BROKEN where it doesn't hold -/
def oC (s t e vs vt : Int) : Int := if t < e ∧ vt ≠ 1 then rB else if s < t then vs else 1
theorem bC_16 {x : Nat} : bC x ≤ 16 := sN_le _ _
theorem vi_bor {a b : Bool} : vi_or32 (vi_b a) (vi_b b) = vi_b (a || b) := by cases a <;> cases b <;> decide
theorem vi_bor1 {a : Bool} : vi_or32 (vi_b a) 1 = vi_b (a || true) := by cases a <;> decide
theorem vi_bor0 {a : Bool} : vi_or32 (vi_b a) 0 = vi_b (a || false) := by cases a <;> decide
section
variable {d p ls lc : Nat} {K : Option vi_V → vi_W → Prop} {Y : vi_Y} {M : vi_M} {n : Nat × Nat}
theorem k_74 (hL : kLw Y p ls lc) (h1 : Y.1 30 = 22) (hb : gB (M 30 8) (M 30 9) (M 30 10)) {c h : Int} (hc : 0 ≤ c ∧ c < 216) : ∃ f1 : Nat → Int, (∀ k, 1 ≤ k → k < 7 → f1 k = lWd (M 30) c h k) ∧ ∀ K : Option vi_V → vi_W → Prop, vi_call GG (d + 3) 74 [.inr (.inr (p + 2)), .inr (.inr 30), .inl c, .inl h] (Y, M, n) K ↔ K none (Y, vi_rs M (p + 3) f1, n) := by
  have hp := hL.1
  have a1 := hL.2.1
  have hg := gSd_r (x := M 30 8) (y := M 30 9) (z := M 30 10) (c := c)
  have k356 := fun {K : Option vi_V → vi_W → Prop} {w : vi_W} => @k_356 (d + 1) K w (gSd (M 30 8) (M 30 9) (M 30 10) c).toNat (by omega)
  rw [Int.toNat_of_nonneg hg.1] at k356
  have hbC : sN 16 (fun i => (gSd (M 30 8) (M 30 9) (M 30 10) c).toNat.testBit i) = bC (gSd (M 30 8) (M 30 9) (M 30 10) c).toNat := rfl
  rw [hbC] at k356
  have m30 : ∀ g, vi_rs M (p + 3) g 30 = M 30 := fun g => vi_rs_o (by omega)
  have k55 := fun {K : Option vi_V → vi_W → Prop} {g : Nat → Int} => @k_55 d 30 K Y (vi_rs M (p + 3) g) n h1 (by rw [m30]; exact hb) c hc
  simp only [m30] at k55
  have S := fun {K : Option vi_V → vi_W → Prop} {M : vi_M} (k : Nat) (x : Int) (hk : k < 7) => @k_75 (d + 1) p ls lc K Y M n hL k x hk
  have S1 := fun {K : Option vi_V → vi_W → Prop} {M : vi_M} {x : Int} => @S K M 1 x (by omega)
  have S2 := fun {K : Option vi_V → vi_W → Prop} {M : vi_M} {x : Int} => @S K M 2 x (by omega)
  have S3 := fun {K : Option vi_V → vi_W → Prop} {M : vi_M} {x : Int} => @S K M 3 x (by omega)
  have S4 := fun {K : Option vi_V → vi_W → Prop} {M : vi_M} {x : Int} => @S K M 4 x (by omega)
  have S5 := fun {K : Option vi_V → vi_W → Prop} {M : vi_M} {x : Int} => @S K M 5 x (by omega)
  have S6 := fun {K : Option vi_V → vi_W → Prop} {M : vi_M} {x : Int} => @S K M 6 x (by omega)
  rw [show ((1 : Nat) : Int) = 1 from rfl] at S1
  rw [show ((2 : Nat) : Int) = 2 from rfl] at S2
  rw [show ((3 : Nat) : Int) = 3 from rfl] at S3
  rw [show ((4 : Nat) : Int) = 4 from rfl] at S4
  rw [show ((5 : Nat) : Int) = 5 from rfl] at S5
  rw [show ((6 : Nat) : Int) = 6 from rfl] at S6
  simp only [Nat.add_assoc, Nat.reduceAdd] at S1 S2 S3 S4 S5 S6 k356 k55
  refine ⟨vi_u (vi_u (vi_u (vi_u (vi_u (vi_u (M (p + 3)) 1 (c % 6)) 2 (c / 6 % 6)) 3 (c / 36)) 4 h) 5 ((bC (gSd (M 30 8) (M 30 9) (M 30 10) c).toNat : Nat) : Int)) 6 (M 30 11), fun k h1 h2 => ?_, fun K => vi_k (r := none) fun Q hQ => ?_⟩
  · unfold vi_u lWd
    obtain rfl | rfl | rfl | rfl | rfl | rfl : k = 1 ∨ k = 2 ∨ k = 3 ∨ k = 4 ∨ k = 5 ∨ k = 6 := by omega
    all_goals rfl
  · simp (disch := omega) only [Option.toList_some, Option.toList_none, List.nil_append, List.cons_append, List.append_nil, true_and, and_true, not_true_eq_false, not_false_eq_true, true_implies, false_implies, implies_true, and_self, Int.reduceLT, Int.reduceLE, Int.reduceEq, Int.reduceNe, Int.reduceAdd, Int.reduceSub, Int.reduceMul, Int.reduceNeg, Int.reduceToNat, Int.toNat_natCast, ↓kk_ck, ↓kk_im, ↓kk_in, e_74, s_74_0, s_74_9, s_74_21, s_74_30, s_74_36, s_74_43, s_74_46, s_74_49, s_74_56, s_74_59, a1, h1, S1, S2, S3, S4, vi_rs_s, vi_rs_rs, vi_td, vi_tm, vi_32, k55, k356, S5, S6, e_47, s_47_0, s_47_4, m30]
    exact hQ
theorem k_73 (hL : kLw Y p ls lc) (hls : ls ≤ 400) (hlc : lc ≤ 48) (hst : ∀ i, 0 ≤ M p i ∧ M p i < 2147483648) (hW : ∀ k, 1 ≤ k → k < 7 → 0 ≤ M (p + 3) k ∧ M (p + 3) k ≤ 1000) {j s t e : Nat} (hj : 4 * j + 3 < lc) (h1 : M (p + 1) (4 * j + 1) = (s : Int)) (h2 : M (p + 1) (4 * j + 2) = (t : Int)) (h3 : M (p + 1) (4 * j + 3) = (e : Int)) (hse : s ≤ t ∧ t ≤ e ∧ e ≤ ls) {vs vt : Int}
    (hvs : s < t → ∀ g, rS (M p) (M (p + 3)) (t - s) s (s : Int) 0 g = vs) (hvt : t < e → ∀ g, rS (M p) (M (p + 3)) (e - t) t (t : Int) 0 g = vt) : ∃ g : Nat → Int, ∀ K : Option vi_V → vi_W → Prop, vi_call GG (d + 3) 73 [.inr (.inr (p + 2)), .inl (j : Int)] (Y, M, n) K ↔ K (some (.inr (.inl (oC (s : Int) (t : Int) (e : Int) vs vt)))) (Y, vi_rs M (p + 4) g, n) := by
  have hp := hL.1
  have a1 := hL.2.1
  have C1 := fun {K : Option vi_V → vi_W → Prop} => @k_76 (d + 1) p ls lc K Y M n hL j 1 (by omega) hlc
  have C2 := fun {K : Option vi_V → vi_W → Prop} => @k_76 (d + 1) p ls lc K Y M n hL j 2 (by omega) hlc
  have C3 := fun {K : Option vi_V → vi_W → Prop} => @k_76 (d + 1) p ls lc K Y M n hL j 3 (by omega) hlc
  rw [h1, show ((1 : Nat) : Int) = 1 from rfl] at C1
  rw [h2, show ((2 : Nat) : Int) = 2 from rfl] at C2
  rw [h3, show ((3 : Nat) : Int) = 3 from rfl] at C3
  obtain ⟨g1, k1⟩ := k_77 (d := d) (n := n) hL hls (fr := t) (to := e) (by omega) (by omega) hst hW
  have m3 : ∀ g, vi_rs M (p + 4) g (p + 3) = M (p + 3) := fun g => vi_rs_o (by omega)
  have m0 : ∀ g, vi_rs M (p + 4) g p = M p := fun g => vi_rs_o (by omega)
  by_cases hte : t < e
  · rw [hvt hte] at k1
    by_cases hv : vt = 1
    · by_cases hst2 : s < t
      · obtain ⟨g2, k2⟩ := k_77 (d := d) (n := n) (M := vi_rs M (p + 4) g1) hL hls (fr := s) (to := t) (by omega) (by omega) (by rw [m0]; exact hst) (by rw [m3]; exact hW)
        rw [m0, m3, hvs hst2, vi_rs_rs] at k2
        refine ⟨g2, fun K => vi_k (r := some (.inr (.inl _))) fun Q hQ => ?_⟩
        unfold oC at hQ
        rw [if_neg (fun k => k.2 hv), if_pos (by omega)] at hQ
        simp (disch := omega) only [Option.toList_some, Option.toList_none, List.nil_append, List.cons_append, List.append_nil, true_and, and_true, not_true_eq_false, not_false_eq_true, true_implies, false_implies, implies_true, and_self, Int.reduceLT, Int.reduceLE, Int.reduceEq, Int.reduceNe, Int.reduceAdd, Int.reduceSub, Int.reduceMul, Int.reduceNeg, Int.reduceToNat, Int.toNat_natCast, ↓kk_ck, ↓kk_im, ↓kk_in, e_73, s_73_0, s_73_28, s_73_40, s_73_44, s_73_49, s_73_58, s_73_59, s_73_6, s_73_35, s_73_55, s_73_13, s_73_37, s_73_20, a1, C1, C2, C3, k1, k2, vi_cm0, hv]
        exact hQ
      · refine ⟨g1, fun K => vi_k (r := some (.inr (.inl _))) fun Q hQ => ?_⟩
        unfold oC at hQ
        rw [if_neg (fun k => k.2 hv), if_neg (by omega)] at hQ
        simp (disch := omega) only [Option.toList_some, Option.toList_none, List.nil_append, List.cons_append, List.append_nil, true_and, and_true, not_true_eq_false, not_false_eq_true, true_implies, false_implies, implies_true, and_self, Int.reduceLT, Int.reduceLE, Int.reduceEq, Int.reduceNe, Int.reduceAdd, Int.reduceSub, Int.reduceMul, Int.reduceNeg, Int.reduceToNat, Int.toNat_natCast, ↓kk_ck, ↓kk_im, ↓kk_in, e_73, s_73_0, s_73_28, s_73_40, s_73_44, s_73_49, s_73_58, s_73_59, s_73_6, s_73_35, s_73_55, s_73_13, s_73_37, s_73_20, a1, C1, C2, C3, k1, vi_cm0, hv]
        exact hQ
    · refine ⟨g1, fun K => vi_k (r := some (.inr (.inl _))) fun Q hQ => ?_⟩
      unfold oC at hQ
      rw [if_pos ⟨by omega, hv⟩] at hQ
      simp (disch := omega) only [Option.toList_some, Option.toList_none, List.nil_append, List.cons_append, List.append_nil, true_and, and_true, not_true_eq_false, not_false_eq_true, true_implies, false_implies, implies_true, and_self, Int.reduceLT, Int.reduceLE, Int.reduceEq, Int.reduceNe, Int.reduceAdd, Int.reduceSub, Int.reduceMul, Int.reduceNeg, Int.reduceToNat, Int.toNat_natCast, ↓kk_ck, ↓kk_im, ↓kk_in, e_73, s_73_0, s_73_28, s_73_40, s_73_44, s_73_49, s_73_58, s_73_59, s_73_6, s_73_35, s_73_55, s_73_13, s_73_37, s_73_20, a1, C1, C2, C3, k1, vi_cm0, hv]
      exact hQ
  · by_cases hst2 : s < t
    · obtain ⟨g2, k2⟩ := k_77 (d := d) (n := n) hL hls (fr := s) (to := t) (by omega) (by omega) hst hW
      rw [hvs hst2] at k2
      refine ⟨g2, fun K => vi_k (r := some (.inr (.inl _))) fun Q hQ => ?_⟩
      unfold oC at hQ
      rw [if_neg (by omega), if_pos (by omega)] at hQ
      simp (disch := omega) only [Option.toList_some, Option.toList_none, List.nil_append, List.cons_append, List.append_nil, true_and, and_true, not_true_eq_false, not_false_eq_true, true_implies, false_implies, implies_true, and_self, Int.reduceLT, Int.reduceLE, Int.reduceEq, Int.reduceNe, Int.reduceAdd, Int.reduceSub, Int.reduceMul, Int.reduceNeg, Int.reduceToNat, Int.toNat_natCast, ↓kk_ck, ↓kk_im, ↓kk_in, e_73, s_73_0, s_73_28, s_73_40, s_73_44, s_73_49, s_73_58, s_73_59, s_73_6, s_73_35, s_73_55, s_73_13, s_73_37, s_73_20, a1, C1, C2, C3, k2]
      exact hQ
    · refine ⟨M (p + 4), fun K => vi_k (r := some (.inr (.inl _))) fun Q hQ => ?_⟩
      unfold oC at hQ
      rw [if_neg (by omega), if_neg (by omega), vi_rs_id rfl] at hQ
      simp (disch := omega) only [Option.toList_some, Option.toList_none, List.nil_append, List.cons_append, List.append_nil, true_and, and_true, not_true_eq_false, not_false_eq_true, true_implies, false_implies, implies_true, and_self, Int.reduceLT, Int.reduceLE, Int.reduceEq, Int.reduceNe, Int.reduceAdd, Int.reduceSub, Int.reduceMul, Int.reduceNeg, Int.reduceToNat, Int.toNat_natCast, ↓kk_ck, ↓kk_im, ↓kk_in, e_73, s_73_0, s_73_28, s_73_40, s_73_44, s_73_49, s_73_58, s_73_59, s_73_6, s_73_35, s_73_55, s_73_13, s_73_37, s_73_20, a1, C1, C2, C3]
      exact hQ
/-- a clause's numbers: its kind, where its SUM, its TEST begin, where it ends; and what its parts tell, whatever lies on the stack -/
def lCl (st W cl : Nat → Int) (ls j : Nat) (vs vt : Int) : Prop := ∃ s t e : Nat, cl (4 * j + 1) = (s : Int) ∧ cl (4 * j + 2) = (t : Int) ∧ cl (4 * j + 3) = (e : Int) ∧ (s ≤ t ∧ t ≤ e ∧ e ≤ ls) ∧ (s < t → ∀ g, rS st W (t - s) s (s : Int) 0 g = vs) ∧ (t < e → ∀ g, rS st W (e - t) t (t : Int) 0 g = vt)
/-- a clause's outcome -/
def lO (cl : Nat → Int) (vs vt : Nat → Int) (j : Nat) : Int := oC (cl (4 * j + 1)) (cl (4 * j + 2)) (cl (4 * j + 3)) (vs j) (vt j)
theorem k_69 (hL : kLw Y p ls lc) (hls : ls ≤ 400) {m : Nat} (hlc : lc = 4 * m) (hm : m ≤ 12) (h30 : Y.1 30 = 22) (hb : gB (M 30 8) (M 30 9) (M 30 10)) (hday : 0 ≤ M 30 11 ∧ M 30 11 ≤ 99) (hst : ∀ i, 0 ≤ M p i ∧ M p i < 2147483648) {c h : Int} (hc : 0 ≤ c ∧ c < 216) (hh : 0 ≤ h ∧ h ≤ 96) {vs vt : Nat → Int} (hcl : ∀ j, j < m → lCl (M p) (lWd (M 30) c h) (M (p + 1)) ls j (vs j) (vt j)) (hkd : ∀ j, j < m → 0 ≤ M (p + 1) (4 * j) ∧ M (p + 1) (4 * j) ≤ 2) :
    ∃ f1 f2 f3 : Nat → Int, f3 4 = vi_b (gAk (fun j => M (p + 1) (4 * j)) (lO (M (p + 1)) vs vt) m).1 ∧ f3 5 = vi_b (gAk (fun j => M (p + 1) (4 * j)) (lO (M (p + 1)) vs vt) m).2.1 ∧ f3 6 = (gAk (fun j => M (p + 1) (4 * j)) (lO (M (p + 1)) vs vt) m).2.2 ∧
      ∀ K : Option vi_V → vi_W → Prop, vi_call GG (d + 10) 69 [.inr (.inr (p + 2)), .inr (.inr 30), .inl c, .inl h] (Y, M, n) K ↔ K none (Y, vi_rs (vi_rs (vi_rs M (p + 3) f1) (p + 4) f2) (p + 2) f3, n) := by
  have hL' := hL
  obtain ⟨hp, a1, a2, a3, a4, a5, a6, a7, a8, a9, b1, b2, b3, b4⟩ := hL
  obtain ⟨f1, hf1, k74⟩ := k_74 (d := d + 6) (n := n) (h := h) hL' h30 hb hc
  simp only [Nat.add_assoc, Nat.reduceAdd] at k74
  generalize hkk : (fun j => M (p + 1) (4 * j)) = kd at *
  generalize hOO : lO (M (p + 1)) vs vt = O at *
  have hW : ∀ k, 1 ≤ k → k < 7 → 0 ≤ f1 k ∧ f1 k ≤ 1000 := fun k k1 k2 => by
    rw [hf1 k k1 k2]
    have := bC_16 (x := (gSd (M 30 8) (M 30 9) (M 30 10) c).toNat)
    obtain rfl | rfl | rfl | rfl | rfl | rfl : k = 1 ∨ k = 2 ∨ k = 3 ∨ k = 4 ∨ k = 5 ∨ k = 6 := by omega
    · show 0 ≤ c % 6 ∧ c % 6 ≤ 1000; omega
    · show 0 ≤ c / 6 % 6 ∧ c / 6 % 6 ≤ 1000; omega
    · show 0 ≤ c / 36 ∧ c / 36 ≤ 1000; omega
    · show 0 ≤ h ∧ h ≤ 1000; omega
    · show 0 ≤ ((bC (gSd (M 30 8) (M 30 9) (M 30 10) c).toNat : Nat) : Int) ∧ ((bC (gSd (M 30 8) (M 30 9) (M 30 10) c).toNat : Nat) : Int) ≤ 1000; omega
    · show 0 ≤ M 30 11 ∧ M 30 11 ≤ 1000; omega
  have hrW : ∀ k a o hh g, rS (M p) f1 k a o hh g = rS (M p) (lWd (M 30) c h) k a o hh g := rS_W hf1 (fun a => (hst a).1)
  have key : ∀ Q : Option vi_V → vi_W → Prop, (∀ f2 f3 : Nat → Int, f3 4 = vi_b (gAk kd O m).1 → f3 5 = vi_b (gAk kd O m).2.1 → f3 6 = (gAk kd O m).2.2 → Q none (Y, vi_rs (vi_rs (vi_rs M (p + 3) f1) (p + 4) f2) (p + 2) f3, n)) → vi_call GG (d + 10) 69 [.inr (.inr (p + 2)), .inr (.inr 30), .inl c, .inl h] (Y, M, n) Q := by
    intro Q hQ
    have loop : ∀ j : Nat, j ≤ m → ∀ (f2 f3 : Nat → Int) (l7 l8 l9 : Option vi_V), f3 4 = vi_b (gA kd O j).1 → f3 5 = vi_b (gA kd O j).2.1 → vi_ok GG (d + 9) 69 23 [some (.inr (.inr (p + 2))), some (.inr (.inr 30)), some (.inl c), some (.inl h), some (.inr (.inl (gA kd O j).2.2)), none, some (.inl (j : Int)), l7, l8, l9] [] (Y, vi_rs (vi_rs (vi_rs M (p + 3) f1) (p + 4) f2) (p + 2) f3, n) Q := by
      have q2 : ∀ f2 f3, vi_rs (vi_rs (vi_rs M (p + 3) f1) (p + 4) f2) (p + 2) f3 (p + 2) = f3 := fun f2 f3 => vi_rs_s
      have q1 : ∀ f2 f3, vi_rs (vi_rs (vi_rs M (p + 3) f1) (p + 4) f2) (p + 2) f3 (p + 1) = M (p + 1) := fun f2 f3 => by rw [vi_rs_o (by omega), vi_rs_o (by omega), vi_rs_o (by omega)]
      have q0 : ∀ f2 f3, vi_rs (vi_rs (vi_rs M (p + 3) f1) (p + 4) f2) (p + 2) f3 p = M p := fun f2 f3 => by rw [vi_rs_o (by omega), vi_rs_o (by omega), vi_rs_o (by omega)]
      have q3 : ∀ f2 f3, vi_rs (vi_rs (vi_rs M (p + 3) f1) (p + 4) f2) (p + 2) f3 (p + 3) = f1 := fun f2 f3 => by rw [vi_rs_o (by omega), vi_rs_o (by omega), vi_rs_s]
      have q4 : ∀ f2 f3 g, vi_rs (vi_rs (vi_rs (vi_rs M (p + 3) f1) (p + 4) f2) (p + 2) f3) (p + 4) g = vi_rs (vi_rs (vi_rs M (p + 3) f1) (p + 4) g) (p + 2) f3 := fun f2 f3 g => by rw [vi_rs_cm (p := p + 2) (q := p + 4) (by omega), vi_rs_rs]
      refine vi_dn m ?_ fun j hj ih => ?_
      · intro f2 f3 l7 l8 l9 h4 h5
        have := hQ f2 (vi_u f3 6 (max 1 (min 99 (gA kd O m).2.2))) h4 h5 rfl
        generalize (gA kd O m).2.2 = t at *
        rw [s_69_23]
        clear hQ hst hcl hkd hW hrW hf1
        simp (disch := omega) only [Option.toList_some, Option.toList_none, List.nil_append, List.cons_append, List.append_nil, true_and, and_true, not_true_eq_false, not_false_eq_true, true_implies, false_implies, implies_true, and_self, Int.reduceLT, Int.reduceLE, Int.reduceEq, Int.reduceNe, Int.reduceAdd, Int.reduceSub, Int.reduceMul, Int.reduceNeg, Int.reduceToNat, Int.toNat_natCast, ↓kk_ck, ↓kk_im, ↓kk_in, s_69_0, s_69_35, s_69_61, s_69_72, s_69_76, s_69_77, s_69_92, s_69_96, s_69_97, s_69_106, s_69_111, s_69_113, s_69_115, s_69_121, s_69_7, s_69_31, s_69_41, s_69_66, s_69_81, s_69_101, s_69_131, s_69_12, s_69_32, s_69_50, s_69_86, s_69_134, s_69_17, s_69_58, s_69_138, a1, vi_32, a5, a6, a7, k_361, k_359, vi_ms_rs, vi_rs_s, vi_rs_rs]
        exact this
      · intro f2 f3 l7 l8 l9 h4 h5
        obtain ⟨s, t, e, c1, c2, c3, c4, c5, c6⟩ := hcl j hj
        have hkj := hkd j hj
        obtain ⟨g, k73⟩ := k_73 (d := d + 6) (n := n) (M := vi_rs (vi_rs (vi_rs M (p + 3) f1) (p + 4) f2) (p + 2) f3) hL' hls (by omega) (by rw [q0]; exact hst) (by rw [q3]; exact hW) (j := j) (s := s) (t := t) (e := e) (by omega) (by rw [q1]; exact c1) (by rw [q1]; exact c2) (by rw [q1]; exact c3) c4 (vs := vs j) (vt := vt j) (fun h => by rw [q0, q3]; intro g; rw [hrW]; exact c5 h g) (fun h => by rw [q0, q3]; intro g; rw [hrW]; exact c6 h g)
        rw [q4] at k73
        have eO : oC (s : Int) (t : Int) (e : Int) (vs j) (vt j) = O j := by rw [← hOO]; unfold lO; rw [c1, c2, c3]
        rw [eO] at k73
        have k76 := fun {K : Option vi_V → vi_W → Prop} {f2 f3 : Nat → Int} => @k_76 (d + 8) p ls lc K Y (vi_rs (vi_rs (vi_rs M (p + 3) f1) (p + 4) f2) (p + 2) f3) n hL' j 0 (by omega) (by omega)
        simp only [q1, Nat.add_zero, show ((0 : Nat) : Int) = 0 from rfl, Nat.add_assoc, Nat.reduceAdd] at k76 k73
        have ek : M (p + 1) (4 * j) = kd j := by rw [← hkk]
        rw [ek] at k76 hkj
        rw [gA] at ih
        rw [s_69_23]
        clear hQ hst hcl hkd hW hrW hf1 c5 c6 eO
        generalize hoj : O j = oj at *
        by_cases hr : oj = rB
        · rw [if_pos hr] at ih
          have := ih g f3 (some (.inr (.inl oj))) none (some (.inl (kd j))) h4 h5
          clear ih
          simp (disch := omega) only [Option.toList_some, Option.toList_none, List.nil_append, List.cons_append, List.append_nil, true_and, and_true, not_true_eq_false, not_false_eq_true, true_implies, false_implies, implies_true, and_self, Int.reduceLT, Int.reduceLE, Int.reduceEq, Int.reduceNe, Int.reduceAdd, Int.reduceSub, Int.reduceMul, Int.reduceNeg, Int.reduceToNat, Int.toNat_natCast, ↓kk_ck, ↓kk_im, ↓kk_in, s_69_0, s_69_35, s_69_61, s_69_72, s_69_76, s_69_77, s_69_92, s_69_96, s_69_97, s_69_106, s_69_111, s_69_113, s_69_115, s_69_121, s_69_7, s_69_31, s_69_41, s_69_66, s_69_81, s_69_101, s_69_131, s_69_12, s_69_32, s_69_50, s_69_86, s_69_134, s_69_17, s_69_58, s_69_138, a1, vi_32, a5, a6, a7, k73, k76, vi_cm0, hr, vi_inc]
          rw [hr] at this
          exact this
        · rw [if_neg hr] at ih
          generalize (gA kd O j).2.2 = told at *
          generalize (gA kd O j).1 = tk at *
          generalize (gA kd O j).2.1 = sh at *
          dsimp only at ih
          have U4 : ∀ v, vi_u f3 4 v 5 = f3 5 := fun v => rfl
          obtain hk0 | hk1 | hk2 : kd j = 0 ∨ kd j = 1 ∨ kd j = 2 := by omega
          · rw [hk0] at ih
            simp only [if_pos, decide_eq_false (show ¬ ((0 : Int) = 1) by decide), decide_eq_false (show ¬ ((0 : Int) = 2) by decide)] at ih
            have := ih g (vi_u (vi_u f3 4 (vi_b (tk || false))) 5 (vi_b (sh || false))) (some (.inr (.inl oj))) none (some (.inl (kd j))) rfl rfl
            clear ih
            simp (disch := omega) only [Option.toList_some, Option.toList_none, List.nil_append, List.cons_append, List.append_nil, true_and, and_true, not_true_eq_false, not_false_eq_true, true_implies, false_implies, implies_true, and_self, Int.reduceLT, Int.reduceLE, Int.reduceEq, Int.reduceNe, Int.reduceAdd, Int.reduceSub, Int.reduceMul, Int.reduceNeg, Int.reduceToNat, Int.toNat_natCast, ↓kk_ck, ↓kk_im, ↓kk_in, s_69_0, s_69_35, s_69_61, s_69_72, s_69_76, s_69_77, s_69_92, s_69_96, s_69_97, s_69_106, s_69_111, s_69_113, s_69_115, s_69_121, s_69_7, s_69_31, s_69_41, s_69_66, s_69_81, s_69_101, s_69_131, s_69_12, s_69_32, s_69_50, s_69_86, s_69_134, s_69_17, s_69_58, s_69_138, a1, vi_32, a5, a6, a7, k73, k76, vi_cm0, hr, hk0, ne_eq, q2, h4, h5, U4, vi_bor0, vi_ms_rs, vi_rs_rs, vi_b02, vi_inc]
            rw [hk0] at this
            exact this
          · rw [hk1] at ih
            simp only [if_neg (show ¬ ((1 : Int) = 0) by decide), decide_eq_true (show (1 : Int) = 1 from rfl), decide_eq_false (show ¬ ((1 : Int) = 2) by decide)] at ih
            have := ih g (vi_u (vi_u f3 4 (vi_b (tk || true))) 5 (vi_b (sh || false))) (some (.inr (.inl oj))) none (some (.inl (kd j))) rfl rfl
            clear ih
            simp (disch := omega) only [Option.toList_some, Option.toList_none, List.nil_append, List.cons_append, List.append_nil, true_and, and_true, not_true_eq_false, not_false_eq_true, true_implies, false_implies, implies_true, and_self, Int.reduceLT, Int.reduceLE, Int.reduceEq, Int.reduceNe, Int.reduceAdd, Int.reduceSub, Int.reduceMul, Int.reduceNeg, Int.reduceToNat, Int.toNat_natCast, ↓kk_ck, ↓kk_im, ↓kk_in, s_69_0, s_69_35, s_69_61, s_69_72, s_69_76, s_69_77, s_69_92, s_69_96, s_69_97, s_69_106, s_69_111, s_69_113, s_69_115, s_69_121, s_69_7, s_69_31, s_69_41, s_69_66, s_69_81, s_69_101, s_69_131, s_69_12, s_69_32, s_69_50, s_69_86, s_69_134, s_69_17, s_69_58, s_69_138, a1, vi_32, a5, a6, a7, k73, k76, vi_cm0, hr, hk1, ne_eq, q2, h4, h5, U4, vi_bor0, vi_bor1, vi_ms_rs, vi_rs_rs, vi_b02, vi_inc]
            rw [hk1] at this
            exact this
          · rw [hk2] at ih
            simp only [if_neg (show ¬ ((2 : Int) = 0) by decide), decide_eq_true (show (2 : Int) = 2 from rfl), decide_eq_false (show ¬ ((2 : Int) = 1) by decide)] at ih
            have := ih g (vi_u (vi_u f3 4 (vi_b (tk || false))) 5 (vi_b (sh || true))) (some (.inr (.inl oj))) none (some (.inl (kd j))) rfl rfl
            clear ih
            simp (disch := omega) only [Option.toList_some, Option.toList_none, List.nil_append, List.cons_append, List.append_nil, true_and, and_true, not_true_eq_false, not_false_eq_true, true_implies, false_implies, implies_true, and_self, Int.reduceLT, Int.reduceLE, Int.reduceEq, Int.reduceNe, Int.reduceAdd, Int.reduceSub, Int.reduceMul, Int.reduceNeg, Int.reduceToNat, Int.toNat_natCast, ↓kk_ck, ↓kk_im, ↓kk_in, s_69_0, s_69_35, s_69_61, s_69_72, s_69_76, s_69_77, s_69_92, s_69_96, s_69_97, s_69_106, s_69_111, s_69_113, s_69_115, s_69_121, s_69_7, s_69_31, s_69_41, s_69_66, s_69_81, s_69_101, s_69_131, s_69_12, s_69_32, s_69_50, s_69_86, s_69_134, s_69_17, s_69_58, s_69_138, a1, vi_32, a5, a6, a7, k73, k76, vi_cm0, hr, hk2, ne_eq, q2, h4, h5, U4, vi_bor0, vi_bor1, vi_ms_rs, vi_rs_rs, vi_b02, vi_inc]
            rw [hk2] at this
            exact this
    have := loop 0 (by omega) (M (p + 4)) (vi_u (vi_u (M (p + 2)) 4 0) 5 0) none none none rfl rfl
    rw [show (gA kd O 0).2.2 = 1 from rfl, show ((0 : Nat) : Int) = 0 from rfl] at this
    have em : vi_rs (vi_rs M (p + 3) f1) (p + 4) (M (p + 4)) = vi_rs M (p + 3) f1 := vi_rs_id (vi_rs_o (by omega))
    rw [em] at this
    have e2 : vi_rs M (p + 3) f1 (p + 2) = M (p + 2) := vi_rs_o (by omega)
    clear loop hQ hst hcl hkd hW hrW hf1
    simp (disch := omega) only [Option.toList_some, Option.toList_none, List.nil_append, List.cons_append, List.append_nil, true_and, and_true, not_true_eq_false, not_false_eq_true, true_implies, false_implies, implies_true, and_self, Int.reduceLT, Int.reduceLE, Int.reduceEq, Int.reduceNe, Int.reduceAdd, Int.reduceSub, Int.reduceMul, Int.reduceNeg, Int.reduceToNat, Int.toNat_natCast, ↓kk_ck, ↓kk_im, ↓kk_in, e_69, s_69_0, a1, k74, s_69_7, s_69_12, s_69_17, vi_ms_rs, vi_rs_s, vi_rs_rs, e2]
    exact this
  obtain ⟨r, w, ⟨f2, f3, e1, e2, e3, rfl, rfl⟩, hK⟩ := vi_kx (key (fun r w => ∃ f2 f3 : Nat → Int, f3 4 = vi_b (gAk kd O m).1 ∧ f3 5 = vi_b (gAk kd O m).2.1 ∧ f3 6 = (gAk kd O m).2.2 ∧ r = none ∧ w = (Y, vi_rs (vi_rs (vi_rs M (p + 3) f1) (p + 4) f2) (p + 2) f3, n)) (fun f2 f3 e1 e2 e3 => ⟨f2, f3, e1, e2, e3, rfl, rfl⟩))
  exact ⟨f1, f2, f3, e1, e2, e3, hK⟩
/-- a law whose steps tell G is asked so -/
theorem lOK_of (hL : kLw Y p ls lc) (hls : ls ≤ 400) {m : Nat} (hlc : lc = 4 * m) (hm : m ≤ 12) (h30 : Y.1 30 = 22) {f fs fc : Nat → Int} (hb : gB (f 8) (f 9) (f 10)) (hday : 0 ≤ f 11 ∧ f 11 ≤ 99) (hst : ∀ i, 0 ≤ fs i ∧ fs i < 2147483648) (hkd : ∀ j, j < m → 0 ≤ fc (4 * j) ∧ fc (4 * j) ≤ 2) {vs vt : Int → Int → Nat → Int}
    (hcl : ∀ c h : Int, 0 ≤ c → c < 216 → 0 ≤ h → h ≤ 96 → ∀ j, j < m → lCl fs (lWd f c h) fc ls j (vs c h j) (vt c h j)) : lOK Y (p + 2) f fs fc (fun c h => gAk (fun j => fc (4 * j)) (lO fc (vs c h) (vt c h)) m) := by
  refine ⟨hL.2.1, by have := hL.1; omega, fun c h _ _ _ _ => by unfold gAk; dsimp only; omega, fun d M n c h e1 e2 e3 c0 c1 h0 h1 => ?_⟩
  rw [show p + 2 - 2 = p by omega] at e2
  rw [show p + 2 - 1 = p + 1 by omega] at e3
  subst e1 e2 e3
  obtain ⟨f1, f2, f3, g1, g2, g3, hK⟩ := k_69 (d := d) (n := n) hL hls hlc hm h30 hb hday hst ⟨c0, c1⟩ ⟨h0, h1⟩ (hcl c h c0 c1 h0 h1) hkd
  exact ⟨f1, f2, f3, g1, g2, g3, hK⟩
end
