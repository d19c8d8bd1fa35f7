/-! Contracts of Paths, a WIRE. -/
def uL (P : Nat → Bool) : Nat → Int
  | 0 => 0
  | k + 1 => uL P k + (if P k = true then (if (k % 6 + k / 6 % 6 + k / 36) % 2 = 0 then 1 else -1) else 0)
theorem uL_r {P : Nat → Bool} : ∀ k : Nat, -(k : Int) ≤ uL P k ∧ uL P k ≤ (k : Int)
  | 0 => by simp [uL]
  | k + 1 => by
    have := uL_r (P := P) k
    rw [uL]
    split <;> (try split) <;> omega
noncomputable def gBar (P : Nat → Bool) : Bool := decide (1 < uL P 216) || decide (uL P 216 < -1) || decide (1 < sPc 216 P)
/-- of the ways from w on, k of them, the first that goes on -/
def wF (g : Nat → Option (List Nat)) (S : Nat → Bool) (c : Nat) : Nat → Nat → Option (List Nat)
  | 0, _ => none
  | k + 1, w => if sHas S (sNb c w) = true then (match g (sNb c w).toNat with
    | some l => some l
    | none => wF g S c k (w + 1)) else wF g S c k (w + 1)
/-- the first wire from c through r cells of S -/
def wG : Nat → (Nat → Bool) → Nat → Option (List Nat)
  | 0, _, _ => none
  | r + 1, S, c => if r = 0 then some [c] else (wF (wG r (sDrp S (c : Int))) (sDrp S (c : Int)) c 6 0).map (fun l => c :: l)
def wA (m : Nat) (P : Nat → Bool) : Nat → Nat → Option (List Nat)
  | 0, _ => none
  | k + 1, c => if P c = true then (match wG m P c with
    | some l => some l
    | none => wA m P k (c + 1)) else wA m P k (c + 1)
def gWr (P : Nat → Bool) : Option (List Nat) := if sN 216 P = 0 then some [] else wA (sN 216 P) P 216 0
theorem wF_len {g : Nat → Option (List Nat)} {S : Nat → Bool} {c r : Nat} (h : ∀ b l, g b = some l → l.length = r) : ∀ (k w : Nat) (l : List Nat), wF g S c k w = some l → l.length = r
  | 0, _, _, e => by cases e
  | k + 1, w, l, e => by
    rw [wF] at e
    split at e
    · split at e
      · rename_i hg
        cases e
        exact h _ _ hg
      · exact wF_len h k (w + 1) l e
    · exact wF_len h k (w + 1) l e
theorem wG_len : ∀ (r : Nat) (S : Nat → Bool) (c : Nat) (l : List Nat), wG r S c = some l → l.length = r
  | 0, _, _, _, e => by cases e
  | r + 1, S, c, l, e => by
    rw [wG] at e
    split at e
    · rename_i h0
      cases e
      rw [h0]; rfl
    · rw [Option.map_eq_some_iff] at e
      obtain ⟨l', h1, rfl⟩ := e
      rw [List.length_cons, wF_len (fun b l h => wG_len r _ b l h) 6 0 l' h1]
theorem wA_len {m : Nat} {P : Nat → Bool} : ∀ (k c : Nat) (l : List Nat), wA m P k c = some l → l.length = m
  | 0, _, _, e => by cases e
  | k + 1, c, l, e => by
    rw [wA] at e
    split at e
    · split at e
      · rename_i hg
        cases e
        exact wG_len _ _ _ _ hg
      · exact wA_len k (c + 1) l e
    · exact wA_len k (c + 1) l e
theorem gWr_len {P : Nat → Bool} {l : List Nat} (h : gWr P = some l) : l.length = sN 216 P := by
  unfold gWr at h
  split at h
  · rename_i h0
    cases h
    rw [h0]; rfl
  · exact wA_len _ _ _ h
/-- what a search for a wire leaves behind: the path from b on, and what is free -/
def wP (r : Nat) (S : Nat → Bool) (c b : Nat) (M M' : vi_M) : Prop :=
  (∀ p, p ≠ 100 → p ≠ 102 → M' p = M p) ∧ (∃ R, M' 102 = cR R) ∧ (∀ i, i < b → M' 100 i = M 100 i) ∧ (wG r S c = none → M' 102 = cR S) ∧
  (∀ l, wG r S c = some l → ∀ i, i < r → M' 100 (b + i) = ((l.getD i 0 : Nat) : Int))
section
variable {d : Nat} {Y : vi_Y} {M : vi_M} {n : Nat × Nat} {P R T S : Nat → Bool}
theorem k_97 (hY : kY Y 151) (hP : M 66 = cR P) (hR : M 70 = cR R) (hT : M 72 = cR T) : ∃ R T, ∀ K : Option vi_V → vi_W → Prop, vi_call GG (d + 6) 97 [.inr (.inr 97)] (Y, M, n) K ↔ K (some (.inl (vi_b (gBar P)))) (Y, vi_rs (vi_rs M 70 (cR R)) 72 (cR T), n) := by
  obtain ⟨a1, a2, a3, a4, a5, a6, a7⟩ := y_97 hY (by omega)
  obtain ⟨c1, c2, c3, c4, c5, c6, c7, c8, c9⟩ := y_60 hY (by omega)
  have p2 := kC_65 hY (by omega)
  have hs : ∀ c : Nat, c < 216 → sHas P (c : Int) = P c := fun c hc => by unfold sHas; rw [decide_eq_true (by omega), Bool.true_and, Int.toNat_natCast]
  have loop : ∀ Q : Option vi_V → vi_W → Prop, vi_ok GG (d + 5) 97 61 [some (.inr (.inr 97)), some (.inl (uL P 216)), some (.inl 216)] [] (Y, M, n) Q → vi_call GG (d + 6) 97 [.inr (.inr 97)] (Y, M, n) Q := by
    intro Q hQ
    have main : ∀ c : Nat, c ≤ 216 → vi_ok GG (d + 5) 97 4 [some (.inr (.inr 97)), some (.inl (uL P c)), some (.inl (c : Int))] [] (Y, M, n) Q := by
      refine vi_dn 216 ?_ fun c hc ih => ?_
      · rw [s_97_4]
        simp (disch := omega) only [Option.toList_some, Option.toList_none, List.nil_append, List.cons_append, List.append_nil, true_and, and_true, not_true_eq_false, not_false_eq_true, true_implies, false_implies, implies_true, and_self, Int.reduceLT, Int.reduceLE, Int.reduceEq, Int.reduceNe, Int.reduceAdd, Int.reduceSub, Int.reduceMul, Int.reduceNeg, Int.reduceToNat, Int.toNat_natCast, ↓kk_ck, ↓kk_im, ↓kk_in, s_97_11]
        exact hQ
      · have hu := uL_r (P := P) c
        rw [uL] at ih
        rw [s_97_4]
        cases hp : P c
        · rw [hp, if_neg (by simp), Int.add_zero] at ih
          clear hQ
          simp (disch := omega) only [Option.toList_some, Option.toList_none, List.nil_append, List.cons_append, List.append_nil, true_and, and_true, not_true_eq_false, not_false_eq_true, true_implies, false_implies, implies_true, and_self, Int.reduceLT, Int.reduceLE, Int.reduceEq, Int.reduceNe, Int.reduceAdd, Int.reduceSub, Int.reduceMul, Int.reduceNeg, Int.reduceToNat, Int.toNat_natCast, ↓kk_ck, ↓kk_im, ↓kk_in, s_97_0, s_97_11, s_97_25, s_97_48, s_97_52, s_97_53, s_97_55, s_97_61, s_97_66, s_97_71, s_97_82, s_97_86, s_97_87, s_97_15, s_97_45, s_97_75, s_97_18, s_97_78, s_97_22, a1, a2, a3, c1, c6, e_26, s_26_0, s_26_4, p2.1, k_5 p2 hP, hs c hc, hp, vi_bf, vi_inc]
          exact ih
        · rw [hp, if_pos rfl] at ih
          clear hQ
          by_cases he : (c % 6 + c / 6 % 6 + c / 36) % 2 = 0
          · rw [if_pos he] at ih
            have e : ((c : Int) % 6 + (c : Int) / 6 % 6 + (c : Int) / 36) % 2 = 0 := by omega
            simp (disch := omega) only [Option.toList_some, Option.toList_none, List.nil_append, List.cons_append, List.append_nil, true_and, and_true, not_true_eq_false, not_false_eq_true, true_implies, false_implies, implies_true, and_self, Int.reduceLT, Int.reduceLE, Int.reduceEq, Int.reduceNe, Int.reduceAdd, Int.reduceSub, Int.reduceMul, Int.reduceNeg, Int.reduceToNat, Int.toNat_natCast, ↓kk_ck, ↓kk_im, ↓kk_in, s_97_0, s_97_11, s_97_25, s_97_48, s_97_52, s_97_53, s_97_55, s_97_61, s_97_66, s_97_71, s_97_82, s_97_86, s_97_87, s_97_15, s_97_45, s_97_75, s_97_18, s_97_78, s_97_22, a1, a2, a3, c1, c6, e_26, s_26_0, s_26_4, p2.1, k_5 p2 hP, hs c hc, hp, vi_bt, vi_td, vi_tm, vi_32, ne_eq, e, vi_inc]
            exact ih
          · rw [if_neg he] at ih
            have e : ¬ ((c : Int) % 6 + (c : Int) / 6 % 6 + (c : Int) / 36) % 2 = 0 := by omega
            simp (disch := omega) only [Option.toList_some, Option.toList_none, List.nil_append, List.cons_append, List.append_nil, true_and, and_true, not_true_eq_false, not_false_eq_true, true_implies, false_implies, implies_true, and_self, Int.reduceLT, Int.reduceLE, Int.reduceEq, Int.reduceNe, Int.reduceAdd, Int.reduceSub, Int.reduceMul, Int.reduceNeg, Int.reduceToNat, Int.toNat_natCast, ↓kk_ck, ↓kk_im, ↓kk_in, s_97_0, s_97_11, s_97_25, s_97_48, s_97_52, s_97_53, s_97_55, s_97_61, s_97_66, s_97_71, s_97_82, s_97_86, s_97_87, s_97_15, s_97_45, s_97_75, s_97_18, s_97_78, s_97_22, a1, a2, a3, c1, c6, e_26, s_26_0, s_26_4, p2.1, k_5 p2 hP, hs c hc, hp, vi_bt, vi_td, vi_tm, vi_32, ne_eq, e, vi_inc]
            exact ih
    rw [e_97, s_97_0]
    exact main 0 (by omega)
  by_cases h1 : 1 < uL P 216 ∨ uL P 216 < -1
  · refine ⟨R, T, fun K => vi_k (r := some (.inl _)) fun Q hQ => loop Q ?_⟩
    have hb : gBar P = true := by
      unfold gBar
      rcases h1 with h | h
      · rw [decide_eq_true h]; rfl
      · rw [decide_eq_true h, Bool.or_true, Bool.true_or]
    rw [hb, vi_rs_id (q := 70) hR, vi_rs_id hT] at hQ
    by_cases h2 : 1 < uL P 216
    · simp (disch := omega) only [Option.toList_some, Option.toList_none, List.nil_append, List.cons_append, List.append_nil, true_and, and_true, not_true_eq_false, not_false_eq_true, true_implies, false_implies, implies_true, and_self, Int.reduceLT, Int.reduceLE, Int.reduceEq, Int.reduceNe, Int.reduceAdd, Int.reduceSub, Int.reduceMul, Int.reduceNeg, Int.reduceToNat, Int.toNat_natCast, ↓kk_ck, ↓kk_im, ↓kk_in, s_97_0, s_97_11, s_97_25, s_97_48, s_97_52, s_97_53, s_97_55, s_97_61, s_97_66, s_97_71, s_97_82, s_97_86, s_97_87, s_97_15, s_97_45, s_97_75, s_97_18, s_97_78, s_97_22]
      exact hQ
    · simp (disch := omega) only [Option.toList_some, Option.toList_none, List.nil_append, List.cons_append, List.append_nil, true_and, and_true, not_true_eq_false, not_false_eq_true, true_implies, false_implies, implies_true, and_self, Int.reduceLT, Int.reduceLE, Int.reduceEq, Int.reduceNe, Int.reduceAdd, Int.reduceSub, Int.reduceMul, Int.reduceNeg, Int.reduceToNat, Int.toNat_natCast, ↓kk_ck, ↓kk_im, ↓kk_in, s_97_0, s_97_11, s_97_25, s_97_48, s_97_52, s_97_53, s_97_55, s_97_61, s_97_66, s_97_71, s_97_82, s_97_86, s_97_87, s_97_15, s_97_45, s_97_75, s_97_18, s_97_78, s_97_22]
      exact hQ
  · obtain ⟨R', T', k35⟩ := k_35 (d := d) (n := n) (kY_le hY (by omega)) hP hR hT
    refine ⟨R', T', fun K => vi_k (r := some (.inl _)) fun Q hQ => loop Q ?_⟩
    have hb : gBar P = decide (1 < sPc 216 P) := by
      unfold gBar
      rw [decide_eq_false (fun k => h1 (.inl k)), decide_eq_false (fun k => h1 (.inr k))]
      rfl
    rw [hb] at hQ
    by_cases h2 : 1 < sPc 216 P
    · rw [decide_eq_true h2] at hQ
      simp (disch := omega) only [Option.toList_some, Option.toList_none, List.nil_append, List.cons_append, List.append_nil, true_and, and_true, not_true_eq_false, not_false_eq_true, true_implies, false_implies, implies_true, and_self, Int.reduceLT, Int.reduceLE, Int.reduceEq, Int.reduceNe, Int.reduceAdd, Int.reduceSub, Int.reduceMul, Int.reduceNeg, Int.reduceToNat, Int.toNat_natCast, ↓kk_ck, ↓kk_im, ↓kk_in, s_97_0, s_97_11, s_97_25, s_97_48, s_97_52, s_97_53, s_97_55, s_97_61, s_97_66, s_97_71, s_97_82, s_97_86, s_97_87, s_97_15, s_97_45, s_97_75, s_97_18, s_97_78, s_97_22, a1, a2, a3, c1, k35]
      exact hQ
    · rw [decide_eq_false h2] at hQ
      simp (disch := omega) only [Option.toList_some, Option.toList_none, List.nil_append, List.cons_append, List.append_nil, true_and, and_true, not_true_eq_false, not_false_eq_true, true_implies, false_implies, implies_true, and_self, Int.reduceLT, Int.reduceLE, Int.reduceEq, Int.reduceNe, Int.reduceAdd, Int.reduceSub, Int.reduceMul, Int.reduceNeg, Int.reduceToNat, Int.toNat_natCast, ↓kk_ck, ↓kk_im, ↓kk_in, s_97_0, s_97_11, s_97_25, s_97_48, s_97_52, s_97_53, s_97_55, s_97_61, s_97_66, s_97_71, s_97_82, s_97_86, s_97_87, s_97_15, s_97_45, s_97_75, s_97_18, s_97_78, s_97_22, a1, a2, a3, c1, k35]
      exact hQ
theorem k_100 (hY : kY Y 151) (m : Nat) (hm : m ≤ 14) : ∀ (r : Nat) (S : Nat → Bool) (c b D : Nat) (M : vi_M), b + r = m → 0 < r → r < D → c < 216 → S c = true → M 102 = cR S → ∃ M', wP r S c b M M' ∧ ∀ K : Option vi_V → vi_W → Prop, vi_call GG D 100 [.inr (.inr 101), .inr (.inr 100), .inl (c : Int), .inl (b : Int), .inl (m : Int)] (Y, M, n) K ↔ K (some (.inl (vi_b (wG r S c).isSome))) (Y, M', n) := by
  have p1 := kC_101 hY (by omega)
  obtain ⟨g1, g2⟩ := y_100 hY (by omega)
  intro r
  induction r with
  | zero => intro S c b D M _ h; exact absurd h (Nat.lt_irrefl 0)
  | succ r ih =>
    intro S c b D M hbr _ hD hc hSc hS
    obtain ⟨D, rfl⟩ : ∃ k, D = k + 2 := ⟨D - 2, by omega⟩
    by_cases h0 : r = 0
    · subst h0
      have e : wG (0 + 1) S c = some [c] := by rw [wG, if_pos rfl]
      refine ⟨vi_rs M 100 (vi_u (M 100) b (c : Int)), ⟨fun p h1 h2 => vi_rs_o h1, ⟨S, by rw [vi_rs_o (by omega)]; exact hS⟩, fun i hi => by rw [vi_rs_s, vi_u_o (by omega)], fun h => (by rw [e] at h; cases h), fun l h i hi => ?_⟩, fun K => vi_k (r := some (.inl _)) fun Q hQ => ?_⟩
      · rw [e] at h
        cases h
        obtain rfl : i = 0 := by omega
        rw [vi_rs_s, Nat.add_zero, vi_u_s]; rfl
      · rw [e] at hQ
        simp (disch := omega) only [Option.toList_some, Option.toList_none, List.nil_append, List.cons_append, List.append_nil, true_and, and_true, not_true_eq_false, not_false_eq_true, true_implies, false_implies, implies_true, and_self, Int.reduceLT, Int.reduceLE, Int.reduceEq, Int.reduceNe, Int.reduceAdd, Int.reduceSub, Int.reduceMul, Int.reduceNeg, Int.reduceToNat, Int.toNat_natCast, ↓kk_ck, ↓kk_im, ↓kk_in, e_100, s_100_0, s_100_4, s_100_10, s_100_16, s_100_18, s_100_30, s_100_32, s_100_47, s_100_64, s_100_79, s_100_81, s_100_87, s_100_7, s_100_22, s_100_37, s_100_53, s_100_76, s_100_92, s_100_27, s_100_61, g1, g2, vi_ms_rs, vi_inc]
        exact hQ
    · obtain ⟨E, rfl⟩ : ∃ E, D = E + 1 := ⟨D - 1, by omega⟩
      have key : ∀ Q : Option vi_V → vi_W → Prop, (∀ M', wP (r + 1) S c b M M' → Q (some (.inl (vi_b (wG (r + 1) S c).isSome))) (Y, M', n)) → vi_call GG (E + 3) 100 [.inr (.inr 101), .inr (.inr 100), .inl (c : Int), .inl (b : Int), .inl (m : Int)] (Y, M, n) Q := by
        intro Q hQ
        have eG : wG (r + 1) S c = (wF (wG r (sDrp S (c : Int))) (sDrp S (c : Int)) c 6 0).map (fun l => c :: l) := by rw [wG, if_neg h0]
        have hput : ∀ i, i < 216 → sPut (sDrp S (c : Int)) (c : Int) i = S i := fun i _ => by
          unfold sPut sDrp
          by_cases e : i = c
          · subst e; simp [hSc]
          · rw [decide_eq_false (show ¬ ((i : Int) = (c : Int)) by omega)]; simp
        have fail : wF (wG r (sDrp S (c : Int))) (sDrp S (c : Int)) c 6 0 = none → ∀ M1 : vi_M, M1 102 = cR (sDrp S (c : Int)) → (∀ i, i < b → M1 100 i = M 100 i) → (∀ p, p ≠ 100 → p ≠ 102 → M1 p = M p) → Q (some (.inl 0)) (Y, vi_rs M1 102 (cR S), n) := by
          intro hw M1 e1 e2 e4
          have eg : wG (r + 1) S c = none := by rw [eG, hw]; rfl
          have := hQ (vi_rs M1 102 (cR S)) ⟨fun p h1 h2 => by rw [vi_rs_o h2]; exact e4 p h1 h2, ⟨S, vi_rs_s⟩, fun i hi => by rw [vi_rs_o (by omega)]; exact e2 i hi, fun _ => vi_rs_s, fun l h => by rw [eg] at h; cases h⟩
          rw [eg] at this
          exact this
        have good : ∀ l, wF (wG r (sDrp S (c : Int))) (sDrp S (c : Int)) c 6 0 = some l → ∀ M1 : vi_M, (∃ R, M1 102 = cR R) → (∀ i, i < b → M1 100 i = M 100 i) → M1 100 b = (c : Int) → (∀ i, i < r → M1 100 (b + 1 + i) = ((l.getD i 0 : Nat) : Int)) → (∀ p, p ≠ 100 → p ≠ 102 → M1 p = M p) → Q (some (.inl 1)) (Y, M1, n) := by
          intro l hw M1 e1 e2 e3 e4 e5
          have eg : wG (r + 1) S c = some (c :: l) := by rw [eG, hw]; rfl
          have := hQ M1 ⟨e5, e1, e2, fun h => (by rw [eg] at h; cases h), fun l' h i hi => by
            rw [eg] at h
            cases h
            cases i with
            | zero => rw [Nat.add_zero, e3]; rfl
            | succ i => rw [show b + (i + 1) = b + 1 + i by omega, e4 i (by omega)]; rfl⟩
          rw [eg] at this
          exact this
        clear hQ
        have hbm : ¬ m ≤ b + 1 := by omega
        have loop : ∀ w : Nat, w ≤ 6 → ∀ (l6 : Option vi_V) (M1 : vi_M), M1 102 = cR (sDrp S (c : Int)) → (∀ i, i < b → M1 100 i = M 100 i) → M1 100 b = (c : Int) → (∀ p, p ≠ 100 → p ≠ 102 → M1 p = M p) → wF (wG r (sDrp S (c : Int))) (sDrp S (c : Int)) c (6 - w) w = wF (wG r (sDrp S (c : Int))) (sDrp S (c : Int)) c 6 0 → vi_ok GG (E + 2) 100 40 [some (.inr (.inr 101)), some (.inr (.inr 100)), some (.inl (c : Int)), some (.inl (b : Int)), some (.inl (m : Int)), some (.inl (w : Int)), l6] [] (Y, M1, n) Q := by
          refine vi_dn 6 ?_ fun w hw ihw => ?_
          · intro l6 M1 e1 e2 e3 e4 hwf
            have := fail hwf.symm M1 e1 e2 e4
            have k6 := fun {K : Option vi_V → vi_W → Prop} => @k_6 (E + 1) 101 K Y M1 n (sDrp S (c : Int)) p1 e1 (c : Int) (by omega)
            simp only [Nat.add_assoc, Nat.reduceAdd] at k6
            rw [cR_c hput] at k6
            rw [s_100_40]
            clear good fail ih
            simp (disch := omega) only [Option.toList_some, Option.toList_none, List.nil_append, List.cons_append, List.append_nil, true_and, and_true, not_true_eq_false, not_false_eq_true, true_implies, false_implies, implies_true, and_self, Int.reduceLT, Int.reduceLE, Int.reduceEq, Int.reduceNe, Int.reduceAdd, Int.reduceSub, Int.reduceMul, Int.reduceNeg, Int.reduceToNat, Int.toNat_natCast, ↓kk_ck, ↓kk_im, ↓kk_in, s_100_0, s_100_4, s_100_10, s_100_16, s_100_18, s_100_30, s_100_32, s_100_47, s_100_64, s_100_79, s_100_81, s_100_87, s_100_7, s_100_22, s_100_37, s_100_53, s_100_76, s_100_92, s_100_27, s_100_61, p1.1, k6]
            exact this
          · intro l6 M1 e1 e2 e3 e4 hwf
            rw [show 6 - w = (5 - w) + 1 by omega, wF] at hwf
            have ihw := ihw (some (.inl (sNb c w)))
            rw [show 6 - (w + 1) = 5 - w by omega] at ihw
            have hr := sNb_r (c := c) (w := w) hc hw
            cases hh : sHas (sDrp S (c : Int)) (sNb c w)
            · rw [if_neg (by rw [hh]; simp)] at hwf
              have := ihw M1 e1 e2 e3 e4 hwf
              rw [s_100_40]
              clear good fail ih ihw
              simp (disch := omega) only [Option.toList_some, Option.toList_none, List.nil_append, List.cons_append, List.append_nil, true_and, and_true, not_true_eq_false, not_false_eq_true, true_implies, false_implies, implies_true, and_self, Int.reduceLT, Int.reduceLE, Int.reduceEq, Int.reduceNe, Int.reduceAdd, Int.reduceSub, Int.reduceMul, Int.reduceNeg, Int.reduceToNat, Int.toNat_natCast, ↓kk_ck, ↓kk_im, ↓kk_in, s_100_0, s_100_4, s_100_10, s_100_16, s_100_18, s_100_30, s_100_32, s_100_47, s_100_64, s_100_79, s_100_81, s_100_87, s_100_7, s_100_22, s_100_37, s_100_53, s_100_76, s_100_92, s_100_27, s_100_61, p1.1, k_17 hc hw, k_5 p1 e1, hh, vi_bf, vi_inc]
              exact this
            · rw [if_pos hh] at hwf
              have hh0 := hh
              unfold sHas at hh0
              rw [Bool.and_eq_true, decide_eq_true_eq] at hh0
              obtain ⟨c', hc'⟩ : ∃ c' : Nat, sNb c w = (c' : Int) := ⟨(sNb c w).toNat, by omega⟩
              rw [hc', Int.toNat_natCast] at hh0 hwf
              rw [hc'] at hh
              obtain ⟨M2, ⟨f1, f2, f3, f4, f5⟩, hK⟩ := ih (sDrp S (c : Int)) c' (b + 1) (E + 2) M1 (by omega) (by omega) (by omega) (by omega) hh0.2 e1
              have g2' : ∀ i, i < b → M2 100 i = M 100 i := fun i hi => by rw [f3 i (by omega)]; exact e2 i hi
              have g3 : M2 100 b = (c : Int) := by rw [f3 b (by omega)]; exact e3
              have g4 : ∀ p, p ≠ 100 → p ≠ 102 → M2 p = M p := fun p h1 h2 => by rw [f1 p h1 h2]; exact e4 p h1 h2
              cases hg : wG r (sDrp S (c : Int)) c' with
              | none =>
                rw [hg] at hwf
                dsimp only at hwf
                have := ihw M2 (f4 hg) g2' g3 g4 hwf
                rw [hg] at hK
                rw [s_100_40]
                clear good fail ih ihw f5 f4
                simp (disch := omega) only [Option.toList_some, Option.toList_none, List.nil_append, List.cons_append, List.append_nil, true_and, and_true, not_true_eq_false, not_false_eq_true, true_implies, false_implies, implies_true, and_self, Int.reduceLT, Int.reduceLE, Int.reduceEq, Int.reduceNe, Int.reduceAdd, Int.reduceSub, Int.reduceMul, Int.reduceNeg, Int.reduceToNat, Int.toNat_natCast, ↓kk_ck, ↓kk_im, ↓kk_in, s_100_0, s_100_4, s_100_10, s_100_16, s_100_18, s_100_30, s_100_32, s_100_47, s_100_64, s_100_79, s_100_81, s_100_87, s_100_7, s_100_22, s_100_37, s_100_53, s_100_76, s_100_92, s_100_27, s_100_61, p1.1, k_17 hc hw, k_5 p1 e1, hh, vi_bt, hc', hK, Option.isSome_none, vi_bf, vi_inc]
                rw [hc'] at this
                exact this
              | some l =>
                rw [hg] at hwf
                dsimp only at hwf
                have := good l hwf.symm M2 f2 g2' g3 (f5 l hg) g4
                rw [hg] at hK
                rw [s_100_40]
                clear good fail ih ihw f5 f4
                simp (disch := omega) only [Option.toList_some, Option.toList_none, List.nil_append, List.cons_append, List.append_nil, true_and, and_true, not_true_eq_false, not_false_eq_true, true_implies, false_implies, implies_true, and_self, Int.reduceLT, Int.reduceLE, Int.reduceEq, Int.reduceNe, Int.reduceAdd, Int.reduceSub, Int.reduceMul, Int.reduceNeg, Int.reduceToNat, Int.toNat_natCast, ↓kk_ck, ↓kk_im, ↓kk_in, s_100_0, s_100_4, s_100_10, s_100_16, s_100_18, s_100_30, s_100_32, s_100_47, s_100_64, s_100_79, s_100_81, s_100_87, s_100_7, s_100_22, s_100_37, s_100_53, s_100_76, s_100_92, s_100_27, s_100_61, p1.1, k_17 hc hw, k_5 p1 e1, hh, vi_bt, hc', hK, Option.isSome_some, vi_inc]
                exact this
        have k7 := fun {K : Option vi_V → vi_W → Prop} => @k_7 (E + 1) 101 K Y (vi_rs M 100 (vi_u (M 100) b (c : Int))) n S p1 (by rw [vi_rs_o (by omega)]; exact hS) (c : Int) (by omega)
        simp only [Nat.add_assoc, Nat.reduceAdd] at k7
        have := loop 0 (by omega) none (vi_rs (vi_rs M 100 (vi_u (M 100) b (c : Int))) 102 (cR (sDrp S (c : Int)))) vi_rs_s (fun i hi => by rw [vi_rs_o (by omega), vi_rs_s, vi_u_o (by omega)]) (by rw [vi_rs_o (by omega), vi_rs_s, vi_u_s]) (fun p h1 h2 => by rw [vi_rs_o h2, vi_rs_o h1]) rfl
        clear loop good fail ih
        simp (disch := omega) only [Option.toList_some, Option.toList_none, List.nil_append, List.cons_append, List.append_nil, true_and, and_true, not_true_eq_false, not_false_eq_true, true_implies, false_implies, implies_true, and_self, Int.reduceLT, Int.reduceLE, Int.reduceEq, Int.reduceNe, Int.reduceAdd, Int.reduceSub, Int.reduceMul, Int.reduceNeg, Int.reduceToNat, Int.toNat_natCast, ↓kk_ck, ↓kk_im, ↓kk_in, e_100, s_100_0, s_100_4, s_100_10, s_100_16, s_100_18, s_100_30, s_100_32, s_100_47, s_100_64, s_100_79, s_100_81, s_100_87, s_100_7, s_100_22, s_100_37, s_100_53, s_100_76, s_100_92, s_100_27, s_100_61, g1, g2, vi_ms_rs, p1.1, k7, vi_inc]
        exact this
      obtain ⟨r', w, ⟨M', e1, rfl, rfl⟩, hK⟩ := vi_kx (key (fun r' w => ∃ M', wP (r + 1) S c b M M' ∧ r' = some (.inl (vi_b (wG (r + 1) S c).isSome)) ∧ w = (Y, M', n)) (fun M' e1 => ⟨M', e1, rfl, rfl⟩))
      exact ⟨M', e1, hK⟩
theorem k_99 (hY : kY Y 151) (hP : M 66 = cR P) (hR : M 102 = cR R) (hm : sN 216 P ≤ 14) : ∃ M' : vi_M, (∀ p, p ≠ 100 → p ≠ 102 → M' p = M p) ∧ (∃ R, M' 102 = cR R) ∧ (∀ l, gWr P = some l → ∀ i, i < sN 216 P → M' 100 i = ((l.getD i 0 : Nat) : Int)) ∧ ∀ K : Option vi_V → vi_W → Prop, vi_call GG (d + 16) 99 [.inr (.inr 97), .inl (sN 216 P : Int)] (Y, M, n) K ↔ K (some (.inl (vi_b (gWr P).isSome))) (Y, M', n) := by
  obtain ⟨a1, a2, a3, a4, a5, a6, a7⟩ := y_97 hY (by omega)
  obtain ⟨c1, c2, c3, c4, c5, c6, c7, c8, c9⟩ := y_60 hY (by omega)
  have p1 := kC_101 hY (by omega)
  have p2 := kC_65 hY (by omega)
  have key : ∀ Q : Option vi_V → vi_W → Prop, (∀ M' : vi_M, (∀ p, p ≠ 100 → p ≠ 102 → M' p = M p) → (∃ R, M' 102 = cR R) → (∀ l, gWr P = some l → ∀ i, i < sN 216 P → M' 100 i = ((l.getD i 0 : Nat) : Int)) → Q (some (.inl (vi_b (gWr P).isSome))) (Y, M', n)) → vi_call GG (d + 16) 99 [.inr (.inr 97), .inl (sN 216 P : Int)] (Y, M, n) Q := by
    intro Q hQ
    by_cases h0 : sN 216 P = 0
    · have e : gWr P = some [] := by unfold gWr; rw [if_pos h0]
      have := hQ M (fun _ _ _ => rfl) ⟨R, hR⟩ (fun l _ i hi => by omega)
      rw [e] at this
      rw [h0]
      clear hQ
      simp (disch := omega) only [Option.toList_some, Option.toList_none, List.nil_append, List.cons_append, List.append_nil, true_and, and_true, not_true_eq_false, not_false_eq_true, true_implies, false_implies, implies_true, and_self, Int.reduceLT, Int.reduceLE, Int.reduceEq, Int.reduceNe, Int.reduceAdd, Int.reduceSub, Int.reduceMul, Int.reduceNeg, Int.reduceToNat, Int.toNat_natCast, ↓kk_ck, ↓kk_im, ↓kk_in, e_99, s_99_0, s_99_4, s_99_6, s_99_29, s_99_40, s_99_57, s_99_59, s_99_65, s_99_10, s_99_33, s_99_44, s_99_14, s_99_37, s_99_48, s_99_17, s_99_54, s_99_20, ne_eq]
      exact this
    · have e : gWr P = wA (sN 216 P) P 216 0 := by unfold gWr; rw [if_neg h0]
      rw [e] at hQ
      generalize hmm : sN 216 P = m at *
      have hs : ∀ c : Nat, c < 216 → sHas P (c : Int) = P c := fun c hc => by unfold sHas; rw [decide_eq_true (by omega), Bool.true_and, Int.toNat_natCast]
      have loop : ∀ c : Nat, c ≤ 216 → ∀ M1 : vi_M, M1 102 = cR P → (∀ p, p ≠ 100 → p ≠ 102 → M1 p = M p) → wA m P (216 - c) c = wA m P 216 0 → vi_ok GG (d + 15) 99 22 [some (.inr (.inr 97)), some (.inl (m : Int)), some (.inl (c : Int))] [] (Y, M1, n) Q := by
        refine vi_dn 216 ?_ fun c hc ih => ?_
        · intro M1 e1 e2 hw
          have := hQ M1 e2 ⟨P, e1⟩ (fun l h => by rw [← hw] at h; cases h)
          rw [← hw] at this
          rw [s_99_22]
          clear hQ
          simp (disch := omega) only [Option.toList_some, Option.toList_none, List.nil_append, List.cons_append, List.append_nil, true_and, and_true, not_true_eq_false, not_false_eq_true, true_implies, false_implies, implies_true, and_self, Int.reduceLT, Int.reduceLE, Int.reduceEq, Int.reduceNe, Int.reduceAdd, Int.reduceSub, Int.reduceMul, Int.reduceNeg, Int.reduceToNat, Int.toNat_natCast, ↓kk_ck, ↓kk_im, ↓kk_in, s_99_0, s_99_4, s_99_6, s_99_29, s_99_40, s_99_57, s_99_59, s_99_65, s_99_10, s_99_33, s_99_44, s_99_14, s_99_37, s_99_48, s_99_17, s_99_54, s_99_20]
          exact this
        · intro M1 e1 e2 hw
          rw [show 216 - c = (215 - c) + 1 by omega, wA] at hw
          rw [show 216 - (c + 1) = 215 - c by omega] at ih
          cases hp : P c
          · rw [if_neg (by rw [hp]; simp)] at hw
            have := ih M1 e1 e2 hw
            rw [s_99_22]
            clear hQ ih
            simp (disch := omega) only [Option.toList_some, Option.toList_none, List.nil_append, List.cons_append, List.append_nil, true_and, and_true, not_true_eq_false, not_false_eq_true, true_implies, false_implies, implies_true, and_self, Int.reduceLT, Int.reduceLE, Int.reduceEq, Int.reduceNe, Int.reduceAdd, Int.reduceSub, Int.reduceMul, Int.reduceNeg, Int.reduceToNat, Int.toNat_natCast, ↓kk_ck, ↓kk_im, ↓kk_in, s_99_0, s_99_4, s_99_6, s_99_29, s_99_40, s_99_57, s_99_59, s_99_65, s_99_10, s_99_33, s_99_44, s_99_14, s_99_37, s_99_48, s_99_17, s_99_54, s_99_20, a1, a7, p1.1, k_5 p1 e1, hs c hc, hp, vi_bf, vi_inc]
            exact this
          · rw [if_pos hp] at hw
            obtain ⟨M2, ⟨f1, f2, f3, f4, f5⟩, hK⟩ := k_100 (n := n) hY m hm m P c 0 (d + 15) M1 (by omega) (by omega) (by omega) hc hp e1
            rw [show ((0 : Nat) : Int) = 0 from rfl] at hK
            cases hg : wG m P c with
            | none =>
              rw [hg] at hw
              dsimp only at hw
              have := ih M2 (f4 hg) (fun p h1 h2 => by rw [f1 p h1 h2]; exact e2 p h1 h2) hw
              rw [hg] at hK
              rw [s_99_22]
              clear hQ ih f4 f5
              simp (disch := omega) only [Option.toList_some, Option.toList_none, List.nil_append, List.cons_append, List.append_nil, true_and, and_true, not_true_eq_false, not_false_eq_true, true_implies, false_implies, implies_true, and_self, Int.reduceLT, Int.reduceLE, Int.reduceEq, Int.reduceNe, Int.reduceAdd, Int.reduceSub, Int.reduceMul, Int.reduceNeg, Int.reduceToNat, Int.toNat_natCast, ↓kk_ck, ↓kk_im, ↓kk_in, s_99_0, s_99_4, s_99_6, s_99_29, s_99_40, s_99_57, s_99_59, s_99_65, s_99_10, s_99_33, s_99_44, s_99_14, s_99_37, s_99_48, s_99_17, s_99_54, s_99_20, a1, a6, a7, p1.1, k_5 p1 e1, hs c hc, hp, vi_bt, hK, Option.isSome_none, vi_bf, vi_inc]
              exact this
            | some l =>
              rw [hg] at hw
              dsimp only at hw
              have := hQ M2 (fun p h1 h2 => by rw [f1 p h1 h2]; exact e2 p h1 h2) f2 (fun l' h i hi => by
                rw [← hw] at h
                cases h
                have := f5 l hg i hi
                rw [Nat.zero_add] at this
                exact this)
              rw [← hw] at this
              rw [hg] at hK
              rw [s_99_22]
              clear hQ ih f4 f5
              simp (disch := omega) only [Option.toList_some, Option.toList_none, List.nil_append, List.cons_append, List.append_nil, true_and, and_true, not_true_eq_false, not_false_eq_true, true_implies, false_implies, implies_true, and_self, Int.reduceLT, Int.reduceLE, Int.reduceEq, Int.reduceNe, Int.reduceAdd, Int.reduceSub, Int.reduceMul, Int.reduceNeg, Int.reduceToNat, Int.toNat_natCast, ↓kk_ck, ↓kk_im, ↓kk_in, s_99_0, s_99_4, s_99_6, s_99_29, s_99_40, s_99_57, s_99_59, s_99_65, s_99_10, s_99_33, s_99_44, s_99_14, s_99_37, s_99_48, s_99_17, s_99_54, s_99_20, a1, a6, a7, p1.1, k_5 p1 e1, hs c hc, hp, vi_bt, hK, Option.isSome_some]
              exact this
      have k4 := fun {K : Option vi_V → vi_W → Prop} => @k_4 (d + 14) 101 65 K Y M n R P p1 p2 (by omega) hR hP
      simp only [Nat.reduceAdd] at k4
      have := loop 0 (by omega) (vi_rs M 102 (cR P)) vi_rs_s (fun p h1 h2 => vi_rs_o h2) rfl
      clear loop hQ
      simp (disch := omega) only [Option.toList_some, Option.toList_none, List.nil_append, List.cons_append, List.append_nil, true_and, and_true, not_true_eq_false, not_false_eq_true, true_implies, false_implies, implies_true, and_self, Int.reduceLT, Int.reduceLE, Int.reduceEq, Int.reduceNe, Int.reduceAdd, Int.reduceSub, Int.reduceMul, Int.reduceNeg, Int.reduceToNat, Int.toNat_natCast, ↓kk_ck, ↓kk_im, ↓kk_in, e_99, s_99_0, s_99_4, s_99_6, s_99_29, s_99_40, s_99_57, s_99_59, s_99_65, s_99_10, s_99_33, s_99_44, s_99_14, s_99_37, s_99_48, s_99_17, s_99_54, s_99_20, a1, a3, a7, c1, c6, e_26, s_26_0, s_26_4, p1.1, ne_eq, k4]
      exact this
  obtain ⟨r, w, ⟨M', e1, e2, e3, rfl, rfl⟩, hK⟩ := vi_kx (key (fun r w => ∃ M' : vi_M, (∀ p, p ≠ 100 → p ≠ 102 → M' p = M p) ∧ (∃ R, M' 102 = cR R) ∧ (∀ l, gWr P = some l → ∀ i, i < sN 216 P → M' 100 i = ((l.getD i 0 : Nat) : Int)) ∧ r = some (.inl (vi_b (gWr P).isSome)) ∧ w = (Y, M', n)) (fun M' e1 e2 e3 => ⟨M', e1, e2, e3, rfl, rfl⟩))
  exact ⟨M', e1, e2, e3, hK⟩
/-- what wire(i) answers, i at least -1 -/
noncomputable def gWi (P : Nat → Bool) (i : Int) : Int := if gBar P = true then (if i = -1 then 0 else -1) else if 14 < sN 216 P then -1 else if i = -1 then vi_b (gWr P).isSome else match gWr P with
  | some l => if 0 ≤ i ∧ i < (sN 216 P : Int) then ((l.getD i.toNat 0 : Nat) : Int) else -1
  | none => -1
theorem k_98 (hY : kY Y 151) (hP : M 66 = cR P) (hR : M 70 = cR R) (hT : M 72 = cR T) (hS : M 102 = cR S) {i : Int} : ∃ M' : vi_M, (∀ p, p ≠ 70 → p ≠ 72 → p ≠ 100 → p ≠ 102 → M' p = M p) ∧ (∃ R, M' 70 = cR R) ∧ (∃ R, M' 72 = cR R) ∧ (∃ R, M' 102 = cR R) ∧ ∀ K : Option vi_V → vi_W → Prop, vi_call GG (d + 17) 98 [.inr (.inr 97), .inl i] (Y, M, n) K ↔ K (some (.inl (gWi P i))) (Y, M', n) := by
  obtain ⟨a1, a2, a3, a4, a5, a6, a7⟩ := y_97 hY (by omega)
  obtain ⟨c1, c2, c3, c4, c5, c6, c7, c8, c9⟩ := y_60 hY (by omega)
  obtain ⟨g1, g2⟩ := y_100 hY (by omega)
  have p2 := kC_65 hY (by omega)
  obtain ⟨R', T', k97⟩ := k_97 (d := d + 10) (n := n) hY hP hR hT
  simp only [Nat.add_assoc, Nat.reduceAdd] at k97
  generalize hM1 : vi_rs (vi_rs M 70 (cR R')) 72 (cR T') = M1 at k97
  have o1 : ∀ p, p ≠ 70 → p ≠ 72 → M1 p = M p := fun p h1 h2 => by rw [← hM1, vi_rs_o h2, vi_rs_o h1]
  have o70 : M1 70 = cR R' := by rw [← hM1, vi_rs_o (by omega), vi_rs_s]
  have o72 : M1 72 = cR T' := by rw [← hM1, vi_rs_s]
  have oP : M1 66 = cR P := by rw [o1 _ (by omega) (by omega)]; exact hP
  cases hb : gBar P
  · rw [hb] at k97
    by_cases hm : 14 < sN 216 P
    · have e : gWi P i = -1 := by unfold gWi; rw [if_neg (by rw [hb]; simp), if_pos hm]
      refine ⟨M1, fun p h1 h2 _ _ => o1 p h1 h2, ⟨_, o70⟩, ⟨_, o72⟩, ⟨S, by rw [o1 _ (by omega) (by omega)]; exact hS⟩, fun K => vi_k (r := some (.inl _)) fun Q hQ => ?_⟩
      rw [e] at hQ
      simp (disch := omega) only [Option.toList_some, Option.toList_none, List.nil_append, List.cons_append, List.append_nil, true_and, and_true, not_true_eq_false, not_false_eq_true, true_implies, false_implies, implies_true, and_self, Int.reduceLT, Int.reduceLE, Int.reduceEq, Int.reduceNe, Int.reduceAdd, Int.reduceSub, Int.reduceMul, Int.reduceNeg, Int.reduceToNat, Int.toNat_natCast, ↓kk_ck, ↓kk_im, ↓kk_in, e_98, s_98_0, s_98_7, s_98_12, s_98_16, s_98_17, s_98_18, s_98_35, s_98_37, s_98_48, s_98_52, s_98_56, s_98_57, s_98_58, s_98_62, s_98_66, s_98_71, s_98_80, s_98_89, s_98_90, s_98_4, s_98_22, s_98_42, s_98_76, s_98_84, s_98_25, s_98_77, s_98_86, s_98_28, a1, a3, c1, c6, e_26, s_26_0, s_26_4, k97, vi_bf, p2.1, k_11 p2 oP]
      exact hQ
    · obtain ⟨M2, e1, e2, e3, k99⟩ := k_99 (d := d) (n := n) hY oP (R := S) (by rw [o1 _ (by omega) (by omega)]; exact hS) (by omega)
      refine ⟨M2, fun p h1 h2 h3 h4 => by rw [e1 p h3 h4]; exact o1 p h1 h2, ⟨_, by rw [e1 _ (by omega) (by omega)]; exact o70⟩, ⟨_, by rw [e1 _ (by omega) (by omega)]; exact o72⟩, e2, fun K => vi_k (r := some (.inl _)) fun Q hQ => ?_⟩
      unfold gWi at hQ
      rw [if_neg (by rw [hb]; simp), if_neg hm] at hQ
      have hle := sN_le 216 P
      cases hg : gWr P with
      | none =>
        rw [hg] at hQ k99
        dsimp only at hQ
        by_cases hi : i = -1
        · rw [if_pos hi] at hQ
          simp (disch := omega) only [Option.toList_some, Option.toList_none, List.nil_append, List.cons_append, List.append_nil, true_and, and_true, not_true_eq_false, not_false_eq_true, true_implies, false_implies, implies_true, and_self, Int.reduceLT, Int.reduceLE, Int.reduceEq, Int.reduceNe, Int.reduceAdd, Int.reduceSub, Int.reduceMul, Int.reduceNeg, Int.reduceToNat, Int.toNat_natCast, ↓kk_ck, ↓kk_im, ↓kk_in, e_98, s_98_0, s_98_7, s_98_12, s_98_16, s_98_17, s_98_18, s_98_35, s_98_37, s_98_48, s_98_52, s_98_56, s_98_57, s_98_58, s_98_62, s_98_66, s_98_71, s_98_80, s_98_89, s_98_90, s_98_4, s_98_22, s_98_42, s_98_76, s_98_84, s_98_25, s_98_77, s_98_86, s_98_28, a1, a3, c1, c6, e_26, s_26_0, s_26_4, k97, vi_bf, p2.1, k_11 p2 oP, k99, hi, Option.isSome_none, ne_eq]
          exact hQ
        · rw [if_neg hi] at hQ
          simp (disch := omega) only [Option.toList_some, Option.toList_none, List.nil_append, List.cons_append, List.append_nil, true_and, and_true, not_true_eq_false, not_false_eq_true, true_implies, false_implies, implies_true, and_self, Int.reduceLT, Int.reduceLE, Int.reduceEq, Int.reduceNe, Int.reduceAdd, Int.reduceSub, Int.reduceMul, Int.reduceNeg, Int.reduceToNat, Int.toNat_natCast, ↓kk_ck, ↓kk_im, ↓kk_in, e_98, s_98_0, s_98_7, s_98_12, s_98_16, s_98_17, s_98_18, s_98_35, s_98_37, s_98_48, s_98_52, s_98_56, s_98_57, s_98_58, s_98_62, s_98_66, s_98_71, s_98_80, s_98_89, s_98_90, s_98_4, s_98_22, s_98_42, s_98_76, s_98_84, s_98_25, s_98_77, s_98_86, s_98_28, a1, a3, c1, c6, e_26, s_26_0, s_26_4, k97, vi_bf, p2.1, k_11 p2 oP, k99, hi, Option.isSome_none, ne_eq]
          exact hQ
      | some l =>
        have e3 := e3 l hg
        rw [hg] at hQ k99
        dsimp only at hQ
        by_cases hi : i = -1
        · rw [if_pos hi] at hQ
          simp (disch := omega) only [Option.toList_some, Option.toList_none, List.nil_append, List.cons_append, List.append_nil, true_and, and_true, not_true_eq_false, not_false_eq_true, true_implies, false_implies, implies_true, and_self, Int.reduceLT, Int.reduceLE, Int.reduceEq, Int.reduceNe, Int.reduceAdd, Int.reduceSub, Int.reduceMul, Int.reduceNeg, Int.reduceToNat, Int.toNat_natCast, ↓kk_ck, ↓kk_im, ↓kk_in, e_98, s_98_0, s_98_7, s_98_12, s_98_16, s_98_17, s_98_18, s_98_35, s_98_37, s_98_48, s_98_52, s_98_56, s_98_57, s_98_58, s_98_62, s_98_66, s_98_71, s_98_80, s_98_89, s_98_90, s_98_4, s_98_22, s_98_42, s_98_76, s_98_84, s_98_25, s_98_77, s_98_86, s_98_28, a1, a3, c1, c6, e_26, s_26_0, s_26_4, k97, vi_bf, p2.1, k_11 p2 oP, k99, hi, Option.isSome_some, vi_bt, ne_eq]
          exact hQ
        · rw [if_neg hi] at hQ
          by_cases hi2 : 0 ≤ i ∧ i < (sN 216 P : Int)
          · rw [if_pos hi2, ← e3 i.toNat (by omega)] at hQ
            simp (disch := omega) only [Option.toList_some, Option.toList_none, List.nil_append, List.cons_append, List.append_nil, true_and, and_true, not_true_eq_false, not_false_eq_true, true_implies, false_implies, implies_true, and_self, Int.reduceLT, Int.reduceLE, Int.reduceEq, Int.reduceNe, Int.reduceAdd, Int.reduceSub, Int.reduceMul, Int.reduceNeg, Int.reduceToNat, Int.toNat_natCast, ↓kk_ck, ↓kk_im, ↓kk_in, e_98, s_98_0, s_98_7, s_98_12, s_98_16, s_98_17, s_98_18, s_98_35, s_98_37, s_98_48, s_98_52, s_98_56, s_98_57, s_98_58, s_98_62, s_98_66, s_98_71, s_98_80, s_98_89, s_98_90, s_98_4, s_98_22, s_98_42, s_98_76, s_98_84, s_98_25, s_98_77, s_98_86, s_98_28, a1, a3, a6, c1, c6, e_26, s_26_0, s_26_4, k97, vi_bf, p2.1, k_11 p2 oP, k99, hi, Option.isSome_some, vi_bt, ne_eq, g1, g2]
            exact hQ
          · rw [if_neg hi2] at hQ
            simp +contextual (disch := omega) only [Option.toList_some, Option.toList_none, List.nil_append, List.cons_append, List.append_nil, true_and, and_true, not_true_eq_false, not_false_eq_true, true_implies, false_implies, implies_true, and_self, Int.reduceLT, Int.reduceLE, Int.reduceEq, Int.reduceNe, Int.reduceAdd, Int.reduceSub, Int.reduceMul, Int.reduceNeg, Int.reduceToNat, Int.toNat_natCast, ↓kk_ck, ↓kk_im, ↓kk_in, e_98, s_98_0, s_98_7, s_98_12, s_98_16, s_98_17, s_98_18, s_98_35, s_98_37, s_98_48, s_98_52, s_98_56, s_98_57, s_98_58, s_98_62, s_98_66, s_98_71, s_98_80, s_98_89, s_98_90, s_98_4, s_98_22, s_98_42, s_98_76, s_98_84, s_98_25, s_98_77, s_98_86, s_98_28, a1, a3, a6, c1, c6, e_26, s_26_0, s_26_4, k97, vi_bf, p2.1, k_11 p2 oP, k99, hi, Option.isSome_some, vi_bt, ne_eq, g1, g2]
            (repeat' first | exact hQ | intro _ | refine And.intro ?_ ?_ | (exfalso; omega))
  · rw [hb] at k97
    refine ⟨M1, fun p h1 h2 _ _ => o1 p h1 h2, ⟨_, o70⟩, ⟨_, o72⟩, ⟨S, by rw [o1 _ (by omega) (by omega)]; exact hS⟩, fun K => vi_k (r := some (.inl _)) fun Q hQ => ?_⟩
    unfold gWi at hQ
    rw [if_pos hb] at hQ
    by_cases hi : i = -1
    · rw [if_pos hi] at hQ
      simp (disch := omega) only [Option.toList_some, Option.toList_none, List.nil_append, List.cons_append, List.append_nil, true_and, and_true, not_true_eq_false, not_false_eq_true, true_implies, false_implies, implies_true, and_self, Int.reduceLT, Int.reduceLE, Int.reduceEq, Int.reduceNe, Int.reduceAdd, Int.reduceSub, Int.reduceMul, Int.reduceNeg, Int.reduceToNat, Int.toNat_natCast, ↓kk_ck, ↓kk_im, ↓kk_in, e_98, s_98_0, s_98_7, s_98_12, s_98_16, s_98_17, s_98_18, s_98_35, s_98_37, s_98_48, s_98_52, s_98_56, s_98_57, s_98_58, s_98_62, s_98_66, s_98_71, s_98_80, s_98_89, s_98_90, s_98_4, s_98_22, s_98_42, s_98_76, s_98_84, s_98_25, s_98_77, s_98_86, s_98_28, a1, k97, vi_bt, hi, ne_eq]
      exact hQ
    · rw [if_neg hi] at hQ
      simp (disch := omega) only [Option.toList_some, Option.toList_none, List.nil_append, List.cons_append, List.append_nil, true_and, and_true, not_true_eq_false, not_false_eq_true, true_implies, false_implies, implies_true, and_self, Int.reduceLT, Int.reduceLE, Int.reduceEq, Int.reduceNe, Int.reduceAdd, Int.reduceSub, Int.reduceMul, Int.reduceNeg, Int.reduceToNat, Int.toNat_natCast, ↓kk_ck, ↓kk_im, ↓kk_in, e_98, s_98_0, s_98_7, s_98_12, s_98_16, s_98_17, s_98_18, s_98_35, s_98_37, s_98_48, s_98_52, s_98_56, s_98_57, s_98_58, s_98_62, s_98_66, s_98_71, s_98_80, s_98_89, s_98_90, s_98_4, s_98_22, s_98_42, s_98_76, s_98_84, s_98_25, s_98_77, s_98_86, s_98_28, a1, k97, vi_bt, hi, ne_eq]
      exact hQ
end
