/-! oneMore (reference). -/
def toN (a k : Nat) : Nat := if a < 64 then 64 + k else k
theorem toN_x {fl : Nat → Int} {a v : Nat} (h : ed fl a v) : ∃ k, k < 64 ∧ v = toN a k := by
  unfold toN
  rcases h with ⟨h1, p, h2, h3, -⟩ | ⟨h1, h2, h3, -⟩
  · exact ⟨p, h2, by rw [if_pos h1]; exact h3⟩
  · exact ⟨v, h3, by rw [if_neg (by omega)]⟩
section
variable {D : Nat} {K : Option vi_V → vi_W → Prop} {Y : vi_Y} {M : vi_M} {nn : Nat × Nat} {Q : Option vi_V → vi_W → Prop}
/-- one node: all that can be reached from it -/
theorem h_333n (hY : kY Y 151) {S0 D0 : Nat → Int} (hS : ∀ r, r < 64 → S0 r ≤ 1000) (hDd : ∀ p, p < 64 → D0 p ≤ 1000) (hF : FX S0 D0 128 (M 140) (M 141) (M 142)) (hfit : ∀ r o, r < 64 → o < 64 → M 139 (64 * r + o) = vi_b (ftB r o 24)) (hD : 2 ≤ D)
    (hQ1 : ∀ M' : vi_M, (∀ q, ¬ (140 ≤ q ∧ q ≤ 144) → M' q = M q) → FX S0 D0 128 (M' 140) (M' 141) (M' 142) → sU 64 (M' 140) = sU 64 (M 140) - 1 → Q (some (.inl 1)) (Y, M', nn)) {x a : Nat} (hx : x < 128) (ha : a < 128)
    (ih : ∀ (n : Nat) (M2 : vi_M) (l5 l6 : Option vi_V), (∀ q, q ≠ 143 → q ≠ 144 → M2 q = M q) → BI (M 140) (M 141) (M 142) (M2 143) (M2 144) n (x + 1) → vi_ok GG D 333 69 [some (.inr (.inr 112)), some (.inl (n : Int)), some (.inl ((x + 1 : Nat) : Int)), some (.inl (a : Int)), some (.inl 64), l5, l6] [] (Y, M2, nn) Q) :
    ∀ k : Nat, k ≤ 64 → ∀ (n : Nat) (M2 : vi_M) (l5 l6 : Option vi_V), (∀ q, q ≠ 143 → q ≠ 144 → M2 q = M q) → BI (M 140) (M 141) (M 142) (M2 143) (M2 144) n x → x < n → M2 144 x = (a : Int) → M2 143 a ≠ -1 → (∀ j, j < k → ed (M 142) a (toN a j) → M2 143 (toN a j) ≠ -1) → vi_ok GG D 333 84 [some (.inr (.inr 112)), some (.inl (n : Int)), some (.inl (x : Int)), some (.inl (a : Int)), some (.inl (k : Int)), l5, l6] [] (Y, M2, nn) Q := by
  obtain ⟨R1, -, -, -, -, -, -, -, -, -, -, -, -, -, -, -, -, -, -, -, -, -, -, -, -, -, -, R50, R51, R52, R53, R54, R55, -⟩ := y_112 hY (by omega)
  obtain ⟨p1, p2⟩ := y_139 hY (by omega)
  obtain ⟨p3, p4⟩ := y_141 hY (by omega)
  obtain ⟨p5, p6⟩ := y_142 hY (by omega)
  obtain ⟨p7, p8⟩ := y_143 hY (by omega)
  obtain ⟨p9, p10⟩ := y_144 hY (by omega)
  refine vi_dn (P := fun k => ∀ (n : Nat) (M2 : vi_M) (l5 l6 : Option vi_V), (∀ q, q ≠ 143 → q ≠ 144 → M2 q = M q) → BI (M 140) (M 141) (M 142) (M2 143) (M2 144) n x → x < n → M2 144 x = (a : Int) → M2 143 a ≠ -1 → (∀ j, j < k → ed (M 142) a (toN a j) → M2 143 (toN a j) ≠ -1) → vi_ok GG D 333 84 [some (.inr (.inr 112)), some (.inl (n : Int)), some (.inl (x : Int)), some (.inl (a : Int)), some (.inl (k : Int)), l5, l6] [] (Y, M2, nn) Q) 64 ?_ fun k hk ihk => ?_
  · intro n M2 l5 l6 o hB hxn hLx hCa hcl
    have := ih n M2 l5 l6 o (BI_s hB hxn fun v hv => by
      rw [hLx, Int.toNat_natCast] at hv
      obtain ⟨j, j1, j2⟩ := toN_x hv
      rw [j2] at hv ⊢
      exact hcl j j1 hv)
    clear ih hB hcl hF hQ1
    rw [s_333_84]
    simp (disch := omega) only [Option.toList_some, Option.toList_none, List.nil_append, List.cons_append, List.append_nil, true_and, and_true, not_true_eq_false, not_false_eq_true, true_implies, false_implies, implies_true, and_self, Int.reduceLT, Int.reduceLE, Int.reduceEq, Int.reduceNe, Int.reduceAdd, Int.reduceSub, Int.reduceMul, Int.reduceNeg, Int.reduceToNat, Int.toNat_natCast, ↓kk_ck, ↓kk_im, ↓kk_in, s_333_246, vi_inc]
    exact this
  · intro n M2 l5 l6 o hB hxn hLx hCa hcl
    clear ih
    have o139 : ∀ i, M2 139 i = M 139 i := fun i => by rw [o 139 (by omega) (by omega)]
    have o141 : ∀ i, M2 141 i = M 141 i := fun i => by rw [o 141 (by omega) (by omega)]
    have o142 : ∀ i, M2 142 i = M 142 i := fun i => by rw [o 142 (by omega) (by omega)]
    have hn128 := BI_le hB
    have skip : (ed (M 142) a (toN a k) → M2 143 (toN a k) ≠ -1) → ∀ l5 l6, vi_ok GG D 333 84 [some (.inr (.inr 112)), some (.inl (n : Int)), some (.inl (x : Int)), some (.inl (a : Int)), some (.inl ((k + 1 : Nat) : Int)), l5, l6] [] (Y, M2, nn) Q := fun h l5 l6 => ihk n M2 l5 l6 o hB hxn hLx hCa fun j hj he => by
      by_cases e : j = k
      · rw [e] at he ⊢; exact h he
      · exact hcl j (by omega) he
    have add : M2 143 (toN a k) = -1 → ed (M 142) a (toN a k) → (∀ p, toN a k = 64 + p → M 141 p = 0) → ∀ l5 l6, vi_ok GG D 333 84 [some (.inr (.inr 112)), some (.inl ((n + 1 : Nat) : Int)), some (.inl (x : Int)), some (.inl (a : Int)), some (.inl ((k + 1 : Nat) : Int)), l5, l6] [] (Y, vi_rs (vi_rs M2 143 (vi_u (M2 143) (toN a k) (a : Int))) 144 (vi_u (M2 144) n ((toN a k : Nat) : Int)), nn) Q := fun hn he hd l5 l6 => by
      have ht : toN a k < 128 := by unfold toN; split <;> omega
      have hB2 := BI_a hB ha hCa ht hn he hd
      have up : ∀ v, M2 143 v ≠ -1 → vi_u (M2 143) (toN a k) (a : Int) v ≠ -1 := fun v hv => by
        by_cases e : v = toN a k
        · rw [e, vi_u_s]; omega
        · rw [vi_u_o e]; exact hv
      refine ihk (n + 1) _ l5 l6 (fun q h1 h2 => by rw [vi_rs_o h2, vi_rs_o h1]; exact o q h1 h2) (by rw [vi_rs_s, vi_rs_o (by omega), vi_rs_s]; exact hB2) (by omega) (by rw [vi_rs_s, vi_u_o (by omega)]; exact hLx) (by rw [vi_rs_o (by omega), vi_rs_s]; exact up a hCa) fun j hj he2 => ?_
      rw [vi_rs_o (by omega), vi_rs_s]
      by_cases e : j = k
      · rw [e, vi_u_s]; omega
      · exact up _ (hcl j (by omega) he2)
    clear ihk
    have i144 : ∀ f : Nat → Int, vi_rs M2 143 f 144 = M2 144 := fun f => vi_rs_o (by omega)
    have i141 : ∀ f : Nat → Int, vi_rs M2 143 f 141 = M2 141 := fun f => vi_rs_o (by omega)
    rw [s_333_84]
    by_cases ha64 : a < 64
    · have e1 : toN a k = 64 + k := by unfold toN; rw [if_pos ha64]
      rw [e1] at skip add
      have w64 : (64 + (k : Int)) = ((64 + k : Nat) : Int) := by omega
      have t64 : (64 + (k : Int)).toNat = 64 + k := by omega
      by_cases q1 : M2 143 (64 + k) = -1
      · cases q2 : ftB a k 24
        · have := skip (fun h => by
            rcases h with ⟨-, p, hp, h2, h3⟩ | ⟨h, -⟩
            · obtain rfl : p = k := by omega
              rw [q2] at h3; cases h3
            · omega) (some (.inl 0)) l6
          have hf := hfit a k ha64 hk
          rw [q2] at hf
          have hf' : M 139 (64 * a + k) = 0 := hf
          clear skip add hB hcl hF hQ1 hfit
          simp (disch := omega) only [Option.toList_some, Option.toList_none, List.nil_append, List.cons_append, List.append_nil, true_and, and_true, not_true_eq_false, not_false_eq_true, true_implies, false_implies, implies_true, and_self, Int.reduceLT, Int.reduceLE, Int.reduceEq, Int.reduceNe, Int.reduceAdd, Int.reduceSub, Int.reduceMul, Int.reduceNeg, Int.reduceToNat, Int.toNat_natCast, ↓kk_ck, ↓kk_im, ↓kk_in, s_333_91, s_333_97, s_333_101, s_333_106, s_333_107, s_333_111, s_333_115, s_333_122, s_333_123, s_333_130, s_333_168, s_333_175, s_333_240, R1, R50, R54, p1, p2, p7, p8, @vi_32 (64 + (k : Int)) (by omega) (by omega), t64, q1, @ix_64 a k ha64 hk, Int.toNat_natCast, o139, hf', vi_inc, ne_eq]
          exact this
        · have he : ed (M 142) a (64 + k) := .inl ⟨ha64, k, hk, rfl, q2⟩
          have hf := hfit a k ha64 hk
          rw [q2] at hf
          have hf' : M 139 (64 * a + k) = 1 := hf
          have hd0 := hF.2.1 k hk
          by_cases q3 : M 141 k ≤ 0
          · have hnew := BI_new hB (v := 64 + k) (by omega) q1
            have := add q1 he (fun p hp => by
              obtain rfl : p = k := by omega
              omega) (some (.inl 1)) (some (.inl ((64 + k : Nat) : Int)))
            rw [← w64] at this
            clear skip add hB hcl hF hQ1 hfit
            simp (disch := omega) only [Option.toList_some, Option.toList_none, List.nil_append, List.cons_append, List.append_nil, true_and, and_true, not_true_eq_false, not_false_eq_true, true_implies, false_implies, implies_true, and_self, Int.reduceLT, Int.reduceLE, Int.reduceEq, Int.reduceNe, Int.reduceAdd, Int.reduceSub, Int.reduceMul, Int.reduceNeg, Int.reduceToNat, Int.toNat_natCast, ↓kk_ck, ↓kk_im, ↓kk_in, s_333_91, s_333_97, s_333_101, s_333_106, s_333_107, s_333_111, s_333_115, s_333_122, s_333_123, s_333_126, s_333_168, s_333_178, s_333_184, s_333_194, s_333_200, s_333_204, s_333_211, s_333_215, s_333_218, s_333_229, s_333_233, s_333_237, s_333_240, R1, R50, R52, R54, R55, p1, p2, p3, p4, p7, p8, p9, p10, @vi_32 (64 + (k : Int)) (by omega) (by omega), t64, q1, @ix_64 a k ha64 hk, Int.toNat_natCast, o139, hf', vi_ms_rs, i141, i144, o141, q3, vi_inc, ne_eq]
            exact this
          · obtain ⟨rk, hT⟩ := hB.2.2.2.1
            have hT2 := TI_a hT ha hCa (by omega) q1 he
            have o1 : ∀ q, q ≠ 143 → q ≠ 144 → vi_rs M2 143 (vi_u (M2 143) (64 + k) (a : Int)) q = M q := fun q h1 h2 => by rw [vi_rs_o h1]; exact o q h1 h2
            have cont : vi_call GG D 334 [.inr (.inr 112), .inl ((64 + k : Nat) : Int)] (Y, vi_rs M2 143 (vi_u (M2 143) (64 + k) (a : Int)), nn) (fun r w' => vi_ok GG D 333 227 [some (.inr (.inr 112)), some (.inl (n : Int)), some (.inl (x : Int)), some (.inl (a : Int)), some (.inl (k : Int)), some (.inl 1), some (.inl (64 + (k : Int)))] r.toList w' Q) := by
              refine k_334 hY hS hDd (by rw [o1 140 (by omega) (by omega), o1 141 (by omega) (by omega), o1 142 (by omega) (by omega)]; exact hF) (by rw [o1 140 (by omega) (by omega), o1 142 (by omega) (by omega), vi_rs_s]; exact hT2) hk (by rw [o1 141 (by omega) (by omega)]; omega) (by rw [vi_rs_s, vi_u_s]; omega) (by omega) fun M3 f3 hF3 hs3 => ?_
              have := hQ1 M3 (fun q hq => by rw [f3 q (by omega) (by omega) (by omega)]; exact o1 q (by omega) (by omega)) hF3 (by rw [hs3, o1 140 (by omega) (by omega)])
              clear skip add hB hcl hF hQ1 hfit hT hT2
              simp (disch := omega) only [Option.toList_some, Option.toList_none, List.nil_append, List.cons_append, List.append_nil, true_and, and_true, not_true_eq_false, not_false_eq_true, true_implies, false_implies, implies_true, and_self, Int.reduceLT, Int.reduceLE, Int.reduceEq, Int.reduceNe, Int.reduceAdd, Int.reduceSub, Int.reduceMul, Int.reduceNeg, Int.reduceToNat, Int.toNat_natCast, ↓kk_ck, ↓kk_im, ↓kk_in, Option.toList, s_333_227]
              exact this
            rw [← w64] at cont
            clear skip add hB hcl hF hQ1 hfit hT hT2
            simp (disch := omega) only [Option.toList_some, Option.toList_none, List.nil_append, List.cons_append, List.append_nil, true_and, and_true, not_true_eq_false, not_false_eq_true, true_implies, false_implies, implies_true, and_self, Int.reduceLT, Int.reduceLE, Int.reduceEq, Int.reduceNe, Int.reduceAdd, Int.reduceSub, Int.reduceMul, Int.reduceNeg, Int.reduceToNat, Int.toNat_natCast, ↓kk_ck, ↓kk_im, ↓kk_in, s_333_91, s_333_97, s_333_101, s_333_106, s_333_107, s_333_111, s_333_115, s_333_122, s_333_123, s_333_126, s_333_168, s_333_178, s_333_184, s_333_194, s_333_200, s_333_204, s_333_211, s_333_215, s_333_218, s_333_221, R1, R50, R52, R54, R55, p1, p2, p3, p4, p7, p8, p9, p10, @vi_32 (64 + (k : Int)) (by omega) (by omega), t64, q1, @ix_64 a k ha64 hk, Int.toNat_natCast, o139, hf', vi_ms_rs, i141, i144, o141, q3, vi_inc, ne_eq]
            exact cont
      · have := skip (fun _ => q1) (some (.inl 0)) l6
        clear skip add hB hcl hF hQ1 hfit
        simp (disch := omega) only [Option.toList_some, Option.toList_none, List.nil_append, List.cons_append, List.append_nil, true_and, and_true, not_true_eq_false, not_false_eq_true, true_implies, false_implies, implies_true, and_self, Int.reduceLT, Int.reduceLE, Int.reduceEq, Int.reduceNe, Int.reduceAdd, Int.reduceSub, Int.reduceMul, Int.reduceNeg, Int.reduceToNat, Int.toNat_natCast, ↓kk_ck, ↓kk_im, ↓kk_in, s_333_91, s_333_97, s_333_101, s_333_106, s_333_107, s_333_130, s_333_168, s_333_175, s_333_240, R1, R54, p7, p8, @vi_32 (64 + (k : Int)) (by omega) (by omega), t64, q1, vi_inc, ne_eq]
        exact this
    · have e1 : toN a k = k := by unfold toN; rw [if_neg ha64]
      rw [e1] at skip add
      by_cases q1 : M2 143 k = -1
      · by_cases q2 : M 142 (64 * k + (a - 64)) ≤ 0
        · have := skip (fun h => by
            rcases h with ⟨h, -⟩ | ⟨-, -, -, h⟩
            · omega
            · omega) (some (.inl 0)) l6
          clear skip add hB hcl hF hQ1 hfit
          simp (disch := omega) only [Option.toList_some, Option.toList_none, List.nil_append, List.cons_append, List.append_nil, true_and, and_true, not_true_eq_false, not_false_eq_true, true_implies, false_implies, implies_true, and_self, Int.reduceLT, Int.reduceLE, Int.reduceEq, Int.reduceNe, Int.reduceAdd, Int.reduceSub, Int.reduceMul, Int.reduceNeg, Int.reduceToNat, Int.toNat_natCast, ↓kk_ck, ↓kk_im, ↓kk_in, s_333_91, s_333_134, s_333_138, s_333_141, s_333_145, s_333_149, s_333_159, s_333_160, s_333_167, s_333_168, s_333_175, s_333_240, R1, R53, R54, p5, p6, p7, p8, q1, @ix_m k a hk (by omega), Int.toNat_natCast, o142, q2, vi_inc, ne_eq]
          exact this
        · have hnew := BI_new hB (v := k) (by omega) q1
          have := add q1 (.inr ⟨by omega, ha, hk, by omega⟩) (fun p hp => by omega) (some (.inl 1)) (some (.inl (k : Int)))
          clear skip add hB hcl hF hQ1 hfit
          simp (disch := omega) only [Option.toList_some, Option.toList_none, List.nil_append, List.cons_append, List.append_nil, true_and, and_true, not_true_eq_false, not_false_eq_true, true_implies, false_implies, implies_true, and_self, Int.reduceLT, Int.reduceLE, Int.reduceEq, Int.reduceNe, Int.reduceAdd, Int.reduceSub, Int.reduceMul, Int.reduceNeg, Int.reduceToNat, Int.toNat_natCast, ↓kk_ck, ↓kk_im, ↓kk_in, s_333_91, s_333_134, s_333_138, s_333_141, s_333_145, s_333_149, s_333_159, s_333_160, s_333_163, s_333_168, s_333_178, s_333_192, s_333_194, s_333_200, s_333_204, s_333_229, s_333_233, s_333_237, s_333_240, R1, R53, R54, R55, p5, p6, p7, p8, p9, p10, q1, @ix_m k a hk (by omega), Int.toNat_natCast, o142, q2, vi_ms_rs, i144, vi_inc, ne_eq]
          exact this
      · have := skip (fun _ => q1) (some (.inl 0)) l6
        clear skip add hB hcl hF hQ1 hfit
        simp (disch := omega) only [Option.toList_some, Option.toList_none, List.nil_append, List.cons_append, List.append_nil, true_and, and_true, not_true_eq_false, not_false_eq_true, true_implies, false_implies, implies_true, and_self, Int.reduceLT, Int.reduceLE, Int.reduceEq, Int.reduceNe, Int.reduceAdd, Int.reduceSub, Int.reduceMul, Int.reduceNeg, Int.reduceToNat, Int.toNat_natCast, ↓kk_ck, ↓kk_im, ↓kk_in, s_333_91, s_333_134, s_333_138, s_333_141, s_333_167, s_333_168, s_333_175, s_333_240, R1, R54, p7, p8, Int.toNat_natCast, q1, vi_inc, ne_eq]
        exact this
theorem k_333 (hY : kY Y 151) {S0 D0 : Nat → Int} (hS : ∀ r, r < 64 → S0 r ≤ 1000) (hDd : ∀ p, p < 64 → D0 p ≤ 1000) (hF : FX S0 D0 128 (M 140) (M 141) (M 142)) (hfit : ∀ r o, r < 64 → o < 64 → M 139 (64 * r + o) = vi_b (ftB r o 24)) (hD : 3 ≤ D)
    (hQ0 : ∀ M' : vi_M, (∀ q, q ≠ 143 → q ≠ 144 → M' q = M q) → (∃ R, tot (M 142) = cutF S0 D0 R) → Q (some (.inl 0)) (Y, M', nn))
    (hQ1 : ∀ M' : vi_M, (∀ q, ¬ (140 ≤ q ∧ q ≤ 144) → M' q = M q) → FX S0 D0 128 (M' 140) (M' 141) (M' 142) → sU 64 (M' 140) = sU 64 (M 140) - 1 → Q (some (.inl 1)) (Y, M', nn)) : vi_call GG D 333 [.inr (.inr 112)] (Y, M, nn) Q := by
  obtain ⟨D, rfl⟩ : ∃ k, D = k + 1 := ⟨D - 1, by omega⟩
  obtain ⟨R1, -, -, -, -, -, -, -, -, -, -, -, -, -, -, -, -, -, -, -, -, -, -, -, -, -, -, R50, R51, R52, R53, R54, R55, -⟩ := y_112 hY (by omega)
  obtain ⟨p1, p2⟩ := y_140 hY (by omega)
  obtain ⟨p7, p8⟩ := y_143 hY (by omega)
  obtain ⟨p9, p10⟩ := y_144 hY (by omega)
  have queue : ∀ x : Nat, x ≤ 128 → ∀ (n : Nat) (M2 : vi_M) (l3 l4 l5 l6 : Option vi_V), (∀ q, q ≠ 143 → q ≠ 144 → M2 q = M q) → BI (M 140) (M 141) (M 142) (M2 143) (M2 144) n x → vi_ok GG D 333 69 [some (.inr (.inr 112)), some (.inl (n : Int)), some (.inl (x : Int)), l3, l4, l5, l6] [] (Y, M2, nn) Q := by
    have fin : ∀ (x n : Nat) (M2 : vi_M) (l3 l4 l5 l6 : Option vi_V), n ≤ x → (∀ q, q ≠ 143 → q ≠ 144 → M2 q = M q) → BI (M 140) (M 141) (M 142) (M2 143) (M2 144) n x → vi_ok GG D 333 69 [some (.inr (.inr 112)), some (.inl (n : Int)), some (.inl (x : Int)), l3, l4, l5, l6] [] (Y, M2, nn) Q := by
      intro x n M2 l3 l4 l5 l6 hle o hB
      obtain rfl : x = n := by have := hB.2.2.2.2.2.2.2; omega
      have := hQ0 M2 o (BI_e hB hF)
      clear hQ0 hQ1 hB hF hfit
      rw [s_333_69]
      simp (disch := omega) only [Option.toList_some, Option.toList_none, List.nil_append, List.cons_append, List.append_nil, true_and, and_true, not_true_eq_false, not_false_eq_true, true_implies, false_implies, implies_true, and_self, Int.reduceLT, Int.reduceLE, Int.reduceEq, Int.reduceNe, Int.reduceAdd, Int.reduceSub, Int.reduceMul, Int.reduceNeg, Int.reduceToNat, Int.toNat_natCast, ↓kk_ck, ↓kk_im, ↓kk_in, s_333_252]
      exact this
    refine vi_dn (P := fun x => ∀ (n : Nat) (M2 : vi_M) (l3 l4 l5 l6 : Option vi_V), (∀ q, q ≠ 143 → q ≠ 144 → M2 q = M q) → BI (M 140) (M 141) (M 142) (M2 143) (M2 144) n x → vi_ok GG D 333 69 [some (.inr (.inr 112)), some (.inl (n : Int)), some (.inl (x : Int)), l3, l4, l5, l6] [] (Y, M2, nn) Q) 128 ?_ fun x hx ih => ?_
    · intro n M2 l3 l4 l5 l6 o hB
      exact fin 128 n M2 l3 l4 l5 l6 (BI_le hB) o hB
    · intro n M2 l3 l4 l5 l6 o hB
      by_cases hxn : n ≤ x
      · exact fin x n M2 l3 l4 l5 l6 hxn o hB
      · obtain ⟨a, a1, a2, a3⟩ := hB.1 x (by omega)
        have hn := BI_le hB
        have go := h_333n (Q := Q) (D := D) (nn := nn) hY hS hDd hF hfit (by omega) hQ1 hx a2 (fun n M2 l5 l6 o hB => ih n M2 _ _ l5 l6 o hB) 0 (by omega) n M2 l5 l6 o hB (by omega) a1 a3 (fun j hj => by omega)
        rw [show ((0 : Nat) : Int) = 0 from rfl] at go
        clear fin ih hQ0 hQ1 hB hF hfit
        rw [s_333_69]
        simp (disch := omega) only [Option.toList_some, Option.toList_none, List.nil_append, List.cons_append, List.append_nil, true_and, and_true, not_true_eq_false, not_false_eq_true, true_implies, false_implies, implies_true, and_self, Int.reduceLT, Int.reduceLE, Int.reduceEq, Int.reduceNe, Int.reduceAdd, Int.reduceSub, Int.reduceMul, Int.reduceNeg, Int.reduceToNat, Int.toNat_natCast, ↓kk_ck, ↓kk_im, ↓kk_in, s_333_74, s_333_78, s_333_80, R1, R55, p9, p10, Int.toNat_natCast, a1]
        exact go
  clear hQ0 hQ1
  have roots : ∀ k : Nat, k ≤ 64 → ∀ (n : Nat) (M2 : vi_M), (∀ q, q ≠ 143 → q ≠ 144 → M2 q = M q) → RI (M 140) (M2 143) (M2 144) n k → vi_ok GG D 333 26 [some (.inr (.inr 112)), some (.inl (n : Int)), some (.inl (k : Int)), none, none, none, none] [] (Y, M2, nn) Q := by
    refine vi_dn (P := fun k => ∀ (n : Nat) (M2 : vi_M), (∀ q, q ≠ 143 → q ≠ 144 → M2 q = M q) → RI (M 140) (M2 143) (M2 144) n k → vi_ok GG D 333 26 [some (.inr (.inr 112)), some (.inl (n : Int)), some (.inl (k : Int)), none, none, none, none] [] (Y, M2, nn) Q) 64 ?_ fun k hk ih => ?_
    · intro n M2 o hR
      have := queue 0 (by omega) n M2 none none none none o (RI_e hR hF.1)
      rw [show ((0 : Nat) : Int) = 0 from rfl] at this
      clear queue hR hF hfit
      rw [s_333_26]
      simp (disch := omega) only [Option.toList_some, Option.toList_none, List.nil_append, List.cons_append, List.append_nil, true_and, and_true, not_true_eq_false, not_false_eq_true, true_implies, false_implies, implies_true, and_self, Int.reduceLT, Int.reduceLE, Int.reduceEq, Int.reduceNe, Int.reduceAdd, Int.reduceSub, Int.reduceMul, Int.reduceNeg, Int.reduceToNat, Int.toNat_natCast, ↓kk_ck, ↓kk_im, ↓kk_in, s_333_67]
      exact this
    · intro n M2 o hR
      clear queue
      have o140 : M2 140 k = M 140 k := by rw [o 140 (by omega) (by omega)]
      have hn : n ≤ k := by rw [← hR.2.2.2]; exact sN_le _ _
      rw [s_333_26]
      by_cases q : M 140 k = 0
      · have := ih n M2 o (RI_n hR q)
        clear ih hR hF hfit
        simp (disch := omega) only [Option.toList_some, Option.toList_none, List.nil_append, List.cons_append, List.append_nil, true_and, and_true, not_true_eq_false, not_false_eq_true, true_implies, false_implies, implies_true, and_self, Int.reduceLT, Int.reduceLE, Int.reduceEq, Int.reduceNe, Int.reduceAdd, Int.reduceSub, Int.reduceMul, Int.reduceNeg, Int.reduceToNat, Int.toNat_natCast, ↓kk_ck, ↓kk_im, ↓kk_in, s_333_32, s_333_36, s_333_38, s_333_41, s_333_61, R1, R51, p1, p2, Int.toNat_natCast, o140, q, vi_inc, ne_eq]
        exact this
      · have := ih (n + 1) (vi_rs (vi_rs M2 143 (vi_u (M2 143) k (k : Int))) 144 (vi_u (M2 144) n (k : Int))) (fun q h1 h2 => by rw [vi_rs_o h2, vi_rs_o h1]; exact o q h1 h2) (by rw [vi_rs_s, vi_rs_o (by omega), vi_rs_s]; exact RI_a hR hk q)
        have i144 : ∀ f : Nat → Int, vi_rs M2 143 f 144 = M2 144 := fun f => vi_rs_o (by omega)
        clear ih hR hF hfit
        simp (disch := omega) only [Option.toList_some, Option.toList_none, List.nil_append, List.cons_append, List.append_nil, true_and, and_true, not_true_eq_false, not_false_eq_true, true_implies, false_implies, implies_true, and_self, Int.reduceLT, Int.reduceLE, Int.reduceEq, Int.reduceNe, Int.reduceAdd, Int.reduceSub, Int.reduceMul, Int.reduceNeg, Int.reduceToNat, Int.toNat_natCast, ↓kk_ck, ↓kk_im, ↓kk_in, s_333_32, s_333_36, s_333_38, s_333_44, s_333_48, s_333_51, s_333_55, s_333_58, s_333_61, R1, R51, R54, R55, p1, p2, p7, p8, p9, p10, Int.toNat_natCast, o140, q, vi_ms_rs, i144, vi_inc, ne_eq]
        exact this
  clear queue
  have wipe : ∀ k : Nat, k ≤ 128 → vi_ok GG D 333 4 [some (.inr (.inr 112)), some (.inl 0), some (.inl (k : Int)), none, none, none, none] [] (Y, vi_rs M 143 (vi_m k (fun _ => -1) (M 143)), nn) Q := by
    refine vi_dn 128 ?_ fun k hk ih => ?_
    · have := roots 0 (by omega) 0 (vi_rs M 143 (vi_m 128 (fun _ => -1) (M 143))) (fun q h1 _ => vi_rs_o h1) ⟨fun v hv => by rw [vi_rs_s, vi_m_lt hv, if_neg (by omega)], fun i hi => by omega, fun v hv => by omega, rfl⟩
      rw [show ((0 : Nat) : Int) = 0 from rfl] at this
      clear roots hF hfit
      rw [s_333_4]
      simp (disch := omega) only [Option.toList_some, Option.toList_none, List.nil_append, List.cons_append, List.append_nil, true_and, and_true, not_true_eq_false, not_false_eq_true, true_implies, false_implies, implies_true, and_self, Int.reduceLT, Int.reduceLE, Int.reduceEq, Int.reduceNe, Int.reduceAdd, Int.reduceSub, Int.reduceMul, Int.reduceNeg, Int.reduceToNat, Int.toNat_natCast, ↓kk_ck, ↓kk_im, ↓kk_in, s_333_24]
      exact this
    · clear roots hF hfit
      rw [s_333_4]
      simp (disch := omega) only [Option.toList_some, Option.toList_none, List.nil_append, List.cons_append, List.append_nil, true_and, and_true, not_true_eq_false, not_false_eq_true, true_implies, false_implies, implies_true, and_self, Int.reduceLT, Int.reduceLE, Int.reduceEq, Int.reduceNe, Int.reduceAdd, Int.reduceSub, Int.reduceMul, Int.reduceNeg, Int.reduceToNat, Int.toNat_natCast, ↓kk_ck, ↓kk_im, ↓kk_in, s_333_11, s_333_15, s_333_18, R1, R54, p7, p8, vi_ms_rs, vi_rs_s, vi_rs_rs, vi_inc]
      rw [vi_m_s rfl]
      exact ih
  have := wipe 0 (by omega)
  rw [vi_m_0, vi_rs_id rfl, show ((0 : Nat) : Int) = 0 from rfl] at this
  clear wipe roots hF hfit
  simp (disch := omega) only [Option.toList_some, Option.toList_none, List.nil_append, List.cons_append, List.append_nil, true_and, and_true, not_true_eq_false, not_false_eq_true, true_implies, false_implies, implies_true, and_self, Int.reduceLT, Int.reduceLE, Int.reduceEq, Int.reduceNe, Int.reduceAdd, Int.reduceSub, Int.reduceMul, Int.reduceNeg, Int.reduceToNat, Int.toNat_natCast, ↓kk_ck, ↓kk_im, ↓kk_in, e_333, s_333_0]
  exact this
end
