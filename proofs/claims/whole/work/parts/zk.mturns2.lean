/-! turns0 (reference). -/
theorem ix_64 {r o : Nat} (hr : r < 64) (ho : o < 64) : vi_w32 (vi_w32 (64 * (r : Int)) + (o : Int)) = ((64 * r + o : Nat) : Int) := by
  rw [@vi_32 (64 * (r : Int)) (by omega) (by omega), vi_32 (by omega) (by omega)]; omega
/-- the table of what fits, so far -/
def ftV (r o t i : Nat) : Int := if i < 64 * r + o then vi_b (ftB (i / 64) (i % 64) 24) else if i = 64 * r + o then vi_b (ftB r o t) else 0
theorem ftV_n {r o i : Nat} (ho : o < 64) : ftV r o 24 i = ftV r (o + 1) 0 i := by
  unfold ftV
  by_cases h1 : i < 64 * r + o
  · rw [if_pos h1, if_pos (by omega)]
  · rw [if_neg h1]
    by_cases h2 : i = 64 * r + o
    · rw [if_pos h2, if_pos (by omega), h2, show (64 * r + o) / 64 = r by omega, show (64 * r + o) % 64 = o by omega]
    · rw [if_neg h2, if_neg (by omega)]
      split <;> rfl
theorem ftV_r {r i : Nat} : ftV r 64 0 i = ftV (r + 1) 0 0 i := by
  unfold ftV
  rw [show 64 * r + 64 = 64 * (r + 1) + 0 by omega]
  rfl
section
variable {D : Nat} {K : Option vi_V → vi_W → Prop} {Y : vi_Y} {M : vi_M} {nn : Nat × Nat} {Q : Option vi_V → vi_W → Prop}
/-- one turn laid -/
theorem h_328t (hY : kY Y 151) {up by_ : Nat} (hu : up < 6) (hb : by_ < 4) (hT : tuT M (4 * up + by_)) (hD : 1 ≤ D) {l4 l5 : Option vi_V}
    (ih : ∀ (M' : vi_M) l4 l5, (∀ p, p ≠ 138 → M' p = M p) → tuT M' (4 * up + (by_ + 1)) → vi_ok GG D 328 12 [some (.inr (.inr 112)), some (.inl ((4 * up + (by_ + 1) : Nat) : Int)), some (.inl (up : Int)), some (.inl ((by_ + 1 : Nat) : Int)), l4, l5] [] (Y, M', nn) Q) :
    vi_ok GG D 328 12 [some (.inr (.inr 112)), some (.inl ((4 * up + by_ : Nat) : Int)), some (.inl (up : Int)), some (.inl (by_ : Int)), l4, l5] [] (Y, M, nn) Q := by
  obtain ⟨R1, -, -, -, -, -, -, -, -, -, -, -, -, -, -, -, -, -, -, -, -, -, -, -, -, -, R49, -⟩ := y_112 hY (by omega)
  obtain ⟨p1, p2⟩ := y_138 hY (by omega)
  obtain ⟨n, hn⟩ : ∃ n, n = 4 * up + by_ := ⟨_, rfl⟩
  have hd : n / 4 = up := by omega
  have hm : n % 4 = by_ := by omega
  have hn24 : n < 24 := by omega
  obtain ⟨k1, k2, k3, -⟩ := tu_ok n hn24
  rw [hd, hm] at k1 k2 k3
  rw [show 4 * up + (by_ + 1) = n + 1 by omega] at ih
  rw [← hn] at hT ⊢
  obtain ⟨fr, hfr⟩ : ∃ fr, fr = sbG 6 up 0 by_ := ⟨_, rfl⟩
  have k329 := fun {D : Nat} {K : Option vi_V → vi_W → Prop} (hD : 1 ≤ D) => @k_329 D K up by_ hu hb k1 (Y, M, nn) hD
  rw [← hfr] at k1 k2 k3 k329
  obtain ⟨th, hth⟩ : ∃ th, th = thF up fr := ⟨_, rfl⟩
  have k330 := fun {M' : vi_M} {D : Nat} {K : Option vi_V → vi_W → Prop} (hD : 1 ≤ D) => @k_330 D K up fr hu k1 k2 (Y, M', nn) hD
  rw [← hth] at k3
  simp only [← hth] at k330
  have go := ih (vi_rs M 138 (vi_u (vi_u (vi_u (vi_u (vi_u (vi_u (M 138) (6 * n + 4) (up : Int)) (6 * n + 5) ((up ^^^ 1 : Nat) : Int)) (6 * n) (fr : Int)) (6 * n + 1) ((fr ^^^ 1 : Nat) : Int)) (6 * n + 2) (th : Int)) (6 * n + 3) ((th ^^^ 1 : Nat) : Int))) (some (.inl (fr : Int))) (some (.inl (th : Int))) (fun p hp => vi_rs_o hp) (fun t ht s hs => by
    rw [vi_rs_s]
    by_cases e : t = n
    · subst e
      have e0 : tuF t 0 = fr := by unfold tuF; rw [if_pos rfl, hd, hm, hfr]
      have e1 : tuF t 1 = fr ^^^ 1 := by unfold tuF; rw [if_neg (by omega), if_pos rfl, hd, hm, hfr]
      have e2 : tuF t 2 = th := by unfold tuF; rw [if_neg (by omega), if_neg (by omega), if_pos rfl, hd, hm, ← hfr, hth]
      have e3 : tuF t 3 = th ^^^ 1 := by unfold tuF; rw [if_neg (by omega), if_neg (by omega), if_neg (by omega), if_pos rfl, hd, hm, ← hfr, hth]
      have e4 : tuF t 4 = up := by unfold tuF; rw [if_neg (by omega), if_neg (by omega), if_neg (by omega), if_neg (by omega), if_pos rfl, hd]
      have e5 : tuF t 5 = up ^^^ 1 := by unfold tuF; rw [if_neg (by omega), if_neg (by omega), if_neg (by omega), if_neg (by omega), if_neg (by omega), hd]
      obtain rfl | rfl | rfl | rfl | rfl | rfl : s = 0 ∨ s = 1 ∨ s = 2 ∨ s = 3 ∨ s = 4 ∨ s = 5 := by omega
      · rw [e0, show 6 * t + 0 = 6 * t from rfl, vi_u_o (by omega), vi_u_o (by omega), vi_u_o (by omega), vi_u_s]
      · rw [e1, vi_u_o (by omega), vi_u_o (by omega), vi_u_s]
      · rw [e2, vi_u_o (by omega), vi_u_s]
      · rw [e3, vi_u_s]
      · rw [e4, vi_u_o (by omega), vi_u_o (by omega), vi_u_o (by omega), vi_u_o (by omega), vi_u_o (by omega), vi_u_s]
      · rw [e5, vi_u_o (by omega), vi_u_o (by omega), vi_u_o (by omega), vi_u_o (by omega), vi_u_s]
    · rw [vi_u_o (by omega), vi_u_o (by omega), vi_u_o (by omega), vi_u_o (by omega), vi_u_o (by omega), vi_u_o (by omega)]
      exact hT t (by omega) s hs)
  have e60 : (6 * (n : Int)).toNat = 6 * n := by omega
  have e61 : (6 * (n : Int) + 1).toNat = 6 * n + 1 := by omega
  have e62 : (6 * (n : Int) + 2).toNat = 6 * n + 2 := by omega
  have e63 : (6 * (n : Int) + 3).toNat = 6 * n + 3 := by omega
  have e64 : (6 * (n : Int) + 4).toNat = 6 * n + 4 := by omega
  have e65 : (6 * (n : Int) + 5).toNat = 6 * n + 5 := by omega
  clear ih hT hfr hth
  rw [s_328_12]
  simp (disch := omega) only [Option.toList_some, Option.toList_none, List.nil_append, List.cons_append, List.append_nil, true_and, and_true, not_true_eq_false, not_false_eq_true, true_implies, false_implies, implies_true, and_self, Int.reduceLT, Int.reduceLE, Int.reduceEq, Int.reduceNe, Int.reduceAdd, Int.reduceSub, Int.reduceMul, Int.reduceNeg, Int.reduceToNat, Int.toNat_natCast, ↓kk_ck, ↓kk_im, ↓kk_in, s_328_17, s_328_22, s_328_28, s_328_35, s_328_36, s_328_40, s_328_49, s_328_50, s_328_54, s_328_60, s_328_61, s_328_65, s_328_75, s_328_76, s_328_82, s_328_88, s_328_96, s_328_97, s_328_101, s_328_111, s_328_112, R1, R49, p1, p2, k329, k330, xor_1 up hu, xor_1 fr k1, xor_1 th k3, @vi_32 (6 * (n : Int) + 4) (by omega) (by omega), @vi_32 (6 * (n : Int) + 5) (by omega) (by omega), @vi_32 (6 * (n : Int) + 1) (by omega) (by omega), @vi_32 (6 * (n : Int) + 2) (by omega) (by omega), @vi_32 (6 * (n : Int) + 3) (by omega) (by omega), e61, e62, e63, e64, e65, @vi_32 (6 * (n : Int)) (by omega) (by omega), e60, Int.toNat_natCast, vi_ms_rs, vi_rs_s, vi_rs_rs, vi_inc]
  exact go
/-- one set against another, turn by turn -/
theorem h_328f (hY : kY Y 151) {r o : Nat} (hr : r < 64) (ho : o < 64) (hD : 2 ≤ D) {x1 : Int} {l5 : Option vi_V}
    (ih : ∀ M' : vi_M, (∀ p, p ≠ 139 → M' p = M p) → (∀ i, i < 4096 → M' 139 i = ftV r (o + 1) 0 i) → vi_ok GG D 328 137 [some (.inr (.inr 112)), some (.inl x1), some (.inl (r : Int)), some (.inl ((o + 1 : Nat) : Int)), some (.inl 24), l5] [] (Y, M', nn) Q) (hT : tuT M 24) :
    ∀ t : Nat, t ≤ 24 → ∀ M' : vi_M, (∀ p, p ≠ 139 → M' p = M p) → (∀ i, i < 4096 → M' 139 i = ftV r o t i) → vi_ok GG D 328 146 [some (.inr (.inr 112)), some (.inl x1), some (.inl (r : Int)), some (.inl (o : Int)), some (.inl (t : Int)), l5] [] (Y, M', nn) Q := by
  obtain ⟨R1, -, -, -, -, -, -, -, -, -, -, -, -, -, -, -, -, -, -, -, -, -, -, -, -, -, R49, R50, -⟩ := y_112 hY (by omega)
  obtain ⟨p1, p2⟩ := y_139 hY (by omega)
  refine vi_dn (P := fun t => ∀ M' : vi_M, (∀ p, p ≠ 139 → M' p = M p) → (∀ i, i < 4096 → M' 139 i = ftV r o t i) → vi_ok GG D 328 146 [some (.inr (.inr 112)), some (.inl x1), some (.inl (r : Int)), some (.inl (o : Int)), some (.inl (t : Int)), l5] [] (Y, M', nn) Q) 24 ?_ fun t ht iht => ?_
  · intro M' f hV
    have := ih M' f (fun i hi => by rw [hV i hi, ftV_n ho])
    clear ih hV
    rw [s_328_146]
    simp (disch := omega) only [Option.toList_some, Option.toList_none, List.nil_append, List.cons_append, List.append_nil, true_and, and_true, not_true_eq_false, not_false_eq_true, true_implies, false_implies, implies_true, and_self, Int.reduceLT, Int.reduceLE, Int.reduceEq, Int.reduceNe, Int.reduceAdd, Int.reduceSub, Int.reduceMul, Int.reduceNeg, Int.reduceToNat, Int.toNat_natCast, ↓kk_ck, ↓kk_im, ↓kk_in, s_328_201, vi_inc]
    exact this
  · intro M' f hV
    clear ih
    have hT' : tuT M' 24 := fun t ht s hs => by rw [f 138 (by omega)]; exact hT t ht s hs
    have k331 := fun {D : Nat} {K : Option vi_V → vi_W → Prop} (hD : 1 ≤ D) => @k_331 D K Y M' nn hY hT' r t hr ht hD
    have hts := tsF_lt (set := r) ht 6 (by omega)
    have hc : M' 139 (64 * r + o) = vi_b (ftB r o t) := by
      rw [hV _ (by omega)]
      unfold ftV
      rw [if_neg (by omega), if_pos rfl]
    have st : ∀ b : Bool, b = ftB r o (t + 1) → vi_ok GG D 328 194 [some (.inr (.inr 112)), some (.inl x1), some (.inl (r : Int)), some (.inl (o : Int)), some (.inl (t : Int)), l5] [.inl (vi_b b), .inl ((64 * r + o : Nat) : Int), .inr (.inr 139)] (Y, M', nn) Q := by
      intro b hb
      have := iht (vi_rs M' 139 (vi_u (M' 139) (64 * r + o) (vi_b b))) (fun p hp => by rw [vi_rs_o hp]; exact f p hp) (fun i hi => by
        rw [vi_rs_s]
        unfold ftV
        by_cases e : i = 64 * r + o
        · rw [e, vi_u_s, if_neg (by omega), if_pos rfl, hb]
        · rw [vi_u_o e, hV i hi]
          unfold ftV
          rw [if_neg e, if_neg e])
      clear iht hV
      simp (disch := omega) only [Option.toList_some, Option.toList_none, List.nil_append, List.cons_append, List.append_nil, true_and, and_true, not_true_eq_false, not_false_eq_true, true_implies, false_implies, implies_true, and_self, Int.reduceLT, Int.reduceLE, Int.reduceEq, Int.reduceNe, Int.reduceAdd, Int.reduceSub, Int.reduceMul, Int.reduceNeg, Int.reduceToNat, Int.toNat_natCast, ↓kk_ck, ↓kk_im, ↓kk_in, s_328_194, s_328_195, p1, p2, nar_b, Int.toNat_natCast, vi_ms_rs, vi_inc]
      exact this
    clear iht hV
    rw [ftB] at st
    rw [s_328_146]
    cases b1 : ftB r o t
    · rw [b1] at hc
      have hc' : M' 139 (64 * r + o) = 0 := hc
      by_cases q : tsF r t 6 &&& o = 0
      · have := st true (by rw [decide_eq_true q]; simp)
        have this' : vi_ok GG D 328 194 [some (.inr (.inr 112)), some (.inl x1), some (.inl (r : Int)), some (.inl (o : Int)), some (.inl (t : Int)), l5] [.inl 1, .inl ((64 * r + o : Nat) : Int), .inr (.inr 139)] (Y, M', nn) Q := this
        clear st hT hT'
        simp (disch := omega) only [Option.toList_some, Option.toList_none, List.nil_append, List.cons_append, List.append_nil, true_and, and_true, not_true_eq_false, not_false_eq_true, true_implies, false_implies, implies_true, and_self, Int.reduceLT, Int.reduceLE, Int.reduceEq, Int.reduceNe, Int.reduceAdd, Int.reduceSub, Int.reduceMul, Int.reduceNeg, Int.reduceToNat, Int.toNat_natCast, ↓kk_ck, ↓kk_im, ↓kk_in, s_328_153, s_328_157, s_328_167, s_328_173, s_328_174, s_328_177, s_328_184, s_328_186, s_328_189, R1, R50, p1, p2, @ix_64 r o hr ho, Int.toNat_natCast, hc', k331, @and_0 (tsF r t 6) o (by omega) q, ne_eq]
        exact this'
      · have := st false (by rw [b1, decide_eq_false q]; rfl)
        have this' : vi_ok GG D 328 194 [some (.inr (.inr 112)), some (.inl x1), some (.inl (r : Int)), some (.inl (o : Int)), some (.inl (t : Int)), l5] [.inl 0, .inl ((64 * r + o : Nat) : Int), .inr (.inr 139)] (Y, M', nn) Q := this
        clear st hT hT'
        simp (disch := omega) only [Option.toList_some, Option.toList_none, List.nil_append, List.cons_append, List.append_nil, true_and, and_true, not_true_eq_false, not_false_eq_true, true_implies, false_implies, implies_true, and_self, Int.reduceLT, Int.reduceLE, Int.reduceEq, Int.reduceNe, Int.reduceAdd, Int.reduceSub, Int.reduceMul, Int.reduceNeg, Int.reduceToNat, Int.toNat_natCast, ↓kk_ck, ↓kk_im, ↓kk_in, s_328_153, s_328_157, s_328_167, s_328_173, s_328_174, s_328_177, s_328_184, s_328_186, s_328_193, R1, R50, p1, p2, @ix_64 r o hr ho, Int.toNat_natCast, hc', k331, @and_x (tsF r t 6) o (by omega) q, ne_eq]
        exact this'
    · rw [b1] at hc
      have hc' : M' 139 (64 * r + o) = 1 := hc
      have := st true (by rw [b1]; rfl)
      have this' : vi_ok GG D 328 194 [some (.inr (.inr 112)), some (.inl x1), some (.inl (r : Int)), some (.inl (o : Int)), some (.inl (t : Int)), l5] [.inl 1, .inl ((64 * r + o : Nat) : Int), .inr (.inr 139)] (Y, M', nn) Q := this
      clear st hT hT'
      simp (disch := omega) only [Option.toList_some, Option.toList_none, List.nil_append, List.cons_append, List.append_nil, true_and, and_true, not_true_eq_false, not_false_eq_true, true_implies, false_implies, implies_true, and_self, Int.reduceLT, Int.reduceLE, Int.reduceEq, Int.reduceNe, Int.reduceAdd, Int.reduceSub, Int.reduceMul, Int.reduceNeg, Int.reduceToNat, Int.toNat_natCast, ↓kk_ck, ↓kk_im, ↓kk_in, s_328_153, s_328_157, s_328_167, s_328_173, s_328_174, s_328_189, R1, R50, p1, p2, @ix_64 r o hr ho, Int.toNat_natCast, hc', ne_eq]
      exact this'
theorem k_328 (hY : kY Y 151) (hz : ∀ i, i < 4096 → M 139 i = 0) (hD : 3 ≤ D)
    (hQ : ∀ M', (∀ p, p ≠ 138 → p ≠ 139 → M' p = M p) → tuT M' 24 → (∀ r o, r < 64 → o < 64 → M' 139 (64 * r + o) = vi_b (ftB r o 24)) → Q none (Y, M', nn)) : vi_call GG D 328 [.inr (.inr 112)] (Y, M, nn) Q := by
  obtain ⟨D, rfl⟩ : ∃ k, D = k + 1 := ⟨D - 1, by omega⟩
  have reds : ∀ r : Nat, r ≤ 64 → ∀ (M' : vi_M) (l3 l4 l5 : Option vi_V), (∀ p, p ≠ 138 → p ≠ 139 → M' p = M p) → tuT M' 24 → (∀ i, i < 4096 → M' 139 i = ftV r 0 0 i) → vi_ok GG D 328 129 [some (.inr (.inr 112)), some (.inl 24), some (.inl (r : Int)), l3, l4, l5] [] (Y, M', nn) Q := by
    refine vi_dn (P := fun r => ∀ (M' : vi_M) (l3 l4 l5 : Option vi_V), (∀ p, p ≠ 138 → p ≠ 139 → M' p = M p) → tuT M' 24 → (∀ i, i < 4096 → M' 139 i = ftV r 0 0 i) → vi_ok GG D 328 129 [some (.inr (.inr 112)), some (.inl 24), some (.inl (r : Int)), l3, l4, l5] [] (Y, M', nn) Q) 64 ?_ fun r hr ih => ?_
    · intro M' l3 l4 l5 f hT hV
      have := hQ M' f hT (fun r o hr ho => by
        rw [hV _ (by omega)]
        unfold ftV
        rw [if_pos (by omega), show (64 * r + o) / 64 = r by omega, show (64 * r + o) % 64 = o by omega])
      clear hQ hT hV
      rw [s_328_129]
      simp (disch := omega) only [Option.toList_some, Option.toList_none, List.nil_append, List.cons_append, List.append_nil, true_and, and_true, not_true_eq_false, not_false_eq_true, true_implies, false_implies, implies_true, and_self, Int.reduceLT, Int.reduceLE, Int.reduceEq, Int.reduceNe, Int.reduceAdd, Int.reduceSub, Int.reduceMul, Int.reduceNeg, Int.reduceToNat, Int.toNat_natCast, ↓kk_ck, ↓kk_im, ↓kk_in, s_328_213]
      exact this
    · intro M' l3 l4 l5 f hT hV
      clear hQ
      have outs : ∀ o : Nat, o ≤ 64 → ∀ (M' : vi_M) (l4 : Option vi_V), (∀ p, p ≠ 138 → p ≠ 139 → M' p = M p) → tuT M' 24 → (∀ i, i < 4096 → M' 139 i = ftV r o 0 i) → vi_ok GG D 328 137 [some (.inr (.inr 112)), some (.inl 24), some (.inl (r : Int)), some (.inl (o : Int)), l4, l5] [] (Y, M', nn) Q := by
        refine vi_dn (P := fun o => ∀ (M' : vi_M) (l4 : Option vi_V), (∀ p, p ≠ 138 → p ≠ 139 → M' p = M p) → tuT M' 24 → (∀ i, i < 4096 → M' 139 i = ftV r o 0 i) → vi_ok GG D 328 137 [some (.inr (.inr 112)), some (.inl 24), some (.inl (r : Int)), some (.inl (o : Int)), l4, l5] [] (Y, M', nn) Q) 64 ?_ fun o ho iho => ?_
        · intro M' l4 f hT hV
          have := ih M' (some (.inl 64)) l4 l5 f hT (fun i hi => by rw [hV i hi, ftV_r])
          clear ih hT hV
          rw [s_328_137]
          simp (disch := omega) only [Option.toList_some, Option.toList_none, List.nil_append, List.cons_append, List.append_nil, true_and, and_true, not_true_eq_false, not_false_eq_true, true_implies, false_implies, implies_true, and_self, Int.reduceLT, Int.reduceLE, Int.reduceEq, Int.reduceNe, Int.reduceAdd, Int.reduceSub, Int.reduceMul, Int.reduceNeg, Int.reduceToNat, Int.toNat_natCast, ↓kk_ck, ↓kk_im, ↓kk_in, s_328_207, vi_inc]
          exact this
        · intro M' l4 f hT hV
          have go := h_328f (Q := Q) (D := D) (nn := nn) (M := M') (x1 := 24) hY hr ho (by omega) (fun M2 f2 h2 => iho M2 _ (fun p h1 h2 => by rw [f2 p h2]; exact f p h1 h2) (fun t ht s hs => by rw [f2 138 (by omega)]; exact hT t ht s hs) h2) hT 0 (by omega) M' (fun _ _ => rfl) hV
          rw [show ((0 : Nat) : Int) = 0 from rfl] at go
          clear ih iho hT hV
          rw [s_328_137]
          simp (disch := omega) only [Option.toList_some, Option.toList_none, List.nil_append, List.cons_append, List.append_nil, true_and, and_true, not_true_eq_false, not_false_eq_true, true_implies, false_implies, implies_true, and_self, Int.reduceLT, Int.reduceLE, Int.reduceEq, Int.reduceNe, Int.reduceAdd, Int.reduceSub, Int.reduceMul, Int.reduceNeg, Int.reduceToNat, Int.toNat_natCast, ↓kk_ck, ↓kk_im, ↓kk_in, s_328_143]
          exact go
      have := outs 0 (by omega) M' l4 f hT hV
      rw [show ((0 : Nat) : Int) = 0 from rfl] at this
      clear outs ih hT hV
      rw [s_328_129]
      simp (disch := omega) only [Option.toList_some, Option.toList_none, List.nil_append, List.cons_append, List.append_nil, true_and, and_true, not_true_eq_false, not_false_eq_true, true_implies, false_implies, implies_true, and_self, Int.reduceLT, Int.reduceLE, Int.reduceEq, Int.reduceNe, Int.reduceAdd, Int.reduceSub, Int.reduceMul, Int.reduceNeg, Int.reduceToNat, Int.toNat_natCast, ↓kk_ck, ↓kk_im, ↓kk_in, s_328_135]
      exact this
  clear hQ
  have ups : ∀ up : Nat, up ≤ 6 → ∀ (M' : vi_M) (l3 l4 l5 : Option vi_V), (∀ p, p ≠ 138 → M' p = M p) → tuT M' (4 * up) → vi_ok GG D 328 4 [some (.inr (.inr 112)), some (.inl ((4 * up : Nat) : Int)), some (.inl (up : Int)), l3, l4, l5] [] (Y, M', nn) Q := by
    refine vi_dn (P := fun up => ∀ (M' : vi_M) (l3 l4 l5 : Option vi_V), (∀ p, p ≠ 138 → M' p = M p) → tuT M' (4 * up) → vi_ok GG D 328 4 [some (.inr (.inr 112)), some (.inl ((4 * up : Nat) : Int)), some (.inl (up : Int)), l3, l4, l5] [] (Y, M', nn) Q) 6 ?_ fun up hu ih => ?_
    · intro M' l3 l4 l5 f hT
      have := reds 0 (by omega) M' l3 l4 l5 (fun p h1 h2 => f p h1) hT (fun i hi => by
        rw [f 139 (by omega), hz i hi]
        unfold ftV
        rw [if_neg (by omega)]
        split <;> rfl)
      rw [show ((0 : Nat) : Int) = 0 from rfl] at this
      clear reds hT
      rw [s_328_4]
      simp (disch := omega) only [Option.toList_some, Option.toList_none, List.nil_append, List.cons_append, List.append_nil, true_and, and_true, not_true_eq_false, not_false_eq_true, true_implies, false_implies, implies_true, and_self, Int.reduceLT, Int.reduceLE, Int.reduceEq, Int.reduceNe, Int.reduceAdd, Int.reduceSub, Int.reduceMul, Int.reduceNeg, Int.reduceToNat, Int.toNat_natCast, ↓kk_ck, ↓kk_im, ↓kk_in, s_328_127]
      exact this
    · intro M' l3 l4 l5 f hT
      clear reds
      have bys : ∀ b : Nat, b ≤ 4 → ∀ (M' : vi_M) (l4 l5 : Option vi_V), (∀ p, p ≠ 138 → M' p = M p) → tuT M' (4 * up + b) → vi_ok GG D 328 12 [some (.inr (.inr 112)), some (.inl ((4 * up + b : Nat) : Int)), some (.inl (up : Int)), some (.inl (b : Int)), l4, l5] [] (Y, M', nn) Q := by
        refine vi_dn (P := fun b => ∀ (M' : vi_M) (l4 l5 : Option vi_V), (∀ p, p ≠ 138 → M' p = M p) → tuT M' (4 * up + b) → vi_ok GG D 328 12 [some (.inr (.inr 112)), some (.inl ((4 * up + b : Nat) : Int)), some (.inl (up : Int)), some (.inl (b : Int)), l4, l5] [] (Y, M', nn) Q) 4 ?_ fun b hb ihb => ?_
        · intro M' l4 l5 f hT
          have := ih M' (some (.inl 4)) l4 l5 f hT
          rw [show 4 * up + 4 = 4 * (up + 1) by omega]
          clear ih hT
          rw [s_328_12]
          simp (disch := omega) only [Option.toList_some, Option.toList_none, List.nil_append, List.cons_append, List.append_nil, true_and, and_true, not_true_eq_false, not_false_eq_true, true_implies, false_implies, implies_true, and_self, Int.reduceLT, Int.reduceLE, Int.reduceEq, Int.reduceNe, Int.reduceAdd, Int.reduceSub, Int.reduceMul, Int.reduceNeg, Int.reduceToNat, Int.toNat_natCast, ↓kk_ck, ↓kk_im, ↓kk_in, s_328_121, vi_inc]
          exact this
        · intro M' l4 l5 f hT
          exact h_328t hY hu hb hT (by omega) (fun M2 l4 l5 f2 hT2 => ihb M2 l4 l5 (fun p hp => by rw [f2 p hp]; exact f p hp) hT2)
      have := bys 0 (by omega) M' l4 l5 f hT
      rw [show ((0 : Nat) : Int) = 0 from rfl, Nat.add_zero] at this
      clear bys ih hT
      rw [s_328_4]
      simp (disch := omega) only [Option.toList_some, Option.toList_none, List.nil_append, List.cons_append, List.append_nil, true_and, and_true, not_true_eq_false, not_false_eq_true, true_implies, false_implies, implies_true, and_self, Int.reduceLT, Int.reduceLE, Int.reduceEq, Int.reduceNe, Int.reduceAdd, Int.reduceSub, Int.reduceMul, Int.reduceNeg, Int.reduceToNat, Int.toNat_natCast, ↓kk_ck, ↓kk_im, ↓kk_in, s_328_10]
      exact this
  have := ups 0 (by omega) M none none none (fun _ _ => rfl) (fun t ht => by omega)
  rw [Nat.mul_zero, show ((0 : Nat) : Int) = 0 from rfl] at this
  clear ups reds
  simp (disch := omega) only [Option.toList_some, Option.toList_none, List.nil_append, List.cons_append, List.append_nil, true_and, and_true, not_true_eq_false, not_false_eq_true, true_implies, false_implies, implies_true, and_self, Int.reduceLT, Int.reduceLE, Int.reduceEq, Int.reduceNe, Int.reduceAdd, Int.reduceSub, Int.reduceMul, Int.reduceNeg, Int.reduceToNat, Int.toNat_natCast, ↓kk_ck, ↓kk_im, ↓kk_in, e_328, s_328_0]
  exact this
end
