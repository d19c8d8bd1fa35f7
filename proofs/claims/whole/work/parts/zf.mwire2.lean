/-! wires, wire (reference). -/
def wIs (B : Nat → Nat → Bool) (m : Nat) : Bool := decide (m = 0) || (List.range m).any (fun k => wE B m m (2 ^ k) k)
noncomputable def wiF (M : vi_M) (L : Nat → Bool) (i : Int) : Int :=
  if i = -2 then vi_b (baB L) else if baB L = true then (if i = -1 then 0 else -1) else if 14 < sN 216 L then -1 else
  if i = -1 then vi_b (wIs (wB2 M (fun k => (lcL L 216).getD k 0)) (sN 216 L)) else if wIs (wB2 M (fun k => (lcL L 216).getD k 0)) (sN 216 L) = true ∧ i < (sN 216 L : Int) then
    (((lcL L 216).getD (wSt (wB2 M (fun k => (lcL L 216).getD k 0)) (sN 216 L) (i.toNat + 1)).2 0 : Nat) : Int) else -1
theorem wB2_c {M M' : vi_M} (h : M' 114 = M 114) {W : Nat → Nat} : wB2 M' W = wB2 M W := by
  funext k j
  unfold wB2
  have : ∀ d : Nat, abB M' (W k : Int) (W j : Int) d = abB M (W k : Int) (W j : Int) d := fun d => by
    induction d with
    | zero => rfl
    | succ d ih => rw [abB, abB, ih, mBe_c h]
  exact this 6
section
variable {D : Nat} {K : Option vi_V → vi_W → Prop} {Y : vi_Y} {M : vi_M} {nn : Nat × Nat} {Q : Option vi_V → vi_W → Prop}
theorem k_338 (hY : kY Y 151) (hB : mBx M) {W : Nat → Nat} {m : Nat} (hm : m ≤ 14) (hW : wCl M W m) (hD : 5 ≤ D)
    (hQ : ∀ M' : vi_M, (∀ p, p ≠ 146 → M' p = M p) → wTb (wB2 M W) m 0 (M' 146) → Q (some (.inl (vi_b (wIs (wB2 M W) m)))) (Y, M', nn)) : vi_call GG D 338 [.inr (.inr 112), .inl (m : Int)] (Y, M, nn) Q := by
  obtain ⟨D, rfl⟩ : ∃ k, D = k + 1 := ⟨D - 1, by omega⟩
  obtain ⟨R1, -, -, -, -, -, -, -, -, -, -, -, -, -, -, -, -, -, -, -, -, -, -, -, -, -, -, -, -, -, -, -, -, R56, R57, -⟩ := y_112 hY (by omega)
  obtain ⟨p3, p4⟩ := y_146 hY (by omega)
  have h14 : 2 ^ m ≤ 2 ^ 14 := Nat.pow_le_pow_right (by omega) hm
  have hp := Nat.two_pow_pos m
  obtain ⟨B, hBB⟩ : ∃ B, B = wB2 M W := ⟨_, rfl⟩
  rw [← hBB] at hQ
  -- the second loop: is there one
  have second : ∀ M' : vi_M, (∀ p, p ≠ 146 → M' p = M p) → wTb B m 0 (M' 146) → ∀ k : Nat, k ≤ m → (∀ j, j < k → wE B m m (2 ^ j) j = false) → ∀ l3, vi_ok GG D 338 66 [some (.inr (.inr 112)), some (.inl (m : Int)), some (.inl (k : Int)), l3] [] (Y, M', nn) Q := by
    intro M' o hT
    have hq := hQ M' o hT
    clear hQ
    refine vi_dn (P := fun k => (∀ j, j < k → wE B m m (2 ^ j) j = false) → ∀ l3, vi_ok GG D 338 66 [some (.inr (.inr 112)), some (.inl (m : Int)), some (.inl (k : Int)), l3] [] (Y, M', nn) Q) m ?_ fun k hk ih => ?_
    · intro hno l3
      have ha : (List.range m).any (fun k => wE B m m (2 ^ k) k) = false := by
        rw [List.any_eq_false]
        intro k hk
        rw [List.mem_range] at hk
        rw [hno k hk]; simp
      unfold wIs at hq
      rw [ha, Bool.or_false] at hq
      rw [s_338_66]
      by_cases h0 : m = 0
      · rw [decide_eq_true h0] at hq
        have h0' : (m : Int) = 0 := by omega
        clear hno hT
        simp (disch := omega) only [Option.toList_some, Option.toList_none, List.nil_append, List.cons_append, List.append_nil, true_and, and_true, not_true_eq_false, not_false_eq_true, true_implies, false_implies, implies_true, and_self, Int.reduceLT, Int.reduceLE, Int.reduceEq, Int.reduceNe, Int.reduceAdd, Int.reduceSub, Int.reduceMul, Int.reduceNeg, Int.reduceToNat, Int.toNat_natCast, ↓kk_ck, ↓kk_im, ↓kk_in, s_338_95, s_338_99, s_338_104, h0', ne_eq]
        exact hq
      · rw [decide_eq_false h0] at hq
        have h0' : ¬ (m : Int) = 0 := by omega
        clear hno hT
        simp (disch := omega) only [Option.toList_some, Option.toList_none, List.nil_append, List.cons_append, List.append_nil, true_and, and_true, not_true_eq_false, not_false_eq_true, true_implies, false_implies, implies_true, and_self, Int.reduceLT, Int.reduceLE, Int.reduceEq, Int.reduceNe, Int.reduceAdd, Int.reduceSub, Int.reduceMul, Int.reduceNeg, Int.reduceToNat, Int.toNat_natCast, ↓kk_ck, ↓kk_im, ↓kk_in, s_338_95, s_338_103, s_338_104, h0', ne_eq]
        exact hq
    · intro hno l3
      have hpk : 2 ^ k < 2 ^ m := Nat.pow_lt_pow_right (by omega) hk
      have ht := hT (2 ^ k) (Nat.two_pow_pos k) hpk k hk
      rw [Nat.testBit_two_pow_self, Bool.true_and] at ht
      have eb : (2 ^ k * 14 + k : Nat) < 229376 := by omega
      rw [s_338_66]
      cases hb : wE B m m (2 ^ k) k
      · rw [hb] at ht
        have ht' : M' 146 (2 ^ k * 14 + k) = 0 := ht
        have := ih (fun j hj => by
          by_cases e : j = k
          · rw [e]; exact hb
          · exact hno j (by omega)) l3
        clear ih hq hno hT
        simp (disch := omega) only [Option.toList_some, Option.toList_none, List.nil_append, List.cons_append, List.append_nil, true_and, and_true, not_true_eq_false, not_false_eq_true, true_implies, false_implies, implies_true, and_self, Int.reduceLT, Int.reduceLE, Int.reduceEq, Int.reduceNe, Int.reduceAdd, Int.reduceSub, Int.reduceMul, Int.reduceNeg, Int.reduceToNat, Int.toNat_natCast, ↓kk_ck, ↓kk_im, ↓kk_in, s_338_71, s_338_75, s_338_83, s_338_84, s_338_89, R1, R57, p3, p4, sh_14 (show k ≤ 14 by omega), @ix_14 (2 ^ k) k (by omega) (by omega), Int.toNat_natCast, ht', vi_inc, ne_eq]
        exact this
      · rw [hb] at ht
        have ht' : M' 146 (2 ^ k * 14 + k) = 1 := ht
        have ha : (List.range m).any (fun k => wE B m m (2 ^ k) k) = true := List.any_eq_true.mpr ⟨k, List.mem_range.mpr hk, hb⟩
        unfold wIs at hq
        rw [ha, Bool.or_true] at hq
        clear ih hno hT
        simp (disch := omega) only [Option.toList_some, Option.toList_none, List.nil_append, List.cons_append, List.append_nil, true_and, and_true, not_true_eq_false, not_false_eq_true, true_implies, false_implies, implies_true, and_self, Int.reduceLT, Int.reduceLE, Int.reduceEq, Int.reduceNe, Int.reduceAdd, Int.reduceSub, Int.reduceMul, Int.reduceNeg, Int.reduceToNat, Int.toNat_natCast, ↓kk_ck, ↓kk_im, ↓kk_in, s_338_71, s_338_75, s_338_83, s_338_84, s_338_87, R1, R57, p3, p4, sh_14 (show k ≤ 14 by omega), @ix_14 (2 ^ k) k (by omega) (by omega), Int.toNat_natCast, ht', ne_eq]
        exact hq
  clear hQ
  have first : ∀ s : Nat, s < 2 ^ m → ∀ (M' : vi_M) (l3 : Option vi_V), (∀ p, p ≠ 146 → M' p = M p) → wTb B m s (M' 146) → vi_ok GG D 338 6 [some (.inr (.inr 112)), some (.inl (m : Int)), some (.inl (s : Int)), l3] [] (Y, M', nn) Q := by
    intro s
    induction s with
    | zero =>
      intro _ M' l3 o hT
      have := second M' o hT 0 (by omega) (fun j hj => by omega) l3
      rw [show ((0 : Nat) : Int) = 0 from rfl] at this
      rw [s_338_6]
      clear second hT
      simp (disch := omega) only [Option.toList_some, Option.toList_none, List.nil_append, List.cons_append, List.append_nil, true_and, and_true, not_true_eq_false, not_false_eq_true, true_implies, false_implies, implies_true, and_self, Int.reduceLT, Int.reduceLE, Int.reduceEq, Int.reduceNe, Int.reduceAdd, Int.reduceSub, Int.reduceMul, Int.reduceNeg, Int.reduceToNat, Int.toNat_natCast, ↓kk_ck, ↓kk_im, ↓kk_in, s_338_64]
      exact this
    | succ s ihs =>
      intro hs M' l3 o hT
      have hb14 : s + 1 < 16384 := by omega
      have inner : ∀ k : Nat, k ≤ m → ∀ M' : vi_M, (∀ p, p ≠ 146 → M' p = M p) → wTb B m (s + 1) (M' 146) → (∀ j, j < k → M' 146 ((s + 1) * 14 + j) = vi_b ((s + 1).testBit j && wE B m m (s + 1) j)) → vi_ok GG D 338 12 [some (.inr (.inr 112)), some (.inl (m : Int)), some (.inl ((s + 1 : Nat) : Int)), some (.inl (k : Int))] [] (Y, M', nn) Q := by
        refine vi_dn (P := fun k => ∀ M' : vi_M, (∀ p, p ≠ 146 → M' p = M p) → wTb B m (s + 1) (M' 146) → (∀ j, j < k → M' 146 ((s + 1) * 14 + j) = vi_b ((s + 1).testBit j && wE B m m (s + 1) j)) → vi_ok GG D 338 12 [some (.inr (.inr 112)), some (.inl (m : Int)), some (.inl ((s + 1 : Nat) : Int)), some (.inl (k : Int))] [] (Y, M', nn) Q) m ?_ fun k hk ihk => ?_
        · intro M' o hT hrow
          have := ihs (by omega) M' (some (.inl (m : Int))) o (fun set h1 h2 k hk => by
            by_cases e : set = s + 1
            · rw [e]; exact hrow k hk
            · exact hT set (by omega) h2 k hk)
          rw [s_338_12]
          clear ihs hT hrow second
          simp (disch := omega) only [Option.toList_some, Option.toList_none, List.nil_append, List.cons_append, List.append_nil, true_and, and_true, not_true_eq_false, not_false_eq_true, true_implies, false_implies, implies_true, and_self, Int.reduceLT, Int.reduceLE, Int.reduceEq, Int.reduceNe, Int.reduceAdd, Int.reduceSub, Int.reduceMul, Int.reduceNeg, Int.reduceToNat, Int.toNat_natCast, ↓kk_ck, ↓kk_im, ↓kk_in, s_338_58, @dec_1 s (by omega)]
          exact this
        · intro M' o hT hrow
          clear ihs second
          have eb : ((s + 1) * 14 + k : Nat) < 229376 := by omega
          have st : ∀ b : Bool, b = ((s + 1).testBit k && wE B m m (s + 1) k) → vi_ok GG D 338 52 [some (.inr (.inr 112)), some (.inl (m : Int)), some (.inl ((s + 1 : Nat) : Int)), some (.inl (k : Int))] [] (Y, vi_rs M' 146 (vi_u (M' 146) ((s + 1) * 14 + k) (vi_b b)), nn) Q := by
            intro b hbe
            have := ihk (vi_rs M' 146 (vi_u (M' 146) ((s + 1) * 14 + k) (vi_b b))) (fun p hp => by rw [vi_rs_o hp]; exact o p hp) (fun set h1 h2 j hj => by rw [vi_rs_s, vi_u_o (by omega)]; exact hT set h1 h2 j hj) (fun j hj => by
              rw [vi_rs_s]
              by_cases e : j = k
              · rw [e, vi_u_s, hbe]
              · rw [vi_u_o (by omega)]; exact hrow j (by omega))
            clear ihk hT hrow
            simp (disch := omega) only [Option.toList_some, Option.toList_none, List.nil_append, List.cons_append, List.append_nil, true_and, and_true, not_true_eq_false, not_false_eq_true, true_implies, false_implies, implies_true, and_self, Int.reduceLT, Int.reduceLE, Int.reduceEq, Int.reduceNe, Int.reduceAdd, Int.reduceSub, Int.reduceMul, Int.reduceNeg, Int.reduceToNat, Int.toNat_natCast, ↓kk_ck, ↓kk_im, ↓kk_in, s_338_52, vi_inc]
            exact this
          have hWM : wCl M' W m := fun k hk => by rw [o 145 (by omega)]; exact ⟨(hW k hk).1, mIc_c (o 114 (by omega)) (hW k hk).2⟩
          have hBM : wB2 M' W = B := by rw [wB2_c (o 114 (by omega)), hBB]
          have k337 := fun {D : Nat} {K : Option vi_V → vi_W → Prop} (hD : 4 ≤ D) => @k_337 D K Y M' nn hY (mBx_c (o 114 (by omega)) hB) W m hm hWM (s + 1) k hs hk (by rw [hBM]; exact hT) hD
          rw [hBM] at k337
          clear ihk hT hrow
          rw [s_338_12]
          cases b1 : (s + 1).testBit k
          · have := st false (by rw [b1]; rfl)
            have this' : vi_ok GG D 338 52 [some (.inr (.inr 112)), some (.inl (m : Int)), some (.inl ((s + 1 : Nat) : Int)), some (.inl (k : Int))] [] (Y, vi_rs M' 146 (vi_u (M' 146) ((s + 1) * 14 + k) 0), nn) Q := this
            clear st
            simp (disch := omega) only [Option.toList_some, Option.toList_none, List.nil_append, List.cons_append, List.append_nil, true_and, and_true, not_true_eq_false, not_false_eq_true, true_implies, false_implies, implies_true, and_self, Int.reduceLT, Int.reduceLE, Int.reduceEq, Int.reduceNe, Int.reduceAdd, Int.reduceSub, Int.reduceMul, Int.reduceNeg, Int.reduceToNat, Int.toNat_natCast, ↓kk_ck, ↓kk_im, ↓kk_in, s_338_17, s_338_21, s_338_33, s_338_50, s_338_51, R1, R57, p3, p4, @bit_f (s + 1) k (by omega) (by omega) b1, @ix_14 (s + 1) k (by omega) (by omega), Int.toNat_natCast, nar_0, vi_ms_rs, ne_eq]
            exact this'
          · cases b2 : wE B m m (s + 1) k
            · have := st false (by rw [b1, b2]; rfl)
              rw [b2] at k337
              have this' : vi_ok GG D 338 52 [some (.inr (.inr 112)), some (.inl (m : Int)), some (.inl ((s + 1 : Nat) : Int)), some (.inl (k : Int))] [] (Y, vi_rs M' 146 (vi_u (M' 146) ((s + 1) * 14 + k) 0), nn) Q := this
              clear st
              simp (disch := omega) only [Option.toList_some, Option.toList_none, List.nil_append, List.cons_append, List.append_nil, true_and, and_true, not_true_eq_false, not_false_eq_true, true_implies, false_implies, implies_true, and_self, Int.reduceLT, Int.reduceLE, Int.reduceEq, Int.reduceNe, Int.reduceAdd, Int.reduceSub, Int.reduceMul, Int.reduceNeg, Int.reduceToNat, Int.toNat_natCast, ↓kk_ck, ↓kk_im, ↓kk_in, s_338_17, s_338_21, s_338_33, s_338_36, s_338_43, s_338_50, s_338_51, R1, R57, p3, p4, @bit_t (s + 1) k (by omega) (by omega) b1, @ix_14 (s + 1) k (by omega) (by omega), k337, vi_bf, Int.toNat_natCast, nar_0, vi_ms_rs, ne_eq]
              exact this'
            · have := st true (by rw [b1, b2]; rfl)
              rw [b2] at k337
              have this' : vi_ok GG D 338 52 [some (.inr (.inr 112)), some (.inl (m : Int)), some (.inl ((s + 1 : Nat) : Int)), some (.inl (k : Int))] [] (Y, vi_rs M' 146 (vi_u (M' 146) ((s + 1) * 14 + k) 1), nn) Q := this
              clear st
              simp (disch := omega) only [Option.toList_some, Option.toList_none, List.nil_append, List.cons_append, List.append_nil, true_and, and_true, not_true_eq_false, not_false_eq_true, true_implies, false_implies, implies_true, and_self, Int.reduceLT, Int.reduceLE, Int.reduceEq, Int.reduceNe, Int.reduceAdd, Int.reduceSub, Int.reduceMul, Int.reduceNeg, Int.reduceToNat, Int.toNat_natCast, ↓kk_ck, ↓kk_im, ↓kk_in, s_338_17, s_338_21, s_338_33, s_338_36, s_338_43, s_338_46, s_338_51, R1, R57, p3, p4, @bit_t (s + 1) k (by omega) (by omega) b1, @ix_14 (s + 1) k (by omega) (by omega), k337, vi_bt, Int.toNat_natCast, nar_1, vi_ms_rs, ne_eq]
              exact this'
      have := inner 0 (by omega) M' o hT (fun j hj => by omega)
      rw [show ((0 : Nat) : Int) = 0 from rfl] at this
      rw [s_338_6]
      clear inner ihs second hT
      simp (disch := omega) only [Option.toList_some, Option.toList_none, List.nil_append, List.cons_append, List.append_nil, true_and, and_true, not_true_eq_false, not_false_eq_true, true_implies, false_implies, implies_true, and_self, Int.reduceLT, Int.reduceLE, Int.reduceEq, Int.reduceNe, Int.reduceAdd, Int.reduceSub, Int.reduceMul, Int.reduceNeg, Int.reduceToNat, Int.toNat_natCast, ↓kk_ck, ↓kk_im, ↓kk_in, s_338_10]
      exact this
  have := first (2 ^ m - 1) (by omega) M none (fun _ _ => rfl) (fun set h1 h2 => by omega)
  clear first second
  simp (disch := omega) only [Option.toList_some, Option.toList_none, List.nil_append, List.cons_append, List.append_nil, true_and, and_true, not_true_eq_false, not_false_eq_true, true_implies, false_implies, implies_true, and_self, Int.reduceLT, Int.reduceLE, Int.reduceEq, Int.reduceNe, Int.reduceAdd, Int.reduceSub, Int.reduceMul, Int.reduceNeg, Int.reduceToNat, Int.toNat_natCast, ↓kk_ck, ↓kk_im, ↓kk_in, e_338, s_338_0, sh_14 hm, pw_1 hm]
  exact this
theorem k_339n (hY : kY Y 151) {i : Int} (h : i < -2) (hD : 1 ≤ D) : vi_call GG D 339 [.inr (.inr 112), .inl i] (Y, M, nn) K ↔ K (some (.inl (-1))) (Y, M, nn) := by
  obtain ⟨D, rfl⟩ : ∃ k, D = k + 1 := ⟨D - 1, by omega⟩
  refine vi_k (r := some (.inl _)) fun Q hQ => ?_
  simp (disch := omega) only [Option.toList_some, Option.toList_none, List.nil_append, List.cons_append, List.append_nil, true_and, and_true, not_true_eq_false, not_false_eq_true, true_implies, false_implies, implies_true, and_self, Int.reduceLT, Int.reduceLE, Int.reduceEq, Int.reduceNe, Int.reduceAdd, Int.reduceSub, Int.reduceMul, Int.reduceNeg, Int.reduceToNat, Int.toNat_natCast, ↓kk_ck, ↓kk_im, ↓kk_in, e_339, s_339_0, s_339_6]
  exact hQ
/-- step by step along the wire -/
theorem h_339w (hY : kY Y 151) (hB : mBx M) {W : Nat → Nat} {m : Nat} (hm : m ≤ 14) (hW : wCl M W m) {B : Nat → Nat → Bool} (hBB : B = wB2 M W) (hT : wTb B m 0 (M 146)) (hw : ∃ k, k < m ∧ wE B m m (2 ^ k) k = true) {i : Nat} (hi : i < m) (hD : 4 ≤ D) {x2 x3 x4 x5 : Int}
    (hQ : Q (some (.inl (W (wSt B m (i + 1)).2 : Int))) (Y, M, nn)) :
    ∀ k : Nat, k ≤ i + 1 → ∀ (a : Int) (l9 : Option vi_V), (0 < k → a = ((wSt B m k).2 : Int)) → vi_ok GG D 339 154 [some (.inr (.inr 112)), some (.inl (i : Int)), some (.inl x2), some (.inl x3), some (.inl x4), some (.inl x5), some (.inl ((wSt B m k).1 : Int)), some (.inl a), some (.inl (k : Int)), l9] [] (Y, M, nn) Q := by
  obtain ⟨R1, -, -, -, -, -, -, -, -, -, -, -, -, -, -, -, -, -, -, -, -, -, -, -, -, -, -, -, -, -, -, -, -, R56, R57, -⟩ := y_112 hY (by omega)
  obtain ⟨p1, p2⟩ := y_145 hY (by omega)
  obtain ⟨p3, p4⟩ := y_146 hY (by omega)
  have h14 : 2 ^ m ≤ 2 ^ 14 := Nat.pow_le_pow_right (by omega) hm
  refine vi_dn (P := fun k => ∀ (a : Int) (l9 : Option vi_V), (0 < k → a = ((wSt B m k).2 : Int)) → vi_ok GG D 339 154 [some (.inr (.inr 112)), some (.inl (i : Int)), some (.inl x2), some (.inl x3), some (.inl x4), some (.inl x5), some (.inl ((wSt B m k).1 : Int)), some (.inl a), some (.inl (k : Int)), l9] [] (Y, M, nn) Q) _ ?_ fun k hk ih => ?_
  · intro a l9 ha
    have ha := ha (by omega)
    obtain ⟨-, -, s3, -⟩ := wSt_i hw (i + 1) (by omega)
    have hlt := (s3 (by omega)).1
    have hc := (hW _ hlt).1
    subst ha
    clear s3 hT
    rw [s_339_154]
    simp (disch := omega) only [Option.toList_some, Option.toList_none, List.nil_append, List.cons_append, List.append_nil, true_and, and_true, not_true_eq_false, not_false_eq_true, true_implies, false_implies, implies_true, and_self, Int.reduceLT, Int.reduceLE, Int.reduceEq, Int.reduceNe, Int.reduceAdd, Int.reduceSub, Int.reduceMul, Int.reduceNeg, Int.reduceToNat, Int.toNat_natCast, ↓kk_ck, ↓kk_im, ↓kk_in, s_339_246, s_339_250, s_339_253, R1, R56, p1, p2, Int.toNat_natCast, hc]
    exact hQ
  · intro a l9 ha
    clear hQ
    obtain ⟨s1, -, s3, s4⟩ := wSt_i hw k (by omega)
    obtain ⟨j0, j1, j2⟩ := s4 (by omega)
    obtain ⟨n1, n2, n3⟩ := wNx_p (p := wOk B m k (wSt B m k).1 (wSt B m k).2) m 0 (Nat.zero_le _) (by omega) j2
    rw [wSt] at ih
    dsimp only at ih
    generalize wNx (wOk B m k (wSt B m k).1 (wSt B m k).2) m 0 = x at *
    have hx : x < m := by omega
    obtain ⟨set, hset⟩ : ∃ set, set = (wSt B m k).1 := ⟨_, rfl⟩
    obtain ⟨at_, hat⟩ : ∃ at_, at_ = (wSt B m k).2 := ⟨_, rfl⟩
    rw [← hset] at s1 s3 n1 n3 ih ⊢
    rw [← hat] at s3 n1 n3 ha
    have hs14 : set < 16384 := by omega
    -- one candidate
    have cand : ∀ j, j < m → (wOk B m k set at_ j = true → vi_ok GG D 339 227 [some (.inr (.inr 112)), some (.inl (i : Int)), some (.inl x2), some (.inl x3), some (.inl x4), some (.inl x5), some (.inl (set : Int)), some (.inl a), some (.inl (k : Int)), some (.inl (j : Int))] [] (Y, M, nn) Q) → (wOk B m k set at_ j = false → vi_ok GG D 339 163 [some (.inr (.inr 112)), some (.inl (i : Int)), some (.inl x2), some (.inl x3), some (.inl x4), some (.inl x5), some (.inl (set : Int)), some (.inl a), some (.inl (k : Int)), some (.inl ((j + 1 : Nat) : Int))] [] (Y, M, nn) Q) → vi_ok GG D 339 163 [some (.inr (.inr 112)), some (.inl (i : Int)), some (.inl x2), some (.inl x3), some (.inl x4), some (.inl x5), some (.inl (set : Int)), some (.inl a), some (.inl (k : Int)), some (.inl (j : Int))] [] (Y, M, nn) Q := by
      intro j hj hy hn
      have hlt := or_lt s1 hj
      have hbit : (set ||| 2 ^ j).testBit j = true := by rw [Nat.testBit_or, Nat.testBit_two_pow_self]; simp
      have hpos : 0 < set ||| 2 ^ j := by
        refine Nat.pos_of_ne_zero fun e => ?_
        rw [e, Nat.zero_testBit] at hbit; cases hbit
      have ht := hT (set ||| 2 ^ j) hpos hlt j hj
      rw [hbit, Bool.true_and] at ht
      unfold wOk at hy hn
      obtain ⟨u, hu⟩ : ∃ u, u = set ||| 2 ^ j := ⟨_, rfl⟩
      rw [← hu] at ht hlt hy hn
      have eb : (u * 14 + j : Nat) < 229376 := by omega
      have look : (set.testBit j = false ∧ (k = 0 ∨ B at_ j = true)) → vi_ok GG D 339 200 [some (.inr (.inr 112)), some (.inl (i : Int)), some (.inl x2), some (.inl x3), some (.inl x4), some (.inl x5), some (.inl (set : Int)), some (.inl a), some (.inl (k : Int)), some (.inl (j : Int))] [] (Y, M, nn) Q := by
        rintro ⟨b1, b2⟩
        have bb : (decide (k = 0) || B at_ j) = true := by
          rcases b2 with h | h
          · rw [decide_eq_true h, Bool.true_or]
          · rw [h, Bool.or_true]
        rw [b1, bb] at hy hn
        cases b3 : wE B m m u j
        · have := hn (by rw [b3]; rfl)
          rw [b3] at ht
          have ht' : M 146 (u * 14 + j) = 0 := ht
          clear hy hn hT
          simp (disch := omega) only [Option.toList_some, Option.toList_none, List.nil_append, List.cons_append, List.append_nil, true_and, and_true, not_true_eq_false, not_false_eq_true, true_implies, false_implies, implies_true, and_self, Int.reduceLT, Int.reduceLE, Int.reduceEq, Int.reduceNe, Int.reduceAdd, Int.reduceSub, Int.reduceMul, Int.reduceNeg, Int.reduceToNat, Int.toNat_natCast, ↓kk_ck, ↓kk_im, ↓kk_in, s_339_200, s_339_204, s_339_217, s_339_218, s_339_221, R1, R57, p3, p4, sh_14 (show j ≤ 14 by omega), @or_u set j u (by omega) (by omega) hu, @ix_14 u j (by omega) (by omega), Int.toNat_natCast, ht', vi_inc, ne_eq]
          exact this
        · have := hy (by rw [b3]; rfl)
          rw [b3] at ht
          have ht' : M 146 (u * 14 + j) = 1 := ht
          clear hy hn hT
          simp (disch := omega) only [Option.toList_some, Option.toList_none, List.nil_append, List.cons_append, List.append_nil, true_and, and_true, not_true_eq_false, not_false_eq_true, true_implies, false_implies, implies_true, and_self, Int.reduceLT, Int.reduceLE, Int.reduceEq, Int.reduceNe, Int.reduceAdd, Int.reduceSub, Int.reduceMul, Int.reduceNeg, Int.reduceToNat, Int.toNat_natCast, ↓kk_ck, ↓kk_im, ↓kk_in, s_339_200, s_339_204, s_339_217, s_339_218, R1, R57, p3, p4, sh_14 (show j ≤ 14 by omega), @or_u set j u (by omega) (by omega) hu, @ix_14 u j (by omega) (by omega), Int.toNat_natCast, ht', ne_eq]
          exact this
      rw [s_339_163]
      cases b1 : set.testBit j
      · by_cases hk0 : k = 0
        · have := look ⟨b1, .inl hk0⟩
          have hk' : (k : Int) = 0 := by omega
          rw [hk'] at this ⊢
          clear look hy hn hT
          simp (disch := omega) only [Option.toList_some, Option.toList_none, List.nil_append, List.cons_append, List.append_nil, true_and, and_true, not_true_eq_false, not_false_eq_true, true_implies, false_implies, implies_true, and_self, Int.reduceLT, Int.reduceLE, Int.reduceEq, Int.reduceNe, Int.reduceAdd, Int.reduceSub, Int.reduceMul, Int.reduceNeg, Int.reduceToNat, Int.toNat_natCast, ↓kk_ck, ↓kk_im, ↓kk_in, s_339_171, s_339_174, @bit_f set j (by omega) (by omega) b1, ne_eq]
          exact this
        · have ha' := ha (by omega)
          obtain ⟨q1, -⟩ := s3 (by omega)
          obtain ⟨c1, c2⟩ := hW at_ q1
          obtain ⟨c3, c4⟩ := hW j hj
          have k336 := fun {D : Nat} {K : Option vi_V → vi_W → Prop} (hD : 3 ≤ D) => @k_336 D K Y M nn hY hB (W at_) (W j : Int) c2 hD
          rw [show abB M (W at_ : Int) (W j : Int) 6 = B at_ j from by rw [hBB]; rfl] at k336
          cases b2 : B at_ j
          · have := hn (by rw [b1, b2, decide_eq_false hk0]; rfl)
            rw [b2] at k336
            rw [ha'] at this ⊢
            clear look hy hn hT hBB
            simp (disch := omega) only [Option.toList_some, Option.toList_none, List.nil_append, List.cons_append, List.append_nil, true_and, and_true, not_true_eq_false, not_false_eq_true, true_implies, false_implies, implies_true, and_self, Int.reduceLT, Int.reduceLE, Int.reduceEq, Int.reduceNe, Int.reduceAdd, Int.reduceSub, Int.reduceMul, Int.reduceNeg, Int.reduceToNat, Int.toNat_natCast, ↓kk_ck, ↓kk_im, ↓kk_in, s_339_171, s_339_174, s_339_179, s_339_184, s_339_187, s_339_191, s_339_194, s_339_197, s_339_221, R1, R56, p1, p2, @bit_f set j (by omega) (by omega) b1, Int.toNat_natCast, c1, c3, k336, vi_bf, vi_inc, ne_eq]
            exact this
          · have := look ⟨b1, .inr b2⟩
            rw [b2] at k336
            rw [ha'] at this ⊢
            clear look hy hn hT hBB
            simp (disch := omega) only [Option.toList_some, Option.toList_none, List.nil_append, List.cons_append, List.append_nil, true_and, and_true, not_true_eq_false, not_false_eq_true, true_implies, false_implies, implies_true, and_self, Int.reduceLT, Int.reduceLE, Int.reduceEq, Int.reduceNe, Int.reduceAdd, Int.reduceSub, Int.reduceMul, Int.reduceNeg, Int.reduceToNat, Int.toNat_natCast, ↓kk_ck, ↓kk_im, ↓kk_in, s_339_171, s_339_174, s_339_179, s_339_184, s_339_187, s_339_191, s_339_194, s_339_197, R1, R56, p1, p2, @bit_f set j (by omega) (by omega) b1, Int.toNat_natCast, c1, c3, k336, vi_bt, ne_eq]
            exact this
      · have := hn (by rw [b1]; rfl)
        clear look hy hn hT
        simp (disch := omega) only [Option.toList_some, Option.toList_none, List.nil_append, List.cons_append, List.append_nil, true_and, and_true, not_true_eq_false, not_false_eq_true, true_implies, false_implies, implies_true, and_self, Int.reduceLT, Int.reduceLE, Int.reduceEq, Int.reduceNe, Int.reduceAdd, Int.reduceSub, Int.reduceMul, Int.reduceNeg, Int.reduceToNat, Int.toNat_natCast, ↓kk_ck, ↓kk_im, ↓kk_in, s_339_171, s_339_221, @bit_t set j (by omega) (by omega) b1, vi_inc, ne_eq]
        exact this
    have inner : ∀ j : Nat, j ≤ x → vi_ok GG D 339 163 [some (.inr (.inr 112)), some (.inl (i : Int)), some (.inl x2), some (.inl x3), some (.inl x4), some (.inl x5), some (.inl (set : Int)), some (.inl a), some (.inl (k : Int)), some (.inl (j : Int))] [] (Y, M, nn) Q := by
      refine vi_dn x ?_ fun j hj ihj => ?_
      · refine cand x hx (fun _ => ?_) (fun h => by rw [n1] at h; cases h)
        have := ih (x : Int) (some (.inl (x : Int))) (fun _ => rfl)
        clear ih cand hT
        simp (disch := omega) only [Option.toList_some, Option.toList_none, List.nil_append, List.cons_append, List.append_nil, true_and, and_true, not_true_eq_false, not_false_eq_true, true_implies, false_implies, implies_true, and_self, Int.reduceLT, Int.reduceLE, Int.reduceEq, Int.reduceNe, Int.reduceAdd, Int.reduceSub, Int.reduceMul, Int.reduceNeg, Int.reduceToNat, Int.toNat_natCast, ↓kk_ck, ↓kk_im, ↓kk_in, s_339_227, sh_14 (show x ≤ 14 by omega), @or_u set x _ (by omega) (by omega) rfl, vi_inc]
        exact this
      · exact cand j (by omega) (fun h => by rw [n3 j (Nat.zero_le _) hj] at h; cases h) (fun _ => ihj)
    have := inner 0 (by omega)
    rw [show ((0 : Nat) : Int) = 0 from rfl] at this
    clear inner cand ih hT
    rw [s_339_154]
    simp (disch := omega) only [Option.toList_some, Option.toList_none, List.nil_append, List.cons_append, List.append_nil, true_and, and_true, not_true_eq_false, not_false_eq_true, true_implies, false_implies, implies_true, and_self, Int.reduceLT, Int.reduceLE, Int.reduceEq, Int.reduceNe, Int.reduceAdd, Int.reduceSub, Int.reduceMul, Int.reduceNeg, Int.reduceToNat, Int.toNat_natCast, ↓kk_ck, ↓kk_im, ↓kk_in, s_339_160]
    exact this
theorem k_339 (hY : kY Y 151) {lw : Option (List gCla)} {n : Nat} (hS : mKs M lw n) {i : Int} (hi : -2 ≤ i) (hD : 46 ≤ D)
    (hQ : ∀ M', mSee M' lw n → mFx M M' → Q (some (.inl (wiF M' (mB (M' 126)) i))) (Y, M', nn)) : vi_call GG D 339 [.inr (.inr 112), .inl i] (Y, M, nn) Q := by
  obtain ⟨D, rfl⟩ : ∃ k, D = k + 1 := ⟨D - 1, by omega⟩
  obtain ⟨R1, -, -, -, -, -, -, -, -, -, -, -, -, -, R28, -, -, -, -, -, -, -, -, -, -, -, -, -, -, -, -, -, -, R56, R57, -⟩ := y_112 hY (by omega)
  obtain ⟨p1, p2⟩ := y_145 hY (by omega)
  obtain ⟨v1, v2⟩ := y_126 hY (by omega)
  have hB := hS.1
  have cont : vi_call GG D 294 [.inr (.inr 112)] (Y, M, nn) (fun r w' => vi_ok GG D 339 12 [some (.inr (.inr 112)), some (.inl i), none, none, none, none, none, none, none, none] r.toList w' Q) := by
    refine k_294u hY hS (by omega) fun M1 hs1 hf1 => ?_
    have hB1 := mBx_c (mFr_114 hf1) hB
    have hl := mLfd_of hs1
    have done : ∀ M2, (∀ p, p ≠ 128 → p ≠ 129 → p ≠ 145 → p ≠ 146 → M2 p = M1 p) → Q (some (.inl (wiF M1 (mB (M1 126)) i))) (Y, M2, nn) := by
      intro M2 o
      have e : wiF M2 (mB (M1 126)) i = wiF M1 (mB (M1 126)) i := by unfold wiF; rw [wB2_c (o 114 (by omega) (by omega) (by omega) (by omega))]
      have := hQ M2 (mSee_c hs1 (o _ (by omega) (by omega) (by omega) (by omega)) (o _ (by omega) (by omega) (by omega) (by omega)) (o _ (by omega) (by omega) (by omega) (by omega)) (o _ (by omega) (by omega) (by omega) (by omega)) (o _ (by omega) (by omega) (by omega) (by omega)) (by rw [o 112 (by omega) (by omega) (by omega) (by omega)]; exact hs1.2.2.1)) (mFx_t (mFx_of hf1) (mFx_p fun p h1 h2 h3 => o p (by omega) (by omega) (by omega) (by omega)))
      rw [o 126 (by omega) (by omega) (by omega) (by omega), e] at this
      exact this
    clear hQ
    have cont2 : vi_call GG D 335 [.inr (.inr 112)] (Y, M1, nn) (fun r w' => vi_ok GG D 339 16 [some (.inr (.inr 112)), some (.inl i), none, none, none, none, none, none, none, none] r.toList w' Q) := by
      refine k_335 hY hB1 (fun c hc h => (hl c hc h).1) (by omega) fun M2 o2 => ?_
      have done : ∀ M3, (∀ p, p ≠ 145 → p ≠ 146 → M3 p = M2 p) → Q (some (.inl (wiF M1 (mB (M1 126)) i))) (Y, M3, nn) := fun M3 o3 => done M3 fun p h1 h2 h3 h4 => (o3 p h3 h4).trans (o2 p h1 h2)
      have e126 : M2 126 = M1 126 := o2 126 (by omega) (by omega)
      have hin2 : ∀ c, c < 216 → M2 126 c ≠ 0 → mIc M2 (c : Int) := fun c hc h => mIc_c (o2 114 (by omega) (by omega)) (hl c hc (by rw [← e126]; exact h)).1
      have hB2 := mBx_c (o2 114 (by omega) (by omega)) hB1
      have eB : ∀ W, wB2 M1 W = wB2 M2 W := fun W => (wB2_c (o2 114 (by omega) (by omega))).symm
      unfold wiF at done
      simp only [eB] at done
      rw [← e126] at done ⊢
      clear eB
      generalize hL : mB (M2 126) = L at *
      have k297 := fun {D : Nat} {K : Option vi_V → vi_W → Prop} (hD : 1 ≤ D) => @k_297 D K Y M2 nn 126 ⟨v1, v2⟩ hD
      rw [mNum_e, hL] at k297
      by_cases i2 : i = -2
      · rw [if_pos i2] at done
        have := done M2 (fun _ _ _ => rfl)
        clear done
        cases hb : baB L
        · rw [hb] at this
          simp (disch := omega) only [Option.toList_some, Option.toList_none, List.nil_append, List.cons_append, List.append_nil, true_and, and_true, not_true_eq_false, not_false_eq_true, true_implies, false_implies, implies_true, and_self, Int.reduceLT, Int.reduceLE, Int.reduceEq, Int.reduceNe, Int.reduceAdd, Int.reduceSub, Int.reduceMul, Int.reduceNeg, Int.reduceToNat, Int.toNat_natCast, ↓kk_ck, ↓kk_im, ↓kk_in, Option.toList, s_339_16, s_339_23, s_339_31, s_339_32, i2, vi_bf, ne_eq]
          exact this
        · rw [hb] at this
          simp (disch := omega) only [Option.toList_some, Option.toList_none, List.nil_append, List.cons_append, List.append_nil, true_and, and_true, not_true_eq_false, not_false_eq_true, true_implies, false_implies, implies_true, and_self, Int.reduceLT, Int.reduceLE, Int.reduceEq, Int.reduceNe, Int.reduceAdd, Int.reduceSub, Int.reduceMul, Int.reduceNeg, Int.reduceToNat, Int.toNat_natCast, ↓kk_ck, ↓kk_im, ↓kk_in, Option.toList, s_339_16, s_339_23, s_339_27, s_339_32, i2, vi_bt, ne_eq]
          exact this
      · rw [if_neg i2] at done
        cases hb : baB L
        · rw [hb, if_neg (by simp)] at done
          by_cases hm : 14 < sN 216 L
          · rw [if_pos hm] at done
            have := done M2 (fun _ _ _ => rfl)
            clear done
            simp (disch := omega) only [Option.toList_some, Option.toList_none, List.nil_append, List.cons_append, List.append_nil, true_and, and_true, not_true_eq_false, not_false_eq_true, true_implies, false_implies, implies_true, and_self, Int.reduceLT, Int.reduceLE, Int.reduceEq, Int.reduceNe, Int.reduceAdd, Int.reduceSub, Int.reduceMul, Int.reduceNeg, Int.reduceToNat, Int.toNat_natCast, ↓kk_ck, ↓kk_im, ↓kk_in, Option.toList, s_339_16, s_339_33, s_339_38, s_339_41, s_339_57, s_339_63, R1, R28, i2, vi_bf, k297, ne_eq]
            exact this
          · rw [if_neg hm] at done
            have hlen := lcL_l (L := L) 216
            obtain ⟨W, hWd⟩ : ∃ W : Nat → Nat, W = fun k => (lcL L 216).getD k 0 := ⟨_, rfl⟩
            have hWk : ∀ k, (lcL L 216).getD k 0 = W k := fun k => by rw [hWd]
            simp only [hWk] at done
            have fill : ∀ c : Nat, c ≤ 216 → ∀ M3 : vi_M, (∀ p, p ≠ 145 → M3 p = M2 p) → (∀ k, k < (lcL L c).length → M3 145 k = (((lcL L c).getD k 0 : Nat) : Int)) → vi_ok GG D 339 71 [some (.inr (.inr 112)), some (.inl i), some (.inl 0), some (.inl (sN 216 L : Int)), some (.inl ((lcL L c).length : Int)), some (.inl (c : Int)), none, none, none, none] [] (Y, M3, nn) Q := by
              refine vi_dn (P := fun c => ∀ M3 : vi_M, (∀ p, p ≠ 145 → M3 p = M2 p) → (∀ k, k < (lcL L c).length → M3 145 k = (((lcL L c).getD k 0 : Nat) : Int)) → vi_ok GG D 339 71 [some (.inr (.inr 112)), some (.inl i), some (.inl 0), some (.inl (sN 216 L : Int)), some (.inl ((lcL L c).length : Int)), some (.inl (c : Int)), none, none, none, none] [] (Y, M3, nn) Q) 216 ?_ fun c hc ih => ?_
              · intro M3 o3 h145
                rw [hlen] at h145 ⊢
                simp only [hWk] at h145
                have hW3 : wCl M3 W (sN 216 L) := fun k hk => by
                  refine ⟨h145 k hk, mIc_c (o3 114 (by omega)) ?_⟩
                  obtain ⟨q1, q2⟩ := lcL_m (L := L) (c := 216) (k := k) (by omega)
                  rw [hWk] at q1 q2
                  refine hin2 _ q1 ?_
                  rw [← hL] at q2
                  unfold mB at q2
                  simpa using q2
                have hBM : wB2 M3 W = wB2 M2 W := wB2_c (o3 114 (by omega))
                have cont3 : vi_call GG D 338 [.inr (.inr 112), .inl (sN 216 L : Int)] (Y, M3, nn) (fun r w' => vi_ok GG D 339 115 [some (.inr (.inr 112)), some (.inl i), some (.inl 0), some (.inl (sN 216 L : Int)), some (.inl (sN 216 L : Int)), some (.inl 216), none, none, none, none] r.toList w' Q) := by
                  refine k_338 hY (mBx_c (o3 114 (by omega)) hB2) (by omega) hW3 (by omega) fun M4 o4 hT => ?_
                  have dn := done M4 (fun p h1 h2 => (o4 p h2).trans (o3 p h1))
                  clear done
                  rw [hBM] at hT ⊢
                  by_cases i1 : i = -1
                  · rw [if_pos i1] at dn
                    clear hT hWk hWd
                    cases hw : wIs (wB2 M2 W) (sN 216 L)
                    · rw [hw] at dn
                      simp (disch := omega) only [Option.toList_some, Option.toList_none, List.nil_append, List.cons_append, List.append_nil, true_and, and_true, not_true_eq_false, not_false_eq_true, true_implies, false_implies, implies_true, and_self, Int.reduceLT, Int.reduceLE, Int.reduceEq, Int.reduceNe, Int.reduceAdd, Int.reduceSub, Int.reduceMul, Int.reduceNeg, Int.reduceToNat, Int.toNat_natCast, ↓kk_ck, ↓kk_im, ↓kk_in, Option.toList, s_339_115, s_339_122, s_339_131, s_339_132, i1, vi_bf, ne_eq]
                      exact dn
                    · rw [hw] at dn
                      simp (disch := omega) only [Option.toList_some, Option.toList_none, List.nil_append, List.cons_append, List.append_nil, true_and, and_true, not_true_eq_false, not_false_eq_true, true_implies, false_implies, implies_true, and_self, Int.reduceLT, Int.reduceLE, Int.reduceEq, Int.reduceNe, Int.reduceAdd, Int.reduceSub, Int.reduceMul, Int.reduceNeg, Int.reduceToNat, Int.toNat_natCast, ↓kk_ck, ↓kk_im, ↓kk_in, Option.toList, s_339_115, s_339_122, s_339_127, s_339_132, i1, vi_bt, ne_eq]
                      exact dn
                  · rw [if_neg i1] at dn
                    cases hw : wIs (wB2 M2 W) (sN 216 L)
                    · rw [if_neg (fun k => by rw [hw] at k; cases k.1)] at dn
                      clear hT hWk hWd
                      simp (disch := omega) only [Option.toList_some, Option.toList_none, List.nil_append, List.cons_append, List.append_nil, true_and, and_true, not_true_eq_false, not_false_eq_true, true_implies, false_implies, implies_true, and_self, Int.reduceLT, Int.reduceLE, Int.reduceEq, Int.reduceNe, Int.reduceAdd, Int.reduceSub, Int.reduceMul, Int.reduceNeg, Int.reduceToNat, Int.toNat_natCast, ↓kk_ck, ↓kk_im, ↓kk_in, Option.toList, s_339_115, s_339_133, s_339_143, i1, vi_bf, ne_eq]
                      exact dn
                    · by_cases him : i < (sN 216 L : Int)
                      · rw [if_pos ⟨hw, him⟩] at dn
                        obtain ⟨k, rfl⟩ : ∃ k : Nat, i = (k : Int) := ⟨i.toNat, by omega⟩
                        rw [Int.toNat_natCast] at dn
                        have hex : ∃ k, k < sN 216 L ∧ wE (wB2 M2 W) (sN 216 L) (sN 216 L) (2 ^ k) k = true := by
                          unfold wIs at hw
                          rw [Bool.or_eq_true, decide_eq_true_eq, List.any_eq_true] at hw
                          rcases hw with h | ⟨j, j1, j2⟩
                          · omega
                          · exact ⟨j, List.mem_range.mp j1, j2⟩
                        have hBM4 : wB2 M2 W = wB2 M4 W := ((wB2_c (o4 114 (by omega))).trans hBM).symm
                        have go := h_339w (Q := Q) (D := D) (nn := nn) (x2 := 0) (x3 := (sN 216 L : Int)) (x4 := (sN 216 L : Int)) (x5 := 1) hY (mBx_c (o4 114 (by omega)) (mBx_c (o3 114 (by omega)) hB2)) (by omega) (fun k hk => ⟨by rw [o4 145 (by omega)]; exact (hW3 k hk).1, mIc_c (o4 114 (by omega)) (hW3 k hk).2⟩) hBM4 hT hex (i := k) (by omega) (by omega) dn 0 (by omega) (-1) none (fun h => by omega)
                        rw [wSt, show ((0 : Nat) : Int) = 0 from rfl] at go
                        clear hT hWk hWd dn hBM4 hBM
                        simp (disch := omega) only [Option.toList_some, Option.toList_none, List.nil_append, List.cons_append, List.append_nil, true_and, and_true, not_true_eq_false, not_false_eq_true, true_implies, false_implies, implies_true, and_self, Int.reduceLT, Int.reduceLE, Int.reduceEq, Int.reduceNe, Int.reduceAdd, Int.reduceSub, Int.reduceMul, Int.reduceNeg, Int.reduceToNat, Int.toNat_natCast, ↓kk_ck, ↓kk_im, ↓kk_in, Option.toList, s_339_115, s_339_133, s_339_138, s_339_145, vi_bt, ne_eq]
                        exact go
                      · rw [if_neg (fun k => him k.2)] at dn
                        clear hT hWk hWd
                        simp (disch := omega) only [Option.toList_some, Option.toList_none, List.nil_append, List.cons_append, List.append_nil, true_and, and_true, not_true_eq_false, not_false_eq_true, true_implies, false_implies, implies_true, and_self, Int.reduceLT, Int.reduceLE, Int.reduceEq, Int.reduceNe, Int.reduceAdd, Int.reduceSub, Int.reduceMul, Int.reduceNeg, Int.reduceToNat, Int.toNat_natCast, ↓kk_ck, ↓kk_im, ↓kk_in, Option.toList, s_339_115, s_339_133, s_339_138, s_339_143, i1, him, vi_bt, ne_eq]
                        exact dn
                clear done hWk hWd
                rw [s_339_71]
                simp (disch := omega) only [Option.toList_some, Option.toList_none, List.nil_append, List.cons_append, List.append_nil, true_and, and_true, not_true_eq_false, not_false_eq_true, true_implies, false_implies, implies_true, and_self, Int.reduceLT, Int.reduceLE, Int.reduceEq, Int.reduceNe, Int.reduceAdd, Int.reduceSub, Int.reduceMul, Int.reduceNeg, Int.reduceToNat, Int.toNat_natCast, ↓kk_ck, ↓kk_im, ↓kk_in, s_339_110, R1]
                exact cont3
              · intro M3 o3 h145
                have e3 : M3 126 c = M2 126 c := by rw [o3 126 (by omega)]
                have hle : (lcL L c).length ≤ 14 := by
                  have h1 := lcL_l (L := L) c
                  have h2 : ∀ d : Nat, sN c L ≤ sN (c + d) L := fun d => by
                    induction d with
                    | zero => exact Nat.le_refl _
                    | succ d ih => rw [← Nat.add_assoc, sN]; omega
                  have h3 := h2 (216 - c)
                  rw [show c + (216 - c) = 216 by omega] at h3
                  omega
                clear done
                rw [lcL_s] at ih
                rw [s_339_71]
                by_cases q : M2 126 c = 0
                · have hLc : L c = false := by rw [← hL]; exact mB_f q
                  rw [hLc, if_neg (by simp), List.append_nil] at ih
                  have := ih M3 o3 h145
                  clear ih hWk hWd
                  simp (disch := omega) only [Option.toList_some, Option.toList_none, List.nil_append, List.cons_append, List.append_nil, true_and, and_true, not_true_eq_false, not_false_eq_true, true_implies, false_implies, implies_true, and_self, Int.reduceLT, Int.reduceLE, Int.reduceEq, Int.reduceNe, Int.reduceAdd, Int.reduceSub, Int.reduceMul, Int.reduceNeg, Int.reduceToNat, Int.toNat_natCast, ↓kk_ck, ↓kk_im, ↓kk_in, s_339_79, s_339_83, s_339_86, s_339_89, s_339_104, R1, R28, v1, v2, Int.toNat_natCast, e3, q, vi_inc, ne_eq]
                  exact this
                · have hLc : L c = true := by rw [← hL]; exact mB_t q
                  rw [hLc, if_pos rfl] at ih
                  have hle2 : (lcL L c).length ≤ 13 := by
                    have h1 := lcL_l (L := L) (c + 1)
                    rw [sN, hLc] at h1
                    have h0 := lcL_l (L := L) c
                    have h2 : ∀ d : Nat, sN (c + 1) L ≤ sN (c + 1 + d) L := fun d => by
                      induction d with
                      | zero => exact Nat.le_refl _
                      | succ d ih => exact Nat.le_trans ih (Nat.le_add_right _ _)
                    have h3 := h2 (216 - (c + 1))
                    rw [show c + 1 + (216 - (c + 1)) = 216 by omega, sN, hLc] at h3
                    simp at h1 h3
                    omega
                  have := ih (vi_rs M3 145 (vi_u (M3 145) (lcL L c).length (c : Int))) (fun p hp => by rw [vi_rs_o hp]; exact o3 p hp) (fun k hk => by
                    rw [vi_rs_s]
                    by_cases e : k = (lcL L c).length
                    · rw [e, vi_u_s, List.getD_eq_getElem?_getD, List.getElem?_append_right (Nat.le_refl _), Nat.sub_self]; rfl
                    · rw [List.length_append, List.length_singleton] at hk
                      rw [vi_u_o e, List.getD_eq_getElem?_getD, List.getElem?_append_left (by omega), ← List.getD_eq_getElem?_getD]
                      exact h145 k (by omega))
                  rw [List.length_append, List.length_singleton] at this
                  have eN : (((lcL L c).length : Int) + 1) = (((lcL L c).length + 1 : Nat) : Int) := by omega
                  clear ih hWk hWd h145
                  simp (disch := omega) only [Option.toList_some, Option.toList_none, List.nil_append, List.cons_append, List.append_nil, true_and, and_true, not_true_eq_false, not_false_eq_true, true_implies, false_implies, implies_true, and_self, Int.reduceLT, Int.reduceLE, Int.reduceEq, Int.reduceNe, Int.reduceAdd, Int.reduceSub, Int.reduceMul, Int.reduceNeg, Int.reduceToNat, Int.toNat_natCast, ↓kk_ck, ↓kk_im, ↓kk_in, s_339_79, s_339_83, s_339_86, s_339_92, s_339_96, s_339_101, s_339_104, R1, R28, R56, p1, p2, v1, v2, Int.toNat_natCast, e3, q, vi_ms_rs, vi_inc, ne_eq]
                  exact this
            have := fill 0 (by omega) M2 (fun _ _ => rfl) (fun k hk => by simp [lcL] at hk)
            rw [show (lcL L 0).length = 0 from rfl, show ((0 : Nat) : Int) = 0 from rfl] at this
            clear fill done hWk hWd
            simp (disch := omega) only [Option.toList_some, Option.toList_none, List.nil_append, List.cons_append, List.append_nil, true_and, and_true, not_true_eq_false, not_false_eq_true, true_implies, false_implies, implies_true, and_self, Int.reduceLT, Int.reduceLE, Int.reduceEq, Int.reduceNe, Int.reduceAdd, Int.reduceSub, Int.reduceMul, Int.reduceNeg, Int.reduceToNat, Int.toNat_natCast, ↓kk_ck, ↓kk_im, ↓kk_in, Option.toList, s_339_16, s_339_33, s_339_38, s_339_41, s_339_57, s_339_65, R1, R28, i2, vi_bf, k297, ne_eq]
            exact this
        · rw [hb, if_pos rfl] at done
          have := done M2 (fun _ _ _ => rfl)
          clear done
          by_cases i1 : i = -1
          · rw [if_pos i1] at this
            simp (disch := omega) only [Option.toList_some, Option.toList_none, List.nil_append, List.cons_append, List.append_nil, true_and, and_true, not_true_eq_false, not_false_eq_true, true_implies, false_implies, implies_true, and_self, Int.reduceLT, Int.reduceLE, Int.reduceEq, Int.reduceNe, Int.reduceAdd, Int.reduceSub, Int.reduceMul, Int.reduceNeg, Int.reduceToNat, Int.toNat_natCast, ↓kk_ck, ↓kk_im, ↓kk_in, Option.toList, s_339_16, s_339_33, s_339_38, s_339_41, s_339_46, s_339_51, s_339_56, R1, R28, i2, i1, vi_bt, k297, ne_eq]
            exact this
          · rw [if_neg i1] at this
            simp (disch := omega) only [Option.toList_some, Option.toList_none, List.nil_append, List.cons_append, List.append_nil, true_and, and_true, not_true_eq_false, not_false_eq_true, true_implies, false_implies, implies_true, and_self, Int.reduceLT, Int.reduceLE, Int.reduceEq, Int.reduceNe, Int.reduceAdd, Int.reduceSub, Int.reduceMul, Int.reduceNeg, Int.reduceToNat, Int.toNat_natCast, ↓kk_ck, ↓kk_im, ↓kk_in, Option.toList, s_339_16, s_339_33, s_339_38, s_339_41, s_339_46, s_339_55, s_339_56, R1, R28, i2, i1, vi_bt, k297, ne_eq]
            exact this
    clear done
    simp (disch := omega) only [Option.toList_some, Option.toList_none, List.nil_append, List.cons_append, List.append_nil, true_and, and_true, not_true_eq_false, not_false_eq_true, true_implies, false_implies, implies_true, and_self, Int.reduceLT, Int.reduceLE, Int.reduceEq, Int.reduceNe, Int.reduceAdd, Int.reduceSub, Int.reduceMul, Int.reduceNeg, Int.reduceToNat, Int.toNat_natCast, ↓kk_ck, ↓kk_im, ↓kk_in, s_339_12, R1]
    exact cont2
  clear hQ
  simp (disch := omega) only [Option.toList_some, Option.toList_none, List.nil_append, List.cons_append, List.append_nil, true_and, and_true, not_true_eq_false, not_false_eq_true, true_implies, false_implies, implies_true, and_self, Int.reduceLT, Int.reduceLE, Int.reduceEq, Int.reduceNe, Int.reduceAdd, Int.reduceSub, Int.reduceMul, Int.reduceNeg, Int.reduceToNat, Int.toNat_natCast, ↓kk_ck, ↓kk_im, ↓kk_in, e_339, s_339_0, s_339_8, R1]
  exact cont
end
