/-! Contracts of Vast, fourth part: kinds of cells and of places. -/
def kT (k : Nat) : Int := if k < 4 then 0 else if k < 7 then 1 else if k < 9 then 2 else 3
def kO (k : Nat) : Int := if k < 4 then (k : Int) else if k < 7 then (k : Int) - 4 else if k < 9 then (k : Int) - 7 else (k : Int) - 9
/-- the kinds of places that suit a kind of cells, as bits -/
def fPs (rt ro : Int) : Nat := bN 10 (fun k => fSu rt ro (kT k) (kO k))
def kB (t : Nat) : Nat := if t = 0 then 0 else if t = 1 then 4 else if t = 2 then 7 else if t = 3 then 9 else 10
/-- how many axes have both ends, one end -/
def fTw (s : Nat) : Nat → Int
  | 0 => 0
  | k + 1 => fTw s k + (if s / 4 ^ k % 4 = 3 then 1 else 0)
def fOn (s : Nat) : Nat → Int
  | 0 => 0
  | k + 1 => fOn s k + (if s / 4 ^ k % 4 = 1 ∨ s / 4 ^ k % 4 = 2 then 1 else 0)
def fKd (s : Nat) : Int := fKb (fTw s 3) (fOn s 3)
theorem fTO_b (s : Nat) : ∀ k : Nat, 0 ≤ fTw s k ∧ 0 ≤ fOn s k ∧ fTw s k + fOn s k ≤ (k : Int)
  | 0 => by rw [fTw, fOn]; omega
  | k + 1 => by
    have ih := fTO_b s k
    rw [fTw, fOn]
    generalize s / 4 ^ k % 4 = e at *
    split
    · split <;> omega
    · split <;> omega
theorem fKd_r (s : Nat) : 0 ≤ fKd s ∧ fKd s < 10 := by
  have h := fTO_b s 3
  unfold fKd fKb
  split
  · omega
  · split
    · omega
    · split <;> omega
section
variable {d : Nat} {K : Option vi_V → vi_W → Prop} {Y : vi_Y} {M : vi_M} {n : Nat × Nat}
theorem k_175 {rt ro : Int} {w : vi_W} (h1 : 0 ≤ rt ∧ rt ≤ 3) (h2 : 0 ≤ ro ∧ ro ≤ 3) : vi_call GG (d + 2) 175 [.inl rt, .inl ro] w K ↔ K (some (.inl (fPs rt ro : Int))) w := by
  obtain ⟨Y, M, n⟩ := w
  refine vi_k (r := some (.inl _)) fun Q hQ => ?_
  unfold fPs at hQ
  generalize hf : (fun k => fSu rt ro (kT k) (kO k)) = f at *
  have hf' : ∀ k, f k = fSu rt ro (kT k) (kO k) := fun k => by rw [← hf]
  clear hf
  have loop : ∀ t : Nat, t ≤ 4 → ∀ l4, vi_ok GG (d + 1) 175 4 [some (.inl rt), some (.inl ro), some (.inl (bN (kB t) f : Int)), some (.inl (t : Int)), l4] [] (Y, M, n) Q := by
    refine vi_dn 4 ?_ fun t ht ih => ?_
    · intro l4
      rw [s_175_4]
      simp (disch := omega) only [Option.toList_some, Option.toList_none, List.nil_append, List.cons_append, List.append_nil, true_and, and_true, not_true_eq_false, not_false_eq_true, true_implies, false_implies, implies_true, and_self, Int.reduceLT, Int.reduceLE, Int.reduceEq, Int.reduceNe, Int.reduceAdd, Int.reduceSub, Int.reduceMul, Int.reduceNeg, Int.reduceToNat, Int.toNat_natCast, ↓kk_ck, ↓kk_im, ↓kk_in, s_175_0, s_175_9, s_175_20, s_175_31, s_175_42, s_175_48, s_175_54, s_175_17, s_175_28, s_175_39]
      exact hQ
    · intro l4
      clear hQ
      have kB_s : kB t + (4 - t) = kB (t + 1) := by unfold kB; obtain rfl | rfl | rfl | rfl : t = 0 ∨ t = 1 ∨ t = 2 ∨ t = 3 := by omega
                                                    all_goals rfl
      have kB_10 : kB (t + 1) ≤ 10 := by unfold kB; obtain rfl | rfl | rfl | rfl : t = 0 ∨ t = 1 ∨ t = 2 ∨ t = 3 := by omega
                                         all_goals decide
      have inner : ∀ o : Nat, o ≤ 4 - t → vi_ok GG (d + 1) 175 12 [some (.inl rt), some (.inl ro), some (.inl (bN (kB t + o) f : Int)), some (.inl (t : Int)), some (.inl (o : Int))] [] (Y, M, n) Q := by
        refine vi_dn (4 - t) ?_ fun o ho iho => ?_
        · have := ih (some (.inl ((4 - t : Nat) : Int)))
          rw [kB_s]
          clear ih
          rw [s_175_12]
          simp (disch := omega) only [Option.toList_some, Option.toList_none, List.nil_append, List.cons_append, List.append_nil, true_and, and_true, not_true_eq_false, not_false_eq_true, true_implies, false_implies, implies_true, and_self, Int.reduceLT, Int.reduceLE, Int.reduceEq, Int.reduceNe, Int.reduceAdd, Int.reduceSub, Int.reduceMul, Int.reduceNeg, Int.reduceToNat, Int.toNat_natCast, ↓kk_ck, ↓kk_im, ↓kk_in, s_175_0, s_175_9, s_175_20, s_175_31, s_175_42, s_175_48, s_175_54, s_175_17, s_175_28, s_175_39, vi_32, vi_inc]
          exact this
        · have hkt : kT (kB t + o) = (t : Int) ∧ kO (kB t + o) = (o : Int) ∧ fKb (t : Int) (o : Int) = ((kB t + o : Nat) : Int) := by
            unfold kT kO kB fKb
            obtain rfl | rfl | rfl | rfl : t = 0 ∨ t = 1 ∨ t = 2 ∨ t = 3 := by omega
            all_goals
              simp
              (try split) <;> (try split) <;> (try split) <;> omega
          obtain ⟨e1, e2, e3⟩ := hkt
          have hfk := hf' (kB t + o)
          rw [e1, e2] at hfk
          have k176 := fun {K : Option vi_V → vi_W → Prop} {w : vi_W} => @k_176 d K rt ro (t : Int) (o : Int) w h1 h2 (by omega) (by omega)
          have k173 := fun {K : Option vi_V → vi_W → Prop} {w : vi_W} => @k_173 d K (t : Int) (o : Int) w (by omega) (by omega)
          rw [← hfk] at k176
          rw [e3] at k173
          have hlt := bN_lt (kB t + o) f
          have hj : kB t + o < 10 := by omega
          have hp2 : 2 ^ (kB t + o) ≤ 2 ^ 10 := Nat.pow_le_pow_right (by omega) (by omega)
          have hor := vi_or32n (x := bN (kB t + o) f) (y := 1 <<< (kB t + o)) (by omega) (by rw [Nat.shiftLeft_eq]; omega)
          have hsh := vi_shl32n (x := 1) (n := kB t + o) (by omega) (by rw [Nat.shiftLeft_eq]; omega)
          have e1' : ((1 : Nat) : Int) = 1 := rfl
          rw [e1'] at hsh
          rw [show kB t + (o + 1) = (kB t + o) + 1 by omega, bN] at iho
          have hor2 : ∀ K : Int → Prop, K ((bN (kB t + o) f ||| 1 <<< (kB t + o) : Nat) : Int) ↔ K (vi_or32 ((bN (kB t + o) f : Nat) : Int) (vi_shl32 1 ((kB t + o : Nat) : Int))) := fun K => by rw [hsh, hor]
          clear hsh hor ih kB_s kB_10 hf' e1 e2 e3 hlt hp2
          generalize f (kB t + o) = fk at *
          rw [s_175_12]
          cases fk
          · rw [Bool.toNat_false, Nat.zero_shiftLeft, Nat.or_zero] at iho
            simp (disch := omega) only [Option.toList_some, Option.toList_none, List.nil_append, List.cons_append, List.append_nil, true_and, and_true, not_true_eq_false, not_false_eq_true, true_implies, false_implies, implies_true, and_self, Int.reduceLT, Int.reduceLE, Int.reduceEq, Int.reduceNe, Int.reduceAdd, Int.reduceSub, Int.reduceMul, Int.reduceNeg, Int.reduceToNat, Int.toNat_natCast, ↓kk_ck, ↓kk_im, ↓kk_in, s_175_0, s_175_9, s_175_20, s_175_31, s_175_42, s_175_48, s_175_54, s_175_17, s_175_28, s_175_39, vi_32, k176, vi_bf, vi_inc]
            exact iho
          · rw [Bool.toNat_true] at iho
            have := (hor2 (fun u => vi_ok GG (d + 1) 175 12 [some (.inl rt), some (.inl ro), some (.inl u), some (.inl (t : Int)), some (.inl ((o + 1 : Nat) : Int))] [] (Y, M, n) Q)).mp iho
            simp (disch := omega) only [Option.toList_some, Option.toList_none, List.nil_append, List.cons_append, List.append_nil, true_and, and_true, not_true_eq_false, not_false_eq_true, true_implies, false_implies, implies_true, and_self, Int.reduceLT, Int.reduceLE, Int.reduceEq, Int.reduceNe, Int.reduceAdd, Int.reduceSub, Int.reduceMul, Int.reduceNeg, Int.reduceToNat, Int.toNat_natCast, ↓kk_ck, ↓kk_im, ↓kk_in, s_175_0, s_175_9, s_175_20, s_175_31, s_175_42, s_175_48, s_175_54, s_175_17, s_175_28, s_175_39, vi_32, k176, k173, vi_bt, vi_inc]
            exact this
      have := inner 0 (by omega)
      clear inner ih
      rw [s_175_4]
      simp (disch := omega) only [Option.toList_some, Option.toList_none, List.nil_append, List.cons_append, List.append_nil, true_and, and_true, not_true_eq_false, not_false_eq_true, true_implies, false_implies, implies_true, and_self, Int.reduceLT, Int.reduceLE, Int.reduceEq, Int.reduceNe, Int.reduceAdd, Int.reduceSub, Int.reduceMul, Int.reduceNeg, Int.reduceToNat, Int.toNat_natCast, ↓kk_ck, ↓kk_im, ↓kk_in, s_175_0, s_175_9, s_175_20, s_175_31, s_175_42, s_175_48, s_175_54, s_175_17, s_175_28, s_175_39]
      exact this
  have := loop 0 (by omega) none
  rw [e_175, s_175_0]
  exact this
theorem o_ee {s k e : Nat} (hs : s < 64) (hk : k < 3) (he : s / 4 ^ k % 4 = e) : vi_and32 (vi_shr32 (s : Int) ((2 * k : Nat) : Int)) (3 : Int) = (e : Int) := by
  have h := vi_shr32n (x := s) (n := 2 * k) (by omega)
  have hle : s >>> (2 * k) ≤ s := by rw [Nat.shiftRight_eq_div_pow]; exact Nat.div_le_self _ _
  have h2 := vi_and32n (x := s >>> (2 * k)) (y := 3) (by omega)
  rw [show (3 : Nat) = 2 ^ 2 - 1 from rfl, Nat.and_two_pow_sub_one_eq_mod, Nat.shiftRight_eq_div_pow, Nat.pow_mul] at h2
  rw [h, Nat.shiftRight_eq_div_pow, Nat.pow_mul, ← he]
  exact h2
theorem k_172 {s : Nat} (hs : s < 64) {w : vi_W} : vi_call GG (d + 2) 172 [.inl (s : Int)] w K ↔ K (some (.inl (fKd s))) w := by
  obtain ⟨Y, M, n⟩ := w
  refine vi_k (r := some (.inl _)) fun Q hQ => ?_
  unfold fKd at hQ
  have loop : ∀ k : Nat, k ≤ 3 → ∀ l4, vi_ok GG (d + 1) 172 6 [some (.inl (s : Int)), some (.inl (fOn s k)), some (.inl (fTw s k)), some (.inl ((2 * k : Nat) : Int)), l4] [] (Y, M, n) Q := by
    refine vi_dn 3 ?_ fun k hk ih => ?_
    · intro l4
      have hb := fTO_b s 3
      have k173 := fun {K : Option vi_V → vi_W → Prop} {w : vi_W} => @k_173 d K (fTw s 3) (fOn s 3) w (by omega) (by omega)
      rw [s_172_6]
      simp (disch := omega) only [Option.toList_some, Option.toList_none, List.nil_append, List.cons_append, List.append_nil, true_and, and_true, not_true_eq_false, not_false_eq_true, true_implies, false_implies, implies_true, and_self, Int.reduceLT, Int.reduceLE, Int.reduceEq, Int.reduceNe, Int.reduceAdd, Int.reduceSub, Int.reduceMul, Int.reduceNeg, Int.reduceToNat, Int.toNat_natCast, ↓kk_ck, ↓kk_im, ↓kk_in, s_172_0, s_172_12, s_172_26, s_172_30, s_172_31, s_172_40, s_172_46, s_172_50, s_172_51, s_172_59, s_172_23, s_172_64, k173]
      exact hQ
    · intro l4
      clear hQ
      have hb := fTO_b s k
      obtain ⟨e, he⟩ : ∃ e, s / 4 ^ k % 4 = e := ⟨_, rfl⟩
      have he4 : e < 4 := by rw [← he]; exact Nat.mod_lt _ (by omega)
      have ih := ih (some (.inl (e : Int)))
      rw [fTw, fOn, he, show ((2 * (k + 1) : Nat) : Int) = ((2 * k : Nat) : Int) + 2 by omega] at ih
      have E := fun (u : Unit) => o_ee (s := s) (k := k) hs hk he
      generalize fTw s k = t at *
      generalize fOn s k = o at *
      rw [s_172_6]
      by_cases c3 : e = 3
      · rw [if_pos c3, if_neg (by omega), Int.add_zero] at ih
        simp (disch := omega) only [Option.toList_some, Option.toList_none, List.nil_append, List.cons_append, List.append_nil, true_and, and_true, not_true_eq_false, not_false_eq_true, true_implies, false_implies, implies_true, and_self, Int.reduceLT, Int.reduceLE, Int.reduceEq, Int.reduceNe, Int.reduceAdd, Int.reduceSub, Int.reduceMul, Int.reduceNeg, Int.reduceToNat, Int.toNat_natCast, ↓kk_ck, ↓kk_im, ↓kk_in, s_172_0, s_172_12, s_172_26, s_172_30, s_172_31, s_172_40, s_172_46, s_172_50, s_172_51, s_172_59, s_172_23, s_172_64, E (), ne_eq, vi_32, Int.add_zero]
        exact ih
      · rw [if_neg c3, Int.add_zero] at ih
        by_cases c1 : e = 1
        · rw [if_pos (.inl c1)] at ih
          simp (disch := omega) only [Option.toList_some, Option.toList_none, List.nil_append, List.cons_append, List.append_nil, true_and, and_true, not_true_eq_false, not_false_eq_true, true_implies, false_implies, implies_true, and_self, Int.reduceLT, Int.reduceLE, Int.reduceEq, Int.reduceNe, Int.reduceAdd, Int.reduceSub, Int.reduceMul, Int.reduceNeg, Int.reduceToNat, Int.toNat_natCast, ↓kk_ck, ↓kk_im, ↓kk_in, s_172_0, s_172_12, s_172_26, s_172_30, s_172_31, s_172_40, s_172_46, s_172_50, s_172_51, s_172_59, s_172_23, s_172_64, E (), ne_eq, vi_32, Int.add_zero]
          exact ih
        · by_cases c2 : e = 2
          · rw [if_pos (.inr c2)] at ih
            simp (disch := omega) only [Option.toList_some, Option.toList_none, List.nil_append, List.cons_append, List.append_nil, true_and, and_true, not_true_eq_false, not_false_eq_true, true_implies, false_implies, implies_true, and_self, Int.reduceLT, Int.reduceLE, Int.reduceEq, Int.reduceNe, Int.reduceAdd, Int.reduceSub, Int.reduceMul, Int.reduceNeg, Int.reduceToNat, Int.toNat_natCast, ↓kk_ck, ↓kk_im, ↓kk_in, s_172_0, s_172_12, s_172_26, s_172_30, s_172_31, s_172_40, s_172_46, s_172_50, s_172_51, s_172_59, s_172_23, s_172_64, E (), ne_eq, vi_32, Int.add_zero]
            exact ih
          · rw [if_neg (by omega), Int.add_zero] at ih
            simp (disch := omega) only [Option.toList_some, Option.toList_none, List.nil_append, List.cons_append, List.append_nil, true_and, and_true, not_true_eq_false, not_false_eq_true, true_implies, false_implies, implies_true, and_self, Int.reduceLT, Int.reduceLE, Int.reduceEq, Int.reduceNe, Int.reduceAdd, Int.reduceSub, Int.reduceMul, Int.reduceNeg, Int.reduceToNat, Int.toNat_natCast, ↓kk_ck, ↓kk_im, ↓kk_in, s_172_0, s_172_12, s_172_26, s_172_30, s_172_31, s_172_40, s_172_46, s_172_50, s_172_51, s_172_59, s_172_23, s_172_64, E (), ne_eq, vi_32, Int.add_zero]
            exact ih
  have := loop 0 (by omega) none
  rw [e_172, s_172_0]
  exact this
/-- the row of suiting kinds is laid -/
theorem k_174 (hY : kY Y 151) : vi_call GG (d + 3) 174 [.inr (.inr 103)] (Y, M, n) K ↔ K none (Y, vi_rs M 106 (vi_m 10 (fun k => (fPs (kT k) (kO k) : Int)) (M 106)), n) := by
  obtain ⟨a1, a2, a3, a4, a5⟩ := y_103 hY (by omega)
  obtain ⟨g1, g2⟩ := y_106 hY (by omega)
  refine vi_k (r := none) fun Q hQ => ?_
  have loop : ∀ t : Nat, t ≤ 4 → ∀ l2 l3, vi_ok GG (d + 2) 174 2 [some (.inr (.inr 103)), some (.inl (t : Int)), l2, l3] [] (Y, vi_rs M 106 (vi_m (kB t) (fun k => (fPs (kT k) (kO k) : Int)) (M 106)), n) Q := by
    refine vi_dn 4 ?_ fun t ht ih => ?_
    · intro l2 l3
      rw [s_174_2]
      simp (disch := omega) only [Option.toList_some, Option.toList_none, List.nil_append, List.cons_append, List.append_nil, true_and, and_true, not_true_eq_false, not_false_eq_true, true_implies, false_implies, implies_true, and_self, Int.reduceLT, Int.reduceLE, Int.reduceEq, Int.reduceNe, Int.reduceAdd, Int.reduceSub, Int.reduceMul, Int.reduceNeg, Int.reduceToNat, Int.toNat_natCast, ↓kk_ck, ↓kk_im, ↓kk_in, s_174_0, s_174_7, s_174_16, s_174_26, s_174_35, s_174_46, s_174_52, s_174_58, s_174_13, s_174_21, s_174_31, s_174_39, s_174_32, s_174_45]
      exact hQ
    · intro l2 l3
      clear hQ
      have kB_s : kB t + (4 - t) = kB (t + 1) := by unfold kB; obtain rfl | rfl | rfl | rfl : t = 0 ∨ t = 1 ∨ t = 2 ∨ t = 3 := by omega
                                                    all_goals rfl
      have kB_10 : kB (t + 1) ≤ 10 := by unfold kB; obtain rfl | rfl | rfl | rfl : t = 0 ∨ t = 1 ∨ t = 2 ∨ t = 3 := by omega
                                         all_goals decide
      have inner : ∀ o : Nat, o ≤ 4 - t → ∀ l3, vi_ok GG (d + 2) 174 9 [some (.inr (.inr 103)), some (.inl (t : Int)), some (.inl (o : Int)), l3] [] (Y, vi_rs M 106 (vi_m (kB t + o) (fun k => (fPs (kT k) (kO k) : Int)) (M 106)), n) Q := by
        refine vi_dn (4 - t) ?_ fun o ho iho => ?_
        · intro l3
          have := ih (some (.inl ((4 - t : Nat) : Int))) l3
          rw [kB_s]
          clear ih
          rw [s_174_9]
          simp (disch := omega) only [Option.toList_some, Option.toList_none, List.nil_append, List.cons_append, List.append_nil, true_and, and_true, not_true_eq_false, not_false_eq_true, true_implies, false_implies, implies_true, and_self, Int.reduceLT, Int.reduceLE, Int.reduceEq, Int.reduceNe, Int.reduceAdd, Int.reduceSub, Int.reduceMul, Int.reduceNeg, Int.reduceToNat, Int.toNat_natCast, ↓kk_ck, ↓kk_im, ↓kk_in, s_174_0, s_174_7, s_174_16, s_174_26, s_174_35, s_174_46, s_174_52, s_174_58, s_174_13, s_174_21, s_174_31, s_174_39, s_174_32, s_174_45, vi_32, vi_inc]
          exact this
        · intro l3
          have hkt : kT (kB t + o) = (t : Int) ∧ kO (kB t + o) = (o : Int) ∧ fKb (t : Int) (o : Int) = ((kB t + o : Nat) : Int) := by
            unfold kT kO kB fKb
            obtain rfl | rfl | rfl | rfl : t = 0 ∨ t = 1 ∨ t = 2 ∨ t = 3 := by omega
            all_goals
              simp
              (try split) <;> (try split) <;> (try split) <;> omega
          obtain ⟨e1, e2, e3⟩ := hkt
          have iho := iho (some (.inl ((kB t + o : Nat) : Int)))
          have hfs : (fPs (kT (kB t + o)) (kO (kB t + o)) : Int) = (fPs (t : Int) (o : Int) : Int) := by rw [e1, e2]
          rw [show kB t + (o + 1) = (kB t + o) + 1 by omega, ← vi_m_s (z := kB t + o) (f := fun k => (fPs (kT k) (kO k) : Int)) (g := M 106) (v := (fPs (t : Int) (o : Int) : Int)) hfs.symm] at iho
          have k175 := fun {K : Option vi_V → vi_W → Prop} {w : vi_W} => @k_175 d K (t : Int) (o : Int) w (by omega) (by omega)
          have k173 := fun {K : Option vi_V → vi_W → Prop} {w : vi_W} => @k_173 (d + 1) K (t : Int) (o : Int) w (by omega) (by omega)
          rw [e3] at k173
          have hj : kB t + o < 10 := by omega
          clear ih kB_s kB_10 e1 e2 e3 hfs
          generalize fPs (t : Int) (o : Int) = fv at *
          generalize kB t + o = j at *
          rw [s_174_9]
          simp (disch := omega) only [Option.toList_some, Option.toList_none, List.nil_append, List.cons_append, List.append_nil, true_and, and_true, not_true_eq_false, not_false_eq_true, true_implies, false_implies, implies_true, and_self, Int.reduceLT, Int.reduceLE, Int.reduceEq, Int.reduceNe, Int.reduceAdd, Int.reduceSub, Int.reduceMul, Int.reduceNeg, Int.reduceToNat, Int.toNat_natCast, ↓kk_ck, ↓kk_im, ↓kk_in, s_174_0, s_174_7, s_174_16, s_174_26, s_174_35, s_174_46, s_174_52, s_174_58, s_174_13, s_174_21, s_174_31, s_174_39, s_174_32, s_174_45, a1, a2, a3, a4, a5, g1, g2, vi_32, k173, k175, vi_ms_rs, vi_rs_s, vi_rs_rs, vi_inc]
          exact iho
      have := inner 0 (by omega) l3
      clear inner ih
      rw [s_174_2]
      simp (disch := omega) only [Option.toList_some, Option.toList_none, List.nil_append, List.cons_append, List.append_nil, true_and, and_true, not_true_eq_false, not_false_eq_true, true_implies, false_implies, implies_true, and_self, Int.reduceLT, Int.reduceLE, Int.reduceEq, Int.reduceNe, Int.reduceAdd, Int.reduceSub, Int.reduceMul, Int.reduceNeg, Int.reduceToNat, Int.toNat_natCast, ↓kk_ck, ↓kk_im, ↓kk_in, s_174_0, s_174_7, s_174_16, s_174_26, s_174_35, s_174_46, s_174_52, s_174_58, s_174_13, s_174_21, s_174_31, s_174_39, s_174_32, s_174_45]
      exact this
  have := loop 0 (by omega) none none
  rw [show kB 0 = 0 from rfl, vi_m_0, vi_rs_id rfl] at this
  rw [e_174, s_174_0]
  exact this
end
