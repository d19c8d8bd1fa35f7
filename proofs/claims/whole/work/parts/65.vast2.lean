/-! Contracts of Vast, second part: what is left, what is dipped. -/
def fTj (L : List (Nat → Int)) (x y z : Int) (i : Nat) : Nat → Int
  | 0 => 0
  | k + 1 => fTj L x y z i k + (if i < k ∧ fLn L x y z k = true ∧ fCr L i k = true then (fCb L x y z i k L.length : Int) - 1 else 0)
def fT (L : List (Nat → Int)) (x y z : Int) : Nat → Int
  | 0 => 0
  | k + 1 => fT L x y z k + (if fLn L x y z k = true then gSz x y z (rL L k 0) + fTj L x y z k L.length else 0)
theorem fTj_b {L : List (Nat → Int)} {x y z : Int} {i : Nat} (hl : L.length ≤ 16) : ∀ k : Nat, -(k : Int) ≤ fTj L x y z i k ∧ fTj L x y z i k ≤ 16 * (k : Int)
  | 0 => by rw [fTj]; omega
  | k + 1 => by
    have ih := fTj_b (x := x) (y := y) (z := z) (i := i) hl k
    have h : fCb L x y z i k L.length ≤ L.length := sN_le _ _
    rw [fTj]
    generalize fCb L x y z i k L.length = t at *
    split <;> omega
theorem fT_b {L : List (Nat → Int)} {x y z : Int} (hl : L.length ≤ 16) (hx : 1 ≤ x ∧ x ≤ 1000) (hy : 1 ≤ y ∧ y ≤ 1000) (hz : 1 ≤ z ∧ z ≤ 1000) : ∀ k : Nat, -(16 * (k : Int)) ≤ fT L x y z k ∧ fT L x y z k ≤ 2000 * (k : Int)
  | 0 => by rw [fT]; omega
  | k + 1 => by
    have ih := fT_b hl hx hy hz k
    have h := fTj_b (x := x) (y := y) (z := z) (i := k) hl L.length
    have h2 : 1 ≤ gSz x y z (rL L k 0) ∧ gSz x y z (rL L k 0) ≤ 1000 := by unfold gSz; split; exact hx; split; exact hy; exact hz
    rw [fT]
    split <;> omega
theorem mul3_b {x y z : Int} (hx : 1 ≤ x ∧ x ≤ 1000) (hy : 1 ≤ y ∧ y ≤ 1000) (hz : 1 ≤ z ∧ z ≤ 1000) : (0 ≤ x * y ∧ x * y ≤ 1000000) ∧ (0 ≤ x * y * z ∧ x * y * z ≤ 1000000000) := by
  have h1 : x * y ≤ 1000 * 1000 := Int.mul_le_mul hx.2 hy.2 (by omega) (by omega)
  have h2 : 0 ≤ x * y := Int.mul_nonneg (by omega) (by omega)
  have h3 : x * y * z ≤ 1000000 * 1000 := Int.mul_le_mul h1 hz.2 (by omega) (by omega)
  have h4 : 0 ≤ x * y * z := Int.mul_nonneg h2 (by omega)
  exact ⟨⟨h2, h1⟩, h4, h3⟩
section
variable {d q lim : Nat} {K : Option vi_V → vi_W → Prop} {Y : vi_Y} {M : vi_M} {n : Nat × Nat} {L : List (Nat → Int)}
theorem k_161 (hY : kY Y 151) (hr : rOK (M 31) (M 32) L) (hl : L.length ≤ 16) (hg : ∀ r, r < L.length → gH (rL L r)) {x y z : Int} (hx : 1 ≤ x ∧ x ≤ 1000) (hy : 1 ≤ y ∧ y ≤ 1000) (hz : 1 ≤ z ∧ z ≤ 1000) : vi_call GG (d + 5) 161 [.inr (.inr 103), .inl x, .inl y, .inl z] (Y, M, n) K ↔ K (some (.inr (.inl (x * y * z - fT L x y z L.length)))) (Y, M, n) := by
  obtain ⟨a1, a2, a3, a4, a5⟩ := y_103 hY (by omega)
  obtain ⟨b1, b2, b3, b4, b5, b6, b7⟩ := y_30 hY (by omega)
  have r1 := kR_31 hY (by omega)
  have i1 := r1.1
  have hm := hr.1
  obtain ⟨m1, m2⟩ := mul3_b hx hy hz
  refine vi_k (r := some (.inr (.inl _))) fun Q hQ => ?_
  have loop : ∀ i : Nat, i ≤ L.length → ∀ l8 l9, vi_ok GG (d + 4) 161 18 [some (.inr (.inr 103)), some (.inl x), some (.inl y), some (.inl z), some (.inr (.inl (fT L x y z i))), none, some (.inl (L.length : Int)), some (.inl (i : Int)), l8, l9] [] (Y, M, n) Q := by
    refine vi_dn L.length ?_ fun i hi ih => ?_
    · intro l8 l9
      have hb := fT_b hl hx hy hz L.length
      clear hg hr
      generalize fT L x y z L.length = t at *
      generalize hp : x * y = p at *
      generalize hq : p * z = q at *
      rw [s_161_18]
      simp (disch := omega) only [Option.toList_some, Option.toList_none, List.nil_append, List.cons_append, List.append_nil, true_and, and_true, not_true_eq_false, not_false_eq_true, true_implies, false_implies, implies_true, and_self, Int.reduceLT, Int.reduceLE, Int.reduceEq, Int.reduceNe, Int.reduceAdd, Int.reduceSub, Int.reduceMul, Int.reduceNeg, Int.reduceToNat, Int.toNat_natCast, ↓kk_ck, ↓kk_im, ↓kk_in, s_161_0, s_161_25, s_161_37, s_161_40, s_161_82, s_161_94, s_161_105, s_161_128, s_161_134, s_161_140, s_161_7, s_161_34, s_161_44, s_161_91, s_161_102, s_161_124, s_161_10, s_161_47, s_161_13, s_161_53, s_161_65, hp, vi_64, hq]
      exact hQ
    · intro l8 l9
      have hb := fT_b hl hx hy hz i
      have hbj := fun k : Nat => fTj_b (x := x) (y := y) (z := z) (i := i) hl k
      have h2 : 1 ≤ gSz x y z (rL L i 0) ∧ gSz x y z (rL L i 0) ≤ 1000 := by unfold gSz; split; exact hx; split; exact hy; exact hz
      have k165 := fun {K : Option vi_V → vi_W → Prop} {k : Nat} (hk : k < L.length) => @k_165 (d + 2) K Y M n L hY hr hl k hk x y z
      have N0 := fun {K : Option vi_V → vi_W → Prop} => @k_num (d + 3) 31 16 K Y M n L r1 hr hl i hi 0 (by omega) 0 rfl
      have k164 := fun {K : Option vi_V → vi_W → Prop} {w : vi_W} {a : Int} => @k_164 (d + 3) K a x y z w
      have ci := fun {K : Option vi_V → vi_W → Prop} {k : Nat} (hk : k < L.length) => @k_166 (d + 1) K Y M n L hY hr hl hg i k hi hk
      have cb := fun {K : Option vi_V → vi_W → Prop} {k : Nat} (hk : k < L.length) => @k_167 d K Y M n L hY hr hl hg i k hi hk x y z
      rw [fT] at ih
      clear hQ
      cases hc : fLn L x y z i
      · rw [hc, if_neg (by simp), Int.add_zero] at ih
        have k165i := fun {K : Option vi_V → vi_W → Prop} => @k165 K i hi
        clear hg hr k165 ci cb hbj
        rw [s_161_18]
        simp (disch := omega) only [Option.toList_some, Option.toList_none, List.nil_append, List.cons_append, List.append_nil, true_and, and_true, not_true_eq_false, not_false_eq_true, true_implies, false_implies, implies_true, and_self, Int.reduceLT, Int.reduceLE, Int.reduceEq, Int.reduceNe, Int.reduceAdd, Int.reduceSub, Int.reduceMul, Int.reduceNeg, Int.reduceToNat, Int.toNat_natCast, ↓kk_ck, ↓kk_im, ↓kk_in, s_161_0, s_161_25, s_161_37, s_161_40, s_161_82, s_161_94, s_161_105, s_161_128, s_161_134, s_161_140, s_161_7, s_161_34, s_161_44, s_161_91, s_161_102, s_161_124, s_161_10, s_161_47, s_161_13, s_161_53, s_161_65, a1, a2, b1, b2, i1, k165i, hc, vi_bf, ne_eq, vi_inc]
        exact ih _ _
      · rw [hc, if_pos rfl] at ih
        have inner : ∀ k : Nat, k ≤ L.length → i < k → vi_ok GG (d + 4) 161 75 [some (.inr (.inr 103)), some (.inl x), some (.inl y), some (.inl z), some (.inr (.inl (fT L x y z i + (gSz x y z (rL L i 0) + fTj L x y z i k)))), none, some (.inl (L.length : Int)), some (.inl (i : Int)), some (.inl (rL L i 0)), some (.inl (k : Int))] [] (Y, M, n) Q := by
          refine vi_dn L.length ?_ fun k hk ihk => ?_
          · intro hik
            have := ih (some (.inl (rL L i 0))) (some (.inl (L.length : Int)))
            clear ih k165 N0 k164 ci cb hg hr hbj
            rw [s_161_75]
            simp (disch := omega) only [Option.toList_some, Option.toList_none, List.nil_append, List.cons_append, List.append_nil, true_and, and_true, not_true_eq_false, not_false_eq_true, true_implies, false_implies, implies_true, and_self, Int.reduceLT, Int.reduceLE, Int.reduceEq, Int.reduceNe, Int.reduceAdd, Int.reduceSub, Int.reduceMul, Int.reduceNeg, Int.reduceToNat, Int.toNat_natCast, ↓kk_ck, ↓kk_im, ↓kk_in, s_161_0, s_161_25, s_161_37, s_161_40, s_161_82, s_161_94, s_161_105, s_161_128, s_161_134, s_161_140, s_161_7, s_161_34, s_161_44, s_161_91, s_161_102, s_161_124, s_161_10, s_161_47, s_161_13, s_161_53, s_161_65, vi_inc]
            exact this
          · intro hik
            have ihk := ihk (by omega)
            have k165k := fun {K : Option vi_V → vi_W → Prop} => @k165 K k hk
            have cik := fun {K : Option vi_V → vi_W → Prop} => @ci K k hk
            have cbk := fun {K : Option vi_V → vi_W → Prop} => @cb K k hk
            have h3 := hbj k
            have h4 : fCb L x y z i k L.length ≤ L.length := sN_le _ _
            rw [fTj] at ihk
            clear ih k165 N0 k164 ci cb hg hr hbj
            generalize fT L x y z i = t0 at *
            generalize gSz x y z (rL L i 0) = t1 at *
            generalize fTj L x y z i k = t2 at *
            generalize fCb L x y z i k L.length = t3 at *
            rw [s_161_75]
            cases h5 : fLn L x y z k
            · rw [if_neg (fun h => by rw [h5] at h; cases h.2.1), Int.add_zero] at ihk
              simp (disch := omega) only [Option.toList_some, Option.toList_none, List.nil_append, List.cons_append, List.append_nil, true_and, and_true, not_true_eq_false, not_false_eq_true, true_implies, false_implies, implies_true, and_self, Int.reduceLT, Int.reduceLE, Int.reduceEq, Int.reduceNe, Int.reduceAdd, Int.reduceSub, Int.reduceMul, Int.reduceNeg, Int.reduceToNat, Int.toNat_natCast, ↓kk_ck, ↓kk_im, ↓kk_in, s_161_0, s_161_25, s_161_37, s_161_40, s_161_82, s_161_94, s_161_105, s_161_128, s_161_134, s_161_140, s_161_7, s_161_34, s_161_44, s_161_91, s_161_102, s_161_124, s_161_10, s_161_47, s_161_13, s_161_53, s_161_65, a1, a2, b1, b2, i1, k165k, h5, vi_bf, ne_eq, vi_inc]
              exact ihk
            · cases h6 : fCr L i k
              · rw [if_neg (fun h => by rw [h6] at h; cases h.2.2), Int.add_zero] at ihk
                simp (disch := omega) only [Option.toList_some, Option.toList_none, List.nil_append, List.cons_append, List.append_nil, true_and, and_true, not_true_eq_false, not_false_eq_true, true_implies, false_implies, implies_true, and_self, Int.reduceLT, Int.reduceLE, Int.reduceEq, Int.reduceNe, Int.reduceAdd, Int.reduceSub, Int.reduceMul, Int.reduceNeg, Int.reduceToNat, Int.toNat_natCast, ↓kk_ck, ↓kk_im, ↓kk_in, s_161_0, s_161_25, s_161_37, s_161_40, s_161_82, s_161_94, s_161_105, s_161_128, s_161_134, s_161_140, s_161_7, s_161_34, s_161_44, s_161_91, s_161_102, s_161_124, s_161_10, s_161_47, s_161_13, s_161_53, s_161_65, a1, a2, b1, b2, i1, k165k, cik, h5, h6, vi_bf, vi_bt, ne_eq, vi_inc]
                exact ihk
              · rw [if_pos ⟨hik, h5, h6⟩] at ihk
                simp (disch := omega) only [Option.toList_some, Option.toList_none, List.nil_append, List.cons_append, List.append_nil, true_and, and_true, not_true_eq_false, not_false_eq_true, true_implies, false_implies, implies_true, and_self, Int.reduceLT, Int.reduceLE, Int.reduceEq, Int.reduceNe, Int.reduceAdd, Int.reduceSub, Int.reduceMul, Int.reduceNeg, Int.reduceToNat, Int.toNat_natCast, ↓kk_ck, ↓kk_im, ↓kk_in, s_161_0, s_161_25, s_161_37, s_161_40, s_161_82, s_161_94, s_161_105, s_161_128, s_161_134, s_161_140, s_161_7, s_161_34, s_161_44, s_161_91, s_161_102, s_161_124, s_161_10, s_161_47, s_161_13, s_161_53, s_161_65, a1, a2, b1, b2, i1, k165k, cik, cbk, h5, h6, vi_bt, ne_eq, vi_inc, vi_64]
                exact vi_fI (fun u => vi_ok GG (d + 4) 161 75 [some (.inr (.inr 103)), some (.inl x), some (.inl y), some (.inl z), some (.inr (.inl u)), none, some (.inl (L.length : Int)), some (.inl (i : Int)), some (.inl (rL L i 0)), some (.inl ((k + 1 : Nat) : Int))] [] (Y, M, n) Q) ihk (by omega)
        have e0 : ∀ k, k ≤ i + 1 → fTj L x y z i k = 0 := by
          intro k
          induction k with
          | zero => intro _; rfl
          | succ k ih => intro hk; rw [fTj, ih (by omega), if_neg (fun h => by omega)]; rfl
        have := inner (i + 1) (by omega) (by omega)
        rw [e0 _ (Nat.le_refl _), Int.add_zero] at this
        have k165i := fun {K : Option vi_V → vi_W → Prop} => @k165 K i hi
        clear inner ih k165 ci cb hg hr hbj e0
        generalize fT L x y z i = t0 at *
        generalize hgs : gSz x y z (rL L i 0) = t1 at *
        rw [s_161_18]
        simp (disch := omega) only [Option.toList_some, Option.toList_none, List.nil_append, List.cons_append, List.append_nil, true_and, and_true, not_true_eq_false, not_false_eq_true, true_implies, false_implies, implies_true, and_self, Int.reduceLT, Int.reduceLE, Int.reduceEq, Int.reduceNe, Int.reduceAdd, Int.reduceSub, Int.reduceMul, Int.reduceNeg, Int.reduceToNat, Int.toNat_natCast, ↓kk_ck, ↓kk_im, ↓kk_in, s_161_0, s_161_25, s_161_37, s_161_40, s_161_82, s_161_94, s_161_105, s_161_128, s_161_134, s_161_140, s_161_7, s_161_34, s_161_44, s_161_91, s_161_102, s_161_124, s_161_10, s_161_47, s_161_13, s_161_53, s_161_65, a1, a2, b1, b2, i1, k165i, hc, vi_bt, ne_eq, N0, k164, hgs, vi_inc, vi_64]
        exact this
  have := loop 0 (by omega) none none
  simp (disch := omega) only [Option.toList_some, Option.toList_none, List.nil_append, List.cons_append, List.append_nil, true_and, and_true, not_true_eq_false, not_false_eq_true, true_implies, false_implies, implies_true, and_self, Int.reduceLT, Int.reduceLE, Int.reduceEq, Int.reduceNe, Int.reduceAdd, Int.reduceSub, Int.reduceMul, Int.reduceNeg, Int.reduceToNat, Int.toNat_natCast, ↓kk_ck, ↓kk_im, ↓kk_in, e_161, s_161_0, s_161_25, s_161_37, s_161_40, s_161_82, s_161_94, s_161_105, s_161_128, s_161_134, s_161_140, s_161_7, s_161_34, s_161_44, s_161_91, s_161_102, s_161_124, s_161_10, s_161_47, s_161_13, s_161_53, s_161_65, a1, a2, b1, b2, e_149, s_149_0, s_149_4, i1, hm]
  exact this
end
