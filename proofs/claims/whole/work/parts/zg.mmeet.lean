/-! doMeet, meet (reference). -/
def dmB (f : Nat → Int) (a b : Nat) : Bool := (List.range 6).any (fun i => (List.range 6).any (fun k => decide (scC f a i ≠ -1 ∧ scC f a i = scC f b k)))
/-- whom a screw meets, among the first k -/
def mtG (f : Nat → Int) (a : Nat) : Nat → Nat
  | 0 => 0
  | k + 1 => if a ≠ k ∧ dmB f a k = true then mtG f a k ||| 2 ^ k else mtG f a k
def prS (f : Nat → Int) (n : Nat) : Nat → Nat
  | 0 => 0
  | a + 1 => prS f n a + mOs (mtG f a n) 8
/-- none of a set meets another of it -/
def bsB (f : Nat → Int) (n set : Nat) : Nat → Bool
  | 0 => true
  | a + 1 => bsB f n set a && (!set.testBit a || decide (mtG f a n &&& set = 0))
def bsF (f : Nat → Int) (n : Nat) : Nat → Nat
  | 0 => 0
  | s + 1 => if mOs (bsF f n s) 8 < mOs s 8 ∧ bsB f n s n = true then s else bsF f n s
def mtR (f : Nat → Int) (n : Nat) (w : Int) : Int := if w = 0 then ((prS f n n / 2 : Nat) : Int) else if w = 1 then (mOs (bsF f n (2 ^ n)) 8 : Int) else (bsF f n (2 ^ n) : Int)
theorem mtG_lt {f : Nat → Int} {a : Nat} : ∀ k : Nat, mtG f a k < 2 ^ k
  | 0 => by rw [mtG]; exact Nat.two_pow_pos 0
  | k + 1 => by
    have := mtG_lt (f := f) (a := a) k
    have h1 : 2 ^ k < 2 ^ (k + 1) := Nat.pow_lt_pow_right (by omega) (by omega)
    rw [mtG]
    split
    · exact Nat.or_lt_two_pow (by omega) h1
    · omega
theorem prS_l {f : Nat → Int} {n : Nat} : ∀ k : Nat, prS f n k ≤ 8 * k
  | 0 => Nat.le_refl _
  | k + 1 => by
    have := prS_l (f := f) (n := n) k
    have := mOs_r (x := mtG f k n) 8
    rw [prS]; omega
theorem bsF_lt {f : Nat → Int} {n : Nat} : ∀ s : Nat, bsF f n s ≤ s
  | 0 => Nat.le_refl _
  | s + 1 => by
    have := bsF_lt (f := f) (n := n) s
    rw [bsF]
    split <;> omega
theorem and_0 {x y : Nat} (hx : x < 2147483648) (h : x &&& y = 0) : vi_and32 (x : Int) (y : Int) = 0 := by rw [vi_and32n hx, h]; rfl
theorem and_x {x y : Nat} (hx : x < 2147483648) (h : ¬ x &&& y = 0) : ¬ vi_and32 (x : Int) (y : Int) = 0 := by rw [vi_and32n hx]; omega
theorem or_0 {x : Nat} (hx : x < 2147483648) : vi_or32 (x : Int) 0 = (x : Int) := by
  have := vi_or32n (x := x) (y := 0) hx (by omega)
  rw [Nat.or_zero] at this
  exact this
section
variable {D : Nat} {K : Option vi_V → vi_W → Prop} {Y : vi_Y} {M : vi_M} {nn : Nat × Nat} {Q : Option vi_V → vi_W → Prop}
theorem k_343 (hY : kY Y 151) (hB : mBx M) {a b : Nat} (ha : a < 8) (hb : b < 8) (hA : mSw (M 114) a) (hC : mSw (M 114) b) (hD : 6 ≤ D) : vi_call GG D 343 [.inr (.inr 112), .inl (a : Int), .inl (b : Int)] (Y, M, nn) K ↔ K (some (.inl (vi_b (dmB (M 114) a b)))) (Y, M, nn) := by
  obtain ⟨D, rfl⟩ : ∃ k, D = k + 1 := ⟨D - 1, by omega⟩
  obtain ⟨R1, -⟩ := y_112 hY (by omega)
  refine vi_k (r := some (.inl _)) fun Q hQ => ?_
  have yes : ∀ i k, i < 6 → k < 6 → scC (M 114) a i ≠ -1 → scC (M 114) a i = scC (M 114) b k → dmB (M 114) a b = true := fun i k hi hk h1 h2 => List.any_eq_true.mpr ⟨i, List.mem_range.mpr hi, List.any_eq_true.mpr ⟨k, List.mem_range.mpr hk, decide_eq_true ⟨h1, h2⟩⟩⟩
  have outer : ∀ i : Nat, i ≤ 6 → (∀ i' k', i' < i → k' < 6 → ¬ (scC (M 114) a i' ≠ -1 ∧ scC (M 114) a i' = scC (M 114) b k')) → ∀ l4, vi_ok GG D 343 2 [some (.inr (.inr 112)), some (.inl (a : Int)), some (.inl (b : Int)), some (.inl (i : Int)), l4] [] (Y, M, nn) Q := by
    refine vi_dn (P := fun i => (∀ i' k', i' < i → k' < 6 → ¬ (scC (M 114) a i' ≠ -1 ∧ scC (M 114) a i' = scC (M 114) b k')) → ∀ l4, vi_ok GG D 343 2 [some (.inr (.inr 112)), some (.inl (a : Int)), some (.inl (b : Int)), some (.inl (i : Int)), l4] [] (Y, M, nn) Q) 6 ?_ fun i hi ih => ?_
    · intro hno l4
      have : dmB (M 114) a b = false := by
        cases h : dmB (M 114) a b
        · rfl
        · obtain ⟨i, i1, i2⟩ := List.any_eq_true.mp h
          obtain ⟨k, k1, k2⟩ := List.any_eq_true.mp i2
          rw [List.mem_range] at i1 k1
          exact absurd (of_decide_eq_true k2) (hno i k i1 k1)
      rw [this] at hQ
      clear hno yes
      rw [s_343_2]
      simp (disch := omega) only [Option.toList_some, Option.toList_none, List.nil_append, List.cons_append, List.append_nil, true_and, and_true, not_true_eq_false, not_false_eq_true, true_implies, false_implies, implies_true, and_self, Int.reduceLT, Int.reduceLE, Int.reduceEq, Int.reduceNe, Int.reduceAdd, Int.reduceSub, Int.reduceMul, Int.reduceNeg, Int.reduceToNat, Int.toNat_natCast, ↓kk_ck, ↓kk_im, ↓kk_in, s_343_58]
      exact hQ
    · intro hno l4
      have inner : ∀ k : Nat, k ≤ 6 → (∀ k', k' < k → ¬ (scC (M 114) a i ≠ -1 ∧ scC (M 114) a i = scC (M 114) b k')) → vi_ok GG D 343 11 [some (.inr (.inr 112)), some (.inl (a : Int)), some (.inl (b : Int)), some (.inl (i : Int)), some (.inl (k : Int))] [] (Y, M, nn) Q := by
        refine vi_dn (P := fun k => (∀ k', k' < k → ¬ (scC (M 114) a i ≠ -1 ∧ scC (M 114) a i = scC (M 114) b k')) → vi_ok GG D 343 11 [some (.inr (.inr 112)), some (.inl (a : Int)), some (.inl (b : Int)), some (.inl (i : Int)), some (.inl (k : Int))] [] (Y, M, nn) Q) 6 ?_ fun k hk ihk => ?_
        · intro hno2
          have := ih (fun i' k' h1 h2 => by
            by_cases e : i' = i
            · rw [e]; exact hno2 k' h2
            · exact hno i' k' (by omega) h2) (some (.inl 6))
          clear ih hQ hno hno2 yes
          rw [s_343_11]
          simp (disch := omega) only [Option.toList_some, Option.toList_none, List.nil_append, List.cons_append, List.append_nil, true_and, and_true, not_true_eq_false, not_false_eq_true, true_implies, false_implies, implies_true, and_self, Int.reduceLT, Int.reduceLE, Int.reduceEq, Int.reduceNe, Int.reduceAdd, Int.reduceSub, Int.reduceMul, Int.reduceNeg, Int.reduceToNat, Int.toNat_natCast, ↓kk_ck, ↓kk_im, ↓kk_in, s_343_52, vi_inc]
          exact this
        · intro hno2
          clear ih hno
          have ka := fun {D : Nat} {K : Option vi_V → vi_W → Prop} (hD : 5 ≤ D) => @k_342 D K Y M nn hY hB a i ha hA (by omega) hD
          have kb := fun {D : Nat} {K : Option vi_V → vi_W → Prop} (hD : 5 ≤ D) => @k_342 D K Y M nn hY hB b k hb hC (by omega) hD
          have next : ¬ (scC (M 114) a i ≠ -1 ∧ scC (M 114) a i = scC (M 114) b k) → vi_ok GG D 343 11 [some (.inr (.inr 112)), some (.inl (a : Int)), some (.inl (b : Int)), some (.inl (i : Int)), some (.inl ((k + 1 : Nat) : Int))] [] (Y, M, nn) Q := fun hn => ihk fun k' hk' => by
            by_cases e : k' = k
            · rw [e]; exact hn
            · exact hno2 k' (by omega)
          clear ihk hno2
          rw [s_343_11]
          by_cases q1 : scC (M 114) a i = -1
          · have := next (fun h => h.1 q1)
            clear next hQ yes
            simp (disch := omega) only [Option.toList_some, Option.toList_none, List.nil_append, List.cons_append, List.append_nil, true_and, and_true, not_true_eq_false, not_false_eq_true, true_implies, false_implies, implies_true, and_self, Int.reduceLT, Int.reduceLE, Int.reduceEq, Int.reduceNe, Int.reduceAdd, Int.reduceSub, Int.reduceMul, Int.reduceNeg, Int.reduceToNat, Int.toNat_natCast, ↓kk_ck, ↓kk_im, ↓kk_in, s_343_18, s_343_24, s_343_46, R1, ka, q1, vi_inc, ne_eq]
            exact this
          · by_cases q2 : scC (M 114) a i = scC (M 114) b k
            · rw [yes i k hi hk q1 q2] at hQ
              rw [q2] at ka q1
              clear next yes
              simp (disch := omega) only [Option.toList_some, Option.toList_none, List.nil_append, List.cons_append, List.append_nil, true_and, and_true, not_true_eq_false, not_false_eq_true, true_implies, false_implies, implies_true, and_self, Int.reduceLT, Int.reduceLE, Int.reduceEq, Int.reduceNe, Int.reduceAdd, Int.reduceSub, Int.reduceMul, Int.reduceNeg, Int.reduceToNat, Int.toNat_natCast, ↓kk_ck, ↓kk_im, ↓kk_in, s_343_18, s_343_24, s_343_28, s_343_34, s_343_41, s_343_44, R1, ka, kb, q1, ne_eq]
              exact hQ
            · have := next (fun h => q2 h.2)
              clear next hQ yes
              simp (disch := omega) only [Option.toList_some, Option.toList_none, List.nil_append, List.cons_append, List.append_nil, true_and, and_true, not_true_eq_false, not_false_eq_true, true_implies, false_implies, implies_true, and_self, Int.reduceLT, Int.reduceLE, Int.reduceEq, Int.reduceNe, Int.reduceAdd, Int.reduceSub, Int.reduceMul, Int.reduceNeg, Int.reduceToNat, Int.toNat_natCast, ↓kk_ck, ↓kk_im, ↓kk_in, s_343_18, s_343_24, s_343_28, s_343_34, s_343_41, s_343_46, R1, ka, kb, q1, q2, vi_inc, ne_eq]
              exact this
      have := inner 0 (by omega) (fun k' h => by omega)
      rw [show ((0 : Nat) : Int) = 0 from rfl] at this
      clear inner ih hQ hno yes
      rw [s_343_2]
      simp (disch := omega) only [Option.toList_some, Option.toList_none, List.nil_append, List.cons_append, List.append_nil, true_and, and_true, not_true_eq_false, not_false_eq_true, true_implies, false_implies, implies_true, and_self, Int.reduceLT, Int.reduceLE, Int.reduceEq, Int.reduceNe, Int.reduceAdd, Int.reduceSub, Int.reduceMul, Int.reduceNeg, Int.reduceToNat, Int.toNat_natCast, ↓kk_ck, ↓kk_im, ↓kk_in, s_343_8]
      exact this
  have := outer 0 (by omega) (fun i' k' h => by omega) none
  clear outer hQ yes
  simp (disch := omega) only [Option.toList_some, Option.toList_none, List.nil_append, List.cons_append, List.append_nil, true_and, and_true, not_true_eq_false, not_false_eq_true, true_implies, false_implies, implies_true, and_self, Int.reduceLT, Int.reduceLE, Int.reduceEq, Int.reduceNe, Int.reduceAdd, Int.reduceSub, Int.reduceMul, Int.reduceNeg, Int.reduceToNat, Int.toNat_natCast, ↓kk_ck, ↓kk_im, ↓kk_in, e_343, s_343_0]
  exact this
theorem k_344n (hY : kY Y 151) {w : Int} (h : ¬ (0 ≤ w ∧ w ≤ 2)) (hD : 2 ≤ D) : vi_call GG D 344 [.inr (.inr 112), .inl w] (Y, M, nn) K ↔ K (some (.inl (-1))) (Y, M, nn) := by
  obtain ⟨D, rfl⟩ : ∃ k, D = k + 1 := ⟨D - 1, by omega⟩
  refine vi_k (r := some (.inl _)) fun Q hQ => ?_
  simp (disch := omega) only [Option.toList_some, Option.toList_none, List.nil_append, List.cons_append, List.append_nil, true_and, and_true, not_true_eq_false, not_false_eq_true, true_implies, false_implies, implies_true, and_self, Int.reduceLT, Int.reduceLE, Int.reduceEq, Int.reduceNe, Int.reduceAdd, Int.reduceSub, Int.reduceMul, Int.reduceNeg, Int.reduceToNat, Int.toNat_natCast, ↓kk_ck, ↓kk_im, ↓kk_in, e_344, s_344_0, s_344_6, s_344_9, k_234f h, ne_eq]
  exact hQ
theorem k_344 (hY : kY Y 151) (hB : mBx M) {n : Nat} (hn : n ≤ 8) (h294 : M 114 294 = (n : Int)) (hsc : ∀ a, a < n → mSw (M 114) a) {w : Int} (hw : 0 ≤ w ∧ w ≤ 2) (hD : 7 ≤ D) : vi_call GG D 344 [.inr (.inr 112), .inl w] (Y, M, nn) K ↔ K (some (.inl (mtR (M 114) n w))) (Y, vi_rs M 147 (vi_m n (fun a => (mtG (M 114) a n : Int)) (M 147)), nn) := by
  obtain ⟨D, rfl⟩ : ∃ k, D = k + 1 := ⟨D - 1, by omega⟩
  obtain ⟨R1, -, R3, -, -, -, -, -, -, -, -, -, -, -, -, -, -, -, -, -, -, -, -, -, -, -, -, -, -, -, -, -, -, -, -, R58, -⟩ := y_112 hY (by omega)
  obtain ⟨w1, w2⟩ := y_114 hY (by omega)
  obtain ⟨p1, p2⟩ := y_147 hY (by omega)
  refine vi_k (r := some (.inl _)) fun Q hQ => ?_
  obtain ⟨f, hf⟩ : ∃ f, f = M 114 := ⟨_, rfl⟩
  rw [← hf] at hQ
  have h8 : 2 ^ n ≤ 2 ^ 8 := Nat.pow_le_pow_right (by omega) hn
  have hpn := Nat.two_pow_pos n
  -- sets one by one
  have sets : ∀ M' : vi_M, M' = vi_rs M 147 (vi_m n (fun a => (mtG f a n : Int)) (M 147)) → ¬ w = 0 → ∀ s : Nat, s ≤ 2 ^ n → ∀ l6 l7, vi_ok GG D 344 123 [some (.inr (.inr 112)), some (.inl w), some (.inl (n : Int)), some (.inl (prS f n n : Int)), some (.inl (bsF f n s : Int)), some (.inl (s : Int)), l6, l7] [] (Y, M', nn) Q := by
    intro M' hM' hw0
    rw [← hM'] at hQ
    have h147 : ∀ a, a < n → M' 147 a = (mtG f a n : Int) := fun a ha => by rw [hM', vi_rs_s, vi_m_lt ha]
    clear hM'
    refine vi_dn (P := fun s => ∀ l6 l7, vi_ok GG D 344 123 [some (.inr (.inr 112)), some (.inl w), some (.inl (n : Int)), some (.inl (prS f n n : Int)), some (.inl (bsF f n s : Int)), some (.inl (s : Int)), l6, l7] [] (Y, M', nn) Q) _ ?_ fun s hs ih => ?_
    · intro l6 l7
      have hbl := bsF_lt (f := f) (n := n) (2 ^ n)
      unfold mtR at hQ
      rw [if_neg hw0] at hQ
      rw [s_344_123]
      by_cases q : w = 1
      · rw [if_pos q] at hQ
        simp (disch := omega) only [Option.toList_some, Option.toList_none, List.nil_append, List.cons_append, List.append_nil, true_and, and_true, not_true_eq_false, not_false_eq_true, true_implies, false_implies, implies_true, and_self, Int.reduceLT, Int.reduceLE, Int.reduceEq, Int.reduceNe, Int.reduceAdd, Int.reduceSub, Int.reduceMul, Int.reduceNeg, Int.reduceToNat, Int.toNat_natCast, ↓kk_ck, ↓kk_im, ↓kk_in, s_344_128, s_344_216, s_344_221, s_344_226, s_344_231, sh_14 (show n ≤ 14 by omega), q, @k_237 _ _ (bsF f n (2 ^ n)) (by omega), ne_eq]
        exact hQ
      · rw [if_neg q] at hQ
        simp (disch := omega) only [Option.toList_some, Option.toList_none, List.nil_append, List.cons_append, List.append_nil, true_and, and_true, not_true_eq_false, not_false_eq_true, true_implies, false_implies, implies_true, and_self, Int.reduceLT, Int.reduceLE, Int.reduceEq, Int.reduceNe, Int.reduceAdd, Int.reduceSub, Int.reduceMul, Int.reduceNeg, Int.reduceToNat, Int.toNat_natCast, ↓kk_ck, ↓kk_im, ↓kk_in, s_344_128, s_344_216, s_344_229, s_344_231, sh_14 (show n ≤ 14 by omega), q, ne_eq]
        exact hQ
    · intro l6 l7
      clear hQ
      have hbl := bsF_lt (f := f) (n := n) s
      rw [bsF] at ih
      -- the last step: taken or not
      have take : ∀ b : Bool, (b = true ↔ mOs (bsF f n s) 8 < mOs s 8 ∧ bsB f n s n = true) → ∀ y7 : Int, vi_ok GG D 344 201 [some (.inr (.inr 112)), some (.inl w), some (.inl (n : Int)), some (.inl (prS f n n : Int)), some (.inl (bsF f n s : Int)), some (.inl (s : Int)), some (.inl (vi_b b)), some (.inl y7)] [] (Y, M', nn) Q := by
        intro b hb y7
        cases b
        · rw [if_neg (fun k => by have := hb.mpr k; cases this)] at ih
          have := ih (some (.inl 0)) (some (.inl y7))
          clear ih
          simp (disch := omega) only [Option.toList_some, Option.toList_none, List.nil_append, List.cons_append, List.append_nil, true_and, and_true, not_true_eq_false, not_false_eq_true, true_implies, false_implies, implies_true, and_self, Int.reduceLT, Int.reduceLE, Int.reduceEq, Int.reduceNe, Int.reduceAdd, Int.reduceSub, Int.reduceMul, Int.reduceNeg, Int.reduceToNat, Int.toNat_natCast, ↓kk_ck, ↓kk_im, ↓kk_in, s_344_201, s_344_210, vi_bf, vi_inc]
          exact this
        · rw [if_pos (hb.mp rfl)] at ih
          have := ih (some (.inl 1)) (some (.inl y7))
          clear ih
          simp (disch := omega) only [Option.toList_some, Option.toList_none, List.nil_append, List.cons_append, List.append_nil, true_and, and_true, not_true_eq_false, not_false_eq_true, true_implies, false_implies, implies_true, and_self, Int.reduceLT, Int.reduceLE, Int.reduceEq, Int.reduceNe, Int.reduceAdd, Int.reduceSub, Int.reduceMul, Int.reduceNeg, Int.reduceToNat, Int.toNat_natCast, ↓kk_ck, ↓kk_im, ↓kk_in, s_344_201, s_344_206, s_344_210, vi_bt, vi_inc]
          exact this
      clear ih
      have cut : ∀ (j k : Nat), bsB f n s j = false → bsB f n s (j + k) = false := fun j k h => by
        induction k with
        | zero => exact h
        | succ k ih => rw [← Nat.add_assoc, bsB, ih]; rfl
      have inner : ∀ a : Nat, a ≤ n → ∀ b : Bool, (b = true ↔ mOs (bsF f n s) 8 < mOs s 8 ∧ bsB f n s a = true) → vi_ok GG D 344 154 [some (.inr (.inr 112)), some (.inl w), some (.inl (n : Int)), some (.inl (prS f n n : Int)), some (.inl (bsF f n s : Int)), some (.inl (s : Int)), some (.inl (vi_b b)), some (.inl (a : Int))] [] (Y, M', nn) Q := by
        refine vi_dn (P := fun a => ∀ b : Bool, (b = true ↔ mOs (bsF f n s) 8 < mOs s 8 ∧ bsB f n s a = true) → vi_ok GG D 344 154 [some (.inr (.inr 112)), some (.inl w), some (.inl (n : Int)), some (.inl (prS f n n : Int)), some (.inl (bsF f n s : Int)), some (.inl (s : Int)), some (.inl (vi_b b)), some (.inl (a : Int))] [] (Y, M', nn) Q) n ?_ fun a ha iha => ?_
        · intro b hb
          have := take b hb (n : Int)
          clear take
          rw [s_344_154]
          simp (disch := omega) only [Option.toList_some, Option.toList_none, List.nil_append, List.cons_append, List.append_nil, true_and, and_true, not_true_eq_false, not_false_eq_true, true_implies, false_implies, implies_true, and_self, Int.reduceLT, Int.reduceLE, Int.reduceEq, Int.reduceNe, Int.reduceAdd, Int.reduceSub, Int.reduceMul, Int.reduceNeg, Int.reduceToNat, Int.toNat_natCast, ↓kk_ck, ↓kk_im, ↓kk_in]
          exact this
        · intro b hb
          clear take
          rw [s_344_154]
          cases b
          · have := iha false ⟨fun h => (by cases h), fun h => by
              rw [bsB] at h
              have h2 := h.2
              rw [Bool.and_eq_true] at h2
              exact hb.mpr ⟨h.1, h2.1⟩⟩
            clear iha hb
            simp (disch := omega) only [Option.toList_some, Option.toList_none, List.nil_append, List.cons_append, List.append_nil, true_and, and_true, not_true_eq_false, not_false_eq_true, true_implies, false_implies, implies_true, and_self, Int.reduceLT, Int.reduceLE, Int.reduceEq, Int.reduceNe, Int.reduceAdd, Int.reduceSub, Int.reduceMul, Int.reduceNeg, Int.reduceToNat, Int.toNat_natCast, ↓kk_ck, ↓kk_im, ↓kk_in, s_344_160, s_344_192, s_344_193, vi_bf, vi_inc]
            exact this
          · obtain ⟨hb1, hb2⟩ := hb.mp rfl
            cases b1 : s.testBit a
            · have := iha true ⟨fun _ => ⟨hb1, by rw [bsB, hb2, b1]; rfl⟩, fun _ => rfl⟩
              clear iha hb
              simp (disch := omega) only [Option.toList_some, Option.toList_none, List.nil_append, List.cons_append, List.append_nil, true_and, and_true, not_true_eq_false, not_false_eq_true, true_implies, false_implies, implies_true, and_self, Int.reduceLT, Int.reduceLE, Int.reduceEq, Int.reduceNe, Int.reduceAdd, Int.reduceSub, Int.reduceMul, Int.reduceNeg, Int.reduceToNat, Int.toNat_natCast, ↓kk_ck, ↓kk_im, ↓kk_in, s_344_160, s_344_165, s_344_172, s_344_188, s_344_193, vi_bt, @bit_f s a (by omega) (by omega) b1, vi_inc, ne_eq]
              exact this
            · have hml := mtG_lt (f := f) (a := a) n
              by_cases q : mtG f a n &&& s = 0
              · have := iha true ⟨fun _ => ⟨hb1, by rw [bsB, hb2, decide_eq_true q]; simp⟩, fun _ => rfl⟩
                clear iha hb
                simp (disch := omega) only [Option.toList_some, Option.toList_none, List.nil_append, List.cons_append, List.append_nil, true_and, and_true, not_true_eq_false, not_false_eq_true, true_implies, false_implies, implies_true, and_self, Int.reduceLT, Int.reduceLE, Int.reduceEq, Int.reduceNe, Int.reduceAdd, Int.reduceSub, Int.reduceMul, Int.reduceNeg, Int.reduceToNat, Int.toNat_natCast, ↓kk_ck, ↓kk_im, ↓kk_in, s_344_160, s_344_165, s_344_172, s_344_175, s_344_179, s_344_182, s_344_185, s_344_188, s_344_193, R1, R58, p1, p2, vi_bt, @bit_t s a (by omega) (by omega) b1, Int.toNat_natCast, h147 a ha, @and_0 (mtG f a n) s (by omega) q, vi_inc, ne_eq]
                exact this
              · have := iha false ⟨fun h => (by cases h), fun h => by
                  rw [bsB, b1, decide_eq_false q] at h
                  have h2 := h.2
                  simp at h2⟩
                clear iha hb
                simp (disch := omega) only [Option.toList_some, Option.toList_none, List.nil_append, List.cons_append, List.append_nil, true_and, and_true, not_true_eq_false, not_false_eq_true, true_implies, false_implies, implies_true, and_self, Int.reduceLT, Int.reduceLE, Int.reduceEq, Int.reduceNe, Int.reduceAdd, Int.reduceSub, Int.reduceMul, Int.reduceNeg, Int.reduceToNat, Int.toNat_natCast, ↓kk_ck, ↓kk_im, ↓kk_in, s_344_160, s_344_165, s_344_172, s_344_175, s_344_179, s_344_182, s_344_185, s_344_192, s_344_193, R1, R58, p1, p2, vi_bt, @bit_t s a (by omega) (by omega) b1, Int.toNat_natCast, h147 a ha, @and_x (mtG f a n) s (by omega) q, vi_inc, ne_eq]
                exact this
      rw [s_344_123]
      by_cases q : mOs (bsF f n s) 8 < mOs s 8
      · have := inner 0 (by omega) true ⟨fun _ => ⟨q, rfl⟩, fun _ => rfl⟩
        rw [show ((0 : Nat) : Int) = 0 from rfl] at this
        clear inner take
        simp (disch := omega) only [Option.toList_some, Option.toList_none, List.nil_append, List.cons_append, List.append_nil, true_and, and_true, not_true_eq_false, not_false_eq_true, true_implies, false_implies, implies_true, and_self, Int.reduceLT, Int.reduceLE, Int.reduceEq, Int.reduceNe, Int.reduceAdd, Int.reduceSub, Int.reduceMul, Int.reduceNeg, Int.reduceToNat, Int.toNat_natCast, ↓kk_ck, ↓kk_im, ↓kk_in, s_344_128, s_344_131, s_344_136, s_344_141, s_344_144, s_344_149, sh_14 (show n ≤ 14 by omega), @k_237 _ _ s (by omega), @k_237 _ _ (bsF f n s) (by omega)]
        exact this
      · have := inner 0 (by omega) false ⟨fun h => (by cases h), fun h => absurd h.1 q⟩
        rw [show ((0 : Nat) : Int) = 0 from rfl] at this
        clear inner take
        simp (disch := omega) only [Option.toList_some, Option.toList_none, List.nil_append, List.cons_append, List.append_nil, true_and, and_true, not_true_eq_false, not_false_eq_true, true_implies, false_implies, implies_true, and_self, Int.reduceLT, Int.reduceLE, Int.reduceEq, Int.reduceNe, Int.reduceAdd, Int.reduceSub, Int.reduceMul, Int.reduceNeg, Int.reduceToNat, Int.toNat_natCast, ↓kk_ck, ↓kk_im, ↓kk_in, s_344_128, s_344_131, s_344_136, s_344_141, s_344_148, s_344_149, sh_14 (show n ≤ 14 by omega), @k_237 _ _ s (by omega), @k_237 _ _ (bsF f n s) (by omega)]
        exact this
  have outer : ∀ a : Nat, a ≤ n → ∀ l5, vi_ok GG D 344 25 [some (.inr (.inr 112)), some (.inl w), some (.inl (n : Int)), some (.inl (prS f n a : Int)), some (.inl (a : Int)), l5, none, none] [] (Y, vi_rs M 147 (vi_m a (fun a => (mtG f a n : Int)) (M 147)), nn) Q := by
    refine vi_dn (P := fun a => ∀ l5, vi_ok GG D 344 25 [some (.inr (.inr 112)), some (.inl w), some (.inl (n : Int)), some (.inl (prS f n a : Int)), some (.inl (a : Int)), l5, none, none] [] (Y, vi_rs M 147 (vi_m a (fun a => (mtG f a n : Int)) (M 147)), nn) Q) n ?_ fun a ha ih => ?_
    · intro l5
      rw [s_344_25]
      by_cases q : w = 0
      · have hpl := prS_l (f := f) (n := n) n
        unfold mtR at hQ
        rw [if_pos q] at hQ
        rw [show ((prS f n n / 2 : Nat) : Int) = (prS f n n : Int) / 2 from rfl] at hQ
        clear sets
        simp (disch := omega) only [Option.toList_some, Option.toList_none, List.nil_append, List.cons_append, List.append_nil, true_and, and_true, not_true_eq_false, not_false_eq_true, true_implies, false_implies, implies_true, and_self, Int.reduceLT, Int.reduceLE, Int.reduceEq, Int.reduceNe, Int.reduceAdd, Int.reduceSub, Int.reduceMul, Int.reduceNeg, Int.reduceToNat, Int.toNat_natCast, ↓kk_ck, ↓kk_im, ↓kk_in, s_344_109, s_344_113, q, @vi_td (prS f n n : Int) 2 (by omega), @vi_32 ((prS f n n : Int) / 2) (by omega) (by omega), ne_eq]
        exact hQ
      · have := sets _ rfl q 0 (by omega) none none
        rw [show bsF f n 0 = 0 from rfl, show ((0 : Nat) : Int) = 0 from rfl] at this
        clear sets hQ
        simp (disch := omega) only [Option.toList_some, Option.toList_none, List.nil_append, List.cons_append, List.append_nil, true_and, and_true, not_true_eq_false, not_false_eq_true, true_implies, false_implies, implies_true, and_self, Int.reduceLT, Int.reduceLE, Int.reduceEq, Int.reduceNe, Int.reduceAdd, Int.reduceSub, Int.reduceMul, Int.reduceNeg, Int.reduceToNat, Int.toNat_natCast, ↓kk_ck, ↓kk_im, ↓kk_in, s_344_109, s_344_117, q, ne_eq]
        exact this
    · intro l5
      clear sets hQ
      rw [prS] at ih
      have hpl := prS_l (f := f) (n := n) a
      have hml := mtG_lt (f := f) (a := a) n
      have ho := mOs_r (x := mtG f a n) 8
      obtain ⟨G, hG⟩ : ∃ G, G = vi_m a (fun a => (mtG f a n : Int)) (M 147) := ⟨_, rfl⟩
      have inner : ∀ b : Nat, b ≤ n → vi_ok GG D 344 42 [some (.inr (.inr 112)), some (.inl w), some (.inl (n : Int)), some (.inl (prS f n a : Int)), some (.inl (a : Int)), some (.inl (b : Int)), none, none] [] (Y, vi_rs M 147 (vi_u G a (mtG f a b : Int)), nn) Q := by
        refine vi_dn n ?_ fun b hb ihb => ?_
        · have := ih (some (.inl (n : Int)))
          have em : vi_u G a (mtG f a n : Int) = vi_m (a + 1) (fun a => (mtG f a n : Int)) (M 147) := by rw [hG]; exact vi_m_s rfl
          have e147 : vi_rs M 147 (vi_u G a (mtG f a n : Int)) 147 a = (mtG f a n : Int) := by rw [vi_rs_s, vi_u_s]
          rw [← em] at this
          rw [Int.natCast_add] at this
          clear ih
          rw [s_344_42]
          simp (disch := omega) only [Option.toList_some, Option.toList_none, List.nil_append, List.cons_append, List.append_nil, true_and, and_true, not_true_eq_false, not_false_eq_true, true_implies, false_implies, implies_true, and_self, Int.reduceLT, Int.reduceLE, Int.reduceEq, Int.reduceNe, Int.reduceAdd, Int.reduceSub, Int.reduceMul, Int.reduceNeg, Int.reduceToNat, Int.toNat_natCast, ↓kk_ck, ↓kk_im, ↓kk_in, s_344_90, s_344_95, s_344_98, s_344_101, R1, R58, p1, p2, Int.toNat_natCast, e147, @k_237 _ _ (mtG f a n) (by omega), @vi_32 ((prS f n a : Int) + (mOs (mtG f a n) 8 : Int)) (by omega) (by omega), vi_inc]
          exact this
        · clear ih
          have hmb := mtG_lt (f := f) (a := a) b
          have h8b : 2 ^ b ≤ 2 ^ 8 := Nat.pow_le_pow_right (by omega) (by omega)
          generalize hM1 : vi_rs M 147 (vi_u G a (mtG f a b : Int)) = M1
          have e114 : M1 114 = M 114 := by rw [← hM1, vi_rs_o (by omega)]
          have e147 : M1 147 a = (mtG f a b : Int) := by rw [← hM1, vi_rs_s, vi_u_s]
          have em : ∀ x : Int, vi_rs M1 147 (vi_u (M1 147) a x) = vi_rs M 147 (vi_u G a x) := fun x => by rw [← hM1, vi_rs_rs, vi_rs_s, vi_u_u]
          have k343 := fun {D : Nat} {K : Option vi_V → vi_W → Prop} (hD : 6 ≤ D) => @k_343 D K Y M1 nn hY (mBx_c e114 hB) a b (by omega) (by omega) (by rw [e114]; exact hsc a (by omega)) (by rw [e114]; exact hsc b hb) hD
          rw [e114, ← hf] at k343
          rw [mtG] at ihb
          rw [s_344_42]
          by_cases q1 : a = b
          · rw [if_neg (fun k => k.1 q1)] at ihb
            subst q1
            simp (disch := omega) only [Option.toList_some, Option.toList_none, List.nil_append, List.cons_append, List.append_nil, true_and, and_true, not_true_eq_false, not_false_eq_true, true_implies, false_implies, implies_true, and_self, Int.reduceLT, Int.reduceLE, Int.reduceEq, Int.reduceNe, Int.reduceAdd, Int.reduceSub, Int.reduceMul, Int.reduceNeg, Int.reduceToNat, Int.toNat_natCast, ↓kk_ck, ↓kk_im, ↓kk_in, s_344_48, s_344_52, s_344_56, s_344_81, s_344_82, s_344_84, R1, R58, p1, p2, Int.toNat_natCast, e147, @or_0 (mtG f a a) (by omega), vi_ms_rs, em, vi_inc]
            exact ihb
          · have q1' : ¬ (a : Int) = (b : Int) := by omega
            cases q2 : dmB f a b
            · rw [if_neg (fun k => by rw [q2] at k; cases k.2)] at ihb
              rw [q2] at k343
              simp (disch := omega) only [Option.toList_some, Option.toList_none, List.nil_append, List.cons_append, List.append_nil, true_and, and_true, not_true_eq_false, not_false_eq_true, true_implies, false_implies, implies_true, and_self, Int.reduceLT, Int.reduceLE, Int.reduceEq, Int.reduceNe, Int.reduceAdd, Int.reduceSub, Int.reduceMul, Int.reduceNeg, Int.reduceToNat, Int.toNat_natCast, ↓kk_ck, ↓kk_im, ↓kk_in, s_344_48, s_344_52, s_344_56, s_344_63, s_344_71, s_344_81, s_344_82, s_344_84, R1, R58, p1, p2, Int.toNat_natCast, q1', k343, vi_bf, e147, @or_0 (mtG f a b) (by omega), vi_ms_rs, em, vi_inc]
              exact ihb
            · rw [if_pos ⟨q1, q2⟩] at ihb
              rw [q2] at k343
              simp (disch := omega) only [Option.toList_some, Option.toList_none, List.nil_append, List.cons_append, List.append_nil, true_and, and_true, not_true_eq_false, not_false_eq_true, true_implies, false_implies, implies_true, and_self, Int.reduceLT, Int.reduceLE, Int.reduceEq, Int.reduceNe, Int.reduceAdd, Int.reduceSub, Int.reduceMul, Int.reduceNeg, Int.reduceToNat, Int.toNat_natCast, ↓kk_ck, ↓kk_im, ↓kk_in, s_344_48, s_344_52, s_344_56, s_344_63, s_344_71, s_344_74, s_344_82, s_344_84, R1, R58, p1, p2, Int.toNat_natCast, q1', k343, vi_bt, sh_14 (show b ≤ 14 by omega), e147, @or_u (mtG f a b) b _ (by omega) (by omega) rfl, vi_ms_rs, em, vi_inc]
              exact ihb
      have := inner 0 (by omega)
      rw [mtG, show ((0 : Nat) : Int) = 0 from rfl] at this
      have em : ∀ x : Int, vi_rs (vi_rs M 147 G) 147 (vi_u G a x) = vi_rs M 147 (vi_u G a x) := fun x => vi_rs_rs
      have e147 : vi_rs M 147 G 147 = G := vi_rs_s
      rw [← hG, s_344_25]
      clear inner ih
      simp (disch := omega) only [Option.toList_some, Option.toList_none, List.nil_append, List.cons_append, List.append_nil, true_and, and_true, not_true_eq_false, not_false_eq_true, true_implies, false_implies, implies_true, and_self, Int.reduceLT, Int.reduceLE, Int.reduceEq, Int.reduceNe, Int.reduceAdd, Int.reduceSub, Int.reduceMul, Int.reduceNeg, Int.reduceToNat, Int.toNat_natCast, ↓kk_ck, ↓kk_im, ↓kk_in, s_344_31, s_344_35, s_344_39, R1, R58, p1, p2, Int.toNat_natCast, vi_ms_rs, e147, em]
      exact this
  have := outer 0 (by omega) none
  rw [prS, vi_m_0, vi_rs_id rfl, show ((0 : Nat) : Int) = 0 from rfl] at this
  clear outer sets hQ
  simp (disch := omega) only [Option.toList_some, Option.toList_none, List.nil_append, List.cons_append, List.append_nil, true_and, and_true, not_true_eq_false, not_false_eq_true, true_implies, false_implies, implies_true, and_self, Int.reduceLT, Int.reduceLE, Int.reduceEq, Int.reduceNe, Int.reduceAdd, Int.reduceSub, Int.reduceMul, Int.reduceNeg, Int.reduceToNat, Int.toNat_natCast, ↓kk_ck, ↓kk_im, ↓kk_in, e_344, s_344_0, s_344_6, s_344_11, s_344_15, s_344_19, R1, R3, w1, w2, k_234t hw, h294, ne_eq]
  exact this
end
