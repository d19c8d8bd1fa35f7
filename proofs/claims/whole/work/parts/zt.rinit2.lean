/-! The reference's constructor: its end (from its loop on), and the whole of it. -/
def yoP : List (Nat × Nat × Nat × Int × (Nat → Int)) → Nat
  | [] => 0
  | o :: r => cond (Nat.beq o.1 0) 1 0 + yoP r
def yoS : List (Nat × Nat × Nat × Int × (Nat → Int)) → Nat
  | [] => 0
  | o :: r => cond (Nat.beq o.1 0) o.2.2.2.1.toNat 0 + yoS r
theorem ywO_n (L : List (Nat × Nat × Nat × Int × (Nat → Int))) : ∀ w : vi_W, (ywO w L).2.2 = (w.2.2.1 + yoP L, w.2.2.2 + yoS L) := by
  induction L with
  | nil => intro w; rfl
  | cons o r ih =>
    intro w
    show (ywO (ywO1 w o) r).2.2 = _
    rw [ih]
    obtain ⟨c, q, j, v, g⟩ := o
    match c with
    | 0 =>
      show (w.2.2.1 + 1 + yoP r, w.2.2.2 + v.toNat + yoS r) = (w.2.2.1 + (1 + yoP r), w.2.2.2 + (v.toNat + yoS r))
      rw [Nat.add_assoc, Nat.add_assoc]
    | 1 =>
      show (w.2.2.1 + yoP r, w.2.2.2 + yoS r) = (w.2.2.1 + (0 + yoP r), w.2.2.2 + (0 + yoS r))
      rw [Nat.zero_add, Nat.zero_add]
    | c + 2 =>
      show (w.2.2.1 + yoP r, w.2.2.2 + yoS r) = (w.2.2.1 + (0 + yoP r), w.2.2.2 + (0 + yoS r))
      rw [Nat.zero_add, Nat.zero_add]
section
variable {D : Nat} {Q : Option vi_V → vi_W → Prop} {Y : vi_Y} {M : vi_M} {nn : Nat × Nat} {n m : Nat}
theorem k_238t (hY : kY Y 151) (h0 : M 114 = fun _ => 0) (hz : ∀ i, i < 4096 → M 139 i = 0) (hD : 3 ≤ D)
    (hQ : ∀ M', (∀ p, p ≠ 114 → p ≠ 138 → p ≠ 139 → M' p = M p) → (∀ i, M' 114 i = if 96 ≤ i ∧ i < 99 then 5 else if i = 296 then -1 else 0) → tuT M' 24 → (∀ r o, r < 64 → o < 64 → M' 139 (64 * r + o) = vi_b (ftB r o 24)) → Q none (Y, M', nn)) :
    vi_ok GG D 238 660 [some (.inr (.inr 112)), none] [] (Y, M, nn) Q := by
  obtain ⟨R1, -, R3, -⟩ := y_112 hY (by omega)
  obtain ⟨p1, p2⟩ := y_114 hY (by omega)
  have loop : ∀ k : Nat, k ≤ 3 → ∀ (M' : vi_M), (∀ p, p ≠ 114 → M' p = M p) → (∀ i, M' 114 i = if 96 ≤ i ∧ i < 96 + k then 5 else 0) → vi_ok GG D 238 662 [some (.inr (.inr 112)), some (.inl (k : Int))] [] (Y, M', nn) Q := by
    refine vi_dn (P := fun k => ∀ (M' : vi_M), (∀ p, p ≠ 114 → M' p = M p) → (∀ i, M' 114 i = if 96 ≤ i ∧ i < 96 + k then 5 else 0) → vi_ok GG D 238 662 [some (.inr (.inr 112)), some (.inl (k : Int))] [] (Y, M', nn) Q) 3 ?_ fun k hk ih => ?_
    · intro M' f hv
      have hq : ∀ M'', (∀ p, p ≠ 138 → p ≠ 139 → M'' p = vi_ms M' 114 296 (-1) p) → tuT M'' 24 → (∀ r o, r < 64 → o < 64 → M'' 139 (64 * r + o) = vi_b (ftB r o 24)) → vi_ok GG D 238 696 [some (.inr (.inr 112)), some (.inl 3)] [] (Y, M'', nn) Q := by
        intro M'' f1 f2 f3
        rw [s_238_696]
        refine hQ M'' (fun p hp h1 h2 => ?_) (fun i => ?_) f2 f3
        · rw [f1 p h1 h2, vi_ms_rs, vi_rs_o hp, f p hp]
        · rw [f1 114 (by decide) (by decide), vi_ms_rs, vi_rs_s]
          unfold vi_u
          by_cases hi : i = 296
          · rw [if_pos hi, if_neg (by omega), if_pos hi]
          · rw [if_neg hi, hv i, if_neg hi]
      have hc := k_328 (D := D) (Q := fun r w' => vi_ok GG D 238 696 [some (.inr (.inr 112)), some (.inl 3)] r.toList w' Q) (M := vi_ms M' 114 296 (-1)) (nn := nn) hY (by intro i hi; rw [vi_ms_rs, vi_rs_o (by decide), f 139 (by decide)]; exact hz i hi) hD (fun M'' a b c => hq M'' a b c)
      clear hQ hq
      rw [s_238_662]
      simp (disch := omega) only [Option.toList_some, Option.toList_none, List.nil_append, List.cons_append, List.append_nil, true_and, and_true, not_true_eq_false, not_false_eq_true, true_implies, false_implies, implies_true, and_self, Int.reduceLT, Int.reduceLE, Int.reduceEq, Int.reduceNe, Int.reduceAdd, Int.reduceSub, Int.reduceMul, Int.reduceNeg, Int.reduceToNat, Int.toNat_natCast, ↓kk_ck, ↓kk_im, ↓kk_in, s_238_683, s_238_687, s_238_692, R1, R3, p1, p2, ne_eq]
      exact hc
    · intro M' f hv
      have := ih (vi_ms M' 114 (96 + k) 5) (fun p hp => by rw [vi_ms_rs, vi_rs_o hp]; exact f p hp) (fun i => by
        rw [vi_ms_rs, vi_rs_s]
        unfold vi_u
        by_cases hi : i = 96 + k
        · rw [if_pos hi, if_pos (by omega)]
        · rw [if_neg hi, hv i]
          by_cases h2 : 96 ≤ i ∧ i < 96 + k
          · rw [if_pos h2, if_pos (by omega)]
          · rw [if_neg h2, if_neg (by omega)])
      clear ih hQ
      rw [s_238_662]
      simp (disch := omega) only [Option.toList_some, Option.toList_none, List.nil_append, List.cons_append, List.append_nil, true_and, and_true, not_true_eq_false, not_false_eq_true, true_implies, false_implies, implies_true, and_self, Int.reduceLT, Int.reduceLE, Int.reduceEq, Int.reduceNe, Int.reduceAdd, Int.reduceSub, Int.reduceMul, Int.reduceNeg, Int.reduceToNat, Int.toNat_natCast, ↓kk_ck, ↓kk_im, ↓kk_in, s_238_667, s_238_671, s_238_676, s_238_677, R1, R3, p1, p2, ne_eq, @vi_32 ((k : Int) + 1) (by omega) (by omega), @vi_32 (96 + (k : Int)) (by omega) (by omega), show (96 + (k : Int)).toNat = 96 + k by omega]
      exact this
  have := loop 0 (by omega) M (fun p _ => rfl) (fun i => by rw [h0, if_neg (by omega)])
  clear loop hQ
  simp (disch := omega) only [Option.toList_some, Option.toList_none, List.nil_append, List.cons_append, List.append_nil, true_and, and_true, not_true_eq_false, not_false_eq_true, true_implies, false_implies, implies_true, and_self, Int.reduceLT, Int.reduceLE, Int.reduceEq, Int.reduceNe, Int.reduceAdd, Int.reduceSub, Int.reduceMul, Int.reduceNeg, Int.reduceToNat, Int.toNat_natCast, ↓kk_ck, ↓kk_im, ↓kk_in, s_238_660]
  exact this
theorem k_238 (hY : kY Y 112) (hD : 4 ≤ D)
    (hQ : ∀ M', (∀ p, p ≠ 114 → p ≠ 138 → p ≠ 139 → M' p = (ywO (Y, M, 112, m) lR).2.1 p) → (∀ i, M' 114 i = if 96 ≤ i ∧ i < 99 then 5 else if i = 296 then -1 else 0) → tuT M' 24 → (∀ r o, r < 64 → o < 64 → M' 139 (64 * r + o) = vi_b (ftB r o 24)) → kY (ywO (Y, M, 112, m) lR).1 151 → Q none ((ywO (Y, M, 112, m) lR).1, M', (ywO (Y, M, 112, m) lR).2.2)) :
    vi_call GG D 238 [.inr (.inr 112)] (vi_ynew Y 112 32 64, vi_rs M 112 (fun _ => 0), 113, m + 64) Q := by
  obtain ⟨D, rfl⟩ : ∃ k, D = k + 1 := ⟨D - 1, by omega⟩
  have hK := @lR_Y (Y, M, 112, m) hY
  have := @n_238 D m Y M Q (k_238t (Y := (ywO (Y, M, 112, m) lR).1) (M := (ywO (Y, M, 112, m) lR).2.1) (nn := (ywO (Y, M, 112, m) lR).2.2) hK (by rw [ywO_M, yoM_n (t := fun _ => 0) (by decide +kernel)]; rfl) (by intro i _; rw [ywO_M, yoM_n (t := fun _ => 0) (by decide +kernel)]; rfl) (by omega) (fun M' a b c e => hQ M' a b c e hK))
  have h0 : (vi_ynew Y 112 32 64).1 112 = 32 := yn1
  clear hQ
  rw [e_238]
  simp (disch := omega) only [Option.toList_some, Option.toList_none, List.nil_append, List.cons_append, List.append_nil, true_and, and_true, not_true_eq_false, not_false_eq_true, true_implies, false_implies, implies_true, and_self, Int.reduceLT, Int.reduceLE, Int.reduceEq, Int.reduceNe, Int.reduceAdd, Int.reduceSub, Int.reduceMul, Int.reduceNeg, Int.reduceToNat, Int.toNat_natCast, ↓kk_ck, ↓kk_im, ↓kk_in, s_238_0, h0, ne_eq]
  exact this
theorem lR_m : (ywO (Y, M, 112, m) lR).2.2 = (151, m + 1081369) := by
  rw [ywO_n, show yoP lR = 39 by decide +kernel, show yoS lR = 1081369 by decide +kernel]
end
