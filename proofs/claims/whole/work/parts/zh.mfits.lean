/-! fits (reference): ways from x on, by what is left by y (in base 7). -/
/-- what is left behind a set, among the first y; -1: one has nothing left -/
def rsF (rest set : Nat) : Nat → Int
  | 0 => (rest : Int)
  | y + 1 => if rsF rest set y = -1 then -1 else if set.testBit y = true then (if rest / 7 ^ y % 7 = 0 then -1 else rsF rest set y - ((7 ^ y : Nat) : Int)) else rsF rest set y
/-- a set that a place takes, and where it leads -/
def rsO (c : Int) (Y rest set : Nat) : Bool := decide ((mOs set 8 : Int) = c) && decide (rsF rest set Y ≠ -1)
/-- ways through the last k places -/
def rW (f : Nat → Int) (X Y : Nat) : Nat → Nat → Nat
  | 0, rest => if rest = 0 then 1 else 0
  | k + 1, rest => ((List.range (2 ^ Y)).map (fun set => if rsO (f (280 + (X - (k + 1)))) Y rest set = true then rW f X Y k (rsF rest set Y).toNat else 0)).sum
/-- the sum over the first sets -/
def rWs (f : Nat → Int) (X Y k rest : Nat) : Nat → Nat
  | 0 => 0
  | s + 1 => rWs f X Y k rest s + (if rsO (f (280 + (X - (k + 1)))) Y rest s = true then rW f X Y k (rsF rest s Y).toNat else 0)
theorem rWs_e {f : Nat → Int} {X Y k rest : Nat} : rW f X Y (k + 1) rest = rWs f X Y k rest (2 ^ Y) := by
  rw [rW]
  have : ∀ n : Nat, ((List.range n).map (fun set => if rsO (f (280 + (X - (k + 1)))) Y rest set = true then rW f X Y k (rsF rest set Y).toNat else 0)).sum = rWs f X Y k rest n := fun n => by
    induction n with
    | zero => rfl
    | succ n ih => rw [List.range_succ, List.map_append, List.sum_append, ih, rWs]; simp
  exact this _
theorem rsF_r {rest set : Nat} : ∀ y : Nat, rsF rest set y = -1 ∨ ((rest / 7 ^ y * 7 ^ y : Nat) : Int) ≤ rsF rest set y ∧ rsF rest set y ≤ (rest : Int)
  | 0 => by right; rw [rsF]; simp
  | y + 1 => by
    rw [rsF]
    rcases rsF_r (rest := rest) (set := set) y with h | ⟨h1, h2⟩
    · left; rw [if_pos h]
    · have h7 : 0 < 7 ^ y := Nat.pow_pos (by omega)
      have hd : rest / 7 ^ (y + 1) = rest / 7 ^ y / 7 := by rw [Nat.pow_succ, Nat.div_div_eq_div_mul]
      by_cases q : rsF rest set y = -1
      · left; rw [if_pos q]
      · rw [if_neg q]
        generalize rest / 7 ^ y = d at *
        rw [hd, Nat.pow_succ]
        have e1 : d / 7 * (7 ^ y * 7) = (d / 7 * 7) * 7 ^ y := by rw [Nat.mul_comm (7 ^ y) 7, ← Nat.mul_assoc]
        rw [e1]
        split
        · split
          · left; rfl
          · rename_i hz
            right
            have h3 : (d / 7 * 7 + 1) * 7 ^ y ≤ d * 7 ^ y := Nat.mul_le_mul_right _ (by omega)
            rw [Nat.add_mul, Nat.one_mul] at h3
            omega
        · right
          have h3 : (d / 7 * 7) * 7 ^ y ≤ d * 7 ^ y := Nat.mul_le_mul_right _ (by omega)
          omega
theorem rsF_le {rest set y : Nat} : -1 ≤ rsF rest set y ∧ rsF rest set y ≤ (rest : Int) := by
  rcases rsF_r (rest := rest) (set := set) y with h | h <;> omega
theorem mOs_20 : ∀ c, c < 9 → sN 64 (fun set => decide (mOs set 8 = c)) ≤ 20 := by decide +kernel
theorem rW_le {f : Nat → Int} {X Y : Nat} (hY : Y ≤ 6) : ∀ (k rest : Nat), rW f X Y k rest ≤ 20 ^ k
  | 0, rest => by rw [rW]; split <;> simp
  | k + 1, rest => by
    rw [rWs_e]
    have h1 : ∀ n : Nat, rWs f X Y k rest n ≤ sN n (fun set => decide ((mOs set 8 : Int) = f (280 + (X - (k + 1))))) * 20 ^ k := by
      intro n
      induction n with
      | zero => rw [rWs, sN]; omega
      | succ n ih =>
        rw [rWs, sN, Nat.add_mul]
        refine Nat.add_le_add ih ?_
        split
        · rename_i h
          unfold rsO at h
          rw [Bool.and_eq_true] at h
          rw [h.1]
          have := rW_le (f := f) (X := X) hY k (rsF rest n Y).toNat
          simp
          exact this
        · omega
    have h2 : sN (2 ^ Y) (fun set => decide ((mOs set 8 : Int) = f (280 + (X - (k + 1))))) ≤ 20 := by
      have hm : ∀ d : Nat, sN (2 ^ Y) (fun set => decide ((mOs set 8 : Int) = f (280 + (X - (k + 1))))) ≤ sN (2 ^ Y + d) (fun set => decide ((mOs set 8 : Int) = f (280 + (X - (k + 1))))) := fun d => by
        induction d with
        | zero => exact Nat.le_refl _
        | succ d ih => rw [← Nat.add_assoc, sN]; omega
      have h64 : 2 ^ Y ≤ 2 ^ 6 := Nat.pow_le_pow_right (by omega) hY
      have h3 := hm (64 - 2 ^ Y)
      rw [show 2 ^ Y + (64 - 2 ^ Y) = 64 by omega] at h3
      refine Nat.le_trans h3 ?_
      by_cases hc : 0 ≤ f (280 + (X - (k + 1))) ∧ f (280 + (X - (k + 1))) < 9
      · obtain ⟨c, hc2⟩ : ∃ c : Nat, f (280 + (X - (k + 1))) = (c : Int) := ⟨(f (280 + (X - (k + 1)))).toNat, by omega⟩
        have := mOs_20 c (by omega)
        rw [hc2]
        rw [sN_c (g := fun set => decide (mOs set 8 = c)) fun i _ => by rw [decide_eq_decide]; omega]
        exact this
      · have : sN 64 (fun set => decide ((mOs set 8 : Int) = f (280 + (X - (k + 1))))) = 0 := sN_0.mpr fun i _ => decide_eq_false (by have := mOs_r (x := i) 8; omega)
        omega
    refine Nat.le_trans (h1 _) ?_
    rw [Nat.pow_succ, Nat.mul_comm (20 ^ k) 20]
    exact Nat.mul_le_mul_right _ h2
theorem rWs_m {f : Nat → Int} {X Y k rest : Nat} : ∀ a b : Nat, rWs f X Y k rest a ≤ rWs f X Y k rest (a + b)
  | a, 0 => Nat.le_refl _
  | a, b + 1 => by
    have := rWs_m (f := f) (X := X) (Y := Y) (k := k) (rest := rest) a b
    rw [← Nat.add_assoc, rWs]; omega
/-- greedy: what is left, and the set, behind k places -/
def ftO (f : Nat → Int) (X Y k rest set : Nat) : Bool := rsO (f (280 + k)) Y rest set && decide (rW f X Y (X - (k + 1)) (rsF rest set Y).toNat ≠ 0)
def ftS (f : Nat → Int) (X Y rest0 : Nat) : Nat → Nat × Nat
  | 0 => (rest0, 0)
  | k + 1 => ((rsF (ftS f X Y rest0 k).1 (wNx (ftO f X Y k (ftS f X Y rest0 k).1) (2 ^ Y) 0) Y).toNat, wNx (ftO f X Y k (ftS f X Y rest0 k).1) (2 ^ Y) 0)
/-- the counts by y, in base 7 -/
def rs0 (f : Nat → Int) : Nat → Int
  | 0 => 0
  | y + 1 => rs0 f y + f (286 + y) * ((7 ^ y : Nat) : Int)
def ftR (f : Nat → Int) (X Y : Nat) (x : Int) : Int := if x = -1 then (rW f X Y X (rs0 f Y).toNat : Int) else if rW f X Y X (rs0 f Y).toNat = 0 then -1 else ((ftS f X Y (rs0 f Y).toNat (x.toNat + 1)).2 : Int)
theorem rWs_x {f : Nat → Int} {X Y k rest : Nat} : ∀ n : Nat, rWs f X Y k rest n ≠ 0 → ∃ s, s < n ∧ rsO (f (280 + (X - (k + 1)))) Y rest s = true ∧ rW f X Y k (rsF rest s Y).toNat ≠ 0
  | 0, h => absurd rfl h
  | n + 1, h => by
    rw [rWs] at h
    by_cases q : rWs f X Y k rest n = 0
    · by_cases q2 : rsO (f (280 + (X - (k + 1)))) Y rest n = true
      · rw [q, if_pos q2] at h
        exact ⟨n, by omega, q2, by omega⟩
      · rw [q, if_neg q2] at h; omega
    · obtain ⟨s, s1, s2⟩ := rWs_x n q
      exact ⟨s, by omega, s2⟩
theorem ftS_i {f : Nat → Int} {X Y rest0 : Nat} (hw : rW f X Y X rest0 ≠ 0) : ∀ k : Nat, k ≤ X → rW f X Y (X - k) (ftS f X Y rest0 k).1 ≠ 0 ∧ (ftS f X Y rest0 k).1 ≤ rest0 ∧ (k < X → ∃ s, s < 2 ^ Y ∧ ftO f X Y k (ftS f X Y rest0 k).1 s = true) := by
  intro k
  induction k with
  | zero =>
    intro _
    refine ⟨hw, Nat.le_refl _, fun hk => ?_⟩
    rw [show X = (X - 1) + 1 by omega] at hw
    rw [rWs_e] at hw
    obtain ⟨s, s1, s2, s3⟩ := rWs_x _ hw
    refine ⟨s, s1, ?_⟩
    unfold ftO
    rw [show X - 1 + 1 - (X - 1 + 1) = 0 by omega] at s2
    show (rsO (f (280 + 0)) Y rest0 s && decide (rW f X Y (X - (0 + 1)) (rsF rest0 s Y).toNat ≠ 0)) = true
    have e : X - 1 + 1 = X := by omega
    rw [e] at s3
    rw [s2, decide_eq_true s3]; rfl
  | succ k ih =>
    intro hk
    obtain ⟨i1, i2, i3⟩ := ih (by omega)
    obtain ⟨s, s1, s2⟩ := i3 (by omega)
    obtain ⟨n1, n2, n3⟩ := wNx_p (p := ftO f X Y k (ftS f X Y rest0 k).1) (2 ^ Y) 0 (Nat.zero_le _) (by omega) s2
    rw [ftS]
    dsimp only
    generalize wNx (ftO f X Y k (ftS f X Y rest0 k).1) (2 ^ Y) 0 = z at *
    unfold ftO at n1
    rw [Bool.and_eq_true, decide_eq_true_eq] at n1
    have hle := rsF_le (rest := (ftS f X Y rest0 k).1) (set := z) (y := Y)
    refine ⟨n1.2, by omega, fun hlt => ?_⟩
    have h1 := n1.2
    generalize (rsF (ftS f X Y rest0 k).1 z Y).toNat = r at *
    have e : X - (k + 1) = (X - (k + 1) - 1) + 1 := by omega
    rw [e, rWs_e] at h1
    obtain ⟨t, t1, t2, t3⟩ := rWs_x _ h1
    refine ⟨t, t1, ?_⟩
    unfold ftO
    rw [show X - (X - (k + 1) - 1 + 1) = k + 1 by omega] at t2
    rw [show X - (k + 1) - 1 = X - (k + 1 + 1) by omega] at t3
    rw [t2, decide_eq_true t3]; rfl
theorem dg_e {r q : Nat} (hr : r < 2147483648) : (vi_w32 ((r : Int).tdiv (q : Int))).tmod 7 = ((r / q % 7 : Nat) : Int) := by
  have hdl : r / q ≤ r := Nat.div_le_self _ _
  rw [vi_td (by omega), show (r : Int) / (q : Int) = ((r / q : Nat) : Int) from rfl]
  generalize r / q = d at *
  rw [vi_32 (by omega) (by omega), Int.tmod_eq_emod_of_nonneg (by omega)]
  omega
theorem dg_0 {r q : Nat} (hr : r < 2147483648) (h : r / q % 7 = 0) : (vi_w32 ((r : Int).tdiv (q : Int))).tmod 7 = 0 := by rw [dg_e hr, h]; rfl
theorem dg_x {r q : Nat} (hr : r < 2147483648) (h : ¬ r / q % 7 = 0) : ¬ (vi_w32 ((r : Int).tdiv (q : Int))).tmod 7 = 0 := by rw [dg_e hr]; omega
section
variable {D : Nat} {K : Option vi_V → vi_W → Prop} {Y : vi_Y} {M : vi_M} {nn : Nat × Nat} {Q : Option vi_V → vi_W → Prop}
def p7 (M : vi_M) : Prop := ∀ y, y < 6 → M 149 y = ((7 ^ y : Nat) : Int)
theorem k_346 (hY : kY Y 151) (hP : p7 M) {S : Nat} (hS : M 114 97 = (S : Int)) (hS6 : S ≤ 6) {rest set : Nat} (hr : rest < 117649) (hs : set < 256) (hD : 2 ≤ D) : vi_call GG D 346 [.inr (.inr 112), .inl (rest : Int), .inl (set : Int)] (Y, M, nn) K ↔ K (some (.inl (rsF rest set S))) (Y, M, nn) := by
  obtain ⟨D, rfl⟩ : ∃ k, D = k + 1 := ⟨D - 1, by omega⟩
  obtain ⟨R1, -, -, -, -, -, -, -, -, -, -, -, -, -, -, -, -, -, -, -, -, -, -, -, -, -, -, -, -, -, -, -, -, -, -, -, R59, R60, -⟩ := y_112 hY (by omega)
  obtain ⟨p1, p2⟩ := y_149 hY (by omega)
  refine vi_k (r := some (.inl _)) fun Q hQ => ?_
  have A := fun {D : Nat} {K : Option vi_V → vi_W → Prop} (hD : 1 ≤ D) => @k_2410_1 D K Y M nn hY hD
  rw [hS] at A
  have cut : ∀ j k : Nat, rsF rest set j = -1 → rsF rest set (j + k) = -1 := by
    intro j k h
    induction k with
    | zero => exact h
    | succ k ih => rw [← Nat.add_assoc, rsF, if_pos ih]
  have loop : ∀ y : Nat, y ≤ S → rsF rest set y ≠ -1 → vi_ok GG D 346 5 [some (.inr (.inr 112)), some (.inl (rest : Int)), some (.inl (set : Int)), some (.inl (rsF rest set y)), some (.inl (y : Int))] [] (Y, M, nn) Q := by
    refine vi_dn (P := fun y => rsF rest set y ≠ -1 → vi_ok GG D 346 5 [some (.inr (.inr 112)), some (.inl (rest : Int)), some (.inl (set : Int)), some (.inl (rsF rest set y)), some (.inl (y : Int))] [] (Y, M, nn) Q) S ?_ fun y hy ih => ?_
    · intro _
      rw [s_346_5]
      simp (disch := omega) only [Option.toList_some, Option.toList_none, List.nil_append, List.cons_append, List.append_nil, true_and, and_true, not_true_eq_false, not_false_eq_true, true_implies, false_implies, implies_true, and_self, Int.reduceLT, Int.reduceLE, Int.reduceEq, Int.reduceNe, Int.reduceAdd, Int.reduceSub, Int.reduceMul, Int.reduceNeg, Int.reduceToNat, Int.toNat_natCast, ↓kk_ck, ↓kk_im, ↓kk_in, s_346_12, s_346_60, R1, A]
      exact hQ
    · intro hne
      have hle := rsF_le (rest := rest) (set := set) (y := y)
      have h7 : 7 ^ y ≤ 7 ^ 5 := Nat.pow_le_pow_right (by omega) (by omega)
      have h70 : 0 < 7 ^ y := Nat.pow_pos (by omega)
      have hp := hP y (by omega)
      rw [rsF, if_neg hne] at ih
      obtain ⟨q, hq⟩ : ∃ q : Nat, q = 7 ^ y := ⟨_, rfl⟩
      rw [← hq] at h7 h70 hp ih
      rw [s_346_5]
      cases b : set.testBit y
      · rw [b, if_neg (by simp)] at ih
        have := ih hne
        clear ih hQ
        simp (disch := omega) only [Option.toList_some, Option.toList_none, List.nil_append, List.cons_append, List.append_nil, true_and, and_true, not_true_eq_false, not_false_eq_true, true_implies, false_implies, implies_true, and_self, Int.reduceLT, Int.reduceLE, Int.reduceEq, Int.reduceNe, Int.reduceAdd, Int.reduceSub, Int.reduceMul, Int.reduceNeg, Int.reduceToNat, Int.toNat_natCast, ↓kk_ck, ↓kk_im, ↓kk_in, s_346_12, s_346_15, s_346_21, s_346_24, s_346_54, R1, A, @bit_f set y (by omega) (by omega) b, vi_inc, ne_eq]
        exact this
      · rw [b, if_pos rfl] at ih
        have hdl : rest / q ≤ rest := Nat.div_le_self _ _
        have hq0 : ¬ (q : Int) = 0 := by omega
        by_cases hz : rest / q % 7 = 0
        · have : rsF rest set (y + 1) = -1 := by rw [rsF, if_neg hne, b, if_pos rfl, ← hq, if_pos hz]
          have h2 := cut (y + 1) (S - (y + 1)) this
          rw [show y + 1 + (S - (y + 1)) = S by omega] at h2
          rw [h2] at hQ
          clear ih
          simp (disch := omega) only [Option.toList_some, Option.toList_none, List.nil_append, List.cons_append, List.append_nil, true_and, and_true, not_true_eq_false, not_false_eq_true, true_implies, false_implies, implies_true, and_self, Int.reduceLT, Int.reduceLE, Int.reduceEq, Int.reduceNe, Int.reduceAdd, Int.reduceSub, Int.reduceMul, Int.reduceNeg, Int.reduceToNat, Int.toNat_natCast, ↓kk_ck, ↓kk_im, ↓kk_in, s_346_12, s_346_15, s_346_21, s_346_27, s_346_32, s_346_35, s_346_36, s_346_39, s_346_42, R1, R60, p1, p2, A, @bit_t set y (by omega) (by omega) b, Int.toNat_natCast, hp, hq0, @dg_0 rest q (by omega) hz, ne_eq]
          exact hQ
        · rw [if_neg hz] at ih
          have hr1 := rsF_r (rest := rest) (set := set) (y + 1)
          rw [rsF, if_neg hne, b, if_pos rfl, ← hq, if_neg hz] at hr1
          have hlow : (q : Int) ≤ rsF rest set y := by
            rcases rsF_r (rest := rest) (set := set) y with h | ⟨h, -⟩
            · exact absurd h hne
            · rw [← hq] at h
              have h1 : 1 * q ≤ rest / q * q := Nat.mul_le_mul_right _ (by
                refine Nat.one_le_iff_ne_zero.mpr fun e => hz (by rw [e]))
              omega
          have := ih (by omega)
          clear ih hQ
          simp (disch := omega) only [Option.toList_some, Option.toList_none, List.nil_append, List.cons_append, List.append_nil, true_and, and_true, not_true_eq_false, not_false_eq_true, true_implies, false_implies, implies_true, and_self, Int.reduceLT, Int.reduceLE, Int.reduceEq, Int.reduceNe, Int.reduceAdd, Int.reduceSub, Int.reduceMul, Int.reduceNeg, Int.reduceToNat, Int.toNat_natCast, ↓kk_ck, ↓kk_im, ↓kk_in, s_346_12, s_346_15, s_346_21, s_346_27, s_346_32, s_346_35, s_346_36, s_346_39, s_346_44, s_346_49, s_346_52, s_346_54, R1, R60, p1, p2, A, @bit_t set y (by omega) (by omega) b, Int.toNat_natCast, hp, hq0, @dg_x rest q (by omega) hz, @vi_32 (rsF rest set y - (q : Int)) (by omega) (by omega), vi_inc, ne_eq]
          exact this
  have := loop 0 (by omega) (by rw [rsF]; omega)
  rw [rsF, show ((0 : Nat) : Int) = 0 from rfl] at this
  clear loop hQ
  simp (disch := omega) only [Option.toList_some, Option.toList_none, List.nil_append, List.cons_append, List.append_nil, true_and, and_true, not_true_eq_false, not_false_eq_true, true_implies, false_implies, implies_true, and_self, Int.reduceLT, Int.reduceLE, Int.reduceEq, Int.reduceNe, Int.reduceAdd, Int.reduceSub, Int.reduceMul, Int.reduceNeg, Int.reduceToNat, Int.toNat_natCast, ↓kk_ck, ↓kk_im, ↓kk_in, e_346, s_346_0]
  exact this
/-- the ways stand in the table, from place x on -/
def wyT (f : Nat → Int) (X Y x : Nat) (g : Nat → Int) : Prop := ∀ x', x ≤ x' → x' ≤ X → ∀ rest, rest < 7 ^ Y → g (x' * 117649 + rest) = (rW f X Y (X - x') rest : Int)
end
