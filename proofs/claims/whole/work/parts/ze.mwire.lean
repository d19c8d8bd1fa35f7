/-! wire (reference): by sets of cells done, what can be ended. -/
def abB (M : vi_M) (a : Int) (b : Int) : Nat → Bool
  | 0 => false
  | d + 1 => abB M a b d || decide (mBe M a d = b)
theorem abB_t {M : vi_M} {a b : Int} : ∀ k : Nat, abB M a b k = true ↔ ∃ d, d < k ∧ mBe M a d = b
  | 0 => by rw [abB]; simp
  | k + 1 => by
    rw [abB, Bool.or_eq_true, abB_t k, decide_eq_true_eq]
    constructor
    · rintro (⟨w, h1, h2⟩ | h)
      · exact ⟨w, by omega, h2⟩
      · exact ⟨k, by omega, h⟩
    · rintro ⟨w, h1, h2⟩
      by_cases e : w = k
      · subst e; exact .inr h2
      · exact .inl ⟨w, by omega, h2⟩
theorem abB_e {M : vi_M} (hB : mBx M) {a b : Nat} (ha : mIc M (a : Int)) (hb : mIc M (b : Int)) : abB M (a : Int) (b : Int) 6 = true ↔ sA a b := by
  rw [abB_t]
  constructor
  · rintro ⟨d, h1, h2⟩; exact mBe_A hB ha h1 h2
  · intro h; exact mBe_x ha hb h
theorem mBt_b {x d : Nat} : mBt x d = (x.testBit d).toNat := by
  unfold mBt
  rw [Nat.and_one_is_mod, Nat.shiftRight_eq_div_pow, Nat.toNat_testBit]
theorem sh_14 {m : Nat} (h : m ≤ 14) : vi_shl32 (1 : Int) (m : Int) = ((2 ^ m : Nat) : Int) := by
  have h2 : 2 ^ m ≤ 2 ^ 14 := Nat.pow_le_pow_right (by omega) h
  have := vi_shl32n (x := 1) (n := m) (by omega) (by rw [Nat.shiftLeft_eq]; omega)
  rw [Nat.shiftLeft_eq, Nat.one_mul] at this
  exact this
theorem pw_1 {m : Nat} (hm : m ≤ 14) : vi_w32 (((2 ^ m : Nat) : Int) - 1) = ((2 ^ m - 1 : Nat) : Int) := by
  have h14 : 2 ^ m ≤ 2 ^ 14 := Nat.pow_le_pow_right (by omega) hm
  have hp := Nat.two_pow_pos m
  rw [vi_32 (by omega) (by omega)]; omega
theorem ix_14 {u j : Nat} (hu : u < 16384) (hj : j < 14) : vi_w32 (vi_w32 ((u : Int) * 14) + (j : Int)) = ((u * 14 + j : Nat) : Int) := by
  rw [@vi_32 ((u : Int) * 14) (by omega) (by omega), vi_32 (by omega) (by omega)]; omega
theorem bit_f {x d : Nat} (hx : x < 16384) (hd : d < 32) (h : x.testBit d = false) : vi_and32 (vi_shr32 (x : Int) (d : Int)) 1 = 0 := by
  have := mBt_e' (x := x) (d := d) (by omega) hd
  rw [mBt_b, h] at this
  exact this
theorem bit_t {x d : Nat} (hx : x < 16384) (hd : d < 32) (h : x.testBit d = true) : vi_and32 (vi_shr32 (x : Int) (d : Int)) 1 = 1 := by
  have := mBt_e' (x := x) (d := d) (by omega) hd
  rw [mBt_b, h] at this
  exact this
theorem or_u {set j u : Nat} (hs : set < 16384) (hj : j < 14) (hu : u = set ||| 2 ^ j) : vi_or32 (set : Int) ((2 ^ j : Nat) : Int) = (u : Int) := by
  have hpj : 2 ^ j ≤ 2 ^ 14 := Nat.pow_le_pow_right (by omega) (by omega)
  rw [hu]
  exact vi_or32n (by omega) (by omega)
theorem dec_1 {s : Nat} (h : s < 2147483647) : vi_w32 (((s + 1 : Nat) : Int) + -1) = (s : Int) := by rw [vi_32 (by omega) (by omega)]; omega
/-- cells not done -/
def wMs (m set : Nat) : Nat := sN m (fun i => !set.testBit i)
theorem wMs_o {m set j : Nat} (hj : j < m) (hb : set.testBit j = false) : wMs m set = wMs m (set ||| 2 ^ j) + 1 := by
  unfold wMs
  refine sN_1 (j := j) hj ?_ (by rw [hb]; rfl) fun i hi hij => ?_
  · rw [Nat.testBit_or, Nat.testBit_two_pow_self]; simp
  · rw [Nat.testBit_or, Nat.testBit_two_pow_of_ne (by omega), Bool.or_false]
theorem wMs_l {m set : Nat} : wMs m set ≤ m := sN_le _ _
/-- it can be ended, from cell k with these done -/
def wE (B : Nat → Nat → Bool) (m : Nat) : Nat → Nat → Nat → Bool
  | 0, set, _ => decide (set = 2 ^ m - 1)
  | f + 1, set, k => decide (set = 2 ^ m - 1) || (List.range m).any (fun j => !set.testBit j && B k j && wE B m f (set ||| 2 ^ j) j)
theorem full_b {m j : Nat} (hj : j < m) : (2 ^ m - 1).testBit j = true := by
  rw [Nat.testBit_two_pow_sub_one]
  exact decide_eq_true hj
theorem wMs_0 {m set : Nat} (hs : set < 2 ^ m) (h : wMs m set = 0) : set = 2 ^ m - 1 := by
  refine Nat.eq_of_testBit_eq fun i => ?_
  rw [Nat.testBit_two_pow_sub_one]
  by_cases hi : i < m
  · have := sN_0.mp h i hi
    rw [decide_eq_true hi]
    simpa using this
  · rw [decide_eq_false hi]
    exact Nat.testBit_lt_two_pow (Nat.lt_of_lt_of_le hs (Nat.pow_le_pow_right (by omega) (by omega)))
theorem or_lt {m set j : Nat} (hs : set < 2 ^ m) (hj : j < m) : set ||| 2 ^ j < 2 ^ m := Nat.or_lt_two_pow hs (Nat.pow_lt_pow_right (by omega) hj)
theorem wE_f {B : Nat → Nat → Bool} {m : Nat} : ∀ (f g set k : Nat), wMs m set ≤ f → wMs m set ≤ g → set < 2 ^ m → wE B m f set k = wE B m g set k := by
  intro f
  induction f with
  | zero =>
    intro g set k h1 h2 hs
    have e := wMs_0 hs (by omega)
    cases g with
    | zero => rfl
    | succ g => rw [wE, wE, decide_eq_true e, Bool.true_or]
  | succ f ih =>
    intro g set k h1 h2 hs
    cases g with
    | zero =>
      have e := wMs_0 hs (by omega)
      rw [wE, wE, decide_eq_true e, Bool.true_or]
    | succ g =>
      rw [wE, wE]
      congr 1
      rw [Bool.eq_iff_iff, List.any_eq_true, List.any_eq_true]
      constructor
      · rintro ⟨j, hj, h⟩
        refine ⟨j, hj, ?_⟩
        rw [List.mem_range] at hj
        simp only [Bool.and_eq_true, Bool.not_eq_true'] at h ⊢
        have := wMs_o hj h.1.1
        exact ⟨h.1, by rw [← ih g _ j (by omega) (by omega) (or_lt hs hj)]; exact h.2⟩
      · rintro ⟨j, hj, h⟩
        refine ⟨j, hj, ?_⟩
        rw [List.mem_range] at hj
        simp only [Bool.and_eq_true, Bool.not_eq_true'] at h ⊢
        have := wMs_o hj h.1.1
        exact ⟨h.1, by rw [ih g _ j (by omega) (by omega) (or_lt hs hj)]; exact h.2⟩
theorem wE_s {B : Nat → Nat → Bool} {m set k : Nat} (hs : set < 2 ^ m) (hne : set ≠ 2 ^ m - 1) : wE B m m set k = true ↔ ∃ j, j < m ∧ set.testBit j = false ∧ B k j = true ∧ wE B m m (set ||| 2 ^ j) j = true := by
  have h0 : wMs m set ≠ 0 := fun e => hne (wMs_0 hs e)
  have hle := wMs_l (m := m) (set := set)
  rw [wE_f m (m - 1 + 1) set k hle (by omega) hs, wE, decide_eq_false hne, Bool.false_or, List.any_eq_true]
  constructor
  · rintro ⟨j, hj, h⟩
    rw [List.mem_range] at hj
    simp only [Bool.and_eq_true, Bool.not_eq_true'] at h
    have := wMs_o hj h.1.1
    exact ⟨j, hj, h.1.1, h.1.2, by rw [wE_f m (m - 1) _ j wMs_l (by omega) (or_lt hs hj)]; exact h.2⟩
  · rintro ⟨j, hj, h1, h2, h3⟩
    have := wMs_o hj h1
    refine ⟨j, List.mem_range.mpr hj, ?_⟩
    simp only [Bool.and_eq_true, Bool.not_eq_true']
    exact ⟨⟨h1, h2⟩, by rw [← wE_f m (m - 1) _ j wMs_l (by omega) (or_lt hs hj)]; exact h3⟩
theorem wE_u {B : Nat → Nat → Bool} {m k : Nat} : wE B m m (2 ^ m - 1) k = true := by
  cases m with
  | zero => rw [wE]; exact decide_eq_true rfl
  | succ m => rw [wE, decide_eq_true rfl, Bool.true_or]
/-- the table above a set -/
def wTb (B : Nat → Nat → Bool) (m s : Nat) (T : Nat → Int) : Prop := ∀ set, s < set → set < 2 ^ m → ∀ k, k < m → T (set * 14 + k) = vi_b (set.testBit k && wE B m m set k)
/-- the next cell: the first that can be ended -/
def wNx (p : Nat → Bool) : Nat → Nat → Nat
  | 0, j => j
  | f + 1, j => if p j = true then j else wNx p f (j + 1)
def wOk (B : Nat → Nat → Bool) (m : Nat) (k set at_ : Nat) (j : Nat) : Bool := !set.testBit j && (decide (k = 0) || B at_ j) && wE B m m (set ||| 2 ^ j) j
def wSt (B : Nat → Nat → Bool) (m : Nat) : Nat → Nat × Nat
  | 0 => (0, 0)
  | k + 1 => ((wSt B m k).1 ||| 2 ^ (wNx (wOk B m k (wSt B m k).1 (wSt B m k).2) m 0), wNx (wOk B m k (wSt B m k).1 (wSt B m k).2) m 0)
theorem wNx_p {p : Nat → Bool} {j0 : Nat} : ∀ (f j : Nat), j ≤ j0 → j0 < j + f → p j0 = true → p (wNx p f j) = true ∧ wNx p f j ≤ j0 ∧ ∀ i, j ≤ i → i < wNx p f j → p i = false
  | 0, j, h1, h2, _ => by omega
  | f + 1, j, h1, h2, h3 => by
    rw [wNx]
    split
    · rename_i h
      exact ⟨h, h1, fun i hi hi2 => by omega⟩
    · rename_i h
      have hne : j ≠ j0 := fun e => h (by rw [e]; exact h3)
      obtain ⟨k1, k2, k3⟩ := wNx_p f (j + 1) (by omega) (by omega) h3
      refine ⟨k1, k2, fun i hi hi2 => ?_⟩
      by_cases e : i = j
      · rw [e]; simpa using h
      · exact k3 i (by omega) hi2
/-- where there is a wire: each step finds its next cell -/
theorem wSt_i {B : Nat → Nat → Bool} {m : Nat} (hw : ∃ k, k < m ∧ wE B m m (2 ^ k) k = true) : ∀ k : Nat, k ≤ m → (wSt B m k).1 < 2 ^ m ∧ wMs m (wSt B m k).1 + k = m ∧ (0 < k → (wSt B m k).2 < m ∧ wE B m m (wSt B m k).1 (wSt B m k).2 = true) ∧ (k < m → ∃ j, j < m ∧ wOk B m k (wSt B m k).1 (wSt B m k).2 j = true) := by
  intro k
  induction k with
  | zero =>
    intro _
    refine ⟨Nat.two_pow_pos _, ?_, fun h => by omega, fun _ => ?_⟩
    · show wMs m 0 + 0 = m
      unfold wMs
      have : ∀ n : Nat, sN n (fun i => !Nat.testBit 0 i) = n := fun n => by
        induction n with
        | zero => rfl
        | succ n ih => rw [sN, ih]; simp
      rw [this]; rfl
    · obtain ⟨j, h1, h2⟩ := hw
      refine ⟨j, h1, ?_⟩
      show wOk B m 0 0 0 j = true
      unfold wOk
      rw [Nat.zero_testBit, Nat.zero_or, h2]
      rfl
  | succ k ih =>
    intro hk
    obtain ⟨i1, i2, i3, i4⟩ := ih (by omega)
    obtain ⟨j, j1, j2⟩ := i4 (by omega)
    obtain ⟨n1, n2, n3⟩ := wNx_p (p := wOk B m k (wSt B m k).1 (wSt B m k).2) m 0 (Nat.zero_le _) (by omega) j2
    rw [wSt]
    dsimp only
    generalize wNx (wOk B m k (wSt B m k).1 (wSt B m k).2) m 0 = x at *
    unfold wOk at n1
    simp only [Bool.and_eq_true, Bool.not_eq_true'] at n1
    obtain ⟨⟨q1, q2⟩, q3⟩ := n1
    have hx : x < m := by omega
    have hms := wMs_o hx q1
    refine ⟨or_lt i1 hx, by omega, fun _ => ⟨hx, q3⟩, fun hlt => ?_⟩
    have hne : (wSt B m k).1 ||| 2 ^ x ≠ 2 ^ m - 1 := fun e => by
      rw [e] at hms
      have : wMs m (2 ^ m - 1) = 0 := sN_0.mpr fun i hi => by rw [full_b hi]; rfl
      omega
    obtain ⟨j', h1, h2, h3, h4⟩ := (wE_s (or_lt i1 hx) hne).mp q3
    refine ⟨j', h1, ?_⟩
    unfold wOk
    rw [h2, h3, h4]
    simp
/-- the LEFT cells among the first c -/
def lcL (L : Nat → Bool) (c : Nat) : List Nat := (List.range c).filter L
theorem lcL_l {L : Nat → Bool} : ∀ c : Nat, (lcL L c).length = sN c L
  | 0 => rfl
  | c + 1 => by
    have := lcL_l (L := L) c
    unfold lcL at *
    rw [List.range_succ, List.filter_append, List.length_append, this, sN]
    cases h : L c
    · rw [List.filter_cons_of_neg (by rw [h]; simp)]; rfl
    · rw [List.filter_cons_of_pos h]; rfl
theorem lcL_s {L : Nat → Bool} {c : Nat} : lcL L (c + 1) = lcL L c ++ (if L c = true then [c] else []) := by
  unfold lcL
  rw [List.range_succ, List.filter_append]
  cases h : L c
  · rw [List.filter_cons_of_neg (by rw [h]; simp), if_neg (by simp)]; rfl
  · rw [List.filter_cons_of_pos h, if_pos rfl]; rfl
theorem lcL_m {L : Nat → Bool} {c k : Nat} (hk : k < (lcL L c).length) : (lcL L c).getD k 0 < c ∧ L ((lcL L c).getD k 0) = true := by
  rw [List.getD_eq_getElem?_getD, List.getElem?_eq_getElem hk, Option.getD_some]
  have := List.getElem_mem hk
  unfold lcL at this
  rw [List.mem_filter, List.mem_range] at this
  exact this
/-- more steps by odd cells than can be, or more than one piece -/
def oddB (c : Nat) : Bool := decide ((c % 6 + c / 6 % 6 + c / 36) % 2 = 1)
theorem odd_e {c : Nat} : (((c % 6 : Nat) : Int) + ((c / 6 % 6 : Nat) : Int) + ((c / 36 : Nat) : Int)).tmod 2 = ((oddB c).toNat : Int) := by
  rw [Int.tmod_eq_emod_of_nonneg (by omega)]
  unfold oddB
  by_cases h : (c % 6 + c / 6 % 6 + c / 36) % 2 = 1
  · rw [decide_eq_true h]
    show _ = (1 : Int)
    omega
  · rw [decide_eq_false h]
    show _ = (0 : Int)
    omega
noncomputable def baB (L : Nat → Bool) : Bool := decide (2 * (sN 216 (fun c => L c && oddB c) : Int) - (sN 216 L : Int) > 1 ∨ (sN 216 L : Int) - 2 * (sN 216 (fun c => L c && oddB c) : Int) > 1 ∨ sPc 216 L > 1)
section
variable {D : Nat} {K : Option vi_V → vi_W → Prop} {Y : vi_Y} {M : vi_M} {nn : Nat × Nat} {Q : Option vi_V → vi_W → Prop}
theorem k_335 (hY : kY Y 151) (hB : mBx M) (hin : ∀ c, c < 216 → M 126 c ≠ 0 → mIc M (c : Int)) (hD : 4 ≤ D) (hQ : ∀ M', (∀ q, q ≠ 128 → q ≠ 129 → M' q = M q) → Q (some (.inl (vi_b (baB (mB (M 126)))))) (Y, M', nn)) : vi_call GG D 335 [.inr (.inr 112)] (Y, M, nn) Q := by
  obtain ⟨D, rfl⟩ : ∃ k, D = k + 1 := ⟨D - 1, by omega⟩
  obtain ⟨R1, -, R3, -, -, -, -, -, -, -, -, -, -, R27, R28, -⟩ := y_112 hY (by omega)
  obtain ⟨p1, p2⟩ := y_126 hY (by omega)
  obtain ⟨L, hL⟩ : ∃ L, L = mB (M 126) := ⟨_, rfl⟩
  rw [← hL] at hQ
  have h0 : ∀ c, M 126 c = 0 → L c = false := fun c h => by rw [hL]; exact mB_f h
  have h1 : ∀ c, M 126 c ≠ 0 → L c = true := fun c h => by rw [hL]; exact mB_t h
  have loop : ∀ c : Nat, c ≤ 216 → vi_ok GG D 335 6 [some (.inr (.inr 112)), some (.inl (sN c (fun c => L c && oddB c) : Int)), some (.inl (sN c L : Int)), some (.inl (c : Int))] [] (Y, M, nn) Q := by
    refine vi_dn 216 ?_ fun c hc ih => ?_
    · have o1 := sN_le 216 (fun c => L c && oddB c)
      have o2 := sN_le 216 L
      unfold baB at hQ
      generalize sN 216 (fun c => L c && oddB c) = a at *
      generalize sN 216 L = b at *
      rw [s_335_6]
      by_cases q1 : 1 < 2 * (a : Int) - (b : Int)
      · have := hQ M (fun _ _ _ => rfl)
        rw [decide_eq_true (.inl q1)] at this
        clear hQ h0 h1
        simp (disch := omega) only [Option.toList_some, Option.toList_none, List.nil_append, List.cons_append, List.append_nil, true_and, and_true, not_true_eq_false, not_false_eq_true, true_implies, false_implies, implies_true, and_self, Int.reduceLT, Int.reduceLE, Int.reduceEq, Int.reduceNe, Int.reduceAdd, Int.reduceSub, Int.reduceMul, Int.reduceNeg, Int.reduceToNat, Int.toNat_natCast, ↓kk_ck, ↓kk_im, ↓kk_in, s_335_56, s_335_62, s_335_86, s_335_91, @vi_32 (2 * (a : Int)) (by omega) (by omega), @vi_32 (2 * (a : Int) - (b : Int)) (by omega) (by omega), q1]
        exact this
      · by_cases q2 : 1 < (b : Int) - 2 * (a : Int)
        · have := hQ M (fun _ _ _ => rfl)
          rw [decide_eq_true (.inr (.inl q2))] at this
          clear hQ h0 h1
          simp (disch := omega) only [Option.toList_some, Option.toList_none, List.nil_append, List.cons_append, List.append_nil, true_and, and_true, not_true_eq_false, not_false_eq_true, true_implies, false_implies, implies_true, and_self, Int.reduceLT, Int.reduceLE, Int.reduceEq, Int.reduceNe, Int.reduceAdd, Int.reduceSub, Int.reduceMul, Int.reduceNeg, Int.reduceToNat, Int.toNat_natCast, ↓kk_ck, ↓kk_im, ↓kk_in, s_335_56, s_335_62, s_335_65, s_335_71, s_335_86, s_335_91, @vi_32 (2 * (a : Int)) (by omega) (by omega), @vi_32 (2 * (a : Int) - (b : Int)) (by omega) (by omega), @vi_32 ((b : Int) - 2 * (a : Int)) (by omega) (by omega), q1, q2]
          exact this
        · have cont : vi_call GG D 310 [.inr (.inr 112), .inr (.inr 126)] (Y, M, nn) (fun r w' => vi_ok GG D 335 82 [some (.inr (.inr 112)), some (.inl (a : Int)), some (.inl (b : Int)), some (.inl 216)] r.toList w' Q) := by
            refine k_310 hY hB ⟨p1, p2⟩ (by omega) (by omega) hin (by omega) fun M' f _ => ?_
            have := hQ M' f
            rw [← hL]
            by_cases q3 : sPc 216 L > 1
            · rw [decide_eq_true (.inr (.inr q3))] at this
              clear hQ h0 h1
              simp (disch := omega) only [Option.toList_some, Option.toList_none, List.nil_append, List.cons_append, List.append_nil, true_and, and_true, not_true_eq_false, not_false_eq_true, true_implies, false_implies, implies_true, and_self, Int.reduceLT, Int.reduceLE, Int.reduceEq, Int.reduceNe, Int.reduceAdd, Int.reduceSub, Int.reduceMul, Int.reduceNeg, Int.reduceToNat, Int.toNat_natCast, ↓kk_ck, ↓kk_im, ↓kk_in, Option.toList, s_335_82, s_335_86, s_335_91]
              exact this
            · rw [decide_eq_false (by omega)] at this
              clear hQ h0 h1
              simp (disch := omega) only [Option.toList_some, Option.toList_none, List.nil_append, List.cons_append, List.append_nil, true_and, and_true, not_true_eq_false, not_false_eq_true, true_implies, false_implies, implies_true, and_self, Int.reduceLT, Int.reduceLE, Int.reduceEq, Int.reduceNe, Int.reduceAdd, Int.reduceSub, Int.reduceMul, Int.reduceNeg, Int.reduceToNat, Int.toNat_natCast, ↓kk_ck, ↓kk_im, ↓kk_in, Option.toList, s_335_82, s_335_90, s_335_91]
              exact this
          clear hQ h0 h1
          simp (disch := omega) only [Option.toList_some, Option.toList_none, List.nil_append, List.cons_append, List.append_nil, true_and, and_true, not_true_eq_false, not_false_eq_true, true_implies, false_implies, implies_true, and_self, Int.reduceLT, Int.reduceLE, Int.reduceEq, Int.reduceNe, Int.reduceAdd, Int.reduceSub, Int.reduceMul, Int.reduceNeg, Int.reduceToNat, Int.toNat_natCast, ↓kk_ck, ↓kk_im, ↓kk_in, s_335_56, s_335_62, s_335_65, s_335_71, s_335_74, s_335_79, R1, R28, @vi_32 (2 * (a : Int)) (by omega) (by omega), @vi_32 (2 * (a : Int) - (b : Int)) (by omega) (by omega), @vi_32 ((b : Int) - 2 * (a : Int)) (by omega) (by omega), q1, q2]
          exact cont
    · clear hQ
      have hcc : 0 ≤ (c : Int) ∧ (c : Int) < 216 := by omega
      have o1 := sN_le c (fun c => L c && oddB c)
      have o2 := sN_le c L
      rw [sN, sN] at ih
      rw [s_335_6]
      by_cases q : M 126 c = 0
      · rw [h0 c q, Bool.false_and] at ih
        clear h0 h1
        have ih' : vi_ok GG D 335 6 [some (.inr (.inr 112)), some (.inl (sN c (fun c => L c && oddB c) : Int)), some (.inl (sN c L : Int)), some (.inl ((c + 1 : Nat) : Int))] [] (Y, M, nn) Q := ih
        simp (disch := omega) only [Option.toList_some, Option.toList_none, List.nil_append, List.cons_append, List.append_nil, true_and, and_true, not_true_eq_false, not_false_eq_true, true_implies, false_implies, implies_true, and_self, Int.reduceLT, Int.reduceLE, Int.reduceEq, Int.reduceNe, Int.reduceAdd, Int.reduceSub, Int.reduceMul, Int.reduceNeg, Int.reduceToNat, Int.toNat_natCast, ↓kk_ck, ↓kk_im, ↓kk_in, s_335_13, s_335_17, s_335_19, s_335_22, s_335_50, R1, R28, p1, p2, Int.toNat_natCast, q, vi_inc, ne_eq]
        exact ih'
      · rw [h1 c q, Bool.true_and] at ih
        clear h0 h1
        have ob : (oddB c).toNat ≤ 1 := by cases oddB c <;> decide
        rw [Int.natCast_add, Int.natCast_add] at ih
        simp (disch := omega) only [Option.toList_some, Option.toList_none, List.nil_append, List.cons_append, List.append_nil, true_and, and_true, not_true_eq_false, not_false_eq_true, true_implies, false_implies, implies_true, and_self, Int.reduceLT, Int.reduceLE, Int.reduceEq, Int.reduceNe, Int.reduceAdd, Int.reduceSub, Int.reduceMul, Int.reduceNeg, Int.reduceToNat, Int.toNat_natCast, ↓kk_ck, ↓kk_im, ↓kk_in, s_335_13, s_335_17, s_335_19, s_335_25, s_335_34, s_335_39, s_335_45, s_335_50, R1, R28, p1, p2, Int.toNat_natCast, q, k_245 hcc, mAl0, mAl1, mAl2, @vi_32 (((c % 6 : Nat) : Int) + ((c / 6 % 6 : Nat) : Int)) (by omega) (by omega), @vi_32 (((c % 6 : Nat) : Int) + ((c / 6 % 6 : Nat) : Int) + ((c / 36 : Nat) : Int)) (by omega) (by omega), odd_e, @vi_32 ((sN c (fun c => L c && oddB c) : Int) + ((oddB c).toNat : Int)) (by omega) (by omega), @vi_32 ((sN c L : Int) + 1) (by omega) (by omega), vi_inc, ne_eq]
        exact ih
  have := loop 0 (by omega)
  rw [sN, sN] at this
  clear loop hQ h0 h1
  simp (disch := omega) only [Option.toList_some, Option.toList_none, List.nil_append, List.cons_append, List.append_nil, true_and, and_true, not_true_eq_false, not_false_eq_true, true_implies, false_implies, implies_true, and_self, Int.reduceLT, Int.reduceLE, Int.reduceEq, Int.reduceNe, Int.reduceAdd, Int.reduceSub, Int.reduceMul, Int.reduceNeg, Int.reduceToNat, Int.toNat_natCast, ↓kk_ck, ↓kk_im, ↓kk_in, e_335, s_335_0]
  exact this
theorem k_336 (hY : kY Y 151) (hB : mBx M) {a : Nat} {b : Int} (ha : mIc M (a : Int)) (hD : 3 ≤ D) : vi_call GG D 336 [.inr (.inr 112), .inl (a : Int), .inl b] (Y, M, nn) K ↔ K (some (.inl (vi_b (abB M (a : Int) b 6)))) (Y, M, nn) := by
  obtain ⟨D, rfl⟩ : ∃ k, D = k + 1 := ⟨D - 1, by omega⟩
  obtain ⟨R1, -⟩ := y_112 hY (by omega)
  refine vi_k (r := some (.inl _)) fun Q hQ => ?_
  have tr : ∀ j k : Nat, abB M (a : Int) b j = true → abB M (a : Int) b (j + k) = true := by
    intro j k h
    induction k with
    | zero => exact h
    | succ k ih => rw [← Nat.add_assoc, abB, ih]; rfl
  have loop : ∀ j : Nat, j ≤ 6 → abB M (a : Int) b j = false → vi_ok GG D 336 2 [some (.inr (.inr 112)), some (.inl (a : Int)), some (.inl b), some (.inl (j : Int))] [] (Y, M, nn) Q := by
    refine vi_dn (P := fun j => abB M (a : Int) b j = false → vi_ok GG D 336 2 [some (.inr (.inr 112)), some (.inl (a : Int)), some (.inl b), some (.inl (j : Int))] [] (Y, M, nn) Q) 6 ?_ fun j hj ih => ?_
    · intro hb
      rw [hb] at hQ
      rw [s_336_2]
      simp (disch := omega) only [Option.toList_some, Option.toList_none, List.nil_append, List.cons_append, List.append_nil, true_and, and_true, not_true_eq_false, not_false_eq_true, true_implies, false_implies, implies_true, and_self, Int.reduceLT, Int.reduceLE, Int.reduceEq, Int.reduceNe, Int.reduceAdd, Int.reduceSub, Int.reduceMul, Int.reduceNeg, Int.reduceToNat, Int.toNat_natCast, ↓kk_ck, ↓kk_im, ↓kk_in, s_336_26]
      exact hQ
    · intro hb
      have k248 := fun {K : Option vi_V → vi_W → Prop} => @k_248 D K Y M nn hY hB (a : Int) j ha hj (by omega)
      rw [abB, hb, Bool.false_or] at ih
      by_cases q : mBe M (a : Int) j = b
      · have h1 : abB M (a : Int) b (j + 1) = true := by rw [abB, decide_eq_true q, Bool.or_true]
        have h2 := tr (j + 1) (6 - (j + 1)) h1
        rw [show j + 1 + (6 - (j + 1)) = 6 by omega] at h2
        rw [h2] at hQ
        clear ih
        rw [s_336_2]
        simp (disch := omega) only [Option.toList_some, Option.toList_none, List.nil_append, List.cons_append, List.append_nil, true_and, and_true, not_true_eq_false, not_false_eq_true, true_implies, false_implies, implies_true, and_self, Int.reduceLT, Int.reduceLE, Int.reduceEq, Int.reduceNe, Int.reduceAdd, Int.reduceSub, Int.reduceMul, Int.reduceNeg, Int.reduceToNat, Int.toNat_natCast, ↓kk_ck, ↓kk_im, ↓kk_in, s_336_8, s_336_14, s_336_18, R1, k248, q, ne_eq]
        exact hQ
      · have := ih (decide_eq_false q)
        clear ih hQ
        rw [s_336_2]
        simp (disch := omega) only [Option.toList_some, Option.toList_none, List.nil_append, List.cons_append, List.append_nil, true_and, and_true, not_true_eq_false, not_false_eq_true, true_implies, false_implies, implies_true, and_self, Int.reduceLT, Int.reduceLE, Int.reduceEq, Int.reduceNe, Int.reduceAdd, Int.reduceSub, Int.reduceMul, Int.reduceNeg, Int.reduceToNat, Int.toNat_natCast, ↓kk_ck, ↓kk_im, ↓kk_in, s_336_8, s_336_14, s_336_20, R1, k248, q, vi_inc, ne_eq]
        exact this
  have := loop 0 (by omega) rfl
  clear loop hQ
  simp (disch := omega) only [Option.toList_some, Option.toList_none, List.nil_append, List.cons_append, List.append_nil, true_and, and_true, not_true_eq_false, not_false_eq_true, true_implies, false_implies, implies_true, and_self, Int.reduceLT, Int.reduceLE, Int.reduceEq, Int.reduceNe, Int.reduceAdd, Int.reduceSub, Int.reduceMul, Int.reduceNeg, Int.reduceToNat, Int.toNat_natCast, ↓kk_ck, ↓kk_im, ↓kk_in, e_336, s_336_0]
  exact this
/-- the cells stand in their row -/
def wCl (M : vi_M) (W : Nat → Nat) (m : Nat) : Prop := ∀ k, k < m → M 145 k = (W k : Int) ∧ mIc M (W k : Int)
def wB2 (M : vi_M) (W : Nat → Nat) (k j : Nat) : Bool := abB M (W k : Int) (W j : Int) 6
theorem k_337 (hY : kY Y 151) (hB : mBx M) {W : Nat → Nat} {m : Nat} (hm : m ≤ 14) (hW : wCl M W m) {set k : Nat} (hs : set < 2 ^ m) (hk : k < m) (hT : wTb (wB2 M W) m set (M 146)) (hD : 4 ≤ D) : vi_call GG D 337 [.inr (.inr 112), .inl (set : Int), .inl (k : Int), .inl (m : Int)] (Y, M, nn) K ↔ K (some (.inl (vi_b (wE (wB2 M W) m m set k)))) (Y, M, nn) := by
  obtain ⟨D, rfl⟩ : ∃ k, D = k + 1 := ⟨D - 1, by omega⟩
  obtain ⟨R1, -, -, -, -, -, -, -, -, -, -, -, -, -, -, -, -, -, -, -, -, -, -, -, -, -, -, -, -, -, -, -, -, R56, R57, -⟩ := y_112 hY (by omega)
  obtain ⟨p1, p2⟩ := y_145 hY (by omega)
  obtain ⟨p3, p4⟩ := y_146 hY (by omega)
  refine vi_k (r := some (.inl _)) fun Q hQ => ?_
  have h14 : 2 ^ m ≤ 2 ^ 14 := Nat.pow_le_pow_right (by omega) hm
  have hp := Nat.two_pow_pos m
  by_cases q : set = 2 ^ m - 1
  · rw [q, wE_u] at hQ
    have q' : (set : Int) = ((2 ^ m - 1 : Nat) : Int) := by rw [q]
    clear hT
    simp (disch := omega) only [Option.toList_some, Option.toList_none, List.nil_append, List.cons_append, List.append_nil, true_and, and_true, not_true_eq_false, not_false_eq_true, true_implies, false_implies, implies_true, and_self, Int.reduceLT, Int.reduceLE, Int.reduceEq, Int.reduceNe, Int.reduceAdd, Int.reduceSub, Int.reduceMul, Int.reduceNeg, Int.reduceToNat, Int.toNat_natCast, ↓kk_ck, ↓kk_im, ↓kk_in, e_337, s_337_0, s_337_6, s_337_9, sh_14 hm, pw_1 hm, q', ne_eq]
    exact hQ
  · have q' : ¬ (set : Int) = ((2 ^ m - 1 : Nat) : Int) := fun e => q (by exact_mod_cast e)
    have hst := wE_s (B := wB2 M W) (k := k) hs q
    have loop : ∀ j : Nat, j ≤ m → (∀ i, i < j → ¬ (set.testBit i = false ∧ wB2 M W k i = true ∧ wE (wB2 M W) m m (set ||| 2 ^ i) i = true)) → vi_ok GG D 337 14 [some (.inr (.inr 112)), some (.inl (set : Int)), some (.inl (k : Int)), some (.inl (m : Int)), some (.inl (j : Int))] [] (Y, M, nn) Q := by
      refine vi_dn (P := fun j => (∀ i, i < j → ¬ (set.testBit i = false ∧ wB2 M W k i = true ∧ wE (wB2 M W) m m (set ||| 2 ^ i) i = true)) → vi_ok GG D 337 14 [some (.inr (.inr 112)), some (.inl (set : Int)), some (.inl (k : Int)), some (.inl (m : Int)), some (.inl (j : Int))] [] (Y, M, nn) Q) m ?_ fun j hj ih => ?_
      · intro hno
        have : wE (wB2 M W) m m set k = false := by
          cases h : wE (wB2 M W) m m set k
          · rfl
          · obtain ⟨i, i1, i2⟩ := hst.mp h
            exact absurd i2 (hno i i1)
        rw [this] at hQ
        clear hst hno hT
        rw [s_337_14]
        simp (disch := omega) only [Option.toList_some, Option.toList_none, List.nil_append, List.cons_append, List.append_nil, true_and, and_true, not_true_eq_false, not_false_eq_true, true_implies, false_implies, implies_true, and_self, Int.reduceLT, Int.reduceLE, Int.reduceEq, Int.reduceNe, Int.reduceAdd, Int.reduceSub, Int.reduceMul, Int.reduceNeg, Int.reduceToNat, Int.toNat_natCast, ↓kk_ck, ↓kk_im, ↓kk_in, s_337_77]
        exact hQ
      · intro hno
        obtain ⟨c1, c2⟩ := hW k hk
        obtain ⟨c3, c4⟩ := hW j hj
        have k336 := fun {D : Nat} {K : Option vi_V → vi_W → Prop} (hD : 3 ≤ D) => @k_336 D K Y M nn hY hB (W k) (W j : Int) c2 hD
        rw [show abB M (W k : Int) (W j : Int) 6 = wB2 M W k j from rfl] at k336
        have next : ¬ (set.testBit j = false ∧ wB2 M W k j = true ∧ wE (wB2 M W) m m (set ||| 2 ^ j) j = true) → vi_ok GG D 337 14 [some (.inr (.inr 112)), some (.inl (set : Int)), some (.inl (k : Int)), some (.inl (m : Int)), some (.inl ((j + 1 : Nat) : Int))] [] (Y, M, nn) Q := fun hn => ih fun i hi => by
          by_cases e : i = j
          · rw [e]; exact hn
          · exact hno i (by omega)
        clear ih
        rw [s_337_14]
        cases b1 : set.testBit j
        · cases b2 : wB2 M W k j
          · have := next (fun h => by rw [b2] at h; cases h.2.1)
            rw [b2] at k336
            clear next hst hno hT hQ
            simp (disch := omega) only [Option.toList_some, Option.toList_none, List.nil_append, List.cons_append, List.append_nil, true_and, and_true, not_true_eq_false, not_false_eq_true, true_implies, false_implies, implies_true, and_self, Int.reduceLT, Int.reduceLE, Int.reduceEq, Int.reduceNe, Int.reduceAdd, Int.reduceSub, Int.reduceMul, Int.reduceNeg, Int.reduceToNat, Int.toNat_natCast, ↓kk_ck, ↓kk_im, ↓kk_in, s_337_20, s_337_26, s_337_29, s_337_34, s_337_36, s_337_40, s_337_43, s_337_46, s_337_71, R1, R56, p1, p2, @bit_f set j (by omega) (by omega) b1, Int.toNat_natCast, c1, c3, k336, vi_bf, vi_inc, ne_eq]
            exact this
          · rw [b2] at k336
            have hlt := or_lt hs hj
            have hgt : set < set ||| 2 ^ j := by
              refine Nat.lt_of_le_of_ne Nat.left_le_or fun e => ?_
              have : (set ||| 2 ^ j).testBit j = true := by rw [Nat.testBit_or, Nat.testBit_two_pow_self]; simp
              rw [← e, b1] at this; cases this
            have ht := hT (set ||| 2 ^ j) hgt hlt j hj
            rw [show (set ||| 2 ^ j).testBit j = true from by rw [Nat.testBit_or, Nat.testBit_two_pow_self]; simp, Bool.true_and] at ht
            obtain ⟨u, hu⟩ : ∃ u, u = set ||| 2 ^ j := ⟨_, rfl⟩
            rw [← hu] at ht hlt next
            cases b3 : wE (wB2 M W) m m u j
            · have := next (fun h => by rw [b3] at h; cases h.2.2)
              rw [b3] at ht
              have ht' : M 146 (u * 14 + j) = 0 := ht
              clear next hst hno hT hQ
              simp (disch := omega) only [Option.toList_some, Option.toList_none, List.nil_append, List.cons_append, List.append_nil, true_and, and_true, not_true_eq_false, not_false_eq_true, true_implies, false_implies, implies_true, and_self, Int.reduceLT, Int.reduceLE, Int.reduceEq, Int.reduceNe, Int.reduceAdd, Int.reduceSub, Int.reduceMul, Int.reduceNeg, Int.reduceToNat, Int.toNat_natCast, ↓kk_ck, ↓kk_im, ↓kk_in, s_337_20, s_337_26, s_337_29, s_337_34, s_337_36, s_337_40, s_337_43, s_337_46, s_337_49, s_337_53, s_337_65, s_337_66, s_337_71, R1, R56, R57, p1, p2, p3, p4, @bit_f set j (by omega) (by omega) b1, sh_14 (show j ≤ 14 by omega), @or_u set j u (by omega) (by omega) hu, @ix_14 u j (by omega) (by omega), Int.toNat_natCast, c1, c3, k336, ht', vi_bt, vi_inc, ne_eq]
              exact this
            · have : wE (wB2 M W) m m set k = true := hst.mpr ⟨j, hj, b1, b2, by rw [← hu]; exact b3⟩
              rw [this] at hQ
              rw [b3] at ht
              have ht' : M 146 (u * 14 + j) = 1 := ht
              clear next hst hno hT
              simp (disch := omega) only [Option.toList_some, Option.toList_none, List.nil_append, List.cons_append, List.append_nil, true_and, and_true, not_true_eq_false, not_false_eq_true, true_implies, false_implies, implies_true, and_self, Int.reduceLT, Int.reduceLE, Int.reduceEq, Int.reduceNe, Int.reduceAdd, Int.reduceSub, Int.reduceMul, Int.reduceNeg, Int.reduceToNat, Int.toNat_natCast, ↓kk_ck, ↓kk_im, ↓kk_in, s_337_20, s_337_26, s_337_29, s_337_34, s_337_36, s_337_40, s_337_43, s_337_46, s_337_49, s_337_53, s_337_65, s_337_66, s_337_69, R1, R56, R57, p1, p2, p3, p4, @bit_f set j (by omega) (by omega) b1, sh_14 (show j ≤ 14 by omega), @or_u set j u (by omega) (by omega) hu, @ix_14 u j (by omega) (by omega), Int.toNat_natCast, c1, c3, k336, ht', vi_bt, ne_eq]
              exact hQ
        · have := next (fun h => by rw [b1] at h; cases h.1)
          clear next hst hno hT hQ
          simp (disch := omega) only [Option.toList_some, Option.toList_none, List.nil_append, List.cons_append, List.append_nil, true_and, and_true, not_true_eq_false, not_false_eq_true, true_implies, false_implies, implies_true, and_self, Int.reduceLT, Int.reduceLE, Int.reduceEq, Int.reduceNe, Int.reduceAdd, Int.reduceSub, Int.reduceMul, Int.reduceNeg, Int.reduceToNat, Int.toNat_natCast, ↓kk_ck, ↓kk_im, ↓kk_in, s_337_20, s_337_26, s_337_71, @bit_t set j (by omega) (by omega) b1, vi_inc, ne_eq]
          exact this
    have := loop 0 (by omega) (fun i hi => by omega)
    clear loop hQ hst hT
    simp (disch := omega) only [Option.toList_some, Option.toList_none, List.nil_append, List.cons_append, List.append_nil, true_and, and_true, not_true_eq_false, not_false_eq_true, true_implies, false_implies, implies_true, and_self, Int.reduceLT, Int.reduceLE, Int.reduceEq, Int.reduceNe, Int.reduceAdd, Int.reduceSub, Int.reduceMul, Int.reduceNeg, Int.reduceToNat, Int.toNat_natCast, ↓kk_ck, ↓kk_im, ↓kk_in, e_337, s_337_0, s_337_6, s_337_11, sh_14 hm, pw_1 hm, q', ne_eq]
    exact this
end
