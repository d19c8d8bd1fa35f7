/-! Pairs: fits; the ways. -/
def zuS : Nat → (Nat → Nat) → Nat
  | 0, _ => 0
  | n + 1, g => zuS n g + g n
theorem zuS_c {g h : Nat → Nat} : ∀ n : Nat, (∀ i, i < n → g i = h i) → zuS n g = zuS n h
  | 0, _ => rfl
  | n + 1, e => by rw [zuS, zuS, zuS_c n fun i hi => e i (by omega), e n (by omega)]
theorem zuS_z : ∀ n : Nat, zuS n (fun _ => 0) = 0
  | 0 => rfl
  | n + 1 => by rw [zuS, zuS_z n]
theorem zuS_pos {g : Nat → Nat} : ∀ n : Nat, zuS n g ≠ 0 ↔ ∃ i, i < n ∧ g i ≠ 0
  | 0 => ⟨fun h => absurd rfl h, fun ⟨i, hi, _⟩ => absurd hi (by omega)⟩
  | n + 1 => by
    have ih := zuS_pos (g := g) n
    rw [zuS]
    constructor
    · intro h
      by_cases e : g n = 0
      · obtain ⟨i, h1, h2⟩ := ih.mp (by omega)
        exact ⟨i, by omega, h2⟩
      · exact ⟨n, by omega, e⟩
    · rintro ⟨i, h1, h2⟩
      by_cases e : i = n
      · subst e; omega
      · have := ih.mpr ⟨i, by omega, h2⟩
        omega
theorem zuS_add {g : Nat → Nat} {m : Nat} : ∀ n : Nat, zuS (m + n) g = zuS m g + zuS n (fun i => g (m + i))
  | 0 => rfl
  | n + 1 => by rw [show m + (n + 1) = (m + n) + 1 by omega, zuS, zuS_add n, zuS]; omega
theorem zuS_mul {g : Nat → Nat} {n : Nat} : ∀ m : Nat, zuS (n * m) g = zuS m (fun a => zuS n (fun c => g (n * a + c)))
  | 0 => rfl
  | m + 1 => by rw [show n * (m + 1) = n * m + n by rw [Nat.mul_succ], zuS_add, zuS_mul m, zuS]
theorem zuS_sN {f : Nat → Bool} : ∀ n : Nat, sN n f = zuS n (fun i => (f i).toNat)
  | 0 => rfl
  | n + 1 => by rw [sN_s, zuS_sN n, zuS]
theorem zuS_if {b : Bool} {g : Nat → Nat} {n : Nat} : (if b = true then zuS n g else 0) = zuS n (fun i => if b = true then g i else 0) := by
  cases b
  · rw [if_neg (by decide)]
    exact (zuS_z n).symm.trans (zuS_c n fun i _ => (if_neg (show ¬ (false = true) by decide)).symm)
  · rw [if_pos rfl]
    exact zuS_c n fun i _ => (if_pos rfl).symm
section
variable {A : Nat → Nat → Bool}
def nX (rest s : Nat) : Nat := (rsF rest s 6).toNat
def cO (A : Nat → Nat → Bool) (x rest s : Nat) : Bool := A x s && decide (rsF rest s 6 ≠ -1)
/-- the ways through the last k of six places -/
def cW (A : Nat → Nat → Bool) : Nat → Nat → Nat
  | 0 => fun rest => if rest = 0 then 1 else 0
  | k + 1 => fun rest => zuS 64 (fun s => if cO A (5 - k) rest s = true then cW A k (nX rest s) else 0)
/-- through three sets -/
def cT (A : Nat → Nat → Bool) (k rest a b c : Nat) : Nat := if cO A (5 - (k + 2)) rest a = true then (if cO A (5 - (k + 1)) (nX rest a) b = true then (if cO A (5 - k) (nX (nX rest a) b) c = true then cW A k (nX (nX (nX rest a) b) c) else 0) else 0) else 0
theorem cW_3 {k rest : Nat} : cW A (k + 3) rest = zuS 64 (fun a => zuS 64 (fun b => zuS 64 (fun c => cT A k rest a b c))) := by
  rw [cW]
  refine zuS_c 64 fun a _ => ?_
  rw [cW, zuS_if]
  refine zuS_c 64 fun b _ => ?_
  rw [cW, zuS_if, zuS_if]
  rfl
/-- the first of g below n -/
def isF (g : Nat → Bool) (n s : Nat) : Prop := s < n ∧ g s = true ∧ ∀ i, i < s → g i = false
theorem isF_u {g : Nat → Bool} {n s s' : Nat} (h : isF g n s) (h' : isF g n s') : s = s' := by
  obtain ⟨a1, a2, a3⟩ := h
  obtain ⟨b1, b2, b3⟩ := h'
  by_cases e : s < s'
  · rw [b3 s e] at a2; cases a2
  · by_cases e2 : s' < s
    · rw [a3 s' e2] at b2; cases b2
    · omega
/-- a set with ways behind it -/
def gD (A : Nat → Nat → Bool) (k rest s : Nat) : Bool := cO A (5 - k) rest s && decide (cW A k (nX rest s) ≠ 0)
theorem gD_t {k rest s : Nat} : gD A k rest s = true ↔ (cO A (5 - k) rest s = true ∧ cW A k (nX rest s) ≠ 0) := by
  unfold gD; rw [Bool.and_eq_true, decide_eq_true_eq]
theorem cW_p {k rest : Nat} : cW A (k + 1) rest ≠ 0 ↔ ∃ s, s < 64 ∧ gD A k rest s = true := by
  rw [cW, zuS_pos]
  constructor
  · rintro ⟨s, h1, h2⟩
    refine ⟨s, h1, gD_t.mpr ?_⟩
    by_cases e : cO A (5 - k) rest s = true
    · rw [if_pos e] at h2; exact ⟨e, h2⟩
    · rw [if_neg e] at h2; exact absurd rfl h2
  · rintro ⟨s, h1, h2⟩
    obtain ⟨h2, h3⟩ := gD_t.mp h2
    exact ⟨s, h1, by rw [if_pos h2]; exact h3⟩
theorem cT_p {k rest a b c : Nat} : cT A k rest a b c ≠ 0 ↔ (cO A (5 - (k + 2)) rest a = true ∧ cO A (5 - (k + 1)) (nX rest a) b = true ∧ gD A k (nX (nX rest a) b) c = true) := by
  unfold cT
  rw [gD_t]
  by_cases e1 : cO A (5 - (k + 2)) rest a = true
  · rw [if_pos e1]
    by_cases e2 : cO A (5 - (k + 1)) (nX rest a) b = true
    · rw [if_pos e2]
      by_cases e3 : cO A (5 - k) (nX (nX rest a) b) c = true
      · rw [if_pos e3]; exact ⟨fun h => ⟨e1, e2, e3, h⟩, fun h => h.2.2.2⟩
      · rw [if_neg e3]; exact ⟨fun h => absurd rfl h, fun h => absurd h.2.2.1 e3⟩
    · rw [if_neg e2]; exact ⟨fun h => absurd rfl h, fun h => absurd h.2.1 e2⟩
  · rw [if_neg e1]; exact ⟨fun h => absurd rfl h, fun h => absurd h.1 e1⟩
/-- the first triple is first in each -/
theorem cT_f {k rest j : Nat} (hj : j < 262144) (h1 : cT A k rest (j / 4096) (j / 64 % 64) (j % 64) ≠ 0) (h2 : ∀ i, i < j → cT A k rest (i / 4096) (i / 64 % 64) (i % 64) = 0) : isF (gD A (k + 2) rest) 64 (j / 4096) ∧ isF (gD A (k + 1) (nX rest (j / 4096))) 64 (j / 64 % 64) ∧ isF (gD A k (nX (nX rest (j / 4096)) (j / 64 % 64))) 64 (j % 64) := by
  obtain ⟨q1, q2, q3⟩ := cT_p.mp h1
  have hb : gD A (k + 1) (nX rest (j / 4096)) (j / 64 % 64) = true := gD_t.mpr ⟨q2, cW_p.mpr ⟨j % 64, by omega, q3⟩⟩
  have ha : gD A (k + 2) rest (j / 4096) = true := gD_t.mpr ⟨q1, cW_p.mpr ⟨j / 64 % 64, by omega, hb⟩⟩
  have no : ∀ a b c : Nat, a < 64 → b < 64 → c < 64 → 4096 * a + 64 * b + c < j → cT A k rest a b c = 0 := fun a b c _ hb hc h => by
    have := h2 _ h
    rw [show (4096 * a + 64 * b + c) / 4096 = a by omega, show (4096 * a + 64 * b + c) / 64 % 64 = b by omega, show (4096 * a + 64 * b + c) % 64 = c by omega] at this
    exact this
  refine ⟨⟨by omega, ha, fun i hi => ?_⟩, ⟨by omega, hb, fun i hi => ?_⟩, ⟨by omega, q3, fun i hi => ?_⟩⟩
  · cases e : gD A (k + 2) rest i
    · rfl
    · obtain ⟨e1, e2⟩ := gD_t.mp e
      obtain ⟨b, hb, e3⟩ := cW_p.mp e2
      obtain ⟨e3, e4⟩ := gD_t.mp e3
      obtain ⟨c, hc, e5⟩ := cW_p.mp e4
      exact absurd (no i b c (by omega) hb hc (by omega)) (cT_p.mpr ⟨e1, e3, e5⟩)
  · cases e : gD A (k + 1) (nX rest (j / 4096)) i
    · rfl
    · obtain ⟨e3, e4⟩ := gD_t.mp e
      obtain ⟨c, hc, e5⟩ := cW_p.mp e4
      exact absurd (no (j / 4096) i c (by omega) (by omega) hc (by omega)) (cT_p.mpr ⟨q1, e3, e5⟩)
  · cases e : gD A k (nX (nX rest (j / 4096)) (j / 64 % 64)) i
    · rfl
    · exact absurd (no (j / 4096) (j / 64 % 64) i (by omega) (by omega) (by omega) (by omega)) (cT_p.mpr ⟨q1, q2, e⟩)
end
/-- six digits -/
def e7 (d : Nat → Nat) : Nat := d 0 + 7 * d 1 + 49 * d 2 + 343 * d 3 + 2401 * d 4 + 16807 * d 5
def e4 (d : Nat → Nat) : Nat := d 0 + 4 * d 1 + 16 * d 2 + 64 * d 3 + 256 * d 4 + 1024 * d 5
def vo (s i : Nat) : Nat := (s.testBit i).toNat
abbrev le6 (u d : Nat → Nat) : Prop := u 0 ≤ d 0 ∧ u 1 ≤ d 1 ∧ u 2 ≤ d 2 ∧ u 3 ≤ d 3 ∧ u 4 ≤ d 4 ∧ u 5 ≤ d 5
abbrev le7 (d : Nat → Nat) : Prop := d 0 ≤ 6 ∧ d 1 ≤ 6 ∧ d 2 ≤ 6 ∧ d 3 ≤ 6 ∧ d 4 ≤ 6 ∧ d 5 ≤ 6
theorem vo_1 {s i : Nat} : vo s i = 0 ∨ vo s i = 1 := by unfold vo; cases s.testBit i; exact .inl rfl; exact .inr rfl
theorem vo_le {s i : Nat} : vo s i ≤ 1 := by have := @vo_1 s i; omega
theorem fSp_e {s : Nat} : fSp s = e4 (vo s) := rfl
theorem rsF_st {rest set y : Nat} : rsF rest set (y + 1) = if rsF rest set y = -1 then -1 else if vo set y ≤ rest / 7 ^ y % 7 then rsF rest set y - ((vo set y * 7 ^ y : Nat) : Int) else -1 := by
  rw [rsF]
  unfold vo
  by_cases e : rsF rest set y = -1
  · rw [if_pos e, if_pos e]
  · rw [if_neg e, if_neg e]
    cases set.testBit y
    · rw [Bool.toNat_false, Nat.zero_mul, if_neg (by decide), if_pos (Nat.zero_le _)]; simp
    · rw [if_pos rfl, Bool.toNat_true, Nat.one_mul]
      by_cases z : rest / 7 ^ y % 7 = 0
      · rw [if_pos z, if_neg (by omega)]
      · rw [if_neg z, if_pos (by omega)]
theorem rsF_7 {d : Nat → Nat} (hd : le7 d) {s : Nat} : rsF (e7 d) s 6 = if le6 (vo s) d then ((e7 (fun i => d i - vo s i) : Nat) : Int) else -1 := by
  obtain ⟨d0, d1, d2, d3, d4, d5⟩ := hd
  have hE : e7 d = d 0 + 7 * d 1 + 49 * d 2 + 343 * d 3 + 2401 * d 4 + 16807 * d 5 := rfl
  obtain ⟨p0, p1, p2, p3, p4, p5⟩ : e7 d / 7 ^ 0 % 7 = d 0 ∧ e7 d / 7 ^ 1 % 7 = d 1 ∧ e7 d / 7 ^ 2 % 7 = d 2 ∧ e7 d / 7 ^ 3 % 7 = d 3 ∧ e7 d / 7 ^ 4 % 7 = d 4 ∧ e7 d / 7 ^ 5 % 7 = d 5 := by
    rw [hE]
    clear hE
    refine ⟨by omega, by omega, by omega, by omega, by omega, by omega⟩
  have v0 := @vo_le s 0
  have v1 := @vo_le s 1
  have v2 := @vo_le s 2
  have v3 := @vo_le s 3
  have v4 := @vo_le s 4
  have v5 := @vo_le s 5
  have r0 : rsF (e7 d) s 0 = ((e7 d : Nat) : Int) := rfl
  have r1 := @rsF_st (e7 d) s 0
  have r2 := @rsF_st (e7 d) s 1
  have r3 := @rsF_st (e7 d) s 2
  have r4 := @rsF_st (e7 d) s 3
  have r5 := @rsF_st (e7 d) s 4
  have r6 := @rsF_st (e7 d) s 5
  rw [p0, r0] at r1
  rw [p1] at r2
  rw [p2] at r3
  rw [p3] at r4
  rw [p4] at r5
  rw [p5] at r6
  clear p0 p1 p2 p3 p4 p5
  have hF : e7 (fun i => d i - vo s i) = (d 0 - vo s 0) + 7 * (d 1 - vo s 1) + 49 * (d 2 - vo s 2) + 343 * (d 3 - vo s 3) + 2401 * (d 4 - vo s 4) + 16807 * (d 5 - vo s 5) := rfl
  generalize e7 (fun i => d i - vo s i) = F at *
  generalize e7 d = E at *
  generalize rsF E s 1 = x1 at *
  generalize rsF E s 2 = x2 at *
  generalize rsF E s 3 = x3 at *
  generalize rsF E s 4 = x4 at *
  generalize rsF E s 5 = x5 at *
  generalize rsF E s 6 = x6 at *
  clear r0
  simp only [Nat.zero_add, Nat.reducePow, Nat.reduceAdd] at r1 r2 r3 r4 r5 r6
  by_cases c0 : vo s 0 ≤ d 0
  · rw [if_neg (by omega), if_pos c0] at r1
    by_cases c1 : vo s 1 ≤ d 1
    · rw [if_neg (by omega), if_pos c1] at r2
      by_cases c2 : vo s 2 ≤ d 2
      · rw [if_neg (by omega), if_pos c2] at r3
        by_cases c3 : vo s 3 ≤ d 3
        · rw [if_neg (by omega), if_pos c3] at r4
          by_cases c4 : vo s 4 ≤ d 4
          · rw [if_neg (by omega), if_pos c4] at r5
            by_cases c5 : vo s 5 ≤ d 5
            · rw [if_neg (by omega), if_pos c5] at r6
              rw [r6, if_pos ⟨c0, c1, c2, c3, c4, c5⟩]
              omega
            · rw [if_neg c5, if_neg (by omega)] at r6
              rw [r6, if_neg fun k => c5 k.2.2.2.2.2]
          · rw [if_neg c4, if_neg (by omega)] at r5
            rw [r6, if_pos r5, if_neg fun k => c4 k.2.2.2.2.1]
        · rw [if_neg c3, if_neg (by omega)] at r4
          rw [if_pos r4] at r5
          rw [r6, if_pos r5, if_neg fun k => c3 k.2.2.2.1]
      · rw [if_neg c2, if_neg (by omega)] at r3
        rw [if_pos r3] at r4
        rw [if_pos r4] at r5
        rw [r6, if_pos r5, if_neg fun k => c2 k.2.2.1]
    · rw [if_neg c1, if_neg (by omega)] at r2
      rw [if_pos r2] at r3
      rw [if_pos r3] at r4
      rw [if_pos r4] at r5
      rw [r6, if_pos r5, if_neg fun k => c1 k.2.1]
  · rw [if_neg c0, if_neg (by omega)] at r1
    rw [if_pos r1] at r2
    rw [if_pos r2] at r3
    rw [if_pos r3] at r4
    rw [if_pos r4] at r5
    rw [r6, if_pos r5, if_neg fun k => c0 k.1]
theorem e7_0 {d : Nat → Nat} : e7 d = 0 ↔ (d 0 = 0 ∧ d 1 = 0 ∧ d 2 = 0 ∧ d 3 = 0 ∧ d 4 = 0 ∧ d 5 = 0) := by
  unfold e7; omega
theorem nX_7 {d : Nat → Nat} (hd : le7 d) {s : Nat} (h : le6 (vo s) d) : nX (e7 d) s = e7 (fun i => d i - vo s i) := by
  unfold nX
  rw [rsF_7 hd, if_pos h, Int.toNat_natCast]
theorem cO_7 {A : Nat → Nat → Bool} {d : Nat → Nat} (hd : le7 d) {x s : Nat} : cO A x (e7 d) s = true ↔ (A x s = true ∧ le6 (vo s) d) := by
  unfold cO
  rw [Bool.and_eq_true, decide_eq_true_eq, rsF_7 hd]
  by_cases h : le6 (vo s) d
  · rw [if_pos h]
    exact ⟨fun k => ⟨k.1, h⟩, fun k => ⟨k.1, by omega⟩⟩
  · rw [if_neg h]
    exact ⟨fun k => absurd rfl k.2, fun k => absurd k.2 h⟩
/-- three sets together -/
def v3 (a b c i : Nat) : Nat := vo a i + vo b i + vo c i
theorem cT_e {A : Nat → Nat → Bool} {d : Nat → Nat} (hd : le7 d) {k a b c : Nat} : cT A k (e7 d) a b c = if (A (5 - (k + 2)) a = true ∧ A (5 - (k + 1)) b = true ∧ A (5 - k) c = true) ∧ le6 (v3 a b c) d then cW A k (e7 (fun i => d i - v3 a b c i)) else 0 := by
  unfold cT
  by_cases h1 : cO A (5 - (k + 2)) (e7 d) a = true
  · rw [if_pos h1]
    obtain ⟨a1, l1⟩ := (cO_7 hd).mp h1
    rw [nX_7 hd l1]
    have hd1 : le7 (fun i => d i - vo a i) := by
      obtain ⟨d0, d1, d2, d3, d4, d5⟩ := hd
      refine ⟨?_, ?_, ?_, ?_, ?_, ?_⟩ <;> dsimp only <;> omega
    by_cases h2 : cO A (5 - (k + 1)) (e7 (fun i => d i - vo a i)) b = true
    · rw [if_pos h2]
      obtain ⟨a2, l2⟩ := (cO_7 hd1).mp h2
      rw [nX_7 hd1 l2]
      have hd2 : le7 (fun i => d i - vo a i - vo b i) := by
        obtain ⟨d0, d1, d2, d3, d4, d5⟩ := hd
        refine ⟨?_, ?_, ?_, ?_, ?_, ?_⟩ <;> dsimp only <;> omega
      by_cases h3 : cO A (5 - k) (e7 (fun i => d i - vo a i - vo b i)) c = true
      · obtain ⟨a3, l3⟩ := (cO_7 hd2).mp h3
        have l4 : le6 (v3 a b c) d := by
          obtain ⟨x0, x1, x2, x3, x4, x5⟩ := l1
          obtain ⟨y0, y1, y2, y3, y4, y5⟩ := l2
          obtain ⟨z0, z1, z2, z3, z4, z5⟩ := l3
          dsimp only at *
          refine ⟨?_, ?_, ?_, ?_, ?_, ?_⟩ <;> unfold v3 <;> omega
        rw [if_pos h3, nX_7 hd2 l3, if_pos ⟨⟨a1, a2, a3⟩, l4⟩]
        have : (fun i => d i - vo a i - vo b i - vo c i) = (fun i => d i - v3 a b c i) := funext fun i => by unfold v3; omega
        rw [this]
      · rw [if_neg h3, if_neg]
        rintro ⟨⟨-, -, a3⟩, l4⟩
        refine h3 ((cO_7 hd2).mpr ⟨a3, ?_⟩)
        obtain ⟨z0, z1, z2, z3, z4, z5⟩ := l4
        unfold v3 at *
        refine ⟨?_, ?_, ?_, ?_, ?_, ?_⟩ <;> dsimp only <;> omega
    · rw [if_neg h2, if_neg]
      rintro ⟨⟨-, a2, -⟩, l4⟩
      refine h2 ((cO_7 hd1).mpr ⟨a2, ?_⟩)
      obtain ⟨z0, z1, z2, z3, z4, z5⟩ := l4
      unfold v3 at *
      refine ⟨?_, ?_, ?_, ?_, ?_, ?_⟩ <;> dsimp only <;> omega
  · rw [if_neg h1, if_neg]
    rintro ⟨⟨a1, -, -⟩, l4⟩
    refine h1 ((cO_7 hd).mpr ⟨a1, ?_⟩)
    obtain ⟨z0, z1, z2, z3, z4, z5⟩ := l4
    unfold v3 at *
    refine ⟨?_, ?_, ?_, ?_, ?_, ?_⟩ <;> omega
theorem v3_le {a b c i : Nat} : v3 a b c i ≤ 3 := by
  have h1 := @vo_le a i
  have h2 := @vo_le b i
  have h3 := @vo_le c i
  unfold v3; omega
theorem fSp_3 {a b c : Nat} : fSp a + fSp b + fSp c = e4 (v3 a b c) := by
  rw [fSp_e, fSp_e, fSp_e]
  unfold e4 v3
  omega
theorem e4_i {u d : Nat → Nat} (hu : ∀ i, u i ≤ 3) (hd : ∀ i, i < 6 → d i ≤ 3) : e4 u = e4 d ↔ (u 0 = d 0 ∧ u 1 = d 1 ∧ u 2 = d 2 ∧ u 3 = d 3 ∧ u 4 = d 4 ∧ u 5 = d 5) := by
  have u0 := hu 0
  have u1 := hu 1
  have u2 := hu 2
  have u3 := hu 3
  have u4 := hu 4
  have u5 := hu 5
  have d0 := hd 0 (by omega)
  have d1 := hd 1 (by omega)
  have d2 := hd 2 (by omega)
  have d3 := hd 3 (by omega)
  have d4 := hd 4 (by omega)
  have d5 := hd 5 (by omega)
  unfold e4
  omega
/-- the last triple -/
theorem cT_0 {A : Nat → Nat → Bool} {d : Nat → Nat} (hd : le7 d) {a b c : Nat} : cT A 0 (e7 d) a b c = if (A 3 a && A 4 b && A 5 c) = true ∧ (v3 a b c 0 = d 0 ∧ v3 a b c 1 = d 1 ∧ v3 a b c 2 = d 2 ∧ v3 a b c 3 = d 3 ∧ v3 a b c 4 = d 4 ∧ v3 a b c 5 = d 5) then 1 else 0 := by
  rw [cT_e hd]
  by_cases hA : (A 3 a && A 4 b && A 5 c) = true
  · have hA' := hA
    rw [Bool.and_eq_true, Bool.and_eq_true] at hA'
    by_cases l4 : le6 (v3 a b c) d
    · rw [if_pos ⟨⟨hA'.1.1, hA'.1.2, hA'.2⟩, l4⟩, cW]
      dsimp only
      obtain ⟨z0, z1, z2, z3, z4, z5⟩ := l4
      by_cases e : e7 (fun i => d i - v3 a b c i) = 0
      · rw [if_pos e]
        rw [e7_0] at e
        rw [if_pos ⟨hA, by omega⟩]
      · rw [if_neg e, if_neg]
        rintro ⟨-, h⟩
        refine e (e7_0.mpr ?_)
        omega
    · rw [if_neg fun k => l4 k.2, if_neg]
      rintro ⟨-, h0, h1, h2, h3, h4, h5⟩
      exact l4 ⟨by omega, by omega, by omega, by omega, by omega, by omega⟩
  · rw [if_neg, if_neg fun k => hA k.1]
    rintro ⟨⟨k1, k2, k3⟩, -⟩
    exact hA (by rw [k1, k2, k3]; rfl)
theorem fA_S {p q r : Nat → Bool} {s : Nat} : fA p q r s 64 = zuS 64 (fun a => zuS 64 (fun b => zuS 64 (fun c => (p a && q b && r c && decide (fSp a + fSp b + fSp c = s)).toNat))) := by
  have hB : ∀ a k, fB p q r a s k = zuS k (fun b => fC p q r a b s 64) := fun a k => by
    induction k with
    | zero => rfl
    | succ k ih => rw [fB, zuS, ih]
  have hA : ∀ k, fA p q r s k = zuS k (fun a => fB p q r a s 64) := fun k => by
    induction k with
    | zero => rfl
    | succ k ih => rw [fA, zuS, ih]
  rw [hA]
  refine zuS_c 64 fun a _ => ?_
  rw [hB]
  refine zuS_c 64 fun b _ => ?_
  unfold fC
  rw [zuS_sN]
theorem cW_33 {A : Nat → Nat → Bool} {d : Nat → Nat} (hd : le7 d) : cW A 3 (e7 d) = if le6 d (fun _ => 3) then fA (A 3) (A 4) (A 5) (e4 d) 64 else 0 := by
  refine (@cW_3 A 0 (e7 d)).trans ?_
  by_cases h : le6 d (fun _ => 3)
  · rw [if_pos h, fA_S]
    refine zuS_c 64 fun a _ => zuS_c 64 fun b _ => zuS_c 64 fun c _ => ?_
    rw [cT_0 hd, fSp_3]
    have hi := e4_i (u := v3 a b c) (d := d) (fun i => v3_le) (fun i hi => by
      obtain ⟨h0, h1, h2, h3, h4, h5⟩ := h
      obtain rfl | rfl | rfl | rfl | rfl | rfl : i = 0 ∨ i = 1 ∨ i = 2 ∨ i = 3 ∨ i = 4 ∨ i = 5 := by omega
      all_goals omega)
    show _ = (A 3 a && A 4 b && A 5 c && decide (e4 (v3 a b c) = e4 d)).toNat
    by_cases hA : (A 3 a && A 4 b && A 5 c) = true
    · rw [hA, Bool.true_and]
      by_cases e : e4 (v3 a b c) = e4 d
      · rw [if_pos ⟨rfl, hi.mp e⟩, decide_eq_true e]; rfl
      · rw [if_neg fun k => e (hi.mpr k.2), decide_eq_false e]; rfl
    · rw [if_neg fun k => hA k.1, Bool.eq_false_iff.mpr hA]; rfl
  · rw [if_neg h]
    refine Eq.trans ?_ (zuS_z 64)
    refine zuS_c 64 fun a _ => ?_
    refine Eq.trans ?_ (zuS_z 64)
    refine zuS_c 64 fun b _ => ?_
    refine Eq.trans ?_ (zuS_z 64)
    refine zuS_c 64 fun c _ => ?_
    rw [cT_0 hd, if_neg]
    rintro ⟨-, h0, h1, h2, h3, h4, h5⟩
    have l := fun i => @v3_le a b c i
    refine h ⟨?_, ?_, ?_, ?_, ?_, ?_⟩
    · show d 0 ≤ 3
      have := l 0; omega
    · show d 1 ≤ 3
      have := l 1; omega
    · show d 2 ≤ 3
      have := l 2; omega
    · show d 3 ≤ 3
      have := l 3; omega
    · show d 4 ≤ 3
      have := l 4; omega
    · show d 5 ≤ 3
      have := l 5; omega
/-- a row of three sets in the class -/
theorem fDu_s {f : Nat → Int} {t k : Nat} : fDu f t (k + 1) = fDu f t k + (fL f t k).toNat % 4 * 4 ^ k := by
  rw [fDu]
  have h1 := fDu_lt (f := f) (t := t) k
  rw [Nat.or_comm, ← Nat.shiftLeft_add_eq_or_of_lt h1, Nat.shiftLeft_eq, Nat.pow_mul, show (2 : Nat) ^ 2 = 4 from rfl, Nat.add_comm]
theorem dig4 {u : Nat → Nat} (hu : ∀ i, u i ≤ 3) {y : Nat} (hy : y < 6) : e4 u >>> (2 * y) &&& 3 = u y := by
  have u0 := hu 0
  have u1 := hu 1
  have u2 := hu 2
  have u3 := hu 3
  have u4 := hu 4
  have u5 := hu 5
  rw [Nat.shiftRight_eq_div_pow, show (3 : Nat) = 2 ^ 2 - 1 from rfl, Nat.and_two_pow_sub_one_eq_mod]
  unfold e4
  obtain rfl | rfl | rfl | rfl | rfl | rfl : y = 0 ∨ y = 1 ∨ y = 2 ∨ y = 3 ∨ y = 4 ∨ y = 5 := by omega
  all_goals omega
theorem fDu_e {g : Nat → Int} {u d : Nat → Nat} {Z : Nat} (hZ : Z ≤ 6) (hu : ∀ i, u i ≤ 3) (hg : ∀ i, i < Z → g (6 + i) = (u i + d i : Nat)) (hd : ∀ i, i < Z → d i ≤ 3) : ∀ k, k ≤ Z → fDu g (e4 u) k = e4 (fun i => if i < k then d i else 0)
  | 0, _ => rfl
  | k + 1, hk => by
    rw [fDu_s, fDu_e hZ hu hg hd k (by omega)]
    have h1 : (fL g (e4 u) k).toNat % 4 = d k := by
      unfold fL
      rw [dig4 hu (by omega), hg k (by omega)]
      have := hd k (by omega)
      omega
    rw [h1]
    unfold e4
    obtain rfl | rfl | rfl | rfl | rfl | rfl : k = 0 ∨ k = 1 ∨ k = 2 ∨ k = 3 ∨ k = 4 ∨ k = 5 := by omega
    all_goals simp
    all_goals omega
theorem le6_n {u d : Nat → Nat} (h : ¬ le6 u d) : ∃ i, i < 6 ∧ d i < u i := by
  by_cases h0 : d 0 < u 0
  · exact ⟨0, by omega, h0⟩
  · by_cases h1 : d 1 < u 1
    · exact ⟨1, by omega, h1⟩
    · by_cases h2 : d 2 < u 2
      · exact ⟨2, by omega, h2⟩
      · by_cases h3 : d 3 < u 3
        · exact ⟨3, by omega, h3⟩
        · by_cases h4 : d 4 < u 4
          · exact ⟨4, by omega, h4⟩
          · by_cases h5 : d 5 < u 5
            · exact ⟨5, by omega, h5⟩
            · exact absurd ⟨by omega, by omega, by omega, by omega, by omega, by omega⟩ h
/-- the counts by y -/
def dC (g : Nat → Int) (Z i : Nat) : Nat := if i < Z then (g (6 + i)).toNat else 0
section
variable {A : Nat → Nat → Bool} {g : Nat → Int} {Z : Nat}
theorem fW_e (hZ : Z ≤ 6) (hg : ∀ i, i < 6 → 0 ≤ g (6 + i) ∧ g (6 + i) ≤ 6) (hA : ∀ x s, A x s = true → ∀ i, Z ≤ i → vo s i = 0) {j : Nat} : fW (A 0) (A 1) (A 2) (fun t => fDue g t Z) (fun s => fA (A 3) (A 4) (A 5) s 64) j = cT A 3 (e7 (dC g Z)) (j / 4096) (j / 64 % 64) (j % 64) := by
  have hd7 : ∀ i, i < 6 → dC g Z i ≤ 6 := fun i hi => by
    unfold dC; have := hg i hi; split <;> omega
  have hd : le7 (dC g Z) := ⟨hd7 0 (by omega), hd7 1 (by omega), hd7 2 (by omega), hd7 3 (by omega), hd7 4 (by omega), hd7 5 (by omega)⟩
  unfold fW
  rw [cT_e hd]
  generalize j / 4096 = a
  generalize j / 64 % 64 = b
  generalize j % 64 = c
  rw [fSp_3]
  dsimp only
  simp only [show 5 - (3 + 2) = 0 from rfl, show 5 - (3 + 1) = 1 from rfl, show 5 - 3 = 2 from rfl]
  by_cases hAt : (A 0 a && A 1 b && A 2 c) = true
  · rw [if_pos hAt]
    have hA' := hAt
    rw [Bool.and_eq_true, Bool.and_eq_true] at hA'
    obtain ⟨⟨t1, t2⟩, t3⟩ := hA'
    have hz : ∀ i, Z ≤ i → v3 a b c i = 0 := fun i hi => by
      unfold v3; rw [hA 0 a t1 i hi, hA 1 b t2 i hi, hA 2 c t3 i hi]
    have hbad : ∀ i, i < Z → (g (6 + i) < v3 a b c i ∨ (3 : Int) + v3 a b c i < g (6 + i)) → fDue g (e4 (v3 a b c)) Z = -1 := fun i hi h => by
      unfold fDue
      rw [if_pos]
      rw [sOr_iff]
      refine ⟨i, hi, ?_⟩
      unfold fBad fL
      rw [dig4 (fun i => v3_le) (by omega), Bool.or_eq_true, decide_eq_true_eq, decide_eq_true_eq]
      omega
    by_cases hl : le6 (v3 a b c) (dC g Z)
    · rw [if_pos (show (A 0 a = true ∧ A 1 b = true ∧ A 2 c = true) ∧ le6 (v3 a b c) (dC g Z) from ⟨⟨t1, t2, t3⟩, hl⟩)]
      have hd' : le7 (fun i => dC g Z i - v3 a b c i) := by
        obtain ⟨d0, d1, d2, d3, d4, d5⟩ := hd
        refine ⟨?_, ?_, ?_, ?_, ?_, ?_⟩ <;> dsimp only <;> omega
      rw [cW_33 hd']
      have hli : ∀ i, i < 6 → v3 a b c i ≤ dC g Z i := fun i hi => by
        obtain ⟨h0, h1, h2, h3, h4, h5⟩ := hl
        obtain rfl | rfl | rfl | rfl | rfl | rfl : i = 0 ∨ i = 1 ∨ i = 2 ∨ i = 3 ∨ i = 4 ∨ i = 5 := by omega
        all_goals assumption
      by_cases h3 : le6 (fun i => dC g Z i - v3 a b c i) (fun _ => 3)
      · rw [if_pos h3]
        have h3i : ∀ i, i < 6 → dC g Z i - v3 a b c i ≤ 3 := fun i hi => by
          obtain ⟨h0, h1, h2, h3, h4, h5⟩ := h3
          obtain rfl | rfl | rfl | rfl | rfl | rfl : i = 0 ∨ i = 1 ∨ i = 2 ∨ i = 3 ∨ i = 4 ∨ i = 5 := by omega
          all_goals assumption
        have hgi : ∀ i, i < Z → g (6 + i) = (v3 a b c i + (dC g Z i - v3 a b c i) : Nat) := fun i hi => by
          have h1 := hli i (by omega)
          have h2 := hg i (by omega)
          unfold dC at *
          rw [if_pos hi] at *
          omega
        have he : fDue g (e4 (v3 a b c)) Z = ((e4 (fun i => dC g Z i - v3 a b c i) : Nat) : Int) := by
          unfold fDue
          rw [if_neg]
          · rw [fDu_e hZ (fun i => v3_le) hgi (fun i hi => h3i i (by omega)) Z (Nat.le_refl _)]
            have : (fun i => if i < Z then dC g Z i - v3 a b c i else 0) = (fun i => dC g Z i - v3 a b c i) := funext fun i => by
              by_cases hi : i < Z
              · rw [if_pos hi]
              · rw [if_neg hi]; unfold dC; rw [if_neg hi]; omega
            rw [this]
          · rw [sOr_iff]
            rintro ⟨i, hi, hb⟩
            unfold fBad fL at hb
            rw [dig4 (fun i => v3_le) (by omega), Bool.or_eq_true, decide_eq_true_eq, decide_eq_true_eq] at hb
            have := hgi i hi
            have := h3i i (by omega)
            omega
        rw [if_pos (show (0 : Int) ≤ fDue g (e4 (v3 a b c)) Z by rw [he]; omega), he, Int.toNat_natCast]
      · rw [if_neg h3]
        obtain ⟨i, hi, h⟩ := le6_n h3
        have h : 3 < dC g Z i - v3 a b c i := h
        have hiZ : i < Z := by
          by_cases e : i < Z
          · exact e
          · unfold dC at h; rw [if_neg e] at h; omega
        rw [if_neg (show ¬ (0 : Int) ≤ fDue g (e4 (v3 a b c)) Z by rw [hbad i hiZ (by unfold dC at h; rw [if_pos hiZ] at h; omega)]; decide)]
    · rw [if_neg (show ¬ ((A 0 a = true ∧ A 1 b = true ∧ A 2 c = true) ∧ le6 (v3 a b c) (dC g Z)) from fun k => hl k.2)]
      obtain ⟨i, hi, h⟩ := le6_n hl
      have hiZ : i < Z := by
        by_cases e : i < Z
        · exact e
        · have := hz i (by omega); omega
      rw [if_neg (show ¬ (0 : Int) ≤ fDue g (e4 (v3 a b c)) Z by rw [hbad i hiZ (by unfold dC at h; rw [if_pos hiZ] at h; have := hg i hi; omega)]; decide)]
  · rw [if_neg hAt, if_neg]
    rintro ⟨⟨k1, k2, k3⟩, -⟩
    exact hAt (by rw [k1, k2, k3]; rfl)
theorem fW_s (hZ : Z ≤ 6) (hg : ∀ i, i < 6 → 0 ≤ g (6 + i) ∧ g (6 + i) ≤ 6) (hA : ∀ x s, A x s = true → ∀ i, Z ≤ i → vo s i = 0) : zuS 262144 (fW (A 0) (A 1) (A 2) (fun t => fDue g t Z) (fun s => fA (A 3) (A 4) (A 5) s 64)) = cW A 6 (e7 (dC g Z)) := by
  refine Eq.trans ?_ (@cW_3 A 3 (e7 (dC g Z))).symm
  rw [show (262144 : Nat) = 4096 * 64 from rfl, zuS_mul]
  refine zuS_c 64 fun a _ => ?_
  rw [show (4096 : Nat) = 64 * 64 from rfl, zuS_mul]
  refine zuS_c 64 fun b _ => ?_
  refine zuS_c 64 fun c _ => ?_
  rw [fW_e hZ hg hA, show (64 * 64 * a + (64 * b + c)) / 4096 = a by omega, show (64 * 64 * a + (64 * b + c)) / 64 % 64 = b by omega, show (64 * 64 * a + (64 * b + c)) % 64 = c by omega]
end
theorem fWs_s {W : Nat → Nat} {n : Nat} (h : zuS n W ≤ 1000000000) : ∀ k, k ≤ n → fWs W k = zuS k W
  | 0, _ => rfl
  | k + 1, hk => by
    have hm : ∀ a b, zuS a W ≤ zuS (a + b) W := fun a b => by rw [zuS_add]; omega
    have := hm (k + 1) (n - (k + 1))
    rw [show k + 1 + (n - (k + 1)) = n by omega, zuS] at this
    rw [fWs, fWs_s h k (by omega), zuS]
    omega
theorem fM_e {W : Nat → Nat} {N : Nat → (Nat → Int) → Nat → Int} {g : Nat → Int} {j : Nat} (hj : 0 < W j) (hf : ∀ i, i < j → W i = 0) : ∀ n, fM W N g (j + 1 + n) = N j g ∧ 0 < fWs W (j + 1 + n)
  | 0 => by
    obtain ⟨h1, h2⟩ := fWs_skip (W := W) (N := N) (g := g) (u := 0) j fun i _ hi => hf i (by omega)
    rw [Nat.zero_add] at h1 h2
    have h1 : fWs W j = 0 := h1
    have h2 : fM W N g j = g := h2
    rw [Nat.add_zero, fM, if_pos ⟨h1, hj⟩, h2, fWs]
    exact ⟨rfl, by omega⟩
  | n + 1 => by
    obtain ⟨h1, h2⟩ := fM_e (N := N) (g := g) hj hf n
    rw [show j + 1 + (n + 1) = (j + 1 + n) + 1 by omega, fM, if_neg fun k => by omega, fWs]
    exact ⟨h1, by omega⟩
