/-! Sets of cells as layers of 36 bits; counting bits. -/
def bN : Nat → (Nat → Bool) → Nat
  | 0, _ => 0
  | k + 1, f => bN k f ||| ((f k).toNat <<< k)
theorem bN_tb : ∀ (k : Nat) (f : Nat → Bool) (i : Nat), (bN k f).testBit i = (decide (i < k) && f i)
  | 0, f, i => by simp [bN]
  | k + 1, f, i => by
    rw [bN, Nat.testBit_or, bN_tb k f i, Nat.testBit_shiftLeft, Nat.testBit_bool_toNat]
    by_cases h : i = k
    · subst h; simp
    · by_cases h2 : i < k
      · simp [show ¬ k ≤ i by omega, show i < k + 1 by omega, h2]
      · simp [show ¬ i < k by omega, show ¬ i < k + 1 by omega, show ¬ i - k = 0 by omega]
theorem bN_lt (k : Nat) (f : Nat → Bool) : bN k f < 2 ^ k := Nat.lt_pow_two_of_testBit _ (fun i hi => by rw [bN_tb]; simp; omega)
theorem bN_c {k : Nat} {f g : Nat → Bool} (h : ∀ i, i < k → f i = g i) : bN k f = bN k g := by
  induction k with
  | zero => rfl
  | succ k ih => rw [bN, bN, ih (fun i hi => h i (by omega)), h k (by omega)]
/-- how many of the first k are so -/
def sN : Nat → (Nat → Bool) → Nat
  | 0, _ => 0
  | k + 1, f => sN k f + (f k).toNat
theorem sN_c {k : Nat} {f g : Nat → Bool} (h : ∀ i, i < k → f i = g i) : sN k f = sN k g := by
  induction k with
  | zero => rfl
  | succ k ih => rw [sN, sN, ih (fun i hi => h i (by omega)), h k (by omega)]
theorem sN_le (k : Nat) (f : Nat → Bool) : sN k f ≤ k := by
  induction k with
  | zero => exact Nat.le_refl _
  | succ k ih => rw [sN]; have := Bool.toNat_le (f k); omega
theorem sN_add (a b : Nat) (f : Nat → Bool) : sN (a + b) f = sN a f + sN b (fun i => f (a + i)) := by
  induction b with
  | zero => rfl
  | succ b ih => rw [← Nat.add_assoc, sN, sN, ih]; omega
theorem sN_0 {k : Nat} {f : Nat → Bool} : sN k f = 0 ↔ ∀ i, i < k → f i = false := by
  induction k with
  | zero => simp [sN]
  | succ k ih =>
    rw [sN, Nat.add_eq_zero_iff, ih]
    constructor
    · rintro ⟨h1, h2⟩ i hi
      by_cases h : i = k
      · subst h; cases hf : f i <;> simp_all
      · exact h1 i (by omega)
    · intro h
      exact ⟨fun i hi => h i (by omega), by rw [h k (by omega)]; rfl⟩
theorem sN_mono {k : Nat} {f g : Nat → Bool} (h : ∀ i, i < k → f i = true → g i = true) : sN k f ≤ sN k g := by
  induction k with
  | zero => exact Nat.le_refl _
  | succ k ih =>
    have h1 := ih (fun i hi => h i (by omega))
    have h2 := h k (by omega)
    rw [sN, sN]
    cases hf : f k <;> cases hg : g k <;> simp_all <;> omega
theorem sN_lt {k : Nat} {f g : Nat → Bool} (h : ∀ i, i < k → f i = true → g i = true) {j : Nat} (hj : j < k) (h1 : f j = false) (h2 : g j = true) : sN k f < sN k g := by
  induction k with
  | zero => omega
  | succ k ih =>
    rw [sN, sN]
    by_cases e : j = k
    · subst e
      have := sN_mono (f := f) (g := g) (k := j) (fun i hi => h i (by omega))
      rw [h1, h2]; simp; omega
    · have h3 := ih (fun i hi => h i (by omega)) (by omega)
      have h4 := h k (by omega)
      cases hf : f k <;> cases hg : g k <;> simp_all <;> omega
-- counting bits as the JDK does
theorem ad256 {a b c d : Nat} (ha : a < 256) (hc : c < 256) : (a + 256 * b) &&& (c + 256 * d) = (a &&& c) + 256 * (b &&& d) := by
  have h1 : ((a + 256 * b) &&& (c + 256 * d)) % 2 ^ 8 = (a &&& c) % 2 ^ 8 := by
    rw [Nat.and_mod_two_pow, Nat.and_mod_two_pow]
    congr 1 <;> omega
  have h2 : ((a + 256 * b) &&& (c + 256 * d)) / 2 ^ 8 = b &&& d := by
    rw [Nat.and_div_two_pow]
    congr 1 <;> omega
  have h3 : a &&& c ≤ a := Nat.and_le_left
  omega
def pm (c : Nat) : Nat → Nat
  | 0 => 0
  | k + 1 => c + 256 * pm c k
def pA (k x : Nat) : Nat := x - ((x / 2) &&& pm 0x55 k)
def pB (k x : Nat) : Nat := (pA k x &&& pm 0x33 k) + ((pA k x / 4) &&& pm 0x33 k)
def pC (k x : Nat) : Nat := (pB k x + pB k x / 16) &&& pm 0x0f k
def qA (r : Nat) : Nat := r - ((r / 2) &&& 0x55)
def qB (r : Nat) : Nat := (qA r &&& 0x33) + ((qA r / 4) &&& 0x33)
def qC (r : Nat) : Nat := (qB r + qB r / 16) &&& 0x0f
theorem q_1 : ∀ r, r < 256 → ∀ e, e < 2 → (r / 2 + 128 * e) &&& 0x55 = (r / 2) &&& 0x55 := by decide +kernel
theorem q_2 : ∀ r, r < 256 → ∀ e, e < 4 → (r / 4 + 64 * e) &&& 0x33 = (r / 4) &&& 0x33 := by decide +kernel
theorem q_3 : ∀ r, r < 256 → qA r < 256 ∧ qB r < 256 ∧ qB r % 16 ≤ 4 ∧ qB r / 16 ≤ 4 := by decide +kernel
theorem q_4 : ∀ r, r < 69 → ∀ e, e < 5 → (r + r / 16 + 16 * e) &&& 0x0f = (r + r / 16) &&& 0x0f := by decide +kernel
theorem q_5 : ∀ r, r < 256 → qC r = sN 8 (fun i => r.testBit i) := by decide +kernel
theorem pA_s {k r y : Nat} (hr : r < 256) : pA (k + 1) (r + 256 * y) = qA r + 256 * pA k y := by
  unfold pA qA
  have e : (r + 256 * y) / 2 = (r / 2 + 128 * (y % 2)) + 256 * (y / 2) := by omega
  rw [e, pm, ad256 (by omega) (by omega), q_1 r hr _ (by omega)]
  have h1 : (r / 2) &&& 0x55 ≤ r / 2 := Nat.and_le_left
  have h2 : (y / 2) &&& pm 0x55 k ≤ y / 2 := Nat.and_le_left
  omega
theorem pB_s {k r y : Nat} (hr : r < 256) : pB (k + 1) (r + 256 * y) = qB r + 256 * pB k y := by
  unfold pB qB
  rw [pA_s hr]
  have hq := (q_3 r hr).1
  have e : (qA r + 256 * pA k y) / 4 = (qA r / 4 + 64 * (pA k y % 4)) + 256 * (pA k y / 4) := by omega
  rw [e, pm, ad256 hq (by omega), ad256 (by omega) (by omega), q_2 _ hq _ (by omega)]
  omega
theorem pB_0 (k : Nat) : pB k 0 = 0 := by simp [pB, pA]
theorem pB_4 : ∀ (k y : Nat), y < 256 ^ k → pB k y % 16 ≤ 4
  | 0, y, h => by
    have : y = 0 := by simpa using h
    subst this; rw [pB_0]; omega
  | k + 1, y, h => by
    have e : y = y % 256 + 256 * (y / 256) := by omega
    rw [e, pB_s (by omega)]
    have := (q_3 (y % 256) (by omega)).2.2.1
    omega
theorem pC_s {k r y : Nat} (hr : r < 256) (hy : y < 256 ^ k) : pC (k + 1) (r + 256 * y) = qC r + 256 * pC k y := by
  unfold pC qC
  rw [pB_s hr]
  have hq := q_3 r hr
  have h4 := pB_4 k y hy
  have e : qB r + 256 * pB k y + (qB r + 256 * pB k y) / 16 = (qB r + qB r / 16 + 16 * (pB k y % 16)) + 256 * (pB k y + pB k y / 16) := by omega
  rw [e, pm, ad256 (by omega) (by omega), q_4 _ (by omega) _ (by omega)]
theorem pC_0 (k : Nat) : pC k 0 = 0 := by simp [pC, pB_0]
theorem sN_tb8 (k x : Nat) : sN (8 + k) (fun i => x.testBit i) = qC (x % 256) + sN k (fun i => (x / 256).testBit i) := by
  rw [sN_add, q_5 _ (by omega)]
  congr 1
  · exact sN_c fun i hi => by rw [show (256 : Nat) = 2 ^ 8 by rfl, Nat.testBit_mod_two_pow]; simp [hi]
  · exact sN_c fun i hi => by rw [Nat.add_comm, Nat.testBit_add]
theorem pC_all {x : Nat} (hx : x < 2 ^ 40) : ∃ g0 g1 g2 g3 g4 : Nat, g0 ≤ 8 ∧ g1 ≤ 8 ∧ g2 ≤ 8 ∧ g3 ≤ 8 ∧ g4 ≤ 8 ∧ pC 8 x = g0 + 256 * (g1 + 256 * (g2 + 256 * (g3 + 256 * g4))) ∧ sN 40 (fun i => x.testBit i) = g0 + (g1 + (g2 + (g3 + g4))) := by
  have b : ∀ r, r < 256 → qC r ≤ 8 := fun r hr => by rw [q_5 r hr]; exact sN_le _ _
  refine ⟨qC (x % 256), qC (x / 256 % 256), qC (x / 256 / 256 % 256), qC (x / 256 / 256 / 256 % 256), qC (x / 256 / 256 / 256 / 256 % 256), b _ (by omega), b _ (by omega), b _ (by omega), b _ (by omega), b _ (by omega), ?_, ?_⟩
  · have s1 : ∀ (k y : Nat), y < 256 ^ (k + 1) → pC (k + 1) y = qC (y % 256) + 256 * pC k (y / 256) := fun k y hy => by
      have e : y = y % 256 + 256 * (y / 256) := by omega
      rw [Nat.pow_succ] at hy
      have h := pC_s (k := k) (r := y % 256) (y := y / 256) (by omega) (by omega)
      rw [← e] at h
      exact h
    rw [s1 7 x (by omega), s1 6 _ (by omega), s1 5 _ (by omega), s1 4 _ (by omega), s1 3 _ (by omega)]
    rw [show x / 256 / 256 / 256 / 256 / 256 = 0 by omega, pC_0]
    omega
  · rw [show (40 : Nat) = 8 + 32 from rfl, sN_tb8, show (32 : Nat) = 8 + 24 from rfl, sN_tb8, show (24 : Nat) = 8 + 16 from rfl, sN_tb8, show (16 : Nat) = 8 + 8 from rfl, sN_tb8, show (8 : Nat) = 8 + 0 from rfl, sN_tb8]
    simp [sN]
theorem vi_and64n {x y : Nat} (hx : x < 9223372036854775808) : vi_and64 (x : Int) (y : Int) = ((x &&& y : Nat) : Int) := by
  unfold vi_and64
  rw [BitVec.ofInt_natCast, BitVec.ofInt_natCast]
  rw [show BitVec.ofNat 64 x &&& BitVec.ofNat 64 y = BitVec.ofNat 64 (x &&& y) by
    apply BitVec.eq_of_toNat_eq
    simp [Nat.and_mod_two_pow (n := 64)]]
  exact vi_n64 (Nat.lt_of_le_of_lt Nat.and_le_left hx)
theorem vi_ushr64n {x n : Nat} (hx : x < 9223372036854775808) (hn : n < 64) : vi_ushr64 (x : Int) (n : Int) = ((x / 2 ^ n : Nat) : Int) := by
  unfold vi_ushr64
  rw [show ((n : Int) % 64).toNat = n by omega, show (x : Int) % 18446744073709551616 = (x : Int) by omega]
  have h3 : x / 2 ^ n ≤ x := Nat.div_le_self _ _
  rw [show (x : Int) / 2 ^ n = ((x / 2 ^ n : Nat) : Int) by norm_cast]
  generalize x / 2 ^ n = t at *
  exact vi_64 (by omega) (by omega)
/-- a row of 36 cells as the class keeps it, of which z is the layer -/
def cL (S : Nat → Bool) (z : Nat) : BitVec 64 := BitVec.ofNat 64 (bN 36 (fun i => S (36 * z + i)))
theorem cL_b (S : Nat → Bool) (z i : Nat) : (cL S z).getLsbD i = (decide (i < 36) && S (36 * z + i)) := by
  rw [cL, BitVec.getLsbD_ofNat, bN_tb]
  by_cases h : i < 36
  · simp [h, show i < 64 by omega]
  · simp [h]
theorem cL_x {L : BitVec 64} {S : Nat → Bool} {z : Nat} (h : ∀ i, i < 64 → L.getLsbD i = (decide (i < 36) && S (36 * z + i))) : L = cL S z := by
  apply BitVec.eq_of_getLsbD_eq
  intro i hi
  rw [h i hi, cL_b]
theorem cL_c {S T : Nat → Bool} {z : Nat} (h : ∀ i, i < 36 → S (36 * z + i) = T (36 * z + i)) : cL S z = cL T z := by
  unfold cL
  rw [bN_c h]
theorem cL_i (S : Nat → Bool) (z : Nat) : (cL S z).toInt = ((bN 36 (fun i => S (36 * z + i)) : Nat) : Int) := vi_n64 (by have := bN_lt 36 (fun i => S (36 * z + i)); omega)
theorem cL_0 {S : Nat → Bool} {z : Nat} : cL S z = 0#64 ↔ ∀ i, i < 36 → S (36 * z + i) = false := by
  constructor
  · intro h i hi
    have := cL_b S z i
    rw [h] at this
    simpa [hi] using this.symm
  · intro h
    symm
    apply cL_x
    intro i _
    by_cases hi : i < 36
    · simp [h i hi]
    · simp [hi]
theorem cL_inj0 {S : Nat → Bool} {z : Nat} : (cL S z).toInt = 0 ↔ ∀ i, i < 36 → S (36 * z + i) = false := by
  rw [← cL_0]
  constructor
  · intro h
    have : (cL S z).toInt = (0#64).toInt := by rw [h]; rfl
    exact BitVec.toInt_inj.mp this
  · intro h; rw [h]; rfl
def cR (S : Nat → Bool) : Nat → Int := fun z => if z < 6 then (cL S z).toInt else 0
theorem cR_c {S T : Nat → Bool} (h : ∀ i, i < 216 → S i = T i) : cR S = cR T := by
  funext z
  unfold cR
  by_cases hz : z < 6
  · rw [if_pos hz, if_pos hz, cL_c (fun i hi => h _ (by omega))]
  · rw [if_neg hz, if_neg hz]
theorem cR_inj {S T : Nat → Bool} (h : cR S = cR T) : ∀ i, i < 216 → S i = T i := by
  intro i hi
  have h1 := congrFun h (i / 36)
  unfold cR at h1
  rw [if_pos (by omega), if_pos (by omega)] at h1
  have h2 := BitVec.toInt_inj.mp h1
  have h3 := congrArg (fun L => L.getLsbD (i % 36)) h2
  simp only [cL_b] at h3
  rw [show 36 * (i / 36) + i % 36 = i by omega] at h3
  simpa [show i % 36 < 36 by omega] using h3
def cZ (S : Nat → Bool) (x : Int) : BitVec 64 := if 0 ≤ x ∧ x < 6 then cL S x.toNat else 0#64
theorem cZ_n (S : Nat → Bool) {z : Nat} (h : z < 6) : cZ S (z : Int) = cL S z := by
  unfold cZ
  rw [if_pos (by omega)]
  rfl
theorem cR_n {S : Nat → Bool} {z : Nat} (h : z < 6) : cR S z = (cL S z).toInt := if_pos h
theorem cR_o {S : Nat → Bool} {z : Nat} (h : 6 ≤ z) : cR S z = 0 := if_neg (by omega)
theorem cR_0 : cR (fun _ => false) = fun _ => 0 := by
  funext z
  unfold cR
  split
  · rw [cL_inj0.mpr (fun _ _ => rfl)]
  · rfl
/-- rows half laid anew -/
def vi_m (z : Nat) (f g : Nat → Int) : Nat → Int := fun j => if j < z then f j else g j
theorem vi_m_0 {f g : Nat → Int} : vi_m 0 f g = g := by funext j; simp [vi_m]
theorem vi_m_s {z : Nat} {f g : Nat → Int} {v : Int} (h : v = f z) : vi_u (vi_m z f g) z v = vi_m (z + 1) f g := by
  funext j
  unfold vi_u vi_m
  by_cases h1 : j = z
  · subst h1; simp [h]
  · by_cases h2 : j < z
    · simp [h1, h2, show j < z + 1 by omega]
    · simp [h1, h2, show ¬ j < z + 1 by omega]
theorem vi_m_lt {z j : Nat} {f g : Nat → Int} (h : j < z) : vi_m z f g j = f j := if_pos h
theorem vi_m_ge {z j : Nat} {f g : Nat → Int} (h : z ≤ j) : vi_m z f g j = g j := if_neg (by omega)
theorem vi_m_all {z : Nat} {f g : Nat → Int} (h : ∀ j, z ≤ j → f j = g j) : vi_m z f g = f := by
  funext j
  unfold vi_m
  split
  · rfl
  · exact (h j (by omega)).symm
theorem cR_m {S : Nat → Bool} {f : Nat → Int} (h : ∀ j, 6 ≤ j → f j = 0) : vi_m 6 (cR S) f = cR S := vi_m_all (fun j hj => by rw [cR_o hj, h j hj])
theorem vi_inc {z : Nat} (h : z < 2147483647) : vi_w32 ((z : Int) + 1) = ((z + 1 : Nat) : Int) := by rw [vi_32 (by omega) (by omega)]; omega
-- neighbours
def sXl (S : Nat → Bool) : Nat → Bool := fun c => decide (c % 6 ≠ 0) && S (c - 1)
def sXh (S : Nat → Bool) : Nat → Bool := fun c => decide (c % 6 ≠ 5) && S (c + 1)
def sYl (S : Nat → Bool) : Nat → Bool := fun c => decide (c / 6 % 6 ≠ 0) && S (c - 6)
def sYh (S : Nat → Bool) : Nat → Bool := fun c => decide (c / 6 % 6 ≠ 5) && S (c + 6)
def sZl (S : Nat → Bool) : Nat → Bool := fun c => decide (c / 36 ≠ 0) && S (c - 36)
def sZh (S : Nat → Bool) : Nat → Bool := fun c => decide (c / 36 ≠ 5) && S (c + 36)
theorem k_xl : ∀ j, j < 36 → (BitVec.ofInt 64 (-34905131041)).getLsbD j = decide (j % 6 ≠ 5) := by decide +kernel
theorem k_xh : ∀ j, j < 36 → (BitVec.ofInt 64 (-1090785346)).getLsbD j = decide (j % 6 ≠ 0) := by decide +kernel
theorem k_ly : ∀ j, j < 64 → (BitVec.ofInt 64 68719476735).getLsbD j = decide (j < 36) := by decide +kernel
theorem cL_xl (S : Nat → Bool) (z : Nat) : (cL S z &&& BitVec.ofInt 64 (-34905131041)) <<< 1 = cL (sXl S) z := by
  apply cL_x
  intro i hi
  rw [BitVec.getLsbD_shiftLeft, BitVec.getLsbD_and, cL_b]
  by_cases h0 : i < 1
  · have : i = 0 := by omega
    subst this
    simp [sXl]; omega
  · by_cases h1 : i - 1 < 36
    · rw [k_xl _ h1]
      by_cases h2 : i < 36
      · simp only [h0, h1, h2, hi, sXl, show 36 * z + i - 1 = 36 * z + (i - 1) by omega, show ((i - 1) % 6 ≠ 5) = ((36 * z + i) % 6 ≠ 0) by apply propext; omega]
        simp [Bool.and_comm]
      · simp [h2, show i - 1 = 35 by omega]
    · simp [h1, show ¬ i < 36 by omega]
theorem cL_xh (S : Nat → Bool) (z : Nat) : (cL S z &&& BitVec.ofInt 64 (-1090785346)) >>> 1 = cL (sXh S) z := by
  apply cL_x
  intro i hi
  rw [BitVec.getLsbD_ushiftRight, BitVec.getLsbD_and, cL_b]
  by_cases h1 : 1 + i < 36
  · rw [k_xh _ (by omega)]
    simp only [h1, show i < 36 by omega, sXh, show 36 * z + (1 + i) = 36 * z + i + 1 by omega, show ((1 + i) % 6 ≠ 0) = ((36 * z + i) % 6 ≠ 5) by apply propext; omega]
    simp [Bool.and_comm]
  · by_cases h2 : i < 36
    · simp [h1, h2, sXh]; omega
    · simp [h1, h2]
theorem cL_yl (S : Nat → Bool) (z : Nat) : (cL S z <<< 6) &&& BitVec.ofInt 64 68719476735 = cL (sYl S) z := by
  apply cL_x
  intro i hi
  rw [BitVec.getLsbD_and, BitVec.getLsbD_shiftLeft, cL_b, k_ly _ hi]
  by_cases h2 : i < 36
  · by_cases h0 : i < 6
    · simp [h0, h2, sYl]; omega
    · simp only [h0, h2, hi, sYl, show i - 6 < 36 by omega, show 36 * z + i - 6 = 36 * z + (i - 6) by omega, show ((36 * z + i) / 6 % 6 ≠ 0) = True by apply propext; simp; omega]
      simp
  · simp [h2]
theorem cL_yh (S : Nat → Bool) (z : Nat) : cL S z >>> 6 = cL (sYh S) z := by
  apply cL_x
  intro i hi
  rw [BitVec.getLsbD_ushiftRight, cL_b]
  by_cases h1 : 6 + i < 36
  · simp only [h1, show i < 36 by omega, sYh, show 36 * z + (6 + i) = 36 * z + i + 6 by omega, show ((36 * z + i) / 6 % 6 ≠ 5) = True by apply propext; simp; omega]
    simp
  · by_cases h2 : i < 36
    · simp [h1, h2, sYh]; omega
    · simp [h1, h2]
theorem cZ_l (S : Nat → Bool) {z : Nat} (hz : z < 6) : cZ S ((z : Int) - 1) = cL (sZl S) z := by
  apply cL_x
  intro i hi
  unfold cZ
  by_cases h : z = 0
  · subst h
    simp [sZl]; omega
  · rw [if_pos (by omega), cL_b]
    by_cases h2 : i < 36
    · simp only [h2, sZl, show ((z : Int) - 1).toNat = z - 1 by omega, show 36 * z + i - 36 = 36 * (z - 1) + i by omega, show ((36 * z + i) / 36 ≠ 0) = True by apply propext; simp; omega]
      simp
    · simp [h2]
theorem cZ_h (S : Nat → Bool) {z : Nat} (hz : z < 6) : cZ S ((z : Int) + 1) = cL (sZh S) z := by
  apply cL_x
  intro i hi
  unfold cZ
  by_cases h : z = 5
  · subst h
    simp [sZh]; omega
  · rw [if_pos (by omega), cL_b]
    by_cases h2 : i < 36
    · simp only [h2, sZh, show ((z : Int) + 1).toNat = z + 1 by omega, show 36 * z + i + 36 = 36 * (z + 1) + i by omega, show ((36 * z + i) / 36 ≠ 5) = True by apply propext; simp; omega]
      simp
    · simp [h2]
theorem cL_and (S T : Nat → Bool) (z : Nat) : cL S z &&& cL T z = cL (fun c => S c && T c) z := by
  apply cL_x
  intro i hi
  rw [BitVec.getLsbD_and, cL_b, cL_b]
  cases decide (i < 36) <;> simp
theorem cL_or (S T : Nat → Bool) (z : Nat) : cL S z ||| cL T z = cL (fun c => S c || T c) z := by
  apply cL_x
  intro i hi
  rw [BitVec.getLsbD_or, cL_b, cL_b]
  cases decide (i < 36) <;> simp
theorem cL_dif (S T : Nat → Bool) (z : Nat) : cL S z &&& (cL T z ^^^ BitVec.ofInt 64 (-1)) = cL (fun c => S c && ! T c) z := by
  apply cL_x
  intro i hi
  rw [BitVec.getLsbD_and, BitVec.getLsbD_xor, cL_b, cL_b, show BitVec.ofInt 64 (-1) = BitVec.allOnes 64 by decide, BitVec.getLsbD_allOnes]
  by_cases h : i < 36 <;> simp [h, hi]
/-- as ints -/
theorem vi_i64 (x : Int) (h0 : -9223372036854775808 ≤ x) (h1 : x < 9223372036854775808) : x = (BitVec.ofInt 64 x).toInt := by rw [← vi_64mod, vi_64 h0 h1]
