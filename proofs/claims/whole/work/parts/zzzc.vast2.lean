/-! Pairs: vast, put together. -/
theorem mOn_t {f : Nat → Int} {a u v : Int} : ∀ k h : Nat, mOn f a u v k h = true ↔ ∃ j, h ≤ j ∧ j < h + k ∧ f (6 * j) = a ∧ f (6 * j + 1) = u ∧ f (6 * j + 2) = v
  | 0, h => by
    rw [mOn]
    exact ⟨fun k => (by cases k), fun ⟨j, h1, h2, _⟩ => absurd h2 (by omega)⟩
  | k + 1, h => by
    rw [mOn]
    by_cases e : f (6 * h) = a ∧ f (6 * h + 1) = u ∧ f (6 * h + 2) = v
    · rw [if_pos e]
      exact ⟨fun _ => ⟨h, Nat.le_refl _, by omega, e⟩, fun _ => rfl⟩
    · rw [if_neg e, mOn_t k (h + 1)]
      constructor
      · rintro ⟨j, h1, h2, h3⟩
        exact ⟨j, by omega, by omega, h3⟩
      · rintro ⟨j, h1, h2, h3⟩
        by_cases ej : j = h
        · subst ej; exact absurd h3 e
        · exact ⟨j, by omega, by omega, h3⟩
def enL (L : List (Nat → Int)) (i : Nat) : Nat := 36 * (rL L i 0).toNat + (6 * (rL L i 1).toNat + (rL L i 2).toNat)
def inL (x y z : Nat) (l : Nat) : Bool := decide (((l / 6 % 6 : Nat) : Int) < gU (x : Int) (y : Int) (z : Int) ((l / 36 : Nat) : Int) ∧ ((l % 6 : Nat) : Int) < gV (x : Int) (y : Int) (z : Int) ((l / 36 : Nat) : Int))
section
variable {L : List (Nat → Int)} {x y z : Nat} {f : Nat → Int}
theorem enL_b (hg : ∀ r, r < L.length → gH (rL L r)) {i : Nat} (hi : i < L.length) : enL L i < 108 ∧ rL L i 0 = ((enL L i / 36 : Nat) : Int) ∧ rL L i 1 = ((enL L i / 6 % 6 : Nat) : Int) ∧ rL L i 2 = ((enL L i % 6 : Nat) : Int) := by
  obtain ⟨h0, h1, h2, -⟩ := hg i hi
  unfold enL
  generalize rL L i 0 = a at *
  generalize rL L i 1 = u at *
  generalize rL L i 2 = v at *
  omega
theorem fLn_e (hg : ∀ r, r < L.length → gH (rL L r)) {i : Nat} (hi : i < L.length) : fLn L (x : Int) (y : Int) (z : Int) i = gdL (inL x y z) (enL L) i := by
  obtain ⟨-, e0, e1, e2⟩ := enL_b hg hi
  unfold fLn gdL inL
  rw [e0, e1, e2]
  congr 2
  have : ∀ k, k ≤ i → sOr k (fun o => decide (rL L o 0 = ((enL L i / 36 : Nat) : Int) ∧ rL L o 1 = ((enL L i / 6 % 6 : Nat) : Int) ∧ rL L o 2 = ((enL L i % 6 : Nat) : Int))) = sOr k (fun o => decide (enL L o = enL L i)) := fun k => by
    induction k with
    | zero => intro _; rfl
    | succ k ih =>
      intro hk
      obtain ⟨-, k0, k1, k2⟩ := enL_b hg (show k < L.length by omega)
      rw [sOr, sOr, ih (by omega), k0, k1, k2]
      congr 1
      rw [decide_eq_decide]
      omega
  exact this i (Nat.le_refl _)
theorem fCr_e (hg : ∀ r, r < L.length → gH (rL L r)) {i j : Nat} (hi : i < L.length) (hj : j < L.length) : fCr L i j = crN (enL L i) (enL L j) := by
  obtain ⟨b0, e0, e1, e2⟩ := enL_b hg hi
  obtain ⟨b1, k0, k1, k2⟩ := enL_b hg hj
  unfold fCr crN fPo
  rw [e0, e1, e2, k0, k1, k2]
  generalize enL L i = l at *
  generalize enL L j = m at *
  by_cases e : l / 36 = m / 36
  · rw [decide_eq_false (show ¬ ((l / 36 : Nat) : Int) ≠ ((m / 36 : Nat) : Int) by omega), decide_eq_false (show ¬ l / 36 ≠ m / 36 by omega)]; rfl
  · rw [decide_eq_true (show ((l / 36 : Nat) : Int) ≠ ((m / 36 : Nat) : Int) by omega), decide_eq_true (show l / 36 ≠ m / 36 by omega), Bool.true_and, Bool.true_and]
    have po : ∀ q b : Nat, (if (b : Int) = (if ((q / 36 : Nat) : Int) = 0 then 1 else 0) then ((q / 6 % 6 : Nat) : Int) else ((q % 6 : Nat) : Int)) = ((poN q b : Nat) : Int) := fun q b => by
      unfold poN
      by_cases h : q / 36 = 0
      · rw [if_pos (show ((q / 36 : Nat) : Int) = 0 by omega), if_pos h]
        by_cases h2 : b = 1
        · rw [if_pos (by omega), if_pos h2]
        · rw [if_neg (by omega), if_neg h2]
      · rw [if_neg (show ¬ ((q / 36 : Nat) : Int) = 0 by omega), if_neg h]
        by_cases h2 : b = 0
        · rw [if_pos (by omega), if_pos h2]
        · rw [if_neg (by omega), if_neg h2]
    rw [show (3 : Int) - ((l / 36 : Nat) : Int) - ((m / 36 : Nat) : Int) = ((3 - l / 36 - m / 36 : Nat) : Int) by omega, po, po, decide_eq_decide]
    omega
def cLn (L : List (Nat → Int)) (x y z i j : Nat) : Nat := if i < j then (gdL (inL x y z) (enL L) j).toNat * (crN (enL L i) (enL L j)).toNat else 0
def bLn (L : List (Nat → Int)) (x y z i j : Nat) : Nat := zuS L.length (fun k => if j < k then (gdL (inL x y z) (enL L) k).toNat * ((crN (enL L i) (enL L k)).toNat * (crN (enL L j) (enL L k)).toNat) else 0)
theorem fCb_e (hg : ∀ r, r < L.length → gH (rL L r)) {i j : Nat} (hi : i < L.length) (hj : j < L.length) : fCb L (x : Int) (y : Int) (z : Int) i j L.length = bLn L x y z i j := by
  unfold fCb bLn
  rw [zuS_sN]
  refine zuS_c _ fun k hk => ?_
  rw [fLn_e hg hk, fCr_e hg hi hk, fCr_e hg hj hk]
  by_cases e : j < k
  · rw [decide_eq_true e, if_pos e]
    cases gdL (inL x y z) (enL L) k <;> cases crN (enL L i) (enL L k) <;> cases crN (enL L j) (enL L k) <;> rfl
  · rw [decide_eq_false e, if_neg e]; rfl
theorem fTj_e (hg : ∀ r, r < L.length → gH (rL L r)) {i : Nat} (hi : i < L.length) : ∀ k, k ≤ L.length → fTj L (x : Int) (y : Int) (z : Int) i k + ((zuS k (fun j => cLn L x y z i j) : Nat) : Int) = ((zuS k (fun j => cLn L x y z i j * bLn L x y z i j) : Nat) : Int)
  | 0, _ => rfl
  | k + 1, hk => by
    have ih := fTj_e hg hi k (by omega)
    rw [fTj, zuS, zuS, fCb_e hg hi (by omega), fLn_e hg (by omega), fCr_e hg hi (by omega)]
    have : (if i < k ∧ gdL (inL x y z) (enL L) k = true ∧ crN (enL L i) (enL L k) = true then ((bLn L x y z i k : Nat) : Int) - 1 else 0) + ((cLn L x y z i k : Nat) : Int) = ((cLn L x y z i k * bLn L x y z i k : Nat) : Int) := by
      unfold cLn
      by_cases e : i < k
      · rw [if_pos e]
        cases e1 : gdL (inL x y z) (enL L) k
        · rw [if_neg (fun h => by cases h.2.1)]
          simp
        · cases e2 : crN (enL L i) (enL L k)
          · rw [if_neg (fun h => by cases h.2.2)]
            simp
          · rw [if_pos ⟨e, rfl, rfl⟩]
            simp
      · rw [if_neg e, if_neg fun h => e h.1]
        simp
    omega
def szN (x y z l : Nat) : Nat := if l / 36 = 0 then x else if l / 36 = 1 then y else z
theorem fT_e (hg : ∀ r, r < L.length → gH (rL L r)) : ∀ k, k ≤ L.length → fT L (x : Int) (y : Int) (z : Int) k + ((zuS k (fun i => (gdL (inL x y z) (enL L) i).toNat * zuS L.length (fun j => cLn L x y z i j)) : Nat) : Int) = ((zuS k (fun i => (gdL (inL x y z) (enL L) i).toNat * szN x y z (enL L i)) : Nat) : Int) + ((zuS k (fun i => (gdL (inL x y z) (enL L) i).toNat * zuS L.length (fun j => cLn L x y z i j * bLn L x y z i j)) : Nat) : Int)
  | 0, _ => rfl
  | k + 1, hk => by
    have ih := fT_e hg k (by omega)
    have hj := fTj_e (x := x) (y := y) (z := z) hg (show k < L.length by omega) L.length (Nat.le_refl _)
    have hs : gSz (x : Int) (y : Int) (z : Int) (rL L k 0) = ((szN x y z (enL L k) : Nat) : Int) := by
      rw [(enL_b hg (show k < L.length by omega)).2.1]
      unfold gSz szN
      generalize enL L k / 36 = q
      by_cases h0 : q = 0
      · rw [if_pos (by omega), if_pos h0]
      · rw [if_neg (by omega), if_neg h0]
        by_cases h1 : q = 1
        · rw [if_pos (by omega), if_pos h1]
        · rw [if_neg (by omega), if_neg h1]
    rw [fT, zuS, zuS, zuS, fLn_e hg (by omega), hs]
    cases e : gdL (inL x y z) (enL L) k
    · rw [if_neg (by decide), Bool.toNat_false, Nat.zero_mul, Nat.zero_mul, Nat.zero_mul]
      omega
    · rw [if_pos rfl, Bool.toNat_true, Nat.one_mul, Nat.one_mul, Nat.one_mul]
      omega
theorem fT_n (hg : ∀ r, r < L.length → gH (rL L r)) : fT L (x : Int) (y : Int) (z : Int) L.length + ((p01 (inL x y z) (enL L) L.length + p02 (inL x y z) (enL L) L.length + p12 (inL x y z) (enL L) L.length : Nat) : Int) = ((zuS L.length (fun i => (gdL (inL x y z) (enL L) i).toNat * szN x y z (enL L i)) : Nat) : Int) + ((t012 (inL x y z) (enL L) L.length : Nat) : Int) := by
  have he : ∀ i, i < L.length → enL L i < 108 := fun i hi => (enL_b hg hi).1
  have hP : zuS L.length (fun i => (gdL (inL x y z) (enL L) i).toNat * zuS L.length (fun j => cLn L x y z i j)) = p01 (inL x y z) (enL L) L.length + p02 (inL x y z) (enL L) L.length + p12 (inL x y z) (enL L) L.length := by
    rw [← P_eq he]
    refine zuS_c _ fun i _ => ?_
    rw [zuS_ml]
    refine zuS_c _ fun j _ => ?_
    dsimp only
    unfold cLn w2
    split
    · rfl
    · rw [Nat.mul_zero]
  have hT : zuS L.length (fun i => (gdL (inL x y z) (enL L) i).toNat * zuS L.length (fun j => cLn L x y z i j * bLn L x y z i j)) = t012 (inL x y z) (enL L) L.length := by
    rw [← T_eq he]
    refine zuS_c _ fun i _ => ?_
    rw [zuS_ml]
    refine zuS_c _ fun j _ => ?_
    unfold bLn
    rw [zuS_ml, zuS_ml]
    refine zuS_c _ fun k _ => ?_
    dsimp only
    unfold cLn w3
    by_cases a : i < j
    · rw [if_pos a]
      by_cases b : j < k
      · rw [if_pos b, if_pos (show i < j ∧ j < k from ⟨a, b⟩), Nat.mul_assoc, Nat.mul_left_comm (crN (enL L i) (enL L j)).toNat]
      · rw [if_neg b, if_neg (show ¬ (i < j ∧ j < k) from fun h => b h.2), Nat.mul_zero, Nat.mul_zero]
    · rw [if_neg a, if_neg (show ¬ (i < j ∧ j < k) from fun h => a h.1), Nat.zero_mul, Nat.mul_zero]
  rw [← hP, ← hT]
  exact fT_e hg L.length (Nat.le_refl _)
/-- the lines of the reference -/
theorem on_e (hg : ∀ r, r < L.length → gH (rL L r)) (hf : ∀ r, r < L.length → rHo f r (rL L r)) {a u v : Nat} (ha : a < 3) (hu : u < 6) (hv : v < 6) : mOn f (a : Int) (u : Int) (v : Int) L.length 0 = sOr L.length (fun o => decide (enL L o = 36 * a + (6 * u + v))) := by
  have : mOn f (a : Int) (u : Int) (v : Int) L.length 0 = true ↔ sOr L.length (fun o => decide (enL L o = 36 * a + (6 * u + v))) = true := by
    rw [mOn_t, sOr_iff]
    constructor
    · rintro ⟨j, -, h2, h3, h4, h5⟩
      have hj : j < L.length := by omega
      obtain ⟨-, e0, e1, e2⟩ := enL_b hg hj
      obtain ⟨r1, -⟩ := hf j hj
      have r0 := r1 0 (by omega)
      have r2 := r1 1 (by omega)
      have r3 := r1 2 (by omega)
      rw [Nat.add_zero] at r0
      exact ⟨j, hj, decide_eq_true (by omega)⟩
    · rintro ⟨j, hj, h⟩
      have h := of_decide_eq_true h
      obtain ⟨-, e0, e1, e2⟩ := enL_b hg hj
      obtain ⟨r1, -⟩ := hf j hj
      have r0 := r1 0 (by omega)
      have r2 := r1 1 (by omega)
      have r3 := r1 2 (by omega)
      rw [Nat.add_zero] at r0
      exact ⟨j, Nat.zero_le _, by omega, by omega, by omega, by omega⟩
  cases h1 : mOn f (a : Int) (u : Int) (v : Int) L.length 0
  · cases h2 : sOr L.length (fun o => decide (enL L o = 36 * a + (6 * u + v)))
    · rfl
    · rw [this.mpr h2] at h1; cases h1
  · exact (this.mp h1).symm
theorem gN_0 (hg : ∀ r, r < L.length → gH (rL L r)) (hf : ∀ r, r < L.length → rHo f r (rL L r)) {u v : Nat} (hu : u < 6) (hv : v < 6) : gNl (inL x y z) (enL L) L.length 0 u v = (decide ((u : Int) < (y : Int) ∧ (v : Int) < (z : Int)) && mOn f 0 (u : Int) (v : Int) L.length 0).toNat := by
  have := on_e hg hf (a := 0) (by omega) hu hv
  unfold gNl onL inL
  rw [← this, show (36 * 0 + (6 * u + v)) / 6 % 6 = u by omega, show (36 * 0 + (6 * u + v)) / 36 = 0 by omega, show (36 * 0 + (6 * u + v)) % 6 = v by omega]
  rfl
theorem gN_1 (hg : ∀ r, r < L.length → gH (rL L r)) (hf : ∀ r, r < L.length → rHo f r (rL L r)) {u v : Nat} (hu : u < 6) (hv : v < 6) : gNl (inL x y z) (enL L) L.length 1 u v = (decide ((u : Int) < (x : Int) ∧ (v : Int) < (z : Int)) && mOn f 1 (u : Int) (v : Int) L.length 0).toNat := by
  have := on_e hg hf (a := 1) (by omega) hu hv
  unfold gNl onL inL
  rw [← this, show (36 * 1 + (6 * u + v)) / 6 % 6 = u by omega, show (36 * 1 + (6 * u + v)) / 36 = 1 by omega, show (36 * 1 + (6 * u + v)) % 6 = v by omega]
  rfl
theorem gN_2 (hg : ∀ r, r < L.length → gH (rL L r)) (hf : ∀ r, r < L.length → rHo f r (rL L r)) {u v : Nat} (hu : u < 6) (hv : v < 6) : gNl (inL x y z) (enL L) L.length 2 u v = (decide ((u : Int) < (x : Int) ∧ (v : Int) < (y : Int)) && mOn f 2 (u : Int) (v : Int) L.length 0).toNat := by
  have := on_e hg hf (a := 2) (by omega) hu hv
  unfold gNl onL inL
  rw [← this, show (36 * 2 + (6 * u + v)) / 6 % 6 = u by omega, show (36 * 2 + (6 * u + v)) / 36 = 2 by omega, show (36 * 2 + (6 * u + v)) % 6 = v by omega]
  rfl
theorem vO_e (hg : ∀ r, r < L.length → gH (rL L r)) (hf : ∀ r, r < L.length → rHo f r (rL L r)) : vO f L.length (x : Int) (y : Int) (z : Int) 6 = ((zuS L.length (fun i => (gdL (inL x y z) (enL L) i).toNat * szN x y z (enL L i)) : Nat) : Int) := by
  have he : ∀ i, i < L.length → enL L i < 108 := fun i hi => (enL_b hg hi).1
  rw [one_T (φ := fun l => szN x y z l) he, ← zuS_pl, ← zuS_pl]
  have a1 : ∀ i j, i < 6 → j < 6 → vA1 f L.length (x : Int) (y : Int) (z : Int) i j = ((gNl (inL x y z) (enL L) L.length 0 i j * szN x y z (36 * 0 + (6 * i + j)) : Nat) : Int) := fun i j hi hj => by
    rw [gN_0 hg hf hi hj, show szN x y z (36 * 0 + (6 * i + j)) = x by unfold szN; rw [if_pos (by omega)]]
    unfold vA1
    by_cases c1 : (i : Int) < (y : Int) ∧ (j : Int) < (z : Int)
    · cases c2 : mOn f 0 (i : Int) (j : Int) L.length 0
      · rw [if_neg (fun h => by cases h.2.2), Bool.and_false]; simp
      · rw [if_pos ⟨c1.1, c1.2, rfl⟩, decide_eq_true c1]; simp
    · rw [if_neg (fun h => c1 ⟨h.1, h.2.1⟩), decide_eq_false c1]; simp
  have a2 : ∀ i j, i < 6 → j < 6 → vA2 f L.length (x : Int) (y : Int) (z : Int) i j = ((gNl (inL x y z) (enL L) L.length 1 i j * szN x y z (36 * 1 + (6 * i + j)) : Nat) : Int) := fun i j hi hj => by
    rw [gN_1 hg hf hi hj, show szN x y z (36 * 1 + (6 * i + j)) = y by unfold szN; rw [if_neg (by omega), if_pos (by omega)]]
    unfold vA2
    by_cases c1 : (i : Int) < (x : Int) ∧ (j : Int) < (z : Int)
    · cases c2 : mOn f 1 (i : Int) (j : Int) L.length 0
      · rw [if_neg (fun h => by cases h.2.2), Bool.and_false]; simp
      · rw [if_pos ⟨c1.1, c1.2, rfl⟩, decide_eq_true c1]; simp
    · rw [if_neg (fun h => c1 ⟨h.1, h.2.1⟩), decide_eq_false c1]; simp
  have a3 : ∀ i j, i < 6 → j < 6 → vA3 f L.length (x : Int) (y : Int) (z : Int) i j = ((gNl (inL x y z) (enL L) L.length 2 i j * szN x y z (36 * 2 + (6 * i + j)) : Nat) : Int) := fun i j hi hj => by
    rw [gN_2 hg hf hi hj, show szN x y z (36 * 2 + (6 * i + j)) = z by unfold szN; rw [if_neg (by omega), if_neg (by omega)]]
    unfold vA3
    by_cases c1 : (i : Int) < (x : Int) ∧ (j : Int) < (y : Int)
    · cases c2 : mOn f 2 (i : Int) (j : Int) L.length 0
      · rw [if_neg (fun h => by cases h.2.2), Bool.and_false]; simp
      · rw [if_pos ⟨c1.1, c1.2, rfl⟩, decide_eq_true c1]; simp
    · rw [if_neg (fun h => c1 ⟨h.1, h.2.1⟩), decide_eq_false c1]; simp
  have hI : ∀ i, i < 6 → ∀ k, k ≤ 6 → vI f L.length (x : Int) (y : Int) (z : Int) i k = ((zuS k (fun j => gNl (inL x y z) (enL L) L.length 0 i j * szN x y z (36 * 0 + (6 * i + j)) + gNl (inL x y z) (enL L) L.length 1 i j * szN x y z (36 * 1 + (6 * i + j)) + gNl (inL x y z) (enL L) L.length 2 i j * szN x y z (36 * 2 + (6 * i + j))) : Nat) : Int) := fun i hi k => by
    induction k with
    | zero => intro _; rfl
    | succ k ih =>
      intro hk
      rw [vI, zuS, ih (by omega), a1 i k hi (by omega), a2 i k hi (by omega), a3 i k hi (by omega)]
      omega
  have hO : ∀ k, k ≤ 6 → vO f L.length (x : Int) (y : Int) (z : Int) k = ((zuS k (fun i => zuS 6 (fun j => gNl (inL x y z) (enL L) L.length 0 i j * szN x y z (36 * 0 + (6 * i + j)) + gNl (inL x y z) (enL L) L.length 1 i j * szN x y z (36 * 1 + (6 * i + j)) + gNl (inL x y z) (enL L) L.length 2 i j * szN x y z (36 * 2 + (6 * i + j)))) : Nat) : Int) := fun k => by
    induction k with
    | zero => intro _; rfl
    | succ k ih =>
      intro hk
      rw [vO, zuS, ih (by omega), hI k (by omega) 6 (Nat.le_refl _)]
      omega
  rw [hO 6 (Nat.le_refl _)]
  congr 1
  refine zuS_c 6 fun i _ => ?_
  rw [zuS_pl, zuS_pl]
theorem vC_e (hg : ∀ r, r < L.length → gH (rL L r)) (hf : ∀ r, r < L.length → rHo f r (rL L r)) : vC f L.length (x : Int) (y : Int) (z : Int) 216 = ((zuS 6 (fun c => zuS 6 (fun b => zuS 6 (fun a => gNl (inL x y z) (enL L) L.length 0 b c + gNl (inL x y z) (enL L) L.length 1 a c + gNl (inL x y z) (enL L) L.length 2 a b - 1))) : Nat) : Int) := by
  have hb : ∀ c : Nat, c < 216 → vB f L.length (x : Int) (y : Int) (z : Int) (c : Int) = ((gNl (inL x y z) (enL L) L.length 0 (c / 6 % 6) (c / 36) + gNl (inL x y z) (enL L) L.length 1 (c % 6) (c / 36) + gNl (inL x y z) (enL L) L.length 2 (c % 6) (c / 6 % 6) - 1 : Nat) : Int) := fun c hc => by
    rw [gN_0 hg hf (by omega) (by omega), gN_1 hg hf (by omega) (by omega), gN_2 hg hf (by omega) (by omega)]
    unfold vB vK
    rw [show (c : Int) % 6 = ((c % 6 : Nat) : Int) by omega, show (c : Int) / 6 % 6 = ((c / 6 % 6 : Nat) : Int) by omega, show (c : Int) / 36 = ((c / 36 : Nat) : Int) by omega]
    generalize c % 6 = a
    generalize c / 6 % 6 = b
    generalize c / 36 = e
    generalize mOn f 0 (b : Int) (e : Int) L.length 0 = m0
    generalize mOn f 1 (a : Int) (e : Int) L.length 0 = m1
    generalize mOn f 2 (a : Int) (b : Int) L.length 0 = m2
    by_cases h1 : (a : Int) < (x : Int)
    · by_cases h2 : (b : Int) < (y : Int)
      · by_cases h3 : (e : Int) < (z : Int)
        · rw [if_pos ⟨h1, h2, h3⟩, decide_eq_true (⟨h2, h3⟩ : (b : Int) < (y : Int) ∧ (e : Int) < (z : Int)), decide_eq_true (⟨h1, h3⟩ : (a : Int) < (x : Int) ∧ (e : Int) < (z : Int)), decide_eq_true (⟨h1, h2⟩ : (a : Int) < (x : Int) ∧ (b : Int) < (y : Int))]
          cases m0 <;> cases m1 <;> cases m2 <;> rfl
        · rw [if_neg (fun h => h3 h.2.2), decide_eq_false (show ¬ ((b : Int) < (y : Int) ∧ (e : Int) < (z : Int)) from fun h => h3 h.2), decide_eq_false (show ¬ ((a : Int) < (x : Int) ∧ (e : Int) < (z : Int)) from fun h => h3 h.2)]
          cases decide ((a : Int) < (x : Int) ∧ (b : Int) < (y : Int)) <;> cases m2 <;> rfl
      · rw [if_neg (fun h => h2 h.2.1), decide_eq_false (show ¬ ((b : Int) < (y : Int) ∧ (e : Int) < (z : Int)) from fun h => h2 h.1), decide_eq_false (show ¬ ((a : Int) < (x : Int) ∧ (b : Int) < (y : Int)) from fun h => h2 h.2)]
        cases decide ((a : Int) < (x : Int) ∧ (e : Int) < (z : Int)) <;> cases m1 <;> rfl
    · rw [if_neg (fun h => h1 h.1), decide_eq_false (show ¬ ((a : Int) < (x : Int) ∧ (e : Int) < (z : Int)) from fun h => h1 h.1), decide_eq_false (show ¬ ((a : Int) < (x : Int) ∧ (b : Int) < (y : Int)) from fun h => h1 h.1)]
      cases decide ((b : Int) < (y : Int) ∧ (e : Int) < (z : Int)) <;> cases m0 <;> rfl
  have hC : ∀ k, k ≤ 216 → vC f L.length (x : Int) (y : Int) (z : Int) k = ((zuS k (fun c => gNl (inL x y z) (enL L) L.length 0 (c / 6 % 6) (c / 36) + gNl (inL x y z) (enL L) L.length 1 (c % 6) (c / 36) + gNl (inL x y z) (enL L) L.length 2 (c % 6) (c / 6 % 6) - 1) : Nat) : Int) := fun k => by
    induction k with
    | zero => intro _; rfl
    | succ k ih =>
      intro hk
      rw [vC, zuS, ih (by omega), hb k (by omega)]
      omega
  rw [hC 216 (Nat.le_refl _), show (216 : Nat) = 36 * 6 from rfl, zuS_mul]
  congr 1
  refine zuS_c 6 fun c hc => ?_
  rw [show (36 : Nat) = 6 * 6 from rfl, zuS_mul]
  refine zuS_c 6 fun b hb => zuS_c 6 fun a ha => ?_
  rw [show (6 * 6 * c + (6 * b + a)) / 6 % 6 = b by omega, show (6 * 6 * c + (6 * b + a)) / (6 * 6) = c by omega, show (6 * 6 * c + (6 * b + a)) % 6 = a by omega]
theorem inc_exc {I : Nat → Bool} {en : Nat → Nat} {n : Nat} : zuS 6 (fun c => zuS 6 (fun b => zuS 6 (fun a => gNl I en n 0 b c + gNl I en n 1 a c + gNl I en n 2 a b - 1))) + t012 I en n = p01 I en n + p02 I en n + p12 I en n := by
  have b : ∀ a u v, gNl I en n a u v = 0 ∨ gNl I en n a u v = 1 := fun a u v => by
    unfold gNl
    cases onL I en n (36 * a + (6 * u + v))
    · exact .inl rfl
    · exact .inr rfl
  have e1 : p01 I en n = zuS 6 (fun z => zuS 6 (fun y => zuS 6 (fun x => gNl I en n 0 y z * gNl I en n 1 x z))) := by
    unfold p01
    rw [zuS_sw]
    exact zuS_c 6 fun z _ => zuS_c 6 fun y _ => zuS_ml 6
  have e2 : p02 I en n = zuS 6 (fun z => zuS 6 (fun y => zuS 6 (fun x => gNl I en n 0 y z * gNl I en n 2 x y))) := by
    unfold p02
    rw [zuS_sw]
    exact zuS_c 6 fun z _ => zuS_c 6 fun y _ => zuS_ml 6
  have e3 : p12 I en n = zuS 6 (fun z => zuS 6 (fun y => zuS 6 (fun x => gNl I en n 1 x z * gNl I en n 2 x y))) := by
    unfold p12
    rw [zuS_sw]
    refine zuS_c 6 fun z _ => ?_
    rw [zuS_sw (f := fun y x => gNl I en n 1 x z * gNl I en n 2 x y)]
    exact zuS_c 6 fun x _ => zuS_ml 6
  have e4 : t012 I en n = zuS 6 (fun z => zuS 6 (fun y => zuS 6 (fun x => gNl I en n 0 y z * (gNl I en n 1 x z * gNl I en n 2 x y)))) := by
    unfold t012
    rw [zuS_sw]
    exact zuS_c 6 fun z _ => zuS_c 6 fun y _ => zuS_ml 6
  rw [e1, e2, e3, e4, ← zuS_pl, ← zuS_pl, ← zuS_pl]
  refine zuS_c 6 fun z _ => ?_
  rw [← zuS_pl, ← zuS_pl, ← zuS_pl]
  refine zuS_c 6 fun y _ => ?_
  rw [← zuS_pl, ← zuS_pl, ← zuS_pl]
  refine zuS_c 6 fun x _ => ?_
  rcases b 0 y z with h0 | h0 <;> rcases b 1 x z with h1 | h1 <;> rcases b 2 x y with h2 | h2 <;> rw [h0, h1, h2]
theorem vast_eq (hg : ∀ r, r < L.length → gH (rL L r)) (hf : ∀ r, r < L.length → rHo f r (rL L r)) : fT L (x : Int) (y : Int) (z : Int) L.length = vO f L.length (x : Int) (y : Int) (z : Int) 6 - vC f L.length (x : Int) (y : Int) (z : Int) 216 := by
  have h1 := fT_n (x := x) (y := y) (z := z) hg
  have h2 := @inc_exc (inL x y z) (enL L) L.length
  rw [vO_e hg hf, vC_e hg hf]
  omega
end
section
variable {sc : Nat → Int} {ln t a n d : Nat} {CS : Nat → List gCla} {lw : Option (List gCla)} {Y : vi_Y} {M : vi_M} {nn : Nat × Nat} {K : Option vi_V → vi_W → Prop}
theorem p_203 (hW : jW sc ln t a CS lw n Y M nn) {x y z : Int} : jPair sc ln t (d + 70) 203 302 [.inl x, .inl y, .inl z] (Y, M, nn) := by
  refine jPair_q hW fun K hK => ?_
  obtain ⟨LH, LR, LS, c1, c2, c3, c4⟩ := hW.2.2.2.1
  obtain ⟨o1, o2, o3⟩ := c1.1
  obtain ⟨n1, n2, n3⟩ := c1.2.1
  have hY := hW.1.1
  obtain ⟨a1, a2, a3, a4, a5, a6, a7, a8, a9, a10, a11, a12⟩ := y_29 hW.1.2.1
  have z1 := (y_103 hY (by omega)).1
  by_cases h : (1 ≤ x ∧ x ≤ 1000) ∧ (1 ≤ y ∧ y ≤ 1000) ∧ (1 ≤ z ∧ z ≤ 1000)
  · obtain ⟨hx, hy, hz⟩ := h
    have hK := hK (.inr (.inl (x * y * z - fT LH x y z LH.length))) M hW fun K2 h2 => by
      rw [k_302 hY n2 n1 hx hy hz (by omega)]
      obtain ⟨x, rfl⟩ : ∃ k : Nat, x = (k : Int) := ⟨x.toNat, by omega⟩
      obtain ⟨y, rfl⟩ : ∃ k : Nat, y = (k : Int) := ⟨y.toNat, by omega⟩
      obtain ⟨z, rfl⟩ : ∃ k : Nat, z = (k : Int) := ⟨z.toNat, by omega⟩
      rw [show (x : Int) * (y : Int) * (z : Int) - vO (M 114) LH.length (x : Int) (y : Int) (z : Int) 6 + vC (M 114) LH.length (x : Int) (y : Int) (z : Int) 216 = (x : Int) * (y : Int) * (z : Int) - fT LH (x : Int) (y : Int) (z : Int) LH.length by rw [vast_eq (fun r hr => (n3 r hr).1) (fun r hr => (n3 r hr).2.2)]; omega]
      exact h2 M hW
    have k161 := fun {K : Option vi_V → vi_W → Prop} => @k_161 (d + 64) K Y M nn LH hY o1 n2 (fun r hr => (n3 r hr).1) x y z hx hy hz
    have kx := fun {K : Option vi_V → vi_W → Prop} {w : vi_W} => @k_231t (d + 68) K x w hx
    have ky := fun {K : Option vi_V → vi_W → Prop} {w : vi_W} => @k_231t (d + 68) K y w hy
    have kz := fun {K : Option vi_V → vi_W → Prop} {w : vi_W} => @k_231t (d + 68) K z w hz
    simp only [Nat.add_assoc, Nat.reduceAdd] at k161 kx ky kz
    clear hW c1 c2 c3 c4 o1 o2 o3 n1 n2 n3
    generalize fT LH x y z LH.length = T at *
    simp (disch := omega) only [Option.toList_some, Option.toList_none, List.nil_append, List.cons_append, List.append_nil, true_and, and_true, not_true_eq_false, not_false_eq_true, true_implies, false_implies, implies_true, and_self, Int.reduceLT, Int.reduceLE, Int.reduceEq, Int.reduceNe, Int.reduceAdd, Int.reduceSub, Int.reduceMul, Int.reduceNeg, Int.reduceToNat, Int.toNat_natCast, ↓kk_ck, ↓kk_im, ↓kk_in, e_203, s_203_0, s_203_7, s_203_14, s_203_21, s_203_34, s_203_37, s_203_4, s_203_11, s_203_18, s_203_25, s_203_31, a1, a10, z1, k161, kx, ky, kz, ne_eq]
    exact hK
  · have hK := hK (.inr (.inl (-1))) M hW fun K2 h2 => by
      rw [k_302n hY h (by omega)]
      exact h2 M hW
    clear hW c1 c2 c3 c4 o1 o2 o3 n1 n2 n3
    by_cases hx : 1 ≤ x ∧ x ≤ 1000
    · have kx := fun {K : Option vi_V → vi_W → Prop} {w : vi_W} => @k_231t (d + 68) K x w hx
      by_cases hy : 1 ≤ y ∧ y ≤ 1000
      · have ky := fun {K : Option vi_V → vi_W → Prop} {w : vi_W} => @k_231t (d + 68) K y w hy
        have kz := fun {K : Option vi_V → vi_W → Prop} {w : vi_W} => @k_231f (d + 68) K z w (fun e => h ⟨hx, hy, e⟩)
        simp only [Nat.add_assoc, Nat.reduceAdd] at kx ky kz
        clear h
        simp (disch := omega) only [Option.toList_some, Option.toList_none, List.nil_append, List.cons_append, List.append_nil, true_and, and_true, not_true_eq_false, not_false_eq_true, true_implies, false_implies, implies_true, and_self, Int.reduceLT, Int.reduceLE, Int.reduceEq, Int.reduceNe, Int.reduceAdd, Int.reduceSub, Int.reduceMul, Int.reduceNeg, Int.reduceToNat, Int.toNat_natCast, ↓kk_ck, ↓kk_im, ↓kk_in, e_203, s_203_0, s_203_7, s_203_14, s_203_21, s_203_34, s_203_37, s_203_4, s_203_11, s_203_18, s_203_25, s_203_31, kx, ky, kz, ne_eq]
        exact hK
      · have ky := fun {K : Option vi_V → vi_W → Prop} {w : vi_W} => @k_231f (d + 68) K y w hy
        simp only [Nat.add_assoc, Nat.reduceAdd] at kx ky
        clear h
        simp (disch := omega) only [Option.toList_some, Option.toList_none, List.nil_append, List.cons_append, List.append_nil, true_and, and_true, not_true_eq_false, not_false_eq_true, true_implies, false_implies, implies_true, and_self, Int.reduceLT, Int.reduceLE, Int.reduceEq, Int.reduceNe, Int.reduceAdd, Int.reduceSub, Int.reduceMul, Int.reduceNeg, Int.reduceToNat, Int.toNat_natCast, ↓kk_ck, ↓kk_im, ↓kk_in, e_203, s_203_0, s_203_7, s_203_14, s_203_21, s_203_34, s_203_37, s_203_4, s_203_11, s_203_18, s_203_25, s_203_31, kx, ky, ne_eq]
        exact hK
    · have kx := fun {K : Option vi_V → vi_W → Prop} {w : vi_W} => @k_231f (d + 68) K x w hx
      simp only [Nat.add_assoc, Nat.reduceAdd] at kx
      clear h
      simp (disch := omega) only [Option.toList_some, Option.toList_none, List.nil_append, List.cons_append, List.append_nil, true_and, and_true, not_true_eq_false, not_false_eq_true, true_implies, false_implies, implies_true, and_self, Int.reduceLT, Int.reduceLE, Int.reduceEq, Int.reduceNe, Int.reduceAdd, Int.reduceSub, Int.reduceMul, Int.reduceNeg, Int.reduceToNat, Int.toNat_natCast, ↓kk_ck, ↓kk_im, ↓kk_in, e_203, s_203_0, s_203_7, s_203_14, s_203_21, s_203_34, s_203_37, s_203_4, s_203_11, s_203_18, s_203_25, s_203_31, kx, ne_eq]
      exact hK
end
