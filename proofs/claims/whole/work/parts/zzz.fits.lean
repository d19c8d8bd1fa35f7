/-! Pairs: fits. -/
theorem zuS_1 {h : Nat → Nat} : ∀ n : Nat, 0 < n → (∀ s, 0 < s → s < n → h s = 0) → zuS n h = h 0
  | 0, h0, _ => absurd h0 (by omega)
  | n + 1, _, hz => by
    rw [zuS]
    by_cases e : n = 0
    · subst e
      show 0 + h 0 = h 0
      omega
    · rw [zuS_1 n (by omega) fun s h1 h2 => hz s h1 (by omega), hz n (by omega) (by omega), Nat.add_zero]
theorem vo_z {s i Z : Nat} (hs : s < 2 ^ Z) (hi : Z ≤ i) : vo s i = 0 := by
  unfold vo
  rw [Nat.testBit_lt_two_pow (Nat.lt_of_lt_of_le hs (Nat.pow_le_pow_right (by omega) hi))]
  rfl
theorem rsF_Z {rest s Z : Nat} (hs : s < 2 ^ Z) : ∀ n, rsF rest s (Z + n) = rsF rest s Z
  | 0 => rfl
  | n + 1 => by
    rw [← Nat.add_assoc, rsF_st, rsF_Z hs n, vo_z hs (by omega), if_pos (Nat.zero_le _), Nat.zero_mul]
    by_cases e : rsF rest s Z = -1
    · rw [if_pos e, e]
    · rw [if_neg e]; simp
theorem rsF_6 {rest s Z : Nat} (hs : s < 2 ^ Z) (hZ : Z ≤ 6) : rsF rest s 6 = rsF rest s Z := by
  have := rsF_Z (rest := rest) hs (6 - Z)
  rw [show Z + (6 - Z) = 6 by omega] at this
  exact this
section
variable {A : Nat → Nat → Bool} {f : Nat → Int} {X Z : Nat}
theorem cW_lo (hhi : ∀ x s, X ≤ x → (A x s = true ↔ s = 0)) {rest : Nat} : ∀ m, m + X ≤ 6 → cW A m rest = if rest = 0 then 1 else 0
  | 0, _ => rfl
  | m + 1, hm => by
    have r0 : rsF rest 0 6 = (rest : Int) := rsF_6 (Z := 0) (by decide) (by omega)
    have n0 : nX rest 0 = rest := by unfold nX; rw [r0]; omega
    rw [cW]
    dsimp only
    rw [zuS_1 64 (by decide) fun s h1 _ => if_neg fun k => by
      unfold cO at k
      rw [Bool.and_eq_true] at k
      have := (hhi (5 - m) s (by omega)).mp k.1
      omega]
    rw [if_pos (by unfold cO; rw [(hhi (5 - m) 0 (by omega)).mpr rfl, r0, decide_eq_true (by omega)]; rfl), n0, cW_lo hhi m (by omega)]
theorem cO_r (hlo : ∀ x s, x < X → (A x s = true ↔ (s < 2 ^ Z ∧ (mOs s 8 : Int) = f (280 + x)))) (hZ : Z ≤ 6) {x rest s : Nat} (hx : x < X) : cO A x rest s = true ↔ (s < 2 ^ Z ∧ rsO (f (280 + x)) Z rest s = true) := by
  unfold cO rsO
  rw [Bool.and_eq_true, Bool.and_eq_true, decide_eq_true_eq, decide_eq_true_eq, decide_eq_true_eq, hlo x s hx]
  constructor
  · rintro ⟨⟨h1, h2⟩, h3⟩
    exact ⟨h1, h2, by rw [← rsF_6 h1 hZ]; exact h3⟩
  · rintro ⟨h1, h2, h3⟩
    exact ⟨⟨h1, h2⟩, by rw [rsF_6 h1 hZ]; exact h3⟩
theorem rW_c (hlo : ∀ x s, x < X → (A x s = true ↔ (s < 2 ^ Z ∧ (mOs s 8 : Int) = f (280 + x)))) (hhi : ∀ x s, X ≤ x → (A x s = true ↔ s = 0)) (hX : X ≤ 6) (hZ : Z ≤ 6) : ∀ (k rest : Nat), k ≤ X → rW f X Z k rest = cW A (k + (6 - X)) rest
  | 0, rest, _ => by rw [rW, Nat.zero_add, cW_lo hhi _ (by omega)]
  | k + 1, rest, hk => by
    have hws : ∀ n, rWs f X Z k rest n = zuS n (fun s => if rsO (f (280 + (X - (k + 1)))) Z rest s = true then rW f X Z k (rsF rest s Z).toNat else 0) := fun n => by
      induction n with
      | zero => rfl
      | succ n ih => rw [rWs, zuS, ih]
    have hp : 2 ^ Z ≤ 2 ^ 6 := Nat.pow_le_pow_right (by omega) hZ
    rw [rWs_e, hws, show k + 1 + (6 - X) = (k + (6 - X)) + 1 by omega, cW]
    dsimp only
    rw [show 5 - (k + (6 - X)) = X - (k + 1) by omega, show (64 : Nat) = 2 ^ Z + (64 - 2 ^ Z) by omega, zuS_add]
    have h2 : zuS (64 - 2 ^ Z) (fun i => if cO A (X - (k + 1)) rest (2 ^ Z + i) = true then cW A (k + (6 - X)) (nX rest (2 ^ Z + i)) else 0) = 0 := by
      refine (zuS_c _ fun i _ => ?_).trans (zuS_z _)
      rw [if_neg]
      intro h
      have := ((cO_r hlo hZ (by omega)).mp h).1
      omega
    rw [h2, Nat.add_zero]
    refine zuS_c _ fun s hs => ?_
    by_cases e : rsO (f (280 + (X - (k + 1)))) Z rest s = true
    · rw [if_pos e, if_pos ((cO_r hlo hZ (by omega)).mpr ⟨hs, e⟩), rW_c hlo hhi hX hZ k _ (by omega)]
      unfold nX
      rw [rsF_6 hs hZ]
    · rw [if_neg e, if_neg fun h => e ((cO_r hlo hZ (by omega)).mp h).2]
theorem gD_r (hlo : ∀ x s, x < X → (A x s = true ↔ (s < 2 ^ Z ∧ (mOs s 8 : Int) = f (280 + x)))) (hhi : ∀ x s, X ≤ x → (A x s = true ↔ s = 0)) (hX : X ≤ 6) (hZ : Z ≤ 6) {x rest s : Nat} (hx : x < X) : gD A (5 - x) rest s = true ↔ (s < 2 ^ Z ∧ ftO f X Z x rest s = true) := by
  rw [gD_t, show 5 - (5 - x) = x by omega, cO_r hlo hZ hx]
  unfold ftO
  rw [Bool.and_eq_true, decide_eq_true_eq, rW_c hlo hhi hX hZ _ _ (by omega), show X - (x + 1) + (6 - X) = 5 - x by omega]
  constructor
  · rintro ⟨⟨h1, h2⟩, h3⟩
    refine ⟨h1, h2, ?_⟩
    unfold nX at h3
    rw [rsF_6 h1 hZ] at h3
    exact h3
  · rintro ⟨h1, h2, h3⟩
    refine ⟨⟨h1, h2⟩, ?_⟩
    unfold nX
    rw [rsF_6 h1 hZ]
    exact h3
/-- the sets chosen one by one -/
theorem ftS_c (hlo : ∀ x s, x < X → (A x s = true ↔ (s < 2 ^ Z ∧ (mOs s 8 : Int) = f (280 + x)))) (hhi : ∀ x s, X ≤ x → (A x s = true ↔ s = 0)) (hX : X ≤ 6) (hZ : Z ≤ 6) {R S : Nat → Nat} (hR : ∀ x, x < 6 → R (x + 1) = nX (R x) (S x)) (hS : ∀ x, x < 6 → isF (gD A (5 - x) (R x)) 64 (S x)) : ∀ k, k < X → (ftS f X Z (R 0) k).1 = R k ∧ (ftS f X Z (R 0) (k + 1)).2 = S k := by
  have one : ∀ k, k < X → (ftS f X Z (R 0) k).1 = R k → (ftS f X Z (R 0) (k + 1)).2 = S k ∧ S k < 2 ^ Z := fun k hk h => by
    obtain ⟨s1, s2, s3⟩ := hS k (by omega)
    obtain ⟨t1, t2⟩ := (gD_r hlo hhi hX hZ hk).mp s2
    rw [ftS]
    dsimp only
    rw [h]
    obtain ⟨w1, w2, w3⟩ := wNx_p (p := ftO f X Z k (R k)) (j0 := S k) (2 ^ Z) 0 (Nat.zero_le _) (by omega) t2
    refine ⟨?_, t1⟩
    generalize wNx (ftO f X Z k (R k)) (2 ^ Z) 0 = s at *
    by_cases e : s < S k
    · have := s3 s e
      rw [(gD_r hlo hhi hX hZ hk).mpr ⟨by omega, w1⟩] at this
      cases this
    · omega
  intro k
  induction k with
  | zero => exact fun hk => ⟨rfl, (one 0 hk rfl).1⟩
  | succ k ih =>
    intro hk
    obtain ⟨h1, h2⟩ := ih (by omega)
    obtain ⟨-, h3⟩ := one k (by omega) h1
    have : (ftS f X Z (R 0) (k + 1)).1 = R (k + 1) := by
      rw [hR k (by omega), nX, rsF_6 h3 hZ, ← h1, ← h2]
      rfl
    exact ⟨this, (one (k + 1) hk this).1⟩
end
section
variable {A : Nat → Nat → Bool} {g : Nat → Int} {Z : Nat}
theorem fDue_v (hZ : Z ≤ 6) (hg : ∀ i, i < 6 → 0 ≤ g (6 + i) ∧ g (6 + i) ≤ 6) {a b c : Nat} (hl : le6 (v3 a b c) (dC g Z)) (h3 : le6 (fun i => dC g Z i - v3 a b c i) (fun _ => 3)) : fDue g (e4 (v3 a b c)) Z = ((e4 (fun i => dC g Z i - v3 a b c i) : Nat) : Int) := by
  have hli : ∀ i, i < 6 → v3 a b c i ≤ dC g Z i := fun i hi => by
    obtain ⟨h0, h1, h2, h3, h4, h5⟩ := hl
    obtain rfl | rfl | rfl | rfl | rfl | rfl : i = 0 ∨ i = 1 ∨ i = 2 ∨ i = 3 ∨ i = 4 ∨ i = 5 := by omega
    all_goals assumption
  have h3i : ∀ i, i < 6 → dC g Z i - v3 a b c i ≤ 3 := fun i hi => by
    obtain ⟨h0, h1, h2, h3, h4, h5⟩ := h3
    obtain rfl | rfl | rfl | rfl | rfl | rfl : i = 0 ∨ i = 1 ∨ i = 2 ∨ i = 3 ∨ i = 4 ∨ i = 5 := by omega
    all_goals assumption
  have hgi : ∀ i, i < Z → g (6 + i) = (v3 a b c i + (dC g Z i - v3 a b c i) : Nat) := fun i hi => by
    have h1 := hli i (by omega)
    have h2 := hg i (by omega)
    unfold dC at *
    rw [if_pos hi] at *
    omega
  unfold fDue
  rw [if_neg]
  · rw [fDu_e hZ (fun i => v3_le) hgi (fun i hi => h3i i (by omega)) Z (Nat.le_refl _)]
    have : (fun i => if i < Z then dC g Z i - v3 a b c i else 0) = (fun i => dC g Z i - v3 a b c i) := funext fun i => by
      by_cases hi : i < Z
      · rw [if_pos hi]
      · rw [if_neg hi]; unfold dC; rw [if_neg hi]; omega
    rw [this]
  · rw [sOr_iff]
    rintro ⟨i, hi, hb⟩
    unfold fBad fL at hb
    rw [dig4 (fun i => v3_le) (by omega), Bool.or_eq_true, decide_eq_true_eq, decide_eq_true_eq] at hb
    have := hgi i hi
    have := h3i i (by omega)
    omega
theorem nX_3 {d : Nat → Nat} (hd : le7 d) {a b c : Nat} (h : le6 (v3 a b c) d) : nX (nX (nX (e7 d) a) b) c = e7 (fun i => d i - v3 a b c i) := by
  obtain ⟨h0, h1, h2, h3, h4, h5⟩ := h
  obtain ⟨d0, d1, d2, d3, d4, d5⟩ := hd
  unfold v3 at h0 h1 h2 h3 h4 h5
  rw [nX_7 ⟨d0, d1, d2, d3, d4, d5⟩ (show le6 (vo a) d from ⟨by omega, by omega, by omega, by omega, by omega, by omega⟩)]
  rw [nX_7 (d := fun i => d i - vo a i) ⟨by dsimp only; omega, by dsimp only; omega, by dsimp only; omega, by dsimp only; omega, by dsimp only; omega, by dsimp only; omega⟩ ⟨by dsimp only; omega, by dsimp only; omega, by dsimp only; omega, by dsimp only; omega, by dsimp only; omega, by dsimp only; omega⟩]
  rw [nX_7 (d := fun i => d i - vo a i - vo b i) ⟨by dsimp only; omega, by dsimp only; omega, by dsimp only; omega, by dsimp only; omega, by dsimp only; omega, by dsimp only; omega⟩ ⟨by dsimp only; omega, by dsimp only; omega, by dsimp only; omega, by dsimp only; omega, by dsimp only; omega, by dsimp only; omega⟩]
  have : (fun i => d i - vo a i - vo b i - vo c i) = (fun i => d i - v3 a b c i) := funext fun i => by unfold v3; omega
  rw [this]
theorem fI_x {g : Nat → Bool} {n : Nat} (h : fI g n < n) : ∃ i, fI g n = i ∧ i < n ∧ g i = true ∧ ∀ j, j < i → g j = false := by
  obtain ⟨h1, h2, h3⟩ := fI_sp (g := g) n
  exact ⟨_, rfl, h, h3 h, h2⟩
theorem first_w {W : Nat → Nat} {n : Nat} (h : ∃ j, j < n ∧ W j ≠ 0) : ∃ j, j < n ∧ W j ≠ 0 ∧ ∀ i, i < j → W i = 0 := by
  obtain ⟨j1, h1, h2⟩ := h
  obtain ⟨i1, i2, i3⟩ := fI_sp (g := fun j => decide (W j ≠ 0)) n
  by_cases e : fI (fun j => decide (W j ≠ 0)) n < n
  · refine ⟨_, e, of_decide_eq_true (i3 e), fun i hi => ?_⟩
    have := of_decide_eq_false (i2 i hi)
    omega
  · have := i2 j1 (by omega)
    rw [decide_eq_true h2] at this
    cases this
/-- two rows put down -/
def fNx (k i : Nat) (f : Nat → Int) : Nat → Int := vi_u (vi_u (vi_u (vi_u (vi_u (vi_u f 0 (k / 4096 : Nat)) 1 (k / 64 % 64 : Nat)) 2 (k % 64 : Nat)) 3 (i / 4096 : Nat)) 4 (i / 64 % 64 : Nat)) 5 (i % 64 : Nat)
theorem fN_e {p q r : Nat → Bool} {D : Nat → Int} {k e : Nat} {f : Nat → Int} (h : D (fSp (k / 4096) + fSp (k / 64 % 64) + fSp (k % 64)) = (e : Int)) : fN p q r D k f = fNx k (fI (fG p q r e) 262144) f := by
  have h2 : (D (fSp (k / 4096) + fSp (k / 64 % 64) + fSp (k % 64))).toNat = e := by rw [h, Int.toNat_natCast]
  show fNx k (fI (fG p q r (D (fSp (k / 4096) + fSp (k / 64 % 64) + fSp (k % 64))).toNat) 262144) f = _
  rw [h2]
/-- the class's first row -/
theorem fN_c (hZ : Z ≤ 6) (hg : ∀ i, i < 6 → 0 ≤ g (6 + i) ∧ g (6 + i) ≤ 6) (hA : ∀ x s, A x s = true → ∀ i, Z ≤ i → vo s i = 0) (h : cW A 6 (e7 (dC g Z)) ≠ 0) {N0 : Nat → Int} : ∃ R S : Nat → Nat, R 0 = e7 (dC g Z) ∧ (∀ x, x < 6 → R (x + 1) = nX (R x) (S x)) ∧ (∀ x, x < 6 → isF (gD A (5 - x) (R x)) 64 (S x)) ∧ ∀ x, x < 6 → fM (fW (A 0) (A 1) (A 2) (fun t => fDue g t Z) (fun s => fA (A 3) (A 4) (A 5) s 64)) (fN (A 3) (A 4) (A 5) (fun t => fDue g t Z)) N0 262144 x = (S x : Int) := by
  have hd7 : ∀ i, i < 6 → dC g Z i ≤ 6 := fun i hi => by
    unfold dC; have := hg i hi; split <;> omega
  have hd : le7 (dC g Z) := ⟨hd7 0 (by omega), hd7 1 (by omega), hd7 2 (by omega), hd7 3 (by omega), hd7 4 (by omega), hd7 5 (by omega)⟩
  rw [← fW_s hZ hg hA, zuS_pos] at h
  have hWe := fun {j : Nat} => @fW_e A g Z hZ hg hA j
  generalize hW : fW (A 0) (A 1) (A 2) (fun t => fDue g t Z) (fun s => fA (A 3) (A 4) (A 5) s 64) = W at *
  obtain ⟨j1, hj1, hj2⟩ := h
  obtain ⟨j, hj, hjn, hjf⟩ : ∃ j, j < 262144 ∧ W j ≠ 0 ∧ ∀ i, i < j → W i = 0 := first_w ⟨j1, hj1, hj2⟩
  obtain ⟨f1, -⟩ := fM_e (N := fN (A 3) (A 4) (A 5) (fun t => fDue g t Z)) (g := N0) (Nat.pos_of_ne_zero hjn) hjf (262144 - (j + 1))
  rw [show j + 1 + (262144 - (j + 1)) = 262144 by omega] at f1
  have hc : cT A 3 (e7 (dC g Z)) (j / 4096) (j / 64 % 64) (j % 64) ≠ 0 := by rw [← hWe]; exact hjn
  obtain ⟨g1, g2, g3⟩ := cT_f hj hc fun i hi => by rw [← hWe]; exact hjf i hi
  rw [cT_e hd] at hc
  have hc1 : (A (5 - (3 + 2)) (j / 4096) = true ∧ A (5 - (3 + 1)) (j / 64 % 64) = true ∧ A (5 - 3) (j % 64) = true) ∧ le6 (v3 (j / 4096) (j / 64 % 64) (j % 64)) (dC g Z) := by
    by_cases e : (A (5 - (3 + 2)) (j / 4096) = true ∧ A (5 - (3 + 1)) (j / 64 % 64) = true ∧ A (5 - 3) (j % 64) = true) ∧ le6 (v3 (j / 4096) (j / 64 % 64) (j % 64)) (dC g Z)
    · exact e
    · rw [if_neg e] at hc; exact absurd rfl hc
  rw [if_pos hc1] at hc
  obtain ⟨-, hl⟩ := hc1
  have hr3 := nX_3 hd hl
  have hd' : le7 (fun i => dC g Z i - v3 (j / 4096) (j / 64 % 64) (j % 64) i) := by
    obtain ⟨d0, d1, d2, d3, d4, d5⟩ := hd
    refine ⟨?_, ?_, ?_, ?_, ?_, ?_⟩ <;> dsimp only <;> omega
  rw [cW_33 hd'] at hc
  have h3 : le6 (fun i => dC g Z i - v3 (j / 4096) (j / 64 % 64) (j % 64) i) (fun _ => 3) := by
    by_cases e : le6 (fun i => dC g Z i - v3 (j / 4096) (j / 64 % 64) (j % 64) i) (fun _ => 3)
    · exact e
    · rw [if_neg e] at hc; exact absurd rfl hc
  rw [if_pos h3] at hc
  have hdue := fDue_v hZ hg hl h3
  obtain ⟨i, hi0, hI, k3, k2⟩ := fI_x (fI_A (p := A 3) (q := A 4) (r := A 5) (s := e4 (fun i => dC g Z i - v3 (j / 4096) (j / 64 % 64) (j % 64) i)) (Nat.pos_of_ne_zero hc))
  have hfin : fM W (fN (A 3) (A 4) (A 5) (fun t => fDue g t Z)) N0 262144 = fNx j i N0 := by
    rw [f1, ← hi0]
    refine fN_e ?_
    show fDue g _ Z = _
    rw [fSp_3]
    exact hdue
  have hgq : ∀ i, fG (A 3) (A 4) (A 5) (e4 (fun i => dC g Z i - v3 (j / 4096) (j / 64 % 64) (j % 64) i)) i = true ↔ cT A 0 (e7 (fun i => dC g Z i - v3 (j / 4096) (j / 64 % 64) (j % 64) i)) (i / 4096) (i / 64 % 64) (i % 64) ≠ 0 := fun i => by
    rw [cT_0 hd']
    unfold fG
    rw [fSp_3, Bool.and_eq_true, decide_eq_true_eq, e4_i (fun i => v3_le) (fun i hi => by
      obtain ⟨h0, h1, h2, h3, h4, h5⟩ := h3
      obtain rfl | rfl | rfl | rfl | rfl | rfl : i = 0 ∨ i = 1 ∨ i = 2 ∨ i = 3 ∨ i = 4 ∨ i = 5 := by omega
      all_goals assumption)]
    constructor
    · intro h
      rw [if_pos h]
      decide
    · intro h
      by_cases e : (A 3 (i / 4096) && A 4 (i / 64 % 64) && A 5 (i % 64)) = true ∧ (v3 (i / 4096) (i / 64 % 64) (i % 64) 0 = dC g Z 0 - v3 (j / 4096) (j / 64 % 64) (j % 64) 0 ∧ v3 (i / 4096) (i / 64 % 64) (i % 64) 1 = dC g Z 1 - v3 (j / 4096) (j / 64 % 64) (j % 64) 1 ∧ v3 (i / 4096) (i / 64 % 64) (i % 64) 2 = dC g Z 2 - v3 (j / 4096) (j / 64 % 64) (j % 64) 2 ∧ v3 (i / 4096) (i / 64 % 64) (i % 64) 3 = dC g Z 3 - v3 (j / 4096) (j / 64 % 64) (j % 64) 3 ∧ v3 (i / 4096) (i / 64 % 64) (i % 64) 4 = dC g Z 4 - v3 (j / 4096) (j / 64 % 64) (j % 64) 4 ∧ v3 (i / 4096) (i / 64 % 64) (i % 64) 5 = dC g Z 5 - v3 (j / 4096) (j / 64 % 64) (j % 64) 5)
      · exact e
      · rw [if_neg e] at h; exact absurd rfl h
  obtain ⟨q1, q2, q3⟩ := cT_f hI ((hgq i).mp k3) fun i' hi' => by
    by_cases e : cT A 0 (e7 (fun i => dC g Z i - v3 (j / 4096) (j / 64 % 64) (j % 64) i)) (i' / 4096) (i' / 64 % 64) (i' % 64) = 0
    · exact e
    · have := k2 i' hi'
      rw [(hgq i').mpr e] at this
      cases this
  rw [← hr3] at q1 q2 q3
  clear hgq k2 k3 hdue h3 hc hd' hjf f1 hWe hW hi0
  generalize e7 (dC g Z) = rest at *
  refine ⟨fun x => if x = 0 then rest else if x = 1 then nX rest (j / 4096) else if x = 2 then nX (nX rest (j / 4096)) (j / 64 % 64) else if x = 3 then nX (nX (nX rest (j / 4096)) (j / 64 % 64)) (j % 64) else if x = 4 then nX (nX (nX (nX rest (j / 4096)) (j / 64 % 64)) (j % 64)) (i / 4096) else if x = 5 then nX (nX (nX (nX (nX rest (j / 4096)) (j / 64 % 64)) (j % 64)) (i / 4096)) (i / 64 % 64) else nX (nX (nX (nX (nX (nX rest (j / 4096)) (j / 64 % 64)) (j % 64)) (i / 4096)) (i / 64 % 64)) (i % 64), fun x => if x = 0 then j / 4096 else if x = 1 then j / 64 % 64 else if x = 2 then j % 64 else if x = 3 then i / 4096 else if x = 4 then i / 64 % 64 else i % 64, rfl, fun x hx => ?_, fun x hx => ?_, fun x hx => ?_⟩
  · obtain rfl | rfl | rfl | rfl | rfl | rfl : x = 0 ∨ x = 1 ∨ x = 2 ∨ x = 3 ∨ x = 4 ∨ x = 5 := by omega
    all_goals rfl
  · obtain rfl | rfl | rfl | rfl | rfl | rfl : x = 0 ∨ x = 1 ∨ x = 2 ∨ x = 3 ∨ x = 4 ∨ x = 5 := by omega
    · exact g1
    · exact g2
    · exact g3
    · exact q1
    · exact q2
    · exact q3
  · rw [hfin]
    obtain rfl | rfl | rfl | rfl | rfl | rfl : x = 0 ∨ x = 1 ∨ x = 2 ∨ x = 3 ∨ x = 4 ∨ x = 5 := by omega
    all_goals rfl
end
