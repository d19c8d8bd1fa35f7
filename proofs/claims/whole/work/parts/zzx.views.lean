/-! Pairs: views. -/
theorem lsV_i {a u w : Nat} : ∀ v : Nat, w < v → (a, u, w) ∈ lsV a u v
  | 0, h => absurd h (by omega)
  | v + 1, h => by
    rw [lsV, List.mem_append, List.mem_singleton]
    by_cases e : w = v
    · subst e; exact .inr rfl
    · exact .inl (lsV_i v (by omega))
theorem lsU_i {a V u w : Nat} (hw : w < V) : ∀ U : Nat, u < U → (a, u, w) ∈ lsU a V U
  | 0, h => absurd h (by omega)
  | U + 1, h => by
    rw [lsU, List.mem_append]
    by_cases e : u = U
    · subst e; exact .inr (lsV_i V hw)
    · exact .inl (lsU_i hw U (by omega))
theorem lsA_i {f : Nat → Int} {b u w : Nat} (hu : u < szU f b) (hw : w < szV f b) : ∀ a : Nat, b < a → (b, u, w) ∈ lsA f a
  | 0, h => absurd h (by omega)
  | a + 1, h => by
    rw [lsA, List.mem_append]
    by_cases e : b = a
    · subst e; exact .inr (lsU_i hw _ hu)
    · exact .inl (lsA_i hu hw a (by omega))
section
variable {f g : Nat → Int}
theorem lsA_g {b u w : Nat} (hB : bxF f) : (b, u, w) ∈ lsA f 3 ↔ gPl (f 96) (f 97) (f 98) (b : Int) (u : Int) (w : Int) = true := by
  have hs := @sz_r (rowM f) hB b
  obtain ⟨⟨s1, s2, s3⟩, t1, t2, t3⟩ := hs
  have eU : gU (f 96) (f 97) (f 98) (b : Int) = ((szU f b : Nat) : Int) := by
    rw [show ((szU f b : Nat) : Int) = f (if (b : Int) = 0 then 97 else 96) from s3]
    unfold gU
    split <;> rfl
  have eV : gV (f 96) (f 97) (f 98) (b : Int) = ((szV f b : Nat) : Int) := by
    rw [show ((szV f b : Nat) : Int) = f (if (b : Int) = 2 then 97 else 98) from t3]
    unfold gV
    split <;> rfl
  unfold gPl
  rw [decide_eq_true_eq, eU, eV]
  constructor
  · intro h
    obtain ⟨h1, h2, h3⟩ := lsA_m 3 h
    have h2 : u < szU f b := h2
    have h3 : w < szV f b := h3
    exact ⟨by omega, by have h1 : b < 3 := h1; omega, by omega, by omega, by omega, by omega⟩
  · rintro ⟨h1, h2, h3, h4, h5, h6⟩
    exact lsA_i (by omega) (by omega) 3 (by omega)
theorem di_e (hD : rDk f g) {a u v : Nat} (ha : a < 3) (hu : u < 6) (hv : v < 6) : gDi g (a : Int) (u : Int) (v : Int) = dkI f (a : Int) (u : Int) (v : Int) := by
  have := (hD a u v ha hu hv).1
  unfold gDi dkI
  rw [show (36 * (a : Int) + 6 * (u : Int) + (v : Int)).toNat = 36 * a + 6 * u + v by omega, show (172 + 36 * (a : Int) + 6 * (v : Int) + (u : Int)).toNat = 172 + 36 * a + 6 * v + u by omega, this]
theorem ms_e (hB : bxF f) (hD : rDk f g) {c : Nat} (hc : c < 216) : gMs (f 96) (f 97) (f 98) g c = moB f c := by
  have d0 := di_e hD (a := 0) (u := c / 6 % 6) (v := c / 36) (by omega) (by omega) (by omega)
  have d1 := di_e hD (a := 1) (u := c % 6) (v := c / 36) (by omega) (by omega) (by omega)
  have d2 := di_e hD (a := 2) (u := c % 6) (v := c / 6 % 6) (by omega) (by omega) (by omega)
  have e : gCl (f 96) (f 97) (f 98) (c : Int) = mIcb f (c : Int) := by
    unfold gCl mIcb
    rw [decide_eq_decide]
    omega
  unfold gMs gMo moB
  rw [e]
  rw [show (c : Int) / 6 % 6 = ((c / 6 % 6 : Nat) : Int) by omega, show (c : Int) / 36 = ((c / 36 : Nat) : Int) by omega, show (c : Int) % 6 = ((c % 6 : Nat) : Int) by omega]
  exact congr (congrArg _ (congr (congrArg _ (congrArg _ d0)) d1)) d2
theorem ms_i {x y z : Int} {c : Nat} (h : gMs x y z g c = true) : c < 216 ∧ ((c % 6 : Nat) : Int) < x ∧ ((c / 6 % 6 : Nat) : Int) < y ∧ ((c / 36 : Nat) : Int) < z := by
  unfold gMs gMo at h
  rw [Bool.and_eq_true, Bool.and_eq_true, Bool.and_eq_true] at h
  have := of_decide_eq_true h.1.1.1
  omega
theorem ms_d {x y z : Int} {c : Nat} (h : gMs x y z g c = true) : gDi g 2 ((c % 6 : Nat) : Int) ((c / 6 % 6 : Nat) : Int) = true := by
  unfold gMs gMo at h
  rw [Bool.and_eq_true, Bool.and_eq_true, Bool.and_eq_true] at h
  rw [show ((c / 6 % 6 : Nat) : Int) = (c : Int) / 6 % 6 by omega, show ((c % 6 : Nat) : Int) = (c : Int) % 6 by omega]
  exact h.2
theorem snX_0 {u v c : Nat} : snX (0, u, v) c = true ↔ (c / 6 % 6 = u ∧ c / 36 = v) := by
  unfold snX sLn
  dsimp only
  rw [if_pos (show ((0 : Nat) : Int) = 0 from rfl), decide_eq_true_eq]
  omega
theorem snX_1 {u v c : Nat} : snX (1, u, v) c = true ↔ (c % 6 = u ∧ c / 36 = v) := by
  unfold snX sLn
  dsimp only
  rw [if_neg (show ¬ ((1 : Nat) : Int) = 0 by decide), if_pos (show ((1 : Nat) : Int) = 1 from rfl), decide_eq_true_eq]
  omega
theorem snX_2 {u v c : Nat} : snX (2, u, v) c = true ↔ (c % 6 = u ∧ c / 6 % 6 = v) := by
  unfold snX sLn
  dsimp only
  rw [if_neg (show ¬ ((2 : Nat) : Int) = 0 by decide), if_neg (show ¬ ((2 : Nat) : Int) = 1 by decide), decide_eq_true_eq]
  omega
theorem gOn_0 {x y z l u v : Int} : gOn x y z ((0 : Nat) : Int) l u v = if 0 ≤ l ∧ l < x ∧ 0 ≤ u ∧ u < y ∧ 0 ≤ v ∧ v < z then 36 * v + 6 * u + l else -1 := by
  show gOn x y z 0 l u v = _
  simp [gOn, gX, gY, gZ]
theorem gOn_1 {x y z l u v : Int} : gOn x y z ((1 : Nat) : Int) l u v = if 0 ≤ u ∧ u < x ∧ 0 ≤ l ∧ l < y ∧ 0 ≤ v ∧ v < z then 36 * v + 6 * l + u else -1 := by
  show gOn x y z 1 l u v = _
  simp [gOn, gX, gY, gZ]
theorem gOn_2 {x y z l u v : Int} : gOn x y z ((2 : Nat) : Int) l u v = if 0 ≤ u ∧ u < x ∧ 0 ≤ v ∧ v < y ∧ 0 ≤ l ∧ l < z then 36 * l + 6 * v + u else -1 := by
  show gOn x y z 2 l u v = _
  simp [gOn, gX, gY, gZ]
theorem hm_e {x y z : Int} (hb : gB x y z) {S : Nat → Bool} (hS : ∀ c, S c = true → c < 216 ∧ ((c % 6 : Nat) : Int) < x ∧ ((c / 6 % 6 : Nat) : Int) < y ∧ ((c / 36 : Nat) : Int) < z) {a u v : Nat} (hp : gPl x y z (a : Int) (u : Int) (v : Int) = true) : gHm x y z S (a : Int) (u : Int) (v : Int) = true ↔ ∃ c, c < 216 ∧ S c = true ∧ snX (a, u, v) c = true := by
  unfold gHm
  rw [sOr_iff]
  obtain ⟨b1, b2, b3⟩ := hb
  have hp := of_decide_eq_true hp
  obtain ⟨p1, p2, -⟩ := hp
  have ha : a = 0 ∨ a = 1 ∨ a = 2 := by omega
  constructor
  · rintro ⟨l, hl, hs⟩
    unfold sHas at hs
    rw [Bool.and_eq_true, decide_eq_true_eq] at hs
    obtain ⟨⟨q1, q2⟩, q3⟩ := hs
    refine ⟨_, by omega, q3, ?_⟩
    rcases ha with rfl | rfl | rfl
    · rw [gOn_0] at q1 ⊢
      split at q1
      · rename_i h; rw [if_pos h, snX_0]; omega
      · omega
    · rw [gOn_1] at q1 ⊢
      split at q1
      · rename_i h; rw [if_pos h, snX_1]; omega
      · omega
    · rw [gOn_2] at q1 ⊢
      split at q1
      · rename_i h; rw [if_pos h, snX_2]; omega
      · omega
  · rintro ⟨c, hc, hs, hl⟩
    obtain ⟨s1, s2, s3, s4⟩ := hS c hs
    have fin : ∀ l : Nat, gOn x y z (a : Int) (l : Int) (u : Int) (v : Int) = (c : Int) → sHas S (gOn x y z (a : Int) (l : Int) (u : Int) (v : Int)) = true := fun l e => by
      rw [e]
      unfold sHas
      rw [decide_eq_true (by omega), Bool.true_and, Int.toNat_natCast]
      exact hs
    rcases ha with rfl | rfl | rfl
    · rw [snX_0] at hl
      refine ⟨c % 6, by omega, fin _ ?_⟩
      rw [gOn_0, if_pos (by omega)]
      omega
    · rw [snX_1] at hl
      refine ⟨c / 6 % 6, by omega, fin _ ?_⟩
      rw [gOn_1, if_pos (by omega)]
      omega
    · rw [snX_2] at hl
      refine ⟨c / 36, by omega, fin _ ?_⟩
      rw [gOn_2, if_pos (by omega)]
      omega
theorem dk_x (hB : bxF f) (hD : rDk f g) {a u v : Nat} (hx : (a, u, v) ∈ lsA f 3) : dkP f (a, u, v) = gDi g (a : Int) (u : Int) (v : Int) := by
  have h1 := @lsA_p (rowM f) hB _ hx
  obtain ⟨q0, q1, q2⟩ := hB
  obtain ⟨p1, p2, p3, p4, p5, p6⟩ := h1
  dsimp only at p1 p2 p3 p4 p5 p6
  have e : ∀ k, rowM f 114 k = f k := fun k => rfl
  simp only [e] at p4 p6
  have hu : u < 6 := by split at p4 <;> omega
  have hv : v < 6 := by split at p6 <;> omega
  exact (di_e hD (by omega) hu hv).symm
theorem cb_e (hB : bxF f) (hD : rDk f g) : gCb (f 96) (f 97) (f 98) g = true ↔ cnQ f := by
  unfold gCb cnQ
  rw [Bool.not_eq_true', ← Bool.not_eq_true, sOr_iff]
  have hS : ∀ c, gMs (f 96) (f 97) (f 98) g c = true → c < 216 ∧ ((c % 6 : Nat) : Int) < f 96 ∧ ((c / 6 % 6 : Nat) : Int) < f 97 ∧ ((c / 36 : Nat) : Int) < f 98 := fun c h => ms_i h
  have hm : ∀ {a u v : Nat}, gPl (f 96) (f 97) (f 98) (a : Int) (u : Int) (v : Int) = true → (gHm (f 96) (f 97) (f 98) (gMs (f 96) (f 97) (f 98) g) (a : Int) (u : Int) (v : Int) = true ↔ ∃ c, c < 216 ∧ moB f c = true ∧ snX (a, u, v) c = true) := fun hp => by
    rw [hm_e hB hS hp]
    constructor
    · rintro ⟨c, h1, h2, h3⟩; exact ⟨c, h1, by rw [← ms_e hB hD h1]; exact h2, h3⟩
    · rintro ⟨c, h1, h2, h3⟩; exact ⟨c, h1, by rw [ms_e hB hD h1]; exact h2, h3⟩
  constructor
  · rintro h ⟨a, u, v⟩ hx hd
    have hp := (lsA_g hB).mp hx
    rw [dk_x hB hD hx] at hd
    refine (hm hp).mp ?_
    have hq := of_decide_eq_true hp
    obtain ⟨q0, q1, q2⟩ := hB
    have hu : (u : Int) < 6 := by have := hq.2.2.2.1; unfold gU at this; split at this <;> omega
    have hv : (v : Int) < 6 := by have := hq.2.2.2.2.2; unfold gV at this; split at this <;> omega
    cases e : gHm (f 96) (f 97) (f 98) (gMs (f 96) (f 97) (f 98) g) (a : Int) (u : Int) (v : Int)
    · refine absurd ⟨36 * a + 6 * u + v, by omega, ?_⟩ h
      rw [show ((36 * a + 6 * u + v : Nat) : Int) / 36 = (a : Int) by omega, show ((36 * a + 6 * u + v : Nat) : Int) / 6 % 6 = (u : Int) by omega, show ((36 * a + 6 * u + v : Nat) : Int) % 6 = (v : Int) by omega, hp, hd, e]
      rfl
    · rfl
  · rintro h ⟨l, hl, ht⟩
    rw [show (l : Int) / 36 = ((l / 36 : Nat) : Int) by omega, show (l : Int) / 6 % 6 = ((l / 6 % 6 : Nat) : Int) by omega, show (l : Int) % 6 = ((l % 6 : Nat) : Int) by omega, Bool.and_eq_true, Bool.and_eq_true, Bool.not_eq_true'] at ht
    obtain ⟨⟨t1, t2⟩, t3⟩ := ht
    have hx := (lsA_g hB).mpr t1
    rw [(hm t1).mpr (h _ hx (by rw [dk_x hB hD hx]; exact t2))] at t3
    cases t3
theorem cv_e (hB : bxF f) (hD : rDk f g) (hs : f 96 ≤ 3 ∧ f 97 ≤ 3 ∧ f 98 ≤ 3) {m : Nat} (hm : m < 1000) : gBz (f 96) (f 97) g (gMs (f 96) (f 97) (f 98) g) (f 98).toNat (bN 9 (gDf (f 96) (f 97) (f 98) g)) ≤ (m : Int) ↔ cvQ f m := by
  have hB' := hB
  obtain ⟨q0, q1, q2⟩ := hB'
  rw [gBz_le _ _ _ (by omega) (bN_lt 9 _) hm]
  unfold cvQ
  have tb : ∀ p, p < 9 → ((bN 9 (gDf (f 96) (f 97) (f 98) g)).testBit p = true ↔ (gPl (f 96) (f 97) (f 98) 2 ((p % 3 : Nat) : Int) ((p / 3 : Nat) : Int) = true ∧ gDi g 2 ((p % 3 : Nat) : Int) ((p / 3 : Nat) : Int) = true)) := fun p hp => by
    rw [bN_tb, decide_eq_true hp, Bool.true_and]
    unfold gDf
    rw [Bool.and_eq_true]
  have pl2 : ∀ u v : Nat, gPl (f 96) (f 97) (f 98) 2 (u : Int) (v : Int) = true ↔ ((u : Int) < f 96 ∧ (v : Int) < f 97) := fun u v => by
    unfold gPl gU gV
    rw [decide_eq_true_eq, if_neg (by decide), if_pos rfl]
    omega
  have pl0 : ∀ u v : Nat, gPl (f 96) (f 97) (f 98) ((0 : Nat) : Int) (u : Int) (v : Int) = true ↔ ((u : Int) < f 97 ∧ (v : Int) < f 98) := fun u v => by
    unfold gPl gU gV
    rw [decide_eq_true_eq, if_pos (show ((0 : Nat) : Int) = 0 from rfl), if_neg (show ¬ ((0 : Nat) : Int) = 2 by decide)]
    omega
  have pl1 : ∀ u v : Nat, gPl (f 96) (f 97) (f 98) ((1 : Nat) : Int) (u : Int) (v : Int) = true ↔ ((u : Int) < f 96 ∧ (v : Int) < f 98) := fun u v => by
    unfold gPl gU gV
    rw [decide_eq_true_eq, if_neg (show ¬ ((1 : Nat) : Int) = 0 by decide), if_neg (show ¬ ((1 : Nat) : Int) = 2 by decide)]
    omega
  have sn0 : ∀ u v c : Nat, snX (0, u, v) c = true ↔ (c / 6 % 6 = u ∧ c / 36 = v) := fun u v c => snX_0
  have sn1 : ∀ u v c : Nat, snX (1, u, v) c = true ↔ (c % 6 = u ∧ c / 36 = v) := fun u v c => snX_1
  have sn2 : ∀ u v c : Nat, snX (2, u, v) c = true ↔ (c % 6 = u ∧ c / 6 % 6 = v) := fun u v c => snX_2
  constructor
  · rintro ⟨X, x1, x2, x3, x4⟩
    refine ⟨X, x1, fun c hc => ?_, ?_⟩
    · obtain ⟨c1, -⟩ := x2 c hc
      have := (ms_i c1).1
      exact ⟨this, by rw [← ms_e hB hD this]; exact c1⟩
    · rintro ⟨a, u, v⟩ hx hd
      have hp := (lsA_g hB).mp hx
      rw [dk_x hB hD hx] at hd
      have ha := of_decide_eq_true hp
      have ha : a = 0 ∨ a = 1 ∨ a = 2 := by omega
      rcases ha with rfl | rfl | rfl
      · have := (pl0 u v).mp hp
        obtain ⟨c, c1, c2, c3⟩ := (x4 v (by omega) u (by omega)).1 this.1 hd
        exact ⟨c, c1, (sn0 u v c).mpr ⟨c3, c2⟩⟩
      · have := (pl1 u v).mp hp
        obtain ⟨c, c1, c2, c3⟩ := (x4 v (by omega) u (by omega)).2 this.1 hd
        exact ⟨c, c1, (sn1 u v c).mpr ⟨c3, c2⟩⟩
      · have := (pl2 u v).mp hp
        obtain ⟨c, c1, c2, c3⟩ := (x3 (3 * v + u) (by omega)).mp ((tb _ (by omega)).mpr (by
          rw [show (3 * v + u) % 3 = u by omega, show (3 * v + u) / 3 = v by omega]
          exact ⟨hp, hd⟩))
        exact ⟨c, c1, (sn2 u v c).mpr ⟨by omega, by omega⟩⟩
  · rintro ⟨X, x1, x2, x3⟩
    have x2' : ∀ c, c ∈ X → gMs (f 96) (f 97) (f 98) g c = true := fun c hc => by
      obtain ⟨c1, c2⟩ := x2 c hc
      rw [ms_e hB hD c1]; exact c2
    refine ⟨X, x1, fun c hc => ?_, fun p hp => ?_, fun i hi p hp => ⟨fun hy hd => ?_, fun hx hd => ?_⟩⟩
    · have h1 := x2' c hc
      have := ms_i h1
      exact ⟨h1, by omega, by omega, by omega⟩
    · rw [tb p hp]
      constructor
      · rintro ⟨t1, t2⟩
        have hx := (lsA_g (b := 2) hB).mpr t1
        obtain ⟨c, c1, c2⟩ := x3 _ hx (by rw [dk_x hB hD hx]; exact t2)
        exact ⟨c, c1, (sn2 _ _ c).mp c2⟩
      · rintro ⟨c, c1, c2, c3⟩
        have h1 := x2' c c1
        have h2 := ms_i h1
        have h3 := ms_d h1
        rw [← c2, ← c3]
        exact ⟨(pl2 _ _).mpr ⟨h2.2.1, h2.2.2.1⟩, h3⟩
    · have hx := (lsA_g (b := 0) hB).mpr ((pl0 p i).mpr ⟨hy, by omega⟩)
      obtain ⟨c, c1, c2⟩ := x3 _ hx (by rw [dk_x hB hD hx]; exact hd)
      have := (sn0 _ _ c).mp c2
      exact ⟨c, c1, this.2, this.1⟩
    · have hx' := (lsA_g (b := 1) hB).mpr ((pl1 p i).mpr ⟨hx, by omega⟩)
      obtain ⟨c, c1, c2⟩ := x3 _ hx' (by rw [dk_x hB hD hx']; exact hd)
      have := (sn1 _ _ c).mp c2
      exact ⟨c, c1, this.2, this.1⟩
/-- what views answers -/
noncomputable def viA (x y z : Int) (g : Nat → Int) (w : Int) : Int := if w = 0 then (sN 216 (gMs x y z g) : Int) else if w = 1 then vi_b (gCb x y z g) else if w = 2 then (sPc 216 (gMs x y z g) : Int) else if w = 3 then gLe x y z g else -1
theorem viA_e (hB : bxF f) (hD : rDk f g) {w : Int} : vwR f w (viA (f 96) (f 97) (f 98) g w) := by
  unfold vwR viA
  refine ⟨fun e => ?_, fun e => ?_, fun e => ?_, fun e => ?_⟩
  · rw [if_pos e, sN_c fun c hc => ms_e hB hD hc]
  · rw [if_neg (by omega), if_pos e]
    congr 1
    cases h : gCb (f 96) (f 97) (f 98) g
    · exact (dP_f fun h2 => by rw [(cb_e hB hD).mpr h2] at h; cases h).symm
    · exact (dP_t ((cb_e hB hD).mp h)).symm
  · rw [if_neg (by omega), if_neg (by omega), if_pos e, sPc_c fun c hc => ms_e hB hD hc]
  · rw [if_neg (by omega), if_neg (by omega), if_neg (by omega), if_pos e]
    unfold gLe
    refine ⟨fun h => ?_, fun ⟨h1, h2⟩ => ?_⟩
    · rw [if_neg fun k => h ⟨(cb_e hB hD).mp k.2.2.2, k.1, k.2.1, k.2.2.1⟩]
    · rw [if_pos ⟨h2.1, h2.2.1, h2.2.2, (cb_e hB hD).mpr h1⟩]
      have c27 := (cv_e hB hD h2 (m := 27) (by omega)).mpr (@cvQ_27 (rowM f) h2 h1)
      have h0 := gBz_b (x := f 96) (y := f 97) (f := g) (S := gMs (f 96) (f 97) (f 98) g) (f 98).toNat _ (bN_lt 9 (gDf (f 96) (f 97) (f 98) g))
      have hv := fun (m : Nat) (hm : m < 1000) => cv_e (m := m) hB hD h2 hm
      generalize gBz (f 96) (f 97) g (gMs (f 96) (f 97) (f 98) g) (f 98).toNat (bN 9 (gDf (f 96) (f 97) (f 98) g)) = r at *
      rw [if_pos (by omega)]
      refine ⟨r.toNat, by omega, (hv _ (by omega)).mp (by omega), fun j hj hc => ?_⟩
      have := (hv j (by omega)).mpr hc
      omega
theorem vwR_u {w r r' : Int} (hw : 0 ≤ w ∧ w ≤ 3) (h : vwR f w r) (h' : vwR f w r') : r = r' := by
  obtain ⟨a0, a1, a2, a3⟩ := h
  obtain ⟨b0, b1, b2, b3⟩ := h'
  by_cases e0 : w = 0
  · rw [a0 e0, b0 e0]
  · by_cases e1 : w = 1
    · rw [a1 e1, b1 e1]
    · by_cases e2 : w = 2
      · rw [a2 e2, b2 e2]
      · obtain ⟨c1, c2⟩ := a3 (by omega)
        obtain ⟨d1, d2⟩ := b3 (by omega)
        by_cases e : cnQ f ∧ f 96 ≤ 3 ∧ f 97 ≤ 3 ∧ f 98 ≤ 3
        · obtain ⟨n, n1, n2, n3⟩ := c2 e
          obtain ⟨m, m1, m2, m3⟩ := d2 e
          have h1 : ¬ m < n := fun k => n3 m k m2
          have h2 : ¬ n < m := fun k => m3 n k n2
          omega
        · rw [c1 e, d1 e]
end
section
variable {sc : Nat → Int} {ln t a n d : Nat} {CS : Nat → List gCla} {lw : Option (List gCla)} {Y : vi_Y} {M : vi_M} {nn : Nat × Nat} {K : Option vi_V → vi_W → Prop}
theorem k_212 (hY : kY Y 151) (h9 : kY9 Y) (hJ : jJ M) (hb : gB (M 30 8) (M 30 9) (M 30 10)) {w : Int} : ∃ M', cQ M M' ∧ jJ M' ∧ ∀ K : Option vi_V → vi_W → Prop, vi_call GG (d + 70) 212 [.inr (.inr 29), .inl w] (Y, M, nn) K ↔ K (some (.inl (viA (M 30 8) (M 30 9) (M 30 10) (M 37) w))) (Y, M', nn) := by
  obtain ⟨a1, a2, a3, a4, a5, a6, a7, a8, a9, a10, a11, a12⟩ := y_29 h9
  obtain ⟨z1, -⟩ := y_88 hY (by omega)
  obtain ⟨S90, j90⟩ := hJ.1 90 (by unfold jCe; omega)
  obtain ⟨S92, j92⟩ := hJ.1 92 (by unfold jCe; omega)
  obtain ⟨S94, j94⟩ := hJ.1 94 (by unfold jCe; omega)
  by_cases e0 : w = 0
  · have k178 := fun {K : Option vi_V → vi_W → Prop} => @k_178 (d + 65) K Y M nn S90 hY j90
    simp only [Nat.add_assoc, Nat.reduceAdd] at k178
    refine ⟨vi_rs M 90 (cR (gMs (M 30 8) (M 30 9) (M 30 10) (M 37))), ⟨fun p hp => vi_rs_o (by omega), by rw [vi_rs_o (by omega)]⟩, ⟨fun q hq => ?_, by rw [vi_rs_o (by omega)]; exact hJ.2⟩, fun K => vi_k (r := some (.inl _)) fun Q hQ => ?_⟩
    · by_cases e : q = 90
      · subst e; exact ⟨_, vi_rs_s⟩
      · rw [vi_rs_o e]; exact hJ.1 q hq
    · subst e0
      unfold viA at hQ
      rw [if_pos rfl] at hQ
      clear hJ j90 j92 j94 hb
      simp (disch := omega) only [Option.toList_some, Option.toList_none, List.nil_append, List.cons_append, List.append_nil, true_and, and_true, not_true_eq_false, not_false_eq_true, true_implies, false_implies, implies_true, and_self, Int.reduceLT, Int.reduceLE, Int.reduceEq, Int.reduceNe, Int.reduceAdd, Int.reduceSub, Int.reduceMul, Int.reduceNeg, Int.reduceToNat, Int.toNat_natCast, ↓kk_ck, ↓kk_im, ↓kk_in, e_212, s_212_0, s_212_32, s_212_40, s_212_50, s_212_54, s_212_55, s_212_56, s_212_64, s_212_72, s_212_36, s_212_44, s_212_60, s_212_68, s_212_39, s_212_47, s_212_63, s_212_71, a1, a8, z1, k178, ne_eq, vi_swp]
      exact hQ
  · by_cases e1 : w = 1
    · have k180 := fun {K : Option vi_V → vi_W → Prop} => @k_180 (d + 65) K Y M nn S90 hY hb j90
      simp only [Nat.add_assoc, Nat.reduceAdd] at k180
      refine ⟨vi_rs M 90 (cR (gMs (M 30 8) (M 30 9) (M 30 10) (M 37))), ⟨fun p hp => vi_rs_o (by omega), by rw [vi_rs_o (by omega)]⟩, ⟨fun q hq => ?_, by rw [vi_rs_o (by omega)]; exact hJ.2⟩, fun K => vi_k (r := some (.inl _)) fun Q hQ => ?_⟩
      · by_cases e : q = 90
        · subst e; exact ⟨_, vi_rs_s⟩
        · rw [vi_rs_o e]; exact hJ.1 q hq
      · subst e1
        unfold viA at hQ
        rw [if_neg (by decide), if_pos rfl] at hQ
        clear hJ j90 j92 j94 hb
        cases h : gCb (M 30 8) (M 30 9) (M 30 10) (M 37)
        · rw [h] at hQ
          simp (disch := omega) only [Option.toList_some, Option.toList_none, List.nil_append, List.cons_append, List.append_nil, true_and, and_true, not_true_eq_false, not_false_eq_true, true_implies, false_implies, implies_true, and_self, Int.reduceLT, Int.reduceLE, Int.reduceEq, Int.reduceNe, Int.reduceAdd, Int.reduceSub, Int.reduceMul, Int.reduceNeg, Int.reduceToNat, Int.toNat_natCast, ↓kk_ck, ↓kk_im, ↓kk_in, e_212, s_212_0, s_212_32, s_212_40, s_212_50, s_212_54, s_212_55, s_212_56, s_212_64, s_212_72, s_212_36, s_212_44, s_212_60, s_212_68, s_212_39, s_212_47, s_212_63, s_212_71, a1, a8, z1, k180, h, vi_bf, ne_eq, vi_swp]
          exact hQ
        · rw [h] at hQ
          simp (disch := omega) only [Option.toList_some, Option.toList_none, List.nil_append, List.cons_append, List.append_nil, true_and, and_true, not_true_eq_false, not_false_eq_true, true_implies, false_implies, implies_true, and_self, Int.reduceLT, Int.reduceLE, Int.reduceEq, Int.reduceNe, Int.reduceAdd, Int.reduceSub, Int.reduceMul, Int.reduceNeg, Int.reduceToNat, Int.toNat_natCast, ↓kk_ck, ↓kk_im, ↓kk_in, e_212, s_212_0, s_212_32, s_212_40, s_212_50, s_212_54, s_212_55, s_212_56, s_212_64, s_212_72, s_212_36, s_212_44, s_212_60, s_212_68, s_212_39, s_212_47, s_212_63, s_212_71, a1, a8, z1, k180, h, vi_bt, ne_eq, vi_swp]
          exact hQ
    · by_cases e2 : w = 2
      · obtain ⟨R', T', k179⟩ := @k_179 (d + 64) Y M nn S90 S92 S94 hY j90 j92 j94
        simp only [Nat.add_assoc, Nat.reduceAdd] at k179
        refine ⟨vi_rs (vi_rs (vi_rs M 90 (cR (gMs (M 30 8) (M 30 9) (M 30 10) (M 37)))) 92 (cR R')) 94 (cR T'), ⟨fun p hp => by rw [vi_rs_o (by omega), vi_rs_o (by omega), vi_rs_o (by omega)], by rw [vi_rs_o (by omega), vi_rs_o (by omega), vi_rs_o (by omega)]⟩, ⟨fun q hq => ?_, by rw [vi_rs_o (by omega), vi_rs_o (by omega), vi_rs_o (by omega)]; exact hJ.2⟩, fun K => vi_k (r := some (.inl _)) fun Q hQ => ?_⟩
        rotate_left
        · subst e2
          unfold viA at hQ
          rw [if_neg (by decide), if_neg (by decide), if_pos rfl] at hQ
          clear hJ j90 j92 j94 hb
          simp (disch := omega) only [Option.toList_some, Option.toList_none, List.nil_append, List.cons_append, List.append_nil, true_and, and_true, not_true_eq_false, not_false_eq_true, true_implies, false_implies, implies_true, and_self, Int.reduceLT, Int.reduceLE, Int.reduceEq, Int.reduceNe, Int.reduceAdd, Int.reduceSub, Int.reduceMul, Int.reduceNeg, Int.reduceToNat, Int.toNat_natCast, ↓kk_ck, ↓kk_im, ↓kk_in, e_212, s_212_0, s_212_32, s_212_40, s_212_50, s_212_54, s_212_55, s_212_56, s_212_64, s_212_72, s_212_36, s_212_44, s_212_60, s_212_68, s_212_39, s_212_47, s_212_63, s_212_71, a1, a8, z1, k179, ne_eq, vi_swp]
          exact hQ
        · by_cases e : q = 94
          · subst e; exact ⟨_, vi_rs_s⟩
          · rw [vi_rs_o e]
            by_cases e : q = 92
            · subst e; exact ⟨_, vi_rs_s⟩
            · rw [vi_rs_o e]
              by_cases e : q = 90
              · subst e; exact ⟨_, vi_rs_s⟩
              · rw [vi_rs_o e]; exact hJ.1 q hq
      · by_cases e3 : w = 3
        · obtain ⟨M', m1, m2, m3, k181⟩ := @k_181 (d + 64) Y M nn S90 hY hb j90 hJ.2
          simp only [Nat.add_assoc, Nat.reduceAdd] at k181
          refine ⟨M', ⟨fun p hp => m3 p (by omega) (by omega) (by omega) (by omega), by rw [m3 77 (by omega) (by omega) (by omega) (by omega)]⟩, ⟨fun q hq => ?_, m2⟩, fun K => vi_k (r := some (.inl _)) fun Q hQ => ?_⟩
          · by_cases e : q = 90
            · subst e; exact m1
            · rw [m3 q (by unfold jCe at hq; omega) e (by unfold jCe at hq; omega) (by unfold jCe at hq; omega)]; exact hJ.1 q hq
          · subst e3
            unfold viA at hQ
            rw [if_neg (by decide), if_neg (by decide), if_neg (by decide), if_pos rfl] at hQ
            clear hJ j90 j92 j94 hb m1 m2 m3
            simp (disch := omega) only [Option.toList_some, Option.toList_none, List.nil_append, List.cons_append, List.append_nil, true_and, and_true, not_true_eq_false, not_false_eq_true, true_implies, false_implies, implies_true, and_self, Int.reduceLT, Int.reduceLE, Int.reduceEq, Int.reduceNe, Int.reduceAdd, Int.reduceSub, Int.reduceMul, Int.reduceNeg, Int.reduceToNat, Int.toNat_natCast, ↓kk_ck, ↓kk_im, ↓kk_in, e_212, s_212_0, s_212_32, s_212_40, s_212_50, s_212_54, s_212_55, s_212_56, s_212_64, s_212_72, s_212_36, s_212_44, s_212_60, s_212_68, s_212_39, s_212_47, s_212_63, s_212_71, a1, a8, z1, k181, ne_eq, vi_swp]
            exact hQ
        · refine ⟨M, cQ_r, hJ, fun K => vi_k (r := some (.inl _)) fun Q hQ => ?_⟩
          unfold viA at hQ
          rw [if_neg e0, if_neg e1, if_neg e2, if_neg e3] at hQ
          clear hJ j90 j92 j94 hb
          simp (disch := omega) only [Option.toList_some, Option.toList_none, List.nil_append, List.cons_append, List.append_nil, true_and, and_true, not_true_eq_false, not_false_eq_true, true_implies, false_implies, implies_true, and_self, Int.reduceLT, Int.reduceLE, Int.reduceEq, Int.reduceNe, Int.reduceAdd, Int.reduceSub, Int.reduceMul, Int.reduceNeg, Int.reduceToNat, Int.toNat_natCast, ↓kk_ck, ↓kk_im, ↓kk_in, e_212, s_212_0, s_212_32, s_212_40, s_212_50, s_212_54, s_212_55, s_212_56, s_212_64, s_212_72, s_212_36, s_212_44, s_212_60, s_212_68, s_212_39, s_212_47, s_212_63, s_212_71, a1, e0, e1, e2, e3, vi_swp, ne_eq]
          exact hQ
theorem p_212 (hW : jW sc ln t a CS lw n Y M nn) {w : Int} : jPair sc ln t (d + 70) 212 327 [.inl w] (Y, M, nn) := by
  refine jPair_q hW fun K hK => ?_
  obtain ⟨LH, LR, LS, c1, c2, c3, c4⟩ := hW.2.2.2.1
  have cD := c1.2.2.2.2.1
  obtain ⟨s1, s2, s3, s4, hB, -⟩ := c1.2.2.2.2.2.2.1
  obtain ⟨M1, q1, q2, q3⟩ := @k_212 d Y M nn hW.1.1 hW.1.2.1 hW.2.2.2.2.2.2.2.2.2 (by rw [s1, s2, s3]; exact hB) w
  have hW1 := jW_q hW q1 q2
  rw [q3, s1, s2, s3]
  refine hK _ M1 hW1 fun K2 h2 => ?_
  have e' : M1 114 = M 114 := q1.1 114 (by omega)
  by_cases h : 0 ≤ w ∧ w ≤ 3
  · refine k_327 hW.1.1 (mBx_c e' hB) h (by omega) fun M' r hf hr => ?_
    rw [e'] at hr
    rw [← vwR_u h (viA_e hB cD) hr]
    refine h2 M' (jW_r hW1 (mFv_g hf) ?_)
    have hm := hW1.2.2.2.2.1
    have h112 : ∀ k, k ≠ 39 → M' 112 k = M1 112 k := fun k hk => by rw [hf 112 (by omega) (by omega) (by omega) (by omega)]; exact lsM_f hk
    exact ⟨mFv_k hf hm.1, mFv_d hf hm.2.1, by rw [h112 30 (by omega), h112 1 (by omega)]; exact hm.2.2.1, by rw [h112 42 (by omega), h112 1 (by omega)]; exact hm.2.2.2⟩
  · rw [k_327n hW.1.1 h (by omega)]
    have : viA (M 114 96) (M 114 97) (M 114 98) (M 37) w = -1 := by
      unfold viA
      rw [if_neg (by omega), if_neg (by omega), if_neg (by omega), if_neg (by omega)]
    rw [this] at h2
    exact h2 M1 hW1
end
