/-! A search for one cell more (reference): what is reached, and how. -/
def ed (fl : Nat → Int) (u v : Nat) : Prop := (u < 64 ∧ ∃ p, p < 64 ∧ v = 64 + p ∧ ftB u p 24 = true) ∨ (64 ≤ u ∧ u < 128 ∧ v < 64 ∧ 0 < fl (64 * v + (u - 64)))
def TI (s fl C : Nat → Int) (rk : Nat → Nat) : Prop := ∀ v, v < 128 → C v ≠ -1 → (C v = (v : Int) ∧ v < 64 ∧ 0 < s v) ∨ (∃ u : Nat, u < 128 ∧ C v = (u : Int) ∧ C u ≠ -1 ∧ rk u < rk v ∧ ed fl u v)
theorem TI_a {s fl C : Nat → Int} {rk : Nat → Nat} (h : TI s fl C rk) {a to : Nat} (ha : a < 128) (hC : C a ≠ -1) (ht : to < 128) (hn : C to = -1) (he : ed fl a to) : TI s fl (vi_u C to (a : Int)) (fun v => if v = to then rk a + 1 else rk v) := by
  have hat : a ≠ to := fun e => by rw [e] at hC; exact hC hn
  intro v hv hCv
  by_cases e : v = to
  · subst e
    right
    refine ⟨a, ha, vi_u_s, by rw [vi_u_o hat]; exact hC, ?_, he⟩
    dsimp only
    rw [if_pos rfl, if_neg hat]; omega
  · rw [vi_u_o e] at hCv ⊢
    rcases h v hv hCv with h1 | ⟨u, h1, h2, h3, h4, h5⟩
    · exact .inl h1
    · right
      have hut : u ≠ to := fun e => by rw [e] at h3; exact h3 hn
      refine ⟨u, h1, h2, by rw [vi_u_o hut]; exact h3, ?_, h5⟩
      dsimp only
      rw [if_neg e, if_neg hut]; exact h4
def BI (s d fl C L : Nat → Int) (n x : Nat) : Prop :=
  (∀ i, i < n → ∃ v : Nat, L i = (v : Int) ∧ v < 128 ∧ C v ≠ -1) ∧ (∀ v, v < 128 → C v ≠ -1 → ∃ i, i < n ∧ L i = (v : Int)) ∧ sN 128 (fun v => decide (C v ≠ -1)) = n ∧
  (∃ rk, TI s fl C rk) ∧ (∀ r, r < 64 → 0 < s r → C r ≠ -1) ∧ (∀ i, i < x → ∀ v, ed fl (L i).toNat v → C v ≠ -1) ∧ (∀ p, p < 64 → C (64 + p) ≠ -1 → d p = 0) ∧ x ≤ n
theorem BI_le {s d fl C L : Nat → Int} {n x : Nat} (h : BI s d fl C L n x) : n ≤ 128 := by rw [← h.2.2.1]; exact sN_le _ _
theorem BI_new {s d fl C L : Nat → Int} {n x : Nat} (h : BI s d fl C L n x) {v : Nat} (hv : v < 128) (hn : C v = -1) : n < 128 := by
  have h1 := sN_lt (k := 128) (f := fun v => decide (C v ≠ -1)) (g := fun _ => true) (fun _ _ _ => rfl) hv (decide_eq_false (fun k => k hn)) rfl
  have h2 := sN_le 128 (fun _ => true)
  rw [h.2.2.1] at h1
  omega
theorem BI_a {s d fl C L : Nat → Int} {n x : Nat} (h : BI s d fl C L n x) {a to : Nat} (ha : a < 128) (hC : C a ≠ -1) (ht : to < 128) (hn : C to = -1) (he : ed fl a to) (hd : ∀ p, to = 64 + p → d p = 0) : BI s d fl (vi_u C to (a : Int)) (vi_u L n (to : Int)) (n + 1) x := by
  obtain ⟨b1, b2, b3, ⟨rk, b4⟩, b5, b6, b7, b8⟩ := h
  have up : ∀ v, C v ≠ -1 → vi_u C to (a : Int) v ≠ -1 := fun v hv => by
    by_cases e : v = to
    · rw [e, vi_u_s]; omega
    · rw [vi_u_o e]; exact hv
  refine ⟨fun i hi => ?_, fun v hv hv2 => ?_, ?_, ⟨_, TI_a b4 ha hC ht hn he⟩, fun r hr hs => up r (b5 r hr hs), fun i hi v hv => ?_, fun p hp hv => ?_, by omega⟩
  · by_cases e : i = n
    · rw [e, vi_u_s]
      exact ⟨to, rfl, ht, by rw [vi_u_s]; omega⟩
    · rw [vi_u_o e]
      obtain ⟨v, v1, v2, v3⟩ := b1 i (by omega)
      exact ⟨v, v1, v2, up v v3⟩
  · by_cases e : v = to
    · exact ⟨n, by omega, by rw [vi_u_s, e]⟩
    · rw [vi_u_o e] at hv2
      obtain ⟨i, i1, i2⟩ := b2 v hv hv2
      exact ⟨i, by omega, by rw [vi_u_o (by omega)]; exact i2⟩
  · rw [← b3]
    refine sN_1 (j := to) ht (decide_eq_false (fun k => k hn)) (decide_eq_true (by rw [vi_u_s]; omega)) fun i hi hib => ?_
    have e : vi_u C to (a : Int) i = C i := vi_u_o hib
    simp only [e]
  · rw [vi_u_o (by omega)] at hv
    exact up v (b6 i hi v hv)
  · by_cases e : 64 + p = to
    · exact hd p e.symm
    · rw [vi_u_o e] at hv
      exact b7 p hp hv
theorem BI_s {s d fl C L : Nat → Int} {n x : Nat} (h : BI s d fl C L n x) (hx : x < n) (hc : ∀ v, ed fl (L x).toNat v → C v ≠ -1) : BI s d fl C L n (x + 1) := by
  obtain ⟨b1, b2, b3, b4, b5, b6, b7, b8⟩ := h
  refine ⟨b1, b2, b3, b4, b5, fun i hi v hv => ?_, b7, by omega⟩
  by_cases e : i = x
  · rw [e] at hv; exact hc v hv
  · exact b6 i (by omega) v hv
theorem BI_e {S0 D0 s d fl C L : Nat → Int} {n : Nat} (h : BI s d fl C L n n) (hF : FX S0 D0 128 s d fl) : ∃ R, tot fl = cutF S0 D0 R := by
  obtain ⟨b1, b2, b3, b4, b5, b6, b7, b8⟩ := h
  refine ⟨fun r => decide (C r ≠ -1), FX_eq hF (P := fun p => decide (C (64 + p) ≠ -1)) (fun r hr hR => ?_) (fun r p hr hp hR hf => ?_) (fun p hp hP => b7 p hp (of_decide_eq_true hP)) (fun r p hr hp hP hf => ?_)⟩
  · have h0 := hF.1 r hr
    have : ¬ 0 < s r := fun k => by
      have := b5 r hr k
      exact absurd (decide_eq_true this) (by rw [hR]; simp)
    omega
  · obtain ⟨i, i1, i2⟩ := b2 r (by omega) (of_decide_eq_true hR)
    exact decide_eq_true (b6 i i1 (64 + p) (by rw [i2, Int.toNat_natCast]; exact .inl ⟨hr, p, hp, rfl, hf⟩))
  · obtain ⟨i, i1, i2⟩ := b2 (64 + p) (by omega) (of_decide_eq_true hP)
    exact decide_eq_true (b6 i i1 r (by rw [i2, Int.toNat_natCast]; exact .inr ⟨by omega, by omega, hr, by rw [show 64 + p - 64 = p by omega]; exact hf⟩))
/-- the roots, so far -/
def RI (s C L : Nat → Int) (n k : Nat) : Prop := (∀ v, v < 128 → C v = if v < k ∧ s v ≠ 0 then (v : Int) else -1) ∧ (∀ i, i < n → ∃ v : Nat, L i = (v : Int) ∧ v < k ∧ s v ≠ 0) ∧ (∀ v, v < k → s v ≠ 0 → ∃ i, i < n ∧ L i = (v : Int)) ∧ sN k (fun v => decide (s v ≠ 0)) = n
theorem RI_n {s C L : Nat → Int} {n k : Nat} (h : RI s C L n k) (hs : s k = 0) : RI s C L n (k + 1) := by
  obtain ⟨h1, h2, h3, h4⟩ := h
  refine ⟨fun v hv => ?_, fun i hi => ?_, fun v hv hv2 => ?_, ?_⟩
  · rw [h1 v hv]
    by_cases e : v = k
    · rw [e, if_neg (by omega), if_neg (fun q => q.2 hs)]
    · by_cases q : v < k ∧ s v ≠ 0
      · rw [if_pos q, if_pos ⟨by omega, q.2⟩]
      · rw [if_neg q, if_neg (fun q2 => q ⟨by omega, q2.2⟩)]
  · obtain ⟨v, a, b, c⟩ := h2 i hi
    exact ⟨v, a, by omega, c⟩
  · by_cases e : v = k
    · rw [e] at hv2; exact absurd hs hv2
    · exact h3 v (by omega) hv2
  · rw [sN, h4, decide_eq_false (fun q => q hs)]; rfl
theorem RI_a {s C L : Nat → Int} {n k : Nat} (h : RI s C L n k) (hk : k < 64) (hs : s k ≠ 0) : RI s (vi_u C k (k : Int)) (vi_u L n (k : Int)) (n + 1) (k + 1) := by
  obtain ⟨h1, h2, h3, h4⟩ := h
  refine ⟨fun v hv => ?_, fun i hi => ?_, fun v hv hv2 => ?_, ?_⟩
  · by_cases e : v = k
    · rw [e, vi_u_s, if_pos ⟨by omega, hs⟩]
    · rw [vi_u_o e, h1 v hv]
      by_cases q : v < k ∧ s v ≠ 0
      · rw [if_pos q, if_pos ⟨by omega, q.2⟩]
      · rw [if_neg q, if_neg (fun q2 => q ⟨by omega, q2.2⟩)]
  · by_cases e : i = n
    · rw [e, vi_u_s]; exact ⟨k, rfl, by omega, hs⟩
    · rw [vi_u_o e]
      obtain ⟨v, a, b, c⟩ := h2 i (by omega)
      exact ⟨v, a, by omega, c⟩
  · by_cases e : v = k
    · exact ⟨n, by omega, by rw [vi_u_s, e]⟩
    · obtain ⟨i, i1, i2⟩ := h3 v (by omega) hv2
      exact ⟨i, by omega, by rw [vi_u_o (by omega)]; exact i2⟩
  · rw [sN, h4, decide_eq_true hs]; rfl
theorem RI_e {s d fl C L : Nat → Int} {n : Nat} (h : RI s C L n 64) (h0 : ∀ r, r < 64 → 0 ≤ s r) : BI s d fl C L n 0 := by
  obtain ⟨h1, h2, h3, h4⟩ := h
  have c1 : ∀ v, v < 128 → (C v ≠ -1 ↔ v < 64 ∧ s v ≠ 0) := fun v hv => by
    rw [h1 v hv]
    by_cases q : v < 64 ∧ s v ≠ 0
    · rw [if_pos q]; exact ⟨fun _ => q, fun _ => by omega⟩
    · rw [if_neg q]; exact ⟨fun k => absurd rfl k, fun k => absurd k q⟩
  refine ⟨fun i hi => ?_, fun v hv hv2 => ?_, ?_, ⟨fun _ => 0, fun v hv hv2 => ?_⟩, fun r hr hs => (c1 r (by omega)).mpr ⟨hr, by omega⟩, fun i hi => by omega, fun p hp hv => ?_, Nat.zero_le _⟩
  · obtain ⟨v, a, b, c⟩ := h2 i hi
    exact ⟨v, a, by omega, (c1 v (by omega)).mpr ⟨b, c⟩⟩
  · obtain ⟨a, b⟩ := (c1 v hv).mp hv2
    exact h3 v a b
  · rw [← h4]
    have : ∀ e : Nat, e ≤ 64 → sN (64 + e) (fun v => decide (C v ≠ -1)) = sN 64 (fun v => decide (C v ≠ -1)) := by
      intro e
      induction e with
      | zero => intro _; rfl
      | succ e ih =>
        intro he
        rw [← Nat.add_assoc, sN, ih (by omega), decide_eq_false (fun k => by have := (c1 (64 + e) (by omega)).mp k; omega)]
        rfl
    rw [show 128 = 64 + 64 from rfl, this 64 (by omega)]
    refine sN_c fun v hv => ?_
    rw [decide_eq_decide, c1 v (by omega)]
    exact ⟨fun k => k.2, fun k => ⟨hv, k⟩⟩
  · left
    obtain ⟨a, b⟩ := (c1 v hv).mp hv2
    have := h0 v a
    refine ⟨?_, a, by omega⟩
    rw [h1 v hv, if_pos ⟨a, b⟩]
  · have := (c1 (64 + p) (by omega)).mp hv
    omega
theorem sU_m {f : Nat → Int} : ∀ (k i : Nat), (∀ j, j < k → 0 ≤ f j) → i < k → f i ≤ sU k f
  | 0, i, _, hi => by omega
  | k + 1, i, h, hi => by
    rw [sU]
    have h0 := sU_0 k fun j hj => h j (by omega)
    by_cases e : i = k
    · rw [e]; omega
    · have := sU_m k i (fun j hj => h j (by omega)) (by omega)
      have := h k (by omega)
      omega
theorem FX_b {S0 D0 s d fl : Nat → Int} {a : Nat} (h : FX S0 D0 a s d fl) (hS : ∀ r, r < 64 → S0 r ≤ 1000) (hDd : ∀ p, p < 64 → D0 p ≤ 1000) : (∀ r, r < 64 → s r ≤ 1001) ∧ (∀ p, p < 64 → d p ≤ 1000) ∧ ∀ r p, r < 64 → p < 64 → fl (64 * r + p) ≤ 1001 := by
  obtain ⟨h1, h2, h3, h4, h5⟩ := h
  refine ⟨fun r hr => ?_, fun p hp => ?_, fun r p hr hp => ?_⟩
  · have a1 := h4 r hr
    have a2 := hS r hr
    have a3 := sU_0 (f := fun p => fl (64 * r + p)) 64 fun p hp => (h3 r p hr hp).1
    split at a1 <;> omega
  · have a1 := h5 p hp
    have a2 := hDd p hp
    have a3 := sU_0 (f := fun r => fl (64 * r + p)) 64 fun r hr => (h3 r p hr hp).1
    split at a1 <;> omega
  · have a1 := h4 r hr
    have a2 := hS r hr
    have a3 := h1 r hr
    have a4 := sU_m (f := fun p => fl (64 * r + p)) 64 p (fun p hp => (h3 r p hr hp).1) hp

    split at a1 <;> omega
