/-! Steps of a LAW: what rows of steps come to, piece by piece. -/
def r1 (st W : Nat → Int) (a : Nat) (o : Int) (h : Nat) (g : Nat → Int) : Option (Int × Nat × (Nat → Int)) :=
  if (a : Int) < o then some (o, h, g)
  else if st a % 256 ≤ 6 then (if h < 64 then some (o, h + 1, vi_u g h (if st a % 256 = 0 then st a / 256 else W (st a % 256).toNat)) else none)
  else if 14 ≤ st a % 256 then (if h = 0 then none else if st a % 256 = 14 then some (o, h, vi_u g (h - 1) (1 - g (h - 1)))
    else if g (h - 1) = (if st a % 256 = 16 then 1 else 0) then some (st a / 256, h, g) else some (o, h - 1, g))
  else if h < 2 then none else if lJn (st a % 256) (g (h - 2)) (g (h - 1)) < -1000000000 ∨ 1000000000 < lJn (st a % 256) (g (h - 2)) (g (h - 1)) then none
    else some (o, h - 1, vi_u g (h - 2) (lJn (st a % 256) (g (h - 2)) (g (h - 1))))
def rQ (st W : Nat → Int) : Nat → Nat → Int → Nat → (Nat → Int) → Option (Int × Nat × (Nat → Int))
  | 0, _, o, h, g => some (o, h, g)
  | k + 1, a, o, h, g => match r1 st W a o h g with
    | none => none
    | some (o', h', g') => rQ st W k (a + 1) o' h' g'
theorem rS_r1 {st W : Nat → Int} {k a : Nat} {o : Int} {h : Nat} {g : Nat → Int} : rS st W (k + 1) a o h g = match r1 st W a o h g with
    | none => rB
    | some (o', h', g') => rS st W k (a + 1) o' h' g' := by
  rw [rS]
  unfold r1
  by_cases h1 : (a : Int) < o
  · simp only [if_pos h1]
  · simp only [if_neg h1]
    by_cases h2 : st a % 256 ≤ 6
    · simp only [if_pos h2]
      by_cases h3 : h < 64
      · simp only [if_pos h3]
      · simp only [if_neg h3]
    · simp only [if_neg h2]
      by_cases h3 : 14 ≤ st a % 256
      · simp only [if_pos h3]
        by_cases h4 : h = 0
        · simp only [if_pos h4]
        · simp only [if_neg h4]
          by_cases h5 : st a % 256 = 14
          · simp only [if_pos h5]
          · simp only [if_neg h5]
            by_cases h6 : g (h - 1) = (if st a % 256 = 16 then 1 else 0)
            · simp only [if_pos h6]
            · simp only [if_neg h6]
      · simp only [if_neg h3]
        by_cases h4 : h < 2
        · simp only [if_pos h4]
        · simp only [if_neg h4]
          by_cases h5 : lJn (st a % 256) (g (h - 2)) (g (h - 1)) < -1000000000 ∨ 1000000000 < lJn (st a % 256) (g (h - 2)) (g (h - 1))
          · simp only [if_pos h5]
          · simp only [if_neg h5]
theorem rS_rQ {st W : Nat → Int} : ∀ (k r a : Nat) (o : Int) (h : Nat) (g : Nat → Int), rS st W (k + r) a o h g = match rQ st W k a o h g with
    | none => rB
    | some (o', h', g') => rS st W r (a + k) o' h' g'
  | 0, r, a, o, h, g => by rw [Nat.zero_add]; rfl
  | k + 1, r, a, o, h, g => by
    rw [show k + 1 + r = k + r + 1 by omega, rS_r1, rQ]
    cases hr : r1 st W a o h g with
    | none => rfl
    | some x =>
      obtain ⟨o', h', g'⟩ := x
      dsimp only
      rw [rS_rQ k r (a + 1) o' h' g', show a + 1 + k = a + (k + 1) by omega]
theorem rQ_add {st W : Nat → Int} : ∀ (k j a : Nat) (o : Int) (h : Nat) (g : Nat → Int), rQ st W (k + j) a o h g = match rQ st W k a o h g with
    | none => none
    | some (o', h', g') => rQ st W j (a + k) o' h' g'
  | 0, j, a, o, h, g => by rw [Nat.zero_add]; rfl
  | k + 1, j, a, o, h, g => by
    rw [show k + 1 + j = k + j + 1 by omega, rQ, rQ]
    cases hr : r1 st W a o h g with
    | none => rfl
    | some x =>
      obtain ⟨o', h', g'⟩ := x
      dsimp only
      rw [rQ_add k j (a + 1) o' h' g', show a + 1 + k = a + (k + 1) by omega]
theorem rQ_c {st st' W : Nat → Int} : ∀ (k a : Nat) (o : Int) (h : Nat) (g : Nat → Int), (∀ i, a ≤ i → i < a + k → st i = st' i) → rQ st W k a o h g = rQ st' W k a o h g
  | 0, _, _, _, _, _ => rfl
  | k + 1, a, o, h, g, hh => by
    rw [rQ, rQ]
    have e : r1 st W a o h g = r1 st' W a o h g := by unfold r1; rw [hh a (by omega) (by omega)]
    rw [e]
    cases hr : r1 st' W a o h g with
    | none => rfl
    | some x => exact rQ_c k (a + 1) _ _ _ (fun i h1 h2 => hh i (by omega) (by omega))
theorem rQ_k {st W : Nat → Int} : ∀ (k a : Nat) (o : Int) (h : Nat) (g : Nat → Int), ((a + k : Nat) : Int) ≤ o → rQ st W k a o h g = some (o, h, g)
  | 0, _, _, _, _, _ => rfl
  | k + 1, a, o, h, g, hh => by
    have e : r1 st W a o h g = some (o, h, g) := by unfold r1; rw [if_pos (by omega)]
    rw [rQ, e]
    exact rQ_k k (a + 1) o h g (by omega)
/-- the steps from S to S' tell den, on k more places of the stack -/
def cSeg (st : Nat → Int) (S S' k : Nat) (den : gDen) : Prop := S ≤ S' ∧ 1 ≤ k ∧ ∀ (W : Nat → Int) (h : Nat) (g : Nat → Int) (o : Int), h + k ≤ 64 → o ≤ (S : Int) →
  (den W = none → rQ st W (S' - S) S o h g = none) ∧ ∀ v, den W = some v → ∃ (o' : Int) (g' : Nat → Int), o' ≤ (S' : Int) ∧ (∀ i, i < h → g' i = g i) ∧ g' h = v ∧ rQ st W (S' - S) S o h g = some (o', h + 1, g')
/-- a chain of "and" (key 0), "or" (key 1) that is not yet at its end T -/
def cCh (st : Nat → Int) (S S' k : Nat) (den : gDen) (T : Nat) (key : Int) : Prop := S ≤ S' ∧ 1 ≤ k ∧ ∀ (W : Nat → Int) (h : Nat) (g : Nat → Int) (o : Int), h + k ≤ 64 → o ≤ (S : Int) →
  (den W = none → rQ st W (S' - S) S o h g = none) ∧ ∀ v, den W = some v → ∃ (o' : Int) (g' : Nat → Int), (o' ≤ (S' : Int) ∨ (o' = (T : Int) ∧ v = key)) ∧ (∀ i, i < h → g' i = g i) ∧ g' h = v ∧ rQ st W (S' - S) S o h g = some (o', h + 1, g')
theorem cSeg_c {st st' : Nat → Int} {S S' k : Nat} {den : gDen} (h : cSeg st S S' k den) (hs : ∀ i, S ≤ i → i < S' → st i = st' i) : cSeg st' S S' k den := by
  obtain ⟨h1, h2, h3⟩ := h
  refine ⟨h1, h2, fun W hh g o a b => ?_⟩
  rw [← rQ_c (st := st) _ _ _ _ _ (fun i k1 k2 => hs i k1 (by omega))]
  exact h3 W hh g o a b
theorem cCh_c {st st' : Nat → Int} {S S' k T : Nat} {key : Int} {den : gDen} (h : cCh st S S' k den T key) (hs : ∀ i, S ≤ i → i < S' → st i = st' i) : cCh st' S S' k den T key := by
  obtain ⟨h1, h2, h3⟩ := h
  refine ⟨h1, h2, fun W hh g o a b => ?_⟩
  rw [← rQ_c (st := st) _ _ _ _ _ (fun i k1 k2 => hs i k1 (by omega))]
  exact h3 W hh g o a b
theorem cSeg_1 {st : Nat → Int} {S : Nat} {den : gDen} (h6 : 0 ≤ st S % 256 ∧ st S % 256 ≤ 6) (hd : ∀ W, den W = some (if st S % 256 = 0 then st S / 256 else W (st S % 256).toNat)) : cSeg st S (S + 1) 1 den := by
  refine ⟨by omega, by omega, fun W h g o hk ho => ⟨fun e => (by rw [hd] at e; cases e), fun v e => ?_⟩⟩
  rw [hd] at e
  cases e
  have e1 : S + 1 - S = 0 + 1 := by omega
  rw [e1, rQ]
  have e2 : r1 st W S o h g = some (o, h + 1, vi_u g h (if st S % 256 = 0 then st S / 256 else W (st S % 256).toNat)) := by
    unfold r1
    rw [if_neg (by omega), if_pos h6.2, if_pos (by omega)]
  rw [e2]
  exact ⟨o, _, by omega, fun i hi => vi_u_o (by omega), vi_u_s, rfl⟩
theorem rQ_two {st W : Nat → Int} {S S1 S2 : Nat} {o : Int} {h : Nat} {g : Nat → Int} (h1 : S ≤ S1) (h2 : S1 ≤ S2) : rQ st W (S2 - S) S o h g = match rQ st W (S1 - S) S o h g with
    | none => none
    | some (o', h', g') => rQ st W (S2 - S1) S1 o' h' g' := by
  rw [show S2 - S = (S1 - S) + (S2 - S1) by omega, rQ_add, show S + (S1 - S) = S1 by omega]
theorem rQ_one {st W : Nat → Int} {S : Nat} {o : Int} {h : Nat} {g : Nat → Int} : rQ st W (S + 1 - S) S o h g = r1 st W S o h g := by
  rw [show S + 1 - S = 0 + 1 by omega, rQ]
  cases r1 st W S o h g with
  | none => rfl
  | some x => rfl
theorem cSeg_j {st : Nat → Int} {S S1 S2 k1 k2 : Nat} {a b : gDen} (h1 : cSeg st S S1 k1 a) (h2 : cSeg st S1 S2 k2 b) {kd : Int} (hk : 7 ≤ kd ∧ kd ≤ 13) (hs : st S2 % 256 = kd) : cSeg st S (S2 + 1) (k1 + k2) (dJ kd a b) := by
  obtain ⟨a1, a2, a3⟩ := h1
  obtain ⟨b1, b2, b3⟩ := h2
  refine ⟨by omega, by omega, fun W h g o hh ho => ?_⟩
  obtain ⟨n1, s1⟩ := a3 W h g o (by omega) ho
  rw [rQ_two (S1 := S1) a1 (by omega)]
  unfold dJ
  cases ha : a W with
  | none =>
    rw [n1 ha]
    exact ⟨fun _ => rfl, fun v e => by cases e⟩
  | some x =>
    obtain ⟨o1, g1, e1, e2, e3, e4⟩ := s1 x ha
    rw [e4]
    dsimp only
    rw [rQ_two (S1 := S2) b1 (by omega)]
    obtain ⟨n2, s2⟩ := b3 W (h + 1) g1 o1 (by omega) e1
    cases hb : b W with
    | none =>
      rw [n2 hb]
      exact ⟨fun _ => rfl, fun v e => by cases e⟩
    | some y =>
      obtain ⟨o2, g2, f1, f2, f3, f4⟩ := s2 y hb
      rw [f4]
      dsimp only
      rw [rQ_one]
      have gx : g2 h = x := by rw [f2 h (by omega), e3]
      have er : r1 st W S2 o2 (h + 1 + 1) g2 = if lJn kd x y < -1000000000 ∨ 1000000000 < lJn kd x y then none else some (o2, h + 1, vi_u g2 h (lJn kd x y)) := by
        unfold r1
        rw [if_neg (by omega), if_neg (by omega), if_neg (by omega), if_neg (by omega), hs, show h + 1 + 1 - 2 = h by omega, show h + 1 + 1 - 1 = h + 1 by omega, gx, f3]
      rw [er]
      by_cases hr : lJn kd x y < -1000000000 ∨ 1000000000 < lJn kd x y
      · rw [if_pos hr, if_pos hr]
        exact ⟨fun _ => rfl, fun v e => by cases e⟩
      · rw [if_neg hr, if_neg hr]
        refine ⟨fun e => (by cases e), fun v e => ?_⟩
        cases e
        exact ⟨o2, _, by omega, fun i hi => by rw [vi_u_o (by omega), f2 i (by omega), e2 i hi], vi_u_s, rfl⟩
theorem cSeg_n {st : Nat → Int} {S S1 k : Nat} {a : gDen} (h1 : cSeg st S S1 k a) (hs : st S1 % 256 = 14) : cSeg st S (S1 + 1) k (dN a) := by
  obtain ⟨a1, a2, a3⟩ := h1
  refine ⟨by omega, by omega, fun W h g o hh ho => ?_⟩
  obtain ⟨n1, s1⟩ := a3 W h g o (by omega) ho
  rw [rQ_two (S1 := S1) a1 (by omega)]
  unfold dN
  cases ha : a W with
  | none =>
    rw [n1 ha]
    exact ⟨fun _ => rfl, fun v e => by cases e⟩
  | some x =>
    obtain ⟨o1, g1, e1, e2, e3, e4⟩ := s1 x ha
    rw [e4]
    dsimp only
    rw [rQ_one]
    have er : r1 st W S1 o1 (h + 1) g1 = some (o1, h + 1, vi_u g1 h (1 - x)) := by
      unfold r1
      rw [if_neg (by omega), if_neg (by omega), if_pos (by omega), if_neg (by omega), if_pos hs, show h + 1 - 1 = h by omega, e3]
    rw [er]
    refine ⟨fun e => (by cases e), fun v e => ?_⟩
    cases e
    exact ⟨o1, _, by omega, fun i hi => by rw [vi_u_o (by omega), e2 i hi], vi_u_s, rfl⟩
theorem cCh_of {st : Nat → Int} {S S' k T : Nat} {key : Int} {a : gDen} (h : cSeg st S S' k a) : cCh st S S' k a T key := by
  obtain ⟨a1, a2, a3⟩ := h
  refine ⟨a1, a2, fun W h g o hh ho => ?_⟩
  obtain ⟨n1, s1⟩ := a3 W h g o hh ho
  refine ⟨n1, fun v e => ?_⟩
  obtain ⟨o1, g1, e1, e2⟩ := s1 v e
  exact ⟨o1, g1, .inl e1, e2⟩
theorem cCh_e {st : Nat → Int} {S S' k : Nat} {key : Int} {a : gDen} (h : cCh st S S' k a S' key) : cSeg st S S' k a := by
  obtain ⟨a1, a2, a3⟩ := h
  refine ⟨a1, a2, fun W h g o hh ho => ?_⟩
  obtain ⟨n1, s1⟩ := a3 W h g o hh ho
  refine ⟨n1, fun v e => ?_⟩
  obtain ⟨o1, g1, e1, e2⟩ := s1 v e
  exact ⟨o1, g1, by omega, e2⟩
theorem cCh_s {st : Nat → Int} {S S1 S2 k1 k2 T : Nat} {key : Int} {a b : gDen} (h1 : cCh st S S1 k1 a T key) (h2 : cSeg st (S1 + 1) S2 k2 b) (hT : S2 ≤ T) (hk : (key = 0 ∧ st S1 % 256 = 15) ∨ (key = 1 ∧ st S1 % 256 = 16)) (ht : st S1 / 256 = (T : Int)) : cCh st S S2 (k1 + k2) (dA key a b) T key := by
  obtain ⟨a1, a2, a3⟩ := h1
  obtain ⟨b1, b2, b3⟩ := h2
  refine ⟨by omega, by omega, fun W h g o hh ho => ?_⟩
  obtain ⟨n1, s1⟩ := a3 W h g o (by omega) ho
  rw [rQ_two (S1 := S1) a1 (by omega)]
  unfold dA
  cases ha : a W with
  | none =>
    rw [n1 ha]
    exact ⟨fun _ => rfl, fun v e => by cases e⟩
  | some x =>
    obtain ⟨o1, g1, e1, e2, e3, e4⟩ := s1 x ha
    rw [e4]
    dsimp only
    rw [rQ_two (S := S1) (S1 := S1 + 1) (by omega) (by omega), rQ_one]
    have key16 : (if st S1 % 256 = 16 then (1 : Int) else 0) = key := by
      rcases hk with ⟨k1, k2⟩ | ⟨k1, k2⟩
      · rw [k2, k1]; rfl
      · rw [k2, k1]; rfl
    rcases e1 with e1 | ⟨e1, ex⟩
    · by_cases hx : x = key
      · have er : r1 st W S1 o1 (h + 1) g1 = some ((T : Int), h + 1, g1) := by
          unfold r1
          rw [if_neg (by omega), if_neg (by omega), if_pos (by omega), if_neg (by omega), if_neg (by omega), show h + 1 - 1 = h by omega, e3, key16, if_pos hx, ht]
        rw [er, if_pos hx]
        dsimp only
        rw [rQ_k _ _ _ _ _ (by omega)]
        refine ⟨fun e => (by cases e), fun v e => ?_⟩
        cases e
        exact ⟨_, _, .inr ⟨rfl, hx⟩, e2, e3, rfl⟩
      · have er : r1 st W S1 o1 (h + 1) g1 = some (o1, h, g1) := by
          unfold r1
          rw [if_neg (by omega), if_neg (by omega), if_pos (by omega), if_neg (by omega), if_neg (by omega), show h + 1 - 1 = h by omega, e3, key16, if_neg hx]
        rw [er, if_neg hx]
        dsimp only
        obtain ⟨n2, s2⟩ := b3 W h g1 o1 (by omega) (by omega)
        refine ⟨n2, fun v e => ?_⟩
        obtain ⟨o2, g2, f1, f2, f3, f4⟩ := s2 v e
        exact ⟨o2, g2, .inl f1, fun i hi => by rw [f2 i hi, e2 i hi], f3, f4⟩
    · have er : r1 st W S1 o1 (h + 1) g1 = some (o1, h + 1, g1) := by
        unfold r1
        rw [if_pos (by omega)]
      rw [er, if_pos ex]
      dsimp only
      rw [rQ_k _ _ _ _ _ (by omega)]
      refine ⟨fun e => (by cases e), fun v e => ?_⟩
      cases e
      exact ⟨_, _, .inr ⟨e1, ex⟩, e2, e3, rfl⟩
/-- jumps that tell the one ahead of them; the last one first -/
def lnk (st : Nat → Int) : List Nat → Int → Prop
  | [], x => x = 0
  | j :: J, x => x = (j : Int) + 1 ∧ (∀ i, i ∈ J → i < j) ∧ lnk st J (st j / 256)
def aim (st : Nat → Int) (J : List Nat) (T : Nat) : Nat → Int := fun a => if a ∈ J then st a % 256 + 256 * (T : Int) else st a
theorem lnk_c {st st' : Nat → Int} : ∀ {J : List Nat} {x : Int}, (∀ j, j ∈ J → st j = st' j) → lnk st J x → lnk st' J x
  | [], _, _, h => h
  | j :: J, x, hs, h => ⟨h.1, h.2.1, by rw [← hs j (List.mem_cons_self ..)]; exact lnk_c (fun j hj => hs j (List.mem_cons_of_mem _ hj)) h.2.2⟩
theorem lnk_len {st : Nat → Int} : ∀ {J : List Nat} {x : Int} {S : Nat}, lnk st J x → (∀ j, j ∈ J → j < S) → J.length ≤ S
  | [], _, _, _, _ => Nat.zero_le _
  | j :: J, x, S, h, hs => by
    have h1 := lnk_len (S := j) h.2.2 h.2.1
    have h2 := hs j (List.mem_cons_self ..)
    rw [List.length_cons]
    omega
theorem aim_cons {st : Nat → Int} {j : Nat} {J : List Nat} {T : Nat} (hJ : ∀ i, i ∈ J → i < j) : aim (vi_u st j (st j % 256 + 256 * (T : Int))) J T = aim st (j :: J) T := by
  funext a
  unfold aim
  by_cases h : a = j
  · subst h
    rw [if_neg (fun k => absurd (hJ a k) (Nat.lt_irrefl a)), if_pos (List.mem_cons_self ..), vi_u_s]
  · rw [vi_u_o h]
    by_cases h2 : a ∈ J
    · rw [if_pos h2, if_pos (List.mem_cons_of_mem _ h2)]
    · rw [if_neg h2, if_neg (fun k => by rcases List.mem_cons.mp k with k | k; exact h k; exact h2 k)]
/-- a whole clause part: run by itself from nothing -/
theorem cSeg_r {st W : Nat → Int} {S S' k : Nat} {den : gDen} (h : cSeg st S S' k den) (hk : k ≤ 64) (g : Nat → Int) : rS st W (S' - S) S (S : Int) 0 g = (match den W with
    | none => rB
    | some v => v) := by
  obtain ⟨h1, h2, h3⟩ := h
  obtain ⟨n1, s1⟩ := h3 W 0 g (S : Int) (by omega) (by omega)
  have := rS_rQ (st := st) (W := W) (S' - S) 0 S (S : Int) 0 g
  rw [Nat.add_zero] at this
  rw [this]
  cases hd : den W with
  | none => rw [n1 hd]
  | some v =>
    obtain ⟨o1, g1, -, -, e3, e4⟩ := s1 v hd
    rw [e4]
    dsimp only
    rw [rS, if_pos rfl, e3]
