/-! Contracts of the reference, fifth part: what a kept law's tokens tell of a HOLE. -/
def eRow (f : Nat → Int) (g : Nat) (bk : Int) : Nat → Int := fun k => if k = 19 then (g : Int) else if k = 21 then bk else f k
theorem eRow_19 {f : Nat → Int} {g j : Nat} {bk : Int} : vi_u (eRow f g bk) 19 (j : Int) = eRow f j bk := by
  funext k
  unfold vi_u eRow
  by_cases h : k = 19
  · simp only [if_pos h]
  · simp only [if_neg h]
theorem eRow_21 {f : Nat → Int} {g : Nat} {bk x : Int} : vi_u (eRow f g bk) 21 x = eRow f g x := by
  funext k
  unfold vi_u eRow
  by_cases h : k = 21
  · subst h; rfl
  · simp only [if_neg h]
/-- a kept law's tokens, from B to e, and what is asked of -/
def eOk (M : vi_M) (f : Nat → Int) (B e : Nat) (cd vl W : Nat → Int) : Prop := (e ≤ 2400 ∧ e ≤ B + 400) ∧ f 20 = (e : Int) ∧ (∀ i, B + i < e → M 114 (303 + (B + i)) = cd i ∧ M 114 (2703 + (B + i)) = vl i) ∧ (∀ i, e ≤ B + i → cd i = 0) ∧ (∀ k, k < 6 → M 123 k = W (k + 1)) ∧ (∀ i, 0 ≤ vl i) ∧ (∀ k, -1000000000 ≤ W k ∧ W k ≤ 1000000000)
theorem eOk_r {M : vi_M} {f : Nat → Int} {B e : Nat} {cd vl W : Nat → Int} (h : eOk M f B e cd vl W) {g : Nat → Int} : eOk (vi_rs M 112 g) f B e cd vl W := by
  unfold eOk
  rw [vi_rs_o (by omega), vi_rs_o (by omega)]
  exact h
theorem eOk_i {M : vi_M} {f : Nat → Int} {B e : Nat} {cd vl W : Nat → Int} (h : eOk M f B e cd vl W) {i : Nat} (hc : cd i ≠ 0) : B + i < e := Nat.lt_of_not_le fun k => hc (h.2.2.2.1 i k)
/-- what comes out: (alive, broken before, what the text tells, the answer, broken after) -/
def eOut (lv bk : Int) (o : Option Int) (v bk' : Int) : Prop := (bk' = 0 ∨ bk' = 1) ∧ (¬ (lv = 1 ∧ bk = 0) → bk' = bk) ∧ (lv = 1 → bk = 0 → (∀ x, o = some x → v = x ∧ bk' = 0 ∧ -1000000000 ≤ x ∧ x ≤ 1000000000) ∧ (o = none → bk' = 1))
/-- bounded -/
def eBd (lv bk z v bk' : Int) : Prop := (bk' = 0 ∨ bk' = 1) ∧ (¬ (lv = 1 ∧ bk = 0) → bk' = bk) ∧ (lv = 1 → bk = 0 → (-1000000000 ≤ z → z ≤ 1000000000 → v = z ∧ bk' = 0) ∧ (z < -1000000000 ∨ 1000000000 < z → bk' = 1))
theorem eOut_J {lv b0 b1 b2 b3 x y z v : Int} {k : Int} {a c : gDen} {W : Nat → Int} (h1 : eOut lv b0 (a W) x b1) (h2 : eOut lv b1 (c W) y b2) (h3 : eBd lv b2 z v b3) (hz : -1000000000 ≤ x → x ≤ 1000000000 → -1000000000 ≤ y → y ≤ 1000000000 → z = lJn k x y) : eOut lv b0 (dJ k a c W) v b3 := by
  obtain ⟨p1, p2, p3⟩ := h1
  obtain ⟨q1, q2, q3⟩ := h2
  obtain ⟨r1, r2, r3⟩ := h3
  refine ⟨r1, fun h => ?_, fun hl h0 => ?_⟩
  · have e1 := p2 h
    rw [e1] at q2
    have e2 := q2 h
    rw [e2] at r2
    exact r2 h
  · obtain ⟨s1, s2⟩ := p3 hl h0
    unfold dJ
    cases ha : a W with
    | none =>
      have e1 := s2 ha
      have e2 := q2 (by omega)
      have e3 := r2 (by omega)
      exact ⟨fun x hx => (by cases hx), fun _ => by omega⟩
    | some x' =>
      obtain ⟨rfl, e1, x0, x1⟩ := s1 _ ha
      obtain ⟨t1, t2⟩ := q3 hl e1
      dsimp only
      cases hc : c W with
      | none =>
        have e2 := t2 hc
        have e3 := r2 (by omega)
        exact ⟨fun x hx => (by cases hx), fun _ => by omega⟩
      | some y' =>
        obtain ⟨rfl, e2, y0, y1⟩ := t1 _ hc
        obtain ⟨u1, u2⟩ := r3 hl e2
        have hz' := hz x0 x1 y0 y1
        dsimp only
        rw [← hz']
        by_cases hb : z < -1000000000 ∨ 1000000000 < z
        · rw [if_pos hb]
          exact ⟨fun x hx => (by cases hx), fun _ => u2 hb⟩
        · rw [if_neg hb]
          refine ⟨fun w hw => ?_, fun hw => (by cases hw)⟩
          have hw' := Option.some.inj hw
          have := u1 (by omega) (by omega)
          exact ⟨by omega, by omega, by omega, by omega⟩
/-- a division by 0 -/
theorem eOut_D {lv b0 b1 b2 b2' b3 x z v : Int} {a c : gDen} {W : Nat → Int} (hlv : lv = 0 ∨ lv = 1) (h1 : eOut lv b0 (a W) x b1) (h2 : eOut lv b1 (c W) 0 b2) (hb : b2' = if b2 = 0 then lv else 1) (h3 : eBd lv b2' z v b3) : eOut lv b0 (dJ 10 a c W) v b3 := by
  obtain ⟨p1, p2, p3⟩ := h1
  obtain ⟨q1, q2, q3⟩ := h2
  obtain ⟨r1, r2, r3⟩ := h3
  refine ⟨r1, fun h => ?_, fun hl h0 => ?_⟩
  · have e1 := p2 h
    rw [e1] at q2
    have e2 := q2 h
    split at hb <;> have := r2 (by omega) <;> omega
  · obtain ⟨s1, s2⟩ := p3 hl h0
    have e3 : b3 = 1 := by split at hb <;> have := r2 (by omega) <;> omega
    unfold dJ
    cases ha : a W with
    | none => exact ⟨fun x hx => (by cases hx), fun _ => e3⟩
    | some x' =>
      obtain ⟨rfl, e1, -⟩ := s1 _ ha
      obtain ⟨t1, t2⟩ := q3 hl e1
      dsimp only
      cases hc : c W with
      | none => exact ⟨fun x hx => (by cases hx), fun _ => e3⟩
      | some y' =>
        obtain ⟨rfl, -⟩ := t1 _ hc
        dsimp only
        rw [show lJn 10 x 0 = rB from rfl, if_pos (by decide)]
        exact ⟨fun x hx => (by cases hx), fun _ => e3⟩
/-- "and", "or": the second is alive only where it can still matter -/
theorem eOut_A {key lv lv2 b0 b1 b2 x y z : Int} {a c : gDen} {W : Nat → Int} (h1 : eOut lv b0 (a W) x b1) (hx : x = 0 ∨ x = 1) (hlv : lv2 = if x = key then 0 else lv) (h2 : eOut lv2 b1 (c W) y b2) (hz : z = if x = key then x else y) : eOut lv b0 (dA key a c W) z b2 := by
  obtain ⟨p1, p2, p3⟩ := h1
  obtain ⟨q1, q2, q3⟩ := h2
  refine ⟨q1, fun h => ?_, fun hl h0 => ?_⟩
  · have e1 := p2 h
    have := q2 (by split at hlv <;> omega)
    omega
  · obtain ⟨s1, s2⟩ := p3 hl h0
    unfold dA
    cases ha : a W with
    | none =>
      have e1 := s2 ha
      have e2 := q2 (by omega)
      exact ⟨fun x hx => (by cases hx), fun _ => by omega⟩
    | some x' =>
      obtain ⟨rfl, e1, x0, x1⟩ := s1 _ ha
      dsimp only
      by_cases hk : x = key
      · rw [if_pos hk]
        rw [if_pos hk] at hlv hz
        have e2 := q2 (by omega)
        refine ⟨fun w hw => ?_, fun hw => (by cases hw)⟩
        have hw' := Option.some.inj hw
        exact ⟨by omega, by omega, by omega, by omega⟩
      · rw [if_neg hk]
        rw [if_neg hk] at hlv hz
        obtain ⟨t1, t2⟩ := q3 (by omega) e1
        refine ⟨fun w hw => ?_, t2⟩
        have := t1 w hw
        exact ⟨by omega, by omega, by omega, by omega⟩
theorem eOut_N {lv b0 b1 x z : Int} {a : gDen} {W : Nat → Int} (h1 : eOut lv b0 (a W) x b1) (hx : x = 0 ∨ x = 1) (hz : z = 1 - x) : eOut lv b0 (dN a W) z b1 := by
  obtain ⟨p1, p2, p3⟩ := h1
  refine ⟨p1, p2, fun hl h0 => ?_⟩
  obtain ⟨s1, s2⟩ := p3 hl h0
  unfold dN
  cases ha : a W with
  | none => exact ⟨fun x hx => (by cases hx), fun _ => s2 ha⟩
  | some x' =>
    obtain ⟨rfl, e1, x0, x1⟩ := s1 _ ha
    refine ⟨fun w hw => ?_, fun hw => (by cases hw)⟩
    have hw' := Option.some.inj hw
    exact ⟨by omega, by omega, by omega, by omega⟩
section
variable {D : Nat} {K : Option vi_V → vi_W → Prop} {Y : vi_Y} {M : vi_M} {nn : Nat × Nat} {B e g fu : Nat} {cd vl W f : Nat → Int}
theorem k_281 (hY : kY Y 151) (hE : eOk M f B e cd vl W) {i : Nat} {bk : Int} (h112 : M 112 = eRow f g bk) (hD : 1 ≤ D) : vi_call GG D 281 [.inr (.inr 112), .inl ((B + i : Nat) : Int)] (Y, M, nn) K ↔ K (some (.inl (cd i))) (Y, M, nn) := by
  obtain ⟨D, rfl⟩ : ∃ k, D = k + 1 := ⟨D - 1, by omega⟩
  obtain ⟨R1, -, R3, -⟩ := y_112 hY (by omega)
  obtain ⟨w1, w2⟩ := y_114 hY (by omega)
  have h20 : M 112 20 = (e : Int) := by rw [h112]; exact hE.2.1
  have he := hE.1
  refine vi_k (r := some (.inl _)) fun Q hQ => ?_
  by_cases h : B + i < e
  · have hp := (hE.2.2.1 i h).1
    have a : (303 + ((B + i : Nat) : Int)).toNat = 303 + (B + i) := by omega
    simp (disch := omega) only [Option.toList_some, Option.toList_none, List.nil_append, List.cons_append, List.append_nil, true_and, and_true, not_true_eq_false, not_false_eq_true, true_implies, false_implies, implies_true, and_self, Int.reduceLT, Int.reduceLE, Int.reduceEq, Int.reduceNe, Int.reduceAdd, Int.reduceSub, Int.reduceMul, Int.reduceNeg, Int.reduceToNat, Int.toNat_natCast, ↓kk_ck, ↓kk_im, ↓kk_in, e_281, s_281_0, s_281_8, s_281_21, s_281_22, s_281_5, s_281_12, s_281_17, s_281_18, R1, R3, w1, w2, h20, vi_32, a, hp]
    exact hQ
  · rw [hE.2.2.2.1 i (by omega)] at hQ
    simp (disch := omega) only [Option.toList_some, Option.toList_none, List.nil_append, List.cons_append, List.append_nil, true_and, and_true, not_true_eq_false, not_false_eq_true, true_implies, false_implies, implies_true, and_self, Int.reduceLT, Int.reduceLE, Int.reduceEq, Int.reduceNe, Int.reduceAdd, Int.reduceSub, Int.reduceMul, Int.reduceNeg, Int.reduceToNat, Int.toNat_natCast, ↓kk_ck, ↓kk_im, ↓kk_in, e_281, s_281_0, s_281_8, s_281_21, s_281_22, s_281_5, s_281_12, s_281_17, s_281_18, R1, h20]
    exact hQ
theorem k_282 (hY : kY Y 151) (hE : eOk M f B e cd vl W) {i : Nat} {bk c : Int} (hc : c ≠ 0) (h112 : M 112 = eRow f (B + i) bk) (hD : 2 ≤ D) : vi_call GG D 282 [.inr (.inr 112), .inl c] (Y, M, nn) K ↔ K (some (.inl (vi_b (decide (cd i = c))))) (Y, vi_rs M 112 (eRow f (if cd i = c then B + (i + 1) else B + i) bk), nn) := by
  obtain ⟨D, rfl⟩ : ∃ k, D = k + 1 := ⟨D - 1, by omega⟩
  obtain ⟨R1, -⟩ := y_112 hY (by omega)
  have h19 : M 112 19 = ((B + i : Nat) : Int) := by rw [h112]; rfl
  have he := hE.1
  refine vi_k (r := some (.inl _)) fun Q hQ => ?_
  by_cases h : cd i = c
  · have hi := eOk_i hE (i := i) (by omega)
    rw [decide_eq_true h, if_pos h, ← eRow_19 (g := B + i), ← h112] at hQ
    have e1 : ((B + i + 1 : Nat) : Int) = ((B + (i + 1) : Nat) : Int) := by omega
    simp (disch := omega) only [Option.toList_some, Option.toList_none, List.nil_append, List.cons_append, List.append_nil, true_and, and_true, not_true_eq_false, not_false_eq_true, true_implies, false_implies, implies_true, and_self, Int.reduceLT, Int.reduceLE, Int.reduceEq, Int.reduceNe, Int.reduceAdd, Int.reduceSub, Int.reduceMul, Int.reduceNeg, Int.reduceToNat, Int.toNat_natCast, ↓kk_ck, ↓kk_im, ↓kk_in, e_282, s_282_0, s_282_12, s_282_16, s_282_17, s_282_22, s_282_32, s_282_5, s_282_27, s_282_8, R1, h19, k_281 hY hE h112, h, ne_eq, vi_ms_rs, vi_inc, e1]
    exact hQ
  · rw [decide_eq_false h, if_neg h, vi_rs_id h112] at hQ
    simp (disch := omega) only [Option.toList_some, Option.toList_none, List.nil_append, List.cons_append, List.append_nil, true_and, and_true, not_true_eq_false, not_false_eq_true, true_implies, false_implies, implies_true, and_self, Int.reduceLT, Int.reduceLE, Int.reduceEq, Int.reduceNe, Int.reduceAdd, Int.reduceSub, Int.reduceMul, Int.reduceNeg, Int.reduceToNat, Int.toNat_natCast, ↓kk_ck, ↓kk_im, ↓kk_in, e_282, s_282_0, s_282_12, s_282_16, s_282_17, s_282_22, s_282_32, s_282_5, s_282_27, s_282_8, R1, h19, k_281 hY hE h112, h, ne_eq]
    exact hQ
theorem k_283 (hY : kY Y 151) {bk z lv : Int} (h112 : M 112 = eRow f g bk) (hD : 1 ≤ D) (hlv : lv = 0 ∨ lv = 1) (hbk : bk = 0 ∨ bk = 1) {Q : Option vi_V → vi_W → Prop} (hQ : ∀ v b', eBd lv bk z v b' → Q (some (.inr (.inl v))) (Y, vi_rs M 112 (eRow f g b'), nn)) : vi_call GG D 283 [.inr (.inr 112), .inr (.inl z), .inl lv] (Y, M, nn) Q := by
  obtain ⟨D, rfl⟩ : ∃ k, D = k + 1 := ⟨D - 1, by omega⟩
  obtain ⟨R1, -⟩ := y_112 hY (by omega)
  have h21 : M 112 21 = bk := by rw [h112]; rfl
  have e1 : vi_u (M 112) 21 1 = eRow f g 1 := by rw [h112]; exact eRow_21
  have v21 : eRow f g 1 21 = 1 := rfl
  by_cases hin : -1000000000 ≤ z ∧ z ≤ 1000000000 ∨ lv = 0
  · rcases hbk with rfl | rfl
    · have := hQ z 0 ⟨.inl rfl, fun _ => rfl, fun h1 h2 => ⟨fun _ _ => ⟨rfl, rfl⟩, fun h => by omega⟩⟩
      rw [vi_rs_id h112] at this
      clear hQ
      rcases hlv with rfl | rfl
      · simp (disch := omega) only [Option.toList_some, Option.toList_none, List.nil_append, List.cons_append, List.append_nil, true_and, and_true, not_true_eq_false, not_false_eq_true, true_implies, false_implies, implies_true, and_self, Int.reduceLT, Int.reduceLE, Int.reduceEq, Int.reduceNe, Int.reduceAdd, Int.reduceSub, Int.reduceMul, Int.reduceNeg, Int.reduceToNat, Int.toNat_natCast, ↓kk_ck, ↓kk_im, ↓kk_in, e_283, s_283_0, s_283_4, s_283_12, s_283_20, s_283_25, s_283_32, s_283_36, s_283_37, s_283_9, s_283_17, s_283_29, R1, h21]
        exact this
      · obtain ⟨z0, z1⟩ : -1000000000 ≤ z ∧ z ≤ 1000000000 := by omega
        simp (disch := omega) only [Option.toList_some, Option.toList_none, List.nil_append, List.cons_append, List.append_nil, true_and, and_true, not_true_eq_false, not_false_eq_true, true_implies, false_implies, implies_true, and_self, Int.reduceLT, Int.reduceLE, Int.reduceEq, Int.reduceNe, Int.reduceAdd, Int.reduceSub, Int.reduceMul, Int.reduceNeg, Int.reduceToNat, Int.toNat_natCast, ↓kk_ck, ↓kk_im, ↓kk_in, e_283, s_283_0, s_283_4, s_283_12, s_283_20, s_283_25, s_283_32, s_283_36, s_283_37, s_283_9, s_283_17, s_283_29, R1, h21, vi_cmp', vi_cmge]
        exact this
    · have := hQ 0 1 ⟨.inr rfl, fun _ => rfl, fun h1 h2 => by omega⟩
      rw [vi_rs_id h112] at this
      clear hQ
      rcases hlv with rfl | rfl
      · simp (disch := omega) only [Option.toList_some, Option.toList_none, List.nil_append, List.cons_append, List.append_nil, true_and, and_true, not_true_eq_false, not_false_eq_true, true_implies, false_implies, implies_true, and_self, Int.reduceLT, Int.reduceLE, Int.reduceEq, Int.reduceNe, Int.reduceAdd, Int.reduceSub, Int.reduceMul, Int.reduceNeg, Int.reduceToNat, Int.toNat_natCast, ↓kk_ck, ↓kk_im, ↓kk_in, e_283, s_283_0, s_283_4, s_283_12, s_283_20, s_283_25, s_283_32, s_283_36, s_283_37, s_283_9, s_283_17, s_283_29, R1, h21]
        exact this
      · obtain ⟨z0, z1⟩ : -1000000000 ≤ z ∧ z ≤ 1000000000 := by omega
        simp (disch := omega) only [Option.toList_some, Option.toList_none, List.nil_append, List.cons_append, List.append_nil, true_and, and_true, not_true_eq_false, not_false_eq_true, true_implies, false_implies, implies_true, and_self, Int.reduceLT, Int.reduceLE, Int.reduceEq, Int.reduceNe, Int.reduceAdd, Int.reduceSub, Int.reduceMul, Int.reduceNeg, Int.reduceToNat, Int.toNat_natCast, ↓kk_ck, ↓kk_im, ↓kk_in, e_283, s_283_0, s_283_4, s_283_12, s_283_20, s_283_25, s_283_32, s_283_36, s_283_37, s_283_9, s_283_17, s_283_29, R1, h21, vi_cmp', vi_cmge]
        exact this
  · have hz : z < -1000000000 ∨ 1000000000 < z := by omega
    obtain rfl : lv = 1 := by omega
    have := hQ 0 1 ⟨.inr rfl, fun h => by omega, fun h1 h2 => ⟨fun h3 h4 => by omega, fun _ => rfl⟩⟩
    clear hQ
    rcases hz with hz | hz
    · simp (disch := omega) only [Option.toList_some, Option.toList_none, List.nil_append, List.cons_append, List.append_nil, true_and, and_true, not_true_eq_false, not_false_eq_true, true_implies, false_implies, implies_true, and_self, Int.reduceLT, Int.reduceLE, Int.reduceEq, Int.reduceNe, Int.reduceAdd, Int.reduceSub, Int.reduceMul, Int.reduceNeg, Int.reduceToNat, Int.toNat_natCast, ↓kk_ck, ↓kk_im, ↓kk_in, e_283, s_283_0, s_283_4, s_283_12, s_283_20, s_283_25, s_283_32, s_283_36, s_283_37, s_283_9, s_283_17, s_283_29, R1, vi_cmp', vi_cmge, vi_ms_rs, vi_rs_s, e1, v21]
      exact this
    · simp (disch := omega) only [Option.toList_some, Option.toList_none, List.nil_append, List.cons_append, List.append_nil, true_and, and_true, not_true_eq_false, not_false_eq_true, true_implies, false_implies, implies_true, and_self, Int.reduceLT, Int.reduceLE, Int.reduceEq, Int.reduceNe, Int.reduceAdd, Int.reduceSub, Int.reduceMul, Int.reduceNeg, Int.reduceToNat, Int.toNat_natCast, ↓kk_ck, ↓kk_im, ↓kk_in, e_283, s_283_0, s_283_4, s_283_12, s_283_20, s_283_25, s_283_32, s_283_36, s_283_37, s_283_9, s_283_17, s_283_29, R1, vi_cmp', vi_cmge, vi_ms_rs, vi_rs_s, e1, v21]
      exact this
end
/-- a method of sums evaluates the mode's place -/
def eS (Y : vi_Y) (nn : Nat × Nat) (f : Nat → Int) (B e : Nat) (cd vl W : Nat → Int) (fu m mode rk : Nat) : Prop := ∀ (D dp i l : Nat) (lv bk : Int) (M : vi_M) (a : gDen) (i' l' : Nat) (c : gDen) (Q : Option vi_V → vi_W → Prop), rdP cd vl fu mode dp i l a = some (true, i', l', c) → dp ≤ 8 → 4 * (8 - dp) + rk ≤ D → eOk M f B e cd vl W → M 112 = eRow f (B + i) bk → (lv = 0 ∨ lv = 1) → (bk = 0 ∨ bk = 1) → (∀ v bk', eOut lv bk (c W) v bk' → Q (some (.inr (.inl v))) (Y, vi_rs M 112 (eRow f (B + i') bk'), nn)) → vi_call GG D m [.inr (.inr 112), .inl lv] (Y, M, nn) Q
/-- a method of tests -/
def eT (Y : vi_Y) (nn : Nat × Nat) (f : Nat → Int) (B e : Nat) (cd vl W : Nat → Int) (fu m mode rk : Nat) : Prop := ∀ (D dp i l : Nat) (lv bk : Int) (M : vi_M) (a : gDen) (i' l' : Nat) (c : gDen) (Q : Option vi_V → vi_W → Prop), rdP cd vl fu mode dp i l a = some (true, i', l', c) → dp ≤ 8 → 4 * (8 - dp) + rk ≤ D → eOk M f B e cd vl W → M 112 = eRow f (B + i) bk → (lv = 0 ∨ lv = 1) → (bk = 0 ∨ bk = 1) → (∀ v bk', (v = 0 ∨ v = 1) → eOut lv bk (c W) v bk' → Q (some (.inl v)) (Y, vi_rs M 112 (eRow f (B + i') bk'), nn)) → vi_call GG D m [.inr (.inr 112), .inl lv] (Y, M, nn) Q
/-- what goes on in sums, from the loop's head (pc 6) -/
def eL (Y : vi_Y) (nn : Nat × Nat) (f : Nat → Int) (B e : Nat) (cd vl W : Nat → Int) (fu m mode rk : Nat) : Prop := ∀ (D dp i l : Nat) (lv b0 bk x : Int) (M : vi_M) (a : gDen) (i' l' : Nat) (c : gDen) (l4 l5 l6 : Option vi_V) (Q : Option vi_V → vi_W → Prop), rdP cd vl fu mode dp i l a = some (true, i', l', c) → dp ≤ 8 → 4 * (8 - dp) + rk ≤ D → eOk M f B e cd vl W → M 112 = eRow f (B + i) bk → (lv = 0 ∨ lv = 1) → (b0 = 0 ∨ b0 = 1) → eOut lv b0 (a W) x bk → (∀ v bk', eOut lv b0 (c W) v bk' → Q (some (.inr (.inl v))) (Y, vi_rs M 112 (eRow f (B + i') bk'), nn)) → vi_ok GG D m 6 [some (.inr (.inr 112)), some (.inl lv), some (.inr (.inl x)), none, l4, l5, l6] [] (Y, M, nn) Q
/-- what goes on in tests, from the loop's head (pc 6) -/
def eG (Y : vi_Y) (nn : Nat × Nat) (f : Nat → Int) (B e : Nat) (cd vl W : Nat → Int) (fu m mode rk : Nat) : Prop := ∀ (D dp i l : Nat) (lv b0 bk x : Int) (M : vi_M) (a : gDen) (i' l' : Nat) (c : gDen) (l3 : Option vi_V) (Q : Option vi_V → vi_W → Prop), rdP cd vl fu mode dp i l a = some (true, i', l', c) → dp ≤ 8 → 4 * (8 - dp) + rk ≤ D → eOk M f B e cd vl W → M 112 = eRow f (B + i) bk → (lv = 0 ∨ lv = 1) → (b0 = 0 ∨ b0 = 1) → (x = 0 ∨ x = 1) → eOut lv b0 (a W) x bk → (∀ v bk', (v = 0 ∨ v = 1) → eOut lv b0 (c W) v bk' → Q (some (.inl v)) (Y, vi_rs M 112 (eRow f (B + i') bk'), nn)) → vi_ok GG D m 6 [some (.inr (.inr 112)), some (.inl lv), some (.inl x), l3] [] (Y, M, nn) Q
section
variable {Y : vi_Y} {nn : Nat × Nat} {B e fu : Nat} {cd vl W f : Nat → Int}
theorem eL7_s (hY : kY Y 151) (i0h : eS Y nn f B e cd vl W fu 285 1 4) (ihh : eL Y nn f B e cd vl W fu 284 7 4) : eL Y nn f B e cd vl W (fu + 1) 284 7 4 := by
  intro D dp i l lv b0 bk x M a i' l' c l4 l5 l6 Q hg hdp hD hE h112 hlv hb0 ho hQ
  obtain ⟨R1, -⟩ := y_112 hY (by omega)
  have h19 : M 112 19 = ((B + i : Nat) : Int) := by rw [h112]; rfl
  have he := hE.1
  rw [rdP] at hg
  by_cases hc : cd i = 143 ∨ cd i = 145
  · rw [if_pos hc] at hg
    have hi := eOk_i hE (i := i) (by omega)
    have e9 : vi_u (M 112) 19 ((B + i + 1 : Nat) : Int) = eRow f (B + (i + 1)) bk := by rw [h112]; exact eRow_19
    generalize hM1 : vi_rs M 112 (eRow f (B + (i + 1)) bk) = M1
    have m1 : M1 112 = eRow f (B + (i + 1)) bk := by rw [← hM1, vi_rs_s]
    have E1 : eOk M1 f B e cd vl W := by rw [← hM1]; exact eOk_r hE
    have e1 : ∀ g, vi_rs M1 112 g = vi_rs M 112 g := fun g => by rw [← hM1, vi_rs_rs]
    have cont : vi_call GG D 285 [.inr (.inr 112), .inl lv] (Y, M1, nn) (fun r w' => vi_ok GG D 284 76 [some (.inr (.inr 112)), some (.inl lv), some (.inr (.inl x)), none, some (.inl (if cd i = 143 then 1 else 0)), l5, l6] r.toList w' Q) := by
      cases hr : rdP cd vl fu 1 dp (i + 1) l a with
      | none => rw [hr] at hg; cases hg
      | some r0 =>
        obtain ⟨ok, i2, l2, c2⟩ := r0
        rw [hr] at hg
        cases ok with
        | false => cases hg
        | true =>
          dsimp only at hg
          refine i0h D dp (i + 1) l lv bk M1 a i2 l2 c2 _ hr hdp hD E1 m1 hlv ho.1 fun y b2 hy => ?_
          rw [e1]
          have nxt : ∀ z v b3 k, k = (if cd i = 143 then 7 else 8) → eBd lv b2 z v b3 → (-1000000000 ≤ x → x ≤ 1000000000 → -1000000000 ≤ y → y ≤ 1000000000 → z = lJn k x y) → ∀ l4, vi_ok GG D 284 6 [some (.inr (.inr 112)), some (.inl lv), some (.inr (.inl v)), none, l4, some (.inr (.inl y)), none] [] (Y, vi_rs (vi_rs M 112 (eRow f (B + i2) b2)) 112 (eRow f (B + i2) b3), nn) Q := by
            intro z v b3 k hk hb hz l4
            rw [vi_rs_rs]
            refine ihh D dp i2 l2 lv b0 b3 v _ _ i' l' c l4 _ _ Q hg hdp hD (eOk_r hE) vi_rs_s hlv hb0 (hk ▸ eOut_J ho hy hb hz) fun v' b4 hv => ?_
            rw [vi_rs_rs]
            exact hQ v' b4 hv
          clear ihh i0h hQ hg
          by_cases h1 : cd i = 143
          · have cc : vi_call GG D 283 [.inr (.inr 112), .inr (.inl (vi_w64 (x + y))), .inl lv] (Y, vi_rs M 112 (eRow f (B + i2) b2), nn) (fun r w' => vi_ok GG D 284 99 [some (.inr (.inr 112)), some (.inl lv), some (.inr (.inl x)), none, some (.inl 1), some (.inr (.inl y)), none] r.toList w' Q) := by
              refine k_283 hY vi_rs_s (by omega) hlv hy.1 fun v b3 hb => ?_
              have := nxt _ v b3 7 (by rw [if_pos h1]) hb (fun _ _ _ _ => by rw [vi_64 (by omega) (by omega)]; rfl) (some (.inl 1))
              clear nxt
              simp (disch := omega) only [Option.toList_some, Option.toList_none, List.nil_append, List.cons_append, List.append_nil, true_and, and_true, not_true_eq_false, not_false_eq_true, true_implies, false_implies, implies_true, and_self, Int.reduceLT, Int.reduceLE, Int.reduceEq, Int.reduceNe, Int.reduceAdd, Int.reduceSub, Int.reduceMul, Int.reduceNeg, Int.reduceToNat, Int.toNat_natCast, ↓kk_ck, ↓kk_im, ↓kk_in, s_284_99]
              exact this
            clear nxt ho hy
            rw [if_pos h1]
            simp (disch := omega) only [Option.toList_some, Option.toList_none, List.nil_append, List.cons_append, List.append_nil, true_and, and_true, not_true_eq_false, not_false_eq_true, true_implies, false_implies, implies_true, and_self, Int.reduceLT, Int.reduceLE, Int.reduceEq, Int.reduceNe, Int.reduceAdd, Int.reduceSub, Int.reduceMul, Int.reduceNeg, Int.reduceToNat, Int.toNat_natCast, ↓kk_ck, ↓kk_im, ↓kk_in, s_284_76, s_284_84, s_284_95, R1]
            exact cc
          · have cc : vi_call GG D 283 [.inr (.inr 112), .inr (.inl (vi_w64 (x - y))), .inl lv] (Y, vi_rs M 112 (eRow f (B + i2) b2), nn) (fun r w' => vi_ok GG D 284 99 [some (.inr (.inr 112)), some (.inl lv), some (.inr (.inl x)), none, some (.inl 0), some (.inr (.inl y)), none] r.toList w' Q) := by
              refine k_283 hY vi_rs_s (by omega) hlv hy.1 fun v b3 hb => ?_
              have := nxt _ v b3 8 (by rw [if_neg h1]) hb (fun _ _ _ _ => by rw [vi_64 (by omega) (by omega)]; rfl) (some (.inl 0))
              clear nxt
              simp (disch := omega) only [Option.toList_some, Option.toList_none, List.nil_append, List.cons_append, List.append_nil, true_and, and_true, not_true_eq_false, not_false_eq_true, true_implies, false_implies, implies_true, and_self, Int.reduceLT, Int.reduceLE, Int.reduceEq, Int.reduceNe, Int.reduceAdd, Int.reduceSub, Int.reduceMul, Int.reduceNeg, Int.reduceToNat, Int.toNat_natCast, ↓kk_ck, ↓kk_im, ↓kk_in, s_284_99]
              exact this
            clear nxt ho hy
            rw [if_neg h1]
            simp (disch := omega) only [Option.toList_some, Option.toList_none, List.nil_append, List.cons_append, List.append_nil, true_and, and_true, not_true_eq_false, not_false_eq_true, true_implies, false_implies, implies_true, and_self, Int.reduceLT, Int.reduceLE, Int.reduceEq, Int.reduceNe, Int.reduceAdd, Int.reduceSub, Int.reduceMul, Int.reduceNeg, Int.reduceToNat, Int.toNat_natCast, ↓kk_ck, ↓kk_im, ↓kk_in, s_284_76, s_284_91, s_284_95, R1]
            exact cc
    rw [s_284_6]
    by_cases h1 : cd i = 143
    · rw [if_pos h1] at cont
      clear hQ ihh i0h hg ho
      simp (disch := omega) only [Option.toList_some, Option.toList_none, List.nil_append, List.cons_append, List.append_nil, true_and, and_true, not_true_eq_false, not_false_eq_true, true_implies, false_implies, implies_true, and_self, Int.reduceLT, Int.reduceLE, Int.reduceEq, Int.reduceNe, Int.reduceAdd, Int.reduceSub, Int.reduceMul, Int.reduceNeg, Int.reduceToNat, Int.toNat_natCast, ↓kk_ck, ↓kk_im, ↓kk_in, s_284_0, s_284_22, s_284_38, s_284_54, s_284_58, s_284_59, s_284_84, s_284_91, s_284_95, s_284_103, s_284_5, s_284_11, s_284_27, s_284_43, s_284_66, s_284_99, s_284_14, s_284_30, s_284_46, s_284_71, s_284_19, s_284_35, s_284_51, s_284_76, R1, k_269, h19, k_281 hY hE h112, h1, ne_eq, vi_inc, vi_ms_rs, e9, hM1]
      exact cont
    · rw [if_neg h1] at cont
      have h2 : cd i = 145 := by omega
      clear hQ ihh i0h hg ho
      simp (disch := omega) only [Option.toList_some, Option.toList_none, List.nil_append, List.cons_append, List.append_nil, true_and, and_true, not_true_eq_false, not_false_eq_true, true_implies, false_implies, implies_true, and_self, Int.reduceLT, Int.reduceLE, Int.reduceEq, Int.reduceNe, Int.reduceAdd, Int.reduceSub, Int.reduceMul, Int.reduceNeg, Int.reduceToNat, Int.toNat_natCast, ↓kk_ck, ↓kk_im, ↓kk_in, s_284_0, s_284_22, s_284_38, s_284_54, s_284_58, s_284_59, s_284_84, s_284_91, s_284_95, s_284_103, s_284_5, s_284_11, s_284_27, s_284_43, s_284_66, s_284_99, s_284_14, s_284_30, s_284_46, s_284_71, s_284_19, s_284_35, s_284_51, s_284_76, R1, k_269, h19, k_281 hY hE h112, h2, ne_eq, vi_inc, vi_ms_rs, e9, hM1]
      exact cont
  · rw [if_neg hc] at hg
    cases hg
    have := hQ x bk ho
    rw [vi_rs_id h112] at this
    have h1 : ¬ cd i = 143 := fun k => hc (.inl k)
    have h2 : ¬ cd i = 145 := fun k => hc (.inr k)
    rw [s_284_6]
    clear hQ ihh i0h ho
    simp (disch := omega) only [Option.toList_some, Option.toList_none, List.nil_append, List.cons_append, List.append_nil, true_and, and_true, not_true_eq_false, not_false_eq_true, true_implies, false_implies, implies_true, and_self, Int.reduceLT, Int.reduceLE, Int.reduceEq, Int.reduceNe, Int.reduceAdd, Int.reduceSub, Int.reduceMul, Int.reduceNeg, Int.reduceToNat, Int.toNat_natCast, ↓kk_ck, ↓kk_im, ↓kk_in, s_284_0, s_284_22, s_284_38, s_284_54, s_284_58, s_284_59, s_284_84, s_284_91, s_284_95, s_284_103, s_284_5, s_284_11, s_284_27, s_284_43, s_284_66, s_284_99, s_284_14, s_284_30, s_284_46, s_284_71, s_284_19, s_284_35, s_284_51, s_284_76, R1, k_269, h19, k_281 hY hE h112, h1, h2, ne_eq]
    exact this
theorem eL6_s (hY : kY Y 151) (i0h : eS Y nn f B e cd vl W fu 286 0 3) (ihh : eL Y nn f B e cd vl W fu 285 6 3) : eL Y nn f B e cd vl W (fu + 1) 285 6 3 := by
  intro D dp i l lv b0 bk x M a i' l' c l4 l5 l6 Q hg hdp hD hE h112 hlv hb0 ho hQ
  obtain ⟨R1, -⟩ := y_112 hY (by omega)
  have h19 : M 112 19 = ((B + i : Nat) : Int) := by rw [h112]; rfl
  have he := hE.1
  rw [rdP] at hg
  by_cases hc : cd i = 142 ∨ cd i = 147
  · rw [if_pos hc] at hg
    have hi := eOk_i hE (i := i) (by omega)
    have e9 : vi_u (M 112) 19 ((B + i + 1 : Nat) : Int) = eRow f (B + (i + 1)) bk := by rw [h112]; exact eRow_19
    generalize hM1 : vi_rs M 112 (eRow f (B + (i + 1)) bk) = M1
    have m1 : M1 112 = eRow f (B + (i + 1)) bk := by rw [← hM1, vi_rs_s]
    have E1 : eOk M1 f B e cd vl W := by rw [← hM1]; exact eOk_r hE
    have e1 : ∀ g, vi_rs M1 112 g = vi_rs M 112 g := fun g => by rw [← hM1, vi_rs_rs]
    have cont : vi_call GG D 286 [.inr (.inr 112), .inl lv] (Y, M1, nn) (fun r w' => vi_ok GG D 285 76 [some (.inr (.inr 112)), some (.inl lv), some (.inr (.inl x)), none, some (.inl (if cd i = 142 then 1 else 0)), l5, l6] r.toList w' Q) := by
      cases hr : rdP cd vl fu 0 dp (i + 1) l a with
      | none => rw [hr] at hg; cases hg
      | some r0 =>
        obtain ⟨ok, i2, l2, c2⟩ := r0
        rw [hr] at hg
        cases ok with
        | false => cases hg
        | true =>
          dsimp only at hg
          refine i0h D dp (i + 1) l lv bk M1 a i2 l2 c2 _ hr hdp hD E1 m1 hlv ho.1 fun y b2 hy => ?_
          rw [e1]
          have nxt : ∀ v b3, eOut lv b0 (dJ (if cd i = 142 then 9 else 10) a c2 W) v b3 → ∀ M2 l4 l5, M2 = vi_rs M 112 (eRow f (B + i2) b3) → vi_ok GG D 285 6 [some (.inr (.inr 112)), some (.inl lv), some (.inr (.inl v)), none, l4, l5, none] [] (Y, M2, nn) Q := by
            intro v b3 hz M2 l4 l5 hM2
            rw [hM2]
            refine ihh D dp i2 l2 lv b0 b3 v _ _ i' l' c l4 _ _ Q hg hdp hD (eOk_r hE) vi_rs_s hlv hb0 hz fun v' b4 hv => ?_
            rw [vi_rs_rs]
            exact hQ v' b4 hv
          clear ihh i0h hQ hg
          by_cases h1 : cd i = 142
          · rw [if_pos h1] at nxt
            have cc : vi_call GG D 283 [.inr (.inr 112), .inr (.inl (vi_w64 (x * y))), .inl lv] (Y, vi_rs M 112 (eRow f (B + i2) b2), nn) (fun r w' => vi_ok GG D 285 134 [some (.inr (.inr 112)), some (.inl lv), some (.inr (.inl x)), none, some (.inl 1), some (.inr (.inl y)), none] r.toList w' Q) := by
              refine k_283 hY vi_rs_s (by omega) hlv hy.1 fun v b3 hb => ?_
              have := nxt v b3 (eOut_J ho hy hb (fun x0 x1 y0 y1 => by
                have := mul_b ⟨x0, (by omega)⟩ ⟨y0, (by omega)⟩
                rw [vi_64 (by omega) (by omega)]; rfl)) (vi_rs (vi_rs M 112 (eRow f (B + i2) b2)) 112 (eRow f (B + i2) b3)) (some (.inl 1)) (some (.inr (.inl y))) vi_rs_rs
              clear nxt
              simp (disch := omega) only [Option.toList_some, Option.toList_none, List.nil_append, List.cons_append, List.append_nil, true_and, and_true, not_true_eq_false, not_false_eq_true, true_implies, false_implies, implies_true, and_self, Int.reduceLT, Int.reduceLE, Int.reduceEq, Int.reduceNe, Int.reduceAdd, Int.reduceSub, Int.reduceMul, Int.reduceNeg, Int.reduceToNat, Int.toNat_natCast, ↓kk_ck, ↓kk_im, ↓kk_in, s_285_134]
              exact this
            clear nxt ho hy
            rw [if_pos h1]
            simp (disch := omega) only [Option.toList_some, Option.toList_none, List.nil_append, List.cons_append, List.append_nil, true_and, and_true, not_true_eq_false, not_false_eq_true, true_implies, false_implies, implies_true, and_self, Int.reduceLT, Int.reduceLE, Int.reduceEq, Int.reduceNe, Int.reduceAdd, Int.reduceSub, Int.reduceMul, Int.reduceNeg, Int.reduceToNat, Int.toNat_natCast, ↓kk_ck, ↓kk_im, ↓kk_in, s_285_76, s_285_113, s_285_119, s_285_130, R1, ne_eq]
            exact cc
          · rw [if_neg h1] at nxt
            rw [if_neg h1]
            by_cases hy0 : y = 0
            · subst hy0
              generalize hb2 : (if b2 = 0 then lv else 1) = b2'
              have b01 : b2' = 0 ∨ b2' = 1 := by split at hb2 <;> omega
              have cc : vi_call GG D 283 [.inr (.inr 112), .inr (.inl (vi_w64 (x.tdiv 1))), .inl lv] (Y, vi_rs M 112 (eRow f (B + i2) b2'), nn) (fun r w' => vi_ok GG D 285 134 [some (.inr (.inr 112)), some (.inl lv), some (.inr (.inl x)), none, some (.inl 0), some (.inr (.inl 1)), none] r.toList w' Q) := by
                refine k_283 hY vi_rs_s (by omega) hlv b01 fun v b3 hb => ?_
                have := nxt v b3 (eOut_D hlv ho hy hb2.symm hb) (vi_rs (vi_rs M 112 (eRow f (B + i2) b2')) 112 (eRow f (B + i2) b3)) (some (.inl 0)) (some (.inr (.inl 1))) vi_rs_rs
                clear nxt
                simp (disch := omega) only [Option.toList_some, Option.toList_none, List.nil_append, List.cons_append, List.append_nil, true_and, and_true, not_true_eq_false, not_false_eq_true, true_implies, false_implies, implies_true, and_self, Int.reduceLT, Int.reduceLE, Int.reduceEq, Int.reduceNe, Int.reduceAdd, Int.reduceSub, Int.reduceMul, Int.reduceNeg, Int.reduceToNat, Int.toNat_natCast, ↓kk_ck, ↓kk_im, ↓kk_in, s_285_134]
                exact this
              have v21 : eRow f (B + i2) b2 21 = b2 := rfl
              rcases hy.1 with rfl | rfl
              · rw [if_pos rfl] at hb2
                subst hb2
                clear nxt ho hy
                rcases hlv with rfl | rfl
                · simp (disch := omega) only [Option.toList_some, Option.toList_none, List.nil_append, List.cons_append, List.append_nil, true_and, and_true, not_true_eq_false, not_false_eq_true, true_implies, false_implies, implies_true, and_self, Int.reduceLT, Int.reduceLE, Int.reduceEq, Int.reduceNe, Int.reduceAdd, Int.reduceSub, Int.reduceMul, Int.reduceNeg, Int.reduceToNat, Int.toNat_natCast, ↓kk_ck, ↓kk_im, ↓kk_in, s_285_0, s_285_22, s_285_38, s_285_54, s_285_58, s_285_59, s_285_83, s_285_90, s_285_98, s_285_102, s_285_106, s_285_107, s_285_113, s_285_119, s_285_126, s_285_130, s_285_138, s_285_5, s_285_11, s_285_27, s_285_43, s_285_66, s_285_87, s_285_95, s_285_110, s_285_134, s_285_14, s_285_30, s_285_46, s_285_71, s_285_19, s_285_35, s_285_51, s_285_76, R1, ne_eq, vi_cm0, vi_rs_s, v21, vi_ms_rs, eRow_21, vi_rs_rs]
                  exact cc
                · simp (disch := omega) only [Option.toList_some, Option.toList_none, List.nil_append, List.cons_append, List.append_nil, true_and, and_true, not_true_eq_false, not_false_eq_true, true_implies, false_implies, implies_true, and_self, Int.reduceLT, Int.reduceLE, Int.reduceEq, Int.reduceNe, Int.reduceAdd, Int.reduceSub, Int.reduceMul, Int.reduceNeg, Int.reduceToNat, Int.toNat_natCast, ↓kk_ck, ↓kk_im, ↓kk_in, s_285_0, s_285_22, s_285_38, s_285_54, s_285_58, s_285_59, s_285_83, s_285_90, s_285_98, s_285_102, s_285_106, s_285_107, s_285_113, s_285_119, s_285_126, s_285_130, s_285_138, s_285_5, s_285_11, s_285_27, s_285_43, s_285_66, s_285_87, s_285_95, s_285_110, s_285_134, s_285_14, s_285_30, s_285_46, s_285_71, s_285_19, s_285_35, s_285_51, s_285_76, R1, ne_eq, vi_cm0, vi_rs_s, v21, vi_ms_rs, eRow_21, vi_rs_rs]
                  exact cc
              · rw [if_neg (by omega)] at hb2
                subst hb2
                clear nxt ho hy
                simp (disch := omega) only [Option.toList_some, Option.toList_none, List.nil_append, List.cons_append, List.append_nil, true_and, and_true, not_true_eq_false, not_false_eq_true, true_implies, false_implies, implies_true, and_self, Int.reduceLT, Int.reduceLE, Int.reduceEq, Int.reduceNe, Int.reduceAdd, Int.reduceSub, Int.reduceMul, Int.reduceNeg, Int.reduceToNat, Int.toNat_natCast, ↓kk_ck, ↓kk_im, ↓kk_in, s_285_0, s_285_22, s_285_38, s_285_54, s_285_58, s_285_59, s_285_83, s_285_90, s_285_98, s_285_102, s_285_106, s_285_107, s_285_113, s_285_119, s_285_126, s_285_130, s_285_138, s_285_5, s_285_11, s_285_27, s_285_43, s_285_66, s_285_87, s_285_95, s_285_110, s_285_134, s_285_14, s_285_30, s_285_46, s_285_71, s_285_19, s_285_35, s_285_51, s_285_76, R1, ne_eq, vi_cm0, vi_rs_s, v21, vi_ms_rs, eRow_21, vi_rs_rs]
                exact cc
            · have cc : vi_call GG D 283 [.inr (.inr 112), .inr (.inl (vi_w64 (x.tdiv y))), .inl lv] (Y, vi_rs M 112 (eRow f (B + i2) b2), nn) (fun r w' => vi_ok GG D 285 134 [some (.inr (.inr 112)), some (.inl lv), some (.inr (.inl x)), none, some (.inl 0), some (.inr (.inl y)), none] r.toList w' Q) := by
                refine k_283 hY vi_rs_s (by omega) hlv hy.1 fun v b3 hb => ?_
                have := nxt v b3 (eOut_J ho hy hb (fun x0 x1 y0 y1 => by
                  have := tdiv_b (b := y) ⟨x0, (by omega)⟩
                  rw [vi_64 (by omega) (by omega)]
                  exact (if_neg hy0).symm)) (vi_rs (vi_rs M 112 (eRow f (B + i2) b2)) 112 (eRow f (B + i2) b3)) (some (.inl 0)) (some (.inr (.inl y))) vi_rs_rs
                clear nxt
                simp (disch := omega) only [Option.toList_some, Option.toList_none, List.nil_append, List.cons_append, List.append_nil, true_and, and_true, not_true_eq_false, not_false_eq_true, true_implies, false_implies, implies_true, and_self, Int.reduceLT, Int.reduceLE, Int.reduceEq, Int.reduceNe, Int.reduceAdd, Int.reduceSub, Int.reduceMul, Int.reduceNeg, Int.reduceToNat, Int.toNat_natCast, ↓kk_ck, ↓kk_im, ↓kk_in, s_285_134]
                exact this
              clear nxt ho hy
              simp (disch := omega) only [Option.toList_some, Option.toList_none, List.nil_append, List.cons_append, List.append_nil, true_and, and_true, not_true_eq_false, not_false_eq_true, true_implies, false_implies, implies_true, and_self, Int.reduceLT, Int.reduceLE, Int.reduceEq, Int.reduceNe, Int.reduceAdd, Int.reduceSub, Int.reduceMul, Int.reduceNeg, Int.reduceToNat, Int.toNat_natCast, ↓kk_ck, ↓kk_im, ↓kk_in, s_285_76, s_285_83, s_285_87, s_285_113, s_285_126, s_285_130, R1, ne_eq, vi_cm0, hy0]
              exact cc
    rw [s_285_6]
    by_cases h1 : cd i = 142
    · rw [if_pos h1] at cont
      clear hQ ihh i0h hg ho
      simp (disch := omega) only [Option.toList_some, Option.toList_none, List.nil_append, List.cons_append, List.append_nil, true_and, and_true, not_true_eq_false, not_false_eq_true, true_implies, false_implies, implies_true, and_self, Int.reduceLT, Int.reduceLE, Int.reduceEq, Int.reduceNe, Int.reduceAdd, Int.reduceSub, Int.reduceMul, Int.reduceNeg, Int.reduceToNat, Int.toNat_natCast, ↓kk_ck, ↓kk_im, ↓kk_in, s_285_0, s_285_22, s_285_38, s_285_54, s_285_58, s_285_59, s_285_83, s_285_90, s_285_98, s_285_102, s_285_106, s_285_107, s_285_113, s_285_119, s_285_126, s_285_130, s_285_138, s_285_5, s_285_11, s_285_27, s_285_43, s_285_66, s_285_87, s_285_95, s_285_110, s_285_134, s_285_14, s_285_30, s_285_46, s_285_71, s_285_19, s_285_35, s_285_51, s_285_76, R1, k_269, h19, k_281 hY hE h112, h1, ne_eq, vi_inc, vi_ms_rs, e9, hM1]
      exact cont
    · rw [if_neg h1] at cont
      have h2 : cd i = 147 := by omega
      clear hQ ihh i0h hg ho
      simp (disch := omega) only [Option.toList_some, Option.toList_none, List.nil_append, List.cons_append, List.append_nil, true_and, and_true, not_true_eq_false, not_false_eq_true, true_implies, false_implies, implies_true, and_self, Int.reduceLT, Int.reduceLE, Int.reduceEq, Int.reduceNe, Int.reduceAdd, Int.reduceSub, Int.reduceMul, Int.reduceNeg, Int.reduceToNat, Int.toNat_natCast, ↓kk_ck, ↓kk_im, ↓kk_in, s_285_0, s_285_22, s_285_38, s_285_54, s_285_58, s_285_59, s_285_83, s_285_90, s_285_98, s_285_102, s_285_106, s_285_107, s_285_113, s_285_119, s_285_126, s_285_130, s_285_138, s_285_5, s_285_11, s_285_27, s_285_43, s_285_66, s_285_87, s_285_95, s_285_110, s_285_134, s_285_14, s_285_30, s_285_46, s_285_71, s_285_19, s_285_35, s_285_51, s_285_76, R1, k_269, h19, k_281 hY hE h112, h2, ne_eq, vi_inc, vi_ms_rs, e9, hM1]
      exact cont
  · rw [if_neg hc] at hg
    cases hg
    have := hQ x bk ho
    rw [vi_rs_id h112] at this
    have h1 : ¬ cd i = 142 := fun k => hc (.inl k)
    have h2 : ¬ cd i = 147 := fun k => hc (.inr k)
    rw [s_285_6]
    clear hQ ihh i0h ho
    simp (disch := omega) only [Option.toList_some, Option.toList_none, List.nil_append, List.cons_append, List.append_nil, true_and, and_true, not_true_eq_false, not_false_eq_true, true_implies, false_implies, implies_true, and_self, Int.reduceLT, Int.reduceLE, Int.reduceEq, Int.reduceNe, Int.reduceAdd, Int.reduceSub, Int.reduceMul, Int.reduceNeg, Int.reduceToNat, Int.toNat_natCast, ↓kk_ck, ↓kk_im, ↓kk_in, s_285_0, s_285_22, s_285_38, s_285_54, s_285_58, s_285_59, s_285_83, s_285_90, s_285_98, s_285_102, s_285_106, s_285_107, s_285_113, s_285_119, s_285_126, s_285_130, s_285_138, s_285_5, s_285_11, s_285_27, s_285_43, s_285_66, s_285_87, s_285_95, s_285_110, s_285_134, s_285_14, s_285_30, s_285_46, s_285_71, s_285_19, s_285_35, s_285_51, s_285_76, R1, k_269, h19, k_281 hY hE h112, h1, h2, ne_eq]
    exact this
end
