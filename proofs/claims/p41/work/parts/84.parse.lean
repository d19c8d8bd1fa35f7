/-! Contracts of Reader, third part: what reading a place of the grammar leaves behind. -/
theorem tK_sg : tK 40 = 3 ∧ tK 41 = 3 ∧ tK 42 = 3 ∧ tK 43 = 3 ∧ tK 45 = 3 ∧ tK 47 = 3 ∧ tK 59 = 3 ∧ tK 60 = 3 ∧ tK 61 = 3 ∧ tK 62 = 3 ∧ tK 91 = 3 ∧ tK 93 = 3 := by decide
def pFr (M M' : vi_M) : Prop := ∀ p, p ≠ 73 → p ≠ 75 → M' p = M p
def pOk (f b : Nat → Int) (n : Nat) (M0 : vi_M) (S0 l0 i0 : Nat) (M : vi_M) (S l i : Nat) (a : gDen) : Prop :=
  pFr M0 M ∧ M 73 = rRow f b n i S l ∧ l ≤ 50 ∧ S0 ≤ S ∧ l0 ≤ l ∧ S + tI b n i0 ≤ S0 + tI b n i ∧ (∀ x, x < S0 → M 75 x = M0 75 x) ∧ (∀ x, S0 ≤ x → x < S → 0 ≤ M 75 x ∧ M 75 x < 2147483648) ∧ cSeg (M 75) S0 S (l - l0) a
def pCh (f b : Nat → Int) (n : Nat) (M0 : vi_M) (S0 l0 i0 : Nat) (M : vi_M) (S l i : Nat) (a : gDen) (key : Int) (J : List Nat) (y : Int) : Prop :=
  pFr M0 M ∧ M 73 = rRow f b n i S l ∧ l ≤ 50 ∧ S0 ≤ S ∧ l0 ≤ l ∧ S + tI b n i0 ≤ S0 + tI b n i ∧ (∀ x, x < S0 → M 75 x = M0 75 x) ∧ (∀ x, S0 ≤ x → x < S → 0 ≤ M 75 x ∧ M 75 x < 2147483648) ∧
  lnk (M 75) J y ∧ (∀ j, j ∈ J → S0 ≤ j ∧ j < S) ∧ ∀ T, S ≤ T → T ≤ 400 → cCh (aim (M 75) J T) S0 S (l - l0) a T key
def pFl (f b : Nat → Int) (n : Nat) (M0 M : vi_M) (i : Nat) : Prop := pFr M0 M ∧ ∃ S l, M 73 = rRow f b n i S l ∧ S ≤ 400 ∧ l ≤ 50
def pRes (f b : Nat → Int) (n : Nat) (M0 : vi_M) (S0 l0 i0 : Nat) (r : gRes) (M : vi_M) : Prop := if r.1 = true then ∃ S, pOk f b n M0 S0 l0 i0 M S r.2.2.1 r.2.1 r.2.2.2 else pFl f b n M0 M r.2.1
theorem pFr_t {M1 M2 M3 : vi_M} (h1 : pFr M1 M2) (h2 : pFr M2 M3) : pFr M1 M3 := fun p a b => by rw [h2 p a b, h1 p a b]
theorem pFr_73 {M : vi_M} {g : Nat → Int} : pFr M (vi_rs M 73 g) := fun _ a _ => vi_rs_o a
theorem pFr_75 {M : vi_M} {g : Nat → Int} : pFr M (vi_rs M 75 g) := fun _ _ a => vi_rs_o a
theorem kS_c {Y : vi_Y} {M M' : vi_M} (h : kS Y M) (hf : pFr M M') : kS Y M' := fun i hi => by
  obtain ⟨h1, h2, h3, h4, h5, h6⟩ := h i hi
  exact ⟨h1, h2, h3, h4, h5, fun j hj => by rw [hf (15 + i) (by omega) (by omega)]; exact h6 j hj⟩
section
variable {f b : Nat → Int} {n : Nat}
theorem pOk_le {M0 M : vi_M} {S0 l0 i0 S l i : Nat} {a : gDen} (h : pOk f b n M0 S0 l0 i0 M S l i a) (h0 : S0 ≤ tI b n i0) : S ≤ tI b n i := by
  obtain ⟨-, -, -, -, -, h6, -⟩ := h
  omega
theorem pOk_fl {M0 M : vi_M} {S0 l0 i0 S l i : Nat} {a : gDen} (h : pOk f b n M0 S0 l0 i0 M S l i a) (h0 : S0 ≤ tI b n i0) (h400 : n ≤ 400) : pFl f b n M0 M i := by
  have h1 := pOk_le h h0
  have h2 := tI_le (b := b) (n := n) i
  exact ⟨h.1, S, l, h.2.1, by omega, h.2.2.1⟩
/-- two operands and the step that joins them -/
theorem pOk_j {M0 M M2 : vi_M} {S0 l0 i0 S l i S2 l2 i2 : Nat} {a c : gDen} {kd : Int} (h1 : pOk f b n M0 S0 l0 i0 M S l i a) (hi : tI b n i < tI b n (i + 1)) (h2 : pOk f b n (vi_rs M 73 (rRow f b n (i + 1) S l)) S l (i + 1) M2 S2 l2 i2 c) (hk : 7 ≤ kd ∧ kd ≤ 13) : pOk f b n M0 S0 l0 i0 (vi_rs (vi_rs M2 75 (vi_u (M2 75) S2 (kd + 256 * 0))) 73 (rRow f b n i2 (S2 + 1) l2)) (S2 + 1) l2 i2 (dJ kd a c) := by
  obtain ⟨a1, a2, a3, a4, a5, a6, a7, a8, a9⟩ := h1
  obtain ⟨b1, b2, b3, b4, b5, b6, b7, b8, b9⟩ := h2
  have e75 : vi_rs (vi_rs M2 75 (vi_u (M2 75) S2 (kd + 256 * 0))) 73 (rRow f b n i2 (S2 + 1) l2) 75 = vi_u (M2 75) S2 (kd + 256 * 0) := by rw [vi_rs_o (by omega), vi_rs_s]
  have m75 : ∀ x, x < S → M2 75 x = M 75 x := fun x hx => by rw [b7 x hx, vi_rs_o (by omega)]
  refine ⟨fun p p1 p2 => ?_, vi_rs_s, b3, by omega, by omega, by omega, fun x hx => ?_, fun x h1 h2 => ?_, ?_⟩
  · rw [vi_rs_o p1, vi_rs_o p2, b1 p p1 p2, vi_rs_o p1, a1 p p1 p2]
  · rw [e75, vi_u_o (by omega), m75 x (by omega), a7 x hx]
  · rw [e75]
    by_cases e : x = S2
    · rw [e, vi_u_s]; omega
    · rw [vi_u_o e]
      by_cases e2 : x < S
      · rw [m75 x e2]; exact a8 x h1 e2
      · exact b8 x (by omega) (by omega)
  · rw [e75, show l2 - l0 = (l - l0) + (l2 - l) by omega]
    refine cSeg_j (S1 := S) (S2 := S2) (cSeg_c a9 fun x h1 h2 => ?_) (cSeg_c b9 fun x h1 h2 => ?_) hk ?_
    · rw [vi_u_o (by omega), m75 x h2]
    · rw [vi_u_o (by omega)]
    · rw [vi_u_s]; omega
theorem pOk_n {M0 M : vi_M} {S0 l0 i0 S l i : Nat} {a : gDen} (h1 : pOk f b n M0 S0 l0 i0 M S l i a) (hp : S + 1 + tI b n i0 ≤ S0 + tI b n i) : pOk f b n M0 S0 l0 i0 (vi_rs (vi_rs M 75 (vi_u (M 75) S (14 + 256 * 0))) 73 (rRow f b n i (S + 1) l)) (S + 1) l i (dN a) := by
  obtain ⟨a1, a2, a3, a4, a5, a6, a7, a8, a9⟩ := h1
  have e75 : vi_rs (vi_rs M 75 (vi_u (M 75) S (14 + 256 * 0))) 73 (rRow f b n i (S + 1) l) 75 = vi_u (M 75) S (14 + 256 * 0) := by rw [vi_rs_o (by omega), vi_rs_s]
  refine ⟨fun p p1 p2 => ?_, vi_rs_s, a3, by omega, by omega, by omega, fun x hx => ?_, fun x h1 h2 => ?_, ?_⟩
  · rw [vi_rs_o p1, vi_rs_o p2, a1 p p1 p2]
  · rw [e75, vi_u_o (by omega), a7 x hx]
  · rw [e75]
    by_cases e : x = S
    · rw [e, vi_u_s]; omega
    · rw [vi_u_o e]
      exact a8 x h1 (by omega)
  · rw [e75]
    refine cSeg_n (S1 := S) (cSeg_c a9 fun x h1 h2 => ?_) ?_
    · rw [vi_u_o (by omega)]
    · rw [vi_u_s]; rfl
theorem pCh_of {M0 M : vi_M} {S0 l0 i0 S l i : Nat} {a : gDen} {key : Int} (h : pOk f b n M0 S0 l0 i0 M S l i a) : pCh f b n M0 S0 l0 i0 M S l i a key [] 0 := by
  obtain ⟨a1, a2, a3, a4, a5, a6, a7, a8, a9⟩ := h
  refine ⟨a1, a2, a3, a4, a5, a6, a7, a8, rfl, fun j hj => absurd hj (List.not_mem_nil), fun T _ _ => ?_⟩
  refine cCh_c (cCh_of a9) fun x _ _ => ?_
  unfold aim
  rw [if_neg (List.not_mem_nil)]
theorem pCh_le {M0 M : vi_M} {S0 l0 i0 S l i : Nat} {a : gDen} {key : Int} {J : List Nat} {y : Int} (h : pCh f b n M0 S0 l0 i0 M S l i a key J y) (h0 : S0 ≤ tI b n i0) : S ≤ tI b n i := by
  obtain ⟨-, -, -, -, -, h6, -⟩ := h
  omega
theorem pCh_y {M0 M : vi_M} {S0 l0 i0 S l i : Nat} {a : gDen} {key : Int} {J : List Nat} {y : Int} (h : pCh f b n M0 S0 l0 i0 M S l i a key J y) : 0 ≤ y ∧ y ≤ (S : Int) := by
  obtain ⟨-, -, -, -, -, -, -, -, a9, a10, -⟩ := h
  cases J with
  | nil => rw [lnk] at a9; omega
  | cons j J =>
    have := (a10 j (List.mem_cons_self ..)).2
    have := a9.1
    omega
theorem pCh_j {M0 M M2 : vi_M} {S0 l0 i0 S l i S2 l2 i2 : Nat} {a c : gDen} {key ks y : Int} {J : List Nat} (h1 : pCh f b n M0 S0 l0 i0 M S l i a key J y) (hi : tI b n i < tI b n (i + 1)) (h400 : S ≤ 400) (hk : (key = 0 ∧ ks = 15) ∨ (key = 1 ∧ ks = 16))
    (h2 : pOk f b n (vi_rs (vi_rs (vi_rs M 75 (vi_u (M 75) S (ks + 256 * y))) 73 (rRow f b n i (S + 1) l)) 73 (rRow f b n (i + 1) (S + 1) l)) (S + 1) l (i + 1) M2 S2 l2 i2 c) : pCh f b n M0 S0 l0 i0 M2 S2 l2 i2 (dA key a c) key (S :: J) ((S : Int) + 1) := by
  have hy := pCh_y h1
  obtain ⟨a1, a2, a3, a4, a5, a6, a7, a8, a9, a10, a11⟩ := h1
  obtain ⟨b1, b2, b3, b4, b5, b6, b7, b8, b9⟩ := h2
  have m75 : ∀ x, x < S → M2 75 x = M 75 x := fun x hx => by rw [b7 x (by omega), vi_rs_o (by omega), vi_rs_o (by omega), vi_rs_s, vi_u_o (by omega)]
  have mS : M2 75 S = ks + 256 * y := by rw [b7 S (by omega), vi_rs_o (by omega), vi_rs_o (by omega), vi_rs_s, vi_u_s]
  refine ⟨fun p p1 p2 => ?_, b2, b3, by omega, by omega, by omega, fun x hx => ?_, fun x h1 h2 => ?_, ⟨rfl, fun j hj => (a10 j hj).2, ?_⟩, fun j hj => ?_, fun T hT hT4 => ?_⟩
  · rw [b1 p p1 p2, vi_rs_o p1, vi_rs_o p1, vi_rs_o p2, a1 p p1 p2]
  · rw [m75 x (by omega), a7 x hx]
  · by_cases e : x = S
    · rw [e, mS]; omega
    · by_cases e2 : x < S
      · rw [m75 x e2]; exact a8 x h1 e2
      · exact b8 x (by omega) h2
  · rw [mS, show (ks + 256 * y) / 256 = y by omega]
    exact lnk_c (fun j hj => (m75 j (a10 j hj).2).symm) a9
  · rcases List.mem_cons.mp hj with e | e
    · omega
    · have := a10 j e; omega
  · rw [show l2 - l0 = (l - l0) + (l2 - l) by omega]
    have nS : ∀ x, S < x → ¬ x ∈ S :: J := fun x hx hm => by
      rcases List.mem_cons.mp hm with e | e
      · omega
      · have := (a10 x e).2; omega
    have eS : aim (M2 75) (S :: J) T S = ks + 256 * (T : Int) := by
      unfold aim
      rw [if_pos (List.mem_cons_self ..), mS]
      omega
    refine cCh_s (S1 := S) (cCh_c (a11 T (by omega) hT4) fun x h1 h2 => ?_) (cSeg_c b9 fun x h1 h2 => ?_) hT ?_ ?_
    · unfold aim
      rw [m75 x h2]
      by_cases hm : x ∈ J
      · rw [if_pos hm, if_pos (List.mem_cons_of_mem _ hm)]
      · rw [if_neg hm, if_neg (fun k => by rcases List.mem_cons.mp k with e | e; omega; exact hm e)]
    · unfold aim
      rw [if_neg (nS x (by omega))]
    · rw [eS]; omega
    · rw [eS]; omega
theorem pCh_e {M0 M : vi_M} {S0 l0 i0 S l i : Nat} {a : gDen} {key : Int} {J : List Nat} {y : Int} (h : pCh f b n M0 S0 l0 i0 M S l i a key J y) (h400 : S ≤ 400) : pOk f b n M0 S0 l0 i0 (vi_rs M 75 (aim (M 75) J S)) S l i a := by
  obtain ⟨a1, a2, a3, a4, a5, a6, a7, a8, a9, a10, a11⟩ := h
  refine ⟨fun p p1 p2 => by rw [vi_rs_o p2, a1 p p1 p2], by rw [vi_rs_o (by omega)]; exact a2, a3, a4, a5, a6, fun x hx => ?_, fun x h1 h2 => ?_, ?_⟩
  · rw [vi_rs_s]
    unfold aim
    rw [if_neg (fun k => by have := (a10 x k).1; omega), a7 x hx]
  · rw [vi_rs_s]
    have := a8 x h1 h2
    unfold aim
    split <;> omega
  · rw [vi_rs_s]
    exact cCh_e (a11 S (Nat.le_refl _) h400)
/-- a PART that is a number or a word -/
theorem pOk_1 {M : vi_M} {S l i : Nat} {x : Int} (h73 : M 73 = rRow f b n i S l) (hl : l < 50) (hi : tI b n i < tI b n (i + 1)) (hc : (tCd b n i = 50 ∧ tVl b n i ≤ 1000) ∨ (8 ≤ tCd b n i ∧ tCd b n i ≤ 13)) (hx : x = if tCd b n i = 50 then tVl b n i else 0) (hx0 : 0 ≤ x ∧ x ≤ 1000) :
    pOk f b n M S l i (vi_rs (vi_rs (vi_rs (vi_rs M 73 (rRow f b n i S (l + 1))) 75 (vi_u (M 75) S (pKd (tCd b n i) + 256 * x))) 73 (rRow f b n i (S + 1) (l + 1))) 73 (rRow f b n (i + 1) (S + 1) (l + 1))) (S + 1) (l + 1) (i + 1) (gLf (tCd b n) (tVl b n) i) := by
  have hk : 0 ≤ pKd (tCd b n i) ∧ pKd (tCd b n i) ≤ 6 := by
    unfold pKd
    rcases hc with h | h
    · rw [if_pos h.1]; omega
    · rw [if_neg (by omega), if_pos h]; omega
  have e75 : vi_rs (vi_rs (vi_rs (vi_rs M 73 (rRow f b n i S (l + 1))) 75 (vi_u (M 75) S (pKd (tCd b n i) + 256 * x))) 73 (rRow f b n i (S + 1) (l + 1))) 73 (rRow f b n (i + 1) (S + 1) (l + 1)) 75 = vi_u (M 75) S (pKd (tCd b n i) + 256 * x) := by rw [vi_rs_o (by omega), vi_rs_o (by omega), vi_rs_s]
  refine ⟨fun p p1 p2 => by rw [vi_rs_o p1, vi_rs_o p1, vi_rs_o p2, vi_rs_o p1], vi_rs_s, by omega, by omega, by omega, by omega, fun y hy => by rw [e75, vi_u_o (by omega)], fun y h1 h2 => ?_, ?_⟩
  · obtain rfl : y = S := by omega
    rw [e75, vi_u_s]; omega
  · rw [e75, show l + 1 - l = 1 by omega]
    have e1 : (pKd (tCd b n i) + 256 * x) % 256 = pKd (tCd b n i) := by omega
    have e2 : (pKd (tCd b n i) + 256 * x) / 256 = x := by omega
    refine cSeg_1 (by rw [vi_u_s, e1]; exact hk) fun W => ?_
    rw [vi_u_s, e1, e2]
    unfold gLf pKd
    by_cases h : tCd b n i = 50
    · simp only [if_pos h, hx, if_true]
    · have h8 : 8 ≤ tCd b n i ∧ tCd b n i ≤ 13 := by omega
      simp only [if_neg h, if_pos h8, if_neg (show ¬ tCd b n i - 7 = 0 by omega)]
end
section
variable {D : Nat} {K : Option vi_V → vi_W → Prop} {Y : vi_Y} {M : vi_M} {nn : Nat × Nat} {n : Nat} {b f : Nat → Int}
theorem k_146' (hY : kY Y 112) (h400 : n ≤ 400) (hb : tOk b) (m74 : M 74 = b) (hf : f 3 = (n : Int)) {i S l : Nat} (h73 : M 73 = rRow f b n i S l) {c : Int} (hc : 32 < c ∧ tK c = 3) {e : Int} (he : 100 + c = e) (hD : 2 ≤ D) : vi_call GG D 146 [.inr (.inr 73), .inl c] (Y, M, nn) K ↔ K (some (.inl (vi_b (decide (tCd b n i = e))))) (Y, M, nn) := by
  obtain ⟨D, rfl⟩ : ∃ k, D = k + 2 := ⟨D - 2, by omega⟩
  rw [← he]
  exact k_146 hY h400 hb m74 hf h73 hc
theorem k_147' (hY : kY Y 112) (h400 : n ≤ 400) (hb : tOk b) (m74 : M 74 = b) (hf : f 3 = (n : Int)) {i S l : Nat} (h73 : M 73 = rRow f b n i S l) {c : Int} (hc : 32 < c ∧ tK c = 3) {e : Int} (he : 100 + c = e) (hD : 4 ≤ D) : vi_call GG D 147 [.inr (.inr 73), .inl c] (Y, M, nn) K ↔ K (some (.inl (vi_b (decide (tCd b n i = e))))) (Y, vi_rs M 73 (rRow f b n (if tCd b n i = e then i + 1 else i) S l), nn) := by
  obtain ⟨D, rfl⟩ : ∃ k, D = k + 4 := ⟨D - 4, by omega⟩
  rw [← he]
  exact k_147 hY h400 hb m74 hf h73 hc
theorem k_143' (hY : kY Y 112) (h400 : n ≤ 400) (hb : tOk b) (m74 : M 74 = b) (hf : f 3 = (n : Int)) {i S l : Nat} (h73 : M 73 = rRow f b n i S l) (hD : 3 ≤ D) : vi_call GG D 143 [.inr (.inr 73)] (Y, M, nn) K ↔ K none (Y, vi_rs M 73 (rRow f b n (i + 1) S l), nn) := by
  obtain ⟨D, rfl⟩ : ∃ k, D = k + 3 := ⟨D - 3, by omega⟩
  exact k_143r hY h400 hb m74 hf h73
theorem k_145' (hY : kY Y 112) (hk : kS Y M) (h400 : n ≤ 400) (hb : tOk b) (m74 : M 74 = b) (hf : f 3 = (n : Int)) {i S l : Nat} (h73 : M 73 = rRow f b n i S l) {q : Nat} {e : Int} (hq : q < 13) (he : (wI q : Int) = e) {q2 : Nat} (hq2 : 2 + q = q2) (hD : 5 ≤ D) : vi_call GG D 145 [.inr (.inr 73), .inr (.inr q2)] (Y, M, nn) K ↔ K (some (.inl (vi_b (decide (tCd b n i = e))))) (Y, M, nn) := by
  obtain ⟨D, rfl⟩ : ∃ k, D = k + 5 := ⟨D - 5, by omega⟩
  rw [← he, ← hq2]
  exact k_145 hY hk h400 hb m74 hf h73 hq
theorem k_141' (hY : kY Y 112) {i S l : Nat} (h73 : M 73 = rRow f b n i S l) (hS : S < 400) {k x : Int} (hk : 0 ≤ k ∧ k < 256) (hx : 0 ≤ x ∧ x < 4194304) (hD : 1 ≤ D) : vi_call GG D 141 [.inr (.inr 73), .inl k, .inl x] (Y, M, nn) K ↔ K (some (.inl ((S + 1 : Nat) : Int))) (Y, vi_rs (vi_rs M 75 (vi_u (M 75) S (k + 256 * x))) 73 (rRow f b n i (S + 1) l), nn) := by
  obtain ⟨D, rfl⟩ : ∃ k, D = k + 1 := ⟨D - 1, by omega⟩
  exact k_141 hY h73 hS hk hx
theorem k_141f (hY : kY Y 112) {M0 : vi_M} {i : Nat} (h : pFl f b n M0 M i) {k x : Int} (hD : 1 ≤ D) : ∃ (v : Int) (M' : vi_M), pFl f b n M0 M' i ∧ ∀ K : Option vi_V → vi_W → Prop, vi_call GG D 141 [.inr (.inr 73), .inl k, .inl x] (Y, M, nn) K ↔ K (some (.inl v)) (Y, M', nn) := by
  obtain ⟨D, rfl⟩ : ∃ k, D = k + 1 := ⟨D - 1, by omega⟩
  obtain ⟨h1, S, l, h2, h3, h4⟩ := h
  obtain ⟨v, g, S', hS', hK⟩ := k_141j (d := D) (nn := nn) hY h2 h3 (k := k) (x := x)
  exact ⟨v, _, ⟨fun p p1 p2 => by rw [vi_rs_o p1, vi_rs_o p2, h1 p p1 p2], S', l, vi_rs_s, hS', h4⟩, hK⟩
theorem k_142' (hY : kY Y 112) {i S l : Nat} (h73 : M 73 = rRow f b n i S l) (hS : S ≤ 400) {J : List Nat} {x : Int} (hx : lnk (M 75) J x) (hJ : ∀ j, j ∈ J → j < S) (hv : ∀ j, j ∈ J → 0 ≤ M 75 j ∧ M 75 j < 2147483648) (hD : 1 ≤ D) : vi_call GG D 142 [.inr (.inr 73), .inl x] (Y, M, nn) K ↔ K none (Y, vi_rs M 75 (aim (M 75) J S), nn) := by
  obtain ⟨D, rfl⟩ : ∃ k, D = k + 1 := ⟨D - 1, by omega⟩
  exact k_142 hY h73 hS hx hJ hv
theorem k_142f (hY : kY Y 112) {M0 : vi_M} {i : Nat} (h : pFl f b n M0 M i) {x : Int} (hx : -2147483648 ≤ x ∧ x < 2147483648) (hD : 1 ≤ D) : ∃ M' : vi_M, pFl f b n M0 M' i ∧ ∀ K : Option vi_V → vi_W → Prop, vi_call GG D 142 [.inr (.inr 73), .inl x] (Y, M, nn) K ↔ K none (Y, M', nn) := by
  obtain ⟨D, rfl⟩ : ∃ k, D = k + 1 := ⟨D - 1, by omega⟩
  obtain ⟨h1, S, l, h2, h3, h4⟩ := h
  obtain ⟨g, hK⟩ := k_142j (d := D) (nn := nn) (M := M) hY hx
  exact ⟨_, ⟨fun p p1 p2 => by rw [vi_rs_o p2, h1 p p1 p2], S, l, by rw [vi_rs_o (by omega)]; exact h2, h3, h4⟩, hK⟩
theorem k_139' (hY : kY Y 112) (hk : kS Y M) (h400 : n ≤ 400) (hb : tOk b) (m74 : M 74 = b) (hf : f 3 = (n : Int)) {i S l : Nat} (h73 : M 73 = rRow f b n i S l) (hD : 6 ≤ D) : vi_call GG D 139 [.inr (.inr 73)] (Y, M, nn) K ↔ K (some (.inl (pKd (tCd b n i)))) (Y, M, nn) := by
  obtain ⟨D, rfl⟩ : ∃ k, D = k + 6 := ⟨D - 6, by omega⟩
  exact k_139 hY hk h400 hb m74 hf h73
theorem k_140' (hY : kY Y 112) (h400 : n ≤ 400) (hb : tOk b) (m74 : M 74 = b) (hf : f 3 = (n : Int)) {i S l : Nat} (h73 : M 73 = rRow f b n i S l) (hk : tCd b n i = 50) (hD : 2 ≤ D) : ∃ v : Int, ((v = tVl b n i ∧ tVl b n i ≤ 1000) ∨ (1000 < v ∧ 1000 < tVl b n i)) ∧ 0 ≤ v ∧ v ≤ 10009 ∧ ∀ K : Option vi_V → vi_W → Prop, vi_call GG D 140 [.inr (.inr 73)] (Y, M, nn) K ↔ K (some (.inl v)) (Y, M, nn) := by
  obtain ⟨D, rfl⟩ : ∃ k, D = k + 2 := ⟨D - 2, by omega⟩
  exact k_140 hY h400 hb m74 hf h73 hk
end
