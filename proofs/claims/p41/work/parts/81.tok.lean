/-! Tokens of a tape: b its bytes, n how many. -/
def tB (b : Nat → Int) (p : Nat) : Int := b p % 256
def tK (s : Int) : Int := if 97 ≤ s ∧ s ≤ 122 then 1 else if 48 ≤ s ∧ s ≤ 57 then 2 else 3
/-- blanks passed, from p, k at most -/
def tS (b : Nat → Int) : Nat → Nat → Nat
  | 0, p => p
  | k + 1, p => if tB b p = 32 then tS b k (p + 1) else p
/-- where a row of one kind ends -/
def tR (b : Nat → Int) (k : Int) : Nat → Nat → Nat
  | 0, p => p
  | j + 1, p => if tK (tB b p) = k then tR b k j (p + 1) else p
def tF (b : Nat → Int) (n p : Nat) : Nat := tS b (n - p) p
def tKd (b : Nat → Int) (n p : Nat) : Int := if p < n then tK (tB b p) else 0
def tE (b : Nat → Int) (n p : Nat) : Nat := if p < n then (if tK (tB b p) = 3 then p + 1 else tR b (tK (tB b p)) (n - (p + 1)) (p + 1)) else n
/-- where the i-th token begins -/
def tI (b : Nat → Int) (n : Nat) : Nat → Nat
  | 0 => tF b n 0
  | i + 1 => tF b n (tE b n (tI b n i))
def tL (b : Nat → Int) (p e : Nat) : List Int := (List.range (e - p)).map fun i => tB b (p + i)
def wL : Nat → List Int
  | 1 => [119, 101, 105, 103, 104, 115]
  | 2 => [116, 97, 107, 101, 115]
  | 3 => [115, 104, 117, 116, 115]
  | 4 => [105, 102]
  | 5 => [111, 114]
  | 6 => [97, 110, 100]
  | 7 => [110, 111, 116]
  | 8 => [120]
  | 9 => [121]
  | 10 => [122]
  | 11 => [104, 111, 108, 101, 115]
  | 12 => [114, 105, 110, 100]
  | 13 => [100, 97, 121]
  | _ => []
/-- the number of a word: the first of k from w on -/
def wF' (L : List Int) : Nat → Nat → Int
  | 0, _ => 0
  | k + 1, w => if L = wL w then (w : Int) else wF' L k (w + 1)
def wC (L : List Int) : Int := wF' L 13 1
/-- a row of digits; beyond a million it grows no more -/
def tV (b : Nat → Int) : Nat → Nat → Int → Int
  | 0, _, v => v
  | k + 1, p, v => tV b k (p + 1) (if 1000000 < v then v else 10 * v + b p - 48)
def tCd (b : Nat → Int) (n i : Nat) : Int := if tKd b n (tI b n i) = 1 then wC (tL b (tI b n i) (tE b n (tI b n i))) else if tKd b n (tI b n i) = 2 then 50 else if tKd b n (tI b n i) = 3 then 100 + tB b (tI b n i) else 0
def tVl (b : Nat → Int) (n i : Nat) : Int := if tKd b n (tI b n i) = 2 then tV b (tE b n (tI b n i) - tI b n i) (tI b n i) 0 else 0
theorem tB_r {b : Nat → Int} {p : Nat} : 0 ≤ tB b p ∧ tB b p < 256 := by unfold tB; omega
theorem tK_r {s : Int} : tK s = 1 ∨ tK s = 2 ∨ tK s = 3 := by unfold tK; split <;> (try split) <;> simp
theorem tS_le {b : Nat → Int} : ∀ k p, p ≤ tS b k p ∧ tS b k p ≤ p + k
  | 0, p => by simp [tS]
  | k + 1, p => by
    rw [tS]
    split
    · have := tS_le (b := b) k (p + 1); omega
    · omega
theorem tR_le {b : Nat → Int} {kd : Int} : ∀ k p, p ≤ tR b kd k p ∧ tR b kd k p ≤ p + k
  | 0, p => by simp [tR]
  | k + 1, p => by
    rw [tR]
    split
    · have := tR_le (b := b) (kd := kd) k (p + 1); omega
    · omega
theorem tF_le {b : Nat → Int} {n p : Nat} (h : p ≤ n) : p ≤ tF b n p ∧ tF b n p ≤ n := by
  have := tS_le (b := b) (n - p) p
  unfold tF; omega
theorem tE_le {b : Nat → Int} {n p : Nat} (h : p ≤ n) : p ≤ tE b n p ∧ tE b n p ≤ n ∧ (p < n → p < tE b n p) := by
  unfold tE
  split
  · split
    · omega
    · have := tR_le (b := b) (kd := tK (tB b p)) (n - (p + 1)) (p + 1); omega
  · omega
theorem tI_le {b : Nat → Int} {n : Nat} : ∀ i, tI b n i ≤ n
  | 0 => (tF_le (Nat.zero_le _)).2
  | i + 1 => (tF_le (tE_le (tI_le i)).2.1).2
theorem tI_s {b : Nat → Int} {n i : Nat} (h : tI b n i < n) : tI b n i < tI b n (i + 1) := by
  have h1 := tE_le (b := b) (tI_le (b := b) (n := n) i)
  have h2 := tF_le (b := b) h1.2.1
  have h3 := h1.2.2 h
  rw [tI]; omega
theorem tI_e {b : Nat → Int} {n i : Nat} (h : tI b n i = n) : tI b n (i + 1) = n := by
  have h1 := tE_le (b := b) (tI_le (b := b) (n := n) i)
  have h2 := tF_le (b := b) h1.2.1
  rw [tI]; omega
theorem tI_ge {b : Nat → Int} {n : Nat} : ∀ i, tI b n i = n ∨ i ≤ tI b n i
  | 0 => .inr (Nat.zero_le _)
  | i + 1 => by
    rcases tI_ge (b := b) (n := n) i with h | h
    · exact .inl (tI_e h)
    · by_cases e : tI b n i = n
      · exact .inl (tI_e e)
      · have := tI_s (b := b) (n := n) (i := i) (by have := tI_le (b := b) (n := n) i; omega)
        exact .inr (by omega)
theorem tI_n {b : Nat → Int} {n i : Nat} (h : n ≤ i) : tI b n i = n := by
  rcases tI_ge (b := b) (n := n) i with h1 | h1
  · exact h1
  · have := tI_le (b := b) (n := n) i; omega
theorem tI_mono {b : Nat → Int} {n : Nat} : ∀ {i j : Nat}, i ≤ j → tI b n i = n → tI b n j = n := by
  intro i j hij h
  induction j with
  | zero => obtain rfl : i = 0 := by omega
            exact h
  | succ j ih =>
    by_cases e : i = j + 1
    · rw [← e]; exact h
    · exact tI_e (ih (by omega))
theorem tCd_e {b : Nat → Int} {n i : Nat} (h : tI b n i = n) : tCd b n i = 0 := by
  unfold tCd tKd
  rw [h, if_neg (Nat.lt_irrefl n)]
  simp
theorem tCd_n {b : Nat → Int} {n i : Nat} (h : n ≤ i) : tCd b n i = 0 := tCd_e (tI_n h)
theorem wF_r {L : List Int} : ∀ k w, wF' L k w = 0 ∨ (∃ v, w ≤ v ∧ v < w + k ∧ wF' L k w = (v : Int) ∧ L = wL v)
  | 0, _ => .inl rfl
  | k + 1, w => by
    rw [wF']
    split
    · rename_i h; exact .inr ⟨w, by omega, by omega, rfl, h⟩
    · rcases wF_r (L := L) k (w + 1) with h | ⟨v, h1, h2, h3, h4⟩
      · exact .inl h
      · exact .inr ⟨v, by omega, by omega, h3, h4⟩
theorem wL_inj : ∀ v, v < 14 → ∀ w, w < 14 → v ≠ 0 → wL v = wL w → v = w := by decide
theorem wC_iff {L : List Int} {w : Nat} (h1 : 1 ≤ w) (h2 : w ≤ 13) : wC L = (w : Int) ↔ L = wL w := by
  constructor
  · intro h
    rcases wF_r (L := L) 13 1 with e | ⟨v, e1, e2, e3, e4⟩
    · unfold wC at h; omega
    · unfold wC at h
      obtain rfl : v = w := by omega
      exact e4
  · intro h
    have : ∀ k v, v ≤ w → w < v + k → 1 ≤ v → v + k ≤ 14 → wF' L k v = (w : Int) := by
      intro k
      induction k with
      | zero => intro v _ _; omega
      | succ k ih =>
        intro v h3 h4 h5 h6
        rw [wF']
        by_cases e : v = w
        · rw [if_pos (by rw [e]; exact h), e]
        · rw [if_neg (fun q => e (wL_inj v (by omega) w (by omega) (by omega) (by rw [← q, h])))]
          exact ih (v + 1) (by omega) (by omega) (by omega) (by omega)
    exact this 13 1 h1 (by omega) (by omega) (by omega)
theorem wC_r {L : List Int} : 0 ≤ wC L ∧ wC L ≤ 13 := by
  unfold wC
  rcases wF_r (L := L) 13 1 with e | ⟨v, e1, e2, e3, e4⟩
  · rw [e]; omega
  · rw [e3]; omega
theorem tKd_r {b : Nat → Int} {n p : Nat} : (tKd b n p = 0 ∧ n ≤ p) ∨ ((tKd b n p = 1 ∨ tKd b n p = 2 ∨ tKd b n p = 3) ∧ p < n) := by
  unfold tKd
  split
  · exact .inr ⟨tK_r, by assumption⟩
  · exact .inl ⟨rfl, by omega⟩
/-- a sign's code -/
theorem tCd_sg {b : Nat → Int} {n i : Nat} {c : Int} (hc : 32 < c ∧ tK c = 3) : tCd b n i = 100 + c ↔ (tKd b n (tI b n i) = 3 ∧ tB b (tI b n i) = c) := by
  unfold tCd
  rcases tKd_r (b := b) (n := n) (p := tI b n i) with ⟨h, -⟩ | ⟨h | h | h, -⟩
  · rw [h]; simp <;> omega
  · rw [h, if_pos rfl]
    have := wC_r (L := tL b (tI b n i) (tE b n (tI b n i)))
    constructor
    · intro e; omega
    · intro e; omega
  · rw [h]; simp <;> omega
  · rw [h]; simp <;> omega
theorem tCd_w {b : Nat → Int} {n i w : Nat} (h1 : 1 ≤ w) (h2 : w ≤ 13) : tCd b n i = (w : Int) ↔ (tKd b n (tI b n i) = 1 ∧ tL b (tI b n i) (tE b n (tI b n i)) = wL w) := by
  have hr := tB_r (b := b) (p := tI b n i)
  unfold tCd
  rcases tKd_r (b := b) (n := n) (p := tI b n i) with ⟨h, -⟩ | ⟨h | h | h, -⟩
  · rw [h]; simp <;> omega
  · rw [h, if_pos rfl, wC_iff h1 h2]; simp
  · rw [h]; simp <;> omega
  · rw [h]; simp <;> omega
theorem tCd_50 {b : Nat → Int} {n i : Nat} : tCd b n i = 50 ↔ tKd b n (tI b n i) = 2 := by
  have hr := tB_r (b := b) (p := tI b n i)
  unfold tCd
  rcases tKd_r (b := b) (n := n) (p := tI b n i) with ⟨h, -⟩ | ⟨h | h | h, -⟩
  · rw [h]; simp
  · rw [h, if_pos rfl]
    have := wC_r (L := tL b (tI b n i) (tE b n (tI b n i)))
    constructor
    · intro e; omega
    · intro e; omega
  · rw [h]; simp
  · rw [h]; simp <;> omega
theorem tL_len {b : Nat → Int} {p e : Nat} : (tL b p e).length = e - p := by unfold tL; simp
theorem tL_at {b : Nat → Int} {p e i : Nat} (h : i < e - p) : (tL b p e).getD i 0 = tB b (p + i) := by
  unfold tL
  rw [List.getD_eq_getElem?_getD, List.getElem?_map, List.getElem?_range h]
  rfl
theorem tL_ne {b : Nat → Int} {p e w : Nat} (h : tL b p e = wL w → False) (hl : e - p = (wL w).length) : ∃ i, i < e - p ∧ tB b (p + i) ≠ (wL w).getD i 0 := by
  refine Classical.byContradiction fun hn => h ?_
  have hall : ∀ i, i < e - p → tB b (p + i) = (wL w).getD i 0 := fun i hi => Classical.byContradiction fun k => hn ⟨i, hi, k⟩
  apply List.ext_getElem
  · rw [tL_len, hl]
  · intro i h1 h2
    rw [tL_len] at h1
    have e1 := tL_at (b := b) (p := p) (e := e) h1
    have e2 := hall i h1
    rw [List.getD_eq_getElem?_getD, List.getElem?_eq_getElem (by rw [tL_len]; exact h1)] at e1
    rw [List.getD_eq_getElem?_getD, List.getElem?_eq_getElem h2] at e2
    simp only [Option.getD_some] at e1 e2
    rw [e1, e2]
