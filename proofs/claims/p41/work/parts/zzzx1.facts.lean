/-! The property of its own: what a CELL is told, in the law's numbers. -/
theorem rd_m {f : Nat → Int} {c : Nat} (hc : mIcb f (c : Int) = true) : mRn (rowM f) (c : Int) 6 = rdE (f 96) (f 97) (f 98) (c : Int) := by
  have hc := of_decide_eq_true hc
  have t0 : (if mBe (rowM f) (c : Int) 0 = -1 then (1 : Int) else 0) = if (c : Int) % 6 = 0 then 1 else 0 := it_c (by
    show (if (c : Int) % 6 = 0 then (-1 : Int) else (c : Int) - 1) = -1 ↔ _
    split <;> omega)
  have t1 : (if mBe (rowM f) (c : Int) 1 = -1 then (1 : Int) else 0) = if (c : Int) % 6 = f 96 - 1 then 1 else 0 := it_c (by
    show (if f 96 ≤ (c : Int) % 6 + 1 then (-1 : Int) else (c : Int) + 1) = -1 ↔ _
    split <;> omega)
  have t2 : (if mBe (rowM f) (c : Int) 2 = -1 then (1 : Int) else 0) = if (c : Int) / 6 % 6 = 0 then 1 else 0 := it_c (by
    show (if (c : Int) / 6 % 6 = 0 then (-1 : Int) else (c : Int) - 6) = -1 ↔ _
    split <;> omega)
  have t3 : (if mBe (rowM f) (c : Int) 3 = -1 then (1 : Int) else 0) = if (c : Int) / 6 % 6 = f 97 - 1 then 1 else 0 := it_c (by
    show (if f 97 ≤ (c : Int) / 6 % 6 + 1 then (-1 : Int) else (c : Int) + 6) = -1 ↔ _
    split <;> omega)
  have t4 : (if mBe (rowM f) (c : Int) 4 = -1 then (1 : Int) else 0) = if (c : Int) / 36 = 0 then 1 else 0 := it_c (by
    show (if (c : Int) / 36 = 0 then (-1 : Int) else (c : Int) - 36) = -1 ↔ _
    split <;> omega)
  have t5 : (if mBe (rowM f) (c : Int) 5 = -1 then (1 : Int) else 0) = if (c : Int) / 36 = f 98 - 1 then 1 else 0 := it_c (by
    show (if f 98 ≤ (c : Int) / 36 + 1 then (-1 : Int) else (c : Int) + 36) = -1 ↔ _
    split <;> omega)
  rw [mRn, mRn, mRn, mRn, mRn, mRn, mRn, t0, t1, t2, t3, t4, t5, Int.zero_add]
  rfl
/-- what a CELL weighs -/
def wtE (x y z fl c : Int) : Int := if fl = 1 then (if 2 < rdE x y z c ∧ c % 6 ≠ 1 then max 1 ((9 : Int).tdiv (c % 6 - 1)) else 1 + c % 6 * (c / 6 % 6)) else 1
theorem tl_f {x y z t fl fo : Int} {L : List (Nat → Int)} {lw : Option (List gCla)} {n : Nat} (hbt : boxT lw fl fo) {c : Nat} (hc : bxS (fK x y z t L) c = true) : tlS (fK x y z t L) lw n c = (decide (fl = 1 ∧ mAt (fK x y z t L) (c : Int) n = 0 ∧ (c : Int) % 6 + (c : Int) / 6 % 6 + (c : Int) / 36 = 5), decide (fl = 1 ∧ (rdE x y z (c : Int) = 0 ∨ (c : Int) / 36 = t)), wtE x y z fl (c : Int)) := by
  have hcb := of_decide_eq_true hc
  rcases hbt with ⟨rfl, rfl, -⟩ | ⟨rfl, rfl, -⟩
  · show (false, false, (1 : Int)) = _
    rw [decide_eq_false (fun k => absurd k.1 (by decide)), decide_eq_false (fun k => absurd k.1 (by decide))]
    unfold wtE
    rw [if_neg (by decide)]
  · have hX : 0 ≤ (c : Int) % 6 ∧ (c : Int) % 6 ≤ 5 := by omega
    have hY : 0 ≤ (c : Int) / 6 % 6 ∧ (c : Int) / 6 % 6 ≤ 5 := by omega
    have hZ : 0 ≤ (c : Int) / 36 ∧ (c : Int) / 36 ≤ 5 := by omega
    have e := @csT_f (mWd (rowM (fK x y z t L)) (c : Int) (mAt (fK x y z t L) (c : Int) n)) ((c : Int) % 6) ((c : Int) / 6 % 6) ((c : Int) / 36) (mAt (fK x y z t L) (c : Int) n) (mRn (rowM (fK x y z t L)) (c : Int) 6) t rfl rfl rfl rfl rfl rfl hX hY hZ
    rw [rd_m hc] at e
    have e : csT.foldl (gF1 (mWd (rowM (fK x y z t L)) (c : Int) (mAt (fK x y z t L) (c : Int) n))) (false, false, 1) = (decide (mAt (fK x y z t L) (c : Int) n = 0 ∧ (c : Int) % 6 + (c : Int) / 6 % 6 + (c : Int) / 36 = 5), decide (rdE x y z (c : Int) = 0 ∨ (c : Int) / 36 = t), if 2 < rdE x y z (c : Int) ∧ (c : Int) % 6 ≠ 1 then (9 : Int).tdiv ((c : Int) % 6 - 1) else 1 + (c : Int) % 6 * ((c : Int) / 6 % 6)) := e
    show ((csT.foldl (gF1 (mWd (rowM (fK x y z t L)) (c : Int) (mAt (fK x y z t L) (c : Int) n))) (false, false, 1)).1, (csT.foldl (gF1 (mWd (rowM (fK x y z t L)) (c : Int) (mAt (fK x y z t L) (c : Int) n))) (false, false, 1)).2.1, mCl (csT.foldl (gF1 (mWd (rowM (fK x y z t L)) (c : Int) (mAt (fK x y z t L) (c : Int) n))) (false, false, 1)).2.2) = _
    rw [e]
    have hb := xy_b hX hY
    have hd := d9_b hX
    have a1 : decide (mAt (fK x y z t L) (c : Int) n = 0 ∧ (c : Int) % 6 + (c : Int) / 6 % 6 + (c : Int) / 36 = 5) = decide ((1 : Int) = 1 ∧ mAt (fK x y z t L) (c : Int) n = 0 ∧ (c : Int) % 6 + (c : Int) / 6 % 6 + (c : Int) / 36 = 5) := by
      rw [decide_eq_decide]
      exact ⟨fun h => ⟨rfl, h⟩, fun h => h.2⟩
    have a2 : decide (rdE x y z (c : Int) = 0 ∨ (c : Int) / 36 = t) = decide ((1 : Int) = 1 ∧ (rdE x y z (c : Int) = 0 ∨ (c : Int) / 36 = t)) := by
      rw [decide_eq_decide]
      exact ⟨fun h => ⟨rfl, h⟩, fun h => h.2⟩
    have a3 : mCl (if 2 < rdE x y z (c : Int) ∧ (c : Int) % 6 ≠ 1 then (9 : Int).tdiv ((c : Int) % 6 - 1) else 1 + (c : Int) % 6 * ((c : Int) / 6 % 6)) = wtE x y z 1 (c : Int) := by
      unfold wtE mCl
      rw [if_pos rfl]
      by_cases q : 2 < rdE x y z (c : Int) ∧ (c : Int) % 6 ≠ 1
      · rw [if_pos q, if_pos q]
        generalize (9 : Int).tdiv ((c : Int) % 6 - 1) = d at *
        omega
      · rw [if_neg q, if_neg q]
        generalize (c : Int) % 6 * ((c : Int) / 6 % 6) = d at *
        omega
    dsimp only
    rw [a1, a2, a3]
theorem lf_e {x y z t fl fo : Int} {L : List (Nat → Int)} {lw : Option (List gCla)} {n : Nat} (hbt : boxT lw fl fo) {c : Nat} : (lfS (fK x y z t L) lw n c = true) ↔ (bxS (fK x y z t L) c = true ∧ mAt (fK x y z t L) (c : Int) n = 0 ∧ ¬ (fl = 1 ∧ c % 6 + c / 6 % 6 + c / 36 = 5)) := by
  show (bxS (fK x y z t L) c && decide (mAt (fK x y z t L) (c : Int) n = 0) && !(tlS (fK x y z t L) lw n c).1) = true ↔ _
  by_cases hc : bxS (fK x y z t L) c = true
  · rw [tl_f hbt hc, hc, Bool.true_and, Bool.and_eq_true, decide_eq_true_iff, Bool.not_eq_true', decide_eq_false_iff_not]
    refine ⟨fun ⟨h1, h2⟩ => ⟨rfl, h1, fun ⟨q1, q2⟩ => h2 ⟨q1, h1, by omega⟩⟩, fun ⟨_, h1, h2⟩ => ⟨h1, fun ⟨q1, _, q2⟩ => h2 ⟨q1, by omega⟩⟩⟩
  · rw [Bool.eq_false_iff.mpr hc]
    exact ⟨fun h => by simp at h, fun h => absurd h.1 (by simp)⟩
theorem bxR_at {M : vi_M} {x y z t fl fo : Int} {L R : List (Nat → Int)} {lw : Option (List gCla)} {nl : Nat} (hS : wS M x y z t L R lw nl fo) {g : Nat → Int} (hr : bxR g (fK x y z t L) fl 216 (fun c => (hC x y z L (c : Int) : Int))) : bxR g (fK x y z t L) fl 216 (fun c => mAt (fK x y z t L) (c : Int) L.length) := by
  have hHs := fK_H (t := t) hS.1.2.1.1
  have hB : bxF (fK x y z t L) := hS.1.2.2.1.2.2.2.2.1
  exact bxR_c hr fun c _ => @hC_at (fK x y z t L) L hB hHs (c : Int) (by omega)
theorem left_b {x y z t fl fo : Int} {L : List (Nat → Int)} {lw : Option (List gCla)} {n : Nat} (hbt : boxT lw fl fo) {g : Nat → Int} (hr : bxR g (fK x y z t L) fl 216 (fun c => mAt (fK x y z t L) (c : Int) n)) {c : Nat} (hc : c < 216) : decide (g (6 + c) = 0 ∧ ¬ (g 5 = 1 ∧ c % 6 + c / 6 % 6 + c / 36 = 5)) = lfS (fK x y z t L) lw n c := by
  rw [Bool.eq_iff_iff, decide_eq_true_iff, lf_e hbt, hr.1.2.2.2.2, hr.2 c hc]
  by_cases hb : bxS (fK x y z t L) c = true
  · rw [if_pos hb]
    exact ⟨fun h => ⟨hb, h⟩, fun h => h.2⟩
  · rw [if_neg hb]
    exact ⟨fun h => absurd h.1 (by decide), fun h => absurd h.1 hb⟩
theorem mAt_0 {f : Nat → Int} {c : Int} : ∀ n, 0 ≤ mAt f c n := by
  have st : ∀ h k i, 0 ≤ mSt f h c k i := by
    intro h k
    induction k with
    | zero => intro i; exact Int.le_refl _
    | succ k ih =>
      intro i
      rw [mSt]
      have := ih (i + 1)
      split
      · exact Int.le_refl _
      · split <;> omega
  intro n
  induction n with
  | zero => exact Int.le_refl _
  | succ n ih =>
    rw [mAt]
    have := st n 7 0
    omega
theorem wtE_b {x y z fl c : Int} (hc : 0 ≤ c) : 1 ≤ wtE x y z fl c ∧ wtE x y z fl c ≤ 26 := by
  have hX : 0 ≤ c % 6 ∧ c % 6 ≤ 5 := by omega
  have hY : 0 ≤ c / 6 % 6 ∧ c / 6 % 6 ≤ 5 := by omega
  have hb := xy_b hX hY
  have hd := d9_b hX
  unfold wtE
  split
  · split
    · generalize (9 : Int).tdiv (c % 6 - 1) = d at *
      omega
    · generalize c % 6 * (c / 6 % 6) = d at *
      omega
  · omega
/-- the law's queries leave these alone -/
theorem pS_q {M M' : vi_M} {x y z t fo : Int} {L R : List (Nat → Int)} {lw : Option (List gCla)} {nl : Nat} (hS : wS M x y z t L R lw nl fo) (hq : cQ M M') (hJ : jJ M') : wS M' x y z t L R lw nl fo := by
  obtain ⟨⟨⟨o1, o2, o3⟩, h4, h5, h6, h7, h8⟩, hV⟩ := hS
  refine ⟨⟨⟨?_, ?_, ?_⟩, h4, ?_, ?_, hJ, ?_⟩, jV_c hV fun p p1 p2 => hq.1 p (by omega)⟩
  · rw [hq.1 31 (by omega), hq.1 32 (by omega)]; exact o1
  · rw [hq.1 33 (by omega), hq.1 34 (by omega)]; exact o2
  · rw [hq.1 35 (by omega), hq.1 36 (by omega)]; exact o3
  · rw [hq.1 30 (by omega)]; exact h5
  · rw [hq.1 30 (by omega)]; exact h6
  · rw [hq.1 111 (by omega)]; exact h8
