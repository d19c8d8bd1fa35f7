/-! Hanging together: steps within a set, the pieces of a set in order of their lowest cells. -/
def sA (a b : Nat) : Prop := (a % 6 ≠ 0 ∧ b = a - 1) ∨ (a % 6 ≠ 5 ∧ b = a + 1) ∨ (a / 6 % 6 ≠ 0 ∧ b = a - 6) ∨ (a / 6 % 6 ≠ 5 ∧ b = a + 6) ∨ (a / 36 ≠ 0 ∧ b = a - 36) ∨ (a / 36 ≠ 5 ∧ b = a + 36)
theorem sA_sym {a b : Nat} (h : a < 216) (k : sA a b) : sA b a := by
  unfold sA at k ⊢
  omega
theorem sA_lt {a b : Nat} (h : a < 216) (k : sA a b) : b < 216 := by
  unfold sA at k
  omega
def sNear (S : Nat → Bool) (c : Nat) : Bool := sXl S c || sXh S c || sYl S c || sYh S c || sZl S c || sZh S c
theorem sNear_iff {S : Nat → Bool} {c : Nat} : sNear S c = true ↔ ∃ b, sA c b ∧ S b = true := by
  unfold sNear sXl sXh sYl sYh sZl sZh sA
  simp only [Bool.or_eq_true, Bool.and_eq_true, decide_eq_true_eq]
  constructor
  · rintro (((((⟨h, k⟩ | ⟨h, k⟩) | ⟨h, k⟩) | ⟨h, k⟩) | ⟨h, k⟩) | ⟨h, k⟩)
    · exact ⟨_, .inl ⟨h, rfl⟩, k⟩
    · exact ⟨_, .inr (.inl ⟨h, rfl⟩), k⟩
    · exact ⟨_, .inr (.inr (.inl ⟨h, rfl⟩)), k⟩
    · exact ⟨_, .inr (.inr (.inr (.inl ⟨h, rfl⟩))), k⟩
    · exact ⟨_, .inr (.inr (.inr (.inr (.inl ⟨h, rfl⟩)))), k⟩
    · exact ⟨_, .inr (.inr (.inr (.inr (.inr ⟨h, rfl⟩)))), k⟩
  · rintro ⟨b, ⟨h, rfl⟩ | ⟨h, rfl⟩ | ⟨h, rfl⟩ | ⟨h, rfl⟩ | ⟨h, rfl⟩ | ⟨h, rfl⟩, k⟩ <;> simp [h, k]
def sCl (S : Nat → Bool) (a b : Nat) : Prop := ∀ T : Nat → Prop, T a → (∀ x y, T x → sA x y → S y = true → T y) → T b
theorem sCl_r {S : Nat → Bool} {a : Nat} : sCl S a a := fun _ h _ => h
theorem sCl_s {S : Nat → Bool} {a x y : Nat} (h : sCl S a x) (h1 : sA x y) (h2 : S y = true) : sCl S a y := fun T ha hs => hs x y (h T ha hs) h1 h2
theorem sCl_t {S : Nat → Bool} {a b c : Nat} (h : sCl S a b) (h1 : sCl S b c) : sCl S a c := fun T ha hs => h1 T (h T ha hs) hs
theorem sCl_in {S : Nat → Bool} {a b : Nat} (ha : S a = true) (h : sCl S a b) : S b = true := h (fun b => S b = true) ha (fun _ _ _ _ k => k)
theorem sCl_lt {S : Nat → Bool} {a b : Nat} (ha : a < 216) (h : sCl S a b) : b < 216 := h (fun b => b < 216) ha (fun _ _ h1 h2 _ => sA_lt h1 h2)
theorem sCl_sym {S : Nat → Bool} {a b : Nat} (h0 : a < 216) (ha : S a = true) (h : sCl S a b) : sCl S b a := by
  have := h (fun b => b < 216 ∧ S b = true ∧ sCl S b a) ⟨h0, ha, sCl_r⟩ (fun x y ⟨hx, hs, hc⟩ h1 h2 => ⟨sA_lt hx h1, h2, sCl_t (sCl_s sCl_r (sA_sym hx h1) hs) hc⟩)
  exact this.2.2
noncomputable def sK (S : Nat → Bool) (a : Nat) : Nat → Bool := fun c => @decide (sCl S a c) (Classical.propDecidable _)
theorem sK_iff {S : Nat → Bool} {a c : Nat} : sK S a c = true ↔ sCl S a c := by
  unfold sK
  exact @decide_eq_true_iff _ (Classical.propDecidable _)
/-- a closed part that hangs together is the piece -/
theorem sK_eq {S P : Nat → Bool} {a : Nat} (ha : P a = true) (h1 : ∀ c, c < 216 → P c = true → sCl S a c) (h2 : ∀ x y, x < 216 → P x = true → sA x y → S y = true → P y = true) (h0 : a < 216) : ∀ c, c < 216 → P c = sK S a c := by
  intro c hc
  rw [Bool.eq_iff_iff, sK_iff]
  exact ⟨h1 c hc, fun h => (h (fun c => c < 216 ∧ P c = true) ⟨h0, ha⟩ (fun x y hx hxy hy => ⟨sA_lt hx.1 hxy, h2 x y hx.1 hx.2 hxy hy⟩)).2⟩
theorem sE_n {S : Nat → Bool} (h : sE S = false) : ∃ j, j < 216 ∧ S j = true ∧ (∀ l, l < j → S l = false) ∧ sLo S = (j : Int) := by
  have h' : ¬ ∀ i, i < 216 → S i = false := fun k => by rw [sE_iff.mpr k] at h; cases h
  have hex : ∃ i, i < 216 ∧ S i = true := by
    refine Classical.byContradiction fun hn => h' fun i hi => ?_
    cases hs : S i
    · rfl
    · exact absurd ⟨i, hi, hs⟩ hn
  obtain ⟨i, hi, hs⟩ := hex
  have key : ∀ k, (∃ j, j < k ∧ j < 216 ∧ S j = true) → ∃ j, j < 216 ∧ S j = true ∧ ∀ l, l < j → S l = false := by
    intro k
    induction k with
    | zero => rintro ⟨j, hj, -⟩; omega
    | succ k ih =>
      rintro ⟨j, hj, hj2, hs⟩
      by_cases hk : ∃ j, j < k ∧ j < 216 ∧ S j = true
      · exact ih hk
      · refine ⟨j, hj2, hs, fun l hl => ?_⟩
        cases hsl : S l
        · rfl
        · exact absurd ⟨l, by omega, by omega, hsl⟩ hk
  obtain ⟨j, h1, h2, h3⟩ := key (i + 1) ⟨i, by omega, hi, hs⟩
  exact ⟨j, h1, h2, h3, sMn_f (by omega) (by omega) h2 (fun l _ => h3 l)⟩
theorem sE_t {S : Nat → Bool} (h : sE S = true) : (∀ i, i < 216 → S i = false) ∧ sLo S = -1 := by
  have := sE_iff.mp h
  exact ⟨this, sMn_e fun j _ h => this j (by omega)⟩
theorem sMn_c {k i : Nat} {S T : Nat → Bool} (h : ∀ j, i ≤ j → j < i + k → S j = T j) : sMn k i S = sMn k i T := by
  induction k generalizing i with
  | zero => rfl
  | succ k ih => rw [sMn, sMn, h i (by omega) (by omega), ih (fun j a b => h j (by omega) (by omega))]
theorem sLo_c {S T : Nat → Bool} (h : ∀ i, i < 216 → S i = T i) : sLo S = sLo T := sMn_c (fun j _ b => h j (by omega))
theorem sE_c {S T : Nat → Bool} (h : ∀ i, i < 216 → S i = T i) : sE S = sE T := by
  unfold sE
  rw [sN_c h]
theorem sCl_c {S T : Nat → Bool} {a : Nat} (ha : a < 216) (h : ∀ i, i < 216 → S i = T i) {c : Nat} (k : sCl S a c) : sCl T a c := by
  have := k (fun c => c < 216 ∧ sCl T a c) ⟨ha, sCl_r⟩ (fun x y ⟨hx, hc⟩ h1 h2 => ⟨sA_lt hx h1, sCl_s hc h1 (by rw [← h y (sA_lt hx h1)]; exact h2)⟩)
  exact this.2
theorem sK_c {S T : Nat → Bool} {a : Nat} (ha : a < 216) (h : ∀ i, i < 216 → S i = T i) : sK S a = sK T a := by
  funext c
  rw [Bool.eq_iff_iff, sK_iff, sK_iff]
  exact ⟨sCl_c ha h, sCl_c ha fun i hi => (h i hi).symm⟩
/-- what is left behind the first piece -/
noncomputable def sTl (S : Nat → Bool) : Nat → Bool := sDif S (sK S (sLo S).toNat)
theorem sTl_c {S T : Nat → Bool} (h0 : sE S = false) (h : ∀ i, i < 216 → S i = T i) : ∀ i, i < 216 → sTl S i = sTl T i := by
  intro i hi
  obtain ⟨j, h1, h2, h3, h4⟩ := sE_n h0
  unfold sTl sDif
  rw [← sLo_c h, h4, Int.toNat_natCast, sK_c h1 h, h i hi]
/-- how many pieces, of at most so many -/
noncomputable def sPc : Nat → (Nat → Bool) → Nat
  | 0, _ => 0
  | f + 1, S => if sE S = true then 0 else sPc f (sTl S) + 1
/-- a number of the i-th piece: how many cells (w 0), its lowest (w 1) -/
noncomputable def sPi : Nat → Nat → (Nat → Bool) → Int → Int → Int
  | 0, _, _, _, _ => -1
  | f + 1, k, S, i, w => if sE S = true then -1 else if (k : Int) = i then (if w = 0 then (sN 216 (sK S (sLo S).toNat) : Int) else sLo S) else sPi f (k + 1) (sTl S) i w
/-- the number of a cell's piece -/
noncomputable def sLb : Nat → Nat → (Nat → Bool) → Nat → Int
  | 0, _, _, _ => -1
  | f + 1, k, S, c => if sE S = true then -1 else if sK S (sLo S).toNat c = true then (k : Int) else sLb f (k + 1) (sTl S) c
theorem sPc_c : ∀ {f : Nat} {S T : Nat → Bool}, (∀ i, i < 216 → S i = T i) → sPc f S = sPc f T
  | 0, _, _, _ => rfl
  | f + 1, S, T, h => by
    rw [sPc, sPc, sE_c h]
    cases he : sE T
    · rw [sPc_c (sTl_c (by rw [sE_c h]; exact he) h)]
    · rfl
theorem sTl_lt {S : Nat → Bool} (h : sE S = false) : sN 216 (sTl S) < sN 216 S := by
  obtain ⟨j, h1, h2, h3, h4⟩ := sE_n h
  refine sN_lt (fun i _ hi => ?_) h1 ?_ h2
  · unfold sTl sDif at hi
    simp at hi
    exact hi.1
  · unfold sTl sDif
    rw [h4, Int.toNat_natCast, sK_iff.mpr sCl_r]
    simp
theorem sPc_f {f : Nat} : ∀ {g : Nat} {S : Nat → Bool}, sN 216 S ≤ f → sN 216 S ≤ g → sPc f S = sPc g S := by
  induction f with
  | zero =>
    intro g S h _
    have he : sE S = true := sE_iff.mpr (sN_0.mp (Nat.le_zero.mp h))
    cases g with
    | zero => rfl
    | succ g => rw [sPc, sPc, if_pos he]
  | succ f ih =>
    intro g S h1 h2
    cases g with
    | zero =>
      have he : sE S = true := sE_iff.mpr (sN_0.mp (Nat.le_zero.mp h2))
      rw [sPc, sPc, if_pos he]
    | succ g =>
      rw [sPc, sPc]
      cases he : sE S
      · have := sTl_lt he
        rw [ih (g := g) (by omega) (by omega)]
      · rfl
