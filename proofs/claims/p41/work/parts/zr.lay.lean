/-! Lists of what constructors do: places, final fields, cells. -/
def ywO1 (w : vi_W) (o : Nat × Nat × Nat × Int × (Nat → Int)) : vi_W := match o with
  | (0, n, t, l, g) => (vi_ynew w.1 n t l.toNat, vi_rs w.2.1 n g, w.2.2.1 + 1, w.2.2.2 + l.toNat)
  | (1, q, k, v, _) => (vi_yfin w.1 q k v, w.2)
  | (_, q, k, v, _) => (w.1, vi_rs w.2.1 q (vi_u (w.2.1 q) k v), w.2.2)
def ywO (w : vi_W) : List (Nat × Nat × Nat × Int × (Nat → Int)) → vi_W
  | [] => w
  | o :: r => ywO (ywO1 w o) r
theorem ywO_a {w : vi_W} (L L' : List (Nat × Nat × Nat × Int × (Nat → Int))) : ywO w (L ++ L') = ywO (ywO w L) L' := by
  induction L generalizing w with
  | nil => rfl
  | cons o r ih => exact ih
def yoT (p : Nat) : Nat → List (Nat × Nat × Nat × Int × (Nat → Int)) → Nat
  | t, [] => t
  | t, o :: r => yoT p (cond (Nat.beq o.1 0 && Nat.beq o.2.1 p) o.2.2.1 t) r
def yoL (p : Nat) : Nat → List (Nat × Nat × Nat × Int × (Nat → Int)) → Nat
  | t, [] => t
  | t, o :: r => yoL p (cond (Nat.beq o.1 0 && Nat.beq o.2.1 p) o.2.2.2.1.toNat t) r
def yoF (p k : Nat) : Int → List (Nat × Nat × Nat × Int × (Nat → Int)) → Int
  | t, [] => t
  | t, o :: r => yoF p k (cond (Nat.beq o.1 0 && Nat.beq o.2.1 p) 0 (cond (Nat.beq o.1 1 && (Nat.beq o.2.1 p && Nat.beq o.2.2.1 k)) o.2.2.2.1 t)) r
def yoM (p : Nat) : (Nat → Int) → List (Nat × Nat × Nat × Int × (Nat → Int)) → (Nat → Int)
  | t, [] => t
  | t, o :: r => yoM p (cond (Nat.beq o.1 0 && Nat.beq o.2.1 p) o.2.2.2.2 (cond (Nat.ble 2 o.1 && Nat.beq o.2.1 p) (vi_u t o.2.2.1 o.2.2.2.1) t)) r
def yoN (p : Nat) : List (Nat × Nat × Nat × Int × (Nat → Int)) → Bool
  | [] => false
  | o :: r => (Nat.beq o.1 0 && Nat.beq o.2.1 p) || yoN p r
def yoK : List (Nat × Nat × Nat × Int × (Nat → Int)) → Bool
  | [] => true
  | o :: r => Nat.ble o.2.2.1 63 && yoK r
theorem ynb_t {a b : Nat} : (Nat.beq a b = true) = (a = b) := propext ⟨fun h => Nat.eq_of_beq_eq_true h, fun h => h ▸ Nat.beq_refl a⟩
theorem ynb_f {a b : Nat} : (Nat.beq a b = false) = ¬ (a = b) := by rw [← ynb_t]; cases Nat.beq a b <;> simp
theorem ywO_T (p : Nat) (L : List (Nat × Nat × Nat × Int × (Nat → Int))) : ∀ w : vi_W, (ywO w L).1.1 p = yoT p (w.1.1 p) L := by
  induction L with
  | nil => intro w; rfl
  | cons o r ih =>
    intro w
    show (ywO (ywO1 w o) r).1.1 p = _
    rw [ih]
    refine congrArg (fun t => yoT p t r) ?_
    obtain ⟨c, q, k, v, g⟩ := o
    match c with
    | 0 =>
      show (if p = q then k else w.1.1 p) = cond (true && Nat.beq q p) k (w.1.1 p)
      by_cases h : p = q
      · rw [if_pos h, h, Nat.beq_refl]; rfl
      · rw [if_neg h, show Nat.beq q p = false from by rw [ynb_f]; omega]; rfl
    | 1 => rfl
    | c + 2 => rfl
theorem ywO_L (p : Nat) (L : List (Nat × Nat × Nat × Int × (Nat → Int))) : ∀ w : vi_W, (ywO w L).1.2.1 p = yoL p (w.1.2.1 p) L := by
  induction L with
  | nil => intro w; rfl
  | cons o r ih =>
    intro w
    show (ywO (ywO1 w o) r).1.2.1 p = _
    rw [ih]
    refine congrArg (fun t => yoL p t r) ?_
    obtain ⟨c, q, k, v, g⟩ := o
    match c with
    | 0 =>
      show (if p = q then v.toNat else w.1.2.1 p) = cond (true && Nat.beq q p) v.toNat (w.1.2.1 p)
      by_cases h : p = q
      · rw [if_pos h, h, Nat.beq_refl]; rfl
      · rw [if_neg h, show Nat.beq q p = false from by rw [ynb_f]; omega]; rfl
    | 1 => rfl
    | c + 2 => rfl
theorem ywO_F (p k : Nat) (L : List (Nat × Nat × Nat × Int × (Nat → Int))) : ∀ w : vi_W, (ywO w L).1.2.2 p k = yoF p k (w.1.2.2 p k) L := by
  induction L with
  | nil => intro w; rfl
  | cons o r ih =>
    intro w
    show (ywO (ywO1 w o) r).1.2.2 p k = _
    rw [ih]
    refine congrArg (fun t => yoF p k t r) ?_
    obtain ⟨c, q, j, v, g⟩ := o
    match c with
    | 0 =>
      show (if p = q then (fun _ => 0) else w.1.2.2 p) k = cond (true && Nat.beq q p) 0 (w.1.2.2 p k)
      by_cases h : p = q
      · rw [if_pos h, h, Nat.beq_refl]; rfl
      · rw [if_neg h, show Nat.beq q p = false from by rw [ynb_f]; omega]; rfl
    | 1 =>
      show (if p = q ∧ k = j then v else w.1.2.2 p k) = cond (Nat.beq q p && Nat.beq j k) v (w.1.2.2 p k)
      by_cases h : p = q ∧ k = j
      · rw [if_pos h, h.1, h.2, Nat.beq_refl, Nat.beq_refl]; rfl
      · rw [if_neg h]
        by_cases h1 : p = q
        · rw [show Nat.beq j k = false from by rw [ynb_f]; omega, Bool.and_false]; rfl
        · rw [show Nat.beq q p = false from by rw [ynb_f]; omega]; rfl
    | c + 2 => rfl
theorem ywO_M (p : Nat) (L : List (Nat × Nat × Nat × Int × (Nat → Int))) : ∀ w : vi_W, (ywO w L).2.1 p = yoM p (w.2.1 p) L := by
  induction L with
  | nil => intro w; rfl
  | cons o r ih =>
    intro w
    show (ywO (ywO1 w o) r).2.1 p = _
    rw [ih]
    refine congrArg (fun t => yoM p t r) ?_
    obtain ⟨c, q, j, v, g⟩ := o
    match c with
    | 0 =>
      show vi_rs w.2.1 q g p = cond (true && Nat.beq q p) g (w.2.1 p)
      by_cases h : p = q
      · rw [h, Nat.beq_refl, vi_rs_s]; rfl
      · rw [vi_rs_o h, show Nat.beq q p = false from by rw [ynb_f]; omega]; rfl
    | 1 => rfl
    | c + 2 =>
      show vi_rs w.2.1 q (vi_u (w.2.1 q) j v) p = cond (true && Nat.beq q p) (vi_u (w.2.1 p) j v) (w.2.1 p)
      by_cases h : p = q
      · rw [h, Nat.beq_refl, vi_rs_s]; rfl
      · rw [vi_rs_o h, show Nat.beq q p = false from by rw [ynb_f]; omega]; rfl
theorem yoT_n {p : Nat} {L : List (Nat × Nat × Nat × Int × (Nat → Int))} : ∀ {s t : Nat}, yoN p L = true → yoT p s L = yoT p t L := by
  induction L with
  | nil => intro s t h; exact absurd h (by simp [yoN])
  | cons o r ih =>
    intro s t h
    rw [yoN, Bool.or_eq_true] at h
    rw [yoT, yoT]
    rcases h with h | h
    · rw [h]; rfl
    · exact ih h
theorem yoL_n {p : Nat} {L : List (Nat × Nat × Nat × Int × (Nat → Int))} : ∀ {s t : Nat}, yoN p L = true → yoL p s L = yoL p t L := by
  induction L with
  | nil => intro s t h; exact absurd h (by simp [yoN])
  | cons o r ih =>
    intro s t h
    rw [yoN, Bool.or_eq_true] at h
    rw [yoL, yoL]
    rcases h with h | h
    · rw [h]; rfl
    · exact ih h
theorem yoF_n {p k : Nat} {L : List (Nat × Nat × Nat × Int × (Nat → Int))} : ∀ {s t : Int}, yoN p L = true → yoF p k s L = yoF p k t L := by
  induction L with
  | nil => intro s t h; exact absurd h (by simp [yoN])
  | cons o r ih =>
    intro s t h
    rw [yoN, Bool.or_eq_true] at h
    rw [yoF, yoF]
    rcases h with h | h
    · rw [h]; rfl
    · exact ih h
theorem yoM_n {p : Nat} {L : List (Nat × Nat × Nat × Int × (Nat → Int))} : ∀ {s t : Nat → Int}, yoN p L = true → yoM p s L = yoM p t L := by
  induction L with
  | nil => intro s t h; exact absurd h (by simp [yoN])
  | cons o r ih =>
    intro s t h
    rw [yoN, Bool.or_eq_true] at h
    rw [yoM, yoM]
    rcases h with h | h
    · rw [h]; rfl
    · exact ih h
theorem yoF_z {p k : Nat} {L : List (Nat × Nat × Nat × Int × (Nat → Int))} (hk : 64 ≤ k) (hL : yoK L = true) : yoF p k 0 L = 0 := by
  induction L with
  | nil => rfl
  | cons o r ih =>
    rw [yoK, Bool.and_eq_true] at hL
    have h1 : o.2.2.1 ≤ 63 := Nat.le_of_ble_eq_true hL.1
    rw [yoF, show Nat.beq o.2.2.1 k = false from by rw [ynb_f]; omega, Bool.and_false, Bool.and_false]
    show yoF p k (cond _ 0 0) r = 0
    rw [show ∀ b : Bool, cond b (0 : Int) 0 = 0 from fun b => by cases b <;> rfl]
    exact ih hL.2
theorem yco0 {b : Bool} {x y : Int} (hx : x = 0) (hy : y = 0) : cond b x y = 0 := by cases b; exact hy; exact hx
theorem yF_z (p k : Nat) : yF p (k + 64) = 0 := by
  unfold yF
  repeat' (first | apply yco0 | rfl)
/-- the checks of a list over the places a .. b -/
def yoC (L : List (Nat × Nat × Nat × Int × (Nat → Int))) (p : Nat) : Bool := yoN p L && (Nat.beq (yoT p 0 L) (yT p) && (Nat.beq (yoL p 0 L) (yN p) && (List.range 64).all (fun k => decide (yoF p k 0 L = yF p k))))
theorem yoC_Y {w : vi_W} {L : List (Nat × Nat × Nat × Int × (Nat → Int))} {p : Nat} (hK : yoK L = true) (h : yoC L p = true) : (ywO w L).1.1 p = yT p ∧ (ywO w L).1.2.1 p = yN p ∧ ∀ k, (ywO w L).1.2.2 p k = yF p k := by
  rw [yoC, Bool.and_eq_true, Bool.and_eq_true, Bool.and_eq_true, ynb_t, ynb_t] at h
  obtain ⟨h1, h2, h3, h4⟩ := h
  rw [ywO_T, ywO_L, yoT_n (t := 0) h1, yoL_n (t := 0) h1]
  refine ⟨h2, h3, fun k => ?_⟩
  rw [ywO_F, yoF_n (t := 0) h1]
  by_cases hk : k < 64
  · exact of_decide_eq_true (List.all_eq_true.mp h4 k (List.mem_range.mpr hk))
  · obtain ⟨j, rfl⟩ : ∃ j, k = j + 64 := ⟨k - 64, by omega⟩
    rw [yoF_z (by omega) hK, yF_z]
