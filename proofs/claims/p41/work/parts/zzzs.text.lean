/-! The property of its own: the LAW that the law's text is. -/
def tX : List Int := [119, 101, 105, 103, 104, 115, 32, 49, 32, 43, 32, 120, 32, 42, 32, 121, 59, 116, 97, 107, 101, 115, 32, 105, 102, 32, 104, 111, 108, 101, 115, 32, 61, 32, 48, 32, 97, 110, 100, 32, 120, 32, 43, 32, 121, 32, 43, 32, 122, 32, 61, 32, 53, 59, 115, 104, 117, 116, 115, 32, 105, 102, 32, 114, 105, 110, 100, 32, 61, 32, 48, 32, 111, 114, 32, 122, 32, 61, 32, 100, 97, 121, 59, 119, 101, 105, 103, 104, 115, 32, 57, 32, 47, 32, 91, 120, 32, 45, 32, 49, 93, 32, 105, 102, 32, 114, 105, 110, 100, 32, 62, 32, 50]
def tC (j : Nat) : Int := tX.getD j 32
def tW (o : Nat) : Nat → (Nat → Int)
  | 0 => fun _ => 0
  | k + 1 => vi_u (tW o k) (k / 4) (vi_or32 (vi_shl32 (tW o k (k / 4)) 8) (tC (o + k)))
def tM (m : Nat) : Nat → Int := fun p => if p < 20 * m then tC p else 0
theorem tC_b : ∀ j, 0 ≤ tC j ∧ tC j < 128 := by
  have h : ∀ j, j < 113 → 0 ≤ tC j ∧ tC j < 128 := by decide +kernel
  intro j
  by_cases hj : j < 113
  · exact h j hj
  · unfold tC
    rw [List.getD_eq_getElem?_getD, List.getElem?_eq_none_iff.mpr (by show 113 ≤ j; omega)]
    decide
theorem tM_k (m : Nat) : tOk (tM m) := fun p => by
  have := tC_b p
  unfold tM
  split <;> omega
theorem tW_b : (List.range 6).all (fun m => (List.range 20).all (fun i => decide (tBy (tW (20 * m) 20 0) (tW (20 * m) 20 1) (tW (20 * m) 20 2) (tW (20 * m) 20 3) (tW (20 * m) 20 4) i = tC (20 * m + i)))) = true := by decide +kernel
theorem tM_s {m : Nat} (hm : m < 6) : mIm (tM m) (tBy (tW (20 * m) 20 0) (tW (20 * m) 20 1) (tW (20 * m) 20 2) (tW (20 * m) 20 3) (tW (20 * m) 20 4)) (20 * m) 20 = tM (m + 1) := by
  funext p
  unfold mIm
  by_cases h : 20 * m ≤ p ∧ p < 20 * m + 20
  · rw [if_pos h]
    have := of_decide_eq_true (List.all_eq_true.mp (List.all_eq_true.mp tW_b m (List.mem_range.mpr hm)) (p - 20 * m) (List.mem_range.mpr (by omega)))
    rw [this, show 20 * m + (p - 20 * m) = p by omega]
    unfold tM
    rw [if_pos (by omega)]
  · rw [if_neg h]
    unfold tM
    by_cases h2 : p < 20 * m
    · rw [if_pos h2, if_pos (by omega)]
    · rw [if_neg h2, if_neg (by omega)]
def tiL : List Nat := [0, 7, 9, 11, 13, 15, 16, 17, 23, 26, 32, 34, 36, 40, 42, 44, 46, 48, 50, 52, 53, 54, 60, 63, 68, 70, 72, 75, 77, 79, 82, 83, 90, 92, 94, 95, 97, 99, 100, 102, 105, 110, 112, 113]
def tcL : List Int := [1, 50, 143, 8, 142, 9, 159, 2, 4, 11, 161, 50, 6, 8, 143, 9, 143, 10, 161, 50, 159, 3, 4, 12, 161, 50, 5, 10, 161, 13, 159, 1, 50, 147, 191, 8, 145, 50, 193, 4, 12, 162, 50]
def tvL : List Int := [0, 1, 0, 0, 0, 0, 0, 0, 0, 0, 0, 0, 0, 0, 0, 0, 0, 0, 0, 5, 0, 0, 0, 0, 0, 0, 0, 0, 0, 0, 0, 0, 9, 0, 0, 0, 0, 1, 0, 0, 0, 0, 2]
theorem ti_0 : tF (tM 6) 113 0 = 0 := by decide +kernel
theorem ti_s : (List.range 43).all (fun i => decide (tF (tM 6) 113 (tE (tM 6) 113 (tiL.getD i 0)) = tiL.getD (i + 1) 0)) = true := by decide +kernel
theorem ti_v : ∀ i, i ≤ 43 → tI (tM 6) 113 i = tiL.getD i 0 := by
  intro i
  induction i with
  | zero => intro _; exact ti_0
  | succ i ih =>
    intro hi
    show tF (tM 6) 113 (tE (tM 6) 113 (tI (tM 6) 113 i)) = _
    rw [ih (by omega)]
    exact of_decide_eq_true (List.all_eq_true.mp ti_s i (List.mem_range.mpr (by omega)))
def tcA (b : Nat → Int) (n p : Nat) : Int := if tKd b n p = 1 then wC (tL b p (tE b n p)) else if tKd b n p = 2 then 50 else if tKd b n p = 3 then 100 + tB b p else 0
def tvA (b : Nat → Int) (n p : Nat) : Int := if tKd b n p = 2 then tV b (tE b n p - p) p 0 else 0
theorem tc_s : (List.range 43).all (fun i => decide (tcA (tM 6) 113 (tiL.getD i 0) = tcL.getD i 0) && decide (tvA (tM 6) 113 (tiL.getD i 0) = tvL.getD i 0)) = true := by decide +kernel
theorem ti_l : (List.range 43).all (fun i => decide (tiL.getD i 0 ≠ 113)) = true := by decide +kernel
def cdT : Nat → Int := fun i => tcL.getD i 0
def vlT : Nat → Int := fun i => tvL.getD i 0
def enT : Nat → Bool := fun i => decide (43 ≤ i)
theorem ti_e {i : Nat} (h : 43 ≤ i) : tI (tM 6) 113 i = 113 := tI_mono h (by rw [ti_v 43 (by omega)]; rfl)
theorem gD_o {L : List Int} {i : Nat} (h : L.length ≤ i) : L.getD i 0 = 0 := by rw [List.getD_eq_getElem?_getD, List.getElem?_eq_none_iff.mpr h]; rfl
theorem cdT_e : tCd (tM 6) 113 = cdT := funext fun i => by
  by_cases h : i < 43
  · show tcA (tM 6) 113 (tI (tM 6) 113 i) = _
    rw [ti_v i (by omega)]
    have := List.all_eq_true.mp tc_s i (List.mem_range.mpr h)
    rw [Bool.and_eq_true] at this
    exact of_decide_eq_true this.1
  · rw [tCd_e (ti_e (by omega))]
    exact (gD_o (by show 43 ≤ i; omega)).symm
theorem vlT_e : tVl (tM 6) 113 = vlT := funext fun i => by
  show tvA (tM 6) 113 (tI (tM 6) 113 i) = _
  by_cases h : i < 43
  · rw [ti_v i (by omega)]
    have := List.all_eq_true.mp tc_s i (List.mem_range.mpr h)
    rw [Bool.and_eq_true] at this
    exact of_decide_eq_true this.2
  · rw [ti_e (by omega)]
    exact (gD_o (by show 43 ≤ i; omega)).symm
theorem enT_e : (fun i => decide (tI (tM 6) 113 i = 113)) = enT := funext fun i => by
  unfold enT
  rw [decide_eq_decide]
  by_cases h : i < 43
  · have := of_decide_eq_true (List.all_eq_true.mp ti_l i (List.mem_range.mpr h))
    rw [ti_v i (by omega)]
    exact ⟨fun e => absurd e this, fun e => absurd e (by omega)⟩
  · rw [ti_e (by omega)]
    exact ⟨fun _ => by omega, fun _ => rfl⟩
abbrev lfT (i : Nat) : gDen := gLf cdT vlT i
def csT : List gCla := [(0, some (dJ 7 (lfT 1) (dJ 9 (lfT 3) (lfT 5))), none), (1, none, some (dA 0 (dJ 13 (lfT 9) (lfT 11)) (dJ 13 (dJ 7 (dJ 7 (lfT 13) (lfT 15)) (lfT 17)) (lfT 19)))), (2, none, some (dA 1 (dJ 13 (lfT 23) (lfT 25)) (dJ 13 (lfT 27) (lfT 29)))), (0, some (dJ 10 (lfT 32) (dJ 8 (lfT 35) (lfT 37))), some (dJ 12 (lfT 40) (lfT 42)))]
set_option maxRecDepth 100000 in
theorem csT_r : rdL cdT vlT enT 60 12 0 0 [] = some (some csT, 43) := rfl
theorem csT_g : rdL (tCd (tM 6) 113) (tVl (tM 6) 113) (fun i => decide (tI (tM 6) 113 i = 113)) 60 12 0 0 [] = some (some csT, 43) := by
  rw [cdT_e, vlT_e, enT_e]
  exact csT_r
theorem dJ_v {k : Int} {a b : gDen} {W : Nat → Int} {x y v : Int} (ha : a W = some x) (hb : b W = some y) (hv : lJn k x y = v) (h : -1000000000 ≤ v ∧ v ≤ 1000000000) : dJ k a b W = some v := by
  unfold dJ
  rw [ha, hb]
  dsimp only
  rw [hv, if_neg (by omega)]
theorem dA_v {key : Int} {a b : gDen} {W : Nat → Int} {x y : Int} (ha : a W = some x) (hb : b W = some y) : dA key a b W = some (if x = key then x else y) := by
  unfold dA
  rw [ha]
  dsimp only
  split
  · rfl
  · exact hb
theorem lJ_13 {x y : Int} : lJn 13 x y = if x = y then 1 else 0 := rfl
theorem lJ_12 {x y : Int} : lJn 12 x y = if y < x then 1 else 0 := rfl
theorem lJ_10 {x y : Int} : lJn 10 x y = if y = 0 then rB else x.tdiv y := rfl
theorem gcO_n {W : Nat → Int} {k : Int} {a : gDen} {v : Int} (h : a W = some v) : gcO W (k, some a, none) = v := by
  show gcS W (k, some a, none) = v
  rw [gcS_s, h]
  rfl
theorem gcO_t {W : Nat → Int} {k : Int} {b : gDen} {v : Int} (h : b W = some v) : gcO W (k, none, some b) = if v = 1 then 1 else rB := by
  show (if b W = some 1 then gcS W (k, none, some b) else rB) = _
  rw [h]
  by_cases e : v = 1
  · subst e; rw [if_pos rfl, if_pos rfl]; rfl
  · rw [if_neg e, if_neg (fun q => e (Option.some.inj q))]
theorem gcO_b {W : Nat → Int} {k : Int} {a b : gDen} {v : Int} (h : b W = some v) : gcO W (k, some a, some b) = if v = 1 then laV (a W) else rB := by
  show (if b W = some 1 then gcS W (k, some a, some b) else rB) = _
  rw [h, gcS_s]
  by_cases e : v = 1
  · subst e; rw [if_pos rfl, if_pos rfl]
  · rw [if_neg e, if_neg (fun q => e (Option.some.inj q))]
theorem xy_b {x y : Int} (hx : 0 ≤ x ∧ x ≤ 5) (hy : 0 ≤ y ∧ y ≤ 5) : 0 ≤ x * y ∧ x * y ≤ 25 := by
  obtain rfl | rfl | rfl | rfl | rfl | rfl : x = 0 ∨ x = 1 ∨ x = 2 ∨ x = 3 ∨ x = 4 ∨ x = 5 := by omega
  all_goals omega
theorem d9_b {x : Int} (hx : 0 ≤ x ∧ x ≤ 5) : -9 ≤ (9 : Int).tdiv (x - 1) ∧ (9 : Int).tdiv (x - 1) ≤ 9 := by
  obtain rfl | rfl | rfl | rfl | rfl | rfl : x = 0 ∨ x = 1 ∨ x = 2 ∨ x = 3 ∨ x = 4 ∨ x = 5 := by omega
  all_goals decide
theorem rB_v : 1000000000 < rB := by decide
/-- what the LAW tells -/
theorem csT_f {W : Nat → Int} {x y z h r t : Int} (w1 : W 1 = x) (w2 : W 2 = y) (w3 : W 3 = z) (w4 : W 4 = h) (w5 : W 5 = r) (w6 : W 6 = t) (hx : 0 ≤ x ∧ x ≤ 5) (hy : 0 ≤ y ∧ y ≤ 5) (hz : 0 ≤ z ∧ z ≤ 5) :
    csT.foldl (gF1 W) (false, false, 1) = (decide (h = 0 ∧ x + y + z = 5), decide (r = 0 ∨ z = t), if 2 < r ∧ x ≠ 1 then (9 : Int).tdiv (x - 1) else 1 + x * y) := by
  have hb := xy_b hx hy
  have hd := d9_b hx
  have rb := rB_v
  have l1 : lfT 1 W = some 1 := rfl
  have l3 : lfT 3 W = some x := by rw [← w1]; rfl
  have l5 : lfT 5 W = some y := by rw [← w2]; rfl
  have l9 : lfT 9 W = some h := by rw [← w4]; rfl
  have l11 : lfT 11 W = some 0 := rfl
  have l13 : lfT 13 W = some x := by rw [← w1]; rfl
  have l15 : lfT 15 W = some y := by rw [← w2]; rfl
  have l17 : lfT 17 W = some z := by rw [← w3]; rfl
  have l19 : lfT 19 W = some 5 := rfl
  have l23 : lfT 23 W = some r := by rw [← w5]; rfl
  have l25 : lfT 25 W = some 0 := rfl
  have l27 : lfT 27 W = some z := by rw [← w3]; rfl
  have l29 : lfT 29 W = some t := by rw [← w6]; rfl
  have l32 : lfT 32 W = some 9 := rfl
  have l35 : lfT 35 W = some x := by rw [← w1]; rfl
  have l37 : lfT 37 W = some 1 := rfl
  have l40 : lfT 40 W = some r := by rw [← w5]; rfl
  have l42 : lfT 42 W = some 2 := rfl
  have bt : ∀ (p : Prop) [Decidable p], -1000000000 ≤ (if p then (1 : Int) else 0) ∧ (if p then (1 : Int) else 0) ≤ 1000000000 := fun p _ => by split <;> omega
  have e0 : gcO W (0, some (dJ 7 (lfT 1) (dJ 9 (lfT 3) (lfT 5))), none) = 1 + x * y := gcO_n (dJ_v l1 (dJ_v (v := x * y) l3 l5 rfl (by omega)) rfl (by omega))
  have e1 : gcO W (1, none, some (dA 0 (dJ 13 (lfT 9) (lfT 11)) (dJ 13 (dJ 7 (dJ 7 (lfT 13) (lfT 15)) (lfT 17)) (lfT 19)))) = if h = 0 ∧ x + y + z = 5 then 1 else rB := by
    rw [gcO_t (dA_v (dJ_v l9 l11 lJ_13 (bt _)) (dJ_v (dJ_v (dJ_v l13 l15 rfl (by show -1000000000 ≤ x + y ∧ x + y ≤ 1000000000; omega)) l17 rfl (by show -1000000000 ≤ x + y + z ∧ x + y + z ≤ 1000000000; omega)) l19 lJ_13 (bt _)))]
    by_cases a : h = 0
    · by_cases b : x + y + z = 5
      · rw [if_pos a, if_neg (show ¬ (1 : Int) = 0 by decide), if_pos (show lJn 7 (lJn 7 x y) z = 5 from b), if_pos (rfl : (1 : Int) = 1), if_pos ⟨a, b⟩]
      · rw [if_pos a, if_neg (show ¬ (1 : Int) = 0 by decide), if_neg (show ¬ lJn 7 (lJn 7 x y) z = 5 from b), if_neg (show ¬ (0 : Int) = 1 by decide), if_neg (fun q => b q.2)]
    · rw [if_neg a, if_pos (rfl : (0 : Int) = 0), if_neg (show ¬ (0 : Int) = 1 by decide), if_neg (fun q => a q.1)]
  have e2 : gcO W (2, none, some (dA 1 (dJ 13 (lfT 23) (lfT 25)) (dJ 13 (lfT 27) (lfT 29)))) = if r = 0 ∨ z = t then 1 else rB := by
    rw [gcO_t (dA_v (dJ_v l23 l25 lJ_13 (bt _)) (dJ_v l27 l29 lJ_13 (bt _)))]
    by_cases a : r = 0
    · rw [if_pos a, if_pos (rfl : (1 : Int) = 1), if_pos (rfl : (1 : Int) = 1), if_pos (.inl a)]
    · by_cases b : z = t
      · rw [if_neg a, if_neg (show ¬ (0 : Int) = 1 by decide), if_pos b, if_pos (rfl : (1 : Int) = 1), if_pos (.inr b)]
      · rw [if_neg a, if_neg (show ¬ (0 : Int) = 1 by decide), if_neg b, if_neg (show ¬ (0 : Int) = 1 by decide), if_neg (fun q => q.elim a b)]
  have e3 : gcO W (0, some (dJ 10 (lfT 32) (dJ 8 (lfT 35) (lfT 37))), some (dJ 12 (lfT 40) (lfT 42))) = if 2 < r ∧ x ≠ 1 then (9 : Int).tdiv (x - 1) else rB := by
    rw [gcO_b (dJ_v l40 l42 lJ_12 (bt _))]
    by_cases a : 2 < r
    · rw [if_pos a, if_pos rfl]
      by_cases b : x = 1
      · have : dJ 10 (lfT 32) (dJ 8 (lfT 35) (lfT 37)) W = none := by
          have i : dJ 8 (lfT 35) (lfT 37) W = some 0 := dJ_v l35 l37 (show x - 1 = 0 by omega) (by omega)
          show (match lfT 32 W with
            | none => none
            | some x => match dJ 8 (lfT 35) (lfT 37) W with
              | none => none
              | some y => if lJn 10 x y < -1000000000 ∨ 1000000000 < lJn 10 x y then none else some (lJn 10 x y)) = none
          rw [l32, i]
          dsimp only
          rw [lJ_10, if_pos rfl, if_pos (.inr rb)]
        rw [this, if_neg (fun q => q.2 b)]
        rfl
      · rw [dJ_v l32 (dJ_v l35 l37 rfl (by show -1000000000 ≤ x - 1 ∧ x - 1 ≤ 1000000000; omega)) (v := (9 : Int).tdiv (x - 1)) (by show (if x - 1 = 0 then rB else (9 : Int).tdiv (x - 1)) = _; rw [if_neg (by omega)]) (by omega), if_pos ⟨a, b⟩]
        rfl
    · rw [if_neg a, if_neg (by decide), if_neg (fun q => a q.1)]
  unfold csT
  rw [List.foldl_cons, List.foldl_cons, List.foldl_cons, List.foldl_cons, List.foldl_nil]
  have f0 : gF1 W (false, false, 1) (0, some (dJ 7 (lfT 1) (dJ 9 (lfT 3) (lfT 5))), none) = (false, false, 1 + x * y) := by
    unfold gF1
    rw [e0, if_neg (by omega)]
    rfl
  rw [f0]
  have f1 : gF1 W (false, false, 1 + x * y) (1, none, some (dA 0 (dJ 13 (lfT 9) (lfT 11)) (dJ 13 (dJ 7 (dJ 7 (lfT 13) (lfT 15)) (lfT 17)) (lfT 19)))) = (decide (h = 0 ∧ x + y + z = 5), false, 1 + x * y) := by
    unfold gF1
    rw [e1]
    by_cases a : h = 0 ∧ x + y + z = 5
    · rw [if_pos a, if_neg (by omega), decide_eq_true a]
      rfl
    · rw [if_neg a, if_pos rfl, decide_eq_false a]
  rw [f1]
  have f2 : ∀ b : Bool, gF1 W (b, false, 1 + x * y) (2, none, some (dA 1 (dJ 13 (lfT 23) (lfT 25)) (dJ 13 (lfT 27) (lfT 29)))) = (b, decide (r = 0 ∨ z = t), 1 + x * y) := fun b => by
    unfold gF1
    rw [e2]
    by_cases a : r = 0 ∨ z = t
    · rw [if_pos a, if_neg (by omega), decide_eq_true a]
      cases b <;> rfl
    · rw [if_neg a, if_pos rfl, decide_eq_false a]
  rw [f2]
  unfold gF1
  rw [e3]
  by_cases a : 2 < r ∧ x ≠ 1
  · rw [if_pos a, if_neg (by omega), if_pos a]
    dsimp only
    rw [if_pos rfl, show decide ((0 : Int) = 1) = false from rfl, show decide ((0 : Int) = 2) = false from rfl, Bool.or_false, Bool.or_false]
  · rw [if_neg a, if_pos rfl, if_neg a]
