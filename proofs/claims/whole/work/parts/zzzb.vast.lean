/-! Pairs: vast. -/
theorem zuS_pl {f g : Nat → Nat} : ∀ n : Nat, zuS n (fun i => f i + g i) = zuS n f + zuS n g
  | 0 => rfl
  | n + 1 => by rw [zuS, zuS, zuS, zuS_pl n]; omega
theorem zuS_ml {f : Nat → Nat} {k : Nat} : ∀ n : Nat, k * zuS n f = zuS n (fun i => k * f i)
  | 0 => rfl
  | n + 1 => by rw [zuS, zuS, Nat.mul_add, zuS_ml n]
theorem zuS_sw {f : Nat → Nat → Nat} {m : Nat} : ∀ n : Nat, zuS n (fun i => zuS m (fun j => f i j)) = zuS m (fun j => zuS n (fun i => f i j))
  | 0 => (zuS_z m).symm
  | n + 1 => by
    rw [zuS, zuS_sw n, ← zuS_pl]
    rfl
theorem zuS_d {h : Nat → Nat} {c : Nat} : ∀ k : Nat, c < k → zuS k (fun i => (decide (i = c)).toNat * h i) = h c
  | 0, hc => absurd hc (by omega)
  | k + 1, hc => by
    rw [zuS]
    by_cases e : k = c
    · subst e
      rw [decide_eq_true rfl, (zuS_c k fun i hi => by rw [decide_eq_false (show ¬ i = k by omega)]; exact Nat.zero_mul _).trans (zuS_z k)]
      show 0 + 1 * h k = h k
      omega
    · rw [zuS_d k (by omega), decide_eq_false e]
      show h c + 0 * h k = h c
      omega
def zu2 (n : Nat) (f : Nat → Nat → Nat) : Nat := zuS n (fun i => zuS n (fun j => f i j))
def zu3 (n : Nat) (f : Nat → Nat → Nat → Nat) : Nat := zuS n (fun i => zuS n (fun j => zuS n (fun k => f i j k)))
section
variable {n : Nat} {κ : Nat → Nat}
theorem zu2_c {f g : Nat → Nat → Nat} (h : ∀ i, i < n → ∀ j, j < n → f i j = g i j) : zu2 n f = zu2 n g := zuS_c n fun i hi => zuS_c n fun j hj => h i hi j hj
theorem zu3_c {f g : Nat → Nat → Nat → Nat} (h : ∀ i, i < n → ∀ j, j < n → ∀ k, k < n → f i j k = g i j k) : zu3 n f = zu3 n g := zuS_c n fun i hi => zuS_c n fun j hj => zuS_c n fun k hk => h i hi j hj k hk
theorem zu2_s {f : Nat → Nat → Nat} : zu2 n (fun i j => f j i) = zu2 n f := (zuS_sw n).symm
theorem zu2_p {f g : Nat → Nat → Nat} : zu2 n (fun i j => f i j + g i j) = zu2 n f + zu2 n g := by
  unfold zu2
  rw [← zuS_pl]
  exact zuS_c n fun i _ => zuS_pl n
theorem zu3_p {f g : Nat → Nat → Nat → Nat} : zu3 n (fun i j k => f i j k + g i j k) = zu3 n f + zu3 n g := by
  unfold zu3
  rw [← zuS_pl]
  exact zuS_c n fun i _ => by rw [← zuS_pl]; exact zuS_c n fun j _ => zuS_pl n
theorem zu3_12 {f : Nat → Nat → Nat → Nat} : zu3 n (fun i j k => f j i k) = zu3 n f := (zuS_sw n).symm
theorem zu3_23 {f : Nat → Nat → Nat → Nat} : zu3 n (fun i j k => f i k j) = zu3 n f := zuS_c n fun i _ => (zuS_sw n).symm
theorem ord2 {w : Nat → Nat → Nat} (hs : ∀ i j, w i j = w j i) (hz : ∀ i j, κ i = κ j → w i j = 0) : 2 * zu2 n (fun i j => if κ i < κ j then w i j else 0) = zu2 n w := by
  have h1 : zu2 n w = zu2 n (fun i j => (if κ i < κ j then w i j else 0) + (if κ j < κ i then w j i else 0)) := zu2_c fun i _ j _ => by
    by_cases e : κ i < κ j
    · rw [if_pos e, if_neg (by omega)]; rfl
    · rw [if_neg e]
      by_cases e2 : κ j < κ i
      · rw [if_pos e2, hs i j]; omega
      · rw [if_neg e2, hz i j (by omega)]
  rw [h1, zu2_p, @zu2_s n (fun i j => if κ i < κ j then w i j else 0)]
  omega
theorem ord3 {w : Nat → Nat → Nat → Nat} (h12 : ∀ i j k, w i j k = w j i k) (h23 : ∀ i j k, w i j k = w i k j) (hz : ∀ i j k, κ i = κ j → w i j k = 0) : 6 * zu3 n (fun i j k => if κ i < κ j ∧ κ j < κ k then w i j k else 0) = zu3 n w := by
  generalize hO : (fun i j k => if κ i < κ j ∧ κ j < κ k then w i j k else 0) = O
  have hOe : ∀ i j k, O i j k = if κ i < κ j ∧ κ j < κ k then w i j k else 0 := fun i j k => by rw [← hO]
  have s1 : zu3 n (fun i j k => O j i k) = zu3 n O := zu3_12
  have s2 : zu3 n (fun i j k => O i k j) = zu3 n O := zu3_23
  have s3 : zu3 n (fun i j k => O k i j) = zu3 n O := (@zu3_23 n (fun i j k => O j i k)).trans s1
  have s4 : zu3 n (fun i j k => O j k i) = zu3 n O := (@zu3_12 n (fun i j k => O i k j)).trans s2
  have s5 : zu3 n (fun i j k => O k j i) = zu3 n O := (@zu3_12 n (fun i j k => O k i j)).trans s3
  have h1 : zu3 n w = zu3 n (fun i j k => O i j k + (O j i k + (O i k j + (O k i j + (O j k i + O k j i))))) := zu3_c fun i _ j _ k _ => by
    rw [hOe, hOe, hOe, hOe, hOe, hOe]
    have p1 : w j i k = w i j k := (h12 i j k).symm
    have p2 : w i k j = w i j k := (h23 i j k).symm
    have p3 : w k i j = w i j k := by rw [h12 k i j, p2]
    have p4 : w j k i = w i j k := by rw [← h23 j i k, p1]
    have p5 : w k j i = w i j k := by rw [h12 k j i, p4]
    rw [p1, p2, p3, p4, p5]
    by_cases e12 : κ i = κ j
    · rw [hz i j k e12, ite_self, ite_self, ite_self, ite_self, ite_self, ite_self]
    · by_cases e13 : κ i = κ k
      · rw [← p2, hz i k j e13, ite_self, ite_self, ite_self, ite_self, ite_self, ite_self]
      · by_cases e23 : κ j = κ k
        · rw [← p4, hz j k i e23, ite_self, ite_self, ite_self, ite_self, ite_self, ite_self]
        · by_cases a1 : κ i < κ j
          · by_cases a2 : κ j < κ k
            · rw [if_pos (by omega), if_neg (by omega), if_neg (by omega), if_neg (by omega), if_neg (by omega), if_neg (by omega)]; omega
            · by_cases a3 : κ i < κ k
              · rw [if_neg (by omega), if_neg (by omega), if_pos (by omega), if_neg (by omega), if_neg (by omega), if_neg (by omega)]; omega
              · rw [if_neg (by omega), if_neg (by omega), if_neg (by omega), if_pos (by omega), if_neg (by omega), if_neg (by omega)]; omega
          · by_cases a2 : κ i < κ k
            · rw [if_neg (by omega), if_pos (by omega), if_neg (by omega), if_neg (by omega), if_neg (by omega), if_neg (by omega)]; omega
            · by_cases a3 : κ j < κ k
              · rw [if_neg (by omega), if_neg (by omega), if_neg (by omega), if_neg (by omega), if_pos (by omega), if_neg (by omega)]; omega
              · rw [if_neg (by omega), if_neg (by omega), if_neg (by omega), if_neg (by omega), if_neg (by omega), if_pos (by omega)]; omega
  rw [h1, zu3_p, zu3_p, zu3_p, zu3_p, zu3_p, s1, s2, s3, s4, s5]
  omega
end
section
variable {I : Nat → Bool} {en : Nat → Nat}
/-- the first of its line, and the line is inside -/
def gdL (I : Nat → Bool) (en : Nat → Nat) (i : Nat) : Bool := I (en i) && ! sOr i (fun o => decide (en o = en i))
def onL (I : Nat → Bool) (en : Nat → Nat) (n l : Nat) : Bool := I l && sOr n (fun o => decide (en o = l))
theorem one_L {φ : Nat → Nat} : ∀ n, (∀ i, i < n → en i < 108) → zuS n (fun i => (gdL I en i).toNat * φ (en i)) = zuS 108 (fun l => (onL I en n l).toNat * φ l)
  | 0, _ => by
    refine ((zuS_c 108 fun l _ => ?_).trans (zuS_z 108)).symm
    unfold onL
    rw [sOr, Bool.and_false]
    exact Nat.zero_mul _
  | n + 1, he => by
    rw [zuS, one_L n fun i hi => he i (by omega)]
    have hn := he n (by omega)
    cases hg : gdL I en n
    · rw [Bool.toNat_false, Nat.zero_mul, Nat.add_zero]
      refine zuS_c 108 fun l _ => ?_
      have : onL I en (n + 1) l = onL I en n l := by
        unfold onL
        rw [sOr]
        by_cases e : en n = l
        · subst e
          unfold gdL at hg
          cases h1 : I (en n)
          · rfl
          · rw [h1, Bool.true_and, Bool.not_eq_false'] at hg
            rw [hg]; rfl
        · rw [decide_eq_false e, Bool.or_false]
      rw [this]
    · have hg' := hg
      unfold gdL at hg'
      rw [Bool.and_eq_true, Bool.not_eq_true'] at hg'
      rw [Bool.toNat_true, Nat.one_mul, ← zuS_d (h := φ) 108 hn, ← zuS_pl]
      refine zuS_c 108 fun l _ => ?_
      unfold onL
      rw [sOr]
      by_cases e : l = en n
      · subst e
        rw [hg'.1, hg'.2, decide_eq_true rfl]
        show 0 * _ + 1 * _ = 1 * _
        omega
      · rw [decide_eq_false e, decide_eq_false (fun k => e k.symm), Bool.or_false]
        show _ + 0 * _ = _
        omega
/-- what a line keeps to on axis b -/
def poN (l b : Nat) : Nat := if b = (if l / 36 = 0 then 1 else 0) then l / 6 % 6 else l % 6
def crN (l m : Nat) : Bool := decide (l / 36 ≠ m / 36) && decide (poN l (3 - l / 36 - m / 36) = poN m (3 - l / 36 - m / 36))
theorem crN_s {l m : Nat} : crN l m = crN m l := by
  unfold crN
  rw [show 3 - m / 36 - l / 36 = 3 - l / 36 - m / 36 by omega, show decide (m / 36 ≠ l / 36) = decide (l / 36 ≠ m / 36) from decide_eq_decide.mpr ⟨fun h => h.symm, fun h => h.symm⟩]
  congr 1
  exact decide_eq_decide.mpr ⟨fun h => h.symm, fun h => h.symm⟩
theorem crN_z {l m : Nat} (h : l / 36 = m / 36) : crN l m = false := by
  unfold crN
  rw [decide_eq_false (fun k => k h), Bool.false_and]
def w2 (I : Nat → Bool) (en : Nat → Nat) (i j : Nat) : Nat := (gdL I en i).toNat * ((gdL I en j).toNat * (crN (en i) (en j)).toNat)
def w3 (I : Nat → Bool) (en : Nat → Nat) (i j k : Nat) : Nat := (gdL I en i).toNat * ((gdL I en j).toNat * ((gdL I en k).toNat * ((crN (en i) (en j)).toNat * ((crN (en i) (en k)).toNat * (crN (en j) (en k)).toNat))))
theorem w2_s (i j : Nat) : w2 I en i j = w2 I en j i := by
  unfold w2
  rw [@crN_s (en j) (en i), Nat.mul_left_comm]
theorem w2_z {i j : Nat} (h : en i / 36 = en j / 36) : w2 I en i j = 0 := by
  unfold w2
  rw [crN_z h]; rfl
theorem w3_12 (i j k : Nat) : w3 I en i j k = w3 I en j i k := by
  unfold w3
  rw [@crN_s (en j) (en i), Nat.mul_left_comm (gdL I en i).toNat, Nat.mul_comm (crN (en j) (en k)).toNat]
theorem w3_23 (i j k : Nat) : w3 I en i j k = w3 I en i k j := by
  unfold w3
  rw [@crN_s (en k) (en j), Nat.mul_left_comm (gdL I en j).toNat, Nat.mul_left_comm (crN (en i) (en j)).toNat]
theorem w3_z {i j k : Nat} (h : en i / 36 = en j / 36) : w3 I en i j k = 0 := by
  unfold w3
  rw [crN_z h, Bool.toNat_false, Nat.zero_mul, Nat.mul_zero, Nat.mul_zero, Nat.mul_zero]
end
section
variable {I : Nat → Bool} {en : Nat → Nat} {n : Nat}
/-- on axis a, at place 6u + v -/
def gNl (I : Nat → Bool) (en : Nat → Nat) (n a u v : Nat) : Nat := (onL I en n (36 * a + (6 * u + v))).toNat
theorem zu108 {g : Nat → Nat} : zuS 108 g = zuS 6 (fun u => zuS 6 (fun v => g (36 * 0 + (6 * u + v)))) + zuS 6 (fun u => zuS 6 (fun v => g (36 * 1 + (6 * u + v)))) + zuS 6 (fun u => zuS 6 (fun v => g (36 * 2 + (6 * u + v)))) := by
  have h36 : ∀ h : Nat → Nat, zuS 36 h = zuS 6 (fun u => zuS 6 (fun v => h (6 * u + v))) := fun h => @zuS_mul h 6 6
  rw [show (108 : Nat) = 36 * 3 from rfl, zuS_mul, zuS, zuS, zuS, zuS, h36, h36, h36]
  omega
theorem one_T {φ : Nat → Nat} (he : ∀ i, i < n → en i < 108) : zuS n (fun i => (gdL I en i).toNat * φ (en i)) = zuS 6 (fun u => zuS 6 (fun v => gNl I en n 0 u v * φ (36 * 0 + (6 * u + v)))) + zuS 6 (fun u => zuS 6 (fun v => gNl I en n 1 u v * φ (36 * 1 + (6 * u + v)))) + zuS 6 (fun u => zuS 6 (fun v => gNl I en n 2 u v * φ (36 * 2 + (6 * u + v)))) := by
  rw [one_L n he, zu108]
  rfl
/-- the pairs -/
def p01 (I : Nat → Bool) (en : Nat → Nat) (n : Nat) : Nat := zuS 6 (fun y => zuS 6 (fun z => gNl I en n 0 y z * zuS 6 (fun x => gNl I en n 1 x z)))
def p02 (I : Nat → Bool) (en : Nat → Nat) (n : Nat) : Nat := zuS 6 (fun y => zuS 6 (fun z => gNl I en n 0 y z * zuS 6 (fun x => gNl I en n 2 x y)))
def p12 (I : Nat → Bool) (en : Nat → Nat) (n : Nat) : Nat := zuS 6 (fun x => zuS 6 (fun z => gNl I en n 1 x z * zuS 6 (fun y => gNl I en n 2 x y)))
def t012 (I : Nat → Bool) (en : Nat → Nat) (n : Nat) : Nat := zuS 6 (fun y => zuS 6 (fun z => gNl I en n 0 y z * zuS 6 (fun x => gNl I en n 1 x z * gNl I en n 2 x y)))
def cX (l m : Nat) : Nat := if l / 36 < m / 36 then (crN l m).toNat else 0
theorem cX_same {a u v s t : Nat} (hu : u < 6) (hv : v < 6) (hs : s < 6) (ht : t < 6) {b : Nat} (h : b ≤ a) : cX (36 * a + (6 * u + v)) (36 * b + (6 * s + t)) = 0 := by
  unfold cX
  rw [if_neg (by omega)]
theorem cX_01 {u v s t : Nat} (hu : u < 6) (hv : v < 6) (hs : s < 6) (ht : t < 6) : cX (36 * 0 + (6 * u + v)) (36 * 1 + (6 * s + t)) = (decide (t = v)).toNat := by
  unfold cX crN poN
  rw [show (36 * 0 + (6 * u + v)) / 36 = 0 by omega, show (36 * 1 + (6 * s + t)) / 36 = 1 by omega, show (36 * 0 + (6 * u + v)) / 6 % 6 = u by omega, show (36 * 0 + (6 * u + v)) % 6 = v by omega, show (36 * 1 + (6 * s + t)) / 6 % 6 = s by omega, show (36 * 1 + (6 * s + t)) % 6 = t by omega]
  simp [eq_comm]
theorem cX_02 {u v s t : Nat} (hu : u < 6) (hv : v < 6) (hs : s < 6) (ht : t < 6) : cX (36 * 0 + (6 * u + v)) (36 * 2 + (6 * s + t)) = (decide (t = u)).toNat := by
  unfold cX crN poN
  rw [show (36 * 0 + (6 * u + v)) / 36 = 0 by omega, show (36 * 2 + (6 * s + t)) / 36 = 2 by omega, show (36 * 0 + (6 * u + v)) / 6 % 6 = u by omega, show (36 * 0 + (6 * u + v)) % 6 = v by omega, show (36 * 2 + (6 * s + t)) / 6 % 6 = s by omega, show (36 * 2 + (6 * s + t)) % 6 = t by omega]
  simp [eq_comm]
theorem cX_12 {u v s t : Nat} (hu : u < 6) (hv : v < 6) (hs : s < 6) (ht : t < 6) : cX (36 * 1 + (6 * u + v)) (36 * 2 + (6 * s + t)) = (decide (s = u)).toNat := by
  unfold cX crN poN
  rw [show (36 * 1 + (6 * u + v)) / 36 = 1 by omega, show (36 * 2 + (6 * s + t)) / 36 = 2 by omega, show (36 * 1 + (6 * u + v)) / 6 % 6 = u by omega, show (36 * 1 + (6 * u + v)) % 6 = v by omega, show (36 * 2 + (6 * s + t)) / 6 % 6 = s by omega, show (36 * 2 + (6 * s + t)) % 6 = t by omega]
  simp [eq_comm]
theorem zz6 : zuS 6 (fun _ => zuS 6 (fun _ => 0)) = 0 := rfl
theorem zu_z6 {f : Nat → Nat → Nat} (h : ∀ u, u < 6 → ∀ v, v < 6 → f u v = 0) : zuS 6 (fun u => zuS 6 (fun v => f u v)) = 0 := (zuS_c 6 fun u hu => zuS_c 6 fun v hv => h u hu v hv).trans zz6
/-- one variable bound -/
theorem zu_b1 {h : Nat → Nat → Nat} {c : Nat} (hc : c < 6) : zuS 6 (fun s => zuS 6 (fun t => h s t * (decide (t = c)).toNat)) = zuS 6 (fun s => h s c) := zuS_c 6 fun s _ => by
  rw [← zuS_d (h := fun t => h s t) 6 hc]
  exact zuS_c 6 fun t _ => Nat.mul_comm _ _
theorem zu_b0 {h : Nat → Nat → Nat} {c : Nat} (hc : c < 6) : zuS 6 (fun s => zuS 6 (fun t => h s t * (decide (s = c)).toNat)) = zuS 6 (fun t => h c t) := by
  rw [zuS_sw]
  exact zuS_c 6 fun t _ => by
    rw [← zuS_d (h := fun s => h s t) 6 hc]
    exact zuS_c 6 fun s _ => Nat.mul_comm _ _
theorem P_eq (he : ∀ i, i < n → en i < 108) : zu2 n (fun i j => if i < j then w2 I en i j else 0) = p01 I en n + p02 I en n + p12 I en n := by
  have h1 := @ord2 n (fun i => i) (w2 I en) w2_s (fun i j h => by have h : i = j := h; subst h; exact w2_z rfl)
  have h2 := @ord2 n (fun i => en i / 36) (w2 I en) w2_s (fun i j h => w2_z h)
  have h3 : zu2 n (fun i j => if en i / 36 < en j / 36 then w2 I en i j else 0) = zuS n (fun i => (gdL I en i).toNat * zuS n (fun j => (gdL I en j).toNat * cX (en i) (en j))) := zuS_c n fun i _ => by
    rw [zuS_ml]
    refine zuS_c n fun j _ => ?_
    dsimp only
    unfold w2 cX
    split
    · rfl
    · rw [Nat.mul_zero, Nat.mul_zero]
  have h4 : ∀ l, zuS n (fun j => (gdL I en j).toNat * cX l (en j)) = zuS 6 (fun u => zuS 6 (fun v => gNl I en n 0 u v * cX l (36 * 0 + (6 * u + v)))) + zuS 6 (fun u => zuS 6 (fun v => gNl I en n 1 u v * cX l (36 * 1 + (6 * u + v)))) + zuS 6 (fun u => zuS 6 (fun v => gNl I en n 2 u v * cX l (36 * 2 + (6 * u + v)))) := fun l => one_T (φ := fun m => cX l m) he
  have h5 : zuS n (fun i => (gdL I en i).toNat * zuS n (fun j => (gdL I en j).toNat * cX (en i) (en j))) = p01 I en n + p02 I en n + p12 I en n := by
    rw [one_T (φ := fun l => zuS n (fun j => (gdL I en j).toNat * cX l (en j))) he]
    have e0 : zuS 6 (fun u => zuS 6 (fun v => gNl I en n 0 u v * zuS n (fun j => (gdL I en j).toNat * cX (36 * 0 + (6 * u + v)) (en j)))) = p01 I en n + p02 I en n := by
      unfold p01 p02
      rw [← zuS_pl]
      refine zuS_c 6 fun u hu => ?_
      rw [← zuS_pl]
      refine zuS_c 6 fun v hv => ?_
      rw [← Nat.mul_add, h4]
      congr 1
      rw [zu_z6 fun s hs t ht => by rw [cX_same hu hv hs ht (Nat.le_refl _)]; exact Nat.mul_zero _, Nat.zero_add]
      congr 1
      · rw [← zu_b1 (h := fun s t => gNl I en n 1 s t) hv]
        exact zuS_c 6 fun s hs => zuS_c 6 fun t ht => by rw [cX_01 hu hv hs ht]
      · rw [← zu_b1 (h := fun s t => gNl I en n 2 s t) hu]
        exact zuS_c 6 fun s hs => zuS_c 6 fun t ht => by rw [cX_02 hu hv hs ht]
    have e1 : zuS 6 (fun u => zuS 6 (fun v => gNl I en n 1 u v * zuS n (fun j => (gdL I en j).toNat * cX (36 * 1 + (6 * u + v)) (en j)))) = p12 I en n := by
      unfold p12
      refine zuS_c 6 fun u hu => ?_
      refine zuS_c 6 fun v hv => ?_
      rw [h4]
      congr 1
      rw [zu_z6 fun s hs t ht => by rw [cX_same hu hv hs ht (by omega)]; exact Nat.mul_zero _, zu_z6 fun s hs t ht => by rw [cX_same hu hv hs ht (Nat.le_refl _)]; exact Nat.mul_zero _, Nat.zero_add]
      rw [← zu_b0 (h := fun s t => gNl I en n 2 s t) hu]
      exact zuS_c 6 fun s hs => zuS_c 6 fun t ht => by rw [cX_12 hu hv hs ht]
    have e2 : zuS 6 (fun u => zuS 6 (fun v => gNl I en n 2 u v * zuS n (fun j => (gdL I en j).toNat * cX (36 * 2 + (6 * u + v)) (en j)))) = 0 := zu_z6 fun u hu v hv => by
      rw [h4, zu_z6 fun s hs t ht => by rw [cX_same hu hv hs ht (by omega)]; exact Nat.mul_zero _, zu_z6 fun s hs t ht => by rw [cX_same hu hv hs ht (by omega)]; exact Nat.mul_zero _, zu_z6 fun s hs t ht => by rw [cX_same hu hv hs ht (Nat.le_refl _)]; exact Nat.mul_zero _]
      rfl
    rw [e0, e1, e2]
    rfl
  rw [← h5, ← h3]
  have h1 : 2 * zu2 n (fun i j => if i < j then w2 I en i j else 0) = zu2 n (w2 I en) := h1
  have h2 : 2 * zu2 n (fun i j => if en i / 36 < en j / 36 then w2 I en i j else 0) = zu2 n (w2 I en) := h2
  omega
theorem T_eq (he : ∀ i, i < n → en i < 108) : zu3 n (fun i j k => if i < j ∧ j < k then w3 I en i j k else 0) = t012 I en n := by
  have h1 : 6 * zu3 n (fun i j k => if i < j ∧ j < k then w3 I en i j k else 0) = zu3 n (w3 I en) := @ord3 n (fun i => i) (w3 I en) w3_12 w3_23 (fun i j k h => by have h : i = j := h; subst h; exact w3_z rfl)
  have h2 : 6 * zu3 n (fun i j k => if en i / 36 < en j / 36 ∧ en j / 36 < en k / 36 then w3 I en i j k else 0) = zu3 n (w3 I en) := @ord3 n (fun i => en i / 36) (w3 I en) w3_12 w3_23 (fun i j k h => w3_z h)
  have h3 : zu3 n (fun i j k => if en i / 36 < en j / 36 ∧ en j / 36 < en k / 36 then w3 I en i j k else 0) = zuS n (fun i => (gdL I en i).toNat * zuS n (fun j => (gdL I en j).toNat * (cX (en i) (en j) * zuS n (fun k => (gdL I en k).toNat * (cX (en j) (en k) * (crN (en i) (en k)).toNat))))) := zuS_c n fun i _ => by
    rw [zuS_ml]
    refine zuS_c n fun j _ => ?_
    rw [zuS_ml, zuS_ml, zuS_ml]
    refine zuS_c n fun k _ => ?_
    dsimp only
    unfold w3 cX
    by_cases a : en i / 36 < en j / 36
    · by_cases b : en j / 36 < en k / 36
      · rw [if_pos ⟨a, b⟩, if_pos a, if_pos b]
        congr 2
        rw [Nat.mul_left_comm (gdL I en k).toNat, Nat.mul_comm (crN (en i) (en k)).toNat]
      · rw [if_neg fun h => b h.2, if_neg b, Nat.zero_mul, Nat.mul_zero, Nat.mul_zero, Nat.mul_zero, Nat.mul_zero]
    · rw [if_neg fun h => a h.1, if_neg a, Nat.zero_mul, Nat.mul_zero, Nat.mul_zero]
  have h4 : ∀ l m, zuS n (fun k => (gdL I en k).toNat * (cX m (en k) * (crN l (en k)).toNat)) = zuS 6 (fun u => zuS 6 (fun v => gNl I en n 0 u v * (cX m (36 * 0 + (6 * u + v)) * (crN l (36 * 0 + (6 * u + v))).toNat))) + zuS 6 (fun u => zuS 6 (fun v => gNl I en n 1 u v * (cX m (36 * 1 + (6 * u + v)) * (crN l (36 * 1 + (6 * u + v))).toNat))) + zuS 6 (fun u => zuS 6 (fun v => gNl I en n 2 u v * (cX m (36 * 2 + (6 * u + v)) * (crN l (36 * 2 + (6 * u + v))).toNat))) := fun l m => one_T (φ := fun o => cX m o * (crN l o).toNat) he
  have h5 : ∀ l, zuS n (fun j => (gdL I en j).toNat * (cX l (en j) * zuS n (fun k => (gdL I en k).toNat * (cX (en j) (en k) * (crN l (en k)).toNat)))) = zuS 6 (fun u => zuS 6 (fun v => gNl I en n 0 u v * (cX l (36 * 0 + (6 * u + v)) * zuS n (fun k => (gdL I en k).toNat * (cX (36 * 0 + (6 * u + v)) (en k) * (crN l (en k)).toNat))))) + zuS 6 (fun u => zuS 6 (fun v => gNl I en n 1 u v * (cX l (36 * 1 + (6 * u + v)) * zuS n (fun k => (gdL I en k).toNat * (cX (36 * 1 + (6 * u + v)) (en k) * (crN l (en k)).toNat))))) + zuS 6 (fun u => zuS 6 (fun v => gNl I en n 2 u v * (cX l (36 * 2 + (6 * u + v)) * zuS n (fun k => (gdL I en k).toNat * (cX (36 * 2 + (6 * u + v)) (en k) * (crN l (en k)).toNat))))) := fun l => one_T (φ := fun m => cX l m * zuS n (fun k => (gdL I en k).toNat * (cX m (en k) * (crN l (en k)).toNat))) he
  have hcr : ∀ {u v s t : Nat}, u < 6 → v < 6 → s < 6 → t < 6 → (crN (36 * 0 + (6 * u + v)) (36 * 2 + (6 * s + t))).toNat = (decide (t = u)).toNat := fun hu hv hs ht => by
    rw [← cX_02 hu hv hs ht]
    unfold cX
    rw [if_pos (by omega)]
  have k2 : ∀ l {u v : Nat}, u < 6 → v < 6 → zuS n (fun k => (gdL I en k).toNat * (cX (36 * 2 + (6 * u + v)) (en k) * (crN l (en k)).toNat)) = 0 := fun l u v hu hv => by
    rw [h4, zu_z6 fun s hs t ht => by rw [cX_same hu hv hs ht (by omega), Nat.zero_mul]; exact Nat.mul_zero _, zu_z6 fun s hs t ht => by rw [cX_same hu hv hs ht (by omega), Nat.zero_mul]; exact Nat.mul_zero _, zu_z6 fun s hs t ht => by rw [cX_same hu hv hs ht (Nat.le_refl _), Nat.zero_mul]; exact Nat.mul_zero _]
  have k1 : ∀ l {u v : Nat}, u < 6 → v < 6 → zuS n (fun k => (gdL I en k).toNat * (cX (36 * 1 + (6 * u + v)) (en k) * (crN l (en k)).toNat)) = zuS 6 (fun s => zuS 6 (fun t => gNl I en n 2 s t * ((decide (s = u)).toNat * (crN l (36 * 2 + (6 * s + t))).toNat))) := fun l u v hu hv => by
    rw [h4, zu_z6 fun s hs t ht => by rw [cX_same hu hv hs ht (by omega), Nat.zero_mul]; exact Nat.mul_zero _, zu_z6 fun s hs t ht => by rw [cX_same hu hv hs ht (Nat.le_refl _), Nat.zero_mul]; exact Nat.mul_zero _, Nat.zero_add]
    exact zuS_c 6 fun s hs => zuS_c 6 fun t ht => by rw [cX_12 hu hv hs ht]
  have h6 : zuS n (fun i => (gdL I en i).toNat * zuS n (fun j => (gdL I en j).toNat * (cX (en i) (en j) * zuS n (fun k => (gdL I en k).toNat * (cX (en j) (en k) * (crN (en i) (en k)).toNat))))) = t012 I en n := by
    rw [one_T (φ := fun l => zuS n (fun j => (gdL I en j).toNat * (cX l (en j) * zuS n (fun k => (gdL I en k).toNat * (cX (en j) (en k) * (crN l (en k)).toNat))))) he]
    have e0 : zuS 6 (fun u => zuS 6 (fun v => gNl I en n 0 u v * zuS n (fun j => (gdL I en j).toNat * (cX (36 * 0 + (6 * u + v)) (en j) * zuS n (fun k => (gdL I en k).toNat * (cX (en j) (en k) * (crN (36 * 0 + (6 * u + v)) (en k)).toNat)))))) = t012 I en n := by
      unfold t012
      refine zuS_c 6 fun u hu => ?_
      refine zuS_c 6 fun v hv => ?_
      rw [h5]
      congr 1
      rw [zu_z6 fun s hs t ht => by rw [cX_same hu hv hs ht (Nat.le_refl _), Nat.zero_mul]; exact Nat.mul_zero _, zu_z6 (f := fun s t => gNl I en n 2 s t * _) fun s hs t ht => by rw [k2 _ hs ht, Nat.mul_zero]; exact Nat.mul_zero _, Nat.zero_add, Nat.add_zero]
      refine (zuS_c 6 fun s hs => zuS_c 6 fun t ht => ?_).trans (zu_b1 (h := fun s t => gNl I en n 1 s t * gNl I en n 2 s u) hv)
      rw [cX_01 hu hv hs ht, k1 _ hs ht]
      have : zuS 6 (fun s' => zuS 6 (fun t' => gNl I en n 2 s' t' * ((decide (s' = s)).toNat * (crN (36 * 0 + (6 * u + v)) (36 * 2 + (6 * s' + t'))).toNat))) = gNl I en n 2 s u := by
        refine (zuS_c 6 fun s' hs' => zuS_c 6 fun t' ht' => ?_).trans ((zu_b0 (h := fun s' t' => (decide (t' = u)).toNat * gNl I en n 2 s' t') hs).trans (zuS_d (h := fun t' => gNl I en n 2 s t') 6 hu))
        rw [hcr hu hv hs' ht', Nat.mul_left_comm, Nat.mul_comm, Nat.mul_comm (gNl I en n 2 s' t')]
      rw [this, Nat.mul_comm (decide (t = v)).toNat, Nat.mul_assoc]
    have e1 : zuS 6 (fun u => zuS 6 (fun v => gNl I en n 1 u v * zuS n (fun j => (gdL I en j).toNat * (cX (36 * 1 + (6 * u + v)) (en j) * zuS n (fun k => (gdL I en k).toNat * (cX (en j) (en k) * (crN (36 * 1 + (6 * u + v)) (en k)).toNat)))))) = 0 := zu_z6 fun u hu v hv => by
      rw [h5, zu_z6 fun s hs t ht => by rw [cX_same hu hv hs ht (by omega), Nat.zero_mul]; exact Nat.mul_zero _, zu_z6 fun s hs t ht => by rw [cX_same hu hv hs ht (Nat.le_refl _), Nat.zero_mul]; exact Nat.mul_zero _, zu_z6 fun s hs t ht => by rw [k2 _ hs ht, Nat.mul_zero]; exact Nat.mul_zero _]
      rfl
    have e2 : zuS 6 (fun u => zuS 6 (fun v => gNl I en n 2 u v * zuS n (fun j => (gdL I en j).toNat * (cX (36 * 2 + (6 * u + v)) (en j) * zuS n (fun k => (gdL I en k).toNat * (cX (en j) (en k) * (crN (36 * 2 + (6 * u + v)) (en k)).toNat)))))) = 0 := zu_z6 fun u hu v hv => by
      rw [h5, zu_z6 fun s hs t ht => by rw [cX_same hu hv hs ht (by omega), Nat.zero_mul]; exact Nat.mul_zero _, zu_z6 fun s hs t ht => by rw [cX_same hu hv hs ht (by omega), Nat.zero_mul]; exact Nat.mul_zero _, zu_z6 fun s hs t ht => by rw [cX_same hu hv hs ht (Nat.le_refl _), Nat.zero_mul]; exact Nat.mul_zero _]
      rfl
    rw [e0, e1, e2]
    rfl
  rw [← h6, ← h3]
  omega
end
