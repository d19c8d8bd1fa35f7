/-! Pairs: fewest. -/
def szT (x y z : Nat) : Nat → Int := fun k => if k = 96 then (x : Int) else if k = 97 then (y : Int) else (z : Int)
theorem szU_c {f f' : Nat → Int} (h0 : f' 96 = f 96) (h1 : f' 97 = f 97) {a : Nat} : szU f' a = szU f a := by
  unfold szU
  by_cases e : a = 0
  · rw [if_pos e, h1]
  · rw [if_neg e, h0]
theorem szV_c {f f' : Nat → Int} (h1 : f' 97 = f 97) (h2 : f' 98 = f 98) {a : Nat} : szV f' a = szV f a := by
  unfold szV
  by_cases e : a = 2
  · rw [if_pos e, h1]
  · rw [if_neg e, h2]
theorem lsA_c {f f' : Nat → Int} (h0 : f' 96 = f 96) (h1 : f' 97 = f 97) (h2 : f' 98 = f 98) : ∀ k, lsA f' k = lsA f k
  | 0 => rfl
  | k + 1 => by rw [lsA, lsA, lsA_c h0 h1 h2 k, szU_c h0 h1, szV_c h1 h2]
theorem ln_1 : ∀ y, y < 7 → ∀ z, z < 7 → lnL ((1 : Nat) : Int) ((y : Nat) : Int) ((z : Nat) : Int) 108 = (lsA (szT 1 y z) 3).map lsC := by decide +kernel
theorem ln_2 : ∀ y, y < 7 → ∀ z, z < 7 → lnL ((2 : Nat) : Int) ((y : Nat) : Int) ((z : Nat) : Int) 108 = (lsA (szT 2 y z) 3).map lsC := by decide +kernel
theorem ln_3 : ∀ y, y < 7 → ∀ z, z < 7 → lnL ((3 : Nat) : Int) ((y : Nat) : Int) ((z : Nat) : Int) 108 = (lsA (szT 3 y z) 3).map lsC := by decide +kernel
theorem ln_4 : ∀ y, y < 7 → ∀ z, z < 7 → lnL ((4 : Nat) : Int) ((y : Nat) : Int) ((z : Nat) : Int) 108 = (lsA (szT 4 y z) 3).map lsC := by decide +kernel
theorem ln_5 : ∀ y, y < 7 → ∀ z, z < 7 → lnL ((5 : Nat) : Int) ((y : Nat) : Int) ((z : Nat) : Int) 108 = (lsA (szT 5 y z) 3).map lsC := by decide +kernel
theorem ln_6 : ∀ y, y < 7 → ∀ z, z < 7 → lnL ((6 : Nat) : Int) ((y : Nat) : Int) ((z : Nat) : Int) 108 = (lsA (szT 6 y z) 3).map lsC := by decide +kernel
/-- the lines of class and reference -/
theorem ln_eq {f : Nat → Int} (hB : bxF f) : lnL (f 96) (f 97) (f 98) 108 = (lsA f 3).map lsC := by
  obtain ⟨⟨x0, x1⟩, ⟨y0, y1⟩, z0, z1⟩ := hB
  obtain ⟨x, hx⟩ : ∃ x : Nat, f 96 = (x : Int) := ⟨(f 96).toNat, by omega⟩
  obtain ⟨y, hy⟩ : ∃ y : Nat, f 97 = (y : Int) := ⟨(f 97).toNat, by omega⟩
  obtain ⟨z, hz⟩ : ∃ z : Nat, f 98 = (z : Int) := ⟨(f 98).toNat, by omega⟩
  rw [← lsA_c (f' := szT x y z) hx.symm hy.symm hz.symm 3, hx, hy, hz]
  obtain rfl | rfl | rfl | rfl | rfl | rfl : x = 1 ∨ x = 2 ∨ x = 3 ∨ x = 4 ∨ x = 5 ∨ x = 6 := by omega
  · exact ln_1 y (by omega) z (by omega)
  · exact ln_2 y (by omega) z (by omega)
  · exact ln_3 y (by omega) z (by omega)
  · exact ln_4 y (by omega) z (by omega)
  · exact ln_5 y (by omega) z (by omega)
  · exact ln_6 y (by omega) z (by omega)
def foH (h : Int) (φ : Int → Int) (X : List (Int × Int)) (s : Int × Int × Int × Int) : Int × Int × Int × Int := X.foldl (fun s x => nt s h (φ x.1) (φ x.2)) s
theorem foH_n {h : Int} {φ : Int → Int} : ∀ (X : List (Int × Int)) (p k l o : Int), 0 < k → foH h φ X (p, k, l, o) = (p, k + (X.length : Int), l, o)
  | [], p, k, l, o, _ => by show (p, k, l, o) = (p, k + 0, l, o); rw [Int.add_zero]
  | x :: X, p, k, l, o, hk => by
    show foH h φ X (nt (p, k, l, o) h (φ x.1) (φ x.2)) = _
    unfold nt
    rw [if_neg (show ¬ k = 0 by omega)]
    show foH h φ X (p, k + 1, l, o) = _
    rw [foH_n X p (k + 1) l o (by omega), List.length_cons]
    rw [show k + 1 + (X.length : Int) = k + ((X.length + 1 : Nat) : Int) by omega]
theorem foH_0 {h : Int} {φ : Int → Int} {x : Int × Int} {X : List (Int × Int)} {p l o : Int} : foH h φ (x :: X) (p, 0, l, o) = (h, ((x :: X).length : Int), φ x.1, φ x.2) := by
  show foH h φ X (nt (p, 0, l, o) h (φ x.1) (φ x.2)) = _
  unfold nt
  rw [if_pos rfl, foH_n X h 1 _ _ (by decide), List.length_cons, show (1 : Int) + (X.length : Int) = ((X.length + 1 : Nat) : Int) by omega]
section
variable {P : Nat → Bool} {g n m : Nat} {L : List Nat} {E : Int → Int → Bool} {φ : Int → Int}
theorem fd1_w (hL : L.length = m) (hE : ∀ a : Nat, a < m → E (a : Int) (-1) = sCm (sTk P (L.getD a 0)) g n) (hφ : ∀ a : Nat, a < m → φ (a : Int) = ((L.getD a 0 : Nat) : Int)) (hφ1 : φ (-1) = -1) : ∀ k, k ≤ m → ∀ s, fd1 P g n (L.drop (m - k)) s = foH 1 φ (wfG E 1 m k) s := by
  intro k
  induction k with
  | zero =>
    intro _ s
    rw [Nat.sub_zero, List.drop_of_length_le (by omega)]
    rfl
  | succ k ih =>
    intro hk s
    have ha : m - 1 - k < m := by omega
    rw [show m - (k + 1) = m - 1 - k by omega, dropc (by omega), show m - 1 - k + 1 = m - k by omega]
    show fd1 P g n (L.drop (m - k)) (if sCm (sTk P (L.getD (m - 1 - k) 0)) g n = true then nt s 1 ((L.getD (m - 1 - k) 0 : Nat) : Int) (-1) else s) = _
    rw [ih (by omega), wfG, ← hE _ ha]
    unfold foH
    rw [List.foldl_append]
    congr 1
    unfold wW
    rw [if_pos rfl]
    by_cases he : E ((m - 1 - k : Nat) : Int) (-1) = true
    · rw [if_pos he, if_pos he]
      show nt s 1 _ (-1) = nt s 1 (φ ((m - 1 - k : Nat) : Int)) (φ (-1))
      rw [hφ _ ha, hφ1]
    · rw [if_neg he, if_neg he]
      rfl
theorem fdj_w (hL : L.length = m) {a : Nat} (ha : a < m) (hE : ∀ b : Nat, b < m → E (a : Int) (b : Int) = sCm (sTk (sTk P (L.getD a 0)) (L.getD b 0)) g n) (hφ : ∀ a : Nat, a < m → φ (a : Int) = ((L.getD a 0 : Nat) : Int)) : ∀ k, k ≤ m → ∀ s, fdj P g n (L.getD a 0) (L.drop (m - k)) s = foH 2 φ (wR E a m k) s := by
  intro k
  induction k with
  | zero =>
    intro _ s
    rw [Nat.sub_zero, List.drop_of_length_le (by omega)]
    rfl
  | succ k ih =>
    intro hk s
    have hb : m - 1 - k < m := by omega
    rw [show m - (k + 1) = m - 1 - k by omega, dropc (by omega), show m - 1 - k + 1 = m - k by omega]
    show fdj P g n (L.getD a 0) (L.drop (m - k)) (if sCm (sTk (sTk P (L.getD a 0)) (L.getD (m - 1 - k) 0)) g n = true then nt s 2 ((L.getD a 0 : Nat) : Int) ((L.getD (m - 1 - k) 0 : Nat) : Int) else s) = _
    rw [ih (by omega), wR, ← hE _ hb]
    unfold foH
    rw [List.foldl_append]
    congr 1
    by_cases he : E (a : Int) ((m - 1 - k : Nat) : Int) = true
    · rw [if_pos he, if_pos he]
      show nt s 2 _ _ = nt s 2 (φ (a : Int)) (φ ((m - 1 - k : Nat) : Int))
      rw [hφ _ ha, hφ _ hb]
    · rw [if_neg he, if_neg he]
      rfl
theorem fd2_w (hL : L.length = m) (hE : ∀ a b : Nat, a < m → b < m → E (a : Int) (b : Int) = sCm (sTk (sTk P (L.getD a 0)) (L.getD b 0)) g n) (hφ : ∀ a : Nat, a < m → φ (a : Int) = ((L.getD a 0 : Nat) : Int)) : ∀ k, k ≤ m → ∀ s, fd2 P g n (L.drop (m - k)) s = foH 2 φ (wfG E 2 m k) s := by
  intro k
  induction k with
  | zero =>
    intro _ s
    rw [Nat.sub_zero, List.drop_of_length_le (by omega)]
    rfl
  | succ k ih =>
    intro hk s
    have ha : m - 1 - k < m := by omega
    rw [show m - (k + 1) = m - 1 - k by omega, dropc (by omega), show m - 1 - k + 1 = m - k by omega]
    rw [fd2, ih (by omega), wfG]
    unfold wW
    rw [if_neg (by decide), show m - 1 - (m - 1 - k) = k by omega]
    rw [fdj_w hL ha (fun b hb => hE _ b ha hb) hφ k (by omega)]
    unfold foH
    rw [List.foldl_append]
end
