/-! Contracts of the JDK's methods. -/
section
variable {d : Nat} {K : Option vi_V → vi_W → Prop} {w : vi_W}
theorem vi_ushr32n {x n : Nat} (hx : x < 2147483648) (hn : n < 32) : vi_ushr32 (x : Int) (n : Int) = ((x / 2 ^ n : Nat) : Int) := by
  unfold vi_ushr32
  rw [show ((n : Int) % 32).toNat = n by omega, show (x : Int) % 4294967296 = (x : Int) by omega]
  have h3 : x / 2 ^ n ≤ x := Nat.div_le_self _ _
  rw [show (x : Int) / 2 ^ n = ((x / 2 ^ n : Nat) : Int) by norm_cast]
  generalize x / 2 ^ n = t at *
  exact vi_32 (by omega) (by omega)
theorem vi_and32w {x k : Nat} (hk : k < 31) : vi_and32 (vi_w32 (x : Int)) ((2 ^ k - 1 : Nat) : Int) = ((x % 2 ^ k : Nat) : Int) := by
  unfold vi_and32
  have hp : 2 ^ k ≤ 2 ^ 30 := Nat.pow_le_pow_right (by omega) (by omega)
  have hp0 : 0 < 2 ^ k := Nat.pow_pos (by omega)
  rw [show BitVec.ofInt 32 (vi_w32 (x : Int)) = BitVec.ofNat 32 x by
    apply BitVec.eq_of_toNat_eq
    rw [BitVec.toNat_ofInt, BitVec.toNat_ofNat]
    unfold vi_w32
    omega]
  rw [BitVec.ofInt_natCast]
  rw [show BitVec.ofNat 32 x &&& BitVec.ofNat 32 (2 ^ k - 1) = BitVec.ofNat 32 (x &&& (2 ^ k - 1)) by
    apply BitVec.eq_of_toNat_eq
    rw [BitVec.toNat_and, BitVec.toNat_ofNat, BitVec.toNat_ofNat, BitVec.toNat_ofNat]
    exact Nat.and_mod_two_pow.symm]
  rw [Nat.and_two_pow_sub_one_eq_mod]
  have := Nat.mod_lt x hp0
  exact vi_n32 (by omega)
theorem pm_55 : (6148914691236517205 : Int) = ((pm 0x55 8 : Nat) : Int) := by
  rw [show pm 0x55 8 = 6148914691236517205 by decide +kernel]; rfl
theorem pm_33 : (3689348814741910323 : Int) = ((pm 0x33 8 : Nat) : Int) := by
  rw [show pm 0x33 8 = 3689348814741910323 by decide +kernel]; rfl
theorem pm_0f : (1085102592571150095 : Int) = ((pm 0x0f 8 : Nat) : Int) := by
  rw [show pm 0x0f 8 = 1085102592571150095 by decide +kernel]; rfl
theorem pm_554 : (1431655765 : Int) = ((pm 0x55 4 : Nat) : Int) := by
  rw [show pm 0x55 4 = 1431655765 by decide +kernel]; rfl
theorem pm_334 : (858993459 : Int) = ((pm 0x33 4 : Nat) : Int) := by
  rw [show pm 0x33 4 = 858993459 by decide +kernel]; rfl
theorem pm_0f4 : (252645135 : Int) = ((pm 0x0f 4 : Nat) : Int) := by
  rw [show pm 0x0f 4 = 252645135 by decide +kernel]; rfl
theorem pA_e (k x : Nat) : x - ((x / 2) &&& pm 0x55 k) = pA k x := rfl
theorem pB_e (k x : Nat) : (pA k x &&& pm 0x33 k) + ((pA k x / 4) &&& pm 0x33 k) = pB k x := rfl
theorem pC_e (k x : Nat) : (pB k x + pB k x / 16) &&& pm 0x0f k = pC k x := rfl
theorem pA_le (k x : Nat) : pA k x ≤ x := Nat.sub_le _ _
theorem pB_le (k x : Nat) : pB k x ≤ x + x := by
  unfold pB
  have h1 := pA_le k x
  have h2 : pA k x &&& pm 0x33 k ≤ pA k x := Nat.and_le_left
  have h3 : (pA k x / 4) &&& pm 0x33 k ≤ pA k x / 4 := Nat.and_le_left
  omega
theorem pC_le (k x : Nat) : pC k x ≤ x + x + x + x := by
  unfold pC
  have h1 := pB_le k x
  have h3 : (pB k x + pB k x / 16) &&& pm 0x0f k ≤ pB k x + pB k x / 16 := Nat.and_le_left
  omega
theorem u_1 {x : Nat} (hx : x < 1099511627776) : vi_w64 ((x : Int) - vi_and64 (vi_ushr64 (x : Int) (1 : Int)) (6148914691236517205 : Int)) = ((pA 8 x : Nat) : Int) := by
  rw [show (1 : Int) = ((1 : Nat) : Int) from rfl, vi_ushr64n (by omega) (by omega), pm_55]
  rw [show (2 : Nat) ^ 1 = 2 by decide, vi_and64n (by omega)]
  have h3 : (x / 2) &&& pm 0x55 8 ≤ x / 2 := Nat.and_le_left
  rw [← pA_e, vi_64 (by omega) (by omega)]
  omega
theorem u_2 {a : Nat} (hx : a < 1099511627776) : vi_w64 (vi_and64 (a : Int) (3689348814741910323 : Int) + vi_and64 (vi_ushr64 (a : Int) (2 : Int)) (3689348814741910323 : Int)) = (((a &&& pm 0x33 8) + ((a / 4) &&& pm 0x33 8) : Nat) : Int) := by
  rw [show (2 : Int) = ((2 : Nat) : Int) from rfl, vi_ushr64n (by omega) (by omega), pm_33]
  rw [show (2 : Nat) ^ 2 = 4 by decide, vi_and64n (by omega), vi_and64n (by omega)]
  have h3 : (a / 4) &&& pm 0x33 8 ≤ a / 4 := Nat.and_le_left
  have h4 : a &&& pm 0x33 8 ≤ a := Nat.and_le_left
  rw [vi_64 (by omega) (by omega)]
  omega
theorem u_3 {b : Nat} (hx : b < 4398046511104) : vi_and64 (vi_w64 ((b : Int) + vi_ushr64 (b : Int) (4 : Int))) (1085102592571150095 : Int) = (((b + b / 16) &&& pm 0x0f 8 : Nat) : Int) := by
  rw [show (4 : Int) = ((4 : Nat) : Int) from rfl, vi_ushr64n (by omega) (by omega), pm_0f]
  rw [show (2 : Nat) ^ 4 = 16 by decide, vi_64 (by omega) (by omega), ← Int.natCast_add, vi_and64n (by omega)]
theorem u_4 {c k e : Nat} (hc : c < 1125899906842624) (hk : k < 64) (he : c + c / 2 ^ k = e) : vi_w64 ((c : Int) + vi_ushr64 (c : Int) (k : Int)) = (e : Int) := by
  have h3 : c / 2 ^ k ≤ c := Nat.div_le_self _ _
  rw [vi_ushr64n (by omega) hk]
  generalize c / 2 ^ k = t at *
  rw [vi_64 (by omega) (by omega)]
  omega
def uS (x : Nat) : Nat := pC 8 x + pC 8 x / 2 ^ 8 + (pC 8 x + pC 8 x / 2 ^ 8) / 2 ^ 16 + (pC 8 x + pC 8 x / 2 ^ 8 + (pC 8 x + pC 8 x / 2 ^ 8) / 2 ^ 16) / 2 ^ 32
theorem u_5 {x : Nat} (hx : x < 1099511627776) : uS x % 2 ^ 7 = sN 40 (fun i => x.testBit i) := by
  obtain ⟨g0, g1, g2, g3, g4, i0, i1, i2, i3, i4, hc, hs⟩ := pC_all (x := x) (by omega)
  unfold uS
  have d1 : pC 8 x + pC 8 x / 2 ^ 8 = (g0 + g1) + 256 * ((g1 + g2) + 256 * ((g2 + g3) + 256 * ((g3 + g4) + 256 * g4))) := by omega
  rw [d1]
  have d2 : (g0 + g1) + 256 * ((g1 + g2) + 256 * ((g2 + g3) + 256 * ((g3 + g4) + 256 * g4))) + ((g0 + g1) + 256 * ((g1 + g2) + 256 * ((g2 + g3) + 256 * ((g3 + g4) + 256 * g4)))) / 2 ^ 16 = (g0 + g1 + (g2 + g3)) + 256 * ((g1 + g2 + (g3 + g4)) + 256 * ((g2 + g3 + g4) + 256 * ((g3 + g4) + 256 * g4))) := by omega
  rw [d2, hs]
  have d3 : (g0 + g1 + (g2 + g3) + 256 * (g1 + g2 + (g3 + g4) + 256 * (g2 + g3 + g4 + 256 * (g3 + g4 + 256 * g4)))) / 2 ^ 32 = g4 := by omega
  rw [d3]
  generalize (g1 + g2 + (g3 + g4) + 256 * (g2 + g3 + g4 + 256 * (g3 + g4 + 256 * g4))) = t
  clear hc hs d1 d2 d3 hx
  omega
theorem k_357 {x : Nat} (hx : x < 1099511627776) : vi_call GG (d + 1) 357 [.inr (.inl (x : Int))] w K ↔ K (some (.inl ((sN 40 (fun i => x.testBit i) : Nat) : Int))) w := by
  obtain ⟨Y, M, n⟩ := w
  have b1 := pA_le 8 x
  have b2 := pB_le 8 x
  have b3 := pC_le 8 x
  have c1 : pC 8 x / 2 ^ 8 ≤ pC 8 x := Nat.div_le_self _ _
  have c2 : (pC 8 x + pC 8 x / 2 ^ 8) / 2 ^ 16 ≤ (pC 8 x + pC 8 x / 2 ^ 8) := Nat.div_le_self _ _
  have a1 := u_4 (c := pC 8 x) (k := 8) (by omega) (by omega) rfl
  have a2 := u_4 (c := pC 8 x + pC 8 x / 2 ^ 8) (k := 16) (by omega) (by omega) rfl
  have a3 := u_4 (c := pC 8 x + pC 8 x / 2 ^ 8 + (pC 8 x + pC 8 x / 2 ^ 8) / 2 ^ 16) (k := 32) (by omega) (by omega) rfl
  have a4 := vi_and32w (x := uS x) (k := 7) (by omega)
  have h2 := u_2 (a := pA 8 x) (by omega)
  rw [pB_e] at h2
  have h3 := u_3 (b := pB 8 x) (by omega)
  rw [pC_e] at h3
  have e8 : ((8 : Nat) : Int) = 8 := rfl
  have e16 : ((16 : Nat) : Int) = 16 := rfl
  have e32 : ((32 : Nat) : Int) = 32 := rfl
  have e127 : ((2 ^ 7 - 1 : Nat) : Int) = 127 := by decide
  rw [e8] at a1
  rw [e16] at a2
  rw [e32] at a3
  rw [e127] at a4
  rw [e_357, s_357_0]
  simp only [u_1 hx, h2, h3, a1, a2, a3]
  rw [← u_5 hx, ← a4]
  rfl
theorem pC_two {x : Nat} (hx : x < 65536) : ∃ g0 g1 : Nat, g0 ≤ 8 ∧ g1 ≤ 8 ∧ pC 4 x = g0 + 256 * g1 ∧ sN 16 (fun i => x.testBit i) = g0 + g1 := by
  have b : ∀ r, r < 256 → qC r ≤ 8 := fun r hr => by rw [q_5 r hr]; exact sN_le _ _
  refine ⟨qC (x % 256), qC (x / 256 % 256), b _ (by omega), b _ (by omega), ?_, ?_⟩
  · have s1 : ∀ (k y : Nat), y < 256 ^ (k + 1) → pC (k + 1) y = qC (y % 256) + 256 * pC k (y / 256) := fun k y hy => by
      have e : y = y % 256 + 256 * (y / 256) := by omega
      rw [Nat.pow_succ] at hy
      have h := pC_s (k := k) (r := y % 256) (y := y / 256) (by omega) (by omega)
      rw [← e] at h
      exact h
    rw [s1 3 x (by omega), s1 2 _ (by omega)]
    rw [show x / 256 / 256 = 0 by omega, pC_0]
    omega
  · rw [show (16 : Nat) = 8 + 8 from rfl, sN_tb8, show (8 : Nat) = 8 + 0 from rfl, sN_tb8]
    simp [sN]
theorem z_1 {x : Nat} (hx : x < 65536) : vi_w32 ((x : Int) - vi_and32 (vi_ushr32 (x : Int) (1 : Int)) (1431655765 : Int)) = ((pA 4 x : Nat) : Int) := by
  rw [show (1 : Int) = ((1 : Nat) : Int) from rfl, vi_ushr32n (by omega) (by omega), pm_554]
  rw [show (2 : Nat) ^ 1 = 2 by decide, vi_and32n (by omega)]
  have h3 : (x / 2) &&& pm 0x55 4 ≤ x / 2 := Nat.and_le_left
  rw [← pA_e, vi_32 (by omega) (by omega)]
  omega
theorem z_2 {a : Nat} (hx : a < 65536) : vi_w32 (vi_and32 (a : Int) (858993459 : Int) + vi_and32 (vi_ushr32 (a : Int) (2 : Int)) (858993459 : Int)) = (((a &&& pm 0x33 4) + ((a / 4) &&& pm 0x33 4) : Nat) : Int) := by
  rw [show (2 : Int) = ((2 : Nat) : Int) from rfl, vi_ushr32n (by omega) (by omega), pm_334]
  rw [show (2 : Nat) ^ 2 = 4 by decide, vi_and32n (by omega), vi_and32n (by omega)]
  have h3 : (a / 4) &&& pm 0x33 4 ≤ a / 4 := Nat.and_le_left
  have h4 : a &&& pm 0x33 4 ≤ a := Nat.and_le_left
  rw [vi_32 (by omega) (by omega)]
  omega
theorem z_3 {b : Nat} (hx : b < 1000000) : vi_and32 (vi_w32 ((b : Int) + vi_ushr32 (b : Int) (4 : Int))) (252645135 : Int) = (((b + b / 16) &&& pm 0x0f 4 : Nat) : Int) := by
  rw [show (4 : Int) = ((4 : Nat) : Int) from rfl, vi_ushr32n (by omega) (by omega), pm_0f4]
  rw [show (2 : Nat) ^ 4 = 16 by decide, vi_32 (by omega) (by omega), ← Int.natCast_add, vi_and32n (by omega)]
theorem z_4 {c k e : Nat} (hc : c < 10000000) (hk : k < 32) (he : c + c / 2 ^ k = e) : vi_w32 ((c : Int) + vi_ushr32 (c : Int) (k : Int)) = (e : Int) := by
  have h3 : c / 2 ^ k ≤ c := Nat.div_le_self _ _
  rw [vi_ushr32n (by omega) hk]
  generalize c / 2 ^ k = t at *
  rw [vi_32 (by omega) (by omega)]
  omega
def zS (x : Nat) : Nat := pC 4 x + pC 4 x / 2 ^ 8 + (pC 4 x + pC 4 x / 2 ^ 8) / 2 ^ 16
theorem z_5 {x : Nat} (hx : x < 65536) : zS x % 2 ^ 6 = sN 16 (fun i => x.testBit i) := by
  obtain ⟨g0, g1, i0, i1, hc, hs⟩ := pC_two hx
  unfold zS
  have d1 : pC 4 x + pC 4 x / 2 ^ 8 = (g0 + g1) + 256 * g1 := by omega
  rw [d1, hs]
  have d3 : (g0 + g1 + 256 * g1) / 2 ^ 16 = 0 := by omega
  rw [d3]
  clear hc hs d1 d3 hx
  omega
theorem k_356 {x : Nat} (hx : x < 65536) : vi_call GG (d + 1) 356 [.inl (x : Int)] w K ↔ K (some (.inl ((sN 16 (fun i => x.testBit i) : Nat) : Int))) w := by
  obtain ⟨Y, M, n⟩ := w
  have b1 := pA_le 4 x
  have b2 := pB_le 4 x
  have b3 := pC_le 4 x
  have c1 : pC 4 x / 2 ^ 8 ≤ pC 4 x := Nat.div_le_self _ _
  have c2 : (pC 4 x + pC 4 x / 2 ^ 8) / 2 ^ 16 ≤ (pC 4 x + pC 4 x / 2 ^ 8) := Nat.div_le_self _ _
  have a1 := z_4 (c := pC 4 x) (k := 8) (by omega) (by omega) rfl
  have a2 := z_4 (c := pC 4 x + pC 4 x / 2 ^ 8) (k := 16) (by omega) (by omega) rfl
  have a4 := vi_and32w (x := zS x) (k := 6) (by omega)
  have hz : zS x < 2147483648 := by unfold zS; omega
  rw [vi_32 (by omega) (by omega)] at a4
  have h2 := z_2 (a := pA 4 x) (by omega)
  rw [pB_e] at h2
  have h3 := z_3 (b := pB 4 x) (by omega)
  rw [pC_e] at h3
  have e8 : ((8 : Nat) : Int) = 8 := rfl
  have e16 : ((16 : Nat) : Int) = 16 := rfl
  have e63 : ((2 ^ 6 - 1 : Nat) : Int) = 63 := by decide
  rw [e8] at a1
  rw [e16] at a2
  rw [e63] at a4
  rw [e_356, s_356_0]
  simp only [z_1 hx, h2, h3, a1, a2]
  rw [← z_5 hx, ← a4]
  rfl
theorem k_358 {a b : Int} : vi_call GG (d + 1) 358 [.inl a, .inl b] w K ↔ K (some (.inl (max a b))) w := by
  obtain ⟨Y, M, n⟩ := w
  refine vi_k (r := some (.inl (max a b))) fun Q hQ => ?_
  simp only [e_358, s_358_0, s_358_5, s_358_9, s_358_10]
  exact ⟨fun h => vi_qI hQ (by omega) rfl, fun h => vi_qI hQ (by omega) rfl⟩
theorem k_359 {a b : Int} : vi_call GG (d + 1) 359 [.inr (.inl a), .inr (.inl b)] w K ↔ K (some (.inr (.inl (max a b)))) w := by
  obtain ⟨Y, M, n⟩ := w
  refine vi_k (r := some (.inr (.inl (max a b)))) fun Q hQ => ?_
  simp only [e_359, s_359_0, s_359_6, s_359_10, s_359_11, s_359_3, vi_cmn, vi_cmle]
  exact ⟨fun h => vi_qL hQ (by omega) rfl, fun h => vi_qL hQ (by omega) rfl⟩
theorem k_360 {a b : Int} : vi_call GG (d + 1) 360 [.inl a, .inl b] w K ↔ K (some (.inl (min a b))) w := by
  obtain ⟨Y, M, n⟩ := w
  refine vi_k (r := some (.inl (min a b))) fun Q hQ => ?_
  simp only [e_360, s_360_0, s_360_5, s_360_9, s_360_10]
  exact ⟨fun h => vi_qI hQ (by omega) rfl, fun h => vi_qI hQ (by omega) rfl⟩
theorem k_361 {a b : Int} : vi_call GG (d + 1) 361 [.inr (.inl a), .inr (.inl b)] w K ↔ K (some (.inr (.inl (min a b)))) w := by
  obtain ⟨Y, M, n⟩ := w
  refine vi_k (r := some (.inr (.inl (min a b)))) fun Q hQ => ?_
  simp only [e_361, s_361_0, s_361_6, s_361_10, s_361_11, s_361_3, vi_cmp']
  exact ⟨fun h => vi_qL hQ (by omega) rfl, fun h => vi_qL hQ (by omega) rfl⟩
end
