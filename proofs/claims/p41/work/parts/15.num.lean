/-! numbers of the small machine and the kit's -/
def vi_in32 (x : Int) : Prop := -2147483648 ≤ x ∧ x < 2147483648
def vi_in64 (x : Int) : Prop := -9223372036854775808 ≤ x ∧ x < 9223372036854775808
theorem vi_bm (x : Int) : x.bmod 4294967296 = vi_w32 x := by
  rw [Int.bmod_def]
  unfold vi_w32
  split <;> omega
theorem vi_bmL (x : Int) : x.bmod 18446744073709551616 = vi_w64 x := by
  rw [Int.bmod_def]
  unfold vi_w64
  split <;> omega
theorem vi_w32_in (x : Int) : vi_in32 (vi_w32 x) := by unfold vi_in32 vi_w32; omega
theorem vi_w64_in (x : Int) : vi_in64 (vi_w64 x) := by unfold vi_in64 vi_w64; omega
theorem vi_w32_of {x : Int} (h : vi_in32 x) : vi_w32 x = x := by unfold vi_in32 at h; unfold vi_w32; omega
theorem vi_w64_of {x : Int} (h : vi_in64 x) : vi_w64 x = x := by unfold vi_in64 at h; unfold vi_w64; omega
theorem vi_w32_w (x : Int) : vi_w32 (vi_w32 x) = vi_w32 x := vi_w32_of (vi_w32_in x)
theorem vi_w64_w (x : Int) : vi_w64 (vi_w64 x) = vi_w64 x := vi_w64_of (vi_w64_in x)
theorem vi_t (x : Int) : (Int32.ofInt x).toInt = vi_w32 x := by rw [Int32.toInt_ofInt]; exact vi_bm x
theorem vi_tL (x : Int) : (Int64.ofInt x).toInt = vi_w64 x := by rw [Int64.toInt_ofInt]; exact vi_bmL x
theorem vi_ti {x : Int} (h : vi_in32 x) : (Int32.ofInt x).toInt = x := by rw [vi_t, vi_w32_of h]
theorem vi_tiL {x : Int} (h : vi_in64 x) : (Int64.ofInt x).toInt = x := by rw [vi_tL, vi_w64_of h]
theorem vi_eq {a : Int32} {x : Int} (h : a.toInt = vi_w32 x) : a = Int32.ofInt x := Int32.toInt_inj.mp (by rw [h, vi_t])
theorem vi_eqL {a : Int64} {x : Int} (h : a.toInt = vi_w64 x) : a = Int64.ofInt x := Int64.toInt_inj.mp (by rw [h, vi_tL])
theorem vi_bm' (x : Int) : x.bmod (2 ^ 32) = vi_w32 x := vi_bm x
theorem vi_bmL' (x : Int) : x.bmod (2 ^ 64) = vi_w64 x := vi_bmL x
theorem vi_add {x y : Int} (hx : vi_in32 x) (hy : vi_in32 y) : Int32.ofInt x + Int32.ofInt y = Int32.ofInt (vi_w32 (x + y)) := vi_eq (by rw [Int32.toInt_add, vi_ti hx, vi_ti hy, vi_bm', vi_w32_w])
theorem vi_sub {x y : Int} (hx : vi_in32 x) (hy : vi_in32 y) : Int32.ofInt x - Int32.ofInt y = Int32.ofInt (vi_w32 (x - y)) := vi_eq (by rw [Int32.toInt_sub, vi_ti hx, vi_ti hy, vi_bm', vi_w32_w])
theorem vi_mul {x y : Int} (hx : vi_in32 x) (hy : vi_in32 y) : Int32.ofInt x * Int32.ofInt y = Int32.ofInt (vi_w32 (x * y)) := vi_eq (by rw [Int32.toInt_mul, vi_ti hx, vi_ti hy, vi_bm', vi_w32_w])
theorem vi_neg {x : Int} (hx : vi_in32 x) : -Int32.ofInt x = Int32.ofInt (vi_w32 (-x)) := vi_eq (by rw [Int32.toInt_neg, vi_ti hx, vi_bm', vi_w32_w])
theorem vi_idiv {x y : Int} (hx : vi_in32 x) (hy : vi_in32 y) : Int32.ofInt x / Int32.ofInt y = Int32.ofInt (vi_w32 (x.tdiv y)) := vi_eq (by rw [Int32.toInt_div, vi_ti hx, vi_ti hy, vi_bm', vi_w32_w])
theorem vi_addL {x y : Int} (hx : vi_in64 x) (hy : vi_in64 y) : Int64.ofInt x + Int64.ofInt y = Int64.ofInt (vi_w64 (x + y)) := vi_eqL (by rw [Int64.toInt_add, vi_tiL hx, vi_tiL hy, vi_bmL', vi_w64_w])
theorem vi_subL {x y : Int} (hx : vi_in64 x) (hy : vi_in64 y) : Int64.ofInt x - Int64.ofInt y = Int64.ofInt (vi_w64 (x - y)) := vi_eqL (by rw [Int64.toInt_sub, vi_tiL hx, vi_tiL hy, vi_bmL', vi_w64_w])
theorem vi_mulL {x y : Int} (hx : vi_in64 x) (hy : vi_in64 y) : Int64.ofInt x * Int64.ofInt y = Int64.ofInt (vi_w64 (x * y)) := vi_eqL (by rw [Int64.toInt_mul, vi_tiL hx, vi_tiL hy, vi_bmL', vi_w64_w])
theorem vi_negL {x : Int} (hx : vi_in64 x) : -Int64.ofInt x = Int64.ofInt (vi_w64 (-x)) := vi_eqL (by rw [Int64.toInt_neg, vi_tiL hx, vi_bmL', vi_w64_w])
theorem vi_idivL {x y : Int} (hx : vi_in64 x) (hy : vi_in64 y) : Int64.ofInt x / Int64.ofInt y = Int64.ofInt (vi_w64 (x.tdiv y)) := vi_eqL (by rw [Int64.toInt_div, vi_tiL hx, vi_tiL hy, vi_bmL', vi_w64_w])
/-- irem as the kit's row writes it: x - x / y * y -/
theorem vi_irem {x y : Int} (hx : vi_in32 x) (hy : vi_in32 y) : Int32.ofInt x - Int32.ofInt x / Int32.ofInt y * Int32.ofInt y = Int32.ofInt (x.tmod y) := by
  apply vi_eq
  rw [Int32.toInt_sub, Int32.toInt_mul, Int32.toInt_div, vi_ti hx, vi_ti hy, vi_bm', vi_bm', vi_bm']
  have h : vi_w32 (vi_w32 (x.tdiv y) * y) = vi_w32 (x.tdiv y * y) := by
    generalize x.tdiv y = t
    unfold vi_w32
    have e : ((t + 2147483648) % 4294967296 - 2147483648) * y = t * y - 4294967296 * ((t + 2147483648) / 4294967296 * y) := by
      have := Int.emod_add_mul_ediv (t + 2147483648) 4294967296
      have e2 : (t + 2147483648) % 4294967296 - 2147483648 = t - 4294967296 * ((t + 2147483648) / 4294967296) := by omega
      rw [e2, Int.sub_mul, Int.mul_assoc]
    rw [e]
    generalize (t + 2147483648) / 4294967296 * y = u
    omega
  rw [h]
  have h2 : x.tmod y = x - x.tdiv y * y := by
    have := Int.tmod_add_mul_tdiv x y
    rw [Int.mul_comm] at this
    omega
  rw [h2]
  generalize x.tdiv y * y = u
  unfold vi_w32
  omega
theorem vi_iremL {x y : Int} (hx : vi_in64 x) (hy : vi_in64 y) : Int64.ofInt x - Int64.ofInt x / Int64.ofInt y * Int64.ofInt y = Int64.ofInt (x.tmod y) := by
  apply vi_eqL
  rw [Int64.toInt_sub, Int64.toInt_mul, Int64.toInt_div, vi_tiL hx, vi_tiL hy, vi_bmL', vi_bmL', vi_bmL']
  have h : vi_w64 (vi_w64 (x.tdiv y) * y) = vi_w64 (x.tdiv y * y) := by
    generalize x.tdiv y = t
    unfold vi_w64
    have e : ((t + 9223372036854775808) % 18446744073709551616 - 9223372036854775808) * y = t * y - 18446744073709551616 * ((t + 9223372036854775808) / 18446744073709551616 * y) := by
      have e2 : (t + 9223372036854775808) % 18446744073709551616 - 9223372036854775808 = t - 18446744073709551616 * ((t + 9223372036854775808) / 18446744073709551616) := by omega
      rw [e2, Int.sub_mul, Int.mul_assoc]
    rw [e]
    generalize (t + 9223372036854775808) / 18446744073709551616 * y = u
    omega
  rw [h]
  have h2 : x.tmod y = x - x.tdiv y * y := by
    have := Int.tmod_add_mul_tdiv x y
    rw [Int.mul_comm] at this
    omega
  rw [h2]
  generalize x.tdiv y * y = u
  unfold vi_w64
  omega
theorem vi_tmod_sg (x y : Int) : (0 ≤ x → 0 ≤ x.tmod y) ∧ (x ≤ 0 → x.tmod y ≤ 0) := by
  refine ⟨fun h => Int.tmod_nonneg y h, fun h => ?_⟩
  have h1 := Int.tmod_nonneg y (show 0 ≤ -x by omega)
  rw [Int.neg_tmod] at h1
  omega
theorem vi_tmod_in {x y : Int} (hx : vi_in32 x) : vi_in32 (x.tmod y) := by
  have hs := vi_tmod_sg x y
  unfold vi_in32 at hx ⊢
  have h1 : (x.tmod y).natAbs ≤ x.natAbs := by
    rw [Int.natAbs_tmod]
    exact Nat.mod_le _ _
  omega
theorem vi_tmod_inL {x y : Int} (hx : vi_in64 x) : vi_in64 (x.tmod y) := by
  have hs := vi_tmod_sg x y
  unfold vi_in64 at hx ⊢
  have h1 : (x.tmod y).natAbs ≤ x.natAbs := by
    rw [Int.natAbs_tmod]
    exact Nat.mod_le _ _
  omega
theorem vi_bv_in (b : BitVec 32) : vi_in32 b.toInt := by
  have h1 := BitVec.toInt_lt (x := b)
  have h2 := BitVec.le_toInt (x := b)
  unfold vi_in32
  omega
theorem vi_bv_inL (b : BitVec 64) : vi_in64 b.toInt := by
  have h1 := BitVec.toInt_lt (x := b)
  have h2 := BitVec.le_toInt (x := b)
  unfold vi_in64
  omega
theorem vi_lt {x y : Int} (hx : vi_in32 x) (hy : vi_in32 y) : Int32.ofInt x < Int32.ofInt y ↔ x < y := by rw [Int32.lt_iff_toInt_lt, vi_ti hx, vi_ti hy]
theorem vi_le {x y : Int} (hx : vi_in32 x) (hy : vi_in32 y) : Int32.ofInt x ≤ Int32.ofInt y ↔ x ≤ y := by rw [Int32.le_iff_toInt_le, vi_ti hx, vi_ti hy]
theorem vi_ieq {x y : Int} (hx : vi_in32 x) (hy : vi_in32 y) : Int32.ofInt x = Int32.ofInt y ↔ x = y := by rw [← Int32.toInt_inj, vi_ti hx, vi_ti hy]
theorem vi_ltL {x y : Int} (hx : vi_in64 x) (hy : vi_in64 y) : Int64.ofInt x < Int64.ofInt y ↔ x < y := by rw [Int64.lt_iff_toInt_lt, vi_tiL hx, vi_tiL hy]
theorem vi_ieqL {x y : Int} (hx : vi_in64 x) (hy : vi_in64 y) : Int64.ofInt x = Int64.ofInt y ↔ x = y := by rw [← Int64.toInt_inj, vi_tiL hx, vi_tiL hy]
theorem vi_lcmp {x y : Int} (hx : vi_in64 x) (hy : vi_in64 y) : lg_cmp (Int64.ofInt x) (Int64.ofInt y) = Int32.ofInt (vi_cmp64 x y) := by
  unfold lg_cmp vi_cmp64
  simp only [gt_iff_lt, vi_ltL hy hx, vi_ieqL hx hy]
  split
  · rfl
  · split <;> rfl
theorem vi_0 : (0 : Int32) = Int32.ofInt 0 := rfl
theorem vi_in0 : vi_in32 0 := by unfold vi_in32; omega
theorem vi_clamp {x : Int} (hx : vi_in32 x) : (Int32.ofInt x).toNatClampNeg = x.toNat := by
  show (Int32.ofInt x).toInt.toNat = _
  rw [vi_ti hx]
theorem vi_index {x : Int} {n : Nat} (hx : vi_in32 x) (h0 : 0 ≤ x) (h1 : x < n) : vp_in (Int32.ofInt x) n := by
  rw [vp_in_iff, vi_ti hx]
  exact ⟨h0, h1⟩
theorem vi_i2l {x : Int} (hx : vi_in32 x) : (Int32.ofInt x).toInt64 = Int64.ofInt x := by
  apply vi_eqL
  rw [Int32.toInt_toInt64, vi_ti hx, vi_w64_of]
  unfold vi_in32 at hx
  unfold vi_in64
  omega
theorem vi_l2i {x : Int} (hx : vi_in64 x) : (Int64.ofInt x).toInt32 = Int32.ofInt (vi_w32 x) := vi_eq (by rw [Int64.toInt_toInt32, vi_tiL hx, vi_bm', vi_w32_w])
theorem vi_bm8 (x : Int) : x.bmod (2 ^ 8) = vi_nar 3 x := by
  show x.bmod 256 = (x + 128) % 256 - 128
  rw [Int.bmod_def]
  split <;> omega
theorem vi_bm16 (x : Int) : x.bmod (2 ^ 16) = vi_nar 6 x := by
  show x.bmod 65536 = (x + 32768) % 65536 - 32768
  rw [Int.bmod_def]
  split <;> omega
theorem vi_i2b {x : Int} (hx : vi_in32 x) : (Int32.ofInt x).toInt8.toInt32 = Int32.ofInt (vi_nar 3 x) := by
  apply vi_eq
  rw [Int8.toInt_toInt32, Int32.toInt_toInt8, vi_ti hx, vi_bm8]
  show _ = vi_w32 ((x + 128) % 256 - 128)
  show (x + 128) % 256 - 128 = _
  unfold vi_w32
  omega
theorem vi_i2s {x : Int} (hx : vi_in32 x) : (Int32.ofInt x).toInt16.toInt32 = Int32.ofInt (vi_nar 6 x) := by
  apply vi_eq
  rw [Int16.toInt_toInt32, Int32.toInt_toInt16, vi_ti hx, vi_bm16]
  show (x + 32768) % 65536 - 32768 = vi_w32 ((x + 32768) % 65536 - 32768)
  unfold vi_w32
  omega
theorem vi_tn (x : Int) : (Int32.ofInt x).toBitVec.toNat = (x % 4294967296).toNat := by
  rw [Int32.toBitVec_ofInt, BitVec.toNat_ofInt]
  rfl
theorem vi_tnL (x : Int) : (Int64.ofInt x).toBitVec.toNat = (x % 18446744073709551616).toNat := by
  rw [Int64.toBitVec_ofInt, BitVec.toNat_ofInt]
  rfl
theorem vi_i2c (x : Int) : ((Int32.ofInt x).toUInt32 % 65536).toInt32 = Int32.ofInt (vi_nar 5 x) := by
  rw [pk_char, vi_tn]
  show Int32.ofNat _ = Int32.ofInt (x % 65536)
  rw [← Int32.ofInt_eq_ofNat]
  congr 1
  omega
theorem vi_sh31 (y : Int) : Int32.ofInt y &&& 31 = nI (y % 32).toNat := by
  rw [pk_and (Int32.ofInt y) 5 (by decide), vi_tn]
  congr 1
  omega
theorem vi_smod : ∀ n, n < 32 → ((nI n).toBitVec.smod 32).toNat = n := by decide +kernel
theorem vi_w32_congr {u v : Int} (h : (u - v) % 4294967296 = 0) : vi_w32 u = vi_w32 v := by unfold vi_w32; omega
theorem vi_w64_congr {u v : Int} (h : (u - v) % 18446744073709551616 = 0) : vi_w64 u = vi_w64 v := by unfold vi_w64; omega
theorem vi_w32_mul (u v : Int) : vi_w32 (vi_w32 u * v) = vi_w32 (u * v) := by
  apply vi_w32_congr
  have e : vi_w32 u = u - 4294967296 * ((u + 2147483648) / 4294967296) := by unfold vi_w32; omega
  rw [e, Int.sub_mul, Int.mul_assoc]
  generalize (u + 2147483648) / 4294967296 * v = k
  generalize u * v = uv
  omega
theorem vi_w64_mul (u v : Int) : vi_w64 (vi_w64 u * v) = vi_w64 (u * v) := by
  apply vi_w64_congr
  have e : vi_w64 u = u - 18446744073709551616 * ((u + 9223372036854775808) / 18446744073709551616) := by unfold vi_w64; omega
  rw [e, Int.sub_mul, Int.mul_assoc]
  generalize (u + 9223372036854775808) / 18446744073709551616 * v = k
  generalize u * v = uv
  omega
theorem vj_i (a : Int32) : Int32.ofInt a.toInt = a := Int32.ofInt_toInt a
theorem vj_iL (a : Int64) : Int64.ofInt a.toInt = a := Int64.ofInt_toInt a
theorem vj_in (a : Int32) : vi_in32 a.toInt := by
  have h1 := Int32.le_toInt a
  have h2 := Int32.toInt_lt a
  unfold vi_in32
  omega
theorem vj_inL (a : Int64) : vi_in64 a.toInt := by
  have h1 := Int64.le_toInt a
  have h2 := Int64.toInt_lt a
  unfold vi_in64
  omega
theorem vj_add (a b : Int32) : (a + b).toInt = vi_w32 (a.toInt + b.toInt) := by rw [Int32.toInt_add]; exact vi_bm' _
theorem vj_sub (a b : Int32) : (a - b).toInt = vi_w32 (a.toInt - b.toInt) := by rw [Int32.toInt_sub]; exact vi_bm' _
theorem vj_mul (a b : Int32) : (a * b).toInt = vi_w32 (a.toInt * b.toInt) := by rw [Int32.toInt_mul]; exact vi_bm' _
theorem vj_neg (a : Int32) : (-a).toInt = vi_w32 (-a.toInt) := by rw [Int32.toInt_neg]; exact vi_bm' _
theorem vj_div (a b : Int32) : (a / b).toInt = vi_w32 (a.toInt.tdiv b.toInt) := by rw [Int32.toInt_div]; exact vi_bm' _
theorem vj_rem (a b : Int32) : (a - a / b * b).toInt = a.toInt.tmod b.toInt := by
  have h := vi_irem (vj_in a) (vj_in b)
  rw [vj_i, vj_i] at h
  rw [h, vi_ti (vi_tmod_in (vj_in a))]
theorem vj_addL (a b : Int64) : (a + b).toInt = vi_w64 (a.toInt + b.toInt) := by rw [Int64.toInt_add]; exact vi_bmL' _
theorem vj_subL (a b : Int64) : (a - b).toInt = vi_w64 (a.toInt - b.toInt) := by rw [Int64.toInt_sub]; exact vi_bmL' _
theorem vj_mulL (a b : Int64) : (a * b).toInt = vi_w64 (a.toInt * b.toInt) := by rw [Int64.toInt_mul]; exact vi_bmL' _
theorem vj_negL (a : Int64) : (-a).toInt = vi_w64 (-a.toInt) := by rw [Int64.toInt_neg]; exact vi_bmL' _
theorem vj_divL (a b : Int64) : (a / b).toInt = vi_w64 (a.toInt.tdiv b.toInt) := by rw [Int64.toInt_div]; exact vi_bmL' _
theorem vj_remL (a b : Int64) : (a - a / b * b).toInt = a.toInt.tmod b.toInt := by
  have h := vi_iremL (vj_inL a) (vj_inL b)
  rw [vj_iL, vj_iL] at h
  rw [h, vi_tiL (vi_tmod_inL (vj_inL a))]
theorem vj_and (a b : Int32) : (a &&& b).toInt = vi_and32 a.toInt b.toInt := by
  show (a.toBitVec &&& b.toBitVec).toInt = (BitVec.ofInt 32 a.toBitVec.toInt &&& BitVec.ofInt 32 b.toBitVec.toInt).toInt
  rw [BitVec.ofInt_toInt, BitVec.ofInt_toInt]
theorem vj_or (a b : Int32) : (a ||| b).toInt = vi_or32 a.toInt b.toInt := by
  show (a.toBitVec ||| b.toBitVec).toInt = (BitVec.ofInt 32 a.toBitVec.toInt ||| BitVec.ofInt 32 b.toBitVec.toInt).toInt
  rw [BitVec.ofInt_toInt, BitVec.ofInt_toInt]
theorem vj_xor (a b : Int32) : (a ^^^ b).toInt = vi_xor32 a.toInt b.toInt := by
  show (a.toBitVec ^^^ b.toBitVec).toInt = (BitVec.ofInt 32 a.toBitVec.toInt ^^^ BitVec.ofInt 32 b.toBitVec.toInt).toInt
  rw [BitVec.ofInt_toInt, BitVec.ofInt_toInt]
theorem vj_andL (a b : Int64) : (a &&& b).toInt = vi_and64 a.toInt b.toInt := by
  show (a.toBitVec &&& b.toBitVec).toInt = (BitVec.ofInt 64 a.toBitVec.toInt &&& BitVec.ofInt 64 b.toBitVec.toInt).toInt
  rw [BitVec.ofInt_toInt, BitVec.ofInt_toInt]
theorem vj_orL (a b : Int64) : (a ||| b).toInt = vi_or64 a.toInt b.toInt := by
  show (a.toBitVec ||| b.toBitVec).toInt = (BitVec.ofInt 64 a.toBitVec.toInt ||| BitVec.ofInt 64 b.toBitVec.toInt).toInt
  rw [BitVec.ofInt_toInt, BitVec.ofInt_toInt]
theorem vj_xorL (a b : Int64) : (a ^^^ b).toInt = vi_xor64 a.toInt b.toInt := by
  show (a.toBitVec ^^^ b.toBitVec).toInt = (BitVec.ofInt 64 a.toBitVec.toInt ^^^ BitVec.ofInt 64 b.toBitVec.toInt).toInt
  rw [BitVec.ofInt_toInt, BitVec.ofInt_toInt]
theorem vj_nat (a : Int32) : a.toInt = vi_w32 (a.toBitVec.toNat : Int) := by
  show a.toBitVec.toInt = _
  rw [BitVec.toInt_eq_toNat_bmod]
  exact vi_bm' _
theorem vj_natL (a : Int64) : a.toInt = vi_w64 (a.toBitVec.toNat : Int) := by
  show a.toBitVec.toInt = _
  rw [BitVec.toInt_eq_toNat_bmod]
  exact vi_bmL' _
theorem vj_un (a : Int32) : (a.toBitVec.toNat : Int) = a.toInt % 4294967296 := by
  have h := vi_tn a.toInt
  rw [vj_i] at h
  rw [h]
  omega
theorem vj_unL (a : Int64) : (a.toBitVec.toNat : Int) = a.toInt % 18446744073709551616 := by
  have h := vi_tnL a.toInt
  rw [vj_iL] at h
  rw [h]
  omega
theorem vj_31 (b : Int32) : b &&& 31 = nI (b.toInt % 32).toNat := by
  have h := vi_sh31 b.toInt
  rwa [vj_i] at h
theorem vj_shl (a b : Int32) : (a <<< (b &&& 31)).toInt = vi_shl32 a.toInt b.toInt := by
  have hj : (b.toInt % 32).toNat < 32 := by omega
  rw [vj_31]
  unfold vi_shl32
  generalize (b.toInt % 32).toNat = j at hj ⊢
  rw [vj_nat (a <<< nI j), pk_shl _ _ j (vi_smod j hj)]
  rw [vj_nat a, vi_w32_mul]
  apply vi_w32_congr
  rw [Int.natCast_emod, Int.natCast_mul, Int.natCast_pow]
  show ((a.toBitVec.toNat : Int) * 2 ^ j % 4294967296 - (a.toBitVec.toNat : Int) * 2 ^ j) % 4294967296 = 0
  generalize (a.toBitVec.toNat : Int) * 2 ^ j = k
  omega
theorem vj_shr (a b : Int32) : (a >>> (b &&& 31)).toInt = vi_shr32 a.toInt b.toInt := by
  have hj : (b.toInt % 32).toNat < 32 := by omega
  rw [vj_31]
  unfold vi_shr32
  generalize (b.toInt % 32).toNat = j at hj ⊢
  rw [pk_shr _ _ j (vi_smod j hj), Int.shiftRight_eq_div_pow]
  norm_cast
theorem vj_u31 : ∀ j, j < 32 → ∀ b : Int32, b &&& 31 = nI j → ((b.toUInt32 &&& Int32.toUInt32 31).toBitVec % 32).toNat = j := by
  intro j hj b hb
  have h : (b.toUInt32 &&& Int32.toUInt32 31) = (b &&& 31).toUInt32 := rfl
  rw [h, hb]
  revert j
  intro j hj _
  have : ∀ j, j < 32 → ((nI j).toUInt32.toBitVec % 32).toNat = j := by decide +kernel
  exact this j hj
theorem vj_ushr (a b : Int32) : ((a.toUInt32 >>> (b.toUInt32 &&& Int32.toUInt32 31)).toInt32).toInt = vi_ushr32 a.toInt b.toInt := by
  have hj : (b.toInt % 32).toNat < 32 := by omega
  have h31 := vj_31 b
  unfold vi_ushr32
  generalize (b.toInt % 32).toNat = j at hj h31 ⊢
  rw [vj_nat, pk_ushr a b j (vj_u31 j hj b h31), ← vj_un]
  norm_cast
theorem vj_63 (b : Int32) : b.toInt64 &&& 63 = lN (b.toInt % 64).toNat := by
  apply Int64.toBitVec_inj.mp
  apply BitVec.eq_of_toNat_eq
  rw [Int64.toBitVec_and, BitVec.toNat_and]
  have h : ((b.toInt64).toBitVec.toNat : Int) = b.toInt % 18446744073709551616 := by
    rw [vj_unL, Int32.toInt_toInt64]
  have h2 : (63 : Int64).toBitVec.toNat = 2 ^ 6 - 1 := by decide
  rw [h2, Nat.and_two_pow_sub_one_eq_mod]
  have h3 : (lN (b.toInt % 64).toNat).toBitVec.toNat = (b.toInt % 64).toNat := by
    have : (b.toInt % 64).toNat < 64 := by omega
    generalize (b.toInt % 64).toNat = k at this
    revert k
    decide +kernel
  rw [h3]
  omega
theorem vj_smod64 : ∀ n, n < 64 → ((lN n).toBitVec.smod 64).toNat = n := by decide +kernel
theorem vj_shlL (a : Int64) (b : Int32) : (a <<< (b.toInt64 &&& 63)).toInt = vi_shl64 a.toInt b.toInt := by
  have hj : (b.toInt % 64).toNat < 64 := by omega
  rw [vj_63]
  unfold vi_shl64
  generalize (b.toInt % 64).toNat = j at hj ⊢
  have h1 : (a <<< lN j).toBitVec.toNat = a.toBitVec.toNat * 2 ^ j % 2 ^ 64 := by
    rw [Int64.toBitVec_shiftLeft, BitVec.shiftLeft_eq', BitVec.toNat_shiftLeft, vj_smod64 j hj, Nat.shiftLeft_eq]
  rw [vj_natL (a <<< lN j), h1, vj_natL a, vi_w64_mul]
  apply vi_w64_congr
  rw [Int.natCast_emod, Int.natCast_mul, Int.natCast_pow]
  show ((a.toBitVec.toNat : Int) * 2 ^ j % 18446744073709551616 - (a.toBitVec.toNat : Int) * 2 ^ j) % 18446744073709551616 = 0
  generalize (a.toBitVec.toNat : Int) * 2 ^ j = k
  omega
theorem vj_shrL (a : Int64) (b : Int32) : (a >>> (b.toInt64 &&& 63)).toInt = vi_shr64 a.toInt b.toInt := by
  have hj : (b.toInt % 64).toNat < 64 := by omega
  rw [vj_63]
  unfold vi_shr64
  generalize (b.toInt % 64).toNat = j at hj ⊢
  have h1 : (a >>> lN j).toInt = a.toInt >>> j := by
    show (a >>> lN j).toBitVec.toInt = _
    rw [Int64.toBitVec_shiftRight, BitVec.sshiftRight_eq', BitVec.toInt_sshiftRight, vj_smod64 j hj]
    rfl
  rw [h1, Int.shiftRight_eq_div_pow]
  norm_cast
theorem vj_ushrL (a : Int64) (b : Int32) : ((a.toUInt64 >>> (b.toInt64.toUInt64 &&& Int64.toUInt64 63)).toInt64).toInt = vi_ushr64 a.toInt b.toInt := by
  have hj : (b.toInt % 64).toNat < 64 := by omega
  have h63 := vj_63 b
  unfold vi_ushr64
  generalize (b.toInt % 64).toNat = j at hj h63 ⊢
  have e : (b.toInt64.toUInt64 &&& Int64.toUInt64 63) = (lN j).toUInt64 := by rw [← h63]; rfl
  have h1 : ((a.toUInt64 >>> (lN j).toUInt64).toInt64).toBitVec.toNat = a.toBitVec.toNat / 2 ^ j := by
    show (a.toUInt64 >>> (lN j).toUInt64).toBitVec.toNat = _
    rw [UInt64.toBitVec_shiftRight, BitVec.ushiftRight_eq', BitVec.toNat_ushiftRight]
    have h3 : ∀ j, j < 64 → ((lN j).toUInt64.toBitVec % 64).toNat = j := by decide +kernel
    have h2 := h3 j hj
    rw [h2, Nat.shiftRight_eq_div_pow]
    rfl
  rw [vj_natL, e, h1, ← vj_unL]
  norm_cast
theorem vj_lt (a b : Int32) : a < b ↔ a.toInt < b.toInt := Int32.lt_iff_toInt_lt
theorem vj_le (a b : Int32) : a ≤ b ↔ a.toInt ≤ b.toInt := Int32.le_iff_toInt_le
theorem vj_eq (a b : Int32) : a = b ↔ a.toInt = b.toInt := Int32.toInt_inj.symm
theorem vj_0 : (0 : Int32).toInt = 0 := by decide
theorem vj_lcmp (a b : Int64) : (lg_cmp a b).toInt = vi_cmp64 a.toInt b.toInt := by
  unfold lg_cmp vi_cmp64
  by_cases h : b < a
  · have h' := Int64.lt_iff_toInt_lt.mp h
    rw [if_pos (show a > b from h), if_pos h']
    decide
  · have h' : ¬ b.toInt < a.toInt := fun q => h (Int64.lt_iff_toInt_lt.mpr q)
    rw [if_neg (show ¬ a > b from h), if_neg h']
    by_cases e : a = b
    · rw [if_pos e, if_pos (by rw [e])]
      decide
    · rw [if_neg e, if_neg (fun q => e (Int64.toInt_inj.mp q))]
      decide
theorem vj_clamp (a : Int32) : a.toNatClampNeg = a.toInt.toNat := rfl
theorem vj_index {a : Int32} {n : Nat} (h0 : 0 ≤ a.toInt) (h1 : a.toInt < n) : vp_in a n := vp_in_iff.mpr ⟨h0, h1⟩
theorem vj_i2l (a : Int32) : a.toInt64.toInt = a.toInt := Int32.toInt_toInt64 a
theorem vj_l2i (a : Int64) : a.toInt32.toInt = vi_w32 a.toInt := by rw [Int64.toInt_toInt32]; exact vi_bm' _
theorem vj_i2b (a : Int32) : a.toInt8.toInt32.toInt = vi_nar 3 a.toInt := by
  rw [Int8.toInt_toInt32, Int32.toInt_toInt8]
  exact vi_bm8 _
theorem vj_i2s (a : Int32) : a.toInt16.toInt32.toInt = vi_nar 6 a.toInt := by
  rw [Int16.toInt_toInt32, Int32.toInt_toInt16]
  exact vi_bm16 _
