/-! Contracts' base: a contract out of one direction, loops, rows laid anew, numbers. -/
theorem vi_k {d c : Nat} {as : List vi_V} {w : vi_W} {r : Option vi_V} {w' : vi_W} (h : ∀ Q : Option vi_V → vi_W → Prop, Q r w' → vi_call GG d c as w Q) {K : Option vi_V → vi_W → Prop} : vi_call GG d c as w K ↔ K r w' := by
  constructor
  · intro hk
    obtain ⟨hc, f, r1, w1, hr, hq⟩ := h (fun r1 w1 => r1 = r ∧ w1 = w') ⟨rfl, rfl⟩
    obtain ⟨-, f', r2, w2, hr2, hk⟩ := hk
    have e := vi_det hr hr2
    cases e
    rw [hq.1, hq.2] at hk
    exact hk
  · exact h K
theorem vi_kx {d c : Nat} {as : List vi_V} {w : vi_W} {P : Option vi_V → vi_W → Prop} (h : vi_call GG d c as w P) : ∃ r w', P r w' ∧ ∀ K : Option vi_V → vi_W → Prop, vi_call GG d c as w K ↔ K r w' := by
  obtain ⟨hc, f, r, w', hr, hp⟩ := h
  refine ⟨r, w', hp, fun K => vi_k fun Q hQ => ⟨hc, f, r, w', hr, hQ⟩⟩
theorem kk_nc {y : Nat} : (y : Int) + 1 = ((y + 1 : Nat) : Int) := by omega
theorem vi_fI (f : Int → Prop) {a b : Int} (h : f a) (e : a = b) : f b := e ▸ h
theorem vi_dn {P : Nat → Prop} (N : Nat) (hN : P N) (hs : ∀ i, i < N → P (i + 1) → P i) : ∀ i, i ≤ N → P i := by
  intro i hi
  obtain ⟨k, rfl⟩ : ∃ k, N = i + k := ⟨N - i, by omega⟩
  induction k generalizing i with
  | zero => exact hN
  | succ k ih => exact hs i (by omega) (ih (i + 1) (by rw [show i + 1 + k = i + (k + 1) by omega]; exact hN) (fun j hj => hs j (by omega)) (by omega))
theorem vi_dn0 {P : Nat → Prop} (N : Nat) (hN : P N) (hs : ∀ i, i < N → P (i + 1) → P i) : P 0 := vi_dn N hN hs 0 (Nat.zero_le _)
/-- downwards: from k to 0 -/
theorem vi_up {P : Nat → Prop} (N : Nat) (h0 : P 0) (hs : ∀ i, i < N → P i → P (i + 1)) : ∀ i, i ≤ N → P i := by
  intro i
  induction i with
  | zero => intro _; exact h0
  | succ i ih => intro hi; exact hs i (by omega) (ih (by omega))
theorem vi_qI {Q : Option vi_V → vi_W → Prop} {x y : Int} {w w' : vi_W} (h : Q (some (.inl y)) w') (h1 : x = y) (h2 : w = w') : Q (some (.inl x)) w := by rw [h1, h2]; exact h
theorem vi_qL {Q : Option vi_V → vi_W → Prop} {x y : Int} {w w' : vi_W} (h : Q (some (.inr (.inl y))) w') (h1 : x = y) (h2 : w = w') : Q (some (.inr (.inl x))) w := by rw [h1, h2]; exact h
theorem vi_qR {Q : Option vi_V → vi_W → Prop} {x y : Nat} {w w' : vi_W} (h : Q (some (.inr (.inr y))) w') (h1 : x = y) (h2 : w = w') : Q (some (.inr (.inr x))) w := by rw [h1, h2]; exact h
theorem vi_qN {Q : Option vi_V → vi_W → Prop} {w w' : vi_W} (h : Q none w') (h2 : w = w') : Q none w := by rw [h2]; exact h
theorem vi_yes {c P Q : Prop} (h : c) : ((c → P) ∧ (¬ c → Q)) ↔ P := ⟨fun k => k.1 h, fun k => ⟨fun _ => k, fun n => absurd h n⟩⟩
theorem vi_no {c P Q : Prop} (h : ¬ c) : ((c → P) ∧ (¬ c → Q)) ↔ Q := ⟨fun k => k.2 h, fun k => ⟨fun n => absurd n h, fun _ => k⟩⟩
theorem kk_ck {c P : Prop} (h : c) : (c ∧ P) ↔ P := ⟨fun k => k.2, fun k => ⟨h, k⟩⟩
theorem kk_im {c P : Prop} (h : c) : (c → P) ↔ P := ⟨fun k => k h, fun k _ => k⟩
theorem kk_in {c P : Prop} (h : ¬ c) : (c → P) ↔ True := ⟨fun _ => trivial, fun _ n => absurd n h⟩
-- rows
def vi_u (f : Nat → Int) (k : Nat) (v : Int) : Nat → Int := fun j => if j = k then v else f j
theorem vi_ms_rs {M : vi_M} {q k : Nat} {v : Int} : vi_ms M q k v = vi_rs M q (vi_u (M q) k v) := by
  funext q' k'
  by_cases h : q' = q <;> simp [vi_ms, vi_rs, vi_u, h]
theorem vi_rs_s {M : vi_M} {q : Nat} {f : Nat → Int} : vi_rs M q f q = f := if_pos rfl
theorem vi_rs_o {M : vi_M} {q q' : Nat} {f : Nat → Int} (h : q' ≠ q) : vi_rs M q f q' = M q' := if_neg h
theorem vi_rs_rs {M : vi_M} {q : Nat} {f g : Nat → Int} : vi_rs (vi_rs M q f) q g = vi_rs M q g := by
  funext q'
  by_cases h : q' = q <;> simp [vi_rs, h]
theorem vi_rs_id {M : vi_M} {q : Nat} {f : Nat → Int} (h : M q = f) : vi_rs M q f = M := by
  funext q'
  by_cases h' : q' = q <;> simp [vi_rs, h', h]
theorem vi_rs_cm {M : vi_M} {q p : Nat} {f g : Nat → Int} (h : p ≠ q) : vi_rs (vi_rs M p g) q f = vi_rs (vi_rs M q f) p g := by
  funext q'
  by_cases h1 : q' = q
  · subst h1; simp [vi_rs, Ne.symm h]
  · by_cases h2 : q' = p
    · subst h2; simp [vi_rs, h]
    · simp [vi_rs, h1, h2]
theorem vi_u_s {f : Nat → Int} {k : Nat} {v : Int} : vi_u f k v k = v := if_pos rfl
theorem vi_u_o {f : Nat → Int} {k j : Nat} {v : Int} (h : j ≠ k) : vi_u f k v j = f j := if_neg h
theorem vi_u_id {f : Nat → Int} {k : Nat} {v : Int} (h : f k = v) : vi_u f k v = f := by
  funext j
  by_cases h' : j = k <;> simp [vi_u, h', h]
theorem vi_u_u {f : Nat → Int} {k : Nat} {v v' : Int} : vi_u (vi_u f k v) k v' = vi_u f k v' := by
  funext j
  by_cases h' : j = k <;> simp [vi_u, h']
-- numbers
theorem vi_32 {x : Int} (h0 : -2147483648 ≤ x) (h1 : x < 2147483648) : vi_w32 x = x := by unfold vi_w32; omega
theorem vi_64 {x : Int} (h0 : -9223372036854775808 ≤ x) (h1 : x < 9223372036854775808) : vi_w64 x = x := by unfold vi_w64; omega
theorem vi_td {x y : Int} (h : 0 ≤ x) : x.tdiv y = x / y := Int.tdiv_eq_ediv_of_nonneg h
theorem vi_tm {x y : Int} (h : 0 ≤ x) : x.tmod y = x % y := Int.tmod_eq_emod_of_nonneg h
theorem vi_cm0 {x y : Int} : vi_cmp64 x y = 0 ↔ x = y := by unfold vi_cmp64; split <;> (try split) <;> omega
theorem vi_cmn {x y : Int} : vi_cmp64 x y < 0 ↔ x < y := by unfold vi_cmp64; split <;> (try split) <;> omega
theorem vi_cmp' {x y : Int} : 0 < vi_cmp64 x y ↔ y < x := by unfold vi_cmp64; split <;> (try split) <;> omega
theorem vi_cmle {x y : Int} : vi_cmp64 x y ≤ 0 ↔ x ≤ y := by unfold vi_cmp64; split <;> (try split) <;> omega
theorem vi_cmge {x y : Int} : 0 ≤ vi_cmp64 x y ↔ y ≤ x := by unfold vi_cmp64; split <;> (try split) <;> omega
theorem vi_bt : vi_b true = 1 := rfl
theorem vi_bf : vi_b false = 0 := rfl
theorem vi_b0 {b : Bool} : vi_b b = 0 ↔ b = false := by cases b <;> simp [vi_b]
theorem vi_b1 {b : Bool} : vi_b b = 1 ↔ b = true := by cases b <;> simp [vi_b]
theorem vi_b02 {b : Bool} : 0 ≤ vi_b b ∧ vi_b b < 2 := by cases b <;> simp [vi_b]
theorem vi_bp {p : Prop} [Decidable p] (h : p) : vi_b (decide p) = 1 := by simp [vi_b, h]
theorem vi_bn {p : Prop} [Decidable p] (h : ¬ p) : vi_b (decide p) = 0 := by simp [vi_b, h]
-- 32 and 64 bits, as natural numbers and as BitVec
theorem vi_n32 {x : Nat} (h : x < 2147483648) : (BitVec.ofNat 32 x).toInt = (x : Int) := by
  rw [BitVec.toInt_eq_toNat_cond, BitVec.toNat_ofNat, Nat.mod_eq_of_lt (by omega)]
  simp; omega
theorem vi_n64 {x : Nat} (h : x < 9223372036854775808) : (BitVec.ofNat 64 x).toInt = (x : Int) := by
  rw [BitVec.toInt_eq_toNat_cond, BitVec.toNat_ofNat, Nat.mod_eq_of_lt (by omega)]
  simp; omega
theorem vi_and32n {x y : Nat} (hx : x < 2147483648) : vi_and32 (x : Int) (y : Int) = ((x &&& y : Nat) : Int) := by
  unfold vi_and32
  rw [BitVec.ofInt_natCast, BitVec.ofInt_natCast]
  rw [show BitVec.ofNat 32 x &&& BitVec.ofNat 32 y = BitVec.ofNat 32 (x &&& y) by
    apply BitVec.eq_of_toNat_eq
    simp [Nat.and_mod_two_pow (n := 32)]]
  exact vi_n32 (Nat.lt_of_le_of_lt Nat.and_le_left hx)
theorem vi_or32n {x y : Nat} (hx : x < 2147483648) (hy : y < 2147483648) : vi_or32 (x : Int) (y : Int) = ((x ||| y : Nat) : Int) := by
  unfold vi_or32
  rw [BitVec.ofInt_natCast, BitVec.ofInt_natCast]
  rw [show BitVec.ofNat 32 x ||| BitVec.ofNat 32 y = BitVec.ofNat 32 (x ||| y) by
    apply BitVec.eq_of_toNat_eq
    simp [Nat.or_mod_two_pow (n := 32)]]
  exact vi_n32 (Nat.or_lt_two_pow (n := 31) hx hy)
theorem vi_shr32n {x n : Nat} (hn : n < 32) : vi_shr32 (x : Int) (n : Int) = ((x >>> n : Nat) : Int) := by
  unfold vi_shr32
  rw [show ((n : Int) % 32).toNat = n by omega, Nat.shiftRight_eq_div_pow]
  norm_cast
theorem vi_shl32n {x n : Nat} (hn : n < 32) (h : x <<< n < 2147483648) : vi_shl32 (x : Int) (n : Int) = ((x <<< n : Nat) : Int) := by
  unfold vi_shl32
  rw [show ((n : Int) % 32).toNat = n by omega]
  rw [Nat.shiftLeft_eq] at h ⊢
  rw [show (x : Int) * 2 ^ n = ((x * 2 ^ n : Nat) : Int) by norm_cast]
  exact vi_32 (by omega) (by omega)
theorem vi_bv {x : BitVec 64} : BitVec.ofInt 64 x.toInt = x := BitVec.ofInt_toInt
theorem vi_and64b {x y : BitVec 64} : vi_and64 x.toInt y.toInt = (x &&& y).toInt := by unfold vi_and64; rw [vi_bv, vi_bv]
theorem vi_or64b {x y : BitVec 64} : vi_or64 x.toInt y.toInt = (x ||| y).toInt := by unfold vi_or64; rw [vi_bv, vi_bv]
theorem vi_xor64b {x y : BitVec 64} : vi_xor64 x.toInt y.toInt = (x ^^^ y).toInt := by unfold vi_xor64; rw [vi_bv, vi_bv]
theorem vi_64mod (x : Int) : vi_w64 x = (BitVec.ofInt 64 x).toInt := by
  rw [BitVec.toInt_ofInt]
  exact (vi_bmL' x).symm
theorem vi_tmod64 (x : BitVec 64) : x.toInt % 18446744073709551616 = (x.toNat : Int) := by
  have hlt := x.isLt
  rw [BitVec.toInt_eq_toNat_cond]
  split <;> omega
theorem vi_shl64b {x : BitVec 64} {n : Nat} (hn : n < 64) : vi_shl64 x.toInt (n : Int) = (x <<< n).toInt := by
  unfold vi_shl64
  rw [show ((n : Int) % 64).toNat = n by omega, vi_64mod]
  congr 1
  apply BitVec.eq_of_toNat_eq
  rw [BitVec.toNat_ofInt, BitVec.toNat_shiftLeft, Nat.shiftLeft_eq]
  have e := vi_tmod64 x
  have e2 : x.toInt * 2 ^ n % 18446744073709551616 = ((x.toNat * 2 ^ n % 18446744073709551616 : Nat) : Int) := by
    have key : ∀ a b N : Int, (a % N) * b % N = a * b % N := fun a b N => by rw [Int.mul_emod, Int.emod_emod, ← Int.mul_emod]
    rw [← key, e, Int.natCast_emod, Int.natCast_mul, Int.natCast_pow]
    rfl
  rw [show ((2 ^ 64 : Nat) : Int) = 18446744073709551616 from rfl, e2]
  rfl
theorem vi_ushr64b {x : BitVec 64} {n : Nat} (hn : n < 64) : vi_ushr64 x.toInt (n : Int) = (x >>> n).toInt := by
  unfold vi_ushr64
  rw [show ((n : Int) % 64).toNat = n by omega, vi_64mod]
  congr 1
  apply BitVec.eq_of_toNat_eq
  have e := vi_tmod64 x
  rw [e, BitVec.toNat_ofInt, BitVec.toNat_ushiftRight, Nat.shiftRight_eq_div_pow]
  have h2 : (x.toNat : Int) / 2 ^ n = ((x.toNat / 2 ^ n : Nat) : Int) := by norm_cast
  have h3 : x.toNat / 2 ^ n ≤ x.toNat := Nat.div_le_self _ _
  have hlt := x.isLt
  rw [h2]
  generalize x.toNat / 2 ^ n = t at *
  omega
theorem vi_add64b {x y : BitVec 64} : vi_w64 (x.toInt + y.toInt) = (x + y).toInt := by
  rw [vi_64mod, BitVec.ofInt_add, vi_bv, vi_bv]
theorem vi_sub64b {x y : BitVec 64} : vi_w64 (x.toInt - y.toInt) = (x - y).toInt := by
  rw [vi_64mod, Int.sub_eq_add_neg, BitVec.ofInt_add, BitVec.ofInt_neg, vi_bv, vi_bv, BitVec.sub_eq_add_neg]
theorem vi_neg64b {x : BitVec 64} : vi_w64 (-x.toInt) = (-x).toInt := by
  rw [vi_64mod, BitVec.ofInt_neg, vi_bv]
