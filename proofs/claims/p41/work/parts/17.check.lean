/-! the code table against the bytes and the tables' words -/
abbrev vi_own (m : Nat) : String := (vi_y m).cls
def vi_wdo (i : Nat) : Option Cond := cond (Nat.ble 37 i) (cond (Nat.ble 517 i) (cond (Nat.ble 757 i) (cond (Nat.ble 997 i) (tables_1_5[i - 997]?) (tables_1_4[i - 757]?)) (tables_1_3[i - 517]?)) (cond (Nat.ble 277 i) (tables_1_2[i - 277]?) (tables_1_1[i - 37]?))) ((k2_sels lw_privs)[i]?)
theorem vi_in9 (k : Nat) (ls : List (List Cond)) (hl : tables_1 = ls.flatten) {l : List Cond} (hk : ls[k]? = some l) {w : Cond} (h : w ∈ l) : w ∈ lw_tbl := by
  refine List.mem_append_right _ ?_
  rw [hl]
  exact List.mem_flatten.mpr ⟨l, List.mem_of_getElem? hk, h⟩
theorem vi_tb9 : tables_1 = [tables_1_1, tables_1_2, tables_1_3, tables_1_4, tables_1_5].flatten := by
  unfold tables_1
  simp only [List.flatten_cons, List.flatten_nil, List.append_nil]
theorem vi_wdo_in {i : Nat} {w : Cond} (h : vi_wdo i = some w) : w ∈ lw_tbl := by
  unfold vi_wdo at h
  cases h0 : Nat.ble 37 i with
  | false =>
    rw [h0] at h
    exact List.mem_append_left _ (List.mem_of_getElem? h)
  | true =>
    rw [h0] at h
    simp only [cond_true] at h
    cases h1 : Nat.ble 517 i with
    | false =>
      simp only [h1, cond_false] at h
      cases h2 : Nat.ble 277 i with
      | false =>
        simp only [h2, cond_false] at h
        exact vi_in9 0 _ vi_tb9 rfl (List.mem_of_getElem? h)
      | true =>
        simp only [h2, cond_true] at h
        exact vi_in9 1 _ vi_tb9 rfl (List.mem_of_getElem? h)
    | true =>
      simp only [h1, cond_true] at h
      cases h3 : Nat.ble 757 i with
      | false =>
        simp only [h3, cond_false] at h
        exact vi_in9 2 _ vi_tb9 rfl (List.mem_of_getElem? h)
      | true =>
        simp only [h3, cond_true] at h
        cases h4 : Nat.ble 997 i with
        | false =>
          simp only [h4, cond_false] at h
          exact vi_in9 3 _ vi_tb9 rfl (List.mem_of_getElem? h)
        | true =>
          simp only [h4, cond_true] at h
          exact vi_in9 4 _ vi_tb9 rfl (List.mem_of_getElem? h)
def vi_word (i : Nat) (w : Cond) : Bool := decide (vi_wdo i = some w)
theorem vi_word_in {i : Nat} {w : Cond} (h : vi_word i w = true) : w ∈ lw_tbl := vi_wdo_in (of_decide_eq_true h)
/-- a field's kind by its descriptor -/
def vi_kd (d : String) (fin : Bool) : Nat := (if d = "I" then 1 else if d = "J" then 2 else if d = "B" then 3 else if d = "Z" then 4 else if d = "C" then 5 else if d = "S" then 6 else 7) + (if fin then 10 else 0)
/-- the k-th field of the class with tag a -/
def vi_fld (a k : Nat) : Option (String × String × String × String × Bool) := match vi_cls[a - 20]? with
  | none => none
  | some q => if 20 ≤ a ∧ k < q.2.2 then some (q.1, q.2.1 k) else none
def vi_ckF (o : String) (i a k c : Nat) (b : Int) : Bool := match vi_fld a k with
  | none => false
  | some (C, D, n, d, fin) => decide (D = C) && (decide (c = vi_kd d fin) && vi_word b.toNat (.fieldLink o i C n d))
def vi_ckS (o : String) (i k c : Nat) (b : Int) : Bool := if k = 0 then decide (c = 17) && vi_word b.toNat (.fieldLink o i "java/lang/String" "value" "[B") else decide (k = 1) && (decide (c = 13) && vi_word b.toNat (.fieldLink o i "java/lang/String" "coder" "B"))
def vi_finOk (m a k : Nat) : Bool := match vi_fld a k with
  | none => false
  | some (C, _, _, _, fin) => if fin then decide ((vi_y m).name = "<init>" ∧ C = vi_own m) else true
def vi_off (pc a : Nat) (off : Int) : Bool := decide ((pc : Int) + off = (a : Int))
def vi_link (o : String) (i a : Nat) (b : Int) : Bool := vi_word b.toNat (.methodLink o i (vi_y a))
def vi_host : String := "CheeseCube"
def vi_tbT (pc : Nat) (lo : Int) : List Int → List (Int × Nat) → Bool
  | [], [] => true
  | o :: os, (x, t) :: tb => decide (x = lo) && (vi_off pc t o && vi_tbT pc (lo + 1) os tb)
  | _, _ => false
def vi_ckI (m pc : Nat) (ins : Instr) (len a k c : Nat) (b : Int) (tb : List (Int × Nat)) : Bool := match ins with
  | .iconst n => decide (len = 1) && decide ((Int32.ofInt n).toInt = b)
  | .bipush n => decide (len = 2) && decide ((Int8.ofInt n).toInt32.toInt = b)
  | .sipush n => decide (len = 3) && decide ((Int16.ofInt n).toInt32.toInt = b)
  | .ldc i => decide (len = 2) && (if c = 7 then decide (2 ≤ a) && (match vi_strs[a - 2]? with
      | some (o, j, _) => decide (o = vi_own m ∧ j = i)
      | none => false) else vi_word k (.constant (vi_own m) i (Int32.ofInt b)) && decide ((Int32.ofInt b).toInt = b))
  | .ldc_w i => decide (len = 3) && (decide (c ≠ 7) && (vi_word k (.constant (vi_own m) i (Int32.ofInt b)) && decide ((Int32.ofInt b).toInt = b)))
  | .lconst n => decide (len = 1) && decide ((Int64.ofNat (n : Nat)).toInt = b)
  | .ldc2_w i => decide (len = 3) && (vi_word k (.constantLong (vi_own m) i (Int64.ofInt b)) && decide ((Int64.ofInt b).toInt = b))
  | .aconst_null => decide (len = 1)
  | .iload i | .lload i | .aload i => decide (len = 2) && decide (i = a)
  | .iload_n i | .lload_n i | .aload_n i => decide (len = 1) && decide ((i : Nat) = a)
  | .istore i | .astore i => decide (len = 2) && (decide (i = a) && decide (a < vi_mll m))
  | .istore_n i | .astore_n i => decide (len = 1) && (decide ((i : Nat) = a) && decide (a < vi_mll m))
  | .lstore i => decide (len = 2) && (decide (i = a) && decide (a + 1 < vi_mll m))
  | .lstore_n i => decide (len = 1) && (decide ((i : Nat) = a) && decide (a + 1 < vi_mll m))
  | .iinc i n => decide (len = 3) && (decide (i = a) && (decide ((Int32.ofInt n).toInt = b) && decide (a < vi_mll m)))
  | .iadd | .isub | .imul | .idiv | .irem | .ineg | .iand | .ior | .ixor | .ishl | .ishr | .iushr | .ladd | .lsub | .lmul | .ldiv | .lrem | .lneg | .land | .lor | .lxor | .lshl | .lshr | .lushr | .lcmp | .i2l | .l2i | .i2b | .i2c | .i2s | .dup | .pop | .dup_x1 | .dup_x2 | .dup2 | .pop2 | .laload | .lastore => decide (len = 1)
  | .iaload => decide (len = 1) && decide (a = 1 ∨ a = 11)
  | .baload => decide (len = 1) && decide (a = 3 ∨ a = 4 ∨ a = 12)
  | .aaload => decide (len = 1) && decide (a = 7)
  | .caload => decide (len = 1) && decide (a = 5)
  | .castore => decide (len = 1) && decide (a = 5)
  | .iastore => decide (len = 1) && decide (a = 1)
  | .bastore => decide (len = 1) && decide (a = 3 ∨ a = 4)
  | .aastore => decide (len = 1) && decide (a = 7 ∧ k = 23)
  | .arraylength => decide (len = 1) && decide (a ≠ 0 ∧ (a < 8 ∨ a = 11 ∨ a = 12))
  | .newarray t => decide (len = 2) && (match t with
      | .int => decide (a = 1)
      | .long => decide (a = 2)
      | .byte => decide (a = 3)
      | .boolean => decide (a = 4)
      | .char => decide (a = 5)
      | _ => false)
  | .anewarray i => decide (len = 3) && (decide (a = 7) && vi_word k (.classLink (vi_own m) i "CheeseCube$Law"))
  | .new i => decide (len = 3) && (match vi_cls[a - 20]? with
      | none => false
      | some q => decide (20 ≤ a ∧ k = q.2.2) && vi_word c (.classLink (vi_own m) i q.1))
  | .getfield i => decide (len = 3) && (if a = 13 then vi_ckS (vi_own m) i k c b else vi_ckF (vi_own m) i a k c b)
  | .putfield i => decide (len = 3) && (decide (c % 10 = 1 ∨ c % 10 = 2 ∨ c % 10 = 4 ∨ c % 10 = 7) && (vi_ckF (vi_own m) i a k c b && vi_finOk m a k))
  | .getstatic i => decide (len = 3) && (if c = 7 then decide (a = 28) && vi_word k (.fieldLink (vi_own m) i "jdk/internal/util/Preconditions" "SIOOBE_FORMATTER" "Ljava/util/function/BiFunction;") else decide (b = 1) && vi_word k (.fieldLink (vi_own m) i "java/lang/String" "COMPACT_STRINGS" "Z"))
  | .goto off => decide (len = 3) && vi_off pc a off
  | .ifCond _ off => decide (len = 3) && vi_off pc a off
  | .if_icmp _ off => decide (len = 3) && vi_off pc a off
  | .if_acmp _ _ => false
  | .ifnull off => decide (len = 3) && vi_off pc a off
  | .ifnonnull off => decide (len = 3) && vi_off pc a off
  | .tableswitch d lo hi offs => vi_off pc a d && (vi_tbT pc lo offs.toList tb && decide (hi = lo + offs.size - 1))
  | .ireturn => decide (len = 1) && decide (vi_rty m = some (if c = 1 then .int else if c = 3 then .byte else if c = 4 then .boolean else .char)) && decide (c = 1 ∨ c = 3 ∨ c = 4 ∨ c = 5)
  | .lreturn => decide (len = 1) && decide (vi_rty m = some .long)
  | .areturn => decide (len = 1) && (match vi_rty m with
      | some (.object _) => true
      | some (.array _) => true
      | _ => false)
  | .return_ => decide (len = 1) && decide (vi_rty m = none)
  | .invokestatic i => decide (len = 3) && (decide (0 < a ∧ a < 369 ∧ c = 0 ∧ k = vi_na a ∧ vi_st a = true) && vi_link (vi_own m) i a b)
  | .invokevirtual i => decide (len = 3) && (decide (0 < a ∧ a < 369 ∧ k = vi_na a + 1 ∧ vi_st a = false ∧ c ≠ 0 ∧ (vi_y a).name ≠ "<init>" ∧ (if c = 13 then vi_own a = "java/lang/String" else (vi_cls[c - 20]?).map (fun q => q.1) = some (vi_own a) ∧ 20 ≤ c)) && vi_link (vi_own m) i a b)
  | .invokespecial i => decide (len = 3) && (if a = 0 then vi_word b.toNat (.methodLink (vi_own m) i objectInit) else decide (a < 369 ∧ k = vi_na a + 1 ∧ vi_st a = false ∧ 20 ≤ c ∧ (vi_y a).name = "<init>" ∧ vi_rty a = none) && (if 0 ≤ b then vi_link (vi_own m) i a b else vi_word (-1 - b).toNat (.methodLinkNest (vi_own m) i (vi_y a) vi_host)))
  | _ => false
def vi_ck (m pc : Nat) (e : vi_I) : Bool := decide (decode (vi_by m) pc = .ok (e.1, e.2.1)) && vi_ckI m pc e.1 e.2.1 e.2.2.1 e.2.2.2.1 e.2.2.2.2.1 e.2.2.2.2.2.1 e.2.2.2.2.2.2
def vi_ckR (m j : Nat) : Bool := (List.range 100).all (fun i => match vi_code m (100 * j + i) with
  | none => true
  | some e => vi_ck m (100 * j + i) e)
theorem vi_sz_hi : ∀ m, 369 ≤ m → vi_sz m = 0 := by
  intro m h
  have h1 : Nat.ble 369 m = true := Nat.ble_eq.mpr h
  unfold vi_sz
  rw [h1]
  rfl
