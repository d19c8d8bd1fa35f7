/-! THE SMALL MACHINE (vi_): a function that runs the bytecode over a small heap, with Int for numbers.
   A value: an int, a long, a reference by its place (0: null). A world: (Y, M, nx, sl): Y the tags, lengths and final fields of places (they never change once laid), M the rest that they hold, nx the next free place, sl how many slots were made.
   Tags: 0 nothing, 1 int[], 2 long[], 3 byte[], 4 boolean[], 5 char[], 6 short[], 7..19 arrays of references (11: the law's script, 12: a constant text's bytes: nobody writes those), 20 + k the k-th class. -/
abbrev vi_V : Type := Int ⊕ Int ⊕ Nat
abbrev vi_L : Type := List (Option vi_V)
abbrev vi_Y : Type := (Nat → Nat) × (Nat → Nat) × (Nat → Nat → Int)
abbrev vi_M : Type := Nat → Nat → Int
abbrev vi_W : Type := vi_Y × vi_M × Nat × Nat
/-- an instruction as the small machine reads it: the kit's, its length, numbers a, k, c, an int b, a table (switches) -/
abbrev vi_I : Type := Instr × Nat × Nat × Nat × Nat × Int × List (Int × Nat)
abbrev vi_G : Type := (Nat → Nat → Option vi_I) × (Nat → Nat)
abbrev vi_O : Type := (Nat × vi_L × List vi_V × vi_W) ⊕ (Bool × Nat × Nat × List vi_V) ⊕ (Int × List (Int × Nat) × Nat × List vi_V) ⊕ Option vi_V ⊕ (Nat × List vi_V × List vi_V)
def vi_w32 (x : Int) : Int := (x + 2147483648) % 4294967296 - 2147483648
def vi_w64 (x : Int) : Int := (x + 9223372036854775808) % 18446744073709551616 - 9223372036854775808
def vi_and32 (x y : Int) : Int := (BitVec.ofInt 32 x &&& BitVec.ofInt 32 y).toInt
def vi_or32 (x y : Int) : Int := (BitVec.ofInt 32 x ||| BitVec.ofInt 32 y).toInt
def vi_xor32 (x y : Int) : Int := (BitVec.ofInt 32 x ^^^ BitVec.ofInt 32 y).toInt
def vi_and64 (x y : Int) : Int := (BitVec.ofInt 64 x &&& BitVec.ofInt 64 y).toInt
def vi_or64 (x y : Int) : Int := (BitVec.ofInt 64 x ||| BitVec.ofInt 64 y).toInt
def vi_xor64 (x y : Int) : Int := (BitVec.ofInt 64 x ^^^ BitVec.ofInt 64 y).toInt
def vi_shl32 (x y : Int) : Int := vi_w32 (x * 2 ^ (y % 32).toNat)
def vi_shr32 (x y : Int) : Int := x / 2 ^ (y % 32).toNat
def vi_ushr32 (x y : Int) : Int := vi_w32 (x % 4294967296 / 2 ^ (y % 32).toNat)
def vi_shl64 (x y : Int) : Int := vi_w64 (x * 2 ^ (y % 64).toNat)
def vi_shr64 (x y : Int) : Int := x / 2 ^ (y % 64).toNat
def vi_ushr64 (x y : Int) : Int := vi_w64 (x % 18446744073709551616 / 2 ^ (y % 64).toNat)
def vi_cmp64 (x y : Int) : Int := if y < x then 1 else if x = y then 0 else -1
def vi_b (b : Bool) : Int := if b then 1 else 0
/-- what an array or a field of a kind keeps of an int (kinds as the tags: 1 int, 3 byte, 4 boolean, 5 char, 6 short) -/
def vi_nar : Nat → Int → Int
  | 3, x => (x + 128) % 256 - 128
  | 4, x => x % 2
  | 5, x => x % 65536
  | 6, x => (x + 32768) % 65536 - 32768
  | _, x => x
-- locals
def vi_ld : vi_L → Nat → Option vi_V
  | [], _ => none
  | x :: _, 0 => x
  | _ :: l, n + 1 => vi_ld l n
def vi_isL : Option vi_V → Bool
  | some (.inr (.inl _)) => true
  | _ => false
def vi_s1 : vi_L → Nat → vi_V → vi_L
  | [], _, _ => []
  | _ :: l, 0, v => some v :: l
  | x :: l, 1, v => (if vi_isL x then none else x) :: vi_s1 l 0 v
  | x :: l, n + 2, v => x :: vi_s1 l (n + 1) v
def vi_s2 : vi_L → Nat → vi_V → vi_L
  | [], _, _ => []
  | [_], _, _ => []
  | _ :: _ :: l, 0, v => some v :: none :: l
  | x :: y :: l, 1, v => (if vi_isL x then none else x) :: vi_s2 (y :: l) 0 v
  | x :: l, n + 2, v => x :: vi_s2 l (n + 1) v
/-- the locals with which a method begins -/
def vi_en : List vi_V → Nat → vi_L
  | [], n => List.replicate n none
  | .inl x :: vs, n => some (.inl x) :: vi_en vs (n - 1)
  | .inr (.inl x) :: vs, n => some (.inr (.inl x)) :: none :: vi_en vs (n - 2)
  | .inr (.inr x) :: vs, n => some (.inr (.inr x)) :: vi_en vs (n - 1)
def vi_cat : vi_V → Nat
  | .inr (.inl _) => 2
  | _ => 1
def vi_cats : List vi_V → Nat
  | [] => 0
  | v :: vs => vi_cat v + vi_cats vs
-- the world
def vi_ms (M : vi_M) (q k : Nat) (v : Int) : vi_M := fun q' k' => if q' = q ∧ k' = k then v else M q' k'
/-- a whole row laid anew -/
def vi_rs (M : vi_M) (q : Nat) (f : Nat → Int) : vi_M := fun q' => if q' = q then f else M q'
def vi_ynew (Y : vi_Y) (q tag len : Nat) : vi_Y := (fun p => if p = q then tag else Y.1 p, fun p => if p = q then len else Y.2.1 p, fun p => if p = q then fun _ => 0 else Y.2.2 p)
def vi_yfin (Y : vi_Y) (q k : Nat) (v : Int) : vi_Y := (Y.1, Y.2.1, fun p j => if p = q ∧ j = k then v else Y.2.2 p j)
/-- a field's value by its kind: 1, 3 .. 6 as ints, 2 long, 7 a reference -/
def vi_mk : Nat → Int → vi_V
  | 2, x => .inr (.inl x)
  | 7, x => .inr (.inr x.toNat)
  | _, x => .inl x
def vi_icmp : Jvm.ClassFile.Cond → Int → Int → Bool
  | .eq, x, y => decide (x = y)
  | .ne, x, y => decide (x ≠ y)
  | .lt, x, y => decide (x < y)
  | .ge, x, y => decide (y ≤ x)
  | .gt, x, y => decide (y < x)
  | .le, x, y => decide (x ≤ y)
def vi_fit : Nat → Int → Bool
  | 3, x => decide (-128 ≤ x ∧ x < 128)
  | 4, x => decide (0 ≤ x ∧ x < 2)
  | 5, x => decide (0 ≤ x ∧ x < 65536)
  | 6, x => decide (-32768 ≤ x ∧ x < 32768)
  | _, _ => true
/-- a field read: kinds from 10 on are final ones -/
def vi_gf (c : Nat) (Y : vi_Y) (M : vi_M) (q k : Nat) : vi_V := if c < 10 then vi_mk c (M q k) else vi_mk (c - 10) (Y.2.2 q k)
def vi_pf (c : Nat) (Y : vi_Y) (M : vi_M) (nx : Nat × Nat) (q k : Nat) (v : Int) : vi_W := if c < 10 then (Y, vi_ms M q k v, nx) else (vi_yfin Y q k v, M, nx)
def vi_un (f : Int → Int) : List vi_V → Option (List vi_V)
  | .inl x :: S => some (.inl (f x) :: S)
  | _ => none
def vi_bin (f : Int → Int → Int) : List vi_V → Option (List vi_V)
  | .inl y :: .inl x :: S => some (.inl (f x y) :: S)
  | _ => none
def vi_div (f : Int → Int → Int) : List vi_V → Option (List vi_V)
  | .inl y :: .inl x :: S => if y = 0 then none else some (.inl (f x y) :: S)
  | _ => none
def vi_unL (f : Int → Int) : List vi_V → Option (List vi_V)
  | .inr (.inl x) :: S => some (.inr (.inl (f x)) :: S)
  | _ => none
def vi_binL (f : Int → Int → Int) : List vi_V → Option (List vi_V)
  | .inr (.inl y) :: .inr (.inl x) :: S => some (.inr (.inl (f x y)) :: S)
  | _ => none
def vi_divL (f : Int → Int → Int) : List vi_V → Option (List vi_V)
  | .inr (.inl y) :: .inr (.inl x) :: S => if y = 0 then none else some (.inr (.inl (f x y)) :: S)
  | _ => none
def vi_shL (f : Int → Int → Int) : List vi_V → Option (List vi_V)
  | .inl y :: .inr (.inl x) :: S => some (.inr (.inl (f x y)) :: S)
  | _ => none
def vi_nx (pc : Nat) (L : vi_L) (w : vi_W) : Option (List vi_V) → Option vi_O
  | some S => some (.inl (pc, L, S, w))
  | none => none
def vi_pushI (b : Int) (S : List vi_V) : List vi_V := .inl b :: S
def vi_loadI (pc a : Nat) (L : vi_L) (S : List vi_V) (w : vi_W) : Option vi_O := match vi_ld L a with
  | some (.inl x) => some (.inl (pc, L, .inl x :: S, w))
  | _ => none
def vi_loadL (pc a : Nat) (L : vi_L) (S : List vi_V) (w : vi_W) : Option vi_O := match vi_ld L a with
  | some (.inr (.inl x)) => some (.inl (pc, L, .inr (.inl x) :: S, w))
  | _ => none
def vi_loadA (pc a : Nat) (L : vi_L) (S : List vi_V) (w : vi_W) : Option vi_O := match vi_ld L a with
  | some (.inr (.inr x)) => some (.inl (pc, L, .inr (.inr x) :: S, w))
  | _ => none
def vi_storeI (pc a : Nat) (L : vi_L) (S : List vi_V) (w : vi_W) : Option vi_O := match S with
  | .inl x :: S => some (.inl (pc, vi_s1 L a (.inl x), S, w))
  | _ => none
def vi_storeL (pc a : Nat) (L : vi_L) (S : List vi_V) (w : vi_W) : Option vi_O := match S with
  | .inr (.inl x) :: S => some (.inl (pc, vi_s2 L a (.inr (.inl x)), S, w))
  | _ => none
def vi_storeA (pc a : Nat) (L : vi_L) (S : List vi_V) (w : vi_W) : Option vi_O := match S with
  | .inr (.inr x) :: S => some (.inl (pc, vi_s1 L a (.inr (.inr x)), S, w))
  | _ => none
def vi_iinc (pc a : Nat) (b : Int) (L : vi_L) (S : List vi_V) (w : vi_W) : Option vi_O := match vi_ld L a with
  | some (.inl x) => some (.inl (pc, vi_s1 L a (.inl (vi_w32 (x + b))), S, w))
  | _ => none
def vi_arrI (t pc : Nat) (L : vi_L) (S : List vi_V) (w : vi_W) : Option vi_O := match S with
  | .inl i :: .inr (.inr q) :: S => if w.1.1 q = t ∧ 0 ≤ i ∧ i < w.1.2.1 q then some (.inl (pc, L, .inl (w.2.1 q i.toNat) :: S, w)) else none
  | _ => none
def vi_arrL (pc : Nat) (L : vi_L) (S : List vi_V) (w : vi_W) : Option vi_O := match S with
  | .inl i :: .inr (.inr q) :: S => if w.1.1 q = 2 ∧ 0 ≤ i ∧ i < w.1.2.1 q then some (.inl (pc, L, .inr (.inl (w.2.1 q i.toNat)) :: S, w)) else none
  | _ => none
def vi_arrA (a pc : Nat) (L : vi_L) (S : List vi_V) (w : vi_W) : Option vi_O := match S with
  | .inl i :: .inr (.inr q) :: S => if w.1.1 q = a ∧ 0 ≤ i ∧ i < w.1.2.1 q then some (.inl (pc, L, .inr (.inr (w.2.1 q i.toNat).toNat) :: S, w)) else none
  | _ => none
def vi_astI (t pc : Nat) (L : vi_L) (S : List vi_V) (w : vi_W) : Option vi_O := match S with
  | .inl x :: .inl i :: .inr (.inr q) :: S => if w.1.1 q = t ∧ 0 ≤ i ∧ i < w.1.2.1 q then some (.inl (pc, L, S, (w.1, vi_ms w.2.1 q i.toNat (vi_nar t x), w.2.2))) else none
  | _ => none
def vi_astL (pc : Nat) (L : vi_L) (S : List vi_V) (w : vi_W) : Option vi_O := match S with
  | .inr (.inl x) :: .inl i :: .inr (.inr q) :: S => if w.1.1 q = 2 ∧ 0 ≤ i ∧ i < w.1.2.1 q then some (.inl (pc, L, S, (w.1, vi_ms w.2.1 q i.toNat x, w.2.2))) else none
  | _ => none
def vi_astA (a k pc : Nat) (L : vi_L) (S : List vi_V) (w : vi_W) : Option vi_O := match S with
  | .inr (.inr r) :: .inl i :: .inr (.inr q) :: S => if w.1.1 q = a ∧ 0 ≤ i ∧ i < w.1.2.1 q ∧ (r = 0 ∨ w.1.1 r = k) then some (.inl (pc, L, S, (w.1, vi_ms w.2.1 q i.toNat (r : Int), w.2.2))) else none
  | _ => none
def vi_len (a pc : Nat) (L : vi_L) (S : List vi_V) (w : vi_W) : Option vi_O := match S with
  | .inr (.inr q) :: S => if w.1.1 q = a then some (.inl (pc, L, .inl (w.1.2.1 q) :: S, w)) else none
  | _ => none
def vi_make (t n pc : Nat) (L : vi_L) (S : List vi_V) (w : vi_W) : Option vi_O := some (.inl (pc, L, .inr (.inr w.2.2.1) :: S, (vi_ynew w.1 w.2.2.1 t n, vi_rs w.2.1 w.2.2.1 (fun _ => 0), w.2.2.1 + 1, w.2.2.2 + n)))
def vi_newA (t pc : Nat) (L : vi_L) (S : List vi_V) (w : vi_W) : Option vi_O := match S with
  | .inl n :: S => if 0 ≤ n ∧ n < 1000000 then vi_make t n.toNat pc L S w else none
  | _ => none
def vi_get (a k c pc : Nat) (L : vi_L) (S : List vi_V) (w : vi_W) : Option vi_O := match S with
  | .inr (.inr q) :: S => if w.1.1 q = a then some (.inl (pc, L, vi_gf c w.1 w.2.1 q k :: S, w)) else none
  | _ => none
def vi_put (a k c pc : Nat) (L : vi_L) (S : List vi_V) (w : vi_W) : Option vi_O := match S with
  | .inl x :: .inr (.inr q) :: S => if w.1.1 q = a ∧ c % 10 ≠ 2 ∧ c % 10 ≠ 7 ∧ vi_fit (c % 10) x = true then some (.inl (pc, L, S, vi_pf c w.1 w.2.1 w.2.2 q k x)) else none
  | .inr (.inl x) :: .inr (.inr q) :: S => if w.1.1 q = a ∧ c % 10 = 2 then some (.inl (pc, L, S, vi_pf c w.1 w.2.1 w.2.2 q k x)) else none
  | .inr (.inr r) :: .inr (.inr q) :: S => if w.1.1 q = a ∧ c % 10 = 7 then some (.inl (pc, L, S, vi_pf c w.1 w.2.1 w.2.2 q k (r : Int))) else none
  | _ => none
def vi_pop : Nat → List vi_V → List vi_V → Option (List vi_V × List vi_V)
  | 0, S, as => some (as, S)
  | _ + 1, [], _ => none
  | k + 1, v :: S, as => vi_pop k S (v :: as)
/-- whether the receiver is of the class with tag c (0: no receiver) -/
def vi_recv (Y : vi_Y) (c : Nat) (as : List vi_V) : Bool := if c = 0 then true else match as with
  | .inr (.inr q) :: _ => decide (Y.1 q = c)
  | _ => false
def vi_inv (a k c : Nat) (S : List vi_V) (w : vi_W) : Option vi_O := match vi_pop k S [] with
  | none => none
  | some (as, S) => if vi_recv w.1 c as = true ∧ vi_cats S ≤ 8 then some (.inr (.inr (.inr (.inr (a, as, S))))) else none
def vi_step (e : vi_I) (pc : Nat) (L : vi_L) (S : List vi_V) (w : vi_W) : Option vi_O :=
  match e with
  | (ins, len, a, k, c, b, tb) => match ins with
    | .iconst _ | .bipush _ | .sipush _ => some (.inl (pc + len, L, .inl b :: S, w))
    | .ldc _ | .ldc_w _ => if c = 7 then some (.inl (pc + len, L, .inr (.inr a) :: S, w)) else some (.inl (pc + len, L, .inl b :: S, w))
    | .lconst _ | .ldc2_w _ => some (.inl (pc + len, L, .inr (.inl b) :: S, w))
    | .aconst_null => some (.inl (pc + len, L, .inr (.inr 0) :: S, w))
    | .iload _ | .iload_n _ => vi_loadI (pc + len) a L S w
    | .lload _ | .lload_n _ => vi_loadL (pc + len) a L S w
    | .aload _ | .aload_n _ => vi_loadA (pc + len) a L S w
    | .istore _ | .istore_n _ => vi_storeI (pc + len) a L S w
    | .lstore _ | .lstore_n _ => vi_storeL (pc + len) a L S w
    | .astore _ | .astore_n _ => vi_storeA (pc + len) a L S w
    | .iinc _ _ => vi_iinc (pc + len) a b L S w
    | .iadd => vi_nx (pc + len) L w (vi_bin (fun x y => vi_w32 (x + y)) S)
    | .isub => vi_nx (pc + len) L w (vi_bin (fun x y => vi_w32 (x - y)) S)
    | .imul => vi_nx (pc + len) L w (vi_bin (fun x y => vi_w32 (x * y)) S)
    | .idiv => vi_nx (pc + len) L w (vi_div (fun x y => vi_w32 (x.tdiv y)) S)
    | .irem => vi_nx (pc + len) L w (vi_div (fun x y => x.tmod y) S)
    | .ineg => vi_nx (pc + len) L w (vi_un (fun x => vi_w32 (-x)) S)
    | .iand => vi_nx (pc + len) L w (vi_bin vi_and32 S)
    | .ior => vi_nx (pc + len) L w (vi_bin vi_or32 S)
    | .ixor => vi_nx (pc + len) L w (vi_bin vi_xor32 S)
    | .ishl => vi_nx (pc + len) L w (vi_bin vi_shl32 S)
    | .ishr => vi_nx (pc + len) L w (vi_bin vi_shr32 S)
    | .iushr => vi_nx (pc + len) L w (vi_bin vi_ushr32 S)
    | .ladd => vi_nx (pc + len) L w (vi_binL (fun x y => vi_w64 (x + y)) S)
    | .lsub => vi_nx (pc + len) L w (vi_binL (fun x y => vi_w64 (x - y)) S)
    | .lmul => vi_nx (pc + len) L w (vi_binL (fun x y => vi_w64 (x * y)) S)
    | .ldiv => vi_nx (pc + len) L w (vi_divL (fun x y => vi_w64 (x.tdiv y)) S)
    | .lrem => vi_nx (pc + len) L w (vi_divL (fun x y => x.tmod y) S)
    | .lneg => vi_nx (pc + len) L w (vi_unL (fun x => vi_w64 (-x)) S)
    | .land => vi_nx (pc + len) L w (vi_binL vi_and64 S)
    | .lor => vi_nx (pc + len) L w (vi_binL vi_or64 S)
    | .lxor => vi_nx (pc + len) L w (vi_binL vi_xor64 S)
    | .lshl => vi_nx (pc + len) L w (vi_shL vi_shl64 S)
    | .lshr => vi_nx (pc + len) L w (vi_shL vi_shr64 S)
    | .lushr => vi_nx (pc + len) L w (vi_shL vi_ushr64 S)
    | .lcmp => match S with
      | .inr (.inl y) :: .inr (.inl x) :: S => some (.inl (pc + len, L, .inl (vi_cmp64 x y) :: S, w))
      | _ => none
    | .i2l => match S with
      | .inl x :: S => some (.inl (pc + len, L, .inr (.inl x) :: S, w))
      | _ => none
    | .l2i => match S with
      | .inr (.inl x) :: S => some (.inl (pc + len, L, .inl (vi_w32 x) :: S, w))
      | _ => none
    | .i2b => vi_nx (pc + len) L w (vi_un (vi_nar 3) S)
    | .i2c => vi_nx (pc + len) L w (vi_un (vi_nar 5) S)
    | .i2s => vi_nx (pc + len) L w (vi_un (vi_nar 6) S)
    | .dup => match S with
      | v :: S => if vi_cat v = 1 then some (.inl (pc + len, L, v :: v :: S, w)) else none
      | _ => none
    | .pop => match S with
      | v :: S => if vi_cat v = 1 then some (.inl (pc + len, L, S, w)) else none
      | _ => none
    | .dup_x1 => match S with
      | v :: u :: S => if vi_cat v = 1 ∧ vi_cat u = 1 then some (.inl (pc + len, L, v :: u :: v :: S, w)) else none
      | _ => none
    | .dup_x2 => match S with
      | v :: u :: t :: S => if vi_cat v = 1 ∧ vi_cat u = 1 ∧ vi_cat t = 1 then some (.inl (pc + len, L, v :: u :: t :: v :: S, w)) else none
      | _ => none
    | .dup2 => match S with
      | v :: u :: S => if vi_cat v = 2 then some (.inl (pc + len, L, v :: v :: u :: S, w)) else if vi_cat u = 1 then some (.inl (pc + len, L, v :: u :: v :: u :: S, w)) else none
      | [v] => if vi_cat v = 2 then some (.inl (pc + len, L, [v, v], w)) else none
      | _ => none
    | .pop2 => match S with
      | v :: S => if vi_cat v = 2 then some (.inl (pc + len, L, S, w)) else none
      | _ => none
    | .iaload | .baload | .caload | .saload => vi_arrI a (pc + len) L S w
    | .laload => vi_arrL (pc + len) L S w
    | .aaload => vi_arrA a (pc + len) L S w
    | .iastore | .bastore | .castore | .sastore => vi_astI a (pc + len) L S w
    | .lastore => vi_astL (pc + len) L S w
    | .aastore => vi_astA a k (pc + len) L S w
    | .arraylength => vi_len a (pc + len) L S w
    | .newarray _ => vi_newA a (pc + len) L S w
    | .anewarray _ => vi_newA a (pc + len) L S w
    | .new _ => vi_make a k (pc + len) L S w
    | .getfield _ => vi_get a k c (pc + len) L S w
    | .putfield _ => vi_put a k c (pc + len) L S w
    | .getstatic _ => if c = 7 then some (.inl (pc + len, L, .inr (.inr a) :: S, w)) else some (.inl (pc + len, L, .inl b :: S, w))
    | .goto _ => some (.inl (a, L, S, w))
    | .ifCond q _ => match S with
      | .inl x :: S => some (.inr (.inl (vi_icmp q x 0, a, pc + len, S)))
      | _ => none
    | .if_icmp q _ => match S with
      | .inl y :: .inl x :: S => some (.inr (.inl (vi_icmp q x y, a, pc + len, S)))
      | _ => none
    | .if_acmp .eq _ => match S with
      | .inr (.inr y) :: .inr (.inr x) :: S => some (.inr (.inl (decide (x = y), a, pc + len, S)))
      | _ => none
    | .if_acmp .ne _ => match S with
      | .inr (.inr y) :: .inr (.inr x) :: S => some (.inr (.inl (decide (x ≠ y), a, pc + len, S)))
      | _ => none
    | .ifnull _ => match S with
      | .inr (.inr x) :: S => if x = 28 then none else some (.inr (.inl (decide (x = 0), a, pc + len, S)))
      | _ => none
    | .ifnonnull _ => match S with
      | .inr (.inr x) :: S => if x = 28 then none else some (.inr (.inl (decide (x ≠ 0), a, pc + len, S)))
      | _ => none
    | .tableswitch _ _ _ _ | .lookupswitch _ _ => match S with
      | .inl x :: S => some (.inr (.inr (.inl (x, tb, a, S))))
      | _ => none
    | .ireturn => match S with
      | [.inl x] => if vi_fit c x = true then some (.inr (.inr (.inr (.inl (some (.inl x)))))) else none
      | _ => none
    | .lreturn => match S with
      | [.inr (.inl x)] => some (.inr (.inr (.inr (.inl (some (.inr (.inl x)))))))
      | _ => none
    | .areturn => match S with
      | [.inr (.inr x)] => some (.inr (.inr (.inr (.inl (some (.inr (.inr x)))))))
      | _ => none
    | .return_ => match S with
      | [] => some (.inr (.inr (.inr (.inl none))))
      | _ => none
    | .invokestatic _ | .invokevirtual _ => vi_inv a k c S w
    | .invokespecial _ => if a = 0 then (match S with
        | .inr (.inr q) :: S => if q ≠ 0 ∧ w.1.1 q ≠ 0 ∧ vi_cats S ≤ 8 then some (.inl (pc + len, L, S, w)) else none
        | _ => none) else vi_inv a k c S w
    | _ => none
def vi_sw (x : Int) : List (Int × Nat) → Nat → Nat
  | [], t => t
  | (k, u) :: r, t => if x = k then u else vi_sw x r t
def vi_run (G : vi_G) : Nat → Nat → Nat → Nat → vi_L → List vi_V → vi_W → Option (Option vi_V × vi_W)
  | 0, _, _, _, _, _, _ => none
  | f + 1, d, m, pc, L, S, w => match G.1 m pc with
    | none => none
    | some e => match vi_step e pc L S w with
      | none => none
      | some (.inl (pc', L', S', w')) => vi_run G f d m pc' L' S' w'
      | some (.inr (.inl (c, t, u, S'))) => vi_run G f d m (if c = true then t else u) L S' w
      | some (.inr (.inr (.inl (x, tb, t, S')))) => vi_run G f d m (vi_sw x tb t) L S' w
      | some (.inr (.inr (.inr (.inl r)))) => some (r, w)
      | some (.inr (.inr (.inr (.inr (c, as, S'))))) => match d with
        | 0 => none
        | d' + 1 => if vi_cats as ≤ G.2 c then (match vi_run G f d' c 0 (vi_en as (G.2 c)) [] w with
          | none => none
          | some (r, w') => vi_run G f (d' + 1) m (pc + 3) L (r.toList ++ S') w') else none
theorem vi_mono {G : vi_G} : ∀ (f f' d d' m pc : Nat) (L : vi_L) (S : List vi_V) (w : vi_W) (r : Option vi_V × vi_W), vi_run G f d m pc L S w = some r → f ≤ f' → d ≤ d' → vi_run G f' d' m pc L S w = some r := by
  intro f
  induction f with
  | zero => intro f' d d' m pc L S w r h; simp [vi_run] at h
  | succ f ih =>
    intro f' d d' m pc L S w r h hf hd
    obtain ⟨f', rfl⟩ : ∃ k, f' = k + 1 := ⟨f' - 1, by omega⟩
    have hf : f ≤ f' := by omega
    rw [vi_run] at h ⊢
    cases hc : G.1 m pc with
    | none => simp [hc] at h
    | some e =>
      simp only [hc] at h ⊢
      cases hs : vi_step e pc L S w with
      | none => simp [hs] at h
      | some o =>
        simp only [hs] at h ⊢
        rcases o with ⟨pc', L', S', w'⟩ | ⟨c, t, u, S'⟩ | ⟨x, tb, t, S'⟩ | q | ⟨c, as, S'⟩
        · exact ih _ _ _ _ _ _ _ _ _ h hf hd
        · exact ih _ _ _ _ _ _ _ _ _ h hf hd
        · exact ih _ _ _ _ _ _ _ _ _ h hf hd
        · exact h
        · cases d with
          | zero => simp at h
          | succ d =>
            obtain ⟨d', rfl⟩ : ∃ k, d' = k + 1 := ⟨d' - 1, by omega⟩
            simp only at h ⊢
            by_cases hca : vi_cats as ≤ G.2 c
            case neg => simp [hca] at h
            simp only [hca, if_true] at h ⊢
            cases hr : vi_run G f d c 0 (vi_en as (G.2 c)) [] w with
            | none => simp [hr] at h
            | some p =>
              obtain ⟨r1, w1⟩ := p
              simp only [hr] at h
              rw [ih _ _ _ _ _ _ _ _ _ hr hf (by omega)]
              exact ih _ _ _ _ _ _ _ _ _ h hf hd
/-- from here it returns, with Q -/
def vi_ok (G : vi_G) (d m pc : Nat) (L : vi_L) (S : List vi_V) (w : vi_W) (Q : Option vi_V → vi_W → Prop) : Prop := ∃ (f : Nat) (r : Option vi_V) (w' : vi_W), vi_run G f d m pc L S w = some (r, w') ∧ Q r w'
/-- a method's whole run -/
def vi_res (G : vi_G) (d m : Nat) (as : List vi_V) (w : vi_W) (r : Option vi_V) (w' : vi_W) : Prop := vi_cats as ≤ G.2 m ∧ ∃ f : Nat, vi_run G f d m 0 (vi_en as (G.2 m)) [] w = some (r, w')
/-- a call, d levels being left to the caller -/
def vi_call (G : vi_G) (d c : Nat) (as : List vi_V) (w : vi_W) (K : Option vi_V → vi_W → Prop) : Prop := (0 < d ∧ vi_cats as ≤ G.2 c) ∧ vi_ok G (d - 1) c 0 (vi_en as (G.2 c)) [] w K
theorem vi_det {G : vi_G} {f f' d d' m pc : Nat} {L : vi_L} {S : List vi_V} {w : vi_W} {r r' : Option vi_V × vi_W} (h : vi_run G f d m pc L S w = some r) (h' : vi_run G f' d' m pc L S w = some r') : r = r' := by
  have h1 := vi_mono f (max f f') d (max d d') m pc L S w r h (Nat.le_max_left _ _) (Nat.le_max_left _ _)
  have h2 := vi_mono f' (max f f') d' (max d d') m pc L S w r' h' (Nat.le_max_right _ _) (Nat.le_max_right _ _)
  rw [h1] at h2
  exact Option.some.inj h2
theorem vi_res_mono {G : vi_G} {d d' m : Nat} {as : List vi_V} {w : vi_W} {r : Option vi_V} {w' : vi_W} (h : vi_res G d m as w r w') (hd : d ≤ d') : vi_res G d' m as w r w' := by
  obtain ⟨hc, f, h⟩ := h
  exact ⟨hc, f, vi_mono _ _ _ _ _ _ _ _ _ _ h (Nat.le_refl _) hd⟩
theorem vi_res_of {G : vi_G} {d m : Nat} {as : List vi_V} {w : vi_W} {r : Option vi_V} {w' : vi_W} (hc : vi_cats as ≤ G.2 m) (h : vi_ok G d m 0 (vi_en as (G.2 m)) [] w (fun r1 w1 => r1 = r ∧ w1 = w')) : vi_res G d m as w r w' := by
  obtain ⟨f, r1, w1, h, rfl, rfl⟩ := h
  exact ⟨hc, f, h⟩
theorem vi_call_iff {G : vi_G} {d0 d c : Nat} {as : List vi_V} {w : vi_W} {r : Option vi_V} {w' : vi_W} (h : vi_res G d0 c as w r w') (hd : d0 < d) (K : Option vi_V → vi_W → Prop) : vi_call G d c as w K ↔ K r w' := by
  obtain ⟨hc, f, h⟩ := h
  constructor
  · rintro ⟨-, f', r', w1, h', hK⟩
    have e := vi_det h h'
    cases e
    exact hK
  · intro hK
    exact ⟨⟨by omega, hc⟩, f, r, w', vi_mono _ _ _ _ _ _ _ _ _ _ h (Nat.le_refl _) (by omega), hK⟩
theorem vi_call_of {G : vi_G} {d c : Nat} {as : List vi_V} {w : vi_W} {K : Option vi_V → vi_W → Prop} {d0 : Nat} (h : ∃ r w', vi_res G d0 c as w r w' ∧ K r w') (hd : d0 < d) : vi_call G d c as w K := by
  obtain ⟨r, w', h, hK⟩ := h
  exact (vi_call_iff h hd K).mpr hK
theorem vi_ok_mono {G : vi_G} {d m pc : Nat} {L : vi_L} {S : List vi_V} {w : vi_W} {Q Q' : Option vi_V → vi_W → Prop} (h : vi_ok G d m pc L S w Q) (hQ : ∀ r w', Q r w' → Q' r w') : vi_ok G d m pc L S w Q' := by
  obtain ⟨f, r, w', h, hq⟩ := h
  exact ⟨f, r, w', h, hQ _ _ hq⟩
theorem vi_call_mono {G : vi_G} {d c : Nat} {as : List vi_V} {w : vi_W} {Q Q' : Option vi_V → vi_W → Prop} (h : vi_call G d c as w Q) (hQ : ∀ r w', Q r w' → Q' r w') : vi_call G d c as w Q' := ⟨h.1, vi_ok_mono h.2 hQ⟩
theorem vi_res_iff {G : vi_G} {d m : Nat} {as : List vi_V} {w : vi_W} {Q : Option vi_V → vi_W → Prop} (hc : vi_cats as ≤ G.2 m) : vi_ok G d m 0 (vi_en as (G.2 m)) [] w Q ↔ ∃ r w', vi_res G d m as w r w' ∧ Q r w' := by
  constructor
  · rintro ⟨f, r, w', h, hq⟩; exact ⟨r, w', ⟨hc, f, h⟩, hq⟩
  · rintro ⟨r, w', ⟨-, f, h⟩, hq⟩; exact ⟨f, r, w', h, hq⟩
-- one instruction, as rewriting rows: a row an instruction is printed by program out of these
theorem vi_n {G : vi_G} {d m pc : Nat} {L : vi_L} {S : List vi_V} {w : vi_W} {Q : Option vi_V → vi_W → Prop} {e : vi_I} {pc' : Nat} {L' : vi_L} {S' : List vi_V} {w' : vi_W} (h : G.1 m pc = some e) (hs : vi_step e pc L S w = some (.inl (pc', L', S', w'))) : vi_ok G d m pc L S w Q ↔ vi_ok G d m pc' L' S' w' Q := by
  constructor
  · rintro ⟨f, r, w1, hr, hq⟩
    cases f with
    | zero => simp [vi_run] at hr
    | succ f =>
      rw [vi_run] at hr
      simp only [h, hs] at hr
      exact ⟨f, r, w1, hr, hq⟩
  · rintro ⟨f, r, w1, hr, hq⟩
    exact ⟨f + 1, r, w1, by rw [vi_run]; simp only [h, hs]; exact hr, hq⟩
/-- so many instructions that check nothing, one behind another -/
def vi_go (G : vi_G) (m : Nat) : Nat → Nat → vi_L → List vi_V → vi_W → Option (Nat × vi_L × List vi_V × vi_W)
  | 0, pc, L, S, w => some (pc, L, S, w)
  | k + 1, pc, L, S, w => match G.1 m pc with
    | none => none
    | some e => match vi_step e pc L S w with
      | some (.inl (pc', L', S', w')) => vi_go G m k pc' L' S' w'
      | _ => none
theorem vi_gos {G : vi_G} {d m : Nat} {Q : Option vi_V → vi_W → Prop} : ∀ (k : Nat) {pc : Nat} {L : vi_L} {S : List vi_V} {w : vi_W} {r : Nat × vi_L × List vi_V × vi_W}, vi_go G m k pc L S w = some r → (vi_ok G d m pc L S w Q ↔ vi_ok G d m r.1 r.2.1 r.2.2.1 r.2.2.2 Q) := by
  intro k
  induction k with
  | zero => intro pc L S w r h; cases h; exact Iff.rfl
  | succ k ih =>
    intro pc L S w r h
    rw [vi_go] at h
    cases hg : G.1 m pc with
    | none => simp [hg] at h
    | some e =>
      simp only [hg] at h
      cases hs : vi_step e pc L S w with
      | none => simp [hs] at h
      | some o =>
        simp only [hs] at h
        rcases o with ⟨pc', L', S', w'⟩ | o
        · exact (vi_n hg hs).trans (ih h)
        · cases h
theorem vi_gop {G : vi_G} {d m : Nat} {Q : Option vi_V → vi_W → Prop} (k : Nat) {pc pc' : Nat} {L L' : vi_L} {S S' : List vi_V} {w w' : vi_W} (h : vi_go G m k pc L S w = some (pc', L', S', w')) : vi_ok G d m pc L S w Q ↔ vi_ok G d m pc' L' S' w' Q := vi_gos k h
theorem vi_none {G : vi_G} {d m pc : Nat} {L : vi_L} {S : List vi_V} {w : vi_W} {Q : Option vi_V → vi_W → Prop} {e : vi_I} (h : G.1 m pc = some e) (hs : vi_step e pc L S w = none) : ¬ vi_ok G d m pc L S w Q := by
  rintro ⟨f, r, w1, hr, hq⟩
  cases f with
  | zero => simp [vi_run] at hr
  | succ f =>
    rw [vi_run] at hr
    simp [h, hs] at hr
theorem vi_nc {G : vi_G} {d m pc : Nat} {L : vi_L} {S : List vi_V} {w : vi_W} {Q : Option vi_V → vi_W → Prop} {e : vi_I} {pc' : Nat} {L' : vi_L} {S' : List vi_V} {w' : vi_W} {c : Prop} [Decidable c] (h : G.1 m pc = some e) (hs : vi_step e pc L S w = if c then some (.inl (pc', L', S', w')) else none) : vi_ok G d m pc L S w Q ↔ c ∧ vi_ok G d m pc' L' S' w' Q := by
  by_cases hc : c
  · rw [if_pos hc] at hs
    rw [vi_n h hs]
    exact ⟨fun q => ⟨hc, q⟩, fun q => q.2⟩
  · rw [if_neg hc] at hs
    exact ⟨fun q => absurd q (vi_none h hs), fun q => absurd q.1 hc⟩
theorem vi_nd {G : vi_G} {d m pc : Nat} {L : vi_L} {S : List vi_V} {w : vi_W} {Q : Option vi_V → vi_W → Prop} {e : vi_I} {pc' : Nat} {L' : vi_L} {S' : List vi_V} {w' : vi_W} {c : Prop} [Decidable c] (h : G.1 m pc = some e) (hs : vi_step e pc L S w = vi_nx pc' L' w' (if c then none else some S')) : vi_ok G d m pc L S w Q ↔ ¬ c ∧ vi_ok G d m pc' L' S' w' Q := by
  by_cases hc : c
  · rw [if_pos hc] at hs
    exact ⟨fun q => absurd q (vi_none h hs), fun q => absurd hc q.1⟩
  · rw [if_neg hc] at hs
    rw [vi_n h hs]
    exact ⟨fun q => ⟨hc, q⟩, fun q => q.2⟩
theorem vi_br {G : vi_G} {d m pc : Nat} {L : vi_L} {S : List vi_V} {w : vi_W} {Q : Option vi_V → vi_W → Prop} {e : vi_I} {c : Prop} [Decidable c] {t u : Nat} {S' : List vi_V} (h : G.1 m pc = some e) (hs : vi_step e pc L S w = some (.inr (.inl (decide c, t, u, S')))) : vi_ok G d m pc L S w Q ↔ (c → vi_ok G d m t L S' w Q) ∧ (¬ c → vi_ok G d m u L S' w Q) := by
  constructor
  · rintro ⟨f, r, w1, hr, hq⟩
    cases f with
    | zero => simp [vi_run] at hr
    | succ f =>
      rw [vi_run] at hr
      simp only [h, hs] at hr
      constructor
      · intro hc
        simp only [hc, decide_true, if_true] at hr
        exact ⟨f, r, w1, hr, hq⟩
      · intro hc
        simp only [hc, decide_false, Bool.false_eq_true, if_false] at hr
        exact ⟨f, r, w1, hr, hq⟩
  · rintro ⟨h1, h2⟩
    by_cases hc : c
    · obtain ⟨f, r, w1, hr, hq⟩ := h1 hc
      exact ⟨f + 1, r, w1, by rw [vi_run]; simp only [h, hs, hc, decide_true, if_true]; exact hr, hq⟩
    · obtain ⟨f, r, w1, hr, hq⟩ := h2 hc
      exact ⟨f + 1, r, w1, by rw [vi_run]; simp only [h, hs, hc, decide_false, Bool.false_eq_true, if_false]; exact hr, hq⟩
def vi_swp (x : Int) : List (Int × Nat) → Nat → (Nat → Prop) → Prop
  | [], t, K => K t
  | (k, u) :: r, t, K => (x = k → K u) ∧ (x ≠ k → vi_swp x r t K)
theorem vi_swp_sw {x : Int} {K : Nat → Prop} : ∀ {tb : List (Int × Nat)} {t : Nat}, vi_swp x tb t K ↔ K (vi_sw x tb t)
  | [], _ => Iff.rfl
  | (k, u) :: r, t => by
    simp only [vi_sw, vi_swp]
    by_cases hx : x = k
    · rw [if_pos hx]; exact ⟨fun q => q.1 hx, fun q => ⟨fun _ => q, fun n => absurd hx n⟩⟩
    · rw [if_neg hx]; exact ⟨fun q => vi_swp_sw.mp (q.2 hx), fun q => ⟨fun e => absurd e hx, fun _ => vi_swp_sw.mpr q⟩⟩
theorem vi_swi {G : vi_G} {d m pc : Nat} {L : vi_L} {S : List vi_V} {w : vi_W} {Q : Option vi_V → vi_W → Prop} {e : vi_I} {x : Int} {tb : List (Int × Nat)} {t : Nat} {S' : List vi_V} (h : G.1 m pc = some e) (hs : vi_step e pc L S w = some (.inr (.inr (.inl (x, tb, t, S'))))) : vi_ok G d m pc L S w Q ↔ vi_swp x tb t (fun t => vi_ok G d m t L S' w Q) := by
  rw [vi_swp_sw]
  constructor
  · rintro ⟨f, r, w1, hr, hq⟩
    cases f with
    | zero => simp [vi_run] at hr
    | succ f =>
      rw [vi_run] at hr
      simp only [h, hs] at hr
      exact ⟨f, r, w1, hr, hq⟩
  · rintro ⟨f, r, w1, hr, hq⟩
    exact ⟨f + 1, r, w1, by rw [vi_run]; simp only [h, hs]; exact hr, hq⟩
theorem vi_rt {G : vi_G} {d m pc : Nat} {L : vi_L} {S : List vi_V} {w : vi_W} {Q : Option vi_V → vi_W → Prop} {e : vi_I} {r : Option vi_V} (h : G.1 m pc = some e) (hs : vi_step e pc L S w = some (.inr (.inr (.inr (.inl r))))) : vi_ok G d m pc L S w Q ↔ Q r w := by
  constructor
  · rintro ⟨f, r1, w1, hr, hq⟩
    cases f with
    | zero => simp [vi_run] at hr
    | succ f =>
      rw [vi_run] at hr
      simp only [h, hs] at hr
      cases hr
      exact hq
  · intro hq
    exact ⟨1, r, w, by rw [vi_run]; simp only [h, hs], hq⟩
theorem vi_rtc {G : vi_G} {d m pc : Nat} {L : vi_L} {S : List vi_V} {w : vi_W} {Q : Option vi_V → vi_W → Prop} {e : vi_I} {r : Option vi_V} {c : Prop} [Decidable c] (h : G.1 m pc = some e) (hs : vi_step e pc L S w = if c then some (.inr (.inr (.inr (.inl r)))) else none) : vi_ok G d m pc L S w Q ↔ c ∧ Q r w := by
  by_cases hc : c
  · rw [if_pos hc] at hs
    rw [vi_rt h hs]
    exact ⟨fun q => ⟨hc, q⟩, fun q => q.2⟩
  · rw [if_neg hc] at hs
    exact ⟨fun q => absurd q (vi_none h hs), fun q => absurd q.1 hc⟩
theorem vi_cl {G : vi_G} {d m pc : Nat} {L : vi_L} {S : List vi_V} {w : vi_W} {Q : Option vi_V → vi_W → Prop} {e : vi_I} {k : Nat} {as S' : List vi_V} {c : Prop} [Decidable c] (h : G.1 m pc = some e) (hs : vi_step e pc L S w = if c then some (.inr (.inr (.inr (.inr (k, as, S'))))) else none) : vi_ok G d m pc L S w Q ↔ c ∧ vi_call G d k as w (fun r w' => vi_ok G d m (pc + 3) L (r.toList ++ S') w' Q) := by
  by_cases hc : c
  · rw [if_pos hc] at hs
    constructor
    · rintro ⟨f, r, w1, hr, hq⟩
      refine ⟨hc, ?_⟩
      cases f with
      | zero => simp [vi_run] at hr
      | succ f =>
        rw [vi_run] at hr
        simp only [h, hs] at hr
        cases d with
        | zero => simp at hr
        | succ d =>
          simp only at hr
          by_cases hca : vi_cats as ≤ G.2 k
          case neg => simp [hca] at hr
          simp only [hca, if_true] at hr
          cases h2 : vi_run G f d k 0 (vi_en as (G.2 k)) [] w with
          | none => simp [h2] at hr
          | some p =>
            obtain ⟨r2, w2⟩ := p
            simp only [h2] at hr
            exact ⟨⟨Nat.succ_pos _, hca⟩, f, r2, w2, h2, f, r, w1, hr, hq⟩
    · rintro ⟨-, ⟨hd, hca⟩, f, r1, w1, h1, f2, r2, w2, h3, hq⟩
      obtain ⟨d, rfl⟩ : ∃ j, d = j + 1 := ⟨d - 1, by omega⟩
      refine ⟨max f f2 + 1, r2, w2, ?_, hq⟩
      rw [vi_run]
      simp only [h, hs, hca, if_true]
      rw [vi_mono _ (max f f2) _ d _ _ _ _ _ _ h1 (Nat.le_max_left _ _) (by omega)]
      exact vi_mono _ _ _ _ _ _ _ _ _ _ h3 (Nat.le_max_right _ _) (Nat.le_refl _)
  · rw [if_neg hc] at hs
    exact ⟨fun q => absurd q (vi_none h hs), fun q => absurd q.1 hc⟩
theorem vi_cl0 {G : vi_G} {d m pc : Nat} {L : vi_L} {S : List vi_V} {w : vi_W} {Q : Option vi_V → vi_W → Prop} {e : vi_I} {k : Nat} {as S' : List vi_V} (h : G.1 m pc = some e) (hs : vi_step e pc L S w = some (.inr (.inr (.inr (.inr (k, as, S')))))) : vi_ok G d m pc L S w Q ↔ vi_call G d k as w (fun r w' => vi_ok G d m (pc + 3) L (r.toList ++ S') w' Q) := by
  rw [vi_cl (c := True) (k := k) (as := as) (S' := S') h (by rw [hs]; simp)]
  simp
theorem vi_brc {G : vi_G} {d m pc : Nat} {L : vi_L} {S : List vi_V} {w : vi_W} {Q : Option vi_V → vi_W → Prop} {e : vi_I} {c0 c : Prop} [Decidable c0] [Decidable c] {t u : Nat} {S' : List vi_V} (h : G.1 m pc = some e) (hs : vi_step e pc L S w = if c0 then none else some (.inr (.inl (decide c, t, u, S')))) : vi_ok G d m pc L S w Q ↔ ¬ c0 ∧ ((c → vi_ok G d m t L S' w Q) ∧ (¬ c → vi_ok G d m u L S' w Q)) := by
  by_cases hc : c0
  · rw [if_pos hc] at hs
    exact ⟨fun q => absurd q (vi_none h hs), fun q => absurd hc q.1⟩
  · rw [if_neg hc] at hs
    rw [vi_br h hs]
    exact ⟨fun q => ⟨hc, q⟩, fun q => q.2⟩
