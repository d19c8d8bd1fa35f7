/-! The law's entry: the first world. -/
def strT (i : Nat) : Term := .string (vi_strs.getD i ("", 0, "")).1 (vi_strs.getD i ("", 0, "")).2.1
def firC : Cond := Jvm.Cond.and given_1 narrow_1
theorem f_ex : (List.range 13).all (fun i => decide (Cond.exactly (strT i) "java/lang/String" ∈ flatC firC)) = true := by decide +kernel
theorem f_co : (List.range 13).all (fun i => decide (Cond.eq (.field (strT i) "java/lang/String" "coder" "B") (.int 0) ∈ flatC firC)) = true := by decide +kernel
theorem f_ar : (List.range 13).all (fun i => decide (Cond.arrayOf (.field (strT i) "java/lang/String" "value" "[B") .byte ∈ flatC firC)) = true := by decide +kernel
theorem f_le : (List.range 13).all (fun i => decide (Cond.eq (.length (.field (strT i) "java/lang/String" "value" "[B")) (.int (Int32.ofNat (vi_sln.getD i 0))) ∈ flatC firC)) = true := by decide +kernel
theorem f_el : (List.range 13).all (fun i => (List.range (vi_sln.getD i 0)).all (fun j => decide (Cond.eq (.elem (.field (strT i) "java/lang/String" "value" "[B") (.int (Int32.ofNat j))) (.int ((vi_byt.getD i []).getD j 0)) ∈ flatC firC))) = true := by decide +kernel
def fNe (i : Nat) : Bool := (List.range 13).all (fun j => decide (i = j) || (decide (Cond.not (Cond.eq (strT i) (strT j)) ∈ flatC firC) || decide (Cond.not (Cond.eq (strT j) (strT i)) ∈ flatC firC)))
theorem f_ne_0 : fNe 0 = true := by decide +kernel
theorem f_ne_1 : fNe 1 = true := by decide +kernel
theorem f_ne_2 : fNe 2 = true := by decide +kernel
theorem f_ne_3 : fNe 3 = true := by decide +kernel
theorem f_ne_4 : fNe 4 = true := by decide +kernel
theorem f_ne_5 : fNe 5 = true := by decide +kernel
theorem f_ne_6 : fNe 6 = true := by decide +kernel
theorem f_ne_7 : fNe 7 = true := by decide +kernel
theorem f_ne_8 : fNe 8 = true := by decide +kernel
theorem f_ne_9 : fNe 9 = true := by decide +kernel
theorem f_ne_10 : fNe 10 = true := by decide +kernel
theorem f_ne_11 : fNe 11 = true := by decide +kernel
theorem f_ne_12 : fNe 12 = true := by decide +kernel
theorem f_ne : (List.range 13).all (fun i => (List.range 13).all (fun j => decide (i = j) || (decide (Cond.not (Cond.eq (strT i) (strT j)) ∈ flatC firC) || decide (Cond.not (Cond.eq (strT j) (strT i)) ∈ flatC firC)))) = true := List.all_eq_true.mpr fun i hi => by
  have h := List.mem_range.mp hi
  show fNe i = true
  match i, h with
  | 0, _ => exact f_ne_0
  | 1, _ => exact f_ne_1
  | 2, _ => exact f_ne_2
  | 3, _ => exact f_ne_3
  | 4, _ => exact f_ne_4
  | 5, _ => exact f_ne_5
  | 6, _ => exact f_ne_6
  | 7, _ => exact f_ne_7
  | 8, _ => exact f_ne_8
  | 9, _ => exact f_ne_9
  | 10, _ => exact f_ne_10
  | 11, _ => exact f_ne_11
  | 12, _ => exact f_ne_12
  | n + 13, h => exact absurd h (by omega)
theorem f_cs : Cond.eq (.static "java/lang/String" "COMPACT_STRINGS" "Z") (.int 1) ∈ flatC firC := by decide +kernel
theorem f_si : Cond.isRef (.static "jdk/internal/util/Preconditions" "SIOOBE_FORMATTER" "Ljava/util/function/BiFunction;") ∈ flatC firC := by decide +kernel
theorem t_cs1 : Cond.laysStatic "java/lang/String" "COMPACT_STRINGS" "Z" ∈ lw_tbl := by decide +kernel
theorem t_cs2 : Cond.initialized "java/lang/String" ∈ lw_tbl := by decide +kernel
theorem t_si1 : Cond.laysStatic "jdk/internal/util/Preconditions" "SIOOBE_FORMATTER" "Ljava/util/function/BiFunction;" ∈ lw_tbl := by decide +kernel
theorem t_si2 : Cond.initialized "jdk/internal/util/Preconditions" ∈ lw_tbl := by decide +kernel
theorem t_ao : Cond.arrayOver (.object "CheeseCube$Law") ∈ lw_tbl := by decide +kernel
theorem t_st : (List.range 13).all (fun i => decide (Cond.stringRef (vi_strs.getD i ("", 0, "")).1 (vi_strs.getD i ("", 0, "")).2.1 (vi_strs.getD i ("", 0, "")).2.2 ∈ lw_tbl)) = true := by decide +kernel
theorem t_13 : vi_strs.length = 13 := rfl
