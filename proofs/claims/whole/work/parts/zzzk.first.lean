/-! The law's entry: the first world. -/
def strT (i : Nat) : Term := .string (vi_strs.getD i ("", 0, "")).1 (vi_strs.getD i ("", 0, "")).2.1
def firC : Cond := Jvm.Cond.and given_1 narrow_1
theorem f_ex : (List.range 13).all (fun i => decide (Cond.exactly (strT i) "java/lang/String" ∈ flatC firC)) = true := by decide +kernel
theorem f_co : (List.range 13).all (fun i => decide (Cond.eq (.field (strT i) "java/lang/String" "coder" "B") (.int 0) ∈ flatC firC)) = true := by decide +kernel
theorem f_ar : (List.range 13).all (fun i => decide (Cond.arrayOf (.field (strT i) "java/lang/String" "value" "[B") .byte ∈ flatC firC)) = true := by decide +kernel
theorem f_le : (List.range 13).all (fun i => decide (Cond.eq (.length (.field (strT i) "java/lang/String" "value" "[B")) (.int (Int32.ofNat (vi_sln.getD i 0))) ∈ flatC firC)) = true := by decide +kernel
theorem f_el : (List.range 13).all (fun i => (List.range (vi_sln.getD i 0)).all (fun j => decide (Cond.eq (.elem (.field (strT i) "java/lang/String" "value" "[B") (.int (Int32.ofNat j))) (.int ((vi_byt.getD i []).getD j 0)) ∈ flatC firC))) = true := by decide +kernel
theorem f_ne : (List.range 13).all (fun i => (List.range 13).all (fun j => decide (i = j) || (decide (Cond.not (Cond.eq (strT i) (strT j)) ∈ flatC firC) || decide (Cond.not (Cond.eq (strT j) (strT i)) ∈ flatC firC)))) = true := by decide +kernel
theorem f_cs : Cond.eq (.static "java/lang/String" "COMPACT_STRINGS" "Z") (.int 1) ∈ flatC firC := by decide +kernel
theorem f_si : Cond.isRef (.static "jdk/internal/util/Preconditions" "SIOOBE_FORMATTER" "Ljava/util/function/BiFunction;") ∈ flatC firC := by decide +kernel
theorem t_cs1 : Cond.laysStatic "java/lang/String" "COMPACT_STRINGS" "Z" ∈ lw_tbl := by decide +kernel
theorem t_cs2 : Cond.initialized "java/lang/String" ∈ lw_tbl := by decide +kernel
theorem t_si1 : Cond.laysStatic "jdk/internal/util/Preconditions" "SIOOBE_FORMATTER" "Ljava/util/function/BiFunction;" ∈ lw_tbl := by decide +kernel
theorem t_si2 : Cond.initialized "jdk/internal/util/Preconditions" ∈ lw_tbl := by decide +kernel
theorem t_ao : Cond.arrayOver (.object "CheeseCube$Law") ∈ lw_tbl := by decide +kernel
theorem t_st : (List.range 13).all (fun i => decide (Cond.stringRef (vi_strs.getD i ("", 0, "")).1 (vi_strs.getD i ("", 0, "")).2.1 (vi_strs.getD i ("", 0, "")).2.2 ∈ lw_tbl)) = true := by decide +kernel
theorem t_13 : vi_strs.length = 13 := rfl
