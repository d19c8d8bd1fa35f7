/-! the check of the code table, put together; the methods' and classes' words -/
/-- every entry of the code table is right -/
theorem vi_good {m p : Nat} {e : vi_I} (h : GG.1 m p = some e) : vi_ck m p e = true := by
  have h : vi_code m p = some e := h
  by_cases hp : vi_sz m ≤ p
  · have h1 : Nat.ble (vi_sz m) p = true := Nat.ble_eq.mpr hp
    unfold vi_code at h
    rw [h1] at h
    cases h
  · by_cases hm : m < 369
    · have h1 := List.all_eq_true.mp vi_kC m (List.mem_range.mpr hm)
      have h2 := of_decide_eq_true (List.all_eq_true.mp h1 (p / 100) (List.mem_range.mpr (by omega)))
      have h3 := List.all_eq_true.mp (vi_kT _ h2) (p % 100) (List.mem_range.mpr (by omega))
      have e1 : 100 * (p / 100) + p % 100 = p := by omega
      simp only [e1, h] at h3
      exact h3
    · exact absurd (by rw [vi_sz_hi m (by omega)]; exact Nat.zero_le _) hp
/-- a method's own words -/
def vi_ckW (m : Nat) : Bool := vi_word (vi_wx m).1 (.code (vi_y m) (vi_by m) (vi_mll m) (vi_rty m)) && (vi_word (vi_wx m).2.1 (.initialized (vi_own m)) && (vi_word (vi_wx m).2.2.1 (if vi_st m then .static (vi_y m) else .instanceMethod (vi_y m)) &&
  ((decide (vi_st m = true ∨ (vi_y m).name = "<init>") || vi_word (vi_wx m).2.2.2 (.selects (vi_own m) (vi_y m) (vi_y m))) && (decide (vi_own m ≠ "java/lang/invoke/MethodHandle" ∧ vi_own m ≠ "java/lang/invoke/VarHandle" ∧ (parseMethodDescriptor (vi_y m).desc).map (fun d => d.parameters.length) = some (vi_na m)) && plainName (vi_own m)))))
theorem vi_ckWA : (List.range 369).all (fun m => decide (m = 0) || vi_ckW m) = true := by decide +kernel
theorem vi_words {m : Nat} (h : m < 369) (h0 : m ≠ 0) : vi_ckW m = true := by
  have h1 := List.all_eq_true.mp vi_ckWA m (List.mem_range.mpr h)
  simpa [h0] using h1
theorem vi_tbl_good : lw_tbl.all goodWord = true := by decide +kernel
/-- a class's words -/
def vi_ckC (i : Nat) : Bool := match vi_cls[i]?, vi_cw[i]?, vi_tys[i]? with
  | some (C, T, N), some (a, b), some ty => vi_word a (.instantiable C N) && (vi_word b (.initialized C) && ((List.range N).all (fun k => decide (u_lay C T k ∈ lw_tbl) && (decide (parseFieldDescriptor (T k).2.2.1 = some (ty k)) && decide ((T k).1 = C))) && decide ((List.range N).Pairwise (fun a b => (T a).2.1 ≠ (T b).2.1))))
  | _, _, _ => false
theorem vi_ckCA : (List.range 13).all vi_ckC = true := by decide +kernel
theorem vi_arrI : Cond.arrayClass .int ∈ lw_tbl := by decide +kernel
theorem vi_arrJ : Cond.arrayClass .long ∈ lw_tbl := by decide +kernel
theorem vi_arrB : Cond.arrayClass .byte ∈ lw_tbl := by decide +kernel
theorem vi_arrZ : Cond.arrayClass .boolean ∈ lw_tbl := by decide +kernel
theorem vi_arrLaw : Cond.arrayOver (.object "CheeseCube$Law") ∈ lw_tbl := by decide +kernel
