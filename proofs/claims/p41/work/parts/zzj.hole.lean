/-! Pairs: hole, stop. -/
theorem mAd_e {f : Nat → Int} {n : Nat} {a u v s k t : Int} {x : Nat} : mAd f n a u v s k t x = if x = 292 then ((n + 1 : Nat) : Int) else if x = 6 * n + 5 then t + 1 else if x = 6 * n + 4 then k else if x = 6 * n + 3 then s else if x = 6 * n + 2 then v else if x = 6 * n + 1 then u else if x = 6 * n then a else f x := rfl
theorem mAd_E {f : Nat → Int} {L : List (Nat → Int)} {a u v s k t : Int} (h : lsE f 0 6 292 L) (hl : L.length ≤ 15) : lsE (mAd f L.length a u v s k t) 0 6 292 (L ++ [vV a u v s k t]) := by
  refine lsE_add (.inr (.inr rfl)) h (by rw [mAd_e, if_pos rfl]) (by omega) (fun x h1 h2 => ?_) fun j hj => ?_
  · rw [mAd_e, if_neg (by omega), if_neg (by omega), if_neg (by omega), if_neg (by omega), if_neg (by omega), if_neg (by omega), if_neg (by omega)]
  · unfold vV
    rw [mAd_e, if_neg (by omega)]
    obtain rfl | rfl | rfl | rfl | rfl | rfl : j = 0 ∨ j = 1 ∨ j = 2 ∨ j = 3 ∨ j = 4 ∨ j = 5 := by omega
    · rw [if_neg (by omega), if_neg (by omega), if_neg (by omega), if_neg (by omega), if_neg (by omega), if_pos (by omega), if_pos rfl]; simp
    · rw [if_neg (by omega), if_neg (by omega), if_neg (by omega), if_neg (by omega), if_pos (by omega)]; simp
    · rw [if_neg (by omega), if_neg (by omega), if_neg (by omega), if_pos (by omega)]; simp
    · rw [if_neg (by omega), if_neg (by omega), if_pos (by omega)]; simp
    · rw [if_neg (by omega), if_pos (by omega)]; simp
    · rw [if_pos (by omega)]; simp
theorem mAd_h {f : Nat → Int} {n : Nat} {a u v s k t : Int} {x : Nat} (hn : n ≤ 15) (hx : 96 ≤ x) (hx2 : x ≠ 292) : mAd f n a u v s k t x = f x := mAd_o (by omega) hx2
theorem ls_mem {A D : List (Nat → Int)} {v w : Nat → Int} (h : w ∈ A ++ D) : w ∈ A ++ v :: D := by
  rw [List.mem_append] at *
  rcases h with h | h
  · exact .inl h
  · exact .inr (List.mem_cons.mpr (.inr h))
section
variable {sc : Nat → Int} {ln t a n d : Nat} {CS : Nat → List gCla} {lw : Option (List gCla)} {Y : vi_Y} {M : vi_M} {nn : Nat × Nat} {K : Option vi_V → vi_W → Prop}
theorem mIhb_of {M : vi_M} {b u v e p l : Int} (h : mIh M b u v e p l) : mIhb (M 114) b u v e p l = true := by
  unfold mIhb
  rw [Bool.and_eq_true, mIb_p, decide_eq_true_iff]
  exact ⟨h.1, h.2⟩
theorem mIhb_r {f : Nat → Int} (hB : bxF f) {b u v e p l : Int} (h : mIhb f b u v e p l = true) : gPl (f 96) (f 97) (f 98) b u v = true ∧ gH (vV b u v e p l) := by
  unfold mIhb at h
  rw [Bool.and_eq_true, decide_eq_true_iff] at h
  obtain ⟨h1, h2, h3, h4⟩ := h
  refine ⟨by rw [← hc_ib]; exact h1, ?_⟩
  have hr := mIp_r (M := rowM f) hB (mIb_p.mp h1)
  show (0 ≤ b ∧ b ≤ 2) ∧ (0 ≤ u ∧ u < 6) ∧ (0 ≤ v ∧ v < 6) ∧ (0 ≤ e ∧ e ≤ 1) ∧ (1 ≤ p ∧ p ≤ 6) ∧ (-1 ≤ l ∧ l ≤ 1)
  exact ⟨hr.1, hr.2.1, hr.2.2, h2, h3, h4⟩
/-- with a HOLE more -/
theorem cHd_add {f : Nat → Int} {LH LR LS : List (Nat → Int)} (hH : cHd M 30 f a CS LH LR LS) (hl : LH.length ≤ 15) {b u v e p l : Int} (h : mIhb f b u v e p l = true) : cHd (vi_rs (vi_rs M 31 (vi_u (M 31) 2 ((LH.length + 1 : Nat) : Int))) 32 (rPut (M 32) LH.length (vV b u v e p l))) 30 (mAd f LH.length b u v e p l) a CS (LH ++ [vV b u v e p l]) LR LS := by
  obtain ⟨⟨o1, o2, o3⟩, cH, cR', cS, cD, cC, cZ, cL⟩ := hH
  obtain ⟨hp, hg⟩ := mIhb_r cZ.2.2.2.2.1 h
  have ho : ∀ x, 96 ≤ x → x ≠ 292 → mAd f LH.length b u v e p l x = f x := fun x => mAd_h hl
  obtain ⟨e1, e2, e3⟩ := rHs_e.mp cH
  refine ⟨⟨?_, ?_, ?_⟩, rHs_e.mpr ⟨mAd_E e1 hl, by rw [List.length_append]; show LH.length + 1 ≤ 16; omega, fun w hw => ?_⟩, rRw_c cR' fun k hk => ho k (by omega) (by omega), rSc_c cS fun k hk => ho k (by omega) (by omega), rDk_c ?_ fun k hk => ho k (by omega) (by omega), rCt_c ?_ fun k hk => ho k (by omega) (by omega), rSz_c ?_ fun k hk => ho k (by omega) (by omega), rLw_c ?_ fun k hk => ho k (by omega) (by omega)⟩
  · rw [vi_rs_o (by decide), vi_rs_s, vi_rs_s]
    exact rOK_add o1
  · rw [vi_rs_o (by decide), vi_rs_o (by decide), vi_rs_o (by decide), vi_rs_o (by decide)]; exact o2
  · rw [vi_rs_o (by decide), vi_rs_o (by decide), vi_rs_o (by decide), vi_rs_o (by decide)]; exact o3
  · rw [ho 96 (by omega) (by omega), ho 97 (by omega) (by omega), ho 98 (by omega) (by omega)]
    rcases List.mem_append.mp hw with hw | hw
    · exact e3 w hw
    · rw [List.mem_singleton.mp hw]
      exact ⟨hg, hp⟩
  · rw [vi_rs_o (by decide), vi_rs_o (by decide)]; exact cD
  · rw [vi_rs_o (by decide), vi_rs_o (by decide)]; exact cC
  · rw [vi_rs_o (by decide), vi_rs_o (by decide)]; exact cZ
  · rw [vi_rs_o (by decide), vi_rs_o (by decide), vi_rs_o (by decide), vi_rs_o (by decide)]; exact cL
theorem mIh_c {M M' : vi_M} (h : M' 114 = M 114) {a u v s k t : Int} (hc : mIh M a u v s k t) : mIh M' a u v s k t := by
  unfold mIh mIp at *
  rw [h]
  exact hc
theorem poke_b {f g : Nat → Int} (hs : rSz f g) {b u v e p : Int} : (gPl (g 8) (g 9) (g 10) b u v && decide (0 ≤ e ∧ e ≤ 1 ∧ 1 ≤ p ∧ p ≤ 6)) = true ↔ mIb f b u v = true ∧ (0 ≤ e ∧ e ≤ 1) ∧ (1 ≤ p ∧ p ≤ 6) := by
  rw [Bool.and_eq_true, decide_eq_true_iff, gPl_f hs]
  exact ⟨fun ⟨h1, h2⟩ => ⟨h1, ⟨h2.1, h2.2.1⟩, h2.2.2⟩, fun ⟨h1, h2, h3⟩ => ⟨h1, h2.1, h2.2, h3⟩⟩
end
