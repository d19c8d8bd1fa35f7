/-! pieces (reference): how many CELLS a piece has, its lowest. -/
theorem sPi_n : ∀ (f k : Nat) (T : Nat → Bool) (i w : Int), ¬ ((k : Int) ≤ i ∧ i < ((k + sPc f T : Nat) : Int)) → sPi f k T i w = -1
  | 0, _, _, _, _, _ => rfl
  | f + 1, k, T, i, w, h => by
    rw [sPi]
    rw [sPc] at h
    cases he : sE T
    · rw [if_neg (by simp)]
      rw [he, if_neg (by simp)] at h
      rw [if_neg (by omega)]
      exact sPi_n f (k + 1) (sTl T) i w (by omega)
    · rw [if_pos rfl]
/-- what was looked stays, where these rows stay -/
theorem mSee_c {M M' : vi_M} {lw : Option (List gCla)} {n : Nat} (h : mSee M lw n) (h114 : M' 114 = M 114) (h124 : M' 124 = M 124) (h125 : M' 125 = M 125) (h126 : M' 126 = M 126) (h127 : M' 127 = M 127) (hv : M' 112 30 = M' 112 1) : mSee M' lw n := by
  obtain ⟨h1, h2, h3, h4, h5⟩ := h
  refine ⟨fun _ _ _ _ _ _ _ => rfl, fun _ _ _ _ _ _ _ _ => rfl, hv, fun c hc => by rw [h124, h114]; exact h4 c hc, fun c hc => ?_⟩
  rw [h126, h125, h127, h114, mLf_c h114, mT_c h114]
  exact h5 c hc
theorem mSee_l {M : vi_M} {lw : Option (List gCla)} {n : Nat} (h : mSee M lw n) {c : Nat} (hc : c < 216) : M 126 c = vi_b (mLf M lw n c) := (h.2.2.2.2 c hc).1
section
variable {D : Nat} {K : Option vi_V → vi_W → Prop} {Y : vi_Y} {M : vi_M} {nn : Nat × Nat} {Q : Option vi_V → vi_W → Prop}
end
