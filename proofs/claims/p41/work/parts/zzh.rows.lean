/-! What is held, over rows that are alike; entries added, taken out, let go. -/
/-- the class's rows: an entry more, one less -/
def vV (a u v e p l : Int) : Nat → Int := fun j => if j = 0 then a else if j = 1 then u else if j = 2 then v else if j = 3 then e else if j = 4 then p else l
theorem rOK_add {f g : Nat → Int} {L : List (Nat → Int)} {v : Nat → Int} (h : rOK f g L) : rOK (vi_u f 2 ((L.length + 1 : Nat) : Int)) (rPut g L.length v) (L ++ [v]) := by
  refine ⟨by rw [vi_u_s, List.length_append]; rfl, fun r j hr hj => ?_⟩
  rw [List.length_append] at hr
  have hr : r < L.length + 1 := hr
  unfold rPut
  by_cases e : r = L.length
  · subst e
    rw [if_pos (by omega), show 6 * L.length + j - 6 * L.length = j by omega, rL_r]
  · rw [if_neg (by omega), rL_l (by omega)]
    exact h.2 r j (by omega) hj
