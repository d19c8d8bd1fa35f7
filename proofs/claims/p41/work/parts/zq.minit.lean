/-! PRINTED BY wip/whole/gen/pi.py: the reference laid (238), as far as its loop. -/
section
variable {d m : Nat} {Y : vi_Y} {M : vi_M} {Q : Option vi_V → vi_W → Prop}
theorem yk {Y : vi_Y} {q n t l f : Nat} {v : Int} {g : Nat} (h : Y.1 q = g) (hn : q ≠ n) : (vi_yfin (vi_ynew Y n t l) q f v).1 q = g := by rw [yf1, yn1o hn]; exact h
end
