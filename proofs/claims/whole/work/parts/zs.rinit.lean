/-! PRINTED BY wip/whole/gen/pj.py: what the reference's constructor lays, as one list. -/
theorem ywO_c {w : vi_W} {o : Nat × Nat × Nat × Int × (Nat → Int)} {r : List (Nat × Nat × Nat × Int × (Nat → Int))} : ywO w (o :: r) = ywO (ywO1 w o) r := rfl
theorem ylow {b p : Nat} (h : p < b) : ∀ L : List (Nat × Nat × Nat × Int × (Nat → Int)), L.all (fun o => Nat.ble b o.2.1) = true → ∀ w : vi_W, (ywO w L).1.1 p = w.1.1 p ∧ (ywO w L).1.2.1 p = w.1.2.1 p ∧ ∀ k, (ywO w L).1.2.2 p k = w.1.2.2 p k := by
  intro L
  induction L with
  | nil => intro _ w; exact ⟨rfl, rfl, fun k => rfl⟩
  | cons o r ih =>
    intro hL w
    rw [List.all_cons, Bool.and_eq_true] at hL
    have hb : b ≤ o.2.1 := Nat.le_of_ble_eq_true hL.1
    obtain ⟨a1, a2, a3⟩ := ih hL.2 (ywO1 w o)
    have : (ywO1 w o).1.1 p = w.1.1 p ∧ (ywO1 w o).1.2.1 p = w.1.2.1 p ∧ ∀ k, (ywO1 w o).1.2.2 p k = w.1.2.2 p k := by
      obtain ⟨c, q, j, v, g⟩ := o
      have hq : p ≠ q := by have : b ≤ q := hb; omega
      match c with
      | 0 => exact ⟨yn1o hq, yn2o hq, fun k => congrFun (yn3o hq) k⟩
      | 1 => exact ⟨rfl, rfl, fun k => yf3a hq⟩
      | c + 2 => exact ⟨rfl, rfl, fun k => rfl⟩
    exact ⟨a1.trans this.1, a2.trans this.2.1, fun k => (a3 k).trans (this.2.2 k)⟩
def lR0 : List (Nat × Nat × Nat × Int × (Nat → Int)) := [(0, 113, 1, 7, fun _ => 0), (1, 112, 2, 113, fun _ => 0), (0, 114, 1, 5103, fun _ => 0), (1, 112, 3, 114, fun _ => 0), (0, 115, 1, 10206, fun _ => 0), (1, 112, 4, 115, fun _ => 0), (0, 116, 4, 2, fun _ => 0), (1, 112, 5, 116, fun _ => 0), (0, 117, 3, 54, (vi_u (vi_u (vi_u (vi_u (vi_u (vi_u (vi_u (vi_u (vi_u (vi_u (vi_u (vi_u (vi_u (vi_u (vi_u (vi_u (vi_u (vi_u (vi_u (vi_u (vi_u (vi_u (vi_u (vi_u (vi_u (vi_u (vi_u (vi_u (vi_u (vi_u (vi_u (vi_u (vi_u (vi_u (vi_u (vi_u (vi_u (vi_u (vi_u (vi_u (vi_u (vi_u (vi_u (vi_u (vi_u (vi_u (vi_u (vi_u (vi_u (vi_u (vi_u (vi_u (vi_u (vi_u (fun _ => 0) 0 119) 1 101) 2 105) 3 103) 4 104) 5 115) 6 32) 7 116) 8 97) 9 107) 10 101) 11 115) 12 32) 13 115) 14 104) 15 117) 16 116) 17 115) 18 32) 19 105) 20 102) 21 32) 22 111) 23 114) 24 32) 25 97) 26 110) 27 100) 28 32) 29 110) 30 111) 31 116) 32 32) 33 120) 34 32) 35 121) 36 32) 37 122) 38 32) 39 104) 40 111) 41 108) 42 101) 43 115) 44 32) 45 114) 46 105) 47 110) 48 100) 49 32) 50 100) 51 97) 52 121) 53 32)), (1, 112, 7, 117, fun _ => 0), (0, 118, 3, 400, fun _ => 0), (1, 112, 8, 118, fun _ => 0), (0, 119, 1, 5, fun _ => 0), (1, 112, 9, 119, fun _ => 0)]
theorem n_238s0 {d m : Nat} {Y : vi_Y} {M : vi_M} {Q : Option vi_V → vi_W → Prop} (h0 : Y.1 112 = 32) (hq : vi_ok GG d 238 379 [some (.inr (.inr 112)), none] [] (ywO (Y, M, 113, m) lR0) Q) : vi_ok GG d 238 4 [some (.inr (.inr 112)), none] [] (Y, M, 113, m) Q := by
  refine n_238_0 (n := 113) h0 (by omega) ?_
  have h1 := @yk _ 112 113 1 7 2 113 32 h0 (by omega)
  refine n_238_1 (n := 114) h1 (by omega) ?_
  have h2 := @yk _ 112 114 1 5103 3 114 32 h1 (by omega)
  refine n_238_2 (n := 115) h2 (by omega) ?_
  have h3 := @yk _ 112 115 1 10206 4 115 32 h2 (by omega)
  refine n_238_3 (n := 116) h3 (by omega) ?_
  have h4 := @yk _ 112 116 4 2 5 116 32 h3 (by omega)
  refine n_238_4 (n := 117) h4 (by omega) ?_
  have h5 := @yk _ 112 117 3 54 7 117 32 h4 (by omega)
  refine n_238_5 (n := 118) h5 (by omega) ?_
  have h6 := @yk _ 112 118 3 400 8 118 32 h5 (by omega)
  refine n_238_6 (n := 119) h6 (by omega) ?_
  have h7 := @yk _ 112 119 1 5 9 119 32 h6 (by omega)
  exact hq
def lR1 : List (Nat × Nat × Nat × Int × (Nat → Int)) := [(2, 112, 11, -1, fun _ => 0), (0, 120, 1, 401, fun _ => 0), (1, 112, 12, 120, fun _ => 0), (0, 121, 1, 401, fun _ => 0), (1, 112, 13, 121, fun _ => 0), (0, 122, 1, 401, fun _ => 0), (1, 112, 14, 122, fun _ => 0), (0, 123, 1, 6, fun _ => 0), (1, 112, 22, 123, fun _ => 0), (0, 124, 1, 216, fun _ => 0), (1, 112, 26, 124, fun _ => 0), (0, 125, 1, 216, fun _ => 0), (1, 112, 27, 125, fun _ => 0)]
theorem n_238s1 {d m : Nat} {Y : vi_Y} {M : vi_M} {Q : Option vi_V → vi_W → Prop} (h0 : Y.1 112 = 32) (hq : vi_ok GG d 238 437 [some (.inr (.inr 112)), none] [] (ywO (Y, M, 120, m) lR1) Q) : vi_ok GG d 238 379 [some (.inr (.inr 112)), none] [] (Y, M, 120, m) Q := by
  refine n_238_7 (n := 120) h0 ?_
  refine n_238_8 (n := 120) h0 (by omega) ?_
  have h1 := @yk _ 112 120 1 401 12 120 32 h0 (by omega)
  refine n_238_9 (n := 121) h1 (by omega) ?_
  have h2 := @yk _ 112 121 1 401 13 121 32 h1 (by omega)
  refine n_238_10 (n := 122) h2 (by omega) ?_
  have h3 := @yk _ 112 122 1 401 14 122 32 h2 (by omega)
  refine n_238_11 (n := 123) h3 (by omega) ?_
  have h4 := @yk _ 112 123 1 6 22 123 32 h3 (by omega)
  refine n_238_12 (n := 124) h4 (by omega) ?_
  have h5 := @yk _ 112 124 1 216 26 124 32 h4 (by omega)
  refine n_238_13 (n := 125) h5 (by omega) ?_
  have h6 := @yk _ 112 125 1 216 27 125 32 h5 (by omega)
  exact hq
def lR2 : List (Nat × Nat × Nat × Int × (Nat → Int)) := [(0, 126, 4, 216, fun _ => 0), (1, 112, 28, 126, fun _ => 0), (0, 127, 4, 216, fun _ => 0), (1, 112, 29, 127, fun _ => 0), (2, 112, 30, -1, fun _ => 0), (0, 128, 1, 216, fun _ => 0), (1, 112, 31, 128, fun _ => 0), (0, 129, 1, 216, fun _ => 0), (1, 112, 32, 129, fun _ => 0), (0, 130, 1, 108, fun _ => 0), (1, 112, 33, 130, fun _ => 0), (0, 131, 1, 108, fun _ => 0), (1, 112, 34, 131, fun _ => 0)]
theorem n_238s2 {d m : Nat} {Y : vi_Y} {M : vi_M} {Q : Option vi_V → vi_W → Prop} (h0 : Y.1 112 = 32) (hq : vi_ok GG d 238 494 [some (.inr (.inr 112)), none] [] (ywO (Y, M, 126, m) lR2) Q) : vi_ok GG d 238 437 [some (.inr (.inr 112)), none] [] (Y, M, 126, m) Q := by
  refine n_238_14 (n := 126) h0 (by omega) ?_
  have h1 := @yk _ 112 126 4 216 28 126 32 h0 (by omega)
  refine n_238_15 (n := 127) h1 (by omega) ?_
  have h2 := @yk _ 112 127 4 216 29 127 32 h1 (by omega)
  refine n_238_16 (n := 128) h2 ?_
  refine n_238_17 (n := 128) h2 (by omega) ?_
  have h3 := @yk _ 112 128 1 216 31 128 32 h2 (by omega)
  refine n_238_18 (n := 129) h3 (by omega) ?_
  have h4 := @yk _ 112 129 1 216 32 129 32 h3 (by omega)
  refine n_238_19 (n := 130) h4 (by omega) ?_
  have h5 := @yk _ 112 130 1 108 33 130 32 h4 (by omega)
  refine n_238_20 (n := 131) h5 (by omega) ?_
  have h6 := @yk _ 112 131 1 108 34 131 32 h5 (by omega)
  exact hq
def lR3 : List (Nat × Nat × Nat × Int × (Nat → Int)) := [(0, 132, 1, 108, fun _ => 0), (1, 112, 35, 132, fun _ => 0), (0, 133, 1, 216, fun _ => 0), (1, 112, 36, 133, fun _ => 0), (0, 134, 4, 216, fun _ => 0), (1, 112, 37, 134, fun _ => 0), (0, 135, 1, 216, fun _ => 0), (1, 112, 38, 135, fun _ => 0), (2, 112, 42, -1, fun _ => 0), (0, 136, 4, 216, fun _ => 0), (1, 112, 47, 136, fun _ => 0), (0, 137, 1, 108, fun _ => 0), (1, 112, 48, 137, fun _ => 0)]
theorem n_238s3 {d m : Nat} {Y : vi_Y} {M : vi_M} {Q : Option vi_V → vi_W → Prop} (h0 : Y.1 112 = 32) (hq : vi_ok GG d 238 551 [some (.inr (.inr 112)), none] [] (ywO (Y, M, 132, m) lR3) Q) : vi_ok GG d 238 494 [some (.inr (.inr 112)), none] [] (Y, M, 132, m) Q := by
  refine n_238_21 (n := 132) h0 (by omega) ?_
  have h1 := @yk _ 112 132 1 108 35 132 32 h0 (by omega)
  refine n_238_22 (n := 133) h1 (by omega) ?_
  have h2 := @yk _ 112 133 1 216 36 133 32 h1 (by omega)
  refine n_238_23 (n := 134) h2 (by omega) ?_
  have h3 := @yk _ 112 134 4 216 37 134 32 h2 (by omega)
  refine n_238_24 (n := 135) h3 (by omega) ?_
  have h4 := @yk _ 112 135 1 216 38 135 32 h3 (by omega)
  refine n_238_25 (n := 136) h4 ?_
  refine n_238_26 (n := 136) h4 (by omega) ?_
  have h5 := @yk _ 112 136 4 216 47 136 32 h4 (by omega)
  refine n_238_27 (n := 137) h5 (by omega) ?_
  have h6 := @yk _ 112 137 1 108 48 137 32 h5 (by omega)
  exact hq
def lR4 : List (Nat × Nat × Nat × Int × (Nat → Int)) := [(0, 138, 1, 144, fun _ => 0), (1, 112, 49, 138, fun _ => 0), (0, 139, 4, 4096, fun _ => 0), (1, 112, 50, 139, fun _ => 0), (0, 140, 1, 64, fun _ => 0), (1, 112, 51, 140, fun _ => 0), (0, 141, 1, 64, fun _ => 0), (1, 112, 52, 141, fun _ => 0), (0, 142, 1, 4096, fun _ => 0), (1, 112, 53, 142, fun _ => 0), (0, 143, 1, 128, fun _ => 0), (1, 112, 54, 143, fun _ => 0), (0, 144, 1, 128, fun _ => 0), (1, 112, 55, 144, fun _ => 0)]
theorem n_238s4 {d m : Nat} {Y : vi_Y} {M : vi_M} {Q : Option vi_V → vi_W → Prop} (h0 : Y.1 112 = 32) (hq : vi_ok GG d 238 612 [some (.inr (.inr 112)), none] [] (ywO (Y, M, 138, m) lR4) Q) : vi_ok GG d 238 551 [some (.inr (.inr 112)), none] [] (Y, M, 138, m) Q := by
  refine n_238_28 (n := 138) h0 (by omega) ?_
  have h1 := @yk _ 112 138 1 144 49 138 32 h0 (by omega)
  refine n_238_29 (n := 139) h1 (by omega) ?_
  have h2 := @yk _ 112 139 4 4096 50 139 32 h1 (by omega)
  refine n_238_30 (n := 140) h2 (by omega) ?_
  have h3 := @yk _ 112 140 1 64 51 140 32 h2 (by omega)
  refine n_238_31 (n := 141) h3 (by omega) ?_
  have h4 := @yk _ 112 141 1 64 52 141 32 h3 (by omega)
  refine n_238_32 (n := 142) h4 (by omega) ?_
  have h5 := @yk _ 112 142 1 4096 53 142 32 h4 (by omega)
  refine n_238_33 (n := 143) h5 (by omega) ?_
  have h6 := @yk _ 112 143 1 128 54 143 32 h5 (by omega)
  refine n_238_34 (n := 144) h6 (by omega) ?_
  have h7 := @yk _ 112 144 1 128 55 144 32 h6 (by omega)
  exact hq
def lR5 : List (Nat × Nat × Nat × Int × (Nat → Int)) := [(0, 145, 1, 14, fun _ => 0), (1, 112, 56, 145, fun _ => 0), (0, 146, 4, 229376, fun _ => 0), (1, 112, 57, 146, fun _ => 0), (0, 147, 1, 8, fun _ => 0), (1, 112, 58, 147, fun _ => 0), (0, 148, 1, 823543, fun _ => 0), (1, 112, 59, 148, fun _ => 0), (0, 149, 1, 6, fun _ => 0), (1, 112, 60, 149, fun _ => 0), (0, 150, 1, 60, fun _ => 0), (1, 112, 61, 150, fun _ => 0)]
theorem n_238s5 {d m : Nat} {Y : vi_Y} {M : vi_M} {Q : Option vi_V → vi_W → Prop} (h0 : Y.1 112 = 32) (hq : vi_ok GG d 238 660 [some (.inr (.inr 112)), none] [] (ywO (Y, M, 145, m) lR5) Q) : vi_ok GG d 238 612 [some (.inr (.inr 112)), none] [] (Y, M, 145, m) Q := by
  refine n_238_35 (n := 145) h0 (by omega) ?_
  have h1 := @yk _ 112 145 1 14 56 145 32 h0 (by omega)
  refine n_238_36 (n := 146) h1 (by omega) ?_
  have h2 := @yk _ 112 146 4 229376 57 146 32 h1 (by omega)
  refine n_238_37 (n := 147) h2 (by omega) ?_
  have h3 := @yk _ 112 147 1 8 58 147 32 h2 (by omega)
  refine n_238_38 (n := 148) h3 (by omega) ?_
  have h4 := @yk _ 112 148 1 823543 59 148 32 h3 (by omega)
  refine n_238_39 (n := 149) h4 (by omega) ?_
  have h5 := @yk _ 112 149 1 6 60 149 32 h4 (by omega)
  refine n_238_40 (n := 150) h5 (by omega) ?_
  have h6 := @yk _ 112 150 1 60 61 150 32 h5 (by omega)
  exact hq
def lR : List (Nat × Nat × Nat × Int × (Nat → Int)) := (0, 112, 32, 64, fun _ => 0) :: (lR0 ++ (lR1 ++ (lR2 ++ (lR3 ++ (lR4 ++ (lR5))))))
theorem lR_K : yoK lR = true := by decide +kernel
theorem lR_112 : yoC lR 112 = true := by decide +kernel
theorem lR_113 : yoC lR 113 = true := by decide +kernel
theorem lR_114 : yoC lR 114 = true := by decide +kernel
theorem lR_115 : yoC lR 115 = true := by decide +kernel
theorem lR_116 : yoC lR 116 = true := by decide +kernel
theorem lR_117 : yoC lR 117 = true := by decide +kernel
theorem lR_118 : yoC lR 118 = true := by decide +kernel
theorem lR_119 : yoC lR 119 = true := by decide +kernel
theorem lR_120 : yoC lR 120 = true := by decide +kernel
theorem lR_121 : yoC lR 121 = true := by decide +kernel
theorem lR_122 : yoC lR 122 = true := by decide +kernel
theorem lR_123 : yoC lR 123 = true := by decide +kernel
theorem lR_124 : yoC lR 124 = true := by decide +kernel
theorem lR_125 : yoC lR 125 = true := by decide +kernel
theorem lR_126 : yoC lR 126 = true := by decide +kernel
theorem lR_127 : yoC lR 127 = true := by decide +kernel
theorem lR_128 : yoC lR 128 = true := by decide +kernel
theorem lR_129 : yoC lR 129 = true := by decide +kernel
theorem lR_130 : yoC lR 130 = true := by decide +kernel
theorem lR_131 : yoC lR 131 = true := by decide +kernel
theorem lR_132 : yoC lR 132 = true := by decide +kernel
theorem lR_133 : yoC lR 133 = true := by decide +kernel
theorem lR_134 : yoC lR 134 = true := by decide +kernel
theorem lR_135 : yoC lR 135 = true := by decide +kernel
theorem lR_136 : yoC lR 136 = true := by decide +kernel
theorem lR_137 : yoC lR 137 = true := by decide +kernel
theorem lR_138 : yoC lR 138 = true := by decide +kernel
theorem lR_139 : yoC lR 139 = true := by decide +kernel
theorem lR_140 : yoC lR 140 = true := by decide +kernel
theorem lR_141 : yoC lR 141 = true := by decide +kernel
theorem lR_142 : yoC lR 142 = true := by decide +kernel
theorem lR_143 : yoC lR 143 = true := by decide +kernel
theorem lR_144 : yoC lR 144 = true := by decide +kernel
theorem lR_145 : yoC lR 145 = true := by decide +kernel
theorem lR_146 : yoC lR 146 = true := by decide +kernel
theorem lR_147 : yoC lR 147 = true := by decide +kernel
theorem lR_148 : yoC lR 148 = true := by decide +kernel
theorem lR_149 : yoC lR 149 = true := by decide +kernel
theorem lR_150 : yoC lR 150 = true := by decide +kernel
theorem lR_Y {w : vi_W} (hY : kY w.1 112) : kY (ywO w lR).1 151 := by
  intro p h1 h2
  by_cases h : p < 112
  · have e : ∀ L : List (Nat × Nat × Nat × Int × (Nat → Int)), L.all (fun o => Nat.ble 112 o.2.1) = true → ∀ w : vi_W, (ywO w L).1.1 p = w.1.1 p ∧ (ywO w L).1.2.1 p = w.1.2.1 p ∧ ∀ k, (ywO w L).1.2.2 p k = w.1.2.2 p k := ylow h
    obtain ⟨e1, e2, e3⟩ := e lR (by decide +kernel) w
    obtain ⟨f1, f2, f3⟩ := hY p h1 h
    exact ⟨e1.trans f1, e2.trans f2, fun k => (e3 k).trans (f3 k)⟩
  · have e : ∀ q, q < 39 → yoC lR (112 + q) = true := by
      intro q hq
      match q, hq with
      | 0, _ => exact lR_112
      | 1, _ => exact lR_113
      | 2, _ => exact lR_114
      | 3, _ => exact lR_115
      | 4, _ => exact lR_116
      | 5, _ => exact lR_117
      | 6, _ => exact lR_118
      | 7, _ => exact lR_119
      | 8, _ => exact lR_120
      | 9, _ => exact lR_121
      | 10, _ => exact lR_122
      | 11, _ => exact lR_123
      | 12, _ => exact lR_124
      | 13, _ => exact lR_125
      | 14, _ => exact lR_126
      | 15, _ => exact lR_127
      | 16, _ => exact lR_128
      | 17, _ => exact lR_129
      | 18, _ => exact lR_130
      | 19, _ => exact lR_131
      | 20, _ => exact lR_132
      | 21, _ => exact lR_133
      | 22, _ => exact lR_134
      | 23, _ => exact lR_135
      | 24, _ => exact lR_136
      | 25, _ => exact lR_137
      | 26, _ => exact lR_138
      | 27, _ => exact lR_139
      | 28, _ => exact lR_140
      | 29, _ => exact lR_141
      | 30, _ => exact lR_142
      | 31, _ => exact lR_143
      | 32, _ => exact lR_144
      | 33, _ => exact lR_145
      | 34, _ => exact lR_146
      | 35, _ => exact lR_147
      | 36, _ => exact lR_148
      | 37, _ => exact lR_149
      | 38, _ => exact lR_150
      | q + 39, h => exact absurd h (by omega)
    have := @yoC_Y w lR p lR_K (by have := e (p - 112) (by omega); rw [show 112 + (p - 112) = p by omega] at this; exact this)
    exact this
theorem n_238 {d m : Nat} {Y : vi_Y} {M : vi_M} {Q : Option vi_V → vi_W → Prop} (hq : vi_ok GG d 238 660 [some (.inr (.inr 112)), none] [] (ywO (Y, M, 112, m) lR) Q) : vi_ok GG d 238 4 [some (.inr (.inr 112)), none] [] (ywO (Y, M, 112, m) [(0, 112, 32, 64, fun _ => 0)]) Q := by
  show vi_ok GG d 238 4 _ _ (vi_ynew Y 112 32 64, vi_rs M 112 (fun _ => 0), 113, m + 64) Q
  have h0 : (vi_ynew Y 112 32 64).1 112 = 32 := yn1
  rw [lR, ywO_c, show ywO1 (Y, M, 112, m) (0, 112, 32, 64, fun _ => 0) = (vi_ynew Y 112 32 64, vi_rs M 112 (fun _ => 0), 113, m + 64) from rfl] at hq
  simp only [ywO_a] at hq
  refine n_238s0 h0 ?_
  obtain ⟨w0, e0⟩ : ∃ w, w = ywO (vi_ynew Y 112 32 64, vi_rs M 112 (fun _ => 0), 113, m + 64) lR0 := ⟨_, rfl⟩
  have h1 : w0.1.1 112 = 32 := by rw [e0, ywO_T]; show yoT 112 ((vi_ynew Y 112 32 64).1 112) lR0 = 32; rw [h0]; decide +kernel
  have n0 : w0.2.2.1 = 120 := by rw [e0]; rfl
  rw [← e0] at hq
  show vi_ok GG d 238 379 _ _ (ywO _ _) Q
  rw [← e0]
  have r0 : ((w0.1, w0.2.1, 120, w0.2.2.2) : vi_W) = w0 := by rw [← n0]
  rw [← r0]
  clear e0
  refine n_238s1 h1 ?_
  obtain ⟨w1, e1⟩ : ∃ w, w = ywO w0 lR1 := ⟨_, rfl⟩
  have h2 : w1.1.1 112 = 32 := by rw [e1, ywO_T]; show yoT 112 (w0.1.1 112) lR1 = 32; rw [h1]; decide +kernel
  have n1 : w1.2.2.1 = 126 := by rw [e1, ← r0]; rfl
  rw [← e1] at hq
  show vi_ok GG d 238 437 _ _ (ywO _ _) Q
  rw [r0, ← e1]
  have r1 : ((w1.1, w1.2.1, 126, w1.2.2.2) : vi_W) = w1 := by rw [← n1]
  rw [← r1]
  clear e1
  refine n_238s2 h2 ?_
  obtain ⟨w2, e2⟩ : ∃ w, w = ywO w1 lR2 := ⟨_, rfl⟩
  have h3 : w2.1.1 112 = 32 := by rw [e2, ywO_T]; show yoT 112 (w1.1.1 112) lR2 = 32; rw [h2]; decide +kernel
  have n2 : w2.2.2.1 = 132 := by rw [e2, ← r1]; rfl
  rw [← e2] at hq
  show vi_ok GG d 238 494 _ _ (ywO _ _) Q
  rw [r1, ← e2]
  have r2 : ((w2.1, w2.2.1, 132, w2.2.2.2) : vi_W) = w2 := by rw [← n2]
  rw [← r2]
  clear e2
  refine n_238s3 h3 ?_
  obtain ⟨w3, e3⟩ : ∃ w, w = ywO w2 lR3 := ⟨_, rfl⟩
  have h4 : w3.1.1 112 = 32 := by rw [e3, ywO_T]; show yoT 112 (w2.1.1 112) lR3 = 32; rw [h3]; decide +kernel
  have n3 : w3.2.2.1 = 138 := by rw [e3, ← r2]; rfl
  rw [← e3] at hq
  show vi_ok GG d 238 551 _ _ (ywO _ _) Q
  rw [r2, ← e3]
  have r3 : ((w3.1, w3.2.1, 138, w3.2.2.2) : vi_W) = w3 := by rw [← n3]
  rw [← r3]
  clear e3
  refine n_238s4 h4 ?_
  obtain ⟨w4, e4⟩ : ∃ w, w = ywO w3 lR4 := ⟨_, rfl⟩
  have h5 : w4.1.1 112 = 32 := by rw [e4, ywO_T]; show yoT 112 (w3.1.1 112) lR4 = 32; rw [h4]; decide +kernel
  have n4 : w4.2.2.1 = 145 := by rw [e4, ← r3]; rfl
  rw [← e4] at hq
  show vi_ok GG d 238 612 _ _ (ywO _ _) Q
  rw [r3, ← e4]
  have r4 : ((w4.1, w4.2.1, 145, w4.2.2.2) : vi_W) = w4 := by rw [← n4]
  rw [← r4]
  clear e4
  refine n_238s5 h5 ?_
  rw [r4]
  exact hq
