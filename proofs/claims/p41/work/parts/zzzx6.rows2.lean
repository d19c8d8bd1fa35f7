/-! The property of its own: all rows. -/
section
variable {d ln : Nat} {Y : vi_Y} {nn : Nat × Nat} {v x y z t fl fo : Int} {L : List (Nat → Int)} {lw : Option (List gCla)} {g : Nat → Int} {S O : Nat → Bool} {Q : Option vi_V → vi_W → Prop}
/-- what stands while rows are told -/
def lwR (x y z t fo : Int) (L : List (Nat → Int)) (lw : Option (List gCla)) (g : Nat → Int) (S O : Nat → Bool) (M : vi_M) (R : List (Nat → Int)) : Prop := R.length ≤ 8 ∧ wS M x y z t L R lw 1 fo ∧ lwD M g S O
theorem lw_543a (hY : lwY Y ln) (r0 : g 0 = x) (r1 : g 1 = y) (r2 : g 2 = z) (hSe : S = lfS (fK x y z t L) lw L.length) {a6 a7 a8 a9 : Int} {a u : Nat} (ha : a < 3) (hu : u < 6)
    (hQ : ∀ M R, lwR x y z t fo L lw g S O M R → ∀ (a14 : Int) l15 l16 l17 l18 l19 l20 l21 l22 l23 l24 l25, vi_ok GG (d + 72) 0 778 [some (.inr (.inr 1)), some (.inr (.inr 29)), some (.inr (.inr 112)), some (.inl v), some (.inr (.inr 125)), some (.inr (.inr 126)), some (.inl a6), some (.inl a7), some (.inl a8), some (.inl a9), some (.inl (R.length : Int)), some (.inl (jgN (fK x y z t L) S R R.length 0)), some (.inl (a : Int)), some (.inl (u : Int)), some (.inl a14), l15, l16, l17, l18, l19, l20, l21, l22, l23, l24, l25] [] (Y, M, nn) Q) :
    ∀ w : Nat, w ≤ 6 → ∀ M R, lwR x y z t fo L lw g S O M R → ∀ l15 l16 l17 l18 l19 l20 l21 l22 l23 l24 l25, vi_ok GG (d + 72) 0 543 [some (.inr (.inr 1)), some (.inr (.inr 29)), some (.inr (.inr 112)), some (.inl v), some (.inr (.inr 125)), some (.inr (.inr 126)), some (.inl a6), some (.inl a7), some (.inl a8), some (.inl a9), some (.inl (R.length : Int)), some (.inl (jgN (fK x y z t L) S R R.length 0)), some (.inl (a : Int)), some (.inl (u : Int)), some (.inl (w : Int)), l15, l16, l17, l18, l19, l20, l21, l22, l23, l24, l25] [] (Y, M, nn) Q := by
  have hY' := hY
  obtain ⟨⟨y1, y2⟩, -, ⟨t1, t2⟩, -, -⟩ := hY'
  have h29 := y2.1
  refine vi_dn 6 ?_ ?_
  · intro M R hW l15 l16 l17 l18 l19 l20 l21 l22 l23 l24 l25
    have q := hQ M R hW ((6 : Nat) : Int) l15 l16 l17 l18 l19 l20 l21 l22 l23 l24 l25
    rw [s_0_543]
    clear hQ hW
    simp (disch := omega) only [Option.toList_some, Option.toList_none, List.nil_append, List.cons_append, List.append_nil, true_and, and_true, not_true_eq_false, not_false_eq_true, true_implies, false_implies, implies_true, and_self, Int.reduceLT, Int.reduceLE, Int.reduceEq, Int.reduceNe, Int.reduceAdd, Int.reduceSub, Int.reduceMul, Int.reduceNeg, Int.reduceToNat, Int.toNat_natCast, ↓kk_ck, ↓kk_im, ↓kk_in]
    exact q
  · intro w hw ih M R hW l15 l16 l17 l18 l19 l20 l21 l22 l23 l24 l25
    obtain ⟨hR, hS, hD⟩ := hW
    have hb : gB x y z := hS.1.2.2.1.2.2.2.2.1
    have hM := hD.1
    have mib : mIb (fK x y z t L) (a : Int) (u : Int) (w : Int) = gPl x y z (a : Int) (u : Int) (w : Int) := hc_ib
    have k202 : ∀ K : Option vi_V → vi_W → Prop, vi_call GG (d + 72) 202 [.inr (.inr 29), .inl (a : Int), .inl (u : Int), .inl (w : Int)] (Y, M, nn) K ↔ K (some (.inl (if gPl x y z (a : Int) (u : Int) (w : Int) = true then (rwN (fK x y z t L) S (a : Int) (u : Int) (w : Int) : Int) else -1))) (Y, M, nn) := fun K => by
      have := @k_202 L.length (d + 2) lw Y M nn K y1 y2 (fK x y z t L) (pP_z hS.1) hS.2 (a : Int) (u : Int) (w : Int)
      rw [mib, ← hSe] at this
      exact this
    refine lw_543 hY hM hb r0 r1 r2 ha hu hw fun l18 l19 l20 l21 l22 l23 l24 l25 => ?_
    have back : ∀ M' R', lwR x y z t fo L lw g S O M' R' → ∀ (a15 a16 a17 : Int) l18 l19 l20 l21 l22 l23 l24 l25, vi_ok GG (d + 72) 0 772 [some (.inr (.inr 1)), some (.inr (.inr 29)), some (.inr (.inr 112)), some (.inl v), some (.inr (.inr 125)), some (.inr (.inr 126)), some (.inl a6), some (.inl a7), some (.inl a8), some (.inl a9), some (.inl (R'.length : Int)), some (.inl (jgN (fK x y z t L) S R' R'.length 0)), some (.inl (a : Int)), some (.inl (u : Int)), some (.inl (w : Int)), some (.inl a15), some (.inl a16), some (.inl a17), l18, l19, l20, l21, l22, l23, l24, l25] [] (Y, M', nn) Q := by
      intro M' R' hW' a15 a16 a17 l18 l19 l20 l21 l22 l23 l24 l25
      have q := ih M' R' hW' (some (.inl a15)) (some (.inl a16)) (some (.inl a17)) l18 l19 l20 l21 l22 l23 l24 l25
      clear ih hQ hS hD hW' k202
      simp (disch := omega) only [Option.toList_some, Option.toList_none, List.nil_append, List.cons_append, List.append_nil, true_and, and_true, not_true_eq_false, not_false_eq_true, true_implies, false_implies, implies_true, and_self, Int.reduceLT, Int.reduceLE, Int.reduceEq, Int.reduceNe, Int.reduceAdd, Int.reduceSub, Int.reduceMul, Int.reduceNeg, Int.reduceToNat, Int.toNat_natCast, ↓kk_ck, ↓kk_im, ↓kk_in, s_0_772, vi_inc]
      exact q
    cases hp : gPl x y z (a : Int) (u : Int) (w : Int) with
    | true =>
      rw [hp, if_pos rfl] at k202
      refine lw_602 hY hM hb r0 r1 r2 (fun j hj => (hD.2 j hj).1) (by omega) (by omega) (by omega) hp (fun l18 l19 l20 l21 l22 l23 l24 l25 k => ?_) 0 ?_ l18 l19 l20 l21 l22 l23 l24 l25
      · have q := lw_675 (d := d) (v := v) (nn := nn) (Q := Q) (a6 := a6) (a7 := a7) (a8 := a8) (a9 := a9) (k := k) (l18 := l18) (l19 := l19) (l20 := l20) (l21 := l21) (l22 := l22) (l23 := l23) (l24 := l24) (l25 := l25) hY hR hS hD hSe ha hu hw hp fun M' R' h1 h2 h3 a15 a16 a17 l18 l19 l20 l21 l22 l23 l24 l25 => back M' R' ⟨h1, h2, h3⟩ a15 a16 a17 l18 l19 l20 l21 l22 l23 l24 l25
        have e : (rwN (fK x y z t L) S (a : Int) (u : Int) (w : Int) : Int) = (sN 6 (fun l => sHas S (gOn x y z (a : Int) (l : Int) (u : Int) (w : Int))) : Int) := rfl
        rw [e] at k202 q
        clear ih hQ hS hD back e
        generalize sN 6 (fun l => sHas S (gOn x y z (a : Int) (l : Int) (u : Int) (w : Int))) = n at *
        simp (disch := omega) only [Option.toList_some, Option.toList_none, List.nil_append, List.cons_append, List.append_nil, true_and, and_true, not_true_eq_false, not_false_eq_true, true_implies, false_implies, implies_true, and_self, Int.reduceLT, Int.reduceLE, Int.reduceEq, Int.reduceNe, Int.reduceAdd, Int.reduceSub, Int.reduceMul, Int.reduceNeg, Int.reduceToNat, Int.toNat_natCast, ↓kk_ck, ↓kk_im, ↓kk_in, s_0_649, s_0_659, s_0_664, s_0_670, h29, k202]
        exact q
      · have : 1 ≤ gSz x y z (a : Int) := by
          obtain ⟨b0, b1, b2⟩ := hb
          unfold gSz
          split
          · exact b0.1
          · split
            · exact b1.1
            · exact b2.1
        omega
    | false =>
      rw [hp, if_neg (by decide)] at k202
      have q := back M R ⟨hR, hS, hD⟩ 0 0 0 l18 l19 l20 l21 l22 l23 l24 l25
      have ga : 1 ≤ M 112 a := by
        rw [hM]
        obtain ⟨b0, b1, b2⟩ := hb
        obtain rfl | rfl | rfl : a = 0 ∨ a = 1 ∨ a = 2 := by omega
        · rw [r0]; exact b0.1
        · rw [r1]; exact b1.1
        · rw [r2]; exact b2.1
      clear ih hQ hS hD back
      rw [s_0_602]
      refine ⟨⟨t1, by omega, by omega⟩, ?_⟩
      rw [Int.toNat_natCast]
      simp (disch := omega) only [Option.toList_some, Option.toList_none, List.nil_append, List.cons_append, List.append_nil, true_and, and_true, not_true_eq_false, not_false_eq_true, true_implies, false_implies, implies_true, and_self, Int.reduceLT, Int.reduceLE, Int.reduceEq, Int.reduceNe, Int.reduceAdd, Int.reduceSub, Int.reduceMul, Int.reduceNeg, Int.reduceToNat, Int.toNat_natCast, ↓kk_ck, ↓kk_im, ↓kk_in, s_0_608, s_0_611, s_0_649, s_0_659, s_0_669, s_0_670, s_0_675, h29, k202, vi_bf]
      exact q
theorem lw_533a (hY : lwY Y ln) (r0 : g 0 = x) (r1 : g 1 = y) (r2 : g 2 = z) (hSe : S = lfS (fK x y z t L) lw L.length) {a6 a7 a8 a9 : Int} {a : Nat} (ha : a < 3)
    (hQ : ∀ M R, lwR x y z t fo L lw g S O M R → ∀ (a13 : Int) l14 l15 l16 l17 l18 l19 l20 l21 l22 l23 l24 l25, vi_ok GG (d + 72) 0 784 [some (.inr (.inr 1)), some (.inr (.inr 29)), some (.inr (.inr 112)), some (.inl v), some (.inr (.inr 125)), some (.inr (.inr 126)), some (.inl a6), some (.inl a7), some (.inl a8), some (.inl a9), some (.inl (R.length : Int)), some (.inl (jgN (fK x y z t L) S R R.length 0)), some (.inl (a : Int)), some (.inl a13), l14, l15, l16, l17, l18, l19, l20, l21, l22, l23, l24, l25] [] (Y, M, nn) Q) :
    ∀ u : Nat, u ≤ 6 → ∀ M R, lwR x y z t fo L lw g S O M R → ∀ l14 l15 l16 l17 l18 l19 l20 l21 l22 l23 l24 l25, vi_ok GG (d + 72) 0 533 [some (.inr (.inr 1)), some (.inr (.inr 29)), some (.inr (.inr 112)), some (.inl v), some (.inr (.inr 125)), some (.inr (.inr 126)), some (.inl a6), some (.inl a7), some (.inl a8), some (.inl a9), some (.inl (R.length : Int)), some (.inl (jgN (fK x y z t L) S R R.length 0)), some (.inl (a : Int)), some (.inl (u : Int)), l14, l15, l16, l17, l18, l19, l20, l21, l22, l23, l24, l25] [] (Y, M, nn) Q := by
  refine vi_dn 6 ?_ ?_
  · intro M R hW l14 l15 l16 l17 l18 l19 l20 l21 l22 l23 l24 l25
    have q := hQ M R hW ((6 : Nat) : Int) l14 l15 l16 l17 l18 l19 l20 l21 l22 l23 l24 l25
    rw [s_0_533]
    clear hQ hW
    simp (disch := omega) only [Option.toList_some, Option.toList_none, List.nil_append, List.cons_append, List.append_nil, true_and, and_true, not_true_eq_false, not_false_eq_true, true_implies, false_implies, implies_true, and_self, Int.reduceLT, Int.reduceLE, Int.reduceEq, Int.reduceNe, Int.reduceAdd, Int.reduceSub, Int.reduceMul, Int.reduceNeg, Int.reduceToNat, Int.toNat_natCast, ↓kk_ck, ↓kk_im, ↓kk_in]
    exact q
  · intro u hu ih M R hW l14 l15 l16 l17 l18 l19 l20 l21 l22 l23 l24 l25
    have q := lw_543a (d := d) (v := v) (nn := nn) (Q := Q) (a6 := a6) (a7 := a7) (a8 := a8) (a9 := a9) hY r0 r1 r2 hSe ha hu (fun M' R' hW' a14 l15 l16 l17 l18 l19 l20 l21 l22 l23 l24 l25 => by
      have q := ih M' R' hW' (some (.inl a14)) l15 l16 l17 l18 l19 l20 l21 l22 l23 l24 l25
      clear ih hQ hW hW'
      simp (disch := omega) only [Option.toList_some, Option.toList_none, List.nil_append, List.cons_append, List.append_nil, true_and, and_true, not_true_eq_false, not_false_eq_true, true_implies, false_implies, implies_true, and_self, Int.reduceLT, Int.reduceLE, Int.reduceEq, Int.reduceNe, Int.reduceAdd, Int.reduceSub, Int.reduceMul, Int.reduceNeg, Int.reduceToNat, Int.toNat_natCast, ↓kk_ck, ↓kk_im, ↓kk_in, s_0_778, vi_inc]
      exact q) 0 (by omega) M R hW l15 l16 l17 l18 l19 l20 l21 l22 l23 l24 l25
    rw [s_0_533]
    clear ih hQ hW
    simp (disch := omega) only [Option.toList_some, Option.toList_none, List.nil_append, List.cons_append, List.append_nil, true_and, and_true, not_true_eq_false, not_false_eq_true, true_implies, false_implies, implies_true, and_self, Int.reduceLT, Int.reduceLE, Int.reduceEq, Int.reduceNe, Int.reduceAdd, Int.reduceSub, Int.reduceMul, Int.reduceNeg, Int.reduceToNat, Int.toNat_natCast, ↓kk_ck, ↓kk_im, ↓kk_in, s_0_540]
    exact q
theorem lw_524a (hY : lwY Y ln) (r0 : g 0 = x) (r1 : g 1 = y) (r2 : g 2 = z) (hSe : S = lfS (fK x y z t L) lw L.length) {a6 a7 a8 a9 : Int}
    (hQ : ∀ M R, lwR x y z t fo L lw g S O M R → ∀ (a12 : Int) l13 l14 l15 l16 l17 l18 l19 l20 l21 l22 l23 l24 l25, vi_ok GG (d + 72) 0 790 [some (.inr (.inr 1)), some (.inr (.inr 29)), some (.inr (.inr 112)), some (.inl v), some (.inr (.inr 125)), some (.inr (.inr 126)), some (.inl a6), some (.inl a7), some (.inl a8), some (.inl a9), some (.inl (R.length : Int)), some (.inl (jgN (fK x y z t L) S R R.length 0)), some (.inl a12), l13, l14, l15, l16, l17, l18, l19, l20, l21, l22, l23, l24, l25] [] (Y, M, nn) Q) :
    ∀ a : Nat, a ≤ 3 → ∀ M R, lwR x y z t fo L lw g S O M R → ∀ l13 l14 l15 l16 l17 l18 l19 l20 l21 l22 l23 l24 l25, vi_ok GG (d + 72) 0 524 [some (.inr (.inr 1)), some (.inr (.inr 29)), some (.inr (.inr 112)), some (.inl v), some (.inr (.inr 125)), some (.inr (.inr 126)), some (.inl a6), some (.inl a7), some (.inl a8), some (.inl a9), some (.inl (R.length : Int)), some (.inl (jgN (fK x y z t L) S R R.length 0)), some (.inl (a : Int)), l13, l14, l15, l16, l17, l18, l19, l20, l21, l22, l23, l24, l25] [] (Y, M, nn) Q := by
  refine vi_dn 3 ?_ ?_
  · intro M R hW l13 l14 l15 l16 l17 l18 l19 l20 l21 l22 l23 l24 l25
    have q := hQ M R hW ((3 : Nat) : Int) l13 l14 l15 l16 l17 l18 l19 l20 l21 l22 l23 l24 l25
    rw [s_0_524]
    clear hQ hW
    simp (disch := omega) only [Option.toList_some, Option.toList_none, List.nil_append, List.cons_append, List.append_nil, true_and, and_true, not_true_eq_false, not_false_eq_true, true_implies, false_implies, implies_true, and_self, Int.reduceLT, Int.reduceLE, Int.reduceEq, Int.reduceNe, Int.reduceAdd, Int.reduceSub, Int.reduceMul, Int.reduceNeg, Int.reduceToNat, Int.toNat_natCast, ↓kk_ck, ↓kk_im, ↓kk_in]
    exact q
  · intro a ha ih M R hW l13 l14 l15 l16 l17 l18 l19 l20 l21 l22 l23 l24 l25
    have q := lw_533a (d := d) (v := v) (nn := nn) (Q := Q) (a6 := a6) (a7 := a7) (a8 := a8) (a9 := a9) hY r0 r1 r2 hSe ha (fun M' R' hW' a13 l14 l15 l16 l17 l18 l19 l20 l21 l22 l23 l24 l25 => by
      have q := ih M' R' hW' (some (.inl a13)) l14 l15 l16 l17 l18 l19 l20 l21 l22 l23 l24 l25
      clear ih hQ hW hW'
      simp (disch := omega) only [Option.toList_some, Option.toList_none, List.nil_append, List.cons_append, List.append_nil, true_and, and_true, not_true_eq_false, not_false_eq_true, true_implies, false_implies, implies_true, and_self, Int.reduceLT, Int.reduceLE, Int.reduceEq, Int.reduceNe, Int.reduceAdd, Int.reduceSub, Int.reduceMul, Int.reduceNeg, Int.reduceToNat, Int.toNat_natCast, ↓kk_ck, ↓kk_im, ↓kk_in, s_0_784, vi_inc]
      exact q) 0 (by omega) M R hW l14 l15 l16 l17 l18 l19 l20 l21 l22 l23 l24 l25
    rw [s_0_524]
    clear ih hQ hW
    simp (disch := omega) only [Option.toList_some, Option.toList_none, List.nil_append, List.cons_append, List.append_nil, true_and, and_true, not_true_eq_false, not_false_eq_true, true_implies, false_implies, implies_true, and_self, Int.reduceLT, Int.reduceLE, Int.reduceEq, Int.reduceNe, Int.reduceAdd, Int.reduceSub, Int.reduceMul, Int.reduceNeg, Int.reduceToNat, Int.toNat_natCast, ↓kk_ck, ↓kk_im, ↓kk_in, s_0_530]
    exact q
/-- judged, forgotten, judged again -/
theorem lw_790 (hY : lwY Y ln) (hSe : S = lfS (fK x y z t L) lw L.length) {M : vi_M} {R : List (Nat → Int)} (hW : lwR x y z t fo L lw g S O M R) {a6 a7 a8 a9 a12 : Int} {l13 l14 l15 l16 l17 l18 l19 l20 l21 l22 l23 l24 l25 : Option vi_V}
    (hQ : ∀ M', wS M' x y z t L [] lw 1 fo → lwD M' g S O → vi_ok GG (d + 72) 0 818 [some (.inr (.inr 1)), some (.inr (.inr 29)), some (.inr (.inr 112)), some (.inl v), some (.inr (.inr 125)), some (.inr (.inr 126)), some (.inl a6), some (.inl a7), some (.inl a8), some (.inl a9), some (.inl (R.length : Int)), some (.inl (jgN (fK x y z t L) S R R.length 0)), some (.inl a12), l13, l14, l15, l16, l17, l18, l19, l20, l21, l22, l23, l24, l25] [] (Y, M', nn) Q) : vi_ok GG (d + 72) 0 790 [some (.inr (.inr 1)), some (.inr (.inr 29)), some (.inr (.inr 112)), some (.inl v), some (.inr (.inr 125)), some (.inr (.inr 126)), some (.inl a6), some (.inl a7), some (.inl a8), some (.inl a9), some (.inl (R.length : Int)), some (.inl (jgN (fK x y z t L) S R R.length 0)), some (.inl a12), l13, l14, l15, l16, l17, l18, l19, l20, l21, l22, l23, l24, l25] [] (Y, M, nn) Q := by
  obtain ⟨⟨y1, y2⟩, -, -, -, -⟩ := hY
  obtain ⟨hR, hS, hD⟩ := hW
  have h29 := y2.1
  have k206 : ∀ (M : vi_M) (R : List (Nat → Int)), R.length ≤ 8 → wS M x y z t L R lw 1 fo → ∀ K : Option vi_V → vi_W → Prop, vi_call GG (d + 72) 206 [.inr (.inr 29)] (Y, M, nn) K ↔ K (some (.inl (jgN (fK x y z t L) S R R.length 0))) (Y, M, nn) := fun M R hR hS K => by
    have := @k_206 L.length (d + 2) lw Y M nn K y1 y2 (fK x y z t L) (pP_z hS.1) hS.2 R hS.1.1.2.1 hR
    rw [← hSe] at this
    exact this
  have k1 := k206 M R hR hS
  have cl : vi_call GG (d + 72) 205 [.inr (.inr 29)] (Y, M, nn) (fun r w' => vi_ok GG (d + 72) 0 803 [some (.inr (.inr 1)), some (.inr (.inr 29)), some (.inr (.inr 112)), some (.inl v), some (.inr (.inr 125)), some (.inr (.inr 126)), some (.inl a6), some (.inl a7), some (.inl a8), some (.inl a9), some (.inl (R.length : Int)), some (.inl (jgN (fK x y z t L) S R R.length 0)), some (.inl a12), l13, l14, l15, l16, l17, l18, l19, l20, l21, l22, l23, l24, l25] r.toList w' Q) := by
    refine @lk_205 (d + 2) 1 Y M nn x y z t fo L R lw _ y1 y2 hS fun M' hS' hf' => ?_
    have q := hQ M' hS' ⟨(hf' 112 (by decide)).trans hD.1, fun j hj => by rw [hf' 125 (by decide), hf' 126 (by decide)]; exact hD.2 j hj⟩
    have k2 := k206 M' [] (Nat.zero_le _) hS'
    have k2 : ∀ K : Option vi_V → vi_W → Prop, vi_call GG (d + 72) 206 [.inr (.inr 29)] (Y, M', nn) K ↔ K (some (.inl (-1))) (Y, M', nn) := k2
    clear hQ hS hD hS' hf' k206 k1
    simp (disch := omega) only [Option.toList_some, Option.toList_none, List.nil_append, List.cons_append, List.append_nil, true_and, and_true, not_true_eq_false, not_false_eq_true, true_implies, false_implies, implies_true, and_self, Int.reduceLT, Int.reduceLE, Int.reduceEq, Int.reduceNe, Int.reduceAdd, Int.reduceSub, Int.reduceMul, Int.reduceNeg, Int.reduceToNat, Int.toNat_natCast, ↓kk_ck, ↓kk_im, ↓kk_in, s_0_803, s_0_808, s_0_812, h29, k2, ne_eq]
    exact q
  clear hQ hS hD k206
  simp (disch := omega) only [Option.toList_some, Option.toList_none, List.nil_append, List.cons_append, List.append_nil, true_and, and_true, not_true_eq_false, not_false_eq_true, true_implies, false_implies, implies_true, and_self, Int.reduceLT, Int.reduceLE, Int.reduceEq, Int.reduceNe, Int.reduceAdd, Int.reduceSub, Int.reduceMul, Int.reduceNeg, Int.reduceToNat, Int.toNat_natCast, ↓kk_ck, ↓kk_im, ↓kk_in, s_0_790, s_0_794, s_0_799, h29, k1, ne_eq]
  exact cl
end
