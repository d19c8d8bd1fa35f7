/-! The property of its own: the class as the law finds it. -/
def fK (x y z t : Int) (L : List (Nat → Int)) : Nat → Int := fun k => if k = 96 then x else if k = 97 then y else if k = 98 then z else if k = 99 then t else if k = 292 then (L.length : Int) else if k % 6 = 5 then rL L (k / 6) 5 + 1 else rL L (k / 6) (k % 6)
theorem fK_s {x y z t : Int} {L : List (Nat → Int)} : fK x y z t L 96 = x ∧ fK x y z t L 97 = y ∧ fK x y z t L 98 = z ∧ fK x y z t L 99 = t ∧ fK x y z t L 292 = (L.length : Int) := ⟨rfl, rfl, rfl, rfl, rfl⟩
theorem fK_5 {x y z t : Int} {L : List (Nat → Int)} {r : Nat} (hr : r < 16) : fK x y z t L (6 * r + 5) = rL L r 5 + 1 := by
  unfold fK
  rw [if_neg (by omega), if_neg (by omega), if_neg (by omega), if_neg (by omega), if_neg (by omega), if_pos (by omega), show (6 * r + 5) / 6 = r by omega]
theorem fK_j {x y z t : Int} {L : List (Nat → Int)} {r j : Nat} (hr : r < 16) (hj : j < 5) : fK x y z t L (6 * r + j) = rL L r j := by
  unfold fK
  rw [if_neg (by omega), if_neg (by omega), if_neg (by omega), if_neg (by omega), if_neg (by omega), if_neg (by omega), show (6 * r + j) / 6 = r by omega, show (6 * r + j) % 6 = j by omega]
def hsOK (x y z : Int) (L : List (Nat → Int)) : Prop := L.length ≤ 16 ∧ ∀ r, r < L.length → gH (rL L r) ∧ gPl x y z (rL L r 0) (rL L r 1) (rL L r 2) = true
theorem fK_H {x y z t : Int} {L : List (Nat → Int)} (h : hsOK x y z L) : rHs (fK x y z t L) L := by
  refine ⟨rfl, h.1, fun r hr => ⟨(h.2 r hr).1, (h.2 r hr).2, fun j hj => fK_j ?_ hj, fK_5 ?_⟩⟩
  · have := h.1; omega
  · have := h.1; omega
/-- all that the class holds but what it has looked at -/
def pP (M : vi_M) (x y z t : Int) (L R : List (Nat → Int)) (nl : Nat) (fo : Int) : Prop := (rOK (M 31) (M 32) L ∧ rOK (M 33) (M 34) R ∧ rOK (M 35) (M 36) []) ∧ (hsOK x y z L ∧ R.length ≤ 8) ∧ (M 30 8 = x ∧ M 30 9 = y ∧ M 30 10 = z ∧ M 30 11 = t ∧ gB x y z ∧ 0 ≤ t ∧ t ≤ 99) ∧ (M 30 6 = (nl : Int) ∧ M 30 7 = fo) ∧ jJ M ∧ (0 ≤ M 111 0 ∧ M 111 0 < 1000)
theorem pP_z {M : vi_M} {x y z t : Int} {L R : List (Nat → Int)} {nl : Nat} {fo : Int} (h : pP M x y z t L R nl fo) : rSz (fK x y z t L) (M 30) := h.2.2.1
def wS (M : vi_M) (x y z t : Int) (L R : List (Nat → Int)) (lw : Option (List gCla)) (nl : Nat) (fo : Int) : Prop := pP M x y z t L R nl fo ∧ jV M (fK x y z t L) lw L.length
/-- what calls that change something leave alone -/
def lF (M M' : vi_M) : Prop := ∀ p, (p < 29 ∨ p = 39 ∨ p = 73 ∨ p = 74 ∨ (112 ≤ p ∧ p ≤ 120)) → M' p = M p
theorem lF_t {M M1 M2 : vi_M} (h : lF M M1) (h' : lF M1 M2) : lF M M2 := fun p hp => (h' p hp).trans (h p hp)
theorem jJ_e {M M' : vi_M} (h : jJ M) (hp : ∀ p, (70 ≤ p ∧ p < 111) → M' p = M p) : jJ M' := ⟨fun q hq => by rw [hp q (by unfold jCe at hq; omega)]; exact h.1 q hq, by rw [hp 88 (by omega)]; exact h.2⟩
theorem pP_c {M M' : vi_M} {x y z t : Int} {L R : List (Nat → Int)} {nl : Nat} {fo : Int} (h : pP M x y z t L R nl fo) (hp : ∀ p, (30 ≤ p ∧ p < 37) ∨ (70 ≤ p ∧ p < 112) → M' p = M p) : pP M' x y z t L R nl fo := by
  obtain ⟨⟨h1, h2, h3⟩, h4, h5, h6, h7, h8⟩ := h
  refine ⟨⟨?_, ?_, ?_⟩, h4, ?_, ?_, jJ_e h7 fun p q => hp p (by omega), ?_⟩
  · rw [hp 31 (by omega), hp 32 (by omega)]; exact h1
  · rw [hp 33 (by omega), hp 34 (by omega)]; exact h2
  · rw [hp 35 (by omega), hp 36 (by omega)]; exact h3
  · rw [hp 30 (by omega)]; exact h5
  · rw [hp 30 (by omega)]; exact h6
  · rw [hp 111 (by omega)]; exact h8
theorem lIn_n {Y : vi_Y} {M : vi_M} {nl : Nat} (h6 : M 30 6 = (nl : Int)) (h : nl ≤ 6) (h7 : M 30 7 = -1) : lIn Y M (lwG (M 30) none) := ⟨nl, h6, h, .inl ⟨h7, rfl⟩⟩
section
variable {d nl : Nat} {Y : vi_Y} {M : vi_M} {nn : Nat × Nat} {x y z t fo : Int} {L R : List (Nat → Int)} {lw : Option (List gCla)} {Q : Option vi_V → vi_W → Prop}
/-- all is looked at anew -/
theorem pS_25 (hY : kY Y 112) (hP : pP M x y z t L R nl fo) (hin : lIn Y M (lwG (M 30) lw)) (s1 : ∃ S, M 64 = cR S) (s2 : ∃ S, M 66 = cR S) (s3 : ∃ S, M 68 = cR S) :
    ∃ M', wS M' x y z t L R lw nl fo ∧ (∀ p, p ≤ 120 → p ≠ 61 → p ≠ 62 → p ≠ 64 → p ≠ 66 → p ≠ 68 → M' p = M p) ∧ ∀ K : Option vi_V → vi_W → Prop, vi_call GG (d + 69) 25 [.inr (.inr 60)] (Y, M, nn) K ↔ K none (Y, M', nn) := by
  have hHs := fK_H (t := t) hP.2.1.1
  have hS := pP_z hP
  have hS' := hS
  obtain ⟨z1, z2, z3, z4, z5, z6, z7⟩ := hS'
  obtain ⟨S1, s1⟩ := s1
  obtain ⟨S2, s2⟩ := s2
  obtain ⟨S3, s3⟩ := s3
  have hb : gB (M 30 8) (M 30 9) (M 30 10) := by rw [z1, z2, z3]; exact z5
  obtain ⟨M', e1, e2, e3, e4, e5, e6, e7, hK⟩ := @k_25 (d + 57) Y M nn L (kY_le hY (by omega)) hb hP.1.1 hHs.2.1 (fun r hr => (hHs.2.2 r hr).1) _ hin S1 S2 S3 s1 s2 s3
  rw [z1, z2, z3] at e1 e2 e3 e4 e5
  have hP' : pP M' x y z t L R nl fo := pP_c hP fun p hp => e6 p (by omega) (by omega) (by omega) (by omega) (by omega) (by omega)
  have hV : jV M' (fK x y z t L) lw L.length := by
    generalize fK x y z t L = f at *
    have hat : ∀ c : Nat, (hC (f 96) (f 97) (f 98) L (c : Int) : Int) = mAt f (c : Int) L.length := fun c => hC_at z5 hHs (by omega)
    refine ⟨fun c hc => ?_, fun c hc hx => ?_, ?_, ?_, ?_⟩
    · rw [e1]
      unfold vi_m
      rw [if_pos hc]
      exact hat c
    · rw [e2]
      unfold gW
      rw [if_pos ⟨hc, by rw [bx_eq hc]; exact hx⟩]
      rw [hat c, lwG_eq hS hx]
    · rw [e3]; exact cR_c fun c hc => bx_eq hc
    · rw [e4]
      refine cR_c fun c hc => ?_
      unfold gP
      rw [bx_eq hc, decide_eq_false (show ¬ 216 ≤ c by omega), Bool.false_or]
      show _ = mLf (rowM f) lw L.length c
      unfold mLf
      show (bxS f c && _) = (bxS f c && decide (mAt f (c : Int) L.length = 0) && _)
      cases hx : bxS f c with
      | false => rfl
      | true =>
        rw [Bool.true_and, Bool.true_and]
        have e0 : decide (hC (f 96) (f 97) (f 98) L (c : Int) = 0) = decide (mAt f (c : Int) L.length = 0) := by
          rw [decide_eq_decide, ← hat c]; omega
        rw [e0, hat c, lwG_eq hS hx]
        rfl
    · rw [e5]
      refine cR_c fun c hc => ?_
      unfold gS
      rw [bx_eq hc, decide_eq_true hc, Bool.true_and]
      show (bxS f c && _) = (bxS f c && _)
      cases hx : bxS f c with
      | false => rfl
      | true =>
        rw [Bool.true_and, Bool.true_and, hat c, lwG_eq hS hx]
  exact ⟨M', ⟨hP', hV⟩, e6, hK⟩
theorem pS_k (h : wS M x y z t L R lw nl fo) : (∃ S, M 64 = cR S) ∧ (∃ S, M 66 = cR S) ∧ (∃ S, M 68 = cR S) := ⟨⟨_, h.2.2.2.1⟩, ⟨_, h.2.2.2.2.1⟩, ⟨_, h.2.2.2.2.2⟩⟩
/-- accepted, behind a look -/
theorem pS_29 {M' : vi_M} (h : wS M' x y z t L R lw nl fo) {g : Nat → Int} : wS (vi_rs M' 29 g) x y z t L R lw nl fo := ⟨pP_c h.1 fun p hp => vi_rs_o (by omega), jV_c h.2 fun p p1 p2 => vi_rs_o (by omega)⟩
theorem lk_192 (hY : kY Y 112) (h9 : kY9 Y) (hS : wS M x y z t [] [] none nl (-1)) (hnl : nl ≤ 6) {b : Nat} {v : Int} (hb3 : b ≤ 3) (hx1 : b ≤ 2 → 1 ≤ v ∧ v ≤ 6) (hx2 : b = 3 → 0 ≤ v ∧ v ≤ 99)
    (hQ : ∀ (M' : vi_M) (r : Int), wS M' (if b = 0 then v else x) (if b = 1 then v else y) (if b = 2 then v else z) (if b = 3 then v else t) [] [] none nl (-1) → lF M M' → Q (some (.inl r)) (Y, M', nn)) : vi_call GG (d + 70) 192 [.inr (.inr 29), .inl (b : Int), .inl v] (Y, M, nn) Q := by
  obtain ⟨s1, s2, s3⟩ := pS_k hS
  obtain ⟨⟨⟨o1, o2, o3⟩, hh, ⟨w1, w2, w3, w4, w5, w6⟩, ⟨l6, l7⟩, hJ, h111⟩, hV⟩ := hS
  obtain ⟨a1, a2, a3, a4, a5, a6, a7, a8, a9, a10, a11, a12⟩ := y_29 h9
  obtain ⟨b1, b2, -⟩ := y_30 hY (by omega)
  obtain ⟨z1, -⟩ := y_60 hY (by omega)
  have h0 : ∀ x y z : Int, hsOK x y z [] := fun x y z => ⟨Nat.zero_le _, fun r hr => absurd hr (Nat.not_lt_zero _)⟩
  by_cases hb : b = 3
  · subst hb
    have hx := hx2 rfl
    obtain ⟨M1, hM1⟩ : ∃ M1, M1 = vi_rs M 30 (vi_u (M 30) 11 v) := ⟨_, rfl⟩
    have m1 : ∀ p, p ≠ 30 → M1 p = M p := fun p hp => by rw [hM1, vi_rs_o hp]
    have m30 : M1 30 = vi_u (M 30) 11 v := by rw [hM1, vi_rs_s]
    have hP : pP M1 x y z v [] [] nl (-1) := by
      refine ⟨⟨?_, ?_, ?_⟩, ⟨h0 _ _ _, Nat.zero_le _⟩, ?_, ?_, jJ_e hJ fun p hp => m1 p (by omega), ?_⟩
      · rw [m1 31 (by decide), m1 32 (by decide)]; exact o1
      · rw [m1 33 (by decide), m1 34 (by decide)]; exact o2
      · rw [m1 35 (by decide), m1 36 (by decide)]; exact o3
      · rw [m30, vi_u_o (by decide), vi_u_o (by decide), vi_u_o (by decide), vi_u_s]; exact ⟨w1, w2, w3, rfl, w5, hx⟩
      · rw [m30, vi_u_o (by decide), vi_u_o (by decide)]; exact ⟨l6, l7⟩
      · rw [m1 111 (by decide)]; exact h111
    obtain ⟨M', p1, p2, k25⟩ := @pS_25 d nl Y M1 nn x y z v (-1) [] [] none hY hP (lIn_n hP.2.2.2.1.1 hnl hP.2.2.2.1.2) (by rw [m1 64 (by decide)]; exact s1) (by rw [m1 66 (by decide)]; exact s2) (by rw [m1 68 (by decide)]; exact s3)
    have k48 := fun {K : Option vi_V → vi_W → Prop} => @k_48 (d + 68) 30 K Y M nn b1 v
    have k227 := fun {K : Option vi_V → vi_W → Prop} => @k_227 (d + 68) Y M' nn K a1 (M 30 11)
    simp only [Nat.add_assoc, Nat.reduceAdd] at k48 k227
    have hq := hQ (vi_rs M' 29 (vi_u (M' 29) 11 0)) (M 30 11) (pS_29 p1) (fun p hp => by rw [vi_rs_o (by omega), p2 p (by omega) (by omega) (by omega) (by omega) (by omega) (by omega), m1 p (by omega)])
    rw [← hM1] at k48
    show vi_call GG (d + 70) 192 [.inr (.inr 29), .inl 3, .inl v] (Y, M, nn) Q
    clear hQ p1 p2 hP m1 m30 hM1 o1 o2 o3 hh w1 w2 w3 w4 w5 w6 l6 l7 hJ h111 hV h0 s1 s2 s3 hx1 hx2
    by_cases hs : 1 ≤ v ∧ v ≤ 6
    · simp (disch := omega) only [Option.toList_some, Option.toList_none, List.nil_append, List.cons_append, List.append_nil, true_and, and_true, not_true_eq_false, not_false_eq_true, true_implies, false_implies, implies_true, and_self, Int.reduceLT, Int.reduceLE, Int.reduceEq, Int.reduceNe, Int.reduceAdd, Int.reduceSub, Int.reduceMul, Int.reduceNeg, Int.reduceToNat, Int.toNat_natCast, ↓kk_ck, ↓kk_im, ↓kk_in, e_192, s_192_0, s_192_4, s_192_9, s_192_14, s_192_20, s_192_24, s_192_25, s_192_31, s_192_35, s_192_41, s_192_45, s_192_46, s_192_52, s_192_57, s_192_63, s_192_68, s_192_79, s_192_88, s_192_62, s_192_72, s_192_83, s_192_94, s_192_76, s_192_97, s_192_103, a1, a2, a5, b1, z1, k48, k25, k227, ne_eq]
      exact hq
    · simp (disch := omega) only [Option.toList_some, Option.toList_none, List.nil_append, List.cons_append, List.append_nil, true_and, and_true, not_true_eq_false, not_false_eq_true, true_implies, false_implies, implies_true, and_self, Int.reduceLT, Int.reduceLE, Int.reduceEq, Int.reduceNe, Int.reduceAdd, Int.reduceSub, Int.reduceMul, Int.reduceNeg, Int.reduceToNat, Int.toNat_natCast, ↓kk_ck, ↓kk_im, ↓kk_in, e_192, s_192_0, s_192_4, s_192_9, s_192_14, s_192_20, s_192_24, s_192_25, s_192_31, s_192_35, s_192_41, s_192_45, s_192_46, s_192_52, s_192_57, s_192_63, s_192_68, s_192_79, s_192_88, s_192_62, s_192_72, s_192_83, s_192_94, s_192_76, s_192_97, s_192_103, a1, a2, a5, b1, z1, k48, k25, k227, ne_eq]
      exact hq
  · have hb2 : b ≤ 2 := by omega
    have hx := hx1 hb2
    obtain ⟨fh, hfh⟩ : ∃ fh, fh = vi_u (M 30) (8 + b) v := ⟨_, rfl⟩
    have hg : ∀ x y z, gFl x y z [] = [] := fun _ _ _ => rfl
    obtain ⟨f1, g1, f2, g2, f3, g3, r1, r2, r3, k46⟩ := @k_46 (d + 65) 30 Y M nn (kH_30 hY (by omega)) (b : Int) v (by omega) [] [] [] o1 o2 o3 (Nat.zero_le _) (Nat.zero_le _) (Nat.zero_le _) fh (by rw [show (8 + (b : Int)).toNat = 8 + b by omega]; exact hfh.symm)
    simp only [Nat.add_assoc, Nat.reduceAdd] at k46
    rw [hg] at r1 r2 r3
    obtain ⟨M1, hM1⟩ : ∃ M1, M1 = vi_rs (vi_rs (vi_rs (vi_rs (vi_rs (vi_rs (vi_rs M 30 fh) 32 g1) 31 f1) 34 g2) 33 f2) 36 g3) 35 f3 := ⟨_, rfl⟩
    have m1 : ∀ p, ¬ (30 ≤ p ∧ p < 37) → M1 p = M p := fun p hp => by rw [hM1, vi_rs_o (by omega), vi_rs_o (by omega), vi_rs_o (by omega), vi_rs_o (by omega), vi_rs_o (by omega), vi_rs_o (by omega), vi_rs_o (by omega)]
    have m30 : M1 30 = fh := by rw [hM1]; simp (disch := omega) only [vi_rs_s, vi_rs_o]
    have m31 : M1 31 = f1 ∧ M1 32 = g1 ∧ M1 33 = f2 ∧ M1 34 = g2 ∧ M1 35 = f3 ∧ M1 36 = g3 := by rw [hM1]; refine ⟨?_, ?_, ?_, ?_, ?_, ?_⟩ <;> simp (disch := omega) only [vi_rs_s, vi_rs_o]
    obtain ⟨m31, m32, m33, m34, m35, m36⟩ := m31
    have hP : pP M1 (if b = 0 then v else x) (if b = 1 then v else y) (if b = 2 then v else z) (if b = 3 then v else t) [] [] nl (-1) := by
      refine ⟨⟨?_, ?_, ?_⟩, ⟨h0 _ _ _, Nat.zero_le _⟩, ?_, ?_, jJ_e hJ fun p hp => m1 p (by omega), ?_⟩
      · rw [m31, m32]; exact r1
      · rw [m33, m34]; exact r2
      · rw [m35, m36]; exact r3
      · rw [m30, hfh]
        unfold vi_u gB at *
        obtain rfl | rfl | rfl : b = 0 ∨ b = 1 ∨ b = 2 := by omega
        · exact ⟨rfl, w2, w3, w4, ⟨hx, w5.2⟩, w6⟩
        · exact ⟨w1, rfl, w3, w4, ⟨w5.1, hx, w5.2.2⟩, w6⟩
        · exact ⟨w1, w2, rfl, w4, ⟨w5.1, w5.2.1, hx⟩, w6⟩
      · rw [m30, hfh, vi_u_o (by omega), vi_u_o (by omega)]; exact ⟨l6, l7⟩
      · rw [m1 111 (by omega)]; exact h111
    obtain ⟨M', p1, p2, k25⟩ := @pS_25 d nl Y M1 nn _ _ _ _ (-1) [] [] none hY hP (lIn_n hP.2.2.2.1.1 hnl hP.2.2.2.1.2) (by rw [m1 64 (by omega)]; exact s1) (by rw [m1 66 (by omega)]; exact s2) (by rw [m1 68 (by omega)]; exact s3)
    have k227 := fun {K : Option vi_V → vi_W → Prop} => @k_227 (d + 68) Y M' nn K a1 (gSz (M 30 8) (M 30 9) (M 30 10) (b : Int))
    simp only [Nat.add_assoc, Nat.reduceAdd] at k227
    rw [← hM1] at k46
    have hq := hQ (vi_rs M' 29 (vi_u (M' 29) 11 0)) (gSz (M 30 8) (M 30 9) (M 30 10) (b : Int)) (pS_29 p1) (fun p hp => by rw [vi_rs_o (by omega), p2 p (by omega) (by omega) (by omega) (by omega) (by omega) (by omega), m1 p (by omega)])
    clear hQ p1 p2 hP m1 m30 m31 m32 m33 m34 m35 m36 hM1 o1 o2 o3 hh w1 w2 w3 w4 w5 w6 l6 l7 hJ h111 hV h0 s1 s2 s3 hx1 hx2 hg r1 r2 r3 hfh
    generalize gSz (M 30 8) (M 30 9) (M 30 10) (b : Int) = sz at *
    simp (disch := omega) only [Option.toList_some, Option.toList_none, List.nil_append, List.cons_append, List.append_nil, true_and, and_true, not_true_eq_false, not_false_eq_true, true_implies, false_implies, implies_true, and_self, Int.reduceLT, Int.reduceLE, Int.reduceEq, Int.reduceNe, Int.reduceAdd, Int.reduceSub, Int.reduceMul, Int.reduceNeg, Int.reduceToNat, Int.toNat_natCast, ↓kk_ck, ↓kk_im, ↓kk_in, e_192, s_192_0, s_192_4, s_192_9, s_192_14, s_192_20, s_192_24, s_192_25, s_192_31, s_192_35, s_192_41, s_192_45, s_192_46, s_192_52, s_192_57, s_192_63, s_192_68, s_192_79, s_192_88, s_192_62, s_192_72, s_192_83, s_192_94, s_192_76, s_192_97, s_192_103, a1, a2, a5, b1, z1, k46, k25, k227, ne_eq]
    exact hq
theorem lk_189 (hY : kY Y 112) (h9 : kY9 Y) (hS : wS M x y z t L [] none nl (-1)) (hnl : nl ≤ 6) (hl : L.length ≤ 15) {b u v e p l : Int} (hg : gH (vV b u v e p l)) (hp : gPl x y z b u v = true)
    (hQ : ∀ (M' : vi_M) (r : Int), wS M' x y z t (L ++ [vV b u v e p l]) [] none nl (-1) → lF M M' → Q (some (.inl r)) (Y, M', nn)) : vi_call GG (d + 70) 189 [.inr (.inr 29), .inl b, .inl u, .inl v, .inl e, .inl p, .inl l] (Y, M, nn) Q := by
  obtain ⟨s1, s2, s3⟩ := pS_k hS
  obtain ⟨⟨⟨o1, o2, o3⟩, ⟨hh, hR⟩, ⟨w1, w2, w3, w4, w5, w6⟩, ⟨l6, l7⟩, hJ, h111⟩, hV⟩ := hS
  obtain ⟨a1, a2, a3, a4, a5, a6, a7, a8, a9, a10, a11, a12⟩ := y_29 h9
  obtain ⟨b1, b2, -⟩ := y_30 hY (by omega)
  obtain ⟨z1, -⟩ := y_60 hY (by omega)
  have kr := kR_31 hY (by omega)
  have k50 := fun {K : Option vi_V → vi_W → Prop} => @k_50 (d + 66) 30 K Y M nn b1 b u v e p
  have k150 := fun {K : Option vi_V → vi_W → Prop} => @k_150 (d + 68) 31 16 K Y M nn kr
  have hr0 : M 31 2 = (L.length : Int) := o1.1
  have k152 : ∀ K : Option vi_V → vi_W → Prop, vi_call GG (d + 69) 152 [.inr (.inr 31), .inl b, .inl u, .inl v, .inl e, .inl p, .inl l] (Y, M, nn) K ↔ K none (Y, vi_rs (vi_rs M 31 (vi_u (M 31) 2 ((L.length + 1 : Nat) : Int))) 32 (rPut (M 32) L.length (vV b u v e p l)), nn) := fun K => @k_152 (d + 67) 31 16 K Y M nn kr L.length hr0 (by omega) b u v e p l
  obtain ⟨q1, q2, q3, q4, q5, q6⟩ := hg
  have q4' : 0 ≤ e ∧ e ≤ 1 := q4
  have q5' : 1 ≤ p ∧ p ≤ 6 := q5
  have q6' : -1 ≤ l ∧ l ≤ 1 := q6
  simp only [Nat.add_assoc, Nat.reduceAdd] at k50 k150
  rw [w1, w2, w3, hp, decide_eq_true (show 0 ≤ e ∧ e ≤ 1 ∧ 1 ≤ p ∧ p ≤ 6 from ⟨q4'.1, q4'.2, q5'.1, q5'.2⟩), Bool.and_true] at k50
  rw [hr0, decide_eq_false (by omega)] at k150
  obtain ⟨M1, hM1⟩ : ∃ M1, M1 = vi_rs (vi_rs M 31 (vi_u (M 31) 2 ((L.length + 1 : Nat) : Int))) 32 (rPut (M 32) L.length (vV b u v e p l)) := ⟨_, rfl⟩
  have m1 : ∀ p, p ≠ 31 → p ≠ 32 → M1 p = M p := fun p p1 p2 => by rw [hM1, vi_rs_o p2, vi_rs_o p1]
  have m31 : M1 31 = vi_u (M 31) 2 ((L.length + 1 : Nat) : Int) := by rw [hM1, vi_rs_o (by decide), vi_rs_s]
  have m32 : M1 32 = rPut (M 32) L.length (vV b u v e p l) := by rw [hM1, vi_rs_s]
  have hh' : hsOK x y z (L ++ [vV b u v e p l]) := by
    refine ⟨by rw [List.length_append]; show L.length + 1 ≤ 16; omega, fun r hr => ?_⟩
    rw [List.length_append] at hr
    have hr : r < L.length + 1 := hr
    by_cases e' : r < L.length
    · have : rL (L ++ [vV b u v e p l]) r = rL L r := by
        funext j
        exact rL_l e'
      rw [this]
      exact hh.2 r e'
    · have hr' : r = L.length := by omega
      have : rL (L ++ [vV b u v e p l]) r = vV b u v e p l := by
        funext j
        rw [hr']
        exact rL_r
      rw [this]
      exact ⟨⟨q1, q2, q3, q4, q5, q6⟩, hp⟩
  have hP : pP M1 x y z t (L ++ [vV b u v e p l]) [] nl (-1) := by
    refine ⟨⟨?_, ?_, ?_⟩, ⟨hh', Nat.zero_le _⟩, ?_, ?_, jJ_e hJ fun p hp => m1 p (by omega) (by omega), ?_⟩
    · rw [m31, m32]; exact rOK_add o1
    · rw [m1 33 (by decide) (by decide), m1 34 (by decide) (by decide)]; exact o2
    · rw [m1 35 (by decide) (by decide), m1 36 (by decide) (by decide)]; exact o3
    · rw [m1 30 (by decide) (by decide)]; exact ⟨w1, w2, w3, w4, w5, w6⟩
    · rw [m1 30 (by decide) (by decide)]; exact ⟨l6, l7⟩
    · rw [m1 111 (by decide) (by decide)]; exact h111
  obtain ⟨M', p1, p2, k25⟩ := @pS_25 d nl Y M1 nn x y z t (-1) _ [] none hY hP (lIn_n hP.2.2.2.1.1 hnl hP.2.2.2.1.2) (by rw [m1 64 (by decide) (by decide)]; exact s1) (by rw [m1 66 (by decide) (by decide)]; exact s2) (by rw [m1 68 (by decide) (by decide)]; exact s3)
  have e31 : M' 31 2 = ((L.length + 1 : Nat) : Int) := by rw [p2 31 (by omega) (by omega) (by omega) (by omega) (by omega) (by omega), m31, vi_u_s]
  have k149 := fun {K : Option vi_V → vi_W → Prop} => @k_149 (d + 68) 31 K (Y, M', nn) kr.1
  have k227 := fun {K : Option vi_V → vi_W → Prop} => @k_227 (d + 68) Y M' nn K a1 (L.length : Int)
  simp only [Nat.add_assoc, Nat.reduceAdd] at k149 k227
  rw [e31] at k149
  rw [← hM1] at k152
  have hq := hQ (vi_rs M' 29 (vi_u (M' 29) 11 0)) (L.length : Int) (pS_29 p1) (fun p hp => by rw [vi_rs_o (by omega), p2 p (by omega) (by omega) (by omega) (by omega) (by omega) (by omega), m1 p (by omega) (by omega)])
  clear hQ p1 p2 hP m1 m31 m32 hM1 o1 o2 o3 hh hh' hR w1 w2 w3 w4 w5 w6 l6 l7 hJ h111 hV s1 s2 s3 q1 q2 q3 q4 q5 q6 hp e31
  simp (disch := omega) only [Option.toList_some, Option.toList_none, List.nil_append, List.cons_append, List.append_nil, true_and, and_true, not_true_eq_false, not_false_eq_true, true_implies, false_implies, implies_true, and_self, Int.reduceLT, Int.reduceLE, Int.reduceEq, Int.reduceNe, Int.reduceAdd, Int.reduceSub, Int.reduceMul, Int.reduceNeg, Int.reduceToNat, Int.toNat_natCast, ↓kk_ck, ↓kk_im, ↓kk_in, e_189, s_189_0, s_189_17, s_189_23, s_189_29, s_189_35, s_189_48, s_189_55, s_189_4, s_189_34, s_189_39, s_189_54, s_189_59, s_189_14, s_189_42, s_189_62, s_189_45, s_189_74, s_189_78, s_189_81, s_189_86, s_189_89, s_189_92, s_189_97, a1, a2, a5, b1, b2, kr.1, z1, k50, k150, k152, k25, k149, vi_bt, vi_bf, ne_eq, @vi_32 (((L.length + 1 : Nat) : Int) - 1) (by omega) (by omega), show ((L.length + 1 : Nat) : Int) - 1 = (L.length : Int) by omega, @vi_32 (L.length : Int) (by omega) (by omega), k227]
  exact hq
/-- a row told -/
theorem lk_204 (hY : kY Y 112) (h9 : kY9 Y) (hS : wS M x y z t L R lw nl fo) (hl : R.length ≤ 7) {b u v s : Int} (hp : gPl x y z b u v = true) (hs : 0 ≤ s ∧ s ≤ 6)
    (hQ : ∀ (M' : vi_M), wS M' x y z t L (R ++ [vV b u v s 0 0]) lw nl fo → (∀ p, p ≠ 29 → p ≠ 33 → p ≠ 34 → M' p = M p) → Q (some (.inl ((R.length + 1 : Nat) : Int))) (Y, M', nn)) : vi_call GG (d + 70) 204 [.inr (.inr 29), .inl b, .inl u, .inl v, .inl s] (Y, M, nn) Q := by
  obtain ⟨⟨⟨o1, o2, o3⟩, ⟨hh, hR⟩, ⟨w1, w2, w3, w4, w5, w6⟩, ⟨l6, l7⟩, hJ, h111⟩, hV⟩ := hS
  obtain ⟨a1, a2, a3, a4, a5, a6, a7, a8, a9, a10, a11, a12⟩ := y_29 h9
  obtain ⟨b1, b2, b3, b4, -⟩ := y_30 hY (by omega)
  have kr := kR_33 hY (by omega)
  have k49 := fun {K : Option vi_V → vi_W → Prop} => @k_49 (d + 67) 30 K Y M nn b1 b u v
  have k150 := fun {K : Option vi_V → vi_W → Prop} => @k_150 (d + 68) 33 8 K Y M nn kr
  simp only [Nat.add_assoc, Nat.reduceAdd] at k49 k150
  have hr0 : M 33 2 = (R.length : Int) := o2.1
  rw [hr0, decide_eq_false (by omega)] at k150
  rw [w1, w2, w3, hp] at k49
  have k152 : ∀ K : Option vi_V → vi_W → Prop, vi_call GG (d + 69) 152 [.inr (.inr 33), .inl b, .inl u, .inl v, .inl s, .inl 0, .inl 0] (Y, M, nn) K ↔ K none (Y, vi_rs (vi_rs M 33 (vi_u (M 33) 2 ((R.length + 1 : Nat) : Int))) 34 (rPut (M 34) R.length (vV b u v s 0 0)), nn) := fun K => @k_152 (d + 67) 33 8 K Y M nn kr R.length hr0 (by omega) b u v s 0 0
  obtain ⟨M1, hM1⟩ : ∃ M1, M1 = vi_rs (vi_rs M 33 (vi_u (M 33) 2 ((R.length + 1 : Nat) : Int))) 34 (rPut (M 34) R.length (vV b u v s 0 0)) := ⟨_, rfl⟩
  have m1 : ∀ p, p ≠ 33 → p ≠ 34 → M1 p = M p := fun p p1 p2 => by rw [hM1, vi_rs_o p2, vi_rs_o p1]
  have m33 : M1 33 = vi_u (M 33) 2 ((R.length + 1 : Nat) : Int) := by rw [hM1, vi_rs_o (by decide), vi_rs_s]
  have m34 : M1 34 = rPut (M 34) R.length (vV b u v s 0 0) := by rw [hM1, vi_rs_s]
  have e33 : M1 33 2 = ((R.length + 1 : Nat) : Int) := by rw [m33, vi_u_s]
  have hq := hQ (vi_rs M1 29 (vi_u (M1 29) 11 0)) (by
    refine pS_29 ⟨⟨⟨?_, ?_, ?_⟩, ⟨hh, by rw [List.length_append]; show R.length + 1 ≤ 8; omega⟩, ?_, ?_, jJ_e hJ fun p hp => m1 p (by omega) (by omega), ?_⟩, jV_c hV fun p p1 p2 => m1 p (by omega) (by omega)⟩
    · rw [m1 31 (by decide) (by decide), m1 32 (by decide) (by decide)]; exact o1
    · rw [m33, m34]; exact rOK_add o2
    · rw [m1 35 (by decide) (by decide), m1 36 (by decide) (by decide)]; exact o3
    · rw [m1 30 (by decide) (by decide)]; exact ⟨w1, w2, w3, w4, w5, w6⟩
    · rw [m1 30 (by decide) (by decide)]; exact ⟨l6, l7⟩
    · rw [m1 111 (by decide) (by decide)]; exact h111) (fun p p1 p2 p3 => by rw [vi_rs_o p1, m1 p p2 p3])
  have k149 := fun {K : Option vi_V → vi_W → Prop} => @k_149 (d + 68) 33 K (Y, M1, nn) kr.1
  have k227 := fun {K : Option vi_V → vi_W → Prop} => @k_227 (d + 68) Y M1 nn K a1 ((R.length + 1 : Nat) : Int)
  simp only [Nat.add_assoc, Nat.reduceAdd] at k149 k227
  rw [e33] at k149
  rw [← hM1] at k152
  clear hQ m1 m33 m34 hM1 o1 o2 o3 hh hR w1 w2 w3 w4 w5 w6 l6 l7 hJ h111 hV hp e33
  simp (disch := omega) only [Option.toList_some, Option.toList_none, List.nil_append, List.cons_append, List.append_nil, true_and, and_true, not_true_eq_false, not_false_eq_true, true_implies, false_implies, implies_true, and_self, Int.reduceLT, Int.reduceLE, Int.reduceEq, Int.reduceNe, Int.reduceAdd, Int.reduceSub, Int.reduceMul, Int.reduceNeg, Int.reduceToNat, Int.toNat_natCast, ↓kk_ck, ↓kk_im, ↓kk_in, e_204, s_204_0, s_204_13, s_204_18, s_204_25, s_204_31, s_204_44, s_204_51, s_204_4, s_204_30, s_204_35, s_204_50, s_204_55, s_204_10, s_204_38, s_204_58, s_204_41, s_204_68, s_204_73, s_204_76, s_204_79, s_204_82, a1, a2, b1, b3, kr.1, k49, k150, k152, k149, vi_bt, vi_bf, ne_eq, k227]
  exact hq
/-- refused: it says what isn't there -/
theorem lk_204n (hY : kY Y 112) (h9 : kY9 Y) (hS : wS M x y z t L R lw nl fo) {s : Int} (hs : 6 < s)
    (hQ : ∀ (M' : vi_M), (∀ p, p ≠ 29 → p ≠ 111 → M' p = M p) → Q (some (.inl (-1))) (Y, M', nn)) : vi_call GG (d + 70) 204 [.inr (.inr 29), .inl 0, .inl 0, .inl 0, .inl s] (Y, M, nn) Q := by
  obtain ⟨⟨⟨o1, o2, o3⟩, ⟨hh, hR⟩, ⟨w1, w2, w3, w4, w5, w6⟩, ⟨l6, l7⟩, hJ, h111⟩, hV⟩ := hS
  obtain ⟨a1, a2, a3, a4, a5, a6, a7, a8, a9, a10, a11, a12⟩ := y_29 h9
  obtain ⟨b1, b2, b3, b4, -⟩ := y_30 hY (by omega)
  have kr := kR_33 hY (by omega)
  have k49 := fun {K : Option vi_V → vi_W → Prop} => @k_49 (d + 67) 30 K Y M nn b1 0 0 0
  have k228a := fun {K : Option vi_V → vi_W → Prop} => @k_228_1 (d + 68) Y M nn K hY h9 ⟨h111.1, by omega⟩
  simp only [Nat.add_assoc, Nat.reduceAdd] at k49 k228a
  have hp : gPl (M 30 8) (M 30 9) (M 30 10) 0 0 0 = true := by
    rw [w1, w2, w3]
    obtain ⟨g1, g2, g3⟩ := w5
    unfold gPl gU gV
    exact decide_eq_true ⟨by omega, by omega, by omega, by rw [if_pos rfl]; omega, by omega, by rw [if_neg (by decide)]; omega⟩
  rw [hp] at k49
  have hq := hQ (vi_rs (vi_rs M 111 (vi_u (M 111) 0 (M 111 0 + 1))) 29 (vi_u (M 29) 11 (-1))) (fun p p1 p2 => by rw [vi_rs_o p1, vi_rs_o p2])
  clear hQ o1 o2 o3 hh hR w1 w2 w3 w4 w5 w6 l6 l7 hJ h111 hV hp
  simp (disch := omega) only [Option.toList_some, Option.toList_none, List.nil_append, List.cons_append, List.append_nil, true_and, and_true, not_true_eq_false, not_false_eq_true, true_implies, false_implies, implies_true, and_self, Int.reduceLT, Int.reduceLE, Int.reduceEq, Int.reduceNe, Int.reduceAdd, Int.reduceSub, Int.reduceMul, Int.reduceNeg, Int.reduceToNat, Int.toNat_natCast, ↓kk_ck, ↓kk_im, ↓kk_in, e_204, s_204_0, s_204_13, s_204_18, s_204_25, s_204_31, s_204_44, s_204_51, s_204_4, s_204_30, s_204_35, s_204_50, s_204_55, s_204_10, s_204_38, s_204_58, s_204_41, s_204_68, s_204_73, s_204_76, s_204_79, s_204_82, a1, a2, b1, b3, kr.1, k49, k228a, vi_bt, vi_bf, ne_eq]
  exact hq
theorem lk_205 (hY : kY Y 112) (h9 : kY9 Y) (hS : wS M x y z t L R lw nl fo)
    (hQ : ∀ (M' : vi_M), wS M' x y z t L [] lw nl fo → (∀ p, p ≠ 33 → M' p = M p) → Q (some (.inl (R.length : Int))) (Y, M', nn)) : vi_call GG (d + 70) 205 [.inr (.inr 29)] (Y, M, nn) Q := by
  obtain ⟨⟨⟨o1, o2, o3⟩, ⟨hh, hR⟩, ⟨w1, w2, w3, w4, w5, w6⟩, ⟨l6, l7⟩, hJ, h111⟩, hV⟩ := hS
  obtain ⟨a1, a2, a3, a4, a5, a6, a7, a8, a9, a10, a11, a12⟩ := y_29 h9
  obtain ⟨b1, b2, b3, b4, -⟩ := y_30 hY (by omega)
  have kr := kR_33 hY (by omega)
  have k154 := fun {K : Option vi_V → vi_W → Prop} => @k_154 (d + 68) 33 8 K Y M nn kr
  simp only [Nat.add_assoc, Nat.reduceAdd] at k154
  have hr0 : M 33 2 = (R.length : Int) := o2.1
  rw [hr0] at k154
  obtain ⟨M1, hM1⟩ : ∃ M1, M1 = vi_rs M 33 (vi_u (M 33) 2 0) := ⟨_, rfl⟩
  have m1 : ∀ p, p ≠ 33 → M1 p = M p := fun p p1 => by rw [hM1, vi_rs_o p1]
  have m33 : M1 33 = vi_u (M 33) 2 0 := by rw [hM1, vi_rs_s]
  rw [← hM1] at k154
  have hq := hQ M1 (by
    refine ⟨⟨⟨?_, ?_, ?_⟩, ⟨hh, Nat.zero_le _⟩, ?_, ?_, jJ_e hJ fun p hp => m1 p (by omega), ?_⟩, jV_c hV fun p p1 p2 => m1 p (by omega)⟩
    · rw [m1 31 (by decide), m1 32 (by decide)]; exact o1
    · rw [m33, m1 34 (by decide)]; exact ⟨by rw [vi_u_s]; rfl, fun r j hr => absurd hr (Nat.not_lt_zero _)⟩
    · rw [m1 35 (by decide), m1 36 (by decide)]; exact o3
    · rw [m1 30 (by decide)]; exact ⟨w1, w2, w3, w4, w5, w6⟩
    · rw [m1 30 (by decide)]; exact ⟨l6, l7⟩
    · rw [m1 111 (by decide)]; exact h111) m1
  clear hQ m1 m33 hM1 o1 o2 o3 hh hR w1 w2 w3 w4 w5 w6 l6 l7 hJ h111 hV
  simp (disch := omega) only [Option.toList_some, Option.toList_none, List.nil_append, List.cons_append, List.append_nil, true_and, and_true, not_true_eq_false, not_false_eq_true, true_implies, false_implies, implies_true, and_self, Int.reduceLT, Int.reduceLE, Int.reduceEq, Int.reduceNe, Int.reduceAdd, Int.reduceSub, Int.reduceMul, Int.reduceNeg, Int.reduceToNat, Int.toNat_natCast, ↓kk_ck, ↓kk_im, ↓kk_in, e_205, s_205_0, s_205_4, s_205_7, s_205_10, a1, a2, b1, b3, kr.1, k154, ne_eq]
  exact hq
end
