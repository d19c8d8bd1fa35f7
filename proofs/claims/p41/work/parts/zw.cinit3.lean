/-! The class's constructor, third part: the whole of it. -/
theorem yoM_a {p : Nat} (L L' : List (Nat × Nat × Nat × Int × (Nat → Int))) : ∀ t, yoM p t (L ++ L') = yoM p (yoM p t L) L' := by
  induction L with
  | nil => intro t; rfl
  | cons o r ih => intro t; exact ih _
theorem yoM_o {p b : Nat} (h : p < b) : ∀ (L : List (Nat × Nat × Nat × Int × (Nat → Int))), L.all (fun o => Nat.beq o.1 1 || Nat.ble b o.2.1) = true → ∀ t, yoM p t L = t := by
  intro L
  induction L with
  | nil => intro _ t; rfl
  | cons o r ih =>
    intro hL t
    rw [List.all_cons, Bool.and_eq_true, Bool.or_eq_true] at hL
    rw [yoM, ih hL.2]
    obtain ⟨c, q, k, v, g⟩ := o
    rcases hL.1 with h1 | h1
    · have : c = 1 := Nat.eq_of_beq_eq_true h1
      subst this
      rfl
    · have : b ≤ q := Nat.le_of_ble_eq_true h1
      show cond (Nat.beq c 0 && Nat.beq q p) g (cond (Nat.ble 2 c && Nat.beq q p) (vi_u t k v) t) = t
      rw [show Nat.beq q p = false from by rw [ynb_f]; omega, Bool.and_false, Bool.and_false]
      rfl
def lB : List (Nat × Nat × Nat × Int × (Nat → Int)) := l_188_29_0 ++ (l_188_29_1 ++ l_188_29_2)
def lD : List (Nat × Nat × Nat × Int × (Nat → Int)) := l_188_29_4 ++ (l_188_29_5 ++ (l_188_29_6 ++ (l_188_29_7 ++ (l_188_29_8 ++ (l_188_29_9 ++ l_188_29_10)))))
def lC : List (Nat × Nat × Nat × Int × (Nat → Int)) := lB ++ (lA ++ ((1, 29, 3, 60, fun _ => 0) :: lD))
theorem lC_K : yoK lC = true := by decide +kernel
theorem lB_K : yoK lB = true := by decide +kernel
theorem lB_30 : yoC lB 30 = true := by decide +kernel
theorem lB_31 : yoC lB 31 = true := by decide +kernel
theorem lB_32 : yoC lB 32 = true := by decide +kernel
theorem lB_33 : yoC lB 33 = true := by decide +kernel
theorem lB_34 : yoC lB 34 = true := by decide +kernel
theorem lB_35 : yoC lB 35 = true := by decide +kernel
theorem lB_36 : yoC lB 36 = true := by decide +kernel
theorem lB_37 : yoC lB 37 = true := by decide +kernel
theorem lB_38 : yoC lB 38 = true := by decide +kernel
theorem lB_39 : yoC lB 39 = true := by decide +kernel
theorem lB_40 : yoC lB 40 = true := by decide +kernel
theorem lB_41 : yoC lB 41 = true := by decide +kernel
theorem lB_42 : yoC lB 42 = true := by decide +kernel
theorem lB_43 : yoC lB 43 = true := by decide +kernel
theorem lB_44 : yoC lB 44 = true := by decide +kernel
theorem lB_45 : yoC lB 45 = true := by decide +kernel
theorem lB_46 : yoC lB 46 = true := by decide +kernel
theorem lB_47 : yoC lB 47 = true := by decide +kernel
theorem lB_48 : yoC lB 48 = true := by decide +kernel
theorem lB_49 : yoC lB 49 = true := by decide +kernel
theorem lB_50 : yoC lB 50 = true := by decide +kernel
theorem lB_51 : yoC lB 51 = true := by decide +kernel
theorem lB_52 : yoC lB 52 = true := by decide +kernel
theorem lB_53 : yoC lB 53 = true := by decide +kernel
theorem lB_54 : yoC lB 54 = true := by decide +kernel
theorem lB_55 : yoC lB 55 = true := by decide +kernel
theorem lB_56 : yoC lB 56 = true := by decide +kernel
theorem lB_57 : yoC lB 57 = true := by decide +kernel
theorem lB_58 : yoC lB 58 = true := by decide +kernel
theorem lB_59 : yoC lB 59 = true := by decide +kernel
theorem lC_30 : yoC lC 30 = true := by decide +kernel
theorem lC_31 : yoC lC 31 = true := by decide +kernel
theorem lC_32 : yoC lC 32 = true := by decide +kernel
theorem lC_33 : yoC lC 33 = true := by decide +kernel
theorem lC_34 : yoC lC 34 = true := by decide +kernel
theorem lC_35 : yoC lC 35 = true := by decide +kernel
theorem lC_36 : yoC lC 36 = true := by decide +kernel
theorem lC_37 : yoC lC 37 = true := by decide +kernel
theorem lC_38 : yoC lC 38 = true := by decide +kernel
theorem lC_39 : yoC lC 39 = true := by decide +kernel
theorem lC_40 : yoC lC 40 = true := by decide +kernel
theorem lC_41 : yoC lC 41 = true := by decide +kernel
theorem lC_42 : yoC lC 42 = true := by decide +kernel
theorem lC_43 : yoC lC 43 = true := by decide +kernel
theorem lC_44 : yoC lC 44 = true := by decide +kernel
theorem lC_45 : yoC lC 45 = true := by decide +kernel
theorem lC_46 : yoC lC 46 = true := by decide +kernel
theorem lC_47 : yoC lC 47 = true := by decide +kernel
theorem lC_48 : yoC lC 48 = true := by decide +kernel
theorem lC_49 : yoC lC 49 = true := by decide +kernel
theorem lC_50 : yoC lC 50 = true := by decide +kernel
theorem lC_51 : yoC lC 51 = true := by decide +kernel
theorem lC_52 : yoC lC 52 = true := by decide +kernel
theorem lC_53 : yoC lC 53 = true := by decide +kernel
theorem lC_54 : yoC lC 54 = true := by decide +kernel
theorem lC_55 : yoC lC 55 = true := by decide +kernel
theorem lC_56 : yoC lC 56 = true := by decide +kernel
theorem lC_57 : yoC lC 57 = true := by decide +kernel
theorem lC_58 : yoC lC 58 = true := by decide +kernel
theorem lC_59 : yoC lC 59 = true := by decide +kernel
theorem lC_60 : yoC lC 60 = true := by decide +kernel
theorem lC_61 : yoC lC 61 = true := by decide +kernel
theorem lC_62 : yoC lC 62 = true := by decide +kernel
theorem lC_63 : yoC lC 63 = true := by decide +kernel
theorem lC_64 : yoC lC 64 = true := by decide +kernel
theorem lC_65 : yoC lC 65 = true := by decide +kernel
theorem lC_66 : yoC lC 66 = true := by decide +kernel
theorem lC_67 : yoC lC 67 = true := by decide +kernel
theorem lC_68 : yoC lC 68 = true := by decide +kernel
theorem lC_69 : yoC lC 69 = true := by decide +kernel
theorem lC_70 : yoC lC 70 = true := by decide +kernel
theorem lC_71 : yoC lC 71 = true := by decide +kernel
theorem lC_72 : yoC lC 72 = true := by decide +kernel
theorem lC_73 : yoC lC 73 = true := by decide +kernel
theorem lC_74 : yoC lC 74 = true := by decide +kernel
theorem lC_75 : yoC lC 75 = true := by decide +kernel
theorem lC_76 : yoC lC 76 = true := by decide +kernel
theorem lC_77 : yoC lC 77 = true := by decide +kernel
theorem lC_78 : yoC lC 78 = true := by decide +kernel
theorem lC_79 : yoC lC 79 = true := by decide +kernel
theorem lC_80 : yoC lC 80 = true := by decide +kernel
theorem lC_81 : yoC lC 81 = true := by decide +kernel
theorem lC_82 : yoC lC 82 = true := by decide +kernel
theorem lC_83 : yoC lC 83 = true := by decide +kernel
theorem lC_84 : yoC lC 84 = true := by decide +kernel
theorem lC_85 : yoC lC 85 = true := by decide +kernel
theorem lC_86 : yoC lC 86 = true := by decide +kernel
theorem lC_87 : yoC lC 87 = true := by decide +kernel
theorem lC_88 : yoC lC 88 = true := by decide +kernel
theorem lC_89 : yoC lC 89 = true := by decide +kernel
theorem lC_90 : yoC lC 90 = true := by decide +kernel
theorem lC_91 : yoC lC 91 = true := by decide +kernel
theorem lC_92 : yoC lC 92 = true := by decide +kernel
theorem lC_93 : yoC lC 93 = true := by decide +kernel
theorem lC_94 : yoC lC 94 = true := by decide +kernel
theorem lC_95 : yoC lC 95 = true := by decide +kernel
theorem lC_96 : yoC lC 96 = true := by decide +kernel
theorem lC_97 : yoC lC 97 = true := by decide +kernel
theorem lC_98 : yoC lC 98 = true := by decide +kernel
theorem lC_99 : yoC lC 99 = true := by decide +kernel
theorem lC_100 : yoC lC 100 = true := by decide +kernel
theorem lC_101 : yoC lC 101 = true := by decide +kernel
theorem lC_102 : yoC lC 102 = true := by decide +kernel
theorem lC_103 : yoC lC 103 = true := by decide +kernel
theorem lC_104 : yoC lC 104 = true := by decide +kernel
theorem lC_105 : yoC lC 105 = true := by decide +kernel
theorem lC_106 : yoC lC 106 = true := by decide +kernel
theorem lC_107 : yoC lC 107 = true := by decide +kernel
theorem lC_108 : yoC lC 108 = true := by decide +kernel
theorem lC_109 : yoC lC 109 = true := by decide +kernel
theorem lC_110 : yoC lC 110 = true := by decide +kernel
theorem lC_111 : yoC lC 111 = true := by decide +kernel
theorem lB_c : ∀ q, q < 30 → yoC lB (30 + q) = true := by
  intro q hq
  match q, hq with
  | 0, _ => exact lB_30
  | 1, _ => exact lB_31
  | 2, _ => exact lB_32
  | 3, _ => exact lB_33
  | 4, _ => exact lB_34
  | 5, _ => exact lB_35
  | 6, _ => exact lB_36
  | 7, _ => exact lB_37
  | 8, _ => exact lB_38
  | 9, _ => exact lB_39
  | 10, _ => exact lB_40
  | 11, _ => exact lB_41
  | 12, _ => exact lB_42
  | 13, _ => exact lB_43
  | 14, _ => exact lB_44
  | 15, _ => exact lB_45
  | 16, _ => exact lB_46
  | 17, _ => exact lB_47
  | 18, _ => exact lB_48
  | 19, _ => exact lB_49
  | 20, _ => exact lB_50
  | 21, _ => exact lB_51
  | 22, _ => exact lB_52
  | 23, _ => exact lB_53
  | 24, _ => exact lB_54
  | 25, _ => exact lB_55
  | 26, _ => exact lB_56
  | 27, _ => exact lB_57
  | 28, _ => exact lB_58
  | 29, _ => exact lB_59
  | q + 30, h => exact absurd h (by omega)
theorem lC_c : ∀ q, q < 82 → yoC lC (30 + q) = true := by
  intro q hq
  match q, hq with
  | 0, _ => exact lC_30
  | 1, _ => exact lC_31
  | 2, _ => exact lC_32
  | 3, _ => exact lC_33
  | 4, _ => exact lC_34
  | 5, _ => exact lC_35
  | 6, _ => exact lC_36
  | 7, _ => exact lC_37
  | 8, _ => exact lC_38
  | 9, _ => exact lC_39
  | 10, _ => exact lC_40
  | 11, _ => exact lC_41
  | 12, _ => exact lC_42
  | 13, _ => exact lC_43
  | 14, _ => exact lC_44
  | 15, _ => exact lC_45
  | 16, _ => exact lC_46
  | 17, _ => exact lC_47
  | 18, _ => exact lC_48
  | 19, _ => exact lC_49
  | 20, _ => exact lC_50
  | 21, _ => exact lC_51
  | 22, _ => exact lC_52
  | 23, _ => exact lC_53
  | 24, _ => exact lC_54
  | 25, _ => exact lC_55
  | 26, _ => exact lC_56
  | 27, _ => exact lC_57
  | 28, _ => exact lC_58
  | 29, _ => exact lC_59
  | 30, _ => exact lC_60
  | 31, _ => exact lC_61
  | 32, _ => exact lC_62
  | 33, _ => exact lC_63
  | 34, _ => exact lC_64
  | 35, _ => exact lC_65
  | 36, _ => exact lC_66
  | 37, _ => exact lC_67
  | 38, _ => exact lC_68
  | 39, _ => exact lC_69
  | 40, _ => exact lC_70
  | 41, _ => exact lC_71
  | 42, _ => exact lC_72
  | 43, _ => exact lC_73
  | 44, _ => exact lC_74
  | 45, _ => exact lC_75
  | 46, _ => exact lC_76
  | 47, _ => exact lC_77
  | 48, _ => exact lC_78
  | 49, _ => exact lC_79
  | 50, _ => exact lC_80
  | 51, _ => exact lC_81
  | 52, _ => exact lC_82
  | 53, _ => exact lC_83
  | 54, _ => exact lC_84
  | 55, _ => exact lC_85
  | 56, _ => exact lC_86
  | 57, _ => exact lC_87
  | 58, _ => exact lC_88
  | 59, _ => exact lC_89
  | 60, _ => exact lC_90
  | 61, _ => exact lC_91
  | 62, _ => exact lC_92
  | 63, _ => exact lC_93
  | 64, _ => exact lC_94
  | 65, _ => exact lC_95
  | 66, _ => exact lC_96
  | 67, _ => exact lC_97
  | 68, _ => exact lC_98
  | 69, _ => exact lC_99
  | 70, _ => exact lC_100
  | 71, _ => exact lC_101
  | 72, _ => exact lC_102
  | 73, _ => exact lC_103
  | 74, _ => exact lC_104
  | 75, _ => exact lC_105
  | 76, _ => exact lC_106
  | 77, _ => exact lC_107
  | 78, _ => exact lC_108
  | 79, _ => exact lC_109
  | 80, _ => exact lC_110
  | 81, _ => exact lC_111
  | q + 82, h => exact absurd h (by omega)
theorem lB_Y {w : vi_W} : kY (ywO w lB).1 60 := by
  intro p h1 h2
  exact @yoC_Y w lB p lB_K (by have := lB_c (p - 30) (by omega); rw [show 30 + (p - 30) = p by omega] at this; exact this)
theorem lC_Y {w : vi_W} : kY (ywO w lC).1 112 := by
  intro p h1 h2
  exact @yoC_Y w lC p lC_K (by have := lC_c (p - 30) (by omega); rw [show 30 + (p - 30) = p by omega] at this; exact this)
theorem lC_9 {w : vi_W} (h : w.1.1 29 = 31) (hf : ∀ k, w.1.2.2 29 k = 0) : kY9 (ywO w lC).1 := by
  refine ⟨by rw [ywO_T, h]; decide +kernel, fun k => ?_⟩
  rw [ywO_F, hf]
  by_cases hk : k < 64
  · have : (List.range 64).all (fun k => decide (yoF 29 k 0 lC = yF 29 k)) = true := by decide +kernel
    exact of_decide_eq_true (List.all_eq_true.mp this k (List.mem_range.mpr hk))
  · obtain ⟨j, rfl⟩ : ∃ j, k = j + 64 := ⟨k - 64, by omega⟩
    rw [yoF_z (by omega) lC_K, yF_z]
theorem lC_N {p : Nat} (h1 : 30 ≤ p) (h2 : p < 112) : yoN p lC = true := by
  have := lC_c (p - 30) (by omega)
  rw [show 30 + (p - 30) = p by omega, yoC, Bool.and_eq_true] at this
  exact this.1
theorem lC_s : yoS lC = 8228 := by decide +kernel
section
variable {d : Nat} {Q : Option vi_V → vi_W → Prop}
theorem k_188 {w : vi_W} (hn : w.2.2.1 = 30) (h : w.1.1 29 = 31) (hf : ∀ k, w.1.2.2 29 k = 0)
    (hQ : ∀ M', (∀ p, p < 30 → M' p = w.2.1 p) → M' 61 = vi_m 216 (fun c => (hC 5 5 5 [] (c : Int) : Int)) (fun _ => 0) → M' 62 = gW 5 5 5 [] gNo 216 (fun _ => 0) → M' 64 = cR (sBox 5 5 5) → M' 66 = cR (gP 5 5 5 [] gNo 216) → M' 68 = cR (gS 5 5 5 [] gNo 216) → (∀ p, 30 ≤ p → p < 112 → p ≠ 61 → p ≠ 62 → p ≠ 64 → p ≠ 66 → p ≠ 68 → M' p = yoM p (fun _ => 0) lC) →
      Q none ((ywO w lC).1, M', 112, w.2.2.2 + 8228)) : vi_call GG (d + 14) 188 [.inr (.inr 29)] w Q := by
  have e0 : vi_ok GG (d + 13) 188 4 [some (.inr (.inr 29))] [] w Q → vi_ok GG (d + 13) 188 0 [some (.inr (.inr 29))] [] w Q := by
    obtain ⟨Y, M, n, m⟩ := w
    have h : Y.1 29 = 31 := h
    intro hq
    clear hQ
    simp (disch := omega) only [Option.toList_some, Option.toList_none, List.nil_append, List.cons_append, List.append_nil, true_and, and_true, not_true_eq_false, not_false_eq_true, true_implies, false_implies, implies_true, and_self, Int.reduceLT, Int.reduceLE, Int.reduceEq, Int.reduceNe, Int.reduceAdd, Int.reduceSub, Int.reduceMul, Int.reduceNeg, Int.reduceToNat, Int.toNat_natCast, ↓kk_ck, ↓kk_im, ↓kk_in, s_188_0, h, ne_eq]
    exact hq
  rw [e_188]
  refine e0 ?_
  clear e0
  refine c_188_29_0 hn h ?_
  obtain ⟨w1, e1⟩ : ∃ v, v = ywO w l_188_29_0 := ⟨_, rfl⟩
  have n1 : w1.2.2.1 = 40 := by rw [e1, ywO_n, hn]; show 30 + yoP l_188_29_0 = 40; rw [show yoP l_188_29_0 = 10 by decide +kernel]
  have h1 : w1.1.1 29 = 31 := by rw [e1, ywO_T, h]; decide +kernel
  rw [← e1]
  refine c_188_29_1 n1 h1 ?_
  obtain ⟨w2, e2⟩ : ∃ v, v = ywO w1 l_188_29_1 := ⟨_, rfl⟩
  have n2 : w2.2.2.1 = 50 := by rw [e2, ywO_n, n1]; show 40 + yoP l_188_29_1 = 50; rw [show yoP l_188_29_1 = 10 by decide +kernel]
  have h2 : w2.1.1 29 = 31 := by rw [e2, ywO_T, h1]; decide +kernel
  rw [← e2]
  refine c_188_29_2 n2 h2 ?_
  obtain ⟨w3, e3⟩ : ∃ v, v = ywO w2 l_188_29_2 := ⟨_, rfl⟩
  have n3 : w3.2.2.1 = 60 := by rw [e3, ywO_n, n2]; show 50 + yoP l_188_29_2 = 60; rw [show yoP l_188_29_2 = 10 by decide +kernel]
  have h3 : w3.1.1 29 = 31 := by rw [e3, ywO_T, h2]; decide +kernel
  rw [← e3]
  have eB : w3 = ywO w lB := by rw [e3, e2, e1, lB, ywO_a, ywO_a]
  have f3 : (w3.1.2.2 29 0).toNat = 30 := by rw [eB, ywO_F, hf]; decide +kernel
  have mB : ∀ p, yoN p lB = true → w3.2.1 p = yoM p (fun _ => 0) lB := fun p hp => by rw [eB, ywO_M]; exact yoM_n hp
  clear e1 e2 e3 n1 n2 h1 h2
  clear w1 w2
  refine c_188_29_3 n3 h3 f3 (by rw [eB]; exact lB_Y) (by rw [mB 30 (by decide +kernel)]; rfl) (by rw [mB 30 (by decide +kernel)]; rfl) (by rw [mB 30 (by decide +kernel)]; rfl) (by rw [mB 30 (by decide +kernel)]; rfl) (by rw [mB 30 (by decide +kernel)]; rfl) (by rw [mB 31 (by decide +kernel)]; rfl) fun M1 g1 g2 g3 g4 g5 g6 => ?_
  obtain ⟨w4, e4⟩ : ∃ v : vi_W, v = (vi_yfin (ywO w3 lA).1 29 3 60, M1, (ywO w3 lA).2.2) := ⟨_, rfl⟩
  have eY : w4.1 = (ywO (ywO w3 lA) [(1, 29, 3, 60, fun _ => 0)]).1 := by rw [e4]; rfl
  have n4 : w4.2.2.1 = 73 := by rw [e4]; show (ywO w3 lA).2.2.1 = 73; rw [ywO_n, n3]; show 60 + yoP lA = 73; rw [show yoP lA = 13 by decide +kernel]
  have m4 : w4.2.2.2 = w3.2.2.2 + yoS lA := by rw [e4]; show (ywO w3 lA).2.2.2 = _; rw [ywO_n]
  have h4 : w4.1.1 29 = 31 := by rw [eY, ywO_T, ywO_T, h3]; decide +kernel
  have f4 : (w4.1.2.2 29 0).toNat = 30 := by rw [eY, ywO_F, ywO_F, eB, ywO_F, hf]; decide +kernel
  have f5 : (w4.1.2.2 29 3).toNat = 60 := by rw [eY, ywO_F, ywO_F, eB, ywO_F, hf]; decide +kernel
  have v4 : w4.2.1 = M1 := by rw [e4]
  rw [← e4]
  clear e4
  refine c_188_29_4 n4 h4 f4 f5 ?_
  obtain ⟨w5, e5⟩ : ∃ v, v = ywO w4 l_188_29_4 := ⟨_, rfl⟩
  have n5 : w5.2.2.1 = 77 := by rw [e5, ywO_n, n4]; show 73 + yoP l_188_29_4 = 77; rw [show yoP l_188_29_4 = 4 by decide +kernel]
  have h5 : w5.1.1 29 = 31 := by rw [e5, ywO_T, h4]; decide +kernel
  have f5a : (w5.1.2.2 29 0).toNat = 30 := by rw [e5, ywO_F, show ∀ t, yoF 29 0 t l_188_29_4 = t from fun t => rfl]; exact f4
  have f5b : (w5.1.2.2 29 3).toNat = 60 := by rw [e5, ywO_F, show ∀ t, yoF 29 3 t l_188_29_4 = t from fun t => rfl]; exact f5
  rw [← e5]
  refine c_188_29_5 n5 h5 f5a f5b ?_
  obtain ⟨w6, e6⟩ : ∃ v, v = ywO w5 l_188_29_5 := ⟨_, rfl⟩
  have n6 : w6.2.2.1 = 88 := by rw [e6, ywO_n, n5]; show 77 + yoP l_188_29_5 = 88; rw [show yoP l_188_29_5 = 11 by decide +kernel]
  have h6 : w6.1.1 29 = 31 := by rw [e6, ywO_T, h5]; decide +kernel
  have f6a : (w6.1.2.2 29 0).toNat = 30 := by rw [e6, ywO_F, show ∀ t, yoF 29 0 t l_188_29_5 = t from fun t => rfl]; exact f5a
  have f6b : (w6.1.2.2 29 3).toNat = 60 := by rw [e6, ywO_F, show ∀ t, yoF 29 3 t l_188_29_5 = t from fun t => rfl]; exact f5b
  rw [← e6]
  refine c_188_29_6 n6 h6 f6a f6b ?_
  obtain ⟨w7, e7⟩ : ∃ v, v = ywO w6 l_188_29_6 := ⟨_, rfl⟩
  have n7 : w7.2.2.1 = 97 := by rw [e7, ywO_n, n6]; show 88 + yoP l_188_29_6 = 97; rw [show yoP l_188_29_6 = 9 by decide +kernel]
  have h7 : w7.1.1 29 = 31 := by rw [e7, ywO_T, h6]; decide +kernel
  have f7a : (w7.1.2.2 29 0).toNat = 30 := by rw [e7, ywO_F, show ∀ t, yoF 29 0 t l_188_29_6 = t from fun t => rfl]; exact f6a
  have f7b : (w7.1.2.2 29 3).toNat = 60 := by rw [e7, ywO_F, show ∀ t, yoF 29 3 t l_188_29_6 = t from fun t => rfl]; exact f6b
  rw [← e7]
  refine c_188_29_7 n7 h7 f7a f7b ?_
  obtain ⟨w8, e8⟩ : ∃ v, v = ywO w7 l_188_29_7 := ⟨_, rfl⟩
  have n8 : w8.2.2.1 = 103 := by rw [e8, ywO_n, n7]; show 97 + yoP l_188_29_7 = 103; rw [show yoP l_188_29_7 = 6 by decide +kernel]
  have h8 : w8.1.1 29 = 31 := by rw [e8, ywO_T, h7]; decide +kernel
  have f8a : (w8.1.2.2 29 0).toNat = 30 := by rw [e8, ywO_F, show ∀ t, yoF 29 0 t l_188_29_7 = t from fun t => rfl]; exact f7a
  have f8b : (w8.1.2.2 29 3).toNat = 60 := by rw [e8, ywO_F, show ∀ t, yoF 29 3 t l_188_29_7 = t from fun t => rfl]; exact f7b
  rw [← e8]
  refine c_188_29_8 n8 h8 f8a f8b ?_
  obtain ⟨w9, e9⟩ : ∃ v, v = ywO w8 l_188_29_8 := ⟨_, rfl⟩
  have n9 : w9.2.2.1 = 107 := by rw [e9, ywO_n, n8]; show 103 + yoP l_188_29_8 = 107; rw [show yoP l_188_29_8 = 4 by decide +kernel]
  have h9 : w9.1.1 29 = 31 := by rw [e9, ywO_T, h8]; decide +kernel
  have f9a : (w9.1.2.2 29 0).toNat = 30 := by rw [e9, ywO_F, show ∀ t, yoF 29 0 t l_188_29_8 = t from fun t => rfl]; exact f8a
  have f9b : (w9.1.2.2 29 3).toNat = 60 := by rw [e9, ywO_F, show ∀ t, yoF 29 3 t l_188_29_8 = t from fun t => rfl]; exact f8b
  rw [← e9]
  refine c_188_29_9 n9 h9 f9a f9b ?_
  obtain ⟨w10, e10⟩ : ∃ v, v = ywO w9 l_188_29_9 := ⟨_, rfl⟩
  have n10 : w10.2.2.1 = 111 := by rw [e10, ywO_n, n9]; show 107 + yoP l_188_29_9 = 111; rw [show yoP l_188_29_9 = 4 by decide +kernel]
  have h10 : w10.1.1 29 = 31 := by rw [e10, ywO_T, h9]; decide +kernel
  have f10a : (w10.1.2.2 29 0).toNat = 30 := by rw [e10, ywO_F, show ∀ t, yoF 29 0 t l_188_29_9 = t from fun t => rfl]; exact f9a
  have f10b : (w10.1.2.2 29 3).toNat = 60 := by rw [e10, ywO_F, show ∀ t, yoF 29 3 t l_188_29_9 = t from fun t => rfl]; exact f9b
  rw [← e10]
  refine c_188_29_10 n10 h10 f10a f10b ?_
  obtain ⟨w11, e11⟩ : ∃ v, v = ywO w10 l_188_29_10 := ⟨_, rfl⟩
  have n11 : w11.2.2.1 = 112 := by rw [e11, ywO_n, n10]; show 111 + yoP l_188_29_10 = 112; rw [show yoP l_188_29_10 = 1 by decide +kernel]
  have h11 : w11.1.1 29 = 31 := by rw [e11, ywO_T, h10]; decide +kernel
  have f11a : (w11.1.2.2 29 0).toNat = 30 := by rw [e11, ywO_F, show ∀ t, yoF 29 0 t l_188_29_10 = t from fun t => rfl]; exact f10a
  have f11b : (w11.1.2.2 29 3).toNat = 60 := by rw [e11, ywO_F, show ∀ t, yoF 29 3 t l_188_29_10 = t from fun t => rfl]; exact f10b
  rw [← e11]
  have eD : w11 = ywO w4 lD := by rw [e11, e10, e9, e8, e7, e6, e5, lD, ywO_a, ywO_a, ywO_a, ywO_a, ywO_a, ywO_a]
  have mD : w11.2.2.2 = w.2.2.2 + 8228 := by
    rw [eD, ywO_n, m4, eB, ywO_n]
    show w.2.2.2 + yoS lB + yoS lA + yoS lD = _
    rw [show yoS lB = 1020 by decide +kernel, show yoS lA = 475 by decide +kernel, show yoS lD = 6733 by decide +kernel]
  have yD : w11.1 = (ywO w lC).1 := by
    rw [eD, lC, ywO_a, ywO_a, ywO_c]
    refine ywO_Y _ ?_
    rw [eY, eB]
    rfl
  have vD : ∀ p, w11.2.1 p = yoM p (M1 p) lD := fun p => by rw [eD, ywO_M, v4]
  have := hQ w11.2.1 (fun p hp => by
      rw [vD, yoM_o hp lD (by decide +kernel), g6 p (by omega) (by omega) (by omega) (by omega) (by omega) (by omega), ywO_M, yoM_o hp lA (by decide +kernel), eB, ywO_M, yoM_o hp lB (by decide +kernel)])
    ((vD 61).trans g1) ((vD 62).trans g2) ((vD 64).trans g3) ((vD 66).trans g4) ((vD 68).trans g5) (fun p h1 h2 a1 a2 a3 a4 a5 => by
      rw [vD, g6 p (by omega) a1 a2 a3 a4 a5, ywO_M, eB, ywO_M, ← yoM_a, ← yoM_a]
      have e : ∀ t, yoM p t lC = yoM p t (lB ++ (lA ++ lD)) := fun t => by rw [lC, yoM_a, yoM_a, yoM_a, yoM_a]; rfl
      rw [← e]
      exact yoM_n (lC_N h1 h2))
  rw [← yD, ← mD, ← n11] at this
  exact s_188_153.mpr this
end
