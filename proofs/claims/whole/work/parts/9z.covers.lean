/-! isOn, marks, covers, views (reference): the fewest cells of the same sight. -/
noncomputable def dP (p : Prop) : Bool := @decide p (Classical.propDecidable p)
theorem dP_t {p : Prop} (h : p) : dP p = true := @decide_eq_true p (Classical.propDecidable p) h
theorem dP_f {p : Prop} (h : ¬ p) : dP p = false := @decide_eq_false p (Classical.propDecidable p) h
theorem dP_iff {p : Prop} : dP p = true ↔ p := @decide_eq_true_iff p (Classical.propDecidable p)
def onB (M : vi_M) (l c : Nat) : Bool := sLn (M 130 l) (M 131 l) (M 132 l) c
theorem mAl0 {c : Nat} : mAl (c : Int) 0 = ((c % 6 : Nat) : Int) := by unfold mAl; rw [if_pos rfl]; omega
theorem mAl1 {c : Nat} : mAl (c : Int) 1 = ((c / 6 % 6 : Nat) : Int) := by unfold mAl; rw [if_neg (by omega), if_pos rfl]; omega
theorem mAl2 {c : Nat} : mAl (c : Int) 2 = ((c / 36 : Nat) : Int) := by unfold mAl; rw [if_neg (by omega), if_neg (by omega)]; omega
/-- lists of lines: in rising order -/
def lsC (x : Nat × Nat × Nat) : Nat := 36 * x.1 + 6 * x.2.1 + x.2.2
theorem lsV_o {a u : Nat} : ∀ v : Nat, (lsV a u v).Pairwise (fun x y => lsC x < lsC y)
  | 0 => List.Pairwise.nil
  | v + 1 => by
    rw [lsV, List.pairwise_append]
    refine ⟨lsV_o v, List.pairwise_singleton _ _, fun x hx y hy => ?_⟩
    rw [List.mem_singleton] at hy
    subst hy
    obtain ⟨h1, h2, h3⟩ := lsV_m v hx
    unfold lsC
    dsimp only
    rw [h1, h2]; omega
theorem lsU_o {a V : Nat} (hV : V ≤ 6) : ∀ u : Nat, (lsU a V u).Pairwise (fun x y => lsC x < lsC y)
  | 0 => List.Pairwise.nil
  | u + 1 => by
    rw [lsU, List.pairwise_append]
    refine ⟨lsU_o hV u, lsV_o V, fun x hx y hy => ?_⟩
    obtain ⟨h1, h2, h3⟩ := lsU_m u hx
    obtain ⟨k1, k2, k3⟩ := lsV_m V hy
    unfold lsC
    rw [h1, k1, k2]; omega
theorem lsA_o {M : vi_M} (hB : mBx M) : ∀ a : Nat, (lsA (M 114) a).Pairwise (fun x y => lsC x < lsC y)
  | 0 => List.Pairwise.nil
  | a + 1 => by
    rw [lsA, List.pairwise_append]
    obtain ⟨-, s2⟩ := sz_r hB (a := a)
    refine ⟨lsA_o hB a, lsU_o s2.2.1 _, fun x hx y hy => ?_⟩
    obtain ⟨h1, h2, h3⟩ := lsA_m a hx
    obtain ⟨k1, k2, k3⟩ := lsU_m _ hy
    obtain ⟨s3, s4⟩ := sz_r hB (a := x.1)
    unfold lsC
    rw [k1]; omega
theorem lnA_i {M : vi_M} (hB : mBx M) (hA : lnA M) {i j : Nat} (hi : i < (lsA (M 114) 3).length) (hj : j < (lsA (M 114) 3).length) (h0 : M 130 i = M 130 j) (h1 : M 131 i = M 131 j) (h2 : M 132 i = M 132 j) : i = j := by
  obtain ⟨a1, a2, a3⟩ := hA.2 i hi
  obtain ⟨b1, b2, b3⟩ := hA.2 j hj
  have ho := List.pairwise_iff_getElem.mp (lsA_o hB 3)
  rcases Nat.lt_trichotomy i j with q | q | q
  · have := ho i j hi hj q
    unfold lsC at this; omega
  · exact q
  · have := ho j i hj hi q
    unfold lsC at this; omega
theorem sN_one {k : Nat} {f : Nat → Bool} (h : ∀ i j, i < k → j < k → f i = true → f j = true → i = j) : sN k f ≤ 1 := by
  induction k with
  | zero => rw [sN]; omega
  | succ k ih =>
    rw [sN]
    have ih := ih (fun i j hi hj => h i j (by omega) (by omega))
    cases hk : f k
    · simp; exact ih
    · have : sN k f = 0 := sN_0.mpr fun i hi => by
        cases hi2 : f i
        · rfl
        · have := h i k (by omega) (by omega) hi2 hk; omega
      rw [this]; simp
theorem sN_or {k : Nat} {f g h : Nat → Bool} (e : ∀ i, i < k → f i = true → g i = true ∨ h i = true) : sN k f ≤ sN k g + sN k h := by
  induction k with
  | zero => simp [sN]
  | succ k ih =>
    have ih := ih (fun i hi => e i (by omega))
    rw [sN, sN, sN]
    cases hf : f k
    · simp; omega
    · rcases e k (by omega) hf with q | q
      · rw [q]; simp; omega
      · rw [q]; simp; omega
theorem on_3 {M : vi_M} (hB : mBx M) (hA : lnA M) {c : Nat} : sN (lsA (M 114) 3).length (fun l => onB M l c) ≤ 3 := by
  have key : ∀ a : Int, sN (lsA (M 114) 3).length (fun l => onB M l c && decide (M 130 l = a)) ≤ 1 := fun a => by
    refine sN_one fun i j hi hj h1 h2 => ?_
    simp only [Bool.and_eq_true, decide_eq_true_eq] at h1 h2
    obtain ⟨o1, e1⟩ := h1
    obtain ⟨o2, e2⟩ := h2
    unfold onB sLn at o1 o2
    rw [e1] at o1
    rw [e2] at o2
    have both : M 131 i = M 131 j ∧ M 132 i = M 132 j := by
      by_cases a0 : a = 0
      · rw [if_pos a0] at o1 o2
        simp only [decide_eq_true_eq] at o1 o2
        omega
      · rw [if_neg a0] at o1 o2
        by_cases a1 : a = 1
        · rw [if_pos a1] at o1 o2
          simp only [decide_eq_true_eq] at o1 o2
          omega
        · rw [if_neg a1] at o1 o2
          simp only [decide_eq_true_eq] at o1 o2
          omega
    exact lnA_i hB hA hi hj (by omega) both.1 both.2
  have h1 : sN (lsA (M 114) 3).length (fun l => onB M l c) ≤ sN (lsA (M 114) 3).length (fun l => onB M l c && decide (M 130 l = 0)) + sN (lsA (M 114) 3).length (fun l => onB M l c && decide (M 130 l ≠ 0)) := sN_or fun i _ h => by
    by_cases q : M 130 i = 0
    · left; rw [h]; simp [q]
    · right; rw [h]; simp [q]
  have h2 : sN (lsA (M 114) 3).length (fun l => onB M l c && decide (M 130 l ≠ 0)) ≤ sN (lsA (M 114) 3).length (fun l => onB M l c && decide (M 130 l = 1)) + sN (lsA (M 114) 3).length (fun l => onB M l c && decide (M 130 l = 2)) := sN_or fun i hi h => by
    have h3 := (hA.2 i hi).1
    have h4 := (lsA_m 3 (List.getElem_mem hi)).1
    simp only [Bool.and_eq_true, decide_eq_true_eq] at h ⊢
    by_cases q : M 130 i = 1
    · left; exact ⟨h.1, q⟩
    · right; exact ⟨h.1, by omega⟩
  have := key 0
  have := key 1
  have := key 2
  omega
/-- so many cells cover the dark rows that are not covered yet -/
def cvP (M : vi_M) (m : Nat) (f : Nat → Int) (n : Nat) : Prop := ∃ X : List Nat, X.length ≤ n ∧ (∀ c, c ∈ X → c < 216 ∧ M 136 c ≠ 0) ∧ ∀ l, l < m → dkL M l = true → f l ≤ 0 → ∃ c, c ∈ X ∧ onB M l c = true
def brB (M : vi_M) (f : Nat → Int) (l : Nat) : Bool := dkL M l && decide (f l ≤ 0)
theorem br_3 {M : vi_M} (hB : mBx M) (hA : lnA M) {f : Nat → Int} : ∀ X : List Nat, sN (lsA (M 114) 3).length (fun l => brB M f l && X.any (fun c => onB M l c)) ≤ 3 * X.length
  | [] => by
    rw [sN_0.mpr fun i _ => by simp]; omega
  | c :: X => by
    have ih := br_3 hB hA (f := f) X
    have h1 : sN (lsA (M 114) 3).length (fun l => brB M f l && (c :: X).any (fun c => onB M l c)) ≤ sN (lsA (M 114) 3).length (fun l => onB M l c) + sN (lsA (M 114) 3).length (fun l => brB M f l && X.any (fun c => onB M l c)) := sN_or fun i _ h => by
      rw [Bool.and_eq_true, List.any_cons, Bool.or_eq_true] at h
      rcases h.2 with q | q
      · exact .inl q
      · right; rw [h.1, q]; rfl
    have h2 := on_3 hB hA (c := c)
    rw [List.length_cons]
    omega
theorem cv_3 {M : vi_M} (hB : mBx M) (hA : lnA M) {f : Nat → Int} {n : Nat} (h : cvP M (lsA (M 114) 3).length f n) : sN (lsA (M 114) 3).length (brB M f) ≤ 3 * n := by
  obtain ⟨X, h1, h2, h3⟩ := h
  have h4 := br_3 hB hA (f := f) X
  have h5 : sN (lsA (M 114) 3).length (brB M f) = sN (lsA (M 114) 3).length (fun l => brB M f l && X.any (fun c => onB M l c)) := sN_c fun l hl => by
    cases hb : brB M f l
    · rfl
    · unfold brB at hb
      simp only [Bool.and_eq_true, decide_eq_true_eq] at hb
      obtain ⟨c, c1, c2⟩ := h3 l hl hb.1 hb.2
      rw [Bool.true_and]
      exact (List.any_eq_true.mpr ⟨c, c1, c2⟩).symm
  omega
theorem cv_0 {M : vi_M} {m : Nat} {f : Nat → Int} {n : Nat} (h : sN m (brB M f) = 0) : cvP M m f n := by
  refine ⟨[], by simp, fun c hc => (by cases hc), fun l hl hd hf => ?_⟩
  have := sN_0.mp h l hl
  unfold brB at this
  rw [hd, decide_eq_true hf] at this
  cases this
/-- the rows of a cell counted once more -/
def fO (M : vi_M) (m : Nat) (f : Nat → Int) (c : Nat) : Nat → Int := vi_m m (fun l => f l + if onB M l c = true then 1 else 0) f
theorem fO_e {M : vi_M} {m : Nat} {f : Nat → Int} {c l : Nat} (hl : l < m) : fO M m f c l = f l + if onB M l c = true then 1 else 0 := vi_m_lt hl
/-- the first bare row decides by one of its cells -/
theorem cv_s {M : vi_M} {m : Nat} {f : Nat → Int} {n i : Nat} (hi : i < m) (hbr : brB M f i = true) (h0 : ∀ l, l < m → 0 ≤ f l) : cvP M m f (n + 1) ↔ ∃ c, c < 216 ∧ M 136 c ≠ 0 ∧ onB M i c = true ∧ cvP M m (fO M m f c) n := by
  unfold brB at hbr
  simp only [Bool.and_eq_true, decide_eq_true_eq] at hbr
  constructor
  · rintro ⟨X, h1, h2, h3⟩
    obtain ⟨c, c1, c2⟩ := h3 i hi hbr.1 hbr.2
    refine ⟨c, (h2 c c1).1, (h2 c c1).2, c2, X.erase c, ?_, fun c' hc' => h2 c' (List.mem_of_mem_erase hc'), fun l hl hd hf => ?_⟩
    · have := List.length_erase_of_mem c1
      have := List.length_pos_of_mem c1
      omega
    · rw [fO_e hl] at hf
      have := h0 l hl
      cases ho : onB M l c
      · rw [ho, if_neg (by simp)] at hf
        obtain ⟨c', e1, e2⟩ := h3 l hl hd (by omega)
        refine ⟨c', ?_, e2⟩
        refine (List.mem_erase_of_ne ?_).mpr e1
        intro e; rw [e, ho] at e2; cases e2
      · rw [ho, if_pos rfl] at hf; omega
  · rintro ⟨c, k1, k2, k3, X, h1, h2, h3⟩
    refine ⟨c :: X, by rw [List.length_cons]; omega, fun c' hc' => ?_, fun l hl hd hf => ?_⟩
    · rcases List.mem_cons.mp hc' with rfl | h
      · exact ⟨k1, k2⟩
      · exact h2 c' h
    · cases ho : onB M l c
      · obtain ⟨c', e1, e2⟩ := h3 l hl hd (by rw [fO_e hl, ho, if_neg (by simp)]; omega)
        exact ⟨c', List.mem_cons_of_mem _ e1, e2⟩
      · exact ⟨c, List.mem_cons_self .., ho⟩
/-- the loop downwards: how many are bare, the last seen -/
def brN (b : Nat → Bool) (m : Nat) : Nat → Nat × Int
  | 0 => (0, -1)
  | k + 1 => if b (m - 1 - k) = true then ((brN b m k).1 + 1, ((m - 1 - k : Nat) : Int)) else brN b m k
theorem brN_n {b : Nat → Bool} {m : Nat} : ∀ k : Nat, k ≤ m → sN m b = sN (m - k) b + (brN b m k).1
  | 0, _ => by rw [brN, Nat.sub_zero]; rfl
  | k + 1, hk => by
    have ih := brN_n (b := b) (m := m) k (by omega)
    rw [show m - k = (m - 1 - k) + 1 by omega, sN] at ih
    rw [show m - (k + 1) = m - 1 - k by omega, brN]
    split
    · rename_i h
      rw [h] at ih
      dsimp only
      simp at ih
      omega
    · rename_i h
      rw [show b (m - 1 - k) = false by simpa using h] at ih
      simpa using ih
theorem brN_r {b : Nat → Bool} {m : Nat} : ∀ k : Nat, k ≤ m → (brN b m k).1 ≤ k ∧ (((brN b m k).1 = 0 ∧ (brN b m k).2 = -1) ∨ (0 < (brN b m k).1 ∧ ∃ i : Nat, (brN b m k).2 = (i : Int) ∧ i < m ∧ b i = true))
  | 0, _ => by rw [brN]; exact ⟨Nat.le_refl _, .inl ⟨rfl, rfl⟩⟩
  | k + 1, hk => by
    have ih := brN_r (b := b) (m := m) k (by omega)
    rw [brN]
    split
    · rename_i h
      exact ⟨by dsimp only; omega, .inr ⟨by dsimp only; omega, m - 1 - k, rfl, by omega, h⟩⟩
    · exact ⟨by omega, ih.2⟩
section
variable {D : Nat} {K : Option vi_V → vi_W → Prop} {Y : vi_Y} {M : vi_M} {nn : Nat × Nat} {Q : Option vi_V → vi_W → Prop}
theorem k_326 (hY : kY Y 151) {l c : Nat} (hl : l < 108) (ha : 0 ≤ M 130 l ∧ M 130 l ≤ 2) (hc : c < 216) (hD : 2 ≤ D) : vi_call GG D 326 [.inr (.inr 112), .inl (l : Int), .inl (c : Int)] (Y, M, nn) K ↔ K (some (.inl (vi_b (onB M l c)))) (Y, M, nn) := by
  obtain ⟨D, rfl⟩ : ∃ k, D = k + 1 := ⟨D - 1, by omega⟩
  obtain ⟨R1, -, R3, -, -, -, -, -, -, -, -, -, -, R27, R28, R29, R31, R32, R33, R34, R35, R36, R37, R38, R47, -⟩ := y_112 hY (by omega)
  obtain ⟨p1, p2⟩ := y_130 hY (by omega)
  obtain ⟨p3, p4⟩ := y_131 hY (by omega)
  obtain ⟨p5, p6⟩ := y_132 hY (by omega)
  refine vi_k (r := some (.inl _)) fun Q hQ => ?_
  have hcc : 0 ≤ (c : Int) ∧ (c : Int) < 216 := by omega
  unfold onB sLn at hQ
  obtain h | h | h : M 130 l = 0 ∨ M 130 l = 1 ∨ M 130 l = 2 := by omega
  · rw [h, if_pos rfl] at hQ
    by_cases q1 : ((c / 6 % 6 : Nat) : Int) = M 131 l
    · by_cases q2 : ((c / 36 : Nat) : Int) = M 132 l
      · rw [decide_eq_true ⟨q1, q2⟩] at hQ
        simp (disch := omega) only [Option.toList_some, Option.toList_none, List.nil_append, List.cons_append, List.append_nil, true_and, and_true, not_true_eq_false, not_false_eq_true, true_implies, false_implies, implies_true, and_self, Int.reduceLT, Int.reduceLE, Int.reduceEq, Int.reduceNe, Int.reduceAdd, Int.reduceSub, Int.reduceMul, Int.reduceNeg, Int.reduceToNat, Int.toNat_natCast, ↓kk_ck, ↓kk_im, ↓kk_in, e_326, s_326_0, s_326_4, s_326_6, s_326_11, s_326_13, s_326_18, s_326_23, s_326_26, s_326_29, s_326_33, s_326_35, s_326_45, s_326_46, s_326_49, s_326_52, s_326_57, R1, R33, R34, R35, p1, p2, p3, p4, p5, p6, Int.toNat_natCast, h, k_245 hcc, mAl1, mAl2, q1, q2, ne_eq]
        exact hQ
      · rw [decide_eq_false (fun k => q2 k.2)] at hQ
        have q2' : ¬ M 132 l = ((c / 36 : Nat) : Int) := fun k => q2 k.symm
        simp (disch := omega) only [Option.toList_some, Option.toList_none, List.nil_append, List.cons_append, List.append_nil, true_and, and_true, not_true_eq_false, not_false_eq_true, true_implies, false_implies, implies_true, and_self, Int.reduceLT, Int.reduceLE, Int.reduceEq, Int.reduceNe, Int.reduceAdd, Int.reduceSub, Int.reduceMul, Int.reduceNeg, Int.reduceToNat, Int.toNat_natCast, ↓kk_ck, ↓kk_im, ↓kk_in, e_326, s_326_0, s_326_4, s_326_6, s_326_11, s_326_13, s_326_18, s_326_23, s_326_26, s_326_29, s_326_33, s_326_35, s_326_45, s_326_46, s_326_49, s_326_56, s_326_57, R1, R33, R34, R35, p1, p2, p3, p4, p5, p6, Int.toNat_natCast, h, k_245 hcc, mAl1, mAl2, q1, q2', ne_eq]
        exact hQ
    · rw [decide_eq_false (fun k => q1 k.1)] at hQ
      have q1' : ¬ M 131 l = ((c / 6 % 6 : Nat) : Int) := fun k => q1 k.symm
      simp (disch := omega) only [Option.toList_some, Option.toList_none, List.nil_append, List.cons_append, List.append_nil, true_and, and_true, not_true_eq_false, not_false_eq_true, true_implies, false_implies, implies_true, and_self, Int.reduceLT, Int.reduceLE, Int.reduceEq, Int.reduceNe, Int.reduceAdd, Int.reduceSub, Int.reduceMul, Int.reduceNeg, Int.reduceToNat, Int.toNat_natCast, ↓kk_ck, ↓kk_im, ↓kk_in, e_326, s_326_0, s_326_4, s_326_6, s_326_11, s_326_13, s_326_18, s_326_23, s_326_26, s_326_56, s_326_57, R1, R33, R34, R35, p1, p2, p3, p4, p5, p6, Int.toNat_natCast, h, k_245 hcc, mAl1, mAl2, q1', ne_eq]
      exact hQ
  · rw [h, if_neg (by omega), if_pos rfl] at hQ
    by_cases q1 : ((c % 6 : Nat) : Int) = M 131 l
    · by_cases q2 : ((c / 36 : Nat) : Int) = M 132 l
      · rw [decide_eq_true ⟨q1, q2⟩] at hQ
        simp (disch := omega) only [Option.toList_some, Option.toList_none, List.nil_append, List.cons_append, List.append_nil, true_and, and_true, not_true_eq_false, not_false_eq_true, true_implies, false_implies, implies_true, and_self, Int.reduceLT, Int.reduceLE, Int.reduceEq, Int.reduceNe, Int.reduceAdd, Int.reduceSub, Int.reduceMul, Int.reduceNeg, Int.reduceToNat, Int.toNat_natCast, ↓kk_ck, ↓kk_im, ↓kk_in, e_326, s_326_0, s_326_4, s_326_6, s_326_11, s_326_13, s_326_22, s_326_23, s_326_26, s_326_29, s_326_33, s_326_35, s_326_45, s_326_46, s_326_49, s_326_52, s_326_57, R1, R33, R34, R35, p1, p2, p3, p4, p5, p6, Int.toNat_natCast, h, k_245 hcc, mAl0, mAl2, q1, q2, ne_eq]
        exact hQ
      · rw [decide_eq_false (fun k => q2 k.2)] at hQ
        have q2' : ¬ M 132 l = ((c / 36 : Nat) : Int) := fun k => q2 k.symm
        simp (disch := omega) only [Option.toList_some, Option.toList_none, List.nil_append, List.cons_append, List.append_nil, true_and, and_true, not_true_eq_false, not_false_eq_true, true_implies, false_implies, implies_true, and_self, Int.reduceLT, Int.reduceLE, Int.reduceEq, Int.reduceNe, Int.reduceAdd, Int.reduceSub, Int.reduceMul, Int.reduceNeg, Int.reduceToNat, Int.toNat_natCast, ↓kk_ck, ↓kk_im, ↓kk_in, e_326, s_326_0, s_326_4, s_326_6, s_326_11, s_326_13, s_326_22, s_326_23, s_326_26, s_326_29, s_326_33, s_326_35, s_326_45, s_326_46, s_326_49, s_326_56, s_326_57, R1, R33, R34, R35, p1, p2, p3, p4, p5, p6, Int.toNat_natCast, h, k_245 hcc, mAl0, mAl2, q1, q2', ne_eq]
        exact hQ
    · rw [decide_eq_false (fun k => q1 k.1)] at hQ
      have q1' : ¬ M 131 l = ((c % 6 : Nat) : Int) := fun k => q1 k.symm
      simp (disch := omega) only [Option.toList_some, Option.toList_none, List.nil_append, List.cons_append, List.append_nil, true_and, and_true, not_true_eq_false, not_false_eq_true, true_implies, false_implies, implies_true, and_self, Int.reduceLT, Int.reduceLE, Int.reduceEq, Int.reduceNe, Int.reduceAdd, Int.reduceSub, Int.reduceMul, Int.reduceNeg, Int.reduceToNat, Int.toNat_natCast, ↓kk_ck, ↓kk_im, ↓kk_in, e_326, s_326_0, s_326_4, s_326_6, s_326_11, s_326_13, s_326_22, s_326_23, s_326_26, s_326_56, s_326_57, R1, R33, R34, R35, p1, p2, p3, p4, p5, p6, Int.toNat_natCast, h, k_245 hcc, mAl0, mAl2, q1', ne_eq]
      exact hQ
  · rw [h, if_neg (by omega), if_neg (by omega)] at hQ
    by_cases q1 : ((c % 6 : Nat) : Int) = M 131 l
    · by_cases q2 : ((c / 6 % 6 : Nat) : Int) = M 132 l
      · rw [decide_eq_true ⟨q1, q2⟩] at hQ
        simp (disch := omega) only [Option.toList_some, Option.toList_none, List.nil_append, List.cons_append, List.append_nil, true_and, and_true, not_true_eq_false, not_false_eq_true, true_implies, false_implies, implies_true, and_self, Int.reduceLT, Int.reduceLE, Int.reduceEq, Int.reduceNe, Int.reduceAdd, Int.reduceSub, Int.reduceMul, Int.reduceNeg, Int.reduceToNat, Int.toNat_natCast, ↓kk_ck, ↓kk_im, ↓kk_in, e_326, s_326_0, s_326_4, s_326_6, s_326_11, s_326_13, s_326_22, s_326_23, s_326_26, s_326_29, s_326_33, s_326_35, s_326_41, s_326_46, s_326_49, s_326_52, s_326_57, R1, R33, R34, R35, p1, p2, p3, p4, p5, p6, Int.toNat_natCast, h, k_245 hcc, mAl0, mAl1, q1, q2, ne_eq]
        exact hQ
      · rw [decide_eq_false (fun k => q2 k.2)] at hQ
        have q2' : ¬ M 132 l = ((c / 6 % 6 : Nat) : Int) := fun k => q2 k.symm
        simp (disch := omega) only [Option.toList_some, Option.toList_none, List.nil_append, List.cons_append, List.append_nil, true_and, and_true, not_true_eq_false, not_false_eq_true, true_implies, false_implies, implies_true, and_self, Int.reduceLT, Int.reduceLE, Int.reduceEq, Int.reduceNe, Int.reduceAdd, Int.reduceSub, Int.reduceMul, Int.reduceNeg, Int.reduceToNat, Int.toNat_natCast, ↓kk_ck, ↓kk_im, ↓kk_in, e_326, s_326_0, s_326_4, s_326_6, s_326_11, s_326_13, s_326_22, s_326_23, s_326_26, s_326_29, s_326_33, s_326_35, s_326_41, s_326_46, s_326_49, s_326_56, s_326_57, R1, R33, R34, R35, p1, p2, p3, p4, p5, p6, Int.toNat_natCast, h, k_245 hcc, mAl0, mAl1, q1, q2', ne_eq]
        exact hQ
    · rw [decide_eq_false (fun k => q1 k.1)] at hQ
      have q1' : ¬ M 131 l = ((c % 6 : Nat) : Int) := fun k => q1 k.symm
      simp (disch := omega) only [Option.toList_some, Option.toList_none, List.nil_append, List.cons_append, List.append_nil, true_and, and_true, not_true_eq_false, not_false_eq_true, true_implies, false_implies, implies_true, and_self, Int.reduceLT, Int.reduceLE, Int.reduceEq, Int.reduceNe, Int.reduceAdd, Int.reduceSub, Int.reduceMul, Int.reduceNeg, Int.reduceToNat, Int.toNat_natCast, ↓kk_ck, ↓kk_im, ↓kk_in, e_326, s_326_0, s_326_4, s_326_6, s_326_11, s_326_13, s_326_22, s_326_23, s_326_26, s_326_56, s_326_57, R1, R33, R34, R35, p1, p2, p3, p4, p5, p6, Int.toNat_natCast, h, k_245 hcc, mAl0, mAl1, q1', ne_eq]
      exact hQ
theorem k_325 (hY : kY Y 151) {m c : Nat} {x : Int} (hx : x = 1 ∨ x = -1) (hm : m ≤ 108) (h39 : M 112 39 = (m : Int)) (ha : ∀ l : Nat, l < m → 0 ≤ M 130 l ∧ M 130 l ≤ 2) (hc : c < 216) (hf : ∀ l, l < m → -1000 ≤ M 137 l ∧ M 137 l ≤ 1000) (hD : 3 ≤ D) : vi_call GG D 325 [.inr (.inr 112), .inl (c : Int), .inl x] (Y, M, nn) K ↔ K none (Y, vi_rs M 137 (vi_m m (fun l => M 137 l + if onB M l c = true then x else 0) (M 137)), nn) := by
  obtain ⟨D, rfl⟩ : ∃ k, D = k + 1 := ⟨D - 1, by omega⟩
  obtain ⟨R1, -, R3, -, -, -, -, -, -, -, -, -, -, R27, R28, R29, R31, R32, R33, R34, R35, R36, R37, R38, R47, R48, -⟩ := y_112 hY (by omega)
  obtain ⟨p1, p2⟩ := y_137 hY (by omega)
  refine vi_k (r := none) fun Q hQ => ?_
  have loop : ∀ l : Nat, l ≤ m → vi_ok GG D 325 2 [some (.inr (.inr 112)), some (.inl (c : Int)), some (.inl x), some (.inl (l : Int))] [] (Y, vi_rs M 137 (vi_m l (fun l => M 137 l + if onB M l c = true then x else 0) (M 137)), nn) Q := by
    refine vi_dn m ?_ fun l hl ih => ?_
    · have e39 : vi_rs M 137 (vi_m m (fun l => M 137 l + if onB M l c = true then x else 0) (M 137)) 112 39 = (m : Int) := by rw [vi_rs_o (by omega)]; exact h39
      rw [s_325_2]
      simp (disch := omega) only [Option.toList_some, Option.toList_none, List.nil_append, List.cons_append, List.append_nil, true_and, and_true, not_true_eq_false, not_false_eq_true, true_implies, false_implies, implies_true, and_self, Int.reduceLT, Int.reduceLE, Int.reduceEq, Int.reduceNe, Int.reduceAdd, Int.reduceSub, Int.reduceMul, Int.reduceNeg, Int.reduceToNat, Int.toNat_natCast, ↓kk_ck, ↓kk_im, ↓kk_in, s_325_7, s_325_39, R1, e39]
      exact hQ
    · clear hQ
      generalize hM1 : vi_rs M 137 (vi_m l (fun l => M 137 l + if onB M l c = true then x else 0) (M 137)) = M1
      have e39 : M1 112 39 = (m : Int) := by rw [← hM1, vi_rs_o (by omega)]; exact h39
      have e137 : M1 137 l = M 137 l := by rw [← hM1, vi_rs_s, vi_m_ge (Nat.le_refl _)]
      have o : ∀ p, p ≠ 137 → M1 p = M p := fun p hp => by rw [← hM1, vi_rs_o hp]
      have hon : onB M1 l c = onB M l c := by unfold onB; rw [o _ (by omega), o _ (by omega), o _ (by omega)]
      have A := fun {D : Nat} {K : Option vi_V → vi_W → Prop} (hD : 2 ≤ D) => @k_326 D K Y M1 nn hY l c (by omega) (by rw [o 130 (by omega)]; exact ha l hl) hc hD
      rw [hon] at A
      have em : ∀ y : Int, y = (if onB M l c = true then x else 0) → vi_rs M1 137 (vi_u (M1 137) l (M 137 l + y)) = vi_rs M 137 (vi_m (l + 1) (fun l => M 137 l + if onB M l c = true then x else 0) (M 137)) := fun y hy => by
        rw [← hM1, vi_rs_rs, vi_rs_s, vi_m_s (by rw [hy])]
      have hb := hf l hl
      rw [s_325_2]
      cases ho : onB M l c
      · rw [ho] at A
        have em' := em 0 (by rw [ho]; rfl)
        simp (disch := omega) only [Option.toList_some, Option.toList_none, List.nil_append, List.cons_append, List.append_nil, true_and, and_true, not_true_eq_false, not_false_eq_true, true_implies, false_implies, implies_true, and_self, Int.reduceLT, Int.reduceLE, Int.reduceEq, Int.reduceNe, Int.reduceAdd, Int.reduceSub, Int.reduceMul, Int.reduceNeg, Int.reduceToNat, Int.toNat_natCast, ↓kk_ck, ↓kk_im, ↓kk_in, s_325_7, s_325_10, s_325_14, s_325_17, s_325_23, s_325_30, s_325_31, s_325_33, R1, R48, p1, p2, e39, Int.toNat_natCast, A, vi_bf, e137, @vi_32 (M 137 l + 0) (by omega) (by omega), vi_ms_rs, em', vi_inc, ne_eq]
        exact ih
      · rw [ho] at A
        have em' := em x (by rw [ho]; rfl)
        simp (disch := omega) only [Option.toList_some, Option.toList_none, List.nil_append, List.cons_append, List.append_nil, true_and, and_true, not_true_eq_false, not_false_eq_true, true_implies, false_implies, implies_true, and_self, Int.reduceLT, Int.reduceLE, Int.reduceEq, Int.reduceNe, Int.reduceAdd, Int.reduceSub, Int.reduceMul, Int.reduceNeg, Int.reduceToNat, Int.toNat_natCast, ↓kk_ck, ↓kk_im, ↓kk_in, s_325_7, s_325_10, s_325_14, s_325_17, s_325_23, s_325_26, s_325_31, s_325_33, R1, R48, p1, p2, e39, Int.toNat_natCast, A, vi_bt, e137, @vi_32 (M 137 l + x) (by omega) (by omega), vi_ms_rs, em', vi_inc, ne_eq]
        exact ih
  have := loop 0 (by omega)
  rw [vi_m_0, vi_rs_id rfl] at this
  clear loop hQ
  simp (disch := omega) only [Option.toList_some, Option.toList_none, List.nil_append, List.cons_append, List.append_nil, true_and, and_true, not_true_eq_false, not_false_eq_true, true_implies, false_implies, implies_true, and_self, Int.reduceLT, Int.reduceLE, Int.reduceEq, Int.reduceNe, Int.reduceAdd, Int.reduceSub, Int.reduceMul, Int.reduceNeg, Int.reduceToNat, Int.toNat_natCast, ↓kk_ck, ↓kk_im, ↓kk_in, e_325, s_325_0]
  exact this
theorem cvP_c {M M' : vi_M} (h : ∀ p, p ≠ 137 → M' p = M p) {m n : Nat} {f : Nat → Int} : cvP M' m f n = cvP M m f n := by
  unfold cvP dkL onB
  rw [h 136 (by omega), h 114 (by omega), h 130 (by omega), h 131 (by omega), h 132 (by omega)]
/-- the count of the bare rows, and what comes of it -/
theorem h_324a (hY : kY Y 151) (hB : mBx M) (hA : lnA M) {n : Nat} (hn : n ≤ 100) (hD : 2 ≤ D) (hf : ∀ l, l < (lsA (M 114) 3).length → 0 ≤ M 137 l ∧ M 137 l ≤ 1000)
    (hz : sN (lsA (M 114) 3).length (brB M (M 137)) = 0 → Q (some (.inl 1)) (Y, M, nn))
    (hb : 3 * n < sN (lsA (M 114) 3).length (brB M (M 137)) → Q (some (.inl 0)) (Y, M, nn))
    (hg : ∀ i : Nat, i < (lsA (M 114) 3).length → brB M (M 137) i = true → 0 < sN (lsA (M 114) 3).length (brB M (M 137)) → sN (lsA (M 114) 3).length (brB M (M 137)) ≤ 3 * n → vi_ok GG D 324 91 [some (.inr (.inr 112)), some (.inl (n : Int)), some (.inl ((sN (lsA (M 114) 3).length (brB M (M 137)) : Nat) : Int)), some (.inl (i : Int)), some (.inl 0), some (.inl 0), none] [] (Y, M, nn) Q) :
    vi_ok GG D 324 0 [some (.inr (.inr 112)), some (.inl (n : Int)), none, none, none, none, none] [] (Y, M, nn) Q := by
  obtain ⟨R1, -, R3, -, -, -, -, -, -, -, -, -, -, R27, R28, R29, R31, R32, R33, R34, R35, R36, R37, R38, R47, R48, -⟩ := y_112 hY (by omega)
  obtain ⟨p1, p2⟩ := y_130 hY (by omega)
  obtain ⟨p3, p4⟩ := y_131 hY (by omega)
  obtain ⟨p5, p6⟩ := y_132 hY (by omega)
  obtain ⟨p7, p8⟩ := y_137 hY (by omega)
  have hle := lsA_l hB 3
  have h39 := hA.1
  have hlO : ∀ l : Nat, l < (lsA (M 114) 3).length → lnO M (l : Int) := fun l hl => lnA_o hB hA hl
  generalize (lsA (M 114) 3).length = m at *
  generalize hbr : brB M (M 137) = b at *
  have loop : ∀ k : Nat, k ≤ m → vi_ok GG D 324 12 [some (.inr (.inr 112)), some (.inl (n : Int)), some (.inl ((brN b m k).1 : Int)), some (.inl (brN b m k).2), some (.inl ((m : Int) - 1 - (k : Int))), none, none] [] (Y, M, nn) Q := by
    refine vi_dn m ?_ fun k hk ih => ?_
    · have e1 := brN_n (b := b) (m := m) m (Nat.le_refl _)
      rw [Nat.sub_self, sN, Nat.zero_add] at e1
      obtain ⟨e2, e3⟩ := brN_r (b := b) (m := m) m (Nat.le_refl _)
      rw [s_324_12]
      rcases e3 with ⟨e4, e5⟩ | ⟨e4, i, e5, e6, e7⟩
      · have := hz (by omega)
        have e4' : ((brN b m m).1 : Int) = 0 := by omega
        clear hz hb hg
        simp (disch := omega) only [Option.toList_some, Option.toList_none, List.nil_append, List.cons_append, List.append_nil, true_and, and_true, not_true_eq_false, not_false_eq_true, true_implies, false_implies, implies_true, and_self, Int.reduceLT, Int.reduceLE, Int.reduceEq, Int.reduceNe, Int.reduceAdd, Int.reduceSub, Int.reduceMul, Int.reduceNeg, Int.reduceToNat, Int.toNat_natCast, ↓kk_ck, ↓kk_im, ↓kk_in, s_324_70, s_324_74, e4', ne_eq]
        exact this
      · by_cases q : 3 * n < sN m b
        · have := hb q
          have e4' : ¬ ((brN b m m).1 : Int) = 0 := by omega
          clear hz hb hg
          simp (disch := omega) only [Option.toList_some, Option.toList_none, List.nil_append, List.cons_append, List.append_nil, true_and, and_true, not_true_eq_false, not_false_eq_true, true_implies, false_implies, implies_true, and_self, Int.reduceLT, Int.reduceLE, Int.reduceEq, Int.reduceNe, Int.reduceAdd, Int.reduceSub, Int.reduceMul, Int.reduceNeg, Int.reduceToNat, Int.toNat_natCast, ↓kk_ck, ↓kk_im, ↓kk_in, s_324_70, s_324_76, s_324_80, s_324_83, e4', @vi_32 (3 * (n : Int)) (by omega) (by omega), ne_eq]
          exact this
        · have := hg i e6 e7 (by omega) (by omega)
          have e4' : ¬ ((brN b m m).1 : Int) = 0 := by omega
          rw [e1] at this
          clear hz hb hg
          simp (disch := omega) only [Option.toList_some, Option.toList_none, List.nil_append, List.cons_append, List.append_nil, true_and, and_true, not_true_eq_false, not_false_eq_true, true_implies, false_implies, implies_true, and_self, Int.reduceLT, Int.reduceLE, Int.reduceEq, Int.reduceNe, Int.reduceAdd, Int.reduceSub, Int.reduceMul, Int.reduceNeg, Int.reduceToNat, Int.toNat_natCast, ↓kk_ck, ↓kk_im, ↓kk_in, s_324_70, s_324_76, s_324_80, s_324_85, e4', e5, @vi_32 (3 * (n : Int)) (by omega) (by omega), ne_eq]
          exact this
    · clear hz hb hg
      obtain ⟨l, hl⟩ : ∃ l : Nat, l = m - 1 - k := ⟨_, rfl⟩
      have el : (m : Int) - 1 - (k : Int) = (l : Int) := by omega
      have en : vi_w32 ((l : Int) + -1) = (m : Int) - 1 - ((k + 1 : Nat) : Int) := by rw [vi_32 (by omega) (by omega)]; omega
      have hr := (brN_r (b := b) (m := m) k (by omega)).1
      rcases hlO l (by omega) with h | ⟨l', a, e1, e2, e3, e4⟩
      · omega
      obtain rfl : l = l' := by omega
      obtain ⟨qa, qu, qv⟩ := mIp_r hB e4
      have A := fun {D : Nat} {K : Option vi_V → vi_W → Prop} (hD : 1 ≤ D) => @k_320 D K Y M nn hY (a : Int) (M 131 l) (M 132 l) (by omega) (by omega) (by omega) hD
      have ed : dkL M l = dkI (M 114) (a : Int) (M 131 l) (M 132 l) := by unfold dkL; rw [e3]
      rw [← ed] at A
      have hbl : b l = (dkL M l && decide (M 137 l ≤ 0)) := by rw [← hbr]; rfl
      rw [brN, ← hl, hbl] at ih
      rw [el, s_324_12]
      cases bd : dkL M l
      · rw [bd, Bool.false_and, if_neg (by simp)] at ih
        rw [bd] at A
        simp (disch := omega) only [Option.toList_some, Option.toList_none, List.nil_append, List.cons_append, List.append_nil, true_and, and_true, not_true_eq_false, not_false_eq_true, true_implies, false_implies, implies_true, and_self, Int.reduceLT, Int.reduceLE, Int.reduceEq, Int.reduceNe, Int.reduceAdd, Int.reduceSub, Int.reduceMul, Int.reduceNeg, Int.reduceToNat, Int.toNat_natCast, ↓kk_ck, ↓kk_im, ↓kk_in, s_324_17, s_324_22, s_324_25, s_324_29, s_324_32, s_324_36, s_324_39, s_324_42, s_324_64, R1, R33, R34, R35, p1, p2, p3, p4, p5, p6, Int.toNat_natCast, e3, A, vi_bf, en, ne_eq]
        exact ih
      · rw [bd] at A
        rw [bd, Bool.true_and] at ih
        by_cases q : M 137 l ≤ 0
        · rw [decide_eq_true q, if_pos rfl] at ih
          dsimp only at ih
          have ek : vi_w32 (((brN b m k).1 : Int) + 1) = (((brN b m k).1 + 1 : Nat) : Int) := by rw [vi_32 (by omega) (by omega)]; omega
          simp (disch := omega) only [Option.toList_some, Option.toList_none, List.nil_append, List.cons_append, List.append_nil, true_and, and_true, not_true_eq_false, not_false_eq_true, true_implies, false_implies, implies_true, and_self, Int.reduceLT, Int.reduceLE, Int.reduceEq, Int.reduceNe, Int.reduceAdd, Int.reduceSub, Int.reduceMul, Int.reduceNeg, Int.reduceToNat, Int.toNat_natCast, ↓kk_ck, ↓kk_im, ↓kk_in, s_324_17, s_324_22, s_324_25, s_324_29, s_324_32, s_324_36, s_324_39, s_324_42, s_324_45, s_324_49, s_324_52, s_324_58, s_324_64, R1, R33, R34, R35, R48, p1, p2, p3, p4, p5, p6, p7, p8, Int.toNat_natCast, e3, A, vi_bt, q, ek, en, ne_eq]
          exact ih
        · rw [decide_eq_false q, if_neg (by simp)] at ih
          simp (disch := omega) only [Option.toList_some, Option.toList_none, List.nil_append, List.cons_append, List.append_nil, true_and, and_true, not_true_eq_false, not_false_eq_true, true_implies, false_implies, implies_true, and_self, Int.reduceLT, Int.reduceLE, Int.reduceEq, Int.reduceNe, Int.reduceAdd, Int.reduceSub, Int.reduceMul, Int.reduceNeg, Int.reduceToNat, Int.toNat_natCast, ↓kk_ck, ↓kk_im, ↓kk_in, s_324_17, s_324_22, s_324_25, s_324_29, s_324_32, s_324_36, s_324_39, s_324_42, s_324_45, s_324_49, s_324_52, s_324_55, s_324_64, R1, R33, R34, R35, R48, p1, p2, p3, p4, p5, p6, p7, p8, Int.toNat_natCast, e3, A, vi_bt, q, en, ne_eq]
          exact ih
  have := loop 0 (by omega)
  rw [brN, show (m : Int) - 1 - ((0 : Nat) : Int) = (m : Int) - 1 by omega] at this
  dsimp only at this
  rw [show ((0 : Nat) : Int) = 0 from rfl] at this
  clear loop hz hb hg
  simp (disch := omega) only [Option.toList_some, Option.toList_none, List.nil_append, List.cons_append, List.append_nil, true_and, and_true, not_true_eq_false, not_false_eq_true, true_implies, false_implies, implies_true, and_self, Int.reduceLT, Int.reduceLE, Int.reduceEq, Int.reduceNe, Int.reduceAdd, Int.reduceSub, Int.reduceMul, Int.reduceNeg, Int.reduceToNat, Int.toNat_natCast, ↓kk_ck, ↓kk_im, ↓kk_in, s_324_0, s_324_8, R1, h39, @vi_32 ((m : Int) - 1) (by omega) (by omega)]
  exact this
theorem k_324 (hY : kY Y 151) : ∀ (n : Nat) (M : vi_M) (D : Nat) (Q : Option vi_V → vi_W → Prop), mBx M → lnA M → (∀ c, c < 216 → M 136 c ≠ 0 → mIc M (c : Int)) → n ≤ 100 → (∀ l, l < (lsA (M 114) 3).length → 0 ≤ M 137 l ∧ M 137 l ≤ 500 - (n : Int)) → n + 4 ≤ D → Q (some (.inl (vi_b (dP (cvP M (lsA (M 114) 3).length (M 137) n))))) (Y, M, nn) → vi_call GG D 324 [.inr (.inr 112), .inl (n : Int)] (Y, M, nn) Q := by
  obtain ⟨R1, -, R3, -, -, -, -, -, -, -, -, -, -, R27, R28, R29, R31, R32, R33, R34, R35, R36, R37, R38, R47, R48, -⟩ := y_112 hY (by omega)
  obtain ⟨p1, p2⟩ := y_130 hY (by omega)
  obtain ⟨p3, p4⟩ := y_131 hY (by omega)
  obtain ⟨p5, p6⟩ := y_132 hY (by omega)
  obtain ⟨p7, p8⟩ := y_136 hY (by omega)
  intro n
  induction n with
  | zero =>
    intro M D Q hB hA hin hn hf hD hQ
    obtain ⟨D, rfl⟩ : ∃ k, D = k + 1 := ⟨D - 1, by omega⟩
    rw [e_324]
    refine h_324a (n := 0) hY hB hA (by omega) (by omega) (fun l hl => by have := hf l hl; omega) (fun hz => ?_) (fun hb => ?_) (fun i hi hbi hp hl => by omega)
    · rw [dP_t (cv_0 hz)] at hQ; exact hQ
    · rw [dP_f (fun h => by have := cv_3 hB hA h; omega)] at hQ; exact hQ
  | succ n ih =>
    intro M D Q hB hA hin hn hf hD hQ
    obtain ⟨D, rfl⟩ : ∃ k, D = k + 1 := ⟨D - 1, by omega⟩
    rw [e_324]
    refine h_324a (n := n + 1) hY hB hA (by omega) (by omega) (fun l hl => by have := hf l hl; omega) (fun hz => ?_) (fun hb => ?_) (fun i hi hbi hp hl => ?_)
    · rw [dP_t (cv_0 hz)] at hQ; exact hQ
    · rw [dP_f (fun h => by have := cv_3 hB hA h; omega)] at hQ; exact hQ
    · have hle := lsA_l hB 3
      have h39 := hA.1
      have hO := lnA_o hB hA hi
      have hlO : ∀ l : Nat, l < (lsA (M 114) 3).length → lnO M (l : Int) := fun l hl => lnA_o hB hA hl
      have ih1 := fun (M' : vi_M) (ho : ∀ p, p ≠ 137 → M' p = M p) (h1 : ∀ l, l < (lsA (M 114) 3).length → 0 ≤ M' 137 l ∧ M' 137 l ≤ 500 - (n : Int)) (Q' : Option vi_V → vi_W → Prop) (hq : Q' (some (.inl (vi_b (dP (cvP M (lsA (M 114) 3).length (M' 137) n))))) (Y, M', nn)) => ih M' D Q' (mBx_c (ho 114 (by omega)) hB) (lnA_c ⟨ho _ (by omega), ho _ (by omega), ho _ (by omega), ho _ (by omega)⟩ (by rw [ho 112 (by omega)]) hA) (fun c hc h => by rw [ho 136 (by omega)] at h; exact mIc_c (ho 114 (by omega)) (hin c hc h)) (by omega) (by rw [ho 114 (by omega)]; exact h1) (by omega) (by rw [ho 114 (by omega), cvP_c ho]; exact hq)
      clear ih
      have hcs := cv_s (n := n) hi hbi (fun l hl => (hf l hl).1)
      generalize hmm : (lsA (M 114) 3).length = m at *
      rcases hO with h | ⟨i', a, e1, e2, e3, e4⟩
      · omega
      obtain rfl : i = i' := by omega
      obtain ⟨qa, qu, qv⟩ := mIp_r hB e4
      have hs := mSz hB (a := a) (by omega)
      obtain ⟨S, hS⟩ : ∃ S : Nat, M 114 (96 + a) = (S : Int) := ⟨(M 114 (96 + a)).toNat, by omega⟩
      have A := fun {D : Nat} {K : Option vi_V → vi_W → Prop} (hD : 1 ≤ D) => @k_241 D K Y M nn hY a (by omega) hD
      rw [hS] at A
      have onw : ∀ c : Nat, mIc M (c : Int) → (onB M i c = true ↔ ∃ w : Nat, w < S ∧ (mHa a (M 131 i) (M 132 i) (w : Int)).toNat = c) := fun c hc => by
        have h1 := mHa_on hB (a := a) (by omega) qu qv hc
        rw [hS, Int.toNat_natCast] at h1
        unfold onB
        rw [e3]
        constructor
        · intro h2
          refine Classical.byContradiction fun h3 => ?_
          have := h1.mp fun w hw hwc => h3 ⟨w, hw, hwc⟩
          rw [h2] at this; cases this
        · rintro ⟨w, hw, hwc⟩
          cases h2 : sLn (a : Int) (M 131 i) (M 132 i) c
          · exact absurd hwc (h1.mpr h2 w hw)
          · rfl
      have loop : ∀ w : Nat, w ≤ S → (∀ v, v < w → M 136 (mHa a (M 131 i) (M 132 i) (v : Int)).toNat ≠ 0 → ¬ cvP M m (fO M m (M 137) (mHa a (M 131 i) (M 132 i) (v : Int)).toNat) n) → ∀ l6, vi_ok GG D 324 91 [some (.inr (.inr 112)), some (.inl ((n + 1 : Nat) : Int)), some (.inl ((sN m (brB M (M 137)) : Nat) : Int)), some (.inl (i : Int)), some (.inl 0), some (.inl (w : Int)), l6] [] (Y, M, nn) Q := by
        refine vi_dn (P := fun w => (∀ v, v < w → M 136 (mHa a (M 131 i) (M 132 i) (v : Int)).toNat ≠ 0 → ¬ cvP M m (fO M m (M 137) (mHa a (M 131 i) (M 132 i) (v : Int)).toNat) n) → ∀ l6, vi_ok GG D 324 91 [some (.inr (.inr 112)), some (.inl ((n + 1 : Nat) : Int)), some (.inl ((sN m (brB M (M 137)) : Nat) : Int)), some (.inl (i : Int)), some (.inl 0), some (.inl (w : Int)), l6] [] (Y, M, nn) Q) S ?_ fun w hw ihw => ?_
        · intro hno l6
          have : ¬ cvP M m (M 137) (n + 1) := fun h => by
            obtain ⟨c, c1, c2, c3, c4⟩ := hcs.mp h
            obtain ⟨w, w1, w2⟩ := (onw c (hin c c1 c2)).mp c3
            rw [← w2] at c2 c4
            exact hno w w1 c2 c4
          rw [dP_f this] at hQ
          clear hcs onw hno ih1
          rw [s_324_91]
          simp (disch := omega) only [Option.toList_some, Option.toList_none, List.nil_append, List.cons_append, List.append_nil, true_and, and_true, not_true_eq_false, not_false_eq_true, true_implies, false_implies, implies_true, and_self, Int.reduceLT, Int.reduceLE, Int.reduceEq, Int.reduceNe, Int.reduceAdd, Int.reduceSub, Int.reduceMul, Int.reduceNeg, Int.reduceToNat, Int.toNat_natCast, ↓kk_ck, ↓kk_im, ↓kk_in, s_324_98, s_324_100, s_324_103, s_324_178, R1, R33, p1, p2, Int.toNat_natCast, e3, A]
          exact hQ
        · intro hno l6
          have hwr : 0 ≤ (w : Int) ∧ (w : Int) < 6 := by omega
          have hcr := mHa_r (a := a) qu qv hwr
          obtain ⟨c, hc⟩ : ∃ c : Nat, mHa a (M 131 i) (M 132 i) (w : Int) = (c : Int) := ⟨(mHa a (M 131 i) (M 132 i) (w : Int)).toNat, by omega⟩
          have hc2 : c < 216 := by omega
          by_cases q : M 136 c = 0
          · have := ihw (fun v hv h => by
              by_cases e : v = w
              · rw [e, hc, Int.toNat_natCast] at h; exact absurd q h
              · exact hno v (by omega) h) (some (.inl (c : Int)))
            clear ihw hQ hcs onw hno ih1
            rw [s_324_91]
            simp (disch := omega) only [Option.toList_some, Option.toList_none, List.nil_append, List.cons_append, List.append_nil, true_and, and_true, not_true_eq_false, not_false_eq_true, true_implies, false_implies, implies_true, and_self, Int.reduceLT, Int.reduceLE, Int.reduceEq, Int.reduceNe, Int.reduceAdd, Int.reduceSub, Int.reduceMul, Int.reduceNeg, Int.reduceToNat, Int.toNat_natCast, ↓kk_ck, ↓kk_im, ↓kk_in, s_324_98, s_324_100, s_324_103, s_324_106, s_324_111, s_324_115, s_324_117, s_324_121, s_324_123, s_324_127, s_324_129, s_324_134, s_324_140, s_324_143, s_324_146, s_324_172, R1, R33, R34, R35, R47, p1, p2, p3, p4, p5, p6, p7, p8, Int.toNat_natCast, e3, A, k_244 qu qv hwr, mHa_e, hc, q, vi_inc, ne_eq]
            exact this
          · have hal : ∀ l : Nat, l < m → 0 ≤ M 130 l ∧ M 130 l ≤ 2 := fun l hl => by
              rcases hlO l hl with h | ⟨l', a', f1, f2, f3, f4⟩
              · omega
              obtain rfl : l = l' := by omega
              have := f4.2.1
              omega
            have m1 := fun {D : Nat} {K : Option vi_V → vi_W → Prop} (hD : 3 ≤ D) => @k_325 D K Y M nn hY m c 1 (.inl rfl) (by omega) h39 hal hc2 (fun l hl => by have := hf l hl; omega) hD
            rw [show vi_m m (fun l => M 137 l + if onB M l c = true then (1 : Int) else 0) (M 137) = fO M m (M 137) c from rfl] at m1
            have o1 : ∀ p, p ≠ 137 → vi_rs M 137 (fO M m (M 137) c) p = M p := fun p hp => vi_rs_o hp
            have s1 : vi_rs M 137 (fO M m (M 137) c) 137 = fO M m (M 137) c := vi_rs_s
            have r1 : ∀ l, l < m → 0 ≤ fO M m (M 137) c l ∧ fO M m (M 137) c l ≤ 500 - (n : Int) := fun l hl => by
              rw [fO_e hl]
              have := hf l hl
              split <;> omega
            have m2 := fun {D : Nat} {K : Option vi_V → vi_W → Prop} (hD : 3 ≤ D) => @k_325 D K Y (vi_rs M 137 (fO M m (M 137) c)) nn hY m c (-1) (.inr rfl) (by omega) (by rw [o1 112 (by omega)]; exact h39) (by rw [o1 130 (by omega)]; exact hal) hc2 (fun l hl => by rw [s1]; have := r1 l hl; omega) hD
            have em : vi_rs (vi_rs M 137 (fO M m (M 137) c)) 137 (vi_m m (fun l => vi_rs M 137 (fO M m (M 137) c) 137 l + if onB (vi_rs M 137 (fO M m (M 137) c)) l c = true then (-1 : Int) else 0) (vi_rs M 137 (fO M m (M 137) c) 137)) = M := by
              rw [vi_rs_rs, vi_rs_s]
              refine vi_rs_id ?_
              funext l
              by_cases hl : l < m
              · rw [vi_m_lt hl, fO_e hl]
                have : onB (vi_rs M 137 (fO M m (M 137) c)) l c = onB M l c := by unfold onB; rw [o1 _ (by omega), o1 _ (by omega), o1 _ (by omega)]
                rw [this]
                split <;> omega
              · rw [vi_m_ge (by omega)]
                unfold fO
                rw [vi_m_ge (by omega)]
            rw [em] at m2
            have go := ih1 (vi_rs M 137 (fO M m (M 137) c)) o1 (fun l hl => by rw [s1]; exact r1 l hl)
            rw [s1] at go
            have cont : vi_call GG D 324 [.inr (.inr 112), .inl (n : Int)] (Y, vi_rs M 137 (fO M m (M 137) c), nn) (fun r w' => vi_ok GG D 324 163 [some (.inr (.inr 112)), some (.inl ((n + 1 : Nat) : Int)), some (.inl ((sN m (brB M (M 137)) : Nat) : Int)), some (.inl (i : Int)), some (.inl 0), some (.inl (w : Int)), some (.inl (c : Int))] r.toList w' Q) := by
              refine go _ ?_
              clear go ih1
              by_cases hcv : cvP M m (fO M m (M 137) c) n
              · rw [dP_t hcv]
                have hic := hin c hc2 q
                have : cvP M m (M 137) (n + 1) := hcs.mpr ⟨c, hc2, q, (onw c hic).mpr ⟨w, hw, by rw [hc, Int.toNat_natCast]⟩, hcv⟩
                rw [dP_t this] at hQ
                clear ihw hcs onw hno hcv this
                by_cases hwS : w + 1 < S
                · simp (disch := omega) only [Option.toList_some, Option.toList_none, List.nil_append, List.cons_append, List.append_nil, true_and, and_true, not_true_eq_false, not_false_eq_true, true_implies, false_implies, implies_true, and_self, Int.reduceLT, Int.reduceLE, Int.reduceEq, Int.reduceNe, Int.reduceAdd, Int.reduceSub, Int.reduceMul, Int.reduceNeg, Int.reduceToNat, Int.toNat_natCast, ↓kk_ck, ↓kk_im, ↓kk_in, Option.toList, List.append_nil, s_324_163, m2, s_324_172, vi_bt, vi_inc]
                  rw [s_324_91]
                  simp (disch := omega) only [Option.toList_some, Option.toList_none, List.nil_append, List.cons_append, List.append_nil, true_and, and_true, not_true_eq_false, not_false_eq_true, true_implies, false_implies, implies_true, and_self, Int.reduceLT, Int.reduceLE, Int.reduceEq, Int.reduceNe, Int.reduceAdd, Int.reduceSub, Int.reduceMul, Int.reduceNeg, Int.reduceToNat, Int.toNat_natCast, ↓kk_ck, ↓kk_im, ↓kk_in, s_324_98, s_324_100, s_324_103, s_324_106, s_324_178, R1, R33, p1, p2, Int.toNat_natCast, e3, A, ne_eq]
                  exact hQ
                · simp (disch := omega) only [Option.toList_some, Option.toList_none, List.nil_append, List.cons_append, List.append_nil, true_and, and_true, not_true_eq_false, not_false_eq_true, true_implies, false_implies, implies_true, and_self, Int.reduceLT, Int.reduceLE, Int.reduceEq, Int.reduceNe, Int.reduceAdd, Int.reduceSub, Int.reduceMul, Int.reduceNeg, Int.reduceToNat, Int.toNat_natCast, ↓kk_ck, ↓kk_im, ↓kk_in, Option.toList, List.append_nil, s_324_163, m2, s_324_172, vi_bt, vi_inc]
                  rw [s_324_91]
                  simp (disch := omega) only [Option.toList_some, Option.toList_none, List.nil_append, List.cons_append, List.append_nil, true_and, and_true, not_true_eq_false, not_false_eq_true, true_implies, false_implies, implies_true, and_self, Int.reduceLT, Int.reduceLE, Int.reduceEq, Int.reduceNe, Int.reduceAdd, Int.reduceSub, Int.reduceMul, Int.reduceNeg, Int.reduceToNat, Int.toNat_natCast, ↓kk_ck, ↓kk_im, ↓kk_in, s_324_98, s_324_100, s_324_103, s_324_178, R1, R33, p1, p2, Int.toNat_natCast, e3, A, ne_eq]
                  exact hQ
              · rw [dP_f hcv]
                have := ihw (fun v hv h => by
                  by_cases e : v = w
                  · rw [e, hc, Int.toNat_natCast]; exact hcv
                  · exact hno v (by omega) h) (some (.inl (c : Int)))
                clear ihw hcs onw hno hcv hQ
                simp (disch := omega) only [Option.toList_some, Option.toList_none, List.nil_append, List.cons_append, List.append_nil, true_and, and_true, not_true_eq_false, not_false_eq_true, true_implies, false_implies, implies_true, and_self, Int.reduceLT, Int.reduceLE, Int.reduceEq, Int.reduceNe, Int.reduceAdd, Int.reduceSub, Int.reduceMul, Int.reduceNeg, Int.reduceToNat, Int.toNat_natCast, ↓kk_ck, ↓kk_im, ↓kk_in, Option.toList, List.append_nil, s_324_163, m2, s_324_172, vi_bf, vi_inc]
                exact this
            have en : vi_w32 (((n + 1 : Nat) : Int) - 1) = (n : Int) := by rw [vi_32 (by omega) (by omega)]; omega
            clear go ih1 ihw hQ hcs onw hno em m2
            rw [s_324_91]
            simp (disch := omega) only [Option.toList_some, Option.toList_none, List.nil_append, List.cons_append, List.append_nil, true_and, and_true, not_true_eq_false, not_false_eq_true, true_implies, false_implies, implies_true, and_self, Int.reduceLT, Int.reduceLE, Int.reduceEq, Int.reduceNe, Int.reduceAdd, Int.reduceSub, Int.reduceMul, Int.reduceNeg, Int.reduceToNat, Int.toNat_natCast, ↓kk_ck, ↓kk_im, ↓kk_in, s_324_98, s_324_100, s_324_103, s_324_106, s_324_111, s_324_115, s_324_117, s_324_121, s_324_123, s_324_127, s_324_129, s_324_134, s_324_140, s_324_143, s_324_149, s_324_156, R1, R33, R34, R35, R47, p1, p2, p3, p4, p5, p6, p7, p8, Int.toNat_natCast, e3, A, k_244 qu qv hwr, mHa_e, hc, q, m1, en, ne_eq]
            exact cont
      exact loop 0 (by omega) (fun v hv => by omega) none
end
