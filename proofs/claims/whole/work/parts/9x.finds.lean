/-! finds, fewest (reference): what was found stays for this version. -/
theorem lsV_m {a u : Nat} {x : Nat × Nat × Nat} : ∀ v : Nat, x ∈ lsV a u v → x.1 = a ∧ x.2.1 = u ∧ x.2.2 < v
  | 0, h => by cases h
  | v + 1, h => by
    rw [lsV, List.mem_append] at h
    rcases h with h | h
    · have := lsV_m v h; omega
    · rw [List.mem_singleton] at h
      subst h
      exact ⟨rfl, rfl, Nat.lt_succ_self v⟩
theorem lsU_m {a V : Nat} {x : Nat × Nat × Nat} : ∀ u : Nat, x ∈ lsU a V u → x.1 = a ∧ x.2.1 < u ∧ x.2.2 < V
  | 0, h => by cases h
  | u + 1, h => by
    rw [lsU, List.mem_append] at h
    rcases h with h | h
    · have := lsU_m u h; omega
    · have := lsV_m V h; omega
theorem lsA_m {f : Nat → Int} {x : Nat × Nat × Nat} : ∀ a : Nat, x ∈ lsA f a → x.1 < a ∧ x.2.1 < szU f x.1 ∧ x.2.2 < szV f x.1
  | 0, h => by cases h
  | a + 1, h => by
    rw [lsA, List.mem_append] at h
    rcases h with h | h
    · have := lsA_m a h; omega
    · obtain ⟨h1, h2, h3⟩ := lsU_m _ h
      rw [h1]; omega
theorem lsA_p {M : vi_M} (hB : mBx M) {x : Nat × Nat × Nat} (h : x ∈ lsA (M 114) 3) : mIp M (x.1 : Int) (x.2.1 : Int) (x.2.2 : Int) := by
  obtain ⟨h1, h2, h3⟩ := lsA_m 3 h
  obtain ⟨⟨-, -, s1⟩, -, -, s2⟩ := sz_r hB (a := x.1)
  refine ⟨by omega, by omega, by omega, ?_, by omega, ?_⟩
  · rw [← s1]; omega
  · rw [← s2]; omega
/-- the lines stand in their rows -/
def lnA (M : vi_M) : Prop := M 112 39 = ((lsA (M 114) 3).length : Int) ∧ ∀ l, (h : l < (lsA (M 114) 3).length) → M 130 l = (((lsA (M 114) 3)[l]'h).1 : Int) ∧ M 131 l = (((lsA (M 114) 3)[l]'h).2.1 : Int) ∧ M 132 l = (((lsA (M 114) 3)[l]'h).2.2 : Int)
theorem lnA_c {M M' : vi_M} (h : wfO M M') (h39 : M' 112 39 = M 112 39) (hl : lnA M) : lnA M' := by
  obtain ⟨h1, h2, h3, h4⟩ := h
  unfold lnA
  rw [h1, h2, h3, h4, h39]
  exact hl
theorem lnA_o {M : vi_M} (hB : mBx M) (h : lnA M) {l : Nat} (hl : l < (lsA (M 114) 3).length) : lnO M (l : Int) := by
  have hle := lsA_l hB 3
  obtain ⟨e1, e2, e3⟩ := h.2 l hl
  refine .inr ⟨l, _, rfl, by omega, e1, ?_⟩
  rw [e2, e3]
  exact lsA_p hB (List.getElem_mem hl)
theorem lnA_M {M : vi_M} : lnA (lsM M (lsA (M 114) 3)) := by
  unfold lnA
  rw [lsM_o]
  generalize lsA (M 114) 3 = L
  refine ⟨by unfold lsM; rw [vi_rs_s, vi_u_s], fun l hl => ?_⟩
  have r : ∀ (r : Nat → Int) (g : Nat × Nat × Nat → Nat), lsR r g L l = (g (L[l]'hl) : Int) := fun r g => by
    unfold lsR
    rw [List.getElem?_eq_getElem hl]
  unfold lsM
  refine ⟨?_, ?_, ?_⟩
  · rw [vi_rs_o (by omega), vi_rs_o (by omega), vi_rs_o (by omega), vi_rs_s]; exact r _ _
  · rw [vi_rs_o (by omega), vi_rs_o (by omega), vi_rs_s]; exact r _ _
  · rw [vi_rs_o (by omega), vi_rs_s]; exact r _ _
/-- the fewest holes more (0, 1, 2) and the ways found -/
def fwR (E : Int → Int → Bool) (m : Nat) : Int × List (Int × Int) := if E (-1) (-1) = true then (0, [(-1, -1)]) else if wfG E 1 m m ≠ [] then (1, wfG E 1 m m) else (2, wfG E 2 m m)
/-- what was found, where field 42 is the version -/
def mFd (M : vi_M) (lw : Option (List gCla)) (n : Nat) : Prop := M 112 42 = M 112 1 → M 112 30 = M 112 1 ∧ lnA M ∧ ∃ g m : Nat, g ≤ 2 ∧ m ≤ 216 ∧ M 112 43 = (g : Int) ∧ M 112 44 = (m : Int) ∧ M 112 45 = (fwR (enB M lw n g m) (lsA (M 114) 3).length).1 ∧ M 112 46 = ((fwR (enB M lw n g m) (lsA (M 114) 3).length).2.length : Int) ∧ M 112 40 = wfA (fwR (enB M lw n g m) (lsA (M 114) 3).length).2 ∧ M 112 41 = wfB (fwR (enB M lw n g m) (lsA (M 114) 3).length).2
/-- what finds may change -/
def mFg (M M' : vi_M) : Prop := (∀ p, p ≠ 112 → ¬ (123 ≤ p ∧ p ≤ 137) → ¬ (140 ≤ p ∧ p ≤ 149) → M' p = M p) ∧ ∀ k, k ≠ 19 → k ≠ 20 → k ≠ 21 → k ≠ 23 → k ≠ 24 → k ≠ 25 → k ≠ 30 → ¬ (39 ≤ k ∧ k ≤ 46) → M' 112 k = M 112 k
theorem mFg_r {M : vi_M} : mFg M M := ⟨fun _ _ _ _ => rfl, fun _ _ _ _ _ _ _ _ _ => rfl⟩
theorem mFg_t {M M1 M2 : vi_M} (h : mFg M M1) (h' : mFg M1 M2) : mFg M M2 := ⟨fun p h1 h2 h3 => (h'.1 p h1 h2 h3).trans (h.1 p h1 h2 h3), fun k h1 h2 h3 h4 h5 h6 h7 h8 => (h'.2 k h1 h2 h3 h4 h5 h6 h7 h8).trans (h.2 k h1 h2 h3 h4 h5 h6 h7 h8)⟩
theorem mFx_g {M M' : vi_M} (h : mFx M M') : mFg M M' := ⟨fun p h1 h2 h3 => h.1 p h1 (by omega) (by omega) h3, fun k h1 h2 h3 h4 h5 h6 h7 _ => h.2 k h1 h2 h3 h4 h5 h6 h7⟩
theorem mFg_114 {M M' : vi_M} (h : mFg M M') : M' 114 = M 114 := h.1 114 (by omega) (by omega) (by omega)
theorem mFe_g {M M' : vi_M} {F : List (Int × Int)} (h : mFe (wM M F) M') : mFg M M' := ⟨fun p h1 h2 h3 => (h.1 p h1 (by omega) (by omega) (by omega)).trans (wM_o h1), fun k h1 h2 h3 h4 h5 h6 h7 h8 => (h.2 k h1 h2 h3 h4 h5 h6).trans (wM_k (by omega) (by omega))⟩
theorem lsM_g {M : vi_M} {L : List (Nat × Nat × Nat)} : mFg M (lsM M L) := by
  unfold lsM
  refine ⟨fun p h1 h2 h3 => by rw [vi_rs_o h1, vi_rs_o (by omega), vi_rs_o (by omega), vi_rs_o (by omega)], fun k _ _ _ _ _ _ _ h8 => by rw [vi_rs_s, vi_u_o (by omega)]⟩
/-- a query of the plain kind keeps what was found -/
theorem mFd_x {M M' : vi_M} {lw : Option (List gCla)} {n : Nat} (h : mFd M lw n) (hf : mFx M M') (hs : mSee M' lw n) : mFd M' lw n := by
  have k : ∀ k, 39 ≤ k ∧ k ≤ 46 ∨ k = 1 → M' 112 k = M 112 k := fun k hk => hf.2 k (by omega) (by omega) (by omega) (by omega) (by omega) (by omega) (by omega)
  have ho : wfO M M' := ⟨hf.1 _ (by omega) (by omega) (by omega) (by omega), hf.1 _ (by omega) (by omega) (by omega) (by omega), hf.1 _ (by omega) (by omega) (by omega) (by omega), hf.1 _ (by omega) (by omega) (by omega) (by omega)⟩
  intro hv
  rw [k 42 (by omega), k 1 (by omega)] at hv
  obtain ⟨h1, h2, g, m, h3, h4, h5, h6, h7, h8, h9, h10⟩ := h hv
  refine ⟨hs.2.2.1, lnA_c ho (k 39 (by omega)) h2, g, m, h3, h4, ?_⟩
  rw [show enB M' lw n g m = enB M lw n g m from funext fun x => funext fun y => enB_c ho, ho.1, k 43 (by omega), k 44 (by omega), k 45 (by omega), k 46 (by omega), k 40 (by omega), k 41 (by omega)]
  exact ⟨h5, h6, h7, h8, h9, h10⟩
def wN (M : vi_M) (h : Int) (F : List (Int × Int)) : vi_M := vi_rs M 112 (vi_u (vi_u (vi_u (vi_u (M 112) 40 (wfA F)) 41 (wfB F)) 45 h) 46 (F.length : Int))
theorem wN_o {M : vi_M} {h : Int} {F : List (Int × Int)} {p : Nat} (hp : p ≠ 112) : wN M h F p = M p := vi_rs_o hp
theorem wN_k {M : vi_M} {h : Int} {F : List (Int × Int)} {k : Nat} (h1 : k ≠ 40) (h2 : k ≠ 41) (h3 : k ≠ 45) (h4 : k ≠ 46) : wN M h F 112 k = M 112 k := by
  unfold wN
  rw [vi_rs_s, vi_u_o h4, vi_u_o h3, vi_u_o h2, vi_u_o h1]
theorem wN_f {M : vi_M} {h : Int} {F : List (Int × Int)} : wN M h F 112 40 = wfA F ∧ wN M h F 112 41 = wfB F ∧ wN M h F 112 45 = h ∧ wN M h F 112 46 = (F.length : Int) := by
  unfold wN
  rw [vi_rs_s]
  refine ⟨?_, ?_, ?_, vi_u_s⟩
  · rw [vi_u_o (by omega), vi_u_o (by omega), vi_u_o (by omega), vi_u_s]
  · rw [vi_u_o (by omega), vi_u_o (by omega), vi_u_s]
  · rw [vi_u_o (by omega), vi_u_s]
theorem wN_s {M M4 M6 : vi_M} {h h' : Int} {F G : List (Int × Int)} (h4 : mFe (wN M h F) M4) (h6 : mFe (wM (vi_rs M4 112 (vi_u (M4 112) 45 h')) G) M6) : mFe (wN M h' G) (vi_rs M6 112 (vi_u (M6 112) 46 (G.length : Int))) := by
  refine ⟨fun p h1 h2 h3 h5 => by rw [vi_rs_o h1, h6.1 p h1 h2 h3 h5, wM_o h1, vi_rs_o h1, h4.1 p h1 h2 h3 h5, wN_o h1, wN_o h1], fun k h1 h2 h3 h5 h7 h8 => ?_⟩
  rw [vi_rs_s]
  by_cases e46 : k = 46
  · rw [e46, vi_u_s, wN_f.2.2.2]
  rw [vi_u_o e46, h6.2 k h1 h2 h3 h5 h7 h8]
  by_cases e45 : k = 45
  · rw [e45, wM_k (by omega) (by omega), vi_rs_s, vi_u_s, wN_f.2.2.1]
  by_cases e41 : k = 41
  · rw [e41, wN_f.2.1]; unfold wM; rw [vi_rs_s, vi_u_s]
  by_cases e40 : k = 40
  · rw [e40, wN_f.1]; unfold wM; rw [vi_rs_s, vi_u_o (by omega), vi_u_s]
  rw [wM_k e40 e41, vi_rs_s, vi_u_o e45, h4.2 k h1 h2 h3 h5 h7 h8, wN_k e40 e41 e45 e46, wN_k e40 e41 e45 e46]
theorem wN_w {M M' : vi_M} {h : Int} {F : List (Int × Int)} (hf : mFe (wN M h F) M') : wfO M M' :=
  ⟨(mFe_114 hf).trans (wN_o (by omega)), (hf.1 _ (by omega) (by omega) (by omega) (by omega)).trans (wN_o (by omega)), (hf.1 _ (by omega) (by omega) (by omega) (by omega)).trans (wN_o (by omega)), (hf.1 _ (by omega) (by omega) (by omega) (by omega)).trans (wN_o (by omega))⟩
theorem wN_see {M : vi_M} {h : Int} {F : List (Int × Int)} {lw : Option (List gCla)} {n : Nat} (hs : mSee M lw n) : mSee (wN M h F) lw n :=
  mSee_c hs (wN_o (by omega)) (wN_o (by omega)) (wN_o (by omega)) (wN_o (by omega)) (wN_o (by omega)) (by rw [wN_k (by omega) (by omega) (by omega) (by omega), wN_k (by omega) (by omega) (by omega) (by omega)]; exact hs.2.2.1)
section
variable {D : Nat} {K : Option vi_V → vi_W → Prop} {Y : vi_Y} {M : vi_M} {nn : Nat × Nat} {Q : Option vi_V → vi_W → Prop}
theorem k_317 (hY : kY Y 151) {lw : Option (List gCla)} {n : Nat} (hS : mKs M lw n) (hd : mFd M lw n) {g m : Nat} (hg : g ≤ 2) (hm : m ≤ 216) (hD : 49 ≤ D)
    (hQ : ∀ M', mSee M' lw n → mFg M M' → mFd M' lw n → M' 112 42 = M' 112 1 → M' 112 43 = (g : Int) → M' 112 44 = (m : Int) → Q none (Y, M', nn)) : vi_call GG D 317 [.inr (.inr 112), .inl (g : Int), .inl (m : Int)] (Y, M, nn) Q := by
  obtain ⟨D, rfl⟩ : ∃ k, D = k + 1 := ⟨D - 1, by omega⟩
  obtain ⟨R1, -⟩ := y_112 hY (by omega)
  have hB := hS.1
  by_cases hc : M 112 42 = M 112 1 ∧ M 112 43 = (g : Int) ∧ M 112 44 = (m : Int)
  · obtain ⟨c1, c2, c3⟩ := hc
    have hs : mSee M lw n := hS.2.2.2.2.2.2 (hd c1).1
    have := hQ M hs mFg_r hd c1 c2 c3
    clear hQ hd
    simp (disch := omega) only [Option.toList_some, Option.toList_none, List.nil_append, List.cons_append, List.append_nil, true_and, and_true, not_true_eq_false, not_false_eq_true, true_implies, false_implies, implies_true, and_self, Int.reduceLT, Int.reduceLE, Int.reduceEq, Int.reduceNe, Int.reduceAdd, Int.reduceSub, Int.reduceMul, Int.reduceNeg, Int.reduceToNat, Int.toNat_natCast, ↓kk_ck, ↓kk_im, ↓kk_in, e_317, s_317_0, s_317_4, s_317_8, s_317_11, s_317_15, s_317_19, s_317_23, s_317_27, R1, c1, c2, c3, ne_eq]
    exact this
  · have cont : vi_call GG D 294 [.inr (.inr 112)] (Y, M, nn) (fun r w' => vi_ok GG D 317 32 [some (.inr (.inr 112)), some (.inl (g : Int)), some (.inl (m : Int))] r.toList w' Q) := by
      refine k_294u hY hS (by omega) fun M1 hs1 hf1 => ?_
      have hB1 := mBx_c (mFr_114 hf1) hB
      have hg1 := mFx_g (mFx_of hf1)
      have k312 := fun {D : Nat} {K : Option vi_V → vi_W → Prop} (hD : 3 ≤ D) => @k_312 D K Y M1 nn hY hB1 hD
      have hA := lnA_M (M := M1)
      have hlen := lsA_l hB1 3
      have hg2 : mFg M (lsM M1 (lsA (M1 114) 3)) := mFg_t hg1 lsM_g
      have s2 : mSee (lsM M1 (lsA (M1 114) 3)) lw n := by
        refine mSee_c hs1 lsM_o ?_ ?_ ?_ ?_ ?_
        · unfold lsM; rw [vi_rs_o (by omega), vi_rs_o (by omega), vi_rs_o (by omega), vi_rs_o (by omega)]
        · unfold lsM; rw [vi_rs_o (by omega), vi_rs_o (by omega), vi_rs_o (by omega), vi_rs_o (by omega)]
        · unfold lsM; rw [vi_rs_o (by omega), vi_rs_o (by omega), vi_rs_o (by omega), vi_rs_o (by omega)]
        · unfold lsM; rw [vi_rs_o (by omega), vi_rs_o (by omega), vi_rs_o (by omega), vi_rs_o (by omega)]
        · unfold lsM; rw [vi_rs_s, vi_u_o (by omega), vi_u_o (by omega)]; exact hs1.2.2.1
      have l114 : lsM M1 (lsA (M1 114) 3) 114 = M1 114 := lsM_o
      generalize hM2 : lsM M1 (lsA (M1 114) 3) = M2 at *
      rw [← l114] at hlen
      -- the fields laid anew
      obtain ⟨M3, hM3⟩ : ∃ M3, M3 = vi_rs M2 112 (vi_u (vi_u (vi_u (vi_u (M2 112) 42 (M2 112 1)) 43 (g : Int)) 44 (m : Int)) 45 0) := ⟨_, rfl⟩
      have o3 : ∀ p, p ≠ 112 → M3 p = M2 p := fun p hp => by rw [hM3, vi_rs_o hp]
      have f3 : ∀ k, ¬ (42 ≤ k ∧ k ≤ 45) → M3 112 k = M2 112 k := fun k hk => by rw [hM3, vi_rs_s, vi_u_o (by omega), vi_u_o (by omega), vi_u_o (by omega), vi_u_o (by omega)]
      have f42 : M3 112 42 = M3 112 1 := by rw [f3 1 (by omega), hM3, vi_rs_s, vi_u_o (by omega), vi_u_o (by omega), vi_u_o (by omega), vi_u_s]
      have f43 : M3 112 43 = (g : Int) := by rw [hM3, vi_rs_s, vi_u_o (by omega), vi_u_o (by omega), vi_u_s]
      have f44 : M3 112 44 = (m : Int) := by rw [hM3, vi_rs_s, vi_u_o (by omega), vi_u_s]
      have f45 : M3 112 45 = 0 := by rw [hM3, vi_rs_s, vi_u_s]
      have s3 : mSee M3 lw n := mSee_c s2 (o3 _ (by omega)) (o3 _ (by omega)) (o3 _ (by omega)) (o3 _ (by omega)) (o3 _ (by omega)) (by rw [f3 30 (by omega), f3 1 (by omega)]; exact s2.2.2.1)
      have hA3 : lnA M3 := lnA_c ⟨o3 _ (by omega), o3 _ (by omega), o3 _ (by omega), o3 _ (by omega)⟩ (f3 39 (by omega)) hA
      have g3 : mFg M M3 := mFg_t hg2 ⟨fun p h1 h2 h3 => o3 p h1, fun k _ _ _ _ _ _ _ h8 => f3 k (by omega)⟩
      have e114 : M3 114 = M 114 := mFg_114 g3
      have hS3 : mKs M3 lw n := mKs_c hS e114 fun _ => s3
      have hl3 : (lsA (M3 114) 3).length ≤ 108 := by rw [o3 114 (by omega)]; exact hlen
      generalize hk0 : (lsA (M3 114) 3).length = k0 at *
      have h39 : M3 112 39 = (k0 : Int) := by rw [← hk0]; exact hA3.1
      have hlO : ∀ l : Nat, l < k0 → lnO M3 (l : Int) := fun l hl => lnA_o hS3.1 hA3 (by rw [hk0]; exact hl)
      have fin : ∀ (M4 : vi_M) (h : Int) (F : List (Int × Int)), mFe (wN M3 h F) M4 → (h, F) = fwR (enB M3 lw n g m) k0 → Q none (Y, M4, nn) := by
        intro M4 h F hf hF
        have fk : ∀ k, k ≠ 19 → k ≠ 20 → k ≠ 21 → k ≠ 23 → k ≠ 24 → k ≠ 25 → k ≠ 40 → k ≠ 41 → k ≠ 45 → k ≠ 46 → M4 112 k = M3 112 k := fun k h1 h2 h3 h4 h5 h6 h7 h8 h9 h10 => by rw [hf.2 k h1 h2 h3 h4 h5 h6, wN_k h7 h8 h9 h10]
        have ho := wN_w hf
        have hs4 : mSee M4 lw n := mFe_s hf (wN_see s3)
        have q1 : M4 112 1 = M3 112 1 := fk 1 (by omega) (by omega) (by omega) (by omega) (by omega) (by omega) (by omega) (by omega) (by omega) (by omega)
        have q42 : M4 112 42 = M3 112 42 := fk 42 (by omega) (by omega) (by omega) (by omega) (by omega) (by omega) (by omega) (by omega) (by omega) (by omega)
        have q43 : M4 112 43 = M3 112 43 := fk 43 (by omega) (by omega) (by omega) (by omega) (by omega) (by omega) (by omega) (by omega) (by omega) (by omega)
        have q44 : M4 112 44 = M3 112 44 := fk 44 (by omega) (by omega) (by omega) (by omega) (by omega) (by omega) (by omega) (by omega) (by omega) (by omega)
        have q39 : M4 112 39 = M3 112 39 := fk 39 (by omega) (by omega) (by omega) (by omega) (by omega) (by omega) (by omega) (by omega) (by omega) (by omega)
        have fs : ∀ k, 40 ≤ k ∧ k ≤ 46 → M4 112 k = wN M3 h F 112 k := fun k hk => hf.2 k (by omega) (by omega) (by omega) (by omega) (by omega) (by omega)
        refine hQ _ hs4 (mFg_t g3 ⟨fun p h1 h2 h3 => (hf.1 p h1 (by omega) (by omega) (by omega)).trans (wN_o h1), fun k h1 h2 h3 h4 h5 h6 h7 h8 => fk k h1 h2 h3 h4 h5 h6 (by omega) (by omega) (by omega) (by omega)⟩) (fun _ => ?_) (by rw [q42, q1]; exact f42) (q43.trans f43) (q44.trans f44)
        refine ⟨hs4.2.2.1, lnA_c ho q39 hA3, g, m, hg, hm, q43.trans f43, q44.trans f44, ?_⟩
        rw [show enB M4 lw n g m = enB M3 lw n g m from funext fun x => funext fun y => enB_c ho, ho.1, hk0, ← hF]
        exact ⟨(fs 45 (by omega)).trans wN_f.2.2.1, (fs 46 (by omega)).trans wN_f.2.2.2, (fs 40 (by omega)).trans wN_f.1, (fs 41 (by omega)).trans wN_f.2.1⟩
      clear hQ
      have f45' : ∀ {M4 : vi_M} {h : Int} {F : List (Int × Int)}, mFe (wN M3 h F) M4 → M4 112 45 = h ∧ M4 112 46 = (F.length : Int) := fun hf => ⟨(hf.2 45 (by omega) (by omega) (by omega) (by omega) (by omega) (by omega)).trans wN_f.2.2.1, (hf.2 46 (by omega) (by omega) (by omega) (by omega) (by omega) (by omega)).trans wN_f.2.2.2⟩
      have step : ∀ (h : Nat) (F : List (Int × Int)) (M4 : vi_M), h + 1 = 1 ∨ h + 1 = 2 → mFe (wN M3 (h : Int) F) M4 → F = [] → (∀ M5, mFe (wN M3 ((h + 1 : Nat) : Int) (wfG (enB M3 lw n g m) (h + 1) k0 k0)) M5 → vi_ok GG D 317 70 [some (.inr (.inr 112)), some (.inl (g : Int)), some (.inl (m : Int))] [] (Y, M5, nn) Q) → vi_ok GG D 317 70 [some (.inr (.inr 112)), some (.inl (g : Int)), some (.inl (m : Int))] [] (Y, M4, nn) Q := by
        intro h F M4 hh hf hF ih
        obtain ⟨r45, r46⟩ := f45' hf
        rw [hF, List.length_nil] at r46
        have hs4 : mSee M4 lw n := mFe_s hf (wN_see s3)
        have ho4 := wN_w hf
        have o5 : ∀ p, p ≠ 112 → vi_rs M4 112 (vi_u (M4 112) 45 ((h + 1 : Nat) : Int)) p = M4 p := fun p hp => vi_rs_o hp
        have f5 : ∀ k, k ≠ 45 → vi_rs M4 112 (vi_u (M4 112) 45 ((h + 1 : Nat) : Int)) 112 k = M4 112 k := fun k hk => by rw [vi_rs_s, vi_u_o hk]
        have hs5 : mSee (vi_rs M4 112 (vi_u (M4 112) 45 ((h + 1 : Nat) : Int))) lw n := mSee_c hs4 (o5 _ (by omega)) (o5 _ (by omega)) (o5 _ (by omega)) (o5 _ (by omega)) (o5 _ (by omega)) (by rw [f5 30 (by omega), f5 1 (by omega)]; exact hs4.2.2.1)
        have ho5 : wfO M3 (vi_rs M4 112 (vi_u (M4 112) 45 ((h + 1 : Nat) : Int))) := ⟨(o5 _ (by omega)).trans ho4.1, (o5 _ (by omega)).trans ho4.2.1, (o5 _ (by omega)).trans ho4.2.2.1, (o5 _ (by omega)).trans ho4.2.2.2⟩
        have h39' : vi_rs M4 112 (vi_u (M4 112) 45 ((h + 1 : Nat) : Int)) 112 39 = (k0 : Int) := by rw [f5 39 (by omega), hf.2 39 (by omega) (by omega) (by omega) (by omega) (by omega) (by omega), wN_k (by omega) (by omega) (by omega) (by omega)]; exact h39
        have cont : vi_call GG D 316 [.inr (.inr 112), .inl ((h + 1 : Nat) : Int), .inl (g : Int), .inl (m : Int)] (Y, vi_rs M4 112 (vi_u (M4 112) 45 ((h + 1 : Nat) : Int)), nn) (fun r w' => vi_ok GG D 317 106 [some (.inr (.inr 112)), some (.inl (g : Int)), some (.inl (m : Int))] (r.toList ++ [.inr (.inr 112)]) w' Q) := by
          refine k_316 hY (mKs_c hS3 ho5.1 fun _ => hs5) hs5 hg hm (h := h + 1) hh hl3 h39' (fun l hl => lnO_c ho5 (hlO l hl)) (by omega) fun M6 f6 => ?_
          rw [show enB (vi_rs M4 112 (vi_u (M4 112) 45 ((h + 1 : Nat) : Int))) lw n g m = enB M3 lw n g m from funext fun x => funext fun y => enB_c ho5] at f6 ⊢
          have := ih _ (wN_s hf f6)
          clear ih fin
          simp (disch := omega) only [Option.toList_some, Option.toList_none, List.nil_append, List.cons_append, List.append_nil, true_and, and_true, not_true_eq_false, not_false_eq_true, true_implies, false_implies, implies_true, and_self, Int.reduceLT, Int.reduceLE, Int.reduceEq, Int.reduceNe, Int.reduceAdd, Int.reduceSub, Int.reduceMul, Int.reduceNeg, Int.reduceToNat, Int.toNat_natCast, ↓kk_ck, ↓kk_im, ↓kk_in, Option.toList, s_317_106, s_317_109, R1, vi_ms_rs, ne_eq]
          exact this
        clear ih fin
        have r45' : vi_u (M4 112) 45 ((h + 1 : Nat) : Int) 45 = ((h + 1 : Nat) : Int) := vi_u_s
        rw [s_317_70]
        simp (disch := omega) only [Option.toList_some, Option.toList_none, List.nil_append, List.cons_append, List.append_nil, true_and, and_true, not_true_eq_false, not_false_eq_true, true_implies, false_implies, implies_true, and_self, Int.reduceLT, Int.reduceLE, Int.reduceEq, Int.reduceNe, Int.reduceAdd, Int.reduceSub, Int.reduceMul, Int.reduceNeg, Int.reduceToNat, Int.toNat_natCast, ↓kk_ck, ↓kk_im, ↓kk_in, s_317_74, s_317_77, s_317_81, s_317_85, s_317_90, s_317_95, s_317_101, R1, vi_rs_s, vi_ms_rs, r45, r46, vi_inc, r45', ne_eq]
        exact cont
      have stay : ∀ (h : Nat) (F : List (Int × Int)) (M4 : vi_M), mFe (wN M3 (h : Int) F) M4 → h = 2 ∨ F ≠ [] → ((h : Int), F) = fwR (enB M3 lw n g m) k0 → vi_ok GG D 317 70 [some (.inr (.inr 112)), some (.inl (g : Int)), some (.inl (m : Int))] [] (Y, M4, nn) Q := by
        intro h F M4 hf hh hF
        have q := fin M4 h F hf hF
        obtain ⟨r45, r46⟩ := f45' hf
        clear fin step
        rw [s_317_70]
        by_cases hz : F = []
        · obtain rfl : h = 2 := by rcases hh with h | h; exact h; exact absurd hz h
          rw [hz, List.length_nil] at r46
          simp (disch := omega) only [Option.toList_some, Option.toList_none, List.nil_append, List.cons_append, List.append_nil, true_and, and_true, not_true_eq_false, not_false_eq_true, true_implies, false_implies, implies_true, and_self, Int.reduceLT, Int.reduceLE, Int.reduceEq, Int.reduceNe, Int.reduceAdd, Int.reduceSub, Int.reduceMul, Int.reduceNeg, Int.reduceToNat, Int.toNat_natCast, ↓kk_ck, ↓kk_im, ↓kk_in, s_317_74, s_317_77, s_317_81, s_317_112, R1, r45, r46, ne_eq]
          exact q
        · have hz' : ¬ (F.length : Int) = 0 := by
            have : F.length ≠ 0 := fun e => hz (List.length_eq_zero_iff.mp e)
            omega
          simp (disch := omega) only [Option.toList_some, Option.toList_none, List.nil_append, List.cons_append, List.append_nil, true_and, and_true, not_true_eq_false, not_false_eq_true, true_implies, false_implies, implies_true, and_self, Int.reduceLT, Int.reduceLE, Int.reduceEq, Int.reduceNe, Int.reduceAdd, Int.reduceSub, Int.reduceMul, Int.reduceNeg, Int.reduceToNat, Int.toNat_natCast, ↓kk_ck, ↓kk_im, ↓kk_in, s_317_74, s_317_112, R1, r46, hz', ne_eq]
          exact q
      clear fin
      have cont0 : vi_call GG D 316 [.inr (.inr 112), .inl 0, .inl (g : Int), .inl (m : Int)] (Y, M3, nn) (fun r w' => vi_ok GG D 317 67 [some (.inr (.inr 112)), some (.inl (g : Int)), some (.inl (m : Int))] (r.toList ++ [.inr (.inr 112)]) w' Q) := by
        refine k_316z hY hS3 s3 hg hm (by omega) fun M4 f4 => ?_
        have nx : ∀ (F : List (Int × Int)), wfA F = -1 → wfB F = -1 → mFe (wN M3 ((0 : Nat) : Int) F) (vi_rs M4 112 (vi_u (M4 112) 46 (F.length : Int))) := by
          intro F q1 q2
          refine ⟨fun p h1 h2 h3 h5 => by rw [vi_rs_o h1, f4.1 p h1 h2 h3 h5, wM_o h1, wN_o h1], fun k h1 h2 h3 h5 h7 h8 => ?_⟩
          rw [vi_rs_s]
          by_cases e46 : k = 46
          · rw [e46, vi_u_s, wN_f.2.2.2]
          rw [vi_u_o e46, f4.2 k h1 h2 h3 h5 h7 h8]
          by_cases e45 : k = 45
          · rw [e45, wM_k (by omega) (by omega), wN_f.2.2.1]; exact f45
          by_cases e41 : k = 41
          · rw [e41, wN_f.2.1, q2]; unfold wM; rw [vi_rs_s, vi_u_s]; rfl
          by_cases e40 : k = 40
          · rw [e40, wN_f.1, q1]; unfold wM; rw [vi_rs_s, vi_u_o (by omega), vi_u_s]; rfl
          rw [wM_k e40 e41, wN_k e40 e41 e45 e46]
        cases hb : enB M3 lw n g m (-1) (-1)
        · have st := step 0 [] _ (.inl rfl) (nx [] rfl rfl) rfl fun M5 f5 => by
            by_cases hz : wfG (enB M3 lw n g m) 1 k0 k0 = []
            · refine step 1 _ M5 (.inr rfl) f5 hz fun M6 f6 => stay 2 _ M6 f6 (.inl rfl) ?_
              unfold fwR
              rw [if_neg (by rw [hb]; simp), if_neg (by simp [hz])]
              rfl
            · refine stay 1 _ M5 f5 (.inr hz) ?_
              unfold fwR
              rw [if_neg (by rw [hb]; simp), if_pos hz]
              rfl
          clear step stay nx
          simp (disch := omega) only [Option.toList_some, Option.toList_none, List.nil_append, List.cons_append, List.append_nil, true_and, and_true, not_true_eq_false, not_false_eq_true, true_implies, false_implies, implies_true, and_self, Int.reduceLT, Int.reduceLE, Int.reduceEq, Int.reduceNe, Int.reduceAdd, Int.reduceSub, Int.reduceMul, Int.reduceNeg, Int.reduceToNat, Int.toNat_natCast, ↓kk_ck, ↓kk_im, ↓kk_in, Option.toList, s_317_67, R1, vi_ms_rs, vi_bf, ne_eq]
          exact st
        · have st := stay 0 [(-1, -1)] _ (nx [(-1, -1)] rfl rfl) (.inr (by simp)) (by unfold fwR; rw [if_pos hb]; rfl)
          clear step stay nx
          simp (disch := omega) only [Option.toList_some, Option.toList_none, List.nil_append, List.cons_append, List.append_nil, true_and, and_true, not_true_eq_false, not_false_eq_true, true_implies, false_implies, implies_true, and_self, Int.reduceLT, Int.reduceLE, Int.reduceEq, Int.reduceNe, Int.reduceAdd, Int.reduceSub, Int.reduceMul, Int.reduceNeg, Int.reduceToNat, Int.toNat_natCast, ↓kk_ck, ↓kk_im, ↓kk_in, Option.toList, s_317_67, R1, vi_ms_rs, vi_bt, ne_eq]
          exact st
      clear step stay
      have em2 : vi_rs M2 112 (vi_u (vi_u (vi_u (vi_u (M2 112) 42 (M2 112 1)) 43 (g : Int)) 44 (m : Int)) 45 0) = M3 := hM3.symm
      clear hM3
      simp (disch := omega) only [Option.toList_some, Option.toList_none, List.nil_append, List.cons_append, List.append_nil, true_and, and_true, not_true_eq_false, not_false_eq_true, true_implies, false_implies, implies_true, and_self, Int.reduceLT, Int.reduceLE, Int.reduceEq, Int.reduceNe, Int.reduceAdd, Int.reduceSub, Int.reduceMul, Int.reduceNeg, Int.reduceToNat, Int.toNat_natCast, ↓kk_ck, ↓kk_im, ↓kk_in, s_317_32, k312, s_317_36, s_317_41, s_317_44, s_317_49, s_317_54, s_317_59, R1, vi_ms_rs, vi_rs_s, vi_rs_rs, em2, ne_eq]
      exact cont0
    clear hQ hd
    rcases Classical.em (M 112 42 = M 112 1) with c1 | c1
    · rcases Classical.em (M 112 43 = (g : Int)) with c2 | c2
      · have c3 : ¬ M 112 44 = (m : Int) := fun h => hc ⟨c1, c2, h⟩
        simp (disch := omega) only [Option.toList_some, Option.toList_none, List.nil_append, List.cons_append, List.append_nil, true_and, and_true, not_true_eq_false, not_false_eq_true, true_implies, false_implies, implies_true, and_self, Int.reduceLT, Int.reduceLE, Int.reduceEq, Int.reduceNe, Int.reduceAdd, Int.reduceSub, Int.reduceMul, Int.reduceNeg, Int.reduceToNat, Int.toNat_natCast, ↓kk_ck, ↓kk_im, ↓kk_in, e_317, s_317_0, s_317_4, s_317_8, s_317_11, s_317_15, s_317_19, s_317_23, s_317_28, R1, c1, c2, c3, ne_eq]
        exact cont
      · simp (disch := omega) only [Option.toList_some, Option.toList_none, List.nil_append, List.cons_append, List.append_nil, true_and, and_true, not_true_eq_false, not_false_eq_true, true_implies, false_implies, implies_true, and_self, Int.reduceLT, Int.reduceLE, Int.reduceEq, Int.reduceNe, Int.reduceAdd, Int.reduceSub, Int.reduceMul, Int.reduceNeg, Int.reduceToNat, Int.toNat_natCast, ↓kk_ck, ↓kk_im, ↓kk_in, e_317, s_317_0, s_317_4, s_317_8, s_317_11, s_317_15, s_317_28, R1, c1, c2, ne_eq]
        exact cont
    · simp (disch := omega) only [Option.toList_some, Option.toList_none, List.nil_append, List.cons_append, List.append_nil, true_and, and_true, not_true_eq_false, not_false_eq_true, true_implies, false_implies, implies_true, and_self, Int.reduceLT, Int.reduceLE, Int.reduceEq, Int.reduceNe, Int.reduceAdd, Int.reduceSub, Int.reduceMul, Int.reduceNeg, Int.reduceToNat, Int.toNat_natCast, ↓kk_ck, ↓kk_im, ↓kk_in, e_317, s_317_0, s_317_4, s_317_8, s_317_28, R1, c1, ne_eq]
      exact cont
/-- an answer of fewest -/
def fwN (M : vi_M) (r : Int × List (Int × Int)) (w : Int) : Int := if w = 1 then (r.2.length : Int) else if r.2 = [] then -1 else if w = 0 then r.1 else
  (fun l : Int => if l = -1 then -1 else if (w - 2) % 3 = 0 then M 130 l.toNat else if (w - 2) % 3 = 1 then M 131 l.toNat else M 132 l.toNat) (if w < 5 then wfA r.2 else wfB r.2)
theorem k_318n (hY : kY Y 151) {g m w : Int} (h : ¬ ((0 ≤ g ∧ g ≤ 2) ∧ (0 ≤ m ∧ m ≤ 216) ∧ 0 ≤ w ∧ w ≤ 7)) (hD : 2 ≤ D) : vi_call GG D 318 [.inr (.inr 112), .inl g, .inl m, .inl w] (Y, M, nn) K ↔ K (some (.inl (-1))) (Y, M, nn) := by
  obtain ⟨D, rfl⟩ : ∃ k, D = k + 1 := ⟨D - 1, by omega⟩
  refine vi_k (r := some (.inl _)) fun Q hQ => ?_
  by_cases h1 : 0 ≤ g ∧ g ≤ 2
  · by_cases h2 : 0 ≤ m ∧ m ≤ 216
    · have h3 : ¬ (0 ≤ w ∧ w ≤ 7) := fun k => h ⟨h1, h2, k⟩
      simp (disch := omega) only [Option.toList_some, Option.toList_none, List.nil_append, List.cons_append, List.append_nil, true_and, and_true, not_true_eq_false, not_false_eq_true, true_implies, false_implies, implies_true, and_self, Int.reduceLT, Int.reduceLE, Int.reduceEq, Int.reduceNe, Int.reduceAdd, Int.reduceSub, Int.reduceMul, Int.reduceNeg, Int.reduceToNat, Int.toNat_natCast, ↓kk_ck, ↓kk_im, ↓kk_in, e_318, s_318_0, s_318_6, s_318_9, s_318_17, s_318_20, s_318_27, s_318_30, k_234t h1, k_234t h2, k_234f h3, ne_eq]
      exact hQ
    · simp (disch := omega) only [Option.toList_some, Option.toList_none, List.nil_append, List.cons_append, List.append_nil, true_and, and_true, not_true_eq_false, not_false_eq_true, true_implies, false_implies, implies_true, and_self, Int.reduceLT, Int.reduceLE, Int.reduceEq, Int.reduceNe, Int.reduceAdd, Int.reduceSub, Int.reduceMul, Int.reduceNeg, Int.reduceToNat, Int.toNat_natCast, ↓kk_ck, ↓kk_im, ↓kk_in, e_318, s_318_0, s_318_6, s_318_9, s_318_17, s_318_30, k_234t h1, k_234f h2, ne_eq]
      exact hQ
  · simp (disch := omega) only [Option.toList_some, Option.toList_none, List.nil_append, List.cons_append, List.append_nil, true_and, and_true, not_true_eq_false, not_false_eq_true, true_implies, false_implies, implies_true, and_self, Int.reduceLT, Int.reduceLE, Int.reduceEq, Int.reduceNe, Int.reduceAdd, Int.reduceSub, Int.reduceMul, Int.reduceNeg, Int.reduceToNat, Int.toNat_natCast, ↓kk_ck, ↓kk_im, ↓kk_in, e_318, s_318_0, s_318_6, s_318_30, k_234f h1, ne_eq]
    exact hQ
theorem wfG_m {E : Int → Int → Bool} {h m : Nat} (hm : m ≤ 108) : ∀ (k : Nat) (x : Int × Int), k ≤ m → x ∈ wfG E h m k → (0 ≤ x.1 ∧ x.1 < (m : Int)) ∧ (-1 ≤ x.2 ∧ x.2 < (m : Int))
  | 0, x, _, hx => by cases hx
  | k + 1, x, hk, hx => by
    rw [wfG, List.mem_append] at hx
    rcases hx with hx | hx
    · unfold wW at hx
      have hr : ∀ (a j : Nat), a < m → j ≤ m → x ∈ wR E a m j → (0 ≤ x.1 ∧ x.1 < (m : Int)) ∧ (-1 ≤ x.2 ∧ x.2 < (m : Int)) := by
        intro a j ha
        induction j with
        | zero => intro _ h; cases h
        | succ j ih =>
          intro hj h
          rw [wR, List.mem_append] at h
          rcases h with h | h
          · split at h
            · rw [List.mem_singleton] at h
              subst h
              dsimp only
              omega
            · cases h
          · exact ih (by omega) h
      split at hx
      · split at hx
        · rw [List.mem_singleton] at hx
          subst hx
          dsimp only
          omega
        · cases hx
      · exact hr _ _ (by omega) (by omega) hx
    · exact wfG_m hm k x (by omega) hx
theorem fwR_r {E : Int → Int → Bool} {m : Nat} (hm : m ≤ 108) : (-1 ≤ wfA (fwR E m).2 ∧ wfA (fwR E m).2 < 108) ∧ (-1 ≤ wfB (fwR E m).2 ∧ wfB (fwR E m).2 < 108) := by
  have key : ∀ F : List (Int × Int), (∀ x, x ∈ F → (0 ≤ x.1 ∧ x.1 < (m : Int)) ∧ (-1 ≤ x.2 ∧ x.2 < (m : Int))) → (-1 ≤ wfA F ∧ wfA F < 108) ∧ (-1 ≤ wfB F ∧ wfB F < 108) := by
    intro F h
    cases F with
    | nil => unfold wfA wfB; dsimp only; omega
    | cons x F =>
      have := h x (List.mem_cons_self ..)
      unfold wfA wfB; dsimp only; omega
  unfold fwR
  split
  · unfold wfA wfB; dsimp only; omega
  · split
    · exact key _ fun x hx => wfG_m hm m x (Nat.le_refl _) hx
    · exact key _ fun x hx => wfG_m hm m x (Nat.le_refl _) hx
theorem k_318 (hY : kY Y 151) {lw : Option (List gCla)} {n : Nat} (hS : mKs M lw n) (hd : mFd M lw n) {g m : Nat} (hg : g ≤ 2) (hm : m ≤ 216) {w : Int} (hw : 0 ≤ w ∧ w ≤ 7) (hD : 50 ≤ D)
    (hQ : ∀ M', mSee M' lw n → mFg M M' → mFd M' lw n → lnA M' → Q (some (.inl (fwN M' (fwR (enB M' lw n g m) (lsA (M 114) 3).length) w))) (Y, M', nn)) : vi_call GG D 318 [.inr (.inr 112), .inl (g : Int), .inl (m : Int), .inl w] (Y, M, nn) Q := by
  obtain ⟨D, rfl⟩ : ∃ k, D = k + 1 := ⟨D - 1, by omega⟩
  obtain ⟨R1, -, R3, -, -, -, -, -, -, -, -, -, -, R27, R28, R29, R31, R32, R33, R34, R35, R36, R37, R38, -⟩ := y_112 hY (by omega)
  obtain ⟨p1, p2⟩ := y_130 hY (by omega)
  obtain ⟨p3, p4⟩ := y_131 hY (by omega)
  obtain ⟨p5, p6⟩ := y_132 hY (by omega)
  have hB := hS.1
  have cont : vi_call GG D 317 [.inr (.inr 112), .inl (g : Int), .inl (m : Int)] (Y, M, nn) (fun r w' => vi_ok GG D 318 38 [some (.inr (.inr 112)), some (.inl (g : Int)), some (.inl (m : Int)), some (.inl w), none, none] r.toList w' Q) := by
    refine k_317 hY hS hd hg hm (by omega) fun M' hs hf hd' c1 c2 c3 => ?_
    obtain ⟨-, hA, g', m', h3, h4, h5, h6, h7, h8, h9, h10⟩ := hd' c1
    have hq := hQ M' hs hf hd' hA
    have e1 : g' = g := by omega
    have e2 : m' = m := by omega
    rw [e1, e2, mFg_114 hf] at h7 h8 h9 h10
    have hl := lsA_l hB 3
    clear hQ hs hd'
    have hr := fwR_r (E := enB M' lw n g m) (m := (lsA (M 114) 3).length) (by omega)
    generalize fwR (enB M' lw n g m) (lsA (M 114) 3).length = r at *
    obtain ⟨h, F⟩ := r
    unfold fwN at hq
    dsimp only at hq h7 h8 h9 h10 hr
    by_cases w1 : w = 1
    · rw [if_pos w1] at hq
      simp (disch := omega) only [Option.toList_some, Option.toList_none, List.nil_append, List.cons_append, List.append_nil, true_and, and_true, not_true_eq_false, not_false_eq_true, true_implies, false_implies, implies_true, and_self, Int.reduceLT, Int.reduceLE, Int.reduceEq, Int.reduceNe, Int.reduceAdd, Int.reduceSub, Int.reduceMul, Int.reduceNeg, Int.reduceToNat, Int.toNat_natCast, ↓kk_ck, ↓kk_im, ↓kk_in, Option.toList, List.append_nil, s_318_38, s_318_43, s_318_47, R1, w1, h8, ne_eq]
      exact hq
    · rw [if_neg w1] at hq
      by_cases hF : F = []
      · rw [if_pos hF] at hq
        have h8' : M' 112 46 = 0 := by rw [h8, hF]; rfl
        simp (disch := omega) only [Option.toList_some, Option.toList_none, List.nil_append, List.cons_append, List.append_nil, true_and, and_true, not_true_eq_false, not_false_eq_true, true_implies, false_implies, implies_true, and_self, Int.reduceLT, Int.reduceLE, Int.reduceEq, Int.reduceNe, Int.reduceAdd, Int.reduceSub, Int.reduceMul, Int.reduceNeg, Int.reduceToNat, Int.toNat_natCast, ↓kk_ck, ↓kk_im, ↓kk_in, Option.toList, List.append_nil, s_318_38, s_318_48, s_318_52, s_318_59, s_318_63, s_318_66, s_318_74, R1, w1, h8', ne_eq]
        exact hq
      · rw [if_neg hF] at hq
        have h8' : ¬ (F.length : Int) = 0 := by
          have : F.length ≠ 0 := fun e => hF (List.length_eq_zero_iff.mp e)
          omega
        by_cases w0 : w = 0
        · rw [if_pos w0] at hq
          simp (disch := omega) only [Option.toList_some, Option.toList_none, List.nil_append, List.cons_append, List.append_nil, true_and, and_true, not_true_eq_false, not_false_eq_true, true_implies, false_implies, implies_true, and_self, Int.reduceLT, Int.reduceLE, Int.reduceEq, Int.reduceNe, Int.reduceAdd, Int.reduceSub, Int.reduceMul, Int.reduceNeg, Int.reduceToNat, Int.toNat_natCast, ↓kk_ck, ↓kk_im, ↓kk_in, Option.toList, List.append_nil, s_318_38, s_318_48, s_318_52, s_318_55, s_318_59, s_318_63, s_318_70, s_318_74, R1, w0, h8, h8', h7, ne_eq]
          exact hq
        · rw [if_neg w0] at hq
          have tail : ∀ l : Int, l = (if w < 5 then wfA F else wfB F) → vi_ok GG D 318 91 [some (.inr (.inr 112)), some (.inl (g : Int)), some (.inl (m : Int)), some (.inl w), none, none] [.inl l] (Y, M', nn) Q := by
            intro l hl2
            rw [← hl2] at hq
            have hlr : -1 ≤ l ∧ l < 108 := by rw [hl2]; split <;> omega
            have et : (vi_w32 (w - 2)).tmod 3 = (w - 2) % 3 := by rw [vi_32 (by omega) (by omega)]; exact Int.tmod_eq_emod_of_nonneg (by omega)
            clear hl2 hr h9 h10
            by_cases q : l = -1
            · rw [if_pos q] at hq
              simp (disch := omega) only [Option.toList_some, Option.toList_none, List.nil_append, List.cons_append, List.append_nil, true_and, and_true, not_true_eq_false, not_false_eq_true, true_implies, false_implies, implies_true, and_self, Int.reduceLT, Int.reduceLE, Int.reduceEq, Int.reduceNe, Int.reduceAdd, Int.reduceSub, Int.reduceMul, Int.reduceNeg, Int.reduceToNat, Int.toNat_natCast, ↓kk_ck, ↓kk_im, ↓kk_in, s_318_91, s_318_106, s_318_148, q, ne_eq]
              exact hq
            · rw [if_neg q] at hq
              by_cases q0 : (w - 2) % 3 = 0
              · rw [if_pos q0] at hq
                simp (disch := omega) only [Option.toList_some, Option.toList_none, List.nil_append, List.cons_append, List.append_nil, true_and, and_true, not_true_eq_false, not_false_eq_true, true_implies, false_implies, implies_true, and_self, Int.reduceLT, Int.reduceLE, Int.reduceEq, Int.reduceNe, Int.reduceAdd, Int.reduceSub, Int.reduceMul, Int.reduceNeg, Int.reduceToNat, Int.toNat_natCast, ↓kk_ck, ↓kk_im, ↓kk_in, s_318_91, s_318_110, s_318_115, s_318_119, s_318_122, s_318_148, R1, R33, p1, p2, q, et, q0, ne_eq]
                exact hq
              · rw [if_neg q0] at hq
                by_cases q1 : (w - 2) % 3 = 1
                · rw [if_pos q1] at hq
                  simp (disch := omega) only [Option.toList_some, Option.toList_none, List.nil_append, List.cons_append, List.append_nil, true_and, and_true, not_true_eq_false, not_false_eq_true, true_implies, false_implies, implies_true, and_self, Int.reduceLT, Int.reduceLE, Int.reduceEq, Int.reduceNe, Int.reduceAdd, Int.reduceSub, Int.reduceMul, Int.reduceNeg, Int.reduceToNat, Int.toNat_natCast, ↓kk_ck, ↓kk_im, ↓kk_in, s_318_91, s_318_110, s_318_125, s_318_131, s_318_135, s_318_138, s_318_148, R1, R34, p3, p4, q, et, q1, ne_eq]
                  exact hq
                · rw [if_neg q1] at hq
                  simp (disch := omega) only [Option.toList_some, Option.toList_none, List.nil_append, List.cons_append, List.append_nil, true_and, and_true, not_true_eq_false, not_false_eq_true, true_implies, false_implies, implies_true, and_self, Int.reduceLT, Int.reduceLE, Int.reduceEq, Int.reduceNe, Int.reduceAdd, Int.reduceSub, Int.reduceMul, Int.reduceNeg, Int.reduceToNat, Int.toNat_natCast, ↓kk_ck, ↓kk_im, ↓kk_in, s_318_91, s_318_110, s_318_125, s_318_141, s_318_145, s_318_148, R1, R35, p5, p6, q, et, q0, q1, ne_eq]
                  exact hq
          clear hq
          by_cases w5 : w < 5
          · have := tail (wfA F) (by rw [if_pos w5])
            clear tail
            simp (disch := omega) only [Option.toList_some, Option.toList_none, List.nil_append, List.cons_append, List.append_nil, true_and, and_true, not_true_eq_false, not_false_eq_true, true_implies, false_implies, implies_true, and_self, Int.reduceLT, Int.reduceLE, Int.reduceEq, Int.reduceNe, Int.reduceAdd, Int.reduceSub, Int.reduceMul, Int.reduceNeg, Int.reduceToNat, Int.toNat_natCast, ↓kk_ck, ↓kk_im, ↓kk_in, Option.toList, List.append_nil, s_318_38, s_318_48, s_318_52, s_318_55, s_318_75, s_318_80, s_318_84, R1, w1, w0, h8, h8', h9, ne_eq]
            exact this
          · have := tail (wfB F) (by rw [if_neg w5])
            clear tail
            simp (disch := omega) only [Option.toList_some, Option.toList_none, List.nil_append, List.cons_append, List.append_nil, true_and, and_true, not_true_eq_false, not_false_eq_true, true_implies, false_implies, implies_true, and_self, Int.reduceLT, Int.reduceLE, Int.reduceEq, Int.reduceNe, Int.reduceAdd, Int.reduceSub, Int.reduceMul, Int.reduceNeg, Int.reduceToNat, Int.toNat_natCast, ↓kk_ck, ↓kk_im, ↓kk_in, Option.toList, List.append_nil, s_318_38, s_318_48, s_318_52, s_318_55, s_318_75, s_318_87, R1, w1, w0, h8, h8', h10, ne_eq]
            exact this
  clear hQ
  have hg' : 0 ≤ (g : Int) ∧ (g : Int) ≤ 2 := by omega
  have hm' : 0 ≤ (m : Int) ∧ (m : Int) ≤ 216 := by omega
  simp (disch := omega) only [Option.toList_some, Option.toList_none, List.nil_append, List.cons_append, List.append_nil, true_and, and_true, not_true_eq_false, not_false_eq_true, true_implies, false_implies, implies_true, and_self, Int.reduceLT, Int.reduceLE, Int.reduceEq, Int.reduceNe, Int.reduceAdd, Int.reduceSub, Int.reduceMul, Int.reduceNeg, Int.reduceToNat, Int.toNat_natCast, ↓kk_ck, ↓kk_im, ↓kk_in, e_318, s_318_0, s_318_6, s_318_9, s_318_17, s_318_20, s_318_27, s_318_32, R1, k_234t hg', k_234t hm', k_234t hw, ne_eq]
  exact cont
end
