/-! SOUNDNESS of the small machine, last part: the induction on the fuel. PRINTED by wip/whole/gen/pm.py and ps.py. -/
def vi_cont (G : vi_G) (f d m pc : Nat) (L : vi_L) (w : vi_W) (o : vi_O) (r : Option vi_V) (wf : vi_W) : Prop := match o with
  | .inl (pc', L', S', w') => vi_run G f d m pc' L' S' w' = some (r, wf)
  | .inr (.inl (c, t, u, S')) => vi_run G f d m (if c = true then t else u) L S' w = some (r, wf)
  | .inr (.inr (.inl (x, tb, t, S'))) => vi_run G f d m (vi_sw x tb t) L S' w = some (r, wf)
  | .inr (.inr (.inr (.inl r'))) => r' = r ∧ w = wf
  | .inr (.inr (.inr (.inr (k, as, S')))) => ∃ (d' : Nat) (r1 : Option vi_V) (w1 : vi_W), d = d' + 1 ∧ vi_cats as ≤ G.2 k ∧ vi_run G f d' k 0 (vi_en as (G.2 k)) [] w = some (r1, w1) ∧ vi_run G f d m (pc + 3) L (r1.toList ++ S') w1 = some (r, wf)
theorem vi_runs {G : vi_G} {f d m pc : Nat} {L : vi_L} {S : List vi_V} {w : vi_W} {r : Option vi_V} {wf : vi_W} {e : vi_I} (hg : G.1 m pc = some e) (h : vi_run G (f + 1) d m pc L S w = some (r, wf)) : ∃ o, vi_step e pc L S w = some o ∧ vi_cont G f d m pc L w o r wf := by
  rw [vi_run] at h
  simp only [hg] at h
  cases hs : vi_step e pc L S w with
  | none => simp [hs] at h
  | some o =>
    simp only [hs] at h
    refine ⟨o, rfl, ?_⟩
    rcases o with ⟨pc', L', S', w'⟩ | ⟨c, t, u, S'⟩ | ⟨x, tb, t, S'⟩ | q | ⟨k, as, S'⟩
    · exact h
    · exact h
    · exact h
    · simp only [Option.some.injEq, Prod.mk.injEq] at h
      exact h
    · cases d with
      | zero => simp at h
      | succ d =>
        simp only at h
        by_cases hca : vi_cats as ≤ G.2 k
        case neg => simp [hca] at h
        simp only [hca, if_true] at h
        cases hr : vi_run G f d k 0 (vi_en as (G.2 k)) [] w with
        | none => simp [hr] at h
        | some y =>
          obtain ⟨r1, w1⟩ := y
          simp only [hr] at h
          exact ⟨d, r1, w1, rfl, hca, hr, h⟩
section INV
variable {pc a k cc : Nat} {bb : Int} {L : vi_L} {S : List vi_V} {w : vi_W} {o : vi_O}
theorem vs_and {n : Nat} {len : Nat} {y : Bool} (h : (decide (len = n) && y) = true) : len = n ∧ y = true := by simpa using h
theorem vs_and2 {x y : Bool} (h : (x && y) = true) : x = true ∧ y = true := by simpa using h
theorem vi_ibin {F : Int → Int → Int} (h : vi_nx pc L w (vi_bin F S) = some o) : ∃ x y S1, S = .inl y :: .inl x :: S1 ∧ o = .inl (pc, L, .inl (F x y) :: S1, w) := by
  unfold vi_bin at h; split at h
  · exact ⟨_, _, _, rfl, (Option.some.inj h).symm⟩
  · simp [vi_nx] at h
theorem vi_ibinL {F : Int → Int → Int} (h : vi_nx pc L w (vi_binL F S) = some o) : ∃ x y S1, S = .inr (.inl y) :: .inr (.inl x) :: S1 ∧ o = .inl (pc, L, .inr (.inl (F x y)) :: S1, w) := by
  unfold vi_binL at h; split at h
  · exact ⟨_, _, _, rfl, (Option.some.inj h).symm⟩
  · simp [vi_nx] at h
theorem vi_ishL {F : Int → Int → Int} (h : vi_nx pc L w (vi_shL F S) = some o) : ∃ x y S1, S = .inl y :: .inr (.inl x) :: S1 ∧ o = .inl (pc, L, .inr (.inl (F x y)) :: S1, w) := by
  unfold vi_shL at h; split at h
  · exact ⟨_, _, _, rfl, (Option.some.inj h).symm⟩
  · simp [vi_nx] at h
theorem vi_idiv0 {F : Int → Int → Int} (h : vi_nx pc L w (vi_div F S) = some o) : ∃ x y S1, ¬ y = 0 ∧ S = .inl y :: .inl x :: S1 ∧ o = .inl (pc, L, .inl (F x y) :: S1, w) := by
  unfold vi_div at h; split at h
  · split at h
    · simp [vi_nx] at h
    · rename_i hy
      exact ⟨_, _, _, hy, rfl, (Option.some.inj h).symm⟩
  · simp [vi_nx] at h
theorem vi_idivL0 {F : Int → Int → Int} (h : vi_nx pc L w (vi_divL F S) = some o) : ∃ x y S1, ¬ y = 0 ∧ S = .inr (.inl y) :: .inr (.inl x) :: S1 ∧ o = .inl (pc, L, .inr (.inl (F x y)) :: S1, w) := by
  unfold vi_divL at h; split at h
  · split at h
    · simp [vi_nx] at h
    · rename_i hy
      exact ⟨_, _, _, hy, rfl, (Option.some.inj h).symm⟩
  · simp [vi_nx] at h
theorem vi_iun {F : Int → Int} (h : vi_nx pc L w (vi_un F S) = some o) : ∃ x S1, S = .inl x :: S1 ∧ o = .inl (pc, L, .inl (F x) :: S1, w) := by
  unfold vi_un at h; split at h
  · exact ⟨_, _, rfl, (Option.some.inj h).symm⟩
  · simp [vi_nx] at h
theorem vi_iunL {F : Int → Int} (h : vi_nx pc L w (vi_unL F S) = some o) : ∃ x S1, S = .inr (.inl x) :: S1 ∧ o = .inl (pc, L, .inr (.inl (F x)) :: S1, w) := by
  unfold vi_unL at h; split at h
  · exact ⟨_, _, rfl, (Option.some.inj h).symm⟩
  · simp [vi_nx] at h
theorem vi_ilcmp {len : Nat} {tb : List (Int × Nat)} (h : vi_step (.lcmp, len, a, k, cc, bb, tb) pc L S w = some o) : ∃ x y S1, S = .inr (.inl y) :: .inr (.inl x) :: S1 ∧ o = .inl (pc + len, L, .inl (vi_cmp64 x y) :: S1, w) := by
  simp only [vi_step] at h; split at h
  · exact ⟨_, _, _, rfl, (Option.some.inj h).symm⟩
  · cases h
theorem vi_ii2l {len : Nat} {tb : List (Int × Nat)} (h : vi_step (.i2l, len, a, k, cc, bb, tb) pc L S w = some o) : ∃ x S1, S = .inl x :: S1 ∧ o = .inl (pc + len, L, .inr (.inl x) :: S1, w) := by
  simp only [vi_step] at h; split at h
  · exact ⟨_, _, rfl, (Option.some.inj h).symm⟩
  · cases h
theorem vi_il2i {len : Nat} {tb : List (Int × Nat)} (h : vi_step (.l2i, len, a, k, cc, bb, tb) pc L S w = some o) : ∃ x S1, S = .inr (.inl x) :: S1 ∧ o = .inl (pc + len, L, .inl (vi_w32 x) :: S1, w) := by
  simp only [vi_step] at h; split at h
  · exact ⟨_, _, rfl, (Option.some.inj h).symm⟩
  · cases h
theorem vi_iloadI (h : vi_loadI pc a L S w = some o) : ∃ x, vi_ld L a = some (.inl x) ∧ o = .inl (pc, L, .inl x :: S, w) := by
  unfold vi_loadI at h; split at h
  · rename_i x hx; exact ⟨x, hx, (Option.some.inj h).symm⟩
  · cases h
theorem vi_iloadL (h : vi_loadL pc a L S w = some o) : ∃ x, vi_ld L a = some (.inr (.inl x)) ∧ o = .inl (pc, L, .inr (.inl x) :: S, w) := by
  unfold vi_loadL at h; split at h
  · rename_i x hx; exact ⟨x, hx, (Option.some.inj h).symm⟩
  · cases h
theorem vi_iloadA (h : vi_loadA pc a L S w = some o) : ∃ x, vi_ld L a = some (.inr (.inr x)) ∧ o = .inl (pc, L, .inr (.inr x) :: S, w) := by
  unfold vi_loadA at h; split at h
  · rename_i x hx; exact ⟨x, hx, (Option.some.inj h).symm⟩
  · cases h
theorem vi_istI (h : vi_storeI pc a L S w = some o) : ∃ x S1, S = .inl x :: S1 ∧ o = .inl (pc, vi_s1 L a (.inl x), S1, w) := by
  unfold vi_storeI at h; split at h
  · exact ⟨_, _, rfl, (Option.some.inj h).symm⟩
  · cases h
theorem vi_istL (h : vi_storeL pc a L S w = some o) : ∃ x S1, S = .inr (.inl x) :: S1 ∧ o = .inl (pc, vi_s2 L a (.inr (.inl x)), S1, w) := by
  unfold vi_storeL at h; split at h
  · exact ⟨_, _, rfl, (Option.some.inj h).symm⟩
  · cases h
theorem vi_istA (h : vi_storeA pc a L S w = some o) : ∃ x S1, S = .inr (.inr x) :: S1 ∧ o = .inl (pc, vi_s1 L a (.inr (.inr x)), S1, w) := by
  unfold vi_storeA at h; split at h
  · exact ⟨_, _, rfl, (Option.some.inj h).symm⟩
  · cases h
theorem vi_iiinc (h : vi_iinc pc a bb L S w = some o) : ∃ x, vi_ld L a = some (.inl x) ∧ o = .inl (pc, vi_s1 L a (.inl (vi_w32 (x + bb))), S, w) := by
  unfold vi_iinc at h; split at h
  · rename_i x hx; exact ⟨x, hx, (Option.some.inj h).symm⟩
  · cases h
theorem vi_ite {c : Prop} [Decidable c] {x o : vi_O} (h : (if c then some x else none) = some o) : c ∧ o = x := by
  split at h
  · rename_i hc; exact ⟨hc, (Option.some.inj h).symm⟩
  · cases h
theorem vi_idup {len : Nat} {tb : List (Int × Nat)} (h : vi_step (.dup, len, a, k, cc, bb, tb) pc L S w = some o) : ∃ u S1, vi_cat u = 1 ∧ S = u :: S1 ∧ o = .inl (pc + len, L, u :: u :: S1, w) := by
  simp only [vi_step] at h; split at h
  · obtain ⟨h1, h2⟩ := vi_ite h; exact ⟨_, _, h1, rfl, h2⟩
  · cases h
theorem vi_ipop1 {len : Nat} {tb : List (Int × Nat)} (h : vi_step (.pop, len, a, k, cc, bb, tb) pc L S w = some o) : ∃ u S1, vi_cat u = 1 ∧ S = u :: S1 ∧ o = .inl (pc + len, L, S1, w) := by
  simp only [vi_step] at h; split at h
  · obtain ⟨h1, h2⟩ := vi_ite h; exact ⟨_, _, h1, rfl, h2⟩
  · cases h
theorem vi_ipop22 {len : Nat} {tb : List (Int × Nat)} (h : vi_step (.pop2, len, a, k, cc, bb, tb) pc L S w = some o) : ∃ u S1, vi_cat u = 2 ∧ S = u :: S1 ∧ o = .inl (pc + len, L, S1, w) := by
  simp only [vi_step] at h; split at h
  · obtain ⟨h1, h2⟩ := vi_ite h; exact ⟨_, _, h1, rfl, h2⟩
  · cases h
theorem vi_idupx1 {len : Nat} {tb : List (Int × Nat)} (h : vi_step (.dup_x1, len, a, k, cc, bb, tb) pc L S w = some o) : ∃ u1 u2 S1, (vi_cat u1 = 1 ∧ vi_cat u2 = 1) ∧ S = u1 :: u2 :: S1 ∧ o = .inl (pc + len, L, u1 :: u2 :: u1 :: S1, w) := by
  simp only [vi_step] at h; split at h
  · obtain ⟨h1, h2⟩ := vi_ite h; exact ⟨_, _, _, h1, rfl, h2⟩
  · cases h
theorem vi_idupx2 {len : Nat} {tb : List (Int × Nat)} (h : vi_step (.dup_x2, len, a, k, cc, bb, tb) pc L S w = some o) : ∃ u1 u2 u3 S1, (vi_cat u1 = 1 ∧ vi_cat u2 = 1 ∧ vi_cat u3 = 1) ∧ S = u1 :: u2 :: u3 :: S1 ∧ o = .inl (pc + len, L, u1 :: u2 :: u3 :: u1 :: S1, w) := by
  simp only [vi_step] at h; split at h
  · obtain ⟨h1, h2⟩ := vi_ite h; exact ⟨_, _, _, _, h1, rfl, h2⟩
  · cases h
theorem vi_cat12 (u : vi_V) : vi_cat u = 1 ∨ vi_cat u = 2 := by rcases u with x | x | x <;> simp [vi_cat]
theorem vi_idup2 {len : Nat} {tb : List (Int × Nat)} (h : vi_step (.dup2, len, a, k, cc, bb, tb) pc L S w = some o) : (∃ u S1, vi_cat u = 2 ∧ S = u :: S1 ∧ o = .inl (pc + len, L, u :: u :: S1, w)) ∨ ∃ u1 u2 S1, vi_cat u1 = 1 ∧ vi_cat u2 = 1 ∧ S = u1 :: u2 :: S1 ∧ o = .inl (pc + len, L, u1 :: u2 :: u1 :: u2 :: S1, w) := by
  simp only [vi_step] at h; split at h
  · rename_i v u S1
    split at h
    · rename_i hv; exact Or.inl ⟨v, u :: S1, hv, rfl, (Option.some.inj h).symm⟩
    · rename_i hv
      obtain ⟨h1, h2⟩ := vi_ite h
      exact Or.inr ⟨v, u, S1, by rcases vi_cat12 v with h | h; exact h; exact absurd h hv, h1, rfl, h2⟩
  · rename_i v
    obtain ⟨h1, h2⟩ := vi_ite h
    exact Or.inl ⟨v, [], h1, rfl, h2⟩
  · cases h
theorem vi_iarrI (h : vi_arrI a pc L S w = some o) : ∃ i q S1, (w.1.1 q = a ∧ 0 ≤ i ∧ i < (w.1.2.1 q : Int)) ∧ S = .inl i :: .inr (.inr q) :: S1 ∧ o = .inl (pc, L, .inl (w.2.1 q i.toNat) :: S1, w) := by
  unfold vi_arrI at h; split at h
  · obtain ⟨h1, h2⟩ := vi_ite h; exact ⟨_, _, _, h1, rfl, h2⟩
  · cases h
theorem vi_iarrL (h : vi_arrL pc L S w = some o) : ∃ i q S1, (w.1.1 q = 2 ∧ 0 ≤ i ∧ i < (w.1.2.1 q : Int)) ∧ S = .inl i :: .inr (.inr q) :: S1 ∧ o = .inl (pc, L, .inr (.inl (w.2.1 q i.toNat)) :: S1, w) := by
  unfold vi_arrL at h; split at h
  · obtain ⟨h1, h2⟩ := vi_ite h; exact ⟨_, _, _, h1, rfl, h2⟩
  · cases h
theorem vi_iarrA (h : vi_arrA a pc L S w = some o) : ∃ i q S1, (w.1.1 q = a ∧ 0 ≤ i ∧ i < (w.1.2.1 q : Int)) ∧ S = .inl i :: .inr (.inr q) :: S1 ∧ o = .inl (pc, L, .inr (.inr (w.2.1 q i.toNat).toNat) :: S1, w) := by
  unfold vi_arrA at h; split at h
  · obtain ⟨h1, h2⟩ := vi_ite h; exact ⟨_, _, _, h1, rfl, h2⟩
  · cases h
theorem vi_iastI (h : vi_astI a pc L S w = some o) : ∃ x i q S1, (w.1.1 q = a ∧ 0 ≤ i ∧ i < (w.1.2.1 q : Int)) ∧ S = .inl x :: .inl i :: .inr (.inr q) :: S1 ∧ o = .inl (pc, L, S1, (w.1, vi_ms w.2.1 q i.toNat (vi_nar a x), w.2.2)) := by
  unfold vi_astI at h; split at h
  · obtain ⟨h1, h2⟩ := vi_ite h; exact ⟨_, _, _, _, h1, rfl, h2⟩
  · cases h
theorem vi_iastL (h : vi_astL pc L S w = some o) : ∃ x i q S1, (w.1.1 q = 2 ∧ 0 ≤ i ∧ i < (w.1.2.1 q : Int)) ∧ S = .inr (.inl x) :: .inl i :: .inr (.inr q) :: S1 ∧ o = .inl (pc, L, S1, (w.1, vi_ms w.2.1 q i.toNat x, w.2.2)) := by
  unfold vi_astL at h; split at h
  · obtain ⟨h1, h2⟩ := vi_ite h; exact ⟨_, _, _, _, h1, rfl, h2⟩
  · cases h
theorem vi_iastA (h : vi_astA a k pc L S w = some o) : ∃ r i q S1, (w.1.1 q = a ∧ 0 ≤ i ∧ i < (w.1.2.1 q : Int) ∧ (r = 0 ∨ w.1.1 r = k)) ∧ S = .inr (.inr r) :: .inl i :: .inr (.inr q) :: S1 ∧ o = .inl (pc, L, S1, (w.1, vi_ms w.2.1 q i.toNat ((r : Nat) : Int), w.2.2)) := by
  unfold vi_astA at h; split at h
  · obtain ⟨h1, h2⟩ := vi_ite h; exact ⟨_, _, _, _, h1, rfl, h2⟩
  · cases h
theorem vi_ilen (h : vi_len a pc L S w = some o) : ∃ q S1, w.1.1 q = a ∧ S = .inr (.inr q) :: S1 ∧ o = .inl (pc, L, .inl (w.1.2.1 q : Int) :: S1, w) := by
  unfold vi_len at h; split at h
  · obtain ⟨h1, h2⟩ := vi_ite h; exact ⟨_, _, h1, rfl, h2⟩
  · cases h
theorem vi_inewA (h : vi_newA a pc L S w = some o) : ∃ x S1, (0 ≤ x ∧ x < 1000000) ∧ S = .inl x :: S1 ∧ o = .inl (pc, L, .inr (.inr w.2.2.1) :: S1, (vi_ynew w.1 w.2.2.1 a x.toNat, vi_rs w.2.1 w.2.2.1 (fun _ => 0), w.2.2.1 + 1, w.2.2.2 + x.toNat)) := by
  unfold vi_newA vi_make at h; split at h
  · obtain ⟨h1, h2⟩ := vi_ite h; exact ⟨_, _, h1, rfl, h2⟩
  · cases h
theorem vi_iget (h : vi_get a k cc pc L S w = some o) : ∃ q S1, w.1.1 q = a ∧ S = .inr (.inr q) :: S1 ∧ o = .inl (pc, L, vi_gf cc w.1 w.2.1 q k :: S1, w) := by
  unfold vi_get at h; split at h
  · obtain ⟨h1, h2⟩ := vi_ite h; exact ⟨_, _, h1, rfl, h2⟩
  · cases h
theorem vi_iput (h : vi_put a k cc pc L S w = some o) : (∃ x q S1, (w.1.1 q = a ∧ cc % 10 ≠ 2 ∧ cc % 10 ≠ 7 ∧ vi_fit (cc % 10) x = true) ∧ S = .inl x :: .inr (.inr q) :: S1 ∧ o = .inl (pc, L, S1, vi_pf cc w.1 w.2.1 w.2.2 q k x)) ∨ (∃ x q S1, (w.1.1 q = a ∧ cc % 10 = 2) ∧ S = .inr (.inl x) :: .inr (.inr q) :: S1 ∧ o = .inl (pc, L, S1, vi_pf cc w.1 w.2.1 w.2.2 q k x)) ∨ ∃ r q S1, (w.1.1 q = a ∧ cc % 10 = 7) ∧ S = .inr (.inr r) :: .inr (.inr q) :: S1 ∧ o = .inl (pc, L, S1, vi_pf cc w.1 w.2.1 w.2.2 q k ((r : Nat) : Int)) := by
  unfold vi_put at h; split at h
  · obtain ⟨h1, h2⟩ := vi_ite h; exact Or.inl ⟨_, _, _, h1, rfl, h2⟩
  · obtain ⟨h1, h2⟩ := vi_ite h; exact Or.inr (Or.inl ⟨_, _, _, h1, rfl, h2⟩)
  · obtain ⟨h1, h2⟩ := vi_ite h; exact Or.inr (Or.inr ⟨_, _, _, h1, rfl, h2⟩)
  · cases h
theorem vi_iif {q : Jvm.ClassFile.Cond} {off : Int} {len : Nat} {tb : List (Int × Nat)} (h : vi_step (.ifCond q off, len, a, k, cc, bb, tb) pc L S w = some o) : ∃ x S1, S = .inl x :: S1 ∧ o = .inr (.inl (vi_icmp q x 0, a, pc + len, S1)) := by
  simp only [vi_step] at h; split at h
  · exact ⟨_, _, rfl, (Option.some.inj h).symm⟩
  · cases h
theorem vi_iicmp {q : Jvm.ClassFile.Cond} {off : Int} {len : Nat} {tb : List (Int × Nat)} (h : vi_step (.if_icmp q off, len, a, k, cc, bb, tb) pc L S w = some o) : ∃ x y S1, S = .inl y :: .inl x :: S1 ∧ o = .inr (.inl (vi_icmp q x y, a, pc + len, S1)) := by
  simp only [vi_step] at h; split at h
  · exact ⟨_, _, _, rfl, (Option.some.inj h).symm⟩
  · cases h
theorem vi_ifn {off : Int} {len : Nat} {tb : List (Int × Nat)} (h : vi_step (.ifnull off, len, a, k, cc, bb, tb) pc L S w = some o) : ∃ q S1, ¬ q = 28 ∧ S = .inr (.inr q) :: S1 ∧ o = .inr (.inl (decide (q = 0), a, pc + len, S1)) := by
  simp only [vi_step] at h; split at h
  · split at h
    · cases h
    · rename_i h1; exact ⟨_, _, h1, rfl, (Option.some.inj h).symm⟩
  · cases h
theorem vi_ifnn {off : Int} {len : Nat} {tb : List (Int × Nat)} (h : vi_step (.ifnonnull off, len, a, k, cc, bb, tb) pc L S w = some o) : ∃ q S1, ¬ q = 28 ∧ S = .inr (.inr q) :: S1 ∧ o = .inr (.inl (decide (q ≠ 0), a, pc + len, S1)) := by
  simp only [vi_step] at h; split at h
  · split at h
    · cases h
    · rename_i h1; exact ⟨_, _, h1, rfl, (Option.some.inj h).symm⟩
  · cases h
theorem vi_itsw {d lo hi : Int} {offs : Array Int} {len : Nat} {tb : List (Int × Nat)} (h : vi_step (.tableswitch d lo hi offs, len, a, k, cc, bb, tb) pc L S w = some o) : ∃ x S1, S = .inl x :: S1 ∧ o = .inr (.inr (.inl (x, tb, a, S1))) := by
  simp only [vi_step] at h; split at h
  · exact ⟨_, _, rfl, (Option.some.inj h).symm⟩
  · cases h
theorem vi_iiret {len : Nat} {tb : List (Int × Nat)} (h : vi_step (.ireturn, len, a, k, cc, bb, tb) pc L S w = some o) : ∃ x, vi_fit cc x = true ∧ S = [.inl x] ∧ o = .inr (.inr (.inr (.inl (some (.inl x))))) := by
  simp only [vi_step] at h; split at h
  · obtain ⟨h1, h2⟩ := vi_ite h; exact ⟨_, h1, rfl, h2⟩
  · cases h
theorem vi_ilret {len : Nat} {tb : List (Int × Nat)} (h : vi_step (.lreturn, len, a, k, cc, bb, tb) pc L S w = some o) : ∃ x, S = [.inr (.inl x)] ∧ o = .inr (.inr (.inr (.inl (some (.inr (.inl x)))))) := by
  simp only [vi_step] at h; split at h
  · exact ⟨_, rfl, (Option.some.inj h).symm⟩
  · cases h
theorem vi_iaret {len : Nat} {tb : List (Int × Nat)} (h : vi_step (.areturn, len, a, k, cc, bb, tb) pc L S w = some o) : ∃ x, S = [.inr (.inr x)] ∧ o = .inr (.inr (.inr (.inl (some (.inr (.inr x)))))) := by
  simp only [vi_step] at h; split at h
  · exact ⟨_, rfl, (Option.some.inj h).symm⟩
  · cases h
theorem vi_ivret {len : Nat} {tb : List (Int × Nat)} (h : vi_step (.return_, len, a, k, cc, bb, tb) pc L S w = some o) : S = [] ∧ o = .inr (.inr (.inr (.inl none))) := by
  simp only [vi_step] at h; split at h
  · exact ⟨rfl, (Option.some.inj h).symm⟩
  · cases h
theorem vi_iobj {i : Nat} {len : Nat} {tb : List (Int × Nat)} (h : vi_step (.invokespecial i, len, 0, k, cc, bb, tb) pc L S w = some o) : ∃ q S1, (q ≠ 0 ∧ w.1.1 q ≠ 0) ∧ vi_cats S1 ≤ 8 ∧ S = .inr (.inr q) :: S1 ∧ o = .inl (pc + len, L, S1, w) := by
  simp only [vi_step, if_true] at h; split at h
  · obtain ⟨h1, h2⟩ := vi_ite h; exact ⟨_, _, ⟨h1.1, h1.2.1⟩, h1.2.2, rfl, h2⟩
  · cases h
theorem vi_iinv (h : vi_inv a k cc S w = some o) : ∃ as S1, vi_pop k S [] = some (as, S1) ∧ vi_recv w.1 cc as = true ∧ vi_cats S1 ≤ 8 ∧ o = .inr (.inr (.inr (.inr (a, as, S1)))) := by
  unfold vi_inv at h; split at h
  · cases h
  · rename_i as S1 hp
    obtain ⟨h1, h2⟩ := vi_ite h
    exact ⟨as, S1, hp, h1.1, h1.2, h2⟩
theorem vi_irecv {Y : vi_Y} {as : List vi_V} (h : vi_recv Y cc as = true) (h0 : cc ≠ 0) : ∃ q as', as = .inr (.inr q) :: as' ∧ Y.1 q = cc := by
  unfold vi_recv at h
  rw [if_neg h0] at h
  split at h
  · exact ⟨_, _, rfl, of_decide_eq_true h⟩
  · cases h
theorem vi_nar_fit {i : Int32} {x : Int} (hi : i.toInt = x) {cc : Nat} (hcc : cc = 1 ∨ cc = 3 ∨ cc = 4 ∨ cc = 5) (hf : vi_fit cc x = true) : narrow (if cc = 1 then .int else if cc = 3 then .byte else if cc = 4 then .boolean else .char) (.int i) = .int i := by
  subst hi
  rcases hcc with rfl | rfl | rfl | rfl
  · rfl
  · have hf := of_decide_eq_true (show decide (-128 ≤ i.toInt ∧ i.toInt < 128) = true from hf)
    show Value.int (i.toInt8.toInt32) = .int i
    congr 1
    apply Int32.toInt_inj.mp
    rw [vj_i2b]
    show (i.toInt + 128) % 256 - 128 = i.toInt
    omega
  · have hf := of_decide_eq_true (show decide (0 ≤ i.toInt ∧ i.toInt < 2) = true from hf)
    show Value.int (i &&& 1) = .int i
    congr 1
    apply Int32.toInt_inj.mp
    rw [vj_nz]
    omega
  · have hf := of_decide_eq_true (show decide (0 ≤ i.toInt ∧ i.toInt < 65536) = true from hf)
    show Value.int (i.toUInt32.toUInt16.toUInt32.toInt32) = .int i
    congr 1
    apply Int32.toBitVec_inj.mp
    apply BitVec.eq_of_toNat_eq
    have h1 := vj_un i
    have h2 : (i.toUInt32.toUInt16.toUInt32.toInt32).toBitVec.toNat = i.toBitVec.toNat % 65536 := by
      show (i.toUInt32.toUInt16.toUInt32).toNat = _
      rw [UInt16.toNat_toUInt32, UInt32.toNat_toUInt16]
      rfl
    rw [h2]
    omega
end INV
section VS
variable {l : Launch} {D : va_G} {z b Ls : Nat} {xs : Nat → Int32} {adK adV : Nat → Nat} {fm : Value}
def vs_H (l : Launch) (D : va_G) (z b Ls : Nat) (xs : Nat → Int32) (adK adV : Nat → Nat) (fm : Value) (d m pc : Nat) (L : vi_L) (S : List vi_V) (w : vi_W) (r : Option vi_V) (wf : vi_W) : Prop :=
  w.2.2.1 ≤ wf.2.2.1 ∧ w.2.2.2 ≤ wf.2.2.2 ∧ ∀ (p : Program) (e : Env) (R : Room) (s : State) (mm : MethodId) (args : Array Value) (below : List Frame) (meth : Method) (c : Code) (V0 : Nat → Value) (nx0 cells slots : Nat), vs_F p s args mm meth c m → vs_E z b Ls xs adK adV fm s s.heap → nx0 ≤ w.2.2.1 → d + 1 ≤ R.frames → 64 * (d + 1) ≤ R.locals → cells + (wf.2.2.1 - w.2.2.1) ≤ R.cells → slots + (wf.2.2.2 - w.2.2.2) ≤ R.slots →
    vs_G p l e R s mm args below meth c (MQ below (vs_Q D z b Ls xs adK adV fm V0 nx0 r wf) args s (cells + (wf.2.2.1 - w.2.2.1)) (slots + (wf.2.2.2 - w.2.2.2)) (vs_A z)) D z b Ls xs adK adV fm m V0 nx0 cells slots pc L S w
theorem vs_hop {d m pc pc' : Nat} {L L' : vi_L} {S S' : List vi_V} {w w' : vi_W} {r : Option vi_V} {wf : vi_W} (hn : w'.2.2 = w.2.2)
    (hop : ∀ (p : Program) (e : Env) (R : Room) (s : State) (mm : MethodId) (args : Array Value) (below : List Frame) (meth : Method) (c : Code) (Q : State → Prop) (V0 : Nat → Value) (nx0 cells slots : Nat), vs_F p s args mm meth c m → vs_E z b Ls xs adK adV fm s s.heap → nx0 ≤ w.2.2.1 → vs_G p l e R s mm args below meth c Q D z b Ls xs adK adV fm m V0 nx0 cells slots pc' L' S' w' → vs_G p l e R s mm args below meth c Q D z b Ls xs adK adV fm m V0 nx0 cells slots pc L S w)
    (H : vs_H l D z b Ls xs adK adV fm d m pc' L' S' w' r wf) : vs_H l D z b Ls xs adK adV fm d m pc L S w r wf := by
  obtain ⟨n1, n2, K⟩ := H
  rw [hn] at n1 n2
  refine ⟨n1, n2, fun p e R s mm args below meth c V0 nx0 cells slots hF hE hx hfr hlo hce hsl => hop _ _ _ _ _ _ _ _ _ _ _ _ _ _ hF hE hx ?_⟩
  have k := K p e R s mm args below meth c V0 nx0 cells slots hF hE (by rw [hn]; exact hx) hfr hlo (by rw [hn]; exact hce) (by rw [hn]; exact hsl)
  rwa [hn] at k
theorem vs_hop2 {d m pc pc' : Nat} {L L' : vi_L} {S S' : List vi_V} {w w' : vi_W} {r : Option vi_V} {wf : vi_W} (H : vs_H l D z b Ls xs adK adV fm d m pc' L' S' w' r wf) (hn : w'.2.2 = w.2.2)
    (hop : ∀ (p : Program) (e : Env) (R : Room) (s : State) (mm : MethodId) (args : Array Value) (below : List Frame) (meth : Method) (c : Code) (Q : State → Prop) (V0 : Nat → Value) (nx0 cells slots : Nat), vs_F p s args mm meth c m → vs_E z b Ls xs adK adV fm s s.heap → nx0 ≤ w.2.2.1 → vs_G p l e R s mm args below meth c Q D z b Ls xs adK adV fm m V0 nx0 cells slots pc' L' S' w' → vs_G p l e R s mm args below meth c Q D z b Ls xs adK adV fm m V0 nx0 cells slots pc L S w) : vs_H l D z b Ls xs adK adV fm d m pc L S w r wf := vs_hop hn hop H
theorem vs_hopR {d m pc pc' : Nat} {L L' : vi_L} {S S' : List vi_V} {w : vi_W} {r : Option vi_V} {wf : vi_W} (H : vs_H l D z b Ls xs adK adV fm d m pc' L' S' w r wf)
    (hop : ∀ (p : Program) (e : Env) (R : Room) (s : State) (mm : MethodId) (args : Array Value) (below : List Frame) (meth : Method) (c : Code) (Q : State → Prop) (V0 : Nat → Value) (nx0 cells slots : Nat), vs_F p s args mm meth c m → 1 ≤ R.frames → 20 ≤ R.locals → vs_G p l e R s mm args below meth c Q D z b Ls xs adK adV fm m V0 nx0 cells slots pc' L' S' w → vs_G p l e R s mm args below meth c Q D z b Ls xs adK adV fm m V0 nx0 cells slots pc L S w) : vs_H l D z b Ls xs adK adV fm d m pc L S w r wf := by
  obtain ⟨n1, n2, K⟩ := H
  exact ⟨n1, n2, fun p e R s mm args below meth c V0 nx0 cells slots hF hE hx hfr hlo hce hsl => hop _ _ _ _ _ _ _ _ _ _ _ _ _ _ hF (by omega) (by omega) (K p e R s mm args below meth c V0 nx0 cells slots hF hE hx hfr hlo hce hsl)⟩
theorem vs_hopN {d m pc pc' n : Nat} {L L' : vi_L} {S S' : List vi_V} {w w' : vi_W} {r : Option vi_V} {wf : vi_W} (hn : w'.2.2.1 = w.2.2.1 + 1) (hn2 : w'.2.2.2 = w.2.2.2 + n)
    (hop : ∀ (p : Program) (e : Env) (R : Room) (s : State) (mm : MethodId) (args : Array Value) (below : List Frame) (meth : Method) (c : Code) (Q : State → Prop) (V0 : Nat → Value) (nx0 cells slots : Nat), vs_F p s args mm meth c m → vs_E z b Ls xs adK adV fm s s.heap → nx0 ≤ w.2.2.1 → cells + 1 ≤ R.cells → slots + n ≤ R.slots → vs_G p l e R s mm args below meth c Q D z b Ls xs adK adV fm m V0 nx0 (cells + 1) (slots + n) pc' L' S' w' → vs_G p l e R s mm args below meth c Q D z b Ls xs adK adV fm m V0 nx0 cells slots pc L S w)
    (H : vs_H l D z b Ls xs adK adV fm d m pc' L' S' w' r wf) : vs_H l D z b Ls xs adK adV fm d m pc L S w r wf := by
  obtain ⟨n1, n2, K⟩ := H
  refine ⟨by omega, by omega, fun p e R s mm args below meth c V0 nx0 cells slots hF hE hx hfr hlo hce hsl => hop _ _ _ _ _ _ _ _ _ _ _ _ _ _ hF hE hx (by omega) (by omega) ?_⟩
  have k := K p e R s mm args below meth c V0 nx0 (cells + 1) (slots + n) hF hE (by omega) hfr hlo (by omega) (by omega)
  rwa [show cells + 1 + (wf.2.2.1 - w'.2.2.1) = cells + (wf.2.2.1 - w.2.2.1) by omega, show slots + n + (wf.2.2.2 - w'.2.2.2) = slots + (wf.2.2.2 - w.2.2.2) by omega] at k
theorem vs_hbr {d m pc : Nat} {L : vi_L} {S S' : List vi_V} {w : vi_W} {r : Option vi_V} {wf : vi_W} {c0 : Prop} [Decidable c0] {t u : Nat} (H : vs_H l D z b Ls xs adK adV fm d m (if decide c0 = true then t else u) L S' w r wf)
    (hop : ∀ (p : Program) (e : Env) (R : Room) (s : State) (mm : MethodId) (args : Array Value) (below : List Frame) (meth : Method) (c : Code) (Q : State → Prop) (V0 : Nat → Value) (nx0 cells slots : Nat), vs_F p s args mm meth c m → vs_E z b Ls xs adK adV fm s s.heap → nx0 ≤ w.2.2.1 → (c0 → vs_G p l e R s mm args below meth c Q D z b Ls xs adK adV fm m V0 nx0 cells slots t L S' w) → (¬ c0 → vs_G p l e R s mm args below meth c Q D z b Ls xs adK adV fm m V0 nx0 cells slots u L S' w) → vs_G p l e R s mm args below meth c Q D z b Ls xs adK adV fm m V0 nx0 cells slots pc L S w) : vs_H l D z b Ls xs adK adV fm d m pc L S w r wf := by
  by_cases hc : c0
  · rw [if_pos (decide_eq_true hc)] at H
    exact vs_hop rfl (fun _ _ _ _ _ _ _ _ _ _ _ _ _ _ hF hE hx k => hop _ _ _ _ _ _ _ _ _ _ _ _ _ _ hF hE hx (fun _ => k) (fun n => absurd hc n)) H
  · rw [if_neg (by simpa using hc)] at H
    exact vs_hop rfl (fun _ _ _ _ _ _ _ _ _ _ _ _ _ _ hF hE hx k => hop _ _ _ _ _ _ _ _ _ _ _ _ _ _ hF hE hx (fun n => absurd n hc) (fun _ => k)) H
theorem vs_met {d m : Nat} (hm : m < 369) (h0 : m ≠ 0) {as : List vi_V} {w : vi_W} {r : Option vi_V} {wf : vi_W} (hca : vi_cats as ≤ vi_mll m) (H : vs_H l D z b Ls xs adK adV fm d m 0 (vi_en as (vi_mll m)) [] w r wf) : vs_M l D z b Ls xs adK adV fm d m as w r wf := by
  intro V0 tys ws vs hvs hw
  refine MetFree.of_bodySF (code := vi_by m) (maxLocals := vi_mll m) (ret := vi_rty m) (vs_wordsOf hm h0).2.2.2.2 ?_ ?_
  · intro args s mm h hn
    obtain ⟨meth, c, h1, h2, h3, h4, h5, h6, -, -⟩ := Cond.code_spec hn (atoms_spec (ws := vs_ws m) h _ List.mem_cons_self)
    exact ⟨meth, c, h1, h2, h3, h4, h5, h6⟩
  · intro p e s mm args below meth c s₁ B hml hP _
    have hh0 : s₁.heap = s.heap := by rw [B.state]; rfl
    obtain ⟨rfl, hE, hP, hK, hD⟩ := hP
    have hts := atoms_spec (ws := vs_ws m) B.pre
    have hF : vs_F p s vs.toArray mm meth c m := ⟨B.exec, B.bytes, B.returns, B.notSynchronized, hml, findClass_of_methodNamed B.named, fun x hx => hts x (List.mem_cons_of_mem _ hx), (name_of_methodNamed B.named B.method).1⟩
    have k := H.2.2 p e (vs_rm d (wf.2.2.1 - w.2.2.1) (wf.2.2.2 - w.2.2.2)) s mm vs.toArray below meth c V0 w.2.2.1 0 0 hF hE (Nat.le_refl _) (Nat.le_refl _) (Nat.le_refl _) (by show 0 + (wf.2.2.1 - w.2.2.1) ≤ wf.2.2.1 - w.2.2.1; omega) (by show 0 + (wf.2.2.2 - w.2.2.2) ≤ wf.2.2.2 - w.2.2.2; omega)
    rw [Nat.zero_add, Nat.zero_add] at k
    have hr := vs_cat1 hw
    have hlen : (lg_sl vs).length ≤ vi_mll m := by rw [vs_lgl hr hvs]; exact hca
    have kk := k V0 tys ws s.heap [] hP hK hD va_S.rf hw (fun _ _ => rfl) _ [] ⟨_, lv_entry vs hlen, fun k0 u hk => by
      obtain ⟨v, h1, h2⟩ := vs_en hr (i := 0) hvs hk
      exact ⟨v, by rw [Nat.zero_add] at h1; exact h1, h2⟩⟩ trivial
    rw [← lg_entry_eq] at kk
    obtain ⟨t, a1, o, b1, b2, b3⟩ := kk s₁ hh0 (Stand.of_body B)
    exact ⟨t, o, a1, b1, b2, ⟨b3.1, b3.2⟩⟩
theorem vi_mll45 : (List.range 369).all (fun m => decide (vi_mll m ≤ 45)) = true := by decide +kernel
theorem vs_mll45 {m : Nat} (h : m < 369) : vi_mll m ≤ 45 := of_decide_eq_true (List.all_eq_true.mp vi_mll45 m (List.mem_range.mpr h))
theorem vj_objC : Cond.code objectInit ⟨#[0xb1]⟩ 1 none ∈ vi_gw := List.mem_filter.mpr ⟨by decide +kernel, rfl⟩
theorem vj_objI : Cond.instanceMethod objectInit ∈ vi_gw := List.mem_filter.mpr ⟨by decide +kernel, rfl⟩
set_option maxHeartbeats 4000000 in
theorem vs_main : ∀ (f d m pc : Nat) (L : vi_L) (S : List vi_V) (w : vi_W) (r : Option vi_V) (wf : vi_W), vi_run GG f d m pc L S w = some (r, wf) → vs_H l D z b Ls xs adK adV fm d m pc L S w r wf := by
  intro f
  induction f with
  | zero => intro d m pc L S w r wf h; simp [vi_run] at h
  | succ f ih =>
  intro d m pc L S w r wf h
  cases hg : GG.1 m pc with
  | none => rw [vi_run] at h; simp [hg] at h
  | some e0 =>
  have hgood := vi_good hg
  obtain ⟨o, hs, hc⟩ := vi_runs hg h
  clear h
  obtain ⟨ins, len, a, k, cc, bb, tb⟩ := e0
  obtain ⟨hd0, hck⟩ := vs_and2 hgood
  have hd := of_decide_eq_true hd0
  clear hgood hd0
  dsimp only at hd hck
  cases ins with
  | iadd =>
    obtain rfl := of_decide_eq_true hck
    obtain ⟨x, y, S, rfl, rfl⟩ := vi_ibin hs
    exact vs_hop rfl (fun _ _ _ _ _ _ _ _ _ _ _ _ _ _ hF _ _ k => vs_iadd hF hd k) (ih _ _ _ _ _ _ _ _ hc)
  | isub =>
    obtain rfl := of_decide_eq_true hck
    obtain ⟨x, y, S, rfl, rfl⟩ := vi_ibin hs
    exact vs_hop rfl (fun _ _ _ _ _ _ _ _ _ _ _ _ _ _ hF _ _ k => vs_isub hF hd k) (ih _ _ _ _ _ _ _ _ hc)
  | imul =>
    obtain rfl := of_decide_eq_true hck
    obtain ⟨x, y, S, rfl, rfl⟩ := vi_ibin hs
    exact vs_hop rfl (fun _ _ _ _ _ _ _ _ _ _ _ _ _ _ hF _ _ k => vs_imul hF hd k) (ih _ _ _ _ _ _ _ _ hc)
  | iand =>
    obtain rfl := of_decide_eq_true hck
    obtain ⟨x, y, S, rfl, rfl⟩ := vi_ibin hs
    exact vs_hop rfl (fun _ _ _ _ _ _ _ _ _ _ _ _ _ _ hF _ _ k => vs_iand hF hd k) (ih _ _ _ _ _ _ _ _ hc)
  | ior =>
    obtain rfl := of_decide_eq_true hck
    obtain ⟨x, y, S, rfl, rfl⟩ := vi_ibin hs
    exact vs_hop rfl (fun _ _ _ _ _ _ _ _ _ _ _ _ _ _ hF _ _ k => vs_ior hF hd k) (ih _ _ _ _ _ _ _ _ hc)
  | ixor =>
    obtain rfl := of_decide_eq_true hck
    obtain ⟨x, y, S, rfl, rfl⟩ := vi_ibin hs
    exact vs_hop rfl (fun _ _ _ _ _ _ _ _ _ _ _ _ _ _ hF _ _ k => vs_ixor hF hd k) (ih _ _ _ _ _ _ _ _ hc)
  | ishl =>
    obtain rfl := of_decide_eq_true hck
    obtain ⟨x, y, S, rfl, rfl⟩ := vi_ibin hs
    exact vs_hop rfl (fun _ _ _ _ _ _ _ _ _ _ _ _ _ _ hF _ _ k => vs_ishl hF hd k) (ih _ _ _ _ _ _ _ _ hc)
  | ishr =>
    obtain rfl := of_decide_eq_true hck
    obtain ⟨x, y, S, rfl, rfl⟩ := vi_ibin hs
    exact vs_hop rfl (fun _ _ _ _ _ _ _ _ _ _ _ _ _ _ hF _ _ k => vs_ishr hF hd k) (ih _ _ _ _ _ _ _ _ hc)
  | iushr =>
    obtain rfl := of_decide_eq_true hck
    obtain ⟨x, y, S, rfl, rfl⟩ := vi_ibin hs
    exact vs_hop rfl (fun _ _ _ _ _ _ _ _ _ _ _ _ _ _ hF _ _ k => vs_iushr hF hd k) (ih _ _ _ _ _ _ _ _ hc)
  | ladd =>
    obtain rfl := of_decide_eq_true hck
    obtain ⟨x, y, S, rfl, rfl⟩ := vi_ibinL hs
    exact vs_hop rfl (fun _ _ _ _ _ _ _ _ _ _ _ _ _ _ hF _ _ k => vs_ladd hF hd k) (ih _ _ _ _ _ _ _ _ hc)
  | lsub =>
    obtain rfl := of_decide_eq_true hck
    obtain ⟨x, y, S, rfl, rfl⟩ := vi_ibinL hs
    exact vs_hop rfl (fun _ _ _ _ _ _ _ _ _ _ _ _ _ _ hF _ _ k => vs_lsub hF hd k) (ih _ _ _ _ _ _ _ _ hc)
  | lmul =>
    obtain rfl := of_decide_eq_true hck
    obtain ⟨x, y, S, rfl, rfl⟩ := vi_ibinL hs
    exact vs_hop rfl (fun _ _ _ _ _ _ _ _ _ _ _ _ _ _ hF _ _ k => vs_lmul hF hd k) (ih _ _ _ _ _ _ _ _ hc)
  | land =>
    obtain rfl := of_decide_eq_true hck
    obtain ⟨x, y, S, rfl, rfl⟩ := vi_ibinL hs
    exact vs_hop rfl (fun _ _ _ _ _ _ _ _ _ _ _ _ _ _ hF _ _ k => vs_land hF hd k) (ih _ _ _ _ _ _ _ _ hc)
  | lor =>
    obtain rfl := of_decide_eq_true hck
    obtain ⟨x, y, S, rfl, rfl⟩ := vi_ibinL hs
    exact vs_hop rfl (fun _ _ _ _ _ _ _ _ _ _ _ _ _ _ hF _ _ k => vs_lor hF hd k) (ih _ _ _ _ _ _ _ _ hc)
  | lxor =>
    obtain rfl := of_decide_eq_true hck
    obtain ⟨x, y, S, rfl, rfl⟩ := vi_ibinL hs
    exact vs_hop rfl (fun _ _ _ _ _ _ _ _ _ _ _ _ _ _ hF _ _ k => vs_lxor hF hd k) (ih _ _ _ _ _ _ _ _ hc)
  | lshl =>
    obtain rfl := of_decide_eq_true hck
    obtain ⟨x, y, S, rfl, rfl⟩ := vi_ishL hs
    exact vs_hop rfl (fun _ _ _ _ _ _ _ _ _ _ _ _ _ _ hF _ _ k => vs_lshl hF hd k) (ih _ _ _ _ _ _ _ _ hc)
  | lshr =>
    obtain rfl := of_decide_eq_true hck
    obtain ⟨x, y, S, rfl, rfl⟩ := vi_ishL hs
    exact vs_hop rfl (fun _ _ _ _ _ _ _ _ _ _ _ _ _ _ hF _ _ k => vs_lshr hF hd k) (ih _ _ _ _ _ _ _ _ hc)
  | lushr =>
    obtain rfl := of_decide_eq_true hck
    obtain ⟨x, y, S, rfl, rfl⟩ := vi_ishL hs
    exact vs_hop rfl (fun _ _ _ _ _ _ _ _ _ _ _ _ _ _ hF _ _ k => vs_lushr hF hd k) (ih _ _ _ _ _ _ _ _ hc)
  | idiv =>
    obtain rfl := of_decide_eq_true hck
    obtain ⟨x, y, S, hy, rfl, rfl⟩ := vi_idiv0 hs
    exact vs_hop rfl (fun _ _ _ _ _ _ _ _ _ _ _ _ _ _ hF _ _ k => vs_idiv hF hd hy k) (ih _ _ _ _ _ _ _ _ hc)
  | irem =>
    obtain rfl := of_decide_eq_true hck
    obtain ⟨x, y, S, hy, rfl, rfl⟩ := vi_idiv0 hs
    exact vs_hop rfl (fun _ _ _ _ _ _ _ _ _ _ _ _ _ _ hF _ _ k => vs_irem hF hd hy k) (ih _ _ _ _ _ _ _ _ hc)
  | ldiv =>
    obtain rfl := of_decide_eq_true hck
    obtain ⟨x, y, S, hy, rfl, rfl⟩ := vi_idivL0 hs
    exact vs_hop rfl (fun _ _ _ _ _ _ _ _ _ _ _ _ _ _ hF _ _ k => vs_ldiv hF hd hy k) (ih _ _ _ _ _ _ _ _ hc)
  | lrem =>
    obtain rfl := of_decide_eq_true hck
    obtain ⟨x, y, S, hy, rfl, rfl⟩ := vi_idivL0 hs
    exact vs_hop rfl (fun _ _ _ _ _ _ _ _ _ _ _ _ _ _ hF _ _ k => vs_lrem hF hd hy k) (ih _ _ _ _ _ _ _ _ hc)
  | ineg =>
    obtain rfl := of_decide_eq_true hck
    obtain ⟨x, S, rfl, rfl⟩ := vi_iun hs
    exact vs_hop rfl (fun _ _ _ _ _ _ _ _ _ _ _ _ _ _ hF _ _ k => vs_ineg hF hd k) (ih _ _ _ _ _ _ _ _ hc)
  | i2b =>
    obtain rfl := of_decide_eq_true hck
    obtain ⟨x, S, rfl, rfl⟩ := vi_iun hs
    exact vs_hop rfl (fun _ _ _ _ _ _ _ _ _ _ _ _ _ _ hF _ _ k => vs_i2b hF hd k) (ih _ _ _ _ _ _ _ _ hc)
  | i2c =>
    obtain rfl := of_decide_eq_true hck
    obtain ⟨x, S, rfl, rfl⟩ := vi_iun hs
    exact vs_hop rfl (fun _ _ _ _ _ _ _ _ _ _ _ _ _ _ hF _ _ k => vs_i2c hF hd k) (ih _ _ _ _ _ _ _ _ hc)
  | i2s =>
    obtain rfl := of_decide_eq_true hck
    obtain ⟨x, S, rfl, rfl⟩ := vi_iun hs
    exact vs_hop rfl (fun _ _ _ _ _ _ _ _ _ _ _ _ _ _ hF _ _ k => vs_i2s hF hd k) (ih _ _ _ _ _ _ _ _ hc)
  | lneg =>
    obtain rfl := of_decide_eq_true hck
    obtain ⟨x, S, rfl, rfl⟩ := vi_iunL hs
    exact vs_hop rfl (fun _ _ _ _ _ _ _ _ _ _ _ _ _ _ hF _ _ k => vs_lneg hF hd k) (ih _ _ _ _ _ _ _ _ hc)
  | lcmp =>
    obtain rfl := of_decide_eq_true hck
    obtain ⟨x, y, S, rfl, rfl⟩ := vi_ilcmp hs
    exact vs_hop rfl (fun _ _ _ _ _ _ _ _ _ _ _ _ _ _ hF _ _ k => vs_lcmp hF hd k) (ih _ _ _ _ _ _ _ _ hc)
  | i2l =>
    obtain rfl := of_decide_eq_true hck
    obtain ⟨x, S, rfl, rfl⟩ := vi_ii2l hs
    exact vs_hop rfl (fun _ _ _ _ _ _ _ _ _ _ _ _ _ _ hF _ _ k => vs_i2l hF hd k) (ih _ _ _ _ _ _ _ _ hc)
  | l2i =>
    obtain rfl := of_decide_eq_true hck
    obtain ⟨x, S, rfl, rfl⟩ := vi_il2i hs
    exact vs_hop rfl (fun _ _ _ _ _ _ _ _ _ _ _ _ _ _ hF _ _ k => vs_l2i hF hd k) (ih _ _ _ _ _ _ _ _ hc)
  | iconst n =>
    replace hck := vs_and hck
    obtain ⟨rfl, hck⟩ := hck
    obtain rfl := Option.some.inj hs
    exact vs_hop rfl (fun _ _ _ _ _ _ _ _ _ _ _ _ _ _ hF _ _ k => vs_iconst hF hd (of_decide_eq_true hck) k) (ih _ _ _ _ _ _ _ _ hc)
  | bipush n =>
    replace hck := vs_and hck
    obtain ⟨rfl, hck⟩ := hck
    obtain rfl := Option.some.inj hs
    exact vs_hop rfl (fun _ _ _ _ _ _ _ _ _ _ _ _ _ _ hF _ _ k => vs_bipush hF hd (of_decide_eq_true hck) k) (ih _ _ _ _ _ _ _ _ hc)
  | sipush n =>
    replace hck := vs_and hck
    obtain ⟨rfl, hck⟩ := hck
    obtain rfl := Option.some.inj hs
    exact vs_hop rfl (fun _ _ _ _ _ _ _ _ _ _ _ _ _ _ hF _ _ k => vs_sipush hF hd (of_decide_eq_true hck) k) (ih _ _ _ _ _ _ _ _ hc)
  | lconst n =>
    replace hck := vs_and hck
    obtain ⟨rfl, hck⟩ := hck
    obtain rfl := Option.some.inj hs
    exact vs_hop rfl (fun _ _ _ _ _ _ _ _ _ _ _ _ _ _ hF _ _ k => vs_lconst hF hd (of_decide_eq_true hck) k) (ih _ _ _ _ _ _ _ _ hc)
  | ldc2_w i =>
    replace hck := vs_and hck
    obtain ⟨rfl, hck⟩ := hck
    replace hck := vs_and2 hck
    obtain ⟨hwd, hx⟩ := hck
    obtain rfl := Option.some.inj hs
    exact vs_hop rfl (fun _ _ _ _ _ _ _ _ _ _ _ _ _ _ hF _ _ k => vs_ldc2 hF hd (of_decide_eq_true hx) (vi_gw_in hwd rfl) k) (ih _ _ _ _ _ _ _ _ hc)
  | ldc_w i =>
    replace hck := vs_and hck
    obtain ⟨rfl, hck⟩ := hck
    replace hck := vs_and2 hck
    obtain ⟨hc7, hck⟩ := hck
    replace hck := vs_and2 hck
    obtain ⟨hwd, hx⟩ := hck
    replace hs := (if_neg (of_decide_eq_true hc7)).symm.trans hs
    obtain rfl := Option.some.inj hs
    exact vs_hop rfl (fun _ _ _ _ _ _ _ _ _ _ _ _ _ _ hF _ _ k => vs_ldcw hF hd (of_decide_eq_true hx) (vi_gw_in hwd rfl) k) (ih _ _ _ _ _ _ _ _ hc)
  | ldc i =>
    replace hck := vs_and hck
    obtain ⟨rfl, hck⟩ := hck
    by_cases hc7 : cc = 7
    · replace hs := (if_pos hc7).symm.trans hs
      rw [if_pos hc7] at hck
      replace hck := vs_and2 hck
      obtain ⟨h2, hck⟩ := hck
      have h2 := of_decide_eq_true h2
      obtain rfl := Option.some.inj hs
      obtain ⟨a, rfl⟩ : ∃ a0, a = 2 + a0 := ⟨a - 2, by omega⟩
      rw [show 2 + a - 2 = a by omega] at hck
      cases hst : vi_strs[a]? with
      | none => rw [hst] at hck; cases hck
      | some y =>
        rw [hst] at hck
        obtain ⟨y1, y2, y3⟩ := y
        obtain ⟨rfl, rfl⟩ := of_decide_eq_true hck
        exact vs_hop rfl (fun _ _ _ _ _ _ _ _ _ _ _ _ _ _ hF hE _ k => vs_ldcS hF hE hd hst k) (ih _ _ _ _ _ _ _ _ hc)
    · replace hs := (if_neg hc7).symm.trans hs
      rw [if_neg hc7] at hck
      replace hck := vs_and2 hck
      obtain ⟨hwd, hx⟩ := hck
      obtain rfl := Option.some.inj hs
      exact vs_hop rfl (fun _ _ _ _ _ _ _ _ _ _ _ _ _ _ hF _ _ k => vs_ldc hF hd (of_decide_eq_true hx) (vi_gw_in hwd rfl) k) (ih _ _ _ _ _ _ _ _ hc)
  | aconst_null =>
    obtain rfl := of_decide_eq_true hck
    obtain rfl := Option.some.inj hs
    exact vs_hop rfl (fun _ _ _ _ _ _ _ _ _ _ _ _ _ _ hF _ _ k => vs_null hF hd k) (ih _ _ _ _ _ _ _ _ hc)
  | iload_n i =>
    replace hck := vs_and hck
    obtain ⟨rfl, hck⟩ := hck
    obtain ⟨x, hx, rfl⟩ := vi_iloadI hs
    exact vs_hop rfl (fun _ _ _ _ _ _ _ _ _ _ _ _ _ _ hF _ _ k => vs_iload_n hF hd (of_decide_eq_true hck) hx k) (ih _ _ _ _ _ _ _ _ hc)
  | iload i =>
    replace hck := vs_and hck
    obtain ⟨rfl, hck⟩ := hck
    obtain rfl := of_decide_eq_true hck
    obtain ⟨x, hx, rfl⟩ := vi_iloadI hs
    exact vs_hop rfl (fun _ _ _ _ _ _ _ _ _ _ _ _ _ _ hF _ _ k => vs_iload hF hd hx k) (ih _ _ _ _ _ _ _ _ hc)
  | lload_n i =>
    replace hck := vs_and hck
    obtain ⟨rfl, hck⟩ := hck
    obtain ⟨x, hx, rfl⟩ := vi_iloadL hs
    exact vs_hop rfl (fun _ _ _ _ _ _ _ _ _ _ _ _ _ _ hF _ _ k => vs_lload_n hF hd (of_decide_eq_true hck) hx k) (ih _ _ _ _ _ _ _ _ hc)
  | lload i =>
    replace hck := vs_and hck
    obtain ⟨rfl, hck⟩ := hck
    obtain rfl := of_decide_eq_true hck
    obtain ⟨x, hx, rfl⟩ := vi_iloadL hs
    exact vs_hop rfl (fun _ _ _ _ _ _ _ _ _ _ _ _ _ _ hF _ _ k => vs_lload hF hd hx k) (ih _ _ _ _ _ _ _ _ hc)
  | aload_n i =>
    replace hck := vs_and hck
    obtain ⟨rfl, hck⟩ := hck
    obtain ⟨x, hx, rfl⟩ := vi_iloadA hs
    exact vs_hop rfl (fun _ _ _ _ _ _ _ _ _ _ _ _ _ _ hF _ _ k => vs_aload_n hF hd (of_decide_eq_true hck) hx k) (ih _ _ _ _ _ _ _ _ hc)
  | aload i =>
    replace hck := vs_and hck
    obtain ⟨rfl, hck⟩ := hck
    obtain rfl := of_decide_eq_true hck
    obtain ⟨x, hx, rfl⟩ := vi_iloadA hs
    exact vs_hop rfl (fun _ _ _ _ _ _ _ _ _ _ _ _ _ _ hF _ _ k => vs_aload hF hd hx k) (ih _ _ _ _ _ _ _ _ hc)
  | istore_n i =>
    replace hck := vs_and hck
    obtain ⟨rfl, hck⟩ := hck
    replace hck := vs_and2 hck
    obtain ⟨hi, ha⟩ := hck
    obtain ⟨x, S, rfl, rfl⟩ := vi_istI hs
    exact vs_hop rfl (fun _ _ _ _ _ _ _ _ _ _ _ _ _ _ hF _ _ k => vs_istore_n hF hd (of_decide_eq_true hi) (of_decide_eq_true ha) k) (ih _ _ _ _ _ _ _ _ hc)
  | istore i =>
    replace hck := vs_and hck
    obtain ⟨rfl, hck⟩ := hck
    replace hck := vs_and2 hck
    obtain ⟨hi, ha⟩ := hck
    obtain rfl := of_decide_eq_true hi
    obtain ⟨x, S, rfl, rfl⟩ := vi_istI hs
    exact vs_hop rfl (fun _ _ _ _ _ _ _ _ _ _ _ _ _ _ hF _ _ k => vs_istore hF hd (of_decide_eq_true ha) k) (ih _ _ _ _ _ _ _ _ hc)
  | lstore_n i =>
    replace hck := vs_and hck
    obtain ⟨rfl, hck⟩ := hck
    replace hck := vs_and2 hck
    obtain ⟨hi, ha⟩ := hck
    obtain ⟨x, S, rfl, rfl⟩ := vi_istL hs
    exact vs_hop rfl (fun _ _ _ _ _ _ _ _ _ _ _ _ _ _ hF _ _ k => vs_lstore_n hF hd (of_decide_eq_true hi) (of_decide_eq_true ha) k) (ih _ _ _ _ _ _ _ _ hc)
  | lstore i =>
    replace hck := vs_and hck
    obtain ⟨rfl, hck⟩ := hck
    replace hck := vs_and2 hck
    obtain ⟨hi, ha⟩ := hck
    obtain rfl := of_decide_eq_true hi
    obtain ⟨x, S, rfl, rfl⟩ := vi_istL hs
    exact vs_hop rfl (fun _ _ _ _ _ _ _ _ _ _ _ _ _ _ hF _ _ k => vs_lstore hF hd (of_decide_eq_true ha) k) (ih _ _ _ _ _ _ _ _ hc)
  | astore_n i =>
    replace hck := vs_and hck
    obtain ⟨rfl, hck⟩ := hck
    replace hck := vs_and2 hck
    obtain ⟨hi, ha⟩ := hck
    obtain ⟨x, S, rfl, rfl⟩ := vi_istA hs
    exact vs_hop rfl (fun _ _ _ _ _ _ _ _ _ _ _ _ _ _ hF _ _ k => vs_astore_n hF hd (of_decide_eq_true hi) (of_decide_eq_true ha) k) (ih _ _ _ _ _ _ _ _ hc)
  | astore i =>
    replace hck := vs_and hck
    obtain ⟨rfl, hck⟩ := hck
    replace hck := vs_and2 hck
    obtain ⟨hi, ha⟩ := hck
    obtain rfl := of_decide_eq_true hi
    obtain ⟨x, S, rfl, rfl⟩ := vi_istA hs
    exact vs_hop rfl (fun _ _ _ _ _ _ _ _ _ _ _ _ _ _ hF _ _ k => vs_astore hF hd (of_decide_eq_true ha) k) (ih _ _ _ _ _ _ _ _ hc)
  | iinc i n =>
    replace hck := vs_and hck
    obtain ⟨rfl, hck⟩ := hck
    replace hck := vs_and2 hck
    obtain ⟨hi, hck⟩ := hck
    replace hck := vs_and2 hck
    obtain ⟨hx, ha⟩ := hck
    obtain rfl := of_decide_eq_true hi
    obtain ⟨x, hl, rfl⟩ := vi_iiinc hs
    exact vs_hop rfl (fun _ _ _ _ _ _ _ _ _ _ _ _ _ _ hF _ _ k => vs_iinc hF hd (of_decide_eq_true ha) (of_decide_eq_true hx) hl k) (ih _ _ _ _ _ _ _ _ hc)
  | dup =>
    obtain rfl := of_decide_eq_true hck
    obtain ⟨u, S, hu, rfl, rfl⟩ := vi_idup hs
    exact vs_hop rfl (fun _ _ _ _ _ _ _ _ _ _ _ _ _ _ hF _ _ k => vs_dup hF hd hu k) (ih _ _ _ _ _ _ _ _ hc)
  | pop =>
    obtain rfl := of_decide_eq_true hck
    obtain ⟨u, S, hu, rfl, rfl⟩ := vi_ipop1 hs
    exact vs_hop rfl (fun _ _ _ _ _ _ _ _ _ _ _ _ _ _ hF _ _ k => vs_pop hF hd hu k) (ih _ _ _ _ _ _ _ _ hc)
  | dup_x1 =>
    obtain rfl := of_decide_eq_true hck
    obtain ⟨u1, u2, S, hu, rfl, rfl⟩ := vi_idupx1 hs
    exact vs_hop rfl (fun _ _ _ _ _ _ _ _ _ _ _ _ _ _ hF _ _ k => vs_dup_x1 hF hd hu.1 hu.2 k) (ih _ _ _ _ _ _ _ _ hc)
  | dup_x2 =>
    obtain rfl := of_decide_eq_true hck
    obtain ⟨u1, u2, u3, S, hu, rfl, rfl⟩ := vi_idupx2 hs
    exact vs_hop rfl (fun _ _ _ _ _ _ _ _ _ _ _ _ _ _ hF _ _ k => vs_dup_x2 hF hd hu.1 hu.2.1 hu.2.2 k) (ih _ _ _ _ _ _ _ _ hc)
  | dup2 =>
    obtain rfl := of_decide_eq_true hck
    rcases vi_idup2 hs with ⟨u, S, hu, rfl, rfl⟩ | ⟨u1, u2, S, hu1, hu2, rfl, rfl⟩
    · exact vs_hop rfl (fun _ _ _ _ _ _ _ _ _ _ _ _ _ _ hF _ _ k => vs_dup2_2 hF hd hu k) (ih _ _ _ _ _ _ _ _ hc)
    · exact vs_hop rfl (fun _ _ _ _ _ _ _ _ _ _ _ _ _ _ hF _ _ k => vs_dup2_1 hF hd hu1 hu2 k) (ih _ _ _ _ _ _ _ _ hc)
  | pop2 =>
    obtain rfl := of_decide_eq_true hck
    obtain ⟨u, S, hu, rfl, rfl⟩ := vi_ipop22 hs
    exact vs_hop rfl (fun _ _ _ _ _ _ _ _ _ _ _ _ _ _ hF _ _ k => vs_pop2_2 hF hd hu k) (ih _ _ _ _ _ _ _ _ hc)
  | iaload =>
    replace hck := vs_and hck
    obtain ⟨rfl, hck⟩ := hck
    obtain ⟨i, q, S, hx, rfl, rfl⟩ := vi_iarrI hs
    rcases of_decide_eq_true hck with rfl | rfl
    · exact vs_hop rfl (fun _ _ _ _ _ _ _ _ _ _ _ _ _ _ hF _ _ k => vs_iaload hF hd hx k) (ih _ _ _ _ _ _ _ _ hc)
    · exact vs_hop rfl (fun _ _ _ _ _ _ _ _ _ _ _ _ _ _ hF hE _ k => vs_saload hF hE hd hx k) (ih _ _ _ _ _ _ _ _ hc)
  | baload =>
    replace hck := vs_and hck
    obtain ⟨rfl, hck⟩ := hck
    obtain ⟨i, q, S, hx, rfl, rfl⟩ := vi_iarrI hs
    rcases of_decide_eq_true hck with rfl | rfl | rfl
    · exact vs_hop rfl (fun _ _ _ _ _ _ _ _ _ _ _ _ _ _ hF _ _ k => vs_baload hF hd hx k) (ih _ _ _ _ _ _ _ _ hc)
    · exact vs_hop rfl (fun _ _ _ _ _ _ _ _ _ _ _ _ _ _ hF _ _ k => vs_zaload hF hd hx k) (ih _ _ _ _ _ _ _ _ hc)
    · exact vs_hop rfl (fun _ _ _ _ _ _ _ _ _ _ _ _ _ _ hF hE _ k => vs_cbaload hF hE hd hx k) (ih _ _ _ _ _ _ _ _ hc)
  | caload =>
    replace hck := vs_and hck
    obtain ⟨rfl, hck⟩ := hck
    obtain ⟨i, q, S, hx, rfl, rfl⟩ := vi_iarrI hs
    obtain rfl := of_decide_eq_true hck
    exact vs_hop rfl (fun _ _ _ _ _ _ _ _ _ _ _ _ _ _ hF _ _ k => vs_charload hF hd hx k) (ih _ _ _ _ _ _ _ _ hc)
  | castore =>
    replace hck := vs_and hck
    obtain ⟨rfl, hck⟩ := hck
    obtain rfl := of_decide_eq_true hck
    obtain ⟨x, i, q, S, hx, rfl, rfl⟩ := vi_iastI hs
    exact vs_hop2 (ih _ _ _ _ _ _ _ _ hc) rfl (fun _ _ _ _ _ _ _ _ _ _ _ _ _ _ hF _ _ k => vs_charstore hF hd hx k)
  | laload =>
    obtain rfl := of_decide_eq_true hck
    obtain ⟨i, q, S, hx, rfl, rfl⟩ := vi_iarrL hs
    exact vs_hop rfl (fun _ _ _ _ _ _ _ _ _ _ _ _ _ _ hF _ _ k => vs_laload hF hd hx k) (ih _ _ _ _ _ _ _ _ hc)
  | aaload =>
    replace hck := vs_and hck
    obtain ⟨rfl, hck⟩ := hck
    obtain rfl := of_decide_eq_true hck
    obtain ⟨i, q, S, hx, rfl, rfl⟩ := vi_iarrA hs
    exact vs_hop rfl (fun _ _ _ _ _ _ _ _ _ _ _ _ _ _ hF _ _ k => vs_aaload hF hd hx k) (ih _ _ _ _ _ _ _ _ hc)
  | iastore =>
    replace hck := vs_and hck
    obtain ⟨rfl, hck⟩ := hck
    obtain rfl := of_decide_eq_true hck
    obtain ⟨x, i, q, S, hx, rfl, rfl⟩ := vi_iastI hs
    exact vs_hop2 (ih _ _ _ _ _ _ _ _ hc) rfl (fun _ _ _ _ _ _ _ _ _ _ _ _ _ _ hF _ _ k => vs_iastore hF hd hx k)
  | bastore =>
    replace hck := vs_and hck
    obtain ⟨rfl, hck⟩ := hck
    obtain ⟨x, i, q, S, hx, rfl, rfl⟩ := vi_iastI hs
    rcases of_decide_eq_true hck with rfl | rfl
    · exact vs_hop2 (ih _ _ _ _ _ _ _ _ hc) rfl (fun _ _ _ _ _ _ _ _ _ _ _ _ _ _ hF _ _ k => vs_bastore hF hd hx k)
    · exact vs_hop2 (ih _ _ _ _ _ _ _ _ hc) rfl (fun _ _ _ _ _ _ _ _ _ _ _ _ _ _ hF _ _ k => vs_zastore hF hd hx k)
  | lastore =>
    obtain rfl := of_decide_eq_true hck
    obtain ⟨x, i, q, S, hx, rfl, rfl⟩ := vi_iastL hs
    exact vs_hop2 (ih _ _ _ _ _ _ _ _ hc) rfl (fun _ _ _ _ _ _ _ _ _ _ _ _ _ _ hF _ _ k => vs_lastore hF hd hx k)
  | aastore =>
    replace hck := vs_and hck
    obtain ⟨rfl, hck⟩ := hck
    obtain ⟨rfl, rfl⟩ := of_decide_eq_true hck
    obtain ⟨r0, i, q, S, hx, rfl, rfl⟩ := vi_iastA hs
    exact vs_hop2 (ih _ _ _ _ _ _ _ _ hc) rfl (fun _ _ _ _ _ _ _ _ _ _ _ _ _ _ hF _ _ k => vs_aastore hF hd hx k)
  | arraylength =>
    replace hck := vs_and hck
    obtain ⟨rfl, hck⟩ := hck
    obtain ⟨ha0, ha⟩ := of_decide_eq_true hck
    obtain ⟨q, S, hx, rfl, rfl⟩ := vi_ilen hs
    exact vs_hop rfl (fun _ _ _ _ _ _ _ _ _ _ _ _ _ _ hF hE _ k => vs_alen hF hE hd hx ha ha0 k) (ih _ _ _ _ _ _ _ _ hc)
  | newarray t =>
    replace hck := vs_and hck
    obtain ⟨rfl, hck⟩ := hck
    obtain ⟨x, S, hx, rfl, rfl⟩ := vi_inewA hs
    cases t with
    | int =>
      obtain rfl := of_decide_eq_true hck
      exact vs_hopN rfl rfl (fun _ _ _ _ _ _ _ _ _ _ _ _ _ _ hF hE hx0 h1 h2 k => vs_newI hF hE hx0 hd hx h1 h2 k) (ih _ _ _ _ _ _ _ _ hc)
    | long =>
      obtain rfl := of_decide_eq_true hck
      exact vs_hopN rfl rfl (fun _ _ _ _ _ _ _ _ _ _ _ _ _ _ hF hE hx0 h1 h2 k => vs_newJ hF hE hx0 hd hx h1 h2 k) (ih _ _ _ _ _ _ _ _ hc)
    | byte =>
      obtain rfl := of_decide_eq_true hck
      exact vs_hopN rfl rfl (fun _ _ _ _ _ _ _ _ _ _ _ _ _ _ hF hE hx0 h1 h2 k => vs_newB hF hE hx0 hd hx h1 h2 k) (ih _ _ _ _ _ _ _ _ hc)
    | boolean =>
      obtain rfl := of_decide_eq_true hck
      exact vs_hopN rfl rfl (fun _ _ _ _ _ _ _ _ _ _ _ _ _ _ hF hE hx0 h1 h2 k => vs_newZ hF hE hx0 hd hx h1 h2 k) (ih _ _ _ _ _ _ _ _ hc)
    | char =>
      obtain rfl := of_decide_eq_true hck
      exact vs_hopN rfl rfl (fun _ _ _ _ _ _ _ _ _ _ _ _ _ _ hF hE hx0 h1 h2 k => vs_newC hF hE hx0 hd hx h1 h2 k) (ih _ _ _ _ _ _ _ _ hc)
    | _ => cases hck
  | anewarray i =>
    replace hck := vs_and hck
    obtain ⟨rfl, hck⟩ := hck
    replace hck := vs_and2 hck
    obtain ⟨ha, hwd⟩ := hck
    obtain rfl := of_decide_eq_true ha
    obtain ⟨x, S, hx, rfl, rfl⟩ := vi_inewA hs
    exact vs_hopN rfl rfl (fun _ _ _ _ _ _ _ _ _ _ _ _ _ _ hF hE hx0 h1 h2 k => vs_anewarray hF hE hx0 hd (vi_gw_in hwd rfl) hx h1 h2 k) (ih _ _ _ _ _ _ _ _ hc)
  | new i =>
    replace hck := vs_and hck
    obtain ⟨rfl, hck⟩ := hck
    obtain rfl := Option.some.inj (show some _ = some o from hs)
    cases hcl : vi_cls[a - 20]? with
    | none => rw [hcl] at hck; cases hck
    | some y =>
      rw [hcl] at hck
      obtain ⟨C, T, N⟩ := y
      replace hck := vs_and2 hck
      obtain ⟨h1, hwd⟩ := hck
      obtain ⟨ha, rfl⟩ := of_decide_eq_true h1
      obtain ⟨ci, rfl⟩ : ∃ ci, a = 20 + ci := ⟨a - 20, by omega⟩
      rw [show 20 + ci - 20 = ci by omega] at hcl
      exact vs_hopN rfl rfl (fun _ _ _ _ _ _ _ _ _ _ _ _ _ _ hF hE hx0 h1 h2 k => vs_new hF hE hx0 hd hcl rfl (vi_gw_in hwd rfl) h1 h2 k) (ih _ _ _ _ _ _ _ _ hc)
  | getfield i =>
    replace hck := vs_and hck
    obtain ⟨rfl, hck⟩ := hck
    obtain ⟨q, S, hx, rfl, rfl⟩ := vi_iget hs
    by_cases h13 : a = 13
    · rw [if_pos h13] at hck
      unfold vi_ckS at hck
      by_cases hk0 : k = 0
      · rw [if_pos hk0] at hck
        replace hck := vs_and2 hck
        obtain ⟨hc17, hwd⟩ := hck
        obtain rfl := of_decide_eq_true hc17
        subst hk0
        exact vs_hop rfl (fun _ _ _ _ _ _ _ _ _ _ _ _ _ _ hF hE _ k => vs_getS0 hF hE hd (hx.trans h13) (vi_gw_in hwd rfl) k) (ih _ _ _ _ _ _ _ _ hc)
      · rw [if_neg hk0] at hck
        replace hck := vs_and2 hck
        obtain ⟨hk1, hck⟩ := hck
        replace hck := vs_and2 hck
        obtain ⟨hc17, hwd⟩ := hck
        obtain rfl := of_decide_eq_true hc17
        obtain rfl := of_decide_eq_true hk1
        exact vs_hop rfl (fun _ _ _ _ _ _ _ _ _ _ _ _ _ _ hF hE _ k => vs_getS1 hF hE hd (hx.trans h13) (vi_gw_in hwd rfl) k) (ih _ _ _ _ _ _ _ _ hc)
    · rw [if_neg h13] at hck
      exact vs_hop rfl (fun _ _ _ _ _ _ _ _ _ _ _ _ _ _ hF _ _ k => vs_getfield hF hd hx hck k) (ih _ _ _ _ _ _ _ _ hc)
  | putfield i =>
    replace hck := vs_and hck
    obtain ⟨rfl, hck⟩ := hck
    replace hck := vs_and2 hck
    obtain ⟨hkd, hck⟩ := hck
    replace hck := vs_and2 hck
    obtain ⟨hckF, hfo⟩ := hck
    have hkd := of_decide_eq_true hkd
    rcases vi_iput hs with ⟨x, q, S, hx, rfl, rfl⟩ | ⟨x, q, S, hx, rfl, rfl⟩ | ⟨r0, q, S, hx, rfl, rfl⟩
    · have hk2 : cc % 10 = 1 ∨ (cc % 10 = 4 ∧ 0 ≤ x ∧ x < 2) := by
        rcases hkd with h | h | h | h
        · exact Or.inl h
        · exact absurd h hx.2.1
        · have hf := hx.2.2.2
          rw [h] at hf
          exact Or.inr ⟨h, of_decide_eq_true (show decide (0 ≤ x ∧ x < 2) = true from hf)⟩
        · exact absurd h hx.2.2.1
      exact vs_hop vi_pf_n.1 (fun _ _ _ _ _ _ _ _ _ _ _ _ _ _ hF _ _ k => vs_putI hF hd hx.1 hckF hfo hk2 k) (ih _ _ _ _ _ _ _ _ hc)
    · exact vs_hop vi_pf_n.1 (fun _ _ _ _ _ _ _ _ _ _ _ _ _ _ hF _ _ k => vs_putJ hF hd hx.1 hckF hfo hx.2 k) (ih _ _ _ _ _ _ _ _ hc)
    · exact vs_hop vi_pf_n.1 (fun _ _ _ _ _ _ _ _ _ _ _ _ _ _ hF _ _ k => vs_putA hF hd hx.1 hckF hfo hx.2 k) (ih _ _ _ _ _ _ _ _ hc)
  | getstatic i =>
    replace hck := vs_and hck
    obtain ⟨rfl, hck⟩ := hck
    by_cases hc7 : cc = 7
    · replace hs := (if_pos hc7).symm.trans hs
      rw [if_pos hc7] at hck
      replace hck := vs_and2 hck
      obtain ⟨ha, hwd⟩ := hck
      obtain rfl := of_decide_eq_true ha
      obtain rfl := Option.some.inj hs
      exact vs_hop rfl (fun _ _ _ _ _ _ _ _ _ _ _ _ _ _ hF hE _ k => vs_gets1 hF hE hd (vi_gw_in hwd rfl) k) (ih _ _ _ _ _ _ _ _ hc)
    · replace hs := (if_neg hc7).symm.trans hs
      rw [if_neg hc7] at hck
      replace hck := vs_and2 hck
      obtain ⟨ha, hwd⟩ := hck
      obtain rfl := of_decide_eq_true ha
      obtain rfl := Option.some.inj hs
      exact vs_hop rfl (fun _ _ _ _ _ _ _ _ _ _ _ _ _ _ hF hE _ k => vs_gets0 hF hE hd (vi_gw_in hwd rfl) k) (ih _ _ _ _ _ _ _ _ hc)
  | goto off =>
    replace hck := vs_and hck
    obtain ⟨rfl, hck⟩ := hck
    obtain rfl := Option.some.inj hs
    exact vs_hop rfl (fun _ _ _ _ _ _ _ _ _ _ _ _ _ _ hF _ _ k => vs_goto hF hd (of_decide_eq_true hck) k) (ih _ _ _ _ _ _ _ _ hc)
  | ifCond q off =>
    replace hck := vs_and hck
    obtain ⟨rfl, hck⟩ := hck
    obtain ⟨x, S, rfl, rfl⟩ := vi_iif hs
    have H := ih _ _ _ _ _ _ _ _ hc
    cases q with
    | eq => exact vs_hbr (c0 := x = 0) H (fun _ _ _ _ _ _ _ _ _ _ _ _ _ _ hF _ _ k1 k2 => vs_if_eq hF hd (of_decide_eq_true hck) k1 k2)
    | ne => exact vs_hbr (c0 := x ≠ 0) H (fun _ _ _ _ _ _ _ _ _ _ _ _ _ _ hF _ _ k1 k2 => vs_if_ne hF hd (of_decide_eq_true hck) k1 k2)
    | lt => exact vs_hbr (c0 := x < 0) H (fun _ _ _ _ _ _ _ _ _ _ _ _ _ _ hF _ _ k1 k2 => vs_if_lt hF hd (of_decide_eq_true hck) k1 k2)
    | ge => exact vs_hbr (c0 := 0 ≤ x) H (fun _ _ _ _ _ _ _ _ _ _ _ _ _ _ hF _ _ k1 k2 => vs_if_ge hF hd (of_decide_eq_true hck) k1 k2)
    | gt => exact vs_hbr (c0 := 0 < x) H (fun _ _ _ _ _ _ _ _ _ _ _ _ _ _ hF _ _ k1 k2 => vs_if_gt hF hd (of_decide_eq_true hck) k1 k2)
    | le => exact vs_hbr (c0 := x ≤ 0) H (fun _ _ _ _ _ _ _ _ _ _ _ _ _ _ hF _ _ k1 k2 => vs_if_le hF hd (of_decide_eq_true hck) k1 k2)
  | if_icmp q off =>
    replace hck := vs_and hck
    obtain ⟨rfl, hck⟩ := hck
    obtain ⟨x, y, S, rfl, rfl⟩ := vi_iicmp hs
    have H := ih _ _ _ _ _ _ _ _ hc
    cases q with
    | eq => exact vs_hbr (c0 := x = y) H (fun _ _ _ _ _ _ _ _ _ _ _ _ _ _ hF _ _ k1 k2 => vs_icmp_eq hF hd (of_decide_eq_true hck) k1 k2)
    | ne => exact vs_hbr (c0 := x ≠ y) H (fun _ _ _ _ _ _ _ _ _ _ _ _ _ _ hF _ _ k1 k2 => vs_icmp_ne hF hd (of_decide_eq_true hck) k1 k2)
    | lt => exact vs_hbr (c0 := x < y) H (fun _ _ _ _ _ _ _ _ _ _ _ _ _ _ hF _ _ k1 k2 => vs_icmp_lt hF hd (of_decide_eq_true hck) k1 k2)
    | ge => exact vs_hbr (c0 := y ≤ x) H (fun _ _ _ _ _ _ _ _ _ _ _ _ _ _ hF _ _ k1 k2 => vs_icmp_ge hF hd (of_decide_eq_true hck) k1 k2)
    | gt => exact vs_hbr (c0 := y < x) H (fun _ _ _ _ _ _ _ _ _ _ _ _ _ _ hF _ _ k1 k2 => vs_icmp_gt hF hd (of_decide_eq_true hck) k1 k2)
    | le => exact vs_hbr (c0 := x ≤ y) H (fun _ _ _ _ _ _ _ _ _ _ _ _ _ _ hF _ _ k1 k2 => vs_icmp_le hF hd (of_decide_eq_true hck) k1 k2)
  | ifnull off =>
    replace hck := vs_and hck
    obtain ⟨rfl, hck⟩ := hck
    obtain ⟨q, S, h28, rfl, rfl⟩ := vi_ifn hs
    exact vs_hbr (c0 := q = 0) (ih _ _ _ _ _ _ _ _ hc) (fun _ _ _ _ _ _ _ _ _ _ _ _ _ _ hF _ _ k1 k2 => vs_ifnull hF hd (of_decide_eq_true hck) h28 k1 k2)
  | ifnonnull off =>
    replace hck := vs_and hck
    obtain ⟨rfl, hck⟩ := hck
    obtain ⟨q, S, h28, rfl, rfl⟩ := vi_ifnn hs
    exact vs_hbr (c0 := q ≠ 0) (ih _ _ _ _ _ _ _ _ hc) (fun _ _ _ _ _ _ _ _ _ _ _ _ _ _ hF _ _ k1 k2 => vs_ifnonnull hF hd (of_decide_eq_true hck) h28 k1 k2)
  | tableswitch d0 lo hi offs =>
    replace hck := vs_and2 hck
    obtain ⟨h1, hck⟩ := hck
    replace hck := vs_and2 hck
    obtain ⟨h2, h3⟩ := hck
    obtain ⟨x, S, rfl, rfl⟩ := vi_itsw hs
    exact vs_hop rfl (fun _ _ _ _ _ _ _ _ _ _ _ _ _ _ hF _ _ k => vs_swT hF hd h1 h2 (of_decide_eq_true h3) k) (ih _ _ _ _ _ _ _ _ hc)
  | ireturn =>
    replace hck := vs_and2 hck
    obtain ⟨hck, h4⟩ := hck
    replace hck := vs_and hck
    obtain ⟨rfl, hck⟩ := hck
    obtain ⟨x, hf, rfl, rfl⟩ := vi_iiret hs
    obtain ⟨rfl, rfl⟩ := hc
    refine ⟨Nat.le_refl _, Nat.le_refl _, fun p e R s mm args below meth c V0 nx0 cells slots hF hE hx hfr hlo hce hsl => ?_⟩
    rw [Nat.sub_self, Nat.sub_self, Nat.add_zero, Nat.add_zero]
    exact vs_iret hF hd (of_decide_eq_true hck) (fun i hi => vi_nar_fit hi (of_decide_eq_true h4) hf)
  | lreturn =>
    replace hck := vs_and hck
    obtain ⟨rfl, hck⟩ := hck
    obtain ⟨x, rfl, rfl⟩ := vi_ilret hs
    obtain ⟨rfl, rfl⟩ := hc
    refine ⟨Nat.le_refl _, Nat.le_refl _, fun p e R s mm args below meth c V0 nx0 cells slots hF hE hx hfr hlo hce hsl => ?_⟩
    rw [Nat.sub_self, Nat.sub_self, Nat.add_zero, Nat.add_zero]
    exact vs_lret hF hd (of_decide_eq_true hck)
  | areturn =>
    replace hck := vs_and hck
    obtain ⟨rfl, hck⟩ := hck
    obtain ⟨x, rfl, rfl⟩ := vi_iaret hs
    obtain ⟨rfl, rfl⟩ := hc
    refine ⟨Nat.le_refl _, Nat.le_refl _, fun p e R s mm args below meth c V0 nx0 cells slots hF hE hx hfr hlo hce hsl => ?_⟩
    rw [Nat.sub_self, Nat.sub_self, Nat.add_zero, Nat.add_zero]
    cases hrt : vi_rty m with
    | none => rw [hrt] at hck; cases hck
    | some ty =>
      rw [hrt] at hck
      cases ty with
      | object n => exact vs_aret hF hd hrt (Or.inl ⟨n, rfl⟩)
      | array t => exact vs_aret hF hd hrt (Or.inr ⟨t, rfl⟩)
      | _ => cases hck
  | return_ =>
    replace hck := vs_and hck
    obtain ⟨rfl, hck⟩ := hck
    obtain ⟨rfl, rfl⟩ := vi_ivret hs
    obtain ⟨rfl, rfl⟩ := hc
    refine ⟨Nat.le_refl _, Nat.le_refl _, fun p e R s mm args below meth c V0 nx0 cells slots hF hE hx hfr hlo hce hsl => ?_⟩
    rw [Nat.sub_self, Nat.sub_self, Nat.add_zero, Nat.add_zero]
    exact vs_vret hF hd (of_decide_eq_true hck)
  | invokestatic i =>
    replace hck := vs_and hck
    obtain ⟨rfl, hck⟩ := hck
    replace hck := vs_and2 hck
    obtain ⟨h1, hlk⟩ := hck
    obtain ⟨ha0, ha, rfl, rfl, hst⟩ := of_decide_eq_true h1
    have ha0 : a ≠ 0 := by omega
    obtain ⟨as, S1, hp, -, hcat, rfl⟩ := vi_iinv hs
    obtain ⟨d, r1, w1, rfl, hca, hr1, hr2⟩ := hc
    have H1 := ih _ _ _ _ _ _ _ _ hr1
    have H2 := ih _ _ _ _ _ _ _ _ hr2
    have hM := vs_met ha ha0 hca H1
    obtain ⟨n1, n2, -⟩ := H1
    obtain ⟨n3, n4, K⟩ := H2
    refine ⟨Nat.le_trans n1 n3, Nat.le_trans n2 n4, fun p e R s mm args below meth c V0 nx0 cells slots hF hE hx hfr hlo hce hsl => ?_⟩
    have k := K p e R s mm args below meth c V0 nx0 (cells + (w1.2.2.1 - w.2.2.1)) (slots + (w1.2.2.2 - w.2.2.2)) hF hE (by omega) hfr hlo (by omega) (by omega)
    rw [show cells + (w1.2.2.1 - w.2.2.1) + (wf.2.2.1 - w1.2.2.1) = cells + (wf.2.2.1 - w.2.2.1) by omega, show slots + (w1.2.2.2 - w.2.2.2) + (wf.2.2.2 - w1.2.2.2) = slots + (wf.2.2.2 - w.2.2.2) by omega] at k
    exact vs_callS hF hE hd ha ha0 hst (vi_gw_in hlk rfl) (vs_mll45 ha) hfr hlo hp hcat hM hx n1 (by omega) (by omega) k
  | invokevirtual i =>
    replace hck := vs_and hck
    obtain ⟨rfl, hck⟩ := hck
    replace hck := vs_and2 hck
    obtain ⟨h1, hlk⟩ := hck
    obtain ⟨ha0, ha, rfl, hst, hc0, hni, hct⟩ := of_decide_eq_true h1
    have ha0 : a ≠ 0 := by omega
    obtain ⟨as, S1, hp, hrv, hcat, rfl⟩ := vi_iinv hs
    obtain ⟨q0, as, rfl, hq0⟩ := vi_irecv hrv hc0
    obtain ⟨d, r1, w1, rfl, hca, hr1, hr2⟩ := hc
    have H1 := ih _ _ _ _ _ _ _ _ hr1
    have H2 := ih _ _ _ _ _ _ _ _ hr2
    have hM := vs_met ha ha0 hca H1
    obtain ⟨n1, n2, -⟩ := H1
    obtain ⟨n3, n4, K⟩ := H2
    refine ⟨Nat.le_trans n1 n3, Nat.le_trans n2 n4, fun p e R s mm args below meth c V0 nx0 cells slots hF hE hx hfr hlo hce hsl => ?_⟩
    have k := K p e R s mm args below meth c V0 nx0 (cells + (w1.2.2.1 - w.2.2.1)) (slots + (w1.2.2.2 - w.2.2.2)) hF hE (by omega) hfr hlo (by omega) (by omega)
    rw [show cells + (w1.2.2.1 - w.2.2.1) + (wf.2.2.1 - w1.2.2.1) = cells + (wf.2.2.1 - w.2.2.1) by omega, show slots + (w1.2.2.2 - w.2.2.2) + (wf.2.2.2 - w1.2.2.2) = slots + (wf.2.2.2 - w.2.2.2) by omega] at k
    exact vs_callV hF hE hd ha ha0 hst hni hct (vi_gw_in hlk rfl) (vs_mll45 ha) hfr hlo hp hq0 hcat hM hx n1 (by omega) (by omega) k
  | invokespecial i =>
    replace hck := vs_and hck
    obtain ⟨rfl, hck⟩ := hck
    by_cases ha0 : a = 0
    · subst ha0
      rw [if_pos rfl] at hck
      obtain ⟨q, S, hq, hcat, rfl, rfl⟩ := vi_iobj hs
      refine vs_hopR (ih _ _ _ _ _ _ _ _ hc) (fun _ _ _ _ _ _ _ _ _ _ _ _ _ _ hF hfr hlo k => vs_obj hF vj_objC vj_objI hd (vi_gw_in hck rfl) hfr hlo hq hcat k)
    · rw [if_neg ha0] at hck
      replace hck := vs_and2 hck
      obtain ⟨h1, hlk⟩ := hck
      obtain ⟨ha, rfl, hst, hct, hni, hrt⟩ := of_decide_eq_true h1
      replace hs := (if_neg ha0).symm.trans hs
      obtain ⟨as, S1, hp, hrv, hcat, rfl⟩ := vi_iinv hs
      obtain ⟨q0, as, rfl, hq0⟩ := vi_irecv hrv (by omega)
      have hlk : Cond.methodLink (vi_own m) i (vi_y a) ∈ vi_gw ∨ Cond.methodLinkNest (vi_own m) i (vi_y a) vi_host ∈ vi_nw := by
        split at hlk
        · exact Or.inl (vi_gw_in hlk rfl)
        · exact Or.inr (List.mem_filter.mpr ⟨vi_word_in hlk, rfl⟩)
      obtain ⟨d, r1, w1, rfl, hca, hr1, hr2⟩ := hc
      have H1 := ih _ _ _ _ _ _ _ _ hr1
      have H2 := ih _ _ _ _ _ _ _ _ hr2
      have hM := vs_met ha ha0 hca H1
      obtain ⟨n1, n2, -⟩ := H1
      obtain ⟨n3, n4, K⟩ := H2
      refine ⟨Nat.le_trans n1 n3, Nat.le_trans n2 n4, fun p e R s mm args below meth c V0 nx0 cells slots hF hE hx hfr hlo hce hsl => ?_⟩
      have k := K p e R s mm args below meth c V0 nx0 (cells + (w1.2.2.1 - w.2.2.1)) (slots + (w1.2.2.2 - w.2.2.2)) hF hE (by omega) hfr hlo (by omega) (by omega)
      rw [show cells + (w1.2.2.1 - w.2.2.1) + (wf.2.2.1 - w1.2.2.1) = cells + (wf.2.2.1 - w.2.2.1) by omega, show slots + (w1.2.2.2 - w.2.2.2) + (wf.2.2.2 - w1.2.2.2) = slots + (wf.2.2.2 - w.2.2.2) by omega] at k
      exact vs_callI hF hE hd ha ha0 hst hni hrt hct hlk (vs_mll45 ha) hfr hlo hp hq0 hcat hM hx n1 (by omega) (by omega) k
  | _ => exact absurd hck (by simp [vi_ckI])
end VS
