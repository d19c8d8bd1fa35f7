/-! SOUNDNESS of the small machine, second part: instructions on the heap. PRINTED by wip/whole/gen/ps.py out of wip/whole/src. -/
/-- the words that link a nest mate's method (no 'goodWord': they go with the state) -/
def vi_isNest : Cond → Bool
  | .methodLinkNest _ _ _ _ => true
  | _ => false
def vi_nw : List Cond := lw_tbl.filter vi_isNest
/-- what stays as it was before the law: the script, the texts, two statics -/
def vs_E (z b Ls : Nat) (xs : Nat → Int32) (adK adV : Nat → Nat) (fm : Value) (U : State) (H : Heap) : Prop :=
  (z ≤ H.size ∧ b < z ∧ Ls < 2147483648) ∧ va_X b Ls xs U H ∧ vk_S 13 vi_sln vi_byt adK adV (vs_A z) U H ∧ va_Z "java/lang/String" "COMPACT_STRINGS" "Z" (.int 1) (vs_A z) U H ∧ va_Z "jdk/internal/util/Preconditions" "SIOOBE_FORMATTER" "Ljava/util/function/BiFunction;" fm (vs_A z) U H ∧ (∀ (i : Nat) (x : String × Nat × String), vi_strs[i]? = some x → vk_R x.1 x.2.1 x.2.2 (adK i) U) ∧ va_AO "CheeseCube$Law" U ∧ ∀ x ∈ vi_nw, va_Nw x U
def vs_at (w w' : vi_W) (q : Nat) : Prop := w'.1.1 q = w.1.1 q ∧ w'.1.2.1 q = w.1.2.1 q ∧ w'.1.2.2 q = w.1.2.2 q ∧ w'.2.1 q = w.2.1 q
theorem vs_v_ext {V V' : Nat → Value} {nx nx' : Nat} (hV : ∀ q, q < nx → V' q = V q) (hn : nx ≤ nx') {v : Value} {u : vi_V} (h : vs_v V nx v u) : vs_v V' nx' v u := by
  rcases u with x | x | q
  · exact h
  · exact h
  · exact ⟨h.1.trans (hV q h.2).symm, Nat.lt_of_lt_of_le h.2 hn⟩
theorem vs_s_ext {V V' : Nat → Value} {nx nx' : Nat} (hV : ∀ q, q < nx → V' q = V q) (hn : nx ≤ nx') : ∀ {st : List Value} {S : List vi_V}, vs_s V nx st S → vs_s V' nx' st S
  | [], [], _ => trivial
  | _ :: _, _ :: _, h => ⟨vs_v_ext hV hn h.1, vs_s_ext hV hn h.2⟩
  | [], _ :: _, h => h.elim
  | _ :: _, [], h => h.elim
theorem vs_l_ext {V V' : Nat → Value} {nx nx' n : Nat} {ls : Array Slot} {L : vi_L} (hV : ∀ q, q < nx → V' q = V q) (hn : nx ≤ nx') (h : vs_l V nx ls n L) : vs_l V' nx' ls n L := by
  obtain ⟨bs, h1, h2⟩ := h
  exact ⟨bs, h1, fun k u hk => by
    obtain ⟨v, h3, h4⟩ := h2 k u hk
    exact ⟨v, h3, vs_v_ext hV hn h4⟩⟩
theorem vi_gf_same {w w' : vi_W} {q : Nat} (hq : vs_at w w' q) (c k : Nat) : vi_gf c w'.1 w'.2.1 q k = vi_gf c w.1 w.2.1 q k := by
  unfold vi_gf
  rw [hq.2.2.1, hq.2.2.2]
theorem vs_e_ext {V V' : Nat → Value} {nx nx' : Nat} {tys tys' : List (ClassId × FieldType)} {w w' : vi_W} {q : Nat} (hV : ∀ q, q < nx → V' q = V q) (hn : nx ≤ nx') (ht : ∀ (t0 : Nat) (x : ClassId × FieldType), tys[t0]? = some x → tys'[t0]? = some x) (hq : vs_at w w' q) : ∀ {e : va_E}, vs_e V nx tys w q e → vs_e V' nx' tys' w' q e := by
  intro e h
  rcases e with ⟨cA, n, f | f | f | f | f⟩ | ⟨ci, fs⟩
  · obtain ⟨ty, h1, ⟨t0, h2⟩, h3, h3', h4⟩ := h
    exact ⟨ty, by rw [hq.1]; exact h1, ⟨t0, ht _ _ h2⟩, by rw [hq.2.1]; exact h3, h3', fun j hj => by rw [hq.2.2.2]; exact h4 j hj⟩
  · obtain ⟨h1, ⟨t0, h2⟩, h3, h3', h4⟩ := h
    exact ⟨by rw [hq.1]; exact h1, ⟨t0, ht _ _ h2⟩, by rw [hq.2.1]; exact h3, h3', fun j hj => by rw [hq.2.2.2]; exact h4 j hj⟩
  · exact h.elim
  · exact h.elim
  · obtain ⟨h1, ⟨t0, h2⟩, h3, h3', h4⟩ := h
    exact ⟨by rw [hq.1]; exact h1, ⟨t0, ht _ _ h2⟩, by rw [hq.2.1]; exact h3, h3', fun j hj => by rw [hq.2.2.2]; exact vs_v_ext hV hn (h4 j hj)⟩
  · obtain ⟨h1, r, h2, h3, h4⟩ := h
    exact ⟨by rw [hq.1]; exact h1, r, h2, h3, fun k v hk => by rw [vi_gf_same hq]; exact vs_v_ext hV hn (h4 k v hk)⟩
theorem vs_pre_ext {b Ls : Nat} {xs : Nat → Int32} {adK adV : Nat → Nat} {fm : Value} {V V' : Nat → Value} {w w' : vi_W} (hV : ∀ q, q < 29 → V' q = V q) (hq : ∀ q, q < 29 → vs_at w w' q) (h : vs_pre b Ls xs adK adV fm V w) : vs_pre b Ls xs adK adV fm V' w' := by
  obtain ⟨⟨a1, a2⟩, ⟨b1, b2, b3, b4⟩, c1, d1, e1, e2, e3⟩ := h
  refine ⟨⟨by rw [hV 0 (by omega)]; exact a1, by rw [(hq 0 (by omega)).1]; exact a2⟩, ⟨by rw [hV 1 (by omega)]; exact b1, by rw [(hq 1 (by omega)).1]; exact b2, by rw [(hq 1 (by omega)).2.1]; exact b3, fun j hj => by rw [(hq 1 (by omega)).2.2.2]; exact b4 j hj⟩, fun i hi => ?_, fun i hi => ?_, by rw [hV 28 (by omega)]; exact e1, by rw [(hq 28 (by omega)).1]; exact e2, e3⟩
  · obtain ⟨x1, x2, x3, x4⟩ := c1 i hi
    exact ⟨by rw [hV _ (by omega)]; exact x1, by rw [(hq _ (by omega)).1]; exact x2, by rw [(hq _ (by omega)).2.2.1]; exact x3, by rw [(hq _ (by omega)).2.2.1]; exact x4⟩
  · obtain ⟨x1, x2, x3, x4⟩ := d1 i hi
    exact ⟨by rw [hV _ (by omega)]; exact x1, by rw [(hq _ (by omega)).1]; exact x2, by rw [(hq _ (by omega)).2.1]; exact x3, fun j hj => by rw [(hq _ (by omega)).2.2.2]; exact x4 j hj⟩
section VW
variable {b Ls : Nat} {xs : Nat → Int32} {adK adV : Nat → Nat} {fm : Value} {V : Nat → Value} {tys : List (ClassId × FieldType)} {ws : va_W} {w : vi_W}
theorem vs_w_set (hw : vs_w b Ls xs adK adV fm V tys ws w) {i0 a : Nat} {e e' : va_E} (h : ws[i0]? = some (a, e)) {w' : vi_W} (hs : ∀ q, q ≠ 29 + i0 → vs_at w w' q) (hn : w'.2.2.1 = w.2.2.1) (he : vs_e V w'.2.2.1 tys w' (29 + i0) e') : vs_w b Ls xs adK adV fm V tys (ws.set i0 (a, e')) w' := by
  obtain ⟨h1, h2, h3⟩ := hw
  refine ⟨by rw [hn, h1, List.length_set], vs_pre_ext (fun _ _ => rfl) (fun q hq => hs q (by omega)) h2, fun i a1 e1 hi => ?_⟩
  by_cases hii : i = i0
  · subst hii
    have hlt := (List.getElem?_eq_some_iff.mp h).1
    rw [List.getElem?_set_self hlt] at hi
    cases hi
    exact ⟨(h3 i _ _ h).1, he⟩
  · rw [List.getElem?_set_ne (fun q => hii q.symm)] at hi
    exact ⟨(h3 i _ _ hi).1, vs_e_ext (fun _ _ => rfl) (by rw [hn]; exact Nat.le_refl _) (fun _ _ q => q) (hs _ (by omega)) (h3 i _ _ hi).2⟩
theorem vs_w_new (hw : vs_w b Ls xs adK adV fm V tys ws w) {h : Nat} {e' : va_E} {w' : vi_W} {tys' : List (ClassId × FieldType)} (ht : ∀ (t0 : Nat) (x : ClassId × FieldType), tys[t0]? = some x → tys'[t0]? = some x) (hs : ∀ q, q ≠ w.2.2.1 → vs_at w w' q) (hn : w'.2.2.1 = w.2.2.1 + 1) (he : vs_e (fun q => if q = w.2.2.1 then .ref h else V q) w'.2.2.1 tys' w' w.2.2.1 e') :
    vs_w b Ls xs adK adV fm (fun q => if q = w.2.2.1 then .ref h else V q) tys' (ws ++ [(h, e')]) w' := by
  obtain ⟨h1, h2, h3⟩ := hw
  have hV : ∀ q, q < w.2.2.1 → (if q = w.2.2.1 then Value.ref h else V q) = V q := fun q hq => if_neg (by omega)
  refine ⟨by rw [hn, h1, List.length_append]; rfl, vs_pre_ext (fun q hq => hV q (by omega)) (fun q hq => hs q (by omega)) h2, fun i a1 e1 hi => ?_⟩
  by_cases hii : i < ws.length
  · rw [List.getElem?_append_left hii] at hi
    exact ⟨(hV _ (by omega)).trans (h3 i _ _ hi).1, vs_e_ext hV (by omega) ht (hs _ (by omega)) (h3 i _ _ hi).2⟩
  · rw [List.getElem?_append_right (by omega)] at hi
    have hz : i - ws.length < 1 := (List.getElem?_eq_some_iff.mp hi).1
    have hi0 : i = ws.length := by omega
    subst hi0
    simp only [Nat.sub_self, List.getElem?_cons_zero, Option.some.injEq, Prod.mk.injEq] at hi
    obtain ⟨rfl, rfl⟩ := hi
    rw [h1] at he ⊢
    exact ⟨if_pos rfl, he⟩
/-- a place that isn't one of the first 29 -/
theorem vs_find (hw : vs_w b Ls xs adK adV fm V tys ws w) {q : Nat} (hq : q < w.2.2.1) (hn : w.1.1 q ≠ 0 ∧ w.1.1 q ≠ 11 ∧ w.1.1 q ≠ 12 ∧ w.1.1 q ≠ 13) : ∃ (i a : Nat) (e : va_E), q = 29 + i ∧ ws[i]? = some (a, e) ∧ V q = .ref a ∧ vs_e V w.2.2.1 tys w q e := by
  obtain ⟨h1, ⟨h2, h3, h4, h5, h6⟩, h7⟩ := hw
  by_cases c0 : q = 0
  · subst c0; exact absurd h2.2 hn.1
  by_cases c1 : q = 1
  · subst c1; exact absurd h3.2.1 hn.2.1
  by_cases c2 : q < 15
  · have := (h4 (q - 2) (by omega)).2.1
    rw [show 2 + (q - 2) = q by omega] at this
    exact absurd this hn.2.2.2
  by_cases c3 : q < 28
  · have := (h5 (q - 15) (by omega)).2.1
    rw [show 15 + (q - 15) = q by omega] at this
    exact absurd this hn.2.2.1
  by_cases c4 : q = 28
  · subst c4; exact absurd h6.2.1 hn.1
  · have hlt : q - 29 < ws.length := by omega
    have h8 := h7 (q - 29) ws[q - 29].1 ws[q - 29].2 (List.getElem?_eq_getElem hlt)
    rw [show 29 + (q - 29) = q by omega] at h8
    exact ⟨q - 29, ws[q - 29].1, ws[q - 29].2, by omega, List.getElem?_eq_getElem hlt, h8.1, h8.2⟩
theorem vs_fI (hw : vs_w b Ls xs adK adV fm V tys ws w) {q : Nat} (hq : q < w.2.2.1) {ty : FieldType} (ht : vs_aty (w.1.1 q) = some ty) : ∃ (i a : Nat) (cA : ClassId) (n : Nat) (f : Nat → Int32), q = 29 + i ∧ ws[i]? = some (a, .inl (cA, n, .inl f)) ∧ V q = .ref a ∧ (∃ t0 : Nat, tys[t0]? = some (cA, ty)) ∧ w.1.2.1 q = n ∧ n < 2147483648 ∧ ∀ j, j < n → (f j).toInt = w.2.1 q j := by
  have hn : w.1.1 q ≠ 0 ∧ w.1.1 q ≠ 11 ∧ w.1.1 q ≠ 12 ∧ w.1.1 q ≠ 13 := by
    refine ⟨?_, ?_, ?_, ?_⟩ <;> (intro h; rw [h] at ht; cases ht)
  obtain ⟨i, a, e, h1, h2, h3, h4⟩ := vs_find hw hq hn
  rcases e with ⟨cA, n, f | f | f | f | f⟩ | ⟨ci, fs⟩
  · obtain ⟨ty', g1, g2, g3, g3', g4⟩ := h4
    rw [ht] at g1
    cases g1
    exact ⟨i, a, cA, n, f, h1, h2, h3, g2, g3, g3', g4⟩
  · rw [h4.1] at ht; cases ht
  · exact h4.elim
  · exact h4.elim
  · rw [h4.1] at ht; cases ht
  · rw [h4.1] at ht
    unfold vs_aty at ht
    split at ht <;> first | omega | cases ht
theorem vs_fJ (hw : vs_w b Ls xs adK adV fm V tys ws w) {q : Nat} (hq : q < w.2.2.1) (ht : w.1.1 q = 2) : ∃ (i a : Nat) (cA : ClassId) (n : Nat) (f : Nat → Int64), q = 29 + i ∧ ws[i]? = some (a, .inl (cA, n, .inr (.inl f))) ∧ V q = .ref a ∧ (∃ t0 : Nat, tys[t0]? = some (cA, .long)) ∧ w.1.2.1 q = n ∧ n < 2147483648 ∧ ∀ j, j < n → (f j).toInt = w.2.1 q j := by
  obtain ⟨i, a, e, h1, h2, h3, h4⟩ := vs_find hw hq (by rw [ht]; decide)
  rcases e with ⟨cA, n, f | f | f | f | f⟩ | ⟨ci, fs⟩
  · obtain ⟨ty', g1, -⟩ := h4
    rw [ht] at g1
    cases g1
  · exact ⟨i, a, cA, n, f, h1, h2, h3, h4.2⟩
  · exact h4.elim
  · exact h4.elim
  · have := h4.1; omega
  · have := h4.1; omega
theorem vs_fA (hw : vs_w b Ls xs adK adV fm V tys ws w) {q : Nat} (hq : q < w.2.2.1) (ht : w.1.1 q = 7) : ∃ (i a : Nat) (cA : ClassId) (n : Nat) (f : Nat → Option Nat), q = 29 + i ∧ ws[i]? = some (a, .inl (cA, n, .inr (.inr (.inr (.inr f))))) ∧ V q = .ref a ∧ (∃ t0 : Nat, tys[t0]? = some (cA, .object "CheeseCube$Law")) ∧ w.1.2.1 q = n ∧ n < 2147483648 ∧ ∀ j, j < n → vs_v V w.2.2.1 (va_rf (f j)) (.inr (.inr (w.2.1 q j).toNat)) := by
  obtain ⟨i, a, e, h1, h2, h3, h4⟩ := vs_find hw hq (by rw [ht]; decide)
  rcases e with ⟨cA, n, f | f | f | f | f⟩ | ⟨ci, fs⟩
  · obtain ⟨ty', g1, -⟩ := h4
    rw [ht] at g1
    cases g1
  · have := h4.1; omega
  · exact h4.elim
  · exact h4.elim
  · exact ⟨i, a, cA, n, f, h1, h2, h3, h4.2⟩
  · have := h4.1; omega
theorem vs_fO (hw : vs_w b Ls xs adK adV fm V tys ws w) {q ci : Nat} (hq : q < w.2.2.1) (ht : w.1.1 q = 20 + ci) : ∃ (i a : Nat) (fs : List Value) (r : vw_C), q = 29 + i ∧ ws[i]? = some (a, .inr (ci, fs)) ∧ V q = .ref a ∧ vi_cls[ci]? = some r ∧ fs.length = r.2.2 ∧ ∀ (k : Nat) (v : Value), fs[k]? = some v → vs_v V w.2.2.1 v (vi_gf (vi_kd (r.2.1 k).2.2.1 (r.2.1 k).2.2.2) w.1 w.2.1 q k) := by
  obtain ⟨i, a, e, h1, h2, h3, h4⟩ := vs_find hw hq (by rw [ht]; omega)
  rcases e with ⟨cA, n, f | f | f | f | f⟩ | ⟨cj, fs⟩
  · obtain ⟨ty', g1, -⟩ := h4
    rw [ht] at g1
    unfold vs_aty at g1
    split at g1 <;> first | omega | cases g1
  · have := h4.1; omega
  · exact h4.elim
  · exact h4.elim
  · have := h4.1; omega
  · obtain ⟨g1, r, g2, g3, g4⟩ := h4
    obtain rfl : ci = cj := by omega
    exact ⟨i, a, fs, r, h1, h2, h3, g2, g3, g4⟩
/-- the tag of a place from 29 on -/
theorem vs_tag (hw : vs_w b Ls xs adK adV fm V tys ws w) {q : Nat} (hq : q < w.2.2.1) (h : 29 ≤ q) : w.1.1 q ≠ 0 ∧ w.1.1 q ≠ 11 ∧ w.1.1 q ≠ 12 ∧ w.1.1 q ≠ 13 := by
  obtain ⟨h1, -, h7⟩ := hw
  have hlt : q - 29 < ws.length := by omega
  have h8 := (h7 (q - 29) ws[q - 29].1 ws[q - 29].2 (List.getElem?_eq_getElem hlt)).2
  rw [show 29 + (q - 29) = q by omega] at h8
  generalize ws[q - 29].2 = e at h8
  rcases e with ⟨cA, n, f | f | f | f | f⟩ | ⟨ci, fs⟩
  · obtain ⟨ty', g1, -⟩ := h8
    refine ⟨?_, ?_, ?_, ?_⟩ <;> (intro h; rw [h] at g1; cases g1)
  · have := h8.1; omega
  · exact h8.elim
  · exact h8.elim
  · have := h8.1; omega
  · have := h8.1; omega
theorem vs_q11 (hw : vs_w b Ls xs adK adV fm V tys ws w) {q : Nat} (hq : q < w.2.2.1) (h : w.1.1 q = 11) : q = 1 := by
  by_cases c9 : 29 ≤ q
  · exact absurd h (vs_tag hw hq c9).2.1
  obtain ⟨h1, ⟨h2, h3, h4, h5, h6⟩, h7⟩ := hw
  by_cases c0 : q = 0
  · subst c0; rw [h2.2] at h; cases h
  by_cases c1 : q = 1
  · exact c1
  by_cases c2 : q < 15
  · have := (h4 (q - 2) (by omega)).2.1
    rw [show 2 + (q - 2) = q by omega] at this
    omega
  by_cases c3 : q < 28
  · have := (h5 (q - 15) (by omega)).2.1
    rw [show 15 + (q - 15) = q by omega] at this
    omega
  · have : q = 28 := by omega
    subst this
    rw [h6.2.1] at h
    cases h
theorem vs_ms_at {q k : Nat} {v : Int} : ∀ q', q' ≠ q → vs_at w (w.1, vi_ms w.2.1 q k v, w.2.2) q' := fun q' h => ⟨rfl, rfl, rfl, by
  funext k'
  show (if q' = q ∧ k' = k then v else w.2.1 q' k') = w.2.1 q' k'
  rw [if_neg (fun x => h x.1)]⟩
end VW
section VS
variable {p : Program} {l : Launch} {e : Env} {R : Room} {s : State} {mm : MethodId} {args : Array Value} {below : List Frame} {meth : Method} {c : Code} {Q : State → Prop}
variable {D : va_G} {z b Ls : Nat} {xs : Nat → Int32} {adK adV : Nat → Nat} {fm : Value}
variable {m : Nat} {V0 : Nat → Value} {nx0 : Nat} {cells slots pc : Nat} {L : vi_L} {S : List vi_V} {w : vi_W}
theorem vs_iaload (hF : vs_F p s args mm meth c m) (hd : decode (vi_by m) pc = .ok (.iaload, 1)) {i : Int} {q : Nat} (hc : w.1.1 q = 1 ∧ 0 ≤ i ∧ i < w.1.2.1 q) (k : vs_G p l e R s mm args below meth c Q D z b Ls xs adK adV fm m V0 nx0 cells slots (pc + 1) L (.inl (w.2.1 q i.toNat) :: S) w) : vs_G p l e R s mm args below meth c Q D z b Ls xs adK adV fm m V0 nx0 cells slots pc L (.inl i :: .inr (.inr q) :: S) w := by
  intro V tys ws H locs hP hK hD hS hw hV ls st hl hs
  obtain ⟨i, st1, rfl, rfl, hs1⟩ := vs_sI hs
  obtain ⟨st2, rfl, hq, hs2⟩ := vs_sA hs1
  obtain ⟨i0, a, cA, n, f, h1, h2, h3, ⟨t0, h4⟩, h5, h6, h7⟩ := vs_fI hw hq (ty := .int) (by rw [hc.1]; rfl)
  rw [h3]
  have hi : i.toInt.toNat < n := by omega
  exact va_iald hF.1 hF.2.1 hK hP i0 t0 h2 h4 (vj_index hc.2.1 (by omega)) hd (k V tys ws H locs hP hK hD hS hw hV ls _ hl ⟨⟨_, rfl, h7 _ hi⟩, hs2⟩)
theorem vs_baload (hF : vs_F p s args mm meth c m) (hd : decode (vi_by m) pc = .ok (.baload, 1)) {i : Int} {q : Nat} (hc : w.1.1 q = 3 ∧ 0 ≤ i ∧ i < w.1.2.1 q) (k : vs_G p l e R s mm args below meth c Q D z b Ls xs adK adV fm m V0 nx0 cells slots (pc + 1) L (.inl (w.2.1 q i.toNat) :: S) w) : vs_G p l e R s mm args below meth c Q D z b Ls xs adK adV fm m V0 nx0 cells slots pc L (.inl i :: .inr (.inr q) :: S) w := by
  intro V tys ws H locs hP hK hD hS hw hV ls st hl hs
  obtain ⟨i, st1, rfl, rfl, hs1⟩ := vs_sI hs
  obtain ⟨st2, rfl, hq, hs2⟩ := vs_sA hs1
  obtain ⟨i0, a, cA, n, f, h1, h2, h3, ⟨t0, h4⟩, h5, h6, h7⟩ := vs_fI hw hq (ty := .byte) (by rw [hc.1]; rfl)
  rw [h3]
  have hi : i.toInt.toNat < n := by omega
  exact va_bald hF.1 hF.2.1 hK hP i0 t0 h2 h4 (vj_index hc.2.1 (by omega)) hd (k V tys ws H locs hP hK hD hS hw hV ls _ hl ⟨⟨_, rfl, h7 _ hi⟩, hs2⟩)
theorem vs_zaload (hF : vs_F p s args mm meth c m) (hd : decode (vi_by m) pc = .ok (.baload, 1)) {i : Int} {q : Nat} (hc : w.1.1 q = 4 ∧ 0 ≤ i ∧ i < w.1.2.1 q) (k : vs_G p l e R s mm args below meth c Q D z b Ls xs adK adV fm m V0 nx0 cells slots (pc + 1) L (.inl (w.2.1 q i.toNat) :: S) w) : vs_G p l e R s mm args below meth c Q D z b Ls xs adK adV fm m V0 nx0 cells slots pc L (.inl i :: .inr (.inr q) :: S) w := by
  intro V tys ws H locs hP hK hD hS hw hV ls st hl hs
  obtain ⟨i, st1, rfl, rfl, hs1⟩ := vs_sI hs
  obtain ⟨st2, rfl, hq, hs2⟩ := vs_sA hs1
  obtain ⟨i0, a, cA, n, f, h1, h2, h3, ⟨t0, h4⟩, h5, h6, h7⟩ := vs_fI hw hq (ty := .boolean) (by rw [hc.1]; rfl)
  rw [h3]
  have hi : i.toInt.toNat < n := by omega
  exact va_zald hF.1 hF.2.1 hK hP i0 t0 h2 h4 (vj_index hc.2.1 (by omega)) hd (k V tys ws H locs hP hK hD hS hw hV ls _ hl ⟨⟨_, rfl, h7 _ hi⟩, hs2⟩)
theorem vs_charload (hF : vs_F p s args mm meth c m) (hd : decode (vi_by m) pc = .ok (.caload, 1)) {i : Int} {q : Nat} (hc : w.1.1 q = 5 ∧ 0 ≤ i ∧ i < w.1.2.1 q) (k : vs_G p l e R s mm args below meth c Q D z b Ls xs adK adV fm m V0 nx0 cells slots (pc + 1) L (.inl (w.2.1 q i.toNat) :: S) w) : vs_G p l e R s mm args below meth c Q D z b Ls xs adK adV fm m V0 nx0 cells slots pc L (.inl i :: .inr (.inr q) :: S) w := by
  intro V tys ws H locs hP hK hD hS hw hV ls st hl hs
  obtain ⟨i, st1, rfl, rfl, hs1⟩ := vs_sI hs
  obtain ⟨st2, rfl, hq, hs2⟩ := vs_sA hs1
  obtain ⟨i0, a, cA, n, f, h1, h2, h3, ⟨t0, h4⟩, h5, h6, h7⟩ := vs_fI hw hq (ty := .char) (by rw [hc.1]; rfl)
  rw [h3]
  have hi : i.toInt.toNat < n := by omega
  exact va_cald hF.1 hF.2.1 hK hP i0 t0 h2 h4 (vj_index hc.2.1 (by omega)) hd (k V tys ws H locs hP hK hD hS hw hV ls _ hl ⟨⟨_, rfl, h7 _ hi⟩, hs2⟩)
theorem vs_laload (hF : vs_F p s args mm meth c m) (hd : decode (vi_by m) pc = .ok (.laload, 1)) {i : Int} {q : Nat} (hc : w.1.1 q = 2 ∧ 0 ≤ i ∧ i < w.1.2.1 q) (k : vs_G p l e R s mm args below meth c Q D z b Ls xs adK adV fm m V0 nx0 cells slots (pc + 1) L (.inr (.inl (w.2.1 q i.toNat)) :: S) w) : vs_G p l e R s mm args below meth c Q D z b Ls xs adK adV fm m V0 nx0 cells slots pc L (.inl i :: .inr (.inr q) :: S) w := by
  intro V tys ws H locs hP hK hD hS hw hV ls st hl hs
  obtain ⟨i, st1, rfl, rfl, hs1⟩ := vs_sI hs
  obtain ⟨st2, rfl, hq, hs2⟩ := vs_sA hs1
  obtain ⟨i0, a, cA, n, f, h1, h2, h3, ⟨t0, h4⟩, h5, h6, h7⟩ := vs_fJ hw hq hc.1
  rw [h3]
  have hi : i.toInt.toNat < n := by omega
  exact va_lald hF.1 hF.2.1 hK hP i0 t0 h2 h4 (vj_index hc.2.1 (by omega)) hd (k V tys ws H locs hP hK hD hS hw hV ls _ hl ⟨⟨_, rfl, h7 _ hi⟩, hs2⟩)
theorem vs_aaload (hF : vs_F p s args mm meth c m) (hd : decode (vi_by m) pc = .ok (.aaload, 1)) {i : Int} {q : Nat} (hc : w.1.1 q = 7 ∧ 0 ≤ i ∧ i < w.1.2.1 q) (k : vs_G p l e R s mm args below meth c Q D z b Ls xs adK adV fm m V0 nx0 cells slots (pc + 1) L (.inr (.inr (w.2.1 q i.toNat).toNat) :: S) w) : vs_G p l e R s mm args below meth c Q D z b Ls xs adK adV fm m V0 nx0 cells slots pc L (.inl i :: .inr (.inr q) :: S) w := by
  intro V tys ws H locs hP hK hD hS hw hV ls st hl hs
  obtain ⟨i, st1, rfl, rfl, hs1⟩ := vs_sI hs
  obtain ⟨st2, rfl, hq, hs2⟩ := vs_sA hs1
  obtain ⟨i0, a, cA, n, f, h1, h2, h3, ⟨t0, h4⟩, h5, h6, h7⟩ := vs_fA hw hq hc.1
  rw [h3]
  have hi : i.toInt.toNat < n := by omega
  exact va_aldq hF.1 hF.2.1 hK hP i0 t0 h2 h4 (vj_index hc.2.1 (by omega)) hd (k V tys ws H locs hP hK hD hS hw hV ls _ hl ⟨h7 _ hi, hs2⟩)
theorem vs_saload (hF : vs_F p s args mm meth c m) (hE : vs_E z b Ls xs adK adV fm s s.heap) (hd : decode (vi_by m) pc = .ok (.iaload, 1)) {i : Int} {q : Nat} (hc : w.1.1 q = 11 ∧ 0 ≤ i ∧ i < w.1.2.1 q) (k : vs_G p l e R s mm args below meth c Q D z b Ls xs adK adV fm m V0 nx0 cells slots (pc + 1) L (.inl (w.2.1 q i.toNat) :: S) w) : vs_G p l e R s mm args below meth c Q D z b Ls xs adK adV fm m V0 nx0 cells slots pc L (.inl i :: .inr (.inr q) :: S) w := by
  intro V tys ws H locs hP hK hD hS hw hV ls st hl hs
  obtain ⟨i, st1, rfl, rfl, hs1⟩ := vs_sI hs
  obtain ⟨st2, rfl, hq, hs2⟩ := vs_sA hs1
  have hq1 : q = 1 := vs_q11 hw hq hc.1
  subst hq1
  obtain ⟨g1, g2, g3, g4⟩ := hw.2.1.2.1
  rw [g1]
  have hi : i.toInt.toNat < Ls := by omega
  exact va_sld hF.1 hF.2.1 hE.2.1 (by have := hE.1; omega) (by have := hE.1; show ¬ z ≤ b; omega) hS (vj_index hc.2.1 (by omega)) hd (k V tys ws H locs hP hK hD hS hw hV ls _ hl ⟨⟨_, rfl, g4 _ hi⟩, hs2⟩)
end VS
