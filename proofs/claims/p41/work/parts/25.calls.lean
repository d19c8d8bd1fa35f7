/-! SOUNDNESS of the small machine, sixth part: switches, returns, calls. PRINTED by wip/whole/gen/ps.py out of wip/whole/src. -/
def vs_or (V : Nat → Value) (nx : Nat) (oc : Outcome) : Option vi_V → Prop
  | none => oc = .returned none
  | some u => ∃ v : Value, oc = .returned (some v) ∧ vs_v V nx v u
/-- a method's end -/
def vs_Q (D : va_G) (z b Ls : Nat) (xs : Nat → Int32) (adK adV : Nat → Nat) (fm : Value) (V0 : Nat → Value) (nx0 : Nat) (r : Option vi_V) (wf : vi_W) : Array Value → State → Outcome → State → Prop := fun _ st oc t =>
  (∃ (V : Nat → Value) (tys : List (ClassId × FieldType)) (ws : va_W), vs_or V wf.2.2.1 oc r ∧ va_P D vi_cls ws t.heap ∧ va_K D vi_cls tys t ∧ va_D (vs_A z) ws ∧ vs_w b Ls xs adK adV fm V tys ws wf ∧ ∀ q, q < nx0 → V q = V0 q) ∧ va_F (vs_A z) st t
def vs_ws (m : Nat) : List Cond := Cond.code (vi_y m) (vi_by m) (vi_mll m) (vi_rty m) :: vi_gw
abbrev vs_rm (d mc ms : Nat) : Room := { frames := d + 1, cells := mc, slots := ms, locals := 64 * (d + 1) }
def vs_P (D : va_G) (z b Ls : Nat) (xs : Nat → Int32) (adK adV : Nat → Nat) (fm : Value) (tys : List (ClassId × FieldType)) (ws : va_W) (vs : List Value) : Array Value → State → Prop := va_Pc vs (fun U => vs_E z b Ls xs adK adV fm U U.heap ∧ va_P D vi_cls ws U.heap ∧ va_K D vi_cls tys U ∧ va_D (vs_A z) ws)
/-- a method's contract, out of its run in the small machine -/
def vs_M (l : Launch) (D : va_G) (z b Ls : Nat) (xs : Nat → Int32) (adK adV : Nat → Nat) (fm : Value) (d m : Nat) (as : List vi_V) (w : vi_W) (r : Option vi_V) (wf : vi_W) : Prop :=
  ∀ (V0 : Nat → Value) (tys : List (ClassId × FieldType)) (ws : va_W) (vs : List Value), vs_s V0 w.2.2.1 vs as → vs_w b Ls xs adK adV fm V0 tys ws w →
    Met l (vi_y m) (vs_ws m) (vs_rm d (wf.2.2.1 - w.2.2.1) (wf.2.2.2 - w.2.2.2)) (vs_P D z b Ls xs adK adV fm tys ws vs) (vs_Q D z b Ls xs adK adV fm V0 w.2.2.1 r wf) (wf.2.2.1 - w.2.2.1) (wf.2.2.2 - w.2.2.2) (vs_A z)
theorem vs_popk {V : Nat → Value} {nx : Nat} : ∀ (k : Nat) {S acc as S' : List vi_V} {st av : List Value}, vi_pop k S acc = some (as, S') → vs_s V nx st S → vs_s V nx av acc → ∃ vs st', st = vs.reverse ++ st' ∧ vs.length = k ∧ vs_s V nx (vs ++ av) as ∧ vs_s V nx st' S'
  | 0, S, acc, as, S', st, av, h, h1, h2 => by
    simp only [vi_pop, Option.some.injEq, Prod.mk.injEq] at h
    obtain ⟨rfl, rfl⟩ := h
    exact ⟨[], st, rfl, rfl, h2, h1⟩
  | k + 1, [], acc, as, S', st, av, h, h1, h2 => by simp [vi_pop] at h
  | k + 1, u :: S, acc, as, S', st, av, h, h1, h2 => by
    obtain ⟨v, st1, rfl, hv, hs⟩ := vs_sU h1
    obtain ⟨vs, st', e1, e2, e3, e4⟩ := vs_popk k (av := v :: av) (show vi_pop k S (u :: acc) = some (as, S') from h) hs ⟨hv, h2⟩
    exact ⟨vs ++ [v], st', by rw [e1]; simp, by simp [e2], by simpa using e3, e4⟩
theorem vs_sum {b Ls : Nat} {xs : Nat → Int32} {adK adV : Nat → Nat} {fm : Value} {V : Nat → Value} {tys : List (ClassId × FieldType)} {ws : va_W} {w : vi_W} (hw : vs_w b Ls xs adK adV fm V tys ws w) : ∀ {st : List Value} {S : List vi_V}, vs_s V w.2.2.1 st S → (st.map fun v => v.category).sum = vi_cats S
  | [], [], _ => rfl
  | _ :: _, _ :: _, h => by
    simp only [List.map_cons, List.sum_cons, vi_cats]
    rw [vs_cat hw h.1, vs_sum hw h.2]
  | [], _ :: _, h => h.elim
  | _ :: _, [], h => h.elim
theorem vs_gw_good : ∀ x ∈ vi_gw, goodWord x = true := fun x h => (List.mem_filter.mp h).2
theorem vs_goodIn {m : Nat} (h : m < 369) (h0 : m ≠ 0) : GoodIn vi_gw (vs_ws m) := by
  intro x hx
  have hm : x ∈ vi_gw := by
    rcases List.mem_cons.mp hx with rfl | h1
    · exact vi_codeW h h0
    · exact h1
  exact ⟨hm, good_of_word (vs_gw_good x hm)⟩
theorem vs_wordsOf {m : Nat} (h : m < 369) (h0 : m ≠ 0) : Cond.initialized (vi_own m) ∈ vi_gw ∧ (if vi_st m then Cond.static (vi_y m) else Cond.instanceMethod (vi_y m)) ∈ vi_gw ∧ (vi_st m = false → (vi_y m).name ≠ "<init>" → Cond.selects (vi_own m) (vi_y m) (vi_y m) ∈ vi_gw) ∧ ((vi_y m).cls ≠ "java/lang/invoke/MethodHandle" ∧ (vi_y m).cls ≠ "java/lang/invoke/VarHandle" ∧ (parseMethodDescriptor (vi_y m).desc).map (fun d => d.parameters.length) = some (vi_na m)) ∧ plainFor (vi_y m) = true := by
  have h1 := vi_words h h0
  unfold vi_ckW at h1
  simp only [Bool.and_eq_true, Bool.or_eq_true, decide_eq_true_eq] at h1
  obtain ⟨g1, g2, g3, g4, g5⟩ := h1
  refine ⟨vi_gw_in g1 rfl, vi_gw_in g2 (by cases vi_st m <;> rfl), fun e1 e2 => ?_, g4, g5⟩
  rcases g3 with g | g
  · rcases g with g | g
    · rw [e1] at g; cases g
    · exact absurd g e2
  · exact vi_gw_in g rfl
section VS
variable {p : Program} {l : Launch} {e : Env} {R : Room} {s : State} {mm : MethodId} {args : Array Value} {below : List Frame} {meth : Method} {c : Code} {Q : State → Prop}
variable {D : va_G} {z b Ls : Nat} {xs : Nat → Int32} {adK adV : Nat → Nat} {fm : Value}
variable {m : Nat} {V0 : Nat → Value} {nx0 : Nat} {cells slots pc : Nat} {L : vi_L} {S : List vi_V} {w : vi_W}
theorem vs_swT (hF : vs_F p s args mm meth c m) {d lo hi : Int} {offs : Array Int} {len a : Nat} {tb : List (Int × Nat)} (hd : decode (vi_by m) pc = .ok (.tableswitch d lo hi offs, len)) (ha : vi_off pc a d = true) (htb : vi_tbT pc lo offs.toList tb = true) (hhi : hi = lo + offs.size - 1) {x : Int} (k : vs_G p l e R s mm args below meth c Q D z b Ls xs adK adV fm m V0 nx0 cells slots (vi_sw x tb a) L S w) : vs_G p l e R s mm args below meth c Q D z b Ls xs adK adV fm m V0 nx0 cells slots pc L (.inl x :: S) w := by
  intro V tys ws H locs hP hK hD hS hw hV ls st hl hs
  obtain ⟨x, st1, rfl, rfl, hs1⟩ := vs_sI hs
  have key : ∀ (os : List Int) (tb : List (Int × Nat)) (lo : Int), vi_tbT pc lo os tb = true → (x.toInt < lo ∨ lo + os.length - 1 < x.toInt → vi_sw x.toInt tb a = a) ∧ (lo ≤ x.toInt → x.toInt ≤ lo + os.length - 1 → ∃ o, os[(x.toInt - lo).toNat]? = some o ∧ (pc : Int) + o = (vi_sw x.toInt tb a : Nat)) := by
    intro os
    induction os with
    | nil =>
      intro tb lo h
      cases tb with
      | nil => exact ⟨fun _ => rfl, fun h1 h2 => by simp at h2; omega⟩
      | cons y tb => simp [vi_tbT] at h
    | cons o os ih =>
      intro tb lo h
      cases tb with
      | nil => simp [vi_tbT] at h
      | cons y tb =>
        obtain ⟨y, t⟩ := y
        simp only [vi_tbT, Bool.and_eq_true, decide_eq_true_eq] at h
        obtain ⟨rfl, h2, h3⟩ := h
        obtain ⟨g1, g2⟩ := ih tb _ h3
        have h2 : (pc : Int) + o = (t : Int) := of_decide_eq_true h2
        simp only [List.length_cons, vi_sw]
        by_cases hx : x.toInt = y
        · rw [if_pos hx]
          refine ⟨fun q => by omega, fun _ _ => ⟨o, by rw [hx, Int.sub_self]; rfl, h2⟩⟩
        · rw [if_neg hx]
          refine ⟨fun q => g1 (by omega), fun q1 q2 => ?_⟩
          obtain ⟨o', e1, e2⟩ := g2 (by omega) (by omega)
          refine ⟨o', ?_, e2⟩
          rw [show (x.toInt - y).toNat = (x.toInt - (y + 1)).toNat + 1 by omega, List.getElem?_cons_succ]
          exact e1
  obtain ⟨g1, g2⟩ := key _ _ _ htb
  have ha : (pc : Int) + d = (a : Int) := of_decide_eq_true ha
  have kk := k V tys ws H locs hP hK hD hS hw hV ls _ hl hs1
  have hsz : offs.toList.length = offs.size := by simp
  by_cases hin : x.toInt < lo ∨ hi < x.toInt
  · rw [g1 (by omega)] at kk
    exact lv_tableOut hF.1 hF.2.1 hd hin ha kk
  · obtain ⟨o, e1, e2⟩ := g2 (by omega) (by omega)
    exact lv_tableIn hF.1 hF.2.1 hd (by omega) (by omega) (by rw [← Array.getElem?_toList]; exact e1) e2 kk
theorem vs_iret (hF : vs_F p s args mm meth c m) (hd : decode (vi_by m) pc = .ok (.ireturn, 1)) {ty : FieldType} (hrt : vi_rty m = some ty) {x : Int} (hn : ∀ i : Int32, i.toInt = x → narrow ty (.int i) = .int i) : vs_G p l e R s mm args below meth c (MQ below (vs_Q D z b Ls xs adK adV fm V0 nx0 (some (.inl x)) w) args s cells slots (vs_A z)) D z b Ls xs adK adV fm m V0 nx0 cells slots pc L [.inl x] w := by
  intro V tys ws H locs hP hK hD hS hw hV ls st hl hs
  obtain ⟨i, st1, rfl, hi, hs1⟩ := vs_sI hs
  obtain rfl := vs_sN hs1
  exact W.zret hF.1 hF.2.1 (hF.2.2.1.trans hrt) (hn i hi) (fun t ht hW => ⟨⟨V, tys, ws, ⟨_, rfl, _, rfl, hi⟩, by rw [ht]; exact hP, va_K.moved hW.alike hK, hD, hw, hV⟩, hS.F ht⟩) hS.2.2 hd hF.2.2.2.1
theorem vs_lret (hF : vs_F p s args mm meth c m) (hd : decode (vi_by m) pc = .ok (.lreturn, 1)) (hrt : vi_rty m = some .long) {x : Int} : vs_G p l e R s mm args below meth c (MQ below (vs_Q D z b Ls xs adK adV fm V0 nx0 (some (.inr (.inl x))) w) args s cells slots (vs_A z)) D z b Ls xs adK adV fm m V0 nx0 cells slots pc L [.inr (.inl x)] w := by
  intro V tys ws H locs hP hK hD hS hw hV ls st hl hs
  obtain ⟨i, st1, rfl, hi, hs1⟩ := vs_sJ hs
  obtain rfl := vs_sN hs1
  exact W.lret hF.1 hF.2.1 (hF.2.2.1.trans hrt) (fun t ht hW => ⟨⟨V, tys, ws, ⟨_, rfl, _, rfl, hi⟩, by rw [ht]; exact hP, va_K.moved hW.alike hK, hD, hw, hV⟩, hS.F ht⟩) hS.2.2 hd hF.2.2.2.1
theorem vs_aret (hF : vs_F p s args mm meth c m) (hd : decode (vi_by m) pc = .ok (.areturn, 1)) {rt : FieldType} (hrt : vi_rty m = some rt) (hty : (∃ n, rt = .object n) ∨ ∃ t, rt = .array t) {q : Nat} : vs_G p l e R s mm args below meth c (MQ below (vs_Q D z b Ls xs adK adV fm V0 nx0 (some (.inr (.inr q))) w) args s cells slots (vs_A z)) D z b Ls xs adK adV fm m V0 nx0 cells slots pc L [.inr (.inr q)] w := by
  intro V tys ws H locs hP hK hD hS hw hV ls st hl hs
  obtain ⟨st1, rfl, hq, hs1⟩ := vs_sA hs
  obtain rfl := vs_sN hs1
  exact W.aret hF.1 hF.2.1 (hF.2.2.1.trans hrt) hty (vs_vref hw hq) (fun t ht hW => ⟨⟨V, tys, ws, ⟨_, rfl, rfl, hq⟩, by rw [ht]; exact hP, va_K.moved hW.alike hK, hD, hw, hV⟩, hS.F ht⟩) hS.2.2 hd hF.2.2.2.1
theorem vs_vret (hF : vs_F p s args mm meth c m) (hd : decode (vi_by m) pc = .ok (.return_, 1)) (hrt : vi_rty m = none) : vs_G p l e R s mm args below meth c (MQ below (vs_Q D z b Ls xs adK adV fm V0 nx0 none w) args s cells slots (vs_A z)) D z b Ls xs adK adV fm m V0 nx0 cells slots pc L [] w := by
  intro V tys ws H locs hP hK hD hS hw hV ls st hl hs
  obtain rfl := vs_sN hs
  exact W.vret hF.1 hF.2.1 (hF.2.2.1.trans hrt) (fun t ht hW => ⟨⟨V, tys, ws, rfl, by rw [ht]; exact hP, va_K.moved hW.alike hK, hD, hw, hV⟩, hS.F ht⟩) hS.2.2 hd hF.2.2.2.1
/-- behind a call -/
theorem vs_back {w' : vi_W} {r : Option vi_V} {a0 : Array Value} {V : Nat → Value} {H : Heap} {locs : List Loc} {ls : Array Slot} {st0 st' : List Value} {mc ms : Nat} (hr : va_Run p l e R s mm args below meth c H locs cells slots mc ms (F0 mm pc ls st0) st' (vs_Q D z b Ls xs adK adV fm V w.2.2.1 r w' a0) (vs_A z))
    (hS : va_S (vs_A z) s.heap H locs) (hx0 : nx0 ≤ w.2.2.1) (hnx : w.2.2.1 ≤ w'.2.2.1) (hV : ∀ q, q < nx0 → V q = V0 q) (hl : vs_l V w.2.2.1 ls (vi_mll m) L) (hs : vs_s V w.2.2.1 st' S) (k : vs_G p l e R s mm args below meth c Q D z b Ls xs adK adV fm m V0 nx0 (cells + mc) (slots + ms) (pc + 3) L (r.toList ++ S) w') : W p l e R s mm args below meth c H locs cells slots Q (F0 mm pc ls st0) := by
  intro T hT X
  obtain ⟨v, st₀, t, T', L1, h0, X', hL, e1, e2, ⟨⟨V', tys', ws', hor, hP', hK', hD', hw', hVx⟩, hz, hk⟩, st⟩ := hr T hT X
  rw [h0] at hz hk
  have hal : s.vm.Alike t.vm := by rw [← e2]; exact X'.warmed.alike
  have hst : vs_s V' w'.2.2.1 (v.toList ++ st') (r.toList ++ S) := by
    have h1 := vs_s_ext hVx hnx hs
    cases r with
    | none =>
      cases (show Outcome.returned v = .returned none from hor)
      exact h1
    | some u =>
      obtain ⟨v1, e, hv⟩ := hor
      cases e
      exact ⟨hv, h1⟩
  obtain ⟨t2, a1, b1⟩ := k V' tys' ws' T'.heap (locs ++ L1) (by rw [e1]; exact hP') (va_K.moved hal.symm hK') hD' ⟨Nat.le_trans hS.1 (by rw [e1]; exact hz), fun q h1 h2 => by rw [e1, hk q (Nat.lt_of_lt_of_le h1 hS.1) h2]; exact hS.2.1 q h1 h2, fun q hq => by
      rcases List.mem_append.mp hq with h | h
      · exact hS.2.2 q h
      · exact hL q h⟩ hw' (fun q hq => (hVx q (by omega)).trans (hV q hq)) ls (v.toList ++ st') (vs_l_ext hVx hnx hl) hst T' rfl X'
  exact ⟨t2, st t2 a1, b1⟩
theorem vs_nwW {x : Cond} (hx : x ∈ vi_nw) {s U : State} (hW : s.WarmedH U.vm) (h : va_Nw x s) : va_Nw x U := by
  have h1 := (List.mem_filter.mp hx).2
  cases x <;> first | exact va_Nw.warmM hW h | cases h1
theorem vs_nwS {x : Cond} (hx : x ∈ vi_nw) {s U : State} (hv : s.vm = U.vm) (h : va_Nw x s) : va_Nw x U := by
  have h1 := (List.mem_filter.mp hx).2
  cases x <;> first | exact va_Nw.same rfl hv h | cases h1
theorem vs_E_warm {U : State} {H : Heap} {locs : List Loc} (hE : vs_E z b Ls xs adK adV fm s s.heap) (hS : va_S (vs_A z) s.heap H locs) (hU : U.heap = H) (hW : s.WarmedH U.vm) : vs_E z b Ls xs adK adV fm U U.heap := by
  obtain ⟨⟨h1, h1', h1''⟩, h2, h3, h4, h5, h6, h7, h8⟩ := hE
  rw [hU]
  exact ⟨⟨Nat.le_trans h1 hS.1, h1', h1''⟩, (h2.kept (hS.2.1 b (by omega) (by show ¬ z ≤ b; omega))).moved hW.alike, (h3.kept hS.2.1).moved hW.alike, (h4.kept hS.2.1).moved hW.alike, (h5.kept hS.2.1).moved hW.alike, fun i x hi => vk_R.warm hW (h6 i x hi), h7.moved hW.alike, fun x hx => vs_nwW hx hW (h8 x hx)⟩
theorem vs_E_same {U T : State} (hh : T.heap = U.heap) (hv : T.vm = U.vm) (hE : vs_E z b Ls xs adK adV fm U U.heap) : vs_E z b Ls xs adK adV fm T T.heap := by
  obtain ⟨h1, h2, h3, h4, h5, h6, h7, h8⟩ := hE
  have ha : U.vm.Alike T.vm := by rw [hv]; exact Vm.Alike.refl _
  rw [hh]
  exact ⟨h1, h2.moved ha, h3.moved ha, h4.moved ha, h5.moved ha, fun i x hi => vk_R.same hv (h6 i x hi), h7.moved ha, fun x hx => vs_nwS hx hv.symm (h8 x hx)⟩
theorem vs_blind {tys : List (ClassId × FieldType)} {ws : va_W} {vs : List Value} : FrameBlind (vs_P D z b Ls xs adK adV fm tys ws vs) := by
  intro a U g mk h
  obtain ⟨h0, h1, h2, h3, h4⟩ := h
  exact ⟨h0, vs_E_same (U := U) (T := U.calling g mk a) rfl rfl h1, h2, va_K.moved (u := U) (U := U.calling g mk a) (Vm.Alike.refl U.vm) h3, h4⟩
theorem vs_callS (hF : vs_F p s args mm meth c m) (hE : vs_E z b Ls xs adK adV fm s s.heap) {i a : Nat} (hd : decode (vi_by m) pc = .ok (.invokestatic i, 3)) (ha : a < 369) (ha0 : a ≠ 0) (hst : vi_st a = true) (hlk : Cond.methodLink (vi_own m) i (vi_y a) ∈ vi_gw) {d : Nat} (hml : vi_mll a ≤ 45) (hfr : d + 1 + 1 ≤ R.frames) (hlo : 64 * (d + 1 + 1) ≤ R.locals) {as S' : List vi_V} {r : Option vi_V} {w' : vi_W} (hp : vi_pop (vi_na a) S [] = some (as, S')) (hcat : vi_cats S' ≤ 8)
    (hM : vs_M l D z b Ls xs adK adV fm d a as w r w') (hx0 : nx0 ≤ w.2.2.1) (hnx : w.2.2.1 ≤ w'.2.2.1) (hce : cells + (w'.2.2.1 - w.2.2.1) ≤ R.cells) (hsl : slots + (w'.2.2.2 - w.2.2.2) ≤ R.slots) (k : vs_G p l e R s mm args below meth c Q D z b Ls xs adK adV fm m V0 nx0 (cells + (w'.2.2.1 - w.2.2.1)) (slots + (w'.2.2.2 - w.2.2.2)) (pc + 3) L (r.toList ++ S') w') : vs_G p l e R s mm args below meth c Q D z b Ls xs adK adV fm m V0 nx0 cells slots pc L S w := by
  intro V tys ws H locs hP hK hD hS hw hV ls st hl hs
  obtain ⟨vs, st', rfl, hlen, hvs, hs'⟩ := vs_popk _ hp hs (av := []) trivial
  rw [List.append_nil] at hvs
  obtain ⟨g1, g2, g3, g4, g5⟩ := vs_wordsOf ha ha0
  rw [hst, if_pos rfl] at g2
  have hts := hF.2.2.2.2.2.2.1
  have hlsz : ls.size = vi_mll m := by obtain ⟨bs, h1, -⟩ := hl; exact h1.1
  refine vs_back (va_runS (As := vs) (rest := st') (n := vi_na a) ⟨hF.1, hF.2.1, hF.2.2.2.2.1, hF.2.2.2.2.2.1, hts⟩ (hM V tys ws vs hvs hw) ⟨callB_of (vi_na a) hts (vs_goodIn ha ha0) rfl rfl rfl (hts _ g1) (hts _ hlk) g4 ⟨hfr, by show 8 + (vi_mll a + 11) + 64 * (d + 1) ≤ R.locals; omega⟩, hts _ g2⟩ ⟨vs_blind, fun U hU hW => ⟨rfl, vs_E_warm hE hS hU hW, by rw [hU]; exact hP, va_K.moved hW.alike hK, hD⟩⟩ rfl hlen hlsz rfl (lv_room (by rw [vs_sum hw hs']; exact hcat)) hd ⟨hce, hsl⟩) hS hx0 hnx hV hl hs' k
theorem vs_callV (hF : vs_F p s args mm meth c m) (hE : vs_E z b Ls xs adK adV fm s s.heap) {i a ct : Nat} (hd : decode (vi_by m) pc = .ok (.invokevirtual i, 3)) (ha : a < 369) (ha0 : a ≠ 0) (hst : vi_st a = false) (hni : (vi_y a).name ≠ "<init>") (hct : if ct = 13 then vi_own a = "java/lang/String" else (vi_cls[ct - 20]?).map (fun q => q.1) = some (vi_own a) ∧ 20 ≤ ct) (hlk : Cond.methodLink (vi_own m) i (vi_y a) ∈ vi_gw) {d : Nat} (hml : vi_mll a ≤ 45) (hfr : d + 1 + 1 ≤ R.frames) (hlo : 64 * (d + 1 + 1) ≤ R.locals) {q0 : Nat} {as S' : List vi_V} {r : Option vi_V} {w' : vi_W} (hp : vi_pop (vi_na a + 1) S [] = some (.inr (.inr q0) :: as, S')) (hq0 : w.1.1 q0 = ct) (hcat : vi_cats S' ≤ 8)
    (hM : vs_M l D z b Ls xs adK adV fm d a (.inr (.inr q0) :: as) w r w') (hx0 : nx0 ≤ w.2.2.1) (hnx : w.2.2.1 ≤ w'.2.2.1) (hce : cells + (w'.2.2.1 - w.2.2.1) ≤ R.cells) (hsl : slots + (w'.2.2.2 - w.2.2.2) ≤ R.slots) (k : vs_G p l e R s mm args below meth c Q D z b Ls xs adK adV fm m V0 nx0 (cells + (w'.2.2.1 - w.2.2.1)) (slots + (w'.2.2.2 - w.2.2.2)) (pc + 3) L (r.toList ++ S') w') : vs_G p l e R s mm args below meth c Q D z b Ls xs adK adV fm m V0 nx0 cells slots pc L S w := by
  intro V tys ws H locs hP hK hD hS hw hV ls st hl hs
  obtain ⟨vs, st', rfl, hlen, hvs, hs'⟩ := vs_popk _ hp hs (av := []) trivial
  rw [List.append_nil] at hvs
  obtain ⟨vs, rfl, hq, hvs2⟩ := vs_sA hvs
  obtain ⟨g1, g2, g3, g4, g5⟩ := vs_wordsOf ha ha0
  rw [hst, if_neg (by decide)] at g2
  have hts := hF.2.2.2.2.2.2.1
  have hlsz : ls.size = vi_mll m := by obtain ⟨bs, h1, -⟩ := hl; exact h1.1
  obtain ⟨b0, hb0, cell, c1, c2, c3⟩ : ∃ b0 : Nat, V q0 = .ref b0 ∧ ∃ cell : Cell, H[b0]? = some cell ∧ cell.vm.isStatics = false ∧ s.vm.findClass (vi_own a) = some cell.cls := by
    by_cases h13 : ct = 13
    · rw [if_pos h13] at hct
      obtain ⟨j, hj, rfl⟩ := vs_q13 hw hq (hq0.trans h13)
      obtain ⟨cell, x1, x2, x3⟩ := vk_recv hE.2.2.1 hj hS
      exact ⟨adK j, (hw.2.1.2.2.1 j hj).1, cell, x1, x2, by rw [hct]; exact x3⟩
    · rw [if_neg h13] at hct
      obtain ⟨i0, a1, fs, r0, e1, e2, e3, e4, -⟩ := vs_fO (ci := ct - 20) hw hq (by omega)
      obtain ⟨cell, x1, x2, x3⟩ := va_recv hK hP e4 e2
      rw [e4] at hct
      exact ⟨a1, e3, cell, x1, x2, by rw [← Option.some.inj hct.1]; exact x3⟩
  rw [hb0] at hvs ⊢
  refine vs_back (va_runV (C := vi_own a) (As := vs) (rest := st') (n := vi_na a) ⟨hF.1, hF.2.1, hF.2.2.2.2.1, hF.2.2.2.2.2.1, hts⟩ (hM V tys ws _ hvs hw) ⟨callB_of (vi_na a) hts (vs_goodIn ha ha0) rfl rfl rfl (hts _ g1) (hts _ hlk) g4 ⟨hfr, by show 8 + (vi_mll a + 11) + 64 * (d + 1) ≤ R.locals; omega⟩, hts _ g2, hts _ (g3 hst hni)⟩ ⟨vs_blind, ⟨cell, c1, c2, c3⟩, fun U hU hW => ⟨rfl, vs_E_warm hE hS hU hW, by rw [hU]; exact hP, va_K.moved hW.alike hK, hD⟩⟩ rfl (by simpa using hlen) hlsz (by simp) (lv_room (by rw [vs_sum hw hs']; exact hcat)) hd ⟨hce, hsl⟩) hS hx0 hnx hV hl hs' k
theorem vs_callI (hF : vs_F p s args mm meth c m) (hE : vs_E z b Ls xs adK adV fm s s.heap) {i a ct : Nat} (hd : decode (vi_by m) pc = .ok (.invokespecial i, 3)) (ha : a < 369) (ha0 : a ≠ 0) (hst : vi_st a = false) (hni : (vi_y a).name = "<init>") (hrt : vi_rty a = none) (hct : 20 ≤ ct) (hlk : Cond.methodLink (vi_own m) i (vi_y a) ∈ vi_gw ∨ Cond.methodLinkNest (vi_own m) i (vi_y a) vi_host ∈ vi_nw) {d : Nat} (hml : vi_mll a ≤ 45) (hfr : d + 1 + 1 ≤ R.frames) (hlo : 64 * (d + 1 + 1) ≤ R.locals) {q0 : Nat} {as S' : List vi_V} {r : Option vi_V} {w' : vi_W} (hp : vi_pop (vi_na a + 1) S [] = some (.inr (.inr q0) :: as, S')) (hq0 : w.1.1 q0 = ct) (hcat : vi_cats S' ≤ 8)
    (hM : vs_M l D z b Ls xs adK adV fm d a (.inr (.inr q0) :: as) w r w') (hx0 : nx0 ≤ w.2.2.1) (hnx : w.2.2.1 ≤ w'.2.2.1) (hce : cells + (w'.2.2.1 - w.2.2.1) ≤ R.cells) (hsl : slots + (w'.2.2.2 - w.2.2.2) ≤ R.slots) (k : vs_G p l e R s mm args below meth c Q D z b Ls xs adK adV fm m V0 nx0 (cells + (w'.2.2.1 - w.2.2.1)) (slots + (w'.2.2.2 - w.2.2.2)) (pc + 3) L (r.toList ++ S') w') : vs_G p l e R s mm args below meth c Q D z b Ls xs adK adV fm m V0 nx0 cells slots pc L S w := by
  intro V tys ws H locs hP hK hD hS hw hV ls st hl hs
  obtain ⟨vs, st', rfl, hlen, hvs, hs'⟩ := vs_popk _ hp hs (av := []) trivial
  rw [List.append_nil] at hvs
  obtain ⟨vs, rfl, hq, hvs2⟩ := vs_sA hvs
  obtain ⟨g1, g2, g3, g4, g5⟩ := vs_wordsOf ha ha0
  rw [hst, if_neg (by decide)] at g2
  have hts := hF.2.2.2.2.2.2.1
  have hlsz : ls.size = vi_mll m := by obtain ⟨bs, h1, -⟩ := hl; exact h1.1
  obtain ⟨i0, a1, fs, r0, e1, e2, e3, e4, -⟩ := vs_fO (ci := ct - 20) hw hq (by omega)
  rw [e3] at hvs ⊢
  have hM' := hM V tys ws _ hvs hw
  have hroom : 8 + (vi_mll a + 11) + 64 * (d + 1) ≤ R.locals := by omega
  rcases hlk with hlk | hlk
  · have cb := callB_of (R := R) (index := i) (own := vi_own m) (rm := vs_rm d (w'.2.2.1 - w.2.2.1) (w'.2.2.2 - w.2.2.2)) (vi_na a) hts (vs_goodIn ha ha0) rfl rfl rfl (hts _ g1) (hts _ hlk) g4 ⟨hfr, hroom⟩
    rw [hrt] at cb
    exact vs_back (va_runI (As := vs) (rest := st') (n := vi_na a) ⟨hF.1, hF.2.1, hF.2.2.2.2.1, hF.2.2.2.2.2.1, hts⟩ hM' ⟨cb, hni, hts _ g2⟩ ⟨vs_blind, fun U hU hW => ⟨rfl, vs_E_warm hE hS hU hW, by rw [hU]; exact hP, va_K.moved hW.alike hK, hD⟩⟩ rfl (by simpa using hlen) hlsz (by simp) (lv_room (by rw [vs_sum hw hs']; exact hcat)) hd ⟨hce, hsl⟩) hS hx0 hnx hV hl hs' k
  · have cn := va_cnB (R := R) (index := i) (own := vi_own m) (host := vi_host) (rm := vs_rm d (w'.2.2.1 - w.2.2.1) (w'.2.2.2 - w.2.2.2)) (vi_na a) hts (vs_goodIn ha ha0) rfl rfl rfl (hE.2.2.2.2.2.2.2 _ hlk) (hts _ g1) g4 ⟨hfr, hroom⟩
    rw [hrt] at cn
    exact vs_back (va_runIN (As := vs) (rest := st') (n := vi_na a) ⟨hF.1, hF.2.1, hF.2.2.2.2.1, hF.2.2.2.2.2.1, hts⟩ hM' ⟨cn, hni, hts _ g2⟩ ⟨vs_blind, fun U hU hW => ⟨rfl, vs_E_warm hE hS hU hW, by rw [hU]; exact hP, va_K.moved hW.alike hK, hD⟩⟩ rfl (by simpa using hlen) hlsz (by simp) (lv_room (by rw [vs_sum hw hs']; exact hcat)) hd ⟨hce, hsl⟩) hS hx0 hnx hV hl hs' k
theorem vs_obj (hF : vs_F p s args mm meth c m) (hlc : Cond.code objectInit ⟨#[0xb1]⟩ 1 none ∈ vi_gw) (hli : Cond.instanceMethod objectInit ∈ vi_gw) {i : Nat} (hd : decode (vi_by m) pc = .ok (.invokespecial i, 3)) (hlk : Cond.methodLink (vi_own m) i objectInit ∈ vi_gw) (hfr : 1 ≤ R.frames) (hlo : 20 ≤ R.locals) {q : Nat} (hq0 : q ≠ 0 ∧ w.1.1 q ≠ 0) (hcat : vi_cats S ≤ 8) (k : vs_G p l e R s mm args below meth c Q D z b Ls xs adK adV fm m V0 nx0 cells slots (pc + 3) L S w) : vs_G p l e R s mm args below meth c Q D z b Ls xs adK adV fm m V0 nx0 cells slots pc L (.inr (.inr q) :: S) w := by
  intro V tys ws H locs hP hK hD hS hw hV ls st hl hs
  obtain ⟨st9, rfl, hq, hs9⟩ := vs_sA hs
  have hts := hF.2.2.2.2.2.2.1
  have hlsz : ls.size = vi_mll m := by obtain ⟨bs, h1, -⟩ := hl; exact h1.1
  rcases vs_vref hw hq with h | ⟨y, h⟩
  · refine absurd ((vs_vnull hw hq (fun h28 => hq0.2 ?_)).mp h) hq0.1
    rw [h28]
    exact hw.2.1.2.2.2.2.2.1
  · rw [h]
    have hc8 := vs_sum hw hs9
    exact W.objInit hF.1 hF.2.1 hF.2.2.2.2.2.1 (hts _ hlk) (hts _ hli) (hts _ hlc) rfl (hlsz.trans hF.2.2.2.2.1.symm) rfl hd hfr (by have := lv_room (m := mm) (pc := pc) (ls := ls) (rest := .ref y :: st9) (st := st9) (by rw [hc8]; exact hcat); omega) (k V tys ws H locs hP hK hD hS hw hV ls _ hl hs9)
theorem vs_aastore (hF : vs_F p s args mm meth c m) (hd : decode (vi_by m) pc = .ok (.aastore, 1)) {i : Int} {r0 q : Nat} (hc : w.1.1 q = 7 ∧ 0 ≤ i ∧ i < (w.1.2.1 q : Int) ∧ (r0 = 0 ∨ w.1.1 r0 = 23)) (k : vs_G p l e R s mm args below meth c Q D z b Ls xs adK adV fm m V0 nx0 cells slots (pc + 1) L S (w.1, vi_ms w.2.1 q i.toNat ((r0 : Nat) : Int), w.2.2)) : vs_G p l e R s mm args below meth c Q D z b Ls xs adK adV fm m V0 nx0 cells slots pc L (.inr (.inr r0) :: .inl i :: .inr (.inr q) :: S) w := by
  intro V tys ws H locs hP hK hD hS hw hV ls st hl hs
  obtain ⟨st1, rfl, hr, hs1⟩ := vs_sA hs
  obtain ⟨i, st2, rfl, rfl, hs2⟩ := vs_sI hs1
  obtain ⟨st3, rfl, hq, hs3⟩ := vs_sA hs2
  obtain ⟨i0, a, cA, n, f, h1, h2, h3, ⟨t0, h4⟩, h5, h6, h7⟩ := vs_fA hw hq hc.1
  rw [h3]
  subst h1
  have hup : ∀ (v : Option Nat), va_rf v = V r0 → ∀ j, j < n → vs_v V w.2.2.1 (va_rf (va_up f i.toInt.toNat v j)) (.inr (.inr (vi_ms w.2.1 (29 + i0) i.toInt.toNat ((r0 : Nat) : Int) (29 + i0) j).toNat)) := by
    intro v hv j hj
    by_cases hji : j = i.toInt.toNat
    · subst hji
      rw [va_up_self]
      simp only [vi_ms, and_self, if_true, Int.toNat_natCast]
      exact ⟨hv, hr⟩
    · rw [va_up_ne f v hji]
      simp only [vi_ms, hji, and_false, if_false]
      exact h7 j hj
  rcases hc.2.2.2 with rfl | h23
  · rw [hw.2.1.1.1]
    exact va_astqN hF.1 hF.2.1 hK hP hD hS i0 t0 h2 h4 (vj_index hc.2.1 (by omega)) hd (fun H1 locs1 hP hD hS => k V tys _ H1 locs1 hP hK hD hS (vs_w_set hw h2 (vs_ms_at) rfl ⟨hc.1, ⟨t0, h4⟩, h5, h6, hup none hw.2.1.1.1.symm⟩) hV ls _ hl hs3)
  · obtain ⟨i1, a1, fs, r1, g1, g2, g3, g4, -⟩ := vs_fO (ci := 3) hw hr h23
    rw [g3]
    have hr1 : r1.1 = "CheeseCube$Law" := by
      have : vi_cls[3]? = some ("CheeseCube$Law", vi_T3, 7) := rfl
      rw [this] at g4
      cases g4
      rfl
    exact va_astq hF.1 hF.2.1 hK hP hD hS i0 t0 i1 3 h2 (by rw [hr1]; exact h4) g2 g4 (vj_index hc.2.1 (by omega)) hd (fun H1 locs1 hP hD hS => k V tys _ H1 locs1 hP hK hD hS (vs_w_set hw h2 (vs_ms_at) rfl ⟨hc.1, ⟨t0, h4⟩, h5, h6, hup (some a1) g3.symm⟩) hV ls _ hl hs3)
end VS
theorem vi_ld_rep : ∀ (n k : Nat), vi_ld (List.replicate n none) k = none
  | 0, k => rfl
  | n + 1, 0 => rfl
  | n + 1, k + 1 => by
    rw [List.replicate_succ]
    exact vi_ld_rep n k
theorem vs_en {V : Nat → Value} {nx : Nat} (hr : ∀ q, q < nx → (V q).category = 1) : ∀ {as : List vi_V} {vs : List Value} {n i k : Nat} {u : vi_V}, vs_s V nx vs as → vi_ld (vi_en as n) k = some u → ∃ v, (i + k, v) ∈ lv_args i vs ∧ vs_v V nx v u
  | [], [], n, i, k, u, h, hk => by rw [vi_en, vi_ld_rep] at hk; cases hk
  | [], _ :: _, n, i, k, u, h, hk => h.elim
  | _ :: _, [], n, i, k, u, h, hk => h.elim
  | .inl x :: as, v :: vs, n, i, k, u, h, hk => by
    obtain ⟨⟨y, rfl, hy⟩, h2⟩ := h
    cases k with
    | zero => simp only [vi_en, vi_ld, Option.some.injEq] at hk; subst hk; exact ⟨_, List.mem_cons_self, ⟨y, rfl, hy⟩⟩
    | succ k =>
      obtain ⟨v1, h3, h4⟩ := vs_en hr (i := i + 1) h2 (show vi_ld (vi_en as (n - 1)) k = some u from hk)
      refine ⟨v1, ?_, h4⟩
      rw [show i + (k + 1) = i + 1 + k by omega]
      exact List.mem_cons_of_mem _ h3
  | .inr (.inl x) :: as, v :: vs, n, i, k, u, h, hk => by
    obtain ⟨⟨y, rfl, hy⟩, h2⟩ := h
    match k, hk with
    | 0, hk => simp only [vi_en, vi_ld, Option.some.injEq] at hk; subst hk; exact ⟨_, List.mem_cons_self, ⟨y, rfl, hy⟩⟩
    | 1, hk => simp [vi_en, vi_ld] at hk
    | k + 2, hk =>
      obtain ⟨v1, h3, h4⟩ := vs_en hr (i := i + 2) h2 (show vi_ld (vi_en as (n - 2)) k = some u from hk)
      refine ⟨v1, ?_, h4⟩
      rw [show i + (k + 2) = i + 2 + k by omega]
      exact List.mem_cons_of_mem _ h3
  | .inr (.inr q) :: as, v :: vs, n, i, k, u, h, hk => by
    obtain ⟨⟨rfl, hq⟩, h2⟩ := h
    cases k with
    | zero => simp only [vi_en, vi_ld, Option.some.injEq] at hk; subst hk; exact ⟨_, List.mem_cons_self, ⟨rfl, hq⟩⟩
    | succ k =>
      obtain ⟨v1, h3, h4⟩ := vs_en hr (i := i + 1) h2 (show vi_ld (vi_en as (n - 1)) k = some u from hk)
      refine ⟨v1, ?_, h4⟩
      rw [show i + (k + 1) = i + 1 + k by omega]
      refine List.mem_cons_of_mem _ ?_
      rw [hr q hq]
      exact h3
theorem vs_lgl {V : Nat → Value} {nx : Nat} (hr : ∀ q, q < nx → (V q).category = 1) : ∀ {vs : List Value} {as : List vi_V}, vs_s V nx vs as → (lg_sl vs).length = vi_cats as
  | [], [], _ => rfl
  | v :: vs, u :: as, h => by
    have h1 := vs_lgl hr h.2
    have hc : v.category = vi_cat u := by
      rcases u with x | x | q
      · obtain ⟨⟨y, rfl, -⟩, -⟩ := h; rfl
      · obtain ⟨⟨y, rfl, -⟩, -⟩ := h; rfl
      · obtain ⟨⟨rfl, hq⟩, -⟩ := h; exact hr q hq
    have h2 : (lg_sl (v :: vs)).length = v.category + (lg_sl vs).length := by
      unfold lg_sl
      rw [List.flatMap_cons, List.length_append]
      rcases lv_cat v with h | h <;> simp [h]
    rw [h2, h1, hc]
    rfl
  | [], _ :: _, h => h.elim
  | _ :: _, [], h => h.elim
