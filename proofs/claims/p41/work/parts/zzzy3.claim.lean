def frY (L : Nat) : vi_Y := (fun p => if p = 1 then 11 else if 2 ≤ p ∧ p < 15 then 13 else if 15 ≤ p ∧ p < 28 then 12 else 0, fun p => if p = 1 then L else if 15 ≤ p ∧ p < 28 then vi_sln.getD (p - 15) 0 else 0, fun p k => if (2 ≤ p ∧ p < 15) ∧ k = 0 then ((p + 13 : Nat) : Int) else 0)
def frM (xs : Nat → Int32) : vi_M := fun p j => if p = 1 then (xs j).toInt else if 15 ≤ p ∧ p < 28 then ((vi_byt.getD (p - 15) []).getD j 0).toInt else 0
def frV (b : Nat) (adK adV : Nat → Nat) (fm : Value) : Nat → Value := fun p => if p = 1 then .ref b else if 2 ≤ p ∧ p < 15 then .ref (adK (p - 2)) else if 15 ≤ p ∧ p < 28 then .ref (adV (p - 15)) else if p = 28 then fm else .null
theorem fr_len : ∀ i, i < 13 → (wL (wI i)).length = vi_sln.getD i 0 := by decide +kernel
theorem fr_byt : ∀ i, i < 13 → ∀ j, j < 6 → j < vi_sln.getD i 0 → ((vi_byt.getD i []).getD j 0).toInt = (wL (wI i)).getD j 0 := by decide +kernel
theorem fr_six : ∀ i, i < 13 → vi_sln.getD i 0 ≤ 6 := by decide +kernel
theorem fr_S {L : Nat} {xs : Nat → Int32} : kS (frY L) (frM xs) := fun i hi => by
  have h6 := fr_six i hi
  refine ⟨?_, ?_, ?_, ?_, ?_, fun j hj => ?_⟩
  · show (if 2 + i = 1 then 11 else if 2 ≤ 2 + i ∧ 2 + i < 15 then 13 else if 15 ≤ 2 + i ∧ 2 + i < 28 then 12 else 0) = 13
    rw [if_neg (by omega), if_pos (by omega)]
  · show ((if (2 ≤ 2 + i ∧ 2 + i < 15) ∧ 0 = 0 then ((2 + i + 13 : Nat) : Int) else 0) : Int).toNat = 15 + i
    rw [if_pos ⟨by omega, rfl⟩, Int.toNat_natCast]; omega
  · show (if (2 ≤ 2 + i ∧ 2 + i < 15) ∧ 1 = 0 then ((2 + i + 13 : Nat) : Int) else 0) = 0
    rw [if_neg (fun h => by cases h.2)]
  · show (if 15 + i = 1 then 11 else if 2 ≤ 15 + i ∧ 15 + i < 15 then 13 else if 15 ≤ 15 + i ∧ 15 + i < 28 then 12 else 0) = 12
    rw [if_neg (by omega), if_neg (by omega), if_pos (by omega)]
  · show (((if 15 + i = 1 then L else if 15 ≤ 15 + i ∧ 15 + i < 28 then vi_sln.getD (15 + i - 15) 0 else 0 : Nat)) : Int) = _
    rw [if_neg (by omega), if_pos (by omega), show 15 + i - 15 = i by omega, fr_len i hi]
  · rw [fr_len i hi] at hj
    show (if 15 + i = 1 then (xs j).toInt else if 15 ≤ 15 + i ∧ 15 + i < 28 then ((vi_byt.getD (15 + i - 15) []).getD j 0).toInt else 0) = _
    rw [if_neg (by omega), if_pos (by omega), show 15 + i - 15 = i by omega]
    exact fr_byt i hi j (by omega) hj
theorem fr_pre {b L : Nat} {xs : Nat → Int32} {adK adV : Nat → Nat} {fm : Value} (hfm : fm = .null ∨ ∃ t : Nat, fm = .ref t) : vs_pre b L xs adK adV fm (frV b adK adV fm) (frY L, frM xs, 29, 0) := by
  refine ⟨⟨rfl, rfl⟩, ⟨rfl, rfl, rfl, fun j _ => rfl⟩, fun i hi => ⟨?_, ?_, ?_, ?_⟩, fun i hi => ⟨?_, ?_, ?_, fun j hj => ?_⟩, rfl, rfl, hfm⟩
  · show (if 2 + i = 1 then Value.ref b else if 2 ≤ 2 + i ∧ 2 + i < 15 then .ref (adK (2 + i - 2)) else _) = _
    rw [if_neg (by omega), if_pos (by omega), show 2 + i - 2 = i by omega]
  · exact (fr_S (L := L) (xs := xs) i hi).1
  · show (if (2 ≤ 2 + i ∧ 2 + i < 15) ∧ 0 = 0 then ((2 + i + 13 : Nat) : Int) else 0) = _
    rw [if_pos ⟨by omega, rfl⟩]; omega
  · exact (fr_S (L := L) (xs := xs) i hi).2.2.1
  · show (if 15 + i = 1 then Value.ref b else if 2 ≤ 15 + i ∧ 15 + i < 15 then .ref (adK (15 + i - 2)) else if 15 ≤ 15 + i ∧ 15 + i < 28 then .ref (adV (15 + i - 15)) else _) = _
    rw [if_neg (by omega), if_neg (by omega), if_pos (by omega), show 15 + i - 15 = i by omega]
  · exact (fr_S (L := L) (xs := xs) i hi).2.2.2.1
  · show (if 15 + i = 1 then L else if 15 ≤ 15 + i ∧ 15 + i < 28 then vi_sln.getD (15 + i - 15) 0 else 0 : Nat) = _
    rw [if_neg (by omega), if_pos (by omega), show 15 + i - 15 = i by omega]
  · show _ = (if 15 + i = 1 then (xs j).toInt else if 15 ≤ 15 + i ∧ 15 + i < 28 then ((vi_byt.getD (15 + i - 15) []).getD j 0).toInt else 0)
    rw [if_neg (by omega), if_pos (by omega), show 15 + i - 15 = i by omega]
/-! THE CLAIM OUT OF ONE WALK OF THE LAW'S BODY. Your part is whole_start (and what it stands on); all else here is the same for every law, but numbers. -/
def R_law : String := "CheeseCubeLaw"
def lw_P (b : Addr) (xs : List Int32) (args : Array Value) (s : State) : Prop := args = #[.ref b] ∧ s.IntsAt b xs ∧ xs.length ≤ 260 ∧ (Jvm.Cond.and given_1 narrow_1).before args s = true
def lw_Q (_ : Array Value) (s : State) (o : Outcome) (t : State) : Prop := o = .returned (some (.int 1)) ∧ Framed s o t [] 600000 7302250
def lw_Z (below : List Frame) (a : Array Value) (s : State) : State → Prop := fun t => ∃ o, t.status = .running ∧ Ended t below o ∧ lw_Q a s o t
/-- the law's own end, with 1 on the stack, nothing written that was there before, its room as the claim has it -/
theorem lw_ret {p : Program} {l : Launch} {e : Env} {s : State} {m : MethodId} {below : List Frame} {meth : Method} {c : Code} {b : Nat} (hx : p.tables.exec = Jvm.exec) (hb : c.code = code) (hr : meth.sig.returnType = ret) (hlocks : meth.locks = false) {pc : Nat} {H : Heap} {ls : Array Slot} (hdg : decode code pc = .ok (.ireturn, 1)) : W p l e room_1 s m #[Value.ref b] below meth c H [] 600000 7302250 (lw_Z below #[Value.ref b] s) (F0 m pc ls [.int 1]) := by
  intro T hT X
  obtain ⟨fs, hret, hrun, hended, hW, hframe⟩ := X.leave (v := some (.int 1)) (hlocks := hlocks) (fun h => by rw [hr] at h; cases h)
  have hmeth' : T.vm.method? m = some meth := X.method'
  refine ⟨T.setFrames fs, ?_, .returned (some (.int 1)), hrun, hended, rfl, ⟨_, rfl⟩, hW, hframe⟩
  jvm_step X.here [X.here.top, hx, hb, hdg, hmeth', hr, ret, narrow_b1]
  (try refine ⟨rfl, ?_⟩); (try refine ⟨rfl, ?_⟩)
  first | (intro acts; rw [hret _ acts rfl rfl rfl]) | rw [hret _ _ rfl rfl rfl]
  exact Steps.refl _
/-- what holds at the law's entry: the machine, the code, the tables' words (any of lw_tbl by 'hts w (by decide +kernel)'), the script of L ints xs at the cell b, what the Statement gives of the start (any of its parts by flat_of_before) -/
def lw_At (p : Program) (s : State) (m : MethodId) (meth : Method) (c : Code) (b L : Nat) (xs : Nat → Int32) : Prop :=
  p.tables.exec = Jvm.exec ∧ c.code = code ∧ meth.sig.returnType = ret ∧ c.maxLocals = 26 ∧ s.vm.findClass R_law = some m.cls ∧ (∀ w ∈ lw_tbl, w.before #[Value.ref b] s = true) ∧ va_X b L xs s s.heap ∧ b < s.heap.size ∧ meth.locks = false ∧ (Jvm.Cond.and given_1 narrow_1).before #[Value.ref b] s = true
set_option maxHeartbeats 4000000 in
theorem whole_start {p : Program} {e : Env} {s : State} {m : MethodId} {below : List Frame} {meth : Method} {c : Code} (l : Launch) (hnm : meth.name = x.name) {b L : Nat} {xs : Nat → Int32} (hL : L ≤ 260) (C0 : lw_At p s m meth c b L xs) : W p l e room_1 s m #[Value.ref b] below meth c s.heap [] 0 0 (lw_Z below #[Value.ref b] s) (entryFrame m ([Value.ref b] : List Value).toArray 26) := by
  obtain ⟨hx, hb, hr, hml, hown, hts, hX, hbl, hlocks, hgv⟩ := id C0
  have hs : ∀ c ∈ flatC firC, c.before #[Value.ref b] s = true := flat_of_before _ hgv
  have hA : ∀ a : Nat, a < s.heap.size → ¬ vs_A s.heap.size a := fun a h => Nat.not_le.mpr h
  have at13 : ∀ {f : Nat → Bool}, (List.range 13).all f = true → ∀ i, i < 13 → f i = true := fun h i hi => List.all_eq_true.mp h i (List.mem_range.mpr hi)
  obtain ⟨adK, adV, hS, hSt⟩ := vk_Sof (N := 13) (tm := strT) (len := vi_sln) (byt := vi_byt) (A := vs_A s.heap.size) (s := s) (args := #[Value.ref b])
    (fun i hi => by have := fr_six i hi; omega)
    (fun i hi => hs _ (of_decide_eq_true (at13 f_ex i hi)))
    (fun i hi => hs _ (of_decide_eq_true (at13 f_co i hi)))
    (fun i hi => hs _ (of_decide_eq_true (at13 f_ar i hi)))
    (fun i hi => hs _ (of_decide_eq_true (at13 f_le i hi)))
    (fun i hi j hj => hs _ (of_decide_eq_true (List.all_eq_true.mp (at13 f_el i hi) j (List.mem_range.mpr hj))))
    (fun i j hi hj hne => by
      have h := at13 (at13 f_ne i hi) j hj
      rw [decide_eq_false hne, Bool.false_or, Bool.or_eq_true, decide_eq_true_eq, decide_eq_true_eq] at h
      rcases h with h | h
      · exact .inl (hs _ h)
      · exact .inr (hs _ h))
    hA
  obtain ⟨fm, hfm, hfm2⟩ : ∃ fm, va_Z "jdk/internal/util/Preconditions" "SIOOBE_FORMATTER" "Ljava/util/function/BiFunction;" fm (vs_A s.heap.size) s s.heap ∧ (fm = .null ∨ ∃ t : Nat, fm = .ref t) := by
    rcases va_Zqof (hts _ t_si1) (hts _ t_si2) (hs _ f_si) hA with h | ⟨t, h⟩
    · exact ⟨_, h, .inl rfl⟩
    · exact ⟨_, h, .inr ⟨t, rfl⟩⟩
  have hex : ∀ k : Nat, ∃ d : ClassId × (Nat → Nat), ∀ q, vi_cls[k]? = some q → u_Kn s q.1 q.2.1 q.2.2 d.1 d.2 := fun k => by
    cases hq : vi_cls[k]? with
    | none => exact ⟨(m.cls, fun _ => 0), fun q h => by cases h⟩
    | some q =>
      obtain ⟨C, T, N⟩ := q
      obtain ⟨q1, -, -, q4, -, -⟩ := vs_cls hq
      obtain ⟨cC, iS, h⟩ := u_known (ws := lw_tbl) hts (fun w hw => (List.mem_filter.mp (q1 w hw)).1) (hts _ (List.mem_filter.mp q4).1)
      exact ⟨(cC, iS), fun q hq' => by cases hq'; exact h⟩
  obtain ⟨dd, hdd⟩ := Classical.axiomOfChoice hex
  have hK : va_K (fun k => (dd k).1, fun k => (dd k).2) vi_cls [] s := ⟨fun k q h => hdd k q h, fun k q h => by simp at h⟩
  have hP : va_P (fun k => (dd k).1, fun k => (dd k).2) vi_cls [] s.heap := fun k q h => by simp at h
  have hD : va_D (vs_A s.heap.size) [] := ⟨fun i j p q h => by simp at h, fun k q h => by simp at h⟩
  have hE : vs_E s.heap.size b L xs adK adV fm s s.heap := by
    refine ⟨⟨Nat.le_refl _, hbl, by omega⟩, hX, hS, va_Zof (hts _ t_cs1) (hts _ t_cs2) (va_eqt (hs _ f_cs)) hA, hfm, fun i y hi => ?_, va_AO.of (hts _ t_ao), fun w hw => ?_⟩
    · have hlt : i < 13 := by
        have := (List.getElem?_eq_some_iff.mp hi).1
        rw [t_13] at this
        exact this
      have hg : vi_strs.getD i ("", 0, "") = y := by rw [List.getD_eq_getElem?_getD, hi]; rfl
      have h1 := hts _ (of_decide_eq_true (at13 t_st i hlt))
      have h2 := hSt i hlt
      unfold strT at h2
      rw [hg] at h1 h2
      exact vk_R.of h1 h2
    · obtain ⟨w1, w2⟩ := List.mem_filter.mp hw
      refine va_Nw.of ?_ (hts w w1)
      cases w <;> first | rfl | cases w2
  have hF : vs_F p s #[Value.ref b] m meth c 0 := ⟨hx, hb, hr, hlocks, hml, hown, fun w hw => hts w (List.mem_filter.mp hw).1, hnm⟩
  obtain ⟨f, wf, hrun, hn1, hn2⟩ := law_run (sc := frM xs 1) (ln := L) (Y := frY L) (M := frM xs) ⟨rfl, rfl, rfl⟩ fr_S
  have H := vs_main (l := l) (D := (fun k => (dd k).1, fun k => (dd k).2)) (z := s.heap.size) (b := b) (Ls := L) (xs := xs) (adK := adK) (adV := adV) (fm := fm) f 100 0 0 _ _ _ _ _ hrun
  obtain ⟨m1, m2, HH⟩ := H
  have m1 : 29 ≤ wf.2.2.1 := m1
  have k := HH p e room_1 s m #[Value.ref b] below meth c (frV b adK adV fm) 29 (600000 - (wf.2.2.1 - 29)) (7302250 - (wf.2.2.2 - 0)) hF hE (Nat.le_refl _) (Nat.le_of_ble_eq_true rfl) (Nat.le_of_ble_eq_true rfl) (by show 600000 - (wf.2.2.1 - 29) + (wf.2.2.1 - 29) ≤ 600000; omega) (by show 7302250 - (wf.2.2.2 - 0) + (wf.2.2.2 - 0) ≤ 7302250; omega)
  have hw : vs_w b L xs adK adV fm (frV b adK adV fm) [] [] (frY L, frM xs, 29, 0) := ⟨rfl, fr_pre hfm2, fun i a e h => by simp at h⟩
  rw [lg_entry_eq]
  refine W.widen (k := 600000 - (wf.2.2.1 - 29)) (n := 7302250 - (wf.2.2.2 - 0)) (Nat.zero_le _) (Nat.zero_le _) ?_
  have kk := k (frV b adK adV fm) [] [] s.heap [] hP hK hD va_S.rf hw (fun _ _ => rfl) _ [] ⟨_, lv_entry [Value.ref b] (n := 26) (Nat.le_of_ble_eq_true rfl), fun k0 u hk => by
    match k0, hk with
    | 0, hk => cases hk; exact ⟨.ref b, List.mem_cons_self, rfl, by show 1 < 29; omega⟩
    | 1, hk => cases hk
    | 2, hk => cases hk
    | 3, hk => cases hk
    | 4, hk => cases hk
    | 5, hk => cases hk
    | 6, hk => cases hk
    | 7, hk => cases hk
    | 8, hk => cases hk
    | 9, hk => cases hk
    | 10, hk => cases hk
    | 11, hk => cases hk
    | 12, hk => cases hk
    | 13, hk => cases hk
    | 14, hk => cases hk
    | 15, hk => cases hk
    | 16, hk => cases hk
    | 17, hk => cases hk
    | 18, hk => cases hk
    | 19, hk => cases hk
    | 20, hk => cases hk
    | 21, hk => cases hk
    | 22, hk => cases hk
    | 23, hk => cases hk
    | 24, hk => cases hk
    | 25, hk => cases hk
    | k0 + 26, hk => cases hk⟩ trivial
  intro T hT X
  obtain ⟨t, a1, o, b1, b2, b3, Lc, b4, b5⟩ := kk T hT X
  refine ⟨t, a1, o, b1, b2, ?_⟩
  obtain ⟨⟨V, tys, ws, ⟨v, hv1, i, hv2, hv3⟩, -⟩, -⟩ := b3
  refine ⟨?_, ?_⟩
  · rw [hv1, hv2, Int32.toInt_inj.mp (show i.toInt = (1 : Int32).toInt from hv3)]
  · have e1 : 600000 - (wf.2.2.1 - 29) + (wf.2.2.1 - 29) = 600000 := by omega
    have e2 : 7302250 - (wf.2.2.2 - 0) + (wf.2.2.2 - 0) = 7302250 := by omega
    obtain ⟨c1, c2, c3⟩ := b4
    refine ⟨c1, c2, ?_⟩
    have c4 := State.sameButNew.drop_fresh (L := []) (J := Lc) c3 b5
    refine State.sameButNew.mono c4 ?_ ?_
    · exact Nat.le_of_eq e1
    · exact Nat.le_of_eq e2
