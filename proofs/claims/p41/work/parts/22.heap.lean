/-! SOUNDNESS of the small machine, third part: stores, fields, new objects, texts. PRINTED by wip/whole/gen/ps.py out of wip/whole/src. -/
theorem vj_nz (x : Int32) : (x &&& 1).toInt = x.toInt % 2 := by
  rw [pk_and x 1 (by decide), nI_toInt (by omega)]
  have h := vj_un x
  omega
theorem vj_nzar (x : Int32) : (vp_nar .boolean x).toInt = vi_nar 4 x.toInt := vj_nz x
theorem vj_ncar (x : Int32) : (vp_nar .char x).toInt = vi_nar 5 x.toInt := by
  have h := vi_i2c x.toInt
  rw [vj_i] at h
  have e : x.toUInt32.toUInt16.toUInt32 = x.toUInt32 % 65536 := UInt32.toNat_inj.mp (by rw [UInt16.toNat_toUInt32, UInt32.toNat_toUInt16, UInt32.toNat_mod]; rfl)
  have h2 : vp_nar .char x = Int32.ofInt (vi_nar 5 x.toInt) := by
    show x.toUInt32.toUInt16.toUInt32.toInt32 = _
    rw [e]; exact h
  rw [h2, vi_ti]
  show vi_in32 (x.toInt % 65536)
  unfold vi_in32
  omega
theorem vj_nbar (x : Int32) : (vp_nar .byte x).toInt = vi_nar 3 x.toInt := vj_i2b x
theorem vs_upd {f : Nat → Int32} {k n : Nat} {x : Int32} {M : vi_M} {q : Nat} {v : Int} (h : ∀ j, j < n → (f j).toInt = M q j) (hx : x.toInt = v) : ∀ j, j < n → (upd f k x j).toInt = vi_ms M q k v q j := by
  intro j hj
  by_cases hjk : j = k
  · subst hjk
    simp [upd, vi_ms, hx]
  · simp [upd, vi_ms, hjk, h j hj]
theorem vs_updL {f : Nat → Int64} {k n : Nat} {x : Int64} {M : vi_M} {q : Nat} (h : ∀ j, j < n → (f j).toInt = M q j) : ∀ j, j < n → (vp_updL f k x j).toInt = vi_ms M q k x.toInt q j := by
  intro j hj
  by_cases hjk : j = k
  · subst hjk
    simp [vp_updL, vi_ms]
  · simp [vp_updL, vi_ms, hjk, h j hj]
theorem vs_sln_lt : ∀ i, i < 13 → vi_sln.getD i 0 < 2147483648 := by decide +kernel
theorem vs_q12 {b Ls : Nat} {xs : Nat → Int32} {adK adV : Nat → Nat} {fm : Value} {V : Nat → Value} {tys : List (ClassId × FieldType)} {ws : va_W} {w : vi_W} (hw : vs_w b Ls xs adK adV fm V tys ws w) {q : Nat} (hq : q < w.2.2.1) (h : w.1.1 q = 12) : ∃ i, i < 13 ∧ q = 15 + i := by
  by_cases c9 : 29 ≤ q
  · exact absurd h (vs_tag hw hq c9).2.2.1
  obtain ⟨h1, ⟨h2, h3, h4, h5, h6⟩, h7⟩ := hw
  by_cases c0 : q = 0
  · subst c0; rw [h2.2] at h; cases h
  by_cases c1 : q = 1
  · subst c1; rw [h3.2.1] at h; cases h
  by_cases c2 : q < 15
  · have := (h4 (q - 2) (by omega)).2.1
    rw [show 2 + (q - 2) = q by omega] at this
    omega
  by_cases c3 : q < 28
  · exact ⟨q - 15, by omega, by omega⟩
  · have : q = 28 := by omega
    subst this
    rw [h6.2.1] at h
    cases h
theorem vs_q13 {b Ls : Nat} {xs : Nat → Int32} {adK adV : Nat → Nat} {fm : Value} {V : Nat → Value} {tys : List (ClassId × FieldType)} {ws : va_W} {w : vi_W} (hw : vs_w b Ls xs adK adV fm V tys ws w) {q : Nat} (hq : q < w.2.2.1) (h : w.1.1 q = 13) : ∃ i, i < 13 ∧ q = 2 + i := by
  by_cases c9 : 29 ≤ q
  · exact absurd h (vs_tag hw hq c9).2.2.2
  obtain ⟨h1, ⟨h2, h3, h4, h5, h6⟩, h7⟩ := hw
  by_cases c0 : q = 0
  · subst c0; rw [h2.2] at h; cases h
  by_cases c1 : q = 1
  · subst c1; rw [h3.2.1] at h; cases h
  by_cases c2 : q < 15
  · exact ⟨q - 2, by omega, by omega⟩
  by_cases c3 : q < 28
  · have := (h5 (q - 15) (by omega)).2.1
    rw [show 15 + (q - 15) = q by omega] at this
    omega
  · have : q = 28 := by omega
    subst this
    rw [h6.2.1] at h
    cases h
/-- what the check says of a field -/
theorem vs_ckF {o : String} {i a k c : Nat} {bb : Int} (h : vi_ckF o i a k c bb = true) : ∃ (ci : Nat) (C : String) (T : u_T) (N : Nat), a = 20 + ci ∧ vi_cls[ci]? = some (C, T, N) ∧ k < N ∧ (T k).1 = C ∧ c = vi_kd (T k).2.2.1 (T k).2.2.2 ∧ Cond.fieldLink o i C (T k).2.1 (T k).2.2.1 ∈ vi_gw := by
  unfold vi_ckF at h
  split at h
  · cases h
  · rename_i C D n d fin hf
    simp only [Bool.and_eq_true, decide_eq_true_eq] at h
    obtain ⟨rfl, rfl, h3⟩ := h
    unfold vi_fld at hf
    split at hf
    · cases hf
    · rename_i q hq
      obtain ⟨C', T, N⟩ := q
      split at hf
      · rename_i hk
        simp only [Option.some.injEq, Prod.mk.injEq] at hf
        obtain ⟨rfl, hf⟩ := hf
        exact ⟨a - 20, C', T, N, by omega, hq, hk.2, by rw [hf], by rw [hf], by rw [hf]; exact vi_gw_in h3 rfl⟩
      · cases hf
theorem vs_cls {ci : Nat} {C : String} {T : u_T} {N : Nat} (h : vi_cls[ci]? = some (C, T, N)) : (∀ x ∈ u_ws C T N, x ∈ vi_gw) ∧ (∃ ty : Nat → FieldType, ∀ k, k < N → parseFieldDescriptor (T k).2.2.1 = some (ty k)) ∧ (∀ a, a < N → ∀ b, b < N → a ≠ b → (T a).2.1 ≠ (T b).2.1) ∧ Cond.instantiable C N ∈ vi_gw ∧ Cond.initialized C ∈ vi_gw ∧ ∀ k, k < N → (T k).1 = C := by
  have hci : ci < 12 := (List.getElem?_eq_some_iff.mp h).1
  have h1 := vi_ckCA ci hci
  unfold vi_ckC at h1
  rw [h] at h1
  split at h1
  · rename_i C' T' N' a b ty e1 e2 e3
    simp only [Option.some.injEq, Prod.mk.injEq] at e1
    obtain ⟨rfl, rfl, rfl⟩ := e1
    simp only [Bool.and_eq_true, decide_eq_true_eq] at h1
    obtain ⟨g1, g2, g3, g4⟩ := h1
    have g3 := fun k (hk : k < N) => List.all_eq_true.mp g3 k (List.mem_range.mpr hk)
    refine ⟨fun x hx => ?_, ⟨ty, fun k hk => ?_⟩, fun a ha b hb hab => ?_, vi_gw_in g1 rfl, vi_gw_in g2 rfl, fun k hk => ?_⟩
    · obtain ⟨k, hk, rfl⟩ := List.mem_map.mp hx
      have := g3 k (List.mem_range.mp hk)
      simp only [Bool.and_eq_true, decide_eq_true_eq] at this
      refine vi_gw_in this.1 ?_
      unfold u_lay
      split <;> rfl
    · have := g3 k hk
      simp only [Bool.and_eq_true, decide_eq_true_eq] at this
      exact this.2.1
    · rcases Nat.lt_or_gt_of_ne hab with hlt | hlt
      · have := (List.pairwise_iff_getElem.mp g4) a b (by simpa using ha) (by simpa using hb) hlt
        simpa using this
      · have := (List.pairwise_iff_getElem.mp g4) b a (by simpa using hb) (by simpa using ha) hlt
        exact fun q => this (by simpa using q.symm)
    · have := g3 k hk
      simp only [Bool.and_eq_true, decide_eq_true_eq] at this
      exact this.2.2
  · cases h1
section VS
variable {p : Program} {l : Launch} {e : Env} {R : Room} {s : State} {mm : MethodId} {args : Array Value} {below : List Frame} {meth : Method} {c : Code} {Q : State → Prop}
variable {D : va_G} {z b Ls : Nat} {xs : Nat → Int32} {adK adV : Nat → Nat} {fm : Value}
variable {m : Nat} {V0 : Nat → Value} {nx0 : Nat} {cells slots pc : Nat} {L : vi_L} {S : List vi_V} {w : vi_W}
theorem vs_iastore (hF : vs_F p s args mm meth c m) (hd : decode (vi_by m) pc = .ok (.iastore, 1)) {x i : Int} {q : Nat} (hc : w.1.1 q = 1 ∧ 0 ≤ i ∧ i < w.1.2.1 q) (k : vs_G p l e R s mm args below meth c Q D z b Ls xs adK adV fm m V0 nx0 cells slots (pc + 1) L S (w.1, vi_ms w.2.1 q i.toNat (vi_nar 1 x), w.2.2)) : vs_G p l e R s mm args below meth c Q D z b Ls xs adK adV fm m V0 nx0 cells slots pc L (.inl x :: .inl i :: .inr (.inr q) :: S) w := by
  intro V tys ws H locs hP hK hD hS hw hV ls st hl hs
  obtain ⟨x, st1, rfl, rfl, hs1⟩ := vs_sI hs
  obtain ⟨i, st2, rfl, rfl, hs2⟩ := vs_sI hs1
  obtain ⟨st3, rfl, hq, hs3⟩ := vs_sA hs2
  obtain ⟨i0, a, cA, n, f, h1, h2, h3, ⟨t0, h4⟩, h5, h6, h7⟩ := vs_fI hw hq (ty := .int) (by rw [hc.1]; rfl)
  rw [h3]
  subst h1
  exact va_iast hF.1 hF.2.1 hK hP hD hS i0 t0 h2 h4 (vj_index hc.2.1 (by omega)) hd (fun H1 locs1 hP hD hS => k V tys _ H1 locs1 hP hK hD hS (vs_w_set hw h2 (vs_ms_at) rfl ⟨.int, by rw [show ((w.1, vi_ms w.2.1 (29 + i0) i.toInt.toNat (vi_nar 1 x.toInt), w.2.2) : vi_W).1.1 (29 + i0) = 1 from hc.1]; rfl, ⟨t0, h4⟩, h5, h6, vs_upd h7 rfl⟩) hV ls _ hl hs3)
theorem vs_bastore (hF : vs_F p s args mm meth c m) (hd : decode (vi_by m) pc = .ok (.bastore, 1)) {x i : Int} {q : Nat} (hc : w.1.1 q = 3 ∧ 0 ≤ i ∧ i < w.1.2.1 q) (k : vs_G p l e R s mm args below meth c Q D z b Ls xs adK adV fm m V0 nx0 cells slots (pc + 1) L S (w.1, vi_ms w.2.1 q i.toNat (vi_nar 3 x), w.2.2)) : vs_G p l e R s mm args below meth c Q D z b Ls xs adK adV fm m V0 nx0 cells slots pc L (.inl x :: .inl i :: .inr (.inr q) :: S) w := by
  intro V tys ws H locs hP hK hD hS hw hV ls st hl hs
  obtain ⟨x, st1, rfl, rfl, hs1⟩ := vs_sI hs
  obtain ⟨i, st2, rfl, rfl, hs2⟩ := vs_sI hs1
  obtain ⟨st3, rfl, hq, hs3⟩ := vs_sA hs2
  obtain ⟨i0, a, cA, n, f, h1, h2, h3, ⟨t0, h4⟩, h5, h6, h7⟩ := vs_fI hw hq (ty := .byte) (by rw [hc.1]; rfl)
  rw [h3]
  subst h1
  exact va_bast hF.1 hF.2.1 hK hP hD hS i0 t0 h2 h4 (vj_index hc.2.1 (by omega)) hd (fun H1 locs1 hP hD hS => k V tys _ H1 locs1 hP hK hD hS (vs_w_set hw h2 (vs_ms_at) rfl ⟨.byte, by rw [show ((w.1, vi_ms w.2.1 (29 + i0) i.toInt.toNat (vi_nar 3 x.toInt), w.2.2) : vi_W).1.1 (29 + i0) = 3 from hc.1]; rfl, ⟨t0, h4⟩, h5, h6, vs_upd h7 (vj_nbar x)⟩) hV ls _ hl hs3)
theorem vs_zastore (hF : vs_F p s args mm meth c m) (hd : decode (vi_by m) pc = .ok (.bastore, 1)) {x i : Int} {q : Nat} (hc : w.1.1 q = 4 ∧ 0 ≤ i ∧ i < w.1.2.1 q) (k : vs_G p l e R s mm args below meth c Q D z b Ls xs adK adV fm m V0 nx0 cells slots (pc + 1) L S (w.1, vi_ms w.2.1 q i.toNat (vi_nar 4 x), w.2.2)) : vs_G p l e R s mm args below meth c Q D z b Ls xs adK adV fm m V0 nx0 cells slots pc L (.inl x :: .inl i :: .inr (.inr q) :: S) w := by
  intro V tys ws H locs hP hK hD hS hw hV ls st hl hs
  obtain ⟨x, st1, rfl, rfl, hs1⟩ := vs_sI hs
  obtain ⟨i, st2, rfl, rfl, hs2⟩ := vs_sI hs1
  obtain ⟨st3, rfl, hq, hs3⟩ := vs_sA hs2
  obtain ⟨i0, a, cA, n, f, h1, h2, h3, ⟨t0, h4⟩, h5, h6, h7⟩ := vs_fI hw hq (ty := .boolean) (by rw [hc.1]; rfl)
  rw [h3]
  subst h1
  exact va_zast hF.1 hF.2.1 hK hP hD hS i0 t0 h2 h4 (vj_index hc.2.1 (by omega)) hd (fun H1 locs1 hP hD hS => k V tys _ H1 locs1 hP hK hD hS (vs_w_set hw h2 (vs_ms_at) rfl ⟨.boolean, by rw [show ((w.1, vi_ms w.2.1 (29 + i0) i.toInt.toNat (vi_nar 4 x.toInt), w.2.2) : vi_W).1.1 (29 + i0) = 4 from hc.1]; rfl, ⟨t0, h4⟩, h5, h6, vs_upd h7 (vj_nzar x)⟩) hV ls _ hl hs3)
theorem vs_charstore (hF : vs_F p s args mm meth c m) (hd : decode (vi_by m) pc = .ok (.castore, 1)) {x i : Int} {q : Nat} (hc : w.1.1 q = 5 ∧ 0 ≤ i ∧ i < w.1.2.1 q) (k : vs_G p l e R s mm args below meth c Q D z b Ls xs adK adV fm m V0 nx0 cells slots (pc + 1) L S (w.1, vi_ms w.2.1 q i.toNat (vi_nar 5 x), w.2.2)) : vs_G p l e R s mm args below meth c Q D z b Ls xs adK adV fm m V0 nx0 cells slots pc L (.inl x :: .inl i :: .inr (.inr q) :: S) w := by
  intro V tys ws H locs hP hK hD hS hw hV ls st hl hs
  obtain ⟨x, st1, rfl, rfl, hs1⟩ := vs_sI hs
  obtain ⟨i, st2, rfl, rfl, hs2⟩ := vs_sI hs1
  obtain ⟨st3, rfl, hq, hs3⟩ := vs_sA hs2
  obtain ⟨i0, a, cA, n, f, h1, h2, h3, ⟨t0, h4⟩, h5, h6, h7⟩ := vs_fI hw hq (ty := .char) (by rw [hc.1]; rfl)
  rw [h3]
  subst h1
  exact va_cast hF.1 hF.2.1 hK hP hD hS i0 t0 h2 h4 (vj_index hc.2.1 (by omega)) hd (fun H1 locs1 hP hD hS => k V tys _ H1 locs1 hP hK hD hS (vs_w_set hw h2 (vs_ms_at) rfl ⟨.char, by rw [show ((w.1, vi_ms w.2.1 (29 + i0) i.toInt.toNat (vi_nar 5 x.toInt), w.2.2) : vi_W).1.1 (29 + i0) = 5 from hc.1]; rfl, ⟨t0, h4⟩, h5, h6, vs_upd h7 (vj_ncar x)⟩) hV ls _ hl hs3)
theorem vs_lastore (hF : vs_F p s args mm meth c m) (hd : decode (vi_by m) pc = .ok (.lastore, 1)) {x i : Int} {q : Nat} (hc : w.1.1 q = 2 ∧ 0 ≤ i ∧ i < w.1.2.1 q) (k : vs_G p l e R s mm args below meth c Q D z b Ls xs adK adV fm m V0 nx0 cells slots (pc + 1) L S (w.1, vi_ms w.2.1 q i.toNat x, w.2.2)) : vs_G p l e R s mm args below meth c Q D z b Ls xs adK adV fm m V0 nx0 cells slots pc L (.inr (.inl x) :: .inl i :: .inr (.inr q) :: S) w := by
  intro V tys ws H locs hP hK hD hS hw hV ls st hl hs
  obtain ⟨x, st1, rfl, rfl, hs1⟩ := vs_sJ hs
  obtain ⟨i, st2, rfl, rfl, hs2⟩ := vs_sI hs1
  obtain ⟨st3, rfl, hq, hs3⟩ := vs_sA hs2
  obtain ⟨i0, a, cA, n, f, h1, h2, h3, ⟨t0, h4⟩, h5, h6, h7⟩ := vs_fJ hw hq hc.1
  rw [h3]
  subst h1
  exact va_last hF.1 hF.2.1 hK hP hD hS i0 t0 h2 h4 (vj_index hc.2.1 (by omega)) hd (fun H1 locs1 hP hD hS => k V tys _ H1 locs1 hP hK hD hS (vs_w_set hw h2 (vs_ms_at) rfl ⟨hc.1, ⟨t0, h4⟩, h5, h6, vs_updL h7⟩) hV ls _ hl hs3)
theorem vs_alen (hF : vs_F p s args mm meth c m) (hE : vs_E z b Ls xs adK adV fm s s.heap) (hd : decode (vi_by m) pc = .ok (.arraylength, 1)) {q a : Nat} (hc : w.1.1 q = a) (ha : a < 8 ∨ a = 11 ∨ a = 12) (ha0 : a ≠ 0) (k : vs_G p l e R s mm args below meth c Q D z b Ls xs adK adV fm m V0 nx0 cells slots (pc + 1) L (.inl (w.1.2.1 q : Int) :: S) w) : vs_G p l e R s mm args below meth c Q D z b Ls xs adK adV fm m V0 nx0 cells slots pc L (.inr (.inr q) :: S) w := by
  intro V tys ws H locs hP hK hD hS hw hV ls st hl hs
  obtain ⟨st1, rfl, hq, hs1⟩ := vs_sA hs
  have big : ∀ n : Nat, n < 2147483648 → (Int32.ofNat n).toInt = (n : Int) := fun n hn => nI_toInt (by omega)
  by_cases h11 : a = 11
  · have hq1 : q = 1 := vs_q11 hw hq (by omega)
    subst hq1
    obtain ⟨g1, g2, g3, g4⟩ := hw.2.1.2.1
    rw [g1]
    exact va_slen hF.1 hF.2.1 hE.2.1 (by have := hE.1; omega) (by have := hE.1; show ¬ z ≤ b; omega) hS hd (k V tys ws H locs hP hK hD hS hw hV ls _ hl ⟨⟨_, rfl, by rw [big _ hE.1.2.2, g3]⟩, hs1⟩)
  by_cases h12 : a = 12
  · obtain ⟨i, hi, rfl⟩ := vs_q12 hw hq (by omega)
    obtain ⟨g1, g2, g3, g4⟩ := hw.2.1.2.2.2.1 i hi
    rw [g1]
    obtain ⟨cell, x1, x2, x3, x4, x5, x6, x7⟩ := ((hE.2.2.1.1 i hi).2.2.2).kept hS.2.1
    exact W.alen (n := Int32.ofNat (vi_sln.getD i 0)) hF.1 hF.2.1 x1 x2 x5 rfl rfl hd (k V tys ws H locs hP hK hD hS hw hV ls _ hl ⟨⟨_, rfl, by rw [big _ (vs_sln_lt i hi), g3]⟩, hs1⟩)
  by_cases h2 : a = 2
  · obtain ⟨i0, a, cA, n, f, h1, h2, h3, ⟨t0, h4⟩, h5, h6, h7⟩ := vs_fJ hw hq (by omega)
    rw [h3]
    exact va_alen hF.1 hF.2.1 hK hP i0 t0 h2 h4 rfl hd (k V tys ws H locs hP hK hD hS hw hV ls _ hl ⟨⟨_, rfl, by rw [big _ h6, h5]⟩, hs1⟩)
  by_cases h7 : a = 7
  · obtain ⟨i0, a, cA, n, f, h1, h2, h3, ⟨t0, h4⟩, h5, h6, h7⟩ := vs_fA hw hq (by omega)
    rw [h3]
    exact va_alen hF.1 hF.2.1 hK hP i0 t0 h2 h4 rfl hd (k V tys ws H locs hP hK hD hS hw hV ls _ hl ⟨⟨_, rfl, by rw [big _ h6, h5]⟩, hs1⟩)
  · obtain ⟨i, a1, e1, h1, h2, h3, h4⟩ := vs_find hw hq (by omega)
    rcases e1 with ⟨cA, n, f | f | f | f | f⟩ | ⟨ci, fs⟩
    · obtain ⟨ty', g1, ⟨t0, g2⟩, g3, g3', g4⟩ := h4
      rw [h3]
      exact va_alen hF.1 hF.2.1 hK hP i t0 h2 g2 rfl hd (k V tys ws H locs hP hK hD hS hw hV ls _ hl ⟨⟨_, rfl, by rw [big _ g3', g3]⟩, hs1⟩)
    · have := h4.1; omega
    · exact h4.elim
    · exact h4.elim
    · have := h4.1; omega
    · have := h4.1; omega
theorem vs_getfield (hF : vs_F p s args mm meth c m) {i : Nat} (hd : decode (vi_by m) pc = .ok (.getfield i, 3)) {q a k0 cc : Nat} {bb : Int} (hc : w.1.1 q = a) (hck : vi_ckF (vi_own m) i a k0 cc bb = true) (k : vs_G p l e R s mm args below meth c Q D z b Ls xs adK adV fm m V0 nx0 cells slots (pc + 3) L (vi_gf cc w.1 w.2.1 q k0 :: S) w) : vs_G p l e R s mm args below meth c Q D z b Ls xs adK adV fm m V0 nx0 cells slots pc L (.inr (.inr q) :: S) w := by
  intro V tys ws H locs hP hK hD hS hw hV ls st hl hs
  obtain ⟨st1, rfl, hq, hs1⟩ := vs_sA hs
  obtain ⟨ci, C, T, N, ha, hcl, hk0, hT, hcc, hwd⟩ := vs_ckF hck
  subst ha
  obtain ⟨i0, a, fs, r, h1, h2, h3, h4, h5, h6⟩ := vs_fO hw hq hc
  rw [hcl] at h4
  cases h4
  obtain ⟨hin, ⟨ty0, hty⟩, hnm, -⟩ := vs_cls hcl
  have hlt : k0 < fs.length := by rw [h5]; exact hk0
  rw [h3]
  have hv := h6 k0 _ (List.getElem?_eq_getElem hlt)
  rw [← hcc] at hv
  exact va_get (D := D) (ci := ci) (C := C) (T := T) (N := N) (ref := C) hF.1 hF.2.1 hF.2.2.2.2.2.2.1 hin hF.2.2.2.2.2.1 hK hP i0 h2 hcl k0 hk0 (hF.2.2.2.2.2.2.1 _ hwd) (fun x hx => by rw [hT] at hx; exact hx) (List.getElem?_eq_getElem hlt) hd (k V tys ws H locs hP hK hD hS hw hV ls _ hl ⟨hv, hs1⟩)
end VS
