/-! SOUNDNESS of the small machine, fifth part: new objects and arrays, statics, texts, references compared, switches. PRINTED by wip/whole/gen/ps.py out of wip/whole/src. -/
theorem vs_yn_at {w : vi_W} {tag len : Nat} {sl : Nat} {M : vi_M} (hM : M = vi_rs w.2.1 w.2.2.1 (fun _ => 0)) : ∀ q, q ≠ w.2.2.1 → vs_at w (vi_ynew w.1 w.2.2.1 tag len, M, w.2.2.1 + 1, sl) q := by
  intro q hq
  subst hM
  refine ⟨by simp [vi_ynew, hq], by simp [vi_ynew, hq], by simp [vi_ynew, hq], ?_⟩
  funext j
  simp [vi_rs, hq]
theorem vs_dflt {V : Nat → Value} {nx : Nat} {d : String} {fin : Bool} (h0 : V 0 = .null) (hn : 0 < nx) (h : vi_dvB d = true) {ty : FieldType} (hp : parseFieldDescriptor d = some ty) {Y : vi_Y} {M : vi_M} {q k : Nat} (hY : Y.2.2 q k = 0) (hM : M q k = 0) : vs_v V nx (defaultValue ty) (vi_gf (vi_kd d fin) Y M q k) := by
  have e : vi_gf (vi_kd d fin) Y M q k = vi_mk (vi_kd d false) 0 := by
    unfold vi_gf
    rw [hY, hM, vi_kd_fin]
    have := vi_kd_lt d
    cases fin
    · simp [this]
    · rw [if_neg (by simp)]
      simp
  rw [e]
  rcases vs_dv h hp with ⟨g, -, g2⟩ | ⟨g, -, g2⟩ | ⟨g, -, g2⟩ | ⟨g, -, g2⟩ | ⟨g, -, g2⟩ <;> rw [g, g2]
  · exact ⟨0, rfl, rfl⟩
  · exact ⟨0, rfl, rfl⟩
  · exact ⟨0, rfl, rfl⟩
  · exact ⟨0, rfl, rfl⟩
  · exact ⟨h0.symm, hn⟩
section VS
variable {p : Program} {l : Launch} {e : Env} {R : Room} {s : State} {mm : MethodId} {args : Array Value} {below : List Frame} {meth : Method} {c : Code} {Q : State → Prop}
variable {D : va_G} {z b Ls : Nat} {xs : Nat → Int32} {adK adV : Nat → Nat} {fm : Value}
variable {m : Nat} {V0 : Nat → Value} {nx0 : Nat} {cells slots pc : Nat} {L : vi_L} {S : List vi_V} {w : vi_W}
theorem vs_new (hF : vs_F p s args mm meth c m) (hE : vs_E z b Ls xs adK adV fm s s.heap) (hx0 : nx0 ≤ w.2.2.1) {i ci k0 : Nat} (hd : decode (vi_by m) pc = .ok (.new i, 3)) {C : String} {T : u_T} {N : Nat} (hcl : vi_cls[ci]? = some (C, T, N)) (hk0 : k0 = N) (hwd : Cond.classLink (vi_own m) i C ∈ vi_gw) (h1 : cells + 1 ≤ R.cells) (h2 : slots + k0 ≤ R.slots)
    (k : vs_G p l e R s mm args below meth c Q D z b Ls xs adK adV fm m V0 nx0 (cells + 1) (slots + k0) (pc + 3) L (.inr (.inr w.2.2.1) :: S) (vi_ynew w.1 w.2.2.1 (20 + ci) k0, vi_rs w.2.1 w.2.2.1 (fun _ => 0), w.2.2.1 + 1, w.2.2.2 + k0)) : vs_G p l e R s mm args below meth c Q D z b Ls xs adK adV fm m V0 nx0 cells slots pc L S w := by
  intro V tys ws H locs hP hK hD hS hw hV ls st hl hs
  subst hk0
  obtain ⟨hin, ⟨ty0, hty⟩, hnm, hinst, hini, hdecl⟩ := vs_cls hcl
  have hnx : 29 ≤ w.2.2.1 := by rw [hw.1]; omega
  have hVx : ∀ (h : Nat), ∀ q, q < w.2.2.1 → (if q = w.2.2.1 then Value.ref h else V q) = V q := fun h q hq => if_neg (by omega)
  refine va_new (D := D) (ci := ci) (fs := (List.range k0).map (fun j => defaultValue (ty0 j))) (C := C) (T := T) (N := k0) hF.1 hF.2.1 hF.2.2.2.2.2.2.1 hin ty0 hty hF.2.2.2.2.2.1 (hF.2.2.2.2.2.2.1 _ hwd) (hF.2.2.2.2.2.2.1 _ hinst) (hF.2.2.2.2.2.2.1 _ hini) hK hP hD hS (fun q h => Nat.le_trans hE.1.1 h) hcl (fun j hj => by simp [vp_V, hj]) h1 h2 hd (fun q H1 hP hD hS => ?_)
  refine k (fun q' => if q' = w.2.2.1 then .ref q else V q') tys _ H1 locs hP hK hD hS (vs_w_new hw (fun _ _ h => h) (vs_yn_at rfl) rfl ⟨by simp [vi_ynew], (C, T, k0), hcl, by simp, fun j v hj => ?_⟩) (fun q' hq' => (hVx q q' (by omega)).trans (hV q' hq')) ls _ (vs_l_ext (hVx q) (Nat.le_succ _) hl) ⟨⟨(if_pos rfl).symm, Nat.lt_succ_self _⟩, vs_s_ext (hVx q) (Nat.le_succ _) hs⟩
  have hj0 : j < k0 := by
    have := (List.getElem?_eq_some_iff.mp hj).1
    simpa using this
  have hv : v = defaultValue (ty0 j) := by
    rw [List.getElem?_map, List.getElem?_range hj0] at hj
    exact (Option.some.inj hj).symm
  rw [hv]
  exact vs_dflt ((hVx q 0 (by omega)).trans hw.2.1.1.1) (Nat.succ_pos _) (vs_ckD hcl hj0) (hty j hj0) (by simp [vi_ynew]) (by simp [vi_rs])
theorem vs_newI (hF : vs_F p s args mm meth c m) (hE : vs_E z b Ls xs adK adV fm s s.heap) (hx0 : nx0 ≤ w.2.2.1) (hd : decode (vi_by m) pc = .ok (.newarray .int, 2)) {x : Int} (hx : 0 ≤ x ∧ x < 1000000) (h1 : cells + 1 ≤ R.cells) (h2 : slots + x.toNat ≤ R.slots)
    (k : vs_G p l e R s mm args below meth c Q D z b Ls xs adK adV fm m V0 nx0 (cells + 1) (slots + x.toNat) (pc + 2) L (.inr (.inr w.2.2.1) :: S) (vi_ynew w.1 w.2.2.1 1 x.toNat, vi_rs w.2.1 w.2.2.1 (fun _ => 0), w.2.2.1 + 1, w.2.2.2 + x.toNat)) : vs_G p l e R s mm args below meth c Q D z b Ls xs adK adV fm m V0 nx0 cells slots pc L (.inl x :: S) w := by
  intro V tys ws H locs hP hK hD hS hw hV ls st hl hs
  obtain ⟨x, st1, rfl, rfl, hs1⟩ := vs_sI hs
  have hnx : 29 ≤ w.2.2.1 := by rw [hw.1]; omega
  have hVx : ∀ (h : Nat), ∀ q, q < w.2.2.1 → (if q = w.2.2.1 then Value.ref h else V q) = V q := fun h q hq => if_neg (by omega)
  refine va_newa (atype := .int) (ty := .int) (N' := x.toInt.toNat) (a0 := (x.toInt.toNat, (.inl fun _ => 0))) hF.1 hF.2.1 (hF.2.2.2.2.2.2.1 _ (List.mem_filter.mpr ⟨vj_arrI, rfl⟩)) rfl hK hP hD hS (fun q h => Nat.le_trans hE.1.1 h) (fun _ => rfl) (fun q => by have := (vs_lt0 x).mp q; omega) (vj_clamp x) (by show x.toInt.toNat * 4 ≤ 536870912; omega) h1 h2 hd (fun q cA H1 hK hP hD hS => ?_)
  refine k (fun q' => if q' = w.2.2.1 then .ref q else V q') _ _ H1 locs hP hK hD hS (vs_w_new hw (fun t0 y h => ?_) (vs_yn_at rfl) rfl ⟨.int, by simp [vi_ynew, vs_aty], ⟨tys.length, by simp⟩, by simp [vi_ynew], by omega, fun j hj => by simp [vi_rs]⟩) (fun q' hq' => (hVx q q' (by omega)).trans (hV q' hq')) ls _ (vs_l_ext (hVx q) (Nat.le_succ _) hl) ⟨⟨(if_pos rfl).symm, Nat.lt_succ_self _⟩, vs_s_ext (hVx q) (Nat.le_succ _) hs1⟩
  rw [List.getElem?_append_left (List.getElem?_eq_some_iff.mp h).1]
  exact h
theorem vs_newJ (hF : vs_F p s args mm meth c m) (hE : vs_E z b Ls xs adK adV fm s s.heap) (hx0 : nx0 ≤ w.2.2.1) (hd : decode (vi_by m) pc = .ok (.newarray .long, 2)) {x : Int} (hx : 0 ≤ x ∧ x < 1000000) (h1 : cells + 1 ≤ R.cells) (h2 : slots + x.toNat ≤ R.slots)
    (k : vs_G p l e R s mm args below meth c Q D z b Ls xs adK adV fm m V0 nx0 (cells + 1) (slots + x.toNat) (pc + 2) L (.inr (.inr w.2.2.1) :: S) (vi_ynew w.1 w.2.2.1 2 x.toNat, vi_rs w.2.1 w.2.2.1 (fun _ => 0), w.2.2.1 + 1, w.2.2.2 + x.toNat)) : vs_G p l e R s mm args below meth c Q D z b Ls xs adK adV fm m V0 nx0 cells slots pc L (.inl x :: S) w := by
  intro V tys ws H locs hP hK hD hS hw hV ls st hl hs
  obtain ⟨x, st1, rfl, rfl, hs1⟩ := vs_sI hs
  have hnx : 29 ≤ w.2.2.1 := by rw [hw.1]; omega
  have hVx : ∀ (h : Nat), ∀ q, q < w.2.2.1 → (if q = w.2.2.1 then Value.ref h else V q) = V q := fun h q hq => if_neg (by omega)
  refine va_newa (atype := .long) (ty := .long) (N' := x.toInt.toNat) (a0 := (x.toInt.toNat, (.inr (.inl fun _ => 0)))) hF.1 hF.2.1 (hF.2.2.2.2.2.2.1 _ (List.mem_filter.mpr ⟨vj_arrJ, rfl⟩)) rfl hK hP hD hS (fun q h => Nat.le_trans hE.1.1 h) (fun _ => rfl) (fun q => by have := (vs_lt0 x).mp q; omega) (vj_clamp x) (by show x.toInt.toNat * 8 ≤ 536870912; omega) h1 h2 hd (fun q cA H1 hK hP hD hS => ?_)
  refine k (fun q' => if q' = w.2.2.1 then .ref q else V q') _ _ H1 locs hP hK hD hS (vs_w_new hw (fun t0 y h => ?_) (vs_yn_at rfl) rfl ⟨by simp [vi_ynew], ⟨tys.length, by simp⟩, by simp [vi_ynew], by omega, fun j hj => by simp [vi_rs]⟩) (fun q' hq' => (hVx q q' (by omega)).trans (hV q' hq')) ls _ (vs_l_ext (hVx q) (Nat.le_succ _) hl) ⟨⟨(if_pos rfl).symm, Nat.lt_succ_self _⟩, vs_s_ext (hVx q) (Nat.le_succ _) hs1⟩
  rw [List.getElem?_append_left (List.getElem?_eq_some_iff.mp h).1]
  exact h
theorem vs_newB (hF : vs_F p s args mm meth c m) (hE : vs_E z b Ls xs adK adV fm s s.heap) (hx0 : nx0 ≤ w.2.2.1) (hd : decode (vi_by m) pc = .ok (.newarray .byte, 2)) {x : Int} (hx : 0 ≤ x ∧ x < 1000000) (h1 : cells + 1 ≤ R.cells) (h2 : slots + x.toNat ≤ R.slots)
    (k : vs_G p l e R s mm args below meth c Q D z b Ls xs adK adV fm m V0 nx0 (cells + 1) (slots + x.toNat) (pc + 2) L (.inr (.inr w.2.2.1) :: S) (vi_ynew w.1 w.2.2.1 3 x.toNat, vi_rs w.2.1 w.2.2.1 (fun _ => 0), w.2.2.1 + 1, w.2.2.2 + x.toNat)) : vs_G p l e R s mm args below meth c Q D z b Ls xs adK adV fm m V0 nx0 cells slots pc L (.inl x :: S) w := by
  intro V tys ws H locs hP hK hD hS hw hV ls st hl hs
  obtain ⟨x, st1, rfl, rfl, hs1⟩ := vs_sI hs
  have hnx : 29 ≤ w.2.2.1 := by rw [hw.1]; omega
  have hVx : ∀ (h : Nat), ∀ q, q < w.2.2.1 → (if q = w.2.2.1 then Value.ref h else V q) = V q := fun h q hq => if_neg (by omega)
  refine va_newa (atype := .byte) (ty := .byte) (N' := x.toInt.toNat) (a0 := (x.toInt.toNat, (.inl fun _ => 0))) hF.1 hF.2.1 (hF.2.2.2.2.2.2.1 _ (List.mem_filter.mpr ⟨vj_arrB, rfl⟩)) rfl hK hP hD hS (fun q h => Nat.le_trans hE.1.1 h) (fun _ => rfl) (fun q => by have := (vs_lt0 x).mp q; omega) (vj_clamp x) (by show x.toInt.toNat * 1 ≤ 536870912; omega) h1 h2 hd (fun q cA H1 hK hP hD hS => ?_)
  refine k (fun q' => if q' = w.2.2.1 then .ref q else V q') _ _ H1 locs hP hK hD hS (vs_w_new hw (fun t0 y h => ?_) (vs_yn_at rfl) rfl ⟨.byte, by simp [vi_ynew, vs_aty], ⟨tys.length, by simp⟩, by simp [vi_ynew], by omega, fun j hj => by simp [vi_rs]⟩) (fun q' hq' => (hVx q q' (by omega)).trans (hV q' hq')) ls _ (vs_l_ext (hVx q) (Nat.le_succ _) hl) ⟨⟨(if_pos rfl).symm, Nat.lt_succ_self _⟩, vs_s_ext (hVx q) (Nat.le_succ _) hs1⟩
  rw [List.getElem?_append_left (List.getElem?_eq_some_iff.mp h).1]
  exact h
theorem vs_newZ (hF : vs_F p s args mm meth c m) (hE : vs_E z b Ls xs adK adV fm s s.heap) (hx0 : nx0 ≤ w.2.2.1) (hd : decode (vi_by m) pc = .ok (.newarray .boolean, 2)) {x : Int} (hx : 0 ≤ x ∧ x < 1000000) (h1 : cells + 1 ≤ R.cells) (h2 : slots + x.toNat ≤ R.slots)
    (k : vs_G p l e R s mm args below meth c Q D z b Ls xs adK adV fm m V0 nx0 (cells + 1) (slots + x.toNat) (pc + 2) L (.inr (.inr w.2.2.1) :: S) (vi_ynew w.1 w.2.2.1 4 x.toNat, vi_rs w.2.1 w.2.2.1 (fun _ => 0), w.2.2.1 + 1, w.2.2.2 + x.toNat)) : vs_G p l e R s mm args below meth c Q D z b Ls xs adK adV fm m V0 nx0 cells slots pc L (.inl x :: S) w := by
  intro V tys ws H locs hP hK hD hS hw hV ls st hl hs
  obtain ⟨x, st1, rfl, rfl, hs1⟩ := vs_sI hs
  have hnx : 29 ≤ w.2.2.1 := by rw [hw.1]; omega
  have hVx : ∀ (h : Nat), ∀ q, q < w.2.2.1 → (if q = w.2.2.1 then Value.ref h else V q) = V q := fun h q hq => if_neg (by omega)
  refine va_newa (atype := .boolean) (ty := .boolean) (N' := x.toInt.toNat) (a0 := (x.toInt.toNat, (.inl fun _ => 0))) hF.1 hF.2.1 (hF.2.2.2.2.2.2.1 _ (List.mem_filter.mpr ⟨vj_arrZ, rfl⟩)) rfl hK hP hD hS (fun q h => Nat.le_trans hE.1.1 h) (fun _ => rfl) (fun q => by have := (vs_lt0 x).mp q; omega) (vj_clamp x) (by show x.toInt.toNat * 1 ≤ 536870912; omega) h1 h2 hd (fun q cA H1 hK hP hD hS => ?_)
  refine k (fun q' => if q' = w.2.2.1 then .ref q else V q') _ _ H1 locs hP hK hD hS (vs_w_new hw (fun t0 y h => ?_) (vs_yn_at rfl) rfl ⟨.boolean, by simp [vi_ynew, vs_aty], ⟨tys.length, by simp⟩, by simp [vi_ynew], by omega, fun j hj => by simp [vi_rs]⟩) (fun q' hq' => (hVx q q' (by omega)).trans (hV q' hq')) ls _ (vs_l_ext (hVx q) (Nat.le_succ _) hl) ⟨⟨(if_pos rfl).symm, Nat.lt_succ_self _⟩, vs_s_ext (hVx q) (Nat.le_succ _) hs1⟩
  rw [List.getElem?_append_left (List.getElem?_eq_some_iff.mp h).1]
  exact h
theorem vs_newC (hF : vs_F p s args mm meth c m) (hE : vs_E z b Ls xs adK adV fm s s.heap) (hx0 : nx0 ≤ w.2.2.1) (hd : decode (vi_by m) pc = .ok (.newarray .char, 2)) {x : Int} (hx : 0 ≤ x ∧ x < 1000000) (h1 : cells + 1 ≤ R.cells) (h2 : slots + x.toNat ≤ R.slots)
    (k : vs_G p l e R s mm args below meth c Q D z b Ls xs adK adV fm m V0 nx0 (cells + 1) (slots + x.toNat) (pc + 2) L (.inr (.inr w.2.2.1) :: S) (vi_ynew w.1 w.2.2.1 5 x.toNat, vi_rs w.2.1 w.2.2.1 (fun _ => 0), w.2.2.1 + 1, w.2.2.2 + x.toNat)) : vs_G p l e R s mm args below meth c Q D z b Ls xs adK adV fm m V0 nx0 cells slots pc L (.inl x :: S) w := by
  intro V tys ws H locs hP hK hD hS hw hV ls st hl hs
  obtain ⟨x, st1, rfl, rfl, hs1⟩ := vs_sI hs
  have hnx : 29 ≤ w.2.2.1 := by rw [hw.1]; omega
  have hVx : ∀ (h : Nat), ∀ q, q < w.2.2.1 → (if q = w.2.2.1 then Value.ref h else V q) = V q := fun h q hq => if_neg (by omega)
  refine va_newa (atype := .char) (ty := .char) (N' := x.toInt.toNat) (a0 := (x.toInt.toNat, (.inl fun _ => 0))) hF.1 hF.2.1 (hF.2.2.2.2.2.2.1 _ (List.mem_filter.mpr ⟨vj_arrC, rfl⟩)) rfl hK hP hD hS (fun q h => Nat.le_trans hE.1.1 h) (fun _ => rfl) (fun q => by have := (vs_lt0 x).mp q; omega) (vj_clamp x) (by show x.toInt.toNat * 2 ≤ 536870912; omega) h1 h2 hd (fun q cA H1 hK hP hD hS => ?_)
  refine k (fun q' => if q' = w.2.2.1 then .ref q else V q') _ _ H1 locs hP hK hD hS (vs_w_new hw (fun t0 y h => ?_) (vs_yn_at rfl) rfl ⟨.char, by simp [vi_ynew, vs_aty], ⟨tys.length, by simp⟩, by simp [vi_ynew], by omega, fun j hj => by simp [vi_rs]⟩) (fun q' hq' => (hVx q q' (by omega)).trans (hV q' hq')) ls _ (vs_l_ext (hVx q) (Nat.le_succ _) hl) ⟨⟨(if_pos rfl).symm, Nat.lt_succ_self _⟩, vs_s_ext (hVx q) (Nat.le_succ _) hs1⟩
  rw [List.getElem?_append_left (List.getElem?_eq_some_iff.mp h).1]
  exact h
theorem vs_anewarray (hF : vs_F p s args mm meth c m) (hE : vs_E z b Ls xs adK adV fm s s.heap) (hx0 : nx0 ≤ w.2.2.1) {i : Nat} (hd : decode (vi_by m) pc = .ok (.anewarray i, 3)) (hwd : Cond.classLink (vi_own m) i "CheeseCube$Law" ∈ vi_gw) {x : Int} (hx : 0 ≤ x ∧ x < 1000000) (h1 : cells + 1 ≤ R.cells) (h2 : slots + x.toNat ≤ R.slots)
    (k : vs_G p l e R s mm args below meth c Q D z b Ls xs adK adV fm m V0 nx0 (cells + 1) (slots + x.toNat) (pc + 3) L (.inr (.inr w.2.2.1) :: S) (vi_ynew w.1 w.2.2.1 7 x.toNat, vi_rs w.2.1 w.2.2.1 (fun _ => 0), w.2.2.1 + 1, w.2.2.2 + x.toNat)) : vs_G p l e R s mm args below meth c Q D z b Ls xs adK adV fm m V0 nx0 cells slots pc L (.inl x :: S) w := by
  intro V tys ws H locs hP hK hD hS hw hV ls st hl hs
  obtain ⟨x, st1, rfl, rfl, hs1⟩ := vs_sI hs
  have hnx : 29 ≤ w.2.2.1 := by rw [hw.1]; omega
  have hVx : ∀ (h : Nat), ∀ q, q < w.2.2.1 → (if q = w.2.2.1 then Value.ref h else V q) = V q := fun h q hq => if_neg (by omega)
  refine va_newq hF.1 hF.2.1 hF.2.2.2.2.2.1 (hF.2.2.2.2.2.2.1 _ hwd) hE.2.2.2.2.2.2.1 hK hP hD hS (fun q h => Nat.le_trans hE.1.1 h) (fun q => by have := (vs_lt0 x).mp q; omega) (vj_clamp x) (by omega) h1 h2 hd (fun q cA H1 hK hP hD hS => ?_)
  refine k (fun q' => if q' = w.2.2.1 then .ref q else V q') _ _ H1 locs hP hK hD hS (vs_w_new hw (fun t0 y h => ?_) (vs_yn_at rfl) rfl ⟨by simp [vi_ynew], ⟨tys.length, by simp⟩, by simp [vi_ynew], by omega, fun j hj => ?_⟩) (fun q' hq' => (hVx q q' (by omega)).trans (hV q' hq')) ls _ (vs_l_ext (hVx q) (Nat.le_succ _) hl) ⟨⟨(if_pos rfl).symm, Nat.lt_succ_self _⟩, vs_s_ext (hVx q) (Nat.le_succ _) hs1⟩
  · rw [List.getElem?_append_left (List.getElem?_eq_some_iff.mp h).1]; exact h
  · refine ⟨?_, ?_⟩
    · simp only [vi_rs, if_true, Int.toNat_zero]
      exact ((hVx q 0 (by omega)).trans hw.2.1.1.1).symm
    · simp [vi_rs]
theorem vs_gets0 (hF : vs_F p s args mm meth c m) (hE : vs_E z b Ls xs adK adV fm s s.heap) {i : Nat} (hd : decode (vi_by m) pc = .ok (.getstatic i, 3)) (hwd : Cond.fieldLink (vi_own m) i "java/lang/String" "COMPACT_STRINGS" "Z" ∈ vi_gw) (k : vs_G p l e R s mm args below meth c Q D z b Ls xs adK adV fm m V0 nx0 cells slots (pc + 3) L (.inl 1 :: S) w) : vs_G p l e R s mm args below meth c Q D z b Ls xs adK adV fm m V0 nx0 cells slots pc L S w := by
  intro V tys ws H locs hP hK hD hS hw hV ls st hl hs
  exact va_gets hF.1 hF.2.1 hE.2.2.2.1 hS hF.2.2.2.2.2.1 (hF.2.2.2.2.2.2.1 _ hwd) (fun _ h => h) hd (k V tys ws H locs hP hK hD hS hw hV ls _ hl ⟨⟨1, rfl, by decide⟩, hs⟩)
theorem vs_gets1 (hF : vs_F p s args mm meth c m) (hE : vs_E z b Ls xs adK adV fm s s.heap) {i : Nat} (hd : decode (vi_by m) pc = .ok (.getstatic i, 3)) (hwd : Cond.fieldLink (vi_own m) i "jdk/internal/util/Preconditions" "SIOOBE_FORMATTER" "Ljava/util/function/BiFunction;" ∈ vi_gw) (k : vs_G p l e R s mm args below meth c Q D z b Ls xs adK adV fm m V0 nx0 cells slots (pc + 3) L (.inr (.inr 28) :: S) w) : vs_G p l e R s mm args below meth c Q D z b Ls xs adK adV fm m V0 nx0 cells slots pc L S w := by
  intro V tys ws H locs hP hK hD hS hw hV ls st hl hs
  exact va_gets hF.1 hF.2.1 hE.2.2.2.2.1 hS hF.2.2.2.2.2.1 (hF.2.2.2.2.2.2.1 _ hwd) (fun _ h => h) hd (k V tys ws H locs hP hK hD hS hw hV ls _ hl ⟨⟨hw.2.1.2.2.2.2.1.symm, by rw [hw.1]; omega⟩, hs⟩)
theorem vs_ldcS (hF : vs_F p s args mm meth c m) (hE : vs_E z b Ls xs adK adV fm s s.heap) {i a : Nat} (hd : decode (vi_by m) pc = .ok (.ldc i, 2)) {tx : String} (ha : vi_strs[a]? = some (vi_own m, i, tx)) (k : vs_G p l e R s mm args below meth c Q D z b Ls xs adK adV fm m V0 nx0 cells slots (pc + 2) L (.inr (.inr (2 + a)) :: S) w) : vs_G p l e R s mm args below meth c Q D z b Ls xs adK adV fm m V0 nx0 cells slots pc L S w := by
  intro V tys ws H locs hP hK hD hS hw hV ls st hl hs
  have h13 : a < 13 := (List.getElem?_eq_some_iff.mp ha).1
  exact va_ldcS hF.1 hF.2.1 hF.2.2.2.2.2.1 (hE.2.2.2.2.2.1 a _ ha) hd (k V tys ws H locs hP hK hD hS hw hV ls _ hl ⟨⟨(hw.2.1.2.2.1 a h13).1.symm, by rw [hw.1]; omega⟩, hs⟩)
theorem vs_getS0 (hF : vs_F p s args mm meth c m) (hE : vs_E z b Ls xs adK adV fm s s.heap) {i q : Nat} (hd : decode (vi_by m) pc = .ok (.getfield i, 3)) (hc : w.1.1 q = 13) (hwd : Cond.fieldLink (vi_own m) i "java/lang/String" "value" "[B" ∈ vi_gw) (k : vs_G p l e R s mm args below meth c Q D z b Ls xs adK adV fm m V0 nx0 cells slots (pc + 3) L (vi_gf 17 w.1 w.2.1 q 0 :: S) w) : vs_G p l e R s mm args below meth c Q D z b Ls xs adK adV fm m V0 nx0 cells slots pc L (.inr (.inr q) :: S) w := by
  intro V tys ws H locs hP hK hD hS hw hV ls st hl hs
  obtain ⟨st1, rfl, hq, hs1⟩ := vs_sA hs
  obtain ⟨j, hj, rfl⟩ := vs_q13 hw hq hc
  obtain ⟨g1, g2, g3, g4⟩ := hw.2.1.2.2.1 j hj
  rw [g1]
  refine vk_getf hF.1 hF.2.1 (hE.2.2.1.1 j hj).2.2.1 hS hF.2.2.2.2.2.1 (hF.2.2.2.2.2.2.1 _ hwd) (fun _ h => h) hd (k V tys ws H locs hP hK hD hS hw hV ls _ hl ⟨?_, hs1⟩)
  show vs_v V w.2.2.1 (.ref (adV j)) (vi_mk 7 (w.1.2.2 (2 + j) 0))
  rw [g3]
  exact ⟨(hw.2.1.2.2.2.1 j hj).1.symm, by rw [hw.1]; show (((15 + j : Nat) : Int)).toNat < _; omega⟩
theorem vs_getS1 (hF : vs_F p s args mm meth c m) (hE : vs_E z b Ls xs adK adV fm s s.heap) {i q : Nat} (hd : decode (vi_by m) pc = .ok (.getfield i, 3)) (hc : w.1.1 q = 13) (hwd : Cond.fieldLink (vi_own m) i "java/lang/String" "coder" "B" ∈ vi_gw) (k : vs_G p l e R s mm args below meth c Q D z b Ls xs adK adV fm m V0 nx0 cells slots (pc + 3) L (vi_gf 13 w.1 w.2.1 q 1 :: S) w) : vs_G p l e R s mm args below meth c Q D z b Ls xs adK adV fm m V0 nx0 cells slots pc L (.inr (.inr q) :: S) w := by
  intro V tys ws H locs hP hK hD hS hw hV ls st hl hs
  obtain ⟨st1, rfl, hq, hs1⟩ := vs_sA hs
  obtain ⟨j, hj, rfl⟩ := vs_q13 hw hq hc
  obtain ⟨g1, g2, g3, g4⟩ := hw.2.1.2.2.1 j hj
  rw [g1]
  refine vk_getf hF.1 hF.2.1 (hE.2.2.1.1 j hj).2.1 hS hF.2.2.2.2.2.1 (hF.2.2.2.2.2.2.1 _ hwd) (fun _ h => h) hd (k V tys ws H locs hP hK hD hS hw hV ls _ hl ⟨?_, hs1⟩)
  show vs_v V w.2.2.1 (.int 0) (vi_mk 3 (w.1.2.2 (2 + j) 1))
  rw [g4]
  exact ⟨0, rfl, rfl⟩
theorem vs_cbaload (hF : vs_F p s args mm meth c m) (hE : vs_E z b Ls xs adK adV fm s s.heap) (hd : decode (vi_by m) pc = .ok (.baload, 1)) {i : Int} {q : Nat} (hc : w.1.1 q = 12 ∧ 0 ≤ i ∧ i < w.1.2.1 q) (k : vs_G p l e R s mm args below meth c Q D z b Ls xs adK adV fm m V0 nx0 cells slots (pc + 1) L (.inl (w.2.1 q i.toNat) :: S) w) : vs_G p l e R s mm args below meth c Q D z b Ls xs adK adV fm m V0 nx0 cells slots pc L (.inl i :: .inr (.inr q) :: S) w := by
  intro V tys ws H locs hP hK hD hS hw hV ls st hl hs
  obtain ⟨i, st1, rfl, rfl, hs1⟩ := vs_sI hs
  obtain ⟨st2, rfl, hq, hs2⟩ := vs_sA hs1
  obtain ⟨j, hj, rfl⟩ := vs_q12 hw hq hc.1
  obtain ⟨g1, g2, g3, g4⟩ := hw.2.1.2.2.2.1 j hj
  rw [g1]
  obtain ⟨cell, x1, x2, x3, x4, x5, x6, x7⟩ := ((hE.2.2.1.1 j hj).2.2.2).kept hS.2.1
  have hi : i.toInt.toNat < vi_sln.getD j 0 := by omega
  exact W.bald (v := .int ((vi_byt.getD j []).getD i.toNatClampNeg 0)) hF.1 hF.2.1 x1 x2 x3 (fun h => h.elim (fun h => by have := (vs_lt0 i).mp h; omega) (fun h => by rw [vj_clamp] at h; omega)) (x6 _ hi) rfl rfl hd (k V tys ws H locs hP hK hD hS hw hV ls _ hl ⟨⟨_, rfl, g4 _ hi⟩, hs2⟩)
theorem vs_vnull {V : Nat → Value} {tys : List (ClassId × FieldType)} {ws : va_W} (hw : vs_w b Ls xs adK adV fm V tys ws w) {q : Nat} (hq : q < w.2.2.1) (h28 : q ≠ 28) : V q = .null ↔ q = 0 := by
  obtain ⟨h1, ⟨h2, h3, h4, h5, h6⟩, h7⟩ := hw
  by_cases c0 : q = 0
  · subst c0; exact ⟨fun _ => rfl, fun _ => h2.1⟩
  refine ⟨fun h => ?_, fun h => absurd h c0⟩
  by_cases c1 : q = 1
  · subst c1; rw [h3.1] at h; cases h
  by_cases c2 : q < 15
  · have := (h4 (q - 2) (by omega)).1
    rw [show 2 + (q - 2) = q by omega, h] at this
    cases this
  by_cases c3 : q < 28
  · have := (h5 (q - 15) (by omega)).1
    rw [show 15 + (q - 15) = q by omega, h] at this
    cases this
  · have hlt : q - 29 < ws.length := by omega
    have := (h7 (q - 29) ws[q - 29].1 ws[q - 29].2 (List.getElem?_eq_getElem hlt)).1
    rw [show 29 + (q - 29) = q by omega, h] at this
    cases this
theorem vs_ifnull (hF : vs_F p s args mm meth c m) {off : Int} {tgt : Nat} (hd : decode (vi_by m) pc = .ok (.ifnull off, 3)) (ht : (pc : Int) + off = (tgt : Int)) {q : Nat} (h28 : q ≠ 28) (k1 : q = 0 → vs_G p l e R s mm args below meth c Q D z b Ls xs adK adV fm m V0 nx0 cells slots tgt L S w) (k2 : ¬ q = 0 → vs_G p l e R s mm args below meth c Q D z b Ls xs adK adV fm m V0 nx0 cells slots (pc + 3) L S w) : vs_G p l e R s mm args below meth c Q D z b Ls xs adK adV fm m V0 nx0 cells slots pc L (.inr (.inr q) :: S) w := by
  intro V tys ws H locs hP hK hD hS hw hV ls st hl hs
  obtain ⟨st1, rfl, hq, hs1⟩ := vs_sA hs
  rcases vs_vref hw hq with h | ⟨x, h⟩
  · have hq0 := (vs_vnull hw hq h28).mp h
    rw [h]
    exact lv_ifnullN hF.1 hF.2.1 hd ht (k1 hq0 V tys ws H locs hP hK hD hS hw hV ls _ hl hs1)
  · have hq0 : ¬ q = 0 := fun q0 => by rw [(vs_vnull hw hq h28).mpr q0] at h; cases h
    rw [h]
    exact lv_ifnull hF.1 hF.2.1 hd (k2 hq0 V tys ws H locs hP hK hD hS hw hV ls _ hl hs1)
theorem vs_ifnonnull (hF : vs_F p s args mm meth c m) {off : Int} {tgt : Nat} (hd : decode (vi_by m) pc = .ok (.ifnonnull off, 3)) (ht : (pc : Int) + off = (tgt : Int)) {q : Nat} (h28 : q ≠ 28) (k1 : q ≠ 0 → vs_G p l e R s mm args below meth c Q D z b Ls xs adK adV fm m V0 nx0 cells slots tgt L S w) (k2 : ¬ q ≠ 0 → vs_G p l e R s mm args below meth c Q D z b Ls xs adK adV fm m V0 nx0 cells slots (pc + 3) L S w) : vs_G p l e R s mm args below meth c Q D z b Ls xs adK adV fm m V0 nx0 cells slots pc L (.inr (.inr q) :: S) w := by
  intro V tys ws H locs hP hK hD hS hw hV ls st hl hs
  obtain ⟨st1, rfl, hq, hs1⟩ := vs_sA hs
  rcases vs_vref hw hq with h | ⟨x, h⟩
  · have hq0 := (vs_vnull hw hq h28).mp h
    rw [h]
    exact lv_ifnonnullN hF.1 hF.2.1 hd (k2 (fun x => x hq0) V tys ws H locs hP hK hD hS hw hV ls _ hl hs1)
  · have hq0 : ¬ q = 0 := fun q0 => by rw [(vs_vnull hw hq h28).mpr q0] at h; cases h
    rw [h]
    exact lv_ifnonnull hF.1 hF.2.1 hd ht (k1 hq0 V tys ws H locs hP hK hD hS hw hV ls _ hl hs1)
end VS
