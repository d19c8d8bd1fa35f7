/-! SOUNDNESS of the small machine, fourth part: putfield, new objects. PRINTED by wip/whole/gen/ps.py out of wip/whole/src. -/
/-- a field's descriptor: its type, what it holds at first -/
def vi_dvB (d : String) : Bool := match parseFieldDescriptor d with
  | none => false
  | some ty => match vi_kd d false, ty, defaultValue ty with
    | 1, .int, .int x => x == 0
    | 2, .long, .long x => x == 0
    | 3, .byte, .int x => x == 0
    | 4, .boolean, .int x => x == 0
    | 7, .object _, .null => true
    | 7, .array _, .null => true
    | _, _, _ => false
def vi_ckD (i : Nat) : Bool := match vi_cls[i]? with
  | none => false
  | some r => (List.range r.2.2).all (fun k => vi_dvB (r.2.1 k).2.2.1)
theorem vi_ckD_0 : vi_ckD 0 = true := by decide +kernel
theorem vi_ckD_1 : vi_ckD 1 = true := by decide +kernel
theorem vi_ckD_2 : vi_ckD 2 = true := by decide +kernel
theorem vi_ckD_3 : vi_ckD 3 = true := by decide +kernel
theorem vi_ckD_4 : vi_ckD 4 = true := by decide +kernel
theorem vi_ckD_5 : vi_ckD 5 = true := by decide +kernel
theorem vi_ckD_6 : vi_ckD 6 = true := by decide +kernel
theorem vi_ckD_7 : vi_ckD 7 = true := by decide +kernel
theorem vi_ckD_8 : vi_ckD 8 = true := by decide +kernel
theorem vi_ckD_9 : vi_ckD 9 = true := by decide +kernel
theorem vi_ckD_10 : vi_ckD 10 = true := by decide +kernel
theorem vi_ckD_11 : vi_ckD 11 = true := by decide +kernel
theorem vi_ckDA : ∀ i, i < 12 → vi_ckD i = true := (lt_s (lt_s (lt_s (lt_s (lt_s (lt_s (lt_s (lt_s (lt_s (lt_s (lt_s (lt_s (lt_0) vi_ckD_0) vi_ckD_1) vi_ckD_2) vi_ckD_3) vi_ckD_4) vi_ckD_5) vi_ckD_6) vi_ckD_7) vi_ckD_8) vi_ckD_9) vi_ckD_10) vi_ckD_11)
theorem vs_ckD {ci : Nat} {r : vw_C} (h : vi_cls[ci]? = some r) {k : Nat} (hk : k < r.2.2) : vi_dvB (r.2.1 k).2.2.1 = true := by
  have hci : ci < 12 := (List.getElem?_eq_some_iff.mp h).1
  have h1 := vi_ckDA ci hci
  unfold vi_ckD at h1
  rw [h] at h1
  exact List.all_eq_true.mp h1 k (List.mem_range.mpr hk)
theorem vi_kd_fin (d : String) (fin : Bool) : vi_kd d fin = vi_kd d false + (if fin then 10 else 0) := by
  unfold vi_kd
  cases fin <;> simp
theorem vi_kd_lt (d : String) : vi_kd d false < 10 := by
  unfold vi_kd
  simp only [Bool.false_eq_true, if_false]
  repeat' split
  all_goals decide
theorem vs_dv {d : String} (h : vi_dvB d = true) {ty : FieldType} (hp : parseFieldDescriptor d = some ty) : (vi_kd d false = 1 ∧ ty = .int ∧ defaultValue ty = .int 0) ∨ (vi_kd d false = 2 ∧ ty = .long ∧ defaultValue ty = .long 0) ∨ (vi_kd d false = 3 ∧ ty = .byte ∧ defaultValue ty = .int 0) ∨ (vi_kd d false = 4 ∧ ty = .boolean ∧ defaultValue ty = .int 0) ∨ (vi_kd d false = 7 ∧ ((∃ n, ty = .object n) ∨ ∃ t, ty = .array t) ∧ defaultValue ty = .null) := by
  unfold vi_dvB at h
  rw [hp] at h
  simp only at h
  split at h
  · rename_i x e1 e2
    exact Or.inl ⟨e1, rfl, by rw [e2, eq_of_beq h]⟩
  · rename_i x e1 e2
    exact Or.inr (Or.inl ⟨e1, rfl, by rw [e2, eq_of_beq h]⟩)
  · rename_i x e1 e2
    exact Or.inr (Or.inr (Or.inl ⟨e1, rfl, by rw [e2, eq_of_beq h]⟩))
  · rename_i x e1 e2
    exact Or.inr (Or.inr (Or.inr (Or.inl ⟨e1, rfl, by rw [e2, eq_of_beq h]⟩)))
  · rename_i n e1 e2
    exact Or.inr (Or.inr (Or.inr (Or.inr ⟨e1, Or.inl ⟨_, rfl⟩, e2⟩)))
  · rename_i n e1 e2
    exact Or.inr (Or.inr (Or.inr (Or.inr ⟨e1, Or.inr ⟨_, rfl⟩, e2⟩)))
  · cases h
theorem vi_gf_pf {c q k : Nat} {x : Int} {Y : vi_Y} {M : vi_M} {n : Nat × Nat} (hc : c < 20) : vi_gf c (vi_pf c Y M n q k x).1 (vi_pf c Y M n q k x).2.1 q k = vi_mk (c % 10) x := by
  unfold vi_gf vi_pf
  by_cases h : c < 10
  · rw [if_pos h, if_pos h, Nat.mod_eq_of_lt h]
    simp [vi_ms]
  · rw [if_neg h, if_neg h, show c % 10 = c - 10 by omega]
    simp [vi_yfin]
theorem vi_gf_pf2 {c c' q k j : Nat} {x : Int} {Y : vi_Y} {M : vi_M} {n : Nat × Nat} (hj : j ≠ k) : vi_gf c' (vi_pf c Y M n q k x).1 (vi_pf c Y M n q k x).2.1 q j = vi_gf c' Y M q j := by
  unfold vi_gf vi_pf
  by_cases h : c < 10
  · rw [if_pos h]
    simp [vi_ms, hj]
  · rw [if_neg h]
    simp [vi_yfin, hj]
theorem vs_pf_at {c q k : Nat} {x : Int} {w : vi_W} : ∀ q', q' ≠ q → vs_at w (vi_pf c w.1 w.2.1 w.2.2 q k x) q' := by
  intro q' hq
  unfold vi_pf
  by_cases h : c < 10
  · rw [if_pos h]
    exact vs_ms_at q' hq
  · rw [if_neg h]
    refine ⟨rfl, rfl, ?_, rfl⟩
    funext j
    simp [vi_yfin, hq]
theorem vi_pf_n {c q k : Nat} {x : Int} {w : vi_W} : (vi_pf c w.1 w.2.1 w.2.2 q k x).2.2 = w.2.2 ∧ (vi_pf c w.1 w.2.1 w.2.2 q k x).1.1 = w.1.1 := by
  unfold vi_pf
  by_cases h : c < 10
  · rw [if_pos h]; exact ⟨rfl, rfl⟩
  · rw [if_neg h]; exact ⟨rfl, rfl⟩
section VS
variable {p : Program} {l : Launch} {e : Env} {R : Room} {s : State} {mm : MethodId} {args : Array Value} {below : List Frame} {meth : Method} {c : Code} {Q : State → Prop}
variable {D : va_G} {z b Ls : Nat} {xs : Nat → Int32} {adK adV : Nat → Nat} {fm : Value}
variable {m : Nat} {V0 : Nat → Value} {nx0 : Nat} {cells slots pc : Nat} {L : vi_L} {S : List vi_V} {w : vi_W}
theorem vs_putcore (hF : vs_F p s args mm meth c m) {i : Nat} (hd : decode (vi_by m) pc = .ok (.putfield i, 3)) {q a k0 cc : Nat} {bb : Int} (hc : w.1.1 q = a) (hck : vi_ckF (vi_own m) i a k0 cc bb = true) (hfo : vi_finOk m a k0 = true) {x : Int} (k : vs_G p l e R s mm args below meth c Q D z b Ls xs adK adV fm m V0 nx0 cells slots (pc + 3) L S (vi_pf cc w.1 w.2.1 w.2.2 q k0 x))
    {V : Nat → Value} {tys : List (ClassId × FieldType)} {ws : va_W} {H : Heap} {locs : List Loc} (hP : va_P D vi_cls ws H) (hK : va_K D vi_cls tys s) (hD : va_D (vs_A z) ws) (hS : va_S (vs_A z) s.heap H locs) (hw : vs_w b Ls xs adK adV fm V tys ws w) (hV : ∀ q, q < nx0 → V q = V0 q) {ls : Array Slot} {st : List Value} (hl : vs_l V w.2.2.1 ls (vi_mll m) L) (hs : vs_s V w.2.2.1 st S) (hq : q < w.2.2.1) {v : Value} (hv : vs_v V w.2.2.1 v (vi_mk (cc % 10) x))
    (hfit : ∀ (d : String) (fin : Bool) (ty : FieldType), cc = vi_kd d fin → vi_dvB d = true → parseFieldDescriptor d = some ty → narrow ty v = v ∧ fits ty v = true) : W p l e R s mm args below meth c H locs cells slots Q (F0 mm pc ls (v :: V q :: st)) := by
  obtain ⟨ci, C, T, N, ha, hcl, hk0, hT, hcc, hwd⟩ := vs_ckF hck
  obtain ⟨i0, a0, fs, r, h1, h2, h3, h4, h5, h6⟩ := vs_fO hw hq (hc.trans ha)
  rw [hcl] at h4
  cases h4
  obtain ⟨hin, ⟨ty0, hty⟩, hnm, -, -, hdecl⟩ := vs_cls hcl
  have hlt : k0 < fs.length := by rw [h5]; exact hk0
  rw [h3]
  obtain ⟨f1, f2⟩ := hfit _ _ _ hcc (vs_ckD hcl hk0) (hty k0 hk0)
  have hlt20 : cc < 20 := by
    rw [hcc, vi_kd_fin]
    have := vi_kd_lt (T k0).2.2.1
    split <;> omega
  have hw' : ∀ (a1 : Nat), vs_w b Ls xs adK adV fm V tys (ws.set i0 (a0, .inr (ci, fs.set k0 v))) (vi_pf cc w.1 w.2.1 w.2.2 q k0 x) := fun _ => by
    refine vs_w_set hw h2 (fun q' hq' => vs_pf_at q' (by rw [h1]; exact hq')) (by rw [vi_pf_n.1]) ⟨?_, (C, T, N), hcl, by rw [List.length_set]; exact h5, fun j v' hj => ?_⟩
    · rw [vi_pf_n.2, ← h1, hc, ha]
    · rw [vi_pf_n.1, ← h1]
      by_cases hjk : j = k0
      · subst hjk
        rw [List.getElem?_set_self hlt] at hj
        cases hj
        rw [← hcc, vi_gf_pf hlt20]
        exact hv
      · rw [List.getElem?_set_ne (fun q => hjk q.symm)] at hj
        rw [vi_gf_pf2 hjk]
        exact h6 j v' hj
  have kk : ∀ (H1 : Heap) (locs1 : List Loc), va_P D vi_cls (ws.set i0 (a0, .inr (ci, fs.set k0 v))) H1 → va_D (vs_A z) (ws.set i0 (a0, .inr (ci, fs.set k0 v))) → va_S (vs_A z) s.heap H1 locs1 → W p l e R s mm args below meth c H1 locs1 cells slots Q (F0 mm (pc + 3) ls st) := fun H1 locs1 hP hD hS =>
    k V tys _ H1 locs1 hP hK hD hS (hw' 0) hV ls st (by rw [vi_pf_n.1]; exact hl) (by rw [vi_pf_n.1]; exact hs)
  by_cases hfin : (T k0).2.2.2 = true
  · have hfo' : (vi_y m).name = "<init>" ∧ C = vi_own m := by
      unfold vi_finOk vi_fld at hfo
      rw [show a - 20 = ci by omega, hcl] at hfo
      simp only [show 20 ≤ a ∧ k0 < N from ⟨by omega, hk0⟩, and_self, if_true, hfin] at hfo
      simpa using hfo
    exact va_putF (D := D) (ci := ci) (C := C) (T := T) (N := N) (ref := C) hF.1 hF.2.1 hF.2.2.2.2.2.2.1 hin ty0 hty hnm hF.2.2.2.2.2.1 hK hP hD hS i0 h2 hcl k0 hk0 (hF.2.2.2.2.2.2.1 _ hwd) (fun x hx => by rw [hT] at hx; exact hx) hfin (hF.2.2.2.2.2.2.2.trans hfo'.1) (hT.trans hfo'.2) (hty k0 hk0) f1 f2 hlt hd kk
  · exact va_put (D := D) (ci := ci) (C := C) (T := T) (N := N) (ref := C) hF.1 hF.2.1 hF.2.2.2.2.2.2.1 hin ty0 hty hnm hF.2.2.2.2.2.1 hK hP hD hS i0 h2 hcl k0 hk0 (hF.2.2.2.2.2.2.1 _ hwd) (fun x hx => by rw [hT] at hx; exact hx) (by simpa using hfin) (hty k0 hk0) f1 f2 hlt hd kk
theorem vs_kdm {d : String} {fin : Bool} {cc : Nat} (h : cc = vi_kd d fin) : cc % 10 = vi_kd d false := by
  rw [h, vi_kd_fin]
  have := vi_kd_lt d
  split <;> omega
theorem vs_putI (hF : vs_F p s args mm meth c m) {i : Nat} (hd : decode (vi_by m) pc = .ok (.putfield i, 3)) {q a k0 cc : Nat} {bb : Int} (hc : w.1.1 q = a) (hck : vi_ckF (vi_own m) i a k0 cc bb = true) (hfo : vi_finOk m a k0 = true) {x : Int} (hcc : cc % 10 = 1 ∨ (cc % 10 = 4 ∧ 0 ≤ x ∧ x < 2)) (k : vs_G p l e R s mm args below meth c Q D z b Ls xs adK adV fm m V0 nx0 cells slots (pc + 3) L S (vi_pf cc w.1 w.2.1 w.2.2 q k0 x)) : vs_G p l e R s mm args below meth c Q D z b Ls xs adK adV fm m V0 nx0 cells slots pc L (.inl x :: .inr (.inr q) :: S) w := by
  intro V tys ws H locs hP hK hD hS hw hV ls st hl hs
  obtain ⟨x, st1, rfl, rfl, hs1⟩ := vs_sI hs
  obtain ⟨st2, rfl, hq, hs2⟩ := vs_sA hs1
  refine vs_putcore hF hd hc hck hfo k hP hK hD hS hw hV hl hs2 hq ?_ ?_
  · rcases hcc with h | ⟨h, -⟩ <;> (rw [h]; exact ⟨_, rfl, rfl⟩)
  · intro d fin ty h1 h2 h3
    have h4 := vs_kdm h1
    rcases vs_dv h2 h3 with ⟨g, rfl, -⟩ | ⟨g, rfl, -⟩ | ⟨g, rfl, -⟩ | ⟨g, rfl, -⟩ | ⟨g, -⟩
    · exact ⟨rfl, rfl⟩
    · omega
    · omega
    · rcases hcc with h | ⟨h, h5, h6⟩
      · omega
      · have h7 : x = 0 ∨ x = 1 := by
          rcases (show x.toInt = 0 ∨ x.toInt = 1 by omega) with h | h
          · exact Or.inl (Int32.toInt_inj.mp h)
          · exact Or.inr (Int32.toInt_inj.mp h)
        rcases h7 with rfl | rfl <;> exact ⟨rfl, rfl⟩
    · omega
theorem vs_putJ (hF : vs_F p s args mm meth c m) {i : Nat} (hd : decode (vi_by m) pc = .ok (.putfield i, 3)) {q a k0 cc : Nat} {bb : Int} (hc : w.1.1 q = a) (hck : vi_ckF (vi_own m) i a k0 cc bb = true) (hfo : vi_finOk m a k0 = true) {x : Int} (hcc : cc % 10 = 2) (k : vs_G p l e R s mm args below meth c Q D z b Ls xs adK adV fm m V0 nx0 cells slots (pc + 3) L S (vi_pf cc w.1 w.2.1 w.2.2 q k0 x)) : vs_G p l e R s mm args below meth c Q D z b Ls xs adK adV fm m V0 nx0 cells slots pc L (.inr (.inl x) :: .inr (.inr q) :: S) w := by
  intro V tys ws H locs hP hK hD hS hw hV ls st hl hs
  obtain ⟨x, st1, rfl, rfl, hs1⟩ := vs_sJ hs
  obtain ⟨st2, rfl, hq, hs2⟩ := vs_sA hs1
  refine vs_putcore hF hd hc hck hfo k hP hK hD hS hw hV hl hs2 hq (by rw [hcc]; exact ⟨_, rfl, rfl⟩) ?_
  intro d fin ty h1 h2 h3
  have h4 := vs_kdm h1
  rcases vs_dv h2 h3 with ⟨g, rfl, -⟩ | ⟨g, rfl, -⟩ | ⟨g, rfl, -⟩ | ⟨g, rfl, -⟩ | ⟨g, -⟩ <;> first | omega | exact ⟨rfl, rfl⟩
theorem vs_putA (hF : vs_F p s args mm meth c m) {i : Nat} (hd : decode (vi_by m) pc = .ok (.putfield i, 3)) {q a k0 cc : Nat} {bb : Int} (hc : w.1.1 q = a) (hck : vi_ckF (vi_own m) i a k0 cc bb = true) (hfo : vi_finOk m a k0 = true) {r : Nat} (hcc : cc % 10 = 7) (k : vs_G p l e R s mm args below meth c Q D z b Ls xs adK adV fm m V0 nx0 cells slots (pc + 3) L S (vi_pf cc w.1 w.2.1 w.2.2 q k0 (r : Int))) : vs_G p l e R s mm args below meth c Q D z b Ls xs adK adV fm m V0 nx0 cells slots pc L (.inr (.inr r) :: .inr (.inr q) :: S) w := by
  intro V tys ws H locs hP hK hD hS hw hV ls st hl hs
  obtain ⟨st1, rfl, hr, hs1⟩ := vs_sA hs
  obtain ⟨st2, rfl, hq, hs2⟩ := vs_sA hs1
  refine vs_putcore hF hd hc hck hfo k hP hK hD hS hw hV hl hs2 hq (by rw [hcc]; exact ⟨rfl, hr⟩) ?_
  intro d fin ty h1 h2 h3
  have h4 := vs_kdm h1
  rcases vs_dv h2 h3 with ⟨g, rfl, -⟩ | ⟨g, rfl, -⟩ | ⟨g, rfl, -⟩ | ⟨g, rfl, -⟩ | ⟨g, hty, -⟩ <;> first | omega | skip
  rcases hty with ⟨n, rfl⟩ | ⟨n, rfl⟩ <;> rcases vs_vref hw hr with h | ⟨y, h⟩ <;> rw [h] <;> exact ⟨rfl, rfl⟩
end VS
