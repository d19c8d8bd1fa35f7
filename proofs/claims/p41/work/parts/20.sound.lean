/-! SOUNDNESS of the small machine, first part: the relation of the worlds; instructions that don't touch the heap. PRINTED by wip/whole/gen/ps.py out of wip/whole/src. -/
/-- a machine's value and the small machine's; V: the values of the places -/
def vs_v (V : Nat → Value) (nx : Nat) (v : Value) : vi_V → Prop
  | .inl x => ∃ i : Int32, v = .int i ∧ i.toInt = x
  | .inr (.inl x) => ∃ i : Int64, v = .long i ∧ i.toInt = x
  | .inr (.inr q) => v = V q ∧ q < nx
def vs_s (V : Nat → Value) (nx : Nat) : List Value → List vi_V → Prop
  | [], [] => True
  | v :: vs, u :: us => vs_v V nx v u ∧ vs_s V nx vs us
  | _, _ => False
def vs_lb (V : Nat → Value) (nx : Nat) (bs : List (Nat × Value)) (L : vi_L) : Prop := ∀ (k : Nat) (u : vi_V), vi_ld L k = some u → ∃ v, (k, v) ∈ bs ∧ vs_v V nx v u
def vs_l (V : Nat → Value) (nx : Nat) (ls : Array Slot) (n : Nat) (L : vi_L) : Prop := ∃ bs, lv_has ls n bs ∧ vs_lb V nx bs L
def vs_aty : Nat → Option FieldType
  | 1 => some .int
  | 3 => some .byte
  | 4 => some .boolean
  | 5 => some .char
  | _ => none
/-- a cell of the machine and a place of the small world -/
def vs_e (V : Nat → Value) (nx : Nat) (tys : List (ClassId × FieldType)) (w : vi_W) (q : Nat) : va_E → Prop
  | .inl (cA, n, .inl f) => ∃ ty, vs_aty (w.1.1 q) = some ty ∧ (∃ t0 : Nat, tys[t0]? = some (cA, ty)) ∧ w.1.2.1 q = n ∧ n < 2147483648 ∧ ∀ j, j < n → (f j).toInt = w.2.1 q j
  | .inl (cA, n, .inr (.inl f)) => w.1.1 q = 2 ∧ (∃ t0 : Nat, tys[t0]? = some (cA, .long)) ∧ w.1.2.1 q = n ∧ n < 2147483648 ∧ ∀ j, j < n → (f j).toInt = w.2.1 q j
  | .inl (cA, n, .inr (.inr (.inr (.inr f)))) => w.1.1 q = 7 ∧ (∃ t0 : Nat, tys[t0]? = some (cA, .object "CheeseCube$Law")) ∧ w.1.2.1 q = n ∧ n < 2147483648 ∧ ∀ j, j < n → vs_v V nx (va_rf (f j)) (.inr (.inr (w.2.1 q j).toNat))
  | .inr (ci, fs) => w.1.1 q = 20 + ci ∧ ∃ r : vw_C, vi_cls[ci]? = some r ∧ fs.length = r.2.2 ∧ ∀ (k : Nat) (v : Value), fs[k]? = some v → vs_v V nx v (vi_gf (vi_kd (r.2.1 k).2.2.1 (r.2.1 k).2.2.2) w.1 w.2.1 q k)
  | _ => False
/-- the places that were there: 1 the script, 2 .. 14 the texts, 15 .. 27 their bytes, 28 a static of the JDK's -/
def vs_pre (b Ls : Nat) (xs : Nat → Int32) (adK adV : Nat → Nat) (fm : Value) (V : Nat → Value) (w : vi_W) : Prop :=
  (V 0 = .null ∧ w.1.1 0 = 0) ∧ (V 1 = .ref b ∧ w.1.1 1 = 11 ∧ w.1.2.1 1 = Ls ∧ ∀ j, j < Ls → (xs j).toInt = w.2.1 1 j) ∧
  (∀ i, i < 13 → V (2 + i) = .ref (adK i) ∧ w.1.1 (2 + i) = 13 ∧ w.1.2.2 (2 + i) 0 = ((15 + i : Nat) : Int) ∧ w.1.2.2 (2 + i) 1 = 0) ∧
  (∀ i, i < 13 → V (15 + i) = .ref (adV i) ∧ w.1.1 (15 + i) = 12 ∧ w.1.2.1 (15 + i) = vi_sln.getD i 0 ∧ ∀ j, j < vi_sln.getD i 0 → ((vi_byt.getD i []).getD j 0).toInt = w.2.1 (15 + i) j) ∧
  (V 28 = fm ∧ w.1.1 28 = 0 ∧ (fm = .null ∨ ∃ t : Nat, fm = .ref t))
def vs_w (b Ls : Nat) (xs : Nat → Int32) (adK adV : Nat → Nat) (fm : Value) (V : Nat → Value) (tys : List (ClassId × FieldType)) (ws : va_W) (w : vi_W) : Prop :=
  w.2.2.1 = 29 + ws.length ∧ vs_pre b Ls xs adK adV fm V w ∧ ∀ (i a : Nat) (e : va_E), ws[i]? = some (a, e) → V (29 + i) = .ref a ∧ vs_e V w.2.2.1 tys w (29 + i) e
/-- what a method's frame stands on -/
def vs_F (p : Program) (s : State) (args : Array Value) (mm : MethodId) (meth : Method) (c : Code) (m : Nat) : Prop :=
  p.tables.exec = Jvm.exec ∧ c.code = vi_by m ∧ meth.sig.returnType = vi_rty m ∧ meth.locks = false ∧ c.maxLocals = vi_mll m ∧ s.vm.findClass (vi_own m) = some mm.cls ∧ (∀ x ∈ vi_gw, x.before args s = true) ∧ meth.name = (vi_y m).name
abbrev vs_A (z : Nat) : Nat → Prop := fun q => z ≤ q
/-- from every machine's state that is a picture of the small one, Q is come to -/
def vs_G (p : Program) (l : Launch) (e : Env) (R : Room) (s : State) (mm : MethodId) (args : Array Value) (below : List Frame) (meth : Method) (c : Code) (Q : State → Prop) (D : va_G) (z b Ls : Nat) (xs : Nat → Int32) (adK adV : Nat → Nat) (fm : Value) (m : Nat) (V0 : Nat → Value) (nx0 : Nat) (cells slots pc : Nat) (L : vi_L) (S : List vi_V) (w : vi_W) : Prop :=
  ∀ (V : Nat → Value) (tys : List (ClassId × FieldType)) (ws : va_W) (H : Heap) (locs : List Loc), va_P D vi_cls ws H → va_K D vi_cls tys s → va_D (vs_A z) ws → va_S (vs_A z) s.heap H locs → vs_w b Ls xs adK adV fm V tys ws w → (∀ q, q < nx0 → V q = V0 q) →
    ∀ (ls : Array Slot) (st : List Value), vs_l V w.2.2.1 ls (vi_mll m) L → vs_s V w.2.2.1 st S → W p l e R s mm args below meth c H locs cells slots Q (F0 mm pc ls st)
theorem vs_sI {V : Nat → Value} {nx : Nat} {st : List Value} {y : Int} {S : List vi_V} (h : vs_s V nx st (.inl y :: S)) : ∃ (i : Int32) (st' : List Value), st = .int i :: st' ∧ i.toInt = y ∧ vs_s V nx st' S := by
  cases st with
  | nil => exact h.elim
  | cons v st => obtain ⟨⟨i, h1, h2⟩, h3⟩ := h; exact ⟨i, st, by rw [h1], h2, h3⟩
theorem vs_sJ {V : Nat → Value} {nx : Nat} {st : List Value} {y : Int} {S : List vi_V} (h : vs_s V nx st (.inr (.inl y) :: S)) : ∃ (i : Int64) (st' : List Value), st = .long i :: st' ∧ i.toInt = y ∧ vs_s V nx st' S := by
  cases st with
  | nil => exact h.elim
  | cons v st => obtain ⟨⟨i, h1, h2⟩, h3⟩ := h; exact ⟨i, st, by rw [h1], h2, h3⟩
theorem vs_sA {V : Nat → Value} {nx : Nat} {st : List Value} {q : Nat} {S : List vi_V} (h : vs_s V nx st (.inr (.inr q) :: S)) : ∃ (st' : List Value), st = V q :: st' ∧ q < nx ∧ vs_s V nx st' S := by
  cases st with
  | nil => exact h.elim
  | cons v st => obtain ⟨⟨h1, h2⟩, h3⟩ := h; exact ⟨st, by rw [h1], h2, h3⟩
theorem vs_sU {V : Nat → Value} {nx : Nat} {st : List Value} {u : vi_V} {S : List vi_V} (h : vs_s V nx st (u :: S)) : ∃ (v : Value) (st' : List Value), st = v :: st' ∧ vs_v V nx v u ∧ vs_s V nx st' S := by
  cases st with
  | nil => exact h.elim
  | cons v st => exact ⟨v, st, rfl, h.1, h.2⟩
theorem vs_sN {V : Nat → Value} {nx : Nat} {st : List Value} (h : vs_s V nx st []) : st = [] := by
  cases st with
  | nil => rfl
  | cons v st => exact h.elim
theorem vs_vref {b Ls : Nat} {xs : Nat → Int32} {adK adV : Nat → Nat} {fm : Value} {V : Nat → Value} {tys : List (ClassId × FieldType)} {ws : va_W} {w : vi_W} (hw : vs_w b Ls xs adK adV fm V tys ws w) {q : Nat} (hq : q < w.2.2.1) : V q = .null ∨ ∃ a : Nat, V q = .ref a := by
  obtain ⟨h1, ⟨h2, h3, h4, h5, h6⟩, h7⟩ := hw
  by_cases c0 : q = 0
  · subst c0; exact Or.inl h2.1
  by_cases c1 : q = 1
  · subst c1; exact Or.inr ⟨_, h3.1⟩
  by_cases c2 : q < 15
  · have := (h4 (q - 2) (by omega)).1
    rw [show 2 + (q - 2) = q by omega] at this
    exact Or.inr ⟨_, this⟩
  by_cases c3 : q < 28
  · have := (h5 (q - 15) (by omega)).1
    rw [show 15 + (q - 15) = q by omega] at this
    exact Or.inr ⟨_, this⟩
  by_cases c4 : q = 28
  · subst c4
    rw [h6.1]
    exact h6.2.2
  · have hlt : q - 29 < ws.length := by omega
    have := (h7 (q - 29) ws[q - 29].1 ws[q - 29].2 (List.getElem?_eq_getElem hlt)).1
    rw [show 29 + (q - 29) = q by omega] at this
    exact Or.inr ⟨_, this⟩
theorem vs_cat {b Ls : Nat} {xs : Nat → Int32} {adK adV : Nat → Nat} {fm : Value} {V : Nat → Value} {tys : List (ClassId × FieldType)} {ws : va_W} {w : vi_W} (hw : vs_w b Ls xs adK adV fm V tys ws w) {v : Value} {u : vi_V} (h : vs_v V w.2.2.1 v u) : v.category = vi_cat u := by
  rcases u with x | x | q
  · obtain ⟨i, rfl, -⟩ := h; rfl
  · obtain ⟨i, rfl, -⟩ := h; rfl
  · obtain ⟨rfl, hq⟩ := h
    rcases vs_vref hw hq with h | ⟨a, h⟩ <;> rw [h] <;> rfl
theorem vs_ld {V : Nat → Value} {nx n k : Nat} {ls : Array Slot} {L : vi_L} {u : vi_V} (h : vs_l V nx ls n L) (hk : vi_ld L k = some u) : ∃ v, ls[k]? = some (.val v) ∧ vs_v V nx v u := by
  obtain ⟨bs, h1, h2⟩ := h
  obtain ⟨v, h3, h4⟩ := h2 k u hk
  exact ⟨v, h1.2.2 _ h3, h4⟩
theorem vi_ld_s1 {v : vi_V} {u : vi_V} : ∀ {L : vi_L} {a k : Nat}, vi_ld (vi_s1 L a v) k = some u → (k = a ∧ u = v) ∨ (k ≠ a ∧ vi_ld L k = some u ∧ ¬ (k + 1 = a ∧ vi_isL (some u) = true)) := by
  intro L
  induction L with
  | nil => intro a k h; simp [vi_s1, vi_ld] at h
  | cons x L ih =>
    intro a k h
    match a, k with
    | 0, 0 => simp [vi_s1, vi_ld] at h; exact Or.inl ⟨rfl, h.symm⟩
    | 0, k + 1 => simp [vi_s1, vi_ld] at h; exact Or.inr ⟨by omega, by simpa [vi_ld] using h, by omega⟩
    | 1, 0 =>
      simp only [vi_s1, vi_ld] at h
      by_cases hx : vi_isL x = true
      · rw [if_pos hx] at h; cases h
      · rw [if_neg hx] at h
        exact Or.inr ⟨by omega, h, fun q => hx (by rw [h]; exact q.2)⟩
    | 1, k + 1 =>
      simp only [vi_s1, vi_ld] at h
      rcases ih h with ⟨h1, h2⟩ | ⟨h1, h2, h3⟩
      · exact Or.inl ⟨by omega, h2⟩
      · exact Or.inr ⟨by omega, h2, fun q => h3 ⟨by omega, q.2⟩⟩
    | a + 2, 0 => simp only [vi_s1, vi_ld] at h; exact Or.inr ⟨by omega, h, by omega⟩
    | a + 2, k + 1 =>
      simp only [vi_s1, vi_ld] at h
      rcases ih h with ⟨h1, h2⟩ | ⟨h1, h2, h3⟩
      · exact Or.inl ⟨by omega, h2⟩
      · exact Or.inr ⟨by omega, h2, fun q => h3 ⟨by omega, q.2⟩⟩
theorem vi_ld_s2 {v : vi_V} {u : vi_V} : ∀ {L : vi_L} {a k : Nat}, vi_ld (vi_s2 L a v) k = some u → (k = a ∧ u = v) ∨ (k ≠ a ∧ k ≠ a + 1 ∧ vi_ld L k = some u ∧ ¬ (k + 1 = a ∧ vi_isL (some u) = true)) := by
  intro L
  induction L with
  | nil => intro a k h; simp [vi_s2, vi_ld] at h
  | cons x L ih =>
    intro a k h
    cases L with
    | nil => simp [vi_s2, vi_ld] at h
    | cons y L =>
      match a, k with
      | 0, 0 => simp [vi_s2, vi_ld] at h; exact Or.inl ⟨rfl, h.symm⟩
      | 0, 1 => simp [vi_s2, vi_ld] at h
      | 0, k + 2 => simp [vi_s2, vi_ld] at h; exact Or.inr ⟨by omega, by omega, by simpa [vi_ld] using h, by omega⟩
      | 1, 0 =>
        simp only [vi_s2, vi_ld] at h
        by_cases hx : vi_isL x = true
        · rw [if_pos hx] at h; cases h
        · rw [if_neg hx] at h
          exact Or.inr ⟨by omega, by omega, h, fun q => hx (by rw [h]; exact q.2)⟩
      | 1, k + 1 =>
        simp only [vi_s2, vi_ld] at h
        rcases ih h with ⟨h1, h2⟩ | ⟨h1, h2, h3, h4⟩
        · exact Or.inl ⟨by omega, h2⟩
        · exact Or.inr ⟨by omega, by omega, h3, fun q => h4 ⟨by omega, q.2⟩⟩
      | a + 2, 0 => simp only [vi_s2, vi_ld] at h; exact Or.inr ⟨by omega, by omega, h, by omega⟩
      | a + 2, k + 1 =>
        simp only [vi_s2, vi_ld] at h
        rcases ih h with ⟨h1, h2⟩ | ⟨h1, h2, h3, h4⟩
        · exact Or.inl ⟨by omega, h2⟩
        · exact Or.inr ⟨by omega, by omega, h3, fun q => h4 ⟨by omega, q.2⟩⟩
theorem vs_isL {V : Nat → Value} {nx : Nat} {v : Value} {u : vi_V} (h : vs_v V nx v u) (hc : v.category = 2) (hr : ∀ q, u = .inr (.inr q) → v.category = 1) : vi_isL (some u) = true := by
  rcases u with x | x | q
  · obtain ⟨i, rfl, -⟩ := h; cases hc
  · rfl
  · rw [hr q rfl] at hc; cases hc
theorem vs_st1 {V : Nat → Value} {nx a : Nat} {bs : List (Nat × Value)} {L : vi_L} {v : Value} {u : vi_V} (hr : ∀ q, q < nx → (V q).category = 1) (h : vs_lb V nx bs L) (hv : vs_v V nx v u) : vs_lb V nx ((a, v) :: bs.filter (fun q => !(q.1 == a) && !(q.1 + 1 == a && q.2.category == 2))) (vi_s1 L a u) := by
  intro k u1 hk
  rcases vi_ld_s1 hk with ⟨rfl, rfl⟩ | ⟨h1, h2, h3⟩
  · exact ⟨v, List.mem_cons_self, hv⟩
  · obtain ⟨v1, h4, h5⟩ := h k u1 h2
    refine ⟨v1, List.mem_cons_of_mem _ (List.mem_filter.mpr ⟨h4, ?_⟩), h5⟩
    have : ¬ (k + 1 = a ∧ v1.category = 2) := fun q => h3 ⟨q.1, vs_isL h5 q.2 (fun q0 e => by rw [e] at h5; rw [h5.1]; exact hr _ h5.2)⟩
    simp only [Bool.and_eq_true, Bool.not_eq_true', beq_eq_false_iff_ne, Bool.and_eq_false_iff, ne_eq]
    refine ⟨h1, ?_⟩
    by_cases hc : k + 1 = a
    · exact Or.inr (fun q => this ⟨hc, q⟩)
    · exact Or.inl hc
theorem vs_st2 {V : Nat → Value} {nx a : Nat} {bs : List (Nat × Value)} {L : vi_L} {v : Value} {u : vi_V} (hr : ∀ q, q < nx → (V q).category = 1) (h : vs_lb V nx bs L) (hv : vs_v V nx v u) : vs_lb V nx ((a, v) :: bs.filter (fun q => !(q.1 == a) && (!(q.1 == a + 1) && !(q.1 + 1 == a && q.2.category == 2)))) (vi_s2 L a u) := by
  intro k u1 hk
  rcases vi_ld_s2 hk with ⟨rfl, rfl⟩ | ⟨h1, h1', h2, h3⟩
  · exact ⟨v, List.mem_cons_self, hv⟩
  · obtain ⟨v1, h4, h5⟩ := h k u1 h2
    refine ⟨v1, List.mem_cons_of_mem _ (List.mem_filter.mpr ⟨h4, ?_⟩), h5⟩
    have : ¬ (k + 1 = a ∧ v1.category = 2) := fun q => h3 ⟨q.1, vs_isL h5 q.2 (fun q0 e => by rw [e] at h5; rw [h5.1]; exact hr _ h5.2)⟩
    simp only [Bool.and_eq_true, Bool.not_eq_true', beq_eq_false_iff_ne, Bool.and_eq_false_iff, ne_eq]
    refine ⟨h1, h1', ?_⟩
    by_cases hc : k + 1 = a
    · exact Or.inr (fun q => this ⟨hc, q⟩)
    · exact Or.inl hc
theorem vs_cat1 {b Ls : Nat} {xs : Nat → Int32} {adK adV : Nat → Nat} {fm : Value} {V : Nat → Value} {tys : List (ClassId × FieldType)} {ws : va_W} {w : vi_W} (hw : vs_w b Ls xs adK adV fm V tys ws w) : ∀ q, q < w.2.2.1 → (V q).category = 1 := fun q hq => by
  rcases vs_vref hw hq with h | ⟨a, h⟩ <;> rw [h] <;> rfl
theorem vs_eq0 (x : Int32) : x = 0 ↔ x.toInt = 0 := vj_eq x 0
theorem vs_ne0 (x : Int32) : ¬ x = 0 ↔ x.toInt ≠ 0 := not_congr (vj_eq x 0)
theorem vs_lt0 (x : Int32) : x < 0 ↔ x.toInt < 0 := vj_lt x 0
theorem vs_ge0 (x : Int32) : 0 ≤ x ↔ 0 ≤ x.toInt := vj_le 0 x
theorem vs_gt0 (x : Int32) : 0 < x ↔ 0 < x.toInt := vj_lt 0 x
theorem vs_le0 (x : Int32) : x ≤ 0 ↔ x.toInt ≤ 0 := vj_le x 0
theorem vs_eq (x y : Int32) : x = y ↔ x.toInt = y.toInt := vj_eq x y
theorem vs_ne (x y : Int32) : ¬ x = y ↔ x.toInt ≠ y.toInt := not_congr (vj_eq x y)
theorem vs_lt (x y : Int32) : x < y ↔ x.toInt < y.toInt := vj_lt x y
theorem vs_ge (x y : Int32) : y ≤ x ↔ y.toInt ≤ x.toInt := vj_le y x
theorem vs_gt (x y : Int32) : y < x ↔ y.toInt < x.toInt := vj_lt y x
theorem vs_le (x y : Int32) : x ≤ y ↔ x.toInt ≤ y.toInt := vj_le x y
section VS
variable {p : Program} {l : Launch} {e : Env} {R : Room} {s : State} {mm : MethodId} {args : Array Value} {below : List Frame} {meth : Method} {c : Code} {Q : State → Prop}
variable {D : va_G} {z b Ls : Nat} {xs : Nat → Int32} {adK adV : Nat → Nat} {fm : Value}
variable {m : Nat} {V0 : Nat → Value} {nx0 : Nat} {cells slots pc : Nat} {L : vi_L} {S : List vi_V} {w : vi_W}
theorem vs_iadd (hF : vs_F p s args mm meth c m) (hd : decode (vi_by m) pc = .ok (.iadd, 1)) {x y : Int} (k : vs_G p l e R s mm args below meth c Q D z b Ls xs adK adV fm m V0 nx0 cells slots (pc + 1) L (.inl (vi_w32 (x + y)) :: S) w) : vs_G p l e R s mm args below meth c Q D z b Ls xs adK adV fm m V0 nx0 cells slots pc L (.inl y :: .inl x :: S) w := by
  intro V tys ws H locs hP hK hD hS hw hV ls st hl hs
  obtain ⟨y, st1, rfl, rfl, hs1⟩ := vs_sI hs
  obtain ⟨x, st2, rfl, rfl, hs2⟩ := vs_sI hs1
  exact lv_iadd hF.1 hF.2.1 hd (k V tys ws H locs hP hK hD hS hw hV ls _ hl ⟨⟨_, rfl, vj_add _ _⟩, hs2⟩)
theorem vs_isub (hF : vs_F p s args mm meth c m) (hd : decode (vi_by m) pc = .ok (.isub, 1)) {x y : Int} (k : vs_G p l e R s mm args below meth c Q D z b Ls xs adK adV fm m V0 nx0 cells slots (pc + 1) L (.inl (vi_w32 (x - y)) :: S) w) : vs_G p l e R s mm args below meth c Q D z b Ls xs adK adV fm m V0 nx0 cells slots pc L (.inl y :: .inl x :: S) w := by
  intro V tys ws H locs hP hK hD hS hw hV ls st hl hs
  obtain ⟨y, st1, rfl, rfl, hs1⟩ := vs_sI hs
  obtain ⟨x, st2, rfl, rfl, hs2⟩ := vs_sI hs1
  exact lv_isub hF.1 hF.2.1 hd (k V tys ws H locs hP hK hD hS hw hV ls _ hl ⟨⟨_, rfl, vj_sub _ _⟩, hs2⟩)
theorem vs_imul (hF : vs_F p s args mm meth c m) (hd : decode (vi_by m) pc = .ok (.imul, 1)) {x y : Int} (k : vs_G p l e R s mm args below meth c Q D z b Ls xs adK adV fm m V0 nx0 cells slots (pc + 1) L (.inl (vi_w32 (x * y)) :: S) w) : vs_G p l e R s mm args below meth c Q D z b Ls xs adK adV fm m V0 nx0 cells slots pc L (.inl y :: .inl x :: S) w := by
  intro V tys ws H locs hP hK hD hS hw hV ls st hl hs
  obtain ⟨y, st1, rfl, rfl, hs1⟩ := vs_sI hs
  obtain ⟨x, st2, rfl, rfl, hs2⟩ := vs_sI hs1
  exact lv_imul hF.1 hF.2.1 hd (k V tys ws H locs hP hK hD hS hw hV ls _ hl ⟨⟨_, rfl, vj_mul _ _⟩, hs2⟩)
theorem vs_iand (hF : vs_F p s args mm meth c m) (hd : decode (vi_by m) pc = .ok (.iand, 1)) {x y : Int} (k : vs_G p l e R s mm args below meth c Q D z b Ls xs adK adV fm m V0 nx0 cells slots (pc + 1) L (.inl (vi_and32 x y) :: S) w) : vs_G p l e R s mm args below meth c Q D z b Ls xs adK adV fm m V0 nx0 cells slots pc L (.inl y :: .inl x :: S) w := by
  intro V tys ws H locs hP hK hD hS hw hV ls st hl hs
  obtain ⟨y, st1, rfl, rfl, hs1⟩ := vs_sI hs
  obtain ⟨x, st2, rfl, rfl, hs2⟩ := vs_sI hs1
  exact lv_iand hF.1 hF.2.1 hd (k V tys ws H locs hP hK hD hS hw hV ls _ hl ⟨⟨_, rfl, vj_and _ _⟩, hs2⟩)
theorem vs_ior (hF : vs_F p s args mm meth c m) (hd : decode (vi_by m) pc = .ok (.ior, 1)) {x y : Int} (k : vs_G p l e R s mm args below meth c Q D z b Ls xs adK adV fm m V0 nx0 cells slots (pc + 1) L (.inl (vi_or32 x y) :: S) w) : vs_G p l e R s mm args below meth c Q D z b Ls xs adK adV fm m V0 nx0 cells slots pc L (.inl y :: .inl x :: S) w := by
  intro V tys ws H locs hP hK hD hS hw hV ls st hl hs
  obtain ⟨y, st1, rfl, rfl, hs1⟩ := vs_sI hs
  obtain ⟨x, st2, rfl, rfl, hs2⟩ := vs_sI hs1
  exact lv_ior hF.1 hF.2.1 hd (k V tys ws H locs hP hK hD hS hw hV ls _ hl ⟨⟨_, rfl, vj_or _ _⟩, hs2⟩)
theorem vs_ixor (hF : vs_F p s args mm meth c m) (hd : decode (vi_by m) pc = .ok (.ixor, 1)) {x y : Int} (k : vs_G p l e R s mm args below meth c Q D z b Ls xs adK adV fm m V0 nx0 cells slots (pc + 1) L (.inl (vi_xor32 x y) :: S) w) : vs_G p l e R s mm args below meth c Q D z b Ls xs adK adV fm m V0 nx0 cells slots pc L (.inl y :: .inl x :: S) w := by
  intro V tys ws H locs hP hK hD hS hw hV ls st hl hs
  obtain ⟨y, st1, rfl, rfl, hs1⟩ := vs_sI hs
  obtain ⟨x, st2, rfl, rfl, hs2⟩ := vs_sI hs1
  exact lv_ixor hF.1 hF.2.1 hd (k V tys ws H locs hP hK hD hS hw hV ls _ hl ⟨⟨_, rfl, vj_xor _ _⟩, hs2⟩)
theorem vs_ishl (hF : vs_F p s args mm meth c m) (hd : decode (vi_by m) pc = .ok (.ishl, 1)) {x y : Int} (k : vs_G p l e R s mm args below meth c Q D z b Ls xs adK adV fm m V0 nx0 cells slots (pc + 1) L (.inl (vi_shl32 x y) :: S) w) : vs_G p l e R s mm args below meth c Q D z b Ls xs adK adV fm m V0 nx0 cells slots pc L (.inl y :: .inl x :: S) w := by
  intro V tys ws H locs hP hK hD hS hw hV ls st hl hs
  obtain ⟨y, st1, rfl, rfl, hs1⟩ := vs_sI hs
  obtain ⟨x, st2, rfl, rfl, hs2⟩ := vs_sI hs1
  exact lv_ishl hF.1 hF.2.1 hd (k V tys ws H locs hP hK hD hS hw hV ls _ hl ⟨⟨_, rfl, vj_shl _ _⟩, hs2⟩)
theorem vs_ishr (hF : vs_F p s args mm meth c m) (hd : decode (vi_by m) pc = .ok (.ishr, 1)) {x y : Int} (k : vs_G p l e R s mm args below meth c Q D z b Ls xs adK adV fm m V0 nx0 cells slots (pc + 1) L (.inl (vi_shr32 x y) :: S) w) : vs_G p l e R s mm args below meth c Q D z b Ls xs adK adV fm m V0 nx0 cells slots pc L (.inl y :: .inl x :: S) w := by
  intro V tys ws H locs hP hK hD hS hw hV ls st hl hs
  obtain ⟨y, st1, rfl, rfl, hs1⟩ := vs_sI hs
  obtain ⟨x, st2, rfl, rfl, hs2⟩ := vs_sI hs1
  exact lv_ishr hF.1 hF.2.1 hd (k V tys ws H locs hP hK hD hS hw hV ls _ hl ⟨⟨_, rfl, vj_shr _ _⟩, hs2⟩)
theorem vs_iushr (hF : vs_F p s args mm meth c m) (hd : decode (vi_by m) pc = .ok (.iushr, 1)) {x y : Int} (k : vs_G p l e R s mm args below meth c Q D z b Ls xs adK adV fm m V0 nx0 cells slots (pc + 1) L (.inl (vi_ushr32 x y) :: S) w) : vs_G p l e R s mm args below meth c Q D z b Ls xs adK adV fm m V0 nx0 cells slots pc L (.inl y :: .inl x :: S) w := by
  intro V tys ws H locs hP hK hD hS hw hV ls st hl hs
  obtain ⟨y, st1, rfl, rfl, hs1⟩ := vs_sI hs
  obtain ⟨x, st2, rfl, rfl, hs2⟩ := vs_sI hs1
  exact lv_iushr hF.1 hF.2.1 hd rfl (k V tys ws H locs hP hK hD hS hw hV ls _ hl ⟨⟨_, rfl, vj_ushr _ _⟩, hs2⟩)
theorem vs_ladd (hF : vs_F p s args mm meth c m) (hd : decode (vi_by m) pc = .ok (.ladd, 1)) {x y : Int} (k : vs_G p l e R s mm args below meth c Q D z b Ls xs adK adV fm m V0 nx0 cells slots (pc + 1) L (.inr (.inl (vi_w64 (x + y))) :: S) w) : vs_G p l e R s mm args below meth c Q D z b Ls xs adK adV fm m V0 nx0 cells slots pc L (.inr (.inl y) :: .inr (.inl x) :: S) w := by
  intro V tys ws H locs hP hK hD hS hw hV ls st hl hs
  obtain ⟨y, st1, rfl, rfl, hs1⟩ := vs_sJ hs
  obtain ⟨x, st2, rfl, rfl, hs2⟩ := vs_sJ hs1
  exact lv_ladd hF.1 hF.2.1 hd (k V tys ws H locs hP hK hD hS hw hV ls _ hl ⟨⟨_, rfl, vj_addL _ _⟩, hs2⟩)
theorem vs_lsub (hF : vs_F p s args mm meth c m) (hd : decode (vi_by m) pc = .ok (.lsub, 1)) {x y : Int} (k : vs_G p l e R s mm args below meth c Q D z b Ls xs adK adV fm m V0 nx0 cells slots (pc + 1) L (.inr (.inl (vi_w64 (x - y))) :: S) w) : vs_G p l e R s mm args below meth c Q D z b Ls xs adK adV fm m V0 nx0 cells slots pc L (.inr (.inl y) :: .inr (.inl x) :: S) w := by
  intro V tys ws H locs hP hK hD hS hw hV ls st hl hs
  obtain ⟨y, st1, rfl, rfl, hs1⟩ := vs_sJ hs
  obtain ⟨x, st2, rfl, rfl, hs2⟩ := vs_sJ hs1
  exact lv_lsub hF.1 hF.2.1 hd (k V tys ws H locs hP hK hD hS hw hV ls _ hl ⟨⟨_, rfl, vj_subL _ _⟩, hs2⟩)
theorem vs_lmul (hF : vs_F p s args mm meth c m) (hd : decode (vi_by m) pc = .ok (.lmul, 1)) {x y : Int} (k : vs_G p l e R s mm args below meth c Q D z b Ls xs adK adV fm m V0 nx0 cells slots (pc + 1) L (.inr (.inl (vi_w64 (x * y))) :: S) w) : vs_G p l e R s mm args below meth c Q D z b Ls xs adK adV fm m V0 nx0 cells slots pc L (.inr (.inl y) :: .inr (.inl x) :: S) w := by
  intro V tys ws H locs hP hK hD hS hw hV ls st hl hs
  obtain ⟨y, st1, rfl, rfl, hs1⟩ := vs_sJ hs
  obtain ⟨x, st2, rfl, rfl, hs2⟩ := vs_sJ hs1
  exact lv_lmul hF.1 hF.2.1 hd (k V tys ws H locs hP hK hD hS hw hV ls _ hl ⟨⟨_, rfl, vj_mulL _ _⟩, hs2⟩)
theorem vs_land (hF : vs_F p s args mm meth c m) (hd : decode (vi_by m) pc = .ok (.land, 1)) {x y : Int} (k : vs_G p l e R s mm args below meth c Q D z b Ls xs adK adV fm m V0 nx0 cells slots (pc + 1) L (.inr (.inl (vi_and64 x y)) :: S) w) : vs_G p l e R s mm args below meth c Q D z b Ls xs adK adV fm m V0 nx0 cells slots pc L (.inr (.inl y) :: .inr (.inl x) :: S) w := by
  intro V tys ws H locs hP hK hD hS hw hV ls st hl hs
  obtain ⟨y, st1, rfl, rfl, hs1⟩ := vs_sJ hs
  obtain ⟨x, st2, rfl, rfl, hs2⟩ := vs_sJ hs1
  exact lv_land hF.1 hF.2.1 hd (k V tys ws H locs hP hK hD hS hw hV ls _ hl ⟨⟨_, rfl, vj_andL _ _⟩, hs2⟩)
theorem vs_lor (hF : vs_F p s args mm meth c m) (hd : decode (vi_by m) pc = .ok (.lor, 1)) {x y : Int} (k : vs_G p l e R s mm args below meth c Q D z b Ls xs adK adV fm m V0 nx0 cells slots (pc + 1) L (.inr (.inl (vi_or64 x y)) :: S) w) : vs_G p l e R s mm args below meth c Q D z b Ls xs adK adV fm m V0 nx0 cells slots pc L (.inr (.inl y) :: .inr (.inl x) :: S) w := by
  intro V tys ws H locs hP hK hD hS hw hV ls st hl hs
  obtain ⟨y, st1, rfl, rfl, hs1⟩ := vs_sJ hs
  obtain ⟨x, st2, rfl, rfl, hs2⟩ := vs_sJ hs1
  exact lv_lor hF.1 hF.2.1 hd (k V tys ws H locs hP hK hD hS hw hV ls _ hl ⟨⟨_, rfl, vj_orL _ _⟩, hs2⟩)
theorem vs_lxor (hF : vs_F p s args mm meth c m) (hd : decode (vi_by m) pc = .ok (.lxor, 1)) {x y : Int} (k : vs_G p l e R s mm args below meth c Q D z b Ls xs adK adV fm m V0 nx0 cells slots (pc + 1) L (.inr (.inl (vi_xor64 x y)) :: S) w) : vs_G p l e R s mm args below meth c Q D z b Ls xs adK adV fm m V0 nx0 cells slots pc L (.inr (.inl y) :: .inr (.inl x) :: S) w := by
  intro V tys ws H locs hP hK hD hS hw hV ls st hl hs
  obtain ⟨y, st1, rfl, rfl, hs1⟩ := vs_sJ hs
  obtain ⟨x, st2, rfl, rfl, hs2⟩ := vs_sJ hs1
  exact lv_lxor hF.1 hF.2.1 hd (k V tys ws H locs hP hK hD hS hw hV ls _ hl ⟨⟨_, rfl, vj_xorL _ _⟩, hs2⟩)
theorem vs_lshl (hF : vs_F p s args mm meth c m) (hd : decode (vi_by m) pc = .ok (.lshl, 1)) {x y : Int} (k : vs_G p l e R s mm args below meth c Q D z b Ls xs adK adV fm m V0 nx0 cells slots (pc + 1) L (.inr (.inl (vi_shl64 x y)) :: S) w) : vs_G p l e R s mm args below meth c Q D z b Ls xs adK adV fm m V0 nx0 cells slots pc L (.inl y :: .inr (.inl x) :: S) w := by
  intro V tys ws H locs hP hK hD hS hw hV ls st hl hs
  obtain ⟨y, st1, rfl, rfl, hs1⟩ := vs_sI hs
  obtain ⟨x, st2, rfl, rfl, hs2⟩ := vs_sJ hs1
  exact lv_lshl hF.1 hF.2.1 hd rfl (k V tys ws H locs hP hK hD hS hw hV ls _ hl ⟨⟨_, rfl, vj_shlL _ _⟩, hs2⟩)
theorem vs_lshr (hF : vs_F p s args mm meth c m) (hd : decode (vi_by m) pc = .ok (.lshr, 1)) {x y : Int} (k : vs_G p l e R s mm args below meth c Q D z b Ls xs adK adV fm m V0 nx0 cells slots (pc + 1) L (.inr (.inl (vi_shr64 x y)) :: S) w) : vs_G p l e R s mm args below meth c Q D z b Ls xs adK adV fm m V0 nx0 cells slots pc L (.inl y :: .inr (.inl x) :: S) w := by
  intro V tys ws H locs hP hK hD hS hw hV ls st hl hs
  obtain ⟨y, st1, rfl, rfl, hs1⟩ := vs_sI hs
  obtain ⟨x, st2, rfl, rfl, hs2⟩ := vs_sJ hs1
  exact lv_lshr hF.1 hF.2.1 hd rfl (k V tys ws H locs hP hK hD hS hw hV ls _ hl ⟨⟨_, rfl, vj_shrL _ _⟩, hs2⟩)
theorem vs_lushr (hF : vs_F p s args mm meth c m) (hd : decode (vi_by m) pc = .ok (.lushr, 1)) {x y : Int} (k : vs_G p l e R s mm args below meth c Q D z b Ls xs adK adV fm m V0 nx0 cells slots (pc + 1) L (.inr (.inl (vi_ushr64 x y)) :: S) w) : vs_G p l e R s mm args below meth c Q D z b Ls xs adK adV fm m V0 nx0 cells slots pc L (.inl y :: .inr (.inl x) :: S) w := by
  intro V tys ws H locs hP hK hD hS hw hV ls st hl hs
  obtain ⟨y, st1, rfl, rfl, hs1⟩ := vs_sI hs
  obtain ⟨x, st2, rfl, rfl, hs2⟩ := vs_sJ hs1
  exact lv_lushr hF.1 hF.2.1 hd rfl (k V tys ws H locs hP hK hD hS hw hV ls _ hl ⟨⟨_, rfl, vj_ushrL _ _⟩, hs2⟩)
theorem vs_idiv (hF : vs_F p s args mm meth c m) (hd : decode (vi_by m) pc = .ok (.idiv, 1)) {x y : Int} (hy : ¬ y = 0) (k : vs_G p l e R s mm args below meth c Q D z b Ls xs adK adV fm m V0 nx0 cells slots (pc + 1) L (.inl (vi_w32 (x.tdiv y)) :: S) w) : vs_G p l e R s mm args below meth c Q D z b Ls xs adK adV fm m V0 nx0 cells slots pc L (.inl y :: .inl x :: S) w := by
  intro V tys ws H locs hP hK hD hS hw hV ls st hl hs
  obtain ⟨y, st1, rfl, rfl, hs1⟩ := vs_sI hs
  obtain ⟨x, st2, rfl, rfl, hs2⟩ := vs_sI hs1
  exact lv_idiv hF.1 hF.2.1 hd (fun q => hy (by rw [q]; rfl)) (k V tys ws H locs hP hK hD hS hw hV ls _ hl ⟨⟨_, rfl, vj_div _ _⟩, hs2⟩)
theorem vs_irem (hF : vs_F p s args mm meth c m) (hd : decode (vi_by m) pc = .ok (.irem, 1)) {x y : Int} (hy : ¬ y = 0) (k : vs_G p l e R s mm args below meth c Q D z b Ls xs adK adV fm m V0 nx0 cells slots (pc + 1) L (.inl (x.tmod y) :: S) w) : vs_G p l e R s mm args below meth c Q D z b Ls xs adK adV fm m V0 nx0 cells slots pc L (.inl y :: .inl x :: S) w := by
  intro V tys ws H locs hP hK hD hS hw hV ls st hl hs
  obtain ⟨y, st1, rfl, rfl, hs1⟩ := vs_sI hs
  obtain ⟨x, st2, rfl, rfl, hs2⟩ := vs_sI hs1
  exact lv_irem hF.1 hF.2.1 hd (fun q => hy (by rw [q]; rfl)) (k V tys ws H locs hP hK hD hS hw hV ls _ hl ⟨⟨_, rfl, vj_rem _ _⟩, hs2⟩)
theorem vs_ldiv (hF : vs_F p s args mm meth c m) (hd : decode (vi_by m) pc = .ok (.ldiv, 1)) {x y : Int} (hy : ¬ y = 0) (k : vs_G p l e R s mm args below meth c Q D z b Ls xs adK adV fm m V0 nx0 cells slots (pc + 1) L (.inr (.inl (vi_w64 (x.tdiv y))) :: S) w) : vs_G p l e R s mm args below meth c Q D z b Ls xs adK adV fm m V0 nx0 cells slots pc L (.inr (.inl y) :: .inr (.inl x) :: S) w := by
  intro V tys ws H locs hP hK hD hS hw hV ls st hl hs
  obtain ⟨y, st1, rfl, rfl, hs1⟩ := vs_sJ hs
  obtain ⟨x, st2, rfl, rfl, hs2⟩ := vs_sJ hs1
  exact lv_ldiv hF.1 hF.2.1 hd (fun q => hy (by rw [q]; rfl)) (k V tys ws H locs hP hK hD hS hw hV ls _ hl ⟨⟨_, rfl, vj_divL _ _⟩, hs2⟩)
theorem vs_lrem (hF : vs_F p s args mm meth c m) (hd : decode (vi_by m) pc = .ok (.lrem, 1)) {x y : Int} (hy : ¬ y = 0) (k : vs_G p l e R s mm args below meth c Q D z b Ls xs adK adV fm m V0 nx0 cells slots (pc + 1) L (.inr (.inl (x.tmod y)) :: S) w) : vs_G p l e R s mm args below meth c Q D z b Ls xs adK adV fm m V0 nx0 cells slots pc L (.inr (.inl y) :: .inr (.inl x) :: S) w := by
  intro V tys ws H locs hP hK hD hS hw hV ls st hl hs
  obtain ⟨y, st1, rfl, rfl, hs1⟩ := vs_sJ hs
  obtain ⟨x, st2, rfl, rfl, hs2⟩ := vs_sJ hs1
  exact lv_lrem hF.1 hF.2.1 hd (fun q => hy (by rw [q]; rfl)) (k V tys ws H locs hP hK hD hS hw hV ls _ hl ⟨⟨_, rfl, vj_remL _ _⟩, hs2⟩)
theorem vs_ineg (hF : vs_F p s args mm meth c m) (hd : decode (vi_by m) pc = .ok (.ineg, 1)) {x : Int} (k : vs_G p l e R s mm args below meth c Q D z b Ls xs adK adV fm m V0 nx0 cells slots (pc + 1) L (.inl (vi_w32 (-x)) :: S) w) : vs_G p l e R s mm args below meth c Q D z b Ls xs adK adV fm m V0 nx0 cells slots pc L (.inl x :: S) w := by
  intro V tys ws H locs hP hK hD hS hw hV ls st hl hs
  obtain ⟨x, st1, rfl, rfl, hs1⟩ := vs_sI hs
  exact lv_ineg hF.1 hF.2.1 hd (k V tys ws H locs hP hK hD hS hw hV ls _ hl ⟨⟨_, rfl, vj_neg _⟩, hs1⟩)
theorem vs_i2b (hF : vs_F p s args mm meth c m) (hd : decode (vi_by m) pc = .ok (.i2b, 1)) {x : Int} (k : vs_G p l e R s mm args below meth c Q D z b Ls xs adK adV fm m V0 nx0 cells slots (pc + 1) L (.inl (vi_nar 3 x) :: S) w) : vs_G p l e R s mm args below meth c Q D z b Ls xs adK adV fm m V0 nx0 cells slots pc L (.inl x :: S) w := by
  intro V tys ws H locs hP hK hD hS hw hV ls st hl hs
  obtain ⟨x, st1, rfl, rfl, hs1⟩ := vs_sI hs
  exact lv_i2b hF.1 hF.2.1 hd rfl (k V tys ws H locs hP hK hD hS hw hV ls _ hl ⟨⟨_, rfl, vj_i2b _⟩, hs1⟩)
theorem vs_i2s (hF : vs_F p s args mm meth c m) (hd : decode (vi_by m) pc = .ok (.i2s, 1)) {x : Int} (k : vs_G p l e R s mm args below meth c Q D z b Ls xs adK adV fm m V0 nx0 cells slots (pc + 1) L (.inl (vi_nar 6 x) :: S) w) : vs_G p l e R s mm args below meth c Q D z b Ls xs adK adV fm m V0 nx0 cells slots pc L (.inl x :: S) w := by
  intro V tys ws H locs hP hK hD hS hw hV ls st hl hs
  obtain ⟨x, st1, rfl, rfl, hs1⟩ := vs_sI hs
  exact lv_i2s hF.1 hF.2.1 hd rfl (k V tys ws H locs hP hK hD hS hw hV ls _ hl ⟨⟨_, rfl, vj_i2s _⟩, hs1⟩)
theorem vs_if_eq (hF : vs_F p s args mm meth c m) {off : Int} {tgt : Nat} (hd : decode (vi_by m) pc = .ok (.ifCond .eq off, 3)) (ht : (pc : Int) + off = (tgt : Int)) {x : Int} (k1 : x = 0 → vs_G p l e R s mm args below meth c Q D z b Ls xs adK adV fm m V0 nx0 cells slots tgt L S w) (k2 : ¬ (x = 0) → vs_G p l e R s mm args below meth c Q D z b Ls xs adK adV fm m V0 nx0 cells slots (pc + 3) L S w) : vs_G p l e R s mm args below meth c Q D z b Ls xs adK adV fm m V0 nx0 cells slots pc L (.inl x :: S) w := by
  intro V tys ws H locs hP hK hD hS hw hV ls st hl hs
  obtain ⟨x, st1, rfl, rfl, hs1⟩ := vs_sI hs
  exact lv_if_eq hF.1 hF.2.1 hd ht (fun q => k1 ((vs_eq0 x).mp q) V tys ws H locs hP hK hD hS hw hV ls _ hl hs1) (fun q => k2 (fun r => q ((vs_eq0 x).mpr r)) V tys ws H locs hP hK hD hS hw hV ls _ hl hs1)
theorem vs_icmp_eq (hF : vs_F p s args mm meth c m) {off : Int} {tgt : Nat} (hd : decode (vi_by m) pc = .ok (.if_icmp .eq off, 3)) (ht : (pc : Int) + off = (tgt : Int)) {x y : Int} (k1 : x = y → vs_G p l e R s mm args below meth c Q D z b Ls xs adK adV fm m V0 nx0 cells slots tgt L S w) (k2 : ¬ (x = y) → vs_G p l e R s mm args below meth c Q D z b Ls xs adK adV fm m V0 nx0 cells slots (pc + 3) L S w) : vs_G p l e R s mm args below meth c Q D z b Ls xs adK adV fm m V0 nx0 cells slots pc L (.inl y :: .inl x :: S) w := by
  intro V tys ws H locs hP hK hD hS hw hV ls st hl hs
  obtain ⟨y, st1, rfl, rfl, hs1⟩ := vs_sI hs
  obtain ⟨x, st2, rfl, rfl, hs2⟩ := vs_sI hs1
  exact lv_icmp_eq hF.1 hF.2.1 hd ht (fun q => k1 ((vs_eq x y).mp q) V tys ws H locs hP hK hD hS hw hV ls _ hl hs2) (fun q => k2 (fun r => q ((vs_eq x y).mpr r)) V tys ws H locs hP hK hD hS hw hV ls _ hl hs2)
theorem vs_if_ne (hF : vs_F p s args mm meth c m) {off : Int} {tgt : Nat} (hd : decode (vi_by m) pc = .ok (.ifCond .ne off, 3)) (ht : (pc : Int) + off = (tgt : Int)) {x : Int} (k1 : x ≠ 0 → vs_G p l e R s mm args below meth c Q D z b Ls xs adK adV fm m V0 nx0 cells slots tgt L S w) (k2 : ¬ (x ≠ 0) → vs_G p l e R s mm args below meth c Q D z b Ls xs adK adV fm m V0 nx0 cells slots (pc + 3) L S w) : vs_G p l e R s mm args below meth c Q D z b Ls xs adK adV fm m V0 nx0 cells slots pc L (.inl x :: S) w := by
  intro V tys ws H locs hP hK hD hS hw hV ls st hl hs
  obtain ⟨x, st1, rfl, rfl, hs1⟩ := vs_sI hs
  exact lv_if_ne hF.1 hF.2.1 hd ht (fun q => k1 ((vs_ne0 x).mp q) V tys ws H locs hP hK hD hS hw hV ls _ hl hs1) (fun q => k2 (fun r => (vs_ne0 x).mpr r q) V tys ws H locs hP hK hD hS hw hV ls _ hl hs1)
theorem vs_icmp_ne (hF : vs_F p s args mm meth c m) {off : Int} {tgt : Nat} (hd : decode (vi_by m) pc = .ok (.if_icmp .ne off, 3)) (ht : (pc : Int) + off = (tgt : Int)) {x y : Int} (k1 : x ≠ y → vs_G p l e R s mm args below meth c Q D z b Ls xs adK adV fm m V0 nx0 cells slots tgt L S w) (k2 : ¬ (x ≠ y) → vs_G p l e R s mm args below meth c Q D z b Ls xs adK adV fm m V0 nx0 cells slots (pc + 3) L S w) : vs_G p l e R s mm args below meth c Q D z b Ls xs adK adV fm m V0 nx0 cells slots pc L (.inl y :: .inl x :: S) w := by
  intro V tys ws H locs hP hK hD hS hw hV ls st hl hs
  obtain ⟨y, st1, rfl, rfl, hs1⟩ := vs_sI hs
  obtain ⟨x, st2, rfl, rfl, hs2⟩ := vs_sI hs1
  exact lv_icmp_ne hF.1 hF.2.1 hd ht (fun q => k1 ((vs_ne x y).mp q) V tys ws H locs hP hK hD hS hw hV ls _ hl hs2) (fun q => k2 (fun r => (vs_ne x y).mpr r q) V tys ws H locs hP hK hD hS hw hV ls _ hl hs2)
theorem vs_if_lt (hF : vs_F p s args mm meth c m) {off : Int} {tgt : Nat} (hd : decode (vi_by m) pc = .ok (.ifCond .lt off, 3)) (ht : (pc : Int) + off = (tgt : Int)) {x : Int} (k1 : x < 0 → vs_G p l e R s mm args below meth c Q D z b Ls xs adK adV fm m V0 nx0 cells slots tgt L S w) (k2 : ¬ (x < 0) → vs_G p l e R s mm args below meth c Q D z b Ls xs adK adV fm m V0 nx0 cells slots (pc + 3) L S w) : vs_G p l e R s mm args below meth c Q D z b Ls xs adK adV fm m V0 nx0 cells slots pc L (.inl x :: S) w := by
  intro V tys ws H locs hP hK hD hS hw hV ls st hl hs
  obtain ⟨x, st1, rfl, rfl, hs1⟩ := vs_sI hs
  exact lv_if_lt hF.1 hF.2.1 hd ht (fun q => k1 ((vs_lt0 x).mp q) V tys ws H locs hP hK hD hS hw hV ls _ hl hs1) (fun q => k2 (fun r => q ((vs_lt0 x).mpr r)) V tys ws H locs hP hK hD hS hw hV ls _ hl hs1)
theorem vs_icmp_lt (hF : vs_F p s args mm meth c m) {off : Int} {tgt : Nat} (hd : decode (vi_by m) pc = .ok (.if_icmp .lt off, 3)) (ht : (pc : Int) + off = (tgt : Int)) {x y : Int} (k1 : x < y → vs_G p l e R s mm args below meth c Q D z b Ls xs adK adV fm m V0 nx0 cells slots tgt L S w) (k2 : ¬ (x < y) → vs_G p l e R s mm args below meth c Q D z b Ls xs adK adV fm m V0 nx0 cells slots (pc + 3) L S w) : vs_G p l e R s mm args below meth c Q D z b Ls xs adK adV fm m V0 nx0 cells slots pc L (.inl y :: .inl x :: S) w := by
  intro V tys ws H locs hP hK hD hS hw hV ls st hl hs
  obtain ⟨y, st1, rfl, rfl, hs1⟩ := vs_sI hs
  obtain ⟨x, st2, rfl, rfl, hs2⟩ := vs_sI hs1
  exact lv_icmp_lt hF.1 hF.2.1 hd ht (fun q => k1 ((vs_lt x y).mp q) V tys ws H locs hP hK hD hS hw hV ls _ hl hs2) (fun q => k2 (fun r => q ((vs_lt x y).mpr r)) V tys ws H locs hP hK hD hS hw hV ls _ hl hs2)
theorem vs_if_ge (hF : vs_F p s args mm meth c m) {off : Int} {tgt : Nat} (hd : decode (vi_by m) pc = .ok (.ifCond .ge off, 3)) (ht : (pc : Int) + off = (tgt : Int)) {x : Int} (k1 : 0 ≤ x → vs_G p l e R s mm args below meth c Q D z b Ls xs adK adV fm m V0 nx0 cells slots tgt L S w) (k2 : ¬ (0 ≤ x) → vs_G p l e R s mm args below meth c Q D z b Ls xs adK adV fm m V0 nx0 cells slots (pc + 3) L S w) : vs_G p l e R s mm args below meth c Q D z b Ls xs adK adV fm m V0 nx0 cells slots pc L (.inl x :: S) w := by
  intro V tys ws H locs hP hK hD hS hw hV ls st hl hs
  obtain ⟨x, st1, rfl, rfl, hs1⟩ := vs_sI hs
  exact lv_if_ge hF.1 hF.2.1 hd ht (fun q => k1 ((vs_ge0 x).mp q) V tys ws H locs hP hK hD hS hw hV ls _ hl hs1) (fun q => k2 (fun r => q ((vs_ge0 x).mpr r)) V tys ws H locs hP hK hD hS hw hV ls _ hl hs1)
theorem vs_icmp_ge (hF : vs_F p s args mm meth c m) {off : Int} {tgt : Nat} (hd : decode (vi_by m) pc = .ok (.if_icmp .ge off, 3)) (ht : (pc : Int) + off = (tgt : Int)) {x y : Int} (k1 : y ≤ x → vs_G p l e R s mm args below meth c Q D z b Ls xs adK adV fm m V0 nx0 cells slots tgt L S w) (k2 : ¬ (y ≤ x) → vs_G p l e R s mm args below meth c Q D z b Ls xs adK adV fm m V0 nx0 cells slots (pc + 3) L S w) : vs_G p l e R s mm args below meth c Q D z b Ls xs adK adV fm m V0 nx0 cells slots pc L (.inl y :: .inl x :: S) w := by
  intro V tys ws H locs hP hK hD hS hw hV ls st hl hs
  obtain ⟨y, st1, rfl, rfl, hs1⟩ := vs_sI hs
  obtain ⟨x, st2, rfl, rfl, hs2⟩ := vs_sI hs1
  exact lv_icmp_ge hF.1 hF.2.1 hd ht (fun q => k1 ((vs_ge x y).mp q) V tys ws H locs hP hK hD hS hw hV ls _ hl hs2) (fun q => k2 (fun r => q ((vs_ge x y).mpr r)) V tys ws H locs hP hK hD hS hw hV ls _ hl hs2)
theorem vs_if_gt (hF : vs_F p s args mm meth c m) {off : Int} {tgt : Nat} (hd : decode (vi_by m) pc = .ok (.ifCond .gt off, 3)) (ht : (pc : Int) + off = (tgt : Int)) {x : Int} (k1 : 0 < x → vs_G p l e R s mm args below meth c Q D z b Ls xs adK adV fm m V0 nx0 cells slots tgt L S w) (k2 : ¬ (0 < x) → vs_G p l e R s mm args below meth c Q D z b Ls xs adK adV fm m V0 nx0 cells slots (pc + 3) L S w) : vs_G p l e R s mm args below meth c Q D z b Ls xs adK adV fm m V0 nx0 cells slots pc L (.inl x :: S) w := by
  intro V tys ws H locs hP hK hD hS hw hV ls st hl hs
  obtain ⟨x, st1, rfl, rfl, hs1⟩ := vs_sI hs
  exact lv_if_gt hF.1 hF.2.1 hd ht (fun q => k1 ((vs_gt0 x).mp q) V tys ws H locs hP hK hD hS hw hV ls _ hl hs1) (fun q => k2 (fun r => q ((vs_gt0 x).mpr r)) V tys ws H locs hP hK hD hS hw hV ls _ hl hs1)
theorem vs_icmp_gt (hF : vs_F p s args mm meth c m) {off : Int} {tgt : Nat} (hd : decode (vi_by m) pc = .ok (.if_icmp .gt off, 3)) (ht : (pc : Int) + off = (tgt : Int)) {x y : Int} (k1 : y < x → vs_G p l e R s mm args below meth c Q D z b Ls xs adK adV fm m V0 nx0 cells slots tgt L S w) (k2 : ¬ (y < x) → vs_G p l e R s mm args below meth c Q D z b Ls xs adK adV fm m V0 nx0 cells slots (pc + 3) L S w) : vs_G p l e R s mm args below meth c Q D z b Ls xs adK adV fm m V0 nx0 cells slots pc L (.inl y :: .inl x :: S) w := by
  intro V tys ws H locs hP hK hD hS hw hV ls st hl hs
  obtain ⟨y, st1, rfl, rfl, hs1⟩ := vs_sI hs
  obtain ⟨x, st2, rfl, rfl, hs2⟩ := vs_sI hs1
  exact lv_icmp_gt hF.1 hF.2.1 hd ht (fun q => k1 ((vs_gt x y).mp q) V tys ws H locs hP hK hD hS hw hV ls _ hl hs2) (fun q => k2 (fun r => q ((vs_gt x y).mpr r)) V tys ws H locs hP hK hD hS hw hV ls _ hl hs2)
theorem vs_if_le (hF : vs_F p s args mm meth c m) {off : Int} {tgt : Nat} (hd : decode (vi_by m) pc = .ok (.ifCond .le off, 3)) (ht : (pc : Int) + off = (tgt : Int)) {x : Int} (k1 : x ≤ 0 → vs_G p l e R s mm args below meth c Q D z b Ls xs adK adV fm m V0 nx0 cells slots tgt L S w) (k2 : ¬ (x ≤ 0) → vs_G p l e R s mm args below meth c Q D z b Ls xs adK adV fm m V0 nx0 cells slots (pc + 3) L S w) : vs_G p l e R s mm args below meth c Q D z b Ls xs adK adV fm m V0 nx0 cells slots pc L (.inl x :: S) w := by
  intro V tys ws H locs hP hK hD hS hw hV ls st hl hs
  obtain ⟨x, st1, rfl, rfl, hs1⟩ := vs_sI hs
  exact lv_if_le hF.1 hF.2.1 hd ht (fun q => k1 ((vs_le0 x).mp q) V tys ws H locs hP hK hD hS hw hV ls _ hl hs1) (fun q => k2 (fun r => q ((vs_le0 x).mpr r)) V tys ws H locs hP hK hD hS hw hV ls _ hl hs1)
theorem vs_icmp_le (hF : vs_F p s args mm meth c m) {off : Int} {tgt : Nat} (hd : decode (vi_by m) pc = .ok (.if_icmp .le off, 3)) (ht : (pc : Int) + off = (tgt : Int)) {x y : Int} (k1 : x ≤ y → vs_G p l e R s mm args below meth c Q D z b Ls xs adK adV fm m V0 nx0 cells slots tgt L S w) (k2 : ¬ (x ≤ y) → vs_G p l e R s mm args below meth c Q D z b Ls xs adK adV fm m V0 nx0 cells slots (pc + 3) L S w) : vs_G p l e R s mm args below meth c Q D z b Ls xs adK adV fm m V0 nx0 cells slots pc L (.inl y :: .inl x :: S) w := by
  intro V tys ws H locs hP hK hD hS hw hV ls st hl hs
  obtain ⟨y, st1, rfl, rfl, hs1⟩ := vs_sI hs
  obtain ⟨x, st2, rfl, rfl, hs2⟩ := vs_sI hs1
  exact lv_icmp_le hF.1 hF.2.1 hd ht (fun q => k1 ((vs_le x y).mp q) V tys ws H locs hP hK hD hS hw hV ls _ hl hs2) (fun q => k2 (fun r => q ((vs_le x y).mpr r)) V tys ws H locs hP hK hD hS hw hV ls _ hl hs2)
theorem vs_lneg (hF : vs_F p s args mm meth c m) (hd : decode (vi_by m) pc = .ok (.lneg, 1)) {x : Int} (k : vs_G p l e R s mm args below meth c Q D z b Ls xs adK adV fm m V0 nx0 cells slots (pc + 1) L (.inr (.inl (vi_w64 (-x))) :: S) w) : vs_G p l e R s mm args below meth c Q D z b Ls xs adK adV fm m V0 nx0 cells slots pc L (.inr (.inl x) :: S) w := by
  intro V tys ws H locs hP hK hD hS hw hV ls st hl hs
  obtain ⟨x, st1, rfl, rfl, hs1⟩ := vs_sJ hs
  exact lv_lneg hF.1 hF.2.1 hd (k V tys ws H locs hP hK hD hS hw hV ls _ hl ⟨⟨_, rfl, vj_negL _⟩, hs1⟩)
theorem vs_i2c (hF : vs_F p s args mm meth c m) (hd : decode (vi_by m) pc = .ok (.i2c, 1)) {x : Int} (k : vs_G p l e R s mm args below meth c Q D z b Ls xs adK adV fm m V0 nx0 cells slots (pc + 1) L (.inl (vi_nar 5 x) :: S) w) : vs_G p l e R s mm args below meth c Q D z b Ls xs adK adV fm m V0 nx0 cells slots pc L (.inl x :: S) w := by
  intro V tys ws H locs hP hK hD hS hw hV ls st hl hs
  obtain ⟨x, st1, rfl, rfl, hs1⟩ := vs_sI hs
  refine lv_i2c hF.1 hF.2.1 hd rfl (k V tys ws H locs hP hK hD hS hw hV ls _ hl ⟨⟨_, rfl, ?_⟩, hs1⟩)
  have h := vi_i2c x.toInt
  rw [vj_i] at h
  rw [h, vi_ti]
  show vi_in32 (x.toInt % 65536)
  unfold vi_in32
  omega
theorem vs_i2l (hF : vs_F p s args mm meth c m) (hd : decode (vi_by m) pc = .ok (.i2l, 1)) {x : Int} (k : vs_G p l e R s mm args below meth c Q D z b Ls xs adK adV fm m V0 nx0 cells slots (pc + 1) L (.inr (.inl x) :: S) w) : vs_G p l e R s mm args below meth c Q D z b Ls xs adK adV fm m V0 nx0 cells slots pc L (.inl x :: S) w := by
  intro V tys ws H locs hP hK hD hS hw hV ls st hl hs
  obtain ⟨x, st1, rfl, rfl, hs1⟩ := vs_sI hs
  exact lv_i2l hF.1 hF.2.1 hd rfl (k V tys ws H locs hP hK hD hS hw hV ls _ hl ⟨⟨_, rfl, vj_i2l _⟩, hs1⟩)
theorem vs_l2i (hF : vs_F p s args mm meth c m) (hd : decode (vi_by m) pc = .ok (.l2i, 1)) {x : Int} (k : vs_G p l e R s mm args below meth c Q D z b Ls xs adK adV fm m V0 nx0 cells slots (pc + 1) L (.inl (vi_w32 x) :: S) w) : vs_G p l e R s mm args below meth c Q D z b Ls xs adK adV fm m V0 nx0 cells slots pc L (.inr (.inl x) :: S) w := by
  intro V tys ws H locs hP hK hD hS hw hV ls st hl hs
  obtain ⟨x, st1, rfl, rfl, hs1⟩ := vs_sJ hs
  exact lv_l2i hF.1 hF.2.1 hd rfl (k V tys ws H locs hP hK hD hS hw hV ls _ hl ⟨⟨_, rfl, vj_l2i _⟩, hs1⟩)
theorem vs_lcmp (hF : vs_F p s args mm meth c m) (hd : decode (vi_by m) pc = .ok (.lcmp, 1)) {x y : Int} (k : vs_G p l e R s mm args below meth c Q D z b Ls xs adK adV fm m V0 nx0 cells slots (pc + 1) L (.inl (vi_cmp64 x y) :: S) w) : vs_G p l e R s mm args below meth c Q D z b Ls xs adK adV fm m V0 nx0 cells slots pc L (.inr (.inl y) :: .inr (.inl x) :: S) w := by
  intro V tys ws H locs hP hK hD hS hw hV ls st hl hs
  obtain ⟨y, st1, rfl, rfl, hs1⟩ := vs_sJ hs
  obtain ⟨x, st2, rfl, rfl, hs2⟩ := vs_sJ hs1
  exact W.lcmp hF.1 hF.2.1 hd (k V tys ws H locs hP hK hD hS hw hV ls _ hl ⟨⟨_, rfl, vj_lcmp _ _⟩, hs2⟩)
theorem vs_iconst (hF : vs_F p s args mm meth c m) {n : Int} (hd : decode (vi_by m) pc = .ok (.iconst n, 1)) {x : Int} (hx : (Int32.ofInt n).toInt = x) (k : vs_G p l e R s mm args below meth c Q D z b Ls xs adK adV fm m V0 nx0 cells slots (pc + 1) L (.inl x :: S) w) : vs_G p l e R s mm args below meth c Q D z b Ls xs adK adV fm m V0 nx0 cells slots pc L S w := by
  intro V tys ws H locs hP hK hD hS hw hV ls st hl hs
  exact lv_iconst hF.1 hF.2.1 hd rfl (k V tys ws H locs hP hK hD hS hw hV ls _ hl ⟨⟨_, rfl, hx⟩, hs⟩)
theorem vs_bipush (hF : vs_F p s args mm meth c m) {n : Int} (hd : decode (vi_by m) pc = .ok (.bipush n, 2)) {x : Int} (hx : (Int8.ofInt n).toInt32.toInt = x) (k : vs_G p l e R s mm args below meth c Q D z b Ls xs adK adV fm m V0 nx0 cells slots (pc + 2) L (.inl x :: S) w) : vs_G p l e R s mm args below meth c Q D z b Ls xs adK adV fm m V0 nx0 cells slots pc L S w := by
  intro V tys ws H locs hP hK hD hS hw hV ls st hl hs
  exact lv_bipush hF.1 hF.2.1 hd rfl (k V tys ws H locs hP hK hD hS hw hV ls _ hl ⟨⟨_, rfl, hx⟩, hs⟩)
theorem vs_sipush (hF : vs_F p s args mm meth c m) {n : Int} (hd : decode (vi_by m) pc = .ok (.sipush n, 3)) {x : Int} (hx : (Int16.ofInt n).toInt32.toInt = x) (k : vs_G p l e R s mm args below meth c Q D z b Ls xs adK adV fm m V0 nx0 cells slots (pc + 3) L (.inl x :: S) w) : vs_G p l e R s mm args below meth c Q D z b Ls xs adK adV fm m V0 nx0 cells slots pc L S w := by
  intro V tys ws H locs hP hK hD hS hw hV ls st hl hs
  exact lv_sipush hF.1 hF.2.1 hd rfl (k V tys ws H locs hP hK hD hS hw hV ls _ hl ⟨⟨_, rfl, hx⟩, hs⟩)
theorem vs_lconst (hF : vs_F p s args mm meth c m) {n : Fin 2} (hd : decode (vi_by m) pc = .ok (.lconst n, 1)) {x : Int} (hx : (Int64.ofNat (n : Nat)).toInt = x) (k : vs_G p l e R s mm args below meth c Q D z b Ls xs adK adV fm m V0 nx0 cells slots (pc + 1) L (.inr (.inl x) :: S) w) : vs_G p l e R s mm args below meth c Q D z b Ls xs adK adV fm m V0 nx0 cells slots pc L S w := by
  intro V tys ws H locs hP hK hD hS hw hV ls st hl hs
  exact lv_lconst hF.1 hF.2.1 hd rfl (k V tys ws H locs hP hK hD hS hw hV ls _ hl ⟨⟨_, rfl, hx⟩, hs⟩)
theorem vs_ldc (hF : vs_F p s args mm meth c m) {i : Nat} (hd : decode (vi_by m) pc = .ok (.ldc i, 2)) {x : Int} (hx : (Int32.ofInt x).toInt = x) (hc : Cond.constant (vi_own m) i (Int32.ofInt x) ∈ vi_gw) (k : vs_G p l e R s mm args below meth c Q D z b Ls xs adK adV fm m V0 nx0 cells slots (pc + 2) L (.inl x :: S) w) : vs_G p l e R s mm args below meth c Q D z b Ls xs adK adV fm m V0 nx0 cells slots pc L S w := by
  intro V tys ws H locs hP hK hD hS hw hV ls st hl hs
  exact lv_ldc hF.1 hF.2.1 hF.2.2.2.2.2.1 (hF.2.2.2.2.2.2.1 _ hc) hd (k V tys ws H locs hP hK hD hS hw hV ls _ hl ⟨⟨_, rfl, hx⟩, hs⟩)
theorem vs_ldcw (hF : vs_F p s args mm meth c m) {i : Nat} (hd : decode (vi_by m) pc = .ok (.ldc_w i, 3)) {x : Int} (hx : (Int32.ofInt x).toInt = x) (hc : Cond.constant (vi_own m) i (Int32.ofInt x) ∈ vi_gw) (k : vs_G p l e R s mm args below meth c Q D z b Ls xs adK adV fm m V0 nx0 cells slots (pc + 3) L (.inl x :: S) w) : vs_G p l e R s mm args below meth c Q D z b Ls xs adK adV fm m V0 nx0 cells slots pc L S w := by
  intro V tys ws H locs hP hK hD hS hw hV ls st hl hs
  exact lv_ldcw hF.1 hF.2.1 hF.2.2.2.2.2.1 (hF.2.2.2.2.2.2.1 _ hc) hd (k V tys ws H locs hP hK hD hS hw hV ls _ hl ⟨⟨_, rfl, hx⟩, hs⟩)
theorem vs_ldc2 (hF : vs_F p s args mm meth c m) {i : Nat} (hd : decode (vi_by m) pc = .ok (.ldc2_w i, 3)) {x : Int} (hx : (Int64.ofInt x).toInt = x) (hc : Cond.constantLong (vi_own m) i (Int64.ofInt x) ∈ vi_gw) (k : vs_G p l e R s mm args below meth c Q D z b Ls xs adK adV fm m V0 nx0 cells slots (pc + 3) L (.inr (.inl x) :: S) w) : vs_G p l e R s mm args below meth c Q D z b Ls xs adK adV fm m V0 nx0 cells slots pc L S w := by
  intro V tys ws H locs hP hK hD hS hw hV ls st hl hs
  exact lv_ldc2 hF.1 hF.2.1 hF.2.2.2.2.2.1 (hF.2.2.2.2.2.2.1 _ hc) hd (k V tys ws H locs hP hK hD hS hw hV ls _ hl ⟨⟨_, rfl, hx⟩, hs⟩)
theorem vs_null (hF : vs_F p s args mm meth c m) (hd : decode (vi_by m) pc = .ok (.aconst_null, 1)) (k : vs_G p l e R s mm args below meth c Q D z b Ls xs adK adV fm m V0 nx0 cells slots (pc + 1) L (.inr (.inr 0) :: S) w) : vs_G p l e R s mm args below meth c Q D z b Ls xs adK adV fm m V0 nx0 cells slots pc L S w := by
  intro V tys ws H locs hP hK hD hS hw hV ls st hl hs
  exact lv_null hF.1 hF.2.1 hd (k V tys ws H locs hP hK hD hS hw hV ls _ hl ⟨⟨hw.2.1.1.1.symm, by rw [hw.1]; omega⟩, hs⟩)
theorem vs_iload_n (hF : vs_F p s args mm meth c m) {i : Fin 4} {a : Nat} (hd : decode (vi_by m) pc = .ok (.iload_n i, 1)) (hi : (i : Nat) = a) {x : Int} (hx : vi_ld L a = some (.inl x)) (k : vs_G p l e R s mm args below meth c Q D z b Ls xs adK adV fm m V0 nx0 cells slots (pc + 1) L (.inl x :: S) w) : vs_G p l e R s mm args below meth c Q D z b Ls xs adK adV fm m V0 nx0 cells slots pc L S w := by
  intro V tys ws H locs hP hK hD hS hw hV ls st hl hs
  obtain ⟨v, h1, i, rfl, rfl⟩ := vs_ld hl hx
  exact lv_iload_n hF.1 hF.2.1 hd hi h1 (k V tys ws H locs hP hK hD hS hw hV ls _ hl ⟨⟨_, rfl, rfl⟩, hs⟩)
theorem vs_iload (hF : vs_F p s args mm meth c m) {a : Nat} (hd : decode (vi_by m) pc = .ok (.iload a, 2)) {x : Int} (hx : vi_ld L a = some (.inl x)) (k : vs_G p l e R s mm args below meth c Q D z b Ls xs adK adV fm m V0 nx0 cells slots (pc + 2) L (.inl x :: S) w) : vs_G p l e R s mm args below meth c Q D z b Ls xs adK adV fm m V0 nx0 cells slots pc L S w := by
  intro V tys ws H locs hP hK hD hS hw hV ls st hl hs
  obtain ⟨v, h1, i, rfl, rfl⟩ := vs_ld hl hx
  exact lv_iload hF.1 hF.2.1 hd h1 (k V tys ws H locs hP hK hD hS hw hV ls _ hl ⟨⟨_, rfl, rfl⟩, hs⟩)
theorem vs_lload_n (hF : vs_F p s args mm meth c m) {i : Fin 4} {a : Nat} (hd : decode (vi_by m) pc = .ok (.lload_n i, 1)) (hi : (i : Nat) = a) {x : Int} (hx : vi_ld L a = some (.inr (.inl x))) (k : vs_G p l e R s mm args below meth c Q D z b Ls xs adK adV fm m V0 nx0 cells slots (pc + 1) L (.inr (.inl x) :: S) w) : vs_G p l e R s mm args below meth c Q D z b Ls xs adK adV fm m V0 nx0 cells slots pc L S w := by
  intro V tys ws H locs hP hK hD hS hw hV ls st hl hs
  obtain ⟨v, h1, i, rfl, rfl⟩ := vs_ld hl hx
  exact lv_lload_n hF.1 hF.2.1 hd hi h1 (k V tys ws H locs hP hK hD hS hw hV ls _ hl ⟨⟨_, rfl, rfl⟩, hs⟩)
theorem vs_lload (hF : vs_F p s args mm meth c m) {a : Nat} (hd : decode (vi_by m) pc = .ok (.lload a, 2)) {x : Int} (hx : vi_ld L a = some (.inr (.inl x))) (k : vs_G p l e R s mm args below meth c Q D z b Ls xs adK adV fm m V0 nx0 cells slots (pc + 2) L (.inr (.inl x) :: S) w) : vs_G p l e R s mm args below meth c Q D z b Ls xs adK adV fm m V0 nx0 cells slots pc L S w := by
  intro V tys ws H locs hP hK hD hS hw hV ls st hl hs
  obtain ⟨v, h1, i, rfl, rfl⟩ := vs_ld hl hx
  exact lv_lload hF.1 hF.2.1 hd h1 (k V tys ws H locs hP hK hD hS hw hV ls _ hl ⟨⟨_, rfl, rfl⟩, hs⟩)
theorem vs_aload_n (hF : vs_F p s args mm meth c m) {i : Fin 4} {a : Nat} (hd : decode (vi_by m) pc = .ok (.aload_n i, 1)) (hi : (i : Nat) = a) {q : Nat} (hx : vi_ld L a = some (.inr (.inr q))) (k : vs_G p l e R s mm args below meth c Q D z b Ls xs adK adV fm m V0 nx0 cells slots (pc + 1) L (.inr (.inr q) :: S) w) : vs_G p l e R s mm args below meth c Q D z b Ls xs adK adV fm m V0 nx0 cells slots pc L S w := by
  intro V tys ws H locs hP hK hD hS hw hV ls st hl hs
  obtain ⟨v, h1, rfl, hq⟩ := vs_ld hl hx
  have kk := k V tys ws H locs hP hK hD hS hw hV ls (V q :: st) hl ⟨⟨rfl, hq⟩, hs⟩
  rcases vs_vref hw hq with h | ⟨x, h⟩
  · rw [h] at h1 kk
    exact lv_aload_nN hF.1 hF.2.1 hd hi h1 kk
  · rw [h] at h1 kk
    exact lv_aload_n hF.1 hF.2.1 hd hi h1 kk
theorem vs_aload (hF : vs_F p s args mm meth c m) {a : Nat} (hd : decode (vi_by m) pc = .ok (.aload a, 2)) {q : Nat} (hx : vi_ld L a = some (.inr (.inr q))) (k : vs_G p l e R s mm args below meth c Q D z b Ls xs adK adV fm m V0 nx0 cells slots (pc + 2) L (.inr (.inr q) :: S) w) : vs_G p l e R s mm args below meth c Q D z b Ls xs adK adV fm m V0 nx0 cells slots pc L S w := by
  intro V tys ws H locs hP hK hD hS hw hV ls st hl hs
  obtain ⟨v, h1, rfl, hq⟩ := vs_ld hl hx
  have kk := k V tys ws H locs hP hK hD hS hw hV ls (V q :: st) hl ⟨⟨rfl, hq⟩, hs⟩
  rcases vs_vref hw hq with h | ⟨x, h⟩
  · rw [h] at h1 kk
    exact lv_aloadN hF.1 hF.2.1 hd h1 kk
  · rw [h] at h1 kk
    exact lv_aload hF.1 hF.2.1 hd h1 kk
theorem vs_istore_n (hF : vs_F p s args mm meth c m) {i : Fin 4} {a : Nat} (hd : decode (vi_by m) pc = .ok (.istore_n i, 1)) (hi : (i : Nat) = a) (ha : a < vi_mll m) {x : Int} (k : vs_G p l e R s mm args below meth c Q D z b Ls xs adK adV fm m V0 nx0 cells slots (pc + 1) (vi_s1 L a (.inl x)) S w) : vs_G p l e R s mm args below meth c Q D z b Ls xs adK adV fm m V0 nx0 cells slots pc L (.inl x :: S) w := by
  intro V tys ws H locs hP hK hD hS hw hV ls st hl hs
  obtain ⟨x, st1, rfl, rfl, hs1⟩ := vs_sI hs
  obtain ⟨bs, h1, h2⟩ := hl
  exact lv_istore_n hF.1 hF.2.1 hd hi h1 ha rfl (fun ls' h' => k V tys ws H locs hP hK hD hS hw hV ls' _ ⟨_, h', vs_st1 (vs_cat1 hw) h2 ⟨_, rfl, rfl⟩⟩ hs1)
theorem vs_istore (hF : vs_F p s args mm meth c m) {a : Nat} (hd : decode (vi_by m) pc = .ok (.istore a, 2)) (ha : a < vi_mll m) {x : Int} (k : vs_G p l e R s mm args below meth c Q D z b Ls xs adK adV fm m V0 nx0 cells slots (pc + 2) (vi_s1 L a (.inl x)) S w) : vs_G p l e R s mm args below meth c Q D z b Ls xs adK adV fm m V0 nx0 cells slots pc L (.inl x :: S) w := by
  intro V tys ws H locs hP hK hD hS hw hV ls st hl hs
  obtain ⟨x, st1, rfl, rfl, hs1⟩ := vs_sI hs
  obtain ⟨bs, h1, h2⟩ := hl
  exact lv_istore hF.1 hF.2.1 hd h1 ha rfl (fun ls' h' => k V tys ws H locs hP hK hD hS hw hV ls' _ ⟨_, h', vs_st1 (vs_cat1 hw) h2 ⟨_, rfl, rfl⟩⟩ hs1)
theorem vs_lstore_n (hF : vs_F p s args mm meth c m) {i : Fin 4} {a : Nat} (hd : decode (vi_by m) pc = .ok (.lstore_n i, 1)) (hi : (i : Nat) = a) (ha : a + 1 < vi_mll m) {x : Int} (k : vs_G p l e R s mm args below meth c Q D z b Ls xs adK adV fm m V0 nx0 cells slots (pc + 1) (vi_s2 L a (.inr (.inl x))) S w) : vs_G p l e R s mm args below meth c Q D z b Ls xs adK adV fm m V0 nx0 cells slots pc L (.inr (.inl x) :: S) w := by
  intro V tys ws H locs hP hK hD hS hw hV ls st hl hs
  obtain ⟨x, st1, rfl, rfl, hs1⟩ := vs_sJ hs
  obtain ⟨bs, h1, h2⟩ := hl
  exact lv_lstore_n hF.1 hF.2.1 hd hi h1 ha rfl (fun ls' h' => k V tys ws H locs hP hK hD hS hw hV ls' _ ⟨_, h', vs_st2 (vs_cat1 hw) h2 ⟨_, rfl, rfl⟩⟩ hs1)
theorem vs_lstore (hF : vs_F p s args mm meth c m) {a : Nat} (hd : decode (vi_by m) pc = .ok (.lstore a, 2)) (ha : a + 1 < vi_mll m) {x : Int} (k : vs_G p l e R s mm args below meth c Q D z b Ls xs adK adV fm m V0 nx0 cells slots (pc + 2) (vi_s2 L a (.inr (.inl x))) S w) : vs_G p l e R s mm args below meth c Q D z b Ls xs adK adV fm m V0 nx0 cells slots pc L (.inr (.inl x) :: S) w := by
  intro V tys ws H locs hP hK hD hS hw hV ls st hl hs
  obtain ⟨x, st1, rfl, rfl, hs1⟩ := vs_sJ hs
  obtain ⟨bs, h1, h2⟩ := hl
  exact lv_lstore hF.1 hF.2.1 hd h1 ha rfl (fun ls' h' => k V tys ws H locs hP hK hD hS hw hV ls' _ ⟨_, h', vs_st2 (vs_cat1 hw) h2 ⟨_, rfl, rfl⟩⟩ hs1)
theorem vs_astore_n (hF : vs_F p s args mm meth c m) {i : Fin 4} {a : Nat} (hd : decode (vi_by m) pc = .ok (.astore_n i, 1)) (hi : (i : Nat) = a) (ha : a < vi_mll m) {q : Nat} (k : vs_G p l e R s mm args below meth c Q D z b Ls xs adK adV fm m V0 nx0 cells slots (pc + 1) (vi_s1 L a (.inr (.inr q))) S w) : vs_G p l e R s mm args below meth c Q D z b Ls xs adK adV fm m V0 nx0 cells slots pc L (.inr (.inr q) :: S) w := by
  intro V tys ws H locs hP hK hD hS hw hV ls st hl hs
  obtain ⟨st1, rfl, hq, hs1⟩ := vs_sA hs
  obtain ⟨bs, h1, h2⟩ := hl
  rcases vs_vref hw hq with h | ⟨x, h⟩ <;> rw [h]
  · exact lv_astore_nN hF.1 hF.2.1 hd hi h1 ha rfl (fun ls' h' => k V tys ws H locs hP hK hD hS hw hV ls' _ ⟨_, h', vs_st1 (vs_cat1 hw) h2 ⟨h.symm, hq⟩⟩ hs1)
  · exact lv_astore_n hF.1 hF.2.1 hd hi h1 ha rfl (fun ls' h' => k V tys ws H locs hP hK hD hS hw hV ls' _ ⟨_, h', vs_st1 (vs_cat1 hw) h2 ⟨h.symm, hq⟩⟩ hs1)
theorem vs_astore (hF : vs_F p s args mm meth c m) {a : Nat} (hd : decode (vi_by m) pc = .ok (.astore a, 2)) (ha : a < vi_mll m) {q : Nat} (k : vs_G p l e R s mm args below meth c Q D z b Ls xs adK adV fm m V0 nx0 cells slots (pc + 2) (vi_s1 L a (.inr (.inr q))) S w) : vs_G p l e R s mm args below meth c Q D z b Ls xs adK adV fm m V0 nx0 cells slots pc L (.inr (.inr q) :: S) w := by
  intro V tys ws H locs hP hK hD hS hw hV ls st hl hs
  obtain ⟨st1, rfl, hq, hs1⟩ := vs_sA hs
  obtain ⟨bs, h1, h2⟩ := hl
  rcases vs_vref hw hq with h | ⟨x, h⟩ <;> rw [h]
  · exact lv_astoreN hF.1 hF.2.1 hd h1 ha rfl (fun ls' h' => k V tys ws H locs hP hK hD hS hw hV ls' _ ⟨_, h', vs_st1 (vs_cat1 hw) h2 ⟨h.symm, hq⟩⟩ hs1)
  · exact lv_astore hF.1 hF.2.1 hd h1 ha rfl (fun ls' h' => k V tys ws H locs hP hK hD hS hw hV ls' _ ⟨_, h', vs_st1 (vs_cat1 hw) h2 ⟨h.symm, hq⟩⟩ hs1)
theorem vs_iinc (hF : vs_F p s args mm meth c m) {a : Nat} {n : Int} (hd : decode (vi_by m) pc = .ok (.iinc a n, 3)) (ha : a < vi_mll m) {x y : Int} (hy : (Int32.ofInt n).toInt = y) (hx : vi_ld L a = some (.inl x)) (k : vs_G p l e R s mm args below meth c Q D z b Ls xs adK adV fm m V0 nx0 cells slots (pc + 3) (vi_s1 L a (.inl (vi_w32 (x + y)))) S w) : vs_G p l e R s mm args below meth c Q D z b Ls xs adK adV fm m V0 nx0 cells slots pc L S w := by
  intro V tys ws H locs hP hK hD hS hw hV ls st hl hs
  obtain ⟨bs, h1, h2⟩ := hl
  obtain ⟨v, h3, i, rfl, rfl⟩ := h2 a _ hx
  obtain ⟨k0, hk0⟩ := List.getElem?_of_mem h3
  exact lv_iinc hF.1 hF.2.1 hd h1 hk0 rfl ha rfl (fun ls' h' => k V tys ws H locs hP hK hD hS hw hV ls' _ ⟨_, h', vs_st1 (vs_cat1 hw) h2 ⟨_, rfl, by rw [vj_add, hy]⟩⟩ hs)
theorem vs_dup (hF : vs_F p s args mm meth c m) (hd : decode (vi_by m) pc = .ok (.dup, 1)) {u : vi_V} (hu : vi_cat u = 1) (k : vs_G p l e R s mm args below meth c Q D z b Ls xs adK adV fm m V0 nx0 cells slots (pc + 1) L (u :: u :: S) w) : vs_G p l e R s mm args below meth c Q D z b Ls xs adK adV fm m V0 nx0 cells slots pc L (u :: S) w := by
  intro V tys ws H locs hP hK hD hS hw hV ls st hl hs
  obtain ⟨v, st1, rfl, hv, hs1⟩ := vs_sU hs
  exact lv_dup hF.1 hF.2.1 hd ((vs_cat hw hv).trans hu) (k V tys ws H locs hP hK hD hS hw hV ls _ hl ⟨hv, hv, hs1⟩)
theorem vs_pop (hF : vs_F p s args mm meth c m) (hd : decode (vi_by m) pc = .ok (.pop, 1)) {u : vi_V} (hu : vi_cat u = 1) (k : vs_G p l e R s mm args below meth c Q D z b Ls xs adK adV fm m V0 nx0 cells slots (pc + 1) L S w) : vs_G p l e R s mm args below meth c Q D z b Ls xs adK adV fm m V0 nx0 cells slots pc L (u :: S) w := by
  intro V tys ws H locs hP hK hD hS hw hV ls st hl hs
  obtain ⟨v, st1, rfl, hv, hs1⟩ := vs_sU hs
  exact lv_pop hF.1 hF.2.1 hd ((vs_cat hw hv).trans hu) (k V tys ws H locs hP hK hD hS hw hV ls _ hl hs1)
theorem vs_dup_x1 (hF : vs_F p s args mm meth c m) (hd : decode (vi_by m) pc = .ok (.dup_x1, 1)) {u1 u2 : vi_V} (hu1 : vi_cat u1 = 1) (hu2 : vi_cat u2 = 1) (k : vs_G p l e R s mm args below meth c Q D z b Ls xs adK adV fm m V0 nx0 cells slots (pc + 1) L (u1 :: u2 :: u1 :: S) w) : vs_G p l e R s mm args below meth c Q D z b Ls xs adK adV fm m V0 nx0 cells slots pc L (u1 :: u2 :: S) w := by
  intro V tys ws H locs hP hK hD hS hw hV ls st hl hs
  obtain ⟨v1, st1, rfl, hv1, hs1⟩ := vs_sU hs
  obtain ⟨v2, st2, rfl, hv2, hs2⟩ := vs_sU hs1
  exact lv_dup_x1 hF.1 hF.2.1 hd ((vs_cat hw hv1).trans hu1) ((vs_cat hw hv2).trans hu2) (k V tys ws H locs hP hK hD hS hw hV ls _ hl ⟨hv1, hv2, hv1, hs2⟩)
theorem vs_dup_x2 (hF : vs_F p s args mm meth c m) (hd : decode (vi_by m) pc = .ok (.dup_x2, 1)) {u1 u2 u3 : vi_V} (hu1 : vi_cat u1 = 1) (hu2 : vi_cat u2 = 1) (hu3 : vi_cat u3 = 1) (k : vs_G p l e R s mm args below meth c Q D z b Ls xs adK adV fm m V0 nx0 cells slots (pc + 1) L (u1 :: u2 :: u3 :: u1 :: S) w) : vs_G p l e R s mm args below meth c Q D z b Ls xs adK adV fm m V0 nx0 cells slots pc L (u1 :: u2 :: u3 :: S) w := by
  intro V tys ws H locs hP hK hD hS hw hV ls st hl hs
  obtain ⟨v1, st1, rfl, hv1, hs1⟩ := vs_sU hs
  obtain ⟨v2, st2, rfl, hv2, hs2⟩ := vs_sU hs1
  obtain ⟨v3, st3, rfl, hv3, hs3⟩ := vs_sU hs2
  exact lv_dup_x2 hF.1 hF.2.1 hd ((vs_cat hw hv1).trans hu1) ((vs_cat hw hv2).trans hu2) ((vs_cat hw hv3).trans hu3) (k V tys ws H locs hP hK hD hS hw hV ls _ hl ⟨hv1, hv2, hv3, hv1, hs3⟩)
theorem vs_dup2_1 (hF : vs_F p s args mm meth c m) (hd : decode (vi_by m) pc = .ok (.dup2, 1)) {u1 u2 : vi_V} (hu1 : vi_cat u1 = 1) (hu2 : vi_cat u2 = 1) (k : vs_G p l e R s mm args below meth c Q D z b Ls xs adK adV fm m V0 nx0 cells slots (pc + 1) L (u1 :: u2 :: u1 :: u2 :: S) w) : vs_G p l e R s mm args below meth c Q D z b Ls xs adK adV fm m V0 nx0 cells slots pc L (u1 :: u2 :: S) w := by
  intro V tys ws H locs hP hK hD hS hw hV ls st hl hs
  obtain ⟨v1, st1, rfl, hv1, hs1⟩ := vs_sU hs
  obtain ⟨v2, st2, rfl, hv2, hs2⟩ := vs_sU hs1
  exact lv_dup2_11 hF.1 hF.2.1 hd ((vs_cat hw hv1).trans hu1) ((vs_cat hw hv2).trans hu2) (k V tys ws H locs hP hK hD hS hw hV ls _ hl ⟨hv1, hv2, hv1, hv2, hs2⟩)
theorem vs_dup2_2 (hF : vs_F p s args mm meth c m) (hd : decode (vi_by m) pc = .ok (.dup2, 1)) {u : vi_V} (hu : vi_cat u = 2) (k : vs_G p l e R s mm args below meth c Q D z b Ls xs adK adV fm m V0 nx0 cells slots (pc + 1) L (u :: u :: S) w) : vs_G p l e R s mm args below meth c Q D z b Ls xs adK adV fm m V0 nx0 cells slots pc L (u :: S) w := by
  intro V tys ws H locs hP hK hD hS hw hV ls st hl hs
  obtain ⟨v, st1, rfl, hv, hs1⟩ := vs_sU hs
  exact lv_dup2_2 hF.1 hF.2.1 hd ((vs_cat hw hv).trans hu) (k V tys ws H locs hP hK hD hS hw hV ls _ hl ⟨hv, hv, hs1⟩)
theorem vs_pop2_2 (hF : vs_F p s args mm meth c m) (hd : decode (vi_by m) pc = .ok (.pop2, 1)) {u : vi_V} (hu : vi_cat u = 2) (k : vs_G p l e R s mm args below meth c Q D z b Ls xs adK adV fm m V0 nx0 cells slots (pc + 1) L S w) : vs_G p l e R s mm args below meth c Q D z b Ls xs adK adV fm m V0 nx0 cells slots pc L (u :: S) w := by
  intro V tys ws H locs hP hK hD hS hw hV ls st hl hs
  obtain ⟨v, st1, rfl, hv, hs1⟩ := vs_sU hs
  exact lv_pop2_2 hF.1 hF.2.1 hd ((vs_cat hw hv).trans hu) (k V tys ws H locs hP hK hD hS hw hV ls _ hl hs1)
theorem vs_goto (hF : vs_F p s args mm meth c m) {off : Int} {tgt : Nat} (hd : decode (vi_by m) pc = .ok (.goto off, 3)) (ht : (pc : Int) + off = (tgt : Int)) (k : vs_G p l e R s mm args below meth c Q D z b Ls xs adK adV fm m V0 nx0 cells slots tgt L S w) : vs_G p l e R s mm args below meth c Q D z b Ls xs adK adV fm m V0 nx0 cells slots pc L S w := by
  intro V tys ws H locs hP hK hD hS hw hV ls st hl hs
  exact lv_goto hF.1 hF.2.1 hd ht (k V tys ws H locs hP hK hD hS hw hV ls _ hl hs)
end VS
