/-! What a method answers: by its return type. -/
def isR (o : Option vi_O) : Bool := match o with
  | some (.inr (.inr (.inr (.inl _)))) => true
  | _ => false
theorem isR_nx {pc : Nat} {L : vi_L} {w : vi_W} {o : Option (List vi_V)} : isR (vi_nx pc L w o) = false := by
  unfold vi_nx; cases o <;> rfl
theorem isR_if {c : Prop} [Decidable c] {a b : Option vi_O} (ha : isR a = false) (hb : isR b = false) : isR (if c then a else b) = false := by
  split <;> assumption
theorem isR_loadI {pc a : Nat} {L : vi_L} {S : List vi_V} {w : vi_W} : isR (vi_loadI pc a L S w) = false := by
  unfold vi_loadI; split <;> first | rfl | (split <;> rfl)
theorem isR_loadL {pc a : Nat} {L : vi_L} {S : List vi_V} {w : vi_W} : isR (vi_loadL pc a L S w) = false := by
  unfold vi_loadL; split <;> first | rfl | (split <;> rfl)
theorem isR_loadA {pc a : Nat} {L : vi_L} {S : List vi_V} {w : vi_W} : isR (vi_loadA pc a L S w) = false := by
  unfold vi_loadA; split <;> first | rfl | (split <;> rfl)
theorem isR_storeI {pc a : Nat} {L : vi_L} {S : List vi_V} {w : vi_W} : isR (vi_storeI pc a L S w) = false := by
  unfold vi_storeI; split <;> first | rfl | (split <;> rfl)
theorem isR_storeL {pc a : Nat} {L : vi_L} {S : List vi_V} {w : vi_W} : isR (vi_storeL pc a L S w) = false := by
  unfold vi_storeL; split <;> first | rfl | (split <;> rfl)
theorem isR_storeA {pc a : Nat} {L : vi_L} {S : List vi_V} {w : vi_W} : isR (vi_storeA pc a L S w) = false := by
  unfold vi_storeA; split <;> first | rfl | (split <;> rfl)
theorem isR_iinc {pc a : Nat} {b : Int} {L : vi_L} {S : List vi_V} {w : vi_W} : isR (vi_iinc pc a b L S w) = false := by
  unfold vi_iinc; split <;> first | rfl | (split <;> rfl)
theorem isR_arrI {a pc : Nat} {L : vi_L} {S : List vi_V} {w : vi_W} : isR (vi_arrI a pc L S w) = false := by
  unfold vi_arrI; split <;> first | rfl | (split <;> rfl)
theorem isR_arrL {pc : Nat} {L : vi_L} {S : List vi_V} {w : vi_W} : isR (vi_arrL pc L S w) = false := by
  unfold vi_arrL; split <;> first | rfl | (split <;> rfl)
theorem isR_arrA {a pc : Nat} {L : vi_L} {S : List vi_V} {w : vi_W} : isR (vi_arrA a pc L S w) = false := by
  unfold vi_arrA; split <;> first | rfl | (split <;> rfl)
theorem isR_astI {a pc : Nat} {L : vi_L} {S : List vi_V} {w : vi_W} : isR (vi_astI a pc L S w) = false := by
  unfold vi_astI; split <;> first | rfl | (split <;> rfl)
theorem isR_astL {pc : Nat} {L : vi_L} {S : List vi_V} {w : vi_W} : isR (vi_astL pc L S w) = false := by
  unfold vi_astL; split <;> first | rfl | (split <;> rfl)
theorem isR_astA {a k pc : Nat} {L : vi_L} {S : List vi_V} {w : vi_W} : isR (vi_astA a k pc L S w) = false := by
  unfold vi_astA; split <;> first | rfl | (split <;> rfl)
theorem isR_len {a pc : Nat} {L : vi_L} {S : List vi_V} {w : vi_W} : isR (vi_len a pc L S w) = false := by
  unfold vi_len; split <;> first | rfl | (split <;> rfl)
theorem isR_newA {t pc : Nat} {L : vi_L} {S : List vi_V} {w : vi_W} : isR (vi_newA t pc L S w) = false := by
  unfold vi_newA; split <;> first | rfl | (split <;> rfl)
theorem isR_get {a k c pc : Nat} {L : vi_L} {S : List vi_V} {w : vi_W} : isR (vi_get a k c pc L S w) = false := by
  unfold vi_get; split <;> first | rfl | (split <;> rfl)
theorem isR_put {a k c pc : Nat} {L : vi_L} {S : List vi_V} {w : vi_W} : isR (vi_put a k c pc L S w) = false := by
  unfold vi_put; split <;> first | rfl | (split <;> rfl)
theorem isR_inv {a k c : Nat} {S : List vi_V} {w : vi_W} : isR (vi_inv a k c S w) = false := by
  unfold vi_inv; split <;> first | rfl | (split <;> rfl)
theorem st_r {ins : Jvm.ClassFile.Instr} {len a k c : Nat} {b : Int} {tb : List (Int × Nat)} {pc : Nat} {L : vi_L} {S : List vi_V} {w : vi_W} (h0 : ins ≠ .ireturn) (h1 : ins ≠ .lreturn) (h2 : ins ≠ .areturn) (h3 : ins ≠ .return_) : isR (vi_step (ins, len, a, k, c, b, tb) pc L S w) = false := by
  cases ins with
  | if_acmp q off => cases q <;> (simp only [vi_step]; split <;> rfl)
  | _ => first
    | exact isR_nx
    | exact isR_loadI
    | exact isR_loadL
    | exact isR_loadA
    | exact isR_storeI
    | exact isR_storeL
    | exact isR_storeA
    | exact isR_iinc
    | exact isR_arrI
    | exact isR_arrL
    | exact isR_arrA
    | exact isR_astI
    | exact isR_astL
    | exact isR_astA
    | exact isR_len
    | exact isR_newA
    | exact isR_get
    | exact isR_put
    | exact isR_inv
    | rfl
    | exact absurd rfl h0
    | exact absurd rfl h1
    | exact absurd rfl h2
    | exact absurd rfl h3
    | (simp only [vi_step]; split <;> first | rfl | exact isR_inv | (split <;> first | rfl | (split <;> rfl)))
theorem vi_rti {m : Nat} (ht : vi_rty m = some .int ∨ vi_rty m = some .boolean) : ∀ (f d pc : Nat) (L : vi_L) (S : List vi_V) (w : vi_W) (r : Option vi_V) (w' : vi_W), vi_run GG f d m pc L S w = some (r, w') → ∃ x, r = some (.inl x) := by
  intro f
  induction f with
  | zero => intro d pc L S w r w' h; simp [vi_run] at h
  | succ f ih =>
    intro d pc L S w r w' h
    cases hg : GG.1 m pc with
    | none => rw [vi_run] at h; simp [hg] at h
    | some e =>
      have hgood := vi_good hg
      rw [vi_run] at h
      simp only [hg] at h
      cases hs : vi_step e pc L S w with
      | none => simp [hs] at h
      | some o =>
        simp only [hs] at h
        rcases o with ⟨pc', L', S', w1⟩ | ⟨c, t, u, S'⟩ | ⟨x, tb, t, S'⟩ | q | ⟨c, as, S'⟩
        · exact ih _ _ _ _ _ _ _ h
        · exact ih _ _ _ _ _ _ _ h
        · exact ih _ _ _ _ _ _ _ h
        · obtain ⟨ins, len, a, k, cc, bb, tb⟩ := e
          obtain ⟨hd0, hck⟩ := vs_and2 hgood
          dsimp only at hck
          injection h with h
          injection h with h1 h2
          subst h1
          by_cases e0 : ins = .ireturn
          · subst e0
            obtain ⟨x, -, -, ho⟩ := vi_iiret hs
            injection ho with ho
            injection ho with ho
            injection ho with ho
            injection ho with ho
            exact ⟨x, ho⟩
          · by_cases e1 : ins = .lreturn
            · subst e1
              obtain ⟨-, hck⟩ := vs_and2 hck
              have := of_decide_eq_true hck
              rcases ht with h | h <;> rw [h] at this <;> cases this
            · by_cases e2 : ins = .areturn
              · subst e2
                obtain ⟨-, hck⟩ := vs_and2 hck
                rcases ht with h | h <;> rw [h] at hck <;> cases hck
              · by_cases e3 : ins = .return_
                · subst e3
                  obtain ⟨-, hck⟩ := vs_and2 hck
                  have := of_decide_eq_true hck
                  rcases ht with h | h <;> rw [h] at this <;> cases this
                · have := st_r (len := len) (a := a) (k := k) (c := cc) (b := bb) (tb := tb) (pc := pc) (L := L) (S := S) (w := w) e0 e1 e2 e3
                  rw [hs] at this
                  cases this
        · cases d with
          | zero => simp at h
          | succ d =>
            simp only at h
            by_cases hca : vi_cats as ≤ GG.2 c
            case neg => simp [hca] at h
            simp only [hca, if_true] at h
            cases hr : vi_run GG f d c 0 (vi_en as (GG.2 c)) [] w with
            | none => simp [hr] at h
            | some p =>
              obtain ⟨r1, w1⟩ := p
              simp only [hr] at h
              exact ih _ _ _ _ _ _ _ h
theorem vi_rtl {m : Nat} (ht : vi_rty m = some .long) : ∀ (f d pc : Nat) (L : vi_L) (S : List vi_V) (w : vi_W) (r : Option vi_V) (w' : vi_W), vi_run GG f d m pc L S w = some (r, w') → ∃ x, r = some (.inr (.inl x)) := by
  intro f
  induction f with
  | zero => intro d pc L S w r w' h; simp [vi_run] at h
  | succ f ih =>
    intro d pc L S w r w' h
    cases hg : GG.1 m pc with
    | none => rw [vi_run] at h; simp [hg] at h
    | some e =>
      have hgood := vi_good hg
      rw [vi_run] at h
      simp only [hg] at h
      cases hs : vi_step e pc L S w with
      | none => simp [hs] at h
      | some o =>
        simp only [hs] at h
        rcases o with ⟨pc', L', S', w1⟩ | ⟨c, t, u, S'⟩ | ⟨x, tb, t, S'⟩ | q | ⟨c, as, S'⟩
        · exact ih _ _ _ _ _ _ _ h
        · exact ih _ _ _ _ _ _ _ h
        · exact ih _ _ _ _ _ _ _ h
        · obtain ⟨ins, len, a, k, cc, bb, tb⟩ := e
          obtain ⟨hd0, hck⟩ := vs_and2 hgood
          dsimp only at hck
          injection h with h
          injection h with h1 h2
          subst h1
          by_cases e0 : ins = .lreturn
          · subst e0
            obtain ⟨x, -, ho⟩ := vi_ilret hs
            injection ho with ho
            injection ho with ho
            injection ho with ho
            injection ho with ho
            exact ⟨x, ho⟩
          · by_cases e1 : ins = .ireturn
            · subst e1
              obtain ⟨hck, -⟩ := vs_and2 hck
              obtain ⟨-, hck⟩ := vs_and2 hck
              have := of_decide_eq_true hck
              rw [ht] at this
              injection this with this
              split at this
              · cases this
              · split at this
                · cases this
                · split at this <;> cases this
            · by_cases e2 : ins = .areturn
              · subst e2
                obtain ⟨-, hck⟩ := vs_and2 hck
                rw [ht] at hck
                cases hck
              · by_cases e3 : ins = .return_
                · subst e3
                  obtain ⟨-, hck⟩ := vs_and2 hck
                  have := of_decide_eq_true hck
                  rw [ht] at this
                  cases this
                · have := st_r (len := len) (a := a) (k := k) (c := cc) (b := bb) (tb := tb) (pc := pc) (L := L) (S := S) (w := w) e1 e0 e2 e3
                  rw [hs] at this
                  cases this
        · cases d with
          | zero => simp at h
          | succ d =>
            simp only at h
            by_cases hca : vi_cats as ≤ GG.2 c
            case neg => simp [hca] at h
            simp only [hca, if_true] at h
            cases hr : vi_run GG f d c 0 (vi_en as (GG.2 c)) [] w with
            | none => simp [hr] at h
            | some p =>
              obtain ⟨r1, w1⟩ := p
              simp only [hr] at h
              exact ih _ _ _ _ _ _ _ h
/-- a call's answer is of its type -/
theorem vi_tyi {m : Nat} (ht : vi_rty m = some .int ∨ vi_rty m = some .boolean) {D : Nat} {as : List vi_V} {w : vi_W} {K : Option vi_V → vi_W → Prop} (h : vi_call GG D m as w (fun r w' => (∃ x, r = some (.inl x)) → K r w')) : vi_call GG D m as w K := by
  obtain ⟨h1, f, r, w', h2, h3⟩ := h
  exact ⟨h1, f, r, w', h2, h3 (vi_rti ht _ _ _ _ _ _ _ _ h2)⟩
theorem vi_tyl {m : Nat} (ht : vi_rty m = some .long) {D : Nat} {as : List vi_V} {w : vi_W} {K : Option vi_V → vi_W → Prop} (h : vi_call GG D m as w (fun r w' => (∃ x, r = some (.inr (.inl x))) → K r w')) : vi_call GG D m as w K := by
  obtain ⟨h1, f, r, w', h2, h3⟩ := h
  exact ⟨h1, f, r, w', h2, h3 (vi_rtl ht _ _ _ _ _ _ _ _ h2)⟩
