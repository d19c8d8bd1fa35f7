/-! A law as the class keeps it tells what its clauses tell. -/
/-- clauses asked with the words W: taken, shut, what it weighs -/
def gTl (W : Nat → Int) (cs : List gCla) : Bool × Bool × Int := ((cs.foldl (gF1 W) (false, false, 1)).1, (cs.foldl (gF1 W) (false, false, 1)).2.1, mCl (cs.foldl (gF1 W) (false, false, 1)).2.2)
def laV (o : Option Int) : Int := match o with
  | none => rB
  | some v => v
def laO (W : Nat → Int) : Option gDen → Int
  | some a => laV (a W)
  | none => 0
theorem laO_s {W : Nat → Int} {a : gDen} : laO W (some a) = laV (a W) := rfl
theorem gcS_s {W : Nat → Int} {a : gDen} {k : Int} {t : Option gDen} : gcS W (k, some a, t) = laV (a W) := by
  unfold gcS
  dsimp only
  cases a W <;> rfl
def laG (cs : List gCla) (j : Nat) : gCla := cs.getD j (0, none, none)
theorem laG_s {cs : List gCla} {j : Nat} (h : j < cs.length) : laG cs j = cs[j] := by
  unfold laG
  rw [List.getD_eq_getElem?_getD, List.getElem?_eq_getElem h]
  rfl
theorem gA_f {W : Nat → Int} {kd O : Nat → Int} {cs : List gCla} (hk : ∀ j, j < cs.length → kd j = (laG cs j).1) (hO : ∀ j, j < cs.length → O j = gcO W (laG cs j)) : ∀ k, k ≤ cs.length → gA kd O k = (cs.take k).foldl (gF1 W) (false, false, 1) := by
  intro k
  induction k with
  | zero => intro _; rfl
  | succ k ih =>
    intro h
    have hlt : k < cs.length := h
    rw [List.take_succ_eq_append_getElem hlt, List.foldl_append, List.foldl_cons, List.foldl_nil, ← ih (Nat.le_of_succ_le h), ← laG_s hlt]
    show (if O k = rB then _ else _) = gF1 W _ _
    unfold gF1
    rw [hO k hlt, hk k hlt]
theorem lCl_of {st W cl : Nat → Int} {ls j : Nat} {c : gCla} (h : cCl st cl ls j c) : lCl st W cl ls j (laO W c.2.1) (laO W c.2.2) := by
  obtain ⟨h1, h2, h3, s, t, e, h4, h5, h6, h7, h8, h9⟩ := h
  refine ⟨s, t, e, h4, h5, h6, h7, fun hst g => ?_, fun hte g => ?_⟩
  · revert h8
    cases c.2.1 with
    | none => intro h; exact absurd h (by omega)
    | some a =>
      rintro ⟨k, k1, k2⟩
      exact cSeg_r k2 (by omega) g
  · revert h9
    cases c.2.2 with
    | none => intro h; exact absurd h (by omega)
    | some a =>
      rintro ⟨k, k1, k2⟩
      exact cSeg_r k2 (by omega) g
theorem rB_1 : rB ≠ 1 := by decide
theorem lO_of {st W cl : Nat → Int} {ls j : Nat} {c : gCla} (h : cCl st cl ls j c) : oC (cl (4 * j + 1)) (cl (4 * j + 2)) (cl (4 * j + 3)) (laO W c.2.1) (laO W c.2.2) = gcO W c := by
  obtain ⟨h1, h2, h3, s, t, e, h4, h5, h6, h7, h8, h9⟩ := h
  rw [h4, h5, h6]
  unfold oC gcO
  have a1 : (if (s : Int) < (t : Int) then laO W c.2.1 else 1) = gcS W c := by
    obtain ⟨c1, c2, c3⟩ := c
    revert h8
    dsimp only
    cases c2 with
    | none => intro h; rw [if_neg (by omega)]; rfl
    | some a =>
      rintro ⟨k, k1, k2⟩
      rw [if_pos (by have := cSeg_lt k2 (by omega); omega), gcS_s]
      rfl
  rw [a1]
  revert h9
  cases c.2.2 with
  | none => intro h; rw [if_neg (fun h' => absurd h'.1 (by omega))]
  | some a =>
    rintro ⟨k, k1, k2⟩
    have hlt := cSeg_lt k2 (by omega)
    by_cases ha : a W = some 1
    · have e1 : laO W (some a) = 1 := by rw [laO_s, ha]; rfl
      rw [if_neg (fun h => h.2 e1)]
      dsimp only
      rw [if_pos ha]
    · have e1 : laO W (some a) ≠ 1 := by
        rw [laO_s]
        cases hw : a W with
        | none => exact rB_1
        | some v => exact fun h => ha (by rw [hw]; exact congrArg some h)
      rw [if_pos ⟨Int.ofNat_lt.mpr hlt, e1⟩]
      dsimp only
      rw [if_neg ha]
theorem law_of {Y : vi_Y} {M : vi_M} {p S : Nat} {cs : List gCla} (hp : pGood Y M p S cs) (h30 : Y.1 30 = 22) {f : Nat → Int} (hb : gB (f 8) (f 9) (f 10)) (hday : 0 ≤ f 11 ∧ f 11 ≤ 99) : lOK Y (p + 2) f (M p) (M (p + 1)) (fun c h => gTl (lWd f c h) cs) := by
  obtain ⟨p1, p2, p3, p4, p5, p6⟩ := hp
  have hc : ∀ j, j < cs.length → cCl (M p) (M (p + 1)) S j (laG cs j) := fun j hj => by rw [laG_s hj]; exact p6 j hj
  have := lOK_of (m := cs.length) (vs := fun c h j => laO (lWd f c h) (laG cs j).2.1) (vt := fun c h j => laO (lWd f c h) (laG cs j).2.2) p1 p2 rfl p4 h30 hb hday p5 (fun j hj => by
    obtain ⟨e, e1, e2, -⟩ := hc j hj
    rw [e]
    exact ⟨e1, e2⟩) (fun c h _ _ _ _ j hj => lCl_of (hc j hj))
  have e : (fun c h : Int => gAk (fun j => M (p + 1) (4 * j)) (lO (M (p + 1)) (fun j => laO (lWd f c h) (laG cs j).2.1) (fun j => laO (lWd f c h) (laG cs j).2.2)) cs.length) = (fun c h => gTl (lWd f c h) cs) := by
    funext c h
    unfold gAk gTl
    rw [gA_f (W := lWd f c h) (cs := cs) (fun j hj => (hc j hj).1) (fun j hj => by unfold lO; exact lO_of (hc j hj)) cs.length (Nat.le_refl _), List.take_length]
    rfl
  rw [← e]
  exact this
