/-! Contracts of Reader, sixth part: clauses, the LAW as read. -/
theorem yn1 {Y : vi_Y} {q t l : Nat} : (vi_ynew Y q t l).1 q = t := if_pos rfl
theorem yn1o {Y : vi_Y} {q q' t l : Nat} (h : q' ≠ q) : (vi_ynew Y q t l).1 q' = Y.1 q' := if_neg h
theorem yn2 {Y : vi_Y} {q t l : Nat} : (vi_ynew Y q t l).2.1 q = l := if_pos rfl
theorem yn2o {Y : vi_Y} {q q' t l : Nat} (h : q' ≠ q) : (vi_ynew Y q t l).2.1 q' = Y.2.1 q' := if_neg h
theorem yn3 {Y : vi_Y} {q t l k : Nat} : (vi_ynew Y q t l).2.2 q k = 0 := by show (if q = q then (fun _ => 0) else Y.2.2 q) k = 0; rw [if_pos rfl]
theorem yn3o {Y : vi_Y} {q q' t l : Nat} (h : q' ≠ q) : (vi_ynew Y q t l).2.2 q' = Y.2.2 q' := if_neg h
theorem yf1 {Y : vi_Y} {q k : Nat} {v : Int} : (vi_yfin Y q k v).1 = Y.1 := rfl
theorem yf2 {Y : vi_Y} {q k : Nat} {v : Int} : (vi_yfin Y q k v).2.1 = Y.2.1 := rfl
theorem yf3 {Y : vi_Y} {q k : Nat} {v : Int} : (vi_yfin Y q k v).2.2 q k = v := if_pos ⟨rfl, rfl⟩
theorem yf3a {Y : vi_Y} {q q' k j : Nat} {v : Int} (h : q' ≠ q) : (vi_yfin Y q k v).2.2 q' j = Y.2.2 q' j := if_neg (fun e => h e.1)
theorem yf3b {Y : vi_Y} {q q' k j : Nat} {v : Int} (h : j ≠ k) : (vi_yfin Y q k v).2.2 q' j = Y.2.2 q' j := if_neg (fun e => h e.2)
theorem yf3r {Y : vi_Y} {q q' k : Nat} {v : Int} (h : q' ≠ q) : (vi_yfin Y q k v).2.2 q' = Y.2.2 q' := by funext j; exact yf3a h
/-- the places below b are the same -/
def kBl (Y Y' : vi_Y) (b : Nat) : Prop := ∀ q, q < b → Y'.1 q = Y.1 q ∧ Y'.2.1 q = Y.2.1 q ∧ Y'.2.2 q = Y.2.2 q
theorem kBl_n {Y : vi_Y} {b q t l : Nat} (h : b ≤ q) : kBl Y (vi_ynew Y q t l) b := fun p hp => ⟨yn1o (by omega), yn2o (by omega), yn3o (by omega)⟩
theorem kBl_f {Y : vi_Y} {b q k : Nat} {v : Int} (h : b ≤ q) : kBl Y (vi_yfin Y q k v) b := fun p hp => ⟨rfl, rfl, yf3r (by omega)⟩
theorem kBl_t {Y1 Y2 Y3 : vi_Y} {b : Nat} (h1 : kBl Y1 Y2 b) (h2 : kBl Y2 Y3 b) : kBl Y1 Y3 b := fun p hp => by
  obtain ⟨a1, a2, a3⟩ := h1 p hp
  obtain ⟨b1, b2, b3⟩ := h2 p hp
  exact ⟨b1.trans a1, b2.trans a2, b3.trans a3⟩
theorem kBl_Y {Y Y' : vi_Y} {b c : Nat} (h : kBl Y Y' c) (hY : kY Y b) (hc : b ≤ c) : kY Y' b := fun p h1 h2 => by
  obtain ⟨a1, a2, a3⟩ := h p (by omega)
  obtain ⟨c1, c2, c3⟩ := hY p h1 h2
  exact ⟨a1.trans c1, a2.trans c2, fun k => by rw [a3]; exact c3 k⟩
theorem cSeg_lt {st : Nat → Int} {S S' k : Nat} {den : gDen} (h : cSeg st S S' k den) (hk : k ≤ 64) : S < S' := by
  obtain ⟨h1, h2, h3⟩ := h
  refine Classical.byContradiction fun hn => ?_
  obtain rfl : S' = S := by omega
  obtain ⟨n1, s1⟩ := h3 (fun _ => 0) 0 (fun _ => 0) (S' : Int) (by omega) (by omega)
  rw [Nat.sub_self] at n1 s1
  cases hd : den (fun _ => 0) with
  | none =>
    have := n1 hd
    rw [rQ] at this
    cases this
  | some v =>
    obtain ⟨o', g', -, -, -, e⟩ := s1 v hd
    rw [rQ] at e
    simp at e
/-- a clause as the class keeps it: the j-th four of cl -/
def cCl (st cl : Nat → Int) (ls j : Nat) (c : gCla) : Prop := cl (4 * j) = c.1 ∧ 0 ≤ c.1 ∧ c.1 ≤ 2 ∧ ∃ s t e : Nat, cl (4 * j + 1) = (s : Int) ∧ cl (4 * j + 2) = (t : Int) ∧ cl (4 * j + 3) = (e : Int) ∧ (s ≤ t ∧ t ≤ e ∧ e ≤ ls) ∧
  (match c.2.1 with
    | some a => ∃ k, k ≤ 50 ∧ cSeg st s t k a
    | none => s = t) ∧
  (match c.2.2 with
    | some a => ∃ k, k ≤ 50 ∧ cSeg st t e k a
    | none => t = e)
theorem cCl_c {st st' cl cl' : Nat → Int} {ls ls' j : Nat} {c : gCla} (h : cCl st cl ls j c) (hs : ∀ x, x < ls → st' x = st x) (hc : ∀ x, x < 4 → cl' (4 * j + x) = cl (4 * j + x)) (hl : ls ≤ ls') : cCl st' cl' ls' j c := by
  obtain ⟨h1, h2, h3, s, t, e, h4, h5, h6, h7, h8, h9⟩ := h
  refine ⟨by rw [← h1]; exact hc 0 (by omega), h2, h3, s, t, e, by rw [hc 1 (by omega)]; exact h4, by rw [hc 2 (by omega)]; exact h5, by rw [hc 3 (by omega)]; exact h6, by omega, ?_, ?_⟩
  · revert h8
    cases c.2.1 with
    | none => exact fun h => h
    | some a => exact fun ⟨k, k1, k2⟩ => ⟨k, k1, cSeg_c k2 fun x _ hx => (hs x (by omega)).symm⟩
  · revert h9
    cases c.2.2 with
    | none => exact fun h => h
    | some a => exact fun ⟨k, k1, k2⟩ => ⟨k, k1, cSeg_c k2 fun x _ hx => (hs x (by omega)).symm⟩
section
variable {d : Nat} {K : Option vi_V → vi_W → Prop} {Y : vi_Y} {M : vi_M} {nn : Nat × Nat} {n : Nat} {b f : Nat → Int}
theorem k_130 (hY : kY Y 112) {i S l c : Nat} (h73 : M 73 = rRow f b n i S l) (hc : f 5 = (c : Int)) (hc12 : c < 12) {k s t : Int} : vi_call GG (d + 1) 130 [.inr (.inr 73), .inl k, .inl s, .inl t] (Y, M, nn) K ↔ K none (Y, vi_rs (vi_rs M 76 (vi_u (vi_u (vi_u (vi_u (M 76) (4 * c) k) (4 * c + 1) s) (4 * c + 2) t) (4 * c + 3) (S : Int))) 73 (rRow (vi_u f 5 ((c + 1 : Nat) : Int)) b n i S l), nn) := by
  obtain ⟨a1, a2, a3, a4⟩ := y_73 hY (by omega)
  obtain ⟨c1, c2⟩ := y_76 hY (by omega)
  have e4 : M 73 4 = (S : Int) := by rw [h73]; rfl
  have e5 : M 73 5 = (c : Int) := by rw [h73]; exact hc
  refine vi_k (r := none) fun Q hQ => ?_
  have er : vi_u (M 73) 5 ((c + 1 : Nat) : Int) = rRow (vi_u f 5 ((c + 1 : Nat) : Int)) b n i S l := by
    funext k
    rw [h73]
    unfold vi_u rRow
    by_cases h : k = 5
    · subst h; rfl
    · simp only [if_neg h]
  have t0 : ((c : Int) * 4).toNat = 4 * c := by omega
  have t1 : ((c : Int) * 4 + 1).toNat = 4 * c + 1 := by omega
  have t2 : ((c : Int) * 4 + 2).toNat = 4 * c + 2 := by omega
  have t3 : ((c : Int) * 4 + 3).toNat = 4 * c + 3 := by omega
  have o73 : ∀ g, vi_rs M 76 g 73 = M 73 := fun g => vi_rs_o (by omega)
  rw [← er] at hQ
  simp (disch := omega) only [Option.toList_some, Option.toList_none, List.nil_append, List.cons_append, List.append_nil, true_and, and_true, not_true_eq_false, not_false_eq_true, true_implies, false_implies, implies_true, and_self, Int.reduceLT, Int.reduceLE, Int.reduceEq, Int.reduceNe, Int.reduceAdd, Int.reduceSub, Int.reduceMul, Int.reduceNeg, Int.reduceToNat, Int.toNat_natCast, ↓kk_ck, ↓kk_im, ↓kk_in, e_130, s_130_0, s_130_13, s_130_25, s_130_76, s_130_4, s_130_21, s_130_29, s_130_10, s_130_22, s_130_33, s_130_37, s_130_42, s_130_43, s_130_47, s_130_52, s_130_53, s_130_57, s_130_65, s_130_66, s_130_71, a1, a4, c1, c2, e5, vi_32, t0, t1, t2, t3, vi_ms_rs, vi_rs_s, vi_rs_rs, o73, e4, vi_inc]
  exact hQ
/-- what a clause leaves behind -/
def pCl (f b : Nat → Int) (n : Nat) (M0 : vi_M) (S0 l0 i0 c : Nat) (r : Bool × Nat × Nat × gCla) (M : vi_M) : Prop :=
  (∀ p, p ≠ 73 → p ≠ 75 → p ≠ 76 → M p = M0 p) ∧
  (r.1 = true → ∃ S, M 73 = rRow (vi_u f 5 ((c + 1 : Nat) : Int)) b n r.2.1 S r.2.2.1 ∧ r.2.2.1 ≤ 50 ∧ S0 ≤ S ∧ S ≤ tI b n r.2.1 ∧ (∀ x, x < S0 → M 75 x = M0 75 x) ∧ (∀ x, S0 ≤ x → x < S → 0 ≤ M 75 x ∧ M 75 x < 2147483648) ∧ (∀ x, x < 4 * c → M 76 x = M0 76 x) ∧ cCl (M 75) (M 76) S c r.2.2.2) ∧
  (r.1 = false → M 76 = M0 76 ∧ ∃ S l, M 73 = rRow f b n r.2.1 S l ∧ S ≤ 400 ∧ l ≤ 50)
theorem k_129 (hY : kY Y 112) (h400 : n ≤ 400) (hb : tOk b) (hf : f 3 = (n : Int)) {D i S l c fu : Nat} (hD : 55 ≤ D) (h73 : M 73 = rRow f b n i S l) (m74 : M 74 = b) (hk : kS Y M) (hl : l ≤ 50) (hS : S ≤ tI b n i) (hc : f 5 = (c : Int)) (hc12 : c < 12) {r : Bool × Nat × Nat × gCla} (hg : rdC (tCd b n) (tVl b n) fu i l = some r) {Q : Option vi_V → vi_W → Prop} (hQ : ∀ M', pCl f b n M S l i c r M' → Q (some (.inl (vi_b r.1))) (Y, M', nn)) : vi_call GG D 129 [.inr (.inr 73)] (Y, M, nn) Q := by
  obtain ⟨a1, a2, a3, a4⟩ := y_73 hY (by omega)
  obtain ⟨j0, j1, j2, j3, j4, j5, -⟩ := pAll (nn := nn) hY h400 hb hf fu
  obtain ⟨D, rfl⟩ : ∃ k, D = k + 1 := ⟨D - 1, by omega⟩
  have hlei := tI_le (b := b) (n := n) i
  have e4 : M 73 4 = (S : Int) := by rw [h73]; rfl
  have W0 := fun {D : Nat} {K : Option vi_V → vi_W → Prop} (hD : 5 ≤ D) => @k_145' D K Y M nn n b f hY hk h400 hb m74 hf i S l h73 0 1 (by omega) (by decide) 2 (by omega) hD
  have W1 := fun {D : Nat} {K : Option vi_V → vi_W → Prop} (hD : 5 ≤ D) => @k_145' D K Y M nn n b f hY hk h400 hb m74 hf i S l h73 1 2 (by omega) (by decide) 3 (by omega) hD
  have W2 := fun {D : Nat} {K : Option vi_V → vi_W → Prop} (hD : 5 ≤ D) => @k_145' D K Y M nn n b f hY hk h400 hb m74 hf i S l h73 2 3 (by omega) (by decide) 4 (by omega) hD
  have N := fun {D : Nat} {K : Option vi_V → vi_W → Prop} (hD : 3 ≤ D) => @k_143' D K Y M nn n b f hY h400 hb m74 hf i S l h73 hD
  have fl : ∀ (M2 : vi_M) (i2 l2 : Nat), pFl f b n M M2 i2 → Q (some (.inl (vi_b false))) (Y, M2, nn) ∨ r ≠ (false, i2, l2, 0, none, none) := fun M2 i2 l2 h => by
    by_cases e : r = (false, i2, l2, 0, none, none)
    · subst e
      refine .inl (hQ M2 ⟨fun p p1 p2 _ => h.1 p p1 p2, fun k => (by cases k), fun _ => ⟨h.1 76 (by omega) (by omega), h.2⟩⟩)
    · exact .inr e
  unfold rdC at hg
  by_cases hw : tCd b n i = 1 ∨ tCd b n i = 2 ∨ tCd b n i = 3
  · rw [if_pos hw] at hg
    have hin := tI_cd (b := b) (n := n) (i := i) (by omega)
    have his := tI_s hin
    generalize hM1 : vi_rs M 73 (rRow f b n (i + 1) S l) = M1 at *
    have m1 : M1 73 = rRow f b n (i + 1) S l := by rw [← hM1, vi_rs_s]
    have fr1 : pFr M M1 := by rw [← hM1]; exact pFr_73
    have m174 : M1 74 = b := by rw [fr1 74 (by omega) (by omega)]; exact m74
    have m175 : M1 75 = M 75 := by rw [← hM1, vi_rs_o (by omega)]
    -- from the TEST's word on: behind a SUM that ends at i2, or behind none
    have tail : ∀ (M2 : vi_M) (S2 l2 i2 : Nat) (sd : Option gDen) (bb : gDen), pFr M M2 → M2 73 = rRow f b n i2 S2 l2 → l2 ≤ 50 → S ≤ S2 → S2 ≤ tI b n i2 → (∀ x, x < S → M2 75 x = M 75 x) → (∀ x, S ≤ x → x < S2 → 0 ≤ M2 75 x ∧ M2 75 x < 2147483648) → (match sd with
        | some a => ∃ k, k ≤ 50 ∧ cSeg (M2 75) S S2 k a
        | none => S = S2) →
        (if tCd b n i2 = 4 then match rdP (tCd b n) (tVl b n) fu 5 0 (i2 + 1) l2 bb with
          | none => none
          | some (false, i3, l3, _) => some (false, i3, l3, 0, none, none)
          | some (true, i3, l3, cc) => some (true, i3, l3, tCd b n i - 1, sd, some cc) else some (true, i2, l2, tCd b n i - 1, sd, none)) = some r →
        ∀ l3' : Option vi_V, vi_ok GG D 129 71 [some (.inr (.inr 73)), some (.inl (S : Int)), some (.inl (tCd b n i - 1)), l3'] [] (Y, M2, nn) Q := by
      intro M2 S2 l2 i2 sd bb fr2 m2 hl2 hSS hS2 hold hbd hsd hg2 l3'
      have m274 : M2 74 = b := by rw [fr2 74 (by omega) (by omega)]; exact m74
      have hle2 := tI_le (b := b) (n := n) i2
      have e24 : M2 73 4 = (S2 : Int) := by rw [m2]; rfl
      have WI := fun {D : Nat} {K : Option vi_V → vi_W → Prop} (hD : 5 ≤ D) => @k_145' D K Y M2 nn n b f hY (kS_c hk fr2) h400 hb m274 hf i2 S2 l2 m2 9 4 (by omega) (by decide) 11 (by omega) hD
      have N2 := fun {D : Nat} {K : Option vi_V → vi_W → Prop} (hD : 3 ≤ D) => @k_143' D K Y M2 nn n b f hY h400 hb m274 hf i2 S2 l2 m2 hD
      obtain ⟨D, rfl⟩ : ∃ k, D = k + 1 := ⟨D - 1, by omega⟩
      by_cases h4 : tCd b n i2 = 4
      · rw [if_pos h4] at hg2
        rw [decide_eq_true h4] at WI
        have hin2 := tI_cd (b := b) (n := n) (i := i2) (by omega)
        have his2 := tI_s hin2
        generalize hM3 : vi_rs M2 73 (rRow f b n (i2 + 1) S2 l2) = M3 at *
        have m3 : M3 73 = rRow f b n (i2 + 1) S2 l2 := by rw [← hM3, vi_rs_s]
        have fr3 : pFr M2 M3 := by rw [← hM3]; exact pFr_73
        have m374 : M3 74 = b := by rw [fr3 74 (by omega) (by omega)]; exact m274
        have m375 : M3 75 = M2 75 := by rw [← hM3, vi_rs_o (by omega)]
        have main : vi_call GG (D + 1) 131 [.inr (.inr 73), .inl 0] (Y, M3, nn) (fun r w' => vi_ok GG (D + 1) 129 94 [some (.inr (.inr 73)), some (.inl (S : Int)), some (.inl (tCd b n i - 1)), some (.inl (S2 : Int))] r.toList w' Q) := by
          cases hr : rdP (tCd b n) (tVl b n) fu 5 0 (i2 + 1) l2 bb with
          | none => rw [hr] at hg2; cases hg2
          | some r0 =>
            obtain ⟨ok, i3, l3, cc⟩ := r0
            refine j5 (D + 1) 0 (i2 + 1) l2 S2 M3 bb (ok, i3, l3, cc) _ hr (by omega) (by omega) m3 m374 (kS_c (kS_c hk fr2) fr3) hl2 (by omega) fun M4 hres => ?_
            rw [hr] at hg2
            cases ok
            · dsimp only at hg2
              cases hg2
              rcases fl M4 i3 l3 (pFl_t (pFr_t fr2 fr3) (pRes_ff hres)) with h | h
              · clear hQ fl j0 j1 j2 j3 j4 j5
                simp (disch := omega) only [Option.toList_some, Option.toList_none, List.nil_append, List.cons_append, List.append_nil, true_and, and_true, not_true_eq_false, not_false_eq_true, true_implies, false_implies, implies_true, and_self, Int.reduceLT, Int.reduceLE, Int.reduceEq, Int.reduceNe, Int.reduceAdd, Int.reduceSub, Int.reduceMul, Int.reduceNeg, Int.reduceToNat, Int.toNat_natCast, ↓kk_ck, ↓kk_im, ↓kk_in, s_129_0, s_129_14, s_129_18, s_129_27, s_129_31, s_129_40, s_129_44, s_129_45, s_129_51, s_129_53, s_129_61, s_129_69, s_129_71, s_129_85, s_129_97, s_129_99, s_129_4, s_129_24, s_129_37, s_129_57, s_129_66, s_129_75, s_129_89, s_129_106, s_129_11, s_129_82, s_129_94, vi_bf, ne_eq]
                exact h
              · exact absurd rfl h
            · dsimp only at hg2
              obtain ⟨S4, hok4⟩ := pRes_ft hres
              have hS4 := pOk_le hok4 (by omega)
              obtain ⟨b1, b2, b3, b4, b5, b6, b7, b8, b9⟩ := hok4
              have hle3 := tI_le (b := b) (n := n) i3
              have KC := fun {K : Option vi_V → vi_W → Prop} => @k_130 D K Y M4 nn n b f hY i3 S4 l3 c b2 hc hc12 (tCd b n i - 1) (S : Int) (S2 : Int)
              cases hg2
              have := hQ (vi_rs (vi_rs M4 76 (vi_u (vi_u (vi_u (vi_u (M4 76) (4 * c) (tCd b n i - 1)) (4 * c + 1) (S : Int)) (4 * c + 2) (S2 : Int)) (4 * c + 3) (S4 : Int))) 73 (rRow (vi_u f 5 ((c + 1 : Nat) : Int)) b n i3 S4 l3)) ⟨fun p p1 p2 p3 => by rw [vi_rs_o p1, vi_rs_o p3, b1 p p1 p2, fr3 p p1 p2, fr2 p p1 p2], fun _ => ⟨S4, vi_rs_s, b3, by omega, hS4, fun x hx => by
                  rw [vi_rs_o (by omega), vi_rs_o (by omega), b7 x (by omega), m375, hold x hx], fun x x1 x2 => by
                  rw [vi_rs_o (by omega), vi_rs_o (by omega)]
                  by_cases e : x < S2
                  · rw [b7 x e, m375]; exact hbd x x1 e
                  · exact b8 x (by omega) x2, fun x hx => by
                  rw [vi_rs_o (by omega), vi_rs_s, vi_u_o (by omega), vi_u_o (by omega), vi_u_o (by omega), vi_u_o (by omega), b1 76 (by omega) (by omega), fr3 76 (by omega) (by omega), fr2 76 (by omega) (by omega)], ?_⟩, fun k => (by cases k)⟩
              · clear hQ fl j0 j1 j2 j3 j4 j5
                simp (disch := omega) only [Option.toList_some, Option.toList_none, List.nil_append, List.cons_append, List.append_nil, true_and, and_true, not_true_eq_false, not_false_eq_true, true_implies, false_implies, implies_true, and_self, Int.reduceLT, Int.reduceLE, Int.reduceEq, Int.reduceNe, Int.reduceAdd, Int.reduceSub, Int.reduceMul, Int.reduceNeg, Int.reduceToNat, Int.toNat_natCast, ↓kk_ck, ↓kk_im, ↓kk_in, s_129_0, s_129_14, s_129_18, s_129_27, s_129_31, s_129_40, s_129_44, s_129_45, s_129_51, s_129_53, s_129_61, s_129_69, s_129_71, s_129_85, s_129_97, s_129_99, s_129_4, s_129_24, s_129_37, s_129_57, s_129_66, s_129_75, s_129_89, s_129_106, s_129_11, s_129_82, s_129_94, a1, vi_bt, ne_eq, KC]
                exact this
              · simp (disch := omega) only [vi_rs_s, vi_rs_o]
                refine ⟨by rw [vi_u_o (by omega), vi_u_o (by omega), vi_u_o (by omega), vi_u_s], by dsimp only; omega, by dsimp only; omega, S, S2, S4, by rw [vi_u_o (by omega), vi_u_o (by omega), vi_u_s], by rw [vi_u_o (by omega), vi_u_s], vi_u_s, by omega, ?_, ⟨l3 - l2, by omega, b9⟩⟩
                dsimp only
                revert hsd
                cases sd with
                | none => exact fun h => h
                | some a => exact fun ⟨k, k1, k2⟩ => ⟨k, k1, cSeg_c k2 fun x _ hx => by rw [b7 x hx, m375]⟩
        clear hQ fl j0 j1 j2 j3 j4 j5 hg2
        simp (disch := omega) only [Option.toList_some, Option.toList_none, List.nil_append, List.cons_append, List.append_nil, true_and, and_true, not_true_eq_false, not_false_eq_true, true_implies, false_implies, implies_true, and_self, Int.reduceLT, Int.reduceLE, Int.reduceEq, Int.reduceNe, Int.reduceAdd, Int.reduceSub, Int.reduceMul, Int.reduceNeg, Int.reduceToNat, Int.toNat_natCast, ↓kk_ck, ↓kk_im, ↓kk_in, s_129_0, s_129_14, s_129_18, s_129_27, s_129_31, s_129_40, s_129_44, s_129_45, s_129_51, s_129_53, s_129_61, s_129_69, s_129_71, s_129_85, s_129_97, s_129_99, s_129_4, s_129_24, s_129_37, s_129_57, s_129_66, s_129_75, s_129_89, s_129_106, s_129_11, s_129_82, s_129_94, a1, e24, WI, vi_bt, ne_eq, N2]
        exact main
      · rw [if_neg h4] at hg2
        rw [decide_eq_false h4] at WI
        have KC := fun {K : Option vi_V → vi_W → Prop} => @k_130 D K Y M2 nn n b f hY i2 S2 l2 c m2 hc hc12 (tCd b n i - 1) (S : Int) (S2 : Int)
        cases hg2
        have := hQ (vi_rs (vi_rs M2 76 (vi_u (vi_u (vi_u (vi_u (M2 76) (4 * c) (tCd b n i - 1)) (4 * c + 1) (S : Int)) (4 * c + 2) (S2 : Int)) (4 * c + 3) (S2 : Int))) 73 (rRow (vi_u f 5 ((c + 1 : Nat) : Int)) b n i2 S2 l2)) ⟨fun p p1 p2 p3 => by rw [vi_rs_o p1, vi_rs_o p3, fr2 p p1 p2], fun _ => ⟨S2, vi_rs_s, hl2, by omega, hS2, fun x hx => by
            rw [vi_rs_o (by omega), vi_rs_o (by omega), hold x hx], fun x x1 x2 => by
            rw [vi_rs_o (by omega), vi_rs_o (by omega)]; exact hbd x x1 x2, fun x hx => by
            rw [vi_rs_o (by omega), vi_rs_s, vi_u_o (by omega), vi_u_o (by omega), vi_u_o (by omega), vi_u_o (by omega), fr2 76 (by omega) (by omega)], ?_⟩, fun k => (by cases k)⟩
        · clear hQ fl j0 j1 j2 j3 j4 j5
          simp (disch := omega) only [Option.toList_some, Option.toList_none, List.nil_append, List.cons_append, List.append_nil, true_and, and_true, not_true_eq_false, not_false_eq_true, true_implies, false_implies, implies_true, and_self, Int.reduceLT, Int.reduceLE, Int.reduceEq, Int.reduceNe, Int.reduceAdd, Int.reduceSub, Int.reduceMul, Int.reduceNeg, Int.reduceToNat, Int.toNat_natCast, ↓kk_ck, ↓kk_im, ↓kk_in, s_129_0, s_129_14, s_129_18, s_129_27, s_129_31, s_129_40, s_129_44, s_129_45, s_129_51, s_129_53, s_129_61, s_129_69, s_129_71, s_129_85, s_129_97, s_129_99, s_129_4, s_129_24, s_129_37, s_129_57, s_129_66, s_129_75, s_129_89, s_129_106, s_129_11, s_129_82, s_129_94, a1, e24, WI, vi_bf, ne_eq, KC]
          exact this
        · simp (disch := omega) only [vi_rs_s, vi_rs_o]
          exact ⟨by rw [vi_u_o (by omega), vi_u_o (by omega), vi_u_o (by omega), vi_u_s], by dsimp only; omega, by dsimp only; omega, S, S2, S2, by rw [vi_u_o (by omega), vi_u_o (by omega), vi_u_s], by rw [vi_u_o (by omega), vi_u_s], vi_u_s, by omega, hsd, rfl⟩
    by_cases h1 : tCd b n i = 1
    · rw [if_pos h1] at hg
      rw [decide_eq_true h1] at W0
      have main : vi_call GG D 136 [.inr (.inr 73), .inl 0] (Y, M1, nn) (fun r w' => vi_ok GG D 129 66 [some (.inr (.inr 73)), some (.inl (S : Int)), some (.inl 0), none] r.toList w' Q) := by
        cases hr : rdP (tCd b n) (tVl b n) fu 2 0 (i + 1) l (fun _ => none) with
        | none => rw [hr] at hg; cases hg
        | some r0 =>
          obtain ⟨ok, i2, l2, bb⟩ := r0
          refine j2 D 0 (i + 1) l S M1 (fun _ => none) (ok, i2, l2, bb) _ hr (by omega) (by omega) m1 m174 (kS_c hk fr1) hl (by omega) fun M2 hres => ?_
          rw [hr] at hg
          cases ok
          · dsimp only at hg
            cases hg
            rcases fl M2 i2 l2 (pFl_t fr1 (pRes_ff hres)) with h | h
            · clear hQ fl tail j0 j1 j2 j3 j4 j5
              simp (disch := omega) only [Option.toList_some, Option.toList_none, List.nil_append, List.cons_append, List.append_nil, true_and, and_true, not_true_eq_false, not_false_eq_true, true_implies, false_implies, implies_true, and_self, Int.reduceLT, Int.reduceLE, Int.reduceEq, Int.reduceNe, Int.reduceAdd, Int.reduceSub, Int.reduceMul, Int.reduceNeg, Int.reduceToNat, Int.toNat_natCast, ↓kk_ck, ↓kk_im, ↓kk_in, s_129_0, s_129_14, s_129_18, s_129_27, s_129_31, s_129_40, s_129_44, s_129_45, s_129_51, s_129_53, s_129_61, s_129_69, s_129_71, s_129_85, s_129_97, s_129_99, s_129_4, s_129_24, s_129_37, s_129_57, s_129_66, s_129_75, s_129_89, s_129_106, s_129_11, s_129_82, s_129_94, vi_bf, ne_eq]
              exact h
            · exact absurd rfl h
          · dsimp only at hg
            obtain ⟨S2, hok2⟩ := pRes_ft hres
            have hS2 := pOk_le hok2 (by omega)
            obtain ⟨b1, b2, b3, b4, b5, b6, b7, b8, b9⟩ := hok2
            have := tail M2 S2 l2 i2 (some bb) bb (pFr_t fr1 b1) b2 b3 b4 hS2 (fun x hx => by rw [b7 x hx, m175]) b8 ⟨l2 - l, by omega, b9⟩ (by rw [if_pos h1] at hg; exact hg) none
            rw [show tCd b n i - 1 = 0 by omega] at this
            clear hQ fl tail j0 j1 j2 j3 j4 j5
            simp (disch := omega) only [Option.toList_some, Option.toList_none, List.nil_append, List.cons_append, List.append_nil, true_and, and_true, not_true_eq_false, not_false_eq_true, true_implies, false_implies, implies_true, and_self, Int.reduceLT, Int.reduceLE, Int.reduceEq, Int.reduceNe, Int.reduceAdd, Int.reduceSub, Int.reduceMul, Int.reduceNeg, Int.reduceToNat, Int.toNat_natCast, ↓kk_ck, ↓kk_im, ↓kk_in, s_129_66, vi_bt, ne_eq]
            exact this
      clear hQ fl tail j0 j1 j2 j3 j4 j5 hg
      simp (disch := omega) only [Option.toList_some, Option.toList_none, List.nil_append, List.cons_append, List.append_nil, true_and, and_true, not_true_eq_false, not_false_eq_true, true_implies, false_implies, implies_true, and_self, Int.reduceLT, Int.reduceLE, Int.reduceEq, Int.reduceNe, Int.reduceAdd, Int.reduceSub, Int.reduceMul, Int.reduceNeg, Int.reduceToNat, Int.toNat_natCast, ↓kk_ck, ↓kk_im, ↓kk_in, e_129, s_129_0, s_129_14, s_129_18, s_129_27, s_129_31, s_129_40, s_129_44, s_129_45, s_129_51, s_129_53, s_129_61, s_129_69, s_129_71, s_129_85, s_129_97, s_129_99, s_129_4, s_129_24, s_129_37, s_129_57, s_129_66, s_129_75, s_129_89, s_129_106, s_129_11, s_129_82, s_129_94, a1, e4, W0, vi_bt, N, ne_eq]
      exact main
    · rw [if_neg h1] at hg
      dsimp only at hg
      rw [decide_eq_false h1] at W0
      have := tail M1 S l (i + 1) none (fun _ => none) fr1 m1 hl (Nat.le_refl _) (by omega) (fun x _ => by rw [m175]) (fun x x1 x2 => by omega) rfl (by simp only [if_neg h1] at hg; exact hg) none
      by_cases h2 : tCd b n i = 2
      · rw [decide_eq_true h2] at W1
        rw [h2] at this
        clear hQ fl tail j0 j1 j2 j3 j4 j5 hg
        simp (disch := omega) only [Option.toList_some, Option.toList_none, List.nil_append, List.cons_append, List.append_nil, true_and, and_true, not_true_eq_false, not_false_eq_true, true_implies, false_implies, implies_true, and_self, Int.reduceLT, Int.reduceLE, Int.reduceEq, Int.reduceNe, Int.reduceAdd, Int.reduceSub, Int.reduceMul, Int.reduceNeg, Int.reduceToNat, Int.toNat_natCast, ↓kk_ck, ↓kk_im, ↓kk_in, e_129, s_129_0, s_129_4, s_129_11, s_129_18, s_129_24, s_129_27, s_129_45, s_129_53, s_129_57, a1, e4, W0, W1, vi_bt, vi_bf, N, ne_eq]
        exact this
      · have h3 : tCd b n i = 3 := by omega
        rw [decide_eq_false h2] at W1
        rw [decide_eq_true h3] at W2
        rw [h3] at this
        clear hQ fl tail j0 j1 j2 j3 j4 j5 hg
        simp (disch := omega) only [Option.toList_some, Option.toList_none, List.nil_append, List.cons_append, List.append_nil, true_and, and_true, not_true_eq_false, not_false_eq_true, true_implies, false_implies, implies_true, and_self, Int.reduceLT, Int.reduceLE, Int.reduceEq, Int.reduceNe, Int.reduceAdd, Int.reduceSub, Int.reduceMul, Int.reduceNeg, Int.reduceToNat, Int.toNat_natCast, ↓kk_ck, ↓kk_im, ↓kk_in, e_129, s_129_0, s_129_4, s_129_11, s_129_18, s_129_24, s_129_31, s_129_37, s_129_40, s_129_45, s_129_53, s_129_57, a1, e4, W0, W1, W2, vi_bt, vi_bf, N, ne_eq]
        exact this
  · rw [if_neg hw] at hg
    cases hg
    rw [decide_eq_false (fun k => hw (.inl k))] at W0
    rw [decide_eq_false (fun k => hw (.inr (.inl k)))] at W1
    rw [decide_eq_false (fun k => hw (.inr (.inr k)))] at W2
    rcases fl M i l ⟨fun _ _ _ => rfl, S, l, h73, by omega, hl⟩ with h | h
    · clear hQ fl j0 j1 j2 j3 j4 j5
      simp (disch := omega) only [Option.toList_some, Option.toList_none, List.nil_append, List.cons_append, List.append_nil, true_and, and_true, not_true_eq_false, not_false_eq_true, true_implies, false_implies, implies_true, and_self, Int.reduceLT, Int.reduceLE, Int.reduceEq, Int.reduceNe, Int.reduceAdd, Int.reduceSub, Int.reduceMul, Int.reduceNeg, Int.reduceToNat, Int.toNat_natCast, ↓kk_ck, ↓kk_im, ↓kk_in, e_129, s_129_0, s_129_14, s_129_18, s_129_27, s_129_31, s_129_40, s_129_44, s_129_45, s_129_51, s_129_53, s_129_61, s_129_69, s_129_71, s_129_85, s_129_97, s_129_99, s_129_4, s_129_24, s_129_37, s_129_57, s_129_66, s_129_75, s_129_89, s_129_106, s_129_11, s_129_82, s_129_94, a1, e4, W0, W1, W2, vi_bf, ne_eq]
      exact h
    · exact absurd rfl h
end
