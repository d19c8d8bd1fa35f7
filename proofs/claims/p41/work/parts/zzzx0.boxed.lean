/-! The property of its own: the text, and the box put together. -/
def tXp (i : Nat) : Nat → Int := fun j => if j < i then tC j else 0
theorem tXp_s {i : Nat} {w : Int} (h : tC i = w) : vi_u (tXp i) i w = tXp (i + 1) := by
  funext j
  unfold vi_u tXp
  by_cases e : j = i
  · rw [if_pos e, if_pos (by omega), e, h]
  · rw [if_neg e]
    by_cases e2 : j < i
    · rw [if_pos e2, if_pos (by omega)]
    · rw [if_neg e2, if_neg (by omega)]
section
variable {d : Nat} {Y : vi_Y} {M : vi_M} {nn : Nat × Nat} {v k : Int} {l7 l8 l9 l10 l11 l12 l13 l14 : Option vi_V} {Q : Option vi_V → vi_W → Prop}
theorem bx_ch {p : Nat} {g : Nat → Int} {x : Nat} {P : Prop} (t1 : Y.1 p = 5) (t2 : (Y.2.1 p : Int) = 113) (hx : (x : Int) < 113) (h : P) : (Y.1 p = 5 ∧ 0 ≤ (x : Int) ∧ (x : Int) < (Y.2.1 p : Int)) ∧ P := ⟨⟨t1, by omega, by omega⟩, h⟩
theorem bx_t0 (t1 : Y.1 113 = 5) (t2 : (Y.2.1 113 : Int) = 113) (hQ : vi_ok GG (d + 71) 236 480 [some (.inr (.inr 29)), some (.inr (.inr 1)), some (.inl 6), some (.inl 9), some (.inr (.inr 112)), some (.inl v), some (.inl k), l7, l8, l9, l10, l11, l12, l13, l14] [.inr (.inr 113)] (Y, vi_rs M 113 (tXp 8), nn) Q) : vi_ok GG (d + 71) 236 438 [some (.inr (.inr 29)), some (.inr (.inr 1)), some (.inl 6), some (.inl 9), some (.inr (.inr 112)), some (.inl v), some (.inl k), l7, l8, l9, l10, l11, l12, l13, l14] [.inr (.inr 113)] (Y, vi_rs M 113 (tXp 0), nn) Q := by
  rw [s_236_438]
  refine ⟨⟨t1, by decide, by rw [t2]; decide⟩, ?_⟩
  rw [vi_ms_rs, vi_rs_s, vi_rs_rs, show ((0 : Int)).toNat = 0 from rfl, @tXp_s 0 (vi_nar 5 (119 : Int)) rfl]
  rw [s_236_443]
  refine ⟨⟨t1, by decide, by rw [t2]; decide⟩, ?_⟩
  rw [vi_ms_rs, vi_rs_s, vi_rs_rs, show ((1 : Int)).toNat = 1 from rfl, @tXp_s 1 (vi_nar 5 (101 : Int)) rfl]
  rw [s_236_448]
  refine ⟨⟨t1, by decide, by rw [t2]; decide⟩, ?_⟩
  rw [vi_ms_rs, vi_rs_s, vi_rs_rs, show ((2 : Int)).toNat = 2 from rfl, @tXp_s 2 (vi_nar 5 (105 : Int)) rfl]
  rw [s_236_453]
  refine ⟨⟨t1, by decide, by rw [t2]; decide⟩, ?_⟩
  rw [vi_ms_rs, vi_rs_s, vi_rs_rs, show ((3 : Int)).toNat = 3 from rfl, @tXp_s 3 (vi_nar 5 (103 : Int)) rfl]
  rw [s_236_458]
  refine ⟨⟨t1, by decide, by rw [t2]; decide⟩, ?_⟩
  rw [vi_ms_rs, vi_rs_s, vi_rs_rs, show ((4 : Int)).toNat = 4 from rfl, @tXp_s 4 (vi_nar 5 (104 : Int)) rfl]
  rw [s_236_463]
  refine ⟨⟨t1, by decide, by rw [t2]; decide⟩, ?_⟩
  rw [vi_ms_rs, vi_rs_s, vi_rs_rs, show ((5 : Int)).toNat = 5 from rfl, @tXp_s 5 (vi_nar 5 (115 : Int)) rfl]
  rw [s_236_468]
  refine ⟨⟨t1, by decide, by rw [t2]; decide⟩, ?_⟩
  rw [vi_ms_rs, vi_rs_s, vi_rs_rs, show ((6 : Int)).toNat = 6 from rfl, @tXp_s 6 (vi_nar 5 (32 : Int)) rfl]
  rw [s_236_474]
  refine ⟨⟨t1, by decide, by rw [t2]; decide⟩, ?_⟩
  rw [vi_ms_rs, vi_rs_s, vi_rs_rs, show ((7 : Int)).toNat = 7 from rfl, @tXp_s 7 (vi_nar 5 (49 : Int)) rfl]
  exact hQ
theorem bx_t1 (t1 : Y.1 113 = 5) (t2 : (Y.2.1 113 : Int) = 113) (hQ : vi_ok GG (d + 71) 236 528 [some (.inr (.inr 29)), some (.inr (.inr 1)), some (.inl 6), some (.inl 9), some (.inr (.inr 112)), some (.inl v), some (.inl k), l7, l8, l9, l10, l11, l12, l13, l14] [.inr (.inr 113)] (Y, vi_rs M 113 (tXp 16), nn) Q) : vi_ok GG (d + 71) 236 480 [some (.inr (.inr 29)), some (.inr (.inr 1)), some (.inl 6), some (.inl 9), some (.inr (.inr 112)), some (.inl v), some (.inl k), l7, l8, l9, l10, l11, l12, l13, l14] [.inr (.inr 113)] (Y, vi_rs M 113 (tXp 8), nn) Q := by
  rw [s_236_480]
  refine ⟨⟨t1, by decide, by rw [t2]; decide⟩, ?_⟩
  rw [vi_ms_rs, vi_rs_s, vi_rs_rs, show ((8 : Int)).toNat = 8 from rfl, @tXp_s 8 (vi_nar 5 (32 : Int)) rfl]
  rw [s_236_486]
  refine ⟨⟨t1, by decide, by rw [t2]; decide⟩, ?_⟩
  rw [vi_ms_rs, vi_rs_s, vi_rs_rs, show ((9 : Int)).toNat = 9 from rfl, @tXp_s 9 (vi_nar 5 (43 : Int)) rfl]
  rw [s_236_492]
  refine ⟨⟨t1, by decide, by rw [t2]; decide⟩, ?_⟩
  rw [vi_ms_rs, vi_rs_s, vi_rs_rs, show ((10 : Int)).toNat = 10 from rfl, @tXp_s 10 (vi_nar 5 (32 : Int)) rfl]
  rw [s_236_498]
  refine ⟨⟨t1, by decide, by rw [t2]; decide⟩, ?_⟩
  rw [vi_ms_rs, vi_rs_s, vi_rs_rs, show ((11 : Int)).toNat = 11 from rfl, @tXp_s 11 (vi_nar 5 (120 : Int)) rfl]
  rw [s_236_504]
  refine ⟨⟨t1, by decide, by rw [t2]; decide⟩, ?_⟩
  rw [vi_ms_rs, vi_rs_s, vi_rs_rs, show ((12 : Int)).toNat = 12 from rfl, @tXp_s 12 (vi_nar 5 (32 : Int)) rfl]
  rw [s_236_510]
  refine ⟨⟨t1, by decide, by rw [t2]; decide⟩, ?_⟩
  rw [vi_ms_rs, vi_rs_s, vi_rs_rs, show ((13 : Int)).toNat = 13 from rfl, @tXp_s 13 (vi_nar 5 (42 : Int)) rfl]
  rw [s_236_516]
  refine ⟨⟨t1, by decide, by rw [t2]; decide⟩, ?_⟩
  rw [vi_ms_rs, vi_rs_s, vi_rs_rs, show ((14 : Int)).toNat = 14 from rfl, @tXp_s 14 (vi_nar 5 (32 : Int)) rfl]
  rw [s_236_522]
  refine ⟨⟨t1, by decide, by rw [t2]; decide⟩, ?_⟩
  rw [vi_ms_rs, vi_rs_s, vi_rs_rs, show ((15 : Int)).toNat = 15 from rfl, @tXp_s 15 (vi_nar 5 (121 : Int)) rfl]
  exact hQ
theorem bx_t2 (t1 : Y.1 113 = 5) (t2 : (Y.2.1 113 : Int) = 113) (hQ : vi_ok GG (d + 71) 236 576 [some (.inr (.inr 29)), some (.inr (.inr 1)), some (.inl 6), some (.inl 9), some (.inr (.inr 112)), some (.inl v), some (.inl k), l7, l8, l9, l10, l11, l12, l13, l14] [.inr (.inr 113)] (Y, vi_rs M 113 (tXp 24), nn) Q) : vi_ok GG (d + 71) 236 528 [some (.inr (.inr 29)), some (.inr (.inr 1)), some (.inl 6), some (.inl 9), some (.inr (.inr 112)), some (.inl v), some (.inl k), l7, l8, l9, l10, l11, l12, l13, l14] [.inr (.inr 113)] (Y, vi_rs M 113 (tXp 16), nn) Q := by
  rw [s_236_528]
  refine ⟨⟨t1, by decide, by rw [t2]; decide⟩, ?_⟩
  rw [vi_ms_rs, vi_rs_s, vi_rs_rs, show ((16 : Int)).toNat = 16 from rfl, @tXp_s 16 (vi_nar 5 (59 : Int)) rfl]
  rw [s_236_534]
  refine ⟨⟨t1, by decide, by rw [t2]; decide⟩, ?_⟩
  rw [vi_ms_rs, vi_rs_s, vi_rs_rs, show ((17 : Int)).toNat = 17 from rfl, @tXp_s 17 (vi_nar 5 (116 : Int)) rfl]
  rw [s_236_540]
  refine ⟨⟨t1, by decide, by rw [t2]; decide⟩, ?_⟩
  rw [vi_ms_rs, vi_rs_s, vi_rs_rs, show ((18 : Int)).toNat = 18 from rfl, @tXp_s 18 (vi_nar 5 (97 : Int)) rfl]
  rw [s_236_546]
  refine ⟨⟨t1, by decide, by rw [t2]; decide⟩, ?_⟩
  rw [vi_ms_rs, vi_rs_s, vi_rs_rs, show ((19 : Int)).toNat = 19 from rfl, @tXp_s 19 (vi_nar 5 (107 : Int)) rfl]
  rw [s_236_552]
  refine ⟨⟨t1, by decide, by rw [t2]; decide⟩, ?_⟩
  rw [vi_ms_rs, vi_rs_s, vi_rs_rs, show ((20 : Int)).toNat = 20 from rfl, @tXp_s 20 (vi_nar 5 (101 : Int)) rfl]
  rw [s_236_558]
  refine ⟨⟨t1, by decide, by rw [t2]; decide⟩, ?_⟩
  rw [vi_ms_rs, vi_rs_s, vi_rs_rs, show ((21 : Int)).toNat = 21 from rfl, @tXp_s 21 (vi_nar 5 (115 : Int)) rfl]
  rw [s_236_564]
  refine ⟨⟨t1, by decide, by rw [t2]; decide⟩, ?_⟩
  rw [vi_ms_rs, vi_rs_s, vi_rs_rs, show ((22 : Int)).toNat = 22 from rfl, @tXp_s 22 (vi_nar 5 (32 : Int)) rfl]
  rw [s_236_570]
  refine ⟨⟨t1, by decide, by rw [t2]; decide⟩, ?_⟩
  rw [vi_ms_rs, vi_rs_s, vi_rs_rs, show ((23 : Int)).toNat = 23 from rfl, @tXp_s 23 (vi_nar 5 (105 : Int)) rfl]
  exact hQ
theorem bx_t3 (t1 : Y.1 113 = 5) (t2 : (Y.2.1 113 : Int) = 113) (hQ : vi_ok GG (d + 71) 236 624 [some (.inr (.inr 29)), some (.inr (.inr 1)), some (.inl 6), some (.inl 9), some (.inr (.inr 112)), some (.inl v), some (.inl k), l7, l8, l9, l10, l11, l12, l13, l14] [.inr (.inr 113)] (Y, vi_rs M 113 (tXp 32), nn) Q) : vi_ok GG (d + 71) 236 576 [some (.inr (.inr 29)), some (.inr (.inr 1)), some (.inl 6), some (.inl 9), some (.inr (.inr 112)), some (.inl v), some (.inl k), l7, l8, l9, l10, l11, l12, l13, l14] [.inr (.inr 113)] (Y, vi_rs M 113 (tXp 24), nn) Q := by
  rw [s_236_576]
  refine ⟨⟨t1, by decide, by rw [t2]; decide⟩, ?_⟩
  rw [vi_ms_rs, vi_rs_s, vi_rs_rs, show ((24 : Int)).toNat = 24 from rfl, @tXp_s 24 (vi_nar 5 (102 : Int)) rfl]
  rw [s_236_582]
  refine ⟨⟨t1, by decide, by rw [t2]; decide⟩, ?_⟩
  rw [vi_ms_rs, vi_rs_s, vi_rs_rs, show ((25 : Int)).toNat = 25 from rfl, @tXp_s 25 (vi_nar 5 (32 : Int)) rfl]
  rw [s_236_588]
  refine ⟨⟨t1, by decide, by rw [t2]; decide⟩, ?_⟩
  rw [vi_ms_rs, vi_rs_s, vi_rs_rs, show ((26 : Int)).toNat = 26 from rfl, @tXp_s 26 (vi_nar 5 (104 : Int)) rfl]
  rw [s_236_594]
  refine ⟨⟨t1, by decide, by rw [t2]; decide⟩, ?_⟩
  rw [vi_ms_rs, vi_rs_s, vi_rs_rs, show ((27 : Int)).toNat = 27 from rfl, @tXp_s 27 (vi_nar 5 (111 : Int)) rfl]
  rw [s_236_600]
  refine ⟨⟨t1, by decide, by rw [t2]; decide⟩, ?_⟩
  rw [vi_ms_rs, vi_rs_s, vi_rs_rs, show ((28 : Int)).toNat = 28 from rfl, @tXp_s 28 (vi_nar 5 (108 : Int)) rfl]
  rw [s_236_606]
  refine ⟨⟨t1, by decide, by rw [t2]; decide⟩, ?_⟩
  rw [vi_ms_rs, vi_rs_s, vi_rs_rs, show ((29 : Int)).toNat = 29 from rfl, @tXp_s 29 (vi_nar 5 (101 : Int)) rfl]
  rw [s_236_612]
  refine ⟨⟨t1, by decide, by rw [t2]; decide⟩, ?_⟩
  rw [vi_ms_rs, vi_rs_s, vi_rs_rs, show ((30 : Int)).toNat = 30 from rfl, @tXp_s 30 (vi_nar 5 (115 : Int)) rfl]
  rw [s_236_618]
  refine ⟨⟨t1, by decide, by rw [t2]; decide⟩, ?_⟩
  rw [vi_ms_rs, vi_rs_s, vi_rs_rs, show ((31 : Int)).toNat = 31 from rfl, @tXp_s 31 (vi_nar 5 (32 : Int)) rfl]
  exact hQ
theorem bx_t4 (t1 : Y.1 113 = 5) (t2 : (Y.2.1 113 : Int) = 113) (hQ : vi_ok GG (d + 71) 236 672 [some (.inr (.inr 29)), some (.inr (.inr 1)), some (.inl 6), some (.inl 9), some (.inr (.inr 112)), some (.inl v), some (.inl k), l7, l8, l9, l10, l11, l12, l13, l14] [.inr (.inr 113)] (Y, vi_rs M 113 (tXp 40), nn) Q) : vi_ok GG (d + 71) 236 624 [some (.inr (.inr 29)), some (.inr (.inr 1)), some (.inl 6), some (.inl 9), some (.inr (.inr 112)), some (.inl v), some (.inl k), l7, l8, l9, l10, l11, l12, l13, l14] [.inr (.inr 113)] (Y, vi_rs M 113 (tXp 32), nn) Q := by
  rw [s_236_624]
  refine ⟨⟨t1, by decide, by rw [t2]; decide⟩, ?_⟩
  rw [vi_ms_rs, vi_rs_s, vi_rs_rs, show ((32 : Int)).toNat = 32 from rfl, @tXp_s 32 (vi_nar 5 (61 : Int)) rfl]
  rw [s_236_630]
  refine ⟨⟨t1, by decide, by rw [t2]; decide⟩, ?_⟩
  rw [vi_ms_rs, vi_rs_s, vi_rs_rs, show ((33 : Int)).toNat = 33 from rfl, @tXp_s 33 (vi_nar 5 (32 : Int)) rfl]
  rw [s_236_636]
  refine ⟨⟨t1, by decide, by rw [t2]; decide⟩, ?_⟩
  rw [vi_ms_rs, vi_rs_s, vi_rs_rs, show ((34 : Int)).toNat = 34 from rfl, @tXp_s 34 (vi_nar 5 (48 : Int)) rfl]
  rw [s_236_642]
  refine ⟨⟨t1, by decide, by rw [t2]; decide⟩, ?_⟩
  rw [vi_ms_rs, vi_rs_s, vi_rs_rs, show ((35 : Int)).toNat = 35 from rfl, @tXp_s 35 (vi_nar 5 (32 : Int)) rfl]
  rw [s_236_648]
  refine ⟨⟨t1, by decide, by rw [t2]; decide⟩, ?_⟩
  rw [vi_ms_rs, vi_rs_s, vi_rs_rs, show ((36 : Int)).toNat = 36 from rfl, @tXp_s 36 (vi_nar 5 (97 : Int)) rfl]
  rw [s_236_654]
  refine ⟨⟨t1, by decide, by rw [t2]; decide⟩, ?_⟩
  rw [vi_ms_rs, vi_rs_s, vi_rs_rs, show ((37 : Int)).toNat = 37 from rfl, @tXp_s 37 (vi_nar 5 (110 : Int)) rfl]
  rw [s_236_660]
  refine ⟨⟨t1, by decide, by rw [t2]; decide⟩, ?_⟩
  rw [vi_ms_rs, vi_rs_s, vi_rs_rs, show ((38 : Int)).toNat = 38 from rfl, @tXp_s 38 (vi_nar 5 (100 : Int)) rfl]
  rw [s_236_666]
  refine ⟨⟨t1, by decide, by rw [t2]; decide⟩, ?_⟩
  rw [vi_ms_rs, vi_rs_s, vi_rs_rs, show ((39 : Int)).toNat = 39 from rfl, @tXp_s 39 (vi_nar 5 (32 : Int)) rfl]
  exact hQ
theorem bx_t5 (t1 : Y.1 113 = 5) (t2 : (Y.2.1 113 : Int) = 113) (hQ : vi_ok GG (d + 71) 236 720 [some (.inr (.inr 29)), some (.inr (.inr 1)), some (.inl 6), some (.inl 9), some (.inr (.inr 112)), some (.inl v), some (.inl k), l7, l8, l9, l10, l11, l12, l13, l14] [.inr (.inr 113)] (Y, vi_rs M 113 (tXp 48), nn) Q) : vi_ok GG (d + 71) 236 672 [some (.inr (.inr 29)), some (.inr (.inr 1)), some (.inl 6), some (.inl 9), some (.inr (.inr 112)), some (.inl v), some (.inl k), l7, l8, l9, l10, l11, l12, l13, l14] [.inr (.inr 113)] (Y, vi_rs M 113 (tXp 40), nn) Q := by
  rw [s_236_672]
  refine ⟨⟨t1, by decide, by rw [t2]; decide⟩, ?_⟩
  rw [vi_ms_rs, vi_rs_s, vi_rs_rs, show ((40 : Int)).toNat = 40 from rfl, @tXp_s 40 (vi_nar 5 (120 : Int)) rfl]
  rw [s_236_678]
  refine ⟨⟨t1, by decide, by rw [t2]; decide⟩, ?_⟩
  rw [vi_ms_rs, vi_rs_s, vi_rs_rs, show ((41 : Int)).toNat = 41 from rfl, @tXp_s 41 (vi_nar 5 (32 : Int)) rfl]
  rw [s_236_684]
  refine ⟨⟨t1, by decide, by rw [t2]; decide⟩, ?_⟩
  rw [vi_ms_rs, vi_rs_s, vi_rs_rs, show ((42 : Int)).toNat = 42 from rfl, @tXp_s 42 (vi_nar 5 (43 : Int)) rfl]
  rw [s_236_690]
  refine ⟨⟨t1, by decide, by rw [t2]; decide⟩, ?_⟩
  rw [vi_ms_rs, vi_rs_s, vi_rs_rs, show ((43 : Int)).toNat = 43 from rfl, @tXp_s 43 (vi_nar 5 (32 : Int)) rfl]
  rw [s_236_696]
  refine ⟨⟨t1, by decide, by rw [t2]; decide⟩, ?_⟩
  rw [vi_ms_rs, vi_rs_s, vi_rs_rs, show ((44 : Int)).toNat = 44 from rfl, @tXp_s 44 (vi_nar 5 (121 : Int)) rfl]
  rw [s_236_702]
  refine ⟨⟨t1, by decide, by rw [t2]; decide⟩, ?_⟩
  rw [vi_ms_rs, vi_rs_s, vi_rs_rs, show ((45 : Int)).toNat = 45 from rfl, @tXp_s 45 (vi_nar 5 (32 : Int)) rfl]
  rw [s_236_708]
  refine ⟨⟨t1, by decide, by rw [t2]; decide⟩, ?_⟩
  rw [vi_ms_rs, vi_rs_s, vi_rs_rs, show ((46 : Int)).toNat = 46 from rfl, @tXp_s 46 (vi_nar 5 (43 : Int)) rfl]
  rw [s_236_714]
  refine ⟨⟨t1, by decide, by rw [t2]; decide⟩, ?_⟩
  rw [vi_ms_rs, vi_rs_s, vi_rs_rs, show ((47 : Int)).toNat = 47 from rfl, @tXp_s 47 (vi_nar 5 (32 : Int)) rfl]
  exact hQ
theorem bx_t6 (t1 : Y.1 113 = 5) (t2 : (Y.2.1 113 : Int) = 113) (hQ : vi_ok GG (d + 71) 236 768 [some (.inr (.inr 29)), some (.inr (.inr 1)), some (.inl 6), some (.inl 9), some (.inr (.inr 112)), some (.inl v), some (.inl k), l7, l8, l9, l10, l11, l12, l13, l14] [.inr (.inr 113)] (Y, vi_rs M 113 (tXp 56), nn) Q) : vi_ok GG (d + 71) 236 720 [some (.inr (.inr 29)), some (.inr (.inr 1)), some (.inl 6), some (.inl 9), some (.inr (.inr 112)), some (.inl v), some (.inl k), l7, l8, l9, l10, l11, l12, l13, l14] [.inr (.inr 113)] (Y, vi_rs M 113 (tXp 48), nn) Q := by
  rw [s_236_720]
  refine ⟨⟨t1, by decide, by rw [t2]; decide⟩, ?_⟩
  rw [vi_ms_rs, vi_rs_s, vi_rs_rs, show ((48 : Int)).toNat = 48 from rfl, @tXp_s 48 (vi_nar 5 (122 : Int)) rfl]
  rw [s_236_726]
  refine ⟨⟨t1, by decide, by rw [t2]; decide⟩, ?_⟩
  rw [vi_ms_rs, vi_rs_s, vi_rs_rs, show ((49 : Int)).toNat = 49 from rfl, @tXp_s 49 (vi_nar 5 (32 : Int)) rfl]
  rw [s_236_732]
  refine ⟨⟨t1, by decide, by rw [t2]; decide⟩, ?_⟩
  rw [vi_ms_rs, vi_rs_s, vi_rs_rs, show ((50 : Int)).toNat = 50 from rfl, @tXp_s 50 (vi_nar 5 (61 : Int)) rfl]
  rw [s_236_738]
  refine ⟨⟨t1, by decide, by rw [t2]; decide⟩, ?_⟩
  rw [vi_ms_rs, vi_rs_s, vi_rs_rs, show ((51 : Int)).toNat = 51 from rfl, @tXp_s 51 (vi_nar 5 (32 : Int)) rfl]
  rw [s_236_744]
  refine ⟨⟨t1, by decide, by rw [t2]; decide⟩, ?_⟩
  rw [vi_ms_rs, vi_rs_s, vi_rs_rs, show ((52 : Int)).toNat = 52 from rfl, @tXp_s 52 (vi_nar 5 (53 : Int)) rfl]
  rw [s_236_750]
  refine ⟨⟨t1, by decide, by rw [t2]; decide⟩, ?_⟩
  rw [vi_ms_rs, vi_rs_s, vi_rs_rs, show ((53 : Int)).toNat = 53 from rfl, @tXp_s 53 (vi_nar 5 (59 : Int)) rfl]
  rw [s_236_756]
  refine ⟨⟨t1, by decide, by rw [t2]; decide⟩, ?_⟩
  rw [vi_ms_rs, vi_rs_s, vi_rs_rs, show ((54 : Int)).toNat = 54 from rfl, @tXp_s 54 (vi_nar 5 (115 : Int)) rfl]
  rw [s_236_762]
  refine ⟨⟨t1, by decide, by rw [t2]; decide⟩, ?_⟩
  rw [vi_ms_rs, vi_rs_s, vi_rs_rs, show ((55 : Int)).toNat = 55 from rfl, @tXp_s 55 (vi_nar 5 (104 : Int)) rfl]
  exact hQ
theorem bx_t7 (t1 : Y.1 113 = 5) (t2 : (Y.2.1 113 : Int) = 113) (hQ : vi_ok GG (d + 71) 236 816 [some (.inr (.inr 29)), some (.inr (.inr 1)), some (.inl 6), some (.inl 9), some (.inr (.inr 112)), some (.inl v), some (.inl k), l7, l8, l9, l10, l11, l12, l13, l14] [.inr (.inr 113)] (Y, vi_rs M 113 (tXp 64), nn) Q) : vi_ok GG (d + 71) 236 768 [some (.inr (.inr 29)), some (.inr (.inr 1)), some (.inl 6), some (.inl 9), some (.inr (.inr 112)), some (.inl v), some (.inl k), l7, l8, l9, l10, l11, l12, l13, l14] [.inr (.inr 113)] (Y, vi_rs M 113 (tXp 56), nn) Q := by
  rw [s_236_768]
  refine ⟨⟨t1, by decide, by rw [t2]; decide⟩, ?_⟩
  rw [vi_ms_rs, vi_rs_s, vi_rs_rs, show ((56 : Int)).toNat = 56 from rfl, @tXp_s 56 (vi_nar 5 (117 : Int)) rfl]
  rw [s_236_774]
  refine ⟨⟨t1, by decide, by rw [t2]; decide⟩, ?_⟩
  rw [vi_ms_rs, vi_rs_s, vi_rs_rs, show ((57 : Int)).toNat = 57 from rfl, @tXp_s 57 (vi_nar 5 (116 : Int)) rfl]
  rw [s_236_780]
  refine ⟨⟨t1, by decide, by rw [t2]; decide⟩, ?_⟩
  rw [vi_ms_rs, vi_rs_s, vi_rs_rs, show ((58 : Int)).toNat = 58 from rfl, @tXp_s 58 (vi_nar 5 (115 : Int)) rfl]
  rw [s_236_786]
  refine ⟨⟨t1, by decide, by rw [t2]; decide⟩, ?_⟩
  rw [vi_ms_rs, vi_rs_s, vi_rs_rs, show ((59 : Int)).toNat = 59 from rfl, @tXp_s 59 (vi_nar 5 (32 : Int)) rfl]
  rw [s_236_792]
  refine ⟨⟨t1, by decide, by rw [t2]; decide⟩, ?_⟩
  rw [vi_ms_rs, vi_rs_s, vi_rs_rs, show ((60 : Int)).toNat = 60 from rfl, @tXp_s 60 (vi_nar 5 (105 : Int)) rfl]
  rw [s_236_798]
  refine ⟨⟨t1, by decide, by rw [t2]; decide⟩, ?_⟩
  rw [vi_ms_rs, vi_rs_s, vi_rs_rs, show ((61 : Int)).toNat = 61 from rfl, @tXp_s 61 (vi_nar 5 (102 : Int)) rfl]
  rw [s_236_804]
  refine ⟨⟨t1, by decide, by rw [t2]; decide⟩, ?_⟩
  rw [vi_ms_rs, vi_rs_s, vi_rs_rs, show ((62 : Int)).toNat = 62 from rfl, @tXp_s 62 (vi_nar 5 (32 : Int)) rfl]
  rw [s_236_810]
  refine ⟨⟨t1, by decide, by rw [t2]; decide⟩, ?_⟩
  rw [vi_ms_rs, vi_rs_s, vi_rs_rs, show ((63 : Int)).toNat = 63 from rfl, @tXp_s 63 (vi_nar 5 (114 : Int)) rfl]
  exact hQ
theorem bx_t8 (t1 : Y.1 113 = 5) (t2 : (Y.2.1 113 : Int) = 113) (hQ : vi_ok GG (d + 71) 236 864 [some (.inr (.inr 29)), some (.inr (.inr 1)), some (.inl 6), some (.inl 9), some (.inr (.inr 112)), some (.inl v), some (.inl k), l7, l8, l9, l10, l11, l12, l13, l14] [.inr (.inr 113)] (Y, vi_rs M 113 (tXp 72), nn) Q) : vi_ok GG (d + 71) 236 816 [some (.inr (.inr 29)), some (.inr (.inr 1)), some (.inl 6), some (.inl 9), some (.inr (.inr 112)), some (.inl v), some (.inl k), l7, l8, l9, l10, l11, l12, l13, l14] [.inr (.inr 113)] (Y, vi_rs M 113 (tXp 64), nn) Q := by
  rw [s_236_816]
  refine ⟨⟨t1, by decide, by rw [t2]; decide⟩, ?_⟩
  rw [vi_ms_rs, vi_rs_s, vi_rs_rs, show ((64 : Int)).toNat = 64 from rfl, @tXp_s 64 (vi_nar 5 (105 : Int)) rfl]
  rw [s_236_822]
  refine ⟨⟨t1, by decide, by rw [t2]; decide⟩, ?_⟩
  rw [vi_ms_rs, vi_rs_s, vi_rs_rs, show ((65 : Int)).toNat = 65 from rfl, @tXp_s 65 (vi_nar 5 (110 : Int)) rfl]
  rw [s_236_828]
  refine ⟨⟨t1, by decide, by rw [t2]; decide⟩, ?_⟩
  rw [vi_ms_rs, vi_rs_s, vi_rs_rs, show ((66 : Int)).toNat = 66 from rfl, @tXp_s 66 (vi_nar 5 (100 : Int)) rfl]
  rw [s_236_834]
  refine ⟨⟨t1, by decide, by rw [t2]; decide⟩, ?_⟩
  rw [vi_ms_rs, vi_rs_s, vi_rs_rs, show ((67 : Int)).toNat = 67 from rfl, @tXp_s 67 (vi_nar 5 (32 : Int)) rfl]
  rw [s_236_840]
  refine ⟨⟨t1, by decide, by rw [t2]; decide⟩, ?_⟩
  rw [vi_ms_rs, vi_rs_s, vi_rs_rs, show ((68 : Int)).toNat = 68 from rfl, @tXp_s 68 (vi_nar 5 (61 : Int)) rfl]
  rw [s_236_846]
  refine ⟨⟨t1, by decide, by rw [t2]; decide⟩, ?_⟩
  rw [vi_ms_rs, vi_rs_s, vi_rs_rs, show ((69 : Int)).toNat = 69 from rfl, @tXp_s 69 (vi_nar 5 (32 : Int)) rfl]
  rw [s_236_852]
  refine ⟨⟨t1, by decide, by rw [t2]; decide⟩, ?_⟩
  rw [vi_ms_rs, vi_rs_s, vi_rs_rs, show ((70 : Int)).toNat = 70 from rfl, @tXp_s 70 (vi_nar 5 (48 : Int)) rfl]
  rw [s_236_858]
  refine ⟨⟨t1, by decide, by rw [t2]; decide⟩, ?_⟩
  rw [vi_ms_rs, vi_rs_s, vi_rs_rs, show ((71 : Int)).toNat = 71 from rfl, @tXp_s 71 (vi_nar 5 (32 : Int)) rfl]
  exact hQ
theorem bx_t9 (t1 : Y.1 113 = 5) (t2 : (Y.2.1 113 : Int) = 113) (hQ : vi_ok GG (d + 71) 236 912 [some (.inr (.inr 29)), some (.inr (.inr 1)), some (.inl 6), some (.inl 9), some (.inr (.inr 112)), some (.inl v), some (.inl k), l7, l8, l9, l10, l11, l12, l13, l14] [.inr (.inr 113)] (Y, vi_rs M 113 (tXp 80), nn) Q) : vi_ok GG (d + 71) 236 864 [some (.inr (.inr 29)), some (.inr (.inr 1)), some (.inl 6), some (.inl 9), some (.inr (.inr 112)), some (.inl v), some (.inl k), l7, l8, l9, l10, l11, l12, l13, l14] [.inr (.inr 113)] (Y, vi_rs M 113 (tXp 72), nn) Q := by
  rw [s_236_864]
  refine ⟨⟨t1, by decide, by rw [t2]; decide⟩, ?_⟩
  rw [vi_ms_rs, vi_rs_s, vi_rs_rs, show ((72 : Int)).toNat = 72 from rfl, @tXp_s 72 (vi_nar 5 (111 : Int)) rfl]
  rw [s_236_870]
  refine ⟨⟨t1, by decide, by rw [t2]; decide⟩, ?_⟩
  rw [vi_ms_rs, vi_rs_s, vi_rs_rs, show ((73 : Int)).toNat = 73 from rfl, @tXp_s 73 (vi_nar 5 (114 : Int)) rfl]
  rw [s_236_876]
  refine ⟨⟨t1, by decide, by rw [t2]; decide⟩, ?_⟩
  rw [vi_ms_rs, vi_rs_s, vi_rs_rs, show ((74 : Int)).toNat = 74 from rfl, @tXp_s 74 (vi_nar 5 (32 : Int)) rfl]
  rw [s_236_882]
  refine ⟨⟨t1, by decide, by rw [t2]; decide⟩, ?_⟩
  rw [vi_ms_rs, vi_rs_s, vi_rs_rs, show ((75 : Int)).toNat = 75 from rfl, @tXp_s 75 (vi_nar 5 (122 : Int)) rfl]
  rw [s_236_888]
  refine ⟨⟨t1, by decide, by rw [t2]; decide⟩, ?_⟩
  rw [vi_ms_rs, vi_rs_s, vi_rs_rs, show ((76 : Int)).toNat = 76 from rfl, @tXp_s 76 (vi_nar 5 (32 : Int)) rfl]
  rw [s_236_894]
  refine ⟨⟨t1, by decide, by rw [t2]; decide⟩, ?_⟩
  rw [vi_ms_rs, vi_rs_s, vi_rs_rs, show ((77 : Int)).toNat = 77 from rfl, @tXp_s 77 (vi_nar 5 (61 : Int)) rfl]
  rw [s_236_900]
  refine ⟨⟨t1, by decide, by rw [t2]; decide⟩, ?_⟩
  rw [vi_ms_rs, vi_rs_s, vi_rs_rs, show ((78 : Int)).toNat = 78 from rfl, @tXp_s 78 (vi_nar 5 (32 : Int)) rfl]
  rw [s_236_906]
  refine ⟨⟨t1, by decide, by rw [t2]; decide⟩, ?_⟩
  rw [vi_ms_rs, vi_rs_s, vi_rs_rs, show ((79 : Int)).toNat = 79 from rfl, @tXp_s 79 (vi_nar 5 (100 : Int)) rfl]
  exact hQ
theorem bx_t10 (t1 : Y.1 113 = 5) (t2 : (Y.2.1 113 : Int) = 113) (hQ : vi_ok GG (d + 71) 236 960 [some (.inr (.inr 29)), some (.inr (.inr 1)), some (.inl 6), some (.inl 9), some (.inr (.inr 112)), some (.inl v), some (.inl k), l7, l8, l9, l10, l11, l12, l13, l14] [.inr (.inr 113)] (Y, vi_rs M 113 (tXp 88), nn) Q) : vi_ok GG (d + 71) 236 912 [some (.inr (.inr 29)), some (.inr (.inr 1)), some (.inl 6), some (.inl 9), some (.inr (.inr 112)), some (.inl v), some (.inl k), l7, l8, l9, l10, l11, l12, l13, l14] [.inr (.inr 113)] (Y, vi_rs M 113 (tXp 80), nn) Q := by
  rw [s_236_912]
  refine ⟨⟨t1, by decide, by rw [t2]; decide⟩, ?_⟩
  rw [vi_ms_rs, vi_rs_s, vi_rs_rs, show ((80 : Int)).toNat = 80 from rfl, @tXp_s 80 (vi_nar 5 (97 : Int)) rfl]
  rw [s_236_918]
  refine ⟨⟨t1, by decide, by rw [t2]; decide⟩, ?_⟩
  rw [vi_ms_rs, vi_rs_s, vi_rs_rs, show ((81 : Int)).toNat = 81 from rfl, @tXp_s 81 (vi_nar 5 (121 : Int)) rfl]
  rw [s_236_924]
  refine ⟨⟨t1, by decide, by rw [t2]; decide⟩, ?_⟩
  rw [vi_ms_rs, vi_rs_s, vi_rs_rs, show ((82 : Int)).toNat = 82 from rfl, @tXp_s 82 (vi_nar 5 (59 : Int)) rfl]
  rw [s_236_930]
  refine ⟨⟨t1, by decide, by rw [t2]; decide⟩, ?_⟩
  rw [vi_ms_rs, vi_rs_s, vi_rs_rs, show ((83 : Int)).toNat = 83 from rfl, @tXp_s 83 (vi_nar 5 (119 : Int)) rfl]
  rw [s_236_936]
  refine ⟨⟨t1, by decide, by rw [t2]; decide⟩, ?_⟩
  rw [vi_ms_rs, vi_rs_s, vi_rs_rs, show ((84 : Int)).toNat = 84 from rfl, @tXp_s 84 (vi_nar 5 (101 : Int)) rfl]
  rw [s_236_942]
  refine ⟨⟨t1, by decide, by rw [t2]; decide⟩, ?_⟩
  rw [vi_ms_rs, vi_rs_s, vi_rs_rs, show ((85 : Int)).toNat = 85 from rfl, @tXp_s 85 (vi_nar 5 (105 : Int)) rfl]
  rw [s_236_948]
  refine ⟨⟨t1, by decide, by rw [t2]; decide⟩, ?_⟩
  rw [vi_ms_rs, vi_rs_s, vi_rs_rs, show ((86 : Int)).toNat = 86 from rfl, @tXp_s 86 (vi_nar 5 (103 : Int)) rfl]
  rw [s_236_954]
  refine ⟨⟨t1, by decide, by rw [t2]; decide⟩, ?_⟩
  rw [vi_ms_rs, vi_rs_s, vi_rs_rs, show ((87 : Int)).toNat = 87 from rfl, @tXp_s 87 (vi_nar 5 (104 : Int)) rfl]
  exact hQ
theorem bx_t11 (t1 : Y.1 113 = 5) (t2 : (Y.2.1 113 : Int) = 113) (hQ : vi_ok GG (d + 71) 236 1008 [some (.inr (.inr 29)), some (.inr (.inr 1)), some (.inl 6), some (.inl 9), some (.inr (.inr 112)), some (.inl v), some (.inl k), l7, l8, l9, l10, l11, l12, l13, l14] [.inr (.inr 113)] (Y, vi_rs M 113 (tXp 96), nn) Q) : vi_ok GG (d + 71) 236 960 [some (.inr (.inr 29)), some (.inr (.inr 1)), some (.inl 6), some (.inl 9), some (.inr (.inr 112)), some (.inl v), some (.inl k), l7, l8, l9, l10, l11, l12, l13, l14] [.inr (.inr 113)] (Y, vi_rs M 113 (tXp 88), nn) Q := by
  rw [s_236_960]
  refine ⟨⟨t1, by decide, by rw [t2]; decide⟩, ?_⟩
  rw [vi_ms_rs, vi_rs_s, vi_rs_rs, show ((88 : Int)).toNat = 88 from rfl, @tXp_s 88 (vi_nar 5 (115 : Int)) rfl]
  rw [s_236_966]
  refine ⟨⟨t1, by decide, by rw [t2]; decide⟩, ?_⟩
  rw [vi_ms_rs, vi_rs_s, vi_rs_rs, show ((89 : Int)).toNat = 89 from rfl, @tXp_s 89 (vi_nar 5 (32 : Int)) rfl]
  rw [s_236_972]
  refine ⟨⟨t1, by decide, by rw [t2]; decide⟩, ?_⟩
  rw [vi_ms_rs, vi_rs_s, vi_rs_rs, show ((90 : Int)).toNat = 90 from rfl, @tXp_s 90 (vi_nar 5 (57 : Int)) rfl]
  rw [s_236_978]
  refine ⟨⟨t1, by decide, by rw [t2]; decide⟩, ?_⟩
  rw [vi_ms_rs, vi_rs_s, vi_rs_rs, show ((91 : Int)).toNat = 91 from rfl, @tXp_s 91 (vi_nar 5 (32 : Int)) rfl]
  rw [s_236_984]
  refine ⟨⟨t1, by decide, by rw [t2]; decide⟩, ?_⟩
  rw [vi_ms_rs, vi_rs_s, vi_rs_rs, show ((92 : Int)).toNat = 92 from rfl, @tXp_s 92 (vi_nar 5 (47 : Int)) rfl]
  rw [s_236_990]
  refine ⟨⟨t1, by decide, by rw [t2]; decide⟩, ?_⟩
  rw [vi_ms_rs, vi_rs_s, vi_rs_rs, show ((93 : Int)).toNat = 93 from rfl, @tXp_s 93 (vi_nar 5 (32 : Int)) rfl]
  rw [s_236_996]
  refine ⟨⟨t1, by decide, by rw [t2]; decide⟩, ?_⟩
  rw [vi_ms_rs, vi_rs_s, vi_rs_rs, show ((94 : Int)).toNat = 94 from rfl, @tXp_s 94 (vi_nar 5 (91 : Int)) rfl]
  rw [s_236_1002]
  refine ⟨⟨t1, by decide, by rw [t2]; decide⟩, ?_⟩
  rw [vi_ms_rs, vi_rs_s, vi_rs_rs, show ((95 : Int)).toNat = 95 from rfl, @tXp_s 95 (vi_nar 5 (120 : Int)) rfl]
  exact hQ
theorem bx_t12 (t1 : Y.1 113 = 5) (t2 : (Y.2.1 113 : Int) = 113) (hQ : vi_ok GG (d + 71) 236 1056 [some (.inr (.inr 29)), some (.inr (.inr 1)), some (.inl 6), some (.inl 9), some (.inr (.inr 112)), some (.inl v), some (.inl k), l7, l8, l9, l10, l11, l12, l13, l14] [.inr (.inr 113)] (Y, vi_rs M 113 (tXp 104), nn) Q) : vi_ok GG (d + 71) 236 1008 [some (.inr (.inr 29)), some (.inr (.inr 1)), some (.inl 6), some (.inl 9), some (.inr (.inr 112)), some (.inl v), some (.inl k), l7, l8, l9, l10, l11, l12, l13, l14] [.inr (.inr 113)] (Y, vi_rs M 113 (tXp 96), nn) Q := by
  rw [s_236_1008]
  refine ⟨⟨t1, by decide, by rw [t2]; decide⟩, ?_⟩
  rw [vi_ms_rs, vi_rs_s, vi_rs_rs, show ((96 : Int)).toNat = 96 from rfl, @tXp_s 96 (vi_nar 5 (32 : Int)) rfl]
  rw [s_236_1014]
  refine ⟨⟨t1, by decide, by rw [t2]; decide⟩, ?_⟩
  rw [vi_ms_rs, vi_rs_s, vi_rs_rs, show ((97 : Int)).toNat = 97 from rfl, @tXp_s 97 (vi_nar 5 (45 : Int)) rfl]
  rw [s_236_1020]
  refine ⟨⟨t1, by decide, by rw [t2]; decide⟩, ?_⟩
  rw [vi_ms_rs, vi_rs_s, vi_rs_rs, show ((98 : Int)).toNat = 98 from rfl, @tXp_s 98 (vi_nar 5 (32 : Int)) rfl]
  rw [s_236_1026]
  refine ⟨⟨t1, by decide, by rw [t2]; decide⟩, ?_⟩
  rw [vi_ms_rs, vi_rs_s, vi_rs_rs, show ((99 : Int)).toNat = 99 from rfl, @tXp_s 99 (vi_nar 5 (49 : Int)) rfl]
  rw [s_236_1032]
  refine ⟨⟨t1, by decide, by rw [t2]; decide⟩, ?_⟩
  rw [vi_ms_rs, vi_rs_s, vi_rs_rs, show ((100 : Int)).toNat = 100 from rfl, @tXp_s 100 (vi_nar 5 (93 : Int)) rfl]
  rw [s_236_1038]
  refine ⟨⟨t1, by decide, by rw [t2]; decide⟩, ?_⟩
  rw [vi_ms_rs, vi_rs_s, vi_rs_rs, show ((101 : Int)).toNat = 101 from rfl, @tXp_s 101 (vi_nar 5 (32 : Int)) rfl]
  rw [s_236_1044]
  refine ⟨⟨t1, by decide, by rw [t2]; decide⟩, ?_⟩
  rw [vi_ms_rs, vi_rs_s, vi_rs_rs, show ((102 : Int)).toNat = 102 from rfl, @tXp_s 102 (vi_nar 5 (105 : Int)) rfl]
  rw [s_236_1050]
  refine ⟨⟨t1, by decide, by rw [t2]; decide⟩, ?_⟩
  rw [vi_ms_rs, vi_rs_s, vi_rs_rs, show ((103 : Int)).toNat = 103 from rfl, @tXp_s 103 (vi_nar 5 (102 : Int)) rfl]
  exact hQ
theorem bx_t13 (t1 : Y.1 113 = 5) (t2 : (Y.2.1 113 : Int) = 113) (hQ : vi_ok GG (d + 71) 236 1104 [some (.inr (.inr 29)), some (.inr (.inr 1)), some (.inl 6), some (.inl 9), some (.inr (.inr 112)), some (.inl v), some (.inl k), l7, l8, l9, l10, l11, l12, l13, l14] [.inr (.inr 113)] (Y, vi_rs M 113 (tXp 112), nn) Q) : vi_ok GG (d + 71) 236 1056 [some (.inr (.inr 29)), some (.inr (.inr 1)), some (.inl 6), some (.inl 9), some (.inr (.inr 112)), some (.inl v), some (.inl k), l7, l8, l9, l10, l11, l12, l13, l14] [.inr (.inr 113)] (Y, vi_rs M 113 (tXp 104), nn) Q := by
  rw [s_236_1056]
  refine ⟨⟨t1, by decide, by rw [t2]; decide⟩, ?_⟩
  rw [vi_ms_rs, vi_rs_s, vi_rs_rs, show ((104 : Int)).toNat = 104 from rfl, @tXp_s 104 (vi_nar 5 (32 : Int)) rfl]
  rw [s_236_1062]
  refine ⟨⟨t1, by decide, by rw [t2]; decide⟩, ?_⟩
  rw [vi_ms_rs, vi_rs_s, vi_rs_rs, show ((105 : Int)).toNat = 105 from rfl, @tXp_s 105 (vi_nar 5 (114 : Int)) rfl]
  rw [s_236_1068]
  refine ⟨⟨t1, by decide, by rw [t2]; decide⟩, ?_⟩
  rw [vi_ms_rs, vi_rs_s, vi_rs_rs, show ((106 : Int)).toNat = 106 from rfl, @tXp_s 106 (vi_nar 5 (105 : Int)) rfl]
  rw [s_236_1074]
  refine ⟨⟨t1, by decide, by rw [t2]; decide⟩, ?_⟩
  rw [vi_ms_rs, vi_rs_s, vi_rs_rs, show ((107 : Int)).toNat = 107 from rfl, @tXp_s 107 (vi_nar 5 (110 : Int)) rfl]
  rw [s_236_1080]
  refine ⟨⟨t1, by decide, by rw [t2]; decide⟩, ?_⟩
  rw [vi_ms_rs, vi_rs_s, vi_rs_rs, show ((108 : Int)).toNat = 108 from rfl, @tXp_s 108 (vi_nar 5 (100 : Int)) rfl]
  rw [s_236_1086]
  refine ⟨⟨t1, by decide, by rw [t2]; decide⟩, ?_⟩
  rw [vi_ms_rs, vi_rs_s, vi_rs_rs, show ((109 : Int)).toNat = 109 from rfl, @tXp_s 109 (vi_nar 5 (32 : Int)) rfl]
  rw [s_236_1092]
  refine ⟨⟨t1, by decide, by rw [t2]; decide⟩, ?_⟩
  rw [vi_ms_rs, vi_rs_s, vi_rs_rs, show ((110 : Int)).toNat = 110 from rfl, @tXp_s 110 (vi_nar 5 (62 : Int)) rfl]
  rw [s_236_1098]
  refine ⟨⟨t1, by decide, by rw [t2]; decide⟩, ?_⟩
  rw [vi_ms_rs, vi_rs_s, vi_rs_rs, show ((111 : Int)).toNat = 111 from rfl, @tXp_s 111 (vi_nar 5 (32 : Int)) rfl]
  exact hQ
theorem bx_t14 (t1 : Y.1 113 = 5) (t2 : (Y.2.1 113 : Int) = 113) (hQ : vi_ok GG (d + 71) 236 1110 [some (.inr (.inr 29)), some (.inr (.inr 1)), some (.inl 6), some (.inl 9), some (.inr (.inr 112)), some (.inl v), some (.inl k), l7, l8, l9, l10, l11, l12, l13, l14] [.inr (.inr 113)] (Y, vi_rs M 113 (tXp 113), nn) Q) : vi_ok GG (d + 71) 236 1104 [some (.inr (.inr 29)), some (.inr (.inr 1)), some (.inl 6), some (.inl 9), some (.inr (.inr 112)), some (.inl v), some (.inl k), l7, l8, l9, l10, l11, l12, l13, l14] [.inr (.inr 113)] (Y, vi_rs M 113 (tXp 112), nn) Q := by
  rw [s_236_1104]
  refine ⟨⟨t1, by decide, by rw [t2]; decide⟩, ?_⟩
  rw [vi_ms_rs, vi_rs_s, vi_rs_rs, show ((112 : Int)).toNat = 112 from rfl, @tXp_s 112 (vi_nar 5 (50 : Int)) rfl]
  exact hQ
theorem bx_438 (t1 : Y.1 113 = 5) (t2 : (Y.2.1 113 : Int) = 113) (hQ : vi_ok GG (d + 71) 236 1110 [some (.inr (.inr 29)), some (.inr (.inr 1)), some (.inl 6), some (.inl 9), some (.inr (.inr 112)), some (.inl v), some (.inl k), l7, l8, l9, l10, l11, l12, l13, l14] [.inr (.inr 113)] (Y, vi_rs M 113 (tXp 113), nn) Q) : vi_ok GG (d + 71) 236 438 [some (.inr (.inr 29)), some (.inr (.inr 1)), some (.inl 6), some (.inl 9), some (.inr (.inr 112)), some (.inl v), some (.inl k), l7, l8, l9, l10, l11, l12, l13, l14] [.inr (.inr 113)] (Y, vi_rs M 113 (tXp 0), nn) Q := bx_t0 t1 t2 (bx_t1 t1 t2 (bx_t2 t1 t2 (bx_t3 t1 t2 (bx_t4 t1 t2 (bx_t5 t1 t2 (bx_t6 t1 t2 (bx_t7 t1 t2 (bx_t8 t1 t2 (bx_t9 t1 t2 (bx_t10 t1 t2 (bx_t11 t1 t2 (bx_t12 t1 t2 (bx_t13 t1 t2 (bx_t14 t1 t2 hQ))))))))))))))
end
section
variable {d : Nat} {Y : vi_Y} {M0 : vi_M} {v : Int} {Q : Option vi_V → vi_W → Prop}
theorem wS_t {M M' : vi_M} {x y z t fo : Int} {L R : List (Nat → Int)} {lw : Option (List gCla)} {nl : Nat} (h : wS M x y z t L R lw nl fo) (hp : ∀ p, p < 112 → p ≠ 73 → p ≠ 74 → M' p = M p) : wS M' x y z t L R lw nl fo := by
  obtain ⟨⟨⟨o1, o2, o3⟩, h4, h5, h6, h7, h8⟩, hV⟩ := h
  refine ⟨⟨⟨?_, ?_, ?_⟩, h4, ?_, ?_, jJ_c2 h7 fun q hq => hp q (by unfold jCe at hq; omega) (by unfold jCe at hq; omega) (by unfold jCe at hq; omega), ?_⟩, jV_c hV fun p p1 p2 => hp p (by omega) (by omega) (by omega)⟩
  · rw [hp 31 (by decide) (by decide) (by decide), hp 32 (by decide) (by decide) (by decide)]; exact o1
  · rw [hp 33 (by decide) (by decide) (by decide), hp 34 (by decide) (by decide) (by decide)]; exact o2
  · rw [hp 35 (by decide) (by decide) (by decide), hp 36 (by decide) (by decide) (by decide)]; exact o3
  · rw [hp 30 (by decide) (by decide) (by decide)]; exact h5
  · rw [hp 30 (by decide) (by decide) (by decide)]; exact h6
  · rw [hp 111 (by decide) (by decide) (by decide)]; exact h8
def boxT (lw : Option (List gCla)) (fl fo : Int) : Prop := (fl = 0 ∧ lw = none ∧ fo = -1) ∨ (fl = 1 ∧ lw = some csT ∧ fo = 0)
theorem bx_434 (hY : kY Y 112) (h9 : kY9 Y) (tr : Y.1 112 = 1 ∧ (Y.2.1 112 : Int) = 222) (hk : kS Y M0) (h73 : M0 73 3 = 0) (h74 : M0 74 = tM 0) {sl : Nat} {M : vi_M} {L : List (Nat → Int)} {x y z t k : Int} (hS : wS M x y z t L [] none 0 (-1)) (hf : lF0 M0 M) (hr : bxR (M 112) (fK x y z t L) 0 216 (fun c => (hC x y z L (c : Int) : Int)))
    (hQ : ∀ (Y' : vi_Y) (M' : vi_M) (lw : Option (List gCla)) (fl fo : Int) (S : Nat), S ≤ 400 → kBl Y Y' 113 → wS M' x y z t L [] lw 1 fo → boxT lw fl fo → (∀ p, p < 29 → M' p = M0 p) → bxR (M' 112) (fK x y z t L) fl 216 (fun c => (hC x y z L (c : Int) : Int)) → Q (some (.inr (.inr 112))) (Y', M', 125, sl + 113 + 30 + S + 16 + 78)) (l7 l8 l9 l10 l11 l12 l13 l14 : Option vi_V) : vi_ok GG (d + 71) 236 434 [some (.inr (.inr 29)), some (.inr (.inr 1)), some (.inl 6), some (.inl 9), some (.inr (.inr 112)), some (.inl v), some (.inl k), l7, l8, l9, l10, l11, l12, l13, l14] [] (Y, M, 113, sl) Q := by
  obtain ⟨t1, t2⟩ := tr
  have z113 : (113 : Int).toNat = 113 := rfl
  rw [s_236_434]
  refine ⟨by decide, ?_⟩
  obtain ⟨Y1, hY1⟩ : ∃ Y1, Y1 = vi_ynew Y 113 5 113 := ⟨_, rfl⟩
  have hb1 : kBl Y Y1 113 := by rw [hY1]; exact kBl_n (Nat.le_refl _)
  have q1 : Y1.1 113 = 5 ∧ (Y1.2.1 113 : Int) = 113 := by rw [hY1, yn1, yn2]; exact ⟨rfl, rfl⟩
  show vi_ok GG (d + 71) 236 438 _ _ (vi_ynew Y 113 5 113, vi_rs M 113 (tXp 0), 114, sl + 113) Q
  rw [← hY1]
  refine bx_438 q1.1 q1.2 ?_
  clear hY1
  obtain ⟨Ma, hMa⟩ : ∃ Ma, Ma = vi_rs M 113 (tXp 113) := ⟨_, rfl⟩
  have a0 : ∀ p, p < 113 → Ma p = M p := fun p hp => by rw [hMa, vi_rs_o (by omega)]
  have a113 : ∀ j, j < 113 → Ma 113 j = tC j := fun j hj => by rw [hMa, vi_rs_s]; exact if_pos hj
  rw [← hMa]
  have hSa : wS Ma x y z t L [] none 0 (-1) := by rw [hMa]; exact pS_o hS (by decide)
  clear hMa
  have hY1 := kY_bl hY hb1 (by decide)
  have h91 := kY9_bl h9 hb1 (by decide)
  rw [s_236_1110]
  refine ⟨q1.1, ?_⟩
  rw [q1.2, s_236_1118]
  refine @lk_235 d Y1 Ma _ 113 114 (sl + 113) hY1 h91 q1 (by decide) a113 (by rw [a0 73 (by decide), hf 73 (by omega)]; exact h73) (by rw [a0 74 (by decide), hf 74 (by omega)]; exact h74) fun Y2 M2 hb2 m74 m73 m2 => ?_
  have hb2' : kBl Y Y2 113 := kBl_t hb1 fun q hq => hb2 q (by omega)
  have hY2 := kY_bl hY hb2' (by decide)
  have h92 := kY9_bl h9 hb2' (by decide)
  have hS2 : wS M2 x y z t L [] none 0 (-1) := wS_t hSa fun p p1 p2 p3 => m2 p (by omega) p2 p3
  show vi_ok GG (d + 71) 236 1121 [some (.inr (.inr 29)), some (.inr (.inr 1)), some (.inl 6), some (.inl 9), some (.inr (.inr 112)), some (.inl v), some (.inr (.inr 113)), l7, l8, l9, l10, l11, l12, l13, l14] [] (Y2, M2, 120, sl + 113 + 30) Q
  rw [s_236_1121]
  refine ⟨h92.1, ?_⟩
  refine @lk_197 (d + 1) Y2 M2 x y z t L [] _ hY2 h92 (fun i hi => ?_) 120 (sl + 113 + 30) hS2 113 (by decide) (by rw [m74]; exact tM_k 6) m73 (Nat.le_refl _) csT 43 60 (by rw [m74]; exact csT_g) fun Y3 M3 S hSl g1 hb3 hS3 m39 m3 => ?_
  · obtain ⟨b1, b2, b3, b4, b5, b6⟩ := hk i hi
    have e1 := hb2' (2 + i) (by omega)
    have e2 := hb2' (15 + i) (by omega)
    exact ⟨e1.1.trans b1, by rw [e1.2.2]; exact b2, by rw [e1.2.2]; exact b3, e2.1.trans b4, by rw [e2.2.1]; exact b5, fun j hj => by rw [m2 (15 + i) (by omega) (by omega) (by omega), a0 (15 + i) (by omega), hf (15 + i) (by omega)]; exact b6 j hj⟩
  have hb3' : kBl Y Y3 113 := kBl_t hb2' fun q hq => hb3 q (by omega)
  have hY3 := kY_bl hY hb3' (by decide)
  have h93 := kY9_bl h9 hb3' (by decide)
  have tr3 : Y3.1 112 = 1 ∧ (Y3.2.1 112 : Int) = 222 := by
    obtain ⟨e1, e2, -⟩ := hb3' 112 (by decide)
    rw [e1, e2]; exact ⟨t1, t2⟩
  obtain ⟨t31, t32⟩ := tr3
  have e112 : M3 112 = M 112 := by rw [m3 112 (by decide) (by decide) (by decide) (by decide) (by decide) (by decide) (by decide), m2 112 (by decide) (by decide) (by decide), a0 112 (by decide)]
  have low : ∀ p, p < 29 → M3 p = M0 p := fun p hp => by rw [m3 p (by omega) (by omega) (by omega) (by omega) (by omega) (by omega) (by omega), m2 p (by omega) (by omega) (by omega), a0 p (by omega), hf p (by omega)]
  have z5 : (5 : Int).toNat = 5 := rfl
  have st : ∀ u : Int, vi_ok GG (d + 71) 236 1138 [some (.inr (.inr 29)), some (.inr (.inr 1)), some (.inl 6), some (.inl 9), some (.inr (.inr 112)), some (.inl v), some (.inr (.inr 113)), l7, l8, l9, l10, l11, l12, l13, l14] [.inl (u % 2), .inl 5, .inr (.inr 112)] (Y3, M3, 125, sl + 113 + 30 + S + 4 * csT.length + 78) Q := by
    intro u
    obtain ⟨s, hs⟩ : ∃ s, s = u % 2 := ⟨_, rfl⟩
    have sb : s = 0 ∨ s = 1 := by omega
    rw [← hs]
    clear hs
    obtain ⟨M4, hM4⟩ : ∃ M4, M4 = vi_rs M3 112 (vi_u (M3 112) 5 s) := ⟨_, rfl⟩
    have hS4 : wS M4 x y z t L [] none 1 (-1) := by rw [hM4]; exact pS_o hS3 (by decide)
    have m112 : M4 112 = vi_u (M 112) 5 s := by rw [hM4, vi_rs_s, e112]
    have low4 : ∀ p, p < 112 → M4 p = M3 p := fun p hp => by rw [hM4, vi_rs_o (by omega)]
    have m120 : M4 120 = M3 120 ∧ M4 121 = M3 121 := by rw [hM4, vi_rs_o (by decide), vi_rs_o (by decide)]; exact ⟨rfl, rfl⟩
    have hr4 : bxR (M4 112) (fK x y z t L) s 216 (fun c => (hC x y z L (c : Int) : Int)) := by
      rw [m112]
      exact ⟨⟨by rw [vi_u_o (by decide)]; exact hr.1.1, by rw [vi_u_o (by decide)]; exact hr.1.2.1, by rw [vi_u_o (by decide)]; exact hr.1.2.2.1, by rw [vi_u_o (by decide)]; exact hr.1.2.2.2.1, vi_u_s⟩, fun c hc => by rw [vi_u_o (by omega)]; exact hr.2 c hc⟩
    have e5 : M4 112 5 = s := by rw [m112, vi_u_s]
    have ex : vi_ok GG (d + 71) 236 1139 [some (.inr (.inr 29)), some (.inr (.inr 1)), some (.inl 6), some (.inl 9), some (.inr (.inr 112)), some (.inl v), some (.inr (.inr 113)), l7, l8, l9, l10, l11, l12, l13, l14] [] (Y3, M4, 125, sl + 113 + 30 + S + 4 * csT.length + 78) Q := by
      rcases sb with rfl | rfl
      · have q := hQ Y3 M4 none 0 (-1) S hSl hb3' hS4 (.inl ⟨rfl, rfl, rfl⟩) (fun p hp => (low4 p (by omega)).trans (low p hp)) hr4
        clear hQ hr hS hf hSa hS2 hS3 hS4 hr4
        simp (disch := omega) only [Option.toList_some, Option.toList_none, List.nil_append, List.cons_append, List.append_nil, true_and, and_true, not_true_eq_false, not_false_eq_true, true_implies, false_implies, implies_true, and_self, Int.reduceLT, Int.reduceLE, Int.reduceEq, Int.reduceNe, Int.reduceAdd, Int.reduceSub, Int.reduceMul, Int.reduceNeg, Int.reduceToNat, Int.toNat_natCast, ↓kk_ck, ↓kk_im, ↓kk_in, s_236_1139, s_236_1143, s_236_1153, t31, t32, z5, e5, ne_eq]
        exact q
      · have cl : vi_call GG (d + 71) 199 [.inr (.inr 29), .inl 0] (Y3, M4, 125, sl + 113 + 30 + S + 4 * csT.length + 78) (fun r w' => vi_ok GG (d + 71) 236 1152 [some (.inr (.inr 29)), some (.inr (.inr 1)), some (.inl 6), some (.inl 9), some (.inr (.inr 112)), some (.inl v), some (.inr (.inr 113)), l7, l8, l9, l10, l11, l12, l13, l14] r.toList w' Q) := by
          refine @lk_199 (d + 1) Y3 M4 _ x y z t L [] _ hY3 h93 hS4 S csT (pGood_bl (b := 125) g1 (fun q _ => ⟨rfl, rfl, rfl⟩) (by decide) m120.1 m120.2) (by rw [low4 39 (by decide)]; exact m39) fun M5 r hS5 m5 => ?_
          have q := hQ Y3 M5 (some csT) 1 0 S hSl hb3' hS5 (.inr ⟨rfl, rfl, rfl⟩) (fun p hp => (m5 p (by omega)).trans ((low4 p (by omega)).trans (low p hp))) (by rw [m5 112 (by omega)]; exact hr4)
          clear hQ hr hS hf hSa hS2 hS3 hS4 hr4
          simp (disch := omega) only [Option.toList_some, Option.toList_none, List.nil_append, List.cons_append, List.append_nil, true_and, and_true, not_true_eq_false, not_false_eq_true, true_implies, false_implies, implies_true, and_self, Int.reduceLT, Int.reduceLE, Int.reduceEq, Int.reduceNe, Int.reduceAdd, Int.reduceSub, Int.reduceMul, Int.reduceNeg, Int.reduceToNat, Int.toNat_natCast, ↓kk_ck, ↓kk_im, ↓kk_in, s_236_1152, s_236_1153]
          exact q
        have h29 := h93.1
        clear hQ hr hS hf hSa hS2 hS3 hS4 hr4
        simp (disch := omega) only [Option.toList_some, Option.toList_none, List.nil_append, List.cons_append, List.append_nil, true_and, and_true, not_true_eq_false, not_false_eq_true, true_implies, false_implies, implies_true, and_self, Int.reduceLT, Int.reduceLE, Int.reduceEq, Int.reduceNe, Int.reduceAdd, Int.reduceSub, Int.reduceMul, Int.reduceNeg, Int.reduceToNat, Int.toNat_natCast, ↓kk_ck, ↓kk_im, ↓kk_in, s_236_1139, s_236_1143, s_236_1147, t31, t32, z5, e5, h29, ne_eq]
        exact cl
    rw [s_236_1138]
    refine ⟨⟨t31, by decide, by rw [t32]; decide⟩, ?_⟩
    rw [vi_ms_rs, z5, ← hM4]
    exact ex
  show vi_ok GG (d + 71) 236 1125 [some (.inr (.inr 29)), some (.inr (.inr 1)), some (.inl 6), some (.inl 9), some (.inr (.inr 112)), some (.inl v), some (.inr (.inr 113)), l7, l8, l9, l10, l11, l12, l13, l14] [.inl 0] (Y3, M3, 125, sl + 113 + 30 + S + 4 * csT.length + 78) Q
  rw [s_236_1125]
  refine (@lk_234 (d + 70) _ Y3 M3 _ _ 2 (by decide) (by decide)).mpr ?_
  exact st _
/-- the box by ints -/
theorem lk_236 (hY : kY Y 112) (h9 : kY9 Y) (hk : kS Y M0) (h73 : M0 73 3 = 0) (h74 : M0 74 = tM 0) {ln : Nat} (ts : Y.1 1 = 11 ∧ Y.2.1 1 = ln) {sl : Nat} (hS : wS M0 5 5 5 0 [] [] none 0 (-1))
    (hQ : ∀ (Y' : vi_Y) (M' : vi_M) (x y z t : Int) (L : List (Nat → Int)) (lw : Option (List gCla)) (fl fo : Int) (S : Nat), S ≤ 400 → 0 ≤ t ∧ t ≤ 4 → kBl Y Y' 112 → (Y'.1 112 = 1 ∧ (Y'.2.1 112 : Int) = 222) → wS M' x y z t L [] lw 1 fo → L.length ≤ 9 → boxT lw fl fo → (∀ p, p < 29 → M' p = M0 p) → bxR (M' 112) (fK x y z t L) fl 216 (fun c => (hC x y z L (c : Int) : Int)) → Q (some (.inr (.inr 112))) (Y', M', 125, sl + 222 + 113 + 30 + S + 16 + 78)) : vi_call GG (d + 72) 236 [.inr (.inr 29), .inr (.inr 1), .inl 6, .inl 9] (Y, M0, 112, sl) Q := by
  obtain ⟨Y1, hY1⟩ : ∃ Y1, Y1 = vi_ynew Y 112 1 222 := ⟨_, rfl⟩
  have hb1 : kBl Y Y1 112 := by rw [hY1]; exact kBl_n (Nat.le_refl _)
  have tr : Y1.1 112 = 1 ∧ (Y1.2.1 112 : Int) = 222 := by rw [hY1, yn1, yn2]; exact ⟨rfl, rfl⟩
  have hYY := kY_bl hY hb1 (Nat.le_refl _)
  have h91 := kY9_bl h9 hb1 (by decide)
  have ts1 : Y1.1 1 = 11 ∧ Y1.2.1 1 = ln := by
    obtain ⟨e1, e2, -⟩ := hb1 1 (by decide)
    rw [e1, e2]; exact ts
  have hk1 : kS Y1 M0 := fun i hi => by
    obtain ⟨b1, b2, b3, b4, b5, b6⟩ := hk i hi
    have e1 := hb1 (2 + i) (by omega)
    have e2 := hb1 (15 + i) (by omega)
    exact ⟨e1.1.trans b1, by rw [e1.2.2]; exact b2, by rw [e1.2.2]; exact b3, e2.1.trans b4, by rw [e2.2.1]; exact b5, b6⟩
  have st25 : ∀ v : Int, vi_ok GG (d + 71) 236 25 [some (.inr (.inr 29)), some (.inr (.inr 1)), some (.inl 6), some (.inl 9), some (.inr (.inr 112)), some (.inl v), some (.inl 0), none, none, none, none, none, none, none, none] [] (Y1, vi_rs M0 112 (fun _ => 0), 113, sl + 222) Q := by
    intro v
    refine bx_25 (M0 := M0) hYY h91 tr (fun M x y z hS1 hf1 r0 r1 r2 hz => ?_) 0 (by decide) (vi_rs M0 112 (fun _ => 0)) 5 5 5 (pS_o hS (by decide)) (lF0_u lF0_r (by decide)) (fun e => absurd e (by decide)) (fun e => absurd e (by decide)) (fun e => absurd e (by decide)) (fun i _ _ => by rw [vi_rs_s])
    refine bx_67 hYY h91 tr hS1 hf1 r0 r1 r2 hz fun M2 t tb hS2 hf2 r0 r1 r2 r3 hz => ?_
    have hb : gB x y z := hS2.1.2.2.1.2.2.2.2.1
    have e0 : vi_rs M2 112 (M2 112) = M2 := vi_rs_id rfl
    have g0 := @bx_93 d Y1 (113, sl + 222) v Q tr M2 x y z t hb (fun g hg => by
      refine bx_162 (M0 := M0) hYY h91 tr ts1 (fun M3 L k hL hS3 hf3 hr3 l7 l8 l9 l10 l11 l12 l13 l14 => ?_) 0 (by decide) (vi_rs M2 112 g) [] rfl (pS_o hS2 (by decide)) (lF0_u hf2 (by decide)) (by rw [vi_rs_s]; exact hg) none none none none none none none none
      refine bx_434 hYY h91 tr hk1 h73 h74 hS3 hf3 hr3 (fun Y' M' lw fl fo S hS4 hb4 hS5 hbt hlow hr5 => ?_) l7 l8 l9 l10 l11 l12 l13 l14
      refine hQ Y' M' x y z t L lw fl fo S hS4 tb (kBl_t hb1 fun q hq => hb4 q (by omega)) ?_ hS5 hL hbt hlow hr5
      obtain ⟨e1, e2, -⟩ := hb4 112 (by decide)
      rw [e1, e2]; exact tr) 0 (by decide) (M2 112) ⟨⟨r0, r1, r2, r3, hz 5 (by decide) (by decide)⟩, fun c hc => absurd hc (by omega)⟩
    rw [e0] at g0
    exact g0
  have z222 : (222 : Int).toNat = 222 := rfl
  have z0 : (0 : Int).toNat = 0 := rfl
  obtain ⟨s1, s2⟩ := ts1
  have s2 : (Y1.2.1 1 : Int) = (ln : Int) := by rw [s2]
  rw [e_236, s_236_0]
  refine ⟨by decide, ?_⟩
  show vi_ok GG (d + 71) 236 5 _ _ (vi_ynew Y 112 1 222, vi_rs M0 112 (fun _ => 0), 113, sl + 222) Q
  rw [← hY1, s_236_5]
  refine ⟨s1, ?_⟩
  rw [s2]
  by_cases h : ln = 0
  · have := st25 7
    clear st25 hQ hS hk hk1 hY1
    subst h
    simp (disch := omega) only [Option.toList_some, Option.toList_none, List.nil_append, List.cons_append, List.append_nil, true_and, and_true, not_true_eq_false, not_false_eq_true, true_implies, false_implies, implies_true, and_self, Int.reduceLT, Int.reduceLE, Int.reduceEq, Int.reduceNe, Int.reduceAdd, Int.reduceSub, Int.reduceMul, Int.reduceNeg, Int.reduceToNat, Int.toNat_natCast, ↓kk_ck, ↓kk_im, ↓kk_in, s_236_9, s_236_18, s_236_20]
    exact this
  · have := st25 (vi_rs M0 112 (fun _ => 0) 1 0)
    clear st25 hQ hS hk hk1 hY1
    simp (disch := omega) only [Option.toList_some, Option.toList_none, List.nil_append, List.cons_append, List.append_nil, true_and, and_true, not_true_eq_false, not_false_eq_true, true_implies, false_implies, implies_true, and_self, Int.reduceLT, Int.reduceLE, Int.reduceEq, Int.reduceNe, Int.reduceAdd, Int.reduceSub, Int.reduceMul, Int.reduceNeg, Int.reduceToNat, Int.toNat_natCast, ↓kk_ck, ↓kk_im, ↓kk_in, s_236_9, s_236_12, s_236_15, s_236_20, s1, s2, z0]
    exact this
end
