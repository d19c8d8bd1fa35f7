/-! PRINTED BY wip/whole/gen/pi.py: the reference laid (238), as far as its loop. -/
section
variable {d m : Nat} {Y : vi_Y} {M : vi_M} {Q : Option vi_V → vi_W → Prop}
theorem yk {Y : vi_Y} {q n t l f : Nat} {v : Int} {g : Nat} (h : Y.1 q = g) (hn : q ≠ n) : (vi_yfin (vi_ynew Y n t l) q f v).1 q = g := by rw [yf1, yn1o hn]; exact h
theorem n_238_0 {n : Nat} (h : Y.1 112 = 32) (hn : 112 < n) (hq : vi_ok GG d 238 12 [some (.inr (.inr 112)), none] [] (vi_yfin (vi_ynew Y n 1 7) 112 2 (n : Int), vi_rs M n (fun _ => 0), n + 1, m + 7) Q) : vi_ok GG d 238 4 [some (.inr (.inr 112)), none] [] (Y, M, n, m) Q := by
  have e1 : (vi_ynew Y n 1 7).1 112 = 32 := by rw [yn1o (by omega)]; exact h
  have e2 : (7 : Int).toNat = 7 := rfl
  simp (disch := omega) only [Option.toList_some, Option.toList_none, List.nil_append, List.cons_append, List.append_nil, true_and, and_true, not_true_eq_false, not_false_eq_true, true_implies, false_implies, implies_true, and_self, Int.reduceLT, Int.reduceLE, Int.reduceEq, Int.reduceNe, Int.reduceAdd, Int.reduceSub, Int.reduceMul, Int.reduceNeg, Int.reduceToNat, Int.toNat_natCast, ↓kk_ck, ↓kk_im, ↓kk_in, s_238_4, s_238_9, h, e1, e2, ne_eq]
  exact hq
theorem n_238_1 {n : Nat} (h : Y.1 112 = 32) (hn : 112 < n) (hq : vi_ok GG d 238 21 [some (.inr (.inr 112)), none] [] (vi_yfin (vi_ynew Y n 1 5103) 112 3 (n : Int), vi_rs M n (fun _ => 0), n + 1, m + 5103) Q) : vi_ok GG d 238 12 [some (.inr (.inr 112)), none] [] (Y, M, n, m) Q := by
  have e1 : (vi_ynew Y n 1 5103).1 112 = 32 := by rw [yn1o (by omega)]; exact h
  have e2 : (5103 : Int).toNat = 5103 := rfl
  simp (disch := omega) only [Option.toList_some, Option.toList_none, List.nil_append, List.cons_append, List.append_nil, true_and, and_true, not_true_eq_false, not_false_eq_true, true_implies, false_implies, implies_true, and_self, Int.reduceLT, Int.reduceLE, Int.reduceEq, Int.reduceNe, Int.reduceAdd, Int.reduceSub, Int.reduceMul, Int.reduceNeg, Int.reduceToNat, Int.toNat_natCast, ↓kk_ck, ↓kk_im, ↓kk_in, s_238_12, s_238_18, h, e1, e2, ne_eq]
  exact hq
theorem n_238_2 {n : Nat} (h : Y.1 112 = 32) (hn : 112 < n) (hq : vi_ok GG d 238 30 [some (.inr (.inr 112)), none] [] (vi_yfin (vi_ynew Y n 1 10206) 112 4 (n : Int), vi_rs M n (fun _ => 0), n + 1, m + 10206) Q) : vi_ok GG d 238 21 [some (.inr (.inr 112)), none] [] (Y, M, n, m) Q := by
  have e1 : (vi_ynew Y n 1 10206).1 112 = 32 := by rw [yn1o (by omega)]; exact h
  have e2 : (10206 : Int).toNat = 10206 := rfl
  simp (disch := omega) only [Option.toList_some, Option.toList_none, List.nil_append, List.cons_append, List.append_nil, true_and, and_true, not_true_eq_false, not_false_eq_true, true_implies, false_implies, implies_true, and_self, Int.reduceLT, Int.reduceLE, Int.reduceEq, Int.reduceNe, Int.reduceAdd, Int.reduceSub, Int.reduceMul, Int.reduceNeg, Int.reduceToNat, Int.toNat_natCast, ↓kk_ck, ↓kk_im, ↓kk_in, s_238_21, s_238_27, h, e1, e2, ne_eq]
  exact hq
theorem n_238_3 {n : Nat} (h : Y.1 112 = 32) (hn : 112 < n) (hq : vi_ok GG d 238 37 [some (.inr (.inr 112)), none] [] (vi_yfin (vi_ynew Y n 4 2) 112 5 (n : Int), vi_rs M n (fun _ => 0), n + 1, m + 2) Q) : vi_ok GG d 238 30 [some (.inr (.inr 112)), none] [] (Y, M, n, m) Q := by
  have e1 : (vi_ynew Y n 4 2).1 112 = 32 := by rw [yn1o (by omega)]; exact h
  have e2 : (2 : Int).toNat = 2 := rfl
  simp (disch := omega) only [Option.toList_some, Option.toList_none, List.nil_append, List.cons_append, List.append_nil, true_and, and_true, not_true_eq_false, not_false_eq_true, true_implies, false_implies, implies_true, and_self, Int.reduceLT, Int.reduceLE, Int.reduceEq, Int.reduceNe, Int.reduceAdd, Int.reduceSub, Int.reduceMul, Int.reduceNeg, Int.reduceToNat, Int.toNat_natCast, ↓kk_ck, ↓kk_im, ↓kk_in, s_238_30, s_238_34, h, e1, e2, ne_eq]
  exact hq
theorem n_238_4 {n : Nat} (h : Y.1 112 = 32) (hn : 112 < n) (hq : vi_ok GG d 238 363 [some (.inr (.inr 112)), none] [] (vi_yfin (vi_ynew Y n 3 54) 112 7 (n : Int), vi_rs M n (vi_u (vi_u (vi_u (vi_u (vi_u (vi_u (vi_u (vi_u (vi_u (vi_u (vi_u (vi_u (vi_u (vi_u (vi_u (vi_u (vi_u (vi_u (vi_u (vi_u (vi_u (vi_u (vi_u (vi_u (vi_u (vi_u (vi_u (vi_u (vi_u (vi_u (vi_u (vi_u (vi_u (vi_u (vi_u (vi_u (vi_u (vi_u (vi_u (vi_u (vi_u (vi_u (vi_u (vi_u (vi_u (vi_u (vi_u (vi_u (vi_u (vi_u (vi_u (vi_u (vi_u (vi_u (fun _ => 0) 0 119) 1 101) 2 105) 3 103) 4 104) 5 115) 6 32) 7 116) 8 97) 9 107) 10 101) 11 115) 12 32) 13 115) 14 104) 15 117) 16 116) 17 115) 18 32) 19 105) 20 102) 21 32) 22 111) 23 114) 24 32) 25 97) 26 110) 27 100) 28 32) 29 110) 30 111) 31 116) 32 32) 33 120) 34 32) 35 121) 36 32) 37 122) 38 32) 39 104) 40 111) 41 108) 42 101) 43 115) 44 32) 45 114) 46 105) 47 110) 48 100) 49 32) 50 100) 51 97) 52 121) 53 32), n + 1, m + 54) Q) : vi_ok GG d 238 37 [some (.inr (.inr 112)), none] [] (Y, M, n, m) Q := by
  have e1 : (vi_ynew Y n 3 54).1 112 = 32 := by rw [yn1o (by omega)]; exact h
  have e2 : (54 : Int).toNat = 54 := rfl
  have e3 : (vi_ynew Y n 3 54).1 n = 3 := yn1
  have e4 : ((vi_ynew Y n 3 54).2.1 n : Int) = 54 := by rw [yn2]; rfl
  simp (disch := omega) only [Option.toList_some, Option.toList_none, List.nil_append, List.cons_append, List.append_nil, true_and, and_true, not_true_eq_false, not_false_eq_true, true_implies, false_implies, implies_true, and_self, Int.reduceLT, Int.reduceLE, Int.reduceEq, Int.reduceNe, Int.reduceAdd, Int.reduceSub, Int.reduceMul, Int.reduceNeg, Int.reduceToNat, Int.toNat_natCast, ↓kk_ck, ↓kk_im, ↓kk_in, s_238_37, s_238_42, s_238_47, s_238_52, s_238_57, s_238_62, s_238_67, s_238_72, s_238_78, s_238_84, s_238_90, s_238_96, s_238_102, s_238_108, s_238_114, s_238_120, s_238_126, s_238_132, s_238_138, s_238_144, s_238_150, s_238_156, s_238_162, s_238_168, s_238_174, s_238_180, s_238_186, s_238_192, s_238_198, s_238_204, s_238_210, s_238_216, s_238_222, s_238_228, s_238_234, s_238_240, s_238_246, s_238_252, s_238_258, s_238_264, s_238_270, s_238_276, s_238_282, s_238_288, s_238_294, s_238_300, s_238_306, s_238_312, s_238_318, s_238_324, s_238_330, s_238_336, s_238_342, s_238_348, s_238_354, s_238_360, h, e1, e2, e3, e4, vi_ms_rs, vi_rs_s, vi_rs_rs, show (0 : Int).toNat = 0 from rfl, show (1 : Int).toNat = 1 from rfl, show (2 : Int).toNat = 2 from rfl, show (3 : Int).toNat = 3 from rfl, show (4 : Int).toNat = 4 from rfl, show (5 : Int).toNat = 5 from rfl, show (6 : Int).toNat = 6 from rfl, show (7 : Int).toNat = 7 from rfl, show (8 : Int).toNat = 8 from rfl, show (9 : Int).toNat = 9 from rfl, show (10 : Int).toNat = 10 from rfl, show (11 : Int).toNat = 11 from rfl, show (12 : Int).toNat = 12 from rfl, show (13 : Int).toNat = 13 from rfl, show (14 : Int).toNat = 14 from rfl, show (15 : Int).toNat = 15 from rfl, show (16 : Int).toNat = 16 from rfl, show (17 : Int).toNat = 17 from rfl, show (18 : Int).toNat = 18 from rfl, show (19 : Int).toNat = 19 from rfl, show (20 : Int).toNat = 20 from rfl, show (21 : Int).toNat = 21 from rfl, show (22 : Int).toNat = 22 from rfl, show (23 : Int).toNat = 23 from rfl, show (24 : Int).toNat = 24 from rfl, show (25 : Int).toNat = 25 from rfl, show (26 : Int).toNat = 26 from rfl, show (27 : Int).toNat = 27 from rfl, show (28 : Int).toNat = 28 from rfl, show (29 : Int).toNat = 29 from rfl, show (30 : Int).toNat = 30 from rfl, show (31 : Int).toNat = 31 from rfl, show (32 : Int).toNat = 32 from rfl, show (33 : Int).toNat = 33 from rfl, show (34 : Int).toNat = 34 from rfl, show (35 : Int).toNat = 35 from rfl, show (36 : Int).toNat = 36 from rfl, show (37 : Int).toNat = 37 from rfl, show (38 : Int).toNat = 38 from rfl, show (39 : Int).toNat = 39 from rfl, show (40 : Int).toNat = 40 from rfl, show (41 : Int).toNat = 41 from rfl, show (42 : Int).toNat = 42 from rfl, show (43 : Int).toNat = 43 from rfl, show (44 : Int).toNat = 44 from rfl, show (45 : Int).toNat = 45 from rfl, show (46 : Int).toNat = 46 from rfl, show (47 : Int).toNat = 47 from rfl, show (48 : Int).toNat = 48 from rfl, show (49 : Int).toNat = 49 from rfl, show (50 : Int).toNat = 50 from rfl, show (51 : Int).toNat = 51 from rfl, show (52 : Int).toNat = 52 from rfl, show (53 : Int).toNat = 53 from rfl, show vi_nar 3 (100 : Int) = 100 from rfl, show vi_nar 3 (101 : Int) = 101 from rfl, show vi_nar 3 (102 : Int) = 102 from rfl, show vi_nar 3 (103 : Int) = 103 from rfl, show vi_nar 3 (104 : Int) = 104 from rfl, show vi_nar 3 (105 : Int) = 105 from rfl, show vi_nar 3 (107 : Int) = 107 from rfl, show vi_nar 3 (108 : Int) = 108 from rfl, show vi_nar 3 (110 : Int) = 110 from rfl, show vi_nar 3 (111 : Int) = 111 from rfl, show vi_nar 3 (114 : Int) = 114 from rfl, show vi_nar 3 (115 : Int) = 115 from rfl, show vi_nar 3 (116 : Int) = 116 from rfl, show vi_nar 3 (117 : Int) = 117 from rfl, show vi_nar 3 (119 : Int) = 119 from rfl, show vi_nar 3 (120 : Int) = 120 from rfl, show vi_nar 3 (121 : Int) = 121 from rfl, show vi_nar 3 (122 : Int) = 122 from rfl, show vi_nar 3 (32 : Int) = 32 from rfl, show vi_nar 3 (97 : Int) = 97 from rfl, ne_eq]
  exact hq
theorem n_238_5 {n : Nat} (h : Y.1 112 = 32) (hn : 112 < n) (hq : vi_ok GG d 238 372 [some (.inr (.inr 112)), none] [] (vi_yfin (vi_ynew Y n 3 400) 112 8 (n : Int), vi_rs M n (fun _ => 0), n + 1, m + 400) Q) : vi_ok GG d 238 363 [some (.inr (.inr 112)), none] [] (Y, M, n, m) Q := by
  have e1 : (vi_ynew Y n 3 400).1 112 = 32 := by rw [yn1o (by omega)]; exact h
  have e2 : (400 : Int).toNat = 400 := rfl
  simp (disch := omega) only [Option.toList_some, Option.toList_none, List.nil_append, List.cons_append, List.append_nil, true_and, and_true, not_true_eq_false, not_false_eq_true, true_implies, false_implies, implies_true, and_self, Int.reduceLT, Int.reduceLE, Int.reduceEq, Int.reduceNe, Int.reduceAdd, Int.reduceSub, Int.reduceMul, Int.reduceNeg, Int.reduceToNat, Int.toNat_natCast, ↓kk_ck, ↓kk_im, ↓kk_in, s_238_363, s_238_369, h, e1, e2, ne_eq]
  exact hq
theorem n_238_6 {n : Nat} (h : Y.1 112 = 32) (hn : 112 < n) (hq : vi_ok GG d 238 379 [some (.inr (.inr 112)), none] [] (vi_yfin (vi_ynew Y n 1 5) 112 9 (n : Int), vi_rs M n (fun _ => 0), n + 1, m + 5) Q) : vi_ok GG d 238 372 [some (.inr (.inr 112)), none] [] (Y, M, n, m) Q := by
  have e1 : (vi_ynew Y n 1 5).1 112 = 32 := by rw [yn1o (by omega)]; exact h
  have e2 : (5 : Int).toNat = 5 := rfl
  simp (disch := omega) only [Option.toList_some, Option.toList_none, List.nil_append, List.cons_append, List.append_nil, true_and, and_true, not_true_eq_false, not_false_eq_true, true_implies, false_implies, implies_true, and_self, Int.reduceLT, Int.reduceLE, Int.reduceEq, Int.reduceNe, Int.reduceAdd, Int.reduceSub, Int.reduceMul, Int.reduceNeg, Int.reduceToNat, Int.toNat_natCast, ↓kk_ck, ↓kk_im, ↓kk_in, s_238_372, s_238_376, h, e1, e2, ne_eq]
  exact hq
theorem n_238_7 {n : Nat} (h : Y.1 112 = 32) (hq : vi_ok GG d 238 384 [some (.inr (.inr 112)), none] [] (Y, vi_rs M 112 (vi_u (M 112) 11 (-1)), n, m) Q) : vi_ok GG d 238 379 [some (.inr (.inr 112)), none] [] (Y, M, n, m) Q := by
  simp (disch := omega) only [Option.toList_some, Option.toList_none, List.nil_append, List.cons_append, List.append_nil, true_and, and_true, not_true_eq_false, not_false_eq_true, true_implies, false_implies, implies_true, and_self, Int.reduceLT, Int.reduceLE, Int.reduceEq, Int.reduceNe, Int.reduceAdd, Int.reduceSub, Int.reduceMul, Int.reduceNeg, Int.reduceToNat, Int.toNat_natCast, ↓kk_ck, ↓kk_im, ↓kk_in, s_238_379, h, vi_ms_rs, ne_eq]
  exact hq
theorem n_238_8 {n : Nat} (h : Y.1 112 = 32) (hn : 112 < n) (hq : vi_ok GG d 238 393 [some (.inr (.inr 112)), none] [] (vi_yfin (vi_ynew Y n 1 401) 112 12 (n : Int), vi_rs M n (fun _ => 0), n + 1, m + 401) Q) : vi_ok GG d 238 384 [some (.inr (.inr 112)), none] [] (Y, M, n, m) Q := by
  have e1 : (vi_ynew Y n 1 401).1 112 = 32 := by rw [yn1o (by omega)]; exact h
  have e2 : (401 : Int).toNat = 401 := rfl
  simp (disch := omega) only [Option.toList_some, Option.toList_none, List.nil_append, List.cons_append, List.append_nil, true_and, and_true, not_true_eq_false, not_false_eq_true, true_implies, false_implies, implies_true, and_self, Int.reduceLT, Int.reduceLE, Int.reduceEq, Int.reduceNe, Int.reduceAdd, Int.reduceSub, Int.reduceMul, Int.reduceNeg, Int.reduceToNat, Int.toNat_natCast, ↓kk_ck, ↓kk_im, ↓kk_in, s_238_384, s_238_390, h, e1, e2, ne_eq]
  exact hq
theorem n_238_9 {n : Nat} (h : Y.1 112 = 32) (hn : 112 < n) (hq : vi_ok GG d 238 402 [some (.inr (.inr 112)), none] [] (vi_yfin (vi_ynew Y n 1 401) 112 13 (n : Int), vi_rs M n (fun _ => 0), n + 1, m + 401) Q) : vi_ok GG d 238 393 [some (.inr (.inr 112)), none] [] (Y, M, n, m) Q := by
  have e1 : (vi_ynew Y n 1 401).1 112 = 32 := by rw [yn1o (by omega)]; exact h
  have e2 : (401 : Int).toNat = 401 := rfl
  simp (disch := omega) only [Option.toList_some, Option.toList_none, List.nil_append, List.cons_append, List.append_nil, true_and, and_true, not_true_eq_false, not_false_eq_true, true_implies, false_implies, implies_true, and_self, Int.reduceLT, Int.reduceLE, Int.reduceEq, Int.reduceNe, Int.reduceAdd, Int.reduceSub, Int.reduceMul, Int.reduceNeg, Int.reduceToNat, Int.toNat_natCast, ↓kk_ck, ↓kk_im, ↓kk_in, s_238_393, s_238_399, h, e1, e2, ne_eq]
  exact hq
theorem n_238_10 {n : Nat} (h : Y.1 112 = 32) (hn : 112 < n) (hq : vi_ok GG d 238 411 [some (.inr (.inr 112)), none] [] (vi_yfin (vi_ynew Y n 1 401) 112 14 (n : Int), vi_rs M n (fun _ => 0), n + 1, m + 401) Q) : vi_ok GG d 238 402 [some (.inr (.inr 112)), none] [] (Y, M, n, m) Q := by
  have e1 : (vi_ynew Y n 1 401).1 112 = 32 := by rw [yn1o (by omega)]; exact h
  have e2 : (401 : Int).toNat = 401 := rfl
  simp (disch := omega) only [Option.toList_some, Option.toList_none, List.nil_append, List.cons_append, List.append_nil, true_and, and_true, not_true_eq_false, not_false_eq_true, true_implies, false_implies, implies_true, and_self, Int.reduceLT, Int.reduceLE, Int.reduceEq, Int.reduceNe, Int.reduceAdd, Int.reduceSub, Int.reduceMul, Int.reduceNeg, Int.reduceToNat, Int.toNat_natCast, ↓kk_ck, ↓kk_im, ↓kk_in, s_238_402, s_238_408, h, e1, e2, ne_eq]
  exact hq
theorem n_238_11 {n : Nat} (h : Y.1 112 = 32) (hn : 112 < n) (hq : vi_ok GG d 238 419 [some (.inr (.inr 112)), none] [] (vi_yfin (vi_ynew Y n 1 6) 112 22 (n : Int), vi_rs M n (fun _ => 0), n + 1, m + 6) Q) : vi_ok GG d 238 411 [some (.inr (.inr 112)), none] [] (Y, M, n, m) Q := by
  have e1 : (vi_ynew Y n 1 6).1 112 = 32 := by rw [yn1o (by omega)]; exact h
  have e2 : (6 : Int).toNat = 6 := rfl
  simp (disch := omega) only [Option.toList_some, Option.toList_none, List.nil_append, List.cons_append, List.append_nil, true_and, and_true, not_true_eq_false, not_false_eq_true, true_implies, false_implies, implies_true, and_self, Int.reduceLT, Int.reduceLE, Int.reduceEq, Int.reduceNe, Int.reduceAdd, Int.reduceSub, Int.reduceMul, Int.reduceNeg, Int.reduceToNat, Int.toNat_natCast, ↓kk_ck, ↓kk_im, ↓kk_in, s_238_411, s_238_416, h, e1, e2, ne_eq]
  exact hq
theorem n_238_12 {n : Nat} (h : Y.1 112 = 32) (hn : 112 < n) (hq : vi_ok GG d 238 428 [some (.inr (.inr 112)), none] [] (vi_yfin (vi_ynew Y n 1 216) 112 26 (n : Int), vi_rs M n (fun _ => 0), n + 1, m + 216) Q) : vi_ok GG d 238 419 [some (.inr (.inr 112)), none] [] (Y, M, n, m) Q := by
  have e1 : (vi_ynew Y n 1 216).1 112 = 32 := by rw [yn1o (by omega)]; exact h
  have e2 : (216 : Int).toNat = 216 := rfl
  simp (disch := omega) only [Option.toList_some, Option.toList_none, List.nil_append, List.cons_append, List.append_nil, true_and, and_true, not_true_eq_false, not_false_eq_true, true_implies, false_implies, implies_true, and_self, Int.reduceLT, Int.reduceLE, Int.reduceEq, Int.reduceNe, Int.reduceAdd, Int.reduceSub, Int.reduceMul, Int.reduceNeg, Int.reduceToNat, Int.toNat_natCast, ↓kk_ck, ↓kk_im, ↓kk_in, s_238_419, s_238_425, h, e1, e2, ne_eq]
  exact hq
theorem n_238_13 {n : Nat} (h : Y.1 112 = 32) (hn : 112 < n) (hq : vi_ok GG d 238 437 [some (.inr (.inr 112)), none] [] (vi_yfin (vi_ynew Y n 1 216) 112 27 (n : Int), vi_rs M n (fun _ => 0), n + 1, m + 216) Q) : vi_ok GG d 238 428 [some (.inr (.inr 112)), none] [] (Y, M, n, m) Q := by
  have e1 : (vi_ynew Y n 1 216).1 112 = 32 := by rw [yn1o (by omega)]; exact h
  have e2 : (216 : Int).toNat = 216 := rfl
  simp (disch := omega) only [Option.toList_some, Option.toList_none, List.nil_append, List.cons_append, List.append_nil, true_and, and_true, not_true_eq_false, not_false_eq_true, true_implies, false_implies, implies_true, and_self, Int.reduceLT, Int.reduceLE, Int.reduceEq, Int.reduceNe, Int.reduceAdd, Int.reduceSub, Int.reduceMul, Int.reduceNeg, Int.reduceToNat, Int.toNat_natCast, ↓kk_ck, ↓kk_im, ↓kk_in, s_238_428, s_238_434, h, e1, e2, ne_eq]
  exact hq
theorem n_238_14 {n : Nat} (h : Y.1 112 = 32) (hn : 112 < n) (hq : vi_ok GG d 238 446 [some (.inr (.inr 112)), none] [] (vi_yfin (vi_ynew Y n 4 216) 112 28 (n : Int), vi_rs M n (fun _ => 0), n + 1, m + 216) Q) : vi_ok GG d 238 437 [some (.inr (.inr 112)), none] [] (Y, M, n, m) Q := by
  have e1 : (vi_ynew Y n 4 216).1 112 = 32 := by rw [yn1o (by omega)]; exact h
  have e2 : (216 : Int).toNat = 216 := rfl
  simp (disch := omega) only [Option.toList_some, Option.toList_none, List.nil_append, List.cons_append, List.append_nil, true_and, and_true, not_true_eq_false, not_false_eq_true, true_implies, false_implies, implies_true, and_self, Int.reduceLT, Int.reduceLE, Int.reduceEq, Int.reduceNe, Int.reduceAdd, Int.reduceSub, Int.reduceMul, Int.reduceNeg, Int.reduceToNat, Int.toNat_natCast, ↓kk_ck, ↓kk_im, ↓kk_in, s_238_437, s_238_443, h, e1, e2, ne_eq]
  exact hq
theorem n_238_15 {n : Nat} (h : Y.1 112 = 32) (hn : 112 < n) (hq : vi_ok GG d 238 455 [some (.inr (.inr 112)), none] [] (vi_yfin (vi_ynew Y n 4 216) 112 29 (n : Int), vi_rs M n (fun _ => 0), n + 1, m + 216) Q) : vi_ok GG d 238 446 [some (.inr (.inr 112)), none] [] (Y, M, n, m) Q := by
  have e1 : (vi_ynew Y n 4 216).1 112 = 32 := by rw [yn1o (by omega)]; exact h
  have e2 : (216 : Int).toNat = 216 := rfl
  simp (disch := omega) only [Option.toList_some, Option.toList_none, List.nil_append, List.cons_append, List.append_nil, true_and, and_true, not_true_eq_false, not_false_eq_true, true_implies, false_implies, implies_true, and_self, Int.reduceLT, Int.reduceLE, Int.reduceEq, Int.reduceNe, Int.reduceAdd, Int.reduceSub, Int.reduceMul, Int.reduceNeg, Int.reduceToNat, Int.toNat_natCast, ↓kk_ck, ↓kk_im, ↓kk_in, s_238_446, s_238_452, h, e1, e2, ne_eq]
  exact hq
theorem n_238_16 {n : Nat} (h : Y.1 112 = 32) (hq : vi_ok GG d 238 460 [some (.inr (.inr 112)), none] [] (Y, vi_rs M 112 (vi_u (M 112) 30 (-1)), n, m) Q) : vi_ok GG d 238 455 [some (.inr (.inr 112)), none] [] (Y, M, n, m) Q := by
  simp (disch := omega) only [Option.toList_some, Option.toList_none, List.nil_append, List.cons_append, List.append_nil, true_and, and_true, not_true_eq_false, not_false_eq_true, true_implies, false_implies, implies_true, and_self, Int.reduceLT, Int.reduceLE, Int.reduceEq, Int.reduceNe, Int.reduceAdd, Int.reduceSub, Int.reduceMul, Int.reduceNeg, Int.reduceToNat, Int.toNat_natCast, ↓kk_ck, ↓kk_im, ↓kk_in, s_238_455, h, vi_ms_rs, ne_eq]
  exact hq
theorem n_238_17 {n : Nat} (h : Y.1 112 = 32) (hn : 112 < n) (hq : vi_ok GG d 238 469 [some (.inr (.inr 112)), none] [] (vi_yfin (vi_ynew Y n 1 216) 112 31 (n : Int), vi_rs M n (fun _ => 0), n + 1, m + 216) Q) : vi_ok GG d 238 460 [some (.inr (.inr 112)), none] [] (Y, M, n, m) Q := by
  have e1 : (vi_ynew Y n 1 216).1 112 = 32 := by rw [yn1o (by omega)]; exact h
  have e2 : (216 : Int).toNat = 216 := rfl
  simp (disch := omega) only [Option.toList_some, Option.toList_none, List.nil_append, List.cons_append, List.append_nil, true_and, and_true, not_true_eq_false, not_false_eq_true, true_implies, false_implies, implies_true, and_self, Int.reduceLT, Int.reduceLE, Int.reduceEq, Int.reduceNe, Int.reduceAdd, Int.reduceSub, Int.reduceMul, Int.reduceNeg, Int.reduceToNat, Int.toNat_natCast, ↓kk_ck, ↓kk_im, ↓kk_in, s_238_460, s_238_466, h, e1, e2, ne_eq]
  exact hq
theorem n_238_18 {n : Nat} (h : Y.1 112 = 32) (hn : 112 < n) (hq : vi_ok GG d 238 478 [some (.inr (.inr 112)), none] [] (vi_yfin (vi_ynew Y n 1 216) 112 32 (n : Int), vi_rs M n (fun _ => 0), n + 1, m + 216) Q) : vi_ok GG d 238 469 [some (.inr (.inr 112)), none] [] (Y, M, n, m) Q := by
  have e1 : (vi_ynew Y n 1 216).1 112 = 32 := by rw [yn1o (by omega)]; exact h
  have e2 : (216 : Int).toNat = 216 := rfl
  simp (disch := omega) only [Option.toList_some, Option.toList_none, List.nil_append, List.cons_append, List.append_nil, true_and, and_true, not_true_eq_false, not_false_eq_true, true_implies, false_implies, implies_true, and_self, Int.reduceLT, Int.reduceLE, Int.reduceEq, Int.reduceNe, Int.reduceAdd, Int.reduceSub, Int.reduceMul, Int.reduceNeg, Int.reduceToNat, Int.toNat_natCast, ↓kk_ck, ↓kk_im, ↓kk_in, s_238_469, s_238_475, h, e1, e2, ne_eq]
  exact hq
theorem n_238_19 {n : Nat} (h : Y.1 112 = 32) (hn : 112 < n) (hq : vi_ok GG d 238 486 [some (.inr (.inr 112)), none] [] (vi_yfin (vi_ynew Y n 1 108) 112 33 (n : Int), vi_rs M n (fun _ => 0), n + 1, m + 108) Q) : vi_ok GG d 238 478 [some (.inr (.inr 112)), none] [] (Y, M, n, m) Q := by
  have e1 : (vi_ynew Y n 1 108).1 112 = 32 := by rw [yn1o (by omega)]; exact h
  have e2 : (108 : Int).toNat = 108 := rfl
  simp (disch := omega) only [Option.toList_some, Option.toList_none, List.nil_append, List.cons_append, List.append_nil, true_and, and_true, not_true_eq_false, not_false_eq_true, true_implies, false_implies, implies_true, and_self, Int.reduceLT, Int.reduceLE, Int.reduceEq, Int.reduceNe, Int.reduceAdd, Int.reduceSub, Int.reduceMul, Int.reduceNeg, Int.reduceToNat, Int.toNat_natCast, ↓kk_ck, ↓kk_im, ↓kk_in, s_238_478, s_238_483, h, e1, e2, ne_eq]
  exact hq
theorem n_238_20 {n : Nat} (h : Y.1 112 = 32) (hn : 112 < n) (hq : vi_ok GG d 238 494 [some (.inr (.inr 112)), none] [] (vi_yfin (vi_ynew Y n 1 108) 112 34 (n : Int), vi_rs M n (fun _ => 0), n + 1, m + 108) Q) : vi_ok GG d 238 486 [some (.inr (.inr 112)), none] [] (Y, M, n, m) Q := by
  have e1 : (vi_ynew Y n 1 108).1 112 = 32 := by rw [yn1o (by omega)]; exact h
  have e2 : (108 : Int).toNat = 108 := rfl
  simp (disch := omega) only [Option.toList_some, Option.toList_none, List.nil_append, List.cons_append, List.append_nil, true_and, and_true, not_true_eq_false, not_false_eq_true, true_implies, false_implies, implies_true, and_self, Int.reduceLT, Int.reduceLE, Int.reduceEq, Int.reduceNe, Int.reduceAdd, Int.reduceSub, Int.reduceMul, Int.reduceNeg, Int.reduceToNat, Int.toNat_natCast, ↓kk_ck, ↓kk_im, ↓kk_in, s_238_486, s_238_491, h, e1, e2, ne_eq]
  exact hq
theorem n_238_21 {n : Nat} (h : Y.1 112 = 32) (hn : 112 < n) (hq : vi_ok GG d 238 502 [some (.inr (.inr 112)), none] [] (vi_yfin (vi_ynew Y n 1 108) 112 35 (n : Int), vi_rs M n (fun _ => 0), n + 1, m + 108) Q) : vi_ok GG d 238 494 [some (.inr (.inr 112)), none] [] (Y, M, n, m) Q := by
  have e1 : (vi_ynew Y n 1 108).1 112 = 32 := by rw [yn1o (by omega)]; exact h
  have e2 : (108 : Int).toNat = 108 := rfl
  simp (disch := omega) only [Option.toList_some, Option.toList_none, List.nil_append, List.cons_append, List.append_nil, true_and, and_true, not_true_eq_false, not_false_eq_true, true_implies, false_implies, implies_true, and_self, Int.reduceLT, Int.reduceLE, Int.reduceEq, Int.reduceNe, Int.reduceAdd, Int.reduceSub, Int.reduceMul, Int.reduceNeg, Int.reduceToNat, Int.toNat_natCast, ↓kk_ck, ↓kk_im, ↓kk_in, s_238_494, s_238_499, h, e1, e2, ne_eq]
  exact hq
theorem n_238_22 {n : Nat} (h : Y.1 112 = 32) (hn : 112 < n) (hq : vi_ok GG d 238 511 [some (.inr (.inr 112)), none] [] (vi_yfin (vi_ynew Y n 1 216) 112 36 (n : Int), vi_rs M n (fun _ => 0), n + 1, m + 216) Q) : vi_ok GG d 238 502 [some (.inr (.inr 112)), none] [] (Y, M, n, m) Q := by
  have e1 : (vi_ynew Y n 1 216).1 112 = 32 := by rw [yn1o (by omega)]; exact h
  have e2 : (216 : Int).toNat = 216 := rfl
  simp (disch := omega) only [Option.toList_some, Option.toList_none, List.nil_append, List.cons_append, List.append_nil, true_and, and_true, not_true_eq_false, not_false_eq_true, true_implies, false_implies, implies_true, and_self, Int.reduceLT, Int.reduceLE, Int.reduceEq, Int.reduceNe, Int.reduceAdd, Int.reduceSub, Int.reduceMul, Int.reduceNeg, Int.reduceToNat, Int.toNat_natCast, ↓kk_ck, ↓kk_im, ↓kk_in, s_238_502, s_238_508, h, e1, e2, ne_eq]
  exact hq
theorem n_238_23 {n : Nat} (h : Y.1 112 = 32) (hn : 112 < n) (hq : vi_ok GG d 238 520 [some (.inr (.inr 112)), none] [] (vi_yfin (vi_ynew Y n 4 216) 112 37 (n : Int), vi_rs M n (fun _ => 0), n + 1, m + 216) Q) : vi_ok GG d 238 511 [some (.inr (.inr 112)), none] [] (Y, M, n, m) Q := by
  have e1 : (vi_ynew Y n 4 216).1 112 = 32 := by rw [yn1o (by omega)]; exact h
  have e2 : (216 : Int).toNat = 216 := rfl
  simp (disch := omega) only [Option.toList_some, Option.toList_none, List.nil_append, List.cons_append, List.append_nil, true_and, and_true, not_true_eq_false, not_false_eq_true, true_implies, false_implies, implies_true, and_self, Int.reduceLT, Int.reduceLE, Int.reduceEq, Int.reduceNe, Int.reduceAdd, Int.reduceSub, Int.reduceMul, Int.reduceNeg, Int.reduceToNat, Int.toNat_natCast, ↓kk_ck, ↓kk_im, ↓kk_in, s_238_511, s_238_517, h, e1, e2, ne_eq]
  exact hq
theorem n_238_24 {n : Nat} (h : Y.1 112 = 32) (hn : 112 < n) (hq : vi_ok GG d 238 529 [some (.inr (.inr 112)), none] [] (vi_yfin (vi_ynew Y n 1 216) 112 38 (n : Int), vi_rs M n (fun _ => 0), n + 1, m + 216) Q) : vi_ok GG d 238 520 [some (.inr (.inr 112)), none] [] (Y, M, n, m) Q := by
  have e1 : (vi_ynew Y n 1 216).1 112 = 32 := by rw [yn1o (by omega)]; exact h
  have e2 : (216 : Int).toNat = 216 := rfl
  simp (disch := omega) only [Option.toList_some, Option.toList_none, List.nil_append, List.cons_append, List.append_nil, true_and, and_true, not_true_eq_false, not_false_eq_true, true_implies, false_implies, implies_true, and_self, Int.reduceLT, Int.reduceLE, Int.reduceEq, Int.reduceNe, Int.reduceAdd, Int.reduceSub, Int.reduceMul, Int.reduceNeg, Int.reduceToNat, Int.toNat_natCast, ↓kk_ck, ↓kk_im, ↓kk_in, s_238_520, s_238_526, h, e1, e2, ne_eq]
  exact hq
theorem n_238_25 {n : Nat} (h : Y.1 112 = 32) (hq : vi_ok GG d 238 534 [some (.inr (.inr 112)), none] [] (Y, vi_rs M 112 (vi_u (M 112) 42 (-1)), n, m) Q) : vi_ok GG d 238 529 [some (.inr (.inr 112)), none] [] (Y, M, n, m) Q := by
  simp (disch := omega) only [Option.toList_some, Option.toList_none, List.nil_append, List.cons_append, List.append_nil, true_and, and_true, not_true_eq_false, not_false_eq_true, true_implies, false_implies, implies_true, and_self, Int.reduceLT, Int.reduceLE, Int.reduceEq, Int.reduceNe, Int.reduceAdd, Int.reduceSub, Int.reduceMul, Int.reduceNeg, Int.reduceToNat, Int.toNat_natCast, ↓kk_ck, ↓kk_im, ↓kk_in, s_238_529, h, vi_ms_rs, ne_eq]
  exact hq
theorem n_238_26 {n : Nat} (h : Y.1 112 = 32) (hn : 112 < n) (hq : vi_ok GG d 238 543 [some (.inr (.inr 112)), none] [] (vi_yfin (vi_ynew Y n 4 216) 112 47 (n : Int), vi_rs M n (fun _ => 0), n + 1, m + 216) Q) : vi_ok GG d 238 534 [some (.inr (.inr 112)), none] [] (Y, M, n, m) Q := by
  have e1 : (vi_ynew Y n 4 216).1 112 = 32 := by rw [yn1o (by omega)]; exact h
  have e2 : (216 : Int).toNat = 216 := rfl
  simp (disch := omega) only [Option.toList_some, Option.toList_none, List.nil_append, List.cons_append, List.append_nil, true_and, and_true, not_true_eq_false, not_false_eq_true, true_implies, false_implies, implies_true, and_self, Int.reduceLT, Int.reduceLE, Int.reduceEq, Int.reduceNe, Int.reduceAdd, Int.reduceSub, Int.reduceMul, Int.reduceNeg, Int.reduceToNat, Int.toNat_natCast, ↓kk_ck, ↓kk_im, ↓kk_in, s_238_534, s_238_540, h, e1, e2, ne_eq]
  exact hq
theorem n_238_27 {n : Nat} (h : Y.1 112 = 32) (hn : 112 < n) (hq : vi_ok GG d 238 551 [some (.inr (.inr 112)), none] [] (vi_yfin (vi_ynew Y n 1 108) 112 48 (n : Int), vi_rs M n (fun _ => 0), n + 1, m + 108) Q) : vi_ok GG d 238 543 [some (.inr (.inr 112)), none] [] (Y, M, n, m) Q := by
  have e1 : (vi_ynew Y n 1 108).1 112 = 32 := by rw [yn1o (by omega)]; exact h
  have e2 : (108 : Int).toNat = 108 := rfl
  simp (disch := omega) only [Option.toList_some, Option.toList_none, List.nil_append, List.cons_append, List.append_nil, true_and, and_true, not_true_eq_false, not_false_eq_true, true_implies, false_implies, implies_true, and_self, Int.reduceLT, Int.reduceLE, Int.reduceEq, Int.reduceNe, Int.reduceAdd, Int.reduceSub, Int.reduceMul, Int.reduceNeg, Int.reduceToNat, Int.toNat_natCast, ↓kk_ck, ↓kk_im, ↓kk_in, s_238_543, s_238_548, h, e1, e2, ne_eq]
  exact hq
theorem n_238_28 {n : Nat} (h : Y.1 112 = 32) (hn : 112 < n) (hq : vi_ok GG d 238 560 [some (.inr (.inr 112)), none] [] (vi_yfin (vi_ynew Y n 1 144) 112 49 (n : Int), vi_rs M n (fun _ => 0), n + 1, m + 144) Q) : vi_ok GG d 238 551 [some (.inr (.inr 112)), none] [] (Y, M, n, m) Q := by
  have e1 : (vi_ynew Y n 1 144).1 112 = 32 := by rw [yn1o (by omega)]; exact h
  have e2 : (144 : Int).toNat = 144 := rfl
  simp (disch := omega) only [Option.toList_some, Option.toList_none, List.nil_append, List.cons_append, List.append_nil, true_and, and_true, not_true_eq_false, not_false_eq_true, true_implies, false_implies, implies_true, and_self, Int.reduceLT, Int.reduceLE, Int.reduceEq, Int.reduceNe, Int.reduceAdd, Int.reduceSub, Int.reduceMul, Int.reduceNeg, Int.reduceToNat, Int.toNat_natCast, ↓kk_ck, ↓kk_im, ↓kk_in, s_238_551, s_238_557, h, e1, e2, ne_eq]
  exact hq
theorem n_238_29 {n : Nat} (h : Y.1 112 = 32) (hn : 112 < n) (hq : vi_ok GG d 238 569 [some (.inr (.inr 112)), none] [] (vi_yfin (vi_ynew Y n 4 4096) 112 50 (n : Int), vi_rs M n (fun _ => 0), n + 1, m + 4096) Q) : vi_ok GG d 238 560 [some (.inr (.inr 112)), none] [] (Y, M, n, m) Q := by
  have e1 : (vi_ynew Y n 4 4096).1 112 = 32 := by rw [yn1o (by omega)]; exact h
  have e2 : (4096 : Int).toNat = 4096 := rfl
  simp (disch := omega) only [Option.toList_some, Option.toList_none, List.nil_append, List.cons_append, List.append_nil, true_and, and_true, not_true_eq_false, not_false_eq_true, true_implies, false_implies, implies_true, and_self, Int.reduceLT, Int.reduceLE, Int.reduceEq, Int.reduceNe, Int.reduceAdd, Int.reduceSub, Int.reduceMul, Int.reduceNeg, Int.reduceToNat, Int.toNat_natCast, ↓kk_ck, ↓kk_im, ↓kk_in, s_238_560, s_238_566, h, e1, e2, ne_eq]
  exact hq
theorem n_238_30 {n : Nat} (h : Y.1 112 = 32) (hn : 112 < n) (hq : vi_ok GG d 238 577 [some (.inr (.inr 112)), none] [] (vi_yfin (vi_ynew Y n 1 64) 112 51 (n : Int), vi_rs M n (fun _ => 0), n + 1, m + 64) Q) : vi_ok GG d 238 569 [some (.inr (.inr 112)), none] [] (Y, M, n, m) Q := by
  have e1 : (vi_ynew Y n 1 64).1 112 = 32 := by rw [yn1o (by omega)]; exact h
  have e2 : (64 : Int).toNat = 64 := rfl
  simp (disch := omega) only [Option.toList_some, Option.toList_none, List.nil_append, List.cons_append, List.append_nil, true_and, and_true, not_true_eq_false, not_false_eq_true, true_implies, false_implies, implies_true, and_self, Int.reduceLT, Int.reduceLE, Int.reduceEq, Int.reduceNe, Int.reduceAdd, Int.reduceSub, Int.reduceMul, Int.reduceNeg, Int.reduceToNat, Int.toNat_natCast, ↓kk_ck, ↓kk_im, ↓kk_in, s_238_569, s_238_574, h, e1, e2, ne_eq]
  exact hq
theorem n_238_31 {n : Nat} (h : Y.1 112 = 32) (hn : 112 < n) (hq : vi_ok GG d 238 585 [some (.inr (.inr 112)), none] [] (vi_yfin (vi_ynew Y n 1 64) 112 52 (n : Int), vi_rs M n (fun _ => 0), n + 1, m + 64) Q) : vi_ok GG d 238 577 [some (.inr (.inr 112)), none] [] (Y, M, n, m) Q := by
  have e1 : (vi_ynew Y n 1 64).1 112 = 32 := by rw [yn1o (by omega)]; exact h
  have e2 : (64 : Int).toNat = 64 := rfl
  simp (disch := omega) only [Option.toList_some, Option.toList_none, List.nil_append, List.cons_append, List.append_nil, true_and, and_true, not_true_eq_false, not_false_eq_true, true_implies, false_implies, implies_true, and_self, Int.reduceLT, Int.reduceLE, Int.reduceEq, Int.reduceNe, Int.reduceAdd, Int.reduceSub, Int.reduceMul, Int.reduceNeg, Int.reduceToNat, Int.toNat_natCast, ↓kk_ck, ↓kk_im, ↓kk_in, s_238_577, s_238_582, h, e1, e2, ne_eq]
  exact hq
theorem n_238_32 {n : Nat} (h : Y.1 112 = 32) (hn : 112 < n) (hq : vi_ok GG d 238 594 [some (.inr (.inr 112)), none] [] (vi_yfin (vi_ynew Y n 1 4096) 112 53 (n : Int), vi_rs M n (fun _ => 0), n + 1, m + 4096) Q) : vi_ok GG d 238 585 [some (.inr (.inr 112)), none] [] (Y, M, n, m) Q := by
  have e1 : (vi_ynew Y n 1 4096).1 112 = 32 := by rw [yn1o (by omega)]; exact h
  have e2 : (4096 : Int).toNat = 4096 := rfl
  simp (disch := omega) only [Option.toList_some, Option.toList_none, List.nil_append, List.cons_append, List.append_nil, true_and, and_true, not_true_eq_false, not_false_eq_true, true_implies, false_implies, implies_true, and_self, Int.reduceLT, Int.reduceLE, Int.reduceEq, Int.reduceNe, Int.reduceAdd, Int.reduceSub, Int.reduceMul, Int.reduceNeg, Int.reduceToNat, Int.toNat_natCast, ↓kk_ck, ↓kk_im, ↓kk_in, s_238_585, s_238_591, h, e1, e2, ne_eq]
  exact hq
theorem n_238_33 {n : Nat} (h : Y.1 112 = 32) (hn : 112 < n) (hq : vi_ok GG d 238 603 [some (.inr (.inr 112)), none] [] (vi_yfin (vi_ynew Y n 1 128) 112 54 (n : Int), vi_rs M n (fun _ => 0), n + 1, m + 128) Q) : vi_ok GG d 238 594 [some (.inr (.inr 112)), none] [] (Y, M, n, m) Q := by
  have e1 : (vi_ynew Y n 1 128).1 112 = 32 := by rw [yn1o (by omega)]; exact h
  have e2 : (128 : Int).toNat = 128 := rfl
  simp (disch := omega) only [Option.toList_some, Option.toList_none, List.nil_append, List.cons_append, List.append_nil, true_and, and_true, not_true_eq_false, not_false_eq_true, true_implies, false_implies, implies_true, and_self, Int.reduceLT, Int.reduceLE, Int.reduceEq, Int.reduceNe, Int.reduceAdd, Int.reduceSub, Int.reduceMul, Int.reduceNeg, Int.reduceToNat, Int.toNat_natCast, ↓kk_ck, ↓kk_im, ↓kk_in, s_238_594, s_238_600, h, e1, e2, ne_eq]
  exact hq
theorem n_238_34 {n : Nat} (h : Y.1 112 = 32) (hn : 112 < n) (hq : vi_ok GG d 238 612 [some (.inr (.inr 112)), none] [] (vi_yfin (vi_ynew Y n 1 128) 112 55 (n : Int), vi_rs M n (fun _ => 0), n + 1, m + 128) Q) : vi_ok GG d 238 603 [some (.inr (.inr 112)), none] [] (Y, M, n, m) Q := by
  have e1 : (vi_ynew Y n 1 128).1 112 = 32 := by rw [yn1o (by omega)]; exact h
  have e2 : (128 : Int).toNat = 128 := rfl
  simp (disch := omega) only [Option.toList_some, Option.toList_none, List.nil_append, List.cons_append, List.append_nil, true_and, and_true, not_true_eq_false, not_false_eq_true, true_implies, false_implies, implies_true, and_self, Int.reduceLT, Int.reduceLE, Int.reduceEq, Int.reduceNe, Int.reduceAdd, Int.reduceSub, Int.reduceMul, Int.reduceNeg, Int.reduceToNat, Int.toNat_natCast, ↓kk_ck, ↓kk_im, ↓kk_in, s_238_603, s_238_609, h, e1, e2, ne_eq]
  exact hq
theorem n_238_35 {n : Nat} (h : Y.1 112 = 32) (hn : 112 < n) (hq : vi_ok GG d 238 620 [some (.inr (.inr 112)), none] [] (vi_yfin (vi_ynew Y n 1 14) 112 56 (n : Int), vi_rs M n (fun _ => 0), n + 1, m + 14) Q) : vi_ok GG d 238 612 [some (.inr (.inr 112)), none] [] (Y, M, n, m) Q := by
  have e1 : (vi_ynew Y n 1 14).1 112 = 32 := by rw [yn1o (by omega)]; exact h
  have e2 : (14 : Int).toNat = 14 := rfl
  simp (disch := omega) only [Option.toList_some, Option.toList_none, List.nil_append, List.cons_append, List.append_nil, true_and, and_true, not_true_eq_false, not_false_eq_true, true_implies, false_implies, implies_true, and_self, Int.reduceLT, Int.reduceLE, Int.reduceEq, Int.reduceNe, Int.reduceAdd, Int.reduceSub, Int.reduceMul, Int.reduceNeg, Int.reduceToNat, Int.toNat_natCast, ↓kk_ck, ↓kk_im, ↓kk_in, s_238_612, s_238_617, h, e1, e2, ne_eq]
  exact hq
theorem n_238_36 {n : Nat} (h : Y.1 112 = 32) (hn : 112 < n) (hq : vi_ok GG d 238 628 [some (.inr (.inr 112)), none] [] (vi_yfin (vi_ynew Y n 4 229376) 112 57 (n : Int), vi_rs M n (fun _ => 0), n + 1, m + 229376) Q) : vi_ok GG d 238 620 [some (.inr (.inr 112)), none] [] (Y, M, n, m) Q := by
  have e1 : (vi_ynew Y n 4 229376).1 112 = 32 := by rw [yn1o (by omega)]; exact h
  have e2 : (229376 : Int).toNat = 229376 := rfl
  simp (disch := omega) only [Option.toList_some, Option.toList_none, List.nil_append, List.cons_append, List.append_nil, true_and, and_true, not_true_eq_false, not_false_eq_true, true_implies, false_implies, implies_true, and_self, Int.reduceLT, Int.reduceLE, Int.reduceEq, Int.reduceNe, Int.reduceAdd, Int.reduceSub, Int.reduceMul, Int.reduceNeg, Int.reduceToNat, Int.toNat_natCast, ↓kk_ck, ↓kk_im, ↓kk_in, s_238_620, s_238_625, h, e1, e2, ne_eq]
  exact hq
theorem n_238_37 {n : Nat} (h : Y.1 112 = 32) (hn : 112 < n) (hq : vi_ok GG d 238 636 [some (.inr (.inr 112)), none] [] (vi_yfin (vi_ynew Y n 1 8) 112 58 (n : Int), vi_rs M n (fun _ => 0), n + 1, m + 8) Q) : vi_ok GG d 238 628 [some (.inr (.inr 112)), none] [] (Y, M, n, m) Q := by
  have e1 : (vi_ynew Y n 1 8).1 112 = 32 := by rw [yn1o (by omega)]; exact h
  have e2 : (8 : Int).toNat = 8 := rfl
  simp (disch := omega) only [Option.toList_some, Option.toList_none, List.nil_append, List.cons_append, List.append_nil, true_and, and_true, not_true_eq_false, not_false_eq_true, true_implies, false_implies, implies_true, and_self, Int.reduceLT, Int.reduceLE, Int.reduceEq, Int.reduceNe, Int.reduceAdd, Int.reduceSub, Int.reduceMul, Int.reduceNeg, Int.reduceToNat, Int.toNat_natCast, ↓kk_ck, ↓kk_im, ↓kk_in, s_238_628, s_238_633, h, e1, e2, ne_eq]
  exact hq
theorem n_238_38 {n : Nat} (h : Y.1 112 = 32) (hn : 112 < n) (hq : vi_ok GG d 238 644 [some (.inr (.inr 112)), none] [] (vi_yfin (vi_ynew Y n 1 823543) 112 59 (n : Int), vi_rs M n (fun _ => 0), n + 1, m + 823543) Q) : vi_ok GG d 238 636 [some (.inr (.inr 112)), none] [] (Y, M, n, m) Q := by
  have e1 : (vi_ynew Y n 1 823543).1 112 = 32 := by rw [yn1o (by omega)]; exact h
  have e2 : (823543 : Int).toNat = 823543 := rfl
  simp (disch := omega) only [Option.toList_some, Option.toList_none, List.nil_append, List.cons_append, List.append_nil, true_and, and_true, not_true_eq_false, not_false_eq_true, true_implies, false_implies, implies_true, and_self, Int.reduceLT, Int.reduceLE, Int.reduceEq, Int.reduceNe, Int.reduceAdd, Int.reduceSub, Int.reduceMul, Int.reduceNeg, Int.reduceToNat, Int.toNat_natCast, ↓kk_ck, ↓kk_im, ↓kk_in, s_238_636, s_238_641, h, e1, e2, ne_eq]
  exact hq
theorem n_238_39 {n : Nat} (h : Y.1 112 = 32) (hn : 112 < n) (hq : vi_ok GG d 238 652 [some (.inr (.inr 112)), none] [] (vi_yfin (vi_ynew Y n 1 6) 112 60 (n : Int), vi_rs M n (fun _ => 0), n + 1, m + 6) Q) : vi_ok GG d 238 644 [some (.inr (.inr 112)), none] [] (Y, M, n, m) Q := by
  have e1 : (vi_ynew Y n 1 6).1 112 = 32 := by rw [yn1o (by omega)]; exact h
  have e2 : (6 : Int).toNat = 6 := rfl
  simp (disch := omega) only [Option.toList_some, Option.toList_none, List.nil_append, List.cons_append, List.append_nil, true_and, and_true, not_true_eq_false, not_false_eq_true, true_implies, false_implies, implies_true, and_self, Int.reduceLT, Int.reduceLE, Int.reduceEq, Int.reduceNe, Int.reduceAdd, Int.reduceSub, Int.reduceMul, Int.reduceNeg, Int.reduceToNat, Int.toNat_natCast, ↓kk_ck, ↓kk_im, ↓kk_in, s_238_644, s_238_649, h, e1, e2, ne_eq]
  exact hq
theorem n_238_40 {n : Nat} (h : Y.1 112 = 32) (hn : 112 < n) (hq : vi_ok GG d 238 660 [some (.inr (.inr 112)), none] [] (vi_yfin (vi_ynew Y n 1 60) 112 61 (n : Int), vi_rs M n (fun _ => 0), n + 1, m + 60) Q) : vi_ok GG d 238 652 [some (.inr (.inr 112)), none] [] (Y, M, n, m) Q := by
  have e1 : (vi_ynew Y n 1 60).1 112 = 32 := by rw [yn1o (by omega)]; exact h
  have e2 : (60 : Int).toNat = 60 := rfl
  simp (disch := omega) only [Option.toList_some, Option.toList_none, List.nil_append, List.cons_append, List.append_nil, true_and, and_true, not_true_eq_false, not_false_eq_true, true_implies, false_implies, implies_true, and_self, Int.reduceLT, Int.reduceLE, Int.reduceEq, Int.reduceNe, Int.reduceAdd, Int.reduceSub, Int.reduceMul, Int.reduceNeg, Int.reduceToNat, Int.toNat_natCast, ↓kk_ck, ↓kk_im, ↓kk_in, s_238_652, s_238_657, h, e1, e2, ne_eq]
  exact hq
end
