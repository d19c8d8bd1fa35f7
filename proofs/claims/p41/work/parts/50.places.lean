/-! PRINTED BY wip/whole/gen/py.py: the places of class and reference. -/
def yT (p : Nat) : Nat := cond (Nat.ble 70 p) (cond (Nat.ble 91 p) (cond (Nat.ble 101 p) (cond (Nat.ble 106 p) (cond (Nat.ble 109 p) (cond (Nat.ble 110 p) (cond (Nat.ble 111 p) (1) (1)) (1)) (cond (Nat.ble 107 p) (cond (Nat.ble 108 p) (1) (26)) (1))) (cond (Nat.ble 103 p) (cond (Nat.ble 104 p) (cond (Nat.ble 105 p) (1) (1)) (29)) (cond (Nat.ble 102 p) (2) (20)))) (cond (Nat.ble 96 p) (cond (Nat.ble 98 p) (cond (Nat.ble 99 p) (cond (Nat.ble 100 p) (1) (1)) (1)) (cond (Nat.ble 97 p) (25) (1))) (cond (Nat.ble 93 p) (cond (Nat.ble 94 p) (cond (Nat.ble 95 p) (1) (2)) (20)) (cond (Nat.ble 92 p) (2) (20))))) (cond (Nat.ble 80 p) (cond (Nat.ble 85 p) (cond (Nat.ble 88 p) (cond (Nat.ble 89 p) (cond (Nat.ble 90 p) (2) (20)) (30)) (cond (Nat.ble 86 p) (cond (Nat.ble 87 p) (2) (20)) (2))) (cond (Nat.ble 82 p) (cond (Nat.ble 83 p) (cond (Nat.ble 84 p) (20) (2)) (20)) (cond (Nat.ble 81 p) (2) (20)))) (cond (Nat.ble 75 p) (cond (Nat.ble 77 p) (cond (Nat.ble 78 p) (cond (Nat.ble 79 p) (1) (1)) (24)) (cond (Nat.ble 76 p) (1) (1))) (cond (Nat.ble 72 p) (cond (Nat.ble 73 p) (cond (Nat.ble 74 p) (3) (27)) (2)) (cond (Nat.ble 71 p) (20) (2)))))) (cond (Nat.ble 49 p) (cond (Nat.ble 59 p) (cond (Nat.ble 64 p) (cond (Nat.ble 67 p) (cond (Nat.ble 68 p) (cond (Nat.ble 69 p) (20) (2)) (20)) (cond (Nat.ble 65 p) (cond (Nat.ble 66 p) (2) (20)) (2))) (cond (Nat.ble 61 p) (cond (Nat.ble 62 p) (cond (Nat.ble 63 p) (20) (1)) (1)) (cond (Nat.ble 60 p) (21) (7)))) (cond (Nat.ble 54 p) (cond (Nat.ble 56 p) (cond (Nat.ble 57 p) (cond (Nat.ble 58 p) (1) (1)) (1)) (cond (Nat.ble 55 p) (28) (1))) (cond (Nat.ble 51 p) (cond (Nat.ble 52 p) (cond (Nat.ble 53 p) (28) (1)) (28)) (cond (Nat.ble 50 p) (22) (7))))) (cond (Nat.ble 39 p) (cond (Nat.ble 44 p) (cond (Nat.ble 46 p) (cond (Nat.ble 47 p) (cond (Nat.ble 48 p) (1) (1)) (1)) (cond (Nat.ble 45 p) (28) (1))) (cond (Nat.ble 41 p) (cond (Nat.ble 42 p) (cond (Nat.ble 43 p) (28) (1)) (28)) (cond (Nat.ble 40 p) (22) (7)))) (cond (Nat.ble 34 p) (cond (Nat.ble 36 p) (cond (Nat.ble 37 p) (cond (Nat.ble 38 p) (1) (1)) (1)) (cond (Nat.ble 35 p) (28) (1))) (cond (Nat.ble 31 p) (cond (Nat.ble 32 p) (cond (Nat.ble 33 p) (28) (1)) (28)) (cond (Nat.ble 30 p) (22) (31))))))
def yN (p : Nat) : Nat := cond (Nat.ble 70 p) (cond (Nat.ble 91 p) (cond (Nat.ble 101 p) (cond (Nat.ble 106 p) (cond (Nat.ble 109 p) (cond (Nat.ble 110 p) (cond (Nat.ble 111 p) (5) (8)) (6)) (cond (Nat.ble 107 p) (cond (Nat.ble 108 p) (4096) (4)) (10))) (cond (Nat.ble 103 p) (cond (Nat.ble 104 p) (cond (Nat.ble 105 p) (10) (10)) (4)) (cond (Nat.ble 102 p) (6) (1)))) (cond (Nat.ble 96 p) (cond (Nat.ble 98 p) (cond (Nat.ble 99 p) (cond (Nat.ble 100 p) (14) (216)) (216)) (cond (Nat.ble 97 p) (6) (512))) (cond (Nat.ble 93 p) (cond (Nat.ble 94 p) (cond (Nat.ble 95 p) (512) (6)) (1)) (cond (Nat.ble 92 p) (6) (1))))) (cond (Nat.ble 80 p) (cond (Nat.ble 85 p) (cond (Nat.ble 88 p) (cond (Nat.ble 89 p) (cond (Nat.ble 90 p) (6) (1)) (6)) (cond (Nat.ble 86 p) (cond (Nat.ble 87 p) (6) (1)) (6))) (cond (Nat.ble 82 p) (cond (Nat.ble 83 p) (cond (Nat.ble 84 p) (1) (6)) (1)) (cond (Nat.ble 81 p) (6) (1)))) (cond (Nat.ble 75 p) (cond (Nat.ble 77 p) (cond (Nat.ble 78 p) (cond (Nat.ble 79 p) (60) (108)) (15)) (cond (Nat.ble 76 p) (48) (400))) (cond (Nat.ble 72 p) (cond (Nat.ble 73 p) (cond (Nat.ble 74 p) (400) (11)) (6)) (cond (Nat.ble 71 p) (1) (6)))))) (cond (Nat.ble 49 p) (cond (Nat.ble 59 p) (cond (Nat.ble 64 p) (cond (Nat.ble 67 p) (cond (Nat.ble 68 p) (cond (Nat.ble 69 p) (1) (6)) (1)) (cond (Nat.ble 65 p) (cond (Nat.ble 66 p) (6) (1)) (6))) (cond (Nat.ble 61 p) (cond (Nat.ble 62 p) (cond (Nat.ble 63 p) (1) (216)) (216)) (cond (Nat.ble 60 p) (8) (6)))) (cond (Nat.ble 54 p) (cond (Nat.ble 56 p) (cond (Nat.ble 57 p) (cond (Nat.ble 58 p) (12) (108)) (48)) (cond (Nat.ble 55 p) (3) (48))) (cond (Nat.ble 51 p) (cond (Nat.ble 52 p) (cond (Nat.ble 53 p) (3) (96)) (3)) (cond (Nat.ble 50 p) (13) (6))))) (cond (Nat.ble 39 p) (cond (Nat.ble 44 p) (cond (Nat.ble 46 p) (cond (Nat.ble 47 p) (cond (Nat.ble 48 p) (12) (108)) (48)) (cond (Nat.ble 45 p) (3) (48))) (cond (Nat.ble 41 p) (cond (Nat.ble 42 p) (cond (Nat.ble 43 p) (3) (96)) (3)) (cond (Nat.ble 40 p) (13) (6)))) (cond (Nat.ble 34 p) (cond (Nat.ble 36 p) (cond (Nat.ble 37 p) (cond (Nat.ble 38 p) (12) (108)) (48)) (cond (Nat.ble 35 p) (3) (48))) (cond (Nat.ble 31 p) (cond (Nat.ble 32 p) (cond (Nat.ble 33 p) (3) (96)) (3)) (cond (Nat.ble 30 p) (13) (13))))))
def yF (p k : Nat) : Int := cond (Nat.ble 70 p) (cond (Nat.ble 91 p) (cond (Nat.ble 101 p) (cond (Nat.ble 106 p) (cond (Nat.ble 109 p) (cond (Nat.ble 110 p) (cond (Nat.ble 111 p) (0) (0)) (0)) (cond (Nat.ble 107 p) (cond (Nat.ble 108 p) (0) ((match k with | 0 => 30 | 1 => 108 | 2 => 109 | 3 => 110 | _ => 0))) (0))) (cond (Nat.ble 103 p) (cond (Nat.ble 104 p) (cond (Nat.ble 105 p) (0) (0)) ((match k with | 0 => 30 | 1 => 104 | 2 => 105 | 3 => 106 | _ => 0))) (cond (Nat.ble 102 p) (0) ((match k with | 0 => 102 | _ => 0))))) (cond (Nat.ble 96 p) (cond (Nat.ble 98 p) (cond (Nat.ble 99 p) (cond (Nat.ble 100 p) (0) (0)) (0)) (cond (Nat.ble 97 p) ((match k with | 0 => 30 | 1 => 60 | 2 => 98 | 3 => 99 | 4 => 100 | 5 => 101 | _ => 0)) (0))) (cond (Nat.ble 93 p) (cond (Nat.ble 94 p) (cond (Nat.ble 95 p) (0) (0)) ((match k with | 0 => 94 | _ => 0))) (cond (Nat.ble 92 p) (0) ((match k with | 0 => 92 | _ => 0)))))) (cond (Nat.ble 80 p) (cond (Nat.ble 85 p) (cond (Nat.ble 88 p) (cond (Nat.ble 89 p) (cond (Nat.ble 90 p) (0) ((match k with | 0 => 90 | _ => 0))) ((match k with | 0 => 30 | 1 => 89 | 2 => 91 | 3 => 93 | _ => 0))) (cond (Nat.ble 86 p) (cond (Nat.ble 87 p) (0) ((match k with | 0 => 87 | _ => 0))) (0))) (cond (Nat.ble 82 p) (cond (Nat.ble 83 p) (cond (Nat.ble 84 p) ((match k with | 0 => 85 | _ => 0)) (0)) ((match k with | 0 => 83 | _ => 0))) (cond (Nat.ble 81 p) (0) ((match k with | 0 => 81 | _ => 0))))) (cond (Nat.ble 75 p) (cond (Nat.ble 77 p) (cond (Nat.ble 78 p) (cond (Nat.ble 79 p) (0) (0)) ((match k with | 0 => 30 | 1 => 60 | 2 => 78 | 3 => 79 | 4 => 80 | 5 => 82 | 6 => 84 | 7 => 86 | _ => 0))) (cond (Nat.ble 76 p) (0) (0))) (cond (Nat.ble 72 p) (cond (Nat.ble 73 p) (cond (Nat.ble 74 p) (0) ((match k with | 0 => 74 | 1 => 75 | 2 => 76 | _ => 0))) (0)) (cond (Nat.ble 71 p) ((match k with | 0 => 72 | _ => 0)) (0)))))) (cond (Nat.ble 49 p) (cond (Nat.ble 59 p) (cond (Nat.ble 64 p) (cond (Nat.ble 67 p) (cond (Nat.ble 68 p) (cond (Nat.ble 69 p) ((match k with | 0 => 70 | _ => 0)) (0)) ((match k with | 0 => 68 | _ => 0))) (cond (Nat.ble 65 p) (cond (Nat.ble 66 p) (0) ((match k with | 0 => 66 | _ => 0))) (0))) (cond (Nat.ble 61 p) (cond (Nat.ble 62 p) (cond (Nat.ble 63 p) ((match k with | 0 => 64 | _ => 0)) (0)) (0)) (cond (Nat.ble 60 p) ((match k with | 0 => 30 | 1 => 61 | 2 => 62 | 3 => 63 | 4 => 65 | 5 => 67 | 6 => 69 | 7 => 71 | _ => 0)) (0)))) (cond (Nat.ble 54 p) (cond (Nat.ble 56 p) (cond (Nat.ble 57 p) (cond (Nat.ble 58 p) (0) (0)) (0)) (cond (Nat.ble 55 p) ((match k with | 0 => 8 | 1 => 56 | _ => 0)) (0))) (cond (Nat.ble 51 p) (cond (Nat.ble 52 p) (cond (Nat.ble 53 p) ((match k with | 0 => 8 | 1 => 54 | _ => 0)) (0)) ((match k with | 0 => 16 | 1 => 52 | _ => 0))) (cond (Nat.ble 50 p) ((match k with | 0 => 51 | 1 => 53 | 2 => 55 | 3 => 57 | 4 => 58 | 5 => 59 | _ => 0)) (0))))) (cond (Nat.ble 39 p) (cond (Nat.ble 44 p) (cond (Nat.ble 46 p) (cond (Nat.ble 47 p) (cond (Nat.ble 48 p) (0) (0)) (0)) (cond (Nat.ble 45 p) ((match k with | 0 => 8 | 1 => 46 | _ => 0)) (0))) (cond (Nat.ble 41 p) (cond (Nat.ble 42 p) (cond (Nat.ble 43 p) ((match k with | 0 => 8 | 1 => 44 | _ => 0)) (0)) ((match k with | 0 => 16 | 1 => 42 | _ => 0))) (cond (Nat.ble 40 p) ((match k with | 0 => 41 | 1 => 43 | 2 => 45 | 3 => 47 | 4 => 48 | 5 => 49 | _ => 0)) (0)))) (cond (Nat.ble 34 p) (cond (Nat.ble 36 p) (cond (Nat.ble 37 p) (cond (Nat.ble 38 p) (0) (0)) (0)) (cond (Nat.ble 35 p) ((match k with | 0 => 8 | 1 => 36 | _ => 0)) (0))) (cond (Nat.ble 31 p) (cond (Nat.ble 32 p) (cond (Nat.ble 33 p) ((match k with | 0 => 8 | 1 => 34 | _ => 0)) (0)) ((match k with | 0 => 16 | 1 => 32 | _ => 0))) (cond (Nat.ble 30 p) ((match k with | 0 => 31 | 1 => 33 | 2 => 35 | 3 => 37 | 4 => 38 | 5 => 39 | _ => 0)) ((match k with | 0 => 30 | 1 => 40 | 2 => 50 | 3 => 60 | 4 => 73 | 5 => 77 | 6 => 88 | 7 => 97 | 8 => 103 | 9 => 107 | 10 => 111 | _ => 0)))))))
/-- all places below b are as they are laid -/
def kY (Y : vi_Y) (b : Nat) : Prop := ∀ p, 30 ≤ p → p < b → Y.1 p = yT p ∧ Y.2.1 p = yN p ∧ ∀ k, Y.2.2 p k = yF p k
/-- the object itself -/
def kY9 (Y : vi_Y) : Prop := Y.1 29 = 31 ∧ ∀ k, Y.2.2 29 k = yF 29 k
theorem kY_le {Y : vi_Y} {b c : Nat} (h : kY Y b) (hc : c ≤ b) : kY Y c := fun p h1 h2 => h p h1 (by omega)
theorem y_29 {Y : vi_Y} (h : kY9 Y) : Y.1 29 = 31 ∧ (Y.2.2 29 0).toNat = 30 ∧ (Y.2.2 29 1).toNat = 40 ∧ (Y.2.2 29 2).toNat = 50 ∧ (Y.2.2 29 3).toNat = 60 ∧ (Y.2.2 29 4).toNat = 73 ∧ (Y.2.2 29 5).toNat = 77 ∧ (Y.2.2 29 6).toNat = 88 ∧ (Y.2.2 29 7).toNat = 97 ∧ (Y.2.2 29 8).toNat = 103 ∧ (Y.2.2 29 9).toNat = 107 ∧ (Y.2.2 29 10).toNat = 111 := ⟨h.1, (by rw [h.2 0]; rfl), (by rw [h.2 1]; rfl), (by rw [h.2 2]; rfl), (by rw [h.2 3]; rfl), (by rw [h.2 4]; rfl), (by rw [h.2 5]; rfl), (by rw [h.2 6]; rfl), (by rw [h.2 7]; rfl), (by rw [h.2 8]; rfl), (by rw [h.2 9]; rfl), (by rw [h.2 10]; rfl)⟩
/-- held -/
theorem y_30 {Y : vi_Y} {b : Nat} (h : kY Y b) (hb : 30 < b) : Y.1 30 = 22 ∧ (Y.2.2 30 0).toNat = 31 ∧ (Y.2.2 30 1).toNat = 33 ∧ (Y.2.2 30 2).toNat = 35 ∧ (Y.2.2 30 3).toNat = 37 ∧ (Y.2.2 30 4).toNat = 38 ∧ (Y.2.2 30 5).toNat = 39 := ⟨(h 30 (by omega) (by omega)).1, (by rw [(h 30 (by omega) (by omega)).2.2 0]; rfl), (by rw [(h 30 (by omega) (by omega)).2.2 1]; rfl), (by rw [(h 30 (by omega) (by omega)).2.2 2]; rfl), (by rw [(h 30 (by omega) (by omega)).2.2 3]; rfl), (by rw [(h 30 (by omega) (by omega)).2.2 4]; rfl), (by rw [(h 30 (by omega) (by omega)).2.2 5]; rfl)⟩
/-- held.holes -/
theorem y_31 {Y : vi_Y} {b : Nat} (h : kY Y b) (hb : 31 < b) : Y.1 31 = 28 ∧ Y.2.2 31 0 = 16 ∧ (Y.2.2 31 1).toNat = 32 := ⟨(h 31 (by omega) (by omega)).1, ((h 31 (by omega) (by omega)).2.2 0), (by rw [(h 31 (by omega) (by omega)).2.2 1]; rfl)⟩
/-- held.holes.numbers -/
theorem y_32 {Y : vi_Y} {b : Nat} (h : kY Y b) (hb : 32 < b) : Y.1 32 = 1 ∧ (Y.2.1 32 : Int) = 96 := ⟨(h 32 (by omega) (by omega)).1, (by rw [(h 32 (by omega) (by omega)).2.1]; rfl)⟩
/-- held.rows -/
theorem y_33 {Y : vi_Y} {b : Nat} (h : kY Y b) (hb : 33 < b) : Y.1 33 = 28 ∧ Y.2.2 33 0 = 8 ∧ (Y.2.2 33 1).toNat = 34 := ⟨(h 33 (by omega) (by omega)).1, ((h 33 (by omega) (by omega)).2.2 0), (by rw [(h 33 (by omega) (by omega)).2.2 1]; rfl)⟩
/-- held.rows.numbers -/
theorem y_34 {Y : vi_Y} {b : Nat} (h : kY Y b) (hb : 34 < b) : Y.1 34 = 1 ∧ (Y.2.1 34 : Int) = 48 := ⟨(h 34 (by omega) (by omega)).1, (by rw [(h 34 (by omega) (by omega)).2.1]; rfl)⟩
/-- held.screws -/
theorem y_35 {Y : vi_Y} {b : Nat} (h : kY Y b) (hb : 35 < b) : Y.1 35 = 28 ∧ Y.2.2 35 0 = 8 ∧ (Y.2.2 35 1).toNat = 36 := ⟨(h 35 (by omega) (by omega)).1, ((h 35 (by omega) (by omega)).2.2 0), (by rw [(h 35 (by omega) (by omega)).2.2 1]; rfl)⟩
/-- held.screws.numbers -/
theorem y_36 {Y : vi_Y} {b : Nat} (h : kY Y b) (hb : 36 < b) : Y.1 36 = 1 ∧ (Y.2.1 36 : Int) = 48 := ⟨(h 36 (by omega) (by omega)).1, (by rw [(h 36 (by omega) (by omega)).2.1]; rfl)⟩
/-- dark -/
theorem y_37 {Y : vi_Y} {b : Nat} (h : kY Y b) (hb : 37 < b) : Y.1 37 = 1 ∧ (Y.2.1 37 : Int) = 108 := ⟨(h 37 (by omega) (by omega)).1, (by rw [(h 37 (by omega) (by omega)).2.1]; rfl)⟩
/-- counts -/
theorem y_38 {Y : vi_Y} {b : Nat} (h : kY Y b) (hb : 38 < b) : Y.1 38 = 1 ∧ (Y.2.1 38 : Int) = 12 := ⟨(h 38 (by omega) (by omega)).1, (by rw [(h 38 (by omega) (by omega)).2.1]; rfl)⟩
/-- laws -/
theorem y_39 {Y : vi_Y} {b : Nat} (h : kY Y b) (hb : 39 < b) : Y.1 39 = 7 ∧ (Y.2.1 39 : Int) = 6 := ⟨(h 39 (by omega) (by omega)).1, (by rw [(h 39 (by omega) (by omega)).2.1]; rfl)⟩
/-- first -/
theorem y_40 {Y : vi_Y} {b : Nat} (h : kY Y b) (hb : 40 < b) : Y.1 40 = 22 ∧ (Y.2.2 40 0).toNat = 41 ∧ (Y.2.2 40 1).toNat = 43 ∧ (Y.2.2 40 2).toNat = 45 ∧ (Y.2.2 40 3).toNat = 47 ∧ (Y.2.2 40 4).toNat = 48 ∧ (Y.2.2 40 5).toNat = 49 := ⟨(h 40 (by omega) (by omega)).1, (by rw [(h 40 (by omega) (by omega)).2.2 0]; rfl), (by rw [(h 40 (by omega) (by omega)).2.2 1]; rfl), (by rw [(h 40 (by omega) (by omega)).2.2 2]; rfl), (by rw [(h 40 (by omega) (by omega)).2.2 3]; rfl), (by rw [(h 40 (by omega) (by omega)).2.2 4]; rfl), (by rw [(h 40 (by omega) (by omega)).2.2 5]; rfl)⟩
/-- first.holes -/
theorem y_41 {Y : vi_Y} {b : Nat} (h : kY Y b) (hb : 41 < b) : Y.1 41 = 28 ∧ Y.2.2 41 0 = 16 ∧ (Y.2.2 41 1).toNat = 42 := ⟨(h 41 (by omega) (by omega)).1, ((h 41 (by omega) (by omega)).2.2 0), (by rw [(h 41 (by omega) (by omega)).2.2 1]; rfl)⟩
/-- first.holes.numbers -/
theorem y_42 {Y : vi_Y} {b : Nat} (h : kY Y b) (hb : 42 < b) : Y.1 42 = 1 ∧ (Y.2.1 42 : Int) = 96 := ⟨(h 42 (by omega) (by omega)).1, (by rw [(h 42 (by omega) (by omega)).2.1]; rfl)⟩
/-- first.rows -/
theorem y_43 {Y : vi_Y} {b : Nat} (h : kY Y b) (hb : 43 < b) : Y.1 43 = 28 ∧ Y.2.2 43 0 = 8 ∧ (Y.2.2 43 1).toNat = 44 := ⟨(h 43 (by omega) (by omega)).1, ((h 43 (by omega) (by omega)).2.2 0), (by rw [(h 43 (by omega) (by omega)).2.2 1]; rfl)⟩
/-- first.rows.numbers -/
theorem y_44 {Y : vi_Y} {b : Nat} (h : kY Y b) (hb : 44 < b) : Y.1 44 = 1 ∧ (Y.2.1 44 : Int) = 48 := ⟨(h 44 (by omega) (by omega)).1, (by rw [(h 44 (by omega) (by omega)).2.1]; rfl)⟩
/-- first.screws -/
theorem y_45 {Y : vi_Y} {b : Nat} (h : kY Y b) (hb : 45 < b) : Y.1 45 = 28 ∧ Y.2.2 45 0 = 8 ∧ (Y.2.2 45 1).toNat = 46 := ⟨(h 45 (by omega) (by omega)).1, ((h 45 (by omega) (by omega)).2.2 0), (by rw [(h 45 (by omega) (by omega)).2.2 1]; rfl)⟩
/-- first.screws.numbers -/
theorem y_46 {Y : vi_Y} {b : Nat} (h : kY Y b) (hb : 46 < b) : Y.1 46 = 1 ∧ (Y.2.1 46 : Int) = 48 := ⟨(h 46 (by omega) (by omega)).1, (by rw [(h 46 (by omega) (by omega)).2.1]; rfl)⟩
/-- dark -/
theorem y_47 {Y : vi_Y} {b : Nat} (h : kY Y b) (hb : 47 < b) : Y.1 47 = 1 ∧ (Y.2.1 47 : Int) = 108 := ⟨(h 47 (by omega) (by omega)).1, (by rw [(h 47 (by omega) (by omega)).2.1]; rfl)⟩
/-- counts -/
theorem y_48 {Y : vi_Y} {b : Nat} (h : kY Y b) (hb : 48 < b) : Y.1 48 = 1 ∧ (Y.2.1 48 : Int) = 12 := ⟨(h 48 (by omega) (by omega)).1, (by rw [(h 48 (by omega) (by omega)).2.1]; rfl)⟩
/-- laws -/
theorem y_49 {Y : vi_Y} {b : Nat} (h : kY Y b) (hb : 49 < b) : Y.1 49 = 7 ∧ (Y.2.1 49 : Int) = 6 := ⟨(h 49 (by omega) (by omega)).1, (by rw [(h 49 (by omega) (by omega)).2.1]; rfl)⟩
/-- second -/
theorem y_50 {Y : vi_Y} {b : Nat} (h : kY Y b) (hb : 50 < b) : Y.1 50 = 22 ∧ (Y.2.2 50 0).toNat = 51 ∧ (Y.2.2 50 1).toNat = 53 ∧ (Y.2.2 50 2).toNat = 55 ∧ (Y.2.2 50 3).toNat = 57 ∧ (Y.2.2 50 4).toNat = 58 ∧ (Y.2.2 50 5).toNat = 59 := ⟨(h 50 (by omega) (by omega)).1, (by rw [(h 50 (by omega) (by omega)).2.2 0]; rfl), (by rw [(h 50 (by omega) (by omega)).2.2 1]; rfl), (by rw [(h 50 (by omega) (by omega)).2.2 2]; rfl), (by rw [(h 50 (by omega) (by omega)).2.2 3]; rfl), (by rw [(h 50 (by omega) (by omega)).2.2 4]; rfl), (by rw [(h 50 (by omega) (by omega)).2.2 5]; rfl)⟩
/-- second.holes -/
theorem y_51 {Y : vi_Y} {b : Nat} (h : kY Y b) (hb : 51 < b) : Y.1 51 = 28 ∧ Y.2.2 51 0 = 16 ∧ (Y.2.2 51 1).toNat = 52 := ⟨(h 51 (by omega) (by omega)).1, ((h 51 (by omega) (by omega)).2.2 0), (by rw [(h 51 (by omega) (by omega)).2.2 1]; rfl)⟩
/-- second.holes.numbers -/
theorem y_52 {Y : vi_Y} {b : Nat} (h : kY Y b) (hb : 52 < b) : Y.1 52 = 1 ∧ (Y.2.1 52 : Int) = 96 := ⟨(h 52 (by omega) (by omega)).1, (by rw [(h 52 (by omega) (by omega)).2.1]; rfl)⟩
/-- second.rows -/
theorem y_53 {Y : vi_Y} {b : Nat} (h : kY Y b) (hb : 53 < b) : Y.1 53 = 28 ∧ Y.2.2 53 0 = 8 ∧ (Y.2.2 53 1).toNat = 54 := ⟨(h 53 (by omega) (by omega)).1, ((h 53 (by omega) (by omega)).2.2 0), (by rw [(h 53 (by omega) (by omega)).2.2 1]; rfl)⟩
/-- second.rows.numbers -/
theorem y_54 {Y : vi_Y} {b : Nat} (h : kY Y b) (hb : 54 < b) : Y.1 54 = 1 ∧ (Y.2.1 54 : Int) = 48 := ⟨(h 54 (by omega) (by omega)).1, (by rw [(h 54 (by omega) (by omega)).2.1]; rfl)⟩
/-- second.screws -/
theorem y_55 {Y : vi_Y} {b : Nat} (h : kY Y b) (hb : 55 < b) : Y.1 55 = 28 ∧ Y.2.2 55 0 = 8 ∧ (Y.2.2 55 1).toNat = 56 := ⟨(h 55 (by omega) (by omega)).1, ((h 55 (by omega) (by omega)).2.2 0), (by rw [(h 55 (by omega) (by omega)).2.2 1]; rfl)⟩
/-- second.screws.numbers -/
theorem y_56 {Y : vi_Y} {b : Nat} (h : kY Y b) (hb : 56 < b) : Y.1 56 = 1 ∧ (Y.2.1 56 : Int) = 48 := ⟨(h 56 (by omega) (by omega)).1, (by rw [(h 56 (by omega) (by omega)).2.1]; rfl)⟩
/-- dark -/
theorem y_57 {Y : vi_Y} {b : Nat} (h : kY Y b) (hb : 57 < b) : Y.1 57 = 1 ∧ (Y.2.1 57 : Int) = 108 := ⟨(h 57 (by omega) (by omega)).1, (by rw [(h 57 (by omega) (by omega)).2.1]; rfl)⟩
/-- counts -/
theorem y_58 {Y : vi_Y} {b : Nat} (h : kY Y b) (hb : 58 < b) : Y.1 58 = 1 ∧ (Y.2.1 58 : Int) = 12 := ⟨(h 58 (by omega) (by omega)).1, (by rw [(h 58 (by omega) (by omega)).2.1]; rfl)⟩
/-- laws -/
theorem y_59 {Y : vi_Y} {b : Nat} (h : kY Y b) (hb : 59 < b) : Y.1 59 = 7 ∧ (Y.2.1 59 : Int) = 6 := ⟨(h 59 (by omega) (by omega)).1, (by rw [(h 59 (by omega) (by omega)).2.1]; rfl)⟩
/-- cheese -/
theorem y_60 {Y : vi_Y} {b : Nat} (h : kY Y b) (hb : 60 < b) : Y.1 60 = 21 ∧ (Y.2.2 60 0).toNat = 30 ∧ (Y.2.2 60 1).toNat = 61 ∧ (Y.2.2 60 2).toNat = 62 ∧ (Y.2.2 60 3).toNat = 63 ∧ (Y.2.2 60 4).toNat = 65 ∧ (Y.2.2 60 5).toNat = 67 ∧ (Y.2.2 60 6).toNat = 69 ∧ (Y.2.2 60 7).toNat = 71 := ⟨(h 60 (by omega) (by omega)).1, (by rw [(h 60 (by omega) (by omega)).2.2 0]; rfl), (by rw [(h 60 (by omega) (by omega)).2.2 1]; rfl), (by rw [(h 60 (by omega) (by omega)).2.2 2]; rfl), (by rw [(h 60 (by omega) (by omega)).2.2 3]; rfl), (by rw [(h 60 (by omega) (by omega)).2.2 4]; rfl), (by rw [(h 60 (by omega) (by omega)).2.2 5]; rfl), (by rw [(h 60 (by omega) (by omega)).2.2 6]; rfl), (by rw [(h 60 (by omega) (by omega)).2.2 7]; rfl)⟩
/-- through -/
theorem y_61 {Y : vi_Y} {b : Nat} (h : kY Y b) (hb : 61 < b) : Y.1 61 = 1 ∧ (Y.2.1 61 : Int) = 216 := ⟨(h 61 (by omega) (by omega)).1, (by rw [(h 61 (by omega) (by omega)).2.1]; rfl)⟩
/-- weights -/
theorem y_62 {Y : vi_Y} {b : Nat} (h : kY Y b) (hb : 62 < b) : Y.1 62 = 1 ∧ (Y.2.1 62 : Int) = 216 := ⟨(h 62 (by omega) (by omega)).1, (by rw [(h 62 (by omega) (by omega)).2.1]; rfl)⟩
/-- box -/
theorem y_63 {Y : vi_Y} {b : Nat} (h : kY Y b) (hb : 63 < b) : Y.1 63 = 20 ∧ (Y.2.2 63 0).toNat = 64 := ⟨(h 63 (by omega) (by omega)).1, (by rw [(h 63 (by omega) (by omega)).2.2 0]; rfl)⟩
/-- box.layers -/
theorem y_64 {Y : vi_Y} {b : Nat} (h : kY Y b) (hb : 64 < b) : Y.1 64 = 2 ∧ (Y.2.1 64 : Int) = 6 := ⟨(h 64 (by omega) (by omega)).1, (by rw [(h 64 (by omega) (by omega)).2.1]; rfl)⟩
/-- present -/
theorem y_65 {Y : vi_Y} {b : Nat} (h : kY Y b) (hb : 65 < b) : Y.1 65 = 20 ∧ (Y.2.2 65 0).toNat = 66 := ⟨(h 65 (by omega) (by omega)).1, (by rw [(h 65 (by omega) (by omega)).2.2 0]; rfl)⟩
/-- present.layers -/
theorem y_66 {Y : vi_Y} {b : Nat} (h : kY Y b) (hb : 66 < b) : Y.1 66 = 2 ∧ (Y.2.1 66 : Int) = 6 := ⟨(h 66 (by omega) (by omega)).1, (by rw [(h 66 (by omega) (by omega)).2.1]; rfl)⟩
/-- shut -/
theorem y_67 {Y : vi_Y} {b : Nat} (h : kY Y b) (hb : 67 < b) : Y.1 67 = 20 ∧ (Y.2.2 67 0).toNat = 68 := ⟨(h 67 (by omega) (by omega)).1, (by rw [(h 67 (by omega) (by omega)).2.2 0]; rfl)⟩
/-- shut.layers -/
theorem y_68 {Y : vi_Y} {b : Nat} (h : kY Y b) (hb : 68 < b) : Y.1 68 = 2 ∧ (Y.2.1 68 : Int) = 6 := ⟨(h 68 (by omega) (by omega)).1, (by rw [(h 68 (by omega) (by omega)).2.1]; rfl)⟩
/-- rest -/
theorem y_69 {Y : vi_Y} {b : Nat} (h : kY Y b) (hb : 69 < b) : Y.1 69 = 20 ∧ (Y.2.2 69 0).toNat = 70 := ⟨(h 69 (by omega) (by omega)).1, (by rw [(h 69 (by omega) (by omega)).2.2 0]; rfl)⟩
/-- rest.layers -/
theorem y_70 {Y : vi_Y} {b : Nat} (h : kY Y b) (hb : 70 < b) : Y.1 70 = 2 ∧ (Y.2.1 70 : Int) = 6 := ⟨(h 70 (by omega) (by omega)).1, (by rw [(h 70 (by omega) (by omega)).2.1]; rfl)⟩
/-- piece -/
theorem y_71 {Y : vi_Y} {b : Nat} (h : kY Y b) (hb : 71 < b) : Y.1 71 = 20 ∧ (Y.2.2 71 0).toNat = 72 := ⟨(h 71 (by omega) (by omega)).1, (by rw [(h 71 (by omega) (by omega)).2.2 0]; rfl)⟩
/-- piece.layers -/
theorem y_72 {Y : vi_Y} {b : Nat} (h : kY Y b) (hb : 72 < b) : Y.1 72 = 2 ∧ (Y.2.1 72 : Int) = 6 := ⟨(h 72 (by omega) (by omega)).1, (by rw [(h 72 (by omega) (by omega)).2.1]; rfl)⟩
/-- reader -/
theorem y_73 {Y : vi_Y} {b : Nat} (h : kY Y b) (hb : 73 < b) : Y.1 73 = 27 ∧ (Y.2.2 73 0).toNat = 74 ∧ (Y.2.2 73 1).toNat = 75 ∧ (Y.2.2 73 2).toNat = 76 := ⟨(h 73 (by omega) (by omega)).1, (by rw [(h 73 (by omega) (by omega)).2.2 0]; rfl), (by rw [(h 73 (by omega) (by omega)).2.2 1]; rfl), (by rw [(h 73 (by omega) (by omega)).2.2 2]; rfl)⟩
/-- tape -/
theorem y_74 {Y : vi_Y} {b : Nat} (h : kY Y b) (hb : 74 < b) : Y.1 74 = 3 ∧ (Y.2.1 74 : Int) = 400 := ⟨(h 74 (by omega) (by omega)).1, (by rw [(h 74 (by omega) (by omega)).2.1]; rfl)⟩
/-- steps -/
theorem y_75 {Y : vi_Y} {b : Nat} (h : kY Y b) (hb : 75 < b) : Y.1 75 = 1 ∧ (Y.2.1 75 : Int) = 400 := ⟨(h 75 (by omega) (by omega)).1, (by rw [(h 75 (by omega) (by omega)).2.1]; rfl)⟩
/-- clauses -/
theorem y_76 {Y : vi_Y} {b : Nat} (h : kY Y b) (hb : 76 < b) : Y.1 76 = 1 ∧ (Y.2.1 76 : Int) = 48 := ⟨(h 76 (by omega) (by omega)).1, (by rw [(h 76 (by omega) (by omega)).2.1]; rfl)⟩
/-- paper -/
theorem y_77 {Y : vi_Y} {b : Nat} (h : kY Y b) (hb : 77 < b) : Y.1 77 = 24 ∧ (Y.2.2 77 0).toNat = 30 ∧ (Y.2.2 77 1).toNat = 60 ∧ (Y.2.2 77 2).toNat = 78 ∧ (Y.2.2 77 3).toNat = 79 ∧ (Y.2.2 77 4).toNat = 80 ∧ (Y.2.2 77 5).toNat = 82 ∧ (Y.2.2 77 6).toNat = 84 ∧ (Y.2.2 77 7).toNat = 86 := ⟨(h 77 (by omega) (by omega)).1, (by rw [(h 77 (by omega) (by omega)).2.2 0]; rfl), (by rw [(h 77 (by omega) (by omega)).2.2 1]; rfl), (by rw [(h 77 (by omega) (by omega)).2.2 2]; rfl), (by rw [(h 77 (by omega) (by omega)).2.2 3]; rfl), (by rw [(h 77 (by omega) (by omega)).2.2 4]; rfl), (by rw [(h 77 (by omega) (by omega)).2.2 5]; rfl), (by rw [(h 77 (by omega) (by omega)).2.2 6]; rfl), (by rw [(h 77 (by omega) (by omega)).2.2 7]; rfl)⟩
/-- lines -/
theorem y_78 {Y : vi_Y} {b : Nat} (h : kY Y b) (hb : 78 < b) : Y.1 78 = 1 ∧ (Y.2.1 78 : Int) = 108 := ⟨(h 78 (by omega) (by omega)).1, (by rw [(h 78 (by omega) (by omega)).2.1]; rfl)⟩
/-- behind -/
theorem y_79 {Y : vi_Y} {b : Nat} (h : kY Y b) (hb : 79 < b) : Y.1 79 = 1 ∧ (Y.2.1 79 : Int) = 60 := ⟨(h 79 (by omega) (by omega)).1, (by rw [(h 79 (by omega) (by omega)).2.1]; rfl)⟩
/-- byOne -/
theorem y_80 {Y : vi_Y} {b : Nat} (h : kY Y b) (hb : 80 < b) : Y.1 80 = 20 ∧ (Y.2.2 80 0).toNat = 81 := ⟨(h 80 (by omega) (by omega)).1, (by rw [(h 80 (by omega) (by omega)).2.2 0]; rfl)⟩
/-- byOne.layers -/
theorem y_81 {Y : vi_Y} {b : Nat} (h : kY Y b) (hb : 81 < b) : Y.1 81 = 2 ∧ (Y.2.1 81 : Int) = 6 := ⟨(h 81 (by omega) (by omega)).1, (by rw [(h 81 (by omega) (by omega)).2.1]; rfl)⟩
/-- byTwo -/
theorem y_82 {Y : vi_Y} {b : Nat} (h : kY Y b) (hb : 82 < b) : Y.1 82 = 20 ∧ (Y.2.2 82 0).toNat = 83 := ⟨(h 82 (by omega) (by omega)).1, (by rw [(h 82 (by omega) (by omega)).2.2 0]; rfl)⟩
/-- byTwo.layers -/
theorem y_83 {Y : vi_Y} {b : Nat} (h : kY Y b) (hb : 83 < b) : Y.1 83 = 2 ∧ (Y.2.1 83 : Int) = 6 := ⟨(h 83 (by omega) (by omega)).1, (by rw [(h 83 (by omega) (by omega)).2.1]; rfl)⟩
/-- rest -/
theorem y_84 {Y : vi_Y} {b : Nat} (h : kY Y b) (hb : 84 < b) : Y.1 84 = 20 ∧ (Y.2.2 84 0).toNat = 85 := ⟨(h 84 (by omega) (by omega)).1, (by rw [(h 84 (by omega) (by omega)).2.2 0]; rfl)⟩
/-- rest.layers -/
theorem y_85 {Y : vi_Y} {b : Nat} (h : kY Y b) (hb : 85 < b) : Y.1 85 = 2 ∧ (Y.2.1 85 : Int) = 6 := ⟨(h 85 (by omega) (by omega)).1, (by rw [(h 85 (by omega) (by omega)).2.1]; rfl)⟩
/-- piece -/
theorem y_86 {Y : vi_Y} {b : Nat} (h : kY Y b) (hb : 86 < b) : Y.1 86 = 20 ∧ (Y.2.2 86 0).toNat = 87 := ⟨(h 86 (by omega) (by omega)).1, (by rw [(h 86 (by omega) (by omega)).2.2 0]; rfl)⟩
/-- piece.layers -/
theorem y_87 {Y : vi_Y} {b : Nat} (h : kY Y b) (hb : 87 < b) : Y.1 87 = 2 ∧ (Y.2.1 87 : Int) = 6 := ⟨(h 87 (by omega) (by omega)).1, (by rw [(h 87 (by omega) (by omega)).2.1]; rfl)⟩
/-- views -/
theorem y_88 {Y : vi_Y} {b : Nat} (h : kY Y b) (hb : 88 < b) : Y.1 88 = 30 ∧ (Y.2.2 88 0).toNat = 30 ∧ (Y.2.2 88 1).toNat = 89 ∧ (Y.2.2 88 2).toNat = 91 ∧ (Y.2.2 88 3).toNat = 93 := ⟨(h 88 (by omega) (by omega)).1, (by rw [(h 88 (by omega) (by omega)).2.2 0]; rfl), (by rw [(h 88 (by omega) (by omega)).2.2 1]; rfl), (by rw [(h 88 (by omega) (by omega)).2.2 2]; rfl), (by rw [(h 88 (by omega) (by omega)).2.2 3]; rfl)⟩
/-- most -/
theorem y_89 {Y : vi_Y} {b : Nat} (h : kY Y b) (hb : 89 < b) : Y.1 89 = 20 ∧ (Y.2.2 89 0).toNat = 90 := ⟨(h 89 (by omega) (by omega)).1, (by rw [(h 89 (by omega) (by omega)).2.2 0]; rfl)⟩
/-- most.layers -/
theorem y_90 {Y : vi_Y} {b : Nat} (h : kY Y b) (hb : 90 < b) : Y.1 90 = 2 ∧ (Y.2.1 90 : Int) = 6 := ⟨(h 90 (by omega) (by omega)).1, (by rw [(h 90 (by omega) (by omega)).2.1]; rfl)⟩
/-- rest -/
theorem y_91 {Y : vi_Y} {b : Nat} (h : kY Y b) (hb : 91 < b) : Y.1 91 = 20 ∧ (Y.2.2 91 0).toNat = 92 := ⟨(h 91 (by omega) (by omega)).1, (by rw [(h 91 (by omega) (by omega)).2.2 0]; rfl)⟩
/-- rest.layers -/
theorem y_92 {Y : vi_Y} {b : Nat} (h : kY Y b) (hb : 92 < b) : Y.1 92 = 2 ∧ (Y.2.1 92 : Int) = 6 := ⟨(h 92 (by omega) (by omega)).1, (by rw [(h 92 (by omega) (by omega)).2.1]; rfl)⟩
/-- piece -/
theorem y_93 {Y : vi_Y} {b : Nat} (h : kY Y b) (hb : 93 < b) : Y.1 93 = 20 ∧ (Y.2.2 93 0).toNat = 94 := ⟨(h 93 (by omega) (by omega)).1, (by rw [(h 93 (by omega) (by omega)).2.2 0]; rfl)⟩
/-- piece.layers -/
theorem y_94 {Y : vi_Y} {b : Nat} (h : kY Y b) (hb : 94 < b) : Y.1 94 = 2 ∧ (Y.2.1 94 : Int) = 6 := ⟨(h 94 (by omega) (by omega)).1, (by rw [(h 94 (by omega) (by omega)).2.1]; rfl)⟩
/-- best -/
theorem y_95 {Y : vi_Y} {b : Nat} (h : kY Y b) (hb : 95 < b) : Y.1 95 = 1 ∧ (Y.2.1 95 : Int) = 512 := ⟨(h 95 (by omega) (by omega)).1, (by rw [(h 95 (by omega) (by omega)).2.1]; rfl)⟩
/-- next -/
theorem y_96 {Y : vi_Y} {b : Nat} (h : kY Y b) (hb : 96 < b) : Y.1 96 = 1 ∧ (Y.2.1 96 : Int) = 512 := ⟨(h 96 (by omega) (by omega)).1, (by rw [(h 96 (by omega) (by omega)).2.1]; rfl)⟩
/-- paths -/
theorem y_97 {Y : vi_Y} {b : Nat} (h : kY Y b) (hb : 97 < b) : Y.1 97 = 25 ∧ (Y.2.2 97 0).toNat = 30 ∧ (Y.2.2 97 1).toNat = 60 ∧ (Y.2.2 97 2).toNat = 98 ∧ (Y.2.2 97 3).toNat = 99 ∧ (Y.2.2 97 4).toNat = 100 ∧ (Y.2.2 97 5).toNat = 101 := ⟨(h 97 (by omega) (by omega)).1, (by rw [(h 97 (by omega) (by omega)).2.2 0]; rfl), (by rw [(h 97 (by omega) (by omega)).2.2 1]; rfl), (by rw [(h 97 (by omega) (by omega)).2.2 2]; rfl), (by rw [(h 97 (by omega) (by omega)).2.2 3]; rfl), (by rw [(h 97 (by omega) (by omega)).2.2 4]; rfl), (by rw [(h 97 (by omega) (by omega)).2.2 5]; rfl)⟩
/-- distances -/
theorem y_98 {Y : vi_Y} {b : Nat} (h : kY Y b) (hb : 98 < b) : Y.1 98 = 1 ∧ (Y.2.1 98 : Int) = 216 := ⟨(h 98 (by omega) (by omega)).1, (by rw [(h 98 (by omega) (by omega)).2.1]; rfl)⟩
/-- queue -/
theorem y_99 {Y : vi_Y} {b : Nat} (h : kY Y b) (hb : 99 < b) : Y.1 99 = 1 ∧ (Y.2.1 99 : Int) = 216 := ⟨(h 99 (by omega) (by omega)).1, (by rw [(h 99 (by omega) (by omega)).2.1]; rfl)⟩
/-- path -/
theorem y_100 {Y : vi_Y} {b : Nat} (h : kY Y b) (hb : 100 < b) : Y.1 100 = 1 ∧ (Y.2.1 100 : Int) = 14 := ⟨(h 100 (by omega) (by omega)).1, (by rw [(h 100 (by omega) (by omega)).2.1]; rfl)⟩
/-- free -/
theorem y_101 {Y : vi_Y} {b : Nat} (h : kY Y b) (hb : 101 < b) : Y.1 101 = 20 ∧ (Y.2.2 101 0).toNat = 102 := ⟨(h 101 (by omega) (by omega)).1, (by rw [(h 101 (by omega) (by omega)).2.2 0]; rfl)⟩
/-- free.layers -/
theorem y_102 {Y : vi_Y} {b : Nat} (h : kY Y b) (hb : 102 < b) : Y.1 102 = 2 ∧ (Y.2.1 102 : Int) = 6 := ⟨(h 102 (by omega) (by omega)).1, (by rw [(h 102 (by omega) (by omega)).2.1]; rfl)⟩
/-- vast -/
theorem y_103 {Y : vi_Y} {b : Nat} (h : kY Y b) (hb : 103 < b) : Y.1 103 = 29 ∧ (Y.2.2 103 0).toNat = 30 ∧ (Y.2.2 103 1).toNat = 104 ∧ (Y.2.2 103 2).toNat = 105 ∧ (Y.2.2 103 3).toNat = 106 := ⟨(h 103 (by omega) (by omega)).1, (by rw [(h 103 (by omega) (by omega)).2.2 0]; rfl), (by rw [(h 103 (by omega) (by omega)).2.2 1]; rfl), (by rw [(h 103 (by omega) (by omega)).2.2 2]; rfl), (by rw [(h 103 (by omega) (by omega)).2.2 3]; rfl)⟩
/-- cellsOfKind -/
theorem y_104 {Y : vi_Y} {b : Nat} (h : kY Y b) (hb : 104 < b) : Y.1 104 = 1 ∧ (Y.2.1 104 : Int) = 10 := ⟨(h 104 (by omega) (by omega)).1, (by rw [(h 104 (by omega) (by omega)).2.1]; rfl)⟩
/-- placesOfKind -/
theorem y_105 {Y : vi_Y} {b : Nat} (h : kY Y b) (hb : 105 < b) : Y.1 105 = 1 ∧ (Y.2.1 105 : Int) = 10 := ⟨(h 105 (by omega) (by omega)).1, (by rw [(h 105 (by omega) (by omega)).2.1]; rfl)⟩
/-- suiting -/
theorem y_106 {Y : vi_Y} {b : Nat} (h : kY Y b) (hb : 106 < b) : Y.1 106 = 1 ∧ (Y.2.1 106 : Int) = 10 := ⟨(h 106 (by omega) (by omega)).1, (by rw [(h 106 (by omega) (by omega)).2.1]; rfl)⟩
/-- picks -/
theorem y_107 {Y : vi_Y} {b : Nat} (h : kY Y b) (hb : 107 < b) : Y.1 107 = 26 ∧ (Y.2.2 107 0).toNat = 30 ∧ (Y.2.2 107 1).toNat = 108 ∧ (Y.2.2 107 2).toNat = 109 ∧ (Y.2.2 107 3).toNat = 110 := ⟨(h 107 (by omega) (by omega)).1, (by rw [(h 107 (by omega) (by omega)).2.2 0]; rfl), (by rw [(h 107 (by omega) (by omega)).2.2 1]; rfl), (by rw [(h 107 (by omega) (by omega)).2.2 2]; rfl), (by rw [(h 107 (by omega) (by omega)).2.2 3]; rfl)⟩
/-- behind -/
theorem y_108 {Y : vi_Y} {b : Nat} (h : kY Y b) (hb : 108 < b) : Y.1 108 = 1 ∧ (Y.2.1 108 : Int) = 4096 := ⟨(h 108 (by omega) (by omega)).1, (by rw [(h 108 (by omega) (by omega)).2.1]; rfl)⟩
/-- first -/
theorem y_109 {Y : vi_Y} {b : Nat} (h : kY Y b) (hb : 109 < b) : Y.1 109 = 1 ∧ (Y.2.1 109 : Int) = 6 := ⟨(h 109 (by omega) (by omega)).1, (by rw [(h 109 (by omega) (by omega)).2.1]; rfl)⟩
/-- met -/
theorem y_110 {Y : vi_Y} {b : Nat} (h : kY Y b) (hb : 110 < b) : Y.1 110 = 1 ∧ (Y.2.1 110 : Int) = 8 := ⟨(h 110 (by omega) (by omega)).1, (by rw [(h 110 (by omega) (by omega)).2.1]; rfl)⟩
/-- refusals -/
theorem y_111 {Y : vi_Y} {b : Nat} (h : kY Y b) (hb : 111 < b) : Y.1 111 = 1 ∧ (Y.2.1 111 : Int) = 5 := ⟨(h 111 (by omega) (by omega)).1, (by rw [(h 111 (by omega) (by omega)).2.1]; rfl)⟩
theorem kR_31 {Y : vi_Y} {b : Nat} (h : kY Y b) (hb : 32 < b) : kR Y 31 16 := ⟨(y_31 h (by omega)).1, (y_31 h (by omega)).2.1, (y_31 h (by omega)).2.2, (y_32 h (by omega)).1, (y_32 h (by omega)).2, by omega⟩
theorem kR_33 {Y : vi_Y} {b : Nat} (h : kY Y b) (hb : 34 < b) : kR Y 33 8 := ⟨(y_33 h (by omega)).1, (y_33 h (by omega)).2.1, (y_33 h (by omega)).2.2, (y_34 h (by omega)).1, (y_34 h (by omega)).2, by omega⟩
theorem kR_35 {Y : vi_Y} {b : Nat} (h : kY Y b) (hb : 36 < b) : kR Y 35 8 := ⟨(y_35 h (by omega)).1, (y_35 h (by omega)).2.1, (y_35 h (by omega)).2.2, (y_36 h (by omega)).1, (y_36 h (by omega)).2, by omega⟩
theorem kR_41 {Y : vi_Y} {b : Nat} (h : kY Y b) (hb : 42 < b) : kR Y 41 16 := ⟨(y_41 h (by omega)).1, (y_41 h (by omega)).2.1, (y_41 h (by omega)).2.2, (y_42 h (by omega)).1, (y_42 h (by omega)).2, by omega⟩
theorem kR_43 {Y : vi_Y} {b : Nat} (h : kY Y b) (hb : 44 < b) : kR Y 43 8 := ⟨(y_43 h (by omega)).1, (y_43 h (by omega)).2.1, (y_43 h (by omega)).2.2, (y_44 h (by omega)).1, (y_44 h (by omega)).2, by omega⟩
theorem kR_45 {Y : vi_Y} {b : Nat} (h : kY Y b) (hb : 46 < b) : kR Y 45 8 := ⟨(y_45 h (by omega)).1, (y_45 h (by omega)).2.1, (y_45 h (by omega)).2.2, (y_46 h (by omega)).1, (y_46 h (by omega)).2, by omega⟩
theorem kR_51 {Y : vi_Y} {b : Nat} (h : kY Y b) (hb : 52 < b) : kR Y 51 16 := ⟨(y_51 h (by omega)).1, (y_51 h (by omega)).2.1, (y_51 h (by omega)).2.2, (y_52 h (by omega)).1, (y_52 h (by omega)).2, by omega⟩
theorem kR_53 {Y : vi_Y} {b : Nat} (h : kY Y b) (hb : 54 < b) : kR Y 53 8 := ⟨(y_53 h (by omega)).1, (y_53 h (by omega)).2.1, (y_53 h (by omega)).2.2, (y_54 h (by omega)).1, (y_54 h (by omega)).2, by omega⟩
theorem kR_55 {Y : vi_Y} {b : Nat} (h : kY Y b) (hb : 56 < b) : kR Y 55 8 := ⟨(y_55 h (by omega)).1, (y_55 h (by omega)).2.1, (y_55 h (by omega)).2.2, (y_56 h (by omega)).1, (y_56 h (by omega)).2, by omega⟩
theorem kC_63 {Y : vi_Y} {b : Nat} (h : kY Y b) (hb : 64 < b) : kC Y 63 := ⟨(y_63 h (by omega)).1, (y_63 h (by omega)).2, (y_64 h (by omega)).1, (y_64 h (by omega)).2⟩
theorem kC_65 {Y : vi_Y} {b : Nat} (h : kY Y b) (hb : 66 < b) : kC Y 65 := ⟨(y_65 h (by omega)).1, (y_65 h (by omega)).2, (y_66 h (by omega)).1, (y_66 h (by omega)).2⟩
theorem kC_67 {Y : vi_Y} {b : Nat} (h : kY Y b) (hb : 68 < b) : kC Y 67 := ⟨(y_67 h (by omega)).1, (y_67 h (by omega)).2, (y_68 h (by omega)).1, (y_68 h (by omega)).2⟩
theorem kC_69 {Y : vi_Y} {b : Nat} (h : kY Y b) (hb : 70 < b) : kC Y 69 := ⟨(y_69 h (by omega)).1, (y_69 h (by omega)).2, (y_70 h (by omega)).1, (y_70 h (by omega)).2⟩
theorem kC_71 {Y : vi_Y} {b : Nat} (h : kY Y b) (hb : 72 < b) : kC Y 71 := ⟨(y_71 h (by omega)).1, (y_71 h (by omega)).2, (y_72 h (by omega)).1, (y_72 h (by omega)).2⟩
theorem kC_80 {Y : vi_Y} {b : Nat} (h : kY Y b) (hb : 81 < b) : kC Y 80 := ⟨(y_80 h (by omega)).1, (y_80 h (by omega)).2, (y_81 h (by omega)).1, (y_81 h (by omega)).2⟩
theorem kC_82 {Y : vi_Y} {b : Nat} (h : kY Y b) (hb : 83 < b) : kC Y 82 := ⟨(y_82 h (by omega)).1, (y_82 h (by omega)).2, (y_83 h (by omega)).1, (y_83 h (by omega)).2⟩
theorem kC_84 {Y : vi_Y} {b : Nat} (h : kY Y b) (hb : 85 < b) : kC Y 84 := ⟨(y_84 h (by omega)).1, (y_84 h (by omega)).2, (y_85 h (by omega)).1, (y_85 h (by omega)).2⟩
theorem kC_86 {Y : vi_Y} {b : Nat} (h : kY Y b) (hb : 87 < b) : kC Y 86 := ⟨(y_86 h (by omega)).1, (y_86 h (by omega)).2, (y_87 h (by omega)).1, (y_87 h (by omega)).2⟩
theorem kC_89 {Y : vi_Y} {b : Nat} (h : kY Y b) (hb : 90 < b) : kC Y 89 := ⟨(y_89 h (by omega)).1, (y_89 h (by omega)).2, (y_90 h (by omega)).1, (y_90 h (by omega)).2⟩
theorem kC_91 {Y : vi_Y} {b : Nat} (h : kY Y b) (hb : 92 < b) : kC Y 91 := ⟨(y_91 h (by omega)).1, (y_91 h (by omega)).2, (y_92 h (by omega)).1, (y_92 h (by omega)).2⟩
theorem kC_93 {Y : vi_Y} {b : Nat} (h : kY Y b) (hb : 94 < b) : kC Y 93 := ⟨(y_93 h (by omega)).1, (y_93 h (by omega)).2, (y_94 h (by omega)).1, (y_94 h (by omega)).2⟩
theorem kC_101 {Y : vi_Y} {b : Nat} (h : kY Y b) (hb : 102 < b) : kC Y 101 := ⟨(y_101 h (by omega)).1, (y_101 h (by omega)).2, (y_102 h (by omega)).1, (y_102 h (by omega)).2⟩
theorem kH_30 {Y : vi_Y} {b : Nat} (h : kY Y b) (hb : 39 < b) : kH Y 30 := ⟨(y_30 h (by omega)).1, ⟨(y_30 h (by omega)).2.1, kR_31 h (by omega)⟩, ⟨(y_30 h (by omega)).2.2.1, kR_33 h (by omega)⟩, ⟨(y_30 h (by omega)).2.2.2.1, kR_35 h (by omega)⟩, ⟨(y_30 h (by omega)).2.2.2.2.1, (y_37 h (by omega)).1, (y_37 h (by omega)).2⟩, ⟨(y_30 h (by omega)).2.2.2.2.2.1, (y_38 h (by omega)).1, (y_38 h (by omega)).2⟩, ⟨(y_30 h (by omega)).2.2.2.2.2.2, (y_39 h (by omega)).1, (y_39 h (by omega)).2⟩⟩
theorem kH_40 {Y : vi_Y} {b : Nat} (h : kY Y b) (hb : 49 < b) : kH Y 40 := ⟨(y_40 h (by omega)).1, ⟨(y_40 h (by omega)).2.1, kR_41 h (by omega)⟩, ⟨(y_40 h (by omega)).2.2.1, kR_43 h (by omega)⟩, ⟨(y_40 h (by omega)).2.2.2.1, kR_45 h (by omega)⟩, ⟨(y_40 h (by omega)).2.2.2.2.1, (y_47 h (by omega)).1, (y_47 h (by omega)).2⟩, ⟨(y_40 h (by omega)).2.2.2.2.2.1, (y_48 h (by omega)).1, (y_48 h (by omega)).2⟩, ⟨(y_40 h (by omega)).2.2.2.2.2.2, (y_49 h (by omega)).1, (y_49 h (by omega)).2⟩⟩
theorem kH_50 {Y : vi_Y} {b : Nat} (h : kY Y b) (hb : 59 < b) : kH Y 50 := ⟨(y_50 h (by omega)).1, ⟨(y_50 h (by omega)).2.1, kR_51 h (by omega)⟩, ⟨(y_50 h (by omega)).2.2.1, kR_53 h (by omega)⟩, ⟨(y_50 h (by omega)).2.2.2.1, kR_55 h (by omega)⟩, ⟨(y_50 h (by omega)).2.2.2.2.1, (y_57 h (by omega)).1, (y_57 h (by omega)).2⟩, ⟨(y_50 h (by omega)).2.2.2.2.2.1, (y_58 h (by omega)).1, (y_58 h (by omega)).2⟩, ⟨(y_50 h (by omega)).2.2.2.2.2.2, (y_59 h (by omega)).1, (y_59 h (by omega)).2⟩⟩
