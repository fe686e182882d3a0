/-! THE SHAPE OF THE HEAP behind the start: kinds and sizes, fixed references, fixed values -/
def LayS (L : Nat) (S : A3 → Nat × Nat) : Prop :=
  (S (1, 0, 0) = (1, 6)) ∧
  (∀ p, p < 9 → S (2, p, 0) = (1, 4)) ∧
  (∀ p, p < 9 → ∀ i, i < 14 → S (3, p, i) = (1, 3)) ∧
  (∀ p, p < 9 → ∀ i, i < 14 → S (4, p, i) = (4, 51)) ∧
  (∀ p, p < 9 → ∀ i, i < 8 → S (5, p, i) = (1, 5)) ∧
  (∀ p, p < 9 → S (6, p, 0) = (6, 14)) ∧
  (∀ p, p < 9 → S (7, p, 0) = (7, 8)) ∧
  (∀ p, p < 9 → S (8, p, 0) = (2, 8)) ∧
  (S (9, 0, 0) = (1, 1)) ∧
  (S (10, 0, 0) = (8, 7)) ∧
  (S (11, 0, 0) = (1, 2)) ∧
  (S (12, 0, 0) = (3, 60)) ∧
  (S (13, 0, 0) = (2, 100)) ∧
  (S (14, 0, 0) = (1, 0)) ∧
  (S (15, 0, 0) = (2, 5)) ∧
  (S (20, 0, 0) = (1, 7)) ∧
  (S (21, 0, 0) = (2, 14)) ∧
  (S (21, 1, 0) = (2, 14)) ∧
  (S (21, 2, 0) = (2, 14)) ∧
  (S (21, 3, 0) = (2, 14)) ∧
  (S (21, 4, 0) = (2, 14)) ∧
  (S (21, 5, 0) = (2, 1414)) ∧
  (S (21, 6, 0) = (2, 8)) ∧
  (S (21, 7, 0) = (2, 8)) ∧
  (S (21, 8, 0) = (2, 8)) ∧
  (S (21, 9, 0) = (2, 8)) ∧
  (S (21, 10, 0) = (2, 8)) ∧
  (S (21, 11, 0) = (2, 8)) ∧
  (S (21, 12, 0) = (2, 8)) ∧
  (S (21, 13, 0) = (2, 8)) ∧
  (S (21, 14, 0) = (2, 8)) ∧
  (S (21, 15, 0) = (2, 8)) ∧
  (S (21, 16, 0) = (3, 60)) ∧
  (S (21, 17, 0) = (3, 20)) ∧
  (S (21, 18, 0) = (2, 80)) ∧
  (S (21, 19, 0) = (2, 9414)) ∧
  (S (21, 20, 0) = (2, 1569)) ∧
  (S (21, 21, 0) = (2, 1569)) ∧
  (S (30, 0, 0) = (4, 1)) ∧
  (S (31, 0, 0) = (5, 1)) ∧
  (S (40, 0, 0) = (9, L)) ∧
  (S (41, 0, 0) = (9, 15)) ∧
  (S (41, 1, 0) = (9, 12)) ∧
  (S (41, 2, 0) = (9, 15)) ∧
  (S (41, 3, 0) = (9, 9)) ∧
  (∀ p, p < 5 → S (42, p, 0) = (11, 10)) ∧
  (S (43, 0, 0) = (10, 0)) ∧
  (S (43, 1, 0) = (10, 6)) ∧
  (S (43, 2, 0) = (10, 10)) ∧
  (S (43, 3, 0) = (10, 2)) ∧
  (S (43, 4, 0) = (10, 4)) ∧
  (S (51, 0, 0) = (12, 0))
def LayR (R : A3 → Nat → Option A3) : Prop :=
  (R (1, 0, 0) 0 = some (2, 0, 0)) ∧
  (R (1, 0, 0) 1 = some (2, 1, 0)) ∧
  (R (1, 0, 0) 2 = some (9, 0, 0)) ∧
  (R (1, 0, 0) 3 = some (11, 0, 0)) ∧
  (R (1, 0, 0) 4 = some (14, 0, 0)) ∧
  (∀ p, p < 9 → R (2, p, 0) 0 = some (6, p, 0)) ∧
  (∀ p, p < 9 → R (2, p, 0) 1 = some (7, p, 0)) ∧
  (∀ p, p < 9 → R (2, p, 0) 2 = some (8, p, 0)) ∧
  (∀ p, p < 9 → ∀ i, i < 14 → R (3, p, i) 1 = some (4, p, i)) ∧
  (∀ p, p < 9 → ∀ i, i < 14 → R (6, p, 0) i = some (3, p, i)) ∧
  (∀ p, p < 9 → ∀ i, i < 8 → R (7, p, 0) i = some (5, p, i)) ∧
  (R (9, 0, 0) 0 = some (10, 0, 0)) ∧
  (∀ i, i < 7 → R (10, 0, 0) i = some (2, i + 2, 0)) ∧
  (R (11, 0, 0) 0 = some (12, 0, 0)) ∧
  (R (11, 0, 0) 1 = some (13, 0, 0)) ∧
  (R (14, 0, 0) 0 = some (15, 0, 0)) ∧
  (R (20, 0, 0) 1 = some (21, 0, 0)) ∧
  (R (20, 0, 0) 2 = some (21, 1, 0)) ∧
  (R (20, 0, 0) 3 = some (21, 2, 0)) ∧
  (R (20, 0, 0) 4 = some (21, 3, 0)) ∧
  (R (20, 0, 0) 5 = some (21, 4, 0)) ∧
  (R (20, 0, 0) 6 = some (21, 5, 0)) ∧
  (R (20, 0, 0) 9 = some (21, 6, 0)) ∧
  (R (20, 0, 0) 10 = some (21, 7, 0)) ∧
  (R (20, 0, 0) 11 = some (21, 8, 0)) ∧
  (R (20, 0, 0) 12 = some (21, 9, 0)) ∧
  (R (20, 0, 0) 13 = some (21, 10, 0)) ∧
  (R (20, 0, 0) 14 = some (21, 11, 0)) ∧
  (R (20, 0, 0) 15 = some (21, 12, 0)) ∧
  (R (20, 0, 0) 16 = some (21, 13, 0)) ∧
  (R (20, 0, 0) 17 = some (21, 14, 0)) ∧
  (R (20, 0, 0) 18 = some (21, 15, 0)) ∧
  (R (20, 0, 0) 23 = some (21, 16, 0)) ∧
  (R (20, 0, 0) 24 = some (21, 17, 0)) ∧
  (R (20, 0, 0) 25 = some (21, 18, 0)) ∧
  (R (20, 0, 0) 30 = some (21, 19, 0)) ∧
  (R (20, 0, 0) 31 = some (21, 20, 0)) ∧
  (R (20, 0, 0) 32 = some (21, 21, 0)) ∧
  (∀ p, p < 5 → R (42, p, 0) 0 = some (43, p, 0)) ∧
  (R (51, 0, 0) 0 = some (41, 0, 0)) ∧
  (R (51, 0, 0) 1 = some (41, 1, 0)) ∧
  (R (51, 0, 0) 2 = some (41, 2, 0)) ∧
  (R (51, 0, 0) 3 = some (41, 3, 0))
def LayV (xs : Nat → Int32) (I : A3 → Nat → Int32) : Prop :=
  (∀ j, I (40, 0, 0) j = xs j) ∧
  (∀ p, ∀ j, I (41, p, 0) j = (sVal p).getD j 0) ∧
  (∀ p, I (42, p, 0) 1 = 0) ∧
  (∀ p, ∀ j, I (43, p, 0) j = (bVal p).getD j 0)
def Lay (L : Nat) (xs : Nat → Int32) (h : Hp) : Prop := LayS L (gS h) ∧ LayR (gR h) ∧ LayV xs (gI h)
section LayFacts
variable {L : Nat} {xs : Nat → Int32} {h : Hp}
theorem y_S1 (hL : Lay L xs h) : gS h (1, 0, 0) = (1, 6) := hL.1.1
theorem y_S2 (hL : Lay L xs h) {p : Nat} (h0 : p < 9) : gS h (2, p, 0) = (1, 4) := hL.1.2.1 p h0
theorem y_S3 (hL : Lay L xs h) {p : Nat} {i : Nat} (h0 : p < 9) (h1 : i < 14) : gS h (3, p, i) = (1, 3) := hL.1.2.2.1 p h0 i h1
theorem y_S4 (hL : Lay L xs h) {p : Nat} {i : Nat} (h0 : p < 9) (h1 : i < 14) : gS h (4, p, i) = (4, 51) := hL.1.2.2.2.1 p h0 i h1
theorem y_S5 (hL : Lay L xs h) {p : Nat} {i : Nat} (h0 : p < 9) (h1 : i < 8) : gS h (5, p, i) = (1, 5) := hL.1.2.2.2.2.1 p h0 i h1
theorem y_S6 (hL : Lay L xs h) {p : Nat} (h0 : p < 9) : gS h (6, p, 0) = (6, 14) := hL.1.2.2.2.2.2.1 p h0
theorem y_S7 (hL : Lay L xs h) {p : Nat} (h0 : p < 9) : gS h (7, p, 0) = (7, 8) := hL.1.2.2.2.2.2.2.1 p h0
theorem y_S8 (hL : Lay L xs h) {p : Nat} (h0 : p < 9) : gS h (8, p, 0) = (2, 8) := hL.1.2.2.2.2.2.2.2.1 p h0
theorem y_S9 (hL : Lay L xs h) : gS h (9, 0, 0) = (1, 1) := hL.1.2.2.2.2.2.2.2.2.1
theorem y_S10 (hL : Lay L xs h) : gS h (10, 0, 0) = (8, 7) := hL.1.2.2.2.2.2.2.2.2.2.1
theorem y_S11 (hL : Lay L xs h) : gS h (11, 0, 0) = (1, 2) := hL.1.2.2.2.2.2.2.2.2.2.2.1
theorem y_S12 (hL : Lay L xs h) : gS h (12, 0, 0) = (3, 60) := hL.1.2.2.2.2.2.2.2.2.2.2.2.1
theorem y_S13 (hL : Lay L xs h) : gS h (13, 0, 0) = (2, 100) := hL.1.2.2.2.2.2.2.2.2.2.2.2.2.1
theorem y_S14 (hL : Lay L xs h) : gS h (14, 0, 0) = (1, 0) := hL.1.2.2.2.2.2.2.2.2.2.2.2.2.2.1
theorem y_S15 (hL : Lay L xs h) : gS h (15, 0, 0) = (2, 5) := hL.1.2.2.2.2.2.2.2.2.2.2.2.2.2.2.1
theorem y_S20 (hL : Lay L xs h) : gS h (20, 0, 0) = (1, 7) := hL.1.2.2.2.2.2.2.2.2.2.2.2.2.2.2.2.1
theorem y_M_rank (hL : Lay L xs h) : gS h (21, 0, 0) = (2, 14) := hL.1.2.2.2.2.2.2.2.2.2.2.2.2.2.2.2.2.1
theorem y_M_fields (hL : Lay L xs h) : gS h (21, 1, 0) = (2, 14) := hL.1.2.2.2.2.2.2.2.2.2.2.2.2.2.2.2.2.2.1
theorem y_M_home (hL : Lay L xs h) : gS h (21, 2, 0) = (2, 14) := hL.1.2.2.2.2.2.2.2.2.2.2.2.2.2.2.2.2.2.2.1
theorem y_M_limit (hL : Lay L xs h) : gS h (21, 3, 0) = (2, 14) := hL.1.2.2.2.2.2.2.2.2.2.2.2.2.2.2.2.2.2.2.2.1
theorem y_M_conflicts (hL : Lay L xs h) : gS h (21, 4, 0) = (2, 14) := hL.1.2.2.2.2.2.2.2.2.2.2.2.2.2.2.2.2.2.2.2.2.1
theorem y_M_busy (hL : Lay L xs h) : gS h (21, 5, 0) = (2, 1414) := hL.1.2.2.2.2.2.2.2.2.2.2.2.2.2.2.2.2.2.2.2.2.2.1
theorem y_M_kind (hL : Lay L xs h) : gS h (21, 6, 0) = (2, 8) := hL.1.2.2.2.2.2.2.2.2.2.2.2.2.2.2.2.2.2.2.2.2.2.2.1
theorem y_M_field (hL : Lay L xs h) : gS h (21, 7, 0) = (2, 8) := hL.1.2.2.2.2.2.2.2.2.2.2.2.2.2.2.2.2.2.2.2.2.2.2.2.1
theorem y_M_department (hL : Lay L xs h) : gS h (21, 8, 0) = (2, 8) := hL.1.2.2.2.2.2.2.2.2.2.2.2.2.2.2.2.2.2.2.2.2.2.2.2.2.1
theorem y_M_supervisor (hL : Lay L xs h) : gS h (21, 9, 0) = (2, 8) := hL.1.2.2.2.2.2.2.2.2.2.2.2.2.2.2.2.2.2.2.2.2.2.2.2.2.2.1
theorem y_M_stage (hL : Lay L xs h) : gS h (21, 10, 0) = (2, 8) := hL.1.2.2.2.2.2.2.2.2.2.2.2.2.2.2.2.2.2.2.2.2.2.2.2.2.2.2.1
theorem y_M_members (hL : Lay L xs h) : gS h (21, 11, 0) = (2, 8) := hL.1.2.2.2.2.2.2.2.2.2.2.2.2.2.2.2.2.2.2.2.2.2.2.2.2.2.2.2.1
theorem y_M_room (hL : Lay L xs h) : gS h (21, 12, 0) = (2, 8) := hL.1.2.2.2.2.2.2.2.2.2.2.2.2.2.2.2.2.2.2.2.2.2.2.2.2.2.2.2.2.1
theorem y_M_dayOf (hL : Lay L xs h) : gS h (21, 13, 0) = (2, 8) := hL.1.2.2.2.2.2.2.2.2.2.2.2.2.2.2.2.2.2.2.2.2.2.2.2.2.2.2.2.2.2.1
theorem y_M_hourOf (hL : Lay L xs h) : gS h (21, 14, 0) = (2, 8) := hL.1.2.2.2.2.2.2.2.2.2.2.2.2.2.2.2.2.2.2.2.2.2.2.2.2.2.2.2.2.2.2.1
theorem y_M_line (hL : Lay L xs h) : gS h (21, 15, 0) = (2, 8) := hL.1.2.2.2.2.2.2.2.2.2.2.2.2.2.2.2.2.2.2.2.2.2.2.2.2.2.2.2.2.2.2.2.1
theorem y_M_input (hL : Lay L xs h) : gS h (21, 16, 0) = (3, 60) := hL.1.2.2.2.2.2.2.2.2.2.2.2.2.2.2.2.2.2.2.2.2.2.2.2.2.2.2.2.2.2.2.2.2.1
theorem y_M_word (hL : Lay L xs h) : gS h (21, 17, 0) = (3, 20) := hL.1.2.2.2.2.2.2.2.2.2.2.2.2.2.2.2.2.2.2.2.2.2.2.2.2.2.2.2.2.2.2.2.2.2.1
theorem y_M_numbers (hL : Lay L xs h) : gS h (21, 18, 0) = (2, 80) := hL.1.2.2.2.2.2.2.2.2.2.2.2.2.2.2.2.2.2.2.2.2.2.2.2.2.2.2.2.2.2.2.2.2.2.2.1
theorem y_M_earlier (hL : Lay L xs h) : gS h (21, 19, 0) = (2, 9414) := hL.1.2.2.2.2.2.2.2.2.2.2.2.2.2.2.2.2.2.2.2.2.2.2.2.2.2.2.2.2.2.2.2.2.2.2.2.1
theorem y_M_saved (hL : Lay L xs h) : gS h (21, 20, 0) = (2, 1569) := hL.1.2.2.2.2.2.2.2.2.2.2.2.2.2.2.2.2.2.2.2.2.2.2.2.2.2.2.2.2.2.2.2.2.2.2.2.2.1
theorem y_M_tried (hL : Lay L xs h) : gS h (21, 21, 0) = (2, 1569) := hL.1.2.2.2.2.2.2.2.2.2.2.2.2.2.2.2.2.2.2.2.2.2.2.2.2.2.2.2.2.2.2.2.2.2.2.2.2.2.1
theorem y_S30 (hL : Lay L xs h) : gS h (30, 0, 0) = (4, 1) := hL.1.2.2.2.2.2.2.2.2.2.2.2.2.2.2.2.2.2.2.2.2.2.2.2.2.2.2.2.2.2.2.2.2.2.2.2.2.2.2.1
theorem y_S31 (hL : Lay L xs h) : gS h (31, 0, 0) = (5, 1) := hL.1.2.2.2.2.2.2.2.2.2.2.2.2.2.2.2.2.2.2.2.2.2.2.2.2.2.2.2.2.2.2.2.2.2.2.2.2.2.2.2.1
theorem y_S40 (hL : Lay L xs h) : gS h (40, 0, 0) = (9, L) := hL.1.2.2.2.2.2.2.2.2.2.2.2.2.2.2.2.2.2.2.2.2.2.2.2.2.2.2.2.2.2.2.2.2.2.2.2.2.2.2.2.2.1
theorem y_S41_0 (hL : Lay L xs h) : gS h (41, 0, 0) = (9, 15) := hL.1.2.2.2.2.2.2.2.2.2.2.2.2.2.2.2.2.2.2.2.2.2.2.2.2.2.2.2.2.2.2.2.2.2.2.2.2.2.2.2.2.2.1
theorem y_S41_1 (hL : Lay L xs h) : gS h (41, 1, 0) = (9, 12) := hL.1.2.2.2.2.2.2.2.2.2.2.2.2.2.2.2.2.2.2.2.2.2.2.2.2.2.2.2.2.2.2.2.2.2.2.2.2.2.2.2.2.2.2.1
theorem y_S41_2 (hL : Lay L xs h) : gS h (41, 2, 0) = (9, 15) := hL.1.2.2.2.2.2.2.2.2.2.2.2.2.2.2.2.2.2.2.2.2.2.2.2.2.2.2.2.2.2.2.2.2.2.2.2.2.2.2.2.2.2.2.2.1
theorem y_S41_3 (hL : Lay L xs h) : gS h (41, 3, 0) = (9, 9) := hL.1.2.2.2.2.2.2.2.2.2.2.2.2.2.2.2.2.2.2.2.2.2.2.2.2.2.2.2.2.2.2.2.2.2.2.2.2.2.2.2.2.2.2.2.2.1
theorem y_S42 (hL : Lay L xs h) {p : Nat} (h0 : p < 5) : gS h (42, p, 0) = (11, 10) := hL.1.2.2.2.2.2.2.2.2.2.2.2.2.2.2.2.2.2.2.2.2.2.2.2.2.2.2.2.2.2.2.2.2.2.2.2.2.2.2.2.2.2.2.2.2.2.1 p h0
theorem y_S43_0 (hL : Lay L xs h) : gS h (43, 0, 0) = (10, 0) := hL.1.2.2.2.2.2.2.2.2.2.2.2.2.2.2.2.2.2.2.2.2.2.2.2.2.2.2.2.2.2.2.2.2.2.2.2.2.2.2.2.2.2.2.2.2.2.2.1
theorem y_S43_1 (hL : Lay L xs h) : gS h (43, 1, 0) = (10, 6) := hL.1.2.2.2.2.2.2.2.2.2.2.2.2.2.2.2.2.2.2.2.2.2.2.2.2.2.2.2.2.2.2.2.2.2.2.2.2.2.2.2.2.2.2.2.2.2.2.2.1
theorem y_S43_2 (hL : Lay L xs h) : gS h (43, 2, 0) = (10, 10) := hL.1.2.2.2.2.2.2.2.2.2.2.2.2.2.2.2.2.2.2.2.2.2.2.2.2.2.2.2.2.2.2.2.2.2.2.2.2.2.2.2.2.2.2.2.2.2.2.2.2.1
theorem y_S43_3 (hL : Lay L xs h) : gS h (43, 3, 0) = (10, 2) := hL.1.2.2.2.2.2.2.2.2.2.2.2.2.2.2.2.2.2.2.2.2.2.2.2.2.2.2.2.2.2.2.2.2.2.2.2.2.2.2.2.2.2.2.2.2.2.2.2.2.2.1
theorem y_S43_4 (hL : Lay L xs h) : gS h (43, 4, 0) = (10, 4) := hL.1.2.2.2.2.2.2.2.2.2.2.2.2.2.2.2.2.2.2.2.2.2.2.2.2.2.2.2.2.2.2.2.2.2.2.2.2.2.2.2.2.2.2.2.2.2.2.2.2.2.2.1
theorem y_S51 (hL : Lay L xs h) : gS h (51, 0, 0) = (12, 0) := hL.1.2.2.2.2.2.2.2.2.2.2.2.2.2.2.2.2.2.2.2.2.2.2.2.2.2.2.2.2.2.2.2.2.2.2.2.2.2.2.2.2.2.2.2.2.2.2.2.2.2.2.2
theorem y_R1_0 (hL : Lay L xs h) : gR h (1, 0, 0) 0 = some (2, 0, 0) := hL.2.1.1
theorem y_R1_1 (hL : Lay L xs h) : gR h (1, 0, 0) 1 = some (2, 1, 0) := hL.2.1.2.1
theorem y_R1_2 (hL : Lay L xs h) : gR h (1, 0, 0) 2 = some (9, 0, 0) := hL.2.1.2.2.1
theorem y_R1_3 (hL : Lay L xs h) : gR h (1, 0, 0) 3 = some (11, 0, 0) := hL.2.1.2.2.2.1
theorem y_R1_4 (hL : Lay L xs h) : gR h (1, 0, 0) 4 = some (14, 0, 0) := hL.2.1.2.2.2.2.1
theorem y_R2_0 (hL : Lay L xs h) {p : Nat} (h0 : p < 9) : gR h (2, p, 0) 0 = some (6, p, 0) := hL.2.1.2.2.2.2.2.1 p h0
theorem y_R2_1 (hL : Lay L xs h) {p : Nat} (h0 : p < 9) : gR h (2, p, 0) 1 = some (7, p, 0) := hL.2.1.2.2.2.2.2.2.1 p h0
theorem y_R2_2 (hL : Lay L xs h) {p : Nat} (h0 : p < 9) : gR h (2, p, 0) 2 = some (8, p, 0) := hL.2.1.2.2.2.2.2.2.2.1 p h0
theorem y_R3 (hL : Lay L xs h) {p : Nat} {i : Nat} (h0 : p < 9) (h1 : i < 14) : gR h (3, p, i) 1 = some (4, p, i) := hL.2.1.2.2.2.2.2.2.2.2.1 p h0 i h1
theorem y_R6 (hL : Lay L xs h) {p : Nat} {i : Nat} (h0 : p < 9) (h1 : i < 14) : gR h (6, p, 0) i = some (3, p, i) := hL.2.1.2.2.2.2.2.2.2.2.2.1 p h0 i h1
theorem y_R7 (hL : Lay L xs h) {p : Nat} {i : Nat} (h0 : p < 9) (h1 : i < 8) : gR h (7, p, 0) i = some (5, p, i) := hL.2.1.2.2.2.2.2.2.2.2.2.2.1 p h0 i h1
theorem y_R9 (hL : Lay L xs h) : gR h (9, 0, 0) 0 = some (10, 0, 0) := hL.2.1.2.2.2.2.2.2.2.2.2.2.2.1
theorem y_R10 (hL : Lay L xs h) {i : Nat} (h0 : i < 7) : gR h (10, 0, 0) i = some (2, i + 2, 0) := hL.2.1.2.2.2.2.2.2.2.2.2.2.2.2.1 i h0
theorem y_R11_0 (hL : Lay L xs h) : gR h (11, 0, 0) 0 = some (12, 0, 0) := hL.2.1.2.2.2.2.2.2.2.2.2.2.2.2.2.1
theorem y_R11_1 (hL : Lay L xs h) : gR h (11, 0, 0) 1 = some (13, 0, 0) := hL.2.1.2.2.2.2.2.2.2.2.2.2.2.2.2.2.1
theorem y_R14 (hL : Lay L xs h) : gR h (14, 0, 0) 0 = some (15, 0, 0) := hL.2.1.2.2.2.2.2.2.2.2.2.2.2.2.2.2.2.1
theorem y_F_rank (hL : Lay L xs h) : gR h (20, 0, 0) 1 = some (21, 0, 0) := hL.2.1.2.2.2.2.2.2.2.2.2.2.2.2.2.2.2.2.1
theorem y_F_fields (hL : Lay L xs h) : gR h (20, 0, 0) 2 = some (21, 1, 0) := hL.2.1.2.2.2.2.2.2.2.2.2.2.2.2.2.2.2.2.2.1
theorem y_F_home (hL : Lay L xs h) : gR h (20, 0, 0) 3 = some (21, 2, 0) := hL.2.1.2.2.2.2.2.2.2.2.2.2.2.2.2.2.2.2.2.2.1
theorem y_F_limit (hL : Lay L xs h) : gR h (20, 0, 0) 4 = some (21, 3, 0) := hL.2.1.2.2.2.2.2.2.2.2.2.2.2.2.2.2.2.2.2.2.2.1
theorem y_F_conflicts (hL : Lay L xs h) : gR h (20, 0, 0) 5 = some (21, 4, 0) := hL.2.1.2.2.2.2.2.2.2.2.2.2.2.2.2.2.2.2.2.2.2.2.1
theorem y_F_busy (hL : Lay L xs h) : gR h (20, 0, 0) 6 = some (21, 5, 0) := hL.2.1.2.2.2.2.2.2.2.2.2.2.2.2.2.2.2.2.2.2.2.2.2.1
theorem y_F_kind (hL : Lay L xs h) : gR h (20, 0, 0) 9 = some (21, 6, 0) := hL.2.1.2.2.2.2.2.2.2.2.2.2.2.2.2.2.2.2.2.2.2.2.2.2.1
theorem y_F_field (hL : Lay L xs h) : gR h (20, 0, 0) 10 = some (21, 7, 0) := hL.2.1.2.2.2.2.2.2.2.2.2.2.2.2.2.2.2.2.2.2.2.2.2.2.2.1
theorem y_F_department (hL : Lay L xs h) : gR h (20, 0, 0) 11 = some (21, 8, 0) := hL.2.1.2.2.2.2.2.2.2.2.2.2.2.2.2.2.2.2.2.2.2.2.2.2.2.2.1
theorem y_F_supervisor (hL : Lay L xs h) : gR h (20, 0, 0) 12 = some (21, 9, 0) := hL.2.1.2.2.2.2.2.2.2.2.2.2.2.2.2.2.2.2.2.2.2.2.2.2.2.2.2.1
theorem y_F_stage (hL : Lay L xs h) : gR h (20, 0, 0) 13 = some (21, 10, 0) := hL.2.1.2.2.2.2.2.2.2.2.2.2.2.2.2.2.2.2.2.2.2.2.2.2.2.2.2.2.1
theorem y_F_members (hL : Lay L xs h) : gR h (20, 0, 0) 14 = some (21, 11, 0) := hL.2.1.2.2.2.2.2.2.2.2.2.2.2.2.2.2.2.2.2.2.2.2.2.2.2.2.2.2.2.1
theorem y_F_room (hL : Lay L xs h) : gR h (20, 0, 0) 15 = some (21, 12, 0) := hL.2.1.2.2.2.2.2.2.2.2.2.2.2.2.2.2.2.2.2.2.2.2.2.2.2.2.2.2.2.2.1
theorem y_F_dayOf (hL : Lay L xs h) : gR h (20, 0, 0) 16 = some (21, 13, 0) := hL.2.1.2.2.2.2.2.2.2.2.2.2.2.2.2.2.2.2.2.2.2.2.2.2.2.2.2.2.2.2.2.1
theorem y_F_hourOf (hL : Lay L xs h) : gR h (20, 0, 0) 17 = some (21, 14, 0) := hL.2.1.2.2.2.2.2.2.2.2.2.2.2.2.2.2.2.2.2.2.2.2.2.2.2.2.2.2.2.2.2.2.1
theorem y_F_line (hL : Lay L xs h) : gR h (20, 0, 0) 18 = some (21, 15, 0) := hL.2.1.2.2.2.2.2.2.2.2.2.2.2.2.2.2.2.2.2.2.2.2.2.2.2.2.2.2.2.2.2.2.2.1
theorem y_F_input (hL : Lay L xs h) : gR h (20, 0, 0) 23 = some (21, 16, 0) := hL.2.1.2.2.2.2.2.2.2.2.2.2.2.2.2.2.2.2.2.2.2.2.2.2.2.2.2.2.2.2.2.2.2.2.1
theorem y_F_word (hL : Lay L xs h) : gR h (20, 0, 0) 24 = some (21, 17, 0) := hL.2.1.2.2.2.2.2.2.2.2.2.2.2.2.2.2.2.2.2.2.2.2.2.2.2.2.2.2.2.2.2.2.2.2.2.1
theorem y_F_numbers (hL : Lay L xs h) : gR h (20, 0, 0) 25 = some (21, 18, 0) := hL.2.1.2.2.2.2.2.2.2.2.2.2.2.2.2.2.2.2.2.2.2.2.2.2.2.2.2.2.2.2.2.2.2.2.2.2.1
theorem y_F_earlier (hL : Lay L xs h) : gR h (20, 0, 0) 30 = some (21, 19, 0) := hL.2.1.2.2.2.2.2.2.2.2.2.2.2.2.2.2.2.2.2.2.2.2.2.2.2.2.2.2.2.2.2.2.2.2.2.2.2.1
theorem y_F_saved (hL : Lay L xs h) : gR h (20, 0, 0) 31 = some (21, 20, 0) := hL.2.1.2.2.2.2.2.2.2.2.2.2.2.2.2.2.2.2.2.2.2.2.2.2.2.2.2.2.2.2.2.2.2.2.2.2.2.2.1
theorem y_F_tried (hL : Lay L xs h) : gR h (20, 0, 0) 32 = some (21, 21, 0) := hL.2.1.2.2.2.2.2.2.2.2.2.2.2.2.2.2.2.2.2.2.2.2.2.2.2.2.2.2.2.2.2.2.2.2.2.2.2.2.2.1
theorem y_R42 (hL : Lay L xs h) {p : Nat} (h0 : p < 5) : gR h (42, p, 0) 0 = some (43, p, 0) := hL.2.1.2.2.2.2.2.2.2.2.2.2.2.2.2.2.2.2.2.2.2.2.2.2.2.2.2.2.2.2.2.2.2.2.2.2.2.2.2.2.1 p h0
theorem y_R51_0 (hL : Lay L xs h) : gR h (51, 0, 0) 0 = some (41, 0, 0) := hL.2.1.2.2.2.2.2.2.2.2.2.2.2.2.2.2.2.2.2.2.2.2.2.2.2.2.2.2.2.2.2.2.2.2.2.2.2.2.2.2.2.1
theorem y_R51_1 (hL : Lay L xs h) : gR h (51, 0, 0) 1 = some (41, 1, 0) := hL.2.1.2.2.2.2.2.2.2.2.2.2.2.2.2.2.2.2.2.2.2.2.2.2.2.2.2.2.2.2.2.2.2.2.2.2.2.2.2.2.2.2.1
theorem y_R51_2 (hL : Lay L xs h) : gR h (51, 0, 0) 2 = some (41, 2, 0) := hL.2.1.2.2.2.2.2.2.2.2.2.2.2.2.2.2.2.2.2.2.2.2.2.2.2.2.2.2.2.2.2.2.2.2.2.2.2.2.2.2.2.2.2.1
theorem y_R51_3 (hL : Lay L xs h) : gR h (51, 0, 0) 3 = some (41, 3, 0) := hL.2.1.2.2.2.2.2.2.2.2.2.2.2.2.2.2.2.2.2.2.2.2.2.2.2.2.2.2.2.2.2.2.2.2.2.2.2.2.2.2.2.2.2.2
theorem y_V40 (hL : Lay L xs h) {j : Nat} : gI h (40, 0, 0) j = xs j := hL.2.2.1 j
theorem y_V41 (hL : Lay L xs h) {p : Nat} {j : Nat} : gI h (41, p, 0) j = (sVal p).getD j 0 := hL.2.2.2.1 p j
theorem y_V42 (hL : Lay L xs h) {p : Nat} : gI h (42, p, 0) 1 = 0 := hL.2.2.2.2.1 p
theorem y_V43 (hL : Lay L xs h) {p : Nat} {j : Nat} : gI h (43, p, 0) j = (bVal p).getD j 0 := hL.2.2.2.2.2 p j
end LayFacts
theorem Lay_eq {L : Nat} {xs : Nat → Int32} {h h' : Hp} (hL : Lay L xs h) (hS : gS h' = gS h) (hR : gR h' = gR h) (hI : ∀ a : A3, 40 ≤ a.1 → gI h' a = gI h a) : Lay L xs h' := by
  unfold Lay LayV
  rw [hS, hR, hI (40, 0, 0) (by decide)]
  refine ⟨hL.1, hL.2.1, hL.2.2.1, fun p j => ?_, fun p => ?_, fun p j => ?_⟩
  · rw [hI (41, p, 0) (show 40 ≤ 41 by decide)]; exact hL.2.2.2.1 p j
  · rw [hI (42, p, 0) (show 40 ≤ 42 by decide)]; exact hL.2.2.2.2.1 p
  · rw [hI (43, p, 0) (show 40 ≤ 43 by decide)]; exact hL.2.2.2.2.2 p j
/-! A PLAN: numbers by field and index, and the counts of persons, theses, places in the line.
 fields: 0 rank, 1 fields, 2 department, 3 limit, 4 conflicts of persons; 5 busy bytes (401 i + d); 6 kind, 7 field, 8 department, 9 supervisor, 10 stage, 11 members, 12 room, 13 day, 14 hour of theses; 15 line; 16: 0 today, 1 lost -/
abbrev PL : Type := (Nat → Nat → Int32) × Nat × Nat × Nat
abbrev pn (P : PL) : Nat := P.2.1
abbrev tn (P : PL) : Nat := P.2.2.1
abbrev wn (P : PL) : Nat := P.2.2.2
/-- byte k of a long, of an int -/
def by8 (x : Int64) (k : Nat) : Int32 := (x.toUInt64 >>> ((iN (8 * k)).toInt64.toUInt64 &&& Int64.toUInt64 63)).toInt64.toInt32 &&& 255
def by4 (x : Int32) (k : Nat) : Int32 := (x >>> (iN (8 * k) &&& 31)) &&& 255
def bhs (P : PL) (i n : Nat) : Nat := smf (fun d => pcn (P.1 5 (401 * i + d))) n
def ClsI (I : A3 → Nat → Int32) (p : Nat) (P : PL) : Prop :=
  (∀ i, i < 14 → I (3, p, i) 0 = iN i) ∧ (∀ i, i < 14 → I (3, p, i) 2 = iN (bhs P i 401)) ∧ (∀ f, f < 5 → ∀ i, i < 14 → I (3, p, i) (f + 3) = P.1 f i) ∧
  (∀ j, j < 8 → I (5, p, j) 0 = iN j) ∧ (∀ f, f < 9 → ∀ j, j < 8 → I (5, p, j) (f + 1) = P.1 (f + 6) j) ∧
  (∀ k, k < wn P → I (8, p, 0) k = P.1 15 k) ∧
  I (2, p, 0) 3 = iN (pn P) ∧ I (2, p, 0) 4 = iN (tn P) ∧ I (2, p, 0) 5 = iN (wn P) ∧ I (2, p, 0) 6 = P.1 16 0 ∧ I (2, p, 0) 7 = P.1 16 1
def ClsL (Lg : A3 → Nat → Int64) (p : Nat) (P : PL) : Prop := ∀ i, i < 14 → ∀ d, d < 401 → by8 (Lg (4, p, i) (d / 8)) (d % 8) = P.1 5 (401 * i + d)
def Cls (h : Hp) (p : Nat) (P : PL) : Prop := ClsI (gI h) p P ∧ ClsL (gL h) p P
/-- arrays by number and index, scalars (persons, day, theses, waiting, lost) that hold a plan -/
def Arr (A : Nat → Nat → Int32) (c : Nat → Int32) (P : PL) : Prop :=
  (∀ f, f < 5 → ∀ i, i < pn P → A f i = P.1 f i) ∧ (∀ i, i < pn P → ∀ d, d < 401 → by4 (A 5 (101 * i + d / 4)) (d % 4) = P.1 5 (401 * i + d)) ∧
  (∀ f, 6 ≤ f → f < 15 → ∀ j, j < tn P → A f j = P.1 f j) ∧ (∀ k, k < wn P → A 15 k = P.1 15 k) ∧
  c 0 = iN (pn P) ∧ c 1 = P.1 16 0 ∧ c 2 = iN (tn P) ∧ c 3 = iN (wn P) ∧ c 4 = P.1 16 1
/-- the model's fields of the scalars; where an array lies in a row, and how long it is -/
def scF : Nat → Nat := fun k => [7, 8, 19, 20, 21].getD k 0
def rwO : Nat → Nat := fun k => [0, 14, 28, 42, 56, 70, 1484, 1492, 1500, 1508, 1516, 1524, 1532, 1540, 1548, 1556].getD k 0
def rwL : Nat → Nat := fun k => [14, 14, 14, 14, 14, 1414, 8, 8, 8, 8, 8, 8, 8, 8, 8, 8].getD k 0
def Mod (h : Hp) (P : PL) : Prop := Arr (fun f i => gI h (21, f, 0) i) (fun k => gI h (20, 0, 0) (scF k)) P
def Row (h : Hp) (a : A3) (off : Nat) (P : PL) : Prop := Arr (fun f i => gI h a (off + rwO f + i)) (fun k => gI h a (off + 1564 + k)) P
section PlanFacts
variable {h : Hp} {p : Nat} {P : PL}
theorem k_nu (hC : Cls h p P) {i : Nat} (hi : i < 14) : gI h (3, p, i) 0 = iN i := hC.1.1 i hi
theorem k_bh (hC : Cls h p P) {i : Nat} (hi : i < 14) : gI h (3, p, i) 2 = iN (bhs P i 401) := hC.1.2.1 i hi
theorem k_rk (hC : Cls h p P) {i : Nat} (hi : i < 14) : gI h (3, p, i) 3 = P.1 0 i := hC.1.2.2.1 0 (by decide) i hi
theorem k_fl (hC : Cls h p P) {i : Nat} (hi : i < 14) : gI h (3, p, i) 4 = P.1 1 i := hC.1.2.2.1 1 (by decide) i hi
theorem k_dp (hC : Cls h p P) {i : Nat} (hi : i < 14) : gI h (3, p, i) 5 = P.1 2 i := hC.1.2.2.1 2 (by decide) i hi
theorem k_lm (hC : Cls h p P) {i : Nat} (hi : i < 14) : gI h (3, p, i) 6 = P.1 3 i := hC.1.2.2.1 3 (by decide) i hi
theorem k_cf (hC : Cls h p P) {i : Nat} (hi : i < 14) : gI h (3, p, i) 7 = P.1 4 i := hC.1.2.2.1 4 (by decide) i hi
theorem t_nu (hC : Cls h p P) {i : Nat} (hi : i < 8) : gI h (5, p, i) 0 = iN i := hC.1.2.2.2.1 i hi
theorem t_kd (hC : Cls h p P) {i : Nat} (hi : i < 8) : gI h (5, p, i) 1 = P.1 6 i := hC.1.2.2.2.2.1 0 (by decide) i hi
theorem t_fd (hC : Cls h p P) {i : Nat} (hi : i < 8) : gI h (5, p, i) 2 = P.1 7 i := hC.1.2.2.2.2.1 1 (by decide) i hi
theorem t_dp (hC : Cls h p P) {i : Nat} (hi : i < 8) : gI h (5, p, i) 3 = P.1 8 i := hC.1.2.2.2.2.1 2 (by decide) i hi
theorem t_sv (hC : Cls h p P) {i : Nat} (hi : i < 8) : gI h (5, p, i) 4 = P.1 9 i := hC.1.2.2.2.2.1 3 (by decide) i hi
theorem t_st (hC : Cls h p P) {i : Nat} (hi : i < 8) : gI h (5, p, i) 5 = P.1 10 i := hC.1.2.2.2.2.1 4 (by decide) i hi
theorem t_mb (hC : Cls h p P) {i : Nat} (hi : i < 8) : gI h (5, p, i) 6 = P.1 11 i := hC.1.2.2.2.2.1 5 (by decide) i hi
theorem t_rm (hC : Cls h p P) {i : Nat} (hi : i < 8) : gI h (5, p, i) 7 = P.1 12 i := hC.1.2.2.2.2.1 6 (by decide) i hi
theorem t_dy (hC : Cls h p P) {i : Nat} (hi : i < 8) : gI h (5, p, i) 8 = P.1 13 i := hC.1.2.2.2.2.1 7 (by decide) i hi
theorem t_hr (hC : Cls h p P) {i : Nat} (hi : i < 8) : gI h (5, p, i) 9 = P.1 14 i := hC.1.2.2.2.2.1 8 (by decide) i hi
theorem l_ln (hC : Cls h p P) {k : Nat} (hk : k < wn P) : gI h (8, p, 0) k = P.1 15 k := hC.1.2.2.2.2.2.1 k hk
theorem p_pc (hC : Cls h p P) : gI h (2, p, 0) 3 = iN (pn P) := hC.1.2.2.2.2.2.2.1
theorem p_tc (hC : Cls h p P) : gI h (2, p, 0) 4 = iN (tn P) := hC.1.2.2.2.2.2.2.2.1
theorem p_wc (hC : Cls h p P) : gI h (2, p, 0) 5 = iN (wn P) := hC.1.2.2.2.2.2.2.2.2.1
theorem p_td (hC : Cls h p P) : gI h (2, p, 0) 6 = P.1 16 0 := hC.1.2.2.2.2.2.2.2.2.2.1
theorem p_lo (hC : Cls h p P) : gI h (2, p, 0) 7 = P.1 16 1 := hC.1.2.2.2.2.2.2.2.2.2.2
theorem k_by (hC : Cls h p P) {i d : Nat} (hi : i < 14) (hd : d < 401) : by8 (gL h (4, p, i) (d / 8)) (d % 8) = P.1 5 (401 * i + d) := hC.2 i hi d hd
theorem m_rk (hM : Mod h P) {i : Nat} (hi : i < pn P) : gI h (21, 0, 0) i = P.1 0 i := hM.1 0 (by decide) i hi
theorem m_fl (hM : Mod h P) {i : Nat} (hi : i < pn P) : gI h (21, 1, 0) i = P.1 1 i := hM.1 1 (by decide) i hi
theorem m_dp (hM : Mod h P) {i : Nat} (hi : i < pn P) : gI h (21, 2, 0) i = P.1 2 i := hM.1 2 (by decide) i hi
theorem m_lm (hM : Mod h P) {i : Nat} (hi : i < pn P) : gI h (21, 3, 0) i = P.1 3 i := hM.1 3 (by decide) i hi
theorem m_cf (hM : Mod h P) {i : Nat} (hi : i < pn P) : gI h (21, 4, 0) i = P.1 4 i := hM.1 4 (by decide) i hi
theorem m_by (hM : Mod h P) {i d : Nat} (hi : i < pn P) (hd : d < 401) : by4 (gI h (21, 5, 0) (101 * i + d / 4)) (d % 4) = P.1 5 (401 * i + d) := hM.2.1 i hi d hd
theorem m_kd (hM : Mod h P) {i : Nat} (hi : i < tn P) : gI h (21, 6, 0) i = P.1 6 i := hM.2.2.1 6 (by decide) (by decide) i hi
theorem m_fd (hM : Mod h P) {i : Nat} (hi : i < tn P) : gI h (21, 7, 0) i = P.1 7 i := hM.2.2.1 7 (by decide) (by decide) i hi
theorem m_de (hM : Mod h P) {i : Nat} (hi : i < tn P) : gI h (21, 8, 0) i = P.1 8 i := hM.2.2.1 8 (by decide) (by decide) i hi
theorem m_sv (hM : Mod h P) {i : Nat} (hi : i < tn P) : gI h (21, 9, 0) i = P.1 9 i := hM.2.2.1 9 (by decide) (by decide) i hi
theorem m_st (hM : Mod h P) {i : Nat} (hi : i < tn P) : gI h (21, 10, 0) i = P.1 10 i := hM.2.2.1 10 (by decide) (by decide) i hi
theorem m_mb (hM : Mod h P) {i : Nat} (hi : i < tn P) : gI h (21, 11, 0) i = P.1 11 i := hM.2.2.1 11 (by decide) (by decide) i hi
theorem m_rm (hM : Mod h P) {i : Nat} (hi : i < tn P) : gI h (21, 12, 0) i = P.1 12 i := hM.2.2.1 12 (by decide) (by decide) i hi
theorem m_dy (hM : Mod h P) {i : Nat} (hi : i < tn P) : gI h (21, 13, 0) i = P.1 13 i := hM.2.2.1 13 (by decide) (by decide) i hi
theorem m_hr (hM : Mod h P) {i : Nat} (hi : i < tn P) : gI h (21, 14, 0) i = P.1 14 i := hM.2.2.1 14 (by decide) (by decide) i hi
theorem m_ln (hM : Mod h P) {k : Nat} (hk : k < wn P) : gI h (21, 15, 0) k = P.1 15 k := hM.2.2.2.1 k hk
theorem m_pc (hM : Mod h P) : gI h (20, 0, 0) 7 = iN (pn P) := hM.2.2.2.2.1
theorem m_td (hM : Mod h P) : gI h (20, 0, 0) 8 = P.1 16 0 := hM.2.2.2.2.2.1
theorem m_tc (hM : Mod h P) : gI h (20, 0, 0) 19 = iN (tn P) := hM.2.2.2.2.2.2.1
theorem m_wc (hM : Mod h P) : gI h (20, 0, 0) 20 = iN (wn P) := hM.2.2.2.2.2.2.2.1
theorem m_lo (hM : Mod h P) : gI h (20, 0, 0) 21 = P.1 16 1 := hM.2.2.2.2.2.2.2.2
end PlanFacts
