/-! THE LAW'S LOOP: cases 8 to 19 -/



section LawC88
variable {L : Nat} {xs : Nat → Int32} {h : Hp} {d c : Nat}
theorem L8 (hI : Inv L xs h) (hc : 5 * c + 5 ≤ L) (hl : L ≤ 2560) {a6 a7 a8 : Option MV} : LG L xs d c h (Ev (d + 21) 278 838 [some (vR (40, 0, 0)), some (vR (1, 0, 0)), some (vR (20, 0, 0)), some (vR (30, 0, 0)), some (vR (31, 0, 0)), some (vI (iN (5 * c))), a6, a7, a8] [] h) := by
  have q0 : (iN (5 * c)).toNatClampNeg = 5 * c := n_i (by omega)
  have q1 : iN (5 * c) + 1 = iN (5 * c + 1) := iN_add _ 1
  have q2 : iN (5 * c) + 2 = iN (5 * c + 2) := iN_add _ 2
  have q3 : iN (5 * c) + 3 = iN (5 * c + 3) := iN_add _ 3
  have q4 : iN (5 * c) + 4 = iN (5 * c + 4) := iN_add _ 4
  have b1 : inB (iN (5 * c + 1)) L := inB_of (by omega) (by omega)
  have b2 : inB (iN (5 * c + 2)) L := inB_of (by omega) (by omega)
  have b3 : inB (iN (5 * c + 3)) L := inB_of (by omega) (by omega)
  have b4 : inB (iN (5 * c + 4)) L := inB_of (by omega) (by omega)
  have t1 : (iN (5 * c + 1)).toNatClampNeg = 5 * c + 1 := n_i (by omega)
  have t2 : (iN (5 * c + 2)).toNatClampNeg = 5 * c + 2 := n_i (by omega)
  have t3 : (iN (5 * c + 3)).toNatClampNeg = 5 * c + 3 := n_i (by omega)
  have t4 : (iN (5 * c + 4)).toNatClampNeg = 5 * c + 4 := n_i (by omega)
  obtain ⟨hL, P, H, X, ci, mi, wi⟩ := hI
  obtain ⟨k, b, h1, h2, e1, e2, e3, e4, i2, n1, n2, n3⟩ := c8 (d := d) hL ci mi wi (x := xs (5 * c + 1)) (y := xs (5 * c + 2))
  obtain ⟨s20, s40, i40⟩ := sc_S (Ev_S e1) hL
  have hL2 := i2.1
  refine ⟨some (vI k), some (vI b), a8, h2, ?_, i2, n1, n2, n3⟩
  by_cases z : k = 0
  · have e6 : lg_cmp (gL h2 (30, 0, 0) 0) b.toInt64 = 0 := by rw [e4 z]; exact lg_self
    simp only [v278_838, v278_839, v278_840, v278_842, v278_843, v278_844, v278_845, v278_846, v278_848, v278_849, v278_850, v278_851, v278_852, v278_855, v278_857, v278_858, v278_859, v278_861, v278_862, v278_863, v278_864, v278_865, v278_867, v278_868, v278_869, v278_870, v278_873, v278_875, v278_876, v278_879, v278_881, v278_884, v278_885, v278_886, v278_888, v278_891, v278_892, v278_893, v278_894, v278_896, v278_897, v278_898, v278_901, v278_902, v278_903, n_14, n_8, inB_of, Nat.reduceLT, Prod.mk.injEq, true_and, rB, rBn, rBa, rBb, rBc, rBd, Evk_v, Evk_n, Nat.reduceAdd, Nat.reduceLeDiff, Nat.le_refl, Nat.zero_le, cz_0, cz_1, cI_1, cO_1, cz_2, cI_2, cO_2, cL_2, cD_2, cz_3, cI_3, cO_3, cL_3, cD_3, cz_4, cI_4, cO_4, cL_4, cD_4, cz_5, cI_5, cO_5, cL_5, cD_5, cz_6, cI_6, cO_6, cL_6, cD_6, cz_7, cI_7, cO_7, cL_7, cD_7, cz_8, cI_8, cO_8, cL_8, cD_8, List.mem_cons, or_true, true_or, and_self, sI_S, sL_S, sR_S, sD_S, gb_S, sI_R, sL_R, sD_R, gb_R, sI_L, sR_I, sR_L, sL_I, sD_I, sD_L, gb_I, gb_L, q1, q2, q3, q4, b1, b2, b3, b4, t1, t2, t3, t4, y_S1 hL, y_S20 hL, y_S40 hL, y_V40 hL, s20, s40, i40, e1, e2, y_S20 hL2, y_S30 hL2, m140 hL2, if_pos e3, j_01, n_z0, if_pos z, if_pos e6]
  · simp only [v278_838, v278_839, v278_840, v278_842, v278_843, v278_844, v278_845, v278_846, v278_848, v278_849, v278_850, v278_851, v278_852, v278_855, v278_857, v278_858, v278_859, v278_861, v278_862, v278_863, v278_864, v278_865, v278_867, v278_868, v278_869, v278_870, v278_873, v278_875, v278_876, v278_879, v278_881, v278_884, v278_885, v278_886, v278_888, v278_891, v278_892, v278_893, v278_894, v278_896, v278_897, v278_898, v278_901, v278_902, v278_903, n_14, n_8, inB_of, Nat.reduceLT, Prod.mk.injEq, true_and, rB, rBn, rBa, rBb, rBc, rBd, Evk_v, Evk_n, Nat.reduceAdd, Nat.reduceLeDiff, Nat.le_refl, Nat.zero_le, cz_0, cz_1, cI_1, cO_1, cz_2, cI_2, cO_2, cL_2, cD_2, cz_3, cI_3, cO_3, cL_3, cD_3, cz_4, cI_4, cO_4, cL_4, cD_4, cz_5, cI_5, cO_5, cL_5, cD_5, cz_6, cI_6, cO_6, cL_6, cD_6, cz_7, cI_7, cO_7, cL_7, cD_7, cz_8, cI_8, cO_8, cL_8, cD_8, List.mem_cons, or_true, true_or, and_self, sI_S, sL_S, sR_S, sD_S, gb_S, sI_R, sL_R, sD_R, gb_R, sI_L, sR_I, sR_L, sL_I, sD_I, sD_L, gb_I, gb_L, q1, q2, q3, q4, b1, b2, b3, b4, t1, t2, t3, t4, y_S1 hL, y_S20 hL, y_S40 hL, y_V40 hL, s20, s40, i40, e1, e2, y_S20 hL2, y_S30 hL2, m140 hL2, if_pos e3, j_01, n_z0, if_neg z]
theorem L9 (hI : Inv L xs h) (hc : 5 * c + 5 ≤ L) (hl : L ≤ 2560) {a6 a7 a8 : Option MV} : LG L xs d c h (Ev (d + 21) 278 906 [some (vR (40, 0, 0)), some (vR (1, 0, 0)), some (vR (20, 0, 0)), some (vR (30, 0, 0)), some (vR (31, 0, 0)), some (vI (iN (5 * c))), a6, a7, a8] [] h) := by
  have q0 : (iN (5 * c)).toNatClampNeg = 5 * c := n_i (by omega)
  have q1 : iN (5 * c) + 1 = iN (5 * c + 1) := iN_add _ 1
  have q2 : iN (5 * c) + 2 = iN (5 * c + 2) := iN_add _ 2
  have q3 : iN (5 * c) + 3 = iN (5 * c + 3) := iN_add _ 3
  have q4 : iN (5 * c) + 4 = iN (5 * c + 4) := iN_add _ 4
  have b1 : inB (iN (5 * c + 1)) L := inB_of (by omega) (by omega)
  have b2 : inB (iN (5 * c + 2)) L := inB_of (by omega) (by omega)
  have b3 : inB (iN (5 * c + 3)) L := inB_of (by omega) (by omega)
  have b4 : inB (iN (5 * c + 4)) L := inB_of (by omega) (by omega)
  have t1 : (iN (5 * c + 1)).toNatClampNeg = 5 * c + 1 := n_i (by omega)
  have t2 : (iN (5 * c + 2)).toNatClampNeg = 5 * c + 2 := n_i (by omega)
  have t3 : (iN (5 * c + 3)).toNatClampNeg = 5 * c + 3 := n_i (by omega)
  have t4 : (iN (5 * c + 4)).toNatClampNeg = 5 * c + 4 := n_i (by omega)
  obtain ⟨hL, P, H, X, ci, mi, wi⟩ := hI
  obtain ⟨k, b, h1, h2, e1, e2, e3, e4, i2, n1, n2, n3⟩ := c9 (d := d) hL ci mi wi (x := xs (5 * c + 1)) (y := xs (5 * c + 2))
  obtain ⟨s20, s40, i40⟩ := sc_S (Ev_S e1) hL
  have hL2 := i2.1
  refine ⟨some (vI k), some (vI b), a8, h2, ?_, i2, n1, n2, n3⟩
  by_cases z : k = 0
  · have e6 : lg_cmp (gL h2 (30, 0, 0) 0) b.toInt64 = 0 := by rw [e4 z]; exact lg_self
    simp only [v278_906, v278_907, v278_908, v278_910, v278_911, v278_912, v278_913, v278_914, v278_916, v278_917, v278_918, v278_919, v278_920, v278_923, v278_925, v278_926, v278_927, v278_929, v278_930, v278_931, v278_932, v278_933, v278_935, v278_936, v278_937, v278_938, v278_941, v278_943, v278_944, v278_947, v278_949, v278_952, v278_953, v278_954, v278_956, v278_959, v278_960, v278_961, v278_962, v278_964, v278_965, v278_966, v278_969, v278_970, v278_971, n_14, n_8, inB_of, Nat.reduceLT, Prod.mk.injEq, true_and, rB, rBn, rBa, rBb, rBc, rBd, Evk_v, Evk_n, Nat.reduceAdd, Nat.reduceLeDiff, Nat.le_refl, Nat.zero_le, cz_0, cz_1, cI_1, cO_1, cz_2, cI_2, cO_2, cL_2, cD_2, cz_3, cI_3, cO_3, cL_3, cD_3, cz_4, cI_4, cO_4, cL_4, cD_4, cz_5, cI_5, cO_5, cL_5, cD_5, cz_6, cI_6, cO_6, cL_6, cD_6, cz_7, cI_7, cO_7, cL_7, cD_7, cz_8, cI_8, cO_8, cL_8, cD_8, List.mem_cons, or_true, true_or, and_self, sI_S, sL_S, sR_S, sD_S, gb_S, sI_R, sL_R, sD_R, gb_R, sI_L, sR_I, sR_L, sL_I, sD_I, sD_L, gb_I, gb_L, q1, q2, q3, q4, b1, b2, b3, b4, t1, t2, t3, t4, y_S1 hL, y_S20 hL, y_S40 hL, y_V40 hL, s20, s40, i40, e1, e2, y_S20 hL2, y_S30 hL2, m140 hL2, if_pos e3, j_01, n_z0, if_pos z, if_pos e6]
  · simp only [v278_906, v278_907, v278_908, v278_910, v278_911, v278_912, v278_913, v278_914, v278_916, v278_917, v278_918, v278_919, v278_920, v278_923, v278_925, v278_926, v278_927, v278_929, v278_930, v278_931, v278_932, v278_933, v278_935, v278_936, v278_937, v278_938, v278_941, v278_943, v278_944, v278_947, v278_949, v278_952, v278_953, v278_954, v278_956, v278_959, v278_960, v278_961, v278_962, v278_964, v278_965, v278_966, v278_969, v278_970, v278_971, n_14, n_8, inB_of, Nat.reduceLT, Prod.mk.injEq, true_and, rB, rBn, rBa, rBb, rBc, rBd, Evk_v, Evk_n, Nat.reduceAdd, Nat.reduceLeDiff, Nat.le_refl, Nat.zero_le, cz_0, cz_1, cI_1, cO_1, cz_2, cI_2, cO_2, cL_2, cD_2, cz_3, cI_3, cO_3, cL_3, cD_3, cz_4, cI_4, cO_4, cL_4, cD_4, cz_5, cI_5, cO_5, cL_5, cD_5, cz_6, cI_6, cO_6, cL_6, cD_6, cz_7, cI_7, cO_7, cL_7, cD_7, cz_8, cI_8, cO_8, cL_8, cD_8, List.mem_cons, or_true, true_or, and_self, sI_S, sL_S, sR_S, sD_S, gb_S, sI_R, sL_R, sD_R, gb_R, sI_L, sR_I, sR_L, sL_I, sD_I, sD_L, gb_I, gb_L, q1, q2, q3, q4, b1, b2, b3, b4, t1, t2, t3, t4, y_S1 hL, y_S20 hL, y_S40 hL, y_V40 hL, s20, s40, i40, e1, e2, y_S20 hL2, y_S30 hL2, m140 hL2, if_pos e3, j_01, n_z0, if_neg z]
theorem L10 (hI : Inv L xs h) (hc : 5 * c + 5 ≤ L) (hl : L ≤ 2560) {a6 a7 a8 : Option MV} : LG L xs d c h (Ev (d + 21) 278 974 [some (vR (40, 0, 0)), some (vR (1, 0, 0)), some (vR (20, 0, 0)), some (vR (30, 0, 0)), some (vR (31, 0, 0)), some (vI (iN (5 * c))), a6, a7, a8] [] h) := by
  have q0 : (iN (5 * c)).toNatClampNeg = 5 * c := n_i (by omega)
  have q1 : iN (5 * c) + 1 = iN (5 * c + 1) := iN_add _ 1
  have q2 : iN (5 * c) + 2 = iN (5 * c + 2) := iN_add _ 2
  have q3 : iN (5 * c) + 3 = iN (5 * c + 3) := iN_add _ 3
  have q4 : iN (5 * c) + 4 = iN (5 * c + 4) := iN_add _ 4
  have b1 : inB (iN (5 * c + 1)) L := inB_of (by omega) (by omega)
  have b2 : inB (iN (5 * c + 2)) L := inB_of (by omega) (by omega)
  have b3 : inB (iN (5 * c + 3)) L := inB_of (by omega) (by omega)
  have b4 : inB (iN (5 * c + 4)) L := inB_of (by omega) (by omega)
  have t1 : (iN (5 * c + 1)).toNatClampNeg = 5 * c + 1 := n_i (by omega)
  have t2 : (iN (5 * c + 2)).toNatClampNeg = 5 * c + 2 := n_i (by omega)
  have t3 : (iN (5 * c + 3)).toNatClampNeg = 5 * c + 3 := n_i (by omega)
  have t4 : (iN (5 * c + 4)).toNatClampNeg = 5 * c + 4 := n_i (by omega)
  obtain ⟨hL, P, H, X, ci, mi, wi⟩ := hI
  obtain ⟨k, b, h1, h2, e1, e2, e3, e4, i2, n1, n2, n3⟩ := c10 (d := d) hL ci mi wi (x := xs (5 * c + 1)) (y := xs (5 * c + 2))
  obtain ⟨s20, s40, i40⟩ := sc_S (Ev_S e1) hL
  have hL2 := i2.1
  refine ⟨some (vI k), some (vI b), a8, h2, ?_, i2, n1, n2, n3⟩
  by_cases z : k = 0
  · have e6 : lg_cmp (gL h2 (30, 0, 0) 0) b.toInt64 = 0 := by rw [e4 z]; exact lg_self
    simp only [v278_974, v278_975, v278_976, v278_978, v278_979, v278_980, v278_981, v278_982, v278_984, v278_985, v278_986, v278_987, v278_988, v278_991, v278_993, v278_994, v278_995, v278_997, v278_998, v278_999, v278_1000, v278_1001, v278_1003, v278_1004, v278_1005, v278_1006, v278_1009, v278_1011, v278_1012, v278_1015, v278_1017, v278_1020, v278_1021, v278_1022, v278_1024, v278_1027, v278_1028, v278_1029, v278_1030, v278_1032, v278_1033, v278_1034, v278_1037, v278_1038, v278_1039, n_14, n_8, inB_of, Nat.reduceLT, Prod.mk.injEq, true_and, rB, rBn, rBa, rBb, rBc, rBd, Evk_v, Evk_n, Nat.reduceAdd, Nat.reduceLeDiff, Nat.le_refl, Nat.zero_le, cz_0, cz_1, cI_1, cO_1, cz_2, cI_2, cO_2, cL_2, cD_2, cz_3, cI_3, cO_3, cL_3, cD_3, cz_4, cI_4, cO_4, cL_4, cD_4, cz_5, cI_5, cO_5, cL_5, cD_5, cz_6, cI_6, cO_6, cL_6, cD_6, cz_7, cI_7, cO_7, cL_7, cD_7, cz_8, cI_8, cO_8, cL_8, cD_8, List.mem_cons, or_true, true_or, and_self, sI_S, sL_S, sR_S, sD_S, gb_S, sI_R, sL_R, sD_R, gb_R, sI_L, sR_I, sR_L, sL_I, sD_I, sD_L, gb_I, gb_L, q1, q2, q3, q4, b1, b2, b3, b4, t1, t2, t3, t4, y_S1 hL, y_S20 hL, y_S40 hL, y_V40 hL, s20, s40, i40, e1, e2, y_S20 hL2, y_S30 hL2, m140 hL2, if_pos e3, j_01, n_z0, if_pos z, if_pos e6]
  · simp only [v278_974, v278_975, v278_976, v278_978, v278_979, v278_980, v278_981, v278_982, v278_984, v278_985, v278_986, v278_987, v278_988, v278_991, v278_993, v278_994, v278_995, v278_997, v278_998, v278_999, v278_1000, v278_1001, v278_1003, v278_1004, v278_1005, v278_1006, v278_1009, v278_1011, v278_1012, v278_1015, v278_1017, v278_1020, v278_1021, v278_1022, v278_1024, v278_1027, v278_1028, v278_1029, v278_1030, v278_1032, v278_1033, v278_1034, v278_1037, v278_1038, v278_1039, n_14, n_8, inB_of, Nat.reduceLT, Prod.mk.injEq, true_and, rB, rBn, rBa, rBb, rBc, rBd, Evk_v, Evk_n, Nat.reduceAdd, Nat.reduceLeDiff, Nat.le_refl, Nat.zero_le, cz_0, cz_1, cI_1, cO_1, cz_2, cI_2, cO_2, cL_2, cD_2, cz_3, cI_3, cO_3, cL_3, cD_3, cz_4, cI_4, cO_4, cL_4, cD_4, cz_5, cI_5, cO_5, cL_5, cD_5, cz_6, cI_6, cO_6, cL_6, cD_6, cz_7, cI_7, cO_7, cL_7, cD_7, cz_8, cI_8, cO_8, cL_8, cD_8, List.mem_cons, or_true, true_or, and_self, sI_S, sL_S, sR_S, sD_S, gb_S, sI_R, sL_R, sD_R, gb_R, sI_L, sR_I, sR_L, sL_I, sD_I, sD_L, gb_I, gb_L, q1, q2, q3, q4, b1, b2, b3, b4, t1, t2, t3, t4, y_S1 hL, y_S20 hL, y_S40 hL, y_V40 hL, s20, s40, i40, e1, e2, y_S20 hL2, y_S30 hL2, m140 hL2, if_pos e3, j_01, n_z0, if_neg z]
theorem L11 (hI : Inv L xs h) (hc : 5 * c + 5 ≤ L) (hl : L ≤ 2560) {a6 a7 a8 : Option MV} : LG L xs d c h (Ev (d + 21) 278 1042 [some (vR (40, 0, 0)), some (vR (1, 0, 0)), some (vR (20, 0, 0)), some (vR (30, 0, 0)), some (vR (31, 0, 0)), some (vI (iN (5 * c))), a6, a7, a8] [] h) := by
  have q0 : (iN (5 * c)).toNatClampNeg = 5 * c := n_i (by omega)
  have q1 : iN (5 * c) + 1 = iN (5 * c + 1) := iN_add _ 1
  have q2 : iN (5 * c) + 2 = iN (5 * c + 2) := iN_add _ 2
  have q3 : iN (5 * c) + 3 = iN (5 * c + 3) := iN_add _ 3
  have q4 : iN (5 * c) + 4 = iN (5 * c + 4) := iN_add _ 4
  have b1 : inB (iN (5 * c + 1)) L := inB_of (by omega) (by omega)
  have b2 : inB (iN (5 * c + 2)) L := inB_of (by omega) (by omega)
  have b3 : inB (iN (5 * c + 3)) L := inB_of (by omega) (by omega)
  have b4 : inB (iN (5 * c + 4)) L := inB_of (by omega) (by omega)
  have t1 : (iN (5 * c + 1)).toNatClampNeg = 5 * c + 1 := n_i (by omega)
  have t2 : (iN (5 * c + 2)).toNatClampNeg = 5 * c + 2 := n_i (by omega)
  have t3 : (iN (5 * c + 3)).toNatClampNeg = 5 * c + 3 := n_i (by omega)
  have t4 : (iN (5 * c + 4)).toNatClampNeg = 5 * c + 4 := n_i (by omega)
  obtain ⟨hL, P, H, X, ci, mi, wi⟩ := hI
  obtain ⟨k, b, h1, h2, e1, e2, e3, e4, i2, n1, n2, n3⟩ := c11 (d := d) hL ci mi wi (x := xs (5 * c + 1)) (y := xs (5 * c + 2)) (z := xs (5 * c + 3))
  obtain ⟨s20, s40, i40⟩ := sc_S (Ev_S e1) hL
  have hL2 := i2.1
  refine ⟨some (vI k), some (vI b), a8, h2, ?_, i2, n1, n2, n3⟩
  by_cases z : k = 0
  · have e6 : lg_cmp (gL h2 (30, 0, 0) 0) b.toInt64 = 0 := by rw [e4 z]; exact lg_self
    simp only [v278_1042, v278_1043, v278_1044, v278_1046, v278_1047, v278_1048, v278_1049, v278_1050, v278_1052, v278_1053, v278_1054, v278_1055, v278_1056, v278_1058, v278_1059, v278_1060, v278_1061, v278_1062, v278_1065, v278_1067, v278_1068, v278_1069, v278_1071, v278_1072, v278_1073, v278_1074, v278_1075, v278_1077, v278_1078, v278_1079, v278_1080, v278_1081, v278_1083, v278_1084, v278_1085, v278_1086, v278_1089, v278_1091, v278_1092, v278_1095, v278_1097, v278_1100, v278_1101, v278_1102, v278_1104, v278_1107, v278_1108, v278_1109, v278_1110, v278_1112, v278_1113, v278_1114, v278_1117, v278_1118, v278_1119, n_14, n_8, inB_of, Nat.reduceLT, Prod.mk.injEq, true_and, rB, rBn, rBa, rBb, rBc, rBd, Evk_v, Evk_n, Nat.reduceAdd, Nat.reduceLeDiff, Nat.le_refl, Nat.zero_le, cz_0, cz_1, cI_1, cO_1, cz_2, cI_2, cO_2, cL_2, cD_2, cz_3, cI_3, cO_3, cL_3, cD_3, cz_4, cI_4, cO_4, cL_4, cD_4, cz_5, cI_5, cO_5, cL_5, cD_5, cz_6, cI_6, cO_6, cL_6, cD_6, cz_7, cI_7, cO_7, cL_7, cD_7, cz_8, cI_8, cO_8, cL_8, cD_8, List.mem_cons, or_true, true_or, and_self, sI_S, sL_S, sR_S, sD_S, gb_S, sI_R, sL_R, sD_R, gb_R, sI_L, sR_I, sR_L, sL_I, sD_I, sD_L, gb_I, gb_L, q1, q2, q3, q4, b1, b2, b3, b4, t1, t2, t3, t4, y_S1 hL, y_S20 hL, y_S40 hL, y_V40 hL, s20, s40, i40, e1, e2, y_S20 hL2, y_S30 hL2, m140 hL2, if_pos e3, j_01, n_z0, if_pos z, if_pos e6]
  · simp only [v278_1042, v278_1043, v278_1044, v278_1046, v278_1047, v278_1048, v278_1049, v278_1050, v278_1052, v278_1053, v278_1054, v278_1055, v278_1056, v278_1058, v278_1059, v278_1060, v278_1061, v278_1062, v278_1065, v278_1067, v278_1068, v278_1069, v278_1071, v278_1072, v278_1073, v278_1074, v278_1075, v278_1077, v278_1078, v278_1079, v278_1080, v278_1081, v278_1083, v278_1084, v278_1085, v278_1086, v278_1089, v278_1091, v278_1092, v278_1095, v278_1097, v278_1100, v278_1101, v278_1102, v278_1104, v278_1107, v278_1108, v278_1109, v278_1110, v278_1112, v278_1113, v278_1114, v278_1117, v278_1118, v278_1119, n_14, n_8, inB_of, Nat.reduceLT, Prod.mk.injEq, true_and, rB, rBn, rBa, rBb, rBc, rBd, Evk_v, Evk_n, Nat.reduceAdd, Nat.reduceLeDiff, Nat.le_refl, Nat.zero_le, cz_0, cz_1, cI_1, cO_1, cz_2, cI_2, cO_2, cL_2, cD_2, cz_3, cI_3, cO_3, cL_3, cD_3, cz_4, cI_4, cO_4, cL_4, cD_4, cz_5, cI_5, cO_5, cL_5, cD_5, cz_6, cI_6, cO_6, cL_6, cD_6, cz_7, cI_7, cO_7, cL_7, cD_7, cz_8, cI_8, cO_8, cL_8, cD_8, List.mem_cons, or_true, true_or, and_self, sI_S, sL_S, sR_S, sD_S, gb_S, sI_R, sL_R, sD_R, gb_R, sI_L, sR_I, sR_L, sL_I, sD_I, sD_L, gb_I, gb_L, q1, q2, q3, q4, b1, b2, b3, b4, t1, t2, t3, t4, y_S1 hL, y_S20 hL, y_S40 hL, y_V40 hL, s20, s40, i40, e1, e2, y_S20 hL2, y_S30 hL2, m140 hL2, if_pos e3, j_01, n_z0, if_neg z]
theorem L12 (hI : Inv L xs h) (hc : 5 * c + 5 ≤ L) (hl : L ≤ 2560) {a6 a7 a8 : Option MV} : LG L xs d c h (Ev (d + 21) 278 1122 [some (vR (40, 0, 0)), some (vR (1, 0, 0)), some (vR (20, 0, 0)), some (vR (30, 0, 0)), some (vR (31, 0, 0)), some (vI (iN (5 * c))), a6, a7, a8] [] h) := by
  have q0 : (iN (5 * c)).toNatClampNeg = 5 * c := n_i (by omega)
  have q1 : iN (5 * c) + 1 = iN (5 * c + 1) := iN_add _ 1
  have q2 : iN (5 * c) + 2 = iN (5 * c + 2) := iN_add _ 2
  have q3 : iN (5 * c) + 3 = iN (5 * c + 3) := iN_add _ 3
  have q4 : iN (5 * c) + 4 = iN (5 * c + 4) := iN_add _ 4
  have b1 : inB (iN (5 * c + 1)) L := inB_of (by omega) (by omega)
  have b2 : inB (iN (5 * c + 2)) L := inB_of (by omega) (by omega)
  have b3 : inB (iN (5 * c + 3)) L := inB_of (by omega) (by omega)
  have b4 : inB (iN (5 * c + 4)) L := inB_of (by omega) (by omega)
  have t1 : (iN (5 * c + 1)).toNatClampNeg = 5 * c + 1 := n_i (by omega)
  have t2 : (iN (5 * c + 2)).toNatClampNeg = 5 * c + 2 := n_i (by omega)
  have t3 : (iN (5 * c + 3)).toNatClampNeg = 5 * c + 3 := n_i (by omega)
  have t4 : (iN (5 * c + 4)).toNatClampNeg = 5 * c + 4 := n_i (by omega)
  obtain ⟨hL, P, H, X, ci, mi, wi⟩ := hI
  obtain ⟨k, b, h1, h2, e1, e2, e3, e4, i2, n1, n2, n3⟩ := c12 (d := d) hL ci mi wi (x := xs (5 * c + 1)) (y := xs (5 * c + 2))
  obtain ⟨s20, s40, i40⟩ := sc_S (Ev_S e1) hL
  have hL2 := i2.1
  refine ⟨some (vI k), some (vI b), a8, h2, ?_, i2, n1, n2, n3⟩
  by_cases z : k = 0
  · have e6 : lg_cmp (gL h2 (30, 0, 0) 0) b.toInt64 = 0 := by rw [e4 z]; exact lg_self
    simp only [v278_1122, v278_1123, v278_1124, v278_1126, v278_1127, v278_1128, v278_1129, v278_1130, v278_1132, v278_1133, v278_1134, v278_1135, v278_1136, v278_1139, v278_1141, v278_1142, v278_1143, v278_1145, v278_1146, v278_1147, v278_1148, v278_1149, v278_1151, v278_1152, v278_1153, v278_1154, v278_1157, v278_1159, v278_1160, v278_1163, v278_1165, v278_1168, v278_1169, v278_1170, v278_1172, v278_1175, v278_1176, v278_1177, v278_1178, v278_1180, v278_1181, v278_1182, v278_1185, v278_1186, v278_1187, n_14, n_8, inB_of, Nat.reduceLT, Prod.mk.injEq, true_and, rB, rBn, rBa, rBb, rBc, rBd, Evk_v, Evk_n, Nat.reduceAdd, Nat.reduceLeDiff, Nat.le_refl, Nat.zero_le, cz_0, cz_1, cI_1, cO_1, cz_2, cI_2, cO_2, cL_2, cD_2, cz_3, cI_3, cO_3, cL_3, cD_3, cz_4, cI_4, cO_4, cL_4, cD_4, cz_5, cI_5, cO_5, cL_5, cD_5, cz_6, cI_6, cO_6, cL_6, cD_6, cz_7, cI_7, cO_7, cL_7, cD_7, cz_8, cI_8, cO_8, cL_8, cD_8, List.mem_cons, or_true, true_or, and_self, sI_S, sL_S, sR_S, sD_S, gb_S, sI_R, sL_R, sD_R, gb_R, sI_L, sR_I, sR_L, sL_I, sD_I, sD_L, gb_I, gb_L, q1, q2, q3, q4, b1, b2, b3, b4, t1, t2, t3, t4, y_S1 hL, y_S20 hL, y_S40 hL, y_V40 hL, s20, s40, i40, e1, e2, y_S20 hL2, y_S30 hL2, m140 hL2, if_pos e3, j_01, n_z0, if_pos z, if_pos e6]
  · simp only [v278_1122, v278_1123, v278_1124, v278_1126, v278_1127, v278_1128, v278_1129, v278_1130, v278_1132, v278_1133, v278_1134, v278_1135, v278_1136, v278_1139, v278_1141, v278_1142, v278_1143, v278_1145, v278_1146, v278_1147, v278_1148, v278_1149, v278_1151, v278_1152, v278_1153, v278_1154, v278_1157, v278_1159, v278_1160, v278_1163, v278_1165, v278_1168, v278_1169, v278_1170, v278_1172, v278_1175, v278_1176, v278_1177, v278_1178, v278_1180, v278_1181, v278_1182, v278_1185, v278_1186, v278_1187, n_14, n_8, inB_of, Nat.reduceLT, Prod.mk.injEq, true_and, rB, rBn, rBa, rBb, rBc, rBd, Evk_v, Evk_n, Nat.reduceAdd, Nat.reduceLeDiff, Nat.le_refl, Nat.zero_le, cz_0, cz_1, cI_1, cO_1, cz_2, cI_2, cO_2, cL_2, cD_2, cz_3, cI_3, cO_3, cL_3, cD_3, cz_4, cI_4, cO_4, cL_4, cD_4, cz_5, cI_5, cO_5, cL_5, cD_5, cz_6, cI_6, cO_6, cL_6, cD_6, cz_7, cI_7, cO_7, cL_7, cD_7, cz_8, cI_8, cO_8, cL_8, cD_8, List.mem_cons, or_true, true_or, and_self, sI_S, sL_S, sR_S, sD_S, gb_S, sI_R, sL_R, sD_R, gb_R, sI_L, sR_I, sR_L, sL_I, sD_I, sD_L, gb_I, gb_L, q1, q2, q3, q4, b1, b2, b3, b4, t1, t2, t3, t4, y_S1 hL, y_S20 hL, y_S40 hL, y_V40 hL, s20, s40, i40, e1, e2, y_S20 hL2, y_S30 hL2, m140 hL2, if_pos e3, j_01, n_z0, if_neg z]
theorem L13 (hI : Inv L xs h) (hc : 5 * c + 5 ≤ L) (hl : L ≤ 2560) {a6 a7 a8 : Option MV} : LG L xs d c h (Ev (d + 21) 278 1190 [some (vR (40, 0, 0)), some (vR (1, 0, 0)), some (vR (20, 0, 0)), some (vR (30, 0, 0)), some (vR (31, 0, 0)), some (vI (iN (5 * c))), a6, a7, a8] [] h) := by
  have q0 : (iN (5 * c)).toNatClampNeg = 5 * c := n_i (by omega)
  have q1 : iN (5 * c) + 1 = iN (5 * c + 1) := iN_add _ 1
  have q2 : iN (5 * c) + 2 = iN (5 * c + 2) := iN_add _ 2
  have q3 : iN (5 * c) + 3 = iN (5 * c + 3) := iN_add _ 3
  have q4 : iN (5 * c) + 4 = iN (5 * c + 4) := iN_add _ 4
  have b1 : inB (iN (5 * c + 1)) L := inB_of (by omega) (by omega)
  have b2 : inB (iN (5 * c + 2)) L := inB_of (by omega) (by omega)
  have b3 : inB (iN (5 * c + 3)) L := inB_of (by omega) (by omega)
  have b4 : inB (iN (5 * c + 4)) L := inB_of (by omega) (by omega)
  have t1 : (iN (5 * c + 1)).toNatClampNeg = 5 * c + 1 := n_i (by omega)
  have t2 : (iN (5 * c + 2)).toNatClampNeg = 5 * c + 2 := n_i (by omega)
  have t3 : (iN (5 * c + 3)).toNatClampNeg = 5 * c + 3 := n_i (by omega)
  have t4 : (iN (5 * c + 4)).toNatClampNeg = 5 * c + 4 := n_i (by omega)
  obtain ⟨hL, P, H, X, ci, mi, wi⟩ := hI
  obtain ⟨k, b, h1, h2, e1, e2, e3, e4, i2, n1, n2, n3⟩ := c13 (d := d) hL ci mi wi (x := xs (5 * c + 1)) (y := xs (5 * c + 2))
  obtain ⟨s20, s40, i40⟩ := sc_S (Ev_S e1) hL
  have hL2 := i2.1
  refine ⟨some (vI k), some (vI b), a8, h2, ?_, i2, n1, n2, n3⟩
  by_cases z : k = 0
  · have e6 : lg_cmp (gL h2 (30, 0, 0) 0) b.toInt64 = 0 := by rw [e4 z]; exact lg_self
    simp only [v278_1190, v278_1191, v278_1192, v278_1194, v278_1195, v278_1196, v278_1197, v278_1198, v278_1200, v278_1201, v278_1202, v278_1203, v278_1204, v278_1207, v278_1209, v278_1210, v278_1211, v278_1213, v278_1214, v278_1215, v278_1216, v278_1217, v278_1219, v278_1220, v278_1221, v278_1222, v278_1225, v278_1227, v278_1228, v278_1231, v278_1233, v278_1236, v278_1237, v278_1238, v278_1240, v278_1243, v278_1244, v278_1245, v278_1246, v278_1248, v278_1249, v278_1250, v278_1253, v278_1254, v278_1255, n_14, n_8, inB_of, Nat.reduceLT, Prod.mk.injEq, true_and, rB, rBn, rBa, rBb, rBc, rBd, Evk_v, Evk_n, Nat.reduceAdd, Nat.reduceLeDiff, Nat.le_refl, Nat.zero_le, cz_0, cz_1, cI_1, cO_1, cz_2, cI_2, cO_2, cL_2, cD_2, cz_3, cI_3, cO_3, cL_3, cD_3, cz_4, cI_4, cO_4, cL_4, cD_4, cz_5, cI_5, cO_5, cL_5, cD_5, cz_6, cI_6, cO_6, cL_6, cD_6, cz_7, cI_7, cO_7, cL_7, cD_7, cz_8, cI_8, cO_8, cL_8, cD_8, List.mem_cons, or_true, true_or, and_self, sI_S, sL_S, sR_S, sD_S, gb_S, sI_R, sL_R, sD_R, gb_R, sI_L, sR_I, sR_L, sL_I, sD_I, sD_L, gb_I, gb_L, q1, q2, q3, q4, b1, b2, b3, b4, t1, t2, t3, t4, y_S1 hL, y_S20 hL, y_S40 hL, y_V40 hL, s20, s40, i40, e1, e2, y_S20 hL2, y_S30 hL2, m140 hL2, if_pos e3, j_01, n_z0, if_pos z, if_pos e6]
  · simp only [v278_1190, v278_1191, v278_1192, v278_1194, v278_1195, v278_1196, v278_1197, v278_1198, v278_1200, v278_1201, v278_1202, v278_1203, v278_1204, v278_1207, v278_1209, v278_1210, v278_1211, v278_1213, v278_1214, v278_1215, v278_1216, v278_1217, v278_1219, v278_1220, v278_1221, v278_1222, v278_1225, v278_1227, v278_1228, v278_1231, v278_1233, v278_1236, v278_1237, v278_1238, v278_1240, v278_1243, v278_1244, v278_1245, v278_1246, v278_1248, v278_1249, v278_1250, v278_1253, v278_1254, v278_1255, n_14, n_8, inB_of, Nat.reduceLT, Prod.mk.injEq, true_and, rB, rBn, rBa, rBb, rBc, rBd, Evk_v, Evk_n, Nat.reduceAdd, Nat.reduceLeDiff, Nat.le_refl, Nat.zero_le, cz_0, cz_1, cI_1, cO_1, cz_2, cI_2, cO_2, cL_2, cD_2, cz_3, cI_3, cO_3, cL_3, cD_3, cz_4, cI_4, cO_4, cL_4, cD_4, cz_5, cI_5, cO_5, cL_5, cD_5, cz_6, cI_6, cO_6, cL_6, cD_6, cz_7, cI_7, cO_7, cL_7, cD_7, cz_8, cI_8, cO_8, cL_8, cD_8, List.mem_cons, or_true, true_or, and_self, sI_S, sL_S, sR_S, sD_S, gb_S, sI_R, sL_R, sD_R, gb_R, sI_L, sR_I, sR_L, sL_I, sD_I, sD_L, gb_I, gb_L, q1, q2, q3, q4, b1, b2, b3, b4, t1, t2, t3, t4, y_S1 hL, y_S20 hL, y_S40 hL, y_V40 hL, s20, s40, i40, e1, e2, y_S20 hL2, y_S30 hL2, m140 hL2, if_pos e3, j_01, n_z0, if_neg z]
theorem L14 (hI : Inv L xs h) (hc : 5 * c + 5 ≤ L) (hl : L ≤ 2560) {a6 a7 a8 : Option MV} : LG L xs d c h (Ev (d + 21) 278 1258 [some (vR (40, 0, 0)), some (vR (1, 0, 0)), some (vR (20, 0, 0)), some (vR (30, 0, 0)), some (vR (31, 0, 0)), some (vI (iN (5 * c))), a6, a7, a8] [] h) := by
  have q0 : (iN (5 * c)).toNatClampNeg = 5 * c := n_i (by omega)
  have q1 : iN (5 * c) + 1 = iN (5 * c + 1) := iN_add _ 1
  have q2 : iN (5 * c) + 2 = iN (5 * c + 2) := iN_add _ 2
  have q3 : iN (5 * c) + 3 = iN (5 * c + 3) := iN_add _ 3
  have q4 : iN (5 * c) + 4 = iN (5 * c + 4) := iN_add _ 4
  have b1 : inB (iN (5 * c + 1)) L := inB_of (by omega) (by omega)
  have b2 : inB (iN (5 * c + 2)) L := inB_of (by omega) (by omega)
  have b3 : inB (iN (5 * c + 3)) L := inB_of (by omega) (by omega)
  have b4 : inB (iN (5 * c + 4)) L := inB_of (by omega) (by omega)
  have t1 : (iN (5 * c + 1)).toNatClampNeg = 5 * c + 1 := n_i (by omega)
  have t2 : (iN (5 * c + 2)).toNatClampNeg = 5 * c + 2 := n_i (by omega)
  have t3 : (iN (5 * c + 3)).toNatClampNeg = 5 * c + 3 := n_i (by omega)
  have t4 : (iN (5 * c + 4)).toNatClampNeg = 5 * c + 4 := n_i (by omega)
  obtain ⟨hL, P, H, X, ci, mi, wi⟩ := hI
  obtain ⟨k, b, h1, h2, e1, e2, e3, e4, i2, n1, n2, n3⟩ := c14 (d := d) hL ci mi wi (x := xs (5 * c + 1)) (y := xs (5 * c + 2))
  obtain ⟨s20, s40, i40⟩ := sc_S (Ev_S e1) hL
  have hL2 := i2.1
  refine ⟨some (vI k), some (vI b), a8, h2, ?_, i2, n1, n2, n3⟩
  by_cases z : k = 0
  · have e6 : lg_cmp (gL h2 (30, 0, 0) 0) b.toInt64 = 0 := by rw [e4 z]; exact lg_self
    simp only [v278_1258, v278_1259, v278_1260, v278_1262, v278_1263, v278_1264, v278_1265, v278_1266, v278_1268, v278_1269, v278_1270, v278_1271, v278_1272, v278_1275, v278_1277, v278_1278, v278_1279, v278_1281, v278_1282, v278_1283, v278_1284, v278_1285, v278_1287, v278_1288, v278_1289, v278_1290, v278_1293, v278_1295, v278_1296, v278_1299, v278_1301, v278_1304, v278_1305, v278_1306, v278_1308, v278_1311, v278_1312, v278_1313, v278_1314, v278_1316, v278_1317, v278_1318, v278_1321, v278_1322, v278_1323, n_14, n_8, inB_of, Nat.reduceLT, Prod.mk.injEq, true_and, rB, rBn, rBa, rBb, rBc, rBd, Evk_v, Evk_n, Nat.reduceAdd, Nat.reduceLeDiff, Nat.le_refl, Nat.zero_le, cz_0, cz_1, cI_1, cO_1, cz_2, cI_2, cO_2, cL_2, cD_2, cz_3, cI_3, cO_3, cL_3, cD_3, cz_4, cI_4, cO_4, cL_4, cD_4, cz_5, cI_5, cO_5, cL_5, cD_5, cz_6, cI_6, cO_6, cL_6, cD_6, cz_7, cI_7, cO_7, cL_7, cD_7, cz_8, cI_8, cO_8, cL_8, cD_8, List.mem_cons, or_true, true_or, and_self, sI_S, sL_S, sR_S, sD_S, gb_S, sI_R, sL_R, sD_R, gb_R, sI_L, sR_I, sR_L, sL_I, sD_I, sD_L, gb_I, gb_L, q1, q2, q3, q4, b1, b2, b3, b4, t1, t2, t3, t4, y_S1 hL, y_S20 hL, y_S40 hL, y_V40 hL, s20, s40, i40, e1, e2, y_S20 hL2, y_S30 hL2, m140 hL2, if_pos e3, j_01, n_z0, if_pos z, if_pos e6]
  · simp only [v278_1258, v278_1259, v278_1260, v278_1262, v278_1263, v278_1264, v278_1265, v278_1266, v278_1268, v278_1269, v278_1270, v278_1271, v278_1272, v278_1275, v278_1277, v278_1278, v278_1279, v278_1281, v278_1282, v278_1283, v278_1284, v278_1285, v278_1287, v278_1288, v278_1289, v278_1290, v278_1293, v278_1295, v278_1296, v278_1299, v278_1301, v278_1304, v278_1305, v278_1306, v278_1308, v278_1311, v278_1312, v278_1313, v278_1314, v278_1316, v278_1317, v278_1318, v278_1321, v278_1322, v278_1323, n_14, n_8, inB_of, Nat.reduceLT, Prod.mk.injEq, true_and, rB, rBn, rBa, rBb, rBc, rBd, Evk_v, Evk_n, Nat.reduceAdd, Nat.reduceLeDiff, Nat.le_refl, Nat.zero_le, cz_0, cz_1, cI_1, cO_1, cz_2, cI_2, cO_2, cL_2, cD_2, cz_3, cI_3, cO_3, cL_3, cD_3, cz_4, cI_4, cO_4, cL_4, cD_4, cz_5, cI_5, cO_5, cL_5, cD_5, cz_6, cI_6, cO_6, cL_6, cD_6, cz_7, cI_7, cO_7, cL_7, cD_7, cz_8, cI_8, cO_8, cL_8, cD_8, List.mem_cons, or_true, true_or, and_self, sI_S, sL_S, sR_S, sD_S, gb_S, sI_R, sL_R, sD_R, gb_R, sI_L, sR_I, sR_L, sL_I, sD_I, sD_L, gb_I, gb_L, q1, q2, q3, q4, b1, b2, b3, b4, t1, t2, t3, t4, y_S1 hL, y_S20 hL, y_S40 hL, y_V40 hL, s20, s40, i40, e1, e2, y_S20 hL2, y_S30 hL2, m140 hL2, if_pos e3, j_01, n_z0, if_neg z]
theorem L15 (hI : Inv L xs h) (hc : 5 * c + 5 ≤ L) (hl : L ≤ 2560) {a6 a7 a8 : Option MV} : LG L xs d c h (Ev (d + 21) 278 1326 [some (vR (40, 0, 0)), some (vR (1, 0, 0)), some (vR (20, 0, 0)), some (vR (30, 0, 0)), some (vR (31, 0, 0)), some (vI (iN (5 * c))), a6, a7, a8] [] h) := by
  have q0 : (iN (5 * c)).toNatClampNeg = 5 * c := n_i (by omega)
  have q1 : iN (5 * c) + 1 = iN (5 * c + 1) := iN_add _ 1
  have q2 : iN (5 * c) + 2 = iN (5 * c + 2) := iN_add _ 2
  have q3 : iN (5 * c) + 3 = iN (5 * c + 3) := iN_add _ 3
  have q4 : iN (5 * c) + 4 = iN (5 * c + 4) := iN_add _ 4
  have b1 : inB (iN (5 * c + 1)) L := inB_of (by omega) (by omega)
  have b2 : inB (iN (5 * c + 2)) L := inB_of (by omega) (by omega)
  have b3 : inB (iN (5 * c + 3)) L := inB_of (by omega) (by omega)
  have b4 : inB (iN (5 * c + 4)) L := inB_of (by omega) (by omega)
  have t1 : (iN (5 * c + 1)).toNatClampNeg = 5 * c + 1 := n_i (by omega)
  have t2 : (iN (5 * c + 2)).toNatClampNeg = 5 * c + 2 := n_i (by omega)
  have t3 : (iN (5 * c + 3)).toNatClampNeg = 5 * c + 3 := n_i (by omega)
  have t4 : (iN (5 * c + 4)).toNatClampNeg = 5 * c + 4 := n_i (by omega)
  obtain ⟨hL, P, H, X, ci, mi, wi⟩ := hI
  obtain ⟨k, b, h1, h2, e1, e2, e3, e4, i2, n1, n2, n3⟩ := c15 (d := d) hL ci mi wi (x := xs (5 * c + 1))
  obtain ⟨s20, s40, i40⟩ := sc_S (Ev_S e1) hL
  have hL2 := i2.1
  refine ⟨some (vI k), some (vI b), a8, h2, ?_, i2, n1, n2, n3⟩
  by_cases z : k = 0
  · have e6 : lg_cmp (gL h2 (30, 0, 0) 0) b.toInt64 = 0 := by rw [e4 z]; exact lg_self
    simp only [v278_1326, v278_1327, v278_1328, v278_1330, v278_1331, v278_1332, v278_1333, v278_1334, v278_1337, v278_1339, v278_1340, v278_1341, v278_1343, v278_1344, v278_1345, v278_1346, v278_1349, v278_1351, v278_1352, v278_1355, v278_1357, v278_1360, v278_1361, v278_1362, v278_1364, v278_1367, v278_1368, v278_1369, v278_1370, v278_1372, v278_1373, v278_1374, v278_1377, v278_1378, v278_1379, n_14, n_8, inB_of, Nat.reduceLT, Prod.mk.injEq, true_and, rB, rBn, rBa, rBb, rBc, rBd, Evk_v, Evk_n, Nat.reduceAdd, Nat.reduceLeDiff, Nat.le_refl, Nat.zero_le, cz_0, cz_1, cI_1, cO_1, cz_2, cI_2, cO_2, cL_2, cD_2, cz_3, cI_3, cO_3, cL_3, cD_3, cz_4, cI_4, cO_4, cL_4, cD_4, cz_5, cI_5, cO_5, cL_5, cD_5, cz_6, cI_6, cO_6, cL_6, cD_6, cz_7, cI_7, cO_7, cL_7, cD_7, cz_8, cI_8, cO_8, cL_8, cD_8, List.mem_cons, or_true, true_or, and_self, sI_S, sL_S, sR_S, sD_S, gb_S, sI_R, sL_R, sD_R, gb_R, sI_L, sR_I, sR_L, sL_I, sD_I, sD_L, gb_I, gb_L, q1, q2, q3, q4, b1, b2, b3, b4, t1, t2, t3, t4, y_S1 hL, y_S20 hL, y_S40 hL, y_V40 hL, s20, s40, i40, e1, e2, y_S20 hL2, y_S30 hL2, m140 hL2, if_pos e3, j_01, n_z0, if_pos z, if_pos e6]
  · simp only [v278_1326, v278_1327, v278_1328, v278_1330, v278_1331, v278_1332, v278_1333, v278_1334, v278_1337, v278_1339, v278_1340, v278_1341, v278_1343, v278_1344, v278_1345, v278_1346, v278_1349, v278_1351, v278_1352, v278_1355, v278_1357, v278_1360, v278_1361, v278_1362, v278_1364, v278_1367, v278_1368, v278_1369, v278_1370, v278_1372, v278_1373, v278_1374, v278_1377, v278_1378, v278_1379, n_14, n_8, inB_of, Nat.reduceLT, Prod.mk.injEq, true_and, rB, rBn, rBa, rBb, rBc, rBd, Evk_v, Evk_n, Nat.reduceAdd, Nat.reduceLeDiff, Nat.le_refl, Nat.zero_le, cz_0, cz_1, cI_1, cO_1, cz_2, cI_2, cO_2, cL_2, cD_2, cz_3, cI_3, cO_3, cL_3, cD_3, cz_4, cI_4, cO_4, cL_4, cD_4, cz_5, cI_5, cO_5, cL_5, cD_5, cz_6, cI_6, cO_6, cL_6, cD_6, cz_7, cI_7, cO_7, cL_7, cD_7, cz_8, cI_8, cO_8, cL_8, cD_8, List.mem_cons, or_true, true_or, and_self, sI_S, sL_S, sR_S, sD_S, gb_S, sI_R, sL_R, sD_R, gb_R, sI_L, sR_I, sR_L, sL_I, sD_I, sD_L, gb_I, gb_L, q1, q2, q3, q4, b1, b2, b3, b4, t1, t2, t3, t4, y_S1 hL, y_S20 hL, y_S40 hL, y_V40 hL, s20, s40, i40, e1, e2, y_S20 hL2, y_S30 hL2, m140 hL2, if_pos e3, j_01, n_z0, if_neg z]
theorem L16 (hI : Inv L xs h) (hc : 5 * c + 5 ≤ L) (hl : L ≤ 2560) {a6 a7 a8 : Option MV} : LG L xs d c h (Ev (d + 21) 278 1382 [some (vR (40, 0, 0)), some (vR (1, 0, 0)), some (vR (20, 0, 0)), some (vR (30, 0, 0)), some (vR (31, 0, 0)), some (vI (iN (5 * c))), a6, a7, a8] [] h) := by
  have q0 : (iN (5 * c)).toNatClampNeg = 5 * c := n_i (by omega)
  have q1 : iN (5 * c) + 1 = iN (5 * c + 1) := iN_add _ 1
  have q2 : iN (5 * c) + 2 = iN (5 * c + 2) := iN_add _ 2
  have q3 : iN (5 * c) + 3 = iN (5 * c + 3) := iN_add _ 3
  have q4 : iN (5 * c) + 4 = iN (5 * c + 4) := iN_add _ 4
  have b1 : inB (iN (5 * c + 1)) L := inB_of (by omega) (by omega)
  have b2 : inB (iN (5 * c + 2)) L := inB_of (by omega) (by omega)
  have b3 : inB (iN (5 * c + 3)) L := inB_of (by omega) (by omega)
  have b4 : inB (iN (5 * c + 4)) L := inB_of (by omega) (by omega)
  have t1 : (iN (5 * c + 1)).toNatClampNeg = 5 * c + 1 := n_i (by omega)
  have t2 : (iN (5 * c + 2)).toNatClampNeg = 5 * c + 2 := n_i (by omega)
  have t3 : (iN (5 * c + 3)).toNatClampNeg = 5 * c + 3 := n_i (by omega)
  have t4 : (iN (5 * c + 4)).toNatClampNeg = 5 * c + 4 := n_i (by omega)
  obtain ⟨hL, P, H, X, ci, mi, wi⟩ := hI
  obtain ⟨k, b, h1, h2, e1, e2, e3, e4, i2, n1, n2, n3⟩ := c16 (d := d) hL ci mi wi (x := xs (5 * c + 1))
  obtain ⟨s20, s40, i40⟩ := sc_S (Ev_S e1) hL
  have hL2 := i2.1
  refine ⟨some (vI k), some (vI b), a8, h2, ?_, i2, n1, n2, n3⟩
  by_cases z : k = 0
  · have e6 : lg_cmp (gL h2 (30, 0, 0) 0) b.toInt64 = 0 := by rw [e4 z]; exact lg_self
    simp only [v278_1382, v278_1383, v278_1384, v278_1386, v278_1387, v278_1388, v278_1389, v278_1390, v278_1393, v278_1395, v278_1396, v278_1397, v278_1399, v278_1400, v278_1401, v278_1402, v278_1405, v278_1407, v278_1408, v278_1411, v278_1413, v278_1416, v278_1417, v278_1418, v278_1420, v278_1423, v278_1424, v278_1425, v278_1426, v278_1428, v278_1429, v278_1430, v278_1433, v278_1434, v278_1435, n_14, n_8, inB_of, Nat.reduceLT, Prod.mk.injEq, true_and, rB, rBn, rBa, rBb, rBc, rBd, Evk_v, Evk_n, Nat.reduceAdd, Nat.reduceLeDiff, Nat.le_refl, Nat.zero_le, cz_0, cz_1, cI_1, cO_1, cz_2, cI_2, cO_2, cL_2, cD_2, cz_3, cI_3, cO_3, cL_3, cD_3, cz_4, cI_4, cO_4, cL_4, cD_4, cz_5, cI_5, cO_5, cL_5, cD_5, cz_6, cI_6, cO_6, cL_6, cD_6, cz_7, cI_7, cO_7, cL_7, cD_7, cz_8, cI_8, cO_8, cL_8, cD_8, List.mem_cons, or_true, true_or, and_self, sI_S, sL_S, sR_S, sD_S, gb_S, sI_R, sL_R, sD_R, gb_R, sI_L, sR_I, sR_L, sL_I, sD_I, sD_L, gb_I, gb_L, q1, q2, q3, q4, b1, b2, b3, b4, t1, t2, t3, t4, y_S1 hL, y_S20 hL, y_S40 hL, y_V40 hL, s20, s40, i40, e1, e2, y_S20 hL2, y_S30 hL2, m140 hL2, if_pos e3, j_01, n_z0, if_pos z, if_pos e6]
  · simp only [v278_1382, v278_1383, v278_1384, v278_1386, v278_1387, v278_1388, v278_1389, v278_1390, v278_1393, v278_1395, v278_1396, v278_1397, v278_1399, v278_1400, v278_1401, v278_1402, v278_1405, v278_1407, v278_1408, v278_1411, v278_1413, v278_1416, v278_1417, v278_1418, v278_1420, v278_1423, v278_1424, v278_1425, v278_1426, v278_1428, v278_1429, v278_1430, v278_1433, v278_1434, v278_1435, n_14, n_8, inB_of, Nat.reduceLT, Prod.mk.injEq, true_and, rB, rBn, rBa, rBb, rBc, rBd, Evk_v, Evk_n, Nat.reduceAdd, Nat.reduceLeDiff, Nat.le_refl, Nat.zero_le, cz_0, cz_1, cI_1, cO_1, cz_2, cI_2, cO_2, cL_2, cD_2, cz_3, cI_3, cO_3, cL_3, cD_3, cz_4, cI_4, cO_4, cL_4, cD_4, cz_5, cI_5, cO_5, cL_5, cD_5, cz_6, cI_6, cO_6, cL_6, cD_6, cz_7, cI_7, cO_7, cL_7, cD_7, cz_8, cI_8, cO_8, cL_8, cD_8, List.mem_cons, or_true, true_or, and_self, sI_S, sL_S, sR_S, sD_S, gb_S, sI_R, sL_R, sD_R, gb_R, sI_L, sR_I, sR_L, sL_I, sD_I, sD_L, gb_I, gb_L, q1, q2, q3, q4, b1, b2, b3, b4, t1, t2, t3, t4, y_S1 hL, y_S20 hL, y_S40 hL, y_V40 hL, s20, s40, i40, e1, e2, y_S20 hL2, y_S30 hL2, m140 hL2, if_pos e3, j_01, n_z0, if_neg z]
theorem L17 (hI : Inv L xs h) (hc : 5 * c + 5 ≤ L) (hl : L ≤ 2560) {a6 a7 a8 : Option MV} : LG L xs d c h (Ev (d + 21) 278 1438 [some (vR (40, 0, 0)), some (vR (1, 0, 0)), some (vR (20, 0, 0)), some (vR (30, 0, 0)), some (vR (31, 0, 0)), some (vI (iN (5 * c))), a6, a7, a8] [] h) := by
  have q0 : (iN (5 * c)).toNatClampNeg = 5 * c := n_i (by omega)
  have q1 : iN (5 * c) + 1 = iN (5 * c + 1) := iN_add _ 1
  have q2 : iN (5 * c) + 2 = iN (5 * c + 2) := iN_add _ 2
  have q3 : iN (5 * c) + 3 = iN (5 * c + 3) := iN_add _ 3
  have q4 : iN (5 * c) + 4 = iN (5 * c + 4) := iN_add _ 4
  have b1 : inB (iN (5 * c + 1)) L := inB_of (by omega) (by omega)
  have b2 : inB (iN (5 * c + 2)) L := inB_of (by omega) (by omega)
  have b3 : inB (iN (5 * c + 3)) L := inB_of (by omega) (by omega)
  have b4 : inB (iN (5 * c + 4)) L := inB_of (by omega) (by omega)
  have t1 : (iN (5 * c + 1)).toNatClampNeg = 5 * c + 1 := n_i (by omega)
  have t2 : (iN (5 * c + 2)).toNatClampNeg = 5 * c + 2 := n_i (by omega)
  have t3 : (iN (5 * c + 3)).toNatClampNeg = 5 * c + 3 := n_i (by omega)
  have t4 : (iN (5 * c + 4)).toNatClampNeg = 5 * c + 4 := n_i (by omega)
  obtain ⟨hL, P, H, X, ci, mi, wi⟩ := hI
  obtain ⟨k, b, h1, h2, e1, e2, e3, e4, i2, n1, n2, n3⟩ := c17 (d := d) hL ci mi wi
  obtain ⟨s20, s40, i40⟩ := sc_S (Ev_S e1) hL
  have hL2 := i2.1
  refine ⟨some (vI k), some (vI b), a8, h2, ?_, i2, n1, n2, n3⟩
  by_cases z : k = 0
  · have e6 : lg_cmp (gL h2 (30, 0, 0) 0) b.toInt64 = 0 := by rw [e4 z]; exact lg_self
    simp only [v278_1438, v278_1439, v278_1440, v278_1443, v278_1445, v278_1446, v278_1449, v278_1451, v278_1452, v278_1455, v278_1457, v278_1460, v278_1461, v278_1462, v278_1464, v278_1467, v278_1468, v278_1469, v278_1470, v278_1472, v278_1473, v278_1474, v278_1477, v278_1478, v278_1479, n_14, n_8, inB_of, Nat.reduceLT, Prod.mk.injEq, true_and, rB, rBn, rBa, rBb, rBc, rBd, Evk_v, Evk_n, Nat.reduceAdd, Nat.reduceLeDiff, Nat.le_refl, Nat.zero_le, cz_0, cz_1, cI_1, cO_1, cz_2, cI_2, cO_2, cL_2, cD_2, cz_3, cI_3, cO_3, cL_3, cD_3, cz_4, cI_4, cO_4, cL_4, cD_4, cz_5, cI_5, cO_5, cL_5, cD_5, cz_6, cI_6, cO_6, cL_6, cD_6, cz_7, cI_7, cO_7, cL_7, cD_7, cz_8, cI_8, cO_8, cL_8, cD_8, List.mem_cons, or_true, true_or, and_self, sI_S, sL_S, sR_S, sD_S, gb_S, sI_R, sL_R, sD_R, gb_R, sI_L, sR_I, sR_L, sL_I, sD_I, sD_L, gb_I, gb_L, q1, q2, q3, q4, b1, b2, b3, b4, t1, t2, t3, t4, y_S1 hL, y_S20 hL, y_S40 hL, y_V40 hL, s20, s40, i40, e1, e2, y_S20 hL2, y_S30 hL2, m140 hL2, if_pos e3, j_01, n_z0, if_pos z, if_pos e6]
  · simp only [v278_1438, v278_1439, v278_1440, v278_1443, v278_1445, v278_1446, v278_1449, v278_1451, v278_1452, v278_1455, v278_1457, v278_1460, v278_1461, v278_1462, v278_1464, v278_1467, v278_1468, v278_1469, v278_1470, v278_1472, v278_1473, v278_1474, v278_1477, v278_1478, v278_1479, n_14, n_8, inB_of, Nat.reduceLT, Prod.mk.injEq, true_and, rB, rBn, rBa, rBb, rBc, rBd, Evk_v, Evk_n, Nat.reduceAdd, Nat.reduceLeDiff, Nat.le_refl, Nat.zero_le, cz_0, cz_1, cI_1, cO_1, cz_2, cI_2, cO_2, cL_2, cD_2, cz_3, cI_3, cO_3, cL_3, cD_3, cz_4, cI_4, cO_4, cL_4, cD_4, cz_5, cI_5, cO_5, cL_5, cD_5, cz_6, cI_6, cO_6, cL_6, cD_6, cz_7, cI_7, cO_7, cL_7, cD_7, cz_8, cI_8, cO_8, cL_8, cD_8, List.mem_cons, or_true, true_or, and_self, sI_S, sL_S, sR_S, sD_S, gb_S, sI_R, sL_R, sD_R, gb_R, sI_L, sR_I, sR_L, sL_I, sD_I, sD_L, gb_I, gb_L, q1, q2, q3, q4, b1, b2, b3, b4, t1, t2, t3, t4, y_S1 hL, y_S20 hL, y_S40 hL, y_V40 hL, s20, s40, i40, e1, e2, y_S20 hL2, y_S30 hL2, m140 hL2, if_pos e3, j_01, n_z0, if_neg z]
theorem L18 (hI : Inv L xs h) (hc : 5 * c + 5 ≤ L) (hl : L ≤ 2560) {a6 a7 a8 : Option MV} : LG L xs d c h (Ev (d + 21) 278 1482 [some (vR (40, 0, 0)), some (vR (1, 0, 0)), some (vR (20, 0, 0)), some (vR (30, 0, 0)), some (vR (31, 0, 0)), some (vI (iN (5 * c))), a6, a7, a8] [] h) := by
  have q0 : (iN (5 * c)).toNatClampNeg = 5 * c := n_i (by omega)
  have q1 : iN (5 * c) + 1 = iN (5 * c + 1) := iN_add _ 1
  have q2 : iN (5 * c) + 2 = iN (5 * c + 2) := iN_add _ 2
  have q3 : iN (5 * c) + 3 = iN (5 * c + 3) := iN_add _ 3
  have q4 : iN (5 * c) + 4 = iN (5 * c + 4) := iN_add _ 4
  have b1 : inB (iN (5 * c + 1)) L := inB_of (by omega) (by omega)
  have b2 : inB (iN (5 * c + 2)) L := inB_of (by omega) (by omega)
  have b3 : inB (iN (5 * c + 3)) L := inB_of (by omega) (by omega)
  have b4 : inB (iN (5 * c + 4)) L := inB_of (by omega) (by omega)
  have t1 : (iN (5 * c + 1)).toNatClampNeg = 5 * c + 1 := n_i (by omega)
  have t2 : (iN (5 * c + 2)).toNatClampNeg = 5 * c + 2 := n_i (by omega)
  have t3 : (iN (5 * c + 3)).toNatClampNeg = 5 * c + 3 := n_i (by omega)
  have t4 : (iN (5 * c + 4)).toNatClampNeg = 5 * c + 4 := n_i (by omega)
  obtain ⟨hL, P, H, X, ci, mi, wi⟩ := hI
  obtain ⟨k, b, h1, h2, e1, e2, e3, e4, i2, n1, n2, n3⟩ := c18 (d := d) hL ci mi wi (x := xs (5 * c + 1)) (y := xs (5 * c + 2)) (z := xs (5 * c + 3)) (u := xs (5 * c + 4))
  obtain ⟨s20, s40, i40⟩ := sc_S (Ev_S e1) hL
  have hL2 := i2.1
  refine ⟨some (vI k), some (vI b), a8, h2, ?_, i2, n1, n2, n3⟩
  by_cases z : k = 0
  · have e6 : lg_cmp (gL h2 (30, 0, 0) 0) b.toInt64 = 0 := by rw [e4 z]; exact lg_self
    simp only [v278_1482, v278_1483, v278_1484, v278_1486, v278_1487, v278_1488, v278_1489, v278_1490, v278_1492, v278_1493, v278_1494, v278_1495, v278_1496, v278_1498, v278_1499, v278_1500, v278_1501, v278_1502, v278_1504, v278_1505, v278_1506, v278_1507, v278_1508, v278_1511, v278_1513, v278_1514, v278_1515, v278_1517, v278_1518, v278_1519, v278_1520, v278_1521, v278_1523, v278_1524, v278_1525, v278_1526, v278_1527, v278_1529, v278_1530, v278_1531, v278_1532, v278_1533, v278_1535, v278_1536, v278_1537, v278_1538, v278_1541, v278_1543, v278_1544, v278_1547, v278_1549, v278_1552, v278_1553, v278_1554, v278_1556, v278_1559, v278_1560, v278_1561, v278_1562, v278_1564, v278_1565, v278_1566, v278_1569, v278_1570, v278_1571, n_14, n_8, inB_of, Nat.reduceLT, Prod.mk.injEq, true_and, rB, rBn, rBa, rBb, rBc, rBd, Evk_v, Evk_n, Nat.reduceAdd, Nat.reduceLeDiff, Nat.le_refl, Nat.zero_le, cz_0, cz_1, cI_1, cO_1, cz_2, cI_2, cO_2, cL_2, cD_2, cz_3, cI_3, cO_3, cL_3, cD_3, cz_4, cI_4, cO_4, cL_4, cD_4, cz_5, cI_5, cO_5, cL_5, cD_5, cz_6, cI_6, cO_6, cL_6, cD_6, cz_7, cI_7, cO_7, cL_7, cD_7, cz_8, cI_8, cO_8, cL_8, cD_8, List.mem_cons, or_true, true_or, and_self, sI_S, sL_S, sR_S, sD_S, gb_S, sI_R, sL_R, sD_R, gb_R, sI_L, sR_I, sR_L, sL_I, sD_I, sD_L, gb_I, gb_L, q1, q2, q3, q4, b1, b2, b3, b4, t1, t2, t3, t4, y_S1 hL, y_S20 hL, y_S40 hL, y_V40 hL, s20, s40, i40, e1, e2, y_S20 hL2, y_S30 hL2, m140 hL2, if_pos e3, j_01, n_z0, if_pos z, if_pos e6]
  · simp only [v278_1482, v278_1483, v278_1484, v278_1486, v278_1487, v278_1488, v278_1489, v278_1490, v278_1492, v278_1493, v278_1494, v278_1495, v278_1496, v278_1498, v278_1499, v278_1500, v278_1501, v278_1502, v278_1504, v278_1505, v278_1506, v278_1507, v278_1508, v278_1511, v278_1513, v278_1514, v278_1515, v278_1517, v278_1518, v278_1519, v278_1520, v278_1521, v278_1523, v278_1524, v278_1525, v278_1526, v278_1527, v278_1529, v278_1530, v278_1531, v278_1532, v278_1533, v278_1535, v278_1536, v278_1537, v278_1538, v278_1541, v278_1543, v278_1544, v278_1547, v278_1549, v278_1552, v278_1553, v278_1554, v278_1556, v278_1559, v278_1560, v278_1561, v278_1562, v278_1564, v278_1565, v278_1566, v278_1569, v278_1570, v278_1571, n_14, n_8, inB_of, Nat.reduceLT, Prod.mk.injEq, true_and, rB, rBn, rBa, rBb, rBc, rBd, Evk_v, Evk_n, Nat.reduceAdd, Nat.reduceLeDiff, Nat.le_refl, Nat.zero_le, cz_0, cz_1, cI_1, cO_1, cz_2, cI_2, cO_2, cL_2, cD_2, cz_3, cI_3, cO_3, cL_3, cD_3, cz_4, cI_4, cO_4, cL_4, cD_4, cz_5, cI_5, cO_5, cL_5, cD_5, cz_6, cI_6, cO_6, cL_6, cD_6, cz_7, cI_7, cO_7, cL_7, cD_7, cz_8, cI_8, cO_8, cL_8, cD_8, List.mem_cons, or_true, true_or, and_self, sI_S, sL_S, sR_S, sD_S, gb_S, sI_R, sL_R, sD_R, gb_R, sI_L, sR_I, sR_L, sL_I, sD_I, sD_L, gb_I, gb_L, q1, q2, q3, q4, b1, b2, b3, b4, t1, t2, t3, t4, y_S1 hL, y_S20 hL, y_S40 hL, y_V40 hL, s20, s40, i40, e1, e2, y_S20 hL2, y_S30 hL2, m140 hL2, if_pos e3, j_01, n_z0, if_neg z]
theorem L19 (hI : Inv L xs h) (hc : 5 * c + 5 ≤ L) (hl : L ≤ 2560) {a6 a7 a8 : Option MV} : LG L xs d c h (Ev (d + 21) 278 1574 [some (vR (40, 0, 0)), some (vR (1, 0, 0)), some (vR (20, 0, 0)), some (vR (30, 0, 0)), some (vR (31, 0, 0)), some (vI (iN (5 * c))), a6, a7, a8] [] h) := by
  have q0 : (iN (5 * c)).toNatClampNeg = 5 * c := n_i (by omega)
  have q1 : iN (5 * c) + 1 = iN (5 * c + 1) := iN_add _ 1
  have q2 : iN (5 * c) + 2 = iN (5 * c + 2) := iN_add _ 2
  have q3 : iN (5 * c) + 3 = iN (5 * c + 3) := iN_add _ 3
  have q4 : iN (5 * c) + 4 = iN (5 * c + 4) := iN_add _ 4
  have b1 : inB (iN (5 * c + 1)) L := inB_of (by omega) (by omega)
  have b2 : inB (iN (5 * c + 2)) L := inB_of (by omega) (by omega)
  have b3 : inB (iN (5 * c + 3)) L := inB_of (by omega) (by omega)
  have b4 : inB (iN (5 * c + 4)) L := inB_of (by omega) (by omega)
  have t1 : (iN (5 * c + 1)).toNatClampNeg = 5 * c + 1 := n_i (by omega)
  have t2 : (iN (5 * c + 2)).toNatClampNeg = 5 * c + 2 := n_i (by omega)
  have t3 : (iN (5 * c + 3)).toNatClampNeg = 5 * c + 3 := n_i (by omega)
  have t4 : (iN (5 * c + 4)).toNatClampNeg = 5 * c + 4 := n_i (by omega)
  obtain ⟨hL, P, H, X, ci, mi, wi⟩ := hI
  obtain ⟨k, b, h1, h2, e1, e2, e3, e4, i2, n1, n2, n3⟩ := c19 (d := d) hL ci mi wi (x := xs (5 * c + 1))
  obtain ⟨s20, s40, i40⟩ := sc_S (Ev_S e1) hL
  have hL2 := i2.1
  refine ⟨some (vI k), some (vI b), a8, h2, ?_, i2, n1, n2, n3⟩
  by_cases z : k = 0
  · have e6 : lg_cmp (gL h2 (30, 0, 0) 0) b.toInt64 = 0 := by rw [e4 z]; exact lg_self
    simp only [v278_1574, v278_1575, v278_1576, v278_1578, v278_1579, v278_1580, v278_1581, v278_1582, v278_1585, v278_1587, v278_1588, v278_1589, v278_1591, v278_1592, v278_1593, v278_1594, v278_1597, v278_1599, v278_1600, v278_1603, v278_1605, v278_1608, v278_1609, v278_1610, v278_1612, v278_1615, v278_1616, v278_1617, v278_1618, v278_1620, v278_1621, v278_1622, v278_1625, v278_1626, v278_1627, n_14, n_8, inB_of, Nat.reduceLT, Prod.mk.injEq, true_and, rB, rBn, rBa, rBb, rBc, rBd, Evk_v, Evk_n, Nat.reduceAdd, Nat.reduceLeDiff, Nat.le_refl, Nat.zero_le, cz_0, cz_1, cI_1, cO_1, cz_2, cI_2, cO_2, cL_2, cD_2, cz_3, cI_3, cO_3, cL_3, cD_3, cz_4, cI_4, cO_4, cL_4, cD_4, cz_5, cI_5, cO_5, cL_5, cD_5, cz_6, cI_6, cO_6, cL_6, cD_6, cz_7, cI_7, cO_7, cL_7, cD_7, cz_8, cI_8, cO_8, cL_8, cD_8, List.mem_cons, or_true, true_or, and_self, sI_S, sL_S, sR_S, sD_S, gb_S, sI_R, sL_R, sD_R, gb_R, sI_L, sR_I, sR_L, sL_I, sD_I, sD_L, gb_I, gb_L, q1, q2, q3, q4, b1, b2, b3, b4, t1, t2, t3, t4, y_S1 hL, y_S20 hL, y_S40 hL, y_V40 hL, s20, s40, i40, e1, e2, y_S20 hL2, y_S30 hL2, m140 hL2, if_pos e3, j_01, n_z0, if_pos z, if_pos e6]
  · simp only [v278_1574, v278_1575, v278_1576, v278_1578, v278_1579, v278_1580, v278_1581, v278_1582, v278_1585, v278_1587, v278_1588, v278_1589, v278_1591, v278_1592, v278_1593, v278_1594, v278_1597, v278_1599, v278_1600, v278_1603, v278_1605, v278_1608, v278_1609, v278_1610, v278_1612, v278_1615, v278_1616, v278_1617, v278_1618, v278_1620, v278_1621, v278_1622, v278_1625, v278_1626, v278_1627, n_14, n_8, inB_of, Nat.reduceLT, Prod.mk.injEq, true_and, rB, rBn, rBa, rBb, rBc, rBd, Evk_v, Evk_n, Nat.reduceAdd, Nat.reduceLeDiff, Nat.le_refl, Nat.zero_le, cz_0, cz_1, cI_1, cO_1, cz_2, cI_2, cO_2, cL_2, cD_2, cz_3, cI_3, cO_3, cL_3, cD_3, cz_4, cI_4, cO_4, cL_4, cD_4, cz_5, cI_5, cO_5, cL_5, cD_5, cz_6, cI_6, cO_6, cL_6, cD_6, cz_7, cI_7, cO_7, cL_7, cD_7, cz_8, cI_8, cO_8, cL_8, cD_8, List.mem_cons, or_true, true_or, and_self, sI_S, sL_S, sR_S, sD_S, gb_S, sI_R, sL_R, sD_R, gb_R, sI_L, sR_I, sR_L, sL_I, sD_I, sD_L, gb_I, gb_L, q1, q2, q3, q4, b1, b2, b3, b4, t1, t2, t3, t4, y_S1 hL, y_S20 hL, y_S40 hL, y_V40 hL, s20, s40, i40, e1, e2, y_S20 hL2, y_S30 hL2, m140 hL2, if_pos e3, j_01, n_z0, if_neg z]
end LawC88
