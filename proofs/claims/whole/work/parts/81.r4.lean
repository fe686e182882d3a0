/-! READ: the text, as the class takes it, on -/


section R4
variable {L : Nat} {xs : Nat → Int32} {h h' h1 h2 : Hp} {t t' : IS} {d : Nat}
theorem y_43 (hL : Lay L xs h) {f : Nat} (hf : f < 5) : gS h (43, f, 0) = (10, fN f) := by
  have hc : f = 0 ∨ f = 1 ∨ f = 2 ∨ f = 3 ∨ f = 4 := by omega
  rcases hc with rfl | rfl | rfl | rfl | rfl
  · exact y_S43_0 hL
  · exact y_S43_1 hL
  · exact y_S43_2 hL
  · exact y_S43_3 hL
  · exact y_S43_4 hL
theorem fN_le : ∀ f, f < 5 → fN f ≤ 10 := by decide
theorem fN_sh : ∀ f, f < 5 → Int32.ofNat (fN f) >>> ((0 : Int32) &&& 31) = iN (fN f) := by decide +kernel
theorem fC_ch : ∀ f, f < 5 → ∀ a, a < fN f → (((bVal f).getD a 0 &&& 255).toUInt32 % 65536).toInt32 = iN (fC f a) ∧ vp_nar .char (iN (fC f a)) = iN (fC f a) := by decide +kernel
theorem j242 {x n : Nat} (hx : x < n) (hn : n < 100) {o : Option A3} : Ev d 242 0 [some (vI (iN x)), some (vI (iN n)), some (vO o)] [] h = some (.inl (some (vI (iN x))), h) := by
  have h1 : ¬ iN x < 0 := nlt0 (by omega)
  have h2 : iN x < iN n := ilt hx (by omega)
  simp only [v242_0, v242_1, v242_4, v242_5, v242_6, v242_9, v242_10, v242_11, v242_16, v242_17, n_14, n_8, inB_of, Nat.reduceLT, Prod.mk.injEq, true_and, rB, rBn, rBa, rBb, rBc, rBd, Evk_v, Evk_n, Nat.reduceAdd, Nat.reduceLeDiff, Nat.le_refl, Nat.zero_le, cz_0, cz_1, cI_1, cO_1, cz_2, cI_2, cO_2, cL_2, cD_2, cz_3, cI_3, cO_3, cL_3, cD_3, cz_4, cI_4, cO_4, cL_4, cD_4, cz_5, cI_5, cO_5, cL_5, cD_5, cz_6, cI_6, cO_6, cL_6, cD_6, cz_7, cI_7, cO_7, cL_7, cD_7, cz_8, cI_8, cO_8, cL_8, cD_8, List.mem_cons, or_true, true_or, and_self, sI_S, sL_S, sR_S, sD_S, gb_S, sI_R, sL_R, sD_R, gb_R, sI_L, sR_I, sR_L, sL_I, sD_I, sD_L, gb_I, gb_L, if_neg h1, if_pos h2]
theorem j240 {x n : Nat} (hx : x < n) (hn : n < 100) : Ev (d + 1) 240 0 [some (vI (iN x)), some (vI (iN n))] [] h = some (.inl none, h) := by
  simp only [v240_0, v240_1, v240_2, v240_5, v240_8, v240_9, n_14, n_8, inB_of, Nat.reduceLT, Prod.mk.injEq, true_and, rB, rBn, rBa, rBb, rBc, rBd, Evk_v, Evk_n, Nat.reduceAdd, Nat.reduceLeDiff, Nat.le_refl, Nat.zero_le, cz_0, cz_1, cI_1, cO_1, cz_2, cI_2, cO_2, cL_2, cD_2, cz_3, cI_3, cO_3, cL_3, cD_3, cz_4, cI_4, cO_4, cL_4, cD_4, cz_5, cI_5, cO_5, cL_5, cD_5, cz_6, cI_6, cO_6, cL_6, cD_6, cz_7, cI_7, cO_7, cL_7, cD_7, cz_8, cI_8, cO_8, cL_8, cD_8, List.mem_cons, or_true, true_or, and_self, sI_S, sL_S, sR_S, sD_S, gb_S, sI_R, sL_R, sD_R, gb_R, sI_L, sR_I, sR_L, sL_I, sD_I, sD_L, gb_I, gb_L, j242 hx hn, c1_It, c1_Ot, bI_T, bI_F, i10, i01]
theorem j241 (hL : Lay L xs h) {f a : Nat} (hf : f < 5) (ha : a < fN f) : Ev (d + 2) 241 0 [some (vR (43, f, 0)), some (vI (iN a))] [] h = some (.inl (some (vI (iN (fC f a)))), h) := by
  obtain ⟨e1, e2⟩ := fC_ch f hf a ha
  have h10 := fN_le f hf
  have e3 : ∀ d, Ev (d + 1) 240 0 [some (vI (iN a)), some (vI (Int32.ofNat (fN f)))] [] h = some (.inl none, h) := fun d => j240 ha (by omega)
  have hin : inB (iN a) (fN f) := inB_of ha (by omega)
  have hto : (iN a).toNatClampNeg = a := n_i (by omega)
  simp only [v241_0, v241_1, v241_2, v241_3, v241_6, v241_7, v241_8, v241_9, v241_12, v241_13, v241_14, n_14, n_8, inB_of, Nat.reduceLT, Prod.mk.injEq, true_and, rB, rBn, rBa, rBb, rBc, rBd, Evk_v, Evk_n, Nat.reduceAdd, Nat.reduceLeDiff, Nat.le_refl, Nat.zero_le, cz_0, cz_1, cI_1, cO_1, cz_2, cI_2, cO_2, cL_2, cD_2, cz_3, cI_3, cO_3, cL_3, cD_3, cz_4, cI_4, cO_4, cL_4, cD_4, cz_5, cI_5, cO_5, cL_5, cD_5, cz_6, cI_6, cO_6, cL_6, cD_6, cz_7, cI_7, cO_7, cL_7, cD_7, cz_8, cI_8, cO_8, cL_8, cD_8, List.mem_cons, or_true, true_or, and_self, sI_S, sL_S, sR_S, sD_S, gb_S, sI_R, sL_R, sD_R, gb_R, sI_L, sR_I, sR_L, sL_I, sD_I, sD_L, gb_I, gb_L, y_43 hL hf, e3, hin, hto, y_V43 hL, e1, e2]
theorem j237 (hL : Lay L xs h) {f a : Nat} (hf : f < 5) (ha : a < fN f) : Ev (d + 3) 237 0 [some (vR (42, f, 0)), some (vI (iN a))] [] h = some (.inl (some (vI (iN (fC f a)))), h) := by
  obtain ⟨e1, e2⟩ := fC_ch f hf a ha
  simp only [v237_0, v237_1, v237_4, v237_7, v237_8, v237_11, v237_12, v237_15, v237_16, v237_17, v237_20, v237_24, v239_0, v239_3, v239_6, v239_7, v239_10, v239_13, v239_14, v239_17, v239_18, n_14, n_8, inB_of, Nat.reduceLT, Prod.mk.injEq, true_and, rB, rBn, rBa, rBb, rBc, rBd, Evk_v, Evk_n, Nat.reduceAdd, Nat.reduceLeDiff, Nat.le_refl, Nat.zero_le, cz_0, cz_1, cI_1, cO_1, cz_2, cI_2, cO_2, cL_2, cD_2, cz_3, cI_3, cO_3, cL_3, cD_3, cz_4, cI_4, cO_4, cL_4, cD_4, cz_5, cI_5, cO_5, cL_5, cD_5, cz_6, cI_6, cO_6, cL_6, cD_6, cz_7, cI_7, cO_7, cL_7, cD_7, cz_8, cI_8, cO_8, cL_8, cD_8, List.mem_cons, or_true, true_or, and_self, sI_S, sL_S, sR_S, sD_S, gb_S, sI_R, sL_R, sD_R, gb_R, sI_L, sR_I, sR_L, sL_I, sD_I, sD_L, gb_I, gb_L, y_S42 hL hf, y_V42 hL, y_R42 hL hf, j241 hL hf ha, e2, i10, c1_It, c1_Ot, bI_T, bI_F, i10, i01, if_true, if_false, not_true_eq_false, not_false_eq_true, Bool.false_eq_true, Int32.or_zero, ne_eq, Bool.and_eq_true, decide_eq_true_eq, decide_true, decide_false, and_true, true_and, and_false, false_and, Bool.and_true, Bool.true_and, Bool.and_false, Bool.false_and]
theorem j235 (hL : Lay L xs h) {f : Nat} (hf : f < 5) : Ev (d + 1) 235 0 [some (vR (42, f, 0))] [] h = some (.inl (some (vI (iN (fN f)))), h) := by
  simp only [v235_0, v235_1, v235_4, v235_5, v235_6, v235_9, v235_10, v238_0, v238_3, v238_6, v238_7, v238_10, v238_13, v238_14, n_14, n_8, inB_of, Nat.reduceLT, Prod.mk.injEq, true_and, rB, rBn, rBa, rBb, rBc, rBd, Evk_v, Evk_n, Nat.reduceAdd, Nat.reduceLeDiff, Nat.le_refl, Nat.zero_le, cz_0, cz_1, cI_1, cO_1, cz_2, cI_2, cO_2, cL_2, cD_2, cz_3, cI_3, cO_3, cL_3, cD_3, cz_4, cI_4, cO_4, cL_4, cD_4, cz_5, cI_5, cO_5, cL_5, cD_5, cz_6, cI_6, cO_6, cL_6, cD_6, cz_7, cI_7, cO_7, cL_7, cD_7, cz_8, cI_8, cO_8, cL_8, cD_8, List.mem_cons, or_true, true_or, and_self, sI_S, sL_S, sR_S, sD_S, gb_S, sI_R, sL_R, sD_R, gb_R, sI_L, sR_I, sR_L, sL_I, sD_I, sD_L, gb_I, gb_L, y_S42 hL hf, y_V42 hL, y_R42 hL hf, y_43 hL hf, fN_sh f hf, i10, c1_It, c1_Ot, bI_T, bI_F, i10, i01, if_true, if_false, not_true_eq_false, not_false_eq_true, Bool.false_eq_true, Int32.or_zero, ne_eq, Bool.and_eq_true, decide_eq_true_eq, decide_true, decide_false, and_true, true_and, and_false, false_and, Bool.and_true, Bool.true_and, Bool.and_false, Bool.false_and]
theorem fN_0 : ∀ f, f < 5 → (Int32.ofNat (fN f) = 0 ↔ f = 0) := by decide
theorem j236 (hL : Lay L xs h) {f : Nat} (hf : f < 5) : Ev d 236 0 [some (vR (42, f, 0))] [] h = some (.inl (some (vI (bI (f = 0)))), h) := by
  by_cases z : f = 0
  · have z1 := (fN_0 f hf).mpr z
    simp only [v236_0, v236_1, v236_4, v236_5, v236_8, v236_9, v236_12, v236_13, n_14, n_8, inB_of, Nat.reduceLT, Prod.mk.injEq, true_and, rB, rBn, rBa, rBb, rBc, rBd, Evk_v, Evk_n, Nat.reduceAdd, Nat.reduceLeDiff, Nat.le_refl, Nat.zero_le, cz_0, cz_1, cI_1, cO_1, cz_2, cI_2, cO_2, cL_2, cD_2, cz_3, cI_3, cO_3, cL_3, cD_3, cz_4, cI_4, cO_4, cL_4, cD_4, cz_5, cI_5, cO_5, cL_5, cD_5, cz_6, cI_6, cO_6, cL_6, cD_6, cz_7, cI_7, cO_7, cL_7, cD_7, cz_8, cI_8, cO_8, cL_8, cD_8, List.mem_cons, or_true, true_or, and_self, sI_S, sL_S, sR_S, sD_S, gb_S, sI_R, sL_R, sD_R, gb_R, sI_L, sR_I, sR_L, sL_I, sD_I, sD_L, gb_I, gb_L, y_S42 hL hf, y_R42 hL hf, y_43 hL hf, if_pos z1]
    rw [bI_t z]
  · have z1 : ¬ Int32.ofNat (fN f) = 0 := fun q => z ((fN_0 f hf).mp q)
    simp only [v236_0, v236_1, v236_4, v236_5, v236_8, v236_9, v236_12, v236_13, n_14, n_8, inB_of, Nat.reduceLT, Prod.mk.injEq, true_and, rB, rBn, rBa, rBb, rBc, rBd, Evk_v, Evk_n, Nat.reduceAdd, Nat.reduceLeDiff, Nat.le_refl, Nat.zero_le, cz_0, cz_1, cI_1, cO_1, cz_2, cI_2, cO_2, cL_2, cD_2, cz_3, cI_3, cO_3, cL_3, cD_3, cz_4, cI_4, cO_4, cL_4, cD_4, cz_5, cI_5, cO_5, cL_5, cD_5, cz_6, cI_6, cO_6, cL_6, cD_6, cz_7, cI_7, cO_7, cL_7, cD_7, cz_8, cI_8, cO_8, cL_8, cD_8, List.mem_cons, or_true, true_or, and_self, sI_S, sL_S, sR_S, sD_S, gb_S, sI_R, sL_R, sD_R, gb_R, sI_L, sR_I, sR_L, sL_I, sD_I, sD_L, gb_I, gb_L, y_S42 hL hf, y_R42 hL hf, y_43 hL hf, if_neg z1]
    rw [bI_f z]
theorem iN_e {x n : Nat} (hx : x < 2147483648) (hn : n < 2147483648) : (iN x = iN n) = (x = n) := iN_inj hx hn
theorem m18 {x : Nat} (hx : x < 127) : Ev d 18 0 [some (vI (iN x))] [] h = some (.inl (some (vR (42, fO x, 0))), h) := by
  have e1 : (iN x = 100) = (x = 100) := iN_e (n := 100) (by omega) (by decide)
  have e2 : (iN x = 106) = (x = 106) := iN_e (n := 106) (by omega) (by decide)
  have e3 : (iN x = 108) = (x = 108) := iN_e (n := 108) (by omega) (by decide)
  have e4 : (iN x = 110) = (x = 110) := iN_e (n := 110) (by omega) (by decide)
  have e5 : (iN x = 112) = (x = 112) := iN_e (n := 112) (by omega) (by decide)
  unfold fO
  by_cases z1 : x = 100
  · simp only [v18_0, v18_1, v18_68, v18_70, v18_71, v18_73, v18_74, v18_76, v18_77, v18_79, v18_80, v18_82, v18_83, v18_85, n_14, n_8, inB_of, Nat.reduceLT, Prod.mk.injEq, true_and, rB, rBn, rBa, rBb, rBc, rBd, Evk_v, Evk_n, Nat.reduceAdd, Nat.reduceLeDiff, Nat.le_refl, Nat.zero_le, cz_0, cz_1, cI_1, cO_1, cz_2, cI_2, cO_2, cL_2, cD_2, cz_3, cI_3, cO_3, cL_3, cD_3, cz_4, cI_4, cO_4, cL_4, cD_4, cz_5, cI_5, cO_5, cL_5, cD_5, cz_6, cI_6, cO_6, cL_6, cD_6, cz_7, cI_7, cO_7, cL_7, cD_7, cz_8, cI_8, cO_8, cL_8, cD_8, List.mem_cons, or_true, true_or, and_self, sI_S, sL_S, sR_S, sD_S, gb_S, sI_R, sL_R, sD_R, gb_R, sI_L, sR_I, sR_L, sL_I, sD_I, sD_L, gb_I, gb_L, e1, if_pos z1]
  by_cases z2 : x = 106
  · simp only [v18_0, v18_1, v18_68, v18_70, v18_71, v18_73, v18_74, v18_76, v18_77, v18_79, v18_80, v18_82, v18_83, v18_85, n_14, n_8, inB_of, Nat.reduceLT, Prod.mk.injEq, true_and, rB, rBn, rBa, rBb, rBc, rBd, Evk_v, Evk_n, Nat.reduceAdd, Nat.reduceLeDiff, Nat.le_refl, Nat.zero_le, cz_0, cz_1, cI_1, cO_1, cz_2, cI_2, cO_2, cL_2, cD_2, cz_3, cI_3, cO_3, cL_3, cD_3, cz_4, cI_4, cO_4, cL_4, cD_4, cz_5, cI_5, cO_5, cL_5, cD_5, cz_6, cI_6, cO_6, cL_6, cD_6, cz_7, cI_7, cO_7, cL_7, cD_7, cz_8, cI_8, cO_8, cL_8, cD_8, List.mem_cons, or_true, true_or, and_self, sI_S, sL_S, sR_S, sD_S, gb_S, sI_R, sL_R, sD_R, gb_R, sI_L, sR_I, sR_L, sL_I, sD_I, sD_L, gb_I, gb_L, e1, e2, if_neg z1, if_pos z2]
  by_cases z3 : x = 108
  · simp only [v18_0, v18_1, v18_68, v18_70, v18_71, v18_73, v18_74, v18_76, v18_77, v18_79, v18_80, v18_82, v18_83, v18_85, n_14, n_8, inB_of, Nat.reduceLT, Prod.mk.injEq, true_and, rB, rBn, rBa, rBb, rBc, rBd, Evk_v, Evk_n, Nat.reduceAdd, Nat.reduceLeDiff, Nat.le_refl, Nat.zero_le, cz_0, cz_1, cI_1, cO_1, cz_2, cI_2, cO_2, cL_2, cD_2, cz_3, cI_3, cO_3, cL_3, cD_3, cz_4, cI_4, cO_4, cL_4, cD_4, cz_5, cI_5, cO_5, cL_5, cD_5, cz_6, cI_6, cO_6, cL_6, cD_6, cz_7, cI_7, cO_7, cL_7, cD_7, cz_8, cI_8, cO_8, cL_8, cD_8, List.mem_cons, or_true, true_or, and_self, sI_S, sL_S, sR_S, sD_S, gb_S, sI_R, sL_R, sD_R, gb_R, sI_L, sR_I, sR_L, sL_I, sD_I, sD_L, gb_I, gb_L, e1, e2, e3, if_neg z1, if_neg z2, if_pos z3]
  by_cases z4 : x = 110
  · simp only [v18_0, v18_1, v18_68, v18_70, v18_71, v18_73, v18_74, v18_76, v18_77, v18_79, v18_80, v18_82, v18_83, v18_85, n_14, n_8, inB_of, Nat.reduceLT, Prod.mk.injEq, true_and, rB, rBn, rBa, rBb, rBc, rBd, Evk_v, Evk_n, Nat.reduceAdd, Nat.reduceLeDiff, Nat.le_refl, Nat.zero_le, cz_0, cz_1, cI_1, cO_1, cz_2, cI_2, cO_2, cL_2, cD_2, cz_3, cI_3, cO_3, cL_3, cD_3, cz_4, cI_4, cO_4, cL_4, cD_4, cz_5, cI_5, cO_5, cL_5, cD_5, cz_6, cI_6, cO_6, cL_6, cD_6, cz_7, cI_7, cO_7, cL_7, cD_7, cz_8, cI_8, cO_8, cL_8, cD_8, List.mem_cons, or_true, true_or, and_self, sI_S, sL_S, sR_S, sD_S, gb_S, sI_R, sL_R, sD_R, gb_R, sI_L, sR_I, sR_L, sL_I, sD_I, sD_L, gb_I, gb_L, e1, e2, e3, e4, if_neg z1, if_neg z2, if_neg z3, if_pos z4]
  by_cases z5 : x = 112
  · simp only [v18_0, v18_1, v18_68, v18_70, v18_71, v18_73, v18_74, v18_76, v18_77, v18_79, v18_80, v18_82, v18_83, v18_85, n_14, n_8, inB_of, Nat.reduceLT, Prod.mk.injEq, true_and, rB, rBn, rBa, rBb, rBc, rBd, Evk_v, Evk_n, Nat.reduceAdd, Nat.reduceLeDiff, Nat.le_refl, Nat.zero_le, cz_0, cz_1, cI_1, cO_1, cz_2, cI_2, cO_2, cL_2, cD_2, cz_3, cI_3, cO_3, cL_3, cD_3, cz_4, cI_4, cO_4, cL_4, cD_4, cz_5, cI_5, cO_5, cL_5, cD_5, cz_6, cI_6, cO_6, cL_6, cD_6, cz_7, cI_7, cO_7, cL_7, cD_7, cz_8, cI_8, cO_8, cL_8, cD_8, List.mem_cons, or_true, true_or, and_self, sI_S, sL_S, sR_S, sD_S, gb_S, sI_R, sL_R, sD_R, gb_R, sI_L, sR_I, sR_L, sL_I, sD_I, sD_L, gb_I, gb_L, e1, e2, e3, e4, e5, if_neg z1, if_neg z2, if_neg z3, if_neg z4, if_pos z5]
  · simp only [v18_0, v18_1, v18_68, v18_70, v18_71, v18_73, v18_74, v18_76, v18_77, v18_79, v18_80, v18_82, v18_83, v18_85, n_14, n_8, inB_of, Nat.reduceLT, Prod.mk.injEq, true_and, rB, rBn, rBa, rBb, rBc, rBd, Evk_v, Evk_n, Nat.reduceAdd, Nat.reduceLeDiff, Nat.le_refl, Nat.zero_le, cz_0, cz_1, cI_1, cO_1, cz_2, cI_2, cO_2, cL_2, cD_2, cz_3, cI_3, cO_3, cL_3, cD_3, cz_4, cI_4, cO_4, cL_4, cD_4, cz_5, cI_5, cO_5, cL_5, cD_5, cz_6, cI_6, cO_6, cL_6, cD_6, cz_7, cI_7, cO_7, cL_7, cD_7, cz_8, cI_8, cO_8, cL_8, cD_8, List.mem_cons, or_true, true_or, and_self, sI_S, sL_S, sR_S, sD_S, gb_S, sI_R, sL_R, sD_R, gb_R, sI_L, sR_I, sR_L, sL_I, sD_I, sD_L, gb_I, gb_L, e1, e2, e3, e4, e5, if_neg z1, if_neg z2, if_neg z3, if_neg z4, if_neg z5]
/-- a new entry is opened -/
theorem m17 (hL : Lay L xs h) (ih : IH h t) (ok : IOK t) {x : Nat} (hx : x < 127) : ∃ h', Ev (d + 1) 17 0 [some (vR (11, 0, 0)), some (vI (iN x)), none] [] h = some (.inl (some (vI (if fO x = 0 ∨ 20 ≤ t.2.2.2.1 then 0 else 1))), h') ∧ ChR h h' ∧ (¬ (fO x = 0 ∨ 20 ≤ t.2.2.2.1) → IH h' (opn t x)) := by
  obtain ⟨i1, i2, i3, i4⟩ := ih
  have hcA : ChR h (sR h (11, 0, 0) 4 (some (42, fO x, 0))) := cr_R
  have hLA := Lay_cr hL hcA
  have eR : gR (sR h (11, 0, 0) 4 (some (42, fO x, 0))) (11, 0, 0) 4 = some (42, fO x, 0) := by rw [sR_Rx, if_pos ⟨rfl, rfl⟩]
  have e18 : ∀ d, Ev d 18 0 [some (vI (iN x))] [] h = some (.inl (some (vR (42, fO x, 0))), h) := fun d => m18 hx
  have e236 := fun d => j236 (d := d) hLA (fO_lt (x := x))
  by_cases z1 : fO x = 0
  · refine ⟨sR h (11, 0, 0) 4 (some (42, fO x, 0)), ?_, hcA, fun q => absurd (Or.inl z1) q⟩
    rw [bI_t z1] at e236
    rw [if_pos (Or.inl z1)]
    simp only [v17_0, v17_1, v17_2, v17_5, v17_8, v17_9, v17_12, v17_15, v17_18, v17_19, v17_22, v17_24, v17_27, v17_28, v17_29, v17_30, v17_31, v17_32, v17_33, v17_36, v17_37, v17_40, v17_41, v17_44, v17_45, v17_46, v17_47, v17_48, v17_49, v17_50, v17_53, v17_56, v17_57, v17_60, v17_61, v17_64, v17_65, v17_66, v17_67, v17_68, v17_69, v17_70, v17_73, v17_74, v17_75, v17_78, v17_79, n_14, n_8, inB_of, Nat.reduceLT, Prod.mk.injEq, true_and, rB, rBn, rBa, rBb, rBc, rBd, Evk_v, Evk_n, Nat.reduceAdd, Nat.reduceLeDiff, Nat.le_refl, Nat.zero_le, cz_0, cz_1, cI_1, cO_1, cz_2, cI_2, cO_2, cL_2, cD_2, cz_3, cI_3, cO_3, cL_3, cD_3, cz_4, cI_4, cO_4, cL_4, cD_4, cz_5, cI_5, cO_5, cL_5, cD_5, cz_6, cI_6, cO_6, cL_6, cD_6, cz_7, cI_7, cO_7, cL_7, cD_7, cz_8, cI_8, cO_8, cL_8, cD_8, List.mem_cons, or_true, true_or, and_self, sI_S, sL_S, sR_S, sD_S, gb_S, sI_R, sL_R, sD_R, gb_R, sI_L, sR_I, sR_L, sL_I, sD_I, sD_L, gb_I, gb_L, y_S42 hL (fO_lt (x := x)), y_S42 hLA (fO_lt (x := x)), y_S11 hL, e18, eR, e236, i10, if_true, if_false, not_true_eq_false, not_false_eq_true, Bool.false_eq_true, Int32.or_zero, ne_eq, Bool.and_eq_true, decide_eq_true_eq, decide_true, decide_false, and_true, true_and, and_false, false_and, Bool.and_true, Bool.true_and, Bool.and_false, Bool.false_and]
  rw [bI_f z1] at e236
  have n20 := ok.1
  by_cases z2 : 20 ≤ t.2.2.2.1
  · have l : ¬ iN t.2.2.2.1 < 20 := nlt32' (ile (k := 20) z2 (by omega))
    refine ⟨sR h (11, 0, 0) 4 (some (42, fO x, 0)), ?_, hcA, fun q => absurd (Or.inr z2) q⟩
    rw [if_pos (Or.inr z2)]
    simp only [v17_0, v17_1, v17_2, v17_5, v17_8, v17_9, v17_12, v17_15, v17_18, v17_19, v17_22, v17_24, v17_27, v17_28, v17_29, v17_30, v17_31, v17_32, v17_33, v17_36, v17_37, v17_40, v17_41, v17_44, v17_45, v17_46, v17_47, v17_48, v17_49, v17_50, v17_53, v17_56, v17_57, v17_60, v17_61, v17_64, v17_65, v17_66, v17_67, v17_68, v17_69, v17_70, v17_73, v17_74, v17_75, v17_78, v17_79, n_14, n_8, inB_of, Nat.reduceLT, Prod.mk.injEq, true_and, rB, rBn, rBa, rBb, rBc, rBd, Evk_v, Evk_n, Nat.reduceAdd, Nat.reduceLeDiff, Nat.le_refl, Nat.zero_le, cz_0, cz_1, cI_1, cO_1, cz_2, cI_2, cO_2, cL_2, cD_2, cz_3, cI_3, cO_3, cL_3, cD_3, cz_4, cI_4, cO_4, cL_4, cD_4, cz_5, cI_5, cO_5, cL_5, cD_5, cz_6, cI_6, cO_6, cL_6, cD_6, cz_7, cI_7, cO_7, cL_7, cD_7, cz_8, cI_8, cO_8, cL_8, cD_8, List.mem_cons, or_true, true_or, and_self, sI_S, sL_S, sR_S, sD_S, gb_S, sI_R, sL_R, sD_R, gb_R, sI_L, sR_I, sR_L, sL_I, sD_I, sD_L, gb_I, gb_L, y_S42 hL (fO_lt (x := x)), y_S42 hLA (fO_lt (x := x)), y_S11 hL, e18, eR, e236, i2, if_neg l, if_true]
  have l : iN t.2.2.2.1 < 20 := ilt (n := 20) (by omega) (by decide)
  have hn : ¬ (fO x = 0 ∨ 20 ≤ t.2.2.2.1) := fun q => q.elim z1 z2
  generalize eA : sR h (11, 0, 0) 4 (some (42, fO x, 0)) = hA at *
  have q5 : iN t.2.2.2.1 * 5 = iN (t.2.2.2.1 * 5) := iN_mul _ 5
  have a3 : gI hA (11, 0, 0) 3 = iN t.2.2.2.1 := by rw [← eA]; exact i2
  have a13 : ∀ j, gI hA (13, 0, 0) j = gI h (13, 0, 0) j := fun j => by rw [← eA]; rfl
  have lp := loopI (σ := LS3 × Hp) (E := fun s => Ev (d + 1) 17 31 s.1 [] s.2) (I := fun k s => s.1 = [some (vR (11, 0, 0)), some (vI (iN x)), some (vI (iN (k + 1)))] ∧ ChR hA s.2 ∧ gR s.2 (11, 0, 0) 4 = some (42, fO x, 0) ∧ gI s.2 (11, 0, 0) 3 = iN t.2.2.2.1 ∧ ∀ j, gI s.2 (13, 0, 0) j = if t.2.2.2.1 * 5 < j ∧ j < t.2.2.2.1 * 5 + (k + 1) then 0 else gI hA (13, 0, 0) j) (n := 4) (by
    rintro k hk ⟨ls, g⟩ ⟨rfl, c, r4, r3, r13⟩
    have hLg := Lay_cr hLA c
    have hnl : ¬ ((5 : Int32) ≤ iN (k + 1)) := nle (n := 5) (by omega) (by decide)
    have hin : inB (iN (t.2.2.2.1 * 5 + (k + 1))) 100 := inB_of (by omega) (by decide)
    have hto : (iN (t.2.2.2.1 * 5 + (k + 1))).toNatClampNeg = t.2.2.2.1 * 5 + (k + 1) := n_i (by omega)
    refine ⟨(_, sI g (13, 0, 0) (t.2.2.2.1 * 5 + (k + 1)) 0), ⟨rfl, cr_t c cr_13, r4, by rw [sI_I, if_neg (by simp)]; exact r3, fun j => ?_⟩, ?_⟩
    · rw [sI_I, r13]
      by_cases y : j = t.2.2.2.1 * 5 + (k + 1)
      · rw [if_pos ⟨rfl, y⟩, if_pos ⟨by omega, by omega⟩]
      · rw [if_neg fun z => y z.2]
        by_cases w : t.2.2.2.1 * 5 < j ∧ j < t.2.2.2.1 * 5 + (k + 1)
        · rw [if_pos w, if_pos ⟨w.1, by omega⟩]
        · rw [if_neg w, if_neg fun z => w ⟨z.1, by omega⟩]
    · show Ev (d + 1) 17 31 _ [] g = Ev (d + 1) 17 31 _ [] (sI g (13, 0, 0) (t.2.2.2.1 * 5 + (k + 1)) 0)
      rw [v17_31]
      simp only [v17_32, v17_33, v17_36, v17_37, v17_40, v17_41, v17_44, v17_45, v17_46, v17_47, v17_48, v17_49, v17_50, v17_53, n_14, n_8, inB_of, Nat.reduceLT, Prod.mk.injEq, true_and, rB, rBn, rBa, rBb, rBc, rBd, Evk_v, Evk_n, Nat.reduceAdd, Nat.reduceLeDiff, Nat.le_refl, Nat.zero_le, cz_0, cz_1, cI_1, cO_1, cz_2, cI_2, cO_2, cL_2, cD_2, cz_3, cI_3, cO_3, cL_3, cD_3, cz_4, cI_4, cO_4, cL_4, cD_4, cz_5, cI_5, cO_5, cL_5, cD_5, cz_6, cI_6, cO_6, cL_6, cD_6, cz_7, cI_7, cO_7, cL_7, cD_7, cz_8, cI_8, cO_8, cL_8, cD_8, List.mem_cons, or_true, true_or, and_self, sI_S, sL_S, sR_S, sD_S, gb_S, sI_R, sL_R, sD_R, gb_R, sI_L, sR_I, sR_L, sL_I, sD_I, sD_L, gb_I, gb_L, y_S11 hLg, y_S13 hLg, y_R11_1 hLg, r3, q5, iN_add, hin, hto, if_neg hnl, iN_s])
  obtain ⟨⟨ls, g⟩, ⟨rfl, c, r4, r3, r13⟩, e⟩ := lp ([some (vR (11, 0, 0)), some (vI (iN x)), some (vI (iN (0 + 1)))], hA) ⟨rfl, cr_r, eR, a3, fun j => by rw [if_neg (by omega)]⟩
  have e : Ev (d + 1) 17 31 [some (vR (11, 0, 0)), some (vI (iN x)), some (vI 1)] [] hA = Ev (d + 1) 17 31 [some (vR (11, 0, 0)), some (vI (iN x)), some (vI (iN 5))] [] g := e
  have hLg := Lay_cr hLA c
  have hin : inB (iN (t.2.2.2.1 * 5)) 100 := inB_of (by omega) (by decide)
  have hto : (iN (t.2.2.2.1 * 5)).toNatClampNeg = t.2.2.2.1 * 5 := n_i (by omega)
  have hle : (5 : Int32) ≤ iN 5 := Int32.le_refl _
  refine ⟨sI (sI (sI g (13, 0, 0) (t.2.2.2.1 * 5) (iN x)) (11, 0, 0) 5 0) (11, 0, 0) 6 1, ?_, cr_t hcA (cr_t c (cr_t (cr_t cr_13 (cr_11 (by decide))) (cr_11 (by decide)))), fun _ => ⟨r4, ?_, fun _ => ⟨?_, ?_⟩, fun j hj => ?_⟩⟩
  · rw [if_neg hn]
    simp only [v17_0, v17_1, v17_2, v17_5, v17_8, v17_9, v17_12, v17_15, v17_18, v17_19, v17_22, v17_24, v17_27, v17_28, v17_29, v17_30, n_14, n_8, inB_of, Nat.reduceLT, Prod.mk.injEq, true_and, rB, rBn, rBa, rBb, rBc, rBd, Evk_v, Evk_n, Nat.reduceAdd, Nat.reduceLeDiff, Nat.le_refl, Nat.zero_le, cz_0, cz_1, cI_1, cO_1, cz_2, cI_2, cO_2, cL_2, cD_2, cz_3, cI_3, cO_3, cL_3, cD_3, cz_4, cI_4, cO_4, cL_4, cD_4, cz_5, cI_5, cO_5, cL_5, cD_5, cz_6, cI_6, cO_6, cL_6, cD_6, cz_7, cI_7, cO_7, cL_7, cD_7, cz_8, cI_8, cO_8, cL_8, cD_8, List.mem_cons, or_true, true_or, and_self, sI_S, sL_S, sR_S, sD_S, gb_S, sI_R, sL_R, sD_R, gb_R, sI_L, sR_I, sR_L, sL_I, sD_I, sD_L, gb_I, gb_L, y_S42 hL (fO_lt (x := x)), y_S42 hLA (fO_lt (x := x)), y_S11 hL, e18, eA, y_S11 hLA, eR, e236, a3, if_pos l, if_true, if_false, not_true_eq_false, not_false_eq_true, Bool.false_eq_true, Int32.or_zero, ne_eq, Bool.and_eq_true, decide_eq_true_eq, decide_true, decide_false, and_true, true_and, and_false, false_and, Bool.and_true, Bool.true_and, Bool.and_false, Bool.false_and]
    refine Eq.trans e ?_
    rw [v17_31]
    simp only [v17_32, v17_33, v17_56, v17_57, v17_60, v17_61, v17_64, v17_65, v17_66, v17_67, v17_68, v17_69, v17_70, v17_73, v17_74, v17_75, v17_78, v17_79, n_14, n_8, inB_of, Nat.reduceLT, Prod.mk.injEq, true_and, rB, rBn, rBa, rBb, rBc, rBd, Evk_v, Evk_n, Nat.reduceAdd, Nat.reduceLeDiff, Nat.le_refl, Nat.zero_le, cz_0, cz_1, cI_1, cO_1, cz_2, cI_2, cO_2, cL_2, cD_2, cz_3, cI_3, cO_3, cL_3, cD_3, cz_4, cI_4, cO_4, cL_4, cD_4, cz_5, cI_5, cO_5, cL_5, cD_5, cz_6, cI_6, cO_6, cL_6, cD_6, cz_7, cI_7, cO_7, cL_7, cD_7, cz_8, cI_8, cO_8, cL_8, cD_8, List.mem_cons, or_true, true_or, and_self, sI_S, sL_S, sR_S, sD_S, gb_S, sI_R, sL_R, sD_R, gb_R, sI_L, sR_I, sR_L, sL_I, sD_I, sD_L, gb_I, gb_L, if_pos hle, y_S11 hLg, y_S13 hLg, y_R11_1 hLg, r3, q5, hin, hto]
  · rw [sI_I, if_neg (by simp), sI_I, if_neg (by simp), sI_I, if_neg (by simp)]; exact r3
  · rw [sI_I, if_neg (by simp), sI_I, if_pos ⟨rfl, rfl⟩]; rfl
  · rw [sI_I, if_pos ⟨rfl, rfl⟩]; rfl
  · show _ = if j = t.2.2.2.1 * 5 then iN x else if t.2.2.2.1 * 5 < j ∧ j < t.2.2.2.1 * 5 + 5 then 0 else t.2.2.2.2 j
    rw [sI_I, if_neg (by simp), sI_I, if_neg (by simp), sI_I]
    by_cases y : j = t.2.2.2.1 * 5
    · rw [if_pos ⟨rfl, y⟩, if_pos y]
    · rw [if_neg fun z => y z.2, if_neg y, r13]
      by_cases w : t.2.2.2.1 * 5 < j ∧ j < t.2.2.2.1 * 5 + 5
      · rw [if_pos ⟨w.1, by omega⟩, if_pos w]
      · rw [if_neg (fun z => w ⟨z.1, by omega⟩), if_neg w, a13]; exact i4 j hj
/-- a digit is taken -/
theorem m19 (hL : Lay L xs h) (ih : IH h t) (ok : IOK t) (h0 : t.1 ≠ 0) {x : Nat} (hx : x < 10) : ∃ h', Ev (d + 4) 19 0 [some (vR (11, 0, 0)), some (vI (iN x)), none] [] h = some (.inl (some (vI (if fC t.1 t.2.1 = 48 ∨ fC t.1 t.2.1 = 57 then 1 else 0))), h') ∧ ChR h h' ∧ (fC t.1 t.2.1 = 48 ∨ fC t.1 t.2.1 = 57 → IH h' (dgt t (48 + x))) := by
  obtain ⟨i1, i2, i3, i4⟩ := ih
  obtain ⟨k1, k2, k3, k4⟩ := ok.2 h0
  obtain ⟨a5, a6⟩ := i3 h0
  obtain ⟨q1, q2, q3, q4, q5, q6⟩ := fS_lt _ k1 _ k2
  obtain ⟨-, b65⟩ := fC_b _ k1 _ k2
  have f10 := fN_le _ k1
  have hnl : ¬ iN (fN t.1) ≤ iN t.2.1 := nle k2 (by omega)
  have e235 := fun d => j235 (d := d) hL k1
  have e237 := fun d => j237 (d := d) hL k1 k2
  have c48 : (iN (fC t.1 t.2.1) = 48) = (fC t.1 t.2.1 = 48) := iN_e (n := 48) (by omega) (by decide)
  have c57 : (iN (fC t.1 t.2.1) = 57) = (fC t.1 t.2.1 = 57) := iN_e (n := 57) (by omega) (by decide)
  have hc4 : t.2.2.1 ≤ 4 := by rw [k3]; exact q6
  have p5 : iN t.2.2.2.1 * 5 = iN (t.2.2.2.1 * 5) := iN_mul _ 5
  have hge : ¬ iN (t.2.2.2.1 * 5 + t.2.2.1) < 0 := nlt0 (by omega)
  have hlt : iN (t.2.2.2.1 * 5 + t.2.2.1) < Int32.ofNat 100 := ilt (n := 100) (by omega) (by decide)
  have hin : inB (iN (t.2.2.2.1 * 5 + t.2.2.1)) 100 := inB_of (by omega) (by decide)
  have hto : (iN (t.2.2.2.1 * 5 + t.2.2.1)).toNatClampNeg = t.2.2.2.1 * 5 + t.2.2.1 := n_i (by omega)
  have e13 := i4 (t.2.2.2.1 * 5 + t.2.2.1) (by omega)
  by_cases z : fC t.1 t.2.1 = 48 ∨ fC t.1 t.2.1 = 57
  · refine ⟨sI (sI h (13, 0, 0) (t.2.2.2.1 * 5 + t.2.2.1) (t.2.2.2.2 (t.2.2.2.1 * 5 + t.2.2.1) * 10 + iN x)) (11, 0, 0) 5 (iN (t.2.1 + 1)), ?_, cr_t cr_13 (cr_11 (by decide)), fun _ => ⟨i1, ?_, fun _ => ⟨?_, ?_⟩, fun j hj => ?_⟩⟩
    · rw [if_pos z]
      by_cases y : fC t.1 t.2.1 = 48
      · simp only [v19_0, v19_1, v19_4, v19_5, v19_8, v19_11, v19_14, v19_15, v19_18, v19_19, v19_22, v19_25, v19_27, v19_30, v19_31, v19_34, v19_35, v19_38, v19_41, v19_43, v19_46, v19_47, v19_48, v19_49, v19_52, v19_53, v19_54, v19_55, v19_58, v19_59, v19_60, v19_61, v19_64, v19_65, v19_66, v19_69, v19_70, v19_73, v19_74, v19_75, v19_76, v19_79, v19_80, v19_81, v19_84, v19_85, v19_86, v19_88, v19_89, v19_90, v19_91, v19_92, v19_93, v19_94, v19_97, v19_98, v19_99, v19_102, v19_103, n_14, n_8, inB_of, Nat.reduceLT, Prod.mk.injEq, true_and, rB, rBn, rBa, rBb, rBc, rBd, Evk_v, Evk_n, Nat.reduceAdd, Nat.reduceLeDiff, Nat.le_refl, Nat.zero_le, cz_0, cz_1, cI_1, cO_1, cz_2, cI_2, cO_2, cL_2, cD_2, cz_3, cI_3, cO_3, cL_3, cD_3, cz_4, cI_4, cO_4, cL_4, cD_4, cz_5, cI_5, cO_5, cL_5, cD_5, cz_6, cI_6, cO_6, cL_6, cD_6, cz_7, cI_7, cO_7, cL_7, cD_7, cz_8, cI_8, cO_8, cL_8, cD_8, List.mem_cons, or_true, true_or, and_self, sI_S, sL_S, sR_S, sD_S, gb_S, sI_R, sL_R, sD_R, gb_R, sI_L, sR_I, sR_L, sL_I, sD_I, sD_L, gb_I, gb_L, y_S42 hL k1, y_S11 hL, y_S13 hL, y_R11_1 hL, a5, a6, i1, i2, e235, e237, if_neg hnl, c48, if_pos y, p5, iN_add, if_neg hge, if_pos hlt, hin, hto, e13, sI_I, iN_s, Nat.reduceEqDiff, and_false, false_and, if_false, c1_It, c1_Ot, bI_T, bI_F, i10, i01]
      · have y2 : fC t.1 t.2.1 = 57 := z.resolve_left y
        simp only [v19_0, v19_1, v19_4, v19_5, v19_8, v19_11, v19_14, v19_15, v19_18, v19_19, v19_22, v19_25, v19_27, v19_30, v19_31, v19_34, v19_35, v19_38, v19_41, v19_43, v19_46, v19_47, v19_48, v19_49, v19_52, v19_53, v19_54, v19_55, v19_58, v19_59, v19_60, v19_61, v19_64, v19_65, v19_66, v19_69, v19_70, v19_73, v19_74, v19_75, v19_76, v19_79, v19_80, v19_81, v19_84, v19_85, v19_86, v19_88, v19_89, v19_90, v19_91, v19_92, v19_93, v19_94, v19_97, v19_98, v19_99, v19_102, v19_103, n_14, n_8, inB_of, Nat.reduceLT, Prod.mk.injEq, true_and, rB, rBn, rBa, rBb, rBc, rBd, Evk_v, Evk_n, Nat.reduceAdd, Nat.reduceLeDiff, Nat.le_refl, Nat.zero_le, cz_0, cz_1, cI_1, cO_1, cz_2, cI_2, cO_2, cL_2, cD_2, cz_3, cI_3, cO_3, cL_3, cD_3, cz_4, cI_4, cO_4, cL_4, cD_4, cz_5, cI_5, cO_5, cL_5, cD_5, cz_6, cI_6, cO_6, cL_6, cD_6, cz_7, cI_7, cO_7, cL_7, cD_7, cz_8, cI_8, cO_8, cL_8, cD_8, List.mem_cons, or_true, true_or, and_self, sI_S, sL_S, sR_S, sD_S, gb_S, sI_R, sL_R, sD_R, gb_R, sI_L, sR_I, sR_L, sL_I, sD_I, sD_L, gb_I, gb_L, y_S42 hL k1, y_S11 hL, y_S13 hL, y_R11_1 hL, a5, a6, i1, i2, e235, e237, if_neg hnl, c48, c57, if_neg y, if_pos y2, p5, iN_add, if_neg hge, if_pos hlt, hin, hto, e13, sI_I, iN_s, Nat.reduceEqDiff, and_false, false_and, if_false, c1_It, c1_Ot, bI_T, bI_F, i10, i01]
    · rw [sI_I, if_neg (by simp), sI_I, if_neg (by simp)]; exact i2
    · rw [sI_I, if_pos ⟨rfl, rfl⟩]; rfl
    · rw [sI_I, if_neg (by simp), sI_I, if_neg (by simp)]; exact a6
    · show _ = if j = t.2.2.2.1 * 5 + t.2.2.1 then t.2.2.2.2 j * 10 + iN (48 + x - 48) else t.2.2.2.2 j
      rw [sI_I, if_neg (by simp), sI_I]
      by_cases y : j = t.2.2.2.1 * 5 + t.2.2.1
      · rw [if_pos ⟨rfl, y⟩, if_pos y, y, show 48 + x - 48 = x by omega]
      · rw [if_neg fun w => y w.2, if_neg y]; exact i4 j hj
  · have z1 : ¬ fC t.1 t.2.1 = 48 := fun q => z (Or.inl q)
    have z2 : ¬ fC t.1 t.2.1 = 57 := fun q => z (Or.inr q)
    refine ⟨h, ?_, cr_r, fun q => absurd q z⟩
    rw [if_neg z]
    simp only [v19_0, v19_1, v19_4, v19_5, v19_8, v19_11, v19_14, v19_15, v19_18, v19_19, v19_22, v19_25, v19_27, v19_30, v19_31, v19_34, v19_35, v19_38, v19_41, v19_43, v19_46, v19_47, v19_48, v19_49, v19_52, v19_53, v19_54, v19_55, v19_58, v19_59, v19_60, v19_61, v19_64, v19_65, v19_66, v19_69, v19_70, v19_73, v19_74, v19_75, v19_76, v19_79, v19_80, v19_81, v19_84, v19_85, v19_86, v19_88, v19_89, v19_90, v19_91, v19_92, v19_93, v19_94, v19_97, v19_98, v19_99, v19_102, v19_103, n_14, n_8, inB_of, Nat.reduceLT, Prod.mk.injEq, true_and, rB, rBn, rBa, rBb, rBc, rBd, Evk_v, Evk_n, Nat.reduceAdd, Nat.reduceLeDiff, Nat.le_refl, Nat.zero_le, cz_0, cz_1, cI_1, cO_1, cz_2, cI_2, cO_2, cL_2, cD_2, cz_3, cI_3, cO_3, cL_3, cD_3, cz_4, cI_4, cO_4, cL_4, cD_4, cz_5, cI_5, cO_5, cL_5, cD_5, cz_6, cI_6, cO_6, cL_6, cD_6, cz_7, cI_7, cO_7, cL_7, cD_7, cz_8, cI_8, cO_8, cL_8, cD_8, List.mem_cons, or_true, true_or, and_self, sI_S, sL_S, sR_S, sD_S, gb_S, sI_R, sL_R, sD_R, gb_R, sI_L, sR_I, sR_L, sL_I, sD_I, sD_L, gb_I, gb_L, y_S42 hL k1, y_S11 hL, a5, a6, i1, i2, e235, e237, if_neg hnl, c48, c57, if_neg z1, if_neg z2, c1_It, c1_Ot, bI_T, bI_F, i10, i01]
end R4
