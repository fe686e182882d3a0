/-! THE MODEL: the earliest time -/


theorem fnd_shift {c e : Nat → Bool} {s n : Nat} (h0 : ∀ m, m < s → e m = false) (h1 : ∀ k, e (s + k) = c k) : fnd e n = (fnd c (n - s)).map (s + ·) := by
  cases z : fnd c (n - s) with
  | some k =>
    obtain ⟨a1, a2, a3⟩ := fnd_some.1 z
    show fnd e n = some (s + k)
    refine fnd_some.2 ⟨by omega, by rw [h1]; exact a2, fun j hj => ?_⟩
    by_cases y : j < s
    · exact h0 j y
    · rw [show j = s + (j - s) by omega, h1]
      exact a3 _ (by omega)
  | none =>
    refine fnd_none.2 fun j hj => ?_
    by_cases y : j < s
    · exact h0 j y
    · rw [show j = s + (j - s) by omega, h1]
      exact fnd_none.1 z _ (by omega)
def ftk (P : PL) (j x k : Nat) : Bool := fts P j x (k / 3) (k % 3)
theorem eto_21 {P : PL} {j x : Nat} : eto P j x = (fnd (ftk P j x) 21).map (fun k => 10 * (k / 3) + k % 3) := by
  have low : ∀ u r, r < 3 → ftk P j x (3 * u + r) = fts P j x u r := fun u r hr => by
    unfold ftk
    rw [show (3 * u + r) / 3 = u by omega, show (3 * u + r) % 3 = r by omega]
  cases z : fnd (ftk P j x) 21 with
  | some k =>
    obtain ⟨a1, a2, a3⟩ := fnd_some.1 z
    have e1 : fnd (fts P j x (k / 3)) 3 = some (k % 3) := fnd_some.2 ⟨by omega, a2, fun r hr => by
      rw [← low _ r (by omega)]
      exact a3 _ (by omega)⟩
    have e2 : fnd (fun u => (fnd (fts P j x u) 3).isSome) 7 = some (k / 3) := by
      refine fnd_some.2 ⟨by omega, by rw [e1]; rfl, fun u hu => ?_⟩
      have : fnd (fts P j x u) 3 = none := fnd_none.2 fun r hr => by
        rw [← low u r hr]
        exact a3 _ (by omega)
      rw [this]; rfl
    exact eto_some e2 e1
  | none =>
    have e2 : fnd (fun u => (fnd (fts P j x u) 3).isSome) 7 = none := fnd_none.2 fun u hu => by
      have : fnd (fts P j x u) 3 = none := fnd_none.2 fun r hr => by
        rw [← low u r hr]
        exact fnd_none.1 z _ (by omega)
      rw [this]; rfl
    unfold eto
    rw [e2]; rfl
theorem wat_0 {P : PL} {j r x u : Nat} (zd : ¬ dfd P j = true) (zh : hld P j (P.1 11 j) = true) (zf : ¬ iN x < fdy P j) : (wat P j r x u = 0) = (fts P j x u r = true) := by
  unfold wat fts
  simp only [zd, zh, zf, if_true, if_false, not_true_eq_false, not_false_eq_true, Bool.false_eq_true, Int32.or_zero, ne_eq, Bool.and_eq_true, decide_eq_true_eq, decide_true, decide_false, and_true, true_and, and_false, false_and, Bool.and_true, Bool.true_and, Bool.and_false, Bool.false_and]
  by_cases y1 : hmb P j x &&& 3 <<< (iN u &&& 31) = 0 <;> by_cases y2 : hrm P r x j &&& 3 <<< (iN u &&& 31) = 0 <;> simp [y1, y2]
section Mod6
variable {L : Nat} {xs : Nat → Int32} {h : Hp} {P : PL} {d : Nat}
theorem iN_dlit3 {a : Nat} (ha : a < 2147483648) : iN a / 3 = iN (a / 3) := iN_div ha (by decide)
theorem iN_mlit3 {a : Nat} : iN a - iN (a / 3) * 3 = iN (a % 3) := by
  show iN a - iN (a / 3) * iN 3 = _
  rw [iN_mul, iN_sub (by omega)]
  congr 1; omega
theorem m166i (hL : Lay L xs h) (hM : Mod h P) (hW : WF P) {j x : Nat} (hj : j < tn P) (hx : x < 401) (zd : ¬ dfd P j = true) (zh : hld P j (P.1 11 j) = true) (zf : ¬ iN x < fdy P j) : Ev (d + 4) 166 62 [some (vR (20, 0, 0)), some (vI (iN j)), some (vI (iN x)), some (vI 0)] [] h = match fnd (ftk P j x) 21 with
    | some k => some (.inl (some (vI (iN (100 * x + (10 * (k / 3) + k % 3))))), h)
    | none => Ev (d + 4) 166 29 [some (vR (20, 0, 0)), some (vI (iN j)), some (vI (iN (x + 1))), some (vI (iN 21))] [] h := by
  have hj8 : j < 8 := Nat.lt_of_lt_of_le hj (w_tn hW)
  have n3 : ¬ (3 : Int32) = 0 := by decide
  have lp := loopF (σ := LS3) (E := fun ls => Ev (d + 4) 166 62 ls [] h) (I := fun k ls => ∃ o : Option MV, ls = [some (vR (20, 0, 0)), some (vI (iN j)), some (vI (iN x)), some (vI (iN k))]) (n := 21) (c := ftk P j x) (r := fun k => some (.inl (some (vI (iN (100 * x + (10 * (k / 3) + k % 3))))), h)) (by
    rintro k hk ls ⟨o, rfl⟩
    have hk31 : k < 2147483648 := by omega
    have hnl : ¬ ((21 : Int32) ≤ iN k) := nle (n := 21) hk (by omega)
    refine ⟨fun z => ?_, fun z => ⟨_, ⟨none, rfl⟩, ?_⟩⟩
    · have e10 : (100 : Int32) * iN x + 10 * iN (k / 3) + iN (k % 3) = iN (100 * x + (10 * (k / 3) + k % 3)) := by
        rw [show (10 : Int32) * iN (k / 3) = iN (10 * (k / 3)) from iN_mul 10 _, show (100 : Int32) * iN x + iN (10 * (k / 3)) = iN (100 * x + 10 * (k / 3)) from iN_lin (c := 100), iN_add]
        congr 1
        omega
      have z' : wat P j (k % 3) x (k / 3) = 0 := by rw [wat_0 zd zh zf]; exact z
      show Ev (d + 4) 166 62 _ [] h = _
      rw [v166_62]
      simp only [v166_0, v166_1, v166_2, v166_5, v166_8, v166_9, v166_10, v166_11, v166_14, v166_15, v166_16, v166_19, v166_22, v166_23, v166_24, v166_25, v166_28, v166_30, v166_33, v166_36, v166_37, v166_38, v166_39, v166_40, v166_43, v166_44, v166_45, v166_46, v166_47, v166_50, v166_51, v166_54, v166_57, v166_60, v166_61, v166_63, v166_65, v166_68, v166_69, v166_70, v166_71, v166_72, v166_73, v166_74, v166_75, v166_76, v166_77, v166_80, v166_83, v166_85, v166_86, v166_87, v166_89, v166_90, v166_91, v166_92, v166_93, v166_94, v166_95, v166_96, v166_97, v166_98, v166_99, v166_102, v166_105, v166_108, v166_111, v166_112, n_14, n_8, inB_of, Nat.reduceLT, Prod.mk.injEq, true_and, rB, rBn, rBa, rBb, rBc, rBd, Evk_v, Evk_n, Nat.reduceAdd, Nat.reduceLeDiff, Nat.le_refl, Nat.zero_le, cz_0, cz_1, cI_1, cO_1, cz_2, cI_2, cO_2, cL_2, cD_2, cz_3, cI_3, cO_3, cL_3, cD_3, cz_4, cI_4, cO_4, cL_4, cD_4, cz_5, cI_5, cO_5, cL_5, cD_5, cz_6, cI_6, cO_6, cL_6, cD_6, cz_7, cI_7, cO_7, cL_7, cD_7, cz_8, cI_8, cO_8, cL_8, cD_8, c1_I, c1_O, List.mem_cons, or_true, true_or, and_self, sI_S, sL_S, sR_S, sD_S, gb_S, sI_R, sL_R, sD_R, gb_R, sI_L, sR_I, sR_L, sL_I, sD_I, sD_L, gb_I, gb_L, y_S20 hL, y_M_rank hL, y_M_fields hL, y_M_home hL, y_M_limit hL, y_M_conflicts hL, y_M_busy hL, y_M_kind hL, y_M_field hL, y_M_department hL, y_M_supervisor hL, y_M_stage hL, y_M_members hL, y_M_room hL, y_M_dayOf hL, y_M_hourOf hL, y_M_line hL, y_F_rank hL, y_F_fields hL, y_F_home hL, y_F_limit hL, y_F_conflicts hL, y_F_busy hL, y_F_kind hL, y_F_field hL, y_F_department hL, y_F_supervisor hL, y_F_stage hL, y_F_members hL, y_F_room hL, y_F_dayOf hL, y_F_hourOf hL, y_F_line hL, m_rk hM, m_fl hM, m_dp hM, m_lm hM, m_cf hM, m_kd hM, m_fd hM, m_de hM, m_sv hM, m_st hM, m_mb hM, m_rm hM, m_dy hM, m_hr hM, m_pc hM, m_tc hM, m_wc hM, m_td hM, m_lo hM, if_neg hnl, iN_dlit3 hk31, iN_mlit3, n3, ne_eq, not_false_eq_true, m164 hL hM hW hj hx (show k / 3 < 7 by omega), if_pos z', e10]
    · have z' : ¬ wat P j (k % 3) x (k / 3) = 0 := by
        rw [wat_0 zd zh zf]
        exact fun y => by rw [show fts P j x (k / 3) (k % 3) = ftk P j x k from rfl, z] at y; cases y
      show Ev (d + 4) 166 62 _ [] h = Ev (d + 4) 166 62 _ [] h
      rw [v166_62]
      simp only [v166_0, v166_1, v166_2, v166_5, v166_8, v166_9, v166_10, v166_11, v166_14, v166_15, v166_16, v166_19, v166_22, v166_23, v166_24, v166_25, v166_28, v166_30, v166_33, v166_36, v166_37, v166_38, v166_39, v166_40, v166_43, v166_44, v166_45, v166_46, v166_47, v166_50, v166_51, v166_54, v166_57, v166_60, v166_61, v166_63, v166_65, v166_68, v166_69, v166_70, v166_71, v166_72, v166_73, v166_74, v166_75, v166_76, v166_77, v166_80, v166_83, v166_85, v166_86, v166_87, v166_89, v166_90, v166_91, v166_92, v166_93, v166_94, v166_95, v166_96, v166_97, v166_98, v166_99, v166_102, v166_105, v166_108, v166_111, v166_112, n_14, n_8, inB_of, Nat.reduceLT, Prod.mk.injEq, true_and, rB, rBn, rBa, rBb, rBc, rBd, Evk_v, Evk_n, Nat.reduceAdd, Nat.reduceLeDiff, Nat.le_refl, Nat.zero_le, cz_0, cz_1, cI_1, cO_1, cz_2, cI_2, cO_2, cL_2, cD_2, cz_3, cI_3, cO_3, cL_3, cD_3, cz_4, cI_4, cO_4, cL_4, cD_4, cz_5, cI_5, cO_5, cL_5, cD_5, cz_6, cI_6, cO_6, cL_6, cD_6, cz_7, cI_7, cO_7, cL_7, cD_7, cz_8, cI_8, cO_8, cL_8, cD_8, c1_I, c1_O, List.mem_cons, or_true, true_or, and_self, sI_S, sL_S, sR_S, sD_S, gb_S, sI_R, sL_R, sD_R, gb_R, sI_L, sR_I, sR_L, sL_I, sD_I, sD_L, gb_I, gb_L, y_S20 hL, y_M_rank hL, y_M_fields hL, y_M_home hL, y_M_limit hL, y_M_conflicts hL, y_M_busy hL, y_M_kind hL, y_M_field hL, y_M_department hL, y_M_supervisor hL, y_M_stage hL, y_M_members hL, y_M_room hL, y_M_dayOf hL, y_M_hourOf hL, y_M_line hL, y_F_rank hL, y_F_fields hL, y_F_home hL, y_F_limit hL, y_F_conflicts hL, y_F_busy hL, y_F_kind hL, y_F_field hL, y_F_department hL, y_F_supervisor hL, y_F_stage hL, y_F_members hL, y_F_room hL, y_F_dayOf hL, y_F_hourOf hL, y_F_line hL, m_rk hM, m_fl hM, m_dp hM, m_lm hM, m_cf hM, m_kd hM, m_fd hM, m_de hM, m_sv hM, m_st hM, m_mb hM, m_rm hM, m_dy hM, m_hr hM, m_pc hM, m_tc hM, m_wc hM, m_td hM, m_lo hM, if_neg hnl, iN_dlit3 hk31, iN_mlit3, n3, ne_eq, not_false_eq_true, m164 hL hM hW hj hx (show k / 3 < 7 by omega), if_neg z', iN_s]
    )
  obtain ⟨l1, l2⟩ := lp _ ⟨none, rfl⟩
  cases e : fnd (ftk P j x) 21 with
  | some k => exact l1 k e
  | none =>
    obtain ⟨_, ⟨o, rfl⟩, e2⟩ := l2 e
    refine Eq.trans e2 ?_
    show Ev (d + 4) 166 62 _ [] h = Ev (d + 4) 166 29 _ [] h
    rw [v166_62]
    simp only [v166_0, v166_1, v166_2, v166_5, v166_8, v166_9, v166_10, v166_11, v166_14, v166_15, v166_16, v166_19, v166_22, v166_23, v166_24, v166_25, v166_28, v166_30, v166_33, v166_36, v166_37, v166_38, v166_39, v166_40, v166_43, v166_44, v166_45, v166_46, v166_47, v166_50, v166_51, v166_54, v166_57, v166_60, v166_61, v166_63, v166_65, v166_68, v166_69, v166_70, v166_71, v166_72, v166_73, v166_74, v166_75, v166_76, v166_77, v166_80, v166_83, v166_85, v166_86, v166_87, v166_89, v166_90, v166_91, v166_92, v166_93, v166_94, v166_95, v166_96, v166_97, v166_98, v166_99, v166_102, v166_105, v166_108, v166_111, v166_112, n_14, n_8, inB_of, Nat.reduceLT, Prod.mk.injEq, true_and, rB, rBn, rBa, rBb, rBc, rBd, Evk_v, Evk_n, Nat.reduceAdd, Nat.reduceLeDiff, Nat.le_refl, Nat.zero_le, cz_0, cz_1, cI_1, cO_1, cz_2, cI_2, cO_2, cL_2, cD_2, cz_3, cI_3, cO_3, cL_3, cD_3, cz_4, cI_4, cO_4, cL_4, cD_4, cz_5, cI_5, cO_5, cL_5, cD_5, cz_6, cI_6, cO_6, cL_6, cD_6, cz_7, cI_7, cO_7, cL_7, cD_7, cz_8, cI_8, cO_8, cL_8, cD_8, c1_I, c1_O, List.mem_cons, or_true, true_or, and_self, sI_S, sL_S, sR_S, sD_S, gb_S, sI_R, sL_R, sD_R, gb_R, sI_L, sR_I, sR_L, sL_I, sD_I, sD_L, gb_I, gb_L, y_S20 hL, y_M_rank hL, y_M_fields hL, y_M_home hL, y_M_limit hL, y_M_conflicts hL, y_M_busy hL, y_M_kind hL, y_M_field hL, y_M_department hL, y_M_supervisor hL, y_M_stage hL, y_M_members hL, y_M_room hL, y_M_dayOf hL, y_M_hourOf hL, y_M_line hL, y_F_rank hL, y_F_fields hL, y_F_home hL, y_F_limit hL, y_F_conflicts hL, y_F_busy hL, y_F_kind hL, y_F_field hL, y_F_department hL, y_F_supervisor hL, y_F_stage hL, y_F_members hL, y_F_room hL, y_F_dayOf hL, y_F_hourOf hL, y_F_line hL, m_rk hM, m_fl hM, m_dp hM, m_lm hM, m_cf hM, m_kd hM, m_fd hM, m_de hM, m_sv hM, m_st hM, m_mb hM, m_rm hM, m_dy hM, m_hr hM, m_pc hM, m_tc hM, m_wc hM, m_td hM, m_lo hM, if_pos (show (21 : Int32) ≤ iN 21 from Int32.le_refl _), iN_s]
def emc (P : PL) (j x : Nat) : Bool := decide (fdn P j ≤ x) && (eto P j x).isSome
theorem m166 (hL : Lay L xs h) (hM : Mod h P) (hW : WF P) {j : Nat} (hj : j < tn P) : Ev (d + 4) 166 0 [some (vR (20, 0, 0)), some (vI (iN j)), none, none] [] h = some (.inl (some (vI (oN (ear P j)))), h) := by
  have hj8 : j < 8 := Nat.lt_of_lt_of_le hj (w_tn hW)
  by_cases zd : dfd P j = true
  · simp only [v166_0, v166_1, v166_2, v166_5, v166_8, v166_9, v166_10, v166_11, v166_14, v166_15, v166_16, v166_19, v166_22, v166_23, v166_24, v166_25, v166_28, v166_30, v166_33, v166_36, v166_37, v166_38, v166_39, v166_40, v166_43, v166_44, v166_45, v166_46, v166_47, v166_50, v166_51, v166_54, v166_57, v166_60, v166_61, v166_63, v166_65, v166_68, v166_69, v166_70, v166_71, v166_72, v166_73, v166_74, v166_75, v166_76, v166_77, v166_80, v166_83, v166_85, v166_86, v166_87, v166_89, v166_90, v166_91, v166_92, v166_93, v166_94, v166_95, v166_96, v166_97, v166_98, v166_99, v166_102, v166_105, v166_108, v166_111, v166_112, n_14, n_8, inB_of, Nat.reduceLT, Prod.mk.injEq, true_and, rB, rBn, rBa, rBb, rBc, rBd, Evk_v, Evk_n, Nat.reduceAdd, Nat.reduceLeDiff, Nat.le_refl, Nat.zero_le, cz_0, cz_1, cI_1, cO_1, cz_2, cI_2, cO_2, cL_2, cD_2, cz_3, cI_3, cO_3, cL_3, cD_3, cz_4, cI_4, cO_4, cL_4, cD_4, cz_5, cI_5, cO_5, cL_5, cD_5, cz_6, cI_6, cO_6, cL_6, cD_6, cz_7, cI_7, cO_7, cL_7, cD_7, cz_8, cI_8, cO_8, cL_8, cD_8, c1_I, c1_O, List.mem_cons, or_true, true_or, and_self, sI_S, sL_S, sR_S, sD_S, gb_S, sI_R, sL_R, sD_R, gb_R, sI_L, sR_I, sR_L, sL_I, sD_I, sD_L, gb_I, gb_L, y_S20 hL, y_M_rank hL, y_M_fields hL, y_M_home hL, y_M_limit hL, y_M_conflicts hL, y_M_busy hL, y_M_kind hL, y_M_field hL, y_M_department hL, y_M_supervisor hL, y_M_stage hL, y_M_members hL, y_M_room hL, y_M_dayOf hL, y_M_hourOf hL, y_M_line hL, y_F_rank hL, y_F_fields hL, y_F_home hL, y_F_limit hL, y_F_conflicts hL, y_F_busy hL, y_F_kind hL, y_F_field hL, y_F_department hL, y_F_supervisor hL, y_F_stage hL, y_F_members hL, y_F_room hL, y_F_dayOf hL, y_F_hourOf hL, y_F_line hL, m_rk hM, m_fl hM, m_dp hM, m_lm hM, m_cf hM, m_kd hM, m_fd hM, m_de hM, m_sv hM, m_st hM, m_mb hM, m_rm hM, m_dy hM, m_hr hM, m_pc hM, m_tc hM, m_wc hM, m_td hM, m_lo hM, m152 hL hM hW hj, bI_0, zd, if_true, if_false, not_true_eq_false, not_false_eq_true, Bool.false_eq_true, Int32.or_zero, ne_eq, Bool.and_eq_true, decide_eq_true_eq, decide_true, decide_false, and_true, true_and, and_false, false_and, Bool.and_true, Bool.true_and, Bool.and_false, Bool.false_and]
    unfold ear
    rw [if_pos (Or.inl zd)]
    rfl
  by_cases zh : hld P j (P.1 11 j) = true
  · obtain ⟨t, ht, et⟩ := w_td hW
    obtain ⟨hf, ef⟩ := fdy_N hW hj8 zd
    obtain ⟨s, hs, es⟩ := w_st3 hW hj8 zd
    simp only [v166_0, v166_1, v166_2, v166_5, v166_8, v166_9, v166_10, v166_11, v166_14, v166_15, v166_16, v166_19, v166_22, v166_23, v166_24, v166_25, v166_28, v166_30, v166_33, v166_36, v166_37, v166_38, v166_39, v166_40, v166_43, v166_44, v166_45, v166_46, v166_47, v166_50, v166_51, v166_54, v166_57, v166_60, v166_61, v166_63, v166_65, v166_68, v166_69, v166_70, v166_71, v166_72, v166_73, v166_74, v166_75, v166_76, v166_77, v166_80, v166_83, v166_85, v166_86, v166_87, v166_89, v166_90, v166_91, v166_92, v166_93, v166_94, v166_95, v166_96, v166_97, v166_98, v166_99, v166_102, v166_105, v166_108, v166_111, v166_112, n_14, n_8, inB_of, Nat.reduceLT, Prod.mk.injEq, true_and, rB, rBn, rBa, rBb, rBc, rBd, Evk_v, Evk_n, Nat.reduceAdd, Nat.reduceLeDiff, Nat.le_refl, Nat.zero_le, cz_0, cz_1, cI_1, cO_1, cz_2, cI_2, cO_2, cL_2, cD_2, cz_3, cI_3, cO_3, cL_3, cD_3, cz_4, cI_4, cO_4, cL_4, cD_4, cz_5, cI_5, cO_5, cL_5, cD_5, cz_6, cI_6, cO_6, cL_6, cD_6, cz_7, cI_7, cO_7, cL_7, cD_7, cz_8, cI_8, cO_8, cL_8, cD_8, c1_I, c1_O, List.mem_cons, or_true, true_or, and_self, sI_S, sL_S, sR_S, sD_S, gb_S, sI_R, sL_R, sD_R, gb_R, sI_L, sR_I, sR_L, sL_I, sD_I, sD_L, gb_I, gb_L, y_S20 hL, y_M_rank hL, y_M_fields hL, y_M_home hL, y_M_limit hL, y_M_conflicts hL, y_M_busy hL, y_M_kind hL, y_M_field hL, y_M_department hL, y_M_supervisor hL, y_M_stage hL, y_M_members hL, y_M_room hL, y_M_dayOf hL, y_M_hourOf hL, y_M_line hL, y_F_rank hL, y_F_fields hL, y_F_home hL, y_F_limit hL, y_F_conflicts hL, y_F_busy hL, y_F_kind hL, y_F_field hL, y_F_department hL, y_F_supervisor hL, y_F_stage hL, y_F_members hL, y_F_room hL, y_F_dayOf hL, y_F_hourOf hL, y_F_line hL, m_rk hM, m_fl hM, m_dp hM, m_lm hM, m_cf hM, m_kd hM, m_fd hM, m_de hM, m_sv hM, m_st hM, m_mb hM, m_rm hM, m_dy hM, m_hr hM, m_pc hM, m_tc hM, m_wc hM, m_td hM, m_lo hM, hj, hj8, m152 hL hM hW hj, m156 hL hM hW hj (w_mb hW hj8), bI_0, zd, zh, et, if_true, if_false, not_true_eq_false, not_false_eq_true, Bool.false_eq_true, Int32.or_zero, ne_eq, Bool.and_eq_true, decide_eq_true_eq, decide_true, decide_false, and_true, true_and, and_false, false_and, Bool.and_true, Bool.true_and, Bool.and_false, Bool.false_and]
    have lp := loopF (σ := LS3) (E := fun ls => Ev (d + 4) 166 29 ls [] h) (I := fun k ls => ∃ o : Option MV, ls = [some (vR (20, 0, 0)), some (vI (iN j)), some (vI (iN (t + k))), o]) (n := 401 - t) (c := fun k => emc P j (t + k)) (r := fun k => some (.inl (some (vI (oN ((eto P j (t + k)).map (100 * (t + k) + ·))))), h)) (by
      rintro k hk ls ⟨o, rfl⟩
      have hnl : ¬ ((400 : Int32) < iN (t + k)) := nlt32' (ile (n := 400) (by omega) (by decide))
      have hx : t + k < 401 := by omega
      have q : (iN (t + k) - db P j (s + 1) < iN t) = (iN (t + k) < fdy P j) := by
        rw [← et]; exact dl_lt hW hj8 hx hs es
      by_cases y : iN (t + k) < fdy P j
      · have yc : emc P j (t + k) = false := by
          unfold emc
          rw [ef, iN_lt (by omega) (by omega)] at y
          rw [decide_eq_false (by omega)]; rfl
        have y' : ¬ iN t ≤ iN (t + k) - db P j (s + 1) := nle32 (q ▸ y)
        refine ⟨fun z => ?_, fun z => ⟨_, ⟨o, rfl⟩, ?_⟩⟩
        · rw [yc] at z; cases z
        · show Ev (d + 4) 166 29 _ [] h = Ev (d + 4) 166 29 _ [] h
          rw [v166_29]
          simp only [v166_0, v166_1, v166_2, v166_5, v166_8, v166_9, v166_10, v166_11, v166_14, v166_15, v166_16, v166_19, v166_22, v166_23, v166_24, v166_25, v166_28, v166_30, v166_33, v166_36, v166_37, v166_38, v166_39, v166_40, v166_43, v166_44, v166_45, v166_46, v166_47, v166_50, v166_51, v166_54, v166_57, v166_60, v166_61, v166_63, v166_65, v166_68, v166_69, v166_70, v166_71, v166_72, v166_73, v166_74, v166_75, v166_76, v166_77, v166_80, v166_83, v166_85, v166_86, v166_87, v166_89, v166_90, v166_91, v166_92, v166_93, v166_94, v166_95, v166_96, v166_97, v166_98, v166_99, v166_102, v166_105, v166_108, v166_111, v166_112, n_14, n_8, inB_of, Nat.reduceLT, Prod.mk.injEq, true_and, rB, rBn, rBa, rBb, rBc, rBd, Evk_v, Evk_n, Nat.reduceAdd, Nat.reduceLeDiff, Nat.le_refl, Nat.zero_le, cz_0, cz_1, cI_1, cO_1, cz_2, cI_2, cO_2, cL_2, cD_2, cz_3, cI_3, cO_3, cL_3, cD_3, cz_4, cI_4, cO_4, cL_4, cD_4, cz_5, cI_5, cO_5, cL_5, cD_5, cz_6, cI_6, cO_6, cL_6, cD_6, cz_7, cI_7, cO_7, cL_7, cD_7, cz_8, cI_8, cO_8, cL_8, cD_8, c1_I, c1_O, List.mem_cons, or_true, true_or, and_self, sI_S, sL_S, sR_S, sD_S, gb_S, sI_R, sL_R, sD_R, gb_R, sI_L, sR_I, sR_L, sL_I, sD_I, sD_L, gb_I, gb_L, y_S20 hL, y_M_rank hL, y_M_fields hL, y_M_home hL, y_M_limit hL, y_M_conflicts hL, y_M_busy hL, y_M_kind hL, y_M_field hL, y_M_department hL, y_M_supervisor hL, y_M_stage hL, y_M_members hL, y_M_room hL, y_M_dayOf hL, y_M_hourOf hL, y_M_line hL, y_F_rank hL, y_F_fields hL, y_F_home hL, y_F_limit hL, y_F_conflicts hL, y_F_busy hL, y_F_kind hL, y_F_field hL, y_F_department hL, y_F_supervisor hL, y_F_stage hL, y_F_members hL, y_F_room hL, y_F_dayOf hL, y_F_hourOf hL, y_F_line hL, m_rk hM, m_fl hM, m_dp hM, m_lm hM, m_cf hM, m_kd hM, m_fd hM, m_de hM, m_sv hM, m_st hM, m_mb hM, m_rm hM, m_dy hM, m_hr hM, m_pc hM, m_tc hM, m_wc hM, m_td hM, m_lo hM, hj, hj8, if_neg hnl, es, iN_s, m163 hL hM hW hj (s := s + 1) (by omega) (by omega), et, if_neg y']
          rfl
      · have y' : iN t ≤ iN (t + k) - db P j (s + 1) := le32n (q ▸ y)
        have inn := m166i (d := d) hL hM hW hj hx zd zh y
        have e0 := eto_21 (P := P) (j := j) (x := t + k)
        have yd : fdn P j ≤ t + k := by
          rw [ef, iN_lt (by omega) (by omega)] at y
          omega
        have ec : emc P j (t + k) = (eto P j (t + k)).isSome := by
          unfold emc
          rw [decide_eq_true yd, Bool.true_and]
        have go : Ev (d + 4) 166 29 [some (vR (20, 0, 0)), some (vI (iN j)), some (vI (iN (t + k))), o] [] h = Ev (d + 4) 166 62 [some (vR (20, 0, 0)), some (vI (iN j)), some (vI (iN (t + k))), some (vI 0)] [] h := by
          rw [v166_29]
          simp only [v166_0, v166_1, v166_2, v166_5, v166_8, v166_9, v166_10, v166_11, v166_14, v166_15, v166_16, v166_19, v166_22, v166_23, v166_24, v166_25, v166_28, v166_30, v166_33, v166_36, v166_37, v166_38, v166_39, v166_40, v166_43, v166_44, v166_45, v166_46, v166_47, v166_50, v166_51, v166_54, v166_57, v166_60, v166_61, v166_63, v166_65, v166_68, v166_69, v166_70, v166_71, v166_72, v166_73, v166_74, v166_75, v166_76, v166_77, v166_80, v166_83, v166_85, v166_86, v166_87, v166_89, v166_90, v166_91, v166_92, v166_93, v166_94, v166_95, v166_96, v166_97, v166_98, v166_99, v166_102, v166_105, v166_108, v166_111, v166_112, n_14, n_8, inB_of, Nat.reduceLT, Prod.mk.injEq, true_and, rB, rBn, rBa, rBb, rBc, rBd, Evk_v, Evk_n, Nat.reduceAdd, Nat.reduceLeDiff, Nat.le_refl, Nat.zero_le, cz_0, cz_1, cI_1, cO_1, cz_2, cI_2, cO_2, cL_2, cD_2, cz_3, cI_3, cO_3, cL_3, cD_3, cz_4, cI_4, cO_4, cL_4, cD_4, cz_5, cI_5, cO_5, cL_5, cD_5, cz_6, cI_6, cO_6, cL_6, cD_6, cz_7, cI_7, cO_7, cL_7, cD_7, cz_8, cI_8, cO_8, cL_8, cD_8, c1_I, c1_O, List.mem_cons, or_true, true_or, and_self, sI_S, sL_S, sR_S, sD_S, gb_S, sI_R, sL_R, sD_R, gb_R, sI_L, sR_I, sR_L, sL_I, sD_I, sD_L, gb_I, gb_L, y_S20 hL, y_M_rank hL, y_M_fields hL, y_M_home hL, y_M_limit hL, y_M_conflicts hL, y_M_busy hL, y_M_kind hL, y_M_field hL, y_M_department hL, y_M_supervisor hL, y_M_stage hL, y_M_members hL, y_M_room hL, y_M_dayOf hL, y_M_hourOf hL, y_M_line hL, y_F_rank hL, y_F_fields hL, y_F_home hL, y_F_limit hL, y_F_conflicts hL, y_F_busy hL, y_F_kind hL, y_F_field hL, y_F_department hL, y_F_supervisor hL, y_F_stage hL, y_F_members hL, y_F_room hL, y_F_dayOf hL, y_F_hourOf hL, y_F_line hL, m_rk hM, m_fl hM, m_dp hM, m_lm hM, m_cf hM, m_kd hM, m_fd hM, m_de hM, m_sv hM, m_st hM, m_mb hM, m_rm hM, m_dy hM, m_hr hM, m_pc hM, m_tc hM, m_wc hM, m_td hM, m_lo hM, hj, hj8, if_neg hnl, es, iN_s, m163 hL hM hW hj (s := s + 1) (by omega) (by omega), et, if_pos y']
        have go' := go.trans inn
        cases e : fnd (ftk P j (t + k)) 21 with
        | some m =>
          rw [e] at e0 go'
          refine ⟨fun z => go'.trans (rI_e ?_), fun z => ?_⟩
          · rw [e0]; rfl
          · rw [ec, e0] at z; cases z
        | none =>
          rw [e] at e0 go'
          refine ⟨fun z => ?_, fun z => ⟨_, ⟨some (vI (iN 21)), rfl⟩, go'⟩⟩
          rw [ec, e0] at z; cases z)
    obtain ⟨l1, l2⟩ := lp _ ⟨none, rfl⟩
    have hft : t ≤ fdn P j := by
      obtain ⟨b, hb, eb⟩ := db_N hW hj8 (s := s + 1) (by omega) (by omega)
      have : fdy P j = iN (t + b) := by
        unfold fdy
        rw [et, es, n_i (by omega), eb, iN_add]
      rw [ef, iN_inj (by omega) (by omega)] at this
      omega
    have sh := fnd_shift (c := fun k => (eto P j (fdn P j + k)).isSome) (e := fun k => emc P j (t + k)) (s := fdn P j - t) (n := 401 - t) (fun m hm => by
      show emc P j (t + m) = false
      unfold emc
      rw [decide_eq_false (by omega)]; rfl) (fun k => by
      show emc P j (t + (fdn P j - t + k)) = _
      unfold emc
      rw [show t + (fdn P j - t + k) = fdn P j + k by omega, decide_eq_true (by omega), Bool.true_and])
    rw [show 401 - t - (fdn P j - t) = 401 - fdn P j by omega] at sh
    unfold ear
    rw [if_neg (by simp [zd, zh])]
    cases e : fnd (fun k => (eto P j (fdn P j + k)).isSome) (401 - fdn P j) with
    | some k =>
      rw [e] at sh
      refine Eq.trans (l1 _ sh) (rI_e ?_)
      rw [show t + (fdn P j - t + k) = fdn P j + k by omega]
      simp only
      cases eto P j (fdn P j + k) <;> rfl
    | none =>
      rw [e] at sh
      obtain ⟨_, ⟨o, rfl⟩, e2⟩ := l2 sh
      refine Eq.trans e2 ?_
      show Ev (d + 4) 166 29 _ [] h = _
      rw [v166_29]
      have hx : (400 : Int32) < iN (t + (401 - t)) := ilt (k := 400) (by omega) (by omega)
      simp only [v166_0, v166_1, v166_2, v166_5, v166_8, v166_9, v166_10, v166_11, v166_14, v166_15, v166_16, v166_19, v166_22, v166_23, v166_24, v166_25, v166_28, v166_30, v166_33, v166_36, v166_37, v166_38, v166_39, v166_40, v166_43, v166_44, v166_45, v166_46, v166_47, v166_50, v166_51, v166_54, v166_57, v166_60, v166_61, v166_63, v166_65, v166_68, v166_69, v166_70, v166_71, v166_72, v166_73, v166_74, v166_75, v166_76, v166_77, v166_80, v166_83, v166_85, v166_86, v166_87, v166_89, v166_90, v166_91, v166_92, v166_93, v166_94, v166_95, v166_96, v166_97, v166_98, v166_99, v166_102, v166_105, v166_108, v166_111, v166_112, n_14, n_8, inB_of, Nat.reduceLT, Prod.mk.injEq, true_and, rB, rBn, rBa, rBb, rBc, rBd, Evk_v, Evk_n, Nat.reduceAdd, Nat.reduceLeDiff, Nat.le_refl, Nat.zero_le, cz_0, cz_1, cI_1, cO_1, cz_2, cI_2, cO_2, cL_2, cD_2, cz_3, cI_3, cO_3, cL_3, cD_3, cz_4, cI_4, cO_4, cL_4, cD_4, cz_5, cI_5, cO_5, cL_5, cD_5, cz_6, cI_6, cO_6, cL_6, cD_6, cz_7, cI_7, cO_7, cL_7, cD_7, cz_8, cI_8, cO_8, cL_8, cD_8, c1_I, c1_O, List.mem_cons, or_true, true_or, and_self, sI_S, sL_S, sR_S, sD_S, gb_S, sI_R, sL_R, sD_R, gb_R, sI_L, sR_I, sR_L, sL_I, sD_I, sD_L, gb_I, gb_L, y_S20 hL, y_M_rank hL, y_M_fields hL, y_M_home hL, y_M_limit hL, y_M_conflicts hL, y_M_busy hL, y_M_kind hL, y_M_field hL, y_M_department hL, y_M_supervisor hL, y_M_stage hL, y_M_members hL, y_M_room hL, y_M_dayOf hL, y_M_hourOf hL, y_M_line hL, y_F_rank hL, y_F_fields hL, y_F_home hL, y_F_limit hL, y_F_conflicts hL, y_F_busy hL, y_F_kind hL, y_F_field hL, y_F_department hL, y_F_supervisor hL, y_F_stage hL, y_F_members hL, y_F_room hL, y_F_dayOf hL, y_F_hourOf hL, y_F_line hL, m_rk hM, m_fl hM, m_dp hM, m_lm hM, m_cf hM, m_kd hM, m_fd hM, m_de hM, m_sv hM, m_st hM, m_mb hM, m_rm hM, m_dy hM, m_hr hM, m_pc hM, m_tc hM, m_wc hM, m_td hM, m_lo hM, if_pos hx]
      rfl
  · simp only [v166_0, v166_1, v166_2, v166_5, v166_8, v166_9, v166_10, v166_11, v166_14, v166_15, v166_16, v166_19, v166_22, v166_23, v166_24, v166_25, v166_28, v166_30, v166_33, v166_36, v166_37, v166_38, v166_39, v166_40, v166_43, v166_44, v166_45, v166_46, v166_47, v166_50, v166_51, v166_54, v166_57, v166_60, v166_61, v166_63, v166_65, v166_68, v166_69, v166_70, v166_71, v166_72, v166_73, v166_74, v166_75, v166_76, v166_77, v166_80, v166_83, v166_85, v166_86, v166_87, v166_89, v166_90, v166_91, v166_92, v166_93, v166_94, v166_95, v166_96, v166_97, v166_98, v166_99, v166_102, v166_105, v166_108, v166_111, v166_112, n_14, n_8, inB_of, Nat.reduceLT, Prod.mk.injEq, true_and, rB, rBn, rBa, rBb, rBc, rBd, Evk_v, Evk_n, Nat.reduceAdd, Nat.reduceLeDiff, Nat.le_refl, Nat.zero_le, cz_0, cz_1, cI_1, cO_1, cz_2, cI_2, cO_2, cL_2, cD_2, cz_3, cI_3, cO_3, cL_3, cD_3, cz_4, cI_4, cO_4, cL_4, cD_4, cz_5, cI_5, cO_5, cL_5, cD_5, cz_6, cI_6, cO_6, cL_6, cD_6, cz_7, cI_7, cO_7, cL_7, cD_7, cz_8, cI_8, cO_8, cL_8, cD_8, c1_I, c1_O, List.mem_cons, or_true, true_or, and_self, sI_S, sL_S, sR_S, sD_S, gb_S, sI_R, sL_R, sD_R, gb_R, sI_L, sR_I, sR_L, sL_I, sD_I, sD_L, gb_I, gb_L, y_S20 hL, y_M_rank hL, y_M_fields hL, y_M_home hL, y_M_limit hL, y_M_conflicts hL, y_M_busy hL, y_M_kind hL, y_M_field hL, y_M_department hL, y_M_supervisor hL, y_M_stage hL, y_M_members hL, y_M_room hL, y_M_dayOf hL, y_M_hourOf hL, y_M_line hL, y_F_rank hL, y_F_fields hL, y_F_home hL, y_F_limit hL, y_F_conflicts hL, y_F_busy hL, y_F_kind hL, y_F_field hL, y_F_department hL, y_F_supervisor hL, y_F_stage hL, y_F_members hL, y_F_room hL, y_F_dayOf hL, y_F_hourOf hL, y_F_line hL, m_rk hM, m_fl hM, m_dp hM, m_lm hM, m_cf hM, m_kd hM, m_fd hM, m_de hM, m_sv hM, m_st hM, m_mb hM, m_rm hM, m_dy hM, m_hr hM, m_pc hM, m_tc hM, m_wc hM, m_td hM, m_lo hM, hj, hj8, m152 hL hM hW hj, m156 hL hM hW hj (w_mb hW hj8), bI_0, zd, zh, if_true, if_false, not_true_eq_false, not_false_eq_true, Bool.false_eq_true, Int32.or_zero, ne_eq, Bool.and_eq_true, decide_eq_true_eq, decide_true, decide_false, and_true, true_and, and_false, false_and, Bool.and_true, Bool.true_and, Bool.and_false, Bool.false_and]
    unfold ear
    rw [if_pos (Or.inr zh)]
    rfl
end Mod6
