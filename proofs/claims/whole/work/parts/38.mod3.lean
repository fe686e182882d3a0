/-! THE MODEL: quorums, loads, free persons, reasons -/


theorem sub_i {a b : Nat} (ha : a < 1073741824) (hb : b < 1073741824) : (iN a - iN b).toInt = (a : Int) - b := by
  rw [Int32.toInt_sub, iN_i (by omega), iN_i (by omega)]
  exact Int.bmod_eq_of_le (by omega) (by omega)
section Mod3
variable {L : Nat} {xs : Nat → Int32} {h : Hp} {P : PL} {d : Nat}
theorem m156 (hL : Lay L xs h) (hM : Mod h P) (hW : WF P) {j : Nat} {s : Int32} (hj : j < tn P) (hs : sub (pn P) s) : Ev (d + 1) 156 0 [some (vR (20, 0, 0)), some (vI (iN j)), some (vI s), none] [] h = some (.inl (some (vI (bI (hld P j s = true)))), h) := by
  have hj8 : j < 8 := Nat.lt_of_lt_of_le hj (w_tn hW)
  have lp := loopF (σ := LS3) (E := fun ls => Ev (d + 1) 156 2 ls [] h) (I := fun k ls => ∃ o : Option MV, ls = [some (vR (20, 0, 0)), some (vI (iN j)), some (vI s), some (vI (iN k))]) (n := 5) (c := fun w => decide (iN (has P j s w) < nq P j w)) (r := fun _ => some (.inl (some (vI (0))), h)) (by
    rintro k hk ls ⟨o, rfl⟩
    have hk31 : k < 2147483648 := by omega
    have hnl : ¬ ((5 : Int32) ≤ iN k) := nle (n := 5) hk (by omega)
    refine ⟨fun z => ?_, fun z => ⟨_, ⟨none, rfl⟩, ?_⟩⟩
    · simp only [dect] at z
      show Ev (d + 1) 156 2 _ [] h = _
      rw [v156_2]
      simp only [v156_0, v156_1, v156_3, v156_4, v156_7, v156_8, v156_9, v156_10, v156_11, v156_14, v156_15, v156_16, v156_17, v156_20, v156_23, v156_24, v156_25, v156_28, v156_31, v156_32, n_14, n_8, inB_of, Nat.reduceLT, Prod.mk.injEq, true_and, rB, rBn, rBa, rBb, rBc, rBd, Evk_v, Evk_n, Nat.reduceAdd, Nat.reduceLeDiff, Nat.le_refl, Nat.zero_le, cz_0, cz_1, cI_1, cO_1, cz_2, cI_2, cO_2, cL_2, cD_2, cz_3, cI_3, cO_3, cL_3, cD_3, cz_4, cI_4, cO_4, cL_4, cD_4, cz_5, cI_5, cO_5, cL_5, cD_5, cz_6, cI_6, cO_6, cL_6, cD_6, cz_7, cI_7, cO_7, cL_7, cD_7, cz_8, cI_8, cO_8, cL_8, cD_8, c1_I, c1_O, List.mem_cons, or_true, true_or, and_self, sI_S, sL_S, sR_S, sD_S, gb_S, sI_R, sL_R, sD_R, gb_R, sI_L, sR_I, sR_L, sL_I, sD_I, sD_L, gb_I, gb_L, y_S20 hL, y_M_rank hL, y_M_fields hL, y_M_home hL, y_M_limit hL, y_M_conflicts hL, y_M_busy hL, y_M_kind hL, y_M_field hL, y_M_department hL, y_M_supervisor hL, y_M_stage hL, y_M_members hL, y_M_room hL, y_M_dayOf hL, y_M_hourOf hL, y_M_line hL, y_F_rank hL, y_F_fields hL, y_F_home hL, y_F_limit hL, y_F_conflicts hL, y_F_busy hL, y_F_kind hL, y_F_field hL, y_F_department hL, y_F_supervisor hL, y_F_stage hL, y_F_members hL, y_F_room hL, y_F_dayOf hL, y_F_hourOf hL, y_F_line hL, m_rk hM, m_fl hM, m_dp hM, m_lm hM, m_cf hM, m_kd hM, m_fd hM, m_de hM, m_sv hM, m_st hM, m_mb hM, m_rm hM, m_dy hM, m_hr hM, m_pc hM, m_tc hM, m_wc hM, m_td hM, m_lo hM, hk, n_i hk31, if_neg hnl, iN_s, orf_s, cn_s, smf_s, hj, m155 hL hM hW hj hk hs, m153 hL hM hW hj hk, if_neg (nle32 z)]
    · simp only [decf] at z
      show Ev (d + 1) 156 2 _ [] h = Ev (d + 1) 156 2 _ [] h
      rw [v156_2]
      simp only [v156_0, v156_1, v156_3, v156_4, v156_7, v156_8, v156_9, v156_10, v156_11, v156_14, v156_15, v156_16, v156_17, v156_20, v156_23, v156_24, v156_25, v156_28, v156_31, v156_32, n_14, n_8, inB_of, Nat.reduceLT, Prod.mk.injEq, true_and, rB, rBn, rBa, rBb, rBc, rBd, Evk_v, Evk_n, Nat.reduceAdd, Nat.reduceLeDiff, Nat.le_refl, Nat.zero_le, cz_0, cz_1, cI_1, cO_1, cz_2, cI_2, cO_2, cL_2, cD_2, cz_3, cI_3, cO_3, cL_3, cD_3, cz_4, cI_4, cO_4, cL_4, cD_4, cz_5, cI_5, cO_5, cL_5, cD_5, cz_6, cI_6, cO_6, cL_6, cD_6, cz_7, cI_7, cO_7, cL_7, cD_7, cz_8, cI_8, cO_8, cL_8, cD_8, c1_I, c1_O, List.mem_cons, or_true, true_or, and_self, sI_S, sL_S, sR_S, sD_S, gb_S, sI_R, sL_R, sD_R, gb_R, sI_L, sR_I, sR_L, sL_I, sD_I, sD_L, gb_I, gb_L, y_S20 hL, y_M_rank hL, y_M_fields hL, y_M_home hL, y_M_limit hL, y_M_conflicts hL, y_M_busy hL, y_M_kind hL, y_M_field hL, y_M_department hL, y_M_supervisor hL, y_M_stage hL, y_M_members hL, y_M_room hL, y_M_dayOf hL, y_M_hourOf hL, y_M_line hL, y_F_rank hL, y_F_fields hL, y_F_home hL, y_F_limit hL, y_F_conflicts hL, y_F_busy hL, y_F_kind hL, y_F_field hL, y_F_department hL, y_F_supervisor hL, y_F_stage hL, y_F_members hL, y_F_room hL, y_F_dayOf hL, y_F_hourOf hL, y_F_line hL, m_rk hM, m_fl hM, m_dp hM, m_lm hM, m_cf hM, m_kd hM, m_fd hM, m_de hM, m_sv hM, m_st hM, m_mb hM, m_rm hM, m_dy hM, m_hr hM, m_pc hM, m_tc hM, m_wc hM, m_td hM, m_lo hM, hk, n_i hk31, if_neg hnl, iN_s, orf_s, cn_s, smf_s, hj, m155 hL hM hW hj hk hs, m153 hL hM hW hj hk, if_pos (le32n z)]
    )
  obtain ⟨l1, l2⟩ := lp _ ⟨none, rfl⟩
  simp only [v156_0, v156_1, v156_3, v156_4, v156_7, v156_8, v156_9, v156_10, v156_11, v156_14, v156_15, v156_16, v156_17, v156_20, v156_23, v156_24, v156_25, v156_28, v156_31, v156_32, n_14, n_8, inB_of, Nat.reduceLT, Prod.mk.injEq, true_and, rB, rBn, rBa, rBb, rBc, rBd, Evk_v, Evk_n, Nat.reduceAdd, Nat.reduceLeDiff, Nat.le_refl, Nat.zero_le, cz_0, cz_1, cI_1, cO_1, cz_2, cI_2, cO_2, cL_2, cD_2, cz_3, cI_3, cO_3, cL_3, cD_3, cz_4, cI_4, cO_4, cL_4, cD_4, cz_5, cI_5, cO_5, cL_5, cD_5, cz_6, cI_6, cO_6, cL_6, cD_6, cz_7, cI_7, cO_7, cL_7, cD_7, cz_8, cI_8, cO_8, cL_8, cD_8, c1_I, c1_O, List.mem_cons, or_true, true_or, and_self, sI_S, sL_S, sR_S, sD_S, gb_S, sI_R, sL_R, sD_R, gb_R, sI_L, sR_I, sR_L, sL_I, sD_I, sD_L, gb_I, gb_L]
  cases e : fnd (fun w => decide (iN (has P j s w) < nq P j w)) 5 with
  | some k =>
    refine Eq.trans (l1 k e) (rI_e (bI_f fun z => ?_).symm)
    obtain ⟨h1, h2, -⟩ := fnd_some.1 e
    rw [dect, ← not_le32] at h2
    exact h2 (hld_t.1 z k h1)
  | none =>
    obtain ⟨_, ⟨o, rfl⟩, e2⟩ := l2 e
    refine Eq.trans e2 ?_
    show Ev (d + 1) 156 2 _ [] h = _
    rw [v156_2]
    simp only [v156_0, v156_1, v156_3, v156_4, v156_7, v156_8, v156_9, v156_10, v156_11, v156_14, v156_15, v156_16, v156_17, v156_20, v156_23, v156_24, v156_25, v156_28, v156_31, v156_32, n_14, n_8, inB_of, Nat.reduceLT, Prod.mk.injEq, true_and, rB, rBn, rBa, rBb, rBc, rBd, Evk_v, Evk_n, Nat.reduceAdd, Nat.reduceLeDiff, Nat.le_refl, Nat.zero_le, cz_0, cz_1, cI_1, cO_1, cz_2, cI_2, cO_2, cL_2, cD_2, cz_3, cI_3, cO_3, cL_3, cD_3, cz_4, cI_4, cO_4, cL_4, cD_4, cz_5, cI_5, cO_5, cL_5, cD_5, cz_6, cI_6, cO_6, cL_6, cD_6, cz_7, cI_7, cO_7, cL_7, cD_7, cz_8, cI_8, cO_8, cL_8, cD_8, c1_I, c1_O, List.mem_cons, or_true, true_or, and_self, sI_S, sL_S, sR_S, sD_S, gb_S, sI_R, sL_R, sD_R, gb_R, sI_L, sR_I, sR_L, sL_I, sD_I, sD_L, gb_I, gb_L, y_S20 hL, y_M_rank hL, y_M_fields hL, y_M_home hL, y_M_limit hL, y_M_conflicts hL, y_M_busy hL, y_M_kind hL, y_M_field hL, y_M_department hL, y_M_supervisor hL, y_M_stage hL, y_M_members hL, y_M_room hL, y_M_dayOf hL, y_M_hourOf hL, y_M_line hL, y_F_rank hL, y_F_fields hL, y_F_home hL, y_F_limit hL, y_F_conflicts hL, y_F_busy hL, y_F_kind hL, y_F_field hL, y_F_department hL, y_F_supervisor hL, y_F_stage hL, y_F_members hL, y_F_room hL, y_F_dayOf hL, y_F_hourOf hL, y_F_line hL, m_rk hM, m_fl hM, m_dp hM, m_lm hM, m_cf hM, m_kd hM, m_fd hM, m_de hM, m_sv hM, m_st hM, m_mb hM, m_rm hM, m_dy hM, m_hr hM, m_pc hM, m_tc hM, m_wc hM, m_td hM, m_lo hM, if_pos (show (5 : Int32) ≤ iN (5) from Int32.le_refl _), hj]
    refine rI_e (bI_t (hld_t.2 fun w hw => ?_)).symm
    have := fnd_none.1 e w hw
    rwa [decf, not_lt32] at this
theorem m157 (hL : Lay L xs h) (hM : Mod h P) (hW : WF P) {i : Nat} : Ev (d + 1) 157 0 [some (vR (20, 0, 0)), some (vI (iN i)), none, none] [] h = some (.inl (some (vI (iN (cn (ldf P i) (tn P))))), h) := by
  have h8 := w_tn hW
  have lp := loopI (σ := LS3) (E := fun ls => Ev (d + 1) 157 4 ls [] h) (I := fun k ls => ∃ o : Option MV, ls = [some (vR (20, 0, 0)), some (vI (iN i)), some (vI (iN (cn (ldf P i) k))), some (vI (iN k))]) (n := (tn P)) (by
    rintro k hk ls ⟨o, rfl⟩
    have hk31 : k < 2147483648 := by omega
    have hnl : ¬ (iN (tn P) ≤ iN k) := nle (n := (tn P)) hk (by omega)
    refine ⟨_, ⟨none, rfl⟩, ?_⟩
    show Ev (d + 1) 157 4 _ [] h = Ev (d + 1) 157 4 _ [] h
    rw [v157_4]
    simp only [v157_0, v157_1, v157_2, v157_3, v157_5, v157_6, v157_9, v157_12, v157_13, v157_14, v157_15, v157_16, v157_19, v157_22, v157_23, v157_24, v157_27, v157_30, v157_31, v157_34, v157_35, v157_36, v157_37, v157_40, v157_43, v157_44, n_14, n_8, inB_of, Nat.reduceLT, Prod.mk.injEq, true_and, rB, rBn, rBa, rBb, rBc, rBd, Evk_v, Evk_n, Nat.reduceAdd, Nat.reduceLeDiff, Nat.le_refl, Nat.zero_le, cz_0, cz_1, cI_1, cO_1, cz_2, cI_2, cO_2, cL_2, cD_2, cz_3, cI_3, cO_3, cL_3, cD_3, cz_4, cI_4, cO_4, cL_4, cD_4, cz_5, cI_5, cO_5, cL_5, cD_5, cz_6, cI_6, cO_6, cL_6, cD_6, cz_7, cI_7, cO_7, cL_7, cD_7, cz_8, cI_8, cO_8, cL_8, cD_8, c1_I, c1_O, List.mem_cons, or_true, true_or, and_self, sI_S, sL_S, sR_S, sD_S, gb_S, sI_R, sL_R, sD_R, gb_R, sI_L, sR_I, sR_L, sL_I, sD_I, sD_L, gb_I, gb_L, y_S20 hL, y_M_rank hL, y_M_fields hL, y_M_home hL, y_M_limit hL, y_M_conflicts hL, y_M_busy hL, y_M_kind hL, y_M_field hL, y_M_department hL, y_M_supervisor hL, y_M_stage hL, y_M_members hL, y_M_room hL, y_M_dayOf hL, y_M_hourOf hL, y_M_line hL, y_F_rank hL, y_F_fields hL, y_F_home hL, y_F_limit hL, y_F_conflicts hL, y_F_busy hL, y_F_kind hL, y_F_field hL, y_F_department hL, y_F_supervisor hL, y_F_stage hL, y_F_members hL, y_F_room hL, y_F_dayOf hL, y_F_hourOf hL, y_F_line hL, m_rk hM, m_fl hM, m_dp hM, m_lm hM, m_cf hM, m_kd hM, m_fd hM, m_de hM, m_sv hM, m_st hM, m_mb hM, m_rm hM, m_dy hM, m_hr hM, m_pc hM, m_tc hM, m_wc hM, m_td hM, m_lo hM, hk, n_i hk31, if_neg hnl, iN_s, orf_s, cn_s, smf_s, m150' hL hM hW hk, m152 hL hM hW hk, bI_0]
    by_cases z : bt (P.1 11 k) i = true <;> by_cases y : dfd P k = true <;> (simp only [z, y, ldf, Bool.not_true, Bool.not_false, if_true, if_false, not_true_eq_false, not_false_eq_true, Bool.false_eq_true, Int32.or_zero, ne_eq, Bool.and_eq_true, decide_eq_true_eq, decide_true, decide_false, and_true, true_and, and_false, false_and, Bool.and_true, Bool.true_and, Bool.and_false, Bool.false_and, Bool.toNat_true, Bool.toNat_false, Nat.add_zero, Int32.add_zero]; try rfl))
  obtain ⟨_, ⟨o, rfl⟩, e⟩ := lp _ ⟨none, rfl⟩
  simp only [v157_0, v157_1, v157_2, v157_3, v157_5, v157_6, v157_9, v157_12, v157_13, v157_14, v157_15, v157_16, v157_19, v157_22, v157_23, v157_24, v157_27, v157_30, v157_31, v157_34, v157_35, v157_36, v157_37, v157_40, v157_43, v157_44, n_14, n_8, inB_of, Nat.reduceLT, Prod.mk.injEq, true_and, rB, rBn, rBa, rBb, rBc, rBd, Evk_v, Evk_n, Nat.reduceAdd, Nat.reduceLeDiff, Nat.le_refl, Nat.zero_le, cz_0, cz_1, cI_1, cO_1, cz_2, cI_2, cO_2, cL_2, cD_2, cz_3, cI_3, cO_3, cL_3, cD_3, cz_4, cI_4, cO_4, cL_4, cD_4, cz_5, cI_5, cO_5, cL_5, cD_5, cz_6, cI_6, cO_6, cL_6, cD_6, cz_7, cI_7, cO_7, cL_7, cD_7, cz_8, cI_8, cO_8, cL_8, cD_8, c1_I, c1_O, List.mem_cons, or_true, true_or, and_self, sI_S, sL_S, sR_S, sD_S, gb_S, sI_R, sL_R, sD_R, gb_R, sI_L, sR_I, sR_L, sL_I, sD_I, sD_L, gb_I, gb_L, y_S20 hL, y_M_rank hL, y_M_fields hL, y_M_home hL, y_M_limit hL, y_M_conflicts hL, y_M_busy hL, y_M_kind hL, y_M_field hL, y_M_department hL, y_M_supervisor hL, y_M_stage hL, y_M_members hL, y_M_room hL, y_M_dayOf hL, y_M_hourOf hL, y_M_line hL, y_F_rank hL, y_F_fields hL, y_F_home hL, y_F_limit hL, y_F_conflicts hL, y_F_busy hL, y_F_kind hL, y_F_field hL, y_F_department hL, y_F_supervisor hL, y_F_stage hL, y_F_members hL, y_F_room hL, y_F_dayOf hL, y_F_hourOf hL, y_F_line hL, m_rk hM, m_fl hM, m_dp hM, m_lm hM, m_cf hM, m_kd hM, m_fd hM, m_de hM, m_sv hM, m_st hM, m_mb hM, m_rm hM, m_dy hM, m_hr hM, m_pc hM, m_tc hM, m_wc hM, m_td hM, m_lo hM, bI_0]
  refine Eq.trans e ?_
  show Ev (d + 1) 157 4 _ [] h = _
  rw [v157_4]
  simp only [v157_0, v157_1, v157_2, v157_3, v157_5, v157_6, v157_9, v157_12, v157_13, v157_14, v157_15, v157_16, v157_19, v157_22, v157_23, v157_24, v157_27, v157_30, v157_31, v157_34, v157_35, v157_36, v157_37, v157_40, v157_43, v157_44, n_14, n_8, inB_of, Nat.reduceLT, Prod.mk.injEq, true_and, rB, rBn, rBa, rBb, rBc, rBd, Evk_v, Evk_n, Nat.reduceAdd, Nat.reduceLeDiff, Nat.le_refl, Nat.zero_le, cz_0, cz_1, cI_1, cO_1, cz_2, cI_2, cO_2, cL_2, cD_2, cz_3, cI_3, cO_3, cL_3, cD_3, cz_4, cI_4, cO_4, cL_4, cD_4, cz_5, cI_5, cO_5, cL_5, cD_5, cz_6, cI_6, cO_6, cL_6, cD_6, cz_7, cI_7, cO_7, cL_7, cD_7, cz_8, cI_8, cO_8, cL_8, cD_8, c1_I, c1_O, List.mem_cons, or_true, true_or, and_self, sI_S, sL_S, sR_S, sD_S, gb_S, sI_R, sL_R, sD_R, gb_R, sI_L, sR_I, sR_L, sL_I, sD_I, sD_L, gb_I, gb_L, y_S20 hL, y_M_rank hL, y_M_fields hL, y_M_home hL, y_M_limit hL, y_M_conflicts hL, y_M_busy hL, y_M_kind hL, y_M_field hL, y_M_department hL, y_M_supervisor hL, y_M_stage hL, y_M_members hL, y_M_room hL, y_M_dayOf hL, y_M_hourOf hL, y_M_line hL, y_F_rank hL, y_F_fields hL, y_F_home hL, y_F_limit hL, y_F_conflicts hL, y_F_busy hL, y_F_kind hL, y_F_field hL, y_F_department hL, y_F_supervisor hL, y_F_stage hL, y_F_members hL, y_F_room hL, y_F_dayOf hL, y_F_hourOf hL, y_F_line hL, m_rk hM, m_fl hM, m_dp hM, m_lm hM, m_cf hM, m_kd hM, m_fd hM, m_de hM, m_sv hM, m_st hM, m_mb hM, m_rm hM, m_dy hM, m_hr hM, m_pc hM, m_tc hM, m_wc hM, m_td hM, m_lo hM, if_pos (show iN (tn P) ≤ iN ((tn P)) from Int32.le_refl _), bI_0]
theorem m158 (hL : Lay L xs h) (hM : Mod h P) (hW : WF P) {j x u : Nat} (hj : j < tn P) (hu : u < 7) : Ev (d + 1) 158 0 [some (vR (20, 0, 0)), some (vI (iN j)), some (vI (iN x)), some (vI (iN u))] [] h = some (.inl (some (vI (bI (ovl P j x u = true)))), h) := by
  have hj8 : j < 8 := Nat.lt_of_lt_of_le hj (w_tn hW)
  simp only [v158_0, v158_1, v158_2, v158_5, v158_8, v158_9, v158_12, v158_13, v158_14, v158_15, v158_18, v158_19, v158_22, v158_23, v158_24, v158_25, v158_26, v158_27, v158_30, v158_31, v158_32, v158_35, v158_36, v158_37, v158_38, v158_39, v158_42, v158_43, v158_46, v158_47, n_14, n_8, inB_of, Nat.reduceLT, Prod.mk.injEq, true_and, rB, rBn, rBa, rBb, rBc, rBd, Evk_v, Evk_n, Nat.reduceAdd, Nat.reduceLeDiff, Nat.le_refl, Nat.zero_le, cz_0, cz_1, cI_1, cO_1, cz_2, cI_2, cO_2, cL_2, cD_2, cz_3, cI_3, cO_3, cL_3, cD_3, cz_4, cI_4, cO_4, cL_4, cD_4, cz_5, cI_5, cO_5, cL_5, cD_5, cz_6, cI_6, cO_6, cL_6, cD_6, cz_7, cI_7, cO_7, cL_7, cD_7, cz_8, cI_8, cO_8, cL_8, cD_8, c1_I, c1_O, List.mem_cons, or_true, true_or, and_self, sI_S, sL_S, sR_S, sD_S, gb_S, sI_R, sL_R, sD_R, gb_R, sI_L, sR_I, sR_L, sL_I, sD_I, sD_L, gb_I, gb_L, y_S20 hL, y_M_rank hL, y_M_fields hL, y_M_home hL, y_M_limit hL, y_M_conflicts hL, y_M_busy hL, y_M_kind hL, y_M_field hL, y_M_department hL, y_M_supervisor hL, y_M_stage hL, y_M_members hL, y_M_room hL, y_M_dayOf hL, y_M_hourOf hL, y_M_line hL, y_F_rank hL, y_F_fields hL, y_F_home hL, y_F_limit hL, y_F_conflicts hL, y_F_busy hL, y_F_kind hL, y_F_field hL, y_F_department hL, y_F_supervisor hL, y_F_stage hL, y_F_members hL, y_F_room hL, y_F_dayOf hL, y_F_hourOf hL, y_F_line hL, m_rk hM, m_fl hM, m_dp hM, m_lm hM, m_cf hM, m_kd hM, m_fd hM, m_de hM, m_sv hM, m_st hM, m_mb hM, m_rm hM, m_dy hM, m_hr hM, m_pc hM, m_tc hM, m_wc hM, m_td hM, m_lo hM, hj, hj8, m151 hL hM hW hj, bI_0]
  by_cases z : pld P j = true
  · obtain ⟨r, y, a, hr, hy, ha, e1, e2, e3⟩ := pl_N hW hj8 z
    simp only [z, e2, e3, if_true, if_false, not_true_eq_false, not_false_eq_true, Bool.false_eq_true, Int32.or_zero, ne_eq, Bool.and_eq_true, decide_eq_true_eq, decide_true, decide_false, and_true, true_and, and_false, false_and, Bool.and_true, Bool.true_and, Bool.and_false, Bool.false_and]
    by_cases w : iN y = iN x
    · have q := msk_ok a ha u hu
      have e : (ovl P j x u = true) = (¬ (3 <<< (iN a &&& 31) : Int32) &&& msk u = 0) := by
        unfold ovl hon
        rw [dect, if_pos ⟨z, by rw [e2, w]⟩, e3]
      have e' := (iff_of_eq e).trans q
      exact rI_c ⟨fun y => e'.2 ⟨le32n y.2.1, le32n y.2.2⟩, fun y => ⟨w, nlt32' (e'.1 y).1, nlt32' (e'.1 y).2⟩⟩
    · have e : ¬ ovl P j x u = true := by
        unfold ovl hon
        rw [dect, if_neg fun y => w (by rw [← e2]; exact y.2), Int32.zero_and]
        exact fun y => y rfl
      exact rI_c ⟨fun y => absurd y.1 w, fun y => absurd y e⟩
  · have e : ¬ ovl P j x u = true := by
      unfold ovl hon
      rw [dect, if_neg fun y => z y.1, Int32.zero_and]
      exact fun y => y rfl
    simp only [z, if_true, if_false, not_true_eq_false, not_false_eq_true, Bool.false_eq_true, Int32.or_zero, ne_eq, Bool.and_eq_true, decide_eq_true_eq, decide_true, decide_false, and_true, true_and, and_false, false_and, Bool.and_true, Bool.true_and, Bool.and_false, Bool.false_and]
    exact rI_c ⟨fun y => y.elim, fun y => absurd y e⟩
def fcl (P : PL) (i x u ex t : Nat) : Bool := (decide (t ≠ ex) && bt (P.1 11 t) i) && ovl P t x u
theorem fcl_t {t i x u ex : Nat} : ¬ htkf P i x ex t &&& msk u = 0 ↔ fcl P i x u ex t = true := by
  unfold htkf fcl ovl
  rw [Bool.and_eq_true, Bool.and_eq_true, dect, dect]
  by_cases z : t ≠ ex ∧ bt (P.1 11 t) i = true
  · rw [if_pos z]
    exact ⟨fun y => ⟨z, y⟩, fun y => y.2⟩
  · rw [if_neg z, Int32.zero_and]
    exact ⟨fun y => absurd rfl y, fun y => absurd y.1 z⟩
theorem fcl_0 (hW : WF P) {t i x u ex : Nat} (h1 : tn P ≤ t) (h2 : t < 8) : fcl P i x u ex t = false := by
  have := (w_t0 hW h1 h2).2.2.2.2.2.1
  unfold fcl
  rw [this, eq_false_of_ne_true (show ¬ bt 0 i = true from fun z => ?_)]
  · simp
  · rw [bt_d] at z
    have : (0 : Int32) >>> (iN i &&& 31) &&& 1 = 0 := by
      have : (0 : Int32) >>> (iN i &&& 31) = 0 := by
        refine Int32.toBitVec_inj.1 ?_
        show BitVec.sshiftRight' 0#32 _ = 0#32
        rw [BitVec.sshiftRight_eq']
        simp
      rw [this]; rfl
    rw [this] at z
    exact absurd z (by decide)
theorem fre_f (hW : WF P) {i x u ex : Nat} (hi : i < 14) (hx : x < 401) (hu : u < 7) : fre P i x u ex ↔ (P.1 5 (401 * i + x) >>> (iN u &&& 31)) &&& 3 = 0 ∧ fnd (fcl P i x u ex) (tn P) = none := by
  unfold fre htk
  rw [and_orf0]
  obtain ⟨m, hm, e⟩ := sub_N (by decide) (w_by hW hi hx)
  rw [e, byt_ok m hm u hu, fnd_none]
  have h8 := w_tn hW
  refine and_congr_right fun _ => ⟨fun y t ht => ?_, fun y t ht => ?_⟩
  · exact eq_false_of_ne_true fun z => (fcl_t.mpr z) (y t (by omega))
  · refine Decidable.byContradiction fun z => ?_
    have z' := fcl_t.mp z
    by_cases q : t < tn P
    · rw [y t q] at z'; cases z'
    · rw [fcl_0 hW (by omega) ht] at z'; cases z'
/-- the thesis that is left aside: its number, or -1 for none (8) -/
def exI (ex : Nat) : Int32 := if ex = 8 then -1 else iN ex
theorem exI_t {ex t : Nat} (he : ex ≤ 8) (ht : t < 8) : (iN t = exI ex) = (t = ex) := by
  unfold exI
  by_cases z : ex = 8
  · rw [if_pos z]
    exact propext ⟨fun y => absurd y (oN_ne (by omega)), fun y => by omega⟩
  · rw [if_neg z, iN_inj (by omega) (by omega)]
theorem m159 (hL : Lay L xs h) (hM : Mod h P) (hW : WF P) {i x u ex : Nat} (hi : i < pn P) (hx : x < 401) (hu : u < 7) (he : ex ≤ 8) : Ev (d + 2) 159 0 [some (vR (20, 0, 0)), some (vI (iN i)), some (vI (iN x)), some (vI (iN u)), some (vI (exI ex)), none] [] h = some (.inl (some (vI (bI (fre P i x u ex)))), h) := by
  have hi14 : i < 14 := Nat.lt_of_lt_of_le hi (w_pn hW)
  have h8 := w_tn hW
  have q := fre_f hW hi14 hx hu (ex := ex)
  by_cases zb : (P.1 5 (401 * i + x) >>> (iN u &&& 31)) &&& 3 = 0
  ·
    have lp := loopF (σ := LS3) (E := fun ls => Ev (d + 2) 159 18 ls [] h) (I := fun k ls => ∃ o : Option MV, ls = [some (vR (20, 0, 0)), some (vI (iN i)), some (vI (iN x)), some (vI (iN u)), some (vI (exI ex)), some (vI (iN k))]) (n := (tn P)) (c := fcl P i x u ex) (r := fun _ => some (.inl (some (vI (0))), h)) (by
      rintro k hk ls ⟨o, rfl⟩
      have hk31 : k < 2147483648 := by omega
      have hnl : ¬ (iN (tn P) ≤ iN k) := nle (n := (tn P)) hk (by omega)
      refine ⟨fun z => ?_, fun z => ⟨_, ⟨none, rfl⟩, ?_⟩⟩
      · unfold fcl at z
        rw [Bool.and_eq_true, Bool.and_eq_true, dect] at z
        show Ev (d + 2) 159 18 _ [] h = _
        rw [v159_18]
        simp only [v159_0, v159_1, v159_2, v159_3, v159_6, v159_7, v159_8, v159_9, v159_10, v159_13, v159_14, v159_15, v159_16, v159_20, v159_21, v159_24, v159_27, v159_29, v159_31, v159_34, v159_35, v159_37, v159_38, v159_41, v159_44, v159_45, v159_47, v159_48, v159_49, v159_52, v159_55, v159_56, v159_57, v159_60, v159_63, v159_64, n_14, n_8, inB_of, Nat.reduceLT, Prod.mk.injEq, true_and, rB, rBn, rBa, rBb, rBc, rBd, Evk_v, Evk_n, Nat.reduceAdd, Nat.reduceLeDiff, Nat.le_refl, Nat.zero_le, cz_0, cz_1, cI_1, cO_1, cz_2, cI_2, cO_2, cL_2, cD_2, cz_3, cI_3, cO_3, cL_3, cD_3, cz_4, cI_4, cO_4, cL_4, cD_4, cz_5, cI_5, cO_5, cL_5, cD_5, cz_6, cI_6, cO_6, cL_6, cD_6, cz_7, cI_7, cO_7, cL_7, cD_7, cz_8, cI_8, cO_8, cL_8, cD_8, c1_I, c1_O, List.mem_cons, or_true, true_or, and_self, sI_S, sL_S, sR_S, sD_S, gb_S, sI_R, sL_R, sD_R, gb_R, sI_L, sR_I, sR_L, sL_I, sD_I, sD_L, gb_I, gb_L, y_S20 hL, y_M_rank hL, y_M_fields hL, y_M_home hL, y_M_limit hL, y_M_conflicts hL, y_M_busy hL, y_M_kind hL, y_M_field hL, y_M_department hL, y_M_supervisor hL, y_M_stage hL, y_M_members hL, y_M_room hL, y_M_dayOf hL, y_M_hourOf hL, y_M_line hL, y_F_rank hL, y_F_fields hL, y_F_home hL, y_F_limit hL, y_F_conflicts hL, y_F_busy hL, y_F_kind hL, y_F_field hL, y_F_department hL, y_F_supervisor hL, y_F_stage hL, y_F_members hL, y_F_room hL, y_F_dayOf hL, y_F_hourOf hL, y_F_line hL, m_rk hM, m_fl hM, m_dp hM, m_lm hM, m_cf hM, m_kd hM, m_fd hM, m_de hM, m_sv hM, m_st hM, m_mb hM, m_rm hM, m_dy hM, m_hr hM, m_pc hM, m_tc hM, m_wc hM, m_td hM, m_lo hM, hk, n_i hk31, if_neg hnl, iN_s, orf_s, cn_s, smf_s, exI_t he (show k < 8 by omega), z.1.1, m150' hL hM hW hk, z.1.2, m158 hL hM hW hk hu, z.2, bI_0, if_true, if_false, not_true_eq_false, not_false_eq_true, Bool.false_eq_true, Int32.or_zero, ne_eq, Bool.and_eq_true, decide_eq_true_eq, decide_true, decide_false, and_true, true_and, and_false, false_and, Bool.and_true, Bool.true_and, Bool.and_false, Bool.false_and]
      · by_cases y1 : k = ex
        ·
          show Ev (d + 2) 159 18 _ [] h = Ev (d + 2) 159 18 _ [] h
          rw [v159_18]
          simp only [v159_0, v159_1, v159_2, v159_3, v159_6, v159_7, v159_8, v159_9, v159_10, v159_13, v159_14, v159_15, v159_16, v159_20, v159_21, v159_24, v159_27, v159_29, v159_31, v159_34, v159_35, v159_37, v159_38, v159_41, v159_44, v159_45, v159_47, v159_48, v159_49, v159_52, v159_55, v159_56, v159_57, v159_60, v159_63, v159_64, n_14, n_8, inB_of, Nat.reduceLT, Prod.mk.injEq, true_and, rB, rBn, rBa, rBb, rBc, rBd, Evk_v, Evk_n, Nat.reduceAdd, Nat.reduceLeDiff, Nat.le_refl, Nat.zero_le, cz_0, cz_1, cI_1, cO_1, cz_2, cI_2, cO_2, cL_2, cD_2, cz_3, cI_3, cO_3, cL_3, cD_3, cz_4, cI_4, cO_4, cL_4, cD_4, cz_5, cI_5, cO_5, cL_5, cD_5, cz_6, cI_6, cO_6, cL_6, cD_6, cz_7, cI_7, cO_7, cL_7, cD_7, cz_8, cI_8, cO_8, cL_8, cD_8, c1_I, c1_O, List.mem_cons, or_true, true_or, and_self, sI_S, sL_S, sR_S, sD_S, gb_S, sI_R, sL_R, sD_R, gb_R, sI_L, sR_I, sR_L, sL_I, sD_I, sD_L, gb_I, gb_L, y_S20 hL, y_M_rank hL, y_M_fields hL, y_M_home hL, y_M_limit hL, y_M_conflicts hL, y_M_busy hL, y_M_kind hL, y_M_field hL, y_M_department hL, y_M_supervisor hL, y_M_stage hL, y_M_members hL, y_M_room hL, y_M_dayOf hL, y_M_hourOf hL, y_M_line hL, y_F_rank hL, y_F_fields hL, y_F_home hL, y_F_limit hL, y_F_conflicts hL, y_F_busy hL, y_F_kind hL, y_F_field hL, y_F_department hL, y_F_supervisor hL, y_F_stage hL, y_F_members hL, y_F_room hL, y_F_dayOf hL, y_F_hourOf hL, y_F_line hL, m_rk hM, m_fl hM, m_dp hM, m_lm hM, m_cf hM, m_kd hM, m_fd hM, m_de hM, m_sv hM, m_st hM, m_mb hM, m_rm hM, m_dy hM, m_hr hM, m_pc hM, m_tc hM, m_wc hM, m_td hM, m_lo hM, hk, n_i hk31, if_neg hnl, iN_s, orf_s, cn_s, smf_s, exI_t he (show k < 8 by omega), if_pos y1]
        · by_cases y2 : bt (P.1 11 k) i = true
          · by_cases y3 : ovl P k x u = true
            · unfold fcl at z
              rw [y2, y3, decide_eq_true y1] at z; cases z
            ·
              show Ev (d + 2) 159 18 _ [] h = Ev (d + 2) 159 18 _ [] h
              rw [v159_18]
              simp only [v159_0, v159_1, v159_2, v159_3, v159_6, v159_7, v159_8, v159_9, v159_10, v159_13, v159_14, v159_15, v159_16, v159_20, v159_21, v159_24, v159_27, v159_29, v159_31, v159_34, v159_35, v159_37, v159_38, v159_41, v159_44, v159_45, v159_47, v159_48, v159_49, v159_52, v159_55, v159_56, v159_57, v159_60, v159_63, v159_64, n_14, n_8, inB_of, Nat.reduceLT, Prod.mk.injEq, true_and, rB, rBn, rBa, rBb, rBc, rBd, Evk_v, Evk_n, Nat.reduceAdd, Nat.reduceLeDiff, Nat.le_refl, Nat.zero_le, cz_0, cz_1, cI_1, cO_1, cz_2, cI_2, cO_2, cL_2, cD_2, cz_3, cI_3, cO_3, cL_3, cD_3, cz_4, cI_4, cO_4, cL_4, cD_4, cz_5, cI_5, cO_5, cL_5, cD_5, cz_6, cI_6, cO_6, cL_6, cD_6, cz_7, cI_7, cO_7, cL_7, cD_7, cz_8, cI_8, cO_8, cL_8, cD_8, c1_I, c1_O, List.mem_cons, or_true, true_or, and_self, sI_S, sL_S, sR_S, sD_S, gb_S, sI_R, sL_R, sD_R, gb_R, sI_L, sR_I, sR_L, sL_I, sD_I, sD_L, gb_I, gb_L, y_S20 hL, y_M_rank hL, y_M_fields hL, y_M_home hL, y_M_limit hL, y_M_conflicts hL, y_M_busy hL, y_M_kind hL, y_M_field hL, y_M_department hL, y_M_supervisor hL, y_M_stage hL, y_M_members hL, y_M_room hL, y_M_dayOf hL, y_M_hourOf hL, y_M_line hL, y_F_rank hL, y_F_fields hL, y_F_home hL, y_F_limit hL, y_F_conflicts hL, y_F_busy hL, y_F_kind hL, y_F_field hL, y_F_department hL, y_F_supervisor hL, y_F_stage hL, y_F_members hL, y_F_room hL, y_F_dayOf hL, y_F_hourOf hL, y_F_line hL, m_rk hM, m_fl hM, m_dp hM, m_lm hM, m_cf hM, m_kd hM, m_fd hM, m_de hM, m_sv hM, m_st hM, m_mb hM, m_rm hM, m_dy hM, m_hr hM, m_pc hM, m_tc hM, m_wc hM, m_td hM, m_lo hM, hk, n_i hk31, if_neg hnl, iN_s, orf_s, cn_s, smf_s, exI_t he (show k < 8 by omega), y1, m150' hL hM hW hk, y2, m158 hL hM hW hk hu, y3, bI_0, if_true, if_false, not_true_eq_false, not_false_eq_true, Bool.false_eq_true, Int32.or_zero, ne_eq, Bool.and_eq_true, decide_eq_true_eq, decide_true, decide_false, and_true, true_and, and_false, false_and, Bool.and_true, Bool.true_and, Bool.and_false, Bool.false_and]
          ·
            show Ev (d + 2) 159 18 _ [] h = Ev (d + 2) 159 18 _ [] h
            rw [v159_18]
            simp only [v159_0, v159_1, v159_2, v159_3, v159_6, v159_7, v159_8, v159_9, v159_10, v159_13, v159_14, v159_15, v159_16, v159_20, v159_21, v159_24, v159_27, v159_29, v159_31, v159_34, v159_35, v159_37, v159_38, v159_41, v159_44, v159_45, v159_47, v159_48, v159_49, v159_52, v159_55, v159_56, v159_57, v159_60, v159_63, v159_64, n_14, n_8, inB_of, Nat.reduceLT, Prod.mk.injEq, true_and, rB, rBn, rBa, rBb, rBc, rBd, Evk_v, Evk_n, Nat.reduceAdd, Nat.reduceLeDiff, Nat.le_refl, Nat.zero_le, cz_0, cz_1, cI_1, cO_1, cz_2, cI_2, cO_2, cL_2, cD_2, cz_3, cI_3, cO_3, cL_3, cD_3, cz_4, cI_4, cO_4, cL_4, cD_4, cz_5, cI_5, cO_5, cL_5, cD_5, cz_6, cI_6, cO_6, cL_6, cD_6, cz_7, cI_7, cO_7, cL_7, cD_7, cz_8, cI_8, cO_8, cL_8, cD_8, c1_I, c1_O, List.mem_cons, or_true, true_or, and_self, sI_S, sL_S, sR_S, sD_S, gb_S, sI_R, sL_R, sD_R, gb_R, sI_L, sR_I, sR_L, sL_I, sD_I, sD_L, gb_I, gb_L, y_S20 hL, y_M_rank hL, y_M_fields hL, y_M_home hL, y_M_limit hL, y_M_conflicts hL, y_M_busy hL, y_M_kind hL, y_M_field hL, y_M_department hL, y_M_supervisor hL, y_M_stage hL, y_M_members hL, y_M_room hL, y_M_dayOf hL, y_M_hourOf hL, y_M_line hL, y_F_rank hL, y_F_fields hL, y_F_home hL, y_F_limit hL, y_F_conflicts hL, y_F_busy hL, y_F_kind hL, y_F_field hL, y_F_department hL, y_F_supervisor hL, y_F_stage hL, y_F_members hL, y_F_room hL, y_F_dayOf hL, y_F_hourOf hL, y_F_line hL, m_rk hM, m_fl hM, m_dp hM, m_lm hM, m_cf hM, m_kd hM, m_fd hM, m_de hM, m_sv hM, m_st hM, m_mb hM, m_rm hM, m_dy hM, m_hr hM, m_pc hM, m_tc hM, m_wc hM, m_td hM, m_lo hM, hk, n_i hk31, if_neg hnl, iN_s, orf_s, cn_s, smf_s, exI_t he (show k < 8 by omega), y1, m150' hL hM hW hk, y2, bI_0, if_true, if_false, not_true_eq_false, not_false_eq_true, Bool.false_eq_true, Int32.or_zero, ne_eq, Bool.and_eq_true, decide_eq_true_eq, decide_true, decide_false, and_true, true_and, and_false, false_and, Bool.and_true, Bool.true_and, Bool.and_false, Bool.false_and]
      )
    obtain ⟨l1, l2⟩ := lp _ ⟨none, rfl⟩
    simp only [v159_0, v159_1, v159_2, v159_3, v159_6, v159_7, v159_8, v159_9, v159_10, v159_13, v159_14, v159_15, v159_16, v159_20, v159_21, v159_24, v159_27, v159_29, v159_31, v159_34, v159_35, v159_37, v159_38, v159_41, v159_44, v159_45, v159_47, v159_48, v159_49, v159_52, v159_55, v159_56, v159_57, v159_60, v159_63, v159_64, n_14, n_8, inB_of, Nat.reduceLT, Prod.mk.injEq, true_and, rB, rBn, rBa, rBb, rBc, rBd, Evk_v, Evk_n, Nat.reduceAdd, Nat.reduceLeDiff, Nat.le_refl, Nat.zero_le, cz_0, cz_1, cI_1, cO_1, cz_2, cI_2, cO_2, cL_2, cD_2, cz_3, cI_3, cO_3, cL_3, cD_3, cz_4, cI_4, cO_4, cL_4, cD_4, cz_5, cI_5, cO_5, cL_5, cD_5, cz_6, cI_6, cO_6, cL_6, cD_6, cz_7, cI_7, cO_7, cL_7, cD_7, cz_8, cI_8, cO_8, cL_8, cD_8, c1_I, c1_O, List.mem_cons, or_true, true_or, and_self, sI_S, sL_S, sR_S, sD_S, gb_S, sI_R, sL_R, sD_R, gb_R, sI_L, sR_I, sR_L, sL_I, sD_I, sD_L, gb_I, gb_L, y_S20 hL, y_M_rank hL, y_M_fields hL, y_M_home hL, y_M_limit hL, y_M_conflicts hL, y_M_busy hL, y_M_kind hL, y_M_field hL, y_M_department hL, y_M_supervisor hL, y_M_stage hL, y_M_members hL, y_M_room hL, y_M_dayOf hL, y_M_hourOf hL, y_M_line hL, y_F_rank hL, y_F_fields hL, y_F_home hL, y_F_limit hL, y_F_conflicts hL, y_F_busy hL, y_F_kind hL, y_F_field hL, y_F_department hL, y_F_supervisor hL, y_F_stage hL, y_F_members hL, y_F_room hL, y_F_dayOf hL, y_F_hourOf hL, y_F_line hL, m_rk hM, m_fl hM, m_dp hM, m_lm hM, m_cf hM, m_kd hM, m_fd hM, m_de hM, m_sv hM, m_st hM, m_mb hM, m_rm hM, m_dy hM, m_hr hM, m_pc hM, m_tc hM, m_wc hM, m_td hM, m_lo hM, m147 hL hM hW hi hx, zb, if_true]
    cases e : fnd (fcl P i x u ex) (tn P) with
    | some k =>
      refine Eq.trans (l1 k e) (rI_e (bI_f fun z => ?_).symm)
      have := (q.1 z).2
      rw [e] at this; cases this
    | none =>
      obtain ⟨_, ⟨o, rfl⟩, e2⟩ := l2 e
      refine Eq.trans e2 ?_
      show Ev (d + 2) 159 18 _ [] h = _
      rw [v159_18]
      simp only [v159_0, v159_1, v159_2, v159_3, v159_6, v159_7, v159_8, v159_9, v159_10, v159_13, v159_14, v159_15, v159_16, v159_20, v159_21, v159_24, v159_27, v159_29, v159_31, v159_34, v159_35, v159_37, v159_38, v159_41, v159_44, v159_45, v159_47, v159_48, v159_49, v159_52, v159_55, v159_56, v159_57, v159_60, v159_63, v159_64, n_14, n_8, inB_of, Nat.reduceLT, Prod.mk.injEq, true_and, rB, rBn, rBa, rBb, rBc, rBd, Evk_v, Evk_n, Nat.reduceAdd, Nat.reduceLeDiff, Nat.le_refl, Nat.zero_le, cz_0, cz_1, cI_1, cO_1, cz_2, cI_2, cO_2, cL_2, cD_2, cz_3, cI_3, cO_3, cL_3, cD_3, cz_4, cI_4, cO_4, cL_4, cD_4, cz_5, cI_5, cO_5, cL_5, cD_5, cz_6, cI_6, cO_6, cL_6, cD_6, cz_7, cI_7, cO_7, cL_7, cD_7, cz_8, cI_8, cO_8, cL_8, cD_8, c1_I, c1_O, List.mem_cons, or_true, true_or, and_self, sI_S, sL_S, sR_S, sD_S, gb_S, sI_R, sL_R, sD_R, gb_R, sI_L, sR_I, sR_L, sL_I, sD_I, sD_L, gb_I, gb_L, y_S20 hL, y_M_rank hL, y_M_fields hL, y_M_home hL, y_M_limit hL, y_M_conflicts hL, y_M_busy hL, y_M_kind hL, y_M_field hL, y_M_department hL, y_M_supervisor hL, y_M_stage hL, y_M_members hL, y_M_room hL, y_M_dayOf hL, y_M_hourOf hL, y_M_line hL, y_F_rank hL, y_F_fields hL, y_F_home hL, y_F_limit hL, y_F_conflicts hL, y_F_busy hL, y_F_kind hL, y_F_field hL, y_F_department hL, y_F_supervisor hL, y_F_stage hL, y_F_members hL, y_F_room hL, y_F_dayOf hL, y_F_hourOf hL, y_F_line hL, m_rk hM, m_fl hM, m_dp hM, m_lm hM, m_cf hM, m_kd hM, m_fd hM, m_de hM, m_sv hM, m_st hM, m_mb hM, m_rm hM, m_dy hM, m_hr hM, m_pc hM, m_tc hM, m_wc hM, m_td hM, m_lo hM, if_pos (show iN (tn P) ≤ iN ((tn P)) from Int32.le_refl _), hi]
      exact rI_e (bI_t (q.2 ⟨zb, e⟩)).symm
  · simp only [v159_0, v159_1, v159_2, v159_3, v159_6, v159_7, v159_8, v159_9, v159_10, v159_13, v159_14, v159_15, v159_16, v159_20, v159_21, v159_24, v159_27, v159_29, v159_31, v159_34, v159_35, v159_37, v159_38, v159_41, v159_44, v159_45, v159_47, v159_48, v159_49, v159_52, v159_55, v159_56, v159_57, v159_60, v159_63, v159_64, n_14, n_8, inB_of, Nat.reduceLT, Prod.mk.injEq, true_and, rB, rBn, rBa, rBb, rBc, rBd, Evk_v, Evk_n, Nat.reduceAdd, Nat.reduceLeDiff, Nat.le_refl, Nat.zero_le, cz_0, cz_1, cI_1, cO_1, cz_2, cI_2, cO_2, cL_2, cD_2, cz_3, cI_3, cO_3, cL_3, cD_3, cz_4, cI_4, cO_4, cL_4, cD_4, cz_5, cI_5, cO_5, cL_5, cD_5, cz_6, cI_6, cO_6, cL_6, cD_6, cz_7, cI_7, cO_7, cL_7, cD_7, cz_8, cI_8, cO_8, cL_8, cD_8, c1_I, c1_O, List.mem_cons, or_true, true_or, and_self, sI_S, sL_S, sR_S, sD_S, gb_S, sI_R, sL_R, sD_R, gb_R, sI_L, sR_I, sR_L, sL_I, sD_I, sD_L, gb_I, gb_L, y_S20 hL, y_M_rank hL, y_M_fields hL, y_M_home hL, y_M_limit hL, y_M_conflicts hL, y_M_busy hL, y_M_kind hL, y_M_field hL, y_M_department hL, y_M_supervisor hL, y_M_stage hL, y_M_members hL, y_M_room hL, y_M_dayOf hL, y_M_hourOf hL, y_M_line hL, y_F_rank hL, y_F_fields hL, y_F_home hL, y_F_limit hL, y_F_conflicts hL, y_F_busy hL, y_F_kind hL, y_F_field hL, y_F_department hL, y_F_supervisor hL, y_F_stage hL, y_F_members hL, y_F_room hL, y_F_dayOf hL, y_F_hourOf hL, y_F_line hL, m_rk hM, m_fl hM, m_dp hM, m_lm hM, m_cf hM, m_kd hM, m_fd hM, m_de hM, m_sv hM, m_st hM, m_mb hM, m_rm hM, m_dy hM, m_hr hM, m_pc hM, m_tc hM, m_wc hM, m_td hM, m_lo hM, m147 hL hM hW hi hx, zb, if_false]
    exact rI_e (bI_f fun z => zb (q.1 z).1).symm
end Mod3
