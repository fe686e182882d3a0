/-! THE CLASS'S PLAN: times, urgency, the line, the accounts -/

theorem iN_lin {c a b : Nat} : iN c * iN a + iN b = iN (c * a + b) := by rw [iN_mul, iN_add]
theorem bt_z {s : Int32} {i : Nat} : ((s >>> (iN i &&& 31)) &&& 1 = 0) = ¬ (bt s i = true) := by rw [bt_d, and1_0]
section Cls5
variable {L : Nat} {xs : Nat → Int32} {h : Hp} {p : Nat} {P : PL} {d : Nat}
theorem db_N {P : PL} (hW : WF P) {j s : Nat} (hj : j < 8) (h1 : 1 ≤ s) (h2 : s ≤ 4) : ∃ b, b ≤ 42 ∧ db P j s = iN b := by
  obtain ⟨k, hk, e⟩ := w_kd hW hj
  unfold db
  rw [e, n_i (by omega)]
  have : ∀ k, k < 3 → ∀ s, s < 4 → ∃ b, b ≤ 42 ∧ (sVal 1).getD (k * 4 + (s + 1) - 1) 0 = iN b := by decide
  have := this k hk (s - 1) (by omega)
  rwa [show s - 1 + 1 = s by omega] at this
theorem fdy_N {P : PL} (hW : WF P) {j : Nat} (hj : j < 8) (hd : ¬ dfd P j = true) : fdn P j ≤ 442 ∧ fdy P j = iN (fdn P j) := by
  obtain ⟨t, ht, e⟩ := w_td hW
  obtain ⟨s, hs, e2⟩ := w_st3 hW hj hd
  obtain ⟨b, hb, e3⟩ := db_N hW hj (s := s + 1) (by omega) (by omega)
  have e4 : fdy P j = iN (t + b) := by
    unfold fdy
    rw [e, e2, n_i (by omega), e3, iN_add]
  unfold fdn
  rw [e4, n_i (by omega)]
  exact ⟨by omega, rfl⟩
theorem eto_lt {P : PL} {j x t : Nat} (h : eto P j x = some t) : t < 63 := by
  unfold eto at h
  split at h
  · cases h
  · rename_i u hu
    split at h
    · cases h
    · rename_i r hr
      have h1 := (fnd_some.1 hu).1
      have h2 := (fnd_some.1 hr).1
      cases h
      omega
theorem oN_ne {k : Nat} (h : k < 2147483648) : ¬ iN k = -1 := fun z => by
  have : iN k < 0 := by rw [z]; decide
  exact nlt0 h this
theorem m51 (hL : Lay L xs h) (hC : Cls h p P) (hp : p < 9) (hW : WF P) {j : Nat} (hj : j < 8) : Ev (d + 4) 51 0 [some (vR (2, p, 0)), some (vR (5, p, j)), none, none] [] h = some (.inl (some (vI (oN (ear P j)))), h) := by
  by_cases zd : dfd P j = true
  · simp only [v51_0, v51_1, v51_4, v51_7, v51_8, v51_9, v51_10, v51_13, v51_16, v51_19, v51_20, v51_21, v51_22, v51_23, v51_26, v51_27, v51_28, v51_31, v51_34, v51_35, v51_36, v51_37, v51_40, v51_41, v51_42, v51_43, v51_46, v51_48, v51_49, v51_50, v51_51, v51_52, v51_53, v51_56, v51_59, v51_60, n_14, n_8, inB_of, Nat.reduceLT, Prod.mk.injEq, true_and, rB, rBn, rBa, rBb, rBc, rBd, Evk_v, Evk_n, Nat.reduceAdd, Nat.reduceLeDiff, Nat.le_refl, Nat.zero_le, cz_0, cz_1, cI_1, cO_1, cz_2, cI_2, cO_2, cL_2, cD_2, cz_3, cI_3, cO_3, cL_3, cD_3, cz_4, cI_4, cO_4, cL_4, cD_4, cz_5, cI_5, cO_5, cL_5, cD_5, cz_6, cI_6, cO_6, cL_6, cD_6, cz_7, cI_7, cO_7, cL_7, cD_7, cz_8, cI_8, cO_8, cL_8, cD_8, c1_I, c1_O, List.mem_cons, or_true, true_or, and_self, sI_S, sL_S, sR_S, sD_S, gb_S, sI_R, sL_R, sD_R, gb_R, sI_L, sR_I, sR_L, sL_I, sD_I, sD_L, gb_I, gb_L, y_S1 hL, y_S2 hL, y_S3 hL, y_S4 hL, y_S5 hL, y_S6 hL, y_S7 hL, y_S8 hL, y_S9 hL, y_S10 hL, y_S11 hL, y_S12 hL, y_S13 hL, y_S14 hL, y_S15 hL, y_R1_0 hL, y_R1_1 hL, y_R1_2 hL, y_R1_3 hL, y_R1_4 hL, y_R2_0 hL, y_R2_1 hL, y_R2_2 hL, y_R3 hL, y_R6 hL, y_R7 hL, y_R9 hL, y_R10 hL, y_R11_0 hL, y_R11_1 hL, y_R14 hL, k_nu hC, k_rk hC, k_fl hC, k_dp hC, k_lm hC, k_cf hC, t_nu hC, t_kd hC, t_fd hC, t_dp hC, t_sv hC, t_st hC, t_mb hC, t_rm hC, t_dy hC, t_hr hC, p_pc hC, p_tc hC, p_wc hC, p_td hC, p_lo hC, hp, hj, m80 hL hC hp hj, bI_0, zd, if_true, if_false, not_true_eq_false, not_false_eq_true, Bool.false_eq_true, Int32.or_zero, ne_eq, Bool.and_eq_true, decide_eq_true_eq, decide_true, decide_false, and_true, true_and, and_false, false_and, Bool.and_true, Bool.true_and, Bool.and_false, Bool.false_and]
    unfold ear
    rw [if_pos (Or.inl zd)]
    rfl
  by_cases zh : hld P j (P.1 11 j) = true
  · obtain ⟨hf, ef⟩ := fdy_N hW hj zd
    have lp := loopF (σ := LS3) (E := fun ls => Ev (d + 4) 51 27 ls [] h) (I := fun k ls => ∃ o : Option MV, ls = [some (vR (2, p, 0)), some (vR (5, p, j)), some (vI (iN (fdn P j + k))), o]) (n := 401 - fdn P j) (c := fun k => (eto P j (fdn P j + k)).isSome) (r := fun k => some (.inl (some (vI (oN ((eto P j (fdn P j + k)).map (100 * (fdn P j + k) + ·))))), h)) (by
      rintro k hk ls ⟨o, rfl⟩
      have hnl : ¬ ((400 : Int32) < iN (fdn P j + k)) := nlt32' (ile (n := 400) (by omega) (by decide))
      refine ⟨fun z => ?_, fun z => ⟨_, ⟨some (vI (-1)), rfl⟩, ?_⟩⟩
      · cases e2 : eto P j (fdn P j + k) with
        | none => rw [e2] at z; cases z
        | some t =>
          have ht := eto_lt e2
          have e10 : (100 : Int32) * iN (fdn P j + k) + iN t = iN (100 * (fdn P j + k) + t) := iN_lin (c := 100)
          have hne : ¬ iN t = -1 := oN_ne (by omega)
          show Ev (d + 4) 51 27 _ [] h = _
          rw [v51_27]
          simp only [v51_0, v51_1, v51_4, v51_7, v51_8, v51_9, v51_10, v51_13, v51_16, v51_19, v51_20, v51_21, v51_22, v51_23, v51_26, v51_28, v51_31, v51_34, v51_35, v51_36, v51_37, v51_40, v51_41, v51_42, v51_43, v51_46, v51_48, v51_49, v51_50, v51_51, v51_52, v51_53, v51_56, v51_59, v51_60, n_14, n_8, inB_of, Nat.reduceLT, Prod.mk.injEq, true_and, rB, rBn, rBa, rBb, rBc, rBd, Evk_v, Evk_n, Nat.reduceAdd, Nat.reduceLeDiff, Nat.le_refl, Nat.zero_le, cz_0, cz_1, cI_1, cO_1, cz_2, cI_2, cO_2, cL_2, cD_2, cz_3, cI_3, cO_3, cL_3, cD_3, cz_4, cI_4, cO_4, cL_4, cD_4, cz_5, cI_5, cO_5, cL_5, cD_5, cz_6, cI_6, cO_6, cL_6, cD_6, cz_7, cI_7, cO_7, cL_7, cD_7, cz_8, cI_8, cO_8, cL_8, cD_8, c1_I, c1_O, List.mem_cons, or_true, true_or, and_self, sI_S, sL_S, sR_S, sD_S, gb_S, sI_R, sL_R, sD_R, gb_R, sI_L, sR_I, sR_L, sL_I, sD_I, sD_L, gb_I, gb_L, y_S1 hL, y_S2 hL, y_S3 hL, y_S4 hL, y_S5 hL, y_S6 hL, y_S7 hL, y_S8 hL, y_S9 hL, y_S10 hL, y_S11 hL, y_S12 hL, y_S13 hL, y_S14 hL, y_S15 hL, y_R1_0 hL, y_R1_1 hL, y_R1_2 hL, y_R1_3 hL, y_R1_4 hL, y_R2_0 hL, y_R2_1 hL, y_R2_2 hL, y_R3 hL, y_R6 hL, y_R7 hL, y_R9 hL, y_R10 hL, y_R11_0 hL, y_R11_1 hL, y_R14 hL, k_nu hC, k_rk hC, k_fl hC, k_dp hC, k_lm hC, k_cf hC, t_nu hC, t_kd hC, t_fd hC, t_dp hC, t_sv hC, t_st hC, t_mb hC, t_rm hC, t_dy hC, t_hr hC, p_pc hC, p_tc hC, p_wc hC, p_td hC, p_lo hC, hp, hj, if_neg hnl, m52 hL hC hp hW hj (show fdn P j + k < 401 by omega), e2, oN, if_neg hne, e10]
          rfl
      · cases e2 : eto P j (fdn P j + k) with
        | some t => rw [e2] at z; cases z
        | none =>
          show Ev (d + 4) 51 27 _ [] h = Ev (d + 4) 51 27 _ [] h
          rw [v51_27]
          simp only [v51_0, v51_1, v51_4, v51_7, v51_8, v51_9, v51_10, v51_13, v51_16, v51_19, v51_20, v51_21, v51_22, v51_23, v51_26, v51_28, v51_31, v51_34, v51_35, v51_36, v51_37, v51_40, v51_41, v51_42, v51_43, v51_46, v51_48, v51_49, v51_50, v51_51, v51_52, v51_53, v51_56, v51_59, v51_60, n_14, n_8, inB_of, Nat.reduceLT, Prod.mk.injEq, true_and, rB, rBn, rBa, rBb, rBc, rBd, Evk_v, Evk_n, Nat.reduceAdd, Nat.reduceLeDiff, Nat.le_refl, Nat.zero_le, cz_0, cz_1, cI_1, cO_1, cz_2, cI_2, cO_2, cL_2, cD_2, cz_3, cI_3, cO_3, cL_3, cD_3, cz_4, cI_4, cO_4, cL_4, cD_4, cz_5, cI_5, cO_5, cL_5, cD_5, cz_6, cI_6, cO_6, cL_6, cD_6, cz_7, cI_7, cO_7, cL_7, cD_7, cz_8, cI_8, cO_8, cL_8, cD_8, c1_I, c1_O, List.mem_cons, or_true, true_or, and_self, sI_S, sL_S, sR_S, sD_S, gb_S, sI_R, sL_R, sD_R, gb_R, sI_L, sR_I, sR_L, sL_I, sD_I, sD_L, gb_I, gb_L, y_S1 hL, y_S2 hL, y_S3 hL, y_S4 hL, y_S5 hL, y_S6 hL, y_S7 hL, y_S8 hL, y_S9 hL, y_S10 hL, y_S11 hL, y_S12 hL, y_S13 hL, y_S14 hL, y_S15 hL, y_R1_0 hL, y_R1_1 hL, y_R1_2 hL, y_R1_3 hL, y_R1_4 hL, y_R2_0 hL, y_R2_1 hL, y_R2_2 hL, y_R3 hL, y_R6 hL, y_R7 hL, y_R9 hL, y_R10 hL, y_R11_0 hL, y_R11_1 hL, y_R14 hL, k_nu hC, k_rk hC, k_fl hC, k_dp hC, k_lm hC, k_cf hC, t_nu hC, t_kd hC, t_fd hC, t_dp hC, t_sv hC, t_st hC, t_mb hC, t_rm hC, t_dy hC, t_hr hC, p_pc hC, p_tc hC, p_wc hC, p_td hC, p_lo hC, hp, hj, if_neg hnl, m52 hL hC hp hW hj (show fdn P j + k < 401 by omega), e2, oN, if_true, iN_s]
          rfl)
    obtain ⟨l1, l2⟩ := lp _ ⟨none, rfl⟩
    simp only [v51_0, v51_1, v51_4, v51_7, v51_8, v51_9, v51_10, v51_13, v51_16, v51_19, v51_20, v51_21, v51_22, v51_23, v51_26, v51_28, v51_31, v51_34, v51_35, v51_36, v51_37, v51_40, v51_41, v51_42, v51_43, v51_46, v51_48, v51_49, v51_50, v51_51, v51_52, v51_53, v51_56, v51_59, v51_60, n_14, n_8, inB_of, Nat.reduceLT, Prod.mk.injEq, true_and, rB, rBn, rBa, rBb, rBc, rBd, Evk_v, Evk_n, Nat.reduceAdd, Nat.reduceLeDiff, Nat.le_refl, Nat.zero_le, cz_0, cz_1, cI_1, cO_1, cz_2, cI_2, cO_2, cL_2, cD_2, cz_3, cI_3, cO_3, cL_3, cD_3, cz_4, cI_4, cO_4, cL_4, cD_4, cz_5, cI_5, cO_5, cL_5, cD_5, cz_6, cI_6, cO_6, cL_6, cD_6, cz_7, cI_7, cO_7, cL_7, cD_7, cz_8, cI_8, cO_8, cL_8, cD_8, c1_I, c1_O, List.mem_cons, or_true, true_or, and_self, sI_S, sL_S, sR_S, sD_S, gb_S, sI_R, sL_R, sD_R, gb_R, sI_L, sR_I, sR_L, sL_I, sD_I, sD_L, gb_I, gb_L, y_S1 hL, y_S2 hL, y_S3 hL, y_S4 hL, y_S5 hL, y_S6 hL, y_S7 hL, y_S8 hL, y_S9 hL, y_S10 hL, y_S11 hL, y_S12 hL, y_S13 hL, y_S14 hL, y_S15 hL, y_R1_0 hL, y_R1_1 hL, y_R1_2 hL, y_R1_3 hL, y_R1_4 hL, y_R2_0 hL, y_R2_1 hL, y_R2_2 hL, y_R3 hL, y_R6 hL, y_R7 hL, y_R9 hL, y_R10 hL, y_R11_0 hL, y_R11_1 hL, y_R14 hL, k_nu hC, k_rk hC, k_fl hC, k_dp hC, k_lm hC, k_cf hC, t_nu hC, t_kd hC, t_fd hC, t_dp hC, t_sv hC, t_st hC, t_mb hC, t_rm hC, t_dy hC, t_hr hC, p_pc hC, p_tc hC, p_wc hC, p_td hC, p_lo hC, hp, hj, m80 hL hC hp hj, m41 hL hC hp hW hj, m50 hL hC hp hW hj zd, bI_0, zd, zh, ef, if_true, if_false, not_true_eq_false, not_false_eq_true, Bool.false_eq_true, Int32.or_zero, ne_eq, Bool.and_eq_true, decide_eq_true_eq, decide_true, decide_false, and_true, true_and, and_false, false_and, Bool.and_true, Bool.true_and, Bool.and_false, Bool.false_and]
    unfold ear
    rw [if_neg (by simp [zd, zh])]
    cases e : fnd (fun k => (eto P j (fdn P j + k)).isSome) (401 - fdn P j) with
    | some k =>
      refine Eq.trans (l1 k e) (rI_e ?_)
      simp only
      cases eto P j (fdn P j + k) <;> rfl
    | none =>
      obtain ⟨_, ⟨o, rfl⟩, e2⟩ := l2 e
      refine Eq.trans e2 ?_
      show Ev (d + 4) 51 27 _ [] h = _
      rw [v51_27]
      have hx : (400 : Int32) < iN (fdn P j + (401 - fdn P j)) := ilt (k := 400) (by omega) (by omega)
      simp only [v51_0, v51_1, v51_4, v51_7, v51_8, v51_9, v51_10, v51_13, v51_16, v51_19, v51_20, v51_21, v51_22, v51_23, v51_26, v51_28, v51_31, v51_34, v51_35, v51_36, v51_37, v51_40, v51_41, v51_42, v51_43, v51_46, v51_48, v51_49, v51_50, v51_51, v51_52, v51_53, v51_56, v51_59, v51_60, n_14, n_8, inB_of, Nat.reduceLT, Prod.mk.injEq, true_and, rB, rBn, rBa, rBb, rBc, rBd, Evk_v, Evk_n, Nat.reduceAdd, Nat.reduceLeDiff, Nat.le_refl, Nat.zero_le, cz_0, cz_1, cI_1, cO_1, cz_2, cI_2, cO_2, cL_2, cD_2, cz_3, cI_3, cO_3, cL_3, cD_3, cz_4, cI_4, cO_4, cL_4, cD_4, cz_5, cI_5, cO_5, cL_5, cD_5, cz_6, cI_6, cO_6, cL_6, cD_6, cz_7, cI_7, cO_7, cL_7, cD_7, cz_8, cI_8, cO_8, cL_8, cD_8, c1_I, c1_O, List.mem_cons, or_true, true_or, and_self, sI_S, sL_S, sR_S, sD_S, gb_S, sI_R, sL_R, sD_R, gb_R, sI_L, sR_I, sR_L, sL_I, sD_I, sD_L, gb_I, gb_L, y_S1 hL, y_S2 hL, y_S3 hL, y_S4 hL, y_S5 hL, y_S6 hL, y_S7 hL, y_S8 hL, y_S9 hL, y_S10 hL, y_S11 hL, y_S12 hL, y_S13 hL, y_S14 hL, y_S15 hL, y_R1_0 hL, y_R1_1 hL, y_R1_2 hL, y_R1_3 hL, y_R1_4 hL, y_R2_0 hL, y_R2_1 hL, y_R2_2 hL, y_R3 hL, y_R6 hL, y_R7 hL, y_R9 hL, y_R10 hL, y_R11_0 hL, y_R11_1 hL, y_R14 hL, k_nu hC, k_rk hC, k_fl hC, k_dp hC, k_lm hC, k_cf hC, t_nu hC, t_kd hC, t_fd hC, t_dp hC, t_sv hC, t_st hC, t_mb hC, t_rm hC, t_dy hC, t_hr hC, p_pc hC, p_tc hC, p_wc hC, p_td hC, p_lo hC, hp, if_pos hx]
      rfl
  · simp only [v51_0, v51_1, v51_4, v51_7, v51_8, v51_9, v51_10, v51_13, v51_16, v51_19, v51_20, v51_21, v51_22, v51_23, v51_26, v51_27, v51_28, v51_31, v51_34, v51_35, v51_36, v51_37, v51_40, v51_41, v51_42, v51_43, v51_46, v51_48, v51_49, v51_50, v51_51, v51_52, v51_53, v51_56, v51_59, v51_60, n_14, n_8, inB_of, Nat.reduceLT, Prod.mk.injEq, true_and, rB, rBn, rBa, rBb, rBc, rBd, Evk_v, Evk_n, Nat.reduceAdd, Nat.reduceLeDiff, Nat.le_refl, Nat.zero_le, cz_0, cz_1, cI_1, cO_1, cz_2, cI_2, cO_2, cL_2, cD_2, cz_3, cI_3, cO_3, cL_3, cD_3, cz_4, cI_4, cO_4, cL_4, cD_4, cz_5, cI_5, cO_5, cL_5, cD_5, cz_6, cI_6, cO_6, cL_6, cD_6, cz_7, cI_7, cO_7, cL_7, cD_7, cz_8, cI_8, cO_8, cL_8, cD_8, c1_I, c1_O, List.mem_cons, or_true, true_or, and_self, sI_S, sL_S, sR_S, sD_S, gb_S, sI_R, sL_R, sD_R, gb_R, sI_L, sR_I, sR_L, sL_I, sD_I, sD_L, gb_I, gb_L, y_S1 hL, y_S2 hL, y_S3 hL, y_S4 hL, y_S5 hL, y_S6 hL, y_S7 hL, y_S8 hL, y_S9 hL, y_S10 hL, y_S11 hL, y_S12 hL, y_S13 hL, y_S14 hL, y_S15 hL, y_R1_0 hL, y_R1_1 hL, y_R1_2 hL, y_R1_3 hL, y_R1_4 hL, y_R2_0 hL, y_R2_1 hL, y_R2_2 hL, y_R3 hL, y_R6 hL, y_R7 hL, y_R9 hL, y_R10 hL, y_R11_0 hL, y_R11_1 hL, y_R14 hL, k_nu hC, k_rk hC, k_fl hC, k_dp hC, k_lm hC, k_cf hC, t_nu hC, t_kd hC, t_fd hC, t_dp hC, t_sv hC, t_st hC, t_mb hC, t_rm hC, t_dy hC, t_hr hC, p_pc hC, p_tc hC, p_wc hC, p_td hC, p_lo hC, hp, hj, m80 hL hC hp hj, m41 hL hC hp hW hj, bI_0, zd, zh, if_true, if_false, not_true_eq_false, not_false_eq_true, Bool.false_eq_true, Int32.or_zero, ne_eq, Bool.and_eq_true, decide_eq_true_eq, decide_true, decide_false, and_true, true_and, and_false, false_and, Bool.and_true, Bool.true_and, Bool.and_false, Bool.false_and]
    unfold ear
    rw [if_pos (Or.inr zh)]
    rfl
theorem hon_N {P : PL} {t x : Nat} : True := trivial
theorem m53 (hL : Lay L xs h) (hC : Cls h p P) (hp : p < 9) {r x u : Nat} (hx : x < 401) : Ev (d + 1) 53 0 [some (vR (2, p, 0)), some (vI (iN r)), some (vI (iN x)), some (vI (iN u)), none, none, none, none] [] h = some (.inl (some (vI (oN (irm P r x u)))), h) := by
  have lp := loopF (σ := LS3) (E := fun ls => Ev (d + 1) 53 14 ls [] h) (I := fun k ls => ∃ o : Option MV, ls = [some (vR (2, p, 0)), some (vI (iN r)), some (vI (iN x)), some (vI (iN u)), some (vR (7, p, 0)), some (vI (iN 8)), some (vI (iN k)), o]) (n := 8) (c := fun t => decide (P.1 12 t = iN r) && bt (hon P t (iN x)) u) (r := fun t => some (.inl (some (vI (iN t))), h)) (by
    rintro k hk ls ⟨o, rfl⟩
    have hk31 : k < 2147483648 := by omega
    have hnl : ¬ (iN 8 ≤ iN k) := nle (n := 8) hk (by omega)
    refine ⟨fun z => ?_, fun z => ⟨_, ⟨some (vR (5, p, k)), rfl⟩, ?_⟩⟩
    · rw [Bool.and_eq_true, dect] at z
      show Ev (d + 1) 53 14 _ [] h = _
      rw [v53_14]
      simp only [v53_0, v53_1, v53_4, v53_6, v53_8, v53_9, v53_11, v53_12, v53_16, v53_18, v53_21, v53_23, v53_25, v53_26, v53_28, v53_30, v53_33, v53_34, v53_37, v53_39, v53_40, v53_43, v53_44, v53_45, v53_46, v53_47, v53_50, v53_52, v53_55, v53_56, v53_59, v53_62, v53_63, n_14, n_8, inB_of, Nat.reduceLT, Prod.mk.injEq, true_and, rB, rBn, rBa, rBb, rBc, rBd, Evk_v, Evk_n, Nat.reduceAdd, Nat.reduceLeDiff, Nat.le_refl, Nat.zero_le, cz_0, cz_1, cI_1, cO_1, cz_2, cI_2, cO_2, cL_2, cD_2, cz_3, cI_3, cO_3, cL_3, cD_3, cz_4, cI_4, cO_4, cL_4, cD_4, cz_5, cI_5, cO_5, cL_5, cD_5, cz_6, cI_6, cO_6, cL_6, cD_6, cz_7, cI_7, cO_7, cL_7, cD_7, cz_8, cI_8, cO_8, cL_8, cD_8, c1_I, c1_O, List.mem_cons, or_true, true_or, and_self, sI_S, sL_S, sR_S, sD_S, gb_S, sI_R, sL_R, sD_R, gb_R, sI_L, sR_I, sR_L, sL_I, sD_I, sD_L, gb_I, gb_L, y_S1 hL, y_S2 hL, y_S3 hL, y_S4 hL, y_S5 hL, y_S6 hL, y_S7 hL, y_S8 hL, y_S9 hL, y_S10 hL, y_S11 hL, y_S12 hL, y_S13 hL, y_S14 hL, y_S15 hL, y_R1_0 hL, y_R1_1 hL, y_R1_2 hL, y_R1_3 hL, y_R1_4 hL, y_R2_0 hL, y_R2_1 hL, y_R2_2 hL, y_R3 hL, y_R6 hL, y_R7 hL, y_R9 hL, y_R10 hL, y_R11_0 hL, y_R11_1 hL, y_R14 hL, k_nu hC, k_rk hC, k_fl hC, k_dp hC, k_lm hC, k_cf hC, t_nu hC, t_kd hC, t_fd hC, t_dp hC, t_sv hC, t_st hC, t_mb hC, t_rm hC, t_dy hC, t_hr hC, p_pc hC, p_tc hC, p_wc hC, p_td hC, p_lo hC, hp, hk, n_i hk31, if_neg hnl, iN_s, m89 hL hC hp hk, bt_z, if_pos z.1, z.2, if_true, if_false, not_true_eq_false, not_false_eq_true, Bool.false_eq_true, Int32.or_zero, ne_eq, Bool.and_eq_true, decide_eq_true_eq, decide_true, decide_false, and_true, true_and, and_false, false_and, Bool.and_true, Bool.true_and, Bool.and_false, Bool.false_and]
    · by_cases y1 : P.1 12 k = iN r <;> by_cases y2 : bt (hon P k (iN x)) u = true
      · rw [y2, decide_eq_true y1] at z; cases z
      ·
        show Ev (d + 1) 53 14 _ [] h = Ev (d + 1) 53 14 _ [] h
        rw [v53_14]
        simp only [v53_0, v53_1, v53_4, v53_6, v53_8, v53_9, v53_11, v53_12, v53_16, v53_18, v53_21, v53_23, v53_25, v53_26, v53_28, v53_30, v53_33, v53_34, v53_37, v53_39, v53_40, v53_43, v53_44, v53_45, v53_46, v53_47, v53_50, v53_52, v53_55, v53_56, v53_59, v53_62, v53_63, n_14, n_8, inB_of, Nat.reduceLT, Prod.mk.injEq, true_and, rB, rBn, rBa, rBb, rBc, rBd, Evk_v, Evk_n, Nat.reduceAdd, Nat.reduceLeDiff, Nat.le_refl, Nat.zero_le, cz_0, cz_1, cI_1, cO_1, cz_2, cI_2, cO_2, cL_2, cD_2, cz_3, cI_3, cO_3, cL_3, cD_3, cz_4, cI_4, cO_4, cL_4, cD_4, cz_5, cI_5, cO_5, cL_5, cD_5, cz_6, cI_6, cO_6, cL_6, cD_6, cz_7, cI_7, cO_7, cL_7, cD_7, cz_8, cI_8, cO_8, cL_8, cD_8, c1_I, c1_O, List.mem_cons, or_true, true_or, and_self, sI_S, sL_S, sR_S, sD_S, gb_S, sI_R, sL_R, sD_R, gb_R, sI_L, sR_I, sR_L, sL_I, sD_I, sD_L, gb_I, gb_L, y_S1 hL, y_S2 hL, y_S3 hL, y_S4 hL, y_S5 hL, y_S6 hL, y_S7 hL, y_S8 hL, y_S9 hL, y_S10 hL, y_S11 hL, y_S12 hL, y_S13 hL, y_S14 hL, y_S15 hL, y_R1_0 hL, y_R1_1 hL, y_R1_2 hL, y_R1_3 hL, y_R1_4 hL, y_R2_0 hL, y_R2_1 hL, y_R2_2 hL, y_R3 hL, y_R6 hL, y_R7 hL, y_R9 hL, y_R10 hL, y_R11_0 hL, y_R11_1 hL, y_R14 hL, k_nu hC, k_rk hC, k_fl hC, k_dp hC, k_lm hC, k_cf hC, t_nu hC, t_kd hC, t_fd hC, t_dp hC, t_sv hC, t_st hC, t_mb hC, t_rm hC, t_dy hC, t_hr hC, p_pc hC, p_tc hC, p_wc hC, p_td hC, p_lo hC, hp, hk, n_i hk31, if_neg hnl, iN_s, m89 hL hC hp hk, bt_z, y1, y2, if_true, if_false, not_true_eq_false, not_false_eq_true, Bool.false_eq_true, Int32.or_zero, ne_eq, Bool.and_eq_true, decide_eq_true_eq, decide_true, decide_false, and_true, true_and, and_false, false_and, Bool.and_true, Bool.true_and, Bool.and_false, Bool.false_and]
      ·
        show Ev (d + 1) 53 14 _ [] h = Ev (d + 1) 53 14 _ [] h
        rw [v53_14]
        simp only [v53_0, v53_1, v53_4, v53_6, v53_8, v53_9, v53_11, v53_12, v53_16, v53_18, v53_21, v53_23, v53_25, v53_26, v53_28, v53_30, v53_33, v53_34, v53_37, v53_39, v53_40, v53_43, v53_44, v53_45, v53_46, v53_47, v53_50, v53_52, v53_55, v53_56, v53_59, v53_62, v53_63, n_14, n_8, inB_of, Nat.reduceLT, Prod.mk.injEq, true_and, rB, rBn, rBa, rBb, rBc, rBd, Evk_v, Evk_n, Nat.reduceAdd, Nat.reduceLeDiff, Nat.le_refl, Nat.zero_le, cz_0, cz_1, cI_1, cO_1, cz_2, cI_2, cO_2, cL_2, cD_2, cz_3, cI_3, cO_3, cL_3, cD_3, cz_4, cI_4, cO_4, cL_4, cD_4, cz_5, cI_5, cO_5, cL_5, cD_5, cz_6, cI_6, cO_6, cL_6, cD_6, cz_7, cI_7, cO_7, cL_7, cD_7, cz_8, cI_8, cO_8, cL_8, cD_8, c1_I, c1_O, List.mem_cons, or_true, true_or, and_self, sI_S, sL_S, sR_S, sD_S, gb_S, sI_R, sL_R, sD_R, gb_R, sI_L, sR_I, sR_L, sL_I, sD_I, sD_L, gb_I, gb_L, y_S1 hL, y_S2 hL, y_S3 hL, y_S4 hL, y_S5 hL, y_S6 hL, y_S7 hL, y_S8 hL, y_S9 hL, y_S10 hL, y_S11 hL, y_S12 hL, y_S13 hL, y_S14 hL, y_S15 hL, y_R1_0 hL, y_R1_1 hL, y_R1_2 hL, y_R1_3 hL, y_R1_4 hL, y_R2_0 hL, y_R2_1 hL, y_R2_2 hL, y_R3 hL, y_R6 hL, y_R7 hL, y_R9 hL, y_R10 hL, y_R11_0 hL, y_R11_1 hL, y_R14 hL, k_nu hC, k_rk hC, k_fl hC, k_dp hC, k_lm hC, k_cf hC, t_nu hC, t_kd hC, t_fd hC, t_dp hC, t_sv hC, t_st hC, t_mb hC, t_rm hC, t_dy hC, t_hr hC, p_pc hC, p_tc hC, p_wc hC, p_td hC, p_lo hC, hp, hk, n_i hk31, if_neg hnl, iN_s, m89 hL hC hp hk, bt_z, y1, y2, if_true, if_false, not_true_eq_false, not_false_eq_true, Bool.false_eq_true, Int32.or_zero, ne_eq, Bool.and_eq_true, decide_eq_true_eq, decide_true, decide_false, and_true, true_and, and_false, false_and, Bool.and_true, Bool.true_and, Bool.and_false, Bool.false_and]
      ·
        show Ev (d + 1) 53 14 _ [] h = Ev (d + 1) 53 14 _ [] h
        rw [v53_14]
        simp only [v53_0, v53_1, v53_4, v53_6, v53_8, v53_9, v53_11, v53_12, v53_16, v53_18, v53_21, v53_23, v53_25, v53_26, v53_28, v53_30, v53_33, v53_34, v53_37, v53_39, v53_40, v53_43, v53_44, v53_45, v53_46, v53_47, v53_50, v53_52, v53_55, v53_56, v53_59, v53_62, v53_63, n_14, n_8, inB_of, Nat.reduceLT, Prod.mk.injEq, true_and, rB, rBn, rBa, rBb, rBc, rBd, Evk_v, Evk_n, Nat.reduceAdd, Nat.reduceLeDiff, Nat.le_refl, Nat.zero_le, cz_0, cz_1, cI_1, cO_1, cz_2, cI_2, cO_2, cL_2, cD_2, cz_3, cI_3, cO_3, cL_3, cD_3, cz_4, cI_4, cO_4, cL_4, cD_4, cz_5, cI_5, cO_5, cL_5, cD_5, cz_6, cI_6, cO_6, cL_6, cD_6, cz_7, cI_7, cO_7, cL_7, cD_7, cz_8, cI_8, cO_8, cL_8, cD_8, c1_I, c1_O, List.mem_cons, or_true, true_or, and_self, sI_S, sL_S, sR_S, sD_S, gb_S, sI_R, sL_R, sD_R, gb_R, sI_L, sR_I, sR_L, sL_I, sD_I, sD_L, gb_I, gb_L, y_S1 hL, y_S2 hL, y_S3 hL, y_S4 hL, y_S5 hL, y_S6 hL, y_S7 hL, y_S8 hL, y_S9 hL, y_S10 hL, y_S11 hL, y_S12 hL, y_S13 hL, y_S14 hL, y_S15 hL, y_R1_0 hL, y_R1_1 hL, y_R1_2 hL, y_R1_3 hL, y_R1_4 hL, y_R2_0 hL, y_R2_1 hL, y_R2_2 hL, y_R3 hL, y_R6 hL, y_R7 hL, y_R9 hL, y_R10 hL, y_R11_0 hL, y_R11_1 hL, y_R14 hL, k_nu hC, k_rk hC, k_fl hC, k_dp hC, k_lm hC, k_cf hC, t_nu hC, t_kd hC, t_fd hC, t_dp hC, t_sv hC, t_st hC, t_mb hC, t_rm hC, t_dy hC, t_hr hC, p_pc hC, p_tc hC, p_wc hC, p_td hC, p_lo hC, hp, hk, n_i hk31, if_neg hnl, iN_s, m89 hL hC hp hk, bt_z, y1, y2, if_true, if_false, not_true_eq_false, not_false_eq_true, Bool.false_eq_true, Int32.or_zero, ne_eq, Bool.and_eq_true, decide_eq_true_eq, decide_true, decide_false, and_true, true_and, and_false, false_and, Bool.and_true, Bool.true_and, Bool.and_false, Bool.false_and]
    )
  obtain ⟨l1, l2⟩ := lp _ ⟨none, rfl⟩
  simp only [v53_0, v53_1, v53_4, v53_6, v53_8, v53_9, v53_11, v53_12, v53_16, v53_18, v53_21, v53_23, v53_25, v53_26, v53_28, v53_30, v53_33, v53_34, v53_37, v53_39, v53_40, v53_43, v53_44, v53_45, v53_46, v53_47, v53_50, v53_52, v53_55, v53_56, v53_59, v53_62, v53_63, n_14, n_8, inB_of, Nat.reduceLT, Prod.mk.injEq, true_and, rB, rBn, rBa, rBb, rBc, rBd, Evk_v, Evk_n, Nat.reduceAdd, Nat.reduceLeDiff, Nat.le_refl, Nat.zero_le, cz_0, cz_1, cI_1, cO_1, cz_2, cI_2, cO_2, cL_2, cD_2, cz_3, cI_3, cO_3, cL_3, cD_3, cz_4, cI_4, cO_4, cL_4, cD_4, cz_5, cI_5, cO_5, cL_5, cD_5, cz_6, cI_6, cO_6, cL_6, cD_6, cz_7, cI_7, cO_7, cL_7, cD_7, cz_8, cI_8, cO_8, cL_8, cD_8, c1_I, c1_O, List.mem_cons, or_true, true_or, and_self, sI_S, sL_S, sR_S, sD_S, gb_S, sI_R, sL_R, sD_R, gb_R, sI_L, sR_I, sR_L, sL_I, sD_I, sD_L, gb_I, gb_L, y_S1 hL, y_S2 hL, y_S3 hL, y_S4 hL, y_S5 hL, y_S6 hL, y_S7 hL, y_S8 hL, y_S9 hL, y_S10 hL, y_S11 hL, y_S12 hL, y_S13 hL, y_S14 hL, y_S15 hL, y_R1_0 hL, y_R1_1 hL, y_R1_2 hL, y_R1_3 hL, y_R1_4 hL, y_R2_0 hL, y_R2_1 hL, y_R2_2 hL, y_R3 hL, y_R6 hL, y_R7 hL, y_R9 hL, y_R10 hL, y_R11_0 hL, y_R11_1 hL, y_R14 hL, k_nu hC, k_rk hC, k_fl hC, k_dp hC, k_lm hC, k_cf hC, t_nu hC, t_kd hC, t_fd hC, t_dp hC, t_sv hC, t_st hC, t_mb hC, t_rm hC, t_dy hC, t_hr hC, p_pc hC, p_tc hC, p_wc hC, p_td hC, p_lo hC, hp]
  unfold irm
  cases e : fnd (fun t => decide (P.1 12 t = iN r) && bt (hon P t (iN x)) u) 8 with
  | some t => exact l1 t e
  | none =>
    obtain ⟨_, ⟨o, rfl⟩, e2⟩ := l2 e
    refine Eq.trans e2 ?_
    show Ev (d + 1) 53 14 _ [] h = _
    rw [v53_14]
    simp only [v53_0, v53_1, v53_4, v53_6, v53_8, v53_9, v53_11, v53_12, v53_16, v53_18, v53_21, v53_23, v53_25, v53_26, v53_28, v53_30, v53_33, v53_34, v53_37, v53_39, v53_40, v53_43, v53_44, v53_45, v53_46, v53_47, v53_50, v53_52, v53_55, v53_56, v53_59, v53_62, v53_63, n_14, n_8, inB_of, Nat.reduceLT, Prod.mk.injEq, true_and, rB, rBn, rBa, rBb, rBc, rBd, Evk_v, Evk_n, Nat.reduceAdd, Nat.reduceLeDiff, Nat.le_refl, Nat.zero_le, cz_0, cz_1, cI_1, cO_1, cz_2, cI_2, cO_2, cL_2, cD_2, cz_3, cI_3, cO_3, cL_3, cD_3, cz_4, cI_4, cO_4, cL_4, cD_4, cz_5, cI_5, cO_5, cL_5, cD_5, cz_6, cI_6, cO_6, cL_6, cD_6, cz_7, cI_7, cO_7, cL_7, cD_7, cz_8, cI_8, cO_8, cL_8, cD_8, c1_I, c1_O, List.mem_cons, or_true, true_or, and_self, sI_S, sL_S, sR_S, sD_S, gb_S, sI_R, sL_R, sD_R, gb_R, sI_L, sR_I, sR_L, sL_I, sD_I, sD_L, gb_I, gb_L, y_S1 hL, y_S2 hL, y_S3 hL, y_S4 hL, y_S5 hL, y_S6 hL, y_S7 hL, y_S8 hL, y_S9 hL, y_S10 hL, y_S11 hL, y_S12 hL, y_S13 hL, y_S14 hL, y_S15 hL, y_R1_0 hL, y_R1_1 hL, y_R1_2 hL, y_R1_3 hL, y_R1_4 hL, y_R2_0 hL, y_R2_1 hL, y_R2_2 hL, y_R3 hL, y_R6 hL, y_R7 hL, y_R9 hL, y_R10 hL, y_R11_0 hL, y_R11_1 hL, y_R14 hL, k_nu hC, k_rk hC, k_fl hC, k_dp hC, k_lm hC, k_cf hC, t_nu hC, t_kd hC, t_fd hC, t_dp hC, t_sv hC, t_st hC, t_mb hC, t_rm hC, t_dy hC, t_hr hC, p_pc hC, p_tc hC, p_wc hC, p_td hC, p_lo hC, hp, if_pos (show iN 8 ≤ iN (8) from Int32.le_refl _), hx]
    rfl
theorem m54 (hL : Lay L xs h) (hC : Cls h p P) (hp : p < 9) {j : Nat} (hj : j < 8) : Ev (d + 2) 54 0 [some (vR (2, p, 0)), some (vR (5, p, j))] [] h = some (.inl (some (vI (bI (cgo P j)))), h) := by
  simp only [v54_0, v54_1, v54_4, v54_7, v54_8, v54_11, v54_12, v54_13, v54_14, v54_17, v54_18, v54_21, v54_22, v54_25, v54_28, v54_29, v54_32, v54_33, n_14, n_8, inB_of, Nat.reduceLT, Prod.mk.injEq, true_and, rB, rBn, rBa, rBb, rBc, rBd, Evk_v, Evk_n, Nat.reduceAdd, Nat.reduceLeDiff, Nat.le_refl, Nat.zero_le, cz_0, cz_1, cI_1, cO_1, cz_2, cI_2, cO_2, cL_2, cD_2, cz_3, cI_3, cO_3, cL_3, cD_3, cz_4, cI_4, cO_4, cL_4, cD_4, cz_5, cI_5, cO_5, cL_5, cD_5, cz_6, cI_6, cO_6, cL_6, cD_6, cz_7, cI_7, cO_7, cL_7, cD_7, cz_8, cI_8, cO_8, cL_8, cD_8, c1_I, c1_O, List.mem_cons, or_true, true_or, and_self, sI_S, sL_S, sR_S, sD_S, gb_S, sI_R, sL_R, sD_R, gb_R, sI_L, sR_I, sR_L, sL_I, sD_I, sD_L, gb_I, gb_L, y_S1 hL, y_S2 hL, y_S3 hL, y_S4 hL, y_S5 hL, y_S6 hL, y_S7 hL, y_S8 hL, y_S9 hL, y_S10 hL, y_S11 hL, y_S12 hL, y_S13 hL, y_S14 hL, y_S15 hL, y_R1_0 hL, y_R1_1 hL, y_R1_2 hL, y_R1_3 hL, y_R1_4 hL, y_R2_0 hL, y_R2_1 hL, y_R2_2 hL, y_R3 hL, y_R6 hL, y_R7 hL, y_R9 hL, y_R10 hL, y_R11_0 hL, y_R11_1 hL, y_R14 hL, k_nu hC, k_rk hC, k_fl hC, k_dp hC, k_lm hC, k_cf hC, t_nu hC, t_kd hC, t_fd hC, t_dp hC, t_sv hC, t_st hC, t_mb hC, t_rm hC, t_dy hC, t_hr hC, p_pc hC, p_tc hC, p_wc hC, p_td hC, p_lo hC, hp, hj, m81 hL hC hp hj, bI_0]
  unfold cgo
  by_cases z1 : pld P j = true ∧ ¬ dfd P j = true <;> by_cases z2 : P.1 10 j + 1 < 4 <;> by_cases z3 : P.1 13 j = P.1 16 0 <;> simp [z1, z2, z3, bI]
end Cls5
