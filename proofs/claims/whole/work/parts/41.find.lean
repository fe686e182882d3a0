/-! THE CLASS'S SEARCH FOR A COMPLETION, whole -/

def cmo (P : PL) (j : Nat) : Int32 := most P j - iN (pcn (P.1 11 j))
def mxn (P : PL) (j : Nat) : Nat := (cmo P j).toNatClampNeg
def fdc (P : PL) (j : Nat) : Int32 := match fnd (fun n => decide (¬ chs P j n 0 (pjn P j (P.1 11 j)) = -1)) (mxn P j + 1) with
  | none => -1
  | some n => chs P j n 0 (pjn P j (P.1 11 j))
def in15 (a : A3) : Prop := a = (15, 0, 0)
theorem nq_N {P : PL} (hW : WF P) {j w : Nat} (hj : j < 8) (hw : w < 5) : ∃ b, b ≤ 5 ∧ nq P j w = iN b := by
  obtain ⟨k, hk, e⟩ := w_kd hW hj
  unfold nq
  rw [e, n_i (by omega)]
  have : ∀ k, k < 3 → ∀ w, w < 5 → ∃ b, b ≤ 5 ∧ (sVal 0).getD (k * 5 + w) 0 = iN b := by decide
  exact this k hk w hw
theorem mo_N {P : PL} (hW : WF P) {j : Nat} (hj : j < 8) : ∃ b, b ≤ 7 ∧ most P j = iN b := by
  obtain ⟨b, hb, e⟩ := nq_N hW hj (w := 0) (by decide)
  refine ⟨b + 2, by omega, ?_⟩
  unfold most
  rw [e]
  exact iN_add b 2
theorem cmo_N {P : PL} (hW : WF P) {j : Nat} (hj : j < tn P) : ∃ b, b ≤ 7 ∧ most P j = iN b ∧ pcn (P.1 11 j) ≤ b ∧ mxn P j = b - pcn (P.1 11 j) ∧ cmo P j = iN (mxn P j) := by
  obtain ⟨b, hb, e⟩ := mo_N hW (Nat.lt_of_lt_of_le hj (w_tn hW))
  have h1 := w_mo hW hj
  have h2 := pcn_le (s := P.1 11 j)
  rw [e, iN_le (by omega) (by omega)] at h1
  have e2 : cmo P j = iN (b - pcn (P.1 11 j)) := by
    unfold cmo
    rw [e, iN_sub h1]
  refine ⟨b, hb, e, h1, ?_, ?_⟩
  · unfold mxn
    rw [e2, n_i (by omega)]
  · unfold mxn
    rw [e2, n_i (by omega)]
section Find
variable {L : Nat} {xs : Nat → Int32} {h : Hp} {p : Nat} {P : PL} {d : Nat}
theorem m1a (hL : Lay L xs h) (hC : Cls h p P) (hp : p < 9) {j : Nat} (hj : j < 8) : ∃ h', Ev (d + 12) 1 0 [some (vR (14, 0, 0)), some (vR (2, p, 0)), some (vR (5, p, j)), none, none, none, none] [] h = Ev (d + 12) 1 25 [some (vR (14, 0, 0)), some (vR (2, p, 0)), some (vR (5, p, j)), some (vI 5), none, none, none] [] h' ∧ Chg in15 h h' ∧ Cnt h' P j := by
  have lp := loopI (σ := LS3 × Hp) (E := fun s => Ev (d + 12) 1 2 s.1 [] s.2) (I := fun k s => s.1 = [some (vR (14, 0, 0)), some (vR (2, p, 0)), some (vR (5, p, j)), some (vI (iN k)), none, none, none] ∧ Chg in15 h s.2 ∧ ∀ w, w < k → gI s.2 (15, 0, 0) w = ctf P j w) (n := 5) (by
    rintro k hk ⟨ls, h1⟩ ⟨rfl, c, hx⟩
    have hk31 : k < 2147483648 := by omega
    have hnl : ¬ ((5 : Int32) ≤ iN k) := nle (n := 5) hk (by omega)
    have hC0 := hC
    have hL0 := hL
    have hL := Lay_ch hL c (fun a ha z => by unfold in15 at z; rw [z] at ha; revert ha; decide)
    have hC := Cls_ch hC c (fun a h1 h2 h3 z => by unfold in15 at z; rw [z] at h3; revert h3; decide)
    refine ⟨(_, sI h1 (15, 0, 0) k (ctf P j k)), ⟨rfl, ch_t c (ch_sI rfl), fun w hw => ?_⟩, ?_⟩
    · rw [sI_I]
      by_cases z : w = k
      · rw [if_pos ⟨rfl, z⟩, z]
      · rw [if_neg fun y => z y.2]
        exact hx w (by omega)
    · show Ev (d + 12) 1 2 _ [] h1 = Ev (d + 12) 1 2 _ [] (sI h1 (15, 0, 0) k (ctf P j k))
      rw [v1_2]
      simp only [v1_0, v1_1, v1_3, v1_4, v1_7, v1_8, v1_11, v1_12, v1_13, v1_14, v1_15, v1_18, v1_19, v1_22, v1_26, v1_27, v1_28, v1_31, v1_34, v1_35, v1_36, v1_39, v1_40, v1_43, v1_44, v1_46, v1_47, v1_49, v1_51, v1_53, v1_56, v1_57, v1_58, v1_59, v1_60, v1_61, v1_63, v1_66, v1_68, v1_70, v1_71, v1_74, v1_76, v1_77, v1_80, v1_83, v1_84, n_14, n_8, inB_of, Nat.reduceLT, Prod.mk.injEq, true_and, rB, rBn, rBa, rBb, rBc, rBd, Evk_v, Evk_n, Nat.reduceAdd, Nat.reduceLeDiff, Nat.le_refl, Nat.zero_le, cz_0, cz_1, cI_1, cO_1, cz_2, cI_2, cO_2, cL_2, cD_2, cz_3, cI_3, cO_3, cL_3, cD_3, cz_4, cI_4, cO_4, cL_4, cD_4, cz_5, cI_5, cO_5, cL_5, cD_5, cz_6, cI_6, cO_6, cL_6, cD_6, cz_7, cI_7, cO_7, cL_7, cD_7, cz_8, cI_8, cO_8, cL_8, cD_8, c1_I, c1_O, List.mem_cons, or_true, true_or, and_self, sI_S, sL_S, sR_S, sD_S, gb_S, sI_R, sL_R, sD_R, gb_R, sI_L, sR_I, sR_L, sL_I, sD_I, sD_L, gb_I, gb_L, y_S1 hL, y_S2 hL, y_S3 hL, y_S4 hL, y_S5 hL, y_S6 hL, y_S7 hL, y_S8 hL, y_S9 hL, y_S10 hL, y_S11 hL, y_S12 hL, y_S13 hL, y_S14 hL, y_S15 hL, y_R1_0 hL, y_R1_1 hL, y_R1_2 hL, y_R1_3 hL, y_R1_4 hL, y_R2_0 hL, y_R2_1 hL, y_R2_2 hL, y_R3 hL, y_R6 hL, y_R7 hL, y_R9 hL, y_R10 hL, y_R11_0 hL, y_R11_1 hL, y_R14 hL, k_nu hC, k_rk hC, k_fl hC, k_dp hC, k_lm hC, k_cf hC, t_nu hC, t_kd hC, t_fd hC, t_dp hC, t_sv hC, t_st hC, t_mb hC, t_rm hC, t_dy hC, t_hr hC, p_pc hC, p_tc hC, p_wc hC, p_td hC, p_lo hC, hp, hj, hk, n_i hk31, if_neg hnl, m39 hL hC hp hj hk, iN_s])
  obtain ⟨⟨ls, h1⟩, ⟨rfl, c, hx⟩, e⟩ := lp (_, h) ⟨rfl, ch_r, fun w hw => absurd hw (Nat.not_lt_zero w)⟩
  refine ⟨h1, ?_, c, hx⟩
  simp only [v1_0, v1_1, v1_3, v1_4, v1_7, v1_8, v1_11, v1_12, v1_13, v1_14, v1_15, v1_18, v1_19, v1_22, v1_26, v1_27, v1_28, v1_31, v1_34, v1_35, v1_36, v1_39, v1_40, v1_43, v1_44, v1_46, v1_47, v1_49, v1_51, v1_53, v1_56, v1_57, v1_58, v1_59, v1_60, v1_61, v1_63, v1_66, v1_68, v1_70, v1_71, v1_74, v1_76, v1_77, v1_80, v1_83, v1_84, n_14, n_8, inB_of, Nat.reduceLT, Prod.mk.injEq, true_and, rB, rBn, rBa, rBb, rBc, rBd, Evk_v, Evk_n, Nat.reduceAdd, Nat.reduceLeDiff, Nat.le_refl, Nat.zero_le, cz_0, cz_1, cI_1, cO_1, cz_2, cI_2, cO_2, cL_2, cD_2, cz_3, cI_3, cO_3, cL_3, cD_3, cz_4, cI_4, cO_4, cL_4, cD_4, cz_5, cI_5, cO_5, cL_5, cD_5, cz_6, cI_6, cO_6, cL_6, cD_6, cz_7, cI_7, cO_7, cL_7, cD_7, cz_8, cI_8, cO_8, cL_8, cD_8, c1_I, c1_O, List.mem_cons, or_true, true_or, and_self, sI_S, sL_S, sR_S, sD_S, gb_S, sI_R, sL_R, sD_R, gb_R, sI_L, sR_I, sR_L, sL_I, sD_I, sD_L, gb_I, gb_L]
  refine Eq.trans e ?_
  show Ev (d + 12) 1 2 _ [] h1 = _
  rw [v1_2]
  simp only [v1_0, v1_1, v1_3, v1_4, v1_7, v1_8, v1_11, v1_12, v1_13, v1_14, v1_15, v1_18, v1_19, v1_22, v1_26, v1_27, v1_28, v1_31, v1_34, v1_35, v1_36, v1_39, v1_40, v1_43, v1_44, v1_46, v1_47, v1_49, v1_51, v1_53, v1_56, v1_57, v1_58, v1_59, v1_60, v1_61, v1_63, v1_66, v1_68, v1_70, v1_71, v1_74, v1_76, v1_77, v1_80, v1_83, v1_84, n_14, n_8, inB_of, Nat.reduceLT, Prod.mk.injEq, true_and, rB, rBn, rBa, rBb, rBc, rBd, Evk_v, Evk_n, Nat.reduceAdd, Nat.reduceLeDiff, Nat.le_refl, Nat.zero_le, cz_0, cz_1, cI_1, cO_1, cz_2, cI_2, cO_2, cL_2, cD_2, cz_3, cI_3, cO_3, cL_3, cD_3, cz_4, cI_4, cO_4, cL_4, cD_4, cz_5, cI_5, cO_5, cL_5, cD_5, cz_6, cI_6, cO_6, cL_6, cD_6, cz_7, cI_7, cO_7, cL_7, cD_7, cz_8, cI_8, cO_8, cL_8, cD_8, c1_I, c1_O, List.mem_cons, or_true, true_or, and_self, sI_S, sL_S, sR_S, sD_S, gb_S, sI_R, sL_R, sD_R, gb_R, sI_L, sR_I, sR_L, sL_I, sD_I, sD_L, gb_I, gb_L, if_pos (show (5 : Int32) ≤ iN 5 from Int32.le_refl _)]
  rfl
theorem pjn_14 {P : PL} (hW : WF P) {j : Nat} {s : Int32} : sub 14 (pjn P j s) := sub_le (w_pn hW) (sub_pjn hW)
theorem m1 (hL : Lay L xs h) (hC : Cls h p P) (hp : p < 9) (hW : WF P) {j : Nat} (hj : j < tn P) : ∃ h', Ev (d + 12) 1 0 [some (vR (14, 0, 0)), some (vR (2, p, 0)), some (vR (5, p, j)), none, none, none, none] [] h = some (.inl (some (vI (fdc P j))), h') ∧ Chg in15 h h' := by
  have hj8 : j < 8 := Nat.lt_of_lt_of_le hj (w_tn hW)
  obtain ⟨h', e0, c, hX⟩ := m1a (d := d) hL hC hp hj8
  refine ⟨h', e0.trans ?_, c⟩
  have hL := Lay_ch hL c (fun a ha z => by unfold in15 at z; rw [z] at ha; revert ha; decide)
  have hC := Cls_ch hC c (fun a h1 h2 h3 z => by unfold in15 at z; rw [z] at h3; revert h3; decide)
  clear e0 c
  obtain ⟨b, hb, -, -, emx, ecm⟩ := cmo_N hW hj
  have ch : ∀ n, n ≤ mxn P j → Ev (d + 11) 2 0 [some (vR (14, 0, 0)), some (vR (2, p, 0)), some (vR (5, p, j)), some (vI 0), some (vI (pjn P j (P.1 11 j))), some (vI (iN n)), none, none, none, none, none, none] [] h' = some (.inl (some (vI (chs P j n 0 (pjn P j (P.1 11 j))))), h') := fun n hn => by
    have := m2 hL hC hp hW hj8 hX n (by omega) (d + (9 - n)) 0 (pjn P j (P.1 11 j)) (pjn_14 hW)
    rwa [show d + (9 - n) + n + 2 = d + 11 by omega] at this
  have lp := loopF (σ := LS3) (E := fun ls => Ev (d + 12) 1 49 ls [] h') (I := fun k ls => ∃ o : Option MV, ls = [some (vR (14, 0, 0)), some (vR (2, p, 0)), some (vR (5, p, j)), some (vI (pjn P j (P.1 11 j))), some (vI (iN (mxn P j))), some (vI (iN k)), o]) (n := mxn P j + 1) (c := fun n => decide (¬ chs P j n 0 (pjn P j (P.1 11 j)) = -1)) (r := fun n => some (.inl (some (vI (chs P j n 0 (pjn P j (P.1 11 j))))), h')) (by
    rintro k hk ls ⟨o, rfl⟩
    have hnl : ¬ (iN (mxn P j) < iN k) := nlt32' (ile (by omega) (by omega))
    have chk := ch k (by omega)
    refine ⟨fun z => ?_, fun z => ⟨_, ⟨some (vI (chs P j k 0 (pjn P j (P.1 11 j)))), rfl⟩, ?_⟩⟩
    · rw [dect] at z
      show Ev (d + 12) 1 49 _ [] h' = _
      rw [v1_49]
      simp only [v1_0, v1_1, v1_2, v1_3, v1_4, v1_7, v1_8, v1_11, v1_12, v1_13, v1_14, v1_15, v1_18, v1_19, v1_22, v1_25, v1_26, v1_27, v1_28, v1_31, v1_34, v1_35, v1_36, v1_39, v1_40, v1_43, v1_44, v1_46, v1_47, v1_51, v1_53, v1_56, v1_57, v1_58, v1_59, v1_60, v1_61, v1_63, v1_66, v1_68, v1_70, v1_71, v1_74, v1_76, v1_77, v1_80, v1_83, v1_84, n_14, n_8, inB_of, Nat.reduceLT, Prod.mk.injEq, true_and, rB, rBn, rBa, rBb, rBc, rBd, Evk_v, Evk_n, Nat.reduceAdd, Nat.reduceLeDiff, Nat.le_refl, Nat.zero_le, cz_0, cz_1, cI_1, cO_1, cz_2, cI_2, cO_2, cL_2, cD_2, cz_3, cI_3, cO_3, cL_3, cD_3, cz_4, cI_4, cO_4, cL_4, cD_4, cz_5, cI_5, cO_5, cL_5, cD_5, cz_6, cI_6, cO_6, cL_6, cD_6, cz_7, cI_7, cO_7, cL_7, cD_7, cz_8, cI_8, cO_8, cL_8, cD_8, c1_I, c1_O, List.mem_cons, or_true, true_or, and_self, sI_S, sL_S, sR_S, sD_S, gb_S, sI_R, sL_R, sD_R, gb_R, sI_L, sR_I, sR_L, sL_I, sD_I, sD_L, gb_I, gb_L, y_S1 hL, y_S2 hL, y_S3 hL, y_S4 hL, y_S5 hL, y_S6 hL, y_S7 hL, y_S8 hL, y_S9 hL, y_S10 hL, y_S11 hL, y_S12 hL, y_S13 hL, y_S14 hL, y_S15 hL, y_R1_0 hL, y_R1_1 hL, y_R1_2 hL, y_R1_3 hL, y_R1_4 hL, y_R2_0 hL, y_R2_1 hL, y_R2_2 hL, y_R3 hL, y_R6 hL, y_R7 hL, y_R9 hL, y_R10 hL, y_R11_0 hL, y_R11_1 hL, y_R14 hL, k_nu hC, k_rk hC, k_fl hC, k_dp hC, k_lm hC, k_cf hC, t_nu hC, t_kd hC, t_fd hC, t_dp hC, t_sv hC, t_st hC, t_mb hC, t_rm hC, t_dy hC, t_hr hC, p_pc hC, p_tc hC, p_wc hC, p_td hC, p_lo hC, hp, hj8, if_neg hnl, chk, if_neg z]
    · rw [decf, Decidable.not_not] at z
      show Ev (d + 12) 1 49 _ [] h' = Ev (d + 12) 1 49 _ [] h'
      rw [v1_49]
      simp only [v1_0, v1_1, v1_2, v1_3, v1_4, v1_7, v1_8, v1_11, v1_12, v1_13, v1_14, v1_15, v1_18, v1_19, v1_22, v1_25, v1_26, v1_27, v1_28, v1_31, v1_34, v1_35, v1_36, v1_39, v1_40, v1_43, v1_44, v1_46, v1_47, v1_51, v1_53, v1_56, v1_57, v1_58, v1_59, v1_60, v1_61, v1_63, v1_66, v1_68, v1_70, v1_71, v1_74, v1_76, v1_77, v1_80, v1_83, v1_84, n_14, n_8, inB_of, Nat.reduceLT, Prod.mk.injEq, true_and, rB, rBn, rBa, rBb, rBc, rBd, Evk_v, Evk_n, Nat.reduceAdd, Nat.reduceLeDiff, Nat.le_refl, Nat.zero_le, cz_0, cz_1, cI_1, cO_1, cz_2, cI_2, cO_2, cL_2, cD_2, cz_3, cI_3, cO_3, cL_3, cD_3, cz_4, cI_4, cO_4, cL_4, cD_4, cz_5, cI_5, cO_5, cL_5, cD_5, cz_6, cI_6, cO_6, cL_6, cD_6, cz_7, cI_7, cO_7, cL_7, cD_7, cz_8, cI_8, cO_8, cL_8, cD_8, c1_I, c1_O, List.mem_cons, or_true, true_or, and_self, sI_S, sL_S, sR_S, sD_S, gb_S, sI_R, sL_R, sD_R, gb_R, sI_L, sR_I, sR_L, sL_I, sD_I, sD_L, gb_I, gb_L, y_S1 hL, y_S2 hL, y_S3 hL, y_S4 hL, y_S5 hL, y_S6 hL, y_S7 hL, y_S8 hL, y_S9 hL, y_S10 hL, y_S11 hL, y_S12 hL, y_S13 hL, y_S14 hL, y_S15 hL, y_R1_0 hL, y_R1_1 hL, y_R1_2 hL, y_R1_3 hL, y_R1_4 hL, y_R2_0 hL, y_R2_1 hL, y_R2_2 hL, y_R3 hL, y_R6 hL, y_R7 hL, y_R9 hL, y_R10 hL, y_R11_0 hL, y_R11_1 hL, y_R14 hL, k_nu hC, k_rk hC, k_fl hC, k_dp hC, k_lm hC, k_cf hC, t_nu hC, t_kd hC, t_fd hC, t_dp hC, t_sv hC, t_st hC, t_mb hC, t_rm hC, t_dy hC, t_hr hC, p_pc hC, p_tc hC, p_wc hC, p_td hC, p_lo hC, hp, hj8, if_neg hnl, chk, if_pos z, iN_s])
  obtain ⟨l1, l2⟩ := lp _ ⟨none, rfl⟩
  have j1 := jbc_eq (sub_le (w_pn hW) (w_mb hW hj8))
  simp only [v1_0, v1_1, v1_2, v1_3, v1_4, v1_7, v1_8, v1_11, v1_12, v1_13, v1_14, v1_15, v1_18, v1_19, v1_22, v1_25, v1_26, v1_27, v1_28, v1_31, v1_34, v1_35, v1_36, v1_39, v1_40, v1_43, v1_44, v1_46, v1_47, v1_51, v1_53, v1_56, v1_57, v1_58, v1_59, v1_60, v1_61, v1_63, v1_66, v1_68, v1_70, v1_71, v1_74, v1_76, v1_77, v1_80, v1_83, v1_84, n_14, n_8, inB_of, Nat.reduceLT, Prod.mk.injEq, true_and, rB, rBn, rBa, rBb, rBc, rBd, Evk_v, Evk_n, Nat.reduceAdd, Nat.reduceLeDiff, Nat.le_refl, Nat.zero_le, cz_0, cz_1, cI_1, cO_1, cz_2, cI_2, cO_2, cL_2, cD_2, cz_3, cI_3, cO_3, cL_3, cD_3, cz_4, cI_4, cO_4, cL_4, cD_4, cz_5, cI_5, cO_5, cL_5, cD_5, cz_6, cI_6, cO_6, cL_6, cD_6, cz_7, cI_7, cO_7, cL_7, cD_7, cz_8, cI_8, cO_8, cL_8, cD_8, c1_I, c1_O, List.mem_cons, or_true, true_or, and_self, sI_S, sL_S, sR_S, sD_S, gb_S, sI_R, sL_R, sD_R, gb_R, sI_L, sR_I, sR_L, sL_I, sD_I, sD_L, gb_I, gb_L, y_S1 hL, y_S2 hL, y_S3 hL, y_S4 hL, y_S5 hL, y_S6 hL, y_S7 hL, y_S8 hL, y_S9 hL, y_S10 hL, y_S11 hL, y_S12 hL, y_S13 hL, y_S14 hL, y_S15 hL, y_R1_0 hL, y_R1_1 hL, y_R1_2 hL, y_R1_3 hL, y_R1_4 hL, y_R2_0 hL, y_R2_1 hL, y_R2_2 hL, y_R3 hL, y_R6 hL, y_R7 hL, y_R9 hL, y_R10 hL, y_R11_0 hL, y_R11_1 hL, y_R14 hL, k_nu hC, k_rk hC, k_fl hC, k_dp hC, k_lm hC, k_cf hC, t_nu hC, t_kd hC, t_fd hC, t_dp hC, t_sv hC, t_st hC, t_mb hC, t_rm hC, t_dy hC, t_hr hC, p_pc hC, p_tc hC, p_wc hC, p_td hC, p_lo hC, hp, hj8, m43 hL hC hp hW hj8 (sub_le (w_pn hW) (w_mb hW hj8)), m85 hL hC hp hW hj8, m83 hL hC hp hj8, j1, show most P j - iN (pcn (P.1 11 j)) = iN (mxn P j) from ecm]
  unfold fdc
  cases e : fnd (fun n => decide (¬ chs P j n 0 (pjn P j (P.1 11 j)) = -1)) (mxn P j + 1) with
  | some n => exact l1 n e
  | none =>
    obtain ⟨_, ⟨o, rfl⟩, e2⟩ := l2 e
    refine Eq.trans e2 ?_
    show Ev (d + 12) 1 49 _ [] h' = _
    rw [v1_49]
    simp only [v1_0, v1_1, v1_2, v1_3, v1_4, v1_7, v1_8, v1_11, v1_12, v1_13, v1_14, v1_15, v1_18, v1_19, v1_22, v1_25, v1_26, v1_27, v1_28, v1_31, v1_34, v1_35, v1_36, v1_39, v1_40, v1_43, v1_44, v1_46, v1_47, v1_51, v1_53, v1_56, v1_57, v1_58, v1_59, v1_60, v1_61, v1_63, v1_66, v1_68, v1_70, v1_71, v1_74, v1_76, v1_77, v1_80, v1_83, v1_84, n_14, n_8, inB_of, Nat.reduceLT, Prod.mk.injEq, true_and, rB, rBn, rBa, rBb, rBc, rBd, Evk_v, Evk_n, Nat.reduceAdd, Nat.reduceLeDiff, Nat.le_refl, Nat.zero_le, cz_0, cz_1, cI_1, cO_1, cz_2, cI_2, cO_2, cL_2, cD_2, cz_3, cI_3, cO_3, cL_3, cD_3, cz_4, cI_4, cO_4, cL_4, cD_4, cz_5, cI_5, cO_5, cL_5, cD_5, cz_6, cI_6, cO_6, cL_6, cD_6, cz_7, cI_7, cO_7, cL_7, cD_7, cz_8, cI_8, cO_8, cL_8, cD_8, c1_I, c1_O, List.mem_cons, or_true, true_or, and_self, sI_S, sL_S, sR_S, sD_S, gb_S, sI_R, sL_R, sD_R, gb_R, sI_L, sR_I, sR_L, sL_I, sD_I, sD_L, gb_I, gb_L, y_S1 hL, y_S2 hL, y_S3 hL, y_S4 hL, y_S5 hL, y_S6 hL, y_S7 hL, y_S8 hL, y_S9 hL, y_S10 hL, y_S11 hL, y_S12 hL, y_S13 hL, y_S14 hL, y_S15 hL, y_R1_0 hL, y_R1_1 hL, y_R1_2 hL, y_R1_3 hL, y_R1_4 hL, y_R2_0 hL, y_R2_1 hL, y_R2_2 hL, y_R3 hL, y_R6 hL, y_R7 hL, y_R9 hL, y_R10 hL, y_R11_0 hL, y_R11_1 hL, y_R14 hL, k_nu hC, k_rk hC, k_fl hC, k_dp hC, k_lm hC, k_cf hC, t_nu hC, t_kd hC, t_fd hC, t_dp hC, t_sv hC, t_st hC, t_mb hC, t_rm hC, t_dy hC, t_hr hC, p_pc hC, p_tc hC, p_wc hC, p_td hC, p_lo hC, hp, if_pos (show iN (mxn P j) < iN (mxn P j + 1) from ilt (by omega) (by omega))]
end Find
