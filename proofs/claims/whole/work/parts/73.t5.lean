/-! CALLS THAT CHANGE: append -/



def xsA (X : XS) (v : Int32) : XS := (X.1, X.2.1, xL X + 1, fun k => if k = xL X then v else xI X k, X.2.2.2.2)
section T5
variable {L : Nat} {xs : Nat → Int32} {h h' h1 : Hp} {P P' Q : PL} {H H' : HS} {X X' : XS} {d : Nat}
theorem nar_c : ∀ n, n < 127 → vp_nar .char (iN n) = iN n := by decide +kernel
theorem WI_ap (w : WI P H X) {n : Nat} (hl : xL X < 60) (hn : n < 127) : WI P H (xsA X (iN n)) := by
  obtain ⟨w1, w2, w3, w4, w5, w6, w7, w8⟩ := w
  refine ⟨w1, w2, w3, w4, w5, (show xL X + 1 ≤ 60 by omega), fun k hk => ?_, w8⟩
  show ∃ c, c < 127 ∧ (if k = xL X then iN n else xI X k) = iN c
  have hk : k < xL X + 1 := hk
  by_cases y : k = xL X
  · exact ⟨n, hn, if_pos y⟩
  · obtain ⟨c, hc, e⟩ := w7 k (by omega)
    exact ⟨c, hc, (if_neg y).trans e⟩
theorem CI_ap (c : CI h P H X) {v : Int32} : CI (sI (sI h (12, 0, 0) (xL X) v) (11, 0, 0) 2 (iN (xL X + 1))) P H (xsA X v) := by
  obtain ⟨c1, c2, c3, c4⟩ := c
  have k : Chg (fun a => a = (12, 0, 0) ∨ a = (11, 0, 0)) h (sI (sI h (12, 0, 0) (xL X) v) (11, 0, 0) 2 (iN (xL X + 1))) := ch_t (ch_sI (Or.inl rfl)) (ch_sI (Or.inr rfl))
  have n : ∀ a : A3, a.1 ≤ 8 → ¬ (a = (12, 0, 0) ∨ a = (11, 0, 0)) := fun a ha z => by rcases z with z | z <;> rw [z] at ha <;> simp at ha
  refine ⟨Cls_ch c1 k (fun a _ _ h3 => n a h3), Cls_ch c2 k (fun a _ _ h3 => n a h3), fun m hm => Cls_ch (c3 m hm) k (fun a _ _ h3 => n a h3), ?_⟩
  obtain ⟨a1, a2, a3, a4, a5, a6, a7⟩ := c4
  refine ⟨?_, ?_, ?_, ?_, ?_, ?_, fun q hq => ?_⟩
  · rw [ch_I k (by simp)]; exact a1
  · rw [ch_I k (by simp)]; exact a2
  · rw [ch_I k (by simp)]; exact a3
  · rw [ch_I k (by simp)]; exact a4
  · rw [ch_I k (by simp)]; exact a5
  · rw [sI_I, if_pos ⟨rfl, rfl⟩]; rfl
  · have hq : q < xL X + 1 := hq
    show _ = if q = xL X then v else xI X q
    rw [sI_I, if_neg (by simp), sI_I]
    by_cases y : q = xL X
    · rw [if_pos ⟨rfl, y⟩, if_pos y]
    · rw [if_neg fun z => y z.2, if_neg y]; exact a7 q (by omega)
theorem MI_ap (m : MI h P H X) (hW : WF P) {v : Int32} : MI (sI (sI h (21, 16, 0) (xL X) v) (20, 0, 0) 26 (iN (xL X + 1))) P H (xsA X v) := by
  obtain ⟨m1, m2, m3⟩ := m
  have e : ∀ k, k ≠ 26 → gI (sI (sI h (21, 16, 0) (xL X) v) (20, 0, 0) 26 (iN (xL X + 1))) (20, 0, 0) k = gI h (20, 0, 0) k := fun k hk => by rw [sI_I, if_neg fun z => hk z.2, sI_I, if_neg (by simp)]
  have e2 : ∀ f, f ≠ 16 → gI (sI (sI h (21, 16, 0) (xL X) v) (20, 0, 0) 26 (iN (xL X + 1))) (21, f, 0) = gI h (21, f, 0) := fun f hf => by
    funext k
    rw [sI_I, if_neg (by simp), sI_I, if_neg (fun z => by have := z.1; simp at this; exact hf this)]
  obtain ⟨a1, a2, a3, a4, a5, a6, a7⟩ := m3
  refine ⟨?_, ⟨fun z => Row_eq (e2 20 (by decide)) (m2.1 z), fun i hi => Row_eq (e2 19 (by decide)) (m2.2 i hi)⟩, ?_, ?_, ?_, ?_, ?_, ?_, fun q hq => ?_⟩
  · exact Arr_of m1 (w_pn hW) (w_tn hW) (w_wn hW) (fun f hf i hi => congrFun (e2 f (by omega)) i) (fun s hs => e _ (by
      have : ∀ s, s < 5 → scF s ≠ 26 := by decide
      exact this s hs))
  · rw [e 33 (by decide)]; exact a1
  · rw [e 35 (by decide)]; exact a2
  · rw [e 22 (by decide)]; exact a3
  · rw [e 29 (by decide)]; exact a4
  · rw [sI_I, if_pos ⟨rfl, rfl⟩]; rfl
  · rw [e 37 (by decide)]; exact a6
  · have hq : q < xL X + 1 := hq
    show _ = if q = xL X then v else xI X q
    rw [sI_I, if_neg (by simp), sI_I]
    by_cases y : q = xL X
    · rw [if_pos ⟨rfl, y⟩, if_pos y]
    · rw [if_neg fun z => y z.2, if_neg y]; exact a7 q (by omega)
theorem c32 (hL : Lay L xs h) (c : CI h P H X) (mi : MI h P H X) (wi : WI P H X) {x : Int32} : Agw L xs (d + 20) 273 217 [some (vR (1, 0, 0)), some (vI x), some (vR (30, 0, 0)), none] [some (vR (20, 0, 0)), some (vI x)] h := by
  have hC := c.1; have hW := wi.1.1; have hp : 0 < 9 := Nat.zero_lt_succ 8; have h14 := w_pn hW; have h8 := w_tn hW
  have c4 := c.2.2.2
  have e2 : gI h (11, 0, 0) 2 = iN (xL X) := c4.2.2.2.2.2.1
  have l60 := wi.2.2.2.2.2.1
  by_cases hx : 32 ≤ x ∧ x ≤ 126
  · have hxx := hx
    obtain ⟨n, hn, rfl⟩ := ofI' (n := 126) (Int32.le_trans (by decide) hx.1) hx.2 (by decide)
    have hnc := nar_c n (by omega)
    by_cases hl : xL X < 60
    · have hlt : iN (xL X) < Int32.ofNat 60 := ilt (n := 60) hl (by decide)
      have hne : ¬ iN (xL X) = 60 := fun z => by
        have := (iN_inj (b := 60) (show xL X < 2147483648 by omega) (by decide)).mp z
        omega
      have hin : inB (iN (xL X)) 60 := inB_of hl (by decide)
      have hto : (iN (xL X)).toNatClampNeg = xL X := n_i (by omega)
      have k1 : Chg inC h (sI (sI h (12, 0, 0) (xL X) (iN n)) (11, 0, 0) 2 (iN (xL X + 1))) := ch_t (ch_sI (Nat.le_of_ble_eq_true rfl)) (ch_sI (Nat.le_of_ble_eq_true rfl))
      have hL1 := Lay_C hL k1
      refine k_ok (v := iN (xL X + 1)) hL (CI_ap c (v := iN n)) k1 mi (WI_ap wi hl (by omega)) (w273_v (y_S1 hL) (y_S30 hL1) ?_) (fun h hL mi => ?_)
      · simp only [v124_0, v124_1, v124_3, v124_6, v124_7, v124_9, v124_12, v124_15, v124_23, v124_24, v124_27, v124_28, v124_31, v124_34, v124_37, v124_45, v124_46, v124_49, v124_52, v13_0, v13_1, v13_4, v13_5, v13_8, v13_9, v13_12, v13_13, v13_14, v13_15, v13_18, v13_19, v13_22, v13_23, v13_24, v13_25, v13_26, v13_29, v13_30, v13_31, v13_34, v13_35, n_14, n_8, inB_of, Nat.reduceLT, Prod.mk.injEq, true_and, rB, rBn, rBa, rBb, rBc, rBd, Evk_v, Evk_n, Nat.reduceAdd, Nat.reduceLeDiff, Nat.le_refl, Nat.zero_le, cz_0, cz_1, cI_1, cO_1, cz_2, cI_2, cO_2, cL_2, cD_2, cz_3, cI_3, cO_3, cL_3, cD_3, cz_4, cI_4, cO_4, cL_4, cD_4, cz_5, cI_5, cO_5, cL_5, cD_5, cz_6, cI_6, cO_6, cL_6, cD_6, cz_7, cI_7, cO_7, cL_7, cD_7, cz_8, cI_8, cO_8, cL_8, cD_8, List.mem_cons, or_true, true_or, and_self, sI_S, sL_S, sR_S, sD_S, gb_S, sI_R, sL_R, sD_R, gb_R, sI_L, sR_I, sR_L, sL_I, sD_I, sD_L, gb_I, gb_L, y_S1 hL, y_S2 hL, y_S3 hL, y_S4 hL, y_S5 hL, y_S6 hL, y_S7 hL, y_S8 hL, y_S9 hL, y_S10 hL, y_S11 hL, y_S12 hL, y_S13 hL, y_S14 hL, y_S15 hL, y_R1_0 hL, y_R1_1 hL, y_R1_2 hL, y_R1_3 hL, y_R1_4 hL, y_R2_0 hL, y_R2_1 hL, y_R2_2 hL, y_R3 hL, y_R6 hL, y_R7 hL, y_R9 hL, y_R10 hL, y_R11_0 hL, y_R11_1 hL, y_R14 hL, k_nu hC, k_rk hC, k_fl hC, k_dp hC, k_lm hC, k_cf hC, t_nu hC, t_kd hC, t_fd hC, t_dp hC, t_sv hC, t_st hC, t_mb hC, t_rm hC, t_dy hC, t_hr hC, p_pc hC, p_tc hC, p_wc hC, p_td hC, p_lo hC, hp, if_neg (nlt32' hx.1), if_pos hx.2, e2, hlt, hin, hto, hnc, sI_I, Prod.mk.injEq, Nat.reduceEqDiff, and_false, false_and, if_false, and_self, iN_s, c1_It, c1_Ot, bI_T, bI_F, i10, i01, if_true, if_false, not_true_eq_false, not_false_eq_true, Bool.false_eq_true, Int32.or_zero, ne_eq, Bool.and_eq_true, decide_eq_true_eq, decide_true, decide_false, and_true, true_and, and_false, false_and, Bool.and_true, Bool.true_and, Bool.and_false, Bool.false_and]
      · have a26 : gI h (20, 0, 0) 26 = iN (xL X) := mi.2.2.2.2.2.2.1
        have m0 := MI_x (m := 0) (v := 0) mi (Or.inl rfl)
        have m1 := MI_ap m0 hW (v := iN n)
        refine ⟨_, ?_, m1, ch_t ch_t0 (ch_t (ch_sI (Or.inr rfl)) (ch_sI (Or.inl rfl))), ?_⟩
        · simp only [v217_0, v217_1, v217_3, v217_5, v217_8, v217_11, v217_12, v217_13, v217_16, v217_17, v217_18, v217_21, v217_23, v217_26, v217_27, v217_28, v217_31, v217_32, v217_33, v217_34, v217_37, v217_38, v217_41, v217_42, v217_45, v217_46, v217_47, v217_48, v217_49, v217_52, v217_53, v217_54, v217_57, v217_58, v217_61, n_14, n_8, inB_of, Nat.reduceLT, Prod.mk.injEq, true_and, rB, rBn, rBa, rBb, rBc, rBd, Evk_v, Evk_n, Nat.reduceAdd, Nat.reduceLeDiff, Nat.le_refl, Nat.zero_le, cz_0, cz_1, cI_1, cO_1, cz_2, cI_2, cO_2, cL_2, cD_2, cz_3, cI_3, cO_3, cL_3, cD_3, cz_4, cI_4, cO_4, cL_4, cD_4, cz_5, cI_5, cO_5, cL_5, cD_5, cz_6, cI_6, cO_6, cL_6, cD_6, cz_7, cI_7, cO_7, cL_7, cD_7, cz_8, cI_8, cO_8, cL_8, cD_8, List.mem_cons, or_true, true_or, and_self, sI_S, sL_S, sR_S, sD_S, gb_S, sI_R, sL_R, sD_R, gb_R, sI_L, sR_I, sR_L, sL_I, sD_I, sD_L, gb_I, gb_L, m143, hxx, bI_0, y_S20 hL, a26, hne, y_F_input hL, y_M_input hL, hin, hto, hnc, sI_I, Prod.mk.injEq, Nat.reduceEqDiff, and_false, false_and, if_false, and_self, iN_s, c1_It, c1_Ot, bI_T, bI_F, i10, i01, if_true, if_false, not_true_eq_false, not_false_eq_true, Bool.false_eq_true, Int32.or_zero, ne_eq, Bool.and_eq_true, decide_eq_true_eq, decide_true, decide_false, and_true, true_and, and_false, false_and, Bool.and_true, Bool.true_and, Bool.and_false, Bool.false_and]
        · rw [sI_I, if_neg (by simp), sI_I, if_neg (by simp), sI_I, if_pos ⟨rfl, rfl⟩]
    · have e60 : xL X = 60 := by omega
      have hlt : ¬ iN (xL X) < Int32.ofNat 60 := by rw [e60]; decide
      have heq : iN (xL X) = 60 := by rw [e60]; rfl
      refine q_ex (k := 2) (b := 0) hL c mi wi (by decide) (w273_1 (y_S1 hL) ?_) (fun h hL mi => ?_)
      · simp only [v124_0, v124_1, v124_3, v124_6, v124_7, v124_9, v124_12, v124_15, v124_23, v124_24, v124_27, v124_28, v124_31, v124_34, v124_37, v124_45, v124_46, v124_49, v124_52, v13_0, v13_1, v13_4, v13_5, v13_8, v13_9, v13_12, v13_13, v13_14, v13_15, v13_18, v13_19, v13_22, v13_23, v13_24, v13_25, v13_26, v13_29, v13_30, v13_31, v13_34, v13_35, n_14, n_8, inB_of, Nat.reduceLT, Prod.mk.injEq, true_and, rB, rBn, rBa, rBb, rBc, rBd, Evk_v, Evk_n, Nat.reduceAdd, Nat.reduceLeDiff, Nat.le_refl, Nat.zero_le, cz_0, cz_1, cI_1, cO_1, cz_2, cI_2, cO_2, cL_2, cD_2, cz_3, cI_3, cO_3, cL_3, cD_3, cz_4, cI_4, cO_4, cL_4, cD_4, cz_5, cI_5, cO_5, cL_5, cD_5, cz_6, cI_6, cO_6, cL_6, cD_6, cz_7, cI_7, cO_7, cL_7, cD_7, cz_8, cI_8, cO_8, cL_8, cD_8, List.mem_cons, or_true, true_or, and_self, sI_S, sL_S, sR_S, sD_S, gb_S, sI_R, sL_R, sD_R, gb_R, sI_L, sR_I, sR_L, sL_I, sD_I, sD_L, gb_I, gb_L, y_S1 hL, y_S2 hL, y_S3 hL, y_S4 hL, y_S5 hL, y_S6 hL, y_S7 hL, y_S8 hL, y_S9 hL, y_S10 hL, y_S11 hL, y_S12 hL, y_S13 hL, y_S14 hL, y_S15 hL, y_R1_0 hL, y_R1_1 hL, y_R1_2 hL, y_R1_3 hL, y_R1_4 hL, y_R2_0 hL, y_R2_1 hL, y_R2_2 hL, y_R3 hL, y_R6 hL, y_R7 hL, y_R9 hL, y_R10 hL, y_R11_0 hL, y_R11_1 hL, y_R14 hL, k_nu hC, k_rk hC, k_fl hC, k_dp hC, k_lm hC, k_cf hC, t_nu hC, t_kd hC, t_fd hC, t_dp hC, t_sv hC, t_st hC, t_mb hC, t_rm hC, t_dy hC, t_hr hC, p_pc hC, p_tc hC, p_wc hC, p_td hC, p_lo hC, hp, if_neg (nlt32' hx.1), if_pos hx.2, e2, hlt, c1_It, c1_Ot, bI_T, bI_F, i10, i01, if_true, if_false, not_true_eq_false, not_false_eq_true, Bool.false_eq_true, Int32.or_zero, ne_eq, Bool.and_eq_true, decide_eq_true_eq, decide_true, decide_false, and_true, true_and, and_false, false_and, Bool.and_true, Bool.true_and, Bool.and_false, Bool.false_and]
      · have hM := mi.1; have hL0 := Lay_sI (a := (20, 0, 0)) (m := 0) (v := 0) hL (Nat.le_of_ble_eq_true rfl); have hM0 := mo_x (m := 0) (v := 0) hM (by decide)
        have a26 : gI h (20, 0, 0) 26 = 60 := mi.2.2.2.2.2.2.1.trans heq
        simp only [v217_0, v217_1, v217_3, v217_5, v217_8, v217_11, v217_12, v217_13, v217_16, v217_17, v217_18, v217_21, v217_23, v217_26, v217_27, v217_28, v217_31, v217_32, v217_33, v217_34, v217_37, v217_38, v217_41, v217_42, v217_45, v217_46, v217_47, v217_48, v217_49, v217_52, v217_53, v217_54, v217_57, v217_58, v217_61, n_14, n_8, inB_of, Nat.reduceLT, Prod.mk.injEq, true_and, rB, rBn, rBa, rBb, rBc, rBd, Evk_v, Evk_n, Nat.reduceAdd, Nat.reduceLeDiff, Nat.le_refl, Nat.zero_le, cz_0, cz_1, cI_1, cO_1, cz_2, cI_2, cO_2, cL_2, cD_2, cz_3, cI_3, cO_3, cL_3, cD_3, cz_4, cI_4, cO_4, cL_4, cD_4, cz_5, cI_5, cO_5, cL_5, cD_5, cz_6, cI_6, cO_6, cL_6, cD_6, cz_7, cI_7, cO_7, cL_7, cD_7, cz_8, cI_8, cO_8, cL_8, cD_8, List.mem_cons, or_true, true_or, and_self, sI_S, sL_S, sR_S, sD_S, gb_S, sI_R, sL_R, sD_R, gb_R, sI_L, sR_I, sR_L, sL_I, sD_I, sD_L, gb_I, gb_L, m143, hxx, bI_0, y_S20 hL, a26, m141 hL, c1_It, c1_Ot, bI_T, bI_F, i10, i01, if_true, if_false, not_true_eq_false, not_false_eq_true, Bool.false_eq_true, Int32.or_zero, ne_eq, Bool.and_eq_true, decide_eq_true_eq, decide_true, decide_false, and_true, true_and, and_false, false_and, Bool.and_true, Bool.true_and, Bool.and_false, Bool.false_and]
  ·
    refine q_ex (k := 1) (b := 0) hL c mi wi (by decide) (w273_0 (y_S1 hL) ?_) (fun h hL mi => ?_)
    · by_cases v1 : x < 32
      · simp only [v124_0, v124_1, v124_3, v124_6, v124_7, v124_9, v124_12, v124_15, v124_23, v124_24, v124_27, v124_28, v124_31, v124_34, v124_37, v124_45, v124_46, v124_49, v124_52, n_14, n_8, inB_of, Nat.reduceLT, Prod.mk.injEq, true_and, rB, rBn, rBa, rBb, rBc, rBd, Evk_v, Evk_n, Nat.reduceAdd, Nat.reduceLeDiff, Nat.le_refl, Nat.zero_le, cz_0, cz_1, cI_1, cO_1, cz_2, cI_2, cO_2, cL_2, cD_2, cz_3, cI_3, cO_3, cL_3, cD_3, cz_4, cI_4, cO_4, cL_4, cD_4, cz_5, cI_5, cO_5, cL_5, cD_5, cz_6, cI_6, cO_6, cL_6, cD_6, cz_7, cI_7, cO_7, cL_7, cD_7, cz_8, cI_8, cO_8, cL_8, cD_8, List.mem_cons, or_true, true_or, and_self, sI_S, sL_S, sR_S, sD_S, gb_S, sI_R, sL_R, sD_R, gb_R, sI_L, sR_I, sR_L, sL_I, sD_I, sD_L, gb_I, gb_L, y_S1 hL, y_S2 hL, y_S3 hL, y_S4 hL, y_S5 hL, y_S6 hL, y_S7 hL, y_S8 hL, y_S9 hL, y_S10 hL, y_S11 hL, y_S12 hL, y_S13 hL, y_S14 hL, y_S15 hL, y_R1_0 hL, y_R1_1 hL, y_R1_2 hL, y_R1_3 hL, y_R1_4 hL, y_R2_0 hL, y_R2_1 hL, y_R2_2 hL, y_R3 hL, y_R6 hL, y_R7 hL, y_R9 hL, y_R10 hL, y_R11_0 hL, y_R11_1 hL, y_R14 hL, k_nu hC, k_rk hC, k_fl hC, k_dp hC, k_lm hC, k_cf hC, t_nu hC, t_kd hC, t_fd hC, t_dp hC, t_sv hC, t_st hC, t_mb hC, t_rm hC, t_dy hC, t_hr hC, p_pc hC, p_tc hC, p_wc hC, p_td hC, p_lo hC, hp, if_pos v1, if_true, if_false, not_true_eq_false, not_false_eq_true, Bool.false_eq_true, Int32.or_zero, ne_eq, Bool.and_eq_true, decide_eq_true_eq, decide_true, decide_false, and_true, true_and, and_false, false_and, Bool.and_true, Bool.true_and, Bool.and_false, Bool.false_and]
      · have v2 : ¬ x ≤ 126 := fun q => hx ⟨le32n v1, q⟩
        simp only [v124_0, v124_1, v124_3, v124_6, v124_7, v124_9, v124_12, v124_15, v124_23, v124_24, v124_27, v124_28, v124_31, v124_34, v124_37, v124_45, v124_46, v124_49, v124_52, n_14, n_8, inB_of, Nat.reduceLT, Prod.mk.injEq, true_and, rB, rBn, rBa, rBb, rBc, rBd, Evk_v, Evk_n, Nat.reduceAdd, Nat.reduceLeDiff, Nat.le_refl, Nat.zero_le, cz_0, cz_1, cI_1, cO_1, cz_2, cI_2, cO_2, cL_2, cD_2, cz_3, cI_3, cO_3, cL_3, cD_3, cz_4, cI_4, cO_4, cL_4, cD_4, cz_5, cI_5, cO_5, cL_5, cD_5, cz_6, cI_6, cO_6, cL_6, cD_6, cz_7, cI_7, cO_7, cL_7, cD_7, cz_8, cI_8, cO_8, cL_8, cD_8, List.mem_cons, or_true, true_or, and_self, sI_S, sL_S, sR_S, sD_S, gb_S, sI_R, sL_R, sD_R, gb_R, sI_L, sR_I, sR_L, sL_I, sD_I, sD_L, gb_I, gb_L, y_S1 hL, y_S2 hL, y_S3 hL, y_S4 hL, y_S5 hL, y_S6 hL, y_S7 hL, y_S8 hL, y_S9 hL, y_S10 hL, y_S11 hL, y_S12 hL, y_S13 hL, y_S14 hL, y_S15 hL, y_R1_0 hL, y_R1_1 hL, y_R1_2 hL, y_R1_3 hL, y_R1_4 hL, y_R2_0 hL, y_R2_1 hL, y_R2_2 hL, y_R3 hL, y_R6 hL, y_R7 hL, y_R9 hL, y_R10 hL, y_R11_0 hL, y_R11_1 hL, y_R14 hL, k_nu hC, k_rk hC, k_fl hC, k_dp hC, k_lm hC, k_cf hC, t_nu hC, t_kd hC, t_fd hC, t_dp hC, t_sv hC, t_st hC, t_mb hC, t_rm hC, t_dy hC, t_hr hC, p_pc hC, p_tc hC, p_wc hC, p_td hC, p_lo hC, hp, if_neg v1, if_neg v2, if_true, if_false, not_true_eq_false, not_false_eq_true, Bool.false_eq_true, Int32.or_zero, ne_eq, Bool.and_eq_true, decide_eq_true_eq, decide_true, decide_false, and_true, true_and, and_false, false_and, Bool.and_true, Bool.true_and, Bool.and_false, Bool.false_and]
    · have hM := mi.1; have hL0 := Lay_sI (a := (20, 0, 0)) (m := 0) (v := 0) hL (Nat.le_of_ble_eq_true rfl); have hM0 := mo_x (m := 0) (v := 0) hM (by decide)
      simp only [v217_0, v217_1, v217_3, v217_5, v217_8, v217_11, v217_12, v217_13, v217_16, v217_17, v217_18, v217_21, v217_23, v217_26, v217_27, v217_28, v217_31, v217_32, v217_33, v217_34, v217_37, v217_38, v217_41, v217_42, v217_45, v217_46, v217_47, v217_48, v217_49, v217_52, v217_53, v217_54, v217_57, v217_58, v217_61, n_14, n_8, inB_of, Nat.reduceLT, Prod.mk.injEq, true_and, rB, rBn, rBa, rBb, rBc, rBd, Evk_v, Evk_n, Nat.reduceAdd, Nat.reduceLeDiff, Nat.le_refl, Nat.zero_le, cz_0, cz_1, cI_1, cO_1, cz_2, cI_2, cO_2, cL_2, cD_2, cz_3, cI_3, cO_3, cL_3, cD_3, cz_4, cI_4, cO_4, cL_4, cD_4, cz_5, cI_5, cO_5, cL_5, cD_5, cz_6, cI_6, cO_6, cL_6, cD_6, cz_7, cI_7, cO_7, cL_7, cD_7, cz_8, cI_8, cO_8, cL_8, cD_8, List.mem_cons, or_true, true_or, and_self, sI_S, sL_S, sR_S, sD_S, gb_S, sI_R, sL_R, sD_R, gb_R, sI_L, sR_I, sR_L, sL_I, sD_I, sD_L, gb_I, gb_L, m143, hx, bI_0, y_S20 hL, m141 hL, c1_It, c1_Ot, bI_T, bI_F, i10, i01, if_true, if_false, not_true_eq_false, not_false_eq_true, Bool.false_eq_true, Int32.or_zero, ne_eq, Bool.and_eq_true, decide_eq_true_eq, decide_true, decide_false, and_true, true_and, and_false, false_and, Bool.and_true, Bool.true_and, Bool.and_false, Bool.false_and]
end T5
