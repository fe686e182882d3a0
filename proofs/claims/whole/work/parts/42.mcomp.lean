/-! THE MODEL'S COMPLETION, as functions -/


def nwf (S : Int32) (i : Nat) : Int32 := if bt S i = true then b1 i else 0
abbrev nw (P : PL) (j : Nat) (S : Int32) (k : Nat) : Int32 := orf (P.1 11 j) (nwf S) k
def dcf (P : PL) (j : Nat) (S : Int32) (k : Nat) : Bool := bt S k && decide (¬ why P j k (nw P j S k) = 0)
def dcp (P : PL) (j : Nat) (S : Int32) : Bool := (fnd (dcf P j S) (pn P)).isNone && hld P j (nw P j S (pn P))
def frb (a b : Int32) : Bool := match fnd (fun k => bt a k != bt b k) 14 with
  | some k => bt a k
  | none => false
def mon (P : PL) (j : Nat) : Nat := (most P j).toNatClampNeg
def skb (m : Nat) (b : Option Nat) : Bool := match b with
  | none => false
  | some b' => decide (pcn (iN b') < pcn (iN m)) || (decide (pcn (iN m) = pcn (iN b')) && !frb (iN m) (iN b'))
def bst (P : PL) (j : Nat) : Nat → Option Nat
  | 0 => none
  | m + 1 => if ¬ iN m &&& P.1 11 j = 0 then bst P j m else if mon P j < pcn (iN m) + pcn (P.1 11 j) ∧ ¬ m = 0 then bst P j m else if skb m (bst P j m) = true then bst P j m else if dcp P j (iN m) = true then some m else bst P j m
theorem bst_s {P : PL} {j m : Nat} : bst P j (m + 1) = if ¬ iN m &&& P.1 11 j = 0 then bst P j m else if mon P j < pcn (iN m) + pcn (P.1 11 j) ∧ ¬ m = 0 then bst P j m else if skb m (bst P j m) = true then bst P j m else if dcp P j (iN m) = true then some m else bst P j m := rfl
theorem bst_lt {P : PL} {j m b : Nat} (h : bst P j m = some b) : b < m := by
  induction m with
  | zero => cases h
  | succ m ih =>
    unfold bst at h
    split at h
    · have := ih h; omega
    · split at h
      · have := ih h; omega
      · split at h
        · have := ih h; omega
        · split at h
          · cases h; omega
          · have := ih h; omega
theorem nw_sub {P : PL} (hW : WF P) {j : Nat} (hj : j < 8) {S : Int32} {k : Nat} (hk : k ≤ pn P) : sub (pn P) (nw P j S k) := by
  refine sub_orf (w_mb hW hj) fun i hi => ?_
  unfold nwf
  split
  · exact sub_b1 (by omega) (by have := w_pn hW; omega)
  · exact sub_0
theorem b1_pow : ∀ n, n ≤ 14 → b1 n = iN (2 ^ n) := by decide +kernel
section MComp
variable {L : Nat} {xs : Nat → Int32} {h : Hp} {P : PL} {d : Nat}
theorem m190 (hL : Lay L xs h) (hM : Mod h P) (hW : WF P) {j : Nat} {S : Int32} (hj : j < tn P) : Ev (d + 4) 190 0 [some (vR (20, 0, 0)), some (vI (iN j)), some (vI S), none, none] [] h = some (.inl (some (vI (bI (dcp P j S = true)))), h) := by
  have hj8 : j < 8 := Nat.lt_of_lt_of_le hj (w_tn hW)
  have h14 := w_pn hW
  have lp := loopF (σ := LS3) (E := fun ls => Ev (d + 4) 190 10 ls [] h) (I := fun k ls => ∃ o : Option MV, ls = [some (vR (20, 0, 0)), some (vI (iN j)), some (vI S), some (vI (nw P j S k)), some (vI (iN k))]) (n := (pn P)) (c := dcf P j S) (r := fun _ => some (.inl (some (vI (0))), h)) (by
    rintro k hk ls ⟨o, rfl⟩
    have hk31 : k < 2147483648 := by omega
    have hnl : ¬ (iN (pn P) ≤ iN k) := nle (n := (pn P)) hk (by omega)
    refine ⟨fun z => ?_, fun z => ⟨_, ⟨none, rfl⟩, ?_⟩⟩
    · unfold dcf at z
      rw [Bool.and_eq_true, dect] at z
      show Ev (d + 4) 190 10 _ [] h = _
      rw [v190_10]
      simp only [v190_0, v190_1, v190_4, v190_5, v190_6, v190_7, v190_8, v190_12, v190_13, v190_16, v190_19, v190_20, v190_22, v190_23, v190_24, v190_25, v190_28, v190_31, v190_32, v190_33, v190_35, v190_36, v190_39, v190_42, v190_43, v190_44, v190_45, v190_46, v190_48, v190_49, v190_50, v190_51, v190_54, v190_57, v190_58, v190_59, v190_60, v190_63, n_14, n_8, inB_of, Nat.reduceLT, Prod.mk.injEq, true_and, rB, rBn, rBa, rBb, rBc, rBd, Evk_v, Evk_n, Nat.reduceAdd, Nat.reduceLeDiff, Nat.le_refl, Nat.zero_le, cz_0, cz_1, cI_1, cO_1, cz_2, cI_2, cO_2, cL_2, cD_2, cz_3, cI_3, cO_3, cL_3, cD_3, cz_4, cI_4, cO_4, cL_4, cD_4, cz_5, cI_5, cO_5, cL_5, cD_5, cz_6, cI_6, cO_6, cL_6, cD_6, cz_7, cI_7, cO_7, cL_7, cD_7, cz_8, cI_8, cO_8, cL_8, cD_8, c1_I, c1_O, List.mem_cons, or_true, true_or, and_self, sI_S, sL_S, sR_S, sD_S, gb_S, sI_R, sL_R, sD_R, gb_R, sI_L, sR_I, sR_L, sL_I, sD_I, sD_L, gb_I, gb_L, y_S20 hL, y_M_rank hL, y_M_fields hL, y_M_home hL, y_M_limit hL, y_M_conflicts hL, y_M_busy hL, y_M_kind hL, y_M_field hL, y_M_department hL, y_M_supervisor hL, y_M_stage hL, y_M_members hL, y_M_room hL, y_M_dayOf hL, y_M_hourOf hL, y_M_line hL, y_F_rank hL, y_F_fields hL, y_F_home hL, y_F_limit hL, y_F_conflicts hL, y_F_busy hL, y_F_kind hL, y_F_field hL, y_F_department hL, y_F_supervisor hL, y_F_stage hL, y_F_members hL, y_F_room hL, y_F_dayOf hL, y_F_hourOf hL, y_F_line hL, m_rk hM, m_fl hM, m_dp hM, m_lm hM, m_cf hM, m_kd hM, m_fd hM, m_de hM, m_sv hM, m_st hM, m_mb hM, m_rm hM, m_dy hM, m_hr hM, m_pc hM, m_tc hM, m_wc hM, m_td hM, m_lo hM, hk, n_i hk31, if_neg hnl, iN_s, orf_s, cn_s, smf_s, bt_z, z.1, m160 hL hM hW hj hk (nw_sub hW hj8 (Nat.le_of_lt hk)), if_neg z.2, if_true, if_false, not_true_eq_false, not_false_eq_true, Bool.false_eq_true, Int32.or_zero, ne_eq, Bool.and_eq_true, decide_eq_true_eq, decide_true, decide_false, and_true, true_and, and_false, false_and, Bool.and_true, Bool.true_and, Bool.and_false, Bool.false_and]
    · have e : nw P j S (k + 1) = nw P j S k ||| nwf S k := rfl
      rw [e]
      by_cases y1 : bt S k = true
      · by_cases y2 : why P j k (nw P j S k) = 0
        · have e3 : nwf S k = b1 k := if_pos y1
          rw [e3]
          show Ev (d + 4) 190 10 _ [] h = Ev (d + 4) 190 10 _ [] h
          rw [v190_10]
          simp only [v190_0, v190_1, v190_4, v190_5, v190_6, v190_7, v190_8, v190_12, v190_13, v190_16, v190_19, v190_20, v190_22, v190_23, v190_24, v190_25, v190_28, v190_31, v190_32, v190_33, v190_35, v190_36, v190_39, v190_42, v190_43, v190_44, v190_45, v190_46, v190_48, v190_49, v190_50, v190_51, v190_54, v190_57, v190_58, v190_59, v190_60, v190_63, n_14, n_8, inB_of, Nat.reduceLT, Prod.mk.injEq, true_and, rB, rBn, rBa, rBb, rBc, rBd, Evk_v, Evk_n, Nat.reduceAdd, Nat.reduceLeDiff, Nat.le_refl, Nat.zero_le, cz_0, cz_1, cI_1, cO_1, cz_2, cI_2, cO_2, cL_2, cD_2, cz_3, cI_3, cO_3, cL_3, cD_3, cz_4, cI_4, cO_4, cL_4, cD_4, cz_5, cI_5, cO_5, cL_5, cD_5, cz_6, cI_6, cO_6, cL_6, cD_6, cz_7, cI_7, cO_7, cL_7, cD_7, cz_8, cI_8, cO_8, cL_8, cD_8, c1_I, c1_O, List.mem_cons, or_true, true_or, and_self, sI_S, sL_S, sR_S, sD_S, gb_S, sI_R, sL_R, sD_R, gb_R, sI_L, sR_I, sR_L, sL_I, sD_I, sD_L, gb_I, gb_L, y_S20 hL, y_M_rank hL, y_M_fields hL, y_M_home hL, y_M_limit hL, y_M_conflicts hL, y_M_busy hL, y_M_kind hL, y_M_field hL, y_M_department hL, y_M_supervisor hL, y_M_stage hL, y_M_members hL, y_M_room hL, y_M_dayOf hL, y_M_hourOf hL, y_M_line hL, y_F_rank hL, y_F_fields hL, y_F_home hL, y_F_limit hL, y_F_conflicts hL, y_F_busy hL, y_F_kind hL, y_F_field hL, y_F_department hL, y_F_supervisor hL, y_F_stage hL, y_F_members hL, y_F_room hL, y_F_dayOf hL, y_F_hourOf hL, y_F_line hL, m_rk hM, m_fl hM, m_dp hM, m_lm hM, m_cf hM, m_kd hM, m_fd hM, m_de hM, m_sv hM, m_st hM, m_mb hM, m_rm hM, m_dy hM, m_hr hM, m_pc hM, m_tc hM, m_wc hM, m_td hM, m_lo hM, hk, n_i hk31, if_neg hnl, iN_s, bt_z, y1, m160 hL hM hW hj hk (nw_sub hW hj8 (Nat.le_of_lt hk)), if_pos y2, if_true, if_false, not_true_eq_false, not_false_eq_true, Bool.false_eq_true, Int32.or_zero, ne_eq, Bool.and_eq_true, decide_eq_true_eq, decide_true, decide_false, and_true, true_and, and_false, false_and, Bool.and_true, Bool.true_and, Bool.and_false, Bool.false_and]
        · unfold dcf at z
          rw [y1, decide_eq_true y2] at z; cases z
      · have e3 : nwf S k = 0 := if_neg y1
        rw [e3, Int32.or_zero]
        show Ev (d + 4) 190 10 _ [] h = Ev (d + 4) 190 10 _ [] h
        rw [v190_10]
        simp only [v190_0, v190_1, v190_4, v190_5, v190_6, v190_7, v190_8, v190_12, v190_13, v190_16, v190_19, v190_20, v190_22, v190_23, v190_24, v190_25, v190_28, v190_31, v190_32, v190_33, v190_35, v190_36, v190_39, v190_42, v190_43, v190_44, v190_45, v190_46, v190_48, v190_49, v190_50, v190_51, v190_54, v190_57, v190_58, v190_59, v190_60, v190_63, n_14, n_8, inB_of, Nat.reduceLT, Prod.mk.injEq, true_and, rB, rBn, rBa, rBb, rBc, rBd, Evk_v, Evk_n, Nat.reduceAdd, Nat.reduceLeDiff, Nat.le_refl, Nat.zero_le, cz_0, cz_1, cI_1, cO_1, cz_2, cI_2, cO_2, cL_2, cD_2, cz_3, cI_3, cO_3, cL_3, cD_3, cz_4, cI_4, cO_4, cL_4, cD_4, cz_5, cI_5, cO_5, cL_5, cD_5, cz_6, cI_6, cO_6, cL_6, cD_6, cz_7, cI_7, cO_7, cL_7, cD_7, cz_8, cI_8, cO_8, cL_8, cD_8, c1_I, c1_O, List.mem_cons, or_true, true_or, and_self, sI_S, sL_S, sR_S, sD_S, gb_S, sI_R, sL_R, sD_R, gb_R, sI_L, sR_I, sR_L, sL_I, sD_I, sD_L, gb_I, gb_L, y_S20 hL, y_M_rank hL, y_M_fields hL, y_M_home hL, y_M_limit hL, y_M_conflicts hL, y_M_busy hL, y_M_kind hL, y_M_field hL, y_M_department hL, y_M_supervisor hL, y_M_stage hL, y_M_members hL, y_M_room hL, y_M_dayOf hL, y_M_hourOf hL, y_M_line hL, y_F_rank hL, y_F_fields hL, y_F_home hL, y_F_limit hL, y_F_conflicts hL, y_F_busy hL, y_F_kind hL, y_F_field hL, y_F_department hL, y_F_supervisor hL, y_F_stage hL, y_F_members hL, y_F_room hL, y_F_dayOf hL, y_F_hourOf hL, y_F_line hL, m_rk hM, m_fl hM, m_dp hM, m_lm hM, m_cf hM, m_kd hM, m_fd hM, m_de hM, m_sv hM, m_st hM, m_mb hM, m_rm hM, m_dy hM, m_hr hM, m_pc hM, m_tc hM, m_wc hM, m_td hM, m_lo hM, hk, n_i hk31, if_neg hnl, iN_s, bt_z, y1, if_true, if_false, not_true_eq_false, not_false_eq_true, Bool.false_eq_true, Int32.or_zero, ne_eq, Bool.and_eq_true, decide_eq_true_eq, decide_true, decide_false, and_true, true_and, and_false, false_and, Bool.and_true, Bool.true_and, Bool.and_false, Bool.false_and]
    )
  obtain ⟨l1, l2⟩ := lp _ ⟨none, rfl⟩
  simp only [v190_0, v190_1, v190_4, v190_5, v190_6, v190_7, v190_8, v190_12, v190_13, v190_16, v190_19, v190_20, v190_22, v190_23, v190_24, v190_25, v190_28, v190_31, v190_32, v190_33, v190_35, v190_36, v190_39, v190_42, v190_43, v190_44, v190_45, v190_46, v190_48, v190_49, v190_50, v190_51, v190_54, v190_57, v190_58, v190_59, v190_60, v190_63, n_14, n_8, inB_of, Nat.reduceLT, Prod.mk.injEq, true_and, rB, rBn, rBa, rBb, rBc, rBd, Evk_v, Evk_n, Nat.reduceAdd, Nat.reduceLeDiff, Nat.le_refl, Nat.zero_le, cz_0, cz_1, cI_1, cO_1, cz_2, cI_2, cO_2, cL_2, cD_2, cz_3, cI_3, cO_3, cL_3, cD_3, cz_4, cI_4, cO_4, cL_4, cD_4, cz_5, cI_5, cO_5, cL_5, cD_5, cz_6, cI_6, cO_6, cL_6, cD_6, cz_7, cI_7, cO_7, cL_7, cD_7, cz_8, cI_8, cO_8, cL_8, cD_8, c1_I, c1_O, List.mem_cons, or_true, true_or, and_self, sI_S, sL_S, sR_S, sD_S, gb_S, sI_R, sL_R, sD_R, gb_R, sI_L, sR_I, sR_L, sL_I, sD_I, sD_L, gb_I, gb_L, y_S20 hL, y_M_rank hL, y_M_fields hL, y_M_home hL, y_M_limit hL, y_M_conflicts hL, y_M_busy hL, y_M_kind hL, y_M_field hL, y_M_department hL, y_M_supervisor hL, y_M_stage hL, y_M_members hL, y_M_room hL, y_M_dayOf hL, y_M_hourOf hL, y_M_line hL, y_F_rank hL, y_F_fields hL, y_F_home hL, y_F_limit hL, y_F_conflicts hL, y_F_busy hL, y_F_kind hL, y_F_field hL, y_F_department hL, y_F_supervisor hL, y_F_stage hL, y_F_members hL, y_F_room hL, y_F_dayOf hL, y_F_hourOf hL, y_F_line hL, m_rk hM, m_fl hM, m_dp hM, m_lm hM, m_cf hM, m_kd hM, m_fd hM, m_de hM, m_sv hM, m_st hM, m_mb hM, m_rm hM, m_dy hM, m_hr hM, m_pc hM, m_tc hM, m_wc hM, m_td hM, m_lo hM, hj, hj8]
  unfold dcp
  cases e : fnd (dcf P j S) (pn P) with
  | some k => exact (l1 k e).trans (rI_e (bI_f (by simp)).symm)
  | none =>
    have m5 : ∀ d, Ev (d + 3) 156 0 [some (vR (20, 0, 0)), some (vI (iN j)), some (vI (nw P j S (pn P))), none] [] h = some (.inl (some (vI (bI (hld P j (nw P j S (pn P)) = true)))), h) := fun d => m156 (d := d + 2) hL hM hW hj (nw_sub hW hj8 (Nat.le_refl _))
    obtain ⟨_, ⟨o, rfl⟩, e2⟩ := l2 e
    refine Eq.trans e2 ?_
    show Ev (d + 4) 190 10 _ [] h = _
    rw [v190_10]
    simp only [v190_0, v190_1, v190_4, v190_5, v190_6, v190_7, v190_8, v190_12, v190_13, v190_16, v190_19, v190_20, v190_22, v190_23, v190_24, v190_25, v190_28, v190_31, v190_32, v190_33, v190_35, v190_36, v190_39, v190_42, v190_43, v190_44, v190_45, v190_46, v190_48, v190_49, v190_50, v190_51, v190_54, v190_57, v190_58, v190_59, v190_60, v190_63, n_14, n_8, inB_of, Nat.reduceLT, Prod.mk.injEq, true_and, rB, rBn, rBa, rBb, rBc, rBd, Evk_v, Evk_n, Nat.reduceAdd, Nat.reduceLeDiff, Nat.le_refl, Nat.zero_le, cz_0, cz_1, cI_1, cO_1, cz_2, cI_2, cO_2, cL_2, cD_2, cz_3, cI_3, cO_3, cL_3, cD_3, cz_4, cI_4, cO_4, cL_4, cD_4, cz_5, cI_5, cO_5, cL_5, cD_5, cz_6, cI_6, cO_6, cL_6, cD_6, cz_7, cI_7, cO_7, cL_7, cD_7, cz_8, cI_8, cO_8, cL_8, cD_8, c1_I, c1_O, List.mem_cons, or_true, true_or, and_self, sI_S, sL_S, sR_S, sD_S, gb_S, sI_R, sL_R, sD_R, gb_R, sI_L, sR_I, sR_L, sL_I, sD_I, sD_L, gb_I, gb_L, y_S20 hL, y_M_rank hL, y_M_fields hL, y_M_home hL, y_M_limit hL, y_M_conflicts hL, y_M_busy hL, y_M_kind hL, y_M_field hL, y_M_department hL, y_M_supervisor hL, y_M_stage hL, y_M_members hL, y_M_room hL, y_M_dayOf hL, y_M_hourOf hL, y_M_line hL, y_F_rank hL, y_F_fields hL, y_F_home hL, y_F_limit hL, y_F_conflicts hL, y_F_busy hL, y_F_kind hL, y_F_field hL, y_F_department hL, y_F_supervisor hL, y_F_stage hL, y_F_members hL, y_F_room hL, y_F_dayOf hL, y_F_hourOf hL, y_F_line hL, m_rk hM, m_fl hM, m_dp hM, m_lm hM, m_cf hM, m_kd hM, m_fd hM, m_de hM, m_sv hM, m_st hM, m_mb hM, m_rm hM, m_dy hM, m_hr hM, m_pc hM, m_tc hM, m_wc hM, m_td hM, m_lo hM, if_pos (show iN (pn P) ≤ iN ((pn P)) from Int32.le_refl _), m5, bI_01]
    exact rI_c (by simp)
theorem m191 {a b : Int32} (hne : ∃ k, k < 14 ∧ bt a k ≠ bt b k) : Ev d 191 0 [some (vI a), some (vI b), none] [] h = some (.inl (some (vI (bI (frb a b = true)))), h) := by
  have rb : ∀ (s : Int32) (k : Nat), (s >>> (iN k &&& 31)) &&& 1 = iN (bt s k).toNat := fun s k => sb_0
  have lp := loopF (σ := LS3) (E := fun ls => Ev d 191 2 ls [] h) (I := fun k ls => ls = [some (vI a), some (vI b), some (vI (iN k))]) (n := 14) (c := fun k => bt a k != bt b k) (r := fun k => some (.inl (some (vI (bI (bt a k = true)))), h)) (by
    rintro k hk ls rfl
    refine ⟨fun z => ?_, fun z => ⟨_, rfl, ?_⟩⟩
    · show Ev d 191 2 _ [] h = _
      rw [v191_2]
      have z' : ¬ iN (bt a k).toNat = iN (bt b k).toNat := by
        revert z; cases bt a k <;> cases bt b k <;> decide
      simp only [v191_0, v191_1, v191_3, v191_4, v191_5, v191_6, v191_7, v191_8, v191_9, v191_10, v191_11, v191_12, v191_15, v191_18, v191_21, v191_22, v191_23, v191_24, v191_25, v191_26, v191_27, v191_30, v191_31, v191_34, v191_35, n_14, n_8, inB_of, Nat.reduceLT, Prod.mk.injEq, true_and, rB, rBn, rBa, rBb, rBc, rBd, Evk_v, Evk_n, Nat.reduceAdd, Nat.reduceLeDiff, Nat.le_refl, Nat.zero_le, cz_0, cz_1, cI_1, cO_1, cz_2, cI_2, cO_2, cL_2, cD_2, cz_3, cI_3, cO_3, cL_3, cD_3, cz_4, cI_4, cO_4, cL_4, cD_4, cz_5, cI_5, cO_5, cL_5, cD_5, cz_6, cI_6, cO_6, cL_6, cD_6, cz_7, cI_7, cO_7, cL_7, cD_7, cz_8, cI_8, cO_8, cL_8, cD_8, c1_I, c1_O, List.mem_cons, or_true, true_or, and_self, sI_S, sL_S, sR_S, sD_S, gb_S, sI_R, sL_R, sD_R, gb_R, sI_L, sR_I, sR_L, sL_I, sD_I, sD_L, gb_I, gb_L, rb, if_neg z']
      cases bt a k <;> rfl
    · show Ev d 191 2 _ [] h = Ev d 191 2 _ [] h
      rw [v191_2]
      have z' : iN (bt a k).toNat = iN (bt b k).toNat := by
        revert z; cases bt a k <;> cases bt b k <;> decide
      simp only [v191_0, v191_1, v191_3, v191_4, v191_5, v191_6, v191_7, v191_8, v191_9, v191_10, v191_11, v191_12, v191_15, v191_18, v191_21, v191_22, v191_23, v191_24, v191_25, v191_26, v191_27, v191_30, v191_31, v191_34, v191_35, n_14, n_8, inB_of, Nat.reduceLT, Prod.mk.injEq, true_and, rB, rBn, rBa, rBb, rBc, rBd, Evk_v, Evk_n, Nat.reduceAdd, Nat.reduceLeDiff, Nat.le_refl, Nat.zero_le, cz_0, cz_1, cI_1, cO_1, cz_2, cI_2, cO_2, cL_2, cD_2, cz_3, cI_3, cO_3, cL_3, cD_3, cz_4, cI_4, cO_4, cL_4, cD_4, cz_5, cI_5, cO_5, cL_5, cD_5, cz_6, cI_6, cO_6, cL_6, cD_6, cz_7, cI_7, cO_7, cL_7, cD_7, cz_8, cI_8, cO_8, cL_8, cD_8, c1_I, c1_O, List.mem_cons, or_true, true_or, and_self, sI_S, sL_S, sR_S, sD_S, gb_S, sI_R, sL_R, sD_R, gb_R, sI_L, sR_I, sR_L, sL_I, sD_I, sD_L, gb_I, gb_L, rb, if_pos z', iN_s])
  obtain ⟨l1, l2⟩ := lp _ rfl
  simp only [v191_0, v191_1, v191_3, v191_4, v191_5, v191_6, v191_7, v191_8, v191_9, v191_10, v191_11, v191_12, v191_15, v191_18, v191_21, v191_22, v191_23, v191_24, v191_25, v191_26, v191_27, v191_30, v191_31, v191_34, v191_35, n_14, n_8, inB_of, Nat.reduceLT, Prod.mk.injEq, true_and, rB, rBn, rBa, rBb, rBc, rBd, Evk_v, Evk_n, Nat.reduceAdd, Nat.reduceLeDiff, Nat.le_refl, Nat.zero_le, cz_0, cz_1, cI_1, cO_1, cz_2, cI_2, cO_2, cL_2, cD_2, cz_3, cI_3, cO_3, cL_3, cD_3, cz_4, cI_4, cO_4, cL_4, cD_4, cz_5, cI_5, cO_5, cL_5, cD_5, cz_6, cI_6, cO_6, cL_6, cD_6, cz_7, cI_7, cO_7, cL_7, cD_7, cz_8, cI_8, cO_8, cL_8, cD_8, c1_I, c1_O, List.mem_cons, or_true, true_or, and_self, sI_S, sL_S, sR_S, sD_S, gb_S, sI_R, sL_R, sD_R, gb_R, sI_L, sR_I, sR_L, sL_I, sD_I, sD_L, gb_I, gb_L]
  unfold frb
  cases e : fnd (fun k => bt a k != bt b k) 14 with
  | some k => exact l1 k e
  | none =>
    obtain ⟨k, hk, hne⟩ := hne
    have := fnd_none.1 e k hk
    revert this hne
    cases bt a k <;> cases bt b k <;> simp
theorem iN_ne {a b : Nat} (ha : a < 16384) (hb : b < 16384) (h : a ≠ b) : ∃ k, k < 14 ∧ bt (iN a) k ≠ bt (iN b) k := by
  refine Classical.byContradiction fun z => h ?_
  have : iN a = iN b := bt_ext fun i hi => by
    by_cases y : i < 14
    · have : bt (iN a) i = bt (iN b) i := Classical.byContradiction fun w => z ⟨i, y, w⟩
      rw [this]
    · have h1 := N_sub (n := 14) (by decide) ha i (by omega) hi
      have h2 := N_sub (n := 14) (by decide) hb i (by omega) hi
      exact ⟨fun w => absurd w h1, fun w => absurd w h2⟩
  rw [iN_inj (by omega) (by omega)] at this
  exact this
theorem m192 (hL : Lay L xs h) (hM : Mod h P) (hW : WF P) {j : Nat} (hj : j < tn P) : Ev (d + 5) 192 0 [some (vR (20, 0, 0)), some (vI (iN j)), none, none] [] h = some (.inl (some (vI (oN (bst P j (2 ^ pn P))))), h) := by
  have hj8 : j < 8 := Nat.lt_of_lt_of_le hj (w_tn hW)
  have h14 := w_pn hW
  have hp : 2 ^ pn P ≤ 16384 := Nat.pow_le_pow_right (by decide) h14
  obtain ⟨b, hb, eb, -⟩ := cmo_N hW hj
  have emo : most P j = iN (mon P j) ∧ mon P j ≤ 7 := by
    unfold mon
    rw [eb, n_i (by omega)]
    exact ⟨rfl, hb⟩
  have pm : ∀ d, Ev d 144 0 [some (vI (P.1 11 j)), none, none] [] h = some (.inl (some (vI (iN (pcn (P.1 11 j))))), h) := fun d => m144' (sub_le h14 (w_mb hW hj8))
  have hpm := pcn_le (s := P.1 11 j)
  have lp := loopI (σ := LS3) (E := fun ls => Ev (d + 5) 192 4 ls [] h) (I := fun k ls => ls = [some (vR (20, 0, 0)), some (vI (iN j)), some (vI (oN (bst P j k))), some (vI (iN k))]) (n := 2 ^ pn P) (by
    rintro k hk ls rfl
    have hnl : ¬ (iN (2 ^ pn P) ≤ iN k) := nle hk (by omega)
    have hk14 : k < 16384 := by omega
    have pk : ∀ d, Ev d 144 0 [some (vI (iN k)), none, none] [] h = some (.inl (some (vI (iN (pcn (iN k))))), h) := fun d => m144' (N_sub (by decide) hk14)
    have hpk := pcn_le (s := iN k)
    have q1 : (iN (pcn (iN k) + pcn (P.1 11 j)) ≤ most P j) = ¬ mon P j < pcn (iN k) + pcn (P.1 11 j) := by
      rw [emo.1, iN_le (by omega) (by omega)]
      exact propext ⟨fun _ => by omega, fun _ => by omega⟩
    have q2 : (iN k = 0) = (k = 0) := iN_inj (b := 0) (by omega) (by decide)
    refine ⟨_, rfl, ?_⟩
    show Ev (d + 5) 192 4 [some (vR (20, 0, 0)), some (vI (iN j)), some (vI (oN (bst P j k))), some (vI (iN k))] [] h = Ev (d + 5) 192 4 [some (vR (20, 0, 0)), some (vI (iN j)), some (vI (oN (bst P j (k + 1)))), some (vI (iN (k + 1)))] [] h
    have s5 : ∀ x : Int32, Ev (d + 5) 192 102 [some (vR (20, 0, 0)), some (vI (iN j)), some (vI (x)), some (vI (iN k))] [] h = Ev (d + 5) 192 4 [some (vR (20, 0, 0)), some (vI (iN j)), some (vI x), some (vI (iN (k + 1)))] [] h := fun x => by
      rw [v192_102]
      simp only [v192_0, v192_1, v192_2, v192_3, v192_5, v192_6, v192_7, v192_10, v192_11, v192_14, v192_15, v192_16, v192_19, v192_20, v192_21, v192_22, v192_26, v192_29, v192_30, v192_33, v192_34, v192_35, v192_38, v192_39, v192_40, v192_41, v192_44, v192_47, v192_48, v192_51, v192_55, v192_58, v192_59, v192_62, v192_63, v192_66, v192_69, v192_70, v192_73, v192_74, v192_77, v192_80, v192_81, v192_82, v192_85, v192_88, v192_92, v192_93, v192_94, v192_97, v192_100, v192_101, v192_105, v192_108, v192_109, n_14, n_8, inB_of, Nat.reduceLT, Prod.mk.injEq, true_and, rB, rBn, rBa, rBb, rBc, rBd, Evk_v, Evk_n, Nat.reduceAdd, Nat.reduceLeDiff, Nat.le_refl, Nat.zero_le, cz_0, cz_1, cI_1, cO_1, cz_2, cI_2, cO_2, cL_2, cD_2, cz_3, cI_3, cO_3, cL_3, cD_3, cz_4, cI_4, cO_4, cL_4, cD_4, cz_5, cI_5, cO_5, cL_5, cD_5, cz_6, cI_6, cO_6, cL_6, cD_6, cz_7, cI_7, cO_7, cL_7, cD_7, cz_8, cI_8, cO_8, cL_8, cD_8, c1_I, c1_O, List.mem_cons, or_true, true_or, and_self, sI_S, sL_S, sR_S, sD_S, gb_S, sI_R, sL_R, sD_R, gb_R, sI_L, sR_I, sR_L, sL_I, sD_I, sD_L, gb_I, gb_L, iN_s]
    have s4 : ∀ x : Int32, Ev (d + 5) 192 91 [some (vR (20, 0, 0)), some (vI (iN j)), some (vI (x)), some (vI (iN k))] [] h = if dcp P j (iN k) = true then Ev (d + 5) 192 102 [some (vR (20, 0, 0)), some (vI (iN j)), some (vI (iN k)), some (vI (iN k))] [] h else Ev (d + 5) 192 102 [some (vR (20, 0, 0)), some (vI (iN j)), some (vI (x)), some (vI (iN k))] [] h := fun x => by
      rw [v192_91]
      simp only [v192_0, v192_1, v192_2, v192_3, v192_5, v192_6, v192_7, v192_10, v192_11, v192_14, v192_15, v192_16, v192_19, v192_20, v192_21, v192_22, v192_26, v192_29, v192_30, v192_33, v192_34, v192_35, v192_38, v192_39, v192_40, v192_41, v192_44, v192_47, v192_48, v192_51, v192_55, v192_58, v192_59, v192_62, v192_63, v192_66, v192_69, v192_70, v192_73, v192_74, v192_77, v192_80, v192_81, v192_82, v192_85, v192_88, v192_92, v192_93, v192_94, v192_97, v192_100, v192_101, v192_105, v192_108, v192_109, n_14, n_8, inB_of, Nat.reduceLT, Prod.mk.injEq, true_and, rB, rBn, rBa, rBb, rBc, rBd, Evk_v, Evk_n, Nat.reduceAdd, Nat.reduceLeDiff, Nat.le_refl, Nat.zero_le, cz_0, cz_1, cI_1, cO_1, cz_2, cI_2, cO_2, cL_2, cD_2, cz_3, cI_3, cO_3, cL_3, cD_3, cz_4, cI_4, cO_4, cL_4, cD_4, cz_5, cI_5, cO_5, cL_5, cD_5, cz_6, cI_6, cO_6, cL_6, cD_6, cz_7, cI_7, cO_7, cL_7, cD_7, cz_8, cI_8, cO_8, cL_8, cD_8, c1_I, c1_O, List.mem_cons, or_true, true_or, and_self, sI_S, sL_S, sR_S, sD_S, gb_S, sI_R, sL_R, sD_R, gb_R, sI_L, sR_I, sR_L, sL_I, sD_I, sD_L, gb_I, gb_L, y_S20 hL, y_M_rank hL, y_M_fields hL, y_M_home hL, y_M_limit hL, y_M_conflicts hL, y_M_busy hL, y_M_kind hL, y_M_field hL, y_M_department hL, y_M_supervisor hL, y_M_stage hL, y_M_members hL, y_M_room hL, y_M_dayOf hL, y_M_hourOf hL, y_M_line hL, y_F_rank hL, y_F_fields hL, y_F_home hL, y_F_limit hL, y_F_conflicts hL, y_F_busy hL, y_F_kind hL, y_F_field hL, y_F_department hL, y_F_supervisor hL, y_F_stage hL, y_F_members hL, y_F_room hL, y_F_dayOf hL, y_F_hourOf hL, y_F_line hL, m_rk hM, m_fl hM, m_dp hM, m_lm hM, m_cf hM, m_kd hM, m_fd hM, m_de hM, m_sv hM, m_st hM, m_mb hM, m_rm hM, m_dy hM, m_hr hM, m_pc hM, m_tc hM, m_wc hM, m_td hM, m_lo hM, m190 hL hM hW hj, bI_0, ite_not]
    have s3 : Ev (d + 5) 192 54 [some (vR (20, 0, 0)), some (vI (iN j)), some (vI (oN (bst P j k))), some (vI (iN k))] [] h = if skb k (bst P j k) = true then Ev (d + 5) 192 102 [some (vR (20, 0, 0)), some (vI (iN j)), some (vI (oN (bst P j k))), some (vI (iN k))] [] h else Ev (d + 5) 192 91 [some (vR (20, 0, 0)), some (vI (iN j)), some (vI (oN (bst P j k))), some (vI (iN k))] [] h := by
      rw [v192_54]
      cases eb2 : bst P j k with
      | none =>
        have hneg : (-1 : Int32) < 0 := by decide
        simp only [v192_0, v192_1, v192_2, v192_3, v192_5, v192_6, v192_7, v192_10, v192_11, v192_14, v192_15, v192_16, v192_19, v192_20, v192_21, v192_22, v192_26, v192_29, v192_30, v192_33, v192_34, v192_35, v192_38, v192_39, v192_40, v192_41, v192_44, v192_47, v192_48, v192_51, v192_55, v192_58, v192_59, v192_62, v192_63, v192_66, v192_69, v192_70, v192_73, v192_74, v192_77, v192_80, v192_81, v192_82, v192_85, v192_88, v192_92, v192_93, v192_94, v192_97, v192_100, v192_101, v192_105, v192_108, v192_109, n_14, n_8, inB_of, Nat.reduceLT, Prod.mk.injEq, true_and, rB, rBn, rBa, rBb, rBc, rBd, Evk_v, Evk_n, Nat.reduceAdd, Nat.reduceLeDiff, Nat.le_refl, Nat.zero_le, cz_0, cz_1, cI_1, cO_1, cz_2, cI_2, cO_2, cL_2, cD_2, cz_3, cI_3, cO_3, cL_3, cD_3, cz_4, cI_4, cO_4, cL_4, cD_4, cz_5, cI_5, cO_5, cL_5, cD_5, cz_6, cI_6, cO_6, cL_6, cD_6, cz_7, cI_7, cO_7, cL_7, cD_7, cz_8, cI_8, cO_8, cL_8, cD_8, c1_I, c1_O, List.mem_cons, or_true, true_or, and_self, sI_S, sL_S, sR_S, sD_S, gb_S, sI_R, sL_R, sD_R, gb_R, sI_L, sR_I, sR_L, sL_I, sD_I, sD_L, gb_I, gb_L, oN, skb, hneg, if_true, if_false, not_true_eq_false, not_false_eq_true, Bool.false_eq_true, Int32.or_zero, ne_eq, Bool.and_eq_true, decide_eq_true_eq, decide_true, decide_false, and_true, true_and, and_false, false_and, Bool.and_true, Bool.true_and, Bool.and_false, Bool.false_and]
      | some b' =>
        have hb' := bst_lt eb2
        have hge : ¬ iN b' < 0 := nlt0 (by omega)
        have pb : ∀ d, Ev d 144 0 [some (vI (iN b')), none, none] [] h = some (.inl (some (vI (iN (pcn (iN b'))))), h) := fun d => m144' (N_sub (by decide) (show b' < 2 ^ 14 by omega))
        have hpb := pcn_le (s := iN b')
        have m1 : ∀ d, Ev d 191 0 [some (vI (iN k)), some (vI (iN b')), none] [] h = some (.inl (some (vI (bI (frb (iN k) (iN b') = true)))), h) := fun d => m191 (iN_ne hk14 (by omega) (by omega))
        simp only [v192_0, v192_1, v192_2, v192_3, v192_5, v192_6, v192_7, v192_10, v192_11, v192_14, v192_15, v192_16, v192_19, v192_20, v192_21, v192_22, v192_26, v192_29, v192_30, v192_33, v192_34, v192_35, v192_38, v192_39, v192_40, v192_41, v192_44, v192_47, v192_48, v192_51, v192_55, v192_58, v192_59, v192_62, v192_63, v192_66, v192_69, v192_70, v192_73, v192_74, v192_77, v192_80, v192_81, v192_82, v192_85, v192_88, v192_92, v192_93, v192_94, v192_97, v192_100, v192_101, v192_105, v192_108, v192_109, n_14, n_8, inB_of, Nat.reduceLT, Prod.mk.injEq, true_and, rB, rBn, rBa, rBb, rBc, rBd, Evk_v, Evk_n, Nat.reduceAdd, Nat.reduceLeDiff, Nat.le_refl, Nat.zero_le, cz_0, cz_1, cI_1, cO_1, cz_2, cI_2, cO_2, cL_2, cD_2, cz_3, cI_3, cO_3, cL_3, cD_3, cz_4, cI_4, cO_4, cL_4, cD_4, cz_5, cI_5, cO_5, cL_5, cD_5, cz_6, cI_6, cO_6, cL_6, cD_6, cz_7, cI_7, cO_7, cL_7, cD_7, cz_8, cI_8, cO_8, cL_8, cD_8, c1_I, c1_O, List.mem_cons, or_true, true_or, and_self, sI_S, sL_S, sR_S, sD_S, gb_S, sI_R, sL_R, sD_R, gb_R, sI_L, sR_I, sR_L, sL_I, sD_I, sD_L, gb_I, gb_L, oN, hge, pk, pb, m1, bI_0, iN_lt (show pcn (iN b') < 2147483648 by omega) (show pcn (iN k) < 2147483648 by omega), iN_inj (show pcn (iN k) < 2147483648 by omega) (show pcn (iN b') < 2147483648 by omega), if_true, if_false, not_true_eq_false, not_false_eq_true, Bool.false_eq_true, Int32.or_zero, ne_eq, Bool.and_eq_true, decide_eq_true_eq, decide_true, decide_false, and_true, true_and, and_false, false_and, Bool.and_true, Bool.true_and, Bool.and_false, Bool.false_and]
        unfold skb
        by_cases w1 : pcn (iN b') < pcn (iN k)
        · simp [w1]
        · by_cases w2 : pcn (iN k) = pcn (iN b')
          · by_cases w3 : frb (iN k) (iN b') = true
            · simp [w2, w3]
            · simp [w2, w3]
          · simp [w1, w2]
    have s2 : ∀ x : Int32, Ev (d + 5) 192 25 [some (vR (20, 0, 0)), some (vI (iN j)), some (vI (x)), some (vI (iN k))] [] h = if mon P j < pcn (iN k) + pcn (P.1 11 j) ∧ ¬ k = 0 then Ev (d + 5) 192 102 [some (vR (20, 0, 0)), some (vI (iN j)), some (vI (x)), some (vI (iN k))] [] h else Ev (d + 5) 192 54 [some (vR (20, 0, 0)), some (vI (iN j)), some (vI (x)), some (vI (iN k))] [] h := fun x => by
      rw [v192_25]
      simp only [v192_0, v192_1, v192_2, v192_3, v192_5, v192_6, v192_7, v192_10, v192_11, v192_14, v192_15, v192_16, v192_19, v192_20, v192_21, v192_22, v192_26, v192_29, v192_30, v192_33, v192_34, v192_35, v192_38, v192_39, v192_40, v192_41, v192_44, v192_47, v192_48, v192_51, v192_55, v192_58, v192_59, v192_62, v192_63, v192_66, v192_69, v192_70, v192_73, v192_74, v192_77, v192_80, v192_81, v192_82, v192_85, v192_88, v192_92, v192_93, v192_94, v192_97, v192_100, v192_101, v192_105, v192_108, v192_109, n_14, n_8, inB_of, Nat.reduceLT, Prod.mk.injEq, true_and, rB, rBn, rBa, rBb, rBc, rBd, Evk_v, Evk_n, Nat.reduceAdd, Nat.reduceLeDiff, Nat.le_refl, Nat.zero_le, cz_0, cz_1, cI_1, cO_1, cz_2, cI_2, cO_2, cL_2, cD_2, cz_3, cI_3, cO_3, cL_3, cD_3, cz_4, cI_4, cO_4, cL_4, cD_4, cz_5, cI_5, cO_5, cL_5, cD_5, cz_6, cI_6, cO_6, cL_6, cD_6, cz_7, cI_7, cO_7, cL_7, cD_7, cz_8, cI_8, cO_8, cL_8, cD_8, c1_I, c1_O, List.mem_cons, or_true, true_or, and_self, sI_S, sL_S, sR_S, sD_S, gb_S, sI_R, sL_R, sD_R, gb_R, sI_L, sR_I, sR_L, sL_I, sD_I, sD_L, gb_I, gb_L, y_S20 hL, y_M_rank hL, y_M_fields hL, y_M_home hL, y_M_limit hL, y_M_conflicts hL, y_M_busy hL, y_M_kind hL, y_M_field hL, y_M_department hL, y_M_supervisor hL, y_M_stage hL, y_M_members hL, y_M_room hL, y_M_dayOf hL, y_M_hourOf hL, y_M_line hL, y_F_rank hL, y_F_fields hL, y_F_home hL, y_F_limit hL, y_F_conflicts hL, y_F_busy hL, y_F_kind hL, y_F_field hL, y_F_department hL, y_F_supervisor hL, y_F_stage hL, y_F_members hL, y_F_room hL, y_F_dayOf hL, y_F_hourOf hL, y_F_line hL, m_rk hM, m_fl hM, m_dp hM, m_lm hM, m_cf hM, m_kd hM, m_fd hM, m_de hM, m_sv hM, m_st hM, m_mb hM, m_rm hM, m_dy hM, m_hr hM, m_pc hM, m_tc hM, m_wc hM, m_td hM, m_lo hM, hj, hj8, pk, pm, m154 hL hM hW hj, iN_add, q1, q2, ite_not, iteAN]
    have s1 : ∀ x : Int32, Ev (d + 5) 192 4 [some (vR (20, 0, 0)), some (vI (iN j)), some (vI (x)), some (vI (iN k))] [] h = if iN k &&& P.1 11 j = 0 then Ev (d + 5) 192 25 [some (vR (20, 0, 0)), some (vI (iN j)), some (vI (x)), some (vI (iN k))] [] h else Ev (d + 5) 192 102 [some (vR (20, 0, 0)), some (vI (iN j)), some (vI (x)), some (vI (iN k))] [] h := fun x => by
      rw [v192_4]
      simp only [v192_0, v192_1, v192_2, v192_3, v192_5, v192_6, v192_7, v192_10, v192_11, v192_14, v192_15, v192_16, v192_19, v192_20, v192_21, v192_22, v192_26, v192_29, v192_30, v192_33, v192_34, v192_35, v192_38, v192_39, v192_40, v192_41, v192_44, v192_47, v192_48, v192_51, v192_55, v192_58, v192_59, v192_62, v192_63, v192_66, v192_69, v192_70, v192_73, v192_74, v192_77, v192_80, v192_81, v192_82, v192_85, v192_88, v192_92, v192_93, v192_94, v192_97, v192_100, v192_101, v192_105, v192_108, v192_109, n_14, n_8, inB_of, Nat.reduceLT, Prod.mk.injEq, true_and, rB, rBn, rBa, rBb, rBc, rBd, Evk_v, Evk_n, Nat.reduceAdd, Nat.reduceLeDiff, Nat.le_refl, Nat.zero_le, cz_0, cz_1, cI_1, cO_1, cz_2, cI_2, cO_2, cL_2, cD_2, cz_3, cI_3, cO_3, cL_3, cD_3, cz_4, cI_4, cO_4, cL_4, cD_4, cz_5, cI_5, cO_5, cL_5, cD_5, cz_6, cI_6, cO_6, cL_6, cD_6, cz_7, cI_7, cO_7, cL_7, cD_7, cz_8, cI_8, cO_8, cL_8, cD_8, c1_I, c1_O, List.mem_cons, or_true, true_or, and_self, sI_S, sL_S, sR_S, sD_S, gb_S, sI_R, sL_R, sD_R, gb_R, sI_L, sR_I, sR_L, sL_I, sD_I, sD_L, gb_I, gb_L, y_S20 hL, y_M_rank hL, y_M_fields hL, y_M_home hL, y_M_limit hL, y_M_conflicts hL, y_M_busy hL, y_M_kind hL, y_M_field hL, y_M_department hL, y_M_supervisor hL, y_M_stage hL, y_M_members hL, y_M_room hL, y_M_dayOf hL, y_M_hourOf hL, y_M_line hL, y_F_rank hL, y_F_fields hL, y_F_home hL, y_F_limit hL, y_F_conflicts hL, y_F_busy hL, y_F_kind hL, y_F_field hL, y_F_department hL, y_F_supervisor hL, y_F_stage hL, y_F_members hL, y_F_room hL, y_F_dayOf hL, y_F_hourOf hL, y_F_line hL, m_rk hM, m_fl hM, m_dp hM, m_lm hM, m_cf hM, m_kd hM, m_fd hM, m_de hM, m_sv hM, m_st hM, m_mb hM, m_rm hM, m_dy hM, m_hr hM, m_pc hM, m_tc hM, m_wc hM, m_td hM, m_lo hM, hj, hj8, show (1 : Int32) <<< (iN (pn P) &&& 31) = iN (2 ^ pn P) from b1_pow _ h14, if_neg hnl]
    rw [s1, s2, s3, s4, s5, s5, bst_s]
    by_cases y1 : iN k &&& P.1 11 j = 0
    · by_cases y2 : mon P j < pcn (iN k) + pcn (P.1 11 j) ∧ ¬ k = 0
      · rw [if_pos y1, if_pos y2, if_neg (not_not_intro y1), if_pos y2]
      · by_cases y3 : skb k (bst P j k) = true
        · rw [if_pos y1, if_neg y2, if_pos y3, if_neg (not_not_intro y1), if_neg y2, if_pos y3]
        · by_cases y4 : dcp P j (iN k) = true
          · rw [if_pos y1, if_neg y2, if_neg y3, if_pos y4, if_neg (not_not_intro y1), if_neg y2, if_neg y3, if_pos y4]; rfl
          · rw [if_pos y1, if_neg y2, if_neg y3, if_neg y4, if_neg (not_not_intro y1), if_neg y2, if_neg y3, if_neg y4]
    · rw [if_neg y1, if_pos y1])
  obtain ⟨_, rfl, e⟩ := lp _ rfl
  simp only [v192_0, v192_1, v192_2, v192_3, v192_5, v192_6, v192_7, v192_10, v192_11, v192_14, v192_15, v192_16, v192_19, v192_20, v192_21, v192_22, v192_25, v192_26, v192_29, v192_30, v192_33, v192_34, v192_35, v192_38, v192_39, v192_40, v192_41, v192_44, v192_47, v192_48, v192_51, v192_54, v192_55, v192_58, v192_59, v192_62, v192_63, v192_66, v192_69, v192_70, v192_73, v192_74, v192_77, v192_80, v192_81, v192_82, v192_85, v192_88, v192_91, v192_92, v192_93, v192_94, v192_97, v192_100, v192_101, v192_102, v192_105, v192_108, v192_109, n_14, n_8, inB_of, Nat.reduceLT, Prod.mk.injEq, true_and, rB, rBn, rBa, rBb, rBc, rBd, Evk_v, Evk_n, Nat.reduceAdd, Nat.reduceLeDiff, Nat.le_refl, Nat.zero_le, cz_0, cz_1, cI_1, cO_1, cz_2, cI_2, cO_2, cL_2, cD_2, cz_3, cI_3, cO_3, cL_3, cD_3, cz_4, cI_4, cO_4, cL_4, cD_4, cz_5, cI_5, cO_5, cL_5, cD_5, cz_6, cI_6, cO_6, cL_6, cD_6, cz_7, cI_7, cO_7, cL_7, cD_7, cz_8, cI_8, cO_8, cL_8, cD_8, c1_I, c1_O, List.mem_cons, or_true, true_or, and_self, sI_S, sL_S, sR_S, sD_S, gb_S, sI_R, sL_R, sD_R, gb_R, sI_L, sR_I, sR_L, sL_I, sD_I, sD_L, gb_I, gb_L]
  refine Eq.trans e ?_
  show Ev (d + 5) 192 4 _ [] h = _
  rw [v192_4]
  simp only [v192_0, v192_1, v192_2, v192_3, v192_5, v192_6, v192_7, v192_10, v192_11, v192_14, v192_15, v192_16, v192_19, v192_20, v192_21, v192_22, v192_25, v192_26, v192_29, v192_30, v192_33, v192_34, v192_35, v192_38, v192_39, v192_40, v192_41, v192_44, v192_47, v192_48, v192_51, v192_54, v192_55, v192_58, v192_59, v192_62, v192_63, v192_66, v192_69, v192_70, v192_73, v192_74, v192_77, v192_80, v192_81, v192_82, v192_85, v192_88, v192_91, v192_92, v192_93, v192_94, v192_97, v192_100, v192_101, v192_102, v192_105, v192_108, v192_109, n_14, n_8, inB_of, Nat.reduceLT, Prod.mk.injEq, true_and, rB, rBn, rBa, rBb, rBc, rBd, Evk_v, Evk_n, Nat.reduceAdd, Nat.reduceLeDiff, Nat.le_refl, Nat.zero_le, cz_0, cz_1, cI_1, cO_1, cz_2, cI_2, cO_2, cL_2, cD_2, cz_3, cI_3, cO_3, cL_3, cD_3, cz_4, cI_4, cO_4, cL_4, cD_4, cz_5, cI_5, cO_5, cL_5, cD_5, cz_6, cI_6, cO_6, cL_6, cD_6, cz_7, cI_7, cO_7, cL_7, cD_7, cz_8, cI_8, cO_8, cL_8, cD_8, c1_I, c1_O, List.mem_cons, or_true, true_or, and_self, sI_S, sL_S, sR_S, sD_S, gb_S, sI_R, sL_R, sD_R, gb_R, sI_L, sR_I, sR_L, sL_I, sD_I, sD_L, gb_I, gb_L, y_S20 hL, y_M_rank hL, y_M_fields hL, y_M_home hL, y_M_limit hL, y_M_conflicts hL, y_M_busy hL, y_M_kind hL, y_M_field hL, y_M_department hL, y_M_supervisor hL, y_M_stage hL, y_M_members hL, y_M_room hL, y_M_dayOf hL, y_M_hourOf hL, y_M_line hL, y_F_rank hL, y_F_fields hL, y_F_home hL, y_F_limit hL, y_F_conflicts hL, y_F_busy hL, y_F_kind hL, y_F_field hL, y_F_department hL, y_F_supervisor hL, y_F_stage hL, y_F_members hL, y_F_room hL, y_F_dayOf hL, y_F_hourOf hL, y_F_line hL, m_rk hM, m_fl hM, m_dp hM, m_lm hM, m_cf hM, m_kd hM, m_fd hM, m_de hM, m_sv hM, m_st hM, m_mb hM, m_rm hM, m_dy hM, m_hr hM, m_pc hM, m_tc hM, m_wc hM, m_td hM, m_lo hM, show (1 : Int32) <<< (iN (pn P) &&& 31) = iN (2 ^ pn P) from b1_pow _ h14, if_pos (Int32.le_refl (iN (2 ^ pn P)))]
end MComp
