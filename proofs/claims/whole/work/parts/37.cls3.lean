/-! THE CLASS'S PLAN: what it answers, on -/

def ffd (P : PL) (i t : Nat) : Option Nat := fnd (fun k => decide (htk P i (t + k) 8 = 0)) (401 - t)
def cjn (P : PL) (j : Nat) (s : Int32) (i : Nat) : Bool := decide (why P j i s = 0)
theorem cjn_t {P : PL} {j i : Nat} {s : Int32} : (why P j i s = 0) = (cjn P j s i = true) := (propext decide_eq_true_iff).symm
def pjn (P : PL) (j : Nat) (s : Int32) : Int32 := stf (cjn P j s) (pn P)
def rpl (P : PL) (j m : Nat) : Int32 := stf (fun i => bt (pjn P j (P.1 11 j &&& (b1 m ^^^ -1)) &&& (b1 m ^^^ -1)) i && hld P j (P.1 11 j &&& (b1 m ^^^ -1) ||| b1 i)) 14
/-- why a thesis has no defence at a place, 0 if it can have it -/
def wat (P : PL) (j r d u : Nat) : Int32 :=
  if dfd P j then 8 else
  if ¬ hld P j (P.1 11 j) = true then 9 else
  if ¬ hrm P r d j &&& msk u = 0 then 10 else
  if ¬ hmb P j d &&& msk u = 0 then 11 else
  if iN d < fdy P j then 12 else 0
def fts (P : PL) (j d u r : Nat) : Bool := decide (hmb P j d &&& msk u = 0) && decide (hrm P r d j &&& msk u = 0)
def eto (P : PL) (j d : Nat) : Option Nat := match fnd (fun u => (fnd (fts P j d u) 3).isSome) 7 with
  | none => none
  | some u => match fnd (fts P j d u) 3 with
    | none => none
    | some r => some (10 * u + r)
def oN (o : Option Nat) : Int32 := match o with
  | none => -1
  | some k => iN k
def fdn (P : PL) (j : Nat) : Nat := (fdy P j).toNatClampNeg
def ear (P : PL) (j : Nat) : Option Nat := if dfd P j ∨ ¬ hld P j (P.1 11 j) = true then none else match fnd (fun k => (eto P j (fdn P j + k)).isSome) (401 - fdn P j) with
  | none => none
  | some k => match eto P j (fdn P j + k) with
    | none => none
    | some t => some (100 * (fdn P j + k) + t)
def irm (P : PL) (r d u : Nat) : Option Nat := fnd (fun t => decide (P.1 12 t = iN r) && bt (hon P t (iN d)) u) 8
abbrev cgo (P : PL) (j : Nat) : Prop := (pld P j ∧ ¬ dfd P j) ∧ (P.1 10 j + 1 < 4 ∨ P.1 13 j = P.1 16 0)
def urg (P : PL) : Nat → Int32
  | 0 => -1
  | k + 1 => if pld P k ∧ ¬ dfd P k then (if urg P k = -1 then ndl P k - P.1 16 0 else if ndl P k - P.1 16 0 < urg P k then ndl P k - P.1 16 0 else urg P k) else urg P k
def pil (P : PL) (j : Nat) : Option Nat := fnd (fun k => decide (P.1 15 k = iN j)) (wn P)
section Cls3
variable {L : Nat} {xs : Nat → Int32} {h : Hp} {p : Nat} {P : PL} {d : Nat}
theorem m38 (hL : Lay L xs h) (hC : Cls h p P) (hp : p < 9) {i t : Nat} (hi : i < 14) (ht : t ≤ 400) (hT : P.1 16 0 = iN t) : Ev (d + 2) 38 0 [some (vR (2, p, 0)), some (vR (3, p, i)), none] [] h = some (.inl (some (vI (oN ((ffd P i t).map (t + ·))))), h) := by
  have lp := loopF (σ := LS3) (E := fun ls => Ev (d + 2) 38 5 ls [] h) (I := fun k ls => ls = [some (vR (2, p, 0)), some (vR (3, p, i)), some (vI (iN (t + k)))]) (n := 401 - t) (c := fun k => decide (htk P i (t + k) 8 = 0)) (r := fun k => some (.inl (some (vI (iN (t + k)))), h)) (by
    rintro k hk ls rfl
    have hnl : ¬ ((400 : Int32) < iN (t + k)) := nlt32' (ile (n := 400) (by omega) (by decide))
    refine ⟨fun z => ?_, fun z => ⟨_, rfl, ?_⟩⟩
    · rw [dect] at z
      show Ev (d + 2) 38 5 _ [] h = _
      rw [v38_5]
      simp only [v38_0, v38_1, v38_4, v38_6, v38_9, v38_12, v38_13, v38_14, v38_15, v38_16, v38_19, v38_22, v38_23, v38_24, v38_27, v38_30, v38_31, n_14, n_8, inB_of, Nat.reduceLT, Prod.mk.injEq, true_and, rB, rBn, rBa, rBb, rBc, rBd, Evk_v, Evk_n, Nat.reduceAdd, Nat.reduceLeDiff, Nat.le_refl, Nat.zero_le, cz_0, cz_1, cI_1, cO_1, cz_2, cI_2, cO_2, cL_2, cD_2, cz_3, cI_3, cO_3, cL_3, cD_3, cz_4, cI_4, cO_4, cL_4, cD_4, cz_5, cI_5, cO_5, cL_5, cD_5, cz_6, cI_6, cO_6, cL_6, cD_6, cz_7, cI_7, cO_7, cL_7, cD_7, cz_8, cI_8, cO_8, cL_8, cD_8, c1_I, c1_O, List.mem_cons, or_true, true_or, and_self, sI_S, sL_S, sR_S, sD_S, gb_S, sI_R, sL_R, sD_R, gb_R, sI_L, sR_I, sR_L, sL_I, sD_I, sD_L, gb_I, gb_L, y_S1 hL, y_S2 hL, y_S3 hL, y_S4 hL, y_S5 hL, y_S6 hL, y_S7 hL, y_S8 hL, y_S9 hL, y_S10 hL, y_S11 hL, y_S12 hL, y_S13 hL, y_S14 hL, y_S15 hL, y_R1_0 hL, y_R1_1 hL, y_R1_2 hL, y_R1_3 hL, y_R1_4 hL, y_R2_0 hL, y_R2_1 hL, y_R2_2 hL, y_R3 hL, y_R6 hL, y_R7 hL, y_R9 hL, y_R10 hL, y_R11_0 hL, y_R11_1 hL, y_R14 hL, k_nu hC, k_rk hC, k_fl hC, k_dp hC, k_lm hC, k_cf hC, t_nu hC, t_kd hC, t_fd hC, t_dp hC, t_sv hC, t_st hC, t_mb hC, t_rm hC, t_dy hC, t_hr hC, p_pc hC, p_tc hC, p_wc hC, p_td hC, p_lo hC, hp, hi, if_neg hnl, m37n hL hC hp hi (show t + k < 401 by omega), z, if_true]
    · rw [decf] at z
      show Ev (d + 2) 38 5 _ [] h = Ev (d + 2) 38 5 _ [] h
      rw [v38_5]
      simp only [v38_0, v38_1, v38_4, v38_6, v38_9, v38_12, v38_13, v38_14, v38_15, v38_16, v38_19, v38_22, v38_23, v38_24, v38_27, v38_30, v38_31, n_14, n_8, inB_of, Nat.reduceLT, Prod.mk.injEq, true_and, rB, rBn, rBa, rBb, rBc, rBd, Evk_v, Evk_n, Nat.reduceAdd, Nat.reduceLeDiff, Nat.le_refl, Nat.zero_le, cz_0, cz_1, cI_1, cO_1, cz_2, cI_2, cO_2, cL_2, cD_2, cz_3, cI_3, cO_3, cL_3, cD_3, cz_4, cI_4, cO_4, cL_4, cD_4, cz_5, cI_5, cO_5, cL_5, cD_5, cz_6, cI_6, cO_6, cL_6, cD_6, cz_7, cI_7, cO_7, cL_7, cD_7, cz_8, cI_8, cO_8, cL_8, cD_8, c1_I, c1_O, List.mem_cons, or_true, true_or, and_self, sI_S, sL_S, sR_S, sD_S, gb_S, sI_R, sL_R, sD_R, gb_R, sI_L, sR_I, sR_L, sL_I, sD_I, sD_L, gb_I, gb_L, y_S1 hL, y_S2 hL, y_S3 hL, y_S4 hL, y_S5 hL, y_S6 hL, y_S7 hL, y_S8 hL, y_S9 hL, y_S10 hL, y_S11 hL, y_S12 hL, y_S13 hL, y_S14 hL, y_S15 hL, y_R1_0 hL, y_R1_1 hL, y_R1_2 hL, y_R1_3 hL, y_R1_4 hL, y_R2_0 hL, y_R2_1 hL, y_R2_2 hL, y_R3 hL, y_R6 hL, y_R7 hL, y_R9 hL, y_R10 hL, y_R11_0 hL, y_R11_1 hL, y_R14 hL, k_nu hC, k_rk hC, k_fl hC, k_dp hC, k_lm hC, k_cf hC, t_nu hC, t_kd hC, t_fd hC, t_dp hC, t_sv hC, t_st hC, t_mb hC, t_rm hC, t_dy hC, t_hr hC, p_pc hC, p_tc hC, p_wc hC, p_td hC, p_lo hC, hp, hi, if_neg hnl, m37n hL hC hp hi (show t + k < 401 by omega), z, if_false, iN_s]
      rfl)
  obtain ⟨l1, l2⟩ := lp _ rfl
  simp only [v38_0, v38_1, v38_4, v38_6, v38_9, v38_12, v38_13, v38_14, v38_15, v38_16, v38_19, v38_22, v38_23, v38_24, v38_27, v38_30, v38_31, n_14, n_8, inB_of, Nat.reduceLT, Prod.mk.injEq, true_and, rB, rBn, rBa, rBb, rBc, rBd, Evk_v, Evk_n, Nat.reduceAdd, Nat.reduceLeDiff, Nat.le_refl, Nat.zero_le, cz_0, cz_1, cI_1, cO_1, cz_2, cI_2, cO_2, cL_2, cD_2, cz_3, cI_3, cO_3, cL_3, cD_3, cz_4, cI_4, cO_4, cL_4, cD_4, cz_5, cI_5, cO_5, cL_5, cD_5, cz_6, cI_6, cO_6, cL_6, cD_6, cz_7, cI_7, cO_7, cL_7, cD_7, cz_8, cI_8, cO_8, cL_8, cD_8, c1_I, c1_O, List.mem_cons, or_true, true_or, and_self, sI_S, sL_S, sR_S, sD_S, gb_S, sI_R, sL_R, sD_R, gb_R, sI_L, sR_I, sR_L, sL_I, sD_I, sD_L, gb_I, gb_L, y_S1 hL, y_S2 hL, y_S3 hL, y_S4 hL, y_S5 hL, y_S6 hL, y_S7 hL, y_S8 hL, y_S9 hL, y_S10 hL, y_S11 hL, y_S12 hL, y_S13 hL, y_S14 hL, y_S15 hL, y_R1_0 hL, y_R1_1 hL, y_R1_2 hL, y_R1_3 hL, y_R1_4 hL, y_R2_0 hL, y_R2_1 hL, y_R2_2 hL, y_R3 hL, y_R6 hL, y_R7 hL, y_R9 hL, y_R10 hL, y_R11_0 hL, y_R11_1 hL, y_R14 hL, k_nu hC, k_rk hC, k_fl hC, k_dp hC, k_lm hC, k_cf hC, t_nu hC, t_kd hC, t_fd hC, t_dp hC, t_sv hC, t_st hC, t_mb hC, t_rm hC, t_dy hC, t_hr hC, p_pc hC, p_tc hC, p_wc hC, p_td hC, p_lo hC, hp, hi, hT]
  unfold ffd
  cases e : fnd (fun k => decide (htk P i (t + k) 8 = 0)) (401 - t) with
  | some k => exact l1 k e
  | none =>
    obtain ⟨_, rfl, e2⟩ := l2 e
    refine Eq.trans e2 ?_
    show Ev (d + 2) 38 5 _ [] h = _
    rw [v38_5]
    have hx : (400 : Int32) < iN (t + (401 - t)) := ilt (k := 400) (by omega) (by omega)
    simp only [v38_0, v38_1, v38_4, v38_6, v38_9, v38_12, v38_13, v38_14, v38_15, v38_16, v38_19, v38_22, v38_23, v38_24, v38_27, v38_30, v38_31, n_14, n_8, inB_of, Nat.reduceLT, Prod.mk.injEq, true_and, rB, rBn, rBa, rBb, rBc, rBd, Evk_v, Evk_n, Nat.reduceAdd, Nat.reduceLeDiff, Nat.le_refl, Nat.zero_le, cz_0, cz_1, cI_1, cO_1, cz_2, cI_2, cO_2, cL_2, cD_2, cz_3, cI_3, cO_3, cL_3, cD_3, cz_4, cI_4, cO_4, cL_4, cD_4, cz_5, cI_5, cO_5, cL_5, cD_5, cz_6, cI_6, cO_6, cL_6, cD_6, cz_7, cI_7, cO_7, cL_7, cD_7, cz_8, cI_8, cO_8, cL_8, cD_8, c1_I, c1_O, List.mem_cons, or_true, true_or, and_self, sI_S, sL_S, sR_S, sD_S, gb_S, sI_R, sL_R, sD_R, gb_R, sI_L, sR_I, sR_L, sL_I, sD_I, sD_L, gb_I, gb_L, y_S1 hL, y_S2 hL, y_S3 hL, y_S4 hL, y_S5 hL, y_S6 hL, y_S7 hL, y_S8 hL, y_S9 hL, y_S10 hL, y_S11 hL, y_S12 hL, y_S13 hL, y_S14 hL, y_S15 hL, y_R1_0 hL, y_R1_1 hL, y_R1_2 hL, y_R1_3 hL, y_R1_4 hL, y_R2_0 hL, y_R2_1 hL, y_R2_2 hL, y_R3 hL, y_R6 hL, y_R7 hL, y_R9 hL, y_R10 hL, y_R11_0 hL, y_R11_1 hL, y_R14 hL, k_nu hC, k_rk hC, k_fl hC, k_dp hC, k_lm hC, k_cf hC, t_nu hC, t_kd hC, t_fd hC, t_dp hC, t_sv hC, t_st hC, t_mb hC, t_rm hC, t_dy hC, t_hr hC, p_pc hC, p_tc hC, p_wc hC, p_td hC, p_lo hC, hp, hi, if_pos hx]
    rfl
theorem m40 (hL : Lay L xs h) (hC : Cls h p P) (hp : p < 9) (hW : WF P) {j w : Nat} (hj : j < 8) (hw : w < 5) : Ev (d + 2) 40 0 [some (vR (2, p, 0)), some (vR (5, p, j)), some (vI (iN w)), none] [] h = some (.inl (some (vI (if nq P j w - iN (has P j (P.1 11 j) w) < 0 then 0 else nq P j w - iN (has P j (P.1 11 j) w)))), h) := by
  simp only [v40_0, v40_1, v40_2, v40_3, v40_6, v40_7, v40_10, v40_11, v40_14, v40_15, v40_16, v40_17, v40_20, v40_21, v40_22, v40_23, v40_26, n_14, n_8, inB_of, Nat.reduceLT, Prod.mk.injEq, true_and, rB, rBn, rBa, rBb, rBc, rBd, Evk_v, Evk_n, Nat.reduceAdd, Nat.reduceLeDiff, Nat.le_refl, Nat.zero_le, cz_0, cz_1, cI_1, cO_1, cz_2, cI_2, cO_2, cL_2, cD_2, cz_3, cI_3, cO_3, cL_3, cD_3, cz_4, cI_4, cO_4, cL_4, cD_4, cz_5, cI_5, cO_5, cL_5, cD_5, cz_6, cI_6, cO_6, cL_6, cD_6, cz_7, cI_7, cO_7, cL_7, cD_7, cz_8, cI_8, cO_8, cL_8, cD_8, c1_I, c1_O, List.mem_cons, or_true, true_or, and_self, sI_S, sL_S, sR_S, sD_S, gb_S, sI_R, sL_R, sD_R, gb_R, sI_L, sR_I, sR_L, sL_I, sD_I, sD_L, gb_I, gb_L, y_S1 hL, y_S2 hL, y_S3 hL, y_S4 hL, y_S5 hL, y_S6 hL, y_S7 hL, y_S8 hL, y_S9 hL, y_S10 hL, y_S11 hL, y_S12 hL, y_S13 hL, y_S14 hL, y_S15 hL, y_R1_0 hL, y_R1_1 hL, y_R1_2 hL, y_R1_3 hL, y_R1_4 hL, y_R2_0 hL, y_R2_1 hL, y_R2_2 hL, y_R3 hL, y_R6 hL, y_R7 hL, y_R9 hL, y_R10 hL, y_R11_0 hL, y_R11_1 hL, y_R14 hL, k_nu hC, k_rk hC, k_fl hC, k_dp hC, k_lm hC, k_cf hC, t_nu hC, t_kd hC, t_fd hC, t_dp hC, t_sv hC, t_st hC, t_mb hC, t_rm hC, t_dy hC, t_hr hC, p_pc hC, p_tc hC, p_wc hC, p_td hC, p_lo hC, hp, hj, m39 hL hC hp hj hw, m234, pcn_has, m84 hL hC hp hW hj hw]
theorem sub_cmt {P : PL} {i ex : Nat} : sub 8 (cmt P i ex) := by
  refine sub_orf sub_0 fun k hk => ?_
  unfold cmtf
  split
  · exact sub_b1 hk (by decide)
  · exact sub_0
theorem pl_N {P : PL} (hW : WF P) {j : Nat} (hj : j < 8) (h : pld P j = true) : ∃ r x u, r < 3 ∧ x < 401 ∧ u < 7 ∧ P.1 12 j = iN r ∧ P.1 13 j = iN x ∧ P.1 14 j = iN u := by
  rcases w_pl hW hj with ⟨e, -, -⟩ | z
  · exact absurd e (pld_t.mp h)
  · exact z
theorem m42 (hL : Lay L xs h) (hC : Cls h p P) (hp : p < 9) (hW : WF P) {j i : Nat} {s : Int32} (hj : j < 8) (hi : i < 14) (hs : sub 14 s) : Ev (d + 2) 42 0 [some (vR (2, p, 0)), some (vR (5, p, j)), some (vI s), some (vR (3, p, i))] [] h = some (.inl (some (vI (why P j i s))), h) := by
  have j1 := jbc_eq (sub_le (by decide) (sub_cmt (P := P) (i := i) (ex := j)))
  have j2 := jbc_eq hs
  by_cases zp : pld P j = true
  · obtain ⟨r, x, u, hr, hx, hu, e1, e2, e3⟩ := pl_N hW hj zp
    simp only [v42_0, v42_1, v42_2, v42_5, v42_8, v42_9, v42_10, v42_11, v42_14, v42_15, v42_18, v42_21, v42_22, v42_25, v42_28, v42_29, v42_30, v42_31, v42_34, v42_35, v42_38, v42_39, v42_40, v42_41, v42_44, v42_45, v42_46, v42_47, v42_50, v42_51, v42_52, v42_55, v42_56, v42_57, v42_58, v42_59, v42_60, v42_63, v42_66, v42_67, v42_70, v42_73, v42_74, v42_75, v42_76, v42_79, v42_80, v42_83, v42_86, v42_88, v42_89, v42_90, v42_93, v42_96, v42_97, v42_98, v42_99, v42_102, v42_103, v42_106, v42_107, v42_108, v42_111, v42_112, v42_113, v42_116, v42_118, v42_119, v42_120, v42_123, v42_126, v42_128, v42_131, v42_132, n_14, n_8, inB_of, Nat.reduceLT, Prod.mk.injEq, true_and, rB, rBn, rBa, rBb, rBc, rBd, Evk_v, Evk_n, Nat.reduceAdd, Nat.reduceLeDiff, Nat.le_refl, Nat.zero_le, cz_0, cz_1, cI_1, cO_1, cz_2, cI_2, cO_2, cL_2, cD_2, cz_3, cI_3, cO_3, cL_3, cD_3, cz_4, cI_4, cO_4, cL_4, cD_4, cz_5, cI_5, cO_5, cL_5, cD_5, cz_6, cI_6, cO_6, cL_6, cD_6, cz_7, cI_7, cO_7, cL_7, cD_7, cz_8, cI_8, cO_8, cL_8, cD_8, c1_I, c1_O, List.mem_cons, or_true, true_or, and_self, sI_S, sL_S, sR_S, sD_S, gb_S, sI_R, sL_R, sD_R, gb_R, sI_L, sR_I, sR_L, sL_I, sD_I, sD_L, gb_I, gb_L, y_S1 hL, y_S2 hL, y_S3 hL, y_S4 hL, y_S5 hL, y_S6 hL, y_S7 hL, y_S8 hL, y_S9 hL, y_S10 hL, y_S11 hL, y_S12 hL, y_S13 hL, y_S14 hL, y_S15 hL, y_R1_0 hL, y_R1_1 hL, y_R1_2 hL, y_R1_3 hL, y_R1_4 hL, y_R2_0 hL, y_R2_1 hL, y_R2_2 hL, y_R3 hL, y_R6 hL, y_R7 hL, y_R9 hL, y_R10 hL, y_R11_0 hL, y_R11_1 hL, y_R14 hL, k_nu hC, k_rk hC, k_fl hC, k_dp hC, k_lm hC, k_cf hC, t_nu hC, t_kd hC, t_fd hC, t_dp hC, t_sv hC, t_st hC, t_mb hC, t_rm hC, t_dy hC, t_hr hC, p_pc hC, p_tc hC, p_wc hC, p_td hC, p_lo hC, hp, hj, hi, m25' hL hC hp hi, m35 hL hC hp hi hj, m234, m85 hL hC hp hW hj, m79 hL hC hp hj, m80 hL hC hp hj, bI_0, j1, j2, e2, e3, m37 hL hC hp hi hx hj]
    simp only [why, rI_i, e2, e3, n_i (show x < 2147483648 by omega), n_i (show u < 2147483648 by omega), ite_not, iteAN, iteAO, and1_0, fre, msk, zp, if_true, if_false, not_true_eq_false, not_false_eq_true, Bool.false_eq_true, Int32.or_zero, ne_eq, Bool.and_eq_true, decide_eq_true_eq, decide_true, decide_false, and_true, true_and, and_false, false_and, Bool.and_true, Bool.true_and, Bool.and_false, Bool.false_and]
  · simp only [v42_0, v42_1, v42_2, v42_5, v42_8, v42_9, v42_10, v42_11, v42_14, v42_15, v42_18, v42_21, v42_22, v42_25, v42_28, v42_29, v42_30, v42_31, v42_34, v42_35, v42_38, v42_39, v42_40, v42_41, v42_44, v42_45, v42_46, v42_47, v42_50, v42_51, v42_52, v42_55, v42_56, v42_57, v42_58, v42_59, v42_60, v42_63, v42_66, v42_67, v42_70, v42_73, v42_74, v42_75, v42_76, v42_79, v42_80, v42_83, v42_86, v42_88, v42_89, v42_90, v42_93, v42_96, v42_97, v42_98, v42_99, v42_102, v42_103, v42_106, v42_107, v42_108, v42_111, v42_112, v42_113, v42_116, v42_118, v42_119, v42_120, v42_123, v42_126, v42_128, v42_131, v42_132, n_14, n_8, inB_of, Nat.reduceLT, Prod.mk.injEq, true_and, rB, rBn, rBa, rBb, rBc, rBd, Evk_v, Evk_n, Nat.reduceAdd, Nat.reduceLeDiff, Nat.le_refl, Nat.zero_le, cz_0, cz_1, cI_1, cO_1, cz_2, cI_2, cO_2, cL_2, cD_2, cz_3, cI_3, cO_3, cL_3, cD_3, cz_4, cI_4, cO_4, cL_4, cD_4, cz_5, cI_5, cO_5, cL_5, cD_5, cz_6, cI_6, cO_6, cL_6, cD_6, cz_7, cI_7, cO_7, cL_7, cD_7, cz_8, cI_8, cO_8, cL_8, cD_8, c1_I, c1_O, List.mem_cons, or_true, true_or, and_self, sI_S, sL_S, sR_S, sD_S, gb_S, sI_R, sL_R, sD_R, gb_R, sI_L, sR_I, sR_L, sL_I, sD_I, sD_L, gb_I, gb_L, y_S1 hL, y_S2 hL, y_S3 hL, y_S4 hL, y_S5 hL, y_S6 hL, y_S7 hL, y_S8 hL, y_S9 hL, y_S10 hL, y_S11 hL, y_S12 hL, y_S13 hL, y_S14 hL, y_S15 hL, y_R1_0 hL, y_R1_1 hL, y_R1_2 hL, y_R1_3 hL, y_R1_4 hL, y_R2_0 hL, y_R2_1 hL, y_R2_2 hL, y_R3 hL, y_R6 hL, y_R7 hL, y_R9 hL, y_R10 hL, y_R11_0 hL, y_R11_1 hL, y_R14 hL, k_nu hC, k_rk hC, k_fl hC, k_dp hC, k_lm hC, k_cf hC, t_nu hC, t_kd hC, t_fd hC, t_dp hC, t_sv hC, t_st hC, t_mb hC, t_rm hC, t_dy hC, t_hr hC, p_pc hC, p_tc hC, p_wc hC, p_td hC, p_lo hC, hp, hj, hi, m25' hL hC hp hi, m35 hL hC hp hi hj, m234, m85 hL hC hp hW hj, m79 hL hC hp hj, m80 hL hC hp hj, bI_0, j1, j2, zp]
    simp only [why, rI_i, ite_not, iteAN, iteAO, and1_0, zp, if_true, if_false, not_true_eq_false, not_false_eq_true, Bool.false_eq_true, Int32.or_zero, ne_eq, Bool.and_eq_true, decide_eq_true_eq, decide_true, decide_false, and_true, true_and, and_false, false_and, Bool.and_true, Bool.true_and, Bool.and_false, Bool.false_and]
end Cls3
