/-! CALLS THAT ASK: the mean load -/



def dbl (a b : Nat) : UInt64 := FP.ddiv (FP.i2d (iN a)) (FP.i2d (iN b))
abbrev dOk (v : UInt64) : Prop := v &&& 0x7fffffffffffffff ≤ 0x7ff0000000000000 ∧ Op.cmpValue (FP.dcmp v v) .l = 0
set_option maxRecDepth 100000 in
theorem dbl_ok : ∀ b, b < 14 → ∀ a, a < 113 → dOk (dbl a (b + 1)) := by decide +kernel
theorem dbl_0 : Op.cmpValue (FP.dcmp FP.dconst0 FP.dconst0) .l = 0 := by decide +kernel
/-- meanLoad: wrapper 272 and model 216 agree -/
def Agf (L : Nat) (xs : Nat → Int32) (d : Nat) (h : Hp) : Prop := ∃ k v h1 h2, Ev d 272 0 [some (vR (1, 0, 0)), some (vR (31, 0, 0)), none] [] h = some (.inl (some (vI k)), h1) ∧ Ev d 216 0 [some (vR (20, 0, 0)), none, none] [] h1 = some (.inl (some (vD v)), h2) ∧ gI h2 (20, 0, 0) 0 = k ∧ (k = 0 → gD h2 (31, 0, 0) 0 = v ∧ Op.cmpValue (FP.dcmp v v) .l = 0) ∧ Inv L xs h2 ∧ cnt h2 = cnt h ∧ cu h2 ≤ cu h + 1 ∧ su h2 ≤ su h + 6
section T9
variable {L : Nat} {xs : Nat → Int32} {h h' h1 : Hp} {p : Nat} {P P' Q : PL} {H H' : HS} {X X' : XS} {d : Nat}
theorem r123_37 {ls : LS3} {st : List MV} {x y : UInt64} (hy : FP.ddiv x y &&& 0x7fffffffffffffff ≤ 0x7ff0000000000000) : Ev d 123 37 ls (vD y :: vD x :: st) h = Ev d 123 38 ls (vD (FP.ddiv x y) :: st) h := Rnx hB_123 dX6_meanLoad_37 (by show (if FP.ddiv x y &&& 0x7fffffffffffffff ≤ 0x7ff0000000000000 then nx (37 + 1) ls (vD (FP.ddiv x y) :: st) h else none) = _; rw [if_pos hy]; rfl)
theorem r216_60 {ls : LS3} {st : List MV} {x y : UInt64} (hy : FP.ddiv x y &&& 0x7fffffffffffffff ≤ 0x7ff0000000000000) : Ev d 216 60 ls (vD y :: vD x :: st) h = Ev d 216 61 ls (vD (FP.ddiv x y) :: st) h := Rnx hB_216 dX7_meanLoad_60 (by show (if FP.ddiv x y &&& 0x7fffffffffffffff ≤ 0x7ff0000000000000 then nx (60 + 1) ls (vD (FP.ddiv x y) :: st) h else none) = _; rw [if_pos hy]; rfl)
theorem sD_Dx {h : Hp} {a b : A3} {k j : Nat} {v : UInt64} : gD (sD h a k v) b j = if b = a ∧ j = k then v else gD h b j := by
  show fup h.2.2.2.2.1 a (vf_upd (h.2.2.2.2.1 a) k v) b j = if b = a ∧ j = k then v else h.2.2.2.2.1 b j
  by_cases e1 : b = a
  · subst e1
    by_cases e2 : j = k
    · simp [fup, vf_upd, e2]
    · simp [fup, vf_upd, e2]
  · simp [fup, e1]
theorem cn_smf {c : Nat → Bool} {n : Nat} : cn c n = smf (fun t => (c t).toNat) n := by
  induction n with
  | zero => rfl
  | succ n ih => rw [cn_s, smf_s, ih]
theorem smf_0 {n : Nat} : smf (fun _ => 0) n = 0 := by
  induction n with
  | zero => rfl
  | succ n ih => rw [smf_s, ih]
theorem smf_ad {f g : Nat → Nat} {n : Nat} : smf (fun t => f t + g t) n = smf f n + smf g n := by
  induction n with
  | zero => rfl
  | succ n ih => rw [smf_s, smf_s, smf_s, ih]; omega
theorem smf_x {f : Nat → Nat → Nat} {m n : Nat} : smf (fun i => smf (f i) n) m = smf (fun t => smf (fun i => f i t) m) n := by
  induction m with
  | zero => exact smf_0.symm
  | succ m ih =>
    rw [smf_s, ih, ← smf_ad]
    rfl
theorem ld_eq (hW : WF P) : smf (fun i => cn (ldf P i) (tn P)) (pn P) = smf (ldn P) 8 := by
  have h8 := w_tn hW
  have h14 := w_pn hW
  rw [smf_congr (g := fun i => smf (fun t => (ldf P i t).toNat) (tn P)) (fun k _ => cn_smf), smf_x, smf_ext (f := ldn P) h8 (fun k h1 h2 => by
    unfold ldn mbn
    rw [(w_t0 hW h1 h2).2.2.2.2.2.1, pcn_z]
    split <;> rfl)]
  refine smf_congr fun t ht => ?_
  rw [← cn_smf]
  unfold ldn mbn pcn
  by_cases z : dfd P t = true
  · rw [if_pos z, cn_congr (e := fun _ => false) (fun k _ => by unfold ldf; rw [z]; simp)]
    exact cn_f
  · rw [if_neg z, cn_ext (c := fun i => bt (P.1 11 t) i) h14 (fun k h1 h2 => eq_false_of_ne_true (w_mb hW (by omega) k h1 (by omega)))]
    exact cn_congr fun k _ => by unfold ldf; rw [eq_false_of_ne_true z]; simp
theorem ldn_le : smf (ldn P) 8 < 113 := by
  have := smf_le (f := ldn P) (n := 8) (b := 14) fun k _ => by
    unfold ldn mbn
    split
    · exact Nat.zero_le _
    · exact pcn_le
  omega
theorem c31 (hL : Lay L xs h) (c : CI h P H X) (mi : MI h P H X) (wi : WI P H X) : Agf L xs (d + 20) h := by
  have hC := c.1; have hW := wi.1.1; have hp : 0 < 9 := Nat.zero_lt_succ 8; have h14 := w_pn hW; have h8 := w_tn hW
  have hS31 := y_S31 hL
  by_cases hz : pn P = 0
  · have ez : iN (pn P) = 0 := by rw [hz]; rfl
    have e1 : Ev (d + 19) 123 0 [some (vR (1, 0, 0))] [] h = some (.inr 5, gb h) := by
      simp only [v123_0, v123_1, v123_4, v123_7, v123_10, v123_13, v123_21, v123_22, v123_25, v123_28, v123_29, v123_30, v123_33, v123_36, n_14, n_8, inB_of, Nat.reduceLT, Prod.mk.injEq, true_and, rB, rBn, rBa, rBb, rBc, rBd, Evk_v, Evk_n, Nat.reduceAdd, Nat.reduceLeDiff, Nat.le_refl, Nat.zero_le, cz_0, cz_1, cI_1, cO_1, cz_2, cI_2, cO_2, cL_2, cD_2, cz_3, cI_3, cO_3, cL_3, cD_3, cz_4, cI_4, cO_4, cL_4, cD_4, cz_5, cI_5, cO_5, cL_5, cD_5, cz_6, cI_6, cO_6, cL_6, cD_6, cz_7, cI_7, cO_7, cL_7, cD_7, cz_8, cI_8, cO_8, cL_8, cD_8, List.mem_cons, or_true, true_or, and_self, sI_S, sL_S, sR_S, sD_S, gb_S, sI_R, sL_R, sD_R, gb_R, sI_L, sR_I, sR_L, sL_I, sD_I, sD_L, gb_I, gb_L, y_S1 hL, y_S2 hL, y_S3 hL, y_S4 hL, y_S5 hL, y_S6 hL, y_S7 hL, y_S8 hL, y_S9 hL, y_S10 hL, y_S11 hL, y_S12 hL, y_S13 hL, y_S14 hL, y_S15 hL, y_R1_0 hL, y_R1_1 hL, y_R1_2 hL, y_R1_3 hL, y_R1_4 hL, y_R2_0 hL, y_R2_1 hL, y_R2_2 hL, y_R3 hL, y_R6 hL, y_R7 hL, y_R9 hL, y_R10 hL, y_R11_0 hL, y_R11_1 hL, y_R14 hL, k_nu hC, k_rk hC, k_fl hC, k_dp hC, k_lm hC, k_cf hC, t_nu hC, t_kd hC, t_fd hC, t_dp hC, t_sv hC, t_st hC, t_mb hC, t_rm hC, t_dy hC, t_hr hC, p_pc hC, p_tc hC, p_wc hC, p_td hC, p_lo hC, hp, ez, if_true]
    have e2 : Ev (d + 20) 216 0 [some (vR (20, 0, 0)), none, none] [] (gb h) = some (.inl (some (vD FP.dconst0)), sI (gb h) (20, 0, 0) 0 1) := by
      have hLg : Lay L xs (gb h) := Lay_gb hL
      have hL0 := Lay_sI (a := (20, 0, 0)) (m := 0) (v := 1) hLg (Nat.le_of_ble_eq_true rfl)
      have e7 : gI (gb h) (20, 0, 0) 7 = 0 := (m_pc mi.1).trans ez
      have l0 : (0 : Int32) ≤ 0 := Int32.le_refl _
      simp only [v216_0, v216_1, v216_2, v216_5, v216_8, v216_9, v216_12, v216_13, v216_16, v216_17, v216_18, v216_19, v216_20, v216_21, v216_22, v216_25, v216_28, v216_29, v216_30, v216_31, v216_34, v216_35, v216_36, v216_39, v216_42, v216_43, v216_46, v216_49, v216_50, v216_53, v216_54, v216_55, v216_56, v216_59, v216_61, n_14, n_8, inB_of, Nat.reduceLT, Prod.mk.injEq, true_and, rB, rBn, rBa, rBb, rBc, rBd, Evk_v, Evk_n, Nat.reduceAdd, Nat.reduceLeDiff, Nat.le_refl, Nat.zero_le, cz_0, cz_1, cI_1, cO_1, cz_2, cI_2, cO_2, cL_2, cD_2, cz_3, cI_3, cO_3, cL_3, cD_3, cz_4, cI_4, cO_4, cL_4, cD_4, cz_5, cI_5, cO_5, cL_5, cD_5, cz_6, cI_6, cO_6, cL_6, cD_6, cz_7, cI_7, cO_7, cL_7, cD_7, cz_8, cI_8, cO_8, cL_8, cD_8, List.mem_cons, or_true, true_or, and_self, sI_S, sL_S, sR_S, sD_S, gb_S, sI_R, sL_R, sD_R, gb_R, sI_L, sR_I, sR_L, sL_I, sD_I, sD_L, gb_I, gb_L, y_S20 hLg, y_S20 hL0, e7, sI_I, Nat.reduceEqDiff, and_false, false_and, if_false, if_pos l0, c1_It, c1_Ot, bI_T, bI_F, i10, i01, if_true, if_false, not_true_eq_false, not_false_eq_true, Bool.false_eq_true, Int32.or_zero, ne_eq, Bool.and_eq_true, decide_eq_true_eq, decide_true, decide_false, and_true, true_and, and_false, false_and, Bool.and_true, Bool.true_and, Bool.and_false, Bool.false_and]
    refine ⟨1, FP.dconst0, _, _, w272_5 (y_S1 hL) e1, e2, by rw [sI_I, if_pos ⟨rfl, rfl⟩], fun z => absurd z (by decide), ⟨Lay_sI (Lay_gb hL) (by decide), P, H, X, CI_ch (CI_gb c) (ch_sI (A := fun a => a = (20, 0, 0)) rfl) (fun a ha z => by have z : a = (20, 0, 0) := z; rw [z] at ha; simp at ha), MI_x (MI_gb mi) (Or.inl rfl), wi⟩, rfl, Nat.le_refl _, Nat.le_refl _⟩
  · have hz1 : ¬ iN (pn P) = 0 := fun q => hz ((iN_inj (b := 0) (show pn P < 2147483648 by omega) (by decide)).mp q)
    have ok : dOk (dbl (smf (ldn P) 8) (pn P)) := by
      have := dbl_ok (pn P - 1) (by omega) (smf (ldn P) 8) ldn_le
      rwa [show pn P - 1 + 1 = pn P by omega] at this
    have ok1 : FP.ddiv (FP.i2d (iN (smf (ldn P) 8))) (FP.i2d (iN (pn P))) &&& 0x7fffffffffffffff ≤ 0x7ff0000000000000 := ok.1
    have e1 : Ev (d + 19) 123 0 [some (vR (1, 0, 0))] [] h = some (.inl (some (vD (dbl (smf (ldn P) 8) (pn P)))), h) := by
      simp only [v123_0, v123_1, v123_4, v123_7, v123_10, v123_13, v123_21, v123_22, v123_25, v123_28, v123_29, v123_30, v123_33, v123_36, v123_38, r123_37 ok1, n_14, n_8, inB_of, Nat.reduceLT, Prod.mk.injEq, true_and, rB, rBn, rBa, rBb, rBc, rBd, Evk_v, Evk_n, Nat.reduceAdd, Nat.reduceLeDiff, Nat.le_refl, Nat.zero_le, cz_0, cz_1, cI_1, cO_1, cz_2, cI_2, cO_2, cL_2, cD_2, cz_3, cI_3, cO_3, cL_3, cD_3, cz_4, cI_4, cO_4, cL_4, cD_4, cz_5, cI_5, cO_5, cL_5, cD_5, cz_6, cI_6, cO_6, cL_6, cD_6, cz_7, cI_7, cO_7, cL_7, cD_7, cz_8, cI_8, cO_8, cL_8, cD_8, List.mem_cons, or_true, true_or, and_self, sI_S, sL_S, sR_S, sD_S, gb_S, sI_R, sL_R, sD_R, gb_R, sI_L, sR_I, sR_L, sL_I, sD_I, sD_L, gb_I, gb_L, y_S1 hL, y_S2 hL, y_S3 hL, y_S4 hL, y_S5 hL, y_S6 hL, y_S7 hL, y_S8 hL, y_S9 hL, y_S10 hL, y_S11 hL, y_S12 hL, y_S13 hL, y_S14 hL, y_S15 hL, y_R1_0 hL, y_R1_1 hL, y_R1_2 hL, y_R1_3 hL, y_R1_4 hL, y_R2_0 hL, y_R2_1 hL, y_R2_2 hL, y_R3 hL, y_R6 hL, y_R7 hL, y_R9 hL, y_R10 hL, y_R11_0 hL, y_R11_1 hL, y_R14 hL, k_nu hC, k_rk hC, k_fl hC, k_dp hC, k_lm hC, k_cf hC, t_nu hC, t_kd hC, t_fd hC, t_dp hC, t_sv hC, t_st hC, t_mb hC, t_rm hC, t_dy hC, t_hr hC, p_pc hC, p_tc hC, p_wc hC, p_td hC, p_lo hC, hp, if_neg hz1, m66 hL hC hp hW]
      rfl
    have hL1 : Lay L xs (sD h (31, 0, 0) 0 (dbl (smf (ldn P) 8) (pn P))) := Lay_sD hL
    have m1 : MI (sD h (31, 0, 0) 0 (dbl (smf (ldn P) 8) (pn P))) P H X := mi
    have c1 : CI (sD h (31, 0, 0) 0 (dbl (smf (ldn P) 8) (pn P))) P H X := c
    generalize eh : sD h (31, 0, 0) 0 (dbl (smf (ldn P) 8) (pn P)) = hh at *
    have hL0 := Lay_sI (a := (20, 0, 0)) (m := 0) (v := 0) hL1 (Nat.le_of_ble_eq_true rfl)
    have hM0 := mo_x (m := 0) (v := 0) m1.1 (by decide)
    have e7 : gI hh (20, 0, 0) 7 = iN (pn P) := m_pc m1.1
    have lp := loopI (σ := LS3) (E := fun ls => Ev (d + 20) 216 20 ls [] (sI hh (20, 0, 0) 0 0)) (I := fun k ls => ls = [some (vR (20, 0, 0)), some (vI (iN (smf (fun i => cn (ldf P i) (tn P)) k))), some (vI (iN k))]) (n := pn P) (by
      rintro k hk ls rfl
      have hnl : ¬ (iN (pn P) ≤ iN k) := nle hk (by omega)
      refine ⟨_, rfl, ?_⟩
      show Ev (d + 20) 216 20 _ [] _ = Ev (d + 20) 216 20 _ [] _
      rw [v216_20]
      simp only [v216_21, v216_22, v216_25, v216_28, v216_29, v216_30, v216_31, v216_34, v216_35, v216_36, v216_39, n_14, n_8, inB_of, Nat.reduceLT, Prod.mk.injEq, true_and, rB, rBn, rBa, rBb, rBc, rBd, Evk_v, Evk_n, Nat.reduceAdd, Nat.reduceLeDiff, Nat.le_refl, Nat.zero_le, cz_0, cz_1, cI_1, cO_1, cz_2, cI_2, cO_2, cL_2, cD_2, cz_3, cI_3, cO_3, cL_3, cD_3, cz_4, cI_4, cO_4, cL_4, cD_4, cz_5, cI_5, cO_5, cL_5, cD_5, cz_6, cI_6, cO_6, cL_6, cD_6, cz_7, cI_7, cO_7, cL_7, cD_7, cz_8, cI_8, cO_8, cL_8, cD_8, List.mem_cons, or_true, true_or, and_self, sI_S, sL_S, sR_S, sD_S, gb_S, sI_R, sL_R, sD_R, gb_R, sI_L, sR_I, sR_L, sL_I, sD_I, sD_L, gb_I, gb_L, y_S20 hL0, sI_I, e7, Nat.reduceEqDiff, and_false, false_and, if_false, if_neg hnl, m157 hL0 hM0 hW, iN_add, iN_s, smf_s])
    obtain ⟨_, rfl, e⟩ := lp _ rfl
    have e2 : Ev (d + 20) 216 0 [some (vR (20, 0, 0)), none, none] [] hh = some (.inl (some (vD (dbl (smf (ldn P) 8) (pn P)))), sI hh (20, 0, 0) 0 0) := by
      simp only [v216_0, v216_1, v216_2, v216_5, v216_8, v216_9, v216_12, v216_13, v216_16, v216_17, v216_18, v216_19, n_14, n_8, inB_of, Nat.reduceLT, Prod.mk.injEq, true_and, rB, rBn, rBa, rBb, rBc, rBd, Evk_v, Evk_n, Nat.reduceAdd, Nat.reduceLeDiff, Nat.le_refl, Nat.zero_le, cz_0, cz_1, cI_1, cO_1, cz_2, cI_2, cO_2, cL_2, cD_2, cz_3, cI_3, cO_3, cL_3, cD_3, cz_4, cI_4, cO_4, cL_4, cD_4, cz_5, cI_5, cO_5, cL_5, cD_5, cz_6, cI_6, cO_6, cL_6, cD_6, cz_7, cI_7, cO_7, cL_7, cD_7, cz_8, cI_8, cO_8, cL_8, cD_8, List.mem_cons, or_true, true_or, and_self, sI_S, sL_S, sR_S, sD_S, gb_S, sI_R, sL_R, sD_R, gb_R, sI_L, sR_I, sR_L, sL_I, sD_I, sD_L, gb_I, gb_L, y_S20 hL1, e7, if_neg hz1, c1_It, c1_Ot, bI_T, bI_F, i10, i01, if_true, if_false, not_true_eq_false, not_false_eq_true, Bool.false_eq_true, Int32.or_zero, ne_eq, Bool.and_eq_true, decide_eq_true_eq, decide_true, decide_false, and_true, true_and, and_false, false_and, Bool.and_true, Bool.true_and, Bool.and_false, Bool.false_and]
      refine Eq.trans e ?_
      rw [ld_eq hW]
      show Ev (d + 20) 216 20 _ [] _ = _
      rw [v216_20]
      simp only [v216_21, v216_22, v216_25, v216_42, v216_43, v216_46, v216_49, v216_50, v216_53, v216_54, v216_55, v216_56, v216_59, v216_61, r216_60 ok1, n_14, n_8, inB_of, Nat.reduceLT, Prod.mk.injEq, true_and, rB, rBn, rBa, rBb, rBc, rBd, Evk_v, Evk_n, Nat.reduceAdd, Nat.reduceLeDiff, Nat.le_refl, Nat.zero_le, cz_0, cz_1, cI_1, cO_1, cz_2, cI_2, cO_2, cL_2, cD_2, cz_3, cI_3, cO_3, cL_3, cD_3, cz_4, cI_4, cO_4, cL_4, cD_4, cz_5, cI_5, cO_5, cL_5, cD_5, cz_6, cI_6, cO_6, cL_6, cD_6, cz_7, cI_7, cO_7, cL_7, cD_7, cz_8, cI_8, cO_8, cL_8, cD_8, List.mem_cons, or_true, true_or, and_self, sI_S, sL_S, sR_S, sD_S, gb_S, sI_R, sL_R, sD_R, gb_R, sI_L, sR_I, sR_L, sL_I, sD_I, sD_L, gb_I, gb_L, y_S20 hL0, sI_I, e7, Nat.reduceEqDiff, and_false, false_and, if_false, if_neg hz1, if_pos (show iN (pn P) ≤ iN (pn P) from Int32.le_refl _)]
      rfl
    refine ⟨0, dbl (smf (ldn P) 8) (pn P), _, sI hh (20, 0, 0) 0 0, w272_v (y_S1 hL) hS31 e1, ?_, ?_, fun _ => ⟨?_, ok.2⟩, ⟨Lay_sI hL1 (by decide), P, H, X, CI_th c1, MI_x m1 (Or.inl rfl), wi⟩, ?_, ?_, ?_⟩
    · rw [eh]; exact e2
    · rw [sI_I, if_pos ⟨rfl, rfl⟩]
    · rw [← eh]
      show gD (sD h (31, 0, 0) 0 (dbl (smf (ldn P) 8) (pn P))) (31, 0, 0) 0 = _
      rw [sD_Dx, if_pos ⟨rfl, rfl⟩]
    · rw [← eh]; rfl
    · rw [← eh]; exact Nat.le_succ _
    · rw [← eh]; exact Nat.le_add_right _ _
end T9
