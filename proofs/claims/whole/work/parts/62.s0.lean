/-! CALLS THAT CHANGE: what they share -/



/-- with a reason kept, an error position kept -/
def xsR (X : XS) (r : Nat) : XS := (X.1, X.2.1, X.2.2.1, X.2.2.2.1, some r, X.2.2.2.2.2)
section S0
variable {L : Nat} {xs : Nat → Int32} {h h' h1 : Hp} {P P' : PL} {H H' : HS} {X X' : XS} {d : Nat}
theorem ps_c {P : PL} {H : HS} : psH P H = ((preH P H).1, if hC H < 6 then hO H else (hO H + 1) % 7, if hC H < 6 then hC H + 1 else hC H) := by
  unfold psH kepH
  by_cases y : hC H < 6
  · rw [if_pos (show hC (preH P H) < 6 from y), if_pos y, if_pos y]; rfl
  · rw [if_neg (show ¬ hC (preH P H) < 6 from y), if_neg y, if_neg y]; rfl
theorem WI_ps (w : WI P H X) (hX : WFx P') : WI P' (psH P H) X := by
  obtain ⟨w1, w2, w3, w4, w5, w6⟩ := w
  rw [ps_c]
  refine ⟨hX, w2, ?_, ?_, fun i hi => ?_, w6⟩
  · show (if hC H < 6 then hO H else (hO H + 1) % 7) < 7
    split <;> omega
  · show (if hC H < 6 then hC H + 1 else hC H) ≤ 6
    split <;> omega
  · have hi : i < (if hC H < 6 then hC H + 1 else hC H) := hi
    show WFx (if ((if hC H < 6 then hO H else (hO H + 1) % 7) + i) % 7 = (hO H + hC H) % 7 then P else hR H (((if hC H < 6 then hO H else (hO H + 1) % 7) + i) % 7))
    by_cases z : ((if hC H < 6 then hO H else (hO H + 1) % 7) + i) % 7 = (hO H + hC H) % 7
    · rw [if_pos z]; exact w1
    · rw [if_neg z]
      by_cases y : hC H < 6
      · rw [if_pos y] at hi z ⊢
        have : i < hC H := by
          by_cases q : i = hC H
          · subst q; exact absurd rfl z
          · omega
        exact w5 i this
      · rw [if_neg y] at hi z ⊢
        have : ((hO H + 1) % 7 + i) % 7 = (hO H + (i + 1)) % 7 := by omega
        rw [this] at z ⊢
        exact w5 (i + 1) (by
          by_cases q : i + 1 = hC H
          · rw [q] at z; exact absurd rfl z
          · omega)
theorem WI_X (w : WI P H X) {r : Nat} (h0 : 0 < r) (h1 : r < 100) : WI P H (xsR X r) := by
  obtain ⟨w1, w2, w3, w4, w5, w6, w7, w8, w9⟩ := w
  exact ⟨w1, w2, w3, w4, w5, w6, w7, fun q hq => by cases hq; exact ⟨h0, h1⟩, w9⟩
theorem MI_ar {f j : Nat} {v : Int32} (m : MI h P H X) (hf : f < 16) (h5 : f ≠ 5) : MI (sI h (21, f, 0) j v) (uF P f j v) H X := by
  obtain ⟨m1, m2, m3⟩ := m
  have e : ∀ a : A3, a ≠ (21, f, 0) → gI (sI h (21, f, 0) j v) a = gI h a := fun a ha => by
    funext k
    rw [sI_I, if_neg fun z => ha z.1]
  refine ⟨mo_ar m1 (fun z => h5 z.symm) (by omega), ⟨fun z => Row_eq (e _ (by simp; omega)) (m2.1 z), fun i hi => Row_eq (e _ (by simp; omega)) (m2.2 i hi)⟩, ?_⟩
  unfold MX
  rw [e (20, 0, 0) (by simp), e (21, 16, 0) (by simp; omega)]
  exact m3
theorem CI_R (c : CI h P H X) {r : Nat} : CI (sI h (1, 0, 0) 6 (iN r)) P H (xsR X r) := by
  obtain ⟨c1, c2, c3, c4⟩ := c
  have k : Chg (fun a => a = (1, 0, 0)) h (sI h (1, 0, 0) 6 (iN r)) := ch_sI rfl
  have n : ∀ a : A3, 2 ≤ a.1 → ¬ a = (1, 0, 0) := fun a ha z => by rw [z] at ha; simp at ha
  refine ⟨Cls_ch c1 k (fun a _ h2 _ => n a h2), Cls_ch c2 k (fun a _ h2 _ => n a h2), fun m hm => Cls_ch (c3 m hm) k (fun a _ h2 _ => n a h2), ?_⟩
  obtain ⟨a1, a2, a3, a4, a5, a6, a7⟩ := c4
  refine ⟨?_, ?_, ?_, ?_, ?_, ?_, fun q hq => ?_⟩
  · rw [sI_I, if_neg (by simp)]; exact a1
  · rw [sI_I, if_neg (by simp)]; exact a2
  · rw [sI_I, if_neg (by simp)]; exact a3
  · rw [sI_I, if_pos ⟨rfl, rfl⟩]; rfl
  · rw [sI_I, if_neg (by simp)]; exact a5
  · rw [sI_I, if_neg (by simp)]; exact a6
  · rw [sI_I, if_neg (by simp)]; exact a7 q hq
theorem MI_R (m : MI h P H X) {r : Nat} : MI (sI h (20, 0, 0) 22 (iN r)) P H (xsR X r) := by
  obtain ⟨m1, m2, m3⟩ := m
  have e : ∀ k, k ≠ 22 → gI (sI h (20, 0, 0) 22 (iN r)) (20, 0, 0) k = gI h (20, 0, 0) k := fun k hk => by rw [sI_I, if_neg fun z => hk z.2]
  have e2 : ∀ f, gI (sI h (20, 0, 0) 22 (iN r)) (21, f, 0) = gI h (21, f, 0) := fun f => by
    funext k
    rw [sI_I, if_neg (by simp)]
  refine ⟨mo_x m1 (by decide), ⟨fun z => Row_eq (e2 20) (m2.1 z), fun i hi => Row_eq (e2 19) (m2.2 i hi)⟩, ?_⟩
  unfold MX
  rw [e 33 (by decide), e 35 (by decide), e 29 (by decide), e 26 (by decide), e 37 (by decide), e2 16]
  exact ⟨m3.1, m3.2.1, by rw [sI_I, if_pos ⟨rfl, rfl⟩]; rfl, m3.2.2.2⟩
theorem ch_R6 {v : Int32} : Chg inC h (sI h (1, 0, 0) 6 v) := ch_sI (Nat.le_of_ble_eq_true rfl)
theorem m135 (hL : Lay L xs h) {r : Nat} (h0 : 0 < r) (h1 : r < 100) : Ev d 135 0 [some (vR (1, 0, 0)), some (vI (iN r))] [] h = some (.inr 4, gb (sI h (1, 0, 0) 6 (iN r))) := by
  have hn0 : ¬ iN r = 0 := fun z => by
    have := (iN_inj (b := 0) (show r < 2147483648 by omega) (by decide)).mp z
    omega
  simp only [v135_0, v135_1, v135_4, v135_5, v135_6, v135_9, v135_12, v135_20, n_14, n_8, inB_of, Nat.reduceLT, Prod.mk.injEq, true_and, rB, rBn, rBa, rBb, rBc, rBd, Evk_v, Evk_n, Nat.reduceAdd, Nat.reduceLeDiff, Nat.le_refl, Nat.zero_le, cz_0, cz_1, cI_1, cO_1, cz_2, cI_2, cO_2, cL_2, cD_2, cz_3, cI_3, cO_3, cL_3, cD_3, cz_4, cI_4, cO_4, cL_4, cD_4, cz_5, cI_5, cO_5, cL_5, cD_5, cz_6, cI_6, cO_6, cL_6, cD_6, cz_7, cI_7, cO_7, cL_7, cD_7, cz_8, cI_8, cO_8, cL_8, cD_8, List.mem_cons, or_true, true_or, and_self, sI_S, sL_S, sR_S, sD_S, gb_S, sI_R, sL_R, sD_R, gb_R, sI_L, sR_I, sR_L, sL_I, sD_I, sD_L, gb_I, gb_L, y_S1 hL, if_neg hn0]
theorem m135z : Ev d 135 0 [some (vR (1, 0, 0)), some (vI 0)] [] h = some (.inl none, h) := by
  simp only [v135_0, v135_1, v135_4, v135_5, v135_6, v135_9, v135_12, v135_20, n_14, n_8, inB_of, Nat.reduceLT, Prod.mk.injEq, true_and, rB, rBn, rBa, rBb, rBc, rBd, Evk_v, Evk_n, Nat.reduceAdd, Nat.reduceLeDiff, Nat.le_refl, Nat.zero_le, cz_0, cz_1, cI_1, cO_1, cz_2, cI_2, cO_2, cL_2, cD_2, cz_3, cI_3, cO_3, cL_3, cD_3, cz_4, cI_4, cO_4, cL_4, cD_4, cz_5, cI_5, cO_5, cL_5, cD_5, cz_6, cI_6, cO_6, cL_6, cD_6, cz_7, cI_7, cO_7, cL_7, cD_7, cz_8, cI_8, cO_8, cL_8, cD_8, List.mem_cons, or_true, true_or, and_self, sI_S, sL_S, sR_S, sD_S, gb_S, sI_R, sL_R, sD_R, gb_R, sI_L, sR_I, sR_L, sL_I, sD_I, sD_L, gb_I, gb_L, if_true]
theorem m183 (hL : Lay L xs h) {r k : Int32} : Ev (d + 1) 183 0 [some (vR (20, 0, 0)), some (vI r), some (vI k)] [] h = some (.inl (some (vI (0))), sI (sI h (20, 0, 0) 22 r) (20, 0, 0) 0 k) := by
  simp only [v183_0, v183_1, v183_2, v183_5, v183_6, v183_7, v183_10, n_14, n_8, inB_of, Nat.reduceLT, Prod.mk.injEq, true_and, rB, rBn, rBa, rBb, rBc, rBd, Evk_v, Evk_n, Nat.reduceAdd, Nat.reduceLeDiff, Nat.le_refl, Nat.zero_le, cz_0, cz_1, cI_1, cO_1, cz_2, cI_2, cO_2, cL_2, cD_2, cz_3, cI_3, cO_3, cL_3, cD_3, cz_4, cI_4, cO_4, cL_4, cD_4, cz_5, cI_5, cO_5, cL_5, cD_5, cz_6, cI_6, cO_6, cL_6, cD_6, cz_7, cI_7, cO_7, cL_7, cD_7, cz_8, cI_8, cO_8, cL_8, cD_8, List.mem_cons, or_true, true_or, and_self, sI_S, sL_S, sR_S, sD_S, gb_S, sI_R, sL_R, sD_R, gb_R, sI_L, sR_I, sR_L, sL_I, sD_I, sD_L, gb_I, gb_L, y_S20 hL, m141 (Lay_sI (a := (20, 0, 0)) (m := 22) (v := r) hL (Nat.le_of_ble_eq_true rfl))]
theorem why_N {P : PL} {j i : Nat} {s : Int32} (hz : ¬ why P j i s = 0) : ∃ r, 0 < r ∧ r < 100 ∧ why P j i s = iN r := by
  unfold why at hz ⊢
  split
  · exact ⟨1, by decide, by decide, rfl⟩
  split
  · exact ⟨2, by decide, by decide, rfl⟩
  split
  · exact ⟨3, by decide, by decide, rfl⟩
  split
  · split
    · split
      · split
        · exact ⟨7, by decide, by decide, rfl⟩
        · split
          · exact ⟨8, by decide, by decide, rfl⟩
          · rename_i a1 a2 a3 a4 a5 a6 a7 a8
            rw [if_neg a1, if_neg a2, if_neg a3, if_pos a4, if_pos a5, if_pos a6, if_neg a7, if_neg a8] at hz
            exact absurd rfl hz
      · exact ⟨6, by decide, by decide, rfl⟩
    · exact ⟨5, by decide, by decide, rfl⟩
  · exact ⟨4, by decide, by decide, rfl⟩
theorem wat_N {P : PL} {j r x u : Nat} (hz : ¬ wat P j r x u = 0) : ∃ k, 0 < k ∧ k < 100 ∧ wat P j r x u = iN k := by
  unfold wat at hz ⊢
  split
  · exact ⟨8, by decide, by decide, rfl⟩
  split
  · exact ⟨9, by decide, by decide, rfl⟩
  split
  · exact ⟨10, by decide, by decide, rfl⟩
  split
  · exact ⟨11, by decide, by decide, rfl⟩
  split
  · exact ⟨12, by decide, by decide, rfl⟩
  · rename_i a1 a2 a3 a4 a5
    rw [if_neg a1, if_neg a2, if_neg a3, if_neg a4, if_neg a5] at hz
    exact absurd rfl hz
/-! the model's changes of places -/
def plM (h : Hp) (j : Nat) (r x u : Int32) : Hp := sI (sI (sI h (21, 12, 0) j r) (21, 13, 0) j x) (21, 14, 0) j u
theorem MI_pl {j : Nat} {r x u : Int32} (m : MI h P H X) : MI (plM h j r x u) (uPl P j r x u) H X := MI_ar (MI_ar (MI_ar m (by decide) (by decide)) (by decide) (by decide)) (by decide) (by decide)
theorem ch_plM {j : Nat} {r x u : Int32} : Chg inM h (plM h j r x u) := ch_t (ch_t (ch_sI (Or.inr rfl)) (ch_sI (Or.inr rfl))) (ch_sI (Or.inr rfl))
theorem m165 (hL : Lay L xs h) {j : Nat} (hj : j < 8) {r x u : Int32} : Ev d 165 0 [some (vR (20, 0, 0)), some (vI (iN j)), some (vI r), some (vI x), some (vI u)] [] h = some (.inl none, plM h j r x u) := by
  simp only [v165_0, v165_1, v165_4, v165_5, v165_6, v165_7, v165_8, v165_11, v165_12, v165_13, v165_14, v165_15, v165_18, v165_19, v165_21, v165_22, n_14, n_8, inB_of, Nat.reduceLT, Prod.mk.injEq, true_and, rB, rBn, rBa, rBb, rBc, rBd, Evk_v, Evk_n, Nat.reduceAdd, Nat.reduceLeDiff, Nat.le_refl, Nat.zero_le, cz_0, cz_1, cI_1, cO_1, cz_2, cI_2, cO_2, cL_2, cD_2, cz_3, cI_3, cO_3, cL_3, cD_3, cz_4, cI_4, cO_4, cL_4, cD_4, cz_5, cI_5, cO_5, cL_5, cD_5, cz_6, cI_6, cO_6, cL_6, cD_6, cz_7, cI_7, cO_7, cL_7, cD_7, cz_8, cI_8, cO_8, cL_8, cD_8, List.mem_cons, or_true, true_or, and_self, sI_S, sL_S, sR_S, sD_S, gb_S, sI_R, sL_R, sD_R, gb_R, sI_L, sR_I, sR_L, sL_I, sD_I, sD_L, gb_I, gb_L, y_S20 hL, y_M_rank hL, y_M_fields hL, y_M_home hL, y_M_limit hL, y_M_conflicts hL, y_M_busy hL, y_M_kind hL, y_M_field hL, y_M_department hL, y_M_supervisor hL, y_M_stage hL, y_M_members hL, y_M_room hL, y_M_dayOf hL, y_M_hourOf hL, y_M_line hL, y_F_rank hL, y_F_fields hL, y_F_home hL, y_F_limit hL, y_F_conflicts hL, y_F_busy hL, y_F_kind hL, y_F_field hL, y_F_department hL, y_F_supervisor hL, y_F_stage hL, y_F_members hL, y_F_room hL, y_F_dayOf hL, y_F_hourOf hL, y_F_line hL, hj]
  rfl
theorem m161 (hL : Lay L xs h) {j : Nat} (hj : j < 8) : Ev d 161 0 [some (vR (20, 0, 0)), some (vI (iN j))] [] h = some (.inl none, plM h j (-1) (-1) (-1)) := by
  simp only [v161_0, v161_1, v161_4, v161_5, v161_6, v161_7, v161_8, v161_11, v161_12, v161_13, v161_14, v161_15, v161_18, v161_19, v161_20, v161_21, n_14, n_8, inB_of, Nat.reduceLT, Prod.mk.injEq, true_and, rB, rBn, rBa, rBb, rBc, rBd, Evk_v, Evk_n, Nat.reduceAdd, Nat.reduceLeDiff, Nat.le_refl, Nat.zero_le, cz_0, cz_1, cI_1, cO_1, cz_2, cI_2, cO_2, cL_2, cD_2, cz_3, cI_3, cO_3, cL_3, cD_3, cz_4, cI_4, cO_4, cL_4, cD_4, cz_5, cI_5, cO_5, cL_5, cD_5, cz_6, cI_6, cO_6, cL_6, cD_6, cz_7, cI_7, cO_7, cL_7, cD_7, cz_8, cI_8, cO_8, cL_8, cD_8, List.mem_cons, or_true, true_or, and_self, sI_S, sL_S, sR_S, sD_S, gb_S, sI_R, sL_R, sD_R, gb_R, sI_L, sR_I, sR_L, sL_I, sD_I, sD_L, gb_I, gb_L, y_S20 hL, y_M_rank hL, y_M_fields hL, y_M_home hL, y_M_limit hL, y_M_conflicts hL, y_M_busy hL, y_M_kind hL, y_M_field hL, y_M_department hL, y_M_supervisor hL, y_M_stage hL, y_M_members hL, y_M_room hL, y_M_dayOf hL, y_M_hourOf hL, y_M_line hL, y_F_rank hL, y_F_fields hL, y_F_home hL, y_F_limit hL, y_F_conflicts hL, y_F_busy hL, y_F_kind hL, y_F_field hL, y_F_department hL, y_F_supervisor hL, y_F_stage hL, y_F_members hL, y_F_room hL, y_F_dayOf hL, y_F_hourOf hL, y_F_line hL, hj]
  rfl
theorem m162 (hL : Lay L xs h) (hM : Mod h P) (hW : WF P) {j : Nat} (hj : j < tn P) : Ev (d + 2) 162 0 [some (vR (20, 0, 0)), some (vI (iN j))] [] h = some (.inl none, if pld P j = true ∧ ¬ hld P j (P.1 11 j) = true then plM h j (-1) (-1) (-1) else h) := by
  have hj8 : j < 8 := Nat.lt_of_lt_of_le hj (w_tn hW)
  by_cases z : pld P j = true <;> by_cases y : hld P j (P.1 11 j) = true <;> simp only [v162_0, v162_1, v162_2, v162_5, v162_8, v162_9, v162_10, v162_11, v162_14, v162_15, v162_16, v162_19, v162_22, v162_23, v162_24, v162_27, n_14, n_8, inB_of, Nat.reduceLT, Prod.mk.injEq, true_and, rB, rBn, rBa, rBb, rBc, rBd, Evk_v, Evk_n, Nat.reduceAdd, Nat.reduceLeDiff, Nat.le_refl, Nat.zero_le, cz_0, cz_1, cI_1, cO_1, cz_2, cI_2, cO_2, cL_2, cD_2, cz_3, cI_3, cO_3, cL_3, cD_3, cz_4, cI_4, cO_4, cL_4, cD_4, cz_5, cI_5, cO_5, cL_5, cD_5, cz_6, cI_6, cO_6, cL_6, cD_6, cz_7, cI_7, cO_7, cL_7, cD_7, cz_8, cI_8, cO_8, cL_8, cD_8, List.mem_cons, or_true, true_or, and_self, sI_S, sL_S, sR_S, sD_S, gb_S, sI_R, sL_R, sD_R, gb_R, sI_L, sR_I, sR_L, sL_I, sD_I, sD_L, gb_I, gb_L, y_S20 hL, y_M_rank hL, y_M_fields hL, y_M_home hL, y_M_limit hL, y_M_conflicts hL, y_M_busy hL, y_M_kind hL, y_M_field hL, y_M_department hL, y_M_supervisor hL, y_M_stage hL, y_M_members hL, y_M_room hL, y_M_dayOf hL, y_M_hourOf hL, y_M_line hL, y_F_rank hL, y_F_fields hL, y_F_home hL, y_F_limit hL, y_F_conflicts hL, y_F_busy hL, y_F_kind hL, y_F_field hL, y_F_department hL, y_F_supervisor hL, y_F_stage hL, y_F_members hL, y_F_room hL, y_F_dayOf hL, y_F_hourOf hL, y_F_line hL, m_rk hM, m_fl hM, m_dp hM, m_lm hM, m_cf hM, m_kd hM, m_fd hM, m_de hM, m_sv hM, m_st hM, m_mb hM, m_rm hM, m_dy hM, m_hr hM, m_pc hM, m_tc hM, m_wc hM, m_td hM, m_lo hM, hj, hj8, m151 hL hM hW hj, m156 hL hM hW hj (w_mb hW hj8), bI_0, z, y, m161 hL hj8, and_self, if_true, if_false, not_true_eq_false, not_false_eq_true, Bool.false_eq_true, Int32.or_zero, ne_eq, Bool.and_eq_true, decide_eq_true_eq, decide_true, decide_false, and_true, true_and, and_false, false_and, Bool.and_true, Bool.true_and, Bool.and_false, Bool.false_and]
theorem m169 {s : Int32} {k : Nat} {on : Bool} : Ev d 169 0 [some (vI s), some (vI (iN k)), some (vI (bI (on = true)))] [] h = some (.inl (some (vI (wbt s k on))), h) := by
  cases on
  · simp only [v169_0, v169_1, v169_4, v169_5, v169_6, v169_7, v169_8, v169_9, v169_12, v169_13, v169_14, v169_15, v169_16, v169_17, v169_18, v169_19, n_14, n_8, inB_of, Nat.reduceLT, Prod.mk.injEq, true_and, rB, rBn, rBa, rBb, rBc, rBd, Evk_v, Evk_n, Nat.reduceAdd, Nat.reduceLeDiff, Nat.le_refl, Nat.zero_le, cz_0, cz_1, cI_1, cO_1, cz_2, cI_2, cO_2, cL_2, cD_2, cz_3, cI_3, cO_3, cL_3, cD_3, cz_4, cI_4, cO_4, cL_4, cD_4, cz_5, cI_5, cO_5, cL_5, cD_5, cz_6, cI_6, cO_6, cL_6, cD_6, cz_7, cI_7, cO_7, cL_7, cD_7, cz_8, cI_8, cO_8, cL_8, cD_8, List.mem_cons, or_true, true_or, and_self, sI_S, sL_S, sR_S, sD_S, gb_S, sI_R, sL_R, sD_R, gb_R, sI_L, sR_I, sR_L, sL_I, sD_I, sD_L, gb_I, gb_L, bI_0, if_true, if_false, not_true_eq_false, not_false_eq_true, Bool.false_eq_true, Int32.or_zero, ne_eq, Bool.and_eq_true, decide_eq_true_eq, decide_true, decide_false, and_true, true_and, and_false, false_and, Bool.and_true, Bool.true_and, Bool.and_false, Bool.false_and]
    rfl
  · simp only [v169_0, v169_1, v169_4, v169_5, v169_6, v169_7, v169_8, v169_9, v169_12, v169_13, v169_14, v169_15, v169_16, v169_17, v169_18, v169_19, n_14, n_8, inB_of, Nat.reduceLT, Prod.mk.injEq, true_and, rB, rBn, rBa, rBb, rBc, rBd, Evk_v, Evk_n, Nat.reduceAdd, Nat.reduceLeDiff, Nat.le_refl, Nat.zero_le, cz_0, cz_1, cI_1, cO_1, cz_2, cI_2, cO_2, cL_2, cD_2, cz_3, cI_3, cO_3, cL_3, cD_3, cz_4, cI_4, cO_4, cL_4, cD_4, cz_5, cI_5, cO_5, cL_5, cD_5, cz_6, cI_6, cO_6, cL_6, cD_6, cz_7, cI_7, cO_7, cL_7, cD_7, cz_8, cI_8, cO_8, cL_8, cD_8, List.mem_cons, or_true, true_or, and_self, sI_S, sL_S, sR_S, sD_S, gb_S, sI_R, sL_R, sD_R, gb_R, sI_L, sR_I, sR_L, sL_I, sD_I, sD_L, gb_I, gb_L, bI_0, if_true, if_false, not_true_eq_false, not_false_eq_true, Bool.false_eq_true, Int32.or_zero, ne_eq, Bool.and_eq_true, decide_eq_true_eq, decide_true, decide_false, and_true, true_and, and_false, false_and, Bool.and_true, Bool.true_and, Bool.and_false, Bool.false_and]
    rfl
theorem uF_id {f j : Nat} {v : Int32} (e : P.1 f j = v) : uF P f j v = P := by
  unfold uF
  refine Prod.ext ?_ rfl
  funext f' j'
  show (if f' = f ∧ j' = j then v else P.1 f' j') = P.1 f' j'
  by_cases z : f' = f ∧ j' = j
  · rw [if_pos z, z.1, z.2, e]
  · rw [if_neg z]
theorem uPl_id {j : Nat} (hW : WF P) (hj : j < 8) (hz : ¬ pld P j = true) : uPl P j (-1) (-1) (-1) = P := by
  rcases w_pl hW hj with ⟨e1, e2, e3⟩ | ⟨r, x, u, hr, -, -, e, -, -⟩
  · unfold uPl
    rw [uF_id e1, uF_id e2, uF_id e3]
  · exact absurd (pld_t.mpr (by rw [e]; exact oN_ne (by omega))) hz
end S0
