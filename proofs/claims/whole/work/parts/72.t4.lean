/-! CALLS THAT CHANGE: undo, restore; clear and save, which the law calls itself -/



/-- a call without a wrapper: both answer the same -/
def Agd (L : Nat) (xs : Nat → Int32) (d w m : Nat) (A B : LS3) (h : Hp) : Prop := ∃ k h1 h2, Ev d w 0 A [] h = some (.inl (some (vI k)), h1) ∧ Ev d m 0 B [] h1 = some (.inl (some (vI k)), h2) ∧ Inv L xs h2 ∧ cnt h2 = cnt h ∧ cu h2 ≤ cu h + 1 ∧ su h2 ≤ su h + 6
section T4
variable {L : Nat} {xs : Nat → Int32} {h h' h1 : Hp} {P P' Q : PL} {H H' : HS} {X X' : XS} {d : Nat}
theorem d_ok {w m : Nat} {A B : LS3} {v : Int32} (hL : Lay L xs h) (c1 : CI h1 P' H' X') (k1 : Chg inC h h1) (mi : MI h P H X) (wi' : WI P' H' X') (e1 : Ev d w 0 A [] h = some (.inl (some (vI v)), h1)) (e2 : ∀ h', Lay L xs h' → MI h' P H X → ∃ h'', Ev d m 0 B [] h' = some (.inl (some (vI v)), h'') ∧ MI h'' P' H' X' ∧ Chg inM h' h'') : Agd L xs d w m A B h := by
  have hL1 := Lay_C hL k1
  have m1 : MI h1 P H X := MI_ch mi k1 (fun a ha z => by have z : a.1 ≤ 15 := z; omega)
  obtain ⟨h'', e3, m2, k2⟩ := e2 h1 hL1 m1
  refine ⟨v, _, h'', e1, e3, ⟨Lay_M hL1 k2, P', H', X', CI_ch c1 k2 (fun a ha z => by rcases z with z | z <;> omega), m2, wi'⟩, ?_, ?_, ?_⟩
  · rw [k2.2.2.2.1]; exact k1.2.2.2.1
  · rw [k2.2.2.2.2.1]; exact Nat.le_trans (Nat.le_of_eq k1.2.2.2.2.1) (Nat.le_succ _)
  · rw [k2.2.2.2.2.2.1]; exact Nat.le_trans (Nat.le_of_eq k1.2.2.2.2.2.1) (Nat.le_add_right _ _)
theorem WI_un (w : WI P H X) (h0 : 0 < hC H) : WI (hR H ((hO H + (hC H - 1)) % 7)) (hR H, hO H, hC H - 1) X := by
  obtain ⟨w1, w2, w3, w4, w5, w6⟩ := w
  exact ⟨w5 _ (by omega), w2, w3, (show hC H - 1 ≤ 6 by omega), fun i hi => w5 i (by have hi : i < hC H - 1 := hi; omega), w6⟩
theorem c35 (hL : Lay L xs h) (c : CI h P H X) (mi : MI h P H X) (wi : WI P H X) : Agw L xs (d + 20) 276 231 [some (vR (1, 0, 0)), some (vR (30, 0, 0)), none] [some (vR (20, 0, 0))] h := by
  have hW := wi.1.1
  have hp : 0 < 9 := Nat.zero_lt_succ 8
  have c4 := c.2.2.2
  by_cases hz : hC H = 0
  · have e0 : gI h (9, 0, 0) 2 = 0 := by rw [c4.2.1, hz]; rfl
    refine q_ex (k := 1) (b := 0) hL c mi wi (by decide) (w276_3 (y_S1 hL) ?_) (fun h hL mi => ?_)
    · simp only [v127_0, v127_1, v127_4, v127_7, v127_10, v127_13, v127_21, v127_22, v127_25, v127_26, v127_29, v127_32, v127_33, v127_36, v127_39, n_14, n_8, inB_of, Nat.reduceLT, Prod.mk.injEq, true_and, rB, rBn, rBa, rBb, rBc, rBd, Evk_v, Evk_n, Nat.reduceAdd, Nat.reduceLeDiff, Nat.le_refl, Nat.zero_le, cz_0, cz_1, cI_1, cO_1, cz_2, cI_2, cO_2, cL_2, cD_2, cz_3, cI_3, cO_3, cL_3, cD_3, cz_4, cI_4, cO_4, cL_4, cD_4, cz_5, cI_5, cO_5, cL_5, cD_5, cz_6, cI_6, cO_6, cL_6, cD_6, cz_7, cI_7, cO_7, cL_7, cD_7, cz_8, cI_8, cO_8, cL_8, cD_8, List.mem_cons, or_true, true_or, and_self, sI_S, sL_S, sR_S, sD_S, gb_S, sI_R, sL_R, sD_R, gb_R, sI_L, sR_I, sR_L, sL_I, sD_I, sD_L, gb_I, gb_L, y_S1 hL, y_S2 hL, y_S3 hL, y_S4 hL, y_S5 hL, y_S6 hL, y_S7 hL, y_S8 hL, y_S9 hL, y_S10 hL, y_S11 hL, y_S12 hL, y_S13 hL, y_S14 hL, y_S15 hL, y_R1_0 hL, y_R1_1 hL, y_R1_2 hL, y_R1_3 hL, y_R1_4 hL, y_R2_0 hL, y_R2_1 hL, y_R2_2 hL, y_R3 hL, y_R6 hL, y_R7 hL, y_R9 hL, y_R10 hL, y_R11_0 hL, y_R11_1 hL, y_R14 hL, hp, e0, if_true, if_false, not_true_eq_false, not_false_eq_true, Bool.false_eq_true, Int32.or_zero, ne_eq, Bool.and_eq_true, decide_eq_true_eq, decide_true, decide_false, and_true, true_and, and_false, false_and, Bool.and_true, Bool.true_and, Bool.and_false, Bool.false_and]
    · have hM := mi.1; have hL0 := Lay_sI (a := (20, 0, 0)) (m := 0) (v := 0) hL (Nat.le_of_ble_eq_true rfl); have hM0 := mo_x (m := 0) (v := 0) hM (by decide)
      have e0 : gI h (20, 0, 0) 33 = 0 := by rw [mi.2.2.1, hz]; rfl
      simp only [v231_0, v231_1, v231_4, v231_7, v231_8, v231_9, v231_12, v231_13, v231_14, v231_15, v231_18, v231_19, v231_20, v231_23, v231_24, v231_25, v231_28, v231_29, v231_30, v231_33, v231_36, v231_37, v231_40, v231_41, v231_42, v231_45, v231_46, v231_49, n_14, n_8, inB_of, Nat.reduceLT, Prod.mk.injEq, true_and, rB, rBn, rBa, rBb, rBc, rBd, Evk_v, Evk_n, Nat.reduceAdd, Nat.reduceLeDiff, Nat.le_refl, Nat.zero_le, cz_0, cz_1, cI_1, cO_1, cz_2, cI_2, cO_2, cL_2, cD_2, cz_3, cI_3, cO_3, cL_3, cD_3, cz_4, cI_4, cO_4, cL_4, cD_4, cz_5, cI_5, cO_5, cL_5, cD_5, cz_6, cI_6, cO_6, cL_6, cD_6, cz_7, cI_7, cO_7, cL_7, cD_7, cz_8, cI_8, cO_8, cL_8, cD_8, List.mem_cons, or_true, true_or, and_self, sI_S, sL_S, sR_S, sD_S, gb_S, sI_R, sL_R, sD_R, gb_R, sI_L, sR_I, sR_L, sL_I, sD_I, sD_L, gb_I, gb_L, y_S20 hL, e0, m141 hL, c1_It, c1_Ot, bI_T, bI_F, i10, i01, if_true, if_false, not_true_eq_false, not_false_eq_true, Bool.false_eq_true, Int32.or_zero, ne_eq, Bool.and_eq_true, decide_eq_true_eq, decide_true, decide_false, and_true, true_and, and_false, false_and, Bool.and_true, Bool.true_and, Bool.and_false, Bool.false_and]
  · have h0 : 0 < hC H := by omega
    have w4 := wi.2.2.2.1
    have hWq := (wi.2.2.2.2.1 (hC H - 1) (by omega)).1
    have hn0 : ¬ iN (hC H) = 0 := fun z => by
      have := (iN_inj (b := 0) (show hC H < 2147483648 by omega) (by decide)).mp z
      omega
    have es : iN (hC H) - 1 = iN (hC H - 1) := iN_sub (b := 1) h0
    obtain ⟨h1, e10, c1, k1⟩ := m10 (d := d + 14) hL c wi.2.2.1 w4 h0 (w_wn hWq)
    have hL1 := Lay_C hL k1
    have e2 : gI h1 (9, 0, 0) 2 = iN (hC H - 1) := c1.2.2.2.2.1
    refine k_ok (v := iN (hC H - 1)) hL c1 k1 mi (WI_un wi h0) (w276_v (y_S1 hL) (y_S30 hL1) ?_) (fun h hL mi => ?_)
    · simp only [v127_0, v127_1, v127_4, v127_7, v127_10, v127_13, v127_21, v127_22, v127_25, v127_26, v127_29, v127_32, v127_33, v127_36, v127_39, n_14, n_8, inB_of, Nat.reduceLT, Prod.mk.injEq, true_and, rB, rBn, rBa, rBb, rBc, rBd, Evk_v, Evk_n, Nat.reduceAdd, Nat.reduceLeDiff, Nat.le_refl, Nat.zero_le, cz_0, cz_1, cI_1, cO_1, cz_2, cI_2, cO_2, cL_2, cD_2, cz_3, cI_3, cO_3, cL_3, cD_3, cz_4, cI_4, cO_4, cL_4, cD_4, cz_5, cI_5, cO_5, cL_5, cD_5, cz_6, cI_6, cO_6, cL_6, cD_6, cz_7, cI_7, cO_7, cL_7, cD_7, cz_8, cI_8, cO_8, cL_8, cD_8, List.mem_cons, or_true, true_or, and_self, sI_S, sL_S, sR_S, sD_S, gb_S, sI_R, sL_R, sD_R, gb_R, sI_L, sR_I, sR_L, sL_I, sD_I, sD_L, gb_I, gb_L, y_S1 hL, y_S2 hL, y_S3 hL, y_S4 hL, y_S5 hL, y_S6 hL, y_S7 hL, y_S8 hL, y_S9 hL, y_S10 hL, y_S11 hL, y_S12 hL, y_S13 hL, y_S14 hL, y_S15 hL, y_R1_0 hL, y_R1_1 hL, y_R1_2 hL, y_R1_3 hL, y_R1_4 hL, y_R2_0 hL, y_R2_1 hL, y_R2_2 hL, y_R3 hL, y_R6 hL, y_R7 hL, y_R9 hL, y_R10 hL, y_R11_0 hL, y_R11_1 hL, y_R14 hL, hp, c4.2.1, if_neg hn0, e10, y_S1 hL1, y_S9 hL1, y_R1_2 hL1, e2, if_true, if_false, not_true_eq_false, not_false_eq_true, Bool.false_eq_true, Int32.or_zero, ne_eq, Bool.and_eq_true, decide_eq_true_eq, decide_true, decide_false, and_true, true_and, and_false, false_and, Bool.and_true, Bool.true_and, Bool.and_false, Bool.false_and]
    · have hL0 := Lay_sI (a := (20, 0, 0)) (m := 33) (v := iN (hC H - 1)) (Lay_sI (a := (20, 0, 0)) (m := 0) (v := 0) hL (Nat.le_of_ble_eq_true rfl)) (Nat.le_of_ble_eq_true rfl)
      obtain ⟨h2, e228, r⟩ := paR (d := d + 18) hL0 (g := 19) (off := 1569 * (hC H - 1)) (Or.inl rfl) (by unfold rsz; rw [if_pos rfl]; omega)
      have hmul : (1569 : Int32) * iN (hC H - 1) = iN (1569 * (hC H - 1)) := iN_mul 1569 _
      have hL2 := Lay_R hL0 r
      obtain ⟨m1, m2, m3⟩ := mi
      have eb : ∀ a : A3, a ≠ (20, 0, 0) → gI (sI (sI h (20, 0, 0) 0 0) (20, 0, 0) 33 (iN (hC H - 1))) a = gI h a := fun a ha => by
        funext k
        rw [sI_I, if_neg fun z => ha z.1, sI_I, if_neg fun z => ha z.1]
      have kb : Chg (inR 19) h h2 := ch_t (ch_t (ch_sI (Or.inl rfl)) (ch_sI (Or.inl rfl))) r.1
      have n33 : ¬ isSc 33 := by unfold isSc; decide
      have n0 : ¬ isSc 0 := by unfold isSc; decide
      have e33 : gI h2 (20, 0, 0) 33 = iN (hC H - 1) := by rw [r.2.1 33 (by decide) (by decide) n33, sI_I, if_pos ⟨rfl, rfl⟩]
      have e0 : gI h2 (20, 0, 0) 0 = 0 := by rw [r.2.1 0 (by decide) (by decide) n0, sI_I, if_neg (by simp), sI_I, if_pos ⟨rfl, rfl⟩]
      have hthr : ∀ m, m ≠ 0 → m ≠ 33 → m ≠ 34 → m ≠ 36 → ¬ isSc m → gI h2 (20, 0, 0) m = gI h (20, 0, 0) m := fun m a0 a33 a34 a36 as => by
        rw [r.2.1 m a34 a36 as, sI_I, if_neg fun z => a33 z.2, sI_I, if_neg fun z => a0 z.2]
      refine ⟨h2, ?_, ⟨Mod_RR hWq (Row_eq (eb _ (by simp)) (m2.2 (hC H - 1) (by omega))) r, ⟨fun z => Row_eq (ch_I kb (fun z => by rcases z with z | ⟨f, hf, z⟩ | z <;> simp at z; omega)) (m2.1 z), fun i hi => Row_eq (r.2.2.2.2.2.2.trans (eb _ (by simp))) (m2.2 i (by have hi : i < hC H - 1 := hi; omega))⟩, ?_⟩, ch_m inR_M kb, e0⟩
      · simp only [v231_0, v231_1, v231_4, v231_7, v231_8, v231_9, v231_12, v231_13, v231_14, v231_15, v231_18, v231_19, v231_20, v231_23, v231_24, v231_25, v231_28, v231_29, v231_30, v231_33, v231_36, v231_37, v231_40, v231_41, v231_42, v231_45, v231_46, v231_49, n_14, n_8, inB_of, Nat.reduceLT, Prod.mk.injEq, true_and, rB, rBn, rBa, rBb, rBc, rBd, Evk_v, Evk_n, Nat.reduceAdd, Nat.reduceLeDiff, Nat.le_refl, Nat.zero_le, cz_0, cz_1, cI_1, cO_1, cz_2, cI_2, cO_2, cL_2, cD_2, cz_3, cI_3, cO_3, cL_3, cD_3, cz_4, cI_4, cO_4, cL_4, cD_4, cz_5, cI_5, cO_5, cL_5, cD_5, cz_6, cI_6, cO_6, cL_6, cD_6, cz_7, cI_7, cO_7, cL_7, cD_7, cz_8, cI_8, cO_8, cL_8, cD_8, List.mem_cons, or_true, true_or, and_self, sI_S, sL_S, sR_S, sD_S, gb_S, sI_R, sL_R, sD_R, gb_R, sI_L, sR_I, sR_L, sL_I, sD_I, sD_L, gb_I, gb_L, y_S20 hL, y_S20 hL0, y_S20 hL2, y_F_earlier hL0, m3.1, if_neg hn0, es, hmul, e228, e33, sI_I, Nat.reduceEqDiff, and_false, false_and, if_false, c1_It, c1_Ot, bI_T, bI_F, i10, i01, if_true, if_false, not_true_eq_false, not_false_eq_true, Bool.false_eq_true, Int32.or_zero, ne_eq, Bool.and_eq_true, decide_eq_true_eq, decide_true, decide_false, and_true, true_and, and_false, false_and, Bool.and_true, Bool.true_and, Bool.and_false, Bool.false_and]
      · have h16 : gI h2 (21, 16, 0) = gI h (21, 16, 0) := ch_I kb (fun z => by rcases z with z | ⟨f, hf, z⟩ | z <;> simp at z; omega)
        have ns : ∀ m, m = 35 ∨ m = 22 ∨ m = 29 ∨ m = 26 ∨ m = 37 → gI h2 (20, 0, 0) m = gI h (20, 0, 0) m := fun m hm => hthr m (by omega) (by omega) (by omega) (by omega) (by unfold isSc; omega)
        unfold MX
        rw [ns 35 (by decide), ns 22 (by decide), ns 29 (by decide), ns 26 (by decide), ns 37 (by decide), h16]
        exact ⟨e33, m3.2⟩
theorem WI_rs (w : WI P H X) (hf : xF X = true) : WI (xS X) (hR H, hO H, 0) X := by
  obtain ⟨w1, w2, w3, w4, w5, w6⟩ := w
  exact ⟨w2 hf, w2, w3, Nat.zero_le _, fun i hi => absurd hi (Nat.not_lt_zero i), w6⟩
theorem c37 (hL : Lay L xs h) (c : CI h P H X) (mi : MI h P H X) (wi : WI P H X) : Agw L xs (d + 20) 277 233 [some (vR (1, 0, 0)), some (vR (30, 0, 0)), none] [some (vR (20, 0, 0))] h := by
  have hW := wi.1.1
  have hp : 0 < 9 := Nat.zero_lt_succ 8
  have c4 := c.2.2.2
  by_cases hz : xF X = true
  · have hWq := (wi.2.1 hz).1
    have e5 : ¬ gI h (1, 0, 0) 5 = 0 := by rw [c4.2.2.1, bI_t hz]; decide
    obtain ⟨ha, e32, ka, cA⟩ := m32 (d := d + 16) hL (p := 0) (q := 1) (by decide) (by decide) (by decide) c.1 c.2.1 (w_wn hWq)
    have c1 := CI_pl c ka cA
    have k1 : Chg inC h ha := ch_m inP_C ka
    have hLa := Lay_C hL k1
    obtain ⟨hb, e5', c2, k2⟩ := m5 (d := d + 18) hLa c1
    have hLb := Lay_C hLa k2
    refine k_ok (v := iN (tn (xS X))) hL c2 (ch_t k1 k2) mi (WI_rs wi hz) (w277_v (y_S1 hL) (y_S30 hLb) ?_) (fun h hL mi => ?_)
    · simp only [v129_0, v129_1, v129_4, v129_7, v129_10, v129_18, v129_19, v129_22, v129_23, v129_26, v129_29, v129_30, v129_33, v129_36, v129_37, v129_40, v129_43, n_14, n_8, inB_of, Nat.reduceLT, Prod.mk.injEq, true_and, rB, rBn, rBa, rBb, rBc, rBd, Evk_v, Evk_n, Nat.reduceAdd, Nat.reduceLeDiff, Nat.le_refl, Nat.zero_le, cz_0, cz_1, cI_1, cO_1, cz_2, cI_2, cO_2, cL_2, cD_2, cz_3, cI_3, cO_3, cL_3, cD_3, cz_4, cI_4, cO_4, cL_4, cD_4, cz_5, cI_5, cO_5, cL_5, cD_5, cz_6, cI_6, cO_6, cL_6, cD_6, cz_7, cI_7, cO_7, cL_7, cD_7, cz_8, cI_8, cO_8, cL_8, cD_8, List.mem_cons, or_true, true_or, and_self, sI_S, sL_S, sR_S, sD_S, gb_S, sI_R, sL_R, sD_R, gb_R, sI_L, sR_I, sR_L, sL_I, sD_I, sD_L, gb_I, gb_L, y_S1 hL, y_S2 hL, y_S3 hL, y_S4 hL, y_S5 hL, y_S6 hL, y_S7 hL, y_S8 hL, y_S9 hL, y_S10 hL, y_S11 hL, y_S12 hL, y_S13 hL, y_S14 hL, y_S15 hL, y_R1_0 hL, y_R1_1 hL, y_R1_2 hL, y_R1_3 hL, y_R1_4 hL, y_R2_0 hL, y_R2_1 hL, y_R2_2 hL, y_R3 hL, y_R6 hL, y_R7 hL, y_R9 hL, y_R10 hL, y_R11_0 hL, y_R11_1 hL, y_R14 hL, hp, if_neg e5, e32, y_S1 hLa, y_S9 hLa, y_R1_2 hLa, e5', y_S1 hLb, y_R1_0 hLb, y_S2 hLb, p_tc c2.1, if_true, if_false, not_true_eq_false, not_false_eq_true, Bool.false_eq_true, Int32.or_zero, ne_eq, Bool.and_eq_true, decide_eq_true_eq, decide_true, decide_false, and_true, true_and, and_false, false_and, Bool.and_true, Bool.true_and, Bool.and_false, Bool.false_and]
    · have hL0 := Lay_sI (a := (20, 0, 0)) (m := 0) (v := 0) hL (Nat.le_of_ble_eq_true rfl)
      obtain ⟨h2, e228, r⟩ := paR (d := d + 18) hL0 (g := 20) (off := 0) (Or.inr (Or.inl rfl)) (by decide)
      have e228 : Ev (d + 18 + 1) 228 0 [some (vR (20, 0, 0)), some (vR (21, 20, 0)), some (vI 0), some (vI 0)] [] (sI h (20, 0, 0) 0 0) = some (.inl none, h2) := e228
      have hL2 := Lay_R hL0 r
      obtain ⟨m1, m2, m3⟩ := mi
      have e35 : ¬ gI h (20, 0, 0) 35 = 0 := by rw [m3.2.1, bI_t hz]; decide
      have eb : ∀ a : A3, a ≠ (20, 0, 0) → gI (sI h (20, 0, 0) 0 0) a = gI h a := fun a ha => by
        funext k
        rw [sI_I, if_neg fun z => ha z.1]
      have kb : Chg (inR 20) h (sI h2 (20, 0, 0) 33 0) := ch_t (ch_t (ch_sI (Or.inl rfl)) r.1) (ch_sI (Or.inl rfl))
      have hthr : ∀ m, m ≠ 0 → m ≠ 33 → m ≠ 34 → m ≠ 36 → ¬ isSc m → gI (sI h2 (20, 0, 0) 33 0) (20, 0, 0) m = gI h (20, 0, 0) m := fun m a0 a33 a34 a36 as => by
        rw [sI_I, if_neg fun z => a33 z.2, r.2.1 m a34 a36 as, sI_I, if_neg fun z => a0 z.2]
      have e0 : gI (sI h2 (20, 0, 0) 33 0) (20, 0, 0) 0 = 0 := by
        rw [sI_I, if_neg (by simp), r.2.1 0 (by decide) (by decide) (by unfold isSc; decide), sI_I, if_pos ⟨rfl, rfl⟩]
      have hM2 : Mod h2 (xS X) := Mod_RR hWq (Row_eq (eb _ (by simp)) (m2.1 hz)) r
      have e19 := m_tc hM2
      refine ⟨sI h2 (20, 0, 0) 33 0, ?_, ⟨mo_x hM2 (by decide), ⟨fun z => Row_eq ?_ (m2.1 z), fun i hi => absurd hi (Nat.not_lt_zero i)⟩, ?_⟩, ch_m inR_M kb, e0⟩
      · simp only [v233_0, v233_1, v233_4, v233_7, v233_8, v233_9, v233_12, v233_13, v233_14, v233_15, v233_18, v233_19, v233_20, v233_23, v233_24, v233_25, v233_28, v233_29, v233_30, v233_33, v233_34, v233_37, n_14, n_8, inB_of, Nat.reduceLT, Prod.mk.injEq, true_and, rB, rBn, rBa, rBb, rBc, rBd, Evk_v, Evk_n, Nat.reduceAdd, Nat.reduceLeDiff, Nat.le_refl, Nat.zero_le, cz_0, cz_1, cI_1, cO_1, cz_2, cI_2, cO_2, cL_2, cD_2, cz_3, cI_3, cO_3, cL_3, cD_3, cz_4, cI_4, cO_4, cL_4, cD_4, cz_5, cI_5, cO_5, cL_5, cD_5, cz_6, cI_6, cO_6, cL_6, cD_6, cz_7, cI_7, cO_7, cL_7, cD_7, cz_8, cI_8, cO_8, cL_8, cD_8, List.mem_cons, or_true, true_or, and_self, sI_S, sL_S, sR_S, sD_S, gb_S, sI_R, sL_R, sD_R, gb_R, sI_L, sR_I, sR_L, sL_I, sD_I, sD_L, gb_I, gb_L, y_S20 hL, y_S20 hL0, y_S20 hL2, y_F_saved hL0, if_neg e35, e228, e19, sI_I, Nat.reduceEqDiff, and_false, false_and, if_false, c1_It, c1_Ot, bI_T, bI_F, i10, i01, if_true, if_false, not_true_eq_false, not_false_eq_true, Bool.false_eq_true, Int32.or_zero, ne_eq, Bool.and_eq_true, decide_eq_true_eq, decide_true, decide_false, and_true, true_and, and_false, false_and, Bool.and_true, Bool.true_and, Bool.and_false, Bool.false_and]
      · funext k
        rw [sI_I, if_neg (by simp), r.2.2.2.2.2.2, eb _ (by simp)]
      · have h16 : gI (sI h2 (20, 0, 0) 33 0) (21, 16, 0) = gI h (21, 16, 0) := ch_I kb (fun z => by rcases z with z | ⟨f, hf, z⟩ | z <;> simp at z; omega)
        have ns : ∀ m, m = 35 ∨ m = 22 ∨ m = 29 ∨ m = 26 ∨ m = 37 → gI (sI h2 (20, 0, 0) 33 0) (20, 0, 0) m = gI h (20, 0, 0) m := fun m hm => hthr m (by omega) (by omega) (by omega) (by omega) (by unfold isSc; omega)
        unfold MX
        rw [ns 35 (by decide), ns 22 (by decide), ns 29 (by decide), ns 26 (by decide), ns 37 (by decide), h16]
        exact ⟨by rw [sI_I, if_pos ⟨rfl, rfl⟩]; rfl, m3.2⟩
  · have e5 : gI h (1, 0, 0) 5 = 0 := by rw [c4.2.2.1, bI_f hz]
    refine q_ex (k := 1) (b := 0) hL c mi wi (by decide) (w277_1 (y_S1 hL) ?_) (fun h hL mi => ?_)
    · simp only [v129_0, v129_1, v129_4, v129_7, v129_10, v129_18, v129_19, v129_22, v129_23, v129_26, v129_29, v129_30, v129_33, v129_36, v129_37, v129_40, v129_43, n_14, n_8, inB_of, Nat.reduceLT, Prod.mk.injEq, true_and, rB, rBn, rBa, rBb, rBc, rBd, Evk_v, Evk_n, Nat.reduceAdd, Nat.reduceLeDiff, Nat.le_refl, Nat.zero_le, cz_0, cz_1, cI_1, cO_1, cz_2, cI_2, cO_2, cL_2, cD_2, cz_3, cI_3, cO_3, cL_3, cD_3, cz_4, cI_4, cO_4, cL_4, cD_4, cz_5, cI_5, cO_5, cL_5, cD_5, cz_6, cI_6, cO_6, cL_6, cD_6, cz_7, cI_7, cO_7, cL_7, cD_7, cz_8, cI_8, cO_8, cL_8, cD_8, List.mem_cons, or_true, true_or, and_self, sI_S, sL_S, sR_S, sD_S, gb_S, sI_R, sL_R, sD_R, gb_R, sI_L, sR_I, sR_L, sL_I, sD_I, sD_L, gb_I, gb_L, y_S1 hL, y_S2 hL, y_S3 hL, y_S4 hL, y_S5 hL, y_S6 hL, y_S7 hL, y_S8 hL, y_S9 hL, y_S10 hL, y_S11 hL, y_S12 hL, y_S13 hL, y_S14 hL, y_S15 hL, y_R1_0 hL, y_R1_1 hL, y_R1_2 hL, y_R1_3 hL, y_R1_4 hL, y_R2_0 hL, y_R2_1 hL, y_R2_2 hL, y_R3 hL, y_R6 hL, y_R7 hL, y_R9 hL, y_R10 hL, y_R11_0 hL, y_R11_1 hL, y_R14 hL, hp, e5, if_true, if_false, not_true_eq_false, not_false_eq_true, Bool.false_eq_true, Int32.or_zero, ne_eq, Bool.and_eq_true, decide_eq_true_eq, decide_true, decide_false, and_true, true_and, and_false, false_and, Bool.and_true, Bool.true_and, Bool.and_false, Bool.false_and]
    · have hM := mi.1; have hL0 := Lay_sI (a := (20, 0, 0)) (m := 0) (v := 0) hL (Nat.le_of_ble_eq_true rfl); have hM0 := mo_x (m := 0) (v := 0) hM (by decide)
      have e0 : gI h (20, 0, 0) 35 = 0 := by rw [mi.2.2.2.1, bI_f hz]
      simp only [v233_0, v233_1, v233_4, v233_7, v233_8, v233_9, v233_12, v233_13, v233_14, v233_15, v233_18, v233_19, v233_20, v233_23, v233_24, v233_25, v233_28, v233_29, v233_30, v233_33, v233_34, v233_37, n_14, n_8, inB_of, Nat.reduceLT, Prod.mk.injEq, true_and, rB, rBn, rBa, rBb, rBc, rBd, Evk_v, Evk_n, Nat.reduceAdd, Nat.reduceLeDiff, Nat.le_refl, Nat.zero_le, cz_0, cz_1, cI_1, cO_1, cz_2, cI_2, cO_2, cL_2, cD_2, cz_3, cI_3, cO_3, cL_3, cD_3, cz_4, cI_4, cO_4, cL_4, cD_4, cz_5, cI_5, cO_5, cL_5, cD_5, cz_6, cI_6, cO_6, cL_6, cD_6, cz_7, cI_7, cO_7, cL_7, cD_7, cz_8, cI_8, cO_8, cL_8, cD_8, List.mem_cons, or_true, true_or, and_self, sI_S, sL_S, sR_S, sD_S, gb_S, sI_R, sL_R, sD_R, gb_R, sI_L, sR_I, sR_L, sL_I, sD_I, sD_L, gb_I, gb_L, y_S20 hL, e0, m141 hL, c1_It, c1_Ot, bI_T, bI_F, i10, i01, if_true, if_false, not_true_eq_false, not_false_eq_true, Bool.false_eq_true, Int32.or_zero, ne_eq, Bool.and_eq_true, decide_eq_true_eq, decide_true, decide_false, and_true, true_and, and_false, false_and, Bool.and_true, Bool.true_and, Bool.and_false, Bool.false_and]
/-! save -/
theorem CI_F (c : CI h P H X) : CI (sI h (1, 0, 0) 5 1) P H (xS X, true, X.2.2) := by
  obtain ⟨c1, c2, c3, c4⟩ := c
  have k : Chg (fun a => a = (1, 0, 0)) h (sI h (1, 0, 0) 5 1) := ch_sI rfl
  have n : ∀ a : A3, 2 ≤ a.1 → ¬ a = (1, 0, 0) := fun a ha z => by rw [z] at ha; simp at ha
  refine ⟨Cls_ch c1 k (fun a _ h2 _ => n a h2), Cls_ch c2 k (fun a _ h2 _ => n a h2), fun m hm => Cls_ch (c3 m hm) k (fun a _ h2 _ => n a h2), ?_⟩
  obtain ⟨a1, a2, a3, a4, a5, a6, a7⟩ := c4
  refine ⟨?_, ?_, ?_, ?_, ?_, ?_, fun q hq => ?_⟩
  · rw [sI_I, if_neg (by simp)]; exact a1
  · rw [sI_I, if_neg (by simp)]; exact a2
  · rw [sI_I, if_pos ⟨rfl, rfl⟩]; exact (bI_t rfl).symm
  · rw [sI_I, if_neg (by simp)]; exact a4
  · rw [sI_I, if_neg (by simp)]; exact a5
  · rw [sI_I, if_neg (by simp)]; exact a6
  · rw [sI_I, if_neg (by simp)]; exact a7 q hq
theorem CI_s1 (c : CI h P H X) (k : Chg (inP 1) h h') (hQ : Cls h' 1 Q) : CI h' P H (Q, X.2) := by
  obtain ⟨c1, c2, c3, c4⟩ := c
  have c4' : CX h' H X := CX_ch c4 k (fun z => by have := z.1; simp at this) (fun z => by have := z.1; simp at this) (fun z => by have := z.1; simp at this) (fun z => by have := z.1; simp at this)
  exact ⟨Cls_ch c1 k (fun a h1 h2 h3 z => by have := z.1; omega), hQ, fun m hm => Cls_ch (c3 m hm) k (fun a h1 h2 h3 z => by have := z.1; omega), c4'⟩
theorem c36 (hL : Lay L xs h) (c : CI h P H X) (mi : MI h P H X) (wi : WI P H X) : Agd L xs (d + 20) 128 232 [some (vR (1, 0, 0))] [some (vR (20, 0, 0))] h := by
  have hW := wi.1.1
  have hp : 0 < 9 := Nat.zero_lt_succ 8
  obtain ⟨ha, e32, ka, cA⟩ := m32 (d := d + 17) hL (p := 1) (q := 0) (by decide) (by decide) (by decide) c.2.1 c.1 (w_wn hW)
  have c1 := CI_s1 c ka cA
  have k1 : Chg inC h ha := ch_m inP_C ka
  have hLa := Lay_C hL k1
  have c2 : CI (sI ha (1, 0, 0) 5 1) P H (P, true, X.2.2) := CI_F (X := (P, X.2)) c1
  have k2 : Chg inC h (sI ha (1, 0, 0) 5 1) := ch_t k1 (ch_sI (show inC (1, 0, 0) from Nat.le_of_ble_eq_true rfl))
  have hLb := Lay_C hL k2
  have w' : WI P H (P, true, X.2.2) := ⟨wi.1, fun _ => wi.1, wi.2.2⟩
  have i1 : (1 : Int32) = 0 ∨ (1 : Int32) = 1 := Or.inr rfl
  refine d_ok (v := iN (tn P)) hL c2 k2 mi w' ?_ (fun h hL mi => ?_)
  · simp only [v128_0, v128_1, v128_4, v128_5, v128_8, v128_11, v128_12, v128_13, v128_16, v128_17, v128_20, v128_23, n_14, n_8, inB_of, Nat.reduceLT, Prod.mk.injEq, true_and, rB, rBn, rBa, rBb, rBc, rBd, Evk_v, Evk_n, Nat.reduceAdd, Nat.reduceLeDiff, Nat.le_refl, Nat.zero_le, cz_0, cz_1, cI_1, cO_1, cz_2, cI_2, cO_2, cL_2, cD_2, cz_3, cI_3, cO_3, cL_3, cD_3, cz_4, cI_4, cO_4, cL_4, cD_4, cz_5, cI_5, cO_5, cL_5, cD_5, cz_6, cI_6, cO_6, cL_6, cD_6, cz_7, cI_7, cO_7, cL_7, cD_7, cz_8, cI_8, cO_8, cL_8, cD_8, List.mem_cons, or_true, true_or, and_self, sI_S, sL_S, sR_S, sD_S, gb_S, sI_R, sL_R, sD_R, gb_R, sI_L, sR_I, sR_L, sL_I, sD_I, sD_L, gb_I, gb_L, y_S1 hL, y_S2 hL, y_S3 hL, y_S4 hL, y_S5 hL, y_S6 hL, y_S7 hL, y_S8 hL, y_S9 hL, y_S10 hL, y_S11 hL, y_S12 hL, y_S13 hL, y_S14 hL, y_S15 hL, y_R1_0 hL, y_R1_1 hL, y_R1_2 hL, y_R1_3 hL, y_R1_4 hL, y_R2_0 hL, y_R2_1 hL, y_R2_2 hL, y_R3 hL, y_R6 hL, y_R7 hL, y_R9 hL, y_R10 hL, y_R11_0 hL, y_R11_1 hL, y_R14 hL, hp, y_R1_1 hL, show 1 < 9 by decide, e32, y_S1 hLa, i1, y_S1 hLb, y_R1_0 hLb, y_R1_0 hLa, y_S2 hLb, y_S2 hLa, p_tc c1.1, sI_I, Prod.mk.injEq, Nat.reduceEqDiff, and_false, false_and, if_false, if_true, if_false, not_true_eq_false, not_false_eq_true, Bool.false_eq_true, Int32.or_zero, ne_eq, Bool.and_eq_true, decide_eq_true_eq, decide_true, decide_false, and_true, true_and, and_false, false_and, Bool.and_true, Bool.true_and, Bool.and_false, Bool.false_and]
  · have hL0 := Lay_sI (a := (20, 0, 0)) (m := 35) (v := 1) (Lay_sI (a := (20, 0, 0)) (m := 0) (v := 0) hL (Nat.le_of_ble_eq_true rfl)) (Nat.le_of_ble_eq_true rfl)
    obtain ⟨m1, m2, m3⟩ := mi
    have hM0 : Mod (sI (sI h (20, 0, 0) 0 0) (20, 0, 0) 35 1) P := mo_x (mo_x m1 (by decide)) (by decide)
    obtain ⟨h2, e228, r⟩ := paK (d := d + 18) hL0 (g := 20) (off := 0) (Or.inr (Or.inl rfl)) (by decide)
    have e228 : Ev (d + 18 + 1) 228 0 [some (vR (20, 0, 0)), some (vR (21, 20, 0)), some (vI 0), some (vI 1)] [] (sI (sI h (20, 0, 0) 0 0) (20, 0, 0) 35 1) = some (.inl none, h2) := e228
    have hL2 := Lay_K hL0 r
    have eb : ∀ a : A3, a ≠ (20, 0, 0) → gI (sI (sI h (20, 0, 0) 0 0) (20, 0, 0) 35 1) a = gI h a := fun a ha => by
      funext k
      rw [sI_I, if_neg fun z => ha z.1, sI_I, if_neg fun z => ha z.1]
    have kb : Chg (inG 20) h h2 := ch_t (ch_t (ch_sI (Or.inr rfl)) (ch_sI (Or.inr rfl))) r.1
    have hthr : ∀ m, m ≠ 0 → m ≠ 34 → m ≠ 35 → m ≠ 36 → gI h2 (20, 0, 0) m = gI h (20, 0, 0) m := fun m a0 a34 a35 a36 => by
      rw [r.2.1 m a34 a36, sI_I, if_neg fun z => a35 z.2, sI_I, if_neg fun z => a0 z.2]
    have hM2 : Mod h2 P := Mod_K hW hM0 (Or.inr (Or.inl rfl)) r
    refine ⟨h2, ?_, ⟨hM2, ⟨fun _ => Row_KK hW hM0 r, fun i hi => Row_eq (ch_I kb (fun z => by rcases z with z | z <;> simp at z)) (m2.2 i hi)⟩, ?_⟩, ch_m inG_M kb⟩
    · simp only [v232_0, v232_1, v232_2, v232_5, v232_6, v232_7, v232_10, v232_11, v232_12, v232_15, v232_16, v232_17, v232_20, v232_21, v232_24, n_14, n_8, inB_of, Nat.reduceLT, Prod.mk.injEq, true_and, rB, rBn, rBa, rBb, rBc, rBd, Evk_v, Evk_n, Nat.reduceAdd, Nat.reduceLeDiff, Nat.le_refl, Nat.zero_le, cz_0, cz_1, cI_1, cO_1, cz_2, cI_2, cO_2, cL_2, cD_2, cz_3, cI_3, cO_3, cL_3, cD_3, cz_4, cI_4, cO_4, cL_4, cD_4, cz_5, cI_5, cO_5, cL_5, cD_5, cz_6, cI_6, cO_6, cL_6, cD_6, cz_7, cI_7, cO_7, cL_7, cD_7, cz_8, cI_8, cO_8, cL_8, cD_8, List.mem_cons, or_true, true_or, and_self, sI_S, sL_S, sR_S, sD_S, gb_S, sI_R, sL_R, sD_R, gb_R, sI_L, sR_I, sR_L, sL_I, sD_I, sD_L, gb_I, gb_L, y_S20 hL, y_S20 hL0, y_S20 hL2, y_F_saved hL0, e228, m_tc hM2, i1, c1_It, c1_Ot, bI_T, bI_F, i10, i01, if_true, if_false, not_true_eq_false, not_false_eq_true, Bool.false_eq_true, Int32.or_zero, ne_eq, Bool.and_eq_true, decide_eq_true_eq, decide_true, decide_false, and_true, true_and, and_false, false_and, Bool.and_true, Bool.true_and, Bool.and_false, Bool.false_and]
    · have h16 : gI h2 (21, 16, 0) = gI h (21, 16, 0) := ch_I kb (fun z => by rcases z with z | z <;> simp at z)
      obtain ⟨a1, a2, a3⟩ := m3
      unfold MX
      rw [hthr 33 (by decide) (by decide) (by decide) (by decide), hthr 22 (by decide) (by decide) (by decide) (by decide), hthr 29 (by decide) (by decide) (by decide) (by decide), hthr 26 (by decide) (by decide) (by decide) (by decide), hthr 37 (by decide) (by decide) (by decide) (by decide), h16]
      refine ⟨a1, ?_, a3⟩
      rw [r.2.1 35 (by decide) (by decide), sI_I, if_pos ⟨rfl, rfl⟩]
      exact (bI_t rfl).symm
/-! clear -/
def clM (h : Hp) : Hp := sI (sI (sI (sI (sI (sI (sI h (20, 0, 0) 0 0) (20, 0, 0) 7 0) (20, 0, 0) 19 0) (20, 0, 0) 20 0) (20, 0, 0) 21 0) (20, 0, 0) 8 0) (20, 0, 0) 33 0
theorem c0 (hL : Lay L xs h) (c : CI h P H X) (mi : MI h P H X) (wi : WI P H X) : Agd L xs (d + 20) 92 167 [some (vR (1, 0, 0)), none] [some (vR (20, 0, 0)), none] h := by
  have hW := wi.1.1
  have hp : 0 < 9 := Nat.zero_lt_succ 8
  obtain ⟨ha, e31, ka, cA⟩ := m31 (d := d + 16) hL hp c.1
  have c1 := CI_pl c ka cA
  have k1 : Chg inC h ha := ch_m inP_C ka
  have hLa := Lay_C hL k1
  obtain ⟨hb, e5, c2, k2⟩ := m5 (d := d + 19) hLa c1
  have w' : WI nP (hR H, hO H, 0) X := ⟨WFx_nP, wi.2.1, wi.2.2.1, Nat.zero_le _, fun i hi => absurd hi (Nat.not_lt_zero i), wi.2.2.2.2.2⟩
  refine d_ok (v := iN (pn P)) hL c2 (ch_t k1 k2) mi w' ?_ (fun h hL mi => ?_)
  · simp only [v92_0, v92_1, v92_4, v92_7, v92_8, v92_9, v92_12, v92_15, v92_16, v92_19, v92_22, v92_23, n_14, n_8, inB_of, Nat.reduceLT, Prod.mk.injEq, true_and, rB, rBn, rBa, rBb, rBc, rBd, Evk_v, Evk_n, Nat.reduceAdd, Nat.reduceLeDiff, Nat.le_refl, Nat.zero_le, cz_0, cz_1, cI_1, cO_1, cz_2, cI_2, cO_2, cL_2, cD_2, cz_3, cI_3, cO_3, cL_3, cD_3, cz_4, cI_4, cO_4, cL_4, cD_4, cz_5, cI_5, cO_5, cL_5, cD_5, cz_6, cI_6, cO_6, cL_6, cD_6, cz_7, cI_7, cO_7, cL_7, cD_7, cz_8, cI_8, cO_8, cL_8, cD_8, List.mem_cons, or_true, true_or, and_self, sI_S, sL_S, sR_S, sD_S, gb_S, sI_R, sL_R, sD_R, gb_R, sI_L, sR_I, sR_L, sL_I, sD_I, sD_L, gb_I, gb_L, y_S1 hL, y_S2 hL, y_S3 hL, y_S4 hL, y_S5 hL, y_S6 hL, y_S7 hL, y_S8 hL, y_S9 hL, y_S10 hL, y_S11 hL, y_S12 hL, y_S13 hL, y_S14 hL, y_S15 hL, y_R1_0 hL, y_R1_1 hL, y_R1_2 hL, y_R1_3 hL, y_R1_4 hL, y_R2_0 hL, y_R2_1 hL, y_R2_2 hL, y_R3 hL, y_R6 hL, y_R7 hL, y_R9 hL, y_R10 hL, y_R11_0 hL, y_R11_1 hL, y_R14 hL, hp, p_pc c.1, e31, y_S1 hLa, y_S9 hLa, y_R1_2 hLa, e5, if_true, if_false, not_true_eq_false, not_false_eq_true, Bool.false_eq_true, Int32.or_zero, ne_eq, Bool.and_eq_true, decide_eq_true_eq, decide_true, decide_false, and_true, true_and, and_false, false_and, Bool.and_true, Bool.true_and, Bool.and_false, Bool.false_and]
  · obtain ⟨m1, m2, m3⟩ := mi
    have kb : Chg (fun a => a = (20, 0, 0)) h (clM h) := ch_t (ch_t (ch_t (ch_t (ch_t (ch_t (ch_sI rfl) (ch_sI rfl)) (ch_sI rfl)) (ch_sI rfl)) (ch_sI rfl)) (ch_sI rfl)) (ch_sI rfl)
    have e : ∀ m, m ≠ 0 → m ≠ 7 → m ≠ 8 → m ≠ 19 → m ≠ 20 → m ≠ 21 → m ≠ 33 → gI (clM h) (20, 0, 0) m = gI h (20, 0, 0) m := fun m a b c d e f g => by
      unfold clM
      rw [sI_I, if_neg fun z => g z.2, sI_I, if_neg fun z => c z.2, sI_I, if_neg fun z => f z.2, sI_I, if_neg fun z => e z.2, sI_I, if_neg fun z => d z.2, sI_I, if_neg fun z => b z.2, sI_I, if_neg fun z => a z.2]
    refine ⟨clM h, ?_, ⟨?_, ⟨fun z => Row_eq (ch_I kb (by simp)) (m2.1 z), fun i hi => absurd hi (Nat.not_lt_zero i)⟩, ?_⟩, ch_m (fun a z => by have z : a = (20, 0, 0) := z; rw [z]; exact Or.inl rfl) kb⟩
    · simp only [v167_0, v167_1, v167_2, v167_5, v167_6, v167_9, v167_10, v167_11, v167_12, v167_15, v167_16, v167_17, v167_20, v167_21, v167_22, v167_25, v167_26, v167_27, v167_30, v167_31, v167_32, v167_35, v167_36, v167_37, v167_40, v167_41, n_14, n_8, inB_of, Nat.reduceLT, Prod.mk.injEq, true_and, rB, rBn, rBa, rBb, rBc, rBd, Evk_v, Evk_n, Nat.reduceAdd, Nat.reduceLeDiff, Nat.le_refl, Nat.zero_le, cz_0, cz_1, cI_1, cO_1, cz_2, cI_2, cO_2, cL_2, cD_2, cz_3, cI_3, cO_3, cL_3, cD_3, cz_4, cI_4, cO_4, cL_4, cD_4, cz_5, cI_5, cO_5, cL_5, cD_5, cz_6, cI_6, cO_6, cL_6, cD_6, cz_7, cI_7, cO_7, cL_7, cD_7, cz_8, cI_8, cO_8, cL_8, cD_8, List.mem_cons, or_true, true_or, and_self, sI_S, sL_S, sR_S, sD_S, gb_S, sI_R, sL_R, sD_R, gb_R, sI_L, sR_I, sR_L, sL_I, sD_I, sD_L, gb_I, gb_L, y_S20 hL, m_pc m1, sI_I, Nat.reduceEqDiff, and_false, false_and, if_false, c1_It, c1_Ot, bI_T, bI_F, i10, i01, if_true, if_false, not_true_eq_false, not_false_eq_true, Bool.false_eq_true, Int32.or_zero, ne_eq, Bool.and_eq_true, decide_eq_true_eq, decide_true, decide_false, and_true, true_and, and_false, false_and, Bool.and_true, Bool.true_and, Bool.and_false, Bool.false_and]
      rfl
    · refine ⟨fun f hf i hi => absurd hi (Nat.not_lt_zero i), fun i hi => absurd hi (Nat.not_lt_zero i), fun f h1 h2 j hj => absurd hj (Nat.not_lt_zero j), fun k hk => absurd hk (Nat.not_lt_zero k), ?_, ?_, ?_, ?_, ?_⟩
      · show gI (clM h) (20, 0, 0) 7 = 0
        unfold clM
        simp only [sI_I, Nat.reduceEqDiff, and_false, and_self, if_false, if_true]
      · show gI (clM h) (20, 0, 0) 8 = 0
        unfold clM
        simp only [sI_I, Nat.reduceEqDiff, and_false, and_self, if_false, if_true]
      · show gI (clM h) (20, 0, 0) 19 = 0
        unfold clM
        simp only [sI_I, Nat.reduceEqDiff, and_false, and_self, if_false, if_true]
      · show gI (clM h) (20, 0, 0) 20 = 0
        unfold clM
        simp only [sI_I, Nat.reduceEqDiff, and_false, and_self, if_false, if_true]
      · show gI (clM h) (20, 0, 0) 21 = 0
        unfold clM
        simp only [sI_I, Nat.reduceEqDiff, and_false, and_self, if_false, if_true]
    · unfold MX
      rw [e 35 (by decide) (by decide) (by decide) (by decide) (by decide) (by decide) (by decide), e 22 (by decide) (by decide) (by decide) (by decide) (by decide) (by decide) (by decide), e 29 (by decide) (by decide) (by decide) (by decide) (by decide) (by decide) (by decide), e 26 (by decide) (by decide) (by decide) (by decide) (by decide) (by decide) (by decide), e 37 (by decide) (by decide) (by decide) (by decide) (by decide) (by decide) (by decide), ch_I kb (c := (21, 16, 0)) (by simp)]
      refine ⟨?_, m3.2⟩
      show gI (clM h) (20, 0, 0) 33 = 0
      unfold clM
      simp only [sI_I, Nat.reduceEqDiff, and_false, and_self, if_false, if_true]
end T4
