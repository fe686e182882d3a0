/-! DAYS THAT PASS: the model, the call -/



section T7
variable {L : Nat} {xs : Nat → Int32} {h h' h1 : Hp} {P P' Q : PL} {H H' : HS} {X X' : XS} {d : Nat} {T T' : Int32}
/-- what the model has taken away on the day T' before thesis k, T the day before -/
def dk (P : PL) (T T' : Int32) (k j : Nat) : Bool := ck P T 8 j || ck P T' k j
theorem dk_0 {j : Nat} : dk P T T' 0 j = ck P T 8 j := by unfold dk; rw [ck_0, Bool.or_false]
theorem lst_tn (hW : WF P) {j : Nat} (h1 : tn P ≤ j) (h2 : j < 8) : lst P T j = false := eq_false_of_ne_true fun z => pld_t.mp (lst_t.mp z).1.1 (w_t0 hW h1 h2).2.2.2.2.2.2.1
theorem lst_le (hTT : T < T') {j : Nat} (z : lst P T j = true) : lst P T' j = true := by
  obtain ⟨z1, z2⟩ := lst_t.mp z
  exact lst_t.mpr ⟨z1, Int32.lt_trans z2 hTT⟩
theorem dk_t (hW : WF P) (hTT : T < T') {j : Nat} : dk P T T' (tn P) j = ck P T' 8 j := by
  have h8 := w_tn hW
  unfold dk ck
  by_cases y8 : j < 8
  · rw [decide_eq_true y8]
    by_cases y : j < tn P
    · rw [decide_eq_true y]
      cases z : lst P T j
      · rfl
      · rw [lst_le hTT z]; rfl
    · rw [decide_eq_false y, lst_tn hW (by omega) y8, lst_tn hW (by omega) y8]; rfl
  · rw [decide_eq_false y8, decide_eq_false (show ¬ j < tn P by omega)]; rfl
theorem dk_s {k j : Nat} : dk P T T' (k + 1) j = if lst P T' k = true then (dk P T T' k j || decide (j = k)) else dk P T T' k j := by
  unfold dk
  rw [ck_s (T := T') (k := k)]
  by_cases z : lst P T' k = true
  · rw [if_pos z, if_pos z, Bool.or_assoc]
  · rw [if_neg z, if_neg z]
theorem dk_k {k : Nat} (hk : k < 8) : dk P T T' k k = lst P T k := by
  unfold dk
  rw [eq_false_of_ne_true ck_k, Bool.or_false]
  unfold ck
  rw [decide_eq_true hk]; rfl
def inD (a : A3) : Prop := a = (20, 0, 0) ∨ a = (21, 12, 0) ∨ a = (21, 13, 0) ∨ a = (21, 14, 0)
theorem inD_M : ∀ a, inD a → inM a := fun a z => by
  rcases z with z | z | z | z <;> rw [z]
  · exact Or.inl rfl
  · exact Or.inr rfl
  · exact Or.inr rfl
  · exact Or.inr rfl
theorem ch_plD {j : Nat} {r x u : Int32} : Chg inD h (plM h j r x u) := ch_t (ch_t (ch_sI (Or.inr (Or.inl rfl))) (ch_sI (Or.inr (Or.inr (Or.inl rfl))))) (ch_sI (Or.inr (Or.inr (Or.inr rfl))))
def ot (h h' : Hp) : Prop := ∀ m, m ≠ 8 → m ≠ 21 → gI h' (20, 0, 0) m = gI h (20, 0, 0) m
theorem ot_t {h'' : Hp} (a : ot h h') (b : ot h' h'') : ot h h'' := fun m h1 h2 => (b m h1 h2).trans (a m h1 h2)
theorem ot_pl {j : Nat} {r x u : Int32} : ot h (plM h j r x u) := fun m _ _ => by
  unfold plM
  rw [sI_I, if_neg (by simp), sI_I, if_neg (by simp), sI_I, if_neg (by simp)]
/-- one day -/
theorem m211i (hL : Lay L xs h) (hW : WF P) {t n m : Nat} (ht : t + 1 ≤ 400) (hM : Mod h (upn P (ck P (iN t) 8) (iN (t + 1)))) : ∃ h', Ev (d + 2) 211 22 [some (vR (20, 0, 0)), some (vI (iN n)), some (vI (iN (cn (lst P (iN t)) 8))), some (vI (iN m)), some (vI 0)] [] h = Ev (d + 2) 211 71 [some (vR (20, 0, 0)), some (vI (iN n)), some (vI (iN (cn (lst P (iN (t + 1))) 8))), some (vI (iN m)), some (vI (iN (tn P)))] [] h' ∧ Chg inD h h' ∧ ot h h' ∧ Mod h' (upn P (ck P (iN (t + 1)) 8) (iN (t + 1))) := by
  have h8 := w_tn hW
  have hTT : iN t < iN (t + 1) := ilt (by omega) (by omega)
  have lp := loopI (σ := LS3 × Hp) (E := fun s => Ev (d + 2) 211 22 s.1 [] s.2) (I := fun k s => s.1 = [some (vR (20, 0, 0)), some (vI (iN n)), some (vI (iN (cn (dk P (iN t) (iN (t + 1)) k) 8))), some (vI (iN m)), some (vI (iN k))] ∧ Chg inD h s.2 ∧ ot h s.2 ∧ Mod s.2 (upn P (dk P (iN t) (iN (t + 1)) k) (iN (t + 1)))) (n := tn P) (by
    rintro k hk ⟨ls, h1⟩ ⟨rfl, c, u, hQ⟩
    have hk8 : k < 8 := by omega
    have hk31 : k < 2147483648 := by omega
    have hnl : ¬ (iN (tn P) ≤ iN k) := nle hk (by omega)
    have hL1 := Lay_M hL (ch_m inD_M c)
    have hWQ : WF (upn P (dk P (iN t) (iN (t + 1)) k) (iN (t + 1))) := WF_up hW ht
    have e19 : gI h1 (20, 0, 0) 19 = iN (tn P) := (m_tc hQ : gI h1 (20, 0, 0) 19 = iN (tn (upn P (dk P (iN t) (iN (t + 1)) k) (iN (t + 1)))))
    have e204 := fun d => m204 (d := d) hL1 hQ hWQ (j := k) hk
    have aQ : ahd (upn P (dk P (iN t) (iN (t + 1)) k) (iN (t + 1))) k = (ahd P k && !lst P (iN t) k) := by
      unfold ahd
      rw [pld_up, dfd_up, dk_k hk8]
      cases pld P k <;> cases dfd P k <;> cases lst P (iN t) k <;> rfl
    rw [aQ] at e204
    by_cases y : ahd P k = true ∧ ¬ lst P (iN t) k = true
    · have y1 : (ahd P k && !lst P (iN t) k) = true := by rw [y.1, eq_false_of_ne_true y.2]; rfl
      rw [y1] at e204
      have yy := y.1
      rw [← ahd_t] at yy
      have hc : ¬ dk P (iN t) (iN (t + 1)) k k = true := by rw [dk_k hk8]; exact y.2
      have e205 := fun d => m205 (d := d) hL1 hQ hWQ (j := k) hk (by rw [dfd_up]; exact yy.2)
      rw [ndl_up hc] at e205
      have e8 : gI h1 (20, 0, 0) 8 = iN (t + 1) := (m_td hQ).trans upn_16
      by_cases z : ndl P k < iN (t + 1)
      · have hl : lst P (iN (t + 1)) k = true := lst_t.mpr ⟨yy, z⟩
        have e161 := fun d => m161 (d := d) hL1 hk8
        have c2 := mo_plM (j := k) (r := -1) (x := -1) (u := -1) hQ
        rw [uPl_up, upn_c (c' := dk P (iN t) (iN (t + 1)) (k + 1)) (fun j => by rw [dk_s, if_pos hl])] at c2
        have ec : cn (dk P (iN t) (iN (t + 1)) (k + 1)) 8 = cn (dk P (iN t) (iN (t + 1)) k) 8 + 1 := cn_add1 hk8 (fun j hj => by rw [dk_s, if_pos hl]; simp [hj]) (eq_false_of_ne_true hc) (by rw [dk_s, if_pos hl]; simp)
        refine ⟨(_, plM h1 k (-1) (-1) (-1)), ⟨rfl, ch_t c ch_plD, ot_t u ot_pl, c2⟩, ?_⟩
        show Ev (d + 2) 211 22 _ [] h1 = Ev (d + 2) 211 22 _ [] (plM h1 k (-1) (-1) (-1))
        rw [v211_22, ec]
        simp only [v211_24, v211_25, v211_28, v211_31, v211_32, v211_34, v211_37, v211_40, v211_41, v211_43, v211_46, v211_47, v211_50, v211_53, v211_56, v211_57, v211_59, v211_62, v211_65, v211_68, n_14, n_8, inB_of, Nat.reduceLT, Prod.mk.injEq, true_and, rB, rBn, rBa, rBb, rBc, rBd, Evk_v, Evk_n, Nat.reduceAdd, Nat.reduceLeDiff, Nat.le_refl, Nat.zero_le, cz_0, cz_1, cI_1, cO_1, cz_2, cI_2, cO_2, cL_2, cD_2, cz_3, cI_3, cO_3, cL_3, cD_3, cz_4, cI_4, cO_4, cL_4, cD_4, cz_5, cI_5, cO_5, cL_5, cD_5, cz_6, cI_6, cO_6, cL_6, cD_6, cz_7, cI_7, cO_7, cL_7, cD_7, cz_8, cI_8, cO_8, cL_8, cD_8, List.mem_cons, or_true, true_or, and_self, sI_S, sL_S, sR_S, sD_S, gb_S, sI_R, sL_R, sD_R, gb_R, sI_L, sR_I, sR_L, sL_I, sD_I, sD_L, gb_I, gb_L, y_S20 hL1, e19, if_neg hnl, e204, bI_0, e205, e8, if_pos z, e161, iN_s, c1_It, c1_Ot, bI_T, bI_F, i10, i01, if_true, if_false, not_true_eq_false, not_false_eq_true, Bool.false_eq_true, Int32.or_zero, ne_eq, Bool.and_eq_true, decide_eq_true_eq, decide_true, decide_false, and_true, true_and, and_false, false_and, Bool.and_true, Bool.true_and, Bool.and_false, Bool.false_and]
      · have hl : ¬ lst P (iN (t + 1)) k = true := fun q => z (lst_t.mp q).2
        have ec : ∀ j, dk P (iN t) (iN (t + 1)) (k + 1) j = dk P (iN t) (iN (t + 1)) k j := fun j => by rw [dk_s, if_neg hl]
        rw [← upn_c ec] at hQ
        refine ⟨(_, h1), ⟨rfl, c, u, hQ⟩, ?_⟩
        show Ev (d + 2) 211 22 _ [] h1 = Ev (d + 2) 211 22 _ [] h1
        rw [v211_22, show cn (dk P (iN t) (iN (t + 1)) (k + 1)) 8 = cn (dk P (iN t) (iN (t + 1)) k) 8 from cn_congr fun j _ => ec j]
        simp only [v211_24, v211_25, v211_28, v211_31, v211_32, v211_34, v211_37, v211_40, v211_41, v211_43, v211_46, v211_47, v211_50, v211_53, v211_56, v211_57, v211_59, v211_62, v211_65, v211_68, n_14, n_8, inB_of, Nat.reduceLT, Prod.mk.injEq, true_and, rB, rBn, rBa, rBb, rBc, rBd, Evk_v, Evk_n, Nat.reduceAdd, Nat.reduceLeDiff, Nat.le_refl, Nat.zero_le, cz_0, cz_1, cI_1, cO_1, cz_2, cI_2, cO_2, cL_2, cD_2, cz_3, cI_3, cO_3, cL_3, cD_3, cz_4, cI_4, cO_4, cL_4, cD_4, cz_5, cI_5, cO_5, cL_5, cD_5, cz_6, cI_6, cO_6, cL_6, cD_6, cz_7, cI_7, cO_7, cL_7, cD_7, cz_8, cI_8, cO_8, cL_8, cD_8, List.mem_cons, or_true, true_or, and_self, sI_S, sL_S, sR_S, sD_S, gb_S, sI_R, sL_R, sD_R, gb_R, sI_L, sR_I, sR_L, sL_I, sD_I, sD_L, gb_I, gb_L, y_S20 hL1, e19, if_neg hnl, e204, bI_0, e205, e8, if_neg z, iN_s, c1_It, c1_Ot, bI_T, bI_F, i10, i01, if_true, if_false, not_true_eq_false, not_false_eq_true, Bool.false_eq_true, Int32.or_zero, ne_eq, Bool.and_eq_true, decide_eq_true_eq, decide_true, decide_false, and_true, true_and, and_false, false_and, Bool.and_true, Bool.true_and, Bool.and_false, Bool.false_and]
    · have y1 : (ahd P k && !lst P (iN t) k) = false := by
        cases a : ahd P k
        · rfl
        · cases b : lst P (iN t) k
          · exact absurd ⟨a, by rw [b]; simp⟩ y
          · rfl
      rw [y1] at e204
      have ec : ∀ j, dk P (iN t) (iN (t + 1)) (k + 1) j = dk P (iN t) (iN (t + 1)) k j := fun j => by
        rw [dk_s]
        by_cases hl : lst P (iN (t + 1)) k = true
        · rw [if_pos hl]
          have ha : ahd P k = true := by rw [← ahd_t]; exact (lst_t.mp hl).1
          have hb : lst P (iN t) k = true := Decidable.byContradiction fun q => y ⟨ha, q⟩
          by_cases w : j = k
          · subst w; rw [dk_k hk8, hb]; rfl
          · simp [w]
        · rw [if_neg hl]
      rw [← upn_c ec] at hQ
      refine ⟨(_, h1), ⟨rfl, c, u, hQ⟩, ?_⟩
      show Ev (d + 2) 211 22 _ [] h1 = Ev (d + 2) 211 22 _ [] h1
      rw [v211_22, show cn (dk P (iN t) (iN (t + 1)) (k + 1)) 8 = cn (dk P (iN t) (iN (t + 1)) k) 8 from cn_congr fun j _ => ec j]
      simp only [v211_24, v211_25, v211_28, v211_31, v211_32, v211_34, v211_37, v211_40, v211_41, v211_43, v211_46, v211_47, v211_50, v211_53, v211_56, v211_57, v211_59, v211_62, v211_65, v211_68, n_14, n_8, inB_of, Nat.reduceLT, Prod.mk.injEq, true_and, rB, rBn, rBa, rBb, rBc, rBd, Evk_v, Evk_n, Nat.reduceAdd, Nat.reduceLeDiff, Nat.le_refl, Nat.zero_le, cz_0, cz_1, cI_1, cO_1, cz_2, cI_2, cO_2, cL_2, cD_2, cz_3, cI_3, cO_3, cL_3, cD_3, cz_4, cI_4, cO_4, cL_4, cD_4, cz_5, cI_5, cO_5, cL_5, cD_5, cz_6, cI_6, cO_6, cL_6, cD_6, cz_7, cI_7, cO_7, cL_7, cD_7, cz_8, cI_8, cO_8, cL_8, cD_8, List.mem_cons, or_true, true_or, and_self, sI_S, sL_S, sR_S, sD_S, gb_S, sI_R, sL_R, sD_R, gb_R, sI_L, sR_I, sR_L, sL_I, sD_I, sD_L, gb_I, gb_L, y_S20 hL1, e19, if_neg hnl, e204, bI_0, iN_s, c1_It, c1_Ot, bI_T, bI_F, i10, i01, if_true, if_false, not_true_eq_false, not_false_eq_true, Bool.false_eq_true, Int32.or_zero, ne_eq, Bool.and_eq_true, decide_eq_true_eq, decide_true, decide_false, and_true, true_and, and_false, false_and, Bool.and_true, Bool.true_and, Bool.and_false, Bool.false_and])
  have e0 : cn (dk P (iN t) (iN (t + 1)) 0) 8 = cn (lst P (iN t)) 8 := cn_congr fun j hj => by
    rw [dk_0]; unfold ck; rw [decide_eq_true hj]; rfl
  have e1 : cn (dk P (iN t) (iN (t + 1)) (tn P)) 8 = cn (lst P (iN (t + 1))) 8 := cn_congr fun j hj => by
    rw [dk_t hW hTT]; unfold ck; rw [decide_eq_true hj]; rfl
  rw [← upn_c (c := dk P (iN t) (iN (t + 1)) 0) (fun j => dk_0)] at hM
  obtain ⟨⟨ls, h1⟩, ⟨rfl, c, u, hQ⟩, e⟩ := lp (_, h) ⟨rfl, ch_r, fun _ _ _ => rfl, hM⟩
  have hL1 := Lay_M hL (ch_m inD_M c)
  have e19 : gI h1 (20, 0, 0) 19 = iN (tn P) := (m_tc hQ : gI h1 (20, 0, 0) 19 = iN (tn (upn P (dk P (iN t) (iN (t + 1)) (tn P)) (iN (t + 1)))))
  rw [upn_c (c := dk P (iN t) (iN (t + 1)) (tn P)) (fun j => dk_t hW hTT)] at hQ
  refine ⟨h1, ?_, c, u, hQ⟩
  rw [← e0, ← e1]
  refine Eq.trans e ?_
  show Ev (d + 2) 211 22 _ [] h1 = _
  rw [v211_22]
  simp only [v211_24, v211_25, v211_28, v211_31, v211_32, v211_34, v211_37, v211_40, v211_41, v211_43, v211_46, v211_47, v211_50, v211_53, v211_56, v211_57, v211_59, v211_62, v211_65, v211_68, n_14, n_8, inB_of, Nat.reduceLT, Prod.mk.injEq, true_and, rB, rBn, rBa, rBb, rBc, rBd, Evk_v, Evk_n, Nat.reduceAdd, Nat.reduceLeDiff, Nat.le_refl, Nat.zero_le, cz_0, cz_1, cI_1, cO_1, cz_2, cI_2, cO_2, cL_2, cD_2, cz_3, cI_3, cO_3, cL_3, cD_3, cz_4, cI_4, cO_4, cL_4, cD_4, cz_5, cI_5, cO_5, cL_5, cD_5, cz_6, cI_6, cO_6, cL_6, cD_6, cz_7, cI_7, cO_7, cL_7, cD_7, cz_8, cI_8, cO_8, cL_8, cD_8, List.mem_cons, or_true, true_or, and_self, sI_S, sL_S, sR_S, sD_S, gb_S, sI_R, sL_R, sD_R, gb_R, sI_L, sR_I, sR_L, sL_I, sD_I, sD_L, gb_I, gb_L, y_S20 hL1, e19, if_pos (show iN (tn P) ≤ iN (tn P) from Int32.le_refl _)]
theorem m211 (hL : Lay L xs h) (hM : Mod h P) (hW : WF P) (hN : wfN P) {t n : Nat} (et : P.1 16 0 = iN t) (hT : t + n ≤ 400) : ∃ h', Ev (d + 2) 211 0 [some (vR (20, 0, 0)), some (vI (iN n)), none, none, none] [] h = some (.inl (some (vI (iN (cn (lst P (iN (t + n))) 8)))), h') ∧ Chg inD h h' ∧ ot h h' ∧ Mod h' (uF (upn P (ck P (iN (t + n)) 8) (iN (t + n))) 16 1 (P.1 16 1 + iN (cn (lst P (iN (t + n))) 8))) := by
  have l0 : ∀ j, j < 8 → lst P (iN t) j = false := fun j hj => by
    by_cases y : j < tn P
    · refine eq_false_of_ne_true fun z => ?_
      obtain ⟨⟨z1, z2⟩, z3⟩ := lst_t.mp z
      have := hN j y z1 z2
      rw [et] at this
      exact nlt32' this z3
    · exact lst_tn hW (by omega) hj
  have c0 : ∀ j, ck P (iN t) 8 j = false := fun j => by
    unfold ck
    by_cases y : j < 8
    · rw [l0 j y, Bool.and_false]
    · rw [decide_eq_false y]; rfl
  have lp := loopI (σ := LS3 × Hp) (E := fun s => Ev (d + 2) 211 4 s.1 [] s.2) (I := fun m s => (∃ o : Option MV, s.1 = [some (vR (20, 0, 0)), some (vI (iN n)), some (vI (iN (cn (lst P (iN (t + m))) 8))), some (vI (iN m)), o]) ∧ Chg inD h s.2 ∧ ot h s.2 ∧ Mod s.2 (upn P (ck P (iN (t + m)) 8) (iN (t + m)))) (n := n) (by
    rintro m hm ⟨ls, h1⟩ ⟨⟨o, rfl⟩, c, u, hQ⟩
    have hnl : ¬ (iN n ≤ iN m) := nle hm (by omega)
    have hL1 := Lay_M hL (ch_m inD_M c)
    have e8 : gI h1 (20, 0, 0) 8 = iN (t + m) := (m_td hQ).trans upn_16
    have hR := mo_16 (v := iN (t + m + 1)) hQ
    rw [up_16] at hR
    have kR : Chg inD h1 (sI h1 (20, 0, 0) 8 (iN (t + m + 1))) := ch_sI (Or.inl rfl)
    have hLR := Lay_M hL1 (ch_m inD_M kR)
    obtain ⟨h2, e2, c2, u2, hQ2⟩ := m211i (d := d) (n := n) (m := m) hLR hW (t := t + m) (by omega) hR
    refine ⟨(_, h2), ⟨⟨some (vI (iN (tn P))), rfl⟩, ch_t (ch_t c kR) c2, ot_t (ot_t u (fun q h8 h21 => by rw [sI_I, if_neg fun z => h8 z.2])) u2, hQ2⟩, ?_⟩
    show Ev (d + 2) 211 4 _ [] h1 = Ev (d + 2) 211 4 _ [] h2
    rw [v211_4]
    simp only [v211_5, v211_6, v211_9, v211_10, v211_11, v211_14, v211_15, v211_16, v211_19, v211_20, n_14, n_8, inB_of, Nat.reduceLT, Prod.mk.injEq, true_and, rB, rBn, rBa, rBb, rBc, rBd, Evk_v, Evk_n, Nat.reduceAdd, Nat.reduceLeDiff, Nat.le_refl, Nat.zero_le, cz_0, cz_1, cI_1, cO_1, cz_2, cI_2, cO_2, cL_2, cD_2, cz_3, cI_3, cO_3, cL_3, cD_3, cz_4, cI_4, cO_4, cL_4, cD_4, cz_5, cI_5, cO_5, cL_5, cD_5, cz_6, cI_6, cO_6, cL_6, cD_6, cz_7, cI_7, cO_7, cL_7, cD_7, cz_8, cI_8, cO_8, cL_8, cD_8, List.mem_cons, or_true, true_or, and_self, sI_S, sL_S, sR_S, sD_S, gb_S, sI_R, sL_R, sD_R, gb_R, sI_L, sR_I, sR_L, sL_I, sD_I, sD_L, gb_I, gb_L, y_S20 hL1, if_neg hnl, e8, iN_s, c1_It, c1_Ot, bI_T, bI_F, i10, i01]
    refine Eq.trans e2 ?_
    simp only [v211_71, v211_74, n_14, n_8, inB_of, Nat.reduceLT, Prod.mk.injEq, true_and, rB, rBn, rBa, rBb, rBc, rBd, Evk_v, Evk_n, Nat.reduceAdd, Nat.reduceLeDiff, Nat.le_refl, Nat.zero_le, cz_0, cz_1, cI_1, cO_1, cz_2, cI_2, cO_2, cL_2, cD_2, cz_3, cI_3, cO_3, cL_3, cD_3, cz_4, cI_4, cO_4, cL_4, cD_4, cz_5, cI_5, cO_5, cL_5, cD_5, cz_6, cI_6, cO_6, cL_6, cD_6, cz_7, cI_7, cO_7, cL_7, cD_7, cz_8, cI_8, cO_8, cL_8, cD_8, List.mem_cons, or_true, true_or, and_self, sI_S, sL_S, sR_S, sD_S, gb_S, sI_R, sL_R, sD_R, gb_R, sI_L, sR_I, sR_L, sL_I, sD_I, sD_L, gb_I, gb_L, iN_s]
    rfl)
  rw [← upn_id (P := P), et, ← upn_c (c := ck P (iN t) 8) (c' := fun _ => false) c0] at hM
  have e0 : cn (lst P (iN t)) 8 = 0 := (cn_congr (e := fun _ => false) l0).trans cn_f
  obtain ⟨⟨ls, h1⟩, ⟨⟨o, rfl⟩, c, u, hQ⟩, e⟩ := lp ([some (vR (20, 0, 0)), some (vI (iN n)), some (vI (iN (cn (lst P (iN (t + 0))) 8))), some (vI (iN 0)), none], h) ⟨⟨none, rfl⟩, ch_r, fun _ _ _ => rfl, hM⟩
  have hL1 := Lay_M hL (ch_m inD_M c)
  have e21 : gI h1 (20, 0, 0) 21 = P.1 16 1 := (m_lo hQ).trans upn_lo
  have e : Ev (d + 2) 211 4 [some (vR (20, 0, 0)), some (vI (iN n)), some (vI 0), some (vI 0), none] [] h = Ev (d + 2) 211 4 [some (vR (20, 0, 0)), some (vI (iN n)), some (vI (iN (cn (lst P (iN (t + n))) 8))), some (vI (iN n)), o] [] h1 := by
    have e : Ev (d + 2) 211 4 [some (vR (20, 0, 0)), some (vI (iN n)), some (vI (iN (cn (lst P (iN t)) 8))), some (vI (iN 0)), none] [] h = _ := e
    rw [e0] at e
    exact e
  refine ⟨sI h1 (20, 0, 0) 21 (P.1 16 1 + iN (cn (lst P (iN (t + n))) 8)), ?_, ch_t c (ch_sI (Or.inl rfl)), ot_t u (fun q h8 h21 => by rw [sI_I, if_neg fun z => h21 z.2]), mo_17 hQ⟩
  simp only [v211_0, v211_1, v211_2, v211_3, n_14, n_8, inB_of, Nat.reduceLT, Prod.mk.injEq, true_and, rB, rBn, rBa, rBb, rBc, rBd, Evk_v, Evk_n, Nat.reduceAdd, Nat.reduceLeDiff, Nat.le_refl, Nat.zero_le, cz_0, cz_1, cI_1, cO_1, cz_2, cI_2, cO_2, cL_2, cD_2, cz_3, cI_3, cO_3, cL_3, cD_3, cz_4, cI_4, cO_4, cL_4, cD_4, cz_5, cI_5, cO_5, cL_5, cD_5, cz_6, cI_6, cO_6, cL_6, cD_6, cz_7, cI_7, cO_7, cL_7, cD_7, cz_8, cI_8, cO_8, cL_8, cD_8, List.mem_cons, or_true, true_or, and_self, sI_S, sL_S, sR_S, sD_S, gb_S, sI_R, sL_R, sD_R, gb_R, sI_L, sR_I, sR_L, sL_I, sD_I, sD_L, gb_I, gb_L]
  refine Eq.trans e ?_
  rw [v211_4]
  simp only [v211_5, v211_6, v211_77, v211_78, v211_79, v211_82, v211_83, v211_84, v211_87, v211_88, n_14, n_8, inB_of, Nat.reduceLT, Prod.mk.injEq, true_and, rB, rBn, rBa, rBb, rBc, rBd, Evk_v, Evk_n, Nat.reduceAdd, Nat.reduceLeDiff, Nat.le_refl, Nat.zero_le, cz_0, cz_1, cI_1, cO_1, cz_2, cI_2, cO_2, cL_2, cD_2, cz_3, cI_3, cO_3, cL_3, cD_3, cz_4, cI_4, cO_4, cL_4, cD_4, cz_5, cI_5, cO_5, cL_5, cD_5, cz_6, cI_6, cO_6, cL_6, cD_6, cz_7, cI_7, cO_7, cL_7, cD_7, cz_8, cI_8, cO_8, cL_8, cD_8, List.mem_cons, or_true, true_or, and_self, sI_S, sL_S, sR_S, sD_S, gb_S, sI_R, sL_R, sD_R, gb_R, sI_L, sR_I, sR_L, sL_I, sD_I, sD_L, gb_I, gb_L, if_pos (show iN n ≤ iN n from Int32.le_refl _), y_S20 hL1, e21, c1_It, c1_Ot, bI_T, bI_F, i10, i01]
/-- the plan behind the days -/
def uPs' (P : PL) (t : Nat) : PL := uF (upn P (ck P (iN t) 8) (iN t)) 16 1 (P.1 16 1 + iN (cn (lst P (iN t)) 8))
theorem WFx_ps (hX : WFx P) {t : Nat} (ht : t ≤ 400) : WFx (uPs' P t) := by
  have hW1 : WF (upn P (ck P (iN t) 8) (iN t)) := WF_up hX.1 ht
  have h8 := w_tn hX.1
  refine ⟨WF_16 hW1 (by simp), wfE_q hX.2.1 rfl (fun k => (uF_o (by decide)).trans (upn_o (by decide) (by decide))), fun j hj h1 h2 => ?_⟩
  have hj : j < tn P := hj
  have e1 : pld (uPs' P t) j = (pld P j && !ck P (iN t) 8 j) := (pld_q (ag_uF (by decide))).trans pld_up
  have e2 : dfd (uPs' P t) j = dfd P j := (dfd_q (ag_uF (by decide))).trans dfd_up
  rw [e1, Bool.and_eq_true] at h1
  rw [e2] at h2
  have hc : ¬ ck P (iN t) 8 j = true := fun z => by rw [z] at h1; simp at h1
  have e3 : ndl (uPs' P t) j = ndl P j := (ndl_q (ag_uF (by decide)) (ag_uF (by decide)) (ag_uF (by decide))).trans (ndl_up hc)
  have e4 : (uPs' P t).1 16 0 = iN t := (uF_n (by decide)).trans upn_16
  rw [e3, e4]
  refine le32n fun z => hc ?_
  unfold ck
  rw [decide_eq_true (show j < 8 by omega), lst_t.mpr ⟨⟨h1.1, h2⟩, z⟩]
  rfl
theorem c29 (hL : Lay L xs h) (c : CI h P H X) (mi : MI h P H X) (wi : WI P H X) {x : Int32} : Agw L xs (d + 20) 270 212 [some (vR (1, 0, 0)), some (vI x), some (vR (30, 0, 0)), none] [some (vR (20, 0, 0)), some (vI x)] h := by
  have hC := c.1; have hW := wi.1.1; have hp : 0 < 9 := Nat.zero_lt_succ 8; have h14 := w_pn hW; have h8 := w_tn hW
  obtain ⟨t, ht, et⟩ := w_td hW
  have etd : gI h (2, 0, 0) 6 = iN t := (p_td hC).trans et
  by_cases hx : 1 ≤ x ∧ x ≤ 99
  · have hxx := hx
    obtain ⟨n, hn, rfl⟩ := ofI' (n := 99) (Int32.le_trans (by decide) hx.1) hx.2 (by decide)
    have l1 := nlt32' hx.1
    have l2 := nlt32' hx.2
    by_cases hT : t + n ≤ 400
    · have l3 : iN (t + n) ≤ 400 := ile (n := 400) hT (by decide)
      have l4 := nlt32' l3
      have e59 : ∀ d, Ev d 59 0 [some (vR (2, 0, 0)), some (vI (iN n))] [] h = some (.inl (some (vI (1))), h) := fun d => by
        simp only [v59_0, v59_1, v59_2, v59_5, v59_6, v59_8, v59_11, v59_12, v59_15, v59_16, v59_17, v59_20, v59_23, v59_24, v59_27, v59_28, n_14, n_8, inB_of, Nat.reduceLT, Prod.mk.injEq, true_and, rB, rBn, rBa, rBb, rBc, rBd, Evk_v, Evk_n, Nat.reduceAdd, Nat.reduceLeDiff, Nat.le_refl, Nat.zero_le, cz_0, cz_1, cI_1, cO_1, cz_2, cI_2, cO_2, cL_2, cD_2, cz_3, cI_3, cO_3, cL_3, cD_3, cz_4, cI_4, cO_4, cL_4, cD_4, cz_5, cI_5, cO_5, cL_5, cD_5, cz_6, cI_6, cO_6, cL_6, cD_6, cz_7, cI_7, cO_7, cL_7, cD_7, cz_8, cI_8, cO_8, cL_8, cD_8, List.mem_cons, or_true, true_or, and_self, sI_S, sL_S, sR_S, sD_S, gb_S, sI_R, sL_R, sD_R, gb_R, sI_L, sR_I, sR_L, sL_I, sD_I, sD_L, gb_I, gb_L, y_S1 hL, y_S2 hL, y_S3 hL, y_S4 hL, y_S5 hL, y_S6 hL, y_S7 hL, y_S8 hL, y_S9 hL, y_S10 hL, y_S11 hL, y_S12 hL, y_S13 hL, y_S14 hL, y_S15 hL, y_R1_0 hL, y_R1_1 hL, y_R1_2 hL, y_R1_3 hL, y_R1_4 hL, y_R2_0 hL, y_R2_1 hL, y_R2_2 hL, y_R3 hL, y_R6 hL, y_R7 hL, y_R9 hL, y_R10 hL, y_R11_0 hL, y_R11_1 hL, y_R14 hL, k_nu hC, k_rk hC, k_fl hC, k_dp hC, k_lm hC, k_cf hC, t_nu hC, t_kd hC, t_fd hC, t_dp hC, t_sv hC, t_st hC, t_mb hC, t_rm hC, t_dy hC, t_hr hC, p_pc hC, p_tc hC, p_wc hC, p_td hC, p_lo hC, hp, if_neg l1, if_neg l2, et, iN_add, if_neg l4, if_true, if_false, not_true_eq_false, not_false_eq_true, Bool.false_eq_true, Int32.or_zero, ne_eq, Bool.and_eq_true, decide_eq_true_eq, decide_true, decide_false, and_true, true_and, and_false, false_and, Bool.and_true, Bool.true_and, Bool.and_false, Bool.false_and]
      obtain ⟨h1, e6, c1, k1⟩ := m6 (d := d + 14) hL c wi.2.2.1 wi.2.2.2.1 (w_wn hW)
      have hL1 := Lay_C hL k1
      have hC1 := c1.1
      obtain ⟨h2, e60, kp, c2'⟩ := m60 (d := d + 15) hL1 hC1 hp hW et hT
      have c2 : CI h2 (uPs' P (t + n)) (psH P H) X := CI_pl c1 kp c2'
      have k2 : Chg inC h h2 := ch_t k1 (ch_m inP_C kp)
      refine k_ok (v := iN (cn (lst P (iN (t + n))) 8)) hL c2 k2 mi (WI_ps wi (WFx_ps wi.1 hT)) (w270_v (y_S1 hL) (y_S30 (Lay_C hL k2)) ?_) (fun h hL mi => ?_)
      · simp only [v121_0, v121_1, v121_2, v121_5, v121_6, v121_8, v121_11, v121_14, v121_22, v121_23, v121_26, v121_27, v121_30, v121_33, v121_36, v121_44, v121_45, v121_48, v121_49, v121_52, v121_55, v121_56, v121_59, v121_60, v121_63, n_14, n_8, inB_of, Nat.reduceLT, Prod.mk.injEq, true_and, rB, rBn, rBa, rBb, rBc, rBd, Evk_v, Evk_n, Nat.reduceAdd, Nat.reduceLeDiff, Nat.le_refl, Nat.zero_le, cz_0, cz_1, cI_1, cO_1, cz_2, cI_2, cO_2, cL_2, cD_2, cz_3, cI_3, cO_3, cL_3, cD_3, cz_4, cI_4, cO_4, cL_4, cD_4, cz_5, cI_5, cO_5, cL_5, cD_5, cz_6, cI_6, cO_6, cL_6, cD_6, cz_7, cI_7, cO_7, cL_7, cD_7, cz_8, cI_8, cO_8, cL_8, cD_8, List.mem_cons, or_true, true_or, and_self, sI_S, sL_S, sR_S, sD_S, gb_S, sI_R, sL_R, sD_R, gb_R, sI_L, sR_I, sR_L, sL_I, sD_I, sD_L, gb_I, gb_L, y_S1 hL, y_S2 hL, y_S3 hL, y_S4 hL, y_S5 hL, y_S6 hL, y_S7 hL, y_S8 hL, y_S9 hL, y_S10 hL, y_S11 hL, y_S12 hL, y_S13 hL, y_S14 hL, y_S15 hL, y_R1_0 hL, y_R1_1 hL, y_R1_2 hL, y_R1_3 hL, y_R1_4 hL, y_R2_0 hL, y_R2_1 hL, y_R2_2 hL, y_R3 hL, y_R6 hL, y_R7 hL, y_R9 hL, y_R10 hL, y_R11_0 hL, y_R11_1 hL, y_R14 hL, k_nu hC, k_rk hC, k_fl hC, k_dp hC, k_lm hC, k_cf hC, t_nu hC, t_kd hC, t_fd hC, t_dp hC, t_sv hC, t_st hC, t_mb hC, t_rm hC, t_dy hC, t_hr hC, p_pc hC, p_tc hC, p_wc hC, p_td hC, p_lo hC, hp, if_neg l1, if_pos hx.2, e59, i10, e6, y_S1 hL1, y_S2 hL1, y_S3 hL1, y_S4 hL1, y_S5 hL1, y_S8 hL1, y_S9 hL1, y_R1_0 hL1, y_R1_2 hL1, y_R2_0 hL1, y_R2_1 hL1, y_R2_2 hL1, y_R6 hL1, y_R7 hL1, e60, if_true, if_false, not_true_eq_false, not_false_eq_true, Bool.false_eq_true, Int32.or_zero, ne_eq, Bool.and_eq_true, decide_eq_true_eq, decide_true, decide_false, and_true, true_and, and_false, false_and, Bool.and_true, Bool.true_and, Bool.and_false, Bool.false_and]
      ·
        have hM := mi.1
        have hL0 := Lay_sI (a := (20, 0, 0)) (m := 0) (v := 0) hL (Nat.le_of_ble_eq_true rfl)
        have hM0 := mo_x (m := 0) (v := 0) hM (by decide)
        obtain ⟨h2, e230, m2, k2, t2⟩ := m230 (d := d + 17) hL0 (MI_x (v := 0) mi (Or.inl rfl)) wi
        have hL2 := Lay_M hL0 k2
        have hM2 := m2.1
        have t20 : gI h2 (20, 0, 0) 0 = 0 := by rw [t2 0 (by decide) (by decide) (by decide), sI_I, if_pos ⟨rfl, rfl⟩]
        have m8 : gI h (20, 0, 0) 8 = iN t := (m_td hM).trans et
        obtain ⟨h3, e211, k3, u3, hM3⟩ := m211 (d := d + 17) hL2 hM2 hW wi.1.2.2 et hT
        have m3 : MI h3 (uPs' P (t + n)) (psH P H) X := MI_md m2 hM3 k3 (by unfold inD; simp) (by unfold inD; simp) (by unfold inD; simp) (fun m hm => u3 m (by omega) (by omega))
        refine ⟨h3, ?_, m3, ch_t (ch_t ch_t0 k2) (ch_m inD_M k3), (u3 0 (by decide) (by decide)).trans t20⟩
        simp only [v212_0, v212_1, v212_2, v212_4, v212_7, v212_10, v212_11, v212_12, v212_15, v212_16, v212_17, v212_20, v212_21, v212_22, v212_25, v212_28, v212_29, v212_30, v212_33, v212_34, v212_35, v212_36, v212_39, v212_40, v212_43, v212_44, v212_45, v212_48, n_14, n_8, inB_of, Nat.reduceLT, Prod.mk.injEq, true_and, rB, rBn, rBa, rBb, rBc, rBd, Evk_v, Evk_n, Nat.reduceAdd, Nat.reduceLeDiff, Nat.le_refl, Nat.zero_le, cz_0, cz_1, cI_1, cO_1, cz_2, cI_2, cO_2, cL_2, cD_2, cz_3, cI_3, cO_3, cL_3, cD_3, cz_4, cI_4, cO_4, cL_4, cD_4, cz_5, cI_5, cO_5, cL_5, cD_5, cz_6, cI_6, cO_6, cL_6, cD_6, cz_7, cI_7, cO_7, cL_7, cD_7, cz_8, cI_8, cO_8, cL_8, cD_8, List.mem_cons, or_true, true_or, and_self, sI_S, sL_S, sR_S, sD_S, gb_S, sI_R, sL_R, sD_R, gb_R, sI_L, sR_I, sR_L, sL_I, sD_I, sD_L, gb_I, gb_L, y_S20 hL, y_M_rank hL, y_M_fields hL, y_M_home hL, y_M_limit hL, y_M_conflicts hL, y_M_busy hL, y_M_kind hL, y_M_field hL, y_M_department hL, y_M_supervisor hL, y_M_stage hL, y_M_members hL, y_M_room hL, y_M_dayOf hL, y_M_hourOf hL, y_M_line hL, y_F_rank hL, y_F_fields hL, y_F_home hL, y_F_limit hL, y_F_conflicts hL, y_F_busy hL, y_F_kind hL, y_F_field hL, y_F_department hL, y_F_supervisor hL, y_F_stage hL, y_F_members hL, y_F_room hL, y_F_dayOf hL, y_F_hourOf hL, y_F_line hL, m_rk hM, m_fl hM, m_dp hM, m_lm hM, m_cf hM, m_kd hM, m_fd hM, m_de hM, m_sv hM, m_st hM, m_mb hM, m_rm hM, m_dy hM, m_hr hM, m_pc hM, m_tc hM, m_wc hM, m_td hM, m_lo hM, m143, hxx, bI_0, et, iN_add, if_pos l3, e230, y_S20 hL2, e211, c1_It, c1_Ot, bI_T, bI_F, i10, i01, if_true, if_false, not_true_eq_false, not_false_eq_true, Bool.false_eq_true, Int32.or_zero, ne_eq, Bool.and_eq_true, decide_eq_true_eq, decide_true, decide_false, and_true, true_and, and_false, false_and, Bool.and_true, Bool.true_and, Bool.and_false, Bool.false_and]
    · have l3 : ¬ iN (t + n) ≤ 400 := nle (n := t + n) (show 400 < t + n by omega) (by omega)
      have l4 : (400 : Int32) < iN (t + n) := not_le32.mp l3
      have e59 : ∀ d, Ev d 59 0 [some (vR (2, 0, 0)), some (vI (iN n))] [] h = some (.inl (some (vI (0))), h) := fun d => by
        simp only [v59_0, v59_1, v59_2, v59_5, v59_6, v59_8, v59_11, v59_12, v59_15, v59_16, v59_17, v59_20, v59_23, v59_24, v59_27, v59_28, n_14, n_8, inB_of, Nat.reduceLT, Prod.mk.injEq, true_and, rB, rBn, rBa, rBb, rBc, rBd, Evk_v, Evk_n, Nat.reduceAdd, Nat.reduceLeDiff, Nat.le_refl, Nat.zero_le, cz_0, cz_1, cI_1, cO_1, cz_2, cI_2, cO_2, cL_2, cD_2, cz_3, cI_3, cO_3, cL_3, cD_3, cz_4, cI_4, cO_4, cL_4, cD_4, cz_5, cI_5, cO_5, cL_5, cD_5, cz_6, cI_6, cO_6, cL_6, cD_6, cz_7, cI_7, cO_7, cL_7, cD_7, cz_8, cI_8, cO_8, cL_8, cD_8, List.mem_cons, or_true, true_or, and_self, sI_S, sL_S, sR_S, sD_S, gb_S, sI_R, sL_R, sD_R, gb_R, sI_L, sR_I, sR_L, sL_I, sD_I, sD_L, gb_I, gb_L, y_S1 hL, y_S2 hL, y_S3 hL, y_S4 hL, y_S5 hL, y_S6 hL, y_S7 hL, y_S8 hL, y_S9 hL, y_S10 hL, y_S11 hL, y_S12 hL, y_S13 hL, y_S14 hL, y_S15 hL, y_R1_0 hL, y_R1_1 hL, y_R1_2 hL, y_R1_3 hL, y_R1_4 hL, y_R2_0 hL, y_R2_1 hL, y_R2_2 hL, y_R3 hL, y_R6 hL, y_R7 hL, y_R9 hL, y_R10 hL, y_R11_0 hL, y_R11_1 hL, y_R14 hL, k_nu hC, k_rk hC, k_fl hC, k_dp hC, k_lm hC, k_cf hC, t_nu hC, t_kd hC, t_fd hC, t_dp hC, t_sv hC, t_st hC, t_mb hC, t_rm hC, t_dy hC, t_hr hC, p_pc hC, p_tc hC, p_wc hC, p_td hC, p_lo hC, hp, if_neg l1, if_neg l2, et, iN_add, if_pos l4, if_true, if_false, not_true_eq_false, not_false_eq_true, Bool.false_eq_true, Int32.or_zero, ne_eq, Bool.and_eq_true, decide_eq_true_eq, decide_true, decide_false, and_true, true_and, and_false, false_and, Bool.and_true, Bool.true_and, Bool.and_false, Bool.false_and]
      refine q_ex (k := 2) (b := 0) hL c mi wi (by decide) (w270_1 (y_S1 hL) ?_) (fun h hL mi => ?_)
      · simp only [v121_0, v121_1, v121_2, v121_5, v121_6, v121_8, v121_11, v121_14, v121_22, v121_23, v121_26, v121_27, v121_30, v121_33, v121_36, v121_44, v121_45, v121_48, v121_49, v121_52, v121_55, v121_56, v121_59, v121_60, v121_63, n_14, n_8, inB_of, Nat.reduceLT, Prod.mk.injEq, true_and, rB, rBn, rBa, rBb, rBc, rBd, Evk_v, Evk_n, Nat.reduceAdd, Nat.reduceLeDiff, Nat.le_refl, Nat.zero_le, cz_0, cz_1, cI_1, cO_1, cz_2, cI_2, cO_2, cL_2, cD_2, cz_3, cI_3, cO_3, cL_3, cD_3, cz_4, cI_4, cO_4, cL_4, cD_4, cz_5, cI_5, cO_5, cL_5, cD_5, cz_6, cI_6, cO_6, cL_6, cD_6, cz_7, cI_7, cO_7, cL_7, cD_7, cz_8, cI_8, cO_8, cL_8, cD_8, List.mem_cons, or_true, true_or, and_self, sI_S, sL_S, sR_S, sD_S, gb_S, sI_R, sL_R, sD_R, gb_R, sI_L, sR_I, sR_L, sL_I, sD_I, sD_L, gb_I, gb_L, y_S1 hL, y_S2 hL, y_S3 hL, y_S4 hL, y_S5 hL, y_S6 hL, y_S7 hL, y_S8 hL, y_S9 hL, y_S10 hL, y_S11 hL, y_S12 hL, y_S13 hL, y_S14 hL, y_S15 hL, y_R1_0 hL, y_R1_1 hL, y_R1_2 hL, y_R1_3 hL, y_R1_4 hL, y_R2_0 hL, y_R2_1 hL, y_R2_2 hL, y_R3 hL, y_R6 hL, y_R7 hL, y_R9 hL, y_R10 hL, y_R11_0 hL, y_R11_1 hL, y_R14 hL, k_nu hC, k_rk hC, k_fl hC, k_dp hC, k_lm hC, k_cf hC, t_nu hC, t_kd hC, t_fd hC, t_dp hC, t_sv hC, t_st hC, t_mb hC, t_rm hC, t_dy hC, t_hr hC, p_pc hC, p_tc hC, p_wc hC, p_td hC, p_lo hC, hp, if_neg l1, if_pos hx.2, e59, if_true, if_false, not_true_eq_false, not_false_eq_true, Bool.false_eq_true, Int32.or_zero, ne_eq, Bool.and_eq_true, decide_eq_true_eq, decide_true, decide_false, and_true, true_and, and_false, false_and, Bool.and_true, Bool.true_and, Bool.and_false, Bool.false_and]
      · have hM := mi.1; have hL0 := Lay_sI (a := (20, 0, 0)) (m := 0) (v := 0) hL (Nat.le_of_ble_eq_true rfl); have hM0 := mo_x (m := 0) (v := 0) hM (by decide)
        simp only [v212_0, v212_1, v212_2, v212_4, v212_7, v212_10, v212_11, v212_12, v212_15, v212_16, v212_17, v212_20, v212_21, v212_22, v212_25, v212_28, v212_29, v212_30, v212_33, v212_34, v212_35, v212_36, v212_39, v212_40, v212_43, v212_44, v212_45, v212_48, n_14, n_8, inB_of, Nat.reduceLT, Prod.mk.injEq, true_and, rB, rBn, rBa, rBb, rBc, rBd, Evk_v, Evk_n, Nat.reduceAdd, Nat.reduceLeDiff, Nat.le_refl, Nat.zero_le, cz_0, cz_1, cI_1, cO_1, cz_2, cI_2, cO_2, cL_2, cD_2, cz_3, cI_3, cO_3, cL_3, cD_3, cz_4, cI_4, cO_4, cL_4, cD_4, cz_5, cI_5, cO_5, cL_5, cD_5, cz_6, cI_6, cO_6, cL_6, cD_6, cz_7, cI_7, cO_7, cL_7, cD_7, cz_8, cI_8, cO_8, cL_8, cD_8, List.mem_cons, or_true, true_or, and_self, sI_S, sL_S, sR_S, sD_S, gb_S, sI_R, sL_R, sD_R, gb_R, sI_L, sR_I, sR_L, sL_I, sD_I, sD_L, gb_I, gb_L, y_S20 hL, y_M_rank hL, y_M_fields hL, y_M_home hL, y_M_limit hL, y_M_conflicts hL, y_M_busy hL, y_M_kind hL, y_M_field hL, y_M_department hL, y_M_supervisor hL, y_M_stage hL, y_M_members hL, y_M_room hL, y_M_dayOf hL, y_M_hourOf hL, y_M_line hL, y_F_rank hL, y_F_fields hL, y_F_home hL, y_F_limit hL, y_F_conflicts hL, y_F_busy hL, y_F_kind hL, y_F_field hL, y_F_department hL, y_F_supervisor hL, y_F_stage hL, y_F_members hL, y_F_room hL, y_F_dayOf hL, y_F_hourOf hL, y_F_line hL, m_rk hM, m_fl hM, m_dp hM, m_lm hM, m_cf hM, m_kd hM, m_fd hM, m_de hM, m_sv hM, m_st hM, m_mb hM, m_rm hM, m_dy hM, m_hr hM, m_pc hM, m_tc hM, m_wc hM, m_td hM, m_lo hM, m143, hxx, bI_0, et, iN_add, if_neg l3, m141 hL, c1_It, c1_Ot, bI_T, bI_F, i10, i01, if_true, if_false, not_true_eq_false, not_false_eq_true, Bool.false_eq_true, Int32.or_zero, ne_eq, Bool.and_eq_true, decide_eq_true_eq, decide_true, decide_false, and_true, true_and, and_false, false_and, Bool.and_true, Bool.true_and, Bool.and_false, Bool.false_and]
  ·
    refine q_ex (k := 1) (b := 0) hL c mi wi (by decide) (w270_0 (y_S1 hL) ?_) (fun h hL mi => ?_)
    · by_cases v1 : x < 1
      · simp only [v121_0, v121_1, v121_2, v121_5, v121_6, v121_8, v121_11, v121_14, v121_22, v121_23, v121_26, v121_27, v121_30, v121_33, v121_36, v121_44, v121_45, v121_48, v121_49, v121_52, v121_55, v121_56, v121_59, v121_60, v121_63, n_14, n_8, inB_of, Nat.reduceLT, Prod.mk.injEq, true_and, rB, rBn, rBa, rBb, rBc, rBd, Evk_v, Evk_n, Nat.reduceAdd, Nat.reduceLeDiff, Nat.le_refl, Nat.zero_le, cz_0, cz_1, cI_1, cO_1, cz_2, cI_2, cO_2, cL_2, cD_2, cz_3, cI_3, cO_3, cL_3, cD_3, cz_4, cI_4, cO_4, cL_4, cD_4, cz_5, cI_5, cO_5, cL_5, cD_5, cz_6, cI_6, cO_6, cL_6, cD_6, cz_7, cI_7, cO_7, cL_7, cD_7, cz_8, cI_8, cO_8, cL_8, cD_8, List.mem_cons, or_true, true_or, and_self, sI_S, sL_S, sR_S, sD_S, gb_S, sI_R, sL_R, sD_R, gb_R, sI_L, sR_I, sR_L, sL_I, sD_I, sD_L, gb_I, gb_L, y_S1 hL, y_S2 hL, y_S3 hL, y_S4 hL, y_S5 hL, y_S6 hL, y_S7 hL, y_S8 hL, y_S9 hL, y_S10 hL, y_S11 hL, y_S12 hL, y_S13 hL, y_S14 hL, y_S15 hL, y_R1_0 hL, y_R1_1 hL, y_R1_2 hL, y_R1_3 hL, y_R1_4 hL, y_R2_0 hL, y_R2_1 hL, y_R2_2 hL, y_R3 hL, y_R6 hL, y_R7 hL, y_R9 hL, y_R10 hL, y_R11_0 hL, y_R11_1 hL, y_R14 hL, k_nu hC, k_rk hC, k_fl hC, k_dp hC, k_lm hC, k_cf hC, t_nu hC, t_kd hC, t_fd hC, t_dp hC, t_sv hC, t_st hC, t_mb hC, t_rm hC, t_dy hC, t_hr hC, p_pc hC, p_tc hC, p_wc hC, p_td hC, p_lo hC, hp, if_pos v1, if_true, if_false, not_true_eq_false, not_false_eq_true, Bool.false_eq_true, Int32.or_zero, ne_eq, Bool.and_eq_true, decide_eq_true_eq, decide_true, decide_false, and_true, true_and, and_false, false_and, Bool.and_true, Bool.true_and, Bool.and_false, Bool.false_and]
      · have v2 : ¬ x ≤ 99 := fun q => hx ⟨le32n v1, q⟩
        simp only [v121_0, v121_1, v121_2, v121_5, v121_6, v121_8, v121_11, v121_14, v121_22, v121_23, v121_26, v121_27, v121_30, v121_33, v121_36, v121_44, v121_45, v121_48, v121_49, v121_52, v121_55, v121_56, v121_59, v121_60, v121_63, n_14, n_8, inB_of, Nat.reduceLT, Prod.mk.injEq, true_and, rB, rBn, rBa, rBb, rBc, rBd, Evk_v, Evk_n, Nat.reduceAdd, Nat.reduceLeDiff, Nat.le_refl, Nat.zero_le, cz_0, cz_1, cI_1, cO_1, cz_2, cI_2, cO_2, cL_2, cD_2, cz_3, cI_3, cO_3, cL_3, cD_3, cz_4, cI_4, cO_4, cL_4, cD_4, cz_5, cI_5, cO_5, cL_5, cD_5, cz_6, cI_6, cO_6, cL_6, cD_6, cz_7, cI_7, cO_7, cL_7, cD_7, cz_8, cI_8, cO_8, cL_8, cD_8, List.mem_cons, or_true, true_or, and_self, sI_S, sL_S, sR_S, sD_S, gb_S, sI_R, sL_R, sD_R, gb_R, sI_L, sR_I, sR_L, sL_I, sD_I, sD_L, gb_I, gb_L, y_S1 hL, y_S2 hL, y_S3 hL, y_S4 hL, y_S5 hL, y_S6 hL, y_S7 hL, y_S8 hL, y_S9 hL, y_S10 hL, y_S11 hL, y_S12 hL, y_S13 hL, y_S14 hL, y_S15 hL, y_R1_0 hL, y_R1_1 hL, y_R1_2 hL, y_R1_3 hL, y_R1_4 hL, y_R2_0 hL, y_R2_1 hL, y_R2_2 hL, y_R3 hL, y_R6 hL, y_R7 hL, y_R9 hL, y_R10 hL, y_R11_0 hL, y_R11_1 hL, y_R14 hL, k_nu hC, k_rk hC, k_fl hC, k_dp hC, k_lm hC, k_cf hC, t_nu hC, t_kd hC, t_fd hC, t_dp hC, t_sv hC, t_st hC, t_mb hC, t_rm hC, t_dy hC, t_hr hC, p_pc hC, p_tc hC, p_wc hC, p_td hC, p_lo hC, hp, if_neg v1, if_neg v2, if_true, if_false, not_true_eq_false, not_false_eq_true, Bool.false_eq_true, Int32.or_zero, ne_eq, Bool.and_eq_true, decide_eq_true_eq, decide_true, decide_false, and_true, true_and, and_false, false_and, Bool.and_true, Bool.true_and, Bool.and_false, Bool.false_and]
    · have hM := mi.1; have hL0 := Lay_sI (a := (20, 0, 0)) (m := 0) (v := 0) hL (Nat.le_of_ble_eq_true rfl); have hM0 := mo_x (m := 0) (v := 0) hM (by decide)
      simp only [v212_0, v212_1, v212_2, v212_4, v212_7, v212_10, v212_11, v212_12, v212_15, v212_16, v212_17, v212_20, v212_21, v212_22, v212_25, v212_28, v212_29, v212_30, v212_33, v212_34, v212_35, v212_36, v212_39, v212_40, v212_43, v212_44, v212_45, v212_48, n_14, n_8, inB_of, Nat.reduceLT, Prod.mk.injEq, true_and, rB, rBn, rBa, rBb, rBc, rBd, Evk_v, Evk_n, Nat.reduceAdd, Nat.reduceLeDiff, Nat.le_refl, Nat.zero_le, cz_0, cz_1, cI_1, cO_1, cz_2, cI_2, cO_2, cL_2, cD_2, cz_3, cI_3, cO_3, cL_3, cD_3, cz_4, cI_4, cO_4, cL_4, cD_4, cz_5, cI_5, cO_5, cL_5, cD_5, cz_6, cI_6, cO_6, cL_6, cD_6, cz_7, cI_7, cO_7, cL_7, cD_7, cz_8, cI_8, cO_8, cL_8, cD_8, List.mem_cons, or_true, true_or, and_self, sI_S, sL_S, sR_S, sD_S, gb_S, sI_R, sL_R, sD_R, gb_R, sI_L, sR_I, sR_L, sL_I, sD_I, sD_L, gb_I, gb_L, m143, hx, bI_0, y_S20 hL, m141 hL, c1_It, c1_Ot, bI_T, bI_F, i10, i01, if_true, if_false, not_true_eq_false, not_false_eq_true, Bool.false_eq_true, Int32.or_zero, ne_eq, Bool.and_eq_true, decide_eq_true_eq, decide_true, decide_false, and_true, true_and, and_false, false_and, Bool.and_true, Bool.true_and, Bool.and_false, Bool.false_and]
end T7
