/-! CALLS THAT CHANGE: serve -/



/-- the plan, and how many places of the line are kept, behind i places -/
def sv (P : PL) : Nat → PL × Nat
  | 0 => (P, 0)
  | i + 1 => match ear (sv P i).1 (P.1 15 i).toNatClampNeg with
    | none => (uF (sv P i).1 15 (sv P i).2 (P.1 15 i), (sv P i).2 + 1)
    | some v => (uPl (sv P i).1 (P.1 15 i).toNatClampNeg (iN (v % 10)) (iN (v / 100)) (iN (v / 10 % 10)), (sv P i).2)
def svP (P : PL) : PL := ((sv P (wn P)).1.1, pn P, tn P, (sv P (wn P)).2)
section T8
variable {L : Nat} {xs : Nat → Int32} {h h' h1 : Hp} {p : Nat} {P P' Q : PL} {H H' : HS} {X X' : XS} {d : Nat}
theorem iN_d10 {a : Nat} (ha : a < 2147483648) : iN a / 10 = iN (a / 10) := iN_div ha (by decide)
theorem iN_d100 {a : Nat} (ha : a < 2147483648) : iN a / 100 = iN (a / 100) := iN_div ha (by decide)
theorem iN_m10 {a : Nat} : iN a - iN (a / 10) * 10 = iN (a % 10) := by
  show iN a - iN (a / 10) * iN 10 = _
  rw [iN_mul, iN_sub (by omega)]
  congr 1; omega
theorem sv_n {i : Nat} (e : ear (sv P i).1 (P.1 15 i).toNatClampNeg = none) : sv P (i + 1) = (uF (sv P i).1 15 (sv P i).2 (P.1 15 i), (sv P i).2 + 1) := by
  show (match ear (sv P i).1 (P.1 15 i).toNatClampNeg with
    | none => (uF (sv P i).1 15 (sv P i).2 (P.1 15 i), (sv P i).2 + 1)
    | some v => (uPl (sv P i).1 (P.1 15 i).toNatClampNeg (iN (v % 10)) (iN (v / 100)) (iN (v / 10 % 10)), (sv P i).2)) = _
  rw [e]
theorem sv_s {i v : Nat} (e : ear (sv P i).1 (P.1 15 i).toNatClampNeg = some v) : sv P (i + 1) = (uPl (sv P i).1 (P.1 15 i).toNatClampNeg (iN (v % 10)) (iN (v / 100)) (iN (v / 10 % 10)), (sv P i).2) := by
  show (match ear (sv P i).1 (P.1 15 i).toNatClampNeg with
    | none => (uF (sv P i).1 15 (sv P i).2 (P.1 15 i), (sv P i).2 + 1)
    | some v => (uPl (sv P i).1 (P.1 15 i).toNatClampNeg (iN (v % 10)) (iN (v / 100)) (iN (v / 10 % 10)), (sv P i).2)) = _
  rw [e]
theorem ear_wat (hW : WF P) {j v : Nat} (hj : j < 8) (e : ear P j = some v) : wat P j (v % 10) (v / 100) (v / 10 % 10) = 0 ∧ v % 10 < 3 ∧ v / 100 < 401 ∧ v / 10 % 10 < 7 := by
  unfold ear at e
  split at e
  · cases e
  · rename_i z
    have z1 : ¬ dfd P j = true := fun q => z (Or.inl q)
    have z2 : hld P j (P.1 11 j) = true := Decidable.byContradiction fun q => z (Or.inr q)
    split at e
    · cases e
    · rename_i k hk
      split at e
      · cases e
      · rename_i t ht
        have h1 := (fnd_some.1 hk).1
        unfold eto at ht
        split at ht
        · cases ht
        · rename_i u hu
          split at ht
          · cases ht
          · rename_i r hr
            obtain ⟨r1, r2, -⟩ := fnd_some.1 hr
            have u1 := (fnd_some.1 hu).1
            cases ht
            cases e
            have e1 : (100 * (fdn P j + k) + (10 * u + r)) % 10 = r := by omega
            have e2 : (100 * (fdn P j + k) + (10 * u + r)) / 100 = fdn P j + k := by omega
            have e3 : (100 * (fdn P j + k) + (10 * u + r)) / 10 % 10 = u := by omega
            rw [e1, e2, e3]
            refine ⟨?_, r1, by omega, u1⟩
            unfold fts at r2
            rw [Bool.and_eq_true, decide_eq_true_iff, decide_eq_true_iff] at r2
            obtain ⟨f1, f2⟩ := fdy_N hW hj z1
            have z5 : ¬ iN (fdn P j + k) < fdy P j := by
              rw [f2]
              exact nlt32' (ile (by omega) (by omega))
            unfold wat
            rw [if_neg z1, if_neg (not_not_intro z2), if_neg (not_not_intro r2.2), if_neg (not_not_intro r2.1), if_neg z5]
theorem wfN_pl (hW : WF P) (hN : wfN P) {j r x u : Nat} (hj : j < tn P) (hx : x < 401) (hz : wat P j r x u = 0) : wfN (uPl P j (iN r) (iN x) (iN u)) := by
  have hj8 : j < 8 := Nat.lt_of_lt_of_le hj (w_tn hW)
  obtain ⟨a1, a2, a3⟩ := wat_i hz
  intro k hk h1 h2
  by_cases y : k = j
  · subst y
    obtain ⟨s, hs, es⟩ := w_st3 hW hj8 a1
    rw [ndl_pl, es, n_i (by omega), ag_pl (by decide)]
    rw [← dl_lt hW hj8 hx hs es] at a3
    exact le32n a3
  · obtain ⟨b1, b2, b3⟩ := pl_same (P := P) (r := iN r) (x := iN x) (u := iN u) y
    rw [b1] at h1
    rw [b2] at h2
    rw [b3, ag_pl (by decide)]
    exact hN k hk h1 h2
def SV (P Q : PL) (k i : Nat) : Prop := WF Q ∧ Q.2 = P.2 ∧ wfN Q ∧ k ≤ i ∧ (∀ m, i ≤ m → Q.1 15 m = P.1 15 m) ∧ (∀ m, m < k → ∃ q, q < i ∧ Q.1 15 m = P.1 15 q) ∧ ∀ a b, a < b → b < k → Q.1 15 a ≠ Q.1 15 b
theorem SV_ok (hX : WFx P) : ∀ i, i ≤ wn P → SV P (sv P i).1 (sv P i).2 i := by
  intro i
  induction i with
  | zero => intro _; exact ⟨hX.1, rfl, hX.2.2, Nat.le_refl _, fun _ _ => rfl, fun m hm => absurd hm (Nat.not_lt_zero m), fun a b _ hb => absurd hb (Nat.not_lt_zero b)⟩
  | succ i ih =>
    intro hi
    obtain ⟨s1, s2, s3, s4, s5, s6, s7⟩ := ih (by omega)
    obtain ⟨j, hj, ej⟩ := w_ln hX (show i < wn P by omega)
    have h8 := w_tn hX.1
    have en : (P.1 15 i).toNatClampNeg = j := by rw [ej, n_i (by omega)]
    have tQ : tn (sv P i).1 = tn P := by unfold tn; rw [s2]
    cases e : ear (sv P i).1 (P.1 15 i).toNatClampNeg with
    | none =>
      rw [sv_n e]
      refine ⟨WF_15 s1, s2, wfN_q s3 rfl (uF_o (by decide)) (ag_uF (by decide)) (ag_uF (by decide)) (ag_uF (by decide)) (ag_uF (by decide)), (show (sv P i).2 + 1 ≤ i + 1 by omega), fun m hm => ?_, fun m hm => ?_, fun a b hab hb => ?_⟩
      · show (uF (sv P i).1 15 (sv P i).2 (P.1 15 i)).1 15 m = _
        rw [uF_n (by omega)]; exact s5 m (by omega)
      · have hm : m < (sv P i).2 + 1 := hm
        show ∃ q, q < i + 1 ∧ (uF (sv P i).1 15 (sv P i).2 (P.1 15 i)).1 15 m = P.1 15 q
        by_cases y : m = (sv P i).2
        · exact ⟨i, Nat.lt_succ_self _, by rw [y, uF_s]⟩
        · obtain ⟨q, hq, eq⟩ := s6 m (by omega)
          exact ⟨q, by omega, by rw [uF_n y]; exact eq⟩
      · have hb : b < (sv P i).2 + 1 := hb
        show (uF (sv P i).1 15 (sv P i).2 (P.1 15 i)).1 15 a ≠ (uF (sv P i).1 15 (sv P i).2 (P.1 15 i)).1 15 b
        rw [uF_n (show a ≠ (sv P i).2 by omega)]
        by_cases y : b = (sv P i).2
        · rw [y, uF_s]
          obtain ⟨q, hq, eq⟩ := s6 a (by omega)
          rw [eq]
          exact w_ld hX hq (by omega)
        · rw [uF_n y]; exact s7 a b hab (by omega)
    | some v =>
      rw [sv_s e]
      rw [en] at e ⊢
      obtain ⟨a1, a2, a3, a4⟩ := ear_wat s1 (show j < 8 by omega) e
      have l : ∀ m, (uPl (sv P i).1 j (iN (v % 10)) (iN (v / 100)) (iN (v / 10 % 10))).1 15 m = (sv P i).1.1 15 m := fun m => ag_pl (by decide) m
      refine ⟨WF_pl s1 (by rw [tQ]; exact hj) (Or.inr ⟨_, _, _, a2, a3, a4, rfl, rfl, rfl⟩), s2, wfN_pl s1 s3 (by rw [tQ]; exact hj) a3 a1, (show (sv P i).2 ≤ i + 1 by omega), fun m hm => ?_, fun m hm => ?_, fun a b hab hb => ?_⟩
      · show (uPl (sv P i).1 j (iN (v % 10)) (iN (v / 100)) (iN (v / 10 % 10))).1 15 m = _
        rw [l]; exact s5 m (by omega)
      · show ∃ q, q < i + 1 ∧ (uPl (sv P i).1 j (iN (v % 10)) (iN (v / 100)) (iN (v / 10 % 10))).1 15 m = P.1 15 q
        obtain ⟨q, hq, eq⟩ := s6 m hm
        exact ⟨q, by omega, (l m).trans eq⟩
      · show (uPl (sv P i).1 j (iN (v % 10)) (iN (v / 100)) (iN (v / 10 % 10))).1 15 a ≠ (uPl (sv P i).1 j (iN (v % 10)) (iN (v / 100)) (iN (v / 10 % 10))).1 15 b
        rw [l, l]; exact s7 a b hab hb
theorem WFx_sv (hX : WFx P) : WFx (svP P) := by
  obtain ⟨s1, s2, s3, s4, s5, s6, s7⟩ := SV_ok hX (wn P) (Nat.le_refl _)
  have hw := w_wn hX.1
  have e : svP P = ((sv P (wn P)).1.1, pn (sv P (wn P)).1, tn (sv P (wn P)).1, (sv P (wn P)).2) := by
    unfold svP pn tn
    rw [s2]
  refine ⟨by rw [e]; exact WF_wn s1 (by omega), ⟨fun k hk => ?_, fun k l hkl hl => s7 k l hkl hl⟩, by rw [e]; exact s3⟩
  obtain ⟨q, hq, eq⟩ := s6 k hk
  obtain ⟨t, ht, et⟩ := w_ln hX hq
  exact ⟨t, ht, eq.trans et⟩
theorem m58 (hL : Lay L xs h) (hC : Cls h p P) (hp : p < 9) (hX : WFx P) : ∃ h', Ev (d + 5) 58 0 [some (vR (2, p, 0)), none, none, none, none] [] h = some (.inl (some (vI (iN (wn P - (sv P (wn P)).2)))), h') ∧ Chg (inP p) h h' ∧ Cls h' p (svP P) := by
  have hw := w_wn hX.1
  have h8 := w_tn hX.1
  have lp := loopI (σ := LS3 × Hp) (E := fun s => Ev (d + 5) 58 4 s.1 [] s.2) (I := fun i s => (∃ o o' : Option MV, s.1 = [some (vR (2, p, 0)), some (vI (iN (i - (sv P i).2))), some (vI (iN i)), o, o']) ∧ Chg (inP p) h s.2 ∧ Cls s.2 p (sv P i).1) (n := wn P) (by
    rintro i hi ⟨ls, h1⟩ ⟨⟨o, o', rfl⟩, c, hQ⟩
    obtain ⟨s1, s2, s3, s4, s5, s6, s7⟩ := SV_ok hX i (by omega)
    obtain ⟨j, hj, ej⟩ := w_ln hX hi
    have hj8 : j < 8 := by omega
    have hi8 : i < 8 := by omega
    have en : (P.1 15 i).toNatClampNeg = j := by rw [ej, n_i (by omega)]
    have tQ : tn (sv P i).1 = tn P := by unfold tn; rw [s2]
    have wQ : wn (sv P i).1 = wn P := by unfold wn; rw [s2]
    have hnl : ¬ (iN (wn P) ≤ iN i) := nle hi (by omega)
    have hL1 := Lay_ch hL c (fun a ha z => by have := z.2.2; omega)
    have e5 : gI h1 (2, p, 0) 5 = iN (wn P) := (p_wc hQ).trans (by rw [wQ])
    have e4 : gI h1 (2, p, 0) 4 = iN (tn P) := (p_tc hQ).trans (by rw [tQ])
    have el : gI h1 (8, p, 0) i = iN j := (l_ln hQ (by rw [wQ]; exact hi)).trans ((s5 i (Nat.le_refl _)).trans ej)
    have hb : 0 ≤ iN j ∧ iN j < iN (tn P) := ⟨i_0 (by omega), ilt hj (by omega)⟩
    have e51 := fun d => m51 (d := d) hL1 hQ hp s1 hj8
    have q1 : iN i - iN (i - (sv P i).2) = iN (sv P i).2 := by
      rw [iN_sub (by omega)]
      congr 1; omega
    have hk8 : (sv P i).2 < 8 := by omega
    cases e : ear (sv P i).1 j with
    | none =>
      rw [e] at e51
      have eS := sv_n (P := P) (i := i) (by rw [en]; exact e)
      refine ⟨(_, sI h1 (8, p, 0) (sv P i).2 (iN j)), ⟨⟨some (vI (iN j)), some (vI (-1)), rfl⟩, ch_t c (ch_sI inP_8), by rw [eS, ej]; exact cl_ln hQ⟩, ?_⟩
      show Ev (d + 5) 58 4 _ [] h1 = Ev (d + 5) 58 4 _ [] (sI h1 (8, p, 0) (sv P i).2 (iN j))
      rw [v58_4, show i + 1 - (sv P (i + 1)).2 = i - (sv P i).2 by rw [eS]; show i + 1 - ((sv P i).2 + 1) = _; omega]
      simp only [v58_0, v58_1, v58_2, v58_3, v58_5, v58_6, v58_9, v58_12, v58_13, v58_16, v58_17, v58_18, v58_19, v58_20, v58_21, v58_24, v58_27, v58_30, v58_31, v58_32, v58_35, v58_36, v58_37, v58_40, v58_43, v58_44, v58_46, v58_48, v58_49, v58_52, v58_53, v58_56, v58_57, v58_58, v58_59, v58_60, v58_61, v58_64, v58_65, v58_68, v58_69, v58_70, v58_72, v58_74, v58_75, v58_77, v58_79, v58_80, v58_82, v58_84, v58_85, v58_87, v58_88, v58_91, v58_94, v58_97, v58_100, v58_101, v58_102, v58_105, v58_106, v58_107, v58_110, v58_111, n_14, n_8, inB_of, Nat.reduceLT, Prod.mk.injEq, true_and, rB, rBn, rBa, rBb, rBc, rBd, Evk_v, Evk_n, Nat.reduceAdd, Nat.reduceLeDiff, Nat.le_refl, Nat.zero_le, cz_0, cz_1, cI_1, cO_1, cz_2, cI_2, cO_2, cL_2, cD_2, cz_3, cI_3, cO_3, cL_3, cD_3, cz_4, cI_4, cO_4, cL_4, cD_4, cz_5, cI_5, cO_5, cL_5, cD_5, cz_6, cI_6, cO_6, cL_6, cD_6, cz_7, cI_7, cO_7, cL_7, cD_7, cz_8, cI_8, cO_8, cL_8, cD_8, List.mem_cons, or_true, true_or, and_self, sI_S, sL_S, sR_S, sD_S, gb_S, sI_R, sL_R, sD_R, gb_R, sI_L, sR_I, sR_L, sL_I, sD_I, sD_L, gb_I, gb_L, y_S2 hL1, y_S5 hL1, y_S7 hL1, y_S8 hL1, y_R2_1 hL1, y_R2_2 hL1, y_R7 hL1, hp, hj8, hi8, e5, e4, el, if_neg hnl, m137, hb, bI_0, e51, oN, q1, hk8, iN_s, c1_It, c1_Ot, bI_T, bI_F, i10, i01, if_true, if_false, not_true_eq_false, not_false_eq_true, Bool.false_eq_true, Int32.or_zero, ne_eq, Bool.and_eq_true, decide_eq_true_eq, decide_true, decide_false, and_true, true_and, and_false, false_and, Bool.and_true, Bool.true_and, Bool.and_false, Bool.false_and]
    | some v =>
      rw [e] at e51
      have hv := ear_lt e
      have eS := sv_s (P := P) (i := i) (v := v) (by rw [en]; exact e)
      rw [en] at eS
      have n10 : ¬ (10 : Int32) = 0 := by decide
      have n100 : ¬ (100 : Int32) = 0 := by decide
      have e77 := fun d => m77 (d := d) (r := iN (v % 10)) (f := iN (v / 100)) (c := iN (v / 10 % 10)) (y_S5 hL1 hp hj8)
      refine ⟨(_, tpl h1 p j (iN (v % 10)) (iN (v / 100)) (iN (v / 10 % 10))), ⟨⟨some (vI (iN j)), some (vI (iN v)), rfl⟩, ch_t c (ch_tpl inP_5), by rw [eS]; exact cl_tpl hQ⟩, ?_⟩
      show Ev (d + 5) 58 4 _ [] h1 = Ev (d + 5) 58 4 _ [] (tpl h1 p j (iN (v % 10)) (iN (v / 100)) (iN (v / 10 % 10)))
      rw [v58_4, show i + 1 - (sv P (i + 1)).2 = i - (sv P i).2 + 1 by rw [eS]; show i + 1 - (sv P i).2 = _; omega]
      simp only [v58_0, v58_1, v58_2, v58_3, v58_5, v58_6, v58_9, v58_12, v58_13, v58_16, v58_17, v58_18, v58_19, v58_20, v58_21, v58_24, v58_27, v58_30, v58_31, v58_32, v58_35, v58_36, v58_37, v58_40, v58_43, v58_44, v58_46, v58_48, v58_49, v58_52, v58_53, v58_56, v58_57, v58_58, v58_59, v58_60, v58_61, v58_64, v58_65, v58_68, v58_69, v58_70, v58_72, v58_74, v58_75, v58_77, v58_79, v58_80, v58_82, v58_84, v58_85, v58_87, v58_88, v58_91, v58_94, v58_97, v58_100, v58_101, v58_102, v58_105, v58_106, v58_107, v58_110, v58_111, n_14, n_8, inB_of, Nat.reduceLT, Prod.mk.injEq, true_and, rB, rBn, rBa, rBb, rBc, rBd, Evk_v, Evk_n, Nat.reduceAdd, Nat.reduceLeDiff, Nat.le_refl, Nat.zero_le, cz_0, cz_1, cI_1, cO_1, cz_2, cI_2, cO_2, cL_2, cD_2, cz_3, cI_3, cO_3, cL_3, cD_3, cz_4, cI_4, cO_4, cL_4, cD_4, cz_5, cI_5, cO_5, cL_5, cD_5, cz_6, cI_6, cO_6, cL_6, cD_6, cz_7, cI_7, cO_7, cL_7, cD_7, cz_8, cI_8, cO_8, cL_8, cD_8, List.mem_cons, or_true, true_or, and_self, sI_S, sL_S, sR_S, sD_S, gb_S, sI_R, sL_R, sD_R, gb_R, sI_L, sR_I, sR_L, sL_I, sD_I, sD_L, gb_I, gb_L, y_S2 hL1, y_S5 hL1, y_S7 hL1, y_S8 hL1, y_R2_1 hL1, y_R2_2 hL1, y_R7 hL1, hp, hj8, hi8, e5, e4, el, if_neg hnl, m137, hb, bI_0, e51, oN, oN_ne (show v < 2147483648 by omega), n10, n100, iN_d10 (show v < 2147483648 by omega), iN_d10 (show v / 10 < 2147483648 by omega), iN_d100 (show v < 2147483648 by omega), iN_m10, e77, iN_s, c1_It, c1_Ot, bI_T, bI_F, i10, i01, if_true, if_false, not_true_eq_false, not_false_eq_true, Bool.false_eq_true, Int32.or_zero, ne_eq, Bool.and_eq_true, decide_eq_true_eq, decide_true, decide_false, and_true, true_and, and_false, false_and, Bool.and_true, Bool.true_and, Bool.and_false, Bool.false_and])
  obtain ⟨⟨ls, h1⟩, ⟨⟨o, o', rfl⟩, c, hQ⟩, e⟩ := lp (_, h) ⟨⟨none, none, rfl⟩, ch_r, hC⟩
  obtain ⟨s1, s2, s3, s4, s5, s6, s7⟩ := SV_ok hX (wn P) (Nat.le_refl _)
  have hL1 := Lay_ch hL c (fun a ha z => by have := z.2.2; omega)
  have wQ : wn (sv P (wn P)).1 = wn P := by unfold wn; rw [s2]
  have e5 : gI h1 (2, p, 0) 5 = iN (wn P) := (p_wc hQ).trans (by rw [wQ])
  have q1 : iN (wn P) - iN (wn P - (sv P (wn P)).2) = iN (sv P (wn P)).2 := by
    rw [iN_sub (by omega)]
    congr 1; omega
  have cF : Cls (sI h1 (2, p, 0) 5 (iN (sv P (wn P)).2)) p (svP P) := by
    refine cl_pl hQ (fun f k _ => rfl) (fun k hk => l_ln hQ (by rw [wQ]; omega)) 5 ?_ ?_ ?_ ?_ ?_
    · rw [if_neg (by decide)]; unfold pn; rw [s2]
    · rw [if_neg (by decide)]; unfold tn; rw [s2]
    · rw [if_pos rfl]
    · rw [if_neg (by decide)]
    · rw [if_neg (by decide)]
  refine ⟨sI h1 (2, p, 0) 5 (iN (sv P (wn P)).2), ?_, ch_t c (ch_sI inP_2), cF⟩
  simp only [v58_0, v58_1, v58_2, v58_3, v58_5, v58_6, v58_9, v58_12, v58_13, v58_16, v58_17, v58_18, v58_19, v58_20, v58_21, v58_24, v58_27, v58_30, v58_31, v58_32, v58_35, v58_36, v58_37, v58_40, v58_43, v58_44, v58_46, v58_48, v58_49, v58_52, v58_53, v58_56, v58_57, v58_58, v58_59, v58_60, v58_61, v58_64, v58_65, v58_68, v58_69, v58_70, v58_72, v58_74, v58_75, v58_77, v58_79, v58_80, v58_82, v58_84, v58_85, v58_87, v58_88, v58_91, v58_94, v58_97, v58_100, v58_101, v58_102, v58_105, v58_106, v58_107, v58_110, v58_111, n_14, n_8, inB_of, Nat.reduceLT, Prod.mk.injEq, true_and, rB, rBn, rBa, rBb, rBc, rBd, Evk_v, Evk_n, Nat.reduceAdd, Nat.reduceLeDiff, Nat.le_refl, Nat.zero_le, cz_0, cz_1, cI_1, cO_1, cz_2, cI_2, cO_2, cL_2, cD_2, cz_3, cI_3, cO_3, cL_3, cD_3, cz_4, cI_4, cO_4, cL_4, cD_4, cz_5, cI_5, cO_5, cL_5, cD_5, cz_6, cI_6, cO_6, cL_6, cD_6, cz_7, cI_7, cO_7, cL_7, cD_7, cz_8, cI_8, cO_8, cL_8, cD_8, List.mem_cons, or_true, true_or, and_self, sI_S, sL_S, sR_S, sD_S, gb_S, sI_R, sL_R, sD_R, gb_R, sI_L, sR_I, sR_L, sL_I, sD_I, sD_L, gb_I, gb_L]
  refine Eq.trans e ?_
  show Ev (d + 5) 58 4 _ [] h1 = _
  rw [v58_4]
  simp only [v58_0, v58_1, v58_2, v58_3, v58_5, v58_6, v58_9, v58_12, v58_13, v58_16, v58_17, v58_18, v58_19, v58_20, v58_21, v58_24, v58_27, v58_30, v58_31, v58_32, v58_35, v58_36, v58_37, v58_40, v58_43, v58_44, v58_46, v58_48, v58_49, v58_52, v58_53, v58_56, v58_57, v58_58, v58_59, v58_60, v58_61, v58_64, v58_65, v58_68, v58_69, v58_70, v58_72, v58_74, v58_75, v58_77, v58_79, v58_80, v58_82, v58_84, v58_85, v58_87, v58_88, v58_91, v58_94, v58_97, v58_100, v58_101, v58_102, v58_105, v58_106, v58_107, v58_110, v58_111, n_14, n_8, inB_of, Nat.reduceLT, Prod.mk.injEq, true_and, rB, rBn, rBa, rBb, rBc, rBd, Evk_v, Evk_n, Nat.reduceAdd, Nat.reduceLeDiff, Nat.le_refl, Nat.zero_le, cz_0, cz_1, cI_1, cO_1, cz_2, cI_2, cO_2, cL_2, cD_2, cz_3, cI_3, cO_3, cL_3, cD_3, cz_4, cI_4, cO_4, cL_4, cD_4, cz_5, cI_5, cO_5, cL_5, cD_5, cz_6, cI_6, cO_6, cL_6, cD_6, cz_7, cI_7, cO_7, cL_7, cD_7, cz_8, cI_8, cO_8, cL_8, cD_8, List.mem_cons, or_true, true_or, and_self, sI_S, sL_S, sR_S, sD_S, gb_S, sI_R, sL_R, sD_R, gb_R, sI_L, sR_I, sR_L, sL_I, sD_I, sD_L, gb_I, gb_L, y_S2 hL1, hp, e5, q1, c1_It, c1_Ot, bI_T, bI_F, i10, i01, if_pos (show iN (wn P) ≤ iN (wn P) from Int32.le_refl _)]
theorem ot_pl' {j : Nat} {r x u : Int32} (m : Nat) : gI (plM h j r x u) (20, 0, 0) m = gI h (20, 0, 0) m := by
  unfold plM
  rw [sI_I, if_neg (by simp), sI_I, if_neg (by simp), sI_I, if_neg (by simp)]
theorem mo_wn {k : Nat} (hM : Mod h P) (hk : k ≤ wn P) : Mod (sI h (20, 0, 0) 20 (iN k)) (P.1, pn P, tn P, k) := by
  have e : ∀ m, m ≠ 20 → gI (sI h (20, 0, 0) 20 (iN k)) (20, 0, 0) m = gI h (20, 0, 0) m := fun m hm => by rw [sI_I, if_neg fun z => hm z.2]
  have e2 : (fun f' i => gI (sI h (20, 0, 0) 20 (iN k)) (21, f', 0) i) = fun f' i => gI h (21, f', 0) i := by
    funext f' i
    rw [sI_I, if_neg (by simp)]
  unfold Mod
  rw [e2]
  refine ⟨hM.1, hM.2.1, hM.2.2.1, fun m hm => hM.2.2.2.1 m (Nat.lt_of_lt_of_le hm hk), ?_, ?_, ?_, ?_, ?_⟩
  · exact (e 7 (by decide)).trans (m_pc (P := P) hM)
  · exact (e 8 (by decide)).trans (m_td (P := P) hM)
  · exact (e 19 (by decide)).trans (m_tc (P := P) hM)
  · show gI (sI h (20, 0, 0) 20 (iN k)) (20, 0, 0) 20 = iN k
    rw [sI_I, if_pos ⟨rfl, rfl⟩]
  · exact (e 21 (by decide)).trans (m_lo (P := P) hM)
def inV (a : A3) : Prop := a = (20, 0, 0) ∨ a = (21, 12, 0) ∨ a = (21, 13, 0) ∨ a = (21, 14, 0) ∨ a = (21, 15, 0)
theorem inV_M : ∀ a, inV a → inM a := fun a z => by
  rcases z with z | z | z | z | z <;> rw [z]
  · exact Or.inl rfl
  · exact Or.inr rfl
  · exact Or.inr rfl
  · exact Or.inr rfl
  · exact Or.inr rfl
theorem ch_plV {j : Nat} {r x u : Int32} : Chg inV h (plM h j r x u) := ch_t (ch_t (ch_sI (Or.inr (Or.inl rfl))) (ch_sI (Or.inr (Or.inr (Or.inl rfl))))) (ch_sI (Or.inr (Or.inr (Or.inr (Or.inl rfl)))))
def ov (h h' : Hp) : Prop := ∀ m, m ≠ 20 → gI h' (20, 0, 0) m = gI h (20, 0, 0) m
theorem m209l (hL : Lay L xs h) (hM : Mod h P) (hX : WFx P) : ∃ h', Ev (d + 5) 209 21 [some (vR (20, 0, 0)), some (vI 0), some (vI 0), some (vI (iN (wn P))), some (vI 0), none, none] [] h = some (.inl (some (vI (iN (wn P - (sv P (wn P)).2)))), h') ∧ Chg inV h h' ∧ ov h h' ∧ Mod h' (svP P) := by
  have hw := w_wn hX.1
  have h8 := w_tn hX.1
  have lp := loopI (σ := LS3 × Hp) (E := fun s => Ev (d + 5) 209 21 s.1 [] s.2) (I := fun i s => (∃ o o' : Option MV, s.1 = [some (vR (20, 0, 0)), some (vI (iN (i - (sv P i).2))), some (vI (iN (sv P i).2)), some (vI (iN (wn P))), some (vI (iN i)), o, o']) ∧ Chg inV h s.2 ∧ ov h s.2 ∧ Mod s.2 (sv P i).1) (n := wn P) (by
    rintro i hi ⟨ls, h1⟩ ⟨⟨o, o', rfl⟩, c, u, hQ⟩
    obtain ⟨s1, s2, s3, s4, s5, s6, s7⟩ := SV_ok hX i (by omega)
    obtain ⟨j, hj, ej⟩ := w_ln hX hi
    have hj8 : j < 8 := by omega
    have hi8 : i < 8 := by omega
    have en : (P.1 15 i).toNatClampNeg = j := by rw [ej, n_i (by omega)]
    have tQ : tn (sv P i).1 = tn P := by unfold tn; rw [s2]
    have wQ : wn (sv P i).1 = wn P := by unfold wn; rw [s2]
    have hnl : ¬ (iN (wn P) ≤ iN i) := nle hi (by omega)
    have hL1 := Lay_M hL (ch_m inV_M c)
    have el : gI h1 (21, 15, 0) i = iN j := (m_ln hQ (by rw [wQ]; exact hi)).trans ((s5 i (Nat.le_refl _)).trans ej)
    have e166 := fun d => m166 (d := d) hL1 hQ s1 (j := j) (by rw [tQ]; exact hj)
    have hk8 : (sv P i).2 < 8 := by omega
    cases e : ear (sv P i).1 j with
    | none =>
      rw [e] at e166
      have eS := sv_n (P := P) (i := i) (by rw [en]; exact e)
      have hneg : (-1 : Int32) < 0 := by decide
      refine ⟨(_, sI h1 (21, 15, 0) (sv P i).2 (iN j)), ⟨⟨some (vI (iN j)), some (vI (-1)), rfl⟩, ch_t c (ch_sI (Or.inr (Or.inr (Or.inr (Or.inr rfl))))), fun m hm => by rw [sI_I, if_neg (by simp)]; exact u m hm, by rw [eS, ej]; exact mo_ar hQ (by decide) (by decide)⟩, ?_⟩
      show Ev (d + 5) 209 21 _ [] h1 = Ev (d + 5) 209 21 _ [] (sI h1 (21, 15, 0) (sv P i).2 (iN j))
      rw [v209_21, show i + 1 - (sv P (i + 1)).2 = i - (sv P i).2 by rw [eS]; show i + 1 - ((sv P i).2 + 1) = _; omega, show (sv P (i + 1)).2 = (sv P i).2 + 1 by rw [eS]]
      simp only [v209_0, v209_1, v209_2, v209_5, v209_6, v209_9, v209_10, v209_11, v209_12, v209_13, v209_14, v209_17, v209_18, v209_19, v209_23, v209_24, v209_27, v209_28, v209_31, v209_33, v209_34, v209_36, v209_37, v209_39, v209_42, v209_44, v209_46, v209_49, v209_50, v209_52, v209_54, v209_56, v209_57, v209_59, v209_61, v209_62, v209_64, v209_66, v209_67, v209_69, v209_70, v209_73, v209_76, v209_79, v209_80, v209_83, v209_84, v209_86, v209_87, v209_90, v209_93, v209_96, v209_97, v209_98, v209_101, v209_102, n_14, n_8, inB_of, Nat.reduceLT, Prod.mk.injEq, true_and, rB, rBn, rBa, rBb, rBc, rBd, Evk_v, Evk_n, Nat.reduceAdd, Nat.reduceLeDiff, Nat.le_refl, Nat.zero_le, cz_0, cz_1, cI_1, cO_1, cz_2, cI_2, cO_2, cL_2, cD_2, cz_3, cI_3, cO_3, cL_3, cD_3, cz_4, cI_4, cO_4, cL_4, cD_4, cz_5, cI_5, cO_5, cL_5, cD_5, cz_6, cI_6, cO_6, cL_6, cD_6, cz_7, cI_7, cO_7, cL_7, cD_7, cz_8, cI_8, cO_8, cL_8, cD_8, List.mem_cons, or_true, true_or, and_self, sI_S, sL_S, sR_S, sD_S, gb_S, sI_R, sL_R, sD_R, gb_R, sI_L, sR_I, sR_L, sL_I, sD_I, sD_L, gb_I, gb_L, y_S20 hL1, y_F_line hL1, y_M_line hL1, hi8, el, if_neg hnl, e166, oN, if_pos hneg, hk8, iN_s, c1_It, c1_Ot, bI_T, bI_F, i10, i01, if_true, if_false, not_true_eq_false, not_false_eq_true, Bool.false_eq_true, Int32.or_zero, ne_eq, Bool.and_eq_true, decide_eq_true_eq, decide_true, decide_false, and_true, true_and, and_false, false_and, Bool.and_true, Bool.true_and, Bool.and_false, Bool.false_and]
    | some v =>
      rw [e] at e166
      have hv := ear_lt e
      have eS := sv_s (P := P) (i := i) (v := v) (by rw [en]; exact e)
      rw [en] at eS
      have n10 : ¬ (10 : Int32) = 0 := by decide
      have n100 : ¬ (100 : Int32) = 0 := by decide
      have hge : ¬ iN v < 0 := nlt0 (by omega)
      have e165 := fun d => m165 (d := d) hL1 hj8 (r := iN (v % 10)) (x := iN (v / 100)) (u := iN (v / 10 % 10))
      refine ⟨(_, plM h1 j (iN (v % 10)) (iN (v / 100)) (iN (v / 10 % 10))), ⟨⟨some (vI (iN j)), some (vI (iN v)), rfl⟩, ch_t c ch_plV, fun m hm => (ot_pl' m).trans (u m hm), by rw [eS]; exact mo_plM hQ⟩, ?_⟩
      show Ev (d + 5) 209 21 _ [] h1 = Ev (d + 5) 209 21 _ [] (plM h1 j (iN (v % 10)) (iN (v / 100)) (iN (v / 10 % 10)))
      rw [v209_21, show i + 1 - (sv P (i + 1)).2 = i - (sv P i).2 + 1 by rw [eS]; show i + 1 - (sv P i).2 = _; omega, show (sv P (i + 1)).2 = (sv P i).2 by rw [eS]]
      simp only [v209_0, v209_1, v209_2, v209_5, v209_6, v209_9, v209_10, v209_11, v209_12, v209_13, v209_14, v209_17, v209_18, v209_19, v209_23, v209_24, v209_27, v209_28, v209_31, v209_33, v209_34, v209_36, v209_37, v209_39, v209_42, v209_44, v209_46, v209_49, v209_50, v209_52, v209_54, v209_56, v209_57, v209_59, v209_61, v209_62, v209_64, v209_66, v209_67, v209_69, v209_70, v209_73, v209_76, v209_79, v209_80, v209_83, v209_84, v209_86, v209_87, v209_90, v209_93, v209_96, v209_97, v209_98, v209_101, v209_102, n_14, n_8, inB_of, Nat.reduceLT, Prod.mk.injEq, true_and, rB, rBn, rBa, rBb, rBc, rBd, Evk_v, Evk_n, Nat.reduceAdd, Nat.reduceLeDiff, Nat.le_refl, Nat.zero_le, cz_0, cz_1, cI_1, cO_1, cz_2, cI_2, cO_2, cL_2, cD_2, cz_3, cI_3, cO_3, cL_3, cD_3, cz_4, cI_4, cO_4, cL_4, cD_4, cz_5, cI_5, cO_5, cL_5, cD_5, cz_6, cI_6, cO_6, cL_6, cD_6, cz_7, cI_7, cO_7, cL_7, cD_7, cz_8, cI_8, cO_8, cL_8, cD_8, List.mem_cons, or_true, true_or, and_self, sI_S, sL_S, sR_S, sD_S, gb_S, sI_R, sL_R, sD_R, gb_R, sI_L, sR_I, sR_L, sL_I, sD_I, sD_L, gb_I, gb_L, y_S20 hL1, y_F_line hL1, y_M_line hL1, hi8, el, if_neg hnl, e166, oN, if_neg hge, n10, n100, iN_d10 (show v < 2147483648 by omega), iN_d10 (show v / 10 < 2147483648 by omega), iN_d100 (show v < 2147483648 by omega), iN_m10, e165, iN_s, c1_It, c1_Ot, bI_T, bI_F, i10, i01, if_true, if_false, not_true_eq_false, not_false_eq_true, Bool.false_eq_true, Int32.or_zero, ne_eq, Bool.and_eq_true, decide_eq_true_eq, decide_true, decide_false, and_true, true_and, and_false, false_and, Bool.and_true, Bool.true_and, Bool.and_false, Bool.false_and])
  obtain ⟨⟨ls, h1⟩, ⟨⟨o, o', rfl⟩, c, u, hQ⟩, e⟩ := lp (_, h) ⟨⟨none, none, rfl⟩, ch_r, fun _ _ => rfl, hM⟩
  obtain ⟨s1, s2, s3, s4, s5, s6, s7⟩ := SV_ok hX (wn P) (Nat.le_refl _)
  have hL1 := Lay_M hL (ch_m inV_M c)
  have wQ : wn (sv P (wn P)).1 = wn P := by unfold wn; rw [s2]
  have eF : svP P = ((sv P (wn P)).1.1, pn (sv P (wn P)).1, tn (sv P (wn P)).1, (sv P (wn P)).2) := by
    unfold svP pn tn
    rw [s2]
  refine ⟨sI h1 (20, 0, 0) 20 (iN (sv P (wn P)).2), ?_, ch_t c (ch_sI (Or.inl rfl)), fun m hm => by rw [sI_I, if_neg fun z => hm z.2]; exact u m hm, by rw [eF]; exact mo_wn hQ (by rw [wQ]; exact s4)⟩
  refine Eq.trans e ?_
  show Ev (d + 5) 209 21 _ [] h1 = _
  rw [v209_21]
  simp only [v209_0, v209_1, v209_2, v209_5, v209_6, v209_9, v209_10, v209_11, v209_12, v209_13, v209_14, v209_17, v209_18, v209_19, v209_23, v209_24, v209_27, v209_28, v209_31, v209_33, v209_34, v209_36, v209_37, v209_39, v209_42, v209_44, v209_46, v209_49, v209_50, v209_52, v209_54, v209_56, v209_57, v209_59, v209_61, v209_62, v209_64, v209_66, v209_67, v209_69, v209_70, v209_73, v209_76, v209_79, v209_80, v209_83, v209_84, v209_86, v209_87, v209_90, v209_93, v209_96, v209_97, v209_98, v209_101, v209_102, n_14, n_8, inB_of, Nat.reduceLT, Prod.mk.injEq, true_and, rB, rBn, rBa, rBb, rBc, rBd, Evk_v, Evk_n, Nat.reduceAdd, Nat.reduceLeDiff, Nat.le_refl, Nat.zero_le, cz_0, cz_1, cI_1, cO_1, cz_2, cI_2, cO_2, cL_2, cD_2, cz_3, cI_3, cO_3, cL_3, cD_3, cz_4, cI_4, cO_4, cL_4, cD_4, cz_5, cI_5, cO_5, cL_5, cD_5, cz_6, cI_6, cO_6, cL_6, cD_6, cz_7, cI_7, cO_7, cL_7, cD_7, cz_8, cI_8, cO_8, cL_8, cD_8, List.mem_cons, or_true, true_or, and_self, sI_S, sL_S, sR_S, sD_S, gb_S, sI_R, sL_R, sD_R, gb_R, sI_L, sR_I, sR_L, sL_I, sD_I, sD_L, gb_I, gb_L, y_S20 hL1, if_pos (show iN (wn P) ≤ iN (wn P) from Int32.le_refl _)]
theorem c27 (hL : Lay L xs h) (c : CI h P H X) (mi : MI h P H X) (wi : WI P H X) : Agd L xs (d + 20) 119 209 [some (vR (1, 0, 0))] [some (vR (20, 0, 0)), none, none, none, none, none, none] h := by
  have hC := c.1; have hW := wi.1.1; have hp : 0 < 9 := Nat.zero_lt_succ 8; have h14 := w_pn hW; have h8 := w_tn hW
  obtain ⟨h1, e6, c1, k1⟩ := m6 (d := d + 15) hL c wi.2.2.1 wi.2.2.2.1 (w_wn hW)
  have hL1 := Lay_C hL k1
  obtain ⟨h2, e58, kp, c2'⟩ := m58 (d := d + 14) hL1 c1.1 hp wi.1
  have c2 : CI h2 (svP P) (psH P H) X := CI_pl c1 kp c2'
  have k2 : Chg inC h h2 := ch_t k1 (ch_m inP_C kp)
  refine d_ok (v := iN (wn P - (sv P (wn P)).2)) hL c2 k2 mi (WI_ps wi (WFx_sv wi.1)) ?_ (fun h hL mi => ?_)
  · simp only [v119_0, v119_1, v119_4, v119_5, v119_8, v119_11, v119_12, v119_15, v119_18, n_14, n_8, inB_of, Nat.reduceLT, Prod.mk.injEq, true_and, rB, rBn, rBa, rBb, rBc, rBd, Evk_v, Evk_n, Nat.reduceAdd, Nat.reduceLeDiff, Nat.le_refl, Nat.zero_le, cz_0, cz_1, cI_1, cO_1, cz_2, cI_2, cO_2, cL_2, cD_2, cz_3, cI_3, cO_3, cL_3, cD_3, cz_4, cI_4, cO_4, cL_4, cD_4, cz_5, cI_5, cO_5, cL_5, cD_5, cz_6, cI_6, cO_6, cL_6, cD_6, cz_7, cI_7, cO_7, cL_7, cD_7, cz_8, cI_8, cO_8, cL_8, cD_8, List.mem_cons, or_true, true_or, and_self, sI_S, sL_S, sR_S, sD_S, gb_S, sI_R, sL_R, sD_R, gb_R, sI_L, sR_I, sR_L, sL_I, sD_I, sD_L, gb_I, gb_L, y_S1 hL, y_S2 hL, y_S3 hL, y_S4 hL, y_S5 hL, y_S6 hL, y_S7 hL, y_S8 hL, y_S9 hL, y_S10 hL, y_S11 hL, y_S12 hL, y_S13 hL, y_S14 hL, y_S15 hL, y_R1_0 hL, y_R1_1 hL, y_R1_2 hL, y_R1_3 hL, y_R1_4 hL, y_R2_0 hL, y_R2_1 hL, y_R2_2 hL, y_R3 hL, y_R6 hL, y_R7 hL, y_R9 hL, y_R10 hL, y_R11_0 hL, y_R11_1 hL, y_R14 hL, k_nu hC, k_rk hC, k_fl hC, k_dp hC, k_lm hC, k_cf hC, t_nu hC, t_kd hC, t_fd hC, t_dp hC, t_sv hC, t_st hC, t_mb hC, t_rm hC, t_dy hC, t_hr hC, p_pc hC, p_tc hC, p_wc hC, p_td hC, p_lo hC, hp, e6, y_S1 hL1, y_S2 hL1, y_S3 hL1, y_S4 hL1, y_S5 hL1, y_S8 hL1, y_S9 hL1, y_R1_0 hL1, y_R1_2 hL1, y_R2_0 hL1, y_R2_1 hL1, y_R2_2 hL1, y_R6 hL1, y_R7 hL1, e58]
  ·
    have hM := mi.1
    have hL0 := Lay_sI (a := (20, 0, 0)) (m := 0) (v := 0) hL (Nat.le_of_ble_eq_true rfl)
    have hM0 := mo_x (m := 0) (v := 0) hM (by decide)
    obtain ⟨h2, e230, m2, k2, t2⟩ := m230 (d := d + 17) hL0 (MI_x (v := 0) mi (Or.inl rfl)) wi
    have hL2 := Lay_M hL0 k2
    have hM2 := m2.1
    have t20 : gI h2 (20, 0, 0) 0 = 0 := by rw [t2 0 (by decide) (by decide) (by decide), sI_I, if_pos ⟨rfl, rfl⟩]
    have m20 : gI h2 (20, 0, 0) 20 = iN (wn P) := m_wc hM2
    obtain ⟨h3, e209, k3, u3, hM3⟩ := m209l (d := d + 15) hL2 hM2 wi.1
    have m3 : MI h3 (svP P) (psH P H) X := MI_md m2 hM3 k3 (by unfold inV; simp) (by unfold inV; simp) (by unfold inV; simp) (fun m hm => u3 m (by omega))
    refine ⟨h3, ?_, m3, ch_t (ch_t ch_t0 k2) (ch_m inV_M k3)⟩
    simp only [v209_0, v209_1, v209_2, v209_5, v209_6, v209_9, v209_10, v209_11, v209_12, v209_13, v209_14, v209_17, v209_18, v209_19, n_14, n_8, inB_of, Nat.reduceLT, Prod.mk.injEq, true_and, rB, rBn, rBa, rBb, rBc, rBd, Evk_v, Evk_n, Nat.reduceAdd, Nat.reduceLeDiff, Nat.le_refl, Nat.zero_le, cz_0, cz_1, cI_1, cO_1, cz_2, cI_2, cO_2, cL_2, cD_2, cz_3, cI_3, cO_3, cL_3, cD_3, cz_4, cI_4, cO_4, cL_4, cD_4, cz_5, cI_5, cO_5, cL_5, cD_5, cz_6, cI_6, cO_6, cL_6, cD_6, cz_7, cI_7, cO_7, cL_7, cD_7, cz_8, cI_8, cO_8, cL_8, cD_8, List.mem_cons, or_true, true_or, and_self, sI_S, sL_S, sR_S, sD_S, gb_S, sI_R, sL_R, sD_R, gb_R, sI_L, sR_I, sR_L, sL_I, sD_I, sD_L, gb_I, gb_L, y_S20 hL, y_S20 hL2, e230, m20]
    exact e209
end T8
