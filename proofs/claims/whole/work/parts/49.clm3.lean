/-! THE CLASS'S CHANGES: plans made new, busy hours, new persons and theses -/

def nP : PL := (fun f _ => if f = 9 ∨ f = 12 ∨ f = 13 ∨ f = 14 then -1 else 0, 0, 0, 0)
theorem bhs_nP {i : Nat} : ∀ n, bhs nP i n = 0 := by
  intro n
  induction n with
  | zero => rfl
  | succ n ih =>
    show bhs nP i n + pcn 0 = 0
    rw [ih, pcn_z]
theorem by8_0 : ∀ k, k < 8 → by8 0 k = 0 := by decide +kernel
section Clm3
variable {L : Nat} {xs : Nat → Int32} {h h' : Hp} {p q : Nat} {P : PL} {d : Nat} {A : A3 → Prop}
theorem m22 (hL : Lay L xs h) (hp : p < 9) {i : Nat} (hi : i < 14) (hn : gI h (3, p, i) 0 = iN i) : ∃ h', Ev (d + 1) 22 0 [some (vR (3, p, i)), none] [] h = some (.inl none, h') ∧ Chg (isPer p i) h h' ∧ PerIs h' p i nP := by
  have hS := y_S3 hL hp hi
  have c0 : Chg (isPer p i) h (sI (sI (pset h p i 0 0 0 0) (3, p, i) 7 0) (3, p, i) 2 0) := ch_t (ch_t (ch_pset (Or.inl rfl)) (ch_sI (Or.inl rfl))) (ch_sI (Or.inl rfl))
  have lp := loopI (σ := LS3 × Hp) (E := fun s => Ev (d + 1) 22 20 s.1 [] s.2) (I := fun k s => s.1 = [some (vR (3, p, i)), some (vI (iN k))] ∧ Chg (isPer p i) h s.2 ∧ gI s.2 (3, p, i) = gI (sI (sI (pset h p i 0 0 0 0) (3, p, i) 7 0) (3, p, i) 2 0) (3, p, i) ∧ ∀ m, m < k → gL s.2 (4, p, i) m = 0) (n := 51) (by
    rintro k hk ⟨ls, h1⟩ ⟨rfl, c, n1, hx⟩
    have hk31 : k < 2147483648 := by omega
    have hnl : ¬ (Int32.ofNat 51 ≤ iN k) := nle (n := 51) hk (by omega)
    have hL1 := Lay_ch hL c (fun a ha z => by have := (isPer_in a z).2.2; omega)
    refine ⟨(_, sL h1 (4, p, i) k 0), ⟨rfl, ch_t c (ch_sL (Or.inr rfl)), by rw [sL_I]; exact n1, fun m hm => ?_⟩, ?_⟩
    · rw [sL_Lx]
      by_cases y : m = k
      · rw [if_pos ⟨rfl, y⟩]
      · rw [if_neg fun z => y z.2]; exact hx m (by omega)
    · show Ev (d + 1) 22 20 _ [] h1 = Ev (d + 1) 22 20 _ [] (sL h1 (4, p, i) k 0)
      rw [v22_20]
      simp only [v22_0, v22_1, v22_2, v22_3, v22_4, v22_5, v22_8, v22_9, v22_10, v22_13, v22_14, v22_15, v22_18, v22_19, v22_21, v22_22, v22_25, v22_26, v22_29, v22_30, v22_33, v22_34, v22_35, v22_36, v22_39, v22_42, n_14, n_8, inB_of, Nat.reduceLT, Prod.mk.injEq, true_and, rB, rBn, rBa, rBb, rBc, rBd, Evk_v, Evk_n, Nat.reduceAdd, Nat.reduceLeDiff, Nat.le_refl, Nat.zero_le, cz_0, cz_1, cI_1, cO_1, cz_2, cI_2, cO_2, cL_2, cD_2, cz_3, cI_3, cO_3, cL_3, cD_3, cz_4, cI_4, cO_4, cL_4, cD_4, cz_5, cI_5, cO_5, cL_5, cD_5, cz_6, cI_6, cO_6, cL_6, cD_6, cz_7, cI_7, cO_7, cL_7, cD_7, cz_8, cI_8, cO_8, cL_8, cD_8, List.mem_cons, or_true, true_or, and_self, sI_S, sL_S, sR_S, sD_S, gb_S, sI_R, sL_R, sD_R, gb_R, sI_L, sR_I, sR_L, sL_I, sD_I, sD_L, gb_I, gb_L, y_S3 hL1, y_S4 hL1, y_R3 hL1, hp, hi, hk, n_i hk31, if_neg hnl, iN_s])
  obtain ⟨⟨ls, h1⟩, ⟨rfl, c, n1, hx⟩, e⟩ := lp (_, sI (sI (pset h p i 0 0 0 0) (3, p, i) 7 0) (3, p, i) 2 0) ⟨rfl, c0, rfl, fun m hm => absurd hm (Nat.not_lt_zero m)⟩
  have hL1 := Lay_ch hL c (fun a ha z => by have := (isPer_in a z).2.2; omega)
  refine ⟨h1, ?_, c, ?_, ?_, fun f hf => ?_, fun x hx' => ?_⟩
  · simp only [v22_0, v22_1, v22_2, v22_3, v22_4, v22_5, v22_8, v22_9, v22_10, v22_13, v22_14, v22_15, v22_18, v22_19, v22_21, v22_22, v22_25, v22_26, v22_29, v22_30, v22_33, v22_34, v22_35, v22_36, v22_39, v22_42, n_14, n_8, inB_of, Nat.reduceLT, Prod.mk.injEq, true_and, rB, rBn, rBa, rBb, rBc, rBd, Evk_v, Evk_n, Nat.reduceAdd, Nat.reduceLeDiff, Nat.le_refl, Nat.zero_le, cz_0, cz_1, cI_1, cO_1, cz_2, cI_2, cO_2, cL_2, cD_2, cz_3, cI_3, cO_3, cL_3, cD_3, cz_4, cI_4, cO_4, cL_4, cD_4, cz_5, cI_5, cO_5, cL_5, cD_5, cz_6, cI_6, cO_6, cL_6, cD_6, cz_7, cI_7, cO_7, cL_7, cD_7, cz_8, cI_8, cO_8, cL_8, cD_8, List.mem_cons, or_true, true_or, and_self, sI_S, sL_S, sR_S, sD_S, gb_S, sI_R, sL_R, sD_R, gb_R, sI_L, sR_I, sR_L, sL_I, sD_I, sD_L, gb_I, gb_L, hS, m21 hS, pset_S]
    refine Eq.trans e ?_
    show Ev (d + 1) 22 20 _ [] h1 = _
    rw [v22_20]
    simp only [v22_0, v22_1, v22_2, v22_3, v22_4, v22_5, v22_8, v22_9, v22_10, v22_13, v22_14, v22_15, v22_18, v22_19, v22_21, v22_22, v22_25, v22_26, v22_29, v22_30, v22_33, v22_34, v22_35, v22_36, v22_39, v22_42, n_14, n_8, inB_of, Nat.reduceLT, Prod.mk.injEq, true_and, rB, rBn, rBa, rBb, rBc, rBd, Evk_v, Evk_n, Nat.reduceAdd, Nat.reduceLeDiff, Nat.le_refl, Nat.zero_le, cz_0, cz_1, cI_1, cO_1, cz_2, cI_2, cO_2, cL_2, cD_2, cz_3, cI_3, cO_3, cL_3, cD_3, cz_4, cI_4, cO_4, cL_4, cD_4, cz_5, cI_5, cO_5, cL_5, cD_5, cz_6, cI_6, cO_6, cL_6, cD_6, cz_7, cI_7, cO_7, cL_7, cD_7, cz_8, cI_8, cO_8, cL_8, cD_8, List.mem_cons, or_true, true_or, and_self, sI_S, sL_S, sR_S, sD_S, gb_S, sI_R, sL_R, sD_R, gb_R, sI_L, sR_I, sR_L, sL_I, sD_I, sD_L, gb_I, gb_L, y_S3 hL1, y_S4 hL1, y_R3 hL1, hp, hi, if_pos (show Int32.ofNat 51 ≤ iN 51 from Int32.le_refl _)]
  · rw [n1]
    unfold pset
    simp only [sI_I, Nat.reduceEqDiff, and_false, if_false]
    exact hn
  · rw [n1, sI_I, if_pos ⟨rfl, rfl⟩, bhs_nP]
    rfl
  · rw [n1]
    unfold pset
    have hc : f = 0 ∨ f = 1 ∨ f = 2 ∨ f = 3 ∨ f = 4 := by omega
    rcases hc with rfl | rfl | rfl | rfl | rfl <;> simp only [sI_I, Nat.reduceAdd, Nat.reduceEqDiff, and_false, and_self, if_false, if_true] <;> rfl
  · rw [hx (x / 8) (by omega), by8_0 _ (by omega)]
    rfl
theorem the_tnew {i : Nat} (hn : gI h (5, p, i) 0 = iN i) : TheIs (tnew h p i) p i nP := by
  refine ⟨?_, fun f hf => ?_⟩
  · unfold tnew tpl tset
    simp only [sI_I, Nat.reduceEqDiff, and_false, if_false]
    exact hn
  · unfold tnew tpl tset
    have hc : f = 0 ∨ f = 1 ∨ f = 2 ∨ f = 3 ∨ f = 4 ∨ f = 5 ∨ f = 6 ∨ f = 7 ∨ f = 8 := by omega
    rcases hc with rfl | rfl | rfl | rfl | rfl | rfl | rfl | rfl | rfl <;> simp only [sI_I, Nat.reduceAdd, Nat.reduceEqDiff, and_false, and_self, if_false, if_true] <;> rfl
theorem ch_tnew {i : Nat} (hA : A (5, p, i)) : Chg A h (tnew h p i) := ch_t (ch_t (ch_t (ch_tset hA) (ch_sI hA)) (ch_sI hA)) (ch_tpl hA)
theorem m31 (hL : Lay L xs h) (hp : p < 9) {P0 : PL} (hC0 : Cls h p P0) : ∃ h', Ev (d + 3) 31 0 [some (vR (2, p, 0)), none, none, none, none] [] h = some (.inl none, h') ∧ Chg (inP p) h h' ∧ Cls h' p nP := by
  have lp := loopI (σ := LS3 × Hp) (E := fun s => Ev (d + 3) 31 10 s.1 [] s.2) (I := fun k s => (∃ o : Option MV, s.1 = [some (vR (2, p, 0)), some (vR (6, p, 0)), some (vI (iN 14)), some (vI (iN k)), o]) ∧ Chg (inP p) h s.2 ∧ (∀ i, i < 14 → gI s.2 (3, p, i) 0 = iN i) ∧ (∀ i, i < 8 → gI s.2 (5, p, i) 0 = iN i) ∧ ∀ i, i < k → PerIs s.2 p i nP) (n := 14) (by
    rintro k hk ⟨ls, h1⟩ ⟨⟨o, rfl⟩, c, n1, n2, hx⟩
    have hk31 : k < 2147483648 := by omega
    have hnl : ¬ (iN 14 ≤ iN k) := nle (n := 14) hk (by omega)
    have hL1 := Lay_ch hL c (fun a ha z => by have := z.2.2; omega)
    obtain ⟨h2, e, c2, pk⟩ := m22 (d := d + 1) hL1 hp hk (n1 k hk)
    refine ⟨(_, h2), ⟨⟨some (vR (3, p, k)), rfl⟩, ch_t c (ch_m isPer_in c2), fun i hi => ?_, fun i hi => ?_, fun i hi => ?_⟩, ?_⟩
    · by_cases y : i = k
      · subst y; exact pk.1
      · rw [ch_I c2 (fun z => by rcases z with z | z <;> simp at z; omega)]; exact n1 i hi
    · rw [ch_I c2 (fun z => by rcases z with z | z <;> simp at z)]; exact n2 i hi
    · by_cases y : i = k
      · subst y; exact pk
      · exact per_ch (hx i (by omega)) c2 (fun z => by rcases z with z | z <;> simp at z; omega) (fun z => by rcases z with z | z <;> simp at z; omega)
    · show Ev (d + 3) 31 10 _ [] h1 = Ev (d + 3) 31 10 _ [] h2
      rw [v31_10]
      simp only [v31_0, v31_1, v31_4, v31_5, v31_6, v31_7, v31_8, v31_9, v31_11, v31_12, v31_15, v31_16, v31_17, v31_18, v31_20, v31_22, v31_25, v31_28, v31_31, v31_32, v31_35, v31_36, v31_37, v31_38, v31_39, v31_40, v31_42, v31_43, v31_46, v31_47, v31_48, v31_49, v31_51, v31_53, v31_56, v31_59, v31_62, v31_63, v31_64, v31_67, v31_68, v31_69, v31_72, v31_73, v31_74, v31_77, v31_78, v31_79, v31_82, v31_83, v31_84, v31_87, n_14, n_8, inB_of, Nat.reduceLT, Prod.mk.injEq, true_and, rB, rBn, rBa, rBb, rBc, rBd, Evk_v, Evk_n, Nat.reduceAdd, Nat.reduceLeDiff, Nat.le_refl, Nat.zero_le, cz_0, cz_1, cI_1, cO_1, cz_2, cI_2, cO_2, cL_2, cD_2, cz_3, cI_3, cO_3, cL_3, cD_3, cz_4, cI_4, cO_4, cL_4, cD_4, cz_5, cI_5, cO_5, cL_5, cD_5, cz_6, cI_6, cO_6, cL_6, cD_6, cz_7, cI_7, cO_7, cL_7, cD_7, cz_8, cI_8, cO_8, cL_8, cD_8, List.mem_cons, or_true, true_or, and_self, sI_S, sL_S, sR_S, sD_S, gb_S, sI_R, sL_R, sD_R, gb_R, sI_L, sR_I, sR_L, sL_I, sD_I, sD_L, gb_I, gb_L, y_S6 hL1, y_R6 hL1, y_S3 hL1, hp, hk, n_i hk31, if_neg hnl, e, iN_s])
  obtain ⟨⟨ls, h1⟩, ⟨⟨o, rfl⟩, c, n1, n2, hx⟩, e⟩ := lp (_, h) ⟨⟨none, rfl⟩, ch_r, fun i hi => k_nu hC0 hi, fun i hi => t_nu hC0 hi, fun i hi => absurd hi (Nat.not_lt_zero i)⟩
  have lp2 := loopI (σ := LS3 × Hp) (E := fun s => Ev (d + 3) 31 41 s.1 [] s.2) (I := fun k s => (∃ o : Option MV, s.1 = [some (vR (2, p, 0)), some (vR (7, p, 0)), some (vI (iN 8)), some (vI (iN k)), o]) ∧ Chg (inP p) h s.2 ∧ (∀ i, i < 8 → gI s.2 (5, p, i) 0 = iN i) ∧ (∀ i, i < 14 → PerIs s.2 p i nP) ∧ ∀ i, i < k → TheIs s.2 p i nP) (n := 8) (by
    rintro k hk ⟨ls, h2⟩ ⟨⟨o, rfl⟩, c2, n2, hx, hy⟩
    have hk31 : k < 2147483648 := by omega
    have hnl : ¬ (iN 8 ≤ iN k) := nle (n := 8) hk (by omega)
    have hL1 := Lay_ch hL c2 (fun a ha z => by have := z.2.2; omega)
    have e := m75 (d := d) (y_S5 hL1 hp hk)
    have c3 : Chg (isThe p k) h2 (tnew h2 p k) := ch_tnew rfl
    refine ⟨(_, tnew h2 p k), ⟨⟨some (vR (5, p, k)), rfl⟩, ch_t c2 (ch_m (fun a z => by have z : a = (5, p, k) := z; rw [z]; exact inP_5) c3), fun i hi => ?_, fun i hi => ?_, fun i hi => ?_⟩, ?_⟩
    · by_cases y : i = k
      · subst y; exact (the_tnew (n2 i hi)).1
      · rw [ch_I c3 (fun z => by have z : ((5, p, i) : A3) = (5, p, k) := z; simp at z; omega)]; exact n2 i hi
    · exact per_ch (hx i hi) c3 (fun z => by have z : ((3, p, i) : A3) = (5, p, k) := z; simp at z) (fun z => by have z : ((4, p, i) : A3) = (5, p, k) := z; simp at z)
    · by_cases y : i = k
      · subst y; exact the_tnew (n2 i hk)
      · exact the_ch (hy i (by omega)) c3 (fun z => by have z : ((5, p, i) : A3) = (5, p, k) := z; simp at z; omega)
    · show Ev (d + 3) 31 41 _ [] h2 = Ev (d + 3) 31 41 _ [] (tnew h2 p k)
      rw [v31_41]
      simp only [v31_0, v31_1, v31_4, v31_5, v31_6, v31_7, v31_8, v31_9, v31_11, v31_12, v31_15, v31_16, v31_17, v31_18, v31_20, v31_22, v31_25, v31_28, v31_31, v31_32, v31_35, v31_36, v31_37, v31_38, v31_39, v31_40, v31_42, v31_43, v31_46, v31_47, v31_48, v31_49, v31_51, v31_53, v31_56, v31_59, v31_62, v31_63, v31_64, v31_67, v31_68, v31_69, v31_72, v31_73, v31_74, v31_77, v31_78, v31_79, v31_82, v31_83, v31_84, v31_87, n_14, n_8, inB_of, Nat.reduceLT, Prod.mk.injEq, true_and, rB, rBn, rBa, rBb, rBc, rBd, Evk_v, Evk_n, Nat.reduceAdd, Nat.reduceLeDiff, Nat.le_refl, Nat.zero_le, cz_0, cz_1, cI_1, cO_1, cz_2, cI_2, cO_2, cL_2, cD_2, cz_3, cI_3, cO_3, cL_3, cD_3, cz_4, cI_4, cO_4, cL_4, cD_4, cz_5, cI_5, cO_5, cL_5, cD_5, cz_6, cI_6, cO_6, cL_6, cD_6, cz_7, cI_7, cO_7, cL_7, cD_7, cz_8, cI_8, cO_8, cL_8, cD_8, List.mem_cons, or_true, true_or, and_self, sI_S, sL_S, sR_S, sD_S, gb_S, sI_R, sL_R, sD_R, gb_R, sI_L, sR_I, sR_L, sL_I, sD_I, sD_L, gb_I, gb_L, y_S7 hL1, y_R7 hL1, y_S5 hL1, hp, hk, n_i hk31, if_neg hnl, e, iN_s])
  obtain ⟨⟨ls, h2⟩, ⟨⟨o2, rfl⟩, c2, n3, hx2, hy2⟩, e2⟩ := lp2 (_, h1) ⟨⟨o, rfl⟩, c, n2, hx, fun i hi => absurd hi (Nat.not_lt_zero i)⟩
  have hL1 := Lay_ch hL c (fun a ha z => by have := z.2.2; omega)
  have hL2 := Lay_ch hL c2 (fun a ha z => by have := z.2.2; omega)
  refine ⟨sI (sI (sI (sI (sI h2 (2, p, 0) 3 0) (2, p, 0) 4 0) (2, p, 0) 5 0) (2, p, 0) 6 0) (2, p, 0) 7 0, ?_, ?_, ?_⟩
  · simp only [v31_0, v31_1, v31_4, v31_5, v31_6, v31_7, v31_8, v31_9, v31_11, v31_12, v31_15, v31_16, v31_17, v31_18, v31_20, v31_22, v31_25, v31_28, v31_31, v31_32, v31_35, v31_36, v31_37, v31_38, v31_39, v31_40, v31_42, v31_43, v31_46, v31_47, v31_48, v31_49, v31_51, v31_53, v31_56, v31_59, v31_62, v31_63, v31_64, v31_67, v31_68, v31_69, v31_72, v31_73, v31_74, v31_77, v31_78, v31_79, v31_82, v31_83, v31_84, v31_87, n_14, n_8, inB_of, Nat.reduceLT, Prod.mk.injEq, true_and, rB, rBn, rBa, rBb, rBc, rBd, Evk_v, Evk_n, Nat.reduceAdd, Nat.reduceLeDiff, Nat.le_refl, Nat.zero_le, cz_0, cz_1, cI_1, cO_1, cz_2, cI_2, cO_2, cL_2, cD_2, cz_3, cI_3, cO_3, cL_3, cD_3, cz_4, cI_4, cO_4, cL_4, cD_4, cz_5, cI_5, cO_5, cL_5, cD_5, cz_6, cI_6, cO_6, cL_6, cD_6, cz_7, cI_7, cO_7, cL_7, cD_7, cz_8, cI_8, cO_8, cL_8, cD_8, List.mem_cons, or_true, true_or, and_self, sI_S, sL_S, sR_S, sD_S, gb_S, sI_R, sL_R, sD_R, gb_R, sI_L, sR_I, sR_L, sL_I, sD_I, sD_L, gb_I, gb_L, y_S2 hL, y_R2_0 hL, y_S6 hL, hp]
    refine Eq.trans e ?_
    show Ev (d + 3) 31 10 _ [] h1 = _
    rw [v31_10]
    simp only [v31_0, v31_1, v31_4, v31_5, v31_6, v31_7, v31_8, v31_9, v31_11, v31_12, v31_15, v31_16, v31_17, v31_18, v31_20, v31_22, v31_25, v31_28, v31_31, v31_32, v31_35, v31_36, v31_37, v31_38, v31_39, v31_40, v31_42, v31_43, v31_46, v31_47, v31_48, v31_49, v31_51, v31_53, v31_56, v31_59, v31_62, v31_63, v31_64, v31_67, v31_68, v31_69, v31_72, v31_73, v31_74, v31_77, v31_78, v31_79, v31_82, v31_83, v31_84, v31_87, n_14, n_8, inB_of, Nat.reduceLT, Prod.mk.injEq, true_and, rB, rBn, rBa, rBb, rBc, rBd, Evk_v, Evk_n, Nat.reduceAdd, Nat.reduceLeDiff, Nat.le_refl, Nat.zero_le, cz_0, cz_1, cI_1, cO_1, cz_2, cI_2, cO_2, cL_2, cD_2, cz_3, cI_3, cO_3, cL_3, cD_3, cz_4, cI_4, cO_4, cL_4, cD_4, cz_5, cI_5, cO_5, cL_5, cD_5, cz_6, cI_6, cO_6, cL_6, cD_6, cz_7, cI_7, cO_7, cL_7, cD_7, cz_8, cI_8, cO_8, cL_8, cD_8, List.mem_cons, or_true, true_or, and_self, sI_S, sL_S, sR_S, sD_S, gb_S, sI_R, sL_R, sD_R, gb_R, sI_L, sR_I, sR_L, sL_I, sD_I, sD_L, gb_I, gb_L, y_S2 hL1, y_R2_1 hL1, y_S7 hL1, hp, if_pos (show iN 14 ≤ iN 14 from Int32.le_refl _)]
    refine Eq.trans e2 ?_
    show Ev (d + 3) 31 41 _ [] h2 = _
    rw [v31_41]
    simp only [v31_0, v31_1, v31_4, v31_5, v31_6, v31_7, v31_8, v31_9, v31_11, v31_12, v31_15, v31_16, v31_17, v31_18, v31_20, v31_22, v31_25, v31_28, v31_31, v31_32, v31_35, v31_36, v31_37, v31_38, v31_39, v31_40, v31_42, v31_43, v31_46, v31_47, v31_48, v31_49, v31_51, v31_53, v31_56, v31_59, v31_62, v31_63, v31_64, v31_67, v31_68, v31_69, v31_72, v31_73, v31_74, v31_77, v31_78, v31_79, v31_82, v31_83, v31_84, v31_87, n_14, n_8, inB_of, Nat.reduceLT, Prod.mk.injEq, true_and, rB, rBn, rBa, rBb, rBc, rBd, Evk_v, Evk_n, Nat.reduceAdd, Nat.reduceLeDiff, Nat.le_refl, Nat.zero_le, cz_0, cz_1, cI_1, cO_1, cz_2, cI_2, cO_2, cL_2, cD_2, cz_3, cI_3, cO_3, cL_3, cD_3, cz_4, cI_4, cO_4, cL_4, cD_4, cz_5, cI_5, cO_5, cL_5, cD_5, cz_6, cI_6, cO_6, cL_6, cD_6, cz_7, cI_7, cO_7, cL_7, cD_7, cz_8, cI_8, cO_8, cL_8, cD_8, List.mem_cons, or_true, true_or, and_self, sI_S, sL_S, sR_S, sD_S, gb_S, sI_R, sL_R, sD_R, gb_R, sI_L, sR_I, sR_L, sL_I, sD_I, sD_L, gb_I, gb_L, if_pos (show iN 8 ≤ iN 8 from Int32.le_refl _), y_S2 hL2, hp]
  · exact ch_t (ch_t (ch_t (ch_t (ch_t c2 (ch_sI inP_2)) (ch_sI inP_2)) (ch_sI inP_2)) (ch_sI inP_2)) (ch_sI inP_2)
  · have c3 : Chg (fun a => a = (2, p, 0)) h2 (sI (sI (sI (sI (sI h2 (2, p, 0) 3 0) (2, p, 0) 4 0) (2, p, 0) 5 0) (2, p, 0) 6 0) (2, p, 0) 7 0) := ch_t (ch_t (ch_t (ch_t (ch_sI rfl) (ch_sI rfl)) (ch_sI rfl)) (ch_sI rfl)) (ch_sI rfl)
    refine Cls_mk (fun i hi => per_ch (hx2 i hi) c3 (by simp) (by simp)) (fun j hj => the_ch (hy2 j hj) c3 (by simp)) ⟨fun k hk => absurd hk (Nat.not_lt_zero k), ?_, ?_, ?_, ?_, ?_⟩
    all_goals simp only [sI_I, Nat.reduceEqDiff, and_false, and_self, if_false, if_true]
    all_goals rfl
/-! busy hours -/
theorem smf_congr {f g : Nat → Nat} {n : Nat} (h : ∀ k, k < n → f k = g k) : smf f n = smf g n := by
  induction n with
  | zero => rfl
  | succ n ih =>
    show smf f n + f n = smf g n + g n
    rw [ih fun k hk => h k (by omega), h n (by omega)]
def fBu (P : PL) (i x u : Nat) : PL := uF P 5 (401 * i + x) (P.1 5 (401 * i + x) ^^^ b1 u)
def bflp (h : Hp) (P : PL) (p i x u : Nat) : Hp := sL (sI h (3, p, i) 2 (iN (bhs P i 401) + (if bt (P.1 5 (401 * i + x)) u = true then -1 else 1))) (4, p, i) (x / 8) (gL h (4, p, i) (x / 8) ^^^ 1 <<< ((iN (8 * (x % 8) + u)).toInt64 &&& 63))
theorem bhs_f {i x u : Nat} (hx : x < 401) (hu : u < 8) : bhs (fBu P i x u) i 401 + (bt (P.1 5 (401 * i + x)) u).toNat = bhs P i 401 + (!bt (P.1 5 (401 * i + x)) u).toNat := by
  have := smf_one (f := fun y => pcn (P.1 5 (401 * i + y))) (g := fun y => pcn ((fBu P i x u).1 5 (401 * i + y))) (x := x) (n := 401) hx (fun k hk => by
    show pcn ((uF P 5 (401 * i + x) _).1 5 (401 * i + k)) = _
    rw [uF_n (by omega)])
  have e : (fBu P i x u).1 5 (401 * i + x) = P.1 5 (401 * i + x) ^^^ b1 u := uF_s
  have e2 := pcn_flip (b := P.1 5 (401 * i + x)) (u := u) (by omega)
  simp only [e] at this
  unfold bhs
  omega
theorem bhs_o {i k x u : Nat} (hx : x < 401) (hk : k ≠ i) : bhs (fBu P i x u) k 401 = bhs P k 401 := by
  unfold bhs
  refine smf_congr fun n hn => ?_
  show pcn ((uF P 5 (401 * i + x) _).1 5 (401 * k + n)) = pcn (P.1 5 (401 * k + n))
  rw [uF_n (by omega)]
theorem cl_flp (hC : Cls h p P) {i x u : Nat} (hi : i < 14) (hx : x < 401) (hu : u < 8) : Cls (bflp h P p i x u) p (fBu P i x u) := by
  have o : ∀ f k, f ≠ 5 → (fBu P i x u).1 f k = P.1 f k := fun f k hf => uF_o hf
  unfold bflp
  refine ⟨⟨fun k hk => ?_, fun k hk => ?_, fun g hg k hk => ?_, fun k hk => ?_, fun g hg k hk => ?_, fun k hk => ?_, ?_, ?_, ?_, ?_, ?_⟩, fun k hk y hy => ?_⟩
  · rw [sL_I, sI_I, if_neg (by simp)]; exact k_nu hC hk
  · rw [sL_I, sI_I]
    by_cases z : k = i
    · subst z
      rw [if_pos ⟨rfl, rfl⟩]
      have := bhs_f (P := P) (i := k) hx hu
      cases e : bt (P.1 5 (401 * k + x)) u
      · rw [e] at this
        rw [if_neg (by simp)]
        simp only [Bool.toNat_false, Bool.not_false, Bool.toNat_true, Nat.add_zero] at this
        rw [this]; exact iN_s _
      · rw [e] at this
        rw [if_pos rfl]
        simp only [Bool.not_true, Bool.toNat_false, Bool.toNat_true, Nat.add_zero] at this
        rw [← this, ← iN_s, Int32.add_assoc]
        exact Int32.add_zero _
    · rw [if_neg (by simp [z]), bhs_o hx z]; exact k_bh hC hk
  · rw [sL_I, sI_I, if_neg (by simp), o _ _ (by omega)]; exact hC.1.2.2.1 g hg k hk
  · rw [sL_I, sI_I, if_neg (by simp)]; exact t_nu hC hk
  · rw [sL_I, sI_I, if_neg (by simp), o _ _ (by omega)]; exact hC.1.2.2.2.2.1 g hg k hk
  · rw [sL_I, sI_I, if_neg (by simp), o _ _ (by omega)]; exact l_ln hC hk
  · rw [sL_I, sI_I, if_neg (by simp)]; show gI h (2, p, 0) 3 = iN (pn P); exact p_pc hC
  · rw [sL_I, sI_I, if_neg (by simp)]; show gI h (2, p, 0) 4 = iN (tn P); exact p_tc hC
  · rw [sL_I, sI_I, if_neg (by simp)]; show gI h (2, p, 0) 5 = iN (wn P); exact p_wc hC
  · rw [sL_I, sI_I, if_neg (by simp), o _ _ (by omega)]; exact p_td hC
  · rw [sL_I, sI_I, if_neg (by simp), o _ _ (by omega)]; exact p_lo hC
  · rw [sL_Lx, sI_L]
    have hb := k_by hC hk hy
    by_cases z : k = i ∧ y / 8 = x / 8
    · obtain ⟨rfl, z⟩ := z
      rw [if_pos ⟨rfl, z⟩, by8_flip (by omega) (by omega) hu, ← z, hb]
      by_cases w : x % 8 = y % 8
      · have : y = x := by omega
        subst this
        rw [if_pos rfl]; exact uF_s.symm
      · rw [if_neg w]
        show _ = (uF P 5 (401 * k + x) _).1 5 (401 * k + y)
        rw [uF_n (by omega)]
    · rw [if_neg fun w => z ⟨by have := w.1; simp at this; exact this, w.2⟩, hb]
      show _ = (uF P 5 (401 * i + x) _).1 5 (401 * k + y)
      rw [uF_n fun w => z ⟨by omega, by omega⟩]
theorem m29 (hL : Lay L xs h) (hC : Cls h p P) (hp : p < 9) {i x u : Nat} (hi : i < 14) (hx : x < 401) (hu : u < 8) : Ev (d + 2) 29 0 [some (vR (3, p, i)), some (vI (iN x)), some (vI (iN u)), none] [] h = some (.inl none, bflp h P p i x u) := by
  have q1 : ¬ iN x < 0 := nlt0 (by omega)
  have q2 : ¬ Int32.ofNat 51 ≤ iN (x / 8) := nle (n := 51) (by omega) (by decide)
  have q3 : inB (iN (x / 8)) 51 := inB_of (by omega) (by decide)
  have q4 : iN (x % 8) * 8 + iN u = iN (8 * (x % 8) + u) := by
    rw [show iN (x % 8) * 8 = iN (8 * (x % 8)) from by rw [Nat.mul_comm, ← iN_mul]; rfl, iN_add]
  have q5 : (iN (x / 8)).toNatClampNeg = x / 8 := n_i (by omega)
  have n8 : ¬ (8 : Int32) = 0 := by decide
  unfold bflp
  by_cases z : bt (P.1 5 (401 * i + x)) u = true
  · simp only [v29_0, v29_1, v29_3, v29_4, v29_5, v29_6, v29_9, v29_10, v29_11, v29_14, v29_15, v29_18, v29_19, v29_20, v29_23, v29_24, v29_25, v29_26, v29_29, v29_32, v29_33, v29_36, v29_37, v29_38, v29_41, v29_42, v29_45, v29_46, v29_47, v29_48, v29_49, v29_50, v29_52, v29_53, v29_55, v29_56, v29_57, v29_58, v29_59, v29_60, v29_61, n_14, n_8, inB_of, Nat.reduceLT, Prod.mk.injEq, true_and, rB, rBn, rBa, rBb, rBc, rBd, Evk_v, Evk_n, Nat.reduceAdd, Nat.reduceLeDiff, Nat.le_refl, Nat.zero_le, cz_0, cz_1, cI_1, cO_1, cz_2, cI_2, cO_2, cL_2, cD_2, cz_3, cI_3, cO_3, cL_3, cD_3, cz_4, cI_4, cO_4, cL_4, cD_4, cz_5, cI_5, cO_5, cL_5, cD_5, cz_6, cI_6, cO_6, cL_6, cD_6, cz_7, cI_7, cO_7, cL_7, cD_7, cz_8, cI_8, cO_8, cL_8, cD_8, List.mem_cons, or_true, true_or, and_self, sI_S, sL_S, sR_S, sD_S, gb_S, sI_R, sL_R, sD_R, gb_R, sI_L, sR_I, sR_L, sL_I, sD_I, sD_L, gb_I, gb_L, y_S1 hL, y_S2 hL, y_S3 hL, y_S4 hL, y_S5 hL, y_S6 hL, y_S7 hL, y_S8 hL, y_S9 hL, y_S10 hL, y_S11 hL, y_S12 hL, y_S13 hL, y_S14 hL, y_S15 hL, y_R1_0 hL, y_R1_1 hL, y_R1_2 hL, y_R1_3 hL, y_R1_4 hL, y_R2_0 hL, y_R2_1 hL, y_R2_2 hL, y_R3 hL, y_R6 hL, y_R7 hL, y_R9 hL, y_R10 hL, y_R11_0 hL, y_R11_1 hL, y_R14 hL, k_nu hC, k_rk hC, k_fl hC, k_dp hC, k_lm hC, k_cf hC, t_nu hC, t_kd hC, t_fd hC, t_dp hC, t_sv hC, t_st hC, t_mb hC, t_rm hC, t_dy hC, t_hr hC, p_pc hC, p_tc hC, p_wc hC, p_td hC, p_lo hC, hp, hi, iN_dlit8 (show x < 2147483648 by omega), if_neg q1, if_neg q2, q3, q5, n8, not_false_eq_true, ne_eq, iN_mlit8, q4, m28 hL hC hp hi hx, bI_0, z, k_bh hC hi, c1_It, c1_Ot, bI_T, bI_F, i10, i01, if_true, if_false, not_true_eq_false, not_false_eq_true, Bool.false_eq_true, Int32.or_zero, ne_eq, Bool.and_eq_true, decide_eq_true_eq, decide_true, decide_false, and_true, true_and, and_false, false_and, Bool.and_true, Bool.true_and, Bool.and_false, Bool.false_and]
  · simp only [v29_0, v29_1, v29_3, v29_4, v29_5, v29_6, v29_9, v29_10, v29_11, v29_14, v29_15, v29_18, v29_19, v29_20, v29_23, v29_24, v29_25, v29_26, v29_29, v29_32, v29_33, v29_36, v29_37, v29_38, v29_41, v29_42, v29_45, v29_46, v29_47, v29_48, v29_49, v29_50, v29_52, v29_53, v29_55, v29_56, v29_57, v29_58, v29_59, v29_60, v29_61, n_14, n_8, inB_of, Nat.reduceLT, Prod.mk.injEq, true_and, rB, rBn, rBa, rBb, rBc, rBd, Evk_v, Evk_n, Nat.reduceAdd, Nat.reduceLeDiff, Nat.le_refl, Nat.zero_le, cz_0, cz_1, cI_1, cO_1, cz_2, cI_2, cO_2, cL_2, cD_2, cz_3, cI_3, cO_3, cL_3, cD_3, cz_4, cI_4, cO_4, cL_4, cD_4, cz_5, cI_5, cO_5, cL_5, cD_5, cz_6, cI_6, cO_6, cL_6, cD_6, cz_7, cI_7, cO_7, cL_7, cD_7, cz_8, cI_8, cO_8, cL_8, cD_8, List.mem_cons, or_true, true_or, and_self, sI_S, sL_S, sR_S, sD_S, gb_S, sI_R, sL_R, sD_R, gb_R, sI_L, sR_I, sR_L, sL_I, sD_I, sD_L, gb_I, gb_L, y_S1 hL, y_S2 hL, y_S3 hL, y_S4 hL, y_S5 hL, y_S6 hL, y_S7 hL, y_S8 hL, y_S9 hL, y_S10 hL, y_S11 hL, y_S12 hL, y_S13 hL, y_S14 hL, y_S15 hL, y_R1_0 hL, y_R1_1 hL, y_R1_2 hL, y_R1_3 hL, y_R1_4 hL, y_R2_0 hL, y_R2_1 hL, y_R2_2 hL, y_R3 hL, y_R6 hL, y_R7 hL, y_R9 hL, y_R10 hL, y_R11_0 hL, y_R11_1 hL, y_R14 hL, k_nu hC, k_rk hC, k_fl hC, k_dp hC, k_lm hC, k_cf hC, t_nu hC, t_kd hC, t_fd hC, t_dp hC, t_sv hC, t_st hC, t_mb hC, t_rm hC, t_dy hC, t_hr hC, p_pc hC, p_tc hC, p_wc hC, p_td hC, p_lo hC, hp, hi, iN_dlit8 (show x < 2147483648 by omega), if_neg q1, if_neg q2, q3, q5, n8, not_false_eq_true, ne_eq, iN_mlit8, q4, m28 hL hC hp hi hx, bI_0, z, k_bh hC hi, c1_It, c1_Ot, bI_T, bI_F, i10, i01, if_true, if_false, not_true_eq_false, not_false_eq_true, Bool.false_eq_true, Int32.or_zero, ne_eq, Bool.and_eq_true, decide_eq_true_eq, decide_true, decide_false, and_true, true_and, and_false, false_and, Bool.and_true, Bool.true_and, Bool.and_false, Bool.false_and]
theorem ch_flp {i x u : Nat} : Chg (inP p) h (bflp h P p i x u) := ch_t (ch_sI inP_3) (ch_sL inP_4)
/-! new persons, new theses -/
def enr (h : Hp) (p n : Nat) (r f c l : Int32) : Hp := sI (pset h p n r f c l) (2, p, 0) 3 (iN (n + 1))
theorem m33 (hL : Lay L xs h) (hC : Cls h p P) (hp : p < 9) (hn : pn P < 14) {r f c l : Int32} : Ev (d + 1) 33 0 [some (vR (2, p, 0)), some (vI r), some (vI f), some (vI c), some (vI l)] [] h = some (.inl (some (vI (iN (pn P)))), enr h p (pn P) r f c l) := by
  have h14 : iN (pn P) < 14 := ilt (n := 14) hn (by decide)
  have hS := y_S3 hL hp hn
  have e1 : ∀ k, gI (pset h p (pn P) r f c l) (2, p, 0) k = gI h (2, p, 0) k := fun k => by
    unfold pset
    simp only [sI_I, Prod.mk.injEq, Nat.reduceEqDiff, false_and, if_false]
  have e2 : iN (pn P + 1) - 1 = iN (pn P) := (iN_sub (b := 1) (by omega)).trans (congrArg iN (by omega))
  simp only [v33_0, v33_1, v33_4, v33_6, v33_9, v33_10, v33_11, v33_12, v33_15, v33_16, v33_19, v33_20, v33_21, v33_22, v33_23, v33_25, v33_28, v33_29, v33_30, v33_33, v33_34, v33_35, v33_38, v33_39, v33_42, v33_43, v33_44, n_14, n_8, inB_of, Nat.reduceLT, Prod.mk.injEq, true_and, rB, rBn, rBa, rBb, rBc, rBd, Evk_v, Evk_n, Nat.reduceAdd, Nat.reduceLeDiff, Nat.le_refl, Nat.zero_le, cz_0, cz_1, cI_1, cO_1, cz_2, cI_2, cO_2, cL_2, cD_2, cz_3, cI_3, cO_3, cL_3, cD_3, cz_4, cI_4, cO_4, cL_4, cD_4, cz_5, cI_5, cO_5, cL_5, cD_5, cz_6, cI_6, cO_6, cL_6, cD_6, cz_7, cI_7, cO_7, cL_7, cD_7, cz_8, cI_8, cO_8, cL_8, cD_8, List.mem_cons, or_true, true_or, and_self, sI_S, sL_S, sR_S, sD_S, gb_S, sI_R, sL_R, sD_R, gb_R, sI_L, sR_I, sR_L, sL_I, sD_I, sD_L, gb_I, gb_L, y_S1 hL, y_S2 hL, y_S3 hL, y_S4 hL, y_S5 hL, y_S6 hL, y_S7 hL, y_S8 hL, y_S9 hL, y_S10 hL, y_S11 hL, y_S12 hL, y_S13 hL, y_S14 hL, y_S15 hL, y_R1_0 hL, y_R1_1 hL, y_R1_2 hL, y_R1_3 hL, y_R1_4 hL, y_R2_0 hL, y_R2_1 hL, y_R2_2 hL, y_R3 hL, y_R6 hL, y_R7 hL, y_R9 hL, y_R10 hL, y_R11_0 hL, y_R11_1 hL, y_R14 hL, k_nu hC, k_rk hC, k_fl hC, k_dp hC, k_lm hC, k_cf hC, t_nu hC, t_kd hC, t_fd hC, t_dp hC, t_sv hC, t_st hC, t_mb hC, t_rm hC, t_dy hC, t_hr hC, p_pc hC, p_tc hC, p_wc hC, p_td hC, p_lo hC, hp, hn, if_pos h14, m21 hS, pset_S, pset_R, e1, sI_I, c1_It, c1_Ot, bI_T, bI_F, i10, i01, and_self, if_true, iN_s, e2]
  rfl
def reg (h : Hp) (p n : Nat) (k f c s : Int32) : Hp := sI (tset h p n k f c s) (2, p, 0) 4 (iN (n + 1))
theorem m34 (hL : Lay L xs h) (hC : Cls h p P) (hp : p < 9) (hn : tn P < 8) {r f c l : Int32} : Ev (d + 1) 34 0 [some (vR (2, p, 0)), some (vI r), some (vI f), some (vI c), some (vI l)] [] h = some (.inl (some (vI (iN (tn P)))), reg h p (tn P) r f c l) := by
  have h14 : iN (tn P) < 8 := ilt (n := 8) hn (by decide)
  have hS := y_S5 hL hp hn
  have e1 : ∀ k, gI (tset h p (tn P) r f c l) (2, p, 0) k = gI h (2, p, 0) k := fun k => by
    unfold tset
    simp only [sI_I, Prod.mk.injEq, Nat.reduceEqDiff, false_and, if_false]
  have e2 : iN (tn P + 1) - 1 = iN (tn P) := (iN_sub (b := 1) (by omega)).trans (congrArg iN (by omega))
  simp only [v34_0, v34_1, v34_4, v34_6, v34_9, v34_10, v34_11, v34_12, v34_15, v34_16, v34_19, v34_20, v34_21, v34_22, v34_23, v34_25, v34_28, v34_29, v34_30, v34_33, v34_34, v34_35, v34_38, v34_39, v34_42, v34_43, v34_44, n_14, n_8, inB_of, Nat.reduceLT, Prod.mk.injEq, true_and, rB, rBn, rBa, rBb, rBc, rBd, Evk_v, Evk_n, Nat.reduceAdd, Nat.reduceLeDiff, Nat.le_refl, Nat.zero_le, cz_0, cz_1, cI_1, cO_1, cz_2, cI_2, cO_2, cL_2, cD_2, cz_3, cI_3, cO_3, cL_3, cD_3, cz_4, cI_4, cO_4, cL_4, cD_4, cz_5, cI_5, cO_5, cL_5, cD_5, cz_6, cI_6, cO_6, cL_6, cD_6, cz_7, cI_7, cO_7, cL_7, cD_7, cz_8, cI_8, cO_8, cL_8, cD_8, List.mem_cons, or_true, true_or, and_self, sI_S, sL_S, sR_S, sD_S, gb_S, sI_R, sL_R, sD_R, gb_R, sI_L, sR_I, sR_L, sL_I, sD_I, sD_L, gb_I, gb_L, y_S1 hL, y_S2 hL, y_S3 hL, y_S4 hL, y_S5 hL, y_S6 hL, y_S7 hL, y_S8 hL, y_S9 hL, y_S10 hL, y_S11 hL, y_S12 hL, y_S13 hL, y_S14 hL, y_S15 hL, y_R1_0 hL, y_R1_1 hL, y_R1_2 hL, y_R1_3 hL, y_R1_4 hL, y_R2_0 hL, y_R2_1 hL, y_R2_2 hL, y_R3 hL, y_R6 hL, y_R7 hL, y_R9 hL, y_R10 hL, y_R11_0 hL, y_R11_1 hL, y_R14 hL, k_nu hC, k_rk hC, k_fl hC, k_dp hC, k_lm hC, k_cf hC, t_nu hC, t_kd hC, t_fd hC, t_dp hC, t_sv hC, t_st hC, t_mb hC, t_rm hC, t_dy hC, t_hr hC, p_pc hC, p_tc hC, p_wc hC, p_td hC, p_lo hC, hp, hn, if_pos h14, m74 hS, tset_S, tset_R, e1, sI_I, c1_It, c1_Ot, bI_T, bI_F, i10, i01, and_self, if_true, iN_s, e2]
  rfl
end Clm3
