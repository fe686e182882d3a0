/-! THE CLASS'S CHANGES: persons made new and copied; plans copied -/

def PerIs (h : Hp) (p i : Nat) (P : PL) : Prop := gI h (3, p, i) 0 = iN i ∧ gI h (3, p, i) 2 = iN (bhs P i 401) ∧ (∀ f, f < 5 → gI h (3, p, i) (f + 3) = P.1 f i) ∧ ∀ d, d < 401 → by8 (gL h (4, p, i) (d / 8)) (d % 8) = P.1 5 (401 * i + d)
def TheIs (h : Hp) (p j : Nat) (P : PL) : Prop := gI h (5, p, j) 0 = iN j ∧ ∀ f, f < 9 → gI h (5, p, j) (f + 1) = P.1 (f + 6) j
def PlaIs (h : Hp) (p : Nat) (P : PL) : Prop := (∀ k, k < wn P → gI h (8, p, 0) k = P.1 15 k) ∧ gI h (2, p, 0) 3 = iN (pn P) ∧ gI h (2, p, 0) 4 = iN (tn P) ∧ gI h (2, p, 0) 5 = iN (wn P) ∧ gI h (2, p, 0) 6 = P.1 16 0 ∧ gI h (2, p, 0) 7 = P.1 16 1
section Clm2
variable {L : Nat} {xs : Nat → Int32} {h h' : Hp} {p q : Nat} {P : PL} {d : Nat} {A : A3 → Prop}
theorem Cls_per (hC : Cls h p P) {i : Nat} (hi : i < 14) : PerIs h p i P := ⟨k_nu hC hi, k_bh hC hi, fun f hf => hC.1.2.2.1 f hf i hi, fun x hx => hC.2 i hi x hx⟩
theorem Cls_the (hC : Cls h p P) {i : Nat} (hi : i < 8) : TheIs h p i P := ⟨t_nu hC hi, fun f hf => hC.1.2.2.2.2.1 f hf i hi⟩
theorem Cls_pla (hC : Cls h p P) : PlaIs h p P := ⟨fun k hk => l_ln hC hk, p_pc hC, p_tc hC, p_wc hC, p_td hC, p_lo hC⟩
theorem Cls_mk (h1 : ∀ i, i < 14 → PerIs h p i P) (h2 : ∀ j, j < 8 → TheIs h p j P) (h3 : PlaIs h p P) : Cls h p P := ⟨⟨fun i hi => (h1 i hi).1, fun i hi => (h1 i hi).2.1, fun f hf i hi => (h1 i hi).2.2.1 f hf, fun j hj => (h2 j hj).1, fun f hf j hj => (h2 j hj).2 f hf, h3⟩, fun i hi x hx => (h1 i hi).2.2.2 x hx⟩
theorem per_ch {i : Nat} (a : PerIs h p i P) (c : Chg A h h') (h3 : ¬ A (3, p, i)) (h4 : ¬ A (4, p, i)) : PerIs h' p i P := by
  unfold PerIs
  rw [ch_I c h3, ch_L c h4]
  exact a
theorem the_ch {i : Nat} (a : TheIs h p i P) (c : Chg A h h') (h3 : ¬ A (5, p, i)) : TheIs h' p i P := by
  unfold TheIs
  rw [ch_I c h3]
  exact a
theorem pla_ch (a : PlaIs h p P) (c : Chg A h h') (h3 : ¬ A (8, p, 0)) (h4 : ¬ A (2, p, 0)) : PlaIs h' p P := by
  unfold PlaIs
  rw [ch_I c h3, ch_I c h4]
  exact a
def isPer (p i : Nat) (a : A3) : Prop := a = (3, p, i) ∨ a = (4, p, i)
theorem isPer_in {i : Nat} : ∀ a, isPer p i a → inP p a := fun a z => by
  rcases z with rfl | rfl
  · exact inP_3
  · exact inP_4
theorem m23 (hL : Lay L xs h) (hp : p < 9) (hq : q < 9) (hpq : ¬ q = p) {i : Nat} (hi : i < 14) (hn : gI h (3, p, i) 0 = iN i) (hQ : PerIs h q i P) : ∃ h', Ev (d + 1) 23 0 [some (vR (3, p, i)), some (vR (3, q, i))] [] h = some (.inl none, h') ∧ Chg (isPer p i) h h' ∧ PerIs h' p i P := by
  have hS := y_S3 hL hp hi
  have hS2 := y_S3 hL hq hi
  have hpq' : ¬ p = q := fun e => hpq e.symm
  refine ⟨cpL (sI (sI (pset h p i (gI h (3, q, i) 3) (gI h (3, q, i) 4) (gI h (3, q, i) 5) (gI h (3, q, i) 6)) (3, p, i) 7 (gI h (3, q, i) 7)) (3, p, i) 2 (gI h (3, q, i) 2)) (4, q, i) 0 (4, p, i) 0 51, ?_, ?_, ?_⟩
  · have e1 : ∀ k, gI (pset h p i (gI h (3, q, i) 3) (gI h (3, q, i) 4) (gI h (3, q, i) 5) (gI h (3, q, i) 6)) (3, q, i) k = gI h (3, q, i) k := fun k => by
      unfold pset
      simp only [sI_I, Prod.mk.injEq, hpq, false_and, and_false, if_false]
    have hne : ((4, q, i) : A3) ≠ (4, p, i) := fun e => hpq (by simp at e; exact e)
    have r51 : ∀ ls h', gS h' (4, q, i) = (4, 51) → gS h' (4, p, i) = (4, 51) → Ev (d + 1) 23 51 ls [vI (Int32.ofNat 51), vI 0, vR (4, p, i), vI 0, vR (4, q, i)] h' = Ev (d + 1) 23 54 ls [] (cpL h' (4, q, i) 0 (4, p, i) 0 51) := fun ls h' g1 g2 => by
      refine (v23_51 (Nat.zero_le _) hne (by decide) (by decide) (by decide) (by rw [g1]; decide) (by rw [g2]; decide) (Or.inr ⟨by rw [g1], by rw [g2]⟩)).trans ?_
      rw [if_neg (by rw [g1]; decide)]
      rfl
    simp only [v23_0, v23_1, v23_2, v23_5, v23_6, v23_9, v23_10, v23_13, v23_14, v23_17, v23_20, v23_21, v23_22, v23_25, v23_28, v23_29, v23_30, v23_33, v23_36, v23_37, v23_40, v23_41, v23_42, v23_45, v23_46, v23_47, v23_50, v23_54, n_14, n_8, inB_of, Nat.reduceLT, Prod.mk.injEq, true_and, rB, rBn, rBa, rBb, rBc, rBd, Evk_v, Evk_n, Nat.reduceAdd, Nat.reduceLeDiff, Nat.le_refl, Nat.zero_le, cz_0, cz_1, cI_1, cO_1, cz_2, cI_2, cO_2, cL_2, cD_2, cz_3, cI_3, cO_3, cL_3, cD_3, cz_4, cI_4, cO_4, cL_4, cD_4, cz_5, cI_5, cO_5, cL_5, cD_5, cz_6, cI_6, cO_6, cL_6, cD_6, cz_7, cI_7, cO_7, cL_7, cD_7, cz_8, cI_8, cO_8, cL_8, cD_8, List.mem_cons, or_true, true_or, and_self, sI_S, sL_S, sR_S, sD_S, gb_S, sI_R, sL_R, sD_R, gb_R, sI_L, sR_I, sR_L, sL_I, sD_I, sD_L, gb_I, gb_L, hS, hS2, m21 hS, pset_S, pset_R, e1, sI_I, hpq, false_and, and_false, if_false, y_R3 hL, hp, hq, hi, y_S4 hL]
    refine (r51 _ _ ?_ ?_).trans v23_54
    · exact y_S4 hL hq hi
    · exact y_S4 hL hp hi
  · exact ch_t (ch_t (ch_t (ch_pset (Or.inl rfl)) (ch_sI (Or.inl rfl))) (ch_sI (Or.inl rfl))) (ch_cpL (Or.inr rfl))
  · refine ⟨?_, ?_, fun f hf => ?_, fun x hx => ?_⟩
    · rw [cpL_I]
      unfold pset
      simp only [sI_I, Nat.reduceEqDiff, and_false, if_false]
      exact hn
    · rw [cpL_I, sI_I, if_pos ⟨rfl, rfl⟩]
      exact hQ.2.1
    · have := hQ.2.2.1 f hf
      rw [cpL_I, ← this]
      unfold pset
      have hc : f = 0 ∨ f = 1 ∨ f = 2 ∨ f = 3 ∨ f = 4 := by omega
      rcases hc with rfl | rfl | rfl | rfl | rfl <;> simp only [sI_I, Nat.reduceAdd, Nat.reduceEqDiff, and_false, and_self, if_false, if_true]
    · rw [cpL_L, if_pos ⟨rfl, Nat.zero_le _, by omega⟩]
      show by8 (gL h (4, q, i) (0 + (x / 8 - 0))) (x % 8) = _
      rw [Nat.zero_add, Nat.sub_zero]
      exact hQ.2.2.2 x hx
def isThe (p i : Nat) (a : A3) : Prop := a = (5, p, i)
theorem the_tcpy {i : Nat} (hn : gI h (5, p, i) 0 = iN i) (hQ : TheIs h q i P) : TheIs (tcpy h p q i) p i P := by
  refine ⟨?_, fun f hf => ?_⟩
  · unfold tcpy tpl tset
    simp only [sI_I, Nat.reduceEqDiff, and_false, if_false]
    exact hn
  · have := hQ.2 f hf
    rw [← this]
    unfold tcpy tpl tset
    have hc : f = 0 ∨ f = 1 ∨ f = 2 ∨ f = 3 ∨ f = 4 ∨ f = 5 ∨ f = 6 ∨ f = 7 ∨ f = 8 := by omega
    rcases hc with rfl | rfl | rfl | rfl | rfl | rfl | rfl | rfl | rfl <;> simp only [sI_I, Nat.reduceAdd, Nat.reduceEqDiff, and_false, and_self, if_false, if_true]
theorem ch_tcpy {i : Nat} (hA : A (5, p, i)) : Chg A h (tcpy h p q i) := ch_t (ch_t (ch_t (ch_tset hA) (ch_sI hA)) (ch_sI hA)) (ch_tpl hA)
theorem m32 (hL : Lay L xs h) (hp : p < 9) (hq : q < 9) (hpq : ¬ q = p) {P0 : PL} (hC0 : Cls h p P0) (hC : Cls h q P) (hw : wn P ≤ 8) : ∃ h', Ev (d + 2) 32 0 [some (vR (2, p, 0)), some (vR (2, q, 0)), none] [] h = some (.inl none, h') ∧ Chg (inP p) h h' ∧ Cls h' p P := by
  have hpq' : ¬ p = q := fun e => hpq e.symm
  have lp := loopI (σ := LS3 × Hp) (E := fun s => Ev (d + 2) 32 2 s.1 [] s.2) (I := fun k s => s.1 = [some (vR (2, p, 0)), some (vR (2, q, 0)), some (vI (iN k))] ∧ Chg (inP p) h s.2 ∧ (∀ i, i < 14 → gI s.2 (3, p, i) 0 = iN i) ∧ (∀ i, i < 8 → gI s.2 (5, p, i) 0 = iN i) ∧ ∀ i, i < k → PerIs s.2 p i P) (n := 14) (by
    rintro k hk ⟨ls, h1⟩ ⟨rfl, c, n1, n2, hx⟩
    have hk31 : k < 2147483648 := by omega
    have hnl : ¬ ((14 : Int32) ≤ iN k) := nle (n := 14) hk (by omega)
    have hL1 := Lay_ch hL c (fun a ha z => by have := z.2.2; omega)
    have hQ : PerIs h1 q k P := per_ch (Cls_per hC hk) c (fun z => hpq z.1) (fun z => hpq z.1)
    obtain ⟨h2, e, c2, pk⟩ := m23 (d := d) hL1 hp hq hpq hk (n1 k hk) hQ
    refine ⟨(_, h2), ⟨rfl, ch_t c (ch_m isPer_in c2), fun i hi => ?_, fun i hi => ?_, fun i hi => ?_⟩, ?_⟩
    · by_cases y : i = k
      · subst y; exact pk.1
      · rw [ch_I c2 (fun z => by rcases z with z | z <;> simp at z; omega)]; exact n1 i hi
    · rw [ch_I c2 (fun z => by rcases z with z | z <;> simp at z)]; exact n2 i hi
    · by_cases y : i = k
      · subst y; exact pk
      · exact per_ch (hx i (by omega)) c2 (fun z => by rcases z with z | z <;> simp at z; omega) (fun z => by rcases z with z | z <;> simp at z; omega)
    · show Ev (d + 2) 32 2 _ [] h1 = Ev (d + 2) 32 2 _ [] h2
      rw [v32_2]
      simp only [v32_0, v32_1, v32_3, v32_5, v32_8, v32_9, v32_12, v32_13, v32_14, v32_15, v32_18, v32_19, v32_20, v32_23, v32_26, v32_29, v32_30, v32_32, v32_34, v32_37, v32_38, v32_41, v32_42, v32_43, v32_44, v32_47, v32_48, v32_49, v32_52, v32_55, v32_58, v32_59, v32_62, v32_63, v32_64, v32_67, v32_68, v32_70, v32_73, v32_74, v32_75, v32_78, v32_81, v32_82, v32_83, v32_86, v32_89, v32_90, v32_91, v32_94, v32_97, v32_98, v32_99, v32_102, v32_105, v32_106, v32_107, v32_110, v32_113, n_14, n_8, inB_of, Nat.reduceLT, Prod.mk.injEq, true_and, rB, rBn, rBa, rBb, rBc, rBd, Evk_v, Evk_n, Nat.reduceAdd, Nat.reduceLeDiff, Nat.le_refl, Nat.zero_le, cz_0, cz_1, cI_1, cO_1, cz_2, cI_2, cO_2, cL_2, cD_2, cz_3, cI_3, cO_3, cL_3, cD_3, cz_4, cI_4, cO_4, cL_4, cD_4, cz_5, cI_5, cO_5, cL_5, cD_5, cz_6, cI_6, cO_6, cL_6, cD_6, cz_7, cI_7, cO_7, cL_7, cD_7, cz_8, cI_8, cO_8, cL_8, cD_8, List.mem_cons, or_true, true_or, and_self, sI_S, sL_S, sR_S, sD_S, gb_S, sI_R, sL_R, sD_R, gb_R, sI_L, sR_I, sR_L, sL_I, sD_I, sD_L, gb_I, gb_L, y_S2 hL1, y_R2_0 hL1, y_S6 hL1, y_R6 hL1, y_S3 hL1, hp, hq, hk, n_i hk31, if_neg hnl, e, iN_s])
  obtain ⟨⟨ls, h1⟩, ⟨rfl, c, n1, n2, hx⟩, e⟩ := lp (_, h) ⟨rfl, ch_r, fun i hi => k_nu hC0 hi, fun i hi => t_nu hC0 hi, fun i hi => absurd hi (Nat.not_lt_zero i)⟩
  have lp2 := loopI (σ := LS3 × Hp) (E := fun s => Ev (d + 2) 32 31 s.1 [] s.2) (I := fun k s => s.1 = [some (vR (2, p, 0)), some (vR (2, q, 0)), some (vI (iN k))] ∧ Chg (inP p) h s.2 ∧ (∀ i, i < 8 → gI s.2 (5, p, i) 0 = iN i) ∧ (∀ i, i < 14 → PerIs s.2 p i P) ∧ ∀ i, i < k → TheIs s.2 p i P) (n := 8) (by
    rintro k hk ⟨ls, h2⟩ ⟨rfl, c2, n2, hx, hy⟩
    have hk31 : k < 2147483648 := by omega
    have hnl : ¬ ((8 : Int32) ≤ iN k) := nle (n := 8) hk (by omega)
    have hL1 := Lay_ch hL c2 (fun a ha z => by have := z.2.2; omega)
    have hQ : TheIs h2 q k P := the_ch (Cls_the hC hk) c2 (fun z => hpq z.1)
    have e := m76 (d := d) (y_S5 hL1 hp hk) (y_S5 hL1 hq hk) hpq
    have c3 : Chg (isThe p k) h2 (tcpy h2 p q k) := ch_tcpy rfl
    refine ⟨(_, tcpy h2 p q k), ⟨rfl, ch_t c2 (ch_m (fun a z => by have z : a = (5, p, k) := z; rw [z]; exact inP_5) c3), fun i hi => ?_, fun i hi => ?_, fun i hi => ?_⟩, ?_⟩
    · by_cases y : i = k
      · subst y; exact (the_tcpy (n2 i hi) hQ).1
      · rw [ch_I c3 (fun z => by have z : ((5, p, i) : A3) = (5, p, k) := z; simp at z; omega)]; exact n2 i hi
    · exact per_ch (hx i hi) c3 (fun z => by have z : ((3, p, i) : A3) = (5, p, k) := z; simp at z) (fun z => by have z : ((4, p, i) : A3) = (5, p, k) := z; simp at z)
    · by_cases y : i = k
      · subst y; exact the_tcpy (n2 i hk) hQ
      · exact the_ch (hy i (by omega)) c3 (fun z => by have z : ((5, p, i) : A3) = (5, p, k) := z; simp at z; omega)
    · show Ev (d + 2) 32 31 _ [] h2 = Ev (d + 2) 32 31 _ [] (tcpy h2 p q k)
      rw [v32_31]
      simp only [v32_0, v32_1, v32_3, v32_5, v32_8, v32_9, v32_12, v32_13, v32_14, v32_15, v32_18, v32_19, v32_20, v32_23, v32_26, v32_29, v32_30, v32_32, v32_34, v32_37, v32_38, v32_41, v32_42, v32_43, v32_44, v32_47, v32_48, v32_49, v32_52, v32_55, v32_58, v32_59, v32_62, v32_63, v32_64, v32_67, v32_68, v32_70, v32_73, v32_74, v32_75, v32_78, v32_81, v32_82, v32_83, v32_86, v32_89, v32_90, v32_91, v32_94, v32_97, v32_98, v32_99, v32_102, v32_105, v32_106, v32_107, v32_110, v32_113, n_14, n_8, inB_of, Nat.reduceLT, Prod.mk.injEq, true_and, rB, rBn, rBa, rBb, rBc, rBd, Evk_v, Evk_n, Nat.reduceAdd, Nat.reduceLeDiff, Nat.le_refl, Nat.zero_le, cz_0, cz_1, cI_1, cO_1, cz_2, cI_2, cO_2, cL_2, cD_2, cz_3, cI_3, cO_3, cL_3, cD_3, cz_4, cI_4, cO_4, cL_4, cD_4, cz_5, cI_5, cO_5, cL_5, cD_5, cz_6, cI_6, cO_6, cL_6, cD_6, cz_7, cI_7, cO_7, cL_7, cD_7, cz_8, cI_8, cO_8, cL_8, cD_8, List.mem_cons, or_true, true_or, and_self, sI_S, sL_S, sR_S, sD_S, gb_S, sI_R, sL_R, sD_R, gb_R, sI_L, sR_I, sR_L, sL_I, sD_I, sD_L, gb_I, gb_L, y_S2 hL1, y_R2_1 hL1, y_S7 hL1, y_R7 hL1, y_S5 hL1, hp, hq, hk, n_i hk31, if_neg hnl, e, iN_s])
  obtain ⟨⟨ls, h2⟩, ⟨rfl, c2, n3, hx2, hy2⟩, e2⟩ := lp2 (_, h1) ⟨rfl, c, n2, hx, fun i hi => absurd hi (Nat.not_lt_zero i)⟩
  have hL2 := Lay_ch hL c2 (fun a ha z => by have := z.2.2; omega)
  have hQ2 : PlaIs h2 q P := pla_ch (Cls_pla hC) c2 (fun z => hpq z.1) (fun z => hpq z.1)
  have hne : ((8, q, 0) : A3) ≠ (8, p, 0) := fun e => hpq (by simp at e; exact e)
  have r70 : ∀ ls, Ev (d + 2) 32 70 ls [vI 8, vI 0, vR (8, p, 0), vI 0, vR (8, q, 0)] h2 = Ev (d + 2) 32 73 ls [] (cpI h2 (8, q, 0) 0 (8, p, 0) 0 8) := fun ls => by
    have g1 := y_S8 hL2 hq
    have g2 := y_S8 hL2 hp
    refine (v32_70 (Nat.zero_le _) hne (by decide) (by decide) (by decide) (by rw [g1]; decide) (by rw [g2]; decide) (Or.inl ⟨by rw [g1], by rw [g2]⟩)).trans ?_
    rw [if_pos (by rw [g1])]
    rfl
  refine ⟨sI (sI (sI (sI (sI (cpI h2 (8, q, 0) 0 (8, p, 0) 0 8) (2, p, 0) 3 (iN (pn P))) (2, p, 0) 4 (iN (tn P))) (2, p, 0) 5 (iN (wn P))) (2, p, 0) 6 (P.1 16 0)) (2, p, 0) 7 (P.1 16 1), ?_, ?_, ?_⟩
  · simp only [v32_0, v32_1, v32_3, v32_5, v32_8, v32_9, v32_12, v32_13, v32_14, v32_15, v32_18, v32_19, v32_20, v32_23, v32_26, v32_29, v32_30, v32_32, v32_34, v32_37, v32_38, v32_41, v32_42, v32_43, v32_44, v32_47, v32_48, v32_49, v32_52, v32_55, v32_58, v32_59, v32_62, v32_63, v32_64, v32_67, v32_68, v32_70, v32_73, v32_74, v32_75, v32_78, v32_81, v32_82, v32_83, v32_86, v32_89, v32_90, v32_91, v32_94, v32_97, v32_98, v32_99, v32_102, v32_105, v32_106, v32_107, v32_110, v32_113, n_14, n_8, inB_of, Nat.reduceLT, Prod.mk.injEq, true_and, rB, rBn, rBa, rBb, rBc, rBd, Evk_v, Evk_n, Nat.reduceAdd, Nat.reduceLeDiff, Nat.le_refl, Nat.zero_le, cz_0, cz_1, cI_1, cO_1, cz_2, cI_2, cO_2, cL_2, cD_2, cz_3, cI_3, cO_3, cL_3, cD_3, cz_4, cI_4, cO_4, cL_4, cD_4, cz_5, cI_5, cO_5, cL_5, cD_5, cz_6, cI_6, cO_6, cL_6, cD_6, cz_7, cI_7, cO_7, cL_7, cD_7, cz_8, cI_8, cO_8, cL_8, cD_8, List.mem_cons, or_true, true_or, and_self, sI_S, sL_S, sR_S, sD_S, gb_S, sI_R, sL_R, sD_R, gb_R, sI_L, sR_I, sR_L, sL_I, sD_I, sD_L, gb_I, gb_L]
    refine Eq.trans e ?_
    show Ev (d + 2) 32 2 _ [] h1 = _
    rw [v32_2]
    simp only [v32_0, v32_1, v32_3, v32_5, v32_8, v32_9, v32_12, v32_13, v32_14, v32_15, v32_18, v32_19, v32_20, v32_23, v32_26, v32_29, v32_30, v32_32, v32_34, v32_37, v32_38, v32_41, v32_42, v32_43, v32_44, v32_47, v32_48, v32_49, v32_52, v32_55, v32_58, v32_59, v32_62, v32_63, v32_64, v32_67, v32_68, v32_70, v32_73, v32_74, v32_75, v32_78, v32_81, v32_82, v32_83, v32_86, v32_89, v32_90, v32_91, v32_94, v32_97, v32_98, v32_99, v32_102, v32_105, v32_106, v32_107, v32_110, v32_113, n_14, n_8, inB_of, Nat.reduceLT, Prod.mk.injEq, true_and, rB, rBn, rBa, rBb, rBc, rBd, Evk_v, Evk_n, Nat.reduceAdd, Nat.reduceLeDiff, Nat.le_refl, Nat.zero_le, cz_0, cz_1, cI_1, cO_1, cz_2, cI_2, cO_2, cL_2, cD_2, cz_3, cI_3, cO_3, cL_3, cD_3, cz_4, cI_4, cO_4, cL_4, cD_4, cz_5, cI_5, cO_5, cL_5, cD_5, cz_6, cI_6, cO_6, cL_6, cD_6, cz_7, cI_7, cO_7, cL_7, cD_7, cz_8, cI_8, cO_8, cL_8, cD_8, List.mem_cons, or_true, true_or, and_self, sI_S, sL_S, sR_S, sD_S, gb_S, sI_R, sL_R, sD_R, gb_R, sI_L, sR_I, sR_L, sL_I, sD_I, sD_L, gb_I, gb_L, if_pos (show (14 : Int32) ≤ iN 14 from Int32.le_refl _)]
    refine Eq.trans e2 ?_
    show Ev (d + 2) 32 31 _ [] h2 = _
    rw [v32_31]
    simp only [v32_0, v32_1, v32_3, v32_5, v32_8, v32_9, v32_12, v32_13, v32_14, v32_15, v32_18, v32_19, v32_20, v32_23, v32_26, v32_29, v32_30, v32_32, v32_34, v32_37, v32_38, v32_41, v32_42, v32_43, v32_44, v32_47, v32_48, v32_49, v32_52, v32_55, v32_58, v32_59, v32_62, v32_63, v32_64, v32_67, v32_68, v32_73, v32_74, v32_75, v32_78, v32_81, v32_82, v32_83, v32_86, v32_89, v32_90, v32_91, v32_94, v32_97, v32_98, v32_99, v32_102, v32_105, v32_106, v32_107, v32_110, v32_113, n_14, n_8, inB_of, Nat.reduceLT, Prod.mk.injEq, true_and, rB, rBn, rBa, rBb, rBc, rBd, Evk_v, Evk_n, Nat.reduceAdd, Nat.reduceLeDiff, Nat.le_refl, Nat.zero_le, cz_0, cz_1, cI_1, cO_1, cz_2, cI_2, cO_2, cL_2, cD_2, cz_3, cI_3, cO_3, cL_3, cD_3, cz_4, cI_4, cO_4, cL_4, cD_4, cz_5, cI_5, cO_5, cL_5, cD_5, cz_6, cI_6, cO_6, cL_6, cD_6, cz_7, cI_7, cO_7, cL_7, cD_7, cz_8, cI_8, cO_8, cL_8, cD_8, List.mem_cons, or_true, true_or, and_self, sI_S, sL_S, sR_S, sD_S, gb_S, sI_R, sL_R, sD_R, gb_R, sI_L, sR_I, sR_L, sL_I, sD_I, sD_L, gb_I, gb_L, if_pos (show (8 : Int32) ≤ iN 8 from Int32.le_refl _), y_S2 hL2, y_R2_2 hL2, hp, hq, r70]
    have qq : ∀ k, gI (cpI h2 (8, q, 0) 0 (8, p, 0) 0 8) (2, q, 0) k = gI h2 (2, q, 0) k := fun k => by
      rw [cpI_I, if_neg (by simp)]
    have q3 := hQ2.2.1
    have q4 := hQ2.2.2.1
    have q5 := hQ2.2.2.2.1
    have q6 := hQ2.2.2.2.2.1
    have q7 := hQ2.2.2.2.2.2
    simp only [v32_0, v32_1, v32_3, v32_5, v32_8, v32_9, v32_12, v32_13, v32_14, v32_15, v32_18, v32_19, v32_20, v32_23, v32_26, v32_29, v32_30, v32_32, v32_34, v32_37, v32_38, v32_41, v32_42, v32_43, v32_44, v32_47, v32_48, v32_49, v32_52, v32_55, v32_58, v32_59, v32_62, v32_63, v32_64, v32_67, v32_68, v32_73, v32_74, v32_75, v32_78, v32_81, v32_82, v32_83, v32_86, v32_89, v32_90, v32_91, v32_94, v32_97, v32_98, v32_99, v32_102, v32_105, v32_106, v32_107, v32_110, v32_113, n_14, n_8, inB_of, Nat.reduceLT, Prod.mk.injEq, true_and, rB, rBn, rBa, rBb, rBc, rBd, Evk_v, Evk_n, Nat.reduceAdd, Nat.reduceLeDiff, Nat.le_refl, Nat.zero_le, cz_0, cz_1, cI_1, cO_1, cz_2, cI_2, cO_2, cL_2, cD_2, cz_3, cI_3, cO_3, cL_3, cD_3, cz_4, cI_4, cO_4, cL_4, cD_4, cz_5, cI_5, cO_5, cL_5, cD_5, cz_6, cI_6, cO_6, cL_6, cD_6, cz_7, cI_7, cO_7, cL_7, cD_7, cz_8, cI_8, cO_8, cL_8, cD_8, List.mem_cons, or_true, true_or, and_self, sI_S, sL_S, sR_S, sD_S, gb_S, sI_R, sL_R, sD_R, gb_R, sI_L, sR_I, sR_L, sL_I, sD_I, sD_L, gb_I, gb_L, cpI_S, cpI_R, y_S2 hL2, hp, hq, sI_I, Prod.mk.injEq, hpq, and_false, false_and, if_false, qq, q3, q4, q5, q6, q7]
  · exact ch_t (ch_t (ch_t (ch_t (ch_t (ch_t c2 (ch_cpI inP_8)) (ch_sI inP_2)) (ch_sI inP_2)) (ch_sI inP_2)) (ch_sI inP_2)) (ch_sI inP_2)
  · have c3 : Chg (fun a => a = (8, p, 0) ∨ a = (2, p, 0)) h2 (sI (sI (sI (sI (sI (cpI h2 (8, q, 0) 0 (8, p, 0) 0 8) (2, p, 0) 3 (iN (pn P))) (2, p, 0) 4 (iN (tn P))) (2, p, 0) 5 (iN (wn P))) (2, p, 0) 6 (P.1 16 0)) (2, p, 0) 7 (P.1 16 1)) := ch_t (ch_t (ch_t (ch_t (ch_t (ch_cpI (Or.inl rfl)) (ch_sI (Or.inr rfl))) (ch_sI (Or.inr rfl))) (ch_sI (Or.inr rfl))) (ch_sI (Or.inr rfl))) (ch_sI (Or.inr rfl))
    refine Cls_mk (fun i hi => per_ch (hx2 i hi) c3 (by simp) (by simp)) (fun j hj => the_ch (hy2 j hj) c3 (by simp)) ⟨fun k hk => ?_, ?_, ?_, ?_, ?_, ?_⟩
    · simp only [sI_I, Prod.mk.injEq, Nat.reduceEqDiff, false_and, if_false]
      rw [cpI_I, if_pos ⟨rfl, Nat.zero_le _, by omega⟩, Nat.zero_add, Nat.sub_zero]
      exact hQ2.1 k hk
    all_goals simp only [sI_I, Nat.reduceEqDiff, and_false, and_self, if_false, if_true]
end Clm2
