/-! THE START: the constructors of the planner and of the model -/

theorem nm_1 : nm 1 = (2, 0, 0) := by decide +kernel
theorem nm_41 : nm 41 = (2, 1, 0) := by decide +kernel
theorem nm_0 : nm 0 = (1, 0, 0) := by decide +kernel
theorem nm_20 : nm 368 = (20, 0, 0) := by decide +kernel
theorem nm_21 : ∀ k, k < 22 → nm (369 + k) = (21, k, 0) := by decide +kernel
theorem nm_30 : nm 391 = (30, 0, 0) := by decide +kernel
theorem nm_31 : nm 392 = (31, 0, 0) := by decide +kernel
def ClO (h : Hp) : Prop := gS h (1, 0, 0) = (1, 6) ∧ (∀ p, p < 9 → PlO h p) ∧ (gS h (9, 0, 0) = (1, 1) ∧ gS h (10, 0, 0) = (8, 7) ∧ gS h (11, 0, 0) = (1, 2) ∧ gS h (12, 0, 0) = (3, 60) ∧ gS h (13, 0, 0) = (2, 100) ∧ gS h (14, 0, 0) = (1, 0) ∧ gS h (15, 0, 0) = (2, 5)) ∧ (gR h (1, 0, 0) 0 = some (2, 0, 0) ∧ gR h (1, 0, 0) 1 = some (2, 1, 0) ∧ gR h (1, 0, 0) 2 = some (9, 0, 0) ∧ gR h (1, 0, 0) 3 = some (11, 0, 0) ∧ gR h (1, 0, 0) 4 = some (14, 0, 0)) ∧ (gR h (9, 0, 0) 0 = some (10, 0, 0) ∧ (∀ i, i < 7 → gR h (10, 0, 0) i = some (2, i + 2, 0)) ∧ gR h (11, 0, 0) 0 = some (12, 0, 0) ∧ gR h (11, 0, 0) 1 = some (13, 0, 0) ∧ gR h (14, 0, 0) 0 = some (15, 0, 0)) ∧ gI h (1, 0, 0) 5 = 0 ∧ gI h (1, 0, 0) 6 = -1 ∧ gI h (1, 0, 0) 7 = -1 ∧ gI h (9, 0, 0) 1 = 0 ∧ gI h (9, 0, 0) 2 = 0 ∧ gI h (11, 0, 0) 2 = 0
section St3
variable {h h' h1 h2 : Hp} {A B : A3 → Prop} {d k p : Nat} {a b : A3}
theorem nP1 {q c : Nat} (hc : ¬ (2 ≤ c ∧ c ≤ 8)) : ∀ a, inP q a → a ≠ (c, 0, 0) := fun a z e => by rw [e] at z; exact hc z.2
/-- the planner, cut where its parts are made -/
theorem s91_0 (s : Sta h 1) (h1 : gS h (1, 0, 0) = (1, 6)) : ∃ h', Ev (d + 3) 91 0 [some (vR (1, 0, 0))] [] h = Ev (d + 3) 91 15 [some (vR (1, 0, 0))] [] h' ∧ Sta h' 41 ∧ PlO h' 0 ∧ gS h' (1, 0, 0) = (1, 6) ∧ (∀ m, gR h' (1, 0, 0) m = if m = 0 then some (2, 0, 0) else gR h (1, 0, 0) m) ∧ gI h' (1, 0, 0) = gI h (1, 0, 0) ∧ Fra (fun a => a = (1, 0, 0) ∨ inP 0 a) h h' ∧ su h' ≤ su h + 2008 := by
  have hF : Fresh h := sta_F s (by decide)
  have ec : cnt h = 1 := s.1
  have s1 : Sta (mk h (2, 0, 0) (1, 4) 8) (nmB 0 + 1) := sta_mk (k := 1) s (by decide) nm_1
  obtain ⟨ha, ea, sa, pa, fa, ua⟩ := b30 (d := d + 1) (p := 0) (h := mk h (2, 0, 0) (1, 4) 8) (by decide) s1 (by simp only [sR_S, sI_S, mk_S, sR_Rx, mk_Rw, sI_R, sI_I, sR_I, mk_Iw, sR_L, sI_L, mk_Lw, Prod.mk.injEq, Nat.reduceEqDiff, and_true, true_and, false_and, and_false, if_true, if_false, and_self]) (fun m => by simp only [sR_S, sI_S, mk_S, sR_Rx, mk_Rw, sI_R, sI_I, sR_I, mk_Iw, sR_L, sI_L, mk_Lw, Prod.mk.injEq, Nat.reduceEqDiff, and_true, true_and, false_and, and_false, if_true, if_false, and_self])
  have ea : Ev (d + 2) 30 0 [some (vR (2, 0, 0)), none] [] (mk h (2, 0, 0) (1, 4) 8) = some (.inl none, ha) := ea
  have n1 : ¬ inP 0 (1, 0, 0) := fun z => by have := z.2.1; simp at this
  obtain ⟨x1, x2, x3, -⟩ := fa (1, 0, 0) n1
  have g1 : gS ha (1, 0, 0) = (1, 6) := by rw [x1]; simp only [sR_S, sI_S, mk_S, sR_Rx, mk_Rw, sI_R, sI_I, sR_I, mk_Iw, sR_L, sI_L, mk_Lw, Prod.mk.injEq, Nat.reduceEqDiff, and_true, true_and, false_and, and_false, if_true, if_false, and_self, h1]
  have F : Fra (fun a => a = (1, 0, 0) ∨ inP 0 a) h (sR ha (1, 0, 0) 0 (some (2, 0, 0))) := fra_t (fra_mk (Or.inr inP_2)) (fra_t (fra_m (fun a z => Or.inr z) fa) (fra_sR (Or.inl rfl)))
  refine ⟨sR ha (1, 0, 0) 0 (some (2, 0, 0)), ?_, sta_sR sa, PlO_f (fra_sR (A := fun a => a = (1, 0, 0)) rfl) (nP1 (by decide)) pa, g1, fun m => ?_, ?_, F, ?_⟩
  · simp only [v91_0, v91_1, v91_4, v91_5, v91_8, v91_9, v91_12, n_14, n_8, inB_of, Nat.reduceLT, Prod.mk.injEq, true_and, rB, rBn, rBa, rBb, rBc, rBd, Evk_v, Evk_n, Nat.reduceAdd, Nat.reduceLeDiff, Nat.le_refl, Nat.zero_le, cz_0, cz_1, cI_1, cO_1, cz_2, cI_2, cO_2, cL_2, cD_2, cz_3, cI_3, cO_3, cL_3, cD_3, cz_4, cI_4, cO_4, cL_4, cD_4, cz_5, cI_5, cO_5, cL_5, cD_5, cz_6, cI_6, cO_6, cL_6, cD_6, cz_7, cI_7, cO_7, cL_7, cD_7, cz_8, cI_8, cO_8, cL_8, cD_8, List.mem_cons, or_true, true_or, and_self, sI_S, sL_S, sR_S, sD_S, gb_S, sI_R, sL_R, sD_R, gb_R, sI_L, sR_I, sR_L, sL_I, sD_I, sD_L, gb_I, gb_L, hF, ec, nm_1, mk_S, c1_Ot, if_true, ea, Prod.mk.injEq, Nat.reduceEqDiff, false_and, if_false, h1, g1]
  · by_cases y : m = 0
    · rw [if_pos y, sR_Rx, if_pos ⟨rfl, y⟩]
    · rw [if_neg y, sR_Rx, if_neg fun z => y z.2, x2]; simp only [sR_S, sI_S, mk_S, sR_Rx, mk_Rw, sI_R, sI_I, sR_I, mk_Iw, sR_L, sI_L, mk_Lw, Prod.mk.injEq, Nat.reduceEqDiff, and_true, true_and, false_and, and_false, if_true, if_false, and_self]
  · rw [sR_I, x3]
    funext m
    simp only [sR_S, sI_S, mk_S, sR_Rx, mk_Rw, sI_R, sI_I, sR_I, mk_Iw, sR_L, sI_L, mk_Lw, Prod.mk.injEq, Nat.reduceEqDiff, and_true, true_and, false_and, and_false, if_true, if_false, and_self]
  · have e1 : su (mk h (2, 0, 0) (1, 4) 8) = su h + 8 := rfl
    rw [e1] at ua
    show su ha ≤ _
    omega
theorem s91_1 (s : Sta h 41) (h1 : gS h (1, 0, 0) = (1, 6)) : ∃ h', Ev (d + 3) 91 15 [some (vR (1, 0, 0))] [] h = Ev (d + 3) 91 26 [some (vR (1, 0, 0))] [] h' ∧ Sta h' 81 ∧ PlO h' 1 ∧ gS h' (1, 0, 0) = (1, 6) ∧ (∀ m, gR h' (1, 0, 0) m = if m = 1 then some (2, 1, 0) else gR h (1, 0, 0) m) ∧ gI h' (1, 0, 0) = gI h (1, 0, 0) ∧ Fra (fun a => a = (1, 0, 0) ∨ inP 1 a) h h' ∧ su h' ≤ su h + 2008 := by
  have hF : Fresh h := sta_F s (by decide)
  have ec : cnt h = 41 := s.1
  have s1 : Sta (mk h (2, 1, 0) (1, 4) 8) (nmB 1 + 1) := sta_mk (k := 41) s (by decide) nm_41
  obtain ⟨ha, ea, sa, pa, fa, ua⟩ := b30 (d := d + 1) (p := 1) (h := mk h (2, 1, 0) (1, 4) 8) (by decide) s1 (by simp only [sR_S, sI_S, mk_S, sR_Rx, mk_Rw, sI_R, sI_I, sR_I, mk_Iw, sR_L, sI_L, mk_Lw, Prod.mk.injEq, Nat.reduceEqDiff, and_true, true_and, false_and, and_false, if_true, if_false, and_self]) (fun m => by simp only [sR_S, sI_S, mk_S, sR_Rx, mk_Rw, sI_R, sI_I, sR_I, mk_Iw, sR_L, sI_L, mk_Lw, Prod.mk.injEq, Nat.reduceEqDiff, and_true, true_and, false_and, and_false, if_true, if_false, and_self])
  have ea : Ev (d + 2) 30 0 [some (vR (2, 1, 0)), none] [] (mk h (2, 1, 0) (1, 4) 8) = some (.inl none, ha) := ea
  have n1 : ¬ inP 1 (1, 0, 0) := fun z => by have := z.2.1; simp at this
  obtain ⟨x1, x2, x3, -⟩ := fa (1, 0, 0) n1
  have g1 : gS ha (1, 0, 0) = (1, 6) := by rw [x1]; simp only [sR_S, sI_S, mk_S, sR_Rx, mk_Rw, sI_R, sI_I, sR_I, mk_Iw, sR_L, sI_L, mk_Lw, Prod.mk.injEq, Nat.reduceEqDiff, and_true, true_and, false_and, and_false, if_true, if_false, and_self, h1]
  have F : Fra (fun a => a = (1, 0, 0) ∨ inP 1 a) h (sR ha (1, 0, 0) 1 (some (2, 1, 0))) := fra_t (fra_mk (Or.inr inP_2)) (fra_t (fra_m (fun a z => Or.inr z) fa) (fra_sR (Or.inl rfl)))
  refine ⟨sR ha (1, 0, 0) 1 (some (2, 1, 0)), ?_, sta_sR sa, PlO_f (fra_sR (A := fun a => a = (1, 0, 0)) rfl) (nP1 (by decide)) pa, g1, fun m => ?_, ?_, F, ?_⟩
  · simp only [v91_15, v91_16, v91_19, v91_20, v91_23, n_14, n_8, inB_of, Nat.reduceLT, Prod.mk.injEq, true_and, rB, rBn, rBa, rBb, rBc, rBd, Evk_v, Evk_n, Nat.reduceAdd, Nat.reduceLeDiff, Nat.le_refl, Nat.zero_le, cz_0, cz_1, cI_1, cO_1, cz_2, cI_2, cO_2, cL_2, cD_2, cz_3, cI_3, cO_3, cL_3, cD_3, cz_4, cI_4, cO_4, cL_4, cD_4, cz_5, cI_5, cO_5, cL_5, cD_5, cz_6, cI_6, cO_6, cL_6, cD_6, cz_7, cI_7, cO_7, cL_7, cD_7, cz_8, cI_8, cO_8, cL_8, cD_8, List.mem_cons, or_true, true_or, and_self, sI_S, sL_S, sR_S, sD_S, gb_S, sI_R, sL_R, sD_R, gb_R, sI_L, sR_I, sR_L, sL_I, sD_I, sD_L, gb_I, gb_L, hF, ec, nm_41, mk_S, c1_Ot, if_true, ea, Prod.mk.injEq, Nat.reduceEqDiff, false_and, if_false, h1, g1]
  · by_cases y : m = 1
    · rw [if_pos y, sR_Rx, if_pos ⟨rfl, y⟩]
    · rw [if_neg y, sR_Rx, if_neg fun z => y z.2, x2]; simp only [sR_S, sI_S, mk_S, sR_Rx, mk_Rw, sI_R, sI_I, sR_I, mk_Iw, sR_L, sI_L, mk_Lw, Prod.mk.injEq, Nat.reduceEqDiff, and_true, true_and, false_and, and_false, if_true, if_false, and_self]
  · rw [sR_I, x3]
    funext m
    simp only [sR_S, sI_S, mk_S, sR_Rx, mk_Rw, sI_R, sI_I, sR_I, mk_Iw, sR_L, sI_L, mk_Lw, Prod.mk.injEq, Nat.reduceEqDiff, and_true, true_and, false_and, and_false, if_true, if_false, and_self]
  · have e1 : su (mk h (2, 1, 0) (1, 4) 8) = su h + 8 := rfl
    rw [e1] at ua
    show su ha ≤ _
    omega
theorem s91_2 (s : Sta h 81) (h1 : gS h (1, 0, 0) = (1, 6)) : ∃ h', Ev (d + 3) 91 26 [some (vR (1, 0, 0))] [] h = Ev (d + 3) 91 37 [some (vR (1, 0, 0))] [] h' ∧ Sta h' 363 ∧ (gS h' (9, 0, 0) = (1, 1) ∧ gS h' (10, 0, 0) = (8, 7) ∧ gR h' (9, 0, 0) 0 = some (10, 0, 0) ∧ (∀ m, gI h' (9, 0, 0) m = 0) ∧ ∀ i, i < 7 → PlO h' (i + 2) ∧ gR h' (10, 0, 0) i = some (2, i + 2, 0)) ∧ gS h' (1, 0, 0) = (1, 6) ∧ (∀ m, gR h' (1, 0, 0) m = if m = 2 then some (9, 0, 0) else gR h (1, 0, 0) m) ∧ gI h' (1, 0, 0) = gI h (1, 0, 0) ∧ Fra (fun a => a = (1, 0, 0) ∨ inHs a) h h' ∧ su h' ≤ su h + 15000 := by
  have hF : Fresh h := sta_F s (by decide)
  have ec : cnt h = 81 := s.1
  have s1 : Sta (mk h (9, 0, 0) (1, 1) 3) 82 := sta_mk s (by decide) nm_9a
  obtain ⟨ha, ea, sa, q2, q3, q4, q5, q6, fa, ua⟩ := b4 (d := d) (h := mk h (9, 0, 0) (1, 1) 3) s1 (by simp only [sR_S, sI_S, mk_S, sR_Rx, mk_Rw, sI_R, sI_I, sR_I, mk_Iw, sR_L, sI_L, mk_Lw, Prod.mk.injEq, Nat.reduceEqDiff, and_true, true_and, false_and, and_false, if_true, if_false, and_self])
  have n1 : ¬ inHs (1, 0, 0) := fun z => by
    rcases z with z | z | ⟨p, -, z⟩
    · simp at z
    · simp at z
    · have := z.2.1; simp at this
  obtain ⟨x1, x2, x3, -⟩ := fa (1, 0, 0) n1
  have g1 : gS ha (1, 0, 0) = (1, 6) := by rw [x1]; simp only [sR_S, sI_S, mk_S, sR_Rx, mk_Rw, sI_R, sI_I, sR_I, mk_Iw, sR_L, sI_L, mk_Lw, Prod.mk.injEq, Nat.reduceEqDiff, and_true, true_and, false_and, and_false, if_true, if_false, and_self, h1]
  have F : Fra (fun a => a = (1, 0, 0) ∨ inHs a) h (sR ha (1, 0, 0) 2 (some (9, 0, 0))) := fra_t (fra_mk (Or.inr (Or.inl rfl))) (fra_t (fra_m (fun a z => Or.inr z) fa) (fra_sR (Or.inl rfl)))
  refine ⟨sR ha (1, 0, 0) 2 (some (9, 0, 0)), ?_, sta_sR sa, ⟨q2, q3, by simp only [sR_S, sI_S, mk_S, sR_Rx, mk_Rw, sI_R, sI_I, sR_I, mk_Iw, sR_L, sI_L, mk_Lw, Prod.mk.injEq, Nat.reduceEqDiff, and_true, true_and, false_and, and_false, if_true, if_false, and_self, q4], fun m => by rw [sR_I, q5]; simp only [sR_S, sI_S, mk_S, sR_Rx, mk_Rw, sI_R, sI_I, sR_I, mk_Iw, sR_L, sI_L, mk_Lw, Prod.mk.injEq, Nat.reduceEqDiff, and_true, true_and, false_and, and_false, if_true, if_false, and_self], fun i hi => ⟨PlO_f (fra_sR (A := fun a => a = (1, 0, 0)) rfl) (nP1 (by decide)) (q6 i hi).1, by simp only [sR_S, sI_S, mk_S, sR_Rx, mk_Rw, sI_R, sI_I, sR_I, mk_Iw, sR_L, sI_L, mk_Lw, Prod.mk.injEq, Nat.reduceEqDiff, and_true, true_and, false_and, and_false, if_true, if_false, and_self, (q6 i hi).2]⟩⟩, g1, fun m => ?_, ?_, F, ?_⟩
  · simp only [v91_26, v91_27, v91_30, v91_31, v91_34, n_14, n_8, inB_of, Nat.reduceLT, Prod.mk.injEq, true_and, rB, rBn, rBa, rBb, rBc, rBd, Evk_v, Evk_n, Nat.reduceAdd, Nat.reduceLeDiff, Nat.le_refl, Nat.zero_le, cz_0, cz_1, cI_1, cO_1, cz_2, cI_2, cO_2, cL_2, cD_2, cz_3, cI_3, cO_3, cL_3, cD_3, cz_4, cI_4, cO_4, cL_4, cD_4, cz_5, cI_5, cO_5, cL_5, cD_5, cz_6, cI_6, cO_6, cL_6, cD_6, cz_7, cI_7, cO_7, cL_7, cD_7, cz_8, cI_8, cO_8, cL_8, cD_8, List.mem_cons, or_true, true_or, and_self, sI_S, sL_S, sR_S, sD_S, gb_S, sI_R, sL_R, sD_R, gb_R, sI_L, sR_I, sR_L, sL_I, sD_I, sD_L, gb_I, gb_L, hF, ec, nm_9a, mk_S, c1_Ot, if_true, ea, Prod.mk.injEq, Nat.reduceEqDiff, false_and, if_false, h1, g1]
  · by_cases y : m = 2
    · rw [if_pos y, sR_Rx, if_pos ⟨rfl, y⟩]
    · rw [if_neg y, sR_Rx, if_neg fun z => y z.2, x2]; simp only [sR_S, sI_S, mk_S, sR_Rx, mk_Rw, sI_R, sI_I, sR_I, mk_Iw, sR_L, sI_L, mk_Lw, Prod.mk.injEq, Nat.reduceEqDiff, and_true, true_and, false_and, and_false, if_true, if_false, and_self]
  · rw [sR_I, x3]
    funext m
    simp only [sR_S, sI_S, mk_S, sR_Rx, mk_Rw, sI_R, sI_I, sR_I, mk_Iw, sR_L, sI_L, mk_Lw, Prod.mk.injEq, Nat.reduceEqDiff, and_true, true_and, false_and, and_false, if_true, if_false, and_self]
  · have e1 : su (mk h (9, 0, 0) (1, 1) 3) = su h + 3 := rfl
    rw [e1] at ua
    show su ha ≤ _
    omega
theorem s91_3 (s : Sta h 363) (h1 : gS h (1, 0, 0) = (1, 6)) : ∃ h', Ev (d + 3) 91 37 [some (vR (1, 0, 0))] [] h = Ev (d + 3) 91 48 [some (vR (1, 0, 0))] [] h' ∧ Sta h' 366 ∧ (gS h' (11, 0, 0) = (1, 2) ∧ gS h' (12, 0, 0) = (3, 60) ∧ gS h' (13, 0, 0) = (2, 100) ∧ gR h' (11, 0, 0) 0 = some (12, 0, 0) ∧ gR h' (11, 0, 0) 1 = some (13, 0, 0) ∧ ∀ m, gI h' (11, 0, 0) m = 0) ∧ gS h' (1, 0, 0) = (1, 6) ∧ (∀ m, gR h' (1, 0, 0) m = if m = 3 then some (11, 0, 0) else gR h (1, 0, 0) m) ∧ gI h' (1, 0, 0) = gI h (1, 0, 0) ∧ Fra (fun a => a = (1, 0, 0) ∨ a = (11, 0, 0) ∨ a = (12, 0, 0) ∨ a = (13, 0, 0)) h h' ∧ su h' = su h + 167 := by
  have hF : Fresh h := sta_F s (by decide)
  have ec : cnt h = 363 := s.1
  have s1 : Sta (mk h (11, 0, 0) (1, 2) 7) 364 := sta_mk s (by decide) nm_11
  obtain ⟨ea, sa⟩ := b12 (d := d + 2) (h := mk h (11, 0, 0) (1, 2) 7) s1 (by simp only [sR_S, sI_S, mk_S, sR_Rx, mk_Rw, sI_R, sI_I, sR_I, mk_Iw, sR_L, sI_L, mk_Lw, Prod.mk.injEq, Nat.reduceEqDiff, and_true, true_and, false_and, and_false, if_true, if_false, and_self])
  have gS1 : ∀ a, gS (ipO (mk h (11, 0, 0) (1, 2) 7)) a = if a = (13, 0, 0) then (2, 100) else if a = (12, 0, 0) then (3, 60) else if a = (11, 0, 0) then (1, 2) else gS h a := fun a => by
    unfold ipO
    simp only [sR_S, mk_S]
  have g1 : gS (ipO (mk h (11, 0, 0) (1, 2) 7)) (1, 0, 0) = (1, 6) := by rw [gS1]; simp only [sR_S, sI_S, mk_S, sR_Rx, mk_Rw, sI_R, sI_I, sR_I, mk_Iw, sR_L, sI_L, mk_Lw, Prod.mk.injEq, Nat.reduceEqDiff, and_true, true_and, false_and, and_false, if_true, if_false, and_self, h1]
  have F : Fra (fun a => a = (1, 0, 0) ∨ a = (11, 0, 0) ∨ a = (12, 0, 0) ∨ a = (13, 0, 0)) h (sR (ipO (mk h (11, 0, 0) (1, 2) 7)) (1, 0, 0) 3 (some (11, 0, 0))) := fra_t (fra_mk (Or.inr (Or.inl rfl))) (fra_t (fra_t (fra_mk (Or.inr (Or.inr (Or.inl rfl)))) (fra_t (fra_sR (Or.inr (Or.inl rfl))) (fra_t (fra_mk (Or.inr (Or.inr (Or.inr rfl)))) (fra_t (fra_sR (Or.inr (Or.inl rfl))) (fra_sR (Or.inr (Or.inl rfl))))))) (fra_sR (Or.inl rfl)))
  refine ⟨_, ?_, sta_sR sa, ⟨?_, ?_, ?_, ?_, ?_, fun m => ?_⟩, g1, fun m => ?_, ?_, F, ?_⟩
  · simp only [v91_37, v91_38, v91_41, v91_42, v91_45, n_14, n_8, inB_of, Nat.reduceLT, Prod.mk.injEq, true_and, rB, rBn, rBa, rBb, rBc, rBd, Evk_v, Evk_n, Nat.reduceAdd, Nat.reduceLeDiff, Nat.le_refl, Nat.zero_le, cz_0, cz_1, cI_1, cO_1, cz_2, cI_2, cO_2, cL_2, cD_2, cz_3, cI_3, cO_3, cL_3, cD_3, cz_4, cI_4, cO_4, cL_4, cD_4, cz_5, cI_5, cO_5, cL_5, cD_5, cz_6, cI_6, cO_6, cL_6, cD_6, cz_7, cI_7, cO_7, cL_7, cD_7, cz_8, cI_8, cO_8, cL_8, cD_8, List.mem_cons, or_true, true_or, and_self, sI_S, sL_S, sR_S, sD_S, gb_S, sI_R, sL_R, sD_R, gb_R, sI_L, sR_I, sR_L, sL_I, sD_I, sD_L, gb_I, gb_L, hF, ec, nm_11, mk_S, c1_Ot, if_true, ea, Prod.mk.injEq, Nat.reduceEqDiff, false_and, if_false, h1, g1]
  · rw [sR_S, gS1]; simp only [sR_S, sI_S, mk_S, sR_Rx, mk_Rw, sI_R, sI_I, sR_I, mk_Iw, sR_L, sI_L, mk_Lw, Prod.mk.injEq, Nat.reduceEqDiff, and_true, true_and, false_and, and_false, if_true, if_false, and_self]
  · rw [sR_S, gS1]; simp only [sR_S, sI_S, mk_S, sR_Rx, mk_Rw, sI_R, sI_I, sR_I, mk_Iw, sR_L, sI_L, mk_Lw, Prod.mk.injEq, Nat.reduceEqDiff, and_true, true_and, false_and, and_false, if_true, if_false, and_self]
  · rw [sR_S, gS1]; simp only [sR_S, sI_S, mk_S, sR_Rx, mk_Rw, sI_R, sI_I, sR_I, mk_Iw, sR_L, sI_L, mk_Lw, Prod.mk.injEq, Nat.reduceEqDiff, and_true, true_and, false_and, and_false, if_true, if_false, and_self]
  · unfold ipO; simp only [sR_S, sI_S, mk_S, sR_Rx, mk_Rw, sI_R, sI_I, sR_I, mk_Iw, sR_L, sI_L, mk_Lw, Prod.mk.injEq, Nat.reduceEqDiff, and_true, true_and, false_and, and_false, if_true, if_false, and_self]
  · unfold ipO; simp only [sR_S, sI_S, mk_S, sR_Rx, mk_Rw, sI_R, sI_I, sR_I, mk_Iw, sR_L, sI_L, mk_Lw, Prod.mk.injEq, Nat.reduceEqDiff, and_true, true_and, false_and, and_false, if_true, if_false, and_self]
  · unfold ipO; simp only [sR_S, sI_S, mk_S, sR_Rx, mk_Rw, sI_R, sI_I, sR_I, mk_Iw, sR_L, sI_L, mk_Lw, Prod.mk.injEq, Nat.reduceEqDiff, and_true, true_and, false_and, and_false, if_true, if_false, and_self]
  · by_cases y : m = 3
    · rw [if_pos y, sR_Rx, if_pos ⟨rfl, y⟩]
    · rw [if_neg y, sR_Rx, if_neg fun z => y z.2]; unfold ipO; simp only [sR_S, sI_S, mk_S, sR_Rx, mk_Rw, sI_R, sI_I, sR_I, mk_Iw, sR_L, sI_L, mk_Lw, Prod.mk.injEq, Nat.reduceEqDiff, and_true, true_and, false_and, and_false, if_true, if_false, and_self]
  · unfold ipO
    funext m
    simp only [sR_S, sI_S, mk_S, sR_Rx, mk_Rw, sI_R, sI_I, sR_I, mk_Iw, sR_L, sI_L, mk_Lw, Prod.mk.injEq, Nat.reduceEqDiff, and_true, true_and, false_and, and_false, if_true, if_false, and_self]
  · rfl
theorem s91_4 (s : Sta h 366) (h1 : gS h (1, 0, 0) = (1, 6)) : ∃ h', Ev (d + 3) 91 48 [some (vR (1, 0, 0))] [] h = some (.inl none, h') ∧ Sta h' 368 ∧ (gS h' (14, 0, 0) = (1, 0) ∧ gS h' (15, 0, 0) = (2, 5) ∧ gR h' (14, 0, 0) 0 = some (15, 0, 0)) ∧ gS h' (1, 0, 0) = (1, 6) ∧ (∀ m, gR h' (1, 0, 0) m = if m = 4 then some (14, 0, 0) else gR h (1, 0, 0) m) ∧ gI h' (1, 0, 0) 5 = gI h (1, 0, 0) 5 ∧ gI h' (1, 0, 0) 6 = -1 ∧ gI h' (1, 0, 0) 7 = -1 ∧ Fra (fun a => a = (1, 0, 0) ∨ a = (14, 0, 0) ∨ a = (15, 0, 0)) h h' ∧ su h' = su h + 6 := by
  have hF : Fresh h := sta_F s (by decide)
  have ec : cnt h = 366 := s.1
  have s1 : Sta (mk h (14, 0, 0) (1, 0) 1) 367 := sta_mk s (by decide) nm_14a
  obtain ⟨ea, sa⟩ := b0 (d := d + 2) (h := mk h (14, 0, 0) (1, 0) 1) s1 (by simp only [sR_S, sI_S, mk_S, sR_Rx, mk_Rw, sI_R, sI_I, sR_I, mk_Iw, sR_L, sI_L, mk_Lw, Prod.mk.injEq, Nat.reduceEqDiff, and_true, true_and, false_and, and_false, if_true, if_false, and_self])
  have gS1 : ∀ a, gS (coO (mk h (14, 0, 0) (1, 0) 1)) a = if a = (15, 0, 0) then (2, 5) else if a = (14, 0, 0) then (1, 0) else gS h a := fun a => by
    unfold coO
    simp only [sR_S, mk_S]
  have g1 : gS (coO (mk h (14, 0, 0) (1, 0) 1)) (1, 0, 0) = (1, 6) := by rw [gS1]; simp only [sR_S, sI_S, mk_S, sR_Rx, mk_Rw, sI_R, sI_I, sR_I, mk_Iw, sR_L, sI_L, mk_Lw, Prod.mk.injEq, Nat.reduceEqDiff, and_true, true_and, false_and, and_false, if_true, if_false, and_self, h1]
  have F : Fra (fun a => a = (1, 0, 0) ∨ a = (14, 0, 0) ∨ a = (15, 0, 0)) h (sI (sI (sR (coO (mk h (14, 0, 0) (1, 0) 1)) (1, 0, 0) 4 (some (14, 0, 0))) (1, 0, 0) 6 (-1)) (1, 0, 0) 7 (-1)) := fra_t (fra_mk (Or.inr (Or.inl rfl))) (fra_t (fra_t (fra_mk (Or.inr (Or.inr rfl))) (fra_sR (Or.inr (Or.inl rfl)))) (fra_t (fra_sR (Or.inl rfl)) (fra_t (fra_sI (Or.inl rfl)) (fra_sI (Or.inl rfl)))))
  refine ⟨_, ?_, sta_sI (sta_sI (sta_sR sa)), ⟨?_, ?_, ?_⟩, g1, fun m => ?_, ?_, ?_, ?_, F, ?_⟩
  · simp only [v91_48, v91_49, v91_52, v91_53, v91_56, v91_59, v91_60, v91_61, v91_64, v91_65, v91_66, v91_69, n_14, n_8, inB_of, Nat.reduceLT, Prod.mk.injEq, true_and, rB, rBn, rBa, rBb, rBc, rBd, Evk_v, Evk_n, Nat.reduceAdd, Nat.reduceLeDiff, Nat.le_refl, Nat.zero_le, cz_0, cz_1, cI_1, cO_1, cz_2, cI_2, cO_2, cL_2, cD_2, cz_3, cI_3, cO_3, cL_3, cD_3, cz_4, cI_4, cO_4, cL_4, cD_4, cz_5, cI_5, cO_5, cL_5, cD_5, cz_6, cI_6, cO_6, cL_6, cD_6, cz_7, cI_7, cO_7, cL_7, cD_7, cz_8, cI_8, cO_8, cL_8, cD_8, List.mem_cons, or_true, true_or, and_self, sI_S, sL_S, sR_S, sD_S, gb_S, sI_R, sL_R, sD_R, gb_R, sI_L, sR_I, sR_L, sL_I, sD_I, sD_L, gb_I, gb_L, hF, ec, nm_14a, mk_S, c1_Ot, if_true, ea, Prod.mk.injEq, Nat.reduceEqDiff, false_and, if_false, h1, g1]
  · rw [sI_S, sI_S, sR_S, gS1]; simp only [sR_S, sI_S, mk_S, sR_Rx, mk_Rw, sI_R, sI_I, sR_I, mk_Iw, sR_L, sI_L, mk_Lw, Prod.mk.injEq, Nat.reduceEqDiff, and_true, true_and, false_and, and_false, if_true, if_false, and_self]
  · rw [sI_S, sI_S, sR_S, gS1]; simp only [sR_S, sI_S, mk_S, sR_Rx, mk_Rw, sI_R, sI_I, sR_I, mk_Iw, sR_L, sI_L, mk_Lw, Prod.mk.injEq, Nat.reduceEqDiff, and_true, true_and, false_and, and_false, if_true, if_false, and_self]
  · unfold coO; simp only [sR_S, sI_S, mk_S, sR_Rx, mk_Rw, sI_R, sI_I, sR_I, mk_Iw, sR_L, sI_L, mk_Lw, Prod.mk.injEq, Nat.reduceEqDiff, and_true, true_and, false_and, and_false, if_true, if_false, and_self]
  · by_cases y : m = 4
    · rw [if_pos y, sI_R, sI_R, sR_Rx, if_pos ⟨rfl, y⟩]
    · rw [if_neg y, sI_R, sI_R, sR_Rx, if_neg fun z => y z.2]; unfold coO; simp only [sR_S, sI_S, mk_S, sR_Rx, mk_Rw, sI_R, sI_I, sR_I, mk_Iw, sR_L, sI_L, mk_Lw, Prod.mk.injEq, Nat.reduceEqDiff, and_true, true_and, false_and, and_false, if_true, if_false, and_self]
  · unfold coO; simp only [sR_S, sI_S, mk_S, sR_Rx, mk_Rw, sI_R, sI_I, sR_I, mk_Iw, sR_L, sI_L, mk_Lw, Prod.mk.injEq, Nat.reduceEqDiff, and_true, true_and, false_and, and_false, if_true, if_false, and_self]
  · simp only [sR_S, sI_S, mk_S, sR_Rx, mk_Rw, sI_R, sI_I, sR_I, mk_Iw, sR_L, sI_L, mk_Lw, Prod.mk.injEq, Nat.reduceEqDiff, and_true, true_and, false_and, and_false, if_true, if_false, and_self]
  · simp only [sR_S, sI_S, mk_S, sR_Rx, mk_Rw, sI_R, sI_I, sR_I, mk_Iw, sR_L, sI_L, mk_Lw, Prod.mk.injEq, Nat.reduceEqDiff, and_true, true_and, false_and, and_false, if_true, if_false, and_self]
  · rfl
theorem b91 (s : Sta h 1) (h1 : gS h (1, 0, 0) = (1, 6)) (z1 : ∀ m, gI h (1, 0, 0) m = 0) : ∃ h', Ev (d + 3) 91 0 [some (vR (1, 0, 0))] [] h = some (.inl none, h') ∧ Sta h' 368 ∧ ClO h' ∧ Fra inC h h' ∧ su h' ≤ su h + 20000 := by
  obtain ⟨ha, e1, sa, a1, a2, a3, a4, a5, a6⟩ := s91_0 (d := d) s h1
  obtain ⟨hb, e2, sb, b1, b2, b3, b4, b5, b6⟩ := s91_1 (d := d) sa a2
  obtain ⟨hc, e3, sc, ⟨c1, c2, c3, c4, c5⟩, c6, c7, c8, c9, c10⟩ := s91_2 (d := d) sb b2
  obtain ⟨hd, e4, sd, ⟨d1, d2, d3, d4, d5, d6⟩, d7, d8, d9, d10, d11⟩ := s91_3 (d := d) sc c6
  obtain ⟨he, e5, se, ⟨f1, f2, f3⟩, f4, f5, f6, f7, f8, f9, f10⟩ := s91_4 (d := d) sd d7
  have nH : ∀ p, p < 2 → ∀ a, inP p a → ¬ (a = (1, 0, 0) ∨ inHs a) := fun p hp a z y => by
    rcases y with y | y | y | ⟨q, hq, y⟩
    · exact nP1 (by decide) a z y
    · exact nP1 (by decide) a z y
    · exact nP1 (by decide) a z y
    · have := z.1; have := y.1; omega
  have nD : ∀ p a, inP p a → ¬ (a = (1, 0, 0) ∨ a = (11, 0, 0) ∨ a = (12, 0, 0) ∨ a = (13, 0, 0)) := fun p a z y => by
    rcases y with y | y | y | y <;> exact nP1 (by decide) a z y
  have nE : ∀ p a, inP p a → ¬ (a = (1, 0, 0) ∨ a = (14, 0, 0) ∨ a = (15, 0, 0)) := fun p a z y => by
    rcases y with y | y | y <;> exact nP1 (by decide) a z y
  have nB : ∀ a, inP 0 a → ¬ (a = (1, 0, 0) ∨ inP 1 a) := fun a z y => by
    rcases y with y | y
    · exact nP1 (by decide) a z y
    · have := z.1; have := y.1; omega
  have n9d : ¬ (((9, 0, 0) : A3) = (1, 0, 0) ∨ ((9, 0, 0) : A3) = (11, 0, 0) ∨ ((9, 0, 0) : A3) = (12, 0, 0) ∨ ((9, 0, 0) : A3) = (13, 0, 0)) := by simp
  have n9e : ¬ (((9, 0, 0) : A3) = (1, 0, 0) ∨ ((9, 0, 0) : A3) = (14, 0, 0) ∨ ((9, 0, 0) : A3) = (15, 0, 0)) := by simp
  have nAd : ¬ (((10, 0, 0) : A3) = (1, 0, 0) ∨ ((10, 0, 0) : A3) = (11, 0, 0) ∨ ((10, 0, 0) : A3) = (12, 0, 0) ∨ ((10, 0, 0) : A3) = (13, 0, 0)) := by simp
  have nAe : ¬ (((10, 0, 0) : A3) = (1, 0, 0) ∨ ((10, 0, 0) : A3) = (14, 0, 0) ∨ ((10, 0, 0) : A3) = (15, 0, 0)) := by simp
  have nIe : ∀ k, k = 11 ∨ k = 12 ∨ k = 13 → ¬ (((k, 0, 0) : A3) = (1, 0, 0) ∨ ((k, 0, 0) : A3) = (14, 0, 0) ∨ ((k, 0, 0) : A3) = (15, 0, 0)) := fun k hk => by
    rcases hk with rfl | rfl | rfl <;> simp
  obtain ⟨x9, y9, z9, -⟩ := fra_t (fra_m (B := fun a => a = (1, 0, 0) ∨ a = (11, 0, 0) ∨ a = (12, 0, 0) ∨ a = (13, 0, 0) ∨ a = (14, 0, 0) ∨ a = (15, 0, 0)) (fun a z => by rcases z with z | z | z | z <;> simp [z]) d10) (fra_m (fun a z => by rcases z with z | z | z <;> simp [z]) f9) (9, 0, 0) (by simp)
  obtain ⟨xA, yA, zA, -⟩ := fra_t (fra_m (B := fun a => a = (1, 0, 0) ∨ a = (11, 0, 0) ∨ a = (12, 0, 0) ∨ a = (13, 0, 0) ∨ a = (14, 0, 0) ∨ a = (15, 0, 0)) (fun a z => by rcases z with z | z | z | z <;> simp [z]) d10) (fra_m (fun a z => by rcases z with z | z | z <;> simp [z]) f9) (10, 0, 0) (by simp)
  obtain ⟨xI, yI, zI, -⟩ := f9 (11, 0, 0) (nIe 11 (by decide))
  refine ⟨he, e1.trans (e2.trans (e3.trans (e4.trans e5))), se, ⟨f4, fun p hp => ?_, ⟨x9.trans c1, xA.trans c2, xI.trans d1, (f9 _ (nIe 12 (by decide))).1.trans d2, (f9 _ (nIe 13 (by decide))).1.trans d3, f1, f2⟩, ⟨?_, ?_, ?_, ?_, ?_⟩, ⟨?_, fun i hi => ?_, ?_, ?_, f3⟩, ?_, f7, f8, ?_, ?_, ?_⟩, ?_, by omega⟩
  · by_cases p0 : p = 0
    · subst p0
      exact PlO_f f9 (nE 0) (PlO_f d10 (nD 0) (PlO_f c9 (nH 0 (by decide)) (PlO_f b5 nB a1)))
    · by_cases p1 : p = 1
      · subst p1
        exact PlO_f f9 (nE 1) (PlO_f d10 (nD 1) (PlO_f c9 (nH 1 (by decide)) b1))
      · have := (c5 (p - 2) (by omega)).1
        rw [show p - 2 + 2 = p by omega] at this
        exact PlO_f f9 (nE p) (PlO_f d10 (nD p) this)
  · rw [f5, if_neg (by decide), d8, if_neg (by decide), c7, if_neg (by decide), b3, if_neg (by decide), a3, if_pos rfl]
  · rw [f5, if_neg (by decide), d8, if_neg (by decide), c7, if_neg (by decide), b3, if_pos rfl]
  · rw [f5, if_neg (by decide), d8, if_neg (by decide), c7, if_pos rfl]
  · rw [f5, if_neg (by decide), d8, if_pos rfl]
  · rw [f5, if_pos rfl]
  · rw [y9]; exact c3
  · rw [yA]; exact (c5 i hi).2
  · rw [yI]; exact d4
  · rw [yI]; exact d5
  · rw [f6, d9, c8, b4, a4]; exact z1 5
  · rw [z9]; exact c4 1
  · rw [z9]; exact c4 2
  · rw [zI]; exact d6 2
  · have i1 : inC (1, 0, 0) := Nat.le_of_ble_eq_true rfl
    refine fra_t (fra_m (fun a z => ?_) a5) (fra_t (fra_m (fun a z => ?_) b5) (fra_t (fra_m (fun a z => ?_) c9) (fra_t (fra_m (fun a z => ?_) d10) (fra_m (fun a z => ?_) f9))))
    · rcases z with z | z
      · rw [z]; exact i1
      · exact inP_C a z
    · rcases z with z | z
      · rw [z]; exact i1
      · exact inP_C a z
    · rcases z with z | z | z | ⟨q, -, z⟩
      · rw [z]; exact i1
      · rw [z]; exact Nat.le_of_ble_eq_true rfl
      · rw [z]; exact Nat.le_of_ble_eq_true rfl
      · exact inP_C a z
    · rcases z with z | z | z | z <;> (rw [z]; exact Nat.le_of_ble_eq_true rfl)
    · rcases z with z | z | z <;> (rw [z]; exact Nat.le_of_ble_eq_true rfl)
/-! the model -/
def mq (k : Nat) : Nat × Nat := ([(2, 14), (2, 14), (2, 14), (2, 14), (2, 14), (2, 1414), (2, 8), (2, 8), (2, 8), (2, 8), (2, 8), (2, 8), (2, 8), (2, 8), (2, 8), (2, 8), (3, 60), (3, 20), (2, 80), (2, 9414), (2, 1569), (2, 1569)] : List (Nat × Nat)).getD k (0, 0)
def mf (k : Nat) : Nat := ([1, 2, 3, 4, 5, 6, 9, 10, 11, 12, 13, 14, 15, 16, 17, 18, 23, 24, 25, 30, 31, 32] : List Nat).getD k 0
def mA (h : Hp) (k : Nat) : Hp := sR (mk h (21, k, 0) (mq k) (mq k).2) (20, 0, 0) (mf k) (some (21, k, 0))
theorem mf_i : ∀ i, i < 22 → ∀ j, j < 22 → mf i = mf j → i = j := by decide +kernel
/-- k of the model's arrays made -/
def MoO (h : Hp) (k : Nat) : Prop := Sta h (369 + k) ∧ gS h (20, 0, 0) = (1, 7) ∧ ∀ j, j < k → gS h (21, j, 0) = mq j ∧ gR h (20, 0, 0) (mf j) = some (21, j, 0)
theorem mA_ok (hk : k < 22) (m : MoO h k) : MoO (mA h k) (k + 1) ∧ gI (mA h k) (20, 0, 0) = gI h (20, 0, 0) ∧ Fra inM h (mA h k) := by
  obtain ⟨s, m1, m2⟩ := m
  unfold mA
  refine ⟨⟨sta_sR (sta_mk s (show 369 + k < 393 by omega) (nm_21 k hk)), by simp only [sR_S, sI_S, mk_S, sR_Rx, mk_Rw, sI_R, sI_I, sR_I, mk_Iw, sR_L, sI_L, mk_Lw, Prod.mk.injEq, Nat.reduceEqDiff, and_true, true_and, false_and, and_false, if_true, if_false, and_self, m1], fun j hj => ?_⟩, ?_, fra_t (fra_mk (Or.inr rfl)) (fra_sR (Or.inl rfl))⟩
  · by_cases y : j = k
    · subst y
      exact ⟨by simp only [sR_S, sI_S, mk_S, sR_Rx, mk_Rw, sI_R, sI_I, sR_I, mk_Iw, sR_L, sI_L, mk_Lw, Prod.mk.injEq, Nat.reduceEqDiff, and_true, true_and, false_and, and_false, if_true, if_false, and_self], by simp only [sR_S, sI_S, mk_S, sR_Rx, mk_Rw, sI_R, sI_I, sR_I, mk_Iw, sR_L, sI_L, mk_Lw, Prod.mk.injEq, Nat.reduceEqDiff, and_true, true_and, false_and, and_false, if_true, if_false, and_self]⟩
    · obtain ⟨x1, x2⟩ := m2 j (by omega)
      have nf : ¬ mf j = mf k := fun z => y (mf_i j (by omega) k hk z)
      exact ⟨by simp only [sR_S, sI_S, mk_S, sR_Rx, mk_Rw, sI_R, sI_I, sR_I, mk_Iw, sR_L, sI_L, mk_Lw, Prod.mk.injEq, Nat.reduceEqDiff, and_true, true_and, false_and, and_false, if_true, if_false, and_self, y, x1], by simp only [sR_S, sI_S, mk_S, sR_Rx, mk_Rw, sI_R, sI_I, sR_I, mk_Iw, sR_L, sI_L, mk_Lw, Prod.mk.injEq, Nat.reduceEqDiff, and_true, true_and, false_and, and_false, if_true, if_false, and_self, nf, x2]⟩
  · funext j
    simp only [sR_S, sI_S, mk_S, sR_Rx, mk_Rw, sI_R, sI_I, sR_I, mk_Iw, sR_L, sI_L, mk_Lw, Prod.mk.injEq, Nat.reduceEqDiff, and_true, true_and, false_and, and_false, if_true, if_false, and_self]
theorem su_mA : su (mA h k) = su h + (mq k).2 := rfl
theorem MoO_I {m : Nat} {v : Int32} (q : MoO h k) : MoO (sI h (20, 0, 0) m v) k := q
theorem s139_0 (m : MoO h 0) : Ev d 139 4 [some (vR (20, 0, 0))] [] h = Ev d 139 12 [some (vR (20, 0, 0))] [] (mA h 0) := by
  have hF : Fresh h := sta_F m.1 (by decide)
  have ec : cnt h = 369 := m.1.1
  have e : nm 369 = (21, 0, 0) := nm_21 0 (by decide)
  have n0 : (14 : Int32).toNatClampNeg = 14 := rfl
  have c0 : (0 : Int32) ≤ 14 ∧ 14 ≤ 100000 := ⟨by decide, by decide⟩
  simp only [v139_4, v139_5, v139_7, v139_9, n_14, n_8, inB_of, Nat.reduceLT, Prod.mk.injEq, true_and, rB, rBn, rBa, rBb, rBc, rBd, Evk_v, Evk_n, Nat.reduceAdd, Nat.reduceLeDiff, Nat.le_refl, Nat.zero_le, cz_0, cz_1, cI_1, cO_1, cz_2, cI_2, cO_2, cL_2, cD_2, cz_3, cI_3, cO_3, cL_3, cD_3, cz_4, cI_4, cO_4, cL_4, cD_4, cz_5, cI_5, cO_5, cL_5, cD_5, cz_6, cI_6, cO_6, cL_6, cD_6, cz_7, cI_7, cO_7, cL_7, cD_7, cz_8, cI_8, cO_8, cL_8, cD_8, List.mem_cons, or_true, true_or, and_self, sI_S, sL_S, sR_S, sD_S, gb_S, sI_R, sL_R, sD_R, gb_R, sI_L, sR_I, sR_L, sL_I, sD_I, sD_L, gb_I, gb_L, hF, n0, c0, ec, e, mk_S, Prod.mk.injEq, Nat.reduceEqDiff, false_and, if_false, m.2.1]
  rfl
theorem s139_1 (m : MoO h 1) : Ev d 139 12 [some (vR (20, 0, 0))] [] h = Ev d 139 20 [some (vR (20, 0, 0))] [] (mA h 1) := by
  have hF : Fresh h := sta_F m.1 (by decide)
  have ec : cnt h = 370 := m.1.1
  have e : nm 370 = (21, 1, 0) := nm_21 1 (by decide)
  have n0 : (14 : Int32).toNatClampNeg = 14 := rfl
  have c0 : (0 : Int32) ≤ 14 ∧ 14 ≤ 100000 := ⟨by decide, by decide⟩
  simp only [v139_12, v139_13, v139_15, v139_17, n_14, n_8, inB_of, Nat.reduceLT, Prod.mk.injEq, true_and, rB, rBn, rBa, rBb, rBc, rBd, Evk_v, Evk_n, Nat.reduceAdd, Nat.reduceLeDiff, Nat.le_refl, Nat.zero_le, cz_0, cz_1, cI_1, cO_1, cz_2, cI_2, cO_2, cL_2, cD_2, cz_3, cI_3, cO_3, cL_3, cD_3, cz_4, cI_4, cO_4, cL_4, cD_4, cz_5, cI_5, cO_5, cL_5, cD_5, cz_6, cI_6, cO_6, cL_6, cD_6, cz_7, cI_7, cO_7, cL_7, cD_7, cz_8, cI_8, cO_8, cL_8, cD_8, List.mem_cons, or_true, true_or, and_self, sI_S, sL_S, sR_S, sD_S, gb_S, sI_R, sL_R, sD_R, gb_R, sI_L, sR_I, sR_L, sL_I, sD_I, sD_L, gb_I, gb_L, hF, n0, c0, ec, e, mk_S, Prod.mk.injEq, Nat.reduceEqDiff, false_and, if_false, m.2.1]
  rfl
theorem s139_2 (m : MoO h 2) : Ev d 139 20 [some (vR (20, 0, 0))] [] h = Ev d 139 28 [some (vR (20, 0, 0))] [] (mA h 2) := by
  have hF : Fresh h := sta_F m.1 (by decide)
  have ec : cnt h = 371 := m.1.1
  have e : nm 371 = (21, 2, 0) := nm_21 2 (by decide)
  have n0 : (14 : Int32).toNatClampNeg = 14 := rfl
  have c0 : (0 : Int32) ≤ 14 ∧ 14 ≤ 100000 := ⟨by decide, by decide⟩
  simp only [v139_20, v139_21, v139_23, v139_25, n_14, n_8, inB_of, Nat.reduceLT, Prod.mk.injEq, true_and, rB, rBn, rBa, rBb, rBc, rBd, Evk_v, Evk_n, Nat.reduceAdd, Nat.reduceLeDiff, Nat.le_refl, Nat.zero_le, cz_0, cz_1, cI_1, cO_1, cz_2, cI_2, cO_2, cL_2, cD_2, cz_3, cI_3, cO_3, cL_3, cD_3, cz_4, cI_4, cO_4, cL_4, cD_4, cz_5, cI_5, cO_5, cL_5, cD_5, cz_6, cI_6, cO_6, cL_6, cD_6, cz_7, cI_7, cO_7, cL_7, cD_7, cz_8, cI_8, cO_8, cL_8, cD_8, List.mem_cons, or_true, true_or, and_self, sI_S, sL_S, sR_S, sD_S, gb_S, sI_R, sL_R, sD_R, gb_R, sI_L, sR_I, sR_L, sL_I, sD_I, sD_L, gb_I, gb_L, hF, n0, c0, ec, e, mk_S, Prod.mk.injEq, Nat.reduceEqDiff, false_and, if_false, m.2.1]
  rfl
theorem s139_3 (m : MoO h 3) : Ev d 139 28 [some (vR (20, 0, 0))] [] h = Ev d 139 36 [some (vR (20, 0, 0))] [] (mA h 3) := by
  have hF : Fresh h := sta_F m.1 (by decide)
  have ec : cnt h = 372 := m.1.1
  have e : nm 372 = (21, 3, 0) := nm_21 3 (by decide)
  have n0 : (14 : Int32).toNatClampNeg = 14 := rfl
  have c0 : (0 : Int32) ≤ 14 ∧ 14 ≤ 100000 := ⟨by decide, by decide⟩
  simp only [v139_28, v139_29, v139_31, v139_33, n_14, n_8, inB_of, Nat.reduceLT, Prod.mk.injEq, true_and, rB, rBn, rBa, rBb, rBc, rBd, Evk_v, Evk_n, Nat.reduceAdd, Nat.reduceLeDiff, Nat.le_refl, Nat.zero_le, cz_0, cz_1, cI_1, cO_1, cz_2, cI_2, cO_2, cL_2, cD_2, cz_3, cI_3, cO_3, cL_3, cD_3, cz_4, cI_4, cO_4, cL_4, cD_4, cz_5, cI_5, cO_5, cL_5, cD_5, cz_6, cI_6, cO_6, cL_6, cD_6, cz_7, cI_7, cO_7, cL_7, cD_7, cz_8, cI_8, cO_8, cL_8, cD_8, List.mem_cons, or_true, true_or, and_self, sI_S, sL_S, sR_S, sD_S, gb_S, sI_R, sL_R, sD_R, gb_R, sI_L, sR_I, sR_L, sL_I, sD_I, sD_L, gb_I, gb_L, hF, n0, c0, ec, e, mk_S, Prod.mk.injEq, Nat.reduceEqDiff, false_and, if_false, m.2.1]
  rfl
theorem s139_4 (m : MoO h 4) : Ev d 139 36 [some (vR (20, 0, 0))] [] h = Ev d 139 44 [some (vR (20, 0, 0))] [] (mA h 4) := by
  have hF : Fresh h := sta_F m.1 (by decide)
  have ec : cnt h = 373 := m.1.1
  have e : nm 373 = (21, 4, 0) := nm_21 4 (by decide)
  have n0 : (14 : Int32).toNatClampNeg = 14 := rfl
  have c0 : (0 : Int32) ≤ 14 ∧ 14 ≤ 100000 := ⟨by decide, by decide⟩
  simp only [v139_36, v139_37, v139_39, v139_41, n_14, n_8, inB_of, Nat.reduceLT, Prod.mk.injEq, true_and, rB, rBn, rBa, rBb, rBc, rBd, Evk_v, Evk_n, Nat.reduceAdd, Nat.reduceLeDiff, Nat.le_refl, Nat.zero_le, cz_0, cz_1, cI_1, cO_1, cz_2, cI_2, cO_2, cL_2, cD_2, cz_3, cI_3, cO_3, cL_3, cD_3, cz_4, cI_4, cO_4, cL_4, cD_4, cz_5, cI_5, cO_5, cL_5, cD_5, cz_6, cI_6, cO_6, cL_6, cD_6, cz_7, cI_7, cO_7, cL_7, cD_7, cz_8, cI_8, cO_8, cL_8, cD_8, List.mem_cons, or_true, true_or, and_self, sI_S, sL_S, sR_S, sD_S, gb_S, sI_R, sL_R, sD_R, gb_R, sI_L, sR_I, sR_L, sL_I, sD_I, sD_L, gb_I, gb_L, hF, n0, c0, ec, e, mk_S, Prod.mk.injEq, Nat.reduceEqDiff, false_and, if_false, m.2.1]
  rfl
theorem s139_5 (m : MoO h 5) : Ev d 139 44 [some (vR (20, 0, 0))] [] h = Ev d 139 53 [some (vR (20, 0, 0))] [] (mA h 5) := by
  have hF : Fresh h := sta_F m.1 (by decide)
  have ec : cnt h = 374 := m.1.1
  have e : nm 374 = (21, 5, 0) := nm_21 5 (by decide)
  have n0 : (1414 : Int32).toNatClampNeg = 1414 := rfl
  have c0 : (0 : Int32) ≤ 1414 ∧ 1414 ≤ 100000 := ⟨by decide, by decide⟩
  simp only [v139_44, v139_45, v139_48, v139_50, n_14, n_8, inB_of, Nat.reduceLT, Prod.mk.injEq, true_and, rB, rBn, rBa, rBb, rBc, rBd, Evk_v, Evk_n, Nat.reduceAdd, Nat.reduceLeDiff, Nat.le_refl, Nat.zero_le, cz_0, cz_1, cI_1, cO_1, cz_2, cI_2, cO_2, cL_2, cD_2, cz_3, cI_3, cO_3, cL_3, cD_3, cz_4, cI_4, cO_4, cL_4, cD_4, cz_5, cI_5, cO_5, cL_5, cD_5, cz_6, cI_6, cO_6, cL_6, cD_6, cz_7, cI_7, cO_7, cL_7, cD_7, cz_8, cI_8, cO_8, cL_8, cD_8, List.mem_cons, or_true, true_or, and_self, sI_S, sL_S, sR_S, sD_S, gb_S, sI_R, sL_R, sD_R, gb_R, sI_L, sR_I, sR_L, sL_I, sD_I, sD_L, gb_I, gb_L, hF, n0, c0, ec, e, mk_S, Prod.mk.injEq, Nat.reduceEqDiff, false_and, if_false, m.2.1]
  rfl
theorem s139_6 (m : MoO h 6) : Ev d 139 53 [some (vR (20, 0, 0))] [] h = Ev d 139 61 [some (vR (20, 0, 0))] [] (mA h 6) := by
  have hF : Fresh h := sta_F m.1 (by decide)
  have ec : cnt h = 375 := m.1.1
  have e : nm 375 = (21, 6, 0) := nm_21 6 (by decide)
  have n0 : (8 : Int32).toNatClampNeg = 8 := rfl
  have c0 : (0 : Int32) ≤ 8 ∧ 8 ≤ 100000 := ⟨by decide, by decide⟩
  simp only [v139_53, v139_54, v139_56, v139_58, n_14, n_8, inB_of, Nat.reduceLT, Prod.mk.injEq, true_and, rB, rBn, rBa, rBb, rBc, rBd, Evk_v, Evk_n, Nat.reduceAdd, Nat.reduceLeDiff, Nat.le_refl, Nat.zero_le, cz_0, cz_1, cI_1, cO_1, cz_2, cI_2, cO_2, cL_2, cD_2, cz_3, cI_3, cO_3, cL_3, cD_3, cz_4, cI_4, cO_4, cL_4, cD_4, cz_5, cI_5, cO_5, cL_5, cD_5, cz_6, cI_6, cO_6, cL_6, cD_6, cz_7, cI_7, cO_7, cL_7, cD_7, cz_8, cI_8, cO_8, cL_8, cD_8, List.mem_cons, or_true, true_or, and_self, sI_S, sL_S, sR_S, sD_S, gb_S, sI_R, sL_R, sD_R, gb_R, sI_L, sR_I, sR_L, sL_I, sD_I, sD_L, gb_I, gb_L, hF, n0, c0, ec, e, mk_S, Prod.mk.injEq, Nat.reduceEqDiff, false_and, if_false, m.2.1]
  rfl
theorem s139_7 (m : MoO h 7) : Ev d 139 61 [some (vR (20, 0, 0))] [] h = Ev d 139 69 [some (vR (20, 0, 0))] [] (mA h 7) := by
  have hF : Fresh h := sta_F m.1 (by decide)
  have ec : cnt h = 376 := m.1.1
  have e : nm 376 = (21, 7, 0) := nm_21 7 (by decide)
  have n0 : (8 : Int32).toNatClampNeg = 8 := rfl
  have c0 : (0 : Int32) ≤ 8 ∧ 8 ≤ 100000 := ⟨by decide, by decide⟩
  simp only [v139_61, v139_62, v139_64, v139_66, n_14, n_8, inB_of, Nat.reduceLT, Prod.mk.injEq, true_and, rB, rBn, rBa, rBb, rBc, rBd, Evk_v, Evk_n, Nat.reduceAdd, Nat.reduceLeDiff, Nat.le_refl, Nat.zero_le, cz_0, cz_1, cI_1, cO_1, cz_2, cI_2, cO_2, cL_2, cD_2, cz_3, cI_3, cO_3, cL_3, cD_3, cz_4, cI_4, cO_4, cL_4, cD_4, cz_5, cI_5, cO_5, cL_5, cD_5, cz_6, cI_6, cO_6, cL_6, cD_6, cz_7, cI_7, cO_7, cL_7, cD_7, cz_8, cI_8, cO_8, cL_8, cD_8, List.mem_cons, or_true, true_or, and_self, sI_S, sL_S, sR_S, sD_S, gb_S, sI_R, sL_R, sD_R, gb_R, sI_L, sR_I, sR_L, sL_I, sD_I, sD_L, gb_I, gb_L, hF, n0, c0, ec, e, mk_S, Prod.mk.injEq, Nat.reduceEqDiff, false_and, if_false, m.2.1]
  rfl
theorem s139_8 (m : MoO h 8) : Ev d 139 69 [some (vR (20, 0, 0))] [] h = Ev d 139 77 [some (vR (20, 0, 0))] [] (mA h 8) := by
  have hF : Fresh h := sta_F m.1 (by decide)
  have ec : cnt h = 377 := m.1.1
  have e : nm 377 = (21, 8, 0) := nm_21 8 (by decide)
  have n0 : (8 : Int32).toNatClampNeg = 8 := rfl
  have c0 : (0 : Int32) ≤ 8 ∧ 8 ≤ 100000 := ⟨by decide, by decide⟩
  simp only [v139_69, v139_70, v139_72, v139_74, n_14, n_8, inB_of, Nat.reduceLT, Prod.mk.injEq, true_and, rB, rBn, rBa, rBb, rBc, rBd, Evk_v, Evk_n, Nat.reduceAdd, Nat.reduceLeDiff, Nat.le_refl, Nat.zero_le, cz_0, cz_1, cI_1, cO_1, cz_2, cI_2, cO_2, cL_2, cD_2, cz_3, cI_3, cO_3, cL_3, cD_3, cz_4, cI_4, cO_4, cL_4, cD_4, cz_5, cI_5, cO_5, cL_5, cD_5, cz_6, cI_6, cO_6, cL_6, cD_6, cz_7, cI_7, cO_7, cL_7, cD_7, cz_8, cI_8, cO_8, cL_8, cD_8, List.mem_cons, or_true, true_or, and_self, sI_S, sL_S, sR_S, sD_S, gb_S, sI_R, sL_R, sD_R, gb_R, sI_L, sR_I, sR_L, sL_I, sD_I, sD_L, gb_I, gb_L, hF, n0, c0, ec, e, mk_S, Prod.mk.injEq, Nat.reduceEqDiff, false_and, if_false, m.2.1]
  rfl
theorem s139_9 (m : MoO h 9) : Ev d 139 77 [some (vR (20, 0, 0))] [] h = Ev d 139 85 [some (vR (20, 0, 0))] [] (mA h 9) := by
  have hF : Fresh h := sta_F m.1 (by decide)
  have ec : cnt h = 378 := m.1.1
  have e : nm 378 = (21, 9, 0) := nm_21 9 (by decide)
  have n0 : (8 : Int32).toNatClampNeg = 8 := rfl
  have c0 : (0 : Int32) ≤ 8 ∧ 8 ≤ 100000 := ⟨by decide, by decide⟩
  simp only [v139_77, v139_78, v139_80, v139_82, n_14, n_8, inB_of, Nat.reduceLT, Prod.mk.injEq, true_and, rB, rBn, rBa, rBb, rBc, rBd, Evk_v, Evk_n, Nat.reduceAdd, Nat.reduceLeDiff, Nat.le_refl, Nat.zero_le, cz_0, cz_1, cI_1, cO_1, cz_2, cI_2, cO_2, cL_2, cD_2, cz_3, cI_3, cO_3, cL_3, cD_3, cz_4, cI_4, cO_4, cL_4, cD_4, cz_5, cI_5, cO_5, cL_5, cD_5, cz_6, cI_6, cO_6, cL_6, cD_6, cz_7, cI_7, cO_7, cL_7, cD_7, cz_8, cI_8, cO_8, cL_8, cD_8, List.mem_cons, or_true, true_or, and_self, sI_S, sL_S, sR_S, sD_S, gb_S, sI_R, sL_R, sD_R, gb_R, sI_L, sR_I, sR_L, sL_I, sD_I, sD_L, gb_I, gb_L, hF, n0, c0, ec, e, mk_S, Prod.mk.injEq, Nat.reduceEqDiff, false_and, if_false, m.2.1]
  rfl
theorem s139_10 (m : MoO h 10) : Ev d 139 85 [some (vR (20, 0, 0))] [] h = Ev d 139 93 [some (vR (20, 0, 0))] [] (mA h 10) := by
  have hF : Fresh h := sta_F m.1 (by decide)
  have ec : cnt h = 379 := m.1.1
  have e : nm 379 = (21, 10, 0) := nm_21 10 (by decide)
  have n0 : (8 : Int32).toNatClampNeg = 8 := rfl
  have c0 : (0 : Int32) ≤ 8 ∧ 8 ≤ 100000 := ⟨by decide, by decide⟩
  simp only [v139_85, v139_86, v139_88, v139_90, n_14, n_8, inB_of, Nat.reduceLT, Prod.mk.injEq, true_and, rB, rBn, rBa, rBb, rBc, rBd, Evk_v, Evk_n, Nat.reduceAdd, Nat.reduceLeDiff, Nat.le_refl, Nat.zero_le, cz_0, cz_1, cI_1, cO_1, cz_2, cI_2, cO_2, cL_2, cD_2, cz_3, cI_3, cO_3, cL_3, cD_3, cz_4, cI_4, cO_4, cL_4, cD_4, cz_5, cI_5, cO_5, cL_5, cD_5, cz_6, cI_6, cO_6, cL_6, cD_6, cz_7, cI_7, cO_7, cL_7, cD_7, cz_8, cI_8, cO_8, cL_8, cD_8, List.mem_cons, or_true, true_or, and_self, sI_S, sL_S, sR_S, sD_S, gb_S, sI_R, sL_R, sD_R, gb_R, sI_L, sR_I, sR_L, sL_I, sD_I, sD_L, gb_I, gb_L, hF, n0, c0, ec, e, mk_S, Prod.mk.injEq, Nat.reduceEqDiff, false_and, if_false, m.2.1]
  rfl
theorem s139_11 (m : MoO h 11) : Ev d 139 93 [some (vR (20, 0, 0))] [] h = Ev d 139 101 [some (vR (20, 0, 0))] [] (mA h 11) := by
  have hF : Fresh h := sta_F m.1 (by decide)
  have ec : cnt h = 380 := m.1.1
  have e : nm 380 = (21, 11, 0) := nm_21 11 (by decide)
  have n0 : (8 : Int32).toNatClampNeg = 8 := rfl
  have c0 : (0 : Int32) ≤ 8 ∧ 8 ≤ 100000 := ⟨by decide, by decide⟩
  simp only [v139_93, v139_94, v139_96, v139_98, n_14, n_8, inB_of, Nat.reduceLT, Prod.mk.injEq, true_and, rB, rBn, rBa, rBb, rBc, rBd, Evk_v, Evk_n, Nat.reduceAdd, Nat.reduceLeDiff, Nat.le_refl, Nat.zero_le, cz_0, cz_1, cI_1, cO_1, cz_2, cI_2, cO_2, cL_2, cD_2, cz_3, cI_3, cO_3, cL_3, cD_3, cz_4, cI_4, cO_4, cL_4, cD_4, cz_5, cI_5, cO_5, cL_5, cD_5, cz_6, cI_6, cO_6, cL_6, cD_6, cz_7, cI_7, cO_7, cL_7, cD_7, cz_8, cI_8, cO_8, cL_8, cD_8, List.mem_cons, or_true, true_or, and_self, sI_S, sL_S, sR_S, sD_S, gb_S, sI_R, sL_R, sD_R, gb_R, sI_L, sR_I, sR_L, sL_I, sD_I, sD_L, gb_I, gb_L, hF, n0, c0, ec, e, mk_S, Prod.mk.injEq, Nat.reduceEqDiff, false_and, if_false, m.2.1]
  rfl
theorem s139_12 (m : MoO h 12) : Ev d 139 101 [some (vR (20, 0, 0))] [] h = Ev d 139 109 [some (vR (20, 0, 0))] [] (mA h 12) := by
  have hF : Fresh h := sta_F m.1 (by decide)
  have ec : cnt h = 381 := m.1.1
  have e : nm 381 = (21, 12, 0) := nm_21 12 (by decide)
  have n0 : (8 : Int32).toNatClampNeg = 8 := rfl
  have c0 : (0 : Int32) ≤ 8 ∧ 8 ≤ 100000 := ⟨by decide, by decide⟩
  simp only [v139_101, v139_102, v139_104, v139_106, n_14, n_8, inB_of, Nat.reduceLT, Prod.mk.injEq, true_and, rB, rBn, rBa, rBb, rBc, rBd, Evk_v, Evk_n, Nat.reduceAdd, Nat.reduceLeDiff, Nat.le_refl, Nat.zero_le, cz_0, cz_1, cI_1, cO_1, cz_2, cI_2, cO_2, cL_2, cD_2, cz_3, cI_3, cO_3, cL_3, cD_3, cz_4, cI_4, cO_4, cL_4, cD_4, cz_5, cI_5, cO_5, cL_5, cD_5, cz_6, cI_6, cO_6, cL_6, cD_6, cz_7, cI_7, cO_7, cL_7, cD_7, cz_8, cI_8, cO_8, cL_8, cD_8, List.mem_cons, or_true, true_or, and_self, sI_S, sL_S, sR_S, sD_S, gb_S, sI_R, sL_R, sD_R, gb_R, sI_L, sR_I, sR_L, sL_I, sD_I, sD_L, gb_I, gb_L, hF, n0, c0, ec, e, mk_S, Prod.mk.injEq, Nat.reduceEqDiff, false_and, if_false, m.2.1]
  rfl
theorem s139_13 (m : MoO h 13) : Ev d 139 109 [some (vR (20, 0, 0))] [] h = Ev d 139 117 [some (vR (20, 0, 0))] [] (mA h 13) := by
  have hF : Fresh h := sta_F m.1 (by decide)
  have ec : cnt h = 382 := m.1.1
  have e : nm 382 = (21, 13, 0) := nm_21 13 (by decide)
  have n0 : (8 : Int32).toNatClampNeg = 8 := rfl
  have c0 : (0 : Int32) ≤ 8 ∧ 8 ≤ 100000 := ⟨by decide, by decide⟩
  simp only [v139_109, v139_110, v139_112, v139_114, n_14, n_8, inB_of, Nat.reduceLT, Prod.mk.injEq, true_and, rB, rBn, rBa, rBb, rBc, rBd, Evk_v, Evk_n, Nat.reduceAdd, Nat.reduceLeDiff, Nat.le_refl, Nat.zero_le, cz_0, cz_1, cI_1, cO_1, cz_2, cI_2, cO_2, cL_2, cD_2, cz_3, cI_3, cO_3, cL_3, cD_3, cz_4, cI_4, cO_4, cL_4, cD_4, cz_5, cI_5, cO_5, cL_5, cD_5, cz_6, cI_6, cO_6, cL_6, cD_6, cz_7, cI_7, cO_7, cL_7, cD_7, cz_8, cI_8, cO_8, cL_8, cD_8, List.mem_cons, or_true, true_or, and_self, sI_S, sL_S, sR_S, sD_S, gb_S, sI_R, sL_R, sD_R, gb_R, sI_L, sR_I, sR_L, sL_I, sD_I, sD_L, gb_I, gb_L, hF, n0, c0, ec, e, mk_S, Prod.mk.injEq, Nat.reduceEqDiff, false_and, if_false, m.2.1]
  rfl
theorem s139_14 (m : MoO h 14) : Ev d 139 117 [some (vR (20, 0, 0))] [] h = Ev d 139 125 [some (vR (20, 0, 0))] [] (mA h 14) := by
  have hF : Fresh h := sta_F m.1 (by decide)
  have ec : cnt h = 383 := m.1.1
  have e : nm 383 = (21, 14, 0) := nm_21 14 (by decide)
  have n0 : (8 : Int32).toNatClampNeg = 8 := rfl
  have c0 : (0 : Int32) ≤ 8 ∧ 8 ≤ 100000 := ⟨by decide, by decide⟩
  simp only [v139_117, v139_118, v139_120, v139_122, n_14, n_8, inB_of, Nat.reduceLT, Prod.mk.injEq, true_and, rB, rBn, rBa, rBb, rBc, rBd, Evk_v, Evk_n, Nat.reduceAdd, Nat.reduceLeDiff, Nat.le_refl, Nat.zero_le, cz_0, cz_1, cI_1, cO_1, cz_2, cI_2, cO_2, cL_2, cD_2, cz_3, cI_3, cO_3, cL_3, cD_3, cz_4, cI_4, cO_4, cL_4, cD_4, cz_5, cI_5, cO_5, cL_5, cD_5, cz_6, cI_6, cO_6, cL_6, cD_6, cz_7, cI_7, cO_7, cL_7, cD_7, cz_8, cI_8, cO_8, cL_8, cD_8, List.mem_cons, or_true, true_or, and_self, sI_S, sL_S, sR_S, sD_S, gb_S, sI_R, sL_R, sD_R, gb_R, sI_L, sR_I, sR_L, sL_I, sD_I, sD_L, gb_I, gb_L, hF, n0, c0, ec, e, mk_S, Prod.mk.injEq, Nat.reduceEqDiff, false_and, if_false, m.2.1]
  rfl
theorem s139_15 (m : MoO h 15) : Ev d 139 125 [some (vR (20, 0, 0))] [] h = Ev d 139 133 [some (vR (20, 0, 0))] [] (mA h 15) := by
  have hF : Fresh h := sta_F m.1 (by decide)
  have ec : cnt h = 384 := m.1.1
  have e : nm 384 = (21, 15, 0) := nm_21 15 (by decide)
  have n0 : (8 : Int32).toNatClampNeg = 8 := rfl
  have c0 : (0 : Int32) ≤ 8 ∧ 8 ≤ 100000 := ⟨by decide, by decide⟩
  simp only [v139_125, v139_126, v139_128, v139_130, n_14, n_8, inB_of, Nat.reduceLT, Prod.mk.injEq, true_and, rB, rBn, rBa, rBb, rBc, rBd, Evk_v, Evk_n, Nat.reduceAdd, Nat.reduceLeDiff, Nat.le_refl, Nat.zero_le, cz_0, cz_1, cI_1, cO_1, cz_2, cI_2, cO_2, cL_2, cD_2, cz_3, cI_3, cO_3, cL_3, cD_3, cz_4, cI_4, cO_4, cL_4, cD_4, cz_5, cI_5, cO_5, cL_5, cD_5, cz_6, cI_6, cO_6, cL_6, cD_6, cz_7, cI_7, cO_7, cL_7, cD_7, cz_8, cI_8, cO_8, cL_8, cD_8, List.mem_cons, or_true, true_or, and_self, sI_S, sL_S, sR_S, sD_S, gb_S, sI_R, sL_R, sD_R, gb_R, sI_L, sR_I, sR_L, sL_I, sD_I, sD_L, gb_I, gb_L, hF, n0, c0, ec, e, mk_S, Prod.mk.injEq, Nat.reduceEqDiff, false_and, if_false, m.2.1]
  rfl
theorem s139_16 (m : MoO h 16) : Ev d 139 133 [some (vR (20, 0, 0))] [] h = Ev d 139 141 [some (vR (20, 0, 0))] [] (mA h 16) := by
  have hF : Fresh h := sta_F m.1 (by decide)
  have ec : cnt h = 385 := m.1.1
  have e : nm 385 = (21, 16, 0) := nm_21 16 (by decide)
  have n0 : (60 : Int32).toNatClampNeg = 60 := rfl
  have c0 : (0 : Int32) ≤ 60 ∧ 60 ≤ 100000 := ⟨by decide, by decide⟩
  simp only [v139_133, v139_134, v139_136, v139_138, n_14, n_8, inB_of, Nat.reduceLT, Prod.mk.injEq, true_and, rB, rBn, rBa, rBb, rBc, rBd, Evk_v, Evk_n, Nat.reduceAdd, Nat.reduceLeDiff, Nat.le_refl, Nat.zero_le, cz_0, cz_1, cI_1, cO_1, cz_2, cI_2, cO_2, cL_2, cD_2, cz_3, cI_3, cO_3, cL_3, cD_3, cz_4, cI_4, cO_4, cL_4, cD_4, cz_5, cI_5, cO_5, cL_5, cD_5, cz_6, cI_6, cO_6, cL_6, cD_6, cz_7, cI_7, cO_7, cL_7, cD_7, cz_8, cI_8, cO_8, cL_8, cD_8, List.mem_cons, or_true, true_or, and_self, sI_S, sL_S, sR_S, sD_S, gb_S, sI_R, sL_R, sD_R, gb_R, sI_L, sR_I, sR_L, sL_I, sD_I, sD_L, gb_I, gb_L, hF, n0, c0, ec, e, mk_S, Prod.mk.injEq, Nat.reduceEqDiff, false_and, if_false, m.2.1]
  rfl
theorem s139_17 (m : MoO h 17) : Ev d 139 141 [some (vR (20, 0, 0))] [] h = Ev d 139 149 [some (vR (20, 0, 0))] [] (mA h 17) := by
  have hF : Fresh h := sta_F m.1 (by decide)
  have ec : cnt h = 386 := m.1.1
  have e : nm 386 = (21, 17, 0) := nm_21 17 (by decide)
  have n0 : (20 : Int32).toNatClampNeg = 20 := rfl
  have c0 : (0 : Int32) ≤ 20 ∧ 20 ≤ 100000 := ⟨by decide, by decide⟩
  simp only [v139_141, v139_142, v139_144, v139_146, n_14, n_8, inB_of, Nat.reduceLT, Prod.mk.injEq, true_and, rB, rBn, rBa, rBb, rBc, rBd, Evk_v, Evk_n, Nat.reduceAdd, Nat.reduceLeDiff, Nat.le_refl, Nat.zero_le, cz_0, cz_1, cI_1, cO_1, cz_2, cI_2, cO_2, cL_2, cD_2, cz_3, cI_3, cO_3, cL_3, cD_3, cz_4, cI_4, cO_4, cL_4, cD_4, cz_5, cI_5, cO_5, cL_5, cD_5, cz_6, cI_6, cO_6, cL_6, cD_6, cz_7, cI_7, cO_7, cL_7, cD_7, cz_8, cI_8, cO_8, cL_8, cD_8, List.mem_cons, or_true, true_or, and_self, sI_S, sL_S, sR_S, sD_S, gb_S, sI_R, sL_R, sD_R, gb_R, sI_L, sR_I, sR_L, sL_I, sD_I, sD_L, gb_I, gb_L, hF, n0, c0, ec, e, mk_S, Prod.mk.injEq, Nat.reduceEqDiff, false_and, if_false, m.2.1]
  rfl
theorem s139_18 (m : MoO h 18) : Ev d 139 149 [some (vR (20, 0, 0))] [] h = Ev d 139 157 [some (vR (20, 0, 0))] [] (mA h 18) := by
  have hF : Fresh h := sta_F m.1 (by decide)
  have ec : cnt h = 387 := m.1.1
  have e : nm 387 = (21, 18, 0) := nm_21 18 (by decide)
  have n0 : (80 : Int32).toNatClampNeg = 80 := rfl
  have c0 : (0 : Int32) ≤ 80 ∧ 80 ≤ 100000 := ⟨by decide, by decide⟩
  simp only [v139_149, v139_150, v139_152, v139_154, n_14, n_8, inB_of, Nat.reduceLT, Prod.mk.injEq, true_and, rB, rBn, rBa, rBb, rBc, rBd, Evk_v, Evk_n, Nat.reduceAdd, Nat.reduceLeDiff, Nat.le_refl, Nat.zero_le, cz_0, cz_1, cI_1, cO_1, cz_2, cI_2, cO_2, cL_2, cD_2, cz_3, cI_3, cO_3, cL_3, cD_3, cz_4, cI_4, cO_4, cL_4, cD_4, cz_5, cI_5, cO_5, cL_5, cD_5, cz_6, cI_6, cO_6, cL_6, cD_6, cz_7, cI_7, cO_7, cL_7, cD_7, cz_8, cI_8, cO_8, cL_8, cD_8, List.mem_cons, or_true, true_or, and_self, sI_S, sL_S, sR_S, sD_S, gb_S, sI_R, sL_R, sD_R, gb_R, sI_L, sR_I, sR_L, sL_I, sD_I, sD_L, gb_I, gb_L, hF, n0, c0, ec, e, mk_S, Prod.mk.injEq, Nat.reduceEqDiff, false_and, if_false, m.2.1]
  rfl
theorem s139_19 (m : MoO h 19) : Ev d 139 162 [some (vR (20, 0, 0))] [] h = Ev d 139 171 [some (vR (20, 0, 0))] [] (mA h 19) := by
  have hF : Fresh h := sta_F m.1 (by decide)
  have ec : cnt h = 388 := m.1.1
  have e : nm 388 = (21, 19, 0) := nm_21 19 (by decide)
  have n0 : (9414 : Int32).toNatClampNeg = 9414 := rfl
  have c0 : (0 : Int32) ≤ 9414 ∧ 9414 ≤ 100000 := ⟨by decide, by decide⟩
  simp only [v139_162, v139_163, v139_166, v139_168, n_14, n_8, inB_of, Nat.reduceLT, Prod.mk.injEq, true_and, rB, rBn, rBa, rBb, rBc, rBd, Evk_v, Evk_n, Nat.reduceAdd, Nat.reduceLeDiff, Nat.le_refl, Nat.zero_le, cz_0, cz_1, cI_1, cO_1, cz_2, cI_2, cO_2, cL_2, cD_2, cz_3, cI_3, cO_3, cL_3, cD_3, cz_4, cI_4, cO_4, cL_4, cD_4, cz_5, cI_5, cO_5, cL_5, cD_5, cz_6, cI_6, cO_6, cL_6, cD_6, cz_7, cI_7, cO_7, cL_7, cD_7, cz_8, cI_8, cO_8, cL_8, cD_8, List.mem_cons, or_true, true_or, and_self, sI_S, sL_S, sR_S, sD_S, gb_S, sI_R, sL_R, sD_R, gb_R, sI_L, sR_I, sR_L, sL_I, sD_I, sD_L, gb_I, gb_L, hF, n0, c0, ec, e, mk_S, Prod.mk.injEq, Nat.reduceEqDiff, false_and, if_false, m.2.1]
  rfl
theorem s139_20 (m : MoO h 20) : Ev d 139 171 [some (vR (20, 0, 0))] [] h = Ev d 139 180 [some (vR (20, 0, 0))] [] (mA h 20) := by
  have hF : Fresh h := sta_F m.1 (by decide)
  have ec : cnt h = 389 := m.1.1
  have e : nm 389 = (21, 20, 0) := nm_21 20 (by decide)
  have n0 : (1569 : Int32).toNatClampNeg = 1569 := rfl
  have c0 : (0 : Int32) ≤ 1569 ∧ 1569 ≤ 100000 := ⟨by decide, by decide⟩
  simp only [v139_171, v139_172, v139_175, v139_177, n_14, n_8, inB_of, Nat.reduceLT, Prod.mk.injEq, true_and, rB, rBn, rBa, rBb, rBc, rBd, Evk_v, Evk_n, Nat.reduceAdd, Nat.reduceLeDiff, Nat.le_refl, Nat.zero_le, cz_0, cz_1, cI_1, cO_1, cz_2, cI_2, cO_2, cL_2, cD_2, cz_3, cI_3, cO_3, cL_3, cD_3, cz_4, cI_4, cO_4, cL_4, cD_4, cz_5, cI_5, cO_5, cL_5, cD_5, cz_6, cI_6, cO_6, cL_6, cD_6, cz_7, cI_7, cO_7, cL_7, cD_7, cz_8, cI_8, cO_8, cL_8, cD_8, List.mem_cons, or_true, true_or, and_self, sI_S, sL_S, sR_S, sD_S, gb_S, sI_R, sL_R, sD_R, gb_R, sI_L, sR_I, sR_L, sL_I, sD_I, sD_L, gb_I, gb_L, hF, n0, c0, ec, e, mk_S, Prod.mk.injEq, Nat.reduceEqDiff, false_and, if_false, m.2.1]
  rfl
theorem s139_21 (m : MoO h 21) : Ev d 139 180 [some (vR (20, 0, 0))] [] h = Ev d 139 189 [some (vR (20, 0, 0))] [] (mA h 21) := by
  have hF : Fresh h := sta_F m.1 (by decide)
  have ec : cnt h = 390 := m.1.1
  have e : nm 390 = (21, 21, 0) := nm_21 21 (by decide)
  have n0 : (1569 : Int32).toNatClampNeg = 1569 := rfl
  have c0 : (0 : Int32) ≤ 1569 ∧ 1569 ≤ 100000 := ⟨by decide, by decide⟩
  simp only [v139_180, v139_181, v139_184, v139_186, n_14, n_8, inB_of, Nat.reduceLT, Prod.mk.injEq, true_and, rB, rBn, rBa, rBb, rBc, rBd, Evk_v, Evk_n, Nat.reduceAdd, Nat.reduceLeDiff, Nat.le_refl, Nat.zero_le, cz_0, cz_1, cI_1, cO_1, cz_2, cI_2, cO_2, cL_2, cD_2, cz_3, cI_3, cO_3, cL_3, cD_3, cz_4, cI_4, cO_4, cL_4, cD_4, cz_5, cI_5, cO_5, cL_5, cD_5, cz_6, cI_6, cO_6, cL_6, cD_6, cz_7, cI_7, cO_7, cL_7, cD_7, cz_8, cI_8, cO_8, cL_8, cD_8, List.mem_cons, or_true, true_or, and_self, sI_S, sL_S, sR_S, sD_S, gb_S, sI_R, sL_R, sD_R, gb_R, sI_L, sR_I, sR_L, sL_I, sD_I, sD_L, gb_I, gb_L, hF, n0, c0, ec, e, mk_S, Prod.mk.injEq, Nat.reduceEqDiff, false_and, if_false, m.2.1]
  rfl
def mOb (h : Hp) : Hp := mA (mA (mA (sI (mA (mA (mA (mA (mA (mA (mA (mA (mA (mA (mA (mA (mA (mA (mA (mA (mA (mA (mA h 0) 1) 2) 3) 4) 5) 6) 7) 8) 9) 10) 11) 12) 13) 14) 15) 16) 17) 18) (20, 0, 0) 29 (-1)) 19) 20) 21
theorem b139 (s : Sta h 369) (h20 : gS h (20, 0, 0) = (1, 7)) (z : ∀ m, gI h (20, 0, 0) m = 0) : Ev d 139 0 [some (vR (20, 0, 0))] [] h = some (.inl none, mOb h) ∧ MoO (mOb h) 22 ∧ (∀ m, gI (mOb h) (20, 0, 0) m = if m = 29 then -1 else 0) ∧ Fra inM h (mOb h) ∧ su (mOb h) ≤ su h + 20000 := by
  have m0 : MoO h 0 := ⟨s, h20, fun j hj => absurd hj (Nat.not_lt_zero j)⟩
  obtain ⟨m1, i1, f1⟩ := mA_ok (k := 0) (by decide) m0
  have e1 := s139_0 (d := d) m0
  obtain ⟨m2, i2, f2⟩ := mA_ok (k := 1) (by decide) m1
  have e2 := s139_1 (d := d) m1
  obtain ⟨m3, i3, f3⟩ := mA_ok (k := 2) (by decide) m2
  have e3 := s139_2 (d := d) m2
  obtain ⟨m4, i4, f4⟩ := mA_ok (k := 3) (by decide) m3
  have e4 := s139_3 (d := d) m3
  obtain ⟨m5, i5, f5⟩ := mA_ok (k := 4) (by decide) m4
  have e5 := s139_4 (d := d) m4
  obtain ⟨m6, i6, f6⟩ := mA_ok (k := 5) (by decide) m5
  have e6 := s139_5 (d := d) m5
  obtain ⟨m7, i7, f7⟩ := mA_ok (k := 6) (by decide) m6
  have e7 := s139_6 (d := d) m6
  obtain ⟨m8, i8, f8⟩ := mA_ok (k := 7) (by decide) m7
  have e8 := s139_7 (d := d) m7
  obtain ⟨m9, i9, f9⟩ := mA_ok (k := 8) (by decide) m8
  have e9 := s139_8 (d := d) m8
  obtain ⟨m10, i10, f10⟩ := mA_ok (k := 9) (by decide) m9
  have e10 := s139_9 (d := d) m9
  obtain ⟨m11, i11, f11⟩ := mA_ok (k := 10) (by decide) m10
  have e11 := s139_10 (d := d) m10
  obtain ⟨m12, i12, f12⟩ := mA_ok (k := 11) (by decide) m11
  have e12 := s139_11 (d := d) m11
  obtain ⟨m13, i13, f13⟩ := mA_ok (k := 12) (by decide) m12
  have e13 := s139_12 (d := d) m12
  obtain ⟨m14, i14, f14⟩ := mA_ok (k := 13) (by decide) m13
  have e14 := s139_13 (d := d) m13
  obtain ⟨m15, i15, f15⟩ := mA_ok (k := 14) (by decide) m14
  have e15 := s139_14 (d := d) m14
  obtain ⟨m16, i16, f16⟩ := mA_ok (k := 15) (by decide) m15
  have e16 := s139_15 (d := d) m15
  obtain ⟨m17, i17, f17⟩ := mA_ok (k := 16) (by decide) m16
  have e17 := s139_16 (d := d) m16
  obtain ⟨m18, i18, f18⟩ := mA_ok (k := 17) (by decide) m17
  have e18 := s139_17 (d := d) m17
  obtain ⟨m19, i19, f19⟩ := mA_ok (k := 18) (by decide) m18
  have e19 := s139_18 (d := d) m18
  have m19 := MoO_I (m := 29) (v := -1) m19
  obtain ⟨m20, i20, f20⟩ := mA_ok (k := 19) (by decide) m19
  have e20 := s139_19 (d := d) m19
  obtain ⟨m21, i21, f21⟩ := mA_ok (k := 20) (by decide) m20
  have e21 := s139_20 (d := d) m20
  obtain ⟨m22, i22, f22⟩ := mA_ok (k := 21) (by decide) m21
  have e22 := s139_21 (d := d) m21
  have w : Ev d 139 0 [some (vR (20, 0, 0))] [] h = Ev d 139 4 [some (vR (20, 0, 0))] [] h := by
    simp only [v139_0, v139_1, n_14, n_8, inB_of, Nat.reduceLT, Prod.mk.injEq, true_and, rB, rBn, rBa, rBb, rBc, rBd, Evk_v, Evk_n, Nat.reduceAdd, Nat.reduceLeDiff, Nat.le_refl, Nat.zero_le, cz_0, cz_1, cI_1, cO_1, cz_2, cI_2, cO_2, cL_2, cD_2, cz_3, cI_3, cO_3, cL_3, cD_3, cz_4, cI_4, cO_4, cL_4, cD_4, cz_5, cI_5, cO_5, cL_5, cD_5, cz_6, cI_6, cO_6, cL_6, cD_6, cz_7, cI_7, cO_7, cL_7, cD_7, cz_8, cI_8, cO_8, cL_8, cD_8, List.mem_cons, or_true, true_or, and_self, sI_S, sL_S, sR_S, sD_S, gb_S, sI_R, sL_R, sD_R, gb_R, sI_L, sR_I, sR_L, sL_I, sD_I, sD_L, gb_I, gb_L]
  have w19 : Ev d 139 157 [some (vR (20, 0, 0))] [] (mA (mA (mA (mA (mA (mA (mA (mA (mA (mA (mA (mA (mA (mA (mA (mA (mA (mA (mA h 0) 1) 2) 3) 4) 5) 6) 7) 8) 9) 10) 11) 12) 13) 14) 15) 16) 17) 18) = Ev d 139 162 [some (vR (20, 0, 0))] [] (sI (mA (mA (mA (mA (mA (mA (mA (mA (mA (mA (mA (mA (mA (mA (mA (mA (mA (mA (mA h 0) 1) 2) 3) 4) 5) 6) 7) 8) 9) 10) 11) 12) 13) 14) 15) 16) 17) 18) (20, 0, 0) 29 (-1)) := by
    have g : gS (mA (mA (mA (mA (mA (mA (mA (mA (mA (mA (mA (mA (mA (mA (mA (mA (mA (mA (mA h 0) 1) 2) 3) 4) 5) 6) 7) 8) 9) 10) 11) 12) 13) 14) 15) 16) 17) 18) (20, 0, 0) = (1, 7) := m19.2.1
    simp only [v139_157, v139_158, v139_159, n_14, n_8, inB_of, Nat.reduceLT, Prod.mk.injEq, true_and, rB, rBn, rBa, rBb, rBc, rBd, Evk_v, Evk_n, Nat.reduceAdd, Nat.reduceLeDiff, Nat.le_refl, Nat.zero_le, cz_0, cz_1, cI_1, cO_1, cz_2, cI_2, cO_2, cL_2, cD_2, cz_3, cI_3, cO_3, cL_3, cD_3, cz_4, cI_4, cO_4, cL_4, cD_4, cz_5, cI_5, cO_5, cL_5, cD_5, cz_6, cI_6, cO_6, cL_6, cD_6, cz_7, cI_7, cO_7, cL_7, cD_7, cz_8, cI_8, cO_8, cL_8, cD_8, List.mem_cons, or_true, true_or, and_self, sI_S, sL_S, sR_S, sD_S, gb_S, sI_R, sL_R, sD_R, gb_R, sI_L, sR_I, sR_L, sL_I, sD_I, sD_L, gb_I, gb_L, g]
  have f19b : Fra inM (mA (mA (mA (mA (mA (mA (mA (mA (mA (mA (mA (mA (mA (mA (mA (mA (mA (mA (mA h 0) 1) 2) 3) 4) 5) 6) 7) 8) 9) 10) 11) 12) 13) 14) 15) 16) 17) 18) (sI (mA (mA (mA (mA (mA (mA (mA (mA (mA (mA (mA (mA (mA (mA (mA (mA (mA (mA (mA h 0) 1) 2) 3) 4) 5) 6) 7) 8) 9) 10) 11) 12) 13) 14) 15) 16) 17) 18) (20, 0, 0) 29 (-1)) := fra_sI (Or.inl rfl)
  refine ⟨w.trans (e1.trans (e2.trans (e3.trans (e4.trans (e5.trans (e6.trans (e7.trans (e8.trans (e9.trans (e10.trans (e11.trans (e12.trans (e13.trans (e14.trans (e15.trans (e16.trans (e17.trans (e18.trans (e19.trans (w19.trans (e20.trans (e21.trans (e22.trans ?_))))))))))))))))))))))), m22, fun m => ?_, fra_t f1 (fra_t f2 (fra_t f3 (fra_t f4 (fra_t f5 (fra_t f6 (fra_t f7 (fra_t f8 (fra_t f9 (fra_t f10 (fra_t f11 (fra_t f12 (fra_t f13 (fra_t f14 (fra_t f15 (fra_t f16 (fra_t f17 (fra_t f18 (fra_t f19 (fra_t f19b (fra_t f20 (fra_t f21 f22))))))))))))))))))))), ?_⟩
  · simp only [v139_189]
    rfl
  · show gI (mOb h) (20, 0, 0) m = _
    have a1 : gI (mOb h) (20, 0, 0) = gI (sI (mA (mA (mA (mA (mA (mA (mA (mA (mA (mA (mA (mA (mA (mA (mA (mA (mA (mA (mA h 0) 1) 2) 3) 4) 5) 6) 7) 8) 9) 10) 11) 12) 13) 14) 15) 16) 17) 18) (20, 0, 0) 29 (-1)) (20, 0, 0) := i22.trans (i21.trans i20)
    have a2 : gI (mA (mA (mA (mA (mA (mA (mA (mA (mA (mA (mA (mA (mA (mA (mA (mA (mA (mA (mA h 0) 1) 2) 3) 4) 5) 6) 7) 8) 9) 10) 11) 12) 13) 14) 15) 16) 17) 18) (20, 0, 0) = gI h (20, 0, 0) := i19.trans (i18.trans (i17.trans (i16.trans (i15.trans (i14.trans (i13.trans (i12.trans (i11.trans (i10.trans (i9.trans (i8.trans (i7.trans (i6.trans (i5.trans (i4.trans (i3.trans (i2.trans (i1))))))))))))))))))
    rw [a1, sI_I, a2, z]
    by_cases y : m = 29
    · rw [if_pos ⟨rfl, y⟩, if_pos y]
    · rw [if_neg fun q => y q.2, if_neg y]
  · skip
    have q0 : (mq 0).2 = 14 := rfl
    have q1 : (mq 1).2 = 14 := rfl
    have q2 : (mq 2).2 = 14 := rfl
    have q3 : (mq 3).2 = 14 := rfl
    have q4 : (mq 4).2 = 14 := rfl
    have q5 : (mq 5).2 = 1414 := rfl
    have q6 : (mq 6).2 = 8 := rfl
    have q7 : (mq 7).2 = 8 := rfl
    have q8 : (mq 8).2 = 8 := rfl
    have q9 : (mq 9).2 = 8 := rfl
    have q10 : (mq 10).2 = 8 := rfl
    have q11 : (mq 11).2 = 8 := rfl
    have q12 : (mq 12).2 = 8 := rfl
    have q13 : (mq 13).2 = 8 := rfl
    have q14 : (mq 14).2 = 8 := rfl
    have q15 : (mq 15).2 = 8 := rfl
    have q16 : (mq 16).2 = 60 := rfl
    have q17 : (mq 17).2 = 20 := rfl
    have q18 : (mq 18).2 = 80 := rfl
    have q19 : (mq 19).2 = 9414 := rfl
    have q20 : (mq 20).2 = 1569 := rfl
    have q21 : (mq 21).2 = 1569 := rfl
    simp only [mOb, su_mA, su_sI, q0, q1, q2, q3, q4, q5, q6, q7, q8, q9, q10, q11, q12, q13, q14, q15, q16, q17, q18, q19, q20, q21]
    omega
end St3
