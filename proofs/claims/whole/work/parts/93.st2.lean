/-! THE START: the constructors of plans, history, input, completion -/

theorem nm_10 : nm 82 = (10, 0, 0) := by decide +kernel
theorem nm_9a : nm 81 = (9, 0, 0) := by decide +kernel
theorem nm_11 : nm 363 = (11, 0, 0) := by decide +kernel
theorem nm_12 : nm 364 = (12, 0, 0) := by decide +kernel
theorem nm_13 : nm 365 = (13, 0, 0) := by decide +kernel
theorem nm_14a : nm 366 = (14, 0, 0) := by decide +kernel
theorem nm_15 : nm 367 = (15, 0, 0) := by decide +kernel
theorem nmB_s : ∀ i, i < 7 → nmB (i + 2) = 83 + 40 * i := by decide +kernel
def inHs (a : A3) : Prop := a = (9, 0, 0) ∨ a = (10, 0, 0) ∨ ∃ p, 2 ≤ p ∧ inP p a
section St2
variable {h h' h1 h2 : Hp} {A B : A3 → Prop} {d k p : Nat} {a b : A3}
theorem PrO_f {i : Nat} (x : Fra A h h') (a3 : ¬ A (3, p, i)) (a4 : ¬ A (4, p, i)) (a6 : ¬ A (6, p, 0)) (q : PrO h p i) : PrO h' p i := by
  obtain ⟨x1, x2, x3, x4⟩ := x _ a3
  obtain ⟨y1, y2, y3, y4⟩ := x _ a4
  obtain ⟨z1, z2, z3, z4⟩ := x _ a6
  unfold PrO at q ⊢
  rw [x1, y1, x2, z2, x3, y4]
  exact q
theorem ThO_f {j : Nat} (x : Fra A h h') (a5 : ¬ A (5, p, j)) (a7 : ¬ A (7, p, 0)) (q : ThO h p j) : ThO h' p j := by
  obtain ⟨x1, x2, x3, x4⟩ := x _ a5
  obtain ⟨y1, y2, y3, y4⟩ := x _ a7
  unfold ThO at q ⊢
  rw [x1, y2, x3]
  exact q
theorem PlO_f (x : Fra A h h') (n : ∀ a, inP p a → ¬ A a) (q : PlO h p) : PlO h' p := by
  have n' : ∀ k i, 2 ≤ k → k ≤ 8 → ¬ A (k, p, i) := fun k i h1 h2 => n _ ⟨rfl, h1, h2⟩
  obtain ⟨q1, q2, q3, q4, q5, q6, q7, q8, q9, q10⟩ := q
  obtain ⟨x1, x2, x3, x4⟩ := x (2, p, 0) (n' 2 0 (by decide) (by decide))
  refine ⟨x1.trans q1, (x _ (n' 6 0 (by decide) (by decide))).1.trans q2, (x _ (n' 7 0 (by decide) (by decide))).1.trans q3, (x _ (n' 8 0 (by decide) (by decide))).1.trans q4, ?_, ?_, ?_, fun m => ?_, fun i hi => PrO_f x (n' 3 i (by decide) (by decide)) (n' 4 i (by decide) (by decide)) (n' 6 0 (by decide) (by decide)) (q9 i hi), fun j hj => ThO_f x (n' 5 j (by decide) (by decide)) (n' 7 0 (by decide) (by decide)) (q10 j hj)⟩
  · rw [x2]; exact q5
  · rw [x2]; exact q6
  · rw [x2]; exact q7
  · rw [x3]; exact q8 m
/-- a plan -/
theorem b30 (hp : p < 9) (s : Sta h (nmB p + 1)) (h2 : gS h (2, p, 0) = (1, 4)) (z2 : ∀ m, gI h (2, p, 0) m = 0) : ∃ h', Ev (d + 1) 30 0 [some (vR (2, p, 0)), none] [] h = some (.inl none, h') ∧ Sta h' (nmB p + 40) ∧ PlO h' p ∧ Fra (inP p) h h' ∧ su h' ≤ su h + 2000 := by
  have hB := nmB_l p hp
  have e6 := nm_6 p hp
  have e7 := nm_7 p hp
  have e8 := nm_8a p hp
  have in6 : inP p (6, p, 0) := ⟨rfl, Nat.le_of_ble_eq_true rfl, Nat.le_of_ble_eq_true rfl⟩
  have in7 : inP p (7, p, 0) := ⟨rfl, Nat.le_of_ble_eq_true rfl, Nat.le_of_ble_eq_true rfl⟩
  have n14 : (14 : Int32).toNatClampNeg = 14 := rfl
  have c14 : (0 : Int32) ≤ 14 ∧ 14 ≤ 100000 := ⟨by decide, by decide⟩
  have n8 : (8 : Int32).toNatClampNeg = 8 := rfl
  have c8 : (0 : Int32) ≤ 8 ∧ 8 ≤ 100000 := ⟨by decide, by decide⟩
  have sA : Sta (mk h (6, p, 0) (6, 14) 14) (nmB p + 1 + 1) := sta_mk s (by omega) e6
  have hF : Fresh h := sta_F s (by omega)
  have ec : cnt h = nmB p + 1 := s.1
  have w1 : Ev (d + 1) 30 0 [some (vR (2, p, 0)), none] [] h = Ev (d + 1) 30 15 [some (vR (2, p, 0)), some (vI 0)] [] (sR (mk h (6, p, 0) (6, 14) 14) (2, p, 0) 0 (some (6, p, 0))) := by
    simp only [v30_0, v30_1, v30_4, v30_5, v30_7, v30_10, v30_13, v30_14, n_14, n_8, inB_of, Nat.reduceLT, Prod.mk.injEq, true_and, rB, rBn, rBa, rBb, rBc, rBd, Evk_v, Evk_n, Nat.reduceAdd, Nat.reduceLeDiff, Nat.le_refl, Nat.zero_le, cz_0, cz_1, cI_1, cO_1, cz_2, cI_2, cO_2, cL_2, cD_2, cz_3, cI_3, cO_3, cL_3, cD_3, cz_4, cI_4, cO_4, cL_4, cD_4, cz_5, cI_5, cO_5, cL_5, cD_5, cz_6, cI_6, cO_6, cL_6, cD_6, cz_7, cI_7, cO_7, cL_7, cD_7, cz_8, cI_8, cO_8, cL_8, cD_8, List.mem_cons, or_true, true_or, and_self, sI_S, sL_S, sR_S, sD_S, gb_S, sI_R, sL_R, sD_R, gb_R, sI_L, sR_I, sR_L, sL_I, sD_I, sD_L, gb_I, gb_L, hF, n14, c14, ec, e6, mk_S, Prod.mk.injEq, Nat.reduceEqDiff, false_and, if_false, h2]
  obtain ⟨hb, w2, s2, q1, q2, q3, q4, q5, q6, q7⟩ := b30p (d := d) (h := sR (mk h (6, p, 0) (6, 14) 14) (2, p, 0) 0 (some (6, p, 0))) hp (sta_sR sA) (by simp only [sR_S, sI_S, mk_S, sR_Rx, mk_Rw, sI_R, sI_I, sR_I, mk_Iw, sR_L, sI_L, mk_Lw, Prod.mk.injEq, Nat.reduceEqDiff, and_true, true_and, false_and, and_false, if_true, if_false, and_self, h2]) (by simp only [sR_S, sI_S, mk_S, sR_Rx, mk_Rw, sI_R, sI_I, sR_I, mk_Iw, sR_L, sI_L, mk_Lw, Prod.mk.injEq, Nat.reduceEqDiff, and_true, true_and, false_and, and_false, if_true, if_false, and_self]) (by simp only [sR_S, sI_S, mk_S, sR_Rx, mk_Rw, sI_R, sI_I, sR_I, mk_Iw, sR_L, sI_L, mk_Lw, Prod.mk.injEq, Nat.reduceEqDiff, and_true, true_and, false_and, and_false, if_true, if_false, and_self]) (fun m => by simp only [sR_S, sI_S, mk_S, sR_Rx, mk_Rw, sI_R, sI_I, sR_I, mk_Iw, sR_L, sI_L, mk_Lw, Prod.mk.injEq, Nat.reduceEqDiff, and_true, true_and, false_and, and_false, if_true, if_false, and_self, z2])
  have hF2 : Fresh hb := sta_F s2 (by omega)
  have ec2 : cnt hb = nmB p + 30 := s2.1
  have sC : Sta (mk hb (7, p, 0) (7, 8) 8) (nmB p + 30 + 1) := sta_mk s2 (by omega) e7
  have w3 : Ev (d + 1) 30 44 [some (vR (2, p, 0)), some (vI (iN 14))] [] hb = Ev (d + 1) 30 55 [some (vR (2, p, 0)), some (vI 0)] [] (sR (mk hb (7, p, 0) (7, 8) 8) (2, p, 0) 1 (some (7, p, 0))) := by
    simp only [v30_44, v30_45, v30_47, v30_50, v30_53, v30_54, n_14, n_8, inB_of, Nat.reduceLT, Prod.mk.injEq, true_and, rB, rBn, rBa, rBb, rBc, rBd, Evk_v, Evk_n, Nat.reduceAdd, Nat.reduceLeDiff, Nat.le_refl, Nat.zero_le, cz_0, cz_1, cI_1, cO_1, cz_2, cI_2, cO_2, cL_2, cD_2, cz_3, cI_3, cO_3, cL_3, cD_3, cz_4, cI_4, cO_4, cL_4, cD_4, cz_5, cI_5, cO_5, cL_5, cD_5, cz_6, cI_6, cO_6, cL_6, cD_6, cz_7, cI_7, cO_7, cL_7, cD_7, cz_8, cI_8, cO_8, cL_8, cD_8, List.mem_cons, or_true, true_or, and_self, sI_S, sL_S, sR_S, sD_S, gb_S, sI_R, sL_R, sD_R, gb_R, sI_L, sR_I, sR_L, sL_I, sD_I, sD_L, gb_I, gb_L, hF2, n8, c8, ec2, e7, mk_S, Prod.mk.injEq, Nat.reduceEqDiff, false_and, if_false, q1]
  obtain ⟨hd, w4, s4, t1, t2, t3, t4⟩ := b30t (d := d) (h := sR (mk hb (7, p, 0) (7, 8) 8) (2, p, 0) 1 (some (7, p, 0))) hp (sta_sR sC) (by simp only [sR_S, sI_S, mk_S, sR_Rx, mk_Rw, sI_R, sI_I, sR_I, mk_Iw, sR_L, sI_L, mk_Lw, Prod.mk.injEq, Nat.reduceEqDiff, and_true, true_and, false_and, and_false, if_true, if_false, and_self, q1]) (by simp only [sR_S, sI_S, mk_S, sR_Rx, mk_Rw, sI_R, sI_I, sR_I, mk_Iw, sR_L, sI_L, mk_Lw, Prod.mk.injEq, Nat.reduceEqDiff, and_true, true_and, false_and, and_false, if_true, if_false, and_self]) (by simp only [sR_S, sI_S, mk_S, sR_Rx, mk_Rw, sI_R, sI_I, sR_I, mk_Iw, sR_L, sI_L, mk_Lw, Prod.mk.injEq, Nat.reduceEqDiff, and_true, true_and, false_and, and_false, if_true, if_false, and_self])
  have n2 : ¬ (((2, p, 0) : A3) = (7, p, 0) ∨ ∃ j, ((2, p, 0) : A3) = (5, p, j)) := fun z => by rcases z with z | ⟨j, z⟩ <;> simp at z
  obtain ⟨f1, f2, f3, -⟩ := t2 (2, p, 0) n2
  have g2 : gS hd (2, p, 0) = (1, 4) := by rw [f1]; simp only [sR_S, sI_S, mk_S, sR_Rx, mk_Rw, sI_R, sI_I, sR_I, mk_Iw, sR_L, sI_L, mk_Lw, Prod.mk.injEq, Nat.reduceEqDiff, and_true, true_and, false_and, and_false, if_true, if_false, and_self, q1]
  have hF4 : Fresh hd := sta_F s4 (by omega)
  have ec4 : cnt hd = nmB p + 39 := s4.1
  have sE : Sta (mk hd (8, p, 0) (2, 8) 8) (nmB p + 39 + 1) := sta_mk s4 (by omega) e8
  have w5 : Ev (d + 1) 30 84 [some (vR (2, p, 0)), some (vI (iN 8))] [] hd = some (.inl none, sR (mk hd (8, p, 0) (2, 8) 8) (2, p, 0) 2 (some (8, p, 0))) := by
    simp only [v30_84, v30_85, v30_87, v30_89, v30_92, n_14, n_8, inB_of, Nat.reduceLT, Prod.mk.injEq, true_and, rB, rBn, rBa, rBb, rBc, rBd, Evk_v, Evk_n, Nat.reduceAdd, Nat.reduceLeDiff, Nat.le_refl, Nat.zero_le, cz_0, cz_1, cI_1, cO_1, cz_2, cI_2, cO_2, cL_2, cD_2, cz_3, cI_3, cO_3, cL_3, cD_3, cz_4, cI_4, cO_4, cL_4, cD_4, cz_5, cI_5, cO_5, cL_5, cD_5, cz_6, cI_6, cO_6, cL_6, cD_6, cz_7, cI_7, cO_7, cL_7, cD_7, cz_8, cI_8, cO_8, cL_8, cD_8, List.mem_cons, or_true, true_or, and_self, sI_S, sL_S, sR_S, sD_S, gb_S, sI_R, sL_R, sD_R, gb_R, sI_L, sR_I, sR_L, sL_I, sD_I, sD_L, gb_I, gb_L, hF4, n8, c8, ec4, e8, mk_S, Prod.mk.injEq, Nat.reduceEqDiff, false_and, if_false, g2]
  have FC : Fra (fun a => a = (7, p, 0) ∨ a = (2, p, 0)) hb (sR (mk hb (7, p, 0) (7, 8) 8) (2, p, 0) 1 (some (7, p, 0))) := fra_t (fra_mk (Or.inl rfl)) (fra_sR (Or.inr rfl))
  have FE : Fra (fun a => a = (8, p, 0) ∨ a = (2, p, 0)) hd (sR (mk hd (8, p, 0) (2, 8) 8) (2, p, 0) 2 (some (8, p, 0))) := fra_t (fra_mk (Or.inl rfl)) (fra_sR (Or.inr rfl))
  have FT : Fra (fun a => a = (7, p, 0) ∨ a = (2, p, 0) ∨ a = (8, p, 0) ∨ ∃ j, a = (5, p, j)) hb (sR (mk hd (8, p, 0) (2, 8) 8) (2, p, 0) 2 (some (8, p, 0))) := fra_t (fra_m (fun a z => by rcases z with z | z; exact Or.inl z; exact Or.inr (Or.inl z)) FC) (fra_t (fra_m (fun a z => by rcases z with z | z; exact Or.inl z; exact Or.inr (Or.inr (Or.inr z))) t2) (fra_m (fun a z => by rcases z with z | z; exact Or.inr (Or.inr (Or.inl z)); exact Or.inr (Or.inl z)) FE))
  have nT : ∀ k i, k = 3 ∨ k = 4 ∨ k = 6 → ¬ (((k, p, i) : A3) = (7, p, 0) ∨ ((k, p, i) : A3) = (2, p, 0) ∨ ((k, p, i) : A3) = (8, p, 0) ∨ ∃ j, ((k, p, i) : A3) = (5, p, j)) := fun k i hk z => by
    rcases z with z | z | z | ⟨j, z⟩ <;> (simp at z; omega)
  have n7 : ¬ (((7, p, 0) : A3) = (8, p, 0) ∨ ((7, p, 0) : A3) = (2, p, 0)) := by simp
  refine ⟨_, w1.trans (w2.trans (w3.trans (w4.trans w5))), sE, ⟨?_, ?_, ?_, ?_, ?_, ?_, ?_, fun m => ?_, fun i hi => PrO_f FT (nT 3 i (by decide)) (nT 4 i (by decide)) (nT 6 0 (by decide)) (q5 i hi), fun j hj => ThO_f FE (by simp) n7 (t1 j hj)⟩, ?_, ?_⟩
  · simp only [sR_S, sI_S, mk_S, sR_Rx, mk_Rw, sI_R, sI_I, sR_I, mk_Iw, sR_L, sI_L, mk_Lw, Prod.mk.injEq, Nat.reduceEqDiff, and_true, true_and, false_and, and_false, if_true, if_false, and_self, g2]
  · exact (FT (6, p, 0) (nT 6 0 (by decide))).1.trans q2
  · exact (FE (7, p, 0) n7).1.trans t3
  · simp only [sR_S, sI_S, mk_S, sR_Rx, mk_Rw, sI_R, sI_I, sR_I, mk_Iw, sR_L, sI_L, mk_Lw, Prod.mk.injEq, Nat.reduceEqDiff, and_true, true_and, false_and, and_false, if_true, if_false, and_self]
  · simp only [sR_S, sI_S, mk_S, sR_Rx, mk_Rw, sI_R, sI_I, sR_I, mk_Iw, sR_L, sI_L, mk_Lw, Prod.mk.injEq, Nat.reduceEqDiff, and_true, true_and, false_and, and_false, if_true, if_false, and_self, f2, q3]
  · simp only [sR_S, sI_S, mk_S, sR_Rx, mk_Rw, sI_R, sI_I, sR_I, mk_Iw, sR_L, sI_L, mk_Lw, Prod.mk.injEq, Nat.reduceEqDiff, and_true, true_and, false_and, and_false, if_true, if_false, and_self, f2]
  · simp only [sR_S, sI_S, mk_S, sR_Rx, mk_Rw, sI_R, sI_I, sR_I, mk_Iw, sR_L, sI_L, mk_Lw, Prod.mk.injEq, Nat.reduceEqDiff, and_true, true_and, false_and, and_false, if_true, if_false, and_self]
  · simp only [sR_S, sI_S, mk_S, sR_Rx, mk_Rw, sI_R, sI_I, sR_I, mk_Iw, sR_L, sI_L, mk_Lw, Prod.mk.injEq, Nat.reduceEqDiff, and_true, true_and, false_and, and_false, if_true, if_false, and_self, f3, q4]
  · refine fra_t (fra_t (fra_mk in6) (fra_sR inP_2)) (fra_t q6 (fra_m (fun a z => ?_) FT))
    rcases z with z | z | z | ⟨j, z⟩ <;> rw [z]
    · exact in7
    · exact inP_2
    · exact inP_8
    · exact inP_5
  · have e1 : su (sR (mk hd (8, p, 0) (2, 8) 8) (2, p, 0) 2 (some (8, p, 0))) = su hd + 8 := rfl
    have e2 : su (sR (mk hb (7, p, 0) (7, 8) 8) (2, p, 0) 1 (some (7, p, 0))) = su hb + 8 := rfl
    have e3 : su (sR (mk h (6, p, 0) (6, 14) 14) (2, p, 0) 0 (some (6, p, 0))) = su h + 14 := rfl
    rw [e2] at t4
    rw [e3] at q7
    rw [e1]
    omega
/-- the history -/
theorem b4 (s : Sta h 82) (h9 : gS h (9, 0, 0) = (1, 1)) : ∃ h', Ev (d + 2) 4 0 [some (vR (9, 0, 0)), none] [] h = some (.inl none, h') ∧ Sta h' 363 ∧ gS h' (9, 0, 0) = (1, 1) ∧ gS h' (10, 0, 0) = (8, 7) ∧ gR h' (9, 0, 0) 0 = some (10, 0, 0) ∧ gI h' (9, 0, 0) = gI h (9, 0, 0) ∧ (∀ i, i < 7 → PlO h' (i + 2) ∧ gR h' (10, 0, 0) i = some (2, i + 2, 0)) ∧ Fra inHs h h' ∧ su h' ≤ su h + 7 + 7 * 2008 := by
  have n7 : (7 : Int32).toNatClampNeg = 7 := rfl
  have c7 : (0 : Int32) ≤ 7 ∧ 7 ≤ 100000 := ⟨by decide, by decide⟩
  have l8 : 2 ≤ 8 ∧ 8 ≤ 10 := ⟨by decide, by decide⟩
  have sA : Sta (mk h (10, 0, 0) (8, 7) 7) (82 + 1) := sta_mk s (by decide) nm_10
  have hF : Fresh h := sta_F s (by decide)
  have ec : cnt h = 82 := s.1
  have w1 : Ev (d + 2) 4 0 [some (vR (9, 0, 0)), none] [] h = Ev (d + 2) 4 15 [some (vR (9, 0, 0)), some (vI 0)] [] (sR (mk h (10, 0, 0) (8, 7) 7) (9, 0, 0) 0 (some (10, 0, 0))) := by
    simp only [v4_0, v4_1, v4_4, v4_5, v4_7, v4_10, v4_13, v4_14, n_14, n_8, inB_of, Nat.reduceLT, Prod.mk.injEq, true_and, rB, rBn, rBa, rBb, rBc, rBd, Evk_v, Evk_n, Nat.reduceAdd, Nat.reduceLeDiff, Nat.le_refl, Nat.zero_le, cz_0, cz_1, cI_1, cO_1, cz_2, cI_2, cO_2, cL_2, cD_2, cz_3, cI_3, cO_3, cL_3, cD_3, cz_4, cI_4, cO_4, cL_4, cD_4, cz_5, cI_5, cO_5, cL_5, cD_5, cz_6, cI_6, cO_6, cL_6, cD_6, cz_7, cI_7, cO_7, cL_7, cD_7, cz_8, cI_8, cO_8, cL_8, cD_8, List.mem_cons, or_true, true_or, and_self, sI_S, sL_S, sR_S, sD_S, gb_S, sI_R, sL_R, sD_R, gb_R, sI_L, sR_I, sR_L, sL_I, sD_I, sD_L, gb_I, gb_L, hF, n7, c7, ec, nm_10, mk_S, Prod.mk.injEq, Nat.reduceEqDiff, false_and, if_false, h9]
  have lp := loopI (σ := LS3 × Hp) (E := fun s => Ev (d + 2) 4 15 s.1 [] s.2) (I := fun i s => s.1 = [some (vR (9, 0, 0)), some (vI (iN i))] ∧ Sta s.2 (83 + 40 * i) ∧ gS s.2 (9, 0, 0) = (1, 1) ∧ gS s.2 (10, 0, 0) = (8, 7) ∧ gR s.2 (9, 0, 0) 0 = some (10, 0, 0) ∧ gI s.2 (9, 0, 0) = gI h (9, 0, 0) ∧ (∀ j, j < i → PlO s.2 (j + 2) ∧ gR s.2 (10, 0, 0) j = some (2, j + 2, 0)) ∧ Fra inHs h s.2 ∧ su s.2 ≤ su h + 7 + i * 2008) (n := 7) (by
    rintro i hi ⟨ls, h1⟩ ⟨rfl, q1, q2, q3, q4, q5, q6, q7, q8⟩
    have q1 : Sta h1 (83 + 40 * i) := q1
    have q2 : gS h1 (9, 0, 0) = (1, 1) := q2
    have q3 : gS h1 (10, 0, 0) = (8, 7) := q3
    have q4 : gR h1 (9, 0, 0) 0 = some (10, 0, 0) := q4
    have q5 : gI h1 (9, 0, 0) = gI h (9, 0, 0) := q5
    have q6 : ∀ j, j < i → PlO h1 (j + 2) ∧ gR h1 (10, 0, 0) j = some (2, j + 2, 0) := q6
    have q7 : Fra inHs h h1 := q7
    have q8 : su h1 ≤ su h + 7 + i * 2008 := q8
    have eB := nmB_s i hi
    have hp : i + 2 < 9 := by omega
    have e2 : nm (83 + 40 * i) = (2, i + 2, 0) := by rw [← eB]; exact nm_2 _ hp
    have ec : cnt h1 = 83 + 40 * i := q1.1
    have hF1 : Fresh h1 := sta_F q1 (by omega)
    have s2 : Sta (mk h1 (2, i + 2, 0) (1, 4) 8) (nmB (i + 2) + 1) := by rw [eB]; exact sta_mk q1 (by omega) e2
    obtain ⟨h3, e30, s3, p3, f3, u3⟩ := b30 (d := d) (p := i + 2) (h := mk h1 (2, i + 2, 0) (1, 4) 8) hp s2 (by simp only [sR_S, sI_S, mk_S, sR_Rx, mk_Rw, sI_R, sI_I, sR_I, mk_Iw, sR_L, sI_L, mk_Lw, Prod.mk.injEq, Nat.reduceEqDiff, and_true, true_and, false_and, and_false, if_true, if_false, and_self]) (fun m => by simp only [sR_S, sI_S, mk_S, sR_Rx, mk_Rw, sI_R, sI_I, sR_I, mk_Iw, sR_L, sI_L, mk_Lw, Prod.mk.injEq, Nat.reduceEqDiff, and_true, true_and, false_and, and_false, if_true, if_false, and_self])
    rw [eB] at s3
    have hnl : ¬ (iN 7 ≤ iN i) := nle hi (by decide)
    have hin : inB (iN i) 7 := inB_of hi (by decide)
    have hto : (iN i).toNatClampNeg = i := n_i (by omega)
    have n9 : ¬ inP (i + 2) (9, 0, 0) := fun z => by have := z.2.2; simp at this
    have n10 : ¬ inP (i + 2) (10, 0, 0) := fun z => by have := z.2.2; simp at this
    obtain ⟨g1, g2, g3, -⟩ := f3 (9, 0, 0) n9
    obtain ⟨k1, k2, k3, -⟩ := f3 (10, 0, 0) n10
    have x9 : gS h3 (9, 0, 0) = (1, 1) := by rw [g1]; simp only [sR_S, sI_S, mk_S, sR_Rx, mk_Rw, sI_R, sI_I, sR_I, mk_Iw, sR_L, sI_L, mk_Lw, Prod.mk.injEq, Nat.reduceEqDiff, and_true, true_and, false_and, and_false, if_true, if_false, and_self, q2]
    have x10 : gS h3 (10, 0, 0) = (8, 7) := by rw [k1]; simp only [sR_S, sI_S, mk_S, sR_Rx, mk_Rw, sI_R, sI_I, sR_I, mk_Iw, sR_L, sI_L, mk_Lw, Prod.mk.injEq, Nat.reduceEqDiff, and_true, true_and, false_and, and_false, if_true, if_false, and_self, q3]
    have FP : Fra (inP (i + 2)) h1 h3 := fra_t (fra_mk inP_2) f3
    have m8 : ¬ ((8 : Nat) = 6) := by decide
    have m7 : ¬ ((8 : Nat) = 7) := by decide
    have el : elemC 8 = 4 := rfl
    refine ⟨(_, sR h3 (10, 0, 0) i (some (2, i + 2, 0))), ⟨rfl, ?_, x9, x10, ?_, ?_, fun j hj => ?_, ?_, ?_⟩, ?_⟩
    · have := sta_sR (a := (10, 0, 0)) (m := i) (v := some (2, i + 2, 0)) s3
      rwa [show 83 + 40 * i + 40 = 83 + 40 * (i + 1) by omega] at this
    · simp only [sR_S, sI_S, mk_S, sR_Rx, mk_Rw, sI_R, sI_I, sR_I, mk_Iw, sR_L, sI_L, mk_Lw, Prod.mk.injEq, Nat.reduceEqDiff, and_true, true_and, false_and, and_false, if_true, if_false, and_self, g2, q4]
    · rw [sR_I, g3]
      funext m
      simp only [sR_S, sI_S, mk_S, sR_Rx, mk_Rw, sI_R, sI_I, sR_I, mk_Iw, sR_L, sI_L, mk_Lw, Prod.mk.injEq, Nat.reduceEqDiff, and_true, true_and, false_and, and_false, if_true, if_false, and_self, q5]
    · by_cases y : j = i
      · subst y
        refine ⟨PlO_f (fra_sR (A := fun a => a = (10, 0, 0)) rfl) (fun a z1 z2 => by have z2 : a = (10, 0, 0) := z2; rw [z2] at z1; have := z1.2.2; simp at this) p3, by simp only [sR_S, sI_S, mk_S, sR_Rx, mk_Rw, sI_R, sI_I, sR_I, mk_Iw, sR_L, sI_L, mk_Lw, Prod.mk.injEq, Nat.reduceEqDiff, and_true, true_and, false_and, and_false, if_true, if_false, and_self]⟩
      · obtain ⟨a1, a2⟩ := q6 j (by omega)
        refine ⟨PlO_f (fra_sR (A := fun a => a = (10, 0, 0)) rfl) (fun a z1 z2 => by have z2 : a = (10, 0, 0) := z2; rw [z2] at z1; have := z1.2.2; simp at this) (PlO_f FP (fun a z1 z2 => by have := z1.1; have := z2.1; omega) a1), by simp only [sR_S, sI_S, mk_S, sR_Rx, mk_Rw, sI_R, sI_I, sR_I, mk_Iw, sR_L, sI_L, mk_Lw, Prod.mk.injEq, Nat.reduceEqDiff, and_true, true_and, false_and, and_false, if_true, if_false, and_self, y, k2, a2]⟩
    · exact fra_t q7 (fra_t (fra_m (fun a z => Or.inr (Or.inr ⟨i + 2, by omega, z⟩)) FP) (fra_sR (Or.inr (Or.inl rfl))))
    · have e1 : su (mk h1 (2, i + 2, 0) (1, 4) 8) = su h1 + 8 := rfl
      rw [e1] at u3
      show su h3 ≤ _
      omega
    · show Ev (d + 2) 4 15 _ [] h1 = Ev (d + 2) 4 15 _ [] _
      rw [v4_15]
      simp only [v4_16, v4_17, v4_20, v4_21, v4_24, v4_25, v4_28, v4_29, v4_32, v4_33, v4_36, v4_37, v4_40, n_14, n_8, inB_of, Nat.reduceLT, Prod.mk.injEq, true_and, rB, rBn, rBa, rBb, rBc, rBd, Evk_v, Evk_n, Nat.reduceAdd, Nat.reduceLeDiff, Nat.le_refl, Nat.zero_le, cz_0, cz_1, cI_1, cO_1, cz_2, cI_2, cO_2, cL_2, cD_2, cz_3, cI_3, cO_3, cL_3, cD_3, cz_4, cI_4, cO_4, cL_4, cD_4, cz_5, cI_5, cO_5, cL_5, cD_5, cz_6, cI_6, cO_6, cL_6, cD_6, cz_7, cI_7, cO_7, cL_7, cD_7, cz_8, cI_8, cO_8, cL_8, cD_8, List.mem_cons, or_true, true_or, and_self, sI_S, sL_S, sR_S, sD_S, gb_S, sI_R, sL_R, sD_R, gb_R, sI_L, sR_I, sR_L, sL_I, sD_I, sD_L, gb_I, gb_L, q2, q3, q4, l8, if_neg hnl, hF1, ec, e2, mk_S, c1_Ot, if_true, e30, x10, m8, m7, or_true, el, p3.1, hin, hto, iN_s])
  obtain ⟨⟨ls, h1⟩, ⟨rfl, q1, q2, q3, q4, q5, q6, q7, q8⟩, e⟩ := lp ([some (vR (9, 0, 0)), some (vI (iN 0))], sR (mk h (10, 0, 0) (8, 7) 7) (9, 0, 0) 0 (some (10, 0, 0))) ⟨rfl, sta_sR sA, by simp only [sR_S, sI_S, mk_S, sR_Rx, mk_Rw, sI_R, sI_I, sR_I, mk_Iw, sR_L, sI_L, mk_Lw, Prod.mk.injEq, Nat.reduceEqDiff, and_true, true_and, false_and, and_false, if_true, if_false, and_self, h9], by simp only [sR_S, sI_S, mk_S, sR_Rx, mk_Rw, sI_R, sI_I, sR_I, mk_Iw, sR_L, sI_L, mk_Lw, Prod.mk.injEq, Nat.reduceEqDiff, and_true, true_and, false_and, and_false, if_true, if_false, and_self], by simp only [sR_S, sI_S, mk_S, sR_Rx, mk_Rw, sI_R, sI_I, sR_I, mk_Iw, sR_L, sI_L, mk_Lw, Prod.mk.injEq, Nat.reduceEqDiff, and_true, true_and, false_and, and_false, if_true, if_false, and_self], by funext m; simp only [sR_S, sI_S, mk_S, sR_Rx, mk_Rw, sI_R, sI_I, sR_I, mk_Iw, sR_L, sI_L, mk_Lw, Prod.mk.injEq, Nat.reduceEqDiff, and_true, true_and, false_and, and_false, if_true, if_false, and_self], fun j hj => absurd hj (Nat.not_lt_zero j), fra_t (fra_mk (Or.inr (Or.inl rfl))) (fra_sR (Or.inl rfl)), Nat.le_refl _⟩
  have q2 : gS h1 (9, 0, 0) = (1, 1) := q2
  have q3 : gS h1 (10, 0, 0) = (8, 7) := q3
  have q4 : gR h1 (9, 0, 0) 0 = some (10, 0, 0) := q4
  refine ⟨h1, ?_, q1, q2, q3, q4, q5, q6, q7, q8⟩
  have e : Ev (d + 2) 4 15 [some (vR (9, 0, 0)), some (vI 0)] [] (sR (mk h (10, 0, 0) (8, 7) 7) (9, 0, 0) 0 (some (10, 0, 0))) = Ev (d + 2) 4 15 [some (vR (9, 0, 0)), some (vI (iN 7))] [] h1 := e
  refine w1.trans (e.trans ?_)
  rw [v4_15]
  simp only [v4_16, v4_17, v4_20, v4_21, v4_43, n_14, n_8, inB_of, Nat.reduceLT, Prod.mk.injEq, true_and, rB, rBn, rBa, rBb, rBc, rBd, Evk_v, Evk_n, Nat.reduceAdd, Nat.reduceLeDiff, Nat.le_refl, Nat.zero_le, cz_0, cz_1, cI_1, cO_1, cz_2, cI_2, cO_2, cL_2, cD_2, cz_3, cI_3, cO_3, cL_3, cD_3, cz_4, cI_4, cO_4, cL_4, cD_4, cz_5, cI_5, cO_5, cL_5, cD_5, cz_6, cI_6, cO_6, cL_6, cD_6, cz_7, cI_7, cO_7, cL_7, cD_7, cz_8, cI_8, cO_8, cL_8, cD_8, List.mem_cons, or_true, true_or, and_self, sI_S, sL_S, sR_S, sD_S, gb_S, sI_R, sL_R, sD_R, gb_R, sI_L, sR_I, sR_L, sL_I, sD_I, sD_L, gb_I, gb_L, q2, q3, q4, l8, if_pos (show iN 7 ≤ iN 7 from Int32.le_refl _)]
/-- the input -/
def ipO (h : Hp) : Hp := sR (sR (mk (sR (mk h (12, 0, 0) (3, 60) 60) (11, 0, 0) 0 (some (12, 0, 0))) (13, 0, 0) (2, 100) 100) (11, 0, 0) 1 (some (13, 0, 0))) (11, 0, 0) 4 (some (42, 0, 0))
theorem b12 (s : Sta h 364) (h11 : gS h (11, 0, 0) = (1, 2)) : Ev d 12 0 [some (vR (11, 0, 0))] [] h = some (.inl none, ipO h) ∧ Sta (ipO h) 366 := by
  have n60 : (60 : Int32).toNatClampNeg = 60 := rfl
  have c60 : (0 : Int32) ≤ 60 ∧ 60 ≤ 100000 := ⟨by decide, by decide⟩
  have n100 : (100 : Int32).toNatClampNeg = 100 := rfl
  have c100 : (0 : Int32) ≤ 100 ∧ 100 ≤ 100000 := ⟨by decide, by decide⟩
  have hF : Fresh h := sta_F s (by decide)
  have s2 : Sta (mk h (12, 0, 0) (3, 60) 60) 365 := sta_mk s (by decide) nm_12
  have hF2 : Fresh (sR (mk h (12, 0, 0) (3, 60) 60) (11, 0, 0) 0 (some (12, 0, 0))) := sta_F (sta_sR s2) (by decide)
  have s3 : Sta (mk (sR (mk h (12, 0, 0) (3, 60) 60) (11, 0, 0) 0 (some (12, 0, 0))) (13, 0, 0) (2, 100) 100) 366 := sta_mk (sta_sR s2) (by decide) nm_13
  have ec : cnt h = 364 := s.1
  refine ⟨?_, s3⟩
  simp only [v12_0, v12_1, v12_4, v12_5, v12_7, v12_9, v12_12, v12_13, v12_15, v12_17, v12_20, v12_21, v12_23, v12_26, n_14, n_8, inB_of, Nat.reduceLT, Prod.mk.injEq, true_and, rB, rBn, rBa, rBb, rBc, rBd, Evk_v, Evk_n, Nat.reduceAdd, Nat.reduceLeDiff, Nat.le_refl, Nat.zero_le, cz_0, cz_1, cI_1, cO_1, cz_2, cI_2, cO_2, cL_2, cD_2, cz_3, cI_3, cO_3, cL_3, cD_3, cz_4, cI_4, cO_4, cL_4, cD_4, cz_5, cI_5, cO_5, cL_5, cD_5, cz_6, cI_6, cO_6, cL_6, cD_6, cz_7, cI_7, cO_7, cL_7, cD_7, cz_8, cI_8, cO_8, cL_8, cD_8, List.mem_cons, or_true, true_or, and_self, sI_S, sL_S, sR_S, sD_S, gb_S, sI_R, sL_R, sD_R, gb_R, sI_L, sR_I, sR_L, sL_I, sD_I, sD_L, gb_I, gb_L, hF, n60, c60, ec, nm_12, mk_S, sR_S, Prod.mk.injEq, Nat.reduceEqDiff, false_and, if_false, h11, hF2, cn_mk, cn_sI, cn_sR, su_mk, su_sI, su_sR, nm_13, n100, c100]
  rfl
/-- the completion -/
def coO (h : Hp) : Hp := sR (mk h (15, 0, 0) (2, 5) 5) (14, 0, 0) 0 (some (15, 0, 0))
theorem b0 (s : Sta h 367) (h14 : gS h (14, 0, 0) = (1, 0)) : Ev d 0 0 [some (vR (14, 0, 0))] [] h = some (.inl none, coO h) ∧ Sta (coO h) 368 := by
  have n5 : (5 : Int32).toNatClampNeg = 5 := rfl
  have c5 : (0 : Int32) ≤ 5 ∧ 5 ≤ 100000 := ⟨by decide, by decide⟩
  have hF : Fresh h := sta_F s (by decide)
  have s2 : Sta (mk h (15, 0, 0) (2, 5) 5) 368 := sta_mk s (by decide) nm_15
  have ec : cnt h = 367 := s.1
  refine ⟨?_, s2⟩
  simp only [v0_0, v0_1, v0_4, v0_5, v0_6, v0_8, v0_11, n_14, n_8, inB_of, Nat.reduceLT, Prod.mk.injEq, true_and, rB, rBn, rBa, rBb, rBc, rBd, Evk_v, Evk_n, Nat.reduceAdd, Nat.reduceLeDiff, Nat.le_refl, Nat.zero_le, cz_0, cz_1, cI_1, cO_1, cz_2, cI_2, cO_2, cL_2, cD_2, cz_3, cI_3, cO_3, cL_3, cD_3, cz_4, cI_4, cO_4, cL_4, cD_4, cz_5, cI_5, cO_5, cL_5, cD_5, cz_6, cI_6, cO_6, cL_6, cD_6, cz_7, cI_7, cO_7, cL_7, cD_7, cz_8, cI_8, cO_8, cL_8, cD_8, List.mem_cons, or_true, true_or, and_self, sI_S, sL_S, sR_S, sD_S, gb_S, sI_R, sL_R, sD_R, gb_R, sI_L, sR_I, sR_L, sL_I, sD_I, sD_L, gb_I, gb_L, hF, n5, c5, ec, nm_15, mk_S, Prod.mk.injEq, Nat.reduceEqDiff, false_and, if_false, h14]
  rfl
end St2
