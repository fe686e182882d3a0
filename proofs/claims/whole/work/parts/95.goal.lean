/-! THE START: both stand at the loop's head; the goal -/


def H00 : HS := (fun _ => nP, 0, 0)
def X00 : XS := (nP, false, 0, fun _ => 0, none, none)
theorem by8_z : ∀ k, k < 8 → by8 0 k = 0 := by decide +kernel
section Goal
variable {L : Nat} {xs : Nat → Int32} {o : Option A3} {h h' h1 h2 : Hp} {A B : A3 → Prop} {d k p : Nat} {a b : A3}
theorem PlO_C (q : PlO h p) : Cls h p nP := by
  obtain ⟨q1, q2, q3, q4, q5, q6, q7, q8, q9, q10⟩ := q
  refine ⟨⟨fun i hi => (q9 i hi).2.2.2.2.1, fun i hi => ?_, fun f hf i hi => ?_, fun j hj => ?_, fun f hf j hj => ?_, fun k hk => absurd hk (Nat.not_lt_zero k), q8 3, q8 4, q8 5, q8 6, q8 7⟩, fun i hi d hd => ?_⟩
  · rw [bhs_nP]; exact (q9 i hi).2.2.2.2.2.1 2 (by decide)
  · rw [(q9 i hi).2.2.2.2.2.1 (f + 3) (by omega)]
    show (0 : Int32) = if f = 9 ∨ f = 12 ∨ f = 13 ∨ f = 14 then -1 else 0
    rw [if_neg (by omega)]
  · rw [(q10 j hj).2.2 0]; rfl
  · rw [(q10 j hj).2.2 (f + 1), if_neg (by omega)]
    show (if f + 1 = 4 ∨ f + 1 = 7 ∨ f + 1 = 8 ∨ f + 1 = 9 then (-1 : Int32) else 0) = if f + 6 = 9 ∨ f + 6 = 12 ∨ f + 6 = 13 ∨ f + 6 = 14 then -1 else 0
    by_cases y : f + 1 = 4 ∨ f + 1 = 7 ∨ f + 1 = 8 ∨ f + 1 = 9
    · rw [if_pos y, if_pos (by omega)]
    · rw [if_neg y, if_neg (by omega)]
  · rw [(q9 i hi).2.2.2.2.2.2]
    exact by8_z _ (Nat.mod_lt _ (by decide))
theorem ClO_f (x : Fra A h h') (n : ∀ a : A3, a.1 ≤ 15 → ¬ A a) (q : ClO h) : ClO h' := by
  have e : ∀ k p i, k ≤ 15 → gS h' (k, p, i) = gS h (k, p, i) ∧ gR h' (k, p, i) = gR h (k, p, i) ∧ gI h' (k, p, i) = gI h (k, p, i) := fun k p i hk => by
    obtain ⟨x1, x2, x3, -⟩ := x (k, p, i) (n _ hk)
    exact ⟨x1, x2, x3⟩
  obtain ⟨q1, q2, q3, q4, q5, q6⟩ := q
  refine ⟨(e 1 0 0 (by decide)).1.trans q1, fun p hp => PlO_f x (fun a z => n a (Nat.le_trans z.2.2 (by decide))) (q2 p hp), ?_, ?_, ?_, ?_⟩
  · rw [(e 9 0 0 (by decide)).1, (e 10 0 0 (by decide)).1, (e 11 0 0 (by decide)).1, (e 12 0 0 (by decide)).1, (e 13 0 0 (by decide)).1, (e 14 0 0 (by decide)).1, (e 15 0 0 (by decide)).1]; exact q3
  · rw [(e 1 0 0 (by decide)).2.1]; exact q4
  · rw [(e 9 0 0 (by decide)).2.1, (e 10 0 0 (by decide)).2.1, (e 11 0 0 (by decide)).2.1, (e 14 0 0 (by decide)).2.1]; exact q5
  · rw [(e 1 0 0 (by decide)).2.2, (e 9 0 0 (by decide)).2.2, (e 11 0 0 (by decide)).2.2]; exact q6
theorem CI_0 (q : ClO h) : CI h nP H00 X00 := by
  obtain ⟨q1, q2, q3, q4, q5, q6, q7, q8, q9, q10, q11⟩ := q
  exact ⟨PlO_C (q2 0 (by decide)), PlO_C (q2 1 (by decide)), fun k hk => PlO_C (q2 (k + 2) (by omega)), q9, q10, q6, q7, q8, q11, fun k hk => absurd hk (Nat.not_lt_zero k)⟩
theorem MI_0 (q : ∀ m, gI h (20, 0, 0) m = if m = 29 then -1 else 0) : MI h nP H00 X00 := by
  have e : ∀ m, m ≠ 29 → gI h (20, 0, 0) m = 0 := fun m hm => by rw [q, if_neg hm]
  refine ⟨⟨fun f hf i hi => absurd hi (Nat.not_lt_zero i), fun i hi => absurd hi (Nat.not_lt_zero i), fun f _ _ j hj => absurd hj (Nat.not_lt_zero j), fun k hk => absurd hk (Nat.not_lt_zero k), e 7 (by decide), e 8 (by decide), e 19 (by decide), e 20 (by decide), e 21 (by decide)⟩, ⟨fun z => (by cases z), fun i hi => absurd hi (Nat.not_lt_zero i)⟩, e 33 (by decide), e 35 (by decide), e 22 (by decide), ?_, e 26 (by decide), e 37 (by decide), fun k hk => absurd hk (Nat.not_lt_zero k)⟩
  rw [q, if_pos rfl]
  rfl
theorem WI_0 : WI nP H00 X00 := ⟨WFx_nP, fun z => (by cases z), Nat.zero_lt_succ 6, Nat.zero_le 6, fun i hi => absurd hi (Nat.not_lt_zero i), Nat.zero_le 60, fun k hk => absurd hk (Nat.not_lt_zero k), fun r hr => (by cases hr), fun e he => (by cases he)⟩
theorem x0_S0 (ha : a.1 < 40) : gS (x0 L xs o) a = (0, 0) := by
  have h1 : ¬ a = (40, 0, 0) := fun z => by rw [z] at ha; simp at ha
  have h2 : ¬ a = (51, 0, 0) := fun z => by rw [z] at ha; simp at ha
  have h3 : ¬ (a.1 = 41 ∧ a.2.1 < 4 ∧ a.2.2 = 0) := fun z => by omega
  have h4 : ¬ (a.1 = 42 ∧ a.2.1 < 5 ∧ a.2.2 = 0) := fun z => by omega
  have h5 : ¬ (a.1 = 43 ∧ a.2.1 < 5 ∧ a.2.2 = 0) := fun z => by omega
  show (if a = (40, 0, 0) then (9, L) else if a.1 = 41 ∧ a.2.1 < 4 ∧ a.2.2 = 0 then (9, (sVal a.2.1).length) else if a.1 = 42 ∧ a.2.1 < 5 ∧ a.2.2 = 0 then (11, 10) else if a.1 = 43 ∧ a.2.1 < 5 ∧ a.2.2 = 0 then (10, (bVal a.2.1).length) else if a = (51, 0, 0) then (12, 0) else (0, 0)) = (0, 0)
  rw [if_neg h1, if_neg h3, if_neg h4, if_neg h5, if_neg h2]
theorem x0_Sta : Sta (x0 L xs o) 0 := ⟨rfl, rfl, fun j _ h2 => x0_S0 (nm_lo j h2)⟩
theorem Lay_0 (x : Fra (fun a => a.1 < 40) (x0 L xs o) h) (q : ClO h) (m : ∀ j, j < 22 → gS h (21, j, 0) = mq j ∧ gR h (20, 0, 0) (mf j) = some (21, j, 0)) (m20 : gS h (20, 0, 0) = (1, 7)) (m30 : gS h (30, 0, 0) = (4, 1)) (m31 : gS h (31, 0, 0) = (5, 1)) : Lay L xs h := by
  have e : ∀ k p i, 40 ≤ k → gS h (k, p, i) = gS (x0 L xs o) (k, p, i) ∧ gR h (k, p, i) = gR (x0 L xs o) (k, p, i) ∧ gI h (k, p, i) = gI (x0 L xs o) (k, p, i) := fun k p i hk => by
    obtain ⟨x1, x2, x3, -⟩ := x (k, p, i) (Nat.not_lt.mpr hk)
    exact ⟨x1, x2, x3⟩
  have l2 : 40 ≤ 41 := by decide
  have l3 : 40 ≤ 42 := by decide
  have l4 : 40 ≤ 43 := by decide
  have c42 : ∀ p, p < 5 → gS (x0 L xs o) (42, p, 0) = (11, 10) := fun p hp => by
    show (if ((42, p, 0) : A3) = (40, 0, 0) then (9, L) else if 42 = 41 ∧ p < 4 ∧ 0 = 0 then (9, (sVal p).length) else if 42 = 42 ∧ p < 5 ∧ 0 = 0 then (11, 10) else _) = _
    rw [if_neg (by simp), if_neg (by simp), if_pos ⟨rfl, hp, rfl⟩]
  obtain ⟨q1, q2, ⟨g9, g10, g11, g12, g13, g14, g15⟩, ⟨r0, r1, r2, r3, r4⟩, ⟨t9, t10, t11, t12, t14⟩, q6⟩ := q
  refine ⟨?_, ?_, ?_⟩
  · exact ⟨q1, fun p hp => (q2 p hp).1, fun p hp i hi => ((q2 p hp).2.2.2.2.2.2.2.2.1 i hi).1, fun p hp i hi => ((q2 p hp).2.2.2.2.2.2.2.2.1 i hi).2.1, fun p hp i hi => ((q2 p hp).2.2.2.2.2.2.2.2.2 i hi).1, fun p hp => (q2 p hp).2.1, fun p hp => (q2 p hp).2.2.1, fun p hp => (q2 p hp).2.2.2.1, g9, g10, g11, g12, g13, g14, g15, m20, (m 0 (by decide)).1, (m 1 (by decide)).1, (m 2 (by decide)).1, (m 3 (by decide)).1, (m 4 (by decide)).1, (m 5 (by decide)).1, (m 6 (by decide)).1, (m 7 (by decide)).1, (m 8 (by decide)).1, (m 9 (by decide)).1, (m 10 (by decide)).1, (m 11 (by decide)).1, (m 12 (by decide)).1, (m 13 (by decide)).1, (m 14 (by decide)).1, (m 15 (by decide)).1, (m 16 (by decide)).1, (m 17 (by decide)).1, (m 18 (by decide)).1, (m 19 (by decide)).1, (m 20 (by decide)).1, (m 21 (by decide)).1, m30, m31, (e 40 0 0 (by decide)).1, (e 41 0 0 l2).1, (e 41 1 0 l2).1, (e 41 2 0 l2).1, (e 41 3 0 l2).1, fun p hp => (e 42 p 0 l3).1.trans (c42 p hp), (e 43 0 0 l4).1, (e 43 1 0 l4).1, (e 43 2 0 l4).1, (e 43 3 0 l4).1, (e 43 4 0 l4).1, (e 51 0 0 (by decide)).1⟩
  · have s : ∀ k, k < 4 → gR h (51, 0, 0) k = some (41, k, 0) := fun k hk => by rw [(e 51 0 0 (by decide)).2.1, x0_R51, if_pos hk]
    exact ⟨r0, r1, r2, r3, r4, fun p hp => (q2 p hp).2.2.2.2.1, fun p hp => (q2 p hp).2.2.2.2.2.1, fun p hp => (q2 p hp).2.2.2.2.2.2.1, fun p hp i hi => ((q2 p hp).2.2.2.2.2.2.2.2.1 i hi).2.2.1, fun p hp i hi => ((q2 p hp).2.2.2.2.2.2.2.2.1 i hi).2.2.2.1, fun p hp i hi => ((q2 p hp).2.2.2.2.2.2.2.2.2 i hi).2.1, t9, t10, t11, t12, t14, (m 0 (by decide)).2, (m 1 (by decide)).2, (m 2 (by decide)).2, (m 3 (by decide)).2, (m 4 (by decide)).2, (m 5 (by decide)).2, (m 6 (by decide)).2, (m 7 (by decide)).2, (m 8 (by decide)).2, (m 9 (by decide)).2, (m 10 (by decide)).2, (m 11 (by decide)).2, (m 12 (by decide)).2, (m 13 (by decide)).2, (m 14 (by decide)).2, (m 15 (by decide)).2, (m 16 (by decide)).2, (m 17 (by decide)).2, (m 18 (by decide)).2, (m 19 (by decide)).2, (m 20 (by decide)).2, (m 21 (by decide)).2, fun p hp => by rw [(e 42 p 0 l3).2.1]; exact x0_R42, s 0 (by decide), s 1 (by decide), s 2 (by decide), s 3 (by decide)⟩
  · exact ⟨fun j => by rw [(e 40 0 0 (by decide)).2.2]; exact x0_I40, fun p j => by rw [(e 41 p 0 l2).2.2]; exact x0_I41, fun p => by rw [(e 42 p 0 l3).2.2]; exact x0_I42, fun p j => by rw [(e 43 p 0 l4).2.2]; exact x0_I43⟩
theorem strt (L : Nat) (xs : Nat → Int32) (o : Option A3) : ∃ h', Ev (d + 21) 278 0 (ent 278 [vR (40, 0, 0)]) [] (x0 L xs o) = Ev (d + 21) 278 28 [some (vR (40, 0, 0)), some (vR (1, 0, 0)), some (vR (20, 0, 0)), some (vR (30, 0, 0)), some (vR (31, 0, 0)), some (vI (iN (5 * 0))), none, none, none] [] h' ∧ Inv L xs h' ∧ cu h' = 393 ∧ su h' ≤ 50000 := by
  have s0 : Sta (x0 L xs o) 0 := x0_Sta
  have hF0 : Fresh (x0 L xs o) := sta_F s0 (by decide)
  have c0 : cnt (x0 L xs o) = 0 := rfl
  have s1 : Sta (mk (x0 L xs o) (1, 0, 0) (1, 6) 8) 1 := sta_mk s0 (by decide) nm_0
  obtain ⟨h2, e91, s2, q2, f2, u2⟩ := b91 (d := d + 17) s1 (by simp only [sR_S, sI_S, mk_S, sR_Rx, mk_Rw, sI_R, sI_I, sR_I, mk_Iw, sR_L, sI_L, mk_Lw, Prod.mk.injEq, Nat.reduceEqDiff, and_true, true_and, false_and, and_false, if_true, if_false, and_self]) (fun m => by simp only [sR_S, sI_S, mk_S, sR_Rx, mk_Rw, sI_R, sI_I, sR_I, mk_Iw, sR_L, sI_L, mk_Lw, Prod.mk.injEq, Nat.reduceEqDiff, and_true, true_and, false_and, and_false, if_true, if_false, and_self])
  have e91 : Ev (d + 20) 91 0 [some (vR (1, 0, 0))] [] (mk (x0 L xs o) (1, 0, 0) (1, 6) 8) = some (.inl none, h2) := e91
  have hF2 : Fresh h2 := sta_F s2 (by decide)
  have c2 : cnt h2 = 368 := s2.1
  have s3 : Sta (mk h2 (20, 0, 0) (1, 7) 38) 369 := sta_mk s2 (by decide) nm_20
  obtain ⟨e139, ⟨s4, m20, m4⟩, i4, f4, u4⟩ := b139 (d := d + 20) s3 (by simp only [sR_S, sI_S, mk_S, sR_Rx, mk_Rw, sI_R, sI_I, sR_I, mk_Iw, sR_L, sI_L, mk_Lw, Prod.mk.injEq, Nat.reduceEqDiff, and_true, true_and, false_and, and_false, if_true, if_false, and_self]) (fun m => by simp only [sR_S, sI_S, mk_S, sR_Rx, mk_Rw, sI_R, sI_I, sR_I, mk_Iw, sR_L, sI_L, mk_Lw, Prod.mk.injEq, Nat.reduceEqDiff, and_true, true_and, false_and, and_false, if_true, if_false, and_self])
  generalize eh4 : mOb (mk h2 (20, 0, 0) (1, 7) 38) = h4 at *
  have s4 : Sta h4 391 := s4
  have hF4 : Fresh h4 := sta_F s4 (by decide)
  have c4 : cnt h4 = 391 := s4.1
  have s5 : Sta (mk h4 (30, 0, 0) (4, 1) 1) 392 := sta_mk s4 (by decide) nm_30
  have hF5 : Fresh (mk h4 (30, 0, 0) (4, 1) 1) := sta_F s5 (by decide)
  have c5 : cnt (mk h4 (30, 0, 0) (4, 1) 1) = 392 := s5.1
  have s6 : Sta (mk (mk h4 (30, 0, 0) (4, 1) 1) (31, 0, 0) (5, 1) 1) 393 := sta_mk s5 (by decide) nm_31
  have n1 : (1 : Int32).toNatClampNeg = 1 := rfl
  have c1 : (0 : Int32) ≤ 1 ∧ 1 ≤ 100000 := ⟨by decide, by decide⟩
  have FX : Fra (fun a => a.1 = 20 ∨ a.1 = 21 ∨ a.1 = 30 ∨ a.1 = 31) h2 (mk (mk h4 (30, 0, 0) (4, 1) 1) (31, 0, 0) (5, 1) 1) := fra_t (fra_mk (Or.inl rfl)) (fra_t (fra_m (fun a z => by rcases z with z | z; exact Or.inl z; exact Or.inr (Or.inl z)) f4) (fra_t (fra_mk (Or.inr (Or.inr (Or.inl rfl)))) (fra_mk (Or.inr (Or.inr (Or.inr rfl))))))
  have FA : Fra (fun a => a.1 < 40) (x0 L xs o) (mk (mk h4 (30, 0, 0) (4, 1) 1) (31, 0, 0) (5, 1) 1) := fra_t (fra_mk (Nat.le_of_ble_eq_true rfl)) (fra_t (fra_m (fun a z => by have z : a.1 ≤ 15 := z; omega) f2) (fra_m (fun a z => by omega) FX))
  have q6 : ClO (mk (mk h4 (30, 0, 0) (4, 1) 1) (31, 0, 0) (5, 1) 1) := ClO_f FX (fun a ha z => by omega) q2
  have i6 : ∀ m, gI (mk (mk h4 (30, 0, 0) (4, 1) 1) (31, 0, 0) (5, 1) 1) (20, 0, 0) m = if m = 29 then -1 else 0 := fun m => by
    rw [← i4 m]
    simp only [sR_S, sI_S, mk_S, sR_Rx, mk_Rw, sI_R, sI_I, sR_I, mk_Iw, sR_L, sI_L, mk_Lw, Prod.mk.injEq, Nat.reduceEqDiff, and_true, true_and, false_and, and_false, if_true, if_false, and_self]
  have hL : Lay L xs (mk (mk h4 (30, 0, 0) (4, 1) 1) (31, 0, 0) (5, 1) 1) := Lay_0 FA q6 (fun j hj => ⟨by simp only [sR_S, sI_S, mk_S, sR_Rx, mk_Rw, sI_R, sI_I, sR_I, mk_Iw, sR_L, sI_L, mk_Lw, Prod.mk.injEq, Nat.reduceEqDiff, and_true, true_and, false_and, and_false, if_true, if_false, and_self, (m4 j hj).1], by simp only [sR_S, sI_S, mk_S, sR_Rx, mk_Rw, sI_R, sI_I, sR_I, mk_Iw, sR_L, sI_L, mk_Lw, Prod.mk.injEq, Nat.reduceEqDiff, and_true, true_and, false_and, and_false, if_true, if_false, and_self, (m4 j hj).2]⟩) (by simp only [sR_S, sI_S, mk_S, sR_Rx, mk_Rw, sI_R, sI_I, sR_I, mk_Iw, sR_L, sI_L, mk_Lw, Prod.mk.injEq, Nat.reduceEqDiff, and_true, true_and, false_and, and_false, if_true, if_false, and_self, m20]) (by simp only [sR_S, sI_S, mk_S, sR_Rx, mk_Rw, sI_R, sI_I, sR_I, mk_Iw, sR_L, sI_L, mk_Lw, Prod.mk.injEq, Nat.reduceEqDiff, and_true, true_and, false_and, and_false, if_true, if_false, and_self]) (by simp only [sR_S, sI_S, mk_S, sR_Rx, mk_Rw, sI_R, sI_I, sR_I, mk_Iw, sR_L, sI_L, mk_Lw, Prod.mk.injEq, Nat.reduceEqDiff, and_true, true_and, false_and, and_false, if_true, if_false, and_self])
  refine ⟨_, ?_, ⟨hL, nP, H00, X00, CI_0 q6, MI_0 i6, WI_0⟩, s6.2.1, ?_⟩
  · show Ev (d + 21) 278 0 [some (vR (40, 0, 0)), none, none, none, none, none, none, none, none] [] (x0 L xs o) = _
    simp only [v278_0, v278_3, v278_4, v278_7, v278_8, v278_11, v278_12, v278_15, v278_16, v278_17, v278_19, v278_20, v278_21, v278_23, v278_25, v278_26, n_14, n_8, inB_of, Nat.reduceLT, Prod.mk.injEq, true_and, rB, rBn, rBa, rBb, rBc, rBd, Evk_v, Evk_n, Nat.reduceAdd, Nat.reduceLeDiff, Nat.le_refl, Nat.zero_le, cz_0, cz_1, cI_1, cO_1, cz_2, cI_2, cO_2, cL_2, cD_2, cz_3, cI_3, cO_3, cL_3, cD_3, cz_4, cI_4, cO_4, cL_4, cD_4, cz_5, cI_5, cO_5, cL_5, cD_5, cz_6, cI_6, cO_6, cL_6, cD_6, cz_7, cI_7, cO_7, cL_7, cD_7, cz_8, cI_8, cO_8, cL_8, cD_8, List.mem_cons, or_true, true_or, and_self, sI_S, sL_S, sR_S, sD_S, gb_S, sI_R, sL_R, sD_R, gb_R, sI_L, sR_I, sR_L, sL_I, sD_I, sD_L, gb_I, gb_L, hF0, c0, nm_0, mk_S, if_true, c1_Ot, e91, hF2, c2, nm_20, e139, hF4, c4, nm_30, hF5, c5, nm_31, n1, c1]
    rfl
  · have x0s : su (mk (x0 L xs o) (1, 0, 0) (1, 6) 8) = 8 := rfl
    have x1s : su (mk h2 (20, 0, 0) (1, 7) 38) = su h2 + 38 := rfl
    rw [x0s] at u2
    rw [x1s] at u4
    show su h4 + 1 + 1 ≤ 50000
    omega
end Goal
theorem goal : Goal := by
  intro L xs o hL
  obtain ⟨h1, e1, i1, u1, v1⟩ := strt (d := 2019) L xs o
  obtain ⟨h2, e2, u2, v2⟩ := lawL (d := 2019) hL (L / 5) 0 h1 none none none (by omega) i1
  obtain ⟨n, hn⟩ := Ev_run (e1.trans e2)
  exact ⟨n, h2, hn, by omega, by omega⟩
