/-! READ: the text, as the class takes it, to its end -/


/-- the signs from i on taken: where it stops, and the state if all were taken -/
def rn (s : Nat → Nat) : Nat → IS → Nat → Nat × Option IS
  | 0, t, i => (i, some t)
  | r + 1, t, i => match acc t (s i) with
    | none => (i, none)
    | some t' => rn s r t' (i + 1)
def rdC (q : Nat × Option IS) : Int32 := match q.2 with
  | none => iN q.1
  | some t => if t.1 = 0 ∧ 0 < t.2.2.2.1 then -1 else iN q.1
section R5
variable {L : Nat} {xs : Nat → Int32} {h h' h1 h2 : Hp} {t t' : IS} {d : Nat}
theorem rn_n {s : Nat → Nat} {r i : Nat} (e : acc t (s i) = none) : rn s (r + 1) t i = (i, none) := by
  show (match acc t (s i) with
    | none => (i, none)
    | some t' => rn s r t' (i + 1)) = _
  rw [e]
theorem rn_s {s : Nat → Nat} {r i : Nat} (e : acc t (s i) = some t') : rn s (r + 1) t i = rn s r t' (i + 1) := by
  show (match acc t (s i) with
    | none => (i, none)
    | some t' => rn s r t' (i + 1)) = _
  rw [e]
theorem m16s (hL : Lay L xs h) {f a : Nat} (hf : f < 5) (ha : a < fN f) (eR : gR h (11, 0, 0) 4 = some (42, f, 0)) (e5 : gI h (11, 0, 0) 5 = iN a) {x : Option MV} : ∃ h2, Ev (d + 5) 16 37 [some (vR (11, 0, 0)), x] [] h = Ev (d + 5) 16 80 [some (vR (11, 0, 0)), x] [] h2 ∧ ChR h h2 ∧ gI h2 (11, 0, 0) 5 = iN (fS f a) ∧ gR h2 (11, 0, 0) 4 = some (42, f, 0) ∧ (∀ k, k ≠ 5 → gI h2 (11, 0, 0) k = gI h (11, 0, 0) k) ∧ gI h2 (13, 0, 0) = gI h (13, 0, 0) := by
  have f10 := fN_le _ hf
  have sk0 : ∀ (g : Hp) (b : Nat), Lay L xs g → b < fN f → gR g (11, 0, 0) 4 = some (42, f, 0) → gI g (11, 0, 0) 5 = iN b → ¬ fC f b = 57 → Ev (d + 5) 16 37 [some (vR (11, 0, 0)), x] [] g = Ev (d + 5) 16 80 [some (vR (11, 0, 0)), x] [] g := fun g b hg hb r5 e5 z => by
    have hnl : ¬ iN (fN f) ≤ iN b := nle hb (by omega)
    have c57 : ¬ iN (fC f b) = 57 := fun q => z ((iN_inj (b := 57) (by have := (fC_b f hf b hb).2; omega) (by decide)).mp q)
    rw [v16_37]
    simp only [v16_38, v16_41, v16_42, v16_45, v16_48, v16_51, v16_52, v16_55, v16_56, v16_59, v16_62, v16_64, v16_67, v16_68, v16_69, v16_72, v16_73, v16_74, v16_77, n_14, n_8, inB_of, Nat.reduceLT, Prod.mk.injEq, true_and, rB, rBn, rBa, rBb, rBc, rBd, Evk_v, Evk_n, Nat.reduceAdd, Nat.reduceLeDiff, Nat.le_refl, Nat.zero_le, cz_0, cz_1, cI_1, cO_1, cz_2, cI_2, cO_2, cL_2, cD_2, cz_3, cI_3, cO_3, cL_3, cD_3, cz_4, cI_4, cO_4, cL_4, cD_4, cz_5, cI_5, cO_5, cL_5, cD_5, cz_6, cI_6, cO_6, cL_6, cD_6, cz_7, cI_7, cO_7, cL_7, cD_7, cz_8, cI_8, cO_8, cL_8, cD_8, List.mem_cons, or_true, true_or, and_self, sI_S, sL_S, sR_S, sD_S, gb_S, sI_R, sL_R, sD_R, gb_R, sI_L, sR_I, sR_L, sL_I, sD_I, sD_L, gb_I, gb_L, y_S42 hg hf, y_S11 hg, r5, e5, j235 hg hf, j237 hg hf hb, if_neg hnl, if_neg c57, c1_It, c1_Ot, bI_T, bI_F, i10, i01]
  have sk1 : ∀ (g : Hp) (b : Nat), Lay L xs g → b < fN f → gR g (11, 0, 0) 4 = some (42, f, 0) → gI g (11, 0, 0) 5 = iN b → fC f b = 57 → Ev (d + 5) 16 37 [some (vR (11, 0, 0)), x] [] g = Ev (d + 5) 16 37 [some (vR (11, 0, 0)), x] [] (sI g (11, 0, 0) 5 (iN (b + 1))) := fun g b hg hb r5 e5 z => by
    have hnl : ¬ iN (fN f) ≤ iN b := nle hb (by omega)
    have c57 : iN (fC f b) = 57 := by rw [z]; rfl
    rw [v16_37]
    simp only [v16_38, v16_41, v16_42, v16_45, v16_48, v16_51, v16_52, v16_55, v16_56, v16_59, v16_62, v16_64, v16_67, v16_68, v16_69, v16_72, v16_73, v16_74, v16_77, n_14, n_8, inB_of, Nat.reduceLT, Prod.mk.injEq, true_and, rB, rBn, rBa, rBb, rBc, rBd, Evk_v, Evk_n, Nat.reduceAdd, Nat.reduceLeDiff, Nat.le_refl, Nat.zero_le, cz_0, cz_1, cI_1, cO_1, cz_2, cI_2, cO_2, cL_2, cD_2, cz_3, cI_3, cO_3, cL_3, cD_3, cz_4, cI_4, cO_4, cL_4, cD_4, cz_5, cI_5, cO_5, cL_5, cD_5, cz_6, cI_6, cO_6, cL_6, cD_6, cz_7, cI_7, cO_7, cL_7, cD_7, cz_8, cI_8, cO_8, cL_8, cD_8, List.mem_cons, or_true, true_or, and_self, sI_S, sL_S, sR_S, sD_S, gb_S, sI_R, sL_R, sD_R, gb_R, sI_L, sR_I, sR_L, sL_I, sD_I, sD_L, gb_I, gb_L, y_S42 hg hf, y_S11 hg, r5, e5, j235 hg hf, j237 hg hf hb, if_neg hnl, if_pos c57, iN_s, c1_It, c1_Ot, bI_T, bI_F, i10, i01]
  obtain ⟨-, q2, -⟩ := fS_lt _ hf _ ha
  unfold fS
  by_cases z1 : fC f a = 57
  · obtain ⟨b1, b2⟩ := q2 z1
    rw [if_pos z1]
    have k1 : ChR h (sI h (11, 0, 0) 5 (iN (a + 1))) := cr_11 (by decide)
    have hL1 := Lay_cr hL k1
    have e51 : gI (sI h (11, 0, 0) 5 (iN (a + 1))) (11, 0, 0) 5 = iN (a + 1) := by rw [sI_I, if_pos ⟨rfl, rfl⟩]
    by_cases z2 : fC f (a + 1) = 57
    · obtain ⟨b3, b4⟩ := b2 z2
      rw [if_pos z2]
      have k2 : ChR (sI h (11, 0, 0) 5 (iN (a + 1))) (sI (sI h (11, 0, 0) 5 (iN (a + 1))) (11, 0, 0) 5 (iN (a + 2))) := cr_11 (by decide)
      have hL2 := Lay_cr hL1 k2
      have e52 : gI (sI (sI h (11, 0, 0) 5 (iN (a + 1))) (11, 0, 0) 5 (iN (a + 2))) (11, 0, 0) 5 = iN (a + 2) := by rw [sI_I, if_pos ⟨rfl, rfl⟩]
      refine ⟨_, (sk1 h a hL ha eR e5 z1).trans ((sk1 _ (a + 1) hL1 b1 eR e51 z2).trans (sk0 _ (a + 2) hL2 b3 eR e52 b4)), cr_t k1 k2, e52, eR, fun k hk => ?_, ?_⟩
      · rw [sI_I, if_neg fun z => hk z.2, sI_I, if_neg fun z => hk z.2]
      · funext j
        rw [sI_I, if_neg (by simp), sI_I, if_neg (by simp)]
    · rw [if_neg z2]
      refine ⟨_, (sk1 h a hL ha eR e5 z1).trans (sk0 _ (a + 1) hL1 b1 eR e51 z2), k1, e51, eR, fun k hk => ?_, ?_⟩
      · rw [sI_I, if_neg fun z => hk z.2]
      · funext j
        rw [sI_I, if_neg (by simp)]
  · rw [if_neg z1]
    exact ⟨h, sk0 h a hL ha eR e5 z1, cr_r, e5, eR, fun _ _ => rfl, rfl⟩
theorem m16 (hL : Lay L xs h) (ih : IH h t) (ok : IOK t) {x : Nat} (hx : x < 127) : ∃ h', Ev (d + 5) 16 0 [some (vR (11, 0, 0)), some (vI (iN x))] [] h = some (.inl (some (vI (if acc t x = none then 0 else 1))), h') ∧ ChR h h' ∧ ∀ t', acc t x = some t' → IH h' t' := by
  have ih' := ih
  obtain ⟨i1, i2, i3, i4⟩ := ih
  by_cases z0 : t.1 = 0
  · have e236 : ∀ d, Ev d 236 0 [some (vR (42, t.1, 0))] [] h = some (.inl (some (vI (1))), h) := fun d => by rw [j236 hL (show t.1 < 5 by omega), bI_t z0]
    obtain ⟨h', e17, c, q⟩ := m17 (d := d + 3) hL ih' ok hx
    unfold acc
    rw [if_pos z0]
    by_cases z : fO x = 0 ∨ 20 ≤ t.2.2.2.1
    · rw [if_pos z] at e17 ⊢
      refine ⟨h', ?_, c, fun t' e => by cases e⟩
      rw [if_pos rfl]
      simp only [v16_0, v16_1, v16_4, v16_7, v16_10, v16_11, v16_12, v16_15, n_14, n_8, inB_of, Nat.reduceLT, Prod.mk.injEq, true_and, rB, rBn, rBa, rBb, rBc, rBd, Evk_v, Evk_n, Nat.reduceAdd, Nat.reduceLeDiff, Nat.le_refl, Nat.zero_le, cz_0, cz_1, cI_1, cO_1, cz_2, cI_2, cO_2, cL_2, cD_2, cz_3, cI_3, cO_3, cL_3, cD_3, cz_4, cI_4, cO_4, cL_4, cD_4, cz_5, cI_5, cO_5, cL_5, cD_5, cz_6, cI_6, cO_6, cL_6, cD_6, cz_7, cI_7, cO_7, cL_7, cD_7, cz_8, cI_8, cO_8, cL_8, cD_8, List.mem_cons, or_true, true_or, and_self, sI_S, sL_S, sR_S, sD_S, gb_S, sI_R, sL_R, sD_R, gb_R, sI_L, sR_I, sR_L, sL_I, sD_I, sD_L, gb_I, gb_L, y_S42 hL (show t.1 < 5 by omega), y_S11 hL, i1, e236, i10, e17, if_true, if_false, not_true_eq_false, not_false_eq_true, Bool.false_eq_true, Int32.or_zero, ne_eq, Bool.and_eq_true, decide_eq_true_eq, decide_true, decide_false, and_true, true_and, and_false, false_and, Bool.and_true, Bool.true_and, Bool.and_false, Bool.false_and]
    · rw [if_neg z] at e17 ⊢
      refine ⟨h', ?_, c, fun t' e => by cases e; exact q z⟩
      rw [if_neg (by simp)]
      simp only [v16_0, v16_1, v16_4, v16_7, v16_10, v16_11, v16_12, v16_15, n_14, n_8, inB_of, Nat.reduceLT, Prod.mk.injEq, true_and, rB, rBn, rBa, rBb, rBc, rBd, Evk_v, Evk_n, Nat.reduceAdd, Nat.reduceLeDiff, Nat.le_refl, Nat.zero_le, cz_0, cz_1, cI_1, cO_1, cz_2, cI_2, cO_2, cL_2, cD_2, cz_3, cI_3, cO_3, cL_3, cD_3, cz_4, cI_4, cO_4, cL_4, cD_4, cz_5, cI_5, cO_5, cL_5, cD_5, cz_6, cI_6, cO_6, cL_6, cD_6, cz_7, cI_7, cO_7, cL_7, cD_7, cz_8, cI_8, cO_8, cL_8, cD_8, List.mem_cons, or_true, true_or, and_self, sI_S, sL_S, sR_S, sD_S, gb_S, sI_R, sL_R, sD_R, gb_R, sI_L, sR_I, sR_L, sL_I, sD_I, sD_L, gb_I, gb_L, y_S42 hL (show t.1 < 5 by omega), y_S11 hL, i1, e236, i10, e17, if_true, if_false, not_true_eq_false, not_false_eq_true, Bool.false_eq_true, Int32.or_zero, ne_eq, Bool.and_eq_true, decide_eq_true_eq, decide_true, decide_false, and_true, true_and, and_false, false_and, Bool.and_true, Bool.true_and, Bool.and_false, Bool.false_and]
  · obtain ⟨k1, k2, k3, k4⟩ := ok.2 z0
    obtain ⟨a5, a6⟩ := i3 z0
    obtain ⟨q1, q2, q3, q4, q5, q6⟩ := fS_lt _ k1 _ k2
    have f10 := fN_le _ k1
    have e236 : ∀ d, Ev d 236 0 [some (vR (42, t.1, 0))] [] h = some (.inl (some (vI (0))), h) := fun d => by rw [j236 hL k1, bI_f z0]
    unfold acc
    rw [if_neg z0]
    by_cases z : 48 ≤ x ∧ x ≤ 57
    · have l1 : ¬ iN x < 48 := nlt32' (ile (k := 48) z.1 (by omega))
      have l2 : ¬ (57 : Int32) < iN x := nlt32' (ile (n := 57) z.2 (by decide))
      have es : iN x - 48 = iN (x - 48) := iN_sub (b := 48) z.1
      obtain ⟨h', e19, c, q⟩ := m19 (d := d) hL ih' ok z0 (x := x - 48) (by omega)
      rw [show 48 + (x - 48) = x by omega] at q
      rw [if_pos z]
      by_cases y : fC t.1 t.2.1 = 48 ∨ fC t.1 t.2.1 = 57
      · rw [if_pos y] at e19 ⊢
        refine ⟨h', ?_, c, fun t' e => by cases e; exact q y⟩
        rw [if_neg (by simp)]
        simp only [v16_0, v16_1, v16_4, v16_7, v16_10, v16_11, v16_12, v16_15, v16_16, v16_17, v16_19, v16_22, v16_23, v16_25, v16_28, v16_29, v16_30, v16_32, v16_33, v16_36, n_14, n_8, inB_of, Nat.reduceLT, Prod.mk.injEq, true_and, rB, rBn, rBa, rBb, rBc, rBd, Evk_v, Evk_n, Nat.reduceAdd, Nat.reduceLeDiff, Nat.le_refl, Nat.zero_le, cz_0, cz_1, cI_1, cO_1, cz_2, cI_2, cO_2, cL_2, cD_2, cz_3, cI_3, cO_3, cL_3, cD_3, cz_4, cI_4, cO_4, cL_4, cD_4, cz_5, cI_5, cO_5, cL_5, cD_5, cz_6, cI_6, cO_6, cL_6, cD_6, cz_7, cI_7, cO_7, cL_7, cD_7, cz_8, cI_8, cO_8, cL_8, cD_8, List.mem_cons, or_true, true_or, and_self, sI_S, sL_S, sR_S, sD_S, gb_S, sI_R, sL_R, sD_R, gb_R, sI_L, sR_I, sR_L, sL_I, sD_I, sD_L, gb_I, gb_L, y_S42 hL k1, y_S11 hL, i1, e236, if_neg l1, if_neg l2, es, e19, if_true, if_false, not_true_eq_false, not_false_eq_true, Bool.false_eq_true, Int32.or_zero, ne_eq, Bool.and_eq_true, decide_eq_true_eq, decide_true, decide_false, and_true, true_and, and_false, false_and, Bool.and_true, Bool.true_and, Bool.and_false, Bool.false_and]
      · rw [if_neg y] at e19 ⊢
        refine ⟨h', ?_, c, fun t' e => by cases e⟩
        rw [if_pos rfl]
        simp only [v16_0, v16_1, v16_4, v16_7, v16_10, v16_11, v16_12, v16_15, v16_16, v16_17, v16_19, v16_22, v16_23, v16_25, v16_28, v16_29, v16_30, v16_32, v16_33, v16_36, n_14, n_8, inB_of, Nat.reduceLT, Prod.mk.injEq, true_and, rB, rBn, rBa, rBb, rBc, rBd, Evk_v, Evk_n, Nat.reduceAdd, Nat.reduceLeDiff, Nat.le_refl, Nat.zero_le, cz_0, cz_1, cI_1, cO_1, cz_2, cI_2, cO_2, cL_2, cD_2, cz_3, cI_3, cO_3, cL_3, cD_3, cz_4, cI_4, cO_4, cL_4, cD_4, cz_5, cI_5, cO_5, cL_5, cD_5, cz_6, cI_6, cO_6, cL_6, cD_6, cz_7, cI_7, cO_7, cL_7, cD_7, cz_8, cI_8, cO_8, cL_8, cD_8, List.mem_cons, or_true, true_or, and_self, sI_S, sL_S, sR_S, sD_S, gb_S, sI_R, sL_R, sD_R, gb_R, sI_L, sR_I, sR_L, sL_I, sD_I, sD_L, gb_I, gb_L, y_S42 hL k1, y_S11 hL, i1, e236, if_neg l1, if_neg l2, es, e19, if_true, if_false, not_true_eq_false, not_false_eq_true, Bool.false_eq_true, Int32.or_zero, ne_eq, Bool.and_eq_true, decide_eq_true_eq, decide_true, decide_false, and_true, true_and, and_false, false_and, Bool.and_true, Bool.true_and, Bool.and_false, Bool.false_and]
    · rw [if_neg z]
      obtain ⟨h2, e37, c2, b5, bR, bo, b13⟩ := m16s (d := d) hL k1 k2 i1 a5 (x := some (vI (iN x)))
      have hL2 := Lay_cr hL c2
      have hnl : ¬ iN (fN t.1) ≤ iN (fS t.1 t.2.1) := nle q1 (by omega)
      have e235 := fun d => j235 (d := d) hL2 k1
      have e237 := fun d => j237 (d := d) hL2 k1 q1
      have cx : (iN (fC t.1 (fS t.1 t.2.1)) = iN x) = (fC t.1 (fS t.1 t.2.1) = x) := iN_e (by have := (fC_b _ k1 _ q1).2; omega) (by omega)
      have g37 : Ev (d + 5) 16 0 [some (vR (11, 0, 0)), some (vI (iN x))] [] h = Ev (d + 5) 16 80 [some (vR (11, 0, 0)), some (vI (iN x))] [] h2 := by
        refine Eq.trans ?_ e37
        by_cases w : x < 48
        · have l1 : iN x < 48 := ilt (n := 48) w (by decide)
          simp only [v16_0, v16_1, v16_4, v16_7, v16_10, v16_11, v16_12, v16_15, v16_16, v16_17, v16_19, v16_22, v16_23, v16_25, v16_28, n_14, n_8, inB_of, Nat.reduceLT, Prod.mk.injEq, true_and, rB, rBn, rBa, rBb, rBc, rBd, Evk_v, Evk_n, Nat.reduceAdd, Nat.reduceLeDiff, Nat.le_refl, Nat.zero_le, cz_0, cz_1, cI_1, cO_1, cz_2, cI_2, cO_2, cL_2, cD_2, cz_3, cI_3, cO_3, cL_3, cD_3, cz_4, cI_4, cO_4, cL_4, cD_4, cz_5, cI_5, cO_5, cL_5, cD_5, cz_6, cI_6, cO_6, cL_6, cD_6, cz_7, cI_7, cO_7, cL_7, cD_7, cz_8, cI_8, cO_8, cL_8, cD_8, List.mem_cons, or_true, true_or, and_self, sI_S, sL_S, sR_S, sD_S, gb_S, sI_R, sL_R, sD_R, gb_R, sI_L, sR_I, sR_L, sL_I, sD_I, sD_L, gb_I, gb_L, y_S42 hL k1, y_S11 hL, i1, e236, if_pos l1, if_true, if_false, not_true_eq_false, not_false_eq_true, Bool.false_eq_true, Int32.or_zero, ne_eq, Bool.and_eq_true, decide_eq_true_eq, decide_true, decide_false, and_true, true_and, and_false, false_and, Bool.and_true, Bool.true_and, Bool.and_false, Bool.false_and]
        · have l1 : ¬ iN x < 48 := nlt32' (ile (k := 48) (by omega) (by omega))
          have l2 : (57 : Int32) < iN x := ilt (k := 57) (by omega) (by omega)
          simp only [v16_0, v16_1, v16_4, v16_7, v16_10, v16_11, v16_12, v16_15, v16_16, v16_17, v16_19, v16_22, v16_23, v16_25, v16_28, n_14, n_8, inB_of, Nat.reduceLT, Prod.mk.injEq, true_and, rB, rBn, rBa, rBb, rBc, rBd, Evk_v, Evk_n, Nat.reduceAdd, Nat.reduceLeDiff, Nat.le_refl, Nat.zero_le, cz_0, cz_1, cI_1, cO_1, cz_2, cI_2, cO_2, cL_2, cD_2, cz_3, cI_3, cO_3, cL_3, cD_3, cz_4, cI_4, cO_4, cL_4, cD_4, cz_5, cI_5, cO_5, cL_5, cD_5, cz_6, cI_6, cO_6, cL_6, cD_6, cz_7, cI_7, cO_7, cL_7, cD_7, cz_8, cI_8, cO_8, cL_8, cD_8, List.mem_cons, or_true, true_or, and_self, sI_S, sL_S, sR_S, sD_S, gb_S, sI_R, sL_R, sD_R, gb_R, sI_L, sR_I, sR_L, sL_I, sD_I, sD_L, gb_I, gb_L, y_S42 hL k1, y_S11 hL, i1, e236, if_neg l1, if_pos l2, if_true, if_false, not_true_eq_false, not_false_eq_true, Bool.false_eq_true, Int32.or_zero, ne_eq, Bool.and_eq_true, decide_eq_true_eq, decide_true, decide_false, and_true, true_and, and_false, false_and, Bool.and_true, Bool.true_and, Bool.and_false, Bool.false_and]
      by_cases y : fC t.1 (fS t.1 t.2.1) = x
      · rw [if_pos y]
        have b6 : gI h2 (11, 0, 0) 6 = iN t.2.2.1 := (bo 6 (by decide)).trans a6
        have b3 : gI h2 (11, 0, 0) 3 = iN t.2.2.2.1 := (bo 3 (by decide)).trans i2
        have hLb : Lay L xs (sI (sI h2 (11, 0, 0) 5 (iN (fS t.1 t.2.1 + 1))) (11, 0, 0) 6 (iN (t.2.2.1 + 1))) := Lay_sI (Lay_sI hL2 (by decide)) (by decide)
        have cb : ChR h (sI (sI h2 (11, 0, 0) 5 (iN (fS t.1 t.2.1 + 1))) (11, 0, 0) 6 (iN (t.2.2.1 + 1))) := cr_t c2 (cr_t (cr_11 (by decide)) (cr_11 (by decide)))
        have e235b := fun d => j235 (d := d) hLb k1
        have ce : (iN (fS t.1 t.2.1 + 1) = iN (fN t.1)) = (fS t.1 t.2.1 + 1 = fN t.1) := iN_e (by omega) (by omega)
        unfold spt
        by_cases w : fS t.1 t.2.1 + 1 = fN t.1
        · rw [if_pos w]
          refine ⟨sI (sR (sI (sI h2 (11, 0, 0) 5 (iN (fS t.1 t.2.1 + 1))) (11, 0, 0) 6 (iN (t.2.2.1 + 1))) (11, 0, 0) 4 (some (42, 0, 0))) (11, 0, 0) 3 (iN (t.2.2.2.1 + 1)), ?_, cr_t cb (cr_t cr_R (cr_11 (by decide))), fun t' e => ?_⟩
          · rw [if_neg (by simp), g37]
            simp only [v16_80, v16_81, v16_84, v16_85, v16_88, v16_91, v16_94, v16_95, v16_98, v16_99, v16_102, v16_105, v16_106, v16_109, v16_110, v16_111, v16_112, v16_113, v16_116, v16_117, v16_118, v16_121, v16_122, v16_123, v16_126, v16_127, v16_128, v16_131, v16_132, v16_135, v16_136, v16_139, v16_142, v16_145, v16_146, v16_148, v16_151, v16_152, v16_153, v16_156, v16_157, v16_158, v16_161, v16_162, n_14, n_8, inB_of, Nat.reduceLT, Prod.mk.injEq, true_and, rB, rBn, rBa, rBb, rBc, rBd, Evk_v, Evk_n, Nat.reduceAdd, Nat.reduceLeDiff, Nat.le_refl, Nat.zero_le, cz_0, cz_1, cI_1, cO_1, cz_2, cI_2, cO_2, cL_2, cD_2, cz_3, cI_3, cO_3, cL_3, cD_3, cz_4, cI_4, cO_4, cL_4, cD_4, cz_5, cI_5, cO_5, cL_5, cD_5, cz_6, cI_6, cO_6, cL_6, cD_6, cz_7, cI_7, cO_7, cL_7, cD_7, cz_8, cI_8, cO_8, cL_8, cD_8, List.mem_cons, or_true, true_or, and_self, sI_S, sL_S, sR_S, sD_S, gb_S, sI_R, sL_R, sD_R, gb_R, sI_L, sR_I, sR_L, sL_I, sD_I, sD_L, gb_I, gb_L, y_S42 hL2 k1, y_S11 hL2, bR, b5, e235, if_neg hnl, e237, cx, if_pos y, iN_s, sI_I, Nat.reduceEqDiff, and_false, false_and, if_false, and_self, if_true, b6, b3, e235b, ce, if_pos w, sR_I, c1_It, c1_Ot, bI_T, bI_F, i10, i01]
          · cases e
            refine ⟨?_, ?_, fun z => absurd rfl z, fun j hj => ?_⟩
            · show gR (sR _ (11, 0, 0) 4 (some (42, 0, 0))) (11, 0, 0) 4 = _
              rw [sR_Rx, if_pos ⟨rfl, rfl⟩]
            · rw [sI_I, if_pos ⟨rfl, rfl⟩]
            · rw [sI_I, if_neg (by simp), sR_I, sI_I, if_neg (by simp), sI_I, if_neg (by simp), b13]; exact i4 j hj
        · rw [if_neg w]
          refine ⟨sI (sI h2 (11, 0, 0) 5 (iN (fS t.1 t.2.1 + 1))) (11, 0, 0) 6 (iN (t.2.2.1 + 1)), ?_, cb, fun t' e => ?_⟩
          · rw [if_neg (by simp), g37]
            simp only [v16_80, v16_81, v16_84, v16_85, v16_88, v16_91, v16_94, v16_95, v16_98, v16_99, v16_102, v16_105, v16_106, v16_109, v16_110, v16_111, v16_112, v16_113, v16_116, v16_117, v16_118, v16_121, v16_122, v16_123, v16_126, v16_127, v16_128, v16_131, v16_132, v16_135, v16_136, v16_139, v16_142, v16_145, v16_146, v16_148, v16_151, v16_152, v16_153, v16_156, v16_157, v16_158, v16_161, v16_162, n_14, n_8, inB_of, Nat.reduceLT, Prod.mk.injEq, true_and, rB, rBn, rBa, rBb, rBc, rBd, Evk_v, Evk_n, Nat.reduceAdd, Nat.reduceLeDiff, Nat.le_refl, Nat.zero_le, cz_0, cz_1, cI_1, cO_1, cz_2, cI_2, cO_2, cL_2, cD_2, cz_3, cI_3, cO_3, cL_3, cD_3, cz_4, cI_4, cO_4, cL_4, cD_4, cz_5, cI_5, cO_5, cL_5, cD_5, cz_6, cI_6, cO_6, cL_6, cD_6, cz_7, cI_7, cO_7, cL_7, cD_7, cz_8, cI_8, cO_8, cL_8, cD_8, List.mem_cons, or_true, true_or, and_self, sI_S, sL_S, sR_S, sD_S, gb_S, sI_R, sL_R, sD_R, gb_R, sI_L, sR_I, sR_L, sL_I, sD_I, sD_L, gb_I, gb_L, y_S42 hL2 k1, y_S11 hL2, bR, b5, e235, if_neg hnl, e237, cx, if_pos y, iN_s, sI_I, Nat.reduceEqDiff, and_false, false_and, if_false, and_self, if_true, b6, b3, e235b, ce, if_neg w, c1_It, c1_Ot, bI_T, bI_F, i10, i01]
          · cases e
            refine ⟨bR, ?_, fun _ => ⟨?_, ?_⟩, fun j hj => ?_⟩
            · rw [sI_I, if_neg (by simp), sI_I, if_neg (by simp)]; exact b3
            · rw [sI_I, if_neg (by simp), sI_I, if_pos ⟨rfl, rfl⟩]
            · rw [sI_I, if_pos ⟨rfl, rfl⟩]
            · rw [sI_I, if_neg (by simp), sI_I, if_neg (by simp), b13]; exact i4 j hj
      · rw [if_neg y]
        refine ⟨h2, ?_, c2, fun t' e => by cases e⟩
        rw [if_pos rfl, g37]
        simp only [v16_80, v16_81, v16_84, v16_85, v16_88, v16_91, v16_94, v16_95, v16_98, v16_99, v16_102, v16_105, v16_106, v16_109, v16_110, n_14, n_8, inB_of, Nat.reduceLT, Prod.mk.injEq, true_and, rB, rBn, rBa, rBb, rBc, rBd, Evk_v, Evk_n, Nat.reduceAdd, Nat.reduceLeDiff, Nat.le_refl, Nat.zero_le, cz_0, cz_1, cI_1, cO_1, cz_2, cI_2, cO_2, cL_2, cD_2, cz_3, cI_3, cO_3, cL_3, cD_3, cz_4, cI_4, cO_4, cL_4, cD_4, cz_5, cI_5, cO_5, cL_5, cD_5, cz_6, cI_6, cO_6, cL_6, cD_6, cz_7, cI_7, cO_7, cL_7, cD_7, cz_8, cI_8, cO_8, cL_8, cD_8, List.mem_cons, or_true, true_or, and_self, sI_S, sL_S, sR_S, sD_S, gb_S, sI_R, sL_R, sD_R, gb_R, sI_L, sR_I, sR_L, sL_I, sD_I, sD_L, gb_I, gb_L, y_S42 hL2 k1, y_S11 hL2, bR, b5, e235, if_neg hnl, e237, cx, if_neg y, c1_It, c1_Ot, bI_T, bI_F, i10, i01]
/-- the class's cells at first -/
def t00 (x : Nat → Int32) : IS := (0, 0, 0, 0, x)
theorem ok_00 {x : Nat → Int32} : IOK (t00 x) := ⟨Nat.zero_le _, fun z => absurd rfl z⟩
theorem m14l {s : Nat → Nat} {l : Nat} (hl : l ≤ 60) (hs : ∀ j, j < l → s j < 127) : ∀ r i t h, i + r = l → Lay L xs h → (∀ j, j < l → gI h (12, 0, 0) j = iN (s j)) → IH h t → IOK t → ∃ h', Ev (d + 6) 14 23 [some (vR (11, 0, 0)), some (vI (iN l)), some (vI (iN i))] [] h = some (.inl (some (vI (rdC (rn s r t i)))), h') ∧ ChR h h' ∧ (∀ t', (rn s r t i).2 = some t' → IH h' t' ∧ IOK t') := by
  intro r
  induction r with
  | zero =>
    intro i t h hi hL hS ih ok
    have hil : i = l := by omega
    subst hil
    have f5 : t.1 < 5 := by
      by_cases z : t.1 = 0
      · omega
      · exact (ok.2 z).1
    have e236 := fun d => j236 (d := d) hL f5
    refine ⟨h, ?_, cr_r, fun t' e => by cases e; exact ⟨ih, ok⟩⟩
    obtain ⟨i1, i2, i3, i4⟩ := ih
    have hle : iN i ≤ iN i := Int32.le_refl _
    show (_ : Option (MO × Hp)) = some (.inl (some (vI (if t.1 = 0 ∧ 0 < t.2.2.2.1 then -1 else iN i))), h)
    rw [v14_23]
    by_cases z : t.1 = 0
    · rw [bI_t z] at e236
      by_cases y : 0 < t.2.2.2.1
      · have n0 : ¬ iN t.2.2.2.1 ≤ 0 := nle (k := 0) y (by have := ok.1; omega)
        rw [if_pos ⟨z, y⟩]
        simp only [v14_24, v14_25, v14_49, v14_50, v14_53, v14_56, v14_59, v14_60, v14_63, v14_66, v14_67, v14_70, v14_71, n_14, n_8, inB_of, Nat.reduceLT, Prod.mk.injEq, true_and, rB, rBn, rBa, rBb, rBc, rBd, Evk_v, Evk_n, Nat.reduceAdd, Nat.reduceLeDiff, Nat.le_refl, Nat.zero_le, cz_0, cz_1, cI_1, cO_1, cz_2, cI_2, cO_2, cL_2, cD_2, cz_3, cI_3, cO_3, cL_3, cD_3, cz_4, cI_4, cO_4, cL_4, cD_4, cz_5, cI_5, cO_5, cL_5, cD_5, cz_6, cI_6, cO_6, cL_6, cD_6, cz_7, cI_7, cO_7, cL_7, cD_7, cz_8, cI_8, cO_8, cL_8, cD_8, List.mem_cons, or_true, true_or, and_self, sI_S, sL_S, sR_S, sD_S, gb_S, sI_R, sL_R, sD_R, gb_R, sI_L, sR_I, sR_L, sL_I, sD_I, sD_L, gb_I, gb_L, y_S42 hL f5, y_S11 hL, if_pos hle, i1, i2, e236, i10, if_neg n0, if_true, if_false, not_true_eq_false, not_false_eq_true, Bool.false_eq_true, Int32.or_zero, ne_eq, Bool.and_eq_true, decide_eq_true_eq, decide_true, decide_false, and_true, true_and, and_false, false_and, Bool.and_true, Bool.true_and, Bool.and_false, Bool.false_and, c1_It, c1_Ot, bI_T, bI_F, i10, i01]
      · have n0 : iN t.2.2.2.1 ≤ 0 := by
          have : t.2.2.2.1 = 0 := by omega
          rw [this]; exact Int32.le_refl _
        rw [if_neg fun q => y q.2]
        simp only [v14_24, v14_25, v14_49, v14_50, v14_53, v14_56, v14_59, v14_60, v14_63, v14_66, v14_67, v14_70, v14_71, n_14, n_8, inB_of, Nat.reduceLT, Prod.mk.injEq, true_and, rB, rBn, rBa, rBb, rBc, rBd, Evk_v, Evk_n, Nat.reduceAdd, Nat.reduceLeDiff, Nat.le_refl, Nat.zero_le, cz_0, cz_1, cI_1, cO_1, cz_2, cI_2, cO_2, cL_2, cD_2, cz_3, cI_3, cO_3, cL_3, cD_3, cz_4, cI_4, cO_4, cL_4, cD_4, cz_5, cI_5, cO_5, cL_5, cD_5, cz_6, cI_6, cO_6, cL_6, cD_6, cz_7, cI_7, cO_7, cL_7, cD_7, cz_8, cI_8, cO_8, cL_8, cD_8, List.mem_cons, or_true, true_or, and_self, sI_S, sL_S, sR_S, sD_S, gb_S, sI_R, sL_R, sD_R, gb_R, sI_L, sR_I, sR_L, sL_I, sD_I, sD_L, gb_I, gb_L, y_S42 hL f5, y_S11 hL, if_pos hle, i1, i2, e236, i10, if_pos n0, if_true, if_false, not_true_eq_false, not_false_eq_true, Bool.false_eq_true, Int32.or_zero, ne_eq, Bool.and_eq_true, decide_eq_true_eq, decide_true, decide_false, and_true, true_and, and_false, false_and, Bool.and_true, Bool.true_and, Bool.and_false, Bool.false_and, c1_It, c1_Ot, bI_T, bI_F, i10, i01]
    · rw [bI_f z] at e236
      rw [if_neg fun q => z q.1]
      simp only [v14_24, v14_25, v14_49, v14_50, v14_53, v14_56, v14_59, v14_60, v14_63, v14_66, v14_67, v14_70, v14_71, n_14, n_8, inB_of, Nat.reduceLT, Prod.mk.injEq, true_and, rB, rBn, rBa, rBb, rBc, rBd, Evk_v, Evk_n, Nat.reduceAdd, Nat.reduceLeDiff, Nat.le_refl, Nat.zero_le, cz_0, cz_1, cI_1, cO_1, cz_2, cI_2, cO_2, cL_2, cD_2, cz_3, cI_3, cO_3, cL_3, cD_3, cz_4, cI_4, cO_4, cL_4, cD_4, cz_5, cI_5, cO_5, cL_5, cD_5, cz_6, cI_6, cO_6, cL_6, cD_6, cz_7, cI_7, cO_7, cL_7, cD_7, cz_8, cI_8, cO_8, cL_8, cD_8, List.mem_cons, or_true, true_or, and_self, sI_S, sL_S, sR_S, sD_S, gb_S, sI_R, sL_R, sD_R, gb_R, sI_L, sR_I, sR_L, sL_I, sD_I, sD_L, gb_I, gb_L, y_S42 hL f5, y_S11 hL, if_pos hle, i1, i2, e236, if_true, if_false, not_true_eq_false, not_false_eq_true, Bool.false_eq_true, Int32.or_zero, ne_eq, Bool.and_eq_true, decide_eq_true_eq, decide_true, decide_false, and_true, true_and, and_false, false_and, Bool.and_true, Bool.true_and, Bool.and_false, Bool.false_and, c1_It, c1_Ot, bI_T, bI_F, i10, i01]
  | succ r hr =>
    intro i t h hi hL hS ih ok
    have hil : i < l := by omega
    have hnl : ¬ iN l ≤ iN i := nle hil (by omega)
    have hin : inB (iN i) 60 := inB_of (by omega) (by decide)
    have hto : (iN i).toNatClampNeg = i := n_i (by omega)
    obtain ⟨h1, e16, c1, q1⟩ := m16 (d := d) hL ih ok (hs i hil)
    have hL1 := Lay_cr hL c1
    have eS := hS i hil
    cases e : acc t (s i) with
    | none =>
      rw [rn_n e]
      rw [e, if_pos rfl] at e16
      refine ⟨h1, ?_, c1, fun t' e => by cases e⟩
      rw [v14_23]
      show (_ : Option (MO × Hp)) = some (.inl (some (vI (iN i))), h1)
      simp only [v14_24, v14_25, v14_28, v14_29, v14_30, v14_33, v14_34, v14_35, v14_38, v14_41, v14_42, v14_43, v14_46, n_14, n_8, inB_of, Nat.reduceLT, Prod.mk.injEq, true_and, rB, rBn, rBa, rBb, rBc, rBd, Evk_v, Evk_n, Nat.reduceAdd, Nat.reduceLeDiff, Nat.le_refl, Nat.zero_le, cz_0, cz_1, cI_1, cO_1, cz_2, cI_2, cO_2, cL_2, cD_2, cz_3, cI_3, cO_3, cL_3, cD_3, cz_4, cI_4, cO_4, cL_4, cD_4, cz_5, cI_5, cO_5, cL_5, cD_5, cz_6, cI_6, cO_6, cL_6, cD_6, cz_7, cI_7, cO_7, cL_7, cD_7, cz_8, cI_8, cO_8, cL_8, cD_8, List.mem_cons, or_true, true_or, and_self, sI_S, sL_S, sR_S, sD_S, gb_S, sI_R, sL_R, sD_R, gb_R, sI_L, sR_I, sR_L, sL_I, sD_I, sD_L, gb_I, gb_L, y_S11 hL, y_S12 hL, y_R11_0 hL, if_neg hnl, hin, hto, eS, e16, if_true, if_false, not_true_eq_false, not_false_eq_true, Bool.false_eq_true, Int32.or_zero, ne_eq, Bool.and_eq_true, decide_eq_true_eq, decide_true, decide_false, and_true, true_and, and_false, false_and, Bool.and_true, Bool.true_and, Bool.and_false, Bool.false_and, c1_It, c1_Ot, bI_T, bI_F, i10, i01]
    | some t1 =>
      rw [rn_s e]
      rw [e, if_neg (by simp)] at e16
      obtain ⟨h2, e2, c2, q2⟩ := hr (i + 1) t1 h1 (by omega) hL1 (fun j hj => by rw [c1.2.2.2.2.2.2.1 (12, 0, 0) (by simp) (by simp)]; exact hS j hj) (q1 t1 e) (IOK_acc ok e)
      refine ⟨h2, ?_, cr_t c1 c2, q2⟩
      refine Eq.trans ?_ e2
      rw [v14_23]
      simp only [v14_24, v14_25, v14_28, v14_29, v14_30, v14_33, v14_34, v14_35, v14_38, v14_41, v14_42, v14_43, v14_46, n_14, n_8, inB_of, Nat.reduceLT, Prod.mk.injEq, true_and, rB, rBn, rBa, rBb, rBc, rBd, Evk_v, Evk_n, Nat.reduceAdd, Nat.reduceLeDiff, Nat.le_refl, Nat.zero_le, cz_0, cz_1, cI_1, cO_1, cz_2, cI_2, cO_2, cL_2, cD_2, cz_3, cI_3, cO_3, cL_3, cD_3, cz_4, cI_4, cO_4, cL_4, cD_4, cz_5, cI_5, cO_5, cL_5, cD_5, cz_6, cI_6, cO_6, cL_6, cD_6, cz_7, cI_7, cO_7, cL_7, cD_7, cz_8, cI_8, cO_8, cL_8, cD_8, List.mem_cons, or_true, true_or, and_self, sI_S, sL_S, sR_S, sD_S, gb_S, sI_R, sL_R, sD_R, gb_R, sI_L, sR_I, sR_L, sL_I, sD_I, sD_L, gb_I, gb_L, y_S11 hL, y_S12 hL, y_R11_0 hL, if_neg hnl, hin, hto, eS, e16, i10, iN_s, if_true, if_false, not_true_eq_false, not_false_eq_true, Bool.false_eq_true, Int32.or_zero, ne_eq, Bool.and_eq_true, decide_eq_true_eq, decide_true, decide_false, and_true, true_and, and_false, false_and, Bool.and_true, Bool.true_and, Bool.and_false, Bool.false_and, c1_It, c1_Ot, bI_T, bI_F, i10, i01]
theorem m14 {s : Nat → Nat} {l : Nat} (hl : l ≤ 60) (hs : ∀ j, j < l → s j < 127) (hL : Lay L xs h) (e2 : gI h (11, 0, 0) 2 = iN l) (hS : ∀ j, j < l → gI h (12, 0, 0) j = iN (s j)) : ∃ h', Ev (d + 6) 14 0 [some (vR (11, 0, 0)), none, none] [] h = some (.inl (some (vI (rdC (rn s l (t00 (gI h (13, 0, 0))) 0)))), h') ∧ ChR (sI h (11, 0, 0) 2 0) h' ∧ (∀ t', (rn s l (t00 (gI h (13, 0, 0))) 0).2 = some t' → IH h' t' ∧ IOK t') := by
  have hL1 : Lay L xs (sI h (11, 0, 0) 2 0) := Lay_sI hL (by decide)
  have c2 : ChR (sI h (11, 0, 0) 2 0) (sR (sI (sI h (11, 0, 0) 2 0) (11, 0, 0) 3 0) (11, 0, 0) 4 (some (42, 0, 0))) := cr_t (cr_11 (by decide)) cr_R
  have hL2 := Lay_cr hL1 c2
  have ih : IH (sR (sI (sI h (11, 0, 0) 2 0) (11, 0, 0) 3 0) (11, 0, 0) 4 (some (42, 0, 0))) (t00 (gI h (13, 0, 0))) := by
    refine ⟨by rw [sR_Rx, if_pos ⟨rfl, rfl⟩]; rfl, ?_, fun z => absurd rfl z, fun j _ => ?_⟩
    · rw [sR_I, sI_I, if_pos ⟨rfl, rfl⟩]; rfl
    · rw [sR_I, sI_I, if_neg (by simp), sI_I, if_neg (by simp)]; rfl
  obtain ⟨h', e, c, q⟩ := m14l (d := d) hl hs l 0 _ _ (by omega) hL2 (fun j hj => by rw [sR_I, sI_I, if_neg (by simp), sI_I, if_neg (by simp)]; exact hS j hj) ih ok_00
  refine ⟨h', ?_, cr_t c2 c, q⟩
  refine Eq.trans ?_ e
  simp only [v14_0, v14_1, v14_4, v14_5, v14_6, v14_7, v14_10, v14_11, v14_12, v14_15, v14_16, v14_18, v14_21, v14_22, n_14, n_8, inB_of, Nat.reduceLT, Prod.mk.injEq, true_and, rB, rBn, rBa, rBb, rBc, rBd, Evk_v, Evk_n, Nat.reduceAdd, Nat.reduceLeDiff, Nat.le_refl, Nat.zero_le, cz_0, cz_1, cI_1, cO_1, cz_2, cI_2, cO_2, cL_2, cD_2, cz_3, cI_3, cO_3, cL_3, cD_3, cz_4, cI_4, cO_4, cL_4, cD_4, cz_5, cI_5, cO_5, cL_5, cD_5, cz_6, cI_6, cO_6, cL_6, cD_6, cz_7, cI_7, cO_7, cL_7, cD_7, cz_8, cI_8, cO_8, cL_8, cD_8, List.mem_cons, or_true, true_or, and_self, sI_S, sL_S, sR_S, sD_S, gb_S, sI_R, sL_R, sD_R, gb_R, sI_L, sR_I, sR_L, sL_I, sD_I, sD_L, gb_I, gb_L, y_S11 hL, e2]
  rfl
end R5
