/-! THE START: the constructors of persons, theses, plans -/

/-- k cells made, and none of the names behind is taken -/
def Sta (h : Hp) (k : Nat) : Prop := cnt h = k ∧ cu h = k ∧ ∀ j, k ≤ j → j < 393 → gS h (nm j) = (0, 0)
def Fra (A : A3 → Prop) (h h' : Hp) : Prop := ∀ a, ¬ A a → gS h' a = gS h a ∧ gR h' a = gR h a ∧ gI h' a = gI h a ∧ gL h' a = gL h a
def PrO (h : Hp) (p i : Nat) : Prop := gS h (3, p, i) = (1, 3) ∧ gS h (4, p, i) = (4, 51) ∧ gR h (3, p, i) 1 = some (4, p, i) ∧ gR h (6, p, 0) i = some (3, p, i) ∧ gI h (3, p, i) 0 = iN i ∧ (∀ m, m ≠ 0 → gI h (3, p, i) m = 0) ∧ ∀ m, gL h (4, p, i) m = 0
def ThO (h : Hp) (p j : Nat) : Prop := gS h (5, p, j) = (1, 5) ∧ gR h (7, p, 0) j = some (5, p, j) ∧ ∀ m, gI h (5, p, j) m = if m = 0 then iN j else if m = 4 ∨ m = 7 ∨ m = 8 ∨ m = 9 then -1 else 0
def PlO (h : Hp) (p : Nat) : Prop := gS h (2, p, 0) = (1, 4) ∧ gS h (6, p, 0) = (6, 14) ∧ gS h (7, p, 0) = (7, 8) ∧ gS h (8, p, 0) = (2, 8) ∧ gR h (2, p, 0) 0 = some (6, p, 0) ∧ gR h (2, p, 0) 1 = some (7, p, 0) ∧ gR h (2, p, 0) 2 = some (8, p, 0) ∧ (∀ m, gI h (2, p, 0) m = 0) ∧ (∀ i, i < 14 → PrO h p i) ∧ ∀ j, j < 8 → ThO h p j
theorem nm_6 : ∀ p, p < 9 → nm (nmB p + 1) = (6, p, 0) := by decide +kernel
theorem nm_3 : ∀ p, p < 9 → ∀ i, i < 14 → nm (nmB p + 2 + 2 * i) = (3, p, i) := by decide +kernel
theorem nm_4 : ∀ p, p < 9 → ∀ i, i < 14 → nm (nmB p + 2 + 2 * i + 1) = (4, p, i) := by decide +kernel
theorem nm_7 : ∀ p, p < 9 → nm (nmB p + 30) = (7, p, 0) := by decide +kernel
theorem nm_5 : ∀ p, p < 9 → ∀ j, j < 8 → nm (nmB p + 31 + j) = (5, p, j) := by decide +kernel
theorem nm_8a : ∀ p, p < 9 → nm (nmB p + 39) = (8, p, 0) := by decide +kernel
theorem nm_2 : ∀ p, p < 9 → nm (nmB p) = (2, p, 0) := by decide +kernel
theorem nmB_l : ∀ p, p < 9 → nmB p + 40 < 394 := by decide +kernel
section St1
variable {h h' h1 h2 : Hp} {A B : A3 → Prop} {d k p : Nat} {a b : A3}
theorem mk_Iw {q : Nat × Nat} {n j : Nat} : gI (mk h a q n) b j = if b = a then 0 else gI h b j := by
  by_cases z : b = a
  · rw [if_pos z, z]
    show fup h.2.1 a _ a j = 0
    simp [fup]
  · rw [if_neg z]; exact mk_I z j
theorem mk_Rw {q : Nat × Nat} {n j : Nat} : gR (mk h a q n) b j = if b = a then none else gR h b j := by
  by_cases z : b = a
  · rw [if_pos z, z]
    show fup h.2.2.2.1 a _ a j = none
    simp [fup]
  · rw [if_neg z]; exact mk_R z j
theorem mk_Lw {q : Nat × Nat} {n j : Nat} : gL (mk h a q n) b j = if b = a then 0 else gL h b j := by
  by_cases z : b = a
  · rw [if_pos z, z]
    show fup h.2.2.1 a _ a j = 0
    simp [fup]
  · rw [if_neg z]; exact mk_L z j
theorem cn_mk {q : Nat × Nat} {n : Nat} : cnt (mk h a q n) = cnt h + 1 := rfl
theorem cn_sI {m : Nat} {v : Int32} : cnt (sI h a m v) = cnt h := rfl
theorem cn_sR {m : Nat} {v : Option A3} : cnt (sR h a m v) = cnt h := rfl
theorem su_mk {q : Nat × Nat} {n : Nat} : su (mk h a q n) = su h + n := rfl
theorem su_sI {m : Nat} {v : Int32} : su (sI h a m v) = su h := rfl
theorem su_sR {m : Nat} {v : Option A3} : su (sR h a m v) = su h := rfl
theorem sta_F (s : Sta h k) (hk : k < 393) : Fresh h := ⟨s.2.1.trans s.1.symm, by rw [s.1]; exact hk, by rw [s.1]; exact s.2.2 k (Nat.le_refl _) hk⟩
theorem sta_mk {q : Nat × Nat} {n : Nat} (s : Sta h k) (hk : k < 393) (e : nm k = a) : Sta (mk h a q n) (k + 1) := by
  refine ⟨congrArg (· + 1) s.1, congrArg (· + 1) s.2.1, fun j h1 h2 => ?_⟩
  rw [mk_S, if_neg]
  · exact s.2.2 j (by omega) h2
  · rw [← e]
    intro z
    have := nm_inj h2 hk z
    omega
theorem sta_sI {m : Nat} {v : Int32} (s : Sta h k) : Sta (sI h a m v) k := s
theorem sta_sR {m : Nat} {v : Option A3} (s : Sta h k) : Sta (sR h a m v) k := s
theorem fra_r : Fra A h h := fun _ _ => ⟨rfl, rfl, rfl, rfl⟩
theorem fra_t (x : Fra A h h1) (y : Fra A h1 h2) : Fra A h h2 := fun a ha => by
  obtain ⟨x1, x2, x3, x4⟩ := x a ha
  obtain ⟨y1, y2, y3, y4⟩ := y a ha
  exact ⟨y1.trans x1, y2.trans x2, y3.trans x3, y4.trans x4⟩
theorem fra_m (hAB : ∀ a, A a → B a) (x : Fra A h h1) : Fra B h h1 := fun a ha => x a fun z => ha (hAB a z)
theorem fra_mk {q : Nat × Nat} {n : Nat} (hA : A a) : Fra A h (mk h a q n) := fun b hb => by
  have ne : b ≠ a := fun z => hb (by rw [z]; exact hA)
  refine ⟨by rw [mk_S, if_neg ne], funext fun j => mk_R ne j, funext fun j => mk_I ne j, funext fun j => mk_L ne j⟩
theorem fra_sI {m : Nat} {v : Int32} (hA : A a) : Fra A h (sI h a m v) := fun b hb => by
  have ne : b ≠ a := fun z => hb (by rw [z]; exact hA)
  exact ⟨rfl, rfl, funext fun j => by rw [sI_I, if_neg fun z => ne z.1], rfl⟩
theorem fra_sR {m : Nat} {v : Option A3} (hA : A a) : Fra A h (sR h a m v) := fun b hb => by
  have ne : b ≠ a := fun z => hb (by rw [z]; exact hA)
  exact ⟨rfl, funext fun j => by rw [sR_Rx, if_neg fun z => ne z.1], rfl, rfl⟩
/-- a person -/
theorem b20 (s : Sta h k) (hk : k < 393) (hS : gS h a = (1, 3)) {x : Int32} : Ev d 20 0 [some (vR a), some (vI x)] [] h = some (.inl none, sR (mk (sI h a 0 x) (nm k) (4, 51) 51) a 1 (some (nm k))) := by
  have ne : ¬ a = nm k := fun z => by
    have := s.2.2 k (Nat.le_refl _) hk
    rw [← z, hS] at this
    simp at this
  have hF : Fresh (sI h a 0 x) := sta_F (sta_sI s) hk
  have n51 : (51 : Int32).toNatClampNeg = 51 := rfl
  have c51 : (0 : Int32) ≤ 51 ∧ 51 ≤ 100000 := ⟨by decide, by decide⟩
  have ec : cnt h = k := s.1
  simp only [v20_0, v20_1, v20_4, v20_5, v20_6, v20_9, v20_10, v20_12, v20_14, v20_17, n_14, n_8, inB_of, Nat.reduceLT, Prod.mk.injEq, true_and, rB, rBn, rBa, rBb, rBc, rBd, Evk_v, Evk_n, Nat.reduceAdd, Nat.reduceLeDiff, Nat.le_refl, Nat.zero_le, cz_0, cz_1, cI_1, cO_1, cz_2, cI_2, cO_2, cL_2, cD_2, cz_3, cI_3, cO_3, cL_3, cD_3, cz_4, cI_4, cO_4, cL_4, cD_4, cz_5, cI_5, cO_5, cL_5, cD_5, cz_6, cI_6, cO_6, cL_6, cD_6, cz_7, cI_7, cO_7, cL_7, cD_7, cz_8, cI_8, cO_8, cL_8, cD_8, List.mem_cons, or_true, true_or, and_self, sI_S, sL_S, sR_S, sD_S, gb_S, sI_R, sL_R, sD_R, gb_R, sI_L, sR_I, sR_L, sL_I, sD_I, sD_L, gb_I, gb_L, hS, hF, n51, c51, cn_mk, cn_sI, cn_sR, su_mk, su_sI, su_sR, ec, mk_S, if_neg ne]
/-- a thesis -/
def thO (h : Hp) (a : A3) (x : Int32) : Hp := sI (sI (sI (sI (sI h a 0 x) a 4 (-1)) a 7 (-1)) a 8 (-1)) a 9 (-1)
theorem b73 (hS : gS h a = (1, 5)) {x : Int32} : Ev d 73 0 [some (vR a), some (vI x)] [] h = some (.inl none, thO h a x) := by
  simp only [v73_0, v73_1, v73_4, v73_5, v73_6, v73_9, v73_10, v73_11, v73_14, v73_15, v73_16, v73_19, v73_20, v73_21, v73_24, v73_25, v73_26, v73_29, n_14, n_8, inB_of, Nat.reduceLT, Prod.mk.injEq, true_and, rB, rBn, rBa, rBb, rBc, rBd, Evk_v, Evk_n, Nat.reduceAdd, Nat.reduceLeDiff, Nat.le_refl, Nat.zero_le, cz_0, cz_1, cI_1, cO_1, cz_2, cI_2, cO_2, cL_2, cD_2, cz_3, cI_3, cO_3, cL_3, cD_3, cz_4, cI_4, cO_4, cL_4, cD_4, cz_5, cI_5, cO_5, cL_5, cD_5, cz_6, cI_6, cO_6, cL_6, cD_6, cz_7, cI_7, cO_7, cL_7, cD_7, cz_8, cI_8, cO_8, cL_8, cD_8, List.mem_cons, or_true, true_or, and_self, sI_S, sL_S, sR_S, sD_S, gb_S, sI_R, sL_R, sD_R, gb_R, sI_L, sR_I, sR_L, sL_I, sD_I, sD_L, gb_I, gb_L, hS]
  rfl
theorem thO_I {x : Int32} (z : ∀ m, gI h a m = 0) {m : Nat} : gI (thO h a x) a m = if m = 0 then x else if m = 4 ∨ m = 7 ∨ m = 8 ∨ m = 9 then -1 else 0 := by
  unfold thO
  rw [sI_I, sI_I, sI_I, sI_I, sI_I, z m]
  by_cases m9 : m = 9
  · subst m9; simp
  by_cases m8 : m = 8
  · subst m8; simp
  by_cases m7 : m = 7
  · subst m7; simp
  by_cases m4 : m = 4
  · subst m4; simp
  by_cases m0 : m = 0
  · subst m0; simp
  · simp [m9, m8, m7, m4, m0]
theorem thO_n {x : Int32} (ne : b ≠ a) : gI (thO h a x) b = gI h b := by
  funext m
  unfold thO
  rw [sI_I, if_neg fun z => ne z.1, sI_I, if_neg fun z => ne z.1, sI_I, if_neg fun z => ne z.1, sI_I, if_neg fun z => ne z.1, sI_I, if_neg fun z => ne z.1]
theorem fra_th {x : Int32} (hA : A a) : Fra A h (thO h a x) := fra_t (fra_sI hA) (fra_t (fra_sI hA) (fra_t (fra_sI hA) (fra_t (fra_sI hA) (fra_sI hA))))
/-- the persons of a plan -/
theorem b30p (hp : p < 9) (s : Sta h (nmB p + 2)) (h2 : gS h (2, p, 0) = (1, 4)) (h6 : gS h (6, p, 0) = (6, 14)) (r0 : gR h (2, p, 0) 0 = some (6, p, 0)) (z2 : ∀ m, gI h (2, p, 0) m = 0) :
    ∃ h', Ev (d + 1) 30 15 [some (vR (2, p, 0)), some (vI 0)] [] h = Ev (d + 1) 30 44 [some (vR (2, p, 0)), some (vI (iN 14))] [] h' ∧ Sta h' (nmB p + 30) ∧ gS h' (2, p, 0) = (1, 4) ∧ gS h' (6, p, 0) = (6, 14) ∧ gR h' (2, p, 0) 0 = some (6, p, 0) ∧ (∀ m, gI h' (2, p, 0) m = 0) ∧ (∀ i, i < 14 → PrO h' p i) ∧ Fra (inP p) h h' ∧ su h' ≤ su h + 14 * 59 := by
  have hB := nmB_l p hp
  have in6 : inP p (6, p, 0) := ⟨rfl, Nat.le_of_ble_eq_true rfl, Nat.le_of_ble_eq_true rfl⟩
  have l6 : 2 ≤ 6 ∧ 6 ≤ 10 := ⟨by decide, by decide⟩
  have l14 : (Int32.ofNat 14) = 14 := rfl
  have lp := loopI (σ := LS3 × Hp) (E := fun s => Ev (d + 1) 30 15 s.1 [] s.2) (I := fun i s => s.1 = [some (vR (2, p, 0)), some (vI (iN i))] ∧ Sta s.2 (nmB p + 2 + 2 * i) ∧ gS s.2 (2, p, 0) = (1, 4) ∧ gS s.2 (6, p, 0) = (6, 14) ∧ gR s.2 (2, p, 0) 0 = some (6, p, 0) ∧ (∀ m, gI s.2 (2, p, 0) m = 0) ∧ (∀ j, j < i → PrO s.2 p j) ∧ Fra (inP p) h s.2 ∧ su s.2 ≤ su h + i * 59) (n := 14) (by
    rintro i hi ⟨ls, h1⟩ ⟨rfl, q1, q2, q3, q4, q5, q6, q7, q8⟩
    have q1 : Sta h1 (nmB p + 2 + 2 * i) := q1
    have q2 : gS h1 (2, p, 0) = (1, 4) := q2
    have q3 : gS h1 (6, p, 0) = (6, 14) := q3
    have q4 : gR h1 (2, p, 0) 0 = some (6, p, 0) := q4
    have q5 : ∀ m, gI h1 (2, p, 0) m = 0 := q5
    have q6 : ∀ j, j < i → PrO h1 p j := q6
    have q7 : Fra (inP p) h h1 := q7
    have q8 : su h1 ≤ su h + i * 59 := q8
    have e3 := nm_3 p hp i hi
    have e4 := nm_4 p hp i hi
    have ec : cnt h1 = nmB p + 2 + 2 * i := q1.1
    have hF1 : Fresh h1 := sta_F q1 (by omega)
    have s2 : Sta (mk h1 (3, p, i) (1, 3) 8) (nmB p + 2 + 2 * i + 1) := sta_mk q1 (by omega) e3
    have e20 := b20 (d := d) (x := iN i) s2 (by omega) (a := (3, p, i)) (by rw [mk_S, if_pos rfl])
    rw [e4] at e20
    have s3 : Sta (mk (sI (mk h1 (3, p, i) (1, 3) 8) (3, p, i) 0 (iN i)) (4, p, i) (4, 51) 51) (nmB p + 2 + 2 * i + 1 + 1) := sta_mk (sta_sI s2) (by omega) e4
    have hnl : ¬ (iN 14 ≤ iN i) := nle hi (by decide)
    have hin : inB (iN i) 14 := inB_of hi (by decide)
    have hto : (iN i).toNatClampNeg = i := n_i (by omega)
    have n6 : ¬ ((6 : Nat) = 3) := by decide
    refine ⟨(_, sR (sR (mk (sI (mk h1 (3, p, i) (1, 3) 8) (3, p, i) 0 (iN i)) (4, p, i) (4, 51) 51) (3, p, i) 1 (some (4, p, i))) (6, p, 0) i (some (3, p, i))), ⟨rfl, ?_, ?_, ?_, ?_, fun m => ?_, fun j hj => ?_, ?_, ?_⟩, ?_⟩
    · have := sta_sR (a := (6, p, 0)) (m := i) (v := some (3, p, i)) (sta_sR (a := (3, p, i)) (m := 1) (v := some (4, p, i)) s3)
      rwa [show nmB p + 2 + 2 * i + 1 + 1 = nmB p + 2 + 2 * (i + 1) by omega] at this
    · simp only [sR_S, sI_S, mk_S, sR_Rx, mk_Rw, sI_R, sI_I, sR_I, mk_Iw, sR_L, sI_L, mk_Lw, Prod.mk.injEq, Nat.reduceEqDiff, and_true, true_and, false_and, and_false, if_true, if_false, and_self, q2]
    · simp only [sR_S, sI_S, mk_S, sR_Rx, mk_Rw, sI_R, sI_I, sR_I, mk_Iw, sR_L, sI_L, mk_Lw, Prod.mk.injEq, Nat.reduceEqDiff, and_true, true_and, false_and, and_false, if_true, if_false, and_self, q3]
    · simp only [sR_S, sI_S, mk_S, sR_Rx, mk_Rw, sI_R, sI_I, sR_I, mk_Iw, sR_L, sI_L, mk_Lw, Prod.mk.injEq, Nat.reduceEqDiff, and_true, true_and, false_and, and_false, if_true, if_false, and_self, q4]
    · simp only [sR_S, sI_S, mk_S, sR_Rx, mk_Rw, sI_R, sI_I, sR_I, mk_Iw, sR_L, sI_L, mk_Lw, Prod.mk.injEq, Nat.reduceEqDiff, and_true, true_and, false_and, and_false, if_true, if_false, and_self, q5]
    · unfold PrO
      by_cases y : j = i
      · subst y
        refine ⟨by simp only [sR_S, sI_S, mk_S, sR_Rx, mk_Rw, sI_R, sI_I, sR_I, mk_Iw, sR_L, sI_L, mk_Lw, Prod.mk.injEq, Nat.reduceEqDiff, and_true, true_and, false_and, and_false, if_true, if_false, and_self], by simp only [sR_S, sI_S, mk_S, sR_Rx, mk_Rw, sI_R, sI_I, sR_I, mk_Iw, sR_L, sI_L, mk_Lw, Prod.mk.injEq, Nat.reduceEqDiff, and_true, true_and, false_and, and_false, if_true, if_false, and_self], by simp only [sR_S, sI_S, mk_S, sR_Rx, mk_Rw, sI_R, sI_I, sR_I, mk_Iw, sR_L, sI_L, mk_Lw, Prod.mk.injEq, Nat.reduceEqDiff, and_true, true_and, false_and, and_false, if_true, if_false, and_self], by simp only [sR_S, sI_S, mk_S, sR_Rx, mk_Rw, sI_R, sI_I, sR_I, mk_Iw, sR_L, sI_L, mk_Lw, Prod.mk.injEq, Nat.reduceEqDiff, and_true, true_and, false_and, and_false, if_true, if_false, and_self], by simp only [sR_S, sI_S, mk_S, sR_Rx, mk_Rw, sI_R, sI_I, sR_I, mk_Iw, sR_L, sI_L, mk_Lw, Prod.mk.injEq, Nat.reduceEqDiff, and_true, true_and, false_and, and_false, if_true, if_false, and_self], fun m hm => by simp only [sR_S, sI_S, mk_S, sR_Rx, mk_Rw, sI_R, sI_I, sR_I, mk_Iw, sR_L, sI_L, mk_Lw, Prod.mk.injEq, Nat.reduceEqDiff, and_true, true_and, false_and, and_false, if_true, if_false, and_self, hm], fun m => by simp only [sR_S, sI_S, mk_S, sR_Rx, mk_Rw, sI_R, sI_I, sR_I, mk_Iw, sR_L, sI_L, mk_Lw, Prod.mk.injEq, Nat.reduceEqDiff, and_true, true_and, false_and, and_false, if_true, if_false, and_self]⟩
      · obtain ⟨a1, a2, a3, a4, a5, a6, a7⟩ := q6 j (by omega)
        refine ⟨by simp only [sR_S, sI_S, mk_S, sR_Rx, mk_Rw, sI_R, sI_I, sR_I, mk_Iw, sR_L, sI_L, mk_Lw, Prod.mk.injEq, Nat.reduceEqDiff, and_true, true_and, false_and, and_false, if_true, if_false, and_self, y, a1], by simp only [sR_S, sI_S, mk_S, sR_Rx, mk_Rw, sI_R, sI_I, sR_I, mk_Iw, sR_L, sI_L, mk_Lw, Prod.mk.injEq, Nat.reduceEqDiff, and_true, true_and, false_and, and_false, if_true, if_false, and_self, y, a2], by simp only [sR_S, sI_S, mk_S, sR_Rx, mk_Rw, sI_R, sI_I, sR_I, mk_Iw, sR_L, sI_L, mk_Lw, Prod.mk.injEq, Nat.reduceEqDiff, and_true, true_and, false_and, and_false, if_true, if_false, and_self, y, a3], by simp only [sR_S, sI_S, mk_S, sR_Rx, mk_Rw, sI_R, sI_I, sR_I, mk_Iw, sR_L, sI_L, mk_Lw, Prod.mk.injEq, Nat.reduceEqDiff, and_true, true_and, false_and, and_false, if_true, if_false, and_self, y, a4], by simp only [sR_S, sI_S, mk_S, sR_Rx, mk_Rw, sI_R, sI_I, sR_I, mk_Iw, sR_L, sI_L, mk_Lw, Prod.mk.injEq, Nat.reduceEqDiff, and_true, true_and, false_and, and_false, if_true, if_false, and_self, y, a5], fun m hm => by simp only [sR_S, sI_S, mk_S, sR_Rx, mk_Rw, sI_R, sI_I, sR_I, mk_Iw, sR_L, sI_L, mk_Lw, Prod.mk.injEq, Nat.reduceEqDiff, and_true, true_and, false_and, and_false, if_true, if_false, and_self, y, a6 m hm], fun m => by simp only [sR_S, sI_S, mk_S, sR_Rx, mk_Rw, sI_R, sI_I, sR_I, mk_Iw, sR_L, sI_L, mk_Lw, Prod.mk.injEq, Nat.reduceEqDiff, and_true, true_and, false_and, and_false, if_true, if_false, and_self, y, a7]⟩
    · exact fra_t q7 (fra_t (fra_mk inP_3) (fra_t (fra_sI inP_3) (fra_t (fra_mk inP_4) (fra_t (fra_sR inP_3) (fra_sR in6)))))
    · simp only [cn_mk, cn_sI, cn_sR, su_mk, su_sI, su_sR]; omega
    · show Ev (d + 1) 30 15 _ [] h1 = Ev (d + 1) 30 15 _ [] _
      rw [v30_15]
      simp only [v30_16, v30_17, v30_20, v30_21, v30_24, v30_25, v30_28, v30_29, v30_32, v30_33, v30_34, v30_37, v30_38, v30_41, n_14, n_8, inB_of, Nat.reduceLT, Prod.mk.injEq, true_and, rB, rBn, rBa, rBb, rBc, rBd, Evk_v, Evk_n, Nat.reduceAdd, Nat.reduceLeDiff, Nat.le_refl, Nat.zero_le, cz_0, cz_1, cI_1, cO_1, cz_2, cI_2, cO_2, cL_2, cD_2, cz_3, cI_3, cO_3, cL_3, cD_3, cz_4, cI_4, cO_4, cL_4, cD_4, cz_5, cI_5, cO_5, cL_5, cD_5, cz_6, cI_6, cO_6, cL_6, cD_6, cz_7, cI_7, cO_7, cL_7, cD_7, cz_8, cI_8, cO_8, cL_8, cD_8, List.mem_cons, or_true, true_or, and_self, sI_S, sL_S, sR_S, sD_S, gb_S, sI_R, sL_R, sD_R, gb_R, sI_L, sR_I, sR_L, sL_I, sD_I, sD_L, gb_I, gb_L, q2, q3, q4, l6, if_neg hnl, hF1, ec, e3, mk_S, sR_S, sI_S, c1_Ot, if_true, n6, if_false, e20, elemC, hin, hto, iN_s, Prod.mk.injEq, Nat.reduceEqDiff, false_and, and_false])
  obtain ⟨⟨ls, h1⟩, ⟨rfl, q1, q2, q3, q4, q5, q6, q7, q8⟩, e⟩ := lp ([some (vR (2, p, 0)), some (vI (iN 0))], h) ⟨rfl, s, h2, h6, r0, z2, fun j hj => absurd hj (Nat.not_lt_zero j), fra_r, Nat.le_add_right _ _⟩
  have q2 : gS h1 (2, p, 0) = (1, 4) := q2
  have q3 : gS h1 (6, p, 0) = (6, 14) := q3
  have q4 : gR h1 (2, p, 0) 0 = some (6, p, 0) := q4
  refine ⟨h1, ?_, q1, q2, q3, q4, q5, q6, q7, q8⟩
  have e : Ev (d + 1) 30 15 [some (vR (2, p, 0)), some (vI 0)] [] h = Ev (d + 1) 30 15 [some (vR (2, p, 0)), some (vI (iN 14))] [] h1 := e
  refine Eq.trans e ?_
  rw [v30_15]
  simp only [v30_16, v30_17, v30_20, v30_21, n_14, n_8, inB_of, Nat.reduceLT, Prod.mk.injEq, true_and, rB, rBn, rBa, rBb, rBc, rBd, Evk_v, Evk_n, Nat.reduceAdd, Nat.reduceLeDiff, Nat.le_refl, Nat.zero_le, cz_0, cz_1, cI_1, cO_1, cz_2, cI_2, cO_2, cL_2, cD_2, cz_3, cI_3, cO_3, cL_3, cD_3, cz_4, cI_4, cO_4, cL_4, cD_4, cz_5, cI_5, cO_5, cL_5, cD_5, cz_6, cI_6, cO_6, cL_6, cD_6, cz_7, cI_7, cO_7, cL_7, cD_7, cz_8, cI_8, cO_8, cL_8, cD_8, List.mem_cons, or_true, true_or, and_self, sI_S, sL_S, sR_S, sD_S, gb_S, sI_R, sL_R, sD_R, gb_R, sI_L, sR_I, sR_L, sL_I, sD_I, sD_L, gb_I, gb_L, q2, q3, q4, l6, if_pos (show iN 14 ≤ iN 14 from Int32.le_refl _)]
/-- its theses -/
theorem b30t (hp : p < 9) (s : Sta h (nmB p + 31)) (h2 : gS h (2, p, 0) = (1, 4)) (h7 : gS h (7, p, 0) = (7, 8)) (r1 : gR h (2, p, 0) 1 = some (7, p, 0)) :
    ∃ h', Ev (d + 1) 30 55 [some (vR (2, p, 0)), some (vI 0)] [] h = Ev (d + 1) 30 84 [some (vR (2, p, 0)), some (vI (iN 8))] [] h' ∧ Sta h' (nmB p + 39) ∧ (∀ j, j < 8 → ThO h' p j) ∧ Fra (fun a => a = (7, p, 0) ∨ ∃ j, a = (5, p, j)) h h' ∧ gS h' (7, p, 0) = (7, 8) ∧ su h' ≤ su h + 8 * 20 := by
  have hB := nmB_l p hp
  have l7 : 2 ≤ 7 ∧ 7 ≤ 10 := ⟨by decide, by decide⟩
  have lp := loopI (σ := LS3 × Hp) (E := fun s => Ev (d + 1) 30 55 s.1 [] s.2) (I := fun i s => s.1 = [some (vR (2, p, 0)), some (vI (iN i))] ∧ Sta s.2 (nmB p + 31 + i) ∧ gS s.2 (7, p, 0) = (7, 8) ∧ (∀ j, j < i → ThO s.2 p j) ∧ Fra (fun a => a = (7, p, 0) ∨ ∃ j, a = (5, p, j)) h s.2 ∧ su s.2 ≤ su h + i * 20) (n := 8) (by
    rintro i hi ⟨ls, h1⟩ ⟨rfl, q1, q3, q6, q7, q8⟩
    have q1 : Sta h1 (nmB p + 31 + i) := q1
    have q3 : gS h1 (7, p, 0) = (7, 8) := q3
    have q6 : ∀ j, j < i → ThO h1 p j := q6
    have q7 : Fra (fun a => a = (7, p, 0) ∨ ∃ j, a = (5, p, j)) h h1 := q7
    have q8 : su h1 ≤ su h + i * 20 := q8
    obtain ⟨f1, f2, -, -⟩ := q7 (2, p, 0) (fun z => by rcases z with z | ⟨j, z⟩ <;> simp at z)
    have q2 : gS h1 (2, p, 0) = (1, 4) := f1.trans h2
    have q4 : gR h1 (2, p, 0) 1 = some (7, p, 0) := by rw [f2]; exact r1
    have e5 := nm_5 p hp i hi
    have ec : cnt h1 = nmB p + 31 + i := q1.1
    have hF1 : Fresh h1 := sta_F q1 (by omega)
    have hnl : ¬ (iN 8 ≤ iN i) := nle hi (by decide)
    have hin : inB (iN i) 8 := inB_of hi (by decide)
    have hto : (iN i).toNatClampNeg = i := n_i (by omega)
    have n6 : ¬ ((7 : Nat) = 6) := by decide
    have n5 : ¬ ((7 : Nat) = 5) := by decide
    obtain ⟨n, en⟩ : ∃ n, n ≤ 20 ∧ Ev (d + 1) 30 69 [some (vR (2, p, 0)), some (vI (iN i))] [vI (iN i), vR (7, p, 0)] h1 = Ev (d + 1) 30 72 [some (vR (2, p, 0)), some (vI (iN i))] [vR (5, p, i), vI (iN i), vR (7, p, 0)] (mk h1 (5, p, i) (1, 5) n) := ⟨10, Nat.le_of_ble_eq_true rfl, by simp only [v30_69, hF1, ec, e5]⟩
    obtain ⟨hn, en⟩ := en
    have e73 := b73 (d := d) (x := iN i) (h := mk h1 (5, p, i) (1, 5) n) (a := (5, p, i)) (by rw [mk_S, if_pos rfl])
    have gth : gS (thO (mk h1 (5, p, i) (1, 5) n) (5, p, i) (iN i)) = gS (mk h1 (5, p, i) (1, 5) n) := rfl
    have rth : gR (thO (mk h1 (5, p, i) (1, 5) n) (5, p, i) (iN i)) = gR (mk h1 (5, p, i) (1, 5) n) := rfl
    have s2 : Sta (mk h1 (5, p, i) (1, 5) n) (nmB p + 31 + i + 1) := sta_mk q1 (by omega) e5
    refine ⟨(_, sR (thO (mk h1 (5, p, i) (1, 5) n) (5, p, i) (iN i)) (7, p, 0) i (some (5, p, i))), ⟨rfl, s2, ?_, fun j hj => ?_, ?_, ?_⟩, ?_⟩
    · simp only [sR_S, gth, mk_S, Prod.mk.injEq, Nat.reduceEqDiff, false_and, if_false, q3]
    · unfold ThO
      by_cases y : j = i
      · subst y
        refine ⟨?_, ?_, fun m => ?_⟩
        · simp only [sR_S, gth, mk_S, if_true]
        · simp only [sR_Rx, and_self, if_true]
        · rw [sR_I]
          exact thO_I fun m => by rw [mk_Iw, if_pos rfl]
      · obtain ⟨a1, a2, a3⟩ := q6 j (by omega)
        have ne : ((5, p, j) : A3) ≠ (5, p, i) := by simp [y]
        refine ⟨?_, ?_, fun m => ?_⟩
        · simp only [sR_S, gth, mk_S, if_neg ne, a1]
        · simp only [sR_Rx, y, and_false, if_false, rth, mk_Rw, Prod.mk.injEq, Nat.reduceEqDiff, false_and, a2]
        · rw [sR_I, thO_n ne, mk_Iw, if_neg ne]; exact a3 m
    · exact fra_t q7 (fra_t (fra_mk (Or.inr ⟨i, rfl⟩)) (fra_t (fra_th (Or.inr ⟨i, rfl⟩)) (fra_sR (Or.inl rfl))))
    · show su h1 + n ≤ _
      omega
    · show Ev (d + 1) 30 55 _ [] h1 = Ev (d + 1) 30 55 _ [] _
      rw [v30_55]
      have a1 : Ev (d + 1) 30 56 [some (vR (2, p, 0)), some (vI (iN i))] [vI (iN i)] h1 = Ev (d + 1) 30 69 [some (vR (2, p, 0)), some (vI (iN i))] [vI (iN i), vR (7, p, 0)] h1 := by
        simp only [v30_56, v30_57, v30_60, v30_61, v30_64, v30_65, v30_68, n_14, n_8, inB_of, Nat.reduceLT, Prod.mk.injEq, true_and, rB, rBn, rBa, rBb, rBc, rBd, Evk_v, Evk_n, Nat.reduceAdd, Nat.reduceLeDiff, Nat.le_refl, Nat.zero_le, cz_0, cz_1, cI_1, cO_1, cz_2, cI_2, cO_2, cL_2, cD_2, cz_3, cI_3, cO_3, cL_3, cD_3, cz_4, cI_4, cO_4, cL_4, cD_4, cz_5, cI_5, cO_5, cL_5, cD_5, cz_6, cI_6, cO_6, cL_6, cD_6, cz_7, cI_7, cO_7, cL_7, cD_7, cz_8, cI_8, cO_8, cL_8, cD_8, List.mem_cons, or_true, true_or, and_self, sI_S, sL_S, sR_S, sD_S, gb_S, sI_R, sL_R, sD_R, gb_R, sI_L, sR_I, sR_L, sL_I, sD_I, sD_L, gb_I, gb_L, q2, q3, q4, l7, if_neg hnl]
      rw [a1, en]
      simp only [v30_72, v30_73, v30_74, v30_77, v30_78, v30_81, n_14, n_8, inB_of, Nat.reduceLT, Prod.mk.injEq, true_and, rB, rBn, rBa, rBb, rBc, rBd, Evk_v, Evk_n, Nat.reduceAdd, Nat.reduceLeDiff, Nat.le_refl, Nat.zero_le, cz_0, cz_1, cI_1, cO_1, cz_2, cI_2, cO_2, cL_2, cD_2, cz_3, cI_3, cO_3, cL_3, cD_3, cz_4, cI_4, cO_4, cL_4, cD_4, cz_5, cI_5, cO_5, cL_5, cD_5, cz_6, cI_6, cO_6, cL_6, cD_6, cz_7, cI_7, cO_7, cL_7, cD_7, cz_8, cI_8, cO_8, cL_8, cD_8, List.mem_cons, or_true, true_or, and_self, sI_S, sL_S, sR_S, sD_S, gb_S, sI_R, sL_R, sD_R, gb_R, sI_L, sR_I, sR_L, sL_I, sD_I, sD_L, gb_I, gb_L, c1_Ot, mk_S, if_true, e73, gth, Prod.mk.injEq, Nat.reduceEqDiff, false_and, and_false, if_false, q3, elemC, n6, n5, hin, hto, iN_s])
  obtain ⟨⟨ls, h1⟩, ⟨rfl, q1, q3, q6, q7, q8⟩, e⟩ := lp ([some (vR (2, p, 0)), some (vI (iN 0))], h) ⟨rfl, s, h7, fun j hj => absurd hj (Nat.not_lt_zero j), fra_r, Nat.le_add_right _ _⟩
  have q3 : gS h1 (7, p, 0) = (7, 8) := q3
  obtain ⟨f1, f2, -, -⟩ := q7 (2, p, 0) (fun z => by rcases z with z | ⟨j, z⟩ <;> simp at z)
  have q2 : gS h1 (2, p, 0) = (1, 4) := f1.trans h2
  have q4 : gR h1 (2, p, 0) 1 = some (7, p, 0) := by
    have f2 : gR h1 (2, p, 0) = gR h (2, p, 0) := f2
    rw [f2]; exact r1
  refine ⟨h1, ?_, q1, q6, q7, q3, q8⟩
  have e : Ev (d + 1) 30 55 [some (vR (2, p, 0)), some (vI 0)] [] h = Ev (d + 1) 30 55 [some (vR (2, p, 0)), some (vI (iN 8))] [] h1 := e
  refine Eq.trans e ?_
  rw [v30_55]
  simp only [v30_56, v30_57, v30_60, v30_61, n_14, n_8, inB_of, Nat.reduceLT, Prod.mk.injEq, true_and, rB, rBn, rBa, rBb, rBc, rBd, Evk_v, Evk_n, Nat.reduceAdd, Nat.reduceLeDiff, Nat.le_refl, Nat.zero_le, cz_0, cz_1, cI_1, cO_1, cz_2, cI_2, cO_2, cL_2, cD_2, cz_3, cI_3, cO_3, cL_3, cD_3, cz_4, cI_4, cO_4, cL_4, cD_4, cz_5, cI_5, cO_5, cL_5, cD_5, cz_6, cI_6, cO_6, cL_6, cD_6, cz_7, cI_7, cO_7, cL_7, cD_7, cz_8, cI_8, cO_8, cL_8, cD_8, List.mem_cons, or_true, true_or, and_self, sI_S, sL_S, sR_S, sD_S, gb_S, sI_R, sL_R, sD_R, gb_R, sI_L, sR_I, sR_L, sL_I, sD_I, sD_L, gb_I, gb_L, q2, q3, q4, l7, if_pos (show iN 8 ≤ iN 8 from Int32.le_refl _)]
end St1
