/-! THE MODEL'S ROWS: a plan kept in a row, and given back -/


def rsz (g : Nat) : Nat := if g = 19 then 9414 else 1569
def isRow (g : Nat) : Prop := g = 19 ∨ g = 20 ∨ g = 21
/-- the place of an array behind the last -/
def rwP (f : Nat) : Nat := rwO f + rwL f
theorem rw_ok : ∀ f, f < 16 → rwO f + rwL f ≤ 1564 ∧ (f < 15 → rwO (f + 1) = rwO f + rwL f) ∧ rwL f ≤ 1414 := by decide
theorem rw_15 : rwO 15 + rwL 15 = 1564 := by decide
section MHist
variable {L : Nat} {xs : Nat → Int32} {h h' h1 : Hp} {P : PL} {d : Nat}
theorem yM (hL : Lay L xs h) : ∀ f, f < 16 → gS h (21, f, 0) = (2, rwL f) := fun f hf => by
  have hc : f = 0 ∨ f = 1 ∨ f = 2 ∨ f = 3 ∨ f = 4 ∨ f = 5 ∨ f = 6 ∨ f = 7 ∨ f = 8 ∨ f = 9 ∨ f = 10 ∨ f = 11 ∨ f = 12 ∨ f = 13 ∨ f = 14 ∨ f = 15 := by omega
  rcases hc with rfl | rfl | rfl | rfl | rfl | rfl | rfl | rfl | rfl | rfl | rfl | rfl | rfl | rfl | rfl | rfl
  · exact y_M_rank hL
  · exact y_M_fields hL
  · exact y_M_home hL
  · exact y_M_limit hL
  · exact y_M_conflicts hL
  · exact y_M_busy hL
  · exact y_M_kind hL
  · exact y_M_field hL
  · exact y_M_department hL
  · exact y_M_supervisor hL
  · exact y_M_stage hL
  · exact y_M_members hL
  · exact y_M_room hL
  · exact y_M_dayOf hL
  · exact y_M_hourOf hL
  · exact y_M_line hL
theorem yG (hL : Lay L xs h) {g : Nat} (hg : isRow g) : gS h (21, g, 0) = (2, rsz g) := by
  rcases hg with rfl | rfl | rfl
  · exact y_M_earlier hL
  · exact y_M_saved hL
  · exact y_M_tried hL
def inG (g : Nat) (a : A3) : Prop := a = (21, g, 0) ∨ a = (20, 0, 0)
theorem inG_M {g : Nat} : ∀ a, inG g a → inM a := fun a z => by
  rcases z with rfl | rfl
  · exact Or.inr rfl
  · exact Or.inl rfl
/-- n ints of the row g from off on hold the model's state; f arrays are through when n is where the next begins -/
def KK (h : Hp) (g off : Nat) (h' : Hp) (n : Nat) : Prop := Chg (inG g) h h' ∧ (∀ m, m ≠ 34 → m ≠ 36 → gI h' (20, 0, 0) m = gI h (20, 0, 0) m) ∧ gI h' (20, 0, 0) 36 = 1 ∧ gI h' (20, 0, 0) 34 = iN (off + n) ∧ (∀ f, f < 16 → ∀ i, i < rwL f → rwO f + i < n → gI h' (21, g, 0) (off + rwO f + i) = gI h (21, f, 0) i) ∧ (∀ s, s < 5 → 1564 + s < n → gI h' (21, g, 0) (off + 1564 + s) = gI h (20, 0, 0) (scF s)) ∧ ∀ k, (k < off ∨ off + n ≤ k) → gI h' (21, g, 0) k = gI h (21, g, 0) k
theorem Lay_K {g off n : Nat} (hL : Lay L xs h) (k : KK h g off h' n) : Lay L xs h' := Lay_M hL (ch_m inG_M k.1)
theorem row_ne {g f : Nat} (hg : isRow g) (hf : f < 16) : ((21, f, 0) : A3) ≠ (21, g, 0) := fun z => by
  simp at z
  rcases hg with rfl | rfl | rfl <;> omega
theorem rw_inj : ∀ f, f < 16 → ∀ f', f' < 16 → ∀ i, i < rwL f → ∀ n, n = rwO f' → rwO f + i < n ∨ f' ≤ f := fun f hf f' hf' i hi n hn => by
  by_cases y : f' ≤ f
  · exact Or.inr y
  · left
    have : ∀ f, f < 16 → ∀ f', f' < 16 → f < f' → rwO f + rwL f ≤ rwO f' := by decide
    have := this f hf f' hf' (by omega)
    omega
theorem mvK (hL : Lay L xs h) {g off f : Nat} (hg : isRow g) (hf : f < 16) (ho : off + 1569 ≤ rsz g) (k : KK h g off h1 (rwO f)) : ∃ h', Ev d 226 0 [some (vR (20, 0, 0)), some (vR (21, f, 0)), some (vR (21, g, 0)), none] [] h1 = some (.inl none, h') ∧ KK h g off h' (rwO f + rwL f) := by
  have hrs : rsz g ≤ 9414 := by unfold rsz; split <;> omega
  have r1 := rw_ok f hf
  have ne := row_ne hg hf
  have lp := loopI (σ := LS3 × Hp) (E := fun s => Ev d 226 2 s.1 [] s.2) (I := fun m s => s.1 = [some (vR (20, 0, 0)), some (vR (21, f, 0)), some (vR (21, g, 0)), some (vI (iN m))] ∧ Chg (inG g) h s.2 ∧ (∀ m, m ≠ 34 → m ≠ 36 → gI s.2 (20, 0, 0) m = gI h (20, 0, 0) m) ∧ gI s.2 (20, 0, 0) 36 = 1 ∧ gI s.2 (20, 0, 0) 34 = iN (off + rwO f + m) ∧ ∀ t, gI s.2 (21, g, 0) t = if off + rwO f ≤ t ∧ t < off + rwO f + m then gI h (21, f, 0) (t - (off + rwO f)) else gI h1 (21, g, 0) t) (n := rwL f) (by
    rintro m hm ⟨ls, h2⟩ ⟨rfl, c, n1, n2, n3, hx⟩
    have hm31 : m < 2147483648 := by omega
    have hnl : ¬ (Int32.ofNat (rwL f) ≤ iN m) := nle hm (by omega)
    have hL2 := Lay_M hL (ch_m inG_M c)
    have q1 : inB (iN (off + rwO f + m)) (rsz g) := inB_of (by omega) (by omega)
    have q2 : (iN (off + rwO f + m)).toNatClampNeg = off + rwO f + m := n_i (by omega)
    have q3 : inB (iN m) (rwL f) := inB_of hm (by omega)
    have q4 : gI h2 (21, f, 0) m = gI h (21, f, 0) m := by
      rw [ch_I c (fun z => by rcases z with z | z
                              · exact ne z
                              · simp at z)]
    have i10 : ¬ (1 : Int32) = 0 := by decide
    refine ⟨(_, sI (sI h2 (21, g, 0) (off + rwO f + m) (gI h (21, f, 0) m)) (20, 0, 0) 34 (iN (off + rwO f + (m + 1)))), ⟨rfl, ch_t (ch_t c (ch_sI (Or.inl rfl))) (ch_sI (Or.inr rfl)), fun y h1 h3 => ?_, ?_, ?_, fun t => ?_⟩, ?_⟩
    · rw [sI_I, if_neg (fun z => h1 z.2), sI_I, if_neg (by simp)]; exact n1 y h1 h3
    · rw [sI_I, if_neg (by simp), sI_I, if_neg (by simp)]; exact n2
    · rw [sI_I, if_pos ⟨rfl, rfl⟩]
    · rw [sI_I, if_neg (by simp), sI_I]
      by_cases y : t = off + rwO f + m
      · subst y
        rw [if_pos ⟨rfl, rfl⟩, if_pos ⟨by omega, by omega⟩]
        congr 1; omega
      · rw [if_neg (fun z => y z.2), hx t]
        by_cases w : off + rwO f ≤ t ∧ t < off + rwO f + m
        · rw [if_pos w, if_pos ⟨w.1, by omega⟩]
        · rw [if_neg w, if_neg fun z => w ⟨z.1, by omega⟩]
    · show Ev d 226 2 _ [] h2 = Ev d 226 2 _ [] _
      rw [v226_2]
      simp only [v226_0, v226_1, v226_3, v226_4, v226_5, v226_8, v226_9, v226_12, v226_15, v226_16, v226_17, v226_20, v226_21, v226_22, v226_23, v226_24, v226_27, v226_28, v226_29, v226_30, v226_31, v226_34, v226_35, v226_36, v226_37, v226_38, v226_41, v226_42, v226_43, v226_46, v226_49, v226_52, n_14, n_8, inB_of, Nat.reduceLT, Prod.mk.injEq, true_and, rB, rBn, rBa, rBb, rBc, rBd, Evk_v, Evk_n, Nat.reduceAdd, Nat.reduceLeDiff, Nat.le_refl, Nat.zero_le, cz_0, cz_1, cI_1, cO_1, cz_2, cI_2, cO_2, cL_2, cD_2, cz_3, cI_3, cO_3, cL_3, cD_3, cz_4, cI_4, cO_4, cL_4, cD_4, cz_5, cI_5, cO_5, cL_5, cD_5, cz_6, cI_6, cO_6, cL_6, cD_6, cz_7, cI_7, cO_7, cL_7, cD_7, cz_8, cI_8, cO_8, cL_8, cD_8, List.mem_cons, or_true, true_or, and_self, sI_S, sL_S, sR_S, sD_S, gb_S, sI_R, sL_R, sD_R, gb_R, sI_L, sR_I, sR_L, sL_I, sD_I, sD_L, gb_I, gb_L, y_S20 hL2, yM hL2 f hf, yG hL2 hg, n2, n3, if_neg hnl, if_neg i10, q1, q2, q3, n_i hm31, q4, sI_I, Prod.mk.injEq, Nat.reduceEqDiff, false_and, and_false, if_false, iN_s, c1_It, c1_Ot, bI_T, bI_F, i10, i01]
      rfl)
  obtain ⟨c0, k1, k2, k3, k4, k5, k6⟩ := k
  obtain ⟨⟨ls, h2⟩, ⟨rfl, c, n1, n2, n3, hx⟩, e⟩ := lp (_, h1) ⟨rfl, c0, k1, k2, by rw [k3]; rfl, fun t => by rw [if_neg (by omega)]⟩
  have hL1 := Lay_M hL (ch_m inG_M c0)
  have hL2 := Lay_M hL (ch_m inG_M c)
  refine ⟨h2, ?_, c, n1, n2, by rw [n3, Nat.add_assoc], fun f' hf' i hi hn => ?_, fun s hs hn => ?_, fun t ht => ?_⟩
  · simp only [v226_0, v226_1, v226_3, v226_4, v226_5, v226_8, v226_9, v226_12, v226_15, v226_16, v226_17, v226_20, v226_21, v226_22, v226_23, v226_24, v226_27, v226_28, v226_29, v226_30, v226_31, v226_34, v226_35, v226_36, v226_37, v226_38, v226_41, v226_42, v226_43, v226_46, v226_49, v226_52, n_14, n_8, inB_of, Nat.reduceLT, Prod.mk.injEq, true_and, rB, rBn, rBa, rBb, rBc, rBd, Evk_v, Evk_n, Nat.reduceAdd, Nat.reduceLeDiff, Nat.le_refl, Nat.zero_le, cz_0, cz_1, cI_1, cO_1, cz_2, cI_2, cO_2, cL_2, cD_2, cz_3, cI_3, cO_3, cL_3, cD_3, cz_4, cI_4, cO_4, cL_4, cD_4, cz_5, cI_5, cO_5, cL_5, cD_5, cz_6, cI_6, cO_6, cL_6, cD_6, cz_7, cI_7, cO_7, cL_7, cD_7, cz_8, cI_8, cO_8, cL_8, cD_8, List.mem_cons, or_true, true_or, and_self, sI_S, sL_S, sR_S, sD_S, gb_S, sI_R, sL_R, sD_R, gb_R, sI_L, sR_I, sR_L, sL_I, sD_I, sD_L, gb_I, gb_L]
    refine Eq.trans e ?_
    show Ev d 226 2 _ [] h2 = _
    rw [v226_2]
    simp only [v226_0, v226_1, v226_3, v226_4, v226_5, v226_8, v226_9, v226_12, v226_15, v226_16, v226_17, v226_20, v226_21, v226_22, v226_23, v226_24, v226_27, v226_28, v226_29, v226_30, v226_31, v226_34, v226_35, v226_36, v226_37, v226_38, v226_41, v226_42, v226_43, v226_46, v226_49, v226_52, n_14, n_8, inB_of, Nat.reduceLT, Prod.mk.injEq, true_and, rB, rBn, rBa, rBb, rBc, rBd, Evk_v, Evk_n, Nat.reduceAdd, Nat.reduceLeDiff, Nat.le_refl, Nat.zero_le, cz_0, cz_1, cI_1, cO_1, cz_2, cI_2, cO_2, cL_2, cD_2, cz_3, cI_3, cO_3, cL_3, cD_3, cz_4, cI_4, cO_4, cL_4, cD_4, cz_5, cI_5, cO_5, cL_5, cD_5, cz_6, cI_6, cO_6, cL_6, cD_6, cz_7, cI_7, cO_7, cL_7, cD_7, cz_8, cI_8, cO_8, cL_8, cD_8, List.mem_cons, or_true, true_or, and_self, sI_S, sL_S, sR_S, sD_S, gb_S, sI_R, sL_R, sD_R, gb_R, sI_L, sR_I, sR_L, sL_I, sD_I, sD_L, gb_I, gb_L, yM hL2 f hf, if_pos (show Int32.ofNat (rwL f) ≤ iN (rwL f) from Int32.le_refl _)]
  · rw [hx]
    by_cases y : f' = f
    · subst y
      rw [if_pos ⟨by omega, by omega⟩]
      congr 1; omega
    · have : rwO f' + i < rwO f := by
        have q : ∀ f, f < 16 → ∀ f', f' < 16 → f' ≠ f → rwO f' + rwL f' ≤ rwO f ∨ rwO f + rwL f ≤ rwO f' := by decide
        rcases q f hf f' hf' y with q | q <;> omega
      rw [if_neg (by omega)]
      exact k4 f' hf' i hi this
  · omega
  · rw [hx, if_neg (by omega)]
    exact k6 t (by omega)

def inR (g : Nat) (a : A3) : Prop := a = (20, 0, 0) ∨ (∃ f, f < 16 ∧ a = (21, f, 0)) ∨ a = (21, g, 0)
theorem inR_M {g : Nat} : ∀ a, inR g a → inM a := fun a z => by
  rcases z with rfl | ⟨f, -, rfl⟩ | rfl
  · exact Or.inl rfl
  · exact Or.inr rfl
  · exact Or.inr rfl
def isSc (m : Nat) : Prop := m = 7 ∨ m = 8 ∨ m = 19 ∨ m = 20 ∨ m = 21
def RR (h : Hp) (g off : Nat) (h' : Hp) (n : Nat) : Prop := Chg (inR g) h h' ∧ (∀ m, m ≠ 34 → m ≠ 36 → ¬ isSc m → gI h' (20, 0, 0) m = gI h (20, 0, 0) m) ∧ gI h' (20, 0, 0) 36 = 0 ∧ gI h' (20, 0, 0) 34 = iN (off + n) ∧ (∀ f, f < 16 → ∀ i, i < rwL f → rwO f + i < n → gI h' (21, f, 0) i = gI h (21, g, 0) (off + rwO f + i)) ∧ (∀ s, s < 5 → 1564 + s < n → gI h' (20, 0, 0) (scF s) = gI h (21, g, 0) (off + 1564 + s)) ∧ gI h' (21, g, 0) = gI h (21, g, 0)
theorem Lay_R {g off n : Nat} (hL : Lay L xs h) (k : RR h g off h' n) : Lay L xs h' := Lay_M hL (ch_m inR_M k.1)
theorem mvR (hL : Lay L xs h) {g off f : Nat} (hg : isRow g) (hf : f < 16) (ho : off + 1569 ≤ rsz g) (k : RR h g off h1 (rwO f)) : ∃ h', Ev d 226 0 [some (vR (20, 0, 0)), some (vR (21, f, 0)), some (vR (21, g, 0)), none] [] h1 = some (.inl none, h') ∧ RR h g off h' (rwO f + rwL f) := by
  have hrs : rsz g ≤ 9414 := by unfold rsz; split <;> omega
  have r1 := rw_ok f hf
  have ne := row_ne hg hf
  obtain ⟨c0, k1, k2, k3, k4, k5, k6⟩ := k
  have lp := loopI (σ := LS3 × Hp) (E := fun s => Ev d 226 2 s.1 [] s.2) (I := fun m s => s.1 = [some (vR (20, 0, 0)), some (vR (21, f, 0)), some (vR (21, g, 0)), some (vI (iN m))] ∧ Chg (inR g) h s.2 ∧ (∀ m, m ≠ 34 → gI s.2 (20, 0, 0) m = gI h1 (20, 0, 0) m) ∧ gI s.2 (20, 0, 0) 34 = iN (off + rwO f + m) ∧ (∀ t, t < m → gI s.2 (21, f, 0) t = gI h (21, g, 0) (off + rwO f + t)) ∧ (∀ f', f' < 16 → f' ≠ f → gI s.2 (21, f', 0) = gI h1 (21, f', 0)) ∧ gI s.2 (21, g, 0) = gI h (21, g, 0)) (n := rwL f) (by
    rintro m hm ⟨ls, h2⟩ ⟨rfl, c, n1, n3, hx, hy, hz⟩
    have hm31 : m < 2147483648 := by omega
    have hnl : ¬ (Int32.ofNat (rwL f) ≤ iN m) := nle hm (by omega)
    have hL2 := Lay_M hL (ch_m inR_M c)
    have q1 : inB (iN (off + rwO f + m)) (rsz g) := inB_of (by omega) (by omega)
    have q2 : (iN (off + rwO f + m)).toNatClampNeg = off + rwO f + m := n_i (by omega)
    have q3 : inB (iN m) (rwL f) := inB_of hm (by omega)
    have n2 : gI h2 (20, 0, 0) 36 = 0 := by rw [n1 36 (by decide)]; exact k2
    refine ⟨(_, sI (sI h2 (21, f, 0) m (gI h (21, g, 0) (off + rwO f + m))) (20, 0, 0) 34 (iN (off + rwO f + (m + 1)))), ⟨rfl, ch_t (ch_t c (ch_sI (Or.inr (Or.inl ⟨f, hf, rfl⟩)))) (ch_sI (Or.inl rfl)), fun y h1 => ?_, ?_, fun t ht => ?_, fun f' hf' hne => ?_, ?_⟩, ?_⟩
    · rw [sI_I, if_neg (fun z => h1 z.2), sI_I, if_neg (by simp)]; exact n1 y h1
    · rw [sI_I, if_pos ⟨rfl, rfl⟩]
    · rw [sI_I, if_neg (by simp), sI_I]
      by_cases y : t = m
      · subst y; rw [if_pos ⟨rfl, rfl⟩]
      · rw [if_neg fun z => y z.2]; exact hx t (by omega)
    · funext t
      rw [sI_I, if_neg (by simp), sI_I, if_neg (fun z => hne (by have := z.1; simp at this; exact this)), hy f' hf' hne]
    · funext t
      rw [sI_I, if_neg (by simp), sI_I, if_neg (fun z => ne z.1.symm), hz]
    · show Ev d 226 2 _ [] h2 = Ev d 226 2 _ [] _
      rw [v226_2]
      simp only [v226_0, v226_1, v226_3, v226_4, v226_5, v226_8, v226_9, v226_12, v226_15, v226_16, v226_17, v226_20, v226_21, v226_22, v226_23, v226_24, v226_27, v226_28, v226_29, v226_30, v226_31, v226_34, v226_35, v226_36, v226_37, v226_38, v226_41, v226_42, v226_43, v226_46, v226_49, v226_52, n_14, n_8, inB_of, Nat.reduceLT, Prod.mk.injEq, true_and, rB, rBn, rBa, rBb, rBc, rBd, Evk_v, Evk_n, Nat.reduceAdd, Nat.reduceLeDiff, Nat.le_refl, Nat.zero_le, cz_0, cz_1, cI_1, cO_1, cz_2, cI_2, cO_2, cL_2, cD_2, cz_3, cI_3, cO_3, cL_3, cD_3, cz_4, cI_4, cO_4, cL_4, cD_4, cz_5, cI_5, cO_5, cL_5, cD_5, cz_6, cI_6, cO_6, cL_6, cD_6, cz_7, cI_7, cO_7, cL_7, cD_7, cz_8, cI_8, cO_8, cL_8, cD_8, List.mem_cons, or_true, true_or, and_self, sI_S, sL_S, sR_S, sD_S, gb_S, sI_R, sL_R, sD_R, gb_R, sI_L, sR_I, sR_L, sL_I, sD_I, sD_L, gb_I, gb_L, y_S20 hL2, yM hL2 f hf, yG hL2 hg, n2, n3, if_neg hnl, q1, q2, q3, n_i hm31, hz, if_pos (show (0 : Int32) = 0 from rfl), sI_I, Prod.mk.injEq, Nat.reduceEqDiff, false_and, and_false, if_false, iN_s, c1_It, c1_Ot, bI_T, bI_F, i10, i01]
      rfl)
  obtain ⟨⟨ls, h2⟩, ⟨rfl, c, n1, n3, hx, hy, hz⟩, e⟩ := lp (_, h1) ⟨rfl, c0, fun _ _ => rfl, by rw [k3]; rfl, fun t ht => absurd ht (Nat.not_lt_zero t), fun _ _ _ => rfl, k6⟩
  have hL2 := Lay_M hL (ch_m inR_M c)
  refine ⟨h2, ?_, c, fun m a b w => by rw [n1 m a]; exact k1 m a b w, by rw [n1 36 (by decide)]; exact k2, by rw [n3, Nat.add_assoc], fun f' hf' i hi hn => ?_, fun s hs hn => ?_, hz⟩
  · simp only [v226_0, v226_1, v226_3, v226_4, v226_5, v226_8, v226_9, v226_12, v226_15, v226_16, v226_17, v226_20, v226_21, v226_22, v226_23, v226_24, v226_27, v226_28, v226_29, v226_30, v226_31, v226_34, v226_35, v226_36, v226_37, v226_38, v226_41, v226_42, v226_43, v226_46, v226_49, v226_52, n_14, n_8, inB_of, Nat.reduceLT, Prod.mk.injEq, true_and, rB, rBn, rBa, rBb, rBc, rBd, Evk_v, Evk_n, Nat.reduceAdd, Nat.reduceLeDiff, Nat.le_refl, Nat.zero_le, cz_0, cz_1, cI_1, cO_1, cz_2, cI_2, cO_2, cL_2, cD_2, cz_3, cI_3, cO_3, cL_3, cD_3, cz_4, cI_4, cO_4, cL_4, cD_4, cz_5, cI_5, cO_5, cL_5, cD_5, cz_6, cI_6, cO_6, cL_6, cD_6, cz_7, cI_7, cO_7, cL_7, cD_7, cz_8, cI_8, cO_8, cL_8, cD_8, List.mem_cons, or_true, true_or, and_self, sI_S, sL_S, sR_S, sD_S, gb_S, sI_R, sL_R, sD_R, gb_R, sI_L, sR_I, sR_L, sL_I, sD_I, sD_L, gb_I, gb_L]
    refine Eq.trans e ?_
    show Ev d 226 2 _ [] h2 = _
    rw [v226_2]
    simp only [v226_0, v226_1, v226_3, v226_4, v226_5, v226_8, v226_9, v226_12, v226_15, v226_16, v226_17, v226_20, v226_21, v226_22, v226_23, v226_24, v226_27, v226_28, v226_29, v226_30, v226_31, v226_34, v226_35, v226_36, v226_37, v226_38, v226_41, v226_42, v226_43, v226_46, v226_49, v226_52, n_14, n_8, inB_of, Nat.reduceLT, Prod.mk.injEq, true_and, rB, rBn, rBa, rBb, rBc, rBd, Evk_v, Evk_n, Nat.reduceAdd, Nat.reduceLeDiff, Nat.le_refl, Nat.zero_le, cz_0, cz_1, cI_1, cO_1, cz_2, cI_2, cO_2, cL_2, cD_2, cz_3, cI_3, cO_3, cL_3, cD_3, cz_4, cI_4, cO_4, cL_4, cD_4, cz_5, cI_5, cO_5, cL_5, cD_5, cz_6, cI_6, cO_6, cL_6, cD_6, cz_7, cI_7, cO_7, cL_7, cD_7, cz_8, cI_8, cO_8, cL_8, cD_8, List.mem_cons, or_true, true_or, and_self, sI_S, sL_S, sR_S, sD_S, gb_S, sI_R, sL_R, sD_R, gb_R, sI_L, sR_I, sR_L, sL_I, sD_I, sD_L, gb_I, gb_L, yM hL2 f hf, if_pos (show Int32.ofNat (rwL f) ≤ iN (rwL f) from Int32.le_refl _)]
  · by_cases y : f' = f
    · subst y; exact hx i hi
    · have : rwO f' + i < rwO f := by
        have q : ∀ f, f < 16 → ∀ f', f' < 16 → f' ≠ f → rwO f' + rwL f' ≤ rwO f ∨ rwO f + rwL f ≤ rwO f' := by decide
        rcases q f hf f' hf' y with q | q <;> omega
      rw [hy f' hf' y]
      exact k4 f' hf' i hi this
  · omega
/-! one number kept, given back -/
theorem scF_ok : ∀ s, s < 5 → scF s ≠ 34 ∧ scF s ≠ 36 ∧ isSc (scF s) := by
  intro s hs
  have hc : s = 0 ∨ s = 1 ∨ s = 2 ∨ s = 3 ∨ s = 4 := by omega
  rcases hc with rfl | rfl | rfl | rfl | rfl <;> refine ⟨by decide, by decide, ?_⟩ <;> (unfold isSc; decide)
theorem scF_in : ∀ s, s < 5 → ∀ t, t < 5 → scF s = scF t → s = t := by decide
theorem scK (hL : Lay L xs h) {g off s : Nat} (hg : isRow g) (hs : s < 5) (ho : off + 1569 ≤ rsz g) (k : KK h g off h1 (1564 + s)) : ∃ h2, Ev d 227 0 [some (vR (20, 0, 0)), some (vI (gI h (20, 0, 0) (scF s))), some (vR (21, g, 0)), none] [] h1 = some (.inl (some (vI (gI h (20, 0, 0) (scF s)))), h2) ∧ gS h2 = gS h1 ∧ KK h g off (sI h2 (20, 0, 0) (scF s) (gI h (20, 0, 0) (scF s))) (1564 + s + 1) := by
  have hrs : rsz g ≤ 9414 := by unfold rsz; split <;> omega
  have hL1 := Lay_K hL k
  obtain ⟨c0, k1, k2, k3, k4, k5, k6⟩ := k
  have q1 : inB (iN (off + (1564 + s))) (rsz g) := inB_of (by omega) (by omega)
  have q2 : (iN (off + (1564 + s))).toNatClampNeg = off + (1564 + s) := n_i (by omega)
  have i10 : ¬ (1 : Int32) = 0 := by decide
  have so := scF_ok s hs
  refine ⟨sI (sI h1 (21, g, 0) (off + (1564 + s)) (gI h (20, 0, 0) (scF s))) (20, 0, 0) 34 (iN (off + (1564 + s + 1))), ?_, rfl, ch_t (ch_t (ch_t c0 (ch_sI (Or.inl rfl))) (ch_sI (Or.inr rfl))) (ch_sI (Or.inr rfl)), fun m h1 h3 => ?_, ?_, ?_, fun f' hf' i hi hn => ?_, fun t ht hn => ?_, fun t ht => ?_⟩
  · simp only [v227_0, v227_1, v227_4, v227_7, v227_8, v227_11, v227_12, v227_13, v227_16, v227_17, v227_18, v227_19, v227_20, v227_23, v227_24, v227_25, v227_26, v227_27, v227_30, v227_31, v227_32, v227_35, v227_36, n_14, n_8, inB_of, Nat.reduceLT, Prod.mk.injEq, true_and, rB, rBn, rBa, rBb, rBc, rBd, Evk_v, Evk_n, Nat.reduceAdd, Nat.reduceLeDiff, Nat.le_refl, Nat.zero_le, cz_0, cz_1, cI_1, cO_1, cz_2, cI_2, cO_2, cL_2, cD_2, cz_3, cI_3, cO_3, cL_3, cD_3, cz_4, cI_4, cO_4, cL_4, cD_4, cz_5, cI_5, cO_5, cL_5, cD_5, cz_6, cI_6, cO_6, cL_6, cD_6, cz_7, cI_7, cO_7, cL_7, cD_7, cz_8, cI_8, cO_8, cL_8, cD_8, List.mem_cons, or_true, true_or, and_self, sI_S, sL_S, sR_S, sD_S, gb_S, sI_R, sL_R, sD_R, gb_R, sI_L, sR_I, sR_L, sL_I, sD_I, sD_L, gb_I, gb_L, y_S20 hL1, yG hL1 hg, k2, k3, if_neg i10, q1, q2, sI_I, Prod.mk.injEq, Nat.reduceEqDiff, false_and, and_false, if_false, iN_s, c1_It, c1_Ot, bI_T, bI_F, i10, i01]
    rfl
  · rw [sI_I]
    by_cases y : m = scF s
    · subst y; rw [if_pos ⟨rfl, rfl⟩]
    · rw [if_neg fun z => y z.2, sI_I, if_neg (fun z => h1 z.2), sI_I, if_neg (by simp)]; exact k1 m h1 h3
  · rw [sI_I, if_neg (fun z => so.2.1 z.2.symm), sI_I, if_neg (by simp), sI_I, if_neg (by simp)]; exact k2
  · rw [sI_I, if_neg (fun z => so.1 z.2.symm), sI_I, if_pos ⟨rfl, rfl⟩]
  · have := rw_ok f' hf'
    rw [sI_I, if_neg (by simp), sI_I, if_neg (by simp), sI_I, if_neg (fun z => by have := z.2; omega)]
    exact k4 f' hf' i hi (by omega)
  · rw [sI_I, if_neg (by simp), sI_I, if_neg (by simp), sI_I]
    by_cases y : t = s
    · subst y; rw [if_pos ⟨rfl, by omega⟩]
    · rw [if_neg fun z => y (by have := z.2; omega)]
      exact k5 t ht (by omega)
  · rw [sI_I, if_neg (by simp), sI_I, if_neg (by simp), sI_I, if_neg (fun z => by have := z.2; omega)]
    exact k6 t (by omega)
theorem scR (hL : Lay L xs h) {g off s : Nat} (hg : isRow g) (hs : s < 5) (ho : off + 1569 ≤ rsz g) {v : Int32} (k : RR h g off h1 (1564 + s)) : ∃ h2, Ev d 227 0 [some (vR (20, 0, 0)), some (vI v), some (vR (21, g, 0)), none] [] h1 = some (.inl (some (vI (gI h (21, g, 0) (off + 1564 + s)))), h2) ∧ gS h2 = gS h1 ∧ RR h g off (sI h2 (20, 0, 0) (scF s) (gI h (21, g, 0) (off + 1564 + s))) (1564 + s + 1) := by
  have hrs : rsz g ≤ 9414 := by unfold rsz; split <;> omega
  have hL1 := Lay_R hL k
  obtain ⟨c0, k1, k2, k3, k4, k5, k6⟩ := k
  have q1 : inB (iN (off + (1564 + s))) (rsz g) := inB_of (by omega) (by omega)
  have q2 : (iN (off + (1564 + s))).toNatClampNeg = off + 1564 + s := by rw [n_i (by omega)]; omega
  have so := scF_ok s hs
  have gf : ∀ f, f < 16 → ((21, f, 0) : A3) ≠ (21, g, 0) := fun f hf => row_ne hg hf
  refine ⟨sI (sI h1 (21, g, 0) (off + 1564 + s) (gI h (21, g, 0) (off + 1564 + s))) (20, 0, 0) 34 (iN (off + (1564 + s + 1))), ?_, rfl, ch_t (ch_t (ch_t c0 (ch_sI (Or.inr (Or.inr rfl)))) (ch_sI (Or.inl rfl))) (ch_sI (Or.inl rfl)), fun m h1 h3 h4 => ?_, ?_, ?_, fun f' hf' i hi hn => ?_, fun t ht hn => ?_, ?_⟩
  · simp only [v227_0, v227_1, v227_4, v227_7, v227_8, v227_11, v227_12, v227_13, v227_16, v227_17, v227_18, v227_19, v227_20, v227_23, v227_24, v227_25, v227_26, v227_27, v227_30, v227_31, v227_32, v227_35, v227_36, n_14, n_8, inB_of, Nat.reduceLT, Prod.mk.injEq, true_and, rB, rBn, rBa, rBb, rBc, rBd, Evk_v, Evk_n, Nat.reduceAdd, Nat.reduceLeDiff, Nat.le_refl, Nat.zero_le, cz_0, cz_1, cI_1, cO_1, cz_2, cI_2, cO_2, cL_2, cD_2, cz_3, cI_3, cO_3, cL_3, cD_3, cz_4, cI_4, cO_4, cL_4, cD_4, cz_5, cI_5, cO_5, cL_5, cD_5, cz_6, cI_6, cO_6, cL_6, cD_6, cz_7, cI_7, cO_7, cL_7, cD_7, cz_8, cI_8, cO_8, cL_8, cD_8, List.mem_cons, or_true, true_or, and_self, sI_S, sL_S, sR_S, sD_S, gb_S, sI_R, sL_R, sD_R, gb_R, sI_L, sR_I, sR_L, sL_I, sD_I, sD_L, gb_I, gb_L, y_S20 hL1, yG hL1 hg, k2, k3, k6, if_pos (show (0 : Int32) = 0 from rfl), q1, q2, sI_I, Prod.mk.injEq, Nat.reduceEqDiff, false_and, and_false, if_false, iN_s, c1_It, c1_Ot, bI_T, bI_F, i10, i01]
    rfl
  · rw [sI_I, if_neg (fun z => h4 (by rw [z.2]; exact so.2.2)), sI_I, if_neg (fun z => h1 z.2), sI_I, if_neg (by simp)]; exact k1 m h1 h3 h4
  · rw [sI_I, if_neg (fun z => so.2.1 z.2.symm), sI_I, if_neg (by simp), sI_I, if_neg (by simp)]; exact k2
  · rw [sI_I, if_neg (fun z => so.1 z.2.symm), sI_I, if_pos ⟨rfl, rfl⟩]
  · have := rw_ok f' hf'
    rw [sI_I, if_neg (by simp), sI_I, if_neg (by simp), sI_I, if_neg (fun z => gf f' hf' z.1)]
    exact k4 f' hf' i hi (by omega)
  · rw [sI_I]
    by_cases y : t = s
    · subst y; rw [if_pos ⟨rfl, rfl⟩]
    · rw [if_neg fun z => y (scF_in t ht s hs z.2), sI_I, if_neg (fun z => (scF_ok t ht).1 z.2), sI_I, if_neg (by simp)]
      exact k5 t ht (by omega)
  · funext t
    rw [sI_I, if_neg (by simp), sI_I, if_neg (by simp), sI_I]
    by_cases y : t = off + 1564 + s
    · subst y; rw [if_pos ⟨rfl, rfl⟩]
    · rw [if_neg fun z => y z.2, k6]
theorem paK (hL : Lay L xs h) {g off : Nat} (hg : isRow g) (ho : off + 1569 ≤ rsz g) : ∃ h', Ev (d + 1) 228 0 [some (vR (20, 0, 0)), some (vR (21, g, 0)), some (vI (iN off)), some (vI 1)] [] h = some (.inl none, h') ∧ KK h g off h' 1569 := by
  have k0 : KK h g off (sI (sI h (20, 0, 0) 36 1) (20, 0, 0) 34 (iN off)) (rwO 0) := by
    refine ⟨ch_t (ch_sI (Or.inr rfl)) (ch_sI (Or.inr rfl)), fun m h1 h2 => ?_, ?_, ?_, fun f hf i hi hn => absurd hn (Nat.not_lt_zero _), fun s hs hn => absurd hn (Nat.not_lt_zero _), fun t ht => ?_⟩
    · rw [sI_I, if_neg (fun z => h1 z.2), sI_I, if_neg (fun z => h2 z.2)]
    · rw [sI_I, if_neg (by simp), sI_I, if_pos ⟨rfl, rfl⟩]
    · rw [sI_I, if_pos ⟨rfl, rfl⟩]; rfl
    · rw [sI_I, if_neg (by simp), sI_I, if_neg (by simp)]
  have s0 : Ev (d + 1) 228 0 [some (vR (20, 0, 0)), some (vR (21, g, 0)), some (vI (iN off)), some (vI 1)] [] h = Ev (d + 1) 228 10 [some (vR (20, 0, 0)), some (vR (21, g, 0)), some (vI (iN off)), some (vI 1)] [] (sI (sI h (20, 0, 0) 36 1) (20, 0, 0) 34 (iN off)) := by
    simp only [v228_0, v228_1, v228_2, v228_5, v228_6, v228_7, n_14, n_8, inB_of, Nat.reduceLT, Prod.mk.injEq, true_and, rB, rBn, rBa, rBb, rBc, rBd, Evk_v, Evk_n, Nat.reduceAdd, Nat.reduceLeDiff, Nat.le_refl, Nat.zero_le, cz_0, cz_1, cI_1, cO_1, cz_2, cI_2, cO_2, cL_2, cD_2, cz_3, cI_3, cO_3, cL_3, cD_3, cz_4, cI_4, cO_4, cL_4, cD_4, cz_5, cI_5, cO_5, cL_5, cD_5, cz_6, cI_6, cO_6, cL_6, cD_6, cz_7, cI_7, cO_7, cL_7, cD_7, cz_8, cI_8, cO_8, cL_8, cD_8, List.mem_cons, or_true, true_or, and_self, sI_S, sL_S, sR_S, sD_S, gb_S, sI_R, sL_R, sD_R, gb_R, sI_L, sR_I, sR_L, sL_I, sD_I, sD_L, gb_I, gb_L, y_S20 hL, c1_It, c1_Ot, bI_T, bI_F, i10, i01]
    done
  obtain ⟨h2, e1, k1⟩ := mvK (d := d) (f := 0) hL hg (by decide) ho k0
  have k1 : KK h g off h2 (rwO 1) := k1
  have t0 := Lay_K hL k0
  have s1 : Ev (d + 1) 228 10 [some (vR (20, 0, 0)), some (vR (21, g, 0)), some (vI (iN off)), some (vI 1)] [] (sI (sI h (20, 0, 0) 36 1) (20, 0, 0) 34 (iN off)) = Ev (d + 1) 228 19 [some (vR (20, 0, 0)), some (vR (21, g, 0)), some (vI (iN off)), some (vI 1)] [] h2 := by
    simp only [v228_10, v228_11, v228_12, v228_15, v228_16, n_14, n_8, inB_of, Nat.reduceLT, Prod.mk.injEq, true_and, rB, rBn, rBa, rBb, rBc, rBd, Evk_v, Evk_n, Nat.reduceAdd, Nat.reduceLeDiff, Nat.le_refl, Nat.zero_le, cz_0, cz_1, cI_1, cO_1, cz_2, cI_2, cO_2, cL_2, cD_2, cz_3, cI_3, cO_3, cL_3, cD_3, cz_4, cI_4, cO_4, cL_4, cD_4, cz_5, cI_5, cO_5, cL_5, cD_5, cz_6, cI_6, cO_6, cL_6, cD_6, cz_7, cI_7, cO_7, cL_7, cD_7, cz_8, cI_8, cO_8, cL_8, cD_8, List.mem_cons, or_true, true_or, and_self, sI_S, sL_S, sR_S, sD_S, gb_S, sI_R, sL_R, sD_R, gb_R, sI_L, sR_I, sR_L, sL_I, sD_I, sD_L, gb_I, gb_L, y_S20 t0, y_F_rank t0, e1]
  obtain ⟨h3, e2, k2⟩ := mvK (d := d) (f := 1) hL hg (by decide) ho k1
  have k2 : KK h g off h3 (rwO 2) := k2
  have t1 := Lay_K hL k1
  have s2 : Ev (d + 1) 228 19 [some (vR (20, 0, 0)), some (vR (21, g, 0)), some (vI (iN off)), some (vI 1)] [] h2 = Ev (d + 1) 228 28 [some (vR (20, 0, 0)), some (vR (21, g, 0)), some (vI (iN off)), some (vI 1)] [] h3 := by
    simp only [v228_19, v228_20, v228_21, v228_24, v228_25, n_14, n_8, inB_of, Nat.reduceLT, Prod.mk.injEq, true_and, rB, rBn, rBa, rBb, rBc, rBd, Evk_v, Evk_n, Nat.reduceAdd, Nat.reduceLeDiff, Nat.le_refl, Nat.zero_le, cz_0, cz_1, cI_1, cO_1, cz_2, cI_2, cO_2, cL_2, cD_2, cz_3, cI_3, cO_3, cL_3, cD_3, cz_4, cI_4, cO_4, cL_4, cD_4, cz_5, cI_5, cO_5, cL_5, cD_5, cz_6, cI_6, cO_6, cL_6, cD_6, cz_7, cI_7, cO_7, cL_7, cD_7, cz_8, cI_8, cO_8, cL_8, cD_8, List.mem_cons, or_true, true_or, and_self, sI_S, sL_S, sR_S, sD_S, gb_S, sI_R, sL_R, sD_R, gb_R, sI_L, sR_I, sR_L, sL_I, sD_I, sD_L, gb_I, gb_L, y_S20 t1, y_F_fields t1, e2]
  obtain ⟨h4, e3, k3⟩ := mvK (d := d) (f := 2) hL hg (by decide) ho k2
  have k3 : KK h g off h4 (rwO 3) := k3
  have t2 := Lay_K hL k2
  have s3 : Ev (d + 1) 228 28 [some (vR (20, 0, 0)), some (vR (21, g, 0)), some (vI (iN off)), some (vI 1)] [] h3 = Ev (d + 1) 228 37 [some (vR (20, 0, 0)), some (vR (21, g, 0)), some (vI (iN off)), some (vI 1)] [] h4 := by
    simp only [v228_28, v228_29, v228_30, v228_33, v228_34, n_14, n_8, inB_of, Nat.reduceLT, Prod.mk.injEq, true_and, rB, rBn, rBa, rBb, rBc, rBd, Evk_v, Evk_n, Nat.reduceAdd, Nat.reduceLeDiff, Nat.le_refl, Nat.zero_le, cz_0, cz_1, cI_1, cO_1, cz_2, cI_2, cO_2, cL_2, cD_2, cz_3, cI_3, cO_3, cL_3, cD_3, cz_4, cI_4, cO_4, cL_4, cD_4, cz_5, cI_5, cO_5, cL_5, cD_5, cz_6, cI_6, cO_6, cL_6, cD_6, cz_7, cI_7, cO_7, cL_7, cD_7, cz_8, cI_8, cO_8, cL_8, cD_8, List.mem_cons, or_true, true_or, and_self, sI_S, sL_S, sR_S, sD_S, gb_S, sI_R, sL_R, sD_R, gb_R, sI_L, sR_I, sR_L, sL_I, sD_I, sD_L, gb_I, gb_L, y_S20 t2, y_F_home t2, e3]
  obtain ⟨h5, e4, k4⟩ := mvK (d := d) (f := 3) hL hg (by decide) ho k3
  have k4 : KK h g off h5 (rwO 4) := k4
  have t3 := Lay_K hL k3
  have s4 : Ev (d + 1) 228 37 [some (vR (20, 0, 0)), some (vR (21, g, 0)), some (vI (iN off)), some (vI 1)] [] h4 = Ev (d + 1) 228 46 [some (vR (20, 0, 0)), some (vR (21, g, 0)), some (vI (iN off)), some (vI 1)] [] h5 := by
    simp only [v228_37, v228_38, v228_39, v228_42, v228_43, n_14, n_8, inB_of, Nat.reduceLT, Prod.mk.injEq, true_and, rB, rBn, rBa, rBb, rBc, rBd, Evk_v, Evk_n, Nat.reduceAdd, Nat.reduceLeDiff, Nat.le_refl, Nat.zero_le, cz_0, cz_1, cI_1, cO_1, cz_2, cI_2, cO_2, cL_2, cD_2, cz_3, cI_3, cO_3, cL_3, cD_3, cz_4, cI_4, cO_4, cL_4, cD_4, cz_5, cI_5, cO_5, cL_5, cD_5, cz_6, cI_6, cO_6, cL_6, cD_6, cz_7, cI_7, cO_7, cL_7, cD_7, cz_8, cI_8, cO_8, cL_8, cD_8, List.mem_cons, or_true, true_or, and_self, sI_S, sL_S, sR_S, sD_S, gb_S, sI_R, sL_R, sD_R, gb_R, sI_L, sR_I, sR_L, sL_I, sD_I, sD_L, gb_I, gb_L, y_S20 t3, y_F_limit t3, e4]
  obtain ⟨h6, e5, k5⟩ := mvK (d := d) (f := 4) hL hg (by decide) ho k4
  have k5 : KK h g off h6 (rwO 5) := k5
  have t4 := Lay_K hL k4
  have s5 : Ev (d + 1) 228 46 [some (vR (20, 0, 0)), some (vR (21, g, 0)), some (vI (iN off)), some (vI 1)] [] h5 = Ev (d + 1) 228 55 [some (vR (20, 0, 0)), some (vR (21, g, 0)), some (vI (iN off)), some (vI 1)] [] h6 := by
    simp only [v228_46, v228_47, v228_48, v228_51, v228_52, n_14, n_8, inB_of, Nat.reduceLT, Prod.mk.injEq, true_and, rB, rBn, rBa, rBb, rBc, rBd, Evk_v, Evk_n, Nat.reduceAdd, Nat.reduceLeDiff, Nat.le_refl, Nat.zero_le, cz_0, cz_1, cI_1, cO_1, cz_2, cI_2, cO_2, cL_2, cD_2, cz_3, cI_3, cO_3, cL_3, cD_3, cz_4, cI_4, cO_4, cL_4, cD_4, cz_5, cI_5, cO_5, cL_5, cD_5, cz_6, cI_6, cO_6, cL_6, cD_6, cz_7, cI_7, cO_7, cL_7, cD_7, cz_8, cI_8, cO_8, cL_8, cD_8, List.mem_cons, or_true, true_or, and_self, sI_S, sL_S, sR_S, sD_S, gb_S, sI_R, sL_R, sD_R, gb_R, sI_L, sR_I, sR_L, sL_I, sD_I, sD_L, gb_I, gb_L, y_S20 t4, y_F_conflicts t4, e5]
  obtain ⟨h7, e6, k6⟩ := mvK (d := d) (f := 5) hL hg (by decide) ho k5
  have k6 : KK h g off h7 (rwO 6) := k6
  have t5 := Lay_K hL k5
  have s6 : Ev (d + 1) 228 55 [some (vR (20, 0, 0)), some (vR (21, g, 0)), some (vI (iN off)), some (vI 1)] [] h6 = Ev (d + 1) 228 64 [some (vR (20, 0, 0)), some (vR (21, g, 0)), some (vI (iN off)), some (vI 1)] [] h7 := by
    simp only [v228_55, v228_56, v228_57, v228_60, v228_61, n_14, n_8, inB_of, Nat.reduceLT, Prod.mk.injEq, true_and, rB, rBn, rBa, rBb, rBc, rBd, Evk_v, Evk_n, Nat.reduceAdd, Nat.reduceLeDiff, Nat.le_refl, Nat.zero_le, cz_0, cz_1, cI_1, cO_1, cz_2, cI_2, cO_2, cL_2, cD_2, cz_3, cI_3, cO_3, cL_3, cD_3, cz_4, cI_4, cO_4, cL_4, cD_4, cz_5, cI_5, cO_5, cL_5, cD_5, cz_6, cI_6, cO_6, cL_6, cD_6, cz_7, cI_7, cO_7, cL_7, cD_7, cz_8, cI_8, cO_8, cL_8, cD_8, List.mem_cons, or_true, true_or, and_self, sI_S, sL_S, sR_S, sD_S, gb_S, sI_R, sL_R, sD_R, gb_R, sI_L, sR_I, sR_L, sL_I, sD_I, sD_L, gb_I, gb_L, y_S20 t5, y_F_busy t5, e6]
  obtain ⟨h8, e7, k7⟩ := mvK (d := d) (f := 6) hL hg (by decide) ho k6
  have k7 : KK h g off h8 (rwO 7) := k7
  have t6 := Lay_K hL k6
  have s7 : Ev (d + 1) 228 64 [some (vR (20, 0, 0)), some (vR (21, g, 0)), some (vI (iN off)), some (vI 1)] [] h7 = Ev (d + 1) 228 73 [some (vR (20, 0, 0)), some (vR (21, g, 0)), some (vI (iN off)), some (vI 1)] [] h8 := by
    simp only [v228_64, v228_65, v228_66, v228_69, v228_70, n_14, n_8, inB_of, Nat.reduceLT, Prod.mk.injEq, true_and, rB, rBn, rBa, rBb, rBc, rBd, Evk_v, Evk_n, Nat.reduceAdd, Nat.reduceLeDiff, Nat.le_refl, Nat.zero_le, cz_0, cz_1, cI_1, cO_1, cz_2, cI_2, cO_2, cL_2, cD_2, cz_3, cI_3, cO_3, cL_3, cD_3, cz_4, cI_4, cO_4, cL_4, cD_4, cz_5, cI_5, cO_5, cL_5, cD_5, cz_6, cI_6, cO_6, cL_6, cD_6, cz_7, cI_7, cO_7, cL_7, cD_7, cz_8, cI_8, cO_8, cL_8, cD_8, List.mem_cons, or_true, true_or, and_self, sI_S, sL_S, sR_S, sD_S, gb_S, sI_R, sL_R, sD_R, gb_R, sI_L, sR_I, sR_L, sL_I, sD_I, sD_L, gb_I, gb_L, y_S20 t6, y_F_kind t6, e7]
  obtain ⟨h9, e8, k8⟩ := mvK (d := d) (f := 7) hL hg (by decide) ho k7
  have k8 : KK h g off h9 (rwO 8) := k8
  have t7 := Lay_K hL k7
  have s8 : Ev (d + 1) 228 73 [some (vR (20, 0, 0)), some (vR (21, g, 0)), some (vI (iN off)), some (vI 1)] [] h8 = Ev (d + 1) 228 82 [some (vR (20, 0, 0)), some (vR (21, g, 0)), some (vI (iN off)), some (vI 1)] [] h9 := by
    simp only [v228_73, v228_74, v228_75, v228_78, v228_79, n_14, n_8, inB_of, Nat.reduceLT, Prod.mk.injEq, true_and, rB, rBn, rBa, rBb, rBc, rBd, Evk_v, Evk_n, Nat.reduceAdd, Nat.reduceLeDiff, Nat.le_refl, Nat.zero_le, cz_0, cz_1, cI_1, cO_1, cz_2, cI_2, cO_2, cL_2, cD_2, cz_3, cI_3, cO_3, cL_3, cD_3, cz_4, cI_4, cO_4, cL_4, cD_4, cz_5, cI_5, cO_5, cL_5, cD_5, cz_6, cI_6, cO_6, cL_6, cD_6, cz_7, cI_7, cO_7, cL_7, cD_7, cz_8, cI_8, cO_8, cL_8, cD_8, List.mem_cons, or_true, true_or, and_self, sI_S, sL_S, sR_S, sD_S, gb_S, sI_R, sL_R, sD_R, gb_R, sI_L, sR_I, sR_L, sL_I, sD_I, sD_L, gb_I, gb_L, y_S20 t7, y_F_field t7, e8]
  obtain ⟨h10, e9, k9⟩ := mvK (d := d) (f := 8) hL hg (by decide) ho k8
  have k9 : KK h g off h10 (rwO 9) := k9
  have t8 := Lay_K hL k8
  have s9 : Ev (d + 1) 228 82 [some (vR (20, 0, 0)), some (vR (21, g, 0)), some (vI (iN off)), some (vI 1)] [] h9 = Ev (d + 1) 228 91 [some (vR (20, 0, 0)), some (vR (21, g, 0)), some (vI (iN off)), some (vI 1)] [] h10 := by
    simp only [v228_82, v228_83, v228_84, v228_87, v228_88, n_14, n_8, inB_of, Nat.reduceLT, Prod.mk.injEq, true_and, rB, rBn, rBa, rBb, rBc, rBd, Evk_v, Evk_n, Nat.reduceAdd, Nat.reduceLeDiff, Nat.le_refl, Nat.zero_le, cz_0, cz_1, cI_1, cO_1, cz_2, cI_2, cO_2, cL_2, cD_2, cz_3, cI_3, cO_3, cL_3, cD_3, cz_4, cI_4, cO_4, cL_4, cD_4, cz_5, cI_5, cO_5, cL_5, cD_5, cz_6, cI_6, cO_6, cL_6, cD_6, cz_7, cI_7, cO_7, cL_7, cD_7, cz_8, cI_8, cO_8, cL_8, cD_8, List.mem_cons, or_true, true_or, and_self, sI_S, sL_S, sR_S, sD_S, gb_S, sI_R, sL_R, sD_R, gb_R, sI_L, sR_I, sR_L, sL_I, sD_I, sD_L, gb_I, gb_L, y_S20 t8, y_F_department t8, e9]
  obtain ⟨h11, e10, k10⟩ := mvK (d := d) (f := 9) hL hg (by decide) ho k9
  have k10 : KK h g off h11 (rwO 10) := k10
  have t9 := Lay_K hL k9
  have s10 : Ev (d + 1) 228 91 [some (vR (20, 0, 0)), some (vR (21, g, 0)), some (vI (iN off)), some (vI 1)] [] h10 = Ev (d + 1) 228 100 [some (vR (20, 0, 0)), some (vR (21, g, 0)), some (vI (iN off)), some (vI 1)] [] h11 := by
    simp only [v228_91, v228_92, v228_93, v228_96, v228_97, n_14, n_8, inB_of, Nat.reduceLT, Prod.mk.injEq, true_and, rB, rBn, rBa, rBb, rBc, rBd, Evk_v, Evk_n, Nat.reduceAdd, Nat.reduceLeDiff, Nat.le_refl, Nat.zero_le, cz_0, cz_1, cI_1, cO_1, cz_2, cI_2, cO_2, cL_2, cD_2, cz_3, cI_3, cO_3, cL_3, cD_3, cz_4, cI_4, cO_4, cL_4, cD_4, cz_5, cI_5, cO_5, cL_5, cD_5, cz_6, cI_6, cO_6, cL_6, cD_6, cz_7, cI_7, cO_7, cL_7, cD_7, cz_8, cI_8, cO_8, cL_8, cD_8, List.mem_cons, or_true, true_or, and_self, sI_S, sL_S, sR_S, sD_S, gb_S, sI_R, sL_R, sD_R, gb_R, sI_L, sR_I, sR_L, sL_I, sD_I, sD_L, gb_I, gb_L, y_S20 t9, y_F_supervisor t9, e10]
  obtain ⟨h12, e11, k11⟩ := mvK (d := d) (f := 10) hL hg (by decide) ho k10
  have k11 : KK h g off h12 (rwO 11) := k11
  have t10 := Lay_K hL k10
  have s11 : Ev (d + 1) 228 100 [some (vR (20, 0, 0)), some (vR (21, g, 0)), some (vI (iN off)), some (vI 1)] [] h11 = Ev (d + 1) 228 109 [some (vR (20, 0, 0)), some (vR (21, g, 0)), some (vI (iN off)), some (vI 1)] [] h12 := by
    simp only [v228_100, v228_101, v228_102, v228_105, v228_106, n_14, n_8, inB_of, Nat.reduceLT, Prod.mk.injEq, true_and, rB, rBn, rBa, rBb, rBc, rBd, Evk_v, Evk_n, Nat.reduceAdd, Nat.reduceLeDiff, Nat.le_refl, Nat.zero_le, cz_0, cz_1, cI_1, cO_1, cz_2, cI_2, cO_2, cL_2, cD_2, cz_3, cI_3, cO_3, cL_3, cD_3, cz_4, cI_4, cO_4, cL_4, cD_4, cz_5, cI_5, cO_5, cL_5, cD_5, cz_6, cI_6, cO_6, cL_6, cD_6, cz_7, cI_7, cO_7, cL_7, cD_7, cz_8, cI_8, cO_8, cL_8, cD_8, List.mem_cons, or_true, true_or, and_self, sI_S, sL_S, sR_S, sD_S, gb_S, sI_R, sL_R, sD_R, gb_R, sI_L, sR_I, sR_L, sL_I, sD_I, sD_L, gb_I, gb_L, y_S20 t10, y_F_stage t10, e11]
  obtain ⟨h13, e12, k12⟩ := mvK (d := d) (f := 11) hL hg (by decide) ho k11
  have k12 : KK h g off h13 (rwO 12) := k12
  have t11 := Lay_K hL k11
  have s12 : Ev (d + 1) 228 109 [some (vR (20, 0, 0)), some (vR (21, g, 0)), some (vI (iN off)), some (vI 1)] [] h12 = Ev (d + 1) 228 118 [some (vR (20, 0, 0)), some (vR (21, g, 0)), some (vI (iN off)), some (vI 1)] [] h13 := by
    simp only [v228_109, v228_110, v228_111, v228_114, v228_115, n_14, n_8, inB_of, Nat.reduceLT, Prod.mk.injEq, true_and, rB, rBn, rBa, rBb, rBc, rBd, Evk_v, Evk_n, Nat.reduceAdd, Nat.reduceLeDiff, Nat.le_refl, Nat.zero_le, cz_0, cz_1, cI_1, cO_1, cz_2, cI_2, cO_2, cL_2, cD_2, cz_3, cI_3, cO_3, cL_3, cD_3, cz_4, cI_4, cO_4, cL_4, cD_4, cz_5, cI_5, cO_5, cL_5, cD_5, cz_6, cI_6, cO_6, cL_6, cD_6, cz_7, cI_7, cO_7, cL_7, cD_7, cz_8, cI_8, cO_8, cL_8, cD_8, List.mem_cons, or_true, true_or, and_self, sI_S, sL_S, sR_S, sD_S, gb_S, sI_R, sL_R, sD_R, gb_R, sI_L, sR_I, sR_L, sL_I, sD_I, sD_L, gb_I, gb_L, y_S20 t11, y_F_members t11, e12]
  obtain ⟨h14, e13, k13⟩ := mvK (d := d) (f := 12) hL hg (by decide) ho k12
  have k13 : KK h g off h14 (rwO 13) := k13
  have t12 := Lay_K hL k12
  have s13 : Ev (d + 1) 228 118 [some (vR (20, 0, 0)), some (vR (21, g, 0)), some (vI (iN off)), some (vI 1)] [] h13 = Ev (d + 1) 228 127 [some (vR (20, 0, 0)), some (vR (21, g, 0)), some (vI (iN off)), some (vI 1)] [] h14 := by
    simp only [v228_118, v228_119, v228_120, v228_123, v228_124, n_14, n_8, inB_of, Nat.reduceLT, Prod.mk.injEq, true_and, rB, rBn, rBa, rBb, rBc, rBd, Evk_v, Evk_n, Nat.reduceAdd, Nat.reduceLeDiff, Nat.le_refl, Nat.zero_le, cz_0, cz_1, cI_1, cO_1, cz_2, cI_2, cO_2, cL_2, cD_2, cz_3, cI_3, cO_3, cL_3, cD_3, cz_4, cI_4, cO_4, cL_4, cD_4, cz_5, cI_5, cO_5, cL_5, cD_5, cz_6, cI_6, cO_6, cL_6, cD_6, cz_7, cI_7, cO_7, cL_7, cD_7, cz_8, cI_8, cO_8, cL_8, cD_8, List.mem_cons, or_true, true_or, and_self, sI_S, sL_S, sR_S, sD_S, gb_S, sI_R, sL_R, sD_R, gb_R, sI_L, sR_I, sR_L, sL_I, sD_I, sD_L, gb_I, gb_L, y_S20 t12, y_F_room t12, e13]
  obtain ⟨h15, e14, k14⟩ := mvK (d := d) (f := 13) hL hg (by decide) ho k13
  have k14 : KK h g off h15 (rwO 14) := k14
  have t13 := Lay_K hL k13
  have s14 : Ev (d + 1) 228 127 [some (vR (20, 0, 0)), some (vR (21, g, 0)), some (vI (iN off)), some (vI 1)] [] h14 = Ev (d + 1) 228 136 [some (vR (20, 0, 0)), some (vR (21, g, 0)), some (vI (iN off)), some (vI 1)] [] h15 := by
    simp only [v228_127, v228_128, v228_129, v228_132, v228_133, n_14, n_8, inB_of, Nat.reduceLT, Prod.mk.injEq, true_and, rB, rBn, rBa, rBb, rBc, rBd, Evk_v, Evk_n, Nat.reduceAdd, Nat.reduceLeDiff, Nat.le_refl, Nat.zero_le, cz_0, cz_1, cI_1, cO_1, cz_2, cI_2, cO_2, cL_2, cD_2, cz_3, cI_3, cO_3, cL_3, cD_3, cz_4, cI_4, cO_4, cL_4, cD_4, cz_5, cI_5, cO_5, cL_5, cD_5, cz_6, cI_6, cO_6, cL_6, cD_6, cz_7, cI_7, cO_7, cL_7, cD_7, cz_8, cI_8, cO_8, cL_8, cD_8, List.mem_cons, or_true, true_or, and_self, sI_S, sL_S, sR_S, sD_S, gb_S, sI_R, sL_R, sD_R, gb_R, sI_L, sR_I, sR_L, sL_I, sD_I, sD_L, gb_I, gb_L, y_S20 t13, y_F_dayOf t13, e14]
  obtain ⟨h16, e15, k15⟩ := mvK (d := d) (f := 14) hL hg (by decide) ho k14
  have k15 : KK h g off h16 (rwO 15) := k15
  have t14 := Lay_K hL k14
  have s15 : Ev (d + 1) 228 136 [some (vR (20, 0, 0)), some (vR (21, g, 0)), some (vI (iN off)), some (vI 1)] [] h15 = Ev (d + 1) 228 145 [some (vR (20, 0, 0)), some (vR (21, g, 0)), some (vI (iN off)), some (vI 1)] [] h16 := by
    simp only [v228_136, v228_137, v228_138, v228_141, v228_142, n_14, n_8, inB_of, Nat.reduceLT, Prod.mk.injEq, true_and, rB, rBn, rBa, rBb, rBc, rBd, Evk_v, Evk_n, Nat.reduceAdd, Nat.reduceLeDiff, Nat.le_refl, Nat.zero_le, cz_0, cz_1, cI_1, cO_1, cz_2, cI_2, cO_2, cL_2, cD_2, cz_3, cI_3, cO_3, cL_3, cD_3, cz_4, cI_4, cO_4, cL_4, cD_4, cz_5, cI_5, cO_5, cL_5, cD_5, cz_6, cI_6, cO_6, cL_6, cD_6, cz_7, cI_7, cO_7, cL_7, cD_7, cz_8, cI_8, cO_8, cL_8, cD_8, List.mem_cons, or_true, true_or, and_self, sI_S, sL_S, sR_S, sD_S, gb_S, sI_R, sL_R, sD_R, gb_R, sI_L, sR_I, sR_L, sL_I, sD_I, sD_L, gb_I, gb_L, y_S20 t14, y_F_hourOf t14, e15]
  obtain ⟨h17, e16, k16⟩ := mvK (d := d) (f := 15) hL hg (by decide) ho k15
  have k16 : KK h g off h17 (1564 + 0) := k16
  have t15 := Lay_K hL k15
  have s16 : Ev (d + 1) 228 145 [some (vR (20, 0, 0)), some (vR (21, g, 0)), some (vI (iN off)), some (vI 1)] [] h16 = Ev (d + 1) 228 154 [some (vR (20, 0, 0)), some (vR (21, g, 0)), some (vI (iN off)), some (vI 1)] [] h17 := by
    simp only [v228_145, v228_146, v228_147, v228_150, v228_151, n_14, n_8, inB_of, Nat.reduceLT, Prod.mk.injEq, true_and, rB, rBn, rBa, rBb, rBc, rBd, Evk_v, Evk_n, Nat.reduceAdd, Nat.reduceLeDiff, Nat.le_refl, Nat.zero_le, cz_0, cz_1, cI_1, cO_1, cz_2, cI_2, cO_2, cL_2, cD_2, cz_3, cI_3, cO_3, cL_3, cD_3, cz_4, cI_4, cO_4, cL_4, cD_4, cz_5, cI_5, cO_5, cL_5, cD_5, cz_6, cI_6, cO_6, cL_6, cD_6, cz_7, cI_7, cO_7, cL_7, cD_7, cz_8, cI_8, cO_8, cL_8, cD_8, List.mem_cons, or_true, true_or, and_self, sI_S, sL_S, sR_S, sD_S, gb_S, sI_R, sL_R, sD_R, gb_R, sI_L, sR_I, sR_L, sL_I, sD_I, sD_L, gb_I, gb_L, y_S20 t15, y_F_line t15, e16]
  have u0 := Lay_K hL k16
  obtain ⟨g0, f0, w0, q0⟩ := scK (d := d) (s := 0) hL hg (by decide) ho k16
  have z0 : gI h17 (20, 0, 0) 7 = gI h (20, 0, 0) (scF 0) := (k16).2.1 7 (by decide) (by decide)
  have v0 : Ev (d + 1) 228 154 [some (vR (20, 0, 0)), some (vR (21, g, 0)), some (vI (iN off)), some (vI 1)] [] h17 = Ev (d + 1) 228 167 [some (vR (20, 0, 0)), some (vR (21, g, 0)), some (vI (iN off)), some (vI 1)] [] (sI g0 (20, 0, 0) 7 (gI h (20, 0, 0) (scF 0))) := by
    have w : gS g0 (20, 0, 0) = (1, 7) := by rw [w0]; exact y_S20 u0
    simp only [v228_154, v228_155, v228_156, v228_157, v228_160, v228_161, v228_164, n_14, n_8, inB_of, Nat.reduceLT, Prod.mk.injEq, true_and, rB, rBn, rBa, rBb, rBc, rBd, Evk_v, Evk_n, Nat.reduceAdd, Nat.reduceLeDiff, Nat.le_refl, Nat.zero_le, cz_0, cz_1, cI_1, cO_1, cz_2, cI_2, cO_2, cL_2, cD_2, cz_3, cI_3, cO_3, cL_3, cD_3, cz_4, cI_4, cO_4, cL_4, cD_4, cz_5, cI_5, cO_5, cL_5, cD_5, cz_6, cI_6, cO_6, cL_6, cD_6, cz_7, cI_7, cO_7, cL_7, cD_7, cz_8, cI_8, cO_8, cL_8, cD_8, List.mem_cons, or_true, true_or, and_self, sI_S, sL_S, sR_S, sD_S, gb_S, sI_R, sL_R, sD_R, gb_R, sI_L, sR_I, sR_L, sL_I, sD_I, sD_L, gb_I, gb_L, y_S20 u0, z0, f0, w]
  have q0 : KK h g off (sI g0 (20, 0, 0) 7 (gI h (20, 0, 0) (scF 0))) (1564 + 1) := q0
  have u1 := Lay_K hL q0
  obtain ⟨g1, f1, w1, q1⟩ := scK (d := d) (s := 1) hL hg (by decide) ho q0
  have z1 : gI (sI g0 (20, 0, 0) 7 (gI h (20, 0, 0) (scF 0))) (20, 0, 0) 8 = gI h (20, 0, 0) (scF 1) := (q0).2.1 8 (by decide) (by decide)
  have v1 : Ev (d + 1) 228 167 [some (vR (20, 0, 0)), some (vR (21, g, 0)), some (vI (iN off)), some (vI 1)] [] (sI g0 (20, 0, 0) 7 (gI h (20, 0, 0) (scF 0))) = Ev (d + 1) 228 180 [some (vR (20, 0, 0)), some (vR (21, g, 0)), some (vI (iN off)), some (vI 1)] [] (sI g1 (20, 0, 0) 8 (gI h (20, 0, 0) (scF 1))) := by
    have w : gS g1 (20, 0, 0) = (1, 7) := by rw [w1]; exact y_S20 u1
    simp only [v228_167, v228_168, v228_169, v228_170, v228_173, v228_174, v228_177, n_14, n_8, inB_of, Nat.reduceLT, Prod.mk.injEq, true_and, rB, rBn, rBa, rBb, rBc, rBd, Evk_v, Evk_n, Nat.reduceAdd, Nat.reduceLeDiff, Nat.le_refl, Nat.zero_le, cz_0, cz_1, cI_1, cO_1, cz_2, cI_2, cO_2, cL_2, cD_2, cz_3, cI_3, cO_3, cL_3, cD_3, cz_4, cI_4, cO_4, cL_4, cD_4, cz_5, cI_5, cO_5, cL_5, cD_5, cz_6, cI_6, cO_6, cL_6, cD_6, cz_7, cI_7, cO_7, cL_7, cD_7, cz_8, cI_8, cO_8, cL_8, cD_8, List.mem_cons, or_true, true_or, and_self, sI_S, sL_S, sR_S, sD_S, gb_S, sI_R, sL_R, sD_R, gb_R, sI_L, sR_I, sR_L, sL_I, sD_I, sD_L, gb_I, gb_L, y_S20 u1, z1, f1, w]
  have q1 : KK h g off (sI g1 (20, 0, 0) 8 (gI h (20, 0, 0) (scF 1))) (1564 + 2) := q1
  have u2 := Lay_K hL q1
  obtain ⟨g2, f2, w2, q2⟩ := scK (d := d) (s := 2) hL hg (by decide) ho q1
  have z2 : gI (sI g1 (20, 0, 0) 8 (gI h (20, 0, 0) (scF 1))) (20, 0, 0) 19 = gI h (20, 0, 0) (scF 2) := (q1).2.1 19 (by decide) (by decide)
  have v2 : Ev (d + 1) 228 180 [some (vR (20, 0, 0)), some (vR (21, g, 0)), some (vI (iN off)), some (vI 1)] [] (sI g1 (20, 0, 0) 8 (gI h (20, 0, 0) (scF 1))) = Ev (d + 1) 228 193 [some (vR (20, 0, 0)), some (vR (21, g, 0)), some (vI (iN off)), some (vI 1)] [] (sI g2 (20, 0, 0) 19 (gI h (20, 0, 0) (scF 2))) := by
    have w : gS g2 (20, 0, 0) = (1, 7) := by rw [w2]; exact y_S20 u2
    simp only [v228_180, v228_181, v228_182, v228_183, v228_186, v228_187, v228_190, n_14, n_8, inB_of, Nat.reduceLT, Prod.mk.injEq, true_and, rB, rBn, rBa, rBb, rBc, rBd, Evk_v, Evk_n, Nat.reduceAdd, Nat.reduceLeDiff, Nat.le_refl, Nat.zero_le, cz_0, cz_1, cI_1, cO_1, cz_2, cI_2, cO_2, cL_2, cD_2, cz_3, cI_3, cO_3, cL_3, cD_3, cz_4, cI_4, cO_4, cL_4, cD_4, cz_5, cI_5, cO_5, cL_5, cD_5, cz_6, cI_6, cO_6, cL_6, cD_6, cz_7, cI_7, cO_7, cL_7, cD_7, cz_8, cI_8, cO_8, cL_8, cD_8, List.mem_cons, or_true, true_or, and_self, sI_S, sL_S, sR_S, sD_S, gb_S, sI_R, sL_R, sD_R, gb_R, sI_L, sR_I, sR_L, sL_I, sD_I, sD_L, gb_I, gb_L, y_S20 u2, z2, f2, w]
  have q2 : KK h g off (sI g2 (20, 0, 0) 19 (gI h (20, 0, 0) (scF 2))) (1564 + 3) := q2
  have u3 := Lay_K hL q2
  obtain ⟨g3, f3, w3, q3⟩ := scK (d := d) (s := 3) hL hg (by decide) ho q2
  have z3 : gI (sI g2 (20, 0, 0) 19 (gI h (20, 0, 0) (scF 2))) (20, 0, 0) 20 = gI h (20, 0, 0) (scF 3) := (q2).2.1 20 (by decide) (by decide)
  have v3 : Ev (d + 1) 228 193 [some (vR (20, 0, 0)), some (vR (21, g, 0)), some (vI (iN off)), some (vI 1)] [] (sI g2 (20, 0, 0) 19 (gI h (20, 0, 0) (scF 2))) = Ev (d + 1) 228 206 [some (vR (20, 0, 0)), some (vR (21, g, 0)), some (vI (iN off)), some (vI 1)] [] (sI g3 (20, 0, 0) 20 (gI h (20, 0, 0) (scF 3))) := by
    have w : gS g3 (20, 0, 0) = (1, 7) := by rw [w3]; exact y_S20 u3
    simp only [v228_193, v228_194, v228_195, v228_196, v228_199, v228_200, v228_203, n_14, n_8, inB_of, Nat.reduceLT, Prod.mk.injEq, true_and, rB, rBn, rBa, rBb, rBc, rBd, Evk_v, Evk_n, Nat.reduceAdd, Nat.reduceLeDiff, Nat.le_refl, Nat.zero_le, cz_0, cz_1, cI_1, cO_1, cz_2, cI_2, cO_2, cL_2, cD_2, cz_3, cI_3, cO_3, cL_3, cD_3, cz_4, cI_4, cO_4, cL_4, cD_4, cz_5, cI_5, cO_5, cL_5, cD_5, cz_6, cI_6, cO_6, cL_6, cD_6, cz_7, cI_7, cO_7, cL_7, cD_7, cz_8, cI_8, cO_8, cL_8, cD_8, List.mem_cons, or_true, true_or, and_self, sI_S, sL_S, sR_S, sD_S, gb_S, sI_R, sL_R, sD_R, gb_R, sI_L, sR_I, sR_L, sL_I, sD_I, sD_L, gb_I, gb_L, y_S20 u3, z3, f3, w]
  have q3 : KK h g off (sI g3 (20, 0, 0) 20 (gI h (20, 0, 0) (scF 3))) (1564 + 4) := q3
  have u4 := Lay_K hL q3
  obtain ⟨g4, f4, w4, q4⟩ := scK (d := d) (s := 4) hL hg (by decide) ho q3
  have z4 : gI (sI g3 (20, 0, 0) 20 (gI h (20, 0, 0) (scF 3))) (20, 0, 0) 21 = gI h (20, 0, 0) (scF 4) := (q3).2.1 21 (by decide) (by decide)
  have v4 : Ev (d + 1) 228 206 [some (vR (20, 0, 0)), some (vR (21, g, 0)), some (vI (iN off)), some (vI 1)] [] (sI g3 (20, 0, 0) 20 (gI h (20, 0, 0) (scF 3))) = Ev (d + 1) 228 219 [some (vR (20, 0, 0)), some (vR (21, g, 0)), some (vI (iN off)), some (vI 1)] [] (sI g4 (20, 0, 0) 21 (gI h (20, 0, 0) (scF 4))) := by
    have w : gS g4 (20, 0, 0) = (1, 7) := by rw [w4]; exact y_S20 u4
    simp only [v228_206, v228_207, v228_208, v228_209, v228_212, v228_213, v228_216, n_14, n_8, inB_of, Nat.reduceLT, Prod.mk.injEq, true_and, rB, rBn, rBa, rBb, rBc, rBd, Evk_v, Evk_n, Nat.reduceAdd, Nat.reduceLeDiff, Nat.le_refl, Nat.zero_le, cz_0, cz_1, cI_1, cO_1, cz_2, cI_2, cO_2, cL_2, cD_2, cz_3, cI_3, cO_3, cL_3, cD_3, cz_4, cI_4, cO_4, cL_4, cD_4, cz_5, cI_5, cO_5, cL_5, cD_5, cz_6, cI_6, cO_6, cL_6, cD_6, cz_7, cI_7, cO_7, cL_7, cD_7, cz_8, cI_8, cO_8, cL_8, cD_8, List.mem_cons, or_true, true_or, and_self, sI_S, sL_S, sR_S, sD_S, gb_S, sI_R, sL_R, sD_R, gb_R, sI_L, sR_I, sR_L, sL_I, sD_I, sD_L, gb_I, gb_L, y_S20 u4, z4, f4, w]
  have q4 : KK h g off (sI g4 (20, 0, 0) 21 (gI h (20, 0, 0) (scF 4))) (1564 + 5) := q4
  refine ⟨_, ?_, q4⟩
  rw [s0, s1, s2, s3, s4, s5, s6, s7, s8, s9, s10, s11, s12, s13, s14, s15, s16, v0, v1, v2, v3, v4, v228_219]

theorem paR (hL : Lay L xs h) {g off : Nat} (hg : isRow g) (ho : off + 1569 ≤ rsz g) : ∃ h', Ev (d + 1) 228 0 [some (vR (20, 0, 0)), some (vR (21, g, 0)), some (vI (iN off)), some (vI 0)] [] h = some (.inl none, h') ∧ RR h g off h' 1569 := by
  have k0 : RR h g off (sI (sI h (20, 0, 0) 36 0) (20, 0, 0) 34 (iN off)) (rwO 0) := by
    refine ⟨ch_t (ch_sI (Or.inl rfl)) (ch_sI (Or.inl rfl)), fun m h1 h2 _ => ?_, ?_, ?_, fun f hf i hi hn => absurd hn (Nat.not_lt_zero _), fun s hs hn => absurd hn (Nat.not_lt_zero _), ?_⟩
    · rw [sI_I, if_neg (fun z => h1 z.2), sI_I, if_neg (fun z => h2 z.2)]
    · rw [sI_I, if_neg (by simp), sI_I, if_pos ⟨rfl, rfl⟩]
    · rw [sI_I, if_pos ⟨rfl, rfl⟩]; rfl
    · funext t
      rw [sI_I, if_neg (by simp), sI_I, if_neg (by simp)]
  have s0 : Ev (d + 1) 228 0 [some (vR (20, 0, 0)), some (vR (21, g, 0)), some (vI (iN off)), some (vI 0)] [] h = Ev (d + 1) 228 10 [some (vR (20, 0, 0)), some (vR (21, g, 0)), some (vI (iN off)), some (vI 0)] [] (sI (sI h (20, 0, 0) 36 0) (20, 0, 0) 34 (iN off)) := by
    simp only [v228_0, v228_1, v228_2, v228_5, v228_6, v228_7, n_14, n_8, inB_of, Nat.reduceLT, Prod.mk.injEq, true_and, rB, rBn, rBa, rBb, rBc, rBd, Evk_v, Evk_n, Nat.reduceAdd, Nat.reduceLeDiff, Nat.le_refl, Nat.zero_le, cz_0, cz_1, cI_1, cO_1, cz_2, cI_2, cO_2, cL_2, cD_2, cz_3, cI_3, cO_3, cL_3, cD_3, cz_4, cI_4, cO_4, cL_4, cD_4, cz_5, cI_5, cO_5, cL_5, cD_5, cz_6, cI_6, cO_6, cL_6, cD_6, cz_7, cI_7, cO_7, cL_7, cD_7, cz_8, cI_8, cO_8, cL_8, cD_8, List.mem_cons, or_true, true_or, and_self, sI_S, sL_S, sR_S, sD_S, gb_S, sI_R, sL_R, sD_R, gb_R, sI_L, sR_I, sR_L, sL_I, sD_I, sD_L, gb_I, gb_L, y_S20 hL, c1_It, c1_Ot, bI_T, bI_F, i10, i01]
    done
  obtain ⟨h2, e1, k1⟩ := mvR (d := d) (f := 0) hL hg (by decide) ho k0
  have k1 : RR h g off h2 (rwO 1) := k1
  have t0 := Lay_R hL k0
  have s1 : Ev (d + 1) 228 10 [some (vR (20, 0, 0)), some (vR (21, g, 0)), some (vI (iN off)), some (vI 0)] [] (sI (sI h (20, 0, 0) 36 0) (20, 0, 0) 34 (iN off)) = Ev (d + 1) 228 19 [some (vR (20, 0, 0)), some (vR (21, g, 0)), some (vI (iN off)), some (vI 0)] [] h2 := by
    simp only [v228_10, v228_11, v228_12, v228_15, v228_16, n_14, n_8, inB_of, Nat.reduceLT, Prod.mk.injEq, true_and, rB, rBn, rBa, rBb, rBc, rBd, Evk_v, Evk_n, Nat.reduceAdd, Nat.reduceLeDiff, Nat.le_refl, Nat.zero_le, cz_0, cz_1, cI_1, cO_1, cz_2, cI_2, cO_2, cL_2, cD_2, cz_3, cI_3, cO_3, cL_3, cD_3, cz_4, cI_4, cO_4, cL_4, cD_4, cz_5, cI_5, cO_5, cL_5, cD_5, cz_6, cI_6, cO_6, cL_6, cD_6, cz_7, cI_7, cO_7, cL_7, cD_7, cz_8, cI_8, cO_8, cL_8, cD_8, List.mem_cons, or_true, true_or, and_self, sI_S, sL_S, sR_S, sD_S, gb_S, sI_R, sL_R, sD_R, gb_R, sI_L, sR_I, sR_L, sL_I, sD_I, sD_L, gb_I, gb_L, y_S20 t0, y_F_rank t0, e1]
  obtain ⟨h3, e2, k2⟩ := mvR (d := d) (f := 1) hL hg (by decide) ho k1
  have k2 : RR h g off h3 (rwO 2) := k2
  have t1 := Lay_R hL k1
  have s2 : Ev (d + 1) 228 19 [some (vR (20, 0, 0)), some (vR (21, g, 0)), some (vI (iN off)), some (vI 0)] [] h2 = Ev (d + 1) 228 28 [some (vR (20, 0, 0)), some (vR (21, g, 0)), some (vI (iN off)), some (vI 0)] [] h3 := by
    simp only [v228_19, v228_20, v228_21, v228_24, v228_25, n_14, n_8, inB_of, Nat.reduceLT, Prod.mk.injEq, true_and, rB, rBn, rBa, rBb, rBc, rBd, Evk_v, Evk_n, Nat.reduceAdd, Nat.reduceLeDiff, Nat.le_refl, Nat.zero_le, cz_0, cz_1, cI_1, cO_1, cz_2, cI_2, cO_2, cL_2, cD_2, cz_3, cI_3, cO_3, cL_3, cD_3, cz_4, cI_4, cO_4, cL_4, cD_4, cz_5, cI_5, cO_5, cL_5, cD_5, cz_6, cI_6, cO_6, cL_6, cD_6, cz_7, cI_7, cO_7, cL_7, cD_7, cz_8, cI_8, cO_8, cL_8, cD_8, List.mem_cons, or_true, true_or, and_self, sI_S, sL_S, sR_S, sD_S, gb_S, sI_R, sL_R, sD_R, gb_R, sI_L, sR_I, sR_L, sL_I, sD_I, sD_L, gb_I, gb_L, y_S20 t1, y_F_fields t1, e2]
  obtain ⟨h4, e3, k3⟩ := mvR (d := d) (f := 2) hL hg (by decide) ho k2
  have k3 : RR h g off h4 (rwO 3) := k3
  have t2 := Lay_R hL k2
  have s3 : Ev (d + 1) 228 28 [some (vR (20, 0, 0)), some (vR (21, g, 0)), some (vI (iN off)), some (vI 0)] [] h3 = Ev (d + 1) 228 37 [some (vR (20, 0, 0)), some (vR (21, g, 0)), some (vI (iN off)), some (vI 0)] [] h4 := by
    simp only [v228_28, v228_29, v228_30, v228_33, v228_34, n_14, n_8, inB_of, Nat.reduceLT, Prod.mk.injEq, true_and, rB, rBn, rBa, rBb, rBc, rBd, Evk_v, Evk_n, Nat.reduceAdd, Nat.reduceLeDiff, Nat.le_refl, Nat.zero_le, cz_0, cz_1, cI_1, cO_1, cz_2, cI_2, cO_2, cL_2, cD_2, cz_3, cI_3, cO_3, cL_3, cD_3, cz_4, cI_4, cO_4, cL_4, cD_4, cz_5, cI_5, cO_5, cL_5, cD_5, cz_6, cI_6, cO_6, cL_6, cD_6, cz_7, cI_7, cO_7, cL_7, cD_7, cz_8, cI_8, cO_8, cL_8, cD_8, List.mem_cons, or_true, true_or, and_self, sI_S, sL_S, sR_S, sD_S, gb_S, sI_R, sL_R, sD_R, gb_R, sI_L, sR_I, sR_L, sL_I, sD_I, sD_L, gb_I, gb_L, y_S20 t2, y_F_home t2, e3]
  obtain ⟨h5, e4, k4⟩ := mvR (d := d) (f := 3) hL hg (by decide) ho k3
  have k4 : RR h g off h5 (rwO 4) := k4
  have t3 := Lay_R hL k3
  have s4 : Ev (d + 1) 228 37 [some (vR (20, 0, 0)), some (vR (21, g, 0)), some (vI (iN off)), some (vI 0)] [] h4 = Ev (d + 1) 228 46 [some (vR (20, 0, 0)), some (vR (21, g, 0)), some (vI (iN off)), some (vI 0)] [] h5 := by
    simp only [v228_37, v228_38, v228_39, v228_42, v228_43, n_14, n_8, inB_of, Nat.reduceLT, Prod.mk.injEq, true_and, rB, rBn, rBa, rBb, rBc, rBd, Evk_v, Evk_n, Nat.reduceAdd, Nat.reduceLeDiff, Nat.le_refl, Nat.zero_le, cz_0, cz_1, cI_1, cO_1, cz_2, cI_2, cO_2, cL_2, cD_2, cz_3, cI_3, cO_3, cL_3, cD_3, cz_4, cI_4, cO_4, cL_4, cD_4, cz_5, cI_5, cO_5, cL_5, cD_5, cz_6, cI_6, cO_6, cL_6, cD_6, cz_7, cI_7, cO_7, cL_7, cD_7, cz_8, cI_8, cO_8, cL_8, cD_8, List.mem_cons, or_true, true_or, and_self, sI_S, sL_S, sR_S, sD_S, gb_S, sI_R, sL_R, sD_R, gb_R, sI_L, sR_I, sR_L, sL_I, sD_I, sD_L, gb_I, gb_L, y_S20 t3, y_F_limit t3, e4]
  obtain ⟨h6, e5, k5⟩ := mvR (d := d) (f := 4) hL hg (by decide) ho k4
  have k5 : RR h g off h6 (rwO 5) := k5
  have t4 := Lay_R hL k4
  have s5 : Ev (d + 1) 228 46 [some (vR (20, 0, 0)), some (vR (21, g, 0)), some (vI (iN off)), some (vI 0)] [] h5 = Ev (d + 1) 228 55 [some (vR (20, 0, 0)), some (vR (21, g, 0)), some (vI (iN off)), some (vI 0)] [] h6 := by
    simp only [v228_46, v228_47, v228_48, v228_51, v228_52, n_14, n_8, inB_of, Nat.reduceLT, Prod.mk.injEq, true_and, rB, rBn, rBa, rBb, rBc, rBd, Evk_v, Evk_n, Nat.reduceAdd, Nat.reduceLeDiff, Nat.le_refl, Nat.zero_le, cz_0, cz_1, cI_1, cO_1, cz_2, cI_2, cO_2, cL_2, cD_2, cz_3, cI_3, cO_3, cL_3, cD_3, cz_4, cI_4, cO_4, cL_4, cD_4, cz_5, cI_5, cO_5, cL_5, cD_5, cz_6, cI_6, cO_6, cL_6, cD_6, cz_7, cI_7, cO_7, cL_7, cD_7, cz_8, cI_8, cO_8, cL_8, cD_8, List.mem_cons, or_true, true_or, and_self, sI_S, sL_S, sR_S, sD_S, gb_S, sI_R, sL_R, sD_R, gb_R, sI_L, sR_I, sR_L, sL_I, sD_I, sD_L, gb_I, gb_L, y_S20 t4, y_F_conflicts t4, e5]
  obtain ⟨h7, e6, k6⟩ := mvR (d := d) (f := 5) hL hg (by decide) ho k5
  have k6 : RR h g off h7 (rwO 6) := k6
  have t5 := Lay_R hL k5
  have s6 : Ev (d + 1) 228 55 [some (vR (20, 0, 0)), some (vR (21, g, 0)), some (vI (iN off)), some (vI 0)] [] h6 = Ev (d + 1) 228 64 [some (vR (20, 0, 0)), some (vR (21, g, 0)), some (vI (iN off)), some (vI 0)] [] h7 := by
    simp only [v228_55, v228_56, v228_57, v228_60, v228_61, n_14, n_8, inB_of, Nat.reduceLT, Prod.mk.injEq, true_and, rB, rBn, rBa, rBb, rBc, rBd, Evk_v, Evk_n, Nat.reduceAdd, Nat.reduceLeDiff, Nat.le_refl, Nat.zero_le, cz_0, cz_1, cI_1, cO_1, cz_2, cI_2, cO_2, cL_2, cD_2, cz_3, cI_3, cO_3, cL_3, cD_3, cz_4, cI_4, cO_4, cL_4, cD_4, cz_5, cI_5, cO_5, cL_5, cD_5, cz_6, cI_6, cO_6, cL_6, cD_6, cz_7, cI_7, cO_7, cL_7, cD_7, cz_8, cI_8, cO_8, cL_8, cD_8, List.mem_cons, or_true, true_or, and_self, sI_S, sL_S, sR_S, sD_S, gb_S, sI_R, sL_R, sD_R, gb_R, sI_L, sR_I, sR_L, sL_I, sD_I, sD_L, gb_I, gb_L, y_S20 t5, y_F_busy t5, e6]
  obtain ⟨h8, e7, k7⟩ := mvR (d := d) (f := 6) hL hg (by decide) ho k6
  have k7 : RR h g off h8 (rwO 7) := k7
  have t6 := Lay_R hL k6
  have s7 : Ev (d + 1) 228 64 [some (vR (20, 0, 0)), some (vR (21, g, 0)), some (vI (iN off)), some (vI 0)] [] h7 = Ev (d + 1) 228 73 [some (vR (20, 0, 0)), some (vR (21, g, 0)), some (vI (iN off)), some (vI 0)] [] h8 := by
    simp only [v228_64, v228_65, v228_66, v228_69, v228_70, n_14, n_8, inB_of, Nat.reduceLT, Prod.mk.injEq, true_and, rB, rBn, rBa, rBb, rBc, rBd, Evk_v, Evk_n, Nat.reduceAdd, Nat.reduceLeDiff, Nat.le_refl, Nat.zero_le, cz_0, cz_1, cI_1, cO_1, cz_2, cI_2, cO_2, cL_2, cD_2, cz_3, cI_3, cO_3, cL_3, cD_3, cz_4, cI_4, cO_4, cL_4, cD_4, cz_5, cI_5, cO_5, cL_5, cD_5, cz_6, cI_6, cO_6, cL_6, cD_6, cz_7, cI_7, cO_7, cL_7, cD_7, cz_8, cI_8, cO_8, cL_8, cD_8, List.mem_cons, or_true, true_or, and_self, sI_S, sL_S, sR_S, sD_S, gb_S, sI_R, sL_R, sD_R, gb_R, sI_L, sR_I, sR_L, sL_I, sD_I, sD_L, gb_I, gb_L, y_S20 t6, y_F_kind t6, e7]
  obtain ⟨h9, e8, k8⟩ := mvR (d := d) (f := 7) hL hg (by decide) ho k7
  have k8 : RR h g off h9 (rwO 8) := k8
  have t7 := Lay_R hL k7
  have s8 : Ev (d + 1) 228 73 [some (vR (20, 0, 0)), some (vR (21, g, 0)), some (vI (iN off)), some (vI 0)] [] h8 = Ev (d + 1) 228 82 [some (vR (20, 0, 0)), some (vR (21, g, 0)), some (vI (iN off)), some (vI 0)] [] h9 := by
    simp only [v228_73, v228_74, v228_75, v228_78, v228_79, n_14, n_8, inB_of, Nat.reduceLT, Prod.mk.injEq, true_and, rB, rBn, rBa, rBb, rBc, rBd, Evk_v, Evk_n, Nat.reduceAdd, Nat.reduceLeDiff, Nat.le_refl, Nat.zero_le, cz_0, cz_1, cI_1, cO_1, cz_2, cI_2, cO_2, cL_2, cD_2, cz_3, cI_3, cO_3, cL_3, cD_3, cz_4, cI_4, cO_4, cL_4, cD_4, cz_5, cI_5, cO_5, cL_5, cD_5, cz_6, cI_6, cO_6, cL_6, cD_6, cz_7, cI_7, cO_7, cL_7, cD_7, cz_8, cI_8, cO_8, cL_8, cD_8, List.mem_cons, or_true, true_or, and_self, sI_S, sL_S, sR_S, sD_S, gb_S, sI_R, sL_R, sD_R, gb_R, sI_L, sR_I, sR_L, sL_I, sD_I, sD_L, gb_I, gb_L, y_S20 t7, y_F_field t7, e8]
  obtain ⟨h10, e9, k9⟩ := mvR (d := d) (f := 8) hL hg (by decide) ho k8
  have k9 : RR h g off h10 (rwO 9) := k9
  have t8 := Lay_R hL k8
  have s9 : Ev (d + 1) 228 82 [some (vR (20, 0, 0)), some (vR (21, g, 0)), some (vI (iN off)), some (vI 0)] [] h9 = Ev (d + 1) 228 91 [some (vR (20, 0, 0)), some (vR (21, g, 0)), some (vI (iN off)), some (vI 0)] [] h10 := by
    simp only [v228_82, v228_83, v228_84, v228_87, v228_88, n_14, n_8, inB_of, Nat.reduceLT, Prod.mk.injEq, true_and, rB, rBn, rBa, rBb, rBc, rBd, Evk_v, Evk_n, Nat.reduceAdd, Nat.reduceLeDiff, Nat.le_refl, Nat.zero_le, cz_0, cz_1, cI_1, cO_1, cz_2, cI_2, cO_2, cL_2, cD_2, cz_3, cI_3, cO_3, cL_3, cD_3, cz_4, cI_4, cO_4, cL_4, cD_4, cz_5, cI_5, cO_5, cL_5, cD_5, cz_6, cI_6, cO_6, cL_6, cD_6, cz_7, cI_7, cO_7, cL_7, cD_7, cz_8, cI_8, cO_8, cL_8, cD_8, List.mem_cons, or_true, true_or, and_self, sI_S, sL_S, sR_S, sD_S, gb_S, sI_R, sL_R, sD_R, gb_R, sI_L, sR_I, sR_L, sL_I, sD_I, sD_L, gb_I, gb_L, y_S20 t8, y_F_department t8, e9]
  obtain ⟨h11, e10, k10⟩ := mvR (d := d) (f := 9) hL hg (by decide) ho k9
  have k10 : RR h g off h11 (rwO 10) := k10
  have t9 := Lay_R hL k9
  have s10 : Ev (d + 1) 228 91 [some (vR (20, 0, 0)), some (vR (21, g, 0)), some (vI (iN off)), some (vI 0)] [] h10 = Ev (d + 1) 228 100 [some (vR (20, 0, 0)), some (vR (21, g, 0)), some (vI (iN off)), some (vI 0)] [] h11 := by
    simp only [v228_91, v228_92, v228_93, v228_96, v228_97, n_14, n_8, inB_of, Nat.reduceLT, Prod.mk.injEq, true_and, rB, rBn, rBa, rBb, rBc, rBd, Evk_v, Evk_n, Nat.reduceAdd, Nat.reduceLeDiff, Nat.le_refl, Nat.zero_le, cz_0, cz_1, cI_1, cO_1, cz_2, cI_2, cO_2, cL_2, cD_2, cz_3, cI_3, cO_3, cL_3, cD_3, cz_4, cI_4, cO_4, cL_4, cD_4, cz_5, cI_5, cO_5, cL_5, cD_5, cz_6, cI_6, cO_6, cL_6, cD_6, cz_7, cI_7, cO_7, cL_7, cD_7, cz_8, cI_8, cO_8, cL_8, cD_8, List.mem_cons, or_true, true_or, and_self, sI_S, sL_S, sR_S, sD_S, gb_S, sI_R, sL_R, sD_R, gb_R, sI_L, sR_I, sR_L, sL_I, sD_I, sD_L, gb_I, gb_L, y_S20 t9, y_F_supervisor t9, e10]
  obtain ⟨h12, e11, k11⟩ := mvR (d := d) (f := 10) hL hg (by decide) ho k10
  have k11 : RR h g off h12 (rwO 11) := k11
  have t10 := Lay_R hL k10
  have s11 : Ev (d + 1) 228 100 [some (vR (20, 0, 0)), some (vR (21, g, 0)), some (vI (iN off)), some (vI 0)] [] h11 = Ev (d + 1) 228 109 [some (vR (20, 0, 0)), some (vR (21, g, 0)), some (vI (iN off)), some (vI 0)] [] h12 := by
    simp only [v228_100, v228_101, v228_102, v228_105, v228_106, n_14, n_8, inB_of, Nat.reduceLT, Prod.mk.injEq, true_and, rB, rBn, rBa, rBb, rBc, rBd, Evk_v, Evk_n, Nat.reduceAdd, Nat.reduceLeDiff, Nat.le_refl, Nat.zero_le, cz_0, cz_1, cI_1, cO_1, cz_2, cI_2, cO_2, cL_2, cD_2, cz_3, cI_3, cO_3, cL_3, cD_3, cz_4, cI_4, cO_4, cL_4, cD_4, cz_5, cI_5, cO_5, cL_5, cD_5, cz_6, cI_6, cO_6, cL_6, cD_6, cz_7, cI_7, cO_7, cL_7, cD_7, cz_8, cI_8, cO_8, cL_8, cD_8, List.mem_cons, or_true, true_or, and_self, sI_S, sL_S, sR_S, sD_S, gb_S, sI_R, sL_R, sD_R, gb_R, sI_L, sR_I, sR_L, sL_I, sD_I, sD_L, gb_I, gb_L, y_S20 t10, y_F_stage t10, e11]
  obtain ⟨h13, e12, k12⟩ := mvR (d := d) (f := 11) hL hg (by decide) ho k11
  have k12 : RR h g off h13 (rwO 12) := k12
  have t11 := Lay_R hL k11
  have s12 : Ev (d + 1) 228 109 [some (vR (20, 0, 0)), some (vR (21, g, 0)), some (vI (iN off)), some (vI 0)] [] h12 = Ev (d + 1) 228 118 [some (vR (20, 0, 0)), some (vR (21, g, 0)), some (vI (iN off)), some (vI 0)] [] h13 := by
    simp only [v228_109, v228_110, v228_111, v228_114, v228_115, n_14, n_8, inB_of, Nat.reduceLT, Prod.mk.injEq, true_and, rB, rBn, rBa, rBb, rBc, rBd, Evk_v, Evk_n, Nat.reduceAdd, Nat.reduceLeDiff, Nat.le_refl, Nat.zero_le, cz_0, cz_1, cI_1, cO_1, cz_2, cI_2, cO_2, cL_2, cD_2, cz_3, cI_3, cO_3, cL_3, cD_3, cz_4, cI_4, cO_4, cL_4, cD_4, cz_5, cI_5, cO_5, cL_5, cD_5, cz_6, cI_6, cO_6, cL_6, cD_6, cz_7, cI_7, cO_7, cL_7, cD_7, cz_8, cI_8, cO_8, cL_8, cD_8, List.mem_cons, or_true, true_or, and_self, sI_S, sL_S, sR_S, sD_S, gb_S, sI_R, sL_R, sD_R, gb_R, sI_L, sR_I, sR_L, sL_I, sD_I, sD_L, gb_I, gb_L, y_S20 t11, y_F_members t11, e12]
  obtain ⟨h14, e13, k13⟩ := mvR (d := d) (f := 12) hL hg (by decide) ho k12
  have k13 : RR h g off h14 (rwO 13) := k13
  have t12 := Lay_R hL k12
  have s13 : Ev (d + 1) 228 118 [some (vR (20, 0, 0)), some (vR (21, g, 0)), some (vI (iN off)), some (vI 0)] [] h13 = Ev (d + 1) 228 127 [some (vR (20, 0, 0)), some (vR (21, g, 0)), some (vI (iN off)), some (vI 0)] [] h14 := by
    simp only [v228_118, v228_119, v228_120, v228_123, v228_124, n_14, n_8, inB_of, Nat.reduceLT, Prod.mk.injEq, true_and, rB, rBn, rBa, rBb, rBc, rBd, Evk_v, Evk_n, Nat.reduceAdd, Nat.reduceLeDiff, Nat.le_refl, Nat.zero_le, cz_0, cz_1, cI_1, cO_1, cz_2, cI_2, cO_2, cL_2, cD_2, cz_3, cI_3, cO_3, cL_3, cD_3, cz_4, cI_4, cO_4, cL_4, cD_4, cz_5, cI_5, cO_5, cL_5, cD_5, cz_6, cI_6, cO_6, cL_6, cD_6, cz_7, cI_7, cO_7, cL_7, cD_7, cz_8, cI_8, cO_8, cL_8, cD_8, List.mem_cons, or_true, true_or, and_self, sI_S, sL_S, sR_S, sD_S, gb_S, sI_R, sL_R, sD_R, gb_R, sI_L, sR_I, sR_L, sL_I, sD_I, sD_L, gb_I, gb_L, y_S20 t12, y_F_room t12, e13]
  obtain ⟨h15, e14, k14⟩ := mvR (d := d) (f := 13) hL hg (by decide) ho k13
  have k14 : RR h g off h15 (rwO 14) := k14
  have t13 := Lay_R hL k13
  have s14 : Ev (d + 1) 228 127 [some (vR (20, 0, 0)), some (vR (21, g, 0)), some (vI (iN off)), some (vI 0)] [] h14 = Ev (d + 1) 228 136 [some (vR (20, 0, 0)), some (vR (21, g, 0)), some (vI (iN off)), some (vI 0)] [] h15 := by
    simp only [v228_127, v228_128, v228_129, v228_132, v228_133, n_14, n_8, inB_of, Nat.reduceLT, Prod.mk.injEq, true_and, rB, rBn, rBa, rBb, rBc, rBd, Evk_v, Evk_n, Nat.reduceAdd, Nat.reduceLeDiff, Nat.le_refl, Nat.zero_le, cz_0, cz_1, cI_1, cO_1, cz_2, cI_2, cO_2, cL_2, cD_2, cz_3, cI_3, cO_3, cL_3, cD_3, cz_4, cI_4, cO_4, cL_4, cD_4, cz_5, cI_5, cO_5, cL_5, cD_5, cz_6, cI_6, cO_6, cL_6, cD_6, cz_7, cI_7, cO_7, cL_7, cD_7, cz_8, cI_8, cO_8, cL_8, cD_8, List.mem_cons, or_true, true_or, and_self, sI_S, sL_S, sR_S, sD_S, gb_S, sI_R, sL_R, sD_R, gb_R, sI_L, sR_I, sR_L, sL_I, sD_I, sD_L, gb_I, gb_L, y_S20 t13, y_F_dayOf t13, e14]
  obtain ⟨h16, e15, k15⟩ := mvR (d := d) (f := 14) hL hg (by decide) ho k14
  have k15 : RR h g off h16 (rwO 15) := k15
  have t14 := Lay_R hL k14
  have s15 : Ev (d + 1) 228 136 [some (vR (20, 0, 0)), some (vR (21, g, 0)), some (vI (iN off)), some (vI 0)] [] h15 = Ev (d + 1) 228 145 [some (vR (20, 0, 0)), some (vR (21, g, 0)), some (vI (iN off)), some (vI 0)] [] h16 := by
    simp only [v228_136, v228_137, v228_138, v228_141, v228_142, n_14, n_8, inB_of, Nat.reduceLT, Prod.mk.injEq, true_and, rB, rBn, rBa, rBb, rBc, rBd, Evk_v, Evk_n, Nat.reduceAdd, Nat.reduceLeDiff, Nat.le_refl, Nat.zero_le, cz_0, cz_1, cI_1, cO_1, cz_2, cI_2, cO_2, cL_2, cD_2, cz_3, cI_3, cO_3, cL_3, cD_3, cz_4, cI_4, cO_4, cL_4, cD_4, cz_5, cI_5, cO_5, cL_5, cD_5, cz_6, cI_6, cO_6, cL_6, cD_6, cz_7, cI_7, cO_7, cL_7, cD_7, cz_8, cI_8, cO_8, cL_8, cD_8, List.mem_cons, or_true, true_or, and_self, sI_S, sL_S, sR_S, sD_S, gb_S, sI_R, sL_R, sD_R, gb_R, sI_L, sR_I, sR_L, sL_I, sD_I, sD_L, gb_I, gb_L, y_S20 t14, y_F_hourOf t14, e15]
  obtain ⟨h17, e16, k16⟩ := mvR (d := d) (f := 15) hL hg (by decide) ho k15
  have k16 : RR h g off h17 (1564 + 0) := k16
  have t15 := Lay_R hL k15
  have s16 : Ev (d + 1) 228 145 [some (vR (20, 0, 0)), some (vR (21, g, 0)), some (vI (iN off)), some (vI 0)] [] h16 = Ev (d + 1) 228 154 [some (vR (20, 0, 0)), some (vR (21, g, 0)), some (vI (iN off)), some (vI 0)] [] h17 := by
    simp only [v228_145, v228_146, v228_147, v228_150, v228_151, n_14, n_8, inB_of, Nat.reduceLT, Prod.mk.injEq, true_and, rB, rBn, rBa, rBb, rBc, rBd, Evk_v, Evk_n, Nat.reduceAdd, Nat.reduceLeDiff, Nat.le_refl, Nat.zero_le, cz_0, cz_1, cI_1, cO_1, cz_2, cI_2, cO_2, cL_2, cD_2, cz_3, cI_3, cO_3, cL_3, cD_3, cz_4, cI_4, cO_4, cL_4, cD_4, cz_5, cI_5, cO_5, cL_5, cD_5, cz_6, cI_6, cO_6, cL_6, cD_6, cz_7, cI_7, cO_7, cL_7, cD_7, cz_8, cI_8, cO_8, cL_8, cD_8, List.mem_cons, or_true, true_or, and_self, sI_S, sL_S, sR_S, sD_S, gb_S, sI_R, sL_R, sD_R, gb_R, sI_L, sR_I, sR_L, sL_I, sD_I, sD_L, gb_I, gb_L, y_S20 t15, y_F_line t15, e16]
  have u0 := Lay_R hL k16
  obtain ⟨g0, f0, w0, q0⟩ := scR (d := d) (s := 0) (v := gI h17 (20, 0, 0) 7) hL hg (by decide) ho k16
  have v0 : Ev (d + 1) 228 154 [some (vR (20, 0, 0)), some (vR (21, g, 0)), some (vI (iN off)), some (vI 0)] [] h17 = Ev (d + 1) 228 167 [some (vR (20, 0, 0)), some (vR (21, g, 0)), some (vI (iN off)), some (vI 0)] [] (sI g0 (20, 0, 0) 7 (gI h (21, g, 0) (off + 1564 + 0))) := by
    have w : gS g0 (20, 0, 0) = (1, 7) := by rw [w0]; exact y_S20 u0
    simp only [v228_154, v228_155, v228_156, v228_157, v228_160, v228_161, v228_164, n_14, n_8, inB_of, Nat.reduceLT, Prod.mk.injEq, true_and, rB, rBn, rBa, rBb, rBc, rBd, Evk_v, Evk_n, Nat.reduceAdd, Nat.reduceLeDiff, Nat.le_refl, Nat.zero_le, cz_0, cz_1, cI_1, cO_1, cz_2, cI_2, cO_2, cL_2, cD_2, cz_3, cI_3, cO_3, cL_3, cD_3, cz_4, cI_4, cO_4, cL_4, cD_4, cz_5, cI_5, cO_5, cL_5, cD_5, cz_6, cI_6, cO_6, cL_6, cD_6, cz_7, cI_7, cO_7, cL_7, cD_7, cz_8, cI_8, cO_8, cL_8, cD_8, List.mem_cons, or_true, true_or, and_self, sI_S, sL_S, sR_S, sD_S, gb_S, sI_R, sL_R, sD_R, gb_R, sI_L, sR_I, sR_L, sL_I, sD_I, sD_L, gb_I, gb_L, y_S20 u0, f0, w]
  have q0 : RR h g off (sI g0 (20, 0, 0) 7 (gI h (21, g, 0) (off + 1564 + 0))) (1564 + 1) := q0
  have u1 := Lay_R hL q0
  obtain ⟨g1, f1, w1, q1⟩ := scR (d := d) (s := 1) (v := gI (sI g0 (20, 0, 0) 7 (gI h (21, g, 0) (off + 1564 + 0))) (20, 0, 0) 8) hL hg (by decide) ho q0
  have v1 : Ev (d + 1) 228 167 [some (vR (20, 0, 0)), some (vR (21, g, 0)), some (vI (iN off)), some (vI 0)] [] (sI g0 (20, 0, 0) 7 (gI h (21, g, 0) (off + 1564 + 0))) = Ev (d + 1) 228 180 [some (vR (20, 0, 0)), some (vR (21, g, 0)), some (vI (iN off)), some (vI 0)] [] (sI g1 (20, 0, 0) 8 (gI h (21, g, 0) (off + 1564 + 1))) := by
    have w : gS g1 (20, 0, 0) = (1, 7) := by rw [w1]; exact y_S20 u1
    simp only [v228_167, v228_168, v228_169, v228_170, v228_173, v228_174, v228_177, n_14, n_8, inB_of, Nat.reduceLT, Prod.mk.injEq, true_and, rB, rBn, rBa, rBb, rBc, rBd, Evk_v, Evk_n, Nat.reduceAdd, Nat.reduceLeDiff, Nat.le_refl, Nat.zero_le, cz_0, cz_1, cI_1, cO_1, cz_2, cI_2, cO_2, cL_2, cD_2, cz_3, cI_3, cO_3, cL_3, cD_3, cz_4, cI_4, cO_4, cL_4, cD_4, cz_5, cI_5, cO_5, cL_5, cD_5, cz_6, cI_6, cO_6, cL_6, cD_6, cz_7, cI_7, cO_7, cL_7, cD_7, cz_8, cI_8, cO_8, cL_8, cD_8, List.mem_cons, or_true, true_or, and_self, sI_S, sL_S, sR_S, sD_S, gb_S, sI_R, sL_R, sD_R, gb_R, sI_L, sR_I, sR_L, sL_I, sD_I, sD_L, gb_I, gb_L, y_S20 u1, f1, w]
  have q1 : RR h g off (sI g1 (20, 0, 0) 8 (gI h (21, g, 0) (off + 1564 + 1))) (1564 + 2) := q1
  have u2 := Lay_R hL q1
  obtain ⟨g2, f2, w2, q2⟩ := scR (d := d) (s := 2) (v := gI (sI g1 (20, 0, 0) 8 (gI h (21, g, 0) (off + 1564 + 1))) (20, 0, 0) 19) hL hg (by decide) ho q1
  have v2 : Ev (d + 1) 228 180 [some (vR (20, 0, 0)), some (vR (21, g, 0)), some (vI (iN off)), some (vI 0)] [] (sI g1 (20, 0, 0) 8 (gI h (21, g, 0) (off + 1564 + 1))) = Ev (d + 1) 228 193 [some (vR (20, 0, 0)), some (vR (21, g, 0)), some (vI (iN off)), some (vI 0)] [] (sI g2 (20, 0, 0) 19 (gI h (21, g, 0) (off + 1564 + 2))) := by
    have w : gS g2 (20, 0, 0) = (1, 7) := by rw [w2]; exact y_S20 u2
    simp only [v228_180, v228_181, v228_182, v228_183, v228_186, v228_187, v228_190, n_14, n_8, inB_of, Nat.reduceLT, Prod.mk.injEq, true_and, rB, rBn, rBa, rBb, rBc, rBd, Evk_v, Evk_n, Nat.reduceAdd, Nat.reduceLeDiff, Nat.le_refl, Nat.zero_le, cz_0, cz_1, cI_1, cO_1, cz_2, cI_2, cO_2, cL_2, cD_2, cz_3, cI_3, cO_3, cL_3, cD_3, cz_4, cI_4, cO_4, cL_4, cD_4, cz_5, cI_5, cO_5, cL_5, cD_5, cz_6, cI_6, cO_6, cL_6, cD_6, cz_7, cI_7, cO_7, cL_7, cD_7, cz_8, cI_8, cO_8, cL_8, cD_8, List.mem_cons, or_true, true_or, and_self, sI_S, sL_S, sR_S, sD_S, gb_S, sI_R, sL_R, sD_R, gb_R, sI_L, sR_I, sR_L, sL_I, sD_I, sD_L, gb_I, gb_L, y_S20 u2, f2, w]
  have q2 : RR h g off (sI g2 (20, 0, 0) 19 (gI h (21, g, 0) (off + 1564 + 2))) (1564 + 3) := q2
  have u3 := Lay_R hL q2
  obtain ⟨g3, f3, w3, q3⟩ := scR (d := d) (s := 3) (v := gI (sI g2 (20, 0, 0) 19 (gI h (21, g, 0) (off + 1564 + 2))) (20, 0, 0) 20) hL hg (by decide) ho q2
  have v3 : Ev (d + 1) 228 193 [some (vR (20, 0, 0)), some (vR (21, g, 0)), some (vI (iN off)), some (vI 0)] [] (sI g2 (20, 0, 0) 19 (gI h (21, g, 0) (off + 1564 + 2))) = Ev (d + 1) 228 206 [some (vR (20, 0, 0)), some (vR (21, g, 0)), some (vI (iN off)), some (vI 0)] [] (sI g3 (20, 0, 0) 20 (gI h (21, g, 0) (off + 1564 + 3))) := by
    have w : gS g3 (20, 0, 0) = (1, 7) := by rw [w3]; exact y_S20 u3
    simp only [v228_193, v228_194, v228_195, v228_196, v228_199, v228_200, v228_203, n_14, n_8, inB_of, Nat.reduceLT, Prod.mk.injEq, true_and, rB, rBn, rBa, rBb, rBc, rBd, Evk_v, Evk_n, Nat.reduceAdd, Nat.reduceLeDiff, Nat.le_refl, Nat.zero_le, cz_0, cz_1, cI_1, cO_1, cz_2, cI_2, cO_2, cL_2, cD_2, cz_3, cI_3, cO_3, cL_3, cD_3, cz_4, cI_4, cO_4, cL_4, cD_4, cz_5, cI_5, cO_5, cL_5, cD_5, cz_6, cI_6, cO_6, cL_6, cD_6, cz_7, cI_7, cO_7, cL_7, cD_7, cz_8, cI_8, cO_8, cL_8, cD_8, List.mem_cons, or_true, true_or, and_self, sI_S, sL_S, sR_S, sD_S, gb_S, sI_R, sL_R, sD_R, gb_R, sI_L, sR_I, sR_L, sL_I, sD_I, sD_L, gb_I, gb_L, y_S20 u3, f3, w]
  have q3 : RR h g off (sI g3 (20, 0, 0) 20 (gI h (21, g, 0) (off + 1564 + 3))) (1564 + 4) := q3
  have u4 := Lay_R hL q3
  obtain ⟨g4, f4, w4, q4⟩ := scR (d := d) (s := 4) (v := gI (sI g3 (20, 0, 0) 20 (gI h (21, g, 0) (off + 1564 + 3))) (20, 0, 0) 21) hL hg (by decide) ho q3
  have v4 : Ev (d + 1) 228 206 [some (vR (20, 0, 0)), some (vR (21, g, 0)), some (vI (iN off)), some (vI 0)] [] (sI g3 (20, 0, 0) 20 (gI h (21, g, 0) (off + 1564 + 3))) = Ev (d + 1) 228 219 [some (vR (20, 0, 0)), some (vR (21, g, 0)), some (vI (iN off)), some (vI 0)] [] (sI g4 (20, 0, 0) 21 (gI h (21, g, 0) (off + 1564 + 4))) := by
    have w : gS g4 (20, 0, 0) = (1, 7) := by rw [w4]; exact y_S20 u4
    simp only [v228_206, v228_207, v228_208, v228_209, v228_212, v228_213, v228_216, n_14, n_8, inB_of, Nat.reduceLT, Prod.mk.injEq, true_and, rB, rBn, rBa, rBb, rBc, rBd, Evk_v, Evk_n, Nat.reduceAdd, Nat.reduceLeDiff, Nat.le_refl, Nat.zero_le, cz_0, cz_1, cI_1, cO_1, cz_2, cI_2, cO_2, cL_2, cD_2, cz_3, cI_3, cO_3, cL_3, cD_3, cz_4, cI_4, cO_4, cL_4, cD_4, cz_5, cI_5, cO_5, cL_5, cD_5, cz_6, cI_6, cO_6, cL_6, cD_6, cz_7, cI_7, cO_7, cL_7, cD_7, cz_8, cI_8, cO_8, cL_8, cD_8, List.mem_cons, or_true, true_or, and_self, sI_S, sL_S, sR_S, sD_S, gb_S, sI_R, sL_R, sD_R, gb_R, sI_L, sR_I, sR_L, sL_I, sD_I, sD_L, gb_I, gb_L, y_S20 u4, f4, w]
  have q4 : RR h g off (sI g4 (20, 0, 0) 21 (gI h (21, g, 0) (off + 1564 + 4))) (1564 + 5) := q4
  refine ⟨_, ?_, q4⟩
  rw [s0, s1, s2, s3, s4, s5, s6, s7, s8, s9, s10, s11, s12, s13, s14, s15, s16, v0, v1, v2, v3, v4, v228_219]

end MHist
