/-! THE MODEL'S HISTORY -/


theorem Arr_of {A A' : Nat → Nat → Int32} {c c' : Nat → Int32} {P : PL} (h : Arr A c P) (h1 : pn P ≤ 14) (h2 : tn P ≤ 8) (h3 : wn P ≤ 8) (a : ∀ f, f < 16 → ∀ i, i < rwL f → A' f i = A f i) (b : ∀ s, s < 5 → c' s = c s) : Arr A' c' P := by
  have l5 : ∀ f, f < 5 → rwL f = 14 := by decide
  have l8 : ∀ f, f < 16 → 6 ≤ f → rwL f = 8 := by decide
  refine ⟨fun f hf i hi => ?_, fun i hi d hd => ?_, fun f hf hf' j hj => ?_, fun k hk => ?_, ?_, ?_, ?_, ?_, ?_⟩
  · rw [a f (by omega) i (by rw [l5 f hf]; omega)]; exact h.1 f hf i hi
  · have l : rwL 5 = 1414 := by decide
    rw [a 5 (by decide) _ (by rw [l]; omega)]; exact h.2.1 i hi d hd
  · rw [a f (by omega) j (by rw [l8 f (by omega) hf]; omega)]; exact h.2.2.1 f hf hf' j hj
  · rw [a 15 (by decide) k (by rw [l8 15 (by decide) (by decide)]; omega)]; exact h.2.2.2.1 k hk
  · rw [b 0 (by decide)]; exact h.2.2.2.2.1
  · rw [b 1 (by decide)]; exact h.2.2.2.2.2.1
  · rw [b 2 (by decide)]; exact h.2.2.2.2.2.2.1
  · rw [b 3 (by decide)]; exact h.2.2.2.2.2.2.2.1
  · rw [b 4 (by decide)]; exact h.2.2.2.2.2.2.2.2
section MHist2
variable {L : Nat} {xs : Nat → Int32} {h h' h1 : Hp} {P : PL} {H : HS} {X : XS} {d g off : Nat}
theorem rw_le : ∀ f, f < 16 → ∀ i, i < rwL f → rwO f + i < 1569 := fun f hf i hi => by
  have := rw_ok f hf
  omega
theorem Row_KK (hW : WF P) (hM : Mod h P) (k : KK h g off h' 1569) : Row h' (21, g, 0) off P :=
  Arr_of hM (w_pn hW) (w_tn hW) (w_wn hW) (fun f hf i hi => k.2.2.2.2.1 f hf i hi (rw_le f hf i hi)) (fun s hs => k.2.2.2.2.2.1 s hs (by omega))
theorem Mod_RR (hW : WF P) (hR : Row h (21, g, 0) off P) (k : RR h g off h' 1569) : Mod h' P :=
  Arr_of hR (w_pn hW) (w_tn hW) (w_wn hW) (fun f hf i hi => k.2.2.2.2.1 f hf i hi (rw_le f hf i hi)) (fun s hs => k.2.2.2.2.2.1 s hs (by omega))
theorem Mod_K (hW : WF P) (hM : Mod h P) (hg : isRow g) (k : KK h g off h' 1569) : Mod h' P :=
  Arr_of hM (w_pn hW) (w_tn hW) (w_wn hW) (fun f hf i hi => by
    show gI h' (21, f, 0) i = gI h (21, f, 0) i
    rw [ch_I k.1 (fun z => by rcases z with z | z
                              · exact row_ne hg hf z
                              · simp at z)]) (fun s hs => k.2.1 _ (scF_ok s hs).1 (scF_ok s hs).2.1)
theorem Row_eq {r : A3} {o : Nat} (e : gI h' r = gI h r) (R : Row h r o P) : Row h' r o P := by
  unfold Row
  rw [e]
  exact R
/-- a row whose ints another heap has at another place -/
theorem Row_at {r : A3} {o o' : Nat} (hW : WF P) (e : ∀ k, k < 1569 → gI h' r (o' + k) = gI h r (o + k)) (R : Row h r o P) : Row h' r o' P :=
  Arr_of R (w_pn hW) (w_tn hW) (w_wn hW) (fun f hf i hi => by
    have := e (rwO f + i) (rw_le f hf i hi)
    rwa [← Nat.add_assoc, ← Nat.add_assoc] at this) (fun s hs => by
    have := e (1564 + s) (by omega)
    rwa [← Nat.add_assoc, ← Nat.add_assoc] at this)
/-- room made: nothing below 6; at 6 the rows one down -/
theorem m229 (hL : Lay L xs h) {c : Nat} (hc : c ≤ 6) (e : gI h (20, 0, 0) 33 = iN c) : ∃ h', Ev d 229 0 [some (vR (20, 0, 0)), none] [] h = some (.inl none, h') ∧ Chg (inG 19) h h' ∧ (∀ m, m ≠ 33 → gI h' (20, 0, 0) m = gI h (20, 0, 0) m) ∧ gI h' (20, 0, 0) 33 = iN (if c < 6 then c else 5) ∧ ∀ t, gI h' (21, 19, 0) t = if c < 6 then gI h (21, 19, 0) t else if t < 7845 then gI h (21, 19, 0) (t + 1569) else gI h (21, 19, 0) t := by
  by_cases y : c < 6
  · have hn : ¬ (6 : Int32) ≤ iN c := nle (n := 6) y (by decide)
    refine ⟨h, ?_, ch_r, fun _ _ => rfl, by rw [if_pos y]; exact e, fun t => by rw [if_pos y]⟩
    simp only [v229_0, v229_1, v229_4, v229_6, v229_9, v229_10, v229_11, v229_13, v229_16, v229_19, v229_20, v229_23, v229_24, v229_25, v229_28, v229_29, v229_32, v229_33, v229_34, v229_35, v229_38, v229_41, v229_42, v229_43, v229_46, v229_47, v229_48, v229_51, n_14, n_8, inB_of, Nat.reduceLT, Prod.mk.injEq, true_and, rB, rBn, rBa, rBb, rBc, rBd, Evk_v, Evk_n, Nat.reduceAdd, Nat.reduceLeDiff, Nat.le_refl, Nat.zero_le, cz_0, cz_1, cI_1, cO_1, cz_2, cI_2, cO_2, cL_2, cD_2, cz_3, cI_3, cO_3, cL_3, cD_3, cz_4, cI_4, cO_4, cL_4, cD_4, cz_5, cI_5, cO_5, cL_5, cD_5, cz_6, cI_6, cO_6, cL_6, cD_6, cz_7, cI_7, cO_7, cL_7, cD_7, cz_8, cI_8, cO_8, cL_8, cD_8, List.mem_cons, or_true, true_or, and_self, sI_S, sL_S, sR_S, sD_S, gb_S, sI_R, sL_R, sD_R, gb_R, sI_L, sR_I, sR_L, sL_I, sD_I, sD_L, gb_I, gb_L, y_S20 hL, e, if_neg hn]
  · have e6 : c = 6 := by omega
    subst e6
    have lp := loopI (σ := LS3 × Hp) (E := fun s => Ev d 229 12 s.1 [] s.2) (I := fun m s => s.1 = [some (vR (20, 0, 0)), some (vI (iN m))] ∧ Chg (fun a => a = (21, 19, 0)) h s.2 ∧ ∀ t, gI s.2 (21, 19, 0) t = if t < m then gI h (21, 19, 0) (t + 1569) else gI h (21, 19, 0) t) (n := 7845) (by
      rintro m hm ⟨ls, h2⟩ ⟨rfl, c, hx⟩
      have hm31 : m < 2147483648 := by omega
      have hnl : ¬ ((7845 : Int32) ≤ iN m) := nle (n := 7845) hm (by omega)
      have hL2 := Lay_M hL (ch_m (fun a z => by have z : a = (21, 19, 0) := z; rw [z]; exact Or.inr rfl) c)
      have q1 : iN m + 1569 = iN (m + 1569) := iN_add m 1569
      have q2 : inB (iN (m + 1569)) 9414 := inB_of (by omega) (by decide)
      have q3 : inB (iN m) 9414 := inB_of (by omega) (by decide)
      have q4 : gI h2 (21, 19, 0) (m + 1569) = gI h (21, 19, 0) (m + 1569) := by rw [hx, if_neg (by omega)]
      refine ⟨(_, sI h2 (21, 19, 0) m (gI h (21, 19, 0) (m + 1569))), ⟨rfl, ch_t c (ch_sI rfl), fun t => ?_⟩, ?_⟩
      · rw [sI_I]
        by_cases w : t = m
        · subst w; rw [if_pos ⟨rfl, rfl⟩, if_pos (by omega)]
        · rw [if_neg fun z => w z.2, hx]
          by_cases v : t < m
          · rw [if_pos v, if_pos (by omega)]
          · rw [if_neg v, if_neg (by omega)]
      · show Ev d 229 12 _ [] h2 = Ev d 229 12 _ [] _
        rw [v229_12]
        simp only [v229_0, v229_1, v229_4, v229_6, v229_9, v229_10, v229_11, v229_13, v229_16, v229_19, v229_20, v229_23, v229_24, v229_25, v229_28, v229_29, v229_32, v229_33, v229_34, v229_35, v229_38, v229_41, v229_42, v229_43, v229_46, v229_47, v229_48, v229_51, n_14, n_8, inB_of, Nat.reduceLT, Prod.mk.injEq, true_and, rB, rBn, rBa, rBb, rBc, rBd, Evk_v, Evk_n, Nat.reduceAdd, Nat.reduceLeDiff, Nat.le_refl, Nat.zero_le, cz_0, cz_1, cI_1, cO_1, cz_2, cI_2, cO_2, cL_2, cD_2, cz_3, cI_3, cO_3, cL_3, cD_3, cz_4, cI_4, cO_4, cL_4, cD_4, cz_5, cI_5, cO_5, cL_5, cD_5, cz_6, cI_6, cO_6, cL_6, cD_6, cz_7, cI_7, cO_7, cL_7, cD_7, cz_8, cI_8, cO_8, cL_8, cD_8, List.mem_cons, or_true, true_or, and_self, sI_S, sL_S, sR_S, sD_S, gb_S, sI_R, sL_R, sD_R, gb_R, sI_L, sR_I, sR_L, sL_I, sD_I, sD_L, gb_I, gb_L, y_S20 hL2, y_M_earlier hL2, y_F_earlier hL2, if_neg hnl, q1, q2, q3, n_i hm31, n_i (show m + 1569 < 2147483648 by omega), q4, iN_s])
    obtain ⟨⟨ls, h2⟩, ⟨rfl, c, hx⟩, e2⟩ := lp (_, h) ⟨rfl, ch_r, fun t => by rw [if_neg (Nat.not_lt_zero t)]⟩
    have hL2 := Lay_M hL (ch_m (fun a z => by have z : a = (21, 19, 0) := z; rw [z]; exact Or.inr rfl) c)
    have q5 : gI h2 (20, 0, 0) 33 = 6 := by rw [ch_I c (by simp)]; exact e
    refine ⟨sI h2 (20, 0, 0) 33 5, ?_, ch_t (ch_m (fun a z => Or.inl z) c) (ch_sI (Or.inr rfl)), fun m hm => ?_, ?_, fun t => ?_⟩
    · simp only [v229_0, v229_1, v229_4, v229_6, v229_9, v229_10, v229_11, v229_13, v229_16, v229_19, v229_20, v229_23, v229_24, v229_25, v229_28, v229_29, v229_32, v229_33, v229_34, v229_35, v229_38, v229_41, v229_42, v229_43, v229_46, v229_47, v229_48, v229_51, n_14, n_8, inB_of, Nat.reduceLT, Prod.mk.injEq, true_and, rB, rBn, rBa, rBb, rBc, rBd, Evk_v, Evk_n, Nat.reduceAdd, Nat.reduceLeDiff, Nat.le_refl, Nat.zero_le, cz_0, cz_1, cI_1, cO_1, cz_2, cI_2, cO_2, cL_2, cD_2, cz_3, cI_3, cO_3, cL_3, cD_3, cz_4, cI_4, cO_4, cL_4, cD_4, cz_5, cI_5, cO_5, cL_5, cD_5, cz_6, cI_6, cO_6, cL_6, cD_6, cz_7, cI_7, cO_7, cL_7, cD_7, cz_8, cI_8, cO_8, cL_8, cD_8, List.mem_cons, or_true, true_or, and_self, sI_S, sL_S, sR_S, sD_S, gb_S, sI_R, sL_R, sD_R, gb_R, sI_L, sR_I, sR_L, sL_I, sD_I, sD_L, gb_I, gb_L, y_S20 hL, e, if_pos (show (6 : Int32) ≤ iN 6 from Int32.le_refl _)]
      refine Eq.trans e2 ?_
      show Ev d 229 12 _ [] h2 = _
      rw [v229_12]
      simp only [v229_0, v229_1, v229_4, v229_6, v229_9, v229_10, v229_11, v229_13, v229_16, v229_19, v229_20, v229_23, v229_24, v229_25, v229_28, v229_29, v229_32, v229_33, v229_34, v229_35, v229_38, v229_41, v229_42, v229_43, v229_46, v229_47, v229_48, v229_51, n_14, n_8, inB_of, Nat.reduceLT, Prod.mk.injEq, true_and, rB, rBn, rBa, rBb, rBc, rBd, Evk_v, Evk_n, Nat.reduceAdd, Nat.reduceLeDiff, Nat.le_refl, Nat.zero_le, cz_0, cz_1, cI_1, cO_1, cz_2, cI_2, cO_2, cL_2, cD_2, cz_3, cI_3, cO_3, cL_3, cD_3, cz_4, cI_4, cO_4, cL_4, cD_4, cz_5, cI_5, cO_5, cL_5, cD_5, cz_6, cI_6, cO_6, cL_6, cD_6, cz_7, cI_7, cO_7, cL_7, cD_7, cz_8, cI_8, cO_8, cL_8, cD_8, List.mem_cons, or_true, true_or, and_self, sI_S, sL_S, sR_S, sD_S, gb_S, sI_R, sL_R, sD_R, gb_R, sI_L, sR_I, sR_L, sL_I, sD_I, sD_L, gb_I, gb_L, y_S20 hL2, q5, if_pos (show (7845 : Int32) ≤ iN 7845 from Int32.le_refl _), c1_It, c1_Ot, bI_T, bI_F, i10, i01]
      rfl
    · rw [sI_I, if_neg fun z => hm z.2, ch_I c (by simp)]
    · rw [sI_I, if_pos ⟨rfl, rfl⟩, if_neg (by decide)]; rfl
    · rw [sI_I, if_neg (by simp), hx, if_neg (show ¬ (6 : Nat) < 6 by decide)]
theorem MX_ch {A : A3 → Prop} (k : MX h H X) (c : Chg A h h') (h21 : ¬ A (21, 16, 0)) {c' : Nat} (e33 : gI h' (20, 0, 0) 33 = iN c') (e : ∀ m, m ≠ 33 → m ≠ 34 → m ≠ 36 → ¬ isSc m → gI h' (20, 0, 0) m = gI h (20, 0, 0) m) {R : Nat → PL} {o : Nat} : MX h' (R, o, c') X := by
  have ns : ∀ m, m = 35 ∨ m = 22 ∨ m = 29 ∨ m = 26 ∨ m = 37 → ¬ isSc m := fun m hm => by unfold isSc; omega
  unfold MX
  rw [e 35 (by decide) (by decide) (by decide) (ns _ (by decide)), e 22 (by decide) (by decide) (by decide) (ns _ (by decide)), e 29 (by decide) (by decide) (by decide) (ns _ (by decide)), e 26 (by decide) (by decide) (by decide) (ns _ (by decide)), e 37 (by decide) (by decide) (by decide) (ns _ (by decide)), ch_I c h21]
  exact ⟨e33, k.2⟩
theorem m230 (hL : Lay L xs h) (m : MI h P H X) (w : WI P H X) : ∃ h', Ev (d + 2) 230 0 [some (vR (20, 0, 0))] [] h = some (.inl none, h') ∧ MI h' P (psH P H) X ∧ Chg inM h h' ∧ ∀ k, k ≠ 33 → k ≠ 34 → k ≠ 36 → gI h' (20, 0, 0) k = gI h (20, 0, 0) k := by
  obtain ⟨m1, m2, m3⟩ := m
  have hW := w.1.1
  obtain ⟨w1, w2, w3, w4, w5, -⟩ := w
  obtain ⟨h1, e1, c1, a1, b1, r1⟩ := m229 (d := d + 1) hL w4 m3.1
  have hL1 := Lay_M hL (ch_m inG_M c1)
  have hM1 : Mod h1 P := Arr_of m1 (w_pn hW) (w_tn hW) (w_wn hW) (fun f hf i hi => by
    show gI h1 (21, f, 0) i = gI h (21, f, 0) i
    rw [ch_I c1 (fun z => by rcases z with z | z
                             · exact row_ne (Or.inl rfl) hf z
                             · simp at z)]) (fun s hs => a1 _ (by have := (scF_ok s hs).2.2; unfold isSc at this; omega))
  generalize ec : (if hC H < 6 then hC H else 5) = c at *
  have hc5 : c ≤ 5 := by rw [← ec]; split <;> omega
  obtain ⟨h2, e2, k2⟩ := paK (d := d) hL1 (g := 19) (off := 1569 * c) (Or.inl rfl) (by unfold rsz; rw [if_pos rfl]; omega)
  have hL2 := Lay_K hL1 k2
  have q33 : gI h2 (20, 0, 0) 33 = iN c := by rw [k2.2.1 33 (by decide) (by decide)]; exact b1
  have q37 : ¬ (gI h (20, 0, 0) 37) ≠ 0 := fun z => z m3.2.2.2.2.2.1
  have hmul : (1569 : Int32) * iN c = iN (1569 * c) := iN_mul 1569 c
  have hk : ∀ k, k ≠ 33 → k ≠ 34 → k ≠ 36 → gI (sI h2 (20, 0, 0) 33 (iN (c + 1))) (20, 0, 0) k = gI h (20, 0, 0) k := fun k a b e => by
    rw [sI_I, if_neg fun z => a z.2, k2.2.1 k b e, a1 k a]
  have cA : Chg (inG 19) h (sI h2 (20, 0, 0) 33 (iN (c + 1))) := ch_t (ch_t c1 k2.1) (ch_sI (Or.inr rfl))
  have eP : psH P H = ((preH P H).1, if hC H < 6 then hO H else (hO H + 1) % 7, c + 1) := by
    unfold psH kepH
    by_cases y : hC H < 6
    · rw [if_pos y] at ec
      rw [if_pos (show hC (preH P H) < 6 from y), if_pos y, ← ec]; rfl
    · rw [if_neg y] at ec
      rw [if_neg (show ¬ hC (preH P H) < 6 from y), if_neg y]
      show (_, _, hC H) = _
      rw [show hC H = c + 1 by omega]; rfl
  refine ⟨sI h2 (20, 0, 0) 33 (iN (c + 1)), ?_, ⟨?_, ⟨fun z => ?_, fun i hi => ?_⟩, ?_⟩, ch_m inG_M cA, hk⟩
  · simp only [v230_0, v230_1, v230_4, v230_7, v230_8, v230_9, v230_12, v230_13, v230_14, v230_17, v230_20, v230_21, v230_24, v230_25, v230_26, v230_29, v230_30, v230_31, v230_34, v230_35, v230_36, v230_39, n_14, n_8, inB_of, Nat.reduceLT, Prod.mk.injEq, true_and, rB, rBn, rBa, rBb, rBc, rBd, Evk_v, Evk_n, Nat.reduceAdd, Nat.reduceLeDiff, Nat.le_refl, Nat.zero_le, cz_0, cz_1, cI_1, cO_1, cz_2, cI_2, cO_2, cL_2, cD_2, cz_3, cI_3, cO_3, cL_3, cD_3, cz_4, cI_4, cO_4, cL_4, cD_4, cz_5, cI_5, cO_5, cL_5, cD_5, cz_6, cI_6, cO_6, cL_6, cD_6, cz_7, cI_7, cO_7, cL_7, cD_7, cz_8, cI_8, cO_8, cL_8, cD_8, List.mem_cons, or_true, true_or, and_self, sI_S, sL_S, sR_S, sD_S, gb_S, sI_R, sL_R, sD_R, gb_R, sI_L, sR_I, sR_L, sL_I, sD_I, sD_L, gb_I, gb_L, y_S20 hL, y_S20 hL1, y_S20 hL2, m3.2.2.2.2.2.1, e1, y_F_earlier hL1, b1, hmul, e2, q33, iN_s, if_true, c1_It, c1_Ot, bI_T, bI_F, i10, i01]
  · exact mo_x (Mod_K hW hM1 (Or.inl rfl) k2) (by decide)
  · exact Row_eq (ch_I cA (fun z => by rcases z with z | z <;> simp at z)) (m2.1 z)
  · rw [eP] at hi ⊢
    have hi : i < c + 1 := hi
    show Row _ (21, 19, 0) (1569 * i) ((preH P H).1 (((if hC H < 6 then hO H else (hO H + 1) % 7) + i) % 7))
    have key : ∀ t, gI (sI h2 (20, 0, 0) 33 (iN (c + 1))) (21, 19, 0) t = gI h2 (21, 19, 0) t := fun t => by rw [sI_I, if_neg (by simp)]
    by_cases y : i = c
    · have : (preH P H).1 (((if hC H < 6 then hO H else (hO H + 1) % 7) + i) % 7) = P := by
        show (if _ = (hO H + hC H) % 7 then P else _) = P
        rw [if_pos]
        by_cases z : hC H < 6
        · rw [if_pos z] at ec ⊢; omega
        · rw [if_neg z] at ec ⊢; omega
      rw [this, y]
      exact Row_eq (funext key) (Row_KK hW hM1 k2)
    · have hne : ¬ ((if hC H < 6 then hO H else (hO H + 1) % 7) + i) % 7 = (hO H + hC H) % 7 := by
        by_cases z : hC H < 6
        · rw [if_pos z] at ec ⊢; omega
        · rw [if_neg z] at ec ⊢; omega
      have : (preH P H).1 (((if hC H < 6 then hO H else (hO H + 1) % 7) + i) % 7) = hR H (((if hC H < 6 then hO H else (hO H + 1) % 7) + i) % 7) := if_neg hne
      rw [this]
      by_cases z : hC H < 6
      · rw [if_pos z] at ec ⊢
        refine Row_at (w5 i (by omega)).1 (fun k hk => ?_) (m2.2 i (by omega))
        rw [key, k2.2.2.2.2.2.2 _ (by omega), r1, if_pos z]
      · rw [if_neg z] at ec ⊢
        have e6 : ((hO H + 1) % 7 + i) % 7 = (hO H + (i + 1)) % 7 := by omega
        rw [e6]
        refine Row_at (o := 1569 * (i + 1)) (w5 (i + 1) (by omega)).1 (fun k hk => ?_) (m2.2 (i + 1) (by omega))
        rw [key, k2.2.2.2.2.2.2 _ (by omega), r1, if_neg z, if_pos (by omega)]
        congr 1; omega
  · rw [eP]
    refine MX_ch m3 cA (fun z => by rcases z with z | z <;> simp at z) (by rw [sI_I, if_pos ⟨rfl, rfl⟩]) (fun m a b e _ => hk m a b e)
end MHist2
