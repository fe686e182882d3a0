/-! READ: the call, the model's part, and both -/



def sgX (X : XS) (j : Nat) : Nat := (xI X j).toNatClampNeg
section R9
variable {L : Nat} {xs : Nat → Int32} {h h' h1 g0 g g' : Hp} {P P' : PL} {H H' : HS} {X X' : XS} {t t' : IS} {d i e l c : Nat} {s : Nat → Nat} {x x' : Nat → Int32} {r R : Int32}
theorem sgX_ok (w : WI P H X) : xL X ≤ 60 ∧ (∀ j, j < xL X → sgX X j < 127) ∧ ∀ j, j < xL X → xI X j = iN (sgX X j) := by
  obtain ⟨w1, w2, w3, w4, w5, w6, w7, w8⟩ := w
  refine ⟨w6, fun j hj => ?_, fun j hj => ?_⟩
  · obtain ⟨c, hc, e⟩ := w7 j hj
    unfold sgX
    rw [e, n_i (by omega)]
    exact hc
  · obtain ⟨c, hc, e⟩ := w7 j hj
    unfold sgX
    rw [e, n_i (by omega)]
theorem MI_U (m : MI g P H X) (k : Chg inU g g') (hM : Mod g' P') (e33 : gI g' (20, 0, 0) 33 = gI g (20, 0, 0) 33) (e35 : gI g' (20, 0, 0) 35 = gI g (20, 0, 0) 35) (e22 : gI g' (20, 0, 0) 22 = oZ (xR X')) (e29 : gI g' (20, 0, 0) 29 = oN (xE X')) (e26 : gI g' (20, 0, 0) 26 = 0) (e37 : gI g' (20, 0, 0) 37 = 0) (x1 : X'.1 = X.1) (x2 : X'.2.1 = X.2.1) (x3 : xL X' = 0) : MI g' P' H X' := by
  obtain ⟨m1, m2, m3⟩ := m
  have n : ∀ f, f = 19 ∨ f = 20 → ¬ inU (21, f, 0) := fun f hf z => by
    rcases z with z | ⟨-, z1, z2, z3⟩
    · simp at z
    · have z2 : f ≠ 19 := z2
      have z3 : f ≠ 20 := z3
      omega
  refine ⟨hM, ⟨fun z => ?_, fun i hi => Row_eq (ch_I k (n 19 (Or.inl rfl))) (m2.2 i hi)⟩, ?_, ?_, e22, e29, ?_, e37, fun q hq => ?_⟩
  · rw [show xF X' = xF X from x2] at z
    rw [show xS X' = xS X from x1]
    exact Row_eq (ch_I k (n 20 (Or.inr rfl))) (m2.1 z)
  · rw [e33]; exact m3.1
  · rw [e35, show xF X' = xF X from x2]; exact m3.2.1
  · rw [e26, x3]; rfl
  · rw [x3] at hq; exact absurd hq (Nat.not_lt_zero q)
theorem ke_x (okr : okR r) : keR r (oZ (xR X)) = oZ (xR (xsK X r)) := by
  unfold keR xsK
  by_cases z : r = 0 ∨ r = -1
  · rw [if_pos z, if_pos z]
  · rw [if_neg z, if_neg z]
    obtain ⟨k, k0, k1, rfl⟩ := (okr.resolve_left fun q => z (Or.inl q)).resolve_left fun q => z (Or.inr q)
    show iN k = iN (iN k).toNatClampNeg
    rw [n_i (by omega)]
theorem Mod_T {e' : Nat} (hW : WF P) (hM : Mod g P) (m : MT s l g g' i e') : Mod g' P :=
  Arr_of hM (w_pn hW) (w_tn hW) (w_wn hW) (fun f hf i hi => by
    show gI g' (21, f, 0) i = gI g (21, f, 0) i
    rw [ch_I m.1 (fun z => by rcases z with z | z | z <;> simp at z <;> omega)]) (fun s hs => m.2.1 _ (fun z => by have := (scF_ok s hs).2.2; unfold isSc at this; omega) (fun z => by have := (scF_ok s hs).2.2; unfold isSc at this; omega))
/-- a text that is none -/
theorem rdM0 (hL : Lay L xs g) (m : MI g P H X) (wi : WI P H X) (hi : i ≤ 60) (hQ : rdC (rn (sgX X) (xL X) (t00 x) 0) = iN i) : ∃ g', Ev (d + 20) 224 0 [some (vR (20, 0, 0)), none, none, none] [] g = some (.inl (some (vI (0))), g') ∧ MI g' P H (xsE (xs0 X) i) ∧ Chg inM g g' ∧ gI g' (20, 0, 0) 0 = 1 := by
  obtain ⟨s1, s2, s3⟩ := sgX_ok wi
  have m3 := m.2.2
  rcases m222 (d := d + 16) (x := x) s1 s2 hL m3.2.2.2.2.1 (fun j hj => (m3.2.2.2.2.2.2 j hj).trans (s3 j hj)) with ⟨g1, i', e', e222, M1, I1, q1⟩ | ⟨g1, t1, e', e222, M1, T1, T2, T3, T4, q1, E1⟩
  · have ei : i' = i := by
      rw [hQ, iN_inj (by omega) (by omega)] at q1
      exact q1.symm
    subst ei
    have hL1 : Lay L xs g1 := MT_L hL M1
    have hL2 : Lay L xs (sI g1 (20, 0, 0) 26 0) := Lay_sI hL1 (by decide)
    have hL3 : Lay L xs (sI (sI g1 (20, 0, 0) 26 0) (20, 0, 0) 29 (iN i')) := Lay_sI hL2 (by decide)
    have k : Chg inU g (sI (sI (sI g1 (20, 0, 0) 26 0) (20, 0, 0) 29 (iN i')) (20, 0, 0) 0 1) := ch_t (ch_m inTx_U M1.1) (ch_t (ch_t (ch_sI (Or.inl rfl)) (ch_sI (Or.inl rfl))) (ch_sI (Or.inl rfl)))
    have o : ∀ m, m ≠ 0 → m ≠ 26 → m ≠ 27 → m ≠ 28 → m ≠ 29 → gI (sI (sI (sI g1 (20, 0, 0) 26 0) (20, 0, 0) 29 (iN i')) (20, 0, 0) 0 1) (20, 0, 0) m = gI g (20, 0, 0) m := fun m a b c d f => by
      rw [sI_I, if_neg fun z => a z.2, sI_I, if_neg fun z => f z.2, sI_I, if_neg fun z => b z.2]
      exact M1.2.1 m c d
    refine ⟨_, ?_, MI_U m k (mo_x (mo_x (mo_x (Mod_T wi.1.1 m.1 M1) (by decide)) (by decide)) (by decide)) (o 33 (by decide) (by decide) (by decide) (by decide) (by decide)) (o 35 (by decide) (by decide) (by decide) (by decide) (by decide)) ?_ ?_ ?_ ?_ rfl rfl rfl, ch_m inU_M k, ?_⟩
    · simp only [v224_0, v224_1, v224_4, v224_5, v224_6, v224_7, v224_10, v224_11, v224_14, v224_15, v224_16, v224_19, v224_22, v224_23, v224_24, v224_27, n_14, n_8, inB_of, Nat.reduceLT, Prod.mk.injEq, true_and, rB, rBn, rBa, rBb, rBc, rBd, Evk_v, Evk_n, Nat.reduceAdd, Nat.reduceLeDiff, Nat.le_refl, Nat.zero_le, cz_0, cz_1, cI_1, cO_1, cz_2, cI_2, cO_2, cL_2, cD_2, cz_3, cI_3, cO_3, cL_3, cD_3, cz_4, cI_4, cO_4, cL_4, cD_4, cz_5, cI_5, cO_5, cL_5, cD_5, cz_6, cI_6, cO_6, cL_6, cD_6, cz_7, cI_7, cO_7, cL_7, cD_7, cz_8, cI_8, cO_8, cL_8, cD_8, List.mem_cons, or_true, true_or, and_self, sI_S, sL_S, sR_S, sD_S, gb_S, sI_R, sL_R, sD_R, gb_R, sI_L, sR_I, sR_L, sL_I, sD_I, sD_L, gb_I, gb_L, y_S20 hL, y_S20 hL3, e222, y_S20 hL1, y_S20 hL2, sI_I, Prod.mk.injEq, Nat.reduceEqDiff, and_false, false_and, if_false, M1.2.2.1, m141 hL3, if_true]
    · rw [o 22 (by decide) (by decide) (by decide) (by decide) (by decide)]; exact m3.2.2.1
    · rw [sI_I, if_neg (by simp), sI_I, if_pos ⟨rfl, rfl⟩]; rfl
    · rw [sI_I, if_neg (by simp), sI_I, if_neg (by simp), sI_I, if_pos ⟨rfl, rfl⟩]
    · rw [o 37 (by decide) (by decide) (by decide) (by decide) (by decide)]; exact m3.2.2.2.2.2.1
    · rw [sI_I, if_pos ⟨rfl, rfl⟩]
  · exfalso
    rw [q1] at hQ
    have : (if t1.1 = 0 ∧ 0 < t1.2.2.2.1 then (-1 : Int32) else iN (xL X)) = iN i := hQ
    rw [if_pos ⟨T1, by omega⟩] at this
    exact oN_ne (by omega) this.symm
/-- the row tried copied behind the history -/
theorem cpl (hL : Lay L xs g) (hc : c ≤ 5) (e33 : gI g (20, 0, 0) 33 = iN c) {w1 w2 : Option MV} : ∃ g', Ev d 224 107 [some (vR (20, 0, 0)), w1, w2, some (vI 0)] [] g = Ev d 224 141 [some (vR (20, 0, 0)), w1, w2, some (vI (iN 1569))] [] g' ∧ Chg (fun a => a = (21, 19, 0)) g g' ∧ ∀ t, gI g' (21, 19, 0) t = if 1569 * c ≤ t ∧ t < 1569 * c + 1569 then gI g (21, 21, 0) (t - 1569 * c) else gI g (21, 19, 0) t := by
  have inA : ∀ a : A3, a = (21, 19, 0) → inM a := fun a z => by rw [z]; exact Or.inr rfl
  have hmul : (1569 : Int32) * iN c = iN (1569 * c) := iN_mul 1569 c
  have lp := loopI (σ := LS3 × Hp) (E := fun s => Ev d 224 107 s.1 [] s.2) (I := fun m s => s.1 = [some (vR (20, 0, 0)), w1, w2, some (vI (iN m))] ∧ Chg (fun a => a = (21, 19, 0)) g s.2 ∧ ∀ t, gI s.2 (21, 19, 0) t = if 1569 * c ≤ t ∧ t < 1569 * c + m then gI g (21, 21, 0) (t - 1569 * c) else gI g (21, 19, 0) t) (n := 1569) (by
    rintro m hm ⟨ls, h2⟩ ⟨rfl, k, hx⟩
    have hm31 : m < 2147483648 := by omega
    have hnl : ¬ ((1569 : Int32) ≤ iN m) := nle (n := 1569) hm (by omega)
    have hL2 := Lay_M hL (ch_m inA k)
    have q2 : inB (iN (1569 * c + m)) 9414 := inB_of (by omega) (by decide)
    have q3 : inB (iN m) 1569 := inB_of hm (by decide)
    have q4 : gI h2 (20, 0, 0) 33 = iN c := by rw [ch_I k (by simp)]; exact e33
    have q5 : gI h2 (21, 21, 0) m = gI g (21, 21, 0) m := by rw [ch_I k (by simp)]
    refine ⟨(_, sI h2 (21, 19, 0) (1569 * c + m) (gI g (21, 21, 0) m)), ⟨rfl, ch_t k (ch_sI rfl), fun t => ?_⟩, ?_⟩
    · rw [sI_I]
      by_cases w : t = 1569 * c + m
      · subst w; rw [if_pos ⟨rfl, rfl⟩, if_pos (by omega), Nat.add_sub_cancel_left]
      · rw [if_neg fun z => w z.2, hx]
        by_cases v : 1569 * c ≤ t ∧ t < 1569 * c + m
        · rw [if_pos v, if_pos (by omega)]
        · rw [if_neg v, if_neg (by omega)]
    · show Ev d 224 107 _ [] h2 = Ev d 224 107 _ [] _
      rw [v224_107]
      simp only [v224_108, v224_111, v224_114, v224_115, v224_118, v224_121, v224_122, v224_125, v224_126, v224_127, v224_128, v224_129, v224_132, v224_133, v224_134, v224_135, v224_138, n_14, n_8, inB_of, Nat.reduceLT, Prod.mk.injEq, true_and, rB, rBn, rBa, rBb, rBc, rBd, Evk_v, Evk_n, Nat.reduceAdd, Nat.reduceLeDiff, Nat.le_refl, Nat.zero_le, cz_0, cz_1, cI_1, cO_1, cz_2, cI_2, cO_2, cL_2, cD_2, cz_3, cI_3, cO_3, cL_3, cD_3, cz_4, cI_4, cO_4, cL_4, cD_4, cz_5, cI_5, cO_5, cL_5, cD_5, cz_6, cI_6, cO_6, cL_6, cD_6, cz_7, cI_7, cO_7, cL_7, cD_7, cz_8, cI_8, cO_8, cL_8, cD_8, List.mem_cons, or_true, true_or, and_self, sI_S, sL_S, sR_S, sD_S, gb_S, sI_R, sL_R, sD_R, gb_R, sI_L, sR_I, sR_L, sL_I, sD_I, sD_L, gb_I, gb_L, y_S20 hL2, y_M_earlier hL2, y_F_earlier hL2, y_M_tried hL2, y_F_tried hL2, if_neg hnl, q4, hmul, iN_add, q2, q3, n_i hm31, n_i (show 1569 * c + m < 2147483648 by omega), q5, iN_s])
  obtain ⟨⟨ls, h2⟩, ⟨rfl, k, hx⟩, e2⟩ := lp ([some (vR (20, 0, 0)), w1, w2, some (vI (iN 0))], g) ⟨rfl, ch_r, fun t => by rw [if_neg (by omega)]⟩
  refine ⟨h2, ?_, k, hx⟩
  have e2 : Ev d 224 107 [some (vR (20, 0, 0)), w1, w2, some (vI 0)] [] g = Ev d 224 107 [some (vR (20, 0, 0)), w1, w2, some (vI (iN 1569))] [] h2 := e2
  refine Eq.trans e2 ?_
  rw [v224_107]
  simp only [v224_108, v224_111, n_14, n_8, inB_of, Nat.reduceLT, Prod.mk.injEq, true_and, rB, rBn, rBa, rBb, rBc, rBd, Evk_v, Evk_n, Nat.reduceAdd, Nat.reduceLeDiff, Nat.le_refl, Nat.zero_le, cz_0, cz_1, cI_1, cO_1, cz_2, cI_2, cO_2, cL_2, cD_2, cz_3, cI_3, cO_3, cL_3, cD_3, cz_4, cI_4, cO_4, cL_4, cD_4, cz_5, cI_5, cO_5, cL_5, cD_5, cz_6, cI_6, cO_6, cL_6, cD_6, cz_7, cI_7, cO_7, cL_7, cD_7, cz_8, cI_8, cO_8, cL_8, cD_8, List.mem_cons, or_true, true_or, and_self, sI_S, sL_S, sR_S, sD_S, gb_S, sI_R, sL_R, sD_R, gb_R, sI_L, sR_I, sR_L, sL_I, sD_I, sD_L, gb_I, gb_L, if_pos (show (1569 : Int32) ≤ iN 1569 from Int32.le_refl _)]
/-- a right text -/
theorem rdM1 (hL : Lay L xs g) (m : MI g P H X) (wi : WI P H X) (hQ : rn (sgX X) (xL X) (t00 x) 0 = (xL X, some t)) (ht : t.1 = 0) (h0 : 0 < t.2.2.2.1) (okr : okR r) (wx' : WFx P')
    (ml : ∀ d g0 g w1 w3, Lay L xs g → QM g0 g P (oZ (xR X)) → gI g (20, 0, 0) 28 = iN t.2.2.2.1 → (∀ k, k < t.2.2.2.1 → En g t.2.2.2.2 k) → ∃ g' k', Ev (d + 11) 224 45 [some (vR (20, 0, 0)), w1, some (vI (iN 0)), w3] [] g = Ev (d + 11) 224 67 [some (vR (20, 0, 0)), w1, some (vI (iN k')), w3] [] g' ∧ k' ≤ t.2.2.2.1 ∧ (k' < t.2.2.2.1 ↔ r ≠ 0) ∧ QM g0 g' P' (keR r (oZ (xR X)))) :
    ∃ g', Chg inM g g' ∧ (r = 0 → Ev (d + 20) 224 0 [some (vR (20, 0, 0)), none, none, none] [] g = some (.inl (some (vI (iN t.2.2.2.1))), g') ∧ MI g' P' (psH P H) (xs0 X) ∧ gI g' (20, 0, 0) 0 = 0) ∧ (r ≠ 0 → Ev (d + 20) 224 0 [some (vR (20, 0, 0)), none, none, none] [] g = some (.inl (some (vI (0))), g') ∧ MI g' P (preH P H) (xsK (xs0 X) r) ∧ gI g' (20, 0, 0) 0 = 2) := by
  obtain ⟨s1, s2, s3⟩ := sgX_ok wi
  have hW := wi.1.1
  have m3 := m.2.2
  have w4 := wi.2.2.2.1
  rcases m222 (d := d + 16) (x := x) s1 s2 hL m3.2.2.2.2.1 (fun j hj => (m3.2.2.2.2.2.2 j hj).trans (s3 j hj)) with ⟨g1, i', e', e222, M1, I1, q1⟩ | ⟨g1, t1, e', e222, M1, T1, T2, T3, T4, q1, E1⟩
  · exfalso
    rw [hQ] at q1
    have : (if t.1 = 0 ∧ 0 < t.2.2.2.1 then (-1 : Int32) else iN (xL X)) = iN i' := q1
    rw [if_pos ⟨ht, h0⟩] at this
    exact oN_ne (by omega) this.symm
  have et : t1 = t := by
    rw [hQ] at q1
    exact (Option.some.inj (Prod.mk.inj q1).2).symm
  subst et
  subst T2
  have e222 : Ev (d + 19) 222 0 [some (vR (20, 0, 0))] [] g = some (.inl (some (vI (1))), g1) := e222
  have i1 : (1 : Int32) = 0 ∨ (1 : Int32) = 1 := Or.inr rfl
  have i0 : (0 : Int32) = 0 ∨ (0 : Int32) = 1 := Or.inl rfl
  have hL1 : Lay L xs g1 := MT_L hL M1
  have hL2 : Lay L xs (sI g1 (20, 0, 0) 26 0) := Lay_sI hL1 (by decide)
  have hM2 : Mod (sI g1 (20, 0, 0) 26 0) P := mo_x (Mod_T hW m.1 M1) (by decide)
  obtain ⟨g3, e3, k3⟩ := paK (d := d + 18) hL2 (g := 21) (off := 0) (Or.inr (Or.inr rfl)) (by decide)
  have e3 : Ev (d + 19) 228 0 [some (vR (20, 0, 0)), some (vR (21, 21, 0)), some (vI 0), some (vI 1)] [] (sI g1 (20, 0, 0) 26 0) = some (.inl none, g3) := e3
  have hL3 := Lay_K hL2 k3
  have hM3 : Mod g3 P := Mod_K hW hM2 (Or.inr (Or.inr rfl)) k3
  have r3 : Row g3 (21, 21, 0) 0 P := Row_KK hW hM2 k3
  have o3 : ∀ m, m ≠ 26 → m ≠ 27 → m ≠ 28 → m ≠ 34 → m ≠ 36 → gI g3 (20, 0, 0) m = gI g (20, 0, 0) m := fun m a b c d f => by
    rw [k3.2.1 m d f, sI_I, if_neg fun z => a z.2]
    exact M1.2.1 m b c
  have hL4 : Lay L xs (sI g3 (20, 0, 0) 37 1) := Lay_sI hL3 (by decide)
  have Q4 : QM (sI g3 (20, 0, 0) 37 1) (sI g3 (20, 0, 0) 37 1) P (oZ (xR X)) := by
    refine ⟨mo_x hM3 (by decide), ch_r, ?_, ?_, fun _ _ _ _ _ => rfl⟩
    · rw [sI_I, if_pos ⟨rfl, rfl⟩]
    · rw [sI_I, if_neg (by simp), o3 22 (by decide) (by decide) (by decide) (by decide) (by decide)]; exact m3.2.2.1
  have e28 : gI (sI g3 (20, 0, 0) 37 1) (20, 0, 0) 28 = iN t1.2.2.2.1 := by
    rw [sI_I, if_neg (by simp), k3.2.1 28 (by decide) (by decide), sI_I, if_neg (by simp)]
    exact M1.2.2.2.1
  have nf : ∀ f, f = 17 ∨ f = 18 → gI (sI g3 (20, 0, 0) 37 1) (21, f, 0) = gI g1 (21, f, 0) := fun f hf => by
    funext j
    rw [sI_I, if_neg (by simp), ch_I k3.1 (fun z => by
      rcases z with z | z
      · simp at z; omega
      · simp at z), sI_I, if_neg (by simp)]
  obtain ⟨g5, k', e5, hk, hr, Q5⟩ := ml (d + 9) _ _ (some (vI 1)) none hL4 Q4 e28 (fun k hk => by
    have E := E1 k hk
    unfold En at E ⊢
    rw [nf 17 (Or.inl rfl), nf 18 (Or.inr rfl)]
    exact E)
  have e5 : Ev (d + 20) 224 45 [some (vR (20, 0, 0)), some (vI 1), some (vI 0), none] [] (sI g3 (20, 0, 0) 37 1) = Ev (d + 20) 224 67 [some (vR (20, 0, 0)), some (vI 1), some (vI (iN k')), none] [] g5 := e5
  obtain ⟨M5, c5, p5, r5, o5⟩ := Q5
  have hL5 : Lay L xs g5 := Lay_M hL4 (ch_m inQ_M c5)
  have hL6 : Lay L xs (sI g5 (20, 0, 0) 37 0) := Lay_sI hL5 (by decide)
  have e67 : Ev (d + 20) 224 0 [some (vR (20, 0, 0)), none, none, none] [] g = Ev (d + 20) 224 72 [some (vR (20, 0, 0)), some (vI 1), some (vI (iN k')), none] [] (sI g5 (20, 0, 0) 37 0) := by
    have s1 : Ev (d + 20) 224 0 [some (vR (20, 0, 0)), none, none, none] [] g = Ev (d + 20) 224 45 [some (vR (20, 0, 0)), some (vI 1), some (vI 0), none] [] (sI g3 (20, 0, 0) 37 1) := by
      simp only [v224_0, v224_1, v224_4, v224_5, v224_6, v224_7, v224_10, v224_11, v224_14, v224_15, v224_16, v224_19, v224_22, v224_23, v224_24, v224_27, v224_28, v224_29, v224_30, v224_33, v224_34, v224_35, v224_38, v224_39, v224_40, v224_43, v224_44, n_14, n_8, inB_of, Nat.reduceLT, Prod.mk.injEq, true_and, rB, rBn, rBa, rBb, rBc, rBd, Evk_v, Evk_n, Nat.reduceAdd, Nat.reduceLeDiff, Nat.le_refl, Nat.zero_le, cz_0, cz_1, cI_1, cO_1, cz_2, cI_2, cO_2, cL_2, cD_2, cz_3, cI_3, cO_3, cL_3, cD_3, cz_4, cI_4, cO_4, cL_4, cD_4, cz_5, cI_5, cO_5, cL_5, cD_5, cz_6, cI_6, cO_6, cL_6, cD_6, cz_7, cI_7, cO_7, cL_7, cD_7, cz_8, cI_8, cO_8, cL_8, cD_8, List.mem_cons, or_true, true_or, and_self, sI_S, sL_S, sR_S, sD_S, gb_S, sI_R, sL_R, sD_R, gb_R, sI_L, sR_I, sR_L, sL_I, sD_I, sD_L, gb_I, gb_L, y_S20 hL, e222, y_S20 hL1, y_S20 hL2, y_F_tried hL2, e3, y_S20 hL3, i1, i10, if_true, if_false]
    rw [s1, e5]
    simp only [v224_67, v224_68, v224_69, n_14, n_8, inB_of, Nat.reduceLT, Prod.mk.injEq, true_and, rB, rBn, rBa, rBb, rBc, rBd, Evk_v, Evk_n, Nat.reduceAdd, Nat.reduceLeDiff, Nat.le_refl, Nat.zero_le, cz_0, cz_1, cI_1, cO_1, cz_2, cI_2, cO_2, cL_2, cD_2, cz_3, cI_3, cO_3, cL_3, cD_3, cz_4, cI_4, cO_4, cL_4, cD_4, cz_5, cI_5, cO_5, cL_5, cD_5, cz_6, cI_6, cO_6, cL_6, cD_6, cz_7, cI_7, cO_7, cL_7, cD_7, cz_8, cI_8, cO_8, cL_8, cD_8, List.mem_cons, or_true, true_or, and_self, sI_S, sL_S, sR_S, sD_S, gb_S, sI_R, sL_R, sD_R, gb_R, sI_L, sR_I, sR_L, sL_I, sD_I, sD_L, gb_I, gb_L, y_S20 hL5, i0]
  have o6 : ∀ m, m ≠ 0 → m ≠ 8 → m ≠ 21 → m ≠ 22 → m ≠ 26 → m ≠ 27 → m ≠ 28 → m ≠ 34 → m ≠ 36 → m ≠ 37 → gI (sI g5 (20, 0, 0) 37 0) (20, 0, 0) m = gI g (20, 0, 0) m := fun m a b c d f a1 b1 c1 d1 f1 => by
    rw [sI_I, if_neg fun z => f1 z.2, o5 m a b c d, sI_I, if_neg fun z => f1 z.2]
    exact o3 m f a1 b1 c1 d1
  have o6' : ∀ m, m = 26 ∨ m = 28 → gI (sI g5 (20, 0, 0) 37 0) (20, 0, 0) m = gI (sI g3 (20, 0, 0) 37 1) (20, 0, 0) m := fun m hm => by
    rw [sI_I, if_neg fun z => by have := z.2; omega]
    exact o5 m (by omega) (by omega) (by omega) (by omega)
  have e26 : gI (sI g5 (20, 0, 0) 37 0) (20, 0, 0) 26 = 0 := by
    rw [o6' 26 (Or.inl rfl), sI_I, if_neg (by simp), k3.2.1 26 (by decide) (by decide), sI_I, if_pos ⟨rfl, rfl⟩]
  have e28' : gI (sI g5 (20, 0, 0) 37 0) (20, 0, 0) 28 = iN t1.2.2.2.1 := (o6' 28 (Or.inr rfl)).trans e28
  have e22 : gI (sI g5 (20, 0, 0) 37 0) (20, 0, 0) 22 = oZ (xR (xsK X r)) := by
    rw [sI_I, if_neg (by simp), r5, ke_x okr]
  have k6 : Chg inU g (sI g5 (20, 0, 0) 37 0) := ch_t (ch_t (ch_t (ch_m inTx_U M1.1) (ch_sI (Or.inl rfl))) (ch_m inG_U k3.1)) (ch_t (ch_sI (Or.inl rfl)) (ch_t (ch_m inQ_U c5) (ch_sI (Or.inl rfl))))
  have r6 : Row (sI g5 (20, 0, 0) 37 0) (21, 21, 0) 0 P := Row_eq (by
    funext j
    rw [sI_I, if_neg (by simp), ch_I c5 (fun z => by
      rcases z with z | ⟨-, -, z⟩
      · simp at z
      · exact absurd z (by decide)), sI_I, if_neg (by simp)]) r3
  have hM6 : Mod (sI g5 (20, 0, 0) 37 0) P' := mo_x M5 (by decide)
  generalize eg : sI g5 (20, 0, 0) 37 0 = g6 at *
  have e37 : gI g6 (20, 0, 0) 37 = 0 := by rw [← eg, sI_I, if_pos ⟨rfl, rfl⟩]
  have n33 : ¬ isSc 33 := by unfold isSc; decide
  by_cases z : r = 0
  · have ek : k' = t1.2.2.2.1 := Nat.le_antisymm hk (Nat.le_of_not_lt fun q => hr.mp q z)
    subst ek
    have hle : iN t1.2.2.2.1 ≤ iN t1.2.2.2.1 := Int32.le_refl _
    have hL7 : Lay L xs (sI g6 (20, 0, 0) 0 0) := Lay_sI hL6 (by decide)
    have e33 : gI (sI g6 (20, 0, 0) 0 0) (20, 0, 0) 33 = iN (hC H) := by
      rw [sI_I, if_neg (by simp), o6 33 (by decide) (by decide) (by decide) (by decide) (by decide) (by decide) (by decide) (by decide) (by decide) (by decide)]; exact m3.1
    obtain ⟨g8, e8, c8, a8, b8, t8⟩ := m229 (d := d + 19) hL7 w4 e33
    have hL8 := Lay_M hL7 (ch_m inG_M c8)
    generalize ec : (if hC H < 6 then hC H else 5) = cc at *
    have hc5 : cc ≤ 5 := by rw [← ec]; split <;> omega
    obtain ⟨g9, e9, c9, t9⟩ := cpl (d := d + 20) hL8 hc5 b8 (w1 := some (vI 1)) (w2 := some (vI (iN t1.2.2.2.1)))
    have inA : ∀ a : A3, a = (21, 19, 0) → inM a := fun a z => by rw [z]; exact Or.inr rfl
    have hL9 := Lay_M hL8 (ch_m inA c9)
    have e33' : gI g9 (20, 0, 0) 33 = iN cc := by rw [ch_I c9 (by simp)]; exact b8
    have e28'' : gI (sI g9 (20, 0, 0) 33 (iN (cc + 1))) (20, 0, 0) 28 = iN t1.2.2.2.1 := by
      rw [sI_I, if_neg (by simp), ch_I c9 (by simp), a8 28 (by decide), sI_I, if_neg (by simp)]; exact e28'
    have hL10 : Lay L xs (sI g9 (20, 0, 0) 33 (iN (cc + 1))) := Lay_sI hL9 (by decide)
    have cA : Chg (inG 19) g6 (sI g9 (20, 0, 0) 33 (iN (cc + 1))) := ch_t (ch_sI (Or.inr rfl)) (ch_t c8 (ch_t (ch_m (fun a z => Or.inl z) c9) (ch_sI (Or.inr rfl))))
    have oA : ∀ m, m ≠ 0 → m ≠ 33 → gI (sI g9 (20, 0, 0) 33 (iN (cc + 1))) (20, 0, 0) m = gI g6 (20, 0, 0) m := fun m a b => by
      rw [sI_I, if_neg fun z => b z.2, ch_I c9 (by simp), a8 m b, sI_I, if_neg fun z => a z.2]
    have eP : psH P H = ((preH P H).1, if hC H < 6 then hO H else (hO H + 1) % 7, cc + 1) := by
      unfold psH kepH
      by_cases y : hC H < 6
      · rw [if_pos y] at ec
        rw [if_pos (show hC (preH P H) < 6 from y), if_pos y, ← ec]; rfl
      · rw [if_neg y] at ec
        rw [if_neg (show ¬ hC (preH P H) < 6 from y), if_neg y]
        show (_, _, hC H) = _
        rw [show hC H = cc + 1 by omega]; rfl
    have cT : Chg inM g (sI g9 (20, 0, 0) 33 (iN (cc + 1))) := ch_t (ch_m inU_M k6) (ch_m inG_M cA)
    have n19 : ¬ inU (21, 19, 0) := fun z => by
      rcases z with z | ⟨-, -, z, -⟩
      · simp at z
      · exact z rfl
    have n20 : ¬ inU (21, 20, 0) := fun z => by
      rcases z with z | ⟨-, -, -, z⟩
      · simp at z
      · exact z rfl
    have key : ∀ t, gI (sI g9 (20, 0, 0) 33 (iN (cc + 1))) (21, 19, 0) t = gI g9 (21, 19, 0) t := fun t => by rw [sI_I, if_neg (by simp)]
    have h7 : gI (sI g6 (20, 0, 0) 0 0) (21, 19, 0) = gI g (21, 19, 0) := by
      rw [← ch_I k6 n19]
      funext j
      rw [sI_I, if_neg (by simp)]
    have h21 : gI g8 (21, 21, 0) = gI g6 (21, 21, 0) := by
      rw [ch_I c8 (fun z => by rcases z with z | z <;> simp at z)]
      funext j
      rw [sI_I, if_neg (by simp)]
    have m2 := m.2.1
    have w5 := wi.2.2.2.2.1
    refine ⟨sI g9 (20, 0, 0) 33 (iN (cc + 1)), cT, fun _ => ⟨?_, ⟨?_, ⟨fun q => ?_, fun i hi => ?_⟩, ?_⟩, ?_⟩, fun q => absurd z q⟩
    · rw [e67]
      simp only [v224_72, v224_73, v224_74, v224_77, v224_80, v224_81, v224_82, v224_85, v224_86, v224_87, v224_90, v224_91, v224_92, v224_95, v224_96, v224_97, v224_98, v224_101, v224_102, v224_105, v224_106, n_14, n_8, inB_of, Nat.reduceLT, Prod.mk.injEq, true_and, rB, rBn, rBa, rBb, rBc, rBd, Evk_v, Evk_n, Nat.reduceAdd, Nat.reduceLeDiff, Nat.le_refl, Nat.zero_le, cz_0, cz_1, cI_1, cO_1, cz_2, cI_2, cO_2, cL_2, cD_2, cz_3, cI_3, cO_3, cL_3, cD_3, cz_4, cI_4, cO_4, cL_4, cD_4, cz_5, cI_5, cO_5, cL_5, cD_5, cz_6, cI_6, cO_6, cL_6, cD_6, cz_7, cI_7, cO_7, cL_7, cD_7, cz_8, cI_8, cO_8, cL_8, cD_8, List.mem_cons, or_true, true_or, and_self, sI_S, sL_S, sR_S, sD_S, gb_S, sI_R, sL_R, sD_R, gb_R, sI_L, sR_I, sR_L, sL_I, sD_I, sD_L, gb_I, gb_L, y_S20 hL6, e28', if_pos hle, y_S20 hL7, e8]
      refine Eq.trans e9 ?_
      simp only [v224_141, v224_142, v224_143, v224_146, v224_147, v224_148, v224_151, v224_152, v224_155, n_14, n_8, inB_of, Nat.reduceLT, Prod.mk.injEq, true_and, rB, rBn, rBa, rBb, rBc, rBd, Evk_v, Evk_n, Nat.reduceAdd, Nat.reduceLeDiff, Nat.le_refl, Nat.zero_le, cz_0, cz_1, cI_1, cO_1, cz_2, cI_2, cO_2, cL_2, cD_2, cz_3, cI_3, cO_3, cL_3, cD_3, cz_4, cI_4, cO_4, cL_4, cD_4, cz_5, cI_5, cO_5, cL_5, cD_5, cz_6, cI_6, cO_6, cL_6, cD_6, cz_7, cI_7, cO_7, cL_7, cD_7, cz_8, cI_8, cO_8, cL_8, cD_8, List.mem_cons, or_true, true_or, and_self, sI_S, sL_S, sR_S, sD_S, gb_S, sI_R, sL_R, sD_R, gb_R, sI_L, sR_I, sR_L, sL_I, sD_I, sD_L, gb_I, gb_L, y_S20 hL9, e33', iN_s, y_S20 hL10, e28'', c1_It, c1_Ot, bI_T, bI_F, i10, i01]
    · refine Arr_of hM6 (w_pn wx'.1) (w_tn wx'.1) (w_wn wx'.1) (fun f hf i hi => ?_) (fun s hs => ?_)
      · show gI (sI g9 (20, 0, 0) 33 (iN (cc + 1))) (21, f, 0) i = gI g6 (21, f, 0) i
        rw [ch_I cA (fun z => by rcases z with z | z
                                 · exact row_ne (Or.inl rfl) hf z
                                 · simp at z)]
      · exact oA _ (fun z => by have := (scF_ok s hs).2.2; unfold isSc at this; omega) (fun z => by have := (scF_ok s hs).2.2; unfold isSc at this; omega)
    · exact Row_eq ((ch_I cA (fun z => by rcases z with z | z <;> simp at z)).trans (ch_I k6 n20)) (m2.1 q)
    · rw [eP] at hi ⊢
      have hi : i < cc + 1 := hi
      show Row _ (21, 19, 0) (1569 * i) ((preH P H).1 (((if hC H < 6 then hO H else (hO H + 1) % 7) + i) % 7))
      by_cases y : i = cc
      · have : (preH P H).1 (((if hC H < 6 then hO H else (hO H + 1) % 7) + i) % 7) = P := by
          show (if _ = (hO H + hC H) % 7 then P else _) = P
          rw [if_pos]
          by_cases z : hC H < 6
          · rw [if_pos z] at ec ⊢; omega
          · rw [if_neg z] at ec ⊢; omega
        rw [this, y]
        refine Row_cp (o := 0) hW (fun k hk => ?_) r6
        rw [key, t9, if_pos (by omega), h21]
        congr 1; omega
      · have hne : ¬ ((if hC H < 6 then hO H else (hO H + 1) % 7) + i) % 7 = (hO H + hC H) % 7 := by
          by_cases z : hC H < 6
          · rw [if_pos z] at ec ⊢; omega
          · rw [if_neg z] at ec ⊢; omega
        have : (preH P H).1 (((if hC H < 6 then hO H else (hO H + 1) % 7) + i) % 7) = hR H (((if hC H < 6 then hO H else (hO H + 1) % 7) + i) % 7) := if_neg hne
        rw [this]
        by_cases z : hC H < 6
        · rw [if_pos z] at ec ⊢
          refine Row_at (w5 i (by omega)).1 (fun k hk => ?_) (m2.2 i (by omega))
          rw [key, t9, if_neg (by omega), t8, if_pos z, h7]
        · rw [if_neg z] at ec ⊢
          have e6 : ((hO H + 1) % 7 + i) % 7 = (hO H + (i + 1)) % 7 := by omega
          rw [e6]
          refine Row_at (o := 1569 * (i + 1)) (w5 (i + 1) (by omega)).1 (fun k hk => ?_) (m2.2 (i + 1) (by omega))
          rw [key, t9, if_neg (by omega), t8, if_neg z, if_pos (by omega), h7]
          congr 1; omega
    · have ex : xsK X r = X := if_pos (Or.inl z)
      rw [ex] at e22
      rw [eP]
      refine ⟨?_, ?_, ?_, ?_, ?_, ?_, fun q hq => absurd hq (Nat.not_lt_zero q)⟩
      · rw [sI_I, if_pos ⟨rfl, rfl⟩]
      · rw [oA 35 (by decide) (by decide), o6 35 (by decide) (by decide) (by decide) (by decide) (by decide) (by decide) (by decide) (by decide) (by decide) (by decide)]; exact m3.2.1
      · rw [oA 22 (by decide) (by decide)]; exact e22
      · rw [oA 29 (by decide) (by decide), o6 29 (by decide) (by decide) (by decide) (by decide) (by decide) (by decide) (by decide) (by decide) (by decide) (by decide)]; exact m3.2.2.2.1
      · rw [oA 26 (by decide) (by decide)]; exact e26
      · rw [oA 37 (by decide) (by decide)]; exact e37
    · rw [sI_I, if_neg (by simp), ch_I c9 (by simp), a8 0 (by decide), sI_I, if_pos ⟨rfl, rfl⟩]
  · have hlt : k' < t1.2.2.2.1 := hr.mpr z
    have hnl : ¬ iN t1.2.2.2.1 ≤ iN k' := nle hlt (by omega)
    obtain ⟨g7, e7, c7⟩ := paR (d := d + 18) hL6 (g := 21) (off := 0) (Or.inr (Or.inr rfl)) (by decide)
    have e7 : Ev (d + 19) 228 0 [some (vR (20, 0, 0)), some (vR (21, 21, 0)), some (vI 0), some (vI 0)] [] g6 = some (.inl none, g7) := e7
    have hL7 := Lay_R hL6 c7
    have o8 : ∀ m, m ≠ 0 → m ≠ 34 → m ≠ 36 → ¬ isSc m → gI (sI g7 (20, 0, 0) 0 2) (20, 0, 0) m = gI g6 (20, 0, 0) m := fun m a b c d => by
      rw [sI_I, if_neg fun z => a z.2]
      exact c7.2.1 m b c d
    have k8 : Chg inU g (sI g7 (20, 0, 0) 0 2) := ch_t k6 (ch_t (ch_m inR_U c7.1) (ch_sI (Or.inl rfl)))
    have ns : ∀ m, m = 33 ∨ m = 35 ∨ m = 22 ∨ m = 29 ∨ m = 26 ∨ m = 37 → ¬ isSc m := fun m hm => by unfold isSc; omega
    refine ⟨sI g7 (20, 0, 0) 0 2, ch_m inU_M k8, fun q => absurd q z, fun _ => ⟨?_, MI_pre (MI_U m k8 (mo_x (Mod_RR hW r6 c7) (by decide)) ?_ ?_ ?_ ?_ ?_ ?_ ?_ ?_ ?_) w4, ?_⟩⟩
    · rw [e67]
      simp only [v224_72, v224_73, v224_74, v224_77, v224_80, v224_81, v224_82, v224_85, v224_86, v224_87, v224_90, v224_91, v224_92, v224_95, n_14, n_8, inB_of, Nat.reduceLT, Prod.mk.injEq, true_and, rB, rBn, rBa, rBb, rBc, rBd, Evk_v, Evk_n, Nat.reduceAdd, Nat.reduceLeDiff, Nat.le_refl, Nat.zero_le, cz_0, cz_1, cI_1, cO_1, cz_2, cI_2, cO_2, cL_2, cD_2, cz_3, cI_3, cO_3, cL_3, cD_3, cz_4, cI_4, cO_4, cL_4, cD_4, cz_5, cI_5, cO_5, cL_5, cD_5, cz_6, cI_6, cO_6, cL_6, cD_6, cz_7, cI_7, cO_7, cL_7, cD_7, cz_8, cI_8, cO_8, cL_8, cD_8, List.mem_cons, or_true, true_or, and_self, sI_S, sL_S, sR_S, sD_S, gb_S, sI_R, sL_R, sD_R, gb_R, sI_L, sR_I, sR_L, sL_I, sD_I, sD_L, gb_I, gb_L, y_S20 hL6, e28', if_neg hnl, y_F_tried hL6, e7, y_S20 hL7, m141 hL7]
    · rw [o8 33 (by decide) (by decide) (by decide) (ns _ (by decide)), o6 33 (by decide) (by decide) (by decide) (by decide) (by decide) (by decide) (by decide) (by decide) (by decide) (by decide)]
    · rw [o8 35 (by decide) (by decide) (by decide) (ns _ (by decide)), o6 35 (by decide) (by decide) (by decide) (by decide) (by decide) (by decide) (by decide) (by decide) (by decide) (by decide)]
    · rw [o8 22 (by decide) (by decide) (by decide) (ns _ (by decide)), e22]
      unfold xsK
      split <;> rfl
    · rw [o8 29 (by decide) (by decide) (by decide) (ns _ (by decide)), o6 29 (by decide) (by decide) (by decide) (by decide) (by decide) (by decide) (by decide) (by decide) (by decide) (by decide)]
      rw [m3.2.2.2.1]
      unfold xsK
      split <;> rfl
    · rw [o8 26 (by decide) (by decide) (by decide) (ns _ (by decide))]; exact e26
    · rw [o8 37 (by decide) (by decide) (by decide) (ns _ (by decide))]; exact e37
    · unfold xsK; split <;> rfl
    · unfold xsK; split <;> rfl
    · unfold xsK; split <;> rfl
    · rw [sI_I, if_pos ⟨rfl, rfl⟩]
theorem c33 (hL : Lay L xs h) (c : CI h P H X) (mi : MI h P H X) (wi : WI P H X) : Agw L xs (d + 20) 274 224 [some (vR (1, 0, 0)), some (vR (30, 0, 0)), none] [some (vR (20, 0, 0)), none, none, none] h := by
  obtain ⟨s1, s2, s3⟩ := sgX_ok wi
  have c4 := c.2.2.2
  have c6 := c4.2.2.2.2.2.1
  have c7 : ∀ j, j < xL X → gI h (12, 0, 0) j = iN (sgX X j) := fun j hj => (c4.2.2.2.2.2.2 j hj).trans (s3 j hj)
  obtain ⟨ha, e14, kA, iA⟩ := m14 (d := d + 12) s1 s2 hL c6 c7
  generalize ex : gI h (13, 0, 0) = x at *
  have e14 : Ev (d + 18) 14 0 [some (vR (11, 0, 0)), none, none] [] h = some (.inl (some (vI (rdC (rn (sgX X) (xL X) (t00 x) 0)))), ha) := e14
  have hLa : Lay L xs ha := Lay_cr (Lay_sI hL (by decide)) kA
  have cA := CI_rd c kA
  have mA := MI_rd mi kA
  have wA := WI_rd wi
  have q60 : (rn (sgX X) (xL X) (t00 x) 0).1 ≤ 60 := by
    have := rn_le (s := sgX X) (xL X) (t00 x) 0
    omega
  have n3 : cnt ha = cnt h ∧ cu ha = cu h ∧ su ha = su h := ⟨kA.2.2.2.1, kA.2.2.2.2.1, kA.2.2.2.2.2.1⟩
  rcases rdC_c q60 with ⟨q1, t, q2, q3, q4⟩ | ⟨i, hi, q1⟩
  · have e1 : Ev (d + 19) 125 0 [some (vR (1, 0, 0)), none, none, none] [] h = Ev (d + 19) 125 29 [some (vR (1, 0, 0)), some (vI (-1)), none, none] [] ha := by
      rw [q1] at e14
      simp only [v125_0, v125_1, v125_4, v125_7, v125_8, v125_9, v125_10, n_14, n_8, inB_of, Nat.reduceLT, Prod.mk.injEq, true_and, rB, rBn, rBa, rBb, rBc, rBd, Evk_v, Evk_n, Nat.reduceAdd, Nat.reduceLeDiff, Nat.le_refl, Nat.zero_le, cz_0, cz_1, cI_1, cO_1, cz_2, cI_2, cO_2, cL_2, cD_2, cz_3, cI_3, cO_3, cL_3, cD_3, cz_4, cI_4, cO_4, cL_4, cD_4, cz_5, cI_5, cO_5, cL_5, cD_5, cz_6, cI_6, cO_6, cL_6, cD_6, cz_7, cI_7, cO_7, cL_7, cD_7, cz_8, cI_8, cO_8, cL_8, cD_8, List.mem_cons, or_true, true_or, and_self, sI_S, sL_S, sR_S, sD_S, gb_S, sI_R, sL_R, sD_R, gb_R, sI_L, sR_I, sR_L, sL_I, sD_I, sD_L, gb_I, gb_L, y_S1 hL, y_R1_3 hL, y_S11 hL, e14, if_true]
    obtain ⟨iH, iO⟩ := iA t q2
    have e20 : t.2.2.2.1 ≤ 20 := iO.1
    have hQ : rn (sgX X) (xL X) (t00 x) 0 = (xL X, some t) := by
      rcases m222 (d := d + 16) (x := x) s1 s2 hL mi.2.2.2.2.2.2.1 (fun j hj => (mi.2.2.2.2.2.2.2.2 j hj).trans (s3 j hj)) with ⟨g1, i', e', -, M1, I1, q5⟩ | ⟨g1, t1, e', -, M1, T1, T2, T3, T4, q5, E1⟩
      · rw [q1] at q5
        exact absurd q5.symm (oN_ne (by omega))
      · rw [q5] at q2 ⊢
        rw [show t1 = t from Option.some.inj q2]
    have hw : ∀ k, k < t.2.2.2.1 → t.2.2.2.2 (k * 5) = 100 ∨ t.2.2.2.2 (k * 5) = 106 ∨ t.2.2.2.2 (k * 5) = 108 ∨ t.2.2.2.2 (k * 5) = 110 ∨ t.2.2.2.2 (k * 5) = 112 := by
      rcases m222 (d := d + 16) (x := x) s1 s2 hL mi.2.2.2.2.2.2.1 (fun j hj => (mi.2.2.2.2.2.2.2.2 j hj).trans (s3 j hj)) with ⟨g1, i', e', -, M1, I1, q5⟩ | ⟨g1, t1, e', -, M1, T1, T2, T3, T4, q5, E1⟩
      · rw [q1] at q5
        exact absurd q5.symm (oN_ne (by omega))
      · rw [hQ] at q5
        have : t1 = t := (Option.some.inj (Prod.mk.inj q5).2).symm
        subst this
        subst T2
        exact fun k hk => (E1 k hk).1
    obtain ⟨r, P', okr, wx', cl, ml⟩ := rdl (L := L) (xs := xs) e20 hw t.2.2.2.1 0 P (oZ (xR X)) (by omega) wi.1
    obtain ⟨h1, k1, y0, y1⟩ := rdA (d := d) (w1 := some (vI (-1))) hLa cA wA e20 iH.2.1 iH.2.2.2 okr wx' cl
    have hL1 := Lay_C hLa k1
    have m1 : MI h1 P H X := MI_ch mA k1 (fun a ha z => by have z : a.1 ≤ 15 := z; omega)
    have n4 : cnt h1 = cnt h ∧ cu h1 = cu h ∧ su h1 = su h := ⟨k1.2.2.2.1.trans n3.1, k1.2.2.2.2.1.trans n3.2.1, k1.2.2.2.2.2.1.trans n3.2.2⟩
    by_cases z : r = 0
    · obtain ⟨z1, z2, z3⟩ := y0 z
      refine r_ok (v := iN t.2.2.2.1) hL1 z2 m1 z3 n4 (w274_v (y_S1 hL) (y_S30 hL1) (e1.trans z1)) (fun g hLg mg => ?_)
      obtain ⟨g', cg, a0, -⟩ := rdM1 (d := d) hLg mg wi hQ q3 q4 okr wx' ml
      obtain ⟨a1, a2, a3⟩ := a0 z
      exact ⟨g', a1, a2, cg, a3⟩
    · obtain ⟨z1, z2, z3⟩ := y1 z
      refine r_ex (k := 2) (b := 0) hL1 z2 m1 z3 n4 (by decide) (w274_1 (y_S1 hL) (e1.trans z1)) (fun g hLg mg => ?_)
      obtain ⟨g', cg, -, a0⟩ := rdM1 (d := d) hLg mg wi hQ q3 q4 okr wx' ml
      obtain ⟨a1, a2, a3⟩ := a0 z
      exact ⟨g', a1, a2, cg, a3⟩
  · have hne : ¬ iN i = -1 := oN_ne (by omega)
    have k1 : Chg inC ha (sI ha (1, 0, 0) 7 (iN i)) := ch_sI (Nat.le_of_ble_eq_true rfl)
    have hL1 := Lay_C hLa k1
    have e1 : Ev (d + 19) 125 0 [some (vR (1, 0, 0)), none, none, none] [] h = some (.inr 0, gb (sI ha (1, 0, 0) 7 (iN i))) := by
      rw [q1] at e14
      simp only [v125_0, v125_1, v125_4, v125_7, v125_8, v125_9, v125_10, v125_13, v125_14, v125_15, v125_18, v125_21, n_14, n_8, inB_of, Nat.reduceLT, Prod.mk.injEq, true_and, rB, rBn, rBa, rBb, rBc, rBd, Evk_v, Evk_n, Nat.reduceAdd, Nat.reduceLeDiff, Nat.le_refl, Nat.zero_le, cz_0, cz_1, cI_1, cO_1, cz_2, cI_2, cO_2, cL_2, cD_2, cz_3, cI_3, cO_3, cL_3, cD_3, cz_4, cI_4, cO_4, cL_4, cD_4, cz_5, cI_5, cO_5, cL_5, cD_5, cz_6, cI_6, cO_6, cL_6, cD_6, cz_7, cI_7, cO_7, cL_7, cD_7, cz_8, cI_8, cO_8, cL_8, cD_8, List.mem_cons, or_true, true_or, and_self, sI_S, sL_S, sR_S, sD_S, gb_S, sI_R, sL_R, sD_R, gb_R, sI_L, sR_I, sR_L, sL_I, sD_I, sD_L, gb_I, gb_L, y_S1 hL, y_R1_3 hL, y_S11 hL, e14, if_neg hne, y_S1 hLa]
    have m1 : MI (sI ha (1, 0, 0) 7 (iN i)) P H X := MI_ch mA k1 (fun a ha z => by have z : a.1 ≤ 15 := z; omega)
    refine r_ex (k := 1) (b := 0) hL1 (CI_E cA) m1 (WI_E wA (by omega)) n3 (by decide) (w274_0 (y_S1 hL) e1) (fun g hLg mg => ?_)
    obtain ⟨g', a1, a2, cg, a3⟩ := rdM0 (d := d) hLg mg wi hi q1
    exact ⟨g', a1, a2, cg, a3⟩
end R9
