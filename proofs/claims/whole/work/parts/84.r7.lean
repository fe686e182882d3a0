/-! READ: the whole text in the model; the entries done by both -/



/-- a text taken by the model -/
def FT (s : Nat → Nat) (l : Nat) (g0 : Hp) (E : Option (MO × Hp)) (Q : Nat × Option IS) : Prop := (∃ g' i' e', E = some (.inl (some (vI (0))), g') ∧ MT s l g0 g' i' e' ∧ i' ≤ l ∧ rdC Q = iN i') ∨ ∃ g' t' e', E = some (.inl (some (vI (1))), g') ∧ MT s l g0 g' l e' ∧ t'.1 = 0 ∧ t'.2.2.2.1 = e' ∧ 1 ≤ e' ∧ e' ≤ 20 ∧ Q = (l, some t') ∧ ∀ k, k < e' → En g' t'.2.2.2.2 k
section R7
variable {L : Nat} {xs : Nat → Int32} {h h' h1 g0 g g' : Hp} {P P' : PL} {H H' : HS} {X X' : XS} {t t' : IS} {d i e l : Nat} {s : Nat → Nat} {x x' : Nat → Int32} {R : Int32}
theorem En_k {k : Nat} (kp : Kep e g g' x x') (hk : k < e) (E : En g x k) : En g' x' k := by
  obtain ⟨k1, k2, k3⟩ := kp
  unfold En
  rw [k3 (k * 5) (by omega), k3 (k * 5 + 1) (by omega), k3 (k * 5 + 2) (by omega), k3 (k * 5 + 3) (by omega), k3 (k * 5 + 4) (by omega), k1 k hk, k2 (4 * k) (by omega), k2 (4 * k + 1) (by omega), k2 (4 * k + 2) (by omega), k2 (4 * k + 3) (by omega)]
  exact E
theorem m222l (hl : l ≤ 60) (hs : ∀ j, j < l → s j < 127) : ∀ r i e t g, l < i + r → Lay L xs g → MT s l g0 g i e → i ≤ l → 3 * e ≤ i → (i < l ∨ e = 0) → t.1 = 0 → t.2.2.2.1 = e → (∀ k, k < e → En g t.2.2.2.2 k) → FT s l g0 (Ev (d + 3) 222 10 [some (vR (20, 0, 0))] [] g) (RA s l t i) := by
  intro r
  induction r with
  | zero => intro i e t g hr hL m hi; omega
  | succ r hr =>
    intro i e t g hlr hL m hi h3 h0 ht ee hE
    rcases m221 (d := d) hL hl hs m hi h3 h0 ht ee with ⟨g', i', e1, M1, I1, q1⟩ | ⟨g', t', i', e1, M1, T1, T2, R1, I1, J1, K1, E1⟩
    · refine Or.inl ⟨g', i', e, ?_, M1, I1, q1⟩
      rw [v222_10]
      simp only [v222_11, v222_14, v222_17, v222_18, v222_19, v222_20, v222_23, v222_24, v222_27, v222_30, v222_31, n_14, n_8, inB_of, Nat.reduceLT, Prod.mk.injEq, true_and, rB, rBn, rBa, rBb, rBc, rBd, Evk_v, Evk_n, Nat.reduceAdd, Nat.reduceLeDiff, Nat.le_refl, Nat.zero_le, cz_0, cz_1, cI_1, cO_1, cz_2, cI_2, cO_2, cL_2, cD_2, cz_3, cI_3, cO_3, cL_3, cD_3, cz_4, cI_4, cO_4, cL_4, cD_4, cz_5, cI_5, cO_5, cL_5, cD_5, cz_6, cI_6, cO_6, cL_6, cD_6, cz_7, cI_7, cO_7, cL_7, cD_7, cz_8, cI_8, cO_8, cL_8, cD_8, List.mem_cons, or_true, true_or, and_self, sI_S, sL_S, sR_S, sD_S, gb_S, sI_R, sL_R, sD_R, gb_R, sI_L, sR_I, sR_L, sL_I, sD_I, sD_L, gb_I, gb_L, y_S20 hL, e1, if_true, if_false, not_true_eq_false, not_false_eq_true, Bool.false_eq_true, Int32.or_zero, ne_eq, Bool.and_eq_true, decide_eq_true_eq, decide_true, decide_false, and_true, true_and, and_false, false_and, Bool.and_true, Bool.true_and, Bool.and_false, Bool.false_and]
    · have L1 : Lay L xs g' := Lay_M hL (ch_m inTx_M ⟨M1.1.1.trans m.1.1.symm, M1.1.2.1.trans m.1.2.1.symm, M1.1.2.2.1.trans m.1.2.2.1.symm, M1.1.2.2.2.1.trans m.1.2.2.2.1.symm, M1.1.2.2.2.2.1.trans m.1.2.2.2.2.1.symm, M1.1.2.2.2.2.2.1.trans m.1.2.2.2.2.2.1.symm, fun a ha => (M1.1.2.2.2.2.2.2.1 a ha).trans (m.1.2.2.2.2.2.2.1 a ha).symm, fun a ha => (M1.1.2.2.2.2.2.2.2 a ha).trans (m.1.2.2.2.2.2.2.2 a ha).symm⟩)
      have hE' : ∀ k, k < e + 1 → En g' t'.2.2.2.2 k := fun k hk => by
        by_cases y : k = e
        · rw [y]; exact E1
        · exact En_k K1 (by omega) (hE k (by omega))
      by_cases y : i' < l
      · have hlt : iN i' < iN l := ilt y (by omega)
        have := hr i' (e + 1) t' g' (by omega) L1 M1 I1 (by omega) (Or.inl y) T1 T2 hE'
        rw [R1]
        have e2 : Ev (d + 3) 222 10 [some (vR (20, 0, 0))] [] g = Ev (d + 3) 222 10 [some (vR (20, 0, 0))] [] g' := by
          rw [v222_10]
          simp only [v222_11, v222_14, v222_17, v222_18, v222_19, v222_20, v222_23, v222_24, v222_27, v222_30, v222_31, n_14, n_8, inB_of, Nat.reduceLT, Prod.mk.injEq, true_and, rB, rBn, rBa, rBb, rBc, rBd, Evk_v, Evk_n, Nat.reduceAdd, Nat.reduceLeDiff, Nat.le_refl, Nat.zero_le, cz_0, cz_1, cI_1, cO_1, cz_2, cI_2, cO_2, cL_2, cD_2, cz_3, cI_3, cO_3, cL_3, cD_3, cz_4, cI_4, cO_4, cL_4, cD_4, cz_5, cI_5, cO_5, cL_5, cD_5, cz_6, cI_6, cO_6, cL_6, cD_6, cz_7, cI_7, cO_7, cL_7, cD_7, cz_8, cI_8, cO_8, cL_8, cD_8, List.mem_cons, or_true, true_or, and_self, sI_S, sL_S, sR_S, sD_S, gb_S, sI_R, sL_R, sD_R, gb_R, sI_L, sR_I, sR_L, sL_I, sD_I, sD_L, gb_I, gb_L, y_S20 hL, e1, i10, y_S20 L1, M1.2.2.1, M1.2.2.2.2.1, if_pos hlt, if_true, if_false, not_true_eq_false, not_false_eq_true, Bool.false_eq_true, Int32.or_zero, ne_eq, Bool.and_eq_true, decide_eq_true_eq, decide_true, decide_false, and_true, true_and, and_false, false_and, Bool.and_true, Bool.true_and, Bool.and_false, Bool.false_and]
        rw [e2]
        exact this
      · have el : i' = l := by omega
        subst el
        have hlt : ¬ iN i' < iN i' := Int32.lt_irrefl
        refine Or.inr ⟨g', t', e + 1, ?_, M1, T1, T2, by omega, by omega, ?_, hE'⟩
        · rw [v222_10]
          simp only [v222_11, v222_14, v222_17, v222_18, v222_19, v222_20, v222_23, v222_24, v222_27, v222_30, v222_31, n_14, n_8, inB_of, Nat.reduceLT, Prod.mk.injEq, true_and, rB, rBn, rBa, rBb, rBc, rBd, Evk_v, Evk_n, Nat.reduceAdd, Nat.reduceLeDiff, Nat.le_refl, Nat.zero_le, cz_0, cz_1, cI_1, cO_1, cz_2, cI_2, cO_2, cL_2, cD_2, cz_3, cI_3, cO_3, cL_3, cD_3, cz_4, cI_4, cO_4, cL_4, cD_4, cz_5, cI_5, cO_5, cL_5, cD_5, cz_6, cI_6, cO_6, cL_6, cD_6, cz_7, cI_7, cO_7, cL_7, cD_7, cz_8, cI_8, cO_8, cL_8, cD_8, List.mem_cons, or_true, true_or, and_self, sI_S, sL_S, sR_S, sD_S, gb_S, sI_R, sL_R, sD_R, gb_R, sI_L, sR_I, sR_L, sL_I, sD_I, sD_L, gb_I, gb_L, y_S20 hL, e1, i10, y_S20 L1, M1.2.2.1, M1.2.2.2.2.1, if_neg hlt, if_true, if_false, not_true_eq_false, not_false_eq_true, Bool.false_eq_true, Int32.or_zero, ne_eq, Bool.and_eq_true, decide_eq_true_eq, decide_true, decide_false, and_true, true_and, and_false, false_and, Bool.and_true, Bool.true_and, Bool.and_false, Bool.false_and]
        · rw [R1, RA_l]
theorem m222 (hl : l ≤ 60) (hs : ∀ j, j < l → s j < 127) (hL : Lay L xs g) (e26 : gI g (20, 0, 0) 26 = iN l) (e16 : ∀ j, j < l → gI g (21, 16, 0) j = iN (s j)) : FT s l g (Ev (d + 3) 222 0 [some (vR (20, 0, 0))] [] g) (rn s l (t00 x) 0) := by
  have m0 : MT s l g (sI (sI g (20, 0, 0) 27 0) (20, 0, 0) 28 0) 0 0 := by
    refine ⟨ch_t (ch_sI (Or.inl rfl)) (ch_sI (Or.inl rfl)), fun m a b => ?_, ?_, ?_, ?_, fun j hj => ?_⟩
    · rw [sI_I, if_neg fun z => b z.2, sI_I, if_neg fun z => a z.2]
    · rw [sI_I, if_neg (by simp), sI_I, if_pos ⟨rfl, rfl⟩]; rfl
    · rw [sI_I, if_pos ⟨rfl, rfl⟩]; rfl
    · rw [sI_I, if_neg (by simp), sI_I, if_neg (by simp)]; exact e26
    · rw [sI_I, if_neg (by simp), sI_I, if_neg (by simp)]; exact e16 j hj
  have hL1 : Lay L xs (sI g (20, 0, 0) 27 0) := Lay_sI hL (by decide)
  have := m222l (d := d) hl hs (l + 1) 0 0 (t00 x) _ (by omega) (Lay_sI hL1 (by decide)) m0 (Nat.zero_le _) (Nat.le_refl _) (Or.inr rfl) rfl rfl (fun k hk => absurd hk (Nat.not_lt_zero k))
  have e0 : Ev (d + 3) 222 0 [some (vR (20, 0, 0))] [] g = Ev (d + 3) 222 10 [some (vR (20, 0, 0))] [] (sI (sI g (20, 0, 0) 27 0) (20, 0, 0) 28 0) := by
    simp only [v222_0, v222_1, v222_2, v222_5, v222_6, v222_7, n_14, n_8, inB_of, Nat.reduceLT, Prod.mk.injEq, true_and, rB, rBn, rBa, rBb, rBc, rBd, Evk_v, Evk_n, Nat.reduceAdd, Nat.reduceLeDiff, Nat.le_refl, Nat.zero_le, cz_0, cz_1, cI_1, cO_1, cz_2, cI_2, cO_2, cL_2, cD_2, cz_3, cI_3, cO_3, cL_3, cD_3, cz_4, cI_4, cO_4, cL_4, cD_4, cz_5, cI_5, cO_5, cL_5, cD_5, cz_6, cI_6, cO_6, cL_6, cD_6, cz_7, cI_7, cO_7, cL_7, cD_7, cz_8, cI_8, cO_8, cL_8, cD_8, List.mem_cons, or_true, true_or, and_self, sI_S, sL_S, sR_S, sD_S, gb_S, sI_R, sL_R, sD_R, gb_R, sI_L, sR_I, sR_L, sL_I, sD_I, sD_L, gb_I, gb_L, y_S20 hL, y_S20 hL1]
  rw [e0]
  exact this
theorem rn_le {s : Nat → Nat} : ∀ r t i, (rn s r t i).1 ≤ i + r := by
  intro r
  induction r with
  | zero => intro t i; exact Nat.le_refl _
  | succ r hr =>
    intro t i
    cases e : acc t (s i) with
    | none => rw [rn_n e]; exact Nat.le_add_right _ _
    | some t' => rw [rn_s e]; have := hr t' (i + 1); omega
theorem rdC_c {q : Nat × Option IS} (hq : q.1 ≤ 60) : (rdC q = -1 ∧ ∃ t, q.2 = some t ∧ t.1 = 0 ∧ 0 < t.2.2.2.1) ∨ ∃ i, i ≤ 60 ∧ rdC q = iN i := by
  obtain ⟨i, o⟩ := q
  cases o with
  | none => exact Or.inr ⟨i, hq, rfl⟩
  | some t =>
    by_cases z : t.1 = 0 ∧ 0 < t.2.2.2.1
    · exact Or.inl ⟨if_pos z, t, rfl, z.1, z.2⟩
    · exact Or.inr ⟨i, hq, if_neg z⟩
theorem inQ_M : ∀ a, inQ a → inM a := fun a z => by
  rcases z with z | z
  · rw [z]; exact Or.inl rfl
  · exact Or.inr z.1
/-! the class's cells -/
theorem m15 (hL : Lay L xs h) {k c : Nat} (hk : k < 20) (hc : c < 5) : Ev d 15 0 [some (vR (11, 0, 0)), some (vI (iN k)), some (vI (iN c)), none] [] h = some (.inl (some (vI (gI h (13, 0, 0) (k * 5 + c)))), h) := by
  have q : iN k * 5 + iN c = iN (k * 5 + c) := by
    show iN k * iN 5 + iN c = _
    rw [iN_mul, iN_add]
  have h0 : ¬ iN (k * 5 + c) < 0 := nlt0 (by omega)
  have h1 : ¬ Int32.ofNat 100 ≤ iN (k * 5 + c) := nle (n := 100) (by omega) (by decide)
  have hin : inB (iN (k * 5 + c)) 100 := inB_of (by omega) (by decide)
  have hto : (iN (k * 5 + c)).toNatClampNeg = k * 5 + c := n_i (by omega)
  simp only [v15_0, v15_1, v15_2, v15_3, v15_4, v15_5, v15_6, v15_7, v15_10, v15_11, v15_12, v15_15, v15_16, v15_19, v15_20, v15_23, v15_24, v15_25, v15_28, v15_29, n_14, n_8, inB_of, Nat.reduceLT, Prod.mk.injEq, true_and, rB, rBn, rBa, rBb, rBc, rBd, Evk_v, Evk_n, Nat.reduceAdd, Nat.reduceLeDiff, Nat.le_refl, Nat.zero_le, cz_0, cz_1, cI_1, cO_1, cz_2, cI_2, cO_2, cL_2, cD_2, cz_3, cI_3, cO_3, cL_3, cD_3, cz_4, cI_4, cO_4, cL_4, cD_4, cz_5, cI_5, cO_5, cL_5, cD_5, cz_6, cI_6, cO_6, cL_6, cD_6, cz_7, cI_7, cO_7, cL_7, cD_7, cz_8, cI_8, cO_8, cL_8, cD_8, List.mem_cons, or_true, true_or, and_self, sI_S, sL_S, sR_S, sD_S, gb_S, sI_R, sL_R, sD_R, gb_R, sI_L, sR_I, sR_L, sL_I, sD_I, sD_L, gb_I, gb_L, y_S11 hL, y_S13 hL, y_R11_1 hL, q, if_neg h0, if_neg h1, hin, hto]
theorem m7p (hL : Lay L xs h) (c : CI h P H X) (ho : hO H < 7) (hc : hC H ≤ 6) (hw : wn P ≤ 8) : ∃ h', Ev (d + 3) 7 0 [some (vR (9, 0, 0)), some (vR (2, 0, 0))] [] h = some (.inl none, h') ∧ CI h' P (preH P H) X ∧ Chg (inP ((hO H + hC H) % 7 + 2)) h h' := by
  obtain ⟨c1, c2, c3, c4⟩ := c
  have hi : (hO H + hC H) % 7 < 7 := Nat.mod_lt _ (by decide)
  obtain ⟨h', e, k, q⟩ := m32 (d := d) hL (p := (hO H + hC H) % 7 + 2) (q := 0) (by omega) (by decide) (by omega) (c3 _ hi) c1 hw
  refine ⟨h', ?_, ⟨Cls_ch c1 k (fun a h1 h2 h3 z => by have := z.1; omega), Cls_ch c2 k (fun a h1 h2 h3 z => by have := z.1; omega), fun m hm => ?_, CX_ch c4 k (fun z => by have := z.2.2; simp at this) (fun z => by have := z.2.1; simp at this) (fun z => by have := z.2.2; simp at this) (fun z => by have := z.2.2; simp at this)⟩, k⟩
  · have hi14 : (hO H + hC H) % 7 < 14 := by omega
    simp only [v7_0, v7_1, v7_4, v7_5, v7_8, v7_9, v7_10, v7_13, n_14, n_8, inB_of, Nat.reduceLT, Prod.mk.injEq, true_and, rB, rBn, rBa, rBb, rBc, rBd, Evk_v, Evk_n, Nat.reduceAdd, Nat.reduceLeDiff, Nat.le_refl, Nat.zero_le, cz_0, cz_1, cI_1, cO_1, cz_2, cI_2, cO_2, cL_2, cD_2, cz_3, cI_3, cO_3, cL_3, cD_3, cz_4, cI_4, cO_4, cL_4, cD_4, cz_5, cI_5, cO_5, cL_5, cD_5, cz_6, cI_6, cO_6, cL_6, cD_6, cz_7, cI_7, cO_7, cL_7, cD_7, cz_8, cI_8, cO_8, cL_8, cD_8, List.mem_cons, or_true, true_or, and_self, sI_S, sL_S, sR_S, sD_S, gb_S, sI_R, sL_R, sD_R, gb_R, sI_L, sR_I, sR_L, sL_I, sD_I, sD_L, gb_I, gb_L, y_S9 hL, y_R9 hL, y_S10 hL, y_R10 hL, y_S2 hL, m11 hL c4.1 c4.2.1 (by omega) (by omega), hi, hi14, show (hO H + hC H) % 7 + 2 < 9 by omega, e]
  · show Cls h' (m + 2) (if m = (hO H + hC H) % 7 then P else hR H m)
    by_cases y : m = (hO H + hC H) % 7
    · rw [if_pos y, y]; exact q
    · rw [if_neg y]
      exact Cls_ch (c3 m hm) k (fun a h1 h2 h3 z => by have := z.1; omega)
theorem cmd_x (wx : WFx P) {w a b c e : Int32} (hw : w = 100 ∨ w = 106 ∨ w = 108 ∨ w = 110 ∨ w = 112) : Cmd L xs P w a b c e := by
  rcases hw with rfl | rfl | rfl | rfl | rfl
  · exact cmd_d wx
  · exact cmd_j wx
  · exact cmd_l wx
  · exact cmd_n wx
  · exact cmd_p wx
/-- the entries from k on -/
theorem rdl (he : e ≤ 20) (hw : ∀ k, k < e → x (k * 5) = 100 ∨ x (k * 5) = 106 ∨ x (k * 5) = 108 ∨ x (k * 5) = 110 ∨ x (k * 5) = 112) : ∀ n k P R, n + k = e → WFx P → ∃ r P', okR r ∧ WFx P' ∧
    (∀ d h w1, Lay L xs h → Cls h 0 P → gI h (11, 0, 0) 3 = iN e → (∀ j, j < 100 → gI h (13, 0, 0) j = x j) → ∃ h' q', Ev (d + 11) 125 44 [some (vR (1, 0, 0)), w1, some (vI 0), some (vI (iN k))] [] h = Ev (d + 11) 125 118 [some (vR (1, 0, 0)), w1, some (vI r), q'] [] h' ∧ Chg (inP 0) h h' ∧ Cls h' 0 P') ∧
    (∀ d g0 g w1 w3, Lay L xs g → QM g0 g P R → gI g (20, 0, 0) 28 = iN e → (∀ k, k < e → En g x k) → ∃ g' k', Ev (d + 11) 224 45 [some (vR (20, 0, 0)), w1, some (vI (iN k)), w3] [] g = Ev (d + 11) 224 67 [some (vR (20, 0, 0)), w1, some (vI (iN k')), w3] [] g' ∧ k' ≤ e ∧ (k' < e ↔ r ≠ 0) ∧ QM g0 g' P' (keR r R)) := by
  intro n
  induction n with
  | zero =>
    intro k P R hk wx
    have hk : k = e := by omega
    subst hk
    have hle : iN k ≤ iN k := Int32.le_refl _
    refine ⟨0, P, ok_0, wx, fun d h w1 hL hC e3 e13 => ⟨h, some (vI (iN k)), ?_, ch_r, hC⟩, fun d g0 g w1 w3 hL hQ e28 hE => ⟨g, k, ?_, Nat.le_refl _, ⟨fun z => absurd z (Nat.lt_irrefl _), fun z => absurd rfl z⟩, by rw [ke_0]; exact hQ⟩⟩
    · rw [v125_44]
      simp only [v125_45, v125_46, v125_49, v125_52, n_14, n_8, inB_of, Nat.reduceLT, Prod.mk.injEq, true_and, rB, rBn, rBa, rBb, rBc, rBd, Evk_v, Evk_n, Nat.reduceAdd, Nat.reduceLeDiff, Nat.le_refl, Nat.zero_le, cz_0, cz_1, cI_1, cO_1, cz_2, cI_2, cO_2, cL_2, cD_2, cz_3, cI_3, cO_3, cL_3, cD_3, cz_4, cI_4, cO_4, cL_4, cD_4, cz_5, cI_5, cO_5, cL_5, cD_5, cz_6, cI_6, cO_6, cL_6, cD_6, cz_7, cI_7, cO_7, cL_7, cD_7, cz_8, cI_8, cO_8, cL_8, cD_8, List.mem_cons, or_true, true_or, and_self, sI_S, sL_S, sR_S, sD_S, gb_S, sI_R, sL_R, sD_R, gb_R, sI_L, sR_I, sR_L, sL_I, sD_I, sD_L, gb_I, gb_L, y_S1 hL, y_R1_3 hL, y_S11 hL, e3, if_pos hle]
    · rw [v224_45]
      simp only [v224_46, v224_47, v224_50, n_14, n_8, inB_of, Nat.reduceLT, Prod.mk.injEq, true_and, rB, rBn, rBa, rBb, rBc, rBd, Evk_v, Evk_n, Nat.reduceAdd, Nat.reduceLeDiff, Nat.le_refl, Nat.zero_le, cz_0, cz_1, cI_1, cO_1, cz_2, cI_2, cO_2, cL_2, cD_2, cz_3, cI_3, cO_3, cL_3, cD_3, cz_4, cI_4, cO_4, cL_4, cD_4, cz_5, cI_5, cO_5, cL_5, cD_5, cz_6, cI_6, cO_6, cL_6, cD_6, cz_7, cI_7, cO_7, cL_7, cD_7, cz_8, cI_8, cO_8, cL_8, cD_8, List.mem_cons, or_true, true_or, and_self, sI_S, sL_S, sR_S, sD_S, gb_S, sI_R, sL_R, sD_R, gb_R, sI_L, sR_I, sR_L, sL_I, sD_I, sD_L, gb_I, gb_L, y_S20 hL, e28, if_pos hle]
  | succ n ih =>
    intro k P R hk wx
    have hke : k < e := by omega
    have hk20 : k < 20 := by omega
    have hnl : ¬ iN e ≤ iN k := nle hke (by omega)
    obtain ⟨r, P1, o1, wx1, r1, cC, cM⟩ := cmd_x (L := L) (xs := xs) wx (a := x (k * 5 + 1)) (b := x (k * 5 + 2)) (c := x (k * 5 + 3)) (e := x (k * 5 + 4)) (hw k hke)
    have i00 : ¬ ((0 : Int32) ≠ 0) := fun z => z rfl
    have cls : ∀ d h w1, Lay L xs h → Cls h 0 P → gI h (11, 0, 0) 3 = iN e → (∀ j, j < 100 → gI h (13, 0, 0) j = x j) → ∃ h', Ev (d + 11) 125 44 [some (vR (1, 0, 0)), w1, some (vI 0), some (vI (iN k))] [] h = Ev (d + 11) 125 44 [some (vR (1, 0, 0)), w1, some (vI r), some (vI (iN (k + 1)))] [] h' ∧ Chg (inP 0) h h' ∧ Cls h' 0 P1 := fun d h w1 hL hC e3 e13 => by
      obtain ⟨h', e67, kp, c'⟩ := cC d h hL hC
      have y0 : Ev (d + 10) 15 0 [some (vR (11, 0, 0)), some (vI (iN k)), some (vI 0), none] [] h = some (.inl (some (vI (x (k * 5)))), h) := (m15 (c := 0) hL hk20 (by decide)).trans (by rw [e13 _ (by omega)]; rfl)
      have y1 : Ev (d + 10) 15 0 [some (vR (11, 0, 0)), some (vI (iN k)), some (vI 1), none] [] h = some (.inl (some (vI (x (k * 5 + 1)))), h) := (m15 (c := 1) hL hk20 (by decide)).trans (by rw [e13 _ (by omega)])
      have y2 : Ev (d + 10) 15 0 [some (vR (11, 0, 0)), some (vI (iN k)), some (vI 2), none] [] h = some (.inl (some (vI (x (k * 5 + 2)))), h) := (m15 (c := 2) hL hk20 (by decide)).trans (by rw [e13 _ (by omega)])
      have y3 : Ev (d + 10) 15 0 [some (vR (11, 0, 0)), some (vI (iN k)), some (vI 3), none] [] h = some (.inl (some (vI (x (k * 5 + 3)))), h) := (m15 (c := 3) hL hk20 (by decide)).trans (by rw [e13 _ (by omega)])
      have y4 : Ev (d + 10) 15 0 [some (vR (11, 0, 0)), some (vI (iN k)), some (vI 4), none] [] h = some (.inl (some (vI (x (k * 5 + 4)))), h) := (m15 (c := 4) hL hk20 (by decide)).trans (by rw [e13 _ (by omega)])
      refine ⟨h', ?_, kp, c'⟩
      rw [v125_44]
      simp only [v125_45, v125_46, v125_49, v125_52, v125_55, v125_56, v125_59, v125_60, v125_63, v125_64, v125_67, v125_68, v125_69, v125_72, v125_73, v125_76, v125_77, v125_78, v125_81, v125_82, v125_85, v125_86, v125_87, v125_90, v125_91, v125_94, v125_95, v125_96, v125_99, v125_100, v125_103, v125_104, v125_105, v125_108, v125_111, v125_112, v125_115, n_14, n_8, inB_of, Nat.reduceLT, Prod.mk.injEq, true_and, rB, rBn, rBa, rBb, rBc, rBd, Evk_v, Evk_n, Nat.reduceAdd, Nat.reduceLeDiff, Nat.le_refl, Nat.zero_le, cz_0, cz_1, cI_1, cO_1, cz_2, cI_2, cO_2, cL_2, cD_2, cz_3, cI_3, cO_3, cL_3, cD_3, cz_4, cI_4, cO_4, cL_4, cD_4, cz_5, cI_5, cO_5, cL_5, cD_5, cz_6, cI_6, cO_6, cL_6, cD_6, cz_7, cI_7, cO_7, cL_7, cD_7, cz_8, cI_8, cO_8, cL_8, cD_8, List.mem_cons, or_true, true_or, and_self, sI_S, sL_S, sR_S, sD_S, gb_S, sI_R, sL_R, sD_R, gb_R, sI_L, sR_I, sR_L, sL_I, sD_I, sD_L, gb_I, gb_L, y_S1 hL, y_R1_3 hL, y_R1_0 hL, y_S11 hL, y_S2 hL (show 0 < 9 by decide), e3, if_neg hnl, y0, y1, y2, y3, y4, e67, iN_s, ne_eq, not_true_eq_false, if_false, if_true]
    have mod : ∀ d g0 g w1 w3, Lay L xs g → QM g0 g P R → gI g (20, 0, 0) 28 = iN e → (∀ k, k < e → En g x k) → ∃ (g' : Hp) (t : Int32), Ev (d + 11) 224 45 [some (vR (20, 0, 0)), w1, some (vI (iN k)), w3] [] g = (if t = 0 then Ev (d + 11) 224 45 [some (vR (20, 0, 0)), w1, some (vI (iN (k + 1))), w3] [] g' else Ev (d + 11) 224 67 [some (vR (20, 0, 0)), w1, some (vI (iN k)), w3] [] g') ∧ (t = 0 ↔ r = 0) ∧ QM g0 g' P1 (keR r R) := fun d g0 g w1 w3 hL hQ e28 hE => by
      obtain ⟨a0, a1, a2, a3, a4, a5⟩ := hE k hke
      obtain ⟨g', t, e223, ht, hQ'⟩ := cM d g0 g R k hL hQ hk20 a1 a2 a3 a4 a5
      refine ⟨g', t, ?_, ht, hQ'⟩
      rw [v224_45]
      by_cases z : t = 0
      · rw [if_pos z]
        simp only [v224_46, v224_47, v224_50, v224_53, v224_54, v224_55, v224_58, v224_61, v224_64, n_14, n_8, inB_of, Nat.reduceLT, Prod.mk.injEq, true_and, rB, rBn, rBa, rBb, rBc, rBd, Evk_v, Evk_n, Nat.reduceAdd, Nat.reduceLeDiff, Nat.le_refl, Nat.zero_le, cz_0, cz_1, cI_1, cO_1, cz_2, cI_2, cO_2, cL_2, cD_2, cz_3, cI_3, cO_3, cL_3, cD_3, cz_4, cI_4, cO_4, cL_4, cD_4, cz_5, cI_5, cO_5, cL_5, cD_5, cz_6, cI_6, cO_6, cL_6, cD_6, cz_7, cI_7, cO_7, cL_7, cD_7, cz_8, cI_8, cO_8, cL_8, cD_8, List.mem_cons, or_true, true_or, and_self, sI_S, sL_S, sR_S, sD_S, gb_S, sI_R, sL_R, sD_R, gb_R, sI_L, sR_I, sR_L, sL_I, sD_I, sD_L, gb_I, gb_L, y_S20 hL, e28, if_neg hnl, e223, if_pos z, iN_s]
      · rw [if_neg z]
        simp only [v224_46, v224_47, v224_50, v224_53, v224_54, v224_55, v224_58, v224_61, v224_64, n_14, n_8, inB_of, Nat.reduceLT, Prod.mk.injEq, true_and, rB, rBn, rBa, rBb, rBc, rBd, Evk_v, Evk_n, Nat.reduceAdd, Nat.reduceLeDiff, Nat.le_refl, Nat.zero_le, cz_0, cz_1, cI_1, cO_1, cz_2, cI_2, cO_2, cL_2, cD_2, cz_3, cI_3, cO_3, cL_3, cD_3, cz_4, cI_4, cO_4, cL_4, cD_4, cz_5, cI_5, cO_5, cL_5, cD_5, cz_6, cI_6, cO_6, cL_6, cD_6, cz_7, cI_7, cO_7, cL_7, cD_7, cz_8, cI_8, cO_8, cL_8, cD_8, List.mem_cons, or_true, true_or, and_self, sI_S, sL_S, sR_S, sD_S, gb_S, sI_R, sL_R, sD_R, gb_R, sI_L, sR_I, sR_L, sL_I, sD_I, sD_L, gb_I, gb_L, y_S20 hL, e28, if_neg hnl, e223, if_neg z]
    by_cases z : r = 0
    · subst z
      obtain ⟨r', P', o', wx', c2, m2⟩ := ih (k + 1) P1 R (by omega) wx1
      refine ⟨r', P', o', wx', fun d h w1 hL hC e3 e13 => ?_, fun d g0 g w1 w3 hL hQ e28 hE => ?_⟩
      · obtain ⟨h1, e1, k1, q1⟩ := cls d h w1 hL hC e3 e13
        have n11 : gI h1 (11, 0, 0) = gI h (11, 0, 0) := ch_I k1 (fun z => by have := z.2.2; simp at this)
        have n13 : gI h1 (13, 0, 0) = gI h (13, 0, 0) := ch_I k1 (fun z => by have := z.2.2; simp at this)
        obtain ⟨h2, q', e2, k2, q2⟩ := c2 d h1 w1 (Lay_P hL k1) q1 (by rw [n11]; exact e3) (fun j hj => by rw [n13]; exact e13 j hj)
        exact ⟨h2, q', e1.trans e2, ch_t k1 k2, q2⟩
      · obtain ⟨g1, t, e1, ht, q1⟩ := mod d g0 g w1 w3 hL hQ e28 hE
        rw [if_pos (ht.mpr rfl)] at e1
        rw [ke_0] at q1
        have cg : Chg inQ g0 g1 := q1.2.1
        have n17 : ∀ f, f = 17 ∨ f = 18 → gI g1 (21, f, 0) = gI g (21, f, 0) := fun f hf => by
          have no : ¬ inQ (21, f, 0) := fun z => by
            rcases z with z | ⟨-, z1, z2⟩
            · simp at z
            · have z2 : f ≤ 14 := z2
              omega
          rw [ch_I q1.2.1 no, ch_I hQ.2.1 no]
        have L1 : Lay L xs g1 := by
          have : Chg inM g g1 := ⟨q1.2.1.1.trans hQ.2.1.1.symm, q1.2.1.2.1.trans hQ.2.1.2.1.symm, q1.2.1.2.2.1.trans hQ.2.1.2.2.1.symm, q1.2.1.2.2.2.1.trans hQ.2.1.2.2.2.1.symm, q1.2.1.2.2.2.2.1.trans hQ.2.1.2.2.2.2.1.symm, q1.2.1.2.2.2.2.2.1.trans hQ.2.1.2.2.2.2.2.1.symm, fun a ha => (ch_I q1.2.1 (fun z => ha (inQ_M a z))).trans (ch_I hQ.2.1 (fun z => ha (inQ_M a z))).symm, fun a ha => (ch_L q1.2.1 (fun z => ha (inQ_M a z))).trans (ch_L hQ.2.1 (fun z => ha (inQ_M a z))).symm⟩
          exact Lay_M hL this
        have e28' : gI g1 (20, 0, 0) 28 = iN e := (q1.2.2.2.2 28 (by decide) (by decide) (by decide) (by decide)).trans ((hQ.2.2.2.2 28 (by decide) (by decide) (by decide) (by decide)).symm.trans e28)
        obtain ⟨g2, k', e2, k2, k3, q2⟩ := m2 d g0 g1 w1 w3 L1 q1 e28' (fun k hk => by
          have E := hE k hk
          unfold En at E ⊢
          rw [n17 17 (Or.inl rfl), n17 18 (Or.inr rfl)]
          exact E)
        exact ⟨g2, k', e1.trans e2, k2, k3, q2⟩
    · refine ⟨r, P1, o1, wx1, fun d h w1 hL hC e3 e13 => ?_, fun d g0 g w1 w3 hL hQ e28 hE => ?_⟩
      · obtain ⟨h1, e1, k1, q1⟩ := cls d h w1 hL hC e3 e13
        have hL1 := Lay_P hL k1
        have n11 : gI h1 (11, 0, 0) = gI h (11, 0, 0) := ch_I k1 (fun z => by have := z.2.2; simp at this)
        have e3' : gI h1 (11, 0, 0) 3 = iN e := by rw [n11]; exact e3
        refine ⟨h1, some (vI (iN (k + 1))), e1.trans ?_, k1, q1⟩
        rw [v125_44]
        by_cases y : k + 1 < e
        · have hn2 : ¬ iN e ≤ iN (k + 1) := nle y (by omega)
          simp only [v125_45, v125_46, v125_49, v125_52, v125_55, v125_56, n_14, n_8, inB_of, Nat.reduceLT, Prod.mk.injEq, true_and, rB, rBn, rBa, rBb, rBc, rBd, Evk_v, Evk_n, Nat.reduceAdd, Nat.reduceLeDiff, Nat.le_refl, Nat.zero_le, cz_0, cz_1, cI_1, cO_1, cz_2, cI_2, cO_2, cL_2, cD_2, cz_3, cI_3, cO_3, cL_3, cD_3, cz_4, cI_4, cO_4, cL_4, cD_4, cz_5, cI_5, cO_5, cL_5, cD_5, cz_6, cI_6, cO_6, cL_6, cD_6, cz_7, cI_7, cO_7, cL_7, cD_7, cz_8, cI_8, cO_8, cL_8, cD_8, List.mem_cons, or_true, true_or, and_self, sI_S, sL_S, sR_S, sD_S, gb_S, sI_R, sL_R, sD_R, gb_R, sI_L, sR_I, sR_L, sL_I, sD_I, sD_L, gb_I, gb_L, y_S1 hL1, y_R1_3 hL1, y_S11 hL1, e3', if_neg hn2, if_neg z]
        · have hn2 : iN e ≤ iN (k + 1) := ile (by omega) (by omega)
          simp only [v125_45, v125_46, v125_49, v125_52, v125_55, v125_56, n_14, n_8, inB_of, Nat.reduceLT, Prod.mk.injEq, true_and, rB, rBn, rBa, rBb, rBc, rBd, Evk_v, Evk_n, Nat.reduceAdd, Nat.reduceLeDiff, Nat.le_refl, Nat.zero_le, cz_0, cz_1, cI_1, cO_1, cz_2, cI_2, cO_2, cL_2, cD_2, cz_3, cI_3, cO_3, cL_3, cD_3, cz_4, cI_4, cO_4, cL_4, cD_4, cz_5, cI_5, cO_5, cL_5, cD_5, cz_6, cI_6, cO_6, cL_6, cD_6, cz_7, cI_7, cO_7, cL_7, cD_7, cz_8, cI_8, cO_8, cL_8, cD_8, List.mem_cons, or_true, true_or, and_self, sI_S, sL_S, sR_S, sD_S, gb_S, sI_R, sL_R, sD_R, gb_R, sI_L, sR_I, sR_L, sL_I, sD_I, sD_L, gb_I, gb_L, y_S1 hL1, y_R1_3 hL1, y_S11 hL1, e3', if_pos hn2]
      · obtain ⟨g1, t, e1, ht, q1⟩ := mod d g0 g w1 w3 hL hQ e28 hE
        rw [if_neg fun q => z (ht.mp q)] at e1
        exact ⟨g1, k, e1, by omega, ⟨fun _ => z, fun _ => hke⟩, q1⟩
end R7
